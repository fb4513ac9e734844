set_option maxHeartbeats 40000000 in
set_option maxRecDepth 100000 in
theorem r_readTurned (l : Launch) (G : va_G) (cA : zCA) (h0 : Nat) (m_status : Int32) (m_thrown : Int32) (m_above : Int64) (m_under : Int64) (a_traySort : Nat) (a_trayMany : Nat) (a_numbers : Nat) (a_tape : Nat) (m_taped : Int32) (m_textEnd : Int32) (m_faultKind : Int32) (m_faultAt : Int32) (m_bad : Int32) (m_badAt : Int32) (m_token : Int32) (m_at : Int32) (m_behind : Int32) (m_number : Int32) (m_letters : Int32) (m_word : Int64) (a_c : Nat) (a_words : Nat) (m_markMany : Int32) (a_there : Nat) (a_tried : Nat) (a_best : Nat) (a_found : Nat) (m_thereMany : Int32) (m_foundMany : Int32) (m_orderHow : Int32) (m_orderRing : Int32) (m_orderMany : Int32) (m_hasBest : Int32) (m_bestTop : Int64) (m_bestBy : Int64) (a_weights : Nat) (a_shared : Nat) (m_random : Int32) (m_truePlace : Int32) (m_trueWay : Int32) (m_seconds : Int32) (m_done : Int32) (m_feelings : Int32) (m_tries : Int32) (m_leftOver : Int32) (m_playDoor : Int32) (m_playRing : Int32) (m_isOpen : Int32) (m_isOver : Int32) (m_wasTried : Int32) (m_hasPlayed : Int32) (a_feltNow : Nat) (a_last : Nat) (a_kept : Nat) (m_hasSeconds : Int32) (m_hasTurned : Int32) (m_hasRound : Int32) (a_hasFeels : Nat) (a_isOn : Nat) (m_firstAct : Int32) (m_meanTop : Int64) (m_meanBy : Int64) (a_order : Nat) (m_rowMany : Int32) (m_newSteps : Int32) (g_tape : Nat → Int32) (g_c : Nat → Int32) (g_isOn : Nat → Int32) (hr_m_textEnd : 0 ≤ m_textEnd.toInt ∧ m_textEnd.toInt ≤ 900) (hr_m_at : 0 ≤ m_at.toInt ∧ m_at.toInt ≤ 900) (hr_m_behind : 0 ≤ m_behind.toInt ∧ m_behind.toInt ≤ 900) (hr_m_bad : 0 ≤ m_bad.toInt ∧ m_bad.toInt ≤ 0) (hr_m_token : 0 ≤ m_token.toInt ∧ m_token.toInt ≤ 4) (hr_m_number : 0 ≤ m_number.toInt ∧ m_number.toInt ≤ 9999) (hr_m_letters : 0 ≤ m_letters.toInt ∧ m_letters.toInt ≤ 900) (hz_m_hasTurned : m_hasTurned = 0 ∨ m_hasTurned = 1) (hC_g_c : zC g_c) (hC_g_isOn : zRg 10 0 1 g_isOn) (hNW0 : zNw g_c g_isOn) (hNF0 : zNf g_c) : zCv l yX12_readTurned cX12_readTurned 1 none ({ frames := 3, cells := 0, slots := 0, locals := 65 }) G cA [.ref h0] [(h0, .inr (12, [.int m_status, .int m_thrown, .long m_above, .long m_under, .ref a_traySort, .ref a_trayMany, .ref a_numbers, .ref a_tape, .int m_taped, .int m_textEnd, .int m_faultKind, .int m_faultAt, .int m_bad, .int m_badAt, .int m_token, .int m_at, .int m_behind, .int m_number, .int m_letters, .long m_word, .ref a_c, .ref a_words, .int m_markMany, .ref a_there, .ref a_tried, .ref a_best, .ref a_found, .int m_thereMany, .int m_foundMany, .int m_orderHow, .int m_orderRing, .int m_orderMany, .int m_hasBest, .long m_bestTop, .long m_bestBy, .ref a_weights, .ref a_shared, .int m_random, .int m_truePlace, .int m_trueWay, .int m_seconds, .int m_done, .int m_feelings, .int m_tries, .int m_leftOver, .int m_playDoor, .int m_playRing, .int m_isOpen, .int m_isOver, .int m_wasTried, .int m_hasPlayed, .ref a_feltNow, .ref a_last, .ref a_kept, .int m_hasSeconds, .int m_hasTurned, .int m_hasRound, .ref a_hasFeels, .ref a_isOn, .int m_firstAct, .long m_meanTop, .long m_meanBy, .ref a_order, .int m_rowMany, .int m_newSteps])), (a_tape, .inl (cA.1 2, 900, .inl g_tape)), (a_c, .inl (cA.1 0, 1825, .inl g_c)), (a_isOn, .inl (cA.1 3, 10, .inl g_isOn))] (S := Int32 × Int32 × Int32 × Int32 × Int32 × Int32 × Int32 × Int64 × Int32 × (Nat → Int32)) (fun (u : Int32 × Int32 × Int32 × Int32 × Int32 × Int32 × Int32 × Int64 × Int32 × (Nat → Int32)) => (u.1 = (F_r_readTurned m_textEnd m_bad m_badAt m_token m_at m_behind m_number m_letters m_word m_hasTurned g_tape g_c).1) ∧ (u.2.1 = (F_r_readTurned m_textEnd m_bad m_badAt m_token m_at m_behind m_number m_letters m_word m_hasTurned g_tape g_c).2.1) ∧ (u.2.2.1 = (F_r_readTurned m_textEnd m_bad m_badAt m_token m_at m_behind m_number m_letters m_word m_hasTurned g_tape g_c).2.2.1) ∧ (u.2.2.2.1 = (F_r_readTurned m_textEnd m_bad m_badAt m_token m_at m_behind m_number m_letters m_word m_hasTurned g_tape g_c).2.2.2.1) ∧ (u.2.2.2.2.1 = (F_r_readTurned m_textEnd m_bad m_badAt m_token m_at m_behind m_number m_letters m_word m_hasTurned g_tape g_c).2.2.2.2.1) ∧ (u.2.2.2.2.2.1 = (F_r_readTurned m_textEnd m_bad m_badAt m_token m_at m_behind m_number m_letters m_word m_hasTurned g_tape g_c).2.2.2.2.2.1) ∧ (u.2.2.2.2.2.2.1 = (F_r_readTurned m_textEnd m_bad m_badAt m_token m_at m_behind m_number m_letters m_word m_hasTurned g_tape g_c).2.2.2.2.2.2.1) ∧ (u.2.2.2.2.2.2.2.1 = (F_r_readTurned m_textEnd m_bad m_badAt m_token m_at m_behind m_number m_letters m_word m_hasTurned g_tape g_c).2.2.2.2.2.2.2.1) ∧ (u.2.2.2.2.2.2.2.2.1 = (F_r_readTurned m_textEnd m_bad m_badAt m_token m_at m_behind m_number m_letters m_word m_hasTurned g_tape g_c).2.2.2.2.2.2.2.2.1) ∧ (u.2.2.2.2.2.2.2.2.2 = (F_r_readTurned m_textEnd m_bad m_badAt m_token m_at m_behind m_number m_letters m_word m_hasTurned g_tape g_c).2.2.2.2.2.2.2.2.2) ∧ ((0 ≤ u.1.toInt ∧ u.1.toInt ≤ 9) ∧ (0 ≤ u.2.2.1.toInt ∧ u.2.2.1.toInt ≤ 4) ∧ (0 ≤ u.2.2.2.1.toInt ∧ u.2.2.2.1.toInt ≤ 900) ∧ (0 ≤ u.2.2.2.2.1.toInt ∧ u.2.2.2.2.1.toInt ≤ 900) ∧ (0 ≤ u.2.2.2.2.2.1.toInt ∧ u.2.2.2.2.2.1.toInt ≤ 9999) ∧ (0 ≤ u.2.2.2.2.2.2.1.toInt ∧ u.2.2.2.2.2.2.1.toInt ≤ 900) ∧ (u.2.2.2.2.2.2.2.2.1 = 0 ∨ u.2.2.2.2.2.2.2.2.1 = 1) ∧ (zC u.2.2.2.2.2.2.2.2.2) ∧ (zNw u.2.2.2.2.2.2.2.2.2 g_isOn) ∧ (m_behind.toInt ≤ u.2.2.2.2.1.toInt) ∧ (0 < m_bad.toInt → 0 < u.1.toInt) ∧ (u.1.toInt ≤ 0 → u.2.2.1.toInt = 0 ∨ m_behind.toInt < u.2.2.2.2.1.toInt) ∧ (u.1.toInt ≤ 0 → u.2.2.1.toInt = 3 → u.2.2.2.2.2.1.toInt = 59 → zNf u.2.2.2.2.2.2.2.2.2))) (fun (u : Int32 × Int32 × Int32 × Int32 × Int32 × Int32 × Int32 × Int64 × Int32 × (Nat → Int32)) => [(h0, .inr (12, [.int m_status, .int m_thrown, .long m_above, .long m_under, .ref a_traySort, .ref a_trayMany, .ref a_numbers, .ref a_tape, .int m_taped, .int m_textEnd, .int m_faultKind, .int m_faultAt, .int u.1, .int u.2.1, .int u.2.2.1, .int u.2.2.2.1, .int u.2.2.2.2.1, .int u.2.2.2.2.2.1, .int u.2.2.2.2.2.2.1, .long u.2.2.2.2.2.2.2.1, .ref a_c, .ref a_words, .int m_markMany, .ref a_there, .ref a_tried, .ref a_best, .ref a_found, .int m_thereMany, .int m_foundMany, .int m_orderHow, .int m_orderRing, .int m_orderMany, .int m_hasBest, .long m_bestTop, .long m_bestBy, .ref a_weights, .ref a_shared, .int m_random, .int m_truePlace, .int m_trueWay, .int m_seconds, .int m_done, .int m_feelings, .int m_tries, .int m_leftOver, .int m_playDoor, .int m_playRing, .int m_isOpen, .int m_isOver, .int m_wasTried, .int m_hasPlayed, .ref a_feltNow, .ref a_last, .ref a_kept, .int m_hasSeconds, .int u.2.2.2.2.2.2.2.2.1, .int m_hasRound, .ref a_hasFeels, .ref a_isOn, .int m_firstAct, .long m_meanTop, .long m_meanBy, .ref a_order, .int m_rowMany, .int m_newSteps])), (a_tape, .inl (cA.1 2, 900, .inl g_tape)), (a_c, .inl (cA.1 0, 1825, .inl u.2.2.2.2.2.2.2.2.2)), (a_isOn, .inl (cA.1 3, 10, .inl g_isOn))]) 0 0 := by
  have hk_0 : (0 : Int32).toInt = 0 := by decide +kernel
  have hk_5 : (5 : Int32).toInt = 5 := by decide +kernel
  have hk_16 : (16 : Int32).toInt = 16 := by decide +kernel
  refine z_start2v (own := RX12) (by decide) (Nat.le_of_ble_eq_true rfl) rfl ?_
  intro p e s m args below meth c A ls Q hx hb hml hts hown hK hE hT hP hD hS hA hl hret
  have hl : lv_has ls 1 [(0, .ref h0)] := hl
  refine lv_aload_n hx hb dX12_readTurned_0 rfl (lv_at hl 0 rfl) ?_
  refine va_get (D := G) (ci := 12) (v := .int m_hasTurned) (C := RX12) (T := TX12) (N := 65) hx hb hts inT12 hown hK hP 0 rfl rfl 55 (by decide) (hts _ tw_1938) (fun _ h9 => h9) rfl dX12_readTurned_1 ?_
  refine lv_if_eq (tgt := 16) hx hb dX12_readTurned_4 (by decide) (fun c_1 => ?_) (fun c_1 => ?_)
  · have b_2 := z_feqT c_1
    refine lv_aload_n hx hb dX12_readTurned_16 rfl (lv_at hl 0 rfl) ?_
    refine va_get (D := G) (ci := 12) (v := .int m_bad) (C := RX12) (T := TX12) (N := 65) hx hb hts inT12 hown hK hP 0 rfl rfl 12 (by decide) (hts _ tw_1897) (fun _ h9 => h9) rfl dX12_readTurned_17 ?_
    refine lv_if_le (tgt := 24) hx hb dX12_readTurned_20 (by decide) (fun c_3 => ?_) (fun h9 => (z_no (by have h8 := z_fgtF h9; omega)))
    have b_4 := z_fleT c_3
    refine lv_aload_n hx hb dX12_readTurned_24 rfl (lv_at hl 0 rfl) ?_
    refine lv_iconst (v := 1) hx hb dX12_readTurned_25 (by decide) ?_
    refine va_put (D := G) (ci := 12) (v := .int 1) (ty := .boolean) (C := RX12) (T := TX12) (N := 65) hx hb hts inT12 tyX12 tyX12_ok nmX12 hown hK hP hD hS 0 rfl rfl 55 (by decide) (hts _ tw_1938) (fun _ h9 => h9) rfl (tyX12_ok 55 (by decide)) rfl rfl (Nat.le_of_ble_eq_true rfl) dX12_readTurned_26 (fun H locs hP hD hS => ?_)
    refine lv_aload_n hx hb dX12_readTurned_29 rfl (lv_at hl 0 rfl) ?_
    refine z_callVv (As := []) (rest := []) (wr := [(a_c, .inl (cA.1 0, 1825, .inl g_c)), (a_isOn, .inl (cA.1 3, 10, .inl g_isOn))]) ⟨hx, hb, hml, hown, hts⟩ hK hE hT hP hD hS hA (r_next2 l G cA h0 m_status m_thrown m_above m_under a_traySort a_trayMany a_numbers a_tape m_taped m_textEnd m_faultKind m_faultAt m_bad m_badAt m_token m_at m_behind m_number m_letters m_word a_c a_words m_markMany a_there a_tried a_best a_found m_thereMany m_foundMany m_orderHow m_orderRing m_orderMany m_hasBest m_bestTop m_bestBy a_weights a_shared m_random m_truePlace m_trueWay m_seconds m_done m_feelings m_tries m_leftOver m_playDoor m_playRing m_isOpen m_isOver m_wasTried m_hasPlayed a_feltNow a_last a_kept m_hasSeconds 1 m_hasRound a_hasFeels a_isOn m_firstAct m_meanTop m_meanBy a_order m_rowMany m_newSteps g_tape hr_m_textEnd hr_m_at hr_m_behind hr_m_token hr_m_number hr_m_letters) lk_RX12_184 ⟨rfl, rfl⟩ ⟨Nat.le_of_ble_eq_true rfl, Nat.le_of_ble_eq_true rfl⟩ 12 rfl rfl rfl [0, 1] [2, 3] rfl rfl (by decide) rfl hl.1 rfl (lv_room (Nat.le_of_ble_eq_true rfl)) dX12_readTurned_30 ⟨Nat.le_of_ble_eq_true rfl, Nat.le_of_ble_eq_true rfl⟩ (fun u_12 H locs hw hP hD hS => ?_)
    obtain ⟨n_5, n_6, n_7, n_8, n_9, n_10⟩ := u_12
    try dsimp only at hw
    obtain ⟨he_n_5, he_n_6, he_n_7, he_n_8, he_n_9, he_n_10, hw⟩ := hw
    obtain ⟨hr_n_5, hr_n_6, hr_n_7, hr_n_8, hr_n_9, hf_14, hf_15⟩ := hw
    refine lv_aload_n hx hb dX12_readTurned_33 rfl (lv_at hl 0 rfl) ?_
    refine va_get (D := G) (ci := 12) (v := .ref a_c) (C := RX12) (T := TX12) (N := 65) hx hb hts inT12 hown hK hP 2 rfl rfl 20 (by decide) (hts _ tw_1905) (fun _ h9 => h9) rfl dX12_readTurned_34 ?_
    refine lv_sipush (v := 1469) hx hb dX12_readTurned_37 (by decide) ?_
    refine lv_aload_n hx hb dX12_readTurned_40 rfl (lv_at hl 0 rfl) ?_
    refine lv_iconst (v := 0) hx hb dX12_readTurned_41 (by decide) ?_
    refine lv_bipush (v := 16) hx hb dX12_readTurned_42 (by decide) ?_
    refine z_callVi (As := [.int 0, .int 16]) (rest := [.int 1469, .ref a_c]) (wr := [(a_c, .inl (cA.1 0, 1825, .inl g_c)), (a_isOn, .inl (cA.1 3, 10, .inl g_isOn))]) ⟨hx, hb, hml, hown, hts⟩ hK hE hT hP hD hS hA (r_count l G cA h0 m_status m_thrown m_above m_under a_traySort a_trayMany a_numbers a_tape m_taped m_textEnd m_faultKind m_faultAt m_bad m_badAt n_5 n_6 n_7 n_8 n_9 n_10 a_c a_words m_markMany a_there a_tried a_best a_found m_thereMany m_foundMany m_orderHow m_orderRing m_orderMany m_hasBest m_bestTop m_bestBy a_weights a_shared m_random m_truePlace m_trueWay m_seconds m_done m_feelings m_tries m_leftOver m_playDoor m_playRing m_isOpen m_isOver m_wasTried m_hasPlayed a_feltNow a_last a_kept m_hasSeconds 1 m_hasRound a_hasFeels a_isOn m_firstAct m_meanTop m_meanBy a_order m_rowMany m_newSteps g_tape 0 16 (by decide +kernel) (by decide +kernel) hr_m_textEnd hr_n_6 hr_n_7 (z_rgw hr_m_bad (by decide) (by decide)) hr_n_5 hr_n_8 hr_n_9) lk_RX12_214 ⟨rfl, rfl⟩ ⟨Nat.le_of_ble_eq_true rfl, Nat.le_of_ble_eq_true rfl⟩ 12 rfl rfl rfl [2, 3] [0, 1] rfl rfl (by decide) rfl hl.1 rfl (lv_room (Nat.le_of_ble_eq_true rfl)) dX12_readTurned_44 ⟨Nat.le_of_ble_eq_true rfl, Nat.le_of_ble_eq_true rfl⟩ (fun r_24 u_25 H locs hw hP hD hS => ?_)
    obtain ⟨n_16, n_17, n_18, n_19, n_20, n_21, n_22, n_23⟩ := u_25
    try dsimp only at hw
    obtain ⟨he_r_24, he_n_16, he_n_17, he_n_18, he_n_19, he_n_20, he_n_21, he_n_22, he_n_23, hw⟩ := hw
    obtain ⟨hr_r_24, hr_n_16, hr_n_18, hr_n_19, hr_n_20, hr_n_21, hr_n_22, hf_27, hf_28, hf_29, hf_30, hf_31, hf_32⟩ := hw
    refine z_iast hx hb hK hP hD hS 0 0 rfl rfl (z_in (i := 1469) (n := 1825) (by decide +kernel) (by decide +kernel)) dX12_readTurned_47 (fun g_33 hg_g_33 H locs hP hD hS => ?_)
    have hC_g_33 := z_ctUk hC_g_c hg_g_33 (k := 1469) (lo := (-2147483648)) (hi := 2147483647) (by decide +kernel) (by decide +kernel) (by decide +kernel) (z_full _)
    have hs_34 : zNw g_33 g_isOn := (zNw_fr hNW0 hg_g_33 (a := 1469) (b := 1469) (by decide +kernel) (by decide +kernel) (by decide +kernel))
    have hs_35 : zNf g_33 := (zNf_fr hNF0 hg_g_33 (a := 1469) (b := 1469) (by decide +kernel) (by decide +kernel) (by decide +kernel))
    have hpost : (0 ≤ n_16.toInt ∧ n_16.toInt ≤ 9) ∧ (0 ≤ n_18.toInt ∧ n_18.toInt ≤ 4) ∧ (0 ≤ n_19.toInt ∧ n_19.toInt ≤ 900) ∧ (0 ≤ n_20.toInt ∧ n_20.toInt ≤ 900) ∧ (0 ≤ n_21.toInt ∧ n_21.toInt ≤ 9999) ∧ (0 ≤ n_22.toInt ∧ n_22.toInt ≤ 900) ∧ ((1 : Int32) = 0 ∨ (1 : Int32) = 1) ∧ (zC g_33) ∧ (zNw g_33 g_isOn) ∧ (m_behind.toInt ≤ n_20.toInt) ∧ (0 < m_bad.toInt → 0 < n_16.toInt) ∧ (n_16.toInt ≤ 0 → n_18.toInt = 0 ∨ m_behind.toInt < n_20.toInt) ∧ (n_16.toInt ≤ 0 → n_18.toInt = 3 → n_21.toInt = 59 → zNf g_33) := ⟨hr_n_16, hr_n_18, hr_n_19, hr_n_20, hr_n_21, hr_n_22, (Or.inr rfl), hC_g_33, hs_34, (by omega), (by omega), (by omega), (fun _ _ _ => hs_35)⟩
    have hX_36 : F_r_readTurned m_textEnd m_bad m_badAt m_token m_at m_behind m_number m_letters m_word m_hasTurned g_tape g_c = ((n_16, n_17, n_18, n_19, n_20, n_21, n_22, n_23, (1 : Int32), g_33) : Int32 × Int32 × Int32 × Int32 × Int32 × Int32 × Int32 × Int64 × Int32 × (Nat → Int32)) := by
      clear hret hP hD hS hl hA hT hE hK hts hown hml
      subst he_n_5
      subst he_n_6
      subst he_n_7
      subst he_n_8
      subst he_n_9
      subst he_n_10
      subst he_r_24
      subst he_n_16
      subst he_n_17
      subst he_n_18
      subst he_n_19
      subst he_n_20
      subst he_n_21
      subst he_n_22
      subst he_n_23
      subst hg_g_33
      refine (F_r_readTurned_s ..).trans ?_
      refine (if_pos c_1).trans ?_
      exact rfl
    exact hret _ _ _ _ _ (n_16, n_17, n_18, n_19, n_20, n_21, n_22, n_23, 1, g_33) [2, 3, 0, 1] hP hD hS rfl (by decide) dX12_readTurned_48 ⟨(congrArg (fun z9 => z9.1) hX_36).symm, (congrArg (fun z9 => z9.2.1) hX_36).symm, (congrArg (fun z9 => z9.2.2.1) hX_36).symm, (congrArg (fun z9 => z9.2.2.2.1) hX_36).symm, (congrArg (fun z9 => z9.2.2.2.2.1) hX_36).symm, (congrArg (fun z9 => z9.2.2.2.2.2.1) hX_36).symm, (congrArg (fun z9 => z9.2.2.2.2.2.2.1) hX_36).symm, (congrArg (fun z9 => z9.2.2.2.2.2.2.2.1) hX_36).symm, (congrArg (fun z9 => z9.2.2.2.2.2.2.2.2.1) hX_36).symm, (congrArg (fun z9 => z9.2.2.2.2.2.2.2.2.2) hX_36).symm, hpost⟩
  · have b_37 := z_fneF c_1
    refine lv_aload_n hx hb dX12_readTurned_7 rfl (lv_at hl 0 rfl) ?_
    refine lv_iconst (v := 5) hx hb dX12_readTurned_8 (by decide) ?_
    refine lv_aload_n hx hb dX12_readTurned_9 rfl (lv_at hl 0 rfl) ?_
    refine va_get (D := G) (ci := 12) (v := .int m_at) (C := RX12) (T := TX12) (N := 65) hx hb hts inT12 hown hK hP 0 rfl rfl 15 (by decide) (hts _ tw_1900) (fun _ h9 => h9) rfl dX12_readTurned_10 ?_
    refine z_callVv (As := [.int 5, .int m_at]) (rest := []) (wr := [(a_tape, .inl (cA.1 2, 900, .inl g_tape)), (a_c, .inl (cA.1 0, 1825, .inl g_c)), (a_isOn, .inl (cA.1 3, 10, .inl g_isOn))]) ⟨hx, hb, hml, hown, hts⟩ hK hE hT hP hD hS hA (r_fail l G cA h0 m_status m_thrown m_above m_under a_traySort a_trayMany a_numbers a_tape m_taped m_textEnd m_faultKind m_faultAt m_bad m_badAt m_token m_at m_behind m_number m_letters m_word a_c a_words m_markMany a_there a_tried a_best a_found m_thereMany m_foundMany m_orderHow m_orderRing m_orderMany m_hasBest m_bestTop m_bestBy a_weights a_shared m_random m_truePlace m_trueWay m_seconds m_done m_feelings m_tries m_leftOver m_playDoor m_playRing m_isOpen m_isOver m_wasTried m_hasPlayed a_feltNow a_last a_kept m_hasSeconds m_hasTurned m_hasRound a_hasFeels a_isOn m_firstAct m_meanTop m_meanBy a_order m_rowMany m_newSteps 5 m_at (by decide +kernel) (z_rgw hr_m_bad (by decide) (by decide))) lk_RX12_180 ⟨rfl, rfl⟩ ⟨Nat.le_of_ble_eq_true rfl, Nat.le_of_ble_eq_true rfl⟩ 12 rfl rfl rfl [0] [1, 2, 3] rfl rfl (by decide) rfl hl.1 rfl (lv_room (Nat.le_of_ble_eq_true rfl)) dX12_readTurned_13 ⟨Nat.le_of_ble_eq_true rfl, Nat.le_of_ble_eq_true rfl⟩ (fun u_41 H locs hw hP hD hS => ?_)
    obtain ⟨n_38, n_39⟩ := u_41
    try dsimp only at hw
    obtain ⟨he_n_38, he_n_39, hw⟩ := hw
    obtain ⟨hr_n_38, hf_43⟩ := hw
    refine lv_aload_n hx hb dX12_readTurned_16 rfl (lv_at hl 0 rfl) ?_
    refine va_get (D := G) (ci := 12) (v := .int n_38) (C := RX12) (T := TX12) (N := 65) hx hb hts inT12 hown hK hP 3 rfl rfl 12 (by decide) (hts _ tw_1897) (fun _ h9 => h9) rfl dX12_readTurned_17 ?_
    refine lv_if_le (tgt := 24) hx hb dX12_readTurned_20 (by decide) (fun h9 => (z_no (by have h8 := z_fleT h9; omega))) (fun c_44 => ?_)
    have b_45 := z_fgtF c_44
    have hpost : (0 ≤ n_38.toInt ∧ n_38.toInt ≤ 9) ∧ (0 ≤ m_token.toInt ∧ m_token.toInt ≤ 4) ∧ (0 ≤ m_at.toInt ∧ m_at.toInt ≤ 900) ∧ (0 ≤ m_behind.toInt ∧ m_behind.toInt ≤ 900) ∧ (0 ≤ m_number.toInt ∧ m_number.toInt ≤ 9999) ∧ (0 ≤ m_letters.toInt ∧ m_letters.toInt ≤ 900) ∧ (m_hasTurned = 0 ∨ m_hasTurned = 1) ∧ (zC g_c) ∧ (zNw g_c g_isOn) ∧ (m_behind.toInt ≤ m_behind.toInt) ∧ (0 < m_bad.toInt → 0 < n_38.toInt) ∧ (n_38.toInt ≤ 0 → m_token.toInt = 0 ∨ m_behind.toInt < m_behind.toInt) ∧ (n_38.toInt ≤ 0 → m_token.toInt = 3 → m_number.toInt = 59 → zNf g_c) := ⟨(z_rgw hr_n_38 (by decide) (by decide)), hr_m_token, hr_m_at, hr_m_behind, hr_m_number, hr_m_letters, hz_m_hasTurned, hC_g_c, hNW0, (by omega), (by omega), (by omega), (fun _ _ _ => hNF0)⟩
    have hX_46 : F_r_readTurned m_textEnd m_bad m_badAt m_token m_at m_behind m_number m_letters m_word m_hasTurned g_tape g_c = ((n_38, n_39, m_token, m_at, m_behind, m_number, m_letters, m_word, m_hasTurned, g_c) : Int32 × Int32 × Int32 × Int32 × Int32 × Int32 × Int32 × Int64 × Int32 × (Nat → Int32)) := by
      clear hret hP hD hS hl hA hT hE hK hts hown hml
      subst he_n_38
      subst he_n_39
      refine (F_r_readTurned_s ..).trans ?_
      refine (if_neg c_1).trans ?_
      exact rfl
    exact hret _ _ _ _ _ (n_38, n_39, m_token, m_at, m_behind, m_number, m_letters, m_word, m_hasTurned, g_c) [3, 0, 1, 2] hP hD hS rfl (by decide) dX12_readTurned_23 ⟨(congrArg (fun z9 => z9.1) hX_46).symm, (congrArg (fun z9 => z9.2.1) hX_46).symm, (congrArg (fun z9 => z9.2.2.1) hX_46).symm, (congrArg (fun z9 => z9.2.2.2.1) hX_46).symm, (congrArg (fun z9 => z9.2.2.2.2.1) hX_46).symm, (congrArg (fun z9 => z9.2.2.2.2.2.1) hX_46).symm, (congrArg (fun z9 => z9.2.2.2.2.2.2.1) hX_46).symm, (congrArg (fun z9 => z9.2.2.2.2.2.2.2.1) hX_46).symm, (congrArg (fun z9 => z9.2.2.2.2.2.2.2.2.1) hX_46).symm, (congrArg (fun z9 => z9.2.2.2.2.2.2.2.2.2) hX_46).symm, hpost⟩
set_option maxHeartbeats 40000000 in
set_option maxRecDepth 100000 in
theorem r_readRound (l : Launch) (G : va_G) (cA : zCA) (h0 : Nat) (m_status : Int32) (m_thrown : Int32) (m_above : Int64) (m_under : Int64) (a_traySort : Nat) (a_trayMany : Nat) (a_numbers : Nat) (a_tape : Nat) (m_taped : Int32) (m_textEnd : Int32) (m_faultKind : Int32) (m_faultAt : Int32) (m_bad : Int32) (m_badAt : Int32) (m_token : Int32) (m_at : Int32) (m_behind : Int32) (m_number : Int32) (m_letters : Int32) (m_word : Int64) (a_c : Nat) (a_words : Nat) (m_markMany : Int32) (a_there : Nat) (a_tried : Nat) (a_best : Nat) (a_found : Nat) (m_thereMany : Int32) (m_foundMany : Int32) (m_orderHow : Int32) (m_orderRing : Int32) (m_orderMany : Int32) (m_hasBest : Int32) (m_bestTop : Int64) (m_bestBy : Int64) (a_weights : Nat) (a_shared : Nat) (m_random : Int32) (m_truePlace : Int32) (m_trueWay : Int32) (m_seconds : Int32) (m_done : Int32) (m_feelings : Int32) (m_tries : Int32) (m_leftOver : Int32) (m_playDoor : Int32) (m_playRing : Int32) (m_isOpen : Int32) (m_isOver : Int32) (m_wasTried : Int32) (m_hasPlayed : Int32) (a_feltNow : Nat) (a_last : Nat) (a_kept : Nat) (m_hasSeconds : Int32) (m_hasTurned : Int32) (m_hasRound : Int32) (a_hasFeels : Nat) (a_isOn : Nat) (m_firstAct : Int32) (m_meanTop : Int64) (m_meanBy : Int64) (a_order : Nat) (m_rowMany : Int32) (m_newSteps : Int32) (g_tape : Nat → Int32) (g_c : Nat → Int32) (g_words : Nat → Int64) (g_isOn : Nat → Int32) (hr_m_textEnd : 0 ≤ m_textEnd.toInt ∧ m_textEnd.toInt ≤ 900) (hr_m_at : 0 ≤ m_at.toInt ∧ m_at.toInt ≤ 900) (hr_m_behind : 0 ≤ m_behind.toInt ∧ m_behind.toInt ≤ 900) (hr_m_bad : 0 ≤ m_bad.toInt ∧ m_bad.toInt ≤ 0) (hr_m_token : 0 ≤ m_token.toInt ∧ m_token.toInt ≤ 4) (hr_m_number : 0 ≤ m_number.toInt ∧ m_number.toInt ≤ 9999) (hr_m_letters : 0 ≤ m_letters.toInt ∧ m_letters.toInt ≤ 900) (hz_m_hasRound : m_hasRound = 0 ∨ m_hasRound = 1) (hC_g_c : zC g_c) (hC_g_isOn : zRg 10 0 1 g_isOn) (hNW0 : zNw g_c g_isOn) (hNF0 : zNf g_c) : zCv l yX12_readRound cX12_readRound 3 none ({ frames := 4, cells := 0, slots := 0, locals := 90 }) G cA [.ref h0] [(h0, .inr (12, [.int m_status, .int m_thrown, .long m_above, .long m_under, .ref a_traySort, .ref a_trayMany, .ref a_numbers, .ref a_tape, .int m_taped, .int m_textEnd, .int m_faultKind, .int m_faultAt, .int m_bad, .int m_badAt, .int m_token, .int m_at, .int m_behind, .int m_number, .int m_letters, .long m_word, .ref a_c, .ref a_words, .int m_markMany, .ref a_there, .ref a_tried, .ref a_best, .ref a_found, .int m_thereMany, .int m_foundMany, .int m_orderHow, .int m_orderRing, .int m_orderMany, .int m_hasBest, .long m_bestTop, .long m_bestBy, .ref a_weights, .ref a_shared, .int m_random, .int m_truePlace, .int m_trueWay, .int m_seconds, .int m_done, .int m_feelings, .int m_tries, .int m_leftOver, .int m_playDoor, .int m_playRing, .int m_isOpen, .int m_isOver, .int m_wasTried, .int m_hasPlayed, .ref a_feltNow, .ref a_last, .ref a_kept, .int m_hasSeconds, .int m_hasTurned, .int m_hasRound, .ref a_hasFeels, .ref a_isOn, .int m_firstAct, .long m_meanTop, .long m_meanBy, .ref a_order, .int m_rowMany, .int m_newSteps])), (a_tape, .inl (cA.1 2, 900, .inl g_tape)), (a_c, .inl (cA.1 0, 1825, .inl g_c)), (a_words, .inl (cA.1 1, 105, .inr (.inl g_words))), (a_isOn, .inl (cA.1 3, 10, .inl g_isOn))] (S := Int32 × Int32 × Int32 × Int32 × Int32 × Int32 × Int32 × Int64 × Int32 × (Nat → Int32)) (fun (u : Int32 × Int32 × Int32 × Int32 × Int32 × Int32 × Int32 × Int64 × Int32 × (Nat → Int32)) => (u.1 = (F_r_readRound m_textEnd m_bad m_badAt m_token m_at m_behind m_number m_letters m_word m_hasRound g_tape g_c g_words).1) ∧ (u.2.1 = (F_r_readRound m_textEnd m_bad m_badAt m_token m_at m_behind m_number m_letters m_word m_hasRound g_tape g_c g_words).2.1) ∧ (u.2.2.1 = (F_r_readRound m_textEnd m_bad m_badAt m_token m_at m_behind m_number m_letters m_word m_hasRound g_tape g_c g_words).2.2.1) ∧ (u.2.2.2.1 = (F_r_readRound m_textEnd m_bad m_badAt m_token m_at m_behind m_number m_letters m_word m_hasRound g_tape g_c g_words).2.2.2.1) ∧ (u.2.2.2.2.1 = (F_r_readRound m_textEnd m_bad m_badAt m_token m_at m_behind m_number m_letters m_word m_hasRound g_tape g_c g_words).2.2.2.2.1) ∧ (u.2.2.2.2.2.1 = (F_r_readRound m_textEnd m_bad m_badAt m_token m_at m_behind m_number m_letters m_word m_hasRound g_tape g_c g_words).2.2.2.2.2.1) ∧ (u.2.2.2.2.2.2.1 = (F_r_readRound m_textEnd m_bad m_badAt m_token m_at m_behind m_number m_letters m_word m_hasRound g_tape g_c g_words).2.2.2.2.2.2.1) ∧ (u.2.2.2.2.2.2.2.1 = (F_r_readRound m_textEnd m_bad m_badAt m_token m_at m_behind m_number m_letters m_word m_hasRound g_tape g_c g_words).2.2.2.2.2.2.2.1) ∧ (u.2.2.2.2.2.2.2.2.1 = (F_r_readRound m_textEnd m_bad m_badAt m_token m_at m_behind m_number m_letters m_word m_hasRound g_tape g_c g_words).2.2.2.2.2.2.2.2.1) ∧ (u.2.2.2.2.2.2.2.2.2 = (F_r_readRound m_textEnd m_bad m_badAt m_token m_at m_behind m_number m_letters m_word m_hasRound g_tape g_c g_words).2.2.2.2.2.2.2.2.2) ∧ ((0 ≤ u.1.toInt ∧ u.1.toInt ≤ 9) ∧ (0 ≤ u.2.2.1.toInt ∧ u.2.2.1.toInt ≤ 4) ∧ (0 ≤ u.2.2.2.1.toInt ∧ u.2.2.2.1.toInt ≤ 900) ∧ (0 ≤ u.2.2.2.2.1.toInt ∧ u.2.2.2.2.1.toInt ≤ 900) ∧ (0 ≤ u.2.2.2.2.2.1.toInt ∧ u.2.2.2.2.2.1.toInt ≤ 9999) ∧ (0 ≤ u.2.2.2.2.2.2.1.toInt ∧ u.2.2.2.2.2.2.1.toInt ≤ 900) ∧ (u.2.2.2.2.2.2.2.2.1 = 0 ∨ u.2.2.2.2.2.2.2.2.1 = 1) ∧ (zC u.2.2.2.2.2.2.2.2.2) ∧ (zNw u.2.2.2.2.2.2.2.2.2 g_isOn) ∧ (m_behind.toInt ≤ u.2.2.2.2.1.toInt) ∧ (0 < m_bad.toInt → 0 < u.1.toInt) ∧ (u.1.toInt ≤ 0 → u.2.2.1.toInt = 0 ∨ m_behind.toInt < u.2.2.2.2.1.toInt) ∧ (u.1.toInt ≤ 0 → u.2.2.1.toInt = 3 → u.2.2.2.2.2.1.toInt = 59 → zNf u.2.2.2.2.2.2.2.2.2))) (fun (u : Int32 × Int32 × Int32 × Int32 × Int32 × Int32 × Int32 × Int64 × Int32 × (Nat → Int32)) => [(h0, .inr (12, [.int m_status, .int m_thrown, .long m_above, .long m_under, .ref a_traySort, .ref a_trayMany, .ref a_numbers, .ref a_tape, .int m_taped, .int m_textEnd, .int m_faultKind, .int m_faultAt, .int u.1, .int u.2.1, .int u.2.2.1, .int u.2.2.2.1, .int u.2.2.2.2.1, .int u.2.2.2.2.2.1, .int u.2.2.2.2.2.2.1, .long u.2.2.2.2.2.2.2.1, .ref a_c, .ref a_words, .int m_markMany, .ref a_there, .ref a_tried, .ref a_best, .ref a_found, .int m_thereMany, .int m_foundMany, .int m_orderHow, .int m_orderRing, .int m_orderMany, .int m_hasBest, .long m_bestTop, .long m_bestBy, .ref a_weights, .ref a_shared, .int m_random, .int m_truePlace, .int m_trueWay, .int m_seconds, .int m_done, .int m_feelings, .int m_tries, .int m_leftOver, .int m_playDoor, .int m_playRing, .int m_isOpen, .int m_isOver, .int m_wasTried, .int m_hasPlayed, .ref a_feltNow, .ref a_last, .ref a_kept, .int m_hasSeconds, .int m_hasTurned, .int u.2.2.2.2.2.2.2.2.1, .ref a_hasFeels, .ref a_isOn, .int m_firstAct, .long m_meanTop, .long m_meanBy, .ref a_order, .int m_rowMany, .int m_newSteps])), (a_tape, .inl (cA.1 2, 900, .inl g_tape)), (a_c, .inl (cA.1 0, 1825, .inl u.2.2.2.2.2.2.2.2.2)), (a_words, .inl (cA.1 1, 105, .inr (.inl g_words))), (a_isOn, .inl (cA.1 3, 10, .inl g_isOn))]) 0 0 := by
  have hk_0 : (0 : Int32).toInt = 0 := by decide +kernel
  have hk_1 : (1 : Int32).toInt = 1 := by decide +kernel
  have hk_3 : (3 : Int32).toInt = 3 := by decide +kernel
  have hk_5 : (5 : Int32).toInt = 5 := by decide +kernel
  have hk_6 : (6 : Int32).toInt = 6 := by decide +kernel
  have hk_12 : (12 : Int32).toInt = 12 := by decide +kernel
  have hk_16 : (16 : Int32).toInt = 16 := by decide +kernel
  have hk_1598 : (1598 : Int32).toInt = 1598 := by decide +kernel
  refine z_start2v (own := RX12) (by decide) (Nat.le_of_ble_eq_true rfl) rfl ?_
  intro p e s m args below meth c A ls Q hx hb hml hts hown hK hE hT hP hD hS hA hl hret
  have hl : lv_has ls 3 [(0, .ref h0)] := hl
  refine lv_aload_n hx hb dX12_readRound_0 rfl (lv_at hl 0 rfl) ?_
  refine va_get (D := G) (ci := 12) (v := .int m_hasRound) (C := RX12) (T := TX12) (N := 65) hx hb hts inT12 hown hK hP 0 rfl rfl 56 (by decide) (hts _ tw_1939) (fun _ h9 => h9) rfl dX12_readRound_1 ?_
  refine lv_if_eq (tgt := 16) hx hb dX12_readRound_4 (by decide) (fun c_1 => ?_) (fun c_1 => ?_)
  · have b_2 := z_feqT c_1
    refine lv_aload_n hx hb dX12_readRound_16 rfl (lv_at hl 0 rfl) ?_
    refine va_get (D := G) (ci := 12) (v := .int m_bad) (C := RX12) (T := TX12) (N := 65) hx hb hts inT12 hown hK hP 0 rfl rfl 12 (by decide) (hts _ tw_1897) (fun _ h9 => h9) rfl dX12_readRound_17 ?_
    refine lv_if_le (tgt := 24) hx hb dX12_readRound_20 (by decide) (fun c_3 => ?_) (fun h9 => (z_no (by have h8 := z_fgtF h9; omega)))
    have b_4 := z_fleT c_3
    refine lv_aload_n hx hb dX12_readRound_24 rfl (lv_at hl 0 rfl) ?_
    refine lv_iconst (v := 1) hx hb dX12_readRound_25 (by decide) ?_
    refine va_put (D := G) (ci := 12) (v := .int 1) (ty := .boolean) (C := RX12) (T := TX12) (N := 65) hx hb hts inT12 tyX12 tyX12_ok nmX12 hown hK hP hD hS 0 rfl rfl 56 (by decide) (hts _ tw_1939) (fun _ h9 => h9) rfl (tyX12_ok 56 (by decide)) rfl rfl (Nat.le_of_ble_eq_true rfl) dX12_readRound_26 (fun H locs hP hD hS => ?_)
    refine lv_aload_n hx hb dX12_readRound_29 rfl (lv_at hl 0 rfl) ?_
    refine z_callVv (As := []) (rest := []) (wr := [(a_c, .inl (cA.1 0, 1825, .inl g_c)), (a_words, .inl (cA.1 1, 105, .inr (.inl g_words))), (a_isOn, .inl (cA.1 3, 10, .inl g_isOn))]) ⟨hx, hb, hml, hown, hts⟩ hK hE hT hP hD hS hA (r_next2 l G cA h0 m_status m_thrown m_above m_under a_traySort a_trayMany a_numbers a_tape m_taped m_textEnd m_faultKind m_faultAt m_bad m_badAt m_token m_at m_behind m_number m_letters m_word a_c a_words m_markMany a_there a_tried a_best a_found m_thereMany m_foundMany m_orderHow m_orderRing m_orderMany m_hasBest m_bestTop m_bestBy a_weights a_shared m_random m_truePlace m_trueWay m_seconds m_done m_feelings m_tries m_leftOver m_playDoor m_playRing m_isOpen m_isOver m_wasTried m_hasPlayed a_feltNow a_last a_kept m_hasSeconds m_hasTurned 1 a_hasFeels a_isOn m_firstAct m_meanTop m_meanBy a_order m_rowMany m_newSteps g_tape hr_m_textEnd hr_m_at hr_m_behind hr_m_token hr_m_number hr_m_letters) lk_RX12_184 ⟨rfl, rfl⟩ ⟨Nat.le_of_ble_eq_true rfl, Nat.le_of_ble_eq_true rfl⟩ 12 rfl rfl rfl [0, 1] [2, 3, 4] rfl rfl (by decide) rfl hl.1 rfl (lv_room (Nat.le_of_ble_eq_true rfl)) dX12_readRound_30 ⟨Nat.le_of_ble_eq_true rfl, Nat.le_of_ble_eq_true rfl⟩ (fun u_12 H locs hw hP hD hS => ?_)
    obtain ⟨n_5, n_6, n_7, n_8, n_9, n_10⟩ := u_12
    try dsimp only at hw
    obtain ⟨he_n_5, he_n_6, he_n_7, he_n_8, he_n_9, he_n_10, hw⟩ := hw
    obtain ⟨hr_n_5, hr_n_6, hr_n_7, hr_n_8, hr_n_9, hf_14, hf_15⟩ := hw
    refine lv_iconst (v := 1) hx hb dX12_readRound_33 (by decide) ?_
    refine lv_istore_n (lv' := [(1, .int 1), (0, .ref h0)]) hx hb dX12_readRound_34 rfl hl (by decide) rfl (fun ls hl => ?_)
    have hlp_261 : ∀ (n_L35a : Nat) (v_135 : Int32) (g_136 : Nat → Int32) (v_137 : Int32) (v_138 : Int32) (v_139 : Int32) (v_140 : Int32) (v_141 : Int32) (v_142 : Int32) (v_143 : Int32) (v_144 : Int64) (H : Heap) (locs : List Loc) (ls : Array Slot), (900 - v_141.toInt + v_135.toInt).toNat < n_L35a → (0 ≤ v_135.toInt ∧ v_135.toInt ≤ 1) → (zC g_136) → (0 ≤ v_137.toInt ∧ v_137.toInt ≤ 0) → (0 ≤ v_139.toInt ∧ v_139.toInt ≤ 4) → (0 ≤ v_140.toInt ∧ v_140.toInt ≤ 900) → (0 ≤ v_141.toInt ∧ v_141.toInt ≤ 900) → (0 ≤ v_142.toInt ∧ v_142.toInt ≤ 9999) → (0 ≤ v_143.toInt ∧ v_143.toInt ≤ 900) → (zNw g_136 g_isOn) → (zNf g_136) → (m_behind.toInt ≤ v_141.toInt) → (v_137.toInt ≤ 0 → v_139.toInt = 0 ∨ m_behind.toInt < v_141.toInt) → (F_r_readRound m_textEnd m_bad m_badAt m_token m_at m_behind m_number m_letters m_word m_hasRound g_tape g_c g_words = F_r_readRound_L35a m_textEnd g_tape g_words n_L35a v_135 g_136 v_137 v_138 v_139 v_140 v_141 v_142 v_143 v_144) → va_P G vwCl [(a_c, .inl (cA.1 0, 1825, .inl g_136)), (a_words, .inl (cA.1 1, 105, .inr (.inl g_words))), (a_isOn, .inl (cA.1 3, 10, .inl g_isOn)), (h0, .inr (12, [.int m_status, .int m_thrown, .long m_above, .long m_under, .ref a_traySort, .ref a_trayMany, .ref a_numbers, .ref a_tape, .int m_taped, .int m_textEnd, .int m_faultKind, .int m_faultAt, .int v_137, .int v_138, .int v_139, .int v_140, .int v_141, .int v_142, .int v_143, .long v_144, .ref a_c, .ref a_words, .int m_markMany, .ref a_there, .ref a_tried, .ref a_best, .ref a_found, .int m_thereMany, .int m_foundMany, .int m_orderHow, .int m_orderRing, .int m_orderMany, .int m_hasBest, .long m_bestTop, .long m_bestBy, .ref a_weights, .ref a_shared, .int m_random, .int m_truePlace, .int m_trueWay, .int m_seconds, .int m_done, .int m_feelings, .int m_tries, .int m_leftOver, .int m_playDoor, .int m_playRing, .int m_isOpen, .int m_isOver, .int m_wasTried, .int m_hasPlayed, .ref a_feltNow, .ref a_last, .ref a_kept, .int m_hasSeconds, .int m_hasTurned, .int 1, .ref a_hasFeels, .ref a_isOn, .int m_firstAct, .long m_meanTop, .long m_meanBy, .ref a_order, .int m_rowMany, .int m_newSteps])), (a_tape, .inl (cA.1 2, 900, .inl g_tape))] H → va_D A [(a_c, .inl (cA.1 0, 1825, .inl g_136)), (a_words, .inl (cA.1 1, 105, .inr (.inl g_words))), (a_isOn, .inl (cA.1 3, 10, .inl g_isOn)), (h0, .inr (12, [.int m_status, .int m_thrown, .long m_above, .long m_under, .ref a_traySort, .ref a_trayMany, .ref a_numbers, .ref a_tape, .int m_taped, .int m_textEnd, .int m_faultKind, .int m_faultAt, .int v_137, .int v_138, .int v_139, .int v_140, .int v_141, .int v_142, .int v_143, .long v_144, .ref a_c, .ref a_words, .int m_markMany, .ref a_there, .ref a_tried, .ref a_best, .ref a_found, .int m_thereMany, .int m_foundMany, .int m_orderHow, .int m_orderRing, .int m_orderMany, .int m_hasBest, .long m_bestTop, .long m_bestBy, .ref a_weights, .ref a_shared, .int m_random, .int m_truePlace, .int m_trueWay, .int m_seconds, .int m_done, .int m_feelings, .int m_tries, .int m_leftOver, .int m_playDoor, .int m_playRing, .int m_isOpen, .int m_isOver, .int m_wasTried, .int m_hasPlayed, .ref a_feltNow, .ref a_last, .ref a_kept, .int m_hasSeconds, .int m_hasTurned, .int 1, .ref a_hasFeels, .ref a_isOn, .int m_firstAct, .long m_meanTop, .long m_meanBy, .ref a_order, .int m_rowMany, .int m_newSteps])), (a_tape, .inl (cA.1 2, 900, .inl g_tape))] → va_S A s.heap H locs → lv_has ls 3 [(0, .ref h0), (1, .int v_135)] → W p l e ({ frames := 4, cells := 0, slots := 0, locals := 90 }) s m args below meth c H locs 0 0 Q (F0 m 35 ls []) := by
      intro n_L35a
      induction n_L35a with
      | zero =>
        intro v_135 g_136 v_137 v_138 v_139 v_140 v_141 v_142 v_143 v_144 H locs ls hmu_hlp_261 hr_v_135 hC_g_136 hr_v_137 hr_v_139 hr_v_140 hr_v_141 hr_v_142 hr_v_143 hs_201 hs_202 hi_203 hi_204 hF_L35a hP hD hS hl
        exact absurd hmu_hlp_261 (Nat.not_lt_zero _)
      | succ n_L35a ih_262 =>
        intro v_135 g_136 v_137 v_138 v_139 v_140 v_141 v_142 v_143 v_144 H locs ls hmu_hlp_261 hr_v_135 hC_g_136 hr_v_137 hr_v_139 hr_v_140 hr_v_141 hr_v_142 hr_v_143 hs_201 hs_202 hi_203 hi_204 hF_L35a hP hD hS hl
        refine lv_iload_n hx hb dX12_readRound_35 rfl (lv_at hl 1 rfl) ?_
        refine lv_if_eq (tgt := 143) hx hb dX12_readRound_36 (by decide) (fun c_263 => ?_) (fun c_263 => ?_)
        · have b_264 := z_feqT c_263
          have hpost : (0 ≤ v_137.toInt ∧ v_137.toInt ≤ 9) ∧ (0 ≤ v_139.toInt ∧ v_139.toInt ≤ 4) ∧ (0 ≤ v_140.toInt ∧ v_140.toInt ≤ 900) ∧ (0 ≤ v_141.toInt ∧ v_141.toInt ≤ 900) ∧ (0 ≤ v_142.toInt ∧ v_142.toInt ≤ 9999) ∧ (0 ≤ v_143.toInt ∧ v_143.toInt ≤ 900) ∧ ((1 : Int32) = 0 ∨ (1 : Int32) = 1) ∧ (zC g_136) ∧ (zNw g_136 g_isOn) ∧ (m_behind.toInt ≤ v_141.toInt) ∧ (0 < m_bad.toInt → 0 < v_137.toInt) ∧ (v_137.toInt ≤ 0 → v_139.toInt = 0 ∨ m_behind.toInt < v_141.toInt) ∧ (v_137.toInt ≤ 0 → v_139.toInt = 3 → v_142.toInt = 59 → zNf g_136) := ⟨(z_rgw hr_v_137 (by decide) (by decide)), hr_v_139, hr_v_140, hr_v_141, hr_v_142, hr_v_143, (Or.inr rfl), hC_g_136, hs_201, (by omega), (by omega), (by omega), (fun _ _ _ => hs_202)⟩
          have hX_265 : F_r_readRound m_textEnd m_bad m_badAt m_token m_at m_behind m_number m_letters m_word m_hasRound g_tape g_c g_words = ((v_137, v_138, v_139, v_140, v_141, v_142, v_143, v_144, (1 : Int32), g_136) : Int32 × Int32 × Int32 × Int32 × Int32 × Int32 × Int32 × Int64 × Int32 × (Nat → Int32)) := by
            clear hret hP hD hS hl hA hT hE hK hts hown hml
            refine hF_L35a.trans ?_
            refine (F_r_readRound_L35a_s ..).trans ?_
            refine (if_pos c_263).trans ?_
            exact rfl
          exact hret _ _ _ _ _ (v_137, v_138, v_139, v_140, v_141, v_142, v_143, v_144, 1, g_136) [3, 4, 0, 1, 2] hP hD hS rfl (by decide) dX12_readRound_143 ⟨(congrArg (fun z9 => z9.1) hX_265).symm, (congrArg (fun z9 => z9.2.1) hX_265).symm, (congrArg (fun z9 => z9.2.2.1) hX_265).symm, (congrArg (fun z9 => z9.2.2.2.1) hX_265).symm, (congrArg (fun z9 => z9.2.2.2.2.1) hX_265).symm, (congrArg (fun z9 => z9.2.2.2.2.2.1) hX_265).symm, (congrArg (fun z9 => z9.2.2.2.2.2.2.1) hX_265).symm, (congrArg (fun z9 => z9.2.2.2.2.2.2.2.1) hX_265).symm, (congrArg (fun z9 => z9.2.2.2.2.2.2.2.2.1) hX_265).symm, (congrArg (fun z9 => z9.2.2.2.2.2.2.2.2.2) hX_265).symm, hpost⟩
        · have b_266 := z_fneF c_263
          refine lv_aload_n hx hb dX12_readRound_39 rfl (lv_at hl 0 rfl) ?_
          refine va_get (D := G) (ci := 12) (v := .int v_137) (C := RX12) (T := TX12) (N := 65) hx hb hts inT12 hown hK hP 3 rfl rfl 12 (by decide) (hts _ tw_1897) (fun _ h9 => h9) rfl dX12_readRound_40 ?_
          refine lv_if_ne (tgt := 143) hx hb dX12_readRound_43 (by decide) (fun h9 => (z_no (by have h8 := z_fneT h9; omega))) (fun c_267 => ?_)
          have b_268 := z_feqF c_267
          refine lv_aload_n hx hb dX12_readRound_46 rfl (lv_at hl 0 rfl) ?_
          refine lv_iconst (v := 3) hx hb dX12_readRound_47 (by decide) ?_
          refine lv_bipush (v := 16) hx hb dX12_readRound_48 (by decide) ?_
          refine z_callVi (As := [.int 3, .int 16]) (rest := []) (wr := [(a_isOn, .inl (cA.1 3, 10, .inl g_isOn)), (a_tape, .inl (cA.1 2, 900, .inl g_tape))]) ⟨hx, hb, hml, hown, hts⟩ hK hE hT hP hD hS hA (r_readOld_3 l G cA h0 m_status m_thrown m_above m_under a_traySort a_trayMany a_numbers a_tape m_taped m_textEnd m_faultKind m_faultAt v_137 v_138 v_139 v_140 v_141 v_142 v_143 v_144 a_c a_words m_markMany a_there a_tried a_best a_found m_thereMany m_foundMany m_orderHow m_orderRing m_orderMany m_hasBest m_bestTop m_bestBy a_weights a_shared m_random m_truePlace m_trueWay m_seconds m_done m_feelings m_tries m_leftOver m_playDoor m_playRing m_isOpen m_isOver m_wasTried m_hasPlayed a_feltNow a_last a_kept m_hasSeconds m_hasTurned 1 a_hasFeels a_isOn m_firstAct m_meanTop m_meanBy a_order m_rowMany m_newSteps g_136 g_words hr_v_140 (z_rgw hr_v_137 (by decide) (by decide)) hr_v_139 hr_v_143 hC_g_136) lk_RX12_217 ⟨rfl, rfl⟩ ⟨Nat.le_of_ble_eq_true rfl, Nat.le_of_ble_eq_true rfl⟩ 12 rfl rfl rfl [3, 0, 1] [2, 4] rfl rfl (by decide) rfl hl.1 rfl (lv_room (Nat.le_of_ble_eq_true rfl)) dX12_readRound_50 ⟨Nat.le_of_ble_eq_true rfl, Nat.le_of_ble_eq_true rfl⟩ (fun r_271 u_272 H locs hw hP hD hS => ?_)
          obtain ⟨n_269, n_270⟩ := u_272
          try dsimp only at hw
          obtain ⟨he_r_271, he_n_269, he_n_270, hw⟩ := hw
          obtain ⟨hr_r_271, hr_n_269, hf_274, hf_275, hf_276⟩ := hw
          refine lv_istore_n (lv' := [(2, .int r_271), (0, .ref h0), (1, .int v_135)]) hx hb dX12_readRound_53 rfl hl (by decide) rfl (fun ls hl => ?_)
          refine lv_aload_n hx hb dX12_readRound_54 rfl (lv_at hl 1 rfl) ?_
          refine va_get (D := G) (ci := 12) (v := .int n_269) (C := RX12) (T := TX12) (N := 65) hx hb hts inT12 hown hK hP 2 rfl rfl 12 (by decide) (hts _ tw_1897) (fun _ h9 => h9) rfl dX12_readRound_55 ?_
          refine lv_if_ne (tgt := 84) hx hb dX12_readRound_58 (by decide) (fun c_277 => ?_) (fun c_277 => ?_)
          · have b_278 := z_fneT c_277
            refine lv_aload_n hx hb dX12_readRound_84 rfl (lv_at hl 1 rfl) ?_
            refine va_get (D := G) (ci := 12) (v := .int n_269) (C := RX12) (T := TX12) (N := 65) hx hb hts inT12 hown hK hP 2 rfl rfl 12 (by decide) (hts _ tw_1897) (fun _ h9 => h9) rfl dX12_readRound_85 ?_
            refine lv_if_le (tgt := 92) hx hb dX12_readRound_88 (by decide) (fun h9 => (z_no (by have h8 := z_fleT h9; omega))) (fun c_279 => ?_)
            have b_280 := z_fgtF c_279
            have hpost : (0 ≤ n_269.toInt ∧ n_269.toInt ≤ 9) ∧ (0 ≤ v_139.toInt ∧ v_139.toInt ≤ 4) ∧ (0 ≤ v_140.toInt ∧ v_140.toInt ≤ 900) ∧ (0 ≤ v_141.toInt ∧ v_141.toInt ≤ 900) ∧ (0 ≤ v_142.toInt ∧ v_142.toInt ≤ 9999) ∧ (0 ≤ v_143.toInt ∧ v_143.toInt ≤ 900) ∧ ((1 : Int32) = 0 ∨ (1 : Int32) = 1) ∧ (zC g_136) ∧ (zNw g_136 g_isOn) ∧ (m_behind.toInt ≤ v_141.toInt) ∧ (0 < m_bad.toInt → 0 < n_269.toInt) ∧ (n_269.toInt ≤ 0 → v_139.toInt = 0 ∨ m_behind.toInt < v_141.toInt) ∧ (n_269.toInt ≤ 0 → v_139.toInt = 3 → v_142.toInt = 59 → zNf g_136) := ⟨hr_n_269, hr_v_139, hr_v_140, hr_v_141, hr_v_142, hr_v_143, (Or.inr rfl), hC_g_136, hs_201, (by omega), (by omega), (by omega), (fun _ _ _ => hs_202)⟩
            have hX_281 : F_r_readRound m_textEnd m_bad m_badAt m_token m_at m_behind m_number m_letters m_word m_hasRound g_tape g_c g_words = ((n_269, n_270, v_139, v_140, v_141, v_142, v_143, v_144, (1 : Int32), g_136) : Int32 × Int32 × Int32 × Int32 × Int32 × Int32 × Int32 × Int64 × Int32 × (Nat → Int32)) := by
              clear hret hP hD hS hl hA hT hE hK hts hown hml
              subst he_r_271
              subst he_n_269
              subst he_n_270
              refine hF_L35a.trans ?_
              refine (F_r_readRound_L35a_s ..).trans ?_
              refine (if_neg c_263).trans ?_
              refine (if_neg c_277).trans ?_
              exact rfl
            exact hret _ _ _ _ _ (n_269, n_270, v_139, v_140, v_141, v_142, v_143, v_144, 1, g_136) [2, 1, 3, 4, 0] hP hD hS rfl (by decide) dX12_readRound_91 ⟨(congrArg (fun z9 => z9.1) hX_281).symm, (congrArg (fun z9 => z9.2.1) hX_281).symm, (congrArg (fun z9 => z9.2.2.1) hX_281).symm, (congrArg (fun z9 => z9.2.2.2.1) hX_281).symm, (congrArg (fun z9 => z9.2.2.2.2.1) hX_281).symm, (congrArg (fun z9 => z9.2.2.2.2.2.1) hX_281).symm, (congrArg (fun z9 => z9.2.2.2.2.2.2.1) hX_281).symm, (congrArg (fun z9 => z9.2.2.2.2.2.2.2.1) hX_281).symm, (congrArg (fun z9 => z9.2.2.2.2.2.2.2.2.1) hX_281).symm, (congrArg (fun z9 => z9.2.2.2.2.2.2.2.2.2) hX_281).symm, hpost⟩
          · have b_282 := z_feqF c_277
            refine lv_aload_n hx hb dX12_readRound_61 rfl (lv_at hl 1 rfl) ?_
            refine va_get (D := G) (ci := 12) (v := .ref a_c) (C := RX12) (T := TX12) (N := 65) hx hb hts inT12 hown hK hP 2 rfl rfl 20 (by decide) (hts _ tw_1905) (fun _ h9 => h9) rfl dX12_readRound_62 ?_
            refine lv_sipush (v := 1464) hx hb dX12_readRound_65 (by decide) ?_
            refine va_iald hx hb hK hP 3 0 rfl rfl (z_in (i := 1464) (n := 1825) (by decide +kernel) (by decide +kernel)) dX12_readRound_68 ?_
            refine lv_topi (fun x_283 he_x_283 => ?_)
            have hr_x_283 := z_ctk hC_g_136 he_x_283 (k := 1464) (lo := 0) (hi := 12) (by decide +kernel) (by decide +kernel) (by decide +kernel)
            have hv_x_283 := z_cv he_x_283 (k := 1464) (by decide +kernel)
            refine lv_bipush (v := 12) hx hb dX12_readRound_69 (by decide) ?_
            refine lv_icmp_ne (tgt := 84) hx hb dX12_readRound_71 (by decide) (fun c_284 => ?_) (fun c_284 => ?_)
            · have b_285 := z_fneT c_284
              refine lv_aload_n hx hb dX12_readRound_84 rfl (lv_at hl 1 rfl) ?_
              refine va_get (D := G) (ci := 12) (v := .int n_269) (C := RX12) (T := TX12) (N := 65) hx hb hts inT12 hown hK hP 2 rfl rfl 12 (by decide) (hts _ tw_1897) (fun _ h9 => h9) rfl dX12_readRound_85 ?_
              refine lv_if_le (tgt := 92) hx hb dX12_readRound_88 (by decide) (fun c_286 => ?_) (fun h9 => (z_no (by have h8 := z_fgtF h9; omega)))
              have b_287 := z_fleT c_286
              refine lv_aload_n hx hb dX12_readRound_92 rfl (lv_at hl 1 rfl) ?_
              refine va_get (D := G) (ci := 12) (v := .ref a_c) (C := RX12) (T := TX12) (N := 65) hx hb hts inT12 hown hK hP 2 rfl rfl 20 (by decide) (hts _ tw_1905) (fun _ h9 => h9) rfl dX12_readRound_93 ?_
              refine lv_sipush (v := 1598) hx hb dX12_readRound_96 (by decide) ?_
              refine lv_aload_n hx hb dX12_readRound_99 rfl (lv_at hl 1 rfl) ?_
              refine va_get (D := G) (ci := 12) (v := .ref a_c) (C := RX12) (T := TX12) (N := 65) hx hb hts inT12 hown hK hP 2 rfl rfl 20 (by decide) (hts _ tw_1905) (fun _ h9 => h9) rfl dX12_readRound_100 ?_
              refine lv_sipush (v := 1464) hx hb dX12_readRound_103 (by decide) ?_
              refine va_iald hx hb hK hP 3 0 rfl rfl (z_in (i := 1464) (n := 1825) (by decide +kernel) (by decide +kernel)) dX12_readRound_106 ?_
              refine lv_topi (fun x_288 he_x_288 => ?_)
              have hr_x_288 := z_ctk hC_g_136 he_x_288 (k := 1464) (lo := 0) (hi := 12) (by decide +kernel) (by decide +kernel) (by decide +kernel)
              have hv_x_288 := z_cv he_x_288 (k := 1464) (by decide +kernel)
              refine lv_iadd hx hb dX12_readRound_107 ?_
              refine lv_topi (fun x_289 he_x_289 => ?_)
              have hq_x_289 := z_addq he_x_289 hk_1598 (rfl : x_288.toInt = _) (by omega) (by omega)
              refine lv_iload_n hx hb dX12_readRound_108 rfl (lv_at hl 0 rfl) ?_
              refine z_iast hx hb hK hP hD hS 3 0 rfl rfl (z_inN (by omega) (by omega)) dX12_readRound_109 (fun g_290 hg_g_290 H locs hP hD hS => ?_)
              have hC_g_290 := z_ctU hC_g_136 hg_g_290 (a := 1598) (b := 1609) (lo := 0) (hi := 4) (by decide +kernel) (by decide +kernel) (by omega) (by omega) (by omega)
              have hw_g_290_1463 := z_cwo hg_g_290 (k := 1463) (by omega) (by omega)
              have hw_g_290_1464 := z_cwo hg_g_290 (k := 1464) (by omega) (by omega)
              have hs_291 : zNw g_290 g_isOn := (zNw_fr hs_201 hg_g_290 (a := 1598) (b := 1609) (by decide +kernel) (by omega) (by omega))
              have hs_292 : zNf g_290 := (zNf_fr hs_202 hg_g_290 (a := 1598) (b := 1609) (by decide +kernel) (by omega) (by omega))
              refine lv_aload_n hx hb dX12_readRound_110 rfl (lv_at hl 1 rfl) ?_
              refine va_get (D := G) (ci := 12) (v := .ref a_c) (C := RX12) (T := TX12) (N := 65) hx hb hts inT12 hown hK hP 2 rfl rfl 20 (by decide) (hts _ tw_1905) (fun _ h9 => h9) rfl dX12_readRound_111 ?_
              refine lv_sipush (v := 1464) hx hb dX12_readRound_114 (by decide) ?_
              refine lv_dup2_11 hx hb dX12_readRound_117 rfl rfl ?_
              refine va_iald hx hb hK hP 3 0 rfl rfl (z_in (i := 1464) (n := 1825) (by decide +kernel) (by decide +kernel)) dX12_readRound_118 ?_
              refine lv_topi (fun x_293 he_x_293 => ?_)
              have hr_x_293 := z_ctk hC_g_290 he_x_293 (k := 1464) (lo := 0) (hi := 12) (by decide +kernel) (by decide +kernel) (by decide +kernel)
              have hv_x_293 := z_cv he_x_293 (k := 1464) (by decide +kernel)
              refine lv_iconst (v := 1) hx hb dX12_readRound_119 (by decide) ?_
              refine lv_iadd hx hb dX12_readRound_120 ?_
              refine lv_topi (fun x_294 he_x_294 => ?_)
              have hq_x_294 := z_addq he_x_294 (rfl : x_293.toInt = _) hk_1 (by omega) (by omega)
              refine z_iast hx hb hK hP hD hS 3 0 rfl rfl (z_in (i := 1464) (n := 1825) (by decide +kernel) (by decide +kernel)) dX12_readRound_121 (fun g_295 hg_g_295 H locs hP hD hS => ?_)
              have hC_g_295 := z_ctUk hC_g_290 hg_g_295 (k := 1464) (lo := 0) (hi := 12) (by decide +kernel) (by decide +kernel) (by decide +kernel) (by omega)
              have hw_g_295_1463 := z_cwo hg_g_295 (k := 1463) (by decide +kernel) (by decide +kernel)
              have hw_g_295_1464 := z_cwk hg_g_295 (k := 1464) (by decide +kernel)
              have hs_296 : zNw g_295 g_isOn := (zNw_fr hs_291 hg_g_295 (a := 1464) (b := 1464) (by decide +kernel) (by decide +kernel) (by decide +kernel))
              have hs_297 : zNf g_295 := (zNf_fr hs_292 hg_g_295 (a := 1464) (b := 1464) (by decide +kernel) (by decide +kernel) (by decide +kernel))
              refine lv_aload_n hx hb dX12_readRound_122 rfl (lv_at hl 1 rfl) ?_
              refine z_callVv (As := []) (rest := []) (wr := [(a_isOn, .inl (cA.1 3, 10, .inl g_isOn)), (a_c, .inl (cA.1 0, 1825, .inl g_295)), (a_words, .inl (cA.1 1, 105, .inr (.inl g_words)))]) ⟨hx, hb, hml, hown, hts⟩ hK hE hT hP hD hS hA (r_next2 l G cA h0 m_status m_thrown m_above m_under a_traySort a_trayMany a_numbers a_tape m_taped m_textEnd m_faultKind m_faultAt n_269 n_270 v_139 v_140 v_141 v_142 v_143 v_144 a_c a_words m_markMany a_there a_tried a_best a_found m_thereMany m_foundMany m_orderHow m_orderRing m_orderMany m_hasBest m_bestTop m_bestBy a_weights a_shared m_random m_truePlace m_trueWay m_seconds m_done m_feelings m_tries m_leftOver m_playDoor m_playRing m_isOpen m_isOver m_wasTried m_hasPlayed a_feltNow a_last a_kept m_hasSeconds m_hasTurned 1 a_hasFeels a_isOn m_firstAct m_meanTop m_meanBy a_order m_rowMany m_newSteps g_tape hr_m_textEnd hr_v_140 hr_v_141 hr_v_139 hr_v_142 hr_v_143) lk_RX12_184 ⟨rfl, rfl⟩ ⟨Nat.le_of_ble_eq_true rfl, Nat.le_of_ble_eq_true rfl⟩ 12 rfl rfl rfl [2, 1] [0, 3, 4] rfl rfl (by decide) rfl hl.1 rfl (lv_room (Nat.le_of_ble_eq_true rfl)) dX12_readRound_123 ⟨Nat.le_of_ble_eq_true rfl, Nat.le_of_ble_eq_true rfl⟩ (fun u_305 H locs hw hP hD hS => ?_)
              obtain ⟨n_298, n_299, n_300, n_301, n_302, n_303⟩ := u_305
              try dsimp only at hw
              obtain ⟨he_n_298, he_n_299, he_n_300, he_n_301, he_n_302, he_n_303, hw⟩ := hw
              obtain ⟨hr_n_298, hr_n_299, hr_n_300, hr_n_301, hr_n_302, hf_307, hf_308⟩ := hw
              refine lv_aload_n hx hb dX12_readRound_126 rfl (lv_at hl 1 rfl) ?_
              refine va_get (D := G) (ci := 12) (v := .int n_298) (C := RX12) (T := TX12) (N := 65) hx hb hts inT12 hown hK hP 3 rfl rfl 14 (by decide) (hts _ tw_1899) (fun _ h9 => h9) rfl dX12_readRound_127 ?_
              refine lv_iconst (v := 1) hx hb dX12_readRound_130 (by decide) ?_
              refine lv_icmp_ne (tgt := 138) hx hb dX12_readRound_131 (by decide) (fun c_309 => ?_) (fun c_309 => ?_)
              · have b_310 := z_fneT c_309
                refine lv_iconst (v := 0) hx hb dX12_readRound_138 (by decide) ?_
                refine lv_istore_n (lv' := [(1, .int 0), (2, .int r_271), (0, .ref h0)]) hx hb dX12_readRound_139 rfl hl (by decide) rfl (fun ls hl => ?_)
                refine lv_goto (tgt := 35) hx hb dX12_readRound_140 (by decide) ?_
                have hX_311 : F_r_readRound m_textEnd m_bad m_badAt m_token m_at m_behind m_number m_letters m_word m_hasRound g_tape g_c g_words = F_r_readRound_L35a m_textEnd g_tape g_words n_L35a (0 : Int32) g_295 n_269 n_270 n_298 n_299 n_300 n_301 n_302 n_303 := by
                  clear hret hP hD hS hl hA hT hE hK hts hown hml
                  subst he_r_271
                  subst he_n_269
                  subst he_n_270
                  subst he_x_283
                  subst he_x_288
                  subst he_x_289
                  subst hg_g_290
                  subst he_x_293
                  subst he_x_294
                  subst hg_g_295
                  subst he_n_298
                  subst he_n_299
                  subst he_n_300
                  subst he_n_301
                  subst he_n_302
                  subst he_n_303
                  refine hF_L35a.trans ?_
                  refine (F_r_readRound_L35a_s ..).trans ?_
                  refine (if_neg c_263).trans ?_
                  refine (if_pos c_277).trans ?_
                  refine (if_neg c_284).trans ?_
                  refine (if_neg c_309).trans ?_
                  exact rfl
                have hP := hP.sub (ws' := [(a_c, .inl (cA.1 0, 1825, .inl g_295)), (a_words, .inl (cA.1 1, 105, .inr (.inl g_words))), (a_isOn, .inl (cA.1 3, 10, .inl g_isOn)), (h0, .inr (12, [.int m_status, .int m_thrown, .long m_above, .long m_under, .ref a_traySort, .ref a_trayMany, .ref a_numbers, .ref a_tape, .int m_taped, .int m_textEnd, .int m_faultKind, .int m_faultAt, .int n_269, .int n_270, .int n_298, .int n_299, .int n_300, .int n_301, .int n_302, .long n_303, .ref a_c, .ref a_words, .int m_markMany, .ref a_there, .ref a_tried, .ref a_best, .ref a_found, .int m_thereMany, .int m_foundMany, .int m_orderHow, .int m_orderRing, .int m_orderMany, .int m_hasBest, .long m_bestTop, .long m_bestBy, .ref a_weights, .ref a_shared, .int m_random, .int m_truePlace, .int m_trueWay, .int m_seconds, .int m_done, .int m_feelings, .int m_tries, .int m_leftOver, .int m_playDoor, .int m_playRing, .int m_isOpen, .int m_isOver, .int m_wasTried, .int m_hasPlayed, .ref a_feltNow, .ref a_last, .ref a_kept, .int m_hasSeconds, .int m_hasTurned, .int 1, .ref a_hasFeels, .ref a_isOn, .int m_firstAct, .long m_meanTop, .long m_meanBy, .ref a_order, .int m_rowMany, .int m_newSteps])), (a_tape, .inl (cA.1 2, 900, .inl g_tape))]) [1, 2, 0, 3, 4] rfl
                have hD := hD.sub (ws' := [(a_c, .inl (cA.1 0, 1825, .inl g_295)), (a_words, .inl (cA.1 1, 105, .inr (.inl g_words))), (a_isOn, .inl (cA.1 3, 10, .inl g_isOn)), (h0, .inr (12, [.int m_status, .int m_thrown, .long m_above, .long m_under, .ref a_traySort, .ref a_trayMany, .ref a_numbers, .ref a_tape, .int m_taped, .int m_textEnd, .int m_faultKind, .int m_faultAt, .int n_269, .int n_270, .int n_298, .int n_299, .int n_300, .int n_301, .int n_302, .long n_303, .ref a_c, .ref a_words, .int m_markMany, .ref a_there, .ref a_tried, .ref a_best, .ref a_found, .int m_thereMany, .int m_foundMany, .int m_orderHow, .int m_orderRing, .int m_orderMany, .int m_hasBest, .long m_bestTop, .long m_bestBy, .ref a_weights, .ref a_shared, .int m_random, .int m_truePlace, .int m_trueWay, .int m_seconds, .int m_done, .int m_feelings, .int m_tries, .int m_leftOver, .int m_playDoor, .int m_playRing, .int m_isOpen, .int m_isOver, .int m_wasTried, .int m_hasPlayed, .ref a_feltNow, .ref a_last, .ref a_kept, .int m_hasSeconds, .int m_hasTurned, .int 1, .ref a_hasFeels, .ref a_isOn, .int m_firstAct, .long m_meanTop, .long m_meanBy, .ref a_order, .int m_rowMany, .int m_newSteps])), (a_tape, .inl (cA.1 2, 900, .inl g_tape))]) [1, 2, 0, 3, 4] (by decide) rfl
                exact ih_262 0 g_295 n_269 n_270 n_298 n_299 n_300 n_301 n_302 n_303 H locs ls (by omega) (by decide +kernel) hC_g_295 (by omega) hr_n_298 hr_n_299 hr_n_300 hr_n_301 hr_n_302 hs_296 hs_297 (by omega) (by omega) hX_311 hP hD hS (lv_sub hl [2, 0] rfl)
              · have b_312 := z_feqF c_309
                refine lv_iconst (v := 1) hx hb dX12_readRound_134 (by decide) ?_
                refine lv_goto (tgt := 139) hx hb dX12_readRound_135 (by decide) ?_
                refine lv_istore_n (lv' := [(1, .int 1), (2, .int r_271), (0, .ref h0)]) hx hb dX12_readRound_139 rfl hl (by decide) rfl (fun ls hl => ?_)
                refine lv_goto (tgt := 35) hx hb dX12_readRound_140 (by decide) ?_
                have hX_313 : F_r_readRound m_textEnd m_bad m_badAt m_token m_at m_behind m_number m_letters m_word m_hasRound g_tape g_c g_words = F_r_readRound_L35a m_textEnd g_tape g_words n_L35a (1 : Int32) g_295 n_269 n_270 n_298 n_299 n_300 n_301 n_302 n_303 := by
                  clear hret hP hD hS hl hA hT hE hK hts hown hml
                  subst he_r_271
                  subst he_n_269
                  subst he_n_270
                  subst he_x_283
                  subst he_x_288
                  subst he_x_289
                  subst hg_g_290
                  subst he_x_293
                  subst he_x_294
                  subst hg_g_295
                  subst he_n_298
                  subst he_n_299
                  subst he_n_300
                  subst he_n_301
                  subst he_n_302
                  subst he_n_303
                  refine hF_L35a.trans ?_
                  refine (F_r_readRound_L35a_s ..).trans ?_
                  refine (if_neg c_263).trans ?_
                  refine (if_pos c_277).trans ?_
                  refine (if_neg c_284).trans ?_
                  refine (if_pos c_309).trans ?_
                  exact rfl
                have hP := hP.sub (ws' := [(a_c, .inl (cA.1 0, 1825, .inl g_295)), (a_words, .inl (cA.1 1, 105, .inr (.inl g_words))), (a_isOn, .inl (cA.1 3, 10, .inl g_isOn)), (h0, .inr (12, [.int m_status, .int m_thrown, .long m_above, .long m_under, .ref a_traySort, .ref a_trayMany, .ref a_numbers, .ref a_tape, .int m_taped, .int m_textEnd, .int m_faultKind, .int m_faultAt, .int n_269, .int n_270, .int n_298, .int n_299, .int n_300, .int n_301, .int n_302, .long n_303, .ref a_c, .ref a_words, .int m_markMany, .ref a_there, .ref a_tried, .ref a_best, .ref a_found, .int m_thereMany, .int m_foundMany, .int m_orderHow, .int m_orderRing, .int m_orderMany, .int m_hasBest, .long m_bestTop, .long m_bestBy, .ref a_weights, .ref a_shared, .int m_random, .int m_truePlace, .int m_trueWay, .int m_seconds, .int m_done, .int m_feelings, .int m_tries, .int m_leftOver, .int m_playDoor, .int m_playRing, .int m_isOpen, .int m_isOver, .int m_wasTried, .int m_hasPlayed, .ref a_feltNow, .ref a_last, .ref a_kept, .int m_hasSeconds, .int m_hasTurned, .int 1, .ref a_hasFeels, .ref a_isOn, .int m_firstAct, .long m_meanTop, .long m_meanBy, .ref a_order, .int m_rowMany, .int m_newSteps])), (a_tape, .inl (cA.1 2, 900, .inl g_tape))]) [1, 2, 0, 3, 4] rfl
                have hD := hD.sub (ws' := [(a_c, .inl (cA.1 0, 1825, .inl g_295)), (a_words, .inl (cA.1 1, 105, .inr (.inl g_words))), (a_isOn, .inl (cA.1 3, 10, .inl g_isOn)), (h0, .inr (12, [.int m_status, .int m_thrown, .long m_above, .long m_under, .ref a_traySort, .ref a_trayMany, .ref a_numbers, .ref a_tape, .int m_taped, .int m_textEnd, .int m_faultKind, .int m_faultAt, .int n_269, .int n_270, .int n_298, .int n_299, .int n_300, .int n_301, .int n_302, .long n_303, .ref a_c, .ref a_words, .int m_markMany, .ref a_there, .ref a_tried, .ref a_best, .ref a_found, .int m_thereMany, .int m_foundMany, .int m_orderHow, .int m_orderRing, .int m_orderMany, .int m_hasBest, .long m_bestTop, .long m_bestBy, .ref a_weights, .ref a_shared, .int m_random, .int m_truePlace, .int m_trueWay, .int m_seconds, .int m_done, .int m_feelings, .int m_tries, .int m_leftOver, .int m_playDoor, .int m_playRing, .int m_isOpen, .int m_isOver, .int m_wasTried, .int m_hasPlayed, .ref a_feltNow, .ref a_last, .ref a_kept, .int m_hasSeconds, .int m_hasTurned, .int 1, .ref a_hasFeels, .ref a_isOn, .int m_firstAct, .long m_meanTop, .long m_meanBy, .ref a_order, .int m_rowMany, .int m_newSteps])), (a_tape, .inl (cA.1 2, 900, .inl g_tape))]) [1, 2, 0, 3, 4] (by decide) rfl
                exact ih_262 1 g_295 n_269 n_270 n_298 n_299 n_300 n_301 n_302 n_303 H locs ls (by omega) (by decide +kernel) hC_g_295 (by omega) hr_n_298 hr_n_299 hr_n_300 hr_n_301 hr_n_302 hs_296 hs_297 (by omega) (by omega) hX_313 hP hD hS (lv_sub hl [2, 0] rfl)
            · have b_314 := z_feqF c_284
              refine lv_aload_n hx hb dX12_readRound_74 rfl (lv_at hl 1 rfl) ?_
              refine lv_bipush (v := 6) hx hb dX12_readRound_75 (by decide) ?_
              refine lv_aload_n hx hb dX12_readRound_77 rfl (lv_at hl 1 rfl) ?_
              refine va_get (D := G) (ci := 12) (v := .int v_140) (C := RX12) (T := TX12) (N := 65) hx hb hts inT12 hown hK hP 2 rfl rfl 15 (by decide) (hts _ tw_1900) (fun _ h9 => h9) rfl dX12_readRound_78 ?_
              refine z_callVv (As := [.int 6, .int v_140]) (rest := []) (wr := [(a_isOn, .inl (cA.1 3, 10, .inl g_isOn)), (a_tape, .inl (cA.1 2, 900, .inl g_tape)), (a_c, .inl (cA.1 0, 1825, .inl g_136)), (a_words, .inl (cA.1 1, 105, .inr (.inl g_words)))]) ⟨hx, hb, hml, hown, hts⟩ hK hE hT hP hD hS hA (r_fail l G cA h0 m_status m_thrown m_above m_under a_traySort a_trayMany a_numbers a_tape m_taped m_textEnd m_faultKind m_faultAt n_269 n_270 v_139 v_140 v_141 v_142 v_143 v_144 a_c a_words m_markMany a_there a_tried a_best a_found m_thereMany m_foundMany m_orderHow m_orderRing m_orderMany m_hasBest m_bestTop m_bestBy a_weights a_shared m_random m_truePlace m_trueWay m_seconds m_done m_feelings m_tries m_leftOver m_playDoor m_playRing m_isOpen m_isOver m_wasTried m_hasPlayed a_feltNow a_last a_kept m_hasSeconds m_hasTurned 1 a_hasFeels a_isOn m_firstAct m_meanTop m_meanBy a_order m_rowMany m_newSteps 6 v_140 (by decide +kernel) hr_n_269) lk_RX12_180 ⟨rfl, rfl⟩ ⟨Nat.le_of_ble_eq_true rfl, Nat.le_of_ble_eq_true rfl⟩ 12 rfl rfl rfl [2] [0, 1, 3, 4] rfl rfl (by decide) rfl hl.1 rfl (lv_room (Nat.le_of_ble_eq_true rfl)) dX12_readRound_81 ⟨Nat.le_of_ble_eq_true rfl, Nat.le_of_ble_eq_true rfl⟩ (fun u_318 H locs hw hP hD hS => ?_)
              obtain ⟨n_315, n_316⟩ := u_318
              try dsimp only at hw
              obtain ⟨he_n_315, he_n_316, hw⟩ := hw
              obtain ⟨hr_n_315, hf_320⟩ := hw
              refine lv_aload_n hx hb dX12_readRound_84 rfl (lv_at hl 1 rfl) ?_
              refine va_get (D := G) (ci := 12) (v := .int n_315) (C := RX12) (T := TX12) (N := 65) hx hb hts inT12 hown hK hP 4 rfl rfl 12 (by decide) (hts _ tw_1897) (fun _ h9 => h9) rfl dX12_readRound_85 ?_
              refine lv_if_le (tgt := 92) hx hb dX12_readRound_88 (by decide) (fun h9 => (z_no (by have h8 := z_fleT h9; omega))) (fun c_321 => ?_)
              have b_322 := z_fgtF c_321
              have hpost : (0 ≤ n_315.toInt ∧ n_315.toInt ≤ 9) ∧ (0 ≤ v_139.toInt ∧ v_139.toInt ≤ 4) ∧ (0 ≤ v_140.toInt ∧ v_140.toInt ≤ 900) ∧ (0 ≤ v_141.toInt ∧ v_141.toInt ≤ 900) ∧ (0 ≤ v_142.toInt ∧ v_142.toInt ≤ 9999) ∧ (0 ≤ v_143.toInt ∧ v_143.toInt ≤ 900) ∧ ((1 : Int32) = 0 ∨ (1 : Int32) = 1) ∧ (zC g_136) ∧ (zNw g_136 g_isOn) ∧ (m_behind.toInt ≤ v_141.toInt) ∧ (0 < m_bad.toInt → 0 < n_315.toInt) ∧ (n_315.toInt ≤ 0 → v_139.toInt = 0 ∨ m_behind.toInt < v_141.toInt) ∧ (n_315.toInt ≤ 0 → v_139.toInt = 3 → v_142.toInt = 59 → zNf g_136) := ⟨(z_rgw hr_n_315 (by decide) (by decide)), hr_v_139, hr_v_140, hr_v_141, hr_v_142, hr_v_143, (Or.inr rfl), hC_g_136, hs_201, (by omega), (by omega), (by omega), (fun _ _ _ => hs_202)⟩
              have hX_323 : F_r_readRound m_textEnd m_bad m_badAt m_token m_at m_behind m_number m_letters m_word m_hasRound g_tape g_c g_words = ((n_315, n_316, v_139, v_140, v_141, v_142, v_143, v_144, (1 : Int32), g_136) : Int32 × Int32 × Int32 × Int32 × Int32 × Int32 × Int32 × Int64 × Int32 × (Nat → Int32)) := by
                clear hret hP hD hS hl hA hT hE hK hts hown hml
                subst he_r_271
                subst he_n_269
                subst he_n_270
                subst he_x_283
                subst he_n_315
                subst he_n_316
                refine hF_L35a.trans ?_
                refine (F_r_readRound_L35a_s ..).trans ?_
                refine (if_neg c_263).trans ?_
                refine (if_pos c_277).trans ?_
                refine (if_pos c_284).trans ?_
                exact rfl
              exact hret _ _ _ _ _ (n_315, n_316, v_139, v_140, v_141, v_142, v_143, v_144, 1, g_136) [4, 1, 2, 3, 0] hP hD hS rfl (by decide) dX12_readRound_91 ⟨(congrArg (fun z9 => z9.1) hX_323).symm, (congrArg (fun z9 => z9.2.1) hX_323).symm, (congrArg (fun z9 => z9.2.2.1) hX_323).symm, (congrArg (fun z9 => z9.2.2.2.1) hX_323).symm, (congrArg (fun z9 => z9.2.2.2.2.1) hX_323).symm, (congrArg (fun z9 => z9.2.2.2.2.2.1) hX_323).symm, (congrArg (fun z9 => z9.2.2.2.2.2.2.1) hX_323).symm, (congrArg (fun z9 => z9.2.2.2.2.2.2.2.1) hX_323).symm, (congrArg (fun z9 => z9.2.2.2.2.2.2.2.2.1) hX_323).symm, (congrArg (fun z9 => z9.2.2.2.2.2.2.2.2.2) hX_323).symm, hpost⟩
    have hX_324 : F_r_readRound m_textEnd m_bad m_badAt m_token m_at m_behind m_number m_letters m_word m_hasRound g_tape g_c g_words = F_r_readRound_L35a m_textEnd g_tape g_words ((900 - n_7.toInt + (1 : Int32).toInt).toNat + 1) (1 : Int32) g_c m_bad m_badAt n_5 n_6 n_7 n_8 n_9 n_10 := by
      clear hret hP hD hS hl hA hT hE hK hts hown hml
      subst he_n_5
      subst he_n_6
      subst he_n_7
      subst he_n_8
      subst he_n_9
      subst he_n_10
      refine (F_r_readRound_s ..).trans ?_
      refine (if_pos c_1).trans ?_
      exact rfl
    exact hlp_261 ((900 - n_7.toInt + (1 : Int32).toInt).toNat + 1) 1 g_c m_bad m_badAt n_5 n_6 n_7 n_8 n_9 n_10 _ _ _ (Nat.lt_succ_self _) (by decide +kernel) hC_g_c hr_m_bad hr_n_5 hr_n_6 hr_n_7 hr_n_8 hr_n_9 hNW0 hNF0 (by omega) (by omega) hX_324 hP hD hS (lv_sub hl [1, 0] rfl)
  · have b_325 := z_fneF c_1
    refine lv_aload_n hx hb dX12_readRound_7 rfl (lv_at hl 0 rfl) ?_
    refine lv_iconst (v := 5) hx hb dX12_readRound_8 (by decide) ?_
    refine lv_aload_n hx hb dX12_readRound_9 rfl (lv_at hl 0 rfl) ?_
    refine va_get (D := G) (ci := 12) (v := .int m_at) (C := RX12) (T := TX12) (N := 65) hx hb hts inT12 hown hK hP 0 rfl rfl 15 (by decide) (hts _ tw_1900) (fun _ h9 => h9) rfl dX12_readRound_10 ?_
    refine z_callVv (As := [.int 5, .int m_at]) (rest := []) (wr := [(a_tape, .inl (cA.1 2, 900, .inl g_tape)), (a_c, .inl (cA.1 0, 1825, .inl g_c)), (a_words, .inl (cA.1 1, 105, .inr (.inl g_words))), (a_isOn, .inl (cA.1 3, 10, .inl g_isOn))]) ⟨hx, hb, hml, hown, hts⟩ hK hE hT hP hD hS hA (r_fail l G cA h0 m_status m_thrown m_above m_under a_traySort a_trayMany a_numbers a_tape m_taped m_textEnd m_faultKind m_faultAt m_bad m_badAt m_token m_at m_behind m_number m_letters m_word a_c a_words m_markMany a_there a_tried a_best a_found m_thereMany m_foundMany m_orderHow m_orderRing m_orderMany m_hasBest m_bestTop m_bestBy a_weights a_shared m_random m_truePlace m_trueWay m_seconds m_done m_feelings m_tries m_leftOver m_playDoor m_playRing m_isOpen m_isOver m_wasTried m_hasPlayed a_feltNow a_last a_kept m_hasSeconds m_hasTurned m_hasRound a_hasFeels a_isOn m_firstAct m_meanTop m_meanBy a_order m_rowMany m_newSteps 5 m_at (by decide +kernel) (z_rgw hr_m_bad (by decide) (by decide))) lk_RX12_180 ⟨rfl, rfl⟩ ⟨Nat.le_of_ble_eq_true rfl, Nat.le_of_ble_eq_true rfl⟩ 12 rfl rfl rfl [0] [1, 2, 3, 4] rfl rfl (by decide) rfl hl.1 rfl (lv_room (Nat.le_of_ble_eq_true rfl)) dX12_readRound_13 ⟨Nat.le_of_ble_eq_true rfl, Nat.le_of_ble_eq_true rfl⟩ (fun u_329 H locs hw hP hD hS => ?_)
    obtain ⟨n_326, n_327⟩ := u_329
    try dsimp only at hw
    obtain ⟨he_n_326, he_n_327, hw⟩ := hw
    obtain ⟨hr_n_326, hf_331⟩ := hw
    refine lv_aload_n hx hb dX12_readRound_16 rfl (lv_at hl 0 rfl) ?_
    refine va_get (D := G) (ci := 12) (v := .int n_326) (C := RX12) (T := TX12) (N := 65) hx hb hts inT12 hown hK hP 4 rfl rfl 12 (by decide) (hts _ tw_1897) (fun _ h9 => h9) rfl dX12_readRound_17 ?_
    refine lv_if_le (tgt := 24) hx hb dX12_readRound_20 (by decide) (fun h9 => (z_no (by have h8 := z_fleT h9; omega))) (fun c_332 => ?_)
    have b_333 := z_fgtF c_332
    have hpost : (0 ≤ n_326.toInt ∧ n_326.toInt ≤ 9) ∧ (0 ≤ m_token.toInt ∧ m_token.toInt ≤ 4) ∧ (0 ≤ m_at.toInt ∧ m_at.toInt ≤ 900) ∧ (0 ≤ m_behind.toInt ∧ m_behind.toInt ≤ 900) ∧ (0 ≤ m_number.toInt ∧ m_number.toInt ≤ 9999) ∧ (0 ≤ m_letters.toInt ∧ m_letters.toInt ≤ 900) ∧ (m_hasRound = 0 ∨ m_hasRound = 1) ∧ (zC g_c) ∧ (zNw g_c g_isOn) ∧ (m_behind.toInt ≤ m_behind.toInt) ∧ (0 < m_bad.toInt → 0 < n_326.toInt) ∧ (n_326.toInt ≤ 0 → m_token.toInt = 0 ∨ m_behind.toInt < m_behind.toInt) ∧ (n_326.toInt ≤ 0 → m_token.toInt = 3 → m_number.toInt = 59 → zNf g_c) := ⟨(z_rgw hr_n_326 (by decide) (by decide)), hr_m_token, hr_m_at, hr_m_behind, hr_m_number, hr_m_letters, hz_m_hasRound, hC_g_c, hNW0, (by omega), (by omega), (by omega), (fun _ _ _ => hNF0)⟩
    have hX_334 : F_r_readRound m_textEnd m_bad m_badAt m_token m_at m_behind m_number m_letters m_word m_hasRound g_tape g_c g_words = ((n_326, n_327, m_token, m_at, m_behind, m_number, m_letters, m_word, m_hasRound, g_c) : Int32 × Int32 × Int32 × Int32 × Int32 × Int32 × Int32 × Int64 × Int32 × (Nat → Int32)) := by
      clear hret hP hD hS hl hA hT hE hK hts hown hml
      subst he_n_326
      subst he_n_327
      refine (F_r_readRound_s ..).trans ?_
      refine (if_neg c_1).trans ?_
      exact rfl
    exact hret _ _ _ _ _ (n_326, n_327, m_token, m_at, m_behind, m_number, m_letters, m_word, m_hasRound, g_c) [4, 0, 1, 2, 3] hP hD hS rfl (by decide) dX12_readRound_23 ⟨(congrArg (fun z9 => z9.1) hX_334).symm, (congrArg (fun z9 => z9.2.1) hX_334).symm, (congrArg (fun z9 => z9.2.2.1) hX_334).symm, (congrArg (fun z9 => z9.2.2.2.1) hX_334).symm, (congrArg (fun z9 => z9.2.2.2.2.1) hX_334).symm, (congrArg (fun z9 => z9.2.2.2.2.2.1) hX_334).symm, (congrArg (fun z9 => z9.2.2.2.2.2.2.1) hX_334).symm, (congrArg (fun z9 => z9.2.2.2.2.2.2.2.1) hX_334).symm, (congrArg (fun z9 => z9.2.2.2.2.2.2.2.2.1) hX_334).symm, (congrArg (fun z9 => z9.2.2.2.2.2.2.2.2.2) hX_334).symm, hpost⟩
set_option maxHeartbeats 40000000 in
set_option maxRecDepth 100000 in
theorem r_isTurn (l : Launch) (G : va_G) (cA : zCA) (h0 : Nat) (m_status : Int32) (m_thrown : Int32) (m_above : Int64) (m_under : Int64) (a_traySort : Nat) (a_trayMany : Nat) (a_numbers : Nat) (a_tape : Nat) (m_taped : Int32) (m_textEnd : Int32) (m_faultKind : Int32) (m_faultAt : Int32) (m_bad : Int32) (m_badAt : Int32) (m_token : Int32) (m_at : Int32) (m_behind : Int32) (m_number : Int32) (m_letters : Int32) (m_word : Int64) (a_c : Nat) (a_words : Nat) (m_markMany : Int32) (a_there : Nat) (a_tried : Nat) (a_best : Nat) (a_found : Nat) (m_thereMany : Int32) (m_foundMany : Int32) (m_orderHow : Int32) (m_orderRing : Int32) (m_orderMany : Int32) (m_hasBest : Int32) (m_bestTop : Int64) (m_bestBy : Int64) (a_weights : Nat) (a_shared : Nat) (m_random : Int32) (m_truePlace : Int32) (m_trueWay : Int32) (m_seconds : Int32) (m_done : Int32) (m_feelings : Int32) (m_tries : Int32) (m_leftOver : Int32) (m_playDoor : Int32) (m_playRing : Int32) (m_isOpen : Int32) (m_isOver : Int32) (m_wasTried : Int32) (m_hasPlayed : Int32) (a_feltNow : Nat) (a_last : Nat) (a_kept : Nat) (m_hasSeconds : Int32) (m_hasTurned : Int32) (m_hasRound : Int32) (a_hasFeels : Nat) (a_isOn : Nat) (m_firstAct : Int32) (m_meanTop : Int64) (m_meanBy : Int64) (a_order : Nat) (m_rowMany : Int32) (m_newSteps : Int32) (hr_m_token : 0 ≤ m_token.toInt ∧ m_token.toInt ≤ 4) : zCi l yX12_isTurn cX12_isTurn 1 (some .boolean) ({ frames := 1, cells := 0, slots := 0, locals := 27 }) G cA [.ref h0] [(h0, .inr (12, [.int m_status, .int m_thrown, .long m_above, .long m_under, .ref a_traySort, .ref a_trayMany, .ref a_numbers, .ref a_tape, .int m_taped, .int m_textEnd, .int m_faultKind, .int m_faultAt, .int m_bad, .int m_badAt, .int m_token, .int m_at, .int m_behind, .int m_number, .int m_letters, .long m_word, .ref a_c, .ref a_words, .int m_markMany, .ref a_there, .ref a_tried, .ref a_best, .ref a_found, .int m_thereMany, .int m_foundMany, .int m_orderHow, .int m_orderRing, .int m_orderMany, .int m_hasBest, .long m_bestTop, .long m_bestBy, .ref a_weights, .ref a_shared, .int m_random, .int m_truePlace, .int m_trueWay, .int m_seconds, .int m_done, .int m_feelings, .int m_tries, .int m_leftOver, .int m_playDoor, .int m_playRing, .int m_isOpen, .int m_isOver, .int m_wasTried, .int m_hasPlayed, .ref a_feltNow, .ref a_last, .ref a_kept, .int m_hasSeconds, .int m_hasTurned, .int m_hasRound, .ref a_hasFeels, .ref a_isOn, .int m_firstAct, .long m_meanTop, .long m_meanBy, .ref a_order, .int m_rowMany, .int m_newSteps]))] (S := Unit) (fun (r : Int32) (u : Unit) => (r = (F_r_isTurn m_token m_word)) ∧ ((r = 0 ∧ True) ∨ (r = 1 ∧ (m_token.toInt = 1)))) (fun (u : Unit) => [(h0, .inr (12, [.int m_status, .int m_thrown, .long m_above, .long m_under, .ref a_traySort, .ref a_trayMany, .ref a_numbers, .ref a_tape, .int m_taped, .int m_textEnd, .int m_faultKind, .int m_faultAt, .int m_bad, .int m_badAt, .int m_token, .int m_at, .int m_behind, .int m_number, .int m_letters, .long m_word, .ref a_c, .ref a_words, .int m_markMany, .ref a_there, .ref a_tried, .ref a_best, .ref a_found, .int m_thereMany, .int m_foundMany, .int m_orderHow, .int m_orderRing, .int m_orderMany, .int m_hasBest, .long m_bestTop, .long m_bestBy, .ref a_weights, .ref a_shared, .int m_random, .int m_truePlace, .int m_trueWay, .int m_seconds, .int m_done, .int m_feelings, .int m_tries, .int m_leftOver, .int m_playDoor, .int m_playRing, .int m_isOpen, .int m_isOver, .int m_wasTried, .int m_hasPlayed, .ref a_feltNow, .ref a_last, .ref a_kept, .int m_hasSeconds, .int m_hasTurned, .int m_hasRound, .ref a_hasFeels, .ref a_isOn, .int m_firstAct, .long m_meanTop, .long m_meanBy, .ref a_order, .int m_rowMany, .int m_newSteps]))]) 0 0 := by
  have hk_0 : (0 : Int32).toInt = 0 := by decide +kernel
  have hk_110 : (110 : Int32).toInt = 110 := by decide +kernel
  have hk_114 : (114 : Int32).toInt = 114 := by decide +kernel
  have hk_116 : (116 : Int32).toInt = 116 := by decide +kernel
  have hk_117 : (117 : Int32).toInt = 117 := by decide +kernel
  refine z_start2z (own := RX12) (by decide) (Nat.le_of_ble_eq_true rfl) rfl ?_
  intro p e s m args below meth c A ls Q hx hb hml hts hown hK hE hT hP hD hS hA hl hret
  have hl : lv_has ls 1 [(0, .ref h0)] := hl
  refine lv_aload_n hx hb dX12_isTurn_0 rfl (lv_at hl 0 rfl) ?_
  refine lv_bipush (v := 116) hx hb dX12_isTurn_1 (by decide) ?_
  refine lv_bipush (v := 117) hx hb dX12_isTurn_3 (by decide) ?_
  refine lv_bipush (v := 114) hx hb dX12_isTurn_5 (by decide) ?_
  refine lv_bipush (v := 110) hx hb dX12_isTurn_7 (by decide) ?_
  refine lv_iconst (v := 0) hx hb dX12_isTurn_9 (by decide) ?_
  refine lv_iconst (v := 0) hx hb dX12_isTurn_10 (by decide) ?_
  refine z_callSl (As := [.int 116, .int 117, .int 114, .int 110, .int 0, .int 0]) (rest := [.ref h0]) (wr := [(h0, .inr (12, [.int m_status, .int m_thrown, .long m_above, .long m_under, .ref a_traySort, .ref a_trayMany, .ref a_numbers, .ref a_tape, .int m_taped, .int m_textEnd, .int m_faultKind, .int m_faultAt, .int m_bad, .int m_badAt, .int m_token, .int m_at, .int m_behind, .int m_number, .int m_letters, .long m_word, .ref a_c, .ref a_words, .int m_markMany, .ref a_there, .ref a_tried, .ref a_best, .ref a_found, .int m_thereMany, .int m_foundMany, .int m_orderHow, .int m_orderRing, .int m_orderMany, .int m_hasBest, .long m_bestTop, .long m_bestBy, .ref a_weights, .ref a_shared, .int m_random, .int m_truePlace, .int m_trueWay, .int m_seconds, .int m_done, .int m_feelings, .int m_tries, .int m_leftOver, .int m_playDoor, .int m_playRing, .int m_isOpen, .int m_isOver, .int m_wasTried, .int m_hasPlayed, .ref a_feltNow, .ref a_last, .ref a_kept, .int m_hasSeconds, .int m_hasTurned, .int m_hasRound, .ref a_hasFeels, .ref a_isOn, .int m_firstAct, .long m_meanTop, .long m_meanBy, .ref a_order, .int m_rowMany, .int m_newSteps]))]) ⟨hx, hb, hml, hown, hts⟩ hK hE hT hP hD hS hA (r_spelled l G cA 116 117 114 110 0 0 (by decide +kernel) (by decide +kernel) (by decide +kernel) (by decide +kernel) (by decide +kernel) (by decide +kernel)) lk_RX12_158 ⟨rfl, rfl⟩ ⟨Nat.le_of_ble_eq_true rfl, Nat.le_of_ble_eq_true rfl⟩ [] [0] rfl rfl (by decide) rfl hl.1 rfl (lv_room (Nat.le_of_ble_eq_true rfl)) dX12_isTurn_11 ⟨Nat.le_of_ble_eq_true rfl, Nat.le_of_ble_eq_true rfl⟩ (fun r_1 u_2 H locs hw hP hD hS => ?_)
  obtain ⟨he_r_1, hw⟩ := hw
  have hr_r_1 := hw
  refine z_callVi (As := [.long r_1]) (rest := []) (wr := []) ⟨hx, hb, hml, hown, hts⟩ hK hE hT hP hD hS hA (r_isWord l G cA h0 m_status m_thrown m_above m_under a_traySort a_trayMany a_numbers a_tape m_taped m_textEnd m_faultKind m_faultAt m_bad m_badAt m_token m_at m_behind m_number m_letters m_word a_c a_words m_markMany a_there a_tried a_best a_found m_thereMany m_foundMany m_orderHow m_orderRing m_orderMany m_hasBest m_bestTop m_bestBy a_weights a_shared m_random m_truePlace m_trueWay m_seconds m_done m_feelings m_tries m_leftOver m_playDoor m_playRing m_isOpen m_isOver m_wasTried m_hasPlayed a_feltNow a_last a_kept m_hasSeconds m_hasTurned m_hasRound a_hasFeels a_isOn m_firstAct m_meanTop m_meanBy a_order m_rowMany m_newSteps r_1 hr_m_token) lk_RX12_164 ⟨rfl, rfl⟩ ⟨Nat.le_of_ble_eq_true rfl, Nat.le_of_ble_eq_true rfl⟩ 12 rfl rfl rfl [0] [] rfl rfl (by decide) rfl hl.1 rfl (lv_room (Nat.le_of_ble_eq_true rfl)) dX12_isTurn_14 ⟨Nat.le_of_ble_eq_true rfl, Nat.le_of_ble_eq_true rfl⟩ (fun r_4 u_5 H locs hw hP hD hS => ?_)
  obtain ⟨he_r_4, hw⟩ := hw
  rcases hw with ⟨rfl, -⟩ | ⟨rfl, hf_7⟩
  · skip
    have hpost : ((0 : Int32) = 0 ∧ True) ∨ ((0 : Int32) = 1 ∧ (m_token.toInt = 1)) := (Or.inl ⟨rfl, trivial⟩)
    have hX_8 : F_r_isTurn m_token m_word = ((0 : Int32) : Int32) := by
      clear hret hP hD hS hl hA hT hE hK hts hown hml
      subst he_r_1
      refine (F_r_isTurn_s ..).trans ?_
      refine (if_pos he_r_4.symm).trans ?_
      exact rfl
    exact hret _ _ _ _ _ _ () [0] hP hD hS rfl (by decide) dX12_isTurn_17 (Or.inl rfl) ⟨(congrArg (fun z9 => z9) hX_8).symm, hpost⟩
  · skip
    have hpost : ((1 : Int32) = 0 ∧ True) ∨ ((1 : Int32) = 1 ∧ (m_token.toInt = 1)) := (Or.inr ⟨rfl, (by omega)⟩)
    have hX_9 : F_r_isTurn m_token m_word = ((1 : Int32) : Int32) := by
      clear hret hP hD hS hl hA hT hE hK hts hown hml
      subst he_r_1
      refine (F_r_isTurn_s ..).trans ?_
      refine (if_neg (fun h9 => absurd (he_r_4.trans h9) (by decide))).trans ?_
      exact rfl
    exact hret _ _ _ _ _ _ () [0] hP hD hS rfl (by decide) dX12_isTurn_17 (Or.inr rfl) ⟨(congrArg (fun z9 => z9) hX_9).symm, hpost⟩
set_option maxHeartbeats 40000000 in
set_option maxRecDepth 100000 in
theorem r_isStop (l : Launch) (G : va_G) (cA : zCA) (h0 : Nat) (m_status : Int32) (m_thrown : Int32) (m_above : Int64) (m_under : Int64) (a_traySort : Nat) (a_trayMany : Nat) (a_numbers : Nat) (a_tape : Nat) (m_taped : Int32) (m_textEnd : Int32) (m_faultKind : Int32) (m_faultAt : Int32) (m_bad : Int32) (m_badAt : Int32) (m_token : Int32) (m_at : Int32) (m_behind : Int32) (m_number : Int32) (m_letters : Int32) (m_word : Int64) (a_c : Nat) (a_words : Nat) (m_markMany : Int32) (a_there : Nat) (a_tried : Nat) (a_best : Nat) (a_found : Nat) (m_thereMany : Int32) (m_foundMany : Int32) (m_orderHow : Int32) (m_orderRing : Int32) (m_orderMany : Int32) (m_hasBest : Int32) (m_bestTop : Int64) (m_bestBy : Int64) (a_weights : Nat) (a_shared : Nat) (m_random : Int32) (m_truePlace : Int32) (m_trueWay : Int32) (m_seconds : Int32) (m_done : Int32) (m_feelings : Int32) (m_tries : Int32) (m_leftOver : Int32) (m_playDoor : Int32) (m_playRing : Int32) (m_isOpen : Int32) (m_isOver : Int32) (m_wasTried : Int32) (m_hasPlayed : Int32) (a_feltNow : Nat) (a_last : Nat) (a_kept : Nat) (m_hasSeconds : Int32) (m_hasTurned : Int32) (m_hasRound : Int32) (a_hasFeels : Nat) (a_isOn : Nat) (m_firstAct : Int32) (m_meanTop : Int64) (m_meanBy : Int64) (a_order : Nat) (m_rowMany : Int32) (m_newSteps : Int32) (hr_m_token : 0 ≤ m_token.toInt ∧ m_token.toInt ≤ 4) : zCi l yX12_isStop cX12_isStop 1 (some .boolean) ({ frames := 1, cells := 0, slots := 0, locals := 27 }) G cA [.ref h0] [(h0, .inr (12, [.int m_status, .int m_thrown, .long m_above, .long m_under, .ref a_traySort, .ref a_trayMany, .ref a_numbers, .ref a_tape, .int m_taped, .int m_textEnd, .int m_faultKind, .int m_faultAt, .int m_bad, .int m_badAt, .int m_token, .int m_at, .int m_behind, .int m_number, .int m_letters, .long m_word, .ref a_c, .ref a_words, .int m_markMany, .ref a_there, .ref a_tried, .ref a_best, .ref a_found, .int m_thereMany, .int m_foundMany, .int m_orderHow, .int m_orderRing, .int m_orderMany, .int m_hasBest, .long m_bestTop, .long m_bestBy, .ref a_weights, .ref a_shared, .int m_random, .int m_truePlace, .int m_trueWay, .int m_seconds, .int m_done, .int m_feelings, .int m_tries, .int m_leftOver, .int m_playDoor, .int m_playRing, .int m_isOpen, .int m_isOver, .int m_wasTried, .int m_hasPlayed, .ref a_feltNow, .ref a_last, .ref a_kept, .int m_hasSeconds, .int m_hasTurned, .int m_hasRound, .ref a_hasFeels, .ref a_isOn, .int m_firstAct, .long m_meanTop, .long m_meanBy, .ref a_order, .int m_rowMany, .int m_newSteps]))] (S := Unit) (fun (r : Int32) (u : Unit) => (r = (F_r_isStop m_token m_word)) ∧ ((r = 0 ∧ True) ∨ (r = 1 ∧ (m_token.toInt = 1)))) (fun (u : Unit) => [(h0, .inr (12, [.int m_status, .int m_thrown, .long m_above, .long m_under, .ref a_traySort, .ref a_trayMany, .ref a_numbers, .ref a_tape, .int m_taped, .int m_textEnd, .int m_faultKind, .int m_faultAt, .int m_bad, .int m_badAt, .int m_token, .int m_at, .int m_behind, .int m_number, .int m_letters, .long m_word, .ref a_c, .ref a_words, .int m_markMany, .ref a_there, .ref a_tried, .ref a_best, .ref a_found, .int m_thereMany, .int m_foundMany, .int m_orderHow, .int m_orderRing, .int m_orderMany, .int m_hasBest, .long m_bestTop, .long m_bestBy, .ref a_weights, .ref a_shared, .int m_random, .int m_truePlace, .int m_trueWay, .int m_seconds, .int m_done, .int m_feelings, .int m_tries, .int m_leftOver, .int m_playDoor, .int m_playRing, .int m_isOpen, .int m_isOver, .int m_wasTried, .int m_hasPlayed, .ref a_feltNow, .ref a_last, .ref a_kept, .int m_hasSeconds, .int m_hasTurned, .int m_hasRound, .ref a_hasFeels, .ref a_isOn, .int m_firstAct, .long m_meanTop, .long m_meanBy, .ref a_order, .int m_rowMany, .int m_newSteps]))]) 0 0 := by
  have hk_0 : (0 : Int32).toInt = 0 := by decide +kernel
  have hk_111 : (111 : Int32).toInt = 111 := by decide +kernel
  have hk_112 : (112 : Int32).toInt = 112 := by decide +kernel
  have hk_115 : (115 : Int32).toInt = 115 := by decide +kernel
  have hk_116 : (116 : Int32).toInt = 116 := by decide +kernel
  refine z_start2z (own := RX12) (by decide) (Nat.le_of_ble_eq_true rfl) rfl ?_
  intro p e s m args below meth c A ls Q hx hb hml hts hown hK hE hT hP hD hS hA hl hret
  have hl : lv_has ls 1 [(0, .ref h0)] := hl
  refine lv_aload_n hx hb dX12_isStop_0 rfl (lv_at hl 0 rfl) ?_
  refine lv_bipush (v := 115) hx hb dX12_isStop_1 (by decide) ?_
  refine lv_bipush (v := 116) hx hb dX12_isStop_3 (by decide) ?_
  refine lv_bipush (v := 111) hx hb dX12_isStop_5 (by decide) ?_
  refine lv_bipush (v := 112) hx hb dX12_isStop_7 (by decide) ?_
  refine lv_iconst (v := 0) hx hb dX12_isStop_9 (by decide) ?_
  refine lv_iconst (v := 0) hx hb dX12_isStop_10 (by decide) ?_
  refine z_callSl (As := [.int 115, .int 116, .int 111, .int 112, .int 0, .int 0]) (rest := [.ref h0]) (wr := [(h0, .inr (12, [.int m_status, .int m_thrown, .long m_above, .long m_under, .ref a_traySort, .ref a_trayMany, .ref a_numbers, .ref a_tape, .int m_taped, .int m_textEnd, .int m_faultKind, .int m_faultAt, .int m_bad, .int m_badAt, .int m_token, .int m_at, .int m_behind, .int m_number, .int m_letters, .long m_word, .ref a_c, .ref a_words, .int m_markMany, .ref a_there, .ref a_tried, .ref a_best, .ref a_found, .int m_thereMany, .int m_foundMany, .int m_orderHow, .int m_orderRing, .int m_orderMany, .int m_hasBest, .long m_bestTop, .long m_bestBy, .ref a_weights, .ref a_shared, .int m_random, .int m_truePlace, .int m_trueWay, .int m_seconds, .int m_done, .int m_feelings, .int m_tries, .int m_leftOver, .int m_playDoor, .int m_playRing, .int m_isOpen, .int m_isOver, .int m_wasTried, .int m_hasPlayed, .ref a_feltNow, .ref a_last, .ref a_kept, .int m_hasSeconds, .int m_hasTurned, .int m_hasRound, .ref a_hasFeels, .ref a_isOn, .int m_firstAct, .long m_meanTop, .long m_meanBy, .ref a_order, .int m_rowMany, .int m_newSteps]))]) ⟨hx, hb, hml, hown, hts⟩ hK hE hT hP hD hS hA (r_spelled l G cA 115 116 111 112 0 0 (by decide +kernel) (by decide +kernel) (by decide +kernel) (by decide +kernel) (by decide +kernel) (by decide +kernel)) lk_RX12_158 ⟨rfl, rfl⟩ ⟨Nat.le_of_ble_eq_true rfl, Nat.le_of_ble_eq_true rfl⟩ [] [0] rfl rfl (by decide) rfl hl.1 rfl (lv_room (Nat.le_of_ble_eq_true rfl)) dX12_isStop_11 ⟨Nat.le_of_ble_eq_true rfl, Nat.le_of_ble_eq_true rfl⟩ (fun r_1 u_2 H locs hw hP hD hS => ?_)
  obtain ⟨he_r_1, hw⟩ := hw
  have hr_r_1 := hw
  refine z_callVi (As := [.long r_1]) (rest := []) (wr := []) ⟨hx, hb, hml, hown, hts⟩ hK hE hT hP hD hS hA (r_isWord l G cA h0 m_status m_thrown m_above m_under a_traySort a_trayMany a_numbers a_tape m_taped m_textEnd m_faultKind m_faultAt m_bad m_badAt m_token m_at m_behind m_number m_letters m_word a_c a_words m_markMany a_there a_tried a_best a_found m_thereMany m_foundMany m_orderHow m_orderRing m_orderMany m_hasBest m_bestTop m_bestBy a_weights a_shared m_random m_truePlace m_trueWay m_seconds m_done m_feelings m_tries m_leftOver m_playDoor m_playRing m_isOpen m_isOver m_wasTried m_hasPlayed a_feltNow a_last a_kept m_hasSeconds m_hasTurned m_hasRound a_hasFeels a_isOn m_firstAct m_meanTop m_meanBy a_order m_rowMany m_newSteps r_1 hr_m_token) lk_RX12_164 ⟨rfl, rfl⟩ ⟨Nat.le_of_ble_eq_true rfl, Nat.le_of_ble_eq_true rfl⟩ 12 rfl rfl rfl [0] [] rfl rfl (by decide) rfl hl.1 rfl (lv_room (Nat.le_of_ble_eq_true rfl)) dX12_isStop_14 ⟨Nat.le_of_ble_eq_true rfl, Nat.le_of_ble_eq_true rfl⟩ (fun r_4 u_5 H locs hw hP hD hS => ?_)
  obtain ⟨he_r_4, hw⟩ := hw
  rcases hw with ⟨rfl, -⟩ | ⟨rfl, hf_7⟩
  · skip
    have hpost : ((0 : Int32) = 0 ∧ True) ∨ ((0 : Int32) = 1 ∧ (m_token.toInt = 1)) := (Or.inl ⟨rfl, trivial⟩)
    have hX_8 : F_r_isStop m_token m_word = ((0 : Int32) : Int32) := by
      clear hret hP hD hS hl hA hT hE hK hts hown hml
      subst he_r_1
      refine (F_r_isStop_s ..).trans ?_
      refine (if_pos he_r_4.symm).trans ?_
      exact rfl
    exact hret _ _ _ _ _ _ () [0] hP hD hS rfl (by decide) dX12_isStop_17 (Or.inl rfl) ⟨(congrArg (fun z9 => z9) hX_8).symm, hpost⟩
  · skip
    have hpost : ((1 : Int32) = 0 ∧ True) ∨ ((1 : Int32) = 1 ∧ (m_token.toInt = 1)) := (Or.inr ⟨rfl, (by omega)⟩)
    have hX_9 : F_r_isStop m_token m_word = ((1 : Int32) : Int32) := by
      clear hret hP hD hS hl hA hT hE hK hts hown hml
      subst he_r_1
      refine (F_r_isStop_s ..).trans ?_
      refine (if_neg (fun h9 => absurd (he_r_4.trans h9) (by decide))).trans ?_
      exact rfl
    exact hret _ _ _ _ _ _ () [0] hP hD hS rfl (by decide) dX12_isStop_17 (Or.inr rfl) ⟨(congrArg (fun z9 => z9) hX_9).symm, hpost⟩
set_option maxHeartbeats 40000000 in
set_option maxRecDepth 100000 in
theorem r_isWhen (l : Launch) (G : va_G) (cA : zCA) (h0 : Nat) (m_status : Int32) (m_thrown : Int32) (m_above : Int64) (m_under : Int64) (a_traySort : Nat) (a_trayMany : Nat) (a_numbers : Nat) (a_tape : Nat) (m_taped : Int32) (m_textEnd : Int32) (m_faultKind : Int32) (m_faultAt : Int32) (m_bad : Int32) (m_badAt : Int32) (m_token : Int32) (m_at : Int32) (m_behind : Int32) (m_number : Int32) (m_letters : Int32) (m_word : Int64) (a_c : Nat) (a_words : Nat) (m_markMany : Int32) (a_there : Nat) (a_tried : Nat) (a_best : Nat) (a_found : Nat) (m_thereMany : Int32) (m_foundMany : Int32) (m_orderHow : Int32) (m_orderRing : Int32) (m_orderMany : Int32) (m_hasBest : Int32) (m_bestTop : Int64) (m_bestBy : Int64) (a_weights : Nat) (a_shared : Nat) (m_random : Int32) (m_truePlace : Int32) (m_trueWay : Int32) (m_seconds : Int32) (m_done : Int32) (m_feelings : Int32) (m_tries : Int32) (m_leftOver : Int32) (m_playDoor : Int32) (m_playRing : Int32) (m_isOpen : Int32) (m_isOver : Int32) (m_wasTried : Int32) (m_hasPlayed : Int32) (a_feltNow : Nat) (a_last : Nat) (a_kept : Nat) (m_hasSeconds : Int32) (m_hasTurned : Int32) (m_hasRound : Int32) (a_hasFeels : Nat) (a_isOn : Nat) (m_firstAct : Int32) (m_meanTop : Int64) (m_meanBy : Int64) (a_order : Nat) (m_rowMany : Int32) (m_newSteps : Int32) (hr_m_token : 0 ≤ m_token.toInt ∧ m_token.toInt ≤ 4) : zCi l yX12_isWhen cX12_isWhen 1 (some .boolean) ({ frames := 1, cells := 0, slots := 0, locals := 27 }) G cA [.ref h0] [(h0, .inr (12, [.int m_status, .int m_thrown, .long m_above, .long m_under, .ref a_traySort, .ref a_trayMany, .ref a_numbers, .ref a_tape, .int m_taped, .int m_textEnd, .int m_faultKind, .int m_faultAt, .int m_bad, .int m_badAt, .int m_token, .int m_at, .int m_behind, .int m_number, .int m_letters, .long m_word, .ref a_c, .ref a_words, .int m_markMany, .ref a_there, .ref a_tried, .ref a_best, .ref a_found, .int m_thereMany, .int m_foundMany, .int m_orderHow, .int m_orderRing, .int m_orderMany, .int m_hasBest, .long m_bestTop, .long m_bestBy, .ref a_weights, .ref a_shared, .int m_random, .int m_truePlace, .int m_trueWay, .int m_seconds, .int m_done, .int m_feelings, .int m_tries, .int m_leftOver, .int m_playDoor, .int m_playRing, .int m_isOpen, .int m_isOver, .int m_wasTried, .int m_hasPlayed, .ref a_feltNow, .ref a_last, .ref a_kept, .int m_hasSeconds, .int m_hasTurned, .int m_hasRound, .ref a_hasFeels, .ref a_isOn, .int m_firstAct, .long m_meanTop, .long m_meanBy, .ref a_order, .int m_rowMany, .int m_newSteps]))] (S := Unit) (fun (r : Int32) (u : Unit) => (r = (F_r_isWhen m_token m_word)) ∧ ((r = 0 ∧ True) ∨ (r = 1 ∧ (m_token.toInt = 1)))) (fun (u : Unit) => [(h0, .inr (12, [.int m_status, .int m_thrown, .long m_above, .long m_under, .ref a_traySort, .ref a_trayMany, .ref a_numbers, .ref a_tape, .int m_taped, .int m_textEnd, .int m_faultKind, .int m_faultAt, .int m_bad, .int m_badAt, .int m_token, .int m_at, .int m_behind, .int m_number, .int m_letters, .long m_word, .ref a_c, .ref a_words, .int m_markMany, .ref a_there, .ref a_tried, .ref a_best, .ref a_found, .int m_thereMany, .int m_foundMany, .int m_orderHow, .int m_orderRing, .int m_orderMany, .int m_hasBest, .long m_bestTop, .long m_bestBy, .ref a_weights, .ref a_shared, .int m_random, .int m_truePlace, .int m_trueWay, .int m_seconds, .int m_done, .int m_feelings, .int m_tries, .int m_leftOver, .int m_playDoor, .int m_playRing, .int m_isOpen, .int m_isOver, .int m_wasTried, .int m_hasPlayed, .ref a_feltNow, .ref a_last, .ref a_kept, .int m_hasSeconds, .int m_hasTurned, .int m_hasRound, .ref a_hasFeels, .ref a_isOn, .int m_firstAct, .long m_meanTop, .long m_meanBy, .ref a_order, .int m_rowMany, .int m_newSteps]))]) 0 0 := by
  have hk_0 : (0 : Int32).toInt = 0 := by decide +kernel
  have hk_101 : (101 : Int32).toInt = 101 := by decide +kernel
  have hk_104 : (104 : Int32).toInt = 104 := by decide +kernel
  have hk_110 : (110 : Int32).toInt = 110 := by decide +kernel
  have hk_119 : (119 : Int32).toInt = 119 := by decide +kernel
  refine z_start2z (own := RX12) (by decide) (Nat.le_of_ble_eq_true rfl) rfl ?_
  intro p e s m args below meth c A ls Q hx hb hml hts hown hK hE hT hP hD hS hA hl hret
  have hl : lv_has ls 1 [(0, .ref h0)] := hl
  refine lv_aload_n hx hb dX12_isWhen_0 rfl (lv_at hl 0 rfl) ?_
  refine lv_bipush (v := 119) hx hb dX12_isWhen_1 (by decide) ?_
  refine lv_bipush (v := 104) hx hb dX12_isWhen_3 (by decide) ?_
  refine lv_bipush (v := 101) hx hb dX12_isWhen_5 (by decide) ?_
  refine lv_bipush (v := 110) hx hb dX12_isWhen_7 (by decide) ?_
  refine lv_iconst (v := 0) hx hb dX12_isWhen_9 (by decide) ?_
  refine lv_iconst (v := 0) hx hb dX12_isWhen_10 (by decide) ?_
  refine z_callSl (As := [.int 119, .int 104, .int 101, .int 110, .int 0, .int 0]) (rest := [.ref h0]) (wr := [(h0, .inr (12, [.int m_status, .int m_thrown, .long m_above, .long m_under, .ref a_traySort, .ref a_trayMany, .ref a_numbers, .ref a_tape, .int m_taped, .int m_textEnd, .int m_faultKind, .int m_faultAt, .int m_bad, .int m_badAt, .int m_token, .int m_at, .int m_behind, .int m_number, .int m_letters, .long m_word, .ref a_c, .ref a_words, .int m_markMany, .ref a_there, .ref a_tried, .ref a_best, .ref a_found, .int m_thereMany, .int m_foundMany, .int m_orderHow, .int m_orderRing, .int m_orderMany, .int m_hasBest, .long m_bestTop, .long m_bestBy, .ref a_weights, .ref a_shared, .int m_random, .int m_truePlace, .int m_trueWay, .int m_seconds, .int m_done, .int m_feelings, .int m_tries, .int m_leftOver, .int m_playDoor, .int m_playRing, .int m_isOpen, .int m_isOver, .int m_wasTried, .int m_hasPlayed, .ref a_feltNow, .ref a_last, .ref a_kept, .int m_hasSeconds, .int m_hasTurned, .int m_hasRound, .ref a_hasFeels, .ref a_isOn, .int m_firstAct, .long m_meanTop, .long m_meanBy, .ref a_order, .int m_rowMany, .int m_newSteps]))]) ⟨hx, hb, hml, hown, hts⟩ hK hE hT hP hD hS hA (r_spelled l G cA 119 104 101 110 0 0 (by decide +kernel) (by decide +kernel) (by decide +kernel) (by decide +kernel) (by decide +kernel) (by decide +kernel)) lk_RX12_158 ⟨rfl, rfl⟩ ⟨Nat.le_of_ble_eq_true rfl, Nat.le_of_ble_eq_true rfl⟩ [] [0] rfl rfl (by decide) rfl hl.1 rfl (lv_room (Nat.le_of_ble_eq_true rfl)) dX12_isWhen_11 ⟨Nat.le_of_ble_eq_true rfl, Nat.le_of_ble_eq_true rfl⟩ (fun r_1 u_2 H locs hw hP hD hS => ?_)
  obtain ⟨he_r_1, hw⟩ := hw
  have hr_r_1 := hw
  refine z_callVi (As := [.long r_1]) (rest := []) (wr := []) ⟨hx, hb, hml, hown, hts⟩ hK hE hT hP hD hS hA (r_isWord l G cA h0 m_status m_thrown m_above m_under a_traySort a_trayMany a_numbers a_tape m_taped m_textEnd m_faultKind m_faultAt m_bad m_badAt m_token m_at m_behind m_number m_letters m_word a_c a_words m_markMany a_there a_tried a_best a_found m_thereMany m_foundMany m_orderHow m_orderRing m_orderMany m_hasBest m_bestTop m_bestBy a_weights a_shared m_random m_truePlace m_trueWay m_seconds m_done m_feelings m_tries m_leftOver m_playDoor m_playRing m_isOpen m_isOver m_wasTried m_hasPlayed a_feltNow a_last a_kept m_hasSeconds m_hasTurned m_hasRound a_hasFeels a_isOn m_firstAct m_meanTop m_meanBy a_order m_rowMany m_newSteps r_1 hr_m_token) lk_RX12_164 ⟨rfl, rfl⟩ ⟨Nat.le_of_ble_eq_true rfl, Nat.le_of_ble_eq_true rfl⟩ 12 rfl rfl rfl [0] [] rfl rfl (by decide) rfl hl.1 rfl (lv_room (Nat.le_of_ble_eq_true rfl)) dX12_isWhen_14 ⟨Nat.le_of_ble_eq_true rfl, Nat.le_of_ble_eq_true rfl⟩ (fun r_4 u_5 H locs hw hP hD hS => ?_)
  obtain ⟨he_r_4, hw⟩ := hw
  rcases hw with ⟨rfl, -⟩ | ⟨rfl, hf_7⟩
  · skip
    have hpost : ((0 : Int32) = 0 ∧ True) ∨ ((0 : Int32) = 1 ∧ (m_token.toInt = 1)) := (Or.inl ⟨rfl, trivial⟩)
    have hX_8 : F_r_isWhen m_token m_word = ((0 : Int32) : Int32) := by
      clear hret hP hD hS hl hA hT hE hK hts hown hml
      subst he_r_1
      refine (F_r_isWhen_s ..).trans ?_
      refine (if_pos he_r_4.symm).trans ?_
      exact rfl
    exact hret _ _ _ _ _ _ () [0] hP hD hS rfl (by decide) dX12_isWhen_17 (Or.inl rfl) ⟨(congrArg (fun z9 => z9) hX_8).symm, hpost⟩
  · skip
    have hpost : ((1 : Int32) = 0 ∧ True) ∨ ((1 : Int32) = 1 ∧ (m_token.toInt = 1)) := (Or.inr ⟨rfl, (by omega)⟩)
    have hX_9 : F_r_isWhen m_token m_word = ((1 : Int32) : Int32) := by
      clear hret hP hD hS hl hA hT hE hK hts hown hml
      subst he_r_1
      refine (F_r_isWhen_s ..).trans ?_
      refine (if_neg (fun h9 => absurd (he_r_4.trans h9) (by decide))).trans ?_
      exact rfl
    exact hret _ _ _ _ _ _ () [0] hP hD hS rfl (by decide) dX12_isWhen_17 (Or.inr rfl) ⟨(congrArg (fun z9 => z9) hX_9).symm, hpost⟩
set_option maxHeartbeats 40000000 in
set_option maxRecDepth 100000 in
theorem r_isLoop (l : Launch) (G : va_G) (cA : zCA) (h0 : Nat) (m_status : Int32) (m_thrown : Int32) (m_above : Int64) (m_under : Int64) (a_traySort : Nat) (a_trayMany : Nat) (a_numbers : Nat) (a_tape : Nat) (m_taped : Int32) (m_textEnd : Int32) (m_faultKind : Int32) (m_faultAt : Int32) (m_bad : Int32) (m_badAt : Int32) (m_token : Int32) (m_at : Int32) (m_behind : Int32) (m_number : Int32) (m_letters : Int32) (m_word : Int64) (a_c : Nat) (a_words : Nat) (m_markMany : Int32) (a_there : Nat) (a_tried : Nat) (a_best : Nat) (a_found : Nat) (m_thereMany : Int32) (m_foundMany : Int32) (m_orderHow : Int32) (m_orderRing : Int32) (m_orderMany : Int32) (m_hasBest : Int32) (m_bestTop : Int64) (m_bestBy : Int64) (a_weights : Nat) (a_shared : Nat) (m_random : Int32) (m_truePlace : Int32) (m_trueWay : Int32) (m_seconds : Int32) (m_done : Int32) (m_feelings : Int32) (m_tries : Int32) (m_leftOver : Int32) (m_playDoor : Int32) (m_playRing : Int32) (m_isOpen : Int32) (m_isOver : Int32) (m_wasTried : Int32) (m_hasPlayed : Int32) (a_feltNow : Nat) (a_last : Nat) (a_kept : Nat) (m_hasSeconds : Int32) (m_hasTurned : Int32) (m_hasRound : Int32) (a_hasFeels : Nat) (a_isOn : Nat) (m_firstAct : Int32) (m_meanTop : Int64) (m_meanBy : Int64) (a_order : Nat) (m_rowMany : Int32) (m_newSteps : Int32) (hr_m_token : 0 ≤ m_token.toInt ∧ m_token.toInt ≤ 4) : zCi l yX12_isLoop cX12_isLoop 1 (some .boolean) ({ frames := 1, cells := 0, slots := 0, locals := 27 }) G cA [.ref h0] [(h0, .inr (12, [.int m_status, .int m_thrown, .long m_above, .long m_under, .ref a_traySort, .ref a_trayMany, .ref a_numbers, .ref a_tape, .int m_taped, .int m_textEnd, .int m_faultKind, .int m_faultAt, .int m_bad, .int m_badAt, .int m_token, .int m_at, .int m_behind, .int m_number, .int m_letters, .long m_word, .ref a_c, .ref a_words, .int m_markMany, .ref a_there, .ref a_tried, .ref a_best, .ref a_found, .int m_thereMany, .int m_foundMany, .int m_orderHow, .int m_orderRing, .int m_orderMany, .int m_hasBest, .long m_bestTop, .long m_bestBy, .ref a_weights, .ref a_shared, .int m_random, .int m_truePlace, .int m_trueWay, .int m_seconds, .int m_done, .int m_feelings, .int m_tries, .int m_leftOver, .int m_playDoor, .int m_playRing, .int m_isOpen, .int m_isOver, .int m_wasTried, .int m_hasPlayed, .ref a_feltNow, .ref a_last, .ref a_kept, .int m_hasSeconds, .int m_hasTurned, .int m_hasRound, .ref a_hasFeels, .ref a_isOn, .int m_firstAct, .long m_meanTop, .long m_meanBy, .ref a_order, .int m_rowMany, .int m_newSteps]))] (S := Unit) (fun (r : Int32) (u : Unit) => (r = (F_r_isLoop m_token m_word)) ∧ ((r = 0 ∧ True) ∨ (r = 1 ∧ (m_token.toInt = 1)))) (fun (u : Unit) => [(h0, .inr (12, [.int m_status, .int m_thrown, .long m_above, .long m_under, .ref a_traySort, .ref a_trayMany, .ref a_numbers, .ref a_tape, .int m_taped, .int m_textEnd, .int m_faultKind, .int m_faultAt, .int m_bad, .int m_badAt, .int m_token, .int m_at, .int m_behind, .int m_number, .int m_letters, .long m_word, .ref a_c, .ref a_words, .int m_markMany, .ref a_there, .ref a_tried, .ref a_best, .ref a_found, .int m_thereMany, .int m_foundMany, .int m_orderHow, .int m_orderRing, .int m_orderMany, .int m_hasBest, .long m_bestTop, .long m_bestBy, .ref a_weights, .ref a_shared, .int m_random, .int m_truePlace, .int m_trueWay, .int m_seconds, .int m_done, .int m_feelings, .int m_tries, .int m_leftOver, .int m_playDoor, .int m_playRing, .int m_isOpen, .int m_isOver, .int m_wasTried, .int m_hasPlayed, .ref a_feltNow, .ref a_last, .ref a_kept, .int m_hasSeconds, .int m_hasTurned, .int m_hasRound, .ref a_hasFeels, .ref a_isOn, .int m_firstAct, .long m_meanTop, .long m_meanBy, .ref a_order, .int m_rowMany, .int m_newSteps]))]) 0 0 := by
  have hk_0 : (0 : Int32).toInt = 0 := by decide +kernel
  have hk_108 : (108 : Int32).toInt = 108 := by decide +kernel
  have hk_111 : (111 : Int32).toInt = 111 := by decide +kernel
  have hk_112 : (112 : Int32).toInt = 112 := by decide +kernel
  refine z_start2z (own := RX12) (by decide) (Nat.le_of_ble_eq_true rfl) rfl ?_
  intro p e s m args below meth c A ls Q hx hb hml hts hown hK hE hT hP hD hS hA hl hret
  have hl : lv_has ls 1 [(0, .ref h0)] := hl
  refine lv_aload_n hx hb dX12_isLoop_0 rfl (lv_at hl 0 rfl) ?_
  refine lv_bipush (v := 108) hx hb dX12_isLoop_1 (by decide) ?_
  refine lv_bipush (v := 111) hx hb dX12_isLoop_3 (by decide) ?_
  refine lv_bipush (v := 111) hx hb dX12_isLoop_5 (by decide) ?_
  refine lv_bipush (v := 112) hx hb dX12_isLoop_7 (by decide) ?_
  refine lv_iconst (v := 0) hx hb dX12_isLoop_9 (by decide) ?_
  refine lv_iconst (v := 0) hx hb dX12_isLoop_10 (by decide) ?_
  refine z_callSl (As := [.int 108, .int 111, .int 111, .int 112, .int 0, .int 0]) (rest := [.ref h0]) (wr := [(h0, .inr (12, [.int m_status, .int m_thrown, .long m_above, .long m_under, .ref a_traySort, .ref a_trayMany, .ref a_numbers, .ref a_tape, .int m_taped, .int m_textEnd, .int m_faultKind, .int m_faultAt, .int m_bad, .int m_badAt, .int m_token, .int m_at, .int m_behind, .int m_number, .int m_letters, .long m_word, .ref a_c, .ref a_words, .int m_markMany, .ref a_there, .ref a_tried, .ref a_best, .ref a_found, .int m_thereMany, .int m_foundMany, .int m_orderHow, .int m_orderRing, .int m_orderMany, .int m_hasBest, .long m_bestTop, .long m_bestBy, .ref a_weights, .ref a_shared, .int m_random, .int m_truePlace, .int m_trueWay, .int m_seconds, .int m_done, .int m_feelings, .int m_tries, .int m_leftOver, .int m_playDoor, .int m_playRing, .int m_isOpen, .int m_isOver, .int m_wasTried, .int m_hasPlayed, .ref a_feltNow, .ref a_last, .ref a_kept, .int m_hasSeconds, .int m_hasTurned, .int m_hasRound, .ref a_hasFeels, .ref a_isOn, .int m_firstAct, .long m_meanTop, .long m_meanBy, .ref a_order, .int m_rowMany, .int m_newSteps]))]) ⟨hx, hb, hml, hown, hts⟩ hK hE hT hP hD hS hA (r_spelled l G cA 108 111 111 112 0 0 (by decide +kernel) (by decide +kernel) (by decide +kernel) (by decide +kernel) (by decide +kernel) (by decide +kernel)) lk_RX12_158 ⟨rfl, rfl⟩ ⟨Nat.le_of_ble_eq_true rfl, Nat.le_of_ble_eq_true rfl⟩ [] [0] rfl rfl (by decide) rfl hl.1 rfl (lv_room (Nat.le_of_ble_eq_true rfl)) dX12_isLoop_11 ⟨Nat.le_of_ble_eq_true rfl, Nat.le_of_ble_eq_true rfl⟩ (fun r_1 u_2 H locs hw hP hD hS => ?_)
  obtain ⟨he_r_1, hw⟩ := hw
  have hr_r_1 := hw
  refine z_callVi (As := [.long r_1]) (rest := []) (wr := []) ⟨hx, hb, hml, hown, hts⟩ hK hE hT hP hD hS hA (r_isWord l G cA h0 m_status m_thrown m_above m_under a_traySort a_trayMany a_numbers a_tape m_taped m_textEnd m_faultKind m_faultAt m_bad m_badAt m_token m_at m_behind m_number m_letters m_word a_c a_words m_markMany a_there a_tried a_best a_found m_thereMany m_foundMany m_orderHow m_orderRing m_orderMany m_hasBest m_bestTop m_bestBy a_weights a_shared m_random m_truePlace m_trueWay m_seconds m_done m_feelings m_tries m_leftOver m_playDoor m_playRing m_isOpen m_isOver m_wasTried m_hasPlayed a_feltNow a_last a_kept m_hasSeconds m_hasTurned m_hasRound a_hasFeels a_isOn m_firstAct m_meanTop m_meanBy a_order m_rowMany m_newSteps r_1 hr_m_token) lk_RX12_164 ⟨rfl, rfl⟩ ⟨Nat.le_of_ble_eq_true rfl, Nat.le_of_ble_eq_true rfl⟩ 12 rfl rfl rfl [0] [] rfl rfl (by decide) rfl hl.1 rfl (lv_room (Nat.le_of_ble_eq_true rfl)) dX12_isLoop_14 ⟨Nat.le_of_ble_eq_true rfl, Nat.le_of_ble_eq_true rfl⟩ (fun r_4 u_5 H locs hw hP hD hS => ?_)
  obtain ⟨he_r_4, hw⟩ := hw
  rcases hw with ⟨rfl, -⟩ | ⟨rfl, hf_7⟩
  · skip
    have hpost : ((0 : Int32) = 0 ∧ True) ∨ ((0 : Int32) = 1 ∧ (m_token.toInt = 1)) := (Or.inl ⟨rfl, trivial⟩)
    have hX_8 : F_r_isLoop m_token m_word = ((0 : Int32) : Int32) := by
      clear hret hP hD hS hl hA hT hE hK hts hown hml
      subst he_r_1
      refine (F_r_isLoop_s ..).trans ?_
      refine (if_pos he_r_4.symm).trans ?_
      exact rfl
    exact hret _ _ _ _ _ _ () [0] hP hD hS rfl (by decide) dX12_isLoop_17 (Or.inl rfl) ⟨(congrArg (fun z9 => z9) hX_8).symm, hpost⟩
  · skip
    have hpost : ((1 : Int32) = 0 ∧ True) ∨ ((1 : Int32) = 1 ∧ (m_token.toInt = 1)) := (Or.inr ⟨rfl, (by omega)⟩)
    have hX_9 : F_r_isLoop m_token m_word = ((1 : Int32) : Int32) := by
      clear hret hP hD hS hl hA hT hE hK hts hown hml
      subst he_r_1
      refine (F_r_isLoop_s ..).trans ?_
      refine (if_neg (fun h9 => absurd (he_r_4.trans h9) (by decide))).trans ?_
      exact rfl
    exact hret _ _ _ _ _ _ () [0] hP hD hS rfl (by decide) dX12_isLoop_17 (Or.inr rfl) ⟨(congrArg (fun z9 => z9) hX_9).symm, hpost⟩
set_option maxHeartbeats 40000000 in
set_option maxRecDepth 100000 in
theorem r_isEnd (l : Launch) (G : va_G) (cA : zCA) (h0 : Nat) (m_status : Int32) (m_thrown : Int32) (m_above : Int64) (m_under : Int64) (a_traySort : Nat) (a_trayMany : Nat) (a_numbers : Nat) (a_tape : Nat) (m_taped : Int32) (m_textEnd : Int32) (m_faultKind : Int32) (m_faultAt : Int32) (m_bad : Int32) (m_badAt : Int32) (m_token : Int32) (m_at : Int32) (m_behind : Int32) (m_number : Int32) (m_letters : Int32) (m_word : Int64) (a_c : Nat) (a_words : Nat) (m_markMany : Int32) (a_there : Nat) (a_tried : Nat) (a_best : Nat) (a_found : Nat) (m_thereMany : Int32) (m_foundMany : Int32) (m_orderHow : Int32) (m_orderRing : Int32) (m_orderMany : Int32) (m_hasBest : Int32) (m_bestTop : Int64) (m_bestBy : Int64) (a_weights : Nat) (a_shared : Nat) (m_random : Int32) (m_truePlace : Int32) (m_trueWay : Int32) (m_seconds : Int32) (m_done : Int32) (m_feelings : Int32) (m_tries : Int32) (m_leftOver : Int32) (m_playDoor : Int32) (m_playRing : Int32) (m_isOpen : Int32) (m_isOver : Int32) (m_wasTried : Int32) (m_hasPlayed : Int32) (a_feltNow : Nat) (a_last : Nat) (a_kept : Nat) (m_hasSeconds : Int32) (m_hasTurned : Int32) (m_hasRound : Int32) (a_hasFeels : Nat) (a_isOn : Nat) (m_firstAct : Int32) (m_meanTop : Int64) (m_meanBy : Int64) (a_order : Nat) (m_rowMany : Int32) (m_newSteps : Int32) (hr_m_token : 0 ≤ m_token.toInt ∧ m_token.toInt ≤ 4) : zCi l yX12_isEnd cX12_isEnd 1 (some .boolean) ({ frames := 1, cells := 0, slots := 0, locals := 27 }) G cA [.ref h0] [(h0, .inr (12, [.int m_status, .int m_thrown, .long m_above, .long m_under, .ref a_traySort, .ref a_trayMany, .ref a_numbers, .ref a_tape, .int m_taped, .int m_textEnd, .int m_faultKind, .int m_faultAt, .int m_bad, .int m_badAt, .int m_token, .int m_at, .int m_behind, .int m_number, .int m_letters, .long m_word, .ref a_c, .ref a_words, .int m_markMany, .ref a_there, .ref a_tried, .ref a_best, .ref a_found, .int m_thereMany, .int m_foundMany, .int m_orderHow, .int m_orderRing, .int m_orderMany, .int m_hasBest, .long m_bestTop, .long m_bestBy, .ref a_weights, .ref a_shared, .int m_random, .int m_truePlace, .int m_trueWay, .int m_seconds, .int m_done, .int m_feelings, .int m_tries, .int m_leftOver, .int m_playDoor, .int m_playRing, .int m_isOpen, .int m_isOver, .int m_wasTried, .int m_hasPlayed, .ref a_feltNow, .ref a_last, .ref a_kept, .int m_hasSeconds, .int m_hasTurned, .int m_hasRound, .ref a_hasFeels, .ref a_isOn, .int m_firstAct, .long m_meanTop, .long m_meanBy, .ref a_order, .int m_rowMany, .int m_newSteps]))] (S := Unit) (fun (r : Int32) (u : Unit) => (r = (F_r_isEnd m_token m_word)) ∧ ((r = 0 ∧ True) ∨ (r = 1 ∧ (m_token.toInt = 1)))) (fun (u : Unit) => [(h0, .inr (12, [.int m_status, .int m_thrown, .long m_above, .long m_under, .ref a_traySort, .ref a_trayMany, .ref a_numbers, .ref a_tape, .int m_taped, .int m_textEnd, .int m_faultKind, .int m_faultAt, .int m_bad, .int m_badAt, .int m_token, .int m_at, .int m_behind, .int m_number, .int m_letters, .long m_word, .ref a_c, .ref a_words, .int m_markMany, .ref a_there, .ref a_tried, .ref a_best, .ref a_found, .int m_thereMany, .int m_foundMany, .int m_orderHow, .int m_orderRing, .int m_orderMany, .int m_hasBest, .long m_bestTop, .long m_bestBy, .ref a_weights, .ref a_shared, .int m_random, .int m_truePlace, .int m_trueWay, .int m_seconds, .int m_done, .int m_feelings, .int m_tries, .int m_leftOver, .int m_playDoor, .int m_playRing, .int m_isOpen, .int m_isOver, .int m_wasTried, .int m_hasPlayed, .ref a_feltNow, .ref a_last, .ref a_kept, .int m_hasSeconds, .int m_hasTurned, .int m_hasRound, .ref a_hasFeels, .ref a_isOn, .int m_firstAct, .long m_meanTop, .long m_meanBy, .ref a_order, .int m_rowMany, .int m_newSteps]))]) 0 0 := by
  have hk_0 : (0 : Int32).toInt = 0 := by decide +kernel
  have hk_100 : (100 : Int32).toInt = 100 := by decide +kernel
  have hk_101 : (101 : Int32).toInt = 101 := by decide +kernel
  have hk_110 : (110 : Int32).toInt = 110 := by decide +kernel
  refine z_start2z (own := RX12) (by decide) (Nat.le_of_ble_eq_true rfl) rfl ?_
  intro p e s m args below meth c A ls Q hx hb hml hts hown hK hE hT hP hD hS hA hl hret
  have hl : lv_has ls 1 [(0, .ref h0)] := hl
  refine lv_aload_n hx hb dX12_isEnd_0 rfl (lv_at hl 0 rfl) ?_
  refine lv_bipush (v := 101) hx hb dX12_isEnd_1 (by decide) ?_
  refine lv_bipush (v := 110) hx hb dX12_isEnd_3 (by decide) ?_
  refine lv_bipush (v := 100) hx hb dX12_isEnd_5 (by decide) ?_
  refine lv_iconst (v := 0) hx hb dX12_isEnd_7 (by decide) ?_
  refine lv_iconst (v := 0) hx hb dX12_isEnd_8 (by decide) ?_
  refine lv_iconst (v := 0) hx hb dX12_isEnd_9 (by decide) ?_
  refine z_callSl (As := [.int 101, .int 110, .int 100, .int 0, .int 0, .int 0]) (rest := [.ref h0]) (wr := [(h0, .inr (12, [.int m_status, .int m_thrown, .long m_above, .long m_under, .ref a_traySort, .ref a_trayMany, .ref a_numbers, .ref a_tape, .int m_taped, .int m_textEnd, .int m_faultKind, .int m_faultAt, .int m_bad, .int m_badAt, .int m_token, .int m_at, .int m_behind, .int m_number, .int m_letters, .long m_word, .ref a_c, .ref a_words, .int m_markMany, .ref a_there, .ref a_tried, .ref a_best, .ref a_found, .int m_thereMany, .int m_foundMany, .int m_orderHow, .int m_orderRing, .int m_orderMany, .int m_hasBest, .long m_bestTop, .long m_bestBy, .ref a_weights, .ref a_shared, .int m_random, .int m_truePlace, .int m_trueWay, .int m_seconds, .int m_done, .int m_feelings, .int m_tries, .int m_leftOver, .int m_playDoor, .int m_playRing, .int m_isOpen, .int m_isOver, .int m_wasTried, .int m_hasPlayed, .ref a_feltNow, .ref a_last, .ref a_kept, .int m_hasSeconds, .int m_hasTurned, .int m_hasRound, .ref a_hasFeels, .ref a_isOn, .int m_firstAct, .long m_meanTop, .long m_meanBy, .ref a_order, .int m_rowMany, .int m_newSteps]))]) ⟨hx, hb, hml, hown, hts⟩ hK hE hT hP hD hS hA (r_spelled l G cA 101 110 100 0 0 0 (by decide +kernel) (by decide +kernel) (by decide +kernel) (by decide +kernel) (by decide +kernel) (by decide +kernel)) lk_RX12_158 ⟨rfl, rfl⟩ ⟨Nat.le_of_ble_eq_true rfl, Nat.le_of_ble_eq_true rfl⟩ [] [0] rfl rfl (by decide) rfl hl.1 rfl (lv_room (Nat.le_of_ble_eq_true rfl)) dX12_isEnd_10 ⟨Nat.le_of_ble_eq_true rfl, Nat.le_of_ble_eq_true rfl⟩ (fun r_1 u_2 H locs hw hP hD hS => ?_)
  obtain ⟨he_r_1, hw⟩ := hw
  have hr_r_1 := hw
  refine z_callVi (As := [.long r_1]) (rest := []) (wr := []) ⟨hx, hb, hml, hown, hts⟩ hK hE hT hP hD hS hA (r_isWord l G cA h0 m_status m_thrown m_above m_under a_traySort a_trayMany a_numbers a_tape m_taped m_textEnd m_faultKind m_faultAt m_bad m_badAt m_token m_at m_behind m_number m_letters m_word a_c a_words m_markMany a_there a_tried a_best a_found m_thereMany m_foundMany m_orderHow m_orderRing m_orderMany m_hasBest m_bestTop m_bestBy a_weights a_shared m_random m_truePlace m_trueWay m_seconds m_done m_feelings m_tries m_leftOver m_playDoor m_playRing m_isOpen m_isOver m_wasTried m_hasPlayed a_feltNow a_last a_kept m_hasSeconds m_hasTurned m_hasRound a_hasFeels a_isOn m_firstAct m_meanTop m_meanBy a_order m_rowMany m_newSteps r_1 hr_m_token) lk_RX12_164 ⟨rfl, rfl⟩ ⟨Nat.le_of_ble_eq_true rfl, Nat.le_of_ble_eq_true rfl⟩ 12 rfl rfl rfl [0] [] rfl rfl (by decide) rfl hl.1 rfl (lv_room (Nat.le_of_ble_eq_true rfl)) dX12_isEnd_13 ⟨Nat.le_of_ble_eq_true rfl, Nat.le_of_ble_eq_true rfl⟩ (fun r_4 u_5 H locs hw hP hD hS => ?_)
  obtain ⟨he_r_4, hw⟩ := hw
  rcases hw with ⟨rfl, -⟩ | ⟨rfl, hf_7⟩
  · skip
    have hpost : ((0 : Int32) = 0 ∧ True) ∨ ((0 : Int32) = 1 ∧ (m_token.toInt = 1)) := (Or.inl ⟨rfl, trivial⟩)
    have hX_8 : F_r_isEnd m_token m_word = ((0 : Int32) : Int32) := by
      clear hret hP hD hS hl hA hT hE hK hts hown hml
      subst he_r_1
      refine (F_r_isEnd_s ..).trans ?_
      refine (if_pos he_r_4.symm).trans ?_
      exact rfl
    exact hret _ _ _ _ _ _ () [0] hP hD hS rfl (by decide) dX12_isEnd_16 (Or.inl rfl) ⟨(congrArg (fun z9 => z9) hX_8).symm, hpost⟩
  · skip
    have hpost : ((1 : Int32) = 0 ∧ True) ∨ ((1 : Int32) = 1 ∧ (m_token.toInt = 1)) := (Or.inr ⟨rfl, (by omega)⟩)
    have hX_9 : F_r_isEnd m_token m_word = ((1 : Int32) : Int32) := by
      clear hret hP hD hS hl hA hT hE hK hts hown hml
      subst he_r_1
      refine (F_r_isEnd_s ..).trans ?_
      refine (if_neg (fun h9 => absurd (he_r_4.trans h9) (by decide))).trans ?_
      exact rfl
    exact hret _ _ _ _ _ _ () [0] hP hD hS rfl (by decide) dX12_isEnd_16 (Or.inr rfl) ⟨(congrArg (fun z9 => z9) hX_9).symm, hpost⟩
set_option maxHeartbeats 40000000 in
set_option maxRecDepth 100000 in
theorem r_isFelt (l : Launch) (G : va_G) (cA : zCA) (h0 : Nat) (m_status : Int32) (m_thrown : Int32) (m_above : Int64) (m_under : Int64) (a_traySort : Nat) (a_trayMany : Nat) (a_numbers : Nat) (a_tape : Nat) (m_taped : Int32) (m_textEnd : Int32) (m_faultKind : Int32) (m_faultAt : Int32) (m_bad : Int32) (m_badAt : Int32) (m_token : Int32) (m_at : Int32) (m_behind : Int32) (m_number : Int32) (m_letters : Int32) (m_word : Int64) (a_c : Nat) (a_words : Nat) (m_markMany : Int32) (a_there : Nat) (a_tried : Nat) (a_best : Nat) (a_found : Nat) (m_thereMany : Int32) (m_foundMany : Int32) (m_orderHow : Int32) (m_orderRing : Int32) (m_orderMany : Int32) (m_hasBest : Int32) (m_bestTop : Int64) (m_bestBy : Int64) (a_weights : Nat) (a_shared : Nat) (m_random : Int32) (m_truePlace : Int32) (m_trueWay : Int32) (m_seconds : Int32) (m_done : Int32) (m_feelings : Int32) (m_tries : Int32) (m_leftOver : Int32) (m_playDoor : Int32) (m_playRing : Int32) (m_isOpen : Int32) (m_isOver : Int32) (m_wasTried : Int32) (m_hasPlayed : Int32) (a_feltNow : Nat) (a_last : Nat) (a_kept : Nat) (m_hasSeconds : Int32) (m_hasTurned : Int32) (m_hasRound : Int32) (a_hasFeels : Nat) (a_isOn : Nat) (m_firstAct : Int32) (m_meanTop : Int64) (m_meanBy : Int64) (a_order : Nat) (m_rowMany : Int32) (m_newSteps : Int32) (hr_m_token : 0 ≤ m_token.toInt ∧ m_token.toInt ≤ 4) : zCi l yX12_isFelt cX12_isFelt 1 (some .boolean) ({ frames := 1, cells := 0, slots := 0, locals := 27 }) G cA [.ref h0] [(h0, .inr (12, [.int m_status, .int m_thrown, .long m_above, .long m_under, .ref a_traySort, .ref a_trayMany, .ref a_numbers, .ref a_tape, .int m_taped, .int m_textEnd, .int m_faultKind, .int m_faultAt, .int m_bad, .int m_badAt, .int m_token, .int m_at, .int m_behind, .int m_number, .int m_letters, .long m_word, .ref a_c, .ref a_words, .int m_markMany, .ref a_there, .ref a_tried, .ref a_best, .ref a_found, .int m_thereMany, .int m_foundMany, .int m_orderHow, .int m_orderRing, .int m_orderMany, .int m_hasBest, .long m_bestTop, .long m_bestBy, .ref a_weights, .ref a_shared, .int m_random, .int m_truePlace, .int m_trueWay, .int m_seconds, .int m_done, .int m_feelings, .int m_tries, .int m_leftOver, .int m_playDoor, .int m_playRing, .int m_isOpen, .int m_isOver, .int m_wasTried, .int m_hasPlayed, .ref a_feltNow, .ref a_last, .ref a_kept, .int m_hasSeconds, .int m_hasTurned, .int m_hasRound, .ref a_hasFeels, .ref a_isOn, .int m_firstAct, .long m_meanTop, .long m_meanBy, .ref a_order, .int m_rowMany, .int m_newSteps]))] (S := Unit) (fun (r : Int32) (u : Unit) => (r = (F_r_isFelt m_token m_word)) ∧ ((r = 0 ∧ True) ∨ (r = 1 ∧ (m_token.toInt = 1)))) (fun (u : Unit) => [(h0, .inr (12, [.int m_status, .int m_thrown, .long m_above, .long m_under, .ref a_traySort, .ref a_trayMany, .ref a_numbers, .ref a_tape, .int m_taped, .int m_textEnd, .int m_faultKind, .int m_faultAt, .int m_bad, .int m_badAt, .int m_token, .int m_at, .int m_behind, .int m_number, .int m_letters, .long m_word, .ref a_c, .ref a_words, .int m_markMany, .ref a_there, .ref a_tried, .ref a_best, .ref a_found, .int m_thereMany, .int m_foundMany, .int m_orderHow, .int m_orderRing, .int m_orderMany, .int m_hasBest, .long m_bestTop, .long m_bestBy, .ref a_weights, .ref a_shared, .int m_random, .int m_truePlace, .int m_trueWay, .int m_seconds, .int m_done, .int m_feelings, .int m_tries, .int m_leftOver, .int m_playDoor, .int m_playRing, .int m_isOpen, .int m_isOver, .int m_wasTried, .int m_hasPlayed, .ref a_feltNow, .ref a_last, .ref a_kept, .int m_hasSeconds, .int m_hasTurned, .int m_hasRound, .ref a_hasFeels, .ref a_isOn, .int m_firstAct, .long m_meanTop, .long m_meanBy, .ref a_order, .int m_rowMany, .int m_newSteps]))]) 0 0 := by
  have hk_0 : (0 : Int32).toInt = 0 := by decide +kernel
  have hk_101 : (101 : Int32).toInt = 101 := by decide +kernel
  have hk_102 : (102 : Int32).toInt = 102 := by decide +kernel
  have hk_108 : (108 : Int32).toInt = 108 := by decide +kernel
  have hk_116 : (116 : Int32).toInt = 116 := by decide +kernel
  refine z_start2z (own := RX12) (by decide) (Nat.le_of_ble_eq_true rfl) rfl ?_
  intro p e s m args below meth c A ls Q hx hb hml hts hown hK hE hT hP hD hS hA hl hret
  have hl : lv_has ls 1 [(0, .ref h0)] := hl
  refine lv_aload_n hx hb dX12_isFelt_0 rfl (lv_at hl 0 rfl) ?_
  refine lv_bipush (v := 102) hx hb dX12_isFelt_1 (by decide) ?_
  refine lv_bipush (v := 101) hx hb dX12_isFelt_3 (by decide) ?_
  refine lv_bipush (v := 108) hx hb dX12_isFelt_5 (by decide) ?_
  refine lv_bipush (v := 116) hx hb dX12_isFelt_7 (by decide) ?_
  refine lv_iconst (v := 0) hx hb dX12_isFelt_9 (by decide) ?_
  refine lv_iconst (v := 0) hx hb dX12_isFelt_10 (by decide) ?_
  refine z_callSl (As := [.int 102, .int 101, .int 108, .int 116, .int 0, .int 0]) (rest := [.ref h0]) (wr := [(h0, .inr (12, [.int m_status, .int m_thrown, .long m_above, .long m_under, .ref a_traySort, .ref a_trayMany, .ref a_numbers, .ref a_tape, .int m_taped, .int m_textEnd, .int m_faultKind, .int m_faultAt, .int m_bad, .int m_badAt, .int m_token, .int m_at, .int m_behind, .int m_number, .int m_letters, .long m_word, .ref a_c, .ref a_words, .int m_markMany, .ref a_there, .ref a_tried, .ref a_best, .ref a_found, .int m_thereMany, .int m_foundMany, .int m_orderHow, .int m_orderRing, .int m_orderMany, .int m_hasBest, .long m_bestTop, .long m_bestBy, .ref a_weights, .ref a_shared, .int m_random, .int m_truePlace, .int m_trueWay, .int m_seconds, .int m_done, .int m_feelings, .int m_tries, .int m_leftOver, .int m_playDoor, .int m_playRing, .int m_isOpen, .int m_isOver, .int m_wasTried, .int m_hasPlayed, .ref a_feltNow, .ref a_last, .ref a_kept, .int m_hasSeconds, .int m_hasTurned, .int m_hasRound, .ref a_hasFeels, .ref a_isOn, .int m_firstAct, .long m_meanTop, .long m_meanBy, .ref a_order, .int m_rowMany, .int m_newSteps]))]) ⟨hx, hb, hml, hown, hts⟩ hK hE hT hP hD hS hA (r_spelled l G cA 102 101 108 116 0 0 (by decide +kernel) (by decide +kernel) (by decide +kernel) (by decide +kernel) (by decide +kernel) (by decide +kernel)) lk_RX12_158 ⟨rfl, rfl⟩ ⟨Nat.le_of_ble_eq_true rfl, Nat.le_of_ble_eq_true rfl⟩ [] [0] rfl rfl (by decide) rfl hl.1 rfl (lv_room (Nat.le_of_ble_eq_true rfl)) dX12_isFelt_11 ⟨Nat.le_of_ble_eq_true rfl, Nat.le_of_ble_eq_true rfl⟩ (fun r_1 u_2 H locs hw hP hD hS => ?_)
  obtain ⟨he_r_1, hw⟩ := hw
  have hr_r_1 := hw
  refine z_callVi (As := [.long r_1]) (rest := []) (wr := []) ⟨hx, hb, hml, hown, hts⟩ hK hE hT hP hD hS hA (r_isWord l G cA h0 m_status m_thrown m_above m_under a_traySort a_trayMany a_numbers a_tape m_taped m_textEnd m_faultKind m_faultAt m_bad m_badAt m_token m_at m_behind m_number m_letters m_word a_c a_words m_markMany a_there a_tried a_best a_found m_thereMany m_foundMany m_orderHow m_orderRing m_orderMany m_hasBest m_bestTop m_bestBy a_weights a_shared m_random m_truePlace m_trueWay m_seconds m_done m_feelings m_tries m_leftOver m_playDoor m_playRing m_isOpen m_isOver m_wasTried m_hasPlayed a_feltNow a_last a_kept m_hasSeconds m_hasTurned m_hasRound a_hasFeels a_isOn m_firstAct m_meanTop m_meanBy a_order m_rowMany m_newSteps r_1 hr_m_token) lk_RX12_164 ⟨rfl, rfl⟩ ⟨Nat.le_of_ble_eq_true rfl, Nat.le_of_ble_eq_true rfl⟩ 12 rfl rfl rfl [0] [] rfl rfl (by decide) rfl hl.1 rfl (lv_room (Nat.le_of_ble_eq_true rfl)) dX12_isFelt_14 ⟨Nat.le_of_ble_eq_true rfl, Nat.le_of_ble_eq_true rfl⟩ (fun r_4 u_5 H locs hw hP hD hS => ?_)
  obtain ⟨he_r_4, hw⟩ := hw
  rcases hw with ⟨rfl, -⟩ | ⟨rfl, hf_7⟩
  · skip
    have hpost : ((0 : Int32) = 0 ∧ True) ∨ ((0 : Int32) = 1 ∧ (m_token.toInt = 1)) := (Or.inl ⟨rfl, trivial⟩)
    have hX_8 : F_r_isFelt m_token m_word = ((0 : Int32) : Int32) := by
      clear hret hP hD hS hl hA hT hE hK hts hown hml
      subst he_r_1
      refine (F_r_isFelt_s ..).trans ?_
      refine (if_pos he_r_4.symm).trans ?_
      exact rfl
    exact hret _ _ _ _ _ _ () [0] hP hD hS rfl (by decide) dX12_isFelt_17 (Or.inl rfl) ⟨(congrArg (fun z9 => z9) hX_8).symm, hpost⟩
  · skip
    have hpost : ((1 : Int32) = 0 ∧ True) ∨ ((1 : Int32) = 1 ∧ (m_token.toInt = 1)) := (Or.inr ⟨rfl, (by omega)⟩)
    have hX_9 : F_r_isFelt m_token m_word = ((1 : Int32) : Int32) := by
      clear hret hP hD hS hl hA hT hE hK hts hown hml
      subst he_r_1
      refine (F_r_isFelt_s ..).trans ?_
      refine (if_neg (fun h9 => absurd (he_r_4.trans h9) (by decide))).trans ?_
      exact rfl
    exact hret _ _ _ _ _ _ () [0] hP hD hS rfl (by decide) dX12_isFelt_17 (Or.inr rfl) ⟨(congrArg (fun z9 => z9) hX_9).symm, hpost⟩
set_option maxHeartbeats 40000000 in
set_option maxRecDepth 100000 in
theorem r_isSure (l : Launch) (G : va_G) (cA : zCA) (h0 : Nat) (m_status : Int32) (m_thrown : Int32) (m_above : Int64) (m_under : Int64) (a_traySort : Nat) (a_trayMany : Nat) (a_numbers : Nat) (a_tape : Nat) (m_taped : Int32) (m_textEnd : Int32) (m_faultKind : Int32) (m_faultAt : Int32) (m_bad : Int32) (m_badAt : Int32) (m_token : Int32) (m_at : Int32) (m_behind : Int32) (m_number : Int32) (m_letters : Int32) (m_word : Int64) (a_c : Nat) (a_words : Nat) (m_markMany : Int32) (a_there : Nat) (a_tried : Nat) (a_best : Nat) (a_found : Nat) (m_thereMany : Int32) (m_foundMany : Int32) (m_orderHow : Int32) (m_orderRing : Int32) (m_orderMany : Int32) (m_hasBest : Int32) (m_bestTop : Int64) (m_bestBy : Int64) (a_weights : Nat) (a_shared : Nat) (m_random : Int32) (m_truePlace : Int32) (m_trueWay : Int32) (m_seconds : Int32) (m_done : Int32) (m_feelings : Int32) (m_tries : Int32) (m_leftOver : Int32) (m_playDoor : Int32) (m_playRing : Int32) (m_isOpen : Int32) (m_isOver : Int32) (m_wasTried : Int32) (m_hasPlayed : Int32) (a_feltNow : Nat) (a_last : Nat) (a_kept : Nat) (m_hasSeconds : Int32) (m_hasTurned : Int32) (m_hasRound : Int32) (a_hasFeels : Nat) (a_isOn : Nat) (m_firstAct : Int32) (m_meanTop : Int64) (m_meanBy : Int64) (a_order : Nat) (m_rowMany : Int32) (m_newSteps : Int32) (hr_m_token : 0 ≤ m_token.toInt ∧ m_token.toInt ≤ 4) : zCi l yX12_isSure cX12_isSure 1 (some .boolean) ({ frames := 1, cells := 0, slots := 0, locals := 27 }) G cA [.ref h0] [(h0, .inr (12, [.int m_status, .int m_thrown, .long m_above, .long m_under, .ref a_traySort, .ref a_trayMany, .ref a_numbers, .ref a_tape, .int m_taped, .int m_textEnd, .int m_faultKind, .int m_faultAt, .int m_bad, .int m_badAt, .int m_token, .int m_at, .int m_behind, .int m_number, .int m_letters, .long m_word, .ref a_c, .ref a_words, .int m_markMany, .ref a_there, .ref a_tried, .ref a_best, .ref a_found, .int m_thereMany, .int m_foundMany, .int m_orderHow, .int m_orderRing, .int m_orderMany, .int m_hasBest, .long m_bestTop, .long m_bestBy, .ref a_weights, .ref a_shared, .int m_random, .int m_truePlace, .int m_trueWay, .int m_seconds, .int m_done, .int m_feelings, .int m_tries, .int m_leftOver, .int m_playDoor, .int m_playRing, .int m_isOpen, .int m_isOver, .int m_wasTried, .int m_hasPlayed, .ref a_feltNow, .ref a_last, .ref a_kept, .int m_hasSeconds, .int m_hasTurned, .int m_hasRound, .ref a_hasFeels, .ref a_isOn, .int m_firstAct, .long m_meanTop, .long m_meanBy, .ref a_order, .int m_rowMany, .int m_newSteps]))] (S := Unit) (fun (r : Int32) (u : Unit) => (r = (F_r_isSure m_token m_word)) ∧ ((r = 0 ∧ True) ∨ (r = 1 ∧ (m_token.toInt = 1)))) (fun (u : Unit) => [(h0, .inr (12, [.int m_status, .int m_thrown, .long m_above, .long m_under, .ref a_traySort, .ref a_trayMany, .ref a_numbers, .ref a_tape, .int m_taped, .int m_textEnd, .int m_faultKind, .int m_faultAt, .int m_bad, .int m_badAt, .int m_token, .int m_at, .int m_behind, .int m_number, .int m_letters, .long m_word, .ref a_c, .ref a_words, .int m_markMany, .ref a_there, .ref a_tried, .ref a_best, .ref a_found, .int m_thereMany, .int m_foundMany, .int m_orderHow, .int m_orderRing, .int m_orderMany, .int m_hasBest, .long m_bestTop, .long m_bestBy, .ref a_weights, .ref a_shared, .int m_random, .int m_truePlace, .int m_trueWay, .int m_seconds, .int m_done, .int m_feelings, .int m_tries, .int m_leftOver, .int m_playDoor, .int m_playRing, .int m_isOpen, .int m_isOver, .int m_wasTried, .int m_hasPlayed, .ref a_feltNow, .ref a_last, .ref a_kept, .int m_hasSeconds, .int m_hasTurned, .int m_hasRound, .ref a_hasFeels, .ref a_isOn, .int m_firstAct, .long m_meanTop, .long m_meanBy, .ref a_order, .int m_rowMany, .int m_newSteps]))]) 0 0 := by
  have hk_0 : (0 : Int32).toInt = 0 := by decide +kernel
  have hk_101 : (101 : Int32).toInt = 101 := by decide +kernel
  have hk_114 : (114 : Int32).toInt = 114 := by decide +kernel
  have hk_115 : (115 : Int32).toInt = 115 := by decide +kernel
  have hk_117 : (117 : Int32).toInt = 117 := by decide +kernel
  refine z_start2z (own := RX12) (by decide) (Nat.le_of_ble_eq_true rfl) rfl ?_
  intro p e s m args below meth c A ls Q hx hb hml hts hown hK hE hT hP hD hS hA hl hret
  have hl : lv_has ls 1 [(0, .ref h0)] := hl
  refine lv_aload_n hx hb dX12_isSure_0 rfl (lv_at hl 0 rfl) ?_
  refine lv_bipush (v := 115) hx hb dX12_isSure_1 (by decide) ?_
  refine lv_bipush (v := 117) hx hb dX12_isSure_3 (by decide) ?_
  refine lv_bipush (v := 114) hx hb dX12_isSure_5 (by decide) ?_
  refine lv_bipush (v := 101) hx hb dX12_isSure_7 (by decide) ?_
  refine lv_iconst (v := 0) hx hb dX12_isSure_9 (by decide) ?_
  refine lv_iconst (v := 0) hx hb dX12_isSure_10 (by decide) ?_
  refine z_callSl (As := [.int 115, .int 117, .int 114, .int 101, .int 0, .int 0]) (rest := [.ref h0]) (wr := [(h0, .inr (12, [.int m_status, .int m_thrown, .long m_above, .long m_under, .ref a_traySort, .ref a_trayMany, .ref a_numbers, .ref a_tape, .int m_taped, .int m_textEnd, .int m_faultKind, .int m_faultAt, .int m_bad, .int m_badAt, .int m_token, .int m_at, .int m_behind, .int m_number, .int m_letters, .long m_word, .ref a_c, .ref a_words, .int m_markMany, .ref a_there, .ref a_tried, .ref a_best, .ref a_found, .int m_thereMany, .int m_foundMany, .int m_orderHow, .int m_orderRing, .int m_orderMany, .int m_hasBest, .long m_bestTop, .long m_bestBy, .ref a_weights, .ref a_shared, .int m_random, .int m_truePlace, .int m_trueWay, .int m_seconds, .int m_done, .int m_feelings, .int m_tries, .int m_leftOver, .int m_playDoor, .int m_playRing, .int m_isOpen, .int m_isOver, .int m_wasTried, .int m_hasPlayed, .ref a_feltNow, .ref a_last, .ref a_kept, .int m_hasSeconds, .int m_hasTurned, .int m_hasRound, .ref a_hasFeels, .ref a_isOn, .int m_firstAct, .long m_meanTop, .long m_meanBy, .ref a_order, .int m_rowMany, .int m_newSteps]))]) ⟨hx, hb, hml, hown, hts⟩ hK hE hT hP hD hS hA (r_spelled l G cA 115 117 114 101 0 0 (by decide +kernel) (by decide +kernel) (by decide +kernel) (by decide +kernel) (by decide +kernel) (by decide +kernel)) lk_RX12_158 ⟨rfl, rfl⟩ ⟨Nat.le_of_ble_eq_true rfl, Nat.le_of_ble_eq_true rfl⟩ [] [0] rfl rfl (by decide) rfl hl.1 rfl (lv_room (Nat.le_of_ble_eq_true rfl)) dX12_isSure_11 ⟨Nat.le_of_ble_eq_true rfl, Nat.le_of_ble_eq_true rfl⟩ (fun r_1 u_2 H locs hw hP hD hS => ?_)
  obtain ⟨he_r_1, hw⟩ := hw
  have hr_r_1 := hw
  refine z_callVi (As := [.long r_1]) (rest := []) (wr := []) ⟨hx, hb, hml, hown, hts⟩ hK hE hT hP hD hS hA (r_isWord l G cA h0 m_status m_thrown m_above m_under a_traySort a_trayMany a_numbers a_tape m_taped m_textEnd m_faultKind m_faultAt m_bad m_badAt m_token m_at m_behind m_number m_letters m_word a_c a_words m_markMany a_there a_tried a_best a_found m_thereMany m_foundMany m_orderHow m_orderRing m_orderMany m_hasBest m_bestTop m_bestBy a_weights a_shared m_random m_truePlace m_trueWay m_seconds m_done m_feelings m_tries m_leftOver m_playDoor m_playRing m_isOpen m_isOver m_wasTried m_hasPlayed a_feltNow a_last a_kept m_hasSeconds m_hasTurned m_hasRound a_hasFeels a_isOn m_firstAct m_meanTop m_meanBy a_order m_rowMany m_newSteps r_1 hr_m_token) lk_RX12_164 ⟨rfl, rfl⟩ ⟨Nat.le_of_ble_eq_true rfl, Nat.le_of_ble_eq_true rfl⟩ 12 rfl rfl rfl [0] [] rfl rfl (by decide) rfl hl.1 rfl (lv_room (Nat.le_of_ble_eq_true rfl)) dX12_isSure_14 ⟨Nat.le_of_ble_eq_true rfl, Nat.le_of_ble_eq_true rfl⟩ (fun r_4 u_5 H locs hw hP hD hS => ?_)
  obtain ⟨he_r_4, hw⟩ := hw
  rcases hw with ⟨rfl, -⟩ | ⟨rfl, hf_7⟩
  · skip
    have hpost : ((0 : Int32) = 0 ∧ True) ∨ ((0 : Int32) = 1 ∧ (m_token.toInt = 1)) := (Or.inl ⟨rfl, trivial⟩)
    have hX_8 : F_r_isSure m_token m_word = ((0 : Int32) : Int32) := by
      clear hret hP hD hS hl hA hT hE hK hts hown hml
      subst he_r_1
      refine (F_r_isSure_s ..).trans ?_
      refine (if_pos he_r_4.symm).trans ?_
      exact rfl
    exact hret _ _ _ _ _ _ () [0] hP hD hS rfl (by decide) dX12_isSure_17 (Or.inl rfl) ⟨(congrArg (fun z9 => z9) hX_8).symm, hpost⟩
  · skip
    have hpost : ((1 : Int32) = 0 ∧ True) ∨ ((1 : Int32) = 1 ∧ (m_token.toInt = 1)) := (Or.inr ⟨rfl, (by omega)⟩)
    have hX_9 : F_r_isSure m_token m_word = ((1 : Int32) : Int32) := by
      clear hret hP hD hS hl hA hT hE hK hts hown hml
      subst he_r_1
      refine (F_r_isSure_s ..).trans ?_
      refine (if_neg (fun h9 => absurd (he_r_4.trans h9) (by decide))).trans ?_
      exact rfl
    exact hret _ _ _ _ _ _ () [0] hP hD hS rfl (by decide) dX12_isSure_17 (Or.inr rfl) ⟨(congrArg (fun z9 => z9) hX_9).symm, hpost⟩
set_option maxHeartbeats 40000000 in
set_option maxRecDepth 100000 in
theorem r_isTried (l : Launch) (G : va_G) (cA : zCA) (h0 : Nat) (m_status : Int32) (m_thrown : Int32) (m_above : Int64) (m_under : Int64) (a_traySort : Nat) (a_trayMany : Nat) (a_numbers : Nat) (a_tape : Nat) (m_taped : Int32) (m_textEnd : Int32) (m_faultKind : Int32) (m_faultAt : Int32) (m_bad : Int32) (m_badAt : Int32) (m_token : Int32) (m_at : Int32) (m_behind : Int32) (m_number : Int32) (m_letters : Int32) (m_word : Int64) (a_c : Nat) (a_words : Nat) (m_markMany : Int32) (a_there : Nat) (a_tried : Nat) (a_best : Nat) (a_found : Nat) (m_thereMany : Int32) (m_foundMany : Int32) (m_orderHow : Int32) (m_orderRing : Int32) (m_orderMany : Int32) (m_hasBest : Int32) (m_bestTop : Int64) (m_bestBy : Int64) (a_weights : Nat) (a_shared : Nat) (m_random : Int32) (m_truePlace : Int32) (m_trueWay : Int32) (m_seconds : Int32) (m_done : Int32) (m_feelings : Int32) (m_tries : Int32) (m_leftOver : Int32) (m_playDoor : Int32) (m_playRing : Int32) (m_isOpen : Int32) (m_isOver : Int32) (m_wasTried : Int32) (m_hasPlayed : Int32) (a_feltNow : Nat) (a_last : Nat) (a_kept : Nat) (m_hasSeconds : Int32) (m_hasTurned : Int32) (m_hasRound : Int32) (a_hasFeels : Nat) (a_isOn : Nat) (m_firstAct : Int32) (m_meanTop : Int64) (m_meanBy : Int64) (a_order : Nat) (m_rowMany : Int32) (m_newSteps : Int32) (hr_m_token : 0 ≤ m_token.toInt ∧ m_token.toInt ≤ 4) : zCi l yX12_isTried cX12_isTried 1 (some .boolean) ({ frames := 1, cells := 0, slots := 0, locals := 27 }) G cA [.ref h0] [(h0, .inr (12, [.int m_status, .int m_thrown, .long m_above, .long m_under, .ref a_traySort, .ref a_trayMany, .ref a_numbers, .ref a_tape, .int m_taped, .int m_textEnd, .int m_faultKind, .int m_faultAt, .int m_bad, .int m_badAt, .int m_token, .int m_at, .int m_behind, .int m_number, .int m_letters, .long m_word, .ref a_c, .ref a_words, .int m_markMany, .ref a_there, .ref a_tried, .ref a_best, .ref a_found, .int m_thereMany, .int m_foundMany, .int m_orderHow, .int m_orderRing, .int m_orderMany, .int m_hasBest, .long m_bestTop, .long m_bestBy, .ref a_weights, .ref a_shared, .int m_random, .int m_truePlace, .int m_trueWay, .int m_seconds, .int m_done, .int m_feelings, .int m_tries, .int m_leftOver, .int m_playDoor, .int m_playRing, .int m_isOpen, .int m_isOver, .int m_wasTried, .int m_hasPlayed, .ref a_feltNow, .ref a_last, .ref a_kept, .int m_hasSeconds, .int m_hasTurned, .int m_hasRound, .ref a_hasFeels, .ref a_isOn, .int m_firstAct, .long m_meanTop, .long m_meanBy, .ref a_order, .int m_rowMany, .int m_newSteps]))] (S := Unit) (fun (r : Int32) (u : Unit) => (r = (F_r_isTried m_token m_word)) ∧ ((r = 0 ∧ True) ∨ (r = 1 ∧ (m_token.toInt = 1)))) (fun (u : Unit) => [(h0, .inr (12, [.int m_status, .int m_thrown, .long m_above, .long m_under, .ref a_traySort, .ref a_trayMany, .ref a_numbers, .ref a_tape, .int m_taped, .int m_textEnd, .int m_faultKind, .int m_faultAt, .int m_bad, .int m_badAt, .int m_token, .int m_at, .int m_behind, .int m_number, .int m_letters, .long m_word, .ref a_c, .ref a_words, .int m_markMany, .ref a_there, .ref a_tried, .ref a_best, .ref a_found, .int m_thereMany, .int m_foundMany, .int m_orderHow, .int m_orderRing, .int m_orderMany, .int m_hasBest, .long m_bestTop, .long m_bestBy, .ref a_weights, .ref a_shared, .int m_random, .int m_truePlace, .int m_trueWay, .int m_seconds, .int m_done, .int m_feelings, .int m_tries, .int m_leftOver, .int m_playDoor, .int m_playRing, .int m_isOpen, .int m_isOver, .int m_wasTried, .int m_hasPlayed, .ref a_feltNow, .ref a_last, .ref a_kept, .int m_hasSeconds, .int m_hasTurned, .int m_hasRound, .ref a_hasFeels, .ref a_isOn, .int m_firstAct, .long m_meanTop, .long m_meanBy, .ref a_order, .int m_rowMany, .int m_newSteps]))]) 0 0 := by
  have hk_0 : (0 : Int32).toInt = 0 := by decide +kernel
  have hk_100 : (100 : Int32).toInt = 100 := by decide +kernel
  have hk_101 : (101 : Int32).toInt = 101 := by decide +kernel
  have hk_105 : (105 : Int32).toInt = 105 := by decide +kernel
  have hk_114 : (114 : Int32).toInt = 114 := by decide +kernel
  have hk_116 : (116 : Int32).toInt = 116 := by decide +kernel
  refine z_start2z (own := RX12) (by decide) (Nat.le_of_ble_eq_true rfl) rfl ?_
  intro p e s m args below meth c A ls Q hx hb hml hts hown hK hE hT hP hD hS hA hl hret
  have hl : lv_has ls 1 [(0, .ref h0)] := hl
  refine lv_aload_n hx hb dX12_isTried_0 rfl (lv_at hl 0 rfl) ?_
  refine lv_bipush (v := 116) hx hb dX12_isTried_1 (by decide) ?_
  refine lv_bipush (v := 114) hx hb dX12_isTried_3 (by decide) ?_
  refine lv_bipush (v := 105) hx hb dX12_isTried_5 (by decide) ?_
  refine lv_bipush (v := 101) hx hb dX12_isTried_7 (by decide) ?_
  refine lv_bipush (v := 100) hx hb dX12_isTried_9 (by decide) ?_
  refine lv_iconst (v := 0) hx hb dX12_isTried_11 (by decide) ?_
  refine z_callSl (As := [.int 116, .int 114, .int 105, .int 101, .int 100, .int 0]) (rest := [.ref h0]) (wr := [(h0, .inr (12, [.int m_status, .int m_thrown, .long m_above, .long m_under, .ref a_traySort, .ref a_trayMany, .ref a_numbers, .ref a_tape, .int m_taped, .int m_textEnd, .int m_faultKind, .int m_faultAt, .int m_bad, .int m_badAt, .int m_token, .int m_at, .int m_behind, .int m_number, .int m_letters, .long m_word, .ref a_c, .ref a_words, .int m_markMany, .ref a_there, .ref a_tried, .ref a_best, .ref a_found, .int m_thereMany, .int m_foundMany, .int m_orderHow, .int m_orderRing, .int m_orderMany, .int m_hasBest, .long m_bestTop, .long m_bestBy, .ref a_weights, .ref a_shared, .int m_random, .int m_truePlace, .int m_trueWay, .int m_seconds, .int m_done, .int m_feelings, .int m_tries, .int m_leftOver, .int m_playDoor, .int m_playRing, .int m_isOpen, .int m_isOver, .int m_wasTried, .int m_hasPlayed, .ref a_feltNow, .ref a_last, .ref a_kept, .int m_hasSeconds, .int m_hasTurned, .int m_hasRound, .ref a_hasFeels, .ref a_isOn, .int m_firstAct, .long m_meanTop, .long m_meanBy, .ref a_order, .int m_rowMany, .int m_newSteps]))]) ⟨hx, hb, hml, hown, hts⟩ hK hE hT hP hD hS hA (r_spelled l G cA 116 114 105 101 100 0 (by decide +kernel) (by decide +kernel) (by decide +kernel) (by decide +kernel) (by decide +kernel) (by decide +kernel)) lk_RX12_158 ⟨rfl, rfl⟩ ⟨Nat.le_of_ble_eq_true rfl, Nat.le_of_ble_eq_true rfl⟩ [] [0] rfl rfl (by decide) rfl hl.1 rfl (lv_room (Nat.le_of_ble_eq_true rfl)) dX12_isTried_12 ⟨Nat.le_of_ble_eq_true rfl, Nat.le_of_ble_eq_true rfl⟩ (fun r_1 u_2 H locs hw hP hD hS => ?_)
  obtain ⟨he_r_1, hw⟩ := hw
  have hr_r_1 := hw
  refine z_callVi (As := [.long r_1]) (rest := []) (wr := []) ⟨hx, hb, hml, hown, hts⟩ hK hE hT hP hD hS hA (r_isWord l G cA h0 m_status m_thrown m_above m_under a_traySort a_trayMany a_numbers a_tape m_taped m_textEnd m_faultKind m_faultAt m_bad m_badAt m_token m_at m_behind m_number m_letters m_word a_c a_words m_markMany a_there a_tried a_best a_found m_thereMany m_foundMany m_orderHow m_orderRing m_orderMany m_hasBest m_bestTop m_bestBy a_weights a_shared m_random m_truePlace m_trueWay m_seconds m_done m_feelings m_tries m_leftOver m_playDoor m_playRing m_isOpen m_isOver m_wasTried m_hasPlayed a_feltNow a_last a_kept m_hasSeconds m_hasTurned m_hasRound a_hasFeels a_isOn m_firstAct m_meanTop m_meanBy a_order m_rowMany m_newSteps r_1 hr_m_token) lk_RX12_164 ⟨rfl, rfl⟩ ⟨Nat.le_of_ble_eq_true rfl, Nat.le_of_ble_eq_true rfl⟩ 12 rfl rfl rfl [0] [] rfl rfl (by decide) rfl hl.1 rfl (lv_room (Nat.le_of_ble_eq_true rfl)) dX12_isTried_15 ⟨Nat.le_of_ble_eq_true rfl, Nat.le_of_ble_eq_true rfl⟩ (fun r_4 u_5 H locs hw hP hD hS => ?_)
  obtain ⟨he_r_4, hw⟩ := hw
  rcases hw with ⟨rfl, -⟩ | ⟨rfl, hf_7⟩
  · skip
    have hpost : ((0 : Int32) = 0 ∧ True) ∨ ((0 : Int32) = 1 ∧ (m_token.toInt = 1)) := (Or.inl ⟨rfl, trivial⟩)
    have hX_8 : F_r_isTried m_token m_word = ((0 : Int32) : Int32) := by
      clear hret hP hD hS hl hA hT hE hK hts hown hml
      subst he_r_1
      refine (F_r_isTried_s ..).trans ?_
      refine (if_pos he_r_4.symm).trans ?_
      exact rfl
    exact hret _ _ _ _ _ _ () [0] hP hD hS rfl (by decide) dX12_isTried_18 (Or.inl rfl) ⟨(congrArg (fun z9 => z9) hX_8).symm, hpost⟩
  · skip
    have hpost : ((1 : Int32) = 0 ∧ True) ∨ ((1 : Int32) = 1 ∧ (m_token.toInt = 1)) := (Or.inr ⟨rfl, (by omega)⟩)
    have hX_9 : F_r_isTried m_token m_word = ((1 : Int32) : Int32) := by
      clear hret hP hD hS hl hA hT hE hK hts hown hml
      subst he_r_1
      refine (F_r_isTried_s ..).trans ?_
      refine (if_neg (fun h9 => absurd (he_r_4.trans h9) (by decide))).trans ?_
      exact rfl
    exact hret _ _ _ _ _ _ () [0] hP hD hS rfl (by decide) dX12_isTried_18 (Or.inr rfl) ⟨(congrArg (fun z9 => z9) hX_9).symm, hpost⟩
set_option maxHeartbeats 40000000 in
set_option maxRecDepth 100000 in
theorem r_plainStep (l : Launch) (G : va_G) (cA : zCA) (h0 : Nat) (m_status : Int32) (m_thrown : Int32) (m_above : Int64) (m_under : Int64) (a_traySort : Nat) (a_trayMany : Nat) (a_numbers : Nat) (a_tape : Nat) (m_taped : Int32) (m_textEnd : Int32) (m_faultKind : Int32) (m_faultAt : Int32) (m_bad : Int32) (m_badAt : Int32) (m_token : Int32) (m_at : Int32) (m_behind : Int32) (m_number : Int32) (m_letters : Int32) (m_word : Int64) (a_c : Nat) (a_words : Nat) (m_markMany : Int32) (a_there : Nat) (a_tried : Nat) (a_best : Nat) (a_found : Nat) (m_thereMany : Int32) (m_foundMany : Int32) (m_orderHow : Int32) (m_orderRing : Int32) (m_orderMany : Int32) (m_hasBest : Int32) (m_bestTop : Int64) (m_bestBy : Int64) (a_weights : Nat) (a_shared : Nat) (m_random : Int32) (m_truePlace : Int32) (m_trueWay : Int32) (m_seconds : Int32) (m_done : Int32) (m_feelings : Int32) (m_tries : Int32) (m_leftOver : Int32) (m_playDoor : Int32) (m_playRing : Int32) (m_isOpen : Int32) (m_isOver : Int32) (m_wasTried : Int32) (m_hasPlayed : Int32) (a_feltNow : Nat) (a_last : Nat) (a_kept : Nat) (m_hasSeconds : Int32) (m_hasTurned : Int32) (m_hasRound : Int32) (a_hasFeels : Nat) (a_isOn : Nat) (m_firstAct : Int32) (m_meanTop : Int64) (m_meanBy : Int64) (a_order : Nat) (m_rowMany : Int32) (m_newSteps : Int32) (hr_m_token : 0 ≤ m_token.toInt ∧ m_token.toInt ≤ 4) : zCi l yX12_plainStep cX12_plainStep 2 (some .int) ({ frames := 2, cells := 0, slots := 0, locals := 47 }) G cA [.ref h0] [(h0, .inr (12, [.int m_status, .int m_thrown, .long m_above, .long m_under, .ref a_traySort, .ref a_trayMany, .ref a_numbers, .ref a_tape, .int m_taped, .int m_textEnd, .int m_faultKind, .int m_faultAt, .int m_bad, .int m_badAt, .int m_token, .int m_at, .int m_behind, .int m_number, .int m_letters, .long m_word, .ref a_c, .ref a_words, .int m_markMany, .ref a_there, .ref a_tried, .ref a_best, .ref a_found, .int m_thereMany, .int m_foundMany, .int m_orderHow, .int m_orderRing, .int m_orderMany, .int m_hasBest, .long m_bestTop, .long m_bestBy, .ref a_weights, .ref a_shared, .int m_random, .int m_truePlace, .int m_trueWay, .int m_seconds, .int m_done, .int m_feelings, .int m_tries, .int m_leftOver, .int m_playDoor, .int m_playRing, .int m_isOpen, .int m_isOver, .int m_wasTried, .int m_hasPlayed, .ref a_feltNow, .ref a_last, .ref a_kept, .int m_hasSeconds, .int m_hasTurned, .int m_hasRound, .ref a_hasFeels, .ref a_isOn, .int m_firstAct, .long m_meanTop, .long m_meanBy, .ref a_order, .int m_rowMany, .int m_newSteps]))] (S := Unit) (fun (r : Int32) (u : Unit) => (r = (F_r_plainStep m_token m_word)) ∧ (((-1) ≤ r.toInt ∧ r.toInt ≤ 5) ∧ (r.toInt < 0 ∨ m_token.toInt = 1))) (fun (u : Unit) => [(h0, .inr (12, [.int m_status, .int m_thrown, .long m_above, .long m_under, .ref a_traySort, .ref a_trayMany, .ref a_numbers, .ref a_tape, .int m_taped, .int m_textEnd, .int m_faultKind, .int m_faultAt, .int m_bad, .int m_badAt, .int m_token, .int m_at, .int m_behind, .int m_number, .int m_letters, .long m_word, .ref a_c, .ref a_words, .int m_markMany, .ref a_there, .ref a_tried, .ref a_best, .ref a_found, .int m_thereMany, .int m_foundMany, .int m_orderHow, .int m_orderRing, .int m_orderMany, .int m_hasBest, .long m_bestTop, .long m_bestBy, .ref a_weights, .ref a_shared, .int m_random, .int m_truePlace, .int m_trueWay, .int m_seconds, .int m_done, .int m_feelings, .int m_tries, .int m_leftOver, .int m_playDoor, .int m_playRing, .int m_isOpen, .int m_isOver, .int m_wasTried, .int m_hasPlayed, .ref a_feltNow, .ref a_last, .ref a_kept, .int m_hasSeconds, .int m_hasTurned, .int m_hasRound, .ref a_hasFeels, .ref a_isOn, .int m_firstAct, .long m_meanTop, .long m_meanBy, .ref a_order, .int m_rowMany, .int m_newSteps]))]) 0 0 := by
  have hk_m1 : ((-1) : Int32).toInt = (-1) := by decide +kernel
  have hk_0 : (0 : Int32).toInt = 0 := by decide +kernel
  have hk_1 : (1 : Int32).toInt = 1 := by decide +kernel
  have hk_2 : (2 : Int32).toInt = 2 := by decide +kernel
  have hk_3 : (3 : Int32).toInt = 3 := by decide +kernel
  have hk_4 : (4 : Int32).toInt = 4 := by decide +kernel
  have hk_5 : (5 : Int32).toInt = 5 := by decide +kernel
  have hk_11 : (11 : Int32).toInt = 11 := by decide +kernel
  have hk_12 : (12 : Int32).toInt = 12 := by decide +kernel
  have hk_13 : (13 : Int32).toInt = 13 := by decide +kernel
  have hk_14 : (14 : Int32).toInt = 14 := by decide +kernel
  refine z_start2i (own := RX12) (by decide) (Nat.le_of_ble_eq_true rfl) rfl ?_
  intro p e s m args below meth c A ls Q hx hb hml hts hown hK hE hT hP hD hS hA hl hret
  have hl : lv_has ls 2 [(0, .ref h0)] := hl
  refine lv_aload_n hx hb dX12_plainStep_0 rfl (lv_at hl 0 rfl) ?_
  refine z_callVi (As := []) (rest := []) (wr := []) ⟨hx, hb, hml, hown, hts⟩ hK hE hT hP hD hS hA (r_houseWord l G cA h0 m_status m_thrown m_above m_under a_traySort a_trayMany a_numbers a_tape m_taped m_textEnd m_faultKind m_faultAt m_bad m_badAt m_token m_at m_behind m_number m_letters m_word a_c a_words m_markMany a_there a_tried a_best a_found m_thereMany m_foundMany m_orderHow m_orderRing m_orderMany m_hasBest m_bestTop m_bestBy a_weights a_shared m_random m_truePlace m_trueWay m_seconds m_done m_feelings m_tries m_leftOver m_playDoor m_playRing m_isOpen m_isOver m_wasTried m_hasPlayed a_feltNow a_last a_kept m_hasSeconds m_hasTurned m_hasRound a_hasFeels a_isOn m_firstAct m_meanTop m_meanBy a_order m_rowMany m_newSteps hr_m_token) lk_RX12_170 ⟨rfl, rfl⟩ ⟨Nat.le_of_ble_eq_true rfl, Nat.le_of_ble_eq_true rfl⟩ 12 rfl rfl rfl [0] [] rfl rfl (by decide) rfl hl.1 rfl (lv_room (Nat.le_of_ble_eq_true rfl)) dX12_plainStep_1 ⟨Nat.le_of_ble_eq_true rfl, Nat.le_of_ble_eq_true rfl⟩ (fun r_1 u_2 H locs hw hP hD hS => ?_)
  obtain ⟨he_r_1, hw⟩ := hw
  obtain ⟨hr_r_1, hf_4⟩ := hw
  refine lv_istore_n (lv' := [(1, .int r_1), (0, .ref h0)]) hx hb dX12_plainStep_4 rfl hl (by decide) rfl (fun ls hl => ?_)
  refine lv_iload_n hx hb dX12_plainStep_5 rfl (lv_at hl 0 rfl) ?_
  refine lv_bipush (v := 11) hx hb dX12_plainStep_6 (by decide) ?_
  refine lv_icmp_ne (tgt := 13) hx hb dX12_plainStep_8 (by decide) (fun c_5 => ?_) (fun c_5 => ?_)
  · have b_6 := z_fneT c_5
    refine lv_iload_n hx hb dX12_plainStep_13 rfl (lv_at hl 0 rfl) ?_
    refine lv_bipush (v := 12) hx hb dX12_plainStep_14 (by decide) ?_
    refine lv_icmp_ne (tgt := 21) hx hb dX12_plainStep_16 (by decide) (fun c_7 => ?_) (fun c_7 => ?_)
    · have b_8 := z_fneT c_7
      refine lv_iload_n hx hb dX12_plainStep_21 rfl (lv_at hl 0 rfl) ?_
      refine lv_bipush (v := 13) hx hb dX12_plainStep_22 (by decide) ?_
      refine lv_icmp_ne (tgt := 29) hx hb dX12_plainStep_24 (by decide) (fun c_9 => ?_) (fun c_9 => ?_)
      · have b_10 := z_fneT c_9
        refine lv_iload_n hx hb dX12_plainStep_29 rfl (lv_at hl 0 rfl) ?_
        refine lv_bipush (v := 14) hx hb dX12_plainStep_30 (by decide) ?_
        refine lv_icmp_ne (tgt := 37) hx hb dX12_plainStep_32 (by decide) (fun c_11 => ?_) (fun c_11 => ?_)
        · have b_12 := z_fneT c_11
          refine lv_aload_n hx hb dX12_plainStep_37 rfl (lv_at hl 1 rfl) ?_
          refine z_callVi (As := []) (rest := []) (wr := []) ⟨hx, hb, hml, hown, hts⟩ hK hE hT hP hD hS hA (r_isTurn l G cA h0 m_status m_thrown m_above m_under a_traySort a_trayMany a_numbers a_tape m_taped m_textEnd m_faultKind m_faultAt m_bad m_badAt m_token m_at m_behind m_number m_letters m_word a_c a_words m_markMany a_there a_tried a_best a_found m_thereMany m_foundMany m_orderHow m_orderRing m_orderMany m_hasBest m_bestTop m_bestBy a_weights a_shared m_random m_truePlace m_trueWay m_seconds m_done m_feelings m_tries m_leftOver m_playDoor m_playRing m_isOpen m_isOver m_wasTried m_hasPlayed a_feltNow a_last a_kept m_hasSeconds m_hasTurned m_hasRound a_hasFeels a_isOn m_firstAct m_meanTop m_meanBy a_order m_rowMany m_newSteps hr_m_token) lk_RX12_482 ⟨rfl, rfl⟩ ⟨Nat.le_of_ble_eq_true rfl, Nat.le_of_ble_eq_true rfl⟩ 12 rfl rfl rfl [0] [] rfl rfl (by decide) rfl hl.1 rfl (lv_room (Nat.le_of_ble_eq_true rfl)) dX12_plainStep_38 ⟨Nat.le_of_ble_eq_true rfl, Nat.le_of_ble_eq_true rfl⟩ (fun r_13 u_14 H locs hw hP hD hS => ?_)
          obtain ⟨he_r_13, hw⟩ := hw
          rcases hw with ⟨rfl, -⟩ | ⟨rfl, hf_16⟩
          · skip
            refine lv_if_eq (tgt := 48) hx hb dX12_plainStep_41 (by decide) (fun _ => ?_) (fun h9 => absurd (by decide +kernel) h9)
            refine lv_aload_n hx hb dX12_plainStep_48 rfl (lv_at hl 1 rfl) ?_
            refine z_callVi (As := []) (rest := []) (wr := []) ⟨hx, hb, hml, hown, hts⟩ hK hE hT hP hD hS hA (r_isStop l G cA h0 m_status m_thrown m_above m_under a_traySort a_trayMany a_numbers a_tape m_taped m_textEnd m_faultKind m_faultAt m_bad m_badAt m_token m_at m_behind m_number m_letters m_word a_c a_words m_markMany a_there a_tried a_best a_found m_thereMany m_foundMany m_orderHow m_orderRing m_orderMany m_hasBest m_bestTop m_bestBy a_weights a_shared m_random m_truePlace m_trueWay m_seconds m_done m_feelings m_tries m_leftOver m_playDoor m_playRing m_isOpen m_isOver m_wasTried m_hasPlayed a_feltNow a_last a_kept m_hasSeconds m_hasTurned m_hasRound a_hasFeels a_isOn m_firstAct m_meanTop m_meanBy a_order m_rowMany m_newSteps hr_m_token) lk_RX12_485 ⟨rfl, rfl⟩ ⟨Nat.le_of_ble_eq_true rfl, Nat.le_of_ble_eq_true rfl⟩ 12 rfl rfl rfl [0] [] rfl rfl (by decide) rfl hl.1 rfl (lv_room (Nat.le_of_ble_eq_true rfl)) dX12_plainStep_49 ⟨Nat.le_of_ble_eq_true rfl, Nat.le_of_ble_eq_true rfl⟩ (fun r_17 u_18 H locs hw hP hD hS => ?_)
            obtain ⟨he_r_17, hw⟩ := hw
            rcases hw with ⟨rfl, -⟩ | ⟨rfl, hf_20⟩
            · skip
              refine lv_if_eq (tgt := 59) hx hb dX12_plainStep_52 (by decide) (fun _ => ?_) (fun h9 => absurd (by decide +kernel) h9)
              refine lv_iconst (v := (-1)) hx hb dX12_plainStep_59 (by decide) ?_
              have hpost : ((-1) ≤ ((-1) : Int32).toInt ∧ ((-1) : Int32).toInt ≤ 5) ∧ (((-1) : Int32).toInt < 0 ∨ m_token.toInt = 1) := ⟨(by decide +kernel), (by omega)⟩
              have hX_21 : F_r_plainStep m_token m_word = ((-1 : Int32) : Int32) := by
                clear hret hP hD hS hl hA hT hE hK hts hown hml
                subst he_r_1
                refine (F_r_plainStep_s ..).trans ?_
                refine (if_neg c_5).trans ?_
                refine (if_neg c_7).trans ?_
                refine (if_neg c_9).trans ?_
                refine (if_neg c_11).trans ?_
                refine (if_pos he_r_13.symm).trans ?_
                refine (if_pos he_r_17.symm).trans ?_
                exact rfl
              exact hret _ _ _ _ _ _ () [0] hP hD hS rfl (by decide) dX12_plainStep_60 ⟨(congrArg (fun z9 => z9) hX_21).symm, hpost⟩
            · skip
              refine lv_if_eq (tgt := 59) hx hb dX12_plainStep_52 (by decide) (fun h9 => absurd h9 (by decide +kernel)) (fun _ => ?_)
              refine lv_iconst (v := 5) hx hb dX12_plainStep_55 (by decide) ?_
              refine lv_goto (tgt := 60) hx hb dX12_plainStep_56 (by decide) ?_
              have hpost : ((-1) ≤ (5 : Int32).toInt ∧ (5 : Int32).toInt ≤ 5) ∧ ((5 : Int32).toInt < 0 ∨ m_token.toInt = 1) := ⟨(by decide +kernel), (by omega)⟩
              have hX_22 : F_r_plainStep m_token m_word = ((5 : Int32) : Int32) := by
                clear hret hP hD hS hl hA hT hE hK hts hown hml
                subst he_r_1
                refine (F_r_plainStep_s ..).trans ?_
                refine (if_neg c_5).trans ?_
                refine (if_neg c_7).trans ?_
                refine (if_neg c_9).trans ?_
                refine (if_neg c_11).trans ?_
                refine (if_pos he_r_13.symm).trans ?_
                refine (if_neg (fun h9 => absurd (he_r_17.trans h9) (by decide))).trans ?_
                exact rfl
              exact hret _ _ _ _ _ _ () [0] hP hD hS rfl (by decide) dX12_plainStep_60 ⟨(congrArg (fun z9 => z9) hX_22).symm, hpost⟩
          · skip
            refine lv_if_eq (tgt := 48) hx hb dX12_plainStep_41 (by decide) (fun h9 => absurd h9 (by decide +kernel)) (fun _ => ?_)
            refine lv_iconst (v := 3) hx hb dX12_plainStep_44 (by decide) ?_
            refine lv_goto (tgt := 60) hx hb dX12_plainStep_45 (by decide) ?_
            have hpost : ((-1) ≤ (3 : Int32).toInt ∧ (3 : Int32).toInt ≤ 5) ∧ ((3 : Int32).toInt < 0 ∨ m_token.toInt = 1) := ⟨(by decide +kernel), (by omega)⟩
            have hX_23 : F_r_plainStep m_token m_word = ((3 : Int32) : Int32) := by
              clear hret hP hD hS hl hA hT hE hK hts hown hml
              subst he_r_1
              refine (F_r_plainStep_s ..).trans ?_
              refine (if_neg c_5).trans ?_
              refine (if_neg c_7).trans ?_
              refine (if_neg c_9).trans ?_
              refine (if_neg c_11).trans ?_
              refine (if_neg (fun h9 => absurd (he_r_13.trans h9) (by decide))).trans ?_
              exact rfl
            exact hret _ _ _ _ _ _ () [0] hP hD hS rfl (by decide) dX12_plainStep_60 ⟨(congrArg (fun z9 => z9) hX_23).symm, hpost⟩
        · have b_24 := z_feqF c_11
          refine lv_iconst (v := 4) hx hb dX12_plainStep_35 (by decide) ?_
          have hpost : ((-1) ≤ (4 : Int32).toInt ∧ (4 : Int32).toInt ≤ 5) ∧ ((4 : Int32).toInt < 0 ∨ m_token.toInt = 1) := ⟨(by decide +kernel), (by omega)⟩
          have hX_25 : F_r_plainStep m_token m_word = ((4 : Int32) : Int32) := by
            clear hret hP hD hS hl hA hT hE hK hts hown hml
            subst he_r_1
            refine (F_r_plainStep_s ..).trans ?_
            refine (if_neg c_5).trans ?_
            refine (if_neg c_7).trans ?_
            refine (if_neg c_9).trans ?_
            refine (if_pos c_11).trans ?_
            exact rfl
          exact hret _ _ _ _ _ _ () [0] hP hD hS rfl (by decide) dX12_plainStep_36 ⟨(congrArg (fun z9 => z9) hX_25).symm, hpost⟩
      · have b_26 := z_feqF c_9
        refine lv_iconst (v := 2) hx hb dX12_plainStep_27 (by decide) ?_
        have hpost : ((-1) ≤ (2 : Int32).toInt ∧ (2 : Int32).toInt ≤ 5) ∧ ((2 : Int32).toInt < 0 ∨ m_token.toInt = 1) := ⟨(by decide +kernel), (by omega)⟩
        have hX_27 : F_r_plainStep m_token m_word = ((2 : Int32) : Int32) := by
          clear hret hP hD hS hl hA hT hE hK hts hown hml
          subst he_r_1
          refine (F_r_plainStep_s ..).trans ?_
          refine (if_neg c_5).trans ?_
          refine (if_neg c_7).trans ?_
          refine (if_pos c_9).trans ?_
          exact rfl
        exact hret _ _ _ _ _ _ () [0] hP hD hS rfl (by decide) dX12_plainStep_28 ⟨(congrArg (fun z9 => z9) hX_27).symm, hpost⟩
    · have b_28 := z_feqF c_7
      refine lv_iconst (v := 1) hx hb dX12_plainStep_19 (by decide) ?_
      have hpost : ((-1) ≤ (1 : Int32).toInt ∧ (1 : Int32).toInt ≤ 5) ∧ ((1 : Int32).toInt < 0 ∨ m_token.toInt = 1) := ⟨(by decide +kernel), (by omega)⟩
      have hX_29 : F_r_plainStep m_token m_word = ((1 : Int32) : Int32) := by
        clear hret hP hD hS hl hA hT hE hK hts hown hml
        subst he_r_1
        refine (F_r_plainStep_s ..).trans ?_
        refine (if_neg c_5).trans ?_
        refine (if_pos c_7).trans ?_
        exact rfl
      exact hret _ _ _ _ _ _ () [0] hP hD hS rfl (by decide) dX12_plainStep_20 ⟨(congrArg (fun z9 => z9) hX_29).symm, hpost⟩
  · have b_30 := z_feqF c_5
    refine lv_iconst (v := 0) hx hb dX12_plainStep_11 (by decide) ?_
    have hpost : ((-1) ≤ (0 : Int32).toInt ∧ (0 : Int32).toInt ≤ 5) ∧ ((0 : Int32).toInt < 0 ∨ m_token.toInt = 1) := ⟨(by decide +kernel), (by omega)⟩
    have hX_31 : F_r_plainStep m_token m_word = ((0 : Int32) : Int32) := by
      clear hret hP hD hS hl hA hT hE hK hts hown hml
      subst he_r_1
      refine (F_r_plainStep_s ..).trans ?_
      refine (if_pos c_5).trans ?_
      exact rfl
    exact hret _ _ _ _ _ _ () [0] hP hD hS rfl (by decide) dX12_plainStep_12 ⟨(congrArg (fun z9 => z9) hX_31).symm, hpost⟩
set_option maxHeartbeats 40000000 in
set_option maxRecDepth 100000 in
theorem r_readFeatureName (l : Launch) (G : va_G) (cA : zCA) (h0 : Nat) (m_status : Int32) (m_thrown : Int32) (m_above : Int64) (m_under : Int64) (a_traySort : Nat) (a_trayMany : Nat) (a_numbers : Nat) (a_tape : Nat) (m_taped : Int32) (m_textEnd : Int32) (m_faultKind : Int32) (m_faultAt : Int32) (m_bad : Int32) (m_badAt : Int32) (m_token : Int32) (m_at : Int32) (m_behind : Int32) (m_number : Int32) (m_letters : Int32) (m_word : Int64) (a_c : Nat) (a_words : Nat) (m_markMany : Int32) (a_there : Nat) (a_tried : Nat) (a_best : Nat) (a_found : Nat) (m_thereMany : Int32) (m_foundMany : Int32) (m_orderHow : Int32) (m_orderRing : Int32) (m_orderMany : Int32) (m_hasBest : Int32) (m_bestTop : Int64) (m_bestBy : Int64) (a_weights : Nat) (a_shared : Nat) (m_random : Int32) (m_truePlace : Int32) (m_trueWay : Int32) (m_seconds : Int32) (m_done : Int32) (m_feelings : Int32) (m_tries : Int32) (m_leftOver : Int32) (m_playDoor : Int32) (m_playRing : Int32) (m_isOpen : Int32) (m_isOver : Int32) (m_wasTried : Int32) (m_hasPlayed : Int32) (a_feltNow : Nat) (a_last : Nat) (a_kept : Nat) (m_hasSeconds : Int32) (m_hasTurned : Int32) (m_hasRound : Int32) (a_hasFeels : Nat) (a_isOn : Nat) (m_firstAct : Int32) (m_meanTop : Int64) (m_meanBy : Int64) (a_order : Nat) (m_rowMany : Int32) (m_newSteps : Int32) (g_tape : Nat → Int32) (g_c : Nat → Int32) (g_words : Nat → Int64) (hr_m_textEnd : 0 ≤ m_textEnd.toInt ∧ m_textEnd.toInt ≤ 900) (hr_m_at : 0 ≤ m_at.toInt ∧ m_at.toInt ≤ 900) (hr_m_behind : 0 ≤ m_behind.toInt ∧ m_behind.toInt ≤ 900) (hr_m_bad : 0 ≤ m_bad.toInt ∧ m_bad.toInt ≤ 9) (hr_m_token : 0 ≤ m_token.toInt ∧ m_token.toInt ≤ 4) (hr_m_number : 0 ≤ m_number.toInt ∧ m_number.toInt ≤ 9999) (hr_m_letters : 0 ≤ m_letters.toInt ∧ m_letters.toInt ≤ 900) (hC_g_c : zC g_c) : zCi l yX12_readFeatureName cX12_readFeatureName 2 (some .int) ({ frames := 3, cells := 0, slots := 0, locals := 67 }) G cA [.ref h0] [(h0, .inr (12, [.int m_status, .int m_thrown, .long m_above, .long m_under, .ref a_traySort, .ref a_trayMany, .ref a_numbers, .ref a_tape, .int m_taped, .int m_textEnd, .int m_faultKind, .int m_faultAt, .int m_bad, .int m_badAt, .int m_token, .int m_at, .int m_behind, .int m_number, .int m_letters, .long m_word, .ref a_c, .ref a_words, .int m_markMany, .ref a_there, .ref a_tried, .ref a_best, .ref a_found, .int m_thereMany, .int m_foundMany, .int m_orderHow, .int m_orderRing, .int m_orderMany, .int m_hasBest, .long m_bestTop, .long m_bestBy, .ref a_weights, .ref a_shared, .int m_random, .int m_truePlace, .int m_trueWay, .int m_seconds, .int m_done, .int m_feelings, .int m_tries, .int m_leftOver, .int m_playDoor, .int m_playRing, .int m_isOpen, .int m_isOver, .int m_wasTried, .int m_hasPlayed, .ref a_feltNow, .ref a_last, .ref a_kept, .int m_hasSeconds, .int m_hasTurned, .int m_hasRound, .ref a_hasFeels, .ref a_isOn, .int m_firstAct, .long m_meanTop, .long m_meanBy, .ref a_order, .int m_rowMany, .int m_newSteps])), (a_tape, .inl (cA.1 2, 900, .inl g_tape)), (a_c, .inl (cA.1 0, 1825, .inl g_c)), (a_words, .inl (cA.1 1, 105, .inr (.inl g_words)))] (S := Int32 × Int32 × Int32 × Int32 × Int32 × Int64 × Int32 × Int32) (fun (r : Int32) (u : Int32 × Int32 × Int32 × Int32 × Int32 × Int64 × Int32 × Int32) => ((-1) ≤ r.toInt ∧ r.toInt ≤ 2) ∧ (0 ≤ u.1.toInt ∧ u.1.toInt ≤ 4) ∧ (0 ≤ u.2.1.toInt ∧ u.2.1.toInt ≤ 900) ∧ (0 ≤ u.2.2.1.toInt ∧ u.2.2.1.toInt ≤ 900) ∧ (0 ≤ u.2.2.2.1.toInt ∧ u.2.2.2.1.toInt ≤ 9999) ∧ (0 ≤ u.2.2.2.2.1.toInt ∧ u.2.2.2.2.1.toInt ≤ 900) ∧ (0 ≤ u.2.2.2.2.2.2.1.toInt ∧ u.2.2.2.2.2.2.1.toInt ≤ 9) ∧ (m_behind.toInt ≤ u.2.2.1.toInt) ∧ (0 < m_bad.toInt → 0 < u.2.2.2.2.2.2.1.toInt) ∧ (u.2.2.2.2.2.2.1.toInt ≤ 0 → u.1.toInt = 0 ∨ m_behind.toInt < u.2.2.1.toInt)) (fun (u : Int32 × Int32 × Int32 × Int32 × Int32 × Int64 × Int32 × Int32) => [(h0, .inr (12, [.int m_status, .int m_thrown, .long m_above, .long m_under, .ref a_traySort, .ref a_trayMany, .ref a_numbers, .ref a_tape, .int m_taped, .int m_textEnd, .int m_faultKind, .int m_faultAt, .int u.2.2.2.2.2.2.1, .int u.2.2.2.2.2.2.2, .int u.1, .int u.2.1, .int u.2.2.1, .int u.2.2.2.1, .int u.2.2.2.2.1, .long u.2.2.2.2.2.1, .ref a_c, .ref a_words, .int m_markMany, .ref a_there, .ref a_tried, .ref a_best, .ref a_found, .int m_thereMany, .int m_foundMany, .int m_orderHow, .int m_orderRing, .int m_orderMany, .int m_hasBest, .long m_bestTop, .long m_bestBy, .ref a_weights, .ref a_shared, .int m_random, .int m_truePlace, .int m_trueWay, .int m_seconds, .int m_done, .int m_feelings, .int m_tries, .int m_leftOver, .int m_playDoor, .int m_playRing, .int m_isOpen, .int m_isOver, .int m_wasTried, .int m_hasPlayed, .ref a_feltNow, .ref a_last, .ref a_kept, .int m_hasSeconds, .int m_hasTurned, .int m_hasRound, .ref a_hasFeels, .ref a_isOn, .int m_firstAct, .long m_meanTop, .long m_meanBy, .ref a_order, .int m_rowMany, .int m_newSteps])), (a_tape, .inl (cA.1 2, 900, .inl g_tape)), (a_c, .inl (cA.1 0, 1825, .inl g_c)), (a_words, .inl (cA.1 1, 105, .inr (.inl g_words)))]) 0 0 := by
  have hk_0 : (0 : Int32).toInt = 0 := by decide +kernel
  have hk_1 : (1 : Int32).toInt = 1 := by decide +kernel
  have hk_3 : (3 : Int32).toInt = 3 := by decide +kernel
  refine z_start2i (own := RX12) (by decide) (Nat.le_of_ble_eq_true rfl) rfl ?_
  intro p e s m args below meth c A ls Q hx hb hml hts hown hK hE hT hP hD hS hA hl hret
  have hl : lv_has ls 2 [(0, .ref h0)] := hl
  refine lv_aload_n hx hb dX12_readFeatureName_0 rfl (lv_at hl 0 rfl) ?_
  refine va_get (D := G) (ci := 12) (v := .int m_bad) (C := RX12) (T := TX12) (N := 65) hx hb hts inT12 hown hK hP 0 rfl rfl 12 (by decide) (hts _ tw_1897) (fun _ h9 => h9) rfl dX12_readFeatureName_1 ?_
  refine lv_if_ne (tgt := 18) hx hb dX12_readFeatureName_4 (by decide) (fun c_1 => ?_) (fun c_1 => ?_)
  · have b_2 := z_fneT c_1
    refine lv_aload_n hx hb dX12_readFeatureName_18 rfl (lv_at hl 0 rfl) ?_
    refine va_get (D := G) (ci := 12) (v := .int m_bad) (C := RX12) (T := TX12) (N := 65) hx hb hts inT12 hown hK hP 0 rfl rfl 12 (by decide) (hts _ tw_1897) (fun _ h9 => h9) rfl dX12_readFeatureName_19 ?_
    refine lv_if_ne (tgt := 40) hx hb dX12_readFeatureName_22 (by decide) (fun c_3 => ?_) (fun h9 => (z_no (by have h8 := z_feqF h9; omega)))
    have b_4 := z_fneT c_3
    refine lv_iconst (v := 0) hx hb dX12_readFeatureName_40 (by decide) ?_
    refine lv_istore_n (lv' := [(1, .int 0), (0, .ref h0)]) hx hb dX12_readFeatureName_41 rfl hl (by decide) rfl (fun ls hl => ?_)
    refine lv_aload_n hx hb dX12_readFeatureName_42 rfl (lv_at hl 1 rfl) ?_
    refine va_get (D := G) (ci := 12) (v := .int m_bad) (C := RX12) (T := TX12) (N := 65) hx hb hts inT12 hown hK hP 0 rfl rfl 12 (by decide) (hts _ tw_1897) (fun _ h9 => h9) rfl dX12_readFeatureName_43 ?_
    refine lv_if_ne (tgt := 62) hx hb dX12_readFeatureName_46 (by decide) (fun c_5 => ?_) (fun h9 => (z_no (by have h8 := z_feqF h9; omega)))
    have b_6 := z_fneT c_5
    refine lv_aload_n hx hb dX12_readFeatureName_62 rfl (lv_at hl 1 rfl) ?_
    refine lv_iconst (v := 1) hx hb dX12_readFeatureName_63 (by decide) ?_
    refine z_callVv (As := [.int 1]) (rest := []) (wr := [(a_c, .inl (cA.1 0, 1825, .inl g_c)), (a_words, .inl (cA.1 1, 105, .inr (.inl g_words)))]) ⟨hx, hb, hml, hown, hts⟩ hK hE hT hP hD hS hA (r_must_1 l G cA h0 m_status m_thrown m_above m_under a_traySort a_trayMany a_numbers a_tape m_taped m_textEnd m_faultKind m_faultAt m_bad m_badAt m_token m_at m_behind m_number m_letters m_word a_c a_words m_markMany a_there a_tried a_best a_found m_thereMany m_foundMany m_orderHow m_orderRing m_orderMany m_hasBest m_bestTop m_bestBy a_weights a_shared m_random m_truePlace m_trueWay m_seconds m_done m_feelings m_tries m_leftOver m_playDoor m_playRing m_isOpen m_isOver m_wasTried m_hasPlayed a_feltNow a_last a_kept m_hasSeconds m_hasTurned m_hasRound a_hasFeels a_isOn m_firstAct m_meanTop m_meanBy a_order m_rowMany m_newSteps g_tape hr_m_textEnd hr_m_at hr_m_behind hr_m_bad hr_m_token hr_m_number hr_m_letters) lk_RX12_210 ⟨rfl, rfl⟩ ⟨Nat.le_of_ble_eq_true rfl, Nat.le_of_ble_eq_true rfl⟩ 12 rfl rfl rfl [0, 1] [2, 3] rfl rfl (by decide) rfl hl.1 rfl (lv_room (Nat.le_of_ble_eq_true rfl)) dX12_readFeatureName_64 ⟨Nat.le_of_ble_eq_true rfl, Nat.le_of_ble_eq_true rfl⟩ (fun u_14 H locs hw hP hD hS => ?_)
    obtain ⟨n_7, n_8, n_9, n_10, n_11, n_12⟩ := u_14
    try dsimp only at hw
    obtain ⟨he_n_7, he_n_8, he_n_9, he_n_10, he_n_11, he_n_12, hw⟩ := hw
    obtain ⟨hr_n_7, hr_n_8, hr_n_9, hr_n_10, hr_n_11, hf_15, hf_16, hf_17⟩ := hw
    refine lv_iload_n hx hb dX12_readFeatureName_67 rfl (lv_at hl 0 rfl) ?_
    have hpost : ((-1) ≤ (0 : Int32).toInt ∧ (0 : Int32).toInt ≤ 2) ∧ (0 ≤ n_7.toInt ∧ n_7.toInt ≤ 4) ∧ (0 ≤ n_8.toInt ∧ n_8.toInt ≤ 900) ∧ (0 ≤ n_9.toInt ∧ n_9.toInt ≤ 900) ∧ (0 ≤ n_10.toInt ∧ n_10.toInt ≤ 9999) ∧ (0 ≤ n_11.toInt ∧ n_11.toInt ≤ 900) ∧ (0 ≤ m_bad.toInt ∧ m_bad.toInt ≤ 9) ∧ (m_behind.toInt ≤ n_9.toInt) ∧ (0 < m_bad.toInt → 0 < m_bad.toInt) ∧ (m_bad.toInt ≤ 0 → n_7.toInt = 0 ∨ m_behind.toInt < n_9.toInt) := ⟨(by decide +kernel), hr_n_7, hr_n_8, hr_n_9, hr_n_10, hr_n_11, hr_m_bad, (by omega), (by omega), (by omega)⟩
    exact hret _ _ _ _ _ _ (n_7, n_8, n_9, n_10, n_11, n_12, m_bad, m_badAt) [2, 3, 0, 1] hP hD hS rfl (by decide) dX12_readFeatureName_68 hpost
  · have b_18 := z_feqF c_1
    refine lv_aload_n hx hb dX12_readFeatureName_7 rfl (lv_at hl 0 rfl) ?_
    refine z_callVi (As := []) (rest := []) (wr := [(a_tape, .inl (cA.1 2, 900, .inl g_tape)), (a_c, .inl (cA.1 0, 1825, .inl g_c)), (a_words, .inl (cA.1 1, 105, .inr (.inl g_words)))]) ⟨hx, hb, hml, hown, hts⟩ hK hE hT hP hD hS hA (r_isHouseName l G cA h0 m_status m_thrown m_above m_under a_traySort a_trayMany a_numbers a_tape m_taped m_textEnd m_faultKind m_faultAt m_bad m_badAt m_token m_at m_behind m_number m_letters m_word a_c a_words m_markMany a_there a_tried a_best a_found m_thereMany m_foundMany m_orderHow m_orderRing m_orderMany m_hasBest m_bestTop m_bestBy a_weights a_shared m_random m_truePlace m_trueWay m_seconds m_done m_feelings m_tries m_leftOver m_playDoor m_playRing m_isOpen m_isOver m_wasTried m_hasPlayed a_feltNow a_last a_kept m_hasSeconds m_hasTurned m_hasRound a_hasFeels a_isOn m_firstAct m_meanTop m_meanBy a_order m_rowMany m_newSteps hr_m_token hr_m_letters) lk_RX12_200 ⟨rfl, rfl⟩ ⟨Nat.le_of_ble_eq_true rfl, Nat.le_of_ble_eq_true rfl⟩ 12 rfl rfl rfl [0] [1, 2, 3] rfl rfl (by decide) rfl hl.1 rfl (lv_room (Nat.le_of_ble_eq_true rfl)) dX12_readFeatureName_8 ⟨Nat.le_of_ble_eq_true rfl, Nat.le_of_ble_eq_true rfl⟩ (fun r_19 u_20 H locs hw hP hD hS => ?_)
    obtain ⟨he_r_19, hw⟩ := hw
    rcases hw with ⟨rfl, -⟩ | ⟨rfl, -⟩
    · skip
      refine lv_if_ne (tgt := 18) hx hb dX12_readFeatureName_11 (by decide) (fun h9 => absurd (by decide +kernel) h9) (fun _ => ?_)
      refine lv_aload_n hx hb dX12_readFeatureName_14 rfl (lv_at hl 0 rfl) ?_
      refine z_callVv (As := []) (rest := []) (wr := [(a_tape, .inl (cA.1 2, 900, .inl g_tape)), (a_c, .inl (cA.1 0, 1825, .inl g_c)), (a_words, .inl (cA.1 1, 105, .inr (.inl g_words)))]) ⟨hx, hb, hml, hown, hts⟩ hK hE hT hP hD hS hA (r_wrong l G cA h0 m_status m_thrown m_above m_under a_traySort a_trayMany a_numbers a_tape m_taped m_textEnd m_faultKind m_faultAt m_bad m_badAt m_token m_at m_behind m_number m_letters m_word a_c a_words m_markMany a_there a_tried a_best a_found m_thereMany m_foundMany m_orderHow m_orderRing m_orderMany m_hasBest m_bestTop m_bestBy a_weights a_shared m_random m_truePlace m_trueWay m_seconds m_done m_feelings m_tries m_leftOver m_playDoor m_playRing m_isOpen m_isOver m_wasTried m_hasPlayed a_feltNow a_last a_kept m_hasSeconds m_hasTurned m_hasRound a_hasFeels a_isOn m_firstAct m_meanTop m_meanBy a_order m_rowMany m_newSteps hr_m_at hr_m_bad hr_m_token) lk_RX12_187 ⟨rfl, rfl⟩ ⟨Nat.le_of_ble_eq_true rfl, Nat.le_of_ble_eq_true rfl⟩ 12 rfl rfl rfl [3] [0, 1, 2] rfl rfl (by decide) rfl hl.1 rfl (lv_room (Nat.le_of_ble_eq_true rfl)) dX12_readFeatureName_15 ⟨Nat.le_of_ble_eq_true rfl, Nat.le_of_ble_eq_true rfl⟩ (fun u_24 H locs hw hP hD hS => ?_)
      obtain ⟨n_21, n_22⟩ := u_24
      try dsimp only at hw
      obtain ⟨he_n_21, he_n_22, hw⟩ := hw
      have hr_n_21 := hw
      refine lv_aload_n hx hb dX12_readFeatureName_18 rfl (lv_at hl 0 rfl) ?_
      refine va_get (D := G) (ci := 12) (v := .int n_21) (C := RX12) (T := TX12) (N := 65) hx hb hts inT12 hown hK hP 3 rfl rfl 12 (by decide) (hts _ tw_1897) (fun _ h9 => h9) rfl dX12_readFeatureName_19 ?_
      refine lv_if_ne (tgt := 40) hx hb dX12_readFeatureName_22 (by decide) (fun c_25 => ?_) (fun h9 => (z_no (by have h8 := z_feqF h9; omega)))
      have b_26 := z_fneT c_25
      refine lv_iconst (v := 0) hx hb dX12_readFeatureName_40 (by decide) ?_
      refine lv_istore_n (lv' := [(1, .int 0), (0, .ref h0)]) hx hb dX12_readFeatureName_41 rfl hl (by decide) rfl (fun ls hl => ?_)
      refine lv_aload_n hx hb dX12_readFeatureName_42 rfl (lv_at hl 1 rfl) ?_
      refine va_get (D := G) (ci := 12) (v := .int n_21) (C := RX12) (T := TX12) (N := 65) hx hb hts inT12 hown hK hP 3 rfl rfl 12 (by decide) (hts _ tw_1897) (fun _ h9 => h9) rfl dX12_readFeatureName_43 ?_
      refine lv_if_ne (tgt := 62) hx hb dX12_readFeatureName_46 (by decide) (fun c_27 => ?_) (fun h9 => (z_no (by have h8 := z_feqF h9; omega)))
      have b_28 := z_fneT c_27
      refine lv_aload_n hx hb dX12_readFeatureName_62 rfl (lv_at hl 1 rfl) ?_
      refine lv_iconst (v := 1) hx hb dX12_readFeatureName_63 (by decide) ?_
      refine z_callVv (As := [.int 1]) (rest := []) (wr := [(a_c, .inl (cA.1 0, 1825, .inl g_c)), (a_words, .inl (cA.1 1, 105, .inr (.inl g_words)))]) ⟨hx, hb, hml, hown, hts⟩ hK hE hT hP hD hS hA (r_must_1 l G cA h0 m_status m_thrown m_above m_under a_traySort a_trayMany a_numbers a_tape m_taped m_textEnd m_faultKind m_faultAt n_21 n_22 m_token m_at m_behind m_number m_letters m_word a_c a_words m_markMany a_there a_tried a_best a_found m_thereMany m_foundMany m_orderHow m_orderRing m_orderMany m_hasBest m_bestTop m_bestBy a_weights a_shared m_random m_truePlace m_trueWay m_seconds m_done m_feelings m_tries m_leftOver m_playDoor m_playRing m_isOpen m_isOver m_wasTried m_hasPlayed a_feltNow a_last a_kept m_hasSeconds m_hasTurned m_hasRound a_hasFeels a_isOn m_firstAct m_meanTop m_meanBy a_order m_rowMany m_newSteps g_tape hr_m_textEnd hr_m_at hr_m_behind (z_rgw hr_n_21 (by decide) (by decide)) hr_m_token hr_m_number hr_m_letters) lk_RX12_210 ⟨rfl, rfl⟩ ⟨Nat.le_of_ble_eq_true rfl, Nat.le_of_ble_eq_true rfl⟩ 12 rfl rfl rfl [3, 0] [1, 2] rfl rfl (by decide) rfl hl.1 rfl (lv_room (Nat.le_of_ble_eq_true rfl)) dX12_readFeatureName_64 ⟨Nat.le_of_ble_eq_true rfl, Nat.le_of_ble_eq_true rfl⟩ (fun u_36 H locs hw hP hD hS => ?_)
      obtain ⟨n_29, n_30, n_31, n_32, n_33, n_34⟩ := u_36
      try dsimp only at hw
      obtain ⟨he_n_29, he_n_30, he_n_31, he_n_32, he_n_33, he_n_34, hw⟩ := hw
      obtain ⟨hr_n_29, hr_n_30, hr_n_31, hr_n_32, hr_n_33, hf_37, hf_38, hf_39⟩ := hw
      refine lv_iload_n hx hb dX12_readFeatureName_67 rfl (lv_at hl 0 rfl) ?_
      have hpost : ((-1) ≤ (0 : Int32).toInt ∧ (0 : Int32).toInt ≤ 2) ∧ (0 ≤ n_29.toInt ∧ n_29.toInt ≤ 4) ∧ (0 ≤ n_30.toInt ∧ n_30.toInt ≤ 900) ∧ (0 ≤ n_31.toInt ∧ n_31.toInt ≤ 900) ∧ (0 ≤ n_32.toInt ∧ n_32.toInt ≤ 9999) ∧ (0 ≤ n_33.toInt ∧ n_33.toInt ≤ 900) ∧ (0 ≤ n_21.toInt ∧ n_21.toInt ≤ 9) ∧ (m_behind.toInt ≤ n_31.toInt) ∧ (0 < m_bad.toInt → 0 < n_21.toInt) ∧ (n_21.toInt ≤ 0 → n_29.toInt = 0 ∨ m_behind.toInt < n_31.toInt) := ⟨(by decide +kernel), hr_n_29, hr_n_30, hr_n_31, hr_n_32, hr_n_33, (z_rgw hr_n_21 (by decide) (by decide)), (by omega), (by omega), (by omega)⟩
      exact hret _ _ _ _ _ _ (n_29, n_30, n_31, n_32, n_33, n_34, n_21, n_22) [2, 3, 0, 1] hP hD hS rfl (by decide) dX12_readFeatureName_68 hpost
    · skip
      refine lv_if_ne (tgt := 18) hx hb dX12_readFeatureName_11 (by decide) (fun _ => ?_) (fun h9 => absurd h9 (by decide +kernel))
      refine lv_aload_n hx hb dX12_readFeatureName_18 rfl (lv_at hl 0 rfl) ?_
      refine va_get (D := G) (ci := 12) (v := .int m_bad) (C := RX12) (T := TX12) (N := 65) hx hb hts inT12 hown hK hP 3 rfl rfl 12 (by decide) (hts _ tw_1897) (fun _ h9 => h9) rfl dX12_readFeatureName_19 ?_
      refine lv_if_ne (tgt := 40) hx hb dX12_readFeatureName_22 (by decide) (fun h9 => (z_no (by have h8 := z_fneT h9; omega))) (fun c_40 => ?_)
      have b_41 := z_feqF c_40
      refine lv_aload_n hx hb dX12_readFeatureName_25 rfl (lv_at hl 0 rfl) ?_
      refine lv_iconst (v := 0) hx hb dX12_readFeatureName_26 (by decide) ?_
      refine lv_iconst (v := 0) hx hb dX12_readFeatureName_27 (by decide) ?_
      refine lv_aload_n hx hb dX12_readFeatureName_28 rfl (lv_at hl 0 rfl) ?_
      refine va_get (D := G) (ci := 12) (v := .ref a_c) (C := RX12) (T := TX12) (N := 65) hx hb hts inT12 hown hK hP 3 rfl rfl 20 (by decide) (hts _ tw_1905) (fun _ h9 => h9) rfl dX12_readFeatureName_29 ?_
      refine lv_iconst (v := 0) hx hb dX12_readFeatureName_32 (by decide) ?_
      refine va_iald hx hb hK hP 1 0 rfl rfl (z_in (i := 0) (n := 1825) (by decide +kernel) (by decide +kernel)) dX12_readFeatureName_33 ?_
      refine lv_topi (fun x_42 he_x_42 => ?_)
      have hr_x_42 := z_ctk hC_g_c he_x_42 (k := 0) (lo := 0) (hi := 3) (by decide +kernel) (by decide +kernel) (by decide +kernel)
      refine z_callVi (As := [.int 0, .int 0, .int x_42]) (rest := []) (wr := [(a_tape, .inl (cA.1 2, 900, .inl g_tape)), (a_c, .inl (cA.1 0, 1825, .inl g_c))]) ⟨hx, hb, hml, hown, hts⟩ hK hE hT hP hD hS hA (r_named_0_0 l G cA h0 m_status m_thrown m_above m_under a_traySort a_trayMany a_numbers a_tape m_taped m_textEnd m_faultKind m_faultAt m_bad m_badAt m_token m_at m_behind m_number m_letters m_word a_c a_words m_markMany a_there a_tried a_best a_found m_thereMany m_foundMany m_orderHow m_orderRing m_orderMany m_hasBest m_bestTop m_bestBy a_weights a_shared m_random m_truePlace m_trueWay m_seconds m_done m_feelings m_tries m_leftOver m_playDoor m_playRing m_isOpen m_isOver m_wasTried m_hasPlayed a_feltNow a_last a_kept m_hasSeconds m_hasTurned m_hasRound a_hasFeels a_isOn m_firstAct m_meanTop m_meanBy a_order m_rowMany m_newSteps g_words x_42 hr_x_42) lk_RX12_196 ⟨rfl, rfl⟩ ⟨Nat.le_of_ble_eq_true rfl, Nat.le_of_ble_eq_true rfl⟩ 12 rfl rfl rfl [3, 2] [0, 1] rfl rfl (by decide) rfl hl.1 rfl (lv_room (Nat.le_of_ble_eq_true rfl)) dX12_readFeatureName_34 ⟨Nat.le_of_ble_eq_true rfl, Nat.le_of_ble_eq_true rfl⟩ (fun r_43 u_44 H locs hw hP hD hS => ?_)
      obtain ⟨he_r_43, hw⟩ := hw
      obtain ⟨hr_r_43, hf_45⟩ := hw
      refine lv_goto (tgt := 41) hx hb dX12_readFeatureName_37 (by decide) ?_
      refine lv_istore_n (lv' := [(1, .int r_43), (0, .ref h0)]) hx hb dX12_readFeatureName_41 rfl hl (by decide) rfl (fun ls hl => ?_)
      refine lv_aload_n hx hb dX12_readFeatureName_42 rfl (lv_at hl 1 rfl) ?_
      refine va_get (D := G) (ci := 12) (v := .int m_bad) (C := RX12) (T := TX12) (N := 65) hx hb hts inT12 hown hK hP 2 rfl rfl 12 (by decide) (hts _ tw_1897) (fun _ h9 => h9) rfl dX12_readFeatureName_43 ?_
      refine lv_if_ne (tgt := 62) hx hb dX12_readFeatureName_46 (by decide) (fun h9 => (z_no (by have h8 := z_fneT h9; omega))) (fun c_46 => ?_)
      have b_47 := z_feqF c_46
      refine lv_iload_n hx hb dX12_readFeatureName_49 rfl (lv_at hl 0 rfl) ?_
      refine lv_if_ge (tgt := 62) hx hb dX12_readFeatureName_50 (by decide) (fun c_48 => ?_) (fun c_48 => ?_)
      · have b_49 := z_fgeT c_48
        refine lv_aload_n hx hb dX12_readFeatureName_62 rfl (lv_at hl 1 rfl) ?_
        refine lv_iconst (v := 1) hx hb dX12_readFeatureName_63 (by decide) ?_
        refine z_callVv (As := [.int 1]) (rest := []) (wr := [(a_c, .inl (cA.1 0, 1825, .inl g_c)), (a_words, .inl (cA.1 1, 105, .inr (.inl g_words)))]) ⟨hx, hb, hml, hown, hts⟩ hK hE hT hP hD hS hA (r_must_1 l G cA h0 m_status m_thrown m_above m_under a_traySort a_trayMany a_numbers a_tape m_taped m_textEnd m_faultKind m_faultAt m_bad m_badAt m_token m_at m_behind m_number m_letters m_word a_c a_words m_markMany a_there a_tried a_best a_found m_thereMany m_foundMany m_orderHow m_orderRing m_orderMany m_hasBest m_bestTop m_bestBy a_weights a_shared m_random m_truePlace m_trueWay m_seconds m_done m_feelings m_tries m_leftOver m_playDoor m_playRing m_isOpen m_isOver m_wasTried m_hasPlayed a_feltNow a_last a_kept m_hasSeconds m_hasTurned m_hasRound a_hasFeels a_isOn m_firstAct m_meanTop m_meanBy a_order m_rowMany m_newSteps g_tape hr_m_textEnd hr_m_at hr_m_behind hr_m_bad hr_m_token hr_m_number hr_m_letters) lk_RX12_210 ⟨rfl, rfl⟩ ⟨Nat.le_of_ble_eq_true rfl, Nat.le_of_ble_eq_true rfl⟩ 12 rfl rfl rfl [2, 0] [1, 3] rfl rfl (by decide) rfl hl.1 rfl (lv_room (Nat.le_of_ble_eq_true rfl)) dX12_readFeatureName_64 ⟨Nat.le_of_ble_eq_true rfl, Nat.le_of_ble_eq_true rfl⟩ (fun u_57 H locs hw hP hD hS => ?_)
        obtain ⟨n_50, n_51, n_52, n_53, n_54, n_55⟩ := u_57
        try dsimp only at hw
        obtain ⟨he_n_50, he_n_51, he_n_52, he_n_53, he_n_54, he_n_55, hw⟩ := hw
        obtain ⟨hr_n_50, hr_n_51, hr_n_52, hr_n_53, hr_n_54, hf_58, hf_59, hf_60⟩ := hw
        refine lv_iload_n hx hb dX12_readFeatureName_67 rfl (lv_at hl 0 rfl) ?_
        have hpost : ((-1) ≤ r_43.toInt ∧ r_43.toInt ≤ 2) ∧ (0 ≤ n_50.toInt ∧ n_50.toInt ≤ 4) ∧ (0 ≤ n_51.toInt ∧ n_51.toInt ≤ 900) ∧ (0 ≤ n_52.toInt ∧ n_52.toInt ≤ 900) ∧ (0 ≤ n_53.toInt ∧ n_53.toInt ≤ 9999) ∧ (0 ≤ n_54.toInt ∧ n_54.toInt ≤ 900) ∧ (0 ≤ m_bad.toInt ∧ m_bad.toInt ≤ 9) ∧ (m_behind.toInt ≤ n_52.toInt) ∧ (0 < m_bad.toInt → 0 < m_bad.toInt) ∧ (m_bad.toInt ≤ 0 → n_50.toInt = 0 ∨ m_behind.toInt < n_52.toInt) := ⟨hr_r_43, hr_n_50, hr_n_51, hr_n_52, hr_n_53, hr_n_54, hr_m_bad, (by omega), (by omega), (by omega)⟩
        exact hret _ _ _ _ _ _ (n_50, n_51, n_52, n_53, n_54, n_55, m_bad, m_badAt) [2, 3, 0, 1] hP hD hS rfl (by decide) dX12_readFeatureName_68 hpost
      · have b_61 := z_fltF c_48
        refine lv_aload_n hx hb dX12_readFeatureName_53 rfl (lv_at hl 1 rfl) ?_
        refine lv_iconst (v := 3) hx hb dX12_readFeatureName_54 (by decide) ?_
        refine lv_aload_n hx hb dX12_readFeatureName_55 rfl (lv_at hl 1 rfl) ?_
        refine va_get (D := G) (ci := 12) (v := .int m_at) (C := RX12) (T := TX12) (N := 65) hx hb hts inT12 hown hK hP 2 rfl rfl 15 (by decide) (hts _ tw_1900) (fun _ h9 => h9) rfl dX12_readFeatureName_56 ?_
        refine z_callVv (As := [.int 3, .int m_at]) (rest := []) (wr := [(a_tape, .inl (cA.1 2, 900, .inl g_tape)), (a_c, .inl (cA.1 0, 1825, .inl g_c)), (a_words, .inl (cA.1 1, 105, .inr (.inl g_words)))]) ⟨hx, hb, hml, hown, hts⟩ hK hE hT hP hD hS hA (r_fail l G cA h0 m_status m_thrown m_above m_under a_traySort a_trayMany a_numbers a_tape m_taped m_textEnd m_faultKind m_faultAt m_bad m_badAt m_token m_at m_behind m_number m_letters m_word a_c a_words m_markMany a_there a_tried a_best a_found m_thereMany m_foundMany m_orderHow m_orderRing m_orderMany m_hasBest m_bestTop m_bestBy a_weights a_shared m_random m_truePlace m_trueWay m_seconds m_done m_feelings m_tries m_leftOver m_playDoor m_playRing m_isOpen m_isOver m_wasTried m_hasPlayed a_feltNow a_last a_kept m_hasSeconds m_hasTurned m_hasRound a_hasFeels a_isOn m_firstAct m_meanTop m_meanBy a_order m_rowMany m_newSteps 3 m_at (by decide +kernel) hr_m_bad) lk_RX12_180 ⟨rfl, rfl⟩ ⟨Nat.le_of_ble_eq_true rfl, Nat.le_of_ble_eq_true rfl⟩ 12 rfl rfl rfl [2] [0, 1, 3] rfl rfl (by decide) rfl hl.1 rfl (lv_room (Nat.le_of_ble_eq_true rfl)) dX12_readFeatureName_59 ⟨Nat.le_of_ble_eq_true rfl, Nat.le_of_ble_eq_true rfl⟩ (fun u_65 H locs hw hP hD hS => ?_)
        obtain ⟨n_62, n_63⟩ := u_65
        try dsimp only at hw
        obtain ⟨he_n_62, he_n_63, hw⟩ := hw
        obtain ⟨hr_n_62, hf_66⟩ := hw
        refine lv_aload_n hx hb dX12_readFeatureName_62 rfl (lv_at hl 1 rfl) ?_
        refine lv_iconst (v := 1) hx hb dX12_readFeatureName_63 (by decide) ?_
        refine z_callVv (As := [.int 1]) (rest := []) (wr := [(a_c, .inl (cA.1 0, 1825, .inl g_c)), (a_words, .inl (cA.1 1, 105, .inr (.inl g_words)))]) ⟨hx, hb, hml, hown, hts⟩ hK hE hT hP hD hS hA (r_must_1 l G cA h0 m_status m_thrown m_above m_under a_traySort a_trayMany a_numbers a_tape m_taped m_textEnd m_faultKind m_faultAt n_62 n_63 m_token m_at m_behind m_number m_letters m_word a_c a_words m_markMany a_there a_tried a_best a_found m_thereMany m_foundMany m_orderHow m_orderRing m_orderMany m_hasBest m_bestTop m_bestBy a_weights a_shared m_random m_truePlace m_trueWay m_seconds m_done m_feelings m_tries m_leftOver m_playDoor m_playRing m_isOpen m_isOver m_wasTried m_hasPlayed a_feltNow a_last a_kept m_hasSeconds m_hasTurned m_hasRound a_hasFeels a_isOn m_firstAct m_meanTop m_meanBy a_order m_rowMany m_newSteps g_tape hr_m_textEnd hr_m_at hr_m_behind (z_rgw hr_n_62 (by decide) (by decide)) hr_m_token hr_m_number hr_m_letters) lk_RX12_210 ⟨rfl, rfl⟩ ⟨Nat.le_of_ble_eq_true rfl, Nat.le_of_ble_eq_true rfl⟩ 12 rfl rfl rfl [3, 0] [1, 2] rfl rfl (by decide) rfl hl.1 rfl (lv_room (Nat.le_of_ble_eq_true rfl)) dX12_readFeatureName_64 ⟨Nat.le_of_ble_eq_true rfl, Nat.le_of_ble_eq_true rfl⟩ (fun u_74 H locs hw hP hD hS => ?_)
        obtain ⟨n_67, n_68, n_69, n_70, n_71, n_72⟩ := u_74
        try dsimp only at hw
        obtain ⟨he_n_67, he_n_68, he_n_69, he_n_70, he_n_71, he_n_72, hw⟩ := hw
        obtain ⟨hr_n_67, hr_n_68, hr_n_69, hr_n_70, hr_n_71, hf_75, hf_76, hf_77⟩ := hw
        refine lv_iload_n hx hb dX12_readFeatureName_67 rfl (lv_at hl 0 rfl) ?_
        have hpost : ((-1) ≤ r_43.toInt ∧ r_43.toInt ≤ 2) ∧ (0 ≤ n_67.toInt ∧ n_67.toInt ≤ 4) ∧ (0 ≤ n_68.toInt ∧ n_68.toInt ≤ 900) ∧ (0 ≤ n_69.toInt ∧ n_69.toInt ≤ 900) ∧ (0 ≤ n_70.toInt ∧ n_70.toInt ≤ 9999) ∧ (0 ≤ n_71.toInt ∧ n_71.toInt ≤ 900) ∧ (0 ≤ n_62.toInt ∧ n_62.toInt ≤ 9) ∧ (m_behind.toInt ≤ n_69.toInt) ∧ (0 < m_bad.toInt → 0 < n_62.toInt) ∧ (n_62.toInt ≤ 0 → n_67.toInt = 0 ∨ m_behind.toInt < n_69.toInt) := ⟨hr_r_43, hr_n_67, hr_n_68, hr_n_69, hr_n_70, hr_n_71, (z_rgw hr_n_62 (by decide) (by decide)), (by omega), (by omega), (by omega)⟩
        exact hret _ _ _ _ _ _ (n_67, n_68, n_69, n_70, n_71, n_72, n_62, n_63) [2, 3, 0, 1] hP hD hS rfl (by decide) dX12_readFeatureName_68 hpost
set_option maxHeartbeats 40000000 in
set_option maxRecDepth 100000 in
theorem r_readWhen (l : Launch) (G : va_G) (cA : zCA) (h0 : Nat) (m_status : Int32) (m_thrown : Int32) (m_above : Int64) (m_under : Int64) (a_traySort : Nat) (a_trayMany : Nat) (a_numbers : Nat) (a_tape : Nat) (m_taped : Int32) (m_textEnd : Int32) (m_faultKind : Int32) (m_faultAt : Int32) (m_bad : Int32) (m_badAt : Int32) (m_token : Int32) (m_at : Int32) (m_behind : Int32) (m_number : Int32) (m_letters : Int32) (m_word : Int64) (a_c : Nat) (a_words : Nat) (m_markMany : Int32) (a_there : Nat) (a_tried : Nat) (a_best : Nat) (a_found : Nat) (m_thereMany : Int32) (m_foundMany : Int32) (m_orderHow : Int32) (m_orderRing : Int32) (m_orderMany : Int32) (m_hasBest : Int32) (m_bestTop : Int64) (m_bestBy : Int64) (a_weights : Nat) (a_shared : Nat) (m_random : Int32) (m_truePlace : Int32) (m_trueWay : Int32) (m_seconds : Int32) (m_done : Int32) (m_feelings : Int32) (m_tries : Int32) (m_leftOver : Int32) (m_playDoor : Int32) (m_playRing : Int32) (m_isOpen : Int32) (m_isOver : Int32) (m_wasTried : Int32) (m_hasPlayed : Int32) (a_feltNow : Nat) (a_last : Nat) (a_kept : Nat) (m_hasSeconds : Int32) (m_hasTurned : Int32) (m_hasRound : Int32) (a_hasFeels : Nat) (a_isOn : Nat) (m_firstAct : Int32) (m_meanTop : Int64) (m_meanBy : Int64) (a_order : Nat) (m_rowMany : Int32) (m_newSteps : Int32) (g_tape : Nat → Int32) (g_c : Nat → Int32) (g_words : Nat → Int64) (w : Int32) (hr_w : 1641 ≤ w.toInt ∧ w.toInt ≤ 1815) (hr_m_textEnd : 0 ≤ m_textEnd.toInt ∧ m_textEnd.toInt ≤ 900) (hr_m_at : 0 ≤ m_at.toInt ∧ m_at.toInt ≤ 900) (hr_m_behind : 0 ≤ m_behind.toInt ∧ m_behind.toInt ≤ 900) (hr_m_bad : 0 ≤ m_bad.toInt ∧ m_bad.toInt ≤ 9) (hr_m_token : 0 ≤ m_token.toInt ∧ m_token.toInt ≤ 4) (hr_m_number : 0 ≤ m_number.toInt ∧ m_number.toInt ≤ 9999) (hr_m_letters : 0 ≤ m_letters.toInt ∧ m_letters.toInt ≤ 900) (hC_g_c : zC g_c) (hp_0 : w.toInt % 6 = 3) : zCv l yX12_readWhen cX12_readWhen 3 none ({ frames := 4, cells := 0, slots := 0, locals := 88 }) G cA [.ref h0, .int w] [(h0, .inr (12, [.int m_status, .int m_thrown, .long m_above, .long m_under, .ref a_traySort, .ref a_trayMany, .ref a_numbers, .ref a_tape, .int m_taped, .int m_textEnd, .int m_faultKind, .int m_faultAt, .int m_bad, .int m_badAt, .int m_token, .int m_at, .int m_behind, .int m_number, .int m_letters, .long m_word, .ref a_c, .ref a_words, .int m_markMany, .ref a_there, .ref a_tried, .ref a_best, .ref a_found, .int m_thereMany, .int m_foundMany, .int m_orderHow, .int m_orderRing, .int m_orderMany, .int m_hasBest, .long m_bestTop, .long m_bestBy, .ref a_weights, .ref a_shared, .int m_random, .int m_truePlace, .int m_trueWay, .int m_seconds, .int m_done, .int m_feelings, .int m_tries, .int m_leftOver, .int m_playDoor, .int m_playRing, .int m_isOpen, .int m_isOver, .int m_wasTried, .int m_hasPlayed, .ref a_feltNow, .ref a_last, .ref a_kept, .int m_hasSeconds, .int m_hasTurned, .int m_hasRound, .ref a_hasFeels, .ref a_isOn, .int m_firstAct, .long m_meanTop, .long m_meanBy, .ref a_order, .int m_rowMany, .int m_newSteps])), (a_tape, .inl (cA.1 2, 900, .inl g_tape)), (a_c, .inl (cA.1 0, 1825, .inl g_c)), (a_words, .inl (cA.1 1, 105, .inr (.inl g_words)))] (S := Int32 × Int32 × Int32 × Int32 × Int32 × Int32 × Int32 × Int64 × (Nat → Int32)) (fun (u : Int32 × Int32 × Int32 × Int32 × Int32 × Int32 × Int32 × Int64 × (Nat → Int32)) => (0 ≤ u.1.toInt ∧ u.1.toInt ≤ 9) ∧ (0 ≤ u.2.2.1.toInt ∧ u.2.2.1.toInt ≤ 4) ∧ (0 ≤ u.2.2.2.1.toInt ∧ u.2.2.2.1.toInt ≤ 900) ∧ (0 ≤ u.2.2.2.2.1.toInt ∧ u.2.2.2.2.1.toInt ≤ 900) ∧ (0 ≤ u.2.2.2.2.2.1.toInt ∧ u.2.2.2.2.2.1.toInt ≤ 9999) ∧ (0 ≤ u.2.2.2.2.2.2.1.toInt ∧ u.2.2.2.2.2.2.1.toInt ≤ 900) ∧ (zC u.2.2.2.2.2.2.2.2) ∧ (m_behind.toInt ≤ u.2.2.2.2.1.toInt) ∧ (0 < m_bad.toInt → 0 < u.1.toInt) ∧ (u.1.toInt ≤ 0 → u.2.2.1.toInt = 0 ∨ m_behind.toInt < u.2.2.2.2.1.toInt)) (fun (u : Int32 × Int32 × Int32 × Int32 × Int32 × Int32 × Int32 × Int64 × (Nat → Int32)) => [(h0, .inr (12, [.int m_status, .int m_thrown, .long m_above, .long m_under, .ref a_traySort, .ref a_trayMany, .ref a_numbers, .ref a_tape, .int m_taped, .int m_textEnd, .int m_faultKind, .int m_faultAt, .int u.1, .int u.2.1, .int u.2.2.1, .int u.2.2.2.1, .int u.2.2.2.2.1, .int u.2.2.2.2.2.1, .int u.2.2.2.2.2.2.1, .long u.2.2.2.2.2.2.2.1, .ref a_c, .ref a_words, .int m_markMany, .ref a_there, .ref a_tried, .ref a_best, .ref a_found, .int m_thereMany, .int m_foundMany, .int m_orderHow, .int m_orderRing, .int m_orderMany, .int m_hasBest, .long m_bestTop, .long m_bestBy, .ref a_weights, .ref a_shared, .int m_random, .int m_truePlace, .int m_trueWay, .int m_seconds, .int m_done, .int m_feelings, .int m_tries, .int m_leftOver, .int m_playDoor, .int m_playRing, .int m_isOpen, .int m_isOver, .int m_wasTried, .int m_hasPlayed, .ref a_feltNow, .ref a_last, .ref a_kept, .int m_hasSeconds, .int m_hasTurned, .int m_hasRound, .ref a_hasFeels, .ref a_isOn, .int m_firstAct, .long m_meanTop, .long m_meanBy, .ref a_order, .int m_rowMany, .int m_newSteps])), (a_tape, .inl (cA.1 2, 900, .inl g_tape)), (a_c, .inl (cA.1 0, 1825, .inl u.2.2.2.2.2.2.2.2)), (a_words, .inl (cA.1 1, 105, .inr (.inl g_words)))]) 0 0 := by
  have hk_0 : (0 : Int32).toInt = 0 := by decide +kernel
  have hk_1 : (1 : Int32).toInt = 1 := by decide +kernel
  have hk_2 : (2 : Int32).toInt = 2 := by decide +kernel
  have hk_3 : (3 : Int32).toInt = 3 := by decide +kernel
  have hk_16 : (16 : Int32).toInt = 16 := by decide +kernel
  have hk_60 : (60 : Int32).toInt = 60 := by decide +kernel
  have hk_61 : (61 : Int32).toInt = 61 := by decide +kernel
  have hk_62 : (62 : Int32).toInt = 62 := by decide +kernel
  refine z_start2v (own := RX12) (by decide) (Nat.le_of_ble_eq_true rfl) rfl ?_
  intro p e s m args below meth c A ls Q hx hb hml hts hown hK hE hT hP hD hS hA hl hret
  have hl : lv_has ls 3 [(0, .ref h0), (1, .int w)] := hl
  refine lv_aload_n hx hb dX12_readWhen_0 rfl (lv_at hl 0 rfl) ?_
  refine z_callVv (As := []) (rest := []) (wr := [(a_c, .inl (cA.1 0, 1825, .inl g_c)), (a_words, .inl (cA.1 1, 105, .inr (.inl g_words)))]) ⟨hx, hb, hml, hown, hts⟩ hK hE hT hP hD hS hA (r_next2 l G cA h0 m_status m_thrown m_above m_under a_traySort a_trayMany a_numbers a_tape m_taped m_textEnd m_faultKind m_faultAt m_bad m_badAt m_token m_at m_behind m_number m_letters m_word a_c a_words m_markMany a_there a_tried a_best a_found m_thereMany m_foundMany m_orderHow m_orderRing m_orderMany m_hasBest m_bestTop m_bestBy a_weights a_shared m_random m_truePlace m_trueWay m_seconds m_done m_feelings m_tries m_leftOver m_playDoor m_playRing m_isOpen m_isOver m_wasTried m_hasPlayed a_feltNow a_last a_kept m_hasSeconds m_hasTurned m_hasRound a_hasFeels a_isOn m_firstAct m_meanTop m_meanBy a_order m_rowMany m_newSteps g_tape hr_m_textEnd hr_m_at hr_m_behind hr_m_token hr_m_number hr_m_letters) lk_RX12_184 ⟨rfl, rfl⟩ ⟨Nat.le_of_ble_eq_true rfl, Nat.le_of_ble_eq_true rfl⟩ 12 rfl rfl rfl [0, 1] [2, 3] rfl rfl (by decide) rfl hl.1 rfl (lv_room (Nat.le_of_ble_eq_true rfl)) dX12_readWhen_1 ⟨Nat.le_of_ble_eq_true rfl, Nat.le_of_ble_eq_true rfl⟩ (fun u_8 H locs hw hP hD hS => ?_)
  obtain ⟨n_1, n_2, n_3, n_4, n_5, n_6⟩ := u_8
  try dsimp only at hw
  obtain ⟨he_n_1, he_n_2, he_n_3, he_n_4, he_n_5, he_n_6, hw⟩ := hw
  obtain ⟨hr_n_1, hr_n_2, hr_n_3, hr_n_4, hr_n_5, hf_9, hf_10⟩ := hw
  refine lv_aload_n hx hb dX12_readWhen_4 rfl (lv_at hl 0 rfl) ?_
  refine z_callVi (As := []) (rest := []) (wr := [(a_c, .inl (cA.1 0, 1825, .inl g_c)), (a_words, .inl (cA.1 1, 105, .inr (.inl g_words))), (a_tape, .inl (cA.1 2, 900, .inl g_tape))]) ⟨hx, hb, hml, hown, hts⟩ hK hE hT hP hD hS hA (r_isFelt l G cA h0 m_status m_thrown m_above m_under a_traySort a_trayMany a_numbers a_tape m_taped m_textEnd m_faultKind m_faultAt m_bad m_badAt n_1 n_2 n_3 n_4 n_5 n_6 a_c a_words m_markMany a_there a_tried a_best a_found m_thereMany m_foundMany m_orderHow m_orderRing m_orderMany m_hasBest m_bestTop m_bestBy a_weights a_shared m_random m_truePlace m_trueWay m_seconds m_done m_feelings m_tries m_leftOver m_playDoor m_playRing m_isOpen m_isOver m_wasTried m_hasPlayed a_feltNow a_last a_kept m_hasSeconds m_hasTurned m_hasRound a_hasFeels a_isOn m_firstAct m_meanTop m_meanBy a_order m_rowMany m_newSteps hr_n_1) lk_RX12_488 ⟨rfl, rfl⟩ ⟨Nat.le_of_ble_eq_true rfl, Nat.le_of_ble_eq_true rfl⟩ 12 rfl rfl rfl [2] [0, 1, 3] rfl rfl (by decide) rfl hl.1 rfl (lv_room (Nat.le_of_ble_eq_true rfl)) dX12_readWhen_5 ⟨Nat.le_of_ble_eq_true rfl, Nat.le_of_ble_eq_true rfl⟩ (fun r_11 u_12 H locs hw hP hD hS => ?_)
  obtain ⟨he_r_11, hw⟩ := hw
  rcases hw with ⟨rfl, -⟩ | ⟨rfl, hf_13⟩
  · skip
    refine lv_if_eq (tgt := 114) hx hb dX12_readWhen_8 (by decide) (fun _ => ?_) (fun h9 => absurd (by decide +kernel) h9)
    refine lv_aload_n hx hb dX12_readWhen_114 rfl (lv_at hl 0 rfl) ?_
    refine z_callVi (As := []) (rest := []) (wr := [(a_c, .inl (cA.1 0, 1825, .inl g_c)), (a_words, .inl (cA.1 1, 105, .inr (.inl g_words))), (a_tape, .inl (cA.1 2, 900, .inl g_tape))]) ⟨hx, hb, hml, hown, hts⟩ hK hE hT hP hD hS hA (r_isSure l G cA h0 m_status m_thrown m_above m_under a_traySort a_trayMany a_numbers a_tape m_taped m_textEnd m_faultKind m_faultAt m_bad m_badAt n_1 n_2 n_3 n_4 n_5 n_6 a_c a_words m_markMany a_there a_tried a_best a_found m_thereMany m_foundMany m_orderHow m_orderRing m_orderMany m_hasBest m_bestTop m_bestBy a_weights a_shared m_random m_truePlace m_trueWay m_seconds m_done m_feelings m_tries m_leftOver m_playDoor m_playRing m_isOpen m_isOver m_wasTried m_hasPlayed a_feltNow a_last a_kept m_hasSeconds m_hasTurned m_hasRound a_hasFeels a_isOn m_firstAct m_meanTop m_meanBy a_order m_rowMany m_newSteps hr_n_1) lk_RX12_494 ⟨rfl, rfl⟩ ⟨Nat.le_of_ble_eq_true rfl, Nat.le_of_ble_eq_true rfl⟩ 12 rfl rfl rfl [3] [0, 1, 2] rfl rfl (by decide) rfl hl.1 rfl (lv_room (Nat.le_of_ble_eq_true rfl)) dX12_readWhen_115 ⟨Nat.le_of_ble_eq_true rfl, Nat.le_of_ble_eq_true rfl⟩ (fun r_14 u_15 H locs hw hP hD hS => ?_)
    obtain ⟨he_r_14, hw⟩ := hw
    rcases hw with ⟨rfl, -⟩ | ⟨rfl, hf_16⟩
    · skip
      refine lv_if_eq (tgt := 151) hx hb dX12_readWhen_118 (by decide) (fun _ => ?_) (fun h9 => absurd (by decide +kernel) h9)
      refine lv_aload_n hx hb dX12_readWhen_151 rfl (lv_at hl 0 rfl) ?_
      refine va_get (D := G) (ci := 12) (v := .ref a_c) (C := RX12) (T := TX12) (N := 65) hx hb hts inT12 hown hK hP 3 rfl rfl 20 (by decide) (hts _ tw_1905) (fun _ h9 => h9) rfl dX12_readWhen_152 ?_
      refine lv_iload_n hx hb dX12_readWhen_155 rfl (lv_at hl 1 rfl) ?_
      refine lv_bipush (v := 8) hx hb dX12_readWhen_156 (by decide) ?_
      refine z_iast hx hb hK hP hD hS 0 0 rfl rfl (z_inN (by omega) (by omega)) dX12_readWhen_158 (fun g_17 hg_g_17 H locs hP hD hS => ?_)
      have hC_g_17 := z_ctUs hC_g_c hg_g_17 (a := 1641) (b := 1815) (M := 6) (q := 3) (lo := (-2147483648)) (hi := 2147483647) (by decide +kernel) (by decide +kernel) (by omega) (by omega) (by omega) (z_full _)
      refine lv_aload_n hx hb dX12_readWhen_159 rfl (lv_at hl 0 rfl) ?_
      refine lv_aload_n hx hb dX12_readWhen_160 rfl (lv_at hl 0 rfl) ?_
      refine z_callVi (As := []) (rest := [.ref h0]) (wr := [(a_c, .inl (cA.1 0, 1825, .inl g_17)), (a_words, .inl (cA.1 1, 105, .inr (.inl g_words))), (a_tape, .inl (cA.1 2, 900, .inl g_tape))]) ⟨hx, hb, hml, hown, hts⟩ hK hE hT hP hD hS hA (r_isTried l G cA h0 m_status m_thrown m_above m_under a_traySort a_trayMany a_numbers a_tape m_taped m_textEnd m_faultKind m_faultAt m_bad m_badAt n_1 n_2 n_3 n_4 n_5 n_6 a_c a_words m_markMany a_there a_tried a_best a_found m_thereMany m_foundMany m_orderHow m_orderRing m_orderMany m_hasBest m_bestTop m_bestBy a_weights a_shared m_random m_truePlace m_trueWay m_seconds m_done m_feelings m_tries m_leftOver m_playDoor m_playRing m_isOpen m_isOver m_wasTried m_hasPlayed a_feltNow a_last a_kept m_hasSeconds m_hasTurned m_hasRound a_hasFeels a_isOn m_firstAct m_meanTop m_meanBy a_order m_rowMany m_newSteps hr_n_1) lk_RX12_497 ⟨rfl, rfl⟩ ⟨Nat.le_of_ble_eq_true rfl, Nat.le_of_ble_eq_true rfl⟩ 12 rfl rfl rfl [3] [0, 1, 2] rfl rfl (by decide) rfl hl.1 rfl (lv_room (Nat.le_of_ble_eq_true rfl)) dX12_readWhen_161 ⟨Nat.le_of_ble_eq_true rfl, Nat.le_of_ble_eq_true rfl⟩ (fun r_18 u_19 H locs hw hP hD hS => ?_)
      obtain ⟨he_r_18, hw⟩ := hw
      rcases hw with ⟨rfl, -⟩ | ⟨rfl, hf_20⟩
      · skip
        refine z_callVv (As := [.int 0]) (rest := []) (wr := [(a_c, .inl (cA.1 0, 1825, .inl g_17)), (a_words, .inl (cA.1 1, 105, .inr (.inl g_words))), (a_tape, .inl (cA.1 2, 900, .inl g_tape))]) ⟨hx, hb, hml, hown, hts⟩ hK hE hT hP hD hS hA (r_must_0 l G cA h0 m_status m_thrown m_above m_under a_traySort a_trayMany a_numbers a_tape m_taped m_textEnd m_faultKind m_faultAt m_bad m_badAt n_1 n_2 n_3 n_4 n_5 n_6 a_c a_words m_markMany a_there a_tried a_best a_found m_thereMany m_foundMany m_orderHow m_orderRing m_orderMany m_hasBest m_bestTop m_bestBy a_weights a_shared m_random m_truePlace m_trueWay m_seconds m_done m_feelings m_tries m_leftOver m_playDoor m_playRing m_isOpen m_isOver m_wasTried m_hasPlayed a_feltNow a_last a_kept m_hasSeconds m_hasTurned m_hasRound a_hasFeels a_isOn m_firstAct m_meanTop m_meanBy a_order m_rowMany m_newSteps hr_n_2 hr_m_bad hr_n_1) lk_RX12_210 ⟨rfl, rfl⟩ ⟨Nat.le_of_ble_eq_true rfl, Nat.le_of_ble_eq_true rfl⟩ 12 rfl rfl rfl [3] [0, 1, 2] rfl rfl (by decide) rfl hl.1 rfl (lv_room (Nat.le_of_ble_eq_true rfl)) dX12_readWhen_164 ⟨Nat.le_of_ble_eq_true rfl, Nat.le_of_ble_eq_true rfl⟩ (fun u_24 H locs hw hP hD hS => ?_)
        obtain ⟨n_21, n_22⟩ := u_24
        try dsimp only at hw
        obtain ⟨he_n_21, he_n_22, hw⟩ := hw
        have hr_n_21 := hw
        have hpost : (0 ≤ n_21.toInt ∧ n_21.toInt ≤ 9) ∧ (0 ≤ n_1.toInt ∧ n_1.toInt ≤ 4) ∧ (0 ≤ n_2.toInt ∧ n_2.toInt ≤ 900) ∧ (0 ≤ n_3.toInt ∧ n_3.toInt ≤ 900) ∧ (0 ≤ n_4.toInt ∧ n_4.toInt ≤ 9999) ∧ (0 ≤ n_5.toInt ∧ n_5.toInt ≤ 900) ∧ (zC g_17) ∧ (m_behind.toInt ≤ n_3.toInt) ∧ (0 < m_bad.toInt → 0 < n_21.toInt) ∧ (n_21.toInt ≤ 0 → n_1.toInt = 0 ∨ m_behind.toInt < n_3.toInt) := ⟨(z_rgw hr_n_21 (by decide) (by decide)), hr_n_1, hr_n_2, hr_n_3, hr_n_4, hr_n_5, hC_g_17, (by omega), (by omega), (by omega)⟩
        exact hret _ _ _ _ _ (n_21, n_22, n_1, n_2, n_3, n_4, n_5, n_6, g_17) [3, 2, 0, 1] hP hD hS rfl (by decide) dX12_readWhen_167 hpost
      · skip
        refine z_callVv (As := [.int 1]) (rest := []) (wr := [(a_c, .inl (cA.1 0, 1825, .inl g_17)), (a_words, .inl (cA.1 1, 105, .inr (.inl g_words)))]) ⟨hx, hb, hml, hown, hts⟩ hK hE hT hP hD hS hA (r_must_1 l G cA h0 m_status m_thrown m_above m_under a_traySort a_trayMany a_numbers a_tape m_taped m_textEnd m_faultKind m_faultAt m_bad m_badAt n_1 n_2 n_3 n_4 n_5 n_6 a_c a_words m_markMany a_there a_tried a_best a_found m_thereMany m_foundMany m_orderHow m_orderRing m_orderMany m_hasBest m_bestTop m_bestBy a_weights a_shared m_random m_truePlace m_trueWay m_seconds m_done m_feelings m_tries m_leftOver m_playDoor m_playRing m_isOpen m_isOver m_wasTried m_hasPlayed a_feltNow a_last a_kept m_hasSeconds m_hasTurned m_hasRound a_hasFeels a_isOn m_firstAct m_meanTop m_meanBy a_order m_rowMany m_newSteps g_tape hr_m_textEnd hr_n_2 hr_n_3 hr_m_bad hr_n_1 hr_n_4 hr_n_5) lk_RX12_210 ⟨rfl, rfl⟩ ⟨Nat.le_of_ble_eq_true rfl, Nat.le_of_ble_eq_true rfl⟩ 12 rfl rfl rfl [3, 2] [0, 1] rfl rfl (by decide) rfl hl.1 rfl (lv_room (Nat.le_of_ble_eq_true rfl)) dX12_readWhen_164 ⟨Nat.le_of_ble_eq_true rfl, Nat.le_of_ble_eq_true rfl⟩ (fun u_32 H locs hw hP hD hS => ?_)
        obtain ⟨n_25, n_26, n_27, n_28, n_29, n_30⟩ := u_32
        try dsimp only at hw
        obtain ⟨he_n_25, he_n_26, he_n_27, he_n_28, he_n_29, he_n_30, hw⟩ := hw
        obtain ⟨hr_n_25, hr_n_26, hr_n_27, hr_n_28, hr_n_29, hf_33, hf_34, hf_35⟩ := hw
        have hpost : (0 ≤ m_bad.toInt ∧ m_bad.toInt ≤ 9) ∧ (0 ≤ n_25.toInt ∧ n_25.toInt ≤ 4) ∧ (0 ≤ n_26.toInt ∧ n_26.toInt ≤ 900) ∧ (0 ≤ n_27.toInt ∧ n_27.toInt ≤ 900) ∧ (0 ≤ n_28.toInt ∧ n_28.toInt ≤ 9999) ∧ (0 ≤ n_29.toInt ∧ n_29.toInt ≤ 900) ∧ (zC g_17) ∧ (m_behind.toInt ≤ n_27.toInt) ∧ (0 < m_bad.toInt → 0 < m_bad.toInt) ∧ (m_bad.toInt ≤ 0 → n_25.toInt = 0 ∨ m_behind.toInt < n_27.toInt) := ⟨hr_m_bad, hr_n_25, hr_n_26, hr_n_27, hr_n_28, hr_n_29, hC_g_17, (by omega), (by omega), (by omega)⟩
        exact hret _ _ _ _ _ (m_bad, m_badAt, n_25, n_26, n_27, n_28, n_29, n_30, g_17) [2, 3, 0, 1] hP hD hS rfl (by decide) dX12_readWhen_167 hpost
    · skip
      refine lv_if_eq (tgt := 151) hx hb dX12_readWhen_118 (by decide) (fun h9 => absurd h9 (by decide +kernel)) (fun _ => ?_)
      refine lv_aload_n hx hb dX12_readWhen_121 rfl (lv_at hl 0 rfl) ?_
      refine z_callVv (As := []) (rest := []) (wr := [(a_c, .inl (cA.1 0, 1825, .inl g_c)), (a_words, .inl (cA.1 1, 105, .inr (.inl g_words)))]) ⟨hx, hb, hml, hown, hts⟩ hK hE hT hP hD hS hA (r_next2 l G cA h0 m_status m_thrown m_above m_under a_traySort a_trayMany a_numbers a_tape m_taped m_textEnd m_faultKind m_faultAt m_bad m_badAt n_1 n_2 n_3 n_4 n_5 n_6 a_c a_words m_markMany a_there a_tried a_best a_found m_thereMany m_foundMany m_orderHow m_orderRing m_orderMany m_hasBest m_bestTop m_bestBy a_weights a_shared m_random m_truePlace m_trueWay m_seconds m_done m_feelings m_tries m_leftOver m_playDoor m_playRing m_isOpen m_isOver m_wasTried m_hasPlayed a_feltNow a_last a_kept m_hasSeconds m_hasTurned m_hasRound a_hasFeels a_isOn m_firstAct m_meanTop m_meanBy a_order m_rowMany m_newSteps g_tape hr_m_textEnd hr_n_2 hr_n_3 hr_n_1 hr_n_4 hr_n_5) lk_RX12_184 ⟨rfl, rfl⟩ ⟨Nat.le_of_ble_eq_true rfl, Nat.le_of_ble_eq_true rfl⟩ 12 rfl rfl rfl [3, 2] [0, 1] rfl rfl (by decide) rfl hl.1 rfl (lv_room (Nat.le_of_ble_eq_true rfl)) dX12_readWhen_122 ⟨Nat.le_of_ble_eq_true rfl, Nat.le_of_ble_eq_true rfl⟩ (fun u_43 H locs hw hP hD hS => ?_)
      obtain ⟨n_36, n_37, n_38, n_39, n_40, n_41⟩ := u_43
      try dsimp only at hw
      obtain ⟨he_n_36, he_n_37, he_n_38, he_n_39, he_n_40, he_n_41, hw⟩ := hw
      obtain ⟨hr_n_36, hr_n_37, hr_n_38, hr_n_39, hr_n_40, hf_44, hf_45⟩ := hw
      refine lv_aload_n hx hb dX12_readWhen_125 rfl (lv_at hl 0 rfl) ?_
      refine va_get (D := G) (ci := 12) (v := .ref a_c) (C := RX12) (T := TX12) (N := 65) hx hb hts inT12 hown hK hP 2 rfl rfl 20 (by decide) (hts _ tw_1905) (fun _ h9 => h9) rfl dX12_readWhen_126 ?_
      refine lv_iload_n hx hb dX12_readWhen_129 rfl (lv_at hl 1 rfl) ?_
      refine lv_bipush (v := 7) hx hb dX12_readWhen_130 (by decide) ?_
      refine z_iast hx hb hK hP hD hS 0 0 rfl rfl (z_inN (by omega) (by omega)) dX12_readWhen_132 (fun g_46 hg_g_46 H locs hP hD hS => ?_)
      have hC_g_46 := z_ctUs hC_g_c hg_g_46 (a := 1641) (b := 1815) (M := 6) (q := 3) (lo := (-2147483648)) (hi := 2147483647) (by decide +kernel) (by decide +kernel) (by omega) (by omega) (by omega) (z_full _)
      refine lv_aload_n hx hb dX12_readWhen_133 rfl (lv_at hl 0 rfl) ?_
      refine va_get (D := G) (ci := 12) (v := .ref a_c) (C := RX12) (T := TX12) (N := 65) hx hb hts inT12 hown hK hP 2 rfl rfl 20 (by decide) (hts _ tw_1905) (fun _ h9 => h9) rfl dX12_readWhen_134 ?_
      refine lv_iload_n hx hb dX12_readWhen_137 rfl (lv_at hl 1 rfl) ?_
      refine lv_iconst (v := 3) hx hb dX12_readWhen_138 (by decide) ?_
      refine lv_iadd hx hb dX12_readWhen_139 ?_
      refine lv_topi (fun x_47 he_x_47 => ?_)
      have hq_x_47 := z_addq he_x_47 (rfl : w.toInt = _) hk_3 (by omega) (by omega)
      refine lv_aload_n hx hb dX12_readWhen_140 rfl (lv_at hl 0 rfl) ?_
      refine lv_iconst (v := 0) hx hb dX12_readWhen_141 (by decide) ?_
      refine lv_bipush (v := 16) hx hb dX12_readWhen_142 (by decide) ?_
      refine z_callVi (As := [.int 0, .int 16]) (rest := [.int x_47, .ref a_c]) (wr := [(a_c, .inl (cA.1 0, 1825, .inl g_46)), (a_words, .inl (cA.1 1, 105, .inr (.inl g_words)))]) ⟨hx, hb, hml, hown, hts⟩ hK hE hT hP hD hS hA (r_count l G cA h0 m_status m_thrown m_above m_under a_traySort a_trayMany a_numbers a_tape m_taped m_textEnd m_faultKind m_faultAt m_bad m_badAt n_36 n_37 n_38 n_39 n_40 n_41 a_c a_words m_markMany a_there a_tried a_best a_found m_thereMany m_foundMany m_orderHow m_orderRing m_orderMany m_hasBest m_bestTop m_bestBy a_weights a_shared m_random m_truePlace m_trueWay m_seconds m_done m_feelings m_tries m_leftOver m_playDoor m_playRing m_isOpen m_isOver m_wasTried m_hasPlayed a_feltNow a_last a_kept m_hasSeconds m_hasTurned m_hasRound a_hasFeels a_isOn m_firstAct m_meanTop m_meanBy a_order m_rowMany m_newSteps g_tape 0 16 (by decide +kernel) (by decide +kernel) hr_m_textEnd hr_n_37 hr_n_38 hr_m_bad hr_n_36 hr_n_39 hr_n_40) lk_RX12_214 ⟨rfl, rfl⟩ ⟨Nat.le_of_ble_eq_true rfl, Nat.le_of_ble_eq_true rfl⟩ 12 rfl rfl rfl [2, 3] [0, 1] rfl rfl (by decide) rfl hl.1 rfl (lv_room (Nat.le_of_ble_eq_true rfl)) dX12_readWhen_144 ⟨Nat.le_of_ble_eq_true rfl, Nat.le_of_ble_eq_true rfl⟩ (fun r_56 u_57 H locs hw hP hD hS => ?_)
      obtain ⟨n_48, n_49, n_50, n_51, n_52, n_53, n_54, n_55⟩ := u_57
      try dsimp only at hw
      obtain ⟨he_r_56, he_n_48, he_n_49, he_n_50, he_n_51, he_n_52, he_n_53, he_n_54, he_n_55, hw⟩ := hw
      obtain ⟨hr_r_56, hr_n_48, hr_n_50, hr_n_51, hr_n_52, hr_n_53, hr_n_54, hf_58, hf_59, hf_60, hf_61, hf_62, hf_63⟩ := hw
      refine z_iast hx hb hK hP hD hS 0 0 rfl rfl (z_inN (by omega) (by omega)) dX12_readWhen_147 (fun g_64 hg_g_64 H locs hP hD hS => ?_)
      have hC_g_64 := z_ctUs hC_g_46 hg_g_64 (a := 1644) (b := 1818) (M := 6) (q := 0) (lo := (-2147483648)) (hi := 2147483647) (by decide +kernel) (by decide +kernel) (by omega) (by omega) (by omega) (z_full _)
      refine lv_goto (tgt := 167) hx hb dX12_readWhen_148 (by decide) ?_
      have hpost : (0 ≤ n_48.toInt ∧ n_48.toInt ≤ 9) ∧ (0 ≤ n_50.toInt ∧ n_50.toInt ≤ 4) ∧ (0 ≤ n_51.toInt ∧ n_51.toInt ≤ 900) ∧ (0 ≤ n_52.toInt ∧ n_52.toInt ≤ 900) ∧ (0 ≤ n_53.toInt ∧ n_53.toInt ≤ 9999) ∧ (0 ≤ n_54.toInt ∧ n_54.toInt ≤ 900) ∧ (zC g_64) ∧ (m_behind.toInt ≤ n_52.toInt) ∧ (0 < m_bad.toInt → 0 < n_48.toInt) ∧ (n_48.toInt ≤ 0 → n_50.toInt = 0 ∨ m_behind.toInt < n_52.toInt) := ⟨hr_n_48, hr_n_50, hr_n_51, hr_n_52, hr_n_53, hr_n_54, hC_g_64, (by omega), (by omega), (by omega)⟩
      exact hret _ _ _ _ _ (n_48, n_49, n_50, n_51, n_52, n_53, n_54, n_55, g_64) [2, 3, 0, 1] hP hD hS rfl (by decide) dX12_readWhen_167 hpost
  · skip
    refine lv_if_eq (tgt := 114) hx hb dX12_readWhen_8 (by decide) (fun h9 => absurd h9 (by decide +kernel)) (fun _ => ?_)
    refine lv_aload_n hx hb dX12_readWhen_11 rfl (lv_at hl 0 rfl) ?_
    refine z_callVv (As := []) (rest := []) (wr := [(a_c, .inl (cA.1 0, 1825, .inl g_c)), (a_words, .inl (cA.1 1, 105, .inr (.inl g_words)))]) ⟨hx, hb, hml, hown, hts⟩ hK hE hT hP hD hS hA (r_next2 l G cA h0 m_status m_thrown m_above m_under a_traySort a_trayMany a_numbers a_tape m_taped m_textEnd m_faultKind m_faultAt m_bad m_badAt n_1 n_2 n_3 n_4 n_5 n_6 a_c a_words m_markMany a_there a_tried a_best a_found m_thereMany m_foundMany m_orderHow m_orderRing m_orderMany m_hasBest m_bestTop m_bestBy a_weights a_shared m_random m_truePlace m_trueWay m_seconds m_done m_feelings m_tries m_leftOver m_playDoor m_playRing m_isOpen m_isOver m_wasTried m_hasPlayed a_feltNow a_last a_kept m_hasSeconds m_hasTurned m_hasRound a_hasFeels a_isOn m_firstAct m_meanTop m_meanBy a_order m_rowMany m_newSteps g_tape hr_m_textEnd hr_n_2 hr_n_3 hr_n_1 hr_n_4 hr_n_5) lk_RX12_184 ⟨rfl, rfl⟩ ⟨Nat.le_of_ble_eq_true rfl, Nat.le_of_ble_eq_true rfl⟩ 12 rfl rfl rfl [3, 2] [0, 1] rfl rfl (by decide) rfl hl.1 rfl (lv_room (Nat.le_of_ble_eq_true rfl)) dX12_readWhen_12 ⟨Nat.le_of_ble_eq_true rfl, Nat.le_of_ble_eq_true rfl⟩ (fun u_72 H locs hw hP hD hS => ?_)
    obtain ⟨n_65, n_66, n_67, n_68, n_69, n_70⟩ := u_72
    try dsimp only at hw
    obtain ⟨he_n_65, he_n_66, he_n_67, he_n_68, he_n_69, he_n_70, hw⟩ := hw
    obtain ⟨hr_n_65, hr_n_66, hr_n_67, hr_n_68, hr_n_69, hf_73, hf_74⟩ := hw
    refine lv_aload_n hx hb dX12_readWhen_15 rfl (lv_at hl 0 rfl) ?_
    refine va_get (D := G) (ci := 12) (v := .ref a_c) (C := RX12) (T := TX12) (N := 65) hx hb hts inT12 hown hK hP 2 rfl rfl 20 (by decide) (hts _ tw_1905) (fun _ h9 => h9) rfl dX12_readWhen_16 ?_
    refine lv_iload_n hx hb dX12_readWhen_19 rfl (lv_at hl 1 rfl) ?_
    refine lv_bipush (v := 6) hx hb dX12_readWhen_20 (by decide) ?_
    refine z_iast hx hb hK hP hD hS 0 0 rfl rfl (z_inN (by omega) (by omega)) dX12_readWhen_22 (fun g_75 hg_g_75 H locs hP hD hS => ?_)
    have hC_g_75 := z_ctUs hC_g_c hg_g_75 (a := 1641) (b := 1815) (M := 6) (q := 3) (lo := (-2147483648)) (hi := 2147483647) (by decide +kernel) (by decide +kernel) (by omega) (by omega) (by omega) (z_full _)
    refine lv_aload_n hx hb dX12_readWhen_23 rfl (lv_at hl 0 rfl) ?_
    refine va_get (D := G) (ci := 12) (v := .ref a_c) (C := RX12) (T := TX12) (N := 65) hx hb hts inT12 hown hK hP 2 rfl rfl 20 (by decide) (hts _ tw_1905) (fun _ h9 => h9) rfl dX12_readWhen_24 ?_
    refine lv_iload_n hx hb dX12_readWhen_27 rfl (lv_at hl 1 rfl) ?_
    refine lv_iconst (v := 1) hx hb dX12_readWhen_28 (by decide) ?_
    refine lv_iadd hx hb dX12_readWhen_29 ?_
    refine lv_topi (fun x_76 he_x_76 => ?_)
    have hq_x_76 := z_addq he_x_76 (rfl : w.toInt = _) hk_1 (by omega) (by omega)
    refine lv_aload_n hx hb dX12_readWhen_30 rfl (lv_at hl 0 rfl) ?_
    refine z_callVi (As := []) (rest := [.int x_76, .ref a_c]) (wr := []) ⟨hx, hb, hml, hown, hts⟩ hK hE hT hP hD hS hA (r_readFeatureName l G cA h0 m_status m_thrown m_above m_under a_traySort a_trayMany a_numbers a_tape m_taped m_textEnd m_faultKind m_faultAt m_bad m_badAt n_65 n_66 n_67 n_68 n_69 n_70 a_c a_words m_markMany a_there a_tried a_best a_found m_thereMany m_foundMany m_orderHow m_orderRing m_orderMany m_hasBest m_bestTop m_bestBy a_weights a_shared m_random m_truePlace m_trueWay m_seconds m_done m_feelings m_tries m_leftOver m_playDoor m_playRing m_isOpen m_isOver m_wasTried m_hasPlayed a_feltNow a_last a_kept m_hasSeconds m_hasTurned m_hasRound a_hasFeels a_isOn m_firstAct m_meanTop m_meanBy a_order m_rowMany m_newSteps g_tape g_75 g_words hr_m_textEnd hr_n_66 hr_n_67 hr_m_bad hr_n_65 hr_n_68 hr_n_69 hC_g_75) lk_RX12_491 ⟨rfl, rfl⟩ ⟨Nat.le_of_ble_eq_true rfl, Nat.le_of_ble_eq_true rfl⟩ 12 rfl rfl rfl [2, 3, 0, 1] [] rfl rfl (by decide) rfl hl.1 rfl (lv_room (Nat.le_of_ble_eq_true rfl)) dX12_readWhen_31 ⟨Nat.le_of_ble_eq_true rfl, Nat.le_of_ble_eq_true rfl⟩ (fun r_85 u_86 H locs hw hP hD hS => ?_)
    obtain ⟨n_77, n_78, n_79, n_80, n_81, n_82, n_83, n_84⟩ := u_86
    try dsimp only at hw
    obtain ⟨hr_r_85, hr_n_77, hr_n_78, hr_n_79, hr_n_80, hr_n_81, hr_n_83, hf_87, hf_88, hf_89⟩ := hw
    refine z_iast hx hb hK hP hD hS 2 0 rfl rfl (z_inN (by omega) (by omega)) dX12_readWhen_34 (fun g_90 hg_g_90 H locs hP hD hS => ?_)
    have hC_g_90 := z_ctUs hC_g_75 hg_g_90 (a := 1642) (b := 1816) (M := 6) (q := 4) (lo := (-2147483648)) (hi := 2147483647) (by decide +kernel) (by decide +kernel) (by omega) (by omega) (by omega) (z_full _)
    refine lv_aload_n hx hb dX12_readWhen_35 rfl (lv_at hl 0 rfl) ?_
    refine va_get (D := G) (ci := 12) (v := .int n_77) (C := RX12) (T := TX12) (N := 65) hx hb hts inT12 hown hK hP 0 rfl rfl 14 (by decide) (hts _ tw_1899) (fun _ h9 => h9) rfl dX12_readWhen_36 ?_
    refine lv_iconst (v := 3) hx hb dX12_readWhen_39 (by decide) ?_
    refine lv_icmp_ne (tgt := 50) hx hb dX12_readWhen_40 (by decide) (fun c_91 => ?_) (fun c_91 => ?_)
    · have b_92 := z_fneT c_91
      refine lv_iconst (v := 0) hx hb dX12_readWhen_50 (by decide) ?_
      refine lv_istore_n (lv' := [(2, .int 0), (0, .ref h0), (1, .int w)]) hx hb dX12_readWhen_51 rfl hl (by decide) rfl (fun ls hl => ?_)
      refine lv_aload_n hx hb dX12_readWhen_52 rfl (lv_at hl 1 rfl) ?_
      refine lv_aload_n hx hb dX12_readWhen_53 rfl (lv_at hl 1 rfl) ?_
      refine lv_bipush (v := 60) hx hb dX12_readWhen_54 (by decide) ?_
      refine z_callVi (As := [.int 60]) (rest := [.ref h0]) (wr := [(a_tape, .inl (cA.1 2, 900, .inl g_tape)), (a_c, .inl (cA.1 0, 1825, .inl g_90)), (a_words, .inl (cA.1 1, 105, .inr (.inl g_words)))]) ⟨hx, hb, hml, hown, hts⟩ hK hE hT hP hD hS hA (r_isSign l G cA h0 m_status m_thrown m_above m_under a_traySort a_trayMany a_numbers a_tape m_taped m_textEnd m_faultKind m_faultAt n_83 n_84 n_77 n_78 n_79 n_80 n_81 n_82 a_c a_words m_markMany a_there a_tried a_best a_found m_thereMany m_foundMany m_orderHow m_orderRing m_orderMany m_hasBest m_bestTop m_bestBy a_weights a_shared m_random m_truePlace m_trueWay m_seconds m_done m_feelings m_tries m_leftOver m_playDoor m_playRing m_isOpen m_isOver m_wasTried m_hasPlayed a_feltNow a_last a_kept m_hasSeconds m_hasTurned m_hasRound a_hasFeels a_isOn m_firstAct m_meanTop m_meanBy a_order m_rowMany m_newSteps 60 hr_n_77 hr_n_80) lk_RX12_220 ⟨rfl, rfl⟩ ⟨Nat.le_of_ble_eq_true rfl, Nat.le_of_ble_eq_true rfl⟩ 12 rfl rfl rfl [0] [1, 2, 3] rfl rfl (by decide) rfl hl.1 rfl (lv_room (Nat.le_of_ble_eq_true rfl)) dX12_readWhen_56 ⟨Nat.le_of_ble_eq_true rfl, Nat.le_of_ble_eq_true rfl⟩ (fun r_93 u_94 H locs hw hP hD hS => ?_)
      obtain ⟨he_r_93, hw⟩ := hw
      rcases hw with ⟨rfl, hf_95⟩ | ⟨rfl, hf_96⟩
      · skip
        refine lv_if_ne (tgt := 80) hx hb dX12_readWhen_59 (by decide) (fun h9 => absurd (by decide +kernel) h9) (fun _ => ?_)
        refine lv_aload_n hx hb dX12_readWhen_62 rfl (lv_at hl 1 rfl) ?_
        refine lv_bipush (v := 62) hx hb dX12_readWhen_63 (by decide) ?_
        refine z_callVi (As := [.int 62]) (rest := [.ref h0]) (wr := [(a_tape, .inl (cA.1 2, 900, .inl g_tape)), (a_c, .inl (cA.1 0, 1825, .inl g_90)), (a_words, .inl (cA.1 1, 105, .inr (.inl g_words)))]) ⟨hx, hb, hml, hown, hts⟩ hK hE hT hP hD hS hA (r_isSign l G cA h0 m_status m_thrown m_above m_under a_traySort a_trayMany a_numbers a_tape m_taped m_textEnd m_faultKind m_faultAt n_83 n_84 n_77 n_78 n_79 n_80 n_81 n_82 a_c a_words m_markMany a_there a_tried a_best a_found m_thereMany m_foundMany m_orderHow m_orderRing m_orderMany m_hasBest m_bestTop m_bestBy a_weights a_shared m_random m_truePlace m_trueWay m_seconds m_done m_feelings m_tries m_leftOver m_playDoor m_playRing m_isOpen m_isOver m_wasTried m_hasPlayed a_feltNow a_last a_kept m_hasSeconds m_hasTurned m_hasRound a_hasFeels a_isOn m_firstAct m_meanTop m_meanBy a_order m_rowMany m_newSteps 62 hr_n_77 hr_n_80) lk_RX12_220 ⟨rfl, rfl⟩ ⟨Nat.le_of_ble_eq_true rfl, Nat.le_of_ble_eq_true rfl⟩ 12 rfl rfl rfl [3] [0, 1, 2] rfl rfl (by decide) rfl hl.1 rfl (lv_room (Nat.le_of_ble_eq_true rfl)) dX12_readWhen_65 ⟨Nat.le_of_ble_eq_true rfl, Nat.le_of_ble_eq_true rfl⟩ (fun r_97 u_98 H locs hw hP hD hS => ?_)
        obtain ⟨he_r_97, hw⟩ := hw
        rcases hw with ⟨rfl, hf_99⟩ | ⟨rfl, hf_100⟩
        · skip
          refine lv_if_ne (tgt := 80) hx hb dX12_readWhen_68 (by decide) (fun h9 => absurd (by decide +kernel) h9) (fun _ => ?_)
          refine lv_aload_n hx hb dX12_readWhen_71 rfl (lv_at hl 1 rfl) ?_
          refine lv_bipush (v := 61) hx hb dX12_readWhen_72 (by decide) ?_
          refine z_callVi (As := [.int 61]) (rest := [.ref h0]) (wr := [(a_tape, .inl (cA.1 2, 900, .inl g_tape)), (a_c, .inl (cA.1 0, 1825, .inl g_90)), (a_words, .inl (cA.1 1, 105, .inr (.inl g_words)))]) ⟨hx, hb, hml, hown, hts⟩ hK hE hT hP hD hS hA (r_isSign l G cA h0 m_status m_thrown m_above m_under a_traySort a_trayMany a_numbers a_tape m_taped m_textEnd m_faultKind m_faultAt n_83 n_84 n_77 n_78 n_79 n_80 n_81 n_82 a_c a_words m_markMany a_there a_tried a_best a_found m_thereMany m_foundMany m_orderHow m_orderRing m_orderMany m_hasBest m_bestTop m_bestBy a_weights a_shared m_random m_truePlace m_trueWay m_seconds m_done m_feelings m_tries m_leftOver m_playDoor m_playRing m_isOpen m_isOver m_wasTried m_hasPlayed a_feltNow a_last a_kept m_hasSeconds m_hasTurned m_hasRound a_hasFeels a_isOn m_firstAct m_meanTop m_meanBy a_order m_rowMany m_newSteps 61 hr_n_77 hr_n_80) lk_RX12_220 ⟨rfl, rfl⟩ ⟨Nat.le_of_ble_eq_true rfl, Nat.le_of_ble_eq_true rfl⟩ 12 rfl rfl rfl [3] [0, 1, 2] rfl rfl (by decide) rfl hl.1 rfl (lv_room (Nat.le_of_ble_eq_true rfl)) dX12_readWhen_74 ⟨Nat.le_of_ble_eq_true rfl, Nat.le_of_ble_eq_true rfl⟩ (fun r_101 u_102 H locs hw hP hD hS => ?_)
          obtain ⟨he_r_101, hw⟩ := hw
          rcases hw with ⟨rfl, hf_103⟩ | ⟨rfl, hf_104⟩
          · skip
            refine lv_if_eq (tgt := 84) hx hb dX12_readWhen_77 (by decide) (fun _ => ?_) (fun h9 => absurd (by decide +kernel) h9)
            refine lv_iconst (v := 0) hx hb dX12_readWhen_84 (by decide) ?_
            refine z_callVv (As := [.int 0]) (rest := []) (wr := [(a_tape, .inl (cA.1 2, 900, .inl g_tape)), (a_c, .inl (cA.1 0, 1825, .inl g_90)), (a_words, .inl (cA.1 1, 105, .inr (.inl g_words)))]) ⟨hx, hb, hml, hown, hts⟩ hK hE hT hP hD hS hA (r_must_0 l G cA h0 m_status m_thrown m_above m_under a_traySort a_trayMany a_numbers a_tape m_taped m_textEnd m_faultKind m_faultAt n_83 n_84 n_77 n_78 n_79 n_80 n_81 n_82 a_c a_words m_markMany a_there a_tried a_best a_found m_thereMany m_foundMany m_orderHow m_orderRing m_orderMany m_hasBest m_bestTop m_bestBy a_weights a_shared m_random m_truePlace m_trueWay m_seconds m_done m_feelings m_tries m_leftOver m_playDoor m_playRing m_isOpen m_isOver m_wasTried m_hasPlayed a_feltNow a_last a_kept m_hasSeconds m_hasTurned m_hasRound a_hasFeels a_isOn m_firstAct m_meanTop m_meanBy a_order m_rowMany m_newSteps hr_n_78 hr_n_83 hr_n_77) lk_RX12_210 ⟨rfl, rfl⟩ ⟨Nat.le_of_ble_eq_true rfl, Nat.le_of_ble_eq_true rfl⟩ 12 rfl rfl rfl [3] [0, 1, 2] rfl rfl (by decide) rfl hl.1 rfl (lv_room (Nat.le_of_ble_eq_true rfl)) dX12_readWhen_85 ⟨Nat.le_of_ble_eq_true rfl, Nat.le_of_ble_eq_true rfl⟩ (fun u_108 H locs hw hP hD hS => ?_)
            obtain ⟨n_105, n_106⟩ := u_108
            try dsimp only at hw
            obtain ⟨he_n_105, he_n_106, hw⟩ := hw
            have hr_n_105 := hw
            refine lv_aload_n hx hb dX12_readWhen_88 rfl (lv_at hl 1 rfl) ?_
            refine va_get (D := G) (ci := 12) (v := .ref a_c) (C := RX12) (T := TX12) (N := 65) hx hb hts inT12 hown hK hP 3 rfl rfl 20 (by decide) (hts _ tw_1905) (fun _ h9 => h9) rfl dX12_readWhen_89 ?_
            refine lv_iload_n hx hb dX12_readWhen_92 rfl (lv_at hl 2 rfl) ?_
            refine lv_iconst (v := 2) hx hb dX12_readWhen_93 (by decide) ?_
            refine lv_iadd hx hb dX12_readWhen_94 ?_
            refine lv_topi (fun x_109 he_x_109 => ?_)
            have hq_x_109 := z_addq he_x_109 (rfl : w.toInt = _) hk_2 (by omega) (by omega)
            refine lv_iload_n hx hb dX12_readWhen_95 rfl (lv_at hl 0 rfl) ?_
            refine z_iast hx hb hK hP hD hS 1 0 rfl rfl (z_inN (by omega) (by omega)) dX12_readWhen_96 (fun g_110 hg_g_110 H locs hP hD hS => ?_)
            have hC_g_110 := z_ctUs hC_g_90 hg_g_110 (a := 1643) (b := 1817) (M := 6) (q := 5) (lo := (-2147483648)) (hi := 2147483647) (by decide +kernel) (by decide +kernel) (by omega) (by omega) (by omega) (z_full _)
            refine lv_aload_n hx hb dX12_readWhen_97 rfl (lv_at hl 1 rfl) ?_
            refine va_get (D := G) (ci := 12) (v := .ref a_c) (C := RX12) (T := TX12) (N := 65) hx hb hts inT12 hown hK hP 3 rfl rfl 20 (by decide) (hts _ tw_1905) (fun _ h9 => h9) rfl dX12_readWhen_98 ?_
            refine lv_iload_n hx hb dX12_readWhen_101 rfl (lv_at hl 2 rfl) ?_
            refine lv_iconst (v := 3) hx hb dX12_readWhen_102 (by decide) ?_
            refine lv_iadd hx hb dX12_readWhen_103 ?_
            refine lv_topi (fun x_111 he_x_111 => ?_)
            have hq_x_111 := z_addq he_x_111 (rfl : w.toInt = _) hk_3 (by omega) (by omega)
            refine lv_aload_n hx hb dX12_readWhen_104 rfl (lv_at hl 1 rfl) ?_
            refine lv_iconst (v := 0) hx hb dX12_readWhen_105 (by decide) ?_
            refine lv_iconst (v := 3) hx hb dX12_readWhen_106 (by decide) ?_
            refine z_callVi (As := [.int 0, .int 3]) (rest := [.int x_111, .ref a_c]) (wr := [(a_c, .inl (cA.1 0, 1825, .inl g_110)), (a_words, .inl (cA.1 1, 105, .inr (.inl g_words)))]) ⟨hx, hb, hml, hown, hts⟩ hK hE hT hP hD hS hA (r_count l G cA h0 m_status m_thrown m_above m_under a_traySort a_trayMany a_numbers a_tape m_taped m_textEnd m_faultKind m_faultAt n_105 n_106 n_77 n_78 n_79 n_80 n_81 n_82 a_c a_words m_markMany a_there a_tried a_best a_found m_thereMany m_foundMany m_orderHow m_orderRing m_orderMany m_hasBest m_bestTop m_bestBy a_weights a_shared m_random m_truePlace m_trueWay m_seconds m_done m_feelings m_tries m_leftOver m_playDoor m_playRing m_isOpen m_isOver m_wasTried m_hasPlayed a_feltNow a_last a_kept m_hasSeconds m_hasTurned m_hasRound a_hasFeels a_isOn m_firstAct m_meanTop m_meanBy a_order m_rowMany m_newSteps g_tape 0 3 (by decide +kernel) (by decide +kernel) hr_m_textEnd hr_n_78 hr_n_79 (z_rgw hr_n_105 (by decide) (by decide)) hr_n_77 hr_n_80 hr_n_81) lk_RX12_214 ⟨rfl, rfl⟩ ⟨Nat.le_of_ble_eq_true rfl, Nat.le_of_ble_eq_true rfl⟩ 12 rfl rfl rfl [3, 0] [1, 2] rfl rfl (by decide) rfl hl.1 rfl (lv_room (Nat.le_of_ble_eq_true rfl)) dX12_readWhen_107 ⟨Nat.le_of_ble_eq_true rfl, Nat.le_of_ble_eq_true rfl⟩ (fun r_120 u_121 H locs hw hP hD hS => ?_)
            obtain ⟨n_112, n_113, n_114, n_115, n_116, n_117, n_118, n_119⟩ := u_121
            try dsimp only at hw
            obtain ⟨he_r_120, he_n_112, he_n_113, he_n_114, he_n_115, he_n_116, he_n_117, he_n_118, he_n_119, hw⟩ := hw
            obtain ⟨hr_r_120, hr_n_112, hr_n_114, hr_n_115, hr_n_116, hr_n_117, hr_n_118, hf_122, hf_123, hf_124, hf_125, hf_126, hf_127⟩ := hw
            refine z_iast hx hb hK hP hD hS 0 0 rfl rfl (z_inN (by omega) (by omega)) dX12_readWhen_110 (fun g_128 hg_g_128 H locs hP hD hS => ?_)
            have hC_g_128 := z_ctUs hC_g_110 hg_g_128 (a := 1644) (b := 1818) (M := 6) (q := 0) (lo := (-2147483648)) (hi := 2147483647) (by decide +kernel) (by decide +kernel) (by omega) (by omega) (by omega) (z_full _)
            refine lv_goto (tgt := 167) hx hb dX12_readWhen_111 (by decide) ?_
            have hpost : (0 ≤ n_112.toInt ∧ n_112.toInt ≤ 9) ∧ (0 ≤ n_114.toInt ∧ n_114.toInt ≤ 4) ∧ (0 ≤ n_115.toInt ∧ n_115.toInt ≤ 900) ∧ (0 ≤ n_116.toInt ∧ n_116.toInt ≤ 900) ∧ (0 ≤ n_117.toInt ∧ n_117.toInt ≤ 9999) ∧ (0 ≤ n_118.toInt ∧ n_118.toInt ≤ 900) ∧ (zC g_128) ∧ (m_behind.toInt ≤ n_116.toInt) ∧ (0 < m_bad.toInt → 0 < n_112.toInt) ∧ (n_112.toInt ≤ 0 → n_114.toInt = 0 ∨ m_behind.toInt < n_116.toInt) := ⟨hr_n_112, hr_n_114, hr_n_115, hr_n_116, hr_n_117, hr_n_118, hC_g_128, (by omega), (by omega), (by omega)⟩
            exact hret _ _ _ _ _ (n_112, n_113, n_114, n_115, n_116, n_117, n_118, n_119, g_128) [2, 3, 0, 1] hP hD hS rfl (by decide) dX12_readWhen_167 hpost
          · skip
            refine lv_if_eq (tgt := 84) hx hb dX12_readWhen_77 (by decide) (fun h9 => absurd h9 (by decide +kernel)) (fun _ => ?_)
            refine lv_iconst (v := 1) hx hb dX12_readWhen_80 (by decide) ?_
            refine lv_goto (tgt := 85) hx hb dX12_readWhen_81 (by decide) ?_
            refine z_callVv (As := [.int 1]) (rest := []) (wr := [(a_c, .inl (cA.1 0, 1825, .inl g_90)), (a_words, .inl (cA.1 1, 105, .inr (.inl g_words)))]) ⟨hx, hb, hml, hown, hts⟩ hK hE hT hP hD hS hA (r_must_1 l G cA h0 m_status m_thrown m_above m_under a_traySort a_trayMany a_numbers a_tape m_taped m_textEnd m_faultKind m_faultAt n_83 n_84 n_77 n_78 n_79 n_80 n_81 n_82 a_c a_words m_markMany a_there a_tried a_best a_found m_thereMany m_foundMany m_orderHow m_orderRing m_orderMany m_hasBest m_bestTop m_bestBy a_weights a_shared m_random m_truePlace m_trueWay m_seconds m_done m_feelings m_tries m_leftOver m_playDoor m_playRing m_isOpen m_isOver m_wasTried m_hasPlayed a_feltNow a_last a_kept m_hasSeconds m_hasTurned m_hasRound a_hasFeels a_isOn m_firstAct m_meanTop m_meanBy a_order m_rowMany m_newSteps g_tape hr_m_textEnd hr_n_78 hr_n_79 hr_n_83 hr_n_77 hr_n_80 hr_n_81) lk_RX12_210 ⟨rfl, rfl⟩ ⟨Nat.le_of_ble_eq_true rfl, Nat.le_of_ble_eq_true rfl⟩ 12 rfl rfl rfl [3, 0] [1, 2] rfl rfl (by decide) rfl hl.1 rfl (lv_room (Nat.le_of_ble_eq_true rfl)) dX12_readWhen_85 ⟨Nat.le_of_ble_eq_true rfl, Nat.le_of_ble_eq_true rfl⟩ (fun u_136 H locs hw hP hD hS => ?_)
            obtain ⟨n_129, n_130, n_131, n_132, n_133, n_134⟩ := u_136
            try dsimp only at hw
            obtain ⟨he_n_129, he_n_130, he_n_131, he_n_132, he_n_133, he_n_134, hw⟩ := hw
            obtain ⟨hr_n_129, hr_n_130, hr_n_131, hr_n_132, hr_n_133, hf_137, hf_138, hf_139⟩ := hw
            refine lv_aload_n hx hb dX12_readWhen_88 rfl (lv_at hl 1 rfl) ?_
            refine va_get (D := G) (ci := 12) (v := .ref a_c) (C := RX12) (T := TX12) (N := 65) hx hb hts inT12 hown hK hP 2 rfl rfl 20 (by decide) (hts _ tw_1905) (fun _ h9 => h9) rfl dX12_readWhen_89 ?_
            refine lv_iload_n hx hb dX12_readWhen_92 rfl (lv_at hl 2 rfl) ?_
            refine lv_iconst (v := 2) hx hb dX12_readWhen_93 (by decide) ?_
            refine lv_iadd hx hb dX12_readWhen_94 ?_
            refine lv_topi (fun x_140 he_x_140 => ?_)
            have hq_x_140 := z_addq he_x_140 (rfl : w.toInt = _) hk_2 (by omega) (by omega)
            refine lv_iload_n hx hb dX12_readWhen_95 rfl (lv_at hl 0 rfl) ?_
            refine z_iast hx hb hK hP hD hS 0 0 rfl rfl (z_inN (by omega) (by omega)) dX12_readWhen_96 (fun g_141 hg_g_141 H locs hP hD hS => ?_)
            have hC_g_141 := z_ctUs hC_g_90 hg_g_141 (a := 1643) (b := 1817) (M := 6) (q := 5) (lo := (-2147483648)) (hi := 2147483647) (by decide +kernel) (by decide +kernel) (by omega) (by omega) (by omega) (z_full _)
            refine lv_aload_n hx hb dX12_readWhen_97 rfl (lv_at hl 1 rfl) ?_
            refine va_get (D := G) (ci := 12) (v := .ref a_c) (C := RX12) (T := TX12) (N := 65) hx hb hts inT12 hown hK hP 2 rfl rfl 20 (by decide) (hts _ tw_1905) (fun _ h9 => h9) rfl dX12_readWhen_98 ?_
            refine lv_iload_n hx hb dX12_readWhen_101 rfl (lv_at hl 2 rfl) ?_
            refine lv_iconst (v := 3) hx hb dX12_readWhen_102 (by decide) ?_
            refine lv_iadd hx hb dX12_readWhen_103 ?_
            refine lv_topi (fun x_142 he_x_142 => ?_)
            have hq_x_142 := z_addq he_x_142 (rfl : w.toInt = _) hk_3 (by omega) (by omega)
            refine lv_aload_n hx hb dX12_readWhen_104 rfl (lv_at hl 1 rfl) ?_
            refine lv_iconst (v := 0) hx hb dX12_readWhen_105 (by decide) ?_
            refine lv_iconst (v := 3) hx hb dX12_readWhen_106 (by decide) ?_
            refine z_callVi (As := [.int 0, .int 3]) (rest := [.int x_142, .ref a_c]) (wr := [(a_c, .inl (cA.1 0, 1825, .inl g_141)), (a_words, .inl (cA.1 1, 105, .inr (.inl g_words)))]) ⟨hx, hb, hml, hown, hts⟩ hK hE hT hP hD hS hA (r_count l G cA h0 m_status m_thrown m_above m_under a_traySort a_trayMany a_numbers a_tape m_taped m_textEnd m_faultKind m_faultAt n_83 n_84 n_129 n_130 n_131 n_132 n_133 n_134 a_c a_words m_markMany a_there a_tried a_best a_found m_thereMany m_foundMany m_orderHow m_orderRing m_orderMany m_hasBest m_bestTop m_bestBy a_weights a_shared m_random m_truePlace m_trueWay m_seconds m_done m_feelings m_tries m_leftOver m_playDoor m_playRing m_isOpen m_isOver m_wasTried m_hasPlayed a_feltNow a_last a_kept m_hasSeconds m_hasTurned m_hasRound a_hasFeels a_isOn m_firstAct m_meanTop m_meanBy a_order m_rowMany m_newSteps g_tape 0 3 (by decide +kernel) (by decide +kernel) hr_m_textEnd hr_n_130 hr_n_131 hr_n_83 hr_n_129 hr_n_132 hr_n_133) lk_RX12_214 ⟨rfl, rfl⟩ ⟨Nat.le_of_ble_eq_true rfl, Nat.le_of_ble_eq_true rfl⟩ 12 rfl rfl rfl [2, 3] [0, 1] rfl rfl (by decide) rfl hl.1 rfl (lv_room (Nat.le_of_ble_eq_true rfl)) dX12_readWhen_107 ⟨Nat.le_of_ble_eq_true rfl, Nat.le_of_ble_eq_true rfl⟩ (fun r_151 u_152 H locs hw hP hD hS => ?_)
            obtain ⟨n_143, n_144, n_145, n_146, n_147, n_148, n_149, n_150⟩ := u_152
            try dsimp only at hw
            obtain ⟨he_r_151, he_n_143, he_n_144, he_n_145, he_n_146, he_n_147, he_n_148, he_n_149, he_n_150, hw⟩ := hw
            obtain ⟨hr_r_151, hr_n_143, hr_n_145, hr_n_146, hr_n_147, hr_n_148, hr_n_149, hf_153, hf_154, hf_155, hf_156, hf_157, hf_158⟩ := hw
            refine z_iast hx hb hK hP hD hS 0 0 rfl rfl (z_inN (by omega) (by omega)) dX12_readWhen_110 (fun g_159 hg_g_159 H locs hP hD hS => ?_)
            have hC_g_159 := z_ctUs hC_g_141 hg_g_159 (a := 1644) (b := 1818) (M := 6) (q := 0) (lo := (-2147483648)) (hi := 2147483647) (by decide +kernel) (by decide +kernel) (by omega) (by omega) (by omega) (z_full _)
            refine lv_goto (tgt := 167) hx hb dX12_readWhen_111 (by decide) ?_
            have hpost : (0 ≤ n_143.toInt ∧ n_143.toInt ≤ 9) ∧ (0 ≤ n_145.toInt ∧ n_145.toInt ≤ 4) ∧ (0 ≤ n_146.toInt ∧ n_146.toInt ≤ 900) ∧ (0 ≤ n_147.toInt ∧ n_147.toInt ≤ 900) ∧ (0 ≤ n_148.toInt ∧ n_148.toInt ≤ 9999) ∧ (0 ≤ n_149.toInt ∧ n_149.toInt ≤ 900) ∧ (zC g_159) ∧ (m_behind.toInt ≤ n_147.toInt) ∧ (0 < m_bad.toInt → 0 < n_143.toInt) ∧ (n_143.toInt ≤ 0 → n_145.toInt = 0 ∨ m_behind.toInt < n_147.toInt) := ⟨hr_n_143, hr_n_145, hr_n_146, hr_n_147, hr_n_148, hr_n_149, hC_g_159, (by omega), (by omega), (by omega)⟩
            exact hret _ _ _ _ _ (n_143, n_144, n_145, n_146, n_147, n_148, n_149, n_150, g_159) [2, 3, 0, 1] hP hD hS rfl (by decide) dX12_readWhen_167 hpost
        · skip
          refine lv_if_ne (tgt := 80) hx hb dX12_readWhen_68 (by decide) (fun _ => ?_) (fun h9 => absurd h9 (by decide +kernel))
          refine lv_iconst (v := 1) hx hb dX12_readWhen_80 (by decide) ?_
          refine lv_goto (tgt := 85) hx hb dX12_readWhen_81 (by decide) ?_
          refine z_callVv (As := [.int 1]) (rest := []) (wr := [(a_c, .inl (cA.1 0, 1825, .inl g_90)), (a_words, .inl (cA.1 1, 105, .inr (.inl g_words)))]) ⟨hx, hb, hml, hown, hts⟩ hK hE hT hP hD hS hA (r_must_1 l G cA h0 m_status m_thrown m_above m_under a_traySort a_trayMany a_numbers a_tape m_taped m_textEnd m_faultKind m_faultAt n_83 n_84 n_77 n_78 n_79 n_80 n_81 n_82 a_c a_words m_markMany a_there a_tried a_best a_found m_thereMany m_foundMany m_orderHow m_orderRing m_orderMany m_hasBest m_bestTop m_bestBy a_weights a_shared m_random m_truePlace m_trueWay m_seconds m_done m_feelings m_tries m_leftOver m_playDoor m_playRing m_isOpen m_isOver m_wasTried m_hasPlayed a_feltNow a_last a_kept m_hasSeconds m_hasTurned m_hasRound a_hasFeels a_isOn m_firstAct m_meanTop m_meanBy a_order m_rowMany m_newSteps g_tape hr_m_textEnd hr_n_78 hr_n_79 hr_n_83 hr_n_77 hr_n_80 hr_n_81) lk_RX12_210 ⟨rfl, rfl⟩ ⟨Nat.le_of_ble_eq_true rfl, Nat.le_of_ble_eq_true rfl⟩ 12 rfl rfl rfl [3, 0] [1, 2] rfl rfl (by decide) rfl hl.1 rfl (lv_room (Nat.le_of_ble_eq_true rfl)) dX12_readWhen_85 ⟨Nat.le_of_ble_eq_true rfl, Nat.le_of_ble_eq_true rfl⟩ (fun u_167 H locs hw hP hD hS => ?_)
          obtain ⟨n_160, n_161, n_162, n_163, n_164, n_165⟩ := u_167
          try dsimp only at hw
          obtain ⟨he_n_160, he_n_161, he_n_162, he_n_163, he_n_164, he_n_165, hw⟩ := hw
          obtain ⟨hr_n_160, hr_n_161, hr_n_162, hr_n_163, hr_n_164, hf_168, hf_169, hf_170⟩ := hw
          refine lv_aload_n hx hb dX12_readWhen_88 rfl (lv_at hl 1 rfl) ?_
          refine va_get (D := G) (ci := 12) (v := .ref a_c) (C := RX12) (T := TX12) (N := 65) hx hb hts inT12 hown hK hP 2 rfl rfl 20 (by decide) (hts _ tw_1905) (fun _ h9 => h9) rfl dX12_readWhen_89 ?_
          refine lv_iload_n hx hb dX12_readWhen_92 rfl (lv_at hl 2 rfl) ?_
          refine lv_iconst (v := 2) hx hb dX12_readWhen_93 (by decide) ?_
          refine lv_iadd hx hb dX12_readWhen_94 ?_
          refine lv_topi (fun x_171 he_x_171 => ?_)
          have hq_x_171 := z_addq he_x_171 (rfl : w.toInt = _) hk_2 (by omega) (by omega)
          refine lv_iload_n hx hb dX12_readWhen_95 rfl (lv_at hl 0 rfl) ?_
          refine z_iast hx hb hK hP hD hS 0 0 rfl rfl (z_inN (by omega) (by omega)) dX12_readWhen_96 (fun g_172 hg_g_172 H locs hP hD hS => ?_)
          have hC_g_172 := z_ctUs hC_g_90 hg_g_172 (a := 1643) (b := 1817) (M := 6) (q := 5) (lo := (-2147483648)) (hi := 2147483647) (by decide +kernel) (by decide +kernel) (by omega) (by omega) (by omega) (z_full _)
          refine lv_aload_n hx hb dX12_readWhen_97 rfl (lv_at hl 1 rfl) ?_
          refine va_get (D := G) (ci := 12) (v := .ref a_c) (C := RX12) (T := TX12) (N := 65) hx hb hts inT12 hown hK hP 2 rfl rfl 20 (by decide) (hts _ tw_1905) (fun _ h9 => h9) rfl dX12_readWhen_98 ?_
          refine lv_iload_n hx hb dX12_readWhen_101 rfl (lv_at hl 2 rfl) ?_
          refine lv_iconst (v := 3) hx hb dX12_readWhen_102 (by decide) ?_
          refine lv_iadd hx hb dX12_readWhen_103 ?_
          refine lv_topi (fun x_173 he_x_173 => ?_)
          have hq_x_173 := z_addq he_x_173 (rfl : w.toInt = _) hk_3 (by omega) (by omega)
          refine lv_aload_n hx hb dX12_readWhen_104 rfl (lv_at hl 1 rfl) ?_
          refine lv_iconst (v := 0) hx hb dX12_readWhen_105 (by decide) ?_
          refine lv_iconst (v := 3) hx hb dX12_readWhen_106 (by decide) ?_
          refine z_callVi (As := [.int 0, .int 3]) (rest := [.int x_173, .ref a_c]) (wr := [(a_c, .inl (cA.1 0, 1825, .inl g_172)), (a_words, .inl (cA.1 1, 105, .inr (.inl g_words)))]) ⟨hx, hb, hml, hown, hts⟩ hK hE hT hP hD hS hA (r_count l G cA h0 m_status m_thrown m_above m_under a_traySort a_trayMany a_numbers a_tape m_taped m_textEnd m_faultKind m_faultAt n_83 n_84 n_160 n_161 n_162 n_163 n_164 n_165 a_c a_words m_markMany a_there a_tried a_best a_found m_thereMany m_foundMany m_orderHow m_orderRing m_orderMany m_hasBest m_bestTop m_bestBy a_weights a_shared m_random m_truePlace m_trueWay m_seconds m_done m_feelings m_tries m_leftOver m_playDoor m_playRing m_isOpen m_isOver m_wasTried m_hasPlayed a_feltNow a_last a_kept m_hasSeconds m_hasTurned m_hasRound a_hasFeels a_isOn m_firstAct m_meanTop m_meanBy a_order m_rowMany m_newSteps g_tape 0 3 (by decide +kernel) (by decide +kernel) hr_m_textEnd hr_n_161 hr_n_162 hr_n_83 hr_n_160 hr_n_163 hr_n_164) lk_RX12_214 ⟨rfl, rfl⟩ ⟨Nat.le_of_ble_eq_true rfl, Nat.le_of_ble_eq_true rfl⟩ 12 rfl rfl rfl [2, 3] [0, 1] rfl rfl (by decide) rfl hl.1 rfl (lv_room (Nat.le_of_ble_eq_true rfl)) dX12_readWhen_107 ⟨Nat.le_of_ble_eq_true rfl, Nat.le_of_ble_eq_true rfl⟩ (fun r_182 u_183 H locs hw hP hD hS => ?_)
          obtain ⟨n_174, n_175, n_176, n_177, n_178, n_179, n_180, n_181⟩ := u_183
          try dsimp only at hw
          obtain ⟨he_r_182, he_n_174, he_n_175, he_n_176, he_n_177, he_n_178, he_n_179, he_n_180, he_n_181, hw⟩ := hw
          obtain ⟨hr_r_182, hr_n_174, hr_n_176, hr_n_177, hr_n_178, hr_n_179, hr_n_180, hf_184, hf_185, hf_186, hf_187, hf_188, hf_189⟩ := hw
          refine z_iast hx hb hK hP hD hS 0 0 rfl rfl (z_inN (by omega) (by omega)) dX12_readWhen_110 (fun g_190 hg_g_190 H locs hP hD hS => ?_)
          have hC_g_190 := z_ctUs hC_g_172 hg_g_190 (a := 1644) (b := 1818) (M := 6) (q := 0) (lo := (-2147483648)) (hi := 2147483647) (by decide +kernel) (by decide +kernel) (by omega) (by omega) (by omega) (z_full _)
          refine lv_goto (tgt := 167) hx hb dX12_readWhen_111 (by decide) ?_
          have hpost : (0 ≤ n_174.toInt ∧ n_174.toInt ≤ 9) ∧ (0 ≤ n_176.toInt ∧ n_176.toInt ≤ 4) ∧ (0 ≤ n_177.toInt ∧ n_177.toInt ≤ 900) ∧ (0 ≤ n_178.toInt ∧ n_178.toInt ≤ 900) ∧ (0 ≤ n_179.toInt ∧ n_179.toInt ≤ 9999) ∧ (0 ≤ n_180.toInt ∧ n_180.toInt ≤ 900) ∧ (zC g_190) ∧ (m_behind.toInt ≤ n_178.toInt) ∧ (0 < m_bad.toInt → 0 < n_174.toInt) ∧ (n_174.toInt ≤ 0 → n_176.toInt = 0 ∨ m_behind.toInt < n_178.toInt) := ⟨hr_n_174, hr_n_176, hr_n_177, hr_n_178, hr_n_179, hr_n_180, hC_g_190, (by omega), (by omega), (by omega)⟩
          exact hret _ _ _ _ _ (n_174, n_175, n_176, n_177, n_178, n_179, n_180, n_181, g_190) [2, 3, 0, 1] hP hD hS rfl (by decide) dX12_readWhen_167 hpost
      · skip
        refine lv_if_ne (tgt := 80) hx hb dX12_readWhen_59 (by decide) (fun _ => ?_) (fun h9 => absurd h9 (by decide +kernel))
        refine lv_iconst (v := 1) hx hb dX12_readWhen_80 (by decide) ?_
        refine lv_goto (tgt := 85) hx hb dX12_readWhen_81 (by decide) ?_
        refine z_callVv (As := [.int 1]) (rest := []) (wr := [(a_c, .inl (cA.1 0, 1825, .inl g_90)), (a_words, .inl (cA.1 1, 105, .inr (.inl g_words)))]) ⟨hx, hb, hml, hown, hts⟩ hK hE hT hP hD hS hA (r_must_1 l G cA h0 m_status m_thrown m_above m_under a_traySort a_trayMany a_numbers a_tape m_taped m_textEnd m_faultKind m_faultAt n_83 n_84 n_77 n_78 n_79 n_80 n_81 n_82 a_c a_words m_markMany a_there a_tried a_best a_found m_thereMany m_foundMany m_orderHow m_orderRing m_orderMany m_hasBest m_bestTop m_bestBy a_weights a_shared m_random m_truePlace m_trueWay m_seconds m_done m_feelings m_tries m_leftOver m_playDoor m_playRing m_isOpen m_isOver m_wasTried m_hasPlayed a_feltNow a_last a_kept m_hasSeconds m_hasTurned m_hasRound a_hasFeels a_isOn m_firstAct m_meanTop m_meanBy a_order m_rowMany m_newSteps g_tape hr_m_textEnd hr_n_78 hr_n_79 hr_n_83 hr_n_77 hr_n_80 hr_n_81) lk_RX12_210 ⟨rfl, rfl⟩ ⟨Nat.le_of_ble_eq_true rfl, Nat.le_of_ble_eq_true rfl⟩ 12 rfl rfl rfl [3, 0] [1, 2] rfl rfl (by decide) rfl hl.1 rfl (lv_room (Nat.le_of_ble_eq_true rfl)) dX12_readWhen_85 ⟨Nat.le_of_ble_eq_true rfl, Nat.le_of_ble_eq_true rfl⟩ (fun u_198 H locs hw hP hD hS => ?_)
        obtain ⟨n_191, n_192, n_193, n_194, n_195, n_196⟩ := u_198
        try dsimp only at hw
        obtain ⟨he_n_191, he_n_192, he_n_193, he_n_194, he_n_195, he_n_196, hw⟩ := hw
        obtain ⟨hr_n_191, hr_n_192, hr_n_193, hr_n_194, hr_n_195, hf_199, hf_200, hf_201⟩ := hw
        refine lv_aload_n hx hb dX12_readWhen_88 rfl (lv_at hl 1 rfl) ?_
        refine va_get (D := G) (ci := 12) (v := .ref a_c) (C := RX12) (T := TX12) (N := 65) hx hb hts inT12 hown hK hP 2 rfl rfl 20 (by decide) (hts _ tw_1905) (fun _ h9 => h9) rfl dX12_readWhen_89 ?_
        refine lv_iload_n hx hb dX12_readWhen_92 rfl (lv_at hl 2 rfl) ?_
        refine lv_iconst (v := 2) hx hb dX12_readWhen_93 (by decide) ?_
        refine lv_iadd hx hb dX12_readWhen_94 ?_
        refine lv_topi (fun x_202 he_x_202 => ?_)
        have hq_x_202 := z_addq he_x_202 (rfl : w.toInt = _) hk_2 (by omega) (by omega)
        refine lv_iload_n hx hb dX12_readWhen_95 rfl (lv_at hl 0 rfl) ?_
        refine z_iast hx hb hK hP hD hS 0 0 rfl rfl (z_inN (by omega) (by omega)) dX12_readWhen_96 (fun g_203 hg_g_203 H locs hP hD hS => ?_)
        have hC_g_203 := z_ctUs hC_g_90 hg_g_203 (a := 1643) (b := 1817) (M := 6) (q := 5) (lo := (-2147483648)) (hi := 2147483647) (by decide +kernel) (by decide +kernel) (by omega) (by omega) (by omega) (z_full _)
        refine lv_aload_n hx hb dX12_readWhen_97 rfl (lv_at hl 1 rfl) ?_
        refine va_get (D := G) (ci := 12) (v := .ref a_c) (C := RX12) (T := TX12) (N := 65) hx hb hts inT12 hown hK hP 2 rfl rfl 20 (by decide) (hts _ tw_1905) (fun _ h9 => h9) rfl dX12_readWhen_98 ?_
        refine lv_iload_n hx hb dX12_readWhen_101 rfl (lv_at hl 2 rfl) ?_
        refine lv_iconst (v := 3) hx hb dX12_readWhen_102 (by decide) ?_
        refine lv_iadd hx hb dX12_readWhen_103 ?_
        refine lv_topi (fun x_204 he_x_204 => ?_)
        have hq_x_204 := z_addq he_x_204 (rfl : w.toInt = _) hk_3 (by omega) (by omega)
        refine lv_aload_n hx hb dX12_readWhen_104 rfl (lv_at hl 1 rfl) ?_
        refine lv_iconst (v := 0) hx hb dX12_readWhen_105 (by decide) ?_
        refine lv_iconst (v := 3) hx hb dX12_readWhen_106 (by decide) ?_
        refine z_callVi (As := [.int 0, .int 3]) (rest := [.int x_204, .ref a_c]) (wr := [(a_c, .inl (cA.1 0, 1825, .inl g_203)), (a_words, .inl (cA.1 1, 105, .inr (.inl g_words)))]) ⟨hx, hb, hml, hown, hts⟩ hK hE hT hP hD hS hA (r_count l G cA h0 m_status m_thrown m_above m_under a_traySort a_trayMany a_numbers a_tape m_taped m_textEnd m_faultKind m_faultAt n_83 n_84 n_191 n_192 n_193 n_194 n_195 n_196 a_c a_words m_markMany a_there a_tried a_best a_found m_thereMany m_foundMany m_orderHow m_orderRing m_orderMany m_hasBest m_bestTop m_bestBy a_weights a_shared m_random m_truePlace m_trueWay m_seconds m_done m_feelings m_tries m_leftOver m_playDoor m_playRing m_isOpen m_isOver m_wasTried m_hasPlayed a_feltNow a_last a_kept m_hasSeconds m_hasTurned m_hasRound a_hasFeels a_isOn m_firstAct m_meanTop m_meanBy a_order m_rowMany m_newSteps g_tape 0 3 (by decide +kernel) (by decide +kernel) hr_m_textEnd hr_n_192 hr_n_193 hr_n_83 hr_n_191 hr_n_194 hr_n_195) lk_RX12_214 ⟨rfl, rfl⟩ ⟨Nat.le_of_ble_eq_true rfl, Nat.le_of_ble_eq_true rfl⟩ 12 rfl rfl rfl [2, 3] [0, 1] rfl rfl (by decide) rfl hl.1 rfl (lv_room (Nat.le_of_ble_eq_true rfl)) dX12_readWhen_107 ⟨Nat.le_of_ble_eq_true rfl, Nat.le_of_ble_eq_true rfl⟩ (fun r_213 u_214 H locs hw hP hD hS => ?_)
        obtain ⟨n_205, n_206, n_207, n_208, n_209, n_210, n_211, n_212⟩ := u_214
        try dsimp only at hw
        obtain ⟨he_r_213, he_n_205, he_n_206, he_n_207, he_n_208, he_n_209, he_n_210, he_n_211, he_n_212, hw⟩ := hw
        obtain ⟨hr_r_213, hr_n_205, hr_n_207, hr_n_208, hr_n_209, hr_n_210, hr_n_211, hf_215, hf_216, hf_217, hf_218, hf_219, hf_220⟩ := hw
        refine z_iast hx hb hK hP hD hS 0 0 rfl rfl (z_inN (by omega) (by omega)) dX12_readWhen_110 (fun g_221 hg_g_221 H locs hP hD hS => ?_)
        have hC_g_221 := z_ctUs hC_g_203 hg_g_221 (a := 1644) (b := 1818) (M := 6) (q := 0) (lo := (-2147483648)) (hi := 2147483647) (by decide +kernel) (by decide +kernel) (by omega) (by omega) (by omega) (z_full _)
        refine lv_goto (tgt := 167) hx hb dX12_readWhen_111 (by decide) ?_
        have hpost : (0 ≤ n_205.toInt ∧ n_205.toInt ≤ 9) ∧ (0 ≤ n_207.toInt ∧ n_207.toInt ≤ 4) ∧ (0 ≤ n_208.toInt ∧ n_208.toInt ≤ 900) ∧ (0 ≤ n_209.toInt ∧ n_209.toInt ≤ 900) ∧ (0 ≤ n_210.toInt ∧ n_210.toInt ≤ 9999) ∧ (0 ≤ n_211.toInt ∧ n_211.toInt ≤ 900) ∧ (zC g_221) ∧ (m_behind.toInt ≤ n_209.toInt) ∧ (0 < m_bad.toInt → 0 < n_205.toInt) ∧ (n_205.toInt ≤ 0 → n_207.toInt = 0 ∨ m_behind.toInt < n_209.toInt) := ⟨hr_n_205, hr_n_207, hr_n_208, hr_n_209, hr_n_210, hr_n_211, hC_g_221, (by omega), (by omega), (by omega)⟩
        exact hret _ _ _ _ _ (n_205, n_206, n_207, n_208, n_209, n_210, n_211, n_212, g_221) [2, 3, 0, 1] hP hD hS rfl (by decide) dX12_readWhen_167 hpost
    · have b_222 := z_feqF c_91
      refine lv_aload_n hx hb dX12_readWhen_43 rfl (lv_at hl 0 rfl) ?_
      refine va_get (D := G) (ci := 12) (v := .int n_80) (C := RX12) (T := TX12) (N := 65) hx hb hts inT12 hown hK hP 0 rfl rfl 17 (by decide) (hts _ tw_1902) (fun _ h9 => h9) rfl dX12_readWhen_44 ?_
      refine lv_goto (tgt := 51) hx hb dX12_readWhen_47 (by decide) ?_
      refine lv_istore_n (lv' := [(2, .int n_80), (0, .ref h0), (1, .int w)]) hx hb dX12_readWhen_51 rfl hl (by decide) rfl (fun ls hl => ?_)
      refine lv_aload_n hx hb dX12_readWhen_52 rfl (lv_at hl 1 rfl) ?_
      refine lv_aload_n hx hb dX12_readWhen_53 rfl (lv_at hl 1 rfl) ?_
      refine lv_bipush (v := 60) hx hb dX12_readWhen_54 (by decide) ?_
      refine z_callVi (As := [.int 60]) (rest := [.ref h0]) (wr := [(a_tape, .inl (cA.1 2, 900, .inl g_tape)), (a_c, .inl (cA.1 0, 1825, .inl g_90)), (a_words, .inl (cA.1 1, 105, .inr (.inl g_words)))]) ⟨hx, hb, hml, hown, hts⟩ hK hE hT hP hD hS hA (r_isSign l G cA h0 m_status m_thrown m_above m_under a_traySort a_trayMany a_numbers a_tape m_taped m_textEnd m_faultKind m_faultAt n_83 n_84 n_77 n_78 n_79 n_80 n_81 n_82 a_c a_words m_markMany a_there a_tried a_best a_found m_thereMany m_foundMany m_orderHow m_orderRing m_orderMany m_hasBest m_bestTop m_bestBy a_weights a_shared m_random m_truePlace m_trueWay m_seconds m_done m_feelings m_tries m_leftOver m_playDoor m_playRing m_isOpen m_isOver m_wasTried m_hasPlayed a_feltNow a_last a_kept m_hasSeconds m_hasTurned m_hasRound a_hasFeels a_isOn m_firstAct m_meanTop m_meanBy a_order m_rowMany m_newSteps 60 hr_n_77 hr_n_80) lk_RX12_220 ⟨rfl, rfl⟩ ⟨Nat.le_of_ble_eq_true rfl, Nat.le_of_ble_eq_true rfl⟩ 12 rfl rfl rfl [0] [1, 2, 3] rfl rfl (by decide) rfl hl.1 rfl (lv_room (Nat.le_of_ble_eq_true rfl)) dX12_readWhen_56 ⟨Nat.le_of_ble_eq_true rfl, Nat.le_of_ble_eq_true rfl⟩ (fun r_223 u_224 H locs hw hP hD hS => ?_)
      obtain ⟨he_r_223, hw⟩ := hw
      rcases hw with ⟨rfl, hf_225⟩ | ⟨rfl, hf_226⟩
      · skip
        refine lv_if_ne (tgt := 80) hx hb dX12_readWhen_59 (by decide) (fun h9 => absurd (by decide +kernel) h9) (fun _ => ?_)
        refine lv_aload_n hx hb dX12_readWhen_62 rfl (lv_at hl 1 rfl) ?_
        refine lv_bipush (v := 62) hx hb dX12_readWhen_63 (by decide) ?_
        refine z_callVi (As := [.int 62]) (rest := [.ref h0]) (wr := [(a_tape, .inl (cA.1 2, 900, .inl g_tape)), (a_c, .inl (cA.1 0, 1825, .inl g_90)), (a_words, .inl (cA.1 1, 105, .inr (.inl g_words)))]) ⟨hx, hb, hml, hown, hts⟩ hK hE hT hP hD hS hA (r_isSign l G cA h0 m_status m_thrown m_above m_under a_traySort a_trayMany a_numbers a_tape m_taped m_textEnd m_faultKind m_faultAt n_83 n_84 n_77 n_78 n_79 n_80 n_81 n_82 a_c a_words m_markMany a_there a_tried a_best a_found m_thereMany m_foundMany m_orderHow m_orderRing m_orderMany m_hasBest m_bestTop m_bestBy a_weights a_shared m_random m_truePlace m_trueWay m_seconds m_done m_feelings m_tries m_leftOver m_playDoor m_playRing m_isOpen m_isOver m_wasTried m_hasPlayed a_feltNow a_last a_kept m_hasSeconds m_hasTurned m_hasRound a_hasFeels a_isOn m_firstAct m_meanTop m_meanBy a_order m_rowMany m_newSteps 62 hr_n_77 hr_n_80) lk_RX12_220 ⟨rfl, rfl⟩ ⟨Nat.le_of_ble_eq_true rfl, Nat.le_of_ble_eq_true rfl⟩ 12 rfl rfl rfl [3] [0, 1, 2] rfl rfl (by decide) rfl hl.1 rfl (lv_room (Nat.le_of_ble_eq_true rfl)) dX12_readWhen_65 ⟨Nat.le_of_ble_eq_true rfl, Nat.le_of_ble_eq_true rfl⟩ (fun r_227 u_228 H locs hw hP hD hS => ?_)
        obtain ⟨he_r_227, hw⟩ := hw
        rcases hw with ⟨rfl, hf_229⟩ | ⟨rfl, hf_230⟩
        · skip
          refine lv_if_ne (tgt := 80) hx hb dX12_readWhen_68 (by decide) (fun h9 => absurd (by decide +kernel) h9) (fun _ => ?_)
          refine lv_aload_n hx hb dX12_readWhen_71 rfl (lv_at hl 1 rfl) ?_
          refine lv_bipush (v := 61) hx hb dX12_readWhen_72 (by decide) ?_
          refine z_callVi (As := [.int 61]) (rest := [.ref h0]) (wr := [(a_tape, .inl (cA.1 2, 900, .inl g_tape)), (a_c, .inl (cA.1 0, 1825, .inl g_90)), (a_words, .inl (cA.1 1, 105, .inr (.inl g_words)))]) ⟨hx, hb, hml, hown, hts⟩ hK hE hT hP hD hS hA (r_isSign l G cA h0 m_status m_thrown m_above m_under a_traySort a_trayMany a_numbers a_tape m_taped m_textEnd m_faultKind m_faultAt n_83 n_84 n_77 n_78 n_79 n_80 n_81 n_82 a_c a_words m_markMany a_there a_tried a_best a_found m_thereMany m_foundMany m_orderHow m_orderRing m_orderMany m_hasBest m_bestTop m_bestBy a_weights a_shared m_random m_truePlace m_trueWay m_seconds m_done m_feelings m_tries m_leftOver m_playDoor m_playRing m_isOpen m_isOver m_wasTried m_hasPlayed a_feltNow a_last a_kept m_hasSeconds m_hasTurned m_hasRound a_hasFeels a_isOn m_firstAct m_meanTop m_meanBy a_order m_rowMany m_newSteps 61 hr_n_77 hr_n_80) lk_RX12_220 ⟨rfl, rfl⟩ ⟨Nat.le_of_ble_eq_true rfl, Nat.le_of_ble_eq_true rfl⟩ 12 rfl rfl rfl [3] [0, 1, 2] rfl rfl (by decide) rfl hl.1 rfl (lv_room (Nat.le_of_ble_eq_true rfl)) dX12_readWhen_74 ⟨Nat.le_of_ble_eq_true rfl, Nat.le_of_ble_eq_true rfl⟩ (fun r_231 u_232 H locs hw hP hD hS => ?_)
          obtain ⟨he_r_231, hw⟩ := hw
          rcases hw with ⟨rfl, hf_233⟩ | ⟨rfl, hf_234⟩
          · skip
            refine lv_if_eq (tgt := 84) hx hb dX12_readWhen_77 (by decide) (fun _ => ?_) (fun h9 => absurd (by decide +kernel) h9)
            refine lv_iconst (v := 0) hx hb dX12_readWhen_84 (by decide) ?_
            refine z_callVv (As := [.int 0]) (rest := []) (wr := [(a_tape, .inl (cA.1 2, 900, .inl g_tape)), (a_c, .inl (cA.1 0, 1825, .inl g_90)), (a_words, .inl (cA.1 1, 105, .inr (.inl g_words)))]) ⟨hx, hb, hml, hown, hts⟩ hK hE hT hP hD hS hA (r_must_0 l G cA h0 m_status m_thrown m_above m_under a_traySort a_trayMany a_numbers a_tape m_taped m_textEnd m_faultKind m_faultAt n_83 n_84 n_77 n_78 n_79 n_80 n_81 n_82 a_c a_words m_markMany a_there a_tried a_best a_found m_thereMany m_foundMany m_orderHow m_orderRing m_orderMany m_hasBest m_bestTop m_bestBy a_weights a_shared m_random m_truePlace m_trueWay m_seconds m_done m_feelings m_tries m_leftOver m_playDoor m_playRing m_isOpen m_isOver m_wasTried m_hasPlayed a_feltNow a_last a_kept m_hasSeconds m_hasTurned m_hasRound a_hasFeels a_isOn m_firstAct m_meanTop m_meanBy a_order m_rowMany m_newSteps hr_n_78 hr_n_83 hr_n_77) lk_RX12_210 ⟨rfl, rfl⟩ ⟨Nat.le_of_ble_eq_true rfl, Nat.le_of_ble_eq_true rfl⟩ 12 rfl rfl rfl [3] [0, 1, 2] rfl rfl (by decide) rfl hl.1 rfl (lv_room (Nat.le_of_ble_eq_true rfl)) dX12_readWhen_85 ⟨Nat.le_of_ble_eq_true rfl, Nat.le_of_ble_eq_true rfl⟩ (fun u_238 H locs hw hP hD hS => ?_)
            obtain ⟨n_235, n_236⟩ := u_238
            try dsimp only at hw
            obtain ⟨he_n_235, he_n_236, hw⟩ := hw
            have hr_n_235 := hw
            refine lv_aload_n hx hb dX12_readWhen_88 rfl (lv_at hl 1 rfl) ?_
            refine va_get (D := G) (ci := 12) (v := .ref a_c) (C := RX12) (T := TX12) (N := 65) hx hb hts inT12 hown hK hP 3 rfl rfl 20 (by decide) (hts _ tw_1905) (fun _ h9 => h9) rfl dX12_readWhen_89 ?_
            refine lv_iload_n hx hb dX12_readWhen_92 rfl (lv_at hl 2 rfl) ?_
            refine lv_iconst (v := 2) hx hb dX12_readWhen_93 (by decide) ?_
            refine lv_iadd hx hb dX12_readWhen_94 ?_
            refine lv_topi (fun x_239 he_x_239 => ?_)
            have hq_x_239 := z_addq he_x_239 (rfl : w.toInt = _) hk_2 (by omega) (by omega)
            refine lv_iload_n hx hb dX12_readWhen_95 rfl (lv_at hl 0 rfl) ?_
            refine z_iast hx hb hK hP hD hS 1 0 rfl rfl (z_inN (by omega) (by omega)) dX12_readWhen_96 (fun g_240 hg_g_240 H locs hP hD hS => ?_)
            have hC_g_240 := z_ctUs hC_g_90 hg_g_240 (a := 1643) (b := 1817) (M := 6) (q := 5) (lo := (-2147483648)) (hi := 2147483647) (by decide +kernel) (by decide +kernel) (by omega) (by omega) (by omega) (z_full _)
            refine lv_aload_n hx hb dX12_readWhen_97 rfl (lv_at hl 1 rfl) ?_
            refine va_get (D := G) (ci := 12) (v := .ref a_c) (C := RX12) (T := TX12) (N := 65) hx hb hts inT12 hown hK hP 3 rfl rfl 20 (by decide) (hts _ tw_1905) (fun _ h9 => h9) rfl dX12_readWhen_98 ?_
            refine lv_iload_n hx hb dX12_readWhen_101 rfl (lv_at hl 2 rfl) ?_
            refine lv_iconst (v := 3) hx hb dX12_readWhen_102 (by decide) ?_
            refine lv_iadd hx hb dX12_readWhen_103 ?_
            refine lv_topi (fun x_241 he_x_241 => ?_)
            have hq_x_241 := z_addq he_x_241 (rfl : w.toInt = _) hk_3 (by omega) (by omega)
            refine lv_aload_n hx hb dX12_readWhen_104 rfl (lv_at hl 1 rfl) ?_
            refine lv_iconst (v := 0) hx hb dX12_readWhen_105 (by decide) ?_
            refine lv_iconst (v := 3) hx hb dX12_readWhen_106 (by decide) ?_
            refine z_callVi (As := [.int 0, .int 3]) (rest := [.int x_241, .ref a_c]) (wr := [(a_c, .inl (cA.1 0, 1825, .inl g_240)), (a_words, .inl (cA.1 1, 105, .inr (.inl g_words)))]) ⟨hx, hb, hml, hown, hts⟩ hK hE hT hP hD hS hA (r_count l G cA h0 m_status m_thrown m_above m_under a_traySort a_trayMany a_numbers a_tape m_taped m_textEnd m_faultKind m_faultAt n_235 n_236 n_77 n_78 n_79 n_80 n_81 n_82 a_c a_words m_markMany a_there a_tried a_best a_found m_thereMany m_foundMany m_orderHow m_orderRing m_orderMany m_hasBest m_bestTop m_bestBy a_weights a_shared m_random m_truePlace m_trueWay m_seconds m_done m_feelings m_tries m_leftOver m_playDoor m_playRing m_isOpen m_isOver m_wasTried m_hasPlayed a_feltNow a_last a_kept m_hasSeconds m_hasTurned m_hasRound a_hasFeels a_isOn m_firstAct m_meanTop m_meanBy a_order m_rowMany m_newSteps g_tape 0 3 (by decide +kernel) (by decide +kernel) hr_m_textEnd hr_n_78 hr_n_79 (z_rgw hr_n_235 (by decide) (by decide)) hr_n_77 hr_n_80 hr_n_81) lk_RX12_214 ⟨rfl, rfl⟩ ⟨Nat.le_of_ble_eq_true rfl, Nat.le_of_ble_eq_true rfl⟩ 12 rfl rfl rfl [3, 0] [1, 2] rfl rfl (by decide) rfl hl.1 rfl (lv_room (Nat.le_of_ble_eq_true rfl)) dX12_readWhen_107 ⟨Nat.le_of_ble_eq_true rfl, Nat.le_of_ble_eq_true rfl⟩ (fun r_250 u_251 H locs hw hP hD hS => ?_)
            obtain ⟨n_242, n_243, n_244, n_245, n_246, n_247, n_248, n_249⟩ := u_251
            try dsimp only at hw
            obtain ⟨he_r_250, he_n_242, he_n_243, he_n_244, he_n_245, he_n_246, he_n_247, he_n_248, he_n_249, hw⟩ := hw
            obtain ⟨hr_r_250, hr_n_242, hr_n_244, hr_n_245, hr_n_246, hr_n_247, hr_n_248, hf_252, hf_253, hf_254, hf_255, hf_256, hf_257⟩ := hw
            refine z_iast hx hb hK hP hD hS 0 0 rfl rfl (z_inN (by omega) (by omega)) dX12_readWhen_110 (fun g_258 hg_g_258 H locs hP hD hS => ?_)
            have hC_g_258 := z_ctUs hC_g_240 hg_g_258 (a := 1644) (b := 1818) (M := 6) (q := 0) (lo := (-2147483648)) (hi := 2147483647) (by decide +kernel) (by decide +kernel) (by omega) (by omega) (by omega) (z_full _)
            refine lv_goto (tgt := 167) hx hb dX12_readWhen_111 (by decide) ?_
            have hpost : (0 ≤ n_242.toInt ∧ n_242.toInt ≤ 9) ∧ (0 ≤ n_244.toInt ∧ n_244.toInt ≤ 4) ∧ (0 ≤ n_245.toInt ∧ n_245.toInt ≤ 900) ∧ (0 ≤ n_246.toInt ∧ n_246.toInt ≤ 900) ∧ (0 ≤ n_247.toInt ∧ n_247.toInt ≤ 9999) ∧ (0 ≤ n_248.toInt ∧ n_248.toInt ≤ 900) ∧ (zC g_258) ∧ (m_behind.toInt ≤ n_246.toInt) ∧ (0 < m_bad.toInt → 0 < n_242.toInt) ∧ (n_242.toInt ≤ 0 → n_244.toInt = 0 ∨ m_behind.toInt < n_246.toInt) := ⟨hr_n_242, hr_n_244, hr_n_245, hr_n_246, hr_n_247, hr_n_248, hC_g_258, (by omega), (by omega), (by omega)⟩
            exact hret _ _ _ _ _ (n_242, n_243, n_244, n_245, n_246, n_247, n_248, n_249, g_258) [2, 3, 0, 1] hP hD hS rfl (by decide) dX12_readWhen_167 hpost
          · skip
            refine lv_if_eq (tgt := 84) hx hb dX12_readWhen_77 (by decide) (fun h9 => absurd h9 (by decide +kernel)) (fun _ => ?_)
            refine lv_iconst (v := 1) hx hb dX12_readWhen_80 (by decide) ?_
            refine lv_goto (tgt := 85) hx hb dX12_readWhen_81 (by decide) ?_
            refine z_callVv (As := [.int 1]) (rest := []) (wr := [(a_c, .inl (cA.1 0, 1825, .inl g_90)), (a_words, .inl (cA.1 1, 105, .inr (.inl g_words)))]) ⟨hx, hb, hml, hown, hts⟩ hK hE hT hP hD hS hA (r_must_1 l G cA h0 m_status m_thrown m_above m_under a_traySort a_trayMany a_numbers a_tape m_taped m_textEnd m_faultKind m_faultAt n_83 n_84 n_77 n_78 n_79 n_80 n_81 n_82 a_c a_words m_markMany a_there a_tried a_best a_found m_thereMany m_foundMany m_orderHow m_orderRing m_orderMany m_hasBest m_bestTop m_bestBy a_weights a_shared m_random m_truePlace m_trueWay m_seconds m_done m_feelings m_tries m_leftOver m_playDoor m_playRing m_isOpen m_isOver m_wasTried m_hasPlayed a_feltNow a_last a_kept m_hasSeconds m_hasTurned m_hasRound a_hasFeels a_isOn m_firstAct m_meanTop m_meanBy a_order m_rowMany m_newSteps g_tape hr_m_textEnd hr_n_78 hr_n_79 hr_n_83 hr_n_77 hr_n_80 hr_n_81) lk_RX12_210 ⟨rfl, rfl⟩ ⟨Nat.le_of_ble_eq_true rfl, Nat.le_of_ble_eq_true rfl⟩ 12 rfl rfl rfl [3, 0] [1, 2] rfl rfl (by decide) rfl hl.1 rfl (lv_room (Nat.le_of_ble_eq_true rfl)) dX12_readWhen_85 ⟨Nat.le_of_ble_eq_true rfl, Nat.le_of_ble_eq_true rfl⟩ (fun u_266 H locs hw hP hD hS => ?_)
            obtain ⟨n_259, n_260, n_261, n_262, n_263, n_264⟩ := u_266
            try dsimp only at hw
            obtain ⟨he_n_259, he_n_260, he_n_261, he_n_262, he_n_263, he_n_264, hw⟩ := hw
            obtain ⟨hr_n_259, hr_n_260, hr_n_261, hr_n_262, hr_n_263, hf_267, hf_268, hf_269⟩ := hw
            refine lv_aload_n hx hb dX12_readWhen_88 rfl (lv_at hl 1 rfl) ?_
            refine va_get (D := G) (ci := 12) (v := .ref a_c) (C := RX12) (T := TX12) (N := 65) hx hb hts inT12 hown hK hP 2 rfl rfl 20 (by decide) (hts _ tw_1905) (fun _ h9 => h9) rfl dX12_readWhen_89 ?_
            refine lv_iload_n hx hb dX12_readWhen_92 rfl (lv_at hl 2 rfl) ?_
            refine lv_iconst (v := 2) hx hb dX12_readWhen_93 (by decide) ?_
            refine lv_iadd hx hb dX12_readWhen_94 ?_
            refine lv_topi (fun x_270 he_x_270 => ?_)
            have hq_x_270 := z_addq he_x_270 (rfl : w.toInt = _) hk_2 (by omega) (by omega)
            refine lv_iload_n hx hb dX12_readWhen_95 rfl (lv_at hl 0 rfl) ?_
            refine z_iast hx hb hK hP hD hS 0 0 rfl rfl (z_inN (by omega) (by omega)) dX12_readWhen_96 (fun g_271 hg_g_271 H locs hP hD hS => ?_)
            have hC_g_271 := z_ctUs hC_g_90 hg_g_271 (a := 1643) (b := 1817) (M := 6) (q := 5) (lo := (-2147483648)) (hi := 2147483647) (by decide +kernel) (by decide +kernel) (by omega) (by omega) (by omega) (z_full _)
            refine lv_aload_n hx hb dX12_readWhen_97 rfl (lv_at hl 1 rfl) ?_
            refine va_get (D := G) (ci := 12) (v := .ref a_c) (C := RX12) (T := TX12) (N := 65) hx hb hts inT12 hown hK hP 2 rfl rfl 20 (by decide) (hts _ tw_1905) (fun _ h9 => h9) rfl dX12_readWhen_98 ?_
            refine lv_iload_n hx hb dX12_readWhen_101 rfl (lv_at hl 2 rfl) ?_
            refine lv_iconst (v := 3) hx hb dX12_readWhen_102 (by decide) ?_
            refine lv_iadd hx hb dX12_readWhen_103 ?_
            refine lv_topi (fun x_272 he_x_272 => ?_)
            have hq_x_272 := z_addq he_x_272 (rfl : w.toInt = _) hk_3 (by omega) (by omega)
            refine lv_aload_n hx hb dX12_readWhen_104 rfl (lv_at hl 1 rfl) ?_
            refine lv_iconst (v := 0) hx hb dX12_readWhen_105 (by decide) ?_
            refine lv_iconst (v := 3) hx hb dX12_readWhen_106 (by decide) ?_
            refine z_callVi (As := [.int 0, .int 3]) (rest := [.int x_272, .ref a_c]) (wr := [(a_c, .inl (cA.1 0, 1825, .inl g_271)), (a_words, .inl (cA.1 1, 105, .inr (.inl g_words)))]) ⟨hx, hb, hml, hown, hts⟩ hK hE hT hP hD hS hA (r_count l G cA h0 m_status m_thrown m_above m_under a_traySort a_trayMany a_numbers a_tape m_taped m_textEnd m_faultKind m_faultAt n_83 n_84 n_259 n_260 n_261 n_262 n_263 n_264 a_c a_words m_markMany a_there a_tried a_best a_found m_thereMany m_foundMany m_orderHow m_orderRing m_orderMany m_hasBest m_bestTop m_bestBy a_weights a_shared m_random m_truePlace m_trueWay m_seconds m_done m_feelings m_tries m_leftOver m_playDoor m_playRing m_isOpen m_isOver m_wasTried m_hasPlayed a_feltNow a_last a_kept m_hasSeconds m_hasTurned m_hasRound a_hasFeels a_isOn m_firstAct m_meanTop m_meanBy a_order m_rowMany m_newSteps g_tape 0 3 (by decide +kernel) (by decide +kernel) hr_m_textEnd hr_n_260 hr_n_261 hr_n_83 hr_n_259 hr_n_262 hr_n_263) lk_RX12_214 ⟨rfl, rfl⟩ ⟨Nat.le_of_ble_eq_true rfl, Nat.le_of_ble_eq_true rfl⟩ 12 rfl rfl rfl [2, 3] [0, 1] rfl rfl (by decide) rfl hl.1 rfl (lv_room (Nat.le_of_ble_eq_true rfl)) dX12_readWhen_107 ⟨Nat.le_of_ble_eq_true rfl, Nat.le_of_ble_eq_true rfl⟩ (fun r_281 u_282 H locs hw hP hD hS => ?_)
            obtain ⟨n_273, n_274, n_275, n_276, n_277, n_278, n_279, n_280⟩ := u_282
            try dsimp only at hw
            obtain ⟨he_r_281, he_n_273, he_n_274, he_n_275, he_n_276, he_n_277, he_n_278, he_n_279, he_n_280, hw⟩ := hw
            obtain ⟨hr_r_281, hr_n_273, hr_n_275, hr_n_276, hr_n_277, hr_n_278, hr_n_279, hf_283, hf_284, hf_285, hf_286, hf_287, hf_288⟩ := hw
            refine z_iast hx hb hK hP hD hS 0 0 rfl rfl (z_inN (by omega) (by omega)) dX12_readWhen_110 (fun g_289 hg_g_289 H locs hP hD hS => ?_)
            have hC_g_289 := z_ctUs hC_g_271 hg_g_289 (a := 1644) (b := 1818) (M := 6) (q := 0) (lo := (-2147483648)) (hi := 2147483647) (by decide +kernel) (by decide +kernel) (by omega) (by omega) (by omega) (z_full _)
            refine lv_goto (tgt := 167) hx hb dX12_readWhen_111 (by decide) ?_
            have hpost : (0 ≤ n_273.toInt ∧ n_273.toInt ≤ 9) ∧ (0 ≤ n_275.toInt ∧ n_275.toInt ≤ 4) ∧ (0 ≤ n_276.toInt ∧ n_276.toInt ≤ 900) ∧ (0 ≤ n_277.toInt ∧ n_277.toInt ≤ 900) ∧ (0 ≤ n_278.toInt ∧ n_278.toInt ≤ 9999) ∧ (0 ≤ n_279.toInt ∧ n_279.toInt ≤ 900) ∧ (zC g_289) ∧ (m_behind.toInt ≤ n_277.toInt) ∧ (0 < m_bad.toInt → 0 < n_273.toInt) ∧ (n_273.toInt ≤ 0 → n_275.toInt = 0 ∨ m_behind.toInt < n_277.toInt) := ⟨hr_n_273, hr_n_275, hr_n_276, hr_n_277, hr_n_278, hr_n_279, hC_g_289, (by omega), (by omega), (by omega)⟩
            exact hret _ _ _ _ _ (n_273, n_274, n_275, n_276, n_277, n_278, n_279, n_280, g_289) [2, 3, 0, 1] hP hD hS rfl (by decide) dX12_readWhen_167 hpost
        · skip
          refine lv_if_ne (tgt := 80) hx hb dX12_readWhen_68 (by decide) (fun _ => ?_) (fun h9 => absurd h9 (by decide +kernel))
          refine lv_iconst (v := 1) hx hb dX12_readWhen_80 (by decide) ?_
          refine lv_goto (tgt := 85) hx hb dX12_readWhen_81 (by decide) ?_
          refine z_callVv (As := [.int 1]) (rest := []) (wr := [(a_c, .inl (cA.1 0, 1825, .inl g_90)), (a_words, .inl (cA.1 1, 105, .inr (.inl g_words)))]) ⟨hx, hb, hml, hown, hts⟩ hK hE hT hP hD hS hA (r_must_1 l G cA h0 m_status m_thrown m_above m_under a_traySort a_trayMany a_numbers a_tape m_taped m_textEnd m_faultKind m_faultAt n_83 n_84 n_77 n_78 n_79 n_80 n_81 n_82 a_c a_words m_markMany a_there a_tried a_best a_found m_thereMany m_foundMany m_orderHow m_orderRing m_orderMany m_hasBest m_bestTop m_bestBy a_weights a_shared m_random m_truePlace m_trueWay m_seconds m_done m_feelings m_tries m_leftOver m_playDoor m_playRing m_isOpen m_isOver m_wasTried m_hasPlayed a_feltNow a_last a_kept m_hasSeconds m_hasTurned m_hasRound a_hasFeels a_isOn m_firstAct m_meanTop m_meanBy a_order m_rowMany m_newSteps g_tape hr_m_textEnd hr_n_78 hr_n_79 hr_n_83 hr_n_77 hr_n_80 hr_n_81) lk_RX12_210 ⟨rfl, rfl⟩ ⟨Nat.le_of_ble_eq_true rfl, Nat.le_of_ble_eq_true rfl⟩ 12 rfl rfl rfl [3, 0] [1, 2] rfl rfl (by decide) rfl hl.1 rfl (lv_room (Nat.le_of_ble_eq_true rfl)) dX12_readWhen_85 ⟨Nat.le_of_ble_eq_true rfl, Nat.le_of_ble_eq_true rfl⟩ (fun u_297 H locs hw hP hD hS => ?_)
          obtain ⟨n_290, n_291, n_292, n_293, n_294, n_295⟩ := u_297
          try dsimp only at hw
          obtain ⟨he_n_290, he_n_291, he_n_292, he_n_293, he_n_294, he_n_295, hw⟩ := hw
          obtain ⟨hr_n_290, hr_n_291, hr_n_292, hr_n_293, hr_n_294, hf_298, hf_299, hf_300⟩ := hw
          refine lv_aload_n hx hb dX12_readWhen_88 rfl (lv_at hl 1 rfl) ?_
          refine va_get (D := G) (ci := 12) (v := .ref a_c) (C := RX12) (T := TX12) (N := 65) hx hb hts inT12 hown hK hP 2 rfl rfl 20 (by decide) (hts _ tw_1905) (fun _ h9 => h9) rfl dX12_readWhen_89 ?_
          refine lv_iload_n hx hb dX12_readWhen_92 rfl (lv_at hl 2 rfl) ?_
          refine lv_iconst (v := 2) hx hb dX12_readWhen_93 (by decide) ?_
          refine lv_iadd hx hb dX12_readWhen_94 ?_
          refine lv_topi (fun x_301 he_x_301 => ?_)
          have hq_x_301 := z_addq he_x_301 (rfl : w.toInt = _) hk_2 (by omega) (by omega)
          refine lv_iload_n hx hb dX12_readWhen_95 rfl (lv_at hl 0 rfl) ?_
          refine z_iast hx hb hK hP hD hS 0 0 rfl rfl (z_inN (by omega) (by omega)) dX12_readWhen_96 (fun g_302 hg_g_302 H locs hP hD hS => ?_)
          have hC_g_302 := z_ctUs hC_g_90 hg_g_302 (a := 1643) (b := 1817) (M := 6) (q := 5) (lo := (-2147483648)) (hi := 2147483647) (by decide +kernel) (by decide +kernel) (by omega) (by omega) (by omega) (z_full _)
          refine lv_aload_n hx hb dX12_readWhen_97 rfl (lv_at hl 1 rfl) ?_
          refine va_get (D := G) (ci := 12) (v := .ref a_c) (C := RX12) (T := TX12) (N := 65) hx hb hts inT12 hown hK hP 2 rfl rfl 20 (by decide) (hts _ tw_1905) (fun _ h9 => h9) rfl dX12_readWhen_98 ?_
          refine lv_iload_n hx hb dX12_readWhen_101 rfl (lv_at hl 2 rfl) ?_
          refine lv_iconst (v := 3) hx hb dX12_readWhen_102 (by decide) ?_
          refine lv_iadd hx hb dX12_readWhen_103 ?_
          refine lv_topi (fun x_303 he_x_303 => ?_)
          have hq_x_303 := z_addq he_x_303 (rfl : w.toInt = _) hk_3 (by omega) (by omega)
          refine lv_aload_n hx hb dX12_readWhen_104 rfl (lv_at hl 1 rfl) ?_
          refine lv_iconst (v := 0) hx hb dX12_readWhen_105 (by decide) ?_
          refine lv_iconst (v := 3) hx hb dX12_readWhen_106 (by decide) ?_
          refine z_callVi (As := [.int 0, .int 3]) (rest := [.int x_303, .ref a_c]) (wr := [(a_c, .inl (cA.1 0, 1825, .inl g_302)), (a_words, .inl (cA.1 1, 105, .inr (.inl g_words)))]) ⟨hx, hb, hml, hown, hts⟩ hK hE hT hP hD hS hA (r_count l G cA h0 m_status m_thrown m_above m_under a_traySort a_trayMany a_numbers a_tape m_taped m_textEnd m_faultKind m_faultAt n_83 n_84 n_290 n_291 n_292 n_293 n_294 n_295 a_c a_words m_markMany a_there a_tried a_best a_found m_thereMany m_foundMany m_orderHow m_orderRing m_orderMany m_hasBest m_bestTop m_bestBy a_weights a_shared m_random m_truePlace m_trueWay m_seconds m_done m_feelings m_tries m_leftOver m_playDoor m_playRing m_isOpen m_isOver m_wasTried m_hasPlayed a_feltNow a_last a_kept m_hasSeconds m_hasTurned m_hasRound a_hasFeels a_isOn m_firstAct m_meanTop m_meanBy a_order m_rowMany m_newSteps g_tape 0 3 (by decide +kernel) (by decide +kernel) hr_m_textEnd hr_n_291 hr_n_292 hr_n_83 hr_n_290 hr_n_293 hr_n_294) lk_RX12_214 ⟨rfl, rfl⟩ ⟨Nat.le_of_ble_eq_true rfl, Nat.le_of_ble_eq_true rfl⟩ 12 rfl rfl rfl [2, 3] [0, 1] rfl rfl (by decide) rfl hl.1 rfl (lv_room (Nat.le_of_ble_eq_true rfl)) dX12_readWhen_107 ⟨Nat.le_of_ble_eq_true rfl, Nat.le_of_ble_eq_true rfl⟩ (fun r_312 u_313 H locs hw hP hD hS => ?_)
          obtain ⟨n_304, n_305, n_306, n_307, n_308, n_309, n_310, n_311⟩ := u_313
          try dsimp only at hw
          obtain ⟨he_r_312, he_n_304, he_n_305, he_n_306, he_n_307, he_n_308, he_n_309, he_n_310, he_n_311, hw⟩ := hw
          obtain ⟨hr_r_312, hr_n_304, hr_n_306, hr_n_307, hr_n_308, hr_n_309, hr_n_310, hf_314, hf_315, hf_316, hf_317, hf_318, hf_319⟩ := hw
          refine z_iast hx hb hK hP hD hS 0 0 rfl rfl (z_inN (by omega) (by omega)) dX12_readWhen_110 (fun g_320 hg_g_320 H locs hP hD hS => ?_)
          have hC_g_320 := z_ctUs hC_g_302 hg_g_320 (a := 1644) (b := 1818) (M := 6) (q := 0) (lo := (-2147483648)) (hi := 2147483647) (by decide +kernel) (by decide +kernel) (by omega) (by omega) (by omega) (z_full _)
          refine lv_goto (tgt := 167) hx hb dX12_readWhen_111 (by decide) ?_
          have hpost : (0 ≤ n_304.toInt ∧ n_304.toInt ≤ 9) ∧ (0 ≤ n_306.toInt ∧ n_306.toInt ≤ 4) ∧ (0 ≤ n_307.toInt ∧ n_307.toInt ≤ 900) ∧ (0 ≤ n_308.toInt ∧ n_308.toInt ≤ 900) ∧ (0 ≤ n_309.toInt ∧ n_309.toInt ≤ 9999) ∧ (0 ≤ n_310.toInt ∧ n_310.toInt ≤ 900) ∧ (zC g_320) ∧ (m_behind.toInt ≤ n_308.toInt) ∧ (0 < m_bad.toInt → 0 < n_304.toInt) ∧ (n_304.toInt ≤ 0 → n_306.toInt = 0 ∨ m_behind.toInt < n_308.toInt) := ⟨hr_n_304, hr_n_306, hr_n_307, hr_n_308, hr_n_309, hr_n_310, hC_g_320, (by omega), (by omega), (by omega)⟩
          exact hret _ _ _ _ _ (n_304, n_305, n_306, n_307, n_308, n_309, n_310, n_311, g_320) [2, 3, 0, 1] hP hD hS rfl (by decide) dX12_readWhen_167 hpost
      · skip
        refine lv_if_ne (tgt := 80) hx hb dX12_readWhen_59 (by decide) (fun _ => ?_) (fun h9 => absurd h9 (by decide +kernel))
        refine lv_iconst (v := 1) hx hb dX12_readWhen_80 (by decide) ?_
        refine lv_goto (tgt := 85) hx hb dX12_readWhen_81 (by decide) ?_
        refine z_callVv (As := [.int 1]) (rest := []) (wr := [(a_c, .inl (cA.1 0, 1825, .inl g_90)), (a_words, .inl (cA.1 1, 105, .inr (.inl g_words)))]) ⟨hx, hb, hml, hown, hts⟩ hK hE hT hP hD hS hA (r_must_1 l G cA h0 m_status m_thrown m_above m_under a_traySort a_trayMany a_numbers a_tape m_taped m_textEnd m_faultKind m_faultAt n_83 n_84 n_77 n_78 n_79 n_80 n_81 n_82 a_c a_words m_markMany a_there a_tried a_best a_found m_thereMany m_foundMany m_orderHow m_orderRing m_orderMany m_hasBest m_bestTop m_bestBy a_weights a_shared m_random m_truePlace m_trueWay m_seconds m_done m_feelings m_tries m_leftOver m_playDoor m_playRing m_isOpen m_isOver m_wasTried m_hasPlayed a_feltNow a_last a_kept m_hasSeconds m_hasTurned m_hasRound a_hasFeels a_isOn m_firstAct m_meanTop m_meanBy a_order m_rowMany m_newSteps g_tape hr_m_textEnd hr_n_78 hr_n_79 hr_n_83 hr_n_77 hr_n_80 hr_n_81) lk_RX12_210 ⟨rfl, rfl⟩ ⟨Nat.le_of_ble_eq_true rfl, Nat.le_of_ble_eq_true rfl⟩ 12 rfl rfl rfl [3, 0] [1, 2] rfl rfl (by decide) rfl hl.1 rfl (lv_room (Nat.le_of_ble_eq_true rfl)) dX12_readWhen_85 ⟨Nat.le_of_ble_eq_true rfl, Nat.le_of_ble_eq_true rfl⟩ (fun u_328 H locs hw hP hD hS => ?_)
        obtain ⟨n_321, n_322, n_323, n_324, n_325, n_326⟩ := u_328
        try dsimp only at hw
        obtain ⟨he_n_321, he_n_322, he_n_323, he_n_324, he_n_325, he_n_326, hw⟩ := hw
        obtain ⟨hr_n_321, hr_n_322, hr_n_323, hr_n_324, hr_n_325, hf_329, hf_330, hf_331⟩ := hw
        refine lv_aload_n hx hb dX12_readWhen_88 rfl (lv_at hl 1 rfl) ?_
        refine va_get (D := G) (ci := 12) (v := .ref a_c) (C := RX12) (T := TX12) (N := 65) hx hb hts inT12 hown hK hP 2 rfl rfl 20 (by decide) (hts _ tw_1905) (fun _ h9 => h9) rfl dX12_readWhen_89 ?_
        refine lv_iload_n hx hb dX12_readWhen_92 rfl (lv_at hl 2 rfl) ?_
        refine lv_iconst (v := 2) hx hb dX12_readWhen_93 (by decide) ?_
        refine lv_iadd hx hb dX12_readWhen_94 ?_
        refine lv_topi (fun x_332 he_x_332 => ?_)
        have hq_x_332 := z_addq he_x_332 (rfl : w.toInt = _) hk_2 (by omega) (by omega)
        refine lv_iload_n hx hb dX12_readWhen_95 rfl (lv_at hl 0 rfl) ?_
        refine z_iast hx hb hK hP hD hS 0 0 rfl rfl (z_inN (by omega) (by omega)) dX12_readWhen_96 (fun g_333 hg_g_333 H locs hP hD hS => ?_)
        have hC_g_333 := z_ctUs hC_g_90 hg_g_333 (a := 1643) (b := 1817) (M := 6) (q := 5) (lo := (-2147483648)) (hi := 2147483647) (by decide +kernel) (by decide +kernel) (by omega) (by omega) (by omega) (z_full _)
        refine lv_aload_n hx hb dX12_readWhen_97 rfl (lv_at hl 1 rfl) ?_
        refine va_get (D := G) (ci := 12) (v := .ref a_c) (C := RX12) (T := TX12) (N := 65) hx hb hts inT12 hown hK hP 2 rfl rfl 20 (by decide) (hts _ tw_1905) (fun _ h9 => h9) rfl dX12_readWhen_98 ?_
        refine lv_iload_n hx hb dX12_readWhen_101 rfl (lv_at hl 2 rfl) ?_
        refine lv_iconst (v := 3) hx hb dX12_readWhen_102 (by decide) ?_
        refine lv_iadd hx hb dX12_readWhen_103 ?_
        refine lv_topi (fun x_334 he_x_334 => ?_)
        have hq_x_334 := z_addq he_x_334 (rfl : w.toInt = _) hk_3 (by omega) (by omega)
        refine lv_aload_n hx hb dX12_readWhen_104 rfl (lv_at hl 1 rfl) ?_
        refine lv_iconst (v := 0) hx hb dX12_readWhen_105 (by decide) ?_
        refine lv_iconst (v := 3) hx hb dX12_readWhen_106 (by decide) ?_
        refine z_callVi (As := [.int 0, .int 3]) (rest := [.int x_334, .ref a_c]) (wr := [(a_c, .inl (cA.1 0, 1825, .inl g_333)), (a_words, .inl (cA.1 1, 105, .inr (.inl g_words)))]) ⟨hx, hb, hml, hown, hts⟩ hK hE hT hP hD hS hA (r_count l G cA h0 m_status m_thrown m_above m_under a_traySort a_trayMany a_numbers a_tape m_taped m_textEnd m_faultKind m_faultAt n_83 n_84 n_321 n_322 n_323 n_324 n_325 n_326 a_c a_words m_markMany a_there a_tried a_best a_found m_thereMany m_foundMany m_orderHow m_orderRing m_orderMany m_hasBest m_bestTop m_bestBy a_weights a_shared m_random m_truePlace m_trueWay m_seconds m_done m_feelings m_tries m_leftOver m_playDoor m_playRing m_isOpen m_isOver m_wasTried m_hasPlayed a_feltNow a_last a_kept m_hasSeconds m_hasTurned m_hasRound a_hasFeels a_isOn m_firstAct m_meanTop m_meanBy a_order m_rowMany m_newSteps g_tape 0 3 (by decide +kernel) (by decide +kernel) hr_m_textEnd hr_n_322 hr_n_323 hr_n_83 hr_n_321 hr_n_324 hr_n_325) lk_RX12_214 ⟨rfl, rfl⟩ ⟨Nat.le_of_ble_eq_true rfl, Nat.le_of_ble_eq_true rfl⟩ 12 rfl rfl rfl [2, 3] [0, 1] rfl rfl (by decide) rfl hl.1 rfl (lv_room (Nat.le_of_ble_eq_true rfl)) dX12_readWhen_107 ⟨Nat.le_of_ble_eq_true rfl, Nat.le_of_ble_eq_true rfl⟩ (fun r_343 u_344 H locs hw hP hD hS => ?_)
        obtain ⟨n_335, n_336, n_337, n_338, n_339, n_340, n_341, n_342⟩ := u_344
        try dsimp only at hw
        obtain ⟨he_r_343, he_n_335, he_n_336, he_n_337, he_n_338, he_n_339, he_n_340, he_n_341, he_n_342, hw⟩ := hw
        obtain ⟨hr_r_343, hr_n_335, hr_n_337, hr_n_338, hr_n_339, hr_n_340, hr_n_341, hf_345, hf_346, hf_347, hf_348, hf_349, hf_350⟩ := hw
        refine z_iast hx hb hK hP hD hS 0 0 rfl rfl (z_inN (by omega) (by omega)) dX12_readWhen_110 (fun g_351 hg_g_351 H locs hP hD hS => ?_)
        have hC_g_351 := z_ctUs hC_g_333 hg_g_351 (a := 1644) (b := 1818) (M := 6) (q := 0) (lo := (-2147483648)) (hi := 2147483647) (by decide +kernel) (by decide +kernel) (by omega) (by omega) (by omega) (z_full _)
        refine lv_goto (tgt := 167) hx hb dX12_readWhen_111 (by decide) ?_
        have hpost : (0 ≤ n_335.toInt ∧ n_335.toInt ≤ 9) ∧ (0 ≤ n_337.toInt ∧ n_337.toInt ≤ 4) ∧ (0 ≤ n_338.toInt ∧ n_338.toInt ≤ 900) ∧ (0 ≤ n_339.toInt ∧ n_339.toInt ≤ 900) ∧ (0 ≤ n_340.toInt ∧ n_340.toInt ≤ 9999) ∧ (0 ≤ n_341.toInt ∧ n_341.toInt ≤ 900) ∧ (zC g_351) ∧ (m_behind.toInt ≤ n_339.toInt) ∧ (0 < m_bad.toInt → 0 < n_335.toInt) ∧ (n_335.toInt ≤ 0 → n_337.toInt = 0 ∨ m_behind.toInt < n_339.toInt) := ⟨hr_n_335, hr_n_337, hr_n_338, hr_n_339, hr_n_340, hr_n_341, hC_g_351, (by omega), (by omega), (by omega)⟩
        exact hret _ _ _ _ _ (n_335, n_336, n_337, n_338, n_339, n_340, n_341, n_342, g_351) [2, 3, 0, 1] hP hD hS rfl (by decide) dX12_readWhen_167 hpost
