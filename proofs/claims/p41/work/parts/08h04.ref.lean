set_option maxHeartbeats 4000000 in
set_option maxRecDepth 100000 in
theorem r_many (l : Launch) (G : va_G) (cA : zCA) (h0 : Nat) (m_status : Int32) (m_thrown : Int32) (m_above : Int64) (m_under : Int64) (a_traySort : Nat) (a_trayMany : Nat) (a_numbers : Nat) (a_tape : Nat) (m_taped : Int32) (m_textEnd : Int32) (m_faultKind : Int32) (m_faultAt : Int32) (m_bad : Int32) (m_badAt : Int32) (m_token : Int32) (m_at : Int32) (m_behind : Int32) (m_number : Int32) (m_letters : Int32) (m_word : Int64) (a_c : Nat) (a_words : Nat) (m_markMany : Int32) (a_there : Nat) (a_tried : Nat) (a_best : Nat) (a_found : Nat) (m_thereMany : Int32) (m_foundMany : Int32) (m_orderHow : Int32) (m_orderRing : Int32) (m_orderMany : Int32) (m_hasBest : Int32) (m_bestTop : Int64) (m_bestBy : Int64) (a_weights : Nat) (a_shared : Nat) (m_random : Int32) (m_truePlace : Int32) (m_trueWay : Int32) (m_seconds : Int32) (m_done : Int32) (m_feelings : Int32) (m_tries : Int32) (m_leftOver : Int32) (m_playDoor : Int32) (m_playRing : Int32) (m_isOpen : Int32) (m_isOver : Int32) (m_wasTried : Int32) (m_hasPlayed : Int32) (a_feltNow : Nat) (a_last : Nat) (a_kept : Nat) (m_hasSeconds : Int32) (m_hasTurned : Int32) (m_hasRound : Int32) (a_hasFeels : Nat) (a_isOn : Nat) (m_firstAct : Int32) (m_meanTop : Int64) (m_meanBy : Int64) (a_order : Nat) (m_rowMany : Int32) (m_newSteps : Int32) (g_c : Nat → Int32) (w : Int32) (hC_g_c : zC g_c) : zCi l yX12_many cX12_many 2 (some .int) ({ frames := 1, cells := 0, slots := 0, locals := 25 }) G cA [.ref h0, .int w] [(h0, .inr (12, [.int m_status, .int m_thrown, .long m_above, .long m_under, .ref a_traySort, .ref a_trayMany, .ref a_numbers, .ref a_tape, .int m_taped, .int m_textEnd, .int m_faultKind, .int m_faultAt, .int m_bad, .int m_badAt, .int m_token, .int m_at, .int m_behind, .int m_number, .int m_letters, .long m_word, .ref a_c, .ref a_words, .int m_markMany, .ref a_there, .ref a_tried, .ref a_best, .ref a_found, .int m_thereMany, .int m_foundMany, .int m_orderHow, .int m_orderRing, .int m_orderMany, .int m_hasBest, .long m_bestTop, .long m_bestBy, .ref a_weights, .ref a_shared, .int m_random, .int m_truePlace, .int m_trueWay, .int m_seconds, .int m_done, .int m_feelings, .int m_tries, .int m_leftOver, .int m_playDoor, .int m_playRing, .int m_isOpen, .int m_isOver, .int m_wasTried, .int m_hasPlayed, .ref a_feltNow, .ref a_last, .ref a_kept, .int m_hasSeconds, .int m_hasTurned, .int m_hasRound, .ref a_hasFeels, .ref a_isOn, .int m_firstAct, .long m_meanTop, .long m_meanBy, .ref a_order, .int m_rowMany, .int m_newSteps])), (a_c, .inl (cA.1 0, 1825, .inl g_c))] (S := Int32 × Int32) (fun (r : Int32) (u : Int32 × Int32) => ((-1) ≤ r.toInt ∧ r.toInt ≤ 99) ∧ (0 ≤ u.2.toInt ∧ u.2.toInt ≤ 0)) (fun (u : Int32 × Int32) => [(h0, .inr (12, [.int u.1, .int u.2, .long m_above, .long m_under, .ref a_traySort, .ref a_trayMany, .ref a_numbers, .ref a_tape, .int m_taped, .int m_textEnd, .int m_faultKind, .int m_faultAt, .int m_bad, .int m_badAt, .int m_token, .int m_at, .int m_behind, .int m_number, .int m_letters, .long m_word, .ref a_c, .ref a_words, .int m_markMany, .ref a_there, .ref a_tried, .ref a_best, .ref a_found, .int m_thereMany, .int m_foundMany, .int m_orderHow, .int m_orderRing, .int m_orderMany, .int m_hasBest, .long m_bestTop, .long m_bestBy, .ref a_weights, .ref a_shared, .int m_random, .int m_truePlace, .int m_trueWay, .int m_seconds, .int m_done, .int m_feelings, .int m_tries, .int m_leftOver, .int m_playDoor, .int m_playRing, .int m_isOpen, .int m_isOver, .int m_wasTried, .int m_hasPlayed, .ref a_feltNow, .ref a_last, .ref a_kept, .int m_hasSeconds, .int m_hasTurned, .int m_hasRound, .ref a_hasFeels, .ref a_isOn, .int m_firstAct, .long m_meanTop, .long m_meanBy, .ref a_order, .int m_rowMany, .int m_newSteps])), (a_c, .inl (cA.1 0, 1825, .inl g_c))]) 0 0 := by
  have hk_5 : (5 : Int32).toInt = 5 := by decide +kernel
  have hkl_0 : (0 : Int64).toInt = 0 := by decide +kernel
  have hkl_10 : (10 : Int64).toInt = 10 := by decide +kernel
  refine z_start2i (own := RX12) (by decide) (Nat.le_of_ble_eq_true rfl) rfl ?_
  intro p e s m args below meth c A ls Q hx hb hml hts hown hK hE hT hP hD hS hA hl hret
  have hl : lv_has ls 2 [(0, .ref h0), (1, .int w)] := hl
  refine lv_aload_n hx hb dX12_many_0 rfl (lv_at hl 0 rfl) ?_
  refine lv_iconst (v := 0) hx hb dX12_many_1 (by decide) ?_
  refine va_put (D := G) (ci := 12) (v := .int 0) (ty := .int) (C := RX12) (T := TX12) (N := 65) hx hb hts inT12 tyX12 tyX12_ok nmX12 hown hK hP hD hS 0 rfl rfl 1 (by decide) (hts _ tw_1886) (fun _ h9 => h9) rfl (tyX12_ok 1 (by decide)) rfl rfl (Nat.le_of_ble_eq_true rfl) dX12_many_2 (fun H locs hP hD hS => ?_)
  refine lv_aload_n hx hb dX12_many_5 rfl (lv_at hl 0 rfl) ?_
  refine lv_iconst (v := 0) hx hb dX12_many_6 (by decide) ?_
  refine va_put (D := G) (ci := 12) (v := .int 0) (ty := .int) (C := RX12) (T := TX12) (N := 65) hx hb hts inT12 tyX12 tyX12_ok nmX12 hown hK hP hD hS 0 rfl rfl 0 (by decide) (hts _ tw_1885) (fun _ h9 => h9) rfl (tyX12_ok 0 (by decide)) rfl rfl (Nat.le_of_ble_eq_true rfl) dX12_many_7 (fun H locs hP hD hS => ?_)
  refine lv_iload_n hx hb dX12_many_10 rfl (lv_at hl 1 rfl) ?_
  refine lv_i2l (v := (w).toInt64) hx hb dX12_many_11 rfl ?_
  refine lv_topl (fun x_1 he_x_1 => ?_)
  have hq_x_1 := z_i2l he_x_1
  have hL_w := z_full w
  refine lv_lconst (v := 0) hx hb dX12_many_12 (by decide) ?_
  refine lv_ldc2 (v := 10) hx hb hown (hts _ tw_2259) dX12_many_13 ?_
  refine z_callSi (As := [.long x_1, .long 0, .long 10]) (rest := []) (wr := [(h0, .inr (12, [.int 0, .int 0, .long m_above, .long m_under, .ref a_traySort, .ref a_trayMany, .ref a_numbers, .ref a_tape, .int m_taped, .int m_textEnd, .int m_faultKind, .int m_faultAt, .int m_bad, .int m_badAt, .int m_token, .int m_at, .int m_behind, .int m_number, .int m_letters, .long m_word, .ref a_c, .ref a_words, .int m_markMany, .ref a_there, .ref a_tried, .ref a_best, .ref a_found, .int m_thereMany, .int m_foundMany, .int m_orderHow, .int m_orderRing, .int m_orderMany, .int m_hasBest, .long m_bestTop, .long m_bestBy, .ref a_weights, .ref a_shared, .int m_random, .int m_truePlace, .int m_trueWay, .int m_seconds, .int m_done, .int m_feelings, .int m_tries, .int m_leftOver, .int m_playDoor, .int m_playRing, .int m_isOpen, .int m_isOver, .int m_wasTried, .int m_hasPlayed, .ref a_feltNow, .ref a_last, .ref a_kept, .int m_hasSeconds, .int m_hasTurned, .int m_hasRound, .ref a_hasFeels, .ref a_isOn, .int m_firstAct, .long m_meanTop, .long m_meanBy, .ref a_order, .int m_rowMany, .int m_newSteps])), (a_c, .inl (cA.1 0, 1825, .inl g_c))]) ⟨hx, hb, hml, hown, hts⟩ hK hE hT hP hD hS hA (r_isIn l G cA x_1 0 10) lk_RX12_117 ⟨rfl, rfl⟩ ⟨Nat.le_of_ble_eq_true rfl, Nat.le_of_ble_eq_true rfl⟩ [] [0, 1] rfl rfl (by decide) rfl hl.1 rfl (lv_room (Nat.le_of_ble_eq_true rfl)) dX12_many_16 ⟨Nat.le_of_ble_eq_true rfl, Nat.le_of_ble_eq_true rfl⟩ (fun r_2 u_3 H locs hw hP hD hS => ?_)
  obtain ⟨he_r_2, hw⟩ := hw
  rcases hw with ⟨rfl, hf_4⟩ | ⟨rfl, hf_5⟩
  · skip
    refine lv_if_eq (tgt := 31) hx hb dX12_many_19 (by decide) (fun _ => ?_) (fun h9 => absurd (by decide +kernel) h9)
    refine lv_aload_n hx hb dX12_many_31 rfl (lv_at hl 0 rfl) ?_
    refine lv_iconst (v := 5) hx hb dX12_many_32 (by decide) ?_
    refine z_callVi (As := [.int 5]) (rest := []) (wr := [(a_c, .inl (cA.1 0, 1825, .inl g_c))]) ⟨hx, hb, hml, hown, hts⟩ hK hE hT hP hD hS hA (r_refuse l G cA h0 0 0 m_above m_under a_traySort a_trayMany a_numbers a_tape m_taped m_textEnd m_faultKind m_faultAt m_bad m_badAt m_token m_at m_behind m_number m_letters m_word a_c a_words m_markMany a_there a_tried a_best a_found m_thereMany m_foundMany m_orderHow m_orderRing m_orderMany m_hasBest m_bestTop m_bestBy a_weights a_shared m_random m_truePlace m_trueWay m_seconds m_done m_feelings m_tries m_leftOver m_playDoor m_playRing m_isOpen m_isOver m_wasTried m_hasPlayed a_feltNow a_last a_kept m_hasSeconds m_hasTurned m_hasRound a_hasFeels a_isOn m_firstAct m_meanTop m_meanBy a_order m_rowMany m_newSteps 5) lk_RX12_269 ⟨rfl, rfl⟩ ⟨Nat.le_of_ble_eq_true rfl, Nat.le_of_ble_eq_true rfl⟩ 12 rfl rfl rfl [0] [1] rfl rfl (by decide) rfl hl.1 rfl (lv_room (Nat.le_of_ble_eq_true rfl)) dX12_many_33 ⟨Nat.le_of_ble_eq_true rfl, Nat.le_of_ble_eq_true rfl⟩ (fun r_7 u_8 H locs hw hP hD hS => ?_)
    obtain ⟨n_6, rfl⟩ : ∃ z, z = u_8 := ⟨_, rfl⟩
    obtain ⟨he_r_7, he_n_6, hw⟩ := hw
    have hr_r_7 := hw
    have hpost : ((-1) ≤ r_7.toInt ∧ r_7.toInt ≤ 99) ∧ (0 ≤ (0 : Int32).toInt ∧ (0 : Int32).toInt ≤ 0) := ⟨(z_rgw hr_r_7 (by decide) (by decide)), (by decide +kernel)⟩
    exact hret _ _ _ _ _ _ (n_6, 0) [1, 0] hP hD hS rfl (by decide) dX12_many_36 hpost
  · skip
    refine lv_if_eq (tgt := 31) hx hb dX12_many_19 (by decide) (fun h9 => absurd h9 (by decide +kernel)) (fun _ => ?_)
    refine lv_aload_n hx hb dX12_many_22 rfl (lv_at hl 0 rfl) ?_
    refine va_get (D := G) (ci := 12) (v := .ref a_c) (C := RX12) (T := TX12) (N := 65) hx hb hts inT12 hown hK hP 0 rfl rfl 20 (by decide) (hts _ tw_1905) (fun _ h9 => h9) rfl dX12_many_23 ?_
    refine lv_iload_n hx hb dX12_many_26 rfl (lv_at hl 1 rfl) ?_
    refine va_iald hx hb hK hP 1 0 rfl rfl (z_inN (by omega) (by omega)) dX12_many_27 ?_
    refine lv_topi (fun x_9 he_x_9 => ?_)
    have hr_x_9 := z_ct hC_g_c he_x_9 (a := 0) (b := 10) (lo := (-1)) (hi := 99) (by decide +kernel) (by decide) (by omega) (by omega)
    refine lv_goto (tgt := 36) hx hb dX12_many_28 (by decide) ?_
    have hpost : ((-1) ≤ x_9.toInt ∧ x_9.toInt ≤ 99) ∧ (0 ≤ (0 : Int32).toInt ∧ (0 : Int32).toInt ≤ 0) := ⟨hr_x_9, (by decide +kernel)⟩
    exact hret _ _ _ _ _ _ (0, 0) [0, 1] hP hD hS rfl (by decide) dX12_many_36 hpost
set_option maxHeartbeats 40000000 in
set_option maxRecDepth 100000 in
theorem r_feature (l : Launch) (G : va_G) (cA : zCA) (h0 : Nat) (m_status : Int32) (m_thrown : Int32) (m_above : Int64) (m_under : Int64) (a_traySort : Nat) (a_trayMany : Nat) (a_numbers : Nat) (a_tape : Nat) (m_taped : Int32) (m_textEnd : Int32) (m_faultKind : Int32) (m_faultAt : Int32) (m_bad : Int32) (m_badAt : Int32) (m_token : Int32) (m_at : Int32) (m_behind : Int32) (m_number : Int32) (m_letters : Int32) (m_word : Int64) (a_c : Nat) (a_words : Nat) (m_markMany : Int32) (a_there : Nat) (a_tried : Nat) (a_best : Nat) (a_found : Nat) (m_thereMany : Int32) (m_foundMany : Int32) (m_orderHow : Int32) (m_orderRing : Int32) (m_orderMany : Int32) (m_hasBest : Int32) (m_bestTop : Int64) (m_bestBy : Int64) (a_weights : Nat) (a_shared : Nat) (m_random : Int32) (m_truePlace : Int32) (m_trueWay : Int32) (m_seconds : Int32) (m_done : Int32) (m_feelings : Int32) (m_tries : Int32) (m_leftOver : Int32) (m_playDoor : Int32) (m_playRing : Int32) (m_isOpen : Int32) (m_isOver : Int32) (m_wasTried : Int32) (m_hasPlayed : Int32) (a_feltNow : Nat) (a_last : Nat) (a_kept : Nat) (m_hasSeconds : Int32) (m_hasTurned : Int32) (m_hasRound : Int32) (a_hasFeels : Nat) (a_isOn : Nat) (m_firstAct : Int32) (m_meanTop : Int64) (m_meanBy : Int64) (a_order : Nat) (m_rowMany : Int32) (m_newSteps : Int32) (g_c : Nat → Int32) (f : Int32) (w : Int32) (hC_g_c : zC g_c) : zCi l yX12_feature cX12_feature 3 (some .int) ({ frames := 2, cells := 0, slots := 0, locals := 46 }) G cA [.ref h0, .int f, .int w] [(h0, .inr (12, [.int m_status, .int m_thrown, .long m_above, .long m_under, .ref a_traySort, .ref a_trayMany, .ref a_numbers, .ref a_tape, .int m_taped, .int m_textEnd, .int m_faultKind, .int m_faultAt, .int m_bad, .int m_badAt, .int m_token, .int m_at, .int m_behind, .int m_number, .int m_letters, .long m_word, .ref a_c, .ref a_words, .int m_markMany, .ref a_there, .ref a_tried, .ref a_best, .ref a_found, .int m_thereMany, .int m_foundMany, .int m_orderHow, .int m_orderRing, .int m_orderMany, .int m_hasBest, .long m_bestTop, .long m_bestBy, .ref a_weights, .ref a_shared, .int m_random, .int m_truePlace, .int m_trueWay, .int m_seconds, .int m_done, .int m_feelings, .int m_tries, .int m_leftOver, .int m_playDoor, .int m_playRing, .int m_isOpen, .int m_isOver, .int m_wasTried, .int m_hasPlayed, .ref a_feltNow, .ref a_last, .ref a_kept, .int m_hasSeconds, .int m_hasTurned, .int m_hasRound, .ref a_hasFeels, .ref a_isOn, .int m_firstAct, .long m_meanTop, .long m_meanBy, .ref a_order, .int m_rowMany, .int m_newSteps])), (a_c, .inl (cA.1 0, 1825, .inl g_c))] (S := Int32 × Int32) (fun (r : Int32) (u : Int32 × Int32) => (r = (F_r_feature g_c f w).1) ∧ (u.1 = (F_r_feature g_c f w).2.1) ∧ (u.2 = (F_r_feature g_c f w).2.2) ∧ (((-1) ≤ r.toInt ∧ r.toInt ≤ 4) ∧ (0 ≤ u.2.toInt ∧ u.2.toInt ≤ 0))) (fun (u : Int32 × Int32) => [(h0, .inr (12, [.int u.1, .int u.2, .long m_above, .long m_under, .ref a_traySort, .ref a_trayMany, .ref a_numbers, .ref a_tape, .int m_taped, .int m_textEnd, .int m_faultKind, .int m_faultAt, .int m_bad, .int m_badAt, .int m_token, .int m_at, .int m_behind, .int m_number, .int m_letters, .long m_word, .ref a_c, .ref a_words, .int m_markMany, .ref a_there, .ref a_tried, .ref a_best, .ref a_found, .int m_thereMany, .int m_foundMany, .int m_orderHow, .int m_orderRing, .int m_orderMany, .int m_hasBest, .long m_bestTop, .long m_bestBy, .ref a_weights, .ref a_shared, .int m_random, .int m_truePlace, .int m_trueWay, .int m_seconds, .int m_done, .int m_feelings, .int m_tries, .int m_leftOver, .int m_playDoor, .int m_playRing, .int m_isOpen, .int m_isOver, .int m_wasTried, .int m_hasPlayed, .ref a_feltNow, .ref a_last, .ref a_kept, .int m_hasSeconds, .int m_hasTurned, .int m_hasRound, .ref a_hasFeels, .ref a_isOn, .int m_firstAct, .long m_meanTop, .long m_meanBy, .ref a_order, .int m_rowMany, .int m_newSteps])), (a_c, .inl (cA.1 0, 1825, .inl g_c))]) 0 0 := by
  have hk_0 : (0 : Int32).toInt = 0 := by decide +kernel
  have hk_1 : (1 : Int32).toInt = 1 := by decide +kernel
  have hk_2 : (2 : Int32).toInt = 2 := by decide +kernel
  have hk_5 : (5 : Int32).toInt = 5 := by decide +kernel
  have hk_11 : (11 : Int32).toInt = 11 := by decide +kernel
  have hk_14 : (14 : Int32).toInt = 14 := by decide +kernel
  refine z_start2i (own := RX12) (by decide) (Nat.le_of_ble_eq_true rfl) rfl ?_
  intro p e s m args below meth c A ls Q hx hb hml hts hown hK hE hT hP hD hS hA hl hret
  have hl : lv_has ls 3 [(0, .ref h0), (1, .int f), (2, .int w)] := hl
  refine lv_aload_n hx hb dX12_feature_0 rfl (lv_at hl 0 rfl) ?_
  refine lv_iconst (v := 0) hx hb dX12_feature_1 (by decide) ?_
  refine va_put (D := G) (ci := 12) (v := .int 0) (ty := .int) (C := RX12) (T := TX12) (N := 65) hx hb hts inT12 tyX12 tyX12_ok nmX12 hown hK hP hD hS 0 rfl rfl 1 (by decide) (hts _ tw_1886) (fun _ h9 => h9) rfl (tyX12_ok 1 (by decide)) rfl rfl (Nat.le_of_ble_eq_true rfl) dX12_feature_2 (fun H locs hP hD hS => ?_)
  refine lv_aload_n hx hb dX12_feature_5 rfl (lv_at hl 0 rfl) ?_
  refine lv_iconst (v := 0) hx hb dX12_feature_6 (by decide) ?_
  refine va_put (D := G) (ci := 12) (v := .int 0) (ty := .int) (C := RX12) (T := TX12) (N := 65) hx hb hts inT12 tyX12 tyX12_ok nmX12 hown hK hP hD hS 0 rfl rfl 0 (by decide) (hts _ tw_1885) (fun _ h9 => h9) rfl (tyX12_ok 0 (by decide)) rfl rfl (Nat.le_of_ble_eq_true rfl) dX12_feature_7 (fun H locs hP hD hS => ?_)
  refine lv_aload_n hx hb dX12_feature_10 rfl (lv_at hl 0 rfl) ?_
  refine lv_iload_n hx hb dX12_feature_11 rfl (lv_at hl 1 rfl) ?_
  refine z_callVi (As := [.int f]) (rest := []) (wr := []) ⟨hx, hb, hml, hown, hts⟩ hK hE hT hP hD hS hA (r_isFeature l G cA h0 0 0 m_above m_under a_traySort a_trayMany a_numbers a_tape m_taped m_textEnd m_faultKind m_faultAt m_bad m_badAt m_token m_at m_behind m_number m_letters m_word a_c a_words m_markMany a_there a_tried a_best a_found m_thereMany m_foundMany m_orderHow m_orderRing m_orderMany m_hasBest m_bestTop m_bestBy a_weights a_shared m_random m_truePlace m_trueWay m_seconds m_done m_feelings m_tries m_leftOver m_playDoor m_playRing m_isOpen m_isOver m_wasTried m_hasPlayed a_feltNow a_last a_kept m_hasSeconds m_hasTurned m_hasRound a_hasFeels a_isOn m_firstAct m_meanTop m_meanBy a_order m_rowMany m_newSteps g_c f hC_g_c) lk_RX12_264 ⟨rfl, rfl⟩ ⟨Nat.le_of_ble_eq_true rfl, Nat.le_of_ble_eq_true rfl⟩ 12 rfl rfl rfl [0, 1] [] rfl rfl (by decide) rfl hl.1 rfl (lv_room (Nat.le_of_ble_eq_true rfl)) dX12_feature_12 ⟨Nat.le_of_ble_eq_true rfl, Nat.le_of_ble_eq_true rfl⟩ (fun r_1 u_2 H locs hw hP hD hS => ?_)
  obtain ⟨he_r_1, hw⟩ := hw
  rcases hw with ⟨rfl, -⟩ | ⟨rfl, hf_4, hf_5⟩
  · skip
    refine lv_if_ne (tgt := 24) hx hb dX12_feature_15 (by decide) (fun h9 => absurd (by decide +kernel) h9) (fun _ => ?_)
    refine lv_aload_n hx hb dX12_feature_18 rfl (lv_at hl 0 rfl) ?_
    refine lv_iconst (v := 2) hx hb dX12_feature_19 (by decide) ?_
    refine z_callVi (As := [.int 2]) (rest := []) (wr := [(a_c, .inl (cA.1 0, 1825, .inl g_c))]) ⟨hx, hb, hml, hown, hts⟩ hK hE hT hP hD hS hA (r_refuse l G cA h0 0 0 m_above m_under a_traySort a_trayMany a_numbers a_tape m_taped m_textEnd m_faultKind m_faultAt m_bad m_badAt m_token m_at m_behind m_number m_letters m_word a_c a_words m_markMany a_there a_tried a_best a_found m_thereMany m_foundMany m_orderHow m_orderRing m_orderMany m_hasBest m_bestTop m_bestBy a_weights a_shared m_random m_truePlace m_trueWay m_seconds m_done m_feelings m_tries m_leftOver m_playDoor m_playRing m_isOpen m_isOver m_wasTried m_hasPlayed a_feltNow a_last a_kept m_hasSeconds m_hasTurned m_hasRound a_hasFeels a_isOn m_firstAct m_meanTop m_meanBy a_order m_rowMany m_newSteps 2) lk_RX12_269 ⟨rfl, rfl⟩ ⟨Nat.le_of_ble_eq_true rfl, Nat.le_of_ble_eq_true rfl⟩ 12 rfl rfl rfl [0] [1] rfl rfl (by decide) rfl hl.1 rfl (lv_room (Nat.le_of_ble_eq_true rfl)) dX12_feature_20 ⟨Nat.le_of_ble_eq_true rfl, Nat.le_of_ble_eq_true rfl⟩ (fun r_7 u_8 H locs hw hP hD hS => ?_)
    obtain ⟨n_6, rfl⟩ : ∃ z, z = u_8 := ⟨_, rfl⟩
    obtain ⟨he_r_7, he_n_6, hw⟩ := hw
    have hr_r_7 := hw
    have hpost : ((-1) ≤ r_7.toInt ∧ r_7.toInt ≤ 4) ∧ (0 ≤ (0 : Int32).toInt ∧ (0 : Int32).toInt ≤ 0) := ⟨(z_rgw hr_r_7 (by decide) (by decide)), (by decide +kernel)⟩
    have hX_10 : F_r_feature g_c f w = ((r_7, n_6, (0 : Int32)) : Int32 × Int32 × Int32) := by
      refine (F_r_feature_s ..).trans ?_
      extract_lets -merge -useContext +onlyGivenNames w9 y9; have e9 : (0 : Int32) = w9 := he_r_1; clear_value w9; subst e9
      refine (if_pos rfl).trans ?_
      extract_lets -merge -useContext +onlyGivenNames w9 y2_0 y2_1; have e9 : (r_7, n_6) = w9 := ((z_tS he_r_7 he_n_6.symm)).symm; clear_value w9; subst e9
      exact rfl
    exact hret _ _ _ _ _ _ (n_6, 0) [1, 0] hP hD hS rfl (by decide) dX12_feature_23 ⟨(congrArg (fun z9 => z9.1) hX_10).symm, (congrArg (fun z9 => z9.2.1) hX_10).symm, (congrArg (fun z9 => z9.2.2) hX_10).symm, hpost⟩
  · skip
    refine lv_if_ne (tgt := 24) hx hb dX12_feature_15 (by decide) (fun _ => ?_) (fun h9 => absurd h9 (by decide +kernel))
    refine lv_iload_n hx hb dX12_feature_24 rfl (lv_at hl 2 rfl) ?_
    refine lv_if_ne (tgt := 40) hx hb dX12_feature_25 (by decide) (fun c_11 => ?_) (fun c_11 => ?_)
    · have b_12 := z_fneT c_11
      refine lv_iload_n hx hb dX12_feature_40 rfl (lv_at hl 2 rfl) ?_
      refine lv_iconst (v := 1) hx hb dX12_feature_41 (by decide) ?_
      refine lv_icmp_ne (tgt := 57) hx hb dX12_feature_42 (by decide) (fun c_13 => ?_) (fun c_13 => ?_)
      · have b_14 := z_fneT c_13
        refine lv_aload_n hx hb dX12_feature_57 rfl (lv_at hl 0 rfl) ?_
        refine lv_iconst (v := 5) hx hb dX12_feature_58 (by decide) ?_
        refine z_callVi (As := [.int 5]) (rest := []) (wr := [(a_c, .inl (cA.1 0, 1825, .inl g_c))]) ⟨hx, hb, hml, hown, hts⟩ hK hE hT hP hD hS hA (r_refuse l G cA h0 0 0 m_above m_under a_traySort a_trayMany a_numbers a_tape m_taped m_textEnd m_faultKind m_faultAt m_bad m_badAt m_token m_at m_behind m_number m_letters m_word a_c a_words m_markMany a_there a_tried a_best a_found m_thereMany m_foundMany m_orderHow m_orderRing m_orderMany m_hasBest m_bestTop m_bestBy a_weights a_shared m_random m_truePlace m_trueWay m_seconds m_done m_feelings m_tries m_leftOver m_playDoor m_playRing m_isOpen m_isOver m_wasTried m_hasPlayed a_feltNow a_last a_kept m_hasSeconds m_hasTurned m_hasRound a_hasFeels a_isOn m_firstAct m_meanTop m_meanBy a_order m_rowMany m_newSteps 5) lk_RX12_269 ⟨rfl, rfl⟩ ⟨Nat.le_of_ble_eq_true rfl, Nat.le_of_ble_eq_true rfl⟩ 12 rfl rfl rfl [0] [1] rfl rfl (by decide) rfl hl.1 rfl (lv_room (Nat.le_of_ble_eq_true rfl)) dX12_feature_59 ⟨Nat.le_of_ble_eq_true rfl, Nat.le_of_ble_eq_true rfl⟩ (fun r_16 u_17 H locs hw hP hD hS => ?_)
        obtain ⟨n_15, rfl⟩ : ∃ z, z = u_17 := ⟨_, rfl⟩
        obtain ⟨he_r_16, he_n_15, hw⟩ := hw
        have hr_r_16 := hw
        have hpost : ((-1) ≤ r_16.toInt ∧ r_16.toInt ≤ 4) ∧ (0 ≤ (0 : Int32).toInt ∧ (0 : Int32).toInt ≤ 0) := ⟨(z_rgw hr_r_16 (by decide) (by decide)), (by decide +kernel)⟩
        have hX_19 : F_r_feature g_c f w = ((r_16, n_15, (0 : Int32)) : Int32 × Int32 × Int32) := by
          refine (F_r_feature_s ..).trans ?_
          extract_lets -merge -useContext +onlyGivenNames w9 y9; have e9 : (1 : Int32) = w9 := he_r_1; clear_value w9; subst e9
          refine (if_neg (show ¬ (1 : Int32) = 0 by decide)).trans ?_
          refine (if_neg c_11).trans ?_
          refine (if_neg c_13).trans ?_
          extract_lets -merge -useContext +onlyGivenNames w9 y4_0 y4_1; have e9 : (r_16, n_15) = w9 := ((z_tS he_r_16 he_n_15.symm)).symm; clear_value w9; subst e9
          exact rfl
        exact hret _ _ _ _ _ _ (n_15, 0) [1, 0] hP hD hS rfl (by decide) dX12_feature_62 ⟨(congrArg (fun z9 => z9.1) hX_19).symm, (congrArg (fun z9 => z9.2.1) hX_19).symm, (congrArg (fun z9 => z9.2.2) hX_19).symm, hpost⟩
      · have b_20 := z_feqF c_13
        refine lv_aload_n hx hb dX12_feature_45 rfl (lv_at hl 0 rfl) ?_
        refine va_get (D := G) (ci := 12) (v := .ref a_c) (C := RX12) (T := TX12) (N := 65) hx hb hts inT12 hown hK hP 0 rfl rfl 20 (by decide) (hts _ tw_1905) (fun _ h9 => h9) rfl dX12_feature_46 ?_
        refine lv_bipush (v := 14) hx hb dX12_feature_49 (by decide) ?_
        refine lv_iload_n hx hb dX12_feature_51 rfl (lv_at hl 1 rfl) ?_
        refine lv_iadd hx hb dX12_feature_52 ?_
        refine lv_topi (fun x_21 he_x_21 => ?_)
        have hq_x_21 := z_addq he_x_21 hk_14 (rfl : f.toInt = _) (by omega) (by omega)
        refine va_iald hx hb hK hP 1 0 rfl rfl (z_inN (by omega) (by omega)) dX12_feature_53 ?_
        refine lv_topi (fun x_22 he_x_22 => ?_)
        have hr_x_22 := z_ct hC_g_c he_x_22 (a := 14) (b := 16) (lo := 0) (hi := 1) (by decide +kernel) (by decide) (by omega) (by omega)
        refine lv_goto (tgt := 62) hx hb dX12_feature_54 (by decide) ?_
        have hpost : ((-1) ≤ x_22.toInt ∧ x_22.toInt ≤ 4) ∧ (0 ≤ (0 : Int32).toInt ∧ (0 : Int32).toInt ≤ 0) := ⟨(z_rgw hr_x_22 (by decide) (by decide)), (by decide +kernel)⟩
        have hX_23 : F_r_feature g_c f w = ((x_22, (0 : Int32), (0 : Int32)) : Int32 × Int32 × Int32) := by
          refine (F_r_feature_s ..).trans ?_
          extract_lets -merge -useContext +onlyGivenNames w9 y9; have e9 : (1 : Int32) = w9 := he_r_1; clear_value w9; subst e9
          refine (if_neg (show ¬ (1 : Int32) = 0 by decide)).trans ?_
          refine (if_neg c_11).trans ?_
          refine (if_pos c_13).trans ?_
          try (extract_lets -merge -useContext +onlyGivenNames y9; have e9 : x_21 = y9 := (by first | exact he_x_21 | exact he_x_21.symm); clear_value y9; subst e9)
          try (extract_lets -merge -useContext +onlyGivenNames y9; have e9 : x_22 = y9 := (by first | exact he_x_22 | exact he_x_22.symm); clear_value y9; subst e9)
          exact rfl
        exact hret _ _ _ _ _ _ (0, 0) [0, 1] hP hD hS rfl (by decide) dX12_feature_62 ⟨(congrArg (fun z9 => z9.1) hX_23).symm, (congrArg (fun z9 => z9.2.1) hX_23).symm, (congrArg (fun z9 => z9.2.2) hX_23).symm, hpost⟩
    · have b_24 := z_feqF c_11
      refine lv_aload_n hx hb dX12_feature_28 rfl (lv_at hl 0 rfl) ?_
      refine va_get (D := G) (ci := 12) (v := .ref a_c) (C := RX12) (T := TX12) (N := 65) hx hb hts inT12 hown hK hP 0 rfl rfl 20 (by decide) (hts _ tw_1905) (fun _ h9 => h9) rfl dX12_feature_29 ?_
      refine lv_bipush (v := 11) hx hb dX12_feature_32 (by decide) ?_
      refine lv_iload_n hx hb dX12_feature_34 rfl (lv_at hl 1 rfl) ?_
      refine lv_iadd hx hb dX12_feature_35 ?_
      refine lv_topi (fun x_25 he_x_25 => ?_)
      have hq_x_25 := z_addq he_x_25 hk_11 (rfl : f.toInt = _) (by omega) (by omega)
      refine va_iald hx hb hK hP 1 0 rfl rfl (z_inN (by omega) (by omega)) dX12_feature_36 ?_
      refine lv_topi (fun x_26 he_x_26 => ?_)
      have hr_x_26 := z_ct hC_g_c he_x_26 (a := 11) (b := 13) (lo := 0) (hi := 4) (by decide +kernel) (by decide) (by omega) (by omega)
      refine lv_goto (tgt := 62) hx hb dX12_feature_37 (by decide) ?_
      have hpost : ((-1) ≤ x_26.toInt ∧ x_26.toInt ≤ 4) ∧ (0 ≤ (0 : Int32).toInt ∧ (0 : Int32).toInt ≤ 0) := ⟨(z_rgw hr_x_26 (by decide) (by decide)), (by decide +kernel)⟩
      have hX_27 : F_r_feature g_c f w = ((x_26, (0 : Int32), (0 : Int32)) : Int32 × Int32 × Int32) := by
        refine (F_r_feature_s ..).trans ?_
        extract_lets -merge -useContext +onlyGivenNames w9 y9; have e9 : (1 : Int32) = w9 := he_r_1; clear_value w9; subst e9
        refine (if_neg (show ¬ (1 : Int32) = 0 by decide)).trans ?_
        refine (if_pos c_11).trans ?_
        try (extract_lets -merge -useContext +onlyGivenNames y9; have e9 : x_25 = y9 := (by first | exact he_x_25 | exact he_x_25.symm); clear_value y9; subst e9)
        try (extract_lets -merge -useContext +onlyGivenNames y9; have e9 : x_26 = y9 := (by first | exact he_x_26 | exact he_x_26.symm); clear_value y9; subst e9)
        exact rfl
      exact hret _ _ _ _ _ _ (0, 0) [0, 1] hP hD hS rfl (by decide) dX12_feature_62 ⟨(congrArg (fun z9 => z9.1) hX_27).symm, (congrArg (fun z9 => z9.2.1) hX_27).symm, (congrArg (fun z9 => z9.2.2) hX_27).symm, hpost⟩
set_option maxHeartbeats 40000000 in
set_option maxRecDepth 100000 in
theorem r_feels (l : Launch) (G : va_G) (cA : zCA) (h0 : Nat) (m_status : Int32) (m_thrown : Int32) (m_above : Int64) (m_under : Int64) (a_traySort : Nat) (a_trayMany : Nat) (a_numbers : Nat) (a_tape : Nat) (m_taped : Int32) (m_textEnd : Int32) (m_faultKind : Int32) (m_faultAt : Int32) (m_bad : Int32) (m_badAt : Int32) (m_token : Int32) (m_at : Int32) (m_behind : Int32) (m_number : Int32) (m_letters : Int32) (m_word : Int64) (a_c : Nat) (a_words : Nat) (m_markMany : Int32) (a_there : Nat) (a_tried : Nat) (a_best : Nat) (a_found : Nat) (m_thereMany : Int32) (m_foundMany : Int32) (m_orderHow : Int32) (m_orderRing : Int32) (m_orderMany : Int32) (m_hasBest : Int32) (m_bestTop : Int64) (m_bestBy : Int64) (a_weights : Nat) (a_shared : Nat) (m_random : Int32) (m_truePlace : Int32) (m_trueWay : Int32) (m_seconds : Int32) (m_done : Int32) (m_feelings : Int32) (m_tries : Int32) (m_leftOver : Int32) (m_playDoor : Int32) (m_playRing : Int32) (m_isOpen : Int32) (m_isOver : Int32) (m_wasTried : Int32) (m_hasPlayed : Int32) (a_feltNow : Nat) (a_last : Nat) (a_kept : Nat) (m_hasSeconds : Int32) (m_hasTurned : Int32) (m_hasRound : Int32) (a_hasFeels : Nat) (a_isOn : Nat) (m_firstAct : Int32) (m_meanTop : Int64) (m_meanBy : Int64) (a_order : Nat) (m_rowMany : Int32) (m_newSteps : Int32) (g_c : Nat → Int32) (f : Int32) (ss : Int32) (v : Int32) (hC_g_c : zC g_c) : zCi l yX12_feels cX12_feels 4 (some .int) ({ frames := 3, cells := 0, slots := 0, locals := 68 }) G cA [.ref h0, .int f, .int ss, .int v] [(h0, .inr (12, [.int m_status, .int m_thrown, .long m_above, .long m_under, .ref a_traySort, .ref a_trayMany, .ref a_numbers, .ref a_tape, .int m_taped, .int m_textEnd, .int m_faultKind, .int m_faultAt, .int m_bad, .int m_badAt, .int m_token, .int m_at, .int m_behind, .int m_number, .int m_letters, .long m_word, .ref a_c, .ref a_words, .int m_markMany, .ref a_there, .ref a_tried, .ref a_best, .ref a_found, .int m_thereMany, .int m_foundMany, .int m_orderHow, .int m_orderRing, .int m_orderMany, .int m_hasBest, .long m_bestTop, .long m_bestBy, .ref a_weights, .ref a_shared, .int m_random, .int m_truePlace, .int m_trueWay, .int m_seconds, .int m_done, .int m_feelings, .int m_tries, .int m_leftOver, .int m_playDoor, .int m_playRing, .int m_isOpen, .int m_isOver, .int m_wasTried, .int m_hasPlayed, .ref a_feltNow, .ref a_last, .ref a_kept, .int m_hasSeconds, .int m_hasTurned, .int m_hasRound, .ref a_hasFeels, .ref a_isOn, .int m_firstAct, .long m_meanTop, .long m_meanBy, .ref a_order, .int m_rowMany, .int m_newSteps])), (a_c, .inl (cA.1 0, 1825, .inl g_c))] (S := Int32 × Int32) (fun (r : Int32) (u : Int32 × Int32) => (r = (F_r_feels g_c f ss v).1) ∧ (u.1 = (F_r_feels g_c f ss v).2.1) ∧ (u.2 = (F_r_feels g_c f ss v).2.2) ∧ (((-1) ≤ r.toInt ∧ r.toInt ≤ 16) ∧ (0 ≤ u.2.toInt ∧ u.2.toInt ≤ 0))) (fun (u : Int32 × Int32) => [(h0, .inr (12, [.int u.1, .int u.2, .long m_above, .long m_under, .ref a_traySort, .ref a_trayMany, .ref a_numbers, .ref a_tape, .int m_taped, .int m_textEnd, .int m_faultKind, .int m_faultAt, .int m_bad, .int m_badAt, .int m_token, .int m_at, .int m_behind, .int m_number, .int m_letters, .long m_word, .ref a_c, .ref a_words, .int m_markMany, .ref a_there, .ref a_tried, .ref a_best, .ref a_found, .int m_thereMany, .int m_foundMany, .int m_orderHow, .int m_orderRing, .int m_orderMany, .int m_hasBest, .long m_bestTop, .long m_bestBy, .ref a_weights, .ref a_shared, .int m_random, .int m_truePlace, .int m_trueWay, .int m_seconds, .int m_done, .int m_feelings, .int m_tries, .int m_leftOver, .int m_playDoor, .int m_playRing, .int m_isOpen, .int m_isOver, .int m_wasTried, .int m_hasPlayed, .ref a_feltNow, .ref a_last, .ref a_kept, .int m_hasSeconds, .int m_hasTurned, .int m_hasRound, .ref a_hasFeels, .ref a_isOn, .int m_firstAct, .long m_meanTop, .long m_meanBy, .ref a_order, .int m_rowMany, .int m_newSteps])), (a_c, .inl (cA.1 0, 1825, .inl g_c))]) 0 0 := by
  have hk_2 : (2 : Int32).toInt = 2 := by decide +kernel
  have hk_4 : (4 : Int32).toInt = 4 := by decide +kernel
  have hk_16 : (16 : Int32).toInt = 16 := by decide +kernel
  have hk_17 : (17 : Int32).toInt = 17 := by decide +kernel
  refine z_start2i (own := RX12) (by decide) (Nat.le_of_ble_eq_true rfl) rfl ?_
  intro p e s m args below meth c A ls Q hx hb hml hts hown hK hE hT hP hD hS hA hl hret
  have hl : lv_has ls 4 [(0, .ref h0), (1, .int f), (2, .int ss), (3, .int v)] := hl
  refine lv_aload_n hx hb dX12_feels_0 rfl (lv_at hl 0 rfl) ?_
  refine lv_iconst (v := 0) hx hb dX12_feels_1 (by decide) ?_
  refine va_put (D := G) (ci := 12) (v := .int 0) (ty := .int) (C := RX12) (T := TX12) (N := 65) hx hb hts inT12 tyX12 tyX12_ok nmX12 hown hK hP hD hS 0 rfl rfl 1 (by decide) (hts _ tw_1886) (fun _ h9 => h9) rfl (tyX12_ok 1 (by decide)) rfl rfl (Nat.le_of_ble_eq_true rfl) dX12_feels_2 (fun H locs hP hD hS => ?_)
  refine lv_aload_n hx hb dX12_feels_5 rfl (lv_at hl 0 rfl) ?_
  refine lv_iconst (v := 0) hx hb dX12_feels_6 (by decide) ?_
  refine va_put (D := G) (ci := 12) (v := .int 0) (ty := .int) (C := RX12) (T := TX12) (N := 65) hx hb hts inT12 tyX12 tyX12_ok nmX12 hown hK hP hD hS 0 rfl rfl 0 (by decide) (hts _ tw_1885) (fun _ h9 => h9) rfl (tyX12_ok 0 (by decide)) rfl rfl (Nat.le_of_ble_eq_true rfl) dX12_feels_7 (fun H locs hP hD hS => ?_)
  refine lv_aload_n hx hb dX12_feels_10 rfl (lv_at hl 0 rfl) ?_
  refine lv_iload_n hx hb dX12_feels_11 rfl (lv_at hl 1 rfl) ?_
  refine lv_iload_n hx hb dX12_feels_12 rfl (lv_at hl 2 rfl) ?_
  refine z_callVi (As := [.int f, .int ss]) (rest := []) (wr := []) ⟨hx, hb, hml, hown, hts⟩ hK hE hT hP hD hS hA (r_isStep l G cA h0 0 0 m_above m_under a_traySort a_trayMany a_numbers a_tape m_taped m_textEnd m_faultKind m_faultAt m_bad m_badAt m_token m_at m_behind m_number m_letters m_word a_c a_words m_markMany a_there a_tried a_best a_found m_thereMany m_foundMany m_orderHow m_orderRing m_orderMany m_hasBest m_bestTop m_bestBy a_weights a_shared m_random m_truePlace m_trueWay m_seconds m_done m_feelings m_tries m_leftOver m_playDoor m_playRing m_isOpen m_isOver m_wasTried m_hasPlayed a_feltNow a_last a_kept m_hasSeconds m_hasTurned m_hasRound a_hasFeels a_isOn m_firstAct m_meanTop m_meanBy a_order m_rowMany m_newSteps g_c f ss hC_g_c) lk_RX12_272 ⟨rfl, rfl⟩ ⟨Nat.le_of_ble_eq_true rfl, Nat.le_of_ble_eq_true rfl⟩ 12 rfl rfl rfl [0, 1] [] rfl rfl (by decide) rfl hl.1 rfl (lv_room (Nat.le_of_ble_eq_true rfl)) dX12_feels_13 ⟨Nat.le_of_ble_eq_true rfl, Nat.le_of_ble_eq_true rfl⟩ (fun r_1 u_2 H locs hw hP hD hS => ?_)
  obtain ⟨he_r_1, hw⟩ := hw
  rcases hw with ⟨rfl, -⟩ | ⟨rfl, hf_4, hf_5⟩
  · skip
    refine lv_if_eq (tgt := 49) hx hb dX12_feels_16 (by decide) (fun _ => ?_) (fun h9 => absurd (by decide +kernel) h9)
    refine lv_aload_n hx hb dX12_feels_49 rfl (lv_at hl 0 rfl) ?_
    refine lv_iconst (v := 2) hx hb dX12_feels_50 (by decide) ?_
    refine z_callVi (As := [.int 2]) (rest := []) (wr := [(a_c, .inl (cA.1 0, 1825, .inl g_c))]) ⟨hx, hb, hml, hown, hts⟩ hK hE hT hP hD hS hA (r_refuse l G cA h0 0 0 m_above m_under a_traySort a_trayMany a_numbers a_tape m_taped m_textEnd m_faultKind m_faultAt m_bad m_badAt m_token m_at m_behind m_number m_letters m_word a_c a_words m_markMany a_there a_tried a_best a_found m_thereMany m_foundMany m_orderHow m_orderRing m_orderMany m_hasBest m_bestTop m_bestBy a_weights a_shared m_random m_truePlace m_trueWay m_seconds m_done m_feelings m_tries m_leftOver m_playDoor m_playRing m_isOpen m_isOver m_wasTried m_hasPlayed a_feltNow a_last a_kept m_hasSeconds m_hasTurned m_hasRound a_hasFeels a_isOn m_firstAct m_meanTop m_meanBy a_order m_rowMany m_newSteps 2) lk_RX12_269 ⟨rfl, rfl⟩ ⟨Nat.le_of_ble_eq_true rfl, Nat.le_of_ble_eq_true rfl⟩ 12 rfl rfl rfl [0] [1] rfl rfl (by decide) rfl hl.1 rfl (lv_room (Nat.le_of_ble_eq_true rfl)) dX12_feels_51 ⟨Nat.le_of_ble_eq_true rfl, Nat.le_of_ble_eq_true rfl⟩ (fun r_7 u_8 H locs hw hP hD hS => ?_)
    obtain ⟨n_6, rfl⟩ : ∃ z, z = u_8 := ⟨_, rfl⟩
    obtain ⟨he_r_7, he_n_6, hw⟩ := hw
    have hr_r_7 := hw
    have hpost : ((-1) ≤ r_7.toInt ∧ r_7.toInt ≤ 16) ∧ (0 ≤ (0 : Int32).toInt ∧ (0 : Int32).toInt ≤ 0) := ⟨(z_rgw hr_r_7 (by decide) (by decide)), (by decide +kernel)⟩
    have hX_10 : F_r_feels g_c f ss v = ((r_7, n_6, (0 : Int32)) : Int32 × Int32 × Int32) := by
      refine (F_r_feels_s ..).trans ?_
      extract_lets -merge -useContext +onlyGivenNames w9 y9; have e9 : (0 : Int32) = w9 := he_r_1; clear_value w9; subst e9
      refine (if_pos rfl).trans ?_
      extract_lets -merge -useContext +onlyGivenNames w9 y2_0 y2_1; have e9 : (r_7, n_6) = w9 := ((z_tS he_r_7 he_n_6.symm)).symm; clear_value w9; subst e9
      exact rfl
    exact hret _ _ _ _ _ _ (n_6, 0) [1, 0] hP hD hS rfl (by decide) dX12_feels_54 ⟨(congrArg (fun z9 => z9.1) hX_10).symm, (congrArg (fun z9 => z9.2.1) hX_10).symm, (congrArg (fun z9 => z9.2.2) hX_10).symm, hpost⟩
  · skip
    refine lv_if_eq (tgt := 49) hx hb dX12_feels_16 (by decide) (fun h9 => absurd h9 (by decide +kernel)) (fun _ => ?_)
    refine lv_aload_n hx hb dX12_feels_19 rfl (lv_at hl 0 rfl) ?_
    refine lv_iload_n hx hb dX12_feels_20 rfl (lv_at hl 1 rfl) ?_
    refine lv_iload_n hx hb dX12_feels_21 rfl (lv_at hl 3 rfl) ?_
    refine z_callVi (As := [.int f, .int v]) (rest := []) (wr := []) ⟨hx, hb, hml, hown, hts⟩ hK hE hT hP hD hS hA (r_isStep l G cA h0 0 0 m_above m_under a_traySort a_trayMany a_numbers a_tape m_taped m_textEnd m_faultKind m_faultAt m_bad m_badAt m_token m_at m_behind m_number m_letters m_word a_c a_words m_markMany a_there a_tried a_best a_found m_thereMany m_foundMany m_orderHow m_orderRing m_orderMany m_hasBest m_bestTop m_bestBy a_weights a_shared m_random m_truePlace m_trueWay m_seconds m_done m_feelings m_tries m_leftOver m_playDoor m_playRing m_isOpen m_isOver m_wasTried m_hasPlayed a_feltNow a_last a_kept m_hasSeconds m_hasTurned m_hasRound a_hasFeels a_isOn m_firstAct m_meanTop m_meanBy a_order m_rowMany m_newSteps g_c f v hC_g_c) lk_RX12_272 ⟨rfl, rfl⟩ ⟨Nat.le_of_ble_eq_true rfl, Nat.le_of_ble_eq_true rfl⟩ 12 rfl rfl rfl [0, 1] [] rfl rfl (by decide) rfl hl.1 rfl (lv_room (Nat.le_of_ble_eq_true rfl)) dX12_feels_22 ⟨Nat.le_of_ble_eq_true rfl, Nat.le_of_ble_eq_true rfl⟩ (fun r_11 u_12 H locs hw hP hD hS => ?_)
    obtain ⟨he_r_11, hw⟩ := hw
    rcases hw with ⟨rfl, -⟩ | ⟨rfl, hf_14, hf_15⟩
    · skip
      refine lv_if_eq (tgt := 49) hx hb dX12_feels_25 (by decide) (fun _ => ?_) (fun h9 => absurd (by decide +kernel) h9)
      refine lv_aload_n hx hb dX12_feels_49 rfl (lv_at hl 0 rfl) ?_
      refine lv_iconst (v := 2) hx hb dX12_feels_50 (by decide) ?_
      refine z_callVi (As := [.int 2]) (rest := []) (wr := [(a_c, .inl (cA.1 0, 1825, .inl g_c))]) ⟨hx, hb, hml, hown, hts⟩ hK hE hT hP hD hS hA (r_refuse l G cA h0 0 0 m_above m_under a_traySort a_trayMany a_numbers a_tape m_taped m_textEnd m_faultKind m_faultAt m_bad m_badAt m_token m_at m_behind m_number m_letters m_word a_c a_words m_markMany a_there a_tried a_best a_found m_thereMany m_foundMany m_orderHow m_orderRing m_orderMany m_hasBest m_bestTop m_bestBy a_weights a_shared m_random m_truePlace m_trueWay m_seconds m_done m_feelings m_tries m_leftOver m_playDoor m_playRing m_isOpen m_isOver m_wasTried m_hasPlayed a_feltNow a_last a_kept m_hasSeconds m_hasTurned m_hasRound a_hasFeels a_isOn m_firstAct m_meanTop m_meanBy a_order m_rowMany m_newSteps 2) lk_RX12_269 ⟨rfl, rfl⟩ ⟨Nat.le_of_ble_eq_true rfl, Nat.le_of_ble_eq_true rfl⟩ 12 rfl rfl rfl [0] [1] rfl rfl (by decide) rfl hl.1 rfl (lv_room (Nat.le_of_ble_eq_true rfl)) dX12_feels_51 ⟨Nat.le_of_ble_eq_true rfl, Nat.le_of_ble_eq_true rfl⟩ (fun r_17 u_18 H locs hw hP hD hS => ?_)
      obtain ⟨n_16, rfl⟩ : ∃ z, z = u_18 := ⟨_, rfl⟩
      obtain ⟨he_r_17, he_n_16, hw⟩ := hw
      have hr_r_17 := hw
      have hpost : ((-1) ≤ r_17.toInt ∧ r_17.toInt ≤ 16) ∧ (0 ≤ (0 : Int32).toInt ∧ (0 : Int32).toInt ≤ 0) := ⟨(z_rgw hr_r_17 (by decide) (by decide)), (by decide +kernel)⟩
      have hX_20 : F_r_feels g_c f ss v = ((r_17, n_16, (0 : Int32)) : Int32 × Int32 × Int32) := by
        refine (F_r_feels_s ..).trans ?_
        extract_lets -merge -useContext +onlyGivenNames w9 y9; have e9 : (1 : Int32) = w9 := he_r_1; clear_value w9; subst e9
        refine (if_neg (show ¬ (1 : Int32) = 0 by decide)).trans ?_
        extract_lets -merge -useContext +onlyGivenNames w9 y9; have e9 : (0 : Int32) = w9 := he_r_11; clear_value w9; subst e9
        refine (if_pos rfl).trans ?_
        extract_lets -merge -useContext +onlyGivenNames w9 y4_0 y4_1; have e9 : (r_17, n_16) = w9 := ((z_tS he_r_17 he_n_16.symm)).symm; clear_value w9; subst e9
        exact rfl
      exact hret _ _ _ _ _ _ (n_16, 0) [1, 0] hP hD hS rfl (by decide) dX12_feels_54 ⟨(congrArg (fun z9 => z9.1) hX_20).symm, (congrArg (fun z9 => z9.2.1) hX_20).symm, (congrArg (fun z9 => z9.2.2) hX_20).symm, hpost⟩
    · skip
      refine lv_if_eq (tgt := 49) hx hb dX12_feels_25 (by decide) (fun h9 => absurd h9 (by decide +kernel)) (fun _ => ?_)
      refine lv_aload_n hx hb dX12_feels_28 rfl (lv_at hl 0 rfl) ?_
      refine va_get (D := G) (ci := 12) (v := .ref a_c) (C := RX12) (T := TX12) (N := 65) hx hb hts inT12 hown hK hP 0 rfl rfl 20 (by decide) (hts _ tw_1905) (fun _ h9 => h9) rfl dX12_feels_29 ?_
      refine lv_bipush (v := 17) hx hb dX12_feels_32 (by decide) ?_
      refine lv_bipush (v := 16) hx hb dX12_feels_34 (by decide) ?_
      refine lv_iload_n hx hb dX12_feels_36 rfl (lv_at hl 1 rfl) ?_
      refine lv_imul hx hb dX12_feels_37 ?_
      refine lv_topi (fun x_21 he_x_21 => ?_)
      have hq_x_21 := z_mulq he_x_21 hk_16 (rfl : f.toInt = _) (by omega) (by omega)
      refine lv_iadd hx hb dX12_feels_38 ?_
      refine lv_topi (fun x_22 he_x_22 => ?_)
      have hq_x_22 := z_addq he_x_22 hk_17 (rfl : x_21.toInt = _) (by omega) (by omega)
      refine lv_iconst (v := 4) hx hb dX12_feels_39 (by decide) ?_
      refine lv_iload_n hx hb dX12_feels_40 rfl (lv_at hl 2 rfl) ?_
      refine lv_imul hx hb dX12_feels_41 ?_
      refine lv_topi (fun x_23 he_x_23 => ?_)
      have hq_x_23 := z_mulq he_x_23 hk_4 (rfl : ss.toInt = _) (by omega) (by omega)
      refine lv_iadd hx hb dX12_feels_42 ?_
      refine lv_topi (fun x_24 he_x_24 => ?_)
      have hq_x_24 := z_addq he_x_24 (rfl : x_22.toInt = _) (rfl : x_23.toInt = _) (by omega) (by omega)
      refine lv_iload_n hx hb dX12_feels_43 rfl (lv_at hl 3 rfl) ?_
      refine lv_iadd hx hb dX12_feels_44 ?_
      refine lv_topi (fun x_25 he_x_25 => ?_)
      have hq_x_25 := z_addq he_x_25 (rfl : x_24.toInt = _) (rfl : v.toInt = _) (by omega) (by omega)
      refine va_iald hx hb hK hP 1 0 rfl rfl (z_inN (by omega) (by omega)) dX12_feels_45 ?_
      refine lv_topi (fun x_26 he_x_26 => ?_)
      have hr_x_26 := z_ct hC_g_c he_x_26 (a := 17) (b := 64) (lo := 0) (hi := 16) (by decide +kernel) (by decide) (by omega) (by omega)
      refine lv_goto (tgt := 54) hx hb dX12_feels_46 (by decide) ?_
      have hpost : ((-1) ≤ x_26.toInt ∧ x_26.toInt ≤ 16) ∧ (0 ≤ (0 : Int32).toInt ∧ (0 : Int32).toInt ≤ 0) := ⟨(z_rgw hr_x_26 (by decide) (by decide)), (by decide +kernel)⟩
      have hX_27 : F_r_feels g_c f ss v = ((x_26, (0 : Int32), (0 : Int32)) : Int32 × Int32 × Int32) := by
        refine (F_r_feels_s ..).trans ?_
        extract_lets -merge -useContext +onlyGivenNames w9 y9; have e9 : (1 : Int32) = w9 := he_r_1; clear_value w9; subst e9
        refine (if_neg (show ¬ (1 : Int32) = 0 by decide)).trans ?_
        extract_lets -merge -useContext +onlyGivenNames w9 y9; have e9 : (1 : Int32) = w9 := he_r_11; clear_value w9; subst e9
        refine (if_neg (show ¬ (1 : Int32) = 0 by decide)).trans ?_
        try (extract_lets -merge -useContext +onlyGivenNames y9; have e9 : x_21 = y9 := (by first | exact he_x_21 | exact he_x_21.symm); clear_value y9; subst e9)
        try (extract_lets -merge -useContext +onlyGivenNames y9; have e9 : x_22 = y9 := (by first | exact he_x_22 | exact he_x_22.symm); clear_value y9; subst e9)
        try (extract_lets -merge -useContext +onlyGivenNames y9; have e9 : x_23 = y9 := (by first | exact he_x_23 | exact he_x_23.symm); clear_value y9; subst e9)
        try (extract_lets -merge -useContext +onlyGivenNames y9; have e9 : x_24 = y9 := (by first | exact he_x_24 | exact he_x_24.symm); clear_value y9; subst e9)
        try (extract_lets -merge -useContext +onlyGivenNames y9; have e9 : x_25 = y9 := (by first | exact he_x_25 | exact he_x_25.symm); clear_value y9; subst e9)
        try (extract_lets -merge -useContext +onlyGivenNames y9; have e9 : x_26 = y9 := (by first | exact he_x_26 | exact he_x_26.symm); clear_value y9; subst e9)
        exact rfl
      exact hret _ _ _ _ _ _ (0, 0) [0, 1] hP hD hS rfl (by decide) dX12_feels_54 ⟨(congrArg (fun z9 => z9.1) hX_27).symm, (congrArg (fun z9 => z9.2.1) hX_27).symm, (congrArg (fun z9 => z9.2.2) hX_27).symm, hpost⟩
set_option maxHeartbeats 40000000 in
set_option maxRecDepth 100000 in
theorem r_stepOf (l : Launch) (G : va_G) (cA : zCA) (h0 : Nat) (m_status : Int32) (m_thrown : Int32) (m_above : Int64) (m_under : Int64) (a_traySort : Nat) (a_trayMany : Nat) (a_numbers : Nat) (a_tape : Nat) (m_taped : Int32) (m_textEnd : Int32) (m_faultKind : Int32) (m_faultAt : Int32) (m_bad : Int32) (m_badAt : Int32) (m_token : Int32) (m_at : Int32) (m_behind : Int32) (m_number : Int32) (m_letters : Int32) (m_word : Int64) (a_c : Nat) (a_words : Nat) (m_markMany : Int32) (a_there : Nat) (a_tried : Nat) (a_best : Nat) (a_found : Nat) (m_thereMany : Int32) (m_foundMany : Int32) (m_orderHow : Int32) (m_orderRing : Int32) (m_orderMany : Int32) (m_hasBest : Int32) (m_bestTop : Int64) (m_bestBy : Int64) (a_weights : Nat) (a_shared : Nat) (m_random : Int32) (m_truePlace : Int32) (m_trueWay : Int32) (m_seconds : Int32) (m_done : Int32) (m_feelings : Int32) (m_tries : Int32) (m_leftOver : Int32) (m_playDoor : Int32) (m_playRing : Int32) (m_isOpen : Int32) (m_isOver : Int32) (m_wasTried : Int32) (m_hasPlayed : Int32) (a_feltNow : Nat) (a_last : Nat) (a_kept : Nat) (m_hasSeconds : Int32) (m_hasTurned : Int32) (m_hasRound : Int32) (a_hasFeels : Nat) (a_isOn : Nat) (m_firstAct : Int32) (m_meanTop : Int64) (m_meanBy : Int64) (a_order : Nat) (m_rowMany : Int32) (m_newSteps : Int32) (g_c : Nat → Int32) (k : Int32) (f : Int32) (hC_g_c : zC g_c) : zCi l yX12_stepOf cX12_stepOf 3 (some .int) ({ frames := 2, cells := 0, slots := 0, locals := 47 }) G cA [.ref h0, .int k, .int f] [(h0, .inr (12, [.int m_status, .int m_thrown, .long m_above, .long m_under, .ref a_traySort, .ref a_trayMany, .ref a_numbers, .ref a_tape, .int m_taped, .int m_textEnd, .int m_faultKind, .int m_faultAt, .int m_bad, .int m_badAt, .int m_token, .int m_at, .int m_behind, .int m_number, .int m_letters, .long m_word, .ref a_c, .ref a_words, .int m_markMany, .ref a_there, .ref a_tried, .ref a_best, .ref a_found, .int m_thereMany, .int m_foundMany, .int m_orderHow, .int m_orderRing, .int m_orderMany, .int m_hasBest, .long m_bestTop, .long m_bestBy, .ref a_weights, .ref a_shared, .int m_random, .int m_truePlace, .int m_trueWay, .int m_seconds, .int m_done, .int m_feelings, .int m_tries, .int m_leftOver, .int m_playDoor, .int m_playRing, .int m_isOpen, .int m_isOver, .int m_wasTried, .int m_hasPlayed, .ref a_feltNow, .ref a_last, .ref a_kept, .int m_hasSeconds, .int m_hasTurned, .int m_hasRound, .ref a_hasFeels, .ref a_isOn, .int m_firstAct, .long m_meanTop, .long m_meanBy, .ref a_order, .int m_rowMany, .int m_newSteps])), (a_c, .inl (cA.1 0, 1825, .inl g_c))] (S := Int32 × Int32) (fun (r : Int32) (u : Int32 × Int32) => (r = (F_r_stepOf g_c k f).1) ∧ (u.1 = (F_r_stepOf g_c k f).2.1) ∧ (u.2 = (F_r_stepOf g_c k f).2.2) ∧ (((-1) ≤ r.toInt ∧ r.toInt ≤ 3) ∧ (0 ≤ u.2.toInt ∧ u.2.toInt ≤ 0))) (fun (u : Int32 × Int32) => [(h0, .inr (12, [.int u.1, .int u.2, .long m_above, .long m_under, .ref a_traySort, .ref a_trayMany, .ref a_numbers, .ref a_tape, .int m_taped, .int m_textEnd, .int m_faultKind, .int m_faultAt, .int m_bad, .int m_badAt, .int m_token, .int m_at, .int m_behind, .int m_number, .int m_letters, .long m_word, .ref a_c, .ref a_words, .int m_markMany, .ref a_there, .ref a_tried, .ref a_best, .ref a_found, .int m_thereMany, .int m_foundMany, .int m_orderHow, .int m_orderRing, .int m_orderMany, .int m_hasBest, .long m_bestTop, .long m_bestBy, .ref a_weights, .ref a_shared, .int m_random, .int m_truePlace, .int m_trueWay, .int m_seconds, .int m_done, .int m_feelings, .int m_tries, .int m_leftOver, .int m_playDoor, .int m_playRing, .int m_isOpen, .int m_isOver, .int m_wasTried, .int m_hasPlayed, .ref a_feltNow, .ref a_last, .ref a_kept, .int m_hasSeconds, .int m_hasTurned, .int m_hasRound, .ref a_hasFeels, .ref a_isOn, .int m_firstAct, .long m_meanTop, .long m_meanBy, .ref a_order, .int m_rowMany, .int m_newSteps])), (a_c, .inl (cA.1 0, 1825, .inl g_c))]) 0 0 := by
  have hk_2 : (2 : Int32).toInt = 2 := by decide +kernel
  have hk_3 : (3 : Int32).toInt = 3 := by decide +kernel
  have hk_65 : (65 : Int32).toInt = 65 := by decide +kernel
  refine z_start2i (own := RX12) (by decide) (Nat.le_of_ble_eq_true rfl) rfl ?_
  intro p e s m args below meth c A ls Q hx hb hml hts hown hK hE hT hP hD hS hA hl hret
  have hl : lv_has ls 3 [(0, .ref h0), (1, .int k), (2, .int f)] := hl
  refine lv_aload_n hx hb dX12_stepOf_0 rfl (lv_at hl 0 rfl) ?_
  refine lv_iconst (v := 0) hx hb dX12_stepOf_1 (by decide) ?_
  refine va_put (D := G) (ci := 12) (v := .int 0) (ty := .int) (C := RX12) (T := TX12) (N := 65) hx hb hts inT12 tyX12 tyX12_ok nmX12 hown hK hP hD hS 0 rfl rfl 1 (by decide) (hts _ tw_1886) (fun _ h9 => h9) rfl (tyX12_ok 1 (by decide)) rfl rfl (Nat.le_of_ble_eq_true rfl) dX12_stepOf_2 (fun H locs hP hD hS => ?_)
  refine lv_aload_n hx hb dX12_stepOf_5 rfl (lv_at hl 0 rfl) ?_
  refine lv_iconst (v := 0) hx hb dX12_stepOf_6 (by decide) ?_
  refine va_put (D := G) (ci := 12) (v := .int 0) (ty := .int) (C := RX12) (T := TX12) (N := 65) hx hb hts inT12 tyX12 tyX12_ok nmX12 hown hK hP hD hS 0 rfl rfl 0 (by decide) (hts _ tw_1885) (fun _ h9 => h9) rfl (tyX12_ok 0 (by decide)) rfl rfl (Nat.le_of_ble_eq_true rfl) dX12_stepOf_7 (fun H locs hP hD hS => ?_)
  refine lv_aload_n hx hb dX12_stepOf_10 rfl (lv_at hl 0 rfl) ?_
  refine lv_iload_n hx hb dX12_stepOf_11 rfl (lv_at hl 1 rfl) ?_
  refine lv_i2l (v := (k).toInt64) hx hb dX12_stepOf_12 rfl ?_
  refine lv_topl (fun x_1 he_x_1 => ?_)
  have hq_x_1 := z_i2l he_x_1
  have hL_k := z_full k
  refine z_callVi (As := [.long x_1]) (rest := []) (wr := []) ⟨hx, hb, hml, hown, hts⟩ hK hE hT hP hD hS hA (r_isKey l G cA h0 0 0 m_above m_under a_traySort a_trayMany a_numbers a_tape m_taped m_textEnd m_faultKind m_faultAt m_bad m_badAt m_token m_at m_behind m_number m_letters m_word a_c a_words m_markMany a_there a_tried a_best a_found m_thereMany m_foundMany m_orderHow m_orderRing m_orderMany m_hasBest m_bestTop m_bestBy a_weights a_shared m_random m_truePlace m_trueWay m_seconds m_done m_feelings m_tries m_leftOver m_playDoor m_playRing m_isOpen m_isOver m_wasTried m_hasPlayed a_feltNow a_last a_kept m_hasSeconds m_hasTurned m_hasRound a_hasFeels a_isOn m_firstAct m_meanTop m_meanBy a_order m_rowMany m_newSteps g_c x_1 hC_g_c) lk_RX12_275 ⟨rfl, rfl⟩ ⟨Nat.le_of_ble_eq_true rfl, Nat.le_of_ble_eq_true rfl⟩ 12 rfl rfl rfl [0, 1] [] rfl rfl (by decide) rfl hl.1 rfl (lv_room (Nat.le_of_ble_eq_true rfl)) dX12_stepOf_13 ⟨Nat.le_of_ble_eq_true rfl, Nat.le_of_ble_eq_true rfl⟩ (fun r_2 u_3 H locs hw hP hD hS => ?_)
  obtain ⟨he_r_2, hw⟩ := hw
  rcases hw with ⟨rfl, -⟩ | ⟨rfl, hf_5, hf_6⟩
  · skip
    refine lv_if_eq (tgt := 43) hx hb dX12_stepOf_16 (by decide) (fun _ => ?_) (fun h9 => absurd (by decide +kernel) h9)
    refine lv_aload_n hx hb dX12_stepOf_43 rfl (lv_at hl 0 rfl) ?_
    refine lv_iconst (v := 2) hx hb dX12_stepOf_44 (by decide) ?_
    refine z_callVi (As := [.int 2]) (rest := []) (wr := [(a_c, .inl (cA.1 0, 1825, .inl g_c))]) ⟨hx, hb, hml, hown, hts⟩ hK hE hT hP hD hS hA (r_refuse l G cA h0 0 0 m_above m_under a_traySort a_trayMany a_numbers a_tape m_taped m_textEnd m_faultKind m_faultAt m_bad m_badAt m_token m_at m_behind m_number m_letters m_word a_c a_words m_markMany a_there a_tried a_best a_found m_thereMany m_foundMany m_orderHow m_orderRing m_orderMany m_hasBest m_bestTop m_bestBy a_weights a_shared m_random m_truePlace m_trueWay m_seconds m_done m_feelings m_tries m_leftOver m_playDoor m_playRing m_isOpen m_isOver m_wasTried m_hasPlayed a_feltNow a_last a_kept m_hasSeconds m_hasTurned m_hasRound a_hasFeels a_isOn m_firstAct m_meanTop m_meanBy a_order m_rowMany m_newSteps 2) lk_RX12_269 ⟨rfl, rfl⟩ ⟨Nat.le_of_ble_eq_true rfl, Nat.le_of_ble_eq_true rfl⟩ 12 rfl rfl rfl [0] [1] rfl rfl (by decide) rfl hl.1 rfl (lv_room (Nat.le_of_ble_eq_true rfl)) dX12_stepOf_45 ⟨Nat.le_of_ble_eq_true rfl, Nat.le_of_ble_eq_true rfl⟩ (fun r_8 u_9 H locs hw hP hD hS => ?_)
    obtain ⟨n_7, rfl⟩ : ∃ z, z = u_9 := ⟨_, rfl⟩
    obtain ⟨he_r_8, he_n_7, hw⟩ := hw
    have hr_r_8 := hw
    have hpost : ((-1) ≤ r_8.toInt ∧ r_8.toInt ≤ 3) ∧ (0 ≤ (0 : Int32).toInt ∧ (0 : Int32).toInt ≤ 0) := ⟨(z_rgw hr_r_8 (by decide) (by decide)), (by decide +kernel)⟩
    have hX_11 : F_r_stepOf g_c k f = ((r_8, n_7, (0 : Int32)) : Int32 × Int32 × Int32) := by
      refine (F_r_stepOf_s ..).trans ?_
      try (extract_lets -merge -useContext +onlyGivenNames y9; have e9 : x_1 = y9 := (by first | exact he_x_1 | exact he_x_1.symm); clear_value y9; subst e9)
      extract_lets -merge -useContext +onlyGivenNames w9 y9; have e9 : (0 : Int32) = w9 := he_r_2; clear_value w9; subst e9
      refine (if_pos rfl).trans ?_
      extract_lets -merge -useContext +onlyGivenNames w9 y3_0 y3_1; have e9 : (r_8, n_7) = w9 := ((z_tS he_r_8 he_n_7.symm)).symm; clear_value w9; subst e9
      exact rfl
    exact hret _ _ _ _ _ _ (n_7, 0) [1, 0] hP hD hS rfl (by decide) dX12_stepOf_48 ⟨(congrArg (fun z9 => z9.1) hX_11).symm, (congrArg (fun z9 => z9.2.1) hX_11).symm, (congrArg (fun z9 => z9.2.2) hX_11).symm, hpost⟩
  · skip
    refine lv_if_eq (tgt := 43) hx hb dX12_stepOf_16 (by decide) (fun h9 => absurd h9 (by decide +kernel)) (fun _ => ?_)
    refine lv_aload_n hx hb dX12_stepOf_19 rfl (lv_at hl 0 rfl) ?_
    refine lv_iload_n hx hb dX12_stepOf_20 rfl (lv_at hl 2 rfl) ?_
    refine z_callVi (As := [.int f]) (rest := []) (wr := []) ⟨hx, hb, hml, hown, hts⟩ hK hE hT hP hD hS hA (r_isFeature l G cA h0 0 0 m_above m_under a_traySort a_trayMany a_numbers a_tape m_taped m_textEnd m_faultKind m_faultAt m_bad m_badAt m_token m_at m_behind m_number m_letters m_word a_c a_words m_markMany a_there a_tried a_best a_found m_thereMany m_foundMany m_orderHow m_orderRing m_orderMany m_hasBest m_bestTop m_bestBy a_weights a_shared m_random m_truePlace m_trueWay m_seconds m_done m_feelings m_tries m_leftOver m_playDoor m_playRing m_isOpen m_isOver m_wasTried m_hasPlayed a_feltNow a_last a_kept m_hasSeconds m_hasTurned m_hasRound a_hasFeels a_isOn m_firstAct m_meanTop m_meanBy a_order m_rowMany m_newSteps g_c f hC_g_c) lk_RX12_264 ⟨rfl, rfl⟩ ⟨Nat.le_of_ble_eq_true rfl, Nat.le_of_ble_eq_true rfl⟩ 12 rfl rfl rfl [0, 1] [] rfl rfl (by decide) rfl hl.1 rfl (lv_room (Nat.le_of_ble_eq_true rfl)) dX12_stepOf_21 ⟨Nat.le_of_ble_eq_true rfl, Nat.le_of_ble_eq_true rfl⟩ (fun r_12 u_13 H locs hw hP hD hS => ?_)
    obtain ⟨he_r_12, hw⟩ := hw
    rcases hw with ⟨rfl, -⟩ | ⟨rfl, hf_15, hf_16⟩
    · skip
      refine lv_if_eq (tgt := 43) hx hb dX12_stepOf_24 (by decide) (fun _ => ?_) (fun h9 => absurd (by decide +kernel) h9)
      refine lv_aload_n hx hb dX12_stepOf_43 rfl (lv_at hl 0 rfl) ?_
      refine lv_iconst (v := 2) hx hb dX12_stepOf_44 (by decide) ?_
      refine z_callVi (As := [.int 2]) (rest := []) (wr := [(a_c, .inl (cA.1 0, 1825, .inl g_c))]) ⟨hx, hb, hml, hown, hts⟩ hK hE hT hP hD hS hA (r_refuse l G cA h0 0 0 m_above m_under a_traySort a_trayMany a_numbers a_tape m_taped m_textEnd m_faultKind m_faultAt m_bad m_badAt m_token m_at m_behind m_number m_letters m_word a_c a_words m_markMany a_there a_tried a_best a_found m_thereMany m_foundMany m_orderHow m_orderRing m_orderMany m_hasBest m_bestTop m_bestBy a_weights a_shared m_random m_truePlace m_trueWay m_seconds m_done m_feelings m_tries m_leftOver m_playDoor m_playRing m_isOpen m_isOver m_wasTried m_hasPlayed a_feltNow a_last a_kept m_hasSeconds m_hasTurned m_hasRound a_hasFeels a_isOn m_firstAct m_meanTop m_meanBy a_order m_rowMany m_newSteps 2) lk_RX12_269 ⟨rfl, rfl⟩ ⟨Nat.le_of_ble_eq_true rfl, Nat.le_of_ble_eq_true rfl⟩ 12 rfl rfl rfl [0] [1] rfl rfl (by decide) rfl hl.1 rfl (lv_room (Nat.le_of_ble_eq_true rfl)) dX12_stepOf_45 ⟨Nat.le_of_ble_eq_true rfl, Nat.le_of_ble_eq_true rfl⟩ (fun r_18 u_19 H locs hw hP hD hS => ?_)
      obtain ⟨n_17, rfl⟩ : ∃ z, z = u_19 := ⟨_, rfl⟩
      obtain ⟨he_r_18, he_n_17, hw⟩ := hw
      have hr_r_18 := hw
      have hpost : ((-1) ≤ r_18.toInt ∧ r_18.toInt ≤ 3) ∧ (0 ≤ (0 : Int32).toInt ∧ (0 : Int32).toInt ≤ 0) := ⟨(z_rgw hr_r_18 (by decide) (by decide)), (by decide +kernel)⟩
      have hX_21 : F_r_stepOf g_c k f = ((r_18, n_17, (0 : Int32)) : Int32 × Int32 × Int32) := by
        refine (F_r_stepOf_s ..).trans ?_
        try (extract_lets -merge -useContext +onlyGivenNames y9; have e9 : x_1 = y9 := (by first | exact he_x_1 | exact he_x_1.symm); clear_value y9; subst e9)
        extract_lets -merge -useContext +onlyGivenNames w9 y9; have e9 : (1 : Int32) = w9 := he_r_2; clear_value w9; subst e9
        refine (if_neg (show ¬ (1 : Int32) = 0 by decide)).trans ?_
        extract_lets -merge -useContext +onlyGivenNames w9 y9; have e9 : (0 : Int32) = w9 := he_r_12; clear_value w9; subst e9
        refine (if_pos rfl).trans ?_
        extract_lets -merge -useContext +onlyGivenNames w9 y5_0 y5_1; have e9 : (r_18, n_17) = w9 := ((z_tS he_r_18 he_n_17.symm)).symm; clear_value w9; subst e9
        exact rfl
      exact hret _ _ _ _ _ _ (n_17, 0) [1, 0] hP hD hS rfl (by decide) dX12_stepOf_48 ⟨(congrArg (fun z9 => z9.1) hX_21).symm, (congrArg (fun z9 => z9.2.1) hX_21).symm, (congrArg (fun z9 => z9.2.2) hX_21).symm, hpost⟩
    · skip
      refine lv_if_eq (tgt := 43) hx hb dX12_stepOf_24 (by decide) (fun h9 => absurd h9 (by decide +kernel)) (fun _ => ?_)
      refine lv_aload_n hx hb dX12_stepOf_27 rfl (lv_at hl 0 rfl) ?_
      refine va_get (D := G) (ci := 12) (v := .ref a_c) (C := RX12) (T := TX12) (N := 65) hx hb hts inT12 hown hK hP 0 rfl rfl 20 (by decide) (hts _ tw_1905) (fun _ h9 => h9) rfl dX12_stepOf_28 ?_
      refine lv_bipush (v := 65) hx hb dX12_stepOf_31 (by decide) ?_
      refine lv_iconst (v := 3) hx hb dX12_stepOf_33 (by decide) ?_
      refine lv_iload_n hx hb dX12_stepOf_34 rfl (lv_at hl 1 rfl) ?_
      refine lv_imul hx hb dX12_stepOf_35 ?_
      refine lv_topi (fun x_22 he_x_22 => ?_)
      have hq_x_22 := z_mulq he_x_22 hk_3 (rfl : k.toInt = _) (by omega) (by omega)
      refine lv_iadd hx hb dX12_stepOf_36 ?_
      refine lv_topi (fun x_23 he_x_23 => ?_)
      have hq_x_23 := z_addq he_x_23 hk_65 (rfl : x_22.toInt = _) (by omega) (by omega)
      refine lv_iload_n hx hb dX12_stepOf_37 rfl (lv_at hl 2 rfl) ?_
      refine lv_iadd hx hb dX12_stepOf_38 ?_
      refine lv_topi (fun x_24 he_x_24 => ?_)
      have hq_x_24 := z_addq he_x_24 (rfl : x_23.toInt = _) (rfl : f.toInt = _) (by omega) (by omega)
      refine va_iald hx hb hK hP 1 0 rfl rfl (z_inN (by omega) (by omega)) dX12_stepOf_39 ?_
      refine lv_topi (fun x_25 he_x_25 => ?_)
      have hr_x_25 := z_ct hC_g_c he_x_25 (a := 65) (b := 94) (lo := 0) (hi := 3) (by decide +kernel) (by decide) (by omega) (by omega)
      refine lv_goto (tgt := 48) hx hb dX12_stepOf_40 (by decide) ?_
      have hpost : ((-1) ≤ x_25.toInt ∧ x_25.toInt ≤ 3) ∧ (0 ≤ (0 : Int32).toInt ∧ (0 : Int32).toInt ≤ 0) := ⟨(z_rgw hr_x_25 (by decide) (by decide)), (by decide +kernel)⟩
      have hX_26 : F_r_stepOf g_c k f = ((x_25, (0 : Int32), (0 : Int32)) : Int32 × Int32 × Int32) := by
        refine (F_r_stepOf_s ..).trans ?_
        try (extract_lets -merge -useContext +onlyGivenNames y9; have e9 : x_1 = y9 := (by first | exact he_x_1 | exact he_x_1.symm); clear_value y9; subst e9)
        extract_lets -merge -useContext +onlyGivenNames w9 y9; have e9 : (1 : Int32) = w9 := he_r_2; clear_value w9; subst e9
        refine (if_neg (show ¬ (1 : Int32) = 0 by decide)).trans ?_
        extract_lets -merge -useContext +onlyGivenNames w9 y9; have e9 : (1 : Int32) = w9 := he_r_12; clear_value w9; subst e9
        refine (if_neg (show ¬ (1 : Int32) = 0 by decide)).trans ?_
        try (extract_lets -merge -useContext +onlyGivenNames y9; have e9 : x_22 = y9 := (by first | exact he_x_22 | exact he_x_22.symm); clear_value y9; subst e9)
        try (extract_lets -merge -useContext +onlyGivenNames y9; have e9 : x_23 = y9 := (by first | exact he_x_23 | exact he_x_23.symm); clear_value y9; subst e9)
        try (extract_lets -merge -useContext +onlyGivenNames y9; have e9 : x_24 = y9 := (by first | exact he_x_24 | exact he_x_24.symm); clear_value y9; subst e9)
        try (extract_lets -merge -useContext +onlyGivenNames y9; have e9 : x_25 = y9 := (by first | exact he_x_25 | exact he_x_25.symm); clear_value y9; subst e9)
        exact rfl
      exact hret _ _ _ _ _ _ (0, 0) [0, 1] hP hD hS rfl (by decide) dX12_stepOf_48 ⟨(congrArg (fun z9 => z9.1) hX_26).symm, (congrArg (fun z9 => z9.2.1) hX_26).symm, (congrArg (fun z9 => z9.2.2) hX_26).symm, hpost⟩
set_option maxHeartbeats 40000000 in
set_option maxRecDepth 100000 in
theorem r_ringOf (l : Launch) (G : va_G) (cA : zCA) (h0 : Nat) (m_status : Int32) (m_thrown : Int32) (m_above : Int64) (m_under : Int64) (a_traySort : Nat) (a_trayMany : Nat) (a_numbers : Nat) (a_tape : Nat) (m_taped : Int32) (m_textEnd : Int32) (m_faultKind : Int32) (m_faultAt : Int32) (m_bad : Int32) (m_badAt : Int32) (m_token : Int32) (m_at : Int32) (m_behind : Int32) (m_number : Int32) (m_letters : Int32) (m_word : Int64) (a_c : Nat) (a_words : Nat) (m_markMany : Int32) (a_there : Nat) (a_tried : Nat) (a_best : Nat) (a_found : Nat) (m_thereMany : Int32) (m_foundMany : Int32) (m_orderHow : Int32) (m_orderRing : Int32) (m_orderMany : Int32) (m_hasBest : Int32) (m_bestTop : Int64) (m_bestBy : Int64) (a_weights : Nat) (a_shared : Nat) (m_random : Int32) (m_truePlace : Int32) (m_trueWay : Int32) (m_seconds : Int32) (m_done : Int32) (m_feelings : Int32) (m_tries : Int32) (m_leftOver : Int32) (m_playDoor : Int32) (m_playRing : Int32) (m_isOpen : Int32) (m_isOver : Int32) (m_wasTried : Int32) (m_hasPlayed : Int32) (a_feltNow : Nat) (a_last : Nat) (a_kept : Nat) (m_hasSeconds : Int32) (m_hasTurned : Int32) (m_hasRound : Int32) (a_hasFeels : Nat) (a_isOn : Nat) (m_firstAct : Int32) (m_meanTop : Int64) (m_meanBy : Int64) (a_order : Nat) (m_rowMany : Int32) (m_newSteps : Int32) (g_c : Nat → Int32) (k : Int32) (hr_k : 0 ≤ k.toInt ∧ k.toInt ≤ 9) (hC_g_c : zC g_c) : zCi l yX12_ringOf cX12_ringOf 4 (some .int) ({ frames := 0, cells := 0, slots := 0, locals := 0 }) G cA [.ref h0, .int k] [(h0, .inr (12, [.int m_status, .int m_thrown, .long m_above, .long m_under, .ref a_traySort, .ref a_trayMany, .ref a_numbers, .ref a_tape, .int m_taped, .int m_textEnd, .int m_faultKind, .int m_faultAt, .int m_bad, .int m_badAt, .int m_token, .int m_at, .int m_behind, .int m_number, .int m_letters, .long m_word, .ref a_c, .ref a_words, .int m_markMany, .ref a_there, .ref a_tried, .ref a_best, .ref a_found, .int m_thereMany, .int m_foundMany, .int m_orderHow, .int m_orderRing, .int m_orderMany, .int m_hasBest, .long m_bestTop, .long m_bestBy, .ref a_weights, .ref a_shared, .int m_random, .int m_truePlace, .int m_trueWay, .int m_seconds, .int m_done, .int m_feelings, .int m_tries, .int m_leftOver, .int m_playDoor, .int m_playRing, .int m_isOpen, .int m_isOver, .int m_wasTried, .int m_hasPlayed, .ref a_feltNow, .ref a_last, .ref a_kept, .int m_hasSeconds, .int m_hasTurned, .int m_hasRound, .ref a_hasFeels, .ref a_isOn, .int m_firstAct, .long m_meanTop, .long m_meanBy, .ref a_order, .int m_rowMany, .int m_newSteps])), (a_c, .inl (cA.1 0, 1825, .inl g_c))] (S := Unit) (fun (r : Int32) (u : Unit) => (r = (F_r_ringOf g_c k)) ∧ (((-1) ≤ r.toInt ∧ r.toInt ≤ 2) ∧ (zRO g_c k.toInt r.toInt))) (fun (u : Unit) => [(h0, .inr (12, [.int m_status, .int m_thrown, .long m_above, .long m_under, .ref a_traySort, .ref a_trayMany, .ref a_numbers, .ref a_tape, .int m_taped, .int m_textEnd, .int m_faultKind, .int m_faultAt, .int m_bad, .int m_badAt, .int m_token, .int m_at, .int m_behind, .int m_number, .int m_letters, .long m_word, .ref a_c, .ref a_words, .int m_markMany, .ref a_there, .ref a_tried, .ref a_best, .ref a_found, .int m_thereMany, .int m_foundMany, .int m_orderHow, .int m_orderRing, .int m_orderMany, .int m_hasBest, .long m_bestTop, .long m_bestBy, .ref a_weights, .ref a_shared, .int m_random, .int m_truePlace, .int m_trueWay, .int m_seconds, .int m_done, .int m_feelings, .int m_tries, .int m_leftOver, .int m_playDoor, .int m_playRing, .int m_isOpen, .int m_isOver, .int m_wasTried, .int m_hasPlayed, .ref a_feltNow, .ref a_last, .ref a_kept, .int m_hasSeconds, .int m_hasTurned, .int m_hasRound, .ref a_hasFeels, .ref a_isOn, .int m_firstAct, .long m_meanTop, .long m_meanBy, .ref a_order, .int m_rowMany, .int m_newSteps])), (a_c, .inl (cA.1 0, 1825, .inl g_c))]) 0 0 := by
  have hk_m1 : ((-1) : Int32).toInt = (-1) := by decide +kernel
  have hk_0 : (0 : Int32).toInt = 0 := by decide +kernel
  have hk_1 : (1 : Int32).toInt = 1 := by decide +kernel
  have hk_10 : (10 : Int32).toInt = 10 := by decide +kernel
  have hk_95 : (95 : Int32).toInt = 95 := by decide +kernel
  have hk_98 : (98 : Int32).toInt = 98 := by decide +kernel
  refine z_start2i (own := RX12) (by decide) (Nat.le_of_ble_eq_true rfl) rfl ?_
  intro p e s m args below meth c A ls Q hx hb hml hts hown hK hE hT hP hD hS hA hl hret
  have hl : lv_has ls 4 [(0, .ref h0), (1, .int k)] := hl
  refine lv_iconst (v := 0) hx hb dX12_ringOf_0 (by decide) ?_
  refine lv_istore_n (lv' := [(2, .int 0), (0, .ref h0), (1, .int k)]) hx hb dX12_ringOf_1 rfl hl (by decide) rfl (fun ls hl => ?_)
  have hlp_1102 : ∀ (n_L2a : Nat) (v_711 : Int32) (H : Heap) (locs : List Loc) (ls : Array Slot), (2147483647 - v_711.toInt).toNat < n_L2a → (0 ≤ v_711.toInt ∧ v_711.toInt ≤ 3) → (zNo g_c k.toInt v_711.toInt 0) → (F_r_ringOf g_c k = F_r_ringOf_L2a g_c k n_L2a v_711) → va_P G vwCl [(h0, .inr (12, [.int m_status, .int m_thrown, .long m_above, .long m_under, .ref a_traySort, .ref a_trayMany, .ref a_numbers, .ref a_tape, .int m_taped, .int m_textEnd, .int m_faultKind, .int m_faultAt, .int m_bad, .int m_badAt, .int m_token, .int m_at, .int m_behind, .int m_number, .int m_letters, .long m_word, .ref a_c, .ref a_words, .int m_markMany, .ref a_there, .ref a_tried, .ref a_best, .ref a_found, .int m_thereMany, .int m_foundMany, .int m_orderHow, .int m_orderRing, .int m_orderMany, .int m_hasBest, .long m_bestTop, .long m_bestBy, .ref a_weights, .ref a_shared, .int m_random, .int m_truePlace, .int m_trueWay, .int m_seconds, .int m_done, .int m_feelings, .int m_tries, .int m_leftOver, .int m_playDoor, .int m_playRing, .int m_isOpen, .int m_isOver, .int m_wasTried, .int m_hasPlayed, .ref a_feltNow, .ref a_last, .ref a_kept, .int m_hasSeconds, .int m_hasTurned, .int m_hasRound, .ref a_hasFeels, .ref a_isOn, .int m_firstAct, .long m_meanTop, .long m_meanBy, .ref a_order, .int m_rowMany, .int m_newSteps])), (a_c, .inl (cA.1 0, 1825, .inl g_c))] H → va_D A [(h0, .inr (12, [.int m_status, .int m_thrown, .long m_above, .long m_under, .ref a_traySort, .ref a_trayMany, .ref a_numbers, .ref a_tape, .int m_taped, .int m_textEnd, .int m_faultKind, .int m_faultAt, .int m_bad, .int m_badAt, .int m_token, .int m_at, .int m_behind, .int m_number, .int m_letters, .long m_word, .ref a_c, .ref a_words, .int m_markMany, .ref a_there, .ref a_tried, .ref a_best, .ref a_found, .int m_thereMany, .int m_foundMany, .int m_orderHow, .int m_orderRing, .int m_orderMany, .int m_hasBest, .long m_bestTop, .long m_bestBy, .ref a_weights, .ref a_shared, .int m_random, .int m_truePlace, .int m_trueWay, .int m_seconds, .int m_done, .int m_feelings, .int m_tries, .int m_leftOver, .int m_playDoor, .int m_playRing, .int m_isOpen, .int m_isOver, .int m_wasTried, .int m_hasPlayed, .ref a_feltNow, .ref a_last, .ref a_kept, .int m_hasSeconds, .int m_hasTurned, .int m_hasRound, .ref a_hasFeels, .ref a_isOn, .int m_firstAct, .long m_meanTop, .long m_meanBy, .ref a_order, .int m_rowMany, .int m_newSteps])), (a_c, .inl (cA.1 0, 1825, .inl g_c))] → va_S A s.heap H locs → lv_has ls 4 [(0, .ref h0), (1, .int k), (2, .int v_711)] → W p l e ({ frames := 0, cells := 0, slots := 0, locals := 0 }) s m args below meth c H locs 0 0 Q (F0 m 2 ls []) := by
    intro n_L2a
    induction n_L2a with
    | zero =>
      intro v_711 H locs ls hmu_hlp_1102 hr_v_711 hi_899 hF_L2a hP hD hS hl
      exact absurd hmu_hlp_1102 (Nat.not_lt_zero _)
    | succ n_L2a ih_1103 =>
      intro v_711 H locs ls hmu_hlp_1102 hr_v_711 hi_899 hF_L2a hP hD hS hl
      refine lv_iload_n hx hb dX12_ringOf_2 rfl (lv_at hl 2 rfl) ?_
      refine lv_aload_n hx hb dX12_ringOf_3 rfl (lv_at hl 0 rfl) ?_
      refine va_get (D := G) (ci := 12) (v := .ref a_c) (C := RX12) (T := TX12) (N := 65) hx hb hts inT12 hown hK hP 0 rfl rfl 20 (by decide) (hts _ tw_1905) (fun _ h9 => h9) rfl dX12_ringOf_4 ?_
      refine lv_iconst (v := 2) hx hb dX12_ringOf_7 (by decide) ?_
      refine va_iald hx hb hK hP 1 0 rfl rfl (z_in (i := 2) (n := 1825) (by decide +kernel) (by decide +kernel)) dX12_ringOf_8 ?_
      refine lv_topi (fun x_1104 he_x_1104 => ?_)
      have hr_x_1104 := z_ctk hC_g_c he_x_1104 (k := 2) (lo := 0) (hi := 3) (by decide +kernel) (by decide +kernel) (by decide +kernel)
      have hv_x_1104 := z_cv he_x_1104 (k := 2) (by decide +kernel)
      refine lv_icmp_ge (tgt := 59) hx hb dX12_ringOf_9 (by decide) (fun c_1105 => ?_) (fun c_1105 => ?_)
      · have b_1106 := z_fgeT c_1105
        refine lv_iconst (v := (-1)) hx hb dX12_ringOf_59 (by decide) ?_
        have hpost : ((-1) ≤ ((-1) : Int32).toInt ∧ ((-1) : Int32).toInt ≤ 2) ∧ (zRO g_c k.toInt ((-1) : Int32).toInt) := ⟨(by decide +kernel), (zRO_none hi_899 (by omega))⟩
        have hX_1107 : F_r_ringOf g_c k = ((-1 : Int32) : Int32) := by
          refine hF_L2a.trans ?_
          refine (F_r_ringOf_L2a_s ..).trans ?_
          try (extract_lets -merge -useContext +onlyGivenNames y9; have e9 : x_1104 = y9 := (by first | exact he_x_1104 | exact he_x_1104.symm); clear_value y9; subst e9)
          refine (if_pos c_1105).trans ?_
          exact rfl
        exact hret _ _ _ _ _ _ () [0, 1] hP hD hS rfl (by decide) dX12_ringOf_60 ⟨(congrArg (fun z9 => z9) hX_1107).symm, hpost⟩
      · have b_1108 := z_fltF c_1105
        refine lv_iconst (v := 0) hx hb dX12_ringOf_12 (by decide) ?_
        refine lv_istore_n (lv' := [(3, .int 0), (0, .ref h0), (1, .int k), (2, .int v_711)]) hx hb dX12_ringOf_13 rfl hl (by decide) rfl (fun ls hl => ?_)
        have hlp_1290 : ∀ (n_L14a : Nat) (v_1261 : Int32) (H : Heap) (locs : List Loc) (ls : Array Slot), (2147483647 - v_1261.toInt).toNat < n_L14a → (0 ≤ v_1261.toInt ∧ v_1261.toInt ≤ 10) → (zNo g_c k.toInt v_711.toInt v_1261.toInt) → (F_r_ringOf g_c k = F_r_ringOf_L14a g_c k v_711 (F_r_ringOf_L2a g_c k n_L2a) n_L14a v_1261) → va_P G vwCl [(h0, .inr (12, [.int m_status, .int m_thrown, .long m_above, .long m_under, .ref a_traySort, .ref a_trayMany, .ref a_numbers, .ref a_tape, .int m_taped, .int m_textEnd, .int m_faultKind, .int m_faultAt, .int m_bad, .int m_badAt, .int m_token, .int m_at, .int m_behind, .int m_number, .int m_letters, .long m_word, .ref a_c, .ref a_words, .int m_markMany, .ref a_there, .ref a_tried, .ref a_best, .ref a_found, .int m_thereMany, .int m_foundMany, .int m_orderHow, .int m_orderRing, .int m_orderMany, .int m_hasBest, .long m_bestTop, .long m_bestBy, .ref a_weights, .ref a_shared, .int m_random, .int m_truePlace, .int m_trueWay, .int m_seconds, .int m_done, .int m_feelings, .int m_tries, .int m_leftOver, .int m_playDoor, .int m_playRing, .int m_isOpen, .int m_isOver, .int m_wasTried, .int m_hasPlayed, .ref a_feltNow, .ref a_last, .ref a_kept, .int m_hasSeconds, .int m_hasTurned, .int m_hasRound, .ref a_hasFeels, .ref a_isOn, .int m_firstAct, .long m_meanTop, .long m_meanBy, .ref a_order, .int m_rowMany, .int m_newSteps])), (a_c, .inl (cA.1 0, 1825, .inl g_c))] H → va_D A [(h0, .inr (12, [.int m_status, .int m_thrown, .long m_above, .long m_under, .ref a_traySort, .ref a_trayMany, .ref a_numbers, .ref a_tape, .int m_taped, .int m_textEnd, .int m_faultKind, .int m_faultAt, .int m_bad, .int m_badAt, .int m_token, .int m_at, .int m_behind, .int m_number, .int m_letters, .long m_word, .ref a_c, .ref a_words, .int m_markMany, .ref a_there, .ref a_tried, .ref a_best, .ref a_found, .int m_thereMany, .int m_foundMany, .int m_orderHow, .int m_orderRing, .int m_orderMany, .int m_hasBest, .long m_bestTop, .long m_bestBy, .ref a_weights, .ref a_shared, .int m_random, .int m_truePlace, .int m_trueWay, .int m_seconds, .int m_done, .int m_feelings, .int m_tries, .int m_leftOver, .int m_playDoor, .int m_playRing, .int m_isOpen, .int m_isOver, .int m_wasTried, .int m_hasPlayed, .ref a_feltNow, .ref a_last, .ref a_kept, .int m_hasSeconds, .int m_hasTurned, .int m_hasRound, .ref a_hasFeels, .ref a_isOn, .int m_firstAct, .long m_meanTop, .long m_meanBy, .ref a_order, .int m_rowMany, .int m_newSteps])), (a_c, .inl (cA.1 0, 1825, .inl g_c))] → va_S A s.heap H locs → lv_has ls 4 [(0, .ref h0), (1, .int k), (2, .int v_711), (3, .int v_1261)] → W p l e ({ frames := 0, cells := 0, slots := 0, locals := 0 }) s m args below meth c H locs 0 0 Q (F0 m 14 ls []) := by
          intro n_L14a
          induction n_L14a with
          | zero =>
            intro v_1261 H locs ls hmu_hlp_1290 hr_v_1261 hi_1275 hF_L14a hP hD hS hl
            exact absurd hmu_hlp_1290 (Nat.not_lt_zero _)
          | succ n_L14a ih_1291 =>
            intro v_1261 H locs ls hmu_hlp_1290 hr_v_1261 hi_1275 hF_L14a hP hD hS hl
            refine lv_iload_n hx hb dX12_ringOf_14 rfl (lv_at hl 3 rfl) ?_
            refine lv_aload_n hx hb dX12_ringOf_15 rfl (lv_at hl 0 rfl) ?_
            refine va_get (D := G) (ci := 12) (v := .ref a_c) (C := RX12) (T := TX12) (N := 65) hx hb hts inT12 hown hK hP 0 rfl rfl 20 (by decide) (hts _ tw_1905) (fun _ h9 => h9) rfl dX12_ringOf_16 ?_
            refine lv_bipush (v := 95) hx hb dX12_ringOf_19 (by decide) ?_
            refine lv_iload_n hx hb dX12_ringOf_21 rfl (lv_at hl 2 rfl) ?_
            refine lv_iadd hx hb dX12_ringOf_22 ?_
            refine lv_topi (fun x_1292 he_x_1292 => ?_)
            have hq_x_1292 := z_addq he_x_1292 hk_95 (rfl : v_711.toInt = _) (by omega) (by omega)
            refine va_iald hx hb hK hP 1 0 rfl rfl (z_inN (by omega) (by omega)) dX12_ringOf_23 ?_
            refine lv_topi (fun x_1293 he_x_1293 => ?_)
            have hr_x_1293 := z_ct hC_g_c he_x_1293 (a := 95) (b := 97) (lo := 0) (hi := 10) (by decide +kernel) (by decide) (by omega) (by omega)
            refine lv_icmp_ge (tgt := 53) hx hb dX12_ringOf_24 (by decide) (fun c_1294 => ?_) (fun c_1294 => ?_)
            · have b_1295 := z_fgeT c_1294
              obtain ⟨x_1296, he_x_1296⟩ : ∃ z : Int32, z = v_711 + 1 := ⟨_, rfl⟩
              have hq_x_1296 := z_addq he_x_1296 (rfl : v_711.toInt = _) hk_1 (by omega) (by omega)
              refine lv_iinc (v := x_1296) (lv' := [(2, .int x_1296), (0, .ref h0), (1, .int k), (3, .int v_1261)]) hx hb dX12_ringOf_53 hl (k := 2) rfl ((z_ofi (by decide +kernel)).trans he_x_1296.symm) (by decide) rfl (fun ls hl => ?_)
              refine lv_goto (tgt := 2) hx hb dX12_ringOf_56 (by decide) ?_
              have hX_1297 : F_r_ringOf g_c k = F_r_ringOf_L2a g_c k n_L2a x_1296 := by
                refine hF_L14a.trans ?_
                refine (F_r_ringOf_L14a_s ..).trans ?_
                try (extract_lets -merge -useContext +onlyGivenNames y9; have e9 : x_1292 = y9 := (by first | exact he_x_1292 | exact he_x_1292.symm); clear_value y9; subst e9)
                try (extract_lets -merge -useContext +onlyGivenNames y9; have e9 : x_1293 = y9 := (by first | exact he_x_1293 | exact he_x_1293.symm); clear_value y9; subst e9)
                refine (if_pos c_1294).trans ?_
                try (extract_lets -merge -useContext +onlyGivenNames y9; have e9 : x_1296 = y9 := (by first | exact he_x_1296 | exact he_x_1296.symm); clear_value y9; subst e9)
                exact rfl
              exact ih_1103 x_1296 H locs ls (by omega) (by omega) (by rw [hq_x_1296]; exact zNo_next hi_1275 he_x_1293 (by omega) (by omega) (by omega)) hX_1297 hP hD hS (lv_sub hl [1, 2, 0] rfl)
            · have b_1298 := z_fltF c_1294
              refine lv_aload_n hx hb dX12_ringOf_27 rfl (lv_at hl 0 rfl) ?_
              refine va_get (D := G) (ci := 12) (v := .ref a_c) (C := RX12) (T := TX12) (N := 65) hx hb hts inT12 hown hK hP 0 rfl rfl 20 (by decide) (hts _ tw_1905) (fun _ h9 => h9) rfl dX12_ringOf_28 ?_
              refine lv_bipush (v := 98) hx hb dX12_ringOf_31 (by decide) ?_
              refine lv_bipush (v := 10) hx hb dX12_ringOf_33 (by decide) ?_
              refine lv_iload_n hx hb dX12_ringOf_35 rfl (lv_at hl 2 rfl) ?_
              refine lv_imul hx hb dX12_ringOf_36 ?_
              refine lv_topi (fun x_1299 he_x_1299 => ?_)
              have hq_x_1299 := z_mulq he_x_1299 hk_10 (rfl : v_711.toInt = _) (by omega) (by omega)
              refine lv_iadd hx hb dX12_ringOf_37 ?_
              refine lv_topi (fun x_1300 he_x_1300 => ?_)
              have hq_x_1300 := z_addq he_x_1300 hk_98 (rfl : x_1299.toInt = _) (by omega) (by omega)
              refine lv_iload_n hx hb dX12_ringOf_38 rfl (lv_at hl 3 rfl) ?_
              refine lv_iadd hx hb dX12_ringOf_39 ?_
              refine lv_topi (fun x_1301 he_x_1301 => ?_)
              have hq_x_1301 := z_addq he_x_1301 (rfl : x_1300.toInt = _) (rfl : v_1261.toInt = _) (by omega) (by omega)
              refine va_iald hx hb hK hP 1 0 rfl rfl (z_inN (by omega) (by omega)) dX12_ringOf_40 ?_
              refine lv_topi (fun x_1302 he_x_1302 => ?_)
              have hr_x_1302 := z_ct hC_g_c he_x_1302 (a := 98) (b := 127) (lo := 0) (hi := 9) (by decide +kernel) (by decide) (by omega) (by omega)
              refine lv_iload_n hx hb dX12_ringOf_41 rfl (lv_at hl 1 rfl) ?_
              refine lv_icmp_ne (tgt := 47) hx hb dX12_ringOf_42 (by decide) (fun c_1303 => ?_) (fun c_1303 => ?_)
              · have b_1304 := z_fneT c_1303
                obtain ⟨x_1305, he_x_1305⟩ : ∃ z : Int32, z = v_1261 + 1 := ⟨_, rfl⟩
                have hq_x_1305 := z_addq he_x_1305 (rfl : v_1261.toInt = _) hk_1 (by omega) (by omega)
                refine lv_iinc (v := x_1305) (lv' := [(3, .int x_1305), (0, .ref h0), (1, .int k), (2, .int v_711)]) hx hb dX12_ringOf_47 hl (k := 3) rfl ((z_ofi (by decide +kernel)).trans he_x_1305.symm) (by decide) rfl (fun ls hl => ?_)
                refine lv_goto (tgt := 14) hx hb dX12_ringOf_50 (by decide) ?_
                have hX_1306 : F_r_ringOf g_c k = F_r_ringOf_L14a g_c k v_711 (F_r_ringOf_L2a g_c k n_L2a) n_L14a x_1305 := by
                  refine hF_L14a.trans ?_
                  refine (F_r_ringOf_L14a_s ..).trans ?_
                  try (extract_lets -merge -useContext +onlyGivenNames y9; have e9 : x_1292 = y9 := (by first | exact he_x_1292 | exact he_x_1292.symm); clear_value y9; subst e9)
                  try (extract_lets -merge -useContext +onlyGivenNames y9; have e9 : x_1293 = y9 := (by first | exact he_x_1293 | exact he_x_1293.symm); clear_value y9; subst e9)
                  refine (if_neg c_1294).trans ?_
                  try (extract_lets -merge -useContext +onlyGivenNames y9; have e9 : x_1299 = y9 := (by first | exact he_x_1299 | exact he_x_1299.symm); clear_value y9; subst e9)
                  try (extract_lets -merge -useContext +onlyGivenNames y9; have e9 : x_1300 = y9 := (by first | exact he_x_1300 | exact he_x_1300.symm); clear_value y9; subst e9)
                  try (extract_lets -merge -useContext +onlyGivenNames y9; have e9 : x_1301 = y9 := (by first | exact he_x_1301 | exact he_x_1301.symm); clear_value y9; subst e9)
                  try (extract_lets -merge -useContext +onlyGivenNames y9; have e9 : x_1302 = y9 := (by first | exact he_x_1302 | exact he_x_1302.symm); clear_value y9; subst e9)
                  refine (if_neg c_1303).trans ?_
                  try (extract_lets -merge -useContext +onlyGivenNames y9; have e9 : x_1305 = y9 := (by first | exact he_x_1305 | exact he_x_1305.symm); clear_value y9; subst e9)
                  exact rfl
                exact ih_1291 x_1305 H locs ls (by omega) (by omega) (by rw [hq_x_1305]; exact zNo_step hi_1275 he_x_1302 (by omega) (by omega) (by omega) (by omega)) hX_1306 hP hD hS (lv_sub hl [1, 2, 3, 0] rfl)
              · have b_1307 := z_feqF c_1303
                refine lv_iload_n hx hb dX12_ringOf_45 rfl (lv_at hl 2 rfl) ?_
                have hpost : ((-1) ≤ v_711.toInt ∧ v_711.toInt ≤ 2) ∧ (zRO g_c k.toInt v_711.toInt) := ⟨(by omega), (zRO_found hi_1275 (by omega) (by omega) (by omega) he_x_1302 (by omega) he_x_1293 (by omega) (by omega) (by omega))⟩
                have hX_1308 : F_r_ringOf g_c k = (v_711 : Int32) := by
                  refine hF_L14a.trans ?_
                  refine (F_r_ringOf_L14a_s ..).trans ?_
                  try (extract_lets -merge -useContext +onlyGivenNames y9; have e9 : x_1292 = y9 := (by first | exact he_x_1292 | exact he_x_1292.symm); clear_value y9; subst e9)
                  try (extract_lets -merge -useContext +onlyGivenNames y9; have e9 : x_1293 = y9 := (by first | exact he_x_1293 | exact he_x_1293.symm); clear_value y9; subst e9)
                  refine (if_neg c_1294).trans ?_
                  try (extract_lets -merge -useContext +onlyGivenNames y9; have e9 : x_1299 = y9 := (by first | exact he_x_1299 | exact he_x_1299.symm); clear_value y9; subst e9)
                  try (extract_lets -merge -useContext +onlyGivenNames y9; have e9 : x_1300 = y9 := (by first | exact he_x_1300 | exact he_x_1300.symm); clear_value y9; subst e9)
                  try (extract_lets -merge -useContext +onlyGivenNames y9; have e9 : x_1301 = y9 := (by first | exact he_x_1301 | exact he_x_1301.symm); clear_value y9; subst e9)
                  try (extract_lets -merge -useContext +onlyGivenNames y9; have e9 : x_1302 = y9 := (by first | exact he_x_1302 | exact he_x_1302.symm); clear_value y9; subst e9)
                  refine (if_pos c_1303).trans ?_
                  exact rfl
                exact hret _ _ _ _ _ _ () [0, 1] hP hD hS rfl (by decide) dX12_ringOf_46 ⟨(congrArg (fun z9 => z9) hX_1308).symm, hpost⟩
        have hX_1309 : F_r_ringOf g_c k = F_r_ringOf_L14a g_c k v_711 (F_r_ringOf_L2a g_c k n_L2a) ((2147483647 - (0 : Int32).toInt).toNat + 1) (0 : Int32) := by
          refine hF_L2a.trans ?_
          refine (F_r_ringOf_L2a_s ..).trans ?_
          try (extract_lets -merge -useContext +onlyGivenNames y9; have e9 : x_1104 = y9 := (by first | exact he_x_1104 | exact he_x_1104.symm); clear_value y9; subst e9)
          refine (if_neg c_1105).trans ?_
          exact rfl
        exact hlp_1290 ((2147483647 - (0 : Int32).toInt).toNat + 1) 0 _ _ _ (Nat.lt_succ_self _) (by decide +kernel) (zNo_in hi_899) hX_1309 hP hD hS (lv_sub hl [1, 2, 3, 0] rfl)
  have hX_1310 : F_r_ringOf g_c k = F_r_ringOf_L2a g_c k ((2147483647 - (0 : Int32).toInt).toNat + 1) (0 : Int32) := by
    refine (F_r_ringOf_s ..).trans ?_
    exact rfl
  exact hlp_1102 ((2147483647 - (0 : Int32).toInt).toNat + 1) 0 _ _ _ (Nat.lt_succ_self _) (by decide +kernel) zNo_0 hX_1310 hP hD hS (lv_sub hl [1, 2, 0] rfl)
set_option maxHeartbeats 40000000 in
set_option maxRecDepth 100000 in
theorem r_placeOf (l : Launch) (G : va_G) (cA : zCA) (h0 : Nat) (m_status : Int32) (m_thrown : Int32) (m_above : Int64) (m_under : Int64) (a_traySort : Nat) (a_trayMany : Nat) (a_numbers : Nat) (a_tape : Nat) (m_taped : Int32) (m_textEnd : Int32) (m_faultKind : Int32) (m_faultAt : Int32) (m_bad : Int32) (m_badAt : Int32) (m_token : Int32) (m_at : Int32) (m_behind : Int32) (m_number : Int32) (m_letters : Int32) (m_word : Int64) (a_c : Nat) (a_words : Nat) (m_markMany : Int32) (a_there : Nat) (a_tried : Nat) (a_best : Nat) (a_found : Nat) (m_thereMany : Int32) (m_foundMany : Int32) (m_orderHow : Int32) (m_orderRing : Int32) (m_orderMany : Int32) (m_hasBest : Int32) (m_bestTop : Int64) (m_bestBy : Int64) (a_weights : Nat) (a_shared : Nat) (m_random : Int32) (m_truePlace : Int32) (m_trueWay : Int32) (m_seconds : Int32) (m_done : Int32) (m_feelings : Int32) (m_tries : Int32) (m_leftOver : Int32) (m_playDoor : Int32) (m_playRing : Int32) (m_isOpen : Int32) (m_isOver : Int32) (m_wasTried : Int32) (m_hasPlayed : Int32) (a_feltNow : Nat) (a_last : Nat) (a_kept : Nat) (m_hasSeconds : Int32) (m_hasTurned : Int32) (m_hasRound : Int32) (a_hasFeels : Nat) (a_isOn : Nat) (m_firstAct : Int32) (m_meanTop : Int64) (m_meanBy : Int64) (a_order : Nat) (m_rowMany : Int32) (m_newSteps : Int32) (g_c : Nat → Int32) (k : Int32) (hr_k : 0 ≤ k.toInt ∧ k.toInt ≤ 9) (hC_g_c : zC g_c) : zCi l yX12_placeOf cX12_placeOf 4 (some .int) ({ frames := 1, cells := 0, slots := 0, locals := 23 }) G cA [.ref h0, .int k] [(h0, .inr (12, [.int m_status, .int m_thrown, .long m_above, .long m_under, .ref a_traySort, .ref a_trayMany, .ref a_numbers, .ref a_tape, .int m_taped, .int m_textEnd, .int m_faultKind, .int m_faultAt, .int m_bad, .int m_badAt, .int m_token, .int m_at, .int m_behind, .int m_number, .int m_letters, .long m_word, .ref a_c, .ref a_words, .int m_markMany, .ref a_there, .ref a_tried, .ref a_best, .ref a_found, .int m_thereMany, .int m_foundMany, .int m_orderHow, .int m_orderRing, .int m_orderMany, .int m_hasBest, .long m_bestTop, .long m_bestBy, .ref a_weights, .ref a_shared, .int m_random, .int m_truePlace, .int m_trueWay, .int m_seconds, .int m_done, .int m_feelings, .int m_tries, .int m_leftOver, .int m_playDoor, .int m_playRing, .int m_isOpen, .int m_isOver, .int m_wasTried, .int m_hasPlayed, .ref a_feltNow, .ref a_last, .ref a_kept, .int m_hasSeconds, .int m_hasTurned, .int m_hasRound, .ref a_hasFeels, .ref a_isOn, .int m_firstAct, .long m_meanTop, .long m_meanBy, .ref a_order, .int m_rowMany, .int m_newSteps])), (a_c, .inl (cA.1 0, 1825, .inl g_c))] (S := Unit) (fun (r : Int32) (u : Unit) => (r = (F_r_placeOf g_c k)) ∧ (((-1) ≤ r.toInt ∧ r.toInt ≤ 9) ∧ (zPO g_c k.toInt r.toInt))) (fun (u : Unit) => [(h0, .inr (12, [.int m_status, .int m_thrown, .long m_above, .long m_under, .ref a_traySort, .ref a_trayMany, .ref a_numbers, .ref a_tape, .int m_taped, .int m_textEnd, .int m_faultKind, .int m_faultAt, .int m_bad, .int m_badAt, .int m_token, .int m_at, .int m_behind, .int m_number, .int m_letters, .long m_word, .ref a_c, .ref a_words, .int m_markMany, .ref a_there, .ref a_tried, .ref a_best, .ref a_found, .int m_thereMany, .int m_foundMany, .int m_orderHow, .int m_orderRing, .int m_orderMany, .int m_hasBest, .long m_bestTop, .long m_bestBy, .ref a_weights, .ref a_shared, .int m_random, .int m_truePlace, .int m_trueWay, .int m_seconds, .int m_done, .int m_feelings, .int m_tries, .int m_leftOver, .int m_playDoor, .int m_playRing, .int m_isOpen, .int m_isOver, .int m_wasTried, .int m_hasPlayed, .ref a_feltNow, .ref a_last, .ref a_kept, .int m_hasSeconds, .int m_hasTurned, .int m_hasRound, .ref a_hasFeels, .ref a_isOn, .int m_firstAct, .long m_meanTop, .long m_meanBy, .ref a_order, .int m_rowMany, .int m_newSteps])), (a_c, .inl (cA.1 0, 1825, .inl g_c))]) 0 0 := by
  have hk_m1 : ((-1) : Int32).toInt = (-1) := by decide +kernel
  have hk_0 : (0 : Int32).toInt = 0 := by decide +kernel
  have hk_1 : (1 : Int32).toInt = 1 := by decide +kernel
  have hk_10 : (10 : Int32).toInt = 10 := by decide +kernel
  have hk_95 : (95 : Int32).toInt = 95 := by decide +kernel
  have hk_98 : (98 : Int32).toInt = 98 := by decide +kernel
  refine z_start2i (own := RX12) (by decide) (Nat.le_of_ble_eq_true rfl) rfl ?_
  intro p e s m args below meth c A ls Q hx hb hml hts hown hK hE hT hP hD hS hA hl hret
  have hl : lv_has ls 4 [(0, .ref h0), (1, .int k)] := hl
  refine lv_aload_n hx hb dX12_placeOf_0 rfl (lv_at hl 0 rfl) ?_
  refine lv_iload_n hx hb dX12_placeOf_1 rfl (lv_at hl 1 rfl) ?_
  refine z_callVi (As := [.int k]) (rest := []) (wr := []) ⟨hx, hb, hml, hown, hts⟩ hK hE hT hP hD hS hA (r_ringOf l G cA h0 m_status m_thrown m_above m_under a_traySort a_trayMany a_numbers a_tape m_taped m_textEnd m_faultKind m_faultAt m_bad m_badAt m_token m_at m_behind m_number m_letters m_word a_c a_words m_markMany a_there a_tried a_best a_found m_thereMany m_foundMany m_orderHow m_orderRing m_orderMany m_hasBest m_bestTop m_bestBy a_weights a_shared m_random m_truePlace m_trueWay m_seconds m_done m_feelings m_tries m_leftOver m_playDoor m_playRing m_isOpen m_isOver m_wasTried m_hasPlayed a_feltNow a_last a_kept m_hasSeconds m_hasTurned m_hasRound a_hasFeels a_isOn m_firstAct m_meanTop m_meanBy a_order m_rowMany m_newSteps g_c k hr_k hC_g_c) lk_RX12_278 ⟨rfl, rfl⟩ ⟨Nat.le_of_ble_eq_true rfl, Nat.le_of_ble_eq_true rfl⟩ 12 rfl rfl rfl [0, 1] [] rfl rfl (by decide) rfl hl.1 rfl (lv_room (Nat.le_of_ble_eq_true rfl)) dX12_placeOf_2 ⟨Nat.le_of_ble_eq_true rfl, Nat.le_of_ble_eq_true rfl⟩ (fun r_1 u_2 H locs hw hP hD hS => ?_)
  obtain ⟨he_r_1, hw⟩ := hw
  obtain ⟨hr_r_1, hf_4⟩ := hw
  refine lv_istore_n (lv' := [(2, .int r_1), (0, .ref h0), (1, .int k)]) hx hb dX12_placeOf_5 rfl hl (by decide) rfl (fun ls hl => ?_)
  refine lv_iconst (v := 0) hx hb dX12_placeOf_6 (by decide) ?_
  refine lv_istore_n (lv' := [(3, .int 0), (2, .int r_1), (0, .ref h0), (1, .int k)]) hx hb dX12_placeOf_7 rfl hl (by decide) rfl (fun ls hl => ?_)
  have hlp_224 : ∀ (n_L8a : Nat) (v_190 : Int32) (H : Heap) (locs : List Loc) (ls : Array Slot), (2147483647 - v_190.toInt).toNat < n_L8a → (0 ≤ v_190.toInt ∧ v_190.toInt ≤ 10) → (zNi g_c k.toInt r_1.toInt v_190.toInt) → (F_r_placeOf g_c k = F_r_placeOf_L8a g_c k r_1 n_L8a v_190) → va_P G vwCl [(h0, .inr (12, [.int m_status, .int m_thrown, .long m_above, .long m_under, .ref a_traySort, .ref a_trayMany, .ref a_numbers, .ref a_tape, .int m_taped, .int m_textEnd, .int m_faultKind, .int m_faultAt, .int m_bad, .int m_badAt, .int m_token, .int m_at, .int m_behind, .int m_number, .int m_letters, .long m_word, .ref a_c, .ref a_words, .int m_markMany, .ref a_there, .ref a_tried, .ref a_best, .ref a_found, .int m_thereMany, .int m_foundMany, .int m_orderHow, .int m_orderRing, .int m_orderMany, .int m_hasBest, .long m_bestTop, .long m_bestBy, .ref a_weights, .ref a_shared, .int m_random, .int m_truePlace, .int m_trueWay, .int m_seconds, .int m_done, .int m_feelings, .int m_tries, .int m_leftOver, .int m_playDoor, .int m_playRing, .int m_isOpen, .int m_isOver, .int m_wasTried, .int m_hasPlayed, .ref a_feltNow, .ref a_last, .ref a_kept, .int m_hasSeconds, .int m_hasTurned, .int m_hasRound, .ref a_hasFeels, .ref a_isOn, .int m_firstAct, .long m_meanTop, .long m_meanBy, .ref a_order, .int m_rowMany, .int m_newSteps])), (a_c, .inl (cA.1 0, 1825, .inl g_c))] H → va_D A [(h0, .inr (12, [.int m_status, .int m_thrown, .long m_above, .long m_under, .ref a_traySort, .ref a_trayMany, .ref a_numbers, .ref a_tape, .int m_taped, .int m_textEnd, .int m_faultKind, .int m_faultAt, .int m_bad, .int m_badAt, .int m_token, .int m_at, .int m_behind, .int m_number, .int m_letters, .long m_word, .ref a_c, .ref a_words, .int m_markMany, .ref a_there, .ref a_tried, .ref a_best, .ref a_found, .int m_thereMany, .int m_foundMany, .int m_orderHow, .int m_orderRing, .int m_orderMany, .int m_hasBest, .long m_bestTop, .long m_bestBy, .ref a_weights, .ref a_shared, .int m_random, .int m_truePlace, .int m_trueWay, .int m_seconds, .int m_done, .int m_feelings, .int m_tries, .int m_leftOver, .int m_playDoor, .int m_playRing, .int m_isOpen, .int m_isOver, .int m_wasTried, .int m_hasPlayed, .ref a_feltNow, .ref a_last, .ref a_kept, .int m_hasSeconds, .int m_hasTurned, .int m_hasRound, .ref a_hasFeels, .ref a_isOn, .int m_firstAct, .long m_meanTop, .long m_meanBy, .ref a_order, .int m_rowMany, .int m_newSteps])), (a_c, .inl (cA.1 0, 1825, .inl g_c))] → va_S A s.heap H locs → lv_has ls 4 [(0, .ref h0), (1, .int k), (2, .int r_1), (3, .int v_190)] → W p l e ({ frames := 1, cells := 0, slots := 0, locals := 23 }) s m args below meth c H locs 0 0 Q (F0 m 8 ls []) := by
    intro n_L8a
    induction n_L8a with
    | zero =>
      intro v_190 H locs ls hmu_hlp_224 hr_v_190 hi_207 hF_L8a hP hD hS hl
      exact absurd hmu_hlp_224 (Nat.not_lt_zero _)
    | succ n_L8a ih_225 =>
      intro v_190 H locs ls hmu_hlp_224 hr_v_190 hi_207 hF_L8a hP hD hS hl
      refine lv_iload_n hx hb dX12_placeOf_8 rfl (lv_at hl 2 rfl) ?_
      refine lv_if_lt (tgt := 51) hx hb dX12_placeOf_9 (by decide) (fun c_226 => ?_) (fun c_226 => ?_)
      · have b_227 := z_fltT c_226
        refine lv_iconst (v := (-1)) hx hb dX12_placeOf_51 (by decide) ?_
        have hpost : ((-1) ≤ ((-1) : Int32).toInt ∧ ((-1) : Int32).toInt ≤ 9) ∧ (zPO g_c k.toInt ((-1) : Int32).toInt) := ⟨(by decide +kernel), (zPO_none hf_4 (by omega))⟩
        have hX_228 : F_r_placeOf g_c k = ((-1 : Int32) : Int32) := by
          refine hF_L8a.trans ?_
          refine (F_r_placeOf_L8a_s ..).trans ?_
          refine (if_pos c_226).trans ?_
          exact rfl
        exact hret _ _ _ _ _ _ () [0, 1] hP hD hS rfl (by decide) dX12_placeOf_52 ⟨(congrArg (fun z9 => z9) hX_228).symm, hpost⟩
      · have b_229 := z_fgeF c_226
        refine lv_iload_n hx hb dX12_placeOf_12 rfl (lv_at hl 3 rfl) ?_
        refine lv_aload_n hx hb dX12_placeOf_13 rfl (lv_at hl 0 rfl) ?_
        refine va_get (D := G) (ci := 12) (v := .ref a_c) (C := RX12) (T := TX12) (N := 65) hx hb hts inT12 hown hK hP 0 rfl rfl 20 (by decide) (hts _ tw_1905) (fun _ h9 => h9) rfl dX12_placeOf_14 ?_
        refine lv_bipush (v := 95) hx hb dX12_placeOf_17 (by decide) ?_
        refine lv_iload_n hx hb dX12_placeOf_19 rfl (lv_at hl 2 rfl) ?_
        refine lv_iadd hx hb dX12_placeOf_20 ?_
        refine lv_topi (fun x_230 he_x_230 => ?_)
        have hq_x_230 := z_addq he_x_230 hk_95 (rfl : r_1.toInt = _) (by omega) (by omega)
        refine va_iald hx hb hK hP 1 0 rfl rfl (z_inN (by omega) (by omega)) dX12_placeOf_21 ?_
        refine lv_topi (fun x_231 he_x_231 => ?_)
        have hr_x_231 := z_ct hC_g_c he_x_231 (a := 95) (b := 97) (lo := 0) (hi := 10) (by decide +kernel) (by decide) (by omega) (by omega)
        refine lv_icmp_ge (tgt := 51) hx hb dX12_placeOf_22 (by decide) (fun c_232 => ?_) (fun c_232 => ?_)
        · have b_233 := z_fgeT c_232
          refine lv_iconst (v := (-1)) hx hb dX12_placeOf_51 (by decide) ?_
          have hpost : ((-1) ≤ ((-1) : Int32).toInt ∧ ((-1) : Int32).toInt ≤ 9) ∧ (zPO g_c k.toInt ((-1) : Int32).toInt) := ⟨(by decide +kernel), (zNi_no hi_207 hf_4 (by omega) he_x_231 (by omega) (by omega)).elim⟩
          have hX_234 : F_r_placeOf g_c k = ((-1 : Int32) : Int32) := by
            refine hF_L8a.trans ?_
            refine (F_r_placeOf_L8a_s ..).trans ?_
            refine (if_neg c_226).trans ?_
            try (extract_lets -merge -useContext +onlyGivenNames y9; have e9 : x_230 = y9 := (by first | exact he_x_230 | exact he_x_230.symm); clear_value y9; subst e9)
            try (extract_lets -merge -useContext +onlyGivenNames y9; have e9 : x_231 = y9 := (by first | exact he_x_231 | exact he_x_231.symm); clear_value y9; subst e9)
            refine (if_pos c_232).trans ?_
            exact rfl
          exact hret _ _ _ _ _ _ () [0, 1] hP hD hS rfl (by decide) dX12_placeOf_52 ⟨(congrArg (fun z9 => z9) hX_234).symm, hpost⟩
        · have b_235 := z_fltF c_232
          refine lv_aload_n hx hb dX12_placeOf_25 rfl (lv_at hl 0 rfl) ?_
          refine va_get (D := G) (ci := 12) (v := .ref a_c) (C := RX12) (T := TX12) (N := 65) hx hb hts inT12 hown hK hP 0 rfl rfl 20 (by decide) (hts _ tw_1905) (fun _ h9 => h9) rfl dX12_placeOf_26 ?_
          refine lv_bipush (v := 98) hx hb dX12_placeOf_29 (by decide) ?_
          refine lv_bipush (v := 10) hx hb dX12_placeOf_31 (by decide) ?_
          refine lv_iload_n hx hb dX12_placeOf_33 rfl (lv_at hl 2 rfl) ?_
          refine lv_imul hx hb dX12_placeOf_34 ?_
          refine lv_topi (fun x_236 he_x_236 => ?_)
          have hq_x_236 := z_mulq he_x_236 hk_10 (rfl : r_1.toInt = _) (by omega) (by omega)
          refine lv_iadd hx hb dX12_placeOf_35 ?_
          refine lv_topi (fun x_237 he_x_237 => ?_)
          have hq_x_237 := z_addq he_x_237 hk_98 (rfl : x_236.toInt = _) (by omega) (by omega)
          refine lv_iload_n hx hb dX12_placeOf_36 rfl (lv_at hl 3 rfl) ?_
          refine lv_iadd hx hb dX12_placeOf_37 ?_
          refine lv_topi (fun x_238 he_x_238 => ?_)
          have hq_x_238 := z_addq he_x_238 (rfl : x_237.toInt = _) (rfl : v_190.toInt = _) (by omega) (by omega)
          refine va_iald hx hb hK hP 1 0 rfl rfl (z_inN (by omega) (by omega)) dX12_placeOf_38 ?_
          refine lv_topi (fun x_239 he_x_239 => ?_)
          have hr_x_239 := z_ct hC_g_c he_x_239 (a := 98) (b := 127) (lo := 0) (hi := 9) (by decide +kernel) (by decide) (by omega) (by omega)
          refine lv_iload_n hx hb dX12_placeOf_39 rfl (lv_at hl 1 rfl) ?_
          refine lv_icmp_ne (tgt := 45) hx hb dX12_placeOf_40 (by decide) (fun c_240 => ?_) (fun c_240 => ?_)
          · have b_241 := z_fneT c_240
            obtain ⟨x_242, he_x_242⟩ : ∃ z : Int32, z = v_190 + 1 := ⟨_, rfl⟩
            have hq_x_242 := z_addq he_x_242 (rfl : v_190.toInt = _) hk_1 (by omega) (by omega)
            refine lv_iinc (v := x_242) (lv' := [(3, .int x_242), (0, .ref h0), (1, .int k), (2, .int r_1)]) hx hb dX12_placeOf_45 hl (k := 3) rfl ((z_ofi (by decide +kernel)).trans he_x_242.symm) (by decide) rfl (fun ls hl => ?_)
            refine lv_goto (tgt := 8) hx hb dX12_placeOf_48 (by decide) ?_
            have hX_243 : F_r_placeOf g_c k = F_r_placeOf_L8a g_c k r_1 n_L8a x_242 := by
              refine hF_L8a.trans ?_
              refine (F_r_placeOf_L8a_s ..).trans ?_
              refine (if_neg c_226).trans ?_
              try (extract_lets -merge -useContext +onlyGivenNames y9; have e9 : x_230 = y9 := (by first | exact he_x_230 | exact he_x_230.symm); clear_value y9; subst e9)
              try (extract_lets -merge -useContext +onlyGivenNames y9; have e9 : x_231 = y9 := (by first | exact he_x_231 | exact he_x_231.symm); clear_value y9; subst e9)
              refine (if_neg c_232).trans ?_
              try (extract_lets -merge -useContext +onlyGivenNames y9; have e9 : x_236 = y9 := (by first | exact he_x_236 | exact he_x_236.symm); clear_value y9; subst e9)
              try (extract_lets -merge -useContext +onlyGivenNames y9; have e9 : x_237 = y9 := (by first | exact he_x_237 | exact he_x_237.symm); clear_value y9; subst e9)
              try (extract_lets -merge -useContext +onlyGivenNames y9; have e9 : x_238 = y9 := (by first | exact he_x_238 | exact he_x_238.symm); clear_value y9; subst e9)
              try (extract_lets -merge -useContext +onlyGivenNames y9; have e9 : x_239 = y9 := (by first | exact he_x_239 | exact he_x_239.symm); clear_value y9; subst e9)
              refine (if_neg c_240).trans ?_
              try (extract_lets -merge -useContext +onlyGivenNames y9; have e9 : x_242 = y9 := (by first | exact he_x_242 | exact he_x_242.symm); clear_value y9; subst e9)
              exact rfl
            exact ih_225 x_242 H locs ls (by omega) (by omega) (by rw [hq_x_242]; exact zNi_step hi_207 he_x_239 (by omega) (by omega) (by omega) (by omega)) hX_243 hP hD hS (lv_sub hl [1, 2, 3, 0] rfl)
          · have b_244 := z_feqF c_240
            refine lv_iload_n hx hb dX12_placeOf_43 rfl (lv_at hl 3 rfl) ?_
            have hpost : ((-1) ≤ v_190.toInt ∧ v_190.toInt ≤ 9) ∧ (zPO g_c k.toInt v_190.toInt) := ⟨(by omega), (zPO_found hf_4 (by omega) (by omega) he_x_239 (by omega) he_x_231 (by omega) (by omega) (by omega))⟩
            have hX_245 : F_r_placeOf g_c k = (v_190 : Int32) := by
              refine hF_L8a.trans ?_
              refine (F_r_placeOf_L8a_s ..).trans ?_
              refine (if_neg c_226).trans ?_
              try (extract_lets -merge -useContext +onlyGivenNames y9; have e9 : x_230 = y9 := (by first | exact he_x_230 | exact he_x_230.symm); clear_value y9; subst e9)
              try (extract_lets -merge -useContext +onlyGivenNames y9; have e9 : x_231 = y9 := (by first | exact he_x_231 | exact he_x_231.symm); clear_value y9; subst e9)
              refine (if_neg c_232).trans ?_
              try (extract_lets -merge -useContext +onlyGivenNames y9; have e9 : x_236 = y9 := (by first | exact he_x_236 | exact he_x_236.symm); clear_value y9; subst e9)
              try (extract_lets -merge -useContext +onlyGivenNames y9; have e9 : x_237 = y9 := (by first | exact he_x_237 | exact he_x_237.symm); clear_value y9; subst e9)
              try (extract_lets -merge -useContext +onlyGivenNames y9; have e9 : x_238 = y9 := (by first | exact he_x_238 | exact he_x_238.symm); clear_value y9; subst e9)
              try (extract_lets -merge -useContext +onlyGivenNames y9; have e9 : x_239 = y9 := (by first | exact he_x_239 | exact he_x_239.symm); clear_value y9; subst e9)
              refine (if_pos c_240).trans ?_
              exact rfl
            exact hret _ _ _ _ _ _ () [0, 1] hP hD hS rfl (by decide) dX12_placeOf_44 ⟨(congrArg (fun z9 => z9) hX_245).symm, hpost⟩
  have hX_246 : F_r_placeOf g_c k = F_r_placeOf_L8a g_c k r_1 ((2147483647 - (0 : Int32).toInt).toNat + 1) (0 : Int32) := by
    refine (F_r_placeOf_s ..).trans ?_
    extract_lets -merge -useContext +onlyGivenNames w9 y9; have e9 : r_1 = w9 := he_r_1; clear_value w9; subst e9
    exact rfl
  exact hlp_224 ((2147483647 - (0 : Int32).toInt).toNat + 1) 0 _ _ _ (Nat.lt_succ_self _) (by decide +kernel) zNi_0 hX_246 hP hD hS (lv_sub hl [2, 3, 1, 0] rfl)
set_option maxHeartbeats 4000000 in
set_option maxRecDepth 100000 in
theorem r_key (l : Launch) (G : va_G) (cA : zCA) (h0 : Nat) (m_status : Int32) (m_thrown : Int32) (m_above : Int64) (m_under : Int64) (a_traySort : Nat) (a_trayMany : Nat) (a_numbers : Nat) (a_tape : Nat) (m_taped : Int32) (m_textEnd : Int32) (m_faultKind : Int32) (m_faultAt : Int32) (m_bad : Int32) (m_badAt : Int32) (m_token : Int32) (m_at : Int32) (m_behind : Int32) (m_number : Int32) (m_letters : Int32) (m_word : Int64) (a_c : Nat) (a_words : Nat) (m_markMany : Int32) (a_there : Nat) (a_tried : Nat) (a_best : Nat) (a_found : Nat) (m_thereMany : Int32) (m_foundMany : Int32) (m_orderHow : Int32) (m_orderRing : Int32) (m_orderMany : Int32) (m_hasBest : Int32) (m_bestTop : Int64) (m_bestBy : Int64) (a_weights : Nat) (a_shared : Nat) (m_random : Int32) (m_truePlace : Int32) (m_trueWay : Int32) (m_seconds : Int32) (m_done : Int32) (m_feelings : Int32) (m_tries : Int32) (m_leftOver : Int32) (m_playDoor : Int32) (m_playRing : Int32) (m_isOpen : Int32) (m_isOver : Int32) (m_wasTried : Int32) (m_hasPlayed : Int32) (a_feltNow : Nat) (a_last : Nat) (a_kept : Nat) (m_hasSeconds : Int32) (m_hasTurned : Int32) (m_hasRound : Int32) (a_hasFeels : Nat) (a_isOn : Nat) (m_firstAct : Int32) (m_meanTop : Int64) (m_meanBy : Int64) (a_order : Nat) (m_rowMany : Int32) (m_newSteps : Int32) (g_c : Nat → Int32) (k : Int32) (w : Int32) (hC_g_c : zC g_c) : zCi l yX12_key cX12_key 3 (some .int) ({ frames := 2, cells := 0, slots := 0, locals := 47 }) G cA [.ref h0, .int k, .int w] [(h0, .inr (12, [.int m_status, .int m_thrown, .long m_above, .long m_under, .ref a_traySort, .ref a_trayMany, .ref a_numbers, .ref a_tape, .int m_taped, .int m_textEnd, .int m_faultKind, .int m_faultAt, .int m_bad, .int m_badAt, .int m_token, .int m_at, .int m_behind, .int m_number, .int m_letters, .long m_word, .ref a_c, .ref a_words, .int m_markMany, .ref a_there, .ref a_tried, .ref a_best, .ref a_found, .int m_thereMany, .int m_foundMany, .int m_orderHow, .int m_orderRing, .int m_orderMany, .int m_hasBest, .long m_bestTop, .long m_bestBy, .ref a_weights, .ref a_shared, .int m_random, .int m_truePlace, .int m_trueWay, .int m_seconds, .int m_done, .int m_feelings, .int m_tries, .int m_leftOver, .int m_playDoor, .int m_playRing, .int m_isOpen, .int m_isOver, .int m_wasTried, .int m_hasPlayed, .ref a_feltNow, .ref a_last, .ref a_kept, .int m_hasSeconds, .int m_hasTurned, .int m_hasRound, .ref a_hasFeels, .ref a_isOn, .int m_firstAct, .long m_meanTop, .long m_meanBy, .ref a_order, .int m_rowMany, .int m_newSteps])), (a_c, .inl (cA.1 0, 1825, .inl g_c))] (S := Int32 × Int32) (fun (r : Int32) (u : Int32 × Int32) => ((-1) ≤ r.toInt ∧ r.toInt ≤ 9) ∧ (0 ≤ u.2.toInt ∧ u.2.toInt ≤ 0)) (fun (u : Int32 × Int32) => [(h0, .inr (12, [.int u.1, .int u.2, .long m_above, .long m_under, .ref a_traySort, .ref a_trayMany, .ref a_numbers, .ref a_tape, .int m_taped, .int m_textEnd, .int m_faultKind, .int m_faultAt, .int m_bad, .int m_badAt, .int m_token, .int m_at, .int m_behind, .int m_number, .int m_letters, .long m_word, .ref a_c, .ref a_words, .int m_markMany, .ref a_there, .ref a_tried, .ref a_best, .ref a_found, .int m_thereMany, .int m_foundMany, .int m_orderHow, .int m_orderRing, .int m_orderMany, .int m_hasBest, .long m_bestTop, .long m_bestBy, .ref a_weights, .ref a_shared, .int m_random, .int m_truePlace, .int m_trueWay, .int m_seconds, .int m_done, .int m_feelings, .int m_tries, .int m_leftOver, .int m_playDoor, .int m_playRing, .int m_isOpen, .int m_isOver, .int m_wasTried, .int m_hasPlayed, .ref a_feltNow, .ref a_last, .ref a_kept, .int m_hasSeconds, .int m_hasTurned, .int m_hasRound, .ref a_hasFeels, .ref a_isOn, .int m_firstAct, .long m_meanTop, .long m_meanBy, .ref a_order, .int m_rowMany, .int m_newSteps])), (a_c, .inl (cA.1 0, 1825, .inl g_c))]) 0 0 := by
  have hk_0 : (0 : Int32).toInt = 0 := by decide +kernel
  have hk_2 : (2 : Int32).toInt = 2 := by decide +kernel
  have hk_5 : (5 : Int32).toInt = 5 := by decide +kernel
  have hk_8 : (8 : Int32).toInt = 8 := by decide +kernel
  have hk_150 : (150 : Int32).toInt = 150 := by decide +kernel
  have hkl_0 : (0 : Int64).toInt = 0 := by decide +kernel
  have hkl_2 : (2 : Int64).toInt = 2 := by decide +kernel
  refine z_start2i (own := RX12) (by decide) (Nat.le_of_ble_eq_true rfl) rfl ?_
  intro p e s m args below meth c A ls Q hx hb hml hts hown hK hE hT hP hD hS hA hl hret
  have hl : lv_has ls 3 [(0, .ref h0), (1, .int k), (2, .int w)] := hl
  refine lv_aload_n hx hb dX12_key_0 rfl (lv_at hl 0 rfl) ?_
  refine lv_iconst (v := 0) hx hb dX12_key_1 (by decide) ?_
  refine va_put (D := G) (ci := 12) (v := .int 0) (ty := .int) (C := RX12) (T := TX12) (N := 65) hx hb hts inT12 tyX12 tyX12_ok nmX12 hown hK hP hD hS 0 rfl rfl 1 (by decide) (hts _ tw_1886) (fun _ h9 => h9) rfl (tyX12_ok 1 (by decide)) rfl rfl (Nat.le_of_ble_eq_true rfl) dX12_key_2 (fun H locs hP hD hS => ?_)
  refine lv_aload_n hx hb dX12_key_5 rfl (lv_at hl 0 rfl) ?_
  refine lv_iconst (v := 0) hx hb dX12_key_6 (by decide) ?_
  refine va_put (D := G) (ci := 12) (v := .int 0) (ty := .int) (C := RX12) (T := TX12) (N := 65) hx hb hts inT12 tyX12 tyX12_ok nmX12 hown hK hP hD hS 0 rfl rfl 0 (by decide) (hts _ tw_1885) (fun _ h9 => h9) rfl (tyX12_ok 0 (by decide)) rfl rfl (Nat.le_of_ble_eq_true rfl) dX12_key_7 (fun H locs hP hD hS => ?_)
  refine lv_aload_n hx hb dX12_key_10 rfl (lv_at hl 0 rfl) ?_
  refine lv_iload_n hx hb dX12_key_11 rfl (lv_at hl 1 rfl) ?_
  refine lv_i2l (v := (k).toInt64) hx hb dX12_key_12 rfl ?_
  refine lv_topl (fun x_1 he_x_1 => ?_)
  have hq_x_1 := z_i2l he_x_1
  have hL_k := z_full k
  refine z_callVi (As := [.long x_1]) (rest := []) (wr := []) ⟨hx, hb, hml, hown, hts⟩ hK hE hT hP hD hS hA (r_isKey l G cA h0 0 0 m_above m_under a_traySort a_trayMany a_numbers a_tape m_taped m_textEnd m_faultKind m_faultAt m_bad m_badAt m_token m_at m_behind m_number m_letters m_word a_c a_words m_markMany a_there a_tried a_best a_found m_thereMany m_foundMany m_orderHow m_orderRing m_orderMany m_hasBest m_bestTop m_bestBy a_weights a_shared m_random m_truePlace m_trueWay m_seconds m_done m_feelings m_tries m_leftOver m_playDoor m_playRing m_isOpen m_isOver m_wasTried m_hasPlayed a_feltNow a_last a_kept m_hasSeconds m_hasTurned m_hasRound a_hasFeels a_isOn m_firstAct m_meanTop m_meanBy a_order m_rowMany m_newSteps g_c x_1 hC_g_c) lk_RX12_275 ⟨rfl, rfl⟩ ⟨Nat.le_of_ble_eq_true rfl, Nat.le_of_ble_eq_true rfl⟩ 12 rfl rfl rfl [0, 1] [] rfl rfl (by decide) rfl hl.1 rfl (lv_room (Nat.le_of_ble_eq_true rfl)) dX12_key_13 ⟨Nat.le_of_ble_eq_true rfl, Nat.le_of_ble_eq_true rfl⟩ (fun r_2 u_3 H locs hw hP hD hS => ?_)
  obtain ⟨he_r_2, hw⟩ := hw
  rcases hw with ⟨rfl, -⟩ | ⟨rfl, hf_4, hf_5⟩
  · skip
    refine lv_if_ne (tgt := 25) hx hb dX12_key_16 (by decide) (fun h9 => absurd (by decide +kernel) h9) (fun _ => ?_)
    refine lv_aload_n hx hb dX12_key_19 rfl (lv_at hl 0 rfl) ?_
    refine lv_iconst (v := 2) hx hb dX12_key_20 (by decide) ?_
    refine z_callVi (As := [.int 2]) (rest := []) (wr := [(a_c, .inl (cA.1 0, 1825, .inl g_c))]) ⟨hx, hb, hml, hown, hts⟩ hK hE hT hP hD hS hA (r_refuse l G cA h0 0 0 m_above m_under a_traySort a_trayMany a_numbers a_tape m_taped m_textEnd m_faultKind m_faultAt m_bad m_badAt m_token m_at m_behind m_number m_letters m_word a_c a_words m_markMany a_there a_tried a_best a_found m_thereMany m_foundMany m_orderHow m_orderRing m_orderMany m_hasBest m_bestTop m_bestBy a_weights a_shared m_random m_truePlace m_trueWay m_seconds m_done m_feelings m_tries m_leftOver m_playDoor m_playRing m_isOpen m_isOver m_wasTried m_hasPlayed a_feltNow a_last a_kept m_hasSeconds m_hasTurned m_hasRound a_hasFeels a_isOn m_firstAct m_meanTop m_meanBy a_order m_rowMany m_newSteps 2) lk_RX12_269 ⟨rfl, rfl⟩ ⟨Nat.le_of_ble_eq_true rfl, Nat.le_of_ble_eq_true rfl⟩ 12 rfl rfl rfl [0] [1] rfl rfl (by decide) rfl hl.1 rfl (lv_room (Nat.le_of_ble_eq_true rfl)) dX12_key_21 ⟨Nat.le_of_ble_eq_true rfl, Nat.le_of_ble_eq_true rfl⟩ (fun r_7 u_8 H locs hw hP hD hS => ?_)
    obtain ⟨n_6, rfl⟩ : ∃ z, z = u_8 := ⟨_, rfl⟩
    obtain ⟨he_r_7, he_n_6, hw⟩ := hw
    have hr_r_7 := hw
    have hpost : ((-1) ≤ r_7.toInt ∧ r_7.toInt ≤ 9) ∧ (0 ≤ (0 : Int32).toInt ∧ (0 : Int32).toInt ≤ 0) := ⟨(z_rgw hr_r_7 (by decide) (by decide)), (by decide +kernel)⟩
    exact hret _ _ _ _ _ _ (n_6, 0) [1, 0] hP hD hS rfl (by decide) dX12_key_24 hpost
  · skip
    refine lv_if_ne (tgt := 25) hx hb dX12_key_16 (by decide) (fun _ => ?_) (fun h9 => absurd h9 (by decide +kernel))
    refine lv_iload_n hx hb dX12_key_25 rfl (lv_at hl 2 rfl) ?_
    refine lv_i2l (v := (w).toInt64) hx hb dX12_key_26 rfl ?_
    refine lv_topl (fun x_9 he_x_9 => ?_)
    have hq_x_9 := z_i2l he_x_9
    have hL_w := z_full w
    refine lv_lconst (v := 0) hx hb dX12_key_27 (by decide) ?_
    refine lv_ldc2 (v := 2) hx hb hown (hts _ tw_2292) dX12_key_28 ?_
    refine z_callSi (As := [.long x_9, .long 0, .long 2]) (rest := []) (wr := [(h0, .inr (12, [.int 0, .int 0, .long m_above, .long m_under, .ref a_traySort, .ref a_trayMany, .ref a_numbers, .ref a_tape, .int m_taped, .int m_textEnd, .int m_faultKind, .int m_faultAt, .int m_bad, .int m_badAt, .int m_token, .int m_at, .int m_behind, .int m_number, .int m_letters, .long m_word, .ref a_c, .ref a_words, .int m_markMany, .ref a_there, .ref a_tried, .ref a_best, .ref a_found, .int m_thereMany, .int m_foundMany, .int m_orderHow, .int m_orderRing, .int m_orderMany, .int m_hasBest, .long m_bestTop, .long m_bestBy, .ref a_weights, .ref a_shared, .int m_random, .int m_truePlace, .int m_trueWay, .int m_seconds, .int m_done, .int m_feelings, .int m_tries, .int m_leftOver, .int m_playDoor, .int m_playRing, .int m_isOpen, .int m_isOver, .int m_wasTried, .int m_hasPlayed, .ref a_feltNow, .ref a_last, .ref a_kept, .int m_hasSeconds, .int m_hasTurned, .int m_hasRound, .ref a_hasFeels, .ref a_isOn, .int m_firstAct, .long m_meanTop, .long m_meanBy, .ref a_order, .int m_rowMany, .int m_newSteps])), (a_c, .inl (cA.1 0, 1825, .inl g_c))]) ⟨hx, hb, hml, hown, hts⟩ hK hE hT hP hD hS hA (r_isIn l G cA x_9 0 2) lk_RX12_117 ⟨rfl, rfl⟩ ⟨Nat.le_of_ble_eq_true rfl, Nat.le_of_ble_eq_true rfl⟩ [] [0, 1] rfl rfl (by decide) rfl hl.1 rfl (lv_room (Nat.le_of_ble_eq_true rfl)) dX12_key_31 ⟨Nat.le_of_ble_eq_true rfl, Nat.le_of_ble_eq_true rfl⟩ (fun r_10 u_11 H locs hw hP hD hS => ?_)
    obtain ⟨he_r_10, hw⟩ := hw
    rcases hw with ⟨rfl, hf_12⟩ | ⟨rfl, hf_13⟩
    · skip
      refine lv_if_ne (tgt := 43) hx hb dX12_key_34 (by decide) (fun h9 => absurd (by decide +kernel) h9) (fun _ => ?_)
      refine lv_aload_n hx hb dX12_key_37 rfl (lv_at hl 0 rfl) ?_
      refine lv_iconst (v := 5) hx hb dX12_key_38 (by decide) ?_
      refine z_callVi (As := [.int 5]) (rest := []) (wr := [(a_c, .inl (cA.1 0, 1825, .inl g_c))]) ⟨hx, hb, hml, hown, hts⟩ hK hE hT hP hD hS hA (r_refuse l G cA h0 0 0 m_above m_under a_traySort a_trayMany a_numbers a_tape m_taped m_textEnd m_faultKind m_faultAt m_bad m_badAt m_token m_at m_behind m_number m_letters m_word a_c a_words m_markMany a_there a_tried a_best a_found m_thereMany m_foundMany m_orderHow m_orderRing m_orderMany m_hasBest m_bestTop m_bestBy a_weights a_shared m_random m_truePlace m_trueWay m_seconds m_done m_feelings m_tries m_leftOver m_playDoor m_playRing m_isOpen m_isOver m_wasTried m_hasPlayed a_feltNow a_last a_kept m_hasSeconds m_hasTurned m_hasRound a_hasFeels a_isOn m_firstAct m_meanTop m_meanBy a_order m_rowMany m_newSteps 5) lk_RX12_269 ⟨rfl, rfl⟩ ⟨Nat.le_of_ble_eq_true rfl, Nat.le_of_ble_eq_true rfl⟩ 12 rfl rfl rfl [0] [1] rfl rfl (by decide) rfl hl.1 rfl (lv_room (Nat.le_of_ble_eq_true rfl)) dX12_key_39 ⟨Nat.le_of_ble_eq_true rfl, Nat.le_of_ble_eq_true rfl⟩ (fun r_15 u_16 H locs hw hP hD hS => ?_)
      obtain ⟨n_14, rfl⟩ : ∃ z, z = u_16 := ⟨_, rfl⟩
      obtain ⟨he_r_15, he_n_14, hw⟩ := hw
      have hr_r_15 := hw
      have hpost : ((-1) ≤ r_15.toInt ∧ r_15.toInt ≤ 9) ∧ (0 ≤ (0 : Int32).toInt ∧ (0 : Int32).toInt ≤ 0) := ⟨(z_rgw hr_r_15 (by decide) (by decide)), (by decide +kernel)⟩
      exact hret _ _ _ _ _ _ (n_14, 0) [1, 0] hP hD hS rfl (by decide) dX12_key_42 hpost
    · skip
      refine lv_if_ne (tgt := 43) hx hb dX12_key_34 (by decide) (fun _ => ?_) (fun h9 => absurd h9 (by decide +kernel))
      refine lv_iload_n hx hb dX12_key_43 rfl (lv_at hl 2 rfl) ?_
      refine lv_iconst (v := 2) hx hb dX12_key_44 (by decide) ?_
      refine lv_icmp_ne (tgt := 59) hx hb dX12_key_45 (by decide) (fun c_17 => ?_) (fun c_17 => ?_)
      · have b_18 := z_fneT c_17
        refine lv_aload_n hx hb dX12_key_59 rfl (lv_at hl 0 rfl) ?_
        refine lv_iload_n hx hb dX12_key_60 rfl (lv_at hl 1 rfl) ?_
        refine z_callVi (As := [.int k]) (rest := []) (wr := []) ⟨hx, hb, hml, hown, hts⟩ hK hE hT hP hD hS hA (r_ringOf l G cA h0 0 0 m_above m_under a_traySort a_trayMany a_numbers a_tape m_taped m_textEnd m_faultKind m_faultAt m_bad m_badAt m_token m_at m_behind m_number m_letters m_word a_c a_words m_markMany a_there a_tried a_best a_found m_thereMany m_foundMany m_orderHow m_orderRing m_orderMany m_hasBest m_bestTop m_bestBy a_weights a_shared m_random m_truePlace m_trueWay m_seconds m_done m_feelings m_tries m_leftOver m_playDoor m_playRing m_isOpen m_isOver m_wasTried m_hasPlayed a_feltNow a_last a_kept m_hasSeconds m_hasTurned m_hasRound a_hasFeels a_isOn m_firstAct m_meanTop m_meanBy a_order m_rowMany m_newSteps g_c k (by omega) hC_g_c) lk_RX12_278 ⟨rfl, rfl⟩ ⟨Nat.le_of_ble_eq_true rfl, Nat.le_of_ble_eq_true rfl⟩ 12 rfl rfl rfl [0, 1] [] rfl rfl (by decide) rfl hl.1 rfl (lv_room (Nat.le_of_ble_eq_true rfl)) dX12_key_61 ⟨Nat.le_of_ble_eq_true rfl, Nat.le_of_ble_eq_true rfl⟩ (fun r_19 u_20 H locs hw hP hD hS => ?_)
        obtain ⟨he_r_19, hw⟩ := hw
        obtain ⟨hr_r_19, hf_21⟩ := hw
        refine lv_if_ge (tgt := 76) hx hb dX12_key_64 (by decide) (fun c_22 => ?_) (fun c_22 => ?_)
        · have b_23 := z_fgeT c_22
          refine lv_iload_n hx hb dX12_key_76 rfl (lv_at hl 2 rfl) ?_
          refine lv_if_ne (tgt := 88) hx hb dX12_key_77 (by decide) (fun c_24 => ?_) (fun c_24 => ?_)
          · have b_25 := z_fneT c_24
            refine lv_aload_n hx hb dX12_key_88 rfl (lv_at hl 0 rfl) ?_
            refine lv_iload_n hx hb dX12_key_89 rfl (lv_at hl 1 rfl) ?_
            refine z_callVi (As := [.int k]) (rest := []) (wr := []) ⟨hx, hb, hml, hown, hts⟩ hK hE hT hP hD hS hA (r_placeOf l G cA h0 0 0 m_above m_under a_traySort a_trayMany a_numbers a_tape m_taped m_textEnd m_faultKind m_faultAt m_bad m_badAt m_token m_at m_behind m_number m_letters m_word a_c a_words m_markMany a_there a_tried a_best a_found m_thereMany m_foundMany m_orderHow m_orderRing m_orderMany m_hasBest m_bestTop m_bestBy a_weights a_shared m_random m_truePlace m_trueWay m_seconds m_done m_feelings m_tries m_leftOver m_playDoor m_playRing m_isOpen m_isOver m_wasTried m_hasPlayed a_feltNow a_last a_kept m_hasSeconds m_hasTurned m_hasRound a_hasFeels a_isOn m_firstAct m_meanTop m_meanBy a_order m_rowMany m_newSteps g_c k (by omega) hC_g_c) lk_RX12_283 ⟨rfl, rfl⟩ ⟨Nat.le_of_ble_eq_true rfl, Nat.le_of_ble_eq_true rfl⟩ 12 rfl rfl rfl [0, 1] [] rfl rfl (by decide) rfl hl.1 rfl (lv_room (Nat.le_of_ble_eq_true rfl)) dX12_key_90 ⟨Nat.le_of_ble_eq_true rfl, Nat.le_of_ble_eq_true rfl⟩ (fun r_26 u_27 H locs hw hP hD hS => ?_)
            obtain ⟨he_r_26, hw⟩ := hw
            obtain ⟨hr_r_26, hf_28⟩ := hw
            have hpost : ((-1) ≤ r_26.toInt ∧ r_26.toInt ≤ 9) ∧ (0 ≤ (0 : Int32).toInt ∧ (0 : Int32).toInt ≤ 0) := ⟨hr_r_26, (by decide +kernel)⟩
            exact hret _ _ _ _ _ _ (0, 0) [0, 1] hP hD hS rfl (by decide) dX12_key_93 hpost
          · have b_29 := z_feqF c_24
            refine lv_aload_n hx hb dX12_key_80 rfl (lv_at hl 0 rfl) ?_
            refine lv_iload_n hx hb dX12_key_81 rfl (lv_at hl 1 rfl) ?_
            refine z_callVi (As := [.int k]) (rest := []) (wr := []) ⟨hx, hb, hml, hown, hts⟩ hK hE hT hP hD hS hA (r_ringOf l G cA h0 0 0 m_above m_under a_traySort a_trayMany a_numbers a_tape m_taped m_textEnd m_faultKind m_faultAt m_bad m_badAt m_token m_at m_behind m_number m_letters m_word a_c a_words m_markMany a_there a_tried a_best a_found m_thereMany m_foundMany m_orderHow m_orderRing m_orderMany m_hasBest m_bestTop m_bestBy a_weights a_shared m_random m_truePlace m_trueWay m_seconds m_done m_feelings m_tries m_leftOver m_playDoor m_playRing m_isOpen m_isOver m_wasTried m_hasPlayed a_feltNow a_last a_kept m_hasSeconds m_hasTurned m_hasRound a_hasFeels a_isOn m_firstAct m_meanTop m_meanBy a_order m_rowMany m_newSteps g_c k (by omega) hC_g_c) lk_RX12_278 ⟨rfl, rfl⟩ ⟨Nat.le_of_ble_eq_true rfl, Nat.le_of_ble_eq_true rfl⟩ 12 rfl rfl rfl [0, 1] [] rfl rfl (by decide) rfl hl.1 rfl (lv_room (Nat.le_of_ble_eq_true rfl)) dX12_key_82 ⟨Nat.le_of_ble_eq_true rfl, Nat.le_of_ble_eq_true rfl⟩ (fun r_30 u_31 H locs hw hP hD hS => ?_)
            obtain ⟨he_r_30, hw⟩ := hw
            obtain ⟨hr_r_30, hf_32⟩ := hw
            refine lv_goto (tgt := 93) hx hb dX12_key_85 (by decide) ?_
            have hpost : ((-1) ≤ r_30.toInt ∧ r_30.toInt ≤ 9) ∧ (0 ≤ (0 : Int32).toInt ∧ (0 : Int32).toInt ≤ 0) := ⟨(z_rgw hr_r_30 (by decide) (by decide)), (by decide +kernel)⟩
            exact hret _ _ _ _ _ _ (0, 0) [0, 1] hP hD hS rfl (by decide) dX12_key_93 hpost
        · have b_33 := z_fltF c_22
          refine lv_aload_n hx hb dX12_key_67 rfl (lv_at hl 0 rfl) ?_
          refine lv_bipush (v := 8) hx hb dX12_key_68 (by decide) ?_
          refine z_callVi (As := [.int 8]) (rest := []) (wr := [(a_c, .inl (cA.1 0, 1825, .inl g_c))]) ⟨hx, hb, hml, hown, hts⟩ hK hE hT hP hD hS hA (r_refuse l G cA h0 0 0 m_above m_under a_traySort a_trayMany a_numbers a_tape m_taped m_textEnd m_faultKind m_faultAt m_bad m_badAt m_token m_at m_behind m_number m_letters m_word a_c a_words m_markMany a_there a_tried a_best a_found m_thereMany m_foundMany m_orderHow m_orderRing m_orderMany m_hasBest m_bestTop m_bestBy a_weights a_shared m_random m_truePlace m_trueWay m_seconds m_done m_feelings m_tries m_leftOver m_playDoor m_playRing m_isOpen m_isOver m_wasTried m_hasPlayed a_feltNow a_last a_kept m_hasSeconds m_hasTurned m_hasRound a_hasFeels a_isOn m_firstAct m_meanTop m_meanBy a_order m_rowMany m_newSteps 8) lk_RX12_269 ⟨rfl, rfl⟩ ⟨Nat.le_of_ble_eq_true rfl, Nat.le_of_ble_eq_true rfl⟩ 12 rfl rfl rfl [0] [1] rfl rfl (by decide) rfl hl.1 rfl (lv_room (Nat.le_of_ble_eq_true rfl)) dX12_key_70 ⟨Nat.le_of_ble_eq_true rfl, Nat.le_of_ble_eq_true rfl⟩ (fun r_35 u_36 H locs hw hP hD hS => ?_)
          obtain ⟨n_34, rfl⟩ : ∃ z, z = u_36 := ⟨_, rfl⟩
          obtain ⟨he_r_35, he_n_34, hw⟩ := hw
          have hr_r_35 := hw
          refine lv_goto (tgt := 93) hx hb dX12_key_73 (by decide) ?_
          have hpost : ((-1) ≤ r_35.toInt ∧ r_35.toInt ≤ 9) ∧ (0 ≤ (0 : Int32).toInt ∧ (0 : Int32).toInt ≤ 0) := ⟨(z_rgw hr_r_35 (by decide) (by decide)), (by decide +kernel)⟩
          exact hret _ _ _ _ _ _ (n_34, 0) [1, 0] hP hD hS rfl (by decide) dX12_key_93 hpost
      · have b_37 := z_feqF c_17
        refine lv_aload_n hx hb dX12_key_48 rfl (lv_at hl 0 rfl) ?_
        refine va_get (D := G) (ci := 12) (v := .ref a_c) (C := RX12) (T := TX12) (N := 65) hx hb hts inT12 hown hK hP 0 rfl rfl 20 (by decide) (hts _ tw_1905) (fun _ h9 => h9) rfl dX12_key_49 ?_
        refine lv_sipush (v := 150) hx hb dX12_key_52 (by decide) ?_
        refine lv_iload_n hx hb dX12_key_55 rfl (lv_at hl 1 rfl) ?_
        refine lv_iadd hx hb dX12_key_56 ?_
        refine lv_topi (fun x_38 he_x_38 => ?_)
        have hq_x_38 := z_addq he_x_38 hk_150 (rfl : k.toInt = _) (by omega) (by omega)
        refine va_iald hx hb hK hP 1 0 rfl rfl (z_inN (by omega) (by omega)) dX12_key_57 ?_
        refine lv_topi (fun x_39 he_x_39 => ?_)
        have hr_x_39 := z_ct hC_g_c he_x_39 (a := 150) (b := 159) (lo := 0) (hi := 1) (by decide +kernel) (by decide) (by omega) (by omega)
        have hpost : ((-1) ≤ x_39.toInt ∧ x_39.toInt ≤ 9) ∧ (0 ≤ (0 : Int32).toInt ∧ (0 : Int32).toInt ≤ 0) := ⟨(z_rgw hr_x_39 (by decide) (by decide)), (by decide +kernel)⟩
        exact hret _ _ _ _ _ _ (0, 0) [0, 1] hP hD hS rfl (by decide) dX12_key_58 hpost
set_option maxHeartbeats 40000000 in
set_option maxRecDepth 100000 in
theorem r_gather (l : Launch) (G : va_G) (cA : zCA) (h0 : Nat) (m_status : Int32) (m_thrown : Int32) (m_above : Int64) (m_under : Int64) (a_traySort : Nat) (a_trayMany : Nat) (a_numbers : Nat) (a_tape : Nat) (m_taped : Int32) (m_textEnd : Int32) (m_faultKind : Int32) (m_faultAt : Int32) (m_bad : Int32) (m_badAt : Int32) (m_token : Int32) (m_at : Int32) (m_behind : Int32) (m_number : Int32) (m_letters : Int32) (m_word : Int64) (a_c : Nat) (a_words : Nat) (m_markMany : Int32) (a_there : Nat) (a_tried : Nat) (a_best : Nat) (a_found : Nat) (m_thereMany : Int32) (m_foundMany : Int32) (m_orderHow : Int32) (m_orderRing : Int32) (m_orderMany : Int32) (m_hasBest : Int32) (m_bestTop : Int64) (m_bestBy : Int64) (a_weights : Nat) (a_shared : Nat) (m_random : Int32) (m_truePlace : Int32) (m_trueWay : Int32) (m_seconds : Int32) (m_done : Int32) (m_feelings : Int32) (m_tries : Int32) (m_leftOver : Int32) (m_playDoor : Int32) (m_playRing : Int32) (m_isOpen : Int32) (m_isOver : Int32) (m_wasTried : Int32) (m_hasPlayed : Int32) (a_feltNow : Nat) (a_last : Nat) (a_kept : Nat) (m_hasSeconds : Int32) (m_hasTurned : Int32) (m_hasRound : Int32) (a_hasFeels : Nat) (a_isOn : Nat) (m_firstAct : Int32) (m_meanTop : Int64) (m_meanBy : Int64) (a_order : Nat) (m_rowMany : Int32) (m_newSteps : Int32) (g_c : Nat → Int32) (g_there : Nat → Int32) (r : Int32) (hr_r : 0 ≤ r.toInt ∧ r.toInt ≤ 2) (hr_m_thereMany : 0 ≤ m_thereMany.toInt ∧ m_thereMany.toInt ≤ 10) (hC_g_c : zC g_c) (hC_g_there : zRg 10 0 9 g_there) : zCv l yX12_gather cX12_gather 4 none ({ frames := 0, cells := 0, slots := 0, locals := 0 }) G cA [.ref h0, .int r] [(h0, .inr (12, [.int m_status, .int m_thrown, .long m_above, .long m_under, .ref a_traySort, .ref a_trayMany, .ref a_numbers, .ref a_tape, .int m_taped, .int m_textEnd, .int m_faultKind, .int m_faultAt, .int m_bad, .int m_badAt, .int m_token, .int m_at, .int m_behind, .int m_number, .int m_letters, .long m_word, .ref a_c, .ref a_words, .int m_markMany, .ref a_there, .ref a_tried, .ref a_best, .ref a_found, .int m_thereMany, .int m_foundMany, .int m_orderHow, .int m_orderRing, .int m_orderMany, .int m_hasBest, .long m_bestTop, .long m_bestBy, .ref a_weights, .ref a_shared, .int m_random, .int m_truePlace, .int m_trueWay, .int m_seconds, .int m_done, .int m_feelings, .int m_tries, .int m_leftOver, .int m_playDoor, .int m_playRing, .int m_isOpen, .int m_isOver, .int m_wasTried, .int m_hasPlayed, .ref a_feltNow, .ref a_last, .ref a_kept, .int m_hasSeconds, .int m_hasTurned, .int m_hasRound, .ref a_hasFeels, .ref a_isOn, .int m_firstAct, .long m_meanTop, .long m_meanBy, .ref a_order, .int m_rowMany, .int m_newSteps])), (a_c, .inl (cA.1 0, 1825, .inl g_c)), (a_there, .inl (cA.1 0, 10, .inl g_there))] (S := Int32 × (Nat → Int32)) (fun (u : Int32 × (Nat → Int32)) => (u.1 = (F_r_gather g_c g_there r).1) ∧ (u.2 = (F_r_gather g_c g_there r).2) ∧ ((0 ≤ u.1.toInt ∧ u.1.toInt ≤ 10) ∧ (zRg 10 0 9 u.2) ∧ (u.1.toInt = zgn g_c r.toInt) ∧ (r.toInt < (g_c 2).toInt → zDi u.2 u.1.toInt ∧ ∀ j : Nat, (j : Int) < u.1.toInt → 0 ≤ (u.2 j).toInt ∧ (u.2 j).toInt < (g_c 1).toInt))) (fun (u : Int32 × (Nat → Int32)) => [(h0, .inr (12, [.int m_status, .int m_thrown, .long m_above, .long m_under, .ref a_traySort, .ref a_trayMany, .ref a_numbers, .ref a_tape, .int m_taped, .int m_textEnd, .int m_faultKind, .int m_faultAt, .int m_bad, .int m_badAt, .int m_token, .int m_at, .int m_behind, .int m_number, .int m_letters, .long m_word, .ref a_c, .ref a_words, .int m_markMany, .ref a_there, .ref a_tried, .ref a_best, .ref a_found, .int u.1, .int m_foundMany, .int m_orderHow, .int m_orderRing, .int m_orderMany, .int m_hasBest, .long m_bestTop, .long m_bestBy, .ref a_weights, .ref a_shared, .int m_random, .int m_truePlace, .int m_trueWay, .int m_seconds, .int m_done, .int m_feelings, .int m_tries, .int m_leftOver, .int m_playDoor, .int m_playRing, .int m_isOpen, .int m_isOver, .int m_wasTried, .int m_hasPlayed, .ref a_feltNow, .ref a_last, .ref a_kept, .int m_hasSeconds, .int m_hasTurned, .int m_hasRound, .ref a_hasFeels, .ref a_isOn, .int m_firstAct, .long m_meanTop, .long m_meanBy, .ref a_order, .int m_rowMany, .int m_newSteps])), (a_c, .inl (cA.1 0, 1825, .inl g_c)), (a_there, .inl (cA.1 0, 10, .inl u.2))]) 0 0 := by
  have hk_0 : (0 : Int32).toInt = 0 := by decide +kernel
  have hk_1 : (1 : Int32).toInt = 1 := by decide +kernel
  have hk_10 : (10 : Int32).toInt = 10 := by decide +kernel
  have hk_95 : (95 : Int32).toInt = 95 := by decide +kernel
  have hk_98 : (98 : Int32).toInt = 98 := by decide +kernel
  have hk_150 : (150 : Int32).toInt = 150 := by decide +kernel
  refine z_start2v (own := RX12) (by decide) (Nat.le_of_ble_eq_true rfl) rfl ?_
  intro p e s m args below meth c A ls Q hx hb hml hts hown hK hE hT hP hD hS hA hl hret
  have hl : lv_has ls 4 [(0, .ref h0), (1, .int r)] := hl
  refine lv_aload_n hx hb dX12_gather_0 rfl (lv_at hl 0 rfl) ?_
  refine lv_iconst (v := 0) hx hb dX12_gather_1 (by decide) ?_
  refine va_put (D := G) (ci := 12) (v := .int 0) (ty := .int) (C := RX12) (T := TX12) (N := 65) hx hb hts inT12 tyX12 tyX12_ok nmX12 hown hK hP hD hS 0 rfl rfl 27 (by decide) (hts _ tw_1912) (fun _ h9 => h9) rfl (tyX12_ok 27 (by decide)) rfl rfl (Nat.le_of_ble_eq_true rfl) dX12_gather_2 (fun H locs hP hD hS => ?_)
  have hzs := zC_size hC_g_c.1 (r := r.toInt.toNat) (by omega)
  refine lv_iconst (v := 0) hx hb dX12_gather_5 (by decide) ?_
  refine lv_istore_n (lv' := [(2, .int 0), (0, .ref h0), (1, .int r)]) hx hb dX12_gather_6 rfl hl (by decide) rfl (fun ls hl => ?_)
  have hlp_281 : ∀ (n_L7a : Nat) (v_236 : Int32) (v_237 : Int32) (g_238 : Nat → Int32) (H : Heap) (locs : List Loc) (ls : Array Slot), (2147483647 - v_236.toInt).toNat < n_L7a → (0 ≤ v_236.toInt ∧ v_236.toInt ≤ 10) → (0 ≤ v_237.toInt ∧ v_237.toInt ≤ 10) → (zRg 10 0 9 g_238) → (v_237.toInt ≤ v_236.toInt) → (v_237.toInt = zgc g_c r.toInt.toNat v_236.toInt.toNat) → (v_236.toInt ≤ (g_c (95 + r.toInt.toNat)).toInt) → (r.toInt < (g_c 2).toInt → zGd g_c g_238 r.toInt v_237.toInt v_236.toInt) → (F_r_gather g_c g_there r = F_r_gather_L7a g_c r n_L7a v_236 v_237 g_238) → va_P G vwCl [(h0, .inr (12, [.int m_status, .int m_thrown, .long m_above, .long m_under, .ref a_traySort, .ref a_trayMany, .ref a_numbers, .ref a_tape, .int m_taped, .int m_textEnd, .int m_faultKind, .int m_faultAt, .int m_bad, .int m_badAt, .int m_token, .int m_at, .int m_behind, .int m_number, .int m_letters, .long m_word, .ref a_c, .ref a_words, .int m_markMany, .ref a_there, .ref a_tried, .ref a_best, .ref a_found, .int v_237, .int m_foundMany, .int m_orderHow, .int m_orderRing, .int m_orderMany, .int m_hasBest, .long m_bestTop, .long m_bestBy, .ref a_weights, .ref a_shared, .int m_random, .int m_truePlace, .int m_trueWay, .int m_seconds, .int m_done, .int m_feelings, .int m_tries, .int m_leftOver, .int m_playDoor, .int m_playRing, .int m_isOpen, .int m_isOver, .int m_wasTried, .int m_hasPlayed, .ref a_feltNow, .ref a_last, .ref a_kept, .int m_hasSeconds, .int m_hasTurned, .int m_hasRound, .ref a_hasFeels, .ref a_isOn, .int m_firstAct, .long m_meanTop, .long m_meanBy, .ref a_order, .int m_rowMany, .int m_newSteps])), (a_c, .inl (cA.1 0, 1825, .inl g_c)), (a_there, .inl (cA.1 0, 10, .inl g_238))] H → va_D A [(h0, .inr (12, [.int m_status, .int m_thrown, .long m_above, .long m_under, .ref a_traySort, .ref a_trayMany, .ref a_numbers, .ref a_tape, .int m_taped, .int m_textEnd, .int m_faultKind, .int m_faultAt, .int m_bad, .int m_badAt, .int m_token, .int m_at, .int m_behind, .int m_number, .int m_letters, .long m_word, .ref a_c, .ref a_words, .int m_markMany, .ref a_there, .ref a_tried, .ref a_best, .ref a_found, .int v_237, .int m_foundMany, .int m_orderHow, .int m_orderRing, .int m_orderMany, .int m_hasBest, .long m_bestTop, .long m_bestBy, .ref a_weights, .ref a_shared, .int m_random, .int m_truePlace, .int m_trueWay, .int m_seconds, .int m_done, .int m_feelings, .int m_tries, .int m_leftOver, .int m_playDoor, .int m_playRing, .int m_isOpen, .int m_isOver, .int m_wasTried, .int m_hasPlayed, .ref a_feltNow, .ref a_last, .ref a_kept, .int m_hasSeconds, .int m_hasTurned, .int m_hasRound, .ref a_hasFeels, .ref a_isOn, .int m_firstAct, .long m_meanTop, .long m_meanBy, .ref a_order, .int m_rowMany, .int m_newSteps])), (a_c, .inl (cA.1 0, 1825, .inl g_c)), (a_there, .inl (cA.1 0, 10, .inl g_238))] → va_S A s.heap H locs → lv_has ls 4 [(0, .ref h0), (1, .int r), (2, .int v_236)] → W p l e ({ frames := 0, cells := 0, slots := 0, locals := 0 }) s m args below meth c H locs 0 0 Q (F0 m 7 ls []) := by
    intro n_L7a
    induction n_L7a with
    | zero =>
      intro v_236 v_237 g_238 H locs ls hmu_hlp_281 hr_v_236 hr_v_237 hC_g_238 hi_258 hi_259 hi_260 hi_261 hF_L7a hP hD hS hl
      exact absurd hmu_hlp_281 (Nat.not_lt_zero _)
    | succ n_L7a ih_282 =>
      intro v_236 v_237 g_238 H locs ls hmu_hlp_281 hr_v_236 hr_v_237 hC_g_238 hi_258 hi_259 hi_260 hi_261 hF_L7a hP hD hS hl
      refine lv_iload_n hx hb dX12_gather_7 rfl (lv_at hl 2 rfl) ?_
      refine lv_aload_n hx hb dX12_gather_8 rfl (lv_at hl 0 rfl) ?_
      refine va_get (D := G) (ci := 12) (v := .ref a_c) (C := RX12) (T := TX12) (N := 65) hx hb hts inT12 hown hK hP 0 rfl rfl 20 (by decide) (hts _ tw_1905) (fun _ h9 => h9) rfl dX12_gather_9 ?_
      refine lv_bipush (v := 95) hx hb dX12_gather_12 (by decide) ?_
      refine lv_iload_n hx hb dX12_gather_14 rfl (lv_at hl 1 rfl) ?_
      refine lv_iadd hx hb dX12_gather_15 ?_
      refine lv_topi (fun x_283 he_x_283 => ?_)
      have hq_x_283 := z_addq he_x_283 hk_95 (rfl : r.toInt = _) (by omega) (by omega)
      refine va_iald hx hb hK hP 1 0 rfl rfl (z_inN (by omega) (by omega)) dX12_gather_16 ?_
      refine lv_topi (fun x_284 he_x_284 => ?_)
      have hr_x_284 := z_ct hC_g_c he_x_284 (a := 95) (b := 97) (lo := 0) (hi := 10) (by decide +kernel) (by decide) (by omega) (by omega)
      have hsz_x_284 := z_sz (r := r.toInt) he_x_284 (by omega) (by omega)
      refine lv_icmp_ge (tgt := 78) hx hb dX12_gather_17 (by decide) (fun c_285 => ?_) (fun c_285 => ?_)
      · have b_286 := z_fgeT c_285
        have hpost : (0 ≤ v_237.toInt ∧ v_237.toInt ≤ 10) ∧ (zRg 10 0 9 g_238) ∧ (v_237.toInt = zgn g_c r.toInt) ∧ (r.toInt < (g_c 2).toInt → zDi g_238 v_237.toInt ∧ ∀ j : Nat, (j : Int) < v_237.toInt → 0 ≤ (g_238 j).toInt ∧ (g_238 j).toInt < (g_c 1).toInt) := ⟨hr_v_237, hC_g_238, (zgn_of hi_259 (by rw [z_sz he_x_284 (by omega) (by omega)]; omega)), (fun h => zGk_of (hi_261 h))⟩
        have hX_287 : F_r_gather g_c g_there r = ((v_237, g_238) : Int32 × (Nat → Int32)) := by
          refine hF_L7a.trans ?_
          refine (F_r_gather_L7a_s ..).trans ?_
          try (extract_lets -merge -useContext +onlyGivenNames y9; have e9 : x_283 = y9 := (by first | exact he_x_283 | exact he_x_283.symm); clear_value y9; subst e9)
          try (extract_lets -merge -useContext +onlyGivenNames y9; have e9 : x_284 = y9 := (by first | exact he_x_284 | exact he_x_284.symm); clear_value y9; subst e9)
          refine (if_pos c_285).trans ?_
          exact rfl
        exact hret _ _ _ _ _ (v_237, g_238) [0, 1, 2] hP hD hS rfl (by decide) dX12_gather_78 ⟨(congrArg (fun z9 => z9.1) hX_287).symm, (congrArg (fun z9 => z9.2) hX_287).symm, hpost⟩
      · have b_288 := z_fltF c_285
        refine lv_aload_n hx hb dX12_gather_20 rfl (lv_at hl 0 rfl) ?_
        refine va_get (D := G) (ci := 12) (v := .ref a_c) (C := RX12) (T := TX12) (N := 65) hx hb hts inT12 hown hK hP 0 rfl rfl 20 (by decide) (hts _ tw_1905) (fun _ h9 => h9) rfl dX12_gather_21 ?_
        refine lv_bipush (v := 98) hx hb dX12_gather_24 (by decide) ?_
        refine lv_bipush (v := 10) hx hb dX12_gather_26 (by decide) ?_
        refine lv_iload_n hx hb dX12_gather_28 rfl (lv_at hl 1 rfl) ?_
        refine lv_imul hx hb dX12_gather_29 ?_
        refine lv_topi (fun x_289 he_x_289 => ?_)
        have hq_x_289 := z_mulq he_x_289 hk_10 (rfl : r.toInt = _) (by omega) (by omega)
        refine lv_iadd hx hb dX12_gather_30 ?_
        refine lv_topi (fun x_290 he_x_290 => ?_)
        have hq_x_290 := z_addq he_x_290 hk_98 (rfl : x_289.toInt = _) (by omega) (by omega)
        refine lv_iload_n hx hb dX12_gather_31 rfl (lv_at hl 2 rfl) ?_
        refine lv_iadd hx hb dX12_gather_32 ?_
        refine lv_topi (fun x_291 he_x_291 => ?_)
        have hq_x_291 := z_addq he_x_291 (rfl : x_290.toInt = _) (rfl : v_236.toInt = _) (by omega) (by omega)
        refine va_iald hx hb hK hP 1 0 rfl rfl (z_inN (by omega) (by omega)) dX12_gather_33 ?_
        refine lv_topi (fun x_292 he_x_292 => ?_)
        have hr_x_292 := z_ct hC_g_c he_x_292 (a := 98) (b := 127) (lo := 0) (hi := 9) (by decide +kernel) (by decide) (by omega) (by omega)
        refine lv_istore_n (lv' := [(3, .int x_292), (0, .ref h0), (1, .int r), (2, .int v_236)]) hx hb dX12_gather_34 rfl hl (by decide) rfl (fun ls hl => ?_)
        refine lv_aload_n hx hb dX12_gather_35 rfl (lv_at hl 1 rfl) ?_
        refine va_get (D := G) (ci := 12) (v := .ref a_c) (C := RX12) (T := TX12) (N := 65) hx hb hts inT12 hown hK hP 0 rfl rfl 20 (by decide) (hts _ tw_1905) (fun _ h9 => h9) rfl dX12_gather_36 ?_
        refine lv_sipush (v := 150) hx hb dX12_gather_39 (by decide) ?_
        refine lv_iload_n hx hb dX12_gather_42 rfl (lv_at hl 0 rfl) ?_
        refine lv_iadd hx hb dX12_gather_43 ?_
        refine lv_topi (fun x_293 he_x_293 => ?_)
        have hq_x_293 := z_addq he_x_293 hk_150 (rfl : x_292.toInt = _) (by omega) (by omega)
        refine va_iald hx hb hK hP 1 0 rfl rfl (z_inN (by omega) (by omega)) dX12_gather_44 ?_
        refine lv_topi (fun x_294 he_x_294 => ?_)
        have hr_x_294 := z_ct hC_g_c he_x_294 (a := 150) (b := 159) (lo := 0) (hi := 1) (by decide +kernel) (by decide) (by omega) (by omega)
        refine lv_iconst (v := 1) hx hb dX12_gather_45 (by decide) ?_
        refine lv_icmp_ne (tgt := 52) hx hb dX12_gather_46 (by decide) (fun c_295 => ?_) (fun c_295 => ?_)
        · have b_296 := z_fneT c_295
          refine lv_aload_n hx hb dX12_gather_52 rfl (lv_at hl 1 rfl) ?_
          refine va_get (D := G) (ci := 12) (v := .ref a_there) (C := RX12) (T := TX12) (N := 65) hx hb hts inT12 hown hK hP 0 rfl rfl 23 (by decide) (hts _ tw_1908) (fun _ h9 => h9) rfl dX12_gather_53 ?_
          refine lv_aload_n hx hb dX12_gather_56 rfl (lv_at hl 1 rfl) ?_
          refine va_get (D := G) (ci := 12) (v := .int v_237) (C := RX12) (T := TX12) (N := 65) hx hb hts inT12 hown hK hP 0 rfl rfl 27 (by decide) (hts _ tw_1912) (fun _ h9 => h9) rfl dX12_gather_57 ?_
          refine lv_iload_n hx hb dX12_gather_60 rfl (lv_at hl 0 rfl) ?_
          refine z_iast hx hb hK hP hD hS 2 0 rfl rfl (z_inN (by omega) (by omega)) dX12_gather_61 (fun g_297 hg_g_297 H locs hP hD hS => ?_)
          have hC_g_297 := z_rgU hC_g_238 hg_g_297 (by omega)
          refine lv_aload_n hx hb dX12_gather_62 rfl (lv_at hl 1 rfl) ?_
          refine lv_dup hx hb dX12_gather_63 rfl ?_
          refine va_get (D := G) (ci := 12) (v := .int v_237) (C := RX12) (T := TX12) (N := 65) hx hb hts inT12 hown hK hP 0 rfl rfl 27 (by decide) (hts _ tw_1912) (fun _ h9 => h9) rfl dX12_gather_64 ?_
          refine lv_iconst (v := 1) hx hb dX12_gather_67 (by decide) ?_
          refine lv_iadd hx hb dX12_gather_68 ?_
          refine lv_topi (fun x_298 he_x_298 => ?_)
          have hq_x_298 := z_addq he_x_298 (rfl : v_237.toInt = _) hk_1 (by omega) (by omega)
          have hn_k_299 : 0 ≤ x_298.toInt ∧ x_298.toInt ≤ 10 := by omega
          refine va_put (D := G) (ci := 12) (v := .int x_298) (ty := .int) (C := RX12) (T := TX12) (N := 65) hx hb hts inT12 tyX12 tyX12_ok nmX12 hown hK hP hD hS 0 rfl rfl 27 (by decide) (hts _ tw_1912) (fun _ h9 => h9) rfl (tyX12_ok 27 (by decide)) rfl rfl (Nat.le_of_ble_eq_true rfl) dX12_gather_69 (fun H locs hP hD hS => ?_)
          obtain ⟨x_300, he_x_300⟩ : ∃ z : Int32, z = v_236 + 1 := ⟨_, rfl⟩
          have hq_x_300 := z_addq he_x_300 (rfl : v_236.toInt = _) hk_1 (by omega) (by omega)
          refine lv_iinc (v := x_300) (lv' := [(2, .int x_300), (3, .int x_292), (0, .ref h0), (1, .int r)]) hx hb dX12_gather_72 hl (k := 3) rfl ((z_ofi (by decide +kernel)).trans he_x_300.symm) (by decide) rfl (fun ls hl => ?_)
          refine lv_goto (tgt := 7) hx hb dX12_gather_75 (by decide) ?_
          have hX_301 : F_r_gather g_c g_there r = F_r_gather_L7a g_c r n_L7a x_300 x_298 g_297 := by
            refine hF_L7a.trans ?_
            refine (F_r_gather_L7a_s ..).trans ?_
            try (extract_lets -merge -useContext +onlyGivenNames y9; have e9 : x_283 = y9 := (by first | exact he_x_283 | exact he_x_283.symm); clear_value y9; subst e9)
            try (extract_lets -merge -useContext +onlyGivenNames y9; have e9 : x_284 = y9 := (by first | exact he_x_284 | exact he_x_284.symm); clear_value y9; subst e9)
            refine (if_neg c_285).trans ?_
            try (extract_lets -merge -useContext +onlyGivenNames y9; have e9 : x_289 = y9 := (by first | exact he_x_289 | exact he_x_289.symm); clear_value y9; subst e9)
            try (extract_lets -merge -useContext +onlyGivenNames y9; have e9 : x_290 = y9 := (by first | exact he_x_290 | exact he_x_290.symm); clear_value y9; subst e9)
            try (extract_lets -merge -useContext +onlyGivenNames y9; have e9 : x_291 = y9 := (by first | exact he_x_291 | exact he_x_291.symm); clear_value y9; subst e9)
            try (extract_lets -merge -useContext +onlyGivenNames y9; have e9 : x_292 = y9 := (by first | exact he_x_292 | exact he_x_292.symm); clear_value y9; subst e9)
            try (extract_lets -merge -useContext +onlyGivenNames y9; have e9 : x_293 = y9 := (by first | exact he_x_293 | exact he_x_293.symm); clear_value y9; subst e9)
            try (extract_lets -merge -useContext +onlyGivenNames y9; have e9 : x_294 = y9 := (by first | exact he_x_294 | exact he_x_294.symm); clear_value y9; subst e9)
            refine (if_neg c_295).trans ?_
            try (extract_lets -merge -useContext +onlyGivenNames y9; have e9 : g_297 = y9 := (by first | exact hg_g_297 | exact hg_g_297.symm); clear_value y9; subst e9)
            try (extract_lets -merge -useContext +onlyGivenNames y9; have e9 : x_298 = y9 := (by first | exact he_x_298 | exact he_x_298.symm); clear_value y9; subst e9)
            try (extract_lets -merge -useContext +onlyGivenNames y9; have e9 : x_300 = y9 := (by first | exact he_x_300 | exact he_x_300.symm); clear_value y9; subst e9)
            exact rfl
          exact ih_282 x_300 x_298 g_297 H locs ls (by omega) (by omega) (by omega) hC_g_297 (by omega) (by rw [hq_x_300, hq_x_298]; exact zgc_more hi_259 he_x_292 (by omega) he_x_294 (by omega) (by omega) (by omega) (by omega) (by omega)) (by omega) (fun h => by rw [hq_x_300, hq_x_298]; exact zGd_add hC_g_c (hi_261 h) (by omega) (by omega) h he_x_292 (by omega) (by omega) (by omega) hg_g_297 (by omega) (by omega)) hX_301 hP hD hS (lv_sub hl [2, 3, 0] rfl)
        · have b_302 := z_feqF c_295
          refine lv_goto (tgt := 72) hx hb dX12_gather_49 (by decide) ?_
          obtain ⟨x_303, he_x_303⟩ : ∃ z : Int32, z = v_236 + 1 := ⟨_, rfl⟩
          have hq_x_303 := z_addq he_x_303 (rfl : v_236.toInt = _) hk_1 (by omega) (by omega)
          refine lv_iinc (v := x_303) (lv' := [(2, .int x_303), (3, .int x_292), (0, .ref h0), (1, .int r)]) hx hb dX12_gather_72 hl (k := 3) rfl ((z_ofi (by decide +kernel)).trans he_x_303.symm) (by decide) rfl (fun ls hl => ?_)
          refine lv_goto (tgt := 7) hx hb dX12_gather_75 (by decide) ?_
          have hX_304 : F_r_gather g_c g_there r = F_r_gather_L7a g_c r n_L7a x_303 v_237 g_238 := by
            refine hF_L7a.trans ?_
            refine (F_r_gather_L7a_s ..).trans ?_
            try (extract_lets -merge -useContext +onlyGivenNames y9; have e9 : x_283 = y9 := (by first | exact he_x_283 | exact he_x_283.symm); clear_value y9; subst e9)
            try (extract_lets -merge -useContext +onlyGivenNames y9; have e9 : x_284 = y9 := (by first | exact he_x_284 | exact he_x_284.symm); clear_value y9; subst e9)
            refine (if_neg c_285).trans ?_
            try (extract_lets -merge -useContext +onlyGivenNames y9; have e9 : x_289 = y9 := (by first | exact he_x_289 | exact he_x_289.symm); clear_value y9; subst e9)
            try (extract_lets -merge -useContext +onlyGivenNames y9; have e9 : x_290 = y9 := (by first | exact he_x_290 | exact he_x_290.symm); clear_value y9; subst e9)
            try (extract_lets -merge -useContext +onlyGivenNames y9; have e9 : x_291 = y9 := (by first | exact he_x_291 | exact he_x_291.symm); clear_value y9; subst e9)
            try (extract_lets -merge -useContext +onlyGivenNames y9; have e9 : x_292 = y9 := (by first | exact he_x_292 | exact he_x_292.symm); clear_value y9; subst e9)
            try (extract_lets -merge -useContext +onlyGivenNames y9; have e9 : x_293 = y9 := (by first | exact he_x_293 | exact he_x_293.symm); clear_value y9; subst e9)
            try (extract_lets -merge -useContext +onlyGivenNames y9; have e9 : x_294 = y9 := (by first | exact he_x_294 | exact he_x_294.symm); clear_value y9; subst e9)
            refine (if_pos c_295).trans ?_
            try (extract_lets -merge -useContext +onlyGivenNames y9; have e9 : x_303 = y9 := (by first | exact he_x_303 | exact he_x_303.symm); clear_value y9; subst e9)
            exact rfl
          exact ih_282 x_303 v_237 g_238 H locs ls (by omega) (by omega) hr_v_237 hC_g_238 (by omega) (by rw [hq_x_303]; exact zgc_skip hi_259 he_x_292 (by omega) he_x_294 (by omega) (by omega) (by omega) (by omega) (by omega)) (by omega) (fun h => by rw [hq_x_303]; exact zGd_skip (hi_261 h)) hX_304 hP hD hS (lv_sub hl [2, 3, 0] rfl)
  have hX_305 : F_r_gather g_c g_there r = F_r_gather_L7a g_c r ((2147483647 - (0 : Int32).toInt).toNat + 1) (0 : Int32) (0 : Int32) g_there := by
    refine (F_r_gather_s ..).trans ?_
    exact rfl
  exact hlp_281 ((2147483647 - (0 : Int32).toInt).toNat + 1) 0 0 g_there _ _ _ (Nat.lt_succ_self _) (by decide +kernel) (by decide +kernel) hC_g_there (by omega) zgc_0 (by omega) (fun _ => zGd_0) hX_305 hP hD hS (lv_sub hl [1, 2, 0] rfl)
set_option maxHeartbeats 4000000 in
set_option maxRecDepth 100000 in
theorem r_ring (l : Launch) (G : va_G) (cA : zCA) (h0 : Nat) (m_status : Int32) (m_thrown : Int32) (m_above : Int64) (m_under : Int64) (a_traySort : Nat) (a_trayMany : Nat) (a_numbers : Nat) (a_tape : Nat) (m_taped : Int32) (m_textEnd : Int32) (m_faultKind : Int32) (m_faultAt : Int32) (m_bad : Int32) (m_badAt : Int32) (m_token : Int32) (m_at : Int32) (m_behind : Int32) (m_number : Int32) (m_letters : Int32) (m_word : Int64) (a_c : Nat) (a_words : Nat) (m_markMany : Int32) (a_there : Nat) (a_tried : Nat) (a_best : Nat) (a_found : Nat) (m_thereMany : Int32) (m_foundMany : Int32) (m_orderHow : Int32) (m_orderRing : Int32) (m_orderMany : Int32) (m_hasBest : Int32) (m_bestTop : Int64) (m_bestBy : Int64) (a_weights : Nat) (a_shared : Nat) (m_random : Int32) (m_truePlace : Int32) (m_trueWay : Int32) (m_seconds : Int32) (m_done : Int32) (m_feelings : Int32) (m_tries : Int32) (m_leftOver : Int32) (m_playDoor : Int32) (m_playRing : Int32) (m_isOpen : Int32) (m_isOver : Int32) (m_wasTried : Int32) (m_hasPlayed : Int32) (a_feltNow : Nat) (a_last : Nat) (a_kept : Nat) (m_hasSeconds : Int32) (m_hasTurned : Int32) (m_hasRound : Int32) (a_hasFeels : Nat) (a_isOn : Nat) (m_firstAct : Int32) (m_meanTop : Int64) (m_meanBy : Int64) (a_order : Nat) (m_rowMany : Int32) (m_newSteps : Int32) (g_c : Nat → Int32) (g_there : Nat → Int32) (r : Int32) (k : Int32) (hr_m_thereMany : 0 ≤ m_thereMany.toInt ∧ m_thereMany.toInt ≤ 10) (hC_g_c : zC g_c) (hC_g_there : zRg 10 0 9 g_there) : zCi l yX12_ring cX12_ring 3 (some .int) ({ frames := 2, cells := 0, slots := 0, locals := 46 }) G cA [.ref h0, .int r, .int k] [(h0, .inr (12, [.int m_status, .int m_thrown, .long m_above, .long m_under, .ref a_traySort, .ref a_trayMany, .ref a_numbers, .ref a_tape, .int m_taped, .int m_textEnd, .int m_faultKind, .int m_faultAt, .int m_bad, .int m_badAt, .int m_token, .int m_at, .int m_behind, .int m_number, .int m_letters, .long m_word, .ref a_c, .ref a_words, .int m_markMany, .ref a_there, .ref a_tried, .ref a_best, .ref a_found, .int m_thereMany, .int m_foundMany, .int m_orderHow, .int m_orderRing, .int m_orderMany, .int m_hasBest, .long m_bestTop, .long m_bestBy, .ref a_weights, .ref a_shared, .int m_random, .int m_truePlace, .int m_trueWay, .int m_seconds, .int m_done, .int m_feelings, .int m_tries, .int m_leftOver, .int m_playDoor, .int m_playRing, .int m_isOpen, .int m_isOver, .int m_wasTried, .int m_hasPlayed, .ref a_feltNow, .ref a_last, .ref a_kept, .int m_hasSeconds, .int m_hasTurned, .int m_hasRound, .ref a_hasFeels, .ref a_isOn, .int m_firstAct, .long m_meanTop, .long m_meanBy, .ref a_order, .int m_rowMany, .int m_newSteps])), (a_c, .inl (cA.1 0, 1825, .inl g_c)), (a_there, .inl (cA.1 0, 10, .inl g_there))] (S := Int32 × Int32 × Int32 × (Nat → Int32)) (fun (r : Int32) (u : Int32 × Int32 × Int32 × (Nat → Int32)) => ((-1) ≤ r.toInt ∧ r.toInt ≤ 10) ∧ (0 ≤ u.2.1.toInt ∧ u.2.1.toInt ≤ 0) ∧ (0 ≤ u.2.2.1.toInt ∧ u.2.2.1.toInt ≤ 10) ∧ (zRg 10 0 9 u.2.2.2)) (fun (u : Int32 × Int32 × Int32 × (Nat → Int32)) => [(h0, .inr (12, [.int u.1, .int u.2.1, .long m_above, .long m_under, .ref a_traySort, .ref a_trayMany, .ref a_numbers, .ref a_tape, .int m_taped, .int m_textEnd, .int m_faultKind, .int m_faultAt, .int m_bad, .int m_badAt, .int m_token, .int m_at, .int m_behind, .int m_number, .int m_letters, .long m_word, .ref a_c, .ref a_words, .int m_markMany, .ref a_there, .ref a_tried, .ref a_best, .ref a_found, .int u.2.2.1, .int m_foundMany, .int m_orderHow, .int m_orderRing, .int m_orderMany, .int m_hasBest, .long m_bestTop, .long m_bestBy, .ref a_weights, .ref a_shared, .int m_random, .int m_truePlace, .int m_trueWay, .int m_seconds, .int m_done, .int m_feelings, .int m_tries, .int m_leftOver, .int m_playDoor, .int m_playRing, .int m_isOpen, .int m_isOver, .int m_wasTried, .int m_hasPlayed, .ref a_feltNow, .ref a_last, .ref a_kept, .int m_hasSeconds, .int m_hasTurned, .int m_hasRound, .ref a_hasFeels, .ref a_isOn, .int m_firstAct, .long m_meanTop, .long m_meanBy, .ref a_order, .int m_rowMany, .int m_newSteps])), (a_c, .inl (cA.1 0, 1825, .inl g_c)), (a_there, .inl (cA.1 0, 10, .inl u.2.2.2))]) 0 0 := by
  have hk_m1 : ((-1) : Int32).toInt = (-1) := by decide +kernel
  have hk_1 : (1 : Int32).toInt = 1 := by decide +kernel
  have hk_2 : (2 : Int32).toInt = 2 := by decide +kernel
  have hk_8 : (8 : Int32).toInt = 8 := by decide +kernel
  have hkl_0 : (0 : Int64).toInt = 0 := by decide +kernel
  refine z_start2i (own := RX12) (by decide) (Nat.le_of_ble_eq_true rfl) rfl ?_
  intro p e s m args below meth c A ls Q hx hb hml hts hown hK hE hT hP hD hS hA hl hret
  have hl : lv_has ls 3 [(0, .ref h0), (1, .int r), (2, .int k)] := hl
  refine lv_aload_n hx hb dX12_ring_0 rfl (lv_at hl 0 rfl) ?_
  refine lv_iconst (v := 0) hx hb dX12_ring_1 (by decide) ?_
  refine va_put (D := G) (ci := 12) (v := .int 0) (ty := .int) (C := RX12) (T := TX12) (N := 65) hx hb hts inT12 tyX12 tyX12_ok nmX12 hown hK hP hD hS 0 rfl rfl 1 (by decide) (hts _ tw_1886) (fun _ h9 => h9) rfl (tyX12_ok 1 (by decide)) rfl rfl (Nat.le_of_ble_eq_true rfl) dX12_ring_2 (fun H locs hP hD hS => ?_)
  refine lv_aload_n hx hb dX12_ring_5 rfl (lv_at hl 0 rfl) ?_
  refine lv_iconst (v := 0) hx hb dX12_ring_6 (by decide) ?_
  refine va_put (D := G) (ci := 12) (v := .int 0) (ty := .int) (C := RX12) (T := TX12) (N := 65) hx hb hts inT12 tyX12 tyX12_ok nmX12 hown hK hP hD hS 0 rfl rfl 0 (by decide) (hts _ tw_1885) (fun _ h9 => h9) rfl (tyX12_ok 0 (by decide)) rfl rfl (Nat.le_of_ble_eq_true rfl) dX12_ring_7 (fun H locs hP hD hS => ?_)
  refine lv_aload_n hx hb dX12_ring_10 rfl (lv_at hl 0 rfl) ?_
  refine lv_iload_n hx hb dX12_ring_11 rfl (lv_at hl 1 rfl) ?_
  refine z_callVi (As := [.int r]) (rest := []) (wr := [(a_there, .inl (cA.1 0, 10, .inl g_there))]) ⟨hx, hb, hml, hown, hts⟩ hK hE hT hP hD hS hA (r_isRing l G cA h0 0 0 m_above m_under a_traySort a_trayMany a_numbers a_tape m_taped m_textEnd m_faultKind m_faultAt m_bad m_badAt m_token m_at m_behind m_number m_letters m_word a_c a_words m_markMany a_there a_tried a_best a_found m_thereMany m_foundMany m_orderHow m_orderRing m_orderMany m_hasBest m_bestTop m_bestBy a_weights a_shared m_random m_truePlace m_trueWay m_seconds m_done m_feelings m_tries m_leftOver m_playDoor m_playRing m_isOpen m_isOver m_wasTried m_hasPlayed a_feltNow a_last a_kept m_hasSeconds m_hasTurned m_hasRound a_hasFeels a_isOn m_firstAct m_meanTop m_meanBy a_order m_rowMany m_newSteps g_c r hC_g_c) lk_RX12_289 ⟨rfl, rfl⟩ ⟨Nat.le_of_ble_eq_true rfl, Nat.le_of_ble_eq_true rfl⟩ 12 rfl rfl rfl [0, 1] [2] rfl rfl (by decide) rfl hl.1 rfl (lv_room (Nat.le_of_ble_eq_true rfl)) dX12_ring_12 ⟨Nat.le_of_ble_eq_true rfl, Nat.le_of_ble_eq_true rfl⟩ (fun r_1 u_2 H locs hw hP hD hS => ?_)
  obtain ⟨he_r_1, hw⟩ := hw
  rcases hw with ⟨rfl, -⟩ | ⟨rfl, hf_3, hf_4⟩
  · skip
    refine lv_if_ne (tgt := 24) hx hb dX12_ring_15 (by decide) (fun h9 => absurd (by decide +kernel) h9) (fun _ => ?_)
    refine lv_aload_n hx hb dX12_ring_18 rfl (lv_at hl 0 rfl) ?_
    refine lv_iconst (v := 2) hx hb dX12_ring_19 (by decide) ?_
    refine z_callVi (As := [.int 2]) (rest := []) (wr := [(a_there, .inl (cA.1 0, 10, .inl g_there)), (a_c, .inl (cA.1 0, 1825, .inl g_c))]) ⟨hx, hb, hml, hown, hts⟩ hK hE hT hP hD hS hA (r_refuse l G cA h0 0 0 m_above m_under a_traySort a_trayMany a_numbers a_tape m_taped m_textEnd m_faultKind m_faultAt m_bad m_badAt m_token m_at m_behind m_number m_letters m_word a_c a_words m_markMany a_there a_tried a_best a_found m_thereMany m_foundMany m_orderHow m_orderRing m_orderMany m_hasBest m_bestTop m_bestBy a_weights a_shared m_random m_truePlace m_trueWay m_seconds m_done m_feelings m_tries m_leftOver m_playDoor m_playRing m_isOpen m_isOver m_wasTried m_hasPlayed a_feltNow a_last a_kept m_hasSeconds m_hasTurned m_hasRound a_hasFeels a_isOn m_firstAct m_meanTop m_meanBy a_order m_rowMany m_newSteps 2) lk_RX12_269 ⟨rfl, rfl⟩ ⟨Nat.le_of_ble_eq_true rfl, Nat.le_of_ble_eq_true rfl⟩ 12 rfl rfl rfl [1] [0, 2] rfl rfl (by decide) rfl hl.1 rfl (lv_room (Nat.le_of_ble_eq_true rfl)) dX12_ring_20 ⟨Nat.le_of_ble_eq_true rfl, Nat.le_of_ble_eq_true rfl⟩ (fun r_6 u_7 H locs hw hP hD hS => ?_)
    obtain ⟨n_5, rfl⟩ : ∃ z, z = u_7 := ⟨_, rfl⟩
    obtain ⟨he_r_6, he_n_5, hw⟩ := hw
    have hr_r_6 := hw
    have hpost : ((-1) ≤ r_6.toInt ∧ r_6.toInt ≤ 10) ∧ (0 ≤ (0 : Int32).toInt ∧ (0 : Int32).toInt ≤ 0) ∧ (0 ≤ m_thereMany.toInt ∧ m_thereMany.toInt ≤ 10) ∧ (zRg 10 0 9 g_there) := ⟨(z_rgw hr_r_6 (by decide) (by decide)), (by decide +kernel), hr_m_thereMany, hC_g_there⟩
    exact hret _ _ _ _ _ _ (n_5, 0, m_thereMany, g_there) [2, 1, 0] hP hD hS rfl (by decide) dX12_ring_23 hpost
  · skip
    refine lv_if_ne (tgt := 24) hx hb dX12_ring_15 (by decide) (fun _ => ?_) (fun h9 => absurd h9 (by decide +kernel))
    refine lv_aload_n hx hb dX12_ring_24 rfl (lv_at hl 0 rfl) ?_
    refine lv_iload_n hx hb dX12_ring_25 rfl (lv_at hl 1 rfl) ?_
    refine z_callVv (As := [.int r]) (rest := []) (wr := []) ⟨hx, hb, hml, hown, hts⟩ hK hE hT hP hD hS hA (r_gather l G cA h0 0 0 m_above m_under a_traySort a_trayMany a_numbers a_tape m_taped m_textEnd m_faultKind m_faultAt m_bad m_badAt m_token m_at m_behind m_number m_letters m_word a_c a_words m_markMany a_there a_tried a_best a_found m_thereMany m_foundMany m_orderHow m_orderRing m_orderMany m_hasBest m_bestTop m_bestBy a_weights a_shared m_random m_truePlace m_trueWay m_seconds m_done m_feelings m_tries m_leftOver m_playDoor m_playRing m_isOpen m_isOver m_wasTried m_hasPlayed a_feltNow a_last a_kept m_hasSeconds m_hasTurned m_hasRound a_hasFeels a_isOn m_firstAct m_meanTop m_meanBy a_order m_rowMany m_newSteps g_c g_there r (by omega) hr_m_thereMany hC_g_c hC_g_there) lk_RX12_292 ⟨rfl, rfl⟩ ⟨Nat.le_of_ble_eq_true rfl, Nat.le_of_ble_eq_true rfl⟩ 12 rfl rfl rfl [1, 2, 0] [] rfl rfl (by decide) rfl hl.1 rfl (lv_room (Nat.le_of_ble_eq_true rfl)) dX12_ring_26 ⟨Nat.le_of_ble_eq_true rfl, Nat.le_of_ble_eq_true rfl⟩ (fun u_11 H locs hw hP hD hS => ?_)
    obtain ⟨n_8, n_9⟩ := u_11
    try dsimp only at hw
    obtain ⟨he_n_8, he_n_9, hw⟩ := hw
    obtain ⟨hr_n_8, hC_n_9, hf_12, hf_13⟩ := hw
    refine lv_iload_n hx hb dX12_ring_29 rfl (lv_at hl 2 rfl) ?_
    refine lv_iconst (v := (-1)) hx hb dX12_ring_30 (by decide) ?_
    refine lv_icmp_ne (tgt := 39) hx hb dX12_ring_31 (by decide) (fun c_14 => ?_) (fun c_14 => ?_)
    · have b_15 := z_fneT c_14
      refine lv_iload_n hx hb dX12_ring_39 rfl (lv_at hl 2 rfl) ?_
      refine lv_i2l (v := (k).toInt64) hx hb dX12_ring_40 rfl ?_
      refine lv_topl (fun x_16 he_x_16 => ?_)
      have hq_x_16 := z_i2l he_x_16
      have hL_k := z_full k
      refine lv_lconst (v := 0) hx hb dX12_ring_41 (by decide) ?_
      refine lv_aload_n hx hb dX12_ring_42 rfl (lv_at hl 0 rfl) ?_
      refine va_get (D := G) (ci := 12) (v := .int n_8) (C := RX12) (T := TX12) (N := 65) hx hb hts inT12 hown hK hP 0 rfl rfl 27 (by decide) (hts _ tw_1912) (fun _ h9 => h9) rfl dX12_ring_43 ?_
      refine lv_iconst (v := 1) hx hb dX12_ring_46 (by decide) ?_
      refine lv_isub hx hb dX12_ring_47 ?_
      refine lv_topi (fun x_17 he_x_17 => ?_)
      have hq_x_17 := z_subq he_x_17 (rfl : n_8.toInt = _) hk_1 (by omega) (by omega)
      refine lv_i2l (v := (x_17).toInt64) hx hb dX12_ring_48 rfl ?_
      refine lv_topl (fun x_18 he_x_18 => ?_)
      have hq_x_18 := z_i2l he_x_18
      refine z_callSi (As := [.long x_16, .long 0, .long x_18]) (rest := []) (wr := [(h0, .inr (12, [.int 0, .int 0, .long m_above, .long m_under, .ref a_traySort, .ref a_trayMany, .ref a_numbers, .ref a_tape, .int m_taped, .int m_textEnd, .int m_faultKind, .int m_faultAt, .int m_bad, .int m_badAt, .int m_token, .int m_at, .int m_behind, .int m_number, .int m_letters, .long m_word, .ref a_c, .ref a_words, .int m_markMany, .ref a_there, .ref a_tried, .ref a_best, .ref a_found, .int n_8, .int m_foundMany, .int m_orderHow, .int m_orderRing, .int m_orderMany, .int m_hasBest, .long m_bestTop, .long m_bestBy, .ref a_weights, .ref a_shared, .int m_random, .int m_truePlace, .int m_trueWay, .int m_seconds, .int m_done, .int m_feelings, .int m_tries, .int m_leftOver, .int m_playDoor, .int m_playRing, .int m_isOpen, .int m_isOver, .int m_wasTried, .int m_hasPlayed, .ref a_feltNow, .ref a_last, .ref a_kept, .int m_hasSeconds, .int m_hasTurned, .int m_hasRound, .ref a_hasFeels, .ref a_isOn, .int m_firstAct, .long m_meanTop, .long m_meanBy, .ref a_order, .int m_rowMany, .int m_newSteps])), (a_c, .inl (cA.1 0, 1825, .inl g_c)), (a_there, .inl (cA.1 0, 10, .inl n_9))]) ⟨hx, hb, hml, hown, hts⟩ hK hE hT hP hD hS hA (r_isIn l G cA x_16 0 x_18) lk_RX12_117 ⟨rfl, rfl⟩ ⟨Nat.le_of_ble_eq_true rfl, Nat.le_of_ble_eq_true rfl⟩ [] [0, 1, 2] rfl rfl (by decide) rfl hl.1 rfl (lv_room (Nat.le_of_ble_eq_true rfl)) dX12_ring_49 ⟨Nat.le_of_ble_eq_true rfl, Nat.le_of_ble_eq_true rfl⟩ (fun r_19 u_20 H locs hw hP hD hS => ?_)
      obtain ⟨he_r_19, hw⟩ := hw
      rcases hw with ⟨rfl, hf_21⟩ | ⟨rfl, hf_22⟩
      · skip
        refine lv_if_eq (tgt := 64) hx hb dX12_ring_52 (by decide) (fun _ => ?_) (fun h9 => absurd (by decide +kernel) h9)
        refine lv_aload_n hx hb dX12_ring_64 rfl (lv_at hl 0 rfl) ?_
        refine lv_bipush (v := 8) hx hb dX12_ring_65 (by decide) ?_
        refine z_callVi (As := [.int 8]) (rest := []) (wr := [(a_c, .inl (cA.1 0, 1825, .inl g_c)), (a_there, .inl (cA.1 0, 10, .inl n_9))]) ⟨hx, hb, hml, hown, hts⟩ hK hE hT hP hD hS hA (r_refuse l G cA h0 0 0 m_above m_under a_traySort a_trayMany a_numbers a_tape m_taped m_textEnd m_faultKind m_faultAt m_bad m_badAt m_token m_at m_behind m_number m_letters m_word a_c a_words m_markMany a_there a_tried a_best a_found n_8 m_foundMany m_orderHow m_orderRing m_orderMany m_hasBest m_bestTop m_bestBy a_weights a_shared m_random m_truePlace m_trueWay m_seconds m_done m_feelings m_tries m_leftOver m_playDoor m_playRing m_isOpen m_isOver m_wasTried m_hasPlayed a_feltNow a_last a_kept m_hasSeconds m_hasTurned m_hasRound a_hasFeels a_isOn m_firstAct m_meanTop m_meanBy a_order m_rowMany m_newSteps 8) lk_RX12_269 ⟨rfl, rfl⟩ ⟨Nat.le_of_ble_eq_true rfl, Nat.le_of_ble_eq_true rfl⟩ 12 rfl rfl rfl [0] [1, 2] rfl rfl (by decide) rfl hl.1 rfl (lv_room (Nat.le_of_ble_eq_true rfl)) dX12_ring_67 ⟨Nat.le_of_ble_eq_true rfl, Nat.le_of_ble_eq_true rfl⟩ (fun r_24 u_25 H locs hw hP hD hS => ?_)
        obtain ⟨n_23, rfl⟩ : ∃ z, z = u_25 := ⟨_, rfl⟩
        obtain ⟨he_r_24, he_n_23, hw⟩ := hw
        have hr_r_24 := hw
        have hpost : ((-1) ≤ r_24.toInt ∧ r_24.toInt ≤ 10) ∧ (0 ≤ (0 : Int32).toInt ∧ (0 : Int32).toInt ≤ 0) ∧ (0 ≤ n_8.toInt ∧ n_8.toInt ≤ 10) ∧ (zRg 10 0 9 n_9) := ⟨(z_rgw hr_r_24 (by decide) (by decide)), (by decide +kernel), hr_n_8, hC_n_9⟩
        exact hret _ _ _ _ _ _ (n_23, 0, n_8, n_9) [2, 0, 1] hP hD hS rfl (by decide) dX12_ring_70 hpost
      · skip
        refine lv_if_eq (tgt := 64) hx hb dX12_ring_52 (by decide) (fun h9 => absurd h9 (by decide +kernel)) (fun _ => ?_)
        refine lv_aload_n hx hb dX12_ring_55 rfl (lv_at hl 0 rfl) ?_
        refine va_get (D := G) (ci := 12) (v := .ref a_there) (C := RX12) (T := TX12) (N := 65) hx hb hts inT12 hown hK hP 0 rfl rfl 23 (by decide) (hts _ tw_1908) (fun _ h9 => h9) rfl dX12_ring_56 ?_
        refine lv_iload_n hx hb dX12_ring_59 rfl (lv_at hl 2 rfl) ?_
        refine va_iald hx hb hK hP 2 0 rfl rfl (z_inN (by omega) (by omega)) dX12_ring_60 ?_
        refine lv_topi (fun x_26 he_x_26 => ?_)
        have hr_x_26 := z_rg hC_n_9 he_x_26 (by omega) (by omega)
        refine lv_goto (tgt := 70) hx hb dX12_ring_61 (by decide) ?_
        have hpost : ((-1) ≤ x_26.toInt ∧ x_26.toInt ≤ 10) ∧ (0 ≤ (0 : Int32).toInt ∧ (0 : Int32).toInt ≤ 0) ∧ (0 ≤ n_8.toInt ∧ n_8.toInt ≤ 10) ∧ (zRg 10 0 9 n_9) := ⟨(z_rgw hr_x_26 (by decide) (by decide)), (by decide +kernel), hr_n_8, hC_n_9⟩
        exact hret _ _ _ _ _ _ (0, 0, n_8, n_9) [0, 1, 2] hP hD hS rfl (by decide) dX12_ring_70 hpost
    · have b_27 := z_feqF c_14
      refine lv_aload_n hx hb dX12_ring_34 rfl (lv_at hl 0 rfl) ?_
      refine va_get (D := G) (ci := 12) (v := .int n_8) (C := RX12) (T := TX12) (N := 65) hx hb hts inT12 hown hK hP 0 rfl rfl 27 (by decide) (hts _ tw_1912) (fun _ h9 => h9) rfl dX12_ring_35 ?_
      have hpost : ((-1) ≤ n_8.toInt ∧ n_8.toInt ≤ 10) ∧ (0 ≤ (0 : Int32).toInt ∧ (0 : Int32).toInt ≤ 0) ∧ (0 ≤ n_8.toInt ∧ n_8.toInt ≤ 10) ∧ (zRg 10 0 9 n_9) := ⟨(z_rgw hr_n_8 (by decide) (by decide)), (by decide +kernel), hr_n_8, hC_n_9⟩
      exact hret _ _ _ _ _ _ (0, 0, n_8, n_9) [0, 1, 2] hP hD hS rfl (by decide) dX12_ring_38 hpost
set_option maxHeartbeats 40000000 in
set_option maxRecDepth 100000 in
theorem r_door (l : Launch) (G : va_G) (cA : zCA) (h0 : Nat) (m_status : Int32) (m_thrown : Int32) (m_above : Int64) (m_under : Int64) (a_traySort : Nat) (a_trayMany : Nat) (a_numbers : Nat) (a_tape : Nat) (m_taped : Int32) (m_textEnd : Int32) (m_faultKind : Int32) (m_faultAt : Int32) (m_bad : Int32) (m_badAt : Int32) (m_token : Int32) (m_at : Int32) (m_behind : Int32) (m_number : Int32) (m_letters : Int32) (m_word : Int64) (a_c : Nat) (a_words : Nat) (m_markMany : Int32) (a_there : Nat) (a_tried : Nat) (a_best : Nat) (a_found : Nat) (m_thereMany : Int32) (m_foundMany : Int32) (m_orderHow : Int32) (m_orderRing : Int32) (m_orderMany : Int32) (m_hasBest : Int32) (m_bestTop : Int64) (m_bestBy : Int64) (a_weights : Nat) (a_shared : Nat) (m_random : Int32) (m_truePlace : Int32) (m_trueWay : Int32) (m_seconds : Int32) (m_done : Int32) (m_feelings : Int32) (m_tries : Int32) (m_leftOver : Int32) (m_playDoor : Int32) (m_playRing : Int32) (m_isOpen : Int32) (m_isOver : Int32) (m_wasTried : Int32) (m_hasPlayed : Int32) (a_feltNow : Nat) (a_last : Nat) (a_kept : Nat) (m_hasSeconds : Int32) (m_hasTurned : Int32) (m_hasRound : Int32) (a_hasFeels : Nat) (a_isOn : Nat) (m_firstAct : Int32) (m_meanTop : Int64) (m_meanBy : Int64) (a_order : Nat) (m_rowMany : Int32) (m_newSteps : Int32) (g_c : Nat → Int32) (d : Int32) (w : Int32) (hC_g_c : zC g_c) : zCi l yX12_door cX12_door 3 (some .int) ({ frames := 2, cells := 0, slots := 0, locals := 46 }) G cA [.ref h0, .int d, .int w] [(h0, .inr (12, [.int m_status, .int m_thrown, .long m_above, .long m_under, .ref a_traySort, .ref a_trayMany, .ref a_numbers, .ref a_tape, .int m_taped, .int m_textEnd, .int m_faultKind, .int m_faultAt, .int m_bad, .int m_badAt, .int m_token, .int m_at, .int m_behind, .int m_number, .int m_letters, .long m_word, .ref a_c, .ref a_words, .int m_markMany, .ref a_there, .ref a_tried, .ref a_best, .ref a_found, .int m_thereMany, .int m_foundMany, .int m_orderHow, .int m_orderRing, .int m_orderMany, .int m_hasBest, .long m_bestTop, .long m_bestBy, .ref a_weights, .ref a_shared, .int m_random, .int m_truePlace, .int m_trueWay, .int m_seconds, .int m_done, .int m_feelings, .int m_tries, .int m_leftOver, .int m_playDoor, .int m_playRing, .int m_isOpen, .int m_isOver, .int m_wasTried, .int m_hasPlayed, .ref a_feltNow, .ref a_last, .ref a_kept, .int m_hasSeconds, .int m_hasTurned, .int m_hasRound, .ref a_hasFeels, .ref a_isOn, .int m_firstAct, .long m_meanTop, .long m_meanBy, .ref a_order, .int m_rowMany, .int m_newSteps])), (a_c, .inl (cA.1 0, 1825, .inl g_c))] (S := Int32 × Int32) (fun (r : Int32) (u : Int32 × Int32) => (r = (F_r_door g_c d w).1) ∧ (u.1 = (F_r_door g_c d w).2.1) ∧ (u.2 = (F_r_door g_c d w).2.2) ∧ ((0 ≤ u.2.toInt ∧ u.2.toInt ≤ 0))) (fun (u : Int32 × Int32) => [(h0, .inr (12, [.int u.1, .int u.2, .long m_above, .long m_under, .ref a_traySort, .ref a_trayMany, .ref a_numbers, .ref a_tape, .int m_taped, .int m_textEnd, .int m_faultKind, .int m_faultAt, .int m_bad, .int m_badAt, .int m_token, .int m_at, .int m_behind, .int m_number, .int m_letters, .long m_word, .ref a_c, .ref a_words, .int m_markMany, .ref a_there, .ref a_tried, .ref a_best, .ref a_found, .int m_thereMany, .int m_foundMany, .int m_orderHow, .int m_orderRing, .int m_orderMany, .int m_hasBest, .long m_bestTop, .long m_bestBy, .ref a_weights, .ref a_shared, .int m_random, .int m_truePlace, .int m_trueWay, .int m_seconds, .int m_done, .int m_feelings, .int m_tries, .int m_leftOver, .int m_playDoor, .int m_playRing, .int m_isOpen, .int m_isOver, .int m_wasTried, .int m_hasPlayed, .ref a_feltNow, .ref a_last, .ref a_kept, .int m_hasSeconds, .int m_hasTurned, .int m_hasRound, .ref a_hasFeels, .ref a_isOn, .int m_firstAct, .long m_meanTop, .long m_meanBy, .ref a_order, .int m_rowMany, .int m_newSteps])), (a_c, .inl (cA.1 0, 1825, .inl g_c))]) 0 0 := by
  have hk_0 : (0 : Int32).toInt = 0 := by decide +kernel
  have hk_1 : (1 : Int32).toInt = 1 := by decide +kernel
  have hk_2 : (2 : Int32).toInt = 2 := by decide +kernel
  have hk_5 : (5 : Int32).toInt = 5 := by decide +kernel
  have hk_128 : (128 : Int32).toInt = 128 := by decide +kernel
  have hk_133 : (133 : Int32).toInt = 133 := by decide +kernel
  refine z_start2i (own := RX12) (by decide) (Nat.le_of_ble_eq_true rfl) rfl ?_
  intro p e s m args below meth c A ls Q hx hb hml hts hown hK hE hT hP hD hS hA hl hret
  have hl : lv_has ls 3 [(0, .ref h0), (1, .int d), (2, .int w)] := hl
  refine lv_aload_n hx hb dX12_door_0 rfl (lv_at hl 0 rfl) ?_
  refine lv_iconst (v := 0) hx hb dX12_door_1 (by decide) ?_
  refine va_put (D := G) (ci := 12) (v := .int 0) (ty := .int) (C := RX12) (T := TX12) (N := 65) hx hb hts inT12 tyX12 tyX12_ok nmX12 hown hK hP hD hS 0 rfl rfl 1 (by decide) (hts _ tw_1886) (fun _ h9 => h9) rfl (tyX12_ok 1 (by decide)) rfl rfl (Nat.le_of_ble_eq_true rfl) dX12_door_2 (fun H locs hP hD hS => ?_)
  refine lv_aload_n hx hb dX12_door_5 rfl (lv_at hl 0 rfl) ?_
  refine lv_iconst (v := 0) hx hb dX12_door_6 (by decide) ?_
  refine va_put (D := G) (ci := 12) (v := .int 0) (ty := .int) (C := RX12) (T := TX12) (N := 65) hx hb hts inT12 tyX12 tyX12_ok nmX12 hown hK hP hD hS 0 rfl rfl 0 (by decide) (hts _ tw_1885) (fun _ h9 => h9) rfl (tyX12_ok 0 (by decide)) rfl rfl (Nat.le_of_ble_eq_true rfl) dX12_door_7 (fun H locs hP hD hS => ?_)
  refine lv_aload_n hx hb dX12_door_10 rfl (lv_at hl 0 rfl) ?_
  refine lv_iload_n hx hb dX12_door_11 rfl (lv_at hl 1 rfl) ?_
  refine z_callVi (As := [.int d]) (rest := []) (wr := []) ⟨hx, hb, hml, hown, hts⟩ hK hE hT hP hD hS hA (r_isDoor l G cA h0 0 0 m_above m_under a_traySort a_trayMany a_numbers a_tape m_taped m_textEnd m_faultKind m_faultAt m_bad m_badAt m_token m_at m_behind m_number m_letters m_word a_c a_words m_markMany a_there a_tried a_best a_found m_thereMany m_foundMany m_orderHow m_orderRing m_orderMany m_hasBest m_bestTop m_bestBy a_weights a_shared m_random m_truePlace m_trueWay m_seconds m_done m_feelings m_tries m_leftOver m_playDoor m_playRing m_isOpen m_isOver m_wasTried m_hasPlayed a_feltNow a_last a_kept m_hasSeconds m_hasTurned m_hasRound a_hasFeels a_isOn m_firstAct m_meanTop m_meanBy a_order m_rowMany m_newSteps g_c d hC_g_c) lk_RX12_295 ⟨rfl, rfl⟩ ⟨Nat.le_of_ble_eq_true rfl, Nat.le_of_ble_eq_true rfl⟩ 12 rfl rfl rfl [0, 1] [] rfl rfl (by decide) rfl hl.1 rfl (lv_room (Nat.le_of_ble_eq_true rfl)) dX12_door_12 ⟨Nat.le_of_ble_eq_true rfl, Nat.le_of_ble_eq_true rfl⟩ (fun r_1 u_2 H locs hw hP hD hS => ?_)
  obtain ⟨he_r_1, hw⟩ := hw
  rcases hw with ⟨rfl, -⟩ | ⟨rfl, hf_4, hf_5⟩
  · skip
    refine lv_if_ne (tgt := 24) hx hb dX12_door_15 (by decide) (fun h9 => absurd (by decide +kernel) h9) (fun _ => ?_)
    refine lv_aload_n hx hb dX12_door_18 rfl (lv_at hl 0 rfl) ?_
    refine lv_iconst (v := 2) hx hb dX12_door_19 (by decide) ?_
    refine z_callVi (As := [.int 2]) (rest := []) (wr := [(a_c, .inl (cA.1 0, 1825, .inl g_c))]) ⟨hx, hb, hml, hown, hts⟩ hK hE hT hP hD hS hA (r_refuse l G cA h0 0 0 m_above m_under a_traySort a_trayMany a_numbers a_tape m_taped m_textEnd m_faultKind m_faultAt m_bad m_badAt m_token m_at m_behind m_number m_letters m_word a_c a_words m_markMany a_there a_tried a_best a_found m_thereMany m_foundMany m_orderHow m_orderRing m_orderMany m_hasBest m_bestTop m_bestBy a_weights a_shared m_random m_truePlace m_trueWay m_seconds m_done m_feelings m_tries m_leftOver m_playDoor m_playRing m_isOpen m_isOver m_wasTried m_hasPlayed a_feltNow a_last a_kept m_hasSeconds m_hasTurned m_hasRound a_hasFeels a_isOn m_firstAct m_meanTop m_meanBy a_order m_rowMany m_newSteps 2) lk_RX12_269 ⟨rfl, rfl⟩ ⟨Nat.le_of_ble_eq_true rfl, Nat.le_of_ble_eq_true rfl⟩ 12 rfl rfl rfl [0] [1] rfl rfl (by decide) rfl hl.1 rfl (lv_room (Nat.le_of_ble_eq_true rfl)) dX12_door_20 ⟨Nat.le_of_ble_eq_true rfl, Nat.le_of_ble_eq_true rfl⟩ (fun r_7 u_8 H locs hw hP hD hS => ?_)
    obtain ⟨n_6, rfl⟩ : ∃ z, z = u_8 := ⟨_, rfl⟩
    obtain ⟨he_r_7, he_n_6, hw⟩ := hw
    have hr_r_7 := hw
    have hpost : (0 ≤ (0 : Int32).toInt ∧ (0 : Int32).toInt ≤ 0) := (by decide +kernel)
    have hX_10 : F_r_door g_c d w = ((r_7, n_6, (0 : Int32)) : Int32 × Int32 × Int32) := by
      refine (F_r_door_s ..).trans ?_
      extract_lets -merge -useContext +onlyGivenNames w9 y9; have e9 : (0 : Int32) = w9 := he_r_1; clear_value w9; subst e9
      refine (if_pos rfl).trans ?_
      extract_lets -merge -useContext +onlyGivenNames w9 y2_0 y2_1; have e9 : (r_7, n_6) = w9 := ((z_tS he_r_7 he_n_6.symm)).symm; clear_value w9; subst e9
      exact rfl
    exact hret _ _ _ _ _ _ (n_6, 0) [1, 0] hP hD hS rfl (by decide) dX12_door_23 ⟨(congrArg (fun z9 => z9.1) hX_10).symm, (congrArg (fun z9 => z9.2.1) hX_10).symm, (congrArg (fun z9 => z9.2.2) hX_10).symm, hpost⟩
  · skip
    refine lv_if_ne (tgt := 24) hx hb dX12_door_15 (by decide) (fun _ => ?_) (fun h9 => absurd h9 (by decide +kernel))
    refine lv_iload_n hx hb dX12_door_24 rfl (lv_at hl 2 rfl) ?_
    refine lv_if_ne (tgt := 41) hx hb dX12_door_25 (by decide) (fun c_11 => ?_) (fun c_11 => ?_)
    · have b_12 := z_fneT c_11
      refine lv_iload_n hx hb dX12_door_41 rfl (lv_at hl 2 rfl) ?_
      refine lv_iconst (v := 1) hx hb dX12_door_42 (by decide) ?_
      refine lv_icmp_ne (tgt := 59) hx hb dX12_door_43 (by decide) (fun c_13 => ?_) (fun c_13 => ?_)
      · have b_14 := z_fneT c_13
        refine lv_aload_n hx hb dX12_door_59 rfl (lv_at hl 0 rfl) ?_
        refine lv_iconst (v := 5) hx hb dX12_door_60 (by decide) ?_
        refine z_callVi (As := [.int 5]) (rest := []) (wr := [(a_c, .inl (cA.1 0, 1825, .inl g_c))]) ⟨hx, hb, hml, hown, hts⟩ hK hE hT hP hD hS hA (r_refuse l G cA h0 0 0 m_above m_under a_traySort a_trayMany a_numbers a_tape m_taped m_textEnd m_faultKind m_faultAt m_bad m_badAt m_token m_at m_behind m_number m_letters m_word a_c a_words m_markMany a_there a_tried a_best a_found m_thereMany m_foundMany m_orderHow m_orderRing m_orderMany m_hasBest m_bestTop m_bestBy a_weights a_shared m_random m_truePlace m_trueWay m_seconds m_done m_feelings m_tries m_leftOver m_playDoor m_playRing m_isOpen m_isOver m_wasTried m_hasPlayed a_feltNow a_last a_kept m_hasSeconds m_hasTurned m_hasRound a_hasFeels a_isOn m_firstAct m_meanTop m_meanBy a_order m_rowMany m_newSteps 5) lk_RX12_269 ⟨rfl, rfl⟩ ⟨Nat.le_of_ble_eq_true rfl, Nat.le_of_ble_eq_true rfl⟩ 12 rfl rfl rfl [0] [1] rfl rfl (by decide) rfl hl.1 rfl (lv_room (Nat.le_of_ble_eq_true rfl)) dX12_door_61 ⟨Nat.le_of_ble_eq_true rfl, Nat.le_of_ble_eq_true rfl⟩ (fun r_16 u_17 H locs hw hP hD hS => ?_)
        obtain ⟨n_15, rfl⟩ : ∃ z, z = u_17 := ⟨_, rfl⟩
        obtain ⟨he_r_16, he_n_15, hw⟩ := hw
        have hr_r_16 := hw
        have hpost : (0 ≤ (0 : Int32).toInt ∧ (0 : Int32).toInt ≤ 0) := (by decide +kernel)
        have hX_19 : F_r_door g_c d w = ((r_16, n_15, (0 : Int32)) : Int32 × Int32 × Int32) := by
          refine (F_r_door_s ..).trans ?_
          extract_lets -merge -useContext +onlyGivenNames w9 y9; have e9 : (1 : Int32) = w9 := he_r_1; clear_value w9; subst e9
          refine (if_neg (show ¬ (1 : Int32) = 0 by decide)).trans ?_
          refine (if_neg c_11).trans ?_
          refine (if_neg c_13).trans ?_
          extract_lets -merge -useContext +onlyGivenNames w9 y4_0 y4_1; have e9 : (r_16, n_15) = w9 := ((z_tS he_r_16 he_n_15.symm)).symm; clear_value w9; subst e9
          exact rfl
        exact hret _ _ _ _ _ _ (n_15, 0) [1, 0] hP hD hS rfl (by decide) dX12_door_64 ⟨(congrArg (fun z9 => z9.1) hX_19).symm, (congrArg (fun z9 => z9.2.1) hX_19).symm, (congrArg (fun z9 => z9.2.2) hX_19).symm, hpost⟩
      · have b_20 := z_feqF c_13
        refine lv_aload_n hx hb dX12_door_46 rfl (lv_at hl 0 rfl) ?_
        refine va_get (D := G) (ci := 12) (v := .ref a_c) (C := RX12) (T := TX12) (N := 65) hx hb hts inT12 hown hK hP 0 rfl rfl 20 (by decide) (hts _ tw_1905) (fun _ h9 => h9) rfl dX12_door_47 ?_
        refine lv_sipush (v := 133) hx hb dX12_door_50 (by decide) ?_
        refine lv_iload_n hx hb dX12_door_53 rfl (lv_at hl 1 rfl) ?_
        refine lv_iadd hx hb dX12_door_54 ?_
        refine lv_topi (fun x_21 he_x_21 => ?_)
        have hq_x_21 := z_addq he_x_21 hk_133 (rfl : d.toInt = _) (by omega) (by omega)
        refine va_iald hx hb hK hP 1 0 rfl rfl (z_inN (by omega) (by omega)) dX12_door_55 ?_
        refine lv_topi (fun x_22 he_x_22 => ?_)
        refine lv_goto (tgt := 64) hx hb dX12_door_56 (by decide) ?_
        have hpost : (0 ≤ (0 : Int32).toInt ∧ (0 : Int32).toInt ≤ 0) := (by decide +kernel)
        have hX_23 : F_r_door g_c d w = ((x_22, (0 : Int32), (0 : Int32)) : Int32 × Int32 × Int32) := by
          refine (F_r_door_s ..).trans ?_
          extract_lets -merge -useContext +onlyGivenNames w9 y9; have e9 : (1 : Int32) = w9 := he_r_1; clear_value w9; subst e9
          refine (if_neg (show ¬ (1 : Int32) = 0 by decide)).trans ?_
          refine (if_neg c_11).trans ?_
          refine (if_pos c_13).trans ?_
          try (extract_lets -merge -useContext +onlyGivenNames y9; have e9 : x_21 = y9 := (by first | exact he_x_21 | exact he_x_21.symm); clear_value y9; subst e9)
          try (extract_lets -merge -useContext +onlyGivenNames y9; have e9 : x_22 = y9 := (by first | exact he_x_22 | exact he_x_22.symm); clear_value y9; subst e9)
          exact rfl
        exact hret _ _ _ _ _ _ (0, 0) [0, 1] hP hD hS rfl (by decide) dX12_door_64 ⟨(congrArg (fun z9 => z9.1) hX_23).symm, (congrArg (fun z9 => z9.2.1) hX_23).symm, (congrArg (fun z9 => z9.2.2) hX_23).symm, hpost⟩
    · have b_24 := z_feqF c_11
      refine lv_aload_n hx hb dX12_door_28 rfl (lv_at hl 0 rfl) ?_
      refine va_get (D := G) (ci := 12) (v := .ref a_c) (C := RX12) (T := TX12) (N := 65) hx hb hts inT12 hown hK hP 0 rfl rfl 20 (by decide) (hts _ tw_1905) (fun _ h9 => h9) rfl dX12_door_29 ?_
      refine lv_sipush (v := 128) hx hb dX12_door_32 (by decide) ?_
      refine lv_iload_n hx hb dX12_door_35 rfl (lv_at hl 1 rfl) ?_
      refine lv_iadd hx hb dX12_door_36 ?_
      refine lv_topi (fun x_25 he_x_25 => ?_)
      have hq_x_25 := z_addq he_x_25 hk_128 (rfl : d.toInt = _) (by omega) (by omega)
      refine va_iald hx hb hK hP 1 0 rfl rfl (z_inN (by omega) (by omega)) dX12_door_37 ?_
      refine lv_topi (fun x_26 he_x_26 => ?_)
      have hr_x_26 := z_ct hC_g_c he_x_26 (a := 128) (b := 132) (lo := 0) (hi := 99) (by decide +kernel) (by decide) (by omega) (by omega)
      refine lv_goto (tgt := 64) hx hb dX12_door_38 (by decide) ?_
      have hpost : (0 ≤ (0 : Int32).toInt ∧ (0 : Int32).toInt ≤ 0) := (by decide +kernel)
      have hX_27 : F_r_door g_c d w = ((x_26, (0 : Int32), (0 : Int32)) : Int32 × Int32 × Int32) := by
        refine (F_r_door_s ..).trans ?_
        extract_lets -merge -useContext +onlyGivenNames w9 y9; have e9 : (1 : Int32) = w9 := he_r_1; clear_value w9; subst e9
        refine (if_neg (show ¬ (1 : Int32) = 0 by decide)).trans ?_
        refine (if_pos c_11).trans ?_
        try (extract_lets -merge -useContext +onlyGivenNames y9; have e9 : x_25 = y9 := (by first | exact he_x_25 | exact he_x_25.symm); clear_value y9; subst e9)
        try (extract_lets -merge -useContext +onlyGivenNames y9; have e9 : x_26 = y9 := (by first | exact he_x_26 | exact he_x_26.symm); clear_value y9; subst e9)
        exact rfl
      exact hret _ _ _ _ _ _ (0, 0) [0, 1] hP hD hS rfl (by decide) dX12_door_64 ⟨(congrArg (fun z9 => z9.1) hX_27).symm, (congrArg (fun z9 => z9.2.1) hX_27).symm, (congrArg (fun z9 => z9.2.2) hX_27).symm, hpost⟩
set_option maxHeartbeats 40000000 in
set_option maxRecDepth 100000 in
theorem r_round (l : Launch) (G : va_G) (cA : zCA) (h0 : Nat) (m_status : Int32) (m_thrown : Int32) (m_above : Int64) (m_under : Int64) (a_traySort : Nat) (a_trayMany : Nat) (a_numbers : Nat) (a_tape : Nat) (m_taped : Int32) (m_textEnd : Int32) (m_faultKind : Int32) (m_faultAt : Int32) (m_bad : Int32) (m_badAt : Int32) (m_token : Int32) (m_at : Int32) (m_behind : Int32) (m_number : Int32) (m_letters : Int32) (m_word : Int64) (a_c : Nat) (a_words : Nat) (m_markMany : Int32) (a_there : Nat) (a_tried : Nat) (a_best : Nat) (a_found : Nat) (m_thereMany : Int32) (m_foundMany : Int32) (m_orderHow : Int32) (m_orderRing : Int32) (m_orderMany : Int32) (m_hasBest : Int32) (m_bestTop : Int64) (m_bestBy : Int64) (a_weights : Nat) (a_shared : Nat) (m_random : Int32) (m_truePlace : Int32) (m_trueWay : Int32) (m_seconds : Int32) (m_done : Int32) (m_feelings : Int32) (m_tries : Int32) (m_leftOver : Int32) (m_playDoor : Int32) (m_playRing : Int32) (m_isOpen : Int32) (m_isOver : Int32) (m_wasTried : Int32) (m_hasPlayed : Int32) (a_feltNow : Nat) (a_last : Nat) (a_kept : Nat) (m_hasSeconds : Int32) (m_hasTurned : Int32) (m_hasRound : Int32) (a_hasFeels : Nat) (a_isOn : Nat) (m_firstAct : Int32) (m_meanTop : Int64) (m_meanBy : Int64) (a_order : Nat) (m_rowMany : Int32) (m_newSteps : Int32) (g_c : Nat → Int32) (k : Int32) (hC_g_c : zC g_c) : zCi l yX12_round cX12_round 2 (some .int) ({ frames := 1, cells := 0, slots := 0, locals := 25 }) G cA [.ref h0, .int k] [(h0, .inr (12, [.int m_status, .int m_thrown, .long m_above, .long m_under, .ref a_traySort, .ref a_trayMany, .ref a_numbers, .ref a_tape, .int m_taped, .int m_textEnd, .int m_faultKind, .int m_faultAt, .int m_bad, .int m_badAt, .int m_token, .int m_at, .int m_behind, .int m_number, .int m_letters, .long m_word, .ref a_c, .ref a_words, .int m_markMany, .ref a_there, .ref a_tried, .ref a_best, .ref a_found, .int m_thereMany, .int m_foundMany, .int m_orderHow, .int m_orderRing, .int m_orderMany, .int m_hasBest, .long m_bestTop, .long m_bestBy, .ref a_weights, .ref a_shared, .int m_random, .int m_truePlace, .int m_trueWay, .int m_seconds, .int m_done, .int m_feelings, .int m_tries, .int m_leftOver, .int m_playDoor, .int m_playRing, .int m_isOpen, .int m_isOver, .int m_wasTried, .int m_hasPlayed, .ref a_feltNow, .ref a_last, .ref a_kept, .int m_hasSeconds, .int m_hasTurned, .int m_hasRound, .ref a_hasFeels, .ref a_isOn, .int m_firstAct, .long m_meanTop, .long m_meanBy, .ref a_order, .int m_rowMany, .int m_newSteps])), (a_c, .inl (cA.1 0, 1825, .inl g_c))] (S := Int32 × Int32) (fun (r : Int32) (u : Int32 × Int32) => (r = (F_r_round g_c k).1) ∧ (u.1 = (F_r_round g_c k).2.1) ∧ (u.2 = (F_r_round g_c k).2.2) ∧ (((-1) ≤ r.toInt ∧ r.toInt ≤ 4) ∧ (0 ≤ u.2.toInt ∧ u.2.toInt ≤ 0))) (fun (u : Int32 × Int32) => [(h0, .inr (12, [.int u.1, .int u.2, .long m_above, .long m_under, .ref a_traySort, .ref a_trayMany, .ref a_numbers, .ref a_tape, .int m_taped, .int m_textEnd, .int m_faultKind, .int m_faultAt, .int m_bad, .int m_badAt, .int m_token, .int m_at, .int m_behind, .int m_number, .int m_letters, .long m_word, .ref a_c, .ref a_words, .int m_markMany, .ref a_there, .ref a_tried, .ref a_best, .ref a_found, .int m_thereMany, .int m_foundMany, .int m_orderHow, .int m_orderRing, .int m_orderMany, .int m_hasBest, .long m_bestTop, .long m_bestBy, .ref a_weights, .ref a_shared, .int m_random, .int m_truePlace, .int m_trueWay, .int m_seconds, .int m_done, .int m_feelings, .int m_tries, .int m_leftOver, .int m_playDoor, .int m_playRing, .int m_isOpen, .int m_isOver, .int m_wasTried, .int m_hasPlayed, .ref a_feltNow, .ref a_last, .ref a_kept, .int m_hasSeconds, .int m_hasTurned, .int m_hasRound, .ref a_hasFeels, .ref a_isOn, .int m_firstAct, .long m_meanTop, .long m_meanBy, .ref a_order, .int m_rowMany, .int m_newSteps])), (a_c, .inl (cA.1 0, 1825, .inl g_c))]) 0 0 := by
  have hk_1 : (1 : Int32).toInt = 1 := by decide +kernel
  have hk_8 : (8 : Int32).toInt = 8 := by decide +kernel
  have hk_138 : (138 : Int32).toInt = 138 := by decide +kernel
  have hkl_0 : (0 : Int64).toInt = 0 := by decide +kernel
  refine z_start2i (own := RX12) (by decide) (Nat.le_of_ble_eq_true rfl) rfl ?_
  intro p e s m args below meth c A ls Q hx hb hml hts hown hK hE hT hP hD hS hA hl hret
  have hl : lv_has ls 2 [(0, .ref h0), (1, .int k)] := hl
  refine lv_aload_n hx hb dX12_round_0 rfl (lv_at hl 0 rfl) ?_
  refine lv_iconst (v := 0) hx hb dX12_round_1 (by decide) ?_
  refine va_put (D := G) (ci := 12) (v := .int 0) (ty := .int) (C := RX12) (T := TX12) (N := 65) hx hb hts inT12 tyX12 tyX12_ok nmX12 hown hK hP hD hS 0 rfl rfl 1 (by decide) (hts _ tw_1886) (fun _ h9 => h9) rfl (tyX12_ok 1 (by decide)) rfl rfl (Nat.le_of_ble_eq_true rfl) dX12_round_2 (fun H locs hP hD hS => ?_)
  refine lv_aload_n hx hb dX12_round_5 rfl (lv_at hl 0 rfl) ?_
  refine lv_iconst (v := 0) hx hb dX12_round_6 (by decide) ?_
  refine va_put (D := G) (ci := 12) (v := .int 0) (ty := .int) (C := RX12) (T := TX12) (N := 65) hx hb hts inT12 tyX12 tyX12_ok nmX12 hown hK hP hD hS 0 rfl rfl 0 (by decide) (hts _ tw_1885) (fun _ h9 => h9) rfl (tyX12_ok 0 (by decide)) rfl rfl (Nat.le_of_ble_eq_true rfl) dX12_round_7 (fun H locs hP hD hS => ?_)
  refine lv_iload_n hx hb dX12_round_10 rfl (lv_at hl 1 rfl) ?_
  refine lv_i2l (v := (k).toInt64) hx hb dX12_round_11 rfl ?_
  refine lv_topl (fun x_1 he_x_1 => ?_)
  have hq_x_1 := z_i2l he_x_1
  have hL_k := z_full k
  refine lv_lconst (v := 0) hx hb dX12_round_12 (by decide) ?_
  refine lv_aload_n hx hb dX12_round_13 rfl (lv_at hl 0 rfl) ?_
  refine va_get (D := G) (ci := 12) (v := .ref a_c) (C := RX12) (T := TX12) (N := 65) hx hb hts inT12 hown hK hP 0 rfl rfl 20 (by decide) (hts _ tw_1905) (fun _ h9 => h9) rfl dX12_round_14 ?_
  refine lv_iconst (v := 4) hx hb dX12_round_17 (by decide) ?_
  refine va_iald hx hb hK hP 1 0 rfl rfl (z_in (i := 4) (n := 1825) (by decide +kernel) (by decide +kernel)) dX12_round_18 ?_
  refine lv_topi (fun x_2 he_x_2 => ?_)
  have hr_x_2 := z_ctk hC_g_c he_x_2 (k := 4) (lo := 0) (hi := 12) (by decide +kernel) (by decide +kernel) (by decide +kernel)
  refine lv_iconst (v := 1) hx hb dX12_round_19 (by decide) ?_
  refine lv_isub hx hb dX12_round_20 ?_
  refine lv_topi (fun x_3 he_x_3 => ?_)
  have hq_x_3 := z_subq he_x_3 (rfl : x_2.toInt = _) hk_1 (by omega) (by omega)
  refine lv_i2l (v := (x_3).toInt64) hx hb dX12_round_21 rfl ?_
  refine lv_topl (fun x_4 he_x_4 => ?_)
  have hq_x_4 := z_i2l he_x_4
  refine z_callSi (As := [.long x_1, .long 0, .long x_4]) (rest := []) (wr := [(h0, .inr (12, [.int 0, .int 0, .long m_above, .long m_under, .ref a_traySort, .ref a_trayMany, .ref a_numbers, .ref a_tape, .int m_taped, .int m_textEnd, .int m_faultKind, .int m_faultAt, .int m_bad, .int m_badAt, .int m_token, .int m_at, .int m_behind, .int m_number, .int m_letters, .long m_word, .ref a_c, .ref a_words, .int m_markMany, .ref a_there, .ref a_tried, .ref a_best, .ref a_found, .int m_thereMany, .int m_foundMany, .int m_orderHow, .int m_orderRing, .int m_orderMany, .int m_hasBest, .long m_bestTop, .long m_bestBy, .ref a_weights, .ref a_shared, .int m_random, .int m_truePlace, .int m_trueWay, .int m_seconds, .int m_done, .int m_feelings, .int m_tries, .int m_leftOver, .int m_playDoor, .int m_playRing, .int m_isOpen, .int m_isOver, .int m_wasTried, .int m_hasPlayed, .ref a_feltNow, .ref a_last, .ref a_kept, .int m_hasSeconds, .int m_hasTurned, .int m_hasRound, .ref a_hasFeels, .ref a_isOn, .int m_firstAct, .long m_meanTop, .long m_meanBy, .ref a_order, .int m_rowMany, .int m_newSteps])), (a_c, .inl (cA.1 0, 1825, .inl g_c))]) ⟨hx, hb, hml, hown, hts⟩ hK hE hT hP hD hS hA (r_isIn l G cA x_1 0 x_4) lk_RX12_117 ⟨rfl, rfl⟩ ⟨Nat.le_of_ble_eq_true rfl, Nat.le_of_ble_eq_true rfl⟩ [] [0, 1] rfl rfl (by decide) rfl hl.1 rfl (lv_room (Nat.le_of_ble_eq_true rfl)) dX12_round_22 ⟨Nat.le_of_ble_eq_true rfl, Nat.le_of_ble_eq_true rfl⟩ (fun r_5 u_6 H locs hw hP hD hS => ?_)
  obtain ⟨he_r_5, hw⟩ := hw
  rcases hw with ⟨rfl, hf_8⟩ | ⟨rfl, hf_9⟩
  · skip
    refine lv_if_eq (tgt := 41) hx hb dX12_round_25 (by decide) (fun _ => ?_) (fun h9 => absurd (by decide +kernel) h9)
    refine lv_aload_n hx hb dX12_round_41 rfl (lv_at hl 0 rfl) ?_
    refine lv_bipush (v := 8) hx hb dX12_round_42 (by decide) ?_
    refine z_callVi (As := [.int 8]) (rest := []) (wr := [(a_c, .inl (cA.1 0, 1825, .inl g_c))]) ⟨hx, hb, hml, hown, hts⟩ hK hE hT hP hD hS hA (r_refuse l G cA h0 0 0 m_above m_under a_traySort a_trayMany a_numbers a_tape m_taped m_textEnd m_faultKind m_faultAt m_bad m_badAt m_token m_at m_behind m_number m_letters m_word a_c a_words m_markMany a_there a_tried a_best a_found m_thereMany m_foundMany m_orderHow m_orderRing m_orderMany m_hasBest m_bestTop m_bestBy a_weights a_shared m_random m_truePlace m_trueWay m_seconds m_done m_feelings m_tries m_leftOver m_playDoor m_playRing m_isOpen m_isOver m_wasTried m_hasPlayed a_feltNow a_last a_kept m_hasSeconds m_hasTurned m_hasRound a_hasFeels a_isOn m_firstAct m_meanTop m_meanBy a_order m_rowMany m_newSteps 8) lk_RX12_269 ⟨rfl, rfl⟩ ⟨Nat.le_of_ble_eq_true rfl, Nat.le_of_ble_eq_true rfl⟩ 12 rfl rfl rfl [0] [1] rfl rfl (by decide) rfl hl.1 rfl (lv_room (Nat.le_of_ble_eq_true rfl)) dX12_round_44 ⟨Nat.le_of_ble_eq_true rfl, Nat.le_of_ble_eq_true rfl⟩ (fun r_11 u_12 H locs hw hP hD hS => ?_)
    obtain ⟨n_10, rfl⟩ : ∃ z, z = u_12 := ⟨_, rfl⟩
    obtain ⟨he_r_11, he_n_10, hw⟩ := hw
    have hr_r_11 := hw
    have hpost : ((-1) ≤ r_11.toInt ∧ r_11.toInt ≤ 4) ∧ (0 ≤ (0 : Int32).toInt ∧ (0 : Int32).toInt ≤ 0) := ⟨(z_rgw hr_r_11 (by decide) (by decide)), (by decide +kernel)⟩
    have hX_14 : F_r_round g_c k = ((r_11, n_10, (0 : Int32)) : Int32 × Int32 × Int32) := by
      refine (F_r_round_s ..).trans ?_
      try (extract_lets -merge -useContext +onlyGivenNames y9; have e9 : x_1 = y9 := (by first | exact he_x_1 | exact he_x_1.symm); clear_value y9; subst e9)
      try (extract_lets -merge -useContext +onlyGivenNames y9; have e9 : x_2 = y9 := (by first | exact he_x_2 | exact he_x_2.symm); clear_value y9; subst e9)
      try (extract_lets -merge -useContext +onlyGivenNames y9; have e9 : x_3 = y9 := (by first | exact he_x_3 | exact he_x_3.symm); clear_value y9; subst e9)
      try (extract_lets -merge -useContext +onlyGivenNames y9; have e9 : x_4 = y9 := (by first | exact he_x_4 | exact he_x_4.symm); clear_value y9; subst e9)
      extract_lets -merge -useContext +onlyGivenNames w9 y9; have e9 : (0 : Int32) = w9 := he_r_5; clear_value w9; subst e9
      refine (if_pos rfl).trans ?_
      extract_lets -merge -useContext +onlyGivenNames w9 y6_0 y6_1; have e9 : (r_11, n_10) = w9 := ((z_tS he_r_11 he_n_10.symm)).symm; clear_value w9; subst e9
      exact rfl
    exact hret _ _ _ _ _ _ (n_10, 0) [1, 0] hP hD hS rfl (by decide) dX12_round_47 ⟨(congrArg (fun z9 => z9.1) hX_14).symm, (congrArg (fun z9 => z9.2.1) hX_14).symm, (congrArg (fun z9 => z9.2.2) hX_14).symm, hpost⟩
  · skip
    refine lv_if_eq (tgt := 41) hx hb dX12_round_25 (by decide) (fun h9 => absurd h9 (by decide +kernel)) (fun _ => ?_)
    refine lv_aload_n hx hb dX12_round_28 rfl (lv_at hl 0 rfl) ?_
    refine va_get (D := G) (ci := 12) (v := .ref a_c) (C := RX12) (T := TX12) (N := 65) hx hb hts inT12 hown hK hP 0 rfl rfl 20 (by decide) (hts _ tw_1905) (fun _ h9 => h9) rfl dX12_round_29 ?_
    refine lv_sipush (v := 138) hx hb dX12_round_32 (by decide) ?_
    refine lv_iload_n hx hb dX12_round_35 rfl (lv_at hl 1 rfl) ?_
    refine lv_iadd hx hb dX12_round_36 ?_
    refine lv_topi (fun x_15 he_x_15 => ?_)
    have hq_x_15 := z_addq he_x_15 hk_138 (rfl : k.toInt = _) (by omega) (by omega)
    refine va_iald hx hb hK hP 1 0 rfl rfl (z_inN (by omega) (by omega)) dX12_round_37 ?_
    refine lv_topi (fun x_16 he_x_16 => ?_)
    have hr_x_16 := z_ct hC_g_c he_x_16 (a := 138) (b := 149) (lo := 0) (hi := 4) (by decide +kernel) (by decide) (by omega) (by omega)
    refine lv_goto (tgt := 47) hx hb dX12_round_38 (by decide) ?_
    have hpost : ((-1) ≤ x_16.toInt ∧ x_16.toInt ≤ 4) ∧ (0 ≤ (0 : Int32).toInt ∧ (0 : Int32).toInt ≤ 0) := ⟨(z_rgw hr_x_16 (by decide) (by decide)), (by decide +kernel)⟩
    have hX_17 : F_r_round g_c k = ((x_16, (0 : Int32), (0 : Int32)) : Int32 × Int32 × Int32) := by
      refine (F_r_round_s ..).trans ?_
      try (extract_lets -merge -useContext +onlyGivenNames y9; have e9 : x_1 = y9 := (by first | exact he_x_1 | exact he_x_1.symm); clear_value y9; subst e9)
      try (extract_lets -merge -useContext +onlyGivenNames y9; have e9 : x_2 = y9 := (by first | exact he_x_2 | exact he_x_2.symm); clear_value y9; subst e9)
      try (extract_lets -merge -useContext +onlyGivenNames y9; have e9 : x_3 = y9 := (by first | exact he_x_3 | exact he_x_3.symm); clear_value y9; subst e9)
      try (extract_lets -merge -useContext +onlyGivenNames y9; have e9 : x_4 = y9 := (by first | exact he_x_4 | exact he_x_4.symm); clear_value y9; subst e9)
      extract_lets -merge -useContext +onlyGivenNames w9 y9; have e9 : (1 : Int32) = w9 := he_r_5; clear_value w9; subst e9
      refine (if_neg (show ¬ (1 : Int32) = 0 by decide)).trans ?_
      try (extract_lets -merge -useContext +onlyGivenNames y9; have e9 : x_15 = y9 := (by first | exact he_x_15 | exact he_x_15.symm); clear_value y9; subst e9)
      try (extract_lets -merge -useContext +onlyGivenNames y9; have e9 : x_16 = y9 := (by first | exact he_x_16 | exact he_x_16.symm); clear_value y9; subst e9)
      exact rfl
    exact hret _ _ _ _ _ _ (0, 0) [0, 1] hP hD hS rfl (by decide) dX12_round_47 ⟨(congrArg (fun z9 => z9.1) hX_17).symm, (congrArg (fun z9 => z9.2.1) hX_17).symm, (congrArg (fun z9 => z9.2.2) hX_17).symm, hpost⟩
set_option maxHeartbeats 40000000 in
set_option maxRecDepth 100000 in
theorem r_letGo (l : Launch) (G : va_G) (cA : zCA) (h0 : Nat) (m_status : Int32) (m_thrown : Int32) (m_above : Int64) (m_under : Int64) (a_traySort : Nat) (a_trayMany : Nat) (a_numbers : Nat) (a_tape : Nat) (m_taped : Int32) (m_textEnd : Int32) (m_faultKind : Int32) (m_faultAt : Int32) (m_bad : Int32) (m_badAt : Int32) (m_token : Int32) (m_at : Int32) (m_behind : Int32) (m_number : Int32) (m_letters : Int32) (m_word : Int64) (a_c : Nat) (a_words : Nat) (m_markMany : Int32) (a_there : Nat) (a_tried : Nat) (a_best : Nat) (a_found : Nat) (m_thereMany : Int32) (m_foundMany : Int32) (m_orderHow : Int32) (m_orderRing : Int32) (m_orderMany : Int32) (m_hasBest : Int32) (m_bestTop : Int64) (m_bestBy : Int64) (a_weights : Nat) (a_shared : Nat) (m_random : Int32) (m_truePlace : Int32) (m_trueWay : Int32) (m_seconds : Int32) (m_done : Int32) (m_feelings : Int32) (m_tries : Int32) (m_leftOver : Int32) (m_playDoor : Int32) (m_playRing : Int32) (m_isOpen : Int32) (m_isOver : Int32) (m_wasTried : Int32) (m_hasPlayed : Int32) (a_feltNow : Nat) (a_last : Nat) (a_kept : Nat) (m_hasSeconds : Int32) (m_hasTurned : Int32) (m_hasRound : Int32) (a_hasFeels : Nat) (a_isOn : Nat) (m_firstAct : Int32) (m_meanTop : Int64) (m_meanBy : Int64) (a_order : Nat) (m_rowMany : Int32) (m_newSteps : Int32) (g_c : Nat → Int32) (r : Int32) (hC_g_c : zC g_c) : zCv l yX12_letGo cX12_letGo 2 none ({ frames := 0, cells := 0, slots := 0, locals := 0 }) G cA [.ref h0, .int r] [(h0, .inr (12, [.int m_status, .int m_thrown, .long m_above, .long m_under, .ref a_traySort, .ref a_trayMany, .ref a_numbers, .ref a_tape, .int m_taped, .int m_textEnd, .int m_faultKind, .int m_faultAt, .int m_bad, .int m_badAt, .int m_token, .int m_at, .int m_behind, .int m_number, .int m_letters, .long m_word, .ref a_c, .ref a_words, .int m_markMany, .ref a_there, .ref a_tried, .ref a_best, .ref a_found, .int m_thereMany, .int m_foundMany, .int m_orderHow, .int m_orderRing, .int m_orderMany, .int m_hasBest, .long m_bestTop, .long m_bestBy, .ref a_weights, .ref a_shared, .int m_random, .int m_truePlace, .int m_trueWay, .int m_seconds, .int m_done, .int m_feelings, .int m_tries, .int m_leftOver, .int m_playDoor, .int m_playRing, .int m_isOpen, .int m_isOver, .int m_wasTried, .int m_hasPlayed, .ref a_feltNow, .ref a_last, .ref a_kept, .int m_hasSeconds, .int m_hasTurned, .int m_hasRound, .ref a_hasFeels, .ref a_isOn, .int m_firstAct, .long m_meanTop, .long m_meanBy, .ref a_order, .int m_rowMany, .int m_newSteps])), (a_c, .inl (cA.1 0, 1825, .inl g_c))] (S := (Nat → Int32)) (fun (u : (Nat → Int32)) => (u = (F_r_letGo g_c r)) ∧ ((zC u) ∧ (∀ j, j ≠ 10 → u j = g_c j))) (fun (u : (Nat → Int32)) => [(h0, .inr (12, [.int m_status, .int m_thrown, .long m_above, .long m_under, .ref a_traySort, .ref a_trayMany, .ref a_numbers, .ref a_tape, .int m_taped, .int m_textEnd, .int m_faultKind, .int m_faultAt, .int m_bad, .int m_badAt, .int m_token, .int m_at, .int m_behind, .int m_number, .int m_letters, .long m_word, .ref a_c, .ref a_words, .int m_markMany, .ref a_there, .ref a_tried, .ref a_best, .ref a_found, .int m_thereMany, .int m_foundMany, .int m_orderHow, .int m_orderRing, .int m_orderMany, .int m_hasBest, .long m_bestTop, .long m_bestBy, .ref a_weights, .ref a_shared, .int m_random, .int m_truePlace, .int m_trueWay, .int m_seconds, .int m_done, .int m_feelings, .int m_tries, .int m_leftOver, .int m_playDoor, .int m_playRing, .int m_isOpen, .int m_isOver, .int m_wasTried, .int m_hasPlayed, .ref a_feltNow, .ref a_last, .ref a_kept, .int m_hasSeconds, .int m_hasTurned, .int m_hasRound, .ref a_hasFeels, .ref a_isOn, .int m_firstAct, .long m_meanTop, .long m_meanBy, .ref a_order, .int m_rowMany, .int m_newSteps])), (a_c, .inl (cA.1 0, 1825, .inl u))]) 0 0 := by
  refine z_start2v (own := RX12) (by decide) (Nat.le_of_ble_eq_true rfl) rfl ?_
  intro p e s m args below meth c A ls Q hx hb hml hts hown hK hE hT hP hD hS hA hl hret
  have hl : lv_has ls 2 [(0, .ref h0), (1, .int r)] := hl
  refine lv_aload_n hx hb dX12_letGo_0 rfl (lv_at hl 0 rfl) ?_
  refine va_get (D := G) (ci := 12) (v := .ref a_c) (C := RX12) (T := TX12) (N := 65) hx hb hts inT12 hown hK hP 0 rfl rfl 20 (by decide) (hts _ tw_1905) (fun _ h9 => h9) rfl dX12_letGo_1 ?_
  refine lv_bipush (v := 10) hx hb dX12_letGo_4 (by decide) ?_
  refine va_iald hx hb hK hP 1 0 rfl rfl (z_in (i := 10) (n := 1825) (by decide +kernel) (by decide +kernel)) dX12_letGo_6 ?_
  refine lv_topi (fun x_1 he_x_1 => ?_)
  have hr_x_1 := z_ctk hC_g_c he_x_1 (k := 10) (lo := (-1)) (hi := 2) (by decide +kernel) (by decide +kernel) (by decide +kernel)
  refine lv_iload_n hx hb dX12_letGo_7 rfl (lv_at hl 1 rfl) ?_
  refine lv_icmp_ne (tgt := 19) hx hb dX12_letGo_8 (by decide) (fun c_2 => ?_) (fun c_2 => ?_)
  · have b_3 := z_fneT c_2
    have hpost : (zC g_c) ∧ (∀ j, j ≠ 10 → g_c j = g_c j) := ⟨hC_g_c, (fun _ _ => rfl)⟩
    have hX_4 : F_r_letGo g_c r = (g_c : (Nat → Int32)) := by
      refine (F_r_letGo_s ..).trans ?_
      try (extract_lets -merge -useContext +onlyGivenNames y9; have e9 : x_1 = y9 := (by first | exact he_x_1 | exact he_x_1.symm); clear_value y9; subst e9)
      refine (if_neg c_2).trans ?_
      exact rfl
    exact hret _ _ _ _ _ g_c [0, 1] hP hD hS rfl (by decide) dX12_letGo_19 ⟨(congrArg (fun z9 => z9) hX_4).symm, hpost⟩
  · have b_5 := z_feqF c_2
    refine lv_aload_n hx hb dX12_letGo_11 rfl (lv_at hl 0 rfl) ?_
    refine va_get (D := G) (ci := 12) (v := .ref a_c) (C := RX12) (T := TX12) (N := 65) hx hb hts inT12 hown hK hP 0 rfl rfl 20 (by decide) (hts _ tw_1905) (fun _ h9 => h9) rfl dX12_letGo_12 ?_
    refine lv_bipush (v := 10) hx hb dX12_letGo_15 (by decide) ?_
    refine lv_iconst (v := (-1)) hx hb dX12_letGo_17 (by decide) ?_
    refine z_iast hx hb hK hP hD hS 1 0 rfl rfl (z_in (i := 10) (n := 1825) (by decide +kernel) (by decide +kernel)) dX12_letGo_18 (fun g_6 hg_g_6 H locs hP hD hS => ?_)
    have hC_g_6 := z_ctUk hC_g_c hg_g_6 (k := 10) (lo := (-1)) (hi := 2) (by decide +kernel) (by decide +kernel) (by decide +kernel) (by decide +kernel)
    have hpost : (zC g_6) ∧ (∀ j, j ≠ 10 → g_6 j = g_c j) := ⟨hC_g_6, (zUpd_ne hg_g_6 (by decide +kernel))⟩
    have hX_7 : F_r_letGo g_c r = (g_6 : (Nat → Int32)) := by
      refine (F_r_letGo_s ..).trans ?_
      try (extract_lets -merge -useContext +onlyGivenNames y9; have e9 : x_1 = y9 := (by first | exact he_x_1 | exact he_x_1.symm); clear_value y9; subst e9)
      refine (if_pos c_2).trans ?_
      try (extract_lets -merge -useContext +onlyGivenNames y9; have e9 : g_6 = y9 := (by first | exact hg_g_6 | exact hg_g_6.symm); clear_value y9; subst e9)
      exact rfl
    exact hret _ _ _ _ _ g_6 [0, 1] hP hD hS rfl (by decide) dX12_letGo_19 ⟨(congrArg (fun z9 => z9) hX_7).symm, hpost⟩
set_option maxHeartbeats 40000000 in
set_option maxRecDepth 100000 in
theorem r_lend (l : Launch) (G : va_G) (cA : zCA) (h0 : Nat) (m_status : Int32) (m_thrown : Int32) (m_above : Int64) (m_under : Int64) (a_traySort : Nat) (a_trayMany : Nat) (a_numbers : Nat) (a_tape : Nat) (m_taped : Int32) (m_textEnd : Int32) (m_faultKind : Int32) (m_faultAt : Int32) (m_bad : Int32) (m_badAt : Int32) (m_token : Int32) (m_at : Int32) (m_behind : Int32) (m_number : Int32) (m_letters : Int32) (m_word : Int64) (a_c : Nat) (a_words : Nat) (m_markMany : Int32) (a_there : Nat) (a_tried : Nat) (a_best : Nat) (a_found : Nat) (m_thereMany : Int32) (m_foundMany : Int32) (m_orderHow : Int32) (m_orderRing : Int32) (m_orderMany : Int32) (m_hasBest : Int32) (m_bestTop : Int64) (m_bestBy : Int64) (a_weights : Nat) (a_shared : Nat) (m_random : Int32) (m_truePlace : Int32) (m_trueWay : Int32) (m_seconds : Int32) (m_done : Int32) (m_feelings : Int32) (m_tries : Int32) (m_leftOver : Int32) (m_playDoor : Int32) (m_playRing : Int32) (m_isOpen : Int32) (m_isOver : Int32) (m_wasTried : Int32) (m_hasPlayed : Int32) (a_feltNow : Nat) (a_last : Nat) (a_kept : Nat) (m_hasSeconds : Int32) (m_hasTurned : Int32) (m_hasRound : Int32) (a_hasFeels : Nat) (a_isOn : Nat) (m_firstAct : Int32) (m_meanTop : Int64) (m_meanBy : Int64) (a_order : Nat) (m_rowMany : Int32) (m_newSteps : Int32) (g_c : Nat → Int32) (k : Int32) (lent : Int32) (hr_lent : 0 ≤ lent.toInt ∧ lent.toInt ≤ 1) (hz_lent : lent = 0 ∨ lent = 1) (hC_g_c : zC g_c) : zCi l yX12_lend cX12_lend 3 (some .boolean) ({ frames := 2, cells := 0, slots := 0, locals := 47 }) G cA [.ref h0, .int k, .int lent] [(h0, .inr (12, [.int m_status, .int m_thrown, .long m_above, .long m_under, .ref a_traySort, .ref a_trayMany, .ref a_numbers, .ref a_tape, .int m_taped, .int m_textEnd, .int m_faultKind, .int m_faultAt, .int m_bad, .int m_badAt, .int m_token, .int m_at, .int m_behind, .int m_number, .int m_letters, .long m_word, .ref a_c, .ref a_words, .int m_markMany, .ref a_there, .ref a_tried, .ref a_best, .ref a_found, .int m_thereMany, .int m_foundMany, .int m_orderHow, .int m_orderRing, .int m_orderMany, .int m_hasBest, .long m_bestTop, .long m_bestBy, .ref a_weights, .ref a_shared, .int m_random, .int m_truePlace, .int m_trueWay, .int m_seconds, .int m_done, .int m_feelings, .int m_tries, .int m_leftOver, .int m_playDoor, .int m_playRing, .int m_isOpen, .int m_isOver, .int m_wasTried, .int m_hasPlayed, .ref a_feltNow, .ref a_last, .ref a_kept, .int m_hasSeconds, .int m_hasTurned, .int m_hasRound, .ref a_hasFeels, .ref a_isOn, .int m_firstAct, .long m_meanTop, .long m_meanBy, .ref a_order, .int m_rowMany, .int m_newSteps])), (a_c, .inl (cA.1 0, 1825, .inl g_c))] (S := Int32 × Int32 × (Nat → Int32)) (fun (r : Int32) (u : Int32 × Int32 × (Nat → Int32)) => (r = (F_r_lend g_c k lent).1) ∧ (u.1 = (F_r_lend g_c k lent).2.1) ∧ (u.2.1 = (F_r_lend g_c k lent).2.2.1) ∧ (u.2.2 = (F_r_lend g_c k lent).2.2.2) ∧ ((r = 0 ∧ (0 ≤ u.2.1.toInt ∧ u.2.1.toInt ≤ 0) ∧ (zC u.2.2) ∧ (zHF g_c u.2.2)) ∨ (r = 1 ∧ (0 ≤ u.1.toInt ∧ u.1.toInt ≤ 0) ∧ (0 ≤ u.2.1.toInt ∧ u.2.1.toInt ≤ 0) ∧ (zC u.2.2) ∧ (zHF g_c u.2.2)))) (fun (u : Int32 × Int32 × (Nat → Int32)) => [(h0, .inr (12, [.int u.1, .int u.2.1, .long m_above, .long m_under, .ref a_traySort, .ref a_trayMany, .ref a_numbers, .ref a_tape, .int m_taped, .int m_textEnd, .int m_faultKind, .int m_faultAt, .int m_bad, .int m_badAt, .int m_token, .int m_at, .int m_behind, .int m_number, .int m_letters, .long m_word, .ref a_c, .ref a_words, .int m_markMany, .ref a_there, .ref a_tried, .ref a_best, .ref a_found, .int m_thereMany, .int m_foundMany, .int m_orderHow, .int m_orderRing, .int m_orderMany, .int m_hasBest, .long m_bestTop, .long m_bestBy, .ref a_weights, .ref a_shared, .int m_random, .int m_truePlace, .int m_trueWay, .int m_seconds, .int m_done, .int m_feelings, .int m_tries, .int m_leftOver, .int m_playDoor, .int m_playRing, .int m_isOpen, .int m_isOver, .int m_wasTried, .int m_hasPlayed, .ref a_feltNow, .ref a_last, .ref a_kept, .int m_hasSeconds, .int m_hasTurned, .int m_hasRound, .ref a_hasFeels, .ref a_isOn, .int m_firstAct, .long m_meanTop, .long m_meanBy, .ref a_order, .int m_rowMany, .int m_newSteps])), (a_c, .inl (cA.1 0, 1825, .inl u.2.2))]) 0 0 := by
  have hk_0 : (0 : Int32).toInt = 0 := by decide +kernel
  have hk_2 : (2 : Int32).toInt = 2 := by decide +kernel
  have hk_150 : (150 : Int32).toInt = 150 := by decide +kernel
  refine z_start2z (own := RX12) (by decide) (Nat.le_of_ble_eq_true rfl) rfl ?_
  intro p e s m args below meth c A ls Q hx hb hml hts hown hK hE hT hP hD hS hA hl hret
  have hl : lv_has ls 3 [(0, .ref h0), (1, .int k), (2, .int lent)] := hl
  refine lv_aload_n hx hb dX12_lend_0 rfl (lv_at hl 0 rfl) ?_
  refine lv_iconst (v := 0) hx hb dX12_lend_1 (by decide) ?_
  refine va_put (D := G) (ci := 12) (v := .int 0) (ty := .int) (C := RX12) (T := TX12) (N := 65) hx hb hts inT12 tyX12 tyX12_ok nmX12 hown hK hP hD hS 0 rfl rfl 1 (by decide) (hts _ tw_1886) (fun _ h9 => h9) rfl (tyX12_ok 1 (by decide)) rfl rfl (Nat.le_of_ble_eq_true rfl) dX12_lend_2 (fun H locs hP hD hS => ?_)
  refine lv_aload_n hx hb dX12_lend_5 rfl (lv_at hl 0 rfl) ?_
  refine lv_iconst (v := 0) hx hb dX12_lend_6 (by decide) ?_
  refine va_put (D := G) (ci := 12) (v := .int 0) (ty := .int) (C := RX12) (T := TX12) (N := 65) hx hb hts inT12 tyX12 tyX12_ok nmX12 hown hK hP hD hS 0 rfl rfl 0 (by decide) (hts _ tw_1885) (fun _ h9 => h9) rfl (tyX12_ok 0 (by decide)) rfl rfl (Nat.le_of_ble_eq_true rfl) dX12_lend_7 (fun H locs hP hD hS => ?_)
  refine lv_aload_n hx hb dX12_lend_10 rfl (lv_at hl 0 rfl) ?_
  refine lv_iload_n hx hb dX12_lend_11 rfl (lv_at hl 1 rfl) ?_
  refine lv_i2l (v := (k).toInt64) hx hb dX12_lend_12 rfl ?_
  refine lv_topl (fun x_1 he_x_1 => ?_)
  have hq_x_1 := z_i2l he_x_1
  have hL_k := z_full k
  refine z_callVi (As := [.long x_1]) (rest := []) (wr := []) ⟨hx, hb, hml, hown, hts⟩ hK hE hT hP hD hS hA (r_isKey l G cA h0 0 0 m_above m_under a_traySort a_trayMany a_numbers a_tape m_taped m_textEnd m_faultKind m_faultAt m_bad m_badAt m_token m_at m_behind m_number m_letters m_word a_c a_words m_markMany a_there a_tried a_best a_found m_thereMany m_foundMany m_orderHow m_orderRing m_orderMany m_hasBest m_bestTop m_bestBy a_weights a_shared m_random m_truePlace m_trueWay m_seconds m_done m_feelings m_tries m_leftOver m_playDoor m_playRing m_isOpen m_isOver m_wasTried m_hasPlayed a_feltNow a_last a_kept m_hasSeconds m_hasTurned m_hasRound a_hasFeels a_isOn m_firstAct m_meanTop m_meanBy a_order m_rowMany m_newSteps g_c x_1 hC_g_c) lk_RX12_275 ⟨rfl, rfl⟩ ⟨Nat.le_of_ble_eq_true rfl, Nat.le_of_ble_eq_true rfl⟩ 12 rfl rfl rfl [0, 1] [] rfl rfl (by decide) rfl hl.1 rfl (lv_room (Nat.le_of_ble_eq_true rfl)) dX12_lend_13 ⟨Nat.le_of_ble_eq_true rfl, Nat.le_of_ble_eq_true rfl⟩ (fun r_2 u_3 H locs hw hP hD hS => ?_)
  obtain ⟨he_r_2, hw⟩ := hw
  rcases hw with ⟨rfl, -⟩ | ⟨rfl, hf_5, hf_6⟩
  · skip
    refine lv_if_ne (tgt := 25) hx hb dX12_lend_16 (by decide) (fun h9 => absurd (by decide +kernel) h9) (fun _ => ?_)
    refine lv_aload_n hx hb dX12_lend_19 rfl (lv_at hl 0 rfl) ?_
    refine lv_iconst (v := 2) hx hb dX12_lend_20 (by decide) ?_
    refine z_callVi (As := [.int 2]) (rest := []) (wr := [(a_c, .inl (cA.1 0, 1825, .inl g_c))]) ⟨hx, hb, hml, hown, hts⟩ hK hE hT hP hD hS hA (r_no l G cA h0 0 0 m_above m_under a_traySort a_trayMany a_numbers a_tape m_taped m_textEnd m_faultKind m_faultAt m_bad m_badAt m_token m_at m_behind m_number m_letters m_word a_c a_words m_markMany a_there a_tried a_best a_found m_thereMany m_foundMany m_orderHow m_orderRing m_orderMany m_hasBest m_bestTop m_bestBy a_weights a_shared m_random m_truePlace m_trueWay m_seconds m_done m_feelings m_tries m_leftOver m_playDoor m_playRing m_isOpen m_isOver m_wasTried m_hasPlayed a_feltNow a_last a_kept m_hasSeconds m_hasTurned m_hasRound a_hasFeels a_isOn m_firstAct m_meanTop m_meanBy a_order m_rowMany m_newSteps 2) lk_RX12_97 ⟨rfl, rfl⟩ ⟨Nat.le_of_ble_eq_true rfl, Nat.le_of_ble_eq_true rfl⟩ 12 rfl rfl rfl [0] [1] rfl rfl (by decide) rfl hl.1 rfl (lv_room (Nat.le_of_ble_eq_true rfl)) dX12_lend_21 ⟨Nat.le_of_ble_eq_true rfl, Nat.le_of_ble_eq_true rfl⟩ (fun r_8 u_9 H locs hw hP hD hS => ?_)
    obtain ⟨n_7, rfl⟩ : ∃ z, z = u_9 := ⟨_, rfl⟩
    obtain ⟨he_r_8, he_n_7, hw⟩ := hw
    obtain ⟨rfl, -⟩ := hw
    have hpost : ((0 : Int32) = 0 ∧ (0 ≤ (0 : Int32).toInt ∧ (0 : Int32).toInt ≤ 0) ∧ (zC g_c) ∧ (zHF g_c g_c)) ∨ ((0 : Int32) = 1 ∧ (0 ≤ n_7.toInt ∧ n_7.toInt ≤ 0) ∧ (0 ≤ (0 : Int32).toInt ∧ (0 : Int32).toInt ≤ 0) ∧ (zC g_c) ∧ (zHF g_c g_c)) := (Or.inl ⟨rfl, ⟨(by decide +kernel), hC_g_c, (zHF_refl g_c)⟩⟩)
    have hX_11 : F_r_lend g_c k lent = (((0 : Int32), n_7, (0 : Int32), g_c) : Int32 × Int32 × Int32 × (Nat → Int32)) := by
      refine (F_r_lend_s ..).trans ?_
      try (extract_lets -merge -useContext +onlyGivenNames y9; have e9 : x_1 = y9 := (by first | exact he_x_1 | exact he_x_1.symm); clear_value y9; subst e9)
      extract_lets -merge -useContext +onlyGivenNames w9 y9; have e9 : (0 : Int32) = w9 := he_r_2; clear_value w9; subst e9
      refine (if_pos rfl).trans ?_
      extract_lets -merge -useContext +onlyGivenNames w9 y3_0 y3_1; have e9 : ((0 : Int32), n_7) = w9 := ((z_tS he_r_8 he_n_7.symm)).symm; clear_value w9; subst e9
      exact rfl
    exact hret _ _ _ _ _ _ (n_7, 0, g_c) [1, 0] hP hD hS rfl (by decide) dX12_lend_24 (Or.inl rfl) ⟨(congrArg (fun z9 => z9.1) hX_11).symm, (congrArg (fun z9 => z9.2.1) hX_11).symm, (congrArg (fun z9 => z9.2.2.1) hX_11).symm, (congrArg (fun z9 => z9.2.2.2) hX_11).symm, hpost⟩
  · skip
    refine lv_if_ne (tgt := 25) hx hb dX12_lend_16 (by decide) (fun _ => ?_) (fun h9 => absurd h9 (by decide +kernel))
    refine lv_aload_n hx hb dX12_lend_25 rfl (lv_at hl 0 rfl) ?_
    refine va_get (D := G) (ci := 12) (v := .ref a_c) (C := RX12) (T := TX12) (N := 65) hx hb hts inT12 hown hK hP 0 rfl rfl 20 (by decide) (hts _ tw_1905) (fun _ h9 => h9) rfl dX12_lend_26 ?_
    refine lv_sipush (v := 150) hx hb dX12_lend_29 (by decide) ?_
    refine lv_iload_n hx hb dX12_lend_32 rfl (lv_at hl 1 rfl) ?_
    refine lv_iadd hx hb dX12_lend_33 ?_
    refine lv_topi (fun x_12 he_x_12 => ?_)
    have hq_x_12 := z_addq he_x_12 hk_150 (rfl : k.toInt = _) (by omega) (by omega)
    refine lv_iload_n hx hb dX12_lend_34 rfl (lv_at hl 2 rfl) ?_
    refine lv_if_eq (tgt := 42) hx hb dX12_lend_35 (by decide) (fun c_13 => ?_) (fun c_13 => ?_)
    · have b_14 := z_feqT c_13
      refine lv_iconst (v := 0) hx hb dX12_lend_42 (by decide) ?_
      refine z_iast hx hb hK hP hD hS 1 0 rfl rfl (z_inN (by omega) (by omega)) dX12_lend_43 (fun g_15 hg_g_15 H locs hP hD hS => ?_)
      have hC_g_15 := z_ctU hC_g_c hg_g_15 (a := 150) (b := 159) (lo := 0) (hi := 1) (by decide +kernel) (by decide +kernel) (by omega) (by omega) (by decide +kernel)
      have hs_16 : zHF g_c g_15 := (zHF_upd (zHF_refl g_c) hg_g_15 (a := 150) (b := 159) (by decide) (by omega) (by omega))
      refine lv_aload_n hx hb dX12_lend_44 rfl (lv_at hl 0 rfl) ?_
      refine lv_iload_n hx hb dX12_lend_45 rfl (lv_at hl 1 rfl) ?_
      refine z_callVi (As := [.int k]) (rest := []) (wr := []) ⟨hx, hb, hml, hown, hts⟩ hK hE hT hP hD hS hA (r_ringOf l G cA h0 0 0 m_above m_under a_traySort a_trayMany a_numbers a_tape m_taped m_textEnd m_faultKind m_faultAt m_bad m_badAt m_token m_at m_behind m_number m_letters m_word a_c a_words m_markMany a_there a_tried a_best a_found m_thereMany m_foundMany m_orderHow m_orderRing m_orderMany m_hasBest m_bestTop m_bestBy a_weights a_shared m_random m_truePlace m_trueWay m_seconds m_done m_feelings m_tries m_leftOver m_playDoor m_playRing m_isOpen m_isOver m_wasTried m_hasPlayed a_feltNow a_last a_kept m_hasSeconds m_hasTurned m_hasRound a_hasFeels a_isOn m_firstAct m_meanTop m_meanBy a_order m_rowMany m_newSteps g_15 k (by omega) hC_g_15) lk_RX12_278 ⟨rfl, rfl⟩ ⟨Nat.le_of_ble_eq_true rfl, Nat.le_of_ble_eq_true rfl⟩ 12 rfl rfl rfl [0, 1] [] rfl rfl (by decide) rfl hl.1 rfl (lv_room (Nat.le_of_ble_eq_true rfl)) dX12_lend_46 ⟨Nat.le_of_ble_eq_true rfl, Nat.le_of_ble_eq_true rfl⟩ (fun r_17 u_18 H locs hw hP hD hS => ?_)
      obtain ⟨he_r_17, hw⟩ := hw
      obtain ⟨hr_r_17, hf_20⟩ := hw
      refine lv_if_lt (tgt := 61) hx hb dX12_lend_49 (by decide) (fun c_21 => ?_) (fun c_21 => ?_)
      · have b_22 := z_fltT c_21
        refine lv_iconst (v := 1) hx hb dX12_lend_61 (by decide) ?_
        have hpost : ((1 : Int32) = 0 ∧ (0 ≤ (0 : Int32).toInt ∧ (0 : Int32).toInt ≤ 0) ∧ (zC g_15) ∧ (zHF g_c g_15)) ∨ ((1 : Int32) = 1 ∧ (0 ≤ (0 : Int32).toInt ∧ (0 : Int32).toInt ≤ 0) ∧ (0 ≤ (0 : Int32).toInt ∧ (0 : Int32).toInt ≤ 0) ∧ (zC g_15) ∧ (zHF g_c g_15)) := (Or.inr ⟨rfl, ⟨(by decide +kernel), (by decide +kernel), hC_g_15, hs_16⟩⟩)
        have hX_23 : F_r_lend g_c k lent = (((1 : Int32), (0 : Int32), (0 : Int32), g_15) : Int32 × Int32 × Int32 × (Nat → Int32)) := by
          refine (F_r_lend_s ..).trans ?_
          try (extract_lets -merge -useContext +onlyGivenNames y9; have e9 : x_1 = y9 := (by first | exact he_x_1 | exact he_x_1.symm); clear_value y9; subst e9)
          extract_lets -merge -useContext +onlyGivenNames w9 y9; have e9 : (1 : Int32) = w9 := he_r_2; clear_value w9; subst e9
          refine (if_neg (show ¬ (1 : Int32) = 0 by decide)).trans ?_
          try (extract_lets -merge -useContext +onlyGivenNames y9; have e9 : x_12 = y9 := (by first | exact he_x_12 | exact he_x_12.symm); clear_value y9; subst e9)
          refine (if_pos c_13).trans ?_
          try (extract_lets -merge -useContext +onlyGivenNames y9; have e9 : g_15 = y9 := (by first | exact hg_g_15 | exact hg_g_15.symm); clear_value y9; subst e9)
          extract_lets -merge -useContext +onlyGivenNames w9 y9; have e9 : r_17 = w9 := he_r_17; clear_value w9; subst e9
          refine (if_pos c_21).trans ?_
          exact rfl
        exact hret _ _ _ _ _ _ (0, 0, g_15) [0, 1] hP hD hS rfl (by decide) dX12_lend_62 (Or.inr rfl) ⟨(congrArg (fun z9 => z9.1) hX_23).symm, (congrArg (fun z9 => z9.2.1) hX_23).symm, (congrArg (fun z9 => z9.2.2.1) hX_23).symm, (congrArg (fun z9 => z9.2.2.2) hX_23).symm, hpost⟩
      · have b_24 := z_fgeF c_21
        refine lv_aload_n hx hb dX12_lend_52 rfl (lv_at hl 0 rfl) ?_
        refine lv_aload_n hx hb dX12_lend_53 rfl (lv_at hl 0 rfl) ?_
        refine lv_iload_n hx hb dX12_lend_54 rfl (lv_at hl 1 rfl) ?_
        refine z_callVi (As := [.int k]) (rest := [.ref h0]) (wr := []) ⟨hx, hb, hml, hown, hts⟩ hK hE hT hP hD hS hA (r_ringOf l G cA h0 0 0 m_above m_under a_traySort a_trayMany a_numbers a_tape m_taped m_textEnd m_faultKind m_faultAt m_bad m_badAt m_token m_at m_behind m_number m_letters m_word a_c a_words m_markMany a_there a_tried a_best a_found m_thereMany m_foundMany m_orderHow m_orderRing m_orderMany m_hasBest m_bestTop m_bestBy a_weights a_shared m_random m_truePlace m_trueWay m_seconds m_done m_feelings m_tries m_leftOver m_playDoor m_playRing m_isOpen m_isOver m_wasTried m_hasPlayed a_feltNow a_last a_kept m_hasSeconds m_hasTurned m_hasRound a_hasFeels a_isOn m_firstAct m_meanTop m_meanBy a_order m_rowMany m_newSteps g_15 k (by omega) hC_g_15) lk_RX12_278 ⟨rfl, rfl⟩ ⟨Nat.le_of_ble_eq_true rfl, Nat.le_of_ble_eq_true rfl⟩ 12 rfl rfl rfl [0, 1] [] rfl rfl (by decide) rfl hl.1 rfl (lv_room (Nat.le_of_ble_eq_true rfl)) dX12_lend_55 ⟨Nat.le_of_ble_eq_true rfl, Nat.le_of_ble_eq_true rfl⟩ (fun r_25 u_26 H locs hw hP hD hS => ?_)
        obtain ⟨he_r_25, hw⟩ := hw
        obtain ⟨hr_r_25, hf_28⟩ := hw
        refine z_callVv (As := [.int r_25]) (rest := []) (wr := []) ⟨hx, hb, hml, hown, hts⟩ hK hE hT hP hD hS hA (r_letGo l G cA h0 0 0 m_above m_under a_traySort a_trayMany a_numbers a_tape m_taped m_textEnd m_faultKind m_faultAt m_bad m_badAt m_token m_at m_behind m_number m_letters m_word a_c a_words m_markMany a_there a_tried a_best a_found m_thereMany m_foundMany m_orderHow m_orderRing m_orderMany m_hasBest m_bestTop m_bestBy a_weights a_shared m_random m_truePlace m_trueWay m_seconds m_done m_feelings m_tries m_leftOver m_playDoor m_playRing m_isOpen m_isOver m_wasTried m_hasPlayed a_feltNow a_last a_kept m_hasSeconds m_hasTurned m_hasRound a_hasFeels a_isOn m_firstAct m_meanTop m_meanBy a_order m_rowMany m_newSteps g_15 r_25 hC_g_15) lk_RX12_305 ⟨rfl, rfl⟩ ⟨Nat.le_of_ble_eq_true rfl, Nat.le_of_ble_eq_true rfl⟩ 12 rfl rfl rfl [0, 1] [] rfl rfl (by decide) rfl hl.1 rfl (lv_room (Nat.le_of_ble_eq_true rfl)) dX12_lend_58 ⟨Nat.le_of_ble_eq_true rfl, Nat.le_of_ble_eq_true rfl⟩ (fun u_31 H locs hw hP hD hS => ?_)
        obtain ⟨n_29, rfl⟩ : ∃ z, z = u_31 := ⟨_, rfl⟩
        obtain ⟨he_n_29, hw⟩ := hw
        obtain ⟨hC_n_29, hf_33⟩ := hw
        have hs_34 : zHF g_c n_29 := (zHF_trans hs_16 (zHF_10 hf_33))
        refine lv_iconst (v := 1) hx hb dX12_lend_61 (by decide) ?_
        have hpost : ((1 : Int32) = 0 ∧ (0 ≤ (0 : Int32).toInt ∧ (0 : Int32).toInt ≤ 0) ∧ (zC n_29) ∧ (zHF g_c n_29)) ∨ ((1 : Int32) = 1 ∧ (0 ≤ (0 : Int32).toInt ∧ (0 : Int32).toInt ≤ 0) ∧ (0 ≤ (0 : Int32).toInt ∧ (0 : Int32).toInt ≤ 0) ∧ (zC n_29) ∧ (zHF g_c n_29)) := (Or.inr ⟨rfl, ⟨(by decide +kernel), (by decide +kernel), hC_n_29, hs_34⟩⟩)
        have hX_35 : F_r_lend g_c k lent = (((1 : Int32), (0 : Int32), (0 : Int32), n_29) : Int32 × Int32 × Int32 × (Nat → Int32)) := by
          refine (F_r_lend_s ..).trans ?_
          try (extract_lets -merge -useContext +onlyGivenNames y9; have e9 : x_1 = y9 := (by first | exact he_x_1 | exact he_x_1.symm); clear_value y9; subst e9)
          extract_lets -merge -useContext +onlyGivenNames w9 y9; have e9 : (1 : Int32) = w9 := he_r_2; clear_value w9; subst e9
          refine (if_neg (show ¬ (1 : Int32) = 0 by decide)).trans ?_
          try (extract_lets -merge -useContext +onlyGivenNames y9; have e9 : x_12 = y9 := (by first | exact he_x_12 | exact he_x_12.symm); clear_value y9; subst e9)
          refine (if_pos c_13).trans ?_
          try (extract_lets -merge -useContext +onlyGivenNames y9; have e9 : g_15 = y9 := (by first | exact hg_g_15 | exact hg_g_15.symm); clear_value y9; subst e9)
          extract_lets -merge -useContext +onlyGivenNames w9 y9; have e9 : r_17 = w9 := he_r_17; clear_value w9; subst e9
          refine (if_neg c_21).trans ?_
          extract_lets -merge -useContext +onlyGivenNames w9 y9; have e9 : r_25 = w9 := he_r_25; clear_value w9; subst e9
          extract_lets -merge -useContext +onlyGivenNames w9 y9; have e9 : n_29 = w9 := he_n_29; clear_value w9; subst e9
          exact rfl
        exact hret _ _ _ _ _ _ (0, 0, n_29) [0, 1] hP hD hS rfl (by decide) dX12_lend_62 (Or.inr rfl) ⟨(congrArg (fun z9 => z9.1) hX_35).symm, (congrArg (fun z9 => z9.2.1) hX_35).symm, (congrArg (fun z9 => z9.2.2.1) hX_35).symm, (congrArg (fun z9 => z9.2.2.2) hX_35).symm, hpost⟩
    · have b_36 := z_fneF c_13
      refine lv_iconst (v := 1) hx hb dX12_lend_38 (by decide) ?_
      refine lv_goto (tgt := 43) hx hb dX12_lend_39 (by decide) ?_
      refine z_iast hx hb hK hP hD hS 1 0 rfl rfl (z_inN (by omega) (by omega)) dX12_lend_43 (fun g_37 hg_g_37 H locs hP hD hS => ?_)
      have hC_g_37 := z_ctU hC_g_c hg_g_37 (a := 150) (b := 159) (lo := 0) (hi := 1) (by decide +kernel) (by decide +kernel) (by omega) (by omega) (by decide +kernel)
      have hs_38 : zHF g_c g_37 := (zHF_upd (zHF_refl g_c) hg_g_37 (a := 150) (b := 159) (by decide) (by omega) (by omega))
      refine lv_aload_n hx hb dX12_lend_44 rfl (lv_at hl 0 rfl) ?_
      refine lv_iload_n hx hb dX12_lend_45 rfl (lv_at hl 1 rfl) ?_
      refine z_callVi (As := [.int k]) (rest := []) (wr := []) ⟨hx, hb, hml, hown, hts⟩ hK hE hT hP hD hS hA (r_ringOf l G cA h0 0 0 m_above m_under a_traySort a_trayMany a_numbers a_tape m_taped m_textEnd m_faultKind m_faultAt m_bad m_badAt m_token m_at m_behind m_number m_letters m_word a_c a_words m_markMany a_there a_tried a_best a_found m_thereMany m_foundMany m_orderHow m_orderRing m_orderMany m_hasBest m_bestTop m_bestBy a_weights a_shared m_random m_truePlace m_trueWay m_seconds m_done m_feelings m_tries m_leftOver m_playDoor m_playRing m_isOpen m_isOver m_wasTried m_hasPlayed a_feltNow a_last a_kept m_hasSeconds m_hasTurned m_hasRound a_hasFeels a_isOn m_firstAct m_meanTop m_meanBy a_order m_rowMany m_newSteps g_37 k (by omega) hC_g_37) lk_RX12_278 ⟨rfl, rfl⟩ ⟨Nat.le_of_ble_eq_true rfl, Nat.le_of_ble_eq_true rfl⟩ 12 rfl rfl rfl [0, 1] [] rfl rfl (by decide) rfl hl.1 rfl (lv_room (Nat.le_of_ble_eq_true rfl)) dX12_lend_46 ⟨Nat.le_of_ble_eq_true rfl, Nat.le_of_ble_eq_true rfl⟩ (fun r_39 u_40 H locs hw hP hD hS => ?_)
      obtain ⟨he_r_39, hw⟩ := hw
      obtain ⟨hr_r_39, hf_42⟩ := hw
      refine lv_if_lt (tgt := 61) hx hb dX12_lend_49 (by decide) (fun c_43 => ?_) (fun c_43 => ?_)
      · have b_44 := z_fltT c_43
        refine lv_iconst (v := 1) hx hb dX12_lend_61 (by decide) ?_
        have hpost : ((1 : Int32) = 0 ∧ (0 ≤ (0 : Int32).toInt ∧ (0 : Int32).toInt ≤ 0) ∧ (zC g_37) ∧ (zHF g_c g_37)) ∨ ((1 : Int32) = 1 ∧ (0 ≤ (0 : Int32).toInt ∧ (0 : Int32).toInt ≤ 0) ∧ (0 ≤ (0 : Int32).toInt ∧ (0 : Int32).toInt ≤ 0) ∧ (zC g_37) ∧ (zHF g_c g_37)) := (Or.inr ⟨rfl, ⟨(by decide +kernel), (by decide +kernel), hC_g_37, hs_38⟩⟩)
        have hX_45 : F_r_lend g_c k lent = (((1 : Int32), (0 : Int32), (0 : Int32), g_37) : Int32 × Int32 × Int32 × (Nat → Int32)) := by
          refine (F_r_lend_s ..).trans ?_
          try (extract_lets -merge -useContext +onlyGivenNames y9; have e9 : x_1 = y9 := (by first | exact he_x_1 | exact he_x_1.symm); clear_value y9; subst e9)
          extract_lets -merge -useContext +onlyGivenNames w9 y9; have e9 : (1 : Int32) = w9 := he_r_2; clear_value w9; subst e9
          refine (if_neg (show ¬ (1 : Int32) = 0 by decide)).trans ?_
          try (extract_lets -merge -useContext +onlyGivenNames y9; have e9 : x_12 = y9 := (by first | exact he_x_12 | exact he_x_12.symm); clear_value y9; subst e9)
          refine (if_neg c_13).trans ?_
          try (extract_lets -merge -useContext +onlyGivenNames y9; have e9 : g_37 = y9 := (by first | exact hg_g_37 | exact hg_g_37.symm); clear_value y9; subst e9)
          extract_lets -merge -useContext +onlyGivenNames w9 y9; have e9 : r_39 = w9 := he_r_39; clear_value w9; subst e9
          refine (if_pos c_43).trans ?_
          exact rfl
        exact hret _ _ _ _ _ _ (0, 0, g_37) [0, 1] hP hD hS rfl (by decide) dX12_lend_62 (Or.inr rfl) ⟨(congrArg (fun z9 => z9.1) hX_45).symm, (congrArg (fun z9 => z9.2.1) hX_45).symm, (congrArg (fun z9 => z9.2.2.1) hX_45).symm, (congrArg (fun z9 => z9.2.2.2) hX_45).symm, hpost⟩
      · have b_46 := z_fgeF c_43
        refine lv_aload_n hx hb dX12_lend_52 rfl (lv_at hl 0 rfl) ?_
        refine lv_aload_n hx hb dX12_lend_53 rfl (lv_at hl 0 rfl) ?_
        refine lv_iload_n hx hb dX12_lend_54 rfl (lv_at hl 1 rfl) ?_
        refine z_callVi (As := [.int k]) (rest := [.ref h0]) (wr := []) ⟨hx, hb, hml, hown, hts⟩ hK hE hT hP hD hS hA (r_ringOf l G cA h0 0 0 m_above m_under a_traySort a_trayMany a_numbers a_tape m_taped m_textEnd m_faultKind m_faultAt m_bad m_badAt m_token m_at m_behind m_number m_letters m_word a_c a_words m_markMany a_there a_tried a_best a_found m_thereMany m_foundMany m_orderHow m_orderRing m_orderMany m_hasBest m_bestTop m_bestBy a_weights a_shared m_random m_truePlace m_trueWay m_seconds m_done m_feelings m_tries m_leftOver m_playDoor m_playRing m_isOpen m_isOver m_wasTried m_hasPlayed a_feltNow a_last a_kept m_hasSeconds m_hasTurned m_hasRound a_hasFeels a_isOn m_firstAct m_meanTop m_meanBy a_order m_rowMany m_newSteps g_37 k (by omega) hC_g_37) lk_RX12_278 ⟨rfl, rfl⟩ ⟨Nat.le_of_ble_eq_true rfl, Nat.le_of_ble_eq_true rfl⟩ 12 rfl rfl rfl [0, 1] [] rfl rfl (by decide) rfl hl.1 rfl (lv_room (Nat.le_of_ble_eq_true rfl)) dX12_lend_55 ⟨Nat.le_of_ble_eq_true rfl, Nat.le_of_ble_eq_true rfl⟩ (fun r_47 u_48 H locs hw hP hD hS => ?_)
        obtain ⟨he_r_47, hw⟩ := hw
        obtain ⟨hr_r_47, hf_50⟩ := hw
        refine z_callVv (As := [.int r_47]) (rest := []) (wr := []) ⟨hx, hb, hml, hown, hts⟩ hK hE hT hP hD hS hA (r_letGo l G cA h0 0 0 m_above m_under a_traySort a_trayMany a_numbers a_tape m_taped m_textEnd m_faultKind m_faultAt m_bad m_badAt m_token m_at m_behind m_number m_letters m_word a_c a_words m_markMany a_there a_tried a_best a_found m_thereMany m_foundMany m_orderHow m_orderRing m_orderMany m_hasBest m_bestTop m_bestBy a_weights a_shared m_random m_truePlace m_trueWay m_seconds m_done m_feelings m_tries m_leftOver m_playDoor m_playRing m_isOpen m_isOver m_wasTried m_hasPlayed a_feltNow a_last a_kept m_hasSeconds m_hasTurned m_hasRound a_hasFeels a_isOn m_firstAct m_meanTop m_meanBy a_order m_rowMany m_newSteps g_37 r_47 hC_g_37) lk_RX12_305 ⟨rfl, rfl⟩ ⟨Nat.le_of_ble_eq_true rfl, Nat.le_of_ble_eq_true rfl⟩ 12 rfl rfl rfl [0, 1] [] rfl rfl (by decide) rfl hl.1 rfl (lv_room (Nat.le_of_ble_eq_true rfl)) dX12_lend_58 ⟨Nat.le_of_ble_eq_true rfl, Nat.le_of_ble_eq_true rfl⟩ (fun u_53 H locs hw hP hD hS => ?_)
        obtain ⟨n_51, rfl⟩ : ∃ z, z = u_53 := ⟨_, rfl⟩
        obtain ⟨he_n_51, hw⟩ := hw
        obtain ⟨hC_n_51, hf_55⟩ := hw
        have hs_56 : zHF g_c n_51 := (zHF_trans hs_38 (zHF_10 hf_55))
        refine lv_iconst (v := 1) hx hb dX12_lend_61 (by decide) ?_
        have hpost : ((1 : Int32) = 0 ∧ (0 ≤ (0 : Int32).toInt ∧ (0 : Int32).toInt ≤ 0) ∧ (zC n_51) ∧ (zHF g_c n_51)) ∨ ((1 : Int32) = 1 ∧ (0 ≤ (0 : Int32).toInt ∧ (0 : Int32).toInt ≤ 0) ∧ (0 ≤ (0 : Int32).toInt ∧ (0 : Int32).toInt ≤ 0) ∧ (zC n_51) ∧ (zHF g_c n_51)) := (Or.inr ⟨rfl, ⟨(by decide +kernel), (by decide +kernel), hC_n_51, hs_56⟩⟩)
        have hX_57 : F_r_lend g_c k lent = (((1 : Int32), (0 : Int32), (0 : Int32), n_51) : Int32 × Int32 × Int32 × (Nat → Int32)) := by
          refine (F_r_lend_s ..).trans ?_
          try (extract_lets -merge -useContext +onlyGivenNames y9; have e9 : x_1 = y9 := (by first | exact he_x_1 | exact he_x_1.symm); clear_value y9; subst e9)
          extract_lets -merge -useContext +onlyGivenNames w9 y9; have e9 : (1 : Int32) = w9 := he_r_2; clear_value w9; subst e9
          refine (if_neg (show ¬ (1 : Int32) = 0 by decide)).trans ?_
          try (extract_lets -merge -useContext +onlyGivenNames y9; have e9 : x_12 = y9 := (by first | exact he_x_12 | exact he_x_12.symm); clear_value y9; subst e9)
          refine (if_neg c_13).trans ?_
          try (extract_lets -merge -useContext +onlyGivenNames y9; have e9 : g_37 = y9 := (by first | exact hg_g_37 | exact hg_g_37.symm); clear_value y9; subst e9)
          extract_lets -merge -useContext +onlyGivenNames w9 y9; have e9 : r_39 = w9 := he_r_39; clear_value w9; subst e9
          refine (if_neg c_43).trans ?_
          extract_lets -merge -useContext +onlyGivenNames w9 y9; have e9 : r_47 = w9 := he_r_47; clear_value w9; subst e9
          extract_lets -merge -useContext +onlyGivenNames w9 y9; have e9 : n_51 = w9 := he_n_51; clear_value w9; subst e9
          exact rfl
        exact hret _ _ _ _ _ _ (0, 0, n_51) [0, 1] hP hD hS rfl (by decide) dX12_lend_62 (Or.inr rfl) ⟨(congrArg (fun z9 => z9.1) hX_57).symm, (congrArg (fun z9 => z9.2.1) hX_57).symm, (congrArg (fun z9 => z9.2.2.1) hX_57).symm, (congrArg (fun z9 => z9.2.2.2) hX_57).symm, hpost⟩
set_option maxHeartbeats 4000000 in
set_option maxRecDepth 100000 in
theorem r_shareOut (l : Launch) (G : va_G) (cA : zCA) (h0 : Nat) (m_status : Int32) (m_thrown : Int32) (m_above : Int64) (m_under : Int64) (a_traySort : Nat) (a_trayMany : Nat) (a_numbers : Nat) (a_tape : Nat) (m_taped : Int32) (m_textEnd : Int32) (m_faultKind : Int32) (m_faultAt : Int32) (m_bad : Int32) (m_badAt : Int32) (m_token : Int32) (m_at : Int32) (m_behind : Int32) (m_number : Int32) (m_letters : Int32) (m_word : Int64) (a_c : Nat) (a_words : Nat) (m_markMany : Int32) (a_there : Nat) (a_tried : Nat) (a_best : Nat) (a_found : Nat) (m_thereMany : Int32) (m_foundMany : Int32) (m_orderHow : Int32) (m_orderRing : Int32) (m_orderMany : Int32) (m_hasBest : Int32) (m_bestTop : Int64) (m_bestBy : Int64) (a_weights : Nat) (a_shared : Nat) (m_random : Int32) (m_truePlace : Int32) (m_trueWay : Int32) (m_seconds : Int32) (m_done : Int32) (m_feelings : Int32) (m_tries : Int32) (m_leftOver : Int32) (m_playDoor : Int32) (m_playRing : Int32) (m_isOpen : Int32) (m_isOver : Int32) (m_wasTried : Int32) (m_hasPlayed : Int32) (a_feltNow : Nat) (a_last : Nat) (a_kept : Nat) (m_hasSeconds : Int32) (m_hasTurned : Int32) (m_hasRound : Int32) (a_hasFeels : Nat) (a_isOn : Nat) (m_firstAct : Int32) (m_meanTop : Int64) (m_meanBy : Int64) (a_order : Nat) (m_rowMany : Int32) (m_newSteps : Int32) (g_c : Nat → Int32) (g_shared : Nat → Int64) (hr_m_thereMany : 0 ≤ m_thereMany.toInt ∧ m_thereMany.toInt ≤ 10) (hC_g_c : zC g_c) : zCi l yX12_shareOut cX12_shareOut 7 (some .boolean) ({ frames := 0, cells := 0, slots := 0, locals := 0 }) G cA [.ref h0] [(h0, .inr (12, [.int m_status, .int m_thrown, .long m_above, .long m_under, .ref a_traySort, .ref a_trayMany, .ref a_numbers, .ref a_tape, .int m_taped, .int m_textEnd, .int m_faultKind, .int m_faultAt, .int m_bad, .int m_badAt, .int m_token, .int m_at, .int m_behind, .int m_number, .int m_letters, .long m_word, .ref a_c, .ref a_words, .int m_markMany, .ref a_there, .ref a_tried, .ref a_best, .ref a_found, .int m_thereMany, .int m_foundMany, .int m_orderHow, .int m_orderRing, .int m_orderMany, .int m_hasBest, .long m_bestTop, .long m_bestBy, .ref a_weights, .ref a_shared, .int m_random, .int m_truePlace, .int m_trueWay, .int m_seconds, .int m_done, .int m_feelings, .int m_tries, .int m_leftOver, .int m_playDoor, .int m_playRing, .int m_isOpen, .int m_isOver, .int m_wasTried, .int m_hasPlayed, .ref a_feltNow, .ref a_last, .ref a_kept, .int m_hasSeconds, .int m_hasTurned, .int m_hasRound, .ref a_hasFeels, .ref a_isOn, .int m_firstAct, .long m_meanTop, .long m_meanBy, .ref a_order, .int m_rowMany, .int m_newSteps])), (a_c, .inl (cA.1 0, 1825, .inl g_c)), (a_shared, .inl (cA.1 1, 20, .inr (.inl g_shared)))] (S := (Nat → Int32)) (fun (r : Int32) (u : (Nat → Int32)) => (r = 0 ∧ (zC u) ∧ (zPF g_c u)) ∨ (r = 1 ∧ (zC u) ∧ (zPF g_c u))) (fun (u : (Nat → Int32)) => [(h0, .inr (12, [.int m_status, .int m_thrown, .long m_above, .long m_under, .ref a_traySort, .ref a_trayMany, .ref a_numbers, .ref a_tape, .int m_taped, .int m_textEnd, .int m_faultKind, .int m_faultAt, .int m_bad, .int m_badAt, .int m_token, .int m_at, .int m_behind, .int m_number, .int m_letters, .long m_word, .ref a_c, .ref a_words, .int m_markMany, .ref a_there, .ref a_tried, .ref a_best, .ref a_found, .int m_thereMany, .int m_foundMany, .int m_orderHow, .int m_orderRing, .int m_orderMany, .int m_hasBest, .long m_bestTop, .long m_bestBy, .ref a_weights, .ref a_shared, .int m_random, .int m_truePlace, .int m_trueWay, .int m_seconds, .int m_done, .int m_feelings, .int m_tries, .int m_leftOver, .int m_playDoor, .int m_playRing, .int m_isOpen, .int m_isOver, .int m_wasTried, .int m_hasPlayed, .ref a_feltNow, .ref a_last, .ref a_kept, .int m_hasSeconds, .int m_hasTurned, .int m_hasRound, .ref a_hasFeels, .ref a_isOn, .int m_firstAct, .long m_meanTop, .long m_meanBy, .ref a_order, .int m_rowMany, .int m_newSteps])), (a_c, .inl (cA.1 0, 1825, .inl u)), (a_shared, .inl (cA.1 1, 20, .inr (.inl g_shared)))]) 0 0 := by
  have hk_0 : (0 : Int32).toInt = 0 := by decide +kernel
  have hk_1 : (1 : Int32).toInt = 1 := by decide +kernel
  have hk_2 : (2 : Int32).toInt = 2 := by decide +kernel
  have hk_160 : (160 : Int32).toInt = 160 := by decide +kernel
  have hkl_0 : (0 : Int64).toInt = 0 := by decide +kernel
  have hkl_1000000 : (1000000 : Int64).toInt = 1000000 := by decide +kernel
  refine z_start2z (own := RX12) (by decide) (Nat.le_of_ble_eq_true rfl) rfl ?_
  intro p e s m args below meth c A ls Q hx hb hml hts hown hK hE hT hP hD hS hA hl hret
  have hl : lv_has ls 7 [(0, .ref h0)] := hl
  refine lv_lconst (v := 0) hx hb dX12_shareOut_0 (by decide) ?_
  refine lv_lstore_n (lv' := [(1, .long 0), (0, .ref h0)]) hx hb dX12_shareOut_1 rfl hl (by decide) rfl (fun ls hl => ?_)
  refine lv_iconst (v := 0) hx hb dX12_shareOut_2 (by decide) ?_
  refine lv_istore_n (lv' := [(3, .int 0), (1, .long 0), (0, .ref h0)]) hx hb dX12_shareOut_3 rfl hl (by decide) rfl (fun ls hl => ?_)
  refine lv_iconst (v := 0) hx hb dX12_shareOut_4 (by decide) ?_
  refine lv_istore (lv' := [(4, .int 0), (3, .int 0), (1, .long 0), (0, .ref h0)]) hx hb dX12_shareOut_5 hl (by decide) rfl (fun ls hl => ?_)
  have hlp_331 : ∀ (n : Nat) (v_315 : Int64) (v_316 : Int32) (v_317 : Int32) (H : Heap) (locs : List Loc) (ls : Array Slot), (2147483647 - v_317.toInt).toNat < n → (0 ≤ v_316.toInt ∧ v_316.toInt ≤ 19) → (0 ≤ v_317.toInt ∧ v_317.toInt ≤ 20) → va_P G vwCl [(h0, .inr (12, [.int m_status, .int m_thrown, .long m_above, .long m_under, .ref a_traySort, .ref a_trayMany, .ref a_numbers, .ref a_tape, .int m_taped, .int m_textEnd, .int m_faultKind, .int m_faultAt, .int m_bad, .int m_badAt, .int m_token, .int m_at, .int m_behind, .int m_number, .int m_letters, .long m_word, .ref a_c, .ref a_words, .int m_markMany, .ref a_there, .ref a_tried, .ref a_best, .ref a_found, .int m_thereMany, .int m_foundMany, .int m_orderHow, .int m_orderRing, .int m_orderMany, .int m_hasBest, .long m_bestTop, .long m_bestBy, .ref a_weights, .ref a_shared, .int m_random, .int m_truePlace, .int m_trueWay, .int m_seconds, .int m_done, .int m_feelings, .int m_tries, .int m_leftOver, .int m_playDoor, .int m_playRing, .int m_isOpen, .int m_isOver, .int m_wasTried, .int m_hasPlayed, .ref a_feltNow, .ref a_last, .ref a_kept, .int m_hasSeconds, .int m_hasTurned, .int m_hasRound, .ref a_hasFeels, .ref a_isOn, .int m_firstAct, .long m_meanTop, .long m_meanBy, .ref a_order, .int m_rowMany, .int m_newSteps])), (a_c, .inl (cA.1 0, 1825, .inl g_c)), (a_shared, .inl (cA.1 1, 20, .inr (.inl g_shared)))] H → va_D A [(h0, .inr (12, [.int m_status, .int m_thrown, .long m_above, .long m_under, .ref a_traySort, .ref a_trayMany, .ref a_numbers, .ref a_tape, .int m_taped, .int m_textEnd, .int m_faultKind, .int m_faultAt, .int m_bad, .int m_badAt, .int m_token, .int m_at, .int m_behind, .int m_number, .int m_letters, .long m_word, .ref a_c, .ref a_words, .int m_markMany, .ref a_there, .ref a_tried, .ref a_best, .ref a_found, .int m_thereMany, .int m_foundMany, .int m_orderHow, .int m_orderRing, .int m_orderMany, .int m_hasBest, .long m_bestTop, .long m_bestBy, .ref a_weights, .ref a_shared, .int m_random, .int m_truePlace, .int m_trueWay, .int m_seconds, .int m_done, .int m_feelings, .int m_tries, .int m_leftOver, .int m_playDoor, .int m_playRing, .int m_isOpen, .int m_isOver, .int m_wasTried, .int m_hasPlayed, .ref a_feltNow, .ref a_last, .ref a_kept, .int m_hasSeconds, .int m_hasTurned, .int m_hasRound, .ref a_hasFeels, .ref a_isOn, .int m_firstAct, .long m_meanTop, .long m_meanBy, .ref a_order, .int m_rowMany, .int m_newSteps])), (a_c, .inl (cA.1 0, 1825, .inl g_c)), (a_shared, .inl (cA.1 1, 20, .inr (.inl g_shared)))] → va_S A s.heap H locs → lv_has ls 7 [(0, .ref h0), (1, .long v_315), (3, .int v_316), (4, .int v_317)] → W p l e ({ frames := 0, cells := 0, slots := 0, locals := 0 }) s m args below meth c H locs 0 0 Q (F0 m 7 ls []) := by
    intro n
    induction n with
    | zero =>
      intro v_315 v_316 v_317 H locs ls hmu_hlp_331 hr_v_316 hr_v_317 hP hD hS hl
      exact absurd hmu_hlp_331 (Nat.not_lt_zero _)
    | succ n ih_332 =>
      intro v_315 v_316 v_317 H locs ls hmu_hlp_331 hr_v_316 hr_v_317 hP hD hS hl
      refine lv_iload hx hb dX12_shareOut_7 (lv_at hl 3 rfl) ?_
      refine lv_iconst (v := 2) hx hb dX12_shareOut_9 (by decide) ?_
      refine lv_aload_n hx hb dX12_shareOut_10 rfl (lv_at hl 0 rfl) ?_
      refine va_get (D := G) (ci := 12) (v := .int m_thereMany) (C := RX12) (T := TX12) (N := 65) hx hb hts inT12 hown hK hP 0 rfl rfl 27 (by decide) (hts _ tw_1912) (fun _ h9 => h9) rfl dX12_shareOut_11 ?_
      refine lv_imul hx hb dX12_shareOut_14 ?_
      refine lv_topi (fun x_333 he_x_333 => ?_)
      have hq_x_333 := z_mulq he_x_333 hk_2 (rfl : m_thereMany.toInt = _) (by omega) (by omega)
      refine lv_icmp_ge (tgt := 54) hx hb dX12_shareOut_15 (by decide) (fun c_334 => ?_) (fun c_334 => ?_)
      · have b_335 := z_fgeT c_334
        refine lv_lload_n hx hb dX12_shareOut_54 rfl (lv_at hl 1 rfl) ?_
        refine lv_lconst (v := 0) hx hb dX12_shareOut_55 (by decide) ?_
        refine W.lcmp hx hb dX12_shareOut_56 ?_
        refine lv_if_ne (tgt := 62) hx hb dX12_shareOut_57 (by decide) (fun c_336 => ?_) (fun c_336 => ?_)
        · have b_337 := z_fneTl c_336
          refine lv_ldc2 (v := 1000000) hx hb hown (hts _ tw_2374) dX12_shareOut_62 ?_
          refine lv_lstore (lv' := [(4, .long 1000000), (0, .ref h0), (1, .long v_315), (3, .int v_316)]) hx hb dX12_shareOut_65 hl (by decide) rfl (fun ls hl => ?_)
          refine lv_iconst (v := 0) hx hb dX12_shareOut_67 (by decide) ?_
          refine lv_istore (lv' := [(6, .int 0), (4, .long 1000000), (0, .ref h0), (1, .long v_315), (3, .int v_316)]) hx hb dX12_shareOut_68 hl (by decide) rfl (fun ls hl => ?_)
          have hlp_732 : ∀ (n : Nat) (v_712 : Int64) (v_713 : Int32) (g_714 : Nat → Int32) (H : Heap) (locs : List Loc) (ls : Array Slot), (2147483647 - v_713.toInt).toNat < n → (0 ≤ v_713.toInt ∧ v_713.toInt ≤ 20) → (zC g_714) → (zPF g_c g_714) → va_P G vwCl [(h0, .inr (12, [.int m_status, .int m_thrown, .long m_above, .long m_under, .ref a_traySort, .ref a_trayMany, .ref a_numbers, .ref a_tape, .int m_taped, .int m_textEnd, .int m_faultKind, .int m_faultAt, .int m_bad, .int m_badAt, .int m_token, .int m_at, .int m_behind, .int m_number, .int m_letters, .long m_word, .ref a_c, .ref a_words, .int m_markMany, .ref a_there, .ref a_tried, .ref a_best, .ref a_found, .int m_thereMany, .int m_foundMany, .int m_orderHow, .int m_orderRing, .int m_orderMany, .int m_hasBest, .long m_bestTop, .long m_bestBy, .ref a_weights, .ref a_shared, .int m_random, .int m_truePlace, .int m_trueWay, .int m_seconds, .int m_done, .int m_feelings, .int m_tries, .int m_leftOver, .int m_playDoor, .int m_playRing, .int m_isOpen, .int m_isOver, .int m_wasTried, .int m_hasPlayed, .ref a_feltNow, .ref a_last, .ref a_kept, .int m_hasSeconds, .int m_hasTurned, .int m_hasRound, .ref a_hasFeels, .ref a_isOn, .int m_firstAct, .long m_meanTop, .long m_meanBy, .ref a_order, .int m_rowMany, .int m_newSteps])), (a_c, .inl (cA.1 0, 1825, .inl g_714)), (a_shared, .inl (cA.1 1, 20, .inr (.inl g_shared)))] H → va_D A [(h0, .inr (12, [.int m_status, .int m_thrown, .long m_above, .long m_under, .ref a_traySort, .ref a_trayMany, .ref a_numbers, .ref a_tape, .int m_taped, .int m_textEnd, .int m_faultKind, .int m_faultAt, .int m_bad, .int m_badAt, .int m_token, .int m_at, .int m_behind, .int m_number, .int m_letters, .long m_word, .ref a_c, .ref a_words, .int m_markMany, .ref a_there, .ref a_tried, .ref a_best, .ref a_found, .int m_thereMany, .int m_foundMany, .int m_orderHow, .int m_orderRing, .int m_orderMany, .int m_hasBest, .long m_bestTop, .long m_bestBy, .ref a_weights, .ref a_shared, .int m_random, .int m_truePlace, .int m_trueWay, .int m_seconds, .int m_done, .int m_feelings, .int m_tries, .int m_leftOver, .int m_playDoor, .int m_playRing, .int m_isOpen, .int m_isOver, .int m_wasTried, .int m_hasPlayed, .ref a_feltNow, .ref a_last, .ref a_kept, .int m_hasSeconds, .int m_hasTurned, .int m_hasRound, .ref a_hasFeels, .ref a_isOn, .int m_firstAct, .long m_meanTop, .long m_meanBy, .ref a_order, .int m_rowMany, .int m_newSteps])), (a_c, .inl (cA.1 0, 1825, .inl g_714)), (a_shared, .inl (cA.1 1, 20, .inr (.inl g_shared)))] → va_S A s.heap H locs → lv_has ls 7 [(0, .ref h0), (1, .long v_315), (3, .int v_316), (4, .long v_712), (6, .int v_713)] → W p l e ({ frames := 0, cells := 0, slots := 0, locals := 0 }) s m args below meth c H locs 0 0 Q (F0 m 70 ls []) := by
            intro n
            induction n with
            | zero =>
              intro v_712 v_713 g_714 H locs ls hmu_hlp_732 hr_v_713 hC_g_714 hs_731 hP hD hS hl
              exact absurd hmu_hlp_732 (Nat.not_lt_zero _)
            | succ n ih_733 =>
              intro v_712 v_713 g_714 H locs ls hmu_hlp_732 hr_v_713 hC_g_714 hs_731 hP hD hS hl
              refine lv_iload hx hb dX12_shareOut_70 (lv_at hl 4 rfl) ?_
              refine lv_iconst (v := 2) hx hb dX12_shareOut_72 (by decide) ?_
              refine lv_aload_n hx hb dX12_shareOut_73 rfl (lv_at hl 0 rfl) ?_
              refine va_get (D := G) (ci := 12) (v := .int m_thereMany) (C := RX12) (T := TX12) (N := 65) hx hb hts inT12 hown hK hP 0 rfl rfl 27 (by decide) (hts _ tw_1912) (fun _ h9 => h9) rfl dX12_shareOut_74 ?_
              refine lv_imul hx hb dX12_shareOut_77 ?_
              refine lv_topi (fun x_734 he_x_734 => ?_)
              have hq_x_734 := z_mulq he_x_734 hk_2 (rfl : m_thereMany.toInt = _) (by omega) (by omega)
              refine lv_icmp_ge (tgt := 129) hx hb dX12_shareOut_78 (by decide) (fun c_735 => ?_) (fun c_735 => ?_)
              · have b_736 := z_fgeT c_735
                refine lv_aload_n hx hb dX12_shareOut_129 rfl (lv_at hl 0 rfl) ?_
                refine va_get (D := G) (ci := 12) (v := .ref a_c) (C := RX12) (T := TX12) (N := 65) hx hb hts inT12 hown hK hP 0 rfl rfl 20 (by decide) (hts _ tw_1905) (fun _ h9 => h9) rfl dX12_shareOut_130 ?_
                refine lv_sipush (v := 160) hx hb dX12_shareOut_133 (by decide) ?_
                refine lv_iload_n hx hb dX12_shareOut_136 rfl (lv_at hl 2 rfl) ?_
                refine lv_iadd hx hb dX12_shareOut_137 ?_
                refine lv_topi (fun x_737 he_x_737 => ?_)
                have hq_x_737 := z_addq he_x_737 hk_160 (rfl : v_316.toInt = _) (by omega) (by omega)
                refine lv_dup2_11 hx hb dX12_shareOut_138 rfl rfl ?_
                refine va_iald hx hb hK hP 1 0 rfl rfl (z_inN (by omega) (by omega)) dX12_shareOut_139 ?_
                refine lv_topi (fun x_738 he_x_738 => ?_)
                refine lv_lload hx hb dX12_shareOut_140 (lv_at hl 3 rfl) ?_
                refine lv_l2i (v := (v_712).toInt32) hx hb dX12_shareOut_142 rfl ?_
                refine lv_topi (fun x_739 he_x_739 => ?_)
                refine lv_iadd hx hb dX12_shareOut_143 ?_
                have hL_x_738 := z_full x_738
                have hL_x_739 := z_full x_739
                refine lv_topi (fun x_740 he_x_740 => ?_)
                refine z_iast hx hb hK hP hD hS 1 0 rfl rfl (z_inN (by omega) (by omega)) dX12_shareOut_144 (fun g_741 hg_g_741 H locs hP hD hS => ?_)
                have hC_g_741 := z_ctU hC_g_714 hg_g_741 (a := 160) (b := 179) (lo := (-2147483648)) (hi := 2147483647) (by decide +kernel) (by decide +kernel) (by omega) (by omega) (z_full _)
                have hs_742 : zPF g_c g_741 := (zPF_upd hs_731 hg_g_741 (by omega) (by omega))
                refine lv_iconst (v := 1) hx hb dX12_shareOut_145 (by decide) ?_
                have hpost : ((1 : Int32) = 0 ∧ (zC g_741) ∧ (zPF g_c g_741)) ∨ ((1 : Int32) = 1 ∧ (zC g_741) ∧ (zPF g_c g_741)) := (Or.inr ⟨rfl, ⟨hC_g_741, hs_742⟩⟩)
                exact hret _ _ _ _ _ _ g_741 [0, 1, 2] hP hD hS rfl (by decide) dX12_shareOut_146 (Or.inr rfl) hpost
              · have b_743 := z_fltF c_735
                refine lv_aload_n hx hb dX12_shareOut_81 rfl (lv_at hl 0 rfl) ?_
                refine va_get (D := G) (ci := 12) (v := .ref a_c) (C := RX12) (T := TX12) (N := 65) hx hb hts inT12 hown hK hP 0 rfl rfl 20 (by decide) (hts _ tw_1905) (fun _ h9 => h9) rfl dX12_shareOut_82 ?_
                refine lv_sipush (v := 160) hx hb dX12_shareOut_85 (by decide) ?_
                refine lv_iload hx hb dX12_shareOut_88 (lv_at hl 4 rfl) ?_
                refine lv_iadd hx hb dX12_shareOut_90 ?_
                refine lv_topi (fun x_744 he_x_744 => ?_)
                have hq_x_744 := z_addq he_x_744 hk_160 (rfl : v_713.toInt = _) (by omega) (by omega)
                refine lv_aload_n hx hb dX12_shareOut_91 rfl (lv_at hl 0 rfl) ?_
                refine va_get (D := G) (ci := 12) (v := .ref a_shared) (C := RX12) (T := TX12) (N := 65) hx hb hts inT12 hown hK hP 0 rfl rfl 36 (by decide) (hts _ tw_1920) (fun _ h9 => h9) rfl dX12_shareOut_92 ?_
                refine lv_iload hx hb dX12_shareOut_95 (lv_at hl 4 rfl) ?_
                refine va_lald hx hb hK hP 2 1 rfl rfl (z_inN (by omega) (by omega)) dX12_shareOut_97 ?_
                refine lv_topl (fun x_745 he_x_745 => ?_)
                refine lv_ldc2 (v := 1000000) hx hb hown (hts _ tw_2374) dX12_shareOut_98 ?_
                refine lv_lmul hx hb dX12_shareOut_101 ?_
                have hL_x_745 := z_fulll x_745
                refine lv_topl (fun x_746 he_x_746 => ?_)
                refine lv_lload_n hx hb dX12_shareOut_102 rfl (lv_at hl 1 rfl) ?_
                refine lv_ldiv hx hb dX12_shareOut_103 (z_nzl (by omega)) ?_
                have hL_x_746 := z_fulll x_746
                have hL_v_315 := z_fulll v_315
                refine lv_topl (fun x_747 he_x_747 => ?_)
                refine lv_l2i (v := (x_747).toInt32) hx hb dX12_shareOut_104 rfl ?_
                refine lv_topi (fun x_748 he_x_748 => ?_)
                refine z_iast hx hb hK hP hD hS 1 0 rfl rfl (z_inN (by omega) (by omega)) dX12_shareOut_105 (fun g_749 hg_g_749 H locs hP hD hS => ?_)
                have hC_g_749 := z_ctU hC_g_714 hg_g_749 (a := 160) (b := 179) (lo := (-2147483648)) (hi := 2147483647) (by decide +kernel) (by decide +kernel) (by omega) (by omega) (z_full _)
                have hs_750 : zPF g_c g_749 := (zPF_upd hs_731 hg_g_749 (by omega) (by omega))
                refine lv_lload hx hb dX12_shareOut_106 (lv_at hl 3 rfl) ?_
                refine lv_aload_n hx hb dX12_shareOut_108 rfl (lv_at hl 0 rfl) ?_
                refine va_get (D := G) (ci := 12) (v := .ref a_c) (C := RX12) (T := TX12) (N := 65) hx hb hts inT12 hown hK hP 0 rfl rfl 20 (by decide) (hts _ tw_1905) (fun _ h9 => h9) rfl dX12_shareOut_109 ?_
                refine lv_sipush (v := 160) hx hb dX12_shareOut_112 (by decide) ?_
                refine lv_iload hx hb dX12_shareOut_115 (lv_at hl 4 rfl) ?_
                refine lv_iadd hx hb dX12_shareOut_117 ?_
                refine lv_topi (fun x_751 he_x_751 => ?_)
                have hq_x_751 := z_addq he_x_751 hk_160 (rfl : v_713.toInt = _) (by omega) (by omega)
                refine va_iald hx hb hK hP 1 0 rfl rfl (z_inN (by omega) (by omega)) dX12_shareOut_118 ?_
                refine lv_topi (fun x_752 he_x_752 => ?_)
                refine lv_i2l (v := (x_752).toInt64) hx hb dX12_shareOut_119 rfl ?_
                refine lv_topl (fun x_753 he_x_753 => ?_)
                have hq_x_753 := z_i2l he_x_753
                have hL_x_752 := z_full x_752
                refine lv_lsub hx hb dX12_shareOut_120 ?_
                have hL_v_712 := z_fulll v_712
                refine lv_topl (fun x_754 he_x_754 => ?_)
                refine lv_lstore (lv' := [(4, .long x_754), (0, .ref h0), (1, .long v_315), (3, .int v_316), (6, .int v_713)]) hx hb dX12_shareOut_121 hl (by decide) rfl (fun ls hl => ?_)
                obtain ⟨x_755, he_x_755⟩ : ∃ z : Int32, z = v_713 + 1 := ⟨_, rfl⟩
                have hq_x_755 := z_addq he_x_755 (rfl : v_713.toInt = _) hk_1 (by omega) (by omega)
                refine lv_iinc (v := x_755) (lv' := [(6, .int x_755), (4, .long x_754), (0, .ref h0), (1, .long v_315), (3, .int v_316)]) hx hb dX12_shareOut_123 hl (k := 4) rfl ((z_ofi (by decide +kernel)).trans he_x_755.symm) (by decide) rfl (fun ls hl => ?_)
                refine lv_goto (tgt := 70) hx hb dX12_shareOut_126 (by decide) ?_
                exact ih_733 x_754 x_755 g_749 H locs ls (by omega) (by omega) hC_g_749 hs_750 hP hD hS (lv_sub hl [2, 3, 4, 1, 0] rfl)
          exact hlp_732 _ 1000000 0 g_c _ _ _ (Nat.lt_succ_self _) (by decide +kernel) hC_g_c (zPF_refl g_c) hP hD hS (lv_sub hl [2, 3, 4, 1, 0] rfl)
        · have b_756 := z_feqFl c_336
          refine lv_iconst (v := 0) hx hb dX12_shareOut_60 (by decide) ?_
          have hpost : ((0 : Int32) = 0 ∧ (zC g_c) ∧ (zPF g_c g_c)) ∨ ((0 : Int32) = 1 ∧ (zC g_c) ∧ (zPF g_c g_c)) := (Or.inl ⟨rfl, ⟨hC_g_c, (zPF_refl g_c)⟩⟩)
          exact hret _ _ _ _ _ _ g_c [0, 1, 2] hP hD hS rfl (by decide) dX12_shareOut_61 (Or.inl rfl) hpost
      · have b_757 := z_fltF c_334
        refine lv_lload_n hx hb dX12_shareOut_18 rfl (lv_at hl 1 rfl) ?_
        refine lv_aload_n hx hb dX12_shareOut_19 rfl (lv_at hl 0 rfl) ?_
        refine va_get (D := G) (ci := 12) (v := .ref a_shared) (C := RX12) (T := TX12) (N := 65) hx hb hts inT12 hown hK hP 0 rfl rfl 36 (by decide) (hts _ tw_1920) (fun _ h9 => h9) rfl dX12_shareOut_20 ?_
        refine lv_iload hx hb dX12_shareOut_23 (lv_at hl 3 rfl) ?_
        refine va_lald hx hb hK hP 2 1 rfl rfl (z_inN (by omega) (by omega)) dX12_shareOut_25 ?_
        refine lv_topl (fun x_758 he_x_758 => ?_)
        refine lv_ladd hx hb dX12_shareOut_26 ?_
        have hL_v_315 := z_fulll v_315
        have hL_x_758 := z_fulll x_758
        refine lv_topl (fun x_759 he_x_759 => ?_)
        refine lv_lstore_n (lv' := [(1, .long x_759), (0, .ref h0), (3, .int v_316), (4, .int v_317)]) hx hb dX12_shareOut_27 rfl hl (by decide) rfl (fun ls hl => ?_)
        refine lv_aload_n hx hb dX12_shareOut_28 rfl (lv_at hl 1 rfl) ?_
        refine va_get (D := G) (ci := 12) (v := .ref a_shared) (C := RX12) (T := TX12) (N := 65) hx hb hts inT12 hown hK hP 0 rfl rfl 36 (by decide) (hts _ tw_1920) (fun _ h9 => h9) rfl dX12_shareOut_29 ?_
        refine lv_iload hx hb dX12_shareOut_32 (lv_at hl 3 rfl) ?_
        refine va_lald hx hb hK hP 2 1 rfl rfl (z_inN (by omega) (by omega)) dX12_shareOut_34 ?_
        refine lv_topl (fun x_760 he_x_760 => ?_)
        refine lv_aload_n hx hb dX12_shareOut_35 rfl (lv_at hl 1 rfl) ?_
        refine va_get (D := G) (ci := 12) (v := .ref a_shared) (C := RX12) (T := TX12) (N := 65) hx hb hts inT12 hown hK hP 0 rfl rfl 36 (by decide) (hts _ tw_1920) (fun _ h9 => h9) rfl dX12_shareOut_36 ?_
        refine lv_iload_n hx hb dX12_shareOut_39 rfl (lv_at hl 2 rfl) ?_
        refine va_lald hx hb hK hP 2 1 rfl rfl (z_inN (by omega) (by omega)) dX12_shareOut_40 ?_
        refine lv_topl (fun x_761 he_x_761 => ?_)
        refine W.lcmp hx hb dX12_shareOut_41 ?_
        refine lv_if_le (tgt := 48) hx hb dX12_shareOut_42 (by decide) (fun c_762 => ?_) (fun c_762 => ?_)
        · have b_763 := z_fleTl c_762
          obtain ⟨x_764, he_x_764⟩ : ∃ z : Int32, z = v_317 + 1 := ⟨_, rfl⟩
          have hq_x_764 := z_addq he_x_764 (rfl : v_317.toInt = _) hk_1 (by omega) (by omega)
          refine lv_iinc (v := x_764) (lv' := [(4, .int x_764), (1, .long x_759), (0, .ref h0), (3, .int v_316)]) hx hb dX12_shareOut_48 hl (k := 3) rfl ((z_ofi (by decide +kernel)).trans he_x_764.symm) (by decide) rfl (fun ls hl => ?_)
          refine lv_goto (tgt := 7) hx hb dX12_shareOut_51 (by decide) ?_
          exact ih_332 x_759 v_316 x_764 H locs ls (by omega) hr_v_316 (by omega) hP hD hS (lv_sub hl [2, 1, 3, 0] rfl)
        · have b_765 := z_fgtFl c_762
          refine lv_iload hx hb dX12_shareOut_45 (lv_at hl 3 rfl) ?_
          refine lv_istore_n (lv' := [(3, .int v_317), (1, .long x_759), (0, .ref h0), (4, .int v_317)]) hx hb dX12_shareOut_47 rfl hl (by decide) rfl (fun ls hl => ?_)
          obtain ⟨x_766, he_x_766⟩ : ∃ z : Int32, z = v_317 + 1 := ⟨_, rfl⟩
          have hq_x_766 := z_addq he_x_766 (rfl : v_317.toInt = _) hk_1 (by omega) (by omega)
          refine lv_iinc (v := x_766) (lv' := [(4, .int x_766), (3, .int v_317), (1, .long x_759), (0, .ref h0)]) hx hb dX12_shareOut_48 hl (k := 3) rfl ((z_ofi (by decide +kernel)).trans he_x_766.symm) (by decide) rfl (fun ls hl => ?_)
          refine lv_goto (tgt := 7) hx hb dX12_shareOut_51 (by decide) ?_
          exact ih_332 x_759 v_317 x_766 H locs ls (by omega) (by omega) (by omega) hP hD hS (lv_sub hl [3, 2, 1, 0] rfl)
  exact hlp_331 _ 0 0 0 _ _ _ (Nat.lt_succ_self _) (by decide +kernel) (by decide +kernel) hP hD hS (lv_sub hl [3, 2, 1, 0] rfl)
set_option maxHeartbeats 4000000 in
set_option maxRecDepth 100000 in
theorem r_beginThought (l : Launch) (G : va_G) (cA : zCA) (h0 : Nat) (m_status : Int32) (m_thrown : Int32) (m_above : Int64) (m_under : Int64) (a_traySort : Nat) (a_trayMany : Nat) (a_numbers : Nat) (a_tape : Nat) (m_taped : Int32) (m_textEnd : Int32) (m_faultKind : Int32) (m_faultAt : Int32) (m_bad : Int32) (m_badAt : Int32) (m_token : Int32) (m_at : Int32) (m_behind : Int32) (m_number : Int32) (m_letters : Int32) (m_word : Int64) (a_c : Nat) (a_words : Nat) (m_markMany : Int32) (a_there : Nat) (a_tried : Nat) (a_best : Nat) (a_found : Nat) (m_thereMany : Int32) (m_foundMany : Int32) (m_orderHow : Int32) (m_orderRing : Int32) (m_orderMany : Int32) (m_hasBest : Int32) (m_bestTop : Int64) (m_bestBy : Int64) (a_weights : Nat) (a_shared : Nat) (m_random : Int32) (m_truePlace : Int32) (m_trueWay : Int32) (m_seconds : Int32) (m_done : Int32) (m_feelings : Int32) (m_tries : Int32) (m_leftOver : Int32) (m_playDoor : Int32) (m_playRing : Int32) (m_isOpen : Int32) (m_isOver : Int32) (m_wasTried : Int32) (m_hasPlayed : Int32) (a_feltNow : Nat) (a_last : Nat) (a_kept : Nat) (m_hasSeconds : Int32) (m_hasTurned : Int32) (m_hasRound : Int32) (a_hasFeels : Nat) (a_isOn : Nat) (m_firstAct : Int32) (m_meanTop : Int64) (m_meanBy : Int64) (a_order : Nat) (m_rowMany : Int32) (m_newSteps : Int32) (g_c : Nat → Int32) (g_shared : Nat → Int64) (hr_m_thereMany : 0 ≤ m_thereMany.toInt ∧ m_thereMany.toInt ≤ 10) (hC_g_c : zC g_c) : zCv l yX12_beginThought cX12_beginThought 2 none ({ frames := 1, cells := 0, slots := 0, locals := 26 }) G cA [.ref h0] [(h0, .inr (12, [.int m_status, .int m_thrown, .long m_above, .long m_under, .ref a_traySort, .ref a_trayMany, .ref a_numbers, .ref a_tape, .int m_taped, .int m_textEnd, .int m_faultKind, .int m_faultAt, .int m_bad, .int m_badAt, .int m_token, .int m_at, .int m_behind, .int m_number, .int m_letters, .long m_word, .ref a_c, .ref a_words, .int m_markMany, .ref a_there, .ref a_tried, .ref a_best, .ref a_found, .int m_thereMany, .int m_foundMany, .int m_orderHow, .int m_orderRing, .int m_orderMany, .int m_hasBest, .long m_bestTop, .long m_bestBy, .ref a_weights, .ref a_shared, .int m_random, .int m_truePlace, .int m_trueWay, .int m_seconds, .int m_done, .int m_feelings, .int m_tries, .int m_leftOver, .int m_playDoor, .int m_playRing, .int m_isOpen, .int m_isOver, .int m_wasTried, .int m_hasPlayed, .ref a_feltNow, .ref a_last, .ref a_kept, .int m_hasSeconds, .int m_hasTurned, .int m_hasRound, .ref a_hasFeels, .ref a_isOn, .int m_firstAct, .long m_meanTop, .long m_meanBy, .ref a_order, .int m_rowMany, .int m_newSteps])), (a_c, .inl (cA.1 0, 1825, .inl g_c)), (a_shared, .inl (cA.1 1, 20, .inr (.inl g_shared)))] (S := (Nat → Int32) × (Nat → Int64)) (fun (u : (Nat → Int32) × (Nat → Int64)) => (zC u.1) ∧ (zPF g_c u.1)) (fun (u : (Nat → Int32) × (Nat → Int64)) => [(h0, .inr (12, [.int m_status, .int m_thrown, .long m_above, .long m_under, .ref a_traySort, .ref a_trayMany, .ref a_numbers, .ref a_tape, .int m_taped, .int m_textEnd, .int m_faultKind, .int m_faultAt, .int m_bad, .int m_badAt, .int m_token, .int m_at, .int m_behind, .int m_number, .int m_letters, .long m_word, .ref a_c, .ref a_words, .int m_markMany, .ref a_there, .ref a_tried, .ref a_best, .ref a_found, .int m_thereMany, .int m_foundMany, .int m_orderHow, .int m_orderRing, .int m_orderMany, .int m_hasBest, .long m_bestTop, .long m_bestBy, .ref a_weights, .ref a_shared, .int m_random, .int m_truePlace, .int m_trueWay, .int m_seconds, .int m_done, .int m_feelings, .int m_tries, .int m_leftOver, .int m_playDoor, .int m_playRing, .int m_isOpen, .int m_isOver, .int m_wasTried, .int m_hasPlayed, .ref a_feltNow, .ref a_last, .ref a_kept, .int m_hasSeconds, .int m_hasTurned, .int m_hasRound, .ref a_hasFeels, .ref a_isOn, .int m_firstAct, .long m_meanTop, .long m_meanBy, .ref a_order, .int m_rowMany, .int m_newSteps])), (a_c, .inl (cA.1 0, 1825, .inl u.1)), (a_shared, .inl (cA.1 1, 20, .inr (.inl u.2)))]) 0 0 := by
  have hk_0 : (0 : Int32).toInt = 0 := by decide +kernel
  have hk_1 : (1 : Int32).toInt = 1 := by decide +kernel
  have hk_2 : (2 : Int32).toInt = 2 := by decide +kernel
  have hk_16 : (16 : Int32).toInt = 16 := by decide +kernel
  refine z_start2v (own := RX12) (by decide) (Nat.le_of_ble_eq_true rfl) rfl ?_
  intro p e s m args below meth c A ls Q hx hb hml hts hown hK hE hT hP hD hS hA hl hret
  have hl : lv_has ls 2 [(0, .ref h0)] := hl
  refine lv_iconst (v := 0) hx hb dX12_beginThought_0 (by decide) ?_
  refine lv_istore_n (lv' := [(1, .int 0), (0, .ref h0)]) hx hb dX12_beginThought_1 rfl hl (by decide) rfl (fun ls hl => ?_)
  have hlp_389 : ∀ (n : Nat) (v_370 : Int32) (g_371 : Nat → Int64) (H : Heap) (locs : List Loc) (ls : Array Slot), (2147483647 - v_370.toInt).toNat < n → (0 ≤ v_370.toInt ∧ v_370.toInt ≤ 20) → va_P G vwCl [(h0, .inr (12, [.int m_status, .int m_thrown, .long m_above, .long m_under, .ref a_traySort, .ref a_trayMany, .ref a_numbers, .ref a_tape, .int m_taped, .int m_textEnd, .int m_faultKind, .int m_faultAt, .int m_bad, .int m_badAt, .int m_token, .int m_at, .int m_behind, .int m_number, .int m_letters, .long m_word, .ref a_c, .ref a_words, .int m_markMany, .ref a_there, .ref a_tried, .ref a_best, .ref a_found, .int m_thereMany, .int m_foundMany, .int m_orderHow, .int m_orderRing, .int m_orderMany, .int m_hasBest, .long m_bestTop, .long m_bestBy, .ref a_weights, .ref a_shared, .int m_random, .int m_truePlace, .int m_trueWay, .int m_seconds, .int m_done, .int m_feelings, .int m_tries, .int m_leftOver, .int m_playDoor, .int m_playRing, .int m_isOpen, .int m_isOver, .int m_wasTried, .int m_hasPlayed, .ref a_feltNow, .ref a_last, .ref a_kept, .int m_hasSeconds, .int m_hasTurned, .int m_hasRound, .ref a_hasFeels, .ref a_isOn, .int m_firstAct, .long m_meanTop, .long m_meanBy, .ref a_order, .int m_rowMany, .int m_newSteps])), (a_c, .inl (cA.1 0, 1825, .inl g_c)), (a_shared, .inl (cA.1 1, 20, .inr (.inl g_371)))] H → va_D A [(h0, .inr (12, [.int m_status, .int m_thrown, .long m_above, .long m_under, .ref a_traySort, .ref a_trayMany, .ref a_numbers, .ref a_tape, .int m_taped, .int m_textEnd, .int m_faultKind, .int m_faultAt, .int m_bad, .int m_badAt, .int m_token, .int m_at, .int m_behind, .int m_number, .int m_letters, .long m_word, .ref a_c, .ref a_words, .int m_markMany, .ref a_there, .ref a_tried, .ref a_best, .ref a_found, .int m_thereMany, .int m_foundMany, .int m_orderHow, .int m_orderRing, .int m_orderMany, .int m_hasBest, .long m_bestTop, .long m_bestBy, .ref a_weights, .ref a_shared, .int m_random, .int m_truePlace, .int m_trueWay, .int m_seconds, .int m_done, .int m_feelings, .int m_tries, .int m_leftOver, .int m_playDoor, .int m_playRing, .int m_isOpen, .int m_isOver, .int m_wasTried, .int m_hasPlayed, .ref a_feltNow, .ref a_last, .ref a_kept, .int m_hasSeconds, .int m_hasTurned, .int m_hasRound, .ref a_hasFeels, .ref a_isOn, .int m_firstAct, .long m_meanTop, .long m_meanBy, .ref a_order, .int m_rowMany, .int m_newSteps])), (a_c, .inl (cA.1 0, 1825, .inl g_c)), (a_shared, .inl (cA.1 1, 20, .inr (.inl g_371)))] → va_S A s.heap H locs → lv_has ls 2 [(0, .ref h0), (1, .int v_370)] → W p l e ({ frames := 1, cells := 0, slots := 0, locals := 26 }) s m args below meth c H locs 0 0 Q (F0 m 2 ls []) := by
    intro n
    induction n with
    | zero =>
      intro v_370 g_371 H locs ls hmu_hlp_389 hr_v_370 hP hD hS hl
      exact absurd hmu_hlp_389 (Nat.not_lt_zero _)
    | succ n ih_390 =>
      intro v_370 g_371 H locs ls hmu_hlp_389 hr_v_370 hP hD hS hl
      refine lv_iload_n hx hb dX12_beginThought_2 rfl (lv_at hl 1 rfl) ?_
      refine lv_iconst (v := 2) hx hb dX12_beginThought_3 (by decide) ?_
      refine lv_aload_n hx hb dX12_beginThought_4 rfl (lv_at hl 0 rfl) ?_
      refine va_get (D := G) (ci := 12) (v := .int m_thereMany) (C := RX12) (T := TX12) (N := 65) hx hb hts inT12 hown hK hP 0 rfl rfl 27 (by decide) (hts _ tw_1912) (fun _ h9 => h9) rfl dX12_beginThought_5 ?_
      refine lv_imul hx hb dX12_beginThought_8 ?_
      refine lv_topi (fun x_391 he_x_391 => ?_)
      have hq_x_391 := z_mulq he_x_391 hk_2 (rfl : m_thereMany.toInt = _) (by omega) (by omega)
      refine lv_icmp_ge (tgt := 52) hx hb dX12_beginThought_9 (by decide) (fun c_392 => ?_) (fun c_392 => ?_)
      · have b_393 := z_fgeT c_392
        refine lv_aload_n hx hb dX12_beginThought_52 rfl (lv_at hl 0 rfl) ?_
        refine z_callVi (As := []) (rest := []) (wr := []) ⟨hx, hb, hml, hown, hts⟩ hK hE hT hP hD hS hA (r_shareOut l G cA h0 m_status m_thrown m_above m_under a_traySort a_trayMany a_numbers a_tape m_taped m_textEnd m_faultKind m_faultAt m_bad m_badAt m_token m_at m_behind m_number m_letters m_word a_c a_words m_markMany a_there a_tried a_best a_found m_thereMany m_foundMany m_orderHow m_orderRing m_orderMany m_hasBest m_bestTop m_bestBy a_weights a_shared m_random m_truePlace m_trueWay m_seconds m_done m_feelings m_tries m_leftOver m_playDoor m_playRing m_isOpen m_isOver m_wasTried m_hasPlayed a_feltNow a_last a_kept m_hasSeconds m_hasTurned m_hasRound a_hasFeels a_isOn m_firstAct m_meanTop m_meanBy a_order m_rowMany m_newSteps g_c g_371 hr_m_thereMany hC_g_c) lk_RX12_317 ⟨rfl, rfl⟩ ⟨Nat.le_of_ble_eq_true rfl, Nat.le_of_ble_eq_true rfl⟩ 12 rfl rfl rfl [0, 1, 2] [] rfl rfl (by decide) rfl hl.1 rfl (lv_room (Nat.le_of_ble_eq_true rfl)) dX12_beginThought_53 ⟨Nat.le_of_ble_eq_true rfl, Nat.le_of_ble_eq_true rfl⟩ (fun r_395 u_396 H locs hw hP hD hS => ?_)
        obtain ⟨n_394, rfl⟩ : ∃ z, z = u_396 := ⟨_, rfl⟩
        rcases hw with ⟨rfl, hC_n_394, hf_397⟩ | ⟨rfl, hC_n_394, hf_398⟩
        · skip
          have hs_399 : zPF g_c n_394 := (zPF_trans (zPF_refl g_c) hf_397)
          refine lv_pop hx hb dX12_beginThought_56 rfl ?_
          have hpost : (zC n_394) ∧ (zPF g_c n_394) := ⟨hC_n_394, hs_399⟩
          exact hret _ _ _ _ _ (n_394, g_371) [0, 1, 2] hP hD hS rfl (by decide) dX12_beginThought_57 hpost
        · skip
          have hs_400 : zPF g_c n_394 := (zPF_trans (zPF_refl g_c) hf_398)
          refine lv_pop hx hb dX12_beginThought_56 rfl ?_
          have hpost : (zC n_394) ∧ (zPF g_c n_394) := ⟨hC_n_394, hs_400⟩
          exact hret _ _ _ _ _ (n_394, g_371) [0, 1, 2] hP hD hS rfl (by decide) dX12_beginThought_57 hpost
      · have b_401 := z_fltF c_392
        refine lv_aload_n hx hb dX12_beginThought_12 rfl (lv_at hl 0 rfl) ?_
        refine va_get (D := G) (ci := 12) (v := .ref a_shared) (C := RX12) (T := TX12) (N := 65) hx hb hts inT12 hown hK hP 0 rfl rfl 36 (by decide) (hts _ tw_1920) (fun _ h9 => h9) rfl dX12_beginThought_13 ?_
        refine lv_iload_n hx hb dX12_beginThought_16 rfl (lv_at hl 1 rfl) ?_
        refine lv_iload_n hx hb dX12_beginThought_17 rfl (lv_at hl 1 rfl) ?_
        refine lv_iconst (v := 2) hx hb dX12_beginThought_18 (by decide) ?_
        refine lv_irem hx hb dX12_beginThought_19 (by decide +kernel) ?_
        refine lv_topi (fun x_402 he_x_402 => ?_)
        have hq_x_402 := z_remq he_x_402 (rfl : v_370.toInt = _) hk_2 (by omega) (by decide)
        refine lv_if_ne (tgt := 37) hx hb dX12_beginThought_20 (by decide) (fun c_403 => ?_) (fun c_403 => ?_)
        · have b_404 := z_fneT c_403
          refine lv_aload_n hx hb dX12_beginThought_37 rfl (lv_at hl 0 rfl) ?_
          refine va_get (D := G) (ci := 12) (v := .ref a_c) (C := RX12) (T := TX12) (N := 65) hx hb hts inT12 hown hK hP 0 rfl rfl 20 (by decide) (hts _ tw_1905) (fun _ h9 => h9) rfl dX12_beginThought_38 ?_
          refine lv_bipush (v := 9) hx hb dX12_beginThought_41 (by decide) ?_
          refine va_iald hx hb hK hP 1 0 rfl rfl (z_in (i := 9) (n := 1825) (by decide +kernel) (by decide +kernel)) dX12_beginThought_43 ?_
          refine lv_topi (fun x_405 he_x_405 => ?_)
          have hr_x_405 := z_ctk hC_g_c he_x_405 (k := 9) (lo := 0) (hi := 16) (by decide +kernel) (by decide +kernel) (by decide +kernel)
          refine lv_i2l (v := (x_405).toInt64) hx hb dX12_beginThought_44 rfl ?_
          refine lv_topl (fun x_406 he_x_406 => ?_)
          have hq_x_406 := z_i2l he_x_406
          refine z_last hx hb hK hP hD hS 2 1 rfl rfl (z_inN (by omega) (by omega)) dX12_beginThought_45 (fun g_407 hg_g_407 H locs hP hD hS => ?_)
          obtain ⟨x_408, he_x_408⟩ : ∃ z : Int32, z = v_370 + 1 := ⟨_, rfl⟩
          have hq_x_408 := z_addq he_x_408 (rfl : v_370.toInt = _) hk_1 (by omega) (by omega)
          refine lv_iinc (v := x_408) (lv' := [(1, .int x_408), (0, .ref h0)]) hx hb dX12_beginThought_46 hl (k := 1) rfl ((z_ofi (by decide +kernel)).trans he_x_408.symm) (by decide) rfl (fun ls hl => ?_)
          refine lv_goto (tgt := 2) hx hb dX12_beginThought_49 (by decide) ?_
          exact ih_390 x_408 g_407 H locs ls (by omega) (by omega) hP hD hS (lv_sub hl [1, 0] rfl)
        · have b_409 := z_feqF c_403
          refine lv_bipush (v := 16) hx hb dX12_beginThought_23 (by decide) ?_
          refine lv_aload_n hx hb dX12_beginThought_25 rfl (lv_at hl 0 rfl) ?_
          refine va_get (D := G) (ci := 12) (v := .ref a_c) (C := RX12) (T := TX12) (N := 65) hx hb hts inT12 hown hK hP 0 rfl rfl 20 (by decide) (hts _ tw_1905) (fun _ h9 => h9) rfl dX12_beginThought_26 ?_
          refine lv_bipush (v := 9) hx hb dX12_beginThought_29 (by decide) ?_
          refine va_iald hx hb hK hP 1 0 rfl rfl (z_in (i := 9) (n := 1825) (by decide +kernel) (by decide +kernel)) dX12_beginThought_31 ?_
          refine lv_topi (fun x_410 he_x_410 => ?_)
          have hr_x_410 := z_ctk hC_g_c he_x_410 (k := 9) (lo := 0) (hi := 16) (by decide +kernel) (by decide +kernel) (by decide +kernel)
          refine lv_isub hx hb dX12_beginThought_32 ?_
          refine lv_topi (fun x_411 he_x_411 => ?_)
          have hq_x_411 := z_subq he_x_411 hk_16 (rfl : x_410.toInt = _) (by omega) (by omega)
          refine lv_i2l (v := (x_411).toInt64) hx hb dX12_beginThought_33 rfl ?_
          refine lv_topl (fun x_412 he_x_412 => ?_)
          have hq_x_412 := z_i2l he_x_412
          refine lv_goto (tgt := 45) hx hb dX12_beginThought_34 (by decide) ?_
          refine z_last hx hb hK hP hD hS 2 1 rfl rfl (z_inN (by omega) (by omega)) dX12_beginThought_45 (fun g_413 hg_g_413 H locs hP hD hS => ?_)
          obtain ⟨x_414, he_x_414⟩ : ∃ z : Int32, z = v_370 + 1 := ⟨_, rfl⟩
          have hq_x_414 := z_addq he_x_414 (rfl : v_370.toInt = _) hk_1 (by omega) (by omega)
          refine lv_iinc (v := x_414) (lv' := [(1, .int x_414), (0, .ref h0)]) hx hb dX12_beginThought_46 hl (k := 1) rfl ((z_ofi (by decide +kernel)).trans he_x_414.symm) (by decide) rfl (fun ls hl => ?_)
          refine lv_goto (tgt := 2) hx hb dX12_beginThought_49 (by decide) ?_
          exact ih_390 x_414 g_413 H locs ls (by omega) (by omega) hP hD hS (lv_sub hl [1, 0] rfl)
  exact hlp_389 _ 0 g_shared _ _ _ (Nat.lt_succ_self _) (by decide +kernel) hP hD hS (lv_sub hl [1, 0] rfl)
