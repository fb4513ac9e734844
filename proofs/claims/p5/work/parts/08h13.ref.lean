set_option maxHeartbeats 4000000 in
set_option maxRecDepth 100000 in
theorem r_played (l : Launch) (G : va_G) (cA : zCA) (h0 : Nat) (m_status : Int32) (m_thrown : Int32) (m_above : Int64) (m_under : Int64) (a_traySort : Nat) (a_trayMany : Nat) (a_numbers : Nat) (a_tape : Nat) (m_taped : Int32) (m_textEnd : Int32) (m_faultKind : Int32) (m_faultAt : Int32) (m_bad : Int32) (m_badAt : Int32) (m_token : Int32) (m_at : Int32) (m_behind : Int32) (m_number : Int32) (m_letters : Int32) (m_word : Int64) (a_c : Nat) (a_words : Nat) (m_markMany : Int32) (a_there : Nat) (a_tried : Nat) (a_best : Nat) (a_found : Nat) (m_thereMany : Int32) (m_foundMany : Int32) (m_orderHow : Int32) (m_orderRing : Int32) (m_orderMany : Int32) (m_hasBest : Int32) (m_bestTop : Int64) (m_bestBy : Int64) (a_weights : Nat) (a_shared : Nat) (m_random : Int32) (m_truePlace : Int32) (m_trueWay : Int32) (m_seconds : Int32) (m_done : Int32) (m_feelings : Int32) (m_tries : Int32) (m_leftOver : Int32) (m_playDoor : Int32) (m_playRing : Int32) (m_isOpen : Int32) (m_isOver : Int32) (m_wasTried : Int32) (m_hasPlayed : Int32) (a_feltNow : Nat) (a_last : Nat) (a_kept : Nat) (m_hasSeconds : Int32) (m_hasTurned : Int32) (m_hasRound : Int32) (a_hasFeels : Nat) (a_isOn : Nat) (m_firstAct : Int32) (m_meanTop : Int64) (m_meanBy : Int64) (a_order : Nat) (m_rowMany : Int32) (m_newSteps : Int32) (g_last : Nat → Int32) (w : Int32) (hz_m_hasPlayed : m_hasPlayed = 0 ∨ m_hasPlayed = 1) : zCi l yX12_played cX12_played 2 (some .int) ({ frames := 1, cells := 0, slots := 0, locals := 25 }) G cA [.ref h0, .int w] [(h0, .inr (12, [.int m_status, .int m_thrown, .long m_above, .long m_under, .ref a_traySort, .ref a_trayMany, .ref a_numbers, .ref a_tape, .int m_taped, .int m_textEnd, .int m_faultKind, .int m_faultAt, .int m_bad, .int m_badAt, .int m_token, .int m_at, .int m_behind, .int m_number, .int m_letters, .long m_word, .ref a_c, .ref a_words, .int m_markMany, .ref a_there, .ref a_tried, .ref a_best, .ref a_found, .int m_thereMany, .int m_foundMany, .int m_orderHow, .int m_orderRing, .int m_orderMany, .int m_hasBest, .long m_bestTop, .long m_bestBy, .ref a_weights, .ref a_shared, .int m_random, .int m_truePlace, .int m_trueWay, .int m_seconds, .int m_done, .int m_feelings, .int m_tries, .int m_leftOver, .int m_playDoor, .int m_playRing, .int m_isOpen, .int m_isOver, .int m_wasTried, .int m_hasPlayed, .ref a_feltNow, .ref a_last, .ref a_kept, .int m_hasSeconds, .int m_hasTurned, .int m_hasRound, .ref a_hasFeels, .ref a_isOn, .int m_firstAct, .long m_meanTop, .long m_meanBy, .ref a_order, .int m_rowMany, .int m_newSteps])), (a_last, .inl (cA.1 0, 7, .inl g_last))] (S := Int32 × Int32) (fun (r : Int32) (u : Int32 × Int32) => (0 ≤ u.2.toInt ∧ u.2.toInt ≤ 0)) (fun (u : Int32 × Int32) => [(h0, .inr (12, [.int u.1, .int u.2, .long m_above, .long m_under, .ref a_traySort, .ref a_trayMany, .ref a_numbers, .ref a_tape, .int m_taped, .int m_textEnd, .int m_faultKind, .int m_faultAt, .int m_bad, .int m_badAt, .int m_token, .int m_at, .int m_behind, .int m_number, .int m_letters, .long m_word, .ref a_c, .ref a_words, .int m_markMany, .ref a_there, .ref a_tried, .ref a_best, .ref a_found, .int m_thereMany, .int m_foundMany, .int m_orderHow, .int m_orderRing, .int m_orderMany, .int m_hasBest, .long m_bestTop, .long m_bestBy, .ref a_weights, .ref a_shared, .int m_random, .int m_truePlace, .int m_trueWay, .int m_seconds, .int m_done, .int m_feelings, .int m_tries, .int m_leftOver, .int m_playDoor, .int m_playRing, .int m_isOpen, .int m_isOver, .int m_wasTried, .int m_hasPlayed, .ref a_feltNow, .ref a_last, .ref a_kept, .int m_hasSeconds, .int m_hasTurned, .int m_hasRound, .ref a_hasFeels, .ref a_isOn, .int m_firstAct, .long m_meanTop, .long m_meanBy, .ref a_order, .int m_rowMany, .int m_newSteps])), (a_last, .inl (cA.1 0, 7, .inl g_last))]) 0 0 := by
  have hk_0 : (0 : Int32).toInt = 0 := by decide +kernel
  have hk_5 : (5 : Int32).toInt = 5 := by decide +kernel
  have hk_8 : (8 : Int32).toInt = 8 := by decide +kernel
  have hkl_0 : (0 : Int64).toInt = 0 := by decide +kernel
  have hkl_6 : (6 : Int64).toInt = 6 := by decide +kernel
  refine z_start2i (own := RX12) (by decide) (Nat.le_of_ble_eq_true rfl) rfl ?_
  intro p e s m args below meth c A ls Q hx hb hml hts hown hK hE hT hP hD hS hA hl hret
  have hl : lv_has ls 2 [(0, .ref h0), (1, .int w)] := hl
  refine lv_aload_n hx hb dX12_played_0 rfl (lv_at hl 0 rfl) ?_
  refine lv_iconst (v := 0) hx hb dX12_played_1 (by decide) ?_
  refine va_put (D := G) (ci := 12) (v := .int 0) (ty := .int) (C := RX12) (T := TX12) (N := 65) hx hb hts inT12 tyX12 tyX12_ok nmX12 hown hK hP hD hS 0 rfl rfl 1 (by decide) (hts _ tw_1886) (fun _ h9 => h9) rfl (tyX12_ok 1 (by decide)) rfl rfl (Nat.le_of_ble_eq_true rfl) dX12_played_2 (fun H locs hP hD hS => ?_)
  refine lv_aload_n hx hb dX12_played_5 rfl (lv_at hl 0 rfl) ?_
  refine lv_iconst (v := 0) hx hb dX12_played_6 (by decide) ?_
  refine va_put (D := G) (ci := 12) (v := .int 0) (ty := .int) (C := RX12) (T := TX12) (N := 65) hx hb hts inT12 tyX12 tyX12_ok nmX12 hown hK hP hD hS 0 rfl rfl 0 (by decide) (hts _ tw_1885) (fun _ h9 => h9) rfl (tyX12_ok 0 (by decide)) rfl rfl (Nat.le_of_ble_eq_true rfl) dX12_played_7 (fun H locs hP hD hS => ?_)
  refine lv_iload_n hx hb dX12_played_10 rfl (lv_at hl 1 rfl) ?_
  refine lv_i2l (v := (w).toInt64) hx hb dX12_played_11 rfl ?_
  refine lv_topl (fun x_1 he_x_1 => ?_)
  have hq_x_1 := z_i2l he_x_1
  have hL_w := z_full w
  refine lv_lconst (v := 0) hx hb dX12_played_12 (by decide) ?_
  refine lv_ldc2 (v := 6) hx hb hown (hts _ tw_2723) dX12_played_13 ?_
  refine z_callSi (As := [.long x_1, .long 0, .long 6]) (rest := []) (wr := [(h0, .inr (12, [.int 0, .int 0, .long m_above, .long m_under, .ref a_traySort, .ref a_trayMany, .ref a_numbers, .ref a_tape, .int m_taped, .int m_textEnd, .int m_faultKind, .int m_faultAt, .int m_bad, .int m_badAt, .int m_token, .int m_at, .int m_behind, .int m_number, .int m_letters, .long m_word, .ref a_c, .ref a_words, .int m_markMany, .ref a_there, .ref a_tried, .ref a_best, .ref a_found, .int m_thereMany, .int m_foundMany, .int m_orderHow, .int m_orderRing, .int m_orderMany, .int m_hasBest, .long m_bestTop, .long m_bestBy, .ref a_weights, .ref a_shared, .int m_random, .int m_truePlace, .int m_trueWay, .int m_seconds, .int m_done, .int m_feelings, .int m_tries, .int m_leftOver, .int m_playDoor, .int m_playRing, .int m_isOpen, .int m_isOver, .int m_wasTried, .int m_hasPlayed, .ref a_feltNow, .ref a_last, .ref a_kept, .int m_hasSeconds, .int m_hasTurned, .int m_hasRound, .ref a_hasFeels, .ref a_isOn, .int m_firstAct, .long m_meanTop, .long m_meanBy, .ref a_order, .int m_rowMany, .int m_newSteps])), (a_last, .inl (cA.1 0, 7, .inl g_last))]) ⟨hx, hb, hml, hown, hts⟩ hK hE hT hP hD hS hA (r_isIn l G cA x_1 0 6) lk_RX12_117 ⟨rfl, rfl⟩ ⟨Nat.le_of_ble_eq_true rfl, Nat.le_of_ble_eq_true rfl⟩ [] [0, 1] rfl rfl (by decide) rfl hl.1 rfl (lv_room (Nat.le_of_ble_eq_true rfl)) dX12_played_16 ⟨Nat.le_of_ble_eq_true rfl, Nat.le_of_ble_eq_true rfl⟩ (fun r_2 u_3 H locs hw hP hD hS => ?_)
  rcases hw with ⟨rfl, hf_4⟩ | ⟨rfl, hf_5⟩
  · skip
    refine lv_if_ne (tgt := 28) hx hb dX12_played_19 (by decide) (fun h9 => absurd (by decide +kernel) h9) (fun _ => ?_)
    refine lv_aload_n hx hb dX12_played_22 rfl (lv_at hl 0 rfl) ?_
    refine lv_iconst (v := 5) hx hb dX12_played_23 (by decide) ?_
    refine z_callVi (As := [.int 5]) (rest := []) (wr := [(a_last, .inl (cA.1 0, 7, .inl g_last))]) ⟨hx, hb, hml, hown, hts⟩ hK hE hT hP hD hS hA (r_refuse l G cA h0 0 0 m_above m_under a_traySort a_trayMany a_numbers a_tape m_taped m_textEnd m_faultKind m_faultAt m_bad m_badAt m_token m_at m_behind m_number m_letters m_word a_c a_words m_markMany a_there a_tried a_best a_found m_thereMany m_foundMany m_orderHow m_orderRing m_orderMany m_hasBest m_bestTop m_bestBy a_weights a_shared m_random m_truePlace m_trueWay m_seconds m_done m_feelings m_tries m_leftOver m_playDoor m_playRing m_isOpen m_isOver m_wasTried m_hasPlayed a_feltNow a_last a_kept m_hasSeconds m_hasTurned m_hasRound a_hasFeels a_isOn m_firstAct m_meanTop m_meanBy a_order m_rowMany m_newSteps 5) lk_RX12_269 ⟨rfl, rfl⟩ ⟨Nat.le_of_ble_eq_true rfl, Nat.le_of_ble_eq_true rfl⟩ 12 rfl rfl rfl [0] [1] rfl rfl (by decide) rfl hl.1 rfl (lv_room (Nat.le_of_ble_eq_true rfl)) dX12_played_24 ⟨Nat.le_of_ble_eq_true rfl, Nat.le_of_ble_eq_true rfl⟩ (fun r_7 u_8 H locs hw hP hD hS => ?_)
    obtain ⟨n_6, rfl⟩ : ∃ z, z = u_8 := ⟨_, rfl⟩
    have hr_r_7 := hw
    have hpost : (0 ≤ (0 : Int32).toInt ∧ (0 : Int32).toInt ≤ 0) := (by decide +kernel)
    exact hret _ _ _ _ _ _ (n_6, 0) [1, 0] hP hD hS rfl (by decide) dX12_played_27 hpost
  · skip
    refine lv_if_ne (tgt := 28) hx hb dX12_played_19 (by decide) (fun _ => ?_) (fun h9 => absurd h9 (by decide +kernel))
    refine lv_aload_n hx hb dX12_played_28 rfl (lv_at hl 0 rfl) ?_
    refine va_get (D := G) (ci := 12) (v := .int m_hasPlayed) (C := RX12) (T := TX12) (N := 65) hx hb hts inT12 hown hK hP 0 rfl rfl 50 (by decide) (hts _ tw_1933) (fun _ h9 => h9) rfl dX12_played_29 ?_
    refine lv_if_eq (tgt := 44) hx hb dX12_played_32 (by decide) (fun c_9 => ?_) (fun c_9 => ?_)
    · have b_10 := z_feqT c_9
      refine lv_aload_n hx hb dX12_played_44 rfl (lv_at hl 0 rfl) ?_
      refine lv_bipush (v := 8) hx hb dX12_played_45 (by decide) ?_
      refine z_callVi (As := [.int 8]) (rest := []) (wr := [(a_last, .inl (cA.1 0, 7, .inl g_last))]) ⟨hx, hb, hml, hown, hts⟩ hK hE hT hP hD hS hA (r_refuse l G cA h0 0 0 m_above m_under a_traySort a_trayMany a_numbers a_tape m_taped m_textEnd m_faultKind m_faultAt m_bad m_badAt m_token m_at m_behind m_number m_letters m_word a_c a_words m_markMany a_there a_tried a_best a_found m_thereMany m_foundMany m_orderHow m_orderRing m_orderMany m_hasBest m_bestTop m_bestBy a_weights a_shared m_random m_truePlace m_trueWay m_seconds m_done m_feelings m_tries m_leftOver m_playDoor m_playRing m_isOpen m_isOver m_wasTried m_hasPlayed a_feltNow a_last a_kept m_hasSeconds m_hasTurned m_hasRound a_hasFeels a_isOn m_firstAct m_meanTop m_meanBy a_order m_rowMany m_newSteps 8) lk_RX12_269 ⟨rfl, rfl⟩ ⟨Nat.le_of_ble_eq_true rfl, Nat.le_of_ble_eq_true rfl⟩ 12 rfl rfl rfl [0] [1] rfl rfl (by decide) rfl hl.1 rfl (lv_room (Nat.le_of_ble_eq_true rfl)) dX12_played_47 ⟨Nat.le_of_ble_eq_true rfl, Nat.le_of_ble_eq_true rfl⟩ (fun r_12 u_13 H locs hw hP hD hS => ?_)
      obtain ⟨n_11, rfl⟩ : ∃ z, z = u_13 := ⟨_, rfl⟩
      have hr_r_12 := hw
      have hpost : (0 ≤ (0 : Int32).toInt ∧ (0 : Int32).toInt ≤ 0) := (by decide +kernel)
      exact hret _ _ _ _ _ _ (n_11, 0) [1, 0] hP hD hS rfl (by decide) dX12_played_50 hpost
    · have b_14 := z_fneF c_9
      refine lv_aload_n hx hb dX12_played_35 rfl (lv_at hl 0 rfl) ?_
      refine va_get (D := G) (ci := 12) (v := .ref a_last) (C := RX12) (T := TX12) (N := 65) hx hb hts inT12 hown hK hP 0 rfl rfl 52 (by decide) (hts _ tw_1935) (fun _ h9 => h9) rfl dX12_played_36 ?_
      refine lv_iload_n hx hb dX12_played_39 rfl (lv_at hl 1 rfl) ?_
      refine va_iald hx hb hK hP 1 0 rfl rfl (z_inN (by omega) (by omega)) dX12_played_40 ?_
      refine lv_topi (fun x_15 he_x_15 => ?_)
      refine lv_goto (tgt := 50) hx hb dX12_played_41 (by decide) ?_
      have hpost : (0 ≤ (0 : Int32).toInt ∧ (0 : Int32).toInt ≤ 0) := (by decide +kernel)
      exact hret _ _ _ _ _ _ (0, 0) [0, 1] hP hD hS rfl (by decide) dX12_played_50 hpost
set_option maxHeartbeats 4000000 in
set_option maxRecDepth 100000 in
theorem r_tally (l : Launch) (G : va_G) (cA : zCA) (h0 : Nat) (m_status : Int32) (m_thrown : Int32) (m_above : Int64) (m_under : Int64) (a_traySort : Nat) (a_trayMany : Nat) (a_numbers : Nat) (a_tape : Nat) (m_taped : Int32) (m_textEnd : Int32) (m_faultKind : Int32) (m_faultAt : Int32) (m_bad : Int32) (m_badAt : Int32) (m_token : Int32) (m_at : Int32) (m_behind : Int32) (m_number : Int32) (m_letters : Int32) (m_word : Int64) (a_c : Nat) (a_words : Nat) (m_markMany : Int32) (a_there : Nat) (a_tried : Nat) (a_best : Nat) (a_found : Nat) (m_thereMany : Int32) (m_foundMany : Int32) (m_orderHow : Int32) (m_orderRing : Int32) (m_orderMany : Int32) (m_hasBest : Int32) (m_bestTop : Int64) (m_bestBy : Int64) (a_weights : Nat) (a_shared : Nat) (m_random : Int32) (m_truePlace : Int32) (m_trueWay : Int32) (m_seconds : Int32) (m_done : Int32) (m_feelings : Int32) (m_tries : Int32) (m_leftOver : Int32) (m_playDoor : Int32) (m_playRing : Int32) (m_isOpen : Int32) (m_isOver : Int32) (m_wasTried : Int32) (m_hasPlayed : Int32) (a_feltNow : Nat) (a_last : Nat) (a_kept : Nat) (m_hasSeconds : Int32) (m_hasTurned : Int32) (m_hasRound : Int32) (a_hasFeels : Nat) (a_isOn : Nat) (m_firstAct : Int32) (m_meanTop : Int64) (m_meanBy : Int64) (a_order : Nat) (m_rowMany : Int32) (m_newSteps : Int32) (g_c : Nat → Int32) (g_there : Nat → Int32) (g_shared : Nat → Int64) (g_feltNow : Nat → Int32) (g_kept : Nat → Int32) (r : Int32) (d : Int32) (seed : Int32) (nn : Int32) (hr_m_thereMany : 0 ≤ m_thereMany.toInt ∧ m_thereMany.toInt ≤ 10) (hr_m_done : 0 ≤ m_done.toInt ∧ m_done.toInt ≤ 200) (hr_m_random : 0 ≤ m_random.toInt ∧ m_random.toInt ≤ 65535) (hr_m_truePlace : 0 ≤ m_truePlace.toInt ∧ m_truePlace.toInt ≤ 9) (hr_m_trueWay : 0 ≤ m_trueWay.toInt ∧ m_trueWay.toInt ≤ 1) (hr_m_playDoor : 0 ≤ m_playDoor.toInt ∧ m_playDoor.toInt ≤ 4) (hr_m_leftOver : 0 ≤ m_leftOver.toInt ∧ m_leftOver.toInt ≤ 1) (hz_m_isOpen : m_isOpen = 0 ∨ m_isOpen = 1) (hz_m_isOver : m_isOver = 0 ∨ m_isOver = 1) (hz_m_wasTried : m_wasTried = 0 ∨ m_wasTried = 1) (hC_g_c : zC g_c) (hC_g_there : zRg 10 0 9 g_there) : zCi l yX12_tally cX12_tally 9 (some .int) ({ frames := 417, cells := 0, slots := 0, locals := 14137 }) G cA [.ref h0, .int r, .int d, .int seed, .int nn] [(h0, .inr (12, [.int m_status, .int m_thrown, .long m_above, .long m_under, .ref a_traySort, .ref a_trayMany, .ref a_numbers, .ref a_tape, .int m_taped, .int m_textEnd, .int m_faultKind, .int m_faultAt, .int m_bad, .int m_badAt, .int m_token, .int m_at, .int m_behind, .int m_number, .int m_letters, .long m_word, .ref a_c, .ref a_words, .int m_markMany, .ref a_there, .ref a_tried, .ref a_best, .ref a_found, .int m_thereMany, .int m_foundMany, .int m_orderHow, .int m_orderRing, .int m_orderMany, .int m_hasBest, .long m_bestTop, .long m_bestBy, .ref a_weights, .ref a_shared, .int m_random, .int m_truePlace, .int m_trueWay, .int m_seconds, .int m_done, .int m_feelings, .int m_tries, .int m_leftOver, .int m_playDoor, .int m_playRing, .int m_isOpen, .int m_isOver, .int m_wasTried, .int m_hasPlayed, .ref a_feltNow, .ref a_last, .ref a_kept, .int m_hasSeconds, .int m_hasTurned, .int m_hasRound, .ref a_hasFeels, .ref a_isOn, .int m_firstAct, .long m_meanTop, .long m_meanBy, .ref a_order, .int m_rowMany, .int m_newSteps])), (a_c, .inl (cA.1 0, 1825, .inl g_c)), (a_there, .inl (cA.1 0, 10, .inl g_there)), (a_shared, .inl (cA.1 1, 20, .inr (.inl g_shared))), (a_feltNow, .inl (cA.1 0, 3, .inl g_feltNow)), (a_kept, .inl (cA.1 0, 20, .inl g_kept))] (S := Int32 × Int32 × Int64 × Int64 × Int32 × Int32 × Int32 × Int32 × Int32 × Int32 × Int32 × Int32 × Int32 × Int32 × Int32 × Int32 × Int32 × (Nat → Int32) × (Nat → Int32) × (Nat → Int64) × (Nat → Int32) × (Nat → Int32)) (fun (r : Int32) (u : Int32 × Int32 × Int64 × Int64 × Int32 × Int32 × Int32 × Int32 × Int32 × Int32 × Int32 × Int32 × Int32 × Int32 × Int32 × Int32 × Int32 × (Nat → Int32) × (Nat → Int32) × (Nat → Int64) × (Nat → Int32) × (Nat → Int32)) => (0 ≤ u.2.1.toInt ∧ u.2.1.toInt ≤ 0) ∧ (0 ≤ u.2.2.2.2.1.toInt ∧ u.2.2.2.2.1.toInt ≤ 10) ∧ (0 ≤ u.2.2.2.2.2.1.toInt ∧ u.2.2.2.2.2.1.toInt ≤ 65535) ∧ (0 ≤ u.2.2.2.2.2.2.1.toInt ∧ u.2.2.2.2.2.2.1.toInt ≤ 9) ∧ (0 ≤ u.2.2.2.2.2.2.2.1.toInt ∧ u.2.2.2.2.2.2.2.1.toInt ≤ 1) ∧ (0 ≤ u.2.2.2.2.2.2.2.2.2.1.toInt ∧ u.2.2.2.2.2.2.2.2.2.1.toInt ≤ 200) ∧ (0 ≤ u.2.2.2.2.2.2.2.2.2.2.2.2.1.toInt ∧ u.2.2.2.2.2.2.2.2.2.2.2.2.1.toInt ≤ 1) ∧ (0 ≤ u.2.2.2.2.2.2.2.2.2.2.2.2.2.1.toInt ∧ u.2.2.2.2.2.2.2.2.2.2.2.2.2.1.toInt ≤ 4) ∧ (u.2.2.2.2.2.2.2.2.2.2.2.2.2.2.1 = 0 ∨ u.2.2.2.2.2.2.2.2.2.2.2.2.2.2.1 = 1) ∧ (u.2.2.2.2.2.2.2.2.2.2.2.2.2.2.2.1 = 0 ∨ u.2.2.2.2.2.2.2.2.2.2.2.2.2.2.2.1 = 1) ∧ (u.2.2.2.2.2.2.2.2.2.2.2.2.2.2.2.2.1 = 0 ∨ u.2.2.2.2.2.2.2.2.2.2.2.2.2.2.2.2.1 = 1) ∧ (zC u.2.2.2.2.2.2.2.2.2.2.2.2.2.2.2.2.2.1) ∧ (zRg 10 0 9 u.2.2.2.2.2.2.2.2.2.2.2.2.2.2.2.2.2.2.1)) (fun (u : Int32 × Int32 × Int64 × Int64 × Int32 × Int32 × Int32 × Int32 × Int32 × Int32 × Int32 × Int32 × Int32 × Int32 × Int32 × Int32 × Int32 × (Nat → Int32) × (Nat → Int32) × (Nat → Int64) × (Nat → Int32) × (Nat → Int32)) => [(h0, .inr (12, [.int u.1, .int u.2.1, .long u.2.2.1, .long u.2.2.2.1, .ref a_traySort, .ref a_trayMany, .ref a_numbers, .ref a_tape, .int m_taped, .int m_textEnd, .int m_faultKind, .int m_faultAt, .int m_bad, .int m_badAt, .int m_token, .int m_at, .int m_behind, .int m_number, .int m_letters, .long m_word, .ref a_c, .ref a_words, .int m_markMany, .ref a_there, .ref a_tried, .ref a_best, .ref a_found, .int u.2.2.2.2.1, .int m_foundMany, .int m_orderHow, .int m_orderRing, .int m_orderMany, .int m_hasBest, .long m_bestTop, .long m_bestBy, .ref a_weights, .ref a_shared, .int u.2.2.2.2.2.1, .int u.2.2.2.2.2.2.1, .int u.2.2.2.2.2.2.2.1, .int u.2.2.2.2.2.2.2.2.1, .int u.2.2.2.2.2.2.2.2.2.1, .int u.2.2.2.2.2.2.2.2.2.2.1, .int u.2.2.2.2.2.2.2.2.2.2.2.1, .int u.2.2.2.2.2.2.2.2.2.2.2.2.1, .int u.2.2.2.2.2.2.2.2.2.2.2.2.2.1, .int m_playRing, .int u.2.2.2.2.2.2.2.2.2.2.2.2.2.2.1, .int u.2.2.2.2.2.2.2.2.2.2.2.2.2.2.2.1, .int u.2.2.2.2.2.2.2.2.2.2.2.2.2.2.2.2.1, .int m_hasPlayed, .ref a_feltNow, .ref a_last, .ref a_kept, .int m_hasSeconds, .int m_hasTurned, .int m_hasRound, .ref a_hasFeels, .ref a_isOn, .int m_firstAct, .long m_meanTop, .long m_meanBy, .ref a_order, .int m_rowMany, .int m_newSteps])), (a_c, .inl (cA.1 0, 1825, .inl u.2.2.2.2.2.2.2.2.2.2.2.2.2.2.2.2.2.1)), (a_there, .inl (cA.1 0, 10, .inl u.2.2.2.2.2.2.2.2.2.2.2.2.2.2.2.2.2.2.1)), (a_shared, .inl (cA.1 1, 20, .inr (.inl u.2.2.2.2.2.2.2.2.2.2.2.2.2.2.2.2.2.2.2.1))), (a_feltNow, .inl (cA.1 0, 3, .inl u.2.2.2.2.2.2.2.2.2.2.2.2.2.2.2.2.2.2.2.2.1)), (a_kept, .inl (cA.1 0, 20, .inl u.2.2.2.2.2.2.2.2.2.2.2.2.2.2.2.2.2.2.2.2.2))]) 0 0 := by
  have hk_0 : (0 : Int32).toInt = 0 := by decide +kernel
  have hk_1 : (1 : Int32).toInt = 1 := by decide +kernel
  have hk_2 : (2 : Int32).toInt = 2 := by decide +kernel
  have hk_5 : (5 : Int32).toInt = 5 := by decide +kernel
  have hk_8 : (8 : Int32).toInt = 8 := by decide +kernel
  have hk_10000 : (10000 : Int32).toInt = 10000 := by decide +kernel
  have hkl_0 : (0 : Int64).toInt = 0 := by decide +kernel
  have hkl_1 : (1 : Int64).toInt = 1 := by decide +kernel
  have hkl_30 : (30 : Int64).toInt = 30 := by decide +kernel
  refine z_start2i (own := RX12) (by decide) (Nat.le_of_ble_eq_true rfl) rfl ?_
  intro p e s m args below meth c A ls Q hx hb hml hts hown hK hE hT hP hD hS hA hl hret
  have hl : lv_has ls 9 [(0, .ref h0), (1, .int r), (2, .int d), (3, .int seed), (4, .int nn)] := hl
  refine lv_aload_n hx hb dX12_tally_0 rfl (lv_at hl 0 rfl) ?_
  refine lv_iconst (v := 0) hx hb dX12_tally_1 (by decide) ?_
  refine va_put (D := G) (ci := 12) (v := .int 0) (ty := .int) (C := RX12) (T := TX12) (N := 65) hx hb hts inT12 tyX12 tyX12_ok nmX12 hown hK hP hD hS 0 rfl rfl 1 (by decide) (hts _ tw_1886) (fun _ h9 => h9) rfl (tyX12_ok 1 (by decide)) rfl rfl (Nat.le_of_ble_eq_true rfl) dX12_tally_2 (fun H locs hP hD hS => ?_)
  refine lv_aload_n hx hb dX12_tally_5 rfl (lv_at hl 0 rfl) ?_
  refine lv_iconst (v := 0) hx hb dX12_tally_6 (by decide) ?_
  refine va_put (D := G) (ci := 12) (v := .int 0) (ty := .int) (C := RX12) (T := TX12) (N := 65) hx hb hts inT12 tyX12 tyX12_ok nmX12 hown hK hP hD hS 0 rfl rfl 0 (by decide) (hts _ tw_1885) (fun _ h9 => h9) rfl (tyX12_ok 0 (by decide)) rfl rfl (Nat.le_of_ble_eq_true rfl) dX12_tally_7 (fun H locs hP hD hS => ?_)
  refine lv_aload_n hx hb dX12_tally_10 rfl (lv_at hl 0 rfl) ?_
  refine lv_iload_n hx hb dX12_tally_11 rfl (lv_at hl 1 rfl) ?_
  refine z_callVi (As := [.int r]) (rest := []) (wr := [(a_there, .inl (cA.1 0, 10, .inl g_there)), (a_shared, .inl (cA.1 1, 20, .inr (.inl g_shared))), (a_feltNow, .inl (cA.1 0, 3, .inl g_feltNow)), (a_kept, .inl (cA.1 0, 20, .inl g_kept))]) ⟨hx, hb, hml, hown, hts⟩ hK hE hT hP hD hS hA (r_isRing l G cA h0 0 0 m_above m_under a_traySort a_trayMany a_numbers a_tape m_taped m_textEnd m_faultKind m_faultAt m_bad m_badAt m_token m_at m_behind m_number m_letters m_word a_c a_words m_markMany a_there a_tried a_best a_found m_thereMany m_foundMany m_orderHow m_orderRing m_orderMany m_hasBest m_bestTop m_bestBy a_weights a_shared m_random m_truePlace m_trueWay m_seconds m_done m_feelings m_tries m_leftOver m_playDoor m_playRing m_isOpen m_isOver m_wasTried m_hasPlayed a_feltNow a_last a_kept m_hasSeconds m_hasTurned m_hasRound a_hasFeels a_isOn m_firstAct m_meanTop m_meanBy a_order m_rowMany m_newSteps g_c r hC_g_c) lk_RX12_289 ⟨rfl, rfl⟩ ⟨Nat.le_of_ble_eq_true rfl, Nat.le_of_ble_eq_true rfl⟩ 12 rfl rfl rfl [0, 1] [2, 3, 4, 5] rfl rfl (by decide) rfl hl.1 rfl (lv_room (Nat.le_of_ble_eq_true rfl)) dX12_tally_12 ⟨Nat.le_of_ble_eq_true rfl, Nat.le_of_ble_eq_true rfl⟩ (fun r_1 u_2 H locs hw hP hD hS => ?_)
  rcases hw with ⟨rfl, -⟩ | ⟨rfl, hf_3, hf_4⟩
  · skip
    refine lv_if_eq (tgt := 26) hx hb dX12_tally_15 (by decide) (fun _ => ?_) (fun h9 => absurd (by decide +kernel) h9)
    refine lv_aload_n hx hb dX12_tally_26 rfl (lv_at hl 0 rfl) ?_
    refine lv_iconst (v := 2) hx hb dX12_tally_27 (by decide) ?_
    refine z_callVi (As := [.int 2]) (rest := []) (wr := [(a_there, .inl (cA.1 0, 10, .inl g_there)), (a_shared, .inl (cA.1 1, 20, .inr (.inl g_shared))), (a_feltNow, .inl (cA.1 0, 3, .inl g_feltNow)), (a_kept, .inl (cA.1 0, 20, .inl g_kept)), (a_c, .inl (cA.1 0, 1825, .inl g_c))]) ⟨hx, hb, hml, hown, hts⟩ hK hE hT hP hD hS hA (r_refuse l G cA h0 0 0 m_above m_under a_traySort a_trayMany a_numbers a_tape m_taped m_textEnd m_faultKind m_faultAt m_bad m_badAt m_token m_at m_behind m_number m_letters m_word a_c a_words m_markMany a_there a_tried a_best a_found m_thereMany m_foundMany m_orderHow m_orderRing m_orderMany m_hasBest m_bestTop m_bestBy a_weights a_shared m_random m_truePlace m_trueWay m_seconds m_done m_feelings m_tries m_leftOver m_playDoor m_playRing m_isOpen m_isOver m_wasTried m_hasPlayed a_feltNow a_last a_kept m_hasSeconds m_hasTurned m_hasRound a_hasFeels a_isOn m_firstAct m_meanTop m_meanBy a_order m_rowMany m_newSteps 2) lk_RX12_269 ⟨rfl, rfl⟩ ⟨Nat.le_of_ble_eq_true rfl, Nat.le_of_ble_eq_true rfl⟩ 12 rfl rfl rfl [4] [0, 1, 2, 3, 5] rfl rfl (by decide) rfl hl.1 rfl (lv_room (Nat.le_of_ble_eq_true rfl)) dX12_tally_28 ⟨Nat.le_of_ble_eq_true rfl, Nat.le_of_ble_eq_true rfl⟩ (fun r_6 u_7 H locs hw hP hD hS => ?_)
    obtain ⟨n_5, rfl⟩ : ∃ z, z = u_7 := ⟨_, rfl⟩
    have hr_r_6 := hw
    have hpost : (0 ≤ (0 : Int32).toInt ∧ (0 : Int32).toInt ≤ 0) ∧ (0 ≤ m_thereMany.toInt ∧ m_thereMany.toInt ≤ 10) ∧ (0 ≤ m_random.toInt ∧ m_random.toInt ≤ 65535) ∧ (0 ≤ m_truePlace.toInt ∧ m_truePlace.toInt ≤ 9) ∧ (0 ≤ m_trueWay.toInt ∧ m_trueWay.toInt ≤ 1) ∧ (0 ≤ m_done.toInt ∧ m_done.toInt ≤ 200) ∧ (0 ≤ m_leftOver.toInt ∧ m_leftOver.toInt ≤ 1) ∧ (0 ≤ m_playDoor.toInt ∧ m_playDoor.toInt ≤ 4) ∧ (m_isOpen = 0 ∨ m_isOpen = 1) ∧ (m_isOver = 0 ∨ m_isOver = 1) ∧ (m_wasTried = 0 ∨ m_wasTried = 1) ∧ (zC g_c) ∧ (zRg 10 0 9 g_there) := ⟨(by decide +kernel), (by omega), (by omega), (by omega), (by omega), (by omega), (by omega), (by omega), hz_m_isOpen, hz_m_isOver, hz_m_wasTried, hC_g_c, hC_g_there⟩
    exact hret _ _ _ _ _ _ (n_5, 0, m_above, m_under, m_thereMany, m_random, m_truePlace, m_trueWay, m_seconds, m_done, m_feelings, m_tries, m_leftOver, m_playDoor, m_isOpen, m_isOver, m_wasTried, g_c, g_there, g_shared, g_feltNow, g_kept) [5, 4, 0, 1, 2, 3] hP hD hS rfl (by decide) dX12_tally_31 hpost
  · skip
    refine lv_if_eq (tgt := 26) hx hb dX12_tally_15 (by decide) (fun h9 => absurd h9 (by decide +kernel)) (fun _ => ?_)
    refine lv_aload_n hx hb dX12_tally_18 rfl (lv_at hl 0 rfl) ?_
    refine lv_iload_n hx hb dX12_tally_19 rfl (lv_at hl 2 rfl) ?_
    refine z_callVi (As := [.int d]) (rest := []) (wr := [(a_there, .inl (cA.1 0, 10, .inl g_there)), (a_shared, .inl (cA.1 1, 20, .inr (.inl g_shared))), (a_feltNow, .inl (cA.1 0, 3, .inl g_feltNow)), (a_kept, .inl (cA.1 0, 20, .inl g_kept))]) ⟨hx, hb, hml, hown, hts⟩ hK hE hT hP hD hS hA (r_isDoor l G cA h0 0 0 m_above m_under a_traySort a_trayMany a_numbers a_tape m_taped m_textEnd m_faultKind m_faultAt m_bad m_badAt m_token m_at m_behind m_number m_letters m_word a_c a_words m_markMany a_there a_tried a_best a_found m_thereMany m_foundMany m_orderHow m_orderRing m_orderMany m_hasBest m_bestTop m_bestBy a_weights a_shared m_random m_truePlace m_trueWay m_seconds m_done m_feelings m_tries m_leftOver m_playDoor m_playRing m_isOpen m_isOver m_wasTried m_hasPlayed a_feltNow a_last a_kept m_hasSeconds m_hasTurned m_hasRound a_hasFeels a_isOn m_firstAct m_meanTop m_meanBy a_order m_rowMany m_newSteps g_c d hC_g_c) lk_RX12_295 ⟨rfl, rfl⟩ ⟨Nat.le_of_ble_eq_true rfl, Nat.le_of_ble_eq_true rfl⟩ 12 rfl rfl rfl [4, 5] [0, 1, 2, 3] rfl rfl (by decide) rfl hl.1 rfl (lv_room (Nat.le_of_ble_eq_true rfl)) dX12_tally_20 ⟨Nat.le_of_ble_eq_true rfl, Nat.le_of_ble_eq_true rfl⟩ (fun r_8 u_9 H locs hw hP hD hS => ?_)
    rcases hw with ⟨rfl, -⟩ | ⟨rfl, hf_10, hf_11⟩
    · skip
      refine lv_if_ne (tgt := 32) hx hb dX12_tally_23 (by decide) (fun h9 => absurd (by decide +kernel) h9) (fun _ => ?_)
      refine lv_aload_n hx hb dX12_tally_26 rfl (lv_at hl 0 rfl) ?_
      refine lv_iconst (v := 2) hx hb dX12_tally_27 (by decide) ?_
      refine z_callVi (As := [.int 2]) (rest := []) (wr := [(a_there, .inl (cA.1 0, 10, .inl g_there)), (a_shared, .inl (cA.1 1, 20, .inr (.inl g_shared))), (a_feltNow, .inl (cA.1 0, 3, .inl g_feltNow)), (a_kept, .inl (cA.1 0, 20, .inl g_kept)), (a_c, .inl (cA.1 0, 1825, .inl g_c))]) ⟨hx, hb, hml, hown, hts⟩ hK hE hT hP hD hS hA (r_refuse l G cA h0 0 0 m_above m_under a_traySort a_trayMany a_numbers a_tape m_taped m_textEnd m_faultKind m_faultAt m_bad m_badAt m_token m_at m_behind m_number m_letters m_word a_c a_words m_markMany a_there a_tried a_best a_found m_thereMany m_foundMany m_orderHow m_orderRing m_orderMany m_hasBest m_bestTop m_bestBy a_weights a_shared m_random m_truePlace m_trueWay m_seconds m_done m_feelings m_tries m_leftOver m_playDoor m_playRing m_isOpen m_isOver m_wasTried m_hasPlayed a_feltNow a_last a_kept m_hasSeconds m_hasTurned m_hasRound a_hasFeels a_isOn m_firstAct m_meanTop m_meanBy a_order m_rowMany m_newSteps 2) lk_RX12_269 ⟨rfl, rfl⟩ ⟨Nat.le_of_ble_eq_true rfl, Nat.le_of_ble_eq_true rfl⟩ 12 rfl rfl rfl [4] [0, 1, 2, 3, 5] rfl rfl (by decide) rfl hl.1 rfl (lv_room (Nat.le_of_ble_eq_true rfl)) dX12_tally_28 ⟨Nat.le_of_ble_eq_true rfl, Nat.le_of_ble_eq_true rfl⟩ (fun r_13 u_14 H locs hw hP hD hS => ?_)
      obtain ⟨n_12, rfl⟩ : ∃ z, z = u_14 := ⟨_, rfl⟩
      have hr_r_13 := hw
      have hpost : (0 ≤ (0 : Int32).toInt ∧ (0 : Int32).toInt ≤ 0) ∧ (0 ≤ m_thereMany.toInt ∧ m_thereMany.toInt ≤ 10) ∧ (0 ≤ m_random.toInt ∧ m_random.toInt ≤ 65535) ∧ (0 ≤ m_truePlace.toInt ∧ m_truePlace.toInt ≤ 9) ∧ (0 ≤ m_trueWay.toInt ∧ m_trueWay.toInt ≤ 1) ∧ (0 ≤ m_done.toInt ∧ m_done.toInt ≤ 200) ∧ (0 ≤ m_leftOver.toInt ∧ m_leftOver.toInt ≤ 1) ∧ (0 ≤ m_playDoor.toInt ∧ m_playDoor.toInt ≤ 4) ∧ (m_isOpen = 0 ∨ m_isOpen = 1) ∧ (m_isOver = 0 ∨ m_isOver = 1) ∧ (m_wasTried = 0 ∨ m_wasTried = 1) ∧ (zC g_c) ∧ (zRg 10 0 9 g_there) := ⟨(by decide +kernel), (by omega), (by omega), (by omega), (by omega), (by omega), (by omega), (by omega), hz_m_isOpen, hz_m_isOver, hz_m_wasTried, hC_g_c, hC_g_there⟩
      exact hret _ _ _ _ _ _ (n_12, 0, m_above, m_under, m_thereMany, m_random, m_truePlace, m_trueWay, m_seconds, m_done, m_feelings, m_tries, m_leftOver, m_playDoor, m_isOpen, m_isOver, m_wasTried, g_c, g_there, g_shared, g_feltNow, g_kept) [5, 4, 0, 1, 2, 3] hP hD hS rfl (by decide) dX12_tally_31 hpost
    · skip
      refine lv_if_ne (tgt := 32) hx hb dX12_tally_23 (by decide) (fun _ => ?_) (fun h9 => absurd h9 (by decide +kernel))
      refine lv_iload hx hb dX12_tally_32 (lv_at hl 4 rfl) ?_
      refine lv_i2l (v := (nn).toInt64) hx hb dX12_tally_34 rfl ?_
      refine lv_topl (fun x_15 he_x_15 => ?_)
      have hq_x_15 := z_i2l he_x_15
      have hL_nn := z_full nn
      refine lv_lconst (v := 1) hx hb dX12_tally_35 (by decide) ?_
      refine lv_ldc2 (v := 30) hx hb hown (hts _ tw_2728) dX12_tally_36 ?_
      refine z_callSi (As := [.long x_15, .long 1, .long 30]) (rest := []) (wr := [(a_there, .inl (cA.1 0, 10, .inl g_there)), (a_shared, .inl (cA.1 1, 20, .inr (.inl g_shared))), (a_feltNow, .inl (cA.1 0, 3, .inl g_feltNow)), (a_kept, .inl (cA.1 0, 20, .inl g_kept)), (h0, .inr (12, [.int 0, .int 0, .long m_above, .long m_under, .ref a_traySort, .ref a_trayMany, .ref a_numbers, .ref a_tape, .int m_taped, .int m_textEnd, .int m_faultKind, .int m_faultAt, .int m_bad, .int m_badAt, .int m_token, .int m_at, .int m_behind, .int m_number, .int m_letters, .long m_word, .ref a_c, .ref a_words, .int m_markMany, .ref a_there, .ref a_tried, .ref a_best, .ref a_found, .int m_thereMany, .int m_foundMany, .int m_orderHow, .int m_orderRing, .int m_orderMany, .int m_hasBest, .long m_bestTop, .long m_bestBy, .ref a_weights, .ref a_shared, .int m_random, .int m_truePlace, .int m_trueWay, .int m_seconds, .int m_done, .int m_feelings, .int m_tries, .int m_leftOver, .int m_playDoor, .int m_playRing, .int m_isOpen, .int m_isOver, .int m_wasTried, .int m_hasPlayed, .ref a_feltNow, .ref a_last, .ref a_kept, .int m_hasSeconds, .int m_hasTurned, .int m_hasRound, .ref a_hasFeels, .ref a_isOn, .int m_firstAct, .long m_meanTop, .long m_meanBy, .ref a_order, .int m_rowMany, .int m_newSteps])), (a_c, .inl (cA.1 0, 1825, .inl g_c))]) ⟨hx, hb, hml, hown, hts⟩ hK hE hT hP hD hS hA (r_isIn l G cA x_15 1 30) lk_RX12_117 ⟨rfl, rfl⟩ ⟨Nat.le_of_ble_eq_true rfl, Nat.le_of_ble_eq_true rfl⟩ [] [0, 1, 2, 3, 4, 5] rfl rfl (by decide) rfl hl.1 rfl (lv_room (Nat.le_of_ble_eq_true rfl)) dX12_tally_39 ⟨Nat.le_of_ble_eq_true rfl, Nat.le_of_ble_eq_true rfl⟩ (fun r_16 u_17 H locs hw hP hD hS => ?_)
      rcases hw with ⟨rfl, hf_18⟩ | ⟨rfl, hf_19⟩
      · skip
        refine lv_if_eq (tgt := 61) hx hb dX12_tally_42 (by decide) (fun _ => ?_) (fun h9 => absurd (by decide +kernel) h9)
        refine lv_aload_n hx hb dX12_tally_61 rfl (lv_at hl 0 rfl) ?_
        refine lv_iconst (v := 5) hx hb dX12_tally_62 (by decide) ?_
        refine z_callVi (As := [.int 5]) (rest := []) (wr := [(a_there, .inl (cA.1 0, 10, .inl g_there)), (a_shared, .inl (cA.1 1, 20, .inr (.inl g_shared))), (a_feltNow, .inl (cA.1 0, 3, .inl g_feltNow)), (a_kept, .inl (cA.1 0, 20, .inl g_kept)), (a_c, .inl (cA.1 0, 1825, .inl g_c))]) ⟨hx, hb, hml, hown, hts⟩ hK hE hT hP hD hS hA (r_refuse l G cA h0 0 0 m_above m_under a_traySort a_trayMany a_numbers a_tape m_taped m_textEnd m_faultKind m_faultAt m_bad m_badAt m_token m_at m_behind m_number m_letters m_word a_c a_words m_markMany a_there a_tried a_best a_found m_thereMany m_foundMany m_orderHow m_orderRing m_orderMany m_hasBest m_bestTop m_bestBy a_weights a_shared m_random m_truePlace m_trueWay m_seconds m_done m_feelings m_tries m_leftOver m_playDoor m_playRing m_isOpen m_isOver m_wasTried m_hasPlayed a_feltNow a_last a_kept m_hasSeconds m_hasTurned m_hasRound a_hasFeels a_isOn m_firstAct m_meanTop m_meanBy a_order m_rowMany m_newSteps 5) lk_RX12_269 ⟨rfl, rfl⟩ ⟨Nat.le_of_ble_eq_true rfl, Nat.le_of_ble_eq_true rfl⟩ 12 rfl rfl rfl [4] [0, 1, 2, 3, 5] rfl rfl (by decide) rfl hl.1 rfl (lv_room (Nat.le_of_ble_eq_true rfl)) dX12_tally_63 ⟨Nat.le_of_ble_eq_true rfl, Nat.le_of_ble_eq_true rfl⟩ (fun r_21 u_22 H locs hw hP hD hS => ?_)
        obtain ⟨n_20, rfl⟩ : ∃ z, z = u_22 := ⟨_, rfl⟩
        have hr_r_21 := hw
        have hpost : (0 ≤ (0 : Int32).toInt ∧ (0 : Int32).toInt ≤ 0) ∧ (0 ≤ m_thereMany.toInt ∧ m_thereMany.toInt ≤ 10) ∧ (0 ≤ m_random.toInt ∧ m_random.toInt ≤ 65535) ∧ (0 ≤ m_truePlace.toInt ∧ m_truePlace.toInt ≤ 9) ∧ (0 ≤ m_trueWay.toInt ∧ m_trueWay.toInt ≤ 1) ∧ (0 ≤ m_done.toInt ∧ m_done.toInt ≤ 200) ∧ (0 ≤ m_leftOver.toInt ∧ m_leftOver.toInt ≤ 1) ∧ (0 ≤ m_playDoor.toInt ∧ m_playDoor.toInt ≤ 4) ∧ (m_isOpen = 0 ∨ m_isOpen = 1) ∧ (m_isOver = 0 ∨ m_isOver = 1) ∧ (m_wasTried = 0 ∨ m_wasTried = 1) ∧ (zC g_c) ∧ (zRg 10 0 9 g_there) := ⟨(by decide +kernel), (by omega), (by omega), (by omega), (by omega), (by omega), (by omega), (by omega), hz_m_isOpen, hz_m_isOver, hz_m_wasTried, hC_g_c, hC_g_there⟩
        exact hret _ _ _ _ _ _ (n_20, 0, m_above, m_under, m_thereMany, m_random, m_truePlace, m_trueWay, m_seconds, m_done, m_feelings, m_tries, m_leftOver, m_playDoor, m_isOpen, m_isOver, m_wasTried, g_c, g_there, g_shared, g_feltNow, g_kept) [5, 4, 0, 1, 2, 3] hP hD hS rfl (by decide) dX12_tally_66 hpost
      · skip
        refine lv_if_eq (tgt := 61) hx hb dX12_tally_42 (by decide) (fun h9 => absurd h9 (by decide +kernel)) (fun _ => ?_)
        refine lv_iload_n hx hb dX12_tally_45 rfl (lv_at hl 3 rfl) ?_
        refine lv_i2l (v := (seed).toInt64) hx hb dX12_tally_46 rfl ?_
        refine lv_topl (fun x_23 he_x_23 => ?_)
        have hq_x_23 := z_i2l he_x_23
        have hL_seed := z_full seed
        refine lv_lconst (v := 0) hx hb dX12_tally_47 (by decide) ?_
        refine lv_sipush (v := 10000) hx hb dX12_tally_48 (by decide) ?_
        refine lv_iload hx hb dX12_tally_51 (lv_at hl 4 rfl) ?_
        refine lv_isub hx hb dX12_tally_53 ?_
        refine lv_topi (fun x_24 he_x_24 => ?_)
        have hq_x_24 := z_subq he_x_24 hk_10000 (rfl : nn.toInt = _) (by omega) (by omega)
        refine lv_i2l (v := (x_24).toInt64) hx hb dX12_tally_54 rfl ?_
        refine lv_topl (fun x_25 he_x_25 => ?_)
        have hq_x_25 := z_i2l he_x_25
        refine z_callSi (As := [.long x_23, .long 0, .long x_25]) (rest := []) (wr := [(a_there, .inl (cA.1 0, 10, .inl g_there)), (a_shared, .inl (cA.1 1, 20, .inr (.inl g_shared))), (a_feltNow, .inl (cA.1 0, 3, .inl g_feltNow)), (a_kept, .inl (cA.1 0, 20, .inl g_kept)), (h0, .inr (12, [.int 0, .int 0, .long m_above, .long m_under, .ref a_traySort, .ref a_trayMany, .ref a_numbers, .ref a_tape, .int m_taped, .int m_textEnd, .int m_faultKind, .int m_faultAt, .int m_bad, .int m_badAt, .int m_token, .int m_at, .int m_behind, .int m_number, .int m_letters, .long m_word, .ref a_c, .ref a_words, .int m_markMany, .ref a_there, .ref a_tried, .ref a_best, .ref a_found, .int m_thereMany, .int m_foundMany, .int m_orderHow, .int m_orderRing, .int m_orderMany, .int m_hasBest, .long m_bestTop, .long m_bestBy, .ref a_weights, .ref a_shared, .int m_random, .int m_truePlace, .int m_trueWay, .int m_seconds, .int m_done, .int m_feelings, .int m_tries, .int m_leftOver, .int m_playDoor, .int m_playRing, .int m_isOpen, .int m_isOver, .int m_wasTried, .int m_hasPlayed, .ref a_feltNow, .ref a_last, .ref a_kept, .int m_hasSeconds, .int m_hasTurned, .int m_hasRound, .ref a_hasFeels, .ref a_isOn, .int m_firstAct, .long m_meanTop, .long m_meanBy, .ref a_order, .int m_rowMany, .int m_newSteps])), (a_c, .inl (cA.1 0, 1825, .inl g_c))]) ⟨hx, hb, hml, hown, hts⟩ hK hE hT hP hD hS hA (r_isIn l G cA x_23 0 x_25) lk_RX12_117 ⟨rfl, rfl⟩ ⟨Nat.le_of_ble_eq_true rfl, Nat.le_of_ble_eq_true rfl⟩ [] [0, 1, 2, 3, 4, 5] rfl rfl (by decide) rfl hl.1 rfl (lv_room (Nat.le_of_ble_eq_true rfl)) dX12_tally_55 ⟨Nat.le_of_ble_eq_true rfl, Nat.le_of_ble_eq_true rfl⟩ (fun r_26 u_27 H locs hw hP hD hS => ?_)
        rcases hw with ⟨rfl, hf_28⟩ | ⟨rfl, hf_29⟩
        · skip
          refine lv_if_ne (tgt := 67) hx hb dX12_tally_58 (by decide) (fun h9 => absurd (by decide +kernel) h9) (fun _ => ?_)
          refine lv_aload_n hx hb dX12_tally_61 rfl (lv_at hl 0 rfl) ?_
          refine lv_iconst (v := 5) hx hb dX12_tally_62 (by decide) ?_
          refine z_callVi (As := [.int 5]) (rest := []) (wr := [(a_there, .inl (cA.1 0, 10, .inl g_there)), (a_shared, .inl (cA.1 1, 20, .inr (.inl g_shared))), (a_feltNow, .inl (cA.1 0, 3, .inl g_feltNow)), (a_kept, .inl (cA.1 0, 20, .inl g_kept)), (a_c, .inl (cA.1 0, 1825, .inl g_c))]) ⟨hx, hb, hml, hown, hts⟩ hK hE hT hP hD hS hA (r_refuse l G cA h0 0 0 m_above m_under a_traySort a_trayMany a_numbers a_tape m_taped m_textEnd m_faultKind m_faultAt m_bad m_badAt m_token m_at m_behind m_number m_letters m_word a_c a_words m_markMany a_there a_tried a_best a_found m_thereMany m_foundMany m_orderHow m_orderRing m_orderMany m_hasBest m_bestTop m_bestBy a_weights a_shared m_random m_truePlace m_trueWay m_seconds m_done m_feelings m_tries m_leftOver m_playDoor m_playRing m_isOpen m_isOver m_wasTried m_hasPlayed a_feltNow a_last a_kept m_hasSeconds m_hasTurned m_hasRound a_hasFeels a_isOn m_firstAct m_meanTop m_meanBy a_order m_rowMany m_newSteps 5) lk_RX12_269 ⟨rfl, rfl⟩ ⟨Nat.le_of_ble_eq_true rfl, Nat.le_of_ble_eq_true rfl⟩ 12 rfl rfl rfl [4] [0, 1, 2, 3, 5] rfl rfl (by decide) rfl hl.1 rfl (lv_room (Nat.le_of_ble_eq_true rfl)) dX12_tally_63 ⟨Nat.le_of_ble_eq_true rfl, Nat.le_of_ble_eq_true rfl⟩ (fun r_31 u_32 H locs hw hP hD hS => ?_)
          obtain ⟨n_30, rfl⟩ : ∃ z, z = u_32 := ⟨_, rfl⟩
          have hr_r_31 := hw
          have hpost : (0 ≤ (0 : Int32).toInt ∧ (0 : Int32).toInt ≤ 0) ∧ (0 ≤ m_thereMany.toInt ∧ m_thereMany.toInt ≤ 10) ∧ (0 ≤ m_random.toInt ∧ m_random.toInt ≤ 65535) ∧ (0 ≤ m_truePlace.toInt ∧ m_truePlace.toInt ≤ 9) ∧ (0 ≤ m_trueWay.toInt ∧ m_trueWay.toInt ≤ 1) ∧ (0 ≤ m_done.toInt ∧ m_done.toInt ≤ 200) ∧ (0 ≤ m_leftOver.toInt ∧ m_leftOver.toInt ≤ 1) ∧ (0 ≤ m_playDoor.toInt ∧ m_playDoor.toInt ≤ 4) ∧ (m_isOpen = 0 ∨ m_isOpen = 1) ∧ (m_isOver = 0 ∨ m_isOver = 1) ∧ (m_wasTried = 0 ∨ m_wasTried = 1) ∧ (zC g_c) ∧ (zRg 10 0 9 g_there) := ⟨(by decide +kernel), (by omega), (by omega), (by omega), (by omega), (by omega), (by omega), (by omega), hz_m_isOpen, hz_m_isOver, hz_m_wasTried, hC_g_c, hC_g_there⟩
          exact hret _ _ _ _ _ _ (n_30, 0, m_above, m_under, m_thereMany, m_random, m_truePlace, m_trueWay, m_seconds, m_done, m_feelings, m_tries, m_leftOver, m_playDoor, m_isOpen, m_isOver, m_wasTried, g_c, g_there, g_shared, g_feltNow, g_kept) [5, 4, 0, 1, 2, 3] hP hD hS rfl (by decide) dX12_tally_66 hpost
        · skip
          refine lv_if_ne (tgt := 67) hx hb dX12_tally_58 (by decide) (fun _ => ?_) (fun h9 => absurd h9 (by decide +kernel))
          refine lv_aload_n hx hb dX12_tally_67 rfl (lv_at hl 0 rfl) ?_
          refine lv_iload_n hx hb dX12_tally_68 rfl (lv_at hl 1 rfl) ?_
          refine z_callVv (As := [.int r]) (rest := []) (wr := [(a_shared, .inl (cA.1 1, 20, .inr (.inl g_shared))), (a_feltNow, .inl (cA.1 0, 3, .inl g_feltNow)), (a_kept, .inl (cA.1 0, 20, .inl g_kept))]) ⟨hx, hb, hml, hown, hts⟩ hK hE hT hP hD hS hA (r_gather l G cA h0 0 0 m_above m_under a_traySort a_trayMany a_numbers a_tape m_taped m_textEnd m_faultKind m_faultAt m_bad m_badAt m_token m_at m_behind m_number m_letters m_word a_c a_words m_markMany a_there a_tried a_best a_found m_thereMany m_foundMany m_orderHow m_orderRing m_orderMany m_hasBest m_bestTop m_bestBy a_weights a_shared m_random m_truePlace m_trueWay m_seconds m_done m_feelings m_tries m_leftOver m_playDoor m_playRing m_isOpen m_isOver m_wasTried m_hasPlayed a_feltNow a_last a_kept m_hasSeconds m_hasTurned m_hasRound a_hasFeels a_isOn m_firstAct m_meanTop m_meanBy a_order m_rowMany m_newSteps g_c g_there r (by omega) (by omega) hC_g_c hC_g_there) lk_RX12_292 ⟨rfl, rfl⟩ ⟨Nat.le_of_ble_eq_true rfl, Nat.le_of_ble_eq_true rfl⟩ 12 rfl rfl rfl [4, 5, 0] [1, 2, 3] rfl rfl (by decide) rfl hl.1 rfl (lv_room (Nat.le_of_ble_eq_true rfl)) dX12_tally_69 ⟨Nat.le_of_ble_eq_true rfl, Nat.le_of_ble_eq_true rfl⟩ (fun u_36 H locs hw hP hD hS => ?_)
          obtain ⟨n_33, n_34⟩ := u_36
          try dsimp only at hw
          obtain ⟨hr_n_33, hC_n_34, hf_37, hf_38⟩ := hw
          refine lv_aload_n hx hb dX12_tally_72 rfl (lv_at hl 0 rfl) ?_
          refine va_get (D := G) (ci := 12) (v := .int n_33) (C := RX12) (T := TX12) (N := 65) hx hb hts inT12 hown hK hP 3 rfl rfl 27 (by decide) (hts _ tw_1912) (fun _ h9 => h9) rfl dX12_tally_73 ?_
          refine lv_if_ne (tgt := 86) hx hb dX12_tally_76 (by decide) (fun c_39 => ?_) (fun c_39 => ?_)
          · have b_40 := z_fneT c_39
            refine lv_iconst (v := 0) hx hb dX12_tally_86 (by decide) ?_
            refine lv_istore (lv' := [(5, .int 0), (0, .ref h0), (1, .int r), (2, .int d), (3, .int seed), (4, .int nn)]) hx hb dX12_tally_87 hl (by decide) rfl (fun ls hl => ?_)
            refine lv_lconst (v := 0) hx hb dX12_tally_89 (by decide) ?_
            refine lv_lstore (lv' := [(6, .long 0), (5, .int 0), (0, .ref h0), (1, .int r), (2, .int d), (3, .int seed), (4, .int nn)]) hx hb dX12_tally_90 hl (by decide) rfl (fun ls hl => ?_)
            refine lv_iconst (v := 0) hx hb dX12_tally_92 (by decide) ?_
            refine lv_istore (lv' := [(8, .int 0), (6, .long 0), (5, .int 0), (0, .ref h0), (1, .int r), (2, .int d), (3, .int seed), (4, .int nn)]) hx hb dX12_tally_93 hl (by decide) rfl (fun ls hl => ?_)
            have hlp_2626 : ∀ (n : Nat) (v_2567 : Int32) (v_2568 : Int64) (v_2569 : Int32) (g_2570 : Nat → Int64) (g_2571 : Nat → Int32) (g_2572 : Nat → Int32) (v_2573 : Int32) (v_2574 : Int32) (v_2575 : Int32) (v_2576 : Int32) (v_2577 : Int32) (v_2578 : Int32) (v_2579 : Int32) (v_2580 : Int32) (v_2581 : Int32) (v_2582 : Int32) (v_2583 : Int32) (v_2584 : Int32) (v_2585 : Int32) (g_2586 : Nat → Int32) (g_2587 : Nat → Int32) (H : Heap) (locs : List Loc) (ls : Array Slot), (2147483647 - v_2569.toInt).toNat < n → (0 ≤ v_2569.toInt ∧ v_2569.toInt ≤ 30) → (1 ≤ v_2573.toInt ∧ v_2573.toInt ≤ 10) → (0 ≤ v_2574.toInt ∧ v_2574.toInt ≤ 65535) → (0 ≤ v_2575.toInt ∧ v_2575.toInt ≤ 9) → (0 ≤ v_2576.toInt ∧ v_2576.toInt ≤ 1) → (0 ≤ v_2578.toInt ∧ v_2578.toInt ≤ 200) → (0 ≤ v_2581.toInt ∧ v_2581.toInt ≤ 1) → (0 ≤ v_2582.toInt ∧ v_2582.toInt ≤ 4) → (v_2583 = 0 ∨ v_2583 = 1) → (v_2584 = 0 ∨ v_2584 = 1) → (v_2585 = 0 ∨ v_2585 = 1) → (zC g_2586) → (zRg 10 0 9 g_2587) → (1 ≤ zgn g_2586 r.toInt) → va_P G vwCl [(a_shared, .inl (cA.1 1, 20, .inr (.inl g_2570))), (a_feltNow, .inl (cA.1 0, 3, .inl g_2571)), (a_kept, .inl (cA.1 0, 20, .inl g_2572)), (h0, .inr (12, [.int 0, .int 0, .long m_above, .long m_under, .ref a_traySort, .ref a_trayMany, .ref a_numbers, .ref a_tape, .int m_taped, .int m_textEnd, .int m_faultKind, .int m_faultAt, .int m_bad, .int m_badAt, .int m_token, .int m_at, .int m_behind, .int m_number, .int m_letters, .long m_word, .ref a_c, .ref a_words, .int m_markMany, .ref a_there, .ref a_tried, .ref a_best, .ref a_found, .int v_2573, .int m_foundMany, .int m_orderHow, .int m_orderRing, .int m_orderMany, .int m_hasBest, .long m_bestTop, .long m_bestBy, .ref a_weights, .ref a_shared, .int v_2574, .int v_2575, .int v_2576, .int v_2577, .int v_2578, .int v_2579, .int v_2580, .int v_2581, .int v_2582, .int m_playRing, .int v_2583, .int v_2584, .int v_2585, .int m_hasPlayed, .ref a_feltNow, .ref a_last, .ref a_kept, .int m_hasSeconds, .int m_hasTurned, .int m_hasRound, .ref a_hasFeels, .ref a_isOn, .int m_firstAct, .long m_meanTop, .long m_meanBy, .ref a_order, .int m_rowMany, .int m_newSteps])), (a_c, .inl (cA.1 0, 1825, .inl g_2586)), (a_there, .inl (cA.1 0, 10, .inl g_2587))] H → va_D A [(a_shared, .inl (cA.1 1, 20, .inr (.inl g_2570))), (a_feltNow, .inl (cA.1 0, 3, .inl g_2571)), (a_kept, .inl (cA.1 0, 20, .inl g_2572)), (h0, .inr (12, [.int 0, .int 0, .long m_above, .long m_under, .ref a_traySort, .ref a_trayMany, .ref a_numbers, .ref a_tape, .int m_taped, .int m_textEnd, .int m_faultKind, .int m_faultAt, .int m_bad, .int m_badAt, .int m_token, .int m_at, .int m_behind, .int m_number, .int m_letters, .long m_word, .ref a_c, .ref a_words, .int m_markMany, .ref a_there, .ref a_tried, .ref a_best, .ref a_found, .int v_2573, .int m_foundMany, .int m_orderHow, .int m_orderRing, .int m_orderMany, .int m_hasBest, .long m_bestTop, .long m_bestBy, .ref a_weights, .ref a_shared, .int v_2574, .int v_2575, .int v_2576, .int v_2577, .int v_2578, .int v_2579, .int v_2580, .int v_2581, .int v_2582, .int m_playRing, .int v_2583, .int v_2584, .int v_2585, .int m_hasPlayed, .ref a_feltNow, .ref a_last, .ref a_kept, .int m_hasSeconds, .int m_hasTurned, .int m_hasRound, .ref a_hasFeels, .ref a_isOn, .int m_firstAct, .long m_meanTop, .long m_meanBy, .ref a_order, .int m_rowMany, .int m_newSteps])), (a_c, .inl (cA.1 0, 1825, .inl g_2586)), (a_there, .inl (cA.1 0, 10, .inl g_2587))] → va_S A s.heap H locs → lv_has ls 9 [(0, .ref h0), (1, .int r), (2, .int d), (3, .int seed), (4, .int nn), (5, .int v_2567), (6, .long v_2568), (8, .int v_2569)] → W p l e ({ frames := 417, cells := 0, slots := 0, locals := 14137 }) s m args below meth c H locs 0 0 Q (F0 m 95 ls []) := by
              intro n
              induction n with
              | zero =>
                intro v_2567 v_2568 v_2569 g_2570 g_2571 g_2572 v_2573 v_2574 v_2575 v_2576 v_2577 v_2578 v_2579 v_2580 v_2581 v_2582 v_2583 v_2584 v_2585 g_2586 g_2587 H locs ls hmu_hlp_2626 hr_v_2569 hr_v_2573 hr_v_2574 hr_v_2575 hr_v_2576 hr_v_2578 hr_v_2581 hr_v_2582 hz_v_2583 hz_v_2584 hz_v_2585 hC_g_2586 hC_g_2587 hi_2625 hP hD hS hl
                exact absurd hmu_hlp_2626 (Nat.not_lt_zero _)
              | succ n ih_2627 =>
                intro v_2567 v_2568 v_2569 g_2570 g_2571 g_2572 v_2573 v_2574 v_2575 v_2576 v_2577 v_2578 v_2579 v_2580 v_2581 v_2582 v_2583 v_2584 v_2585 g_2586 g_2587 H locs ls hmu_hlp_2626 hr_v_2569 hr_v_2573 hr_v_2574 hr_v_2575 hr_v_2576 hr_v_2578 hr_v_2581 hr_v_2582 hz_v_2583 hz_v_2584 hz_v_2585 hC_g_2586 hC_g_2587 hi_2625 hP hD hS hl
                refine lv_iload hx hb dX12_tally_95 (lv_at hl 7 rfl) ?_
                refine lv_iload hx hb dX12_tally_97 (lv_at hl 4 rfl) ?_
                refine lv_icmp_ge (tgt := 145) hx hb dX12_tally_99 (by decide) (fun c_2628 => ?_) (fun c_2628 => ?_)
                · have b_2629 := z_fgeT c_2628
                  refine lv_aload_n hx hb dX12_tally_145 rfl (lv_at hl 0 rfl) ?_
                  refine lv_lload hx hb dX12_tally_146 (lv_at hl 6 rfl) ?_
                  refine lv_iload hx hb dX12_tally_148 (lv_at hl 4 rfl) ?_
                  refine lv_i2l (v := (nn).toInt64) hx hb dX12_tally_150 rfl ?_
                  refine lv_topl (fun x_2630 he_x_2630 => ?_)
                  have hq_x_2630 := z_i2l he_x_2630
                  refine z_callVi (As := [.long v_2568, .long x_2630]) (rest := []) (wr := [(a_shared, .inl (cA.1 1, 20, .inr (.inl g_2570))), (a_feltNow, .inl (cA.1 0, 3, .inl g_2571)), (a_kept, .inl (cA.1 0, 20, .inl g_2572)), (a_c, .inl (cA.1 0, 1825, .inl g_2586)), (a_there, .inl (cA.1 0, 10, .inl g_2587))]) ⟨hx, hb, hml, hown, hts⟩ hK hE hT hP hD hS hA (r_fraction l G cA h0 0 0 m_above m_under a_traySort a_trayMany a_numbers a_tape m_taped m_textEnd m_faultKind m_faultAt m_bad m_badAt m_token m_at m_behind m_number m_letters m_word a_c a_words m_markMany a_there a_tried a_best a_found v_2573 m_foundMany m_orderHow m_orderRing m_orderMany m_hasBest m_bestTop m_bestBy a_weights a_shared v_2574 v_2575 v_2576 v_2577 v_2578 v_2579 v_2580 v_2581 v_2582 m_playRing v_2583 v_2584 v_2585 m_hasPlayed a_feltNow a_last a_kept m_hasSeconds m_hasTurned m_hasRound a_hasFeels a_isOn m_firstAct m_meanTop m_meanBy a_order m_rowMany m_newSteps v_2568 x_2630 (by omega)) lk_RX12_352 ⟨rfl, rfl⟩ ⟨Nat.le_of_ble_eq_true rfl, Nat.le_of_ble_eq_true rfl⟩ 12 rfl rfl rfl [3] [0, 1, 2, 4, 5] rfl rfl (by decide) rfl hl.1 rfl (lv_room (Nat.le_of_ble_eq_true rfl)) dX12_tally_151 ⟨Nat.le_of_ble_eq_true rfl, Nat.le_of_ble_eq_true rfl⟩ (fun r_2633 u_2634 H locs hw hP hD hS => ?_)
                  obtain ⟨n_2631, n_2632⟩ := u_2634
                  try dsimp only at hw
                  obtain ⟨rfl, -⟩ := hw
                  refine lv_pop hx hb dX12_tally_154 rfl ?_
                  refine lv_iload hx hb dX12_tally_155 (lv_at hl 5 rfl) ?_
                  have hpost : (0 ≤ (0 : Int32).toInt ∧ (0 : Int32).toInt ≤ 0) ∧ (0 ≤ v_2573.toInt ∧ v_2573.toInt ≤ 10) ∧ (0 ≤ v_2574.toInt ∧ v_2574.toInt ≤ 65535) ∧ (0 ≤ v_2575.toInt ∧ v_2575.toInt ≤ 9) ∧ (0 ≤ v_2576.toInt ∧ v_2576.toInt ≤ 1) ∧ (0 ≤ v_2578.toInt ∧ v_2578.toInt ≤ 200) ∧ (0 ≤ v_2581.toInt ∧ v_2581.toInt ≤ 1) ∧ (0 ≤ v_2582.toInt ∧ v_2582.toInt ≤ 4) ∧ (v_2583 = 0 ∨ v_2583 = 1) ∧ (v_2584 = 0 ∨ v_2584 = 1) ∧ (v_2585 = 0 ∨ v_2585 = 1) ∧ (zC g_2586) ∧ (zRg 10 0 9 g_2587) := ⟨(by decide +kernel), (by omega), (by omega), (by omega), (by omega), (by omega), (by omega), (by omega), hz_v_2583, hz_v_2584, hz_v_2585, hC_g_2586, hC_g_2587⟩
                  exact hret _ _ _ _ _ _ (0, 0, n_2631, n_2632, v_2573, v_2574, v_2575, v_2576, v_2577, v_2578, v_2579, v_2580, v_2581, v_2582, v_2583, v_2584, v_2585, g_2586, g_2587, g_2570, g_2571, g_2572) [5, 3, 4, 0, 1, 2] hP hD hS rfl (by decide) dX12_tally_157 hpost
                · have b_2635 := z_fltF c_2628
                  refine lv_aload_n hx hb dX12_tally_102 rfl (lv_at hl 0 rfl) ?_
                  refine lv_iload_n hx hb dX12_tally_103 rfl (lv_at hl 1 rfl) ?_
                  refine lv_iload_n hx hb dX12_tally_104 rfl (lv_at hl 2 rfl) ?_
                  refine lv_iload_n hx hb dX12_tally_105 rfl (lv_at hl 3 rfl) ?_
                  refine lv_iload hx hb dX12_tally_106 (lv_at hl 7 rfl) ?_
                  refine lv_iadd hx hb dX12_tally_108 ?_
                  refine lv_topi (fun x_2636 he_x_2636 => ?_)
                  have hq_x_2636 := z_addq he_x_2636 (rfl : seed.toInt = _) (rfl : v_2569.toInt = _) (by omega) (by omega)
                  have hn_k_2637 : 0 ≤ x_2636.toInt ∧ x_2636.toInt ≤ 9999 := by omega
                  refine z_callVv (As := [.int r, .int d, .int x_2636]) (rest := []) (wr := []) ⟨hx, hb, hml, hown, hts⟩ hK hE hT hP hD hS hA (r_playOnce l G cA h0 0 0 m_above m_under a_traySort a_trayMany a_numbers a_tape m_taped m_textEnd m_faultKind m_faultAt m_bad m_badAt m_token m_at m_behind m_number m_letters m_word a_c a_words m_markMany a_there a_tried a_best a_found v_2573 m_foundMany m_orderHow m_orderRing m_orderMany m_hasBest m_bestTop m_bestBy a_weights a_shared v_2574 v_2575 v_2576 v_2577 v_2578 v_2579 v_2580 v_2581 v_2582 m_playRing v_2583 v_2584 v_2585 m_hasPlayed a_feltNow a_last a_kept m_hasSeconds m_hasTurned m_hasRound a_hasFeels a_isOn m_firstAct m_meanTop m_meanBy a_order m_rowMany m_newSteps g_2586 g_2587 g_2570 g_2571 g_2572 r d x_2636 (by omega) (by omega) (by omega) (by omega) (by omega) (by omega) (by omega) (by omega) (by omega) (by omega) hz_v_2583 hz_v_2584 hz_v_2585 hC_g_2586 hC_g_2587 (by omega)) lk_RX12_584 ⟨rfl, rfl⟩ ⟨Nat.le_of_ble_eq_true rfl, Nat.le_of_ble_eq_true rfl⟩ 12 rfl rfl rfl [3, 4, 5, 0, 1, 2] [] rfl rfl (by decide) rfl hl.1 rfl (lv_room (Nat.le_of_ble_eq_true rfl)) dX12_tally_109 ⟨Nat.le_of_ble_eq_true rfl, Nat.le_of_ble_eq_true rfl⟩ (fun u_2657 H locs hw hP hD hS => ?_)
                  obtain ⟨n_2638, n_2639, n_2640, n_2641, n_2642, n_2643, n_2644, n_2645, n_2646, n_2647, n_2648, n_2649, n_2650, n_2651, n_2652, n_2653, n_2654, n_2655⟩ := u_2657
                  try dsimp only at hw
                  obtain ⟨hr_n_2638, hr_n_2639, hr_n_2640, hr_n_2641, hr_n_2643, hr_n_2646, hr_n_2647, hz_n_2648, hz_n_2649, hz_n_2650, hC_n_2651, hC_n_2652, hf_2658⟩ := hw
                  refine lv_iload hx hb dX12_tally_112 (lv_at hl 5 rfl) ?_
                  refine lv_aload_n hx hb dX12_tally_114 rfl (lv_at hl 0 rfl) ?_
                  refine va_get (D := G) (ci := 12) (v := .int n_2648) (C := RX12) (T := TX12) (N := 65) hx hb hts inT12 hown hK hP 0 rfl rfl 47 (by decide) (hts _ tw_1930) (fun _ h9 => h9) rfl dX12_tally_115 ?_
                  refine lv_if_eq (tgt := 125) hx hb dX12_tally_118 (by decide) (fun c_2659 => ?_) (fun c_2659 => ?_)
                  · have b_2660 := z_feqT c_2659
                    refine lv_iconst (v := 0) hx hb dX12_tally_125 (by decide) ?_
                    refine lv_iadd hx hb dX12_tally_126 ?_
                    have hL_v_2567 := z_full v_2567
                    refine lv_topi (fun x_2661 he_x_2661 => ?_)
                    have hq_x_2661 := z_addq he_x_2661 (rfl : v_2567.toInt = _) hk_0 (by omega) (by omega)
                    refine lv_istore (lv' := [(5, .int x_2661), (0, .ref h0), (1, .int r), (2, .int d), (3, .int seed), (4, .int nn), (6, .long v_2568), (8, .int v_2569)]) hx hb dX12_tally_127 hl (by decide) rfl (fun ls hl => ?_)
                    refine lv_lload hx hb dX12_tally_129 (lv_at hl 6 rfl) ?_
                    refine lv_aload_n hx hb dX12_tally_131 rfl (lv_at hl 1 rfl) ?_
                    refine va_get (D := G) (ci := 12) (v := .int n_2642) (C := RX12) (T := TX12) (N := 65) hx hb hts inT12 hown hK hP 0 rfl rfl 40 (by decide) (hts _ tw_1924) (fun _ h9 => h9) rfl dX12_tally_132 ?_
                    refine lv_i2l (v := (n_2642).toInt64) hx hb dX12_tally_135 rfl ?_
                    refine lv_topl (fun x_2662 he_x_2662 => ?_)
                    have hq_x_2662 := z_i2l he_x_2662
                    have hL_n_2642 := z_full n_2642
                    refine lv_ladd hx hb dX12_tally_136 ?_
                    have hL_v_2568 := z_fulll v_2568
                    refine lv_topl (fun x_2663 he_x_2663 => ?_)
                    refine lv_lstore (lv' := [(6, .long x_2663), (5, .int x_2661), (0, .ref h0), (1, .int r), (2, .int d), (3, .int seed), (4, .int nn), (8, .int v_2569)]) hx hb dX12_tally_137 hl (by decide) rfl (fun ls hl => ?_)
                    obtain ⟨x_2664, he_x_2664⟩ : ∃ z : Int32, z = v_2569 + 1 := ⟨_, rfl⟩
                    have hq_x_2664 := z_addq he_x_2664 (rfl : v_2569.toInt = _) hk_1 (by omega) (by omega)
                    refine lv_iinc (v := x_2664) (lv' := [(8, .int x_2664), (6, .long x_2663), (5, .int x_2661), (0, .ref h0), (1, .int r), (2, .int d), (3, .int seed), (4, .int nn)]) hx hb dX12_tally_139 hl (k := 7) rfl ((z_ofi (by decide +kernel)).trans he_x_2664.symm) (by decide) rfl (fun ls hl => ?_)
                    refine lv_goto (tgt := 95) hx hb dX12_tally_142 (by decide) ?_
                    have hP := hP.sub (ws' := [(a_shared, .inl (cA.1 1, 20, .inr (.inl n_2653))), (a_feltNow, .inl (cA.1 0, 3, .inl n_2654)), (a_kept, .inl (cA.1 0, 20, .inl n_2655)), (h0, .inr (12, [.int 0, .int 0, .long m_above, .long m_under, .ref a_traySort, .ref a_trayMany, .ref a_numbers, .ref a_tape, .int m_taped, .int m_textEnd, .int m_faultKind, .int m_faultAt, .int m_bad, .int m_badAt, .int m_token, .int m_at, .int m_behind, .int m_number, .int m_letters, .long m_word, .ref a_c, .ref a_words, .int m_markMany, .ref a_there, .ref a_tried, .ref a_best, .ref a_found, .int n_2638, .int m_foundMany, .int m_orderHow, .int m_orderRing, .int m_orderMany, .int m_hasBest, .long m_bestTop, .long m_bestBy, .ref a_weights, .ref a_shared, .int n_2639, .int n_2640, .int n_2641, .int n_2642, .int n_2643, .int n_2644, .int n_2645, .int n_2646, .int n_2647, .int m_playRing, .int n_2648, .int n_2649, .int n_2650, .int m_hasPlayed, .ref a_feltNow, .ref a_last, .ref a_kept, .int m_hasSeconds, .int m_hasTurned, .int m_hasRound, .ref a_hasFeels, .ref a_isOn, .int m_firstAct, .long m_meanTop, .long m_meanBy, .ref a_order, .int m_rowMany, .int m_newSteps])), (a_c, .inl (cA.1 0, 1825, .inl n_2651)), (a_there, .inl (cA.1 0, 10, .inl n_2652))]) [3, 4, 5, 0, 1, 2] rfl
                    have hD := hD.sub (ws' := [(a_shared, .inl (cA.1 1, 20, .inr (.inl n_2653))), (a_feltNow, .inl (cA.1 0, 3, .inl n_2654)), (a_kept, .inl (cA.1 0, 20, .inl n_2655)), (h0, .inr (12, [.int 0, .int 0, .long m_above, .long m_under, .ref a_traySort, .ref a_trayMany, .ref a_numbers, .ref a_tape, .int m_taped, .int m_textEnd, .int m_faultKind, .int m_faultAt, .int m_bad, .int m_badAt, .int m_token, .int m_at, .int m_behind, .int m_number, .int m_letters, .long m_word, .ref a_c, .ref a_words, .int m_markMany, .ref a_there, .ref a_tried, .ref a_best, .ref a_found, .int n_2638, .int m_foundMany, .int m_orderHow, .int m_orderRing, .int m_orderMany, .int m_hasBest, .long m_bestTop, .long m_bestBy, .ref a_weights, .ref a_shared, .int n_2639, .int n_2640, .int n_2641, .int n_2642, .int n_2643, .int n_2644, .int n_2645, .int n_2646, .int n_2647, .int m_playRing, .int n_2648, .int n_2649, .int n_2650, .int m_hasPlayed, .ref a_feltNow, .ref a_last, .ref a_kept, .int m_hasSeconds, .int m_hasTurned, .int m_hasRound, .ref a_hasFeels, .ref a_isOn, .int m_firstAct, .long m_meanTop, .long m_meanBy, .ref a_order, .int m_rowMany, .int m_newSteps])), (a_c, .inl (cA.1 0, 1825, .inl n_2651)), (a_there, .inl (cA.1 0, 10, .inl n_2652))]) [3, 4, 5, 0, 1, 2] (by decide) rfl
                    exact ih_2627 x_2661 x_2663 x_2664 n_2653 n_2654 n_2655 n_2638 n_2639 n_2640 n_2641 n_2642 n_2643 n_2644 n_2645 n_2646 n_2647 n_2648 n_2649 n_2650 n_2651 n_2652 H locs ls (by omega) (by omega) (by omega) (by omega) (by omega) (by omega) (by omega) (by omega) (by omega) hz_n_2648 hz_n_2649 hz_n_2650 hC_n_2651 hC_n_2652 (by rw [zgn_PF hf_2658 hC_g_2586.1 (by omega) (by omega)]; exact hi_2625) hP hD hS (lv_sub hl [3, 4, 5, 6, 7, 2, 1, 0] rfl)
                  · have b_2665 := z_fneF c_2659
                    refine lv_iconst (v := 1) hx hb dX12_tally_121 (by decide) ?_
                    refine lv_goto (tgt := 126) hx hb dX12_tally_122 (by decide) ?_
                    refine lv_iadd hx hb dX12_tally_126 ?_
                    have hL_v_2567 := z_full v_2567
                    refine lv_topi (fun x_2666 he_x_2666 => ?_)
                    refine lv_istore (lv' := [(5, .int x_2666), (0, .ref h0), (1, .int r), (2, .int d), (3, .int seed), (4, .int nn), (6, .long v_2568), (8, .int v_2569)]) hx hb dX12_tally_127 hl (by decide) rfl (fun ls hl => ?_)
                    refine lv_lload hx hb dX12_tally_129 (lv_at hl 6 rfl) ?_
                    refine lv_aload_n hx hb dX12_tally_131 rfl (lv_at hl 1 rfl) ?_
                    refine va_get (D := G) (ci := 12) (v := .int n_2642) (C := RX12) (T := TX12) (N := 65) hx hb hts inT12 hown hK hP 0 rfl rfl 40 (by decide) (hts _ tw_1924) (fun _ h9 => h9) rfl dX12_tally_132 ?_
                    refine lv_i2l (v := (n_2642).toInt64) hx hb dX12_tally_135 rfl ?_
                    refine lv_topl (fun x_2667 he_x_2667 => ?_)
                    have hq_x_2667 := z_i2l he_x_2667
                    have hL_n_2642 := z_full n_2642
                    refine lv_ladd hx hb dX12_tally_136 ?_
                    have hL_v_2568 := z_fulll v_2568
                    refine lv_topl (fun x_2668 he_x_2668 => ?_)
                    refine lv_lstore (lv' := [(6, .long x_2668), (5, .int x_2666), (0, .ref h0), (1, .int r), (2, .int d), (3, .int seed), (4, .int nn), (8, .int v_2569)]) hx hb dX12_tally_137 hl (by decide) rfl (fun ls hl => ?_)
                    obtain ⟨x_2669, he_x_2669⟩ : ∃ z : Int32, z = v_2569 + 1 := ⟨_, rfl⟩
                    have hq_x_2669 := z_addq he_x_2669 (rfl : v_2569.toInt = _) hk_1 (by omega) (by omega)
                    refine lv_iinc (v := x_2669) (lv' := [(8, .int x_2669), (6, .long x_2668), (5, .int x_2666), (0, .ref h0), (1, .int r), (2, .int d), (3, .int seed), (4, .int nn)]) hx hb dX12_tally_139 hl (k := 7) rfl ((z_ofi (by decide +kernel)).trans he_x_2669.symm) (by decide) rfl (fun ls hl => ?_)
                    refine lv_goto (tgt := 95) hx hb dX12_tally_142 (by decide) ?_
                    have hP := hP.sub (ws' := [(a_shared, .inl (cA.1 1, 20, .inr (.inl n_2653))), (a_feltNow, .inl (cA.1 0, 3, .inl n_2654)), (a_kept, .inl (cA.1 0, 20, .inl n_2655)), (h0, .inr (12, [.int 0, .int 0, .long m_above, .long m_under, .ref a_traySort, .ref a_trayMany, .ref a_numbers, .ref a_tape, .int m_taped, .int m_textEnd, .int m_faultKind, .int m_faultAt, .int m_bad, .int m_badAt, .int m_token, .int m_at, .int m_behind, .int m_number, .int m_letters, .long m_word, .ref a_c, .ref a_words, .int m_markMany, .ref a_there, .ref a_tried, .ref a_best, .ref a_found, .int n_2638, .int m_foundMany, .int m_orderHow, .int m_orderRing, .int m_orderMany, .int m_hasBest, .long m_bestTop, .long m_bestBy, .ref a_weights, .ref a_shared, .int n_2639, .int n_2640, .int n_2641, .int n_2642, .int n_2643, .int n_2644, .int n_2645, .int n_2646, .int n_2647, .int m_playRing, .int n_2648, .int n_2649, .int n_2650, .int m_hasPlayed, .ref a_feltNow, .ref a_last, .ref a_kept, .int m_hasSeconds, .int m_hasTurned, .int m_hasRound, .ref a_hasFeels, .ref a_isOn, .int m_firstAct, .long m_meanTop, .long m_meanBy, .ref a_order, .int m_rowMany, .int m_newSteps])), (a_c, .inl (cA.1 0, 1825, .inl n_2651)), (a_there, .inl (cA.1 0, 10, .inl n_2652))]) [3, 4, 5, 0, 1, 2] rfl
                    have hD := hD.sub (ws' := [(a_shared, .inl (cA.1 1, 20, .inr (.inl n_2653))), (a_feltNow, .inl (cA.1 0, 3, .inl n_2654)), (a_kept, .inl (cA.1 0, 20, .inl n_2655)), (h0, .inr (12, [.int 0, .int 0, .long m_above, .long m_under, .ref a_traySort, .ref a_trayMany, .ref a_numbers, .ref a_tape, .int m_taped, .int m_textEnd, .int m_faultKind, .int m_faultAt, .int m_bad, .int m_badAt, .int m_token, .int m_at, .int m_behind, .int m_number, .int m_letters, .long m_word, .ref a_c, .ref a_words, .int m_markMany, .ref a_there, .ref a_tried, .ref a_best, .ref a_found, .int n_2638, .int m_foundMany, .int m_orderHow, .int m_orderRing, .int m_orderMany, .int m_hasBest, .long m_bestTop, .long m_bestBy, .ref a_weights, .ref a_shared, .int n_2639, .int n_2640, .int n_2641, .int n_2642, .int n_2643, .int n_2644, .int n_2645, .int n_2646, .int n_2647, .int m_playRing, .int n_2648, .int n_2649, .int n_2650, .int m_hasPlayed, .ref a_feltNow, .ref a_last, .ref a_kept, .int m_hasSeconds, .int m_hasTurned, .int m_hasRound, .ref a_hasFeels, .ref a_isOn, .int m_firstAct, .long m_meanTop, .long m_meanBy, .ref a_order, .int m_rowMany, .int m_newSteps])), (a_c, .inl (cA.1 0, 1825, .inl n_2651)), (a_there, .inl (cA.1 0, 10, .inl n_2652))]) [3, 4, 5, 0, 1, 2] (by decide) rfl
                    exact ih_2627 x_2666 x_2668 x_2669 n_2653 n_2654 n_2655 n_2638 n_2639 n_2640 n_2641 n_2642 n_2643 n_2644 n_2645 n_2646 n_2647 n_2648 n_2649 n_2650 n_2651 n_2652 H locs ls (by omega) (by omega) (by omega) (by omega) (by omega) (by omega) (by omega) (by omega) (by omega) hz_n_2648 hz_n_2649 hz_n_2650 hC_n_2651 hC_n_2652 (by rw [zgn_PF hf_2658 hC_g_2586.1 (by omega) (by omega)]; exact hi_2625) hP hD hS (lv_sub hl [3, 4, 5, 6, 7, 2, 1, 0] rfl)
            exact hlp_2626 _ 0 0 0 g_shared g_feltNow g_kept n_33 m_random m_truePlace m_trueWay m_seconds m_done m_feelings m_tries m_leftOver m_playDoor m_isOpen m_isOver m_wasTried g_c n_34 _ _ _ (Nat.lt_succ_self _) (by decide +kernel) (by omega) (by omega) (by omega) (by omega) (by omega) (by omega) (by omega) hz_m_isOpen hz_m_isOver hz_m_wasTried hC_g_c hC_n_34 (by omega) hP hD hS (lv_sub hl [3, 4, 5, 6, 7, 2, 1, 0] rfl)
          · have b_2670 := z_feqF c_39
            refine lv_aload_n hx hb dX12_tally_79 rfl (lv_at hl 0 rfl) ?_
            refine lv_bipush (v := 8) hx hb dX12_tally_80 (by decide) ?_
            refine z_callVi (As := [.int 8]) (rest := []) (wr := [(a_shared, .inl (cA.1 1, 20, .inr (.inl g_shared))), (a_feltNow, .inl (cA.1 0, 3, .inl g_feltNow)), (a_kept, .inl (cA.1 0, 20, .inl g_kept)), (a_c, .inl (cA.1 0, 1825, .inl g_c)), (a_there, .inl (cA.1 0, 10, .inl n_34))]) ⟨hx, hb, hml, hown, hts⟩ hK hE hT hP hD hS hA (r_refuse l G cA h0 0 0 m_above m_under a_traySort a_trayMany a_numbers a_tape m_taped m_textEnd m_faultKind m_faultAt m_bad m_badAt m_token m_at m_behind m_number m_letters m_word a_c a_words m_markMany a_there a_tried a_best a_found n_33 m_foundMany m_orderHow m_orderRing m_orderMany m_hasBest m_bestTop m_bestBy a_weights a_shared m_random m_truePlace m_trueWay m_seconds m_done m_feelings m_tries m_leftOver m_playDoor m_playRing m_isOpen m_isOver m_wasTried m_hasPlayed a_feltNow a_last a_kept m_hasSeconds m_hasTurned m_hasRound a_hasFeels a_isOn m_firstAct m_meanTop m_meanBy a_order m_rowMany m_newSteps 8) lk_RX12_269 ⟨rfl, rfl⟩ ⟨Nat.le_of_ble_eq_true rfl, Nat.le_of_ble_eq_true rfl⟩ 12 rfl rfl rfl [3] [0, 1, 2, 4, 5] rfl rfl (by decide) rfl hl.1 rfl (lv_room (Nat.le_of_ble_eq_true rfl)) dX12_tally_82 ⟨Nat.le_of_ble_eq_true rfl, Nat.le_of_ble_eq_true rfl⟩ (fun r_2672 u_2673 H locs hw hP hD hS => ?_)
            obtain ⟨n_2671, rfl⟩ : ∃ z, z = u_2673 := ⟨_, rfl⟩
            have hr_r_2672 := hw
            have hpost : (0 ≤ (0 : Int32).toInt ∧ (0 : Int32).toInt ≤ 0) ∧ (0 ≤ n_33.toInt ∧ n_33.toInt ≤ 10) ∧ (0 ≤ m_random.toInt ∧ m_random.toInt ≤ 65535) ∧ (0 ≤ m_truePlace.toInt ∧ m_truePlace.toInt ≤ 9) ∧ (0 ≤ m_trueWay.toInt ∧ m_trueWay.toInt ≤ 1) ∧ (0 ≤ m_done.toInt ∧ m_done.toInt ≤ 200) ∧ (0 ≤ m_leftOver.toInt ∧ m_leftOver.toInt ≤ 1) ∧ (0 ≤ m_playDoor.toInt ∧ m_playDoor.toInt ≤ 4) ∧ (m_isOpen = 0 ∨ m_isOpen = 1) ∧ (m_isOver = 0 ∨ m_isOver = 1) ∧ (m_wasTried = 0 ∨ m_wasTried = 1) ∧ (zC g_c) ∧ (zRg 10 0 9 n_34) := ⟨(by decide +kernel), (by omega), (by omega), (by omega), (by omega), (by omega), (by omega), (by omega), hz_m_isOpen, hz_m_isOver, hz_m_wasTried, hC_g_c, hC_n_34⟩
            exact hret _ _ _ _ _ _ (n_2671, 0, m_above, m_under, n_33, m_random, m_truePlace, m_trueWay, m_seconds, m_done, m_feelings, m_tries, m_leftOver, m_playDoor, m_isOpen, m_isOver, m_wasTried, g_c, n_34, g_shared, g_feltNow, g_kept) [5, 3, 4, 0, 1, 2] hP hD hS rfl (by decide) dX12_tally_85 hpost
set_option maxHeartbeats 4000000 in
set_option maxRecDepth 100000 in
theorem r_copy (l : Launch) (G : va_G) (cA : zCA) (h0 : Nat) (m_status : Int32) (m_thrown : Int32) (m_above : Int64) (m_under : Int64) (a_traySort : Nat) (a_trayMany : Nat) (a_numbers : Nat) (a_tape : Nat) (m_taped : Int32) (m_textEnd : Int32) (m_faultKind : Int32) (m_faultAt : Int32) (m_bad : Int32) (m_badAt : Int32) (m_token : Int32) (m_at : Int32) (m_behind : Int32) (m_number : Int32) (m_letters : Int32) (m_word : Int64) (a_c : Nat) (a_words : Nat) (m_markMany : Int32) (a_there : Nat) (a_tried : Nat) (a_best : Nat) (a_found : Nat) (m_thereMany : Int32) (m_foundMany : Int32) (m_orderHow : Int32) (m_orderRing : Int32) (m_orderMany : Int32) (m_hasBest : Int32) (m_bestTop : Int64) (m_bestBy : Int64) (a_weights : Nat) (a_shared : Nat) (m_random : Int32) (m_truePlace : Int32) (m_trueWay : Int32) (m_seconds : Int32) (m_done : Int32) (m_feelings : Int32) (m_tries : Int32) (m_leftOver : Int32) (m_playDoor : Int32) (m_playRing : Int32) (m_isOpen : Int32) (m_isOver : Int32) (m_wasTried : Int32) (m_hasPlayed : Int32) (a_feltNow : Nat) (a_last : Nat) (a_kept : Nat) (m_hasSeconds : Int32) (m_hasTurned : Int32) (m_hasRound : Int32) (a_hasFeels : Nat) (a_isOn : Nat) (m_firstAct : Int32) (m_meanTop : Int64) (m_meanBy : Int64) (a_order : Nat) (m_rowMany : Int32) (m_newSteps : Int32) (g_c : Nat → Int32) (g_words : Nat → Int64) (a : Int32) (b : Int32) (hr_a : 0 ≤ a.toInt ∧ a.toInt ≤ 3) (hr_b : 0 ≤ b.toInt ∧ b.toInt ≤ 3) (hZ_g_c : zC g_c) (hp_0 : a.toInt = 0 ∨ b.toInt = 0) : zCv l yX12_copy cX12_copy 4 none ({ frames := 0, cells := 0, slots := 0, locals := 0 }) G cA [.ref h0, .int a, .int b] [(h0, .inr (12, [.int m_status, .int m_thrown, .long m_above, .long m_under, .ref a_traySort, .ref a_trayMany, .ref a_numbers, .ref a_tape, .int m_taped, .int m_textEnd, .int m_faultKind, .int m_faultAt, .int m_bad, .int m_badAt, .int m_token, .int m_at, .int m_behind, .int m_number, .int m_letters, .long m_word, .ref a_c, .ref a_words, .int m_markMany, .ref a_there, .ref a_tried, .ref a_best, .ref a_found, .int m_thereMany, .int m_foundMany, .int m_orderHow, .int m_orderRing, .int m_orderMany, .int m_hasBest, .long m_bestTop, .long m_bestBy, .ref a_weights, .ref a_shared, .int m_random, .int m_truePlace, .int m_trueWay, .int m_seconds, .int m_done, .int m_feelings, .int m_tries, .int m_leftOver, .int m_playDoor, .int m_playRing, .int m_isOpen, .int m_isOver, .int m_wasTried, .int m_hasPlayed, .ref a_feltNow, .ref a_last, .ref a_kept, .int m_hasSeconds, .int m_hasTurned, .int m_hasRound, .ref a_hasFeels, .ref a_isOn, .int m_firstAct, .long m_meanTop, .long m_meanBy, .ref a_order, .int m_rowMany, .int m_newSteps])), (a_c, .inl (cA.1 0, 1825, .inl g_c)), (a_words, .inl (cA.1 1, 105, .inr (.inl g_words)))] (S := (Nat → Int32) × (Nat → Int64)) (fun (u : (Nat → Int32) × (Nat → Int64)) => (zC u.1)) (fun (u : (Nat → Int32) × (Nat → Int64)) => [(h0, .inr (12, [.int m_status, .int m_thrown, .long m_above, .long m_under, .ref a_traySort, .ref a_trayMany, .ref a_numbers, .ref a_tape, .int m_taped, .int m_textEnd, .int m_faultKind, .int m_faultAt, .int m_bad, .int m_badAt, .int m_token, .int m_at, .int m_behind, .int m_number, .int m_letters, .long m_word, .ref a_c, .ref a_words, .int m_markMany, .ref a_there, .ref a_tried, .ref a_best, .ref a_found, .int m_thereMany, .int m_foundMany, .int m_orderHow, .int m_orderRing, .int m_orderMany, .int m_hasBest, .long m_bestTop, .long m_bestBy, .ref a_weights, .ref a_shared, .int m_random, .int m_truePlace, .int m_trueWay, .int m_seconds, .int m_done, .int m_feelings, .int m_tries, .int m_leftOver, .int m_playDoor, .int m_playRing, .int m_isOpen, .int m_isOver, .int m_wasTried, .int m_hasPlayed, .ref a_feltNow, .ref a_last, .ref a_kept, .int m_hasSeconds, .int m_hasTurned, .int m_hasRound, .ref a_hasFeels, .ref a_isOn, .int m_firstAct, .long m_meanTop, .long m_meanBy, .ref a_order, .int m_rowMany, .int m_newSteps])), (a_c, .inl (cA.1 0, 1825, .inl u.1)), (a_words, .inl (cA.1 1, 105, .inr (.inl u.2)))]) 0 0 := by
  have hk_0 : (0 : Int32).toInt = 0 := by decide +kernel
  have hk_1 : (1 : Int32).toInt = 1 := by decide +kernel
  have hk_21 : (21 : Int32).toInt = 21 := by decide +kernel
  have hk_365 : (365 : Int32).toInt = 365 := by decide +kernel
  have hC_g_c : zCt g_c := hZ_g_c.1
  refine z_start2v (own := RX12) (by decide) (Nat.le_of_ble_eq_true rfl) rfl ?_
  intro p e s m args below meth c A ls Q hx hb hml hts hown hK hE hT hP hD hS hA hl hret
  have hl : lv_has ls 4 [(0, .ref h0), (1, .int a), (2, .int b)] := hl
  refine lv_iconst (v := 0) hx hb dX12_copy_0 (by decide) ?_
  refine lv_istore_n (lv' := [(3, .int 0), (0, .ref h0), (1, .int a), (2, .int b)]) hx hb dX12_copy_1 rfl hl (by decide) rfl (fun ls hl => ?_)
  have hlp_406 : ∀ (n : Nat) (v_393 : Int32) (g_394 : Nat → Int32) (H : Heap) (locs : List Loc) (ls : Array Slot), (2147483647 - v_393.toInt).toNat < n → (0 ≤ v_393.toInt ∧ v_393.toInt ≤ 365) → (zCt g_394) → (zCp g_c g_394 (365 * a.toInt) (365 * b.toInt) v_393.toInt) → va_P G vwCl [(h0, .inr (12, [.int m_status, .int m_thrown, .long m_above, .long m_under, .ref a_traySort, .ref a_trayMany, .ref a_numbers, .ref a_tape, .int m_taped, .int m_textEnd, .int m_faultKind, .int m_faultAt, .int m_bad, .int m_badAt, .int m_token, .int m_at, .int m_behind, .int m_number, .int m_letters, .long m_word, .ref a_c, .ref a_words, .int m_markMany, .ref a_there, .ref a_tried, .ref a_best, .ref a_found, .int m_thereMany, .int m_foundMany, .int m_orderHow, .int m_orderRing, .int m_orderMany, .int m_hasBest, .long m_bestTop, .long m_bestBy, .ref a_weights, .ref a_shared, .int m_random, .int m_truePlace, .int m_trueWay, .int m_seconds, .int m_done, .int m_feelings, .int m_tries, .int m_leftOver, .int m_playDoor, .int m_playRing, .int m_isOpen, .int m_isOver, .int m_wasTried, .int m_hasPlayed, .ref a_feltNow, .ref a_last, .ref a_kept, .int m_hasSeconds, .int m_hasTurned, .int m_hasRound, .ref a_hasFeels, .ref a_isOn, .int m_firstAct, .long m_meanTop, .long m_meanBy, .ref a_order, .int m_rowMany, .int m_newSteps])), (a_c, .inl (cA.1 0, 1825, .inl g_394)), (a_words, .inl (cA.1 1, 105, .inr (.inl g_words)))] H → va_D A [(h0, .inr (12, [.int m_status, .int m_thrown, .long m_above, .long m_under, .ref a_traySort, .ref a_trayMany, .ref a_numbers, .ref a_tape, .int m_taped, .int m_textEnd, .int m_faultKind, .int m_faultAt, .int m_bad, .int m_badAt, .int m_token, .int m_at, .int m_behind, .int m_number, .int m_letters, .long m_word, .ref a_c, .ref a_words, .int m_markMany, .ref a_there, .ref a_tried, .ref a_best, .ref a_found, .int m_thereMany, .int m_foundMany, .int m_orderHow, .int m_orderRing, .int m_orderMany, .int m_hasBest, .long m_bestTop, .long m_bestBy, .ref a_weights, .ref a_shared, .int m_random, .int m_truePlace, .int m_trueWay, .int m_seconds, .int m_done, .int m_feelings, .int m_tries, .int m_leftOver, .int m_playDoor, .int m_playRing, .int m_isOpen, .int m_isOver, .int m_wasTried, .int m_hasPlayed, .ref a_feltNow, .ref a_last, .ref a_kept, .int m_hasSeconds, .int m_hasTurned, .int m_hasRound, .ref a_hasFeels, .ref a_isOn, .int m_firstAct, .long m_meanTop, .long m_meanBy, .ref a_order, .int m_rowMany, .int m_newSteps])), (a_c, .inl (cA.1 0, 1825, .inl g_394)), (a_words, .inl (cA.1 1, 105, .inr (.inl g_words)))] → va_S A s.heap H locs → lv_has ls 4 [(0, .ref h0), (1, .int a), (2, .int b), (3, .int v_393)] → W p l e ({ frames := 0, cells := 0, slots := 0, locals := 0 }) s m args below meth c H locs 0 0 Q (F0 m 2 ls []) := by
    intro n
    induction n with
    | zero =>
      intro v_393 g_394 H locs ls hmu_hlp_406 hr_v_393 hC_g_394 hi_405 hP hD hS hl
      exact absurd hmu_hlp_406 (Nat.not_lt_zero _)
    | succ n ih_407 =>
      intro v_393 g_394 H locs ls hmu_hlp_406 hr_v_393 hC_g_394 hi_405 hP hD hS hl
      refine lv_iload_n hx hb dX12_copy_2 rfl (lv_at hl 3 rfl) ?_
      refine lv_sipush (v := 365) hx hb dX12_copy_3 (by decide) ?_
      refine lv_icmp_ge (tgt := 39) hx hb dX12_copy_6 (by decide) (fun c_408 => ?_) (fun c_408 => ?_)
      · have b_409 := z_fgeT c_408
        have hz_g_394 : zC g_394 := zCp_zC hZ_g_c hC_g_394 (n := v_393.toInt) (a := 365 * a.toInt) (b := 365 * b.toInt) hi_405 (by omega) (by omega) (by omega) (by omega) (zC_block hZ_g_c (by omega))
        refine lv_iconst (v := 0) hx hb dX12_copy_39 (by decide) ?_
        refine lv_istore_n (lv' := [(3, .int 0), (0, .ref h0), (1, .int a), (2, .int b)]) hx hb dX12_copy_40 rfl hl (by decide) rfl (fun ls hl => ?_)
        have hlp_649 : ∀ (n : Nat) (v_637 : Int32) (g_638 : Nat → Int64) (H : Heap) (locs : List Loc) (ls : Array Slot), (2147483647 - v_637.toInt).toNat < n → (0 ≤ v_637.toInt ∧ v_637.toInt ≤ 29) → va_P G vwCl [(h0, .inr (12, [.int m_status, .int m_thrown, .long m_above, .long m_under, .ref a_traySort, .ref a_trayMany, .ref a_numbers, .ref a_tape, .int m_taped, .int m_textEnd, .int m_faultKind, .int m_faultAt, .int m_bad, .int m_badAt, .int m_token, .int m_at, .int m_behind, .int m_number, .int m_letters, .long m_word, .ref a_c, .ref a_words, .int m_markMany, .ref a_there, .ref a_tried, .ref a_best, .ref a_found, .int m_thereMany, .int m_foundMany, .int m_orderHow, .int m_orderRing, .int m_orderMany, .int m_hasBest, .long m_bestTop, .long m_bestBy, .ref a_weights, .ref a_shared, .int m_random, .int m_truePlace, .int m_trueWay, .int m_seconds, .int m_done, .int m_feelings, .int m_tries, .int m_leftOver, .int m_playDoor, .int m_playRing, .int m_isOpen, .int m_isOver, .int m_wasTried, .int m_hasPlayed, .ref a_feltNow, .ref a_last, .ref a_kept, .int m_hasSeconds, .int m_hasTurned, .int m_hasRound, .ref a_hasFeels, .ref a_isOn, .int m_firstAct, .long m_meanTop, .long m_meanBy, .ref a_order, .int m_rowMany, .int m_newSteps])), (a_c, .inl (cA.1 0, 1825, .inl g_394)), (a_words, .inl (cA.1 1, 105, .inr (.inl g_638)))] H → va_D A [(h0, .inr (12, [.int m_status, .int m_thrown, .long m_above, .long m_under, .ref a_traySort, .ref a_trayMany, .ref a_numbers, .ref a_tape, .int m_taped, .int m_textEnd, .int m_faultKind, .int m_faultAt, .int m_bad, .int m_badAt, .int m_token, .int m_at, .int m_behind, .int m_number, .int m_letters, .long m_word, .ref a_c, .ref a_words, .int m_markMany, .ref a_there, .ref a_tried, .ref a_best, .ref a_found, .int m_thereMany, .int m_foundMany, .int m_orderHow, .int m_orderRing, .int m_orderMany, .int m_hasBest, .long m_bestTop, .long m_bestBy, .ref a_weights, .ref a_shared, .int m_random, .int m_truePlace, .int m_trueWay, .int m_seconds, .int m_done, .int m_feelings, .int m_tries, .int m_leftOver, .int m_playDoor, .int m_playRing, .int m_isOpen, .int m_isOver, .int m_wasTried, .int m_hasPlayed, .ref a_feltNow, .ref a_last, .ref a_kept, .int m_hasSeconds, .int m_hasTurned, .int m_hasRound, .ref a_hasFeels, .ref a_isOn, .int m_firstAct, .long m_meanTop, .long m_meanBy, .ref a_order, .int m_rowMany, .int m_newSteps])), (a_c, .inl (cA.1 0, 1825, .inl g_394)), (a_words, .inl (cA.1 1, 105, .inr (.inl g_638)))] → va_S A s.heap H locs → lv_has ls 4 [(0, .ref h0), (1, .int a), (2, .int b), (3, .int v_637)] → W p l e ({ frames := 0, cells := 0, slots := 0, locals := 0 }) s m args below meth c H locs 0 0 Q (F0 m 41 ls []) := by
          intro n
          induction n with
          | zero =>
            intro v_637 g_638 H locs ls hmu_hlp_649 hr_v_637 hP hD hS hl
            exact absurd hmu_hlp_649 (Nat.not_lt_zero _)
          | succ n ih_650 =>
            intro v_637 g_638 H locs ls hmu_hlp_649 hr_v_637 hP hD hS hl
            refine lv_iload_n hx hb dX12_copy_41 rfl (lv_at hl 3 rfl) ?_
            refine lv_bipush (v := 21) hx hb dX12_copy_42 (by decide) ?_
            refine lv_icmp_ge (tgt := 75) hx hb dX12_copy_44 (by decide) (fun c_651 => ?_) (fun c_651 => ?_)
            · have b_652 := z_fgeT c_651
              have hpost : (zC g_394) := hz_g_394
              exact hret _ _ _ _ _ (g_394, g_638) [0, 1, 2] hP hD hS rfl (by decide) dX12_copy_75 hpost
            · have b_653 := z_fltF c_651
              refine lv_aload_n hx hb dX12_copy_47 rfl (lv_at hl 0 rfl) ?_
              refine va_get (D := G) (ci := 12) (v := .ref a_words) (C := RX12) (T := TX12) (N := 65) hx hb hts inT12 hown hK hP 0 rfl rfl 21 (by decide) (hts _ tw_1906) (fun _ h9 => h9) rfl dX12_copy_48 ?_
              refine lv_bipush (v := 21) hx hb dX12_copy_51 (by decide) ?_
              refine lv_iload_n hx hb dX12_copy_53 rfl (lv_at hl 2 rfl) ?_
              refine lv_imul hx hb dX12_copy_54 ?_
              refine lv_topi (fun x_654 he_x_654 => ?_)
              have hq_x_654 := z_mulq he_x_654 hk_21 (rfl : b.toInt = _) (by omega) (by omega)
              refine lv_iload_n hx hb dX12_copy_55 rfl (lv_at hl 3 rfl) ?_
              refine lv_iadd hx hb dX12_copy_56 ?_
              refine lv_topi (fun x_655 he_x_655 => ?_)
              have hq_x_655 := z_addq he_x_655 (rfl : x_654.toInt = _) (rfl : v_637.toInt = _) (by omega) (by omega)
              refine lv_aload_n hx hb dX12_copy_57 rfl (lv_at hl 0 rfl) ?_
              refine va_get (D := G) (ci := 12) (v := .ref a_words) (C := RX12) (T := TX12) (N := 65) hx hb hts inT12 hown hK hP 0 rfl rfl 21 (by decide) (hts _ tw_1906) (fun _ h9 => h9) rfl dX12_copy_58 ?_
              refine lv_bipush (v := 21) hx hb dX12_copy_61 (by decide) ?_
              refine lv_iload_n hx hb dX12_copy_63 rfl (lv_at hl 1 rfl) ?_
              refine lv_imul hx hb dX12_copy_64 ?_
              refine lv_topi (fun x_656 he_x_656 => ?_)
              have hq_x_656 := z_mulq he_x_656 hk_21 (rfl : a.toInt = _) (by omega) (by omega)
              refine lv_iload_n hx hb dX12_copy_65 rfl (lv_at hl 3 rfl) ?_
              refine lv_iadd hx hb dX12_copy_66 ?_
              refine lv_topi (fun x_657 he_x_657 => ?_)
              have hq_x_657 := z_addq he_x_657 (rfl : x_656.toInt = _) (rfl : v_637.toInt = _) (by omega) (by omega)
              refine va_lald hx hb hK hP 2 1 rfl rfl (z_inN (by omega) (by omega)) dX12_copy_67 ?_
              refine lv_topl (fun x_658 he_x_658 => ?_)
              refine z_last hx hb hK hP hD hS 2 1 rfl rfl (z_inN (by omega) (by omega)) dX12_copy_68 (fun g_659 hg_g_659 H locs hP hD hS => ?_)
              obtain ⟨x_660, he_x_660⟩ : ∃ z : Int32, z = v_637 + 1 := ⟨_, rfl⟩
              have hq_x_660 := z_addq he_x_660 (rfl : v_637.toInt = _) hk_1 (by omega) (by omega)
              refine lv_iinc (v := x_660) (lv' := [(3, .int x_660), (0, .ref h0), (1, .int a), (2, .int b)]) hx hb dX12_copy_69 hl (k := 3) rfl ((z_ofi (by decide +kernel)).trans he_x_660.symm) (by decide) rfl (fun ls hl => ?_)
              refine lv_goto (tgt := 41) hx hb dX12_copy_72 (by decide) ?_
              exact ih_650 x_660 g_659 H locs ls (by omega) (by omega) hP hD hS (lv_sub hl [1, 2, 3, 0] rfl)
        exact hlp_649 _ 0 g_words _ _ _ (Nat.lt_succ_self _) (by decide +kernel) hP hD hS (lv_sub hl [1, 2, 3, 0] rfl)
      · have b_661 := z_fltF c_408
        refine lv_aload_n hx hb dX12_copy_9 rfl (lv_at hl 0 rfl) ?_
        refine va_get (D := G) (ci := 12) (v := .ref a_c) (C := RX12) (T := TX12) (N := 65) hx hb hts inT12 hown hK hP 0 rfl rfl 20 (by decide) (hts _ tw_1905) (fun _ h9 => h9) rfl dX12_copy_10 ?_
        refine lv_sipush (v := 365) hx hb dX12_copy_13 (by decide) ?_
        refine lv_iload_n hx hb dX12_copy_16 rfl (lv_at hl 2 rfl) ?_
        refine lv_imul hx hb dX12_copy_17 ?_
        refine lv_topi (fun x_662 he_x_662 => ?_)
        have hq_x_662 := z_mulq he_x_662 hk_365 (rfl : b.toInt = _) (by omega) (by omega)
        refine lv_iload_n hx hb dX12_copy_18 rfl (lv_at hl 3 rfl) ?_
        refine lv_iadd hx hb dX12_copy_19 ?_
        refine lv_topi (fun x_663 he_x_663 => ?_)
        have hq_x_663 := z_addq he_x_663 (rfl : x_662.toInt = _) (rfl : v_393.toInt = _) (by omega) (by omega)
        refine lv_aload_n hx hb dX12_copy_20 rfl (lv_at hl 0 rfl) ?_
        refine va_get (D := G) (ci := 12) (v := .ref a_c) (C := RX12) (T := TX12) (N := 65) hx hb hts inT12 hown hK hP 0 rfl rfl 20 (by decide) (hts _ tw_1905) (fun _ h9 => h9) rfl dX12_copy_21 ?_
        refine lv_sipush (v := 365) hx hb dX12_copy_24 (by decide) ?_
        refine lv_iload_n hx hb dX12_copy_27 rfl (lv_at hl 1 rfl) ?_
        refine lv_imul hx hb dX12_copy_28 ?_
        refine lv_topi (fun x_664 he_x_664 => ?_)
        have hq_x_664 := z_mulq he_x_664 hk_365 (rfl : a.toInt = _) (by omega) (by omega)
        refine lv_iload_n hx hb dX12_copy_29 rfl (lv_at hl 3 rfl) ?_
        refine lv_iadd hx hb dX12_copy_30 ?_
        refine lv_topi (fun x_665 he_x_665 => ?_)
        have hq_x_665 := z_addq he_x_665 (rfl : x_664.toInt = _) (rfl : v_393.toInt = _) (by omega) (by omega)
        refine va_iald hx hb hK hP 1 0 rfl rfl (z_inN (by omega) (by omega)) dX12_copy_31 ?_
        refine lv_topi (fun x_666 he_x_666 => ?_)
        refine z_iast hx hb hK hP hD hS 1 0 rfl rfl (z_inN (by omega) (by omega)) dX12_copy_32 (fun g_667 hg_g_667 H locs hP hD hS => ?_)
        have hC_g_667 := z_ctUct hC_g_394 hg_g_667 he_x_666 (by omega) (by omega) (by omega) (by omega) (by omega)
        obtain ⟨x_668, he_x_668⟩ : ∃ z : Int32, z = v_393 + 1 := ⟨_, rfl⟩
        have hq_x_668 := z_addq he_x_668 (rfl : v_393.toInt = _) hk_1 (by omega) (by omega)
        refine lv_iinc (v := x_668) (lv' := [(3, .int x_668), (0, .ref h0), (1, .int a), (2, .int b)]) hx hb dX12_copy_33 hl (k := 3) rfl ((z_ofi (by decide +kernel)).trans he_x_668.symm) (by decide) rfl (fun ls hl => ?_)
        refine lv_goto (tgt := 2) hx hb dX12_copy_36 (by decide) ?_
        exact ih_407 x_668 g_667 H locs ls (by omega) (by omega) hC_g_667 (by rw [hq_x_668]; exact zCp_step hi_405 hg_g_667 (by omega) he_x_666 (by omega) (by omega) (by omega) (by omega) (by omega) (by omega)) hP hD hS (lv_sub hl [1, 2, 3, 0] rfl)
  exact hlp_406 _ 0 g_c _ _ _ (Nat.lt_succ_self _) (by decide +kernel) hC_g_c zCp_0 hP hD hS (lv_sub hl [1, 2, 3, 0] rfl)
set_option maxHeartbeats 4000000 in
set_option maxRecDepth 100000 in
theorem r_mark (l : Launch) (G : va_G) (cA : zCA) (h0 : Nat) (m_status : Int32) (m_thrown : Int32) (m_above : Int64) (m_under : Int64) (a_traySort : Nat) (a_trayMany : Nat) (a_numbers : Nat) (a_tape : Nat) (m_taped : Int32) (m_textEnd : Int32) (m_faultKind : Int32) (m_faultAt : Int32) (m_bad : Int32) (m_badAt : Int32) (m_token : Int32) (m_at : Int32) (m_behind : Int32) (m_number : Int32) (m_letters : Int32) (m_word : Int64) (a_c : Nat) (a_words : Nat) (m_markMany : Int32) (a_there : Nat) (a_tried : Nat) (a_best : Nat) (a_found : Nat) (m_thereMany : Int32) (m_foundMany : Int32) (m_orderHow : Int32) (m_orderRing : Int32) (m_orderMany : Int32) (m_hasBest : Int32) (m_bestTop : Int64) (m_bestBy : Int64) (a_weights : Nat) (a_shared : Nat) (m_random : Int32) (m_truePlace : Int32) (m_trueWay : Int32) (m_seconds : Int32) (m_done : Int32) (m_feelings : Int32) (m_tries : Int32) (m_leftOver : Int32) (m_playDoor : Int32) (m_playRing : Int32) (m_isOpen : Int32) (m_isOver : Int32) (m_wasTried : Int32) (m_hasPlayed : Int32) (a_feltNow : Nat) (a_last : Nat) (a_kept : Nat) (m_hasSeconds : Int32) (m_hasTurned : Int32) (m_hasRound : Int32) (a_hasFeels : Nat) (a_isOn : Nat) (m_firstAct : Int32) (m_meanTop : Int64) (m_meanBy : Int64) (a_order : Nat) (m_rowMany : Int32) (m_newSteps : Int32) (g_c : Nat → Int32) (g_words : Nat → Int64) (hr_m_markMany : 0 ≤ m_markMany.toInt ∧ m_markMany.toInt ≤ 3) (hC_g_c : zC g_c) : zCi l yX12_mark cX12_mark 1 (some .int) ({ frames := 1, cells := 0, slots := 0, locals := 23 }) G cA [.ref h0] [(h0, .inr (12, [.int m_status, .int m_thrown, .long m_above, .long m_under, .ref a_traySort, .ref a_trayMany, .ref a_numbers, .ref a_tape, .int m_taped, .int m_textEnd, .int m_faultKind, .int m_faultAt, .int m_bad, .int m_badAt, .int m_token, .int m_at, .int m_behind, .int m_number, .int m_letters, .long m_word, .ref a_c, .ref a_words, .int m_markMany, .ref a_there, .ref a_tried, .ref a_best, .ref a_found, .int m_thereMany, .int m_foundMany, .int m_orderHow, .int m_orderRing, .int m_orderMany, .int m_hasBest, .long m_bestTop, .long m_bestBy, .ref a_weights, .ref a_shared, .int m_random, .int m_truePlace, .int m_trueWay, .int m_seconds, .int m_done, .int m_feelings, .int m_tries, .int m_leftOver, .int m_playDoor, .int m_playRing, .int m_isOpen, .int m_isOver, .int m_wasTried, .int m_hasPlayed, .ref a_feltNow, .ref a_last, .ref a_kept, .int m_hasSeconds, .int m_hasTurned, .int m_hasRound, .ref a_hasFeels, .ref a_isOn, .int m_firstAct, .long m_meanTop, .long m_meanBy, .ref a_order, .int m_rowMany, .int m_newSteps])), (a_c, .inl (cA.1 0, 1825, .inl g_c)), (a_words, .inl (cA.1 1, 105, .inr (.inl g_words)))] (S := Int32 × Int32 × Int32 × (Nat → Int32) × (Nat → Int64)) (fun (r : Int32) (u : Int32 × Int32 × Int32 × (Nat → Int32) × (Nat → Int64)) => ((-1) ≤ r.toInt ∧ r.toInt ≤ 3) ∧ (0 ≤ u.2.1.toInt ∧ u.2.1.toInt ≤ 0) ∧ (1 ≤ u.2.2.1.toInt ∧ u.2.2.1.toInt ≤ 3) ∧ (zC u.2.2.2.1)) (fun (u : Int32 × Int32 × Int32 × (Nat → Int32) × (Nat → Int64)) => [(h0, .inr (12, [.int u.1, .int u.2.1, .long m_above, .long m_under, .ref a_traySort, .ref a_trayMany, .ref a_numbers, .ref a_tape, .int m_taped, .int m_textEnd, .int m_faultKind, .int m_faultAt, .int m_bad, .int m_badAt, .int m_token, .int m_at, .int m_behind, .int m_number, .int m_letters, .long m_word, .ref a_c, .ref a_words, .int u.2.2.1, .ref a_there, .ref a_tried, .ref a_best, .ref a_found, .int m_thereMany, .int m_foundMany, .int m_orderHow, .int m_orderRing, .int m_orderMany, .int m_hasBest, .long m_bestTop, .long m_bestBy, .ref a_weights, .ref a_shared, .int m_random, .int m_truePlace, .int m_trueWay, .int m_seconds, .int m_done, .int m_feelings, .int m_tries, .int m_leftOver, .int m_playDoor, .int m_playRing, .int m_isOpen, .int m_isOver, .int m_wasTried, .int m_hasPlayed, .ref a_feltNow, .ref a_last, .ref a_kept, .int m_hasSeconds, .int m_hasTurned, .int m_hasRound, .ref a_hasFeels, .ref a_isOn, .int m_firstAct, .long m_meanTop, .long m_meanBy, .ref a_order, .int m_rowMany, .int m_newSteps])), (a_c, .inl (cA.1 0, 1825, .inl u.2.2.2.1)), (a_words, .inl (cA.1 1, 105, .inr (.inl u.2.2.2.2)))]) 0 0 := by
  have hk_0 : (0 : Int32).toInt = 0 := by decide +kernel
  have hk_1 : (1 : Int32).toInt = 1 := by decide +kernel
  have hk_3 : (3 : Int32).toInt = 3 := by decide +kernel
  have hk_7 : (7 : Int32).toInt = 7 := by decide +kernel
  refine z_start2i (own := RX12) (by decide) (Nat.le_of_ble_eq_true rfl) rfl ?_
  intro p e s m args below meth c A ls Q hx hb hml hts hown hK hE hT hP hD hS hA hl hret
  have hl : lv_has ls 1 [(0, .ref h0)] := hl
  refine lv_aload_n hx hb dX12_mark_0 rfl (lv_at hl 0 rfl) ?_
  refine lv_iconst (v := 0) hx hb dX12_mark_1 (by decide) ?_
  refine va_put (D := G) (ci := 12) (v := .int 0) (ty := .int) (C := RX12) (T := TX12) (N := 65) hx hb hts inT12 tyX12 tyX12_ok nmX12 hown hK hP hD hS 0 rfl rfl 1 (by decide) (hts _ tw_1886) (fun _ h9 => h9) rfl (tyX12_ok 1 (by decide)) rfl rfl (Nat.le_of_ble_eq_true rfl) dX12_mark_2 (fun H locs hP hD hS => ?_)
  refine lv_aload_n hx hb dX12_mark_5 rfl (lv_at hl 0 rfl) ?_
  refine lv_iconst (v := 0) hx hb dX12_mark_6 (by decide) ?_
  refine va_put (D := G) (ci := 12) (v := .int 0) (ty := .int) (C := RX12) (T := TX12) (N := 65) hx hb hts inT12 tyX12 tyX12_ok nmX12 hown hK hP hD hS 0 rfl rfl 0 (by decide) (hts _ tw_1885) (fun _ h9 => h9) rfl (tyX12_ok 0 (by decide)) rfl rfl (Nat.le_of_ble_eq_true rfl) dX12_mark_7 (fun H locs hP hD hS => ?_)
  refine lv_aload_n hx hb dX12_mark_10 rfl (lv_at hl 0 rfl) ?_
  refine va_get (D := G) (ci := 12) (v := .int m_markMany) (C := RX12) (T := TX12) (N := 65) hx hb hts inT12 hown hK hP 0 rfl rfl 22 (by decide) (hts _ tw_1907) (fun _ h9 => h9) rfl dX12_mark_11 ?_
  refine lv_iconst (v := 3) hx hb dX12_mark_14 (by decide) ?_
  refine lv_icmp_ne (tgt := 25) hx hb dX12_mark_15 (by decide) (fun c_1 => ?_) (fun c_1 => ?_)
  · have b_2 := z_fneT c_1
    refine lv_aload_n hx hb dX12_mark_25 rfl (lv_at hl 0 rfl) ?_
    refine lv_dup hx hb dX12_mark_26 rfl ?_
    refine va_get (D := G) (ci := 12) (v := .int m_markMany) (C := RX12) (T := TX12) (N := 65) hx hb hts inT12 hown hK hP 0 rfl rfl 22 (by decide) (hts _ tw_1907) (fun _ h9 => h9) rfl dX12_mark_27 ?_
    refine lv_iconst (v := 1) hx hb dX12_mark_30 (by decide) ?_
    refine lv_iadd hx hb dX12_mark_31 ?_
    refine lv_topi (fun x_3 he_x_3 => ?_)
    have hq_x_3 := z_addq he_x_3 (rfl : m_markMany.toInt = _) hk_1 (by omega) (by omega)
    refine va_put (D := G) (ci := 12) (v := .int x_3) (ty := .int) (C := RX12) (T := TX12) (N := 65) hx hb hts inT12 tyX12 tyX12_ok nmX12 hown hK hP hD hS 0 rfl rfl 22 (by decide) (hts _ tw_1907) (fun _ h9 => h9) rfl (tyX12_ok 22 (by decide)) rfl rfl (Nat.le_of_ble_eq_true rfl) dX12_mark_32 (fun H locs hP hD hS => ?_)
    refine lv_aload_n hx hb dX12_mark_35 rfl (lv_at hl 0 rfl) ?_
    refine lv_iconst (v := 0) hx hb dX12_mark_36 (by decide) ?_
    refine lv_aload_n hx hb dX12_mark_37 rfl (lv_at hl 0 rfl) ?_
    refine va_get (D := G) (ci := 12) (v := .int x_3) (C := RX12) (T := TX12) (N := 65) hx hb hts inT12 hown hK hP 0 rfl rfl 22 (by decide) (hts _ tw_1907) (fun _ h9 => h9) rfl dX12_mark_38 ?_
    refine z_callVv (As := [.int 0, .int x_3]) (rest := []) (wr := []) ⟨hx, hb, hml, hown, hts⟩ hK hE hT hP hD hS hA (r_copy l G cA h0 0 0 m_above m_under a_traySort a_trayMany a_numbers a_tape m_taped m_textEnd m_faultKind m_faultAt m_bad m_badAt m_token m_at m_behind m_number m_letters m_word a_c a_words x_3 a_there a_tried a_best a_found m_thereMany m_foundMany m_orderHow m_orderRing m_orderMany m_hasBest m_bestTop m_bestBy a_weights a_shared m_random m_truePlace m_trueWay m_seconds m_done m_feelings m_tries m_leftOver m_playDoor m_playRing m_isOpen m_isOver m_wasTried m_hasPlayed a_feltNow a_last a_kept m_hasSeconds m_hasTurned m_hasRound a_hasFeels a_isOn m_firstAct m_meanTop m_meanBy a_order m_rowMany m_newSteps g_c g_words 0 x_3 (by decide +kernel) (by omega) hC_g_c (by omega)) lk_RX12_597 ⟨rfl, rfl⟩ ⟨Nat.le_of_ble_eq_true rfl, Nat.le_of_ble_eq_true rfl⟩ 12 rfl rfl rfl [0, 1, 2] [] rfl rfl (by decide) rfl hl.1 rfl (lv_room (Nat.le_of_ble_eq_true rfl)) dX12_mark_41 ⟨Nat.le_of_ble_eq_true rfl, Nat.le_of_ble_eq_true rfl⟩ (fun u_7 H locs hw hP hD hS => ?_)
    obtain ⟨n_4, n_5⟩ := u_7
    try dsimp only at hw
    have hC_n_4 := hw
    refine lv_aload_n hx hb dX12_mark_44 rfl (lv_at hl 0 rfl) ?_
    refine va_get (D := G) (ci := 12) (v := .int x_3) (C := RX12) (T := TX12) (N := 65) hx hb hts inT12 hown hK hP 0 rfl rfl 22 (by decide) (hts _ tw_1907) (fun _ h9 => h9) rfl dX12_mark_45 ?_
    have hpost : ((-1) ≤ x_3.toInt ∧ x_3.toInt ≤ 3) ∧ (0 ≤ (0 : Int32).toInt ∧ (0 : Int32).toInt ≤ 0) ∧ (1 ≤ x_3.toInt ∧ x_3.toInt ≤ 3) ∧ (zC n_4) := ⟨(by omega), (by decide +kernel), (by omega), hC_n_4⟩
    exact hret _ _ _ _ _ _ (0, 0, x_3, n_4, n_5) [0, 1, 2] hP hD hS rfl (by decide) dX12_mark_48 hpost
  · have b_8 := z_feqF c_1
    refine lv_aload_n hx hb dX12_mark_18 rfl (lv_at hl 0 rfl) ?_
    refine lv_bipush (v := 7) hx hb dX12_mark_19 (by decide) ?_
    refine z_callVi (As := [.int 7]) (rest := []) (wr := [(a_c, .inl (cA.1 0, 1825, .inl g_c)), (a_words, .inl (cA.1 1, 105, .inr (.inl g_words)))]) ⟨hx, hb, hml, hown, hts⟩ hK hE hT hP hD hS hA (r_refuse l G cA h0 0 0 m_above m_under a_traySort a_trayMany a_numbers a_tape m_taped m_textEnd m_faultKind m_faultAt m_bad m_badAt m_token m_at m_behind m_number m_letters m_word a_c a_words m_markMany a_there a_tried a_best a_found m_thereMany m_foundMany m_orderHow m_orderRing m_orderMany m_hasBest m_bestTop m_bestBy a_weights a_shared m_random m_truePlace m_trueWay m_seconds m_done m_feelings m_tries m_leftOver m_playDoor m_playRing m_isOpen m_isOver m_wasTried m_hasPlayed a_feltNow a_last a_kept m_hasSeconds m_hasTurned m_hasRound a_hasFeels a_isOn m_firstAct m_meanTop m_meanBy a_order m_rowMany m_newSteps 7) lk_RX12_269 ⟨rfl, rfl⟩ ⟨Nat.le_of_ble_eq_true rfl, Nat.le_of_ble_eq_true rfl⟩ 12 rfl rfl rfl [0] [1, 2] rfl rfl (by decide) rfl hl.1 rfl (lv_room (Nat.le_of_ble_eq_true rfl)) dX12_mark_21 ⟨Nat.le_of_ble_eq_true rfl, Nat.le_of_ble_eq_true rfl⟩ (fun r_10 u_11 H locs hw hP hD hS => ?_)
    obtain ⟨n_9, rfl⟩ : ∃ z, z = u_11 := ⟨_, rfl⟩
    have hr_r_10 := hw
    have hpost : ((-1) ≤ r_10.toInt ∧ r_10.toInt ≤ 3) ∧ (0 ≤ (0 : Int32).toInt ∧ (0 : Int32).toInt ≤ 0) ∧ (1 ≤ m_markMany.toInt ∧ m_markMany.toInt ≤ 3) ∧ (zC g_c) := ⟨(by omega), (by decide +kernel), (by omega), hC_g_c⟩
    exact hret _ _ _ _ _ _ (n_9, 0, m_markMany, g_c, g_words) [2, 0, 1] hP hD hS rfl (by decide) dX12_mark_24 hpost
set_option maxHeartbeats 4000000 in
set_option maxRecDepth 100000 in
theorem r_back (l : Launch) (G : va_G) (cA : zCA) (h0 : Nat) (m_status : Int32) (m_thrown : Int32) (m_above : Int64) (m_under : Int64) (a_traySort : Nat) (a_trayMany : Nat) (a_numbers : Nat) (a_tape : Nat) (m_taped : Int32) (m_textEnd : Int32) (m_faultKind : Int32) (m_faultAt : Int32) (m_bad : Int32) (m_badAt : Int32) (m_token : Int32) (m_at : Int32) (m_behind : Int32) (m_number : Int32) (m_letters : Int32) (m_word : Int64) (a_c : Nat) (a_words : Nat) (m_markMany : Int32) (a_there : Nat) (a_tried : Nat) (a_best : Nat) (a_found : Nat) (m_thereMany : Int32) (m_foundMany : Int32) (m_orderHow : Int32) (m_orderRing : Int32) (m_orderMany : Int32) (m_hasBest : Int32) (m_bestTop : Int64) (m_bestBy : Int64) (a_weights : Nat) (a_shared : Nat) (m_random : Int32) (m_truePlace : Int32) (m_trueWay : Int32) (m_seconds : Int32) (m_done : Int32) (m_feelings : Int32) (m_tries : Int32) (m_leftOver : Int32) (m_playDoor : Int32) (m_playRing : Int32) (m_isOpen : Int32) (m_isOver : Int32) (m_wasTried : Int32) (m_hasPlayed : Int32) (a_feltNow : Nat) (a_last : Nat) (a_kept : Nat) (m_hasSeconds : Int32) (m_hasTurned : Int32) (m_hasRound : Int32) (a_hasFeels : Nat) (a_isOn : Nat) (m_firstAct : Int32) (m_meanTop : Int64) (m_meanBy : Int64) (a_order : Nat) (m_rowMany : Int32) (m_newSteps : Int32) (g_c : Nat → Int32) (g_words : Nat → Int64) (hr_m_markMany : 0 ≤ m_markMany.toInt ∧ m_markMany.toInt ≤ 3) (hC_g_c : zC g_c) : zCi l yX12_back cX12_back 1 (some .int) ({ frames := 1, cells := 0, slots := 0, locals := 23 }) G cA [.ref h0] [(h0, .inr (12, [.int m_status, .int m_thrown, .long m_above, .long m_under, .ref a_traySort, .ref a_trayMany, .ref a_numbers, .ref a_tape, .int m_taped, .int m_textEnd, .int m_faultKind, .int m_faultAt, .int m_bad, .int m_badAt, .int m_token, .int m_at, .int m_behind, .int m_number, .int m_letters, .long m_word, .ref a_c, .ref a_words, .int m_markMany, .ref a_there, .ref a_tried, .ref a_best, .ref a_found, .int m_thereMany, .int m_foundMany, .int m_orderHow, .int m_orderRing, .int m_orderMany, .int m_hasBest, .long m_bestTop, .long m_bestBy, .ref a_weights, .ref a_shared, .int m_random, .int m_truePlace, .int m_trueWay, .int m_seconds, .int m_done, .int m_feelings, .int m_tries, .int m_leftOver, .int m_playDoor, .int m_playRing, .int m_isOpen, .int m_isOver, .int m_wasTried, .int m_hasPlayed, .ref a_feltNow, .ref a_last, .ref a_kept, .int m_hasSeconds, .int m_hasTurned, .int m_hasRound, .ref a_hasFeels, .ref a_isOn, .int m_firstAct, .long m_meanTop, .long m_meanBy, .ref a_order, .int m_rowMany, .int m_newSteps])), (a_c, .inl (cA.1 0, 1825, .inl g_c)), (a_words, .inl (cA.1 1, 105, .inr (.inl g_words)))] (S := Int32 × Int32 × Int32 × (Nat → Int32) × (Nat → Int64)) (fun (r : Int32) (u : Int32 × Int32 × Int32 × (Nat → Int32) × (Nat → Int64)) => ((-1) ≤ r.toInt ∧ r.toInt ≤ 2) ∧ (0 ≤ u.2.1.toInt ∧ u.2.1.toInt ≤ 0) ∧ (0 ≤ u.2.2.1.toInt ∧ u.2.2.1.toInt ≤ 2) ∧ (zC u.2.2.2.1)) (fun (u : Int32 × Int32 × Int32 × (Nat → Int32) × (Nat → Int64)) => [(h0, .inr (12, [.int u.1, .int u.2.1, .long m_above, .long m_under, .ref a_traySort, .ref a_trayMany, .ref a_numbers, .ref a_tape, .int m_taped, .int m_textEnd, .int m_faultKind, .int m_faultAt, .int m_bad, .int m_badAt, .int m_token, .int m_at, .int m_behind, .int m_number, .int m_letters, .long m_word, .ref a_c, .ref a_words, .int u.2.2.1, .ref a_there, .ref a_tried, .ref a_best, .ref a_found, .int m_thereMany, .int m_foundMany, .int m_orderHow, .int m_orderRing, .int m_orderMany, .int m_hasBest, .long m_bestTop, .long m_bestBy, .ref a_weights, .ref a_shared, .int m_random, .int m_truePlace, .int m_trueWay, .int m_seconds, .int m_done, .int m_feelings, .int m_tries, .int m_leftOver, .int m_playDoor, .int m_playRing, .int m_isOpen, .int m_isOver, .int m_wasTried, .int m_hasPlayed, .ref a_feltNow, .ref a_last, .ref a_kept, .int m_hasSeconds, .int m_hasTurned, .int m_hasRound, .ref a_hasFeels, .ref a_isOn, .int m_firstAct, .long m_meanTop, .long m_meanBy, .ref a_order, .int m_rowMany, .int m_newSteps])), (a_c, .inl (cA.1 0, 1825, .inl u.2.2.2.1)), (a_words, .inl (cA.1 1, 105, .inr (.inl u.2.2.2.2)))]) 0 0 := by
  have hk_0 : (0 : Int32).toInt = 0 := by decide +kernel
  have hk_1 : (1 : Int32).toInt = 1 := by decide +kernel
  have hk_8 : (8 : Int32).toInt = 8 := by decide +kernel
  refine z_start2i (own := RX12) (by decide) (Nat.le_of_ble_eq_true rfl) rfl ?_
  intro p e s m args below meth c A ls Q hx hb hml hts hown hK hE hT hP hD hS hA hl hret
  have hl : lv_has ls 1 [(0, .ref h0)] := hl
  refine lv_aload_n hx hb dX12_back_0 rfl (lv_at hl 0 rfl) ?_
  refine lv_iconst (v := 0) hx hb dX12_back_1 (by decide) ?_
  refine va_put (D := G) (ci := 12) (v := .int 0) (ty := .int) (C := RX12) (T := TX12) (N := 65) hx hb hts inT12 tyX12 tyX12_ok nmX12 hown hK hP hD hS 0 rfl rfl 1 (by decide) (hts _ tw_1886) (fun _ h9 => h9) rfl (tyX12_ok 1 (by decide)) rfl rfl (Nat.le_of_ble_eq_true rfl) dX12_back_2 (fun H locs hP hD hS => ?_)
  refine lv_aload_n hx hb dX12_back_5 rfl (lv_at hl 0 rfl) ?_
  refine lv_iconst (v := 0) hx hb dX12_back_6 (by decide) ?_
  refine va_put (D := G) (ci := 12) (v := .int 0) (ty := .int) (C := RX12) (T := TX12) (N := 65) hx hb hts inT12 tyX12 tyX12_ok nmX12 hown hK hP hD hS 0 rfl rfl 0 (by decide) (hts _ tw_1885) (fun _ h9 => h9) rfl (tyX12_ok 0 (by decide)) rfl rfl (Nat.le_of_ble_eq_true rfl) dX12_back_7 (fun H locs hP hD hS => ?_)
  refine lv_aload_n hx hb dX12_back_10 rfl (lv_at hl 0 rfl) ?_
  refine va_get (D := G) (ci := 12) (v := .int m_markMany) (C := RX12) (T := TX12) (N := 65) hx hb hts inT12 hown hK hP 0 rfl rfl 22 (by decide) (hts _ tw_1907) (fun _ h9 => h9) rfl dX12_back_11 ?_
  refine lv_if_ne (tgt := 24) hx hb dX12_back_14 (by decide) (fun c_1 => ?_) (fun c_1 => ?_)
  · have b_2 := z_fneT c_1
    refine lv_aload_n hx hb dX12_back_24 rfl (lv_at hl 0 rfl) ?_
    refine lv_aload_n hx hb dX12_back_25 rfl (lv_at hl 0 rfl) ?_
    refine va_get (D := G) (ci := 12) (v := .int m_markMany) (C := RX12) (T := TX12) (N := 65) hx hb hts inT12 hown hK hP 0 rfl rfl 22 (by decide) (hts _ tw_1907) (fun _ h9 => h9) rfl dX12_back_26 ?_
    refine lv_iconst (v := 0) hx hb dX12_back_29 (by decide) ?_
    refine z_callVv (As := [.int m_markMany, .int 0]) (rest := []) (wr := []) ⟨hx, hb, hml, hown, hts⟩ hK hE hT hP hD hS hA (r_copy l G cA h0 0 0 m_above m_under a_traySort a_trayMany a_numbers a_tape m_taped m_textEnd m_faultKind m_faultAt m_bad m_badAt m_token m_at m_behind m_number m_letters m_word a_c a_words m_markMany a_there a_tried a_best a_found m_thereMany m_foundMany m_orderHow m_orderRing m_orderMany m_hasBest m_bestTop m_bestBy a_weights a_shared m_random m_truePlace m_trueWay m_seconds m_done m_feelings m_tries m_leftOver m_playDoor m_playRing m_isOpen m_isOver m_wasTried m_hasPlayed a_feltNow a_last a_kept m_hasSeconds m_hasTurned m_hasRound a_hasFeels a_isOn m_firstAct m_meanTop m_meanBy a_order m_rowMany m_newSteps g_c g_words m_markMany 0 (by omega) (by decide +kernel) hC_g_c (by omega)) lk_RX12_597 ⟨rfl, rfl⟩ ⟨Nat.le_of_ble_eq_true rfl, Nat.le_of_ble_eq_true rfl⟩ 12 rfl rfl rfl [0, 1, 2] [] rfl rfl (by decide) rfl hl.1 rfl (lv_room (Nat.le_of_ble_eq_true rfl)) dX12_back_30 ⟨Nat.le_of_ble_eq_true rfl, Nat.le_of_ble_eq_true rfl⟩ (fun u_6 H locs hw hP hD hS => ?_)
    obtain ⟨n_3, n_4⟩ := u_6
    try dsimp only at hw
    have hC_n_3 := hw
    refine lv_aload_n hx hb dX12_back_33 rfl (lv_at hl 0 rfl) ?_
    refine lv_dup hx hb dX12_back_34 rfl ?_
    refine va_get (D := G) (ci := 12) (v := .int m_markMany) (C := RX12) (T := TX12) (N := 65) hx hb hts inT12 hown hK hP 0 rfl rfl 22 (by decide) (hts _ tw_1907) (fun _ h9 => h9) rfl dX12_back_35 ?_
    refine lv_iconst (v := 1) hx hb dX12_back_38 (by decide) ?_
    refine lv_isub hx hb dX12_back_39 ?_
    refine lv_topi (fun x_7 he_x_7 => ?_)
    have hq_x_7 := z_subq he_x_7 (rfl : m_markMany.toInt = _) hk_1 (by omega) (by omega)
    refine va_put (D := G) (ci := 12) (v := .int x_7) (ty := .int) (C := RX12) (T := TX12) (N := 65) hx hb hts inT12 tyX12 tyX12_ok nmX12 hown hK hP hD hS 0 rfl rfl 22 (by decide) (hts _ tw_1907) (fun _ h9 => h9) rfl (tyX12_ok 22 (by decide)) rfl rfl (Nat.le_of_ble_eq_true rfl) dX12_back_40 (fun H locs hP hD hS => ?_)
    refine lv_aload_n hx hb dX12_back_43 rfl (lv_at hl 0 rfl) ?_
    refine va_get (D := G) (ci := 12) (v := .int x_7) (C := RX12) (T := TX12) (N := 65) hx hb hts inT12 hown hK hP 0 rfl rfl 22 (by decide) (hts _ tw_1907) (fun _ h9 => h9) rfl dX12_back_44 ?_
    have hpost : ((-1) ≤ x_7.toInt ∧ x_7.toInt ≤ 2) ∧ (0 ≤ (0 : Int32).toInt ∧ (0 : Int32).toInt ≤ 0) ∧ (0 ≤ x_7.toInt ∧ x_7.toInt ≤ 2) ∧ (zC n_3) := ⟨(by omega), (by decide +kernel), (by omega), hC_n_3⟩
    exact hret _ _ _ _ _ _ (0, 0, x_7, n_3, n_4) [0, 1, 2] hP hD hS rfl (by decide) dX12_back_47 hpost
  · have b_8 := z_feqF c_1
    refine lv_aload_n hx hb dX12_back_17 rfl (lv_at hl 0 rfl) ?_
    refine lv_bipush (v := 8) hx hb dX12_back_18 (by decide) ?_
    refine z_callVi (As := [.int 8]) (rest := []) (wr := [(a_c, .inl (cA.1 0, 1825, .inl g_c)), (a_words, .inl (cA.1 1, 105, .inr (.inl g_words)))]) ⟨hx, hb, hml, hown, hts⟩ hK hE hT hP hD hS hA (r_refuse l G cA h0 0 0 m_above m_under a_traySort a_trayMany a_numbers a_tape m_taped m_textEnd m_faultKind m_faultAt m_bad m_badAt m_token m_at m_behind m_number m_letters m_word a_c a_words m_markMany a_there a_tried a_best a_found m_thereMany m_foundMany m_orderHow m_orderRing m_orderMany m_hasBest m_bestTop m_bestBy a_weights a_shared m_random m_truePlace m_trueWay m_seconds m_done m_feelings m_tries m_leftOver m_playDoor m_playRing m_isOpen m_isOver m_wasTried m_hasPlayed a_feltNow a_last a_kept m_hasSeconds m_hasTurned m_hasRound a_hasFeels a_isOn m_firstAct m_meanTop m_meanBy a_order m_rowMany m_newSteps 8) lk_RX12_269 ⟨rfl, rfl⟩ ⟨Nat.le_of_ble_eq_true rfl, Nat.le_of_ble_eq_true rfl⟩ 12 rfl rfl rfl [0] [1, 2] rfl rfl (by decide) rfl hl.1 rfl (lv_room (Nat.le_of_ble_eq_true rfl)) dX12_back_20 ⟨Nat.le_of_ble_eq_true rfl, Nat.le_of_ble_eq_true rfl⟩ (fun r_10 u_11 H locs hw hP hD hS => ?_)
    obtain ⟨n_9, rfl⟩ : ∃ z, z = u_11 := ⟨_, rfl⟩
    have hr_r_10 := hw
    have hpost : ((-1) ≤ r_10.toInt ∧ r_10.toInt ≤ 2) ∧ (0 ≤ (0 : Int32).toInt ∧ (0 : Int32).toInt ≤ 0) ∧ (0 ≤ m_markMany.toInt ∧ m_markMany.toInt ≤ 2) ∧ (zC g_c) := ⟨(by omega), (by decide +kernel), (by omega), hC_g_c⟩
    exact hret _ _ _ _ _ _ (n_9, 0, m_markMany, g_c, g_words) [2, 0, 1] hP hD hS rfl (by decide) dX12_back_23 hpost
set_option maxHeartbeats 4000000 in
set_option maxRecDepth 100000 in
theorem r_readFeature (l : Launch) (G : va_G) (cA : zCA) (h0 : Nat) (m_status : Int32) (m_thrown : Int32) (m_above : Int64) (m_under : Int64) (a_traySort : Nat) (a_trayMany : Nat) (a_numbers : Nat) (a_tape : Nat) (m_taped : Int32) (m_textEnd : Int32) (m_faultKind : Int32) (m_faultAt : Int32) (m_bad : Int32) (m_badAt : Int32) (m_token : Int32) (m_at : Int32) (m_behind : Int32) (m_number : Int32) (m_letters : Int32) (m_word : Int64) (a_c : Nat) (a_words : Nat) (m_markMany : Int32) (a_there : Nat) (a_tried : Nat) (a_best : Nat) (a_found : Nat) (m_thereMany : Int32) (m_foundMany : Int32) (m_orderHow : Int32) (m_orderRing : Int32) (m_orderMany : Int32) (m_hasBest : Int32) (m_bestTop : Int64) (m_bestBy : Int64) (a_weights : Nat) (a_shared : Nat) (m_random : Int32) (m_truePlace : Int32) (m_trueWay : Int32) (m_seconds : Int32) (m_done : Int32) (m_feelings : Int32) (m_tries : Int32) (m_leftOver : Int32) (m_playDoor : Int32) (m_playRing : Int32) (m_isOpen : Int32) (m_isOver : Int32) (m_wasTried : Int32) (m_hasPlayed : Int32) (a_feltNow : Nat) (a_last : Nat) (a_kept : Nat) (m_hasSeconds : Int32) (m_hasTurned : Int32) (m_hasRound : Int32) (a_hasFeels : Nat) (a_isOn : Nat) (m_firstAct : Int32) (m_meanTop : Int64) (m_meanBy : Int64) (a_order : Nat) (m_rowMany : Int32) (m_newSteps : Int32) (g_tape : Nat → Int32) (g_c : Nat → Int32) (g_words : Nat → Int64) (g_hasFeels : Nat → Int32) (g_isOn : Nat → Int32) (hr_m_textEnd : 0 ≤ m_textEnd.toInt ∧ m_textEnd.toInt ≤ 900) (hr_m_at : 0 ≤ m_at.toInt ∧ m_at.toInt ≤ 900) (hr_m_behind : 0 ≤ m_behind.toInt ∧ m_behind.toInt ≤ 900) (hr_m_bad : 0 ≤ m_bad.toInt ∧ m_bad.toInt ≤ 0) (hr_m_token : 0 ≤ m_token.toInt ∧ m_token.toInt ≤ 4) (hr_m_number : 0 ≤ m_number.toInt ∧ m_number.toInt ≤ 9999) (hr_m_letters : 0 ≤ m_letters.toInt ∧ m_letters.toInt ≤ 900) (hC_g_c : zC g_c) (hC_g_hasFeels : zRg 3 0 1 g_hasFeels) (hC_g_isOn : zRg 10 0 1 g_isOn) (hNW0 : zNw g_c g_isOn) (hNF0 : zNf g_c) : zCv l yX12_readFeature cX12_readFeature 5 none ({ frames := 4, cells := 0, slots := 0, locals := 91 }) G cA [.ref h0] [(h0, .inr (12, [.int m_status, .int m_thrown, .long m_above, .long m_under, .ref a_traySort, .ref a_trayMany, .ref a_numbers, .ref a_tape, .int m_taped, .int m_textEnd, .int m_faultKind, .int m_faultAt, .int m_bad, .int m_badAt, .int m_token, .int m_at, .int m_behind, .int m_number, .int m_letters, .long m_word, .ref a_c, .ref a_words, .int m_markMany, .ref a_there, .ref a_tried, .ref a_best, .ref a_found, .int m_thereMany, .int m_foundMany, .int m_orderHow, .int m_orderRing, .int m_orderMany, .int m_hasBest, .long m_bestTop, .long m_bestBy, .ref a_weights, .ref a_shared, .int m_random, .int m_truePlace, .int m_trueWay, .int m_seconds, .int m_done, .int m_feelings, .int m_tries, .int m_leftOver, .int m_playDoor, .int m_playRing, .int m_isOpen, .int m_isOver, .int m_wasTried, .int m_hasPlayed, .ref a_feltNow, .ref a_last, .ref a_kept, .int m_hasSeconds, .int m_hasTurned, .int m_hasRound, .ref a_hasFeels, .ref a_isOn, .int m_firstAct, .long m_meanTop, .long m_meanBy, .ref a_order, .int m_rowMany, .int m_newSteps])), (a_tape, .inl (cA.1 2, 900, .inl g_tape)), (a_c, .inl (cA.1 0, 1825, .inl g_c)), (a_words, .inl (cA.1 1, 105, .inr (.inl g_words))), (a_hasFeels, .inl (cA.1 3, 3, .inl g_hasFeels)), (a_isOn, .inl (cA.1 3, 10, .inl g_isOn))] (S := Int32 × Int32 × Int32 × Int32 × Int32 × Int32 × Int32 × Int64 × (Nat → Int64) × (Nat → Int32) × (Nat → Int32)) (fun (u : Int32 × Int32 × Int32 × Int32 × Int32 × Int32 × Int32 × Int64 × (Nat → Int64) × (Nat → Int32) × (Nat → Int32)) => (0 ≤ u.1.toInt ∧ u.1.toInt ≤ 9) ∧ (0 ≤ u.2.2.1.toInt ∧ u.2.2.1.toInt ≤ 4) ∧ (0 ≤ u.2.2.2.1.toInt ∧ u.2.2.2.1.toInt ≤ 900) ∧ (0 ≤ u.2.2.2.2.1.toInt ∧ u.2.2.2.2.1.toInt ≤ 900) ∧ (0 ≤ u.2.2.2.2.2.1.toInt ∧ u.2.2.2.2.2.1.toInt ≤ 9999) ∧ (0 ≤ u.2.2.2.2.2.2.1.toInt ∧ u.2.2.2.2.2.2.1.toInt ≤ 900) ∧ (zC u.2.2.2.2.2.2.2.2.2.1) ∧ (zRg 3 0 1 u.2.2.2.2.2.2.2.2.2.2) ∧ (zNw u.2.2.2.2.2.2.2.2.2.1 g_isOn) ∧ (m_behind.toInt ≤ u.2.2.2.2.1.toInt) ∧ (0 < m_bad.toInt → 0 < u.1.toInt) ∧ (u.1.toInt ≤ 0 → u.2.2.1.toInt = 0 ∨ m_behind.toInt < u.2.2.2.2.1.toInt) ∧ (u.1.toInt ≤ 0 → u.2.2.1.toInt = 3 → u.2.2.2.2.2.1.toInt = 59 → zNf u.2.2.2.2.2.2.2.2.2.1)) (fun (u : Int32 × Int32 × Int32 × Int32 × Int32 × Int32 × Int32 × Int64 × (Nat → Int64) × (Nat → Int32) × (Nat → Int32)) => [(h0, .inr (12, [.int m_status, .int m_thrown, .long m_above, .long m_under, .ref a_traySort, .ref a_trayMany, .ref a_numbers, .ref a_tape, .int m_taped, .int m_textEnd, .int m_faultKind, .int m_faultAt, .int u.1, .int u.2.1, .int u.2.2.1, .int u.2.2.2.1, .int u.2.2.2.2.1, .int u.2.2.2.2.2.1, .int u.2.2.2.2.2.2.1, .long u.2.2.2.2.2.2.2.1, .ref a_c, .ref a_words, .int m_markMany, .ref a_there, .ref a_tried, .ref a_best, .ref a_found, .int m_thereMany, .int m_foundMany, .int m_orderHow, .int m_orderRing, .int m_orderMany, .int m_hasBest, .long m_bestTop, .long m_bestBy, .ref a_weights, .ref a_shared, .int m_random, .int m_truePlace, .int m_trueWay, .int m_seconds, .int m_done, .int m_feelings, .int m_tries, .int m_leftOver, .int m_playDoor, .int m_playRing, .int m_isOpen, .int m_isOver, .int m_wasTried, .int m_hasPlayed, .ref a_feltNow, .ref a_last, .ref a_kept, .int m_hasSeconds, .int m_hasTurned, .int m_hasRound, .ref a_hasFeels, .ref a_isOn, .int m_firstAct, .long m_meanTop, .long m_meanBy, .ref a_order, .int m_rowMany, .int m_newSteps])), (a_tape, .inl (cA.1 2, 900, .inl g_tape)), (a_c, .inl (cA.1 0, 1825, .inl u.2.2.2.2.2.2.2.2.2.1)), (a_words, .inl (cA.1 1, 105, .inr (.inl u.2.2.2.2.2.2.2.2.1))), (a_hasFeels, .inl (cA.1 3, 3, .inl u.2.2.2.2.2.2.2.2.2.2)), (a_isOn, .inl (cA.1 3, 10, .inl g_isOn))]) 0 0 := by
  have hk_0 : (0 : Int32).toInt = 0 := by decide +kernel
  have hk_1 : (1 : Int32).toInt = 1 := by decide +kernel
  have hk_2 : (2 : Int32).toInt = 2 := by decide +kernel
  have hk_3 : (3 : Int32).toInt = 3 := by decide +kernel
  have hk_4 : (4 : Int32).toInt = 4 := by decide +kernel
  have hk_5 : (5 : Int32).toInt = 5 := by decide +kernel
  have hk_6 : (6 : Int32).toInt = 6 := by decide +kernel
  have hk_7 : (7 : Int32).toInt = 7 := by decide +kernel
  have hk_8 : (8 : Int32).toInt = 8 := by decide +kernel
  have hk_16 : (16 : Int32).toInt = 16 := by decide +kernel
  have hk_1471 : (1471 : Int32).toInt = 1471 := by decide +kernel
  have hk_1474 : (1474 : Int32).toInt = 1474 := by decide +kernel
  have hk_1477 : (1477 : Int32).toInt = 1477 := by decide +kernel
  refine z_start2v (own := RX12) (by decide) (Nat.le_of_ble_eq_true rfl) rfl ?_
  intro p e s m args below meth c A ls Q hx hb hml hts hown hK hE hT hP hD hS hA hl hret
  have hl : lv_has ls 5 [(0, .ref h0)] := hl
  refine lv_aload_n hx hb dX12_readFeature_0 rfl (lv_at hl 0 rfl) ?_
  refine va_get (D := G) (ci := 12) (v := .ref a_c) (C := RX12) (T := TX12) (N := 65) hx hb hts inT12 hown hK hP 0 rfl rfl 20 (by decide) (hts _ tw_1905) (fun _ h9 => h9) rfl dX12_readFeature_1 ?_
  refine lv_sipush (v := 1460) hx hb dX12_readFeature_4 (by decide) ?_
  refine va_iald hx hb hK hP 2 0 rfl rfl (z_in (i := 1460) (n := 1825) (by decide +kernel) (by decide +kernel)) dX12_readFeature_7 ?_
  refine lv_topi (fun x_1 he_x_1 => ?_)
  have hr_x_1 := z_ctk hC_g_c he_x_1 (k := 1460) (lo := 0) (hi := 3) (by decide +kernel) (by decide +kernel) (by decide +kernel)
  have hv_x_1 := z_cv he_x_1 (k := 1460) (by decide +kernel)
  refine lv_iconst (v := 3) hx hb dX12_readFeature_8 (by decide) ?_
  refine lv_icmp_ge (tgt := 33) hx hb dX12_readFeature_9 (by decide) (fun c_2 => ?_) (fun c_2 => ?_)
  · have b_3 := z_fgeT c_2
    refine lv_aload_n hx hb dX12_readFeature_33 rfl (lv_at hl 0 rfl) ?_
    refine lv_iconst (v := 0) hx hb dX12_readFeature_34 (by decide) ?_
    refine lv_iconst (v := 3) hx hb dX12_readFeature_35 (by decide) ?_
    refine lv_iconst (v := 0) hx hb dX12_readFeature_36 (by decide) ?_
    refine z_callVi (As := [.int 0, .int 3, .int 0]) (rest := []) (wr := [(a_hasFeels, .inl (cA.1 3, 3, .inl g_hasFeels)), (a_isOn, .inl (cA.1 3, 10, .inl g_isOn))]) ⟨hx, hb, hml, hown, hts⟩ hK hE hT hP hD hS hA (r_readNew_0 l G cA h0 m_status m_thrown m_above m_under a_traySort a_trayMany a_numbers a_tape m_taped m_textEnd m_faultKind m_faultAt m_bad m_badAt m_token m_at m_behind m_number m_letters m_word a_c a_words m_markMany a_there a_tried a_best a_found m_thereMany m_foundMany m_orderHow m_orderRing m_orderMany m_hasBest m_bestTop m_bestBy a_weights a_shared m_random m_truePlace m_trueWay m_seconds m_done m_feelings m_tries m_leftOver m_playDoor m_playRing m_isOpen m_isOver m_wasTried m_hasPlayed a_feltNow a_last a_kept m_hasSeconds m_hasTurned m_hasRound a_hasFeels a_isOn m_firstAct m_meanTop m_meanBy a_order m_rowMany m_newSteps g_tape g_c g_words (by omega) (by omega) (by omega) (by omega) (by omega) (by omega) (by omega) hC_g_c) lk_RX12_207 ⟨rfl, rfl⟩ ⟨Nat.le_of_ble_eq_true rfl, Nat.le_of_ble_eq_true rfl⟩ 12 rfl rfl rfl [0, 1, 2, 3] [4, 5] rfl rfl (by decide) rfl hl.1 rfl (lv_room (Nat.le_of_ble_eq_true rfl)) dX12_readFeature_37 ⟨Nat.le_of_ble_eq_true rfl, Nat.le_of_ble_eq_true rfl⟩ (fun r_13 u_14 H locs hw hP hD hS => ?_)
    obtain ⟨n_4, n_5, n_6, n_7, n_8, n_9, n_10, n_11, n_12⟩ := u_14
    try dsimp only at hw
    obtain ⟨hr_r_13, hr_n_4, hr_n_6, hr_n_7, hr_n_8, hr_n_9, hr_n_10, hf_15, hf_16, hf_17, hf_18, hf_19⟩ := hw
    refine lv_istore_n (lv' := [(1, .int r_13), (0, .ref h0)]) hx hb dX12_readFeature_40 rfl hl (by decide) rfl (fun ls hl => ?_)
    refine lv_aload_n hx hb dX12_readFeature_41 rfl (lv_at hl 1 rfl) ?_
    refine lv_aload_n hx hb dX12_readFeature_42 rfl (lv_at hl 1 rfl) ?_
    refine z_callVi (As := []) (rest := [.ref h0]) (wr := [(a_hasFeels, .inl (cA.1 3, 3, .inl g_hasFeels)), (a_isOn, .inl (cA.1 3, 10, .inl g_isOn)), (a_tape, .inl (cA.1 2, 900, .inl g_tape)), (a_c, .inl (cA.1 0, 1825, .inl g_c)), (a_words, .inl (cA.1 1, 105, .inr (.inl n_12)))]) ⟨hx, hb, hml, hown, hts⟩ hK hE hT hP hD hS hA (r_houseWord l G cA h0 m_status m_thrown m_above m_under a_traySort a_trayMany a_numbers a_tape m_taped m_textEnd m_faultKind m_faultAt n_4 n_5 n_6 n_7 n_8 n_9 n_10 n_11 a_c a_words m_markMany a_there a_tried a_best a_found m_thereMany m_foundMany m_orderHow m_orderRing m_orderMany m_hasBest m_bestTop m_bestBy a_weights a_shared m_random m_truePlace m_trueWay m_seconds m_done m_feelings m_tries m_leftOver m_playDoor m_playRing m_isOpen m_isOver m_wasTried m_hasPlayed a_feltNow a_last a_kept m_hasSeconds m_hasTurned m_hasRound a_hasFeels a_isOn m_firstAct m_meanTop m_meanBy a_order m_rowMany m_newSteps (by omega)) lk_RX12_170 ⟨rfl, rfl⟩ ⟨Nat.le_of_ble_eq_true rfl, Nat.le_of_ble_eq_true rfl⟩ 12 rfl rfl rfl [2] [0, 1, 3, 4, 5] rfl rfl (by decide) rfl hl.1 rfl (lv_room (Nat.le_of_ble_eq_true rfl)) dX12_readFeature_43 ⟨Nat.le_of_ble_eq_true rfl, Nat.le_of_ble_eq_true rfl⟩ (fun r_20 u_21 H locs hw hP hD hS => ?_)
    obtain ⟨hr_r_20, hf_22⟩ := hw
    refine lv_bipush (v := 8) hx hb dX12_readFeature_46 (by decide) ?_
    refine lv_icmp_ne (tgt := 55) hx hb dX12_readFeature_48 (by decide) (fun c_23 => ?_) (fun c_23 => ?_)
    · have b_24 := z_fneT c_23
      refine lv_iconst (v := 0) hx hb dX12_readFeature_55 (by decide) ?_
      refine z_callVv (As := [.int 0]) (rest := []) (wr := [(a_hasFeels, .inl (cA.1 3, 3, .inl g_hasFeels)), (a_isOn, .inl (cA.1 3, 10, .inl g_isOn)), (a_tape, .inl (cA.1 2, 900, .inl g_tape)), (a_c, .inl (cA.1 0, 1825, .inl g_c)), (a_words, .inl (cA.1 1, 105, .inr (.inl n_12)))]) ⟨hx, hb, hml, hown, hts⟩ hK hE hT hP hD hS hA (r_must_0 l G cA h0 m_status m_thrown m_above m_under a_traySort a_trayMany a_numbers a_tape m_taped m_textEnd m_faultKind m_faultAt n_4 n_5 n_6 n_7 n_8 n_9 n_10 n_11 a_c a_words m_markMany a_there a_tried a_best a_found m_thereMany m_foundMany m_orderHow m_orderRing m_orderMany m_hasBest m_bestTop m_bestBy a_weights a_shared m_random m_truePlace m_trueWay m_seconds m_done m_feelings m_tries m_leftOver m_playDoor m_playRing m_isOpen m_isOver m_wasTried m_hasPlayed a_feltNow a_last a_kept m_hasSeconds m_hasTurned m_hasRound a_hasFeels a_isOn m_firstAct m_meanTop m_meanBy a_order m_rowMany m_newSteps (by omega) (by omega) (by omega)) lk_RX12_210 ⟨rfl, rfl⟩ ⟨Nat.le_of_ble_eq_true rfl, Nat.le_of_ble_eq_true rfl⟩ 12 rfl rfl rfl [5] [0, 1, 2, 3, 4] rfl rfl (by decide) rfl hl.1 rfl (lv_room (Nat.le_of_ble_eq_true rfl)) dX12_readFeature_56 ⟨Nat.le_of_ble_eq_true rfl, Nat.le_of_ble_eq_true rfl⟩ (fun u_28 H locs hw hP hD hS => ?_)
      obtain ⟨n_25, n_26⟩ := u_28
      try dsimp only at hw
      have hr_n_25 := hw
      refine lv_aload_n hx hb dX12_readFeature_59 rfl (lv_at hl 1 rfl) ?_
      refine lv_iconst (v := 2) hx hb dX12_readFeature_60 (by decide) ?_
      refine lv_iconst (v := 4) hx hb dX12_readFeature_61 (by decide) ?_
      refine z_callVi (As := [.int 2, .int 4]) (rest := []) (wr := [(a_hasFeels, .inl (cA.1 3, 3, .inl g_hasFeels)), (a_isOn, .inl (cA.1 3, 10, .inl g_isOn)), (a_c, .inl (cA.1 0, 1825, .inl g_c)), (a_words, .inl (cA.1 1, 105, .inr (.inl n_12)))]) ⟨hx, hb, hml, hown, hts⟩ hK hE hT hP hD hS hA (r_count l G cA h0 m_status m_thrown m_above m_under a_traySort a_trayMany a_numbers a_tape m_taped m_textEnd m_faultKind m_faultAt n_25 n_26 n_6 n_7 n_8 n_9 n_10 n_11 a_c a_words m_markMany a_there a_tried a_best a_found m_thereMany m_foundMany m_orderHow m_orderRing m_orderMany m_hasBest m_bestTop m_bestBy a_weights a_shared m_random m_truePlace m_trueWay m_seconds m_done m_feelings m_tries m_leftOver m_playDoor m_playRing m_isOpen m_isOver m_wasTried m_hasPlayed a_feltNow a_last a_kept m_hasSeconds m_hasTurned m_hasRound a_hasFeels a_isOn m_firstAct m_meanTop m_meanBy a_order m_rowMany m_newSteps g_tape 2 4 (by decide +kernel) (by decide +kernel) (by omega) (by omega) (by omega) (by omega) (by omega) (by omega) (by omega)) lk_RX12_214 ⟨rfl, rfl⟩ ⟨Nat.le_of_ble_eq_true rfl, Nat.le_of_ble_eq_true rfl⟩ 12 rfl rfl rfl [5, 2] [0, 1, 3, 4] rfl rfl (by decide) rfl hl.1 rfl (lv_room (Nat.le_of_ble_eq_true rfl)) dX12_readFeature_62 ⟨Nat.le_of_ble_eq_true rfl, Nat.le_of_ble_eq_true rfl⟩ (fun r_37 u_38 H locs hw hP hD hS => ?_)
      obtain ⟨n_29, n_30, n_31, n_32, n_33, n_34, n_35, n_36⟩ := u_38
      try dsimp only at hw
      obtain ⟨hr_r_37, hr_n_29, hr_n_31, hr_n_32, hr_n_33, hr_n_34, hr_n_35, hf_39, hf_40, hf_41, hf_42, hf_43, hf_44⟩ := hw
      refine lv_istore_n (lv' := [(2, .int r_37), (1, .int r_13), (0, .ref h0)]) hx hb dX12_readFeature_65 rfl hl (by decide) rfl (fun ls hl => ?_)
      refine lv_aload_n hx hb dX12_readFeature_66 rfl (lv_at hl 2 rfl) ?_
      refine va_get (D := G) (ci := 12) (v := .int n_29) (C := RX12) (T := TX12) (N := 65) hx hb hts inT12 hown hK hP 4 rfl rfl 12 (by decide) (hts _ tw_1897) (fun _ h9 => h9) rfl dX12_readFeature_67 ?_
      refine lv_if_ne (tgt := 86) hx hb dX12_readFeature_70 (by decide) (fun c_45 => ?_) (fun c_45 => ?_)
      · have b_46 := z_fneT c_45
        refine lv_iconst (v := 0) hx hb dX12_readFeature_86 (by decide) ?_
        refine lv_istore_n (lv' := [(3, .int 0), (2, .int r_37), (1, .int r_13), (0, .ref h0)]) hx hb dX12_readFeature_87 rfl hl (by decide) rfl (fun ls hl => ?_)
        refine lv_iload_n hx hb dX12_readFeature_88 rfl (lv_at hl 0 rfl) ?_
        refine lv_if_eq (tgt := 96) hx hb dX12_readFeature_89 (by decide) (fun _ => ?_) (fun h9 => absurd (by decide +kernel) h9)
        refine lv_aload_n hx hb dX12_readFeature_96 rfl (lv_at hl 3 rfl) ?_
        refine va_get (D := G) (ci := 12) (v := .int n_29) (C := RX12) (T := TX12) (N := 65) hx hb hts inT12 hown hK hP 4 rfl rfl 12 (by decide) (hts _ tw_1897) (fun _ h9 => h9) rfl dX12_readFeature_97 ?_
        refine lv_if_le (tgt := 104) hx hb dX12_readFeature_100 (by decide) (fun h9 => (z_no (by have h8 := z_fleT h9; omega))) (fun c_47 => ?_)
        have b_48 := z_fgtF c_47
        have hpost : (0 ≤ n_29.toInt ∧ n_29.toInt ≤ 9) ∧ (0 ≤ n_31.toInt ∧ n_31.toInt ≤ 4) ∧ (0 ≤ n_32.toInt ∧ n_32.toInt ≤ 900) ∧ (0 ≤ n_33.toInt ∧ n_33.toInt ≤ 900) ∧ (0 ≤ n_34.toInt ∧ n_34.toInt ≤ 9999) ∧ (0 ≤ n_35.toInt ∧ n_35.toInt ≤ 900) ∧ (zC g_c) ∧ (zRg 3 0 1 g_hasFeels) ∧ (zNw g_c g_isOn) ∧ (m_behind.toInt ≤ n_33.toInt) ∧ (0 < m_bad.toInt → 0 < n_29.toInt) ∧ (n_29.toInt ≤ 0 → n_31.toInt = 0 ∨ m_behind.toInt < n_33.toInt) ∧ (n_29.toInt ≤ 0 → n_31.toInt = 3 → n_34.toInt = 59 → zNf g_c) := ⟨(by omega), (by omega), (by omega), (by omega), (by omega), (by omega), hC_g_c, hC_g_hasFeels, hNW0, (by omega), (by omega), (by omega), (fun _ _ _ => hNF0)⟩
        exact hret _ _ _ _ _ (n_29, n_30, n_31, n_32, n_33, n_34, n_35, n_36, n_12, g_c, g_hasFeels) [4, 5, 2, 3, 0, 1] hP hD hS rfl (by decide) dX12_readFeature_103 hpost
      · have b_49 := z_feqF c_45
        refine lv_aload_n hx hb dX12_readFeature_73 rfl (lv_at hl 2 rfl) ?_
        refine z_callVi (As := []) (rest := []) (wr := [(a_hasFeels, .inl (cA.1 3, 3, .inl g_hasFeels)), (a_isOn, .inl (cA.1 3, 10, .inl g_isOn)), (a_c, .inl (cA.1 0, 1825, .inl g_c)), (a_words, .inl (cA.1 1, 105, .inr (.inl n_12))), (a_tape, .inl (cA.1 2, 900, .inl g_tape))]) ⟨hx, hb, hml, hown, hts⟩ hK hE hT hP hD hS hA (r_houseWord l G cA h0 m_status m_thrown m_above m_under a_traySort a_trayMany a_numbers a_tape m_taped m_textEnd m_faultKind m_faultAt n_29 n_30 n_31 n_32 n_33 n_34 n_35 n_36 a_c a_words m_markMany a_there a_tried a_best a_found m_thereMany m_foundMany m_orderHow m_orderRing m_orderMany m_hasBest m_bestTop m_bestBy a_weights a_shared m_random m_truePlace m_trueWay m_seconds m_done m_feelings m_tries m_leftOver m_playDoor m_playRing m_isOpen m_isOver m_wasTried m_hasPlayed a_feltNow a_last a_kept m_hasSeconds m_hasTurned m_hasRound a_hasFeels a_isOn m_firstAct m_meanTop m_meanBy a_order m_rowMany m_newSteps (by omega)) lk_RX12_170 ⟨rfl, rfl⟩ ⟨Nat.le_of_ble_eq_true rfl, Nat.le_of_ble_eq_true rfl⟩ 12 rfl rfl rfl [4] [0, 1, 2, 3, 5] rfl rfl (by decide) rfl hl.1 rfl (lv_room (Nat.le_of_ble_eq_true rfl)) dX12_readFeature_74 ⟨Nat.le_of_ble_eq_true rfl, Nat.le_of_ble_eq_true rfl⟩ (fun r_50 u_51 H locs hw hP hD hS => ?_)
        obtain ⟨hr_r_50, hf_52⟩ := hw
        refine lv_bipush (v := 6) hx hb dX12_readFeature_77 (by decide) ?_
        refine lv_icmp_ne (tgt := 86) hx hb dX12_readFeature_79 (by decide) (fun c_53 => ?_) (fun c_53 => ?_)
        · have b_54 := z_fneT c_53
          refine lv_iconst (v := 0) hx hb dX12_readFeature_86 (by decide) ?_
          refine lv_istore_n (lv' := [(3, .int 0), (2, .int r_37), (1, .int r_13), (0, .ref h0)]) hx hb dX12_readFeature_87 rfl hl (by decide) rfl (fun ls hl => ?_)
          refine lv_iload_n hx hb dX12_readFeature_88 rfl (lv_at hl 0 rfl) ?_
          refine lv_if_eq (tgt := 96) hx hb dX12_readFeature_89 (by decide) (fun _ => ?_) (fun h9 => absurd (by decide +kernel) h9)
          refine lv_aload_n hx hb dX12_readFeature_96 rfl (lv_at hl 3 rfl) ?_
          refine va_get (D := G) (ci := 12) (v := .int n_29) (C := RX12) (T := TX12) (N := 65) hx hb hts inT12 hown hK hP 5 rfl rfl 12 (by decide) (hts _ tw_1897) (fun _ h9 => h9) rfl dX12_readFeature_97 ?_
          refine lv_if_le (tgt := 104) hx hb dX12_readFeature_100 (by decide) (fun c_55 => ?_) (fun h9 => (z_no (by have h8 := z_fgtF h9; omega)))
          have b_56 := z_fleT c_55
          refine lv_aload_n hx hb dX12_readFeature_104 rfl (lv_at hl 3 rfl) ?_
          refine va_get (D := G) (ci := 12) (v := .ref a_c) (C := RX12) (T := TX12) (N := 65) hx hb hts inT12 hown hK hP 5 rfl rfl 20 (by decide) (hts _ tw_1905) (fun _ h9 => h9) rfl dX12_readFeature_105 ?_
          refine lv_sipush (v := 1471) hx hb dX12_readFeature_108 (by decide) ?_
          refine lv_iload_n hx hb dX12_readFeature_111 rfl (lv_at hl 2 rfl) ?_
          refine lv_iadd hx hb dX12_readFeature_112 ?_
          refine lv_topi (fun x_57 he_x_57 => ?_)
          have hq_x_57 := z_addq he_x_57 hk_1471 (rfl : r_13.toInt = _) (by omega) (by omega)
          refine lv_iload_n hx hb dX12_readFeature_113 rfl (lv_at hl 1 rfl) ?_
          refine z_iast hx hb hK hP hD hS 2 0 rfl rfl (z_inN (by omega) (by omega)) dX12_readFeature_114 (fun g_58 hg_g_58 H locs hP hD hS => ?_)
          have hC_g_58 := z_ctU hC_g_c hg_g_58 (a := 1471) (b := 1473) (lo := 0) (hi := 4) (by decide +kernel) (by decide +kernel) (by omega) (by omega) (by omega)
          have hw_g_58_1460 := z_cwo hg_g_58 (k := 1460) (by omega) (by omega)
          have hw_g_58_1461 := z_cwo hg_g_58 (k := 1461) (by omega) (by omega)
          have hs_59 : zNw g_58 g_isOn := (zNw_st hNW0 hg_g_58 (by omega) (by omega) (by omega))
          have hs_60 : zNf g_58 := (zNf_fr hNF0 hg_g_58 (a := 1471) (b := 1473) (by decide +kernel) (by omega) (by omega))
          have hs_61 : (g_58 (1471 + r_13.toInt.toNat)).toInt = r_37.toInt := (z_updself hg_g_58 (by omega))
          refine lv_aload_n hx hb dX12_readFeature_115 rfl (lv_at hl 3 rfl) ?_
          refine va_get (D := G) (ci := 12) (v := .ref a_c) (C := RX12) (T := TX12) (N := 65) hx hb hts inT12 hown hK hP 5 rfl rfl 20 (by decide) (hts _ tw_1905) (fun _ h9 => h9) rfl dX12_readFeature_116 ?_
          refine lv_sipush (v := 1474) hx hb dX12_readFeature_119 (by decide) ?_
          refine lv_iload_n hx hb dX12_readFeature_122 rfl (lv_at hl 2 rfl) ?_
          refine lv_iadd hx hb dX12_readFeature_123 ?_
          refine lv_topi (fun x_62 he_x_62 => ?_)
          have hq_x_62 := z_addq he_x_62 hk_1474 (rfl : r_13.toInt = _) (by omega) (by omega)
          refine lv_iload_n hx hb dX12_readFeature_124 rfl (lv_at hl 0 rfl) ?_
          refine lv_if_eq (tgt := 132) hx hb dX12_readFeature_125 (by decide) (fun _ => ?_) (fun h9 => absurd (by decide +kernel) h9)
          refine lv_iconst (v := 0) hx hb dX12_readFeature_132 (by decide) ?_
          refine z_iast hx hb hK hP hD hS 2 0 rfl rfl (z_inN (by omega) (by omega)) dX12_readFeature_133 (fun g_63 hg_g_63 H locs hP hD hS => ?_)
          have hC_g_63 := z_ctU hC_g_58 hg_g_63 (a := 1474) (b := 1476) (lo := (-2147483648)) (hi := 2147483647) (by decide +kernel) (by decide +kernel) (by omega) (by omega) (z_full _)
          have hw_g_63_1460 := z_cwo hg_g_63 (k := 1460) (by omega) (by omega)
          have hw_g_63_1461 := z_cwo hg_g_63 (k := 1461) (by omega) (by omega)
          have hs_64 : zNw g_63 g_isOn := (zNw_fr hs_59 hg_g_63 (a := 1474) (b := 1476) (by decide +kernel) (by omega) (by omega))
          have hs_65 : zNf g_63 := (zNf_fr hs_60 hg_g_63 (a := 1474) (b := 1476) (by decide +kernel) (by omega) (by omega))
          have hs_66 : (g_63 (1471 + r_13.toInt.toNat)).toInt = r_37.toInt := (z_updkeep hs_61 hg_g_63 (by omega) (by omega))
          refine lv_iconst (v := 0) hx hb dX12_readFeature_134 (by decide) ?_
          refine lv_istore (lv' := [(4, .int 0), (3, .int 0), (2, .int r_37), (1, .int r_13), (0, .ref h0)]) hx hb dX12_readFeature_135 hl (by decide) rfl (fun ls hl => ?_)
          have hlp_440 : ∀ (n : Nat) (v_411 : Int32) (g_412 : Nat → Int32) (H : Heap) (locs : List Loc) (ls : Array Slot), (2147483647 - v_411.toInt).toNat < n → (0 ≤ v_411.toInt ∧ v_411.toInt ≤ 16) → (zC g_412) → (zNw g_412 g_isOn) → (zNf g_412) → ((g_412 (1471 + r_13.toInt.toNat)).toInt = r_37.toInt) → (zFt g_412 r_13.toInt v_411.toInt) → ((g_412 1460).toInt = r_13.toInt) → (m_behind.toInt ≤ n_33.toInt) → (n_29.toInt ≤ 0 → n_31.toInt = 0 ∨ m_behind.toInt < n_33.toInt) → va_P G vwCl [(a_hasFeels, .inl (cA.1 3, 3, .inl g_hasFeels)), (a_isOn, .inl (cA.1 3, 10, .inl g_isOn)), (a_c, .inl (cA.1 0, 1825, .inl g_412)), (a_words, .inl (cA.1 1, 105, .inr (.inl n_12))), (a_tape, .inl (cA.1 2, 900, .inl g_tape)), (h0, .inr (12, [.int m_status, .int m_thrown, .long m_above, .long m_under, .ref a_traySort, .ref a_trayMany, .ref a_numbers, .ref a_tape, .int m_taped, .int m_textEnd, .int m_faultKind, .int m_faultAt, .int n_29, .int n_30, .int n_31, .int n_32, .int n_33, .int n_34, .int n_35, .long n_36, .ref a_c, .ref a_words, .int m_markMany, .ref a_there, .ref a_tried, .ref a_best, .ref a_found, .int m_thereMany, .int m_foundMany, .int m_orderHow, .int m_orderRing, .int m_orderMany, .int m_hasBest, .long m_bestTop, .long m_bestBy, .ref a_weights, .ref a_shared, .int m_random, .int m_truePlace, .int m_trueWay, .int m_seconds, .int m_done, .int m_feelings, .int m_tries, .int m_leftOver, .int m_playDoor, .int m_playRing, .int m_isOpen, .int m_isOver, .int m_wasTried, .int m_hasPlayed, .ref a_feltNow, .ref a_last, .ref a_kept, .int m_hasSeconds, .int m_hasTurned, .int m_hasRound, .ref a_hasFeels, .ref a_isOn, .int m_firstAct, .long m_meanTop, .long m_meanBy, .ref a_order, .int m_rowMany, .int m_newSteps]))] H → va_D A [(a_hasFeels, .inl (cA.1 3, 3, .inl g_hasFeels)), (a_isOn, .inl (cA.1 3, 10, .inl g_isOn)), (a_c, .inl (cA.1 0, 1825, .inl g_412)), (a_words, .inl (cA.1 1, 105, .inr (.inl n_12))), (a_tape, .inl (cA.1 2, 900, .inl g_tape)), (h0, .inr (12, [.int m_status, .int m_thrown, .long m_above, .long m_under, .ref a_traySort, .ref a_trayMany, .ref a_numbers, .ref a_tape, .int m_taped, .int m_textEnd, .int m_faultKind, .int m_faultAt, .int n_29, .int n_30, .int n_31, .int n_32, .int n_33, .int n_34, .int n_35, .long n_36, .ref a_c, .ref a_words, .int m_markMany, .ref a_there, .ref a_tried, .ref a_best, .ref a_found, .int m_thereMany, .int m_foundMany, .int m_orderHow, .int m_orderRing, .int m_orderMany, .int m_hasBest, .long m_bestTop, .long m_bestBy, .ref a_weights, .ref a_shared, .int m_random, .int m_truePlace, .int m_trueWay, .int m_seconds, .int m_done, .int m_feelings, .int m_tries, .int m_leftOver, .int m_playDoor, .int m_playRing, .int m_isOpen, .int m_isOver, .int m_wasTried, .int m_hasPlayed, .ref a_feltNow, .ref a_last, .ref a_kept, .int m_hasSeconds, .int m_hasTurned, .int m_hasRound, .ref a_hasFeels, .ref a_isOn, .int m_firstAct, .long m_meanTop, .long m_meanBy, .ref a_order, .int m_rowMany, .int m_newSteps]))] → va_S A s.heap H locs → lv_has ls 5 [(0, .ref h0), (1, .int r_13), (2, .int r_37), (3, .int 0), (4, .int v_411)] → W p l e ({ frames := 4, cells := 0, slots := 0, locals := 91 }) s m args below meth c H locs 0 0 Q (F0 m 137 ls []) := by
            intro n
            induction n with
            | zero =>
              intro v_411 g_412 H locs ls hmu_hlp_440 hr_v_411 hC_g_412 hs_433 hs_434 hs_435 hi_436 hi_437 hi_438 hi_439 hP hD hS hl
              exact absurd hmu_hlp_440 (Nat.not_lt_zero _)
            | succ n ih_441 =>
              intro v_411 g_412 H locs ls hmu_hlp_440 hr_v_411 hC_g_412 hs_433 hs_434 hs_435 hi_436 hi_437 hi_438 hi_439 hP hD hS hl
              refine lv_iload hx hb dX12_readFeature_137 (lv_at hl 4 rfl) ?_
              refine lv_bipush (v := 16) hx hb dX12_readFeature_139 (by decide) ?_
              refine lv_icmp_ge (tgt := 179) hx hb dX12_readFeature_141 (by decide) (fun c_442 => ?_) (fun c_442 => ?_)
              · have b_443 := z_fgeT c_442
                refine lv_aload_n hx hb dX12_readFeature_179 rfl (lv_at hl 0 rfl) ?_
                refine va_get (D := G) (ci := 12) (v := .ref a_hasFeels) (C := RX12) (T := TX12) (N := 65) hx hb hts inT12 hown hK hP 5 rfl rfl 57 (by decide) (hts _ tw_1940) (fun _ h9 => h9) rfl dX12_readFeature_180 ?_
                refine lv_iload_n hx hb dX12_readFeature_183 rfl (lv_at hl 1 rfl) ?_
                refine lv_iconst (v := 0) hx hb dX12_readFeature_184 (by decide) ?_
                refine z_zast hx hb hK hP hD hS 0 3 rfl rfl (z_inN (by omega) (by omega)) dX12_readFeature_185 (fun g_444 hg_g_444 H locs hP hD hS => ?_)
                have hC_g_444 := z_rgZ hC_g_hasFeels hg_g_444 (Or.inl rfl)
                refine lv_aload_n hx hb dX12_readFeature_186 rfl (lv_at hl 0 rfl) ?_
                refine va_get (D := G) (ci := 12) (v := .ref a_c) (C := RX12) (T := TX12) (N := 65) hx hb hts inT12 hown hK hP 5 rfl rfl 20 (by decide) (hts _ tw_1905) (fun _ h9 => h9) rfl dX12_readFeature_187 ?_
                refine lv_sipush (v := 1460) hx hb dX12_readFeature_190 (by decide) ?_
                refine lv_dup2_11 hx hb dX12_readFeature_193 rfl rfl ?_
                refine va_iald hx hb hK hP 2 0 rfl rfl (z_in (i := 1460) (n := 1825) (by decide +kernel) (by decide +kernel)) dX12_readFeature_194 ?_
                refine lv_topi (fun x_445 he_x_445 => ?_)
                have hr_x_445 := z_ctk hC_g_412 he_x_445 (k := 1460) (lo := 0) (hi := 3) (by decide +kernel) (by decide +kernel) (by decide +kernel)
                have hv_x_445 := z_cv he_x_445 (k := 1460) (by decide +kernel)
                refine lv_iconst (v := 1) hx hb dX12_readFeature_195 (by decide) ?_
                refine lv_iadd hx hb dX12_readFeature_196 ?_
                refine lv_topi (fun x_446 he_x_446 => ?_)
                have hq_x_446 := z_addq he_x_446 (rfl : x_445.toInt = _) hk_1 (by omega) (by omega)
                refine z_iast hx hb hK hP hD hS 2 0 rfl rfl (z_in (i := 1460) (n := 1825) (by decide +kernel) (by decide +kernel)) dX12_readFeature_197 (fun g_447 hg_g_447 H locs hP hD hS => ?_)
                have hC_g_447 := z_ctUk hC_g_412 hg_g_447 (k := 1460) (lo := 0) (hi := 3) (by decide +kernel) (by decide +kernel) (by decide +kernel) (by omega)
                have hw_g_447_1460 := z_cwk hg_g_447 (k := 1460) (by decide +kernel)
                have hw_g_447_1461 := z_cwo hg_g_447 (k := 1461) (by decide +kernel) (by decide +kernel)
                have hs_448 : zNw g_447 g_isOn := (zNw_fe hs_433 hg_g_447 (by decide +kernel) (by omega) (by omega) (by omega) (k := r_13.toInt) (by omega) (by rw [hs_435]; omega))
                have hs_449 : zNf g_447 := (zNf_fe hs_434 hg_g_447 (by decide +kernel) (by omega) (by omega) (by omega) (k := r_13.toInt) (n := v_411.toInt) (by omega) (by omega) hi_436)
                have hpost : (0 ≤ n_29.toInt ∧ n_29.toInt ≤ 9) ∧ (0 ≤ n_31.toInt ∧ n_31.toInt ≤ 4) ∧ (0 ≤ n_32.toInt ∧ n_32.toInt ≤ 900) ∧ (0 ≤ n_33.toInt ∧ n_33.toInt ≤ 900) ∧ (0 ≤ n_34.toInt ∧ n_34.toInt ≤ 9999) ∧ (0 ≤ n_35.toInt ∧ n_35.toInt ≤ 900) ∧ (zC g_447) ∧ (zRg 3 0 1 g_444) ∧ (zNw g_447 g_isOn) ∧ (m_behind.toInt ≤ n_33.toInt) ∧ (0 < m_bad.toInt → 0 < n_29.toInt) ∧ (n_29.toInt ≤ 0 → n_31.toInt = 0 ∨ m_behind.toInt < n_33.toInt) ∧ (n_29.toInt ≤ 0 → n_31.toInt = 3 → n_34.toInt = 59 → zNf g_447) := ⟨(by omega), (by omega), (by omega), (by omega), (by omega), (by omega), hC_g_447, hC_g_444, hs_448, (by omega), (by omega), (by omega), (fun _ _ _ => hs_449)⟩
                exact hret _ _ _ _ _ (n_29, n_30, n_31, n_32, n_33, n_34, n_35, n_36, n_12, g_447, g_444) [5, 4, 2, 3, 0, 1] hP hD hS rfl (by decide) dX12_readFeature_198 hpost
              · have b_450 := z_fltF c_442
                refine lv_aload_n hx hb dX12_readFeature_144 rfl (lv_at hl 0 rfl) ?_
                refine va_get (D := G) (ci := 12) (v := .ref a_c) (C := RX12) (T := TX12) (N := 65) hx hb hts inT12 hown hK hP 5 rfl rfl 20 (by decide) (hts _ tw_1905) (fun _ h9 => h9) rfl dX12_readFeature_145 ?_
                refine lv_sipush (v := 1477) hx hb dX12_readFeature_148 (by decide) ?_
                refine lv_bipush (v := 16) hx hb dX12_readFeature_151 (by decide) ?_
                refine lv_iload_n hx hb dX12_readFeature_153 rfl (lv_at hl 1 rfl) ?_
                refine lv_imul hx hb dX12_readFeature_154 ?_
                refine lv_topi (fun x_451 he_x_451 => ?_)
                have hq_x_451 := z_mulq he_x_451 hk_16 (rfl : r_13.toInt = _) (by omega) (by omega)
                refine lv_iadd hx hb dX12_readFeature_155 ?_
                refine lv_topi (fun x_452 he_x_452 => ?_)
                have hq_x_452 := z_addq he_x_452 hk_1477 (rfl : x_451.toInt = _) (by omega) (by omega)
                refine lv_iload hx hb dX12_readFeature_156 (lv_at hl 4 rfl) ?_
                refine lv_iadd hx hb dX12_readFeature_158 ?_
                refine lv_topi (fun x_453 he_x_453 => ?_)
                have hq_x_453 := z_addq he_x_453 (rfl : x_452.toInt = _) (rfl : v_411.toInt = _) (by omega) (by omega)
                refine lv_iload hx hb dX12_readFeature_159 (lv_at hl 4 rfl) ?_
                refine lv_iconst (v := 5) hx hb dX12_readFeature_161 (by decide) ?_
                refine lv_irem hx hb dX12_readFeature_162 (by decide +kernel) ?_
                refine lv_topi (fun x_454 he_x_454 => ?_)
                have hq_x_454 := z_remq he_x_454 (rfl : v_411.toInt = _) hk_5 (by omega) (by decide)
                refine lv_if_ne (tgt := 171) hx hb dX12_readFeature_163 (by decide) (fun c_455 => ?_) (fun c_455 => ?_)
                · have b_456 := z_fneT c_455
                  refine lv_iconst (v := 0) hx hb dX12_readFeature_171 (by decide) ?_
                  refine z_iast hx hb hK hP hD hS 2 0 rfl rfl (z_inN (by omega) (by omega)) dX12_readFeature_172 (fun g_457 hg_g_457 H locs hP hD hS => ?_)
                  have hC_g_457 := z_ctU hC_g_412 hg_g_457 (a := 1477) (b := 1524) (lo := 0) (hi := 16) (by decide +kernel) (by decide +kernel) (by omega) (by omega) (by decide +kernel)
                  have hw_g_457_1460 := z_cwo hg_g_457 (k := 1460) (by omega) (by omega)
                  have hw_g_457_1461 := z_cwo hg_g_457 (k := 1461) (by omega) (by omega)
                  have hs_458 : zNw g_457 g_isOn := (zNw_fr hs_433 hg_g_457 (a := 1477) (b := 1524) (by decide +kernel) (by omega) (by omega))
                  have hs_459 : zNf g_457 := (zNf_row hs_434 hg_g_457 (by omega) (by omega) (by omega))
                  have hs_460 : (g_457 (1471 + r_13.toInt.toNat)).toInt = r_37.toInt := (z_updkeep hs_435 hg_g_457 (by omega) (by omega))
                  obtain ⟨x_461, he_x_461⟩ : ∃ z : Int32, z = v_411 + 1 := ⟨_, rfl⟩
                  have hq_x_461 := z_addq he_x_461 (rfl : v_411.toInt = _) hk_1 (by omega) (by omega)
                  refine lv_iinc (v := x_461) (lv' := [(4, .int x_461), (0, .ref h0), (1, .int r_13), (2, .int r_37), (3, .int 0)]) hx hb dX12_readFeature_173 hl (k := 4) rfl ((z_ofi (by decide +kernel)).trans he_x_461.symm) (by decide) rfl (fun ls hl => ?_)
                  refine lv_goto (tgt := 137) hx hb dX12_readFeature_176 (by decide) ?_
                  exact ih_441 x_461 g_457 H locs ls (by omega) (by omega) hC_g_457 hs_458 hs_459 hs_460 (by rw [hq_x_461]; exact zFt_step hi_436 hg_g_457 (by omega) (by omega) (by omega) (by omega)) (by omega) (by omega) (by omega) hP hD hS (lv_sub hl [1, 2, 3, 4, 0] rfl)
                · have b_462 := z_feqF c_455
                  refine lv_bipush (v := 16) hx hb dX12_readFeature_166 (by decide) ?_
                  refine lv_goto (tgt := 172) hx hb dX12_readFeature_168 (by decide) ?_
                  refine z_iast hx hb hK hP hD hS 2 0 rfl rfl (z_inN (by omega) (by omega)) dX12_readFeature_172 (fun g_463 hg_g_463 H locs hP hD hS => ?_)
                  have hC_g_463 := z_ctU hC_g_412 hg_g_463 (a := 1477) (b := 1524) (lo := 0) (hi := 16) (by decide +kernel) (by decide +kernel) (by omega) (by omega) (by decide +kernel)
                  have hw_g_463_1460 := z_cwo hg_g_463 (k := 1460) (by omega) (by omega)
                  have hw_g_463_1461 := z_cwo hg_g_463 (k := 1461) (by omega) (by omega)
                  have hs_464 : zNw g_463 g_isOn := (zNw_fr hs_433 hg_g_463 (a := 1477) (b := 1524) (by decide +kernel) (by omega) (by omega))
                  have hs_465 : zNf g_463 := (zNf_row hs_434 hg_g_463 (by omega) (by omega) (by omega))
                  have hs_466 : (g_463 (1471 + r_13.toInt.toNat)).toInt = r_37.toInt := (z_updkeep hs_435 hg_g_463 (by omega) (by omega))
                  obtain ⟨x_467, he_x_467⟩ : ∃ z : Int32, z = v_411 + 1 := ⟨_, rfl⟩
                  have hq_x_467 := z_addq he_x_467 (rfl : v_411.toInt = _) hk_1 (by omega) (by omega)
                  refine lv_iinc (v := x_467) (lv' := [(4, .int x_467), (0, .ref h0), (1, .int r_13), (2, .int r_37), (3, .int 0)]) hx hb dX12_readFeature_173 hl (k := 4) rfl ((z_ofi (by decide +kernel)).trans he_x_467.symm) (by decide) rfl (fun ls hl => ?_)
                  refine lv_goto (tgt := 137) hx hb dX12_readFeature_176 (by decide) ?_
                  exact ih_441 x_467 g_463 H locs ls (by omega) (by omega) hC_g_463 hs_464 hs_465 hs_466 (by rw [hq_x_467]; exact zFt_step hi_436 hg_g_463 (by omega) (by omega) (by omega) (by omega)) (by omega) (by omega) (by omega) hP hD hS (lv_sub hl [1, 2, 3, 4, 0] rfl)
          exact hlp_440 _ 0 g_63 _ _ _ (Nat.lt_succ_self _) (by decide +kernel) hC_g_63 hs_64 hs_65 hs_66 zFt_0 (by omega) (by omega) (by omega) hP hD hS (lv_sub hl [4, 3, 2, 1, 0] rfl)
        · have b_468 := z_feqF c_53
          refine lv_iconst (v := 1) hx hb dX12_readFeature_82 (by decide) ?_
          refine lv_goto (tgt := 87) hx hb dX12_readFeature_83 (by decide) ?_
          refine lv_istore_n (lv' := [(3, .int 1), (2, .int r_37), (1, .int r_13), (0, .ref h0)]) hx hb dX12_readFeature_87 rfl hl (by decide) rfl (fun ls hl => ?_)
          refine lv_iload_n hx hb dX12_readFeature_88 rfl (lv_at hl 0 rfl) ?_
          refine lv_if_eq (tgt := 96) hx hb dX12_readFeature_89 (by decide) (fun h9 => absurd h9 (by decide +kernel)) (fun _ => ?_)
          refine lv_aload_n hx hb dX12_readFeature_92 rfl (lv_at hl 3 rfl) ?_
          refine z_callVv (As := []) (rest := []) (wr := [(a_hasFeels, .inl (cA.1 3, 3, .inl g_hasFeels)), (a_isOn, .inl (cA.1 3, 10, .inl g_isOn)), (a_c, .inl (cA.1 0, 1825, .inl g_c)), (a_words, .inl (cA.1 1, 105, .inr (.inl n_12)))]) ⟨hx, hb, hml, hown, hts⟩ hK hE hT hP hD hS hA (r_next2 l G cA h0 m_status m_thrown m_above m_under a_traySort a_trayMany a_numbers a_tape m_taped m_textEnd m_faultKind m_faultAt n_29 n_30 n_31 n_32 n_33 n_34 n_35 n_36 a_c a_words m_markMany a_there a_tried a_best a_found m_thereMany m_foundMany m_orderHow m_orderRing m_orderMany m_hasBest m_bestTop m_bestBy a_weights a_shared m_random m_truePlace m_trueWay m_seconds m_done m_feelings m_tries m_leftOver m_playDoor m_playRing m_isOpen m_isOver m_wasTried m_hasPlayed a_feltNow a_last a_kept m_hasSeconds m_hasTurned m_hasRound a_hasFeels a_isOn m_firstAct m_meanTop m_meanBy a_order m_rowMany m_newSteps g_tape (by omega) (by omega) (by omega) (by omega) (by omega) (by omega)) lk_RX12_184 ⟨rfl, rfl⟩ ⟨Nat.le_of_ble_eq_true rfl, Nat.le_of_ble_eq_true rfl⟩ 12 rfl rfl rfl [5, 4] [0, 1, 2, 3] rfl rfl (by decide) rfl hl.1 rfl (lv_room (Nat.le_of_ble_eq_true rfl)) dX12_readFeature_93 ⟨Nat.le_of_ble_eq_true rfl, Nat.le_of_ble_eq_true rfl⟩ (fun u_476 H locs hw hP hD hS => ?_)
          obtain ⟨n_469, n_470, n_471, n_472, n_473, n_474⟩ := u_476
          try dsimp only at hw
          obtain ⟨hr_n_469, hr_n_470, hr_n_471, hr_n_472, hr_n_473, hf_477, hf_478⟩ := hw
          refine lv_aload_n hx hb dX12_readFeature_96 rfl (lv_at hl 3 rfl) ?_
          refine va_get (D := G) (ci := 12) (v := .int n_29) (C := RX12) (T := TX12) (N := 65) hx hb hts inT12 hown hK hP 4 rfl rfl 12 (by decide) (hts _ tw_1897) (fun _ h9 => h9) rfl dX12_readFeature_97 ?_
          refine lv_if_le (tgt := 104) hx hb dX12_readFeature_100 (by decide) (fun c_479 => ?_) (fun h9 => (z_no (by have h8 := z_fgtF h9; omega)))
          have b_480 := z_fleT c_479
          refine lv_aload_n hx hb dX12_readFeature_104 rfl (lv_at hl 3 rfl) ?_
          refine va_get (D := G) (ci := 12) (v := .ref a_c) (C := RX12) (T := TX12) (N := 65) hx hb hts inT12 hown hK hP 4 rfl rfl 20 (by decide) (hts _ tw_1905) (fun _ h9 => h9) rfl dX12_readFeature_105 ?_
          refine lv_sipush (v := 1471) hx hb dX12_readFeature_108 (by decide) ?_
          refine lv_iload_n hx hb dX12_readFeature_111 rfl (lv_at hl 2 rfl) ?_
          refine lv_iadd hx hb dX12_readFeature_112 ?_
          refine lv_topi (fun x_481 he_x_481 => ?_)
          have hq_x_481 := z_addq he_x_481 hk_1471 (rfl : r_13.toInt = _) (by omega) (by omega)
          refine lv_iload_n hx hb dX12_readFeature_113 rfl (lv_at hl 1 rfl) ?_
          refine z_iast hx hb hK hP hD hS 2 0 rfl rfl (z_inN (by omega) (by omega)) dX12_readFeature_114 (fun g_482 hg_g_482 H locs hP hD hS => ?_)
          have hC_g_482 := z_ctU hC_g_c hg_g_482 (a := 1471) (b := 1473) (lo := 0) (hi := 4) (by decide +kernel) (by decide +kernel) (by omega) (by omega) (by omega)
          have hw_g_482_1460 := z_cwo hg_g_482 (k := 1460) (by omega) (by omega)
          have hw_g_482_1461 := z_cwo hg_g_482 (k := 1461) (by omega) (by omega)
          have hs_483 : zNw g_482 g_isOn := (zNw_st hNW0 hg_g_482 (by omega) (by omega) (by omega))
          have hs_484 : zNf g_482 := (zNf_fr hNF0 hg_g_482 (a := 1471) (b := 1473) (by decide +kernel) (by omega) (by omega))
          have hs_485 : (g_482 (1471 + r_13.toInt.toNat)).toInt = r_37.toInt := (z_updself hg_g_482 (by omega))
          refine lv_aload_n hx hb dX12_readFeature_115 rfl (lv_at hl 3 rfl) ?_
          refine va_get (D := G) (ci := 12) (v := .ref a_c) (C := RX12) (T := TX12) (N := 65) hx hb hts inT12 hown hK hP 4 rfl rfl 20 (by decide) (hts _ tw_1905) (fun _ h9 => h9) rfl dX12_readFeature_116 ?_
          refine lv_sipush (v := 1474) hx hb dX12_readFeature_119 (by decide) ?_
          refine lv_iload_n hx hb dX12_readFeature_122 rfl (lv_at hl 2 rfl) ?_
          refine lv_iadd hx hb dX12_readFeature_123 ?_
          refine lv_topi (fun x_486 he_x_486 => ?_)
          have hq_x_486 := z_addq he_x_486 hk_1474 (rfl : r_13.toInt = _) (by omega) (by omega)
          refine lv_iload_n hx hb dX12_readFeature_124 rfl (lv_at hl 0 rfl) ?_
          refine lv_if_eq (tgt := 132) hx hb dX12_readFeature_125 (by decide) (fun h9 => absurd h9 (by decide +kernel)) (fun _ => ?_)
          refine lv_iconst (v := 1) hx hb dX12_readFeature_128 (by decide) ?_
          refine lv_goto (tgt := 133) hx hb dX12_readFeature_129 (by decide) ?_
          refine z_iast hx hb hK hP hD hS 2 0 rfl rfl (z_inN (by omega) (by omega)) dX12_readFeature_133 (fun g_487 hg_g_487 H locs hP hD hS => ?_)
          have hC_g_487 := z_ctU hC_g_482 hg_g_487 (a := 1474) (b := 1476) (lo := (-2147483648)) (hi := 2147483647) (by decide +kernel) (by decide +kernel) (by omega) (by omega) (z_full _)
          have hw_g_487_1460 := z_cwo hg_g_487 (k := 1460) (by omega) (by omega)
          have hw_g_487_1461 := z_cwo hg_g_487 (k := 1461) (by omega) (by omega)
          have hs_488 : zNw g_487 g_isOn := (zNw_fr hs_483 hg_g_487 (a := 1474) (b := 1476) (by decide +kernel) (by omega) (by omega))
          have hs_489 : zNf g_487 := (zNf_fr hs_484 hg_g_487 (a := 1474) (b := 1476) (by decide +kernel) (by omega) (by omega))
          have hs_490 : (g_487 (1471 + r_13.toInt.toNat)).toInt = r_37.toInt := (z_updkeep hs_485 hg_g_487 (by omega) (by omega))
          refine lv_iconst (v := 0) hx hb dX12_readFeature_134 (by decide) ?_
          refine lv_istore (lv' := [(4, .int 0), (3, .int 1), (2, .int r_37), (1, .int r_13), (0, .ref h0)]) hx hb dX12_readFeature_135 hl (by decide) rfl (fun ls hl => ?_)
          have hlp_864 : ∀ (n : Nat) (v_835 : Int32) (g_836 : Nat → Int32) (H : Heap) (locs : List Loc) (ls : Array Slot), (2147483647 - v_835.toInt).toNat < n → (0 ≤ v_835.toInt ∧ v_835.toInt ≤ 16) → (zC g_836) → (zNw g_836 g_isOn) → (zNf g_836) → ((g_836 (1471 + r_13.toInt.toNat)).toInt = r_37.toInt) → (zFt g_836 r_13.toInt v_835.toInt) → ((g_836 1460).toInt = r_13.toInt) → (m_behind.toInt ≤ n_471.toInt) → (n_29.toInt ≤ 0 → n_469.toInt = 0 ∨ m_behind.toInt < n_471.toInt) → va_P G vwCl [(a_hasFeels, .inl (cA.1 3, 3, .inl g_hasFeels)), (a_isOn, .inl (cA.1 3, 10, .inl g_isOn)), (a_c, .inl (cA.1 0, 1825, .inl g_836)), (a_words, .inl (cA.1 1, 105, .inr (.inl n_12))), (h0, .inr (12, [.int m_status, .int m_thrown, .long m_above, .long m_under, .ref a_traySort, .ref a_trayMany, .ref a_numbers, .ref a_tape, .int m_taped, .int m_textEnd, .int m_faultKind, .int m_faultAt, .int n_29, .int n_30, .int n_469, .int n_470, .int n_471, .int n_472, .int n_473, .long n_474, .ref a_c, .ref a_words, .int m_markMany, .ref a_there, .ref a_tried, .ref a_best, .ref a_found, .int m_thereMany, .int m_foundMany, .int m_orderHow, .int m_orderRing, .int m_orderMany, .int m_hasBest, .long m_bestTop, .long m_bestBy, .ref a_weights, .ref a_shared, .int m_random, .int m_truePlace, .int m_trueWay, .int m_seconds, .int m_done, .int m_feelings, .int m_tries, .int m_leftOver, .int m_playDoor, .int m_playRing, .int m_isOpen, .int m_isOver, .int m_wasTried, .int m_hasPlayed, .ref a_feltNow, .ref a_last, .ref a_kept, .int m_hasSeconds, .int m_hasTurned, .int m_hasRound, .ref a_hasFeels, .ref a_isOn, .int m_firstAct, .long m_meanTop, .long m_meanBy, .ref a_order, .int m_rowMany, .int m_newSteps])), (a_tape, .inl (cA.1 2, 900, .inl g_tape))] H → va_D A [(a_hasFeels, .inl (cA.1 3, 3, .inl g_hasFeels)), (a_isOn, .inl (cA.1 3, 10, .inl g_isOn)), (a_c, .inl (cA.1 0, 1825, .inl g_836)), (a_words, .inl (cA.1 1, 105, .inr (.inl n_12))), (h0, .inr (12, [.int m_status, .int m_thrown, .long m_above, .long m_under, .ref a_traySort, .ref a_trayMany, .ref a_numbers, .ref a_tape, .int m_taped, .int m_textEnd, .int m_faultKind, .int m_faultAt, .int n_29, .int n_30, .int n_469, .int n_470, .int n_471, .int n_472, .int n_473, .long n_474, .ref a_c, .ref a_words, .int m_markMany, .ref a_there, .ref a_tried, .ref a_best, .ref a_found, .int m_thereMany, .int m_foundMany, .int m_orderHow, .int m_orderRing, .int m_orderMany, .int m_hasBest, .long m_bestTop, .long m_bestBy, .ref a_weights, .ref a_shared, .int m_random, .int m_truePlace, .int m_trueWay, .int m_seconds, .int m_done, .int m_feelings, .int m_tries, .int m_leftOver, .int m_playDoor, .int m_playRing, .int m_isOpen, .int m_isOver, .int m_wasTried, .int m_hasPlayed, .ref a_feltNow, .ref a_last, .ref a_kept, .int m_hasSeconds, .int m_hasTurned, .int m_hasRound, .ref a_hasFeels, .ref a_isOn, .int m_firstAct, .long m_meanTop, .long m_meanBy, .ref a_order, .int m_rowMany, .int m_newSteps])), (a_tape, .inl (cA.1 2, 900, .inl g_tape))] → va_S A s.heap H locs → lv_has ls 5 [(0, .ref h0), (1, .int r_13), (2, .int r_37), (3, .int 1), (4, .int v_835)] → W p l e ({ frames := 4, cells := 0, slots := 0, locals := 91 }) s m args below meth c H locs 0 0 Q (F0 m 137 ls []) := by
            intro n
            induction n with
            | zero =>
              intro v_835 g_836 H locs ls hmu_hlp_864 hr_v_835 hC_g_836 hs_857 hs_858 hs_859 hi_860 hi_861 hi_862 hi_863 hP hD hS hl
              exact absurd hmu_hlp_864 (Nat.not_lt_zero _)
            | succ n ih_865 =>
              intro v_835 g_836 H locs ls hmu_hlp_864 hr_v_835 hC_g_836 hs_857 hs_858 hs_859 hi_860 hi_861 hi_862 hi_863 hP hD hS hl
              refine lv_iload hx hb dX12_readFeature_137 (lv_at hl 4 rfl) ?_
              refine lv_bipush (v := 16) hx hb dX12_readFeature_139 (by decide) ?_
              refine lv_icmp_ge (tgt := 179) hx hb dX12_readFeature_141 (by decide) (fun c_866 => ?_) (fun c_866 => ?_)
              · have b_867 := z_fgeT c_866
                refine lv_aload_n hx hb dX12_readFeature_179 rfl (lv_at hl 0 rfl) ?_
                refine va_get (D := G) (ci := 12) (v := .ref a_hasFeels) (C := RX12) (T := TX12) (N := 65) hx hb hts inT12 hown hK hP 4 rfl rfl 57 (by decide) (hts _ tw_1940) (fun _ h9 => h9) rfl dX12_readFeature_180 ?_
                refine lv_iload_n hx hb dX12_readFeature_183 rfl (lv_at hl 1 rfl) ?_
                refine lv_iconst (v := 0) hx hb dX12_readFeature_184 (by decide) ?_
                refine z_zast hx hb hK hP hD hS 0 3 rfl rfl (z_inN (by omega) (by omega)) dX12_readFeature_185 (fun g_868 hg_g_868 H locs hP hD hS => ?_)
                have hC_g_868 := z_rgZ hC_g_hasFeels hg_g_868 (Or.inl rfl)
                refine lv_aload_n hx hb dX12_readFeature_186 rfl (lv_at hl 0 rfl) ?_
                refine va_get (D := G) (ci := 12) (v := .ref a_c) (C := RX12) (T := TX12) (N := 65) hx hb hts inT12 hown hK hP 4 rfl rfl 20 (by decide) (hts _ tw_1905) (fun _ h9 => h9) rfl dX12_readFeature_187 ?_
                refine lv_sipush (v := 1460) hx hb dX12_readFeature_190 (by decide) ?_
                refine lv_dup2_11 hx hb dX12_readFeature_193 rfl rfl ?_
                refine va_iald hx hb hK hP 2 0 rfl rfl (z_in (i := 1460) (n := 1825) (by decide +kernel) (by decide +kernel)) dX12_readFeature_194 ?_
                refine lv_topi (fun x_869 he_x_869 => ?_)
                have hr_x_869 := z_ctk hC_g_836 he_x_869 (k := 1460) (lo := 0) (hi := 3) (by decide +kernel) (by decide +kernel) (by decide +kernel)
                have hv_x_869 := z_cv he_x_869 (k := 1460) (by decide +kernel)
                refine lv_iconst (v := 1) hx hb dX12_readFeature_195 (by decide) ?_
                refine lv_iadd hx hb dX12_readFeature_196 ?_
                refine lv_topi (fun x_870 he_x_870 => ?_)
                have hq_x_870 := z_addq he_x_870 (rfl : x_869.toInt = _) hk_1 (by omega) (by omega)
                refine z_iast hx hb hK hP hD hS 2 0 rfl rfl (z_in (i := 1460) (n := 1825) (by decide +kernel) (by decide +kernel)) dX12_readFeature_197 (fun g_871 hg_g_871 H locs hP hD hS => ?_)
                have hC_g_871 := z_ctUk hC_g_836 hg_g_871 (k := 1460) (lo := 0) (hi := 3) (by decide +kernel) (by decide +kernel) (by decide +kernel) (by omega)
                have hw_g_871_1460 := z_cwk hg_g_871 (k := 1460) (by decide +kernel)
                have hw_g_871_1461 := z_cwo hg_g_871 (k := 1461) (by decide +kernel) (by decide +kernel)
                have hs_872 : zNw g_871 g_isOn := (zNw_fe hs_857 hg_g_871 (by decide +kernel) (by omega) (by omega) (by omega) (k := r_13.toInt) (by omega) (by rw [hs_859]; omega))
                have hs_873 : zNf g_871 := (zNf_fe hs_858 hg_g_871 (by decide +kernel) (by omega) (by omega) (by omega) (k := r_13.toInt) (n := v_835.toInt) (by omega) (by omega) hi_860)
                have hpost : (0 ≤ n_29.toInt ∧ n_29.toInt ≤ 9) ∧ (0 ≤ n_469.toInt ∧ n_469.toInt ≤ 4) ∧ (0 ≤ n_470.toInt ∧ n_470.toInt ≤ 900) ∧ (0 ≤ n_471.toInt ∧ n_471.toInt ≤ 900) ∧ (0 ≤ n_472.toInt ∧ n_472.toInt ≤ 9999) ∧ (0 ≤ n_473.toInt ∧ n_473.toInt ≤ 900) ∧ (zC g_871) ∧ (zRg 3 0 1 g_868) ∧ (zNw g_871 g_isOn) ∧ (m_behind.toInt ≤ n_471.toInt) ∧ (0 < m_bad.toInt → 0 < n_29.toInt) ∧ (n_29.toInt ≤ 0 → n_469.toInt = 0 ∨ m_behind.toInt < n_471.toInt) ∧ (n_29.toInt ≤ 0 → n_469.toInt = 3 → n_472.toInt = 59 → zNf g_871) := ⟨(by omega), (by omega), (by omega), (by omega), (by omega), (by omega), hC_g_871, hC_g_868, hs_872, (by omega), (by omega), (by omega), (fun _ _ _ => hs_873)⟩
                exact hret _ _ _ _ _ (n_29, n_30, n_469, n_470, n_471, n_472, n_473, n_474, n_12, g_871, g_868) [4, 5, 2, 3, 0, 1] hP hD hS rfl (by decide) dX12_readFeature_198 hpost
              · have b_874 := z_fltF c_866
                refine lv_aload_n hx hb dX12_readFeature_144 rfl (lv_at hl 0 rfl) ?_
                refine va_get (D := G) (ci := 12) (v := .ref a_c) (C := RX12) (T := TX12) (N := 65) hx hb hts inT12 hown hK hP 4 rfl rfl 20 (by decide) (hts _ tw_1905) (fun _ h9 => h9) rfl dX12_readFeature_145 ?_
                refine lv_sipush (v := 1477) hx hb dX12_readFeature_148 (by decide) ?_
                refine lv_bipush (v := 16) hx hb dX12_readFeature_151 (by decide) ?_
                refine lv_iload_n hx hb dX12_readFeature_153 rfl (lv_at hl 1 rfl) ?_
                refine lv_imul hx hb dX12_readFeature_154 ?_
                refine lv_topi (fun x_875 he_x_875 => ?_)
                have hq_x_875 := z_mulq he_x_875 hk_16 (rfl : r_13.toInt = _) (by omega) (by omega)
                refine lv_iadd hx hb dX12_readFeature_155 ?_
                refine lv_topi (fun x_876 he_x_876 => ?_)
                have hq_x_876 := z_addq he_x_876 hk_1477 (rfl : x_875.toInt = _) (by omega) (by omega)
                refine lv_iload hx hb dX12_readFeature_156 (lv_at hl 4 rfl) ?_
                refine lv_iadd hx hb dX12_readFeature_158 ?_
                refine lv_topi (fun x_877 he_x_877 => ?_)
                have hq_x_877 := z_addq he_x_877 (rfl : x_876.toInt = _) (rfl : v_835.toInt = _) (by omega) (by omega)
                refine lv_iload hx hb dX12_readFeature_159 (lv_at hl 4 rfl) ?_
                refine lv_iconst (v := 5) hx hb dX12_readFeature_161 (by decide) ?_
                refine lv_irem hx hb dX12_readFeature_162 (by decide +kernel) ?_
                refine lv_topi (fun x_878 he_x_878 => ?_)
                have hq_x_878 := z_remq he_x_878 (rfl : v_835.toInt = _) hk_5 (by omega) (by decide)
                refine lv_if_ne (tgt := 171) hx hb dX12_readFeature_163 (by decide) (fun c_879 => ?_) (fun c_879 => ?_)
                · have b_880 := z_fneT c_879
                  refine lv_iconst (v := 0) hx hb dX12_readFeature_171 (by decide) ?_
                  refine z_iast hx hb hK hP hD hS 2 0 rfl rfl (z_inN (by omega) (by omega)) dX12_readFeature_172 (fun g_881 hg_g_881 H locs hP hD hS => ?_)
                  have hC_g_881 := z_ctU hC_g_836 hg_g_881 (a := 1477) (b := 1524) (lo := 0) (hi := 16) (by decide +kernel) (by decide +kernel) (by omega) (by omega) (by decide +kernel)
                  have hw_g_881_1460 := z_cwo hg_g_881 (k := 1460) (by omega) (by omega)
                  have hw_g_881_1461 := z_cwo hg_g_881 (k := 1461) (by omega) (by omega)
                  have hs_882 : zNw g_881 g_isOn := (zNw_fr hs_857 hg_g_881 (a := 1477) (b := 1524) (by decide +kernel) (by omega) (by omega))
                  have hs_883 : zNf g_881 := (zNf_row hs_858 hg_g_881 (by omega) (by omega) (by omega))
                  have hs_884 : (g_881 (1471 + r_13.toInt.toNat)).toInt = r_37.toInt := (z_updkeep hs_859 hg_g_881 (by omega) (by omega))
                  obtain ⟨x_885, he_x_885⟩ : ∃ z : Int32, z = v_835 + 1 := ⟨_, rfl⟩
                  have hq_x_885 := z_addq he_x_885 (rfl : v_835.toInt = _) hk_1 (by omega) (by omega)
                  refine lv_iinc (v := x_885) (lv' := [(4, .int x_885), (0, .ref h0), (1, .int r_13), (2, .int r_37), (3, .int 1)]) hx hb dX12_readFeature_173 hl (k := 4) rfl ((z_ofi (by decide +kernel)).trans he_x_885.symm) (by decide) rfl (fun ls hl => ?_)
                  refine lv_goto (tgt := 137) hx hb dX12_readFeature_176 (by decide) ?_
                  exact ih_865 x_885 g_881 H locs ls (by omega) (by omega) hC_g_881 hs_882 hs_883 hs_884 (by rw [hq_x_885]; exact zFt_step hi_860 hg_g_881 (by omega) (by omega) (by omega) (by omega)) (by omega) (by omega) (by omega) hP hD hS (lv_sub hl [1, 2, 3, 4, 0] rfl)
                · have b_886 := z_feqF c_879
                  refine lv_bipush (v := 16) hx hb dX12_readFeature_166 (by decide) ?_
                  refine lv_goto (tgt := 172) hx hb dX12_readFeature_168 (by decide) ?_
                  refine z_iast hx hb hK hP hD hS 2 0 rfl rfl (z_inN (by omega) (by omega)) dX12_readFeature_172 (fun g_887 hg_g_887 H locs hP hD hS => ?_)
                  have hC_g_887 := z_ctU hC_g_836 hg_g_887 (a := 1477) (b := 1524) (lo := 0) (hi := 16) (by decide +kernel) (by decide +kernel) (by omega) (by omega) (by decide +kernel)
                  have hw_g_887_1460 := z_cwo hg_g_887 (k := 1460) (by omega) (by omega)
                  have hw_g_887_1461 := z_cwo hg_g_887 (k := 1461) (by omega) (by omega)
                  have hs_888 : zNw g_887 g_isOn := (zNw_fr hs_857 hg_g_887 (a := 1477) (b := 1524) (by decide +kernel) (by omega) (by omega))
                  have hs_889 : zNf g_887 := (zNf_row hs_858 hg_g_887 (by omega) (by omega) (by omega))
                  have hs_890 : (g_887 (1471 + r_13.toInt.toNat)).toInt = r_37.toInt := (z_updkeep hs_859 hg_g_887 (by omega) (by omega))
                  obtain ⟨x_891, he_x_891⟩ : ∃ z : Int32, z = v_835 + 1 := ⟨_, rfl⟩
                  have hq_x_891 := z_addq he_x_891 (rfl : v_835.toInt = _) hk_1 (by omega) (by omega)
                  refine lv_iinc (v := x_891) (lv' := [(4, .int x_891), (0, .ref h0), (1, .int r_13), (2, .int r_37), (3, .int 1)]) hx hb dX12_readFeature_173 hl (k := 4) rfl ((z_ofi (by decide +kernel)).trans he_x_891.symm) (by decide) rfl (fun ls hl => ?_)
                  refine lv_goto (tgt := 137) hx hb dX12_readFeature_176 (by decide) ?_
                  exact ih_865 x_891 g_887 H locs ls (by omega) (by omega) hC_g_887 hs_888 hs_889 hs_890 (by rw [hq_x_891]; exact zFt_step hi_860 hg_g_887 (by omega) (by omega) (by omega) (by omega)) (by omega) (by omega) (by omega) hP hD hS (lv_sub hl [1, 2, 3, 4, 0] rfl)
          exact hlp_864 _ 0 g_487 _ _ _ (Nat.lt_succ_self _) (by decide +kernel) hC_g_487 hs_488 hs_489 hs_490 zFt_0 (by omega) (by omega) (by omega) hP hD hS (lv_sub hl [4, 3, 2, 1, 0] rfl)
    · have b_892 := z_feqF c_23
      refine lv_iconst (v := 1) hx hb dX12_readFeature_51 (by decide) ?_
      refine lv_goto (tgt := 56) hx hb dX12_readFeature_52 (by decide) ?_
      refine z_callVv (As := [.int 1]) (rest := []) (wr := [(a_hasFeels, .inl (cA.1 3, 3, .inl g_hasFeels)), (a_isOn, .inl (cA.1 3, 10, .inl g_isOn)), (a_c, .inl (cA.1 0, 1825, .inl g_c)), (a_words, .inl (cA.1 1, 105, .inr (.inl n_12)))]) ⟨hx, hb, hml, hown, hts⟩ hK hE hT hP hD hS hA (r_must_1 l G cA h0 m_status m_thrown m_above m_under a_traySort a_trayMany a_numbers a_tape m_taped m_textEnd m_faultKind m_faultAt n_4 n_5 n_6 n_7 n_8 n_9 n_10 n_11 a_c a_words m_markMany a_there a_tried a_best a_found m_thereMany m_foundMany m_orderHow m_orderRing m_orderMany m_hasBest m_bestTop m_bestBy a_weights a_shared m_random m_truePlace m_trueWay m_seconds m_done m_feelings m_tries m_leftOver m_playDoor m_playRing m_isOpen m_isOver m_wasTried m_hasPlayed a_feltNow a_last a_kept m_hasSeconds m_hasTurned m_hasRound a_hasFeels a_isOn m_firstAct m_meanTop m_meanBy a_order m_rowMany m_newSteps g_tape (by omega) (by omega) (by omega) (by omega) (by omega) (by omega) (by omega)) lk_RX12_210 ⟨rfl, rfl⟩ ⟨Nat.le_of_ble_eq_true rfl, Nat.le_of_ble_eq_true rfl⟩ 12 rfl rfl rfl [5, 2] [0, 1, 3, 4] rfl rfl (by decide) rfl hl.1 rfl (lv_room (Nat.le_of_ble_eq_true rfl)) dX12_readFeature_56 ⟨Nat.le_of_ble_eq_true rfl, Nat.le_of_ble_eq_true rfl⟩ (fun u_900 H locs hw hP hD hS => ?_)
      obtain ⟨n_893, n_894, n_895, n_896, n_897, n_898⟩ := u_900
      try dsimp only at hw
      obtain ⟨hr_n_893, hr_n_894, hr_n_895, hr_n_896, hr_n_897, hf_901, hf_902, hf_903⟩ := hw
      refine lv_aload_n hx hb dX12_readFeature_59 rfl (lv_at hl 1 rfl) ?_
      refine lv_iconst (v := 2) hx hb dX12_readFeature_60 (by decide) ?_
      refine lv_iconst (v := 4) hx hb dX12_readFeature_61 (by decide) ?_
      refine z_callVi (As := [.int 2, .int 4]) (rest := []) (wr := [(a_hasFeels, .inl (cA.1 3, 3, .inl g_hasFeels)), (a_isOn, .inl (cA.1 3, 10, .inl g_isOn)), (a_c, .inl (cA.1 0, 1825, .inl g_c)), (a_words, .inl (cA.1 1, 105, .inr (.inl n_12)))]) ⟨hx, hb, hml, hown, hts⟩ hK hE hT hP hD hS hA (r_count l G cA h0 m_status m_thrown m_above m_under a_traySort a_trayMany a_numbers a_tape m_taped m_textEnd m_faultKind m_faultAt n_4 n_5 n_893 n_894 n_895 n_896 n_897 n_898 a_c a_words m_markMany a_there a_tried a_best a_found m_thereMany m_foundMany m_orderHow m_orderRing m_orderMany m_hasBest m_bestTop m_bestBy a_weights a_shared m_random m_truePlace m_trueWay m_seconds m_done m_feelings m_tries m_leftOver m_playDoor m_playRing m_isOpen m_isOver m_wasTried m_hasPlayed a_feltNow a_last a_kept m_hasSeconds m_hasTurned m_hasRound a_hasFeels a_isOn m_firstAct m_meanTop m_meanBy a_order m_rowMany m_newSteps g_tape 2 4 (by decide +kernel) (by decide +kernel) (by omega) (by omega) (by omega) (by omega) (by omega) (by omega) (by omega)) lk_RX12_214 ⟨rfl, rfl⟩ ⟨Nat.le_of_ble_eq_true rfl, Nat.le_of_ble_eq_true rfl⟩ 12 rfl rfl rfl [4, 5] [0, 1, 2, 3] rfl rfl (by decide) rfl hl.1 rfl (lv_room (Nat.le_of_ble_eq_true rfl)) dX12_readFeature_62 ⟨Nat.le_of_ble_eq_true rfl, Nat.le_of_ble_eq_true rfl⟩ (fun r_912 u_913 H locs hw hP hD hS => ?_)
      obtain ⟨n_904, n_905, n_906, n_907, n_908, n_909, n_910, n_911⟩ := u_913
      try dsimp only at hw
      obtain ⟨hr_r_912, hr_n_904, hr_n_906, hr_n_907, hr_n_908, hr_n_909, hr_n_910, hf_914, hf_915, hf_916, hf_917, hf_918, hf_919⟩ := hw
      refine lv_istore_n (lv' := [(2, .int r_912), (1, .int r_13), (0, .ref h0)]) hx hb dX12_readFeature_65 rfl hl (by decide) rfl (fun ls hl => ?_)
      refine lv_aload_n hx hb dX12_readFeature_66 rfl (lv_at hl 2 rfl) ?_
      refine va_get (D := G) (ci := 12) (v := .int n_904) (C := RX12) (T := TX12) (N := 65) hx hb hts inT12 hown hK hP 4 rfl rfl 12 (by decide) (hts _ tw_1897) (fun _ h9 => h9) rfl dX12_readFeature_67 ?_
      refine lv_if_ne (tgt := 86) hx hb dX12_readFeature_70 (by decide) (fun c_920 => ?_) (fun c_920 => ?_)
      · have b_921 := z_fneT c_920
        refine lv_iconst (v := 0) hx hb dX12_readFeature_86 (by decide) ?_
        refine lv_istore_n (lv' := [(3, .int 0), (2, .int r_912), (1, .int r_13), (0, .ref h0)]) hx hb dX12_readFeature_87 rfl hl (by decide) rfl (fun ls hl => ?_)
        refine lv_iload_n hx hb dX12_readFeature_88 rfl (lv_at hl 0 rfl) ?_
        refine lv_if_eq (tgt := 96) hx hb dX12_readFeature_89 (by decide) (fun _ => ?_) (fun h9 => absurd (by decide +kernel) h9)
        refine lv_aload_n hx hb dX12_readFeature_96 rfl (lv_at hl 3 rfl) ?_
        refine va_get (D := G) (ci := 12) (v := .int n_904) (C := RX12) (T := TX12) (N := 65) hx hb hts inT12 hown hK hP 4 rfl rfl 12 (by decide) (hts _ tw_1897) (fun _ h9 => h9) rfl dX12_readFeature_97 ?_
        refine lv_if_le (tgt := 104) hx hb dX12_readFeature_100 (by decide) (fun h9 => (z_no (by have h8 := z_fleT h9; omega))) (fun c_922 => ?_)
        have b_923 := z_fgtF c_922
        have hpost : (0 ≤ n_904.toInt ∧ n_904.toInt ≤ 9) ∧ (0 ≤ n_906.toInt ∧ n_906.toInt ≤ 4) ∧ (0 ≤ n_907.toInt ∧ n_907.toInt ≤ 900) ∧ (0 ≤ n_908.toInt ∧ n_908.toInt ≤ 900) ∧ (0 ≤ n_909.toInt ∧ n_909.toInt ≤ 9999) ∧ (0 ≤ n_910.toInt ∧ n_910.toInt ≤ 900) ∧ (zC g_c) ∧ (zRg 3 0 1 g_hasFeels) ∧ (zNw g_c g_isOn) ∧ (m_behind.toInt ≤ n_908.toInt) ∧ (0 < m_bad.toInt → 0 < n_904.toInt) ∧ (n_904.toInt ≤ 0 → n_906.toInt = 0 ∨ m_behind.toInt < n_908.toInt) ∧ (n_904.toInt ≤ 0 → n_906.toInt = 3 → n_909.toInt = 59 → zNf g_c) := ⟨(by omega), (by omega), (by omega), (by omega), (by omega), (by omega), hC_g_c, hC_g_hasFeels, hNW0, (by omega), (by omega), (by omega), (fun _ _ _ => hNF0)⟩
        exact hret _ _ _ _ _ (n_904, n_905, n_906, n_907, n_908, n_909, n_910, n_911, n_12, g_c, g_hasFeels) [4, 5, 2, 3, 0, 1] hP hD hS rfl (by decide) dX12_readFeature_103 hpost
      · have b_924 := z_feqF c_920
        refine lv_aload_n hx hb dX12_readFeature_73 rfl (lv_at hl 2 rfl) ?_
        refine z_callVi (As := []) (rest := []) (wr := [(a_hasFeels, .inl (cA.1 3, 3, .inl g_hasFeels)), (a_isOn, .inl (cA.1 3, 10, .inl g_isOn)), (a_c, .inl (cA.1 0, 1825, .inl g_c)), (a_words, .inl (cA.1 1, 105, .inr (.inl n_12))), (a_tape, .inl (cA.1 2, 900, .inl g_tape))]) ⟨hx, hb, hml, hown, hts⟩ hK hE hT hP hD hS hA (r_houseWord l G cA h0 m_status m_thrown m_above m_under a_traySort a_trayMany a_numbers a_tape m_taped m_textEnd m_faultKind m_faultAt n_904 n_905 n_906 n_907 n_908 n_909 n_910 n_911 a_c a_words m_markMany a_there a_tried a_best a_found m_thereMany m_foundMany m_orderHow m_orderRing m_orderMany m_hasBest m_bestTop m_bestBy a_weights a_shared m_random m_truePlace m_trueWay m_seconds m_done m_feelings m_tries m_leftOver m_playDoor m_playRing m_isOpen m_isOver m_wasTried m_hasPlayed a_feltNow a_last a_kept m_hasSeconds m_hasTurned m_hasRound a_hasFeels a_isOn m_firstAct m_meanTop m_meanBy a_order m_rowMany m_newSteps (by omega)) lk_RX12_170 ⟨rfl, rfl⟩ ⟨Nat.le_of_ble_eq_true rfl, Nat.le_of_ble_eq_true rfl⟩ 12 rfl rfl rfl [4] [0, 1, 2, 3, 5] rfl rfl (by decide) rfl hl.1 rfl (lv_room (Nat.le_of_ble_eq_true rfl)) dX12_readFeature_74 ⟨Nat.le_of_ble_eq_true rfl, Nat.le_of_ble_eq_true rfl⟩ (fun r_925 u_926 H locs hw hP hD hS => ?_)
        obtain ⟨hr_r_925, hf_927⟩ := hw
        refine lv_bipush (v := 6) hx hb dX12_readFeature_77 (by decide) ?_
        refine lv_icmp_ne (tgt := 86) hx hb dX12_readFeature_79 (by decide) (fun c_928 => ?_) (fun c_928 => ?_)
        · have b_929 := z_fneT c_928
          refine lv_iconst (v := 0) hx hb dX12_readFeature_86 (by decide) ?_
          refine lv_istore_n (lv' := [(3, .int 0), (2, .int r_912), (1, .int r_13), (0, .ref h0)]) hx hb dX12_readFeature_87 rfl hl (by decide) rfl (fun ls hl => ?_)
          refine lv_iload_n hx hb dX12_readFeature_88 rfl (lv_at hl 0 rfl) ?_
          refine lv_if_eq (tgt := 96) hx hb dX12_readFeature_89 (by decide) (fun _ => ?_) (fun h9 => absurd (by decide +kernel) h9)
          refine lv_aload_n hx hb dX12_readFeature_96 rfl (lv_at hl 3 rfl) ?_
          refine va_get (D := G) (ci := 12) (v := .int n_904) (C := RX12) (T := TX12) (N := 65) hx hb hts inT12 hown hK hP 5 rfl rfl 12 (by decide) (hts _ tw_1897) (fun _ h9 => h9) rfl dX12_readFeature_97 ?_
          refine lv_if_le (tgt := 104) hx hb dX12_readFeature_100 (by decide) (fun c_930 => ?_) (fun h9 => (z_no (by have h8 := z_fgtF h9; omega)))
          have b_931 := z_fleT c_930
          refine lv_aload_n hx hb dX12_readFeature_104 rfl (lv_at hl 3 rfl) ?_
          refine va_get (D := G) (ci := 12) (v := .ref a_c) (C := RX12) (T := TX12) (N := 65) hx hb hts inT12 hown hK hP 5 rfl rfl 20 (by decide) (hts _ tw_1905) (fun _ h9 => h9) rfl dX12_readFeature_105 ?_
          refine lv_sipush (v := 1471) hx hb dX12_readFeature_108 (by decide) ?_
          refine lv_iload_n hx hb dX12_readFeature_111 rfl (lv_at hl 2 rfl) ?_
          refine lv_iadd hx hb dX12_readFeature_112 ?_
          refine lv_topi (fun x_932 he_x_932 => ?_)
          have hq_x_932 := z_addq he_x_932 hk_1471 (rfl : r_13.toInt = _) (by omega) (by omega)
          refine lv_iload_n hx hb dX12_readFeature_113 rfl (lv_at hl 1 rfl) ?_
          refine z_iast hx hb hK hP hD hS 2 0 rfl rfl (z_inN (by omega) (by omega)) dX12_readFeature_114 (fun g_933 hg_g_933 H locs hP hD hS => ?_)
          have hC_g_933 := z_ctU hC_g_c hg_g_933 (a := 1471) (b := 1473) (lo := 0) (hi := 4) (by decide +kernel) (by decide +kernel) (by omega) (by omega) (by omega)
          have hw_g_933_1460 := z_cwo hg_g_933 (k := 1460) (by omega) (by omega)
          have hw_g_933_1461 := z_cwo hg_g_933 (k := 1461) (by omega) (by omega)
          have hs_934 : zNw g_933 g_isOn := (zNw_st hNW0 hg_g_933 (by omega) (by omega) (by omega))
          have hs_935 : zNf g_933 := (zNf_fr hNF0 hg_g_933 (a := 1471) (b := 1473) (by decide +kernel) (by omega) (by omega))
          have hs_936 : (g_933 (1471 + r_13.toInt.toNat)).toInt = r_912.toInt := (z_updself hg_g_933 (by omega))
          refine lv_aload_n hx hb dX12_readFeature_115 rfl (lv_at hl 3 rfl) ?_
          refine va_get (D := G) (ci := 12) (v := .ref a_c) (C := RX12) (T := TX12) (N := 65) hx hb hts inT12 hown hK hP 5 rfl rfl 20 (by decide) (hts _ tw_1905) (fun _ h9 => h9) rfl dX12_readFeature_116 ?_
          refine lv_sipush (v := 1474) hx hb dX12_readFeature_119 (by decide) ?_
          refine lv_iload_n hx hb dX12_readFeature_122 rfl (lv_at hl 2 rfl) ?_
          refine lv_iadd hx hb dX12_readFeature_123 ?_
          refine lv_topi (fun x_937 he_x_937 => ?_)
          have hq_x_937 := z_addq he_x_937 hk_1474 (rfl : r_13.toInt = _) (by omega) (by omega)
          refine lv_iload_n hx hb dX12_readFeature_124 rfl (lv_at hl 0 rfl) ?_
          refine lv_if_eq (tgt := 132) hx hb dX12_readFeature_125 (by decide) (fun _ => ?_) (fun h9 => absurd (by decide +kernel) h9)
          refine lv_iconst (v := 0) hx hb dX12_readFeature_132 (by decide) ?_
          refine z_iast hx hb hK hP hD hS 2 0 rfl rfl (z_inN (by omega) (by omega)) dX12_readFeature_133 (fun g_938 hg_g_938 H locs hP hD hS => ?_)
          have hC_g_938 := z_ctU hC_g_933 hg_g_938 (a := 1474) (b := 1476) (lo := (-2147483648)) (hi := 2147483647) (by decide +kernel) (by decide +kernel) (by omega) (by omega) (z_full _)
          have hw_g_938_1460 := z_cwo hg_g_938 (k := 1460) (by omega) (by omega)
          have hw_g_938_1461 := z_cwo hg_g_938 (k := 1461) (by omega) (by omega)
          have hs_939 : zNw g_938 g_isOn := (zNw_fr hs_934 hg_g_938 (a := 1474) (b := 1476) (by decide +kernel) (by omega) (by omega))
          have hs_940 : zNf g_938 := (zNf_fr hs_935 hg_g_938 (a := 1474) (b := 1476) (by decide +kernel) (by omega) (by omega))
          have hs_941 : (g_938 (1471 + r_13.toInt.toNat)).toInt = r_912.toInt := (z_updkeep hs_936 hg_g_938 (by omega) (by omega))
          refine lv_iconst (v := 0) hx hb dX12_readFeature_134 (by decide) ?_
          refine lv_istore (lv' := [(4, .int 0), (3, .int 0), (2, .int r_912), (1, .int r_13), (0, .ref h0)]) hx hb dX12_readFeature_135 hl (by decide) rfl (fun ls hl => ?_)
          have hlp_1315 : ∀ (n : Nat) (v_1286 : Int32) (g_1287 : Nat → Int32) (H : Heap) (locs : List Loc) (ls : Array Slot), (2147483647 - v_1286.toInt).toNat < n → (0 ≤ v_1286.toInt ∧ v_1286.toInt ≤ 16) → (zC g_1287) → (zNw g_1287 g_isOn) → (zNf g_1287) → ((g_1287 (1471 + r_13.toInt.toNat)).toInt = r_912.toInt) → (zFt g_1287 r_13.toInt v_1286.toInt) → ((g_1287 1460).toInt = r_13.toInt) → (m_behind.toInt ≤ n_908.toInt) → (n_904.toInt ≤ 0 → n_906.toInt = 0 ∨ m_behind.toInt < n_908.toInt) → va_P G vwCl [(a_hasFeels, .inl (cA.1 3, 3, .inl g_hasFeels)), (a_isOn, .inl (cA.1 3, 10, .inl g_isOn)), (a_c, .inl (cA.1 0, 1825, .inl g_1287)), (a_words, .inl (cA.1 1, 105, .inr (.inl n_12))), (a_tape, .inl (cA.1 2, 900, .inl g_tape)), (h0, .inr (12, [.int m_status, .int m_thrown, .long m_above, .long m_under, .ref a_traySort, .ref a_trayMany, .ref a_numbers, .ref a_tape, .int m_taped, .int m_textEnd, .int m_faultKind, .int m_faultAt, .int n_904, .int n_905, .int n_906, .int n_907, .int n_908, .int n_909, .int n_910, .long n_911, .ref a_c, .ref a_words, .int m_markMany, .ref a_there, .ref a_tried, .ref a_best, .ref a_found, .int m_thereMany, .int m_foundMany, .int m_orderHow, .int m_orderRing, .int m_orderMany, .int m_hasBest, .long m_bestTop, .long m_bestBy, .ref a_weights, .ref a_shared, .int m_random, .int m_truePlace, .int m_trueWay, .int m_seconds, .int m_done, .int m_feelings, .int m_tries, .int m_leftOver, .int m_playDoor, .int m_playRing, .int m_isOpen, .int m_isOver, .int m_wasTried, .int m_hasPlayed, .ref a_feltNow, .ref a_last, .ref a_kept, .int m_hasSeconds, .int m_hasTurned, .int m_hasRound, .ref a_hasFeels, .ref a_isOn, .int m_firstAct, .long m_meanTop, .long m_meanBy, .ref a_order, .int m_rowMany, .int m_newSteps]))] H → va_D A [(a_hasFeels, .inl (cA.1 3, 3, .inl g_hasFeels)), (a_isOn, .inl (cA.1 3, 10, .inl g_isOn)), (a_c, .inl (cA.1 0, 1825, .inl g_1287)), (a_words, .inl (cA.1 1, 105, .inr (.inl n_12))), (a_tape, .inl (cA.1 2, 900, .inl g_tape)), (h0, .inr (12, [.int m_status, .int m_thrown, .long m_above, .long m_under, .ref a_traySort, .ref a_trayMany, .ref a_numbers, .ref a_tape, .int m_taped, .int m_textEnd, .int m_faultKind, .int m_faultAt, .int n_904, .int n_905, .int n_906, .int n_907, .int n_908, .int n_909, .int n_910, .long n_911, .ref a_c, .ref a_words, .int m_markMany, .ref a_there, .ref a_tried, .ref a_best, .ref a_found, .int m_thereMany, .int m_foundMany, .int m_orderHow, .int m_orderRing, .int m_orderMany, .int m_hasBest, .long m_bestTop, .long m_bestBy, .ref a_weights, .ref a_shared, .int m_random, .int m_truePlace, .int m_trueWay, .int m_seconds, .int m_done, .int m_feelings, .int m_tries, .int m_leftOver, .int m_playDoor, .int m_playRing, .int m_isOpen, .int m_isOver, .int m_wasTried, .int m_hasPlayed, .ref a_feltNow, .ref a_last, .ref a_kept, .int m_hasSeconds, .int m_hasTurned, .int m_hasRound, .ref a_hasFeels, .ref a_isOn, .int m_firstAct, .long m_meanTop, .long m_meanBy, .ref a_order, .int m_rowMany, .int m_newSteps]))] → va_S A s.heap H locs → lv_has ls 5 [(0, .ref h0), (1, .int r_13), (2, .int r_912), (3, .int 0), (4, .int v_1286)] → W p l e ({ frames := 4, cells := 0, slots := 0, locals := 91 }) s m args below meth c H locs 0 0 Q (F0 m 137 ls []) := by
            intro n
            induction n with
            | zero =>
              intro v_1286 g_1287 H locs ls hmu_hlp_1315 hr_v_1286 hC_g_1287 hs_1308 hs_1309 hs_1310 hi_1311 hi_1312 hi_1313 hi_1314 hP hD hS hl
              exact absurd hmu_hlp_1315 (Nat.not_lt_zero _)
            | succ n ih_1316 =>
              intro v_1286 g_1287 H locs ls hmu_hlp_1315 hr_v_1286 hC_g_1287 hs_1308 hs_1309 hs_1310 hi_1311 hi_1312 hi_1313 hi_1314 hP hD hS hl
              refine lv_iload hx hb dX12_readFeature_137 (lv_at hl 4 rfl) ?_
              refine lv_bipush (v := 16) hx hb dX12_readFeature_139 (by decide) ?_
              refine lv_icmp_ge (tgt := 179) hx hb dX12_readFeature_141 (by decide) (fun c_1317 => ?_) (fun c_1317 => ?_)
              · have b_1318 := z_fgeT c_1317
                refine lv_aload_n hx hb dX12_readFeature_179 rfl (lv_at hl 0 rfl) ?_
                refine va_get (D := G) (ci := 12) (v := .ref a_hasFeels) (C := RX12) (T := TX12) (N := 65) hx hb hts inT12 hown hK hP 5 rfl rfl 57 (by decide) (hts _ tw_1940) (fun _ h9 => h9) rfl dX12_readFeature_180 ?_
                refine lv_iload_n hx hb dX12_readFeature_183 rfl (lv_at hl 1 rfl) ?_
                refine lv_iconst (v := 0) hx hb dX12_readFeature_184 (by decide) ?_
                refine z_zast hx hb hK hP hD hS 0 3 rfl rfl (z_inN (by omega) (by omega)) dX12_readFeature_185 (fun g_1319 hg_g_1319 H locs hP hD hS => ?_)
                have hC_g_1319 := z_rgZ hC_g_hasFeels hg_g_1319 (Or.inl rfl)
                refine lv_aload_n hx hb dX12_readFeature_186 rfl (lv_at hl 0 rfl) ?_
                refine va_get (D := G) (ci := 12) (v := .ref a_c) (C := RX12) (T := TX12) (N := 65) hx hb hts inT12 hown hK hP 5 rfl rfl 20 (by decide) (hts _ tw_1905) (fun _ h9 => h9) rfl dX12_readFeature_187 ?_
                refine lv_sipush (v := 1460) hx hb dX12_readFeature_190 (by decide) ?_
                refine lv_dup2_11 hx hb dX12_readFeature_193 rfl rfl ?_
                refine va_iald hx hb hK hP 2 0 rfl rfl (z_in (i := 1460) (n := 1825) (by decide +kernel) (by decide +kernel)) dX12_readFeature_194 ?_
                refine lv_topi (fun x_1320 he_x_1320 => ?_)
                have hr_x_1320 := z_ctk hC_g_1287 he_x_1320 (k := 1460) (lo := 0) (hi := 3) (by decide +kernel) (by decide +kernel) (by decide +kernel)
                have hv_x_1320 := z_cv he_x_1320 (k := 1460) (by decide +kernel)
                refine lv_iconst (v := 1) hx hb dX12_readFeature_195 (by decide) ?_
                refine lv_iadd hx hb dX12_readFeature_196 ?_
                refine lv_topi (fun x_1321 he_x_1321 => ?_)
                have hq_x_1321 := z_addq he_x_1321 (rfl : x_1320.toInt = _) hk_1 (by omega) (by omega)
                refine z_iast hx hb hK hP hD hS 2 0 rfl rfl (z_in (i := 1460) (n := 1825) (by decide +kernel) (by decide +kernel)) dX12_readFeature_197 (fun g_1322 hg_g_1322 H locs hP hD hS => ?_)
                have hC_g_1322 := z_ctUk hC_g_1287 hg_g_1322 (k := 1460) (lo := 0) (hi := 3) (by decide +kernel) (by decide +kernel) (by decide +kernel) (by omega)
                have hw_g_1322_1460 := z_cwk hg_g_1322 (k := 1460) (by decide +kernel)
                have hw_g_1322_1461 := z_cwo hg_g_1322 (k := 1461) (by decide +kernel) (by decide +kernel)
                have hs_1323 : zNw g_1322 g_isOn := (zNw_fe hs_1308 hg_g_1322 (by decide +kernel) (by omega) (by omega) (by omega) (k := r_13.toInt) (by omega) (by rw [hs_1310]; omega))
                have hs_1324 : zNf g_1322 := (zNf_fe hs_1309 hg_g_1322 (by decide +kernel) (by omega) (by omega) (by omega) (k := r_13.toInt) (n := v_1286.toInt) (by omega) (by omega) hi_1311)
                have hpost : (0 ≤ n_904.toInt ∧ n_904.toInt ≤ 9) ∧ (0 ≤ n_906.toInt ∧ n_906.toInt ≤ 4) ∧ (0 ≤ n_907.toInt ∧ n_907.toInt ≤ 900) ∧ (0 ≤ n_908.toInt ∧ n_908.toInt ≤ 900) ∧ (0 ≤ n_909.toInt ∧ n_909.toInt ≤ 9999) ∧ (0 ≤ n_910.toInt ∧ n_910.toInt ≤ 900) ∧ (zC g_1322) ∧ (zRg 3 0 1 g_1319) ∧ (zNw g_1322 g_isOn) ∧ (m_behind.toInt ≤ n_908.toInt) ∧ (0 < m_bad.toInt → 0 < n_904.toInt) ∧ (n_904.toInt ≤ 0 → n_906.toInt = 0 ∨ m_behind.toInt < n_908.toInt) ∧ (n_904.toInt ≤ 0 → n_906.toInt = 3 → n_909.toInt = 59 → zNf g_1322) := ⟨(by omega), (by omega), (by omega), (by omega), (by omega), (by omega), hC_g_1322, hC_g_1319, hs_1323, (by omega), (by omega), (by omega), (fun _ _ _ => hs_1324)⟩
                exact hret _ _ _ _ _ (n_904, n_905, n_906, n_907, n_908, n_909, n_910, n_911, n_12, g_1322, g_1319) [5, 4, 2, 3, 0, 1] hP hD hS rfl (by decide) dX12_readFeature_198 hpost
              · have b_1325 := z_fltF c_1317
                refine lv_aload_n hx hb dX12_readFeature_144 rfl (lv_at hl 0 rfl) ?_
                refine va_get (D := G) (ci := 12) (v := .ref a_c) (C := RX12) (T := TX12) (N := 65) hx hb hts inT12 hown hK hP 5 rfl rfl 20 (by decide) (hts _ tw_1905) (fun _ h9 => h9) rfl dX12_readFeature_145 ?_
                refine lv_sipush (v := 1477) hx hb dX12_readFeature_148 (by decide) ?_
                refine lv_bipush (v := 16) hx hb dX12_readFeature_151 (by decide) ?_
                refine lv_iload_n hx hb dX12_readFeature_153 rfl (lv_at hl 1 rfl) ?_
                refine lv_imul hx hb dX12_readFeature_154 ?_
                refine lv_topi (fun x_1326 he_x_1326 => ?_)
                have hq_x_1326 := z_mulq he_x_1326 hk_16 (rfl : r_13.toInt = _) (by omega) (by omega)
                refine lv_iadd hx hb dX12_readFeature_155 ?_
                refine lv_topi (fun x_1327 he_x_1327 => ?_)
                have hq_x_1327 := z_addq he_x_1327 hk_1477 (rfl : x_1326.toInt = _) (by omega) (by omega)
                refine lv_iload hx hb dX12_readFeature_156 (lv_at hl 4 rfl) ?_
                refine lv_iadd hx hb dX12_readFeature_158 ?_
                refine lv_topi (fun x_1328 he_x_1328 => ?_)
                have hq_x_1328 := z_addq he_x_1328 (rfl : x_1327.toInt = _) (rfl : v_1286.toInt = _) (by omega) (by omega)
                refine lv_iload hx hb dX12_readFeature_159 (lv_at hl 4 rfl) ?_
                refine lv_iconst (v := 5) hx hb dX12_readFeature_161 (by decide) ?_
                refine lv_irem hx hb dX12_readFeature_162 (by decide +kernel) ?_
                refine lv_topi (fun x_1329 he_x_1329 => ?_)
                have hq_x_1329 := z_remq he_x_1329 (rfl : v_1286.toInt = _) hk_5 (by omega) (by decide)
                refine lv_if_ne (tgt := 171) hx hb dX12_readFeature_163 (by decide) (fun c_1330 => ?_) (fun c_1330 => ?_)
                · have b_1331 := z_fneT c_1330
                  refine lv_iconst (v := 0) hx hb dX12_readFeature_171 (by decide) ?_
                  refine z_iast hx hb hK hP hD hS 2 0 rfl rfl (z_inN (by omega) (by omega)) dX12_readFeature_172 (fun g_1332 hg_g_1332 H locs hP hD hS => ?_)
                  have hC_g_1332 := z_ctU hC_g_1287 hg_g_1332 (a := 1477) (b := 1524) (lo := 0) (hi := 16) (by decide +kernel) (by decide +kernel) (by omega) (by omega) (by decide +kernel)
                  have hw_g_1332_1460 := z_cwo hg_g_1332 (k := 1460) (by omega) (by omega)
                  have hw_g_1332_1461 := z_cwo hg_g_1332 (k := 1461) (by omega) (by omega)
                  have hs_1333 : zNw g_1332 g_isOn := (zNw_fr hs_1308 hg_g_1332 (a := 1477) (b := 1524) (by decide +kernel) (by omega) (by omega))
                  have hs_1334 : zNf g_1332 := (zNf_row hs_1309 hg_g_1332 (by omega) (by omega) (by omega))
                  have hs_1335 : (g_1332 (1471 + r_13.toInt.toNat)).toInt = r_912.toInt := (z_updkeep hs_1310 hg_g_1332 (by omega) (by omega))
                  obtain ⟨x_1336, he_x_1336⟩ : ∃ z : Int32, z = v_1286 + 1 := ⟨_, rfl⟩
                  have hq_x_1336 := z_addq he_x_1336 (rfl : v_1286.toInt = _) hk_1 (by omega) (by omega)
                  refine lv_iinc (v := x_1336) (lv' := [(4, .int x_1336), (0, .ref h0), (1, .int r_13), (2, .int r_912), (3, .int 0)]) hx hb dX12_readFeature_173 hl (k := 4) rfl ((z_ofi (by decide +kernel)).trans he_x_1336.symm) (by decide) rfl (fun ls hl => ?_)
                  refine lv_goto (tgt := 137) hx hb dX12_readFeature_176 (by decide) ?_
                  exact ih_1316 x_1336 g_1332 H locs ls (by omega) (by omega) hC_g_1332 hs_1333 hs_1334 hs_1335 (by rw [hq_x_1336]; exact zFt_step hi_1311 hg_g_1332 (by omega) (by omega) (by omega) (by omega)) (by omega) (by omega) (by omega) hP hD hS (lv_sub hl [1, 2, 3, 4, 0] rfl)
                · have b_1337 := z_feqF c_1330
                  refine lv_bipush (v := 16) hx hb dX12_readFeature_166 (by decide) ?_
                  refine lv_goto (tgt := 172) hx hb dX12_readFeature_168 (by decide) ?_
                  refine z_iast hx hb hK hP hD hS 2 0 rfl rfl (z_inN (by omega) (by omega)) dX12_readFeature_172 (fun g_1338 hg_g_1338 H locs hP hD hS => ?_)
                  have hC_g_1338 := z_ctU hC_g_1287 hg_g_1338 (a := 1477) (b := 1524) (lo := 0) (hi := 16) (by decide +kernel) (by decide +kernel) (by omega) (by omega) (by decide +kernel)
                  have hw_g_1338_1460 := z_cwo hg_g_1338 (k := 1460) (by omega) (by omega)
                  have hw_g_1338_1461 := z_cwo hg_g_1338 (k := 1461) (by omega) (by omega)
                  have hs_1339 : zNw g_1338 g_isOn := (zNw_fr hs_1308 hg_g_1338 (a := 1477) (b := 1524) (by decide +kernel) (by omega) (by omega))
                  have hs_1340 : zNf g_1338 := (zNf_row hs_1309 hg_g_1338 (by omega) (by omega) (by omega))
                  have hs_1341 : (g_1338 (1471 + r_13.toInt.toNat)).toInt = r_912.toInt := (z_updkeep hs_1310 hg_g_1338 (by omega) (by omega))
                  obtain ⟨x_1342, he_x_1342⟩ : ∃ z : Int32, z = v_1286 + 1 := ⟨_, rfl⟩
                  have hq_x_1342 := z_addq he_x_1342 (rfl : v_1286.toInt = _) hk_1 (by omega) (by omega)
                  refine lv_iinc (v := x_1342) (lv' := [(4, .int x_1342), (0, .ref h0), (1, .int r_13), (2, .int r_912), (3, .int 0)]) hx hb dX12_readFeature_173 hl (k := 4) rfl ((z_ofi (by decide +kernel)).trans he_x_1342.symm) (by decide) rfl (fun ls hl => ?_)
                  refine lv_goto (tgt := 137) hx hb dX12_readFeature_176 (by decide) ?_
                  exact ih_1316 x_1342 g_1338 H locs ls (by omega) (by omega) hC_g_1338 hs_1339 hs_1340 hs_1341 (by rw [hq_x_1342]; exact zFt_step hi_1311 hg_g_1338 (by omega) (by omega) (by omega) (by omega)) (by omega) (by omega) (by omega) hP hD hS (lv_sub hl [1, 2, 3, 4, 0] rfl)
          exact hlp_1315 _ 0 g_938 _ _ _ (Nat.lt_succ_self _) (by decide +kernel) hC_g_938 hs_939 hs_940 hs_941 zFt_0 (by omega) (by omega) (by omega) hP hD hS (lv_sub hl [4, 3, 2, 1, 0] rfl)
        · have b_1343 := z_feqF c_928
          refine lv_iconst (v := 1) hx hb dX12_readFeature_82 (by decide) ?_
          refine lv_goto (tgt := 87) hx hb dX12_readFeature_83 (by decide) ?_
          refine lv_istore_n (lv' := [(3, .int 1), (2, .int r_912), (1, .int r_13), (0, .ref h0)]) hx hb dX12_readFeature_87 rfl hl (by decide) rfl (fun ls hl => ?_)
          refine lv_iload_n hx hb dX12_readFeature_88 rfl (lv_at hl 0 rfl) ?_
          refine lv_if_eq (tgt := 96) hx hb dX12_readFeature_89 (by decide) (fun h9 => absurd h9 (by decide +kernel)) (fun _ => ?_)
          refine lv_aload_n hx hb dX12_readFeature_92 rfl (lv_at hl 3 rfl) ?_
          refine z_callVv (As := []) (rest := []) (wr := [(a_hasFeels, .inl (cA.1 3, 3, .inl g_hasFeels)), (a_isOn, .inl (cA.1 3, 10, .inl g_isOn)), (a_c, .inl (cA.1 0, 1825, .inl g_c)), (a_words, .inl (cA.1 1, 105, .inr (.inl n_12)))]) ⟨hx, hb, hml, hown, hts⟩ hK hE hT hP hD hS hA (r_next2 l G cA h0 m_status m_thrown m_above m_under a_traySort a_trayMany a_numbers a_tape m_taped m_textEnd m_faultKind m_faultAt n_904 n_905 n_906 n_907 n_908 n_909 n_910 n_911 a_c a_words m_markMany a_there a_tried a_best a_found m_thereMany m_foundMany m_orderHow m_orderRing m_orderMany m_hasBest m_bestTop m_bestBy a_weights a_shared m_random m_truePlace m_trueWay m_seconds m_done m_feelings m_tries m_leftOver m_playDoor m_playRing m_isOpen m_isOver m_wasTried m_hasPlayed a_feltNow a_last a_kept m_hasSeconds m_hasTurned m_hasRound a_hasFeels a_isOn m_firstAct m_meanTop m_meanBy a_order m_rowMany m_newSteps g_tape (by omega) (by omega) (by omega) (by omega) (by omega) (by omega)) lk_RX12_184 ⟨rfl, rfl⟩ ⟨Nat.le_of_ble_eq_true rfl, Nat.le_of_ble_eq_true rfl⟩ 12 rfl rfl rfl [5, 4] [0, 1, 2, 3] rfl rfl (by decide) rfl hl.1 rfl (lv_room (Nat.le_of_ble_eq_true rfl)) dX12_readFeature_93 ⟨Nat.le_of_ble_eq_true rfl, Nat.le_of_ble_eq_true rfl⟩ (fun u_1351 H locs hw hP hD hS => ?_)
          obtain ⟨n_1344, n_1345, n_1346, n_1347, n_1348, n_1349⟩ := u_1351
          try dsimp only at hw
          obtain ⟨hr_n_1344, hr_n_1345, hr_n_1346, hr_n_1347, hr_n_1348, hf_1352, hf_1353⟩ := hw
          refine lv_aload_n hx hb dX12_readFeature_96 rfl (lv_at hl 3 rfl) ?_
          refine va_get (D := G) (ci := 12) (v := .int n_904) (C := RX12) (T := TX12) (N := 65) hx hb hts inT12 hown hK hP 4 rfl rfl 12 (by decide) (hts _ tw_1897) (fun _ h9 => h9) rfl dX12_readFeature_97 ?_
          refine lv_if_le (tgt := 104) hx hb dX12_readFeature_100 (by decide) (fun c_1354 => ?_) (fun h9 => (z_no (by have h8 := z_fgtF h9; omega)))
          have b_1355 := z_fleT c_1354
          refine lv_aload_n hx hb dX12_readFeature_104 rfl (lv_at hl 3 rfl) ?_
          refine va_get (D := G) (ci := 12) (v := .ref a_c) (C := RX12) (T := TX12) (N := 65) hx hb hts inT12 hown hK hP 4 rfl rfl 20 (by decide) (hts _ tw_1905) (fun _ h9 => h9) rfl dX12_readFeature_105 ?_
          refine lv_sipush (v := 1471) hx hb dX12_readFeature_108 (by decide) ?_
          refine lv_iload_n hx hb dX12_readFeature_111 rfl (lv_at hl 2 rfl) ?_
          refine lv_iadd hx hb dX12_readFeature_112 ?_
          refine lv_topi (fun x_1356 he_x_1356 => ?_)
          have hq_x_1356 := z_addq he_x_1356 hk_1471 (rfl : r_13.toInt = _) (by omega) (by omega)
          refine lv_iload_n hx hb dX12_readFeature_113 rfl (lv_at hl 1 rfl) ?_
          refine z_iast hx hb hK hP hD hS 2 0 rfl rfl (z_inN (by omega) (by omega)) dX12_readFeature_114 (fun g_1357 hg_g_1357 H locs hP hD hS => ?_)
          have hC_g_1357 := z_ctU hC_g_c hg_g_1357 (a := 1471) (b := 1473) (lo := 0) (hi := 4) (by decide +kernel) (by decide +kernel) (by omega) (by omega) (by omega)
          have hw_g_1357_1460 := z_cwo hg_g_1357 (k := 1460) (by omega) (by omega)
          have hw_g_1357_1461 := z_cwo hg_g_1357 (k := 1461) (by omega) (by omega)
          have hs_1358 : zNw g_1357 g_isOn := (zNw_st hNW0 hg_g_1357 (by omega) (by omega) (by omega))
          have hs_1359 : zNf g_1357 := (zNf_fr hNF0 hg_g_1357 (a := 1471) (b := 1473) (by decide +kernel) (by omega) (by omega))
          have hs_1360 : (g_1357 (1471 + r_13.toInt.toNat)).toInt = r_912.toInt := (z_updself hg_g_1357 (by omega))
          refine lv_aload_n hx hb dX12_readFeature_115 rfl (lv_at hl 3 rfl) ?_
          refine va_get (D := G) (ci := 12) (v := .ref a_c) (C := RX12) (T := TX12) (N := 65) hx hb hts inT12 hown hK hP 4 rfl rfl 20 (by decide) (hts _ tw_1905) (fun _ h9 => h9) rfl dX12_readFeature_116 ?_
          refine lv_sipush (v := 1474) hx hb dX12_readFeature_119 (by decide) ?_
          refine lv_iload_n hx hb dX12_readFeature_122 rfl (lv_at hl 2 rfl) ?_
          refine lv_iadd hx hb dX12_readFeature_123 ?_
          refine lv_topi (fun x_1361 he_x_1361 => ?_)
          have hq_x_1361 := z_addq he_x_1361 hk_1474 (rfl : r_13.toInt = _) (by omega) (by omega)
          refine lv_iload_n hx hb dX12_readFeature_124 rfl (lv_at hl 0 rfl) ?_
          refine lv_if_eq (tgt := 132) hx hb dX12_readFeature_125 (by decide) (fun h9 => absurd h9 (by decide +kernel)) (fun _ => ?_)
          refine lv_iconst (v := 1) hx hb dX12_readFeature_128 (by decide) ?_
          refine lv_goto (tgt := 133) hx hb dX12_readFeature_129 (by decide) ?_
          refine z_iast hx hb hK hP hD hS 2 0 rfl rfl (z_inN (by omega) (by omega)) dX12_readFeature_133 (fun g_1362 hg_g_1362 H locs hP hD hS => ?_)
          have hC_g_1362 := z_ctU hC_g_1357 hg_g_1362 (a := 1474) (b := 1476) (lo := (-2147483648)) (hi := 2147483647) (by decide +kernel) (by decide +kernel) (by omega) (by omega) (z_full _)
          have hw_g_1362_1460 := z_cwo hg_g_1362 (k := 1460) (by omega) (by omega)
          have hw_g_1362_1461 := z_cwo hg_g_1362 (k := 1461) (by omega) (by omega)
          have hs_1363 : zNw g_1362 g_isOn := (zNw_fr hs_1358 hg_g_1362 (a := 1474) (b := 1476) (by decide +kernel) (by omega) (by omega))
          have hs_1364 : zNf g_1362 := (zNf_fr hs_1359 hg_g_1362 (a := 1474) (b := 1476) (by decide +kernel) (by omega) (by omega))
          have hs_1365 : (g_1362 (1471 + r_13.toInt.toNat)).toInt = r_912.toInt := (z_updkeep hs_1360 hg_g_1362 (by omega) (by omega))
          refine lv_iconst (v := 0) hx hb dX12_readFeature_134 (by decide) ?_
          refine lv_istore (lv' := [(4, .int 0), (3, .int 1), (2, .int r_912), (1, .int r_13), (0, .ref h0)]) hx hb dX12_readFeature_135 hl (by decide) rfl (fun ls hl => ?_)
          have hlp_1739 : ∀ (n : Nat) (v_1710 : Int32) (g_1711 : Nat → Int32) (H : Heap) (locs : List Loc) (ls : Array Slot), (2147483647 - v_1710.toInt).toNat < n → (0 ≤ v_1710.toInt ∧ v_1710.toInt ≤ 16) → (zC g_1711) → (zNw g_1711 g_isOn) → (zNf g_1711) → ((g_1711 (1471 + r_13.toInt.toNat)).toInt = r_912.toInt) → (zFt g_1711 r_13.toInt v_1710.toInt) → ((g_1711 1460).toInt = r_13.toInt) → (m_behind.toInt ≤ n_1346.toInt) → (n_904.toInt ≤ 0 → n_1344.toInt = 0 ∨ m_behind.toInt < n_1346.toInt) → va_P G vwCl [(a_hasFeels, .inl (cA.1 3, 3, .inl g_hasFeels)), (a_isOn, .inl (cA.1 3, 10, .inl g_isOn)), (a_c, .inl (cA.1 0, 1825, .inl g_1711)), (a_words, .inl (cA.1 1, 105, .inr (.inl n_12))), (h0, .inr (12, [.int m_status, .int m_thrown, .long m_above, .long m_under, .ref a_traySort, .ref a_trayMany, .ref a_numbers, .ref a_tape, .int m_taped, .int m_textEnd, .int m_faultKind, .int m_faultAt, .int n_904, .int n_905, .int n_1344, .int n_1345, .int n_1346, .int n_1347, .int n_1348, .long n_1349, .ref a_c, .ref a_words, .int m_markMany, .ref a_there, .ref a_tried, .ref a_best, .ref a_found, .int m_thereMany, .int m_foundMany, .int m_orderHow, .int m_orderRing, .int m_orderMany, .int m_hasBest, .long m_bestTop, .long m_bestBy, .ref a_weights, .ref a_shared, .int m_random, .int m_truePlace, .int m_trueWay, .int m_seconds, .int m_done, .int m_feelings, .int m_tries, .int m_leftOver, .int m_playDoor, .int m_playRing, .int m_isOpen, .int m_isOver, .int m_wasTried, .int m_hasPlayed, .ref a_feltNow, .ref a_last, .ref a_kept, .int m_hasSeconds, .int m_hasTurned, .int m_hasRound, .ref a_hasFeels, .ref a_isOn, .int m_firstAct, .long m_meanTop, .long m_meanBy, .ref a_order, .int m_rowMany, .int m_newSteps])), (a_tape, .inl (cA.1 2, 900, .inl g_tape))] H → va_D A [(a_hasFeels, .inl (cA.1 3, 3, .inl g_hasFeels)), (a_isOn, .inl (cA.1 3, 10, .inl g_isOn)), (a_c, .inl (cA.1 0, 1825, .inl g_1711)), (a_words, .inl (cA.1 1, 105, .inr (.inl n_12))), (h0, .inr (12, [.int m_status, .int m_thrown, .long m_above, .long m_under, .ref a_traySort, .ref a_trayMany, .ref a_numbers, .ref a_tape, .int m_taped, .int m_textEnd, .int m_faultKind, .int m_faultAt, .int n_904, .int n_905, .int n_1344, .int n_1345, .int n_1346, .int n_1347, .int n_1348, .long n_1349, .ref a_c, .ref a_words, .int m_markMany, .ref a_there, .ref a_tried, .ref a_best, .ref a_found, .int m_thereMany, .int m_foundMany, .int m_orderHow, .int m_orderRing, .int m_orderMany, .int m_hasBest, .long m_bestTop, .long m_bestBy, .ref a_weights, .ref a_shared, .int m_random, .int m_truePlace, .int m_trueWay, .int m_seconds, .int m_done, .int m_feelings, .int m_tries, .int m_leftOver, .int m_playDoor, .int m_playRing, .int m_isOpen, .int m_isOver, .int m_wasTried, .int m_hasPlayed, .ref a_feltNow, .ref a_last, .ref a_kept, .int m_hasSeconds, .int m_hasTurned, .int m_hasRound, .ref a_hasFeels, .ref a_isOn, .int m_firstAct, .long m_meanTop, .long m_meanBy, .ref a_order, .int m_rowMany, .int m_newSteps])), (a_tape, .inl (cA.1 2, 900, .inl g_tape))] → va_S A s.heap H locs → lv_has ls 5 [(0, .ref h0), (1, .int r_13), (2, .int r_912), (3, .int 1), (4, .int v_1710)] → W p l e ({ frames := 4, cells := 0, slots := 0, locals := 91 }) s m args below meth c H locs 0 0 Q (F0 m 137 ls []) := by
            intro n
            induction n with
            | zero =>
              intro v_1710 g_1711 H locs ls hmu_hlp_1739 hr_v_1710 hC_g_1711 hs_1732 hs_1733 hs_1734 hi_1735 hi_1736 hi_1737 hi_1738 hP hD hS hl
              exact absurd hmu_hlp_1739 (Nat.not_lt_zero _)
            | succ n ih_1740 =>
              intro v_1710 g_1711 H locs ls hmu_hlp_1739 hr_v_1710 hC_g_1711 hs_1732 hs_1733 hs_1734 hi_1735 hi_1736 hi_1737 hi_1738 hP hD hS hl
              refine lv_iload hx hb dX12_readFeature_137 (lv_at hl 4 rfl) ?_
              refine lv_bipush (v := 16) hx hb dX12_readFeature_139 (by decide) ?_
              refine lv_icmp_ge (tgt := 179) hx hb dX12_readFeature_141 (by decide) (fun c_1741 => ?_) (fun c_1741 => ?_)
              · have b_1742 := z_fgeT c_1741
                refine lv_aload_n hx hb dX12_readFeature_179 rfl (lv_at hl 0 rfl) ?_
                refine va_get (D := G) (ci := 12) (v := .ref a_hasFeels) (C := RX12) (T := TX12) (N := 65) hx hb hts inT12 hown hK hP 4 rfl rfl 57 (by decide) (hts _ tw_1940) (fun _ h9 => h9) rfl dX12_readFeature_180 ?_
                refine lv_iload_n hx hb dX12_readFeature_183 rfl (lv_at hl 1 rfl) ?_
                refine lv_iconst (v := 0) hx hb dX12_readFeature_184 (by decide) ?_
                refine z_zast hx hb hK hP hD hS 0 3 rfl rfl (z_inN (by omega) (by omega)) dX12_readFeature_185 (fun g_1743 hg_g_1743 H locs hP hD hS => ?_)
                have hC_g_1743 := z_rgZ hC_g_hasFeels hg_g_1743 (Or.inl rfl)
                refine lv_aload_n hx hb dX12_readFeature_186 rfl (lv_at hl 0 rfl) ?_
                refine va_get (D := G) (ci := 12) (v := .ref a_c) (C := RX12) (T := TX12) (N := 65) hx hb hts inT12 hown hK hP 4 rfl rfl 20 (by decide) (hts _ tw_1905) (fun _ h9 => h9) rfl dX12_readFeature_187 ?_
                refine lv_sipush (v := 1460) hx hb dX12_readFeature_190 (by decide) ?_
                refine lv_dup2_11 hx hb dX12_readFeature_193 rfl rfl ?_
                refine va_iald hx hb hK hP 2 0 rfl rfl (z_in (i := 1460) (n := 1825) (by decide +kernel) (by decide +kernel)) dX12_readFeature_194 ?_
                refine lv_topi (fun x_1744 he_x_1744 => ?_)
                have hr_x_1744 := z_ctk hC_g_1711 he_x_1744 (k := 1460) (lo := 0) (hi := 3) (by decide +kernel) (by decide +kernel) (by decide +kernel)
                have hv_x_1744 := z_cv he_x_1744 (k := 1460) (by decide +kernel)
                refine lv_iconst (v := 1) hx hb dX12_readFeature_195 (by decide) ?_
                refine lv_iadd hx hb dX12_readFeature_196 ?_
                refine lv_topi (fun x_1745 he_x_1745 => ?_)
                have hq_x_1745 := z_addq he_x_1745 (rfl : x_1744.toInt = _) hk_1 (by omega) (by omega)
                refine z_iast hx hb hK hP hD hS 2 0 rfl rfl (z_in (i := 1460) (n := 1825) (by decide +kernel) (by decide +kernel)) dX12_readFeature_197 (fun g_1746 hg_g_1746 H locs hP hD hS => ?_)
                have hC_g_1746 := z_ctUk hC_g_1711 hg_g_1746 (k := 1460) (lo := 0) (hi := 3) (by decide +kernel) (by decide +kernel) (by decide +kernel) (by omega)
                have hw_g_1746_1460 := z_cwk hg_g_1746 (k := 1460) (by decide +kernel)
                have hw_g_1746_1461 := z_cwo hg_g_1746 (k := 1461) (by decide +kernel) (by decide +kernel)
                have hs_1747 : zNw g_1746 g_isOn := (zNw_fe hs_1732 hg_g_1746 (by decide +kernel) (by omega) (by omega) (by omega) (k := r_13.toInt) (by omega) (by rw [hs_1734]; omega))
                have hs_1748 : zNf g_1746 := (zNf_fe hs_1733 hg_g_1746 (by decide +kernel) (by omega) (by omega) (by omega) (k := r_13.toInt) (n := v_1710.toInt) (by omega) (by omega) hi_1735)
                have hpost : (0 ≤ n_904.toInt ∧ n_904.toInt ≤ 9) ∧ (0 ≤ n_1344.toInt ∧ n_1344.toInt ≤ 4) ∧ (0 ≤ n_1345.toInt ∧ n_1345.toInt ≤ 900) ∧ (0 ≤ n_1346.toInt ∧ n_1346.toInt ≤ 900) ∧ (0 ≤ n_1347.toInt ∧ n_1347.toInt ≤ 9999) ∧ (0 ≤ n_1348.toInt ∧ n_1348.toInt ≤ 900) ∧ (zC g_1746) ∧ (zRg 3 0 1 g_1743) ∧ (zNw g_1746 g_isOn) ∧ (m_behind.toInt ≤ n_1346.toInt) ∧ (0 < m_bad.toInt → 0 < n_904.toInt) ∧ (n_904.toInt ≤ 0 → n_1344.toInt = 0 ∨ m_behind.toInt < n_1346.toInt) ∧ (n_904.toInt ≤ 0 → n_1344.toInt = 3 → n_1347.toInt = 59 → zNf g_1746) := ⟨(by omega), (by omega), (by omega), (by omega), (by omega), (by omega), hC_g_1746, hC_g_1743, hs_1747, (by omega), (by omega), (by omega), (fun _ _ _ => hs_1748)⟩
                exact hret _ _ _ _ _ (n_904, n_905, n_1344, n_1345, n_1346, n_1347, n_1348, n_1349, n_12, g_1746, g_1743) [4, 5, 2, 3, 0, 1] hP hD hS rfl (by decide) dX12_readFeature_198 hpost
              · have b_1749 := z_fltF c_1741
                refine lv_aload_n hx hb dX12_readFeature_144 rfl (lv_at hl 0 rfl) ?_
                refine va_get (D := G) (ci := 12) (v := .ref a_c) (C := RX12) (T := TX12) (N := 65) hx hb hts inT12 hown hK hP 4 rfl rfl 20 (by decide) (hts _ tw_1905) (fun _ h9 => h9) rfl dX12_readFeature_145 ?_
                refine lv_sipush (v := 1477) hx hb dX12_readFeature_148 (by decide) ?_
                refine lv_bipush (v := 16) hx hb dX12_readFeature_151 (by decide) ?_
                refine lv_iload_n hx hb dX12_readFeature_153 rfl (lv_at hl 1 rfl) ?_
                refine lv_imul hx hb dX12_readFeature_154 ?_
                refine lv_topi (fun x_1750 he_x_1750 => ?_)
                have hq_x_1750 := z_mulq he_x_1750 hk_16 (rfl : r_13.toInt = _) (by omega) (by omega)
                refine lv_iadd hx hb dX12_readFeature_155 ?_
                refine lv_topi (fun x_1751 he_x_1751 => ?_)
                have hq_x_1751 := z_addq he_x_1751 hk_1477 (rfl : x_1750.toInt = _) (by omega) (by omega)
                refine lv_iload hx hb dX12_readFeature_156 (lv_at hl 4 rfl) ?_
                refine lv_iadd hx hb dX12_readFeature_158 ?_
                refine lv_topi (fun x_1752 he_x_1752 => ?_)
                have hq_x_1752 := z_addq he_x_1752 (rfl : x_1751.toInt = _) (rfl : v_1710.toInt = _) (by omega) (by omega)
                refine lv_iload hx hb dX12_readFeature_159 (lv_at hl 4 rfl) ?_
                refine lv_iconst (v := 5) hx hb dX12_readFeature_161 (by decide) ?_
                refine lv_irem hx hb dX12_readFeature_162 (by decide +kernel) ?_
                refine lv_topi (fun x_1753 he_x_1753 => ?_)
                have hq_x_1753 := z_remq he_x_1753 (rfl : v_1710.toInt = _) hk_5 (by omega) (by decide)
                refine lv_if_ne (tgt := 171) hx hb dX12_readFeature_163 (by decide) (fun c_1754 => ?_) (fun c_1754 => ?_)
                · have b_1755 := z_fneT c_1754
                  refine lv_iconst (v := 0) hx hb dX12_readFeature_171 (by decide) ?_
                  refine z_iast hx hb hK hP hD hS 2 0 rfl rfl (z_inN (by omega) (by omega)) dX12_readFeature_172 (fun g_1756 hg_g_1756 H locs hP hD hS => ?_)
                  have hC_g_1756 := z_ctU hC_g_1711 hg_g_1756 (a := 1477) (b := 1524) (lo := 0) (hi := 16) (by decide +kernel) (by decide +kernel) (by omega) (by omega) (by decide +kernel)
                  have hw_g_1756_1460 := z_cwo hg_g_1756 (k := 1460) (by omega) (by omega)
                  have hw_g_1756_1461 := z_cwo hg_g_1756 (k := 1461) (by omega) (by omega)
                  have hs_1757 : zNw g_1756 g_isOn := (zNw_fr hs_1732 hg_g_1756 (a := 1477) (b := 1524) (by decide +kernel) (by omega) (by omega))
                  have hs_1758 : zNf g_1756 := (zNf_row hs_1733 hg_g_1756 (by omega) (by omega) (by omega))
                  have hs_1759 : (g_1756 (1471 + r_13.toInt.toNat)).toInt = r_912.toInt := (z_updkeep hs_1734 hg_g_1756 (by omega) (by omega))
                  obtain ⟨x_1760, he_x_1760⟩ : ∃ z : Int32, z = v_1710 + 1 := ⟨_, rfl⟩
                  have hq_x_1760 := z_addq he_x_1760 (rfl : v_1710.toInt = _) hk_1 (by omega) (by omega)
                  refine lv_iinc (v := x_1760) (lv' := [(4, .int x_1760), (0, .ref h0), (1, .int r_13), (2, .int r_912), (3, .int 1)]) hx hb dX12_readFeature_173 hl (k := 4) rfl ((z_ofi (by decide +kernel)).trans he_x_1760.symm) (by decide) rfl (fun ls hl => ?_)
                  refine lv_goto (tgt := 137) hx hb dX12_readFeature_176 (by decide) ?_
                  exact ih_1740 x_1760 g_1756 H locs ls (by omega) (by omega) hC_g_1756 hs_1757 hs_1758 hs_1759 (by rw [hq_x_1760]; exact zFt_step hi_1735 hg_g_1756 (by omega) (by omega) (by omega) (by omega)) (by omega) (by omega) (by omega) hP hD hS (lv_sub hl [1, 2, 3, 4, 0] rfl)
                · have b_1761 := z_feqF c_1754
                  refine lv_bipush (v := 16) hx hb dX12_readFeature_166 (by decide) ?_
                  refine lv_goto (tgt := 172) hx hb dX12_readFeature_168 (by decide) ?_
                  refine z_iast hx hb hK hP hD hS 2 0 rfl rfl (z_inN (by omega) (by omega)) dX12_readFeature_172 (fun g_1762 hg_g_1762 H locs hP hD hS => ?_)
                  have hC_g_1762 := z_ctU hC_g_1711 hg_g_1762 (a := 1477) (b := 1524) (lo := 0) (hi := 16) (by decide +kernel) (by decide +kernel) (by omega) (by omega) (by decide +kernel)
                  have hw_g_1762_1460 := z_cwo hg_g_1762 (k := 1460) (by omega) (by omega)
                  have hw_g_1762_1461 := z_cwo hg_g_1762 (k := 1461) (by omega) (by omega)
                  have hs_1763 : zNw g_1762 g_isOn := (zNw_fr hs_1732 hg_g_1762 (a := 1477) (b := 1524) (by decide +kernel) (by omega) (by omega))
                  have hs_1764 : zNf g_1762 := (zNf_row hs_1733 hg_g_1762 (by omega) (by omega) (by omega))
                  have hs_1765 : (g_1762 (1471 + r_13.toInt.toNat)).toInt = r_912.toInt := (z_updkeep hs_1734 hg_g_1762 (by omega) (by omega))
                  obtain ⟨x_1766, he_x_1766⟩ : ∃ z : Int32, z = v_1710 + 1 := ⟨_, rfl⟩
                  have hq_x_1766 := z_addq he_x_1766 (rfl : v_1710.toInt = _) hk_1 (by omega) (by omega)
                  refine lv_iinc (v := x_1766) (lv' := [(4, .int x_1766), (0, .ref h0), (1, .int r_13), (2, .int r_912), (3, .int 1)]) hx hb dX12_readFeature_173 hl (k := 4) rfl ((z_ofi (by decide +kernel)).trans he_x_1766.symm) (by decide) rfl (fun ls hl => ?_)
                  refine lv_goto (tgt := 137) hx hb dX12_readFeature_176 (by decide) ?_
                  exact ih_1740 x_1766 g_1762 H locs ls (by omega) (by omega) hC_g_1762 hs_1763 hs_1764 hs_1765 (by rw [hq_x_1766]; exact zFt_step hi_1735 hg_g_1762 (by omega) (by omega) (by omega) (by omega)) (by omega) (by omega) (by omega) hP hD hS (lv_sub hl [1, 2, 3, 4, 0] rfl)
          exact hlp_1739 _ 0 g_1362 _ _ _ (Nat.lt_succ_self _) (by decide +kernel) hC_g_1362 hs_1363 hs_1364 hs_1365 zFt_0 (by omega) (by omega) (by omega) hP hD hS (lv_sub hl [4, 3, 2, 1, 0] rfl)
  · have b_1767 := z_fltF c_2
    refine lv_aload_n hx hb dX12_readFeature_12 rfl (lv_at hl 0 rfl) ?_
    refine va_get (D := G) (ci := 12) (v := .ref a_c) (C := RX12) (T := TX12) (N := 65) hx hb hts inT12 hown hK hP 0 rfl rfl 20 (by decide) (hts _ tw_1905) (fun _ h9 => h9) rfl dX12_readFeature_13 ?_
    refine lv_sipush (v := 1461) hx hb dX12_readFeature_16 (by decide) ?_
    refine va_iald hx hb hK hP 2 0 rfl rfl (z_in (i := 1461) (n := 1825) (by decide +kernel) (by decide +kernel)) dX12_readFeature_19 ?_
    refine lv_topi (fun x_1768 he_x_1768 => ?_)
    have hr_x_1768 := z_ctk hC_g_c he_x_1768 (k := 1461) (lo := 0) (hi := 10) (by decide +kernel) (by decide +kernel) (by decide +kernel)
    have hv_x_1768 := z_cv he_x_1768 (k := 1461) (by decide +kernel)
    refine lv_if_le (tgt := 33) hx hb dX12_readFeature_20 (by decide) (fun c_1769 => ?_) (fun c_1769 => ?_)
    · have b_1770 := z_fleT c_1769
      refine lv_aload_n hx hb dX12_readFeature_33 rfl (lv_at hl 0 rfl) ?_
      refine lv_iconst (v := 0) hx hb dX12_readFeature_34 (by decide) ?_
      refine lv_iconst (v := 3) hx hb dX12_readFeature_35 (by decide) ?_
      refine lv_iconst (v := 0) hx hb dX12_readFeature_36 (by decide) ?_
      refine z_callVi (As := [.int 0, .int 3, .int 0]) (rest := []) (wr := [(a_hasFeels, .inl (cA.1 3, 3, .inl g_hasFeels)), (a_isOn, .inl (cA.1 3, 10, .inl g_isOn))]) ⟨hx, hb, hml, hown, hts⟩ hK hE hT hP hD hS hA (r_readNew_0 l G cA h0 m_status m_thrown m_above m_under a_traySort a_trayMany a_numbers a_tape m_taped m_textEnd m_faultKind m_faultAt m_bad m_badAt m_token m_at m_behind m_number m_letters m_word a_c a_words m_markMany a_there a_tried a_best a_found m_thereMany m_foundMany m_orderHow m_orderRing m_orderMany m_hasBest m_bestTop m_bestBy a_weights a_shared m_random m_truePlace m_trueWay m_seconds m_done m_feelings m_tries m_leftOver m_playDoor m_playRing m_isOpen m_isOver m_wasTried m_hasPlayed a_feltNow a_last a_kept m_hasSeconds m_hasTurned m_hasRound a_hasFeels a_isOn m_firstAct m_meanTop m_meanBy a_order m_rowMany m_newSteps g_tape g_c g_words (by omega) (by omega) (by omega) (by omega) (by omega) (by omega) (by omega) hC_g_c) lk_RX12_207 ⟨rfl, rfl⟩ ⟨Nat.le_of_ble_eq_true rfl, Nat.le_of_ble_eq_true rfl⟩ 12 rfl rfl rfl [0, 1, 2, 3] [4, 5] rfl rfl (by decide) rfl hl.1 rfl (lv_room (Nat.le_of_ble_eq_true rfl)) dX12_readFeature_37 ⟨Nat.le_of_ble_eq_true rfl, Nat.le_of_ble_eq_true rfl⟩ (fun r_1780 u_1781 H locs hw hP hD hS => ?_)
      obtain ⟨n_1771, n_1772, n_1773, n_1774, n_1775, n_1776, n_1777, n_1778, n_1779⟩ := u_1781
      try dsimp only at hw
      obtain ⟨hr_r_1780, hr_n_1771, hr_n_1773, hr_n_1774, hr_n_1775, hr_n_1776, hr_n_1777, hf_1782, hf_1783, hf_1784, hf_1785, hf_1786⟩ := hw
      refine lv_istore_n (lv' := [(1, .int r_1780), (0, .ref h0)]) hx hb dX12_readFeature_40 rfl hl (by decide) rfl (fun ls hl => ?_)
      refine lv_aload_n hx hb dX12_readFeature_41 rfl (lv_at hl 1 rfl) ?_
      refine lv_aload_n hx hb dX12_readFeature_42 rfl (lv_at hl 1 rfl) ?_
      refine z_callVi (As := []) (rest := [.ref h0]) (wr := [(a_hasFeels, .inl (cA.1 3, 3, .inl g_hasFeels)), (a_isOn, .inl (cA.1 3, 10, .inl g_isOn)), (a_tape, .inl (cA.1 2, 900, .inl g_tape)), (a_c, .inl (cA.1 0, 1825, .inl g_c)), (a_words, .inl (cA.1 1, 105, .inr (.inl n_1779)))]) ⟨hx, hb, hml, hown, hts⟩ hK hE hT hP hD hS hA (r_houseWord l G cA h0 m_status m_thrown m_above m_under a_traySort a_trayMany a_numbers a_tape m_taped m_textEnd m_faultKind m_faultAt n_1771 n_1772 n_1773 n_1774 n_1775 n_1776 n_1777 n_1778 a_c a_words m_markMany a_there a_tried a_best a_found m_thereMany m_foundMany m_orderHow m_orderRing m_orderMany m_hasBest m_bestTop m_bestBy a_weights a_shared m_random m_truePlace m_trueWay m_seconds m_done m_feelings m_tries m_leftOver m_playDoor m_playRing m_isOpen m_isOver m_wasTried m_hasPlayed a_feltNow a_last a_kept m_hasSeconds m_hasTurned m_hasRound a_hasFeels a_isOn m_firstAct m_meanTop m_meanBy a_order m_rowMany m_newSteps (by omega)) lk_RX12_170 ⟨rfl, rfl⟩ ⟨Nat.le_of_ble_eq_true rfl, Nat.le_of_ble_eq_true rfl⟩ 12 rfl rfl rfl [2] [0, 1, 3, 4, 5] rfl rfl (by decide) rfl hl.1 rfl (lv_room (Nat.le_of_ble_eq_true rfl)) dX12_readFeature_43 ⟨Nat.le_of_ble_eq_true rfl, Nat.le_of_ble_eq_true rfl⟩ (fun r_1787 u_1788 H locs hw hP hD hS => ?_)
      obtain ⟨hr_r_1787, hf_1789⟩ := hw
      refine lv_bipush (v := 8) hx hb dX12_readFeature_46 (by decide) ?_
      refine lv_icmp_ne (tgt := 55) hx hb dX12_readFeature_48 (by decide) (fun c_1790 => ?_) (fun c_1790 => ?_)
      · have b_1791 := z_fneT c_1790
        refine lv_iconst (v := 0) hx hb dX12_readFeature_55 (by decide) ?_
        refine z_callVv (As := [.int 0]) (rest := []) (wr := [(a_hasFeels, .inl (cA.1 3, 3, .inl g_hasFeels)), (a_isOn, .inl (cA.1 3, 10, .inl g_isOn)), (a_tape, .inl (cA.1 2, 900, .inl g_tape)), (a_c, .inl (cA.1 0, 1825, .inl g_c)), (a_words, .inl (cA.1 1, 105, .inr (.inl n_1779)))]) ⟨hx, hb, hml, hown, hts⟩ hK hE hT hP hD hS hA (r_must_0 l G cA h0 m_status m_thrown m_above m_under a_traySort a_trayMany a_numbers a_tape m_taped m_textEnd m_faultKind m_faultAt n_1771 n_1772 n_1773 n_1774 n_1775 n_1776 n_1777 n_1778 a_c a_words m_markMany a_there a_tried a_best a_found m_thereMany m_foundMany m_orderHow m_orderRing m_orderMany m_hasBest m_bestTop m_bestBy a_weights a_shared m_random m_truePlace m_trueWay m_seconds m_done m_feelings m_tries m_leftOver m_playDoor m_playRing m_isOpen m_isOver m_wasTried m_hasPlayed a_feltNow a_last a_kept m_hasSeconds m_hasTurned m_hasRound a_hasFeels a_isOn m_firstAct m_meanTop m_meanBy a_order m_rowMany m_newSteps (by omega) (by omega) (by omega)) lk_RX12_210 ⟨rfl, rfl⟩ ⟨Nat.le_of_ble_eq_true rfl, Nat.le_of_ble_eq_true rfl⟩ 12 rfl rfl rfl [5] [0, 1, 2, 3, 4] rfl rfl (by decide) rfl hl.1 rfl (lv_room (Nat.le_of_ble_eq_true rfl)) dX12_readFeature_56 ⟨Nat.le_of_ble_eq_true rfl, Nat.le_of_ble_eq_true rfl⟩ (fun u_1795 H locs hw hP hD hS => ?_)
        obtain ⟨n_1792, n_1793⟩ := u_1795
        try dsimp only at hw
        have hr_n_1792 := hw
        refine lv_aload_n hx hb dX12_readFeature_59 rfl (lv_at hl 1 rfl) ?_
        refine lv_iconst (v := 2) hx hb dX12_readFeature_60 (by decide) ?_
        refine lv_iconst (v := 4) hx hb dX12_readFeature_61 (by decide) ?_
        refine z_callVi (As := [.int 2, .int 4]) (rest := []) (wr := [(a_hasFeels, .inl (cA.1 3, 3, .inl g_hasFeels)), (a_isOn, .inl (cA.1 3, 10, .inl g_isOn)), (a_c, .inl (cA.1 0, 1825, .inl g_c)), (a_words, .inl (cA.1 1, 105, .inr (.inl n_1779)))]) ⟨hx, hb, hml, hown, hts⟩ hK hE hT hP hD hS hA (r_count l G cA h0 m_status m_thrown m_above m_under a_traySort a_trayMany a_numbers a_tape m_taped m_textEnd m_faultKind m_faultAt n_1792 n_1793 n_1773 n_1774 n_1775 n_1776 n_1777 n_1778 a_c a_words m_markMany a_there a_tried a_best a_found m_thereMany m_foundMany m_orderHow m_orderRing m_orderMany m_hasBest m_bestTop m_bestBy a_weights a_shared m_random m_truePlace m_trueWay m_seconds m_done m_feelings m_tries m_leftOver m_playDoor m_playRing m_isOpen m_isOver m_wasTried m_hasPlayed a_feltNow a_last a_kept m_hasSeconds m_hasTurned m_hasRound a_hasFeels a_isOn m_firstAct m_meanTop m_meanBy a_order m_rowMany m_newSteps g_tape 2 4 (by decide +kernel) (by decide +kernel) (by omega) (by omega) (by omega) (by omega) (by omega) (by omega) (by omega)) lk_RX12_214 ⟨rfl, rfl⟩ ⟨Nat.le_of_ble_eq_true rfl, Nat.le_of_ble_eq_true rfl⟩ 12 rfl rfl rfl [5, 2] [0, 1, 3, 4] rfl rfl (by decide) rfl hl.1 rfl (lv_room (Nat.le_of_ble_eq_true rfl)) dX12_readFeature_62 ⟨Nat.le_of_ble_eq_true rfl, Nat.le_of_ble_eq_true rfl⟩ (fun r_1804 u_1805 H locs hw hP hD hS => ?_)
        obtain ⟨n_1796, n_1797, n_1798, n_1799, n_1800, n_1801, n_1802, n_1803⟩ := u_1805
        try dsimp only at hw
        obtain ⟨hr_r_1804, hr_n_1796, hr_n_1798, hr_n_1799, hr_n_1800, hr_n_1801, hr_n_1802, hf_1806, hf_1807, hf_1808, hf_1809, hf_1810, hf_1811⟩ := hw
        refine lv_istore_n (lv' := [(2, .int r_1804), (1, .int r_1780), (0, .ref h0)]) hx hb dX12_readFeature_65 rfl hl (by decide) rfl (fun ls hl => ?_)
        refine lv_aload_n hx hb dX12_readFeature_66 rfl (lv_at hl 2 rfl) ?_
        refine va_get (D := G) (ci := 12) (v := .int n_1796) (C := RX12) (T := TX12) (N := 65) hx hb hts inT12 hown hK hP 4 rfl rfl 12 (by decide) (hts _ tw_1897) (fun _ h9 => h9) rfl dX12_readFeature_67 ?_
        refine lv_if_ne (tgt := 86) hx hb dX12_readFeature_70 (by decide) (fun c_1812 => ?_) (fun c_1812 => ?_)
        · have b_1813 := z_fneT c_1812
          refine lv_iconst (v := 0) hx hb dX12_readFeature_86 (by decide) ?_
          refine lv_istore_n (lv' := [(3, .int 0), (2, .int r_1804), (1, .int r_1780), (0, .ref h0)]) hx hb dX12_readFeature_87 rfl hl (by decide) rfl (fun ls hl => ?_)
          refine lv_iload_n hx hb dX12_readFeature_88 rfl (lv_at hl 0 rfl) ?_
          refine lv_if_eq (tgt := 96) hx hb dX12_readFeature_89 (by decide) (fun _ => ?_) (fun h9 => absurd (by decide +kernel) h9)
          refine lv_aload_n hx hb dX12_readFeature_96 rfl (lv_at hl 3 rfl) ?_
          refine va_get (D := G) (ci := 12) (v := .int n_1796) (C := RX12) (T := TX12) (N := 65) hx hb hts inT12 hown hK hP 4 rfl rfl 12 (by decide) (hts _ tw_1897) (fun _ h9 => h9) rfl dX12_readFeature_97 ?_
          refine lv_if_le (tgt := 104) hx hb dX12_readFeature_100 (by decide) (fun h9 => (z_no (by have h8 := z_fleT h9; omega))) (fun c_1814 => ?_)
          have b_1815 := z_fgtF c_1814
          have hpost : (0 ≤ n_1796.toInt ∧ n_1796.toInt ≤ 9) ∧ (0 ≤ n_1798.toInt ∧ n_1798.toInt ≤ 4) ∧ (0 ≤ n_1799.toInt ∧ n_1799.toInt ≤ 900) ∧ (0 ≤ n_1800.toInt ∧ n_1800.toInt ≤ 900) ∧ (0 ≤ n_1801.toInt ∧ n_1801.toInt ≤ 9999) ∧ (0 ≤ n_1802.toInt ∧ n_1802.toInt ≤ 900) ∧ (zC g_c) ∧ (zRg 3 0 1 g_hasFeels) ∧ (zNw g_c g_isOn) ∧ (m_behind.toInt ≤ n_1800.toInt) ∧ (0 < m_bad.toInt → 0 < n_1796.toInt) ∧ (n_1796.toInt ≤ 0 → n_1798.toInt = 0 ∨ m_behind.toInt < n_1800.toInt) ∧ (n_1796.toInt ≤ 0 → n_1798.toInt = 3 → n_1801.toInt = 59 → zNf g_c) := ⟨(by omega), (by omega), (by omega), (by omega), (by omega), (by omega), hC_g_c, hC_g_hasFeels, hNW0, (by omega), (by omega), (by omega), (fun _ _ _ => hNF0)⟩
          exact hret _ _ _ _ _ (n_1796, n_1797, n_1798, n_1799, n_1800, n_1801, n_1802, n_1803, n_1779, g_c, g_hasFeels) [4, 5, 2, 3, 0, 1] hP hD hS rfl (by decide) dX12_readFeature_103 hpost
        · have b_1816 := z_feqF c_1812
          refine lv_aload_n hx hb dX12_readFeature_73 rfl (lv_at hl 2 rfl) ?_
          refine z_callVi (As := []) (rest := []) (wr := [(a_hasFeels, .inl (cA.1 3, 3, .inl g_hasFeels)), (a_isOn, .inl (cA.1 3, 10, .inl g_isOn)), (a_c, .inl (cA.1 0, 1825, .inl g_c)), (a_words, .inl (cA.1 1, 105, .inr (.inl n_1779))), (a_tape, .inl (cA.1 2, 900, .inl g_tape))]) ⟨hx, hb, hml, hown, hts⟩ hK hE hT hP hD hS hA (r_houseWord l G cA h0 m_status m_thrown m_above m_under a_traySort a_trayMany a_numbers a_tape m_taped m_textEnd m_faultKind m_faultAt n_1796 n_1797 n_1798 n_1799 n_1800 n_1801 n_1802 n_1803 a_c a_words m_markMany a_there a_tried a_best a_found m_thereMany m_foundMany m_orderHow m_orderRing m_orderMany m_hasBest m_bestTop m_bestBy a_weights a_shared m_random m_truePlace m_trueWay m_seconds m_done m_feelings m_tries m_leftOver m_playDoor m_playRing m_isOpen m_isOver m_wasTried m_hasPlayed a_feltNow a_last a_kept m_hasSeconds m_hasTurned m_hasRound a_hasFeels a_isOn m_firstAct m_meanTop m_meanBy a_order m_rowMany m_newSteps (by omega)) lk_RX12_170 ⟨rfl, rfl⟩ ⟨Nat.le_of_ble_eq_true rfl, Nat.le_of_ble_eq_true rfl⟩ 12 rfl rfl rfl [4] [0, 1, 2, 3, 5] rfl rfl (by decide) rfl hl.1 rfl (lv_room (Nat.le_of_ble_eq_true rfl)) dX12_readFeature_74 ⟨Nat.le_of_ble_eq_true rfl, Nat.le_of_ble_eq_true rfl⟩ (fun r_1817 u_1818 H locs hw hP hD hS => ?_)
          obtain ⟨hr_r_1817, hf_1819⟩ := hw
          refine lv_bipush (v := 6) hx hb dX12_readFeature_77 (by decide) ?_
          refine lv_icmp_ne (tgt := 86) hx hb dX12_readFeature_79 (by decide) (fun c_1820 => ?_) (fun c_1820 => ?_)
          · have b_1821 := z_fneT c_1820
            refine lv_iconst (v := 0) hx hb dX12_readFeature_86 (by decide) ?_
            refine lv_istore_n (lv' := [(3, .int 0), (2, .int r_1804), (1, .int r_1780), (0, .ref h0)]) hx hb dX12_readFeature_87 rfl hl (by decide) rfl (fun ls hl => ?_)
            refine lv_iload_n hx hb dX12_readFeature_88 rfl (lv_at hl 0 rfl) ?_
            refine lv_if_eq (tgt := 96) hx hb dX12_readFeature_89 (by decide) (fun _ => ?_) (fun h9 => absurd (by decide +kernel) h9)
            refine lv_aload_n hx hb dX12_readFeature_96 rfl (lv_at hl 3 rfl) ?_
            refine va_get (D := G) (ci := 12) (v := .int n_1796) (C := RX12) (T := TX12) (N := 65) hx hb hts inT12 hown hK hP 5 rfl rfl 12 (by decide) (hts _ tw_1897) (fun _ h9 => h9) rfl dX12_readFeature_97 ?_
            refine lv_if_le (tgt := 104) hx hb dX12_readFeature_100 (by decide) (fun c_1822 => ?_) (fun h9 => (z_no (by have h8 := z_fgtF h9; omega)))
            have b_1823 := z_fleT c_1822
            refine lv_aload_n hx hb dX12_readFeature_104 rfl (lv_at hl 3 rfl) ?_
            refine va_get (D := G) (ci := 12) (v := .ref a_c) (C := RX12) (T := TX12) (N := 65) hx hb hts inT12 hown hK hP 5 rfl rfl 20 (by decide) (hts _ tw_1905) (fun _ h9 => h9) rfl dX12_readFeature_105 ?_
            refine lv_sipush (v := 1471) hx hb dX12_readFeature_108 (by decide) ?_
            refine lv_iload_n hx hb dX12_readFeature_111 rfl (lv_at hl 2 rfl) ?_
            refine lv_iadd hx hb dX12_readFeature_112 ?_
            refine lv_topi (fun x_1824 he_x_1824 => ?_)
            have hq_x_1824 := z_addq he_x_1824 hk_1471 (rfl : r_1780.toInt = _) (by omega) (by omega)
            refine lv_iload_n hx hb dX12_readFeature_113 rfl (lv_at hl 1 rfl) ?_
            refine z_iast hx hb hK hP hD hS 2 0 rfl rfl (z_inN (by omega) (by omega)) dX12_readFeature_114 (fun g_1825 hg_g_1825 H locs hP hD hS => ?_)
            have hC_g_1825 := z_ctU hC_g_c hg_g_1825 (a := 1471) (b := 1473) (lo := 0) (hi := 4) (by decide +kernel) (by decide +kernel) (by omega) (by omega) (by omega)
            have hw_g_1825_1460 := z_cwo hg_g_1825 (k := 1460) (by omega) (by omega)
            have hw_g_1825_1461 := z_cwo hg_g_1825 (k := 1461) (by omega) (by omega)
            have hs_1826 : zNw g_1825 g_isOn := (zNw_st hNW0 hg_g_1825 (by omega) (by omega) (by omega))
            have hs_1827 : zNf g_1825 := (zNf_fr hNF0 hg_g_1825 (a := 1471) (b := 1473) (by decide +kernel) (by omega) (by omega))
            have hs_1828 : (g_1825 (1471 + r_1780.toInt.toNat)).toInt = r_1804.toInt := (z_updself hg_g_1825 (by omega))
            refine lv_aload_n hx hb dX12_readFeature_115 rfl (lv_at hl 3 rfl) ?_
            refine va_get (D := G) (ci := 12) (v := .ref a_c) (C := RX12) (T := TX12) (N := 65) hx hb hts inT12 hown hK hP 5 rfl rfl 20 (by decide) (hts _ tw_1905) (fun _ h9 => h9) rfl dX12_readFeature_116 ?_
            refine lv_sipush (v := 1474) hx hb dX12_readFeature_119 (by decide) ?_
            refine lv_iload_n hx hb dX12_readFeature_122 rfl (lv_at hl 2 rfl) ?_
            refine lv_iadd hx hb dX12_readFeature_123 ?_
            refine lv_topi (fun x_1829 he_x_1829 => ?_)
            have hq_x_1829 := z_addq he_x_1829 hk_1474 (rfl : r_1780.toInt = _) (by omega) (by omega)
            refine lv_iload_n hx hb dX12_readFeature_124 rfl (lv_at hl 0 rfl) ?_
            refine lv_if_eq (tgt := 132) hx hb dX12_readFeature_125 (by decide) (fun _ => ?_) (fun h9 => absurd (by decide +kernel) h9)
            refine lv_iconst (v := 0) hx hb dX12_readFeature_132 (by decide) ?_
            refine z_iast hx hb hK hP hD hS 2 0 rfl rfl (z_inN (by omega) (by omega)) dX12_readFeature_133 (fun g_1830 hg_g_1830 H locs hP hD hS => ?_)
            have hC_g_1830 := z_ctU hC_g_1825 hg_g_1830 (a := 1474) (b := 1476) (lo := (-2147483648)) (hi := 2147483647) (by decide +kernel) (by decide +kernel) (by omega) (by omega) (z_full _)
            have hw_g_1830_1460 := z_cwo hg_g_1830 (k := 1460) (by omega) (by omega)
            have hw_g_1830_1461 := z_cwo hg_g_1830 (k := 1461) (by omega) (by omega)
            have hs_1831 : zNw g_1830 g_isOn := (zNw_fr hs_1826 hg_g_1830 (a := 1474) (b := 1476) (by decide +kernel) (by omega) (by omega))
            have hs_1832 : zNf g_1830 := (zNf_fr hs_1827 hg_g_1830 (a := 1474) (b := 1476) (by decide +kernel) (by omega) (by omega))
            have hs_1833 : (g_1830 (1471 + r_1780.toInt.toNat)).toInt = r_1804.toInt := (z_updkeep hs_1828 hg_g_1830 (by omega) (by omega))
            refine lv_iconst (v := 0) hx hb dX12_readFeature_134 (by decide) ?_
            refine lv_istore (lv' := [(4, .int 0), (3, .int 0), (2, .int r_1804), (1, .int r_1780), (0, .ref h0)]) hx hb dX12_readFeature_135 hl (by decide) rfl (fun ls hl => ?_)
            have hlp_2207 : ∀ (n : Nat) (v_2178 : Int32) (g_2179 : Nat → Int32) (H : Heap) (locs : List Loc) (ls : Array Slot), (2147483647 - v_2178.toInt).toNat < n → (0 ≤ v_2178.toInt ∧ v_2178.toInt ≤ 16) → (zC g_2179) → (zNw g_2179 g_isOn) → (zNf g_2179) → ((g_2179 (1471 + r_1780.toInt.toNat)).toInt = r_1804.toInt) → (zFt g_2179 r_1780.toInt v_2178.toInt) → ((g_2179 1460).toInt = r_1780.toInt) → (m_behind.toInt ≤ n_1800.toInt) → (n_1796.toInt ≤ 0 → n_1798.toInt = 0 ∨ m_behind.toInt < n_1800.toInt) → va_P G vwCl [(a_hasFeels, .inl (cA.1 3, 3, .inl g_hasFeels)), (a_isOn, .inl (cA.1 3, 10, .inl g_isOn)), (a_c, .inl (cA.1 0, 1825, .inl g_2179)), (a_words, .inl (cA.1 1, 105, .inr (.inl n_1779))), (a_tape, .inl (cA.1 2, 900, .inl g_tape)), (h0, .inr (12, [.int m_status, .int m_thrown, .long m_above, .long m_under, .ref a_traySort, .ref a_trayMany, .ref a_numbers, .ref a_tape, .int m_taped, .int m_textEnd, .int m_faultKind, .int m_faultAt, .int n_1796, .int n_1797, .int n_1798, .int n_1799, .int n_1800, .int n_1801, .int n_1802, .long n_1803, .ref a_c, .ref a_words, .int m_markMany, .ref a_there, .ref a_tried, .ref a_best, .ref a_found, .int m_thereMany, .int m_foundMany, .int m_orderHow, .int m_orderRing, .int m_orderMany, .int m_hasBest, .long m_bestTop, .long m_bestBy, .ref a_weights, .ref a_shared, .int m_random, .int m_truePlace, .int m_trueWay, .int m_seconds, .int m_done, .int m_feelings, .int m_tries, .int m_leftOver, .int m_playDoor, .int m_playRing, .int m_isOpen, .int m_isOver, .int m_wasTried, .int m_hasPlayed, .ref a_feltNow, .ref a_last, .ref a_kept, .int m_hasSeconds, .int m_hasTurned, .int m_hasRound, .ref a_hasFeels, .ref a_isOn, .int m_firstAct, .long m_meanTop, .long m_meanBy, .ref a_order, .int m_rowMany, .int m_newSteps]))] H → va_D A [(a_hasFeels, .inl (cA.1 3, 3, .inl g_hasFeels)), (a_isOn, .inl (cA.1 3, 10, .inl g_isOn)), (a_c, .inl (cA.1 0, 1825, .inl g_2179)), (a_words, .inl (cA.1 1, 105, .inr (.inl n_1779))), (a_tape, .inl (cA.1 2, 900, .inl g_tape)), (h0, .inr (12, [.int m_status, .int m_thrown, .long m_above, .long m_under, .ref a_traySort, .ref a_trayMany, .ref a_numbers, .ref a_tape, .int m_taped, .int m_textEnd, .int m_faultKind, .int m_faultAt, .int n_1796, .int n_1797, .int n_1798, .int n_1799, .int n_1800, .int n_1801, .int n_1802, .long n_1803, .ref a_c, .ref a_words, .int m_markMany, .ref a_there, .ref a_tried, .ref a_best, .ref a_found, .int m_thereMany, .int m_foundMany, .int m_orderHow, .int m_orderRing, .int m_orderMany, .int m_hasBest, .long m_bestTop, .long m_bestBy, .ref a_weights, .ref a_shared, .int m_random, .int m_truePlace, .int m_trueWay, .int m_seconds, .int m_done, .int m_feelings, .int m_tries, .int m_leftOver, .int m_playDoor, .int m_playRing, .int m_isOpen, .int m_isOver, .int m_wasTried, .int m_hasPlayed, .ref a_feltNow, .ref a_last, .ref a_kept, .int m_hasSeconds, .int m_hasTurned, .int m_hasRound, .ref a_hasFeels, .ref a_isOn, .int m_firstAct, .long m_meanTop, .long m_meanBy, .ref a_order, .int m_rowMany, .int m_newSteps]))] → va_S A s.heap H locs → lv_has ls 5 [(0, .ref h0), (1, .int r_1780), (2, .int r_1804), (3, .int 0), (4, .int v_2178)] → W p l e ({ frames := 4, cells := 0, slots := 0, locals := 91 }) s m args below meth c H locs 0 0 Q (F0 m 137 ls []) := by
              intro n
              induction n with
              | zero =>
                intro v_2178 g_2179 H locs ls hmu_hlp_2207 hr_v_2178 hC_g_2179 hs_2200 hs_2201 hs_2202 hi_2203 hi_2204 hi_2205 hi_2206 hP hD hS hl
                exact absurd hmu_hlp_2207 (Nat.not_lt_zero _)
              | succ n ih_2208 =>
                intro v_2178 g_2179 H locs ls hmu_hlp_2207 hr_v_2178 hC_g_2179 hs_2200 hs_2201 hs_2202 hi_2203 hi_2204 hi_2205 hi_2206 hP hD hS hl
                refine lv_iload hx hb dX12_readFeature_137 (lv_at hl 4 rfl) ?_
                refine lv_bipush (v := 16) hx hb dX12_readFeature_139 (by decide) ?_
                refine lv_icmp_ge (tgt := 179) hx hb dX12_readFeature_141 (by decide) (fun c_2209 => ?_) (fun c_2209 => ?_)
                · have b_2210 := z_fgeT c_2209
                  refine lv_aload_n hx hb dX12_readFeature_179 rfl (lv_at hl 0 rfl) ?_
                  refine va_get (D := G) (ci := 12) (v := .ref a_hasFeels) (C := RX12) (T := TX12) (N := 65) hx hb hts inT12 hown hK hP 5 rfl rfl 57 (by decide) (hts _ tw_1940) (fun _ h9 => h9) rfl dX12_readFeature_180 ?_
                  refine lv_iload_n hx hb dX12_readFeature_183 rfl (lv_at hl 1 rfl) ?_
                  refine lv_iconst (v := 0) hx hb dX12_readFeature_184 (by decide) ?_
                  refine z_zast hx hb hK hP hD hS 0 3 rfl rfl (z_inN (by omega) (by omega)) dX12_readFeature_185 (fun g_2211 hg_g_2211 H locs hP hD hS => ?_)
                  have hC_g_2211 := z_rgZ hC_g_hasFeels hg_g_2211 (Or.inl rfl)
                  refine lv_aload_n hx hb dX12_readFeature_186 rfl (lv_at hl 0 rfl) ?_
                  refine va_get (D := G) (ci := 12) (v := .ref a_c) (C := RX12) (T := TX12) (N := 65) hx hb hts inT12 hown hK hP 5 rfl rfl 20 (by decide) (hts _ tw_1905) (fun _ h9 => h9) rfl dX12_readFeature_187 ?_
                  refine lv_sipush (v := 1460) hx hb dX12_readFeature_190 (by decide) ?_
                  refine lv_dup2_11 hx hb dX12_readFeature_193 rfl rfl ?_
                  refine va_iald hx hb hK hP 2 0 rfl rfl (z_in (i := 1460) (n := 1825) (by decide +kernel) (by decide +kernel)) dX12_readFeature_194 ?_
                  refine lv_topi (fun x_2212 he_x_2212 => ?_)
                  have hr_x_2212 := z_ctk hC_g_2179 he_x_2212 (k := 1460) (lo := 0) (hi := 3) (by decide +kernel) (by decide +kernel) (by decide +kernel)
                  have hv_x_2212 := z_cv he_x_2212 (k := 1460) (by decide +kernel)
                  refine lv_iconst (v := 1) hx hb dX12_readFeature_195 (by decide) ?_
                  refine lv_iadd hx hb dX12_readFeature_196 ?_
                  refine lv_topi (fun x_2213 he_x_2213 => ?_)
                  have hq_x_2213 := z_addq he_x_2213 (rfl : x_2212.toInt = _) hk_1 (by omega) (by omega)
                  refine z_iast hx hb hK hP hD hS 2 0 rfl rfl (z_in (i := 1460) (n := 1825) (by decide +kernel) (by decide +kernel)) dX12_readFeature_197 (fun g_2214 hg_g_2214 H locs hP hD hS => ?_)
                  have hC_g_2214 := z_ctUk hC_g_2179 hg_g_2214 (k := 1460) (lo := 0) (hi := 3) (by decide +kernel) (by decide +kernel) (by decide +kernel) (by omega)
                  have hw_g_2214_1460 := z_cwk hg_g_2214 (k := 1460) (by decide +kernel)
                  have hw_g_2214_1461 := z_cwo hg_g_2214 (k := 1461) (by decide +kernel) (by decide +kernel)
                  have hs_2215 : zNw g_2214 g_isOn := (zNw_fe hs_2200 hg_g_2214 (by decide +kernel) (by omega) (by omega) (by omega) (k := r_1780.toInt) (by omega) (by rw [hs_2202]; omega))
                  have hs_2216 : zNf g_2214 := (zNf_fe hs_2201 hg_g_2214 (by decide +kernel) (by omega) (by omega) (by omega) (k := r_1780.toInt) (n := v_2178.toInt) (by omega) (by omega) hi_2203)
                  have hpost : (0 ≤ n_1796.toInt ∧ n_1796.toInt ≤ 9) ∧ (0 ≤ n_1798.toInt ∧ n_1798.toInt ≤ 4) ∧ (0 ≤ n_1799.toInt ∧ n_1799.toInt ≤ 900) ∧ (0 ≤ n_1800.toInt ∧ n_1800.toInt ≤ 900) ∧ (0 ≤ n_1801.toInt ∧ n_1801.toInt ≤ 9999) ∧ (0 ≤ n_1802.toInt ∧ n_1802.toInt ≤ 900) ∧ (zC g_2214) ∧ (zRg 3 0 1 g_2211) ∧ (zNw g_2214 g_isOn) ∧ (m_behind.toInt ≤ n_1800.toInt) ∧ (0 < m_bad.toInt → 0 < n_1796.toInt) ∧ (n_1796.toInt ≤ 0 → n_1798.toInt = 0 ∨ m_behind.toInt < n_1800.toInt) ∧ (n_1796.toInt ≤ 0 → n_1798.toInt = 3 → n_1801.toInt = 59 → zNf g_2214) := ⟨(by omega), (by omega), (by omega), (by omega), (by omega), (by omega), hC_g_2214, hC_g_2211, hs_2215, (by omega), (by omega), (by omega), (fun _ _ _ => hs_2216)⟩
                  exact hret _ _ _ _ _ (n_1796, n_1797, n_1798, n_1799, n_1800, n_1801, n_1802, n_1803, n_1779, g_2214, g_2211) [5, 4, 2, 3, 0, 1] hP hD hS rfl (by decide) dX12_readFeature_198 hpost
                · have b_2217 := z_fltF c_2209
                  refine lv_aload_n hx hb dX12_readFeature_144 rfl (lv_at hl 0 rfl) ?_
                  refine va_get (D := G) (ci := 12) (v := .ref a_c) (C := RX12) (T := TX12) (N := 65) hx hb hts inT12 hown hK hP 5 rfl rfl 20 (by decide) (hts _ tw_1905) (fun _ h9 => h9) rfl dX12_readFeature_145 ?_
                  refine lv_sipush (v := 1477) hx hb dX12_readFeature_148 (by decide) ?_
                  refine lv_bipush (v := 16) hx hb dX12_readFeature_151 (by decide) ?_
                  refine lv_iload_n hx hb dX12_readFeature_153 rfl (lv_at hl 1 rfl) ?_
                  refine lv_imul hx hb dX12_readFeature_154 ?_
                  refine lv_topi (fun x_2218 he_x_2218 => ?_)
                  have hq_x_2218 := z_mulq he_x_2218 hk_16 (rfl : r_1780.toInt = _) (by omega) (by omega)
                  refine lv_iadd hx hb dX12_readFeature_155 ?_
                  refine lv_topi (fun x_2219 he_x_2219 => ?_)
                  have hq_x_2219 := z_addq he_x_2219 hk_1477 (rfl : x_2218.toInt = _) (by omega) (by omega)
                  refine lv_iload hx hb dX12_readFeature_156 (lv_at hl 4 rfl) ?_
                  refine lv_iadd hx hb dX12_readFeature_158 ?_
                  refine lv_topi (fun x_2220 he_x_2220 => ?_)
                  have hq_x_2220 := z_addq he_x_2220 (rfl : x_2219.toInt = _) (rfl : v_2178.toInt = _) (by omega) (by omega)
                  refine lv_iload hx hb dX12_readFeature_159 (lv_at hl 4 rfl) ?_
                  refine lv_iconst (v := 5) hx hb dX12_readFeature_161 (by decide) ?_
                  refine lv_irem hx hb dX12_readFeature_162 (by decide +kernel) ?_
                  refine lv_topi (fun x_2221 he_x_2221 => ?_)
                  have hq_x_2221 := z_remq he_x_2221 (rfl : v_2178.toInt = _) hk_5 (by omega) (by decide)
                  refine lv_if_ne (tgt := 171) hx hb dX12_readFeature_163 (by decide) (fun c_2222 => ?_) (fun c_2222 => ?_)
                  · have b_2223 := z_fneT c_2222
                    refine lv_iconst (v := 0) hx hb dX12_readFeature_171 (by decide) ?_
                    refine z_iast hx hb hK hP hD hS 2 0 rfl rfl (z_inN (by omega) (by omega)) dX12_readFeature_172 (fun g_2224 hg_g_2224 H locs hP hD hS => ?_)
                    have hC_g_2224 := z_ctU hC_g_2179 hg_g_2224 (a := 1477) (b := 1524) (lo := 0) (hi := 16) (by decide +kernel) (by decide +kernel) (by omega) (by omega) (by decide +kernel)
                    have hw_g_2224_1460 := z_cwo hg_g_2224 (k := 1460) (by omega) (by omega)
                    have hw_g_2224_1461 := z_cwo hg_g_2224 (k := 1461) (by omega) (by omega)
                    have hs_2225 : zNw g_2224 g_isOn := (zNw_fr hs_2200 hg_g_2224 (a := 1477) (b := 1524) (by decide +kernel) (by omega) (by omega))
                    have hs_2226 : zNf g_2224 := (zNf_row hs_2201 hg_g_2224 (by omega) (by omega) (by omega))
                    have hs_2227 : (g_2224 (1471 + r_1780.toInt.toNat)).toInt = r_1804.toInt := (z_updkeep hs_2202 hg_g_2224 (by omega) (by omega))
                    obtain ⟨x_2228, he_x_2228⟩ : ∃ z : Int32, z = v_2178 + 1 := ⟨_, rfl⟩
                    have hq_x_2228 := z_addq he_x_2228 (rfl : v_2178.toInt = _) hk_1 (by omega) (by omega)
                    refine lv_iinc (v := x_2228) (lv' := [(4, .int x_2228), (0, .ref h0), (1, .int r_1780), (2, .int r_1804), (3, .int 0)]) hx hb dX12_readFeature_173 hl (k := 4) rfl ((z_ofi (by decide +kernel)).trans he_x_2228.symm) (by decide) rfl (fun ls hl => ?_)
                    refine lv_goto (tgt := 137) hx hb dX12_readFeature_176 (by decide) ?_
                    exact ih_2208 x_2228 g_2224 H locs ls (by omega) (by omega) hC_g_2224 hs_2225 hs_2226 hs_2227 (by rw [hq_x_2228]; exact zFt_step hi_2203 hg_g_2224 (by omega) (by omega) (by omega) (by omega)) (by omega) (by omega) (by omega) hP hD hS (lv_sub hl [1, 2, 3, 4, 0] rfl)
                  · have b_2229 := z_feqF c_2222
                    refine lv_bipush (v := 16) hx hb dX12_readFeature_166 (by decide) ?_
                    refine lv_goto (tgt := 172) hx hb dX12_readFeature_168 (by decide) ?_
                    refine z_iast hx hb hK hP hD hS 2 0 rfl rfl (z_inN (by omega) (by omega)) dX12_readFeature_172 (fun g_2230 hg_g_2230 H locs hP hD hS => ?_)
                    have hC_g_2230 := z_ctU hC_g_2179 hg_g_2230 (a := 1477) (b := 1524) (lo := 0) (hi := 16) (by decide +kernel) (by decide +kernel) (by omega) (by omega) (by decide +kernel)
                    have hw_g_2230_1460 := z_cwo hg_g_2230 (k := 1460) (by omega) (by omega)
                    have hw_g_2230_1461 := z_cwo hg_g_2230 (k := 1461) (by omega) (by omega)
                    have hs_2231 : zNw g_2230 g_isOn := (zNw_fr hs_2200 hg_g_2230 (a := 1477) (b := 1524) (by decide +kernel) (by omega) (by omega))
                    have hs_2232 : zNf g_2230 := (zNf_row hs_2201 hg_g_2230 (by omega) (by omega) (by omega))
                    have hs_2233 : (g_2230 (1471 + r_1780.toInt.toNat)).toInt = r_1804.toInt := (z_updkeep hs_2202 hg_g_2230 (by omega) (by omega))
                    obtain ⟨x_2234, he_x_2234⟩ : ∃ z : Int32, z = v_2178 + 1 := ⟨_, rfl⟩
                    have hq_x_2234 := z_addq he_x_2234 (rfl : v_2178.toInt = _) hk_1 (by omega) (by omega)
                    refine lv_iinc (v := x_2234) (lv' := [(4, .int x_2234), (0, .ref h0), (1, .int r_1780), (2, .int r_1804), (3, .int 0)]) hx hb dX12_readFeature_173 hl (k := 4) rfl ((z_ofi (by decide +kernel)).trans he_x_2234.symm) (by decide) rfl (fun ls hl => ?_)
                    refine lv_goto (tgt := 137) hx hb dX12_readFeature_176 (by decide) ?_
                    exact ih_2208 x_2234 g_2230 H locs ls (by omega) (by omega) hC_g_2230 hs_2231 hs_2232 hs_2233 (by rw [hq_x_2234]; exact zFt_step hi_2203 hg_g_2230 (by omega) (by omega) (by omega) (by omega)) (by omega) (by omega) (by omega) hP hD hS (lv_sub hl [1, 2, 3, 4, 0] rfl)
            exact hlp_2207 _ 0 g_1830 _ _ _ (Nat.lt_succ_self _) (by decide +kernel) hC_g_1830 hs_1831 hs_1832 hs_1833 zFt_0 (by omega) (by omega) (by omega) hP hD hS (lv_sub hl [4, 3, 2, 1, 0] rfl)
          · have b_2235 := z_feqF c_1820
            refine lv_iconst (v := 1) hx hb dX12_readFeature_82 (by decide) ?_
            refine lv_goto (tgt := 87) hx hb dX12_readFeature_83 (by decide) ?_
            refine lv_istore_n (lv' := [(3, .int 1), (2, .int r_1804), (1, .int r_1780), (0, .ref h0)]) hx hb dX12_readFeature_87 rfl hl (by decide) rfl (fun ls hl => ?_)
            refine lv_iload_n hx hb dX12_readFeature_88 rfl (lv_at hl 0 rfl) ?_
            refine lv_if_eq (tgt := 96) hx hb dX12_readFeature_89 (by decide) (fun h9 => absurd h9 (by decide +kernel)) (fun _ => ?_)
            refine lv_aload_n hx hb dX12_readFeature_92 rfl (lv_at hl 3 rfl) ?_
            refine z_callVv (As := []) (rest := []) (wr := [(a_hasFeels, .inl (cA.1 3, 3, .inl g_hasFeels)), (a_isOn, .inl (cA.1 3, 10, .inl g_isOn)), (a_c, .inl (cA.1 0, 1825, .inl g_c)), (a_words, .inl (cA.1 1, 105, .inr (.inl n_1779)))]) ⟨hx, hb, hml, hown, hts⟩ hK hE hT hP hD hS hA (r_next2 l G cA h0 m_status m_thrown m_above m_under a_traySort a_trayMany a_numbers a_tape m_taped m_textEnd m_faultKind m_faultAt n_1796 n_1797 n_1798 n_1799 n_1800 n_1801 n_1802 n_1803 a_c a_words m_markMany a_there a_tried a_best a_found m_thereMany m_foundMany m_orderHow m_orderRing m_orderMany m_hasBest m_bestTop m_bestBy a_weights a_shared m_random m_truePlace m_trueWay m_seconds m_done m_feelings m_tries m_leftOver m_playDoor m_playRing m_isOpen m_isOver m_wasTried m_hasPlayed a_feltNow a_last a_kept m_hasSeconds m_hasTurned m_hasRound a_hasFeels a_isOn m_firstAct m_meanTop m_meanBy a_order m_rowMany m_newSteps g_tape (by omega) (by omega) (by omega) (by omega) (by omega) (by omega)) lk_RX12_184 ⟨rfl, rfl⟩ ⟨Nat.le_of_ble_eq_true rfl, Nat.le_of_ble_eq_true rfl⟩ 12 rfl rfl rfl [5, 4] [0, 1, 2, 3] rfl rfl (by decide) rfl hl.1 rfl (lv_room (Nat.le_of_ble_eq_true rfl)) dX12_readFeature_93 ⟨Nat.le_of_ble_eq_true rfl, Nat.le_of_ble_eq_true rfl⟩ (fun u_2243 H locs hw hP hD hS => ?_)
            obtain ⟨n_2236, n_2237, n_2238, n_2239, n_2240, n_2241⟩ := u_2243
            try dsimp only at hw
            obtain ⟨hr_n_2236, hr_n_2237, hr_n_2238, hr_n_2239, hr_n_2240, hf_2244, hf_2245⟩ := hw
            refine lv_aload_n hx hb dX12_readFeature_96 rfl (lv_at hl 3 rfl) ?_
            refine va_get (D := G) (ci := 12) (v := .int n_1796) (C := RX12) (T := TX12) (N := 65) hx hb hts inT12 hown hK hP 4 rfl rfl 12 (by decide) (hts _ tw_1897) (fun _ h9 => h9) rfl dX12_readFeature_97 ?_
            refine lv_if_le (tgt := 104) hx hb dX12_readFeature_100 (by decide) (fun c_2246 => ?_) (fun h9 => (z_no (by have h8 := z_fgtF h9; omega)))
            have b_2247 := z_fleT c_2246
            refine lv_aload_n hx hb dX12_readFeature_104 rfl (lv_at hl 3 rfl) ?_
            refine va_get (D := G) (ci := 12) (v := .ref a_c) (C := RX12) (T := TX12) (N := 65) hx hb hts inT12 hown hK hP 4 rfl rfl 20 (by decide) (hts _ tw_1905) (fun _ h9 => h9) rfl dX12_readFeature_105 ?_
            refine lv_sipush (v := 1471) hx hb dX12_readFeature_108 (by decide) ?_
            refine lv_iload_n hx hb dX12_readFeature_111 rfl (lv_at hl 2 rfl) ?_
            refine lv_iadd hx hb dX12_readFeature_112 ?_
            refine lv_topi (fun x_2248 he_x_2248 => ?_)
            have hq_x_2248 := z_addq he_x_2248 hk_1471 (rfl : r_1780.toInt = _) (by omega) (by omega)
            refine lv_iload_n hx hb dX12_readFeature_113 rfl (lv_at hl 1 rfl) ?_
            refine z_iast hx hb hK hP hD hS 2 0 rfl rfl (z_inN (by omega) (by omega)) dX12_readFeature_114 (fun g_2249 hg_g_2249 H locs hP hD hS => ?_)
            have hC_g_2249 := z_ctU hC_g_c hg_g_2249 (a := 1471) (b := 1473) (lo := 0) (hi := 4) (by decide +kernel) (by decide +kernel) (by omega) (by omega) (by omega)
            have hw_g_2249_1460 := z_cwo hg_g_2249 (k := 1460) (by omega) (by omega)
            have hw_g_2249_1461 := z_cwo hg_g_2249 (k := 1461) (by omega) (by omega)
            have hs_2250 : zNw g_2249 g_isOn := (zNw_st hNW0 hg_g_2249 (by omega) (by omega) (by omega))
            have hs_2251 : zNf g_2249 := (zNf_fr hNF0 hg_g_2249 (a := 1471) (b := 1473) (by decide +kernel) (by omega) (by omega))
            have hs_2252 : (g_2249 (1471 + r_1780.toInt.toNat)).toInt = r_1804.toInt := (z_updself hg_g_2249 (by omega))
            refine lv_aload_n hx hb dX12_readFeature_115 rfl (lv_at hl 3 rfl) ?_
            refine va_get (D := G) (ci := 12) (v := .ref a_c) (C := RX12) (T := TX12) (N := 65) hx hb hts inT12 hown hK hP 4 rfl rfl 20 (by decide) (hts _ tw_1905) (fun _ h9 => h9) rfl dX12_readFeature_116 ?_
            refine lv_sipush (v := 1474) hx hb dX12_readFeature_119 (by decide) ?_
            refine lv_iload_n hx hb dX12_readFeature_122 rfl (lv_at hl 2 rfl) ?_
            refine lv_iadd hx hb dX12_readFeature_123 ?_
            refine lv_topi (fun x_2253 he_x_2253 => ?_)
            have hq_x_2253 := z_addq he_x_2253 hk_1474 (rfl : r_1780.toInt = _) (by omega) (by omega)
            refine lv_iload_n hx hb dX12_readFeature_124 rfl (lv_at hl 0 rfl) ?_
            refine lv_if_eq (tgt := 132) hx hb dX12_readFeature_125 (by decide) (fun h9 => absurd h9 (by decide +kernel)) (fun _ => ?_)
            refine lv_iconst (v := 1) hx hb dX12_readFeature_128 (by decide) ?_
            refine lv_goto (tgt := 133) hx hb dX12_readFeature_129 (by decide) ?_
            refine z_iast hx hb hK hP hD hS 2 0 rfl rfl (z_inN (by omega) (by omega)) dX12_readFeature_133 (fun g_2254 hg_g_2254 H locs hP hD hS => ?_)
            have hC_g_2254 := z_ctU hC_g_2249 hg_g_2254 (a := 1474) (b := 1476) (lo := (-2147483648)) (hi := 2147483647) (by decide +kernel) (by decide +kernel) (by omega) (by omega) (z_full _)
            have hw_g_2254_1460 := z_cwo hg_g_2254 (k := 1460) (by omega) (by omega)
            have hw_g_2254_1461 := z_cwo hg_g_2254 (k := 1461) (by omega) (by omega)
            have hs_2255 : zNw g_2254 g_isOn := (zNw_fr hs_2250 hg_g_2254 (a := 1474) (b := 1476) (by decide +kernel) (by omega) (by omega))
            have hs_2256 : zNf g_2254 := (zNf_fr hs_2251 hg_g_2254 (a := 1474) (b := 1476) (by decide +kernel) (by omega) (by omega))
            have hs_2257 : (g_2254 (1471 + r_1780.toInt.toNat)).toInt = r_1804.toInt := (z_updkeep hs_2252 hg_g_2254 (by omega) (by omega))
            refine lv_iconst (v := 0) hx hb dX12_readFeature_134 (by decide) ?_
            refine lv_istore (lv' := [(4, .int 0), (3, .int 1), (2, .int r_1804), (1, .int r_1780), (0, .ref h0)]) hx hb dX12_readFeature_135 hl (by decide) rfl (fun ls hl => ?_)
            have hlp_2631 : ∀ (n : Nat) (v_2602 : Int32) (g_2603 : Nat → Int32) (H : Heap) (locs : List Loc) (ls : Array Slot), (2147483647 - v_2602.toInt).toNat < n → (0 ≤ v_2602.toInt ∧ v_2602.toInt ≤ 16) → (zC g_2603) → (zNw g_2603 g_isOn) → (zNf g_2603) → ((g_2603 (1471 + r_1780.toInt.toNat)).toInt = r_1804.toInt) → (zFt g_2603 r_1780.toInt v_2602.toInt) → ((g_2603 1460).toInt = r_1780.toInt) → (m_behind.toInt ≤ n_2238.toInt) → (n_1796.toInt ≤ 0 → n_2236.toInt = 0 ∨ m_behind.toInt < n_2238.toInt) → va_P G vwCl [(a_hasFeels, .inl (cA.1 3, 3, .inl g_hasFeels)), (a_isOn, .inl (cA.1 3, 10, .inl g_isOn)), (a_c, .inl (cA.1 0, 1825, .inl g_2603)), (a_words, .inl (cA.1 1, 105, .inr (.inl n_1779))), (h0, .inr (12, [.int m_status, .int m_thrown, .long m_above, .long m_under, .ref a_traySort, .ref a_trayMany, .ref a_numbers, .ref a_tape, .int m_taped, .int m_textEnd, .int m_faultKind, .int m_faultAt, .int n_1796, .int n_1797, .int n_2236, .int n_2237, .int n_2238, .int n_2239, .int n_2240, .long n_2241, .ref a_c, .ref a_words, .int m_markMany, .ref a_there, .ref a_tried, .ref a_best, .ref a_found, .int m_thereMany, .int m_foundMany, .int m_orderHow, .int m_orderRing, .int m_orderMany, .int m_hasBest, .long m_bestTop, .long m_bestBy, .ref a_weights, .ref a_shared, .int m_random, .int m_truePlace, .int m_trueWay, .int m_seconds, .int m_done, .int m_feelings, .int m_tries, .int m_leftOver, .int m_playDoor, .int m_playRing, .int m_isOpen, .int m_isOver, .int m_wasTried, .int m_hasPlayed, .ref a_feltNow, .ref a_last, .ref a_kept, .int m_hasSeconds, .int m_hasTurned, .int m_hasRound, .ref a_hasFeels, .ref a_isOn, .int m_firstAct, .long m_meanTop, .long m_meanBy, .ref a_order, .int m_rowMany, .int m_newSteps])), (a_tape, .inl (cA.1 2, 900, .inl g_tape))] H → va_D A [(a_hasFeels, .inl (cA.1 3, 3, .inl g_hasFeels)), (a_isOn, .inl (cA.1 3, 10, .inl g_isOn)), (a_c, .inl (cA.1 0, 1825, .inl g_2603)), (a_words, .inl (cA.1 1, 105, .inr (.inl n_1779))), (h0, .inr (12, [.int m_status, .int m_thrown, .long m_above, .long m_under, .ref a_traySort, .ref a_trayMany, .ref a_numbers, .ref a_tape, .int m_taped, .int m_textEnd, .int m_faultKind, .int m_faultAt, .int n_1796, .int n_1797, .int n_2236, .int n_2237, .int n_2238, .int n_2239, .int n_2240, .long n_2241, .ref a_c, .ref a_words, .int m_markMany, .ref a_there, .ref a_tried, .ref a_best, .ref a_found, .int m_thereMany, .int m_foundMany, .int m_orderHow, .int m_orderRing, .int m_orderMany, .int m_hasBest, .long m_bestTop, .long m_bestBy, .ref a_weights, .ref a_shared, .int m_random, .int m_truePlace, .int m_trueWay, .int m_seconds, .int m_done, .int m_feelings, .int m_tries, .int m_leftOver, .int m_playDoor, .int m_playRing, .int m_isOpen, .int m_isOver, .int m_wasTried, .int m_hasPlayed, .ref a_feltNow, .ref a_last, .ref a_kept, .int m_hasSeconds, .int m_hasTurned, .int m_hasRound, .ref a_hasFeels, .ref a_isOn, .int m_firstAct, .long m_meanTop, .long m_meanBy, .ref a_order, .int m_rowMany, .int m_newSteps])), (a_tape, .inl (cA.1 2, 900, .inl g_tape))] → va_S A s.heap H locs → lv_has ls 5 [(0, .ref h0), (1, .int r_1780), (2, .int r_1804), (3, .int 1), (4, .int v_2602)] → W p l e ({ frames := 4, cells := 0, slots := 0, locals := 91 }) s m args below meth c H locs 0 0 Q (F0 m 137 ls []) := by
              intro n
              induction n with
              | zero =>
                intro v_2602 g_2603 H locs ls hmu_hlp_2631 hr_v_2602 hC_g_2603 hs_2624 hs_2625 hs_2626 hi_2627 hi_2628 hi_2629 hi_2630 hP hD hS hl
                exact absurd hmu_hlp_2631 (Nat.not_lt_zero _)
              | succ n ih_2632 =>
                intro v_2602 g_2603 H locs ls hmu_hlp_2631 hr_v_2602 hC_g_2603 hs_2624 hs_2625 hs_2626 hi_2627 hi_2628 hi_2629 hi_2630 hP hD hS hl
                refine lv_iload hx hb dX12_readFeature_137 (lv_at hl 4 rfl) ?_
                refine lv_bipush (v := 16) hx hb dX12_readFeature_139 (by decide) ?_
                refine lv_icmp_ge (tgt := 179) hx hb dX12_readFeature_141 (by decide) (fun c_2633 => ?_) (fun c_2633 => ?_)
                · have b_2634 := z_fgeT c_2633
                  refine lv_aload_n hx hb dX12_readFeature_179 rfl (lv_at hl 0 rfl) ?_
                  refine va_get (D := G) (ci := 12) (v := .ref a_hasFeels) (C := RX12) (T := TX12) (N := 65) hx hb hts inT12 hown hK hP 4 rfl rfl 57 (by decide) (hts _ tw_1940) (fun _ h9 => h9) rfl dX12_readFeature_180 ?_
                  refine lv_iload_n hx hb dX12_readFeature_183 rfl (lv_at hl 1 rfl) ?_
                  refine lv_iconst (v := 0) hx hb dX12_readFeature_184 (by decide) ?_
                  refine z_zast hx hb hK hP hD hS 0 3 rfl rfl (z_inN (by omega) (by omega)) dX12_readFeature_185 (fun g_2635 hg_g_2635 H locs hP hD hS => ?_)
                  have hC_g_2635 := z_rgZ hC_g_hasFeels hg_g_2635 (Or.inl rfl)
                  refine lv_aload_n hx hb dX12_readFeature_186 rfl (lv_at hl 0 rfl) ?_
                  refine va_get (D := G) (ci := 12) (v := .ref a_c) (C := RX12) (T := TX12) (N := 65) hx hb hts inT12 hown hK hP 4 rfl rfl 20 (by decide) (hts _ tw_1905) (fun _ h9 => h9) rfl dX12_readFeature_187 ?_
                  refine lv_sipush (v := 1460) hx hb dX12_readFeature_190 (by decide) ?_
                  refine lv_dup2_11 hx hb dX12_readFeature_193 rfl rfl ?_
                  refine va_iald hx hb hK hP 2 0 rfl rfl (z_in (i := 1460) (n := 1825) (by decide +kernel) (by decide +kernel)) dX12_readFeature_194 ?_
                  refine lv_topi (fun x_2636 he_x_2636 => ?_)
                  have hr_x_2636 := z_ctk hC_g_2603 he_x_2636 (k := 1460) (lo := 0) (hi := 3) (by decide +kernel) (by decide +kernel) (by decide +kernel)
                  have hv_x_2636 := z_cv he_x_2636 (k := 1460) (by decide +kernel)
                  refine lv_iconst (v := 1) hx hb dX12_readFeature_195 (by decide) ?_
                  refine lv_iadd hx hb dX12_readFeature_196 ?_
                  refine lv_topi (fun x_2637 he_x_2637 => ?_)
                  have hq_x_2637 := z_addq he_x_2637 (rfl : x_2636.toInt = _) hk_1 (by omega) (by omega)
                  refine z_iast hx hb hK hP hD hS 2 0 rfl rfl (z_in (i := 1460) (n := 1825) (by decide +kernel) (by decide +kernel)) dX12_readFeature_197 (fun g_2638 hg_g_2638 H locs hP hD hS => ?_)
                  have hC_g_2638 := z_ctUk hC_g_2603 hg_g_2638 (k := 1460) (lo := 0) (hi := 3) (by decide +kernel) (by decide +kernel) (by decide +kernel) (by omega)
                  have hw_g_2638_1460 := z_cwk hg_g_2638 (k := 1460) (by decide +kernel)
                  have hw_g_2638_1461 := z_cwo hg_g_2638 (k := 1461) (by decide +kernel) (by decide +kernel)
                  have hs_2639 : zNw g_2638 g_isOn := (zNw_fe hs_2624 hg_g_2638 (by decide +kernel) (by omega) (by omega) (by omega) (k := r_1780.toInt) (by omega) (by rw [hs_2626]; omega))
                  have hs_2640 : zNf g_2638 := (zNf_fe hs_2625 hg_g_2638 (by decide +kernel) (by omega) (by omega) (by omega) (k := r_1780.toInt) (n := v_2602.toInt) (by omega) (by omega) hi_2627)
                  have hpost : (0 ≤ n_1796.toInt ∧ n_1796.toInt ≤ 9) ∧ (0 ≤ n_2236.toInt ∧ n_2236.toInt ≤ 4) ∧ (0 ≤ n_2237.toInt ∧ n_2237.toInt ≤ 900) ∧ (0 ≤ n_2238.toInt ∧ n_2238.toInt ≤ 900) ∧ (0 ≤ n_2239.toInt ∧ n_2239.toInt ≤ 9999) ∧ (0 ≤ n_2240.toInt ∧ n_2240.toInt ≤ 900) ∧ (zC g_2638) ∧ (zRg 3 0 1 g_2635) ∧ (zNw g_2638 g_isOn) ∧ (m_behind.toInt ≤ n_2238.toInt) ∧ (0 < m_bad.toInt → 0 < n_1796.toInt) ∧ (n_1796.toInt ≤ 0 → n_2236.toInt = 0 ∨ m_behind.toInt < n_2238.toInt) ∧ (n_1796.toInt ≤ 0 → n_2236.toInt = 3 → n_2239.toInt = 59 → zNf g_2638) := ⟨(by omega), (by omega), (by omega), (by omega), (by omega), (by omega), hC_g_2638, hC_g_2635, hs_2639, (by omega), (by omega), (by omega), (fun _ _ _ => hs_2640)⟩
                  exact hret _ _ _ _ _ (n_1796, n_1797, n_2236, n_2237, n_2238, n_2239, n_2240, n_2241, n_1779, g_2638, g_2635) [4, 5, 2, 3, 0, 1] hP hD hS rfl (by decide) dX12_readFeature_198 hpost
                · have b_2641 := z_fltF c_2633
                  refine lv_aload_n hx hb dX12_readFeature_144 rfl (lv_at hl 0 rfl) ?_
                  refine va_get (D := G) (ci := 12) (v := .ref a_c) (C := RX12) (T := TX12) (N := 65) hx hb hts inT12 hown hK hP 4 rfl rfl 20 (by decide) (hts _ tw_1905) (fun _ h9 => h9) rfl dX12_readFeature_145 ?_
                  refine lv_sipush (v := 1477) hx hb dX12_readFeature_148 (by decide) ?_
                  refine lv_bipush (v := 16) hx hb dX12_readFeature_151 (by decide) ?_
                  refine lv_iload_n hx hb dX12_readFeature_153 rfl (lv_at hl 1 rfl) ?_
                  refine lv_imul hx hb dX12_readFeature_154 ?_
                  refine lv_topi (fun x_2642 he_x_2642 => ?_)
                  have hq_x_2642 := z_mulq he_x_2642 hk_16 (rfl : r_1780.toInt = _) (by omega) (by omega)
                  refine lv_iadd hx hb dX12_readFeature_155 ?_
                  refine lv_topi (fun x_2643 he_x_2643 => ?_)
                  have hq_x_2643 := z_addq he_x_2643 hk_1477 (rfl : x_2642.toInt = _) (by omega) (by omega)
                  refine lv_iload hx hb dX12_readFeature_156 (lv_at hl 4 rfl) ?_
                  refine lv_iadd hx hb dX12_readFeature_158 ?_
                  refine lv_topi (fun x_2644 he_x_2644 => ?_)
                  have hq_x_2644 := z_addq he_x_2644 (rfl : x_2643.toInt = _) (rfl : v_2602.toInt = _) (by omega) (by omega)
                  refine lv_iload hx hb dX12_readFeature_159 (lv_at hl 4 rfl) ?_
                  refine lv_iconst (v := 5) hx hb dX12_readFeature_161 (by decide) ?_
                  refine lv_irem hx hb dX12_readFeature_162 (by decide +kernel) ?_
                  refine lv_topi (fun x_2645 he_x_2645 => ?_)
                  have hq_x_2645 := z_remq he_x_2645 (rfl : v_2602.toInt = _) hk_5 (by omega) (by decide)
                  refine lv_if_ne (tgt := 171) hx hb dX12_readFeature_163 (by decide) (fun c_2646 => ?_) (fun c_2646 => ?_)
                  · have b_2647 := z_fneT c_2646
                    refine lv_iconst (v := 0) hx hb dX12_readFeature_171 (by decide) ?_
                    refine z_iast hx hb hK hP hD hS 2 0 rfl rfl (z_inN (by omega) (by omega)) dX12_readFeature_172 (fun g_2648 hg_g_2648 H locs hP hD hS => ?_)
                    have hC_g_2648 := z_ctU hC_g_2603 hg_g_2648 (a := 1477) (b := 1524) (lo := 0) (hi := 16) (by decide +kernel) (by decide +kernel) (by omega) (by omega) (by decide +kernel)
                    have hw_g_2648_1460 := z_cwo hg_g_2648 (k := 1460) (by omega) (by omega)
                    have hw_g_2648_1461 := z_cwo hg_g_2648 (k := 1461) (by omega) (by omega)
                    have hs_2649 : zNw g_2648 g_isOn := (zNw_fr hs_2624 hg_g_2648 (a := 1477) (b := 1524) (by decide +kernel) (by omega) (by omega))
                    have hs_2650 : zNf g_2648 := (zNf_row hs_2625 hg_g_2648 (by omega) (by omega) (by omega))
                    have hs_2651 : (g_2648 (1471 + r_1780.toInt.toNat)).toInt = r_1804.toInt := (z_updkeep hs_2626 hg_g_2648 (by omega) (by omega))
                    obtain ⟨x_2652, he_x_2652⟩ : ∃ z : Int32, z = v_2602 + 1 := ⟨_, rfl⟩
                    have hq_x_2652 := z_addq he_x_2652 (rfl : v_2602.toInt = _) hk_1 (by omega) (by omega)
                    refine lv_iinc (v := x_2652) (lv' := [(4, .int x_2652), (0, .ref h0), (1, .int r_1780), (2, .int r_1804), (3, .int 1)]) hx hb dX12_readFeature_173 hl (k := 4) rfl ((z_ofi (by decide +kernel)).trans he_x_2652.symm) (by decide) rfl (fun ls hl => ?_)
                    refine lv_goto (tgt := 137) hx hb dX12_readFeature_176 (by decide) ?_
                    exact ih_2632 x_2652 g_2648 H locs ls (by omega) (by omega) hC_g_2648 hs_2649 hs_2650 hs_2651 (by rw [hq_x_2652]; exact zFt_step hi_2627 hg_g_2648 (by omega) (by omega) (by omega) (by omega)) (by omega) (by omega) (by omega) hP hD hS (lv_sub hl [1, 2, 3, 4, 0] rfl)
                  · have b_2653 := z_feqF c_2646
                    refine lv_bipush (v := 16) hx hb dX12_readFeature_166 (by decide) ?_
                    refine lv_goto (tgt := 172) hx hb dX12_readFeature_168 (by decide) ?_
                    refine z_iast hx hb hK hP hD hS 2 0 rfl rfl (z_inN (by omega) (by omega)) dX12_readFeature_172 (fun g_2654 hg_g_2654 H locs hP hD hS => ?_)
                    have hC_g_2654 := z_ctU hC_g_2603 hg_g_2654 (a := 1477) (b := 1524) (lo := 0) (hi := 16) (by decide +kernel) (by decide +kernel) (by omega) (by omega) (by decide +kernel)
                    have hw_g_2654_1460 := z_cwo hg_g_2654 (k := 1460) (by omega) (by omega)
                    have hw_g_2654_1461 := z_cwo hg_g_2654 (k := 1461) (by omega) (by omega)
                    have hs_2655 : zNw g_2654 g_isOn := (zNw_fr hs_2624 hg_g_2654 (a := 1477) (b := 1524) (by decide +kernel) (by omega) (by omega))
                    have hs_2656 : zNf g_2654 := (zNf_row hs_2625 hg_g_2654 (by omega) (by omega) (by omega))
                    have hs_2657 : (g_2654 (1471 + r_1780.toInt.toNat)).toInt = r_1804.toInt := (z_updkeep hs_2626 hg_g_2654 (by omega) (by omega))
                    obtain ⟨x_2658, he_x_2658⟩ : ∃ z : Int32, z = v_2602 + 1 := ⟨_, rfl⟩
                    have hq_x_2658 := z_addq he_x_2658 (rfl : v_2602.toInt = _) hk_1 (by omega) (by omega)
                    refine lv_iinc (v := x_2658) (lv' := [(4, .int x_2658), (0, .ref h0), (1, .int r_1780), (2, .int r_1804), (3, .int 1)]) hx hb dX12_readFeature_173 hl (k := 4) rfl ((z_ofi (by decide +kernel)).trans he_x_2658.symm) (by decide) rfl (fun ls hl => ?_)
                    refine lv_goto (tgt := 137) hx hb dX12_readFeature_176 (by decide) ?_
                    exact ih_2632 x_2658 g_2654 H locs ls (by omega) (by omega) hC_g_2654 hs_2655 hs_2656 hs_2657 (by rw [hq_x_2658]; exact zFt_step hi_2627 hg_g_2654 (by omega) (by omega) (by omega) (by omega)) (by omega) (by omega) (by omega) hP hD hS (lv_sub hl [1, 2, 3, 4, 0] rfl)
            exact hlp_2631 _ 0 g_2254 _ _ _ (Nat.lt_succ_self _) (by decide +kernel) hC_g_2254 hs_2255 hs_2256 hs_2257 zFt_0 (by omega) (by omega) (by omega) hP hD hS (lv_sub hl [4, 3, 2, 1, 0] rfl)
      · have b_2659 := z_feqF c_1790
        refine lv_iconst (v := 1) hx hb dX12_readFeature_51 (by decide) ?_
        refine lv_goto (tgt := 56) hx hb dX12_readFeature_52 (by decide) ?_
        refine z_callVv (As := [.int 1]) (rest := []) (wr := [(a_hasFeels, .inl (cA.1 3, 3, .inl g_hasFeels)), (a_isOn, .inl (cA.1 3, 10, .inl g_isOn)), (a_c, .inl (cA.1 0, 1825, .inl g_c)), (a_words, .inl (cA.1 1, 105, .inr (.inl n_1779)))]) ⟨hx, hb, hml, hown, hts⟩ hK hE hT hP hD hS hA (r_must_1 l G cA h0 m_status m_thrown m_above m_under a_traySort a_trayMany a_numbers a_tape m_taped m_textEnd m_faultKind m_faultAt n_1771 n_1772 n_1773 n_1774 n_1775 n_1776 n_1777 n_1778 a_c a_words m_markMany a_there a_tried a_best a_found m_thereMany m_foundMany m_orderHow m_orderRing m_orderMany m_hasBest m_bestTop m_bestBy a_weights a_shared m_random m_truePlace m_trueWay m_seconds m_done m_feelings m_tries m_leftOver m_playDoor m_playRing m_isOpen m_isOver m_wasTried m_hasPlayed a_feltNow a_last a_kept m_hasSeconds m_hasTurned m_hasRound a_hasFeels a_isOn m_firstAct m_meanTop m_meanBy a_order m_rowMany m_newSteps g_tape (by omega) (by omega) (by omega) (by omega) (by omega) (by omega) (by omega)) lk_RX12_210 ⟨rfl, rfl⟩ ⟨Nat.le_of_ble_eq_true rfl, Nat.le_of_ble_eq_true rfl⟩ 12 rfl rfl rfl [5, 2] [0, 1, 3, 4] rfl rfl (by decide) rfl hl.1 rfl (lv_room (Nat.le_of_ble_eq_true rfl)) dX12_readFeature_56 ⟨Nat.le_of_ble_eq_true rfl, Nat.le_of_ble_eq_true rfl⟩ (fun u_2667 H locs hw hP hD hS => ?_)
        obtain ⟨n_2660, n_2661, n_2662, n_2663, n_2664, n_2665⟩ := u_2667
        try dsimp only at hw
        obtain ⟨hr_n_2660, hr_n_2661, hr_n_2662, hr_n_2663, hr_n_2664, hf_2668, hf_2669, hf_2670⟩ := hw
        refine lv_aload_n hx hb dX12_readFeature_59 rfl (lv_at hl 1 rfl) ?_
        refine lv_iconst (v := 2) hx hb dX12_readFeature_60 (by decide) ?_
        refine lv_iconst (v := 4) hx hb dX12_readFeature_61 (by decide) ?_
        refine z_callVi (As := [.int 2, .int 4]) (rest := []) (wr := [(a_hasFeels, .inl (cA.1 3, 3, .inl g_hasFeels)), (a_isOn, .inl (cA.1 3, 10, .inl g_isOn)), (a_c, .inl (cA.1 0, 1825, .inl g_c)), (a_words, .inl (cA.1 1, 105, .inr (.inl n_1779)))]) ⟨hx, hb, hml, hown, hts⟩ hK hE hT hP hD hS hA (r_count l G cA h0 m_status m_thrown m_above m_under a_traySort a_trayMany a_numbers a_tape m_taped m_textEnd m_faultKind m_faultAt n_1771 n_1772 n_2660 n_2661 n_2662 n_2663 n_2664 n_2665 a_c a_words m_markMany a_there a_tried a_best a_found m_thereMany m_foundMany m_orderHow m_orderRing m_orderMany m_hasBest m_bestTop m_bestBy a_weights a_shared m_random m_truePlace m_trueWay m_seconds m_done m_feelings m_tries m_leftOver m_playDoor m_playRing m_isOpen m_isOver m_wasTried m_hasPlayed a_feltNow a_last a_kept m_hasSeconds m_hasTurned m_hasRound a_hasFeels a_isOn m_firstAct m_meanTop m_meanBy a_order m_rowMany m_newSteps g_tape 2 4 (by decide +kernel) (by decide +kernel) (by omega) (by omega) (by omega) (by omega) (by omega) (by omega) (by omega)) lk_RX12_214 ⟨rfl, rfl⟩ ⟨Nat.le_of_ble_eq_true rfl, Nat.le_of_ble_eq_true rfl⟩ 12 rfl rfl rfl [4, 5] [0, 1, 2, 3] rfl rfl (by decide) rfl hl.1 rfl (lv_room (Nat.le_of_ble_eq_true rfl)) dX12_readFeature_62 ⟨Nat.le_of_ble_eq_true rfl, Nat.le_of_ble_eq_true rfl⟩ (fun r_2679 u_2680 H locs hw hP hD hS => ?_)
        obtain ⟨n_2671, n_2672, n_2673, n_2674, n_2675, n_2676, n_2677, n_2678⟩ := u_2680
        try dsimp only at hw
        obtain ⟨hr_r_2679, hr_n_2671, hr_n_2673, hr_n_2674, hr_n_2675, hr_n_2676, hr_n_2677, hf_2681, hf_2682, hf_2683, hf_2684, hf_2685, hf_2686⟩ := hw
        refine lv_istore_n (lv' := [(2, .int r_2679), (1, .int r_1780), (0, .ref h0)]) hx hb dX12_readFeature_65 rfl hl (by decide) rfl (fun ls hl => ?_)
        refine lv_aload_n hx hb dX12_readFeature_66 rfl (lv_at hl 2 rfl) ?_
        refine va_get (D := G) (ci := 12) (v := .int n_2671) (C := RX12) (T := TX12) (N := 65) hx hb hts inT12 hown hK hP 4 rfl rfl 12 (by decide) (hts _ tw_1897) (fun _ h9 => h9) rfl dX12_readFeature_67 ?_
        refine lv_if_ne (tgt := 86) hx hb dX12_readFeature_70 (by decide) (fun c_2687 => ?_) (fun c_2687 => ?_)
        · have b_2688 := z_fneT c_2687
          refine lv_iconst (v := 0) hx hb dX12_readFeature_86 (by decide) ?_
          refine lv_istore_n (lv' := [(3, .int 0), (2, .int r_2679), (1, .int r_1780), (0, .ref h0)]) hx hb dX12_readFeature_87 rfl hl (by decide) rfl (fun ls hl => ?_)
          refine lv_iload_n hx hb dX12_readFeature_88 rfl (lv_at hl 0 rfl) ?_
          refine lv_if_eq (tgt := 96) hx hb dX12_readFeature_89 (by decide) (fun _ => ?_) (fun h9 => absurd (by decide +kernel) h9)
          refine lv_aload_n hx hb dX12_readFeature_96 rfl (lv_at hl 3 rfl) ?_
          refine va_get (D := G) (ci := 12) (v := .int n_2671) (C := RX12) (T := TX12) (N := 65) hx hb hts inT12 hown hK hP 4 rfl rfl 12 (by decide) (hts _ tw_1897) (fun _ h9 => h9) rfl dX12_readFeature_97 ?_
          refine lv_if_le (tgt := 104) hx hb dX12_readFeature_100 (by decide) (fun h9 => (z_no (by have h8 := z_fleT h9; omega))) (fun c_2689 => ?_)
          have b_2690 := z_fgtF c_2689
          have hpost : (0 ≤ n_2671.toInt ∧ n_2671.toInt ≤ 9) ∧ (0 ≤ n_2673.toInt ∧ n_2673.toInt ≤ 4) ∧ (0 ≤ n_2674.toInt ∧ n_2674.toInt ≤ 900) ∧ (0 ≤ n_2675.toInt ∧ n_2675.toInt ≤ 900) ∧ (0 ≤ n_2676.toInt ∧ n_2676.toInt ≤ 9999) ∧ (0 ≤ n_2677.toInt ∧ n_2677.toInt ≤ 900) ∧ (zC g_c) ∧ (zRg 3 0 1 g_hasFeels) ∧ (zNw g_c g_isOn) ∧ (m_behind.toInt ≤ n_2675.toInt) ∧ (0 < m_bad.toInt → 0 < n_2671.toInt) ∧ (n_2671.toInt ≤ 0 → n_2673.toInt = 0 ∨ m_behind.toInt < n_2675.toInt) ∧ (n_2671.toInt ≤ 0 → n_2673.toInt = 3 → n_2676.toInt = 59 → zNf g_c) := ⟨(by omega), (by omega), (by omega), (by omega), (by omega), (by omega), hC_g_c, hC_g_hasFeels, hNW0, (by omega), (by omega), (by omega), (fun _ _ _ => hNF0)⟩
          exact hret _ _ _ _ _ (n_2671, n_2672, n_2673, n_2674, n_2675, n_2676, n_2677, n_2678, n_1779, g_c, g_hasFeels) [4, 5, 2, 3, 0, 1] hP hD hS rfl (by decide) dX12_readFeature_103 hpost
        · have b_2691 := z_feqF c_2687
          refine lv_aload_n hx hb dX12_readFeature_73 rfl (lv_at hl 2 rfl) ?_
          refine z_callVi (As := []) (rest := []) (wr := [(a_hasFeels, .inl (cA.1 3, 3, .inl g_hasFeels)), (a_isOn, .inl (cA.1 3, 10, .inl g_isOn)), (a_c, .inl (cA.1 0, 1825, .inl g_c)), (a_words, .inl (cA.1 1, 105, .inr (.inl n_1779))), (a_tape, .inl (cA.1 2, 900, .inl g_tape))]) ⟨hx, hb, hml, hown, hts⟩ hK hE hT hP hD hS hA (r_houseWord l G cA h0 m_status m_thrown m_above m_under a_traySort a_trayMany a_numbers a_tape m_taped m_textEnd m_faultKind m_faultAt n_2671 n_2672 n_2673 n_2674 n_2675 n_2676 n_2677 n_2678 a_c a_words m_markMany a_there a_tried a_best a_found m_thereMany m_foundMany m_orderHow m_orderRing m_orderMany m_hasBest m_bestTop m_bestBy a_weights a_shared m_random m_truePlace m_trueWay m_seconds m_done m_feelings m_tries m_leftOver m_playDoor m_playRing m_isOpen m_isOver m_wasTried m_hasPlayed a_feltNow a_last a_kept m_hasSeconds m_hasTurned m_hasRound a_hasFeels a_isOn m_firstAct m_meanTop m_meanBy a_order m_rowMany m_newSteps (by omega)) lk_RX12_170 ⟨rfl, rfl⟩ ⟨Nat.le_of_ble_eq_true rfl, Nat.le_of_ble_eq_true rfl⟩ 12 rfl rfl rfl [4] [0, 1, 2, 3, 5] rfl rfl (by decide) rfl hl.1 rfl (lv_room (Nat.le_of_ble_eq_true rfl)) dX12_readFeature_74 ⟨Nat.le_of_ble_eq_true rfl, Nat.le_of_ble_eq_true rfl⟩ (fun r_2692 u_2693 H locs hw hP hD hS => ?_)
          obtain ⟨hr_r_2692, hf_2694⟩ := hw
          refine lv_bipush (v := 6) hx hb dX12_readFeature_77 (by decide) ?_
          refine lv_icmp_ne (tgt := 86) hx hb dX12_readFeature_79 (by decide) (fun c_2695 => ?_) (fun c_2695 => ?_)
          · have b_2696 := z_fneT c_2695
            refine lv_iconst (v := 0) hx hb dX12_readFeature_86 (by decide) ?_
            refine lv_istore_n (lv' := [(3, .int 0), (2, .int r_2679), (1, .int r_1780), (0, .ref h0)]) hx hb dX12_readFeature_87 rfl hl (by decide) rfl (fun ls hl => ?_)
            refine lv_iload_n hx hb dX12_readFeature_88 rfl (lv_at hl 0 rfl) ?_
            refine lv_if_eq (tgt := 96) hx hb dX12_readFeature_89 (by decide) (fun _ => ?_) (fun h9 => absurd (by decide +kernel) h9)
            refine lv_aload_n hx hb dX12_readFeature_96 rfl (lv_at hl 3 rfl) ?_
            refine va_get (D := G) (ci := 12) (v := .int n_2671) (C := RX12) (T := TX12) (N := 65) hx hb hts inT12 hown hK hP 5 rfl rfl 12 (by decide) (hts _ tw_1897) (fun _ h9 => h9) rfl dX12_readFeature_97 ?_
            refine lv_if_le (tgt := 104) hx hb dX12_readFeature_100 (by decide) (fun c_2697 => ?_) (fun h9 => (z_no (by have h8 := z_fgtF h9; omega)))
            have b_2698 := z_fleT c_2697
            refine lv_aload_n hx hb dX12_readFeature_104 rfl (lv_at hl 3 rfl) ?_
            refine va_get (D := G) (ci := 12) (v := .ref a_c) (C := RX12) (T := TX12) (N := 65) hx hb hts inT12 hown hK hP 5 rfl rfl 20 (by decide) (hts _ tw_1905) (fun _ h9 => h9) rfl dX12_readFeature_105 ?_
            refine lv_sipush (v := 1471) hx hb dX12_readFeature_108 (by decide) ?_
            refine lv_iload_n hx hb dX12_readFeature_111 rfl (lv_at hl 2 rfl) ?_
            refine lv_iadd hx hb dX12_readFeature_112 ?_
            refine lv_topi (fun x_2699 he_x_2699 => ?_)
            have hq_x_2699 := z_addq he_x_2699 hk_1471 (rfl : r_1780.toInt = _) (by omega) (by omega)
            refine lv_iload_n hx hb dX12_readFeature_113 rfl (lv_at hl 1 rfl) ?_
            refine z_iast hx hb hK hP hD hS 2 0 rfl rfl (z_inN (by omega) (by omega)) dX12_readFeature_114 (fun g_2700 hg_g_2700 H locs hP hD hS => ?_)
            have hC_g_2700 := z_ctU hC_g_c hg_g_2700 (a := 1471) (b := 1473) (lo := 0) (hi := 4) (by decide +kernel) (by decide +kernel) (by omega) (by omega) (by omega)
            have hw_g_2700_1460 := z_cwo hg_g_2700 (k := 1460) (by omega) (by omega)
            have hw_g_2700_1461 := z_cwo hg_g_2700 (k := 1461) (by omega) (by omega)
            have hs_2701 : zNw g_2700 g_isOn := (zNw_st hNW0 hg_g_2700 (by omega) (by omega) (by omega))
            have hs_2702 : zNf g_2700 := (zNf_fr hNF0 hg_g_2700 (a := 1471) (b := 1473) (by decide +kernel) (by omega) (by omega))
            have hs_2703 : (g_2700 (1471 + r_1780.toInt.toNat)).toInt = r_2679.toInt := (z_updself hg_g_2700 (by omega))
            refine lv_aload_n hx hb dX12_readFeature_115 rfl (lv_at hl 3 rfl) ?_
            refine va_get (D := G) (ci := 12) (v := .ref a_c) (C := RX12) (T := TX12) (N := 65) hx hb hts inT12 hown hK hP 5 rfl rfl 20 (by decide) (hts _ tw_1905) (fun _ h9 => h9) rfl dX12_readFeature_116 ?_
            refine lv_sipush (v := 1474) hx hb dX12_readFeature_119 (by decide) ?_
            refine lv_iload_n hx hb dX12_readFeature_122 rfl (lv_at hl 2 rfl) ?_
            refine lv_iadd hx hb dX12_readFeature_123 ?_
            refine lv_topi (fun x_2704 he_x_2704 => ?_)
            have hq_x_2704 := z_addq he_x_2704 hk_1474 (rfl : r_1780.toInt = _) (by omega) (by omega)
            refine lv_iload_n hx hb dX12_readFeature_124 rfl (lv_at hl 0 rfl) ?_
            refine lv_if_eq (tgt := 132) hx hb dX12_readFeature_125 (by decide) (fun _ => ?_) (fun h9 => absurd (by decide +kernel) h9)
            refine lv_iconst (v := 0) hx hb dX12_readFeature_132 (by decide) ?_
            refine z_iast hx hb hK hP hD hS 2 0 rfl rfl (z_inN (by omega) (by omega)) dX12_readFeature_133 (fun g_2705 hg_g_2705 H locs hP hD hS => ?_)
            have hC_g_2705 := z_ctU hC_g_2700 hg_g_2705 (a := 1474) (b := 1476) (lo := (-2147483648)) (hi := 2147483647) (by decide +kernel) (by decide +kernel) (by omega) (by omega) (z_full _)
            have hw_g_2705_1460 := z_cwo hg_g_2705 (k := 1460) (by omega) (by omega)
            have hw_g_2705_1461 := z_cwo hg_g_2705 (k := 1461) (by omega) (by omega)
            have hs_2706 : zNw g_2705 g_isOn := (zNw_fr hs_2701 hg_g_2705 (a := 1474) (b := 1476) (by decide +kernel) (by omega) (by omega))
            have hs_2707 : zNf g_2705 := (zNf_fr hs_2702 hg_g_2705 (a := 1474) (b := 1476) (by decide +kernel) (by omega) (by omega))
            have hs_2708 : (g_2705 (1471 + r_1780.toInt.toNat)).toInt = r_2679.toInt := (z_updkeep hs_2703 hg_g_2705 (by omega) (by omega))
            refine lv_iconst (v := 0) hx hb dX12_readFeature_134 (by decide) ?_
            refine lv_istore (lv' := [(4, .int 0), (3, .int 0), (2, .int r_2679), (1, .int r_1780), (0, .ref h0)]) hx hb dX12_readFeature_135 hl (by decide) rfl (fun ls hl => ?_)
            have hlp_3082 : ∀ (n : Nat) (v_3053 : Int32) (g_3054 : Nat → Int32) (H : Heap) (locs : List Loc) (ls : Array Slot), (2147483647 - v_3053.toInt).toNat < n → (0 ≤ v_3053.toInt ∧ v_3053.toInt ≤ 16) → (zC g_3054) → (zNw g_3054 g_isOn) → (zNf g_3054) → ((g_3054 (1471 + r_1780.toInt.toNat)).toInt = r_2679.toInt) → (zFt g_3054 r_1780.toInt v_3053.toInt) → ((g_3054 1460).toInt = r_1780.toInt) → (m_behind.toInt ≤ n_2675.toInt) → (n_2671.toInt ≤ 0 → n_2673.toInt = 0 ∨ m_behind.toInt < n_2675.toInt) → va_P G vwCl [(a_hasFeels, .inl (cA.1 3, 3, .inl g_hasFeels)), (a_isOn, .inl (cA.1 3, 10, .inl g_isOn)), (a_c, .inl (cA.1 0, 1825, .inl g_3054)), (a_words, .inl (cA.1 1, 105, .inr (.inl n_1779))), (a_tape, .inl (cA.1 2, 900, .inl g_tape)), (h0, .inr (12, [.int m_status, .int m_thrown, .long m_above, .long m_under, .ref a_traySort, .ref a_trayMany, .ref a_numbers, .ref a_tape, .int m_taped, .int m_textEnd, .int m_faultKind, .int m_faultAt, .int n_2671, .int n_2672, .int n_2673, .int n_2674, .int n_2675, .int n_2676, .int n_2677, .long n_2678, .ref a_c, .ref a_words, .int m_markMany, .ref a_there, .ref a_tried, .ref a_best, .ref a_found, .int m_thereMany, .int m_foundMany, .int m_orderHow, .int m_orderRing, .int m_orderMany, .int m_hasBest, .long m_bestTop, .long m_bestBy, .ref a_weights, .ref a_shared, .int m_random, .int m_truePlace, .int m_trueWay, .int m_seconds, .int m_done, .int m_feelings, .int m_tries, .int m_leftOver, .int m_playDoor, .int m_playRing, .int m_isOpen, .int m_isOver, .int m_wasTried, .int m_hasPlayed, .ref a_feltNow, .ref a_last, .ref a_kept, .int m_hasSeconds, .int m_hasTurned, .int m_hasRound, .ref a_hasFeels, .ref a_isOn, .int m_firstAct, .long m_meanTop, .long m_meanBy, .ref a_order, .int m_rowMany, .int m_newSteps]))] H → va_D A [(a_hasFeels, .inl (cA.1 3, 3, .inl g_hasFeels)), (a_isOn, .inl (cA.1 3, 10, .inl g_isOn)), (a_c, .inl (cA.1 0, 1825, .inl g_3054)), (a_words, .inl (cA.1 1, 105, .inr (.inl n_1779))), (a_tape, .inl (cA.1 2, 900, .inl g_tape)), (h0, .inr (12, [.int m_status, .int m_thrown, .long m_above, .long m_under, .ref a_traySort, .ref a_trayMany, .ref a_numbers, .ref a_tape, .int m_taped, .int m_textEnd, .int m_faultKind, .int m_faultAt, .int n_2671, .int n_2672, .int n_2673, .int n_2674, .int n_2675, .int n_2676, .int n_2677, .long n_2678, .ref a_c, .ref a_words, .int m_markMany, .ref a_there, .ref a_tried, .ref a_best, .ref a_found, .int m_thereMany, .int m_foundMany, .int m_orderHow, .int m_orderRing, .int m_orderMany, .int m_hasBest, .long m_bestTop, .long m_bestBy, .ref a_weights, .ref a_shared, .int m_random, .int m_truePlace, .int m_trueWay, .int m_seconds, .int m_done, .int m_feelings, .int m_tries, .int m_leftOver, .int m_playDoor, .int m_playRing, .int m_isOpen, .int m_isOver, .int m_wasTried, .int m_hasPlayed, .ref a_feltNow, .ref a_last, .ref a_kept, .int m_hasSeconds, .int m_hasTurned, .int m_hasRound, .ref a_hasFeels, .ref a_isOn, .int m_firstAct, .long m_meanTop, .long m_meanBy, .ref a_order, .int m_rowMany, .int m_newSteps]))] → va_S A s.heap H locs → lv_has ls 5 [(0, .ref h0), (1, .int r_1780), (2, .int r_2679), (3, .int 0), (4, .int v_3053)] → W p l e ({ frames := 4, cells := 0, slots := 0, locals := 91 }) s m args below meth c H locs 0 0 Q (F0 m 137 ls []) := by
              intro n
              induction n with
              | zero =>
                intro v_3053 g_3054 H locs ls hmu_hlp_3082 hr_v_3053 hC_g_3054 hs_3075 hs_3076 hs_3077 hi_3078 hi_3079 hi_3080 hi_3081 hP hD hS hl
                exact absurd hmu_hlp_3082 (Nat.not_lt_zero _)
              | succ n ih_3083 =>
                intro v_3053 g_3054 H locs ls hmu_hlp_3082 hr_v_3053 hC_g_3054 hs_3075 hs_3076 hs_3077 hi_3078 hi_3079 hi_3080 hi_3081 hP hD hS hl
                refine lv_iload hx hb dX12_readFeature_137 (lv_at hl 4 rfl) ?_
                refine lv_bipush (v := 16) hx hb dX12_readFeature_139 (by decide) ?_
                refine lv_icmp_ge (tgt := 179) hx hb dX12_readFeature_141 (by decide) (fun c_3084 => ?_) (fun c_3084 => ?_)
                · have b_3085 := z_fgeT c_3084
                  refine lv_aload_n hx hb dX12_readFeature_179 rfl (lv_at hl 0 rfl) ?_
                  refine va_get (D := G) (ci := 12) (v := .ref a_hasFeels) (C := RX12) (T := TX12) (N := 65) hx hb hts inT12 hown hK hP 5 rfl rfl 57 (by decide) (hts _ tw_1940) (fun _ h9 => h9) rfl dX12_readFeature_180 ?_
                  refine lv_iload_n hx hb dX12_readFeature_183 rfl (lv_at hl 1 rfl) ?_
                  refine lv_iconst (v := 0) hx hb dX12_readFeature_184 (by decide) ?_
                  refine z_zast hx hb hK hP hD hS 0 3 rfl rfl (z_inN (by omega) (by omega)) dX12_readFeature_185 (fun g_3086 hg_g_3086 H locs hP hD hS => ?_)
                  have hC_g_3086 := z_rgZ hC_g_hasFeels hg_g_3086 (Or.inl rfl)
                  refine lv_aload_n hx hb dX12_readFeature_186 rfl (lv_at hl 0 rfl) ?_
                  refine va_get (D := G) (ci := 12) (v := .ref a_c) (C := RX12) (T := TX12) (N := 65) hx hb hts inT12 hown hK hP 5 rfl rfl 20 (by decide) (hts _ tw_1905) (fun _ h9 => h9) rfl dX12_readFeature_187 ?_
                  refine lv_sipush (v := 1460) hx hb dX12_readFeature_190 (by decide) ?_
                  refine lv_dup2_11 hx hb dX12_readFeature_193 rfl rfl ?_
                  refine va_iald hx hb hK hP 2 0 rfl rfl (z_in (i := 1460) (n := 1825) (by decide +kernel) (by decide +kernel)) dX12_readFeature_194 ?_
                  refine lv_topi (fun x_3087 he_x_3087 => ?_)
                  have hr_x_3087 := z_ctk hC_g_3054 he_x_3087 (k := 1460) (lo := 0) (hi := 3) (by decide +kernel) (by decide +kernel) (by decide +kernel)
                  have hv_x_3087 := z_cv he_x_3087 (k := 1460) (by decide +kernel)
                  refine lv_iconst (v := 1) hx hb dX12_readFeature_195 (by decide) ?_
                  refine lv_iadd hx hb dX12_readFeature_196 ?_
                  refine lv_topi (fun x_3088 he_x_3088 => ?_)
                  have hq_x_3088 := z_addq he_x_3088 (rfl : x_3087.toInt = _) hk_1 (by omega) (by omega)
                  refine z_iast hx hb hK hP hD hS 2 0 rfl rfl (z_in (i := 1460) (n := 1825) (by decide +kernel) (by decide +kernel)) dX12_readFeature_197 (fun g_3089 hg_g_3089 H locs hP hD hS => ?_)
                  have hC_g_3089 := z_ctUk hC_g_3054 hg_g_3089 (k := 1460) (lo := 0) (hi := 3) (by decide +kernel) (by decide +kernel) (by decide +kernel) (by omega)
                  have hw_g_3089_1460 := z_cwk hg_g_3089 (k := 1460) (by decide +kernel)
                  have hw_g_3089_1461 := z_cwo hg_g_3089 (k := 1461) (by decide +kernel) (by decide +kernel)
                  have hs_3090 : zNw g_3089 g_isOn := (zNw_fe hs_3075 hg_g_3089 (by decide +kernel) (by omega) (by omega) (by omega) (k := r_1780.toInt) (by omega) (by rw [hs_3077]; omega))
                  have hs_3091 : zNf g_3089 := (zNf_fe hs_3076 hg_g_3089 (by decide +kernel) (by omega) (by omega) (by omega) (k := r_1780.toInt) (n := v_3053.toInt) (by omega) (by omega) hi_3078)
                  have hpost : (0 ≤ n_2671.toInt ∧ n_2671.toInt ≤ 9) ∧ (0 ≤ n_2673.toInt ∧ n_2673.toInt ≤ 4) ∧ (0 ≤ n_2674.toInt ∧ n_2674.toInt ≤ 900) ∧ (0 ≤ n_2675.toInt ∧ n_2675.toInt ≤ 900) ∧ (0 ≤ n_2676.toInt ∧ n_2676.toInt ≤ 9999) ∧ (0 ≤ n_2677.toInt ∧ n_2677.toInt ≤ 900) ∧ (zC g_3089) ∧ (zRg 3 0 1 g_3086) ∧ (zNw g_3089 g_isOn) ∧ (m_behind.toInt ≤ n_2675.toInt) ∧ (0 < m_bad.toInt → 0 < n_2671.toInt) ∧ (n_2671.toInt ≤ 0 → n_2673.toInt = 0 ∨ m_behind.toInt < n_2675.toInt) ∧ (n_2671.toInt ≤ 0 → n_2673.toInt = 3 → n_2676.toInt = 59 → zNf g_3089) := ⟨(by omega), (by omega), (by omega), (by omega), (by omega), (by omega), hC_g_3089, hC_g_3086, hs_3090, (by omega), (by omega), (by omega), (fun _ _ _ => hs_3091)⟩
                  exact hret _ _ _ _ _ (n_2671, n_2672, n_2673, n_2674, n_2675, n_2676, n_2677, n_2678, n_1779, g_3089, g_3086) [5, 4, 2, 3, 0, 1] hP hD hS rfl (by decide) dX12_readFeature_198 hpost
                · have b_3092 := z_fltF c_3084
                  refine lv_aload_n hx hb dX12_readFeature_144 rfl (lv_at hl 0 rfl) ?_
                  refine va_get (D := G) (ci := 12) (v := .ref a_c) (C := RX12) (T := TX12) (N := 65) hx hb hts inT12 hown hK hP 5 rfl rfl 20 (by decide) (hts _ tw_1905) (fun _ h9 => h9) rfl dX12_readFeature_145 ?_
                  refine lv_sipush (v := 1477) hx hb dX12_readFeature_148 (by decide) ?_
                  refine lv_bipush (v := 16) hx hb dX12_readFeature_151 (by decide) ?_
                  refine lv_iload_n hx hb dX12_readFeature_153 rfl (lv_at hl 1 rfl) ?_
                  refine lv_imul hx hb dX12_readFeature_154 ?_
                  refine lv_topi (fun x_3093 he_x_3093 => ?_)
                  have hq_x_3093 := z_mulq he_x_3093 hk_16 (rfl : r_1780.toInt = _) (by omega) (by omega)
                  refine lv_iadd hx hb dX12_readFeature_155 ?_
                  refine lv_topi (fun x_3094 he_x_3094 => ?_)
                  have hq_x_3094 := z_addq he_x_3094 hk_1477 (rfl : x_3093.toInt = _) (by omega) (by omega)
                  refine lv_iload hx hb dX12_readFeature_156 (lv_at hl 4 rfl) ?_
                  refine lv_iadd hx hb dX12_readFeature_158 ?_
                  refine lv_topi (fun x_3095 he_x_3095 => ?_)
                  have hq_x_3095 := z_addq he_x_3095 (rfl : x_3094.toInt = _) (rfl : v_3053.toInt = _) (by omega) (by omega)
                  refine lv_iload hx hb dX12_readFeature_159 (lv_at hl 4 rfl) ?_
                  refine lv_iconst (v := 5) hx hb dX12_readFeature_161 (by decide) ?_
                  refine lv_irem hx hb dX12_readFeature_162 (by decide +kernel) ?_
                  refine lv_topi (fun x_3096 he_x_3096 => ?_)
                  have hq_x_3096 := z_remq he_x_3096 (rfl : v_3053.toInt = _) hk_5 (by omega) (by decide)
                  refine lv_if_ne (tgt := 171) hx hb dX12_readFeature_163 (by decide) (fun c_3097 => ?_) (fun c_3097 => ?_)
                  · have b_3098 := z_fneT c_3097
                    refine lv_iconst (v := 0) hx hb dX12_readFeature_171 (by decide) ?_
                    refine z_iast hx hb hK hP hD hS 2 0 rfl rfl (z_inN (by omega) (by omega)) dX12_readFeature_172 (fun g_3099 hg_g_3099 H locs hP hD hS => ?_)
                    have hC_g_3099 := z_ctU hC_g_3054 hg_g_3099 (a := 1477) (b := 1524) (lo := 0) (hi := 16) (by decide +kernel) (by decide +kernel) (by omega) (by omega) (by decide +kernel)
                    have hw_g_3099_1460 := z_cwo hg_g_3099 (k := 1460) (by omega) (by omega)
                    have hw_g_3099_1461 := z_cwo hg_g_3099 (k := 1461) (by omega) (by omega)
                    have hs_3100 : zNw g_3099 g_isOn := (zNw_fr hs_3075 hg_g_3099 (a := 1477) (b := 1524) (by decide +kernel) (by omega) (by omega))
                    have hs_3101 : zNf g_3099 := (zNf_row hs_3076 hg_g_3099 (by omega) (by omega) (by omega))
                    have hs_3102 : (g_3099 (1471 + r_1780.toInt.toNat)).toInt = r_2679.toInt := (z_updkeep hs_3077 hg_g_3099 (by omega) (by omega))
                    obtain ⟨x_3103, he_x_3103⟩ : ∃ z : Int32, z = v_3053 + 1 := ⟨_, rfl⟩
                    have hq_x_3103 := z_addq he_x_3103 (rfl : v_3053.toInt = _) hk_1 (by omega) (by omega)
                    refine lv_iinc (v := x_3103) (lv' := [(4, .int x_3103), (0, .ref h0), (1, .int r_1780), (2, .int r_2679), (3, .int 0)]) hx hb dX12_readFeature_173 hl (k := 4) rfl ((z_ofi (by decide +kernel)).trans he_x_3103.symm) (by decide) rfl (fun ls hl => ?_)
                    refine lv_goto (tgt := 137) hx hb dX12_readFeature_176 (by decide) ?_
                    exact ih_3083 x_3103 g_3099 H locs ls (by omega) (by omega) hC_g_3099 hs_3100 hs_3101 hs_3102 (by rw [hq_x_3103]; exact zFt_step hi_3078 hg_g_3099 (by omega) (by omega) (by omega) (by omega)) (by omega) (by omega) (by omega) hP hD hS (lv_sub hl [1, 2, 3, 4, 0] rfl)
                  · have b_3104 := z_feqF c_3097
                    refine lv_bipush (v := 16) hx hb dX12_readFeature_166 (by decide) ?_
                    refine lv_goto (tgt := 172) hx hb dX12_readFeature_168 (by decide) ?_
                    refine z_iast hx hb hK hP hD hS 2 0 rfl rfl (z_inN (by omega) (by omega)) dX12_readFeature_172 (fun g_3105 hg_g_3105 H locs hP hD hS => ?_)
                    have hC_g_3105 := z_ctU hC_g_3054 hg_g_3105 (a := 1477) (b := 1524) (lo := 0) (hi := 16) (by decide +kernel) (by decide +kernel) (by omega) (by omega) (by decide +kernel)
                    have hw_g_3105_1460 := z_cwo hg_g_3105 (k := 1460) (by omega) (by omega)
                    have hw_g_3105_1461 := z_cwo hg_g_3105 (k := 1461) (by omega) (by omega)
                    have hs_3106 : zNw g_3105 g_isOn := (zNw_fr hs_3075 hg_g_3105 (a := 1477) (b := 1524) (by decide +kernel) (by omega) (by omega))
                    have hs_3107 : zNf g_3105 := (zNf_row hs_3076 hg_g_3105 (by omega) (by omega) (by omega))
                    have hs_3108 : (g_3105 (1471 + r_1780.toInt.toNat)).toInt = r_2679.toInt := (z_updkeep hs_3077 hg_g_3105 (by omega) (by omega))
                    obtain ⟨x_3109, he_x_3109⟩ : ∃ z : Int32, z = v_3053 + 1 := ⟨_, rfl⟩
                    have hq_x_3109 := z_addq he_x_3109 (rfl : v_3053.toInt = _) hk_1 (by omega) (by omega)
                    refine lv_iinc (v := x_3109) (lv' := [(4, .int x_3109), (0, .ref h0), (1, .int r_1780), (2, .int r_2679), (3, .int 0)]) hx hb dX12_readFeature_173 hl (k := 4) rfl ((z_ofi (by decide +kernel)).trans he_x_3109.symm) (by decide) rfl (fun ls hl => ?_)
                    refine lv_goto (tgt := 137) hx hb dX12_readFeature_176 (by decide) ?_
                    exact ih_3083 x_3109 g_3105 H locs ls (by omega) (by omega) hC_g_3105 hs_3106 hs_3107 hs_3108 (by rw [hq_x_3109]; exact zFt_step hi_3078 hg_g_3105 (by omega) (by omega) (by omega) (by omega)) (by omega) (by omega) (by omega) hP hD hS (lv_sub hl [1, 2, 3, 4, 0] rfl)
            exact hlp_3082 _ 0 g_2705 _ _ _ (Nat.lt_succ_self _) (by decide +kernel) hC_g_2705 hs_2706 hs_2707 hs_2708 zFt_0 (by omega) (by omega) (by omega) hP hD hS (lv_sub hl [4, 3, 2, 1, 0] rfl)
          · have b_3110 := z_feqF c_2695
            refine lv_iconst (v := 1) hx hb dX12_readFeature_82 (by decide) ?_
            refine lv_goto (tgt := 87) hx hb dX12_readFeature_83 (by decide) ?_
            refine lv_istore_n (lv' := [(3, .int 1), (2, .int r_2679), (1, .int r_1780), (0, .ref h0)]) hx hb dX12_readFeature_87 rfl hl (by decide) rfl (fun ls hl => ?_)
            refine lv_iload_n hx hb dX12_readFeature_88 rfl (lv_at hl 0 rfl) ?_
            refine lv_if_eq (tgt := 96) hx hb dX12_readFeature_89 (by decide) (fun h9 => absurd h9 (by decide +kernel)) (fun _ => ?_)
            refine lv_aload_n hx hb dX12_readFeature_92 rfl (lv_at hl 3 rfl) ?_
            refine z_callVv (As := []) (rest := []) (wr := [(a_hasFeels, .inl (cA.1 3, 3, .inl g_hasFeels)), (a_isOn, .inl (cA.1 3, 10, .inl g_isOn)), (a_c, .inl (cA.1 0, 1825, .inl g_c)), (a_words, .inl (cA.1 1, 105, .inr (.inl n_1779)))]) ⟨hx, hb, hml, hown, hts⟩ hK hE hT hP hD hS hA (r_next2 l G cA h0 m_status m_thrown m_above m_under a_traySort a_trayMany a_numbers a_tape m_taped m_textEnd m_faultKind m_faultAt n_2671 n_2672 n_2673 n_2674 n_2675 n_2676 n_2677 n_2678 a_c a_words m_markMany a_there a_tried a_best a_found m_thereMany m_foundMany m_orderHow m_orderRing m_orderMany m_hasBest m_bestTop m_bestBy a_weights a_shared m_random m_truePlace m_trueWay m_seconds m_done m_feelings m_tries m_leftOver m_playDoor m_playRing m_isOpen m_isOver m_wasTried m_hasPlayed a_feltNow a_last a_kept m_hasSeconds m_hasTurned m_hasRound a_hasFeels a_isOn m_firstAct m_meanTop m_meanBy a_order m_rowMany m_newSteps g_tape (by omega) (by omega) (by omega) (by omega) (by omega) (by omega)) lk_RX12_184 ⟨rfl, rfl⟩ ⟨Nat.le_of_ble_eq_true rfl, Nat.le_of_ble_eq_true rfl⟩ 12 rfl rfl rfl [5, 4] [0, 1, 2, 3] rfl rfl (by decide) rfl hl.1 rfl (lv_room (Nat.le_of_ble_eq_true rfl)) dX12_readFeature_93 ⟨Nat.le_of_ble_eq_true rfl, Nat.le_of_ble_eq_true rfl⟩ (fun u_3118 H locs hw hP hD hS => ?_)
            obtain ⟨n_3111, n_3112, n_3113, n_3114, n_3115, n_3116⟩ := u_3118
            try dsimp only at hw
            obtain ⟨hr_n_3111, hr_n_3112, hr_n_3113, hr_n_3114, hr_n_3115, hf_3119, hf_3120⟩ := hw
            refine lv_aload_n hx hb dX12_readFeature_96 rfl (lv_at hl 3 rfl) ?_
            refine va_get (D := G) (ci := 12) (v := .int n_2671) (C := RX12) (T := TX12) (N := 65) hx hb hts inT12 hown hK hP 4 rfl rfl 12 (by decide) (hts _ tw_1897) (fun _ h9 => h9) rfl dX12_readFeature_97 ?_
            refine lv_if_le (tgt := 104) hx hb dX12_readFeature_100 (by decide) (fun c_3121 => ?_) (fun h9 => (z_no (by have h8 := z_fgtF h9; omega)))
            have b_3122 := z_fleT c_3121
            refine lv_aload_n hx hb dX12_readFeature_104 rfl (lv_at hl 3 rfl) ?_
            refine va_get (D := G) (ci := 12) (v := .ref a_c) (C := RX12) (T := TX12) (N := 65) hx hb hts inT12 hown hK hP 4 rfl rfl 20 (by decide) (hts _ tw_1905) (fun _ h9 => h9) rfl dX12_readFeature_105 ?_
            refine lv_sipush (v := 1471) hx hb dX12_readFeature_108 (by decide) ?_
            refine lv_iload_n hx hb dX12_readFeature_111 rfl (lv_at hl 2 rfl) ?_
            refine lv_iadd hx hb dX12_readFeature_112 ?_
            refine lv_topi (fun x_3123 he_x_3123 => ?_)
            have hq_x_3123 := z_addq he_x_3123 hk_1471 (rfl : r_1780.toInt = _) (by omega) (by omega)
            refine lv_iload_n hx hb dX12_readFeature_113 rfl (lv_at hl 1 rfl) ?_
            refine z_iast hx hb hK hP hD hS 2 0 rfl rfl (z_inN (by omega) (by omega)) dX12_readFeature_114 (fun g_3124 hg_g_3124 H locs hP hD hS => ?_)
            have hC_g_3124 := z_ctU hC_g_c hg_g_3124 (a := 1471) (b := 1473) (lo := 0) (hi := 4) (by decide +kernel) (by decide +kernel) (by omega) (by omega) (by omega)
            have hw_g_3124_1460 := z_cwo hg_g_3124 (k := 1460) (by omega) (by omega)
            have hw_g_3124_1461 := z_cwo hg_g_3124 (k := 1461) (by omega) (by omega)
            have hs_3125 : zNw g_3124 g_isOn := (zNw_st hNW0 hg_g_3124 (by omega) (by omega) (by omega))
            have hs_3126 : zNf g_3124 := (zNf_fr hNF0 hg_g_3124 (a := 1471) (b := 1473) (by decide +kernel) (by omega) (by omega))
            have hs_3127 : (g_3124 (1471 + r_1780.toInt.toNat)).toInt = r_2679.toInt := (z_updself hg_g_3124 (by omega))
            refine lv_aload_n hx hb dX12_readFeature_115 rfl (lv_at hl 3 rfl) ?_
            refine va_get (D := G) (ci := 12) (v := .ref a_c) (C := RX12) (T := TX12) (N := 65) hx hb hts inT12 hown hK hP 4 rfl rfl 20 (by decide) (hts _ tw_1905) (fun _ h9 => h9) rfl dX12_readFeature_116 ?_
            refine lv_sipush (v := 1474) hx hb dX12_readFeature_119 (by decide) ?_
            refine lv_iload_n hx hb dX12_readFeature_122 rfl (lv_at hl 2 rfl) ?_
            refine lv_iadd hx hb dX12_readFeature_123 ?_
            refine lv_topi (fun x_3128 he_x_3128 => ?_)
            have hq_x_3128 := z_addq he_x_3128 hk_1474 (rfl : r_1780.toInt = _) (by omega) (by omega)
            refine lv_iload_n hx hb dX12_readFeature_124 rfl (lv_at hl 0 rfl) ?_
            refine lv_if_eq (tgt := 132) hx hb dX12_readFeature_125 (by decide) (fun h9 => absurd h9 (by decide +kernel)) (fun _ => ?_)
            refine lv_iconst (v := 1) hx hb dX12_readFeature_128 (by decide) ?_
            refine lv_goto (tgt := 133) hx hb dX12_readFeature_129 (by decide) ?_
            refine z_iast hx hb hK hP hD hS 2 0 rfl rfl (z_inN (by omega) (by omega)) dX12_readFeature_133 (fun g_3129 hg_g_3129 H locs hP hD hS => ?_)
            have hC_g_3129 := z_ctU hC_g_3124 hg_g_3129 (a := 1474) (b := 1476) (lo := (-2147483648)) (hi := 2147483647) (by decide +kernel) (by decide +kernel) (by omega) (by omega) (z_full _)
            have hw_g_3129_1460 := z_cwo hg_g_3129 (k := 1460) (by omega) (by omega)
            have hw_g_3129_1461 := z_cwo hg_g_3129 (k := 1461) (by omega) (by omega)
            have hs_3130 : zNw g_3129 g_isOn := (zNw_fr hs_3125 hg_g_3129 (a := 1474) (b := 1476) (by decide +kernel) (by omega) (by omega))
            have hs_3131 : zNf g_3129 := (zNf_fr hs_3126 hg_g_3129 (a := 1474) (b := 1476) (by decide +kernel) (by omega) (by omega))
            have hs_3132 : (g_3129 (1471 + r_1780.toInt.toNat)).toInt = r_2679.toInt := (z_updkeep hs_3127 hg_g_3129 (by omega) (by omega))
            refine lv_iconst (v := 0) hx hb dX12_readFeature_134 (by decide) ?_
            refine lv_istore (lv' := [(4, .int 0), (3, .int 1), (2, .int r_2679), (1, .int r_1780), (0, .ref h0)]) hx hb dX12_readFeature_135 hl (by decide) rfl (fun ls hl => ?_)
            have hlp_3506 : ∀ (n : Nat) (v_3477 : Int32) (g_3478 : Nat → Int32) (H : Heap) (locs : List Loc) (ls : Array Slot), (2147483647 - v_3477.toInt).toNat < n → (0 ≤ v_3477.toInt ∧ v_3477.toInt ≤ 16) → (zC g_3478) → (zNw g_3478 g_isOn) → (zNf g_3478) → ((g_3478 (1471 + r_1780.toInt.toNat)).toInt = r_2679.toInt) → (zFt g_3478 r_1780.toInt v_3477.toInt) → ((g_3478 1460).toInt = r_1780.toInt) → (m_behind.toInt ≤ n_3113.toInt) → (n_2671.toInt ≤ 0 → n_3111.toInt = 0 ∨ m_behind.toInt < n_3113.toInt) → va_P G vwCl [(a_hasFeels, .inl (cA.1 3, 3, .inl g_hasFeels)), (a_isOn, .inl (cA.1 3, 10, .inl g_isOn)), (a_c, .inl (cA.1 0, 1825, .inl g_3478)), (a_words, .inl (cA.1 1, 105, .inr (.inl n_1779))), (h0, .inr (12, [.int m_status, .int m_thrown, .long m_above, .long m_under, .ref a_traySort, .ref a_trayMany, .ref a_numbers, .ref a_tape, .int m_taped, .int m_textEnd, .int m_faultKind, .int m_faultAt, .int n_2671, .int n_2672, .int n_3111, .int n_3112, .int n_3113, .int n_3114, .int n_3115, .long n_3116, .ref a_c, .ref a_words, .int m_markMany, .ref a_there, .ref a_tried, .ref a_best, .ref a_found, .int m_thereMany, .int m_foundMany, .int m_orderHow, .int m_orderRing, .int m_orderMany, .int m_hasBest, .long m_bestTop, .long m_bestBy, .ref a_weights, .ref a_shared, .int m_random, .int m_truePlace, .int m_trueWay, .int m_seconds, .int m_done, .int m_feelings, .int m_tries, .int m_leftOver, .int m_playDoor, .int m_playRing, .int m_isOpen, .int m_isOver, .int m_wasTried, .int m_hasPlayed, .ref a_feltNow, .ref a_last, .ref a_kept, .int m_hasSeconds, .int m_hasTurned, .int m_hasRound, .ref a_hasFeels, .ref a_isOn, .int m_firstAct, .long m_meanTop, .long m_meanBy, .ref a_order, .int m_rowMany, .int m_newSteps])), (a_tape, .inl (cA.1 2, 900, .inl g_tape))] H → va_D A [(a_hasFeels, .inl (cA.1 3, 3, .inl g_hasFeels)), (a_isOn, .inl (cA.1 3, 10, .inl g_isOn)), (a_c, .inl (cA.1 0, 1825, .inl g_3478)), (a_words, .inl (cA.1 1, 105, .inr (.inl n_1779))), (h0, .inr (12, [.int m_status, .int m_thrown, .long m_above, .long m_under, .ref a_traySort, .ref a_trayMany, .ref a_numbers, .ref a_tape, .int m_taped, .int m_textEnd, .int m_faultKind, .int m_faultAt, .int n_2671, .int n_2672, .int n_3111, .int n_3112, .int n_3113, .int n_3114, .int n_3115, .long n_3116, .ref a_c, .ref a_words, .int m_markMany, .ref a_there, .ref a_tried, .ref a_best, .ref a_found, .int m_thereMany, .int m_foundMany, .int m_orderHow, .int m_orderRing, .int m_orderMany, .int m_hasBest, .long m_bestTop, .long m_bestBy, .ref a_weights, .ref a_shared, .int m_random, .int m_truePlace, .int m_trueWay, .int m_seconds, .int m_done, .int m_feelings, .int m_tries, .int m_leftOver, .int m_playDoor, .int m_playRing, .int m_isOpen, .int m_isOver, .int m_wasTried, .int m_hasPlayed, .ref a_feltNow, .ref a_last, .ref a_kept, .int m_hasSeconds, .int m_hasTurned, .int m_hasRound, .ref a_hasFeels, .ref a_isOn, .int m_firstAct, .long m_meanTop, .long m_meanBy, .ref a_order, .int m_rowMany, .int m_newSteps])), (a_tape, .inl (cA.1 2, 900, .inl g_tape))] → va_S A s.heap H locs → lv_has ls 5 [(0, .ref h0), (1, .int r_1780), (2, .int r_2679), (3, .int 1), (4, .int v_3477)] → W p l e ({ frames := 4, cells := 0, slots := 0, locals := 91 }) s m args below meth c H locs 0 0 Q (F0 m 137 ls []) := by
              intro n
              induction n with
              | zero =>
                intro v_3477 g_3478 H locs ls hmu_hlp_3506 hr_v_3477 hC_g_3478 hs_3499 hs_3500 hs_3501 hi_3502 hi_3503 hi_3504 hi_3505 hP hD hS hl
                exact absurd hmu_hlp_3506 (Nat.not_lt_zero _)
              | succ n ih_3507 =>
                intro v_3477 g_3478 H locs ls hmu_hlp_3506 hr_v_3477 hC_g_3478 hs_3499 hs_3500 hs_3501 hi_3502 hi_3503 hi_3504 hi_3505 hP hD hS hl
                refine lv_iload hx hb dX12_readFeature_137 (lv_at hl 4 rfl) ?_
                refine lv_bipush (v := 16) hx hb dX12_readFeature_139 (by decide) ?_
                refine lv_icmp_ge (tgt := 179) hx hb dX12_readFeature_141 (by decide) (fun c_3508 => ?_) (fun c_3508 => ?_)
                · have b_3509 := z_fgeT c_3508
                  refine lv_aload_n hx hb dX12_readFeature_179 rfl (lv_at hl 0 rfl) ?_
                  refine va_get (D := G) (ci := 12) (v := .ref a_hasFeels) (C := RX12) (T := TX12) (N := 65) hx hb hts inT12 hown hK hP 4 rfl rfl 57 (by decide) (hts _ tw_1940) (fun _ h9 => h9) rfl dX12_readFeature_180 ?_
                  refine lv_iload_n hx hb dX12_readFeature_183 rfl (lv_at hl 1 rfl) ?_
                  refine lv_iconst (v := 0) hx hb dX12_readFeature_184 (by decide) ?_
                  refine z_zast hx hb hK hP hD hS 0 3 rfl rfl (z_inN (by omega) (by omega)) dX12_readFeature_185 (fun g_3510 hg_g_3510 H locs hP hD hS => ?_)
                  have hC_g_3510 := z_rgZ hC_g_hasFeels hg_g_3510 (Or.inl rfl)
                  refine lv_aload_n hx hb dX12_readFeature_186 rfl (lv_at hl 0 rfl) ?_
                  refine va_get (D := G) (ci := 12) (v := .ref a_c) (C := RX12) (T := TX12) (N := 65) hx hb hts inT12 hown hK hP 4 rfl rfl 20 (by decide) (hts _ tw_1905) (fun _ h9 => h9) rfl dX12_readFeature_187 ?_
                  refine lv_sipush (v := 1460) hx hb dX12_readFeature_190 (by decide) ?_
                  refine lv_dup2_11 hx hb dX12_readFeature_193 rfl rfl ?_
                  refine va_iald hx hb hK hP 2 0 rfl rfl (z_in (i := 1460) (n := 1825) (by decide +kernel) (by decide +kernel)) dX12_readFeature_194 ?_
                  refine lv_topi (fun x_3511 he_x_3511 => ?_)
                  have hr_x_3511 := z_ctk hC_g_3478 he_x_3511 (k := 1460) (lo := 0) (hi := 3) (by decide +kernel) (by decide +kernel) (by decide +kernel)
                  have hv_x_3511 := z_cv he_x_3511 (k := 1460) (by decide +kernel)
                  refine lv_iconst (v := 1) hx hb dX12_readFeature_195 (by decide) ?_
                  refine lv_iadd hx hb dX12_readFeature_196 ?_
                  refine lv_topi (fun x_3512 he_x_3512 => ?_)
                  have hq_x_3512 := z_addq he_x_3512 (rfl : x_3511.toInt = _) hk_1 (by omega) (by omega)
                  refine z_iast hx hb hK hP hD hS 2 0 rfl rfl (z_in (i := 1460) (n := 1825) (by decide +kernel) (by decide +kernel)) dX12_readFeature_197 (fun g_3513 hg_g_3513 H locs hP hD hS => ?_)
                  have hC_g_3513 := z_ctUk hC_g_3478 hg_g_3513 (k := 1460) (lo := 0) (hi := 3) (by decide +kernel) (by decide +kernel) (by decide +kernel) (by omega)
                  have hw_g_3513_1460 := z_cwk hg_g_3513 (k := 1460) (by decide +kernel)
                  have hw_g_3513_1461 := z_cwo hg_g_3513 (k := 1461) (by decide +kernel) (by decide +kernel)
                  have hs_3514 : zNw g_3513 g_isOn := (zNw_fe hs_3499 hg_g_3513 (by decide +kernel) (by omega) (by omega) (by omega) (k := r_1780.toInt) (by omega) (by rw [hs_3501]; omega))
                  have hs_3515 : zNf g_3513 := (zNf_fe hs_3500 hg_g_3513 (by decide +kernel) (by omega) (by omega) (by omega) (k := r_1780.toInt) (n := v_3477.toInt) (by omega) (by omega) hi_3502)
                  have hpost : (0 ≤ n_2671.toInt ∧ n_2671.toInt ≤ 9) ∧ (0 ≤ n_3111.toInt ∧ n_3111.toInt ≤ 4) ∧ (0 ≤ n_3112.toInt ∧ n_3112.toInt ≤ 900) ∧ (0 ≤ n_3113.toInt ∧ n_3113.toInt ≤ 900) ∧ (0 ≤ n_3114.toInt ∧ n_3114.toInt ≤ 9999) ∧ (0 ≤ n_3115.toInt ∧ n_3115.toInt ≤ 900) ∧ (zC g_3513) ∧ (zRg 3 0 1 g_3510) ∧ (zNw g_3513 g_isOn) ∧ (m_behind.toInt ≤ n_3113.toInt) ∧ (0 < m_bad.toInt → 0 < n_2671.toInt) ∧ (n_2671.toInt ≤ 0 → n_3111.toInt = 0 ∨ m_behind.toInt < n_3113.toInt) ∧ (n_2671.toInt ≤ 0 → n_3111.toInt = 3 → n_3114.toInt = 59 → zNf g_3513) := ⟨(by omega), (by omega), (by omega), (by omega), (by omega), (by omega), hC_g_3513, hC_g_3510, hs_3514, (by omega), (by omega), (by omega), (fun _ _ _ => hs_3515)⟩
                  exact hret _ _ _ _ _ (n_2671, n_2672, n_3111, n_3112, n_3113, n_3114, n_3115, n_3116, n_1779, g_3513, g_3510) [4, 5, 2, 3, 0, 1] hP hD hS rfl (by decide) dX12_readFeature_198 hpost
                · have b_3516 := z_fltF c_3508
                  refine lv_aload_n hx hb dX12_readFeature_144 rfl (lv_at hl 0 rfl) ?_
                  refine va_get (D := G) (ci := 12) (v := .ref a_c) (C := RX12) (T := TX12) (N := 65) hx hb hts inT12 hown hK hP 4 rfl rfl 20 (by decide) (hts _ tw_1905) (fun _ h9 => h9) rfl dX12_readFeature_145 ?_
                  refine lv_sipush (v := 1477) hx hb dX12_readFeature_148 (by decide) ?_
                  refine lv_bipush (v := 16) hx hb dX12_readFeature_151 (by decide) ?_
                  refine lv_iload_n hx hb dX12_readFeature_153 rfl (lv_at hl 1 rfl) ?_
                  refine lv_imul hx hb dX12_readFeature_154 ?_
                  refine lv_topi (fun x_3517 he_x_3517 => ?_)
                  have hq_x_3517 := z_mulq he_x_3517 hk_16 (rfl : r_1780.toInt = _) (by omega) (by omega)
                  refine lv_iadd hx hb dX12_readFeature_155 ?_
                  refine lv_topi (fun x_3518 he_x_3518 => ?_)
                  have hq_x_3518 := z_addq he_x_3518 hk_1477 (rfl : x_3517.toInt = _) (by omega) (by omega)
                  refine lv_iload hx hb dX12_readFeature_156 (lv_at hl 4 rfl) ?_
                  refine lv_iadd hx hb dX12_readFeature_158 ?_
                  refine lv_topi (fun x_3519 he_x_3519 => ?_)
                  have hq_x_3519 := z_addq he_x_3519 (rfl : x_3518.toInt = _) (rfl : v_3477.toInt = _) (by omega) (by omega)
                  refine lv_iload hx hb dX12_readFeature_159 (lv_at hl 4 rfl) ?_
                  refine lv_iconst (v := 5) hx hb dX12_readFeature_161 (by decide) ?_
                  refine lv_irem hx hb dX12_readFeature_162 (by decide +kernel) ?_
                  refine lv_topi (fun x_3520 he_x_3520 => ?_)
                  have hq_x_3520 := z_remq he_x_3520 (rfl : v_3477.toInt = _) hk_5 (by omega) (by decide)
                  refine lv_if_ne (tgt := 171) hx hb dX12_readFeature_163 (by decide) (fun c_3521 => ?_) (fun c_3521 => ?_)
                  · have b_3522 := z_fneT c_3521
                    refine lv_iconst (v := 0) hx hb dX12_readFeature_171 (by decide) ?_
                    refine z_iast hx hb hK hP hD hS 2 0 rfl rfl (z_inN (by omega) (by omega)) dX12_readFeature_172 (fun g_3523 hg_g_3523 H locs hP hD hS => ?_)
                    have hC_g_3523 := z_ctU hC_g_3478 hg_g_3523 (a := 1477) (b := 1524) (lo := 0) (hi := 16) (by decide +kernel) (by decide +kernel) (by omega) (by omega) (by decide +kernel)
                    have hw_g_3523_1460 := z_cwo hg_g_3523 (k := 1460) (by omega) (by omega)
                    have hw_g_3523_1461 := z_cwo hg_g_3523 (k := 1461) (by omega) (by omega)
                    have hs_3524 : zNw g_3523 g_isOn := (zNw_fr hs_3499 hg_g_3523 (a := 1477) (b := 1524) (by decide +kernel) (by omega) (by omega))
                    have hs_3525 : zNf g_3523 := (zNf_row hs_3500 hg_g_3523 (by omega) (by omega) (by omega))
                    have hs_3526 : (g_3523 (1471 + r_1780.toInt.toNat)).toInt = r_2679.toInt := (z_updkeep hs_3501 hg_g_3523 (by omega) (by omega))
                    obtain ⟨x_3527, he_x_3527⟩ : ∃ z : Int32, z = v_3477 + 1 := ⟨_, rfl⟩
                    have hq_x_3527 := z_addq he_x_3527 (rfl : v_3477.toInt = _) hk_1 (by omega) (by omega)
                    refine lv_iinc (v := x_3527) (lv' := [(4, .int x_3527), (0, .ref h0), (1, .int r_1780), (2, .int r_2679), (3, .int 1)]) hx hb dX12_readFeature_173 hl (k := 4) rfl ((z_ofi (by decide +kernel)).trans he_x_3527.symm) (by decide) rfl (fun ls hl => ?_)
                    refine lv_goto (tgt := 137) hx hb dX12_readFeature_176 (by decide) ?_
                    exact ih_3507 x_3527 g_3523 H locs ls (by omega) (by omega) hC_g_3523 hs_3524 hs_3525 hs_3526 (by rw [hq_x_3527]; exact zFt_step hi_3502 hg_g_3523 (by omega) (by omega) (by omega) (by omega)) (by omega) (by omega) (by omega) hP hD hS (lv_sub hl [1, 2, 3, 4, 0] rfl)
                  · have b_3528 := z_feqF c_3521
                    refine lv_bipush (v := 16) hx hb dX12_readFeature_166 (by decide) ?_
                    refine lv_goto (tgt := 172) hx hb dX12_readFeature_168 (by decide) ?_
                    refine z_iast hx hb hK hP hD hS 2 0 rfl rfl (z_inN (by omega) (by omega)) dX12_readFeature_172 (fun g_3529 hg_g_3529 H locs hP hD hS => ?_)
                    have hC_g_3529 := z_ctU hC_g_3478 hg_g_3529 (a := 1477) (b := 1524) (lo := 0) (hi := 16) (by decide +kernel) (by decide +kernel) (by omega) (by omega) (by decide +kernel)
                    have hw_g_3529_1460 := z_cwo hg_g_3529 (k := 1460) (by omega) (by omega)
                    have hw_g_3529_1461 := z_cwo hg_g_3529 (k := 1461) (by omega) (by omega)
                    have hs_3530 : zNw g_3529 g_isOn := (zNw_fr hs_3499 hg_g_3529 (a := 1477) (b := 1524) (by decide +kernel) (by omega) (by omega))
                    have hs_3531 : zNf g_3529 := (zNf_row hs_3500 hg_g_3529 (by omega) (by omega) (by omega))
                    have hs_3532 : (g_3529 (1471 + r_1780.toInt.toNat)).toInt = r_2679.toInt := (z_updkeep hs_3501 hg_g_3529 (by omega) (by omega))
                    obtain ⟨x_3533, he_x_3533⟩ : ∃ z : Int32, z = v_3477 + 1 := ⟨_, rfl⟩
                    have hq_x_3533 := z_addq he_x_3533 (rfl : v_3477.toInt = _) hk_1 (by omega) (by omega)
                    refine lv_iinc (v := x_3533) (lv' := [(4, .int x_3533), (0, .ref h0), (1, .int r_1780), (2, .int r_2679), (3, .int 1)]) hx hb dX12_readFeature_173 hl (k := 4) rfl ((z_ofi (by decide +kernel)).trans he_x_3533.symm) (by decide) rfl (fun ls hl => ?_)
                    refine lv_goto (tgt := 137) hx hb dX12_readFeature_176 (by decide) ?_
                    exact ih_3507 x_3533 g_3529 H locs ls (by omega) (by omega) hC_g_3529 hs_3530 hs_3531 hs_3532 (by rw [hq_x_3533]; exact zFt_step hi_3502 hg_g_3529 (by omega) (by omega) (by omega) (by omega)) (by omega) (by omega) (by omega) hP hD hS (lv_sub hl [1, 2, 3, 4, 0] rfl)
            exact hlp_3506 _ 0 g_3129 _ _ _ (Nat.lt_succ_self _) (by decide +kernel) hC_g_3129 hs_3130 hs_3131 hs_3132 zFt_0 (by omega) (by omega) (by omega) hP hD hS (lv_sub hl [4, 3, 2, 1, 0] rfl)
    · have b_3534 := z_fgtF c_1769
      refine lv_aload_n hx hb dX12_readFeature_23 rfl (lv_at hl 0 rfl) ?_
      refine lv_bipush (v := 7) hx hb dX12_readFeature_24 (by decide) ?_
      refine lv_aload_n hx hb dX12_readFeature_26 rfl (lv_at hl 0 rfl) ?_
      refine va_get (D := G) (ci := 12) (v := .int m_at) (C := RX12) (T := TX12) (N := 65) hx hb hts inT12 hown hK hP 0 rfl rfl 15 (by decide) (hts _ tw_1900) (fun _ h9 => h9) rfl dX12_readFeature_27 ?_
      refine z_callVv (As := [.int 7, .int m_at]) (rest := []) (wr := [(a_tape, .inl (cA.1 2, 900, .inl g_tape)), (a_c, .inl (cA.1 0, 1825, .inl g_c)), (a_words, .inl (cA.1 1, 105, .inr (.inl g_words))), (a_hasFeels, .inl (cA.1 3, 3, .inl g_hasFeels)), (a_isOn, .inl (cA.1 3, 10, .inl g_isOn))]) ⟨hx, hb, hml, hown, hts⟩ hK hE hT hP hD hS hA (r_fail l G cA h0 m_status m_thrown m_above m_under a_traySort a_trayMany a_numbers a_tape m_taped m_textEnd m_faultKind m_faultAt m_bad m_badAt m_token m_at m_behind m_number m_letters m_word a_c a_words m_markMany a_there a_tried a_best a_found m_thereMany m_foundMany m_orderHow m_orderRing m_orderMany m_hasBest m_bestTop m_bestBy a_weights a_shared m_random m_truePlace m_trueWay m_seconds m_done m_feelings m_tries m_leftOver m_playDoor m_playRing m_isOpen m_isOver m_wasTried m_hasPlayed a_feltNow a_last a_kept m_hasSeconds m_hasTurned m_hasRound a_hasFeels a_isOn m_firstAct m_meanTop m_meanBy a_order m_rowMany m_newSteps 7 m_at (by decide +kernel) (by omega)) lk_RX12_180 ⟨rfl, rfl⟩ ⟨Nat.le_of_ble_eq_true rfl, Nat.le_of_ble_eq_true rfl⟩ 12 rfl rfl rfl [0] [1, 2, 3, 4, 5] rfl rfl (by decide) rfl hl.1 rfl (lv_room (Nat.le_of_ble_eq_true rfl)) dX12_readFeature_30 ⟨Nat.le_of_ble_eq_true rfl, Nat.le_of_ble_eq_true rfl⟩ (fun u_3538 H locs hw hP hD hS => ?_)
      obtain ⟨n_3535, n_3536⟩ := u_3538
      try dsimp only at hw
      obtain ⟨hr_n_3535, hf_3539⟩ := hw
      refine lv_aload_n hx hb dX12_readFeature_33 rfl (lv_at hl 0 rfl) ?_
      refine lv_iconst (v := 0) hx hb dX12_readFeature_34 (by decide) ?_
      refine lv_iconst (v := 3) hx hb dX12_readFeature_35 (by decide) ?_
      refine lv_iconst (v := 0) hx hb dX12_readFeature_36 (by decide) ?_
      refine z_callVi (As := [.int 0, .int 3, .int 0]) (rest := []) (wr := [(a_hasFeels, .inl (cA.1 3, 3, .inl g_hasFeels)), (a_isOn, .inl (cA.1 3, 10, .inl g_isOn))]) ⟨hx, hb, hml, hown, hts⟩ hK hE hT hP hD hS hA (r_readNew_0 l G cA h0 m_status m_thrown m_above m_under a_traySort a_trayMany a_numbers a_tape m_taped m_textEnd m_faultKind m_faultAt n_3535 n_3536 m_token m_at m_behind m_number m_letters m_word a_c a_words m_markMany a_there a_tried a_best a_found m_thereMany m_foundMany m_orderHow m_orderRing m_orderMany m_hasBest m_bestTop m_bestBy a_weights a_shared m_random m_truePlace m_trueWay m_seconds m_done m_feelings m_tries m_leftOver m_playDoor m_playRing m_isOpen m_isOver m_wasTried m_hasPlayed a_feltNow a_last a_kept m_hasSeconds m_hasTurned m_hasRound a_hasFeels a_isOn m_firstAct m_meanTop m_meanBy a_order m_rowMany m_newSteps g_tape g_c g_words (by omega) (by omega) (by omega) (by omega) (by omega) (by omega) (by omega) hC_g_c) lk_RX12_207 ⟨rfl, rfl⟩ ⟨Nat.le_of_ble_eq_true rfl, Nat.le_of_ble_eq_true rfl⟩ 12 rfl rfl rfl [5, 0, 1, 2] [3, 4] rfl rfl (by decide) rfl hl.1 rfl (lv_room (Nat.le_of_ble_eq_true rfl)) dX12_readFeature_37 ⟨Nat.le_of_ble_eq_true rfl, Nat.le_of_ble_eq_true rfl⟩ (fun r_3549 u_3550 H locs hw hP hD hS => ?_)
      obtain ⟨n_3540, n_3541, n_3542, n_3543, n_3544, n_3545, n_3546, n_3547, n_3548⟩ := u_3550
      try dsimp only at hw
      obtain ⟨hr_r_3549, hr_n_3540, hr_n_3542, hr_n_3543, hr_n_3544, hr_n_3545, hr_n_3546, hf_3551, hf_3552, hf_3553, hf_3554, hf_3555⟩ := hw
      refine lv_istore_n (lv' := [(1, .int r_3549), (0, .ref h0)]) hx hb dX12_readFeature_40 rfl hl (by decide) rfl (fun ls hl => ?_)
      refine lv_aload_n hx hb dX12_readFeature_41 rfl (lv_at hl 1 rfl) ?_
      refine lv_aload_n hx hb dX12_readFeature_42 rfl (lv_at hl 1 rfl) ?_
      refine z_callVi (As := []) (rest := [.ref h0]) (wr := [(a_hasFeels, .inl (cA.1 3, 3, .inl g_hasFeels)), (a_isOn, .inl (cA.1 3, 10, .inl g_isOn)), (a_tape, .inl (cA.1 2, 900, .inl g_tape)), (a_c, .inl (cA.1 0, 1825, .inl g_c)), (a_words, .inl (cA.1 1, 105, .inr (.inl n_3548)))]) ⟨hx, hb, hml, hown, hts⟩ hK hE hT hP hD hS hA (r_houseWord l G cA h0 m_status m_thrown m_above m_under a_traySort a_trayMany a_numbers a_tape m_taped m_textEnd m_faultKind m_faultAt n_3540 n_3541 n_3542 n_3543 n_3544 n_3545 n_3546 n_3547 a_c a_words m_markMany a_there a_tried a_best a_found m_thereMany m_foundMany m_orderHow m_orderRing m_orderMany m_hasBest m_bestTop m_bestBy a_weights a_shared m_random m_truePlace m_trueWay m_seconds m_done m_feelings m_tries m_leftOver m_playDoor m_playRing m_isOpen m_isOver m_wasTried m_hasPlayed a_feltNow a_last a_kept m_hasSeconds m_hasTurned m_hasRound a_hasFeels a_isOn m_firstAct m_meanTop m_meanBy a_order m_rowMany m_newSteps (by omega)) lk_RX12_170 ⟨rfl, rfl⟩ ⟨Nat.le_of_ble_eq_true rfl, Nat.le_of_ble_eq_true rfl⟩ 12 rfl rfl rfl [2] [0, 1, 3, 4, 5] rfl rfl (by decide) rfl hl.1 rfl (lv_room (Nat.le_of_ble_eq_true rfl)) dX12_readFeature_43 ⟨Nat.le_of_ble_eq_true rfl, Nat.le_of_ble_eq_true rfl⟩ (fun r_3556 u_3557 H locs hw hP hD hS => ?_)
      obtain ⟨hr_r_3556, hf_3558⟩ := hw
      refine lv_bipush (v := 8) hx hb dX12_readFeature_46 (by decide) ?_
      refine lv_icmp_ne (tgt := 55) hx hb dX12_readFeature_48 (by decide) (fun c_3559 => ?_) (fun c_3559 => ?_)
      · have b_3560 := z_fneT c_3559
        refine lv_iconst (v := 0) hx hb dX12_readFeature_55 (by decide) ?_
        refine z_callVv (As := [.int 0]) (rest := []) (wr := [(a_hasFeels, .inl (cA.1 3, 3, .inl g_hasFeels)), (a_isOn, .inl (cA.1 3, 10, .inl g_isOn)), (a_tape, .inl (cA.1 2, 900, .inl g_tape)), (a_c, .inl (cA.1 0, 1825, .inl g_c)), (a_words, .inl (cA.1 1, 105, .inr (.inl n_3548)))]) ⟨hx, hb, hml, hown, hts⟩ hK hE hT hP hD hS hA (r_must_0 l G cA h0 m_status m_thrown m_above m_under a_traySort a_trayMany a_numbers a_tape m_taped m_textEnd m_faultKind m_faultAt n_3540 n_3541 n_3542 n_3543 n_3544 n_3545 n_3546 n_3547 a_c a_words m_markMany a_there a_tried a_best a_found m_thereMany m_foundMany m_orderHow m_orderRing m_orderMany m_hasBest m_bestTop m_bestBy a_weights a_shared m_random m_truePlace m_trueWay m_seconds m_done m_feelings m_tries m_leftOver m_playDoor m_playRing m_isOpen m_isOver m_wasTried m_hasPlayed a_feltNow a_last a_kept m_hasSeconds m_hasTurned m_hasRound a_hasFeels a_isOn m_firstAct m_meanTop m_meanBy a_order m_rowMany m_newSteps (by omega) (by omega) (by omega)) lk_RX12_210 ⟨rfl, rfl⟩ ⟨Nat.le_of_ble_eq_true rfl, Nat.le_of_ble_eq_true rfl⟩ 12 rfl rfl rfl [5] [0, 1, 2, 3, 4] rfl rfl (by decide) rfl hl.1 rfl (lv_room (Nat.le_of_ble_eq_true rfl)) dX12_readFeature_56 ⟨Nat.le_of_ble_eq_true rfl, Nat.le_of_ble_eq_true rfl⟩ (fun u_3564 H locs hw hP hD hS => ?_)
        obtain ⟨n_3561, n_3562⟩ := u_3564
        try dsimp only at hw
        have hr_n_3561 := hw
        refine lv_aload_n hx hb dX12_readFeature_59 rfl (lv_at hl 1 rfl) ?_
        refine lv_iconst (v := 2) hx hb dX12_readFeature_60 (by decide) ?_
        refine lv_iconst (v := 4) hx hb dX12_readFeature_61 (by decide) ?_
        refine z_callVi (As := [.int 2, .int 4]) (rest := []) (wr := [(a_hasFeels, .inl (cA.1 3, 3, .inl g_hasFeels)), (a_isOn, .inl (cA.1 3, 10, .inl g_isOn)), (a_c, .inl (cA.1 0, 1825, .inl g_c)), (a_words, .inl (cA.1 1, 105, .inr (.inl n_3548)))]) ⟨hx, hb, hml, hown, hts⟩ hK hE hT hP hD hS hA (r_count l G cA h0 m_status m_thrown m_above m_under a_traySort a_trayMany a_numbers a_tape m_taped m_textEnd m_faultKind m_faultAt n_3561 n_3562 n_3542 n_3543 n_3544 n_3545 n_3546 n_3547 a_c a_words m_markMany a_there a_tried a_best a_found m_thereMany m_foundMany m_orderHow m_orderRing m_orderMany m_hasBest m_bestTop m_bestBy a_weights a_shared m_random m_truePlace m_trueWay m_seconds m_done m_feelings m_tries m_leftOver m_playDoor m_playRing m_isOpen m_isOver m_wasTried m_hasPlayed a_feltNow a_last a_kept m_hasSeconds m_hasTurned m_hasRound a_hasFeels a_isOn m_firstAct m_meanTop m_meanBy a_order m_rowMany m_newSteps g_tape 2 4 (by decide +kernel) (by decide +kernel) (by omega) (by omega) (by omega) (by omega) (by omega) (by omega) (by omega)) lk_RX12_214 ⟨rfl, rfl⟩ ⟨Nat.le_of_ble_eq_true rfl, Nat.le_of_ble_eq_true rfl⟩ 12 rfl rfl rfl [5, 2] [0, 1, 3, 4] rfl rfl (by decide) rfl hl.1 rfl (lv_room (Nat.le_of_ble_eq_true rfl)) dX12_readFeature_62 ⟨Nat.le_of_ble_eq_true rfl, Nat.le_of_ble_eq_true rfl⟩ (fun r_3573 u_3574 H locs hw hP hD hS => ?_)
        obtain ⟨n_3565, n_3566, n_3567, n_3568, n_3569, n_3570, n_3571, n_3572⟩ := u_3574
        try dsimp only at hw
        obtain ⟨hr_r_3573, hr_n_3565, hr_n_3567, hr_n_3568, hr_n_3569, hr_n_3570, hr_n_3571, hf_3575, hf_3576, hf_3577, hf_3578, hf_3579, hf_3580⟩ := hw
        refine lv_istore_n (lv' := [(2, .int r_3573), (1, .int r_3549), (0, .ref h0)]) hx hb dX12_readFeature_65 rfl hl (by decide) rfl (fun ls hl => ?_)
        refine lv_aload_n hx hb dX12_readFeature_66 rfl (lv_at hl 2 rfl) ?_
        refine va_get (D := G) (ci := 12) (v := .int n_3565) (C := RX12) (T := TX12) (N := 65) hx hb hts inT12 hown hK hP 4 rfl rfl 12 (by decide) (hts _ tw_1897) (fun _ h9 => h9) rfl dX12_readFeature_67 ?_
        refine lv_if_ne (tgt := 86) hx hb dX12_readFeature_70 (by decide) (fun c_3581 => ?_) (fun c_3581 => ?_)
        · have b_3582 := z_fneT c_3581
          refine lv_iconst (v := 0) hx hb dX12_readFeature_86 (by decide) ?_
          refine lv_istore_n (lv' := [(3, .int 0), (2, .int r_3573), (1, .int r_3549), (0, .ref h0)]) hx hb dX12_readFeature_87 rfl hl (by decide) rfl (fun ls hl => ?_)
          refine lv_iload_n hx hb dX12_readFeature_88 rfl (lv_at hl 0 rfl) ?_
          refine lv_if_eq (tgt := 96) hx hb dX12_readFeature_89 (by decide) (fun _ => ?_) (fun h9 => absurd (by decide +kernel) h9)
          refine lv_aload_n hx hb dX12_readFeature_96 rfl (lv_at hl 3 rfl) ?_
          refine va_get (D := G) (ci := 12) (v := .int n_3565) (C := RX12) (T := TX12) (N := 65) hx hb hts inT12 hown hK hP 4 rfl rfl 12 (by decide) (hts _ tw_1897) (fun _ h9 => h9) rfl dX12_readFeature_97 ?_
          refine lv_if_le (tgt := 104) hx hb dX12_readFeature_100 (by decide) (fun h9 => (z_no (by have h8 := z_fleT h9; omega))) (fun c_3583 => ?_)
          have b_3584 := z_fgtF c_3583
          have hpost : (0 ≤ n_3565.toInt ∧ n_3565.toInt ≤ 9) ∧ (0 ≤ n_3567.toInt ∧ n_3567.toInt ≤ 4) ∧ (0 ≤ n_3568.toInt ∧ n_3568.toInt ≤ 900) ∧ (0 ≤ n_3569.toInt ∧ n_3569.toInt ≤ 900) ∧ (0 ≤ n_3570.toInt ∧ n_3570.toInt ≤ 9999) ∧ (0 ≤ n_3571.toInt ∧ n_3571.toInt ≤ 900) ∧ (zC g_c) ∧ (zRg 3 0 1 g_hasFeels) ∧ (zNw g_c g_isOn) ∧ (m_behind.toInt ≤ n_3569.toInt) ∧ (0 < m_bad.toInt → 0 < n_3565.toInt) ∧ (n_3565.toInt ≤ 0 → n_3567.toInt = 0 ∨ m_behind.toInt < n_3569.toInt) ∧ (n_3565.toInt ≤ 0 → n_3567.toInt = 3 → n_3570.toInt = 59 → zNf g_c) := ⟨(by omega), (by omega), (by omega), (by omega), (by omega), (by omega), hC_g_c, hC_g_hasFeels, hNW0, (by omega), (by omega), (by omega), (fun _ _ _ => hNF0)⟩
          exact hret _ _ _ _ _ (n_3565, n_3566, n_3567, n_3568, n_3569, n_3570, n_3571, n_3572, n_3548, g_c, g_hasFeels) [4, 5, 2, 3, 0, 1] hP hD hS rfl (by decide) dX12_readFeature_103 hpost
        · have b_3585 := z_feqF c_3581
          refine lv_aload_n hx hb dX12_readFeature_73 rfl (lv_at hl 2 rfl) ?_
          refine z_callVi (As := []) (rest := []) (wr := [(a_hasFeels, .inl (cA.1 3, 3, .inl g_hasFeels)), (a_isOn, .inl (cA.1 3, 10, .inl g_isOn)), (a_c, .inl (cA.1 0, 1825, .inl g_c)), (a_words, .inl (cA.1 1, 105, .inr (.inl n_3548))), (a_tape, .inl (cA.1 2, 900, .inl g_tape))]) ⟨hx, hb, hml, hown, hts⟩ hK hE hT hP hD hS hA (r_houseWord l G cA h0 m_status m_thrown m_above m_under a_traySort a_trayMany a_numbers a_tape m_taped m_textEnd m_faultKind m_faultAt n_3565 n_3566 n_3567 n_3568 n_3569 n_3570 n_3571 n_3572 a_c a_words m_markMany a_there a_tried a_best a_found m_thereMany m_foundMany m_orderHow m_orderRing m_orderMany m_hasBest m_bestTop m_bestBy a_weights a_shared m_random m_truePlace m_trueWay m_seconds m_done m_feelings m_tries m_leftOver m_playDoor m_playRing m_isOpen m_isOver m_wasTried m_hasPlayed a_feltNow a_last a_kept m_hasSeconds m_hasTurned m_hasRound a_hasFeels a_isOn m_firstAct m_meanTop m_meanBy a_order m_rowMany m_newSteps (by omega)) lk_RX12_170 ⟨rfl, rfl⟩ ⟨Nat.le_of_ble_eq_true rfl, Nat.le_of_ble_eq_true rfl⟩ 12 rfl rfl rfl [4] [0, 1, 2, 3, 5] rfl rfl (by decide) rfl hl.1 rfl (lv_room (Nat.le_of_ble_eq_true rfl)) dX12_readFeature_74 ⟨Nat.le_of_ble_eq_true rfl, Nat.le_of_ble_eq_true rfl⟩ (fun r_3586 u_3587 H locs hw hP hD hS => ?_)
          obtain ⟨hr_r_3586, hf_3588⟩ := hw
          refine lv_bipush (v := 6) hx hb dX12_readFeature_77 (by decide) ?_
          refine lv_icmp_ne (tgt := 86) hx hb dX12_readFeature_79 (by decide) (fun c_3589 => ?_) (fun c_3589 => ?_)
          · have b_3590 := z_fneT c_3589
            refine lv_iconst (v := 0) hx hb dX12_readFeature_86 (by decide) ?_
            refine lv_istore_n (lv' := [(3, .int 0), (2, .int r_3573), (1, .int r_3549), (0, .ref h0)]) hx hb dX12_readFeature_87 rfl hl (by decide) rfl (fun ls hl => ?_)
            refine lv_iload_n hx hb dX12_readFeature_88 rfl (lv_at hl 0 rfl) ?_
            refine lv_if_eq (tgt := 96) hx hb dX12_readFeature_89 (by decide) (fun _ => ?_) (fun h9 => absurd (by decide +kernel) h9)
            refine lv_aload_n hx hb dX12_readFeature_96 rfl (lv_at hl 3 rfl) ?_
            refine va_get (D := G) (ci := 12) (v := .int n_3565) (C := RX12) (T := TX12) (N := 65) hx hb hts inT12 hown hK hP 5 rfl rfl 12 (by decide) (hts _ tw_1897) (fun _ h9 => h9) rfl dX12_readFeature_97 ?_
            refine lv_if_le (tgt := 104) hx hb dX12_readFeature_100 (by decide) (fun c_3591 => ?_) (fun h9 => (z_no (by have h8 := z_fgtF h9; omega)))
            have b_3592 := z_fleT c_3591
            refine lv_aload_n hx hb dX12_readFeature_104 rfl (lv_at hl 3 rfl) ?_
            refine va_get (D := G) (ci := 12) (v := .ref a_c) (C := RX12) (T := TX12) (N := 65) hx hb hts inT12 hown hK hP 5 rfl rfl 20 (by decide) (hts _ tw_1905) (fun _ h9 => h9) rfl dX12_readFeature_105 ?_
            refine lv_sipush (v := 1471) hx hb dX12_readFeature_108 (by decide) ?_
            refine lv_iload_n hx hb dX12_readFeature_111 rfl (lv_at hl 2 rfl) ?_
            refine lv_iadd hx hb dX12_readFeature_112 ?_
            refine lv_topi (fun x_3593 he_x_3593 => ?_)
            have hq_x_3593 := z_addq he_x_3593 hk_1471 (rfl : r_3549.toInt = _) (by omega) (by omega)
            refine lv_iload_n hx hb dX12_readFeature_113 rfl (lv_at hl 1 rfl) ?_
            refine z_iast hx hb hK hP hD hS 2 0 rfl rfl (z_inN (by omega) (by omega)) dX12_readFeature_114 (fun g_3594 hg_g_3594 H locs hP hD hS => ?_)
            have hC_g_3594 := z_ctU hC_g_c hg_g_3594 (a := 1471) (b := 1473) (lo := 0) (hi := 4) (by decide +kernel) (by decide +kernel) (by omega) (by omega) (by omega)
            have hw_g_3594_1460 := z_cwo hg_g_3594 (k := 1460) (by omega) (by omega)
            have hw_g_3594_1461 := z_cwo hg_g_3594 (k := 1461) (by omega) (by omega)
            have hs_3595 : zNw g_3594 g_isOn := (zNw_st hNW0 hg_g_3594 (by omega) (by omega) (by omega))
            have hs_3596 : zNf g_3594 := (zNf_fr hNF0 hg_g_3594 (a := 1471) (b := 1473) (by decide +kernel) (by omega) (by omega))
            have hs_3597 : (g_3594 (1471 + r_3549.toInt.toNat)).toInt = r_3573.toInt := (z_updself hg_g_3594 (by omega))
            refine lv_aload_n hx hb dX12_readFeature_115 rfl (lv_at hl 3 rfl) ?_
            refine va_get (D := G) (ci := 12) (v := .ref a_c) (C := RX12) (T := TX12) (N := 65) hx hb hts inT12 hown hK hP 5 rfl rfl 20 (by decide) (hts _ tw_1905) (fun _ h9 => h9) rfl dX12_readFeature_116 ?_
            refine lv_sipush (v := 1474) hx hb dX12_readFeature_119 (by decide) ?_
            refine lv_iload_n hx hb dX12_readFeature_122 rfl (lv_at hl 2 rfl) ?_
            refine lv_iadd hx hb dX12_readFeature_123 ?_
            refine lv_topi (fun x_3598 he_x_3598 => ?_)
            have hq_x_3598 := z_addq he_x_3598 hk_1474 (rfl : r_3549.toInt = _) (by omega) (by omega)
            refine lv_iload_n hx hb dX12_readFeature_124 rfl (lv_at hl 0 rfl) ?_
            refine lv_if_eq (tgt := 132) hx hb dX12_readFeature_125 (by decide) (fun _ => ?_) (fun h9 => absurd (by decide +kernel) h9)
            refine lv_iconst (v := 0) hx hb dX12_readFeature_132 (by decide) ?_
            refine z_iast hx hb hK hP hD hS 2 0 rfl rfl (z_inN (by omega) (by omega)) dX12_readFeature_133 (fun g_3599 hg_g_3599 H locs hP hD hS => ?_)
            have hC_g_3599 := z_ctU hC_g_3594 hg_g_3599 (a := 1474) (b := 1476) (lo := (-2147483648)) (hi := 2147483647) (by decide +kernel) (by decide +kernel) (by omega) (by omega) (z_full _)
            have hw_g_3599_1460 := z_cwo hg_g_3599 (k := 1460) (by omega) (by omega)
            have hw_g_3599_1461 := z_cwo hg_g_3599 (k := 1461) (by omega) (by omega)
            have hs_3600 : zNw g_3599 g_isOn := (zNw_fr hs_3595 hg_g_3599 (a := 1474) (b := 1476) (by decide +kernel) (by omega) (by omega))
            have hs_3601 : zNf g_3599 := (zNf_fr hs_3596 hg_g_3599 (a := 1474) (b := 1476) (by decide +kernel) (by omega) (by omega))
            have hs_3602 : (g_3599 (1471 + r_3549.toInt.toNat)).toInt = r_3573.toInt := (z_updkeep hs_3597 hg_g_3599 (by omega) (by omega))
            refine lv_iconst (v := 0) hx hb dX12_readFeature_134 (by decide) ?_
            refine lv_istore (lv' := [(4, .int 0), (3, .int 0), (2, .int r_3573), (1, .int r_3549), (0, .ref h0)]) hx hb dX12_readFeature_135 hl (by decide) rfl (fun ls hl => ?_)
            have hlp_3976 : ∀ (n : Nat) (v_3947 : Int32) (g_3948 : Nat → Int32) (H : Heap) (locs : List Loc) (ls : Array Slot), (2147483647 - v_3947.toInt).toNat < n → (0 ≤ v_3947.toInt ∧ v_3947.toInt ≤ 16) → (zC g_3948) → (zNw g_3948 g_isOn) → (zNf g_3948) → ((g_3948 (1471 + r_3549.toInt.toNat)).toInt = r_3573.toInt) → (zFt g_3948 r_3549.toInt v_3947.toInt) → ((g_3948 1460).toInt = r_3549.toInt) → (m_behind.toInt ≤ n_3569.toInt) → (n_3565.toInt ≤ 0 → n_3567.toInt = 0 ∨ m_behind.toInt < n_3569.toInt) → va_P G vwCl [(a_hasFeels, .inl (cA.1 3, 3, .inl g_hasFeels)), (a_isOn, .inl (cA.1 3, 10, .inl g_isOn)), (a_c, .inl (cA.1 0, 1825, .inl g_3948)), (a_words, .inl (cA.1 1, 105, .inr (.inl n_3548))), (a_tape, .inl (cA.1 2, 900, .inl g_tape)), (h0, .inr (12, [.int m_status, .int m_thrown, .long m_above, .long m_under, .ref a_traySort, .ref a_trayMany, .ref a_numbers, .ref a_tape, .int m_taped, .int m_textEnd, .int m_faultKind, .int m_faultAt, .int n_3565, .int n_3566, .int n_3567, .int n_3568, .int n_3569, .int n_3570, .int n_3571, .long n_3572, .ref a_c, .ref a_words, .int m_markMany, .ref a_there, .ref a_tried, .ref a_best, .ref a_found, .int m_thereMany, .int m_foundMany, .int m_orderHow, .int m_orderRing, .int m_orderMany, .int m_hasBest, .long m_bestTop, .long m_bestBy, .ref a_weights, .ref a_shared, .int m_random, .int m_truePlace, .int m_trueWay, .int m_seconds, .int m_done, .int m_feelings, .int m_tries, .int m_leftOver, .int m_playDoor, .int m_playRing, .int m_isOpen, .int m_isOver, .int m_wasTried, .int m_hasPlayed, .ref a_feltNow, .ref a_last, .ref a_kept, .int m_hasSeconds, .int m_hasTurned, .int m_hasRound, .ref a_hasFeels, .ref a_isOn, .int m_firstAct, .long m_meanTop, .long m_meanBy, .ref a_order, .int m_rowMany, .int m_newSteps]))] H → va_D A [(a_hasFeels, .inl (cA.1 3, 3, .inl g_hasFeels)), (a_isOn, .inl (cA.1 3, 10, .inl g_isOn)), (a_c, .inl (cA.1 0, 1825, .inl g_3948)), (a_words, .inl (cA.1 1, 105, .inr (.inl n_3548))), (a_tape, .inl (cA.1 2, 900, .inl g_tape)), (h0, .inr (12, [.int m_status, .int m_thrown, .long m_above, .long m_under, .ref a_traySort, .ref a_trayMany, .ref a_numbers, .ref a_tape, .int m_taped, .int m_textEnd, .int m_faultKind, .int m_faultAt, .int n_3565, .int n_3566, .int n_3567, .int n_3568, .int n_3569, .int n_3570, .int n_3571, .long n_3572, .ref a_c, .ref a_words, .int m_markMany, .ref a_there, .ref a_tried, .ref a_best, .ref a_found, .int m_thereMany, .int m_foundMany, .int m_orderHow, .int m_orderRing, .int m_orderMany, .int m_hasBest, .long m_bestTop, .long m_bestBy, .ref a_weights, .ref a_shared, .int m_random, .int m_truePlace, .int m_trueWay, .int m_seconds, .int m_done, .int m_feelings, .int m_tries, .int m_leftOver, .int m_playDoor, .int m_playRing, .int m_isOpen, .int m_isOver, .int m_wasTried, .int m_hasPlayed, .ref a_feltNow, .ref a_last, .ref a_kept, .int m_hasSeconds, .int m_hasTurned, .int m_hasRound, .ref a_hasFeels, .ref a_isOn, .int m_firstAct, .long m_meanTop, .long m_meanBy, .ref a_order, .int m_rowMany, .int m_newSteps]))] → va_S A s.heap H locs → lv_has ls 5 [(0, .ref h0), (1, .int r_3549), (2, .int r_3573), (3, .int 0), (4, .int v_3947)] → W p l e ({ frames := 4, cells := 0, slots := 0, locals := 91 }) s m args below meth c H locs 0 0 Q (F0 m 137 ls []) := by
              intro n
              induction n with
              | zero =>
                intro v_3947 g_3948 H locs ls hmu_hlp_3976 hr_v_3947 hC_g_3948 hs_3969 hs_3970 hs_3971 hi_3972 hi_3973 hi_3974 hi_3975 hP hD hS hl
                exact absurd hmu_hlp_3976 (Nat.not_lt_zero _)
              | succ n ih_3977 =>
                intro v_3947 g_3948 H locs ls hmu_hlp_3976 hr_v_3947 hC_g_3948 hs_3969 hs_3970 hs_3971 hi_3972 hi_3973 hi_3974 hi_3975 hP hD hS hl
                refine lv_iload hx hb dX12_readFeature_137 (lv_at hl 4 rfl) ?_
                refine lv_bipush (v := 16) hx hb dX12_readFeature_139 (by decide) ?_
                refine lv_icmp_ge (tgt := 179) hx hb dX12_readFeature_141 (by decide) (fun c_3978 => ?_) (fun c_3978 => ?_)
                · have b_3979 := z_fgeT c_3978
                  refine lv_aload_n hx hb dX12_readFeature_179 rfl (lv_at hl 0 rfl) ?_
                  refine va_get (D := G) (ci := 12) (v := .ref a_hasFeels) (C := RX12) (T := TX12) (N := 65) hx hb hts inT12 hown hK hP 5 rfl rfl 57 (by decide) (hts _ tw_1940) (fun _ h9 => h9) rfl dX12_readFeature_180 ?_
                  refine lv_iload_n hx hb dX12_readFeature_183 rfl (lv_at hl 1 rfl) ?_
                  refine lv_iconst (v := 0) hx hb dX12_readFeature_184 (by decide) ?_
                  refine z_zast hx hb hK hP hD hS 0 3 rfl rfl (z_inN (by omega) (by omega)) dX12_readFeature_185 (fun g_3980 hg_g_3980 H locs hP hD hS => ?_)
                  have hC_g_3980 := z_rgZ hC_g_hasFeels hg_g_3980 (Or.inl rfl)
                  refine lv_aload_n hx hb dX12_readFeature_186 rfl (lv_at hl 0 rfl) ?_
                  refine va_get (D := G) (ci := 12) (v := .ref a_c) (C := RX12) (T := TX12) (N := 65) hx hb hts inT12 hown hK hP 5 rfl rfl 20 (by decide) (hts _ tw_1905) (fun _ h9 => h9) rfl dX12_readFeature_187 ?_
                  refine lv_sipush (v := 1460) hx hb dX12_readFeature_190 (by decide) ?_
                  refine lv_dup2_11 hx hb dX12_readFeature_193 rfl rfl ?_
                  refine va_iald hx hb hK hP 2 0 rfl rfl (z_in (i := 1460) (n := 1825) (by decide +kernel) (by decide +kernel)) dX12_readFeature_194 ?_
                  refine lv_topi (fun x_3981 he_x_3981 => ?_)
                  have hr_x_3981 := z_ctk hC_g_3948 he_x_3981 (k := 1460) (lo := 0) (hi := 3) (by decide +kernel) (by decide +kernel) (by decide +kernel)
                  have hv_x_3981 := z_cv he_x_3981 (k := 1460) (by decide +kernel)
                  refine lv_iconst (v := 1) hx hb dX12_readFeature_195 (by decide) ?_
                  refine lv_iadd hx hb dX12_readFeature_196 ?_
                  refine lv_topi (fun x_3982 he_x_3982 => ?_)
                  have hq_x_3982 := z_addq he_x_3982 (rfl : x_3981.toInt = _) hk_1 (by omega) (by omega)
                  refine z_iast hx hb hK hP hD hS 2 0 rfl rfl (z_in (i := 1460) (n := 1825) (by decide +kernel) (by decide +kernel)) dX12_readFeature_197 (fun g_3983 hg_g_3983 H locs hP hD hS => ?_)
                  have hC_g_3983 := z_ctUk hC_g_3948 hg_g_3983 (k := 1460) (lo := 0) (hi := 3) (by decide +kernel) (by decide +kernel) (by decide +kernel) (by omega)
                  have hw_g_3983_1460 := z_cwk hg_g_3983 (k := 1460) (by decide +kernel)
                  have hw_g_3983_1461 := z_cwo hg_g_3983 (k := 1461) (by decide +kernel) (by decide +kernel)
                  have hs_3984 : zNw g_3983 g_isOn := (zNw_fe hs_3969 hg_g_3983 (by decide +kernel) (by omega) (by omega) (by omega) (k := r_3549.toInt) (by omega) (by rw [hs_3971]; omega))
                  have hs_3985 : zNf g_3983 := (zNf_fe hs_3970 hg_g_3983 (by decide +kernel) (by omega) (by omega) (by omega) (k := r_3549.toInt) (n := v_3947.toInt) (by omega) (by omega) hi_3972)
                  have hpost : (0 ≤ n_3565.toInt ∧ n_3565.toInt ≤ 9) ∧ (0 ≤ n_3567.toInt ∧ n_3567.toInt ≤ 4) ∧ (0 ≤ n_3568.toInt ∧ n_3568.toInt ≤ 900) ∧ (0 ≤ n_3569.toInt ∧ n_3569.toInt ≤ 900) ∧ (0 ≤ n_3570.toInt ∧ n_3570.toInt ≤ 9999) ∧ (0 ≤ n_3571.toInt ∧ n_3571.toInt ≤ 900) ∧ (zC g_3983) ∧ (zRg 3 0 1 g_3980) ∧ (zNw g_3983 g_isOn) ∧ (m_behind.toInt ≤ n_3569.toInt) ∧ (0 < m_bad.toInt → 0 < n_3565.toInt) ∧ (n_3565.toInt ≤ 0 → n_3567.toInt = 0 ∨ m_behind.toInt < n_3569.toInt) ∧ (n_3565.toInt ≤ 0 → n_3567.toInt = 3 → n_3570.toInt = 59 → zNf g_3983) := ⟨(by omega), (by omega), (by omega), (by omega), (by omega), (by omega), hC_g_3983, hC_g_3980, hs_3984, (by omega), (by omega), (by omega), (fun _ _ _ => hs_3985)⟩
                  exact hret _ _ _ _ _ (n_3565, n_3566, n_3567, n_3568, n_3569, n_3570, n_3571, n_3572, n_3548, g_3983, g_3980) [5, 4, 2, 3, 0, 1] hP hD hS rfl (by decide) dX12_readFeature_198 hpost
                · have b_3986 := z_fltF c_3978
                  refine lv_aload_n hx hb dX12_readFeature_144 rfl (lv_at hl 0 rfl) ?_
                  refine va_get (D := G) (ci := 12) (v := .ref a_c) (C := RX12) (T := TX12) (N := 65) hx hb hts inT12 hown hK hP 5 rfl rfl 20 (by decide) (hts _ tw_1905) (fun _ h9 => h9) rfl dX12_readFeature_145 ?_
                  refine lv_sipush (v := 1477) hx hb dX12_readFeature_148 (by decide) ?_
                  refine lv_bipush (v := 16) hx hb dX12_readFeature_151 (by decide) ?_
                  refine lv_iload_n hx hb dX12_readFeature_153 rfl (lv_at hl 1 rfl) ?_
                  refine lv_imul hx hb dX12_readFeature_154 ?_
                  refine lv_topi (fun x_3987 he_x_3987 => ?_)
                  have hq_x_3987 := z_mulq he_x_3987 hk_16 (rfl : r_3549.toInt = _) (by omega) (by omega)
                  refine lv_iadd hx hb dX12_readFeature_155 ?_
                  refine lv_topi (fun x_3988 he_x_3988 => ?_)
                  have hq_x_3988 := z_addq he_x_3988 hk_1477 (rfl : x_3987.toInt = _) (by omega) (by omega)
                  refine lv_iload hx hb dX12_readFeature_156 (lv_at hl 4 rfl) ?_
                  refine lv_iadd hx hb dX12_readFeature_158 ?_
                  refine lv_topi (fun x_3989 he_x_3989 => ?_)
                  have hq_x_3989 := z_addq he_x_3989 (rfl : x_3988.toInt = _) (rfl : v_3947.toInt = _) (by omega) (by omega)
                  refine lv_iload hx hb dX12_readFeature_159 (lv_at hl 4 rfl) ?_
                  refine lv_iconst (v := 5) hx hb dX12_readFeature_161 (by decide) ?_
                  refine lv_irem hx hb dX12_readFeature_162 (by decide +kernel) ?_
                  refine lv_topi (fun x_3990 he_x_3990 => ?_)
                  have hq_x_3990 := z_remq he_x_3990 (rfl : v_3947.toInt = _) hk_5 (by omega) (by decide)
                  refine lv_if_ne (tgt := 171) hx hb dX12_readFeature_163 (by decide) (fun c_3991 => ?_) (fun c_3991 => ?_)
                  · have b_3992 := z_fneT c_3991
                    refine lv_iconst (v := 0) hx hb dX12_readFeature_171 (by decide) ?_
                    refine z_iast hx hb hK hP hD hS 2 0 rfl rfl (z_inN (by omega) (by omega)) dX12_readFeature_172 (fun g_3993 hg_g_3993 H locs hP hD hS => ?_)
                    have hC_g_3993 := z_ctU hC_g_3948 hg_g_3993 (a := 1477) (b := 1524) (lo := 0) (hi := 16) (by decide +kernel) (by decide +kernel) (by omega) (by omega) (by decide +kernel)
                    have hw_g_3993_1460 := z_cwo hg_g_3993 (k := 1460) (by omega) (by omega)
                    have hw_g_3993_1461 := z_cwo hg_g_3993 (k := 1461) (by omega) (by omega)
                    have hs_3994 : zNw g_3993 g_isOn := (zNw_fr hs_3969 hg_g_3993 (a := 1477) (b := 1524) (by decide +kernel) (by omega) (by omega))
                    have hs_3995 : zNf g_3993 := (zNf_row hs_3970 hg_g_3993 (by omega) (by omega) (by omega))
                    have hs_3996 : (g_3993 (1471 + r_3549.toInt.toNat)).toInt = r_3573.toInt := (z_updkeep hs_3971 hg_g_3993 (by omega) (by omega))
                    obtain ⟨x_3997, he_x_3997⟩ : ∃ z : Int32, z = v_3947 + 1 := ⟨_, rfl⟩
                    have hq_x_3997 := z_addq he_x_3997 (rfl : v_3947.toInt = _) hk_1 (by omega) (by omega)
                    refine lv_iinc (v := x_3997) (lv' := [(4, .int x_3997), (0, .ref h0), (1, .int r_3549), (2, .int r_3573), (3, .int 0)]) hx hb dX12_readFeature_173 hl (k := 4) rfl ((z_ofi (by decide +kernel)).trans he_x_3997.symm) (by decide) rfl (fun ls hl => ?_)
                    refine lv_goto (tgt := 137) hx hb dX12_readFeature_176 (by decide) ?_
                    exact ih_3977 x_3997 g_3993 H locs ls (by omega) (by omega) hC_g_3993 hs_3994 hs_3995 hs_3996 (by rw [hq_x_3997]; exact zFt_step hi_3972 hg_g_3993 (by omega) (by omega) (by omega) (by omega)) (by omega) (by omega) (by omega) hP hD hS (lv_sub hl [1, 2, 3, 4, 0] rfl)
                  · have b_3998 := z_feqF c_3991
                    refine lv_bipush (v := 16) hx hb dX12_readFeature_166 (by decide) ?_
                    refine lv_goto (tgt := 172) hx hb dX12_readFeature_168 (by decide) ?_
                    refine z_iast hx hb hK hP hD hS 2 0 rfl rfl (z_inN (by omega) (by omega)) dX12_readFeature_172 (fun g_3999 hg_g_3999 H locs hP hD hS => ?_)
                    have hC_g_3999 := z_ctU hC_g_3948 hg_g_3999 (a := 1477) (b := 1524) (lo := 0) (hi := 16) (by decide +kernel) (by decide +kernel) (by omega) (by omega) (by decide +kernel)
                    have hw_g_3999_1460 := z_cwo hg_g_3999 (k := 1460) (by omega) (by omega)
                    have hw_g_3999_1461 := z_cwo hg_g_3999 (k := 1461) (by omega) (by omega)
                    have hs_4000 : zNw g_3999 g_isOn := (zNw_fr hs_3969 hg_g_3999 (a := 1477) (b := 1524) (by decide +kernel) (by omega) (by omega))
                    have hs_4001 : zNf g_3999 := (zNf_row hs_3970 hg_g_3999 (by omega) (by omega) (by omega))
                    have hs_4002 : (g_3999 (1471 + r_3549.toInt.toNat)).toInt = r_3573.toInt := (z_updkeep hs_3971 hg_g_3999 (by omega) (by omega))
                    obtain ⟨x_4003, he_x_4003⟩ : ∃ z : Int32, z = v_3947 + 1 := ⟨_, rfl⟩
                    have hq_x_4003 := z_addq he_x_4003 (rfl : v_3947.toInt = _) hk_1 (by omega) (by omega)
                    refine lv_iinc (v := x_4003) (lv' := [(4, .int x_4003), (0, .ref h0), (1, .int r_3549), (2, .int r_3573), (3, .int 0)]) hx hb dX12_readFeature_173 hl (k := 4) rfl ((z_ofi (by decide +kernel)).trans he_x_4003.symm) (by decide) rfl (fun ls hl => ?_)
                    refine lv_goto (tgt := 137) hx hb dX12_readFeature_176 (by decide) ?_
                    exact ih_3977 x_4003 g_3999 H locs ls (by omega) (by omega) hC_g_3999 hs_4000 hs_4001 hs_4002 (by rw [hq_x_4003]; exact zFt_step hi_3972 hg_g_3999 (by omega) (by omega) (by omega) (by omega)) (by omega) (by omega) (by omega) hP hD hS (lv_sub hl [1, 2, 3, 4, 0] rfl)
            exact hlp_3976 _ 0 g_3599 _ _ _ (Nat.lt_succ_self _) (by decide +kernel) hC_g_3599 hs_3600 hs_3601 hs_3602 zFt_0 (by omega) (by omega) (by omega) hP hD hS (lv_sub hl [4, 3, 2, 1, 0] rfl)
          · have b_4004 := z_feqF c_3589
            refine lv_iconst (v := 1) hx hb dX12_readFeature_82 (by decide) ?_
            refine lv_goto (tgt := 87) hx hb dX12_readFeature_83 (by decide) ?_
            refine lv_istore_n (lv' := [(3, .int 1), (2, .int r_3573), (1, .int r_3549), (0, .ref h0)]) hx hb dX12_readFeature_87 rfl hl (by decide) rfl (fun ls hl => ?_)
            refine lv_iload_n hx hb dX12_readFeature_88 rfl (lv_at hl 0 rfl) ?_
            refine lv_if_eq (tgt := 96) hx hb dX12_readFeature_89 (by decide) (fun h9 => absurd h9 (by decide +kernel)) (fun _ => ?_)
            refine lv_aload_n hx hb dX12_readFeature_92 rfl (lv_at hl 3 rfl) ?_
            refine z_callVv (As := []) (rest := []) (wr := [(a_hasFeels, .inl (cA.1 3, 3, .inl g_hasFeels)), (a_isOn, .inl (cA.1 3, 10, .inl g_isOn)), (a_c, .inl (cA.1 0, 1825, .inl g_c)), (a_words, .inl (cA.1 1, 105, .inr (.inl n_3548)))]) ⟨hx, hb, hml, hown, hts⟩ hK hE hT hP hD hS hA (r_next2 l G cA h0 m_status m_thrown m_above m_under a_traySort a_trayMany a_numbers a_tape m_taped m_textEnd m_faultKind m_faultAt n_3565 n_3566 n_3567 n_3568 n_3569 n_3570 n_3571 n_3572 a_c a_words m_markMany a_there a_tried a_best a_found m_thereMany m_foundMany m_orderHow m_orderRing m_orderMany m_hasBest m_bestTop m_bestBy a_weights a_shared m_random m_truePlace m_trueWay m_seconds m_done m_feelings m_tries m_leftOver m_playDoor m_playRing m_isOpen m_isOver m_wasTried m_hasPlayed a_feltNow a_last a_kept m_hasSeconds m_hasTurned m_hasRound a_hasFeels a_isOn m_firstAct m_meanTop m_meanBy a_order m_rowMany m_newSteps g_tape (by omega) (by omega) (by omega) (by omega) (by omega) (by omega)) lk_RX12_184 ⟨rfl, rfl⟩ ⟨Nat.le_of_ble_eq_true rfl, Nat.le_of_ble_eq_true rfl⟩ 12 rfl rfl rfl [5, 4] [0, 1, 2, 3] rfl rfl (by decide) rfl hl.1 rfl (lv_room (Nat.le_of_ble_eq_true rfl)) dX12_readFeature_93 ⟨Nat.le_of_ble_eq_true rfl, Nat.le_of_ble_eq_true rfl⟩ (fun u_4012 H locs hw hP hD hS => ?_)
            obtain ⟨n_4005, n_4006, n_4007, n_4008, n_4009, n_4010⟩ := u_4012
            try dsimp only at hw
            obtain ⟨hr_n_4005, hr_n_4006, hr_n_4007, hr_n_4008, hr_n_4009, hf_4013, hf_4014⟩ := hw
            refine lv_aload_n hx hb dX12_readFeature_96 rfl (lv_at hl 3 rfl) ?_
            refine va_get (D := G) (ci := 12) (v := .int n_3565) (C := RX12) (T := TX12) (N := 65) hx hb hts inT12 hown hK hP 4 rfl rfl 12 (by decide) (hts _ tw_1897) (fun _ h9 => h9) rfl dX12_readFeature_97 ?_
            refine lv_if_le (tgt := 104) hx hb dX12_readFeature_100 (by decide) (fun c_4015 => ?_) (fun h9 => (z_no (by have h8 := z_fgtF h9; omega)))
            have b_4016 := z_fleT c_4015
            refine lv_aload_n hx hb dX12_readFeature_104 rfl (lv_at hl 3 rfl) ?_
            refine va_get (D := G) (ci := 12) (v := .ref a_c) (C := RX12) (T := TX12) (N := 65) hx hb hts inT12 hown hK hP 4 rfl rfl 20 (by decide) (hts _ tw_1905) (fun _ h9 => h9) rfl dX12_readFeature_105 ?_
            refine lv_sipush (v := 1471) hx hb dX12_readFeature_108 (by decide) ?_
            refine lv_iload_n hx hb dX12_readFeature_111 rfl (lv_at hl 2 rfl) ?_
            refine lv_iadd hx hb dX12_readFeature_112 ?_
            refine lv_topi (fun x_4017 he_x_4017 => ?_)
            have hq_x_4017 := z_addq he_x_4017 hk_1471 (rfl : r_3549.toInt = _) (by omega) (by omega)
            refine lv_iload_n hx hb dX12_readFeature_113 rfl (lv_at hl 1 rfl) ?_
            refine z_iast hx hb hK hP hD hS 2 0 rfl rfl (z_inN (by omega) (by omega)) dX12_readFeature_114 (fun g_4018 hg_g_4018 H locs hP hD hS => ?_)
            have hC_g_4018 := z_ctU hC_g_c hg_g_4018 (a := 1471) (b := 1473) (lo := 0) (hi := 4) (by decide +kernel) (by decide +kernel) (by omega) (by omega) (by omega)
            have hw_g_4018_1460 := z_cwo hg_g_4018 (k := 1460) (by omega) (by omega)
            have hw_g_4018_1461 := z_cwo hg_g_4018 (k := 1461) (by omega) (by omega)
            have hs_4019 : zNw g_4018 g_isOn := (zNw_st hNW0 hg_g_4018 (by omega) (by omega) (by omega))
            have hs_4020 : zNf g_4018 := (zNf_fr hNF0 hg_g_4018 (a := 1471) (b := 1473) (by decide +kernel) (by omega) (by omega))
            have hs_4021 : (g_4018 (1471 + r_3549.toInt.toNat)).toInt = r_3573.toInt := (z_updself hg_g_4018 (by omega))
            refine lv_aload_n hx hb dX12_readFeature_115 rfl (lv_at hl 3 rfl) ?_
            refine va_get (D := G) (ci := 12) (v := .ref a_c) (C := RX12) (T := TX12) (N := 65) hx hb hts inT12 hown hK hP 4 rfl rfl 20 (by decide) (hts _ tw_1905) (fun _ h9 => h9) rfl dX12_readFeature_116 ?_
            refine lv_sipush (v := 1474) hx hb dX12_readFeature_119 (by decide) ?_
            refine lv_iload_n hx hb dX12_readFeature_122 rfl (lv_at hl 2 rfl) ?_
            refine lv_iadd hx hb dX12_readFeature_123 ?_
            refine lv_topi (fun x_4022 he_x_4022 => ?_)
            have hq_x_4022 := z_addq he_x_4022 hk_1474 (rfl : r_3549.toInt = _) (by omega) (by omega)
            refine lv_iload_n hx hb dX12_readFeature_124 rfl (lv_at hl 0 rfl) ?_
            refine lv_if_eq (tgt := 132) hx hb dX12_readFeature_125 (by decide) (fun h9 => absurd h9 (by decide +kernel)) (fun _ => ?_)
            refine lv_iconst (v := 1) hx hb dX12_readFeature_128 (by decide) ?_
            refine lv_goto (tgt := 133) hx hb dX12_readFeature_129 (by decide) ?_
            refine z_iast hx hb hK hP hD hS 2 0 rfl rfl (z_inN (by omega) (by omega)) dX12_readFeature_133 (fun g_4023 hg_g_4023 H locs hP hD hS => ?_)
            have hC_g_4023 := z_ctU hC_g_4018 hg_g_4023 (a := 1474) (b := 1476) (lo := (-2147483648)) (hi := 2147483647) (by decide +kernel) (by decide +kernel) (by omega) (by omega) (z_full _)
            have hw_g_4023_1460 := z_cwo hg_g_4023 (k := 1460) (by omega) (by omega)
            have hw_g_4023_1461 := z_cwo hg_g_4023 (k := 1461) (by omega) (by omega)
            have hs_4024 : zNw g_4023 g_isOn := (zNw_fr hs_4019 hg_g_4023 (a := 1474) (b := 1476) (by decide +kernel) (by omega) (by omega))
            have hs_4025 : zNf g_4023 := (zNf_fr hs_4020 hg_g_4023 (a := 1474) (b := 1476) (by decide +kernel) (by omega) (by omega))
            have hs_4026 : (g_4023 (1471 + r_3549.toInt.toNat)).toInt = r_3573.toInt := (z_updkeep hs_4021 hg_g_4023 (by omega) (by omega))
            refine lv_iconst (v := 0) hx hb dX12_readFeature_134 (by decide) ?_
            refine lv_istore (lv' := [(4, .int 0), (3, .int 1), (2, .int r_3573), (1, .int r_3549), (0, .ref h0)]) hx hb dX12_readFeature_135 hl (by decide) rfl (fun ls hl => ?_)
            have hlp_4400 : ∀ (n : Nat) (v_4371 : Int32) (g_4372 : Nat → Int32) (H : Heap) (locs : List Loc) (ls : Array Slot), (2147483647 - v_4371.toInt).toNat < n → (0 ≤ v_4371.toInt ∧ v_4371.toInt ≤ 16) → (zC g_4372) → (zNw g_4372 g_isOn) → (zNf g_4372) → ((g_4372 (1471 + r_3549.toInt.toNat)).toInt = r_3573.toInt) → (zFt g_4372 r_3549.toInt v_4371.toInt) → ((g_4372 1460).toInt = r_3549.toInt) → (m_behind.toInt ≤ n_4007.toInt) → (n_3565.toInt ≤ 0 → n_4005.toInt = 0 ∨ m_behind.toInt < n_4007.toInt) → va_P G vwCl [(a_hasFeels, .inl (cA.1 3, 3, .inl g_hasFeels)), (a_isOn, .inl (cA.1 3, 10, .inl g_isOn)), (a_c, .inl (cA.1 0, 1825, .inl g_4372)), (a_words, .inl (cA.1 1, 105, .inr (.inl n_3548))), (h0, .inr (12, [.int m_status, .int m_thrown, .long m_above, .long m_under, .ref a_traySort, .ref a_trayMany, .ref a_numbers, .ref a_tape, .int m_taped, .int m_textEnd, .int m_faultKind, .int m_faultAt, .int n_3565, .int n_3566, .int n_4005, .int n_4006, .int n_4007, .int n_4008, .int n_4009, .long n_4010, .ref a_c, .ref a_words, .int m_markMany, .ref a_there, .ref a_tried, .ref a_best, .ref a_found, .int m_thereMany, .int m_foundMany, .int m_orderHow, .int m_orderRing, .int m_orderMany, .int m_hasBest, .long m_bestTop, .long m_bestBy, .ref a_weights, .ref a_shared, .int m_random, .int m_truePlace, .int m_trueWay, .int m_seconds, .int m_done, .int m_feelings, .int m_tries, .int m_leftOver, .int m_playDoor, .int m_playRing, .int m_isOpen, .int m_isOver, .int m_wasTried, .int m_hasPlayed, .ref a_feltNow, .ref a_last, .ref a_kept, .int m_hasSeconds, .int m_hasTurned, .int m_hasRound, .ref a_hasFeels, .ref a_isOn, .int m_firstAct, .long m_meanTop, .long m_meanBy, .ref a_order, .int m_rowMany, .int m_newSteps])), (a_tape, .inl (cA.1 2, 900, .inl g_tape))] H → va_D A [(a_hasFeels, .inl (cA.1 3, 3, .inl g_hasFeels)), (a_isOn, .inl (cA.1 3, 10, .inl g_isOn)), (a_c, .inl (cA.1 0, 1825, .inl g_4372)), (a_words, .inl (cA.1 1, 105, .inr (.inl n_3548))), (h0, .inr (12, [.int m_status, .int m_thrown, .long m_above, .long m_under, .ref a_traySort, .ref a_trayMany, .ref a_numbers, .ref a_tape, .int m_taped, .int m_textEnd, .int m_faultKind, .int m_faultAt, .int n_3565, .int n_3566, .int n_4005, .int n_4006, .int n_4007, .int n_4008, .int n_4009, .long n_4010, .ref a_c, .ref a_words, .int m_markMany, .ref a_there, .ref a_tried, .ref a_best, .ref a_found, .int m_thereMany, .int m_foundMany, .int m_orderHow, .int m_orderRing, .int m_orderMany, .int m_hasBest, .long m_bestTop, .long m_bestBy, .ref a_weights, .ref a_shared, .int m_random, .int m_truePlace, .int m_trueWay, .int m_seconds, .int m_done, .int m_feelings, .int m_tries, .int m_leftOver, .int m_playDoor, .int m_playRing, .int m_isOpen, .int m_isOver, .int m_wasTried, .int m_hasPlayed, .ref a_feltNow, .ref a_last, .ref a_kept, .int m_hasSeconds, .int m_hasTurned, .int m_hasRound, .ref a_hasFeels, .ref a_isOn, .int m_firstAct, .long m_meanTop, .long m_meanBy, .ref a_order, .int m_rowMany, .int m_newSteps])), (a_tape, .inl (cA.1 2, 900, .inl g_tape))] → va_S A s.heap H locs → lv_has ls 5 [(0, .ref h0), (1, .int r_3549), (2, .int r_3573), (3, .int 1), (4, .int v_4371)] → W p l e ({ frames := 4, cells := 0, slots := 0, locals := 91 }) s m args below meth c H locs 0 0 Q (F0 m 137 ls []) := by
              intro n
              induction n with
              | zero =>
                intro v_4371 g_4372 H locs ls hmu_hlp_4400 hr_v_4371 hC_g_4372 hs_4393 hs_4394 hs_4395 hi_4396 hi_4397 hi_4398 hi_4399 hP hD hS hl
                exact absurd hmu_hlp_4400 (Nat.not_lt_zero _)
              | succ n ih_4401 =>
                intro v_4371 g_4372 H locs ls hmu_hlp_4400 hr_v_4371 hC_g_4372 hs_4393 hs_4394 hs_4395 hi_4396 hi_4397 hi_4398 hi_4399 hP hD hS hl
                refine lv_iload hx hb dX12_readFeature_137 (lv_at hl 4 rfl) ?_
                refine lv_bipush (v := 16) hx hb dX12_readFeature_139 (by decide) ?_
                refine lv_icmp_ge (tgt := 179) hx hb dX12_readFeature_141 (by decide) (fun c_4402 => ?_) (fun c_4402 => ?_)
                · have b_4403 := z_fgeT c_4402
                  refine lv_aload_n hx hb dX12_readFeature_179 rfl (lv_at hl 0 rfl) ?_
                  refine va_get (D := G) (ci := 12) (v := .ref a_hasFeels) (C := RX12) (T := TX12) (N := 65) hx hb hts inT12 hown hK hP 4 rfl rfl 57 (by decide) (hts _ tw_1940) (fun _ h9 => h9) rfl dX12_readFeature_180 ?_
                  refine lv_iload_n hx hb dX12_readFeature_183 rfl (lv_at hl 1 rfl) ?_
                  refine lv_iconst (v := 0) hx hb dX12_readFeature_184 (by decide) ?_
                  refine z_zast hx hb hK hP hD hS 0 3 rfl rfl (z_inN (by omega) (by omega)) dX12_readFeature_185 (fun g_4404 hg_g_4404 H locs hP hD hS => ?_)
                  have hC_g_4404 := z_rgZ hC_g_hasFeels hg_g_4404 (Or.inl rfl)
                  refine lv_aload_n hx hb dX12_readFeature_186 rfl (lv_at hl 0 rfl) ?_
                  refine va_get (D := G) (ci := 12) (v := .ref a_c) (C := RX12) (T := TX12) (N := 65) hx hb hts inT12 hown hK hP 4 rfl rfl 20 (by decide) (hts _ tw_1905) (fun _ h9 => h9) rfl dX12_readFeature_187 ?_
                  refine lv_sipush (v := 1460) hx hb dX12_readFeature_190 (by decide) ?_
                  refine lv_dup2_11 hx hb dX12_readFeature_193 rfl rfl ?_
                  refine va_iald hx hb hK hP 2 0 rfl rfl (z_in (i := 1460) (n := 1825) (by decide +kernel) (by decide +kernel)) dX12_readFeature_194 ?_
                  refine lv_topi (fun x_4405 he_x_4405 => ?_)
                  have hr_x_4405 := z_ctk hC_g_4372 he_x_4405 (k := 1460) (lo := 0) (hi := 3) (by decide +kernel) (by decide +kernel) (by decide +kernel)
                  have hv_x_4405 := z_cv he_x_4405 (k := 1460) (by decide +kernel)
                  refine lv_iconst (v := 1) hx hb dX12_readFeature_195 (by decide) ?_
                  refine lv_iadd hx hb dX12_readFeature_196 ?_
                  refine lv_topi (fun x_4406 he_x_4406 => ?_)
                  have hq_x_4406 := z_addq he_x_4406 (rfl : x_4405.toInt = _) hk_1 (by omega) (by omega)
                  refine z_iast hx hb hK hP hD hS 2 0 rfl rfl (z_in (i := 1460) (n := 1825) (by decide +kernel) (by decide +kernel)) dX12_readFeature_197 (fun g_4407 hg_g_4407 H locs hP hD hS => ?_)
                  have hC_g_4407 := z_ctUk hC_g_4372 hg_g_4407 (k := 1460) (lo := 0) (hi := 3) (by decide +kernel) (by decide +kernel) (by decide +kernel) (by omega)
                  have hw_g_4407_1460 := z_cwk hg_g_4407 (k := 1460) (by decide +kernel)
                  have hw_g_4407_1461 := z_cwo hg_g_4407 (k := 1461) (by decide +kernel) (by decide +kernel)
                  have hs_4408 : zNw g_4407 g_isOn := (zNw_fe hs_4393 hg_g_4407 (by decide +kernel) (by omega) (by omega) (by omega) (k := r_3549.toInt) (by omega) (by rw [hs_4395]; omega))
                  have hs_4409 : zNf g_4407 := (zNf_fe hs_4394 hg_g_4407 (by decide +kernel) (by omega) (by omega) (by omega) (k := r_3549.toInt) (n := v_4371.toInt) (by omega) (by omega) hi_4396)
                  have hpost : (0 ≤ n_3565.toInt ∧ n_3565.toInt ≤ 9) ∧ (0 ≤ n_4005.toInt ∧ n_4005.toInt ≤ 4) ∧ (0 ≤ n_4006.toInt ∧ n_4006.toInt ≤ 900) ∧ (0 ≤ n_4007.toInt ∧ n_4007.toInt ≤ 900) ∧ (0 ≤ n_4008.toInt ∧ n_4008.toInt ≤ 9999) ∧ (0 ≤ n_4009.toInt ∧ n_4009.toInt ≤ 900) ∧ (zC g_4407) ∧ (zRg 3 0 1 g_4404) ∧ (zNw g_4407 g_isOn) ∧ (m_behind.toInt ≤ n_4007.toInt) ∧ (0 < m_bad.toInt → 0 < n_3565.toInt) ∧ (n_3565.toInt ≤ 0 → n_4005.toInt = 0 ∨ m_behind.toInt < n_4007.toInt) ∧ (n_3565.toInt ≤ 0 → n_4005.toInt = 3 → n_4008.toInt = 59 → zNf g_4407) := ⟨(by omega), (by omega), (by omega), (by omega), (by omega), (by omega), hC_g_4407, hC_g_4404, hs_4408, (by omega), (by omega), (by omega), (fun _ _ _ => hs_4409)⟩
                  exact hret _ _ _ _ _ (n_3565, n_3566, n_4005, n_4006, n_4007, n_4008, n_4009, n_4010, n_3548, g_4407, g_4404) [4, 5, 2, 3, 0, 1] hP hD hS rfl (by decide) dX12_readFeature_198 hpost
                · have b_4410 := z_fltF c_4402
                  refine lv_aload_n hx hb dX12_readFeature_144 rfl (lv_at hl 0 rfl) ?_
                  refine va_get (D := G) (ci := 12) (v := .ref a_c) (C := RX12) (T := TX12) (N := 65) hx hb hts inT12 hown hK hP 4 rfl rfl 20 (by decide) (hts _ tw_1905) (fun _ h9 => h9) rfl dX12_readFeature_145 ?_
                  refine lv_sipush (v := 1477) hx hb dX12_readFeature_148 (by decide) ?_
                  refine lv_bipush (v := 16) hx hb dX12_readFeature_151 (by decide) ?_
                  refine lv_iload_n hx hb dX12_readFeature_153 rfl (lv_at hl 1 rfl) ?_
                  refine lv_imul hx hb dX12_readFeature_154 ?_
                  refine lv_topi (fun x_4411 he_x_4411 => ?_)
                  have hq_x_4411 := z_mulq he_x_4411 hk_16 (rfl : r_3549.toInt = _) (by omega) (by omega)
                  refine lv_iadd hx hb dX12_readFeature_155 ?_
                  refine lv_topi (fun x_4412 he_x_4412 => ?_)
                  have hq_x_4412 := z_addq he_x_4412 hk_1477 (rfl : x_4411.toInt = _) (by omega) (by omega)
                  refine lv_iload hx hb dX12_readFeature_156 (lv_at hl 4 rfl) ?_
                  refine lv_iadd hx hb dX12_readFeature_158 ?_
                  refine lv_topi (fun x_4413 he_x_4413 => ?_)
                  have hq_x_4413 := z_addq he_x_4413 (rfl : x_4412.toInt = _) (rfl : v_4371.toInt = _) (by omega) (by omega)
                  refine lv_iload hx hb dX12_readFeature_159 (lv_at hl 4 rfl) ?_
                  refine lv_iconst (v := 5) hx hb dX12_readFeature_161 (by decide) ?_
                  refine lv_irem hx hb dX12_readFeature_162 (by decide +kernel) ?_
                  refine lv_topi (fun x_4414 he_x_4414 => ?_)
                  have hq_x_4414 := z_remq he_x_4414 (rfl : v_4371.toInt = _) hk_5 (by omega) (by decide)
                  refine lv_if_ne (tgt := 171) hx hb dX12_readFeature_163 (by decide) (fun c_4415 => ?_) (fun c_4415 => ?_)
                  · have b_4416 := z_fneT c_4415
                    refine lv_iconst (v := 0) hx hb dX12_readFeature_171 (by decide) ?_
                    refine z_iast hx hb hK hP hD hS 2 0 rfl rfl (z_inN (by omega) (by omega)) dX12_readFeature_172 (fun g_4417 hg_g_4417 H locs hP hD hS => ?_)
                    have hC_g_4417 := z_ctU hC_g_4372 hg_g_4417 (a := 1477) (b := 1524) (lo := 0) (hi := 16) (by decide +kernel) (by decide +kernel) (by omega) (by omega) (by decide +kernel)
                    have hw_g_4417_1460 := z_cwo hg_g_4417 (k := 1460) (by omega) (by omega)
                    have hw_g_4417_1461 := z_cwo hg_g_4417 (k := 1461) (by omega) (by omega)
                    have hs_4418 : zNw g_4417 g_isOn := (zNw_fr hs_4393 hg_g_4417 (a := 1477) (b := 1524) (by decide +kernel) (by omega) (by omega))
                    have hs_4419 : zNf g_4417 := (zNf_row hs_4394 hg_g_4417 (by omega) (by omega) (by omega))
                    have hs_4420 : (g_4417 (1471 + r_3549.toInt.toNat)).toInt = r_3573.toInt := (z_updkeep hs_4395 hg_g_4417 (by omega) (by omega))
                    obtain ⟨x_4421, he_x_4421⟩ : ∃ z : Int32, z = v_4371 + 1 := ⟨_, rfl⟩
                    have hq_x_4421 := z_addq he_x_4421 (rfl : v_4371.toInt = _) hk_1 (by omega) (by omega)
                    refine lv_iinc (v := x_4421) (lv' := [(4, .int x_4421), (0, .ref h0), (1, .int r_3549), (2, .int r_3573), (3, .int 1)]) hx hb dX12_readFeature_173 hl (k := 4) rfl ((z_ofi (by decide +kernel)).trans he_x_4421.symm) (by decide) rfl (fun ls hl => ?_)
                    refine lv_goto (tgt := 137) hx hb dX12_readFeature_176 (by decide) ?_
                    exact ih_4401 x_4421 g_4417 H locs ls (by omega) (by omega) hC_g_4417 hs_4418 hs_4419 hs_4420 (by rw [hq_x_4421]; exact zFt_step hi_4396 hg_g_4417 (by omega) (by omega) (by omega) (by omega)) (by omega) (by omega) (by omega) hP hD hS (lv_sub hl [1, 2, 3, 4, 0] rfl)
                  · have b_4422 := z_feqF c_4415
                    refine lv_bipush (v := 16) hx hb dX12_readFeature_166 (by decide) ?_
                    refine lv_goto (tgt := 172) hx hb dX12_readFeature_168 (by decide) ?_
                    refine z_iast hx hb hK hP hD hS 2 0 rfl rfl (z_inN (by omega) (by omega)) dX12_readFeature_172 (fun g_4423 hg_g_4423 H locs hP hD hS => ?_)
                    have hC_g_4423 := z_ctU hC_g_4372 hg_g_4423 (a := 1477) (b := 1524) (lo := 0) (hi := 16) (by decide +kernel) (by decide +kernel) (by omega) (by omega) (by decide +kernel)
                    have hw_g_4423_1460 := z_cwo hg_g_4423 (k := 1460) (by omega) (by omega)
                    have hw_g_4423_1461 := z_cwo hg_g_4423 (k := 1461) (by omega) (by omega)
                    have hs_4424 : zNw g_4423 g_isOn := (zNw_fr hs_4393 hg_g_4423 (a := 1477) (b := 1524) (by decide +kernel) (by omega) (by omega))
                    have hs_4425 : zNf g_4423 := (zNf_row hs_4394 hg_g_4423 (by omega) (by omega) (by omega))
                    have hs_4426 : (g_4423 (1471 + r_3549.toInt.toNat)).toInt = r_3573.toInt := (z_updkeep hs_4395 hg_g_4423 (by omega) (by omega))
                    obtain ⟨x_4427, he_x_4427⟩ : ∃ z : Int32, z = v_4371 + 1 := ⟨_, rfl⟩
                    have hq_x_4427 := z_addq he_x_4427 (rfl : v_4371.toInt = _) hk_1 (by omega) (by omega)
                    refine lv_iinc (v := x_4427) (lv' := [(4, .int x_4427), (0, .ref h0), (1, .int r_3549), (2, .int r_3573), (3, .int 1)]) hx hb dX12_readFeature_173 hl (k := 4) rfl ((z_ofi (by decide +kernel)).trans he_x_4427.symm) (by decide) rfl (fun ls hl => ?_)
                    refine lv_goto (tgt := 137) hx hb dX12_readFeature_176 (by decide) ?_
                    exact ih_4401 x_4427 g_4423 H locs ls (by omega) (by omega) hC_g_4423 hs_4424 hs_4425 hs_4426 (by rw [hq_x_4427]; exact zFt_step hi_4396 hg_g_4423 (by omega) (by omega) (by omega) (by omega)) (by omega) (by omega) (by omega) hP hD hS (lv_sub hl [1, 2, 3, 4, 0] rfl)
            exact hlp_4400 _ 0 g_4023 _ _ _ (Nat.lt_succ_self _) (by decide +kernel) hC_g_4023 hs_4024 hs_4025 hs_4026 zFt_0 (by omega) (by omega) (by omega) hP hD hS (lv_sub hl [4, 3, 2, 1, 0] rfl)
      · have b_4428 := z_feqF c_3559
        refine lv_iconst (v := 1) hx hb dX12_readFeature_51 (by decide) ?_
        refine lv_goto (tgt := 56) hx hb dX12_readFeature_52 (by decide) ?_
        refine z_callVv (As := [.int 1]) (rest := []) (wr := [(a_hasFeels, .inl (cA.1 3, 3, .inl g_hasFeels)), (a_isOn, .inl (cA.1 3, 10, .inl g_isOn)), (a_c, .inl (cA.1 0, 1825, .inl g_c)), (a_words, .inl (cA.1 1, 105, .inr (.inl n_3548)))]) ⟨hx, hb, hml, hown, hts⟩ hK hE hT hP hD hS hA (r_must_1 l G cA h0 m_status m_thrown m_above m_under a_traySort a_trayMany a_numbers a_tape m_taped m_textEnd m_faultKind m_faultAt n_3540 n_3541 n_3542 n_3543 n_3544 n_3545 n_3546 n_3547 a_c a_words m_markMany a_there a_tried a_best a_found m_thereMany m_foundMany m_orderHow m_orderRing m_orderMany m_hasBest m_bestTop m_bestBy a_weights a_shared m_random m_truePlace m_trueWay m_seconds m_done m_feelings m_tries m_leftOver m_playDoor m_playRing m_isOpen m_isOver m_wasTried m_hasPlayed a_feltNow a_last a_kept m_hasSeconds m_hasTurned m_hasRound a_hasFeels a_isOn m_firstAct m_meanTop m_meanBy a_order m_rowMany m_newSteps g_tape (by omega) (by omega) (by omega) (by omega) (by omega) (by omega) (by omega)) lk_RX12_210 ⟨rfl, rfl⟩ ⟨Nat.le_of_ble_eq_true rfl, Nat.le_of_ble_eq_true rfl⟩ 12 rfl rfl rfl [5, 2] [0, 1, 3, 4] rfl rfl (by decide) rfl hl.1 rfl (lv_room (Nat.le_of_ble_eq_true rfl)) dX12_readFeature_56 ⟨Nat.le_of_ble_eq_true rfl, Nat.le_of_ble_eq_true rfl⟩ (fun u_4436 H locs hw hP hD hS => ?_)
        obtain ⟨n_4429, n_4430, n_4431, n_4432, n_4433, n_4434⟩ := u_4436
        try dsimp only at hw
        obtain ⟨hr_n_4429, hr_n_4430, hr_n_4431, hr_n_4432, hr_n_4433, hf_4437, hf_4438, hf_4439⟩ := hw
        refine lv_aload_n hx hb dX12_readFeature_59 rfl (lv_at hl 1 rfl) ?_
        refine lv_iconst (v := 2) hx hb dX12_readFeature_60 (by decide) ?_
        refine lv_iconst (v := 4) hx hb dX12_readFeature_61 (by decide) ?_
        refine z_callVi (As := [.int 2, .int 4]) (rest := []) (wr := [(a_hasFeels, .inl (cA.1 3, 3, .inl g_hasFeels)), (a_isOn, .inl (cA.1 3, 10, .inl g_isOn)), (a_c, .inl (cA.1 0, 1825, .inl g_c)), (a_words, .inl (cA.1 1, 105, .inr (.inl n_3548)))]) ⟨hx, hb, hml, hown, hts⟩ hK hE hT hP hD hS hA (r_count l G cA h0 m_status m_thrown m_above m_under a_traySort a_trayMany a_numbers a_tape m_taped m_textEnd m_faultKind m_faultAt n_3540 n_3541 n_4429 n_4430 n_4431 n_4432 n_4433 n_4434 a_c a_words m_markMany a_there a_tried a_best a_found m_thereMany m_foundMany m_orderHow m_orderRing m_orderMany m_hasBest m_bestTop m_bestBy a_weights a_shared m_random m_truePlace m_trueWay m_seconds m_done m_feelings m_tries m_leftOver m_playDoor m_playRing m_isOpen m_isOver m_wasTried m_hasPlayed a_feltNow a_last a_kept m_hasSeconds m_hasTurned m_hasRound a_hasFeels a_isOn m_firstAct m_meanTop m_meanBy a_order m_rowMany m_newSteps g_tape 2 4 (by decide +kernel) (by decide +kernel) (by omega) (by omega) (by omega) (by omega) (by omega) (by omega) (by omega)) lk_RX12_214 ⟨rfl, rfl⟩ ⟨Nat.le_of_ble_eq_true rfl, Nat.le_of_ble_eq_true rfl⟩ 12 rfl rfl rfl [4, 5] [0, 1, 2, 3] rfl rfl (by decide) rfl hl.1 rfl (lv_room (Nat.le_of_ble_eq_true rfl)) dX12_readFeature_62 ⟨Nat.le_of_ble_eq_true rfl, Nat.le_of_ble_eq_true rfl⟩ (fun r_4448 u_4449 H locs hw hP hD hS => ?_)
        obtain ⟨n_4440, n_4441, n_4442, n_4443, n_4444, n_4445, n_4446, n_4447⟩ := u_4449
        try dsimp only at hw
        obtain ⟨hr_r_4448, hr_n_4440, hr_n_4442, hr_n_4443, hr_n_4444, hr_n_4445, hr_n_4446, hf_4450, hf_4451, hf_4452, hf_4453, hf_4454, hf_4455⟩ := hw
        refine lv_istore_n (lv' := [(2, .int r_4448), (1, .int r_3549), (0, .ref h0)]) hx hb dX12_readFeature_65 rfl hl (by decide) rfl (fun ls hl => ?_)
        refine lv_aload_n hx hb dX12_readFeature_66 rfl (lv_at hl 2 rfl) ?_
        refine va_get (D := G) (ci := 12) (v := .int n_4440) (C := RX12) (T := TX12) (N := 65) hx hb hts inT12 hown hK hP 4 rfl rfl 12 (by decide) (hts _ tw_1897) (fun _ h9 => h9) rfl dX12_readFeature_67 ?_
        refine lv_if_ne (tgt := 86) hx hb dX12_readFeature_70 (by decide) (fun c_4456 => ?_) (fun c_4456 => ?_)
        · have b_4457 := z_fneT c_4456
          refine lv_iconst (v := 0) hx hb dX12_readFeature_86 (by decide) ?_
          refine lv_istore_n (lv' := [(3, .int 0), (2, .int r_4448), (1, .int r_3549), (0, .ref h0)]) hx hb dX12_readFeature_87 rfl hl (by decide) rfl (fun ls hl => ?_)
          refine lv_iload_n hx hb dX12_readFeature_88 rfl (lv_at hl 0 rfl) ?_
          refine lv_if_eq (tgt := 96) hx hb dX12_readFeature_89 (by decide) (fun _ => ?_) (fun h9 => absurd (by decide +kernel) h9)
          refine lv_aload_n hx hb dX12_readFeature_96 rfl (lv_at hl 3 rfl) ?_
          refine va_get (D := G) (ci := 12) (v := .int n_4440) (C := RX12) (T := TX12) (N := 65) hx hb hts inT12 hown hK hP 4 rfl rfl 12 (by decide) (hts _ tw_1897) (fun _ h9 => h9) rfl dX12_readFeature_97 ?_
          refine lv_if_le (tgt := 104) hx hb dX12_readFeature_100 (by decide) (fun h9 => (z_no (by have h8 := z_fleT h9; omega))) (fun c_4458 => ?_)
          have b_4459 := z_fgtF c_4458
          have hpost : (0 ≤ n_4440.toInt ∧ n_4440.toInt ≤ 9) ∧ (0 ≤ n_4442.toInt ∧ n_4442.toInt ≤ 4) ∧ (0 ≤ n_4443.toInt ∧ n_4443.toInt ≤ 900) ∧ (0 ≤ n_4444.toInt ∧ n_4444.toInt ≤ 900) ∧ (0 ≤ n_4445.toInt ∧ n_4445.toInt ≤ 9999) ∧ (0 ≤ n_4446.toInt ∧ n_4446.toInt ≤ 900) ∧ (zC g_c) ∧ (zRg 3 0 1 g_hasFeels) ∧ (zNw g_c g_isOn) ∧ (m_behind.toInt ≤ n_4444.toInt) ∧ (0 < m_bad.toInt → 0 < n_4440.toInt) ∧ (n_4440.toInt ≤ 0 → n_4442.toInt = 0 ∨ m_behind.toInt < n_4444.toInt) ∧ (n_4440.toInt ≤ 0 → n_4442.toInt = 3 → n_4445.toInt = 59 → zNf g_c) := ⟨(by omega), (by omega), (by omega), (by omega), (by omega), (by omega), hC_g_c, hC_g_hasFeels, hNW0, (by omega), (by omega), (by omega), (fun _ _ _ => hNF0)⟩
          exact hret _ _ _ _ _ (n_4440, n_4441, n_4442, n_4443, n_4444, n_4445, n_4446, n_4447, n_3548, g_c, g_hasFeels) [4, 5, 2, 3, 0, 1] hP hD hS rfl (by decide) dX12_readFeature_103 hpost
        · have b_4460 := z_feqF c_4456
          refine lv_aload_n hx hb dX12_readFeature_73 rfl (lv_at hl 2 rfl) ?_
          refine z_callVi (As := []) (rest := []) (wr := [(a_hasFeels, .inl (cA.1 3, 3, .inl g_hasFeels)), (a_isOn, .inl (cA.1 3, 10, .inl g_isOn)), (a_c, .inl (cA.1 0, 1825, .inl g_c)), (a_words, .inl (cA.1 1, 105, .inr (.inl n_3548))), (a_tape, .inl (cA.1 2, 900, .inl g_tape))]) ⟨hx, hb, hml, hown, hts⟩ hK hE hT hP hD hS hA (r_houseWord l G cA h0 m_status m_thrown m_above m_under a_traySort a_trayMany a_numbers a_tape m_taped m_textEnd m_faultKind m_faultAt n_4440 n_4441 n_4442 n_4443 n_4444 n_4445 n_4446 n_4447 a_c a_words m_markMany a_there a_tried a_best a_found m_thereMany m_foundMany m_orderHow m_orderRing m_orderMany m_hasBest m_bestTop m_bestBy a_weights a_shared m_random m_truePlace m_trueWay m_seconds m_done m_feelings m_tries m_leftOver m_playDoor m_playRing m_isOpen m_isOver m_wasTried m_hasPlayed a_feltNow a_last a_kept m_hasSeconds m_hasTurned m_hasRound a_hasFeels a_isOn m_firstAct m_meanTop m_meanBy a_order m_rowMany m_newSteps (by omega)) lk_RX12_170 ⟨rfl, rfl⟩ ⟨Nat.le_of_ble_eq_true rfl, Nat.le_of_ble_eq_true rfl⟩ 12 rfl rfl rfl [4] [0, 1, 2, 3, 5] rfl rfl (by decide) rfl hl.1 rfl (lv_room (Nat.le_of_ble_eq_true rfl)) dX12_readFeature_74 ⟨Nat.le_of_ble_eq_true rfl, Nat.le_of_ble_eq_true rfl⟩ (fun r_4461 u_4462 H locs hw hP hD hS => ?_)
          obtain ⟨hr_r_4461, hf_4463⟩ := hw
          refine lv_bipush (v := 6) hx hb dX12_readFeature_77 (by decide) ?_
          refine lv_icmp_ne (tgt := 86) hx hb dX12_readFeature_79 (by decide) (fun c_4464 => ?_) (fun c_4464 => ?_)
          · have b_4465 := z_fneT c_4464
            refine lv_iconst (v := 0) hx hb dX12_readFeature_86 (by decide) ?_
            refine lv_istore_n (lv' := [(3, .int 0), (2, .int r_4448), (1, .int r_3549), (0, .ref h0)]) hx hb dX12_readFeature_87 rfl hl (by decide) rfl (fun ls hl => ?_)
            refine lv_iload_n hx hb dX12_readFeature_88 rfl (lv_at hl 0 rfl) ?_
            refine lv_if_eq (tgt := 96) hx hb dX12_readFeature_89 (by decide) (fun _ => ?_) (fun h9 => absurd (by decide +kernel) h9)
            refine lv_aload_n hx hb dX12_readFeature_96 rfl (lv_at hl 3 rfl) ?_
            refine va_get (D := G) (ci := 12) (v := .int n_4440) (C := RX12) (T := TX12) (N := 65) hx hb hts inT12 hown hK hP 5 rfl rfl 12 (by decide) (hts _ tw_1897) (fun _ h9 => h9) rfl dX12_readFeature_97 ?_
            refine lv_if_le (tgt := 104) hx hb dX12_readFeature_100 (by decide) (fun c_4466 => ?_) (fun h9 => (z_no (by have h8 := z_fgtF h9; omega)))
            have b_4467 := z_fleT c_4466
            refine lv_aload_n hx hb dX12_readFeature_104 rfl (lv_at hl 3 rfl) ?_
            refine va_get (D := G) (ci := 12) (v := .ref a_c) (C := RX12) (T := TX12) (N := 65) hx hb hts inT12 hown hK hP 5 rfl rfl 20 (by decide) (hts _ tw_1905) (fun _ h9 => h9) rfl dX12_readFeature_105 ?_
            refine lv_sipush (v := 1471) hx hb dX12_readFeature_108 (by decide) ?_
            refine lv_iload_n hx hb dX12_readFeature_111 rfl (lv_at hl 2 rfl) ?_
            refine lv_iadd hx hb dX12_readFeature_112 ?_
            refine lv_topi (fun x_4468 he_x_4468 => ?_)
            have hq_x_4468 := z_addq he_x_4468 hk_1471 (rfl : r_3549.toInt = _) (by omega) (by omega)
            refine lv_iload_n hx hb dX12_readFeature_113 rfl (lv_at hl 1 rfl) ?_
            refine z_iast hx hb hK hP hD hS 2 0 rfl rfl (z_inN (by omega) (by omega)) dX12_readFeature_114 (fun g_4469 hg_g_4469 H locs hP hD hS => ?_)
            have hC_g_4469 := z_ctU hC_g_c hg_g_4469 (a := 1471) (b := 1473) (lo := 0) (hi := 4) (by decide +kernel) (by decide +kernel) (by omega) (by omega) (by omega)
            have hw_g_4469_1460 := z_cwo hg_g_4469 (k := 1460) (by omega) (by omega)
            have hw_g_4469_1461 := z_cwo hg_g_4469 (k := 1461) (by omega) (by omega)
            have hs_4470 : zNw g_4469 g_isOn := (zNw_st hNW0 hg_g_4469 (by omega) (by omega) (by omega))
            have hs_4471 : zNf g_4469 := (zNf_fr hNF0 hg_g_4469 (a := 1471) (b := 1473) (by decide +kernel) (by omega) (by omega))
            have hs_4472 : (g_4469 (1471 + r_3549.toInt.toNat)).toInt = r_4448.toInt := (z_updself hg_g_4469 (by omega))
            refine lv_aload_n hx hb dX12_readFeature_115 rfl (lv_at hl 3 rfl) ?_
            refine va_get (D := G) (ci := 12) (v := .ref a_c) (C := RX12) (T := TX12) (N := 65) hx hb hts inT12 hown hK hP 5 rfl rfl 20 (by decide) (hts _ tw_1905) (fun _ h9 => h9) rfl dX12_readFeature_116 ?_
            refine lv_sipush (v := 1474) hx hb dX12_readFeature_119 (by decide) ?_
            refine lv_iload_n hx hb dX12_readFeature_122 rfl (lv_at hl 2 rfl) ?_
            refine lv_iadd hx hb dX12_readFeature_123 ?_
            refine lv_topi (fun x_4473 he_x_4473 => ?_)
            have hq_x_4473 := z_addq he_x_4473 hk_1474 (rfl : r_3549.toInt = _) (by omega) (by omega)
            refine lv_iload_n hx hb dX12_readFeature_124 rfl (lv_at hl 0 rfl) ?_
            refine lv_if_eq (tgt := 132) hx hb dX12_readFeature_125 (by decide) (fun _ => ?_) (fun h9 => absurd (by decide +kernel) h9)
            refine lv_iconst (v := 0) hx hb dX12_readFeature_132 (by decide) ?_
            refine z_iast hx hb hK hP hD hS 2 0 rfl rfl (z_inN (by omega) (by omega)) dX12_readFeature_133 (fun g_4474 hg_g_4474 H locs hP hD hS => ?_)
            have hC_g_4474 := z_ctU hC_g_4469 hg_g_4474 (a := 1474) (b := 1476) (lo := (-2147483648)) (hi := 2147483647) (by decide +kernel) (by decide +kernel) (by omega) (by omega) (z_full _)
            have hw_g_4474_1460 := z_cwo hg_g_4474 (k := 1460) (by omega) (by omega)
            have hw_g_4474_1461 := z_cwo hg_g_4474 (k := 1461) (by omega) (by omega)
            have hs_4475 : zNw g_4474 g_isOn := (zNw_fr hs_4470 hg_g_4474 (a := 1474) (b := 1476) (by decide +kernel) (by omega) (by omega))
            have hs_4476 : zNf g_4474 := (zNf_fr hs_4471 hg_g_4474 (a := 1474) (b := 1476) (by decide +kernel) (by omega) (by omega))
            have hs_4477 : (g_4474 (1471 + r_3549.toInt.toNat)).toInt = r_4448.toInt := (z_updkeep hs_4472 hg_g_4474 (by omega) (by omega))
            refine lv_iconst (v := 0) hx hb dX12_readFeature_134 (by decide) ?_
            refine lv_istore (lv' := [(4, .int 0), (3, .int 0), (2, .int r_4448), (1, .int r_3549), (0, .ref h0)]) hx hb dX12_readFeature_135 hl (by decide) rfl (fun ls hl => ?_)
            have hlp_4851 : ∀ (n : Nat) (v_4822 : Int32) (g_4823 : Nat → Int32) (H : Heap) (locs : List Loc) (ls : Array Slot), (2147483647 - v_4822.toInt).toNat < n → (0 ≤ v_4822.toInt ∧ v_4822.toInt ≤ 16) → (zC g_4823) → (zNw g_4823 g_isOn) → (zNf g_4823) → ((g_4823 (1471 + r_3549.toInt.toNat)).toInt = r_4448.toInt) → (zFt g_4823 r_3549.toInt v_4822.toInt) → ((g_4823 1460).toInt = r_3549.toInt) → (m_behind.toInt ≤ n_4444.toInt) → (n_4440.toInt ≤ 0 → n_4442.toInt = 0 ∨ m_behind.toInt < n_4444.toInt) → va_P G vwCl [(a_hasFeels, .inl (cA.1 3, 3, .inl g_hasFeels)), (a_isOn, .inl (cA.1 3, 10, .inl g_isOn)), (a_c, .inl (cA.1 0, 1825, .inl g_4823)), (a_words, .inl (cA.1 1, 105, .inr (.inl n_3548))), (a_tape, .inl (cA.1 2, 900, .inl g_tape)), (h0, .inr (12, [.int m_status, .int m_thrown, .long m_above, .long m_under, .ref a_traySort, .ref a_trayMany, .ref a_numbers, .ref a_tape, .int m_taped, .int m_textEnd, .int m_faultKind, .int m_faultAt, .int n_4440, .int n_4441, .int n_4442, .int n_4443, .int n_4444, .int n_4445, .int n_4446, .long n_4447, .ref a_c, .ref a_words, .int m_markMany, .ref a_there, .ref a_tried, .ref a_best, .ref a_found, .int m_thereMany, .int m_foundMany, .int m_orderHow, .int m_orderRing, .int m_orderMany, .int m_hasBest, .long m_bestTop, .long m_bestBy, .ref a_weights, .ref a_shared, .int m_random, .int m_truePlace, .int m_trueWay, .int m_seconds, .int m_done, .int m_feelings, .int m_tries, .int m_leftOver, .int m_playDoor, .int m_playRing, .int m_isOpen, .int m_isOver, .int m_wasTried, .int m_hasPlayed, .ref a_feltNow, .ref a_last, .ref a_kept, .int m_hasSeconds, .int m_hasTurned, .int m_hasRound, .ref a_hasFeels, .ref a_isOn, .int m_firstAct, .long m_meanTop, .long m_meanBy, .ref a_order, .int m_rowMany, .int m_newSteps]))] H → va_D A [(a_hasFeels, .inl (cA.1 3, 3, .inl g_hasFeels)), (a_isOn, .inl (cA.1 3, 10, .inl g_isOn)), (a_c, .inl (cA.1 0, 1825, .inl g_4823)), (a_words, .inl (cA.1 1, 105, .inr (.inl n_3548))), (a_tape, .inl (cA.1 2, 900, .inl g_tape)), (h0, .inr (12, [.int m_status, .int m_thrown, .long m_above, .long m_under, .ref a_traySort, .ref a_trayMany, .ref a_numbers, .ref a_tape, .int m_taped, .int m_textEnd, .int m_faultKind, .int m_faultAt, .int n_4440, .int n_4441, .int n_4442, .int n_4443, .int n_4444, .int n_4445, .int n_4446, .long n_4447, .ref a_c, .ref a_words, .int m_markMany, .ref a_there, .ref a_tried, .ref a_best, .ref a_found, .int m_thereMany, .int m_foundMany, .int m_orderHow, .int m_orderRing, .int m_orderMany, .int m_hasBest, .long m_bestTop, .long m_bestBy, .ref a_weights, .ref a_shared, .int m_random, .int m_truePlace, .int m_trueWay, .int m_seconds, .int m_done, .int m_feelings, .int m_tries, .int m_leftOver, .int m_playDoor, .int m_playRing, .int m_isOpen, .int m_isOver, .int m_wasTried, .int m_hasPlayed, .ref a_feltNow, .ref a_last, .ref a_kept, .int m_hasSeconds, .int m_hasTurned, .int m_hasRound, .ref a_hasFeels, .ref a_isOn, .int m_firstAct, .long m_meanTop, .long m_meanBy, .ref a_order, .int m_rowMany, .int m_newSteps]))] → va_S A s.heap H locs → lv_has ls 5 [(0, .ref h0), (1, .int r_3549), (2, .int r_4448), (3, .int 0), (4, .int v_4822)] → W p l e ({ frames := 4, cells := 0, slots := 0, locals := 91 }) s m args below meth c H locs 0 0 Q (F0 m 137 ls []) := by
              intro n
              induction n with
              | zero =>
                intro v_4822 g_4823 H locs ls hmu_hlp_4851 hr_v_4822 hC_g_4823 hs_4844 hs_4845 hs_4846 hi_4847 hi_4848 hi_4849 hi_4850 hP hD hS hl
                exact absurd hmu_hlp_4851 (Nat.not_lt_zero _)
              | succ n ih_4852 =>
                intro v_4822 g_4823 H locs ls hmu_hlp_4851 hr_v_4822 hC_g_4823 hs_4844 hs_4845 hs_4846 hi_4847 hi_4848 hi_4849 hi_4850 hP hD hS hl
                refine lv_iload hx hb dX12_readFeature_137 (lv_at hl 4 rfl) ?_
                refine lv_bipush (v := 16) hx hb dX12_readFeature_139 (by decide) ?_
                refine lv_icmp_ge (tgt := 179) hx hb dX12_readFeature_141 (by decide) (fun c_4853 => ?_) (fun c_4853 => ?_)
                · have b_4854 := z_fgeT c_4853
                  refine lv_aload_n hx hb dX12_readFeature_179 rfl (lv_at hl 0 rfl) ?_
                  refine va_get (D := G) (ci := 12) (v := .ref a_hasFeels) (C := RX12) (T := TX12) (N := 65) hx hb hts inT12 hown hK hP 5 rfl rfl 57 (by decide) (hts _ tw_1940) (fun _ h9 => h9) rfl dX12_readFeature_180 ?_
                  refine lv_iload_n hx hb dX12_readFeature_183 rfl (lv_at hl 1 rfl) ?_
                  refine lv_iconst (v := 0) hx hb dX12_readFeature_184 (by decide) ?_
                  refine z_zast hx hb hK hP hD hS 0 3 rfl rfl (z_inN (by omega) (by omega)) dX12_readFeature_185 (fun g_4855 hg_g_4855 H locs hP hD hS => ?_)
                  have hC_g_4855 := z_rgZ hC_g_hasFeels hg_g_4855 (Or.inl rfl)
                  refine lv_aload_n hx hb dX12_readFeature_186 rfl (lv_at hl 0 rfl) ?_
                  refine va_get (D := G) (ci := 12) (v := .ref a_c) (C := RX12) (T := TX12) (N := 65) hx hb hts inT12 hown hK hP 5 rfl rfl 20 (by decide) (hts _ tw_1905) (fun _ h9 => h9) rfl dX12_readFeature_187 ?_
                  refine lv_sipush (v := 1460) hx hb dX12_readFeature_190 (by decide) ?_
                  refine lv_dup2_11 hx hb dX12_readFeature_193 rfl rfl ?_
                  refine va_iald hx hb hK hP 2 0 rfl rfl (z_in (i := 1460) (n := 1825) (by decide +kernel) (by decide +kernel)) dX12_readFeature_194 ?_
                  refine lv_topi (fun x_4856 he_x_4856 => ?_)
                  have hr_x_4856 := z_ctk hC_g_4823 he_x_4856 (k := 1460) (lo := 0) (hi := 3) (by decide +kernel) (by decide +kernel) (by decide +kernel)
                  have hv_x_4856 := z_cv he_x_4856 (k := 1460) (by decide +kernel)
                  refine lv_iconst (v := 1) hx hb dX12_readFeature_195 (by decide) ?_
                  refine lv_iadd hx hb dX12_readFeature_196 ?_
                  refine lv_topi (fun x_4857 he_x_4857 => ?_)
                  have hq_x_4857 := z_addq he_x_4857 (rfl : x_4856.toInt = _) hk_1 (by omega) (by omega)
                  refine z_iast hx hb hK hP hD hS 2 0 rfl rfl (z_in (i := 1460) (n := 1825) (by decide +kernel) (by decide +kernel)) dX12_readFeature_197 (fun g_4858 hg_g_4858 H locs hP hD hS => ?_)
                  have hC_g_4858 := z_ctUk hC_g_4823 hg_g_4858 (k := 1460) (lo := 0) (hi := 3) (by decide +kernel) (by decide +kernel) (by decide +kernel) (by omega)
                  have hw_g_4858_1460 := z_cwk hg_g_4858 (k := 1460) (by decide +kernel)
                  have hw_g_4858_1461 := z_cwo hg_g_4858 (k := 1461) (by decide +kernel) (by decide +kernel)
                  have hs_4859 : zNw g_4858 g_isOn := (zNw_fe hs_4844 hg_g_4858 (by decide +kernel) (by omega) (by omega) (by omega) (k := r_3549.toInt) (by omega) (by rw [hs_4846]; omega))
                  have hs_4860 : zNf g_4858 := (zNf_fe hs_4845 hg_g_4858 (by decide +kernel) (by omega) (by omega) (by omega) (k := r_3549.toInt) (n := v_4822.toInt) (by omega) (by omega) hi_4847)
                  have hpost : (0 ≤ n_4440.toInt ∧ n_4440.toInt ≤ 9) ∧ (0 ≤ n_4442.toInt ∧ n_4442.toInt ≤ 4) ∧ (0 ≤ n_4443.toInt ∧ n_4443.toInt ≤ 900) ∧ (0 ≤ n_4444.toInt ∧ n_4444.toInt ≤ 900) ∧ (0 ≤ n_4445.toInt ∧ n_4445.toInt ≤ 9999) ∧ (0 ≤ n_4446.toInt ∧ n_4446.toInt ≤ 900) ∧ (zC g_4858) ∧ (zRg 3 0 1 g_4855) ∧ (zNw g_4858 g_isOn) ∧ (m_behind.toInt ≤ n_4444.toInt) ∧ (0 < m_bad.toInt → 0 < n_4440.toInt) ∧ (n_4440.toInt ≤ 0 → n_4442.toInt = 0 ∨ m_behind.toInt < n_4444.toInt) ∧ (n_4440.toInt ≤ 0 → n_4442.toInt = 3 → n_4445.toInt = 59 → zNf g_4858) := ⟨(by omega), (by omega), (by omega), (by omega), (by omega), (by omega), hC_g_4858, hC_g_4855, hs_4859, (by omega), (by omega), (by omega), (fun _ _ _ => hs_4860)⟩
                  exact hret _ _ _ _ _ (n_4440, n_4441, n_4442, n_4443, n_4444, n_4445, n_4446, n_4447, n_3548, g_4858, g_4855) [5, 4, 2, 3, 0, 1] hP hD hS rfl (by decide) dX12_readFeature_198 hpost
                · have b_4861 := z_fltF c_4853
                  refine lv_aload_n hx hb dX12_readFeature_144 rfl (lv_at hl 0 rfl) ?_
                  refine va_get (D := G) (ci := 12) (v := .ref a_c) (C := RX12) (T := TX12) (N := 65) hx hb hts inT12 hown hK hP 5 rfl rfl 20 (by decide) (hts _ tw_1905) (fun _ h9 => h9) rfl dX12_readFeature_145 ?_
                  refine lv_sipush (v := 1477) hx hb dX12_readFeature_148 (by decide) ?_
                  refine lv_bipush (v := 16) hx hb dX12_readFeature_151 (by decide) ?_
                  refine lv_iload_n hx hb dX12_readFeature_153 rfl (lv_at hl 1 rfl) ?_
                  refine lv_imul hx hb dX12_readFeature_154 ?_
                  refine lv_topi (fun x_4862 he_x_4862 => ?_)
                  have hq_x_4862 := z_mulq he_x_4862 hk_16 (rfl : r_3549.toInt = _) (by omega) (by omega)
                  refine lv_iadd hx hb dX12_readFeature_155 ?_
                  refine lv_topi (fun x_4863 he_x_4863 => ?_)
                  have hq_x_4863 := z_addq he_x_4863 hk_1477 (rfl : x_4862.toInt = _) (by omega) (by omega)
                  refine lv_iload hx hb dX12_readFeature_156 (lv_at hl 4 rfl) ?_
                  refine lv_iadd hx hb dX12_readFeature_158 ?_
                  refine lv_topi (fun x_4864 he_x_4864 => ?_)
                  have hq_x_4864 := z_addq he_x_4864 (rfl : x_4863.toInt = _) (rfl : v_4822.toInt = _) (by omega) (by omega)
                  refine lv_iload hx hb dX12_readFeature_159 (lv_at hl 4 rfl) ?_
                  refine lv_iconst (v := 5) hx hb dX12_readFeature_161 (by decide) ?_
                  refine lv_irem hx hb dX12_readFeature_162 (by decide +kernel) ?_
                  refine lv_topi (fun x_4865 he_x_4865 => ?_)
                  have hq_x_4865 := z_remq he_x_4865 (rfl : v_4822.toInt = _) hk_5 (by omega) (by decide)
                  refine lv_if_ne (tgt := 171) hx hb dX12_readFeature_163 (by decide) (fun c_4866 => ?_) (fun c_4866 => ?_)
                  · have b_4867 := z_fneT c_4866
                    refine lv_iconst (v := 0) hx hb dX12_readFeature_171 (by decide) ?_
                    refine z_iast hx hb hK hP hD hS 2 0 rfl rfl (z_inN (by omega) (by omega)) dX12_readFeature_172 (fun g_4868 hg_g_4868 H locs hP hD hS => ?_)
                    have hC_g_4868 := z_ctU hC_g_4823 hg_g_4868 (a := 1477) (b := 1524) (lo := 0) (hi := 16) (by decide +kernel) (by decide +kernel) (by omega) (by omega) (by decide +kernel)
                    have hw_g_4868_1460 := z_cwo hg_g_4868 (k := 1460) (by omega) (by omega)
                    have hw_g_4868_1461 := z_cwo hg_g_4868 (k := 1461) (by omega) (by omega)
                    have hs_4869 : zNw g_4868 g_isOn := (zNw_fr hs_4844 hg_g_4868 (a := 1477) (b := 1524) (by decide +kernel) (by omega) (by omega))
                    have hs_4870 : zNf g_4868 := (zNf_row hs_4845 hg_g_4868 (by omega) (by omega) (by omega))
                    have hs_4871 : (g_4868 (1471 + r_3549.toInt.toNat)).toInt = r_4448.toInt := (z_updkeep hs_4846 hg_g_4868 (by omega) (by omega))
                    obtain ⟨x_4872, he_x_4872⟩ : ∃ z : Int32, z = v_4822 + 1 := ⟨_, rfl⟩
                    have hq_x_4872 := z_addq he_x_4872 (rfl : v_4822.toInt = _) hk_1 (by omega) (by omega)
                    refine lv_iinc (v := x_4872) (lv' := [(4, .int x_4872), (0, .ref h0), (1, .int r_3549), (2, .int r_4448), (3, .int 0)]) hx hb dX12_readFeature_173 hl (k := 4) rfl ((z_ofi (by decide +kernel)).trans he_x_4872.symm) (by decide) rfl (fun ls hl => ?_)
                    refine lv_goto (tgt := 137) hx hb dX12_readFeature_176 (by decide) ?_
                    exact ih_4852 x_4872 g_4868 H locs ls (by omega) (by omega) hC_g_4868 hs_4869 hs_4870 hs_4871 (by rw [hq_x_4872]; exact zFt_step hi_4847 hg_g_4868 (by omega) (by omega) (by omega) (by omega)) (by omega) (by omega) (by omega) hP hD hS (lv_sub hl [1, 2, 3, 4, 0] rfl)
                  · have b_4873 := z_feqF c_4866
                    refine lv_bipush (v := 16) hx hb dX12_readFeature_166 (by decide) ?_
                    refine lv_goto (tgt := 172) hx hb dX12_readFeature_168 (by decide) ?_
                    refine z_iast hx hb hK hP hD hS 2 0 rfl rfl (z_inN (by omega) (by omega)) dX12_readFeature_172 (fun g_4874 hg_g_4874 H locs hP hD hS => ?_)
                    have hC_g_4874 := z_ctU hC_g_4823 hg_g_4874 (a := 1477) (b := 1524) (lo := 0) (hi := 16) (by decide +kernel) (by decide +kernel) (by omega) (by omega) (by decide +kernel)
                    have hw_g_4874_1460 := z_cwo hg_g_4874 (k := 1460) (by omega) (by omega)
                    have hw_g_4874_1461 := z_cwo hg_g_4874 (k := 1461) (by omega) (by omega)
                    have hs_4875 : zNw g_4874 g_isOn := (zNw_fr hs_4844 hg_g_4874 (a := 1477) (b := 1524) (by decide +kernel) (by omega) (by omega))
                    have hs_4876 : zNf g_4874 := (zNf_row hs_4845 hg_g_4874 (by omega) (by omega) (by omega))
                    have hs_4877 : (g_4874 (1471 + r_3549.toInt.toNat)).toInt = r_4448.toInt := (z_updkeep hs_4846 hg_g_4874 (by omega) (by omega))
                    obtain ⟨x_4878, he_x_4878⟩ : ∃ z : Int32, z = v_4822 + 1 := ⟨_, rfl⟩
                    have hq_x_4878 := z_addq he_x_4878 (rfl : v_4822.toInt = _) hk_1 (by omega) (by omega)
                    refine lv_iinc (v := x_4878) (lv' := [(4, .int x_4878), (0, .ref h0), (1, .int r_3549), (2, .int r_4448), (3, .int 0)]) hx hb dX12_readFeature_173 hl (k := 4) rfl ((z_ofi (by decide +kernel)).trans he_x_4878.symm) (by decide) rfl (fun ls hl => ?_)
                    refine lv_goto (tgt := 137) hx hb dX12_readFeature_176 (by decide) ?_
                    exact ih_4852 x_4878 g_4874 H locs ls (by omega) (by omega) hC_g_4874 hs_4875 hs_4876 hs_4877 (by rw [hq_x_4878]; exact zFt_step hi_4847 hg_g_4874 (by omega) (by omega) (by omega) (by omega)) (by omega) (by omega) (by omega) hP hD hS (lv_sub hl [1, 2, 3, 4, 0] rfl)
            exact hlp_4851 _ 0 g_4474 _ _ _ (Nat.lt_succ_self _) (by decide +kernel) hC_g_4474 hs_4475 hs_4476 hs_4477 zFt_0 (by omega) (by omega) (by omega) hP hD hS (lv_sub hl [4, 3, 2, 1, 0] rfl)
          · have b_4879 := z_feqF c_4464
            refine lv_iconst (v := 1) hx hb dX12_readFeature_82 (by decide) ?_
            refine lv_goto (tgt := 87) hx hb dX12_readFeature_83 (by decide) ?_
            refine lv_istore_n (lv' := [(3, .int 1), (2, .int r_4448), (1, .int r_3549), (0, .ref h0)]) hx hb dX12_readFeature_87 rfl hl (by decide) rfl (fun ls hl => ?_)
            refine lv_iload_n hx hb dX12_readFeature_88 rfl (lv_at hl 0 rfl) ?_
            refine lv_if_eq (tgt := 96) hx hb dX12_readFeature_89 (by decide) (fun h9 => absurd h9 (by decide +kernel)) (fun _ => ?_)
            refine lv_aload_n hx hb dX12_readFeature_92 rfl (lv_at hl 3 rfl) ?_
            refine z_callVv (As := []) (rest := []) (wr := [(a_hasFeels, .inl (cA.1 3, 3, .inl g_hasFeels)), (a_isOn, .inl (cA.1 3, 10, .inl g_isOn)), (a_c, .inl (cA.1 0, 1825, .inl g_c)), (a_words, .inl (cA.1 1, 105, .inr (.inl n_3548)))]) ⟨hx, hb, hml, hown, hts⟩ hK hE hT hP hD hS hA (r_next2 l G cA h0 m_status m_thrown m_above m_under a_traySort a_trayMany a_numbers a_tape m_taped m_textEnd m_faultKind m_faultAt n_4440 n_4441 n_4442 n_4443 n_4444 n_4445 n_4446 n_4447 a_c a_words m_markMany a_there a_tried a_best a_found m_thereMany m_foundMany m_orderHow m_orderRing m_orderMany m_hasBest m_bestTop m_bestBy a_weights a_shared m_random m_truePlace m_trueWay m_seconds m_done m_feelings m_tries m_leftOver m_playDoor m_playRing m_isOpen m_isOver m_wasTried m_hasPlayed a_feltNow a_last a_kept m_hasSeconds m_hasTurned m_hasRound a_hasFeels a_isOn m_firstAct m_meanTop m_meanBy a_order m_rowMany m_newSteps g_tape (by omega) (by omega) (by omega) (by omega) (by omega) (by omega)) lk_RX12_184 ⟨rfl, rfl⟩ ⟨Nat.le_of_ble_eq_true rfl, Nat.le_of_ble_eq_true rfl⟩ 12 rfl rfl rfl [5, 4] [0, 1, 2, 3] rfl rfl (by decide) rfl hl.1 rfl (lv_room (Nat.le_of_ble_eq_true rfl)) dX12_readFeature_93 ⟨Nat.le_of_ble_eq_true rfl, Nat.le_of_ble_eq_true rfl⟩ (fun u_4887 H locs hw hP hD hS => ?_)
            obtain ⟨n_4880, n_4881, n_4882, n_4883, n_4884, n_4885⟩ := u_4887
            try dsimp only at hw
            obtain ⟨hr_n_4880, hr_n_4881, hr_n_4882, hr_n_4883, hr_n_4884, hf_4888, hf_4889⟩ := hw
            refine lv_aload_n hx hb dX12_readFeature_96 rfl (lv_at hl 3 rfl) ?_
            refine va_get (D := G) (ci := 12) (v := .int n_4440) (C := RX12) (T := TX12) (N := 65) hx hb hts inT12 hown hK hP 4 rfl rfl 12 (by decide) (hts _ tw_1897) (fun _ h9 => h9) rfl dX12_readFeature_97 ?_
            refine lv_if_le (tgt := 104) hx hb dX12_readFeature_100 (by decide) (fun c_4890 => ?_) (fun h9 => (z_no (by have h8 := z_fgtF h9; omega)))
            have b_4891 := z_fleT c_4890
            refine lv_aload_n hx hb dX12_readFeature_104 rfl (lv_at hl 3 rfl) ?_
            refine va_get (D := G) (ci := 12) (v := .ref a_c) (C := RX12) (T := TX12) (N := 65) hx hb hts inT12 hown hK hP 4 rfl rfl 20 (by decide) (hts _ tw_1905) (fun _ h9 => h9) rfl dX12_readFeature_105 ?_
            refine lv_sipush (v := 1471) hx hb dX12_readFeature_108 (by decide) ?_
            refine lv_iload_n hx hb dX12_readFeature_111 rfl (lv_at hl 2 rfl) ?_
            refine lv_iadd hx hb dX12_readFeature_112 ?_
            refine lv_topi (fun x_4892 he_x_4892 => ?_)
            have hq_x_4892 := z_addq he_x_4892 hk_1471 (rfl : r_3549.toInt = _) (by omega) (by omega)
            refine lv_iload_n hx hb dX12_readFeature_113 rfl (lv_at hl 1 rfl) ?_
            refine z_iast hx hb hK hP hD hS 2 0 rfl rfl (z_inN (by omega) (by omega)) dX12_readFeature_114 (fun g_4893 hg_g_4893 H locs hP hD hS => ?_)
            have hC_g_4893 := z_ctU hC_g_c hg_g_4893 (a := 1471) (b := 1473) (lo := 0) (hi := 4) (by decide +kernel) (by decide +kernel) (by omega) (by omega) (by omega)
            have hw_g_4893_1460 := z_cwo hg_g_4893 (k := 1460) (by omega) (by omega)
            have hw_g_4893_1461 := z_cwo hg_g_4893 (k := 1461) (by omega) (by omega)
            have hs_4894 : zNw g_4893 g_isOn := (zNw_st hNW0 hg_g_4893 (by omega) (by omega) (by omega))
            have hs_4895 : zNf g_4893 := (zNf_fr hNF0 hg_g_4893 (a := 1471) (b := 1473) (by decide +kernel) (by omega) (by omega))
            have hs_4896 : (g_4893 (1471 + r_3549.toInt.toNat)).toInt = r_4448.toInt := (z_updself hg_g_4893 (by omega))
            refine lv_aload_n hx hb dX12_readFeature_115 rfl (lv_at hl 3 rfl) ?_
            refine va_get (D := G) (ci := 12) (v := .ref a_c) (C := RX12) (T := TX12) (N := 65) hx hb hts inT12 hown hK hP 4 rfl rfl 20 (by decide) (hts _ tw_1905) (fun _ h9 => h9) rfl dX12_readFeature_116 ?_
            refine lv_sipush (v := 1474) hx hb dX12_readFeature_119 (by decide) ?_
            refine lv_iload_n hx hb dX12_readFeature_122 rfl (lv_at hl 2 rfl) ?_
            refine lv_iadd hx hb dX12_readFeature_123 ?_
            refine lv_topi (fun x_4897 he_x_4897 => ?_)
            have hq_x_4897 := z_addq he_x_4897 hk_1474 (rfl : r_3549.toInt = _) (by omega) (by omega)
            refine lv_iload_n hx hb dX12_readFeature_124 rfl (lv_at hl 0 rfl) ?_
            refine lv_if_eq (tgt := 132) hx hb dX12_readFeature_125 (by decide) (fun h9 => absurd h9 (by decide +kernel)) (fun _ => ?_)
            refine lv_iconst (v := 1) hx hb dX12_readFeature_128 (by decide) ?_
            refine lv_goto (tgt := 133) hx hb dX12_readFeature_129 (by decide) ?_
            refine z_iast hx hb hK hP hD hS 2 0 rfl rfl (z_inN (by omega) (by omega)) dX12_readFeature_133 (fun g_4898 hg_g_4898 H locs hP hD hS => ?_)
            have hC_g_4898 := z_ctU hC_g_4893 hg_g_4898 (a := 1474) (b := 1476) (lo := (-2147483648)) (hi := 2147483647) (by decide +kernel) (by decide +kernel) (by omega) (by omega) (z_full _)
            have hw_g_4898_1460 := z_cwo hg_g_4898 (k := 1460) (by omega) (by omega)
            have hw_g_4898_1461 := z_cwo hg_g_4898 (k := 1461) (by omega) (by omega)
            have hs_4899 : zNw g_4898 g_isOn := (zNw_fr hs_4894 hg_g_4898 (a := 1474) (b := 1476) (by decide +kernel) (by omega) (by omega))
            have hs_4900 : zNf g_4898 := (zNf_fr hs_4895 hg_g_4898 (a := 1474) (b := 1476) (by decide +kernel) (by omega) (by omega))
            have hs_4901 : (g_4898 (1471 + r_3549.toInt.toNat)).toInt = r_4448.toInt := (z_updkeep hs_4896 hg_g_4898 (by omega) (by omega))
            refine lv_iconst (v := 0) hx hb dX12_readFeature_134 (by decide) ?_
            refine lv_istore (lv' := [(4, .int 0), (3, .int 1), (2, .int r_4448), (1, .int r_3549), (0, .ref h0)]) hx hb dX12_readFeature_135 hl (by decide) rfl (fun ls hl => ?_)
            have hlp_5275 : ∀ (n : Nat) (v_5246 : Int32) (g_5247 : Nat → Int32) (H : Heap) (locs : List Loc) (ls : Array Slot), (2147483647 - v_5246.toInt).toNat < n → (0 ≤ v_5246.toInt ∧ v_5246.toInt ≤ 16) → (zC g_5247) → (zNw g_5247 g_isOn) → (zNf g_5247) → ((g_5247 (1471 + r_3549.toInt.toNat)).toInt = r_4448.toInt) → (zFt g_5247 r_3549.toInt v_5246.toInt) → ((g_5247 1460).toInt = r_3549.toInt) → (m_behind.toInt ≤ n_4882.toInt) → (n_4440.toInt ≤ 0 → n_4880.toInt = 0 ∨ m_behind.toInt < n_4882.toInt) → va_P G vwCl [(a_hasFeels, .inl (cA.1 3, 3, .inl g_hasFeels)), (a_isOn, .inl (cA.1 3, 10, .inl g_isOn)), (a_c, .inl (cA.1 0, 1825, .inl g_5247)), (a_words, .inl (cA.1 1, 105, .inr (.inl n_3548))), (h0, .inr (12, [.int m_status, .int m_thrown, .long m_above, .long m_under, .ref a_traySort, .ref a_trayMany, .ref a_numbers, .ref a_tape, .int m_taped, .int m_textEnd, .int m_faultKind, .int m_faultAt, .int n_4440, .int n_4441, .int n_4880, .int n_4881, .int n_4882, .int n_4883, .int n_4884, .long n_4885, .ref a_c, .ref a_words, .int m_markMany, .ref a_there, .ref a_tried, .ref a_best, .ref a_found, .int m_thereMany, .int m_foundMany, .int m_orderHow, .int m_orderRing, .int m_orderMany, .int m_hasBest, .long m_bestTop, .long m_bestBy, .ref a_weights, .ref a_shared, .int m_random, .int m_truePlace, .int m_trueWay, .int m_seconds, .int m_done, .int m_feelings, .int m_tries, .int m_leftOver, .int m_playDoor, .int m_playRing, .int m_isOpen, .int m_isOver, .int m_wasTried, .int m_hasPlayed, .ref a_feltNow, .ref a_last, .ref a_kept, .int m_hasSeconds, .int m_hasTurned, .int m_hasRound, .ref a_hasFeels, .ref a_isOn, .int m_firstAct, .long m_meanTop, .long m_meanBy, .ref a_order, .int m_rowMany, .int m_newSteps])), (a_tape, .inl (cA.1 2, 900, .inl g_tape))] H → va_D A [(a_hasFeels, .inl (cA.1 3, 3, .inl g_hasFeels)), (a_isOn, .inl (cA.1 3, 10, .inl g_isOn)), (a_c, .inl (cA.1 0, 1825, .inl g_5247)), (a_words, .inl (cA.1 1, 105, .inr (.inl n_3548))), (h0, .inr (12, [.int m_status, .int m_thrown, .long m_above, .long m_under, .ref a_traySort, .ref a_trayMany, .ref a_numbers, .ref a_tape, .int m_taped, .int m_textEnd, .int m_faultKind, .int m_faultAt, .int n_4440, .int n_4441, .int n_4880, .int n_4881, .int n_4882, .int n_4883, .int n_4884, .long n_4885, .ref a_c, .ref a_words, .int m_markMany, .ref a_there, .ref a_tried, .ref a_best, .ref a_found, .int m_thereMany, .int m_foundMany, .int m_orderHow, .int m_orderRing, .int m_orderMany, .int m_hasBest, .long m_bestTop, .long m_bestBy, .ref a_weights, .ref a_shared, .int m_random, .int m_truePlace, .int m_trueWay, .int m_seconds, .int m_done, .int m_feelings, .int m_tries, .int m_leftOver, .int m_playDoor, .int m_playRing, .int m_isOpen, .int m_isOver, .int m_wasTried, .int m_hasPlayed, .ref a_feltNow, .ref a_last, .ref a_kept, .int m_hasSeconds, .int m_hasTurned, .int m_hasRound, .ref a_hasFeels, .ref a_isOn, .int m_firstAct, .long m_meanTop, .long m_meanBy, .ref a_order, .int m_rowMany, .int m_newSteps])), (a_tape, .inl (cA.1 2, 900, .inl g_tape))] → va_S A s.heap H locs → lv_has ls 5 [(0, .ref h0), (1, .int r_3549), (2, .int r_4448), (3, .int 1), (4, .int v_5246)] → W p l e ({ frames := 4, cells := 0, slots := 0, locals := 91 }) s m args below meth c H locs 0 0 Q (F0 m 137 ls []) := by
              intro n
              induction n with
              | zero =>
                intro v_5246 g_5247 H locs ls hmu_hlp_5275 hr_v_5246 hC_g_5247 hs_5268 hs_5269 hs_5270 hi_5271 hi_5272 hi_5273 hi_5274 hP hD hS hl
                exact absurd hmu_hlp_5275 (Nat.not_lt_zero _)
              | succ n ih_5276 =>
                intro v_5246 g_5247 H locs ls hmu_hlp_5275 hr_v_5246 hC_g_5247 hs_5268 hs_5269 hs_5270 hi_5271 hi_5272 hi_5273 hi_5274 hP hD hS hl
                refine lv_iload hx hb dX12_readFeature_137 (lv_at hl 4 rfl) ?_
                refine lv_bipush (v := 16) hx hb dX12_readFeature_139 (by decide) ?_
                refine lv_icmp_ge (tgt := 179) hx hb dX12_readFeature_141 (by decide) (fun c_5277 => ?_) (fun c_5277 => ?_)
                · have b_5278 := z_fgeT c_5277
                  refine lv_aload_n hx hb dX12_readFeature_179 rfl (lv_at hl 0 rfl) ?_
                  refine va_get (D := G) (ci := 12) (v := .ref a_hasFeels) (C := RX12) (T := TX12) (N := 65) hx hb hts inT12 hown hK hP 4 rfl rfl 57 (by decide) (hts _ tw_1940) (fun _ h9 => h9) rfl dX12_readFeature_180 ?_
                  refine lv_iload_n hx hb dX12_readFeature_183 rfl (lv_at hl 1 rfl) ?_
                  refine lv_iconst (v := 0) hx hb dX12_readFeature_184 (by decide) ?_
                  refine z_zast hx hb hK hP hD hS 0 3 rfl rfl (z_inN (by omega) (by omega)) dX12_readFeature_185 (fun g_5279 hg_g_5279 H locs hP hD hS => ?_)
                  have hC_g_5279 := z_rgZ hC_g_hasFeels hg_g_5279 (Or.inl rfl)
                  refine lv_aload_n hx hb dX12_readFeature_186 rfl (lv_at hl 0 rfl) ?_
                  refine va_get (D := G) (ci := 12) (v := .ref a_c) (C := RX12) (T := TX12) (N := 65) hx hb hts inT12 hown hK hP 4 rfl rfl 20 (by decide) (hts _ tw_1905) (fun _ h9 => h9) rfl dX12_readFeature_187 ?_
                  refine lv_sipush (v := 1460) hx hb dX12_readFeature_190 (by decide) ?_
                  refine lv_dup2_11 hx hb dX12_readFeature_193 rfl rfl ?_
                  refine va_iald hx hb hK hP 2 0 rfl rfl (z_in (i := 1460) (n := 1825) (by decide +kernel) (by decide +kernel)) dX12_readFeature_194 ?_
                  refine lv_topi (fun x_5280 he_x_5280 => ?_)
                  have hr_x_5280 := z_ctk hC_g_5247 he_x_5280 (k := 1460) (lo := 0) (hi := 3) (by decide +kernel) (by decide +kernel) (by decide +kernel)
                  have hv_x_5280 := z_cv he_x_5280 (k := 1460) (by decide +kernel)
                  refine lv_iconst (v := 1) hx hb dX12_readFeature_195 (by decide) ?_
                  refine lv_iadd hx hb dX12_readFeature_196 ?_
                  refine lv_topi (fun x_5281 he_x_5281 => ?_)
                  have hq_x_5281 := z_addq he_x_5281 (rfl : x_5280.toInt = _) hk_1 (by omega) (by omega)
                  refine z_iast hx hb hK hP hD hS 2 0 rfl rfl (z_in (i := 1460) (n := 1825) (by decide +kernel) (by decide +kernel)) dX12_readFeature_197 (fun g_5282 hg_g_5282 H locs hP hD hS => ?_)
                  have hC_g_5282 := z_ctUk hC_g_5247 hg_g_5282 (k := 1460) (lo := 0) (hi := 3) (by decide +kernel) (by decide +kernel) (by decide +kernel) (by omega)
                  have hw_g_5282_1460 := z_cwk hg_g_5282 (k := 1460) (by decide +kernel)
                  have hw_g_5282_1461 := z_cwo hg_g_5282 (k := 1461) (by decide +kernel) (by decide +kernel)
                  have hs_5283 : zNw g_5282 g_isOn := (zNw_fe hs_5268 hg_g_5282 (by decide +kernel) (by omega) (by omega) (by omega) (k := r_3549.toInt) (by omega) (by rw [hs_5270]; omega))
                  have hs_5284 : zNf g_5282 := (zNf_fe hs_5269 hg_g_5282 (by decide +kernel) (by omega) (by omega) (by omega) (k := r_3549.toInt) (n := v_5246.toInt) (by omega) (by omega) hi_5271)
                  have hpost : (0 ≤ n_4440.toInt ∧ n_4440.toInt ≤ 9) ∧ (0 ≤ n_4880.toInt ∧ n_4880.toInt ≤ 4) ∧ (0 ≤ n_4881.toInt ∧ n_4881.toInt ≤ 900) ∧ (0 ≤ n_4882.toInt ∧ n_4882.toInt ≤ 900) ∧ (0 ≤ n_4883.toInt ∧ n_4883.toInt ≤ 9999) ∧ (0 ≤ n_4884.toInt ∧ n_4884.toInt ≤ 900) ∧ (zC g_5282) ∧ (zRg 3 0 1 g_5279) ∧ (zNw g_5282 g_isOn) ∧ (m_behind.toInt ≤ n_4882.toInt) ∧ (0 < m_bad.toInt → 0 < n_4440.toInt) ∧ (n_4440.toInt ≤ 0 → n_4880.toInt = 0 ∨ m_behind.toInt < n_4882.toInt) ∧ (n_4440.toInt ≤ 0 → n_4880.toInt = 3 → n_4883.toInt = 59 → zNf g_5282) := ⟨(by omega), (by omega), (by omega), (by omega), (by omega), (by omega), hC_g_5282, hC_g_5279, hs_5283, (by omega), (by omega), (by omega), (fun _ _ _ => hs_5284)⟩
                  exact hret _ _ _ _ _ (n_4440, n_4441, n_4880, n_4881, n_4882, n_4883, n_4884, n_4885, n_3548, g_5282, g_5279) [4, 5, 2, 3, 0, 1] hP hD hS rfl (by decide) dX12_readFeature_198 hpost
                · have b_5285 := z_fltF c_5277
                  refine lv_aload_n hx hb dX12_readFeature_144 rfl (lv_at hl 0 rfl) ?_
                  refine va_get (D := G) (ci := 12) (v := .ref a_c) (C := RX12) (T := TX12) (N := 65) hx hb hts inT12 hown hK hP 4 rfl rfl 20 (by decide) (hts _ tw_1905) (fun _ h9 => h9) rfl dX12_readFeature_145 ?_
                  refine lv_sipush (v := 1477) hx hb dX12_readFeature_148 (by decide) ?_
                  refine lv_bipush (v := 16) hx hb dX12_readFeature_151 (by decide) ?_
                  refine lv_iload_n hx hb dX12_readFeature_153 rfl (lv_at hl 1 rfl) ?_
                  refine lv_imul hx hb dX12_readFeature_154 ?_
                  refine lv_topi (fun x_5286 he_x_5286 => ?_)
                  have hq_x_5286 := z_mulq he_x_5286 hk_16 (rfl : r_3549.toInt = _) (by omega) (by omega)
                  refine lv_iadd hx hb dX12_readFeature_155 ?_
                  refine lv_topi (fun x_5287 he_x_5287 => ?_)
                  have hq_x_5287 := z_addq he_x_5287 hk_1477 (rfl : x_5286.toInt = _) (by omega) (by omega)
                  refine lv_iload hx hb dX12_readFeature_156 (lv_at hl 4 rfl) ?_
                  refine lv_iadd hx hb dX12_readFeature_158 ?_
                  refine lv_topi (fun x_5288 he_x_5288 => ?_)
                  have hq_x_5288 := z_addq he_x_5288 (rfl : x_5287.toInt = _) (rfl : v_5246.toInt = _) (by omega) (by omega)
                  refine lv_iload hx hb dX12_readFeature_159 (lv_at hl 4 rfl) ?_
                  refine lv_iconst (v := 5) hx hb dX12_readFeature_161 (by decide) ?_
                  refine lv_irem hx hb dX12_readFeature_162 (by decide +kernel) ?_
                  refine lv_topi (fun x_5289 he_x_5289 => ?_)
                  have hq_x_5289 := z_remq he_x_5289 (rfl : v_5246.toInt = _) hk_5 (by omega) (by decide)
                  refine lv_if_ne (tgt := 171) hx hb dX12_readFeature_163 (by decide) (fun c_5290 => ?_) (fun c_5290 => ?_)
                  · have b_5291 := z_fneT c_5290
                    refine lv_iconst (v := 0) hx hb dX12_readFeature_171 (by decide) ?_
                    refine z_iast hx hb hK hP hD hS 2 0 rfl rfl (z_inN (by omega) (by omega)) dX12_readFeature_172 (fun g_5292 hg_g_5292 H locs hP hD hS => ?_)
                    have hC_g_5292 := z_ctU hC_g_5247 hg_g_5292 (a := 1477) (b := 1524) (lo := 0) (hi := 16) (by decide +kernel) (by decide +kernel) (by omega) (by omega) (by decide +kernel)
                    have hw_g_5292_1460 := z_cwo hg_g_5292 (k := 1460) (by omega) (by omega)
                    have hw_g_5292_1461 := z_cwo hg_g_5292 (k := 1461) (by omega) (by omega)
                    have hs_5293 : zNw g_5292 g_isOn := (zNw_fr hs_5268 hg_g_5292 (a := 1477) (b := 1524) (by decide +kernel) (by omega) (by omega))
                    have hs_5294 : zNf g_5292 := (zNf_row hs_5269 hg_g_5292 (by omega) (by omega) (by omega))
                    have hs_5295 : (g_5292 (1471 + r_3549.toInt.toNat)).toInt = r_4448.toInt := (z_updkeep hs_5270 hg_g_5292 (by omega) (by omega))
                    obtain ⟨x_5296, he_x_5296⟩ : ∃ z : Int32, z = v_5246 + 1 := ⟨_, rfl⟩
                    have hq_x_5296 := z_addq he_x_5296 (rfl : v_5246.toInt = _) hk_1 (by omega) (by omega)
                    refine lv_iinc (v := x_5296) (lv' := [(4, .int x_5296), (0, .ref h0), (1, .int r_3549), (2, .int r_4448), (3, .int 1)]) hx hb dX12_readFeature_173 hl (k := 4) rfl ((z_ofi (by decide +kernel)).trans he_x_5296.symm) (by decide) rfl (fun ls hl => ?_)
                    refine lv_goto (tgt := 137) hx hb dX12_readFeature_176 (by decide) ?_
                    exact ih_5276 x_5296 g_5292 H locs ls (by omega) (by omega) hC_g_5292 hs_5293 hs_5294 hs_5295 (by rw [hq_x_5296]; exact zFt_step hi_5271 hg_g_5292 (by omega) (by omega) (by omega) (by omega)) (by omega) (by omega) (by omega) hP hD hS (lv_sub hl [1, 2, 3, 4, 0] rfl)
                  · have b_5297 := z_feqF c_5290
                    refine lv_bipush (v := 16) hx hb dX12_readFeature_166 (by decide) ?_
                    refine lv_goto (tgt := 172) hx hb dX12_readFeature_168 (by decide) ?_
                    refine z_iast hx hb hK hP hD hS 2 0 rfl rfl (z_inN (by omega) (by omega)) dX12_readFeature_172 (fun g_5298 hg_g_5298 H locs hP hD hS => ?_)
                    have hC_g_5298 := z_ctU hC_g_5247 hg_g_5298 (a := 1477) (b := 1524) (lo := 0) (hi := 16) (by decide +kernel) (by decide +kernel) (by omega) (by omega) (by decide +kernel)
                    have hw_g_5298_1460 := z_cwo hg_g_5298 (k := 1460) (by omega) (by omega)
                    have hw_g_5298_1461 := z_cwo hg_g_5298 (k := 1461) (by omega) (by omega)
                    have hs_5299 : zNw g_5298 g_isOn := (zNw_fr hs_5268 hg_g_5298 (a := 1477) (b := 1524) (by decide +kernel) (by omega) (by omega))
                    have hs_5300 : zNf g_5298 := (zNf_row hs_5269 hg_g_5298 (by omega) (by omega) (by omega))
                    have hs_5301 : (g_5298 (1471 + r_3549.toInt.toNat)).toInt = r_4448.toInt := (z_updkeep hs_5270 hg_g_5298 (by omega) (by omega))
                    obtain ⟨x_5302, he_x_5302⟩ : ∃ z : Int32, z = v_5246 + 1 := ⟨_, rfl⟩
                    have hq_x_5302 := z_addq he_x_5302 (rfl : v_5246.toInt = _) hk_1 (by omega) (by omega)
                    refine lv_iinc (v := x_5302) (lv' := [(4, .int x_5302), (0, .ref h0), (1, .int r_3549), (2, .int r_4448), (3, .int 1)]) hx hb dX12_readFeature_173 hl (k := 4) rfl ((z_ofi (by decide +kernel)).trans he_x_5302.symm) (by decide) rfl (fun ls hl => ?_)
                    refine lv_goto (tgt := 137) hx hb dX12_readFeature_176 (by decide) ?_
                    exact ih_5276 x_5302 g_5298 H locs ls (by omega) (by omega) hC_g_5298 hs_5299 hs_5300 hs_5301 (by rw [hq_x_5302]; exact zFt_step hi_5271 hg_g_5298 (by omega) (by omega) (by omega) (by omega)) (by omega) (by omega) (by omega) hP hD hS (lv_sub hl [1, 2, 3, 4, 0] rfl)
            exact hlp_5275 _ 0 g_4898 _ _ _ (Nat.lt_succ_self _) (by decide +kernel) hC_g_4898 hs_4899 hs_4900 hs_4901 zFt_0 (by omega) (by omega) (by omega) hP hD hS (lv_sub hl [4, 3, 2, 1, 0] rfl)
