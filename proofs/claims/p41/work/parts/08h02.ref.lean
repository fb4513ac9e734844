set_option maxHeartbeats 40000000 in
set_option maxRecDepth 100000 in
theorem r_isWell (l : Launch) (G : va_G) (cA : zCA) (h0 : Nat) (m_status : Int32) (m_thrown : Int32) (m_above : Int64) (m_under : Int64) (a_traySort : Nat) (a_trayMany : Nat) (a_numbers : Nat) (a_tape : Nat) (m_taped : Int32) (m_textEnd : Int32) (m_faultKind : Int32) (m_faultAt : Int32) (m_bad : Int32) (m_badAt : Int32) (m_token : Int32) (m_at : Int32) (m_behind : Int32) (m_number : Int32) (m_letters : Int32) (m_word : Int64) (a_c : Nat) (a_words : Nat) (m_markMany : Int32) (a_there : Nat) (a_tried : Nat) (a_best : Nat) (a_found : Nat) (m_thereMany : Int32) (m_foundMany : Int32) (m_orderHow : Int32) (m_orderRing : Int32) (m_orderMany : Int32) (m_hasBest : Int32) (m_bestTop : Int64) (m_bestBy : Int64) (a_weights : Nat) (a_shared : Nat) (m_random : Int32) (m_truePlace : Int32) (m_trueWay : Int32) (m_seconds : Int32) (m_done : Int32) (m_feelings : Int32) (m_tries : Int32) (m_leftOver : Int32) (m_playDoor : Int32) (m_playRing : Int32) (m_isOpen : Int32) (m_isOver : Int32) (m_wasTried : Int32) (m_hasPlayed : Int32) (a_feltNow : Nat) (a_last : Nat) (a_kept : Nat) (m_hasSeconds : Int32) (m_hasTurned : Int32) (m_hasRound : Int32) (a_hasFeels : Nat) (a_isOn : Nat) (m_firstAct : Int32) (m_meanTop : Int64) (m_meanBy : Int64) (a_order : Nat) (m_rowMany : Int32) (m_newSteps : Int32) (hr_m_bad : 0 ≤ m_bad.toInt ∧ m_bad.toInt ≤ 9) : zCi l yX12_isWell cX12_isWell 1 (some .boolean) ({ frames := 1, cells := 0, slots := 0, locals := 21 }) G cA [.ref h0] [(h0, .inr (12, [.int m_status, .int m_thrown, .long m_above, .long m_under, .ref a_traySort, .ref a_trayMany, .ref a_numbers, .ref a_tape, .int m_taped, .int m_textEnd, .int m_faultKind, .int m_faultAt, .int m_bad, .int m_badAt, .int m_token, .int m_at, .int m_behind, .int m_number, .int m_letters, .long m_word, .ref a_c, .ref a_words, .int m_markMany, .ref a_there, .ref a_tried, .ref a_best, .ref a_found, .int m_thereMany, .int m_foundMany, .int m_orderHow, .int m_orderRing, .int m_orderMany, .int m_hasBest, .long m_bestTop, .long m_bestBy, .ref a_weights, .ref a_shared, .int m_random, .int m_truePlace, .int m_trueWay, .int m_seconds, .int m_done, .int m_feelings, .int m_tries, .int m_leftOver, .int m_playDoor, .int m_playRing, .int m_isOpen, .int m_isOver, .int m_wasTried, .int m_hasPlayed, .ref a_feltNow, .ref a_last, .ref a_kept, .int m_hasSeconds, .int m_hasTurned, .int m_hasRound, .ref a_hasFeels, .ref a_isOn, .int m_firstAct, .long m_meanTop, .long m_meanBy, .ref a_order, .int m_rowMany, .int m_newSteps]))] (S := Int32 × Int32 × Int32) (fun (r : Int32) (u : Int32 × Int32 × Int32) => (r = (F_r_isWell m_status m_bad m_badAt).1) ∧ (u.1 = (F_r_isWell m_status m_bad m_badAt).2.1) ∧ (u.2.1 = (F_r_isWell m_status m_bad m_badAt).2.2.1) ∧ (u.2.2 = (F_r_isWell m_status m_bad m_badAt).2.2.2) ∧ ((r = 0 ∧ (1 ≤ u.2.1.toInt ∧ u.2.1.toInt ≤ 9) ∧ (0 < m_bad.toInt)) ∨ (r = 1 ∧ (0 ≤ u.2.1.toInt ∧ u.2.1.toInt ≤ 0) ∧ ((-1) ≤ u.2.2.toInt ∧ u.2.2.toInt ≤ (-1)) ∧ (m_bad.toInt = 0)))) (fun (u : Int32 × Int32 × Int32) => [(h0, .inr (12, [.int u.1, .int m_thrown, .long m_above, .long m_under, .ref a_traySort, .ref a_trayMany, .ref a_numbers, .ref a_tape, .int m_taped, .int m_textEnd, .int u.2.1, .int u.2.2, .int m_bad, .int m_badAt, .int m_token, .int m_at, .int m_behind, .int m_number, .int m_letters, .long m_word, .ref a_c, .ref a_words, .int m_markMany, .ref a_there, .ref a_tried, .ref a_best, .ref a_found, .int m_thereMany, .int m_foundMany, .int m_orderHow, .int m_orderRing, .int m_orderMany, .int m_hasBest, .long m_bestTop, .long m_bestBy, .ref a_weights, .ref a_shared, .int m_random, .int m_truePlace, .int m_trueWay, .int m_seconds, .int m_done, .int m_feelings, .int m_tries, .int m_leftOver, .int m_playDoor, .int m_playRing, .int m_isOpen, .int m_isOver, .int m_wasTried, .int m_hasPlayed, .ref a_feltNow, .ref a_last, .ref a_kept, .int m_hasSeconds, .int m_hasTurned, .int m_hasRound, .ref a_hasFeels, .ref a_isOn, .int m_firstAct, .long m_meanTop, .long m_meanBy, .ref a_order, .int m_rowMany, .int m_newSteps]))]) 0 0 := by
  have hk_0 : (0 : Int32).toInt = 0 := by decide +kernel
  have hk_10 : (10 : Int32).toInt = 10 := by decide +kernel
  refine z_start2z (own := RX12) (by decide) (Nat.le_of_ble_eq_true rfl) rfl ?_
  intro p e s m args below meth c A ls Q hx hb hml hts hown hK hE hT hP hD hS hA hl hret
  have hl : lv_has ls 1 [(0, .ref h0)] := hl
  refine lv_aload_n hx hb dX12_isWell_0 rfl (lv_at hl 0 rfl) ?_
  refine lv_aload_n hx hb dX12_isWell_1 rfl (lv_at hl 0 rfl) ?_
  refine va_get (D := G) (ci := 12) (v := .int m_bad) (C := RX12) (T := TX12) (N := 65) hx hb hts inT12 hown hK hP 0 rfl rfl 12 (by decide) (hts _ tw_1897) (fun _ h9 => h9) rfl dX12_isWell_2 ?_
  refine va_put (D := G) (ci := 12) (v := .int m_bad) (ty := .int) (C := RX12) (T := TX12) (N := 65) hx hb hts inT12 tyX12 tyX12_ok nmX12 hown hK hP hD hS 0 rfl rfl 10 (by decide) (hts _ tw_1895) (fun _ h9 => h9) rfl (tyX12_ok 10 (by decide)) rfl rfl (Nat.le_of_ble_eq_true rfl) dX12_isWell_5 (fun H locs hP hD hS => ?_)
  refine lv_aload_n hx hb dX12_isWell_8 rfl (lv_at hl 0 rfl) ?_
  refine lv_aload_n hx hb dX12_isWell_9 rfl (lv_at hl 0 rfl) ?_
  refine va_get (D := G) (ci := 12) (v := .int m_bad) (C := RX12) (T := TX12) (N := 65) hx hb hts inT12 hown hK hP 0 rfl rfl 12 (by decide) (hts _ tw_1897) (fun _ h9 => h9) rfl dX12_isWell_10 ?_
  refine lv_if_ne (tgt := 20) hx hb dX12_isWell_13 (by decide) (fun c_1 => ?_) (fun c_1 => ?_)
  · have b_2 := z_fneT c_1
    refine lv_aload_n hx hb dX12_isWell_20 rfl (lv_at hl 0 rfl) ?_
    refine va_get (D := G) (ci := 12) (v := .int m_badAt) (C := RX12) (T := TX12) (N := 65) hx hb hts inT12 hown hK hP 0 rfl rfl 13 (by decide) (hts _ tw_1898) (fun _ h9 => h9) rfl dX12_isWell_21 ?_
    refine va_put (D := G) (ci := 12) (v := .int m_badAt) (ty := .int) (C := RX12) (T := TX12) (N := 65) hx hb hts inT12 tyX12 tyX12_ok nmX12 hown hK hP hD hS 0 rfl rfl 11 (by decide) (hts _ tw_1896) (fun _ h9 => h9) rfl (tyX12_ok 11 (by decide)) rfl rfl (Nat.le_of_ble_eq_true rfl) dX12_isWell_24 (fun H locs hP hD hS => ?_)
    refine lv_aload_n hx hb dX12_isWell_27 rfl (lv_at hl 0 rfl) ?_
    refine va_get (D := G) (ci := 12) (v := .int m_bad) (C := RX12) (T := TX12) (N := 65) hx hb hts inT12 hown hK hP 0 rfl rfl 12 (by decide) (hts _ tw_1897) (fun _ h9 => h9) rfl dX12_isWell_28 ?_
    refine lv_if_eq (tgt := 43) hx hb dX12_isWell_31 (by decide) (fun h9 => (z_no (by have h8 := z_feqT h9; omega))) (fun c_3 => ?_)
    have b_4 := z_fneF c_3
    refine lv_aload_n hx hb dX12_isWell_34 rfl (lv_at hl 0 rfl) ?_
    refine lv_bipush (v := 10) hx hb dX12_isWell_35 (by decide) ?_
    refine z_callVi (As := [.int 10]) (rest := []) (wr := []) ⟨hx, hb, hml, hown, hts⟩ hK hE hT hP hD hS hA (r_no l G cA h0 m_status m_thrown m_above m_under a_traySort a_trayMany a_numbers a_tape m_taped m_textEnd m_bad m_badAt m_bad m_badAt m_token m_at m_behind m_number m_letters m_word a_c a_words m_markMany a_there a_tried a_best a_found m_thereMany m_foundMany m_orderHow m_orderRing m_orderMany m_hasBest m_bestTop m_bestBy a_weights a_shared m_random m_truePlace m_trueWay m_seconds m_done m_feelings m_tries m_leftOver m_playDoor m_playRing m_isOpen m_isOver m_wasTried m_hasPlayed a_feltNow a_last a_kept m_hasSeconds m_hasTurned m_hasRound a_hasFeels a_isOn m_firstAct m_meanTop m_meanBy a_order m_rowMany m_newSteps 10) lk_RX12_97 ⟨rfl, rfl⟩ ⟨Nat.le_of_ble_eq_true rfl, Nat.le_of_ble_eq_true rfl⟩ 12 rfl rfl rfl [0] [] rfl rfl (by decide) rfl hl.1 rfl (lv_room (Nat.le_of_ble_eq_true rfl)) dX12_isWell_37 ⟨Nat.le_of_ble_eq_true rfl, Nat.le_of_ble_eq_true rfl⟩ (fun r_6 u_7 H locs hw hP hD hS => ?_)
    obtain ⟨n_5, rfl⟩ : ∃ z, z = u_7 := ⟨_, rfl⟩
    obtain ⟨he_r_6, he_n_5, hw⟩ := hw
    obtain ⟨rfl, -⟩ := hw
    refine lv_if_eq (tgt := 47) hx hb dX12_isWell_40 (by decide) (fun _ => ?_) (fun h9 => absurd (by decide +kernel) h9)
    refine lv_iconst (v := 0) hx hb dX12_isWell_47 (by decide) ?_
    have hpost : ((0 : Int32) = 0 ∧ (1 ≤ m_bad.toInt ∧ m_bad.toInt ≤ 9) ∧ (0 < m_bad.toInt)) ∨ ((0 : Int32) = 1 ∧ (0 ≤ m_bad.toInt ∧ m_bad.toInt ≤ 0) ∧ ((-1) ≤ m_badAt.toInt ∧ m_badAt.toInt ≤ (-1)) ∧ (m_bad.toInt = 0)) := (Or.inl ⟨rfl, ⟨(by omega), (by omega)⟩⟩)
    have hX_9 : F_r_isWell m_status m_bad m_badAt = (((0 : Int32), n_5, m_bad, m_badAt) : Int32 × Int32 × Int32 × Int32) := by
      refine (F_r_isWell_s ..).trans ?_
      refine (if_neg c_1).trans ?_
      extract_lets -merge -useContext +onlyGivenNames w9 y1_0 y1_1; have e9 : ((0 : Int32), n_5) = w9 := ((z_tS he_r_6 he_n_5.symm)).symm; clear_value w9; subst e9
      exact rfl
    exact hret _ _ _ _ _ _ (n_5, m_bad, m_badAt) [0] hP hD hS rfl (by decide) dX12_isWell_48 (Or.inl rfl) ⟨(congrArg (fun z9 => z9.1) hX_9).symm, (congrArg (fun z9 => z9.2.1) hX_9).symm, (congrArg (fun z9 => z9.2.2.1) hX_9).symm, (congrArg (fun z9 => z9.2.2.2) hX_9).symm, hpost⟩
  · have b_10 := z_feqF c_1
    refine lv_iconst (v := (-1)) hx hb dX12_isWell_16 (by decide) ?_
    refine lv_goto (tgt := 24) hx hb dX12_isWell_17 (by decide) ?_
    refine va_put (D := G) (ci := 12) (v := .int (-1)) (ty := .int) (C := RX12) (T := TX12) (N := 65) hx hb hts inT12 tyX12 tyX12_ok nmX12 hown hK hP hD hS 0 rfl rfl 11 (by decide) (hts _ tw_1896) (fun _ h9 => h9) rfl (tyX12_ok 11 (by decide)) rfl rfl (Nat.le_of_ble_eq_true rfl) dX12_isWell_24 (fun H locs hP hD hS => ?_)
    refine lv_aload_n hx hb dX12_isWell_27 rfl (lv_at hl 0 rfl) ?_
    refine va_get (D := G) (ci := 12) (v := .int m_bad) (C := RX12) (T := TX12) (N := 65) hx hb hts inT12 hown hK hP 0 rfl rfl 12 (by decide) (hts _ tw_1897) (fun _ h9 => h9) rfl dX12_isWell_28 ?_
    refine lv_if_eq (tgt := 43) hx hb dX12_isWell_31 (by decide) (fun c_11 => ?_) (fun h9 => (z_no (by have h8 := z_fneF h9; omega)))
    have b_12 := z_feqT c_11
    refine lv_iconst (v := 1) hx hb dX12_isWell_43 (by decide) ?_
    refine lv_goto (tgt := 48) hx hb dX12_isWell_44 (by decide) ?_
    have hpost : ((1 : Int32) = 0 ∧ (1 ≤ m_bad.toInt ∧ m_bad.toInt ≤ 9) ∧ (0 < m_bad.toInt)) ∨ ((1 : Int32) = 1 ∧ (0 ≤ m_bad.toInt ∧ m_bad.toInt ≤ 0) ∧ ((-1) ≤ ((-1) : Int32).toInt ∧ ((-1) : Int32).toInt ≤ (-1)) ∧ (m_bad.toInt = 0)) := (Or.inr ⟨rfl, ⟨(by omega), (by decide +kernel), (by omega)⟩⟩)
    have hX_13 : F_r_isWell m_status m_bad m_badAt = (((1 : Int32), m_status, m_bad, (-1 : Int32)) : Int32 × Int32 × Int32 × Int32) := by
      refine (F_r_isWell_s ..).trans ?_
      refine (if_pos c_1).trans ?_
      exact rfl
    exact hret _ _ _ _ _ _ (m_status, m_bad, (-1)) [0] hP hD hS rfl (by decide) dX12_isWell_48 (Or.inr rfl) ⟨(congrArg (fun z9 => z9.1) hX_13).symm, (congrArg (fun z9 => z9.2.1) hX_13).symm, (congrArg (fun z9 => z9.2.2.1) hX_13).symm, (congrArg (fun z9 => z9.2.2.2) hX_13).symm, hpost⟩
set_option maxHeartbeats 40000000 in
set_option maxRecDepth 100000 in
theorem r_fault (l : Launch) (G : va_G) (cA : zCA) (h0 : Nat) (m_status : Int32) (m_thrown : Int32) (m_above : Int64) (m_under : Int64) (a_traySort : Nat) (a_trayMany : Nat) (a_numbers : Nat) (a_tape : Nat) (m_taped : Int32) (m_textEnd : Int32) (m_faultKind : Int32) (m_faultAt : Int32) (m_bad : Int32) (m_badAt : Int32) (m_token : Int32) (m_at : Int32) (m_behind : Int32) (m_number : Int32) (m_letters : Int32) (m_word : Int64) (a_c : Nat) (a_words : Nat) (m_markMany : Int32) (a_there : Nat) (a_tried : Nat) (a_best : Nat) (a_found : Nat) (m_thereMany : Int32) (m_foundMany : Int32) (m_orderHow : Int32) (m_orderRing : Int32) (m_orderMany : Int32) (m_hasBest : Int32) (m_bestTop : Int64) (m_bestBy : Int64) (a_weights : Nat) (a_shared : Nat) (m_random : Int32) (m_truePlace : Int32) (m_trueWay : Int32) (m_seconds : Int32) (m_done : Int32) (m_feelings : Int32) (m_tries : Int32) (m_leftOver : Int32) (m_playDoor : Int32) (m_playRing : Int32) (m_isOpen : Int32) (m_isOver : Int32) (m_wasTried : Int32) (m_hasPlayed : Int32) (a_feltNow : Nat) (a_last : Nat) (a_kept : Nat) (m_hasSeconds : Int32) (m_hasTurned : Int32) (m_hasRound : Int32) (a_hasFeels : Nat) (a_isOn : Nat) (m_firstAct : Int32) (m_meanTop : Int64) (m_meanBy : Int64) (a_order : Nat) (m_rowMany : Int32) (m_newSteps : Int32) (w : Int32) : zCi l yX12_fault cX12_fault 2 (some .int) ({ frames := 0, cells := 0, slots := 0, locals := 0 }) G cA [.ref h0, .int w] [(h0, .inr (12, [.int m_status, .int m_thrown, .long m_above, .long m_under, .ref a_traySort, .ref a_trayMany, .ref a_numbers, .ref a_tape, .int m_taped, .int m_textEnd, .int m_faultKind, .int m_faultAt, .int m_bad, .int m_badAt, .int m_token, .int m_at, .int m_behind, .int m_number, .int m_letters, .long m_word, .ref a_c, .ref a_words, .int m_markMany, .ref a_there, .ref a_tried, .ref a_best, .ref a_found, .int m_thereMany, .int m_foundMany, .int m_orderHow, .int m_orderRing, .int m_orderMany, .int m_hasBest, .long m_bestTop, .long m_bestBy, .ref a_weights, .ref a_shared, .int m_random, .int m_truePlace, .int m_trueWay, .int m_seconds, .int m_done, .int m_feelings, .int m_tries, .int m_leftOver, .int m_playDoor, .int m_playRing, .int m_isOpen, .int m_isOver, .int m_wasTried, .int m_hasPlayed, .ref a_feltNow, .ref a_last, .ref a_kept, .int m_hasSeconds, .int m_hasTurned, .int m_hasRound, .ref a_hasFeels, .ref a_isOn, .int m_firstAct, .long m_meanTop, .long m_meanBy, .ref a_order, .int m_rowMany, .int m_newSteps]))] (S := Int32) (fun (r : Int32) (u : Int32) => (r = (F_r_fault m_faultKind m_faultAt w).1) ∧ (u = (F_r_fault m_faultKind m_faultAt w).2) ∧ ((0 ≤ u.toInt ∧ u.toInt ≤ 0))) (fun (u : Int32) => [(h0, .inr (12, [.int m_status, .int u, .long m_above, .long m_under, .ref a_traySort, .ref a_trayMany, .ref a_numbers, .ref a_tape, .int m_taped, .int m_textEnd, .int m_faultKind, .int m_faultAt, .int m_bad, .int m_badAt, .int m_token, .int m_at, .int m_behind, .int m_number, .int m_letters, .long m_word, .ref a_c, .ref a_words, .int m_markMany, .ref a_there, .ref a_tried, .ref a_best, .ref a_found, .int m_thereMany, .int m_foundMany, .int m_orderHow, .int m_orderRing, .int m_orderMany, .int m_hasBest, .long m_bestTop, .long m_bestBy, .ref a_weights, .ref a_shared, .int m_random, .int m_truePlace, .int m_trueWay, .int m_seconds, .int m_done, .int m_feelings, .int m_tries, .int m_leftOver, .int m_playDoor, .int m_playRing, .int m_isOpen, .int m_isOver, .int m_wasTried, .int m_hasPlayed, .ref a_feltNow, .ref a_last, .ref a_kept, .int m_hasSeconds, .int m_hasTurned, .int m_hasRound, .ref a_hasFeels, .ref a_isOn, .int m_firstAct, .long m_meanTop, .long m_meanBy, .ref a_order, .int m_rowMany, .int m_newSteps]))]) 0 0 := by
  have hk_0 : (0 : Int32).toInt = 0 := by decide +kernel
  have hk_1 : (1 : Int32).toInt = 1 := by decide +kernel
  refine z_start2i (own := RX12) (by decide) (Nat.le_of_ble_eq_true rfl) rfl ?_
  intro p e s m args below meth c A ls Q hx hb hml hts hown hK hE hT hP hD hS hA hl hret
  have hl : lv_has ls 2 [(0, .ref h0), (1, .int w)] := hl
  refine lv_aload_n hx hb dX12_fault_0 rfl (lv_at hl 0 rfl) ?_
  refine lv_iconst (v := 0) hx hb dX12_fault_1 (by decide) ?_
  refine va_put (D := G) (ci := 12) (v := .int 0) (ty := .int) (C := RX12) (T := TX12) (N := 65) hx hb hts inT12 tyX12 tyX12_ok nmX12 hown hK hP hD hS 0 rfl rfl 1 (by decide) (hts _ tw_1886) (fun _ h9 => h9) rfl (tyX12_ok 1 (by decide)) rfl rfl (Nat.le_of_ble_eq_true rfl) dX12_fault_2 (fun H locs hP hD hS => ?_)
  refine lv_iload_n hx hb dX12_fault_5 rfl (lv_at hl 1 rfl) ?_
  refine lv_if_ne (tgt := 16) hx hb dX12_fault_6 (by decide) (fun c_1 => ?_) (fun c_1 => ?_)
  · have b_2 := z_fneT c_1
    refine lv_iload_n hx hb dX12_fault_16 rfl (lv_at hl 1 rfl) ?_
    refine lv_iconst (v := 1) hx hb dX12_fault_17 (by decide) ?_
    refine lv_icmp_ne (tgt := 28) hx hb dX12_fault_18 (by decide) (fun c_3 => ?_) (fun c_3 => ?_)
    · have b_4 := z_fneT c_3
      refine lv_iconst (v := (-1)) hx hb dX12_fault_28 (by decide) ?_
      have hpost : (0 ≤ (0 : Int32).toInt ∧ (0 : Int32).toInt ≤ 0) := (by decide +kernel)
      have hX_5 : F_r_fault m_faultKind m_faultAt w = (((-1 : Int32), (0 : Int32)) : Int32 × Int32) := by
        refine (F_r_fault_s ..).trans ?_
        refine (if_neg c_1).trans ?_
        refine (if_neg c_3).trans ?_
        exact rfl
      exact hret _ _ _ _ _ _ 0 [0] hP hD hS rfl (by decide) dX12_fault_29 ⟨(congrArg (fun z9 => z9.1) hX_5).symm, (congrArg (fun z9 => z9.2) hX_5).symm, hpost⟩
    · have b_6 := z_feqF c_3
      refine lv_aload_n hx hb dX12_fault_21 rfl (lv_at hl 0 rfl) ?_
      refine va_get (D := G) (ci := 12) (v := .int m_faultAt) (C := RX12) (T := TX12) (N := 65) hx hb hts inT12 hown hK hP 0 rfl rfl 11 (by decide) (hts _ tw_1896) (fun _ h9 => h9) rfl dX12_fault_22 ?_
      refine lv_goto (tgt := 29) hx hb dX12_fault_25 (by decide) ?_
      have hpost : (0 ≤ (0 : Int32).toInt ∧ (0 : Int32).toInt ≤ 0) := (by decide +kernel)
      have hX_7 : F_r_fault m_faultKind m_faultAt w = ((m_faultAt, (0 : Int32)) : Int32 × Int32) := by
        refine (F_r_fault_s ..).trans ?_
        refine (if_neg c_1).trans ?_
        refine (if_pos c_3).trans ?_
        exact rfl
      exact hret _ _ _ _ _ _ 0 [0] hP hD hS rfl (by decide) dX12_fault_29 ⟨(congrArg (fun z9 => z9.1) hX_7).symm, (congrArg (fun z9 => z9.2) hX_7).symm, hpost⟩
  · have b_8 := z_feqF c_1
    refine lv_aload_n hx hb dX12_fault_9 rfl (lv_at hl 0 rfl) ?_
    refine va_get (D := G) (ci := 12) (v := .int m_faultKind) (C := RX12) (T := TX12) (N := 65) hx hb hts inT12 hown hK hP 0 rfl rfl 10 (by decide) (hts _ tw_1895) (fun _ h9 => h9) rfl dX12_fault_10 ?_
    refine lv_goto (tgt := 29) hx hb dX12_fault_13 (by decide) ?_
    have hpost : (0 ≤ (0 : Int32).toInt ∧ (0 : Int32).toInt ≤ 0) := (by decide +kernel)
    have hX_9 : F_r_fault m_faultKind m_faultAt w = ((m_faultKind, (0 : Int32)) : Int32 × Int32) := by
      refine (F_r_fault_s ..).trans ?_
      refine (if_pos c_1).trans ?_
      exact rfl
    exact hret _ _ _ _ _ _ 0 [0] hP hD hS rfl (by decide) dX12_fault_29 ⟨(congrArg (fun z9 => z9.1) hX_9).symm, (congrArg (fun z9 => z9.2) hX_9).symm, hpost⟩
set_option maxHeartbeats 40000000 in
set_option maxRecDepth 100000 in
theorem r_houseWord (l : Launch) (G : va_G) (cA : zCA) (h0 : Nat) (m_status : Int32) (m_thrown : Int32) (m_above : Int64) (m_under : Int64) (a_traySort : Nat) (a_trayMany : Nat) (a_numbers : Nat) (a_tape : Nat) (m_taped : Int32) (m_textEnd : Int32) (m_faultKind : Int32) (m_faultAt : Int32) (m_bad : Int32) (m_badAt : Int32) (m_token : Int32) (m_at : Int32) (m_behind : Int32) (m_number : Int32) (m_letters : Int32) (m_word : Int64) (a_c : Nat) (a_words : Nat) (m_markMany : Int32) (a_there : Nat) (a_tried : Nat) (a_best : Nat) (a_found : Nat) (m_thereMany : Int32) (m_foundMany : Int32) (m_orderHow : Int32) (m_orderRing : Int32) (m_orderMany : Int32) (m_hasBest : Int32) (m_bestTop : Int64) (m_bestBy : Int64) (a_weights : Nat) (a_shared : Nat) (m_random : Int32) (m_truePlace : Int32) (m_trueWay : Int32) (m_seconds : Int32) (m_done : Int32) (m_feelings : Int32) (m_tries : Int32) (m_leftOver : Int32) (m_playDoor : Int32) (m_playRing : Int32) (m_isOpen : Int32) (m_isOver : Int32) (m_wasTried : Int32) (m_hasPlayed : Int32) (a_feltNow : Nat) (a_last : Nat) (a_kept : Nat) (m_hasSeconds : Int32) (m_hasTurned : Int32) (m_hasRound : Int32) (a_hasFeels : Nat) (a_isOn : Nat) (m_firstAct : Int32) (m_meanTop : Int64) (m_meanBy : Int64) (a_order : Nat) (m_rowMany : Int32) (m_newSteps : Int32) (hr_m_token : 0 ≤ m_token.toInt ∧ m_token.toInt ≤ 4) : zCi l yX12_houseWord cX12_houseWord 1 (some .int) ({ frames := 1, cells := 0, slots := 0, locals := 27 }) G cA [.ref h0] [(h0, .inr (12, [.int m_status, .int m_thrown, .long m_above, .long m_under, .ref a_traySort, .ref a_trayMany, .ref a_numbers, .ref a_tape, .int m_taped, .int m_textEnd, .int m_faultKind, .int m_faultAt, .int m_bad, .int m_badAt, .int m_token, .int m_at, .int m_behind, .int m_number, .int m_letters, .long m_word, .ref a_c, .ref a_words, .int m_markMany, .ref a_there, .ref a_tried, .ref a_best, .ref a_found, .int m_thereMany, .int m_foundMany, .int m_orderHow, .int m_orderRing, .int m_orderMany, .int m_hasBest, .long m_bestTop, .long m_bestBy, .ref a_weights, .ref a_shared, .int m_random, .int m_truePlace, .int m_trueWay, .int m_seconds, .int m_done, .int m_feelings, .int m_tries, .int m_leftOver, .int m_playDoor, .int m_playRing, .int m_isOpen, .int m_isOver, .int m_wasTried, .int m_hasPlayed, .ref a_feltNow, .ref a_last, .ref a_kept, .int m_hasSeconds, .int m_hasTurned, .int m_hasRound, .ref a_hasFeels, .ref a_isOn, .int m_firstAct, .long m_meanTop, .long m_meanBy, .ref a_order, .int m_rowMany, .int m_newSteps]))] (S := Unit) (fun (r : Int32) (u : Unit) => (r = (F_r_houseWord m_token m_word)) ∧ (((-1) ≤ r.toInt ∧ r.toInt ≤ 14) ∧ (r.toInt < 0 ∨ m_token.toInt = 1))) (fun (u : Unit) => [(h0, .inr (12, [.int m_status, .int m_thrown, .long m_above, .long m_under, .ref a_traySort, .ref a_trayMany, .ref a_numbers, .ref a_tape, .int m_taped, .int m_textEnd, .int m_faultKind, .int m_faultAt, .int m_bad, .int m_badAt, .int m_token, .int m_at, .int m_behind, .int m_number, .int m_letters, .long m_word, .ref a_c, .ref a_words, .int m_markMany, .ref a_there, .ref a_tried, .ref a_best, .ref a_found, .int m_thereMany, .int m_foundMany, .int m_orderHow, .int m_orderRing, .int m_orderMany, .int m_hasBest, .long m_bestTop, .long m_bestBy, .ref a_weights, .ref a_shared, .int m_random, .int m_truePlace, .int m_trueWay, .int m_seconds, .int m_done, .int m_feelings, .int m_tries, .int m_leftOver, .int m_playDoor, .int m_playRing, .int m_isOpen, .int m_isOver, .int m_wasTried, .int m_hasPlayed, .ref a_feltNow, .ref a_last, .ref a_kept, .int m_hasSeconds, .int m_hasTurned, .int m_hasRound, .ref a_hasFeels, .ref a_isOn, .int m_firstAct, .long m_meanTop, .long m_meanBy, .ref a_order, .int m_rowMany, .int m_newSteps]))]) 0 0 := by
  have hk_m1 : ((-1) : Int32).toInt = (-1) := by decide +kernel
  have hk_0 : (0 : Int32).toInt = 0 := by decide +kernel
  have hk_1 : (1 : Int32).toInt = 1 := by decide +kernel
  have hk_2 : (2 : Int32).toInt = 2 := by decide +kernel
  have hk_3 : (3 : Int32).toInt = 3 := by decide +kernel
  have hk_4 : (4 : Int32).toInt = 4 := by decide +kernel
  have hk_5 : (5 : Int32).toInt = 5 := by decide +kernel
  have hk_6 : (6 : Int32).toInt = 6 := by decide +kernel
  have hk_7 : (7 : Int32).toInt = 7 := by decide +kernel
  have hk_8 : (8 : Int32).toInt = 8 := by decide +kernel
  have hk_9 : (9 : Int32).toInt = 9 := by decide +kernel
  have hk_10 : (10 : Int32).toInt = 10 := by decide +kernel
  have hk_11 : (11 : Int32).toInt = 11 := by decide +kernel
  have hk_12 : (12 : Int32).toInt = 12 := by decide +kernel
  have hk_13 : (13 : Int32).toInt = 13 := by decide +kernel
  have hk_14 : (14 : Int32).toInt = 14 := by decide +kernel
  have hk_97 : (97 : Int32).toInt = 97 := by decide +kernel
  have hk_98 : (98 : Int32).toInt = 98 := by decide +kernel
  have hk_99 : (99 : Int32).toInt = 99 := by decide +kernel
  have hk_100 : (100 : Int32).toInt = 100 := by decide +kernel
  have hk_101 : (101 : Int32).toInt = 101 := by decide +kernel
  have hk_102 : (102 : Int32).toInt = 102 := by decide +kernel
  have hk_103 : (103 : Int32).toInt = 103 := by decide +kernel
  have hk_105 : (105 : Int32).toInt = 105 := by decide +kernel
  have hk_107 : (107 : Int32).toInt = 107 := by decide +kernel
  have hk_108 : (108 : Int32).toInt = 108 := by decide +kernel
  have hk_110 : (110 : Int32).toInt = 110 := by decide +kernel
  have hk_111 : (111 : Int32).toInt = 111 := by decide +kernel
  have hk_112 : (112 : Int32).toInt = 112 := by decide +kernel
  have hk_114 : (114 : Int32).toInt = 114 := by decide +kernel
  have hk_115 : (115 : Int32).toInt = 115 := by decide +kernel
  have hk_116 : (116 : Int32).toInt = 116 := by decide +kernel
  have hk_117 : (117 : Int32).toInt = 117 := by decide +kernel
  have hk_119 : (119 : Int32).toInt = 119 := by decide +kernel
  have hk_121 : (121 : Int32).toInt = 121 := by decide +kernel
  have hkl_32 : (32 : Int64).toInt = 32 := by decide +kernel
  have hkl_96 : (96 : Int64).toInt = 96 := by decide +kernel
  have hkl_101 : (101 : Int64).toInt = 101 := by decide +kernel
  have hkl_115 : (115 : Int64).toInt = 115 := by decide +kernel
  refine z_start2i (own := RX12) (by decide) (Nat.le_of_ble_eq_true rfl) rfl ?_
  intro p e s m args below meth c A ls Q hx hb hml hts hown hK hE hT hP hD hS hA hl hret
  have hl : lv_has ls 1 [(0, .ref h0)] := hl
  refine lv_aload_n hx hb dX12_houseWord_0 rfl (lv_at hl 0 rfl) ?_
  refine lv_bipush (v := 102) hx hb dX12_houseWord_1 (by decide) ?_
  refine lv_bipush (v := 101) hx hb dX12_houseWord_3 (by decide) ?_
  refine lv_bipush (v := 97) hx hb dX12_houseWord_5 (by decide) ?_
  refine lv_bipush (v := 116) hx hb dX12_houseWord_7 (by decide) ?_
  refine lv_bipush (v := 117) hx hb dX12_houseWord_9 (by decide) ?_
  refine lv_bipush (v := 114) hx hb dX12_houseWord_11 (by decide) ?_
  refine z_callSl (As := [.int 102, .int 101, .int 97, .int 116, .int 117, .int 114]) (rest := [.ref h0]) (wr := [(h0, .inr (12, [.int m_status, .int m_thrown, .long m_above, .long m_under, .ref a_traySort, .ref a_trayMany, .ref a_numbers, .ref a_tape, .int m_taped, .int m_textEnd, .int m_faultKind, .int m_faultAt, .int m_bad, .int m_badAt, .int m_token, .int m_at, .int m_behind, .int m_number, .int m_letters, .long m_word, .ref a_c, .ref a_words, .int m_markMany, .ref a_there, .ref a_tried, .ref a_best, .ref a_found, .int m_thereMany, .int m_foundMany, .int m_orderHow, .int m_orderRing, .int m_orderMany, .int m_hasBest, .long m_bestTop, .long m_bestBy, .ref a_weights, .ref a_shared, .int m_random, .int m_truePlace, .int m_trueWay, .int m_seconds, .int m_done, .int m_feelings, .int m_tries, .int m_leftOver, .int m_playDoor, .int m_playRing, .int m_isOpen, .int m_isOver, .int m_wasTried, .int m_hasPlayed, .ref a_feltNow, .ref a_last, .ref a_kept, .int m_hasSeconds, .int m_hasTurned, .int m_hasRound, .ref a_hasFeels, .ref a_isOn, .int m_firstAct, .long m_meanTop, .long m_meanBy, .ref a_order, .int m_rowMany, .int m_newSteps]))]) ⟨hx, hb, hml, hown, hts⟩ hK hE hT hP hD hS hA (r_spelled l G cA 102 101 97 116 117 114 (by decide +kernel) (by decide +kernel) (by decide +kernel) (by decide +kernel) (by decide +kernel) (by decide +kernel)) lk_RX12_158 ⟨rfl, rfl⟩ ⟨Nat.le_of_ble_eq_true rfl, Nat.le_of_ble_eq_true rfl⟩ [] [0] rfl rfl (by decide) rfl hl.1 rfl (lv_room (Nat.le_of_ble_eq_true rfl)) dX12_houseWord_13 ⟨Nat.le_of_ble_eq_true rfl, Nat.le_of_ble_eq_true rfl⟩ (fun r_1 u_2 H locs hw hP hD hS => ?_)
  obtain ⟨he_r_1, hw⟩ := hw
  have hr_r_1 := hw
  refine lv_ldc2 (v := 32) hx hb hown (hts _ tw_2154) dX12_houseWord_16 ?_
  refine lv_lmul hx hb dX12_houseWord_19 ?_
  refine lv_topl (fun x_4 he_x_4 => ?_)
  have hq_x_4 := z_mulql he_x_4 (rfl : r_1.toInt = _) hkl_32 (by omega) (by omega)
  refine lv_ldc2 (v := 101) hx hb hown (hts _ tw_2170) dX12_houseWord_20 ?_
  refine lv_ladd hx hb dX12_houseWord_23 ?_
  refine lv_topl (fun x_5 he_x_5 => ?_)
  have hq_x_5 := z_addql he_x_5 (rfl : x_4.toInt = _) hkl_101 (by omega) (by omega)
  refine lv_ldc2 (v := 96) hx hb hown (hts _ tw_2155) dX12_houseWord_24 ?_
  refine lv_lsub hx hb dX12_houseWord_27 ?_
  refine lv_topl (fun x_6 he_x_6 => ?_)
  have hq_x_6 := z_subql he_x_6 (rfl : x_5.toInt = _) hkl_96 (by omega) (by omega)
  refine z_callVi (As := [.long x_6]) (rest := []) (wr := []) ⟨hx, hb, hml, hown, hts⟩ hK hE hT hP hD hS hA (r_isWord l G cA h0 m_status m_thrown m_above m_under a_traySort a_trayMany a_numbers a_tape m_taped m_textEnd m_faultKind m_faultAt m_bad m_badAt m_token m_at m_behind m_number m_letters m_word a_c a_words m_markMany a_there a_tried a_best a_found m_thereMany m_foundMany m_orderHow m_orderRing m_orderMany m_hasBest m_bestTop m_bestBy a_weights a_shared m_random m_truePlace m_trueWay m_seconds m_done m_feelings m_tries m_leftOver m_playDoor m_playRing m_isOpen m_isOver m_wasTried m_hasPlayed a_feltNow a_last a_kept m_hasSeconds m_hasTurned m_hasRound a_hasFeels a_isOn m_firstAct m_meanTop m_meanBy a_order m_rowMany m_newSteps x_6 hr_m_token) lk_RX12_164 ⟨rfl, rfl⟩ ⟨Nat.le_of_ble_eq_true rfl, Nat.le_of_ble_eq_true rfl⟩ 12 rfl rfl rfl [0] [] rfl rfl (by decide) rfl hl.1 rfl (lv_room (Nat.le_of_ble_eq_true rfl)) dX12_houseWord_28 ⟨Nat.le_of_ble_eq_true rfl, Nat.le_of_ble_eq_true rfl⟩ (fun r_7 u_8 H locs hw hP hD hS => ?_)
  obtain ⟨he_r_7, hw⟩ := hw
  rcases hw with ⟨rfl, -⟩ | ⟨rfl, hf_10⟩
  · skip
    refine lv_if_eq (tgt := 36) hx hb dX12_houseWord_31 (by decide) (fun _ => ?_) (fun h9 => absurd (by decide +kernel) h9)
    refine lv_aload_n hx hb dX12_houseWord_36 rfl (lv_at hl 0 rfl) ?_
    refine lv_bipush (v := 102) hx hb dX12_houseWord_37 (by decide) ?_
    refine lv_bipush (v := 101) hx hb dX12_houseWord_39 (by decide) ?_
    refine lv_bipush (v := 101) hx hb dX12_houseWord_41 (by decide) ?_
    refine lv_bipush (v := 108) hx hb dX12_houseWord_43 (by decide) ?_
    refine lv_bipush (v := 115) hx hb dX12_houseWord_45 (by decide) ?_
    refine lv_iconst (v := 0) hx hb dX12_houseWord_47 (by decide) ?_
    refine z_callSl (As := [.int 102, .int 101, .int 101, .int 108, .int 115, .int 0]) (rest := [.ref h0]) (wr := [(h0, .inr (12, [.int m_status, .int m_thrown, .long m_above, .long m_under, .ref a_traySort, .ref a_trayMany, .ref a_numbers, .ref a_tape, .int m_taped, .int m_textEnd, .int m_faultKind, .int m_faultAt, .int m_bad, .int m_badAt, .int m_token, .int m_at, .int m_behind, .int m_number, .int m_letters, .long m_word, .ref a_c, .ref a_words, .int m_markMany, .ref a_there, .ref a_tried, .ref a_best, .ref a_found, .int m_thereMany, .int m_foundMany, .int m_orderHow, .int m_orderRing, .int m_orderMany, .int m_hasBest, .long m_bestTop, .long m_bestBy, .ref a_weights, .ref a_shared, .int m_random, .int m_truePlace, .int m_trueWay, .int m_seconds, .int m_done, .int m_feelings, .int m_tries, .int m_leftOver, .int m_playDoor, .int m_playRing, .int m_isOpen, .int m_isOver, .int m_wasTried, .int m_hasPlayed, .ref a_feltNow, .ref a_last, .ref a_kept, .int m_hasSeconds, .int m_hasTurned, .int m_hasRound, .ref a_hasFeels, .ref a_isOn, .int m_firstAct, .long m_meanTop, .long m_meanBy, .ref a_order, .int m_rowMany, .int m_newSteps]))]) ⟨hx, hb, hml, hown, hts⟩ hK hE hT hP hD hS hA (r_spelled l G cA 102 101 101 108 115 0 (by decide +kernel) (by decide +kernel) (by decide +kernel) (by decide +kernel) (by decide +kernel) (by decide +kernel)) lk_RX12_158 ⟨rfl, rfl⟩ ⟨Nat.le_of_ble_eq_true rfl, Nat.le_of_ble_eq_true rfl⟩ [] [0] rfl rfl (by decide) rfl hl.1 rfl (lv_room (Nat.le_of_ble_eq_true rfl)) dX12_houseWord_48 ⟨Nat.le_of_ble_eq_true rfl, Nat.le_of_ble_eq_true rfl⟩ (fun r_11 u_12 H locs hw hP hD hS => ?_)
    obtain ⟨he_r_11, hw⟩ := hw
    have hr_r_11 := hw
    refine z_callVi (As := [.long r_11]) (rest := []) (wr := []) ⟨hx, hb, hml, hown, hts⟩ hK hE hT hP hD hS hA (r_isWord l G cA h0 m_status m_thrown m_above m_under a_traySort a_trayMany a_numbers a_tape m_taped m_textEnd m_faultKind m_faultAt m_bad m_badAt m_token m_at m_behind m_number m_letters m_word a_c a_words m_markMany a_there a_tried a_best a_found m_thereMany m_foundMany m_orderHow m_orderRing m_orderMany m_hasBest m_bestTop m_bestBy a_weights a_shared m_random m_truePlace m_trueWay m_seconds m_done m_feelings m_tries m_leftOver m_playDoor m_playRing m_isOpen m_isOver m_wasTried m_hasPlayed a_feltNow a_last a_kept m_hasSeconds m_hasTurned m_hasRound a_hasFeels a_isOn m_firstAct m_meanTop m_meanBy a_order m_rowMany m_newSteps r_11 hr_m_token) lk_RX12_164 ⟨rfl, rfl⟩ ⟨Nat.le_of_ble_eq_true rfl, Nat.le_of_ble_eq_true rfl⟩ 12 rfl rfl rfl [0] [] rfl rfl (by decide) rfl hl.1 rfl (lv_room (Nat.le_of_ble_eq_true rfl)) dX12_houseWord_51 ⟨Nat.le_of_ble_eq_true rfl, Nat.le_of_ble_eq_true rfl⟩ (fun r_14 u_15 H locs hw hP hD hS => ?_)
    obtain ⟨he_r_14, hw⟩ := hw
    rcases hw with ⟨rfl, -⟩ | ⟨rfl, hf_17⟩
    · skip
      refine lv_if_eq (tgt := 59) hx hb dX12_houseWord_54 (by decide) (fun _ => ?_) (fun h9 => absurd (by decide +kernel) h9)
      refine lv_aload_n hx hb dX12_houseWord_59 rfl (lv_at hl 0 rfl) ?_
      refine lv_bipush (v := 107) hx hb dX12_houseWord_60 (by decide) ?_
      refine lv_bipush (v := 101) hx hb dX12_houseWord_62 (by decide) ?_
      refine lv_bipush (v := 121) hx hb dX12_houseWord_64 (by decide) ?_
      refine lv_iconst (v := 0) hx hb dX12_houseWord_66 (by decide) ?_
      refine lv_iconst (v := 0) hx hb dX12_houseWord_67 (by decide) ?_
      refine lv_iconst (v := 0) hx hb dX12_houseWord_68 (by decide) ?_
      refine z_callSl (As := [.int 107, .int 101, .int 121, .int 0, .int 0, .int 0]) (rest := [.ref h0]) (wr := [(h0, .inr (12, [.int m_status, .int m_thrown, .long m_above, .long m_under, .ref a_traySort, .ref a_trayMany, .ref a_numbers, .ref a_tape, .int m_taped, .int m_textEnd, .int m_faultKind, .int m_faultAt, .int m_bad, .int m_badAt, .int m_token, .int m_at, .int m_behind, .int m_number, .int m_letters, .long m_word, .ref a_c, .ref a_words, .int m_markMany, .ref a_there, .ref a_tried, .ref a_best, .ref a_found, .int m_thereMany, .int m_foundMany, .int m_orderHow, .int m_orderRing, .int m_orderMany, .int m_hasBest, .long m_bestTop, .long m_bestBy, .ref a_weights, .ref a_shared, .int m_random, .int m_truePlace, .int m_trueWay, .int m_seconds, .int m_done, .int m_feelings, .int m_tries, .int m_leftOver, .int m_playDoor, .int m_playRing, .int m_isOpen, .int m_isOver, .int m_wasTried, .int m_hasPlayed, .ref a_feltNow, .ref a_last, .ref a_kept, .int m_hasSeconds, .int m_hasTurned, .int m_hasRound, .ref a_hasFeels, .ref a_isOn, .int m_firstAct, .long m_meanTop, .long m_meanBy, .ref a_order, .int m_rowMany, .int m_newSteps]))]) ⟨hx, hb, hml, hown, hts⟩ hK hE hT hP hD hS hA (r_spelled l G cA 107 101 121 0 0 0 (by decide +kernel) (by decide +kernel) (by decide +kernel) (by decide +kernel) (by decide +kernel) (by decide +kernel)) lk_RX12_158 ⟨rfl, rfl⟩ ⟨Nat.le_of_ble_eq_true rfl, Nat.le_of_ble_eq_true rfl⟩ [] [0] rfl rfl (by decide) rfl hl.1 rfl (lv_room (Nat.le_of_ble_eq_true rfl)) dX12_houseWord_69 ⟨Nat.le_of_ble_eq_true rfl, Nat.le_of_ble_eq_true rfl⟩ (fun r_18 u_19 H locs hw hP hD hS => ?_)
      obtain ⟨he_r_18, hw⟩ := hw
      have hr_r_18 := hw
      refine z_callVi (As := [.long r_18]) (rest := []) (wr := []) ⟨hx, hb, hml, hown, hts⟩ hK hE hT hP hD hS hA (r_isWord l G cA h0 m_status m_thrown m_above m_under a_traySort a_trayMany a_numbers a_tape m_taped m_textEnd m_faultKind m_faultAt m_bad m_badAt m_token m_at m_behind m_number m_letters m_word a_c a_words m_markMany a_there a_tried a_best a_found m_thereMany m_foundMany m_orderHow m_orderRing m_orderMany m_hasBest m_bestTop m_bestBy a_weights a_shared m_random m_truePlace m_trueWay m_seconds m_done m_feelings m_tries m_leftOver m_playDoor m_playRing m_isOpen m_isOver m_wasTried m_hasPlayed a_feltNow a_last a_kept m_hasSeconds m_hasTurned m_hasRound a_hasFeels a_isOn m_firstAct m_meanTop m_meanBy a_order m_rowMany m_newSteps r_18 hr_m_token) lk_RX12_164 ⟨rfl, rfl⟩ ⟨Nat.le_of_ble_eq_true rfl, Nat.le_of_ble_eq_true rfl⟩ 12 rfl rfl rfl [0] [] rfl rfl (by decide) rfl hl.1 rfl (lv_room (Nat.le_of_ble_eq_true rfl)) dX12_houseWord_72 ⟨Nat.le_of_ble_eq_true rfl, Nat.le_of_ble_eq_true rfl⟩ (fun r_21 u_22 H locs hw hP hD hS => ?_)
      obtain ⟨he_r_21, hw⟩ := hw
      rcases hw with ⟨rfl, -⟩ | ⟨rfl, hf_24⟩
      · skip
        refine lv_if_eq (tgt := 80) hx hb dX12_houseWord_75 (by decide) (fun _ => ?_) (fun h9 => absurd (by decide +kernel) h9)
        refine lv_aload_n hx hb dX12_houseWord_80 rfl (lv_at hl 0 rfl) ?_
        refine lv_bipush (v := 114) hx hb dX12_houseWord_81 (by decide) ?_
        refine lv_bipush (v := 105) hx hb dX12_houseWord_83 (by decide) ?_
        refine lv_bipush (v := 110) hx hb dX12_houseWord_85 (by decide) ?_
        refine lv_bipush (v := 103) hx hb dX12_houseWord_87 (by decide) ?_
        refine lv_iconst (v := 0) hx hb dX12_houseWord_89 (by decide) ?_
        refine lv_iconst (v := 0) hx hb dX12_houseWord_90 (by decide) ?_
        refine z_callSl (As := [.int 114, .int 105, .int 110, .int 103, .int 0, .int 0]) (rest := [.ref h0]) (wr := [(h0, .inr (12, [.int m_status, .int m_thrown, .long m_above, .long m_under, .ref a_traySort, .ref a_trayMany, .ref a_numbers, .ref a_tape, .int m_taped, .int m_textEnd, .int m_faultKind, .int m_faultAt, .int m_bad, .int m_badAt, .int m_token, .int m_at, .int m_behind, .int m_number, .int m_letters, .long m_word, .ref a_c, .ref a_words, .int m_markMany, .ref a_there, .ref a_tried, .ref a_best, .ref a_found, .int m_thereMany, .int m_foundMany, .int m_orderHow, .int m_orderRing, .int m_orderMany, .int m_hasBest, .long m_bestTop, .long m_bestBy, .ref a_weights, .ref a_shared, .int m_random, .int m_truePlace, .int m_trueWay, .int m_seconds, .int m_done, .int m_feelings, .int m_tries, .int m_leftOver, .int m_playDoor, .int m_playRing, .int m_isOpen, .int m_isOver, .int m_wasTried, .int m_hasPlayed, .ref a_feltNow, .ref a_last, .ref a_kept, .int m_hasSeconds, .int m_hasTurned, .int m_hasRound, .ref a_hasFeels, .ref a_isOn, .int m_firstAct, .long m_meanTop, .long m_meanBy, .ref a_order, .int m_rowMany, .int m_newSteps]))]) ⟨hx, hb, hml, hown, hts⟩ hK hE hT hP hD hS hA (r_spelled l G cA 114 105 110 103 0 0 (by decide +kernel) (by decide +kernel) (by decide +kernel) (by decide +kernel) (by decide +kernel) (by decide +kernel)) lk_RX12_158 ⟨rfl, rfl⟩ ⟨Nat.le_of_ble_eq_true rfl, Nat.le_of_ble_eq_true rfl⟩ [] [0] rfl rfl (by decide) rfl hl.1 rfl (lv_room (Nat.le_of_ble_eq_true rfl)) dX12_houseWord_91 ⟨Nat.le_of_ble_eq_true rfl, Nat.le_of_ble_eq_true rfl⟩ (fun r_25 u_26 H locs hw hP hD hS => ?_)
        obtain ⟨he_r_25, hw⟩ := hw
        have hr_r_25 := hw
        refine z_callVi (As := [.long r_25]) (rest := []) (wr := []) ⟨hx, hb, hml, hown, hts⟩ hK hE hT hP hD hS hA (r_isWord l G cA h0 m_status m_thrown m_above m_under a_traySort a_trayMany a_numbers a_tape m_taped m_textEnd m_faultKind m_faultAt m_bad m_badAt m_token m_at m_behind m_number m_letters m_word a_c a_words m_markMany a_there a_tried a_best a_found m_thereMany m_foundMany m_orderHow m_orderRing m_orderMany m_hasBest m_bestTop m_bestBy a_weights a_shared m_random m_truePlace m_trueWay m_seconds m_done m_feelings m_tries m_leftOver m_playDoor m_playRing m_isOpen m_isOver m_wasTried m_hasPlayed a_feltNow a_last a_kept m_hasSeconds m_hasTurned m_hasRound a_hasFeels a_isOn m_firstAct m_meanTop m_meanBy a_order m_rowMany m_newSteps r_25 hr_m_token) lk_RX12_164 ⟨rfl, rfl⟩ ⟨Nat.le_of_ble_eq_true rfl, Nat.le_of_ble_eq_true rfl⟩ 12 rfl rfl rfl [0] [] rfl rfl (by decide) rfl hl.1 rfl (lv_room (Nat.le_of_ble_eq_true rfl)) dX12_houseWord_94 ⟨Nat.le_of_ble_eq_true rfl, Nat.le_of_ble_eq_true rfl⟩ (fun r_28 u_29 H locs hw hP hD hS => ?_)
        obtain ⟨he_r_28, hw⟩ := hw
        rcases hw with ⟨rfl, -⟩ | ⟨rfl, hf_31⟩
        · skip
          refine lv_if_eq (tgt := 102) hx hb dX12_houseWord_97 (by decide) (fun _ => ?_) (fun h9 => absurd (by decide +kernel) h9)
          refine lv_aload_n hx hb dX12_houseWord_102 rfl (lv_at hl 0 rfl) ?_
          refine lv_bipush (v := 100) hx hb dX12_houseWord_103 (by decide) ?_
          refine lv_bipush (v := 111) hx hb dX12_houseWord_105 (by decide) ?_
          refine lv_bipush (v := 111) hx hb dX12_houseWord_107 (by decide) ?_
          refine lv_bipush (v := 114) hx hb dX12_houseWord_109 (by decide) ?_
          refine lv_iconst (v := 0) hx hb dX12_houseWord_111 (by decide) ?_
          refine lv_iconst (v := 0) hx hb dX12_houseWord_112 (by decide) ?_
          refine z_callSl (As := [.int 100, .int 111, .int 111, .int 114, .int 0, .int 0]) (rest := [.ref h0]) (wr := [(h0, .inr (12, [.int m_status, .int m_thrown, .long m_above, .long m_under, .ref a_traySort, .ref a_trayMany, .ref a_numbers, .ref a_tape, .int m_taped, .int m_textEnd, .int m_faultKind, .int m_faultAt, .int m_bad, .int m_badAt, .int m_token, .int m_at, .int m_behind, .int m_number, .int m_letters, .long m_word, .ref a_c, .ref a_words, .int m_markMany, .ref a_there, .ref a_tried, .ref a_best, .ref a_found, .int m_thereMany, .int m_foundMany, .int m_orderHow, .int m_orderRing, .int m_orderMany, .int m_hasBest, .long m_bestTop, .long m_bestBy, .ref a_weights, .ref a_shared, .int m_random, .int m_truePlace, .int m_trueWay, .int m_seconds, .int m_done, .int m_feelings, .int m_tries, .int m_leftOver, .int m_playDoor, .int m_playRing, .int m_isOpen, .int m_isOver, .int m_wasTried, .int m_hasPlayed, .ref a_feltNow, .ref a_last, .ref a_kept, .int m_hasSeconds, .int m_hasTurned, .int m_hasRound, .ref a_hasFeels, .ref a_isOn, .int m_firstAct, .long m_meanTop, .long m_meanBy, .ref a_order, .int m_rowMany, .int m_newSteps]))]) ⟨hx, hb, hml, hown, hts⟩ hK hE hT hP hD hS hA (r_spelled l G cA 100 111 111 114 0 0 (by decide +kernel) (by decide +kernel) (by decide +kernel) (by decide +kernel) (by decide +kernel) (by decide +kernel)) lk_RX12_158 ⟨rfl, rfl⟩ ⟨Nat.le_of_ble_eq_true rfl, Nat.le_of_ble_eq_true rfl⟩ [] [0] rfl rfl (by decide) rfl hl.1 rfl (lv_room (Nat.le_of_ble_eq_true rfl)) dX12_houseWord_113 ⟨Nat.le_of_ble_eq_true rfl, Nat.le_of_ble_eq_true rfl⟩ (fun r_32 u_33 H locs hw hP hD hS => ?_)
          obtain ⟨he_r_32, hw⟩ := hw
          have hr_r_32 := hw
          refine z_callVi (As := [.long r_32]) (rest := []) (wr := []) ⟨hx, hb, hml, hown, hts⟩ hK hE hT hP hD hS hA (r_isWord l G cA h0 m_status m_thrown m_above m_under a_traySort a_trayMany a_numbers a_tape m_taped m_textEnd m_faultKind m_faultAt m_bad m_badAt m_token m_at m_behind m_number m_letters m_word a_c a_words m_markMany a_there a_tried a_best a_found m_thereMany m_foundMany m_orderHow m_orderRing m_orderMany m_hasBest m_bestTop m_bestBy a_weights a_shared m_random m_truePlace m_trueWay m_seconds m_done m_feelings m_tries m_leftOver m_playDoor m_playRing m_isOpen m_isOver m_wasTried m_hasPlayed a_feltNow a_last a_kept m_hasSeconds m_hasTurned m_hasRound a_hasFeels a_isOn m_firstAct m_meanTop m_meanBy a_order m_rowMany m_newSteps r_32 hr_m_token) lk_RX12_164 ⟨rfl, rfl⟩ ⟨Nat.le_of_ble_eq_true rfl, Nat.le_of_ble_eq_true rfl⟩ 12 rfl rfl rfl [0] [] rfl rfl (by decide) rfl hl.1 rfl (lv_room (Nat.le_of_ble_eq_true rfl)) dX12_houseWord_116 ⟨Nat.le_of_ble_eq_true rfl, Nat.le_of_ble_eq_true rfl⟩ (fun r_35 u_36 H locs hw hP hD hS => ?_)
          obtain ⟨he_r_35, hw⟩ := hw
          rcases hw with ⟨rfl, -⟩ | ⟨rfl, hf_38⟩
          · skip
            refine lv_if_eq (tgt := 124) hx hb dX12_houseWord_119 (by decide) (fun _ => ?_) (fun h9 => absurd (by decide +kernel) h9)
            refine lv_aload_n hx hb dX12_houseWord_124 rfl (lv_at hl 0 rfl) ?_
            refine lv_bipush (v := 115) hx hb dX12_houseWord_125 (by decide) ?_
            refine lv_bipush (v := 101) hx hb dX12_houseWord_127 (by decide) ?_
            refine lv_bipush (v := 99) hx hb dX12_houseWord_129 (by decide) ?_
            refine lv_bipush (v := 111) hx hb dX12_houseWord_131 (by decide) ?_
            refine lv_bipush (v := 110) hx hb dX12_houseWord_133 (by decide) ?_
            refine lv_bipush (v := 100) hx hb dX12_houseWord_135 (by decide) ?_
            refine z_callSl (As := [.int 115, .int 101, .int 99, .int 111, .int 110, .int 100]) (rest := [.ref h0]) (wr := [(h0, .inr (12, [.int m_status, .int m_thrown, .long m_above, .long m_under, .ref a_traySort, .ref a_trayMany, .ref a_numbers, .ref a_tape, .int m_taped, .int m_textEnd, .int m_faultKind, .int m_faultAt, .int m_bad, .int m_badAt, .int m_token, .int m_at, .int m_behind, .int m_number, .int m_letters, .long m_word, .ref a_c, .ref a_words, .int m_markMany, .ref a_there, .ref a_tried, .ref a_best, .ref a_found, .int m_thereMany, .int m_foundMany, .int m_orderHow, .int m_orderRing, .int m_orderMany, .int m_hasBest, .long m_bestTop, .long m_bestBy, .ref a_weights, .ref a_shared, .int m_random, .int m_truePlace, .int m_trueWay, .int m_seconds, .int m_done, .int m_feelings, .int m_tries, .int m_leftOver, .int m_playDoor, .int m_playRing, .int m_isOpen, .int m_isOver, .int m_wasTried, .int m_hasPlayed, .ref a_feltNow, .ref a_last, .ref a_kept, .int m_hasSeconds, .int m_hasTurned, .int m_hasRound, .ref a_hasFeels, .ref a_isOn, .int m_firstAct, .long m_meanTop, .long m_meanBy, .ref a_order, .int m_rowMany, .int m_newSteps]))]) ⟨hx, hb, hml, hown, hts⟩ hK hE hT hP hD hS hA (r_spelled l G cA 115 101 99 111 110 100 (by decide +kernel) (by decide +kernel) (by decide +kernel) (by decide +kernel) (by decide +kernel) (by decide +kernel)) lk_RX12_158 ⟨rfl, rfl⟩ ⟨Nat.le_of_ble_eq_true rfl, Nat.le_of_ble_eq_true rfl⟩ [] [0] rfl rfl (by decide) rfl hl.1 rfl (lv_room (Nat.le_of_ble_eq_true rfl)) dX12_houseWord_137 ⟨Nat.le_of_ble_eq_true rfl, Nat.le_of_ble_eq_true rfl⟩ (fun r_39 u_40 H locs hw hP hD hS => ?_)
            obtain ⟨he_r_39, hw⟩ := hw
            have hr_r_39 := hw
            refine lv_ldc2 (v := 32) hx hb hown (hts _ tw_2154) dX12_houseWord_140 ?_
            refine lv_lmul hx hb dX12_houseWord_143 ?_
            refine lv_topl (fun x_42 he_x_42 => ?_)
            have hq_x_42 := z_mulql he_x_42 (rfl : r_39.toInt = _) hkl_32 (by omega) (by omega)
            refine lv_ldc2 (v := 115) hx hb hown (hts _ tw_2175) dX12_houseWord_144 ?_
            refine lv_ladd hx hb dX12_houseWord_147 ?_
            refine lv_topl (fun x_43 he_x_43 => ?_)
            have hq_x_43 := z_addql he_x_43 (rfl : x_42.toInt = _) hkl_115 (by omega) (by omega)
            refine lv_ldc2 (v := 96) hx hb hown (hts _ tw_2155) dX12_houseWord_148 ?_
            refine lv_lsub hx hb dX12_houseWord_151 ?_
            refine lv_topl (fun x_44 he_x_44 => ?_)
            have hq_x_44 := z_subql he_x_44 (rfl : x_43.toInt = _) hkl_96 (by omega) (by omega)
            refine z_callVi (As := [.long x_44]) (rest := []) (wr := []) ⟨hx, hb, hml, hown, hts⟩ hK hE hT hP hD hS hA (r_isWord l G cA h0 m_status m_thrown m_above m_under a_traySort a_trayMany a_numbers a_tape m_taped m_textEnd m_faultKind m_faultAt m_bad m_badAt m_token m_at m_behind m_number m_letters m_word a_c a_words m_markMany a_there a_tried a_best a_found m_thereMany m_foundMany m_orderHow m_orderRing m_orderMany m_hasBest m_bestTop m_bestBy a_weights a_shared m_random m_truePlace m_trueWay m_seconds m_done m_feelings m_tries m_leftOver m_playDoor m_playRing m_isOpen m_isOver m_wasTried m_hasPlayed a_feltNow a_last a_kept m_hasSeconds m_hasTurned m_hasRound a_hasFeels a_isOn m_firstAct m_meanTop m_meanBy a_order m_rowMany m_newSteps x_44 hr_m_token) lk_RX12_164 ⟨rfl, rfl⟩ ⟨Nat.le_of_ble_eq_true rfl, Nat.le_of_ble_eq_true rfl⟩ 12 rfl rfl rfl [0] [] rfl rfl (by decide) rfl hl.1 rfl (lv_room (Nat.le_of_ble_eq_true rfl)) dX12_houseWord_152 ⟨Nat.le_of_ble_eq_true rfl, Nat.le_of_ble_eq_true rfl⟩ (fun r_45 u_46 H locs hw hP hD hS => ?_)
            obtain ⟨he_r_45, hw⟩ := hw
            rcases hw with ⟨rfl, -⟩ | ⟨rfl, hf_48⟩
            · skip
              refine lv_if_eq (tgt := 160) hx hb dX12_houseWord_155 (by decide) (fun _ => ?_) (fun h9 => absurd (by decide +kernel) h9)
              refine lv_aload_n hx hb dX12_houseWord_160 rfl (lv_at hl 0 rfl) ?_
              refine lv_bipush (v := 116) hx hb dX12_houseWord_161 (by decide) ?_
              refine lv_bipush (v := 117) hx hb dX12_houseWord_163 (by decide) ?_
              refine lv_bipush (v := 114) hx hb dX12_houseWord_165 (by decide) ?_
              refine lv_bipush (v := 110) hx hb dX12_houseWord_167 (by decide) ?_
              refine lv_bipush (v := 101) hx hb dX12_houseWord_169 (by decide) ?_
              refine lv_bipush (v := 100) hx hb dX12_houseWord_171 (by decide) ?_
              refine z_callSl (As := [.int 116, .int 117, .int 114, .int 110, .int 101, .int 100]) (rest := [.ref h0]) (wr := [(h0, .inr (12, [.int m_status, .int m_thrown, .long m_above, .long m_under, .ref a_traySort, .ref a_trayMany, .ref a_numbers, .ref a_tape, .int m_taped, .int m_textEnd, .int m_faultKind, .int m_faultAt, .int m_bad, .int m_badAt, .int m_token, .int m_at, .int m_behind, .int m_number, .int m_letters, .long m_word, .ref a_c, .ref a_words, .int m_markMany, .ref a_there, .ref a_tried, .ref a_best, .ref a_found, .int m_thereMany, .int m_foundMany, .int m_orderHow, .int m_orderRing, .int m_orderMany, .int m_hasBest, .long m_bestTop, .long m_bestBy, .ref a_weights, .ref a_shared, .int m_random, .int m_truePlace, .int m_trueWay, .int m_seconds, .int m_done, .int m_feelings, .int m_tries, .int m_leftOver, .int m_playDoor, .int m_playRing, .int m_isOpen, .int m_isOver, .int m_wasTried, .int m_hasPlayed, .ref a_feltNow, .ref a_last, .ref a_kept, .int m_hasSeconds, .int m_hasTurned, .int m_hasRound, .ref a_hasFeels, .ref a_isOn, .int m_firstAct, .long m_meanTop, .long m_meanBy, .ref a_order, .int m_rowMany, .int m_newSteps]))]) ⟨hx, hb, hml, hown, hts⟩ hK hE hT hP hD hS hA (r_spelled l G cA 116 117 114 110 101 100 (by decide +kernel) (by decide +kernel) (by decide +kernel) (by decide +kernel) (by decide +kernel) (by decide +kernel)) lk_RX12_158 ⟨rfl, rfl⟩ ⟨Nat.le_of_ble_eq_true rfl, Nat.le_of_ble_eq_true rfl⟩ [] [0] rfl rfl (by decide) rfl hl.1 rfl (lv_room (Nat.le_of_ble_eq_true rfl)) dX12_houseWord_173 ⟨Nat.le_of_ble_eq_true rfl, Nat.le_of_ble_eq_true rfl⟩ (fun r_49 u_50 H locs hw hP hD hS => ?_)
              obtain ⟨he_r_49, hw⟩ := hw
              have hr_r_49 := hw
              refine z_callVi (As := [.long r_49]) (rest := []) (wr := []) ⟨hx, hb, hml, hown, hts⟩ hK hE hT hP hD hS hA (r_isWord l G cA h0 m_status m_thrown m_above m_under a_traySort a_trayMany a_numbers a_tape m_taped m_textEnd m_faultKind m_faultAt m_bad m_badAt m_token m_at m_behind m_number m_letters m_word a_c a_words m_markMany a_there a_tried a_best a_found m_thereMany m_foundMany m_orderHow m_orderRing m_orderMany m_hasBest m_bestTop m_bestBy a_weights a_shared m_random m_truePlace m_trueWay m_seconds m_done m_feelings m_tries m_leftOver m_playDoor m_playRing m_isOpen m_isOver m_wasTried m_hasPlayed a_feltNow a_last a_kept m_hasSeconds m_hasTurned m_hasRound a_hasFeels a_isOn m_firstAct m_meanTop m_meanBy a_order m_rowMany m_newSteps r_49 hr_m_token) lk_RX12_164 ⟨rfl, rfl⟩ ⟨Nat.le_of_ble_eq_true rfl, Nat.le_of_ble_eq_true rfl⟩ 12 rfl rfl rfl [0] [] rfl rfl (by decide) rfl hl.1 rfl (lv_room (Nat.le_of_ble_eq_true rfl)) dX12_houseWord_176 ⟨Nat.le_of_ble_eq_true rfl, Nat.le_of_ble_eq_true rfl⟩ (fun r_52 u_53 H locs hw hP hD hS => ?_)
              obtain ⟨he_r_52, hw⟩ := hw
              rcases hw with ⟨rfl, -⟩ | ⟨rfl, hf_55⟩
              · skip
                refine lv_if_eq (tgt := 185) hx hb dX12_houseWord_179 (by decide) (fun _ => ?_) (fun h9 => absurd (by decide +kernel) h9)
                refine lv_aload_n hx hb dX12_houseWord_185 rfl (lv_at hl 0 rfl) ?_
                refine lv_bipush (v := 114) hx hb dX12_houseWord_186 (by decide) ?_
                refine lv_bipush (v := 111) hx hb dX12_houseWord_188 (by decide) ?_
                refine lv_bipush (v := 117) hx hb dX12_houseWord_190 (by decide) ?_
                refine lv_bipush (v := 110) hx hb dX12_houseWord_192 (by decide) ?_
                refine lv_bipush (v := 100) hx hb dX12_houseWord_194 (by decide) ?_
                refine lv_iconst (v := 0) hx hb dX12_houseWord_196 (by decide) ?_
                refine z_callSl (As := [.int 114, .int 111, .int 117, .int 110, .int 100, .int 0]) (rest := [.ref h0]) (wr := [(h0, .inr (12, [.int m_status, .int m_thrown, .long m_above, .long m_under, .ref a_traySort, .ref a_trayMany, .ref a_numbers, .ref a_tape, .int m_taped, .int m_textEnd, .int m_faultKind, .int m_faultAt, .int m_bad, .int m_badAt, .int m_token, .int m_at, .int m_behind, .int m_number, .int m_letters, .long m_word, .ref a_c, .ref a_words, .int m_markMany, .ref a_there, .ref a_tried, .ref a_best, .ref a_found, .int m_thereMany, .int m_foundMany, .int m_orderHow, .int m_orderRing, .int m_orderMany, .int m_hasBest, .long m_bestTop, .long m_bestBy, .ref a_weights, .ref a_shared, .int m_random, .int m_truePlace, .int m_trueWay, .int m_seconds, .int m_done, .int m_feelings, .int m_tries, .int m_leftOver, .int m_playDoor, .int m_playRing, .int m_isOpen, .int m_isOver, .int m_wasTried, .int m_hasPlayed, .ref a_feltNow, .ref a_last, .ref a_kept, .int m_hasSeconds, .int m_hasTurned, .int m_hasRound, .ref a_hasFeels, .ref a_isOn, .int m_firstAct, .long m_meanTop, .long m_meanBy, .ref a_order, .int m_rowMany, .int m_newSteps]))]) ⟨hx, hb, hml, hown, hts⟩ hK hE hT hP hD hS hA (r_spelled l G cA 114 111 117 110 100 0 (by decide +kernel) (by decide +kernel) (by decide +kernel) (by decide +kernel) (by decide +kernel) (by decide +kernel)) lk_RX12_158 ⟨rfl, rfl⟩ ⟨Nat.le_of_ble_eq_true rfl, Nat.le_of_ble_eq_true rfl⟩ [] [0] rfl rfl (by decide) rfl hl.1 rfl (lv_room (Nat.le_of_ble_eq_true rfl)) dX12_houseWord_197 ⟨Nat.le_of_ble_eq_true rfl, Nat.le_of_ble_eq_true rfl⟩ (fun r_56 u_57 H locs hw hP hD hS => ?_)
                obtain ⟨he_r_56, hw⟩ := hw
                have hr_r_56 := hw
                refine z_callVi (As := [.long r_56]) (rest := []) (wr := []) ⟨hx, hb, hml, hown, hts⟩ hK hE hT hP hD hS hA (r_isWord l G cA h0 m_status m_thrown m_above m_under a_traySort a_trayMany a_numbers a_tape m_taped m_textEnd m_faultKind m_faultAt m_bad m_badAt m_token m_at m_behind m_number m_letters m_word a_c a_words m_markMany a_there a_tried a_best a_found m_thereMany m_foundMany m_orderHow m_orderRing m_orderMany m_hasBest m_bestTop m_bestBy a_weights a_shared m_random m_truePlace m_trueWay m_seconds m_done m_feelings m_tries m_leftOver m_playDoor m_playRing m_isOpen m_isOver m_wasTried m_hasPlayed a_feltNow a_last a_kept m_hasSeconds m_hasTurned m_hasRound a_hasFeels a_isOn m_firstAct m_meanTop m_meanBy a_order m_rowMany m_newSteps r_56 hr_m_token) lk_RX12_164 ⟨rfl, rfl⟩ ⟨Nat.le_of_ble_eq_true rfl, Nat.le_of_ble_eq_true rfl⟩ 12 rfl rfl rfl [0] [] rfl rfl (by decide) rfl hl.1 rfl (lv_room (Nat.le_of_ble_eq_true rfl)) dX12_houseWord_200 ⟨Nat.le_of_ble_eq_true rfl, Nat.le_of_ble_eq_true rfl⟩ (fun r_59 u_60 H locs hw hP hD hS => ?_)
                obtain ⟨he_r_59, hw⟩ := hw
                rcases hw with ⟨rfl, -⟩ | ⟨rfl, hf_62⟩
                · skip
                  refine lv_if_eq (tgt := 209) hx hb dX12_houseWord_203 (by decide) (fun _ => ?_) (fun h9 => absurd (by decide +kernel) h9)
                  refine lv_aload_n hx hb dX12_houseWord_209 rfl (lv_at hl 0 rfl) ?_
                  refine lv_bipush (v := 115) hx hb dX12_houseWord_210 (by decide) ?_
                  refine lv_bipush (v := 116) hx hb dX12_houseWord_212 (by decide) ?_
                  refine lv_bipush (v := 101) hx hb dX12_houseWord_214 (by decide) ?_
                  refine lv_bipush (v := 112) hx hb dX12_houseWord_216 (by decide) ?_
                  refine lv_bipush (v := 115) hx hb dX12_houseWord_218 (by decide) ?_
                  refine lv_iconst (v := 0) hx hb dX12_houseWord_220 (by decide) ?_
                  refine z_callSl (As := [.int 115, .int 116, .int 101, .int 112, .int 115, .int 0]) (rest := [.ref h0]) (wr := [(h0, .inr (12, [.int m_status, .int m_thrown, .long m_above, .long m_under, .ref a_traySort, .ref a_trayMany, .ref a_numbers, .ref a_tape, .int m_taped, .int m_textEnd, .int m_faultKind, .int m_faultAt, .int m_bad, .int m_badAt, .int m_token, .int m_at, .int m_behind, .int m_number, .int m_letters, .long m_word, .ref a_c, .ref a_words, .int m_markMany, .ref a_there, .ref a_tried, .ref a_best, .ref a_found, .int m_thereMany, .int m_foundMany, .int m_orderHow, .int m_orderRing, .int m_orderMany, .int m_hasBest, .long m_bestTop, .long m_bestBy, .ref a_weights, .ref a_shared, .int m_random, .int m_truePlace, .int m_trueWay, .int m_seconds, .int m_done, .int m_feelings, .int m_tries, .int m_leftOver, .int m_playDoor, .int m_playRing, .int m_isOpen, .int m_isOver, .int m_wasTried, .int m_hasPlayed, .ref a_feltNow, .ref a_last, .ref a_kept, .int m_hasSeconds, .int m_hasTurned, .int m_hasRound, .ref a_hasFeels, .ref a_isOn, .int m_firstAct, .long m_meanTop, .long m_meanBy, .ref a_order, .int m_rowMany, .int m_newSteps]))]) ⟨hx, hb, hml, hown, hts⟩ hK hE hT hP hD hS hA (r_spelled l G cA 115 116 101 112 115 0 (by decide +kernel) (by decide +kernel) (by decide +kernel) (by decide +kernel) (by decide +kernel) (by decide +kernel)) lk_RX12_158 ⟨rfl, rfl⟩ ⟨Nat.le_of_ble_eq_true rfl, Nat.le_of_ble_eq_true rfl⟩ [] [0] rfl rfl (by decide) rfl hl.1 rfl (lv_room (Nat.le_of_ble_eq_true rfl)) dX12_houseWord_221 ⟨Nat.le_of_ble_eq_true rfl, Nat.le_of_ble_eq_true rfl⟩ (fun r_63 u_64 H locs hw hP hD hS => ?_)
                  obtain ⟨he_r_63, hw⟩ := hw
                  have hr_r_63 := hw
                  refine z_callVi (As := [.long r_63]) (rest := []) (wr := []) ⟨hx, hb, hml, hown, hts⟩ hK hE hT hP hD hS hA (r_isWord l G cA h0 m_status m_thrown m_above m_under a_traySort a_trayMany a_numbers a_tape m_taped m_textEnd m_faultKind m_faultAt m_bad m_badAt m_token m_at m_behind m_number m_letters m_word a_c a_words m_markMany a_there a_tried a_best a_found m_thereMany m_foundMany m_orderHow m_orderRing m_orderMany m_hasBest m_bestTop m_bestBy a_weights a_shared m_random m_truePlace m_trueWay m_seconds m_done m_feelings m_tries m_leftOver m_playDoor m_playRing m_isOpen m_isOver m_wasTried m_hasPlayed a_feltNow a_last a_kept m_hasSeconds m_hasTurned m_hasRound a_hasFeels a_isOn m_firstAct m_meanTop m_meanBy a_order m_rowMany m_newSteps r_63 hr_m_token) lk_RX12_164 ⟨rfl, rfl⟩ ⟨Nat.le_of_ble_eq_true rfl, Nat.le_of_ble_eq_true rfl⟩ 12 rfl rfl rfl [0] [] rfl rfl (by decide) rfl hl.1 rfl (lv_room (Nat.le_of_ble_eq_true rfl)) dX12_houseWord_224 ⟨Nat.le_of_ble_eq_true rfl, Nat.le_of_ble_eq_true rfl⟩ (fun r_66 u_67 H locs hw hP hD hS => ?_)
                  obtain ⟨he_r_66, hw⟩ := hw
                  rcases hw with ⟨rfl, -⟩ | ⟨rfl, hf_69⟩
                  · skip
                    refine lv_if_eq (tgt := 233) hx hb dX12_houseWord_227 (by decide) (fun _ => ?_) (fun h9 => absurd (by decide +kernel) h9)
                    refine lv_aload_n hx hb dX12_houseWord_233 rfl (lv_at hl 0 rfl) ?_
                    refine lv_bipush (v := 119) hx hb dX12_houseWord_234 (by decide) ?_
                    refine lv_bipush (v := 97) hx hb dX12_houseWord_236 (by decide) ?_
                    refine lv_bipush (v := 110) hx hb dX12_houseWord_238 (by decide) ?_
                    refine lv_bipush (v := 116) hx hb dX12_houseWord_240 (by decide) ?_
                    refine lv_bipush (v := 101) hx hb dX12_houseWord_242 (by decide) ?_
                    refine lv_bipush (v := 100) hx hb dX12_houseWord_244 (by decide) ?_
                    refine z_callSl (As := [.int 119, .int 97, .int 110, .int 116, .int 101, .int 100]) (rest := [.ref h0]) (wr := [(h0, .inr (12, [.int m_status, .int m_thrown, .long m_above, .long m_under, .ref a_traySort, .ref a_trayMany, .ref a_numbers, .ref a_tape, .int m_taped, .int m_textEnd, .int m_faultKind, .int m_faultAt, .int m_bad, .int m_badAt, .int m_token, .int m_at, .int m_behind, .int m_number, .int m_letters, .long m_word, .ref a_c, .ref a_words, .int m_markMany, .ref a_there, .ref a_tried, .ref a_best, .ref a_found, .int m_thereMany, .int m_foundMany, .int m_orderHow, .int m_orderRing, .int m_orderMany, .int m_hasBest, .long m_bestTop, .long m_bestBy, .ref a_weights, .ref a_shared, .int m_random, .int m_truePlace, .int m_trueWay, .int m_seconds, .int m_done, .int m_feelings, .int m_tries, .int m_leftOver, .int m_playDoor, .int m_playRing, .int m_isOpen, .int m_isOver, .int m_wasTried, .int m_hasPlayed, .ref a_feltNow, .ref a_last, .ref a_kept, .int m_hasSeconds, .int m_hasTurned, .int m_hasRound, .ref a_hasFeels, .ref a_isOn, .int m_firstAct, .long m_meanTop, .long m_meanBy, .ref a_order, .int m_rowMany, .int m_newSteps]))]) ⟨hx, hb, hml, hown, hts⟩ hK hE hT hP hD hS hA (r_spelled l G cA 119 97 110 116 101 100 (by decide +kernel) (by decide +kernel) (by decide +kernel) (by decide +kernel) (by decide +kernel) (by decide +kernel)) lk_RX12_158 ⟨rfl, rfl⟩ ⟨Nat.le_of_ble_eq_true rfl, Nat.le_of_ble_eq_true rfl⟩ [] [0] rfl rfl (by decide) rfl hl.1 rfl (lv_room (Nat.le_of_ble_eq_true rfl)) dX12_houseWord_246 ⟨Nat.le_of_ble_eq_true rfl, Nat.le_of_ble_eq_true rfl⟩ (fun r_70 u_71 H locs hw hP hD hS => ?_)
                    obtain ⟨he_r_70, hw⟩ := hw
                    have hr_r_70 := hw
                    refine z_callVi (As := [.long r_70]) (rest := []) (wr := []) ⟨hx, hb, hml, hown, hts⟩ hK hE hT hP hD hS hA (r_isWord l G cA h0 m_status m_thrown m_above m_under a_traySort a_trayMany a_numbers a_tape m_taped m_textEnd m_faultKind m_faultAt m_bad m_badAt m_token m_at m_behind m_number m_letters m_word a_c a_words m_markMany a_there a_tried a_best a_found m_thereMany m_foundMany m_orderHow m_orderRing m_orderMany m_hasBest m_bestTop m_bestBy a_weights a_shared m_random m_truePlace m_trueWay m_seconds m_done m_feelings m_tries m_leftOver m_playDoor m_playRing m_isOpen m_isOver m_wasTried m_hasPlayed a_feltNow a_last a_kept m_hasSeconds m_hasTurned m_hasRound a_hasFeels a_isOn m_firstAct m_meanTop m_meanBy a_order m_rowMany m_newSteps r_70 hr_m_token) lk_RX12_164 ⟨rfl, rfl⟩ ⟨Nat.le_of_ble_eq_true rfl, Nat.le_of_ble_eq_true rfl⟩ 12 rfl rfl rfl [0] [] rfl rfl (by decide) rfl hl.1 rfl (lv_room (Nat.le_of_ble_eq_true rfl)) dX12_houseWord_249 ⟨Nat.le_of_ble_eq_true rfl, Nat.le_of_ble_eq_true rfl⟩ (fun r_73 u_74 H locs hw hP hD hS => ?_)
                    obtain ⟨he_r_73, hw⟩ := hw
                    rcases hw with ⟨rfl, -⟩ | ⟨rfl, hf_76⟩
                    · skip
                      refine lv_if_eq (tgt := 258) hx hb dX12_houseWord_252 (by decide) (fun _ => ?_) (fun h9 => absurd (by decide +kernel) h9)
                      refine lv_aload_n hx hb dX12_houseWord_258 rfl (lv_at hl 0 rfl) ?_
                      refine lv_bipush (v := 98) hx hb dX12_houseWord_259 (by decide) ?_
                      refine lv_bipush (v := 121) hx hb dX12_houseWord_261 (by decide) ?_
                      refine lv_iconst (v := 0) hx hb dX12_houseWord_263 (by decide) ?_
                      refine lv_iconst (v := 0) hx hb dX12_houseWord_264 (by decide) ?_
                      refine lv_iconst (v := 0) hx hb dX12_houseWord_265 (by decide) ?_
                      refine lv_iconst (v := 0) hx hb dX12_houseWord_266 (by decide) ?_
                      refine z_callSl (As := [.int 98, .int 121, .int 0, .int 0, .int 0, .int 0]) (rest := [.ref h0]) (wr := [(h0, .inr (12, [.int m_status, .int m_thrown, .long m_above, .long m_under, .ref a_traySort, .ref a_trayMany, .ref a_numbers, .ref a_tape, .int m_taped, .int m_textEnd, .int m_faultKind, .int m_faultAt, .int m_bad, .int m_badAt, .int m_token, .int m_at, .int m_behind, .int m_number, .int m_letters, .long m_word, .ref a_c, .ref a_words, .int m_markMany, .ref a_there, .ref a_tried, .ref a_best, .ref a_found, .int m_thereMany, .int m_foundMany, .int m_orderHow, .int m_orderRing, .int m_orderMany, .int m_hasBest, .long m_bestTop, .long m_bestBy, .ref a_weights, .ref a_shared, .int m_random, .int m_truePlace, .int m_trueWay, .int m_seconds, .int m_done, .int m_feelings, .int m_tries, .int m_leftOver, .int m_playDoor, .int m_playRing, .int m_isOpen, .int m_isOver, .int m_wasTried, .int m_hasPlayed, .ref a_feltNow, .ref a_last, .ref a_kept, .int m_hasSeconds, .int m_hasTurned, .int m_hasRound, .ref a_hasFeels, .ref a_isOn, .int m_firstAct, .long m_meanTop, .long m_meanBy, .ref a_order, .int m_rowMany, .int m_newSteps]))]) ⟨hx, hb, hml, hown, hts⟩ hK hE hT hP hD hS hA (r_spelled l G cA 98 121 0 0 0 0 (by decide +kernel) (by decide +kernel) (by decide +kernel) (by decide +kernel) (by decide +kernel) (by decide +kernel)) lk_RX12_158 ⟨rfl, rfl⟩ ⟨Nat.le_of_ble_eq_true rfl, Nat.le_of_ble_eq_true rfl⟩ [] [0] rfl rfl (by decide) rfl hl.1 rfl (lv_room (Nat.le_of_ble_eq_true rfl)) dX12_houseWord_267 ⟨Nat.le_of_ble_eq_true rfl, Nat.le_of_ble_eq_true rfl⟩ (fun r_77 u_78 H locs hw hP hD hS => ?_)
                      obtain ⟨he_r_77, hw⟩ := hw
                      have hr_r_77 := hw
                      refine z_callVi (As := [.long r_77]) (rest := []) (wr := []) ⟨hx, hb, hml, hown, hts⟩ hK hE hT hP hD hS hA (r_isWord l G cA h0 m_status m_thrown m_above m_under a_traySort a_trayMany a_numbers a_tape m_taped m_textEnd m_faultKind m_faultAt m_bad m_badAt m_token m_at m_behind m_number m_letters m_word a_c a_words m_markMany a_there a_tried a_best a_found m_thereMany m_foundMany m_orderHow m_orderRing m_orderMany m_hasBest m_bestTop m_bestBy a_weights a_shared m_random m_truePlace m_trueWay m_seconds m_done m_feelings m_tries m_leftOver m_playDoor m_playRing m_isOpen m_isOver m_wasTried m_hasPlayed a_feltNow a_last a_kept m_hasSeconds m_hasTurned m_hasRound a_hasFeels a_isOn m_firstAct m_meanTop m_meanBy a_order m_rowMany m_newSteps r_77 hr_m_token) lk_RX12_164 ⟨rfl, rfl⟩ ⟨Nat.le_of_ble_eq_true rfl, Nat.le_of_ble_eq_true rfl⟩ 12 rfl rfl rfl [0] [] rfl rfl (by decide) rfl hl.1 rfl (lv_room (Nat.le_of_ble_eq_true rfl)) dX12_houseWord_270 ⟨Nat.le_of_ble_eq_true rfl, Nat.le_of_ble_eq_true rfl⟩ (fun r_80 u_81 H locs hw hP hD hS => ?_)
                      obtain ⟨he_r_80, hw⟩ := hw
                      rcases hw with ⟨rfl, -⟩ | ⟨rfl, hf_83⟩
                      · skip
                        refine lv_if_eq (tgt := 279) hx hb dX12_houseWord_273 (by decide) (fun _ => ?_) (fun h9 => absurd (by decide +kernel) h9)
                        refine lv_aload_n hx hb dX12_houseWord_279 rfl (lv_at hl 0 rfl) ?_
                        refine lv_bipush (v := 102) hx hb dX12_houseWord_280 (by decide) ?_
                        refine lv_bipush (v := 101) hx hb dX12_houseWord_282 (by decide) ?_
                        refine lv_bipush (v := 101) hx hb dX12_houseWord_284 (by decide) ?_
                        refine lv_bipush (v := 108) hx hb dX12_houseWord_286 (by decide) ?_
                        refine lv_iconst (v := 0) hx hb dX12_houseWord_288 (by decide) ?_
                        refine lv_iconst (v := 0) hx hb dX12_houseWord_289 (by decide) ?_
                        refine z_callSl (As := [.int 102, .int 101, .int 101, .int 108, .int 0, .int 0]) (rest := [.ref h0]) (wr := [(h0, .inr (12, [.int m_status, .int m_thrown, .long m_above, .long m_under, .ref a_traySort, .ref a_trayMany, .ref a_numbers, .ref a_tape, .int m_taped, .int m_textEnd, .int m_faultKind, .int m_faultAt, .int m_bad, .int m_badAt, .int m_token, .int m_at, .int m_behind, .int m_number, .int m_letters, .long m_word, .ref a_c, .ref a_words, .int m_markMany, .ref a_there, .ref a_tried, .ref a_best, .ref a_found, .int m_thereMany, .int m_foundMany, .int m_orderHow, .int m_orderRing, .int m_orderMany, .int m_hasBest, .long m_bestTop, .long m_bestBy, .ref a_weights, .ref a_shared, .int m_random, .int m_truePlace, .int m_trueWay, .int m_seconds, .int m_done, .int m_feelings, .int m_tries, .int m_leftOver, .int m_playDoor, .int m_playRing, .int m_isOpen, .int m_isOver, .int m_wasTried, .int m_hasPlayed, .ref a_feltNow, .ref a_last, .ref a_kept, .int m_hasSeconds, .int m_hasTurned, .int m_hasRound, .ref a_hasFeels, .ref a_isOn, .int m_firstAct, .long m_meanTop, .long m_meanBy, .ref a_order, .int m_rowMany, .int m_newSteps]))]) ⟨hx, hb, hml, hown, hts⟩ hK hE hT hP hD hS hA (r_spelled l G cA 102 101 101 108 0 0 (by decide +kernel) (by decide +kernel) (by decide +kernel) (by decide +kernel) (by decide +kernel) (by decide +kernel)) lk_RX12_158 ⟨rfl, rfl⟩ ⟨Nat.le_of_ble_eq_true rfl, Nat.le_of_ble_eq_true rfl⟩ [] [0] rfl rfl (by decide) rfl hl.1 rfl (lv_room (Nat.le_of_ble_eq_true rfl)) dX12_houseWord_290 ⟨Nat.le_of_ble_eq_true rfl, Nat.le_of_ble_eq_true rfl⟩ (fun r_84 u_85 H locs hw hP hD hS => ?_)
                        obtain ⟨he_r_84, hw⟩ := hw
                        have hr_r_84 := hw
                        refine z_callVi (As := [.long r_84]) (rest := []) (wr := []) ⟨hx, hb, hml, hown, hts⟩ hK hE hT hP hD hS hA (r_isWord l G cA h0 m_status m_thrown m_above m_under a_traySort a_trayMany a_numbers a_tape m_taped m_textEnd m_faultKind m_faultAt m_bad m_badAt m_token m_at m_behind m_number m_letters m_word a_c a_words m_markMany a_there a_tried a_best a_found m_thereMany m_foundMany m_orderHow m_orderRing m_orderMany m_hasBest m_bestTop m_bestBy a_weights a_shared m_random m_truePlace m_trueWay m_seconds m_done m_feelings m_tries m_leftOver m_playDoor m_playRing m_isOpen m_isOver m_wasTried m_hasPlayed a_feltNow a_last a_kept m_hasSeconds m_hasTurned m_hasRound a_hasFeels a_isOn m_firstAct m_meanTop m_meanBy a_order m_rowMany m_newSteps r_84 hr_m_token) lk_RX12_164 ⟨rfl, rfl⟩ ⟨Nat.le_of_ble_eq_true rfl, Nat.le_of_ble_eq_true rfl⟩ 12 rfl rfl rfl [0] [] rfl rfl (by decide) rfl hl.1 rfl (lv_room (Nat.le_of_ble_eq_true rfl)) dX12_houseWord_293 ⟨Nat.le_of_ble_eq_true rfl, Nat.le_of_ble_eq_true rfl⟩ (fun r_87 u_88 H locs hw hP hD hS => ?_)
                        obtain ⟨he_r_87, hw⟩ := hw
                        rcases hw with ⟨rfl, -⟩ | ⟨rfl, hf_90⟩
                        · skip
                          refine lv_if_eq (tgt := 302) hx hb dX12_houseWord_296 (by decide) (fun _ => ?_) (fun h9 => absurd (by decide +kernel) h9)
                          refine lv_aload_n hx hb dX12_houseWord_302 rfl (lv_at hl 0 rfl) ?_
                          refine lv_bipush (v := 116) hx hb dX12_houseWord_303 (by decide) ?_
                          refine lv_bipush (v := 114) hx hb dX12_houseWord_305 (by decide) ?_
                          refine lv_bipush (v := 121) hx hb dX12_houseWord_307 (by decide) ?_
                          refine lv_iconst (v := 0) hx hb dX12_houseWord_309 (by decide) ?_
                          refine lv_iconst (v := 0) hx hb dX12_houseWord_310 (by decide) ?_
                          refine lv_iconst (v := 0) hx hb dX12_houseWord_311 (by decide) ?_
                          refine z_callSl (As := [.int 116, .int 114, .int 121, .int 0, .int 0, .int 0]) (rest := [.ref h0]) (wr := [(h0, .inr (12, [.int m_status, .int m_thrown, .long m_above, .long m_under, .ref a_traySort, .ref a_trayMany, .ref a_numbers, .ref a_tape, .int m_taped, .int m_textEnd, .int m_faultKind, .int m_faultAt, .int m_bad, .int m_badAt, .int m_token, .int m_at, .int m_behind, .int m_number, .int m_letters, .long m_word, .ref a_c, .ref a_words, .int m_markMany, .ref a_there, .ref a_tried, .ref a_best, .ref a_found, .int m_thereMany, .int m_foundMany, .int m_orderHow, .int m_orderRing, .int m_orderMany, .int m_hasBest, .long m_bestTop, .long m_bestBy, .ref a_weights, .ref a_shared, .int m_random, .int m_truePlace, .int m_trueWay, .int m_seconds, .int m_done, .int m_feelings, .int m_tries, .int m_leftOver, .int m_playDoor, .int m_playRing, .int m_isOpen, .int m_isOver, .int m_wasTried, .int m_hasPlayed, .ref a_feltNow, .ref a_last, .ref a_kept, .int m_hasSeconds, .int m_hasTurned, .int m_hasRound, .ref a_hasFeels, .ref a_isOn, .int m_firstAct, .long m_meanTop, .long m_meanBy, .ref a_order, .int m_rowMany, .int m_newSteps]))]) ⟨hx, hb, hml, hown, hts⟩ hK hE hT hP hD hS hA (r_spelled l G cA 116 114 121 0 0 0 (by decide +kernel) (by decide +kernel) (by decide +kernel) (by decide +kernel) (by decide +kernel) (by decide +kernel)) lk_RX12_158 ⟨rfl, rfl⟩ ⟨Nat.le_of_ble_eq_true rfl, Nat.le_of_ble_eq_true rfl⟩ [] [0] rfl rfl (by decide) rfl hl.1 rfl (lv_room (Nat.le_of_ble_eq_true rfl)) dX12_houseWord_312 ⟨Nat.le_of_ble_eq_true rfl, Nat.le_of_ble_eq_true rfl⟩ (fun r_91 u_92 H locs hw hP hD hS => ?_)
                          obtain ⟨he_r_91, hw⟩ := hw
                          have hr_r_91 := hw
                          refine z_callVi (As := [.long r_91]) (rest := []) (wr := []) ⟨hx, hb, hml, hown, hts⟩ hK hE hT hP hD hS hA (r_isWord l G cA h0 m_status m_thrown m_above m_under a_traySort a_trayMany a_numbers a_tape m_taped m_textEnd m_faultKind m_faultAt m_bad m_badAt m_token m_at m_behind m_number m_letters m_word a_c a_words m_markMany a_there a_tried a_best a_found m_thereMany m_foundMany m_orderHow m_orderRing m_orderMany m_hasBest m_bestTop m_bestBy a_weights a_shared m_random m_truePlace m_trueWay m_seconds m_done m_feelings m_tries m_leftOver m_playDoor m_playRing m_isOpen m_isOver m_wasTried m_hasPlayed a_feltNow a_last a_kept m_hasSeconds m_hasTurned m_hasRound a_hasFeels a_isOn m_firstAct m_meanTop m_meanBy a_order m_rowMany m_newSteps r_91 hr_m_token) lk_RX12_164 ⟨rfl, rfl⟩ ⟨Nat.le_of_ble_eq_true rfl, Nat.le_of_ble_eq_true rfl⟩ 12 rfl rfl rfl [0] [] rfl rfl (by decide) rfl hl.1 rfl (lv_room (Nat.le_of_ble_eq_true rfl)) dX12_houseWord_315 ⟨Nat.le_of_ble_eq_true rfl, Nat.le_of_ble_eq_true rfl⟩ (fun r_94 u_95 H locs hw hP hD hS => ?_)
                          obtain ⟨he_r_94, hw⟩ := hw
                          rcases hw with ⟨rfl, -⟩ | ⟨rfl, hf_97⟩
                          · skip
                            refine lv_if_eq (tgt := 324) hx hb dX12_houseWord_318 (by decide) (fun _ => ?_) (fun h9 => absurd (by decide +kernel) h9)
                            refine lv_aload_n hx hb dX12_houseWord_324 rfl (lv_at hl 0 rfl) ?_
                            refine lv_bipush (v := 103) hx hb dX12_houseWord_325 (by decide) ?_
                            refine lv_bipush (v := 111) hx hb dX12_houseWord_327 (by decide) ?_
                            refine lv_iconst (v := 0) hx hb dX12_houseWord_329 (by decide) ?_
                            refine lv_iconst (v := 0) hx hb dX12_houseWord_330 (by decide) ?_
                            refine lv_iconst (v := 0) hx hb dX12_houseWord_331 (by decide) ?_
                            refine lv_iconst (v := 0) hx hb dX12_houseWord_332 (by decide) ?_
                            refine z_callSl (As := [.int 103, .int 111, .int 0, .int 0, .int 0, .int 0]) (rest := [.ref h0]) (wr := [(h0, .inr (12, [.int m_status, .int m_thrown, .long m_above, .long m_under, .ref a_traySort, .ref a_trayMany, .ref a_numbers, .ref a_tape, .int m_taped, .int m_textEnd, .int m_faultKind, .int m_faultAt, .int m_bad, .int m_badAt, .int m_token, .int m_at, .int m_behind, .int m_number, .int m_letters, .long m_word, .ref a_c, .ref a_words, .int m_markMany, .ref a_there, .ref a_tried, .ref a_best, .ref a_found, .int m_thereMany, .int m_foundMany, .int m_orderHow, .int m_orderRing, .int m_orderMany, .int m_hasBest, .long m_bestTop, .long m_bestBy, .ref a_weights, .ref a_shared, .int m_random, .int m_truePlace, .int m_trueWay, .int m_seconds, .int m_done, .int m_feelings, .int m_tries, .int m_leftOver, .int m_playDoor, .int m_playRing, .int m_isOpen, .int m_isOver, .int m_wasTried, .int m_hasPlayed, .ref a_feltNow, .ref a_last, .ref a_kept, .int m_hasSeconds, .int m_hasTurned, .int m_hasRound, .ref a_hasFeels, .ref a_isOn, .int m_firstAct, .long m_meanTop, .long m_meanBy, .ref a_order, .int m_rowMany, .int m_newSteps]))]) ⟨hx, hb, hml, hown, hts⟩ hK hE hT hP hD hS hA (r_spelled l G cA 103 111 0 0 0 0 (by decide +kernel) (by decide +kernel) (by decide +kernel) (by decide +kernel) (by decide +kernel) (by decide +kernel)) lk_RX12_158 ⟨rfl, rfl⟩ ⟨Nat.le_of_ble_eq_true rfl, Nat.le_of_ble_eq_true rfl⟩ [] [0] rfl rfl (by decide) rfl hl.1 rfl (lv_room (Nat.le_of_ble_eq_true rfl)) dX12_houseWord_333 ⟨Nat.le_of_ble_eq_true rfl, Nat.le_of_ble_eq_true rfl⟩ (fun r_98 u_99 H locs hw hP hD hS => ?_)
                            obtain ⟨he_r_98, hw⟩ := hw
                            have hr_r_98 := hw
                            refine z_callVi (As := [.long r_98]) (rest := []) (wr := []) ⟨hx, hb, hml, hown, hts⟩ hK hE hT hP hD hS hA (r_isWord l G cA h0 m_status m_thrown m_above m_under a_traySort a_trayMany a_numbers a_tape m_taped m_textEnd m_faultKind m_faultAt m_bad m_badAt m_token m_at m_behind m_number m_letters m_word a_c a_words m_markMany a_there a_tried a_best a_found m_thereMany m_foundMany m_orderHow m_orderRing m_orderMany m_hasBest m_bestTop m_bestBy a_weights a_shared m_random m_truePlace m_trueWay m_seconds m_done m_feelings m_tries m_leftOver m_playDoor m_playRing m_isOpen m_isOver m_wasTried m_hasPlayed a_feltNow a_last a_kept m_hasSeconds m_hasTurned m_hasRound a_hasFeels a_isOn m_firstAct m_meanTop m_meanBy a_order m_rowMany m_newSteps r_98 hr_m_token) lk_RX12_164 ⟨rfl, rfl⟩ ⟨Nat.le_of_ble_eq_true rfl, Nat.le_of_ble_eq_true rfl⟩ 12 rfl rfl rfl [0] [] rfl rfl (by decide) rfl hl.1 rfl (lv_room (Nat.le_of_ble_eq_true rfl)) dX12_houseWord_336 ⟨Nat.le_of_ble_eq_true rfl, Nat.le_of_ble_eq_true rfl⟩ (fun r_101 u_102 H locs hw hP hD hS => ?_)
                            obtain ⟨he_r_101, hw⟩ := hw
                            rcases hw with ⟨rfl, -⟩ | ⟨rfl, hf_104⟩
                            · skip
                              refine lv_if_eq (tgt := 345) hx hb dX12_houseWord_339 (by decide) (fun _ => ?_) (fun h9 => absurd (by decide +kernel) h9)
                              refine lv_aload_n hx hb dX12_houseWord_345 rfl (lv_at hl 0 rfl) ?_
                              refine lv_bipush (v := 100) hx hb dX12_houseWord_346 (by decide) ?_
                              refine lv_bipush (v := 114) hx hb dX12_houseWord_348 (by decide) ?_
                              refine lv_bipush (v := 111) hx hb dX12_houseWord_350 (by decide) ?_
                              refine lv_bipush (v := 112) hx hb dX12_houseWord_352 (by decide) ?_
                              refine lv_iconst (v := 0) hx hb dX12_houseWord_354 (by decide) ?_
                              refine lv_iconst (v := 0) hx hb dX12_houseWord_355 (by decide) ?_
                              refine z_callSl (As := [.int 100, .int 114, .int 111, .int 112, .int 0, .int 0]) (rest := [.ref h0]) (wr := [(h0, .inr (12, [.int m_status, .int m_thrown, .long m_above, .long m_under, .ref a_traySort, .ref a_trayMany, .ref a_numbers, .ref a_tape, .int m_taped, .int m_textEnd, .int m_faultKind, .int m_faultAt, .int m_bad, .int m_badAt, .int m_token, .int m_at, .int m_behind, .int m_number, .int m_letters, .long m_word, .ref a_c, .ref a_words, .int m_markMany, .ref a_there, .ref a_tried, .ref a_best, .ref a_found, .int m_thereMany, .int m_foundMany, .int m_orderHow, .int m_orderRing, .int m_orderMany, .int m_hasBest, .long m_bestTop, .long m_bestBy, .ref a_weights, .ref a_shared, .int m_random, .int m_truePlace, .int m_trueWay, .int m_seconds, .int m_done, .int m_feelings, .int m_tries, .int m_leftOver, .int m_playDoor, .int m_playRing, .int m_isOpen, .int m_isOver, .int m_wasTried, .int m_hasPlayed, .ref a_feltNow, .ref a_last, .ref a_kept, .int m_hasSeconds, .int m_hasTurned, .int m_hasRound, .ref a_hasFeels, .ref a_isOn, .int m_firstAct, .long m_meanTop, .long m_meanBy, .ref a_order, .int m_rowMany, .int m_newSteps]))]) ⟨hx, hb, hml, hown, hts⟩ hK hE hT hP hD hS hA (r_spelled l G cA 100 114 111 112 0 0 (by decide +kernel) (by decide +kernel) (by decide +kernel) (by decide +kernel) (by decide +kernel) (by decide +kernel)) lk_RX12_158 ⟨rfl, rfl⟩ ⟨Nat.le_of_ble_eq_true rfl, Nat.le_of_ble_eq_true rfl⟩ [] [0] rfl rfl (by decide) rfl hl.1 rfl (lv_room (Nat.le_of_ble_eq_true rfl)) dX12_houseWord_356 ⟨Nat.le_of_ble_eq_true rfl, Nat.le_of_ble_eq_true rfl⟩ (fun r_105 u_106 H locs hw hP hD hS => ?_)
                              obtain ⟨he_r_105, hw⟩ := hw
                              have hr_r_105 := hw
                              refine z_callVi (As := [.long r_105]) (rest := []) (wr := []) ⟨hx, hb, hml, hown, hts⟩ hK hE hT hP hD hS hA (r_isWord l G cA h0 m_status m_thrown m_above m_under a_traySort a_trayMany a_numbers a_tape m_taped m_textEnd m_faultKind m_faultAt m_bad m_badAt m_token m_at m_behind m_number m_letters m_word a_c a_words m_markMany a_there a_tried a_best a_found m_thereMany m_foundMany m_orderHow m_orderRing m_orderMany m_hasBest m_bestTop m_bestBy a_weights a_shared m_random m_truePlace m_trueWay m_seconds m_done m_feelings m_tries m_leftOver m_playDoor m_playRing m_isOpen m_isOver m_wasTried m_hasPlayed a_feltNow a_last a_kept m_hasSeconds m_hasTurned m_hasRound a_hasFeels a_isOn m_firstAct m_meanTop m_meanBy a_order m_rowMany m_newSteps r_105 hr_m_token) lk_RX12_164 ⟨rfl, rfl⟩ ⟨Nat.le_of_ble_eq_true rfl, Nat.le_of_ble_eq_true rfl⟩ 12 rfl rfl rfl [0] [] rfl rfl (by decide) rfl hl.1 rfl (lv_room (Nat.le_of_ble_eq_true rfl)) dX12_houseWord_359 ⟨Nat.le_of_ble_eq_true rfl, Nat.le_of_ble_eq_true rfl⟩ (fun r_108 u_109 H locs hw hP hD hS => ?_)
                              obtain ⟨he_r_108, hw⟩ := hw
                              rcases hw with ⟨rfl, -⟩ | ⟨rfl, hf_111⟩
                              · skip
                                refine lv_if_eq (tgt := 370) hx hb dX12_houseWord_362 (by decide) (fun _ => ?_) (fun h9 => absurd (by decide +kernel) h9)
                                refine lv_iconst (v := (-1)) hx hb dX12_houseWord_370 (by decide) ?_
                                have hpost : ((-1) ≤ ((-1) : Int32).toInt ∧ ((-1) : Int32).toInt ≤ 14) ∧ (((-1) : Int32).toInt < 0 ∨ m_token.toInt = 1) := ⟨(by decide +kernel), (by omega)⟩
                                have hX_112 : F_r_houseWord m_token m_word = ((-1 : Int32) : Int32) := by
                                  refine (F_r_houseWord_s ..).trans ?_
                                  extract_lets -merge -useContext +onlyGivenNames w9 y9; have e9 : r_1 = w9 := he_r_1; clear_value w9; subst e9
                                  try (extract_lets -merge -useContext +onlyGivenNames y9; have e9 : x_4 = y9 := (by first | exact he_x_4 | exact he_x_4.symm); clear_value y9; subst e9)
                                  try (extract_lets -merge -useContext +onlyGivenNames y9; have e9 : x_5 = y9 := (by first | exact he_x_5 | exact he_x_5.symm); clear_value y9; subst e9)
                                  try (extract_lets -merge -useContext +onlyGivenNames y9; have e9 : x_6 = y9 := (by first | exact he_x_6 | exact he_x_6.symm); clear_value y9; subst e9)
                                  extract_lets -merge -useContext +onlyGivenNames w9 y9; have e9 : (0 : Int32) = w9 := he_r_7; clear_value w9; subst e9
                                  refine (if_pos rfl).trans ?_
                                  extract_lets -merge -useContext +onlyGivenNames w9 y9; have e9 : r_11 = w9 := he_r_11; clear_value w9; subst e9
                                  extract_lets -merge -useContext +onlyGivenNames w9 y9; have e9 : (0 : Int32) = w9 := he_r_14; clear_value w9; subst e9
                                  refine (if_pos rfl).trans ?_
                                  extract_lets -merge -useContext +onlyGivenNames w9 y9; have e9 : r_18 = w9 := he_r_18; clear_value w9; subst e9
                                  extract_lets -merge -useContext +onlyGivenNames w9 y9; have e9 : (0 : Int32) = w9 := he_r_21; clear_value w9; subst e9
                                  refine (if_pos rfl).trans ?_
                                  extract_lets -merge -useContext +onlyGivenNames w9 y9; have e9 : r_25 = w9 := he_r_25; clear_value w9; subst e9
                                  extract_lets -merge -useContext +onlyGivenNames w9 y9; have e9 : (0 : Int32) = w9 := he_r_28; clear_value w9; subst e9
                                  refine (if_pos rfl).trans ?_
                                  extract_lets -merge -useContext +onlyGivenNames w9 y9; have e9 : r_32 = w9 := he_r_32; clear_value w9; subst e9
                                  extract_lets -merge -useContext +onlyGivenNames w9 y9; have e9 : (0 : Int32) = w9 := he_r_35; clear_value w9; subst e9
                                  refine (if_pos rfl).trans ?_
                                  extract_lets -merge -useContext +onlyGivenNames w9 y9; have e9 : r_39 = w9 := he_r_39; clear_value w9; subst e9
                                  try (extract_lets -merge -useContext +onlyGivenNames y9; have e9 : x_42 = y9 := (by first | exact he_x_42 | exact he_x_42.symm); clear_value y9; subst e9)
                                  try (extract_lets -merge -useContext +onlyGivenNames y9; have e9 : x_43 = y9 := (by first | exact he_x_43 | exact he_x_43.symm); clear_value y9; subst e9)
                                  try (extract_lets -merge -useContext +onlyGivenNames y9; have e9 : x_44 = y9 := (by first | exact he_x_44 | exact he_x_44.symm); clear_value y9; subst e9)
                                  extract_lets -merge -useContext +onlyGivenNames w9 y9; have e9 : (0 : Int32) = w9 := he_r_45; clear_value w9; subst e9
                                  refine (if_pos rfl).trans ?_
                                  extract_lets -merge -useContext +onlyGivenNames w9 y9; have e9 : r_49 = w9 := he_r_49; clear_value w9; subst e9
                                  extract_lets -merge -useContext +onlyGivenNames w9 y9; have e9 : (0 : Int32) = w9 := he_r_52; clear_value w9; subst e9
                                  refine (if_pos rfl).trans ?_
                                  extract_lets -merge -useContext +onlyGivenNames w9 y9; have e9 : r_56 = w9 := he_r_56; clear_value w9; subst e9
                                  extract_lets -merge -useContext +onlyGivenNames w9 y9; have e9 : (0 : Int32) = w9 := he_r_59; clear_value w9; subst e9
                                  refine (if_pos rfl).trans ?_
                                  extract_lets -merge -useContext +onlyGivenNames w9 y9; have e9 : r_63 = w9 := he_r_63; clear_value w9; subst e9
                                  extract_lets -merge -useContext +onlyGivenNames w9 y9; have e9 : (0 : Int32) = w9 := he_r_66; clear_value w9; subst e9
                                  refine (if_pos rfl).trans ?_
                                  extract_lets -merge -useContext +onlyGivenNames w9 y9; have e9 : r_70 = w9 := he_r_70; clear_value w9; subst e9
                                  extract_lets -merge -useContext +onlyGivenNames w9 y9; have e9 : (0 : Int32) = w9 := he_r_73; clear_value w9; subst e9
                                  refine (if_pos rfl).trans ?_
                                  extract_lets -merge -useContext +onlyGivenNames w9 y9; have e9 : r_77 = w9 := he_r_77; clear_value w9; subst e9
                                  extract_lets -merge -useContext +onlyGivenNames w9 y9; have e9 : (0 : Int32) = w9 := he_r_80; clear_value w9; subst e9
                                  refine (if_pos rfl).trans ?_
                                  extract_lets -merge -useContext +onlyGivenNames w9 y9; have e9 : r_84 = w9 := he_r_84; clear_value w9; subst e9
                                  extract_lets -merge -useContext +onlyGivenNames w9 y9; have e9 : (0 : Int32) = w9 := he_r_87; clear_value w9; subst e9
                                  refine (if_pos rfl).trans ?_
                                  extract_lets -merge -useContext +onlyGivenNames w9 y9; have e9 : r_91 = w9 := he_r_91; clear_value w9; subst e9
                                  extract_lets -merge -useContext +onlyGivenNames w9 y9; have e9 : (0 : Int32) = w9 := he_r_94; clear_value w9; subst e9
                                  refine (if_pos rfl).trans ?_
                                  extract_lets -merge -useContext +onlyGivenNames w9 y9; have e9 : r_98 = w9 := he_r_98; clear_value w9; subst e9
                                  extract_lets -merge -useContext +onlyGivenNames w9 y9; have e9 : (0 : Int32) = w9 := he_r_101; clear_value w9; subst e9
                                  refine (if_pos rfl).trans ?_
                                  extract_lets -merge -useContext +onlyGivenNames w9 y9; have e9 : r_105 = w9 := he_r_105; clear_value w9; subst e9
                                  extract_lets -merge -useContext +onlyGivenNames w9 y9; have e9 : (0 : Int32) = w9 := he_r_108; clear_value w9; subst e9
                                  refine (if_pos rfl).trans ?_
                                  exact rfl
                                exact hret _ _ _ _ _ _ () [0] hP hD hS rfl (by decide) dX12_houseWord_371 ⟨(congrArg (fun z9 => z9) hX_112).symm, hpost⟩
                              · skip
                                refine lv_if_eq (tgt := 370) hx hb dX12_houseWord_362 (by decide) (fun h9 => absurd h9 (by decide +kernel)) (fun _ => ?_)
                                refine lv_bipush (v := 14) hx hb dX12_houseWord_365 (by decide) ?_
                                refine lv_goto (tgt := 371) hx hb dX12_houseWord_367 (by decide) ?_
                                have hpost : ((-1) ≤ (14 : Int32).toInt ∧ (14 : Int32).toInt ≤ 14) ∧ ((14 : Int32).toInt < 0 ∨ m_token.toInt = 1) := ⟨(by decide +kernel), (by omega)⟩
                                have hX_113 : F_r_houseWord m_token m_word = ((14 : Int32) : Int32) := by
                                  refine (F_r_houseWord_s ..).trans ?_
                                  extract_lets -merge -useContext +onlyGivenNames w9 y9; have e9 : r_1 = w9 := he_r_1; clear_value w9; subst e9
                                  try (extract_lets -merge -useContext +onlyGivenNames y9; have e9 : x_4 = y9 := (by first | exact he_x_4 | exact he_x_4.symm); clear_value y9; subst e9)
                                  try (extract_lets -merge -useContext +onlyGivenNames y9; have e9 : x_5 = y9 := (by first | exact he_x_5 | exact he_x_5.symm); clear_value y9; subst e9)
                                  try (extract_lets -merge -useContext +onlyGivenNames y9; have e9 : x_6 = y9 := (by first | exact he_x_6 | exact he_x_6.symm); clear_value y9; subst e9)
                                  extract_lets -merge -useContext +onlyGivenNames w9 y9; have e9 : (0 : Int32) = w9 := he_r_7; clear_value w9; subst e9
                                  refine (if_pos rfl).trans ?_
                                  extract_lets -merge -useContext +onlyGivenNames w9 y9; have e9 : r_11 = w9 := he_r_11; clear_value w9; subst e9
                                  extract_lets -merge -useContext +onlyGivenNames w9 y9; have e9 : (0 : Int32) = w9 := he_r_14; clear_value w9; subst e9
                                  refine (if_pos rfl).trans ?_
                                  extract_lets -merge -useContext +onlyGivenNames w9 y9; have e9 : r_18 = w9 := he_r_18; clear_value w9; subst e9
                                  extract_lets -merge -useContext +onlyGivenNames w9 y9; have e9 : (0 : Int32) = w9 := he_r_21; clear_value w9; subst e9
                                  refine (if_pos rfl).trans ?_
                                  extract_lets -merge -useContext +onlyGivenNames w9 y9; have e9 : r_25 = w9 := he_r_25; clear_value w9; subst e9
                                  extract_lets -merge -useContext +onlyGivenNames w9 y9; have e9 : (0 : Int32) = w9 := he_r_28; clear_value w9; subst e9
                                  refine (if_pos rfl).trans ?_
                                  extract_lets -merge -useContext +onlyGivenNames w9 y9; have e9 : r_32 = w9 := he_r_32; clear_value w9; subst e9
                                  extract_lets -merge -useContext +onlyGivenNames w9 y9; have e9 : (0 : Int32) = w9 := he_r_35; clear_value w9; subst e9
                                  refine (if_pos rfl).trans ?_
                                  extract_lets -merge -useContext +onlyGivenNames w9 y9; have e9 : r_39 = w9 := he_r_39; clear_value w9; subst e9
                                  try (extract_lets -merge -useContext +onlyGivenNames y9; have e9 : x_42 = y9 := (by first | exact he_x_42 | exact he_x_42.symm); clear_value y9; subst e9)
                                  try (extract_lets -merge -useContext +onlyGivenNames y9; have e9 : x_43 = y9 := (by first | exact he_x_43 | exact he_x_43.symm); clear_value y9; subst e9)
                                  try (extract_lets -merge -useContext +onlyGivenNames y9; have e9 : x_44 = y9 := (by first | exact he_x_44 | exact he_x_44.symm); clear_value y9; subst e9)
                                  extract_lets -merge -useContext +onlyGivenNames w9 y9; have e9 : (0 : Int32) = w9 := he_r_45; clear_value w9; subst e9
                                  refine (if_pos rfl).trans ?_
                                  extract_lets -merge -useContext +onlyGivenNames w9 y9; have e9 : r_49 = w9 := he_r_49; clear_value w9; subst e9
                                  extract_lets -merge -useContext +onlyGivenNames w9 y9; have e9 : (0 : Int32) = w9 := he_r_52; clear_value w9; subst e9
                                  refine (if_pos rfl).trans ?_
                                  extract_lets -merge -useContext +onlyGivenNames w9 y9; have e9 : r_56 = w9 := he_r_56; clear_value w9; subst e9
                                  extract_lets -merge -useContext +onlyGivenNames w9 y9; have e9 : (0 : Int32) = w9 := he_r_59; clear_value w9; subst e9
                                  refine (if_pos rfl).trans ?_
                                  extract_lets -merge -useContext +onlyGivenNames w9 y9; have e9 : r_63 = w9 := he_r_63; clear_value w9; subst e9
                                  extract_lets -merge -useContext +onlyGivenNames w9 y9; have e9 : (0 : Int32) = w9 := he_r_66; clear_value w9; subst e9
                                  refine (if_pos rfl).trans ?_
                                  extract_lets -merge -useContext +onlyGivenNames w9 y9; have e9 : r_70 = w9 := he_r_70; clear_value w9; subst e9
                                  extract_lets -merge -useContext +onlyGivenNames w9 y9; have e9 : (0 : Int32) = w9 := he_r_73; clear_value w9; subst e9
                                  refine (if_pos rfl).trans ?_
                                  extract_lets -merge -useContext +onlyGivenNames w9 y9; have e9 : r_77 = w9 := he_r_77; clear_value w9; subst e9
                                  extract_lets -merge -useContext +onlyGivenNames w9 y9; have e9 : (0 : Int32) = w9 := he_r_80; clear_value w9; subst e9
                                  refine (if_pos rfl).trans ?_
                                  extract_lets -merge -useContext +onlyGivenNames w9 y9; have e9 : r_84 = w9 := he_r_84; clear_value w9; subst e9
                                  extract_lets -merge -useContext +onlyGivenNames w9 y9; have e9 : (0 : Int32) = w9 := he_r_87; clear_value w9; subst e9
                                  refine (if_pos rfl).trans ?_
                                  extract_lets -merge -useContext +onlyGivenNames w9 y9; have e9 : r_91 = w9 := he_r_91; clear_value w9; subst e9
                                  extract_lets -merge -useContext +onlyGivenNames w9 y9; have e9 : (0 : Int32) = w9 := he_r_94; clear_value w9; subst e9
                                  refine (if_pos rfl).trans ?_
                                  extract_lets -merge -useContext +onlyGivenNames w9 y9; have e9 : r_98 = w9 := he_r_98; clear_value w9; subst e9
                                  extract_lets -merge -useContext +onlyGivenNames w9 y9; have e9 : (0 : Int32) = w9 := he_r_101; clear_value w9; subst e9
                                  refine (if_pos rfl).trans ?_
                                  extract_lets -merge -useContext +onlyGivenNames w9 y9; have e9 : r_105 = w9 := he_r_105; clear_value w9; subst e9
                                  extract_lets -merge -useContext +onlyGivenNames w9 y9; have e9 : (1 : Int32) = w9 := he_r_108; clear_value w9; subst e9
                                  refine (if_neg (show ¬ (1 : Int32) = 0 by decide)).trans ?_
                                  exact rfl
                                exact hret _ _ _ _ _ _ () [0] hP hD hS rfl (by decide) dX12_houseWord_371 ⟨(congrArg (fun z9 => z9) hX_113).symm, hpost⟩
                            · skip
                              refine lv_if_eq (tgt := 345) hx hb dX12_houseWord_339 (by decide) (fun h9 => absurd h9 (by decide +kernel)) (fun _ => ?_)
                              refine lv_bipush (v := 13) hx hb dX12_houseWord_342 (by decide) ?_
                              have hpost : ((-1) ≤ (13 : Int32).toInt ∧ (13 : Int32).toInt ≤ 14) ∧ ((13 : Int32).toInt < 0 ∨ m_token.toInt = 1) := ⟨(by decide +kernel), (by omega)⟩
                              have hX_114 : F_r_houseWord m_token m_word = ((13 : Int32) : Int32) := by
                                refine (F_r_houseWord_s ..).trans ?_
                                extract_lets -merge -useContext +onlyGivenNames w9 y9; have e9 : r_1 = w9 := he_r_1; clear_value w9; subst e9
                                try (extract_lets -merge -useContext +onlyGivenNames y9; have e9 : x_4 = y9 := (by first | exact he_x_4 | exact he_x_4.symm); clear_value y9; subst e9)
                                try (extract_lets -merge -useContext +onlyGivenNames y9; have e9 : x_5 = y9 := (by first | exact he_x_5 | exact he_x_5.symm); clear_value y9; subst e9)
                                try (extract_lets -merge -useContext +onlyGivenNames y9; have e9 : x_6 = y9 := (by first | exact he_x_6 | exact he_x_6.symm); clear_value y9; subst e9)
                                extract_lets -merge -useContext +onlyGivenNames w9 y9; have e9 : (0 : Int32) = w9 := he_r_7; clear_value w9; subst e9
                                refine (if_pos rfl).trans ?_
                                extract_lets -merge -useContext +onlyGivenNames w9 y9; have e9 : r_11 = w9 := he_r_11; clear_value w9; subst e9
                                extract_lets -merge -useContext +onlyGivenNames w9 y9; have e9 : (0 : Int32) = w9 := he_r_14; clear_value w9; subst e9
                                refine (if_pos rfl).trans ?_
                                extract_lets -merge -useContext +onlyGivenNames w9 y9; have e9 : r_18 = w9 := he_r_18; clear_value w9; subst e9
                                extract_lets -merge -useContext +onlyGivenNames w9 y9; have e9 : (0 : Int32) = w9 := he_r_21; clear_value w9; subst e9
                                refine (if_pos rfl).trans ?_
                                extract_lets -merge -useContext +onlyGivenNames w9 y9; have e9 : r_25 = w9 := he_r_25; clear_value w9; subst e9
                                extract_lets -merge -useContext +onlyGivenNames w9 y9; have e9 : (0 : Int32) = w9 := he_r_28; clear_value w9; subst e9
                                refine (if_pos rfl).trans ?_
                                extract_lets -merge -useContext +onlyGivenNames w9 y9; have e9 : r_32 = w9 := he_r_32; clear_value w9; subst e9
                                extract_lets -merge -useContext +onlyGivenNames w9 y9; have e9 : (0 : Int32) = w9 := he_r_35; clear_value w9; subst e9
                                refine (if_pos rfl).trans ?_
                                extract_lets -merge -useContext +onlyGivenNames w9 y9; have e9 : r_39 = w9 := he_r_39; clear_value w9; subst e9
                                try (extract_lets -merge -useContext +onlyGivenNames y9; have e9 : x_42 = y9 := (by first | exact he_x_42 | exact he_x_42.symm); clear_value y9; subst e9)
                                try (extract_lets -merge -useContext +onlyGivenNames y9; have e9 : x_43 = y9 := (by first | exact he_x_43 | exact he_x_43.symm); clear_value y9; subst e9)
                                try (extract_lets -merge -useContext +onlyGivenNames y9; have e9 : x_44 = y9 := (by first | exact he_x_44 | exact he_x_44.symm); clear_value y9; subst e9)
                                extract_lets -merge -useContext +onlyGivenNames w9 y9; have e9 : (0 : Int32) = w9 := he_r_45; clear_value w9; subst e9
                                refine (if_pos rfl).trans ?_
                                extract_lets -merge -useContext +onlyGivenNames w9 y9; have e9 : r_49 = w9 := he_r_49; clear_value w9; subst e9
                                extract_lets -merge -useContext +onlyGivenNames w9 y9; have e9 : (0 : Int32) = w9 := he_r_52; clear_value w9; subst e9
                                refine (if_pos rfl).trans ?_
                                extract_lets -merge -useContext +onlyGivenNames w9 y9; have e9 : r_56 = w9 := he_r_56; clear_value w9; subst e9
                                extract_lets -merge -useContext +onlyGivenNames w9 y9; have e9 : (0 : Int32) = w9 := he_r_59; clear_value w9; subst e9
                                refine (if_pos rfl).trans ?_
                                extract_lets -merge -useContext +onlyGivenNames w9 y9; have e9 : r_63 = w9 := he_r_63; clear_value w9; subst e9
                                extract_lets -merge -useContext +onlyGivenNames w9 y9; have e9 : (0 : Int32) = w9 := he_r_66; clear_value w9; subst e9
                                refine (if_pos rfl).trans ?_
                                extract_lets -merge -useContext +onlyGivenNames w9 y9; have e9 : r_70 = w9 := he_r_70; clear_value w9; subst e9
                                extract_lets -merge -useContext +onlyGivenNames w9 y9; have e9 : (0 : Int32) = w9 := he_r_73; clear_value w9; subst e9
                                refine (if_pos rfl).trans ?_
                                extract_lets -merge -useContext +onlyGivenNames w9 y9; have e9 : r_77 = w9 := he_r_77; clear_value w9; subst e9
                                extract_lets -merge -useContext +onlyGivenNames w9 y9; have e9 : (0 : Int32) = w9 := he_r_80; clear_value w9; subst e9
                                refine (if_pos rfl).trans ?_
                                extract_lets -merge -useContext +onlyGivenNames w9 y9; have e9 : r_84 = w9 := he_r_84; clear_value w9; subst e9
                                extract_lets -merge -useContext +onlyGivenNames w9 y9; have e9 : (0 : Int32) = w9 := he_r_87; clear_value w9; subst e9
                                refine (if_pos rfl).trans ?_
                                extract_lets -merge -useContext +onlyGivenNames w9 y9; have e9 : r_91 = w9 := he_r_91; clear_value w9; subst e9
                                extract_lets -merge -useContext +onlyGivenNames w9 y9; have e9 : (0 : Int32) = w9 := he_r_94; clear_value w9; subst e9
                                refine (if_pos rfl).trans ?_
                                extract_lets -merge -useContext +onlyGivenNames w9 y9; have e9 : r_98 = w9 := he_r_98; clear_value w9; subst e9
                                extract_lets -merge -useContext +onlyGivenNames w9 y9; have e9 : (1 : Int32) = w9 := he_r_101; clear_value w9; subst e9
                                refine (if_neg (show ¬ (1 : Int32) = 0 by decide)).trans ?_
                                exact rfl
                              exact hret _ _ _ _ _ _ () [0] hP hD hS rfl (by decide) dX12_houseWord_344 ⟨(congrArg (fun z9 => z9) hX_114).symm, hpost⟩
                          · skip
                            refine lv_if_eq (tgt := 324) hx hb dX12_houseWord_318 (by decide) (fun h9 => absurd h9 (by decide +kernel)) (fun _ => ?_)
                            refine lv_bipush (v := 12) hx hb dX12_houseWord_321 (by decide) ?_
                            have hpost : ((-1) ≤ (12 : Int32).toInt ∧ (12 : Int32).toInt ≤ 14) ∧ ((12 : Int32).toInt < 0 ∨ m_token.toInt = 1) := ⟨(by decide +kernel), (by omega)⟩
                            have hX_115 : F_r_houseWord m_token m_word = ((12 : Int32) : Int32) := by
                              refine (F_r_houseWord_s ..).trans ?_
                              extract_lets -merge -useContext +onlyGivenNames w9 y9; have e9 : r_1 = w9 := he_r_1; clear_value w9; subst e9
                              try (extract_lets -merge -useContext +onlyGivenNames y9; have e9 : x_4 = y9 := (by first | exact he_x_4 | exact he_x_4.symm); clear_value y9; subst e9)
                              try (extract_lets -merge -useContext +onlyGivenNames y9; have e9 : x_5 = y9 := (by first | exact he_x_5 | exact he_x_5.symm); clear_value y9; subst e9)
                              try (extract_lets -merge -useContext +onlyGivenNames y9; have e9 : x_6 = y9 := (by first | exact he_x_6 | exact he_x_6.symm); clear_value y9; subst e9)
                              extract_lets -merge -useContext +onlyGivenNames w9 y9; have e9 : (0 : Int32) = w9 := he_r_7; clear_value w9; subst e9
                              refine (if_pos rfl).trans ?_
                              extract_lets -merge -useContext +onlyGivenNames w9 y9; have e9 : r_11 = w9 := he_r_11; clear_value w9; subst e9
                              extract_lets -merge -useContext +onlyGivenNames w9 y9; have e9 : (0 : Int32) = w9 := he_r_14; clear_value w9; subst e9
                              refine (if_pos rfl).trans ?_
                              extract_lets -merge -useContext +onlyGivenNames w9 y9; have e9 : r_18 = w9 := he_r_18; clear_value w9; subst e9
                              extract_lets -merge -useContext +onlyGivenNames w9 y9; have e9 : (0 : Int32) = w9 := he_r_21; clear_value w9; subst e9
                              refine (if_pos rfl).trans ?_
                              extract_lets -merge -useContext +onlyGivenNames w9 y9; have e9 : r_25 = w9 := he_r_25; clear_value w9; subst e9
                              extract_lets -merge -useContext +onlyGivenNames w9 y9; have e9 : (0 : Int32) = w9 := he_r_28; clear_value w9; subst e9
                              refine (if_pos rfl).trans ?_
                              extract_lets -merge -useContext +onlyGivenNames w9 y9; have e9 : r_32 = w9 := he_r_32; clear_value w9; subst e9
                              extract_lets -merge -useContext +onlyGivenNames w9 y9; have e9 : (0 : Int32) = w9 := he_r_35; clear_value w9; subst e9
                              refine (if_pos rfl).trans ?_
                              extract_lets -merge -useContext +onlyGivenNames w9 y9; have e9 : r_39 = w9 := he_r_39; clear_value w9; subst e9
                              try (extract_lets -merge -useContext +onlyGivenNames y9; have e9 : x_42 = y9 := (by first | exact he_x_42 | exact he_x_42.symm); clear_value y9; subst e9)
                              try (extract_lets -merge -useContext +onlyGivenNames y9; have e9 : x_43 = y9 := (by first | exact he_x_43 | exact he_x_43.symm); clear_value y9; subst e9)
                              try (extract_lets -merge -useContext +onlyGivenNames y9; have e9 : x_44 = y9 := (by first | exact he_x_44 | exact he_x_44.symm); clear_value y9; subst e9)
                              extract_lets -merge -useContext +onlyGivenNames w9 y9; have e9 : (0 : Int32) = w9 := he_r_45; clear_value w9; subst e9
                              refine (if_pos rfl).trans ?_
                              extract_lets -merge -useContext +onlyGivenNames w9 y9; have e9 : r_49 = w9 := he_r_49; clear_value w9; subst e9
                              extract_lets -merge -useContext +onlyGivenNames w9 y9; have e9 : (0 : Int32) = w9 := he_r_52; clear_value w9; subst e9
                              refine (if_pos rfl).trans ?_
                              extract_lets -merge -useContext +onlyGivenNames w9 y9; have e9 : r_56 = w9 := he_r_56; clear_value w9; subst e9
                              extract_lets -merge -useContext +onlyGivenNames w9 y9; have e9 : (0 : Int32) = w9 := he_r_59; clear_value w9; subst e9
                              refine (if_pos rfl).trans ?_
                              extract_lets -merge -useContext +onlyGivenNames w9 y9; have e9 : r_63 = w9 := he_r_63; clear_value w9; subst e9
                              extract_lets -merge -useContext +onlyGivenNames w9 y9; have e9 : (0 : Int32) = w9 := he_r_66; clear_value w9; subst e9
                              refine (if_pos rfl).trans ?_
                              extract_lets -merge -useContext +onlyGivenNames w9 y9; have e9 : r_70 = w9 := he_r_70; clear_value w9; subst e9
                              extract_lets -merge -useContext +onlyGivenNames w9 y9; have e9 : (0 : Int32) = w9 := he_r_73; clear_value w9; subst e9
                              refine (if_pos rfl).trans ?_
                              extract_lets -merge -useContext +onlyGivenNames w9 y9; have e9 : r_77 = w9 := he_r_77; clear_value w9; subst e9
                              extract_lets -merge -useContext +onlyGivenNames w9 y9; have e9 : (0 : Int32) = w9 := he_r_80; clear_value w9; subst e9
                              refine (if_pos rfl).trans ?_
                              extract_lets -merge -useContext +onlyGivenNames w9 y9; have e9 : r_84 = w9 := he_r_84; clear_value w9; subst e9
                              extract_lets -merge -useContext +onlyGivenNames w9 y9; have e9 : (0 : Int32) = w9 := he_r_87; clear_value w9; subst e9
                              refine (if_pos rfl).trans ?_
                              extract_lets -merge -useContext +onlyGivenNames w9 y9; have e9 : r_91 = w9 := he_r_91; clear_value w9; subst e9
                              extract_lets -merge -useContext +onlyGivenNames w9 y9; have e9 : (1 : Int32) = w9 := he_r_94; clear_value w9; subst e9
                              refine (if_neg (show ¬ (1 : Int32) = 0 by decide)).trans ?_
                              exact rfl
                            exact hret _ _ _ _ _ _ () [0] hP hD hS rfl (by decide) dX12_houseWord_323 ⟨(congrArg (fun z9 => z9) hX_115).symm, hpost⟩
                        · skip
                          refine lv_if_eq (tgt := 302) hx hb dX12_houseWord_296 (by decide) (fun h9 => absurd h9 (by decide +kernel)) (fun _ => ?_)
                          refine lv_bipush (v := 11) hx hb dX12_houseWord_299 (by decide) ?_
                          have hpost : ((-1) ≤ (11 : Int32).toInt ∧ (11 : Int32).toInt ≤ 14) ∧ ((11 : Int32).toInt < 0 ∨ m_token.toInt = 1) := ⟨(by decide +kernel), (by omega)⟩
                          have hX_116 : F_r_houseWord m_token m_word = ((11 : Int32) : Int32) := by
                            refine (F_r_houseWord_s ..).trans ?_
                            extract_lets -merge -useContext +onlyGivenNames w9 y9; have e9 : r_1 = w9 := he_r_1; clear_value w9; subst e9
                            try (extract_lets -merge -useContext +onlyGivenNames y9; have e9 : x_4 = y9 := (by first | exact he_x_4 | exact he_x_4.symm); clear_value y9; subst e9)
                            try (extract_lets -merge -useContext +onlyGivenNames y9; have e9 : x_5 = y9 := (by first | exact he_x_5 | exact he_x_5.symm); clear_value y9; subst e9)
                            try (extract_lets -merge -useContext +onlyGivenNames y9; have e9 : x_6 = y9 := (by first | exact he_x_6 | exact he_x_6.symm); clear_value y9; subst e9)
                            extract_lets -merge -useContext +onlyGivenNames w9 y9; have e9 : (0 : Int32) = w9 := he_r_7; clear_value w9; subst e9
                            refine (if_pos rfl).trans ?_
                            extract_lets -merge -useContext +onlyGivenNames w9 y9; have e9 : r_11 = w9 := he_r_11; clear_value w9; subst e9
                            extract_lets -merge -useContext +onlyGivenNames w9 y9; have e9 : (0 : Int32) = w9 := he_r_14; clear_value w9; subst e9
                            refine (if_pos rfl).trans ?_
                            extract_lets -merge -useContext +onlyGivenNames w9 y9; have e9 : r_18 = w9 := he_r_18; clear_value w9; subst e9
                            extract_lets -merge -useContext +onlyGivenNames w9 y9; have e9 : (0 : Int32) = w9 := he_r_21; clear_value w9; subst e9
                            refine (if_pos rfl).trans ?_
                            extract_lets -merge -useContext +onlyGivenNames w9 y9; have e9 : r_25 = w9 := he_r_25; clear_value w9; subst e9
                            extract_lets -merge -useContext +onlyGivenNames w9 y9; have e9 : (0 : Int32) = w9 := he_r_28; clear_value w9; subst e9
                            refine (if_pos rfl).trans ?_
                            extract_lets -merge -useContext +onlyGivenNames w9 y9; have e9 : r_32 = w9 := he_r_32; clear_value w9; subst e9
                            extract_lets -merge -useContext +onlyGivenNames w9 y9; have e9 : (0 : Int32) = w9 := he_r_35; clear_value w9; subst e9
                            refine (if_pos rfl).trans ?_
                            extract_lets -merge -useContext +onlyGivenNames w9 y9; have e9 : r_39 = w9 := he_r_39; clear_value w9; subst e9
                            try (extract_lets -merge -useContext +onlyGivenNames y9; have e9 : x_42 = y9 := (by first | exact he_x_42 | exact he_x_42.symm); clear_value y9; subst e9)
                            try (extract_lets -merge -useContext +onlyGivenNames y9; have e9 : x_43 = y9 := (by first | exact he_x_43 | exact he_x_43.symm); clear_value y9; subst e9)
                            try (extract_lets -merge -useContext +onlyGivenNames y9; have e9 : x_44 = y9 := (by first | exact he_x_44 | exact he_x_44.symm); clear_value y9; subst e9)
                            extract_lets -merge -useContext +onlyGivenNames w9 y9; have e9 : (0 : Int32) = w9 := he_r_45; clear_value w9; subst e9
                            refine (if_pos rfl).trans ?_
                            extract_lets -merge -useContext +onlyGivenNames w9 y9; have e9 : r_49 = w9 := he_r_49; clear_value w9; subst e9
                            extract_lets -merge -useContext +onlyGivenNames w9 y9; have e9 : (0 : Int32) = w9 := he_r_52; clear_value w9; subst e9
                            refine (if_pos rfl).trans ?_
                            extract_lets -merge -useContext +onlyGivenNames w9 y9; have e9 : r_56 = w9 := he_r_56; clear_value w9; subst e9
                            extract_lets -merge -useContext +onlyGivenNames w9 y9; have e9 : (0 : Int32) = w9 := he_r_59; clear_value w9; subst e9
                            refine (if_pos rfl).trans ?_
                            extract_lets -merge -useContext +onlyGivenNames w9 y9; have e9 : r_63 = w9 := he_r_63; clear_value w9; subst e9
                            extract_lets -merge -useContext +onlyGivenNames w9 y9; have e9 : (0 : Int32) = w9 := he_r_66; clear_value w9; subst e9
                            refine (if_pos rfl).trans ?_
                            extract_lets -merge -useContext +onlyGivenNames w9 y9; have e9 : r_70 = w9 := he_r_70; clear_value w9; subst e9
                            extract_lets -merge -useContext +onlyGivenNames w9 y9; have e9 : (0 : Int32) = w9 := he_r_73; clear_value w9; subst e9
                            refine (if_pos rfl).trans ?_
                            extract_lets -merge -useContext +onlyGivenNames w9 y9; have e9 : r_77 = w9 := he_r_77; clear_value w9; subst e9
                            extract_lets -merge -useContext +onlyGivenNames w9 y9; have e9 : (0 : Int32) = w9 := he_r_80; clear_value w9; subst e9
                            refine (if_pos rfl).trans ?_
                            extract_lets -merge -useContext +onlyGivenNames w9 y9; have e9 : r_84 = w9 := he_r_84; clear_value w9; subst e9
                            extract_lets -merge -useContext +onlyGivenNames w9 y9; have e9 : (1 : Int32) = w9 := he_r_87; clear_value w9; subst e9
                            refine (if_neg (show ¬ (1 : Int32) = 0 by decide)).trans ?_
                            exact rfl
                          exact hret _ _ _ _ _ _ () [0] hP hD hS rfl (by decide) dX12_houseWord_301 ⟨(congrArg (fun z9 => z9) hX_116).symm, hpost⟩
                      · skip
                        refine lv_if_eq (tgt := 279) hx hb dX12_houseWord_273 (by decide) (fun h9 => absurd h9 (by decide +kernel)) (fun _ => ?_)
                        refine lv_bipush (v := 10) hx hb dX12_houseWord_276 (by decide) ?_
                        have hpost : ((-1) ≤ (10 : Int32).toInt ∧ (10 : Int32).toInt ≤ 14) ∧ ((10 : Int32).toInt < 0 ∨ m_token.toInt = 1) := ⟨(by decide +kernel), (by omega)⟩
                        have hX_117 : F_r_houseWord m_token m_word = ((10 : Int32) : Int32) := by
                          refine (F_r_houseWord_s ..).trans ?_
                          extract_lets -merge -useContext +onlyGivenNames w9 y9; have e9 : r_1 = w9 := he_r_1; clear_value w9; subst e9
                          try (extract_lets -merge -useContext +onlyGivenNames y9; have e9 : x_4 = y9 := (by first | exact he_x_4 | exact he_x_4.symm); clear_value y9; subst e9)
                          try (extract_lets -merge -useContext +onlyGivenNames y9; have e9 : x_5 = y9 := (by first | exact he_x_5 | exact he_x_5.symm); clear_value y9; subst e9)
                          try (extract_lets -merge -useContext +onlyGivenNames y9; have e9 : x_6 = y9 := (by first | exact he_x_6 | exact he_x_6.symm); clear_value y9; subst e9)
                          extract_lets -merge -useContext +onlyGivenNames w9 y9; have e9 : (0 : Int32) = w9 := he_r_7; clear_value w9; subst e9
                          refine (if_pos rfl).trans ?_
                          extract_lets -merge -useContext +onlyGivenNames w9 y9; have e9 : r_11 = w9 := he_r_11; clear_value w9; subst e9
                          extract_lets -merge -useContext +onlyGivenNames w9 y9; have e9 : (0 : Int32) = w9 := he_r_14; clear_value w9; subst e9
                          refine (if_pos rfl).trans ?_
                          extract_lets -merge -useContext +onlyGivenNames w9 y9; have e9 : r_18 = w9 := he_r_18; clear_value w9; subst e9
                          extract_lets -merge -useContext +onlyGivenNames w9 y9; have e9 : (0 : Int32) = w9 := he_r_21; clear_value w9; subst e9
                          refine (if_pos rfl).trans ?_
                          extract_lets -merge -useContext +onlyGivenNames w9 y9; have e9 : r_25 = w9 := he_r_25; clear_value w9; subst e9
                          extract_lets -merge -useContext +onlyGivenNames w9 y9; have e9 : (0 : Int32) = w9 := he_r_28; clear_value w9; subst e9
                          refine (if_pos rfl).trans ?_
                          extract_lets -merge -useContext +onlyGivenNames w9 y9; have e9 : r_32 = w9 := he_r_32; clear_value w9; subst e9
                          extract_lets -merge -useContext +onlyGivenNames w9 y9; have e9 : (0 : Int32) = w9 := he_r_35; clear_value w9; subst e9
                          refine (if_pos rfl).trans ?_
                          extract_lets -merge -useContext +onlyGivenNames w9 y9; have e9 : r_39 = w9 := he_r_39; clear_value w9; subst e9
                          try (extract_lets -merge -useContext +onlyGivenNames y9; have e9 : x_42 = y9 := (by first | exact he_x_42 | exact he_x_42.symm); clear_value y9; subst e9)
                          try (extract_lets -merge -useContext +onlyGivenNames y9; have e9 : x_43 = y9 := (by first | exact he_x_43 | exact he_x_43.symm); clear_value y9; subst e9)
                          try (extract_lets -merge -useContext +onlyGivenNames y9; have e9 : x_44 = y9 := (by first | exact he_x_44 | exact he_x_44.symm); clear_value y9; subst e9)
                          extract_lets -merge -useContext +onlyGivenNames w9 y9; have e9 : (0 : Int32) = w9 := he_r_45; clear_value w9; subst e9
                          refine (if_pos rfl).trans ?_
                          extract_lets -merge -useContext +onlyGivenNames w9 y9; have e9 : r_49 = w9 := he_r_49; clear_value w9; subst e9
                          extract_lets -merge -useContext +onlyGivenNames w9 y9; have e9 : (0 : Int32) = w9 := he_r_52; clear_value w9; subst e9
                          refine (if_pos rfl).trans ?_
                          extract_lets -merge -useContext +onlyGivenNames w9 y9; have e9 : r_56 = w9 := he_r_56; clear_value w9; subst e9
                          extract_lets -merge -useContext +onlyGivenNames w9 y9; have e9 : (0 : Int32) = w9 := he_r_59; clear_value w9; subst e9
                          refine (if_pos rfl).trans ?_
                          extract_lets -merge -useContext +onlyGivenNames w9 y9; have e9 : r_63 = w9 := he_r_63; clear_value w9; subst e9
                          extract_lets -merge -useContext +onlyGivenNames w9 y9; have e9 : (0 : Int32) = w9 := he_r_66; clear_value w9; subst e9
                          refine (if_pos rfl).trans ?_
                          extract_lets -merge -useContext +onlyGivenNames w9 y9; have e9 : r_70 = w9 := he_r_70; clear_value w9; subst e9
                          extract_lets -merge -useContext +onlyGivenNames w9 y9; have e9 : (0 : Int32) = w9 := he_r_73; clear_value w9; subst e9
                          refine (if_pos rfl).trans ?_
                          extract_lets -merge -useContext +onlyGivenNames w9 y9; have e9 : r_77 = w9 := he_r_77; clear_value w9; subst e9
                          extract_lets -merge -useContext +onlyGivenNames w9 y9; have e9 : (1 : Int32) = w9 := he_r_80; clear_value w9; subst e9
                          refine (if_neg (show ¬ (1 : Int32) = 0 by decide)).trans ?_
                          exact rfl
                        exact hret _ _ _ _ _ _ () [0] hP hD hS rfl (by decide) dX12_houseWord_278 ⟨(congrArg (fun z9 => z9) hX_117).symm, hpost⟩
                    · skip
                      refine lv_if_eq (tgt := 258) hx hb dX12_houseWord_252 (by decide) (fun h9 => absurd h9 (by decide +kernel)) (fun _ => ?_)
                      refine lv_bipush (v := 9) hx hb dX12_houseWord_255 (by decide) ?_
                      have hpost : ((-1) ≤ (9 : Int32).toInt ∧ (9 : Int32).toInt ≤ 14) ∧ ((9 : Int32).toInt < 0 ∨ m_token.toInt = 1) := ⟨(by decide +kernel), (by omega)⟩
                      have hX_118 : F_r_houseWord m_token m_word = ((9 : Int32) : Int32) := by
                        refine (F_r_houseWord_s ..).trans ?_
                        extract_lets -merge -useContext +onlyGivenNames w9 y9; have e9 : r_1 = w9 := he_r_1; clear_value w9; subst e9
                        try (extract_lets -merge -useContext +onlyGivenNames y9; have e9 : x_4 = y9 := (by first | exact he_x_4 | exact he_x_4.symm); clear_value y9; subst e9)
                        try (extract_lets -merge -useContext +onlyGivenNames y9; have e9 : x_5 = y9 := (by first | exact he_x_5 | exact he_x_5.symm); clear_value y9; subst e9)
                        try (extract_lets -merge -useContext +onlyGivenNames y9; have e9 : x_6 = y9 := (by first | exact he_x_6 | exact he_x_6.symm); clear_value y9; subst e9)
                        extract_lets -merge -useContext +onlyGivenNames w9 y9; have e9 : (0 : Int32) = w9 := he_r_7; clear_value w9; subst e9
                        refine (if_pos rfl).trans ?_
                        extract_lets -merge -useContext +onlyGivenNames w9 y9; have e9 : r_11 = w9 := he_r_11; clear_value w9; subst e9
                        extract_lets -merge -useContext +onlyGivenNames w9 y9; have e9 : (0 : Int32) = w9 := he_r_14; clear_value w9; subst e9
                        refine (if_pos rfl).trans ?_
                        extract_lets -merge -useContext +onlyGivenNames w9 y9; have e9 : r_18 = w9 := he_r_18; clear_value w9; subst e9
                        extract_lets -merge -useContext +onlyGivenNames w9 y9; have e9 : (0 : Int32) = w9 := he_r_21; clear_value w9; subst e9
                        refine (if_pos rfl).trans ?_
                        extract_lets -merge -useContext +onlyGivenNames w9 y9; have e9 : r_25 = w9 := he_r_25; clear_value w9; subst e9
                        extract_lets -merge -useContext +onlyGivenNames w9 y9; have e9 : (0 : Int32) = w9 := he_r_28; clear_value w9; subst e9
                        refine (if_pos rfl).trans ?_
                        extract_lets -merge -useContext +onlyGivenNames w9 y9; have e9 : r_32 = w9 := he_r_32; clear_value w9; subst e9
                        extract_lets -merge -useContext +onlyGivenNames w9 y9; have e9 : (0 : Int32) = w9 := he_r_35; clear_value w9; subst e9
                        refine (if_pos rfl).trans ?_
                        extract_lets -merge -useContext +onlyGivenNames w9 y9; have e9 : r_39 = w9 := he_r_39; clear_value w9; subst e9
                        try (extract_lets -merge -useContext +onlyGivenNames y9; have e9 : x_42 = y9 := (by first | exact he_x_42 | exact he_x_42.symm); clear_value y9; subst e9)
                        try (extract_lets -merge -useContext +onlyGivenNames y9; have e9 : x_43 = y9 := (by first | exact he_x_43 | exact he_x_43.symm); clear_value y9; subst e9)
                        try (extract_lets -merge -useContext +onlyGivenNames y9; have e9 : x_44 = y9 := (by first | exact he_x_44 | exact he_x_44.symm); clear_value y9; subst e9)
                        extract_lets -merge -useContext +onlyGivenNames w9 y9; have e9 : (0 : Int32) = w9 := he_r_45; clear_value w9; subst e9
                        refine (if_pos rfl).trans ?_
                        extract_lets -merge -useContext +onlyGivenNames w9 y9; have e9 : r_49 = w9 := he_r_49; clear_value w9; subst e9
                        extract_lets -merge -useContext +onlyGivenNames w9 y9; have e9 : (0 : Int32) = w9 := he_r_52; clear_value w9; subst e9
                        refine (if_pos rfl).trans ?_
                        extract_lets -merge -useContext +onlyGivenNames w9 y9; have e9 : r_56 = w9 := he_r_56; clear_value w9; subst e9
                        extract_lets -merge -useContext +onlyGivenNames w9 y9; have e9 : (0 : Int32) = w9 := he_r_59; clear_value w9; subst e9
                        refine (if_pos rfl).trans ?_
                        extract_lets -merge -useContext +onlyGivenNames w9 y9; have e9 : r_63 = w9 := he_r_63; clear_value w9; subst e9
                        extract_lets -merge -useContext +onlyGivenNames w9 y9; have e9 : (0 : Int32) = w9 := he_r_66; clear_value w9; subst e9
                        refine (if_pos rfl).trans ?_
                        extract_lets -merge -useContext +onlyGivenNames w9 y9; have e9 : r_70 = w9 := he_r_70; clear_value w9; subst e9
                        extract_lets -merge -useContext +onlyGivenNames w9 y9; have e9 : (1 : Int32) = w9 := he_r_73; clear_value w9; subst e9
                        refine (if_neg (show ¬ (1 : Int32) = 0 by decide)).trans ?_
                        exact rfl
                      exact hret _ _ _ _ _ _ () [0] hP hD hS rfl (by decide) dX12_houseWord_257 ⟨(congrArg (fun z9 => z9) hX_118).symm, hpost⟩
                  · skip
                    refine lv_if_eq (tgt := 233) hx hb dX12_houseWord_227 (by decide) (fun h9 => absurd h9 (by decide +kernel)) (fun _ => ?_)
                    refine lv_bipush (v := 8) hx hb dX12_houseWord_230 (by decide) ?_
                    have hpost : ((-1) ≤ (8 : Int32).toInt ∧ (8 : Int32).toInt ≤ 14) ∧ ((8 : Int32).toInt < 0 ∨ m_token.toInt = 1) := ⟨(by decide +kernel), (by omega)⟩
                    have hX_119 : F_r_houseWord m_token m_word = ((8 : Int32) : Int32) := by
                      refine (F_r_houseWord_s ..).trans ?_
                      extract_lets -merge -useContext +onlyGivenNames w9 y9; have e9 : r_1 = w9 := he_r_1; clear_value w9; subst e9
                      try (extract_lets -merge -useContext +onlyGivenNames y9; have e9 : x_4 = y9 := (by first | exact he_x_4 | exact he_x_4.symm); clear_value y9; subst e9)
                      try (extract_lets -merge -useContext +onlyGivenNames y9; have e9 : x_5 = y9 := (by first | exact he_x_5 | exact he_x_5.symm); clear_value y9; subst e9)
                      try (extract_lets -merge -useContext +onlyGivenNames y9; have e9 : x_6 = y9 := (by first | exact he_x_6 | exact he_x_6.symm); clear_value y9; subst e9)
                      extract_lets -merge -useContext +onlyGivenNames w9 y9; have e9 : (0 : Int32) = w9 := he_r_7; clear_value w9; subst e9
                      refine (if_pos rfl).trans ?_
                      extract_lets -merge -useContext +onlyGivenNames w9 y9; have e9 : r_11 = w9 := he_r_11; clear_value w9; subst e9
                      extract_lets -merge -useContext +onlyGivenNames w9 y9; have e9 : (0 : Int32) = w9 := he_r_14; clear_value w9; subst e9
                      refine (if_pos rfl).trans ?_
                      extract_lets -merge -useContext +onlyGivenNames w9 y9; have e9 : r_18 = w9 := he_r_18; clear_value w9; subst e9
                      extract_lets -merge -useContext +onlyGivenNames w9 y9; have e9 : (0 : Int32) = w9 := he_r_21; clear_value w9; subst e9
                      refine (if_pos rfl).trans ?_
                      extract_lets -merge -useContext +onlyGivenNames w9 y9; have e9 : r_25 = w9 := he_r_25; clear_value w9; subst e9
                      extract_lets -merge -useContext +onlyGivenNames w9 y9; have e9 : (0 : Int32) = w9 := he_r_28; clear_value w9; subst e9
                      refine (if_pos rfl).trans ?_
                      extract_lets -merge -useContext +onlyGivenNames w9 y9; have e9 : r_32 = w9 := he_r_32; clear_value w9; subst e9
                      extract_lets -merge -useContext +onlyGivenNames w9 y9; have e9 : (0 : Int32) = w9 := he_r_35; clear_value w9; subst e9
                      refine (if_pos rfl).trans ?_
                      extract_lets -merge -useContext +onlyGivenNames w9 y9; have e9 : r_39 = w9 := he_r_39; clear_value w9; subst e9
                      try (extract_lets -merge -useContext +onlyGivenNames y9; have e9 : x_42 = y9 := (by first | exact he_x_42 | exact he_x_42.symm); clear_value y9; subst e9)
                      try (extract_lets -merge -useContext +onlyGivenNames y9; have e9 : x_43 = y9 := (by first | exact he_x_43 | exact he_x_43.symm); clear_value y9; subst e9)
                      try (extract_lets -merge -useContext +onlyGivenNames y9; have e9 : x_44 = y9 := (by first | exact he_x_44 | exact he_x_44.symm); clear_value y9; subst e9)
                      extract_lets -merge -useContext +onlyGivenNames w9 y9; have e9 : (0 : Int32) = w9 := he_r_45; clear_value w9; subst e9
                      refine (if_pos rfl).trans ?_
                      extract_lets -merge -useContext +onlyGivenNames w9 y9; have e9 : r_49 = w9 := he_r_49; clear_value w9; subst e9
                      extract_lets -merge -useContext +onlyGivenNames w9 y9; have e9 : (0 : Int32) = w9 := he_r_52; clear_value w9; subst e9
                      refine (if_pos rfl).trans ?_
                      extract_lets -merge -useContext +onlyGivenNames w9 y9; have e9 : r_56 = w9 := he_r_56; clear_value w9; subst e9
                      extract_lets -merge -useContext +onlyGivenNames w9 y9; have e9 : (0 : Int32) = w9 := he_r_59; clear_value w9; subst e9
                      refine (if_pos rfl).trans ?_
                      extract_lets -merge -useContext +onlyGivenNames w9 y9; have e9 : r_63 = w9 := he_r_63; clear_value w9; subst e9
                      extract_lets -merge -useContext +onlyGivenNames w9 y9; have e9 : (1 : Int32) = w9 := he_r_66; clear_value w9; subst e9
                      refine (if_neg (show ¬ (1 : Int32) = 0 by decide)).trans ?_
                      exact rfl
                    exact hret _ _ _ _ _ _ () [0] hP hD hS rfl (by decide) dX12_houseWord_232 ⟨(congrArg (fun z9 => z9) hX_119).symm, hpost⟩
                · skip
                  refine lv_if_eq (tgt := 209) hx hb dX12_houseWord_203 (by decide) (fun h9 => absurd h9 (by decide +kernel)) (fun _ => ?_)
                  refine lv_bipush (v := 7) hx hb dX12_houseWord_206 (by decide) ?_
                  have hpost : ((-1) ≤ (7 : Int32).toInt ∧ (7 : Int32).toInt ≤ 14) ∧ ((7 : Int32).toInt < 0 ∨ m_token.toInt = 1) := ⟨(by decide +kernel), (by omega)⟩
                  have hX_120 : F_r_houseWord m_token m_word = ((7 : Int32) : Int32) := by
                    refine (F_r_houseWord_s ..).trans ?_
                    extract_lets -merge -useContext +onlyGivenNames w9 y9; have e9 : r_1 = w9 := he_r_1; clear_value w9; subst e9
                    try (extract_lets -merge -useContext +onlyGivenNames y9; have e9 : x_4 = y9 := (by first | exact he_x_4 | exact he_x_4.symm); clear_value y9; subst e9)
                    try (extract_lets -merge -useContext +onlyGivenNames y9; have e9 : x_5 = y9 := (by first | exact he_x_5 | exact he_x_5.symm); clear_value y9; subst e9)
                    try (extract_lets -merge -useContext +onlyGivenNames y9; have e9 : x_6 = y9 := (by first | exact he_x_6 | exact he_x_6.symm); clear_value y9; subst e9)
                    extract_lets -merge -useContext +onlyGivenNames w9 y9; have e9 : (0 : Int32) = w9 := he_r_7; clear_value w9; subst e9
                    refine (if_pos rfl).trans ?_
                    extract_lets -merge -useContext +onlyGivenNames w9 y9; have e9 : r_11 = w9 := he_r_11; clear_value w9; subst e9
                    extract_lets -merge -useContext +onlyGivenNames w9 y9; have e9 : (0 : Int32) = w9 := he_r_14; clear_value w9; subst e9
                    refine (if_pos rfl).trans ?_
                    extract_lets -merge -useContext +onlyGivenNames w9 y9; have e9 : r_18 = w9 := he_r_18; clear_value w9; subst e9
                    extract_lets -merge -useContext +onlyGivenNames w9 y9; have e9 : (0 : Int32) = w9 := he_r_21; clear_value w9; subst e9
                    refine (if_pos rfl).trans ?_
                    extract_lets -merge -useContext +onlyGivenNames w9 y9; have e9 : r_25 = w9 := he_r_25; clear_value w9; subst e9
                    extract_lets -merge -useContext +onlyGivenNames w9 y9; have e9 : (0 : Int32) = w9 := he_r_28; clear_value w9; subst e9
                    refine (if_pos rfl).trans ?_
                    extract_lets -merge -useContext +onlyGivenNames w9 y9; have e9 : r_32 = w9 := he_r_32; clear_value w9; subst e9
                    extract_lets -merge -useContext +onlyGivenNames w9 y9; have e9 : (0 : Int32) = w9 := he_r_35; clear_value w9; subst e9
                    refine (if_pos rfl).trans ?_
                    extract_lets -merge -useContext +onlyGivenNames w9 y9; have e9 : r_39 = w9 := he_r_39; clear_value w9; subst e9
                    try (extract_lets -merge -useContext +onlyGivenNames y9; have e9 : x_42 = y9 := (by first | exact he_x_42 | exact he_x_42.symm); clear_value y9; subst e9)
                    try (extract_lets -merge -useContext +onlyGivenNames y9; have e9 : x_43 = y9 := (by first | exact he_x_43 | exact he_x_43.symm); clear_value y9; subst e9)
                    try (extract_lets -merge -useContext +onlyGivenNames y9; have e9 : x_44 = y9 := (by first | exact he_x_44 | exact he_x_44.symm); clear_value y9; subst e9)
                    extract_lets -merge -useContext +onlyGivenNames w9 y9; have e9 : (0 : Int32) = w9 := he_r_45; clear_value w9; subst e9
                    refine (if_pos rfl).trans ?_
                    extract_lets -merge -useContext +onlyGivenNames w9 y9; have e9 : r_49 = w9 := he_r_49; clear_value w9; subst e9
                    extract_lets -merge -useContext +onlyGivenNames w9 y9; have e9 : (0 : Int32) = w9 := he_r_52; clear_value w9; subst e9
                    refine (if_pos rfl).trans ?_
                    extract_lets -merge -useContext +onlyGivenNames w9 y9; have e9 : r_56 = w9 := he_r_56; clear_value w9; subst e9
                    extract_lets -merge -useContext +onlyGivenNames w9 y9; have e9 : (1 : Int32) = w9 := he_r_59; clear_value w9; subst e9
                    refine (if_neg (show ¬ (1 : Int32) = 0 by decide)).trans ?_
                    exact rfl
                  exact hret _ _ _ _ _ _ () [0] hP hD hS rfl (by decide) dX12_houseWord_208 ⟨(congrArg (fun z9 => z9) hX_120).symm, hpost⟩
              · skip
                refine lv_if_eq (tgt := 185) hx hb dX12_houseWord_179 (by decide) (fun h9 => absurd h9 (by decide +kernel)) (fun _ => ?_)
                refine lv_bipush (v := 6) hx hb dX12_houseWord_182 (by decide) ?_
                have hpost : ((-1) ≤ (6 : Int32).toInt ∧ (6 : Int32).toInt ≤ 14) ∧ ((6 : Int32).toInt < 0 ∨ m_token.toInt = 1) := ⟨(by decide +kernel), (by omega)⟩
                have hX_121 : F_r_houseWord m_token m_word = ((6 : Int32) : Int32) := by
                  refine (F_r_houseWord_s ..).trans ?_
                  extract_lets -merge -useContext +onlyGivenNames w9 y9; have e9 : r_1 = w9 := he_r_1; clear_value w9; subst e9
                  try (extract_lets -merge -useContext +onlyGivenNames y9; have e9 : x_4 = y9 := (by first | exact he_x_4 | exact he_x_4.symm); clear_value y9; subst e9)
                  try (extract_lets -merge -useContext +onlyGivenNames y9; have e9 : x_5 = y9 := (by first | exact he_x_5 | exact he_x_5.symm); clear_value y9; subst e9)
                  try (extract_lets -merge -useContext +onlyGivenNames y9; have e9 : x_6 = y9 := (by first | exact he_x_6 | exact he_x_6.symm); clear_value y9; subst e9)
                  extract_lets -merge -useContext +onlyGivenNames w9 y9; have e9 : (0 : Int32) = w9 := he_r_7; clear_value w9; subst e9
                  refine (if_pos rfl).trans ?_
                  extract_lets -merge -useContext +onlyGivenNames w9 y9; have e9 : r_11 = w9 := he_r_11; clear_value w9; subst e9
                  extract_lets -merge -useContext +onlyGivenNames w9 y9; have e9 : (0 : Int32) = w9 := he_r_14; clear_value w9; subst e9
                  refine (if_pos rfl).trans ?_
                  extract_lets -merge -useContext +onlyGivenNames w9 y9; have e9 : r_18 = w9 := he_r_18; clear_value w9; subst e9
                  extract_lets -merge -useContext +onlyGivenNames w9 y9; have e9 : (0 : Int32) = w9 := he_r_21; clear_value w9; subst e9
                  refine (if_pos rfl).trans ?_
                  extract_lets -merge -useContext +onlyGivenNames w9 y9; have e9 : r_25 = w9 := he_r_25; clear_value w9; subst e9
                  extract_lets -merge -useContext +onlyGivenNames w9 y9; have e9 : (0 : Int32) = w9 := he_r_28; clear_value w9; subst e9
                  refine (if_pos rfl).trans ?_
                  extract_lets -merge -useContext +onlyGivenNames w9 y9; have e9 : r_32 = w9 := he_r_32; clear_value w9; subst e9
                  extract_lets -merge -useContext +onlyGivenNames w9 y9; have e9 : (0 : Int32) = w9 := he_r_35; clear_value w9; subst e9
                  refine (if_pos rfl).trans ?_
                  extract_lets -merge -useContext +onlyGivenNames w9 y9; have e9 : r_39 = w9 := he_r_39; clear_value w9; subst e9
                  try (extract_lets -merge -useContext +onlyGivenNames y9; have e9 : x_42 = y9 := (by first | exact he_x_42 | exact he_x_42.symm); clear_value y9; subst e9)
                  try (extract_lets -merge -useContext +onlyGivenNames y9; have e9 : x_43 = y9 := (by first | exact he_x_43 | exact he_x_43.symm); clear_value y9; subst e9)
                  try (extract_lets -merge -useContext +onlyGivenNames y9; have e9 : x_44 = y9 := (by first | exact he_x_44 | exact he_x_44.symm); clear_value y9; subst e9)
                  extract_lets -merge -useContext +onlyGivenNames w9 y9; have e9 : (0 : Int32) = w9 := he_r_45; clear_value w9; subst e9
                  refine (if_pos rfl).trans ?_
                  extract_lets -merge -useContext +onlyGivenNames w9 y9; have e9 : r_49 = w9 := he_r_49; clear_value w9; subst e9
                  extract_lets -merge -useContext +onlyGivenNames w9 y9; have e9 : (1 : Int32) = w9 := he_r_52; clear_value w9; subst e9
                  refine (if_neg (show ¬ (1 : Int32) = 0 by decide)).trans ?_
                  exact rfl
                exact hret _ _ _ _ _ _ () [0] hP hD hS rfl (by decide) dX12_houseWord_184 ⟨(congrArg (fun z9 => z9) hX_121).symm, hpost⟩
            · skip
              refine lv_if_eq (tgt := 160) hx hb dX12_houseWord_155 (by decide) (fun h9 => absurd h9 (by decide +kernel)) (fun _ => ?_)
              refine lv_iconst (v := 5) hx hb dX12_houseWord_158 (by decide) ?_
              have hpost : ((-1) ≤ (5 : Int32).toInt ∧ (5 : Int32).toInt ≤ 14) ∧ ((5 : Int32).toInt < 0 ∨ m_token.toInt = 1) := ⟨(by decide +kernel), (by omega)⟩
              have hX_122 : F_r_houseWord m_token m_word = ((5 : Int32) : Int32) := by
                refine (F_r_houseWord_s ..).trans ?_
                extract_lets -merge -useContext +onlyGivenNames w9 y9; have e9 : r_1 = w9 := he_r_1; clear_value w9; subst e9
                try (extract_lets -merge -useContext +onlyGivenNames y9; have e9 : x_4 = y9 := (by first | exact he_x_4 | exact he_x_4.symm); clear_value y9; subst e9)
                try (extract_lets -merge -useContext +onlyGivenNames y9; have e9 : x_5 = y9 := (by first | exact he_x_5 | exact he_x_5.symm); clear_value y9; subst e9)
                try (extract_lets -merge -useContext +onlyGivenNames y9; have e9 : x_6 = y9 := (by first | exact he_x_6 | exact he_x_6.symm); clear_value y9; subst e9)
                extract_lets -merge -useContext +onlyGivenNames w9 y9; have e9 : (0 : Int32) = w9 := he_r_7; clear_value w9; subst e9
                refine (if_pos rfl).trans ?_
                extract_lets -merge -useContext +onlyGivenNames w9 y9; have e9 : r_11 = w9 := he_r_11; clear_value w9; subst e9
                extract_lets -merge -useContext +onlyGivenNames w9 y9; have e9 : (0 : Int32) = w9 := he_r_14; clear_value w9; subst e9
                refine (if_pos rfl).trans ?_
                extract_lets -merge -useContext +onlyGivenNames w9 y9; have e9 : r_18 = w9 := he_r_18; clear_value w9; subst e9
                extract_lets -merge -useContext +onlyGivenNames w9 y9; have e9 : (0 : Int32) = w9 := he_r_21; clear_value w9; subst e9
                refine (if_pos rfl).trans ?_
                extract_lets -merge -useContext +onlyGivenNames w9 y9; have e9 : r_25 = w9 := he_r_25; clear_value w9; subst e9
                extract_lets -merge -useContext +onlyGivenNames w9 y9; have e9 : (0 : Int32) = w9 := he_r_28; clear_value w9; subst e9
                refine (if_pos rfl).trans ?_
                extract_lets -merge -useContext +onlyGivenNames w9 y9; have e9 : r_32 = w9 := he_r_32; clear_value w9; subst e9
                extract_lets -merge -useContext +onlyGivenNames w9 y9; have e9 : (0 : Int32) = w9 := he_r_35; clear_value w9; subst e9
                refine (if_pos rfl).trans ?_
                extract_lets -merge -useContext +onlyGivenNames w9 y9; have e9 : r_39 = w9 := he_r_39; clear_value w9; subst e9
                try (extract_lets -merge -useContext +onlyGivenNames y9; have e9 : x_42 = y9 := (by first | exact he_x_42 | exact he_x_42.symm); clear_value y9; subst e9)
                try (extract_lets -merge -useContext +onlyGivenNames y9; have e9 : x_43 = y9 := (by first | exact he_x_43 | exact he_x_43.symm); clear_value y9; subst e9)
                try (extract_lets -merge -useContext +onlyGivenNames y9; have e9 : x_44 = y9 := (by first | exact he_x_44 | exact he_x_44.symm); clear_value y9; subst e9)
                extract_lets -merge -useContext +onlyGivenNames w9 y9; have e9 : (1 : Int32) = w9 := he_r_45; clear_value w9; subst e9
                refine (if_neg (show ¬ (1 : Int32) = 0 by decide)).trans ?_
                exact rfl
              exact hret _ _ _ _ _ _ () [0] hP hD hS rfl (by decide) dX12_houseWord_159 ⟨(congrArg (fun z9 => z9) hX_122).symm, hpost⟩
          · skip
            refine lv_if_eq (tgt := 124) hx hb dX12_houseWord_119 (by decide) (fun h9 => absurd h9 (by decide +kernel)) (fun _ => ?_)
            refine lv_iconst (v := 4) hx hb dX12_houseWord_122 (by decide) ?_
            have hpost : ((-1) ≤ (4 : Int32).toInt ∧ (4 : Int32).toInt ≤ 14) ∧ ((4 : Int32).toInt < 0 ∨ m_token.toInt = 1) := ⟨(by decide +kernel), (by omega)⟩
            have hX_123 : F_r_houseWord m_token m_word = ((4 : Int32) : Int32) := by
              refine (F_r_houseWord_s ..).trans ?_
              extract_lets -merge -useContext +onlyGivenNames w9 y9; have e9 : r_1 = w9 := he_r_1; clear_value w9; subst e9
              try (extract_lets -merge -useContext +onlyGivenNames y9; have e9 : x_4 = y9 := (by first | exact he_x_4 | exact he_x_4.symm); clear_value y9; subst e9)
              try (extract_lets -merge -useContext +onlyGivenNames y9; have e9 : x_5 = y9 := (by first | exact he_x_5 | exact he_x_5.symm); clear_value y9; subst e9)
              try (extract_lets -merge -useContext +onlyGivenNames y9; have e9 : x_6 = y9 := (by first | exact he_x_6 | exact he_x_6.symm); clear_value y9; subst e9)
              extract_lets -merge -useContext +onlyGivenNames w9 y9; have e9 : (0 : Int32) = w9 := he_r_7; clear_value w9; subst e9
              refine (if_pos rfl).trans ?_
              extract_lets -merge -useContext +onlyGivenNames w9 y9; have e9 : r_11 = w9 := he_r_11; clear_value w9; subst e9
              extract_lets -merge -useContext +onlyGivenNames w9 y9; have e9 : (0 : Int32) = w9 := he_r_14; clear_value w9; subst e9
              refine (if_pos rfl).trans ?_
              extract_lets -merge -useContext +onlyGivenNames w9 y9; have e9 : r_18 = w9 := he_r_18; clear_value w9; subst e9
              extract_lets -merge -useContext +onlyGivenNames w9 y9; have e9 : (0 : Int32) = w9 := he_r_21; clear_value w9; subst e9
              refine (if_pos rfl).trans ?_
              extract_lets -merge -useContext +onlyGivenNames w9 y9; have e9 : r_25 = w9 := he_r_25; clear_value w9; subst e9
              extract_lets -merge -useContext +onlyGivenNames w9 y9; have e9 : (0 : Int32) = w9 := he_r_28; clear_value w9; subst e9
              refine (if_pos rfl).trans ?_
              extract_lets -merge -useContext +onlyGivenNames w9 y9; have e9 : r_32 = w9 := he_r_32; clear_value w9; subst e9
              extract_lets -merge -useContext +onlyGivenNames w9 y9; have e9 : (1 : Int32) = w9 := he_r_35; clear_value w9; subst e9
              refine (if_neg (show ¬ (1 : Int32) = 0 by decide)).trans ?_
              exact rfl
            exact hret _ _ _ _ _ _ () [0] hP hD hS rfl (by decide) dX12_houseWord_123 ⟨(congrArg (fun z9 => z9) hX_123).symm, hpost⟩
        · skip
          refine lv_if_eq (tgt := 102) hx hb dX12_houseWord_97 (by decide) (fun h9 => absurd h9 (by decide +kernel)) (fun _ => ?_)
          refine lv_iconst (v := 3) hx hb dX12_houseWord_100 (by decide) ?_
          have hpost : ((-1) ≤ (3 : Int32).toInt ∧ (3 : Int32).toInt ≤ 14) ∧ ((3 : Int32).toInt < 0 ∨ m_token.toInt = 1) := ⟨(by decide +kernel), (by omega)⟩
          have hX_124 : F_r_houseWord m_token m_word = ((3 : Int32) : Int32) := by
            refine (F_r_houseWord_s ..).trans ?_
            extract_lets -merge -useContext +onlyGivenNames w9 y9; have e9 : r_1 = w9 := he_r_1; clear_value w9; subst e9
            try (extract_lets -merge -useContext +onlyGivenNames y9; have e9 : x_4 = y9 := (by first | exact he_x_4 | exact he_x_4.symm); clear_value y9; subst e9)
            try (extract_lets -merge -useContext +onlyGivenNames y9; have e9 : x_5 = y9 := (by first | exact he_x_5 | exact he_x_5.symm); clear_value y9; subst e9)
            try (extract_lets -merge -useContext +onlyGivenNames y9; have e9 : x_6 = y9 := (by first | exact he_x_6 | exact he_x_6.symm); clear_value y9; subst e9)
            extract_lets -merge -useContext +onlyGivenNames w9 y9; have e9 : (0 : Int32) = w9 := he_r_7; clear_value w9; subst e9
            refine (if_pos rfl).trans ?_
            extract_lets -merge -useContext +onlyGivenNames w9 y9; have e9 : r_11 = w9 := he_r_11; clear_value w9; subst e9
            extract_lets -merge -useContext +onlyGivenNames w9 y9; have e9 : (0 : Int32) = w9 := he_r_14; clear_value w9; subst e9
            refine (if_pos rfl).trans ?_
            extract_lets -merge -useContext +onlyGivenNames w9 y9; have e9 : r_18 = w9 := he_r_18; clear_value w9; subst e9
            extract_lets -merge -useContext +onlyGivenNames w9 y9; have e9 : (0 : Int32) = w9 := he_r_21; clear_value w9; subst e9
            refine (if_pos rfl).trans ?_
            extract_lets -merge -useContext +onlyGivenNames w9 y9; have e9 : r_25 = w9 := he_r_25; clear_value w9; subst e9
            extract_lets -merge -useContext +onlyGivenNames w9 y9; have e9 : (1 : Int32) = w9 := he_r_28; clear_value w9; subst e9
            refine (if_neg (show ¬ (1 : Int32) = 0 by decide)).trans ?_
            exact rfl
          exact hret _ _ _ _ _ _ () [0] hP hD hS rfl (by decide) dX12_houseWord_101 ⟨(congrArg (fun z9 => z9) hX_124).symm, hpost⟩
      · skip
        refine lv_if_eq (tgt := 80) hx hb dX12_houseWord_75 (by decide) (fun h9 => absurd h9 (by decide +kernel)) (fun _ => ?_)
        refine lv_iconst (v := 2) hx hb dX12_houseWord_78 (by decide) ?_
        have hpost : ((-1) ≤ (2 : Int32).toInt ∧ (2 : Int32).toInt ≤ 14) ∧ ((2 : Int32).toInt < 0 ∨ m_token.toInt = 1) := ⟨(by decide +kernel), (by omega)⟩
        have hX_125 : F_r_houseWord m_token m_word = ((2 : Int32) : Int32) := by
          refine (F_r_houseWord_s ..).trans ?_
          extract_lets -merge -useContext +onlyGivenNames w9 y9; have e9 : r_1 = w9 := he_r_1; clear_value w9; subst e9
          try (extract_lets -merge -useContext +onlyGivenNames y9; have e9 : x_4 = y9 := (by first | exact he_x_4 | exact he_x_4.symm); clear_value y9; subst e9)
          try (extract_lets -merge -useContext +onlyGivenNames y9; have e9 : x_5 = y9 := (by first | exact he_x_5 | exact he_x_5.symm); clear_value y9; subst e9)
          try (extract_lets -merge -useContext +onlyGivenNames y9; have e9 : x_6 = y9 := (by first | exact he_x_6 | exact he_x_6.symm); clear_value y9; subst e9)
          extract_lets -merge -useContext +onlyGivenNames w9 y9; have e9 : (0 : Int32) = w9 := he_r_7; clear_value w9; subst e9
          refine (if_pos rfl).trans ?_
          extract_lets -merge -useContext +onlyGivenNames w9 y9; have e9 : r_11 = w9 := he_r_11; clear_value w9; subst e9
          extract_lets -merge -useContext +onlyGivenNames w9 y9; have e9 : (0 : Int32) = w9 := he_r_14; clear_value w9; subst e9
          refine (if_pos rfl).trans ?_
          extract_lets -merge -useContext +onlyGivenNames w9 y9; have e9 : r_18 = w9 := he_r_18; clear_value w9; subst e9
          extract_lets -merge -useContext +onlyGivenNames w9 y9; have e9 : (1 : Int32) = w9 := he_r_21; clear_value w9; subst e9
          refine (if_neg (show ¬ (1 : Int32) = 0 by decide)).trans ?_
          exact rfl
        exact hret _ _ _ _ _ _ () [0] hP hD hS rfl (by decide) dX12_houseWord_79 ⟨(congrArg (fun z9 => z9) hX_125).symm, hpost⟩
    · skip
      refine lv_if_eq (tgt := 59) hx hb dX12_houseWord_54 (by decide) (fun h9 => absurd h9 (by decide +kernel)) (fun _ => ?_)
      refine lv_iconst (v := 1) hx hb dX12_houseWord_57 (by decide) ?_
      have hpost : ((-1) ≤ (1 : Int32).toInt ∧ (1 : Int32).toInt ≤ 14) ∧ ((1 : Int32).toInt < 0 ∨ m_token.toInt = 1) := ⟨(by decide +kernel), (by omega)⟩
      have hX_126 : F_r_houseWord m_token m_word = ((1 : Int32) : Int32) := by
        refine (F_r_houseWord_s ..).trans ?_
        extract_lets -merge -useContext +onlyGivenNames w9 y9; have e9 : r_1 = w9 := he_r_1; clear_value w9; subst e9
        try (extract_lets -merge -useContext +onlyGivenNames y9; have e9 : x_4 = y9 := (by first | exact he_x_4 | exact he_x_4.symm); clear_value y9; subst e9)
        try (extract_lets -merge -useContext +onlyGivenNames y9; have e9 : x_5 = y9 := (by first | exact he_x_5 | exact he_x_5.symm); clear_value y9; subst e9)
        try (extract_lets -merge -useContext +onlyGivenNames y9; have e9 : x_6 = y9 := (by first | exact he_x_6 | exact he_x_6.symm); clear_value y9; subst e9)
        extract_lets -merge -useContext +onlyGivenNames w9 y9; have e9 : (0 : Int32) = w9 := he_r_7; clear_value w9; subst e9
        refine (if_pos rfl).trans ?_
        extract_lets -merge -useContext +onlyGivenNames w9 y9; have e9 : r_11 = w9 := he_r_11; clear_value w9; subst e9
        extract_lets -merge -useContext +onlyGivenNames w9 y9; have e9 : (1 : Int32) = w9 := he_r_14; clear_value w9; subst e9
        refine (if_neg (show ¬ (1 : Int32) = 0 by decide)).trans ?_
        exact rfl
      exact hret _ _ _ _ _ _ () [0] hP hD hS rfl (by decide) dX12_houseWord_58 ⟨(congrArg (fun z9 => z9) hX_126).symm, hpost⟩
  · skip
    refine lv_if_eq (tgt := 36) hx hb dX12_houseWord_31 (by decide) (fun h9 => absurd h9 (by decide +kernel)) (fun _ => ?_)
    refine lv_iconst (v := 0) hx hb dX12_houseWord_34 (by decide) ?_
    have hpost : ((-1) ≤ (0 : Int32).toInt ∧ (0 : Int32).toInt ≤ 14) ∧ ((0 : Int32).toInt < 0 ∨ m_token.toInt = 1) := ⟨(by decide +kernel), (by omega)⟩
    have hX_127 : F_r_houseWord m_token m_word = ((0 : Int32) : Int32) := by
      refine (F_r_houseWord_s ..).trans ?_
      extract_lets -merge -useContext +onlyGivenNames w9 y9; have e9 : r_1 = w9 := he_r_1; clear_value w9; subst e9
      try (extract_lets -merge -useContext +onlyGivenNames y9; have e9 : x_4 = y9 := (by first | exact he_x_4 | exact he_x_4.symm); clear_value y9; subst e9)
      try (extract_lets -merge -useContext +onlyGivenNames y9; have e9 : x_5 = y9 := (by first | exact he_x_5 | exact he_x_5.symm); clear_value y9; subst e9)
      try (extract_lets -merge -useContext +onlyGivenNames y9; have e9 : x_6 = y9 := (by first | exact he_x_6 | exact he_x_6.symm); clear_value y9; subst e9)
      extract_lets -merge -useContext +onlyGivenNames w9 y9; have e9 : (1 : Int32) = w9 := he_r_7; clear_value w9; subst e9
      refine (if_neg (show ¬ (1 : Int32) = 0 by decide)).trans ?_
      exact rfl
    exact hret _ _ _ _ _ _ () [0] hP hD hS rfl (by decide) dX12_houseWord_35 ⟨(congrArg (fun z9 => z9) hX_127).symm, hpost⟩
set_option maxHeartbeats 40000000 in
set_option maxRecDepth 100000 in
theorem r_isHouseName (l : Launch) (G : va_G) (cA : zCA) (h0 : Nat) (m_status : Int32) (m_thrown : Int32) (m_above : Int64) (m_under : Int64) (a_traySort : Nat) (a_trayMany : Nat) (a_numbers : Nat) (a_tape : Nat) (m_taped : Int32) (m_textEnd : Int32) (m_faultKind : Int32) (m_faultAt : Int32) (m_bad : Int32) (m_badAt : Int32) (m_token : Int32) (m_at : Int32) (m_behind : Int32) (m_number : Int32) (m_letters : Int32) (m_word : Int64) (a_c : Nat) (a_words : Nat) (m_markMany : Int32) (a_there : Nat) (a_tried : Nat) (a_best : Nat) (a_found : Nat) (m_thereMany : Int32) (m_foundMany : Int32) (m_orderHow : Int32) (m_orderRing : Int32) (m_orderMany : Int32) (m_hasBest : Int32) (m_bestTop : Int64) (m_bestBy : Int64) (a_weights : Nat) (a_shared : Nat) (m_random : Int32) (m_truePlace : Int32) (m_trueWay : Int32) (m_seconds : Int32) (m_done : Int32) (m_feelings : Int32) (m_tries : Int32) (m_leftOver : Int32) (m_playDoor : Int32) (m_playRing : Int32) (m_isOpen : Int32) (m_isOver : Int32) (m_wasTried : Int32) (m_hasPlayed : Int32) (a_feltNow : Nat) (a_last : Nat) (a_kept : Nat) (m_hasSeconds : Int32) (m_hasTurned : Int32) (m_hasRound : Int32) (a_hasFeels : Nat) (a_isOn : Nat) (m_firstAct : Int32) (m_meanTop : Int64) (m_meanBy : Int64) (a_order : Nat) (m_rowMany : Int32) (m_newSteps : Int32) (hr_m_token : 0 ≤ m_token.toInt ∧ m_token.toInt ≤ 4) (hr_m_letters : 0 ≤ m_letters.toInt ∧ m_letters.toInt ≤ 900) : zCi l yX12_isHouseName cX12_isHouseName 1 (some .boolean) ({ frames := 2, cells := 0, slots := 0, locals := 47 }) G cA [.ref h0] [(h0, .inr (12, [.int m_status, .int m_thrown, .long m_above, .long m_under, .ref a_traySort, .ref a_trayMany, .ref a_numbers, .ref a_tape, .int m_taped, .int m_textEnd, .int m_faultKind, .int m_faultAt, .int m_bad, .int m_badAt, .int m_token, .int m_at, .int m_behind, .int m_number, .int m_letters, .long m_word, .ref a_c, .ref a_words, .int m_markMany, .ref a_there, .ref a_tried, .ref a_best, .ref a_found, .int m_thereMany, .int m_foundMany, .int m_orderHow, .int m_orderRing, .int m_orderMany, .int m_hasBest, .long m_bestTop, .long m_bestBy, .ref a_weights, .ref a_shared, .int m_random, .int m_truePlace, .int m_trueWay, .int m_seconds, .int m_done, .int m_feelings, .int m_tries, .int m_leftOver, .int m_playDoor, .int m_playRing, .int m_isOpen, .int m_isOver, .int m_wasTried, .int m_hasPlayed, .ref a_feltNow, .ref a_last, .ref a_kept, .int m_hasSeconds, .int m_hasTurned, .int m_hasRound, .ref a_hasFeels, .ref a_isOn, .int m_firstAct, .long m_meanTop, .long m_meanBy, .ref a_order, .int m_rowMany, .int m_newSteps]))] (S := Unit) (fun (r : Int32) (u : Unit) => (r = (F_r_isHouseName m_token m_letters m_word)) ∧ ((r = 0 ∧ True) ∨ (r = 1 ∧ True))) (fun (u : Unit) => [(h0, .inr (12, [.int m_status, .int m_thrown, .long m_above, .long m_under, .ref a_traySort, .ref a_trayMany, .ref a_numbers, .ref a_tape, .int m_taped, .int m_textEnd, .int m_faultKind, .int m_faultAt, .int m_bad, .int m_badAt, .int m_token, .int m_at, .int m_behind, .int m_number, .int m_letters, .long m_word, .ref a_c, .ref a_words, .int m_markMany, .ref a_there, .ref a_tried, .ref a_best, .ref a_found, .int m_thereMany, .int m_foundMany, .int m_orderHow, .int m_orderRing, .int m_orderMany, .int m_hasBest, .long m_bestTop, .long m_bestBy, .ref a_weights, .ref a_shared, .int m_random, .int m_truePlace, .int m_trueWay, .int m_seconds, .int m_done, .int m_feelings, .int m_tries, .int m_leftOver, .int m_playDoor, .int m_playRing, .int m_isOpen, .int m_isOver, .int m_wasTried, .int m_hasPlayed, .ref a_feltNow, .ref a_last, .ref a_kept, .int m_hasSeconds, .int m_hasTurned, .int m_hasRound, .ref a_hasFeels, .ref a_isOn, .int m_firstAct, .long m_meanTop, .long m_meanBy, .ref a_order, .int m_rowMany, .int m_newSteps]))]) 0 0 := by
  have hk_0 : (0 : Int32).toInt = 0 := by decide +kernel
  have hk_1 : (1 : Int32).toInt = 1 := by decide +kernel
  have hk_8 : (8 : Int32).toInt = 8 := by decide +kernel
  refine z_start2z (own := RX12) (by decide) (Nat.le_of_ble_eq_true rfl) rfl ?_
  intro p e s m args below meth c A ls Q hx hb hml hts hown hK hE hT hP hD hS hA hl hret
  have hl : lv_has ls 1 [(0, .ref h0)] := hl
  refine lv_aload_n hx hb dX12_isHouseName_0 rfl (lv_at hl 0 rfl) ?_
  refine va_get (D := G) (ci := 12) (v := .int m_token) (C := RX12) (T := TX12) (N := 65) hx hb hts inT12 hown hK hP 0 rfl rfl 14 (by decide) (hts _ tw_1899) (fun _ h9 => h9) rfl dX12_isHouseName_1 ?_
  refine lv_iconst (v := 1) hx hb dX12_isHouseName_4 (by decide) ?_
  refine lv_icmp_ne (tgt := 28) hx hb dX12_isHouseName_5 (by decide) (fun c_1 => ?_) (fun c_1 => ?_)
  · have b_2 := z_fneT c_1
    refine lv_iconst (v := 0) hx hb dX12_isHouseName_28 (by decide) ?_
    have hpost : ((0 : Int32) = 0 ∧ True) ∨ ((0 : Int32) = 1 ∧ True) := (Or.inl ⟨rfl, trivial⟩)
    have hX_3 : F_r_isHouseName m_token m_letters m_word = ((0 : Int32) : Int32) := by
      refine (F_r_isHouseName_s ..).trans ?_
      refine (if_neg c_1).trans ?_
      exact rfl
    exact hret _ _ _ _ _ _ () [0] hP hD hS rfl (by decide) dX12_isHouseName_29 (Or.inl rfl) ⟨(congrArg (fun z9 => z9) hX_3).symm, hpost⟩
  · have b_4 := z_feqF c_1
    refine lv_aload_n hx hb dX12_isHouseName_8 rfl (lv_at hl 0 rfl) ?_
    refine va_get (D := G) (ci := 12) (v := .int m_letters) (C := RX12) (T := TX12) (N := 65) hx hb hts inT12 hown hK hP 0 rfl rfl 18 (by decide) (hts _ tw_1903) (fun _ h9 => h9) rfl dX12_isHouseName_9 ?_
    refine lv_bipush (v := 8) hx hb dX12_isHouseName_12 (by decide) ?_
    refine lv_icmp_gt (tgt := 28) hx hb dX12_isHouseName_14 (by decide) (fun c_5 => ?_) (fun c_5 => ?_)
    · have b_6 := z_fgtT c_5
      refine lv_iconst (v := 0) hx hb dX12_isHouseName_28 (by decide) ?_
      have hpost : ((0 : Int32) = 0 ∧ True) ∨ ((0 : Int32) = 1 ∧ True) := (Or.inl ⟨rfl, trivial⟩)
      have hX_7 : F_r_isHouseName m_token m_letters m_word = ((0 : Int32) : Int32) := by
        refine (F_r_isHouseName_s ..).trans ?_
        refine (if_pos c_1).trans ?_
        refine (if_pos c_5).trans ?_
        exact rfl
      exact hret _ _ _ _ _ _ () [0] hP hD hS rfl (by decide) dX12_isHouseName_29 (Or.inl rfl) ⟨(congrArg (fun z9 => z9) hX_7).symm, hpost⟩
    · have b_8 := z_fleF c_5
      refine lv_aload_n hx hb dX12_isHouseName_17 rfl (lv_at hl 0 rfl) ?_
      refine z_callVi (As := []) (rest := []) (wr := []) ⟨hx, hb, hml, hown, hts⟩ hK hE hT hP hD hS hA (r_houseWord l G cA h0 m_status m_thrown m_above m_under a_traySort a_trayMany a_numbers a_tape m_taped m_textEnd m_faultKind m_faultAt m_bad m_badAt m_token m_at m_behind m_number m_letters m_word a_c a_words m_markMany a_there a_tried a_best a_found m_thereMany m_foundMany m_orderHow m_orderRing m_orderMany m_hasBest m_bestTop m_bestBy a_weights a_shared m_random m_truePlace m_trueWay m_seconds m_done m_feelings m_tries m_leftOver m_playDoor m_playRing m_isOpen m_isOver m_wasTried m_hasPlayed a_feltNow a_last a_kept m_hasSeconds m_hasTurned m_hasRound a_hasFeels a_isOn m_firstAct m_meanTop m_meanBy a_order m_rowMany m_newSteps hr_m_token) lk_RX12_170 ⟨rfl, rfl⟩ ⟨Nat.le_of_ble_eq_true rfl, Nat.le_of_ble_eq_true rfl⟩ 12 rfl rfl rfl [0] [] rfl rfl (by decide) rfl hl.1 rfl (lv_room (Nat.le_of_ble_eq_true rfl)) dX12_isHouseName_18 ⟨Nat.le_of_ble_eq_true rfl, Nat.le_of_ble_eq_true rfl⟩ (fun r_9 u_10 H locs hw hP hD hS => ?_)
      obtain ⟨he_r_9, hw⟩ := hw
      obtain ⟨hr_r_9, hf_12⟩ := hw
      refine lv_if_ge (tgt := 28) hx hb dX12_isHouseName_21 (by decide) (fun c_13 => ?_) (fun c_13 => ?_)
      · have b_14 := z_fgeT c_13
        refine lv_iconst (v := 0) hx hb dX12_isHouseName_28 (by decide) ?_
        have hpost : ((0 : Int32) = 0 ∧ True) ∨ ((0 : Int32) = 1 ∧ True) := (Or.inl ⟨rfl, trivial⟩)
        have hX_15 : F_r_isHouseName m_token m_letters m_word = ((0 : Int32) : Int32) := by
          refine (F_r_isHouseName_s ..).trans ?_
          refine (if_pos c_1).trans ?_
          refine (if_neg c_5).trans ?_
          extract_lets -merge -useContext +onlyGivenNames w9 y9; have e9 : r_9 = w9 := he_r_9; clear_value w9; subst e9
          refine (if_pos c_13).trans ?_
          exact rfl
        exact hret _ _ _ _ _ _ () [0] hP hD hS rfl (by decide) dX12_isHouseName_29 (Or.inl rfl) ⟨(congrArg (fun z9 => z9) hX_15).symm, hpost⟩
      · have b_16 := z_fltF c_13
        refine lv_iconst (v := 1) hx hb dX12_isHouseName_24 (by decide) ?_
        refine lv_goto (tgt := 29) hx hb dX12_isHouseName_25 (by decide) ?_
        have hpost : ((1 : Int32) = 0 ∧ True) ∨ ((1 : Int32) = 1 ∧ True) := (Or.inr ⟨rfl, trivial⟩)
        have hX_17 : F_r_isHouseName m_token m_letters m_word = ((1 : Int32) : Int32) := by
          refine (F_r_isHouseName_s ..).trans ?_
          refine (if_pos c_1).trans ?_
          refine (if_neg c_5).trans ?_
          extract_lets -merge -useContext +onlyGivenNames w9 y9; have e9 : r_9 = w9 := he_r_9; clear_value w9; subst e9
          refine (if_neg c_13).trans ?_
          exact rfl
        exact hret _ _ _ _ _ _ () [0] hP hD hS rfl (by decide) dX12_isHouseName_29 (Or.inr rfl) ⟨(congrArg (fun z9 => z9) hX_17).symm, hpost⟩
set_option maxHeartbeats 40000000 in
set_option maxRecDepth 100000 in
theorem r_named_0_0 (l : Launch) (G : va_G) (cA : zCA) (h0 : Nat) (m_status : Int32) (m_thrown : Int32) (m_above : Int64) (m_under : Int64) (a_traySort : Nat) (a_trayMany : Nat) (a_numbers : Nat) (a_tape : Nat) (m_taped : Int32) (m_textEnd : Int32) (m_faultKind : Int32) (m_faultAt : Int32) (m_bad : Int32) (m_badAt : Int32) (m_token : Int32) (m_at : Int32) (m_behind : Int32) (m_number : Int32) (m_letters : Int32) (m_word : Int64) (a_c : Nat) (a_words : Nat) (m_markMany : Int32) (a_there : Nat) (a_tried : Nat) (a_best : Nat) (a_found : Nat) (m_thereMany : Int32) (m_foundMany : Int32) (m_orderHow : Int32) (m_orderRing : Int32) (m_orderMany : Int32) (m_hasBest : Int32) (m_bestTop : Int64) (m_bestBy : Int64) (a_weights : Nat) (a_shared : Nat) (m_random : Int32) (m_truePlace : Int32) (m_trueWay : Int32) (m_seconds : Int32) (m_done : Int32) (m_feelings : Int32) (m_tries : Int32) (m_leftOver : Int32) (m_playDoor : Int32) (m_playRing : Int32) (m_isOpen : Int32) (m_isOver : Int32) (m_wasTried : Int32) (m_hasPlayed : Int32) (a_feltNow : Nat) (a_last : Nat) (a_kept : Nat) (m_hasSeconds : Int32) (m_hasTurned : Int32) (m_hasRound : Int32) (a_hasFeels : Nat) (a_isOn : Nat) (m_firstAct : Int32) (m_meanTop : Int64) (m_meanBy : Int64) (a_order : Nat) (m_rowMany : Int32) (m_newSteps : Int32) (g_words : Nat → Int64) (nn : Int32) (hr_nn : 0 ≤ nn.toInt ∧ nn.toInt ≤ 3) : zCi l yX12_named cX12_named 5 (some .int) ({ frames := 0, cells := 0, slots := 0, locals := 0 }) G cA [.ref h0, .int 0, .int 0, .int nn] [(h0, .inr (12, [.int m_status, .int m_thrown, .long m_above, .long m_under, .ref a_traySort, .ref a_trayMany, .ref a_numbers, .ref a_tape, .int m_taped, .int m_textEnd, .int m_faultKind, .int m_faultAt, .int m_bad, .int m_badAt, .int m_token, .int m_at, .int m_behind, .int m_number, .int m_letters, .long m_word, .ref a_c, .ref a_words, .int m_markMany, .ref a_there, .ref a_tried, .ref a_best, .ref a_found, .int m_thereMany, .int m_foundMany, .int m_orderHow, .int m_orderRing, .int m_orderMany, .int m_hasBest, .long m_bestTop, .long m_bestBy, .ref a_weights, .ref a_shared, .int m_random, .int m_truePlace, .int m_trueWay, .int m_seconds, .int m_done, .int m_feelings, .int m_tries, .int m_leftOver, .int m_playDoor, .int m_playRing, .int m_isOpen, .int m_isOver, .int m_wasTried, .int m_hasPlayed, .ref a_feltNow, .ref a_last, .ref a_kept, .int m_hasSeconds, .int m_hasTurned, .int m_hasRound, .ref a_hasFeels, .ref a_isOn, .int m_firstAct, .long m_meanTop, .long m_meanBy, .ref a_order, .int m_rowMany, .int m_newSteps])), (a_words, .inl (cA.1 1, 105, .inr (.inl g_words)))] (S := Unit) (fun (r : Int32) (u : Unit) => (r = (F_r_named_0_0 m_word g_words nn)) ∧ (((-1) ≤ r.toInt ∧ r.toInt ≤ 2) ∧ (r.toInt < nn.toInt))) (fun (u : Unit) => [(h0, .inr (12, [.int m_status, .int m_thrown, .long m_above, .long m_under, .ref a_traySort, .ref a_trayMany, .ref a_numbers, .ref a_tape, .int m_taped, .int m_textEnd, .int m_faultKind, .int m_faultAt, .int m_bad, .int m_badAt, .int m_token, .int m_at, .int m_behind, .int m_number, .int m_letters, .long m_word, .ref a_c, .ref a_words, .int m_markMany, .ref a_there, .ref a_tried, .ref a_best, .ref a_found, .int m_thereMany, .int m_foundMany, .int m_orderHow, .int m_orderRing, .int m_orderMany, .int m_hasBest, .long m_bestTop, .long m_bestBy, .ref a_weights, .ref a_shared, .int m_random, .int m_truePlace, .int m_trueWay, .int m_seconds, .int m_done, .int m_feelings, .int m_tries, .int m_leftOver, .int m_playDoor, .int m_playRing, .int m_isOpen, .int m_isOver, .int m_wasTried, .int m_hasPlayed, .ref a_feltNow, .ref a_last, .ref a_kept, .int m_hasSeconds, .int m_hasTurned, .int m_hasRound, .ref a_hasFeels, .ref a_isOn, .int m_firstAct, .long m_meanTop, .long m_meanBy, .ref a_order, .int m_rowMany, .int m_newSteps])), (a_words, .inl (cA.1 1, 105, .inr (.inl g_words)))]) 0 0 := by
  have hk_m1 : ((-1) : Int32).toInt = (-1) := by decide +kernel
  have hk_0 : (0 : Int32).toInt = 0 := by decide +kernel
  have hk_1 : (1 : Int32).toInt = 1 := by decide +kernel
  refine z_start2i (own := RX12) (by decide) (Nat.le_of_ble_eq_true rfl) rfl ?_
  intro p e s m args below meth c A ls Q hx hb hml hts hown hK hE hT hP hD hS hA hl hret
  have hl : lv_has ls 5 [(0, .ref h0), (1, .int 0), (2, .int 0), (3, .int nn)] := hl
  refine lv_iconst (v := 0) hx hb dX12_named_0 (by decide) ?_
  refine lv_istore (lv' := [(4, .int 0), (0, .ref h0), (1, .int 0), (2, .int 0), (3, .int nn)]) hx hb dX12_named_1 hl (by decide) rfl (fun ls hl => ?_)
  have hlp_57 : ∀ (n_L3a : Nat) (v_38 : Int32) (H : Heap) (locs : List Loc) (ls : Array Slot), (2147483647 - v_38.toInt).toNat < n_L3a → (0 ≤ v_38.toInt ∧ v_38.toInt ≤ 3) → (F_r_named_0_0 m_word g_words nn = F_r_named_0_0_L3a m_word g_words nn n_L3a v_38) → va_P G vwCl [(h0, .inr (12, [.int m_status, .int m_thrown, .long m_above, .long m_under, .ref a_traySort, .ref a_trayMany, .ref a_numbers, .ref a_tape, .int m_taped, .int m_textEnd, .int m_faultKind, .int m_faultAt, .int m_bad, .int m_badAt, .int m_token, .int m_at, .int m_behind, .int m_number, .int m_letters, .long m_word, .ref a_c, .ref a_words, .int m_markMany, .ref a_there, .ref a_tried, .ref a_best, .ref a_found, .int m_thereMany, .int m_foundMany, .int m_orderHow, .int m_orderRing, .int m_orderMany, .int m_hasBest, .long m_bestTop, .long m_bestBy, .ref a_weights, .ref a_shared, .int m_random, .int m_truePlace, .int m_trueWay, .int m_seconds, .int m_done, .int m_feelings, .int m_tries, .int m_leftOver, .int m_playDoor, .int m_playRing, .int m_isOpen, .int m_isOver, .int m_wasTried, .int m_hasPlayed, .ref a_feltNow, .ref a_last, .ref a_kept, .int m_hasSeconds, .int m_hasTurned, .int m_hasRound, .ref a_hasFeels, .ref a_isOn, .int m_firstAct, .long m_meanTop, .long m_meanBy, .ref a_order, .int m_rowMany, .int m_newSteps])), (a_words, .inl (cA.1 1, 105, .inr (.inl g_words)))] H → va_D A [(h0, .inr (12, [.int m_status, .int m_thrown, .long m_above, .long m_under, .ref a_traySort, .ref a_trayMany, .ref a_numbers, .ref a_tape, .int m_taped, .int m_textEnd, .int m_faultKind, .int m_faultAt, .int m_bad, .int m_badAt, .int m_token, .int m_at, .int m_behind, .int m_number, .int m_letters, .long m_word, .ref a_c, .ref a_words, .int m_markMany, .ref a_there, .ref a_tried, .ref a_best, .ref a_found, .int m_thereMany, .int m_foundMany, .int m_orderHow, .int m_orderRing, .int m_orderMany, .int m_hasBest, .long m_bestTop, .long m_bestBy, .ref a_weights, .ref a_shared, .int m_random, .int m_truePlace, .int m_trueWay, .int m_seconds, .int m_done, .int m_feelings, .int m_tries, .int m_leftOver, .int m_playDoor, .int m_playRing, .int m_isOpen, .int m_isOver, .int m_wasTried, .int m_hasPlayed, .ref a_feltNow, .ref a_last, .ref a_kept, .int m_hasSeconds, .int m_hasTurned, .int m_hasRound, .ref a_hasFeels, .ref a_isOn, .int m_firstAct, .long m_meanTop, .long m_meanBy, .ref a_order, .int m_rowMany, .int m_newSteps])), (a_words, .inl (cA.1 1, 105, .inr (.inl g_words)))] → va_S A s.heap H locs → lv_has ls 5 [(0, .ref h0), (1, .int 0), (2, .int 0), (3, .int nn), (4, .int v_38)] → W p l e ({ frames := 0, cells := 0, slots := 0, locals := 0 }) s m args below meth c H locs 0 0 Q (F0 m 3 ls []) := by
    intro n_L3a
    induction n_L3a with
    | zero =>
      intro v_38 H locs ls hmu_hlp_57 hr_v_38 hF_L3a hP hD hS hl
      exact absurd hmu_hlp_57 (Nat.not_lt_zero _)
    | succ n_L3a ih_58 =>
      intro v_38 H locs ls hmu_hlp_57 hr_v_38 hF_L3a hP hD hS hl
      refine lv_iload hx hb dX12_named_3 (lv_at hl 4 rfl) ?_
      refine lv_iload_n hx hb dX12_named_5 rfl (lv_at hl 3 rfl) ?_
      refine lv_icmp_ge (tgt := 40) hx hb dX12_named_6 (by decide) (fun c_59 => ?_) (fun c_59 => ?_)
      · have b_60 := z_fgeT c_59
        refine lv_iconst (v := (-1)) hx hb dX12_named_40 (by decide) ?_
        have hpost : ((-1) ≤ ((-1) : Int32).toInt ∧ ((-1) : Int32).toInt ≤ 2) ∧ (((-1) : Int32).toInt < nn.toInt) := ⟨(by decide +kernel), (by omega)⟩
        have hX_61 : F_r_named_0_0 m_word g_words nn = ((-1 : Int32) : Int32) := by
          refine hF_L3a.trans ?_
          refine (F_r_named_0_0_L3a_s ..).trans ?_
          refine (if_pos c_59).trans ?_
          exact rfl
        exact hret _ _ _ _ _ _ () [0, 1] hP hD hS rfl (by decide) dX12_named_41 ⟨(congrArg (fun z9 => z9) hX_61).symm, hpost⟩
      · have b_62 := z_fltF c_59
        refine lv_aload_n hx hb dX12_named_9 rfl (lv_at hl 0 rfl) ?_
        refine va_get (D := G) (ci := 12) (v := .ref a_words) (C := RX12) (T := TX12) (N := 65) hx hb hts inT12 hown hK hP 0 rfl rfl 21 (by decide) (hts _ tw_1906) (fun _ h9 => h9) rfl dX12_named_10 ?_
        refine lv_bipush (v := 21) hx hb dX12_named_13 (by decide) ?_
        refine lv_iload_n hx hb dX12_named_15 rfl (lv_at hl 1 rfl) ?_
        refine lv_imul hx hb dX12_named_16 ?_
        refine z_topi (y := 0) (by decide +kernel) ?_
        refine lv_iload_n hx hb dX12_named_17 rfl (lv_at hl 2 rfl) ?_
        refine lv_iadd hx hb dX12_named_18 ?_
        refine z_topi (y := 0) (by decide +kernel) ?_
        refine lv_iload hx hb dX12_named_19 (lv_at hl 4 rfl) ?_
        refine lv_iadd hx hb dX12_named_21 ?_
        refine lv_topi (fun x_63 he_x_63 => ?_)
        have hq_x_63 := z_addq he_x_63 hk_0 (rfl : v_38.toInt = _) (by omega) (by omega)
        refine va_lald hx hb hK hP 1 1 rfl rfl (z_inN (by omega) (by omega)) dX12_named_22 ?_
        refine lv_topl (fun x_64 he_x_64 => ?_)
        refine lv_aload_n hx hb dX12_named_23 rfl (lv_at hl 0 rfl) ?_
        refine va_get (D := G) (ci := 12) (v := .long m_word) (C := RX12) (T := TX12) (N := 65) hx hb hts inT12 hown hK hP 0 rfl rfl 19 (by decide) (hts _ tw_1904) (fun _ h9 => h9) rfl dX12_named_24 ?_
        refine W.lcmp hx hb dX12_named_27 ?_
        refine lv_if_ne (tgt := 34) hx hb dX12_named_28 (by decide) (fun c_65 => ?_) (fun c_65 => ?_)
        · have b_66 := z_fneTl c_65
          obtain ⟨x_67, he_x_67⟩ : ∃ z : Int32, z = v_38 + 1 := ⟨_, rfl⟩
          have hq_x_67 := z_addq he_x_67 (rfl : v_38.toInt = _) hk_1 (by omega) (by omega)
          refine lv_iinc (v := x_67) (lv' := [(4, .int x_67), (0, .ref h0), (1, .int 0), (2, .int 0), (3, .int nn)]) hx hb dX12_named_34 hl (k := 4) rfl ((z_ofi (by decide +kernel)).trans he_x_67.symm) (by decide) rfl (fun ls hl => ?_)
          refine lv_goto (tgt := 3) hx hb dX12_named_37 (by decide) ?_
          have hX_68 : F_r_named_0_0 m_word g_words nn = F_r_named_0_0_L3a m_word g_words nn n_L3a x_67 := by
            refine hF_L3a.trans ?_
            refine (F_r_named_0_0_L3a_s ..).trans ?_
            refine (if_neg c_59).trans ?_
            try (extract_lets -merge -useContext +onlyGivenNames y9; have e9 : x_63 = y9 := (by first | exact he_x_63 | exact he_x_63.symm); clear_value y9; subst e9)
            try (extract_lets -merge -useContext +onlyGivenNames y9; have e9 : x_64 = y9 := (by first | exact he_x_64 | exact he_x_64.symm); clear_value y9; subst e9)
            refine (if_neg c_65).trans ?_
            try (extract_lets -merge -useContext +onlyGivenNames y9; have e9 : x_67 = y9 := (by first | exact he_x_67 | exact he_x_67.symm); clear_value y9; subst e9)
            exact rfl
          exact ih_58 x_67 H locs ls (by omega) (by omega) hX_68 hP hD hS (lv_sub hl [1, 2, 3, 4, 0] rfl)
        · have b_69 := z_feqFl c_65
          refine lv_iload hx hb dX12_named_31 (lv_at hl 4 rfl) ?_
          have hpost : ((-1) ≤ v_38.toInt ∧ v_38.toInt ≤ 2) ∧ (v_38.toInt < nn.toInt) := ⟨(by omega), (by omega)⟩
          have hX_70 : F_r_named_0_0 m_word g_words nn = (v_38 : Int32) := by
            refine hF_L3a.trans ?_
            refine (F_r_named_0_0_L3a_s ..).trans ?_
            refine (if_neg c_59).trans ?_
            try (extract_lets -merge -useContext +onlyGivenNames y9; have e9 : x_63 = y9 := (by first | exact he_x_63 | exact he_x_63.symm); clear_value y9; subst e9)
            try (extract_lets -merge -useContext +onlyGivenNames y9; have e9 : x_64 = y9 := (by first | exact he_x_64 | exact he_x_64.symm); clear_value y9; subst e9)
            refine (if_pos c_65).trans ?_
            exact rfl
          exact hret _ _ _ _ _ _ () [0, 1] hP hD hS rfl (by decide) dX12_named_33 ⟨(congrArg (fun z9 => z9) hX_70).symm, hpost⟩
  have hX_71 : F_r_named_0_0 m_word g_words nn = F_r_named_0_0_L3a m_word g_words nn ((2147483647 - (0 : Int32).toInt).toNat + 1) (0 : Int32) := by
    refine (F_r_named_0_0_s ..).trans ?_
    exact rfl
  exact hlp_57 ((2147483647 - (0 : Int32).toInt).toNat + 1) 0 _ _ _ (Nat.lt_succ_self _) (by decide +kernel) hX_71 hP hD hS (lv_sub hl [1, 2, 3, 4, 0] rfl)
set_option maxHeartbeats 40000000 in
set_option maxRecDepth 100000 in
theorem r_named_4_0 (l : Launch) (G : va_G) (cA : zCA) (h0 : Nat) (m_status : Int32) (m_thrown : Int32) (m_above : Int64) (m_under : Int64) (a_traySort : Nat) (a_trayMany : Nat) (a_numbers : Nat) (a_tape : Nat) (m_taped : Int32) (m_textEnd : Int32) (m_faultKind : Int32) (m_faultAt : Int32) (m_bad : Int32) (m_badAt : Int32) (m_token : Int32) (m_at : Int32) (m_behind : Int32) (m_number : Int32) (m_letters : Int32) (m_word : Int64) (a_c : Nat) (a_words : Nat) (m_markMany : Int32) (a_there : Nat) (a_tried : Nat) (a_best : Nat) (a_found : Nat) (m_thereMany : Int32) (m_foundMany : Int32) (m_orderHow : Int32) (m_orderRing : Int32) (m_orderMany : Int32) (m_hasBest : Int32) (m_bestTop : Int64) (m_bestBy : Int64) (a_weights : Nat) (a_shared : Nat) (m_random : Int32) (m_truePlace : Int32) (m_trueWay : Int32) (m_seconds : Int32) (m_done : Int32) (m_feelings : Int32) (m_tries : Int32) (m_leftOver : Int32) (m_playDoor : Int32) (m_playRing : Int32) (m_isOpen : Int32) (m_isOver : Int32) (m_wasTried : Int32) (m_hasPlayed : Int32) (a_feltNow : Nat) (a_last : Nat) (a_kept : Nat) (m_hasSeconds : Int32) (m_hasTurned : Int32) (m_hasRound : Int32) (a_hasFeels : Nat) (a_isOn : Nat) (m_firstAct : Int32) (m_meanTop : Int64) (m_meanBy : Int64) (a_order : Nat) (m_rowMany : Int32) (m_newSteps : Int32) (g_words : Nat → Int64) (nn : Int32) (hr_nn : 0 ≤ nn.toInt ∧ nn.toInt ≤ 3) : zCi l yX12_named cX12_named 5 (some .int) ({ frames := 0, cells := 0, slots := 0, locals := 0 }) G cA [.ref h0, .int 4, .int 0, .int nn] [(h0, .inr (12, [.int m_status, .int m_thrown, .long m_above, .long m_under, .ref a_traySort, .ref a_trayMany, .ref a_numbers, .ref a_tape, .int m_taped, .int m_textEnd, .int m_faultKind, .int m_faultAt, .int m_bad, .int m_badAt, .int m_token, .int m_at, .int m_behind, .int m_number, .int m_letters, .long m_word, .ref a_c, .ref a_words, .int m_markMany, .ref a_there, .ref a_tried, .ref a_best, .ref a_found, .int m_thereMany, .int m_foundMany, .int m_orderHow, .int m_orderRing, .int m_orderMany, .int m_hasBest, .long m_bestTop, .long m_bestBy, .ref a_weights, .ref a_shared, .int m_random, .int m_truePlace, .int m_trueWay, .int m_seconds, .int m_done, .int m_feelings, .int m_tries, .int m_leftOver, .int m_playDoor, .int m_playRing, .int m_isOpen, .int m_isOver, .int m_wasTried, .int m_hasPlayed, .ref a_feltNow, .ref a_last, .ref a_kept, .int m_hasSeconds, .int m_hasTurned, .int m_hasRound, .ref a_hasFeels, .ref a_isOn, .int m_firstAct, .long m_meanTop, .long m_meanBy, .ref a_order, .int m_rowMany, .int m_newSteps])), (a_words, .inl (cA.1 1, 105, .inr (.inl g_words)))] (S := Unit) (fun (r : Int32) (u : Unit) => (r = (F_r_named_4_0 m_word g_words nn)) ∧ (((-1) ≤ r.toInt ∧ r.toInt ≤ 2) ∧ (r.toInt < nn.toInt))) (fun (u : Unit) => [(h0, .inr (12, [.int m_status, .int m_thrown, .long m_above, .long m_under, .ref a_traySort, .ref a_trayMany, .ref a_numbers, .ref a_tape, .int m_taped, .int m_textEnd, .int m_faultKind, .int m_faultAt, .int m_bad, .int m_badAt, .int m_token, .int m_at, .int m_behind, .int m_number, .int m_letters, .long m_word, .ref a_c, .ref a_words, .int m_markMany, .ref a_there, .ref a_tried, .ref a_best, .ref a_found, .int m_thereMany, .int m_foundMany, .int m_orderHow, .int m_orderRing, .int m_orderMany, .int m_hasBest, .long m_bestTop, .long m_bestBy, .ref a_weights, .ref a_shared, .int m_random, .int m_truePlace, .int m_trueWay, .int m_seconds, .int m_done, .int m_feelings, .int m_tries, .int m_leftOver, .int m_playDoor, .int m_playRing, .int m_isOpen, .int m_isOver, .int m_wasTried, .int m_hasPlayed, .ref a_feltNow, .ref a_last, .ref a_kept, .int m_hasSeconds, .int m_hasTurned, .int m_hasRound, .ref a_hasFeels, .ref a_isOn, .int m_firstAct, .long m_meanTop, .long m_meanBy, .ref a_order, .int m_rowMany, .int m_newSteps])), (a_words, .inl (cA.1 1, 105, .inr (.inl g_words)))]) 0 0 := by
  have hk_m1 : ((-1) : Int32).toInt = (-1) := by decide +kernel
  have hk_0 : (0 : Int32).toInt = 0 := by decide +kernel
  have hk_1 : (1 : Int32).toInt = 1 := by decide +kernel
  have hk_84 : (84 : Int32).toInt = 84 := by decide +kernel
  refine z_start2i (own := RX12) (by decide) (Nat.le_of_ble_eq_true rfl) rfl ?_
  intro p e s m args below meth c A ls Q hx hb hml hts hown hK hE hT hP hD hS hA hl hret
  have hl : lv_has ls 5 [(0, .ref h0), (1, .int 4), (2, .int 0), (3, .int nn)] := hl
  refine lv_iconst (v := 0) hx hb dX12_named_0 (by decide) ?_
  refine lv_istore (lv' := [(4, .int 0), (0, .ref h0), (1, .int 4), (2, .int 0), (3, .int nn)]) hx hb dX12_named_1 hl (by decide) rfl (fun ls hl => ?_)
  have hlp_57 : ∀ (n_L3a : Nat) (v_38 : Int32) (H : Heap) (locs : List Loc) (ls : Array Slot), (2147483647 - v_38.toInt).toNat < n_L3a → (0 ≤ v_38.toInt ∧ v_38.toInt ≤ 3) → (F_r_named_4_0 m_word g_words nn = F_r_named_4_0_L3a m_word g_words nn n_L3a v_38) → va_P G vwCl [(h0, .inr (12, [.int m_status, .int m_thrown, .long m_above, .long m_under, .ref a_traySort, .ref a_trayMany, .ref a_numbers, .ref a_tape, .int m_taped, .int m_textEnd, .int m_faultKind, .int m_faultAt, .int m_bad, .int m_badAt, .int m_token, .int m_at, .int m_behind, .int m_number, .int m_letters, .long m_word, .ref a_c, .ref a_words, .int m_markMany, .ref a_there, .ref a_tried, .ref a_best, .ref a_found, .int m_thereMany, .int m_foundMany, .int m_orderHow, .int m_orderRing, .int m_orderMany, .int m_hasBest, .long m_bestTop, .long m_bestBy, .ref a_weights, .ref a_shared, .int m_random, .int m_truePlace, .int m_trueWay, .int m_seconds, .int m_done, .int m_feelings, .int m_tries, .int m_leftOver, .int m_playDoor, .int m_playRing, .int m_isOpen, .int m_isOver, .int m_wasTried, .int m_hasPlayed, .ref a_feltNow, .ref a_last, .ref a_kept, .int m_hasSeconds, .int m_hasTurned, .int m_hasRound, .ref a_hasFeels, .ref a_isOn, .int m_firstAct, .long m_meanTop, .long m_meanBy, .ref a_order, .int m_rowMany, .int m_newSteps])), (a_words, .inl (cA.1 1, 105, .inr (.inl g_words)))] H → va_D A [(h0, .inr (12, [.int m_status, .int m_thrown, .long m_above, .long m_under, .ref a_traySort, .ref a_trayMany, .ref a_numbers, .ref a_tape, .int m_taped, .int m_textEnd, .int m_faultKind, .int m_faultAt, .int m_bad, .int m_badAt, .int m_token, .int m_at, .int m_behind, .int m_number, .int m_letters, .long m_word, .ref a_c, .ref a_words, .int m_markMany, .ref a_there, .ref a_tried, .ref a_best, .ref a_found, .int m_thereMany, .int m_foundMany, .int m_orderHow, .int m_orderRing, .int m_orderMany, .int m_hasBest, .long m_bestTop, .long m_bestBy, .ref a_weights, .ref a_shared, .int m_random, .int m_truePlace, .int m_trueWay, .int m_seconds, .int m_done, .int m_feelings, .int m_tries, .int m_leftOver, .int m_playDoor, .int m_playRing, .int m_isOpen, .int m_isOver, .int m_wasTried, .int m_hasPlayed, .ref a_feltNow, .ref a_last, .ref a_kept, .int m_hasSeconds, .int m_hasTurned, .int m_hasRound, .ref a_hasFeels, .ref a_isOn, .int m_firstAct, .long m_meanTop, .long m_meanBy, .ref a_order, .int m_rowMany, .int m_newSteps])), (a_words, .inl (cA.1 1, 105, .inr (.inl g_words)))] → va_S A s.heap H locs → lv_has ls 5 [(0, .ref h0), (1, .int 4), (2, .int 0), (3, .int nn), (4, .int v_38)] → W p l e ({ frames := 0, cells := 0, slots := 0, locals := 0 }) s m args below meth c H locs 0 0 Q (F0 m 3 ls []) := by
    intro n_L3a
    induction n_L3a with
    | zero =>
      intro v_38 H locs ls hmu_hlp_57 hr_v_38 hF_L3a hP hD hS hl
      exact absurd hmu_hlp_57 (Nat.not_lt_zero _)
    | succ n_L3a ih_58 =>
      intro v_38 H locs ls hmu_hlp_57 hr_v_38 hF_L3a hP hD hS hl
      refine lv_iload hx hb dX12_named_3 (lv_at hl 4 rfl) ?_
      refine lv_iload_n hx hb dX12_named_5 rfl (lv_at hl 3 rfl) ?_
      refine lv_icmp_ge (tgt := 40) hx hb dX12_named_6 (by decide) (fun c_59 => ?_) (fun c_59 => ?_)
      · have b_60 := z_fgeT c_59
        refine lv_iconst (v := (-1)) hx hb dX12_named_40 (by decide) ?_
        have hpost : ((-1) ≤ ((-1) : Int32).toInt ∧ ((-1) : Int32).toInt ≤ 2) ∧ (((-1) : Int32).toInt < nn.toInt) := ⟨(by decide +kernel), (by omega)⟩
        have hX_61 : F_r_named_4_0 m_word g_words nn = ((-1 : Int32) : Int32) := by
          refine hF_L3a.trans ?_
          refine (F_r_named_4_0_L3a_s ..).trans ?_
          refine (if_pos c_59).trans ?_
          exact rfl
        exact hret _ _ _ _ _ _ () [0, 1] hP hD hS rfl (by decide) dX12_named_41 ⟨(congrArg (fun z9 => z9) hX_61).symm, hpost⟩
      · have b_62 := z_fltF c_59
        refine lv_aload_n hx hb dX12_named_9 rfl (lv_at hl 0 rfl) ?_
        refine va_get (D := G) (ci := 12) (v := .ref a_words) (C := RX12) (T := TX12) (N := 65) hx hb hts inT12 hown hK hP 0 rfl rfl 21 (by decide) (hts _ tw_1906) (fun _ h9 => h9) rfl dX12_named_10 ?_
        refine lv_bipush (v := 21) hx hb dX12_named_13 (by decide) ?_
        refine lv_iload_n hx hb dX12_named_15 rfl (lv_at hl 1 rfl) ?_
        refine lv_imul hx hb dX12_named_16 ?_
        refine z_topi (y := 84) (by decide +kernel) ?_
        refine lv_iload_n hx hb dX12_named_17 rfl (lv_at hl 2 rfl) ?_
        refine lv_iadd hx hb dX12_named_18 ?_
        refine z_topi (y := 84) (by decide +kernel) ?_
        refine lv_iload hx hb dX12_named_19 (lv_at hl 4 rfl) ?_
        refine lv_iadd hx hb dX12_named_21 ?_
        refine lv_topi (fun x_63 he_x_63 => ?_)
        have hq_x_63 := z_addq he_x_63 hk_84 (rfl : v_38.toInt = _) (by omega) (by omega)
        refine va_lald hx hb hK hP 1 1 rfl rfl (z_inN (by omega) (by omega)) dX12_named_22 ?_
        refine lv_topl (fun x_64 he_x_64 => ?_)
        refine lv_aload_n hx hb dX12_named_23 rfl (lv_at hl 0 rfl) ?_
        refine va_get (D := G) (ci := 12) (v := .long m_word) (C := RX12) (T := TX12) (N := 65) hx hb hts inT12 hown hK hP 0 rfl rfl 19 (by decide) (hts _ tw_1904) (fun _ h9 => h9) rfl dX12_named_24 ?_
        refine W.lcmp hx hb dX12_named_27 ?_
        refine lv_if_ne (tgt := 34) hx hb dX12_named_28 (by decide) (fun c_65 => ?_) (fun c_65 => ?_)
        · have b_66 := z_fneTl c_65
          obtain ⟨x_67, he_x_67⟩ : ∃ z : Int32, z = v_38 + 1 := ⟨_, rfl⟩
          have hq_x_67 := z_addq he_x_67 (rfl : v_38.toInt = _) hk_1 (by omega) (by omega)
          refine lv_iinc (v := x_67) (lv' := [(4, .int x_67), (0, .ref h0), (1, .int 4), (2, .int 0), (3, .int nn)]) hx hb dX12_named_34 hl (k := 4) rfl ((z_ofi (by decide +kernel)).trans he_x_67.symm) (by decide) rfl (fun ls hl => ?_)
          refine lv_goto (tgt := 3) hx hb dX12_named_37 (by decide) ?_
          have hX_68 : F_r_named_4_0 m_word g_words nn = F_r_named_4_0_L3a m_word g_words nn n_L3a x_67 := by
            refine hF_L3a.trans ?_
            refine (F_r_named_4_0_L3a_s ..).trans ?_
            refine (if_neg c_59).trans ?_
            try (extract_lets -merge -useContext +onlyGivenNames y9; have e9 : x_63 = y9 := (by first | exact he_x_63 | exact he_x_63.symm); clear_value y9; subst e9)
            try (extract_lets -merge -useContext +onlyGivenNames y9; have e9 : x_64 = y9 := (by first | exact he_x_64 | exact he_x_64.symm); clear_value y9; subst e9)
            refine (if_neg c_65).trans ?_
            try (extract_lets -merge -useContext +onlyGivenNames y9; have e9 : x_67 = y9 := (by first | exact he_x_67 | exact he_x_67.symm); clear_value y9; subst e9)
            exact rfl
          exact ih_58 x_67 H locs ls (by omega) (by omega) hX_68 hP hD hS (lv_sub hl [1, 2, 3, 4, 0] rfl)
        · have b_69 := z_feqFl c_65
          refine lv_iload hx hb dX12_named_31 (lv_at hl 4 rfl) ?_
          have hpost : ((-1) ≤ v_38.toInt ∧ v_38.toInt ≤ 2) ∧ (v_38.toInt < nn.toInt) := ⟨(by omega), (by omega)⟩
          have hX_70 : F_r_named_4_0 m_word g_words nn = (v_38 : Int32) := by
            refine hF_L3a.trans ?_
            refine (F_r_named_4_0_L3a_s ..).trans ?_
            refine (if_neg c_59).trans ?_
            try (extract_lets -merge -useContext +onlyGivenNames y9; have e9 : x_63 = y9 := (by first | exact he_x_63 | exact he_x_63.symm); clear_value y9; subst e9)
            try (extract_lets -merge -useContext +onlyGivenNames y9; have e9 : x_64 = y9 := (by first | exact he_x_64 | exact he_x_64.symm); clear_value y9; subst e9)
            refine (if_pos c_65).trans ?_
            exact rfl
          exact hret _ _ _ _ _ _ () [0, 1] hP hD hS rfl (by decide) dX12_named_33 ⟨(congrArg (fun z9 => z9) hX_70).symm, hpost⟩
  have hX_71 : F_r_named_4_0 m_word g_words nn = F_r_named_4_0_L3a m_word g_words nn ((2147483647 - (0 : Int32).toInt).toNat + 1) (0 : Int32) := by
    refine (F_r_named_4_0_s ..).trans ?_
    exact rfl
  exact hlp_57 ((2147483647 - (0 : Int32).toInt).toNat + 1) 0 _ _ _ (Nat.lt_succ_self _) (by decide +kernel) hX_71 hP hD hS (lv_sub hl [1, 2, 3, 4, 0] rfl)
set_option maxHeartbeats 40000000 in
set_option maxRecDepth 100000 in
theorem r_named_4_3 (l : Launch) (G : va_G) (cA : zCA) (h0 : Nat) (m_status : Int32) (m_thrown : Int32) (m_above : Int64) (m_under : Int64) (a_traySort : Nat) (a_trayMany : Nat) (a_numbers : Nat) (a_tape : Nat) (m_taped : Int32) (m_textEnd : Int32) (m_faultKind : Int32) (m_faultAt : Int32) (m_bad : Int32) (m_badAt : Int32) (m_token : Int32) (m_at : Int32) (m_behind : Int32) (m_number : Int32) (m_letters : Int32) (m_word : Int64) (a_c : Nat) (a_words : Nat) (m_markMany : Int32) (a_there : Nat) (a_tried : Nat) (a_best : Nat) (a_found : Nat) (m_thereMany : Int32) (m_foundMany : Int32) (m_orderHow : Int32) (m_orderRing : Int32) (m_orderMany : Int32) (m_hasBest : Int32) (m_bestTop : Int64) (m_bestBy : Int64) (a_weights : Nat) (a_shared : Nat) (m_random : Int32) (m_truePlace : Int32) (m_trueWay : Int32) (m_seconds : Int32) (m_done : Int32) (m_feelings : Int32) (m_tries : Int32) (m_leftOver : Int32) (m_playDoor : Int32) (m_playRing : Int32) (m_isOpen : Int32) (m_isOver : Int32) (m_wasTried : Int32) (m_hasPlayed : Int32) (a_feltNow : Nat) (a_last : Nat) (a_kept : Nat) (m_hasSeconds : Int32) (m_hasTurned : Int32) (m_hasRound : Int32) (a_hasFeels : Nat) (a_isOn : Nat) (m_firstAct : Int32) (m_meanTop : Int64) (m_meanBy : Int64) (a_order : Nat) (m_rowMany : Int32) (m_newSteps : Int32) (g_words : Nat → Int64) (nn : Int32) (hr_nn : 0 ≤ nn.toInt ∧ nn.toInt ≤ 10) : zCi l yX12_named cX12_named 5 (some .int) ({ frames := 0, cells := 0, slots := 0, locals := 0 }) G cA [.ref h0, .int 4, .int 3, .int nn] [(h0, .inr (12, [.int m_status, .int m_thrown, .long m_above, .long m_under, .ref a_traySort, .ref a_trayMany, .ref a_numbers, .ref a_tape, .int m_taped, .int m_textEnd, .int m_faultKind, .int m_faultAt, .int m_bad, .int m_badAt, .int m_token, .int m_at, .int m_behind, .int m_number, .int m_letters, .long m_word, .ref a_c, .ref a_words, .int m_markMany, .ref a_there, .ref a_tried, .ref a_best, .ref a_found, .int m_thereMany, .int m_foundMany, .int m_orderHow, .int m_orderRing, .int m_orderMany, .int m_hasBest, .long m_bestTop, .long m_bestBy, .ref a_weights, .ref a_shared, .int m_random, .int m_truePlace, .int m_trueWay, .int m_seconds, .int m_done, .int m_feelings, .int m_tries, .int m_leftOver, .int m_playDoor, .int m_playRing, .int m_isOpen, .int m_isOver, .int m_wasTried, .int m_hasPlayed, .ref a_feltNow, .ref a_last, .ref a_kept, .int m_hasSeconds, .int m_hasTurned, .int m_hasRound, .ref a_hasFeels, .ref a_isOn, .int m_firstAct, .long m_meanTop, .long m_meanBy, .ref a_order, .int m_rowMany, .int m_newSteps])), (a_words, .inl (cA.1 1, 105, .inr (.inl g_words)))] (S := Unit) (fun (r : Int32) (u : Unit) => (r = (F_r_named_4_3 m_word g_words nn)) ∧ (((-1) ≤ r.toInt ∧ r.toInt ≤ 9) ∧ (r.toInt < nn.toInt))) (fun (u : Unit) => [(h0, .inr (12, [.int m_status, .int m_thrown, .long m_above, .long m_under, .ref a_traySort, .ref a_trayMany, .ref a_numbers, .ref a_tape, .int m_taped, .int m_textEnd, .int m_faultKind, .int m_faultAt, .int m_bad, .int m_badAt, .int m_token, .int m_at, .int m_behind, .int m_number, .int m_letters, .long m_word, .ref a_c, .ref a_words, .int m_markMany, .ref a_there, .ref a_tried, .ref a_best, .ref a_found, .int m_thereMany, .int m_foundMany, .int m_orderHow, .int m_orderRing, .int m_orderMany, .int m_hasBest, .long m_bestTop, .long m_bestBy, .ref a_weights, .ref a_shared, .int m_random, .int m_truePlace, .int m_trueWay, .int m_seconds, .int m_done, .int m_feelings, .int m_tries, .int m_leftOver, .int m_playDoor, .int m_playRing, .int m_isOpen, .int m_isOver, .int m_wasTried, .int m_hasPlayed, .ref a_feltNow, .ref a_last, .ref a_kept, .int m_hasSeconds, .int m_hasTurned, .int m_hasRound, .ref a_hasFeels, .ref a_isOn, .int m_firstAct, .long m_meanTop, .long m_meanBy, .ref a_order, .int m_rowMany, .int m_newSteps])), (a_words, .inl (cA.1 1, 105, .inr (.inl g_words)))]) 0 0 := by
  have hk_m1 : ((-1) : Int32).toInt = (-1) := by decide +kernel
  have hk_0 : (0 : Int32).toInt = 0 := by decide +kernel
  have hk_1 : (1 : Int32).toInt = 1 := by decide +kernel
  have hk_87 : (87 : Int32).toInt = 87 := by decide +kernel
  refine z_start2i (own := RX12) (by decide) (Nat.le_of_ble_eq_true rfl) rfl ?_
  intro p e s m args below meth c A ls Q hx hb hml hts hown hK hE hT hP hD hS hA hl hret
  have hl : lv_has ls 5 [(0, .ref h0), (1, .int 4), (2, .int 3), (3, .int nn)] := hl
  refine lv_iconst (v := 0) hx hb dX12_named_0 (by decide) ?_
  refine lv_istore (lv' := [(4, .int 0), (0, .ref h0), (1, .int 4), (2, .int 3), (3, .int nn)]) hx hb dX12_named_1 hl (by decide) rfl (fun ls hl => ?_)
  have hlp_127 : ∀ (n_L3a : Nat) (v_108 : Int32) (H : Heap) (locs : List Loc) (ls : Array Slot), (2147483647 - v_108.toInt).toNat < n_L3a → (0 ≤ v_108.toInt ∧ v_108.toInt ≤ 10) → (F_r_named_4_3 m_word g_words nn = F_r_named_4_3_L3a m_word g_words nn n_L3a v_108) → va_P G vwCl [(h0, .inr (12, [.int m_status, .int m_thrown, .long m_above, .long m_under, .ref a_traySort, .ref a_trayMany, .ref a_numbers, .ref a_tape, .int m_taped, .int m_textEnd, .int m_faultKind, .int m_faultAt, .int m_bad, .int m_badAt, .int m_token, .int m_at, .int m_behind, .int m_number, .int m_letters, .long m_word, .ref a_c, .ref a_words, .int m_markMany, .ref a_there, .ref a_tried, .ref a_best, .ref a_found, .int m_thereMany, .int m_foundMany, .int m_orderHow, .int m_orderRing, .int m_orderMany, .int m_hasBest, .long m_bestTop, .long m_bestBy, .ref a_weights, .ref a_shared, .int m_random, .int m_truePlace, .int m_trueWay, .int m_seconds, .int m_done, .int m_feelings, .int m_tries, .int m_leftOver, .int m_playDoor, .int m_playRing, .int m_isOpen, .int m_isOver, .int m_wasTried, .int m_hasPlayed, .ref a_feltNow, .ref a_last, .ref a_kept, .int m_hasSeconds, .int m_hasTurned, .int m_hasRound, .ref a_hasFeels, .ref a_isOn, .int m_firstAct, .long m_meanTop, .long m_meanBy, .ref a_order, .int m_rowMany, .int m_newSteps])), (a_words, .inl (cA.1 1, 105, .inr (.inl g_words)))] H → va_D A [(h0, .inr (12, [.int m_status, .int m_thrown, .long m_above, .long m_under, .ref a_traySort, .ref a_trayMany, .ref a_numbers, .ref a_tape, .int m_taped, .int m_textEnd, .int m_faultKind, .int m_faultAt, .int m_bad, .int m_badAt, .int m_token, .int m_at, .int m_behind, .int m_number, .int m_letters, .long m_word, .ref a_c, .ref a_words, .int m_markMany, .ref a_there, .ref a_tried, .ref a_best, .ref a_found, .int m_thereMany, .int m_foundMany, .int m_orderHow, .int m_orderRing, .int m_orderMany, .int m_hasBest, .long m_bestTop, .long m_bestBy, .ref a_weights, .ref a_shared, .int m_random, .int m_truePlace, .int m_trueWay, .int m_seconds, .int m_done, .int m_feelings, .int m_tries, .int m_leftOver, .int m_playDoor, .int m_playRing, .int m_isOpen, .int m_isOver, .int m_wasTried, .int m_hasPlayed, .ref a_feltNow, .ref a_last, .ref a_kept, .int m_hasSeconds, .int m_hasTurned, .int m_hasRound, .ref a_hasFeels, .ref a_isOn, .int m_firstAct, .long m_meanTop, .long m_meanBy, .ref a_order, .int m_rowMany, .int m_newSteps])), (a_words, .inl (cA.1 1, 105, .inr (.inl g_words)))] → va_S A s.heap H locs → lv_has ls 5 [(0, .ref h0), (1, .int 4), (2, .int 3), (3, .int nn), (4, .int v_108)] → W p l e ({ frames := 0, cells := 0, slots := 0, locals := 0 }) s m args below meth c H locs 0 0 Q (F0 m 3 ls []) := by
    intro n_L3a
    induction n_L3a with
    | zero =>
      intro v_108 H locs ls hmu_hlp_127 hr_v_108 hF_L3a hP hD hS hl
      exact absurd hmu_hlp_127 (Nat.not_lt_zero _)
    | succ n_L3a ih_128 =>
      intro v_108 H locs ls hmu_hlp_127 hr_v_108 hF_L3a hP hD hS hl
      refine lv_iload hx hb dX12_named_3 (lv_at hl 4 rfl) ?_
      refine lv_iload_n hx hb dX12_named_5 rfl (lv_at hl 3 rfl) ?_
      refine lv_icmp_ge (tgt := 40) hx hb dX12_named_6 (by decide) (fun c_129 => ?_) (fun c_129 => ?_)
      · have b_130 := z_fgeT c_129
        refine lv_iconst (v := (-1)) hx hb dX12_named_40 (by decide) ?_
        have hpost : ((-1) ≤ ((-1) : Int32).toInt ∧ ((-1) : Int32).toInt ≤ 9) ∧ (((-1) : Int32).toInt < nn.toInt) := ⟨(by decide +kernel), (by omega)⟩
        have hX_131 : F_r_named_4_3 m_word g_words nn = ((-1 : Int32) : Int32) := by
          refine hF_L3a.trans ?_
          refine (F_r_named_4_3_L3a_s ..).trans ?_
          refine (if_pos c_129).trans ?_
          exact rfl
        exact hret _ _ _ _ _ _ () [0, 1] hP hD hS rfl (by decide) dX12_named_41 ⟨(congrArg (fun z9 => z9) hX_131).symm, hpost⟩
      · have b_132 := z_fltF c_129
        refine lv_aload_n hx hb dX12_named_9 rfl (lv_at hl 0 rfl) ?_
        refine va_get (D := G) (ci := 12) (v := .ref a_words) (C := RX12) (T := TX12) (N := 65) hx hb hts inT12 hown hK hP 0 rfl rfl 21 (by decide) (hts _ tw_1906) (fun _ h9 => h9) rfl dX12_named_10 ?_
        refine lv_bipush (v := 21) hx hb dX12_named_13 (by decide) ?_
        refine lv_iload_n hx hb dX12_named_15 rfl (lv_at hl 1 rfl) ?_
        refine lv_imul hx hb dX12_named_16 ?_
        refine z_topi (y := 84) (by decide +kernel) ?_
        refine lv_iload_n hx hb dX12_named_17 rfl (lv_at hl 2 rfl) ?_
        refine lv_iadd hx hb dX12_named_18 ?_
        refine z_topi (y := 87) (by decide +kernel) ?_
        refine lv_iload hx hb dX12_named_19 (lv_at hl 4 rfl) ?_
        refine lv_iadd hx hb dX12_named_21 ?_
        refine lv_topi (fun x_133 he_x_133 => ?_)
        have hq_x_133 := z_addq he_x_133 hk_87 (rfl : v_108.toInt = _) (by omega) (by omega)
        refine va_lald hx hb hK hP 1 1 rfl rfl (z_inN (by omega) (by omega)) dX12_named_22 ?_
        refine lv_topl (fun x_134 he_x_134 => ?_)
        refine lv_aload_n hx hb dX12_named_23 rfl (lv_at hl 0 rfl) ?_
        refine va_get (D := G) (ci := 12) (v := .long m_word) (C := RX12) (T := TX12) (N := 65) hx hb hts inT12 hown hK hP 0 rfl rfl 19 (by decide) (hts _ tw_1904) (fun _ h9 => h9) rfl dX12_named_24 ?_
        refine W.lcmp hx hb dX12_named_27 ?_
        refine lv_if_ne (tgt := 34) hx hb dX12_named_28 (by decide) (fun c_135 => ?_) (fun c_135 => ?_)
        · have b_136 := z_fneTl c_135
          obtain ⟨x_137, he_x_137⟩ : ∃ z : Int32, z = v_108 + 1 := ⟨_, rfl⟩
          have hq_x_137 := z_addq he_x_137 (rfl : v_108.toInt = _) hk_1 (by omega) (by omega)
          refine lv_iinc (v := x_137) (lv' := [(4, .int x_137), (0, .ref h0), (1, .int 4), (2, .int 3), (3, .int nn)]) hx hb dX12_named_34 hl (k := 4) rfl ((z_ofi (by decide +kernel)).trans he_x_137.symm) (by decide) rfl (fun ls hl => ?_)
          refine lv_goto (tgt := 3) hx hb dX12_named_37 (by decide) ?_
          have hX_138 : F_r_named_4_3 m_word g_words nn = F_r_named_4_3_L3a m_word g_words nn n_L3a x_137 := by
            refine hF_L3a.trans ?_
            refine (F_r_named_4_3_L3a_s ..).trans ?_
            refine (if_neg c_129).trans ?_
            try (extract_lets -merge -useContext +onlyGivenNames y9; have e9 : x_133 = y9 := (by first | exact he_x_133 | exact he_x_133.symm); clear_value y9; subst e9)
            try (extract_lets -merge -useContext +onlyGivenNames y9; have e9 : x_134 = y9 := (by first | exact he_x_134 | exact he_x_134.symm); clear_value y9; subst e9)
            refine (if_neg c_135).trans ?_
            try (extract_lets -merge -useContext +onlyGivenNames y9; have e9 : x_137 = y9 := (by first | exact he_x_137 | exact he_x_137.symm); clear_value y9; subst e9)
            exact rfl
          exact ih_128 x_137 H locs ls (by omega) (by omega) hX_138 hP hD hS (lv_sub hl [1, 2, 3, 4, 0] rfl)
        · have b_139 := z_feqFl c_135
          refine lv_iload hx hb dX12_named_31 (lv_at hl 4 rfl) ?_
          have hpost : ((-1) ≤ v_108.toInt ∧ v_108.toInt ≤ 9) ∧ (v_108.toInt < nn.toInt) := ⟨(by omega), (by omega)⟩
          have hX_140 : F_r_named_4_3 m_word g_words nn = (v_108 : Int32) := by
            refine hF_L3a.trans ?_
            refine (F_r_named_4_3_L3a_s ..).trans ?_
            refine (if_neg c_129).trans ?_
            try (extract_lets -merge -useContext +onlyGivenNames y9; have e9 : x_133 = y9 := (by first | exact he_x_133 | exact he_x_133.symm); clear_value y9; subst e9)
            try (extract_lets -merge -useContext +onlyGivenNames y9; have e9 : x_134 = y9 := (by first | exact he_x_134 | exact he_x_134.symm); clear_value y9; subst e9)
            refine (if_pos c_135).trans ?_
            exact rfl
          exact hret _ _ _ _ _ _ () [0, 1] hP hD hS rfl (by decide) dX12_named_33 ⟨(congrArg (fun z9 => z9) hX_140).symm, hpost⟩
  have hX_141 : F_r_named_4_3 m_word g_words nn = F_r_named_4_3_L3a m_word g_words nn ((2147483647 - (0 : Int32).toInt).toNat + 1) (0 : Int32) := by
    refine (F_r_named_4_3_s ..).trans ?_
    exact rfl
  exact hlp_127 ((2147483647 - (0 : Int32).toInt).toNat + 1) 0 _ _ _ (Nat.lt_succ_self _) (by decide +kernel) hX_141 hP hD hS (lv_sub hl [1, 2, 3, 4, 0] rfl)
set_option maxHeartbeats 40000000 in
set_option maxRecDepth 100000 in
theorem r_named_4_13 (l : Launch) (G : va_G) (cA : zCA) (h0 : Nat) (m_status : Int32) (m_thrown : Int32) (m_above : Int64) (m_under : Int64) (a_traySort : Nat) (a_trayMany : Nat) (a_numbers : Nat) (a_tape : Nat) (m_taped : Int32) (m_textEnd : Int32) (m_faultKind : Int32) (m_faultAt : Int32) (m_bad : Int32) (m_badAt : Int32) (m_token : Int32) (m_at : Int32) (m_behind : Int32) (m_number : Int32) (m_letters : Int32) (m_word : Int64) (a_c : Nat) (a_words : Nat) (m_markMany : Int32) (a_there : Nat) (a_tried : Nat) (a_best : Nat) (a_found : Nat) (m_thereMany : Int32) (m_foundMany : Int32) (m_orderHow : Int32) (m_orderRing : Int32) (m_orderMany : Int32) (m_hasBest : Int32) (m_bestTop : Int64) (m_bestBy : Int64) (a_weights : Nat) (a_shared : Nat) (m_random : Int32) (m_truePlace : Int32) (m_trueWay : Int32) (m_seconds : Int32) (m_done : Int32) (m_feelings : Int32) (m_tries : Int32) (m_leftOver : Int32) (m_playDoor : Int32) (m_playRing : Int32) (m_isOpen : Int32) (m_isOver : Int32) (m_wasTried : Int32) (m_hasPlayed : Int32) (a_feltNow : Nat) (a_last : Nat) (a_kept : Nat) (m_hasSeconds : Int32) (m_hasTurned : Int32) (m_hasRound : Int32) (a_hasFeels : Nat) (a_isOn : Nat) (m_firstAct : Int32) (m_meanTop : Int64) (m_meanBy : Int64) (a_order : Nat) (m_rowMany : Int32) (m_newSteps : Int32) (g_words : Nat → Int64) (nn : Int32) (hr_nn : 0 ≤ nn.toInt ∧ nn.toInt ≤ 3) : zCi l yX12_named cX12_named 5 (some .int) ({ frames := 0, cells := 0, slots := 0, locals := 0 }) G cA [.ref h0, .int 4, .int 13, .int nn] [(h0, .inr (12, [.int m_status, .int m_thrown, .long m_above, .long m_under, .ref a_traySort, .ref a_trayMany, .ref a_numbers, .ref a_tape, .int m_taped, .int m_textEnd, .int m_faultKind, .int m_faultAt, .int m_bad, .int m_badAt, .int m_token, .int m_at, .int m_behind, .int m_number, .int m_letters, .long m_word, .ref a_c, .ref a_words, .int m_markMany, .ref a_there, .ref a_tried, .ref a_best, .ref a_found, .int m_thereMany, .int m_foundMany, .int m_orderHow, .int m_orderRing, .int m_orderMany, .int m_hasBest, .long m_bestTop, .long m_bestBy, .ref a_weights, .ref a_shared, .int m_random, .int m_truePlace, .int m_trueWay, .int m_seconds, .int m_done, .int m_feelings, .int m_tries, .int m_leftOver, .int m_playDoor, .int m_playRing, .int m_isOpen, .int m_isOver, .int m_wasTried, .int m_hasPlayed, .ref a_feltNow, .ref a_last, .ref a_kept, .int m_hasSeconds, .int m_hasTurned, .int m_hasRound, .ref a_hasFeels, .ref a_isOn, .int m_firstAct, .long m_meanTop, .long m_meanBy, .ref a_order, .int m_rowMany, .int m_newSteps])), (a_words, .inl (cA.1 1, 105, .inr (.inl g_words)))] (S := Unit) (fun (r : Int32) (u : Unit) => (r = (F_r_named_4_13 m_word g_words nn)) ∧ (((-1) ≤ r.toInt ∧ r.toInt ≤ 2) ∧ (r.toInt < nn.toInt))) (fun (u : Unit) => [(h0, .inr (12, [.int m_status, .int m_thrown, .long m_above, .long m_under, .ref a_traySort, .ref a_trayMany, .ref a_numbers, .ref a_tape, .int m_taped, .int m_textEnd, .int m_faultKind, .int m_faultAt, .int m_bad, .int m_badAt, .int m_token, .int m_at, .int m_behind, .int m_number, .int m_letters, .long m_word, .ref a_c, .ref a_words, .int m_markMany, .ref a_there, .ref a_tried, .ref a_best, .ref a_found, .int m_thereMany, .int m_foundMany, .int m_orderHow, .int m_orderRing, .int m_orderMany, .int m_hasBest, .long m_bestTop, .long m_bestBy, .ref a_weights, .ref a_shared, .int m_random, .int m_truePlace, .int m_trueWay, .int m_seconds, .int m_done, .int m_feelings, .int m_tries, .int m_leftOver, .int m_playDoor, .int m_playRing, .int m_isOpen, .int m_isOver, .int m_wasTried, .int m_hasPlayed, .ref a_feltNow, .ref a_last, .ref a_kept, .int m_hasSeconds, .int m_hasTurned, .int m_hasRound, .ref a_hasFeels, .ref a_isOn, .int m_firstAct, .long m_meanTop, .long m_meanBy, .ref a_order, .int m_rowMany, .int m_newSteps])), (a_words, .inl (cA.1 1, 105, .inr (.inl g_words)))]) 0 0 := by
  have hk_m1 : ((-1) : Int32).toInt = (-1) := by decide +kernel
  have hk_0 : (0 : Int32).toInt = 0 := by decide +kernel
  have hk_1 : (1 : Int32).toInt = 1 := by decide +kernel
  have hk_97 : (97 : Int32).toInt = 97 := by decide +kernel
  refine z_start2i (own := RX12) (by decide) (Nat.le_of_ble_eq_true rfl) rfl ?_
  intro p e s m args below meth c A ls Q hx hb hml hts hown hK hE hT hP hD hS hA hl hret
  have hl : lv_has ls 5 [(0, .ref h0), (1, .int 4), (2, .int 13), (3, .int nn)] := hl
  refine lv_iconst (v := 0) hx hb dX12_named_0 (by decide) ?_
  refine lv_istore (lv' := [(4, .int 0), (0, .ref h0), (1, .int 4), (2, .int 13), (3, .int nn)]) hx hb dX12_named_1 hl (by decide) rfl (fun ls hl => ?_)
  have hlp_57 : ∀ (n_L3a : Nat) (v_38 : Int32) (H : Heap) (locs : List Loc) (ls : Array Slot), (2147483647 - v_38.toInt).toNat < n_L3a → (0 ≤ v_38.toInt ∧ v_38.toInt ≤ 3) → (F_r_named_4_13 m_word g_words nn = F_r_named_4_13_L3a m_word g_words nn n_L3a v_38) → va_P G vwCl [(h0, .inr (12, [.int m_status, .int m_thrown, .long m_above, .long m_under, .ref a_traySort, .ref a_trayMany, .ref a_numbers, .ref a_tape, .int m_taped, .int m_textEnd, .int m_faultKind, .int m_faultAt, .int m_bad, .int m_badAt, .int m_token, .int m_at, .int m_behind, .int m_number, .int m_letters, .long m_word, .ref a_c, .ref a_words, .int m_markMany, .ref a_there, .ref a_tried, .ref a_best, .ref a_found, .int m_thereMany, .int m_foundMany, .int m_orderHow, .int m_orderRing, .int m_orderMany, .int m_hasBest, .long m_bestTop, .long m_bestBy, .ref a_weights, .ref a_shared, .int m_random, .int m_truePlace, .int m_trueWay, .int m_seconds, .int m_done, .int m_feelings, .int m_tries, .int m_leftOver, .int m_playDoor, .int m_playRing, .int m_isOpen, .int m_isOver, .int m_wasTried, .int m_hasPlayed, .ref a_feltNow, .ref a_last, .ref a_kept, .int m_hasSeconds, .int m_hasTurned, .int m_hasRound, .ref a_hasFeels, .ref a_isOn, .int m_firstAct, .long m_meanTop, .long m_meanBy, .ref a_order, .int m_rowMany, .int m_newSteps])), (a_words, .inl (cA.1 1, 105, .inr (.inl g_words)))] H → va_D A [(h0, .inr (12, [.int m_status, .int m_thrown, .long m_above, .long m_under, .ref a_traySort, .ref a_trayMany, .ref a_numbers, .ref a_tape, .int m_taped, .int m_textEnd, .int m_faultKind, .int m_faultAt, .int m_bad, .int m_badAt, .int m_token, .int m_at, .int m_behind, .int m_number, .int m_letters, .long m_word, .ref a_c, .ref a_words, .int m_markMany, .ref a_there, .ref a_tried, .ref a_best, .ref a_found, .int m_thereMany, .int m_foundMany, .int m_orderHow, .int m_orderRing, .int m_orderMany, .int m_hasBest, .long m_bestTop, .long m_bestBy, .ref a_weights, .ref a_shared, .int m_random, .int m_truePlace, .int m_trueWay, .int m_seconds, .int m_done, .int m_feelings, .int m_tries, .int m_leftOver, .int m_playDoor, .int m_playRing, .int m_isOpen, .int m_isOver, .int m_wasTried, .int m_hasPlayed, .ref a_feltNow, .ref a_last, .ref a_kept, .int m_hasSeconds, .int m_hasTurned, .int m_hasRound, .ref a_hasFeels, .ref a_isOn, .int m_firstAct, .long m_meanTop, .long m_meanBy, .ref a_order, .int m_rowMany, .int m_newSteps])), (a_words, .inl (cA.1 1, 105, .inr (.inl g_words)))] → va_S A s.heap H locs → lv_has ls 5 [(0, .ref h0), (1, .int 4), (2, .int 13), (3, .int nn), (4, .int v_38)] → W p l e ({ frames := 0, cells := 0, slots := 0, locals := 0 }) s m args below meth c H locs 0 0 Q (F0 m 3 ls []) := by
    intro n_L3a
    induction n_L3a with
    | zero =>
      intro v_38 H locs ls hmu_hlp_57 hr_v_38 hF_L3a hP hD hS hl
      exact absurd hmu_hlp_57 (Nat.not_lt_zero _)
    | succ n_L3a ih_58 =>
      intro v_38 H locs ls hmu_hlp_57 hr_v_38 hF_L3a hP hD hS hl
      refine lv_iload hx hb dX12_named_3 (lv_at hl 4 rfl) ?_
      refine lv_iload_n hx hb dX12_named_5 rfl (lv_at hl 3 rfl) ?_
      refine lv_icmp_ge (tgt := 40) hx hb dX12_named_6 (by decide) (fun c_59 => ?_) (fun c_59 => ?_)
      · have b_60 := z_fgeT c_59
        refine lv_iconst (v := (-1)) hx hb dX12_named_40 (by decide) ?_
        have hpost : ((-1) ≤ ((-1) : Int32).toInt ∧ ((-1) : Int32).toInt ≤ 2) ∧ (((-1) : Int32).toInt < nn.toInt) := ⟨(by decide +kernel), (by omega)⟩
        have hX_61 : F_r_named_4_13 m_word g_words nn = ((-1 : Int32) : Int32) := by
          refine hF_L3a.trans ?_
          refine (F_r_named_4_13_L3a_s ..).trans ?_
          refine (if_pos c_59).trans ?_
          exact rfl
        exact hret _ _ _ _ _ _ () [0, 1] hP hD hS rfl (by decide) dX12_named_41 ⟨(congrArg (fun z9 => z9) hX_61).symm, hpost⟩
      · have b_62 := z_fltF c_59
        refine lv_aload_n hx hb dX12_named_9 rfl (lv_at hl 0 rfl) ?_
        refine va_get (D := G) (ci := 12) (v := .ref a_words) (C := RX12) (T := TX12) (N := 65) hx hb hts inT12 hown hK hP 0 rfl rfl 21 (by decide) (hts _ tw_1906) (fun _ h9 => h9) rfl dX12_named_10 ?_
        refine lv_bipush (v := 21) hx hb dX12_named_13 (by decide) ?_
        refine lv_iload_n hx hb dX12_named_15 rfl (lv_at hl 1 rfl) ?_
        refine lv_imul hx hb dX12_named_16 ?_
        refine z_topi (y := 84) (by decide +kernel) ?_
        refine lv_iload_n hx hb dX12_named_17 rfl (lv_at hl 2 rfl) ?_
        refine lv_iadd hx hb dX12_named_18 ?_
        refine z_topi (y := 97) (by decide +kernel) ?_
        refine lv_iload hx hb dX12_named_19 (lv_at hl 4 rfl) ?_
        refine lv_iadd hx hb dX12_named_21 ?_
        refine lv_topi (fun x_63 he_x_63 => ?_)
        have hq_x_63 := z_addq he_x_63 hk_97 (rfl : v_38.toInt = _) (by omega) (by omega)
        refine va_lald hx hb hK hP 1 1 rfl rfl (z_inN (by omega) (by omega)) dX12_named_22 ?_
        refine lv_topl (fun x_64 he_x_64 => ?_)
        refine lv_aload_n hx hb dX12_named_23 rfl (lv_at hl 0 rfl) ?_
        refine va_get (D := G) (ci := 12) (v := .long m_word) (C := RX12) (T := TX12) (N := 65) hx hb hts inT12 hown hK hP 0 rfl rfl 19 (by decide) (hts _ tw_1904) (fun _ h9 => h9) rfl dX12_named_24 ?_
        refine W.lcmp hx hb dX12_named_27 ?_
        refine lv_if_ne (tgt := 34) hx hb dX12_named_28 (by decide) (fun c_65 => ?_) (fun c_65 => ?_)
        · have b_66 := z_fneTl c_65
          obtain ⟨x_67, he_x_67⟩ : ∃ z : Int32, z = v_38 + 1 := ⟨_, rfl⟩
          have hq_x_67 := z_addq he_x_67 (rfl : v_38.toInt = _) hk_1 (by omega) (by omega)
          refine lv_iinc (v := x_67) (lv' := [(4, .int x_67), (0, .ref h0), (1, .int 4), (2, .int 13), (3, .int nn)]) hx hb dX12_named_34 hl (k := 4) rfl ((z_ofi (by decide +kernel)).trans he_x_67.symm) (by decide) rfl (fun ls hl => ?_)
          refine lv_goto (tgt := 3) hx hb dX12_named_37 (by decide) ?_
          have hX_68 : F_r_named_4_13 m_word g_words nn = F_r_named_4_13_L3a m_word g_words nn n_L3a x_67 := by
            refine hF_L3a.trans ?_
            refine (F_r_named_4_13_L3a_s ..).trans ?_
            refine (if_neg c_59).trans ?_
            try (extract_lets -merge -useContext +onlyGivenNames y9; have e9 : x_63 = y9 := (by first | exact he_x_63 | exact he_x_63.symm); clear_value y9; subst e9)
            try (extract_lets -merge -useContext +onlyGivenNames y9; have e9 : x_64 = y9 := (by first | exact he_x_64 | exact he_x_64.symm); clear_value y9; subst e9)
            refine (if_neg c_65).trans ?_
            try (extract_lets -merge -useContext +onlyGivenNames y9; have e9 : x_67 = y9 := (by first | exact he_x_67 | exact he_x_67.symm); clear_value y9; subst e9)
            exact rfl
          exact ih_58 x_67 H locs ls (by omega) (by omega) hX_68 hP hD hS (lv_sub hl [1, 2, 3, 4, 0] rfl)
        · have b_69 := z_feqFl c_65
          refine lv_iload hx hb dX12_named_31 (lv_at hl 4 rfl) ?_
          have hpost : ((-1) ≤ v_38.toInt ∧ v_38.toInt ≤ 2) ∧ (v_38.toInt < nn.toInt) := ⟨(by omega), (by omega)⟩
          have hX_70 : F_r_named_4_13 m_word g_words nn = (v_38 : Int32) := by
            refine hF_L3a.trans ?_
            refine (F_r_named_4_13_L3a_s ..).trans ?_
            refine (if_neg c_59).trans ?_
            try (extract_lets -merge -useContext +onlyGivenNames y9; have e9 : x_63 = y9 := (by first | exact he_x_63 | exact he_x_63.symm); clear_value y9; subst e9)
            try (extract_lets -merge -useContext +onlyGivenNames y9; have e9 : x_64 = y9 := (by first | exact he_x_64 | exact he_x_64.symm); clear_value y9; subst e9)
            refine (if_pos c_65).trans ?_
            exact rfl
          exact hret _ _ _ _ _ _ () [0, 1] hP hD hS rfl (by decide) dX12_named_33 ⟨(congrArg (fun z9 => z9) hX_70).symm, hpost⟩
  have hX_71 : F_r_named_4_13 m_word g_words nn = F_r_named_4_13_L3a m_word g_words nn ((2147483647 - (0 : Int32).toInt).toNat + 1) (0 : Int32) := by
    refine (F_r_named_4_13_s ..).trans ?_
    exact rfl
  exact hlp_57 ((2147483647 - (0 : Int32).toInt).toNat + 1) 0 _ _ _ (Nat.lt_succ_self _) (by decide +kernel) hX_71 hP hD hS (lv_sub hl [1, 2, 3, 4, 0] rfl)
set_option maxHeartbeats 40000000 in
set_option maxRecDepth 100000 in
theorem r_named_4_16 (l : Launch) (G : va_G) (cA : zCA) (h0 : Nat) (m_status : Int32) (m_thrown : Int32) (m_above : Int64) (m_under : Int64) (a_traySort : Nat) (a_trayMany : Nat) (a_numbers : Nat) (a_tape : Nat) (m_taped : Int32) (m_textEnd : Int32) (m_faultKind : Int32) (m_faultAt : Int32) (m_bad : Int32) (m_badAt : Int32) (m_token : Int32) (m_at : Int32) (m_behind : Int32) (m_number : Int32) (m_letters : Int32) (m_word : Int64) (a_c : Nat) (a_words : Nat) (m_markMany : Int32) (a_there : Nat) (a_tried : Nat) (a_best : Nat) (a_found : Nat) (m_thereMany : Int32) (m_foundMany : Int32) (m_orderHow : Int32) (m_orderRing : Int32) (m_orderMany : Int32) (m_hasBest : Int32) (m_bestTop : Int64) (m_bestBy : Int64) (a_weights : Nat) (a_shared : Nat) (m_random : Int32) (m_truePlace : Int32) (m_trueWay : Int32) (m_seconds : Int32) (m_done : Int32) (m_feelings : Int32) (m_tries : Int32) (m_leftOver : Int32) (m_playDoor : Int32) (m_playRing : Int32) (m_isOpen : Int32) (m_isOver : Int32) (m_wasTried : Int32) (m_hasPlayed : Int32) (a_feltNow : Nat) (a_last : Nat) (a_kept : Nat) (m_hasSeconds : Int32) (m_hasTurned : Int32) (m_hasRound : Int32) (a_hasFeels : Nat) (a_isOn : Nat) (m_firstAct : Int32) (m_meanTop : Int64) (m_meanBy : Int64) (a_order : Nat) (m_rowMany : Int32) (m_newSteps : Int32) (g_words : Nat → Int64) (nn : Int32) (hr_nn : 0 ≤ nn.toInt ∧ nn.toInt ≤ 5) : zCi l yX12_named cX12_named 5 (some .int) ({ frames := 0, cells := 0, slots := 0, locals := 0 }) G cA [.ref h0, .int 4, .int 16, .int nn] [(h0, .inr (12, [.int m_status, .int m_thrown, .long m_above, .long m_under, .ref a_traySort, .ref a_trayMany, .ref a_numbers, .ref a_tape, .int m_taped, .int m_textEnd, .int m_faultKind, .int m_faultAt, .int m_bad, .int m_badAt, .int m_token, .int m_at, .int m_behind, .int m_number, .int m_letters, .long m_word, .ref a_c, .ref a_words, .int m_markMany, .ref a_there, .ref a_tried, .ref a_best, .ref a_found, .int m_thereMany, .int m_foundMany, .int m_orderHow, .int m_orderRing, .int m_orderMany, .int m_hasBest, .long m_bestTop, .long m_bestBy, .ref a_weights, .ref a_shared, .int m_random, .int m_truePlace, .int m_trueWay, .int m_seconds, .int m_done, .int m_feelings, .int m_tries, .int m_leftOver, .int m_playDoor, .int m_playRing, .int m_isOpen, .int m_isOver, .int m_wasTried, .int m_hasPlayed, .ref a_feltNow, .ref a_last, .ref a_kept, .int m_hasSeconds, .int m_hasTurned, .int m_hasRound, .ref a_hasFeels, .ref a_isOn, .int m_firstAct, .long m_meanTop, .long m_meanBy, .ref a_order, .int m_rowMany, .int m_newSteps])), (a_words, .inl (cA.1 1, 105, .inr (.inl g_words)))] (S := Unit) (fun (r : Int32) (u : Unit) => (r = (F_r_named_4_16 m_word g_words nn)) ∧ (((-1) ≤ r.toInt ∧ r.toInt ≤ 4) ∧ (r.toInt < nn.toInt))) (fun (u : Unit) => [(h0, .inr (12, [.int m_status, .int m_thrown, .long m_above, .long m_under, .ref a_traySort, .ref a_trayMany, .ref a_numbers, .ref a_tape, .int m_taped, .int m_textEnd, .int m_faultKind, .int m_faultAt, .int m_bad, .int m_badAt, .int m_token, .int m_at, .int m_behind, .int m_number, .int m_letters, .long m_word, .ref a_c, .ref a_words, .int m_markMany, .ref a_there, .ref a_tried, .ref a_best, .ref a_found, .int m_thereMany, .int m_foundMany, .int m_orderHow, .int m_orderRing, .int m_orderMany, .int m_hasBest, .long m_bestTop, .long m_bestBy, .ref a_weights, .ref a_shared, .int m_random, .int m_truePlace, .int m_trueWay, .int m_seconds, .int m_done, .int m_feelings, .int m_tries, .int m_leftOver, .int m_playDoor, .int m_playRing, .int m_isOpen, .int m_isOver, .int m_wasTried, .int m_hasPlayed, .ref a_feltNow, .ref a_last, .ref a_kept, .int m_hasSeconds, .int m_hasTurned, .int m_hasRound, .ref a_hasFeels, .ref a_isOn, .int m_firstAct, .long m_meanTop, .long m_meanBy, .ref a_order, .int m_rowMany, .int m_newSteps])), (a_words, .inl (cA.1 1, 105, .inr (.inl g_words)))]) 0 0 := by
  have hk_m1 : ((-1) : Int32).toInt = (-1) := by decide +kernel
  have hk_0 : (0 : Int32).toInt = 0 := by decide +kernel
  have hk_1 : (1 : Int32).toInt = 1 := by decide +kernel
  have hk_100 : (100 : Int32).toInt = 100 := by decide +kernel
  refine z_start2i (own := RX12) (by decide) (Nat.le_of_ble_eq_true rfl) rfl ?_
  intro p e s m args below meth c A ls Q hx hb hml hts hown hK hE hT hP hD hS hA hl hret
  have hl : lv_has ls 5 [(0, .ref h0), (1, .int 4), (2, .int 16), (3, .int nn)] := hl
  refine lv_iconst (v := 0) hx hb dX12_named_0 (by decide) ?_
  refine lv_istore (lv' := [(4, .int 0), (0, .ref h0), (1, .int 4), (2, .int 16), (3, .int nn)]) hx hb dX12_named_1 hl (by decide) rfl (fun ls hl => ?_)
  have hlp_77 : ∀ (n_L3a : Nat) (v_58 : Int32) (H : Heap) (locs : List Loc) (ls : Array Slot), (2147483647 - v_58.toInt).toNat < n_L3a → (0 ≤ v_58.toInt ∧ v_58.toInt ≤ 5) → (F_r_named_4_16 m_word g_words nn = F_r_named_4_16_L3a m_word g_words nn n_L3a v_58) → va_P G vwCl [(h0, .inr (12, [.int m_status, .int m_thrown, .long m_above, .long m_under, .ref a_traySort, .ref a_trayMany, .ref a_numbers, .ref a_tape, .int m_taped, .int m_textEnd, .int m_faultKind, .int m_faultAt, .int m_bad, .int m_badAt, .int m_token, .int m_at, .int m_behind, .int m_number, .int m_letters, .long m_word, .ref a_c, .ref a_words, .int m_markMany, .ref a_there, .ref a_tried, .ref a_best, .ref a_found, .int m_thereMany, .int m_foundMany, .int m_orderHow, .int m_orderRing, .int m_orderMany, .int m_hasBest, .long m_bestTop, .long m_bestBy, .ref a_weights, .ref a_shared, .int m_random, .int m_truePlace, .int m_trueWay, .int m_seconds, .int m_done, .int m_feelings, .int m_tries, .int m_leftOver, .int m_playDoor, .int m_playRing, .int m_isOpen, .int m_isOver, .int m_wasTried, .int m_hasPlayed, .ref a_feltNow, .ref a_last, .ref a_kept, .int m_hasSeconds, .int m_hasTurned, .int m_hasRound, .ref a_hasFeels, .ref a_isOn, .int m_firstAct, .long m_meanTop, .long m_meanBy, .ref a_order, .int m_rowMany, .int m_newSteps])), (a_words, .inl (cA.1 1, 105, .inr (.inl g_words)))] H → va_D A [(h0, .inr (12, [.int m_status, .int m_thrown, .long m_above, .long m_under, .ref a_traySort, .ref a_trayMany, .ref a_numbers, .ref a_tape, .int m_taped, .int m_textEnd, .int m_faultKind, .int m_faultAt, .int m_bad, .int m_badAt, .int m_token, .int m_at, .int m_behind, .int m_number, .int m_letters, .long m_word, .ref a_c, .ref a_words, .int m_markMany, .ref a_there, .ref a_tried, .ref a_best, .ref a_found, .int m_thereMany, .int m_foundMany, .int m_orderHow, .int m_orderRing, .int m_orderMany, .int m_hasBest, .long m_bestTop, .long m_bestBy, .ref a_weights, .ref a_shared, .int m_random, .int m_truePlace, .int m_trueWay, .int m_seconds, .int m_done, .int m_feelings, .int m_tries, .int m_leftOver, .int m_playDoor, .int m_playRing, .int m_isOpen, .int m_isOver, .int m_wasTried, .int m_hasPlayed, .ref a_feltNow, .ref a_last, .ref a_kept, .int m_hasSeconds, .int m_hasTurned, .int m_hasRound, .ref a_hasFeels, .ref a_isOn, .int m_firstAct, .long m_meanTop, .long m_meanBy, .ref a_order, .int m_rowMany, .int m_newSteps])), (a_words, .inl (cA.1 1, 105, .inr (.inl g_words)))] → va_S A s.heap H locs → lv_has ls 5 [(0, .ref h0), (1, .int 4), (2, .int 16), (3, .int nn), (4, .int v_58)] → W p l e ({ frames := 0, cells := 0, slots := 0, locals := 0 }) s m args below meth c H locs 0 0 Q (F0 m 3 ls []) := by
    intro n_L3a
    induction n_L3a with
    | zero =>
      intro v_58 H locs ls hmu_hlp_77 hr_v_58 hF_L3a hP hD hS hl
      exact absurd hmu_hlp_77 (Nat.not_lt_zero _)
    | succ n_L3a ih_78 =>
      intro v_58 H locs ls hmu_hlp_77 hr_v_58 hF_L3a hP hD hS hl
      refine lv_iload hx hb dX12_named_3 (lv_at hl 4 rfl) ?_
      refine lv_iload_n hx hb dX12_named_5 rfl (lv_at hl 3 rfl) ?_
      refine lv_icmp_ge (tgt := 40) hx hb dX12_named_6 (by decide) (fun c_79 => ?_) (fun c_79 => ?_)
      · have b_80 := z_fgeT c_79
        refine lv_iconst (v := (-1)) hx hb dX12_named_40 (by decide) ?_
        have hpost : ((-1) ≤ ((-1) : Int32).toInt ∧ ((-1) : Int32).toInt ≤ 4) ∧ (((-1) : Int32).toInt < nn.toInt) := ⟨(by decide +kernel), (by omega)⟩
        have hX_81 : F_r_named_4_16 m_word g_words nn = ((-1 : Int32) : Int32) := by
          refine hF_L3a.trans ?_
          refine (F_r_named_4_16_L3a_s ..).trans ?_
          refine (if_pos c_79).trans ?_
          exact rfl
        exact hret _ _ _ _ _ _ () [0, 1] hP hD hS rfl (by decide) dX12_named_41 ⟨(congrArg (fun z9 => z9) hX_81).symm, hpost⟩
      · have b_82 := z_fltF c_79
        refine lv_aload_n hx hb dX12_named_9 rfl (lv_at hl 0 rfl) ?_
        refine va_get (D := G) (ci := 12) (v := .ref a_words) (C := RX12) (T := TX12) (N := 65) hx hb hts inT12 hown hK hP 0 rfl rfl 21 (by decide) (hts _ tw_1906) (fun _ h9 => h9) rfl dX12_named_10 ?_
        refine lv_bipush (v := 21) hx hb dX12_named_13 (by decide) ?_
        refine lv_iload_n hx hb dX12_named_15 rfl (lv_at hl 1 rfl) ?_
        refine lv_imul hx hb dX12_named_16 ?_
        refine z_topi (y := 84) (by decide +kernel) ?_
        refine lv_iload_n hx hb dX12_named_17 rfl (lv_at hl 2 rfl) ?_
        refine lv_iadd hx hb dX12_named_18 ?_
        refine z_topi (y := 100) (by decide +kernel) ?_
        refine lv_iload hx hb dX12_named_19 (lv_at hl 4 rfl) ?_
        refine lv_iadd hx hb dX12_named_21 ?_
        refine lv_topi (fun x_83 he_x_83 => ?_)
        have hq_x_83 := z_addq he_x_83 hk_100 (rfl : v_58.toInt = _) (by omega) (by omega)
        refine va_lald hx hb hK hP 1 1 rfl rfl (z_inN (by omega) (by omega)) dX12_named_22 ?_
        refine lv_topl (fun x_84 he_x_84 => ?_)
        refine lv_aload_n hx hb dX12_named_23 rfl (lv_at hl 0 rfl) ?_
        refine va_get (D := G) (ci := 12) (v := .long m_word) (C := RX12) (T := TX12) (N := 65) hx hb hts inT12 hown hK hP 0 rfl rfl 19 (by decide) (hts _ tw_1904) (fun _ h9 => h9) rfl dX12_named_24 ?_
        refine W.lcmp hx hb dX12_named_27 ?_
        refine lv_if_ne (tgt := 34) hx hb dX12_named_28 (by decide) (fun c_85 => ?_) (fun c_85 => ?_)
        · have b_86 := z_fneTl c_85
          obtain ⟨x_87, he_x_87⟩ : ∃ z : Int32, z = v_58 + 1 := ⟨_, rfl⟩
          have hq_x_87 := z_addq he_x_87 (rfl : v_58.toInt = _) hk_1 (by omega) (by omega)
          refine lv_iinc (v := x_87) (lv' := [(4, .int x_87), (0, .ref h0), (1, .int 4), (2, .int 16), (3, .int nn)]) hx hb dX12_named_34 hl (k := 4) rfl ((z_ofi (by decide +kernel)).trans he_x_87.symm) (by decide) rfl (fun ls hl => ?_)
          refine lv_goto (tgt := 3) hx hb dX12_named_37 (by decide) ?_
          have hX_88 : F_r_named_4_16 m_word g_words nn = F_r_named_4_16_L3a m_word g_words nn n_L3a x_87 := by
            refine hF_L3a.trans ?_
            refine (F_r_named_4_16_L3a_s ..).trans ?_
            refine (if_neg c_79).trans ?_
            try (extract_lets -merge -useContext +onlyGivenNames y9; have e9 : x_83 = y9 := (by first | exact he_x_83 | exact he_x_83.symm); clear_value y9; subst e9)
            try (extract_lets -merge -useContext +onlyGivenNames y9; have e9 : x_84 = y9 := (by first | exact he_x_84 | exact he_x_84.symm); clear_value y9; subst e9)
            refine (if_neg c_85).trans ?_
            try (extract_lets -merge -useContext +onlyGivenNames y9; have e9 : x_87 = y9 := (by first | exact he_x_87 | exact he_x_87.symm); clear_value y9; subst e9)
            exact rfl
          exact ih_78 x_87 H locs ls (by omega) (by omega) hX_88 hP hD hS (lv_sub hl [1, 2, 3, 4, 0] rfl)
        · have b_89 := z_feqFl c_85
          refine lv_iload hx hb dX12_named_31 (lv_at hl 4 rfl) ?_
          have hpost : ((-1) ≤ v_58.toInt ∧ v_58.toInt ≤ 4) ∧ (v_58.toInt < nn.toInt) := ⟨(by omega), (by omega)⟩
          have hX_90 : F_r_named_4_16 m_word g_words nn = (v_58 : Int32) := by
            refine hF_L3a.trans ?_
            refine (F_r_named_4_16_L3a_s ..).trans ?_
            refine (if_neg c_79).trans ?_
            try (extract_lets -merge -useContext +onlyGivenNames y9; have e9 : x_83 = y9 := (by first | exact he_x_83 | exact he_x_83.symm); clear_value y9; subst e9)
            try (extract_lets -merge -useContext +onlyGivenNames y9; have e9 : x_84 = y9 := (by first | exact he_x_84 | exact he_x_84.symm); clear_value y9; subst e9)
            refine (if_pos c_85).trans ?_
            exact rfl
          exact hret _ _ _ _ _ _ () [0, 1] hP hD hS rfl (by decide) dX12_named_33 ⟨(congrArg (fun z9 => z9) hX_90).symm, hpost⟩
  have hX_91 : F_r_named_4_16 m_word g_words nn = F_r_named_4_16_L3a m_word g_words nn ((2147483647 - (0 : Int32).toInt).toNat + 1) (0 : Int32) := by
    refine (F_r_named_4_16_s ..).trans ?_
    exact rfl
  exact hlp_77 ((2147483647 - (0 : Int32).toInt).toNat + 1) 0 _ _ _ (Nat.lt_succ_self _) (by decide +kernel) hX_91 hP hD hS (lv_sub hl [1, 2, 3, 4, 0] rfl)
set_option maxHeartbeats 40000000 in
set_option maxRecDepth 100000 in
theorem r_isTaken (l : Launch) (G : va_G) (cA : zCA) (h0 : Nat) (m_status : Int32) (m_thrown : Int32) (m_above : Int64) (m_under : Int64) (a_traySort : Nat) (a_trayMany : Nat) (a_numbers : Nat) (a_tape : Nat) (m_taped : Int32) (m_textEnd : Int32) (m_faultKind : Int32) (m_faultAt : Int32) (m_bad : Int32) (m_badAt : Int32) (m_token : Int32) (m_at : Int32) (m_behind : Int32) (m_number : Int32) (m_letters : Int32) (m_word : Int64) (a_c : Nat) (a_words : Nat) (m_markMany : Int32) (a_there : Nat) (a_tried : Nat) (a_best : Nat) (a_found : Nat) (m_thereMany : Int32) (m_foundMany : Int32) (m_orderHow : Int32) (m_orderRing : Int32) (m_orderMany : Int32) (m_hasBest : Int32) (m_bestTop : Int64) (m_bestBy : Int64) (a_weights : Nat) (a_shared : Nat) (m_random : Int32) (m_truePlace : Int32) (m_trueWay : Int32) (m_seconds : Int32) (m_done : Int32) (m_feelings : Int32) (m_tries : Int32) (m_leftOver : Int32) (m_playDoor : Int32) (m_playRing : Int32) (m_isOpen : Int32) (m_isOver : Int32) (m_wasTried : Int32) (m_hasPlayed : Int32) (a_feltNow : Nat) (a_last : Nat) (a_kept : Nat) (m_hasSeconds : Int32) (m_hasTurned : Int32) (m_hasRound : Int32) (a_hasFeels : Nat) (a_isOn : Nat) (m_firstAct : Int32) (m_meanTop : Int64) (m_meanBy : Int64) (a_order : Nat) (m_rowMany : Int32) (m_newSteps : Int32) (g_c : Nat → Int32) (g_words : Nat → Int64) (hC_g_c : zC g_c) : zCi l yX12_isTaken cX12_isTaken 1 (some .boolean) ({ frames := 1, cells := 0, slots := 0, locals := 24 }) G cA [.ref h0] [(h0, .inr (12, [.int m_status, .int m_thrown, .long m_above, .long m_under, .ref a_traySort, .ref a_trayMany, .ref a_numbers, .ref a_tape, .int m_taped, .int m_textEnd, .int m_faultKind, .int m_faultAt, .int m_bad, .int m_badAt, .int m_token, .int m_at, .int m_behind, .int m_number, .int m_letters, .long m_word, .ref a_c, .ref a_words, .int m_markMany, .ref a_there, .ref a_tried, .ref a_best, .ref a_found, .int m_thereMany, .int m_foundMany, .int m_orderHow, .int m_orderRing, .int m_orderMany, .int m_hasBest, .long m_bestTop, .long m_bestBy, .ref a_weights, .ref a_shared, .int m_random, .int m_truePlace, .int m_trueWay, .int m_seconds, .int m_done, .int m_feelings, .int m_tries, .int m_leftOver, .int m_playDoor, .int m_playRing, .int m_isOpen, .int m_isOver, .int m_wasTried, .int m_hasPlayed, .ref a_feltNow, .ref a_last, .ref a_kept, .int m_hasSeconds, .int m_hasTurned, .int m_hasRound, .ref a_hasFeels, .ref a_isOn, .int m_firstAct, .long m_meanTop, .long m_meanBy, .ref a_order, .int m_rowMany, .int m_newSteps])), (a_c, .inl (cA.1 0, 1825, .inl g_c)), (a_words, .inl (cA.1 1, 105, .inr (.inl g_words)))] (S := Unit) (fun (r : Int32) (u : Unit) => (r = (F_r_isTaken m_word g_c g_words)) ∧ ((r = 0 ∧ True) ∨ (r = 1 ∧ True))) (fun (u : Unit) => [(h0, .inr (12, [.int m_status, .int m_thrown, .long m_above, .long m_under, .ref a_traySort, .ref a_trayMany, .ref a_numbers, .ref a_tape, .int m_taped, .int m_textEnd, .int m_faultKind, .int m_faultAt, .int m_bad, .int m_badAt, .int m_token, .int m_at, .int m_behind, .int m_number, .int m_letters, .long m_word, .ref a_c, .ref a_words, .int m_markMany, .ref a_there, .ref a_tried, .ref a_best, .ref a_found, .int m_thereMany, .int m_foundMany, .int m_orderHow, .int m_orderRing, .int m_orderMany, .int m_hasBest, .long m_bestTop, .long m_bestBy, .ref a_weights, .ref a_shared, .int m_random, .int m_truePlace, .int m_trueWay, .int m_seconds, .int m_done, .int m_feelings, .int m_tries, .int m_leftOver, .int m_playDoor, .int m_playRing, .int m_isOpen, .int m_isOver, .int m_wasTried, .int m_hasPlayed, .ref a_feltNow, .ref a_last, .ref a_kept, .int m_hasSeconds, .int m_hasTurned, .int m_hasRound, .ref a_hasFeels, .ref a_isOn, .int m_firstAct, .long m_meanTop, .long m_meanBy, .ref a_order, .int m_rowMany, .int m_newSteps])), (a_c, .inl (cA.1 0, 1825, .inl g_c)), (a_words, .inl (cA.1 1, 105, .inr (.inl g_words)))]) 0 0 := by
  have hk_0 : (0 : Int32).toInt = 0 := by decide +kernel
  have hk_3 : (3 : Int32).toInt = 3 := by decide +kernel
  have hk_4 : (4 : Int32).toInt = 4 := by decide +kernel
  have hk_13 : (13 : Int32).toInt = 13 := by decide +kernel
  have hk_16 : (16 : Int32).toInt = 16 := by decide +kernel
  refine z_start2z (own := RX12) (by decide) (Nat.le_of_ble_eq_true rfl) rfl ?_
  intro p e s m args below meth c A ls Q hx hb hml hts hown hK hE hT hP hD hS hA hl hret
  have hl : lv_has ls 1 [(0, .ref h0)] := hl
  refine lv_aload_n hx hb dX12_isTaken_0 rfl (lv_at hl 0 rfl) ?_
  refine lv_iconst (v := 4) hx hb dX12_isTaken_1 (by decide) ?_
  refine lv_iconst (v := 0) hx hb dX12_isTaken_2 (by decide) ?_
  refine lv_aload_n hx hb dX12_isTaken_3 rfl (lv_at hl 0 rfl) ?_
  refine va_get (D := G) (ci := 12) (v := .ref a_c) (C := RX12) (T := TX12) (N := 65) hx hb hts inT12 hown hK hP 0 rfl rfl 20 (by decide) (hts _ tw_1905) (fun _ h9 => h9) rfl dX12_isTaken_4 ?_
  refine lv_sipush (v := 1460) hx hb dX12_isTaken_7 (by decide) ?_
  refine va_iald hx hb hK hP 1 0 rfl rfl (z_in (i := 1460) (n := 1825) (by decide +kernel) (by decide +kernel)) dX12_isTaken_10 ?_
  refine lv_topi (fun x_1 he_x_1 => ?_)
  have hr_x_1 := z_ctk hC_g_c he_x_1 (k := 1460) (lo := 0) (hi := 3) (by decide +kernel) (by decide +kernel) (by decide +kernel)
  refine z_callVi (As := [.int 4, .int 0, .int x_1]) (rest := []) (wr := [(a_c, .inl (cA.1 0, 1825, .inl g_c))]) ⟨hx, hb, hml, hown, hts⟩ hK hE hT hP hD hS hA (r_named_4_0 l G cA h0 m_status m_thrown m_above m_under a_traySort a_trayMany a_numbers a_tape m_taped m_textEnd m_faultKind m_faultAt m_bad m_badAt m_token m_at m_behind m_number m_letters m_word a_c a_words m_markMany a_there a_tried a_best a_found m_thereMany m_foundMany m_orderHow m_orderRing m_orderMany m_hasBest m_bestTop m_bestBy a_weights a_shared m_random m_truePlace m_trueWay m_seconds m_done m_feelings m_tries m_leftOver m_playDoor m_playRing m_isOpen m_isOver m_wasTried m_hasPlayed a_feltNow a_last a_kept m_hasSeconds m_hasTurned m_hasRound a_hasFeels a_isOn m_firstAct m_meanTop m_meanBy a_order m_rowMany m_newSteps g_words x_1 hr_x_1) lk_RX12_196 ⟨rfl, rfl⟩ ⟨Nat.le_of_ble_eq_true rfl, Nat.le_of_ble_eq_true rfl⟩ 12 rfl rfl rfl [0, 2] [1] rfl rfl (by decide) rfl hl.1 rfl (lv_room (Nat.le_of_ble_eq_true rfl)) dX12_isTaken_11 ⟨Nat.le_of_ble_eq_true rfl, Nat.le_of_ble_eq_true rfl⟩ (fun r_2 u_3 H locs hw hP hD hS => ?_)
  obtain ⟨he_r_2, hw⟩ := hw
  obtain ⟨hr_r_2, hf_5⟩ := hw
  refine lv_if_ge (tgt := 70) hx hb dX12_isTaken_14 (by decide) (fun c_6 => ?_) (fun c_6 => ?_)
  · have b_7 := z_fgeT c_6
    refine lv_iconst (v := 1) hx hb dX12_isTaken_70 (by decide) ?_
    refine lv_goto (tgt := 75) hx hb dX12_isTaken_71 (by decide) ?_
    have hpost : ((1 : Int32) = 0 ∧ True) ∨ ((1 : Int32) = 1 ∧ True) := (Or.inr ⟨rfl, trivial⟩)
    have hX_8 : F_r_isTaken m_word g_c g_words = ((1 : Int32) : Int32) := by
      refine (F_r_isTaken_s ..).trans ?_
      try (extract_lets -merge -useContext +onlyGivenNames y9; have e9 : x_1 = y9 := (by first | exact he_x_1 | exact he_x_1.symm); clear_value y9; subst e9)
      extract_lets -merge -useContext +onlyGivenNames w9 y9; have e9 : r_2 = w9 := he_r_2; clear_value w9; subst e9
      refine (if_pos c_6).trans ?_
      exact rfl
    exact hret _ _ _ _ _ _ () [1, 0, 2] hP hD hS rfl (by decide) dX12_isTaken_75 (Or.inr rfl) ⟨(congrArg (fun z9 => z9) hX_8).symm, hpost⟩
  · have b_9 := z_fltF c_6
    refine lv_aload_n hx hb dX12_isTaken_17 rfl (lv_at hl 0 rfl) ?_
    refine lv_iconst (v := 4) hx hb dX12_isTaken_18 (by decide) ?_
    refine lv_iconst (v := 3) hx hb dX12_isTaken_19 (by decide) ?_
    refine lv_aload_n hx hb dX12_isTaken_20 rfl (lv_at hl 0 rfl) ?_
    refine va_get (D := G) (ci := 12) (v := .ref a_c) (C := RX12) (T := TX12) (N := 65) hx hb hts inT12 hown hK hP 1 rfl rfl 20 (by decide) (hts _ tw_1905) (fun _ h9 => h9) rfl dX12_isTaken_21 ?_
    refine lv_sipush (v := 1461) hx hb dX12_isTaken_24 (by decide) ?_
    refine va_iald hx hb hK hP 0 0 rfl rfl (z_in (i := 1461) (n := 1825) (by decide +kernel) (by decide +kernel)) dX12_isTaken_27 ?_
    refine lv_topi (fun x_10 he_x_10 => ?_)
    have hr_x_10 := z_ctk hC_g_c he_x_10 (k := 1461) (lo := 0) (hi := 10) (by decide +kernel) (by decide +kernel) (by decide +kernel)
    refine z_callVi (As := [.int 4, .int 3, .int x_10]) (rest := []) (wr := [(a_c, .inl (cA.1 0, 1825, .inl g_c))]) ⟨hx, hb, hml, hown, hts⟩ hK hE hT hP hD hS hA (r_named_4_3 l G cA h0 m_status m_thrown m_above m_under a_traySort a_trayMany a_numbers a_tape m_taped m_textEnd m_faultKind m_faultAt m_bad m_badAt m_token m_at m_behind m_number m_letters m_word a_c a_words m_markMany a_there a_tried a_best a_found m_thereMany m_foundMany m_orderHow m_orderRing m_orderMany m_hasBest m_bestTop m_bestBy a_weights a_shared m_random m_truePlace m_trueWay m_seconds m_done m_feelings m_tries m_leftOver m_playDoor m_playRing m_isOpen m_isOver m_wasTried m_hasPlayed a_feltNow a_last a_kept m_hasSeconds m_hasTurned m_hasRound a_hasFeels a_isOn m_firstAct m_meanTop m_meanBy a_order m_rowMany m_newSteps g_words x_10 hr_x_10) lk_RX12_196 ⟨rfl, rfl⟩ ⟨Nat.le_of_ble_eq_true rfl, Nat.le_of_ble_eq_true rfl⟩ 12 rfl rfl rfl [1, 2] [0] rfl rfl (by decide) rfl hl.1 rfl (lv_room (Nat.le_of_ble_eq_true rfl)) dX12_isTaken_28 ⟨Nat.le_of_ble_eq_true rfl, Nat.le_of_ble_eq_true rfl⟩ (fun r_11 u_12 H locs hw hP hD hS => ?_)
    obtain ⟨he_r_11, hw⟩ := hw
    obtain ⟨hr_r_11, hf_14⟩ := hw
    refine lv_if_ge (tgt := 70) hx hb dX12_isTaken_31 (by decide) (fun c_15 => ?_) (fun c_15 => ?_)
    · have b_16 := z_fgeT c_15
      refine lv_iconst (v := 1) hx hb dX12_isTaken_70 (by decide) ?_
      refine lv_goto (tgt := 75) hx hb dX12_isTaken_71 (by decide) ?_
      have hpost : ((1 : Int32) = 0 ∧ True) ∨ ((1 : Int32) = 1 ∧ True) := (Or.inr ⟨rfl, trivial⟩)
      have hX_17 : F_r_isTaken m_word g_c g_words = ((1 : Int32) : Int32) := by
        refine (F_r_isTaken_s ..).trans ?_
        try (extract_lets -merge -useContext +onlyGivenNames y9; have e9 : x_1 = y9 := (by first | exact he_x_1 | exact he_x_1.symm); clear_value y9; subst e9)
        extract_lets -merge -useContext +onlyGivenNames w9 y9; have e9 : r_2 = w9 := he_r_2; clear_value w9; subst e9
        refine (if_neg c_6).trans ?_
        try (extract_lets -merge -useContext +onlyGivenNames y9; have e9 : x_10 = y9 := (by first | exact he_x_10 | exact he_x_10.symm); clear_value y9; subst e9)
        extract_lets -merge -useContext +onlyGivenNames w9 y9; have e9 : r_11 = w9 := he_r_11; clear_value w9; subst e9
        refine (if_pos c_15).trans ?_
        exact rfl
      exact hret _ _ _ _ _ _ () [1, 0, 2] hP hD hS rfl (by decide) dX12_isTaken_75 (Or.inr rfl) ⟨(congrArg (fun z9 => z9) hX_17).symm, hpost⟩
    · have b_18 := z_fltF c_15
      refine lv_aload_n hx hb dX12_isTaken_34 rfl (lv_at hl 0 rfl) ?_
      refine lv_iconst (v := 4) hx hb dX12_isTaken_35 (by decide) ?_
      refine lv_bipush (v := 13) hx hb dX12_isTaken_36 (by decide) ?_
      refine lv_aload_n hx hb dX12_isTaken_38 rfl (lv_at hl 0 rfl) ?_
      refine va_get (D := G) (ci := 12) (v := .ref a_c) (C := RX12) (T := TX12) (N := 65) hx hb hts inT12 hown hK hP 1 rfl rfl 20 (by decide) (hts _ tw_1905) (fun _ h9 => h9) rfl dX12_isTaken_39 ?_
      refine lv_sipush (v := 1462) hx hb dX12_isTaken_42 (by decide) ?_
      refine va_iald hx hb hK hP 0 0 rfl rfl (z_in (i := 1462) (n := 1825) (by decide +kernel) (by decide +kernel)) dX12_isTaken_45 ?_
      refine lv_topi (fun x_19 he_x_19 => ?_)
      have hr_x_19 := z_ctk hC_g_c he_x_19 (k := 1462) (lo := 0) (hi := 3) (by decide +kernel) (by decide +kernel) (by decide +kernel)
      refine z_callVi (As := [.int 4, .int 13, .int x_19]) (rest := []) (wr := [(a_c, .inl (cA.1 0, 1825, .inl g_c))]) ⟨hx, hb, hml, hown, hts⟩ hK hE hT hP hD hS hA (r_named_4_13 l G cA h0 m_status m_thrown m_above m_under a_traySort a_trayMany a_numbers a_tape m_taped m_textEnd m_faultKind m_faultAt m_bad m_badAt m_token m_at m_behind m_number m_letters m_word a_c a_words m_markMany a_there a_tried a_best a_found m_thereMany m_foundMany m_orderHow m_orderRing m_orderMany m_hasBest m_bestTop m_bestBy a_weights a_shared m_random m_truePlace m_trueWay m_seconds m_done m_feelings m_tries m_leftOver m_playDoor m_playRing m_isOpen m_isOver m_wasTried m_hasPlayed a_feltNow a_last a_kept m_hasSeconds m_hasTurned m_hasRound a_hasFeels a_isOn m_firstAct m_meanTop m_meanBy a_order m_rowMany m_newSteps g_words x_19 hr_x_19) lk_RX12_196 ⟨rfl, rfl⟩ ⟨Nat.le_of_ble_eq_true rfl, Nat.le_of_ble_eq_true rfl⟩ 12 rfl rfl rfl [1, 2] [0] rfl rfl (by decide) rfl hl.1 rfl (lv_room (Nat.le_of_ble_eq_true rfl)) dX12_isTaken_46 ⟨Nat.le_of_ble_eq_true rfl, Nat.le_of_ble_eq_true rfl⟩ (fun r_20 u_21 H locs hw hP hD hS => ?_)
      obtain ⟨he_r_20, hw⟩ := hw
      obtain ⟨hr_r_20, hf_23⟩ := hw
      refine lv_if_ge (tgt := 70) hx hb dX12_isTaken_49 (by decide) (fun c_24 => ?_) (fun c_24 => ?_)
      · have b_25 := z_fgeT c_24
        refine lv_iconst (v := 1) hx hb dX12_isTaken_70 (by decide) ?_
        refine lv_goto (tgt := 75) hx hb dX12_isTaken_71 (by decide) ?_
        have hpost : ((1 : Int32) = 0 ∧ True) ∨ ((1 : Int32) = 1 ∧ True) := (Or.inr ⟨rfl, trivial⟩)
        have hX_26 : F_r_isTaken m_word g_c g_words = ((1 : Int32) : Int32) := by
          refine (F_r_isTaken_s ..).trans ?_
          try (extract_lets -merge -useContext +onlyGivenNames y9; have e9 : x_1 = y9 := (by first | exact he_x_1 | exact he_x_1.symm); clear_value y9; subst e9)
          extract_lets -merge -useContext +onlyGivenNames w9 y9; have e9 : r_2 = w9 := he_r_2; clear_value w9; subst e9
          refine (if_neg c_6).trans ?_
          try (extract_lets -merge -useContext +onlyGivenNames y9; have e9 : x_10 = y9 := (by first | exact he_x_10 | exact he_x_10.symm); clear_value y9; subst e9)
          extract_lets -merge -useContext +onlyGivenNames w9 y9; have e9 : r_11 = w9 := he_r_11; clear_value w9; subst e9
          refine (if_neg c_15).trans ?_
          try (extract_lets -merge -useContext +onlyGivenNames y9; have e9 : x_19 = y9 := (by first | exact he_x_19 | exact he_x_19.symm); clear_value y9; subst e9)
          extract_lets -merge -useContext +onlyGivenNames w9 y9; have e9 : r_20 = w9 := he_r_20; clear_value w9; subst e9
          refine (if_pos c_24).trans ?_
          exact rfl
        exact hret _ _ _ _ _ _ () [1, 0, 2] hP hD hS rfl (by decide) dX12_isTaken_75 (Or.inr rfl) ⟨(congrArg (fun z9 => z9) hX_26).symm, hpost⟩
      · have b_27 := z_fltF c_24
        refine lv_aload_n hx hb dX12_isTaken_52 rfl (lv_at hl 0 rfl) ?_
        refine lv_iconst (v := 4) hx hb dX12_isTaken_53 (by decide) ?_
        refine lv_bipush (v := 16) hx hb dX12_isTaken_54 (by decide) ?_
        refine lv_aload_n hx hb dX12_isTaken_56 rfl (lv_at hl 0 rfl) ?_
        refine va_get (D := G) (ci := 12) (v := .ref a_c) (C := RX12) (T := TX12) (N := 65) hx hb hts inT12 hown hK hP 1 rfl rfl 20 (by decide) (hts _ tw_1905) (fun _ h9 => h9) rfl dX12_isTaken_57 ?_
        refine lv_sipush (v := 1463) hx hb dX12_isTaken_60 (by decide) ?_
        refine va_iald hx hb hK hP 0 0 rfl rfl (z_in (i := 1463) (n := 1825) (by decide +kernel) (by decide +kernel)) dX12_isTaken_63 ?_
        refine lv_topi (fun x_28 he_x_28 => ?_)
        have hr_x_28 := z_ctk hC_g_c he_x_28 (k := 1463) (lo := 0) (hi := 5) (by decide +kernel) (by decide +kernel) (by decide +kernel)
        refine z_callVi (As := [.int 4, .int 16, .int x_28]) (rest := []) (wr := [(a_c, .inl (cA.1 0, 1825, .inl g_c))]) ⟨hx, hb, hml, hown, hts⟩ hK hE hT hP hD hS hA (r_named_4_16 l G cA h0 m_status m_thrown m_above m_under a_traySort a_trayMany a_numbers a_tape m_taped m_textEnd m_faultKind m_faultAt m_bad m_badAt m_token m_at m_behind m_number m_letters m_word a_c a_words m_markMany a_there a_tried a_best a_found m_thereMany m_foundMany m_orderHow m_orderRing m_orderMany m_hasBest m_bestTop m_bestBy a_weights a_shared m_random m_truePlace m_trueWay m_seconds m_done m_feelings m_tries m_leftOver m_playDoor m_playRing m_isOpen m_isOver m_wasTried m_hasPlayed a_feltNow a_last a_kept m_hasSeconds m_hasTurned m_hasRound a_hasFeels a_isOn m_firstAct m_meanTop m_meanBy a_order m_rowMany m_newSteps g_words x_28 hr_x_28) lk_RX12_196 ⟨rfl, rfl⟩ ⟨Nat.le_of_ble_eq_true rfl, Nat.le_of_ble_eq_true rfl⟩ 12 rfl rfl rfl [1, 2] [0] rfl rfl (by decide) rfl hl.1 rfl (lv_room (Nat.le_of_ble_eq_true rfl)) dX12_isTaken_64 ⟨Nat.le_of_ble_eq_true rfl, Nat.le_of_ble_eq_true rfl⟩ (fun r_29 u_30 H locs hw hP hD hS => ?_)
        obtain ⟨he_r_29, hw⟩ := hw
        obtain ⟨hr_r_29, hf_32⟩ := hw
        refine lv_if_lt (tgt := 74) hx hb dX12_isTaken_67 (by decide) (fun c_33 => ?_) (fun c_33 => ?_)
        · have b_34 := z_fltT c_33
          refine lv_iconst (v := 0) hx hb dX12_isTaken_74 (by decide) ?_
          have hpost : ((0 : Int32) = 0 ∧ True) ∨ ((0 : Int32) = 1 ∧ True) := (Or.inl ⟨rfl, trivial⟩)
          have hX_35 : F_r_isTaken m_word g_c g_words = ((0 : Int32) : Int32) := by
            refine (F_r_isTaken_s ..).trans ?_
            try (extract_lets -merge -useContext +onlyGivenNames y9; have e9 : x_1 = y9 := (by first | exact he_x_1 | exact he_x_1.symm); clear_value y9; subst e9)
            extract_lets -merge -useContext +onlyGivenNames w9 y9; have e9 : r_2 = w9 := he_r_2; clear_value w9; subst e9
            refine (if_neg c_6).trans ?_
            try (extract_lets -merge -useContext +onlyGivenNames y9; have e9 : x_10 = y9 := (by first | exact he_x_10 | exact he_x_10.symm); clear_value y9; subst e9)
            extract_lets -merge -useContext +onlyGivenNames w9 y9; have e9 : r_11 = w9 := he_r_11; clear_value w9; subst e9
            refine (if_neg c_15).trans ?_
            try (extract_lets -merge -useContext +onlyGivenNames y9; have e9 : x_19 = y9 := (by first | exact he_x_19 | exact he_x_19.symm); clear_value y9; subst e9)
            extract_lets -merge -useContext +onlyGivenNames w9 y9; have e9 : r_20 = w9 := he_r_20; clear_value w9; subst e9
            refine (if_neg c_24).trans ?_
            try (extract_lets -merge -useContext +onlyGivenNames y9; have e9 : x_28 = y9 := (by first | exact he_x_28 | exact he_x_28.symm); clear_value y9; subst e9)
            extract_lets -merge -useContext +onlyGivenNames w9 y9; have e9 : r_29 = w9 := he_r_29; clear_value w9; subst e9
            refine (if_pos c_33).trans ?_
            exact rfl
          exact hret _ _ _ _ _ _ () [1, 0, 2] hP hD hS rfl (by decide) dX12_isTaken_75 (Or.inl rfl) ⟨(congrArg (fun z9 => z9) hX_35).symm, hpost⟩
        · have b_36 := z_fgeF c_33
          refine lv_iconst (v := 1) hx hb dX12_isTaken_70 (by decide) ?_
          refine lv_goto (tgt := 75) hx hb dX12_isTaken_71 (by decide) ?_
          have hpost : ((1 : Int32) = 0 ∧ True) ∨ ((1 : Int32) = 1 ∧ True) := (Or.inr ⟨rfl, trivial⟩)
          have hX_37 : F_r_isTaken m_word g_c g_words = ((1 : Int32) : Int32) := by
            refine (F_r_isTaken_s ..).trans ?_
            try (extract_lets -merge -useContext +onlyGivenNames y9; have e9 : x_1 = y9 := (by first | exact he_x_1 | exact he_x_1.symm); clear_value y9; subst e9)
            extract_lets -merge -useContext +onlyGivenNames w9 y9; have e9 : r_2 = w9 := he_r_2; clear_value w9; subst e9
            refine (if_neg c_6).trans ?_
            try (extract_lets -merge -useContext +onlyGivenNames y9; have e9 : x_10 = y9 := (by first | exact he_x_10 | exact he_x_10.symm); clear_value y9; subst e9)
            extract_lets -merge -useContext +onlyGivenNames w9 y9; have e9 : r_11 = w9 := he_r_11; clear_value w9; subst e9
            refine (if_neg c_15).trans ?_
            try (extract_lets -merge -useContext +onlyGivenNames y9; have e9 : x_19 = y9 := (by first | exact he_x_19 | exact he_x_19.symm); clear_value y9; subst e9)
            extract_lets -merge -useContext +onlyGivenNames w9 y9; have e9 : r_20 = w9 := he_r_20; clear_value w9; subst e9
            refine (if_neg c_24).trans ?_
            try (extract_lets -merge -useContext +onlyGivenNames y9; have e9 : x_28 = y9 := (by first | exact he_x_28 | exact he_x_28.symm); clear_value y9; subst e9)
            extract_lets -merge -useContext +onlyGivenNames w9 y9; have e9 : r_29 = w9 := he_r_29; clear_value w9; subst e9
            refine (if_neg c_33).trans ?_
            exact rfl
          exact hret _ _ _ _ _ _ () [1, 0, 2] hP hD hS rfl (by decide) dX12_isTaken_75 (Or.inr rfl) ⟨(congrArg (fun z9 => z9) hX_37).symm, hpost⟩
set_option maxHeartbeats 40000000 in
set_option maxRecDepth 100000 in
theorem r_readNew_0 (l : Launch) (G : va_G) (cA : zCA) (h0 : Nat) (m_status : Int32) (m_thrown : Int32) (m_above : Int64) (m_under : Int64) (a_traySort : Nat) (a_trayMany : Nat) (a_numbers : Nat) (a_tape : Nat) (m_taped : Int32) (m_textEnd : Int32) (m_faultKind : Int32) (m_faultAt : Int32) (m_bad : Int32) (m_badAt : Int32) (m_token : Int32) (m_at : Int32) (m_behind : Int32) (m_number : Int32) (m_letters : Int32) (m_word : Int64) (a_c : Nat) (a_words : Nat) (m_markMany : Int32) (a_there : Nat) (a_tried : Nat) (a_best : Nat) (a_found : Nat) (m_thereMany : Int32) (m_foundMany : Int32) (m_orderHow : Int32) (m_orderRing : Int32) (m_orderMany : Int32) (m_hasBest : Int32) (m_bestTop : Int64) (m_bestBy : Int64) (a_weights : Nat) (a_shared : Nat) (m_random : Int32) (m_truePlace : Int32) (m_trueWay : Int32) (m_seconds : Int32) (m_done : Int32) (m_feelings : Int32) (m_tries : Int32) (m_leftOver : Int32) (m_playDoor : Int32) (m_playRing : Int32) (m_isOpen : Int32) (m_isOver : Int32) (m_wasTried : Int32) (m_hasPlayed : Int32) (a_feltNow : Nat) (a_last : Nat) (a_kept : Nat) (m_hasSeconds : Int32) (m_hasTurned : Int32) (m_hasRound : Int32) (a_hasFeels : Nat) (a_isOn : Nat) (m_firstAct : Int32) (m_meanTop : Int64) (m_meanBy : Int64) (a_order : Nat) (m_rowMany : Int32) (m_newSteps : Int32) (g_tape : Nat → Int32) (g_c : Nat → Int32) (g_words : Nat → Int64) (hr_m_textEnd : 0 ≤ m_textEnd.toInt ∧ m_textEnd.toInt ≤ 900) (hr_m_at : 0 ≤ m_at.toInt ∧ m_at.toInt ≤ 900) (hr_m_behind : 0 ≤ m_behind.toInt ∧ m_behind.toInt ≤ 900) (hr_m_bad : 0 ≤ m_bad.toInt ∧ m_bad.toInt ≤ 9) (hr_m_token : 0 ≤ m_token.toInt ∧ m_token.toInt ≤ 4) (hr_m_number : 0 ≤ m_number.toInt ∧ m_number.toInt ≤ 9999) (hr_m_letters : 0 ≤ m_letters.toInt ∧ m_letters.toInt ≤ 900) (hC_g_c : zC g_c) : zCi l yX12_readNew cX12_readNew 5 (some .int) ({ frames := 3, cells := 0, slots := 0, locals := 67 }) G cA [.ref h0, .int 0, .int 3, .int 0] [(h0, .inr (12, [.int m_status, .int m_thrown, .long m_above, .long m_under, .ref a_traySort, .ref a_trayMany, .ref a_numbers, .ref a_tape, .int m_taped, .int m_textEnd, .int m_faultKind, .int m_faultAt, .int m_bad, .int m_badAt, .int m_token, .int m_at, .int m_behind, .int m_number, .int m_letters, .long m_word, .ref a_c, .ref a_words, .int m_markMany, .ref a_there, .ref a_tried, .ref a_best, .ref a_found, .int m_thereMany, .int m_foundMany, .int m_orderHow, .int m_orderRing, .int m_orderMany, .int m_hasBest, .long m_bestTop, .long m_bestBy, .ref a_weights, .ref a_shared, .int m_random, .int m_truePlace, .int m_trueWay, .int m_seconds, .int m_done, .int m_feelings, .int m_tries, .int m_leftOver, .int m_playDoor, .int m_playRing, .int m_isOpen, .int m_isOver, .int m_wasTried, .int m_hasPlayed, .ref a_feltNow, .ref a_last, .ref a_kept, .int m_hasSeconds, .int m_hasTurned, .int m_hasRound, .ref a_hasFeels, .ref a_isOn, .int m_firstAct, .long m_meanTop, .long m_meanBy, .ref a_order, .int m_rowMany, .int m_newSteps])), (a_tape, .inl (cA.1 2, 900, .inl g_tape)), (a_c, .inl (cA.1 0, 1825, .inl g_c)), (a_words, .inl (cA.1 1, 105, .inr (.inl g_words)))] (S := Int32 × Int32 × Int32 × Int32 × Int32 × Int32 × Int32 × Int64 × (Nat → Int64)) (fun (r : Int32) (u : Int32 × Int32 × Int32 × Int32 × Int32 × Int32 × Int32 × Int64 × (Nat → Int64)) => (r = (F_r_readNew_0 m_textEnd m_bad m_badAt m_token m_at m_behind m_number m_letters m_word g_tape g_c g_words).1) ∧ (u.1 = (F_r_readNew_0 m_textEnd m_bad m_badAt m_token m_at m_behind m_number m_letters m_word g_tape g_c g_words).2.1) ∧ (u.2.1 = (F_r_readNew_0 m_textEnd m_bad m_badAt m_token m_at m_behind m_number m_letters m_word g_tape g_c g_words).2.2.1) ∧ (u.2.2.1 = (F_r_readNew_0 m_textEnd m_bad m_badAt m_token m_at m_behind m_number m_letters m_word g_tape g_c g_words).2.2.2.1) ∧ (u.2.2.2.1 = (F_r_readNew_0 m_textEnd m_bad m_badAt m_token m_at m_behind m_number m_letters m_word g_tape g_c g_words).2.2.2.2.1) ∧ (u.2.2.2.2.1 = (F_r_readNew_0 m_textEnd m_bad m_badAt m_token m_at m_behind m_number m_letters m_word g_tape g_c g_words).2.2.2.2.2.1) ∧ (u.2.2.2.2.2.1 = (F_r_readNew_0 m_textEnd m_bad m_badAt m_token m_at m_behind m_number m_letters m_word g_tape g_c g_words).2.2.2.2.2.2.1) ∧ (u.2.2.2.2.2.2.1 = (F_r_readNew_0 m_textEnd m_bad m_badAt m_token m_at m_behind m_number m_letters m_word g_tape g_c g_words).2.2.2.2.2.2.2.1) ∧ (u.2.2.2.2.2.2.2.1 = (F_r_readNew_0 m_textEnd m_bad m_badAt m_token m_at m_behind m_number m_letters m_word g_tape g_c g_words).2.2.2.2.2.2.2.2.1) ∧ (u.2.2.2.2.2.2.2.2 = (F_r_readNew_0 m_textEnd m_bad m_badAt m_token m_at m_behind m_number m_letters m_word g_tape g_c g_words).2.2.2.2.2.2.2.2.2) ∧ ((0 ≤ r.toInt ∧ r.toInt ≤ 2) ∧ (0 ≤ u.1.toInt ∧ u.1.toInt ≤ 9) ∧ (0 ≤ u.2.2.1.toInt ∧ u.2.2.1.toInt ≤ 4) ∧ (0 ≤ u.2.2.2.1.toInt ∧ u.2.2.2.1.toInt ≤ 900) ∧ (0 ≤ u.2.2.2.2.1.toInt ∧ u.2.2.2.2.1.toInt ≤ 900) ∧ (0 ≤ u.2.2.2.2.2.1.toInt ∧ u.2.2.2.2.2.1.toInt ≤ 9999) ∧ (0 ≤ u.2.2.2.2.2.2.1.toInt ∧ u.2.2.2.2.2.2.1.toInt ≤ 900) ∧ (m_behind.toInt ≤ u.2.2.2.2.1.toInt) ∧ (0 < m_bad.toInt → 0 < u.1.toInt) ∧ (u.1.toInt ≤ 0 → u.2.2.1.toInt = 0 ∨ m_behind.toInt < u.2.2.2.2.1.toInt) ∧ (u.1.toInt ≤ 0 → r.toInt = (g_c 1460).toInt) ∧ (r.toInt < 3))) (fun (u : Int32 × Int32 × Int32 × Int32 × Int32 × Int32 × Int32 × Int64 × (Nat → Int64)) => [(h0, .inr (12, [.int m_status, .int m_thrown, .long m_above, .long m_under, .ref a_traySort, .ref a_trayMany, .ref a_numbers, .ref a_tape, .int m_taped, .int m_textEnd, .int m_faultKind, .int m_faultAt, .int u.1, .int u.2.1, .int u.2.2.1, .int u.2.2.2.1, .int u.2.2.2.2.1, .int u.2.2.2.2.2.1, .int u.2.2.2.2.2.2.1, .long u.2.2.2.2.2.2.2.1, .ref a_c, .ref a_words, .int m_markMany, .ref a_there, .ref a_tried, .ref a_best, .ref a_found, .int m_thereMany, .int m_foundMany, .int m_orderHow, .int m_orderRing, .int m_orderMany, .int m_hasBest, .long m_bestTop, .long m_bestBy, .ref a_weights, .ref a_shared, .int m_random, .int m_truePlace, .int m_trueWay, .int m_seconds, .int m_done, .int m_feelings, .int m_tries, .int m_leftOver, .int m_playDoor, .int m_playRing, .int m_isOpen, .int m_isOver, .int m_wasTried, .int m_hasPlayed, .ref a_feltNow, .ref a_last, .ref a_kept, .int m_hasSeconds, .int m_hasTurned, .int m_hasRound, .ref a_hasFeels, .ref a_isOn, .int m_firstAct, .long m_meanTop, .long m_meanBy, .ref a_order, .int m_rowMany, .int m_newSteps])), (a_tape, .inl (cA.1 2, 900, .inl g_tape)), (a_c, .inl (cA.1 0, 1825, .inl g_c)), (a_words, .inl (cA.1 1, 105, .inr (.inl u.2.2.2.2.2.2.2.2)))]) 0 0 := by
  have hk_0 : (0 : Int32).toInt = 0 := by decide +kernel
  have hk_3 : (3 : Int32).toInt = 3 := by decide +kernel
  have hk_6 : (6 : Int32).toInt = 6 := by decide +kernel
  have hk_84 : (84 : Int32).toInt = 84 := by decide +kernel
  refine z_start2i (own := RX12) (by decide) (Nat.le_of_ble_eq_true rfl) rfl ?_
  intro p e s m args below meth c A ls Q hx hb hml hts hown hK hE hT hP hD hS hA hl hret
  have hl : lv_has ls 5 [(0, .ref h0), (1, .int 0), (2, .int 3), (3, .int 0)] := hl
  refine lv_aload_n hx hb dX12_readNew_0 rfl (lv_at hl 0 rfl) ?_
  refine va_get (D := G) (ci := 12) (v := .ref a_c) (C := RX12) (T := TX12) (N := 65) hx hb hts inT12 hown hK hP 0 rfl rfl 20 (by decide) (hts _ tw_1905) (fun _ h9 => h9) rfl dX12_readNew_1 ?_
  refine lv_sipush (v := 1460) hx hb dX12_readNew_4 (by decide) ?_
  refine lv_iload_n hx hb dX12_readNew_7 rfl (lv_at hl 1 rfl) ?_
  refine lv_iadd hx hb dX12_readNew_8 ?_
  refine z_topi (y := 1460) (by decide +kernel) ?_
  refine va_iald hx hb hK hP 2 0 rfl rfl (z_in (i := 1460) (n := 1825) (by decide +kernel) (by decide +kernel)) dX12_readNew_9 ?_
  refine lv_topi (fun x_1 he_x_1 => ?_)
  have hr_x_1 := z_ctk hC_g_c he_x_1 (k := 1460) (lo := 0) (hi := 3) (by decide +kernel) (by decide +kernel) (by decide +kernel)
  have hv_x_1 := z_cv he_x_1 (k := 1460) (by decide +kernel)
  refine lv_istore (lv' := [(4, .int x_1), (0, .ref h0), (1, .int 0), (2, .int 3), (3, .int 0)]) hx hb dX12_readNew_10 hl (by decide) rfl (fun ls hl => ?_)
  refine lv_aload_n hx hb dX12_readNew_12 rfl (lv_at hl 1 rfl) ?_
  refine va_get (D := G) (ci := 12) (v := .int m_bad) (C := RX12) (T := TX12) (N := 65) hx hb hts inT12 hown hK hP 0 rfl rfl 12 (by decide) (hts _ tw_1897) (fun _ h9 => h9) rfl dX12_readNew_13 ?_
  refine lv_if_ne (tgt := 35) hx hb dX12_readNew_16 (by decide) (fun c_2 => ?_) (fun c_2 => ?_)
  · have b_3 := z_fneT c_2
    refine lv_aload_n hx hb dX12_readNew_35 rfl (lv_at hl 1 rfl) ?_
    refine va_get (D := G) (ci := 12) (v := .int m_bad) (C := RX12) (T := TX12) (N := 65) hx hb hts inT12 hown hK hP 0 rfl rfl 12 (by decide) (hts _ tw_1897) (fun _ h9 => h9) rfl dX12_readNew_36 ?_
    refine lv_if_le (tgt := 44) hx hb dX12_readNew_39 (by decide) (fun h9 => (z_no (by have h8 := z_fleT h9; omega))) (fun c_4 => ?_)
    have b_5 := z_fgtF c_4
    refine lv_iconst (v := 0) hx hb dX12_readNew_42 (by decide) ?_
    have hpost : (0 ≤ (0 : Int32).toInt ∧ (0 : Int32).toInt ≤ 2) ∧ (0 ≤ m_bad.toInt ∧ m_bad.toInt ≤ 9) ∧ (0 ≤ m_token.toInt ∧ m_token.toInt ≤ 4) ∧ (0 ≤ m_at.toInt ∧ m_at.toInt ≤ 900) ∧ (0 ≤ m_behind.toInt ∧ m_behind.toInt ≤ 900) ∧ (0 ≤ m_number.toInt ∧ m_number.toInt ≤ 9999) ∧ (0 ≤ m_letters.toInt ∧ m_letters.toInt ≤ 900) ∧ (m_behind.toInt ≤ m_behind.toInt) ∧ (0 < m_bad.toInt → 0 < m_bad.toInt) ∧ (m_bad.toInt ≤ 0 → m_token.toInt = 0 ∨ m_behind.toInt < m_behind.toInt) ∧ (m_bad.toInt ≤ 0 → (0 : Int32).toInt = (g_c 1460).toInt) ∧ ((0 : Int32).toInt < 3) := ⟨(by decide +kernel), hr_m_bad, hr_m_token, hr_m_at, hr_m_behind, hr_m_number, hr_m_letters, (by omega), (by omega), (by omega), (by omega), (by omega)⟩
    have hX_6 : F_r_readNew_0 m_textEnd m_bad m_badAt m_token m_at m_behind m_number m_letters m_word g_tape g_c g_words = (((0 : Int32), m_bad, m_badAt, m_token, m_at, m_behind, m_number, m_letters, m_word, g_words) : Int32 × Int32 × Int32 × Int32 × Int32 × Int32 × Int32 × Int32 × Int64 × (Nat → Int64)) := by
      refine (F_r_readNew_0_s ..).trans ?_
      try (extract_lets -merge -useContext +onlyGivenNames y9; have e9 : x_1 = y9 := (by first | exact he_x_1 | exact he_x_1.symm); clear_value y9; subst e9)
      refine (if_neg c_2).trans ?_
      exact rfl
    exact hret _ _ _ _ _ _ (m_bad, m_badAt, m_token, m_at, m_behind, m_number, m_letters, m_word, g_words) [0, 1, 2, 3] hP hD hS rfl (by decide) dX12_readNew_43 ⟨(congrArg (fun z9 => z9.1) hX_6).symm, (congrArg (fun z9 => z9.2.1) hX_6).symm, (congrArg (fun z9 => z9.2.2.1) hX_6).symm, (congrArg (fun z9 => z9.2.2.2.1) hX_6).symm, (congrArg (fun z9 => z9.2.2.2.2.1) hX_6).symm, (congrArg (fun z9 => z9.2.2.2.2.2.1) hX_6).symm, (congrArg (fun z9 => z9.2.2.2.2.2.2.1) hX_6).symm, (congrArg (fun z9 => z9.2.2.2.2.2.2.2.1) hX_6).symm, (congrArg (fun z9 => z9.2.2.2.2.2.2.2.2.1) hX_6).symm, (congrArg (fun z9 => z9.2.2.2.2.2.2.2.2.2) hX_6).symm, hpost⟩
  · have b_7 := z_feqF c_2
    refine lv_iload hx hb dX12_readNew_19 (lv_at hl 0 rfl) ?_
    refine lv_iload_n hx hb dX12_readNew_21 rfl (lv_at hl 3 rfl) ?_
    refine lv_icmp_ne (tgt := 35) hx hb dX12_readNew_22 (by decide) (fun c_8 => ?_) (fun c_8 => ?_)
    · have b_9 := z_fneT c_8
      refine lv_aload_n hx hb dX12_readNew_35 rfl (lv_at hl 1 rfl) ?_
      refine va_get (D := G) (ci := 12) (v := .int m_bad) (C := RX12) (T := TX12) (N := 65) hx hb hts inT12 hown hK hP 0 rfl rfl 12 (by decide) (hts _ tw_1897) (fun _ h9 => h9) rfl dX12_readNew_36 ?_
      refine lv_if_le (tgt := 44) hx hb dX12_readNew_39 (by decide) (fun c_10 => ?_) (fun h9 => (z_no (by have h8 := z_fgtF h9; omega)))
      have b_11 := z_fleT c_10
      refine lv_aload_n hx hb dX12_readNew_44 rfl (lv_at hl 1 rfl) ?_
      refine z_callVv (As := []) (rest := []) (wr := [(a_c, .inl (cA.1 0, 1825, .inl g_c)), (a_words, .inl (cA.1 1, 105, .inr (.inl g_words)))]) ⟨hx, hb, hml, hown, hts⟩ hK hE hT hP hD hS hA (r_next2 l G cA h0 m_status m_thrown m_above m_under a_traySort a_trayMany a_numbers a_tape m_taped m_textEnd m_faultKind m_faultAt m_bad m_badAt m_token m_at m_behind m_number m_letters m_word a_c a_words m_markMany a_there a_tried a_best a_found m_thereMany m_foundMany m_orderHow m_orderRing m_orderMany m_hasBest m_bestTop m_bestBy a_weights a_shared m_random m_truePlace m_trueWay m_seconds m_done m_feelings m_tries m_leftOver m_playDoor m_playRing m_isOpen m_isOver m_wasTried m_hasPlayed a_feltNow a_last a_kept m_hasSeconds m_hasTurned m_hasRound a_hasFeels a_isOn m_firstAct m_meanTop m_meanBy a_order m_rowMany m_newSteps g_tape hr_m_textEnd hr_m_at hr_m_behind hr_m_token hr_m_number hr_m_letters) lk_RX12_184 ⟨rfl, rfl⟩ ⟨Nat.le_of_ble_eq_true rfl, Nat.le_of_ble_eq_true rfl⟩ 12 rfl rfl rfl [0, 1] [2, 3] rfl rfl (by decide) rfl hl.1 rfl (lv_room (Nat.le_of_ble_eq_true rfl)) dX12_readNew_45 ⟨Nat.le_of_ble_eq_true rfl, Nat.le_of_ble_eq_true rfl⟩ (fun u_19 H locs hw hP hD hS => ?_)
      obtain ⟨n_12, n_13, n_14, n_15, n_16, n_17⟩ := u_19
      try dsimp only at hw
      obtain ⟨he_n_12, he_n_13, he_n_14, he_n_15, he_n_16, he_n_17, hw⟩ := hw
      obtain ⟨hr_n_12, hr_n_13, hr_n_14, hr_n_15, hr_n_16, hf_21, hf_22⟩ := hw
      refine lv_aload_n hx hb dX12_readNew_48 rfl (lv_at hl 1 rfl) ?_
      refine z_callVi (As := []) (rest := []) (wr := [(a_c, .inl (cA.1 0, 1825, .inl g_c)), (a_words, .inl (cA.1 1, 105, .inr (.inl g_words))), (a_tape, .inl (cA.1 2, 900, .inl g_tape))]) ⟨hx, hb, hml, hown, hts⟩ hK hE hT hP hD hS hA (r_isHouseName l G cA h0 m_status m_thrown m_above m_under a_traySort a_trayMany a_numbers a_tape m_taped m_textEnd m_faultKind m_faultAt m_bad m_badAt n_12 n_13 n_14 n_15 n_16 n_17 a_c a_words m_markMany a_there a_tried a_best a_found m_thereMany m_foundMany m_orderHow m_orderRing m_orderMany m_hasBest m_bestTop m_bestBy a_weights a_shared m_random m_truePlace m_trueWay m_seconds m_done m_feelings m_tries m_leftOver m_playDoor m_playRing m_isOpen m_isOver m_wasTried m_hasPlayed a_feltNow a_last a_kept m_hasSeconds m_hasTurned m_hasRound a_hasFeels a_isOn m_firstAct m_meanTop m_meanBy a_order m_rowMany m_newSteps hr_n_12 hr_n_16) lk_RX12_200 ⟨rfl, rfl⟩ ⟨Nat.le_of_ble_eq_true rfl, Nat.le_of_ble_eq_true rfl⟩ 12 rfl rfl rfl [2] [0, 1, 3] rfl rfl (by decide) rfl hl.1 rfl (lv_room (Nat.le_of_ble_eq_true rfl)) dX12_readNew_49 ⟨Nat.le_of_ble_eq_true rfl, Nat.le_of_ble_eq_true rfl⟩ (fun r_23 u_24 H locs hw hP hD hS => ?_)
      obtain ⟨he_r_23, hw⟩ := hw
      rcases hw with ⟨rfl, -⟩ | ⟨rfl, -⟩
      · skip
        refine lv_if_ne (tgt := 59) hx hb dX12_readNew_52 (by decide) (fun h9 => absurd (by decide +kernel) h9) (fun _ => ?_)
        refine lv_aload_n hx hb dX12_readNew_55 rfl (lv_at hl 1 rfl) ?_
        refine z_callVv (As := []) (rest := []) (wr := [(a_c, .inl (cA.1 0, 1825, .inl g_c)), (a_words, .inl (cA.1 1, 105, .inr (.inl g_words))), (a_tape, .inl (cA.1 2, 900, .inl g_tape))]) ⟨hx, hb, hml, hown, hts⟩ hK hE hT hP hD hS hA (r_wrong l G cA h0 m_status m_thrown m_above m_under a_traySort a_trayMany a_numbers a_tape m_taped m_textEnd m_faultKind m_faultAt m_bad m_badAt n_12 n_13 n_14 n_15 n_16 n_17 a_c a_words m_markMany a_there a_tried a_best a_found m_thereMany m_foundMany m_orderHow m_orderRing m_orderMany m_hasBest m_bestTop m_bestBy a_weights a_shared m_random m_truePlace m_trueWay m_seconds m_done m_feelings m_tries m_leftOver m_playDoor m_playRing m_isOpen m_isOver m_wasTried m_hasPlayed a_feltNow a_last a_kept m_hasSeconds m_hasTurned m_hasRound a_hasFeels a_isOn m_firstAct m_meanTop m_meanBy a_order m_rowMany m_newSteps hr_n_13 hr_m_bad hr_n_12) lk_RX12_187 ⟨rfl, rfl⟩ ⟨Nat.le_of_ble_eq_true rfl, Nat.le_of_ble_eq_true rfl⟩ 12 rfl rfl rfl [3] [0, 1, 2] rfl rfl (by decide) rfl hl.1 rfl (lv_room (Nat.le_of_ble_eq_true rfl)) dX12_readNew_56 ⟨Nat.le_of_ble_eq_true rfl, Nat.le_of_ble_eq_true rfl⟩ (fun u_29 H locs hw hP hD hS => ?_)
        obtain ⟨n_26, n_27⟩ := u_29
        try dsimp only at hw
        obtain ⟨he_n_26, he_n_27, hw⟩ := hw
        have hr_n_26 := hw
        refine lv_aload_n hx hb dX12_readNew_59 rfl (lv_at hl 1 rfl) ?_
        refine va_get (D := G) (ci := 12) (v := .int n_26) (C := RX12) (T := TX12) (N := 65) hx hb hts inT12 hown hK hP 3 rfl rfl 12 (by decide) (hts _ tw_1897) (fun _ h9 => h9) rfl dX12_readNew_60 ?_
        refine lv_if_ne (tgt := 82) hx hb dX12_readNew_63 (by decide) (fun c_31 => ?_) (fun h9 => (z_no (by have h8 := z_feqF h9; omega)))
        have b_32 := z_fneT c_31
        refine lv_aload_n hx hb dX12_readNew_82 rfl (lv_at hl 1 rfl) ?_
        refine va_get (D := G) (ci := 12) (v := .int n_26) (C := RX12) (T := TX12) (N := 65) hx hb hts inT12 hown hK hP 3 rfl rfl 12 (by decide) (hts _ tw_1897) (fun _ h9 => h9) rfl dX12_readNew_83 ?_
        refine lv_if_le (tgt := 91) hx hb dX12_readNew_86 (by decide) (fun h9 => (z_no (by have h8 := z_fleT h9; omega))) (fun c_33 => ?_)
        have b_34 := z_fgtF c_33
        refine lv_iconst (v := 0) hx hb dX12_readNew_89 (by decide) ?_
        have hpost : (0 ≤ (0 : Int32).toInt ∧ (0 : Int32).toInt ≤ 2) ∧ (0 ≤ n_26.toInt ∧ n_26.toInt ≤ 9) ∧ (0 ≤ n_12.toInt ∧ n_12.toInt ≤ 4) ∧ (0 ≤ n_13.toInt ∧ n_13.toInt ≤ 900) ∧ (0 ≤ n_14.toInt ∧ n_14.toInt ≤ 900) ∧ (0 ≤ n_15.toInt ∧ n_15.toInt ≤ 9999) ∧ (0 ≤ n_16.toInt ∧ n_16.toInt ≤ 900) ∧ (m_behind.toInt ≤ n_14.toInt) ∧ (0 < m_bad.toInt → 0 < n_26.toInt) ∧ (n_26.toInt ≤ 0 → n_12.toInt = 0 ∨ m_behind.toInt < n_14.toInt) ∧ (n_26.toInt ≤ 0 → (0 : Int32).toInt = (g_c 1460).toInt) ∧ ((0 : Int32).toInt < 3) := ⟨(by decide +kernel), (z_rgw hr_n_26 (by decide) (by decide)), hr_n_12, hr_n_13, hr_n_14, hr_n_15, hr_n_16, (by omega), (by omega), (by omega), (by omega), (by omega)⟩
        have hX_35 : F_r_readNew_0 m_textEnd m_bad m_badAt m_token m_at m_behind m_number m_letters m_word g_tape g_c g_words = (((0 : Int32), n_26, n_27, n_12, n_13, n_14, n_15, n_16, n_17, g_words) : Int32 × Int32 × Int32 × Int32 × Int32 × Int32 × Int32 × Int32 × Int64 × (Nat → Int64)) := by
          refine (F_r_readNew_0_s ..).trans ?_
          try (extract_lets -merge -useContext +onlyGivenNames y9; have e9 : x_1 = y9 := (by first | exact he_x_1 | exact he_x_1.symm); clear_value y9; subst e9)
          refine (if_pos c_2).trans ?_
          refine (if_neg c_8).trans ?_
          extract_lets -merge -useContext +onlyGivenNames w9 y3_0 y3_1 y3_2 y3_3 y3_4 y3_5; have e9 : (n_12, n_13, n_14, n_15, n_16, n_17) = w9 := ((z_tS he_n_12 (z_tS he_n_13 (z_tS he_n_14 (z_tS he_n_15 (z_tS he_n_16 he_n_17.symm)))))).symm; clear_value w9; subst e9
          extract_lets -merge -useContext +onlyGivenNames w9 y9; have e9 : (0 : Int32) = w9 := he_r_23; clear_value w9; subst e9
          refine (if_pos rfl).trans ?_
          extract_lets -merge -useContext +onlyGivenNames w9 y6_0 y6_1; have e9 : (n_26, n_27) = w9 := ((z_tS he_n_26 he_n_27.symm)).symm; clear_value w9; subst e9
          exact rfl
        exact hret _ _ _ _ _ _ (n_26, n_27, n_12, n_13, n_14, n_15, n_16, n_17, g_words) [3, 2, 0, 1] hP hD hS rfl (by decide) dX12_readNew_90 ⟨(congrArg (fun z9 => z9.1) hX_35).symm, (congrArg (fun z9 => z9.2.1) hX_35).symm, (congrArg (fun z9 => z9.2.2.1) hX_35).symm, (congrArg (fun z9 => z9.2.2.2.1) hX_35).symm, (congrArg (fun z9 => z9.2.2.2.2.1) hX_35).symm, (congrArg (fun z9 => z9.2.2.2.2.2.1) hX_35).symm, (congrArg (fun z9 => z9.2.2.2.2.2.2.1) hX_35).symm, (congrArg (fun z9 => z9.2.2.2.2.2.2.2.1) hX_35).symm, (congrArg (fun z9 => z9.2.2.2.2.2.2.2.2.1) hX_35).symm, (congrArg (fun z9 => z9.2.2.2.2.2.2.2.2.2) hX_35).symm, hpost⟩
      · skip
        refine lv_if_ne (tgt := 59) hx hb dX12_readNew_52 (by decide) (fun _ => ?_) (fun h9 => absurd h9 (by decide +kernel))
        refine lv_aload_n hx hb dX12_readNew_59 rfl (lv_at hl 1 rfl) ?_
        refine va_get (D := G) (ci := 12) (v := .int m_bad) (C := RX12) (T := TX12) (N := 65) hx hb hts inT12 hown hK hP 3 rfl rfl 12 (by decide) (hts _ tw_1897) (fun _ h9 => h9) rfl dX12_readNew_60 ?_
        refine lv_if_ne (tgt := 82) hx hb dX12_readNew_63 (by decide) (fun h9 => (z_no (by have h8 := z_fneT h9; omega))) (fun c_36 => ?_)
        have b_37 := z_feqF c_36
        refine lv_aload_n hx hb dX12_readNew_66 rfl (lv_at hl 1 rfl) ?_
        refine z_callVi (As := []) (rest := []) (wr := [(a_tape, .inl (cA.1 2, 900, .inl g_tape))]) ⟨hx, hb, hml, hown, hts⟩ hK hE hT hP hD hS hA (r_isTaken l G cA h0 m_status m_thrown m_above m_under a_traySort a_trayMany a_numbers a_tape m_taped m_textEnd m_faultKind m_faultAt m_bad m_badAt n_12 n_13 n_14 n_15 n_16 n_17 a_c a_words m_markMany a_there a_tried a_best a_found m_thereMany m_foundMany m_orderHow m_orderRing m_orderMany m_hasBest m_bestTop m_bestBy a_weights a_shared m_random m_truePlace m_trueWay m_seconds m_done m_feelings m_tries m_leftOver m_playDoor m_playRing m_isOpen m_isOver m_wasTried m_hasPlayed a_feltNow a_last a_kept m_hasSeconds m_hasTurned m_hasRound a_hasFeels a_isOn m_firstAct m_meanTop m_meanBy a_order m_rowMany m_newSteps g_c g_words hC_g_c) lk_RX12_204 ⟨rfl, rfl⟩ ⟨Nat.le_of_ble_eq_true rfl, Nat.le_of_ble_eq_true rfl⟩ 12 rfl rfl rfl [3, 0, 1] [2] rfl rfl (by decide) rfl hl.1 rfl (lv_room (Nat.le_of_ble_eq_true rfl)) dX12_readNew_67 ⟨Nat.le_of_ble_eq_true rfl, Nat.le_of_ble_eq_true rfl⟩ (fun r_38 u_39 H locs hw hP hD hS => ?_)
        obtain ⟨he_r_38, hw⟩ := hw
        rcases hw with ⟨rfl, -⟩ | ⟨rfl, -⟩
        · skip
          refine lv_if_eq (tgt := 82) hx hb dX12_readNew_70 (by decide) (fun _ => ?_) (fun h9 => absurd (by decide +kernel) h9)
          refine lv_aload_n hx hb dX12_readNew_82 rfl (lv_at hl 1 rfl) ?_
          refine va_get (D := G) (ci := 12) (v := .int m_bad) (C := RX12) (T := TX12) (N := 65) hx hb hts inT12 hown hK hP 1 rfl rfl 12 (by decide) (hts _ tw_1897) (fun _ h9 => h9) rfl dX12_readNew_83 ?_
          refine lv_if_le (tgt := 91) hx hb dX12_readNew_86 (by decide) (fun c_41 => ?_) (fun h9 => (z_no (by have h8 := z_fgtF h9; omega)))
          have b_42 := z_fleT c_41
          refine lv_aload_n hx hb dX12_readNew_91 rfl (lv_at hl 1 rfl) ?_
          refine va_get (D := G) (ci := 12) (v := .ref a_words) (C := RX12) (T := TX12) (N := 65) hx hb hts inT12 hown hK hP 1 rfl rfl 21 (by decide) (hts _ tw_1906) (fun _ h9 => h9) rfl dX12_readNew_92 ?_
          refine lv_bipush (v := 84) hx hb dX12_readNew_95 (by decide) ?_
          refine lv_iload_n hx hb dX12_readNew_97 rfl (lv_at hl 4 rfl) ?_
          refine lv_iadd hx hb dX12_readNew_98 ?_
          refine z_topi (y := 84) (by decide +kernel) ?_
          refine lv_iload hx hb dX12_readNew_99 (lv_at hl 0 rfl) ?_
          refine lv_iadd hx hb dX12_readNew_101 ?_
          refine lv_topi (fun x_43 he_x_43 => ?_)
          have hq_x_43 := z_addq he_x_43 hk_84 (rfl : x_1.toInt = _) (by omega) (by omega)
          refine lv_aload_n hx hb dX12_readNew_102 rfl (lv_at hl 1 rfl) ?_
          refine va_get (D := G) (ci := 12) (v := .long n_17) (C := RX12) (T := TX12) (N := 65) hx hb hts inT12 hown hK hP 1 rfl rfl 19 (by decide) (hts _ tw_1904) (fun _ h9 => h9) rfl dX12_readNew_103 ?_
          refine z_last hx hb hK hP hD hS 3 1 rfl rfl (z_inN (by omega) (by omega)) dX12_readNew_106 (fun g_44 hg_g_44 H locs hP hD hS => ?_)
          refine lv_aload_n hx hb dX12_readNew_107 rfl (lv_at hl 1 rfl) ?_
          refine z_callVv (As := []) (rest := []) (wr := [(a_c, .inl (cA.1 0, 1825, .inl g_c)), (a_words, .inl (cA.1 1, 105, .inr (.inl g_44)))]) ⟨hx, hb, hml, hown, hts⟩ hK hE hT hP hD hS hA (r_next2 l G cA h0 m_status m_thrown m_above m_under a_traySort a_trayMany a_numbers a_tape m_taped m_textEnd m_faultKind m_faultAt m_bad m_badAt n_12 n_13 n_14 n_15 n_16 n_17 a_c a_words m_markMany a_there a_tried a_best a_found m_thereMany m_foundMany m_orderHow m_orderRing m_orderMany m_hasBest m_bestTop m_bestBy a_weights a_shared m_random m_truePlace m_trueWay m_seconds m_done m_feelings m_tries m_leftOver m_playDoor m_playRing m_isOpen m_isOver m_wasTried m_hasPlayed a_feltNow a_last a_kept m_hasSeconds m_hasTurned m_hasRound a_hasFeels a_isOn m_firstAct m_meanTop m_meanBy a_order m_rowMany m_newSteps g_tape hr_m_textEnd hr_n_13 hr_n_14 hr_n_12 hr_n_15 hr_n_16) lk_RX12_184 ⟨rfl, rfl⟩ ⟨Nat.le_of_ble_eq_true rfl, Nat.le_of_ble_eq_true rfl⟩ 12 rfl rfl rfl [1, 0] [2, 3] rfl rfl (by decide) rfl hl.1 rfl (lv_room (Nat.le_of_ble_eq_true rfl)) dX12_readNew_108 ⟨Nat.le_of_ble_eq_true rfl, Nat.le_of_ble_eq_true rfl⟩ (fun u_52 H locs hw hP hD hS => ?_)
          obtain ⟨n_45, n_46, n_47, n_48, n_49, n_50⟩ := u_52
          try dsimp only at hw
          obtain ⟨he_n_45, he_n_46, he_n_47, he_n_48, he_n_49, he_n_50, hw⟩ := hw
          obtain ⟨hr_n_45, hr_n_46, hr_n_47, hr_n_48, hr_n_49, hf_54, hf_55⟩ := hw
          refine lv_iload hx hb dX12_readNew_111 (lv_at hl 0 rfl) ?_
          have hpost : (0 ≤ x_1.toInt ∧ x_1.toInt ≤ 2) ∧ (0 ≤ m_bad.toInt ∧ m_bad.toInt ≤ 9) ∧ (0 ≤ n_45.toInt ∧ n_45.toInt ≤ 4) ∧ (0 ≤ n_46.toInt ∧ n_46.toInt ≤ 900) ∧ (0 ≤ n_47.toInt ∧ n_47.toInt ≤ 900) ∧ (0 ≤ n_48.toInt ∧ n_48.toInt ≤ 9999) ∧ (0 ≤ n_49.toInt ∧ n_49.toInt ≤ 900) ∧ (m_behind.toInt ≤ n_47.toInt) ∧ (0 < m_bad.toInt → 0 < m_bad.toInt) ∧ (m_bad.toInt ≤ 0 → n_45.toInt = 0 ∨ m_behind.toInt < n_47.toInt) ∧ (m_bad.toInt ≤ 0 → x_1.toInt = (g_c 1460).toInt) ∧ (x_1.toInt < 3) := ⟨(by omega), hr_m_bad, hr_n_45, hr_n_46, hr_n_47, hr_n_48, hr_n_49, (by omega), (by omega), (by omega), (by omega), (by omega)⟩
          have hX_56 : F_r_readNew_0 m_textEnd m_bad m_badAt m_token m_at m_behind m_number m_letters m_word g_tape g_c g_words = ((x_1, m_bad, m_badAt, n_45, n_46, n_47, n_48, n_49, n_50, g_44) : Int32 × Int32 × Int32 × Int32 × Int32 × Int32 × Int32 × Int32 × Int64 × (Nat → Int64)) := by
            refine (F_r_readNew_0_s ..).trans ?_
            try (extract_lets -merge -useContext +onlyGivenNames y9; have e9 : x_1 = y9 := (by first | exact he_x_1 | exact he_x_1.symm); clear_value y9; subst e9)
            refine (if_pos c_2).trans ?_
            refine (if_neg c_8).trans ?_
            extract_lets -merge -useContext +onlyGivenNames w9 y3_0 y3_1 y3_2 y3_3 y3_4 y3_5; have e9 : (n_12, n_13, n_14, n_15, n_16, n_17) = w9 := ((z_tS he_n_12 (z_tS he_n_13 (z_tS he_n_14 (z_tS he_n_15 (z_tS he_n_16 he_n_17.symm)))))).symm; clear_value w9; subst e9
            extract_lets -merge -useContext +onlyGivenNames w9 y9; have e9 : (1 : Int32) = w9 := he_r_23; clear_value w9; subst e9
            refine (if_neg (show ¬ (1 : Int32) = 0 by decide)).trans ?_
            extract_lets -merge -useContext +onlyGivenNames w9 y9; have e9 : (0 : Int32) = w9 := he_r_38; clear_value w9; subst e9
            refine (if_pos rfl).trans ?_
            try (extract_lets -merge -useContext +onlyGivenNames y9; have e9 : x_43 = y9 := (by first | exact he_x_43 | exact he_x_43.symm); clear_value y9; subst e9)
            try (extract_lets -merge -useContext +onlyGivenNames y9; have e9 : g_44 = y9 := (by first | exact hg_g_44 | exact hg_g_44.symm); clear_value y9; subst e9)
            extract_lets -merge -useContext +onlyGivenNames w9 y10_0 y10_1 y10_2 y10_3 y10_4 y10_5; have e9 : (n_45, n_46, n_47, n_48, n_49, n_50) = w9 := ((z_tS he_n_45 (z_tS he_n_46 (z_tS he_n_47 (z_tS he_n_48 (z_tS he_n_49 he_n_50.symm)))))).symm; clear_value w9; subst e9
            exact rfl
          exact hret _ _ _ _ _ _ (m_bad, m_badAt, n_45, n_46, n_47, n_48, n_49, n_50, g_44) [2, 3, 0, 1] hP hD hS rfl (by decide) dX12_readNew_113 ⟨(congrArg (fun z9 => z9.1) hX_56).symm, (congrArg (fun z9 => z9.2.1) hX_56).symm, (congrArg (fun z9 => z9.2.2.1) hX_56).symm, (congrArg (fun z9 => z9.2.2.2.1) hX_56).symm, (congrArg (fun z9 => z9.2.2.2.2.1) hX_56).symm, (congrArg (fun z9 => z9.2.2.2.2.2.1) hX_56).symm, (congrArg (fun z9 => z9.2.2.2.2.2.2.1) hX_56).symm, (congrArg (fun z9 => z9.2.2.2.2.2.2.2.1) hX_56).symm, (congrArg (fun z9 => z9.2.2.2.2.2.2.2.2.1) hX_56).symm, (congrArg (fun z9 => z9.2.2.2.2.2.2.2.2.2) hX_56).symm, hpost⟩
        · skip
          refine lv_if_eq (tgt := 82) hx hb dX12_readNew_70 (by decide) (fun h9 => absurd h9 (by decide +kernel)) (fun _ => ?_)
          refine lv_aload_n hx hb dX12_readNew_73 rfl (lv_at hl 1 rfl) ?_
          refine lv_iconst (v := 3) hx hb dX12_readNew_74 (by decide) ?_
          refine lv_aload_n hx hb dX12_readNew_75 rfl (lv_at hl 1 rfl) ?_
          refine va_get (D := G) (ci := 12) (v := .int n_13) (C := RX12) (T := TX12) (N := 65) hx hb hts inT12 hown hK hP 1 rfl rfl 15 (by decide) (hts _ tw_1900) (fun _ h9 => h9) rfl dX12_readNew_76 ?_
          refine z_callVv (As := [.int 3, .int n_13]) (rest := []) (wr := [(a_tape, .inl (cA.1 2, 900, .inl g_tape)), (a_c, .inl (cA.1 0, 1825, .inl g_c)), (a_words, .inl (cA.1 1, 105, .inr (.inl g_words)))]) ⟨hx, hb, hml, hown, hts⟩ hK hE hT hP hD hS hA (r_fail l G cA h0 m_status m_thrown m_above m_under a_traySort a_trayMany a_numbers a_tape m_taped m_textEnd m_faultKind m_faultAt m_bad m_badAt n_12 n_13 n_14 n_15 n_16 n_17 a_c a_words m_markMany a_there a_tried a_best a_found m_thereMany m_foundMany m_orderHow m_orderRing m_orderMany m_hasBest m_bestTop m_bestBy a_weights a_shared m_random m_truePlace m_trueWay m_seconds m_done m_feelings m_tries m_leftOver m_playDoor m_playRing m_isOpen m_isOver m_wasTried m_hasPlayed a_feltNow a_last a_kept m_hasSeconds m_hasTurned m_hasRound a_hasFeels a_isOn m_firstAct m_meanTop m_meanBy a_order m_rowMany m_newSteps 3 n_13 (by decide +kernel) hr_m_bad) lk_RX12_180 ⟨rfl, rfl⟩ ⟨Nat.le_of_ble_eq_true rfl, Nat.le_of_ble_eq_true rfl⟩ 12 rfl rfl rfl [1] [0, 2, 3] rfl rfl (by decide) rfl hl.1 rfl (lv_room (Nat.le_of_ble_eq_true rfl)) dX12_readNew_79 ⟨Nat.le_of_ble_eq_true rfl, Nat.le_of_ble_eq_true rfl⟩ (fun u_60 H locs hw hP hD hS => ?_)
          obtain ⟨n_57, n_58⟩ := u_60
          try dsimp only at hw
          obtain ⟨he_n_57, he_n_58, hw⟩ := hw
          obtain ⟨hr_n_57, hf_62⟩ := hw
          refine lv_aload_n hx hb dX12_readNew_82 rfl (lv_at hl 1 rfl) ?_
          refine va_get (D := G) (ci := 12) (v := .int n_57) (C := RX12) (T := TX12) (N := 65) hx hb hts inT12 hown hK hP 3 rfl rfl 12 (by decide) (hts _ tw_1897) (fun _ h9 => h9) rfl dX12_readNew_83 ?_
          refine lv_if_le (tgt := 91) hx hb dX12_readNew_86 (by decide) (fun h9 => (z_no (by have h8 := z_fleT h9; omega))) (fun c_63 => ?_)
          have b_64 := z_fgtF c_63
          refine lv_iconst (v := 0) hx hb dX12_readNew_89 (by decide) ?_
          have hpost : (0 ≤ (0 : Int32).toInt ∧ (0 : Int32).toInt ≤ 2) ∧ (0 ≤ n_57.toInt ∧ n_57.toInt ≤ 9) ∧ (0 ≤ n_12.toInt ∧ n_12.toInt ≤ 4) ∧ (0 ≤ n_13.toInt ∧ n_13.toInt ≤ 900) ∧ (0 ≤ n_14.toInt ∧ n_14.toInt ≤ 900) ∧ (0 ≤ n_15.toInt ∧ n_15.toInt ≤ 9999) ∧ (0 ≤ n_16.toInt ∧ n_16.toInt ≤ 900) ∧ (m_behind.toInt ≤ n_14.toInt) ∧ (0 < m_bad.toInt → 0 < n_57.toInt) ∧ (n_57.toInt ≤ 0 → n_12.toInt = 0 ∨ m_behind.toInt < n_14.toInt) ∧ (n_57.toInt ≤ 0 → (0 : Int32).toInt = (g_c 1460).toInt) ∧ ((0 : Int32).toInt < 3) := ⟨(by decide +kernel), (z_rgw hr_n_57 (by decide) (by decide)), hr_n_12, hr_n_13, hr_n_14, hr_n_15, hr_n_16, (by omega), (by omega), (by omega), (by omega), (by omega)⟩
          have hX_65 : F_r_readNew_0 m_textEnd m_bad m_badAt m_token m_at m_behind m_number m_letters m_word g_tape g_c g_words = (((0 : Int32), n_57, n_58, n_12, n_13, n_14, n_15, n_16, n_17, g_words) : Int32 × Int32 × Int32 × Int32 × Int32 × Int32 × Int32 × Int32 × Int64 × (Nat → Int64)) := by
            refine (F_r_readNew_0_s ..).trans ?_
            try (extract_lets -merge -useContext +onlyGivenNames y9; have e9 : x_1 = y9 := (by first | exact he_x_1 | exact he_x_1.symm); clear_value y9; subst e9)
            refine (if_pos c_2).trans ?_
            refine (if_neg c_8).trans ?_
            extract_lets -merge -useContext +onlyGivenNames w9 y3_0 y3_1 y3_2 y3_3 y3_4 y3_5; have e9 : (n_12, n_13, n_14, n_15, n_16, n_17) = w9 := ((z_tS he_n_12 (z_tS he_n_13 (z_tS he_n_14 (z_tS he_n_15 (z_tS he_n_16 he_n_17.symm)))))).symm; clear_value w9; subst e9
            extract_lets -merge -useContext +onlyGivenNames w9 y9; have e9 : (1 : Int32) = w9 := he_r_23; clear_value w9; subst e9
            refine (if_neg (show ¬ (1 : Int32) = 0 by decide)).trans ?_
            extract_lets -merge -useContext +onlyGivenNames w9 y9; have e9 : (1 : Int32) = w9 := he_r_38; clear_value w9; subst e9
            refine (if_neg (show ¬ (1 : Int32) = 0 by decide)).trans ?_
            extract_lets -merge -useContext +onlyGivenNames w9 y8_0 y8_1; have e9 : (n_57, n_58) = w9 := ((z_tS he_n_57 he_n_58.symm)).symm; clear_value w9; subst e9
            exact rfl
          exact hret _ _ _ _ _ _ (n_57, n_58, n_12, n_13, n_14, n_15, n_16, n_17, g_words) [3, 0, 1, 2] hP hD hS rfl (by decide) dX12_readNew_90 ⟨(congrArg (fun z9 => z9.1) hX_65).symm, (congrArg (fun z9 => z9.2.1) hX_65).symm, (congrArg (fun z9 => z9.2.2.1) hX_65).symm, (congrArg (fun z9 => z9.2.2.2.1) hX_65).symm, (congrArg (fun z9 => z9.2.2.2.2.1) hX_65).symm, (congrArg (fun z9 => z9.2.2.2.2.2.1) hX_65).symm, (congrArg (fun z9 => z9.2.2.2.2.2.2.1) hX_65).symm, (congrArg (fun z9 => z9.2.2.2.2.2.2.2.1) hX_65).symm, (congrArg (fun z9 => z9.2.2.2.2.2.2.2.2.1) hX_65).symm, (congrArg (fun z9 => z9.2.2.2.2.2.2.2.2.2) hX_65).symm, hpost⟩
    · have b_66 := z_feqF c_8
      refine lv_aload_n hx hb dX12_readNew_25 rfl (lv_at hl 1 rfl) ?_
      refine lv_bipush (v := 6) hx hb dX12_readNew_26 (by decide) ?_
      refine lv_aload_n hx hb dX12_readNew_28 rfl (lv_at hl 1 rfl) ?_
      refine va_get (D := G) (ci := 12) (v := .int m_at) (C := RX12) (T := TX12) (N := 65) hx hb hts inT12 hown hK hP 0 rfl rfl 15 (by decide) (hts _ tw_1900) (fun _ h9 => h9) rfl dX12_readNew_29 ?_
      refine z_callVv (As := [.int 6, .int m_at]) (rest := []) (wr := [(a_tape, .inl (cA.1 2, 900, .inl g_tape)), (a_c, .inl (cA.1 0, 1825, .inl g_c)), (a_words, .inl (cA.1 1, 105, .inr (.inl g_words)))]) ⟨hx, hb, hml, hown, hts⟩ hK hE hT hP hD hS hA (r_fail l G cA h0 m_status m_thrown m_above m_under a_traySort a_trayMany a_numbers a_tape m_taped m_textEnd m_faultKind m_faultAt m_bad m_badAt m_token m_at m_behind m_number m_letters m_word a_c a_words m_markMany a_there a_tried a_best a_found m_thereMany m_foundMany m_orderHow m_orderRing m_orderMany m_hasBest m_bestTop m_bestBy a_weights a_shared m_random m_truePlace m_trueWay m_seconds m_done m_feelings m_tries m_leftOver m_playDoor m_playRing m_isOpen m_isOver m_wasTried m_hasPlayed a_feltNow a_last a_kept m_hasSeconds m_hasTurned m_hasRound a_hasFeels a_isOn m_firstAct m_meanTop m_meanBy a_order m_rowMany m_newSteps 6 m_at (by decide +kernel) hr_m_bad) lk_RX12_180 ⟨rfl, rfl⟩ ⟨Nat.le_of_ble_eq_true rfl, Nat.le_of_ble_eq_true rfl⟩ 12 rfl rfl rfl [0] [1, 2, 3] rfl rfl (by decide) rfl hl.1 rfl (lv_room (Nat.le_of_ble_eq_true rfl)) dX12_readNew_32 ⟨Nat.le_of_ble_eq_true rfl, Nat.le_of_ble_eq_true rfl⟩ (fun u_70 H locs hw hP hD hS => ?_)
      obtain ⟨n_67, n_68⟩ := u_70
      try dsimp only at hw
      obtain ⟨he_n_67, he_n_68, hw⟩ := hw
      obtain ⟨hr_n_67, hf_72⟩ := hw
      refine lv_aload_n hx hb dX12_readNew_35 rfl (lv_at hl 1 rfl) ?_
      refine va_get (D := G) (ci := 12) (v := .int n_67) (C := RX12) (T := TX12) (N := 65) hx hb hts inT12 hown hK hP 3 rfl rfl 12 (by decide) (hts _ tw_1897) (fun _ h9 => h9) rfl dX12_readNew_36 ?_
      refine lv_if_le (tgt := 44) hx hb dX12_readNew_39 (by decide) (fun h9 => (z_no (by have h8 := z_fleT h9; omega))) (fun c_73 => ?_)
      have b_74 := z_fgtF c_73
      refine lv_iconst (v := 0) hx hb dX12_readNew_42 (by decide) ?_
      have hpost : (0 ≤ (0 : Int32).toInt ∧ (0 : Int32).toInt ≤ 2) ∧ (0 ≤ n_67.toInt ∧ n_67.toInt ≤ 9) ∧ (0 ≤ m_token.toInt ∧ m_token.toInt ≤ 4) ∧ (0 ≤ m_at.toInt ∧ m_at.toInt ≤ 900) ∧ (0 ≤ m_behind.toInt ∧ m_behind.toInt ≤ 900) ∧ (0 ≤ m_number.toInt ∧ m_number.toInt ≤ 9999) ∧ (0 ≤ m_letters.toInt ∧ m_letters.toInt ≤ 900) ∧ (m_behind.toInt ≤ m_behind.toInt) ∧ (0 < m_bad.toInt → 0 < n_67.toInt) ∧ (n_67.toInt ≤ 0 → m_token.toInt = 0 ∨ m_behind.toInt < m_behind.toInt) ∧ (n_67.toInt ≤ 0 → (0 : Int32).toInt = (g_c 1460).toInt) ∧ ((0 : Int32).toInt < 3) := ⟨(by decide +kernel), (z_rgw hr_n_67 (by decide) (by decide)), hr_m_token, hr_m_at, hr_m_behind, hr_m_number, hr_m_letters, (by omega), (by omega), (by omega), (by omega), (by omega)⟩
      have hX_75 : F_r_readNew_0 m_textEnd m_bad m_badAt m_token m_at m_behind m_number m_letters m_word g_tape g_c g_words = (((0 : Int32), n_67, n_68, m_token, m_at, m_behind, m_number, m_letters, m_word, g_words) : Int32 × Int32 × Int32 × Int32 × Int32 × Int32 × Int32 × Int32 × Int64 × (Nat → Int64)) := by
        refine (F_r_readNew_0_s ..).trans ?_
        try (extract_lets -merge -useContext +onlyGivenNames y9; have e9 : x_1 = y9 := (by first | exact he_x_1 | exact he_x_1.symm); clear_value y9; subst e9)
        refine (if_pos c_2).trans ?_
        refine (if_pos c_8).trans ?_
        extract_lets -merge -useContext +onlyGivenNames w9 y3_0 y3_1; have e9 : (n_67, n_68) = w9 := ((z_tS he_n_67 he_n_68.symm)).symm; clear_value w9; subst e9
        exact rfl
      exact hret _ _ _ _ _ _ (n_67, n_68, m_token, m_at, m_behind, m_number, m_letters, m_word, g_words) [3, 0, 1, 2] hP hD hS rfl (by decide) dX12_readNew_43 ⟨(congrArg (fun z9 => z9.1) hX_75).symm, (congrArg (fun z9 => z9.2.1) hX_75).symm, (congrArg (fun z9 => z9.2.2.1) hX_75).symm, (congrArg (fun z9 => z9.2.2.2.1) hX_75).symm, (congrArg (fun z9 => z9.2.2.2.2.1) hX_75).symm, (congrArg (fun z9 => z9.2.2.2.2.2.1) hX_75).symm, (congrArg (fun z9 => z9.2.2.2.2.2.2.1) hX_75).symm, (congrArg (fun z9 => z9.2.2.2.2.2.2.2.1) hX_75).symm, (congrArg (fun z9 => z9.2.2.2.2.2.2.2.2.1) hX_75).symm, (congrArg (fun z9 => z9.2.2.2.2.2.2.2.2.2) hX_75).symm, hpost⟩
