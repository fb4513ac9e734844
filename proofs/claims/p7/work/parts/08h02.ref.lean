set_option maxHeartbeats 4000000 in
set_option maxRecDepth 100000 in
theorem r_isHouseName (l : Launch) (G : va_G) (cA : zCA) (h0 : Nat) (m_status : Int32) (m_thrown : Int32) (m_above : Int64) (m_under : Int64) (a_traySort : Nat) (a_trayMany : Nat) (a_numbers : Nat) (a_tape : Nat) (m_taped : Int32) (m_textEnd : Int32) (m_faultKind : Int32) (m_faultAt : Int32) (m_bad : Int32) (m_badAt : Int32) (m_token : Int32) (m_at : Int32) (m_behind : Int32) (m_number : Int32) (m_letters : Int32) (m_word : Int64) (a_c : Nat) (a_words : Nat) (m_markMany : Int32) (a_there : Nat) (a_tried : Nat) (a_best : Nat) (a_found : Nat) (m_thereMany : Int32) (m_foundMany : Int32) (m_orderHow : Int32) (m_orderRing : Int32) (m_orderMany : Int32) (m_hasBest : Int32) (m_bestTop : Int64) (m_bestBy : Int64) (a_weights : Nat) (a_shared : Nat) (m_random : Int32) (m_truePlace : Int32) (m_trueWay : Int32) (m_seconds : Int32) (m_done : Int32) (m_feelings : Int32) (m_tries : Int32) (m_leftOver : Int32) (m_playDoor : Int32) (m_playRing : Int32) (m_isOpen : Int32) (m_isOver : Int32) (m_wasTried : Int32) (m_hasPlayed : Int32) (a_feltNow : Nat) (a_last : Nat) (a_kept : Nat) (m_hasSeconds : Int32) (m_hasTurned : Int32) (m_hasRound : Int32) (a_hasFeels : Nat) (a_isOn : Nat) (m_firstAct : Int32) (m_meanTop : Int64) (m_meanBy : Int64) (a_order : Nat) (m_rowMany : Int32) (m_newSteps : Int32) (hr_m_token : 0 ≤ m_token.toInt ∧ m_token.toInt ≤ 4) (hr_m_letters : 0 ≤ m_letters.toInt ∧ m_letters.toInt ≤ 900) : zCi l yX12_isHouseName cX12_isHouseName 1 (some .boolean) ({ frames := 2, cells := 0, slots := 0, locals := 47 }) G cA [.ref h0] [(h0, .inr (12, [.int m_status, .int m_thrown, .long m_above, .long m_under, .ref a_traySort, .ref a_trayMany, .ref a_numbers, .ref a_tape, .int m_taped, .int m_textEnd, .int m_faultKind, .int m_faultAt, .int m_bad, .int m_badAt, .int m_token, .int m_at, .int m_behind, .int m_number, .int m_letters, .long m_word, .ref a_c, .ref a_words, .int m_markMany, .ref a_there, .ref a_tried, .ref a_best, .ref a_found, .int m_thereMany, .int m_foundMany, .int m_orderHow, .int m_orderRing, .int m_orderMany, .int m_hasBest, .long m_bestTop, .long m_bestBy, .ref a_weights, .ref a_shared, .int m_random, .int m_truePlace, .int m_trueWay, .int m_seconds, .int m_done, .int m_feelings, .int m_tries, .int m_leftOver, .int m_playDoor, .int m_playRing, .int m_isOpen, .int m_isOver, .int m_wasTried, .int m_hasPlayed, .ref a_feltNow, .ref a_last, .ref a_kept, .int m_hasSeconds, .int m_hasTurned, .int m_hasRound, .ref a_hasFeels, .ref a_isOn, .int m_firstAct, .long m_meanTop, .long m_meanBy, .ref a_order, .int m_rowMany, .int m_newSteps]))] (S := Unit) (fun (r : Int32) (u : Unit) => (r = 0 ∧ True) ∨ (r = 1 ∧ True)) (fun (u : Unit) => [(h0, .inr (12, [.int m_status, .int m_thrown, .long m_above, .long m_under, .ref a_traySort, .ref a_trayMany, .ref a_numbers, .ref a_tape, .int m_taped, .int m_textEnd, .int m_faultKind, .int m_faultAt, .int m_bad, .int m_badAt, .int m_token, .int m_at, .int m_behind, .int m_number, .int m_letters, .long m_word, .ref a_c, .ref a_words, .int m_markMany, .ref a_there, .ref a_tried, .ref a_best, .ref a_found, .int m_thereMany, .int m_foundMany, .int m_orderHow, .int m_orderRing, .int m_orderMany, .int m_hasBest, .long m_bestTop, .long m_bestBy, .ref a_weights, .ref a_shared, .int m_random, .int m_truePlace, .int m_trueWay, .int m_seconds, .int m_done, .int m_feelings, .int m_tries, .int m_leftOver, .int m_playDoor, .int m_playRing, .int m_isOpen, .int m_isOver, .int m_wasTried, .int m_hasPlayed, .ref a_feltNow, .ref a_last, .ref a_kept, .int m_hasSeconds, .int m_hasTurned, .int m_hasRound, .ref a_hasFeels, .ref a_isOn, .int m_firstAct, .long m_meanTop, .long m_meanBy, .ref a_order, .int m_rowMany, .int m_newSteps]))]) 0 0 := by
  have hk_0 : (0 : Int32).toInt = 0 := by decide +kernel
  have hk_1 : (1 : Int32).toInt = 1 := by decide +kernel
  have hk_8 : (8 : Int32).toInt = 8 := by decide +kernel
  refine z_start2z (own := RX12) (by decide) (Nat.le_of_ble_eq_true rfl) rfl ?_
  intro p e s m args below meth c A ls Q hx hb hml hts hown hK hE hT hP hD hS hA hl hret
  have hl : lv_has ls 1 [(0, .ref h0)] := hl
  refine lv_aload_n hx hb dX12_isHouseName_0 rfl (lv_at hl 0 rfl) ?_
  refine va_get (D := G) (ci := 12) (v := .int m_token) (C := RX12) (T := TX12) (N := 65) hx hb hts inT12 hown hK hP 0 rfl rfl 14 (by decide) (hts _ tw_1899) (fun _ h9 => h9) rfl dX12_isHouseName_1 ?_
  refine lv_iconst (v := 1) hx hb dX12_isHouseName_4 (by decide) ?_
  refine lv_icmp_ne (tgt := 28) hx hb dX12_isHouseName_5 (by decide) (fun c_1 => ?_) (fun c_1 => ?_)
  · have b_2 := z_fneT c_1
    refine lv_iconst (v := 0) hx hb dX12_isHouseName_28 (by decide) ?_
    have hpost : ((0 : Int32) = 0 ∧ True) ∨ ((0 : Int32) = 1 ∧ True) := (Or.inl ⟨rfl, trivial⟩)
    exact hret _ _ _ _ _ _ () [0] hP hD hS rfl (by decide) dX12_isHouseName_29 (Or.inl rfl) hpost
  · have b_3 := z_feqF c_1
    refine lv_aload_n hx hb dX12_isHouseName_8 rfl (lv_at hl 0 rfl) ?_
    refine va_get (D := G) (ci := 12) (v := .int m_letters) (C := RX12) (T := TX12) (N := 65) hx hb hts inT12 hown hK hP 0 rfl rfl 18 (by decide) (hts _ tw_1903) (fun _ h9 => h9) rfl dX12_isHouseName_9 ?_
    refine lv_bipush (v := 8) hx hb dX12_isHouseName_12 (by decide) ?_
    refine lv_icmp_gt (tgt := 28) hx hb dX12_isHouseName_14 (by decide) (fun c_4 => ?_) (fun c_4 => ?_)
    · have b_5 := z_fgtT c_4
      refine lv_iconst (v := 0) hx hb dX12_isHouseName_28 (by decide) ?_
      have hpost : ((0 : Int32) = 0 ∧ True) ∨ ((0 : Int32) = 1 ∧ True) := (Or.inl ⟨rfl, trivial⟩)
      exact hret _ _ _ _ _ _ () [0] hP hD hS rfl (by decide) dX12_isHouseName_29 (Or.inl rfl) hpost
    · have b_6 := z_fleF c_4
      refine lv_aload_n hx hb dX12_isHouseName_17 rfl (lv_at hl 0 rfl) ?_
      refine z_callVi (As := []) (rest := []) (wr := []) ⟨hx, hb, hml, hown, hts⟩ hK hE hT hP hD hS hA (r_houseWord l G cA h0 m_status m_thrown m_above m_under a_traySort a_trayMany a_numbers a_tape m_taped m_textEnd m_faultKind m_faultAt m_bad m_badAt m_token m_at m_behind m_number m_letters m_word a_c a_words m_markMany a_there a_tried a_best a_found m_thereMany m_foundMany m_orderHow m_orderRing m_orderMany m_hasBest m_bestTop m_bestBy a_weights a_shared m_random m_truePlace m_trueWay m_seconds m_done m_feelings m_tries m_leftOver m_playDoor m_playRing m_isOpen m_isOver m_wasTried m_hasPlayed a_feltNow a_last a_kept m_hasSeconds m_hasTurned m_hasRound a_hasFeels a_isOn m_firstAct m_meanTop m_meanBy a_order m_rowMany m_newSteps hr_m_token) lk_RX12_170 ⟨rfl, rfl⟩ ⟨Nat.le_of_ble_eq_true rfl, Nat.le_of_ble_eq_true rfl⟩ 12 rfl rfl rfl [0] [] rfl rfl (by decide) rfl hl.1 rfl (lv_room (Nat.le_of_ble_eq_true rfl)) dX12_isHouseName_18 ⟨Nat.le_of_ble_eq_true rfl, Nat.le_of_ble_eq_true rfl⟩ (fun r_7 u_8 H locs hw hP hD hS => ?_)
      obtain ⟨hr_r_7, hf_9⟩ := hw
      refine lv_if_ge (tgt := 28) hx hb dX12_isHouseName_21 (by decide) (fun c_10 => ?_) (fun c_10 => ?_)
      · have b_11 := z_fgeT c_10
        refine lv_iconst (v := 0) hx hb dX12_isHouseName_28 (by decide) ?_
        have hpost : ((0 : Int32) = 0 ∧ True) ∨ ((0 : Int32) = 1 ∧ True) := (Or.inl ⟨rfl, trivial⟩)
        exact hret _ _ _ _ _ _ () [0] hP hD hS rfl (by decide) dX12_isHouseName_29 (Or.inl rfl) hpost
      · have b_12 := z_fltF c_10
        refine lv_iconst (v := 1) hx hb dX12_isHouseName_24 (by decide) ?_
        refine lv_goto (tgt := 29) hx hb dX12_isHouseName_25 (by decide) ?_
        have hpost : ((1 : Int32) = 0 ∧ True) ∨ ((1 : Int32) = 1 ∧ True) := (Or.inr ⟨rfl, trivial⟩)
        exact hret _ _ _ _ _ _ () [0] hP hD hS rfl (by decide) dX12_isHouseName_29 (Or.inr rfl) hpost
set_option maxHeartbeats 4000000 in
set_option maxRecDepth 100000 in
theorem r_named_0_0 (l : Launch) (G : va_G) (cA : zCA) (h0 : Nat) (m_status : Int32) (m_thrown : Int32) (m_above : Int64) (m_under : Int64) (a_traySort : Nat) (a_trayMany : Nat) (a_numbers : Nat) (a_tape : Nat) (m_taped : Int32) (m_textEnd : Int32) (m_faultKind : Int32) (m_faultAt : Int32) (m_bad : Int32) (m_badAt : Int32) (m_token : Int32) (m_at : Int32) (m_behind : Int32) (m_number : Int32) (m_letters : Int32) (m_word : Int64) (a_c : Nat) (a_words : Nat) (m_markMany : Int32) (a_there : Nat) (a_tried : Nat) (a_best : Nat) (a_found : Nat) (m_thereMany : Int32) (m_foundMany : Int32) (m_orderHow : Int32) (m_orderRing : Int32) (m_orderMany : Int32) (m_hasBest : Int32) (m_bestTop : Int64) (m_bestBy : Int64) (a_weights : Nat) (a_shared : Nat) (m_random : Int32) (m_truePlace : Int32) (m_trueWay : Int32) (m_seconds : Int32) (m_done : Int32) (m_feelings : Int32) (m_tries : Int32) (m_leftOver : Int32) (m_playDoor : Int32) (m_playRing : Int32) (m_isOpen : Int32) (m_isOver : Int32) (m_wasTried : Int32) (m_hasPlayed : Int32) (a_feltNow : Nat) (a_last : Nat) (a_kept : Nat) (m_hasSeconds : Int32) (m_hasTurned : Int32) (m_hasRound : Int32) (a_hasFeels : Nat) (a_isOn : Nat) (m_firstAct : Int32) (m_meanTop : Int64) (m_meanBy : Int64) (a_order : Nat) (m_rowMany : Int32) (m_newSteps : Int32) (g_words : Nat → Int64) (nn : Int32) (hr_nn : 0 ≤ nn.toInt ∧ nn.toInt ≤ 3) : zCi l yX12_named cX12_named 5 (some .int) ({ frames := 0, cells := 0, slots := 0, locals := 0 }) G cA [.ref h0, .int 0, .int 0, .int nn] [(h0, .inr (12, [.int m_status, .int m_thrown, .long m_above, .long m_under, .ref a_traySort, .ref a_trayMany, .ref a_numbers, .ref a_tape, .int m_taped, .int m_textEnd, .int m_faultKind, .int m_faultAt, .int m_bad, .int m_badAt, .int m_token, .int m_at, .int m_behind, .int m_number, .int m_letters, .long m_word, .ref a_c, .ref a_words, .int m_markMany, .ref a_there, .ref a_tried, .ref a_best, .ref a_found, .int m_thereMany, .int m_foundMany, .int m_orderHow, .int m_orderRing, .int m_orderMany, .int m_hasBest, .long m_bestTop, .long m_bestBy, .ref a_weights, .ref a_shared, .int m_random, .int m_truePlace, .int m_trueWay, .int m_seconds, .int m_done, .int m_feelings, .int m_tries, .int m_leftOver, .int m_playDoor, .int m_playRing, .int m_isOpen, .int m_isOver, .int m_wasTried, .int m_hasPlayed, .ref a_feltNow, .ref a_last, .ref a_kept, .int m_hasSeconds, .int m_hasTurned, .int m_hasRound, .ref a_hasFeels, .ref a_isOn, .int m_firstAct, .long m_meanTop, .long m_meanBy, .ref a_order, .int m_rowMany, .int m_newSteps])), (a_words, .inl (cA.1 1, 105, .inr (.inl g_words)))] (S := Unit) (fun (r : Int32) (u : Unit) => ((-1) ≤ r.toInt ∧ r.toInt ≤ 2) ∧ (r.toInt < nn.toInt)) (fun (u : Unit) => [(h0, .inr (12, [.int m_status, .int m_thrown, .long m_above, .long m_under, .ref a_traySort, .ref a_trayMany, .ref a_numbers, .ref a_tape, .int m_taped, .int m_textEnd, .int m_faultKind, .int m_faultAt, .int m_bad, .int m_badAt, .int m_token, .int m_at, .int m_behind, .int m_number, .int m_letters, .long m_word, .ref a_c, .ref a_words, .int m_markMany, .ref a_there, .ref a_tried, .ref a_best, .ref a_found, .int m_thereMany, .int m_foundMany, .int m_orderHow, .int m_orderRing, .int m_orderMany, .int m_hasBest, .long m_bestTop, .long m_bestBy, .ref a_weights, .ref a_shared, .int m_random, .int m_truePlace, .int m_trueWay, .int m_seconds, .int m_done, .int m_feelings, .int m_tries, .int m_leftOver, .int m_playDoor, .int m_playRing, .int m_isOpen, .int m_isOver, .int m_wasTried, .int m_hasPlayed, .ref a_feltNow, .ref a_last, .ref a_kept, .int m_hasSeconds, .int m_hasTurned, .int m_hasRound, .ref a_hasFeels, .ref a_isOn, .int m_firstAct, .long m_meanTop, .long m_meanBy, .ref a_order, .int m_rowMany, .int m_newSteps])), (a_words, .inl (cA.1 1, 105, .inr (.inl g_words)))]) 0 0 := by
  have hk_m1 : ((-1) : Int32).toInt = (-1) := by decide +kernel
  have hk_0 : (0 : Int32).toInt = 0 := by decide +kernel
  have hk_1 : (1 : Int32).toInt = 1 := by decide +kernel
  refine z_start2i (own := RX12) (by decide) (Nat.le_of_ble_eq_true rfl) rfl ?_
  intro p e s m args below meth c A ls Q hx hb hml hts hown hK hE hT hP hD hS hA hl hret
  have hl : lv_has ls 5 [(0, .ref h0), (1, .int 0), (2, .int 0), (3, .int nn)] := hl
  refine lv_iconst (v := 0) hx hb dX12_named_0 (by decide) ?_
  refine lv_istore (lv' := [(4, .int 0), (0, .ref h0), (1, .int 0), (2, .int 0), (3, .int nn)]) hx hb dX12_named_1 hl (by decide) rfl (fun ls hl => ?_)
  have hlp_48 : ∀ (n : Nat) (v_38 : Int32) (H : Heap) (locs : List Loc) (ls : Array Slot), (2147483647 - v_38.toInt).toNat < n → (0 ≤ v_38.toInt ∧ v_38.toInt ≤ 3) → va_P G vwCl [(h0, .inr (12, [.int m_status, .int m_thrown, .long m_above, .long m_under, .ref a_traySort, .ref a_trayMany, .ref a_numbers, .ref a_tape, .int m_taped, .int m_textEnd, .int m_faultKind, .int m_faultAt, .int m_bad, .int m_badAt, .int m_token, .int m_at, .int m_behind, .int m_number, .int m_letters, .long m_word, .ref a_c, .ref a_words, .int m_markMany, .ref a_there, .ref a_tried, .ref a_best, .ref a_found, .int m_thereMany, .int m_foundMany, .int m_orderHow, .int m_orderRing, .int m_orderMany, .int m_hasBest, .long m_bestTop, .long m_bestBy, .ref a_weights, .ref a_shared, .int m_random, .int m_truePlace, .int m_trueWay, .int m_seconds, .int m_done, .int m_feelings, .int m_tries, .int m_leftOver, .int m_playDoor, .int m_playRing, .int m_isOpen, .int m_isOver, .int m_wasTried, .int m_hasPlayed, .ref a_feltNow, .ref a_last, .ref a_kept, .int m_hasSeconds, .int m_hasTurned, .int m_hasRound, .ref a_hasFeels, .ref a_isOn, .int m_firstAct, .long m_meanTop, .long m_meanBy, .ref a_order, .int m_rowMany, .int m_newSteps])), (a_words, .inl (cA.1 1, 105, .inr (.inl g_words)))] H → va_D A [(h0, .inr (12, [.int m_status, .int m_thrown, .long m_above, .long m_under, .ref a_traySort, .ref a_trayMany, .ref a_numbers, .ref a_tape, .int m_taped, .int m_textEnd, .int m_faultKind, .int m_faultAt, .int m_bad, .int m_badAt, .int m_token, .int m_at, .int m_behind, .int m_number, .int m_letters, .long m_word, .ref a_c, .ref a_words, .int m_markMany, .ref a_there, .ref a_tried, .ref a_best, .ref a_found, .int m_thereMany, .int m_foundMany, .int m_orderHow, .int m_orderRing, .int m_orderMany, .int m_hasBest, .long m_bestTop, .long m_bestBy, .ref a_weights, .ref a_shared, .int m_random, .int m_truePlace, .int m_trueWay, .int m_seconds, .int m_done, .int m_feelings, .int m_tries, .int m_leftOver, .int m_playDoor, .int m_playRing, .int m_isOpen, .int m_isOver, .int m_wasTried, .int m_hasPlayed, .ref a_feltNow, .ref a_last, .ref a_kept, .int m_hasSeconds, .int m_hasTurned, .int m_hasRound, .ref a_hasFeels, .ref a_isOn, .int m_firstAct, .long m_meanTop, .long m_meanBy, .ref a_order, .int m_rowMany, .int m_newSteps])), (a_words, .inl (cA.1 1, 105, .inr (.inl g_words)))] → va_S A s.heap H locs → lv_has ls 5 [(0, .ref h0), (1, .int 0), (2, .int 0), (3, .int nn), (4, .int v_38)] → W p l e ({ frames := 0, cells := 0, slots := 0, locals := 0 }) s m args below meth c H locs 0 0 Q (F0 m 3 ls []) := by
    intro n
    induction n with
    | zero =>
      intro v_38 H locs ls hmu_hlp_48 hr_v_38 hP hD hS hl
      exact absurd hmu_hlp_48 (Nat.not_lt_zero _)
    | succ n ih_49 =>
      intro v_38 H locs ls hmu_hlp_48 hr_v_38 hP hD hS hl
      refine lv_iload hx hb dX12_named_3 (lv_at hl 4 rfl) ?_
      refine lv_iload_n hx hb dX12_named_5 rfl (lv_at hl 3 rfl) ?_
      refine lv_icmp_ge (tgt := 40) hx hb dX12_named_6 (by decide) (fun c_50 => ?_) (fun c_50 => ?_)
      · have b_51 := z_fgeT c_50
        refine lv_iconst (v := (-1)) hx hb dX12_named_40 (by decide) ?_
        have hpost : ((-1) ≤ ((-1) : Int32).toInt ∧ ((-1) : Int32).toInt ≤ 2) ∧ (((-1) : Int32).toInt < nn.toInt) := ⟨(by decide +kernel), (by omega)⟩
        exact hret _ _ _ _ _ _ () [0, 1] hP hD hS rfl (by decide) dX12_named_41 hpost
      · have b_52 := z_fltF c_50
        refine lv_aload_n hx hb dX12_named_9 rfl (lv_at hl 0 rfl) ?_
        refine va_get (D := G) (ci := 12) (v := .ref a_words) (C := RX12) (T := TX12) (N := 65) hx hb hts inT12 hown hK hP 0 rfl rfl 21 (by decide) (hts _ tw_1906) (fun _ h9 => h9) rfl dX12_named_10 ?_
        refine lv_bipush (v := 21) hx hb dX12_named_13 (by decide) ?_
        refine lv_iload_n hx hb dX12_named_15 rfl (lv_at hl 1 rfl) ?_
        refine lv_imul hx hb dX12_named_16 ?_
        refine z_topi (y := 0) (by decide +kernel) ?_
        refine lv_iload_n hx hb dX12_named_17 rfl (lv_at hl 2 rfl) ?_
        refine lv_iadd hx hb dX12_named_18 ?_
        refine z_topi (y := 0) (by decide +kernel) ?_
        refine lv_iload hx hb dX12_named_19 (lv_at hl 4 rfl) ?_
        refine lv_iadd hx hb dX12_named_21 ?_
        refine lv_topi (fun x_53 he_x_53 => ?_)
        have hq_x_53 := z_addq he_x_53 hk_0 (rfl : v_38.toInt = _) (by omega) (by omega)
        refine va_lald hx hb hK hP 1 1 rfl rfl (z_inN (by omega) (by omega)) dX12_named_22 ?_
        refine lv_topl (fun x_54 he_x_54 => ?_)
        refine lv_aload_n hx hb dX12_named_23 rfl (lv_at hl 0 rfl) ?_
        refine va_get (D := G) (ci := 12) (v := .long m_word) (C := RX12) (T := TX12) (N := 65) hx hb hts inT12 hown hK hP 0 rfl rfl 19 (by decide) (hts _ tw_1904) (fun _ h9 => h9) rfl dX12_named_24 ?_
        refine W.lcmp hx hb dX12_named_27 ?_
        refine lv_if_ne (tgt := 34) hx hb dX12_named_28 (by decide) (fun c_55 => ?_) (fun c_55 => ?_)
        · have b_56 := z_fneTl c_55
          obtain ⟨x_57, he_x_57⟩ : ∃ z : Int32, z = v_38 + 1 := ⟨_, rfl⟩
          have hq_x_57 := z_addq he_x_57 (rfl : v_38.toInt = _) hk_1 (by omega) (by omega)
          refine lv_iinc (v := x_57) (lv' := [(4, .int x_57), (0, .ref h0), (1, .int 0), (2, .int 0), (3, .int nn)]) hx hb dX12_named_34 hl (k := 4) rfl ((z_ofi (by decide +kernel)).trans he_x_57.symm) (by decide) rfl (fun ls hl => ?_)
          refine lv_goto (tgt := 3) hx hb dX12_named_37 (by decide) ?_
          exact ih_49 x_57 H locs ls (by omega) (by omega) hP hD hS (lv_sub hl [1, 2, 3, 4, 0] rfl)
        · have b_58 := z_feqFl c_55
          refine lv_iload hx hb dX12_named_31 (lv_at hl 4 rfl) ?_
          have hpost : ((-1) ≤ v_38.toInt ∧ v_38.toInt ≤ 2) ∧ (v_38.toInt < nn.toInt) := ⟨(by omega), (by omega)⟩
          exact hret _ _ _ _ _ _ () [0, 1] hP hD hS rfl (by decide) dX12_named_33 hpost
  exact hlp_48 _ 0 _ _ _ (Nat.lt_succ_self _) (by decide +kernel) hP hD hS (lv_sub hl [1, 2, 3, 4, 0] rfl)
set_option maxHeartbeats 4000000 in
set_option maxRecDepth 100000 in
theorem r_named_4_0 (l : Launch) (G : va_G) (cA : zCA) (h0 : Nat) (m_status : Int32) (m_thrown : Int32) (m_above : Int64) (m_under : Int64) (a_traySort : Nat) (a_trayMany : Nat) (a_numbers : Nat) (a_tape : Nat) (m_taped : Int32) (m_textEnd : Int32) (m_faultKind : Int32) (m_faultAt : Int32) (m_bad : Int32) (m_badAt : Int32) (m_token : Int32) (m_at : Int32) (m_behind : Int32) (m_number : Int32) (m_letters : Int32) (m_word : Int64) (a_c : Nat) (a_words : Nat) (m_markMany : Int32) (a_there : Nat) (a_tried : Nat) (a_best : Nat) (a_found : Nat) (m_thereMany : Int32) (m_foundMany : Int32) (m_orderHow : Int32) (m_orderRing : Int32) (m_orderMany : Int32) (m_hasBest : Int32) (m_bestTop : Int64) (m_bestBy : Int64) (a_weights : Nat) (a_shared : Nat) (m_random : Int32) (m_truePlace : Int32) (m_trueWay : Int32) (m_seconds : Int32) (m_done : Int32) (m_feelings : Int32) (m_tries : Int32) (m_leftOver : Int32) (m_playDoor : Int32) (m_playRing : Int32) (m_isOpen : Int32) (m_isOver : Int32) (m_wasTried : Int32) (m_hasPlayed : Int32) (a_feltNow : Nat) (a_last : Nat) (a_kept : Nat) (m_hasSeconds : Int32) (m_hasTurned : Int32) (m_hasRound : Int32) (a_hasFeels : Nat) (a_isOn : Nat) (m_firstAct : Int32) (m_meanTop : Int64) (m_meanBy : Int64) (a_order : Nat) (m_rowMany : Int32) (m_newSteps : Int32) (g_words : Nat → Int64) (nn : Int32) (hr_nn : 0 ≤ nn.toInt ∧ nn.toInt ≤ 3) : zCi l yX12_named cX12_named 5 (some .int) ({ frames := 0, cells := 0, slots := 0, locals := 0 }) G cA [.ref h0, .int 4, .int 0, .int nn] [(h0, .inr (12, [.int m_status, .int m_thrown, .long m_above, .long m_under, .ref a_traySort, .ref a_trayMany, .ref a_numbers, .ref a_tape, .int m_taped, .int m_textEnd, .int m_faultKind, .int m_faultAt, .int m_bad, .int m_badAt, .int m_token, .int m_at, .int m_behind, .int m_number, .int m_letters, .long m_word, .ref a_c, .ref a_words, .int m_markMany, .ref a_there, .ref a_tried, .ref a_best, .ref a_found, .int m_thereMany, .int m_foundMany, .int m_orderHow, .int m_orderRing, .int m_orderMany, .int m_hasBest, .long m_bestTop, .long m_bestBy, .ref a_weights, .ref a_shared, .int m_random, .int m_truePlace, .int m_trueWay, .int m_seconds, .int m_done, .int m_feelings, .int m_tries, .int m_leftOver, .int m_playDoor, .int m_playRing, .int m_isOpen, .int m_isOver, .int m_wasTried, .int m_hasPlayed, .ref a_feltNow, .ref a_last, .ref a_kept, .int m_hasSeconds, .int m_hasTurned, .int m_hasRound, .ref a_hasFeels, .ref a_isOn, .int m_firstAct, .long m_meanTop, .long m_meanBy, .ref a_order, .int m_rowMany, .int m_newSteps])), (a_words, .inl (cA.1 1, 105, .inr (.inl g_words)))] (S := Unit) (fun (r : Int32) (u : Unit) => ((-1) ≤ r.toInt ∧ r.toInt ≤ 2) ∧ (r.toInt < nn.toInt)) (fun (u : Unit) => [(h0, .inr (12, [.int m_status, .int m_thrown, .long m_above, .long m_under, .ref a_traySort, .ref a_trayMany, .ref a_numbers, .ref a_tape, .int m_taped, .int m_textEnd, .int m_faultKind, .int m_faultAt, .int m_bad, .int m_badAt, .int m_token, .int m_at, .int m_behind, .int m_number, .int m_letters, .long m_word, .ref a_c, .ref a_words, .int m_markMany, .ref a_there, .ref a_tried, .ref a_best, .ref a_found, .int m_thereMany, .int m_foundMany, .int m_orderHow, .int m_orderRing, .int m_orderMany, .int m_hasBest, .long m_bestTop, .long m_bestBy, .ref a_weights, .ref a_shared, .int m_random, .int m_truePlace, .int m_trueWay, .int m_seconds, .int m_done, .int m_feelings, .int m_tries, .int m_leftOver, .int m_playDoor, .int m_playRing, .int m_isOpen, .int m_isOver, .int m_wasTried, .int m_hasPlayed, .ref a_feltNow, .ref a_last, .ref a_kept, .int m_hasSeconds, .int m_hasTurned, .int m_hasRound, .ref a_hasFeels, .ref a_isOn, .int m_firstAct, .long m_meanTop, .long m_meanBy, .ref a_order, .int m_rowMany, .int m_newSteps])), (a_words, .inl (cA.1 1, 105, .inr (.inl g_words)))]) 0 0 := by
  have hk_m1 : ((-1) : Int32).toInt = (-1) := by decide +kernel
  have hk_0 : (0 : Int32).toInt = 0 := by decide +kernel
  have hk_1 : (1 : Int32).toInt = 1 := by decide +kernel
  have hk_84 : (84 : Int32).toInt = 84 := by decide +kernel
  refine z_start2i (own := RX12) (by decide) (Nat.le_of_ble_eq_true rfl) rfl ?_
  intro p e s m args below meth c A ls Q hx hb hml hts hown hK hE hT hP hD hS hA hl hret
  have hl : lv_has ls 5 [(0, .ref h0), (1, .int 4), (2, .int 0), (3, .int nn)] := hl
  refine lv_iconst (v := 0) hx hb dX12_named_0 (by decide) ?_
  refine lv_istore (lv' := [(4, .int 0), (0, .ref h0), (1, .int 4), (2, .int 0), (3, .int nn)]) hx hb dX12_named_1 hl (by decide) rfl (fun ls hl => ?_)
  have hlp_48 : ∀ (n : Nat) (v_38 : Int32) (H : Heap) (locs : List Loc) (ls : Array Slot), (2147483647 - v_38.toInt).toNat < n → (0 ≤ v_38.toInt ∧ v_38.toInt ≤ 3) → va_P G vwCl [(h0, .inr (12, [.int m_status, .int m_thrown, .long m_above, .long m_under, .ref a_traySort, .ref a_trayMany, .ref a_numbers, .ref a_tape, .int m_taped, .int m_textEnd, .int m_faultKind, .int m_faultAt, .int m_bad, .int m_badAt, .int m_token, .int m_at, .int m_behind, .int m_number, .int m_letters, .long m_word, .ref a_c, .ref a_words, .int m_markMany, .ref a_there, .ref a_tried, .ref a_best, .ref a_found, .int m_thereMany, .int m_foundMany, .int m_orderHow, .int m_orderRing, .int m_orderMany, .int m_hasBest, .long m_bestTop, .long m_bestBy, .ref a_weights, .ref a_shared, .int m_random, .int m_truePlace, .int m_trueWay, .int m_seconds, .int m_done, .int m_feelings, .int m_tries, .int m_leftOver, .int m_playDoor, .int m_playRing, .int m_isOpen, .int m_isOver, .int m_wasTried, .int m_hasPlayed, .ref a_feltNow, .ref a_last, .ref a_kept, .int m_hasSeconds, .int m_hasTurned, .int m_hasRound, .ref a_hasFeels, .ref a_isOn, .int m_firstAct, .long m_meanTop, .long m_meanBy, .ref a_order, .int m_rowMany, .int m_newSteps])), (a_words, .inl (cA.1 1, 105, .inr (.inl g_words)))] H → va_D A [(h0, .inr (12, [.int m_status, .int m_thrown, .long m_above, .long m_under, .ref a_traySort, .ref a_trayMany, .ref a_numbers, .ref a_tape, .int m_taped, .int m_textEnd, .int m_faultKind, .int m_faultAt, .int m_bad, .int m_badAt, .int m_token, .int m_at, .int m_behind, .int m_number, .int m_letters, .long m_word, .ref a_c, .ref a_words, .int m_markMany, .ref a_there, .ref a_tried, .ref a_best, .ref a_found, .int m_thereMany, .int m_foundMany, .int m_orderHow, .int m_orderRing, .int m_orderMany, .int m_hasBest, .long m_bestTop, .long m_bestBy, .ref a_weights, .ref a_shared, .int m_random, .int m_truePlace, .int m_trueWay, .int m_seconds, .int m_done, .int m_feelings, .int m_tries, .int m_leftOver, .int m_playDoor, .int m_playRing, .int m_isOpen, .int m_isOver, .int m_wasTried, .int m_hasPlayed, .ref a_feltNow, .ref a_last, .ref a_kept, .int m_hasSeconds, .int m_hasTurned, .int m_hasRound, .ref a_hasFeels, .ref a_isOn, .int m_firstAct, .long m_meanTop, .long m_meanBy, .ref a_order, .int m_rowMany, .int m_newSteps])), (a_words, .inl (cA.1 1, 105, .inr (.inl g_words)))] → va_S A s.heap H locs → lv_has ls 5 [(0, .ref h0), (1, .int 4), (2, .int 0), (3, .int nn), (4, .int v_38)] → W p l e ({ frames := 0, cells := 0, slots := 0, locals := 0 }) s m args below meth c H locs 0 0 Q (F0 m 3 ls []) := by
    intro n
    induction n with
    | zero =>
      intro v_38 H locs ls hmu_hlp_48 hr_v_38 hP hD hS hl
      exact absurd hmu_hlp_48 (Nat.not_lt_zero _)
    | succ n ih_49 =>
      intro v_38 H locs ls hmu_hlp_48 hr_v_38 hP hD hS hl
      refine lv_iload hx hb dX12_named_3 (lv_at hl 4 rfl) ?_
      refine lv_iload_n hx hb dX12_named_5 rfl (lv_at hl 3 rfl) ?_
      refine lv_icmp_ge (tgt := 40) hx hb dX12_named_6 (by decide) (fun c_50 => ?_) (fun c_50 => ?_)
      · have b_51 := z_fgeT c_50
        refine lv_iconst (v := (-1)) hx hb dX12_named_40 (by decide) ?_
        have hpost : ((-1) ≤ ((-1) : Int32).toInt ∧ ((-1) : Int32).toInt ≤ 2) ∧ (((-1) : Int32).toInt < nn.toInt) := ⟨(by decide +kernel), (by omega)⟩
        exact hret _ _ _ _ _ _ () [0, 1] hP hD hS rfl (by decide) dX12_named_41 hpost
      · have b_52 := z_fltF c_50
        refine lv_aload_n hx hb dX12_named_9 rfl (lv_at hl 0 rfl) ?_
        refine va_get (D := G) (ci := 12) (v := .ref a_words) (C := RX12) (T := TX12) (N := 65) hx hb hts inT12 hown hK hP 0 rfl rfl 21 (by decide) (hts _ tw_1906) (fun _ h9 => h9) rfl dX12_named_10 ?_
        refine lv_bipush (v := 21) hx hb dX12_named_13 (by decide) ?_
        refine lv_iload_n hx hb dX12_named_15 rfl (lv_at hl 1 rfl) ?_
        refine lv_imul hx hb dX12_named_16 ?_
        refine z_topi (y := 84) (by decide +kernel) ?_
        refine lv_iload_n hx hb dX12_named_17 rfl (lv_at hl 2 rfl) ?_
        refine lv_iadd hx hb dX12_named_18 ?_
        refine z_topi (y := 84) (by decide +kernel) ?_
        refine lv_iload hx hb dX12_named_19 (lv_at hl 4 rfl) ?_
        refine lv_iadd hx hb dX12_named_21 ?_
        refine lv_topi (fun x_53 he_x_53 => ?_)
        have hq_x_53 := z_addq he_x_53 hk_84 (rfl : v_38.toInt = _) (by omega) (by omega)
        refine va_lald hx hb hK hP 1 1 rfl rfl (z_inN (by omega) (by omega)) dX12_named_22 ?_
        refine lv_topl (fun x_54 he_x_54 => ?_)
        refine lv_aload_n hx hb dX12_named_23 rfl (lv_at hl 0 rfl) ?_
        refine va_get (D := G) (ci := 12) (v := .long m_word) (C := RX12) (T := TX12) (N := 65) hx hb hts inT12 hown hK hP 0 rfl rfl 19 (by decide) (hts _ tw_1904) (fun _ h9 => h9) rfl dX12_named_24 ?_
        refine W.lcmp hx hb dX12_named_27 ?_
        refine lv_if_ne (tgt := 34) hx hb dX12_named_28 (by decide) (fun c_55 => ?_) (fun c_55 => ?_)
        · have b_56 := z_fneTl c_55
          obtain ⟨x_57, he_x_57⟩ : ∃ z : Int32, z = v_38 + 1 := ⟨_, rfl⟩
          have hq_x_57 := z_addq he_x_57 (rfl : v_38.toInt = _) hk_1 (by omega) (by omega)
          refine lv_iinc (v := x_57) (lv' := [(4, .int x_57), (0, .ref h0), (1, .int 4), (2, .int 0), (3, .int nn)]) hx hb dX12_named_34 hl (k := 4) rfl ((z_ofi (by decide +kernel)).trans he_x_57.symm) (by decide) rfl (fun ls hl => ?_)
          refine lv_goto (tgt := 3) hx hb dX12_named_37 (by decide) ?_
          exact ih_49 x_57 H locs ls (by omega) (by omega) hP hD hS (lv_sub hl [1, 2, 3, 4, 0] rfl)
        · have b_58 := z_feqFl c_55
          refine lv_iload hx hb dX12_named_31 (lv_at hl 4 rfl) ?_
          have hpost : ((-1) ≤ v_38.toInt ∧ v_38.toInt ≤ 2) ∧ (v_38.toInt < nn.toInt) := ⟨(by omega), (by omega)⟩
          exact hret _ _ _ _ _ _ () [0, 1] hP hD hS rfl (by decide) dX12_named_33 hpost
  exact hlp_48 _ 0 _ _ _ (Nat.lt_succ_self _) (by decide +kernel) hP hD hS (lv_sub hl [1, 2, 3, 4, 0] rfl)
set_option maxHeartbeats 4000000 in
set_option maxRecDepth 100000 in
theorem r_named_4_3 (l : Launch) (G : va_G) (cA : zCA) (h0 : Nat) (m_status : Int32) (m_thrown : Int32) (m_above : Int64) (m_under : Int64) (a_traySort : Nat) (a_trayMany : Nat) (a_numbers : Nat) (a_tape : Nat) (m_taped : Int32) (m_textEnd : Int32) (m_faultKind : Int32) (m_faultAt : Int32) (m_bad : Int32) (m_badAt : Int32) (m_token : Int32) (m_at : Int32) (m_behind : Int32) (m_number : Int32) (m_letters : Int32) (m_word : Int64) (a_c : Nat) (a_words : Nat) (m_markMany : Int32) (a_there : Nat) (a_tried : Nat) (a_best : Nat) (a_found : Nat) (m_thereMany : Int32) (m_foundMany : Int32) (m_orderHow : Int32) (m_orderRing : Int32) (m_orderMany : Int32) (m_hasBest : Int32) (m_bestTop : Int64) (m_bestBy : Int64) (a_weights : Nat) (a_shared : Nat) (m_random : Int32) (m_truePlace : Int32) (m_trueWay : Int32) (m_seconds : Int32) (m_done : Int32) (m_feelings : Int32) (m_tries : Int32) (m_leftOver : Int32) (m_playDoor : Int32) (m_playRing : Int32) (m_isOpen : Int32) (m_isOver : Int32) (m_wasTried : Int32) (m_hasPlayed : Int32) (a_feltNow : Nat) (a_last : Nat) (a_kept : Nat) (m_hasSeconds : Int32) (m_hasTurned : Int32) (m_hasRound : Int32) (a_hasFeels : Nat) (a_isOn : Nat) (m_firstAct : Int32) (m_meanTop : Int64) (m_meanBy : Int64) (a_order : Nat) (m_rowMany : Int32) (m_newSteps : Int32) (g_words : Nat → Int64) (nn : Int32) (hr_nn : 0 ≤ nn.toInt ∧ nn.toInt ≤ 10) : zCi l yX12_named cX12_named 5 (some .int) ({ frames := 0, cells := 0, slots := 0, locals := 0 }) G cA [.ref h0, .int 4, .int 3, .int nn] [(h0, .inr (12, [.int m_status, .int m_thrown, .long m_above, .long m_under, .ref a_traySort, .ref a_trayMany, .ref a_numbers, .ref a_tape, .int m_taped, .int m_textEnd, .int m_faultKind, .int m_faultAt, .int m_bad, .int m_badAt, .int m_token, .int m_at, .int m_behind, .int m_number, .int m_letters, .long m_word, .ref a_c, .ref a_words, .int m_markMany, .ref a_there, .ref a_tried, .ref a_best, .ref a_found, .int m_thereMany, .int m_foundMany, .int m_orderHow, .int m_orderRing, .int m_orderMany, .int m_hasBest, .long m_bestTop, .long m_bestBy, .ref a_weights, .ref a_shared, .int m_random, .int m_truePlace, .int m_trueWay, .int m_seconds, .int m_done, .int m_feelings, .int m_tries, .int m_leftOver, .int m_playDoor, .int m_playRing, .int m_isOpen, .int m_isOver, .int m_wasTried, .int m_hasPlayed, .ref a_feltNow, .ref a_last, .ref a_kept, .int m_hasSeconds, .int m_hasTurned, .int m_hasRound, .ref a_hasFeels, .ref a_isOn, .int m_firstAct, .long m_meanTop, .long m_meanBy, .ref a_order, .int m_rowMany, .int m_newSteps])), (a_words, .inl (cA.1 1, 105, .inr (.inl g_words)))] (S := Unit) (fun (r : Int32) (u : Unit) => ((-1) ≤ r.toInt ∧ r.toInt ≤ 9) ∧ (r.toInt < nn.toInt)) (fun (u : Unit) => [(h0, .inr (12, [.int m_status, .int m_thrown, .long m_above, .long m_under, .ref a_traySort, .ref a_trayMany, .ref a_numbers, .ref a_tape, .int m_taped, .int m_textEnd, .int m_faultKind, .int m_faultAt, .int m_bad, .int m_badAt, .int m_token, .int m_at, .int m_behind, .int m_number, .int m_letters, .long m_word, .ref a_c, .ref a_words, .int m_markMany, .ref a_there, .ref a_tried, .ref a_best, .ref a_found, .int m_thereMany, .int m_foundMany, .int m_orderHow, .int m_orderRing, .int m_orderMany, .int m_hasBest, .long m_bestTop, .long m_bestBy, .ref a_weights, .ref a_shared, .int m_random, .int m_truePlace, .int m_trueWay, .int m_seconds, .int m_done, .int m_feelings, .int m_tries, .int m_leftOver, .int m_playDoor, .int m_playRing, .int m_isOpen, .int m_isOver, .int m_wasTried, .int m_hasPlayed, .ref a_feltNow, .ref a_last, .ref a_kept, .int m_hasSeconds, .int m_hasTurned, .int m_hasRound, .ref a_hasFeels, .ref a_isOn, .int m_firstAct, .long m_meanTop, .long m_meanBy, .ref a_order, .int m_rowMany, .int m_newSteps])), (a_words, .inl (cA.1 1, 105, .inr (.inl g_words)))]) 0 0 := by
  have hk_m1 : ((-1) : Int32).toInt = (-1) := by decide +kernel
  have hk_0 : (0 : Int32).toInt = 0 := by decide +kernel
  have hk_1 : (1 : Int32).toInt = 1 := by decide +kernel
  have hk_87 : (87 : Int32).toInt = 87 := by decide +kernel
  refine z_start2i (own := RX12) (by decide) (Nat.le_of_ble_eq_true rfl) rfl ?_
  intro p e s m args below meth c A ls Q hx hb hml hts hown hK hE hT hP hD hS hA hl hret
  have hl : lv_has ls 5 [(0, .ref h0), (1, .int 4), (2, .int 3), (3, .int nn)] := hl
  refine lv_iconst (v := 0) hx hb dX12_named_0 (by decide) ?_
  refine lv_istore (lv' := [(4, .int 0), (0, .ref h0), (1, .int 4), (2, .int 3), (3, .int nn)]) hx hb dX12_named_1 hl (by decide) rfl (fun ls hl => ?_)
  have hlp_118 : ∀ (n : Nat) (v_108 : Int32) (H : Heap) (locs : List Loc) (ls : Array Slot), (2147483647 - v_108.toInt).toNat < n → (0 ≤ v_108.toInt ∧ v_108.toInt ≤ 10) → va_P G vwCl [(h0, .inr (12, [.int m_status, .int m_thrown, .long m_above, .long m_under, .ref a_traySort, .ref a_trayMany, .ref a_numbers, .ref a_tape, .int m_taped, .int m_textEnd, .int m_faultKind, .int m_faultAt, .int m_bad, .int m_badAt, .int m_token, .int m_at, .int m_behind, .int m_number, .int m_letters, .long m_word, .ref a_c, .ref a_words, .int m_markMany, .ref a_there, .ref a_tried, .ref a_best, .ref a_found, .int m_thereMany, .int m_foundMany, .int m_orderHow, .int m_orderRing, .int m_orderMany, .int m_hasBest, .long m_bestTop, .long m_bestBy, .ref a_weights, .ref a_shared, .int m_random, .int m_truePlace, .int m_trueWay, .int m_seconds, .int m_done, .int m_feelings, .int m_tries, .int m_leftOver, .int m_playDoor, .int m_playRing, .int m_isOpen, .int m_isOver, .int m_wasTried, .int m_hasPlayed, .ref a_feltNow, .ref a_last, .ref a_kept, .int m_hasSeconds, .int m_hasTurned, .int m_hasRound, .ref a_hasFeels, .ref a_isOn, .int m_firstAct, .long m_meanTop, .long m_meanBy, .ref a_order, .int m_rowMany, .int m_newSteps])), (a_words, .inl (cA.1 1, 105, .inr (.inl g_words)))] H → va_D A [(h0, .inr (12, [.int m_status, .int m_thrown, .long m_above, .long m_under, .ref a_traySort, .ref a_trayMany, .ref a_numbers, .ref a_tape, .int m_taped, .int m_textEnd, .int m_faultKind, .int m_faultAt, .int m_bad, .int m_badAt, .int m_token, .int m_at, .int m_behind, .int m_number, .int m_letters, .long m_word, .ref a_c, .ref a_words, .int m_markMany, .ref a_there, .ref a_tried, .ref a_best, .ref a_found, .int m_thereMany, .int m_foundMany, .int m_orderHow, .int m_orderRing, .int m_orderMany, .int m_hasBest, .long m_bestTop, .long m_bestBy, .ref a_weights, .ref a_shared, .int m_random, .int m_truePlace, .int m_trueWay, .int m_seconds, .int m_done, .int m_feelings, .int m_tries, .int m_leftOver, .int m_playDoor, .int m_playRing, .int m_isOpen, .int m_isOver, .int m_wasTried, .int m_hasPlayed, .ref a_feltNow, .ref a_last, .ref a_kept, .int m_hasSeconds, .int m_hasTurned, .int m_hasRound, .ref a_hasFeels, .ref a_isOn, .int m_firstAct, .long m_meanTop, .long m_meanBy, .ref a_order, .int m_rowMany, .int m_newSteps])), (a_words, .inl (cA.1 1, 105, .inr (.inl g_words)))] → va_S A s.heap H locs → lv_has ls 5 [(0, .ref h0), (1, .int 4), (2, .int 3), (3, .int nn), (4, .int v_108)] → W p l e ({ frames := 0, cells := 0, slots := 0, locals := 0 }) s m args below meth c H locs 0 0 Q (F0 m 3 ls []) := by
    intro n
    induction n with
    | zero =>
      intro v_108 H locs ls hmu_hlp_118 hr_v_108 hP hD hS hl
      exact absurd hmu_hlp_118 (Nat.not_lt_zero _)
    | succ n ih_119 =>
      intro v_108 H locs ls hmu_hlp_118 hr_v_108 hP hD hS hl
      refine lv_iload hx hb dX12_named_3 (lv_at hl 4 rfl) ?_
      refine lv_iload_n hx hb dX12_named_5 rfl (lv_at hl 3 rfl) ?_
      refine lv_icmp_ge (tgt := 40) hx hb dX12_named_6 (by decide) (fun c_120 => ?_) (fun c_120 => ?_)
      · have b_121 := z_fgeT c_120
        refine lv_iconst (v := (-1)) hx hb dX12_named_40 (by decide) ?_
        have hpost : ((-1) ≤ ((-1) : Int32).toInt ∧ ((-1) : Int32).toInt ≤ 9) ∧ (((-1) : Int32).toInt < nn.toInt) := ⟨(by decide +kernel), (by omega)⟩
        exact hret _ _ _ _ _ _ () [0, 1] hP hD hS rfl (by decide) dX12_named_41 hpost
      · have b_122 := z_fltF c_120
        refine lv_aload_n hx hb dX12_named_9 rfl (lv_at hl 0 rfl) ?_
        refine va_get (D := G) (ci := 12) (v := .ref a_words) (C := RX12) (T := TX12) (N := 65) hx hb hts inT12 hown hK hP 0 rfl rfl 21 (by decide) (hts _ tw_1906) (fun _ h9 => h9) rfl dX12_named_10 ?_
        refine lv_bipush (v := 21) hx hb dX12_named_13 (by decide) ?_
        refine lv_iload_n hx hb dX12_named_15 rfl (lv_at hl 1 rfl) ?_
        refine lv_imul hx hb dX12_named_16 ?_
        refine z_topi (y := 84) (by decide +kernel) ?_
        refine lv_iload_n hx hb dX12_named_17 rfl (lv_at hl 2 rfl) ?_
        refine lv_iadd hx hb dX12_named_18 ?_
        refine z_topi (y := 87) (by decide +kernel) ?_
        refine lv_iload hx hb dX12_named_19 (lv_at hl 4 rfl) ?_
        refine lv_iadd hx hb dX12_named_21 ?_
        refine lv_topi (fun x_123 he_x_123 => ?_)
        have hq_x_123 := z_addq he_x_123 hk_87 (rfl : v_108.toInt = _) (by omega) (by omega)
        refine va_lald hx hb hK hP 1 1 rfl rfl (z_inN (by omega) (by omega)) dX12_named_22 ?_
        refine lv_topl (fun x_124 he_x_124 => ?_)
        refine lv_aload_n hx hb dX12_named_23 rfl (lv_at hl 0 rfl) ?_
        refine va_get (D := G) (ci := 12) (v := .long m_word) (C := RX12) (T := TX12) (N := 65) hx hb hts inT12 hown hK hP 0 rfl rfl 19 (by decide) (hts _ tw_1904) (fun _ h9 => h9) rfl dX12_named_24 ?_
        refine W.lcmp hx hb dX12_named_27 ?_
        refine lv_if_ne (tgt := 34) hx hb dX12_named_28 (by decide) (fun c_125 => ?_) (fun c_125 => ?_)
        · have b_126 := z_fneTl c_125
          obtain ⟨x_127, he_x_127⟩ : ∃ z : Int32, z = v_108 + 1 := ⟨_, rfl⟩
          have hq_x_127 := z_addq he_x_127 (rfl : v_108.toInt = _) hk_1 (by omega) (by omega)
          refine lv_iinc (v := x_127) (lv' := [(4, .int x_127), (0, .ref h0), (1, .int 4), (2, .int 3), (3, .int nn)]) hx hb dX12_named_34 hl (k := 4) rfl ((z_ofi (by decide +kernel)).trans he_x_127.symm) (by decide) rfl (fun ls hl => ?_)
          refine lv_goto (tgt := 3) hx hb dX12_named_37 (by decide) ?_
          exact ih_119 x_127 H locs ls (by omega) (by omega) hP hD hS (lv_sub hl [1, 2, 3, 4, 0] rfl)
        · have b_128 := z_feqFl c_125
          refine lv_iload hx hb dX12_named_31 (lv_at hl 4 rfl) ?_
          have hpost : ((-1) ≤ v_108.toInt ∧ v_108.toInt ≤ 9) ∧ (v_108.toInt < nn.toInt) := ⟨(by omega), (by omega)⟩
          exact hret _ _ _ _ _ _ () [0, 1] hP hD hS rfl (by decide) dX12_named_33 hpost
  exact hlp_118 _ 0 _ _ _ (Nat.lt_succ_self _) (by decide +kernel) hP hD hS (lv_sub hl [1, 2, 3, 4, 0] rfl)
set_option maxHeartbeats 4000000 in
set_option maxRecDepth 100000 in
theorem r_named_4_13 (l : Launch) (G : va_G) (cA : zCA) (h0 : Nat) (m_status : Int32) (m_thrown : Int32) (m_above : Int64) (m_under : Int64) (a_traySort : Nat) (a_trayMany : Nat) (a_numbers : Nat) (a_tape : Nat) (m_taped : Int32) (m_textEnd : Int32) (m_faultKind : Int32) (m_faultAt : Int32) (m_bad : Int32) (m_badAt : Int32) (m_token : Int32) (m_at : Int32) (m_behind : Int32) (m_number : Int32) (m_letters : Int32) (m_word : Int64) (a_c : Nat) (a_words : Nat) (m_markMany : Int32) (a_there : Nat) (a_tried : Nat) (a_best : Nat) (a_found : Nat) (m_thereMany : Int32) (m_foundMany : Int32) (m_orderHow : Int32) (m_orderRing : Int32) (m_orderMany : Int32) (m_hasBest : Int32) (m_bestTop : Int64) (m_bestBy : Int64) (a_weights : Nat) (a_shared : Nat) (m_random : Int32) (m_truePlace : Int32) (m_trueWay : Int32) (m_seconds : Int32) (m_done : Int32) (m_feelings : Int32) (m_tries : Int32) (m_leftOver : Int32) (m_playDoor : Int32) (m_playRing : Int32) (m_isOpen : Int32) (m_isOver : Int32) (m_wasTried : Int32) (m_hasPlayed : Int32) (a_feltNow : Nat) (a_last : Nat) (a_kept : Nat) (m_hasSeconds : Int32) (m_hasTurned : Int32) (m_hasRound : Int32) (a_hasFeels : Nat) (a_isOn : Nat) (m_firstAct : Int32) (m_meanTop : Int64) (m_meanBy : Int64) (a_order : Nat) (m_rowMany : Int32) (m_newSteps : Int32) (g_words : Nat → Int64) (nn : Int32) (hr_nn : 0 ≤ nn.toInt ∧ nn.toInt ≤ 3) : zCi l yX12_named cX12_named 5 (some .int) ({ frames := 0, cells := 0, slots := 0, locals := 0 }) G cA [.ref h0, .int 4, .int 13, .int nn] [(h0, .inr (12, [.int m_status, .int m_thrown, .long m_above, .long m_under, .ref a_traySort, .ref a_trayMany, .ref a_numbers, .ref a_tape, .int m_taped, .int m_textEnd, .int m_faultKind, .int m_faultAt, .int m_bad, .int m_badAt, .int m_token, .int m_at, .int m_behind, .int m_number, .int m_letters, .long m_word, .ref a_c, .ref a_words, .int m_markMany, .ref a_there, .ref a_tried, .ref a_best, .ref a_found, .int m_thereMany, .int m_foundMany, .int m_orderHow, .int m_orderRing, .int m_orderMany, .int m_hasBest, .long m_bestTop, .long m_bestBy, .ref a_weights, .ref a_shared, .int m_random, .int m_truePlace, .int m_trueWay, .int m_seconds, .int m_done, .int m_feelings, .int m_tries, .int m_leftOver, .int m_playDoor, .int m_playRing, .int m_isOpen, .int m_isOver, .int m_wasTried, .int m_hasPlayed, .ref a_feltNow, .ref a_last, .ref a_kept, .int m_hasSeconds, .int m_hasTurned, .int m_hasRound, .ref a_hasFeels, .ref a_isOn, .int m_firstAct, .long m_meanTop, .long m_meanBy, .ref a_order, .int m_rowMany, .int m_newSteps])), (a_words, .inl (cA.1 1, 105, .inr (.inl g_words)))] (S := Unit) (fun (r : Int32) (u : Unit) => ((-1) ≤ r.toInt ∧ r.toInt ≤ 2) ∧ (r.toInt < nn.toInt)) (fun (u : Unit) => [(h0, .inr (12, [.int m_status, .int m_thrown, .long m_above, .long m_under, .ref a_traySort, .ref a_trayMany, .ref a_numbers, .ref a_tape, .int m_taped, .int m_textEnd, .int m_faultKind, .int m_faultAt, .int m_bad, .int m_badAt, .int m_token, .int m_at, .int m_behind, .int m_number, .int m_letters, .long m_word, .ref a_c, .ref a_words, .int m_markMany, .ref a_there, .ref a_tried, .ref a_best, .ref a_found, .int m_thereMany, .int m_foundMany, .int m_orderHow, .int m_orderRing, .int m_orderMany, .int m_hasBest, .long m_bestTop, .long m_bestBy, .ref a_weights, .ref a_shared, .int m_random, .int m_truePlace, .int m_trueWay, .int m_seconds, .int m_done, .int m_feelings, .int m_tries, .int m_leftOver, .int m_playDoor, .int m_playRing, .int m_isOpen, .int m_isOver, .int m_wasTried, .int m_hasPlayed, .ref a_feltNow, .ref a_last, .ref a_kept, .int m_hasSeconds, .int m_hasTurned, .int m_hasRound, .ref a_hasFeels, .ref a_isOn, .int m_firstAct, .long m_meanTop, .long m_meanBy, .ref a_order, .int m_rowMany, .int m_newSteps])), (a_words, .inl (cA.1 1, 105, .inr (.inl g_words)))]) 0 0 := by
  have hk_m1 : ((-1) : Int32).toInt = (-1) := by decide +kernel
  have hk_0 : (0 : Int32).toInt = 0 := by decide +kernel
  have hk_1 : (1 : Int32).toInt = 1 := by decide +kernel
  have hk_97 : (97 : Int32).toInt = 97 := by decide +kernel
  refine z_start2i (own := RX12) (by decide) (Nat.le_of_ble_eq_true rfl) rfl ?_
  intro p e s m args below meth c A ls Q hx hb hml hts hown hK hE hT hP hD hS hA hl hret
  have hl : lv_has ls 5 [(0, .ref h0), (1, .int 4), (2, .int 13), (3, .int nn)] := hl
  refine lv_iconst (v := 0) hx hb dX12_named_0 (by decide) ?_
  refine lv_istore (lv' := [(4, .int 0), (0, .ref h0), (1, .int 4), (2, .int 13), (3, .int nn)]) hx hb dX12_named_1 hl (by decide) rfl (fun ls hl => ?_)
  have hlp_48 : ∀ (n : Nat) (v_38 : Int32) (H : Heap) (locs : List Loc) (ls : Array Slot), (2147483647 - v_38.toInt).toNat < n → (0 ≤ v_38.toInt ∧ v_38.toInt ≤ 3) → va_P G vwCl [(h0, .inr (12, [.int m_status, .int m_thrown, .long m_above, .long m_under, .ref a_traySort, .ref a_trayMany, .ref a_numbers, .ref a_tape, .int m_taped, .int m_textEnd, .int m_faultKind, .int m_faultAt, .int m_bad, .int m_badAt, .int m_token, .int m_at, .int m_behind, .int m_number, .int m_letters, .long m_word, .ref a_c, .ref a_words, .int m_markMany, .ref a_there, .ref a_tried, .ref a_best, .ref a_found, .int m_thereMany, .int m_foundMany, .int m_orderHow, .int m_orderRing, .int m_orderMany, .int m_hasBest, .long m_bestTop, .long m_bestBy, .ref a_weights, .ref a_shared, .int m_random, .int m_truePlace, .int m_trueWay, .int m_seconds, .int m_done, .int m_feelings, .int m_tries, .int m_leftOver, .int m_playDoor, .int m_playRing, .int m_isOpen, .int m_isOver, .int m_wasTried, .int m_hasPlayed, .ref a_feltNow, .ref a_last, .ref a_kept, .int m_hasSeconds, .int m_hasTurned, .int m_hasRound, .ref a_hasFeels, .ref a_isOn, .int m_firstAct, .long m_meanTop, .long m_meanBy, .ref a_order, .int m_rowMany, .int m_newSteps])), (a_words, .inl (cA.1 1, 105, .inr (.inl g_words)))] H → va_D A [(h0, .inr (12, [.int m_status, .int m_thrown, .long m_above, .long m_under, .ref a_traySort, .ref a_trayMany, .ref a_numbers, .ref a_tape, .int m_taped, .int m_textEnd, .int m_faultKind, .int m_faultAt, .int m_bad, .int m_badAt, .int m_token, .int m_at, .int m_behind, .int m_number, .int m_letters, .long m_word, .ref a_c, .ref a_words, .int m_markMany, .ref a_there, .ref a_tried, .ref a_best, .ref a_found, .int m_thereMany, .int m_foundMany, .int m_orderHow, .int m_orderRing, .int m_orderMany, .int m_hasBest, .long m_bestTop, .long m_bestBy, .ref a_weights, .ref a_shared, .int m_random, .int m_truePlace, .int m_trueWay, .int m_seconds, .int m_done, .int m_feelings, .int m_tries, .int m_leftOver, .int m_playDoor, .int m_playRing, .int m_isOpen, .int m_isOver, .int m_wasTried, .int m_hasPlayed, .ref a_feltNow, .ref a_last, .ref a_kept, .int m_hasSeconds, .int m_hasTurned, .int m_hasRound, .ref a_hasFeels, .ref a_isOn, .int m_firstAct, .long m_meanTop, .long m_meanBy, .ref a_order, .int m_rowMany, .int m_newSteps])), (a_words, .inl (cA.1 1, 105, .inr (.inl g_words)))] → va_S A s.heap H locs → lv_has ls 5 [(0, .ref h0), (1, .int 4), (2, .int 13), (3, .int nn), (4, .int v_38)] → W p l e ({ frames := 0, cells := 0, slots := 0, locals := 0 }) s m args below meth c H locs 0 0 Q (F0 m 3 ls []) := by
    intro n
    induction n with
    | zero =>
      intro v_38 H locs ls hmu_hlp_48 hr_v_38 hP hD hS hl
      exact absurd hmu_hlp_48 (Nat.not_lt_zero _)
    | succ n ih_49 =>
      intro v_38 H locs ls hmu_hlp_48 hr_v_38 hP hD hS hl
      refine lv_iload hx hb dX12_named_3 (lv_at hl 4 rfl) ?_
      refine lv_iload_n hx hb dX12_named_5 rfl (lv_at hl 3 rfl) ?_
      refine lv_icmp_ge (tgt := 40) hx hb dX12_named_6 (by decide) (fun c_50 => ?_) (fun c_50 => ?_)
      · have b_51 := z_fgeT c_50
        refine lv_iconst (v := (-1)) hx hb dX12_named_40 (by decide) ?_
        have hpost : ((-1) ≤ ((-1) : Int32).toInt ∧ ((-1) : Int32).toInt ≤ 2) ∧ (((-1) : Int32).toInt < nn.toInt) := ⟨(by decide +kernel), (by omega)⟩
        exact hret _ _ _ _ _ _ () [0, 1] hP hD hS rfl (by decide) dX12_named_41 hpost
      · have b_52 := z_fltF c_50
        refine lv_aload_n hx hb dX12_named_9 rfl (lv_at hl 0 rfl) ?_
        refine va_get (D := G) (ci := 12) (v := .ref a_words) (C := RX12) (T := TX12) (N := 65) hx hb hts inT12 hown hK hP 0 rfl rfl 21 (by decide) (hts _ tw_1906) (fun _ h9 => h9) rfl dX12_named_10 ?_
        refine lv_bipush (v := 21) hx hb dX12_named_13 (by decide) ?_
        refine lv_iload_n hx hb dX12_named_15 rfl (lv_at hl 1 rfl) ?_
        refine lv_imul hx hb dX12_named_16 ?_
        refine z_topi (y := 84) (by decide +kernel) ?_
        refine lv_iload_n hx hb dX12_named_17 rfl (lv_at hl 2 rfl) ?_
        refine lv_iadd hx hb dX12_named_18 ?_
        refine z_topi (y := 97) (by decide +kernel) ?_
        refine lv_iload hx hb dX12_named_19 (lv_at hl 4 rfl) ?_
        refine lv_iadd hx hb dX12_named_21 ?_
        refine lv_topi (fun x_53 he_x_53 => ?_)
        have hq_x_53 := z_addq he_x_53 hk_97 (rfl : v_38.toInt = _) (by omega) (by omega)
        refine va_lald hx hb hK hP 1 1 rfl rfl (z_inN (by omega) (by omega)) dX12_named_22 ?_
        refine lv_topl (fun x_54 he_x_54 => ?_)
        refine lv_aload_n hx hb dX12_named_23 rfl (lv_at hl 0 rfl) ?_
        refine va_get (D := G) (ci := 12) (v := .long m_word) (C := RX12) (T := TX12) (N := 65) hx hb hts inT12 hown hK hP 0 rfl rfl 19 (by decide) (hts _ tw_1904) (fun _ h9 => h9) rfl dX12_named_24 ?_
        refine W.lcmp hx hb dX12_named_27 ?_
        refine lv_if_ne (tgt := 34) hx hb dX12_named_28 (by decide) (fun c_55 => ?_) (fun c_55 => ?_)
        · have b_56 := z_fneTl c_55
          obtain ⟨x_57, he_x_57⟩ : ∃ z : Int32, z = v_38 + 1 := ⟨_, rfl⟩
          have hq_x_57 := z_addq he_x_57 (rfl : v_38.toInt = _) hk_1 (by omega) (by omega)
          refine lv_iinc (v := x_57) (lv' := [(4, .int x_57), (0, .ref h0), (1, .int 4), (2, .int 13), (3, .int nn)]) hx hb dX12_named_34 hl (k := 4) rfl ((z_ofi (by decide +kernel)).trans he_x_57.symm) (by decide) rfl (fun ls hl => ?_)
          refine lv_goto (tgt := 3) hx hb dX12_named_37 (by decide) ?_
          exact ih_49 x_57 H locs ls (by omega) (by omega) hP hD hS (lv_sub hl [1, 2, 3, 4, 0] rfl)
        · have b_58 := z_feqFl c_55
          refine lv_iload hx hb dX12_named_31 (lv_at hl 4 rfl) ?_
          have hpost : ((-1) ≤ v_38.toInt ∧ v_38.toInt ≤ 2) ∧ (v_38.toInt < nn.toInt) := ⟨(by omega), (by omega)⟩
          exact hret _ _ _ _ _ _ () [0, 1] hP hD hS rfl (by decide) dX12_named_33 hpost
  exact hlp_48 _ 0 _ _ _ (Nat.lt_succ_self _) (by decide +kernel) hP hD hS (lv_sub hl [1, 2, 3, 4, 0] rfl)
set_option maxHeartbeats 4000000 in
set_option maxRecDepth 100000 in
theorem r_named_4_16 (l : Launch) (G : va_G) (cA : zCA) (h0 : Nat) (m_status : Int32) (m_thrown : Int32) (m_above : Int64) (m_under : Int64) (a_traySort : Nat) (a_trayMany : Nat) (a_numbers : Nat) (a_tape : Nat) (m_taped : Int32) (m_textEnd : Int32) (m_faultKind : Int32) (m_faultAt : Int32) (m_bad : Int32) (m_badAt : Int32) (m_token : Int32) (m_at : Int32) (m_behind : Int32) (m_number : Int32) (m_letters : Int32) (m_word : Int64) (a_c : Nat) (a_words : Nat) (m_markMany : Int32) (a_there : Nat) (a_tried : Nat) (a_best : Nat) (a_found : Nat) (m_thereMany : Int32) (m_foundMany : Int32) (m_orderHow : Int32) (m_orderRing : Int32) (m_orderMany : Int32) (m_hasBest : Int32) (m_bestTop : Int64) (m_bestBy : Int64) (a_weights : Nat) (a_shared : Nat) (m_random : Int32) (m_truePlace : Int32) (m_trueWay : Int32) (m_seconds : Int32) (m_done : Int32) (m_feelings : Int32) (m_tries : Int32) (m_leftOver : Int32) (m_playDoor : Int32) (m_playRing : Int32) (m_isOpen : Int32) (m_isOver : Int32) (m_wasTried : Int32) (m_hasPlayed : Int32) (a_feltNow : Nat) (a_last : Nat) (a_kept : Nat) (m_hasSeconds : Int32) (m_hasTurned : Int32) (m_hasRound : Int32) (a_hasFeels : Nat) (a_isOn : Nat) (m_firstAct : Int32) (m_meanTop : Int64) (m_meanBy : Int64) (a_order : Nat) (m_rowMany : Int32) (m_newSteps : Int32) (g_words : Nat → Int64) (nn : Int32) (hr_nn : 0 ≤ nn.toInt ∧ nn.toInt ≤ 5) : zCi l yX12_named cX12_named 5 (some .int) ({ frames := 0, cells := 0, slots := 0, locals := 0 }) G cA [.ref h0, .int 4, .int 16, .int nn] [(h0, .inr (12, [.int m_status, .int m_thrown, .long m_above, .long m_under, .ref a_traySort, .ref a_trayMany, .ref a_numbers, .ref a_tape, .int m_taped, .int m_textEnd, .int m_faultKind, .int m_faultAt, .int m_bad, .int m_badAt, .int m_token, .int m_at, .int m_behind, .int m_number, .int m_letters, .long m_word, .ref a_c, .ref a_words, .int m_markMany, .ref a_there, .ref a_tried, .ref a_best, .ref a_found, .int m_thereMany, .int m_foundMany, .int m_orderHow, .int m_orderRing, .int m_orderMany, .int m_hasBest, .long m_bestTop, .long m_bestBy, .ref a_weights, .ref a_shared, .int m_random, .int m_truePlace, .int m_trueWay, .int m_seconds, .int m_done, .int m_feelings, .int m_tries, .int m_leftOver, .int m_playDoor, .int m_playRing, .int m_isOpen, .int m_isOver, .int m_wasTried, .int m_hasPlayed, .ref a_feltNow, .ref a_last, .ref a_kept, .int m_hasSeconds, .int m_hasTurned, .int m_hasRound, .ref a_hasFeels, .ref a_isOn, .int m_firstAct, .long m_meanTop, .long m_meanBy, .ref a_order, .int m_rowMany, .int m_newSteps])), (a_words, .inl (cA.1 1, 105, .inr (.inl g_words)))] (S := Unit) (fun (r : Int32) (u : Unit) => ((-1) ≤ r.toInt ∧ r.toInt ≤ 4) ∧ (r.toInt < nn.toInt)) (fun (u : Unit) => [(h0, .inr (12, [.int m_status, .int m_thrown, .long m_above, .long m_under, .ref a_traySort, .ref a_trayMany, .ref a_numbers, .ref a_tape, .int m_taped, .int m_textEnd, .int m_faultKind, .int m_faultAt, .int m_bad, .int m_badAt, .int m_token, .int m_at, .int m_behind, .int m_number, .int m_letters, .long m_word, .ref a_c, .ref a_words, .int m_markMany, .ref a_there, .ref a_tried, .ref a_best, .ref a_found, .int m_thereMany, .int m_foundMany, .int m_orderHow, .int m_orderRing, .int m_orderMany, .int m_hasBest, .long m_bestTop, .long m_bestBy, .ref a_weights, .ref a_shared, .int m_random, .int m_truePlace, .int m_trueWay, .int m_seconds, .int m_done, .int m_feelings, .int m_tries, .int m_leftOver, .int m_playDoor, .int m_playRing, .int m_isOpen, .int m_isOver, .int m_wasTried, .int m_hasPlayed, .ref a_feltNow, .ref a_last, .ref a_kept, .int m_hasSeconds, .int m_hasTurned, .int m_hasRound, .ref a_hasFeels, .ref a_isOn, .int m_firstAct, .long m_meanTop, .long m_meanBy, .ref a_order, .int m_rowMany, .int m_newSteps])), (a_words, .inl (cA.1 1, 105, .inr (.inl g_words)))]) 0 0 := by
  have hk_m1 : ((-1) : Int32).toInt = (-1) := by decide +kernel
  have hk_0 : (0 : Int32).toInt = 0 := by decide +kernel
  have hk_1 : (1 : Int32).toInt = 1 := by decide +kernel
  have hk_100 : (100 : Int32).toInt = 100 := by decide +kernel
  refine z_start2i (own := RX12) (by decide) (Nat.le_of_ble_eq_true rfl) rfl ?_
  intro p e s m args below meth c A ls Q hx hb hml hts hown hK hE hT hP hD hS hA hl hret
  have hl : lv_has ls 5 [(0, .ref h0), (1, .int 4), (2, .int 16), (3, .int nn)] := hl
  refine lv_iconst (v := 0) hx hb dX12_named_0 (by decide) ?_
  refine lv_istore (lv' := [(4, .int 0), (0, .ref h0), (1, .int 4), (2, .int 16), (3, .int nn)]) hx hb dX12_named_1 hl (by decide) rfl (fun ls hl => ?_)
  have hlp_68 : ∀ (n : Nat) (v_58 : Int32) (H : Heap) (locs : List Loc) (ls : Array Slot), (2147483647 - v_58.toInt).toNat < n → (0 ≤ v_58.toInt ∧ v_58.toInt ≤ 5) → va_P G vwCl [(h0, .inr (12, [.int m_status, .int m_thrown, .long m_above, .long m_under, .ref a_traySort, .ref a_trayMany, .ref a_numbers, .ref a_tape, .int m_taped, .int m_textEnd, .int m_faultKind, .int m_faultAt, .int m_bad, .int m_badAt, .int m_token, .int m_at, .int m_behind, .int m_number, .int m_letters, .long m_word, .ref a_c, .ref a_words, .int m_markMany, .ref a_there, .ref a_tried, .ref a_best, .ref a_found, .int m_thereMany, .int m_foundMany, .int m_orderHow, .int m_orderRing, .int m_orderMany, .int m_hasBest, .long m_bestTop, .long m_bestBy, .ref a_weights, .ref a_shared, .int m_random, .int m_truePlace, .int m_trueWay, .int m_seconds, .int m_done, .int m_feelings, .int m_tries, .int m_leftOver, .int m_playDoor, .int m_playRing, .int m_isOpen, .int m_isOver, .int m_wasTried, .int m_hasPlayed, .ref a_feltNow, .ref a_last, .ref a_kept, .int m_hasSeconds, .int m_hasTurned, .int m_hasRound, .ref a_hasFeels, .ref a_isOn, .int m_firstAct, .long m_meanTop, .long m_meanBy, .ref a_order, .int m_rowMany, .int m_newSteps])), (a_words, .inl (cA.1 1, 105, .inr (.inl g_words)))] H → va_D A [(h0, .inr (12, [.int m_status, .int m_thrown, .long m_above, .long m_under, .ref a_traySort, .ref a_trayMany, .ref a_numbers, .ref a_tape, .int m_taped, .int m_textEnd, .int m_faultKind, .int m_faultAt, .int m_bad, .int m_badAt, .int m_token, .int m_at, .int m_behind, .int m_number, .int m_letters, .long m_word, .ref a_c, .ref a_words, .int m_markMany, .ref a_there, .ref a_tried, .ref a_best, .ref a_found, .int m_thereMany, .int m_foundMany, .int m_orderHow, .int m_orderRing, .int m_orderMany, .int m_hasBest, .long m_bestTop, .long m_bestBy, .ref a_weights, .ref a_shared, .int m_random, .int m_truePlace, .int m_trueWay, .int m_seconds, .int m_done, .int m_feelings, .int m_tries, .int m_leftOver, .int m_playDoor, .int m_playRing, .int m_isOpen, .int m_isOver, .int m_wasTried, .int m_hasPlayed, .ref a_feltNow, .ref a_last, .ref a_kept, .int m_hasSeconds, .int m_hasTurned, .int m_hasRound, .ref a_hasFeels, .ref a_isOn, .int m_firstAct, .long m_meanTop, .long m_meanBy, .ref a_order, .int m_rowMany, .int m_newSteps])), (a_words, .inl (cA.1 1, 105, .inr (.inl g_words)))] → va_S A s.heap H locs → lv_has ls 5 [(0, .ref h0), (1, .int 4), (2, .int 16), (3, .int nn), (4, .int v_58)] → W p l e ({ frames := 0, cells := 0, slots := 0, locals := 0 }) s m args below meth c H locs 0 0 Q (F0 m 3 ls []) := by
    intro n
    induction n with
    | zero =>
      intro v_58 H locs ls hmu_hlp_68 hr_v_58 hP hD hS hl
      exact absurd hmu_hlp_68 (Nat.not_lt_zero _)
    | succ n ih_69 =>
      intro v_58 H locs ls hmu_hlp_68 hr_v_58 hP hD hS hl
      refine lv_iload hx hb dX12_named_3 (lv_at hl 4 rfl) ?_
      refine lv_iload_n hx hb dX12_named_5 rfl (lv_at hl 3 rfl) ?_
      refine lv_icmp_ge (tgt := 40) hx hb dX12_named_6 (by decide) (fun c_70 => ?_) (fun c_70 => ?_)
      · have b_71 := z_fgeT c_70
        refine lv_iconst (v := (-1)) hx hb dX12_named_40 (by decide) ?_
        have hpost : ((-1) ≤ ((-1) : Int32).toInt ∧ ((-1) : Int32).toInt ≤ 4) ∧ (((-1) : Int32).toInt < nn.toInt) := ⟨(by decide +kernel), (by omega)⟩
        exact hret _ _ _ _ _ _ () [0, 1] hP hD hS rfl (by decide) dX12_named_41 hpost
      · have b_72 := z_fltF c_70
        refine lv_aload_n hx hb dX12_named_9 rfl (lv_at hl 0 rfl) ?_
        refine va_get (D := G) (ci := 12) (v := .ref a_words) (C := RX12) (T := TX12) (N := 65) hx hb hts inT12 hown hK hP 0 rfl rfl 21 (by decide) (hts _ tw_1906) (fun _ h9 => h9) rfl dX12_named_10 ?_
        refine lv_bipush (v := 21) hx hb dX12_named_13 (by decide) ?_
        refine lv_iload_n hx hb dX12_named_15 rfl (lv_at hl 1 rfl) ?_
        refine lv_imul hx hb dX12_named_16 ?_
        refine z_topi (y := 84) (by decide +kernel) ?_
        refine lv_iload_n hx hb dX12_named_17 rfl (lv_at hl 2 rfl) ?_
        refine lv_iadd hx hb dX12_named_18 ?_
        refine z_topi (y := 100) (by decide +kernel) ?_
        refine lv_iload hx hb dX12_named_19 (lv_at hl 4 rfl) ?_
        refine lv_iadd hx hb dX12_named_21 ?_
        refine lv_topi (fun x_73 he_x_73 => ?_)
        have hq_x_73 := z_addq he_x_73 hk_100 (rfl : v_58.toInt = _) (by omega) (by omega)
        refine va_lald hx hb hK hP 1 1 rfl rfl (z_inN (by omega) (by omega)) dX12_named_22 ?_
        refine lv_topl (fun x_74 he_x_74 => ?_)
        refine lv_aload_n hx hb dX12_named_23 rfl (lv_at hl 0 rfl) ?_
        refine va_get (D := G) (ci := 12) (v := .long m_word) (C := RX12) (T := TX12) (N := 65) hx hb hts inT12 hown hK hP 0 rfl rfl 19 (by decide) (hts _ tw_1904) (fun _ h9 => h9) rfl dX12_named_24 ?_
        refine W.lcmp hx hb dX12_named_27 ?_
        refine lv_if_ne (tgt := 34) hx hb dX12_named_28 (by decide) (fun c_75 => ?_) (fun c_75 => ?_)
        · have b_76 := z_fneTl c_75
          obtain ⟨x_77, he_x_77⟩ : ∃ z : Int32, z = v_58 + 1 := ⟨_, rfl⟩
          have hq_x_77 := z_addq he_x_77 (rfl : v_58.toInt = _) hk_1 (by omega) (by omega)
          refine lv_iinc (v := x_77) (lv' := [(4, .int x_77), (0, .ref h0), (1, .int 4), (2, .int 16), (3, .int nn)]) hx hb dX12_named_34 hl (k := 4) rfl ((z_ofi (by decide +kernel)).trans he_x_77.symm) (by decide) rfl (fun ls hl => ?_)
          refine lv_goto (tgt := 3) hx hb dX12_named_37 (by decide) ?_
          exact ih_69 x_77 H locs ls (by omega) (by omega) hP hD hS (lv_sub hl [1, 2, 3, 4, 0] rfl)
        · have b_78 := z_feqFl c_75
          refine lv_iload hx hb dX12_named_31 (lv_at hl 4 rfl) ?_
          have hpost : ((-1) ≤ v_58.toInt ∧ v_58.toInt ≤ 4) ∧ (v_58.toInt < nn.toInt) := ⟨(by omega), (by omega)⟩
          exact hret _ _ _ _ _ _ () [0, 1] hP hD hS rfl (by decide) dX12_named_33 hpost
  exact hlp_68 _ 0 _ _ _ (Nat.lt_succ_self _) (by decide +kernel) hP hD hS (lv_sub hl [1, 2, 3, 4, 0] rfl)
set_option maxHeartbeats 4000000 in
set_option maxRecDepth 100000 in
theorem r_isTaken (l : Launch) (G : va_G) (cA : zCA) (h0 : Nat) (m_status : Int32) (m_thrown : Int32) (m_above : Int64) (m_under : Int64) (a_traySort : Nat) (a_trayMany : Nat) (a_numbers : Nat) (a_tape : Nat) (m_taped : Int32) (m_textEnd : Int32) (m_faultKind : Int32) (m_faultAt : Int32) (m_bad : Int32) (m_badAt : Int32) (m_token : Int32) (m_at : Int32) (m_behind : Int32) (m_number : Int32) (m_letters : Int32) (m_word : Int64) (a_c : Nat) (a_words : Nat) (m_markMany : Int32) (a_there : Nat) (a_tried : Nat) (a_best : Nat) (a_found : Nat) (m_thereMany : Int32) (m_foundMany : Int32) (m_orderHow : Int32) (m_orderRing : Int32) (m_orderMany : Int32) (m_hasBest : Int32) (m_bestTop : Int64) (m_bestBy : Int64) (a_weights : Nat) (a_shared : Nat) (m_random : Int32) (m_truePlace : Int32) (m_trueWay : Int32) (m_seconds : Int32) (m_done : Int32) (m_feelings : Int32) (m_tries : Int32) (m_leftOver : Int32) (m_playDoor : Int32) (m_playRing : Int32) (m_isOpen : Int32) (m_isOver : Int32) (m_wasTried : Int32) (m_hasPlayed : Int32) (a_feltNow : Nat) (a_last : Nat) (a_kept : Nat) (m_hasSeconds : Int32) (m_hasTurned : Int32) (m_hasRound : Int32) (a_hasFeels : Nat) (a_isOn : Nat) (m_firstAct : Int32) (m_meanTop : Int64) (m_meanBy : Int64) (a_order : Nat) (m_rowMany : Int32) (m_newSteps : Int32) (g_c : Nat → Int32) (g_words : Nat → Int64) (hC_g_c : zC g_c) : zCi l yX12_isTaken cX12_isTaken 1 (some .boolean) ({ frames := 1, cells := 0, slots := 0, locals := 24 }) G cA [.ref h0] [(h0, .inr (12, [.int m_status, .int m_thrown, .long m_above, .long m_under, .ref a_traySort, .ref a_trayMany, .ref a_numbers, .ref a_tape, .int m_taped, .int m_textEnd, .int m_faultKind, .int m_faultAt, .int m_bad, .int m_badAt, .int m_token, .int m_at, .int m_behind, .int m_number, .int m_letters, .long m_word, .ref a_c, .ref a_words, .int m_markMany, .ref a_there, .ref a_tried, .ref a_best, .ref a_found, .int m_thereMany, .int m_foundMany, .int m_orderHow, .int m_orderRing, .int m_orderMany, .int m_hasBest, .long m_bestTop, .long m_bestBy, .ref a_weights, .ref a_shared, .int m_random, .int m_truePlace, .int m_trueWay, .int m_seconds, .int m_done, .int m_feelings, .int m_tries, .int m_leftOver, .int m_playDoor, .int m_playRing, .int m_isOpen, .int m_isOver, .int m_wasTried, .int m_hasPlayed, .ref a_feltNow, .ref a_last, .ref a_kept, .int m_hasSeconds, .int m_hasTurned, .int m_hasRound, .ref a_hasFeels, .ref a_isOn, .int m_firstAct, .long m_meanTop, .long m_meanBy, .ref a_order, .int m_rowMany, .int m_newSteps])), (a_c, .inl (cA.1 0, 1825, .inl g_c)), (a_words, .inl (cA.1 1, 105, .inr (.inl g_words)))] (S := Unit) (fun (r : Int32) (u : Unit) => (r = 0 ∧ True) ∨ (r = 1 ∧ True)) (fun (u : Unit) => [(h0, .inr (12, [.int m_status, .int m_thrown, .long m_above, .long m_under, .ref a_traySort, .ref a_trayMany, .ref a_numbers, .ref a_tape, .int m_taped, .int m_textEnd, .int m_faultKind, .int m_faultAt, .int m_bad, .int m_badAt, .int m_token, .int m_at, .int m_behind, .int m_number, .int m_letters, .long m_word, .ref a_c, .ref a_words, .int m_markMany, .ref a_there, .ref a_tried, .ref a_best, .ref a_found, .int m_thereMany, .int m_foundMany, .int m_orderHow, .int m_orderRing, .int m_orderMany, .int m_hasBest, .long m_bestTop, .long m_bestBy, .ref a_weights, .ref a_shared, .int m_random, .int m_truePlace, .int m_trueWay, .int m_seconds, .int m_done, .int m_feelings, .int m_tries, .int m_leftOver, .int m_playDoor, .int m_playRing, .int m_isOpen, .int m_isOver, .int m_wasTried, .int m_hasPlayed, .ref a_feltNow, .ref a_last, .ref a_kept, .int m_hasSeconds, .int m_hasTurned, .int m_hasRound, .ref a_hasFeels, .ref a_isOn, .int m_firstAct, .long m_meanTop, .long m_meanBy, .ref a_order, .int m_rowMany, .int m_newSteps])), (a_c, .inl (cA.1 0, 1825, .inl g_c)), (a_words, .inl (cA.1 1, 105, .inr (.inl g_words)))]) 0 0 := by
  have hk_0 : (0 : Int32).toInt = 0 := by decide +kernel
  have hk_3 : (3 : Int32).toInt = 3 := by decide +kernel
  have hk_4 : (4 : Int32).toInt = 4 := by decide +kernel
  have hk_13 : (13 : Int32).toInt = 13 := by decide +kernel
  have hk_16 : (16 : Int32).toInt = 16 := by decide +kernel
  refine z_start2z (own := RX12) (by decide) (Nat.le_of_ble_eq_true rfl) rfl ?_
  intro p e s m args below meth c A ls Q hx hb hml hts hown hK hE hT hP hD hS hA hl hret
  have hl : lv_has ls 1 [(0, .ref h0)] := hl
  refine lv_aload_n hx hb dX12_isTaken_0 rfl (lv_at hl 0 rfl) ?_
  refine lv_iconst (v := 4) hx hb dX12_isTaken_1 (by decide) ?_
  refine lv_iconst (v := 0) hx hb dX12_isTaken_2 (by decide) ?_
  refine lv_aload_n hx hb dX12_isTaken_3 rfl (lv_at hl 0 rfl) ?_
  refine va_get (D := G) (ci := 12) (v := .ref a_c) (C := RX12) (T := TX12) (N := 65) hx hb hts inT12 hown hK hP 0 rfl rfl 20 (by decide) (hts _ tw_1905) (fun _ h9 => h9) rfl dX12_isTaken_4 ?_
  refine lv_sipush (v := 1460) hx hb dX12_isTaken_7 (by decide) ?_
  refine va_iald hx hb hK hP 1 0 rfl rfl (z_in (i := 1460) (n := 1825) (by decide +kernel) (by decide +kernel)) dX12_isTaken_10 ?_
  refine lv_topi (fun x_1 he_x_1 => ?_)
  have hr_x_1 := z_ctk hC_g_c he_x_1 (k := 1460) (lo := 0) (hi := 3) (by decide +kernel) (by decide +kernel) (by decide +kernel)
  refine z_callVi (As := [.int 4, .int 0, .int x_1]) (rest := []) (wr := [(a_c, .inl (cA.1 0, 1825, .inl g_c))]) ⟨hx, hb, hml, hown, hts⟩ hK hE hT hP hD hS hA (r_named_4_0 l G cA h0 m_status m_thrown m_above m_under a_traySort a_trayMany a_numbers a_tape m_taped m_textEnd m_faultKind m_faultAt m_bad m_badAt m_token m_at m_behind m_number m_letters m_word a_c a_words m_markMany a_there a_tried a_best a_found m_thereMany m_foundMany m_orderHow m_orderRing m_orderMany m_hasBest m_bestTop m_bestBy a_weights a_shared m_random m_truePlace m_trueWay m_seconds m_done m_feelings m_tries m_leftOver m_playDoor m_playRing m_isOpen m_isOver m_wasTried m_hasPlayed a_feltNow a_last a_kept m_hasSeconds m_hasTurned m_hasRound a_hasFeels a_isOn m_firstAct m_meanTop m_meanBy a_order m_rowMany m_newSteps g_words x_1 hr_x_1) lk_RX12_196 ⟨rfl, rfl⟩ ⟨Nat.le_of_ble_eq_true rfl, Nat.le_of_ble_eq_true rfl⟩ 12 rfl rfl rfl [0, 2] [1] rfl rfl (by decide) rfl hl.1 rfl (lv_room (Nat.le_of_ble_eq_true rfl)) dX12_isTaken_11 ⟨Nat.le_of_ble_eq_true rfl, Nat.le_of_ble_eq_true rfl⟩ (fun r_2 u_3 H locs hw hP hD hS => ?_)
  obtain ⟨hr_r_2, hf_4⟩ := hw
  refine lv_if_ge (tgt := 70) hx hb dX12_isTaken_14 (by decide) (fun c_5 => ?_) (fun c_5 => ?_)
  · have b_6 := z_fgeT c_5
    refine lv_iconst (v := 1) hx hb dX12_isTaken_70 (by decide) ?_
    refine lv_goto (tgt := 75) hx hb dX12_isTaken_71 (by decide) ?_
    have hpost : ((1 : Int32) = 0 ∧ True) ∨ ((1 : Int32) = 1 ∧ True) := (Or.inr ⟨rfl, trivial⟩)
    exact hret _ _ _ _ _ _ () [1, 0, 2] hP hD hS rfl (by decide) dX12_isTaken_75 (Or.inr rfl) hpost
  · have b_7 := z_fltF c_5
    refine lv_aload_n hx hb dX12_isTaken_17 rfl (lv_at hl 0 rfl) ?_
    refine lv_iconst (v := 4) hx hb dX12_isTaken_18 (by decide) ?_
    refine lv_iconst (v := 3) hx hb dX12_isTaken_19 (by decide) ?_
    refine lv_aload_n hx hb dX12_isTaken_20 rfl (lv_at hl 0 rfl) ?_
    refine va_get (D := G) (ci := 12) (v := .ref a_c) (C := RX12) (T := TX12) (N := 65) hx hb hts inT12 hown hK hP 1 rfl rfl 20 (by decide) (hts _ tw_1905) (fun _ h9 => h9) rfl dX12_isTaken_21 ?_
    refine lv_sipush (v := 1461) hx hb dX12_isTaken_24 (by decide) ?_
    refine va_iald hx hb hK hP 0 0 rfl rfl (z_in (i := 1461) (n := 1825) (by decide +kernel) (by decide +kernel)) dX12_isTaken_27 ?_
    refine lv_topi (fun x_8 he_x_8 => ?_)
    have hr_x_8 := z_ctk hC_g_c he_x_8 (k := 1461) (lo := 0) (hi := 10) (by decide +kernel) (by decide +kernel) (by decide +kernel)
    refine z_callVi (As := [.int 4, .int 3, .int x_8]) (rest := []) (wr := [(a_c, .inl (cA.1 0, 1825, .inl g_c))]) ⟨hx, hb, hml, hown, hts⟩ hK hE hT hP hD hS hA (r_named_4_3 l G cA h0 m_status m_thrown m_above m_under a_traySort a_trayMany a_numbers a_tape m_taped m_textEnd m_faultKind m_faultAt m_bad m_badAt m_token m_at m_behind m_number m_letters m_word a_c a_words m_markMany a_there a_tried a_best a_found m_thereMany m_foundMany m_orderHow m_orderRing m_orderMany m_hasBest m_bestTop m_bestBy a_weights a_shared m_random m_truePlace m_trueWay m_seconds m_done m_feelings m_tries m_leftOver m_playDoor m_playRing m_isOpen m_isOver m_wasTried m_hasPlayed a_feltNow a_last a_kept m_hasSeconds m_hasTurned m_hasRound a_hasFeels a_isOn m_firstAct m_meanTop m_meanBy a_order m_rowMany m_newSteps g_words x_8 hr_x_8) lk_RX12_196 ⟨rfl, rfl⟩ ⟨Nat.le_of_ble_eq_true rfl, Nat.le_of_ble_eq_true rfl⟩ 12 rfl rfl rfl [1, 2] [0] rfl rfl (by decide) rfl hl.1 rfl (lv_room (Nat.le_of_ble_eq_true rfl)) dX12_isTaken_28 ⟨Nat.le_of_ble_eq_true rfl, Nat.le_of_ble_eq_true rfl⟩ (fun r_9 u_10 H locs hw hP hD hS => ?_)
    obtain ⟨hr_r_9, hf_11⟩ := hw
    refine lv_if_ge (tgt := 70) hx hb dX12_isTaken_31 (by decide) (fun c_12 => ?_) (fun c_12 => ?_)
    · have b_13 := z_fgeT c_12
      refine lv_iconst (v := 1) hx hb dX12_isTaken_70 (by decide) ?_
      refine lv_goto (tgt := 75) hx hb dX12_isTaken_71 (by decide) ?_
      have hpost : ((1 : Int32) = 0 ∧ True) ∨ ((1 : Int32) = 1 ∧ True) := (Or.inr ⟨rfl, trivial⟩)
      exact hret _ _ _ _ _ _ () [1, 0, 2] hP hD hS rfl (by decide) dX12_isTaken_75 (Or.inr rfl) hpost
    · have b_14 := z_fltF c_12
      refine lv_aload_n hx hb dX12_isTaken_34 rfl (lv_at hl 0 rfl) ?_
      refine lv_iconst (v := 4) hx hb dX12_isTaken_35 (by decide) ?_
      refine lv_bipush (v := 13) hx hb dX12_isTaken_36 (by decide) ?_
      refine lv_aload_n hx hb dX12_isTaken_38 rfl (lv_at hl 0 rfl) ?_
      refine va_get (D := G) (ci := 12) (v := .ref a_c) (C := RX12) (T := TX12) (N := 65) hx hb hts inT12 hown hK hP 1 rfl rfl 20 (by decide) (hts _ tw_1905) (fun _ h9 => h9) rfl dX12_isTaken_39 ?_
      refine lv_sipush (v := 1462) hx hb dX12_isTaken_42 (by decide) ?_
      refine va_iald hx hb hK hP 0 0 rfl rfl (z_in (i := 1462) (n := 1825) (by decide +kernel) (by decide +kernel)) dX12_isTaken_45 ?_
      refine lv_topi (fun x_15 he_x_15 => ?_)
      have hr_x_15 := z_ctk hC_g_c he_x_15 (k := 1462) (lo := 0) (hi := 3) (by decide +kernel) (by decide +kernel) (by decide +kernel)
      refine z_callVi (As := [.int 4, .int 13, .int x_15]) (rest := []) (wr := [(a_c, .inl (cA.1 0, 1825, .inl g_c))]) ⟨hx, hb, hml, hown, hts⟩ hK hE hT hP hD hS hA (r_named_4_13 l G cA h0 m_status m_thrown m_above m_under a_traySort a_trayMany a_numbers a_tape m_taped m_textEnd m_faultKind m_faultAt m_bad m_badAt m_token m_at m_behind m_number m_letters m_word a_c a_words m_markMany a_there a_tried a_best a_found m_thereMany m_foundMany m_orderHow m_orderRing m_orderMany m_hasBest m_bestTop m_bestBy a_weights a_shared m_random m_truePlace m_trueWay m_seconds m_done m_feelings m_tries m_leftOver m_playDoor m_playRing m_isOpen m_isOver m_wasTried m_hasPlayed a_feltNow a_last a_kept m_hasSeconds m_hasTurned m_hasRound a_hasFeels a_isOn m_firstAct m_meanTop m_meanBy a_order m_rowMany m_newSteps g_words x_15 hr_x_15) lk_RX12_196 ⟨rfl, rfl⟩ ⟨Nat.le_of_ble_eq_true rfl, Nat.le_of_ble_eq_true rfl⟩ 12 rfl rfl rfl [1, 2] [0] rfl rfl (by decide) rfl hl.1 rfl (lv_room (Nat.le_of_ble_eq_true rfl)) dX12_isTaken_46 ⟨Nat.le_of_ble_eq_true rfl, Nat.le_of_ble_eq_true rfl⟩ (fun r_16 u_17 H locs hw hP hD hS => ?_)
      obtain ⟨hr_r_16, hf_18⟩ := hw
      refine lv_if_ge (tgt := 70) hx hb dX12_isTaken_49 (by decide) (fun c_19 => ?_) (fun c_19 => ?_)
      · have b_20 := z_fgeT c_19
        refine lv_iconst (v := 1) hx hb dX12_isTaken_70 (by decide) ?_
        refine lv_goto (tgt := 75) hx hb dX12_isTaken_71 (by decide) ?_
        have hpost : ((1 : Int32) = 0 ∧ True) ∨ ((1 : Int32) = 1 ∧ True) := (Or.inr ⟨rfl, trivial⟩)
        exact hret _ _ _ _ _ _ () [1, 0, 2] hP hD hS rfl (by decide) dX12_isTaken_75 (Or.inr rfl) hpost
      · have b_21 := z_fltF c_19
        refine lv_aload_n hx hb dX12_isTaken_52 rfl (lv_at hl 0 rfl) ?_
        refine lv_iconst (v := 4) hx hb dX12_isTaken_53 (by decide) ?_
        refine lv_bipush (v := 16) hx hb dX12_isTaken_54 (by decide) ?_
        refine lv_aload_n hx hb dX12_isTaken_56 rfl (lv_at hl 0 rfl) ?_
        refine va_get (D := G) (ci := 12) (v := .ref a_c) (C := RX12) (T := TX12) (N := 65) hx hb hts inT12 hown hK hP 1 rfl rfl 20 (by decide) (hts _ tw_1905) (fun _ h9 => h9) rfl dX12_isTaken_57 ?_
        refine lv_sipush (v := 1463) hx hb dX12_isTaken_60 (by decide) ?_
        refine va_iald hx hb hK hP 0 0 rfl rfl (z_in (i := 1463) (n := 1825) (by decide +kernel) (by decide +kernel)) dX12_isTaken_63 ?_
        refine lv_topi (fun x_22 he_x_22 => ?_)
        have hr_x_22 := z_ctk hC_g_c he_x_22 (k := 1463) (lo := 0) (hi := 5) (by decide +kernel) (by decide +kernel) (by decide +kernel)
        refine z_callVi (As := [.int 4, .int 16, .int x_22]) (rest := []) (wr := [(a_c, .inl (cA.1 0, 1825, .inl g_c))]) ⟨hx, hb, hml, hown, hts⟩ hK hE hT hP hD hS hA (r_named_4_16 l G cA h0 m_status m_thrown m_above m_under a_traySort a_trayMany a_numbers a_tape m_taped m_textEnd m_faultKind m_faultAt m_bad m_badAt m_token m_at m_behind m_number m_letters m_word a_c a_words m_markMany a_there a_tried a_best a_found m_thereMany m_foundMany m_orderHow m_orderRing m_orderMany m_hasBest m_bestTop m_bestBy a_weights a_shared m_random m_truePlace m_trueWay m_seconds m_done m_feelings m_tries m_leftOver m_playDoor m_playRing m_isOpen m_isOver m_wasTried m_hasPlayed a_feltNow a_last a_kept m_hasSeconds m_hasTurned m_hasRound a_hasFeels a_isOn m_firstAct m_meanTop m_meanBy a_order m_rowMany m_newSteps g_words x_22 hr_x_22) lk_RX12_196 ⟨rfl, rfl⟩ ⟨Nat.le_of_ble_eq_true rfl, Nat.le_of_ble_eq_true rfl⟩ 12 rfl rfl rfl [1, 2] [0] rfl rfl (by decide) rfl hl.1 rfl (lv_room (Nat.le_of_ble_eq_true rfl)) dX12_isTaken_64 ⟨Nat.le_of_ble_eq_true rfl, Nat.le_of_ble_eq_true rfl⟩ (fun r_23 u_24 H locs hw hP hD hS => ?_)
        obtain ⟨hr_r_23, hf_25⟩ := hw
        refine lv_if_lt (tgt := 74) hx hb dX12_isTaken_67 (by decide) (fun c_26 => ?_) (fun c_26 => ?_)
        · have b_27 := z_fltT c_26
          refine lv_iconst (v := 0) hx hb dX12_isTaken_74 (by decide) ?_
          have hpost : ((0 : Int32) = 0 ∧ True) ∨ ((0 : Int32) = 1 ∧ True) := (Or.inl ⟨rfl, trivial⟩)
          exact hret _ _ _ _ _ _ () [1, 0, 2] hP hD hS rfl (by decide) dX12_isTaken_75 (Or.inl rfl) hpost
        · have b_28 := z_fgeF c_26
          refine lv_iconst (v := 1) hx hb dX12_isTaken_70 (by decide) ?_
          refine lv_goto (tgt := 75) hx hb dX12_isTaken_71 (by decide) ?_
          have hpost : ((1 : Int32) = 0 ∧ True) ∨ ((1 : Int32) = 1 ∧ True) := (Or.inr ⟨rfl, trivial⟩)
          exact hret _ _ _ _ _ _ () [1, 0, 2] hP hD hS rfl (by decide) dX12_isTaken_75 (Or.inr rfl) hpost
set_option maxHeartbeats 4000000 in
set_option maxRecDepth 100000 in
theorem r_readNew_0 (l : Launch) (G : va_G) (cA : zCA) (h0 : Nat) (m_status : Int32) (m_thrown : Int32) (m_above : Int64) (m_under : Int64) (a_traySort : Nat) (a_trayMany : Nat) (a_numbers : Nat) (a_tape : Nat) (m_taped : Int32) (m_textEnd : Int32) (m_faultKind : Int32) (m_faultAt : Int32) (m_bad : Int32) (m_badAt : Int32) (m_token : Int32) (m_at : Int32) (m_behind : Int32) (m_number : Int32) (m_letters : Int32) (m_word : Int64) (a_c : Nat) (a_words : Nat) (m_markMany : Int32) (a_there : Nat) (a_tried : Nat) (a_best : Nat) (a_found : Nat) (m_thereMany : Int32) (m_foundMany : Int32) (m_orderHow : Int32) (m_orderRing : Int32) (m_orderMany : Int32) (m_hasBest : Int32) (m_bestTop : Int64) (m_bestBy : Int64) (a_weights : Nat) (a_shared : Nat) (m_random : Int32) (m_truePlace : Int32) (m_trueWay : Int32) (m_seconds : Int32) (m_done : Int32) (m_feelings : Int32) (m_tries : Int32) (m_leftOver : Int32) (m_playDoor : Int32) (m_playRing : Int32) (m_isOpen : Int32) (m_isOver : Int32) (m_wasTried : Int32) (m_hasPlayed : Int32) (a_feltNow : Nat) (a_last : Nat) (a_kept : Nat) (m_hasSeconds : Int32) (m_hasTurned : Int32) (m_hasRound : Int32) (a_hasFeels : Nat) (a_isOn : Nat) (m_firstAct : Int32) (m_meanTop : Int64) (m_meanBy : Int64) (a_order : Nat) (m_rowMany : Int32) (m_newSteps : Int32) (g_tape : Nat → Int32) (g_c : Nat → Int32) (g_words : Nat → Int64) (hr_m_textEnd : 0 ≤ m_textEnd.toInt ∧ m_textEnd.toInt ≤ 900) (hr_m_at : 0 ≤ m_at.toInt ∧ m_at.toInt ≤ 900) (hr_m_behind : 0 ≤ m_behind.toInt ∧ m_behind.toInt ≤ 900) (hr_m_bad : 0 ≤ m_bad.toInt ∧ m_bad.toInt ≤ 9) (hr_m_token : 0 ≤ m_token.toInt ∧ m_token.toInt ≤ 4) (hr_m_number : 0 ≤ m_number.toInt ∧ m_number.toInt ≤ 9999) (hr_m_letters : 0 ≤ m_letters.toInt ∧ m_letters.toInt ≤ 900) (hC_g_c : zC g_c) : zCi l yX12_readNew cX12_readNew 5 (some .int) ({ frames := 3, cells := 0, slots := 0, locals := 67 }) G cA [.ref h0, .int 0, .int 3, .int 0] [(h0, .inr (12, [.int m_status, .int m_thrown, .long m_above, .long m_under, .ref a_traySort, .ref a_trayMany, .ref a_numbers, .ref a_tape, .int m_taped, .int m_textEnd, .int m_faultKind, .int m_faultAt, .int m_bad, .int m_badAt, .int m_token, .int m_at, .int m_behind, .int m_number, .int m_letters, .long m_word, .ref a_c, .ref a_words, .int m_markMany, .ref a_there, .ref a_tried, .ref a_best, .ref a_found, .int m_thereMany, .int m_foundMany, .int m_orderHow, .int m_orderRing, .int m_orderMany, .int m_hasBest, .long m_bestTop, .long m_bestBy, .ref a_weights, .ref a_shared, .int m_random, .int m_truePlace, .int m_trueWay, .int m_seconds, .int m_done, .int m_feelings, .int m_tries, .int m_leftOver, .int m_playDoor, .int m_playRing, .int m_isOpen, .int m_isOver, .int m_wasTried, .int m_hasPlayed, .ref a_feltNow, .ref a_last, .ref a_kept, .int m_hasSeconds, .int m_hasTurned, .int m_hasRound, .ref a_hasFeels, .ref a_isOn, .int m_firstAct, .long m_meanTop, .long m_meanBy, .ref a_order, .int m_rowMany, .int m_newSteps])), (a_tape, .inl (cA.1 2, 900, .inl g_tape)), (a_c, .inl (cA.1 0, 1825, .inl g_c)), (a_words, .inl (cA.1 1, 105, .inr (.inl g_words)))] (S := Int32 × Int32 × Int32 × Int32 × Int32 × Int32 × Int32 × Int64 × (Nat → Int64)) (fun (r : Int32) (u : Int32 × Int32 × Int32 × Int32 × Int32 × Int32 × Int32 × Int64 × (Nat → Int64)) => (0 ≤ r.toInt ∧ r.toInt ≤ 2) ∧ (0 ≤ u.1.toInt ∧ u.1.toInt ≤ 9) ∧ (0 ≤ u.2.2.1.toInt ∧ u.2.2.1.toInt ≤ 4) ∧ (0 ≤ u.2.2.2.1.toInt ∧ u.2.2.2.1.toInt ≤ 900) ∧ (0 ≤ u.2.2.2.2.1.toInt ∧ u.2.2.2.2.1.toInt ≤ 900) ∧ (0 ≤ u.2.2.2.2.2.1.toInt ∧ u.2.2.2.2.2.1.toInt ≤ 9999) ∧ (0 ≤ u.2.2.2.2.2.2.1.toInt ∧ u.2.2.2.2.2.2.1.toInt ≤ 900) ∧ (m_behind.toInt ≤ u.2.2.2.2.1.toInt) ∧ (0 < m_bad.toInt → 0 < u.1.toInt) ∧ (u.1.toInt ≤ 0 → u.2.2.1.toInt = 0 ∨ m_behind.toInt < u.2.2.2.2.1.toInt) ∧ (u.1.toInt ≤ 0 → r.toInt = (g_c 1460).toInt) ∧ (r.toInt < 3)) (fun (u : Int32 × Int32 × Int32 × Int32 × Int32 × Int32 × Int32 × Int64 × (Nat → Int64)) => [(h0, .inr (12, [.int m_status, .int m_thrown, .long m_above, .long m_under, .ref a_traySort, .ref a_trayMany, .ref a_numbers, .ref a_tape, .int m_taped, .int m_textEnd, .int m_faultKind, .int m_faultAt, .int u.1, .int u.2.1, .int u.2.2.1, .int u.2.2.2.1, .int u.2.2.2.2.1, .int u.2.2.2.2.2.1, .int u.2.2.2.2.2.2.1, .long u.2.2.2.2.2.2.2.1, .ref a_c, .ref a_words, .int m_markMany, .ref a_there, .ref a_tried, .ref a_best, .ref a_found, .int m_thereMany, .int m_foundMany, .int m_orderHow, .int m_orderRing, .int m_orderMany, .int m_hasBest, .long m_bestTop, .long m_bestBy, .ref a_weights, .ref a_shared, .int m_random, .int m_truePlace, .int m_trueWay, .int m_seconds, .int m_done, .int m_feelings, .int m_tries, .int m_leftOver, .int m_playDoor, .int m_playRing, .int m_isOpen, .int m_isOver, .int m_wasTried, .int m_hasPlayed, .ref a_feltNow, .ref a_last, .ref a_kept, .int m_hasSeconds, .int m_hasTurned, .int m_hasRound, .ref a_hasFeels, .ref a_isOn, .int m_firstAct, .long m_meanTop, .long m_meanBy, .ref a_order, .int m_rowMany, .int m_newSteps])), (a_tape, .inl (cA.1 2, 900, .inl g_tape)), (a_c, .inl (cA.1 0, 1825, .inl g_c)), (a_words, .inl (cA.1 1, 105, .inr (.inl u.2.2.2.2.2.2.2.2)))]) 0 0 := by
  have hk_0 : (0 : Int32).toInt = 0 := by decide +kernel
  have hk_3 : (3 : Int32).toInt = 3 := by decide +kernel
  have hk_6 : (6 : Int32).toInt = 6 := by decide +kernel
  have hk_84 : (84 : Int32).toInt = 84 := by decide +kernel
  refine z_start2i (own := RX12) (by decide) (Nat.le_of_ble_eq_true rfl) rfl ?_
  intro p e s m args below meth c A ls Q hx hb hml hts hown hK hE hT hP hD hS hA hl hret
  have hl : lv_has ls 5 [(0, .ref h0), (1, .int 0), (2, .int 3), (3, .int 0)] := hl
  refine lv_aload_n hx hb dX12_readNew_0 rfl (lv_at hl 0 rfl) ?_
  refine va_get (D := G) (ci := 12) (v := .ref a_c) (C := RX12) (T := TX12) (N := 65) hx hb hts inT12 hown hK hP 0 rfl rfl 20 (by decide) (hts _ tw_1905) (fun _ h9 => h9) rfl dX12_readNew_1 ?_
  refine lv_sipush (v := 1460) hx hb dX12_readNew_4 (by decide) ?_
  refine lv_iload_n hx hb dX12_readNew_7 rfl (lv_at hl 1 rfl) ?_
  refine lv_iadd hx hb dX12_readNew_8 ?_
  refine z_topi (y := 1460) (by decide +kernel) ?_
  refine va_iald hx hb hK hP 2 0 rfl rfl (z_in (i := 1460) (n := 1825) (by decide +kernel) (by decide +kernel)) dX12_readNew_9 ?_
  refine lv_topi (fun x_1 he_x_1 => ?_)
  have hr_x_1 := z_ctk hC_g_c he_x_1 (k := 1460) (lo := 0) (hi := 3) (by decide +kernel) (by decide +kernel) (by decide +kernel)
  have hv_x_1 := z_cv he_x_1 (k := 1460) (by decide +kernel)
  refine lv_istore (lv' := [(4, .int x_1), (0, .ref h0), (1, .int 0), (2, .int 3), (3, .int 0)]) hx hb dX12_readNew_10 hl (by decide) rfl (fun ls hl => ?_)
  refine lv_aload_n hx hb dX12_readNew_12 rfl (lv_at hl 1 rfl) ?_
  refine va_get (D := G) (ci := 12) (v := .int m_bad) (C := RX12) (T := TX12) (N := 65) hx hb hts inT12 hown hK hP 0 rfl rfl 12 (by decide) (hts _ tw_1897) (fun _ h9 => h9) rfl dX12_readNew_13 ?_
  refine lv_if_ne (tgt := 35) hx hb dX12_readNew_16 (by decide) (fun c_2 => ?_) (fun c_2 => ?_)
  · have b_3 := z_fneT c_2
    refine lv_aload_n hx hb dX12_readNew_35 rfl (lv_at hl 1 rfl) ?_
    refine va_get (D := G) (ci := 12) (v := .int m_bad) (C := RX12) (T := TX12) (N := 65) hx hb hts inT12 hown hK hP 0 rfl rfl 12 (by decide) (hts _ tw_1897) (fun _ h9 => h9) rfl dX12_readNew_36 ?_
    refine lv_if_le (tgt := 44) hx hb dX12_readNew_39 (by decide) (fun h9 => (z_no (by have h8 := z_fleT h9; omega))) (fun c_4 => ?_)
    have b_5 := z_fgtF c_4
    refine lv_iconst (v := 0) hx hb dX12_readNew_42 (by decide) ?_
    have hpost : (0 ≤ (0 : Int32).toInt ∧ (0 : Int32).toInt ≤ 2) ∧ (0 ≤ m_bad.toInt ∧ m_bad.toInt ≤ 9) ∧ (0 ≤ m_token.toInt ∧ m_token.toInt ≤ 4) ∧ (0 ≤ m_at.toInt ∧ m_at.toInt ≤ 900) ∧ (0 ≤ m_behind.toInt ∧ m_behind.toInt ≤ 900) ∧ (0 ≤ m_number.toInt ∧ m_number.toInt ≤ 9999) ∧ (0 ≤ m_letters.toInt ∧ m_letters.toInt ≤ 900) ∧ (m_behind.toInt ≤ m_behind.toInt) ∧ (0 < m_bad.toInt → 0 < m_bad.toInt) ∧ (m_bad.toInt ≤ 0 → m_token.toInt = 0 ∨ m_behind.toInt < m_behind.toInt) ∧ (m_bad.toInt ≤ 0 → (0 : Int32).toInt = (g_c 1460).toInt) ∧ ((0 : Int32).toInt < 3) := ⟨(by decide +kernel), hr_m_bad, hr_m_token, hr_m_at, hr_m_behind, hr_m_number, hr_m_letters, (by omega), (by omega), (by omega), (by omega), (by omega)⟩
    exact hret _ _ _ _ _ _ (m_bad, m_badAt, m_token, m_at, m_behind, m_number, m_letters, m_word, g_words) [0, 1, 2, 3] hP hD hS rfl (by decide) dX12_readNew_43 hpost
  · have b_6 := z_feqF c_2
    refine lv_iload hx hb dX12_readNew_19 (lv_at hl 0 rfl) ?_
    refine lv_iload_n hx hb dX12_readNew_21 rfl (lv_at hl 3 rfl) ?_
    refine lv_icmp_ne (tgt := 35) hx hb dX12_readNew_22 (by decide) (fun c_7 => ?_) (fun c_7 => ?_)
    · have b_8 := z_fneT c_7
      refine lv_aload_n hx hb dX12_readNew_35 rfl (lv_at hl 1 rfl) ?_
      refine va_get (D := G) (ci := 12) (v := .int m_bad) (C := RX12) (T := TX12) (N := 65) hx hb hts inT12 hown hK hP 0 rfl rfl 12 (by decide) (hts _ tw_1897) (fun _ h9 => h9) rfl dX12_readNew_36 ?_
      refine lv_if_le (tgt := 44) hx hb dX12_readNew_39 (by decide) (fun c_9 => ?_) (fun h9 => (z_no (by have h8 := z_fgtF h9; omega)))
      have b_10 := z_fleT c_9
      refine lv_aload_n hx hb dX12_readNew_44 rfl (lv_at hl 1 rfl) ?_
      refine z_callVv (As := []) (rest := []) (wr := [(a_c, .inl (cA.1 0, 1825, .inl g_c)), (a_words, .inl (cA.1 1, 105, .inr (.inl g_words)))]) ⟨hx, hb, hml, hown, hts⟩ hK hE hT hP hD hS hA (r_next2 l G cA h0 m_status m_thrown m_above m_under a_traySort a_trayMany a_numbers a_tape m_taped m_textEnd m_faultKind m_faultAt m_bad m_badAt m_token m_at m_behind m_number m_letters m_word a_c a_words m_markMany a_there a_tried a_best a_found m_thereMany m_foundMany m_orderHow m_orderRing m_orderMany m_hasBest m_bestTop m_bestBy a_weights a_shared m_random m_truePlace m_trueWay m_seconds m_done m_feelings m_tries m_leftOver m_playDoor m_playRing m_isOpen m_isOver m_wasTried m_hasPlayed a_feltNow a_last a_kept m_hasSeconds m_hasTurned m_hasRound a_hasFeels a_isOn m_firstAct m_meanTop m_meanBy a_order m_rowMany m_newSteps g_tape hr_m_textEnd hr_m_at hr_m_behind hr_m_token hr_m_number hr_m_letters) lk_RX12_184 ⟨rfl, rfl⟩ ⟨Nat.le_of_ble_eq_true rfl, Nat.le_of_ble_eq_true rfl⟩ 12 rfl rfl rfl [0, 1] [2, 3] rfl rfl (by decide) rfl hl.1 rfl (lv_room (Nat.le_of_ble_eq_true rfl)) dX12_readNew_45 ⟨Nat.le_of_ble_eq_true rfl, Nat.le_of_ble_eq_true rfl⟩ (fun u_18 H locs hw hP hD hS => ?_)
      obtain ⟨n_11, n_12, n_13, n_14, n_15, n_16⟩ := u_18
      try dsimp only at hw
      obtain ⟨hr_n_11, hr_n_12, hr_n_13, hr_n_14, hr_n_15, hf_19, hf_20⟩ := hw
      refine lv_aload_n hx hb dX12_readNew_48 rfl (lv_at hl 1 rfl) ?_
      refine z_callVi (As := []) (rest := []) (wr := [(a_c, .inl (cA.1 0, 1825, .inl g_c)), (a_words, .inl (cA.1 1, 105, .inr (.inl g_words))), (a_tape, .inl (cA.1 2, 900, .inl g_tape))]) ⟨hx, hb, hml, hown, hts⟩ hK hE hT hP hD hS hA (r_isHouseName l G cA h0 m_status m_thrown m_above m_under a_traySort a_trayMany a_numbers a_tape m_taped m_textEnd m_faultKind m_faultAt m_bad m_badAt n_11 n_12 n_13 n_14 n_15 n_16 a_c a_words m_markMany a_there a_tried a_best a_found m_thereMany m_foundMany m_orderHow m_orderRing m_orderMany m_hasBest m_bestTop m_bestBy a_weights a_shared m_random m_truePlace m_trueWay m_seconds m_done m_feelings m_tries m_leftOver m_playDoor m_playRing m_isOpen m_isOver m_wasTried m_hasPlayed a_feltNow a_last a_kept m_hasSeconds m_hasTurned m_hasRound a_hasFeels a_isOn m_firstAct m_meanTop m_meanBy a_order m_rowMany m_newSteps hr_n_11 hr_n_15) lk_RX12_200 ⟨rfl, rfl⟩ ⟨Nat.le_of_ble_eq_true rfl, Nat.le_of_ble_eq_true rfl⟩ 12 rfl rfl rfl [2] [0, 1, 3] rfl rfl (by decide) rfl hl.1 rfl (lv_room (Nat.le_of_ble_eq_true rfl)) dX12_readNew_49 ⟨Nat.le_of_ble_eq_true rfl, Nat.le_of_ble_eq_true rfl⟩ (fun r_21 u_22 H locs hw hP hD hS => ?_)
      rcases hw with ⟨rfl, -⟩ | ⟨rfl, -⟩
      · skip
        refine lv_if_ne (tgt := 59) hx hb dX12_readNew_52 (by decide) (fun h9 => absurd (by decide +kernel) h9) (fun _ => ?_)
        refine lv_aload_n hx hb dX12_readNew_55 rfl (lv_at hl 1 rfl) ?_
        refine z_callVv (As := []) (rest := []) (wr := [(a_c, .inl (cA.1 0, 1825, .inl g_c)), (a_words, .inl (cA.1 1, 105, .inr (.inl g_words))), (a_tape, .inl (cA.1 2, 900, .inl g_tape))]) ⟨hx, hb, hml, hown, hts⟩ hK hE hT hP hD hS hA (r_wrong l G cA h0 m_status m_thrown m_above m_under a_traySort a_trayMany a_numbers a_tape m_taped m_textEnd m_faultKind m_faultAt m_bad m_badAt n_11 n_12 n_13 n_14 n_15 n_16 a_c a_words m_markMany a_there a_tried a_best a_found m_thereMany m_foundMany m_orderHow m_orderRing m_orderMany m_hasBest m_bestTop m_bestBy a_weights a_shared m_random m_truePlace m_trueWay m_seconds m_done m_feelings m_tries m_leftOver m_playDoor m_playRing m_isOpen m_isOver m_wasTried m_hasPlayed a_feltNow a_last a_kept m_hasSeconds m_hasTurned m_hasRound a_hasFeels a_isOn m_firstAct m_meanTop m_meanBy a_order m_rowMany m_newSteps hr_n_12 hr_m_bad hr_n_11) lk_RX12_187 ⟨rfl, rfl⟩ ⟨Nat.le_of_ble_eq_true rfl, Nat.le_of_ble_eq_true rfl⟩ 12 rfl rfl rfl [3] [0, 1, 2] rfl rfl (by decide) rfl hl.1 rfl (lv_room (Nat.le_of_ble_eq_true rfl)) dX12_readNew_56 ⟨Nat.le_of_ble_eq_true rfl, Nat.le_of_ble_eq_true rfl⟩ (fun u_26 H locs hw hP hD hS => ?_)
        obtain ⟨n_23, n_24⟩ := u_26
        try dsimp only at hw
        have hr_n_23 := hw
        refine lv_aload_n hx hb dX12_readNew_59 rfl (lv_at hl 1 rfl) ?_
        refine va_get (D := G) (ci := 12) (v := .int n_23) (C := RX12) (T := TX12) (N := 65) hx hb hts inT12 hown hK hP 3 rfl rfl 12 (by decide) (hts _ tw_1897) (fun _ h9 => h9) rfl dX12_readNew_60 ?_
        refine lv_if_ne (tgt := 82) hx hb dX12_readNew_63 (by decide) (fun c_27 => ?_) (fun h9 => (z_no (by have h8 := z_feqF h9; omega)))
        have b_28 := z_fneT c_27
        refine lv_aload_n hx hb dX12_readNew_82 rfl (lv_at hl 1 rfl) ?_
        refine va_get (D := G) (ci := 12) (v := .int n_23) (C := RX12) (T := TX12) (N := 65) hx hb hts inT12 hown hK hP 3 rfl rfl 12 (by decide) (hts _ tw_1897) (fun _ h9 => h9) rfl dX12_readNew_83 ?_
        refine lv_if_le (tgt := 91) hx hb dX12_readNew_86 (by decide) (fun h9 => (z_no (by have h8 := z_fleT h9; omega))) (fun c_29 => ?_)
        have b_30 := z_fgtF c_29
        refine lv_iconst (v := 0) hx hb dX12_readNew_89 (by decide) ?_
        have hpost : (0 ≤ (0 : Int32).toInt ∧ (0 : Int32).toInt ≤ 2) ∧ (0 ≤ n_23.toInt ∧ n_23.toInt ≤ 9) ∧ (0 ≤ n_11.toInt ∧ n_11.toInt ≤ 4) ∧ (0 ≤ n_12.toInt ∧ n_12.toInt ≤ 900) ∧ (0 ≤ n_13.toInt ∧ n_13.toInt ≤ 900) ∧ (0 ≤ n_14.toInt ∧ n_14.toInt ≤ 9999) ∧ (0 ≤ n_15.toInt ∧ n_15.toInt ≤ 900) ∧ (m_behind.toInt ≤ n_13.toInt) ∧ (0 < m_bad.toInt → 0 < n_23.toInt) ∧ (n_23.toInt ≤ 0 → n_11.toInt = 0 ∨ m_behind.toInt < n_13.toInt) ∧ (n_23.toInt ≤ 0 → (0 : Int32).toInt = (g_c 1460).toInt) ∧ ((0 : Int32).toInt < 3) := ⟨(by decide +kernel), (z_rgw hr_n_23 (by decide) (by decide)), hr_n_11, hr_n_12, hr_n_13, hr_n_14, hr_n_15, (by omega), (by omega), (by omega), (by omega), (by omega)⟩
        exact hret _ _ _ _ _ _ (n_23, n_24, n_11, n_12, n_13, n_14, n_15, n_16, g_words) [3, 2, 0, 1] hP hD hS rfl (by decide) dX12_readNew_90 hpost
      · skip
        refine lv_if_ne (tgt := 59) hx hb dX12_readNew_52 (by decide) (fun _ => ?_) (fun h9 => absurd h9 (by decide +kernel))
        refine lv_aload_n hx hb dX12_readNew_59 rfl (lv_at hl 1 rfl) ?_
        refine va_get (D := G) (ci := 12) (v := .int m_bad) (C := RX12) (T := TX12) (N := 65) hx hb hts inT12 hown hK hP 3 rfl rfl 12 (by decide) (hts _ tw_1897) (fun _ h9 => h9) rfl dX12_readNew_60 ?_
        refine lv_if_ne (tgt := 82) hx hb dX12_readNew_63 (by decide) (fun h9 => (z_no (by have h8 := z_fneT h9; omega))) (fun c_31 => ?_)
        have b_32 := z_feqF c_31
        refine lv_aload_n hx hb dX12_readNew_66 rfl (lv_at hl 1 rfl) ?_
        refine z_callVi (As := []) (rest := []) (wr := [(a_tape, .inl (cA.1 2, 900, .inl g_tape))]) ⟨hx, hb, hml, hown, hts⟩ hK hE hT hP hD hS hA (r_isTaken l G cA h0 m_status m_thrown m_above m_under a_traySort a_trayMany a_numbers a_tape m_taped m_textEnd m_faultKind m_faultAt m_bad m_badAt n_11 n_12 n_13 n_14 n_15 n_16 a_c a_words m_markMany a_there a_tried a_best a_found m_thereMany m_foundMany m_orderHow m_orderRing m_orderMany m_hasBest m_bestTop m_bestBy a_weights a_shared m_random m_truePlace m_trueWay m_seconds m_done m_feelings m_tries m_leftOver m_playDoor m_playRing m_isOpen m_isOver m_wasTried m_hasPlayed a_feltNow a_last a_kept m_hasSeconds m_hasTurned m_hasRound a_hasFeels a_isOn m_firstAct m_meanTop m_meanBy a_order m_rowMany m_newSteps g_c g_words hC_g_c) lk_RX12_204 ⟨rfl, rfl⟩ ⟨Nat.le_of_ble_eq_true rfl, Nat.le_of_ble_eq_true rfl⟩ 12 rfl rfl rfl [3, 0, 1] [2] rfl rfl (by decide) rfl hl.1 rfl (lv_room (Nat.le_of_ble_eq_true rfl)) dX12_readNew_67 ⟨Nat.le_of_ble_eq_true rfl, Nat.le_of_ble_eq_true rfl⟩ (fun r_33 u_34 H locs hw hP hD hS => ?_)
        rcases hw with ⟨rfl, -⟩ | ⟨rfl, -⟩
        · skip
          refine lv_if_eq (tgt := 82) hx hb dX12_readNew_70 (by decide) (fun _ => ?_) (fun h9 => absurd (by decide +kernel) h9)
          refine lv_aload_n hx hb dX12_readNew_82 rfl (lv_at hl 1 rfl) ?_
          refine va_get (D := G) (ci := 12) (v := .int m_bad) (C := RX12) (T := TX12) (N := 65) hx hb hts inT12 hown hK hP 1 rfl rfl 12 (by decide) (hts _ tw_1897) (fun _ h9 => h9) rfl dX12_readNew_83 ?_
          refine lv_if_le (tgt := 91) hx hb dX12_readNew_86 (by decide) (fun c_35 => ?_) (fun h9 => (z_no (by have h8 := z_fgtF h9; omega)))
          have b_36 := z_fleT c_35
          refine lv_aload_n hx hb dX12_readNew_91 rfl (lv_at hl 1 rfl) ?_
          refine va_get (D := G) (ci := 12) (v := .ref a_words) (C := RX12) (T := TX12) (N := 65) hx hb hts inT12 hown hK hP 1 rfl rfl 21 (by decide) (hts _ tw_1906) (fun _ h9 => h9) rfl dX12_readNew_92 ?_
          refine lv_bipush (v := 84) hx hb dX12_readNew_95 (by decide) ?_
          refine lv_iload_n hx hb dX12_readNew_97 rfl (lv_at hl 4 rfl) ?_
          refine lv_iadd hx hb dX12_readNew_98 ?_
          refine z_topi (y := 84) (by decide +kernel) ?_
          refine lv_iload hx hb dX12_readNew_99 (lv_at hl 0 rfl) ?_
          refine lv_iadd hx hb dX12_readNew_101 ?_
          refine lv_topi (fun x_37 he_x_37 => ?_)
          have hq_x_37 := z_addq he_x_37 hk_84 (rfl : x_1.toInt = _) (by omega) (by omega)
          refine lv_aload_n hx hb dX12_readNew_102 rfl (lv_at hl 1 rfl) ?_
          refine va_get (D := G) (ci := 12) (v := .long n_16) (C := RX12) (T := TX12) (N := 65) hx hb hts inT12 hown hK hP 1 rfl rfl 19 (by decide) (hts _ tw_1904) (fun _ h9 => h9) rfl dX12_readNew_103 ?_
          refine z_last hx hb hK hP hD hS 3 1 rfl rfl (z_inN (by omega) (by omega)) dX12_readNew_106 (fun g_38 hg_g_38 H locs hP hD hS => ?_)
          refine lv_aload_n hx hb dX12_readNew_107 rfl (lv_at hl 1 rfl) ?_
          refine z_callVv (As := []) (rest := []) (wr := [(a_c, .inl (cA.1 0, 1825, .inl g_c)), (a_words, .inl (cA.1 1, 105, .inr (.inl g_38)))]) ⟨hx, hb, hml, hown, hts⟩ hK hE hT hP hD hS hA (r_next2 l G cA h0 m_status m_thrown m_above m_under a_traySort a_trayMany a_numbers a_tape m_taped m_textEnd m_faultKind m_faultAt m_bad m_badAt n_11 n_12 n_13 n_14 n_15 n_16 a_c a_words m_markMany a_there a_tried a_best a_found m_thereMany m_foundMany m_orderHow m_orderRing m_orderMany m_hasBest m_bestTop m_bestBy a_weights a_shared m_random m_truePlace m_trueWay m_seconds m_done m_feelings m_tries m_leftOver m_playDoor m_playRing m_isOpen m_isOver m_wasTried m_hasPlayed a_feltNow a_last a_kept m_hasSeconds m_hasTurned m_hasRound a_hasFeels a_isOn m_firstAct m_meanTop m_meanBy a_order m_rowMany m_newSteps g_tape hr_m_textEnd hr_n_12 hr_n_13 hr_n_11 hr_n_14 hr_n_15) lk_RX12_184 ⟨rfl, rfl⟩ ⟨Nat.le_of_ble_eq_true rfl, Nat.le_of_ble_eq_true rfl⟩ 12 rfl rfl rfl [1, 0] [2, 3] rfl rfl (by decide) rfl hl.1 rfl (lv_room (Nat.le_of_ble_eq_true rfl)) dX12_readNew_108 ⟨Nat.le_of_ble_eq_true rfl, Nat.le_of_ble_eq_true rfl⟩ (fun u_46 H locs hw hP hD hS => ?_)
          obtain ⟨n_39, n_40, n_41, n_42, n_43, n_44⟩ := u_46
          try dsimp only at hw
          obtain ⟨hr_n_39, hr_n_40, hr_n_41, hr_n_42, hr_n_43, hf_47, hf_48⟩ := hw
          refine lv_iload hx hb dX12_readNew_111 (lv_at hl 0 rfl) ?_
          have hpost : (0 ≤ x_1.toInt ∧ x_1.toInt ≤ 2) ∧ (0 ≤ m_bad.toInt ∧ m_bad.toInt ≤ 9) ∧ (0 ≤ n_39.toInt ∧ n_39.toInt ≤ 4) ∧ (0 ≤ n_40.toInt ∧ n_40.toInt ≤ 900) ∧ (0 ≤ n_41.toInt ∧ n_41.toInt ≤ 900) ∧ (0 ≤ n_42.toInt ∧ n_42.toInt ≤ 9999) ∧ (0 ≤ n_43.toInt ∧ n_43.toInt ≤ 900) ∧ (m_behind.toInt ≤ n_41.toInt) ∧ (0 < m_bad.toInt → 0 < m_bad.toInt) ∧ (m_bad.toInt ≤ 0 → n_39.toInt = 0 ∨ m_behind.toInt < n_41.toInt) ∧ (m_bad.toInt ≤ 0 → x_1.toInt = (g_c 1460).toInt) ∧ (x_1.toInt < 3) := ⟨(by omega), hr_m_bad, hr_n_39, hr_n_40, hr_n_41, hr_n_42, hr_n_43, (by omega), (by omega), (by omega), (by omega), (by omega)⟩
          exact hret _ _ _ _ _ _ (m_bad, m_badAt, n_39, n_40, n_41, n_42, n_43, n_44, g_38) [2, 3, 0, 1] hP hD hS rfl (by decide) dX12_readNew_113 hpost
        · skip
          refine lv_if_eq (tgt := 82) hx hb dX12_readNew_70 (by decide) (fun h9 => absurd h9 (by decide +kernel)) (fun _ => ?_)
          refine lv_aload_n hx hb dX12_readNew_73 rfl (lv_at hl 1 rfl) ?_
          refine lv_iconst (v := 3) hx hb dX12_readNew_74 (by decide) ?_
          refine lv_aload_n hx hb dX12_readNew_75 rfl (lv_at hl 1 rfl) ?_
          refine va_get (D := G) (ci := 12) (v := .int n_12) (C := RX12) (T := TX12) (N := 65) hx hb hts inT12 hown hK hP 1 rfl rfl 15 (by decide) (hts _ tw_1900) (fun _ h9 => h9) rfl dX12_readNew_76 ?_
          refine z_callVv (As := [.int 3, .int n_12]) (rest := []) (wr := [(a_tape, .inl (cA.1 2, 900, .inl g_tape)), (a_c, .inl (cA.1 0, 1825, .inl g_c)), (a_words, .inl (cA.1 1, 105, .inr (.inl g_words)))]) ⟨hx, hb, hml, hown, hts⟩ hK hE hT hP hD hS hA (r_fail l G cA h0 m_status m_thrown m_above m_under a_traySort a_trayMany a_numbers a_tape m_taped m_textEnd m_faultKind m_faultAt m_bad m_badAt n_11 n_12 n_13 n_14 n_15 n_16 a_c a_words m_markMany a_there a_tried a_best a_found m_thereMany m_foundMany m_orderHow m_orderRing m_orderMany m_hasBest m_bestTop m_bestBy a_weights a_shared m_random m_truePlace m_trueWay m_seconds m_done m_feelings m_tries m_leftOver m_playDoor m_playRing m_isOpen m_isOver m_wasTried m_hasPlayed a_feltNow a_last a_kept m_hasSeconds m_hasTurned m_hasRound a_hasFeels a_isOn m_firstAct m_meanTop m_meanBy a_order m_rowMany m_newSteps 3 n_12 (by decide +kernel) hr_m_bad) lk_RX12_180 ⟨rfl, rfl⟩ ⟨Nat.le_of_ble_eq_true rfl, Nat.le_of_ble_eq_true rfl⟩ 12 rfl rfl rfl [1] [0, 2, 3] rfl rfl (by decide) rfl hl.1 rfl (lv_room (Nat.le_of_ble_eq_true rfl)) dX12_readNew_79 ⟨Nat.le_of_ble_eq_true rfl, Nat.le_of_ble_eq_true rfl⟩ (fun u_52 H locs hw hP hD hS => ?_)
          obtain ⟨n_49, n_50⟩ := u_52
          try dsimp only at hw
          obtain ⟨hr_n_49, hf_53⟩ := hw
          refine lv_aload_n hx hb dX12_readNew_82 rfl (lv_at hl 1 rfl) ?_
          refine va_get (D := G) (ci := 12) (v := .int n_49) (C := RX12) (T := TX12) (N := 65) hx hb hts inT12 hown hK hP 3 rfl rfl 12 (by decide) (hts _ tw_1897) (fun _ h9 => h9) rfl dX12_readNew_83 ?_
          refine lv_if_le (tgt := 91) hx hb dX12_readNew_86 (by decide) (fun h9 => (z_no (by have h8 := z_fleT h9; omega))) (fun c_54 => ?_)
          have b_55 := z_fgtF c_54
          refine lv_iconst (v := 0) hx hb dX12_readNew_89 (by decide) ?_
          have hpost : (0 ≤ (0 : Int32).toInt ∧ (0 : Int32).toInt ≤ 2) ∧ (0 ≤ n_49.toInt ∧ n_49.toInt ≤ 9) ∧ (0 ≤ n_11.toInt ∧ n_11.toInt ≤ 4) ∧ (0 ≤ n_12.toInt ∧ n_12.toInt ≤ 900) ∧ (0 ≤ n_13.toInt ∧ n_13.toInt ≤ 900) ∧ (0 ≤ n_14.toInt ∧ n_14.toInt ≤ 9999) ∧ (0 ≤ n_15.toInt ∧ n_15.toInt ≤ 900) ∧ (m_behind.toInt ≤ n_13.toInt) ∧ (0 < m_bad.toInt → 0 < n_49.toInt) ∧ (n_49.toInt ≤ 0 → n_11.toInt = 0 ∨ m_behind.toInt < n_13.toInt) ∧ (n_49.toInt ≤ 0 → (0 : Int32).toInt = (g_c 1460).toInt) ∧ ((0 : Int32).toInt < 3) := ⟨(by decide +kernel), (z_rgw hr_n_49 (by decide) (by decide)), hr_n_11, hr_n_12, hr_n_13, hr_n_14, hr_n_15, (by omega), (by omega), (by omega), (by omega), (by omega)⟩
          exact hret _ _ _ _ _ _ (n_49, n_50, n_11, n_12, n_13, n_14, n_15, n_16, g_words) [3, 0, 1, 2] hP hD hS rfl (by decide) dX12_readNew_90 hpost
    · have b_56 := z_feqF c_7
      refine lv_aload_n hx hb dX12_readNew_25 rfl (lv_at hl 1 rfl) ?_
      refine lv_bipush (v := 6) hx hb dX12_readNew_26 (by decide) ?_
      refine lv_aload_n hx hb dX12_readNew_28 rfl (lv_at hl 1 rfl) ?_
      refine va_get (D := G) (ci := 12) (v := .int m_at) (C := RX12) (T := TX12) (N := 65) hx hb hts inT12 hown hK hP 0 rfl rfl 15 (by decide) (hts _ tw_1900) (fun _ h9 => h9) rfl dX12_readNew_29 ?_
      refine z_callVv (As := [.int 6, .int m_at]) (rest := []) (wr := [(a_tape, .inl (cA.1 2, 900, .inl g_tape)), (a_c, .inl (cA.1 0, 1825, .inl g_c)), (a_words, .inl (cA.1 1, 105, .inr (.inl g_words)))]) ⟨hx, hb, hml, hown, hts⟩ hK hE hT hP hD hS hA (r_fail l G cA h0 m_status m_thrown m_above m_under a_traySort a_trayMany a_numbers a_tape m_taped m_textEnd m_faultKind m_faultAt m_bad m_badAt m_token m_at m_behind m_number m_letters m_word a_c a_words m_markMany a_there a_tried a_best a_found m_thereMany m_foundMany m_orderHow m_orderRing m_orderMany m_hasBest m_bestTop m_bestBy a_weights a_shared m_random m_truePlace m_trueWay m_seconds m_done m_feelings m_tries m_leftOver m_playDoor m_playRing m_isOpen m_isOver m_wasTried m_hasPlayed a_feltNow a_last a_kept m_hasSeconds m_hasTurned m_hasRound a_hasFeels a_isOn m_firstAct m_meanTop m_meanBy a_order m_rowMany m_newSteps 6 m_at (by decide +kernel) hr_m_bad) lk_RX12_180 ⟨rfl, rfl⟩ ⟨Nat.le_of_ble_eq_true rfl, Nat.le_of_ble_eq_true rfl⟩ 12 rfl rfl rfl [0] [1, 2, 3] rfl rfl (by decide) rfl hl.1 rfl (lv_room (Nat.le_of_ble_eq_true rfl)) dX12_readNew_32 ⟨Nat.le_of_ble_eq_true rfl, Nat.le_of_ble_eq_true rfl⟩ (fun u_60 H locs hw hP hD hS => ?_)
      obtain ⟨n_57, n_58⟩ := u_60
      try dsimp only at hw
      obtain ⟨hr_n_57, hf_61⟩ := hw
      refine lv_aload_n hx hb dX12_readNew_35 rfl (lv_at hl 1 rfl) ?_
      refine va_get (D := G) (ci := 12) (v := .int n_57) (C := RX12) (T := TX12) (N := 65) hx hb hts inT12 hown hK hP 3 rfl rfl 12 (by decide) (hts _ tw_1897) (fun _ h9 => h9) rfl dX12_readNew_36 ?_
      refine lv_if_le (tgt := 44) hx hb dX12_readNew_39 (by decide) (fun h9 => (z_no (by have h8 := z_fleT h9; omega))) (fun c_62 => ?_)
      have b_63 := z_fgtF c_62
      refine lv_iconst (v := 0) hx hb dX12_readNew_42 (by decide) ?_
      have hpost : (0 ≤ (0 : Int32).toInt ∧ (0 : Int32).toInt ≤ 2) ∧ (0 ≤ n_57.toInt ∧ n_57.toInt ≤ 9) ∧ (0 ≤ m_token.toInt ∧ m_token.toInt ≤ 4) ∧ (0 ≤ m_at.toInt ∧ m_at.toInt ≤ 900) ∧ (0 ≤ m_behind.toInt ∧ m_behind.toInt ≤ 900) ∧ (0 ≤ m_number.toInt ∧ m_number.toInt ≤ 9999) ∧ (0 ≤ m_letters.toInt ∧ m_letters.toInt ≤ 900) ∧ (m_behind.toInt ≤ m_behind.toInt) ∧ (0 < m_bad.toInt → 0 < n_57.toInt) ∧ (n_57.toInt ≤ 0 → m_token.toInt = 0 ∨ m_behind.toInt < m_behind.toInt) ∧ (n_57.toInt ≤ 0 → (0 : Int32).toInt = (g_c 1460).toInt) ∧ ((0 : Int32).toInt < 3) := ⟨(by decide +kernel), (z_rgw hr_n_57 (by decide) (by decide)), hr_m_token, hr_m_at, hr_m_behind, hr_m_number, hr_m_letters, (by omega), (by omega), (by omega), (by omega), (by omega)⟩
      exact hret _ _ _ _ _ _ (n_57, n_58, m_token, m_at, m_behind, m_number, m_letters, m_word, g_words) [3, 0, 1, 2] hP hD hS rfl (by decide) dX12_readNew_43 hpost
set_option maxHeartbeats 4000000 in
set_option maxRecDepth 100000 in
theorem r_readOld_0 (l : Launch) (G : va_G) (cA : zCA) (h0 : Nat) (m_status : Int32) (m_thrown : Int32) (m_above : Int64) (m_under : Int64) (a_traySort : Nat) (a_trayMany : Nat) (a_numbers : Nat) (a_tape : Nat) (m_taped : Int32) (m_textEnd : Int32) (m_faultKind : Int32) (m_faultAt : Int32) (m_bad : Int32) (m_badAt : Int32) (m_token : Int32) (m_at : Int32) (m_behind : Int32) (m_number : Int32) (m_letters : Int32) (m_word : Int64) (a_c : Nat) (a_words : Nat) (m_markMany : Int32) (a_there : Nat) (a_tried : Nat) (a_best : Nat) (a_found : Nat) (m_thereMany : Int32) (m_foundMany : Int32) (m_orderHow : Int32) (m_orderRing : Int32) (m_orderMany : Int32) (m_hasBest : Int32) (m_bestTop : Int64) (m_bestBy : Int64) (a_weights : Nat) (a_shared : Nat) (m_random : Int32) (m_truePlace : Int32) (m_trueWay : Int32) (m_seconds : Int32) (m_done : Int32) (m_feelings : Int32) (m_tries : Int32) (m_leftOver : Int32) (m_playDoor : Int32) (m_playRing : Int32) (m_isOpen : Int32) (m_isOver : Int32) (m_wasTried : Int32) (m_hasPlayed : Int32) (a_feltNow : Nat) (a_last : Nat) (a_kept : Nat) (m_hasSeconds : Int32) (m_hasTurned : Int32) (m_hasRound : Int32) (a_hasFeels : Nat) (a_isOn : Nat) (m_firstAct : Int32) (m_meanTop : Int64) (m_meanBy : Int64) (a_order : Nat) (m_rowMany : Int32) (m_newSteps : Int32) (g_c : Nat → Int32) (g_words : Nat → Int64) (hr_m_at : 0 ≤ m_at.toInt ∧ m_at.toInt ≤ 900) (hr_m_bad : 0 ≤ m_bad.toInt ∧ m_bad.toInt ≤ 9) (hr_m_token : 0 ≤ m_token.toInt ∧ m_token.toInt ≤ 4) (hr_m_letters : 0 ≤ m_letters.toInt ∧ m_letters.toInt ≤ 900) (hC_g_c : zC g_c) : zCi l yX12_readOld cX12_readOld 4 (some .int) ({ frames := 3, cells := 0, slots := 0, locals := 67 }) G cA [.ref h0, .int 0, .int 0] [(h0, .inr (12, [.int m_status, .int m_thrown, .long m_above, .long m_under, .ref a_traySort, .ref a_trayMany, .ref a_numbers, .ref a_tape, .int m_taped, .int m_textEnd, .int m_faultKind, .int m_faultAt, .int m_bad, .int m_badAt, .int m_token, .int m_at, .int m_behind, .int m_number, .int m_letters, .long m_word, .ref a_c, .ref a_words, .int m_markMany, .ref a_there, .ref a_tried, .ref a_best, .ref a_found, .int m_thereMany, .int m_foundMany, .int m_orderHow, .int m_orderRing, .int m_orderMany, .int m_hasBest, .long m_bestTop, .long m_bestBy, .ref a_weights, .ref a_shared, .int m_random, .int m_truePlace, .int m_trueWay, .int m_seconds, .int m_done, .int m_feelings, .int m_tries, .int m_leftOver, .int m_playDoor, .int m_playRing, .int m_isOpen, .int m_isOver, .int m_wasTried, .int m_hasPlayed, .ref a_feltNow, .ref a_last, .ref a_kept, .int m_hasSeconds, .int m_hasTurned, .int m_hasRound, .ref a_hasFeels, .ref a_isOn, .int m_firstAct, .long m_meanTop, .long m_meanBy, .ref a_order, .int m_rowMany, .int m_newSteps])), (a_c, .inl (cA.1 0, 1825, .inl g_c)), (a_words, .inl (cA.1 1, 105, .inr (.inl g_words)))] (S := Int32 × Int32) (fun (r : Int32) (u : Int32 × Int32) => ((-1) ≤ r.toInt ∧ r.toInt ≤ 2) ∧ (0 ≤ u.1.toInt ∧ u.1.toInt ≤ 9) ∧ (m_behind.toInt ≤ m_behind.toInt) ∧ (0 < m_bad.toInt → 0 < u.1.toInt) ∧ (u.1.toInt ≤ 0 → 0 ≤ r.toInt ∧ r.toInt < (g_c 1460).toInt)) (fun (u : Int32 × Int32) => [(h0, .inr (12, [.int m_status, .int m_thrown, .long m_above, .long m_under, .ref a_traySort, .ref a_trayMany, .ref a_numbers, .ref a_tape, .int m_taped, .int m_textEnd, .int m_faultKind, .int m_faultAt, .int u.1, .int u.2, .int m_token, .int m_at, .int m_behind, .int m_number, .int m_letters, .long m_word, .ref a_c, .ref a_words, .int m_markMany, .ref a_there, .ref a_tried, .ref a_best, .ref a_found, .int m_thereMany, .int m_foundMany, .int m_orderHow, .int m_orderRing, .int m_orderMany, .int m_hasBest, .long m_bestTop, .long m_bestBy, .ref a_weights, .ref a_shared, .int m_random, .int m_truePlace, .int m_trueWay, .int m_seconds, .int m_done, .int m_feelings, .int m_tries, .int m_leftOver, .int m_playDoor, .int m_playRing, .int m_isOpen, .int m_isOver, .int m_wasTried, .int m_hasPlayed, .ref a_feltNow, .ref a_last, .ref a_kept, .int m_hasSeconds, .int m_hasTurned, .int m_hasRound, .ref a_hasFeels, .ref a_isOn, .int m_firstAct, .long m_meanTop, .long m_meanBy, .ref a_order, .int m_rowMany, .int m_newSteps])), (a_c, .inl (cA.1 0, 1825, .inl g_c)), (a_words, .inl (cA.1 1, 105, .inr (.inl g_words)))]) 0 0 := by
  have hk_0 : (0 : Int32).toInt = 0 := by decide +kernel
  have hk_3 : (3 : Int32).toInt = 3 := by decide +kernel
  have hk_4 : (4 : Int32).toInt = 4 := by decide +kernel
  refine z_start2i (own := RX12) (by decide) (Nat.le_of_ble_eq_true rfl) rfl ?_
  intro p e s m args below meth c A ls Q hx hb hml hts hown hK hE hT hP hD hS hA hl hret
  have hl : lv_has ls 4 [(0, .ref h0), (1, .int 0), (2, .int 0)] := hl
  refine lv_aload_n hx hb dX12_readOld_0 rfl (lv_at hl 0 rfl) ?_
  refine va_get (D := G) (ci := 12) (v := .int m_bad) (C := RX12) (T := TX12) (N := 65) hx hb hts inT12 hown hK hP 0 rfl rfl 12 (by decide) (hts _ tw_1897) (fun _ h9 => h9) rfl dX12_readOld_1 ?_
  refine lv_if_ne (tgt := 18) hx hb dX12_readOld_4 (by decide) (fun c_1 => ?_) (fun c_1 => ?_)
  · have b_2 := z_fneT c_1
    refine lv_aload_n hx hb dX12_readOld_18 rfl (lv_at hl 0 rfl) ?_
    refine va_get (D := G) (ci := 12) (v := .int m_bad) (C := RX12) (T := TX12) (N := 65) hx hb hts inT12 hown hK hP 0 rfl rfl 12 (by decide) (hts _ tw_1897) (fun _ h9 => h9) rfl dX12_readOld_19 ?_
    refine lv_if_ne (tgt := 44) hx hb dX12_readOld_22 (by decide) (fun c_3 => ?_) (fun h9 => (z_no (by have h8 := z_feqF h9; omega)))
    have b_4 := z_fneT c_3
    refine lv_iconst (v := 0) hx hb dX12_readOld_44 (by decide) ?_
    refine lv_istore_n (lv' := [(3, .int 0), (0, .ref h0), (1, .int 0), (2, .int 0)]) hx hb dX12_readOld_45 rfl hl (by decide) rfl (fun ls hl => ?_)
    refine lv_aload_n hx hb dX12_readOld_46 rfl (lv_at hl 1 rfl) ?_
    refine va_get (D := G) (ci := 12) (v := .int m_bad) (C := RX12) (T := TX12) (N := 65) hx hb hts inT12 hown hK hP 0 rfl rfl 12 (by decide) (hts _ tw_1897) (fun _ h9 => h9) rfl dX12_readOld_47 ?_
    refine lv_if_ne (tgt := 66) hx hb dX12_readOld_50 (by decide) (fun c_5 => ?_) (fun h9 => (z_no (by have h8 := z_feqF h9; omega)))
    have b_6 := z_fneT c_5
    refine lv_iload_n hx hb dX12_readOld_66 rfl (lv_at hl 0 rfl) ?_
    have hpost : ((-1) ≤ (0 : Int32).toInt ∧ (0 : Int32).toInt ≤ 2) ∧ (0 ≤ m_bad.toInt ∧ m_bad.toInt ≤ 9) ∧ (m_behind.toInt ≤ m_behind.toInt) ∧ (0 < m_bad.toInt → 0 < m_bad.toInt) ∧ (m_bad.toInt ≤ 0 → 0 ≤ (0 : Int32).toInt ∧ (0 : Int32).toInt < (g_c 1460).toInt) := ⟨(by decide +kernel), hr_m_bad, (by omega), (by omega), (by omega)⟩
    exact hret _ _ _ _ _ _ (m_bad, m_badAt) [0, 1, 2] hP hD hS rfl (by decide) dX12_readOld_67 hpost
  · have b_7 := z_feqF c_1
    refine lv_aload_n hx hb dX12_readOld_7 rfl (lv_at hl 0 rfl) ?_
    refine z_callVi (As := []) (rest := []) (wr := [(a_c, .inl (cA.1 0, 1825, .inl g_c)), (a_words, .inl (cA.1 1, 105, .inr (.inl g_words)))]) ⟨hx, hb, hml, hown, hts⟩ hK hE hT hP hD hS hA (r_isHouseName l G cA h0 m_status m_thrown m_above m_under a_traySort a_trayMany a_numbers a_tape m_taped m_textEnd m_faultKind m_faultAt m_bad m_badAt m_token m_at m_behind m_number m_letters m_word a_c a_words m_markMany a_there a_tried a_best a_found m_thereMany m_foundMany m_orderHow m_orderRing m_orderMany m_hasBest m_bestTop m_bestBy a_weights a_shared m_random m_truePlace m_trueWay m_seconds m_done m_feelings m_tries m_leftOver m_playDoor m_playRing m_isOpen m_isOver m_wasTried m_hasPlayed a_feltNow a_last a_kept m_hasSeconds m_hasTurned m_hasRound a_hasFeels a_isOn m_firstAct m_meanTop m_meanBy a_order m_rowMany m_newSteps hr_m_token hr_m_letters) lk_RX12_200 ⟨rfl, rfl⟩ ⟨Nat.le_of_ble_eq_true rfl, Nat.le_of_ble_eq_true rfl⟩ 12 rfl rfl rfl [0] [1, 2] rfl rfl (by decide) rfl hl.1 rfl (lv_room (Nat.le_of_ble_eq_true rfl)) dX12_readOld_8 ⟨Nat.le_of_ble_eq_true rfl, Nat.le_of_ble_eq_true rfl⟩ (fun r_8 u_9 H locs hw hP hD hS => ?_)
    rcases hw with ⟨rfl, -⟩ | ⟨rfl, -⟩
    · skip
      refine lv_if_ne (tgt := 18) hx hb dX12_readOld_11 (by decide) (fun h9 => absurd (by decide +kernel) h9) (fun _ => ?_)
      refine lv_aload_n hx hb dX12_readOld_14 rfl (lv_at hl 0 rfl) ?_
      refine z_callVv (As := []) (rest := []) (wr := [(a_c, .inl (cA.1 0, 1825, .inl g_c)), (a_words, .inl (cA.1 1, 105, .inr (.inl g_words)))]) ⟨hx, hb, hml, hown, hts⟩ hK hE hT hP hD hS hA (r_wrong l G cA h0 m_status m_thrown m_above m_under a_traySort a_trayMany a_numbers a_tape m_taped m_textEnd m_faultKind m_faultAt m_bad m_badAt m_token m_at m_behind m_number m_letters m_word a_c a_words m_markMany a_there a_tried a_best a_found m_thereMany m_foundMany m_orderHow m_orderRing m_orderMany m_hasBest m_bestTop m_bestBy a_weights a_shared m_random m_truePlace m_trueWay m_seconds m_done m_feelings m_tries m_leftOver m_playDoor m_playRing m_isOpen m_isOver m_wasTried m_hasPlayed a_feltNow a_last a_kept m_hasSeconds m_hasTurned m_hasRound a_hasFeels a_isOn m_firstAct m_meanTop m_meanBy a_order m_rowMany m_newSteps hr_m_at hr_m_bad hr_m_token) lk_RX12_187 ⟨rfl, rfl⟩ ⟨Nat.le_of_ble_eq_true rfl, Nat.le_of_ble_eq_true rfl⟩ 12 rfl rfl rfl [2] [0, 1] rfl rfl (by decide) rfl hl.1 rfl (lv_room (Nat.le_of_ble_eq_true rfl)) dX12_readOld_15 ⟨Nat.le_of_ble_eq_true rfl, Nat.le_of_ble_eq_true rfl⟩ (fun u_13 H locs hw hP hD hS => ?_)
      obtain ⟨n_10, n_11⟩ := u_13
      try dsimp only at hw
      have hr_n_10 := hw
      refine lv_aload_n hx hb dX12_readOld_18 rfl (lv_at hl 0 rfl) ?_
      refine va_get (D := G) (ci := 12) (v := .int n_10) (C := RX12) (T := TX12) (N := 65) hx hb hts inT12 hown hK hP 2 rfl rfl 12 (by decide) (hts _ tw_1897) (fun _ h9 => h9) rfl dX12_readOld_19 ?_
      refine lv_if_ne (tgt := 44) hx hb dX12_readOld_22 (by decide) (fun c_14 => ?_) (fun h9 => (z_no (by have h8 := z_feqF h9; omega)))
      have b_15 := z_fneT c_14
      refine lv_iconst (v := 0) hx hb dX12_readOld_44 (by decide) ?_
      refine lv_istore_n (lv' := [(3, .int 0), (0, .ref h0), (1, .int 0), (2, .int 0)]) hx hb dX12_readOld_45 rfl hl (by decide) rfl (fun ls hl => ?_)
      refine lv_aload_n hx hb dX12_readOld_46 rfl (lv_at hl 1 rfl) ?_
      refine va_get (D := G) (ci := 12) (v := .int n_10) (C := RX12) (T := TX12) (N := 65) hx hb hts inT12 hown hK hP 2 rfl rfl 12 (by decide) (hts _ tw_1897) (fun _ h9 => h9) rfl dX12_readOld_47 ?_
      refine lv_if_ne (tgt := 66) hx hb dX12_readOld_50 (by decide) (fun c_16 => ?_) (fun h9 => (z_no (by have h8 := z_feqF h9; omega)))
      have b_17 := z_fneT c_16
      refine lv_iload_n hx hb dX12_readOld_66 rfl (lv_at hl 0 rfl) ?_
      have hpost : ((-1) ≤ (0 : Int32).toInt ∧ (0 : Int32).toInt ≤ 2) ∧ (0 ≤ n_10.toInt ∧ n_10.toInt ≤ 9) ∧ (m_behind.toInt ≤ m_behind.toInt) ∧ (0 < m_bad.toInt → 0 < n_10.toInt) ∧ (n_10.toInt ≤ 0 → 0 ≤ (0 : Int32).toInt ∧ (0 : Int32).toInt < (g_c 1460).toInt) := ⟨(by decide +kernel), (z_rgw hr_n_10 (by decide) (by decide)), (by omega), (by omega), (by omega)⟩
      exact hret _ _ _ _ _ _ (n_10, n_11) [2, 0, 1] hP hD hS rfl (by decide) dX12_readOld_67 hpost
    · skip
      refine lv_if_ne (tgt := 18) hx hb dX12_readOld_11 (by decide) (fun _ => ?_) (fun h9 => absurd h9 (by decide +kernel))
      refine lv_aload_n hx hb dX12_readOld_18 rfl (lv_at hl 0 rfl) ?_
      refine va_get (D := G) (ci := 12) (v := .int m_bad) (C := RX12) (T := TX12) (N := 65) hx hb hts inT12 hown hK hP 2 rfl rfl 12 (by decide) (hts _ tw_1897) (fun _ h9 => h9) rfl dX12_readOld_19 ?_
      refine lv_if_ne (tgt := 44) hx hb dX12_readOld_22 (by decide) (fun h9 => (z_no (by have h8 := z_fneT h9; omega))) (fun c_18 => ?_)
      have b_19 := z_feqF c_18
      refine lv_aload_n hx hb dX12_readOld_25 rfl (lv_at hl 0 rfl) ?_
      refine lv_iconst (v := 4) hx hb dX12_readOld_26 (by decide) ?_
      refine lv_iload_n hx hb dX12_readOld_27 rfl (lv_at hl 2 rfl) ?_
      refine lv_aload_n hx hb dX12_readOld_28 rfl (lv_at hl 0 rfl) ?_
      refine va_get (D := G) (ci := 12) (v := .ref a_c) (C := RX12) (T := TX12) (N := 65) hx hb hts inT12 hown hK hP 2 rfl rfl 20 (by decide) (hts _ tw_1905) (fun _ h9 => h9) rfl dX12_readOld_29 ?_
      refine lv_sipush (v := 1460) hx hb dX12_readOld_32 (by decide) ?_
      refine lv_iload_n hx hb dX12_readOld_35 rfl (lv_at hl 1 rfl) ?_
      refine lv_iadd hx hb dX12_readOld_36 ?_
      refine z_topi (y := 1460) (by decide +kernel) ?_
      refine va_iald hx hb hK hP 0 0 rfl rfl (z_in (i := 1460) (n := 1825) (by decide +kernel) (by decide +kernel)) dX12_readOld_37 ?_
      refine lv_topi (fun x_20 he_x_20 => ?_)
      have hr_x_20 := z_ctk hC_g_c he_x_20 (k := 1460) (lo := 0) (hi := 3) (by decide +kernel) (by decide +kernel) (by decide +kernel)
      have hv_x_20 := z_cv he_x_20 (k := 1460) (by decide +kernel)
      refine z_callVi (As := [.int 4, .int 0, .int x_20]) (rest := []) (wr := [(a_c, .inl (cA.1 0, 1825, .inl g_c))]) ⟨hx, hb, hml, hown, hts⟩ hK hE hT hP hD hS hA (r_named_4_0 l G cA h0 m_status m_thrown m_above m_under a_traySort a_trayMany a_numbers a_tape m_taped m_textEnd m_faultKind m_faultAt m_bad m_badAt m_token m_at m_behind m_number m_letters m_word a_c a_words m_markMany a_there a_tried a_best a_found m_thereMany m_foundMany m_orderHow m_orderRing m_orderMany m_hasBest m_bestTop m_bestBy a_weights a_shared m_random m_truePlace m_trueWay m_seconds m_done m_feelings m_tries m_leftOver m_playDoor m_playRing m_isOpen m_isOver m_wasTried m_hasPlayed a_feltNow a_last a_kept m_hasSeconds m_hasTurned m_hasRound a_hasFeels a_isOn m_firstAct m_meanTop m_meanBy a_order m_rowMany m_newSteps g_words x_20 hr_x_20) lk_RX12_196 ⟨rfl, rfl⟩ ⟨Nat.le_of_ble_eq_true rfl, Nat.le_of_ble_eq_true rfl⟩ 12 rfl rfl rfl [2, 1] [0] rfl rfl (by decide) rfl hl.1 rfl (lv_room (Nat.le_of_ble_eq_true rfl)) dX12_readOld_38 ⟨Nat.le_of_ble_eq_true rfl, Nat.le_of_ble_eq_true rfl⟩ (fun r_21 u_22 H locs hw hP hD hS => ?_)
      obtain ⟨hr_r_21, hf_23⟩ := hw
      refine lv_goto (tgt := 45) hx hb dX12_readOld_41 (by decide) ?_
      refine lv_istore_n (lv' := [(3, .int r_21), (0, .ref h0), (1, .int 0), (2, .int 0)]) hx hb dX12_readOld_45 rfl hl (by decide) rfl (fun ls hl => ?_)
      refine lv_aload_n hx hb dX12_readOld_46 rfl (lv_at hl 1 rfl) ?_
      refine va_get (D := G) (ci := 12) (v := .int m_bad) (C := RX12) (T := TX12) (N := 65) hx hb hts inT12 hown hK hP 1 rfl rfl 12 (by decide) (hts _ tw_1897) (fun _ h9 => h9) rfl dX12_readOld_47 ?_
      refine lv_if_ne (tgt := 66) hx hb dX12_readOld_50 (by decide) (fun h9 => (z_no (by have h8 := z_fneT h9; omega))) (fun c_24 => ?_)
      have b_25 := z_feqF c_24
      refine lv_iload_n hx hb dX12_readOld_53 rfl (lv_at hl 0 rfl) ?_
      refine lv_if_ge (tgt := 66) hx hb dX12_readOld_54 (by decide) (fun c_26 => ?_) (fun c_26 => ?_)
      · have b_27 := z_fgeT c_26
        refine lv_iload_n hx hb dX12_readOld_66 rfl (lv_at hl 0 rfl) ?_
        have hpost : ((-1) ≤ r_21.toInt ∧ r_21.toInt ≤ 2) ∧ (0 ≤ m_bad.toInt ∧ m_bad.toInt ≤ 9) ∧ (m_behind.toInt ≤ m_behind.toInt) ∧ (0 < m_bad.toInt → 0 < m_bad.toInt) ∧ (m_bad.toInt ≤ 0 → 0 ≤ r_21.toInt ∧ r_21.toInt < (g_c 1460).toInt) := ⟨hr_r_21, hr_m_bad, (by omega), (by omega), (by omega)⟩
        exact hret _ _ _ _ _ _ (m_bad, m_badAt) [1, 0, 2] hP hD hS rfl (by decide) dX12_readOld_67 hpost
      · have b_28 := z_fltF c_26
        refine lv_aload_n hx hb dX12_readOld_57 rfl (lv_at hl 1 rfl) ?_
        refine lv_iconst (v := 3) hx hb dX12_readOld_58 (by decide) ?_
        refine lv_aload_n hx hb dX12_readOld_59 rfl (lv_at hl 1 rfl) ?_
        refine va_get (D := G) (ci := 12) (v := .int m_at) (C := RX12) (T := TX12) (N := 65) hx hb hts inT12 hown hK hP 1 rfl rfl 15 (by decide) (hts _ tw_1900) (fun _ h9 => h9) rfl dX12_readOld_60 ?_
        refine z_callVv (As := [.int 3, .int m_at]) (rest := []) (wr := [(a_c, .inl (cA.1 0, 1825, .inl g_c)), (a_words, .inl (cA.1 1, 105, .inr (.inl g_words)))]) ⟨hx, hb, hml, hown, hts⟩ hK hE hT hP hD hS hA (r_fail l G cA h0 m_status m_thrown m_above m_under a_traySort a_trayMany a_numbers a_tape m_taped m_textEnd m_faultKind m_faultAt m_bad m_badAt m_token m_at m_behind m_number m_letters m_word a_c a_words m_markMany a_there a_tried a_best a_found m_thereMany m_foundMany m_orderHow m_orderRing m_orderMany m_hasBest m_bestTop m_bestBy a_weights a_shared m_random m_truePlace m_trueWay m_seconds m_done m_feelings m_tries m_leftOver m_playDoor m_playRing m_isOpen m_isOver m_wasTried m_hasPlayed a_feltNow a_last a_kept m_hasSeconds m_hasTurned m_hasRound a_hasFeels a_isOn m_firstAct m_meanTop m_meanBy a_order m_rowMany m_newSteps 3 m_at (by decide +kernel) hr_m_bad) lk_RX12_180 ⟨rfl, rfl⟩ ⟨Nat.le_of_ble_eq_true rfl, Nat.le_of_ble_eq_true rfl⟩ 12 rfl rfl rfl [1] [0, 2] rfl rfl (by decide) rfl hl.1 rfl (lv_room (Nat.le_of_ble_eq_true rfl)) dX12_readOld_63 ⟨Nat.le_of_ble_eq_true rfl, Nat.le_of_ble_eq_true rfl⟩ (fun u_32 H locs hw hP hD hS => ?_)
        obtain ⟨n_29, n_30⟩ := u_32
        try dsimp only at hw
        obtain ⟨hr_n_29, hf_33⟩ := hw
        refine lv_iload_n hx hb dX12_readOld_66 rfl (lv_at hl 0 rfl) ?_
        have hpost : ((-1) ≤ r_21.toInt ∧ r_21.toInt ≤ 2) ∧ (0 ≤ n_29.toInt ∧ n_29.toInt ≤ 9) ∧ (m_behind.toInt ≤ m_behind.toInt) ∧ (0 < m_bad.toInt → 0 < n_29.toInt) ∧ (n_29.toInt ≤ 0 → 0 ≤ r_21.toInt ∧ r_21.toInt < (g_c 1460).toInt) := ⟨hr_r_21, (z_rgw hr_n_29 (by decide) (by decide)), (by omega), (by omega), (by omega)⟩
        exact hret _ _ _ _ _ _ (n_29, n_30) [2, 0, 1] hP hD hS rfl (by decide) dX12_readOld_67 hpost
set_option maxHeartbeats 4000000 in
set_option maxRecDepth 100000 in
theorem r_readNew_1 (l : Launch) (G : va_G) (cA : zCA) (h0 : Nat) (m_status : Int32) (m_thrown : Int32) (m_above : Int64) (m_under : Int64) (a_traySort : Nat) (a_trayMany : Nat) (a_numbers : Nat) (a_tape : Nat) (m_taped : Int32) (m_textEnd : Int32) (m_faultKind : Int32) (m_faultAt : Int32) (m_bad : Int32) (m_badAt : Int32) (m_token : Int32) (m_at : Int32) (m_behind : Int32) (m_number : Int32) (m_letters : Int32) (m_word : Int64) (a_c : Nat) (a_words : Nat) (m_markMany : Int32) (a_there : Nat) (a_tried : Nat) (a_best : Nat) (a_found : Nat) (m_thereMany : Int32) (m_foundMany : Int32) (m_orderHow : Int32) (m_orderRing : Int32) (m_orderMany : Int32) (m_hasBest : Int32) (m_bestTop : Int64) (m_bestBy : Int64) (a_weights : Nat) (a_shared : Nat) (m_random : Int32) (m_truePlace : Int32) (m_trueWay : Int32) (m_seconds : Int32) (m_done : Int32) (m_feelings : Int32) (m_tries : Int32) (m_leftOver : Int32) (m_playDoor : Int32) (m_playRing : Int32) (m_isOpen : Int32) (m_isOver : Int32) (m_wasTried : Int32) (m_hasPlayed : Int32) (a_feltNow : Nat) (a_last : Nat) (a_kept : Nat) (m_hasSeconds : Int32) (m_hasTurned : Int32) (m_hasRound : Int32) (a_hasFeels : Nat) (a_isOn : Nat) (m_firstAct : Int32) (m_meanTop : Int64) (m_meanBy : Int64) (a_order : Nat) (m_rowMany : Int32) (m_newSteps : Int32) (g_tape : Nat → Int32) (g_c : Nat → Int32) (g_words : Nat → Int64) (hr_m_textEnd : 0 ≤ m_textEnd.toInt ∧ m_textEnd.toInt ≤ 900) (hr_m_at : 0 ≤ m_at.toInt ∧ m_at.toInt ≤ 900) (hr_m_behind : 0 ≤ m_behind.toInt ∧ m_behind.toInt ≤ 900) (hr_m_bad : 0 ≤ m_bad.toInt ∧ m_bad.toInt ≤ 9) (hr_m_token : 0 ≤ m_token.toInt ∧ m_token.toInt ≤ 4) (hr_m_number : 0 ≤ m_number.toInt ∧ m_number.toInt ≤ 9999) (hr_m_letters : 0 ≤ m_letters.toInt ∧ m_letters.toInt ≤ 900) (hC_g_c : zC g_c) : zCi l yX12_readNew cX12_readNew 5 (some .int) ({ frames := 3, cells := 0, slots := 0, locals := 67 }) G cA [.ref h0, .int 1, .int 10, .int 3] [(h0, .inr (12, [.int m_status, .int m_thrown, .long m_above, .long m_under, .ref a_traySort, .ref a_trayMany, .ref a_numbers, .ref a_tape, .int m_taped, .int m_textEnd, .int m_faultKind, .int m_faultAt, .int m_bad, .int m_badAt, .int m_token, .int m_at, .int m_behind, .int m_number, .int m_letters, .long m_word, .ref a_c, .ref a_words, .int m_markMany, .ref a_there, .ref a_tried, .ref a_best, .ref a_found, .int m_thereMany, .int m_foundMany, .int m_orderHow, .int m_orderRing, .int m_orderMany, .int m_hasBest, .long m_bestTop, .long m_bestBy, .ref a_weights, .ref a_shared, .int m_random, .int m_truePlace, .int m_trueWay, .int m_seconds, .int m_done, .int m_feelings, .int m_tries, .int m_leftOver, .int m_playDoor, .int m_playRing, .int m_isOpen, .int m_isOver, .int m_wasTried, .int m_hasPlayed, .ref a_feltNow, .ref a_last, .ref a_kept, .int m_hasSeconds, .int m_hasTurned, .int m_hasRound, .ref a_hasFeels, .ref a_isOn, .int m_firstAct, .long m_meanTop, .long m_meanBy, .ref a_order, .int m_rowMany, .int m_newSteps])), (a_tape, .inl (cA.1 2, 900, .inl g_tape)), (a_c, .inl (cA.1 0, 1825, .inl g_c)), (a_words, .inl (cA.1 1, 105, .inr (.inl g_words)))] (S := Int32 × Int32 × Int32 × Int32 × Int32 × Int32 × Int32 × Int64 × (Nat → Int64)) (fun (r : Int32) (u : Int32 × Int32 × Int32 × Int32 × Int32 × Int32 × Int32 × Int64 × (Nat → Int64)) => (0 ≤ r.toInt ∧ r.toInt ≤ 9) ∧ (0 ≤ u.1.toInt ∧ u.1.toInt ≤ 9) ∧ (0 ≤ u.2.2.1.toInt ∧ u.2.2.1.toInt ≤ 4) ∧ (0 ≤ u.2.2.2.1.toInt ∧ u.2.2.2.1.toInt ≤ 900) ∧ (0 ≤ u.2.2.2.2.1.toInt ∧ u.2.2.2.2.1.toInt ≤ 900) ∧ (0 ≤ u.2.2.2.2.2.1.toInt ∧ u.2.2.2.2.2.1.toInt ≤ 9999) ∧ (0 ≤ u.2.2.2.2.2.2.1.toInt ∧ u.2.2.2.2.2.2.1.toInt ≤ 900) ∧ (m_behind.toInt ≤ u.2.2.2.2.1.toInt) ∧ (0 < m_bad.toInt → 0 < u.1.toInt) ∧ (u.1.toInt ≤ 0 → u.2.2.1.toInt = 0 ∨ m_behind.toInt < u.2.2.2.2.1.toInt) ∧ (u.1.toInt ≤ 0 → r.toInt = (g_c 1461).toInt) ∧ (r.toInt < 10)) (fun (u : Int32 × Int32 × Int32 × Int32 × Int32 × Int32 × Int32 × Int64 × (Nat → Int64)) => [(h0, .inr (12, [.int m_status, .int m_thrown, .long m_above, .long m_under, .ref a_traySort, .ref a_trayMany, .ref a_numbers, .ref a_tape, .int m_taped, .int m_textEnd, .int m_faultKind, .int m_faultAt, .int u.1, .int u.2.1, .int u.2.2.1, .int u.2.2.2.1, .int u.2.2.2.2.1, .int u.2.2.2.2.2.1, .int u.2.2.2.2.2.2.1, .long u.2.2.2.2.2.2.2.1, .ref a_c, .ref a_words, .int m_markMany, .ref a_there, .ref a_tried, .ref a_best, .ref a_found, .int m_thereMany, .int m_foundMany, .int m_orderHow, .int m_orderRing, .int m_orderMany, .int m_hasBest, .long m_bestTop, .long m_bestBy, .ref a_weights, .ref a_shared, .int m_random, .int m_truePlace, .int m_trueWay, .int m_seconds, .int m_done, .int m_feelings, .int m_tries, .int m_leftOver, .int m_playDoor, .int m_playRing, .int m_isOpen, .int m_isOver, .int m_wasTried, .int m_hasPlayed, .ref a_feltNow, .ref a_last, .ref a_kept, .int m_hasSeconds, .int m_hasTurned, .int m_hasRound, .ref a_hasFeels, .ref a_isOn, .int m_firstAct, .long m_meanTop, .long m_meanBy, .ref a_order, .int m_rowMany, .int m_newSteps])), (a_tape, .inl (cA.1 2, 900, .inl g_tape)), (a_c, .inl (cA.1 0, 1825, .inl g_c)), (a_words, .inl (cA.1 1, 105, .inr (.inl u.2.2.2.2.2.2.2.2)))]) 0 0 := by
  have hk_0 : (0 : Int32).toInt = 0 := by decide +kernel
  have hk_3 : (3 : Int32).toInt = 3 := by decide +kernel
  have hk_6 : (6 : Int32).toInt = 6 := by decide +kernel
  have hk_10 : (10 : Int32).toInt = 10 := by decide +kernel
  have hk_87 : (87 : Int32).toInt = 87 := by decide +kernel
  refine z_start2i (own := RX12) (by decide) (Nat.le_of_ble_eq_true rfl) rfl ?_
  intro p e s m args below meth c A ls Q hx hb hml hts hown hK hE hT hP hD hS hA hl hret
  have hl : lv_has ls 5 [(0, .ref h0), (1, .int 1), (2, .int 10), (3, .int 3)] := hl
  refine lv_aload_n hx hb dX12_readNew_0 rfl (lv_at hl 0 rfl) ?_
  refine va_get (D := G) (ci := 12) (v := .ref a_c) (C := RX12) (T := TX12) (N := 65) hx hb hts inT12 hown hK hP 0 rfl rfl 20 (by decide) (hts _ tw_1905) (fun _ h9 => h9) rfl dX12_readNew_1 ?_
  refine lv_sipush (v := 1460) hx hb dX12_readNew_4 (by decide) ?_
  refine lv_iload_n hx hb dX12_readNew_7 rfl (lv_at hl 1 rfl) ?_
  refine lv_iadd hx hb dX12_readNew_8 ?_
  refine z_topi (y := 1461) (by decide +kernel) ?_
  refine va_iald hx hb hK hP 2 0 rfl rfl (z_in (i := 1461) (n := 1825) (by decide +kernel) (by decide +kernel)) dX12_readNew_9 ?_
  refine lv_topi (fun x_1 he_x_1 => ?_)
  have hr_x_1 := z_ctk hC_g_c he_x_1 (k := 1461) (lo := 0) (hi := 10) (by decide +kernel) (by decide +kernel) (by decide +kernel)
  have hv_x_1 := z_cv he_x_1 (k := 1461) (by decide +kernel)
  refine lv_istore (lv' := [(4, .int x_1), (0, .ref h0), (1, .int 1), (2, .int 10), (3, .int 3)]) hx hb dX12_readNew_10 hl (by decide) rfl (fun ls hl => ?_)
  refine lv_aload_n hx hb dX12_readNew_12 rfl (lv_at hl 1 rfl) ?_
  refine va_get (D := G) (ci := 12) (v := .int m_bad) (C := RX12) (T := TX12) (N := 65) hx hb hts inT12 hown hK hP 0 rfl rfl 12 (by decide) (hts _ tw_1897) (fun _ h9 => h9) rfl dX12_readNew_13 ?_
  refine lv_if_ne (tgt := 35) hx hb dX12_readNew_16 (by decide) (fun c_2 => ?_) (fun c_2 => ?_)
  · have b_3 := z_fneT c_2
    refine lv_aload_n hx hb dX12_readNew_35 rfl (lv_at hl 1 rfl) ?_
    refine va_get (D := G) (ci := 12) (v := .int m_bad) (C := RX12) (T := TX12) (N := 65) hx hb hts inT12 hown hK hP 0 rfl rfl 12 (by decide) (hts _ tw_1897) (fun _ h9 => h9) rfl dX12_readNew_36 ?_
    refine lv_if_le (tgt := 44) hx hb dX12_readNew_39 (by decide) (fun h9 => (z_no (by have h8 := z_fleT h9; omega))) (fun c_4 => ?_)
    have b_5 := z_fgtF c_4
    refine lv_iconst (v := 0) hx hb dX12_readNew_42 (by decide) ?_
    have hpost : (0 ≤ (0 : Int32).toInt ∧ (0 : Int32).toInt ≤ 9) ∧ (0 ≤ m_bad.toInt ∧ m_bad.toInt ≤ 9) ∧ (0 ≤ m_token.toInt ∧ m_token.toInt ≤ 4) ∧ (0 ≤ m_at.toInt ∧ m_at.toInt ≤ 900) ∧ (0 ≤ m_behind.toInt ∧ m_behind.toInt ≤ 900) ∧ (0 ≤ m_number.toInt ∧ m_number.toInt ≤ 9999) ∧ (0 ≤ m_letters.toInt ∧ m_letters.toInt ≤ 900) ∧ (m_behind.toInt ≤ m_behind.toInt) ∧ (0 < m_bad.toInt → 0 < m_bad.toInt) ∧ (m_bad.toInt ≤ 0 → m_token.toInt = 0 ∨ m_behind.toInt < m_behind.toInt) ∧ (m_bad.toInt ≤ 0 → (0 : Int32).toInt = (g_c 1461).toInt) ∧ ((0 : Int32).toInt < 10) := ⟨(by decide +kernel), hr_m_bad, hr_m_token, hr_m_at, hr_m_behind, hr_m_number, hr_m_letters, (by omega), (by omega), (by omega), (by omega), (by omega)⟩
    exact hret _ _ _ _ _ _ (m_bad, m_badAt, m_token, m_at, m_behind, m_number, m_letters, m_word, g_words) [0, 1, 2, 3] hP hD hS rfl (by decide) dX12_readNew_43 hpost
  · have b_6 := z_feqF c_2
    refine lv_iload hx hb dX12_readNew_19 (lv_at hl 0 rfl) ?_
    refine lv_iload_n hx hb dX12_readNew_21 rfl (lv_at hl 3 rfl) ?_
    refine lv_icmp_ne (tgt := 35) hx hb dX12_readNew_22 (by decide) (fun c_7 => ?_) (fun c_7 => ?_)
    · have b_8 := z_fneT c_7
      refine lv_aload_n hx hb dX12_readNew_35 rfl (lv_at hl 1 rfl) ?_
      refine va_get (D := G) (ci := 12) (v := .int m_bad) (C := RX12) (T := TX12) (N := 65) hx hb hts inT12 hown hK hP 0 rfl rfl 12 (by decide) (hts _ tw_1897) (fun _ h9 => h9) rfl dX12_readNew_36 ?_
      refine lv_if_le (tgt := 44) hx hb dX12_readNew_39 (by decide) (fun c_9 => ?_) (fun h9 => (z_no (by have h8 := z_fgtF h9; omega)))
      have b_10 := z_fleT c_9
      refine lv_aload_n hx hb dX12_readNew_44 rfl (lv_at hl 1 rfl) ?_
      refine z_callVv (As := []) (rest := []) (wr := [(a_c, .inl (cA.1 0, 1825, .inl g_c)), (a_words, .inl (cA.1 1, 105, .inr (.inl g_words)))]) ⟨hx, hb, hml, hown, hts⟩ hK hE hT hP hD hS hA (r_next2 l G cA h0 m_status m_thrown m_above m_under a_traySort a_trayMany a_numbers a_tape m_taped m_textEnd m_faultKind m_faultAt m_bad m_badAt m_token m_at m_behind m_number m_letters m_word a_c a_words m_markMany a_there a_tried a_best a_found m_thereMany m_foundMany m_orderHow m_orderRing m_orderMany m_hasBest m_bestTop m_bestBy a_weights a_shared m_random m_truePlace m_trueWay m_seconds m_done m_feelings m_tries m_leftOver m_playDoor m_playRing m_isOpen m_isOver m_wasTried m_hasPlayed a_feltNow a_last a_kept m_hasSeconds m_hasTurned m_hasRound a_hasFeels a_isOn m_firstAct m_meanTop m_meanBy a_order m_rowMany m_newSteps g_tape hr_m_textEnd hr_m_at hr_m_behind hr_m_token hr_m_number hr_m_letters) lk_RX12_184 ⟨rfl, rfl⟩ ⟨Nat.le_of_ble_eq_true rfl, Nat.le_of_ble_eq_true rfl⟩ 12 rfl rfl rfl [0, 1] [2, 3] rfl rfl (by decide) rfl hl.1 rfl (lv_room (Nat.le_of_ble_eq_true rfl)) dX12_readNew_45 ⟨Nat.le_of_ble_eq_true rfl, Nat.le_of_ble_eq_true rfl⟩ (fun u_18 H locs hw hP hD hS => ?_)
      obtain ⟨n_11, n_12, n_13, n_14, n_15, n_16⟩ := u_18
      try dsimp only at hw
      obtain ⟨hr_n_11, hr_n_12, hr_n_13, hr_n_14, hr_n_15, hf_19, hf_20⟩ := hw
      refine lv_aload_n hx hb dX12_readNew_48 rfl (lv_at hl 1 rfl) ?_
      refine z_callVi (As := []) (rest := []) (wr := [(a_c, .inl (cA.1 0, 1825, .inl g_c)), (a_words, .inl (cA.1 1, 105, .inr (.inl g_words))), (a_tape, .inl (cA.1 2, 900, .inl g_tape))]) ⟨hx, hb, hml, hown, hts⟩ hK hE hT hP hD hS hA (r_isHouseName l G cA h0 m_status m_thrown m_above m_under a_traySort a_trayMany a_numbers a_tape m_taped m_textEnd m_faultKind m_faultAt m_bad m_badAt n_11 n_12 n_13 n_14 n_15 n_16 a_c a_words m_markMany a_there a_tried a_best a_found m_thereMany m_foundMany m_orderHow m_orderRing m_orderMany m_hasBest m_bestTop m_bestBy a_weights a_shared m_random m_truePlace m_trueWay m_seconds m_done m_feelings m_tries m_leftOver m_playDoor m_playRing m_isOpen m_isOver m_wasTried m_hasPlayed a_feltNow a_last a_kept m_hasSeconds m_hasTurned m_hasRound a_hasFeels a_isOn m_firstAct m_meanTop m_meanBy a_order m_rowMany m_newSteps hr_n_11 hr_n_15) lk_RX12_200 ⟨rfl, rfl⟩ ⟨Nat.le_of_ble_eq_true rfl, Nat.le_of_ble_eq_true rfl⟩ 12 rfl rfl rfl [2] [0, 1, 3] rfl rfl (by decide) rfl hl.1 rfl (lv_room (Nat.le_of_ble_eq_true rfl)) dX12_readNew_49 ⟨Nat.le_of_ble_eq_true rfl, Nat.le_of_ble_eq_true rfl⟩ (fun r_21 u_22 H locs hw hP hD hS => ?_)
      rcases hw with ⟨rfl, -⟩ | ⟨rfl, -⟩
      · skip
        refine lv_if_ne (tgt := 59) hx hb dX12_readNew_52 (by decide) (fun h9 => absurd (by decide +kernel) h9) (fun _ => ?_)
        refine lv_aload_n hx hb dX12_readNew_55 rfl (lv_at hl 1 rfl) ?_
        refine z_callVv (As := []) (rest := []) (wr := [(a_c, .inl (cA.1 0, 1825, .inl g_c)), (a_words, .inl (cA.1 1, 105, .inr (.inl g_words))), (a_tape, .inl (cA.1 2, 900, .inl g_tape))]) ⟨hx, hb, hml, hown, hts⟩ hK hE hT hP hD hS hA (r_wrong l G cA h0 m_status m_thrown m_above m_under a_traySort a_trayMany a_numbers a_tape m_taped m_textEnd m_faultKind m_faultAt m_bad m_badAt n_11 n_12 n_13 n_14 n_15 n_16 a_c a_words m_markMany a_there a_tried a_best a_found m_thereMany m_foundMany m_orderHow m_orderRing m_orderMany m_hasBest m_bestTop m_bestBy a_weights a_shared m_random m_truePlace m_trueWay m_seconds m_done m_feelings m_tries m_leftOver m_playDoor m_playRing m_isOpen m_isOver m_wasTried m_hasPlayed a_feltNow a_last a_kept m_hasSeconds m_hasTurned m_hasRound a_hasFeels a_isOn m_firstAct m_meanTop m_meanBy a_order m_rowMany m_newSteps hr_n_12 hr_m_bad hr_n_11) lk_RX12_187 ⟨rfl, rfl⟩ ⟨Nat.le_of_ble_eq_true rfl, Nat.le_of_ble_eq_true rfl⟩ 12 rfl rfl rfl [3] [0, 1, 2] rfl rfl (by decide) rfl hl.1 rfl (lv_room (Nat.le_of_ble_eq_true rfl)) dX12_readNew_56 ⟨Nat.le_of_ble_eq_true rfl, Nat.le_of_ble_eq_true rfl⟩ (fun u_26 H locs hw hP hD hS => ?_)
        obtain ⟨n_23, n_24⟩ := u_26
        try dsimp only at hw
        have hr_n_23 := hw
        refine lv_aload_n hx hb dX12_readNew_59 rfl (lv_at hl 1 rfl) ?_
        refine va_get (D := G) (ci := 12) (v := .int n_23) (C := RX12) (T := TX12) (N := 65) hx hb hts inT12 hown hK hP 3 rfl rfl 12 (by decide) (hts _ tw_1897) (fun _ h9 => h9) rfl dX12_readNew_60 ?_
        refine lv_if_ne (tgt := 82) hx hb dX12_readNew_63 (by decide) (fun c_27 => ?_) (fun h9 => (z_no (by have h8 := z_feqF h9; omega)))
        have b_28 := z_fneT c_27
        refine lv_aload_n hx hb dX12_readNew_82 rfl (lv_at hl 1 rfl) ?_
        refine va_get (D := G) (ci := 12) (v := .int n_23) (C := RX12) (T := TX12) (N := 65) hx hb hts inT12 hown hK hP 3 rfl rfl 12 (by decide) (hts _ tw_1897) (fun _ h9 => h9) rfl dX12_readNew_83 ?_
        refine lv_if_le (tgt := 91) hx hb dX12_readNew_86 (by decide) (fun h9 => (z_no (by have h8 := z_fleT h9; omega))) (fun c_29 => ?_)
        have b_30 := z_fgtF c_29
        refine lv_iconst (v := 0) hx hb dX12_readNew_89 (by decide) ?_
        have hpost : (0 ≤ (0 : Int32).toInt ∧ (0 : Int32).toInt ≤ 9) ∧ (0 ≤ n_23.toInt ∧ n_23.toInt ≤ 9) ∧ (0 ≤ n_11.toInt ∧ n_11.toInt ≤ 4) ∧ (0 ≤ n_12.toInt ∧ n_12.toInt ≤ 900) ∧ (0 ≤ n_13.toInt ∧ n_13.toInt ≤ 900) ∧ (0 ≤ n_14.toInt ∧ n_14.toInt ≤ 9999) ∧ (0 ≤ n_15.toInt ∧ n_15.toInt ≤ 900) ∧ (m_behind.toInt ≤ n_13.toInt) ∧ (0 < m_bad.toInt → 0 < n_23.toInt) ∧ (n_23.toInt ≤ 0 → n_11.toInt = 0 ∨ m_behind.toInt < n_13.toInt) ∧ (n_23.toInt ≤ 0 → (0 : Int32).toInt = (g_c 1461).toInt) ∧ ((0 : Int32).toInt < 10) := ⟨(by decide +kernel), (z_rgw hr_n_23 (by decide) (by decide)), hr_n_11, hr_n_12, hr_n_13, hr_n_14, hr_n_15, (by omega), (by omega), (by omega), (by omega), (by omega)⟩
        exact hret _ _ _ _ _ _ (n_23, n_24, n_11, n_12, n_13, n_14, n_15, n_16, g_words) [3, 2, 0, 1] hP hD hS rfl (by decide) dX12_readNew_90 hpost
      · skip
        refine lv_if_ne (tgt := 59) hx hb dX12_readNew_52 (by decide) (fun _ => ?_) (fun h9 => absurd h9 (by decide +kernel))
        refine lv_aload_n hx hb dX12_readNew_59 rfl (lv_at hl 1 rfl) ?_
        refine va_get (D := G) (ci := 12) (v := .int m_bad) (C := RX12) (T := TX12) (N := 65) hx hb hts inT12 hown hK hP 3 rfl rfl 12 (by decide) (hts _ tw_1897) (fun _ h9 => h9) rfl dX12_readNew_60 ?_
        refine lv_if_ne (tgt := 82) hx hb dX12_readNew_63 (by decide) (fun h9 => (z_no (by have h8 := z_fneT h9; omega))) (fun c_31 => ?_)
        have b_32 := z_feqF c_31
        refine lv_aload_n hx hb dX12_readNew_66 rfl (lv_at hl 1 rfl) ?_
        refine z_callVi (As := []) (rest := []) (wr := [(a_tape, .inl (cA.1 2, 900, .inl g_tape))]) ⟨hx, hb, hml, hown, hts⟩ hK hE hT hP hD hS hA (r_isTaken l G cA h0 m_status m_thrown m_above m_under a_traySort a_trayMany a_numbers a_tape m_taped m_textEnd m_faultKind m_faultAt m_bad m_badAt n_11 n_12 n_13 n_14 n_15 n_16 a_c a_words m_markMany a_there a_tried a_best a_found m_thereMany m_foundMany m_orderHow m_orderRing m_orderMany m_hasBest m_bestTop m_bestBy a_weights a_shared m_random m_truePlace m_trueWay m_seconds m_done m_feelings m_tries m_leftOver m_playDoor m_playRing m_isOpen m_isOver m_wasTried m_hasPlayed a_feltNow a_last a_kept m_hasSeconds m_hasTurned m_hasRound a_hasFeels a_isOn m_firstAct m_meanTop m_meanBy a_order m_rowMany m_newSteps g_c g_words hC_g_c) lk_RX12_204 ⟨rfl, rfl⟩ ⟨Nat.le_of_ble_eq_true rfl, Nat.le_of_ble_eq_true rfl⟩ 12 rfl rfl rfl [3, 0, 1] [2] rfl rfl (by decide) rfl hl.1 rfl (lv_room (Nat.le_of_ble_eq_true rfl)) dX12_readNew_67 ⟨Nat.le_of_ble_eq_true rfl, Nat.le_of_ble_eq_true rfl⟩ (fun r_33 u_34 H locs hw hP hD hS => ?_)
        rcases hw with ⟨rfl, -⟩ | ⟨rfl, -⟩
        · skip
          refine lv_if_eq (tgt := 82) hx hb dX12_readNew_70 (by decide) (fun _ => ?_) (fun h9 => absurd (by decide +kernel) h9)
          refine lv_aload_n hx hb dX12_readNew_82 rfl (lv_at hl 1 rfl) ?_
          refine va_get (D := G) (ci := 12) (v := .int m_bad) (C := RX12) (T := TX12) (N := 65) hx hb hts inT12 hown hK hP 1 rfl rfl 12 (by decide) (hts _ tw_1897) (fun _ h9 => h9) rfl dX12_readNew_83 ?_
          refine lv_if_le (tgt := 91) hx hb dX12_readNew_86 (by decide) (fun c_35 => ?_) (fun h9 => (z_no (by have h8 := z_fgtF h9; omega)))
          have b_36 := z_fleT c_35
          refine lv_aload_n hx hb dX12_readNew_91 rfl (lv_at hl 1 rfl) ?_
          refine va_get (D := G) (ci := 12) (v := .ref a_words) (C := RX12) (T := TX12) (N := 65) hx hb hts inT12 hown hK hP 1 rfl rfl 21 (by decide) (hts _ tw_1906) (fun _ h9 => h9) rfl dX12_readNew_92 ?_
          refine lv_bipush (v := 84) hx hb dX12_readNew_95 (by decide) ?_
          refine lv_iload_n hx hb dX12_readNew_97 rfl (lv_at hl 4 rfl) ?_
          refine lv_iadd hx hb dX12_readNew_98 ?_
          refine z_topi (y := 87) (by decide +kernel) ?_
          refine lv_iload hx hb dX12_readNew_99 (lv_at hl 0 rfl) ?_
          refine lv_iadd hx hb dX12_readNew_101 ?_
          refine lv_topi (fun x_37 he_x_37 => ?_)
          have hq_x_37 := z_addq he_x_37 hk_87 (rfl : x_1.toInt = _) (by omega) (by omega)
          refine lv_aload_n hx hb dX12_readNew_102 rfl (lv_at hl 1 rfl) ?_
          refine va_get (D := G) (ci := 12) (v := .long n_16) (C := RX12) (T := TX12) (N := 65) hx hb hts inT12 hown hK hP 1 rfl rfl 19 (by decide) (hts _ tw_1904) (fun _ h9 => h9) rfl dX12_readNew_103 ?_
          refine z_last hx hb hK hP hD hS 3 1 rfl rfl (z_inN (by omega) (by omega)) dX12_readNew_106 (fun g_38 hg_g_38 H locs hP hD hS => ?_)
          refine lv_aload_n hx hb dX12_readNew_107 rfl (lv_at hl 1 rfl) ?_
          refine z_callVv (As := []) (rest := []) (wr := [(a_c, .inl (cA.1 0, 1825, .inl g_c)), (a_words, .inl (cA.1 1, 105, .inr (.inl g_38)))]) ⟨hx, hb, hml, hown, hts⟩ hK hE hT hP hD hS hA (r_next2 l G cA h0 m_status m_thrown m_above m_under a_traySort a_trayMany a_numbers a_tape m_taped m_textEnd m_faultKind m_faultAt m_bad m_badAt n_11 n_12 n_13 n_14 n_15 n_16 a_c a_words m_markMany a_there a_tried a_best a_found m_thereMany m_foundMany m_orderHow m_orderRing m_orderMany m_hasBest m_bestTop m_bestBy a_weights a_shared m_random m_truePlace m_trueWay m_seconds m_done m_feelings m_tries m_leftOver m_playDoor m_playRing m_isOpen m_isOver m_wasTried m_hasPlayed a_feltNow a_last a_kept m_hasSeconds m_hasTurned m_hasRound a_hasFeels a_isOn m_firstAct m_meanTop m_meanBy a_order m_rowMany m_newSteps g_tape hr_m_textEnd hr_n_12 hr_n_13 hr_n_11 hr_n_14 hr_n_15) lk_RX12_184 ⟨rfl, rfl⟩ ⟨Nat.le_of_ble_eq_true rfl, Nat.le_of_ble_eq_true rfl⟩ 12 rfl rfl rfl [1, 0] [2, 3] rfl rfl (by decide) rfl hl.1 rfl (lv_room (Nat.le_of_ble_eq_true rfl)) dX12_readNew_108 ⟨Nat.le_of_ble_eq_true rfl, Nat.le_of_ble_eq_true rfl⟩ (fun u_46 H locs hw hP hD hS => ?_)
          obtain ⟨n_39, n_40, n_41, n_42, n_43, n_44⟩ := u_46
          try dsimp only at hw
          obtain ⟨hr_n_39, hr_n_40, hr_n_41, hr_n_42, hr_n_43, hf_47, hf_48⟩ := hw
          refine lv_iload hx hb dX12_readNew_111 (lv_at hl 0 rfl) ?_
          have hpost : (0 ≤ x_1.toInt ∧ x_1.toInt ≤ 9) ∧ (0 ≤ m_bad.toInt ∧ m_bad.toInt ≤ 9) ∧ (0 ≤ n_39.toInt ∧ n_39.toInt ≤ 4) ∧ (0 ≤ n_40.toInt ∧ n_40.toInt ≤ 900) ∧ (0 ≤ n_41.toInt ∧ n_41.toInt ≤ 900) ∧ (0 ≤ n_42.toInt ∧ n_42.toInt ≤ 9999) ∧ (0 ≤ n_43.toInt ∧ n_43.toInt ≤ 900) ∧ (m_behind.toInt ≤ n_41.toInt) ∧ (0 < m_bad.toInt → 0 < m_bad.toInt) ∧ (m_bad.toInt ≤ 0 → n_39.toInt = 0 ∨ m_behind.toInt < n_41.toInt) ∧ (m_bad.toInt ≤ 0 → x_1.toInt = (g_c 1461).toInt) ∧ (x_1.toInt < 10) := ⟨(by omega), hr_m_bad, hr_n_39, hr_n_40, hr_n_41, hr_n_42, hr_n_43, (by omega), (by omega), (by omega), (by omega), (by omega)⟩
          exact hret _ _ _ _ _ _ (m_bad, m_badAt, n_39, n_40, n_41, n_42, n_43, n_44, g_38) [2, 3, 0, 1] hP hD hS rfl (by decide) dX12_readNew_113 hpost
        · skip
          refine lv_if_eq (tgt := 82) hx hb dX12_readNew_70 (by decide) (fun h9 => absurd h9 (by decide +kernel)) (fun _ => ?_)
          refine lv_aload_n hx hb dX12_readNew_73 rfl (lv_at hl 1 rfl) ?_
          refine lv_iconst (v := 3) hx hb dX12_readNew_74 (by decide) ?_
          refine lv_aload_n hx hb dX12_readNew_75 rfl (lv_at hl 1 rfl) ?_
          refine va_get (D := G) (ci := 12) (v := .int n_12) (C := RX12) (T := TX12) (N := 65) hx hb hts inT12 hown hK hP 1 rfl rfl 15 (by decide) (hts _ tw_1900) (fun _ h9 => h9) rfl dX12_readNew_76 ?_
          refine z_callVv (As := [.int 3, .int n_12]) (rest := []) (wr := [(a_tape, .inl (cA.1 2, 900, .inl g_tape)), (a_c, .inl (cA.1 0, 1825, .inl g_c)), (a_words, .inl (cA.1 1, 105, .inr (.inl g_words)))]) ⟨hx, hb, hml, hown, hts⟩ hK hE hT hP hD hS hA (r_fail l G cA h0 m_status m_thrown m_above m_under a_traySort a_trayMany a_numbers a_tape m_taped m_textEnd m_faultKind m_faultAt m_bad m_badAt n_11 n_12 n_13 n_14 n_15 n_16 a_c a_words m_markMany a_there a_tried a_best a_found m_thereMany m_foundMany m_orderHow m_orderRing m_orderMany m_hasBest m_bestTop m_bestBy a_weights a_shared m_random m_truePlace m_trueWay m_seconds m_done m_feelings m_tries m_leftOver m_playDoor m_playRing m_isOpen m_isOver m_wasTried m_hasPlayed a_feltNow a_last a_kept m_hasSeconds m_hasTurned m_hasRound a_hasFeels a_isOn m_firstAct m_meanTop m_meanBy a_order m_rowMany m_newSteps 3 n_12 (by decide +kernel) hr_m_bad) lk_RX12_180 ⟨rfl, rfl⟩ ⟨Nat.le_of_ble_eq_true rfl, Nat.le_of_ble_eq_true rfl⟩ 12 rfl rfl rfl [1] [0, 2, 3] rfl rfl (by decide) rfl hl.1 rfl (lv_room (Nat.le_of_ble_eq_true rfl)) dX12_readNew_79 ⟨Nat.le_of_ble_eq_true rfl, Nat.le_of_ble_eq_true rfl⟩ (fun u_52 H locs hw hP hD hS => ?_)
          obtain ⟨n_49, n_50⟩ := u_52
          try dsimp only at hw
          obtain ⟨hr_n_49, hf_53⟩ := hw
          refine lv_aload_n hx hb dX12_readNew_82 rfl (lv_at hl 1 rfl) ?_
          refine va_get (D := G) (ci := 12) (v := .int n_49) (C := RX12) (T := TX12) (N := 65) hx hb hts inT12 hown hK hP 3 rfl rfl 12 (by decide) (hts _ tw_1897) (fun _ h9 => h9) rfl dX12_readNew_83 ?_
          refine lv_if_le (tgt := 91) hx hb dX12_readNew_86 (by decide) (fun h9 => (z_no (by have h8 := z_fleT h9; omega))) (fun c_54 => ?_)
          have b_55 := z_fgtF c_54
          refine lv_iconst (v := 0) hx hb dX12_readNew_89 (by decide) ?_
          have hpost : (0 ≤ (0 : Int32).toInt ∧ (0 : Int32).toInt ≤ 9) ∧ (0 ≤ n_49.toInt ∧ n_49.toInt ≤ 9) ∧ (0 ≤ n_11.toInt ∧ n_11.toInt ≤ 4) ∧ (0 ≤ n_12.toInt ∧ n_12.toInt ≤ 900) ∧ (0 ≤ n_13.toInt ∧ n_13.toInt ≤ 900) ∧ (0 ≤ n_14.toInt ∧ n_14.toInt ≤ 9999) ∧ (0 ≤ n_15.toInt ∧ n_15.toInt ≤ 900) ∧ (m_behind.toInt ≤ n_13.toInt) ∧ (0 < m_bad.toInt → 0 < n_49.toInt) ∧ (n_49.toInt ≤ 0 → n_11.toInt = 0 ∨ m_behind.toInt < n_13.toInt) ∧ (n_49.toInt ≤ 0 → (0 : Int32).toInt = (g_c 1461).toInt) ∧ ((0 : Int32).toInt < 10) := ⟨(by decide +kernel), (z_rgw hr_n_49 (by decide) (by decide)), hr_n_11, hr_n_12, hr_n_13, hr_n_14, hr_n_15, (by omega), (by omega), (by omega), (by omega), (by omega)⟩
          exact hret _ _ _ _ _ _ (n_49, n_50, n_11, n_12, n_13, n_14, n_15, n_16, g_words) [3, 0, 1, 2] hP hD hS rfl (by decide) dX12_readNew_90 hpost
    · have b_56 := z_feqF c_7
      refine lv_aload_n hx hb dX12_readNew_25 rfl (lv_at hl 1 rfl) ?_
      refine lv_bipush (v := 6) hx hb dX12_readNew_26 (by decide) ?_
      refine lv_aload_n hx hb dX12_readNew_28 rfl (lv_at hl 1 rfl) ?_
      refine va_get (D := G) (ci := 12) (v := .int m_at) (C := RX12) (T := TX12) (N := 65) hx hb hts inT12 hown hK hP 0 rfl rfl 15 (by decide) (hts _ tw_1900) (fun _ h9 => h9) rfl dX12_readNew_29 ?_
      refine z_callVv (As := [.int 6, .int m_at]) (rest := []) (wr := [(a_tape, .inl (cA.1 2, 900, .inl g_tape)), (a_c, .inl (cA.1 0, 1825, .inl g_c)), (a_words, .inl (cA.1 1, 105, .inr (.inl g_words)))]) ⟨hx, hb, hml, hown, hts⟩ hK hE hT hP hD hS hA (r_fail l G cA h0 m_status m_thrown m_above m_under a_traySort a_trayMany a_numbers a_tape m_taped m_textEnd m_faultKind m_faultAt m_bad m_badAt m_token m_at m_behind m_number m_letters m_word a_c a_words m_markMany a_there a_tried a_best a_found m_thereMany m_foundMany m_orderHow m_orderRing m_orderMany m_hasBest m_bestTop m_bestBy a_weights a_shared m_random m_truePlace m_trueWay m_seconds m_done m_feelings m_tries m_leftOver m_playDoor m_playRing m_isOpen m_isOver m_wasTried m_hasPlayed a_feltNow a_last a_kept m_hasSeconds m_hasTurned m_hasRound a_hasFeels a_isOn m_firstAct m_meanTop m_meanBy a_order m_rowMany m_newSteps 6 m_at (by decide +kernel) hr_m_bad) lk_RX12_180 ⟨rfl, rfl⟩ ⟨Nat.le_of_ble_eq_true rfl, Nat.le_of_ble_eq_true rfl⟩ 12 rfl rfl rfl [0] [1, 2, 3] rfl rfl (by decide) rfl hl.1 rfl (lv_room (Nat.le_of_ble_eq_true rfl)) dX12_readNew_32 ⟨Nat.le_of_ble_eq_true rfl, Nat.le_of_ble_eq_true rfl⟩ (fun u_60 H locs hw hP hD hS => ?_)
      obtain ⟨n_57, n_58⟩ := u_60
      try dsimp only at hw
      obtain ⟨hr_n_57, hf_61⟩ := hw
      refine lv_aload_n hx hb dX12_readNew_35 rfl (lv_at hl 1 rfl) ?_
      refine va_get (D := G) (ci := 12) (v := .int n_57) (C := RX12) (T := TX12) (N := 65) hx hb hts inT12 hown hK hP 3 rfl rfl 12 (by decide) (hts _ tw_1897) (fun _ h9 => h9) rfl dX12_readNew_36 ?_
      refine lv_if_le (tgt := 44) hx hb dX12_readNew_39 (by decide) (fun h9 => (z_no (by have h8 := z_fleT h9; omega))) (fun c_62 => ?_)
      have b_63 := z_fgtF c_62
      refine lv_iconst (v := 0) hx hb dX12_readNew_42 (by decide) ?_
      have hpost : (0 ≤ (0 : Int32).toInt ∧ (0 : Int32).toInt ≤ 9) ∧ (0 ≤ n_57.toInt ∧ n_57.toInt ≤ 9) ∧ (0 ≤ m_token.toInt ∧ m_token.toInt ≤ 4) ∧ (0 ≤ m_at.toInt ∧ m_at.toInt ≤ 900) ∧ (0 ≤ m_behind.toInt ∧ m_behind.toInt ≤ 900) ∧ (0 ≤ m_number.toInt ∧ m_number.toInt ≤ 9999) ∧ (0 ≤ m_letters.toInt ∧ m_letters.toInt ≤ 900) ∧ (m_behind.toInt ≤ m_behind.toInt) ∧ (0 < m_bad.toInt → 0 < n_57.toInt) ∧ (n_57.toInt ≤ 0 → m_token.toInt = 0 ∨ m_behind.toInt < m_behind.toInt) ∧ (n_57.toInt ≤ 0 → (0 : Int32).toInt = (g_c 1461).toInt) ∧ ((0 : Int32).toInt < 10) := ⟨(by decide +kernel), (z_rgw hr_n_57 (by decide) (by decide)), hr_m_token, hr_m_at, hr_m_behind, hr_m_number, hr_m_letters, (by omega), (by omega), (by omega), (by omega), (by omega)⟩
      exact hret _ _ _ _ _ _ (n_57, n_58, m_token, m_at, m_behind, m_number, m_letters, m_word, g_words) [3, 0, 1, 2] hP hD hS rfl (by decide) dX12_readNew_43 hpost
set_option maxHeartbeats 4000000 in
set_option maxRecDepth 100000 in
theorem r_readOld_1 (l : Launch) (G : va_G) (cA : zCA) (h0 : Nat) (m_status : Int32) (m_thrown : Int32) (m_above : Int64) (m_under : Int64) (a_traySort : Nat) (a_trayMany : Nat) (a_numbers : Nat) (a_tape : Nat) (m_taped : Int32) (m_textEnd : Int32) (m_faultKind : Int32) (m_faultAt : Int32) (m_bad : Int32) (m_badAt : Int32) (m_token : Int32) (m_at : Int32) (m_behind : Int32) (m_number : Int32) (m_letters : Int32) (m_word : Int64) (a_c : Nat) (a_words : Nat) (m_markMany : Int32) (a_there : Nat) (a_tried : Nat) (a_best : Nat) (a_found : Nat) (m_thereMany : Int32) (m_foundMany : Int32) (m_orderHow : Int32) (m_orderRing : Int32) (m_orderMany : Int32) (m_hasBest : Int32) (m_bestTop : Int64) (m_bestBy : Int64) (a_weights : Nat) (a_shared : Nat) (m_random : Int32) (m_truePlace : Int32) (m_trueWay : Int32) (m_seconds : Int32) (m_done : Int32) (m_feelings : Int32) (m_tries : Int32) (m_leftOver : Int32) (m_playDoor : Int32) (m_playRing : Int32) (m_isOpen : Int32) (m_isOver : Int32) (m_wasTried : Int32) (m_hasPlayed : Int32) (a_feltNow : Nat) (a_last : Nat) (a_kept : Nat) (m_hasSeconds : Int32) (m_hasTurned : Int32) (m_hasRound : Int32) (a_hasFeels : Nat) (a_isOn : Nat) (m_firstAct : Int32) (m_meanTop : Int64) (m_meanBy : Int64) (a_order : Nat) (m_rowMany : Int32) (m_newSteps : Int32) (g_c : Nat → Int32) (g_words : Nat → Int64) (hr_m_at : 0 ≤ m_at.toInt ∧ m_at.toInt ≤ 900) (hr_m_bad : 0 ≤ m_bad.toInt ∧ m_bad.toInt ≤ 9) (hr_m_token : 0 ≤ m_token.toInt ∧ m_token.toInt ≤ 4) (hr_m_letters : 0 ≤ m_letters.toInt ∧ m_letters.toInt ≤ 900) (hC_g_c : zC g_c) : zCi l yX12_readOld cX12_readOld 4 (some .int) ({ frames := 3, cells := 0, slots := 0, locals := 67 }) G cA [.ref h0, .int 1, .int 3] [(h0, .inr (12, [.int m_status, .int m_thrown, .long m_above, .long m_under, .ref a_traySort, .ref a_trayMany, .ref a_numbers, .ref a_tape, .int m_taped, .int m_textEnd, .int m_faultKind, .int m_faultAt, .int m_bad, .int m_badAt, .int m_token, .int m_at, .int m_behind, .int m_number, .int m_letters, .long m_word, .ref a_c, .ref a_words, .int m_markMany, .ref a_there, .ref a_tried, .ref a_best, .ref a_found, .int m_thereMany, .int m_foundMany, .int m_orderHow, .int m_orderRing, .int m_orderMany, .int m_hasBest, .long m_bestTop, .long m_bestBy, .ref a_weights, .ref a_shared, .int m_random, .int m_truePlace, .int m_trueWay, .int m_seconds, .int m_done, .int m_feelings, .int m_tries, .int m_leftOver, .int m_playDoor, .int m_playRing, .int m_isOpen, .int m_isOver, .int m_wasTried, .int m_hasPlayed, .ref a_feltNow, .ref a_last, .ref a_kept, .int m_hasSeconds, .int m_hasTurned, .int m_hasRound, .ref a_hasFeels, .ref a_isOn, .int m_firstAct, .long m_meanTop, .long m_meanBy, .ref a_order, .int m_rowMany, .int m_newSteps])), (a_c, .inl (cA.1 0, 1825, .inl g_c)), (a_words, .inl (cA.1 1, 105, .inr (.inl g_words)))] (S := Int32 × Int32) (fun (r : Int32) (u : Int32 × Int32) => ((-1) ≤ r.toInt ∧ r.toInt ≤ 9) ∧ (0 ≤ u.1.toInt ∧ u.1.toInt ≤ 9) ∧ (m_behind.toInt ≤ m_behind.toInt) ∧ (0 < m_bad.toInt → 0 < u.1.toInt) ∧ (u.1.toInt ≤ 0 → 0 ≤ r.toInt ∧ r.toInt < (g_c 1461).toInt)) (fun (u : Int32 × Int32) => [(h0, .inr (12, [.int m_status, .int m_thrown, .long m_above, .long m_under, .ref a_traySort, .ref a_trayMany, .ref a_numbers, .ref a_tape, .int m_taped, .int m_textEnd, .int m_faultKind, .int m_faultAt, .int u.1, .int u.2, .int m_token, .int m_at, .int m_behind, .int m_number, .int m_letters, .long m_word, .ref a_c, .ref a_words, .int m_markMany, .ref a_there, .ref a_tried, .ref a_best, .ref a_found, .int m_thereMany, .int m_foundMany, .int m_orderHow, .int m_orderRing, .int m_orderMany, .int m_hasBest, .long m_bestTop, .long m_bestBy, .ref a_weights, .ref a_shared, .int m_random, .int m_truePlace, .int m_trueWay, .int m_seconds, .int m_done, .int m_feelings, .int m_tries, .int m_leftOver, .int m_playDoor, .int m_playRing, .int m_isOpen, .int m_isOver, .int m_wasTried, .int m_hasPlayed, .ref a_feltNow, .ref a_last, .ref a_kept, .int m_hasSeconds, .int m_hasTurned, .int m_hasRound, .ref a_hasFeels, .ref a_isOn, .int m_firstAct, .long m_meanTop, .long m_meanBy, .ref a_order, .int m_rowMany, .int m_newSteps])), (a_c, .inl (cA.1 0, 1825, .inl g_c)), (a_words, .inl (cA.1 1, 105, .inr (.inl g_words)))]) 0 0 := by
  have hk_0 : (0 : Int32).toInt = 0 := by decide +kernel
  have hk_3 : (3 : Int32).toInt = 3 := by decide +kernel
  have hk_4 : (4 : Int32).toInt = 4 := by decide +kernel
  refine z_start2i (own := RX12) (by decide) (Nat.le_of_ble_eq_true rfl) rfl ?_
  intro p e s m args below meth c A ls Q hx hb hml hts hown hK hE hT hP hD hS hA hl hret
  have hl : lv_has ls 4 [(0, .ref h0), (1, .int 1), (2, .int 3)] := hl
  refine lv_aload_n hx hb dX12_readOld_0 rfl (lv_at hl 0 rfl) ?_
  refine va_get (D := G) (ci := 12) (v := .int m_bad) (C := RX12) (T := TX12) (N := 65) hx hb hts inT12 hown hK hP 0 rfl rfl 12 (by decide) (hts _ tw_1897) (fun _ h9 => h9) rfl dX12_readOld_1 ?_
  refine lv_if_ne (tgt := 18) hx hb dX12_readOld_4 (by decide) (fun c_1 => ?_) (fun c_1 => ?_)
  · have b_2 := z_fneT c_1
    refine lv_aload_n hx hb dX12_readOld_18 rfl (lv_at hl 0 rfl) ?_
    refine va_get (D := G) (ci := 12) (v := .int m_bad) (C := RX12) (T := TX12) (N := 65) hx hb hts inT12 hown hK hP 0 rfl rfl 12 (by decide) (hts _ tw_1897) (fun _ h9 => h9) rfl dX12_readOld_19 ?_
    refine lv_if_ne (tgt := 44) hx hb dX12_readOld_22 (by decide) (fun c_3 => ?_) (fun h9 => (z_no (by have h8 := z_feqF h9; omega)))
    have b_4 := z_fneT c_3
    refine lv_iconst (v := 0) hx hb dX12_readOld_44 (by decide) ?_
    refine lv_istore_n (lv' := [(3, .int 0), (0, .ref h0), (1, .int 1), (2, .int 3)]) hx hb dX12_readOld_45 rfl hl (by decide) rfl (fun ls hl => ?_)
    refine lv_aload_n hx hb dX12_readOld_46 rfl (lv_at hl 1 rfl) ?_
    refine va_get (D := G) (ci := 12) (v := .int m_bad) (C := RX12) (T := TX12) (N := 65) hx hb hts inT12 hown hK hP 0 rfl rfl 12 (by decide) (hts _ tw_1897) (fun _ h9 => h9) rfl dX12_readOld_47 ?_
    refine lv_if_ne (tgt := 66) hx hb dX12_readOld_50 (by decide) (fun c_5 => ?_) (fun h9 => (z_no (by have h8 := z_feqF h9; omega)))
    have b_6 := z_fneT c_5
    refine lv_iload_n hx hb dX12_readOld_66 rfl (lv_at hl 0 rfl) ?_
    have hpost : ((-1) ≤ (0 : Int32).toInt ∧ (0 : Int32).toInt ≤ 9) ∧ (0 ≤ m_bad.toInt ∧ m_bad.toInt ≤ 9) ∧ (m_behind.toInt ≤ m_behind.toInt) ∧ (0 < m_bad.toInt → 0 < m_bad.toInt) ∧ (m_bad.toInt ≤ 0 → 0 ≤ (0 : Int32).toInt ∧ (0 : Int32).toInt < (g_c 1461).toInt) := ⟨(by decide +kernel), hr_m_bad, (by omega), (by omega), (by omega)⟩
    exact hret _ _ _ _ _ _ (m_bad, m_badAt) [0, 1, 2] hP hD hS rfl (by decide) dX12_readOld_67 hpost
  · have b_7 := z_feqF c_1
    refine lv_aload_n hx hb dX12_readOld_7 rfl (lv_at hl 0 rfl) ?_
    refine z_callVi (As := []) (rest := []) (wr := [(a_c, .inl (cA.1 0, 1825, .inl g_c)), (a_words, .inl (cA.1 1, 105, .inr (.inl g_words)))]) ⟨hx, hb, hml, hown, hts⟩ hK hE hT hP hD hS hA (r_isHouseName l G cA h0 m_status m_thrown m_above m_under a_traySort a_trayMany a_numbers a_tape m_taped m_textEnd m_faultKind m_faultAt m_bad m_badAt m_token m_at m_behind m_number m_letters m_word a_c a_words m_markMany a_there a_tried a_best a_found m_thereMany m_foundMany m_orderHow m_orderRing m_orderMany m_hasBest m_bestTop m_bestBy a_weights a_shared m_random m_truePlace m_trueWay m_seconds m_done m_feelings m_tries m_leftOver m_playDoor m_playRing m_isOpen m_isOver m_wasTried m_hasPlayed a_feltNow a_last a_kept m_hasSeconds m_hasTurned m_hasRound a_hasFeels a_isOn m_firstAct m_meanTop m_meanBy a_order m_rowMany m_newSteps hr_m_token hr_m_letters) lk_RX12_200 ⟨rfl, rfl⟩ ⟨Nat.le_of_ble_eq_true rfl, Nat.le_of_ble_eq_true rfl⟩ 12 rfl rfl rfl [0] [1, 2] rfl rfl (by decide) rfl hl.1 rfl (lv_room (Nat.le_of_ble_eq_true rfl)) dX12_readOld_8 ⟨Nat.le_of_ble_eq_true rfl, Nat.le_of_ble_eq_true rfl⟩ (fun r_8 u_9 H locs hw hP hD hS => ?_)
    rcases hw with ⟨rfl, -⟩ | ⟨rfl, -⟩
    · skip
      refine lv_if_ne (tgt := 18) hx hb dX12_readOld_11 (by decide) (fun h9 => absurd (by decide +kernel) h9) (fun _ => ?_)
      refine lv_aload_n hx hb dX12_readOld_14 rfl (lv_at hl 0 rfl) ?_
      refine z_callVv (As := []) (rest := []) (wr := [(a_c, .inl (cA.1 0, 1825, .inl g_c)), (a_words, .inl (cA.1 1, 105, .inr (.inl g_words)))]) ⟨hx, hb, hml, hown, hts⟩ hK hE hT hP hD hS hA (r_wrong l G cA h0 m_status m_thrown m_above m_under a_traySort a_trayMany a_numbers a_tape m_taped m_textEnd m_faultKind m_faultAt m_bad m_badAt m_token m_at m_behind m_number m_letters m_word a_c a_words m_markMany a_there a_tried a_best a_found m_thereMany m_foundMany m_orderHow m_orderRing m_orderMany m_hasBest m_bestTop m_bestBy a_weights a_shared m_random m_truePlace m_trueWay m_seconds m_done m_feelings m_tries m_leftOver m_playDoor m_playRing m_isOpen m_isOver m_wasTried m_hasPlayed a_feltNow a_last a_kept m_hasSeconds m_hasTurned m_hasRound a_hasFeels a_isOn m_firstAct m_meanTop m_meanBy a_order m_rowMany m_newSteps hr_m_at hr_m_bad hr_m_token) lk_RX12_187 ⟨rfl, rfl⟩ ⟨Nat.le_of_ble_eq_true rfl, Nat.le_of_ble_eq_true rfl⟩ 12 rfl rfl rfl [2] [0, 1] rfl rfl (by decide) rfl hl.1 rfl (lv_room (Nat.le_of_ble_eq_true rfl)) dX12_readOld_15 ⟨Nat.le_of_ble_eq_true rfl, Nat.le_of_ble_eq_true rfl⟩ (fun u_13 H locs hw hP hD hS => ?_)
      obtain ⟨n_10, n_11⟩ := u_13
      try dsimp only at hw
      have hr_n_10 := hw
      refine lv_aload_n hx hb dX12_readOld_18 rfl (lv_at hl 0 rfl) ?_
      refine va_get (D := G) (ci := 12) (v := .int n_10) (C := RX12) (T := TX12) (N := 65) hx hb hts inT12 hown hK hP 2 rfl rfl 12 (by decide) (hts _ tw_1897) (fun _ h9 => h9) rfl dX12_readOld_19 ?_
      refine lv_if_ne (tgt := 44) hx hb dX12_readOld_22 (by decide) (fun c_14 => ?_) (fun h9 => (z_no (by have h8 := z_feqF h9; omega)))
      have b_15 := z_fneT c_14
      refine lv_iconst (v := 0) hx hb dX12_readOld_44 (by decide) ?_
      refine lv_istore_n (lv' := [(3, .int 0), (0, .ref h0), (1, .int 1), (2, .int 3)]) hx hb dX12_readOld_45 rfl hl (by decide) rfl (fun ls hl => ?_)
      refine lv_aload_n hx hb dX12_readOld_46 rfl (lv_at hl 1 rfl) ?_
      refine va_get (D := G) (ci := 12) (v := .int n_10) (C := RX12) (T := TX12) (N := 65) hx hb hts inT12 hown hK hP 2 rfl rfl 12 (by decide) (hts _ tw_1897) (fun _ h9 => h9) rfl dX12_readOld_47 ?_
      refine lv_if_ne (tgt := 66) hx hb dX12_readOld_50 (by decide) (fun c_16 => ?_) (fun h9 => (z_no (by have h8 := z_feqF h9; omega)))
      have b_17 := z_fneT c_16
      refine lv_iload_n hx hb dX12_readOld_66 rfl (lv_at hl 0 rfl) ?_
      have hpost : ((-1) ≤ (0 : Int32).toInt ∧ (0 : Int32).toInt ≤ 9) ∧ (0 ≤ n_10.toInt ∧ n_10.toInt ≤ 9) ∧ (m_behind.toInt ≤ m_behind.toInt) ∧ (0 < m_bad.toInt → 0 < n_10.toInt) ∧ (n_10.toInt ≤ 0 → 0 ≤ (0 : Int32).toInt ∧ (0 : Int32).toInt < (g_c 1461).toInt) := ⟨(by decide +kernel), (z_rgw hr_n_10 (by decide) (by decide)), (by omega), (by omega), (by omega)⟩
      exact hret _ _ _ _ _ _ (n_10, n_11) [2, 0, 1] hP hD hS rfl (by decide) dX12_readOld_67 hpost
    · skip
      refine lv_if_ne (tgt := 18) hx hb dX12_readOld_11 (by decide) (fun _ => ?_) (fun h9 => absurd h9 (by decide +kernel))
      refine lv_aload_n hx hb dX12_readOld_18 rfl (lv_at hl 0 rfl) ?_
      refine va_get (D := G) (ci := 12) (v := .int m_bad) (C := RX12) (T := TX12) (N := 65) hx hb hts inT12 hown hK hP 2 rfl rfl 12 (by decide) (hts _ tw_1897) (fun _ h9 => h9) rfl dX12_readOld_19 ?_
      refine lv_if_ne (tgt := 44) hx hb dX12_readOld_22 (by decide) (fun h9 => (z_no (by have h8 := z_fneT h9; omega))) (fun c_18 => ?_)
      have b_19 := z_feqF c_18
      refine lv_aload_n hx hb dX12_readOld_25 rfl (lv_at hl 0 rfl) ?_
      refine lv_iconst (v := 4) hx hb dX12_readOld_26 (by decide) ?_
      refine lv_iload_n hx hb dX12_readOld_27 rfl (lv_at hl 2 rfl) ?_
      refine lv_aload_n hx hb dX12_readOld_28 rfl (lv_at hl 0 rfl) ?_
      refine va_get (D := G) (ci := 12) (v := .ref a_c) (C := RX12) (T := TX12) (N := 65) hx hb hts inT12 hown hK hP 2 rfl rfl 20 (by decide) (hts _ tw_1905) (fun _ h9 => h9) rfl dX12_readOld_29 ?_
      refine lv_sipush (v := 1460) hx hb dX12_readOld_32 (by decide) ?_
      refine lv_iload_n hx hb dX12_readOld_35 rfl (lv_at hl 1 rfl) ?_
      refine lv_iadd hx hb dX12_readOld_36 ?_
      refine z_topi (y := 1461) (by decide +kernel) ?_
      refine va_iald hx hb hK hP 0 0 rfl rfl (z_in (i := 1461) (n := 1825) (by decide +kernel) (by decide +kernel)) dX12_readOld_37 ?_
      refine lv_topi (fun x_20 he_x_20 => ?_)
      have hr_x_20 := z_ctk hC_g_c he_x_20 (k := 1461) (lo := 0) (hi := 10) (by decide +kernel) (by decide +kernel) (by decide +kernel)
      have hv_x_20 := z_cv he_x_20 (k := 1461) (by decide +kernel)
      refine z_callVi (As := [.int 4, .int 3, .int x_20]) (rest := []) (wr := [(a_c, .inl (cA.1 0, 1825, .inl g_c))]) ⟨hx, hb, hml, hown, hts⟩ hK hE hT hP hD hS hA (r_named_4_3 l G cA h0 m_status m_thrown m_above m_under a_traySort a_trayMany a_numbers a_tape m_taped m_textEnd m_faultKind m_faultAt m_bad m_badAt m_token m_at m_behind m_number m_letters m_word a_c a_words m_markMany a_there a_tried a_best a_found m_thereMany m_foundMany m_orderHow m_orderRing m_orderMany m_hasBest m_bestTop m_bestBy a_weights a_shared m_random m_truePlace m_trueWay m_seconds m_done m_feelings m_tries m_leftOver m_playDoor m_playRing m_isOpen m_isOver m_wasTried m_hasPlayed a_feltNow a_last a_kept m_hasSeconds m_hasTurned m_hasRound a_hasFeels a_isOn m_firstAct m_meanTop m_meanBy a_order m_rowMany m_newSteps g_words x_20 hr_x_20) lk_RX12_196 ⟨rfl, rfl⟩ ⟨Nat.le_of_ble_eq_true rfl, Nat.le_of_ble_eq_true rfl⟩ 12 rfl rfl rfl [2, 1] [0] rfl rfl (by decide) rfl hl.1 rfl (lv_room (Nat.le_of_ble_eq_true rfl)) dX12_readOld_38 ⟨Nat.le_of_ble_eq_true rfl, Nat.le_of_ble_eq_true rfl⟩ (fun r_21 u_22 H locs hw hP hD hS => ?_)
      obtain ⟨hr_r_21, hf_23⟩ := hw
      refine lv_goto (tgt := 45) hx hb dX12_readOld_41 (by decide) ?_
      refine lv_istore_n (lv' := [(3, .int r_21), (0, .ref h0), (1, .int 1), (2, .int 3)]) hx hb dX12_readOld_45 rfl hl (by decide) rfl (fun ls hl => ?_)
      refine lv_aload_n hx hb dX12_readOld_46 rfl (lv_at hl 1 rfl) ?_
      refine va_get (D := G) (ci := 12) (v := .int m_bad) (C := RX12) (T := TX12) (N := 65) hx hb hts inT12 hown hK hP 1 rfl rfl 12 (by decide) (hts _ tw_1897) (fun _ h9 => h9) rfl dX12_readOld_47 ?_
      refine lv_if_ne (tgt := 66) hx hb dX12_readOld_50 (by decide) (fun h9 => (z_no (by have h8 := z_fneT h9; omega))) (fun c_24 => ?_)
      have b_25 := z_feqF c_24
      refine lv_iload_n hx hb dX12_readOld_53 rfl (lv_at hl 0 rfl) ?_
      refine lv_if_ge (tgt := 66) hx hb dX12_readOld_54 (by decide) (fun c_26 => ?_) (fun c_26 => ?_)
      · have b_27 := z_fgeT c_26
        refine lv_iload_n hx hb dX12_readOld_66 rfl (lv_at hl 0 rfl) ?_
        have hpost : ((-1) ≤ r_21.toInt ∧ r_21.toInt ≤ 9) ∧ (0 ≤ m_bad.toInt ∧ m_bad.toInt ≤ 9) ∧ (m_behind.toInt ≤ m_behind.toInt) ∧ (0 < m_bad.toInt → 0 < m_bad.toInt) ∧ (m_bad.toInt ≤ 0 → 0 ≤ r_21.toInt ∧ r_21.toInt < (g_c 1461).toInt) := ⟨hr_r_21, hr_m_bad, (by omega), (by omega), (by omega)⟩
        exact hret _ _ _ _ _ _ (m_bad, m_badAt) [1, 0, 2] hP hD hS rfl (by decide) dX12_readOld_67 hpost
      · have b_28 := z_fltF c_26
        refine lv_aload_n hx hb dX12_readOld_57 rfl (lv_at hl 1 rfl) ?_
        refine lv_iconst (v := 3) hx hb dX12_readOld_58 (by decide) ?_
        refine lv_aload_n hx hb dX12_readOld_59 rfl (lv_at hl 1 rfl) ?_
        refine va_get (D := G) (ci := 12) (v := .int m_at) (C := RX12) (T := TX12) (N := 65) hx hb hts inT12 hown hK hP 1 rfl rfl 15 (by decide) (hts _ tw_1900) (fun _ h9 => h9) rfl dX12_readOld_60 ?_
        refine z_callVv (As := [.int 3, .int m_at]) (rest := []) (wr := [(a_c, .inl (cA.1 0, 1825, .inl g_c)), (a_words, .inl (cA.1 1, 105, .inr (.inl g_words)))]) ⟨hx, hb, hml, hown, hts⟩ hK hE hT hP hD hS hA (r_fail l G cA h0 m_status m_thrown m_above m_under a_traySort a_trayMany a_numbers a_tape m_taped m_textEnd m_faultKind m_faultAt m_bad m_badAt m_token m_at m_behind m_number m_letters m_word a_c a_words m_markMany a_there a_tried a_best a_found m_thereMany m_foundMany m_orderHow m_orderRing m_orderMany m_hasBest m_bestTop m_bestBy a_weights a_shared m_random m_truePlace m_trueWay m_seconds m_done m_feelings m_tries m_leftOver m_playDoor m_playRing m_isOpen m_isOver m_wasTried m_hasPlayed a_feltNow a_last a_kept m_hasSeconds m_hasTurned m_hasRound a_hasFeels a_isOn m_firstAct m_meanTop m_meanBy a_order m_rowMany m_newSteps 3 m_at (by decide +kernel) hr_m_bad) lk_RX12_180 ⟨rfl, rfl⟩ ⟨Nat.le_of_ble_eq_true rfl, Nat.le_of_ble_eq_true rfl⟩ 12 rfl rfl rfl [1] [0, 2] rfl rfl (by decide) rfl hl.1 rfl (lv_room (Nat.le_of_ble_eq_true rfl)) dX12_readOld_63 ⟨Nat.le_of_ble_eq_true rfl, Nat.le_of_ble_eq_true rfl⟩ (fun u_32 H locs hw hP hD hS => ?_)
        obtain ⟨n_29, n_30⟩ := u_32
        try dsimp only at hw
        obtain ⟨hr_n_29, hf_33⟩ := hw
        refine lv_iload_n hx hb dX12_readOld_66 rfl (lv_at hl 0 rfl) ?_
        have hpost : ((-1) ≤ r_21.toInt ∧ r_21.toInt ≤ 9) ∧ (0 ≤ n_29.toInt ∧ n_29.toInt ≤ 9) ∧ (m_behind.toInt ≤ m_behind.toInt) ∧ (0 < m_bad.toInt → 0 < n_29.toInt) ∧ (n_29.toInt ≤ 0 → 0 ≤ r_21.toInt ∧ r_21.toInt < (g_c 1461).toInt) := ⟨hr_r_21, (z_rgw hr_n_29 (by decide) (by decide)), (by omega), (by omega), (by omega)⟩
        exact hret _ _ _ _ _ _ (n_29, n_30) [2, 0, 1] hP hD hS rfl (by decide) dX12_readOld_67 hpost
set_option maxHeartbeats 4000000 in
set_option maxRecDepth 100000 in
theorem r_readNew_2 (l : Launch) (G : va_G) (cA : zCA) (h0 : Nat) (m_status : Int32) (m_thrown : Int32) (m_above : Int64) (m_under : Int64) (a_traySort : Nat) (a_trayMany : Nat) (a_numbers : Nat) (a_tape : Nat) (m_taped : Int32) (m_textEnd : Int32) (m_faultKind : Int32) (m_faultAt : Int32) (m_bad : Int32) (m_badAt : Int32) (m_token : Int32) (m_at : Int32) (m_behind : Int32) (m_number : Int32) (m_letters : Int32) (m_word : Int64) (a_c : Nat) (a_words : Nat) (m_markMany : Int32) (a_there : Nat) (a_tried : Nat) (a_best : Nat) (a_found : Nat) (m_thereMany : Int32) (m_foundMany : Int32) (m_orderHow : Int32) (m_orderRing : Int32) (m_orderMany : Int32) (m_hasBest : Int32) (m_bestTop : Int64) (m_bestBy : Int64) (a_weights : Nat) (a_shared : Nat) (m_random : Int32) (m_truePlace : Int32) (m_trueWay : Int32) (m_seconds : Int32) (m_done : Int32) (m_feelings : Int32) (m_tries : Int32) (m_leftOver : Int32) (m_playDoor : Int32) (m_playRing : Int32) (m_isOpen : Int32) (m_isOver : Int32) (m_wasTried : Int32) (m_hasPlayed : Int32) (a_feltNow : Nat) (a_last : Nat) (a_kept : Nat) (m_hasSeconds : Int32) (m_hasTurned : Int32) (m_hasRound : Int32) (a_hasFeels : Nat) (a_isOn : Nat) (m_firstAct : Int32) (m_meanTop : Int64) (m_meanBy : Int64) (a_order : Nat) (m_rowMany : Int32) (m_newSteps : Int32) (g_tape : Nat → Int32) (g_c : Nat → Int32) (g_words : Nat → Int64) (hr_m_textEnd : 0 ≤ m_textEnd.toInt ∧ m_textEnd.toInt ≤ 900) (hr_m_at : 0 ≤ m_at.toInt ∧ m_at.toInt ≤ 900) (hr_m_behind : 0 ≤ m_behind.toInt ∧ m_behind.toInt ≤ 900) (hr_m_bad : 0 ≤ m_bad.toInt ∧ m_bad.toInt ≤ 9) (hr_m_token : 0 ≤ m_token.toInt ∧ m_token.toInt ≤ 4) (hr_m_number : 0 ≤ m_number.toInt ∧ m_number.toInt ≤ 9999) (hr_m_letters : 0 ≤ m_letters.toInt ∧ m_letters.toInt ≤ 900) (hC_g_c : zC g_c) : zCi l yX12_readNew cX12_readNew 5 (some .int) ({ frames := 3, cells := 0, slots := 0, locals := 67 }) G cA [.ref h0, .int 2, .int 3, .int 13] [(h0, .inr (12, [.int m_status, .int m_thrown, .long m_above, .long m_under, .ref a_traySort, .ref a_trayMany, .ref a_numbers, .ref a_tape, .int m_taped, .int m_textEnd, .int m_faultKind, .int m_faultAt, .int m_bad, .int m_badAt, .int m_token, .int m_at, .int m_behind, .int m_number, .int m_letters, .long m_word, .ref a_c, .ref a_words, .int m_markMany, .ref a_there, .ref a_tried, .ref a_best, .ref a_found, .int m_thereMany, .int m_foundMany, .int m_orderHow, .int m_orderRing, .int m_orderMany, .int m_hasBest, .long m_bestTop, .long m_bestBy, .ref a_weights, .ref a_shared, .int m_random, .int m_truePlace, .int m_trueWay, .int m_seconds, .int m_done, .int m_feelings, .int m_tries, .int m_leftOver, .int m_playDoor, .int m_playRing, .int m_isOpen, .int m_isOver, .int m_wasTried, .int m_hasPlayed, .ref a_feltNow, .ref a_last, .ref a_kept, .int m_hasSeconds, .int m_hasTurned, .int m_hasRound, .ref a_hasFeels, .ref a_isOn, .int m_firstAct, .long m_meanTop, .long m_meanBy, .ref a_order, .int m_rowMany, .int m_newSteps])), (a_tape, .inl (cA.1 2, 900, .inl g_tape)), (a_c, .inl (cA.1 0, 1825, .inl g_c)), (a_words, .inl (cA.1 1, 105, .inr (.inl g_words)))] (S := Int32 × Int32 × Int32 × Int32 × Int32 × Int32 × Int32 × Int64 × (Nat → Int64)) (fun (r : Int32) (u : Int32 × Int32 × Int32 × Int32 × Int32 × Int32 × Int32 × Int64 × (Nat → Int64)) => (0 ≤ r.toInt ∧ r.toInt ≤ 2) ∧ (0 ≤ u.1.toInt ∧ u.1.toInt ≤ 9) ∧ (0 ≤ u.2.2.1.toInt ∧ u.2.2.1.toInt ≤ 4) ∧ (0 ≤ u.2.2.2.1.toInt ∧ u.2.2.2.1.toInt ≤ 900) ∧ (0 ≤ u.2.2.2.2.1.toInt ∧ u.2.2.2.2.1.toInt ≤ 900) ∧ (0 ≤ u.2.2.2.2.2.1.toInt ∧ u.2.2.2.2.2.1.toInt ≤ 9999) ∧ (0 ≤ u.2.2.2.2.2.2.1.toInt ∧ u.2.2.2.2.2.2.1.toInt ≤ 900) ∧ (m_behind.toInt ≤ u.2.2.2.2.1.toInt) ∧ (0 < m_bad.toInt → 0 < u.1.toInt) ∧ (u.1.toInt ≤ 0 → u.2.2.1.toInt = 0 ∨ m_behind.toInt < u.2.2.2.2.1.toInt) ∧ (u.1.toInt ≤ 0 → r.toInt = (g_c 1462).toInt) ∧ (r.toInt < 3)) (fun (u : Int32 × Int32 × Int32 × Int32 × Int32 × Int32 × Int32 × Int64 × (Nat → Int64)) => [(h0, .inr (12, [.int m_status, .int m_thrown, .long m_above, .long m_under, .ref a_traySort, .ref a_trayMany, .ref a_numbers, .ref a_tape, .int m_taped, .int m_textEnd, .int m_faultKind, .int m_faultAt, .int u.1, .int u.2.1, .int u.2.2.1, .int u.2.2.2.1, .int u.2.2.2.2.1, .int u.2.2.2.2.2.1, .int u.2.2.2.2.2.2.1, .long u.2.2.2.2.2.2.2.1, .ref a_c, .ref a_words, .int m_markMany, .ref a_there, .ref a_tried, .ref a_best, .ref a_found, .int m_thereMany, .int m_foundMany, .int m_orderHow, .int m_orderRing, .int m_orderMany, .int m_hasBest, .long m_bestTop, .long m_bestBy, .ref a_weights, .ref a_shared, .int m_random, .int m_truePlace, .int m_trueWay, .int m_seconds, .int m_done, .int m_feelings, .int m_tries, .int m_leftOver, .int m_playDoor, .int m_playRing, .int m_isOpen, .int m_isOver, .int m_wasTried, .int m_hasPlayed, .ref a_feltNow, .ref a_last, .ref a_kept, .int m_hasSeconds, .int m_hasTurned, .int m_hasRound, .ref a_hasFeels, .ref a_isOn, .int m_firstAct, .long m_meanTop, .long m_meanBy, .ref a_order, .int m_rowMany, .int m_newSteps])), (a_tape, .inl (cA.1 2, 900, .inl g_tape)), (a_c, .inl (cA.1 0, 1825, .inl g_c)), (a_words, .inl (cA.1 1, 105, .inr (.inl u.2.2.2.2.2.2.2.2)))]) 0 0 := by
  have hk_0 : (0 : Int32).toInt = 0 := by decide +kernel
  have hk_3 : (3 : Int32).toInt = 3 := by decide +kernel
  have hk_6 : (6 : Int32).toInt = 6 := by decide +kernel
  have hk_97 : (97 : Int32).toInt = 97 := by decide +kernel
  refine z_start2i (own := RX12) (by decide) (Nat.le_of_ble_eq_true rfl) rfl ?_
  intro p e s m args below meth c A ls Q hx hb hml hts hown hK hE hT hP hD hS hA hl hret
  have hl : lv_has ls 5 [(0, .ref h0), (1, .int 2), (2, .int 3), (3, .int 13)] := hl
  refine lv_aload_n hx hb dX12_readNew_0 rfl (lv_at hl 0 rfl) ?_
  refine va_get (D := G) (ci := 12) (v := .ref a_c) (C := RX12) (T := TX12) (N := 65) hx hb hts inT12 hown hK hP 0 rfl rfl 20 (by decide) (hts _ tw_1905) (fun _ h9 => h9) rfl dX12_readNew_1 ?_
  refine lv_sipush (v := 1460) hx hb dX12_readNew_4 (by decide) ?_
  refine lv_iload_n hx hb dX12_readNew_7 rfl (lv_at hl 1 rfl) ?_
  refine lv_iadd hx hb dX12_readNew_8 ?_
  refine z_topi (y := 1462) (by decide +kernel) ?_
  refine va_iald hx hb hK hP 2 0 rfl rfl (z_in (i := 1462) (n := 1825) (by decide +kernel) (by decide +kernel)) dX12_readNew_9 ?_
  refine lv_topi (fun x_1 he_x_1 => ?_)
  have hr_x_1 := z_ctk hC_g_c he_x_1 (k := 1462) (lo := 0) (hi := 3) (by decide +kernel) (by decide +kernel) (by decide +kernel)
  have hv_x_1 := z_cv he_x_1 (k := 1462) (by decide +kernel)
  refine lv_istore (lv' := [(4, .int x_1), (0, .ref h0), (1, .int 2), (2, .int 3), (3, .int 13)]) hx hb dX12_readNew_10 hl (by decide) rfl (fun ls hl => ?_)
  refine lv_aload_n hx hb dX12_readNew_12 rfl (lv_at hl 1 rfl) ?_
  refine va_get (D := G) (ci := 12) (v := .int m_bad) (C := RX12) (T := TX12) (N := 65) hx hb hts inT12 hown hK hP 0 rfl rfl 12 (by decide) (hts _ tw_1897) (fun _ h9 => h9) rfl dX12_readNew_13 ?_
  refine lv_if_ne (tgt := 35) hx hb dX12_readNew_16 (by decide) (fun c_2 => ?_) (fun c_2 => ?_)
  · have b_3 := z_fneT c_2
    refine lv_aload_n hx hb dX12_readNew_35 rfl (lv_at hl 1 rfl) ?_
    refine va_get (D := G) (ci := 12) (v := .int m_bad) (C := RX12) (T := TX12) (N := 65) hx hb hts inT12 hown hK hP 0 rfl rfl 12 (by decide) (hts _ tw_1897) (fun _ h9 => h9) rfl dX12_readNew_36 ?_
    refine lv_if_le (tgt := 44) hx hb dX12_readNew_39 (by decide) (fun h9 => (z_no (by have h8 := z_fleT h9; omega))) (fun c_4 => ?_)
    have b_5 := z_fgtF c_4
    refine lv_iconst (v := 0) hx hb dX12_readNew_42 (by decide) ?_
    have hpost : (0 ≤ (0 : Int32).toInt ∧ (0 : Int32).toInt ≤ 2) ∧ (0 ≤ m_bad.toInt ∧ m_bad.toInt ≤ 9) ∧ (0 ≤ m_token.toInt ∧ m_token.toInt ≤ 4) ∧ (0 ≤ m_at.toInt ∧ m_at.toInt ≤ 900) ∧ (0 ≤ m_behind.toInt ∧ m_behind.toInt ≤ 900) ∧ (0 ≤ m_number.toInt ∧ m_number.toInt ≤ 9999) ∧ (0 ≤ m_letters.toInt ∧ m_letters.toInt ≤ 900) ∧ (m_behind.toInt ≤ m_behind.toInt) ∧ (0 < m_bad.toInt → 0 < m_bad.toInt) ∧ (m_bad.toInt ≤ 0 → m_token.toInt = 0 ∨ m_behind.toInt < m_behind.toInt) ∧ (m_bad.toInt ≤ 0 → (0 : Int32).toInt = (g_c 1462).toInt) ∧ ((0 : Int32).toInt < 3) := ⟨(by decide +kernel), hr_m_bad, hr_m_token, hr_m_at, hr_m_behind, hr_m_number, hr_m_letters, (by omega), (by omega), (by omega), (by omega), (by omega)⟩
    exact hret _ _ _ _ _ _ (m_bad, m_badAt, m_token, m_at, m_behind, m_number, m_letters, m_word, g_words) [0, 1, 2, 3] hP hD hS rfl (by decide) dX12_readNew_43 hpost
  · have b_6 := z_feqF c_2
    refine lv_iload hx hb dX12_readNew_19 (lv_at hl 0 rfl) ?_
    refine lv_iload_n hx hb dX12_readNew_21 rfl (lv_at hl 3 rfl) ?_
    refine lv_icmp_ne (tgt := 35) hx hb dX12_readNew_22 (by decide) (fun c_7 => ?_) (fun c_7 => ?_)
    · have b_8 := z_fneT c_7
      refine lv_aload_n hx hb dX12_readNew_35 rfl (lv_at hl 1 rfl) ?_
      refine va_get (D := G) (ci := 12) (v := .int m_bad) (C := RX12) (T := TX12) (N := 65) hx hb hts inT12 hown hK hP 0 rfl rfl 12 (by decide) (hts _ tw_1897) (fun _ h9 => h9) rfl dX12_readNew_36 ?_
      refine lv_if_le (tgt := 44) hx hb dX12_readNew_39 (by decide) (fun c_9 => ?_) (fun h9 => (z_no (by have h8 := z_fgtF h9; omega)))
      have b_10 := z_fleT c_9
      refine lv_aload_n hx hb dX12_readNew_44 rfl (lv_at hl 1 rfl) ?_
      refine z_callVv (As := []) (rest := []) (wr := [(a_c, .inl (cA.1 0, 1825, .inl g_c)), (a_words, .inl (cA.1 1, 105, .inr (.inl g_words)))]) ⟨hx, hb, hml, hown, hts⟩ hK hE hT hP hD hS hA (r_next2 l G cA h0 m_status m_thrown m_above m_under a_traySort a_trayMany a_numbers a_tape m_taped m_textEnd m_faultKind m_faultAt m_bad m_badAt m_token m_at m_behind m_number m_letters m_word a_c a_words m_markMany a_there a_tried a_best a_found m_thereMany m_foundMany m_orderHow m_orderRing m_orderMany m_hasBest m_bestTop m_bestBy a_weights a_shared m_random m_truePlace m_trueWay m_seconds m_done m_feelings m_tries m_leftOver m_playDoor m_playRing m_isOpen m_isOver m_wasTried m_hasPlayed a_feltNow a_last a_kept m_hasSeconds m_hasTurned m_hasRound a_hasFeels a_isOn m_firstAct m_meanTop m_meanBy a_order m_rowMany m_newSteps g_tape hr_m_textEnd hr_m_at hr_m_behind hr_m_token hr_m_number hr_m_letters) lk_RX12_184 ⟨rfl, rfl⟩ ⟨Nat.le_of_ble_eq_true rfl, Nat.le_of_ble_eq_true rfl⟩ 12 rfl rfl rfl [0, 1] [2, 3] rfl rfl (by decide) rfl hl.1 rfl (lv_room (Nat.le_of_ble_eq_true rfl)) dX12_readNew_45 ⟨Nat.le_of_ble_eq_true rfl, Nat.le_of_ble_eq_true rfl⟩ (fun u_18 H locs hw hP hD hS => ?_)
      obtain ⟨n_11, n_12, n_13, n_14, n_15, n_16⟩ := u_18
      try dsimp only at hw
      obtain ⟨hr_n_11, hr_n_12, hr_n_13, hr_n_14, hr_n_15, hf_19, hf_20⟩ := hw
      refine lv_aload_n hx hb dX12_readNew_48 rfl (lv_at hl 1 rfl) ?_
      refine z_callVi (As := []) (rest := []) (wr := [(a_c, .inl (cA.1 0, 1825, .inl g_c)), (a_words, .inl (cA.1 1, 105, .inr (.inl g_words))), (a_tape, .inl (cA.1 2, 900, .inl g_tape))]) ⟨hx, hb, hml, hown, hts⟩ hK hE hT hP hD hS hA (r_isHouseName l G cA h0 m_status m_thrown m_above m_under a_traySort a_trayMany a_numbers a_tape m_taped m_textEnd m_faultKind m_faultAt m_bad m_badAt n_11 n_12 n_13 n_14 n_15 n_16 a_c a_words m_markMany a_there a_tried a_best a_found m_thereMany m_foundMany m_orderHow m_orderRing m_orderMany m_hasBest m_bestTop m_bestBy a_weights a_shared m_random m_truePlace m_trueWay m_seconds m_done m_feelings m_tries m_leftOver m_playDoor m_playRing m_isOpen m_isOver m_wasTried m_hasPlayed a_feltNow a_last a_kept m_hasSeconds m_hasTurned m_hasRound a_hasFeels a_isOn m_firstAct m_meanTop m_meanBy a_order m_rowMany m_newSteps hr_n_11 hr_n_15) lk_RX12_200 ⟨rfl, rfl⟩ ⟨Nat.le_of_ble_eq_true rfl, Nat.le_of_ble_eq_true rfl⟩ 12 rfl rfl rfl [2] [0, 1, 3] rfl rfl (by decide) rfl hl.1 rfl (lv_room (Nat.le_of_ble_eq_true rfl)) dX12_readNew_49 ⟨Nat.le_of_ble_eq_true rfl, Nat.le_of_ble_eq_true rfl⟩ (fun r_21 u_22 H locs hw hP hD hS => ?_)
      rcases hw with ⟨rfl, -⟩ | ⟨rfl, -⟩
      · skip
        refine lv_if_ne (tgt := 59) hx hb dX12_readNew_52 (by decide) (fun h9 => absurd (by decide +kernel) h9) (fun _ => ?_)
        refine lv_aload_n hx hb dX12_readNew_55 rfl (lv_at hl 1 rfl) ?_
        refine z_callVv (As := []) (rest := []) (wr := [(a_c, .inl (cA.1 0, 1825, .inl g_c)), (a_words, .inl (cA.1 1, 105, .inr (.inl g_words))), (a_tape, .inl (cA.1 2, 900, .inl g_tape))]) ⟨hx, hb, hml, hown, hts⟩ hK hE hT hP hD hS hA (r_wrong l G cA h0 m_status m_thrown m_above m_under a_traySort a_trayMany a_numbers a_tape m_taped m_textEnd m_faultKind m_faultAt m_bad m_badAt n_11 n_12 n_13 n_14 n_15 n_16 a_c a_words m_markMany a_there a_tried a_best a_found m_thereMany m_foundMany m_orderHow m_orderRing m_orderMany m_hasBest m_bestTop m_bestBy a_weights a_shared m_random m_truePlace m_trueWay m_seconds m_done m_feelings m_tries m_leftOver m_playDoor m_playRing m_isOpen m_isOver m_wasTried m_hasPlayed a_feltNow a_last a_kept m_hasSeconds m_hasTurned m_hasRound a_hasFeels a_isOn m_firstAct m_meanTop m_meanBy a_order m_rowMany m_newSteps hr_n_12 hr_m_bad hr_n_11) lk_RX12_187 ⟨rfl, rfl⟩ ⟨Nat.le_of_ble_eq_true rfl, Nat.le_of_ble_eq_true rfl⟩ 12 rfl rfl rfl [3] [0, 1, 2] rfl rfl (by decide) rfl hl.1 rfl (lv_room (Nat.le_of_ble_eq_true rfl)) dX12_readNew_56 ⟨Nat.le_of_ble_eq_true rfl, Nat.le_of_ble_eq_true rfl⟩ (fun u_26 H locs hw hP hD hS => ?_)
        obtain ⟨n_23, n_24⟩ := u_26
        try dsimp only at hw
        have hr_n_23 := hw
        refine lv_aload_n hx hb dX12_readNew_59 rfl (lv_at hl 1 rfl) ?_
        refine va_get (D := G) (ci := 12) (v := .int n_23) (C := RX12) (T := TX12) (N := 65) hx hb hts inT12 hown hK hP 3 rfl rfl 12 (by decide) (hts _ tw_1897) (fun _ h9 => h9) rfl dX12_readNew_60 ?_
        refine lv_if_ne (tgt := 82) hx hb dX12_readNew_63 (by decide) (fun c_27 => ?_) (fun h9 => (z_no (by have h8 := z_feqF h9; omega)))
        have b_28 := z_fneT c_27
        refine lv_aload_n hx hb dX12_readNew_82 rfl (lv_at hl 1 rfl) ?_
        refine va_get (D := G) (ci := 12) (v := .int n_23) (C := RX12) (T := TX12) (N := 65) hx hb hts inT12 hown hK hP 3 rfl rfl 12 (by decide) (hts _ tw_1897) (fun _ h9 => h9) rfl dX12_readNew_83 ?_
        refine lv_if_le (tgt := 91) hx hb dX12_readNew_86 (by decide) (fun h9 => (z_no (by have h8 := z_fleT h9; omega))) (fun c_29 => ?_)
        have b_30 := z_fgtF c_29
        refine lv_iconst (v := 0) hx hb dX12_readNew_89 (by decide) ?_
        have hpost : (0 ≤ (0 : Int32).toInt ∧ (0 : Int32).toInt ≤ 2) ∧ (0 ≤ n_23.toInt ∧ n_23.toInt ≤ 9) ∧ (0 ≤ n_11.toInt ∧ n_11.toInt ≤ 4) ∧ (0 ≤ n_12.toInt ∧ n_12.toInt ≤ 900) ∧ (0 ≤ n_13.toInt ∧ n_13.toInt ≤ 900) ∧ (0 ≤ n_14.toInt ∧ n_14.toInt ≤ 9999) ∧ (0 ≤ n_15.toInt ∧ n_15.toInt ≤ 900) ∧ (m_behind.toInt ≤ n_13.toInt) ∧ (0 < m_bad.toInt → 0 < n_23.toInt) ∧ (n_23.toInt ≤ 0 → n_11.toInt = 0 ∨ m_behind.toInt < n_13.toInt) ∧ (n_23.toInt ≤ 0 → (0 : Int32).toInt = (g_c 1462).toInt) ∧ ((0 : Int32).toInt < 3) := ⟨(by decide +kernel), (z_rgw hr_n_23 (by decide) (by decide)), hr_n_11, hr_n_12, hr_n_13, hr_n_14, hr_n_15, (by omega), (by omega), (by omega), (by omega), (by omega)⟩
        exact hret _ _ _ _ _ _ (n_23, n_24, n_11, n_12, n_13, n_14, n_15, n_16, g_words) [3, 2, 0, 1] hP hD hS rfl (by decide) dX12_readNew_90 hpost
      · skip
        refine lv_if_ne (tgt := 59) hx hb dX12_readNew_52 (by decide) (fun _ => ?_) (fun h9 => absurd h9 (by decide +kernel))
        refine lv_aload_n hx hb dX12_readNew_59 rfl (lv_at hl 1 rfl) ?_
        refine va_get (D := G) (ci := 12) (v := .int m_bad) (C := RX12) (T := TX12) (N := 65) hx hb hts inT12 hown hK hP 3 rfl rfl 12 (by decide) (hts _ tw_1897) (fun _ h9 => h9) rfl dX12_readNew_60 ?_
        refine lv_if_ne (tgt := 82) hx hb dX12_readNew_63 (by decide) (fun h9 => (z_no (by have h8 := z_fneT h9; omega))) (fun c_31 => ?_)
        have b_32 := z_feqF c_31
        refine lv_aload_n hx hb dX12_readNew_66 rfl (lv_at hl 1 rfl) ?_
        refine z_callVi (As := []) (rest := []) (wr := [(a_tape, .inl (cA.1 2, 900, .inl g_tape))]) ⟨hx, hb, hml, hown, hts⟩ hK hE hT hP hD hS hA (r_isTaken l G cA h0 m_status m_thrown m_above m_under a_traySort a_trayMany a_numbers a_tape m_taped m_textEnd m_faultKind m_faultAt m_bad m_badAt n_11 n_12 n_13 n_14 n_15 n_16 a_c a_words m_markMany a_there a_tried a_best a_found m_thereMany m_foundMany m_orderHow m_orderRing m_orderMany m_hasBest m_bestTop m_bestBy a_weights a_shared m_random m_truePlace m_trueWay m_seconds m_done m_feelings m_tries m_leftOver m_playDoor m_playRing m_isOpen m_isOver m_wasTried m_hasPlayed a_feltNow a_last a_kept m_hasSeconds m_hasTurned m_hasRound a_hasFeels a_isOn m_firstAct m_meanTop m_meanBy a_order m_rowMany m_newSteps g_c g_words hC_g_c) lk_RX12_204 ⟨rfl, rfl⟩ ⟨Nat.le_of_ble_eq_true rfl, Nat.le_of_ble_eq_true rfl⟩ 12 rfl rfl rfl [3, 0, 1] [2] rfl rfl (by decide) rfl hl.1 rfl (lv_room (Nat.le_of_ble_eq_true rfl)) dX12_readNew_67 ⟨Nat.le_of_ble_eq_true rfl, Nat.le_of_ble_eq_true rfl⟩ (fun r_33 u_34 H locs hw hP hD hS => ?_)
        rcases hw with ⟨rfl, -⟩ | ⟨rfl, -⟩
        · skip
          refine lv_if_eq (tgt := 82) hx hb dX12_readNew_70 (by decide) (fun _ => ?_) (fun h9 => absurd (by decide +kernel) h9)
          refine lv_aload_n hx hb dX12_readNew_82 rfl (lv_at hl 1 rfl) ?_
          refine va_get (D := G) (ci := 12) (v := .int m_bad) (C := RX12) (T := TX12) (N := 65) hx hb hts inT12 hown hK hP 1 rfl rfl 12 (by decide) (hts _ tw_1897) (fun _ h9 => h9) rfl dX12_readNew_83 ?_
          refine lv_if_le (tgt := 91) hx hb dX12_readNew_86 (by decide) (fun c_35 => ?_) (fun h9 => (z_no (by have h8 := z_fgtF h9; omega)))
          have b_36 := z_fleT c_35
          refine lv_aload_n hx hb dX12_readNew_91 rfl (lv_at hl 1 rfl) ?_
          refine va_get (D := G) (ci := 12) (v := .ref a_words) (C := RX12) (T := TX12) (N := 65) hx hb hts inT12 hown hK hP 1 rfl rfl 21 (by decide) (hts _ tw_1906) (fun _ h9 => h9) rfl dX12_readNew_92 ?_
          refine lv_bipush (v := 84) hx hb dX12_readNew_95 (by decide) ?_
          refine lv_iload_n hx hb dX12_readNew_97 rfl (lv_at hl 4 rfl) ?_
          refine lv_iadd hx hb dX12_readNew_98 ?_
          refine z_topi (y := 97) (by decide +kernel) ?_
          refine lv_iload hx hb dX12_readNew_99 (lv_at hl 0 rfl) ?_
          refine lv_iadd hx hb dX12_readNew_101 ?_
          refine lv_topi (fun x_37 he_x_37 => ?_)
          have hq_x_37 := z_addq he_x_37 hk_97 (rfl : x_1.toInt = _) (by omega) (by omega)
          refine lv_aload_n hx hb dX12_readNew_102 rfl (lv_at hl 1 rfl) ?_
          refine va_get (D := G) (ci := 12) (v := .long n_16) (C := RX12) (T := TX12) (N := 65) hx hb hts inT12 hown hK hP 1 rfl rfl 19 (by decide) (hts _ tw_1904) (fun _ h9 => h9) rfl dX12_readNew_103 ?_
          refine z_last hx hb hK hP hD hS 3 1 rfl rfl (z_inN (by omega) (by omega)) dX12_readNew_106 (fun g_38 hg_g_38 H locs hP hD hS => ?_)
          refine lv_aload_n hx hb dX12_readNew_107 rfl (lv_at hl 1 rfl) ?_
          refine z_callVv (As := []) (rest := []) (wr := [(a_c, .inl (cA.1 0, 1825, .inl g_c)), (a_words, .inl (cA.1 1, 105, .inr (.inl g_38)))]) ⟨hx, hb, hml, hown, hts⟩ hK hE hT hP hD hS hA (r_next2 l G cA h0 m_status m_thrown m_above m_under a_traySort a_trayMany a_numbers a_tape m_taped m_textEnd m_faultKind m_faultAt m_bad m_badAt n_11 n_12 n_13 n_14 n_15 n_16 a_c a_words m_markMany a_there a_tried a_best a_found m_thereMany m_foundMany m_orderHow m_orderRing m_orderMany m_hasBest m_bestTop m_bestBy a_weights a_shared m_random m_truePlace m_trueWay m_seconds m_done m_feelings m_tries m_leftOver m_playDoor m_playRing m_isOpen m_isOver m_wasTried m_hasPlayed a_feltNow a_last a_kept m_hasSeconds m_hasTurned m_hasRound a_hasFeels a_isOn m_firstAct m_meanTop m_meanBy a_order m_rowMany m_newSteps g_tape hr_m_textEnd hr_n_12 hr_n_13 hr_n_11 hr_n_14 hr_n_15) lk_RX12_184 ⟨rfl, rfl⟩ ⟨Nat.le_of_ble_eq_true rfl, Nat.le_of_ble_eq_true rfl⟩ 12 rfl rfl rfl [1, 0] [2, 3] rfl rfl (by decide) rfl hl.1 rfl (lv_room (Nat.le_of_ble_eq_true rfl)) dX12_readNew_108 ⟨Nat.le_of_ble_eq_true rfl, Nat.le_of_ble_eq_true rfl⟩ (fun u_46 H locs hw hP hD hS => ?_)
          obtain ⟨n_39, n_40, n_41, n_42, n_43, n_44⟩ := u_46
          try dsimp only at hw
          obtain ⟨hr_n_39, hr_n_40, hr_n_41, hr_n_42, hr_n_43, hf_47, hf_48⟩ := hw
          refine lv_iload hx hb dX12_readNew_111 (lv_at hl 0 rfl) ?_
          have hpost : (0 ≤ x_1.toInt ∧ x_1.toInt ≤ 2) ∧ (0 ≤ m_bad.toInt ∧ m_bad.toInt ≤ 9) ∧ (0 ≤ n_39.toInt ∧ n_39.toInt ≤ 4) ∧ (0 ≤ n_40.toInt ∧ n_40.toInt ≤ 900) ∧ (0 ≤ n_41.toInt ∧ n_41.toInt ≤ 900) ∧ (0 ≤ n_42.toInt ∧ n_42.toInt ≤ 9999) ∧ (0 ≤ n_43.toInt ∧ n_43.toInt ≤ 900) ∧ (m_behind.toInt ≤ n_41.toInt) ∧ (0 < m_bad.toInt → 0 < m_bad.toInt) ∧ (m_bad.toInt ≤ 0 → n_39.toInt = 0 ∨ m_behind.toInt < n_41.toInt) ∧ (m_bad.toInt ≤ 0 → x_1.toInt = (g_c 1462).toInt) ∧ (x_1.toInt < 3) := ⟨(by omega), hr_m_bad, hr_n_39, hr_n_40, hr_n_41, hr_n_42, hr_n_43, (by omega), (by omega), (by omega), (by omega), (by omega)⟩
          exact hret _ _ _ _ _ _ (m_bad, m_badAt, n_39, n_40, n_41, n_42, n_43, n_44, g_38) [2, 3, 0, 1] hP hD hS rfl (by decide) dX12_readNew_113 hpost
        · skip
          refine lv_if_eq (tgt := 82) hx hb dX12_readNew_70 (by decide) (fun h9 => absurd h9 (by decide +kernel)) (fun _ => ?_)
          refine lv_aload_n hx hb dX12_readNew_73 rfl (lv_at hl 1 rfl) ?_
          refine lv_iconst (v := 3) hx hb dX12_readNew_74 (by decide) ?_
          refine lv_aload_n hx hb dX12_readNew_75 rfl (lv_at hl 1 rfl) ?_
          refine va_get (D := G) (ci := 12) (v := .int n_12) (C := RX12) (T := TX12) (N := 65) hx hb hts inT12 hown hK hP 1 rfl rfl 15 (by decide) (hts _ tw_1900) (fun _ h9 => h9) rfl dX12_readNew_76 ?_
          refine z_callVv (As := [.int 3, .int n_12]) (rest := []) (wr := [(a_tape, .inl (cA.1 2, 900, .inl g_tape)), (a_c, .inl (cA.1 0, 1825, .inl g_c)), (a_words, .inl (cA.1 1, 105, .inr (.inl g_words)))]) ⟨hx, hb, hml, hown, hts⟩ hK hE hT hP hD hS hA (r_fail l G cA h0 m_status m_thrown m_above m_under a_traySort a_trayMany a_numbers a_tape m_taped m_textEnd m_faultKind m_faultAt m_bad m_badAt n_11 n_12 n_13 n_14 n_15 n_16 a_c a_words m_markMany a_there a_tried a_best a_found m_thereMany m_foundMany m_orderHow m_orderRing m_orderMany m_hasBest m_bestTop m_bestBy a_weights a_shared m_random m_truePlace m_trueWay m_seconds m_done m_feelings m_tries m_leftOver m_playDoor m_playRing m_isOpen m_isOver m_wasTried m_hasPlayed a_feltNow a_last a_kept m_hasSeconds m_hasTurned m_hasRound a_hasFeels a_isOn m_firstAct m_meanTop m_meanBy a_order m_rowMany m_newSteps 3 n_12 (by decide +kernel) hr_m_bad) lk_RX12_180 ⟨rfl, rfl⟩ ⟨Nat.le_of_ble_eq_true rfl, Nat.le_of_ble_eq_true rfl⟩ 12 rfl rfl rfl [1] [0, 2, 3] rfl rfl (by decide) rfl hl.1 rfl (lv_room (Nat.le_of_ble_eq_true rfl)) dX12_readNew_79 ⟨Nat.le_of_ble_eq_true rfl, Nat.le_of_ble_eq_true rfl⟩ (fun u_52 H locs hw hP hD hS => ?_)
          obtain ⟨n_49, n_50⟩ := u_52
          try dsimp only at hw
          obtain ⟨hr_n_49, hf_53⟩ := hw
          refine lv_aload_n hx hb dX12_readNew_82 rfl (lv_at hl 1 rfl) ?_
          refine va_get (D := G) (ci := 12) (v := .int n_49) (C := RX12) (T := TX12) (N := 65) hx hb hts inT12 hown hK hP 3 rfl rfl 12 (by decide) (hts _ tw_1897) (fun _ h9 => h9) rfl dX12_readNew_83 ?_
          refine lv_if_le (tgt := 91) hx hb dX12_readNew_86 (by decide) (fun h9 => (z_no (by have h8 := z_fleT h9; omega))) (fun c_54 => ?_)
          have b_55 := z_fgtF c_54
          refine lv_iconst (v := 0) hx hb dX12_readNew_89 (by decide) ?_
          have hpost : (0 ≤ (0 : Int32).toInt ∧ (0 : Int32).toInt ≤ 2) ∧ (0 ≤ n_49.toInt ∧ n_49.toInt ≤ 9) ∧ (0 ≤ n_11.toInt ∧ n_11.toInt ≤ 4) ∧ (0 ≤ n_12.toInt ∧ n_12.toInt ≤ 900) ∧ (0 ≤ n_13.toInt ∧ n_13.toInt ≤ 900) ∧ (0 ≤ n_14.toInt ∧ n_14.toInt ≤ 9999) ∧ (0 ≤ n_15.toInt ∧ n_15.toInt ≤ 900) ∧ (m_behind.toInt ≤ n_13.toInt) ∧ (0 < m_bad.toInt → 0 < n_49.toInt) ∧ (n_49.toInt ≤ 0 → n_11.toInt = 0 ∨ m_behind.toInt < n_13.toInt) ∧ (n_49.toInt ≤ 0 → (0 : Int32).toInt = (g_c 1462).toInt) ∧ ((0 : Int32).toInt < 3) := ⟨(by decide +kernel), (z_rgw hr_n_49 (by decide) (by decide)), hr_n_11, hr_n_12, hr_n_13, hr_n_14, hr_n_15, (by omega), (by omega), (by omega), (by omega), (by omega)⟩
          exact hret _ _ _ _ _ _ (n_49, n_50, n_11, n_12, n_13, n_14, n_15, n_16, g_words) [3, 0, 1, 2] hP hD hS rfl (by decide) dX12_readNew_90 hpost
    · have b_56 := z_feqF c_7
      refine lv_aload_n hx hb dX12_readNew_25 rfl (lv_at hl 1 rfl) ?_
      refine lv_bipush (v := 6) hx hb dX12_readNew_26 (by decide) ?_
      refine lv_aload_n hx hb dX12_readNew_28 rfl (lv_at hl 1 rfl) ?_
      refine va_get (D := G) (ci := 12) (v := .int m_at) (C := RX12) (T := TX12) (N := 65) hx hb hts inT12 hown hK hP 0 rfl rfl 15 (by decide) (hts _ tw_1900) (fun _ h9 => h9) rfl dX12_readNew_29 ?_
      refine z_callVv (As := [.int 6, .int m_at]) (rest := []) (wr := [(a_tape, .inl (cA.1 2, 900, .inl g_tape)), (a_c, .inl (cA.1 0, 1825, .inl g_c)), (a_words, .inl (cA.1 1, 105, .inr (.inl g_words)))]) ⟨hx, hb, hml, hown, hts⟩ hK hE hT hP hD hS hA (r_fail l G cA h0 m_status m_thrown m_above m_under a_traySort a_trayMany a_numbers a_tape m_taped m_textEnd m_faultKind m_faultAt m_bad m_badAt m_token m_at m_behind m_number m_letters m_word a_c a_words m_markMany a_there a_tried a_best a_found m_thereMany m_foundMany m_orderHow m_orderRing m_orderMany m_hasBest m_bestTop m_bestBy a_weights a_shared m_random m_truePlace m_trueWay m_seconds m_done m_feelings m_tries m_leftOver m_playDoor m_playRing m_isOpen m_isOver m_wasTried m_hasPlayed a_feltNow a_last a_kept m_hasSeconds m_hasTurned m_hasRound a_hasFeels a_isOn m_firstAct m_meanTop m_meanBy a_order m_rowMany m_newSteps 6 m_at (by decide +kernel) hr_m_bad) lk_RX12_180 ⟨rfl, rfl⟩ ⟨Nat.le_of_ble_eq_true rfl, Nat.le_of_ble_eq_true rfl⟩ 12 rfl rfl rfl [0] [1, 2, 3] rfl rfl (by decide) rfl hl.1 rfl (lv_room (Nat.le_of_ble_eq_true rfl)) dX12_readNew_32 ⟨Nat.le_of_ble_eq_true rfl, Nat.le_of_ble_eq_true rfl⟩ (fun u_60 H locs hw hP hD hS => ?_)
      obtain ⟨n_57, n_58⟩ := u_60
      try dsimp only at hw
      obtain ⟨hr_n_57, hf_61⟩ := hw
      refine lv_aload_n hx hb dX12_readNew_35 rfl (lv_at hl 1 rfl) ?_
      refine va_get (D := G) (ci := 12) (v := .int n_57) (C := RX12) (T := TX12) (N := 65) hx hb hts inT12 hown hK hP 3 rfl rfl 12 (by decide) (hts _ tw_1897) (fun _ h9 => h9) rfl dX12_readNew_36 ?_
      refine lv_if_le (tgt := 44) hx hb dX12_readNew_39 (by decide) (fun h9 => (z_no (by have h8 := z_fleT h9; omega))) (fun c_62 => ?_)
      have b_63 := z_fgtF c_62
      refine lv_iconst (v := 0) hx hb dX12_readNew_42 (by decide) ?_
      have hpost : (0 ≤ (0 : Int32).toInt ∧ (0 : Int32).toInt ≤ 2) ∧ (0 ≤ n_57.toInt ∧ n_57.toInt ≤ 9) ∧ (0 ≤ m_token.toInt ∧ m_token.toInt ≤ 4) ∧ (0 ≤ m_at.toInt ∧ m_at.toInt ≤ 900) ∧ (0 ≤ m_behind.toInt ∧ m_behind.toInt ≤ 900) ∧ (0 ≤ m_number.toInt ∧ m_number.toInt ≤ 9999) ∧ (0 ≤ m_letters.toInt ∧ m_letters.toInt ≤ 900) ∧ (m_behind.toInt ≤ m_behind.toInt) ∧ (0 < m_bad.toInt → 0 < n_57.toInt) ∧ (n_57.toInt ≤ 0 → m_token.toInt = 0 ∨ m_behind.toInt < m_behind.toInt) ∧ (n_57.toInt ≤ 0 → (0 : Int32).toInt = (g_c 1462).toInt) ∧ ((0 : Int32).toInt < 3) := ⟨(by decide +kernel), (z_rgw hr_n_57 (by decide) (by decide)), hr_m_token, hr_m_at, hr_m_behind, hr_m_number, hr_m_letters, (by omega), (by omega), (by omega), (by omega), (by omega)⟩
      exact hret _ _ _ _ _ _ (n_57, n_58, m_token, m_at, m_behind, m_number, m_letters, m_word, g_words) [3, 0, 1, 2] hP hD hS rfl (by decide) dX12_readNew_43 hpost
set_option maxHeartbeats 4000000 in
set_option maxRecDepth 100000 in
theorem r_readOld_2 (l : Launch) (G : va_G) (cA : zCA) (h0 : Nat) (m_status : Int32) (m_thrown : Int32) (m_above : Int64) (m_under : Int64) (a_traySort : Nat) (a_trayMany : Nat) (a_numbers : Nat) (a_tape : Nat) (m_taped : Int32) (m_textEnd : Int32) (m_faultKind : Int32) (m_faultAt : Int32) (m_bad : Int32) (m_badAt : Int32) (m_token : Int32) (m_at : Int32) (m_behind : Int32) (m_number : Int32) (m_letters : Int32) (m_word : Int64) (a_c : Nat) (a_words : Nat) (m_markMany : Int32) (a_there : Nat) (a_tried : Nat) (a_best : Nat) (a_found : Nat) (m_thereMany : Int32) (m_foundMany : Int32) (m_orderHow : Int32) (m_orderRing : Int32) (m_orderMany : Int32) (m_hasBest : Int32) (m_bestTop : Int64) (m_bestBy : Int64) (a_weights : Nat) (a_shared : Nat) (m_random : Int32) (m_truePlace : Int32) (m_trueWay : Int32) (m_seconds : Int32) (m_done : Int32) (m_feelings : Int32) (m_tries : Int32) (m_leftOver : Int32) (m_playDoor : Int32) (m_playRing : Int32) (m_isOpen : Int32) (m_isOver : Int32) (m_wasTried : Int32) (m_hasPlayed : Int32) (a_feltNow : Nat) (a_last : Nat) (a_kept : Nat) (m_hasSeconds : Int32) (m_hasTurned : Int32) (m_hasRound : Int32) (a_hasFeels : Nat) (a_isOn : Nat) (m_firstAct : Int32) (m_meanTop : Int64) (m_meanBy : Int64) (a_order : Nat) (m_rowMany : Int32) (m_newSteps : Int32) (g_c : Nat → Int32) (g_words : Nat → Int64) (hr_m_at : 0 ≤ m_at.toInt ∧ m_at.toInt ≤ 900) (hr_m_bad : 0 ≤ m_bad.toInt ∧ m_bad.toInt ≤ 9) (hr_m_token : 0 ≤ m_token.toInt ∧ m_token.toInt ≤ 4) (hr_m_letters : 0 ≤ m_letters.toInt ∧ m_letters.toInt ≤ 900) (hC_g_c : zC g_c) : zCi l yX12_readOld cX12_readOld 4 (some .int) ({ frames := 3, cells := 0, slots := 0, locals := 67 }) G cA [.ref h0, .int 2, .int 13] [(h0, .inr (12, [.int m_status, .int m_thrown, .long m_above, .long m_under, .ref a_traySort, .ref a_trayMany, .ref a_numbers, .ref a_tape, .int m_taped, .int m_textEnd, .int m_faultKind, .int m_faultAt, .int m_bad, .int m_badAt, .int m_token, .int m_at, .int m_behind, .int m_number, .int m_letters, .long m_word, .ref a_c, .ref a_words, .int m_markMany, .ref a_there, .ref a_tried, .ref a_best, .ref a_found, .int m_thereMany, .int m_foundMany, .int m_orderHow, .int m_orderRing, .int m_orderMany, .int m_hasBest, .long m_bestTop, .long m_bestBy, .ref a_weights, .ref a_shared, .int m_random, .int m_truePlace, .int m_trueWay, .int m_seconds, .int m_done, .int m_feelings, .int m_tries, .int m_leftOver, .int m_playDoor, .int m_playRing, .int m_isOpen, .int m_isOver, .int m_wasTried, .int m_hasPlayed, .ref a_feltNow, .ref a_last, .ref a_kept, .int m_hasSeconds, .int m_hasTurned, .int m_hasRound, .ref a_hasFeels, .ref a_isOn, .int m_firstAct, .long m_meanTop, .long m_meanBy, .ref a_order, .int m_rowMany, .int m_newSteps])), (a_c, .inl (cA.1 0, 1825, .inl g_c)), (a_words, .inl (cA.1 1, 105, .inr (.inl g_words)))] (S := Int32 × Int32) (fun (r : Int32) (u : Int32 × Int32) => ((-1) ≤ r.toInt ∧ r.toInt ≤ 2) ∧ (0 ≤ u.1.toInt ∧ u.1.toInt ≤ 9) ∧ (m_behind.toInt ≤ m_behind.toInt) ∧ (0 < m_bad.toInt → 0 < u.1.toInt) ∧ (u.1.toInt ≤ 0 → 0 ≤ r.toInt ∧ r.toInt < (g_c 1462).toInt)) (fun (u : Int32 × Int32) => [(h0, .inr (12, [.int m_status, .int m_thrown, .long m_above, .long m_under, .ref a_traySort, .ref a_trayMany, .ref a_numbers, .ref a_tape, .int m_taped, .int m_textEnd, .int m_faultKind, .int m_faultAt, .int u.1, .int u.2, .int m_token, .int m_at, .int m_behind, .int m_number, .int m_letters, .long m_word, .ref a_c, .ref a_words, .int m_markMany, .ref a_there, .ref a_tried, .ref a_best, .ref a_found, .int m_thereMany, .int m_foundMany, .int m_orderHow, .int m_orderRing, .int m_orderMany, .int m_hasBest, .long m_bestTop, .long m_bestBy, .ref a_weights, .ref a_shared, .int m_random, .int m_truePlace, .int m_trueWay, .int m_seconds, .int m_done, .int m_feelings, .int m_tries, .int m_leftOver, .int m_playDoor, .int m_playRing, .int m_isOpen, .int m_isOver, .int m_wasTried, .int m_hasPlayed, .ref a_feltNow, .ref a_last, .ref a_kept, .int m_hasSeconds, .int m_hasTurned, .int m_hasRound, .ref a_hasFeels, .ref a_isOn, .int m_firstAct, .long m_meanTop, .long m_meanBy, .ref a_order, .int m_rowMany, .int m_newSteps])), (a_c, .inl (cA.1 0, 1825, .inl g_c)), (a_words, .inl (cA.1 1, 105, .inr (.inl g_words)))]) 0 0 := by
  have hk_0 : (0 : Int32).toInt = 0 := by decide +kernel
  have hk_3 : (3 : Int32).toInt = 3 := by decide +kernel
  have hk_4 : (4 : Int32).toInt = 4 := by decide +kernel
  have hk_13 : (13 : Int32).toInt = 13 := by decide +kernel
  refine z_start2i (own := RX12) (by decide) (Nat.le_of_ble_eq_true rfl) rfl ?_
  intro p e s m args below meth c A ls Q hx hb hml hts hown hK hE hT hP hD hS hA hl hret
  have hl : lv_has ls 4 [(0, .ref h0), (1, .int 2), (2, .int 13)] := hl
  refine lv_aload_n hx hb dX12_readOld_0 rfl (lv_at hl 0 rfl) ?_
  refine va_get (D := G) (ci := 12) (v := .int m_bad) (C := RX12) (T := TX12) (N := 65) hx hb hts inT12 hown hK hP 0 rfl rfl 12 (by decide) (hts _ tw_1897) (fun _ h9 => h9) rfl dX12_readOld_1 ?_
  refine lv_if_ne (tgt := 18) hx hb dX12_readOld_4 (by decide) (fun c_1 => ?_) (fun c_1 => ?_)
  · have b_2 := z_fneT c_1
    refine lv_aload_n hx hb dX12_readOld_18 rfl (lv_at hl 0 rfl) ?_
    refine va_get (D := G) (ci := 12) (v := .int m_bad) (C := RX12) (T := TX12) (N := 65) hx hb hts inT12 hown hK hP 0 rfl rfl 12 (by decide) (hts _ tw_1897) (fun _ h9 => h9) rfl dX12_readOld_19 ?_
    refine lv_if_ne (tgt := 44) hx hb dX12_readOld_22 (by decide) (fun c_3 => ?_) (fun h9 => (z_no (by have h8 := z_feqF h9; omega)))
    have b_4 := z_fneT c_3
    refine lv_iconst (v := 0) hx hb dX12_readOld_44 (by decide) ?_
    refine lv_istore_n (lv' := [(3, .int 0), (0, .ref h0), (1, .int 2), (2, .int 13)]) hx hb dX12_readOld_45 rfl hl (by decide) rfl (fun ls hl => ?_)
    refine lv_aload_n hx hb dX12_readOld_46 rfl (lv_at hl 1 rfl) ?_
    refine va_get (D := G) (ci := 12) (v := .int m_bad) (C := RX12) (T := TX12) (N := 65) hx hb hts inT12 hown hK hP 0 rfl rfl 12 (by decide) (hts _ tw_1897) (fun _ h9 => h9) rfl dX12_readOld_47 ?_
    refine lv_if_ne (tgt := 66) hx hb dX12_readOld_50 (by decide) (fun c_5 => ?_) (fun h9 => (z_no (by have h8 := z_feqF h9; omega)))
    have b_6 := z_fneT c_5
    refine lv_iload_n hx hb dX12_readOld_66 rfl (lv_at hl 0 rfl) ?_
    have hpost : ((-1) ≤ (0 : Int32).toInt ∧ (0 : Int32).toInt ≤ 2) ∧ (0 ≤ m_bad.toInt ∧ m_bad.toInt ≤ 9) ∧ (m_behind.toInt ≤ m_behind.toInt) ∧ (0 < m_bad.toInt → 0 < m_bad.toInt) ∧ (m_bad.toInt ≤ 0 → 0 ≤ (0 : Int32).toInt ∧ (0 : Int32).toInt < (g_c 1462).toInt) := ⟨(by decide +kernel), hr_m_bad, (by omega), (by omega), (by omega)⟩
    exact hret _ _ _ _ _ _ (m_bad, m_badAt) [0, 1, 2] hP hD hS rfl (by decide) dX12_readOld_67 hpost
  · have b_7 := z_feqF c_1
    refine lv_aload_n hx hb dX12_readOld_7 rfl (lv_at hl 0 rfl) ?_
    refine z_callVi (As := []) (rest := []) (wr := [(a_c, .inl (cA.1 0, 1825, .inl g_c)), (a_words, .inl (cA.1 1, 105, .inr (.inl g_words)))]) ⟨hx, hb, hml, hown, hts⟩ hK hE hT hP hD hS hA (r_isHouseName l G cA h0 m_status m_thrown m_above m_under a_traySort a_trayMany a_numbers a_tape m_taped m_textEnd m_faultKind m_faultAt m_bad m_badAt m_token m_at m_behind m_number m_letters m_word a_c a_words m_markMany a_there a_tried a_best a_found m_thereMany m_foundMany m_orderHow m_orderRing m_orderMany m_hasBest m_bestTop m_bestBy a_weights a_shared m_random m_truePlace m_trueWay m_seconds m_done m_feelings m_tries m_leftOver m_playDoor m_playRing m_isOpen m_isOver m_wasTried m_hasPlayed a_feltNow a_last a_kept m_hasSeconds m_hasTurned m_hasRound a_hasFeels a_isOn m_firstAct m_meanTop m_meanBy a_order m_rowMany m_newSteps hr_m_token hr_m_letters) lk_RX12_200 ⟨rfl, rfl⟩ ⟨Nat.le_of_ble_eq_true rfl, Nat.le_of_ble_eq_true rfl⟩ 12 rfl rfl rfl [0] [1, 2] rfl rfl (by decide) rfl hl.1 rfl (lv_room (Nat.le_of_ble_eq_true rfl)) dX12_readOld_8 ⟨Nat.le_of_ble_eq_true rfl, Nat.le_of_ble_eq_true rfl⟩ (fun r_8 u_9 H locs hw hP hD hS => ?_)
    rcases hw with ⟨rfl, -⟩ | ⟨rfl, -⟩
    · skip
      refine lv_if_ne (tgt := 18) hx hb dX12_readOld_11 (by decide) (fun h9 => absurd (by decide +kernel) h9) (fun _ => ?_)
      refine lv_aload_n hx hb dX12_readOld_14 rfl (lv_at hl 0 rfl) ?_
      refine z_callVv (As := []) (rest := []) (wr := [(a_c, .inl (cA.1 0, 1825, .inl g_c)), (a_words, .inl (cA.1 1, 105, .inr (.inl g_words)))]) ⟨hx, hb, hml, hown, hts⟩ hK hE hT hP hD hS hA (r_wrong l G cA h0 m_status m_thrown m_above m_under a_traySort a_trayMany a_numbers a_tape m_taped m_textEnd m_faultKind m_faultAt m_bad m_badAt m_token m_at m_behind m_number m_letters m_word a_c a_words m_markMany a_there a_tried a_best a_found m_thereMany m_foundMany m_orderHow m_orderRing m_orderMany m_hasBest m_bestTop m_bestBy a_weights a_shared m_random m_truePlace m_trueWay m_seconds m_done m_feelings m_tries m_leftOver m_playDoor m_playRing m_isOpen m_isOver m_wasTried m_hasPlayed a_feltNow a_last a_kept m_hasSeconds m_hasTurned m_hasRound a_hasFeels a_isOn m_firstAct m_meanTop m_meanBy a_order m_rowMany m_newSteps hr_m_at hr_m_bad hr_m_token) lk_RX12_187 ⟨rfl, rfl⟩ ⟨Nat.le_of_ble_eq_true rfl, Nat.le_of_ble_eq_true rfl⟩ 12 rfl rfl rfl [2] [0, 1] rfl rfl (by decide) rfl hl.1 rfl (lv_room (Nat.le_of_ble_eq_true rfl)) dX12_readOld_15 ⟨Nat.le_of_ble_eq_true rfl, Nat.le_of_ble_eq_true rfl⟩ (fun u_13 H locs hw hP hD hS => ?_)
      obtain ⟨n_10, n_11⟩ := u_13
      try dsimp only at hw
      have hr_n_10 := hw
      refine lv_aload_n hx hb dX12_readOld_18 rfl (lv_at hl 0 rfl) ?_
      refine va_get (D := G) (ci := 12) (v := .int n_10) (C := RX12) (T := TX12) (N := 65) hx hb hts inT12 hown hK hP 2 rfl rfl 12 (by decide) (hts _ tw_1897) (fun _ h9 => h9) rfl dX12_readOld_19 ?_
      refine lv_if_ne (tgt := 44) hx hb dX12_readOld_22 (by decide) (fun c_14 => ?_) (fun h9 => (z_no (by have h8 := z_feqF h9; omega)))
      have b_15 := z_fneT c_14
      refine lv_iconst (v := 0) hx hb dX12_readOld_44 (by decide) ?_
      refine lv_istore_n (lv' := [(3, .int 0), (0, .ref h0), (1, .int 2), (2, .int 13)]) hx hb dX12_readOld_45 rfl hl (by decide) rfl (fun ls hl => ?_)
      refine lv_aload_n hx hb dX12_readOld_46 rfl (lv_at hl 1 rfl) ?_
      refine va_get (D := G) (ci := 12) (v := .int n_10) (C := RX12) (T := TX12) (N := 65) hx hb hts inT12 hown hK hP 2 rfl rfl 12 (by decide) (hts _ tw_1897) (fun _ h9 => h9) rfl dX12_readOld_47 ?_
      refine lv_if_ne (tgt := 66) hx hb dX12_readOld_50 (by decide) (fun c_16 => ?_) (fun h9 => (z_no (by have h8 := z_feqF h9; omega)))
      have b_17 := z_fneT c_16
      refine lv_iload_n hx hb dX12_readOld_66 rfl (lv_at hl 0 rfl) ?_
      have hpost : ((-1) ≤ (0 : Int32).toInt ∧ (0 : Int32).toInt ≤ 2) ∧ (0 ≤ n_10.toInt ∧ n_10.toInt ≤ 9) ∧ (m_behind.toInt ≤ m_behind.toInt) ∧ (0 < m_bad.toInt → 0 < n_10.toInt) ∧ (n_10.toInt ≤ 0 → 0 ≤ (0 : Int32).toInt ∧ (0 : Int32).toInt < (g_c 1462).toInt) := ⟨(by decide +kernel), (z_rgw hr_n_10 (by decide) (by decide)), (by omega), (by omega), (by omega)⟩
      exact hret _ _ _ _ _ _ (n_10, n_11) [2, 0, 1] hP hD hS rfl (by decide) dX12_readOld_67 hpost
    · skip
      refine lv_if_ne (tgt := 18) hx hb dX12_readOld_11 (by decide) (fun _ => ?_) (fun h9 => absurd h9 (by decide +kernel))
      refine lv_aload_n hx hb dX12_readOld_18 rfl (lv_at hl 0 rfl) ?_
      refine va_get (D := G) (ci := 12) (v := .int m_bad) (C := RX12) (T := TX12) (N := 65) hx hb hts inT12 hown hK hP 2 rfl rfl 12 (by decide) (hts _ tw_1897) (fun _ h9 => h9) rfl dX12_readOld_19 ?_
      refine lv_if_ne (tgt := 44) hx hb dX12_readOld_22 (by decide) (fun h9 => (z_no (by have h8 := z_fneT h9; omega))) (fun c_18 => ?_)
      have b_19 := z_feqF c_18
      refine lv_aload_n hx hb dX12_readOld_25 rfl (lv_at hl 0 rfl) ?_
      refine lv_iconst (v := 4) hx hb dX12_readOld_26 (by decide) ?_
      refine lv_iload_n hx hb dX12_readOld_27 rfl (lv_at hl 2 rfl) ?_
      refine lv_aload_n hx hb dX12_readOld_28 rfl (lv_at hl 0 rfl) ?_
      refine va_get (D := G) (ci := 12) (v := .ref a_c) (C := RX12) (T := TX12) (N := 65) hx hb hts inT12 hown hK hP 2 rfl rfl 20 (by decide) (hts _ tw_1905) (fun _ h9 => h9) rfl dX12_readOld_29 ?_
      refine lv_sipush (v := 1460) hx hb dX12_readOld_32 (by decide) ?_
      refine lv_iload_n hx hb dX12_readOld_35 rfl (lv_at hl 1 rfl) ?_
      refine lv_iadd hx hb dX12_readOld_36 ?_
      refine z_topi (y := 1462) (by decide +kernel) ?_
      refine va_iald hx hb hK hP 0 0 rfl rfl (z_in (i := 1462) (n := 1825) (by decide +kernel) (by decide +kernel)) dX12_readOld_37 ?_
      refine lv_topi (fun x_20 he_x_20 => ?_)
      have hr_x_20 := z_ctk hC_g_c he_x_20 (k := 1462) (lo := 0) (hi := 3) (by decide +kernel) (by decide +kernel) (by decide +kernel)
      have hv_x_20 := z_cv he_x_20 (k := 1462) (by decide +kernel)
      refine z_callVi (As := [.int 4, .int 13, .int x_20]) (rest := []) (wr := [(a_c, .inl (cA.1 0, 1825, .inl g_c))]) ⟨hx, hb, hml, hown, hts⟩ hK hE hT hP hD hS hA (r_named_4_13 l G cA h0 m_status m_thrown m_above m_under a_traySort a_trayMany a_numbers a_tape m_taped m_textEnd m_faultKind m_faultAt m_bad m_badAt m_token m_at m_behind m_number m_letters m_word a_c a_words m_markMany a_there a_tried a_best a_found m_thereMany m_foundMany m_orderHow m_orderRing m_orderMany m_hasBest m_bestTop m_bestBy a_weights a_shared m_random m_truePlace m_trueWay m_seconds m_done m_feelings m_tries m_leftOver m_playDoor m_playRing m_isOpen m_isOver m_wasTried m_hasPlayed a_feltNow a_last a_kept m_hasSeconds m_hasTurned m_hasRound a_hasFeels a_isOn m_firstAct m_meanTop m_meanBy a_order m_rowMany m_newSteps g_words x_20 hr_x_20) lk_RX12_196 ⟨rfl, rfl⟩ ⟨Nat.le_of_ble_eq_true rfl, Nat.le_of_ble_eq_true rfl⟩ 12 rfl rfl rfl [2, 1] [0] rfl rfl (by decide) rfl hl.1 rfl (lv_room (Nat.le_of_ble_eq_true rfl)) dX12_readOld_38 ⟨Nat.le_of_ble_eq_true rfl, Nat.le_of_ble_eq_true rfl⟩ (fun r_21 u_22 H locs hw hP hD hS => ?_)
      obtain ⟨hr_r_21, hf_23⟩ := hw
      refine lv_goto (tgt := 45) hx hb dX12_readOld_41 (by decide) ?_
      refine lv_istore_n (lv' := [(3, .int r_21), (0, .ref h0), (1, .int 2), (2, .int 13)]) hx hb dX12_readOld_45 rfl hl (by decide) rfl (fun ls hl => ?_)
      refine lv_aload_n hx hb dX12_readOld_46 rfl (lv_at hl 1 rfl) ?_
      refine va_get (D := G) (ci := 12) (v := .int m_bad) (C := RX12) (T := TX12) (N := 65) hx hb hts inT12 hown hK hP 1 rfl rfl 12 (by decide) (hts _ tw_1897) (fun _ h9 => h9) rfl dX12_readOld_47 ?_
      refine lv_if_ne (tgt := 66) hx hb dX12_readOld_50 (by decide) (fun h9 => (z_no (by have h8 := z_fneT h9; omega))) (fun c_24 => ?_)
      have b_25 := z_feqF c_24
      refine lv_iload_n hx hb dX12_readOld_53 rfl (lv_at hl 0 rfl) ?_
      refine lv_if_ge (tgt := 66) hx hb dX12_readOld_54 (by decide) (fun c_26 => ?_) (fun c_26 => ?_)
      · have b_27 := z_fgeT c_26
        refine lv_iload_n hx hb dX12_readOld_66 rfl (lv_at hl 0 rfl) ?_
        have hpost : ((-1) ≤ r_21.toInt ∧ r_21.toInt ≤ 2) ∧ (0 ≤ m_bad.toInt ∧ m_bad.toInt ≤ 9) ∧ (m_behind.toInt ≤ m_behind.toInt) ∧ (0 < m_bad.toInt → 0 < m_bad.toInt) ∧ (m_bad.toInt ≤ 0 → 0 ≤ r_21.toInt ∧ r_21.toInt < (g_c 1462).toInt) := ⟨hr_r_21, hr_m_bad, (by omega), (by omega), (by omega)⟩
        exact hret _ _ _ _ _ _ (m_bad, m_badAt) [1, 0, 2] hP hD hS rfl (by decide) dX12_readOld_67 hpost
      · have b_28 := z_fltF c_26
        refine lv_aload_n hx hb dX12_readOld_57 rfl (lv_at hl 1 rfl) ?_
        refine lv_iconst (v := 3) hx hb dX12_readOld_58 (by decide) ?_
        refine lv_aload_n hx hb dX12_readOld_59 rfl (lv_at hl 1 rfl) ?_
        refine va_get (D := G) (ci := 12) (v := .int m_at) (C := RX12) (T := TX12) (N := 65) hx hb hts inT12 hown hK hP 1 rfl rfl 15 (by decide) (hts _ tw_1900) (fun _ h9 => h9) rfl dX12_readOld_60 ?_
        refine z_callVv (As := [.int 3, .int m_at]) (rest := []) (wr := [(a_c, .inl (cA.1 0, 1825, .inl g_c)), (a_words, .inl (cA.1 1, 105, .inr (.inl g_words)))]) ⟨hx, hb, hml, hown, hts⟩ hK hE hT hP hD hS hA (r_fail l G cA h0 m_status m_thrown m_above m_under a_traySort a_trayMany a_numbers a_tape m_taped m_textEnd m_faultKind m_faultAt m_bad m_badAt m_token m_at m_behind m_number m_letters m_word a_c a_words m_markMany a_there a_tried a_best a_found m_thereMany m_foundMany m_orderHow m_orderRing m_orderMany m_hasBest m_bestTop m_bestBy a_weights a_shared m_random m_truePlace m_trueWay m_seconds m_done m_feelings m_tries m_leftOver m_playDoor m_playRing m_isOpen m_isOver m_wasTried m_hasPlayed a_feltNow a_last a_kept m_hasSeconds m_hasTurned m_hasRound a_hasFeels a_isOn m_firstAct m_meanTop m_meanBy a_order m_rowMany m_newSteps 3 m_at (by decide +kernel) hr_m_bad) lk_RX12_180 ⟨rfl, rfl⟩ ⟨Nat.le_of_ble_eq_true rfl, Nat.le_of_ble_eq_true rfl⟩ 12 rfl rfl rfl [1] [0, 2] rfl rfl (by decide) rfl hl.1 rfl (lv_room (Nat.le_of_ble_eq_true rfl)) dX12_readOld_63 ⟨Nat.le_of_ble_eq_true rfl, Nat.le_of_ble_eq_true rfl⟩ (fun u_32 H locs hw hP hD hS => ?_)
        obtain ⟨n_29, n_30⟩ := u_32
        try dsimp only at hw
        obtain ⟨hr_n_29, hf_33⟩ := hw
        refine lv_iload_n hx hb dX12_readOld_66 rfl (lv_at hl 0 rfl) ?_
        have hpost : ((-1) ≤ r_21.toInt ∧ r_21.toInt ≤ 2) ∧ (0 ≤ n_29.toInt ∧ n_29.toInt ≤ 9) ∧ (m_behind.toInt ≤ m_behind.toInt) ∧ (0 < m_bad.toInt → 0 < n_29.toInt) ∧ (n_29.toInt ≤ 0 → 0 ≤ r_21.toInt ∧ r_21.toInt < (g_c 1462).toInt) := ⟨hr_r_21, (z_rgw hr_n_29 (by decide) (by decide)), (by omega), (by omega), (by omega)⟩
        exact hret _ _ _ _ _ _ (n_29, n_30) [2, 0, 1] hP hD hS rfl (by decide) dX12_readOld_67 hpost
set_option maxHeartbeats 4000000 in
set_option maxRecDepth 100000 in
theorem r_readNew_3 (l : Launch) (G : va_G) (cA : zCA) (h0 : Nat) (m_status : Int32) (m_thrown : Int32) (m_above : Int64) (m_under : Int64) (a_traySort : Nat) (a_trayMany : Nat) (a_numbers : Nat) (a_tape : Nat) (m_taped : Int32) (m_textEnd : Int32) (m_faultKind : Int32) (m_faultAt : Int32) (m_bad : Int32) (m_badAt : Int32) (m_token : Int32) (m_at : Int32) (m_behind : Int32) (m_number : Int32) (m_letters : Int32) (m_word : Int64) (a_c : Nat) (a_words : Nat) (m_markMany : Int32) (a_there : Nat) (a_tried : Nat) (a_best : Nat) (a_found : Nat) (m_thereMany : Int32) (m_foundMany : Int32) (m_orderHow : Int32) (m_orderRing : Int32) (m_orderMany : Int32) (m_hasBest : Int32) (m_bestTop : Int64) (m_bestBy : Int64) (a_weights : Nat) (a_shared : Nat) (m_random : Int32) (m_truePlace : Int32) (m_trueWay : Int32) (m_seconds : Int32) (m_done : Int32) (m_feelings : Int32) (m_tries : Int32) (m_leftOver : Int32) (m_playDoor : Int32) (m_playRing : Int32) (m_isOpen : Int32) (m_isOver : Int32) (m_wasTried : Int32) (m_hasPlayed : Int32) (a_feltNow : Nat) (a_last : Nat) (a_kept : Nat) (m_hasSeconds : Int32) (m_hasTurned : Int32) (m_hasRound : Int32) (a_hasFeels : Nat) (a_isOn : Nat) (m_firstAct : Int32) (m_meanTop : Int64) (m_meanBy : Int64) (a_order : Nat) (m_rowMany : Int32) (m_newSteps : Int32) (g_tape : Nat → Int32) (g_c : Nat → Int32) (g_words : Nat → Int64) (hr_m_textEnd : 0 ≤ m_textEnd.toInt ∧ m_textEnd.toInt ≤ 900) (hr_m_at : 0 ≤ m_at.toInt ∧ m_at.toInt ≤ 900) (hr_m_behind : 0 ≤ m_behind.toInt ∧ m_behind.toInt ≤ 900) (hr_m_bad : 0 ≤ m_bad.toInt ∧ m_bad.toInt ≤ 9) (hr_m_token : 0 ≤ m_token.toInt ∧ m_token.toInt ≤ 4) (hr_m_number : 0 ≤ m_number.toInt ∧ m_number.toInt ≤ 9999) (hr_m_letters : 0 ≤ m_letters.toInt ∧ m_letters.toInt ≤ 900) (hC_g_c : zC g_c) : zCi l yX12_readNew cX12_readNew 5 (some .int) ({ frames := 3, cells := 0, slots := 0, locals := 67 }) G cA [.ref h0, .int 3, .int 5, .int 16] [(h0, .inr (12, [.int m_status, .int m_thrown, .long m_above, .long m_under, .ref a_traySort, .ref a_trayMany, .ref a_numbers, .ref a_tape, .int m_taped, .int m_textEnd, .int m_faultKind, .int m_faultAt, .int m_bad, .int m_badAt, .int m_token, .int m_at, .int m_behind, .int m_number, .int m_letters, .long m_word, .ref a_c, .ref a_words, .int m_markMany, .ref a_there, .ref a_tried, .ref a_best, .ref a_found, .int m_thereMany, .int m_foundMany, .int m_orderHow, .int m_orderRing, .int m_orderMany, .int m_hasBest, .long m_bestTop, .long m_bestBy, .ref a_weights, .ref a_shared, .int m_random, .int m_truePlace, .int m_trueWay, .int m_seconds, .int m_done, .int m_feelings, .int m_tries, .int m_leftOver, .int m_playDoor, .int m_playRing, .int m_isOpen, .int m_isOver, .int m_wasTried, .int m_hasPlayed, .ref a_feltNow, .ref a_last, .ref a_kept, .int m_hasSeconds, .int m_hasTurned, .int m_hasRound, .ref a_hasFeels, .ref a_isOn, .int m_firstAct, .long m_meanTop, .long m_meanBy, .ref a_order, .int m_rowMany, .int m_newSteps])), (a_tape, .inl (cA.1 2, 900, .inl g_tape)), (a_c, .inl (cA.1 0, 1825, .inl g_c)), (a_words, .inl (cA.1 1, 105, .inr (.inl g_words)))] (S := Int32 × Int32 × Int32 × Int32 × Int32 × Int32 × Int32 × Int64 × (Nat → Int64)) (fun (r : Int32) (u : Int32 × Int32 × Int32 × Int32 × Int32 × Int32 × Int32 × Int64 × (Nat → Int64)) => (0 ≤ r.toInt ∧ r.toInt ≤ 4) ∧ (0 ≤ u.1.toInt ∧ u.1.toInt ≤ 9) ∧ (0 ≤ u.2.2.1.toInt ∧ u.2.2.1.toInt ≤ 4) ∧ (0 ≤ u.2.2.2.1.toInt ∧ u.2.2.2.1.toInt ≤ 900) ∧ (0 ≤ u.2.2.2.2.1.toInt ∧ u.2.2.2.2.1.toInt ≤ 900) ∧ (0 ≤ u.2.2.2.2.2.1.toInt ∧ u.2.2.2.2.2.1.toInt ≤ 9999) ∧ (0 ≤ u.2.2.2.2.2.2.1.toInt ∧ u.2.2.2.2.2.2.1.toInt ≤ 900) ∧ (m_behind.toInt ≤ u.2.2.2.2.1.toInt) ∧ (0 < m_bad.toInt → 0 < u.1.toInt) ∧ (u.1.toInt ≤ 0 → u.2.2.1.toInt = 0 ∨ m_behind.toInt < u.2.2.2.2.1.toInt) ∧ (u.1.toInt ≤ 0 → r.toInt = (g_c 1463).toInt) ∧ (r.toInt < 5)) (fun (u : Int32 × Int32 × Int32 × Int32 × Int32 × Int32 × Int32 × Int64 × (Nat → Int64)) => [(h0, .inr (12, [.int m_status, .int m_thrown, .long m_above, .long m_under, .ref a_traySort, .ref a_trayMany, .ref a_numbers, .ref a_tape, .int m_taped, .int m_textEnd, .int m_faultKind, .int m_faultAt, .int u.1, .int u.2.1, .int u.2.2.1, .int u.2.2.2.1, .int u.2.2.2.2.1, .int u.2.2.2.2.2.1, .int u.2.2.2.2.2.2.1, .long u.2.2.2.2.2.2.2.1, .ref a_c, .ref a_words, .int m_markMany, .ref a_there, .ref a_tried, .ref a_best, .ref a_found, .int m_thereMany, .int m_foundMany, .int m_orderHow, .int m_orderRing, .int m_orderMany, .int m_hasBest, .long m_bestTop, .long m_bestBy, .ref a_weights, .ref a_shared, .int m_random, .int m_truePlace, .int m_trueWay, .int m_seconds, .int m_done, .int m_feelings, .int m_tries, .int m_leftOver, .int m_playDoor, .int m_playRing, .int m_isOpen, .int m_isOver, .int m_wasTried, .int m_hasPlayed, .ref a_feltNow, .ref a_last, .ref a_kept, .int m_hasSeconds, .int m_hasTurned, .int m_hasRound, .ref a_hasFeels, .ref a_isOn, .int m_firstAct, .long m_meanTop, .long m_meanBy, .ref a_order, .int m_rowMany, .int m_newSteps])), (a_tape, .inl (cA.1 2, 900, .inl g_tape)), (a_c, .inl (cA.1 0, 1825, .inl g_c)), (a_words, .inl (cA.1 1, 105, .inr (.inl u.2.2.2.2.2.2.2.2)))]) 0 0 := by
  have hk_0 : (0 : Int32).toInt = 0 := by decide +kernel
  have hk_3 : (3 : Int32).toInt = 3 := by decide +kernel
  have hk_5 : (5 : Int32).toInt = 5 := by decide +kernel
  have hk_6 : (6 : Int32).toInt = 6 := by decide +kernel
  have hk_100 : (100 : Int32).toInt = 100 := by decide +kernel
  refine z_start2i (own := RX12) (by decide) (Nat.le_of_ble_eq_true rfl) rfl ?_
  intro p e s m args below meth c A ls Q hx hb hml hts hown hK hE hT hP hD hS hA hl hret
  have hl : lv_has ls 5 [(0, .ref h0), (1, .int 3), (2, .int 5), (3, .int 16)] := hl
  refine lv_aload_n hx hb dX12_readNew_0 rfl (lv_at hl 0 rfl) ?_
  refine va_get (D := G) (ci := 12) (v := .ref a_c) (C := RX12) (T := TX12) (N := 65) hx hb hts inT12 hown hK hP 0 rfl rfl 20 (by decide) (hts _ tw_1905) (fun _ h9 => h9) rfl dX12_readNew_1 ?_
  refine lv_sipush (v := 1460) hx hb dX12_readNew_4 (by decide) ?_
  refine lv_iload_n hx hb dX12_readNew_7 rfl (lv_at hl 1 rfl) ?_
  refine lv_iadd hx hb dX12_readNew_8 ?_
  refine z_topi (y := 1463) (by decide +kernel) ?_
  refine va_iald hx hb hK hP 2 0 rfl rfl (z_in (i := 1463) (n := 1825) (by decide +kernel) (by decide +kernel)) dX12_readNew_9 ?_
  refine lv_topi (fun x_1 he_x_1 => ?_)
  have hr_x_1 := z_ctk hC_g_c he_x_1 (k := 1463) (lo := 0) (hi := 5) (by decide +kernel) (by decide +kernel) (by decide +kernel)
  have hv_x_1 := z_cv he_x_1 (k := 1463) (by decide +kernel)
  refine lv_istore (lv' := [(4, .int x_1), (0, .ref h0), (1, .int 3), (2, .int 5), (3, .int 16)]) hx hb dX12_readNew_10 hl (by decide) rfl (fun ls hl => ?_)
  refine lv_aload_n hx hb dX12_readNew_12 rfl (lv_at hl 1 rfl) ?_
  refine va_get (D := G) (ci := 12) (v := .int m_bad) (C := RX12) (T := TX12) (N := 65) hx hb hts inT12 hown hK hP 0 rfl rfl 12 (by decide) (hts _ tw_1897) (fun _ h9 => h9) rfl dX12_readNew_13 ?_
  refine lv_if_ne (tgt := 35) hx hb dX12_readNew_16 (by decide) (fun c_2 => ?_) (fun c_2 => ?_)
  · have b_3 := z_fneT c_2
    refine lv_aload_n hx hb dX12_readNew_35 rfl (lv_at hl 1 rfl) ?_
    refine va_get (D := G) (ci := 12) (v := .int m_bad) (C := RX12) (T := TX12) (N := 65) hx hb hts inT12 hown hK hP 0 rfl rfl 12 (by decide) (hts _ tw_1897) (fun _ h9 => h9) rfl dX12_readNew_36 ?_
    refine lv_if_le (tgt := 44) hx hb dX12_readNew_39 (by decide) (fun h9 => (z_no (by have h8 := z_fleT h9; omega))) (fun c_4 => ?_)
    have b_5 := z_fgtF c_4
    refine lv_iconst (v := 0) hx hb dX12_readNew_42 (by decide) ?_
    have hpost : (0 ≤ (0 : Int32).toInt ∧ (0 : Int32).toInt ≤ 4) ∧ (0 ≤ m_bad.toInt ∧ m_bad.toInt ≤ 9) ∧ (0 ≤ m_token.toInt ∧ m_token.toInt ≤ 4) ∧ (0 ≤ m_at.toInt ∧ m_at.toInt ≤ 900) ∧ (0 ≤ m_behind.toInt ∧ m_behind.toInt ≤ 900) ∧ (0 ≤ m_number.toInt ∧ m_number.toInt ≤ 9999) ∧ (0 ≤ m_letters.toInt ∧ m_letters.toInt ≤ 900) ∧ (m_behind.toInt ≤ m_behind.toInt) ∧ (0 < m_bad.toInt → 0 < m_bad.toInt) ∧ (m_bad.toInt ≤ 0 → m_token.toInt = 0 ∨ m_behind.toInt < m_behind.toInt) ∧ (m_bad.toInt ≤ 0 → (0 : Int32).toInt = (g_c 1463).toInt) ∧ ((0 : Int32).toInt < 5) := ⟨(by decide +kernel), hr_m_bad, hr_m_token, hr_m_at, hr_m_behind, hr_m_number, hr_m_letters, (by omega), (by omega), (by omega), (by omega), (by omega)⟩
    exact hret _ _ _ _ _ _ (m_bad, m_badAt, m_token, m_at, m_behind, m_number, m_letters, m_word, g_words) [0, 1, 2, 3] hP hD hS rfl (by decide) dX12_readNew_43 hpost
  · have b_6 := z_feqF c_2
    refine lv_iload hx hb dX12_readNew_19 (lv_at hl 0 rfl) ?_
    refine lv_iload_n hx hb dX12_readNew_21 rfl (lv_at hl 3 rfl) ?_
    refine lv_icmp_ne (tgt := 35) hx hb dX12_readNew_22 (by decide) (fun c_7 => ?_) (fun c_7 => ?_)
    · have b_8 := z_fneT c_7
      refine lv_aload_n hx hb dX12_readNew_35 rfl (lv_at hl 1 rfl) ?_
      refine va_get (D := G) (ci := 12) (v := .int m_bad) (C := RX12) (T := TX12) (N := 65) hx hb hts inT12 hown hK hP 0 rfl rfl 12 (by decide) (hts _ tw_1897) (fun _ h9 => h9) rfl dX12_readNew_36 ?_
      refine lv_if_le (tgt := 44) hx hb dX12_readNew_39 (by decide) (fun c_9 => ?_) (fun h9 => (z_no (by have h8 := z_fgtF h9; omega)))
      have b_10 := z_fleT c_9
      refine lv_aload_n hx hb dX12_readNew_44 rfl (lv_at hl 1 rfl) ?_
      refine z_callVv (As := []) (rest := []) (wr := [(a_c, .inl (cA.1 0, 1825, .inl g_c)), (a_words, .inl (cA.1 1, 105, .inr (.inl g_words)))]) ⟨hx, hb, hml, hown, hts⟩ hK hE hT hP hD hS hA (r_next2 l G cA h0 m_status m_thrown m_above m_under a_traySort a_trayMany a_numbers a_tape m_taped m_textEnd m_faultKind m_faultAt m_bad m_badAt m_token m_at m_behind m_number m_letters m_word a_c a_words m_markMany a_there a_tried a_best a_found m_thereMany m_foundMany m_orderHow m_orderRing m_orderMany m_hasBest m_bestTop m_bestBy a_weights a_shared m_random m_truePlace m_trueWay m_seconds m_done m_feelings m_tries m_leftOver m_playDoor m_playRing m_isOpen m_isOver m_wasTried m_hasPlayed a_feltNow a_last a_kept m_hasSeconds m_hasTurned m_hasRound a_hasFeels a_isOn m_firstAct m_meanTop m_meanBy a_order m_rowMany m_newSteps g_tape hr_m_textEnd hr_m_at hr_m_behind hr_m_token hr_m_number hr_m_letters) lk_RX12_184 ⟨rfl, rfl⟩ ⟨Nat.le_of_ble_eq_true rfl, Nat.le_of_ble_eq_true rfl⟩ 12 rfl rfl rfl [0, 1] [2, 3] rfl rfl (by decide) rfl hl.1 rfl (lv_room (Nat.le_of_ble_eq_true rfl)) dX12_readNew_45 ⟨Nat.le_of_ble_eq_true rfl, Nat.le_of_ble_eq_true rfl⟩ (fun u_18 H locs hw hP hD hS => ?_)
      obtain ⟨n_11, n_12, n_13, n_14, n_15, n_16⟩ := u_18
      try dsimp only at hw
      obtain ⟨hr_n_11, hr_n_12, hr_n_13, hr_n_14, hr_n_15, hf_19, hf_20⟩ := hw
      refine lv_aload_n hx hb dX12_readNew_48 rfl (lv_at hl 1 rfl) ?_
      refine z_callVi (As := []) (rest := []) (wr := [(a_c, .inl (cA.1 0, 1825, .inl g_c)), (a_words, .inl (cA.1 1, 105, .inr (.inl g_words))), (a_tape, .inl (cA.1 2, 900, .inl g_tape))]) ⟨hx, hb, hml, hown, hts⟩ hK hE hT hP hD hS hA (r_isHouseName l G cA h0 m_status m_thrown m_above m_under a_traySort a_trayMany a_numbers a_tape m_taped m_textEnd m_faultKind m_faultAt m_bad m_badAt n_11 n_12 n_13 n_14 n_15 n_16 a_c a_words m_markMany a_there a_tried a_best a_found m_thereMany m_foundMany m_orderHow m_orderRing m_orderMany m_hasBest m_bestTop m_bestBy a_weights a_shared m_random m_truePlace m_trueWay m_seconds m_done m_feelings m_tries m_leftOver m_playDoor m_playRing m_isOpen m_isOver m_wasTried m_hasPlayed a_feltNow a_last a_kept m_hasSeconds m_hasTurned m_hasRound a_hasFeels a_isOn m_firstAct m_meanTop m_meanBy a_order m_rowMany m_newSteps hr_n_11 hr_n_15) lk_RX12_200 ⟨rfl, rfl⟩ ⟨Nat.le_of_ble_eq_true rfl, Nat.le_of_ble_eq_true rfl⟩ 12 rfl rfl rfl [2] [0, 1, 3] rfl rfl (by decide) rfl hl.1 rfl (lv_room (Nat.le_of_ble_eq_true rfl)) dX12_readNew_49 ⟨Nat.le_of_ble_eq_true rfl, Nat.le_of_ble_eq_true rfl⟩ (fun r_21 u_22 H locs hw hP hD hS => ?_)
      rcases hw with ⟨rfl, -⟩ | ⟨rfl, -⟩
      · skip
        refine lv_if_ne (tgt := 59) hx hb dX12_readNew_52 (by decide) (fun h9 => absurd (by decide +kernel) h9) (fun _ => ?_)
        refine lv_aload_n hx hb dX12_readNew_55 rfl (lv_at hl 1 rfl) ?_
        refine z_callVv (As := []) (rest := []) (wr := [(a_c, .inl (cA.1 0, 1825, .inl g_c)), (a_words, .inl (cA.1 1, 105, .inr (.inl g_words))), (a_tape, .inl (cA.1 2, 900, .inl g_tape))]) ⟨hx, hb, hml, hown, hts⟩ hK hE hT hP hD hS hA (r_wrong l G cA h0 m_status m_thrown m_above m_under a_traySort a_trayMany a_numbers a_tape m_taped m_textEnd m_faultKind m_faultAt m_bad m_badAt n_11 n_12 n_13 n_14 n_15 n_16 a_c a_words m_markMany a_there a_tried a_best a_found m_thereMany m_foundMany m_orderHow m_orderRing m_orderMany m_hasBest m_bestTop m_bestBy a_weights a_shared m_random m_truePlace m_trueWay m_seconds m_done m_feelings m_tries m_leftOver m_playDoor m_playRing m_isOpen m_isOver m_wasTried m_hasPlayed a_feltNow a_last a_kept m_hasSeconds m_hasTurned m_hasRound a_hasFeels a_isOn m_firstAct m_meanTop m_meanBy a_order m_rowMany m_newSteps hr_n_12 hr_m_bad hr_n_11) lk_RX12_187 ⟨rfl, rfl⟩ ⟨Nat.le_of_ble_eq_true rfl, Nat.le_of_ble_eq_true rfl⟩ 12 rfl rfl rfl [3] [0, 1, 2] rfl rfl (by decide) rfl hl.1 rfl (lv_room (Nat.le_of_ble_eq_true rfl)) dX12_readNew_56 ⟨Nat.le_of_ble_eq_true rfl, Nat.le_of_ble_eq_true rfl⟩ (fun u_26 H locs hw hP hD hS => ?_)
        obtain ⟨n_23, n_24⟩ := u_26
        try dsimp only at hw
        have hr_n_23 := hw
        refine lv_aload_n hx hb dX12_readNew_59 rfl (lv_at hl 1 rfl) ?_
        refine va_get (D := G) (ci := 12) (v := .int n_23) (C := RX12) (T := TX12) (N := 65) hx hb hts inT12 hown hK hP 3 rfl rfl 12 (by decide) (hts _ tw_1897) (fun _ h9 => h9) rfl dX12_readNew_60 ?_
        refine lv_if_ne (tgt := 82) hx hb dX12_readNew_63 (by decide) (fun c_27 => ?_) (fun h9 => (z_no (by have h8 := z_feqF h9; omega)))
        have b_28 := z_fneT c_27
        refine lv_aload_n hx hb dX12_readNew_82 rfl (lv_at hl 1 rfl) ?_
        refine va_get (D := G) (ci := 12) (v := .int n_23) (C := RX12) (T := TX12) (N := 65) hx hb hts inT12 hown hK hP 3 rfl rfl 12 (by decide) (hts _ tw_1897) (fun _ h9 => h9) rfl dX12_readNew_83 ?_
        refine lv_if_le (tgt := 91) hx hb dX12_readNew_86 (by decide) (fun h9 => (z_no (by have h8 := z_fleT h9; omega))) (fun c_29 => ?_)
        have b_30 := z_fgtF c_29
        refine lv_iconst (v := 0) hx hb dX12_readNew_89 (by decide) ?_
        have hpost : (0 ≤ (0 : Int32).toInt ∧ (0 : Int32).toInt ≤ 4) ∧ (0 ≤ n_23.toInt ∧ n_23.toInt ≤ 9) ∧ (0 ≤ n_11.toInt ∧ n_11.toInt ≤ 4) ∧ (0 ≤ n_12.toInt ∧ n_12.toInt ≤ 900) ∧ (0 ≤ n_13.toInt ∧ n_13.toInt ≤ 900) ∧ (0 ≤ n_14.toInt ∧ n_14.toInt ≤ 9999) ∧ (0 ≤ n_15.toInt ∧ n_15.toInt ≤ 900) ∧ (m_behind.toInt ≤ n_13.toInt) ∧ (0 < m_bad.toInt → 0 < n_23.toInt) ∧ (n_23.toInt ≤ 0 → n_11.toInt = 0 ∨ m_behind.toInt < n_13.toInt) ∧ (n_23.toInt ≤ 0 → (0 : Int32).toInt = (g_c 1463).toInt) ∧ ((0 : Int32).toInt < 5) := ⟨(by decide +kernel), (z_rgw hr_n_23 (by decide) (by decide)), hr_n_11, hr_n_12, hr_n_13, hr_n_14, hr_n_15, (by omega), (by omega), (by omega), (by omega), (by omega)⟩
        exact hret _ _ _ _ _ _ (n_23, n_24, n_11, n_12, n_13, n_14, n_15, n_16, g_words) [3, 2, 0, 1] hP hD hS rfl (by decide) dX12_readNew_90 hpost
      · skip
        refine lv_if_ne (tgt := 59) hx hb dX12_readNew_52 (by decide) (fun _ => ?_) (fun h9 => absurd h9 (by decide +kernel))
        refine lv_aload_n hx hb dX12_readNew_59 rfl (lv_at hl 1 rfl) ?_
        refine va_get (D := G) (ci := 12) (v := .int m_bad) (C := RX12) (T := TX12) (N := 65) hx hb hts inT12 hown hK hP 3 rfl rfl 12 (by decide) (hts _ tw_1897) (fun _ h9 => h9) rfl dX12_readNew_60 ?_
        refine lv_if_ne (tgt := 82) hx hb dX12_readNew_63 (by decide) (fun h9 => (z_no (by have h8 := z_fneT h9; omega))) (fun c_31 => ?_)
        have b_32 := z_feqF c_31
        refine lv_aload_n hx hb dX12_readNew_66 rfl (lv_at hl 1 rfl) ?_
        refine z_callVi (As := []) (rest := []) (wr := [(a_tape, .inl (cA.1 2, 900, .inl g_tape))]) ⟨hx, hb, hml, hown, hts⟩ hK hE hT hP hD hS hA (r_isTaken l G cA h0 m_status m_thrown m_above m_under a_traySort a_trayMany a_numbers a_tape m_taped m_textEnd m_faultKind m_faultAt m_bad m_badAt n_11 n_12 n_13 n_14 n_15 n_16 a_c a_words m_markMany a_there a_tried a_best a_found m_thereMany m_foundMany m_orderHow m_orderRing m_orderMany m_hasBest m_bestTop m_bestBy a_weights a_shared m_random m_truePlace m_trueWay m_seconds m_done m_feelings m_tries m_leftOver m_playDoor m_playRing m_isOpen m_isOver m_wasTried m_hasPlayed a_feltNow a_last a_kept m_hasSeconds m_hasTurned m_hasRound a_hasFeels a_isOn m_firstAct m_meanTop m_meanBy a_order m_rowMany m_newSteps g_c g_words hC_g_c) lk_RX12_204 ⟨rfl, rfl⟩ ⟨Nat.le_of_ble_eq_true rfl, Nat.le_of_ble_eq_true rfl⟩ 12 rfl rfl rfl [3, 0, 1] [2] rfl rfl (by decide) rfl hl.1 rfl (lv_room (Nat.le_of_ble_eq_true rfl)) dX12_readNew_67 ⟨Nat.le_of_ble_eq_true rfl, Nat.le_of_ble_eq_true rfl⟩ (fun r_33 u_34 H locs hw hP hD hS => ?_)
        rcases hw with ⟨rfl, -⟩ | ⟨rfl, -⟩
        · skip
          refine lv_if_eq (tgt := 82) hx hb dX12_readNew_70 (by decide) (fun _ => ?_) (fun h9 => absurd (by decide +kernel) h9)
          refine lv_aload_n hx hb dX12_readNew_82 rfl (lv_at hl 1 rfl) ?_
          refine va_get (D := G) (ci := 12) (v := .int m_bad) (C := RX12) (T := TX12) (N := 65) hx hb hts inT12 hown hK hP 1 rfl rfl 12 (by decide) (hts _ tw_1897) (fun _ h9 => h9) rfl dX12_readNew_83 ?_
          refine lv_if_le (tgt := 91) hx hb dX12_readNew_86 (by decide) (fun c_35 => ?_) (fun h9 => (z_no (by have h8 := z_fgtF h9; omega)))
          have b_36 := z_fleT c_35
          refine lv_aload_n hx hb dX12_readNew_91 rfl (lv_at hl 1 rfl) ?_
          refine va_get (D := G) (ci := 12) (v := .ref a_words) (C := RX12) (T := TX12) (N := 65) hx hb hts inT12 hown hK hP 1 rfl rfl 21 (by decide) (hts _ tw_1906) (fun _ h9 => h9) rfl dX12_readNew_92 ?_
          refine lv_bipush (v := 84) hx hb dX12_readNew_95 (by decide) ?_
          refine lv_iload_n hx hb dX12_readNew_97 rfl (lv_at hl 4 rfl) ?_
          refine lv_iadd hx hb dX12_readNew_98 ?_
          refine z_topi (y := 100) (by decide +kernel) ?_
          refine lv_iload hx hb dX12_readNew_99 (lv_at hl 0 rfl) ?_
          refine lv_iadd hx hb dX12_readNew_101 ?_
          refine lv_topi (fun x_37 he_x_37 => ?_)
          have hq_x_37 := z_addq he_x_37 hk_100 (rfl : x_1.toInt = _) (by omega) (by omega)
          refine lv_aload_n hx hb dX12_readNew_102 rfl (lv_at hl 1 rfl) ?_
          refine va_get (D := G) (ci := 12) (v := .long n_16) (C := RX12) (T := TX12) (N := 65) hx hb hts inT12 hown hK hP 1 rfl rfl 19 (by decide) (hts _ tw_1904) (fun _ h9 => h9) rfl dX12_readNew_103 ?_
          refine z_last hx hb hK hP hD hS 3 1 rfl rfl (z_inN (by omega) (by omega)) dX12_readNew_106 (fun g_38 hg_g_38 H locs hP hD hS => ?_)
          refine lv_aload_n hx hb dX12_readNew_107 rfl (lv_at hl 1 rfl) ?_
          refine z_callVv (As := []) (rest := []) (wr := [(a_c, .inl (cA.1 0, 1825, .inl g_c)), (a_words, .inl (cA.1 1, 105, .inr (.inl g_38)))]) ⟨hx, hb, hml, hown, hts⟩ hK hE hT hP hD hS hA (r_next2 l G cA h0 m_status m_thrown m_above m_under a_traySort a_trayMany a_numbers a_tape m_taped m_textEnd m_faultKind m_faultAt m_bad m_badAt n_11 n_12 n_13 n_14 n_15 n_16 a_c a_words m_markMany a_there a_tried a_best a_found m_thereMany m_foundMany m_orderHow m_orderRing m_orderMany m_hasBest m_bestTop m_bestBy a_weights a_shared m_random m_truePlace m_trueWay m_seconds m_done m_feelings m_tries m_leftOver m_playDoor m_playRing m_isOpen m_isOver m_wasTried m_hasPlayed a_feltNow a_last a_kept m_hasSeconds m_hasTurned m_hasRound a_hasFeels a_isOn m_firstAct m_meanTop m_meanBy a_order m_rowMany m_newSteps g_tape hr_m_textEnd hr_n_12 hr_n_13 hr_n_11 hr_n_14 hr_n_15) lk_RX12_184 ⟨rfl, rfl⟩ ⟨Nat.le_of_ble_eq_true rfl, Nat.le_of_ble_eq_true rfl⟩ 12 rfl rfl rfl [1, 0] [2, 3] rfl rfl (by decide) rfl hl.1 rfl (lv_room (Nat.le_of_ble_eq_true rfl)) dX12_readNew_108 ⟨Nat.le_of_ble_eq_true rfl, Nat.le_of_ble_eq_true rfl⟩ (fun u_46 H locs hw hP hD hS => ?_)
          obtain ⟨n_39, n_40, n_41, n_42, n_43, n_44⟩ := u_46
          try dsimp only at hw
          obtain ⟨hr_n_39, hr_n_40, hr_n_41, hr_n_42, hr_n_43, hf_47, hf_48⟩ := hw
          refine lv_iload hx hb dX12_readNew_111 (lv_at hl 0 rfl) ?_
          have hpost : (0 ≤ x_1.toInt ∧ x_1.toInt ≤ 4) ∧ (0 ≤ m_bad.toInt ∧ m_bad.toInt ≤ 9) ∧ (0 ≤ n_39.toInt ∧ n_39.toInt ≤ 4) ∧ (0 ≤ n_40.toInt ∧ n_40.toInt ≤ 900) ∧ (0 ≤ n_41.toInt ∧ n_41.toInt ≤ 900) ∧ (0 ≤ n_42.toInt ∧ n_42.toInt ≤ 9999) ∧ (0 ≤ n_43.toInt ∧ n_43.toInt ≤ 900) ∧ (m_behind.toInt ≤ n_41.toInt) ∧ (0 < m_bad.toInt → 0 < m_bad.toInt) ∧ (m_bad.toInt ≤ 0 → n_39.toInt = 0 ∨ m_behind.toInt < n_41.toInt) ∧ (m_bad.toInt ≤ 0 → x_1.toInt = (g_c 1463).toInt) ∧ (x_1.toInt < 5) := ⟨(by omega), hr_m_bad, hr_n_39, hr_n_40, hr_n_41, hr_n_42, hr_n_43, (by omega), (by omega), (by omega), (by omega), (by omega)⟩
          exact hret _ _ _ _ _ _ (m_bad, m_badAt, n_39, n_40, n_41, n_42, n_43, n_44, g_38) [2, 3, 0, 1] hP hD hS rfl (by decide) dX12_readNew_113 hpost
        · skip
          refine lv_if_eq (tgt := 82) hx hb dX12_readNew_70 (by decide) (fun h9 => absurd h9 (by decide +kernel)) (fun _ => ?_)
          refine lv_aload_n hx hb dX12_readNew_73 rfl (lv_at hl 1 rfl) ?_
          refine lv_iconst (v := 3) hx hb dX12_readNew_74 (by decide) ?_
          refine lv_aload_n hx hb dX12_readNew_75 rfl (lv_at hl 1 rfl) ?_
          refine va_get (D := G) (ci := 12) (v := .int n_12) (C := RX12) (T := TX12) (N := 65) hx hb hts inT12 hown hK hP 1 rfl rfl 15 (by decide) (hts _ tw_1900) (fun _ h9 => h9) rfl dX12_readNew_76 ?_
          refine z_callVv (As := [.int 3, .int n_12]) (rest := []) (wr := [(a_tape, .inl (cA.1 2, 900, .inl g_tape)), (a_c, .inl (cA.1 0, 1825, .inl g_c)), (a_words, .inl (cA.1 1, 105, .inr (.inl g_words)))]) ⟨hx, hb, hml, hown, hts⟩ hK hE hT hP hD hS hA (r_fail l G cA h0 m_status m_thrown m_above m_under a_traySort a_trayMany a_numbers a_tape m_taped m_textEnd m_faultKind m_faultAt m_bad m_badAt n_11 n_12 n_13 n_14 n_15 n_16 a_c a_words m_markMany a_there a_tried a_best a_found m_thereMany m_foundMany m_orderHow m_orderRing m_orderMany m_hasBest m_bestTop m_bestBy a_weights a_shared m_random m_truePlace m_trueWay m_seconds m_done m_feelings m_tries m_leftOver m_playDoor m_playRing m_isOpen m_isOver m_wasTried m_hasPlayed a_feltNow a_last a_kept m_hasSeconds m_hasTurned m_hasRound a_hasFeels a_isOn m_firstAct m_meanTop m_meanBy a_order m_rowMany m_newSteps 3 n_12 (by decide +kernel) hr_m_bad) lk_RX12_180 ⟨rfl, rfl⟩ ⟨Nat.le_of_ble_eq_true rfl, Nat.le_of_ble_eq_true rfl⟩ 12 rfl rfl rfl [1] [0, 2, 3] rfl rfl (by decide) rfl hl.1 rfl (lv_room (Nat.le_of_ble_eq_true rfl)) dX12_readNew_79 ⟨Nat.le_of_ble_eq_true rfl, Nat.le_of_ble_eq_true rfl⟩ (fun u_52 H locs hw hP hD hS => ?_)
          obtain ⟨n_49, n_50⟩ := u_52
          try dsimp only at hw
          obtain ⟨hr_n_49, hf_53⟩ := hw
          refine lv_aload_n hx hb dX12_readNew_82 rfl (lv_at hl 1 rfl) ?_
          refine va_get (D := G) (ci := 12) (v := .int n_49) (C := RX12) (T := TX12) (N := 65) hx hb hts inT12 hown hK hP 3 rfl rfl 12 (by decide) (hts _ tw_1897) (fun _ h9 => h9) rfl dX12_readNew_83 ?_
          refine lv_if_le (tgt := 91) hx hb dX12_readNew_86 (by decide) (fun h9 => (z_no (by have h8 := z_fleT h9; omega))) (fun c_54 => ?_)
          have b_55 := z_fgtF c_54
          refine lv_iconst (v := 0) hx hb dX12_readNew_89 (by decide) ?_
          have hpost : (0 ≤ (0 : Int32).toInt ∧ (0 : Int32).toInt ≤ 4) ∧ (0 ≤ n_49.toInt ∧ n_49.toInt ≤ 9) ∧ (0 ≤ n_11.toInt ∧ n_11.toInt ≤ 4) ∧ (0 ≤ n_12.toInt ∧ n_12.toInt ≤ 900) ∧ (0 ≤ n_13.toInt ∧ n_13.toInt ≤ 900) ∧ (0 ≤ n_14.toInt ∧ n_14.toInt ≤ 9999) ∧ (0 ≤ n_15.toInt ∧ n_15.toInt ≤ 900) ∧ (m_behind.toInt ≤ n_13.toInt) ∧ (0 < m_bad.toInt → 0 < n_49.toInt) ∧ (n_49.toInt ≤ 0 → n_11.toInt = 0 ∨ m_behind.toInt < n_13.toInt) ∧ (n_49.toInt ≤ 0 → (0 : Int32).toInt = (g_c 1463).toInt) ∧ ((0 : Int32).toInt < 5) := ⟨(by decide +kernel), (z_rgw hr_n_49 (by decide) (by decide)), hr_n_11, hr_n_12, hr_n_13, hr_n_14, hr_n_15, (by omega), (by omega), (by omega), (by omega), (by omega)⟩
          exact hret _ _ _ _ _ _ (n_49, n_50, n_11, n_12, n_13, n_14, n_15, n_16, g_words) [3, 0, 1, 2] hP hD hS rfl (by decide) dX12_readNew_90 hpost
    · have b_56 := z_feqF c_7
      refine lv_aload_n hx hb dX12_readNew_25 rfl (lv_at hl 1 rfl) ?_
      refine lv_bipush (v := 6) hx hb dX12_readNew_26 (by decide) ?_
      refine lv_aload_n hx hb dX12_readNew_28 rfl (lv_at hl 1 rfl) ?_
      refine va_get (D := G) (ci := 12) (v := .int m_at) (C := RX12) (T := TX12) (N := 65) hx hb hts inT12 hown hK hP 0 rfl rfl 15 (by decide) (hts _ tw_1900) (fun _ h9 => h9) rfl dX12_readNew_29 ?_
      refine z_callVv (As := [.int 6, .int m_at]) (rest := []) (wr := [(a_tape, .inl (cA.1 2, 900, .inl g_tape)), (a_c, .inl (cA.1 0, 1825, .inl g_c)), (a_words, .inl (cA.1 1, 105, .inr (.inl g_words)))]) ⟨hx, hb, hml, hown, hts⟩ hK hE hT hP hD hS hA (r_fail l G cA h0 m_status m_thrown m_above m_under a_traySort a_trayMany a_numbers a_tape m_taped m_textEnd m_faultKind m_faultAt m_bad m_badAt m_token m_at m_behind m_number m_letters m_word a_c a_words m_markMany a_there a_tried a_best a_found m_thereMany m_foundMany m_orderHow m_orderRing m_orderMany m_hasBest m_bestTop m_bestBy a_weights a_shared m_random m_truePlace m_trueWay m_seconds m_done m_feelings m_tries m_leftOver m_playDoor m_playRing m_isOpen m_isOver m_wasTried m_hasPlayed a_feltNow a_last a_kept m_hasSeconds m_hasTurned m_hasRound a_hasFeels a_isOn m_firstAct m_meanTop m_meanBy a_order m_rowMany m_newSteps 6 m_at (by decide +kernel) hr_m_bad) lk_RX12_180 ⟨rfl, rfl⟩ ⟨Nat.le_of_ble_eq_true rfl, Nat.le_of_ble_eq_true rfl⟩ 12 rfl rfl rfl [0] [1, 2, 3] rfl rfl (by decide) rfl hl.1 rfl (lv_room (Nat.le_of_ble_eq_true rfl)) dX12_readNew_32 ⟨Nat.le_of_ble_eq_true rfl, Nat.le_of_ble_eq_true rfl⟩ (fun u_60 H locs hw hP hD hS => ?_)
      obtain ⟨n_57, n_58⟩ := u_60
      try dsimp only at hw
      obtain ⟨hr_n_57, hf_61⟩ := hw
      refine lv_aload_n hx hb dX12_readNew_35 rfl (lv_at hl 1 rfl) ?_
      refine va_get (D := G) (ci := 12) (v := .int n_57) (C := RX12) (T := TX12) (N := 65) hx hb hts inT12 hown hK hP 3 rfl rfl 12 (by decide) (hts _ tw_1897) (fun _ h9 => h9) rfl dX12_readNew_36 ?_
      refine lv_if_le (tgt := 44) hx hb dX12_readNew_39 (by decide) (fun h9 => (z_no (by have h8 := z_fleT h9; omega))) (fun c_62 => ?_)
      have b_63 := z_fgtF c_62
      refine lv_iconst (v := 0) hx hb dX12_readNew_42 (by decide) ?_
      have hpost : (0 ≤ (0 : Int32).toInt ∧ (0 : Int32).toInt ≤ 4) ∧ (0 ≤ n_57.toInt ∧ n_57.toInt ≤ 9) ∧ (0 ≤ m_token.toInt ∧ m_token.toInt ≤ 4) ∧ (0 ≤ m_at.toInt ∧ m_at.toInt ≤ 900) ∧ (0 ≤ m_behind.toInt ∧ m_behind.toInt ≤ 900) ∧ (0 ≤ m_number.toInt ∧ m_number.toInt ≤ 9999) ∧ (0 ≤ m_letters.toInt ∧ m_letters.toInt ≤ 900) ∧ (m_behind.toInt ≤ m_behind.toInt) ∧ (0 < m_bad.toInt → 0 < n_57.toInt) ∧ (n_57.toInt ≤ 0 → m_token.toInt = 0 ∨ m_behind.toInt < m_behind.toInt) ∧ (n_57.toInt ≤ 0 → (0 : Int32).toInt = (g_c 1463).toInt) ∧ ((0 : Int32).toInt < 5) := ⟨(by decide +kernel), (z_rgw hr_n_57 (by decide) (by decide)), hr_m_token, hr_m_at, hr_m_behind, hr_m_number, hr_m_letters, (by omega), (by omega), (by omega), (by omega), (by omega)⟩
      exact hret _ _ _ _ _ _ (n_57, n_58, m_token, m_at, m_behind, m_number, m_letters, m_word, g_words) [3, 0, 1, 2] hP hD hS rfl (by decide) dX12_readNew_43 hpost
set_option maxHeartbeats 4000000 in
set_option maxRecDepth 100000 in
theorem r_readOld_3 (l : Launch) (G : va_G) (cA : zCA) (h0 : Nat) (m_status : Int32) (m_thrown : Int32) (m_above : Int64) (m_under : Int64) (a_traySort : Nat) (a_trayMany : Nat) (a_numbers : Nat) (a_tape : Nat) (m_taped : Int32) (m_textEnd : Int32) (m_faultKind : Int32) (m_faultAt : Int32) (m_bad : Int32) (m_badAt : Int32) (m_token : Int32) (m_at : Int32) (m_behind : Int32) (m_number : Int32) (m_letters : Int32) (m_word : Int64) (a_c : Nat) (a_words : Nat) (m_markMany : Int32) (a_there : Nat) (a_tried : Nat) (a_best : Nat) (a_found : Nat) (m_thereMany : Int32) (m_foundMany : Int32) (m_orderHow : Int32) (m_orderRing : Int32) (m_orderMany : Int32) (m_hasBest : Int32) (m_bestTop : Int64) (m_bestBy : Int64) (a_weights : Nat) (a_shared : Nat) (m_random : Int32) (m_truePlace : Int32) (m_trueWay : Int32) (m_seconds : Int32) (m_done : Int32) (m_feelings : Int32) (m_tries : Int32) (m_leftOver : Int32) (m_playDoor : Int32) (m_playRing : Int32) (m_isOpen : Int32) (m_isOver : Int32) (m_wasTried : Int32) (m_hasPlayed : Int32) (a_feltNow : Nat) (a_last : Nat) (a_kept : Nat) (m_hasSeconds : Int32) (m_hasTurned : Int32) (m_hasRound : Int32) (a_hasFeels : Nat) (a_isOn : Nat) (m_firstAct : Int32) (m_meanTop : Int64) (m_meanBy : Int64) (a_order : Nat) (m_rowMany : Int32) (m_newSteps : Int32) (g_c : Nat → Int32) (g_words : Nat → Int64) (hr_m_at : 0 ≤ m_at.toInt ∧ m_at.toInt ≤ 900) (hr_m_bad : 0 ≤ m_bad.toInt ∧ m_bad.toInt ≤ 9) (hr_m_token : 0 ≤ m_token.toInt ∧ m_token.toInt ≤ 4) (hr_m_letters : 0 ≤ m_letters.toInt ∧ m_letters.toInt ≤ 900) (hC_g_c : zC g_c) : zCi l yX12_readOld cX12_readOld 4 (some .int) ({ frames := 3, cells := 0, slots := 0, locals := 67 }) G cA [.ref h0, .int 3, .int 16] [(h0, .inr (12, [.int m_status, .int m_thrown, .long m_above, .long m_under, .ref a_traySort, .ref a_trayMany, .ref a_numbers, .ref a_tape, .int m_taped, .int m_textEnd, .int m_faultKind, .int m_faultAt, .int m_bad, .int m_badAt, .int m_token, .int m_at, .int m_behind, .int m_number, .int m_letters, .long m_word, .ref a_c, .ref a_words, .int m_markMany, .ref a_there, .ref a_tried, .ref a_best, .ref a_found, .int m_thereMany, .int m_foundMany, .int m_orderHow, .int m_orderRing, .int m_orderMany, .int m_hasBest, .long m_bestTop, .long m_bestBy, .ref a_weights, .ref a_shared, .int m_random, .int m_truePlace, .int m_trueWay, .int m_seconds, .int m_done, .int m_feelings, .int m_tries, .int m_leftOver, .int m_playDoor, .int m_playRing, .int m_isOpen, .int m_isOver, .int m_wasTried, .int m_hasPlayed, .ref a_feltNow, .ref a_last, .ref a_kept, .int m_hasSeconds, .int m_hasTurned, .int m_hasRound, .ref a_hasFeels, .ref a_isOn, .int m_firstAct, .long m_meanTop, .long m_meanBy, .ref a_order, .int m_rowMany, .int m_newSteps])), (a_c, .inl (cA.1 0, 1825, .inl g_c)), (a_words, .inl (cA.1 1, 105, .inr (.inl g_words)))] (S := Int32 × Int32) (fun (r : Int32) (u : Int32 × Int32) => ((-1) ≤ r.toInt ∧ r.toInt ≤ 4) ∧ (0 ≤ u.1.toInt ∧ u.1.toInt ≤ 9) ∧ (m_behind.toInt ≤ m_behind.toInt) ∧ (0 < m_bad.toInt → 0 < u.1.toInt) ∧ (u.1.toInt ≤ 0 → 0 ≤ r.toInt ∧ r.toInt < (g_c 1463).toInt)) (fun (u : Int32 × Int32) => [(h0, .inr (12, [.int m_status, .int m_thrown, .long m_above, .long m_under, .ref a_traySort, .ref a_trayMany, .ref a_numbers, .ref a_tape, .int m_taped, .int m_textEnd, .int m_faultKind, .int m_faultAt, .int u.1, .int u.2, .int m_token, .int m_at, .int m_behind, .int m_number, .int m_letters, .long m_word, .ref a_c, .ref a_words, .int m_markMany, .ref a_there, .ref a_tried, .ref a_best, .ref a_found, .int m_thereMany, .int m_foundMany, .int m_orderHow, .int m_orderRing, .int m_orderMany, .int m_hasBest, .long m_bestTop, .long m_bestBy, .ref a_weights, .ref a_shared, .int m_random, .int m_truePlace, .int m_trueWay, .int m_seconds, .int m_done, .int m_feelings, .int m_tries, .int m_leftOver, .int m_playDoor, .int m_playRing, .int m_isOpen, .int m_isOver, .int m_wasTried, .int m_hasPlayed, .ref a_feltNow, .ref a_last, .ref a_kept, .int m_hasSeconds, .int m_hasTurned, .int m_hasRound, .ref a_hasFeels, .ref a_isOn, .int m_firstAct, .long m_meanTop, .long m_meanBy, .ref a_order, .int m_rowMany, .int m_newSteps])), (a_c, .inl (cA.1 0, 1825, .inl g_c)), (a_words, .inl (cA.1 1, 105, .inr (.inl g_words)))]) 0 0 := by
  have hk_0 : (0 : Int32).toInt = 0 := by decide +kernel
  have hk_3 : (3 : Int32).toInt = 3 := by decide +kernel
  have hk_4 : (4 : Int32).toInt = 4 := by decide +kernel
  have hk_16 : (16 : Int32).toInt = 16 := by decide +kernel
  refine z_start2i (own := RX12) (by decide) (Nat.le_of_ble_eq_true rfl) rfl ?_
  intro p e s m args below meth c A ls Q hx hb hml hts hown hK hE hT hP hD hS hA hl hret
  have hl : lv_has ls 4 [(0, .ref h0), (1, .int 3), (2, .int 16)] := hl
  refine lv_aload_n hx hb dX12_readOld_0 rfl (lv_at hl 0 rfl) ?_
  refine va_get (D := G) (ci := 12) (v := .int m_bad) (C := RX12) (T := TX12) (N := 65) hx hb hts inT12 hown hK hP 0 rfl rfl 12 (by decide) (hts _ tw_1897) (fun _ h9 => h9) rfl dX12_readOld_1 ?_
  refine lv_if_ne (tgt := 18) hx hb dX12_readOld_4 (by decide) (fun c_1 => ?_) (fun c_1 => ?_)
  · have b_2 := z_fneT c_1
    refine lv_aload_n hx hb dX12_readOld_18 rfl (lv_at hl 0 rfl) ?_
    refine va_get (D := G) (ci := 12) (v := .int m_bad) (C := RX12) (T := TX12) (N := 65) hx hb hts inT12 hown hK hP 0 rfl rfl 12 (by decide) (hts _ tw_1897) (fun _ h9 => h9) rfl dX12_readOld_19 ?_
    refine lv_if_ne (tgt := 44) hx hb dX12_readOld_22 (by decide) (fun c_3 => ?_) (fun h9 => (z_no (by have h8 := z_feqF h9; omega)))
    have b_4 := z_fneT c_3
    refine lv_iconst (v := 0) hx hb dX12_readOld_44 (by decide) ?_
    refine lv_istore_n (lv' := [(3, .int 0), (0, .ref h0), (1, .int 3), (2, .int 16)]) hx hb dX12_readOld_45 rfl hl (by decide) rfl (fun ls hl => ?_)
    refine lv_aload_n hx hb dX12_readOld_46 rfl (lv_at hl 1 rfl) ?_
    refine va_get (D := G) (ci := 12) (v := .int m_bad) (C := RX12) (T := TX12) (N := 65) hx hb hts inT12 hown hK hP 0 rfl rfl 12 (by decide) (hts _ tw_1897) (fun _ h9 => h9) rfl dX12_readOld_47 ?_
    refine lv_if_ne (tgt := 66) hx hb dX12_readOld_50 (by decide) (fun c_5 => ?_) (fun h9 => (z_no (by have h8 := z_feqF h9; omega)))
    have b_6 := z_fneT c_5
    refine lv_iload_n hx hb dX12_readOld_66 rfl (lv_at hl 0 rfl) ?_
    have hpost : ((-1) ≤ (0 : Int32).toInt ∧ (0 : Int32).toInt ≤ 4) ∧ (0 ≤ m_bad.toInt ∧ m_bad.toInt ≤ 9) ∧ (m_behind.toInt ≤ m_behind.toInt) ∧ (0 < m_bad.toInt → 0 < m_bad.toInt) ∧ (m_bad.toInt ≤ 0 → 0 ≤ (0 : Int32).toInt ∧ (0 : Int32).toInt < (g_c 1463).toInt) := ⟨(by decide +kernel), hr_m_bad, (by omega), (by omega), (by omega)⟩
    exact hret _ _ _ _ _ _ (m_bad, m_badAt) [0, 1, 2] hP hD hS rfl (by decide) dX12_readOld_67 hpost
  · have b_7 := z_feqF c_1
    refine lv_aload_n hx hb dX12_readOld_7 rfl (lv_at hl 0 rfl) ?_
    refine z_callVi (As := []) (rest := []) (wr := [(a_c, .inl (cA.1 0, 1825, .inl g_c)), (a_words, .inl (cA.1 1, 105, .inr (.inl g_words)))]) ⟨hx, hb, hml, hown, hts⟩ hK hE hT hP hD hS hA (r_isHouseName l G cA h0 m_status m_thrown m_above m_under a_traySort a_trayMany a_numbers a_tape m_taped m_textEnd m_faultKind m_faultAt m_bad m_badAt m_token m_at m_behind m_number m_letters m_word a_c a_words m_markMany a_there a_tried a_best a_found m_thereMany m_foundMany m_orderHow m_orderRing m_orderMany m_hasBest m_bestTop m_bestBy a_weights a_shared m_random m_truePlace m_trueWay m_seconds m_done m_feelings m_tries m_leftOver m_playDoor m_playRing m_isOpen m_isOver m_wasTried m_hasPlayed a_feltNow a_last a_kept m_hasSeconds m_hasTurned m_hasRound a_hasFeels a_isOn m_firstAct m_meanTop m_meanBy a_order m_rowMany m_newSteps hr_m_token hr_m_letters) lk_RX12_200 ⟨rfl, rfl⟩ ⟨Nat.le_of_ble_eq_true rfl, Nat.le_of_ble_eq_true rfl⟩ 12 rfl rfl rfl [0] [1, 2] rfl rfl (by decide) rfl hl.1 rfl (lv_room (Nat.le_of_ble_eq_true rfl)) dX12_readOld_8 ⟨Nat.le_of_ble_eq_true rfl, Nat.le_of_ble_eq_true rfl⟩ (fun r_8 u_9 H locs hw hP hD hS => ?_)
    rcases hw with ⟨rfl, -⟩ | ⟨rfl, -⟩
    · skip
      refine lv_if_ne (tgt := 18) hx hb dX12_readOld_11 (by decide) (fun h9 => absurd (by decide +kernel) h9) (fun _ => ?_)
      refine lv_aload_n hx hb dX12_readOld_14 rfl (lv_at hl 0 rfl) ?_
      refine z_callVv (As := []) (rest := []) (wr := [(a_c, .inl (cA.1 0, 1825, .inl g_c)), (a_words, .inl (cA.1 1, 105, .inr (.inl g_words)))]) ⟨hx, hb, hml, hown, hts⟩ hK hE hT hP hD hS hA (r_wrong l G cA h0 m_status m_thrown m_above m_under a_traySort a_trayMany a_numbers a_tape m_taped m_textEnd m_faultKind m_faultAt m_bad m_badAt m_token m_at m_behind m_number m_letters m_word a_c a_words m_markMany a_there a_tried a_best a_found m_thereMany m_foundMany m_orderHow m_orderRing m_orderMany m_hasBest m_bestTop m_bestBy a_weights a_shared m_random m_truePlace m_trueWay m_seconds m_done m_feelings m_tries m_leftOver m_playDoor m_playRing m_isOpen m_isOver m_wasTried m_hasPlayed a_feltNow a_last a_kept m_hasSeconds m_hasTurned m_hasRound a_hasFeels a_isOn m_firstAct m_meanTop m_meanBy a_order m_rowMany m_newSteps hr_m_at hr_m_bad hr_m_token) lk_RX12_187 ⟨rfl, rfl⟩ ⟨Nat.le_of_ble_eq_true rfl, Nat.le_of_ble_eq_true rfl⟩ 12 rfl rfl rfl [2] [0, 1] rfl rfl (by decide) rfl hl.1 rfl (lv_room (Nat.le_of_ble_eq_true rfl)) dX12_readOld_15 ⟨Nat.le_of_ble_eq_true rfl, Nat.le_of_ble_eq_true rfl⟩ (fun u_13 H locs hw hP hD hS => ?_)
      obtain ⟨n_10, n_11⟩ := u_13
      try dsimp only at hw
      have hr_n_10 := hw
      refine lv_aload_n hx hb dX12_readOld_18 rfl (lv_at hl 0 rfl) ?_
      refine va_get (D := G) (ci := 12) (v := .int n_10) (C := RX12) (T := TX12) (N := 65) hx hb hts inT12 hown hK hP 2 rfl rfl 12 (by decide) (hts _ tw_1897) (fun _ h9 => h9) rfl dX12_readOld_19 ?_
      refine lv_if_ne (tgt := 44) hx hb dX12_readOld_22 (by decide) (fun c_14 => ?_) (fun h9 => (z_no (by have h8 := z_feqF h9; omega)))
      have b_15 := z_fneT c_14
      refine lv_iconst (v := 0) hx hb dX12_readOld_44 (by decide) ?_
      refine lv_istore_n (lv' := [(3, .int 0), (0, .ref h0), (1, .int 3), (2, .int 16)]) hx hb dX12_readOld_45 rfl hl (by decide) rfl (fun ls hl => ?_)
      refine lv_aload_n hx hb dX12_readOld_46 rfl (lv_at hl 1 rfl) ?_
      refine va_get (D := G) (ci := 12) (v := .int n_10) (C := RX12) (T := TX12) (N := 65) hx hb hts inT12 hown hK hP 2 rfl rfl 12 (by decide) (hts _ tw_1897) (fun _ h9 => h9) rfl dX12_readOld_47 ?_
      refine lv_if_ne (tgt := 66) hx hb dX12_readOld_50 (by decide) (fun c_16 => ?_) (fun h9 => (z_no (by have h8 := z_feqF h9; omega)))
      have b_17 := z_fneT c_16
      refine lv_iload_n hx hb dX12_readOld_66 rfl (lv_at hl 0 rfl) ?_
      have hpost : ((-1) ≤ (0 : Int32).toInt ∧ (0 : Int32).toInt ≤ 4) ∧ (0 ≤ n_10.toInt ∧ n_10.toInt ≤ 9) ∧ (m_behind.toInt ≤ m_behind.toInt) ∧ (0 < m_bad.toInt → 0 < n_10.toInt) ∧ (n_10.toInt ≤ 0 → 0 ≤ (0 : Int32).toInt ∧ (0 : Int32).toInt < (g_c 1463).toInt) := ⟨(by decide +kernel), (z_rgw hr_n_10 (by decide) (by decide)), (by omega), (by omega), (by omega)⟩
      exact hret _ _ _ _ _ _ (n_10, n_11) [2, 0, 1] hP hD hS rfl (by decide) dX12_readOld_67 hpost
    · skip
      refine lv_if_ne (tgt := 18) hx hb dX12_readOld_11 (by decide) (fun _ => ?_) (fun h9 => absurd h9 (by decide +kernel))
      refine lv_aload_n hx hb dX12_readOld_18 rfl (lv_at hl 0 rfl) ?_
      refine va_get (D := G) (ci := 12) (v := .int m_bad) (C := RX12) (T := TX12) (N := 65) hx hb hts inT12 hown hK hP 2 rfl rfl 12 (by decide) (hts _ tw_1897) (fun _ h9 => h9) rfl dX12_readOld_19 ?_
      refine lv_if_ne (tgt := 44) hx hb dX12_readOld_22 (by decide) (fun h9 => (z_no (by have h8 := z_fneT h9; omega))) (fun c_18 => ?_)
      have b_19 := z_feqF c_18
      refine lv_aload_n hx hb dX12_readOld_25 rfl (lv_at hl 0 rfl) ?_
      refine lv_iconst (v := 4) hx hb dX12_readOld_26 (by decide) ?_
      refine lv_iload_n hx hb dX12_readOld_27 rfl (lv_at hl 2 rfl) ?_
      refine lv_aload_n hx hb dX12_readOld_28 rfl (lv_at hl 0 rfl) ?_
      refine va_get (D := G) (ci := 12) (v := .ref a_c) (C := RX12) (T := TX12) (N := 65) hx hb hts inT12 hown hK hP 2 rfl rfl 20 (by decide) (hts _ tw_1905) (fun _ h9 => h9) rfl dX12_readOld_29 ?_
      refine lv_sipush (v := 1460) hx hb dX12_readOld_32 (by decide) ?_
      refine lv_iload_n hx hb dX12_readOld_35 rfl (lv_at hl 1 rfl) ?_
      refine lv_iadd hx hb dX12_readOld_36 ?_
      refine z_topi (y := 1463) (by decide +kernel) ?_
      refine va_iald hx hb hK hP 0 0 rfl rfl (z_in (i := 1463) (n := 1825) (by decide +kernel) (by decide +kernel)) dX12_readOld_37 ?_
      refine lv_topi (fun x_20 he_x_20 => ?_)
      have hr_x_20 := z_ctk hC_g_c he_x_20 (k := 1463) (lo := 0) (hi := 5) (by decide +kernel) (by decide +kernel) (by decide +kernel)
      have hv_x_20 := z_cv he_x_20 (k := 1463) (by decide +kernel)
      refine z_callVi (As := [.int 4, .int 16, .int x_20]) (rest := []) (wr := [(a_c, .inl (cA.1 0, 1825, .inl g_c))]) ⟨hx, hb, hml, hown, hts⟩ hK hE hT hP hD hS hA (r_named_4_16 l G cA h0 m_status m_thrown m_above m_under a_traySort a_trayMany a_numbers a_tape m_taped m_textEnd m_faultKind m_faultAt m_bad m_badAt m_token m_at m_behind m_number m_letters m_word a_c a_words m_markMany a_there a_tried a_best a_found m_thereMany m_foundMany m_orderHow m_orderRing m_orderMany m_hasBest m_bestTop m_bestBy a_weights a_shared m_random m_truePlace m_trueWay m_seconds m_done m_feelings m_tries m_leftOver m_playDoor m_playRing m_isOpen m_isOver m_wasTried m_hasPlayed a_feltNow a_last a_kept m_hasSeconds m_hasTurned m_hasRound a_hasFeels a_isOn m_firstAct m_meanTop m_meanBy a_order m_rowMany m_newSteps g_words x_20 hr_x_20) lk_RX12_196 ⟨rfl, rfl⟩ ⟨Nat.le_of_ble_eq_true rfl, Nat.le_of_ble_eq_true rfl⟩ 12 rfl rfl rfl [2, 1] [0] rfl rfl (by decide) rfl hl.1 rfl (lv_room (Nat.le_of_ble_eq_true rfl)) dX12_readOld_38 ⟨Nat.le_of_ble_eq_true rfl, Nat.le_of_ble_eq_true rfl⟩ (fun r_21 u_22 H locs hw hP hD hS => ?_)
      obtain ⟨hr_r_21, hf_23⟩ := hw
      refine lv_goto (tgt := 45) hx hb dX12_readOld_41 (by decide) ?_
      refine lv_istore_n (lv' := [(3, .int r_21), (0, .ref h0), (1, .int 3), (2, .int 16)]) hx hb dX12_readOld_45 rfl hl (by decide) rfl (fun ls hl => ?_)
      refine lv_aload_n hx hb dX12_readOld_46 rfl (lv_at hl 1 rfl) ?_
      refine va_get (D := G) (ci := 12) (v := .int m_bad) (C := RX12) (T := TX12) (N := 65) hx hb hts inT12 hown hK hP 1 rfl rfl 12 (by decide) (hts _ tw_1897) (fun _ h9 => h9) rfl dX12_readOld_47 ?_
      refine lv_if_ne (tgt := 66) hx hb dX12_readOld_50 (by decide) (fun h9 => (z_no (by have h8 := z_fneT h9; omega))) (fun c_24 => ?_)
      have b_25 := z_feqF c_24
      refine lv_iload_n hx hb dX12_readOld_53 rfl (lv_at hl 0 rfl) ?_
      refine lv_if_ge (tgt := 66) hx hb dX12_readOld_54 (by decide) (fun c_26 => ?_) (fun c_26 => ?_)
      · have b_27 := z_fgeT c_26
        refine lv_iload_n hx hb dX12_readOld_66 rfl (lv_at hl 0 rfl) ?_
        have hpost : ((-1) ≤ r_21.toInt ∧ r_21.toInt ≤ 4) ∧ (0 ≤ m_bad.toInt ∧ m_bad.toInt ≤ 9) ∧ (m_behind.toInt ≤ m_behind.toInt) ∧ (0 < m_bad.toInt → 0 < m_bad.toInt) ∧ (m_bad.toInt ≤ 0 → 0 ≤ r_21.toInt ∧ r_21.toInt < (g_c 1463).toInt) := ⟨hr_r_21, hr_m_bad, (by omega), (by omega), (by omega)⟩
        exact hret _ _ _ _ _ _ (m_bad, m_badAt) [1, 0, 2] hP hD hS rfl (by decide) dX12_readOld_67 hpost
      · have b_28 := z_fltF c_26
        refine lv_aload_n hx hb dX12_readOld_57 rfl (lv_at hl 1 rfl) ?_
        refine lv_iconst (v := 3) hx hb dX12_readOld_58 (by decide) ?_
        refine lv_aload_n hx hb dX12_readOld_59 rfl (lv_at hl 1 rfl) ?_
        refine va_get (D := G) (ci := 12) (v := .int m_at) (C := RX12) (T := TX12) (N := 65) hx hb hts inT12 hown hK hP 1 rfl rfl 15 (by decide) (hts _ tw_1900) (fun _ h9 => h9) rfl dX12_readOld_60 ?_
        refine z_callVv (As := [.int 3, .int m_at]) (rest := []) (wr := [(a_c, .inl (cA.1 0, 1825, .inl g_c)), (a_words, .inl (cA.1 1, 105, .inr (.inl g_words)))]) ⟨hx, hb, hml, hown, hts⟩ hK hE hT hP hD hS hA (r_fail l G cA h0 m_status m_thrown m_above m_under a_traySort a_trayMany a_numbers a_tape m_taped m_textEnd m_faultKind m_faultAt m_bad m_badAt m_token m_at m_behind m_number m_letters m_word a_c a_words m_markMany a_there a_tried a_best a_found m_thereMany m_foundMany m_orderHow m_orderRing m_orderMany m_hasBest m_bestTop m_bestBy a_weights a_shared m_random m_truePlace m_trueWay m_seconds m_done m_feelings m_tries m_leftOver m_playDoor m_playRing m_isOpen m_isOver m_wasTried m_hasPlayed a_feltNow a_last a_kept m_hasSeconds m_hasTurned m_hasRound a_hasFeels a_isOn m_firstAct m_meanTop m_meanBy a_order m_rowMany m_newSteps 3 m_at (by decide +kernel) hr_m_bad) lk_RX12_180 ⟨rfl, rfl⟩ ⟨Nat.le_of_ble_eq_true rfl, Nat.le_of_ble_eq_true rfl⟩ 12 rfl rfl rfl [1] [0, 2] rfl rfl (by decide) rfl hl.1 rfl (lv_room (Nat.le_of_ble_eq_true rfl)) dX12_readOld_63 ⟨Nat.le_of_ble_eq_true rfl, Nat.le_of_ble_eq_true rfl⟩ (fun u_32 H locs hw hP hD hS => ?_)
        obtain ⟨n_29, n_30⟩ := u_32
        try dsimp only at hw
        obtain ⟨hr_n_29, hf_33⟩ := hw
        refine lv_iload_n hx hb dX12_readOld_66 rfl (lv_at hl 0 rfl) ?_
        have hpost : ((-1) ≤ r_21.toInt ∧ r_21.toInt ≤ 4) ∧ (0 ≤ n_29.toInt ∧ n_29.toInt ≤ 9) ∧ (m_behind.toInt ≤ m_behind.toInt) ∧ (0 < m_bad.toInt → 0 < n_29.toInt) ∧ (n_29.toInt ≤ 0 → 0 ≤ r_21.toInt ∧ r_21.toInt < (g_c 1463).toInt) := ⟨hr_r_21, (z_rgw hr_n_29 (by decide) (by decide)), (by omega), (by omega), (by omega)⟩
        exact hret _ _ _ _ _ _ (n_29, n_30) [2, 0, 1] hP hD hS rfl (by decide) dX12_readOld_67 hpost
