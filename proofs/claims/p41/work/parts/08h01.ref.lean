set_option maxHeartbeats 40000000 in
set_option maxRecDepth 100000 in
theorem r_next2 (l : Launch) (G : va_G) (cA : zCA) (h0 : Nat) (m_status : Int32) (m_thrown : Int32) (m_above : Int64) (m_under : Int64) (a_traySort : Nat) (a_trayMany : Nat) (a_numbers : Nat) (a_tape : Nat) (m_taped : Int32) (m_textEnd : Int32) (m_faultKind : Int32) (m_faultAt : Int32) (m_bad : Int32) (m_badAt : Int32) (m_token : Int32) (m_at : Int32) (m_behind : Int32) (m_number : Int32) (m_letters : Int32) (m_word : Int64) (a_c : Nat) (a_words : Nat) (m_markMany : Int32) (a_there : Nat) (a_tried : Nat) (a_best : Nat) (a_found : Nat) (m_thereMany : Int32) (m_foundMany : Int32) (m_orderHow : Int32) (m_orderRing : Int32) (m_orderMany : Int32) (m_hasBest : Int32) (m_bestTop : Int64) (m_bestBy : Int64) (a_weights : Nat) (a_shared : Nat) (m_random : Int32) (m_truePlace : Int32) (m_trueWay : Int32) (m_seconds : Int32) (m_done : Int32) (m_feelings : Int32) (m_tries : Int32) (m_leftOver : Int32) (m_playDoor : Int32) (m_playRing : Int32) (m_isOpen : Int32) (m_isOver : Int32) (m_wasTried : Int32) (m_hasPlayed : Int32) (a_feltNow : Nat) (a_last : Nat) (a_kept : Nat) (m_hasSeconds : Int32) (m_hasTurned : Int32) (m_hasRound : Int32) (a_hasFeels : Nat) (a_isOn : Nat) (m_firstAct : Int32) (m_meanTop : Int64) (m_meanBy : Int64) (a_order : Nat) (m_rowMany : Int32) (m_newSteps : Int32) (g_tape : Nat → Int32) (hr_m_textEnd : 0 ≤ m_textEnd.toInt ∧ m_textEnd.toInt ≤ 900) (hr_m_at : 0 ≤ m_at.toInt ∧ m_at.toInt ≤ 900) (hr_m_behind : 0 ≤ m_behind.toInt ∧ m_behind.toInt ≤ 900) (hr_m_token : 0 ≤ m_token.toInt ∧ m_token.toInt ≤ 4) (hr_m_number : 0 ≤ m_number.toInt ∧ m_number.toInt ≤ 9999) (hr_m_letters : 0 ≤ m_letters.toInt ∧ m_letters.toInt ≤ 900) : zCv l yX12_next2 cX12_next2 2 none ({ frames := 1, cells := 0, slots := 0, locals := 21 }) G cA [.ref h0] [(h0, .inr (12, [.int m_status, .int m_thrown, .long m_above, .long m_under, .ref a_traySort, .ref a_trayMany, .ref a_numbers, .ref a_tape, .int m_taped, .int m_textEnd, .int m_faultKind, .int m_faultAt, .int m_bad, .int m_badAt, .int m_token, .int m_at, .int m_behind, .int m_number, .int m_letters, .long m_word, .ref a_c, .ref a_words, .int m_markMany, .ref a_there, .ref a_tried, .ref a_best, .ref a_found, .int m_thereMany, .int m_foundMany, .int m_orderHow, .int m_orderRing, .int m_orderMany, .int m_hasBest, .long m_bestTop, .long m_bestBy, .ref a_weights, .ref a_shared, .int m_random, .int m_truePlace, .int m_trueWay, .int m_seconds, .int m_done, .int m_feelings, .int m_tries, .int m_leftOver, .int m_playDoor, .int m_playRing, .int m_isOpen, .int m_isOver, .int m_wasTried, .int m_hasPlayed, .ref a_feltNow, .ref a_last, .ref a_kept, .int m_hasSeconds, .int m_hasTurned, .int m_hasRound, .ref a_hasFeels, .ref a_isOn, .int m_firstAct, .long m_meanTop, .long m_meanBy, .ref a_order, .int m_rowMany, .int m_newSteps])), (a_tape, .inl (cA.1 2, 900, .inl g_tape))] (S := Int32 × Int32 × Int32 × Int32 × Int32 × Int64) (fun (u : Int32 × Int32 × Int32 × Int32 × Int32 × Int64) => (u.1 = (F_r_next2 m_textEnd m_behind m_number m_letters m_word g_tape).1) ∧ (u.2.1 = (F_r_next2 m_textEnd m_behind m_number m_letters m_word g_tape).2.1) ∧ (u.2.2.1 = (F_r_next2 m_textEnd m_behind m_number m_letters m_word g_tape).2.2.1) ∧ (u.2.2.2.1 = (F_r_next2 m_textEnd m_behind m_number m_letters m_word g_tape).2.2.2.1) ∧ (u.2.2.2.2.1 = (F_r_next2 m_textEnd m_behind m_number m_letters m_word g_tape).2.2.2.2.1) ∧ (u.2.2.2.2.2 = (F_r_next2 m_textEnd m_behind m_number m_letters m_word g_tape).2.2.2.2.2) ∧ ((0 ≤ u.1.toInt ∧ u.1.toInt ≤ 4) ∧ (0 ≤ u.2.1.toInt ∧ u.2.1.toInt ≤ 900) ∧ (0 ≤ u.2.2.1.toInt ∧ u.2.2.1.toInt ≤ 900) ∧ (0 ≤ u.2.2.2.1.toInt ∧ u.2.2.2.1.toInt ≤ 9999) ∧ (0 ≤ u.2.2.2.2.1.toInt ∧ u.2.2.2.2.1.toInt ≤ 900) ∧ (m_behind.toInt ≤ u.2.2.1.toInt) ∧ (u.1.toInt = 0 ∨ m_behind.toInt < u.2.2.1.toInt))) (fun (u : Int32 × Int32 × Int32 × Int32 × Int32 × Int64) => [(h0, .inr (12, [.int m_status, .int m_thrown, .long m_above, .long m_under, .ref a_traySort, .ref a_trayMany, .ref a_numbers, .ref a_tape, .int m_taped, .int m_textEnd, .int m_faultKind, .int m_faultAt, .int m_bad, .int m_badAt, .int u.1, .int u.2.1, .int u.2.2.1, .int u.2.2.2.1, .int u.2.2.2.2.1, .long u.2.2.2.2.2, .ref a_c, .ref a_words, .int m_markMany, .ref a_there, .ref a_tried, .ref a_best, .ref a_found, .int m_thereMany, .int m_foundMany, .int m_orderHow, .int m_orderRing, .int m_orderMany, .int m_hasBest, .long m_bestTop, .long m_bestBy, .ref a_weights, .ref a_shared, .int m_random, .int m_truePlace, .int m_trueWay, .int m_seconds, .int m_done, .int m_feelings, .int m_tries, .int m_leftOver, .int m_playDoor, .int m_playRing, .int m_isOpen, .int m_isOver, .int m_wasTried, .int m_hasPlayed, .ref a_feltNow, .ref a_last, .ref a_kept, .int m_hasSeconds, .int m_hasTurned, .int m_hasRound, .ref a_hasFeels, .ref a_isOn, .int m_firstAct, .long m_meanTop, .long m_meanBy, .ref a_order, .int m_rowMany, .int m_newSteps])), (a_tape, .inl (cA.1 2, 900, .inl g_tape))]) 0 0 := by
  have hk_0 : (0 : Int32).toInt = 0 := by decide +kernel
  have hk_1 : (1 : Int32).toInt = 1 := by decide +kernel
  have hk_2 : (2 : Int32).toInt = 2 := by decide +kernel
  have hk_3 : (3 : Int32).toInt = 3 := by decide +kernel
  have hk_4 : (4 : Int32).toInt = 4 := by decide +kernel
  have hk_8 : (8 : Int32).toInt = 8 := by decide +kernel
  have hk_10 : (10 : Int32).toInt = 10 := by decide +kernel
  have hk_32 : (32 : Int32).toInt = 32 := by decide +kernel
  have hk_48 : (48 : Int32).toInt = 48 := by decide +kernel
  have hkl_0 : (0 : Int64).toInt = 0 := by decide +kernel
  have hkl_32 : (32 : Int64).toInt = 32 := by decide +kernel
  have hkl_96 : (96 : Int64).toInt = 96 := by decide +kernel
  refine z_start2v (own := RX12) (by decide) (Nat.le_of_ble_eq_true rfl) rfl ?_
  intro p e s m args below meth c A ls Q hx hb hml hts hown hK hE hT hP hD hS hA hl hret
  have hl : lv_has ls 2 [(0, .ref h0)] := hl
  refine lv_aload_n hx hb dX12_next2_0 rfl (lv_at hl 0 rfl) ?_
  refine lv_aload_n hx hb dX12_next2_1 rfl (lv_at hl 0 rfl) ?_
  refine va_get (D := G) (ci := 12) (v := .int m_behind) (C := RX12) (T := TX12) (N := 65) hx hb hts inT12 hown hK hP 0 rfl rfl 16 (by decide) (hts _ tw_1901) (fun _ h9 => h9) rfl dX12_next2_2 ?_
  refine va_put (D := G) (ci := 12) (v := .int m_behind) (ty := .int) (C := RX12) (T := TX12) (N := 65) hx hb hts inT12 tyX12 tyX12_ok nmX12 hown hK hP hD hS 0 rfl rfl 15 (by decide) (hts _ tw_1900) (fun _ h9 => h9) rfl (tyX12_ok 15 (by decide)) rfl rfl (Nat.le_of_ble_eq_true rfl) dX12_next2_5 (fun H locs hP hD hS => ?_)
  have hlp_958 : ∀ (n_L8a : Nat) (v_44 : Int32) (H : Heap) (locs : List Loc) (ls : Array Slot), (2147483647 - v_44.toInt).toNat < n_L8a → (0 ≤ v_44.toInt ∧ v_44.toInt ≤ 900) → (m_behind.toInt ≤ v_44.toInt) → (F_r_next2 m_textEnd m_behind m_number m_letters m_word g_tape = F_r_next2_L8a m_textEnd m_number m_letters m_word g_tape n_L8a v_44) → va_P G vwCl [(h0, .inr (12, [.int m_status, .int m_thrown, .long m_above, .long m_under, .ref a_traySort, .ref a_trayMany, .ref a_numbers, .ref a_tape, .int m_taped, .int m_textEnd, .int m_faultKind, .int m_faultAt, .int m_bad, .int m_badAt, .int m_token, .int v_44, .int m_behind, .int m_number, .int m_letters, .long m_word, .ref a_c, .ref a_words, .int m_markMany, .ref a_there, .ref a_tried, .ref a_best, .ref a_found, .int m_thereMany, .int m_foundMany, .int m_orderHow, .int m_orderRing, .int m_orderMany, .int m_hasBest, .long m_bestTop, .long m_bestBy, .ref a_weights, .ref a_shared, .int m_random, .int m_truePlace, .int m_trueWay, .int m_seconds, .int m_done, .int m_feelings, .int m_tries, .int m_leftOver, .int m_playDoor, .int m_playRing, .int m_isOpen, .int m_isOver, .int m_wasTried, .int m_hasPlayed, .ref a_feltNow, .ref a_last, .ref a_kept, .int m_hasSeconds, .int m_hasTurned, .int m_hasRound, .ref a_hasFeels, .ref a_isOn, .int m_firstAct, .long m_meanTop, .long m_meanBy, .ref a_order, .int m_rowMany, .int m_newSteps])), (a_tape, .inl (cA.1 2, 900, .inl g_tape))] H → va_D A [(h0, .inr (12, [.int m_status, .int m_thrown, .long m_above, .long m_under, .ref a_traySort, .ref a_trayMany, .ref a_numbers, .ref a_tape, .int m_taped, .int m_textEnd, .int m_faultKind, .int m_faultAt, .int m_bad, .int m_badAt, .int m_token, .int v_44, .int m_behind, .int m_number, .int m_letters, .long m_word, .ref a_c, .ref a_words, .int m_markMany, .ref a_there, .ref a_tried, .ref a_best, .ref a_found, .int m_thereMany, .int m_foundMany, .int m_orderHow, .int m_orderRing, .int m_orderMany, .int m_hasBest, .long m_bestTop, .long m_bestBy, .ref a_weights, .ref a_shared, .int m_random, .int m_truePlace, .int m_trueWay, .int m_seconds, .int m_done, .int m_feelings, .int m_tries, .int m_leftOver, .int m_playDoor, .int m_playRing, .int m_isOpen, .int m_isOver, .int m_wasTried, .int m_hasPlayed, .ref a_feltNow, .ref a_last, .ref a_kept, .int m_hasSeconds, .int m_hasTurned, .int m_hasRound, .ref a_hasFeels, .ref a_isOn, .int m_firstAct, .long m_meanTop, .long m_meanBy, .ref a_order, .int m_rowMany, .int m_newSteps])), (a_tape, .inl (cA.1 2, 900, .inl g_tape))] → va_S A s.heap H locs → lv_has ls 2 [(0, .ref h0)] → W p l e ({ frames := 1, cells := 0, slots := 0, locals := 21 }) s m args below meth c H locs 0 0 Q (F0 m 8 ls []) := by
    intro n_L8a
    induction n_L8a with
    | zero =>
      intro v_44 H locs ls hmu_hlp_958 hr_v_44 hi_66 hF_L8a hP hD hS hl
      exact absurd hmu_hlp_958 (Nat.not_lt_zero _)
    | succ n_L8a ih_959 =>
      intro v_44 H locs ls hmu_hlp_958 hr_v_44 hi_66 hF_L8a hP hD hS hl
      refine lv_aload_n hx hb dX12_next2_8 rfl (lv_at hl 0 rfl) ?_
      refine va_get (D := G) (ci := 12) (v := .int v_44) (C := RX12) (T := TX12) (N := 65) hx hb hts inT12 hown hK hP 0 rfl rfl 15 (by decide) (hts _ tw_1900) (fun _ h9 => h9) rfl dX12_next2_9 ?_
      refine lv_aload_n hx hb dX12_next2_12 rfl (lv_at hl 0 rfl) ?_
      refine va_get (D := G) (ci := 12) (v := .int m_textEnd) (C := RX12) (T := TX12) (N := 65) hx hb hts inT12 hown hK hP 0 rfl rfl 9 (by decide) (hts _ tw_1894) (fun _ h9 => h9) rfl dX12_next2_13 ?_
      refine lv_icmp_ge (tgt := 58) hx hb dX12_next2_16 (by decide) (fun c_960 => ?_) (fun c_960 => ?_)
      · have b_961 := z_fgeT c_960
        refine lv_aload_n hx hb dX12_next2_58 rfl (lv_at hl 0 rfl) ?_
        refine lv_aload_n hx hb dX12_next2_59 rfl (lv_at hl 0 rfl) ?_
        refine va_get (D := G) (ci := 12) (v := .int v_44) (C := RX12) (T := TX12) (N := 65) hx hb hts inT12 hown hK hP 0 rfl rfl 15 (by decide) (hts _ tw_1900) (fun _ h9 => h9) rfl dX12_next2_60 ?_
        refine va_put (D := G) (ci := 12) (v := .int v_44) (ty := .int) (C := RX12) (T := TX12) (N := 65) hx hb hts inT12 tyX12 tyX12_ok nmX12 hown hK hP hD hS 0 rfl rfl 16 (by decide) (hts _ tw_1901) (fun _ h9 => h9) rfl (tyX12_ok 16 (by decide)) rfl rfl (Nat.le_of_ble_eq_true rfl) dX12_next2_63 (fun H locs hP hD hS => ?_)
        refine lv_aload_n hx hb dX12_next2_66 rfl (lv_at hl 0 rfl) ?_
        refine va_get (D := G) (ci := 12) (v := .int v_44) (C := RX12) (T := TX12) (N := 65) hx hb hts inT12 hown hK hP 0 rfl rfl 15 (by decide) (hts _ tw_1900) (fun _ h9 => h9) rfl dX12_next2_67 ?_
        refine lv_aload_n hx hb dX12_next2_70 rfl (lv_at hl 0 rfl) ?_
        refine va_get (D := G) (ci := 12) (v := .int m_textEnd) (C := RX12) (T := TX12) (N := 65) hx hb hts inT12 hown hK hP 0 rfl rfl 9 (by decide) (hts _ tw_1894) (fun _ h9 => h9) rfl dX12_next2_71 ?_
        refine lv_icmp_lt (tgt := 83) hx hb dX12_next2_74 (by decide) (fun c_962 => ?_) (fun c_962 => ?_)
        · have b_963 := z_fltT c_962
          refine lv_aload_n hx hb dX12_next2_83 rfl (lv_at hl 0 rfl) ?_
          refine lv_aload_n hx hb dX12_next2_84 rfl (lv_at hl 0 rfl) ?_
          refine va_get (D := G) (ci := 12) (v := .int v_44) (C := RX12) (T := TX12) (N := 65) hx hb hts inT12 hown hK hP 0 rfl rfl 15 (by decide) (hts _ tw_1900) (fun _ h9 => h9) rfl dX12_next2_85 ?_
          refine z_callVi (As := [.int v_44]) (rest := []) (wr := []) ⟨hx, hb, hml, hown, hts⟩ hK hE hT hP hD hS hA (r_look2 l G cA h0 m_status m_thrown m_above m_under a_traySort a_trayMany a_numbers a_tape m_taped m_textEnd m_faultKind m_faultAt m_bad m_badAt m_token v_44 v_44 m_number m_letters m_word a_c a_words m_markMany a_there a_tried a_best a_found m_thereMany m_foundMany m_orderHow m_orderRing m_orderMany m_hasBest m_bestTop m_bestBy a_weights a_shared m_random m_truePlace m_trueWay m_seconds m_done m_feelings m_tries m_leftOver m_playDoor m_playRing m_isOpen m_isOver m_wasTried m_hasPlayed a_feltNow a_last a_kept m_hasSeconds m_hasTurned m_hasRound a_hasFeels a_isOn m_firstAct m_meanTop m_meanBy a_order m_rowMany m_newSteps g_tape v_44 hr_v_44 hr_m_textEnd) lk_RX12_130 ⟨rfl, rfl⟩ ⟨Nat.le_of_ble_eq_true rfl, Nat.le_of_ble_eq_true rfl⟩ 12 rfl rfl rfl [0, 1] [] rfl rfl (by decide) rfl hl.1 rfl (lv_room (Nat.le_of_ble_eq_true rfl)) dX12_next2_88 ⟨Nat.le_of_ble_eq_true rfl, Nat.le_of_ble_eq_true rfl⟩ (fun r_964 u_965 H locs hw hP hD hS => ?_)
          obtain ⟨he_r_964, hw⟩ := hw
          obtain ⟨hr_r_964, hf_967, hf_968⟩ := hw
          have hlk_r_964 := hf_968
          refine lv_istore_n (lv' := [(1, .int r_964), (0, .ref h0)]) hx hb dX12_next2_91 rfl hl (by decide) rfl (fun ls hl => ?_)
          refine lv_iload_n hx hb dX12_next2_92 rfl (lv_at hl 0 rfl) ?_
          refine z_callSi (As := [.int r_964]) (rest := []) (wr := [(h0, .inr (12, [.int m_status, .int m_thrown, .long m_above, .long m_under, .ref a_traySort, .ref a_trayMany, .ref a_numbers, .ref a_tape, .int m_taped, .int m_textEnd, .int m_faultKind, .int m_faultAt, .int m_bad, .int m_badAt, .int m_token, .int v_44, .int v_44, .int m_number, .int m_letters, .long m_word, .ref a_c, .ref a_words, .int m_markMany, .ref a_there, .ref a_tried, .ref a_best, .ref a_found, .int m_thereMany, .int m_foundMany, .int m_orderHow, .int m_orderRing, .int m_orderMany, .int m_hasBest, .long m_bestTop, .long m_bestBy, .ref a_weights, .ref a_shared, .int m_random, .int m_truePlace, .int m_trueWay, .int m_seconds, .int m_done, .int m_feelings, .int m_tries, .int m_leftOver, .int m_playDoor, .int m_playRing, .int m_isOpen, .int m_isOver, .int m_wasTried, .int m_hasPlayed, .ref a_feltNow, .ref a_last, .ref a_kept, .int m_hasSeconds, .int m_hasTurned, .int m_hasRound, .ref a_hasFeels, .ref a_isOn, .int m_firstAct, .long m_meanTop, .long m_meanBy, .ref a_order, .int m_rowMany, .int m_newSteps])), (a_tape, .inl (cA.1 2, 900, .inl g_tape))]) ⟨hx, hb, hml, hown, hts⟩ hK hE hT hP hD hS hA (r_isLetter l G cA r_964) lk_RX12_136 ⟨rfl, rfl⟩ ⟨Nat.le_of_ble_eq_true rfl, Nat.le_of_ble_eq_true rfl⟩ [] [0, 1] rfl rfl (by decide) rfl hl.1 rfl (lv_room (Nat.le_of_ble_eq_true rfl)) dX12_next2_93 ⟨Nat.le_of_ble_eq_true rfl, Nat.le_of_ble_eq_true rfl⟩ (fun r_969 u_970 H locs hw hP hD hS => ?_)
          obtain ⟨he_r_969, hw⟩ := hw
          rcases hw with ⟨rfl, hf_972⟩ | ⟨rfl, hf_973⟩
          · skip
            refine lv_if_eq (tgt := 198) hx hb dX12_next2_96 (by decide) (fun _ => ?_) (fun h9 => absurd (by decide +kernel) h9)
            refine lv_iload_n hx hb dX12_next2_198 rfl (lv_at hl 0 rfl) ?_
            refine z_callSi (As := [.int r_964]) (rest := []) (wr := [(h0, .inr (12, [.int m_status, .int m_thrown, .long m_above, .long m_under, .ref a_traySort, .ref a_trayMany, .ref a_numbers, .ref a_tape, .int m_taped, .int m_textEnd, .int m_faultKind, .int m_faultAt, .int m_bad, .int m_badAt, .int m_token, .int v_44, .int v_44, .int m_number, .int m_letters, .long m_word, .ref a_c, .ref a_words, .int m_markMany, .ref a_there, .ref a_tried, .ref a_best, .ref a_found, .int m_thereMany, .int m_foundMany, .int m_orderHow, .int m_orderRing, .int m_orderMany, .int m_hasBest, .long m_bestTop, .long m_bestBy, .ref a_weights, .ref a_shared, .int m_random, .int m_truePlace, .int m_trueWay, .int m_seconds, .int m_done, .int m_feelings, .int m_tries, .int m_leftOver, .int m_playDoor, .int m_playRing, .int m_isOpen, .int m_isOver, .int m_wasTried, .int m_hasPlayed, .ref a_feltNow, .ref a_last, .ref a_kept, .int m_hasSeconds, .int m_hasTurned, .int m_hasRound, .ref a_hasFeels, .ref a_isOn, .int m_firstAct, .long m_meanTop, .long m_meanBy, .ref a_order, .int m_rowMany, .int m_newSteps])), (a_tape, .inl (cA.1 2, 900, .inl g_tape))]) ⟨hx, hb, hml, hown, hts⟩ hK hE hT hP hD hS hA (r_isDigit l G cA r_964) lk_RX12_149 ⟨rfl, rfl⟩ ⟨Nat.le_of_ble_eq_true rfl, Nat.le_of_ble_eq_true rfl⟩ [] [0, 1] rfl rfl (by decide) rfl hl.1 rfl (lv_room (Nat.le_of_ble_eq_true rfl)) dX12_next2_199 ⟨Nat.le_of_ble_eq_true rfl, Nat.le_of_ble_eq_true rfl⟩ (fun r_974 u_975 H locs hw hP hD hS => ?_)
            obtain ⟨he_r_974, hw⟩ := hw
            rcases hw with ⟨rfl, hf_977⟩ | ⟨rfl, hf_978⟩
            · skip
              refine lv_if_eq (tgt := 298) hx hb dX12_next2_202 (by decide) (fun _ => ?_) (fun h9 => absurd (by decide +kernel) h9)
              refine lv_aload_n hx hb dX12_next2_298 rfl (lv_at hl 1 rfl) ?_
              refine lv_aload_n hx hb dX12_next2_299 rfl (lv_at hl 1 rfl) ?_
              refine va_get (D := G) (ci := 12) (v := .int v_44) (C := RX12) (T := TX12) (N := 65) hx hb hts inT12 hown hK hP 0 rfl rfl 15 (by decide) (hts _ tw_1900) (fun _ h9 => h9) rfl dX12_next2_300 ?_
              refine lv_iconst (v := 1) hx hb dX12_next2_303 (by decide) ?_
              refine lv_iadd hx hb dX12_next2_304 ?_
              refine lv_topi (fun x_979 he_x_979 => ?_)
              have hq_x_979 := z_addq he_x_979 (rfl : v_44.toInt = _) hk_1 (by omega) (by omega)
              refine va_put (D := G) (ci := 12) (v := .int x_979) (ty := .int) (C := RX12) (T := TX12) (N := 65) hx hb hts inT12 tyX12 tyX12_ok nmX12 hown hK hP hD hS 0 rfl rfl 16 (by decide) (hts _ tw_1901) (fun _ h9 => h9) rfl (tyX12_ok 16 (by decide)) rfl rfl (Nat.le_of_ble_eq_true rfl) dX12_next2_305 (fun H locs hP hD hS => ?_)
              refine lv_aload_n hx hb dX12_next2_308 rfl (lv_at hl 1 rfl) ?_
              refine lv_iload_n hx hb dX12_next2_309 rfl (lv_at hl 0 rfl) ?_
              refine va_put (D := G) (ci := 12) (v := .int r_964) (ty := .int) (C := RX12) (T := TX12) (N := 65) hx hb hts inT12 tyX12 tyX12_ok nmX12 hown hK hP hD hS 0 rfl rfl 17 (by decide) (hts _ tw_1902) (fun _ h9 => h9) rfl (tyX12_ok 17 (by decide)) rfl rfl (Nat.le_of_ble_eq_true rfl) dX12_next2_310 (fun H locs hP hD hS => ?_)
              refine lv_aload_n hx hb dX12_next2_313 rfl (lv_at hl 1 rfl) ?_
              refine lv_aload_n hx hb dX12_next2_314 rfl (lv_at hl 1 rfl) ?_
              refine lv_iload_n hx hb dX12_next2_315 rfl (lv_at hl 0 rfl) ?_
              refine z_callVi (As := [.int r_964]) (rest := [.ref h0]) (wr := [(a_tape, .inl (cA.1 2, 900, .inl g_tape))]) ⟨hx, hb, hml, hown, hts⟩ hK hE hT hP hD hS hA (r_isSignByte l G cA h0 m_status m_thrown m_above m_under a_traySort a_trayMany a_numbers a_tape m_taped m_textEnd m_faultKind m_faultAt m_bad m_badAt m_token v_44 x_979 r_964 m_letters m_word a_c a_words m_markMany a_there a_tried a_best a_found m_thereMany m_foundMany m_orderHow m_orderRing m_orderMany m_hasBest m_bestTop m_bestBy a_weights a_shared m_random m_truePlace m_trueWay m_seconds m_done m_feelings m_tries m_leftOver m_playDoor m_playRing m_isOpen m_isOver m_wasTried m_hasPlayed a_feltNow a_last a_kept m_hasSeconds m_hasTurned m_hasRound a_hasFeels a_isOn m_firstAct m_meanTop m_meanBy a_order m_rowMany m_newSteps r_964) lk_RX12_155 ⟨rfl, rfl⟩ ⟨Nat.le_of_ble_eq_true rfl, Nat.le_of_ble_eq_true rfl⟩ 12 rfl rfl rfl [0] [1] rfl rfl (by decide) rfl hl.1 rfl (lv_room (Nat.le_of_ble_eq_true rfl)) dX12_next2_316 ⟨Nat.le_of_ble_eq_true rfl, Nat.le_of_ble_eq_true rfl⟩ (fun r_980 u_981 H locs hw hP hD hS => ?_)
              obtain ⟨he_r_980, hw⟩ := hw
              rcases hw with ⟨rfl, -⟩ | ⟨rfl, -⟩
              · skip
                refine lv_if_eq (tgt := 326) hx hb dX12_next2_319 (by decide) (fun _ => ?_) (fun h9 => absurd (by decide +kernel) h9)
                refine lv_iconst (v := 4) hx hb dX12_next2_326 (by decide) ?_
                refine va_put (D := G) (ci := 12) (v := .int 4) (ty := .int) (C := RX12) (T := TX12) (N := 65) hx hb hts inT12 tyX12 tyX12_ok nmX12 hown hK hP hD hS 1 rfl rfl 14 (by decide) (hts _ tw_1899) (fun _ h9 => h9) rfl (tyX12_ok 14 (by decide)) rfl rfl (Nat.le_of_ble_eq_true rfl) dX12_next2_327 (fun H locs hP hD hS => ?_)
                have hpost : (0 ≤ (4 : Int32).toInt ∧ (4 : Int32).toInt ≤ 4) ∧ (0 ≤ v_44.toInt ∧ v_44.toInt ≤ 900) ∧ (0 ≤ x_979.toInt ∧ x_979.toInt ≤ 900) ∧ (0 ≤ r_964.toInt ∧ r_964.toInt ≤ 9999) ∧ (0 ≤ m_letters.toInt ∧ m_letters.toInt ≤ 900) ∧ (m_behind.toInt ≤ x_979.toInt) ∧ ((4 : Int32).toInt = 0 ∨ m_behind.toInt < x_979.toInt) := ⟨(by decide +kernel), hr_v_44, (by omega), (z_rgw hr_r_964 (by decide) (by decide)), hr_m_letters, (by omega), (by omega)⟩
                have hX_983 : F_r_next2 m_textEnd m_behind m_number m_letters m_word g_tape = (((4 : Int32), v_44, x_979, r_964, m_letters, m_word) : Int32 × Int32 × Int32 × Int32 × Int32 × Int64) := by
                  refine hF_L8a.trans ?_
                  refine (F_r_next2_L8a_s ..).trans ?_
                  refine (if_pos c_960).trans ?_
                  refine (if_pos c_962).trans ?_
                  extract_lets -merge -useContext +onlyGivenNames w9 y9; have e9 : r_964 = w9 := he_r_964; clear_value w9; subst e9
                  extract_lets -merge -useContext +onlyGivenNames w9 y9; have e9 : (0 : Int32) = w9 := he_r_969; clear_value w9; subst e9
                  refine (if_pos rfl).trans ?_
                  extract_lets -merge -useContext +onlyGivenNames w9 y9; have e9 : (0 : Int32) = w9 := he_r_974; clear_value w9; subst e9
                  refine (if_pos rfl).trans ?_
                  try (extract_lets -merge -useContext +onlyGivenNames y9; have e9 : x_979 = y9 := (by first | exact he_x_979 | exact he_x_979.symm); clear_value y9; subst e9)
                  extract_lets -merge -useContext +onlyGivenNames w9 y9; have e9 : (0 : Int32) = w9 := he_r_980; clear_value w9; subst e9
                  refine (if_pos rfl).trans ?_
                  exact rfl
                exact hret _ _ _ _ _ (4, v_44, x_979, r_964, m_letters, m_word) [1, 0] hP hD hS rfl (by decide) dX12_next2_330 ⟨(congrArg (fun z9 => z9.1) hX_983).symm, (congrArg (fun z9 => z9.2.1) hX_983).symm, (congrArg (fun z9 => z9.2.2.1) hX_983).symm, (congrArg (fun z9 => z9.2.2.2.1) hX_983).symm, (congrArg (fun z9 => z9.2.2.2.2.1) hX_983).symm, (congrArg (fun z9 => z9.2.2.2.2.2) hX_983).symm, hpost⟩
              · skip
                refine lv_if_eq (tgt := 326) hx hb dX12_next2_319 (by decide) (fun h9 => absurd h9 (by decide +kernel)) (fun _ => ?_)
                refine lv_iconst (v := 3) hx hb dX12_next2_322 (by decide) ?_
                refine lv_goto (tgt := 327) hx hb dX12_next2_323 (by decide) ?_
                refine va_put (D := G) (ci := 12) (v := .int 3) (ty := .int) (C := RX12) (T := TX12) (N := 65) hx hb hts inT12 tyX12 tyX12_ok nmX12 hown hK hP hD hS 1 rfl rfl 14 (by decide) (hts _ tw_1899) (fun _ h9 => h9) rfl (tyX12_ok 14 (by decide)) rfl rfl (Nat.le_of_ble_eq_true rfl) dX12_next2_327 (fun H locs hP hD hS => ?_)
                have hpost : (0 ≤ (3 : Int32).toInt ∧ (3 : Int32).toInt ≤ 4) ∧ (0 ≤ v_44.toInt ∧ v_44.toInt ≤ 900) ∧ (0 ≤ x_979.toInt ∧ x_979.toInt ≤ 900) ∧ (0 ≤ r_964.toInt ∧ r_964.toInt ≤ 9999) ∧ (0 ≤ m_letters.toInt ∧ m_letters.toInt ≤ 900) ∧ (m_behind.toInt ≤ x_979.toInt) ∧ ((3 : Int32).toInt = 0 ∨ m_behind.toInt < x_979.toInt) := ⟨(by decide +kernel), hr_v_44, (by omega), (z_rgw hr_r_964 (by decide) (by decide)), hr_m_letters, (by omega), (by omega)⟩
                have hX_984 : F_r_next2 m_textEnd m_behind m_number m_letters m_word g_tape = (((3 : Int32), v_44, x_979, r_964, m_letters, m_word) : Int32 × Int32 × Int32 × Int32 × Int32 × Int64) := by
                  refine hF_L8a.trans ?_
                  refine (F_r_next2_L8a_s ..).trans ?_
                  refine (if_pos c_960).trans ?_
                  refine (if_pos c_962).trans ?_
                  extract_lets -merge -useContext +onlyGivenNames w9 y9; have e9 : r_964 = w9 := he_r_964; clear_value w9; subst e9
                  extract_lets -merge -useContext +onlyGivenNames w9 y9; have e9 : (0 : Int32) = w9 := he_r_969; clear_value w9; subst e9
                  refine (if_pos rfl).trans ?_
                  extract_lets -merge -useContext +onlyGivenNames w9 y9; have e9 : (0 : Int32) = w9 := he_r_974; clear_value w9; subst e9
                  refine (if_pos rfl).trans ?_
                  try (extract_lets -merge -useContext +onlyGivenNames y9; have e9 : x_979 = y9 := (by first | exact he_x_979 | exact he_x_979.symm); clear_value y9; subst e9)
                  extract_lets -merge -useContext +onlyGivenNames w9 y9; have e9 : (1 : Int32) = w9 := he_r_980; clear_value w9; subst e9
                  refine (if_neg (show ¬ (1 : Int32) = 0 by decide)).trans ?_
                  exact rfl
                exact hret _ _ _ _ _ (3, v_44, x_979, r_964, m_letters, m_word) [1, 0] hP hD hS rfl (by decide) dX12_next2_330 ⟨(congrArg (fun z9 => z9.1) hX_984).symm, (congrArg (fun z9 => z9.2.1) hX_984).symm, (congrArg (fun z9 => z9.2.2.1) hX_984).symm, (congrArg (fun z9 => z9.2.2.2.1) hX_984).symm, (congrArg (fun z9 => z9.2.2.2.2.1) hX_984).symm, (congrArg (fun z9 => z9.2.2.2.2.2) hX_984).symm, hpost⟩
            · skip
              refine lv_if_eq (tgt := 298) hx hb dX12_next2_202 (by decide) (fun h9 => absurd h9 (by decide +kernel)) (fun _ => ?_)
              refine lv_aload_n hx hb dX12_next2_205 rfl (lv_at hl 1 rfl) ?_
              refine lv_iconst (v := 0) hx hb dX12_next2_206 (by decide) ?_
              refine va_put (D := G) (ci := 12) (v := .int 0) (ty := .int) (C := RX12) (T := TX12) (N := 65) hx hb hts inT12 tyX12 tyX12_ok nmX12 hown hK hP hD hS 0 rfl rfl 17 (by decide) (hts _ tw_1902) (fun _ h9 => h9) rfl (tyX12_ok 17 (by decide)) rfl rfl (Nat.le_of_ble_eq_true rfl) dX12_next2_207 (fun H locs hP hD hS => ?_)
              have hlp_1102 : ∀ (n_L210a : Nat) (v_1040 : Int32) (v_1041 : Int32) (H : Heap) (locs : List Loc) (ls : Array Slot), (2147483647 - v_1040.toInt).toNat < n_L210a → (0 ≤ v_1040.toInt ∧ v_1040.toInt ≤ 900) → (0 ≤ v_1041.toInt ∧ v_1041.toInt ≤ 9999) → (v_44.toInt ≤ v_1040.toInt) → ((v_1040.toInt - v_44.toInt ≤ 0 → v_1041.toInt ≤ 0) ∧ (v_1040.toInt - v_44.toInt ≤ 1 → v_1041.toInt ≤ 9) ∧ (v_1040.toInt - v_44.toInt ≤ 2 → v_1041.toInt ≤ 99) ∧ (v_1040.toInt - v_44.toInt ≤ 3 → v_1041.toInt ≤ 999)) → (F_r_next2 m_textEnd m_behind m_number m_letters m_word g_tape = F_r_next2_L210a m_textEnd m_letters m_word g_tape v_44 n_L210a v_1040 v_1041) → va_P G vwCl [(h0, .inr (12, [.int m_status, .int m_thrown, .long m_above, .long m_under, .ref a_traySort, .ref a_trayMany, .ref a_numbers, .ref a_tape, .int m_taped, .int m_textEnd, .int m_faultKind, .int m_faultAt, .int m_bad, .int m_badAt, .int m_token, .int v_44, .int v_1040, .int v_1041, .int m_letters, .long m_word, .ref a_c, .ref a_words, .int m_markMany, .ref a_there, .ref a_tried, .ref a_best, .ref a_found, .int m_thereMany, .int m_foundMany, .int m_orderHow, .int m_orderRing, .int m_orderMany, .int m_hasBest, .long m_bestTop, .long m_bestBy, .ref a_weights, .ref a_shared, .int m_random, .int m_truePlace, .int m_trueWay, .int m_seconds, .int m_done, .int m_feelings, .int m_tries, .int m_leftOver, .int m_playDoor, .int m_playRing, .int m_isOpen, .int m_isOver, .int m_wasTried, .int m_hasPlayed, .ref a_feltNow, .ref a_last, .ref a_kept, .int m_hasSeconds, .int m_hasTurned, .int m_hasRound, .ref a_hasFeels, .ref a_isOn, .int m_firstAct, .long m_meanTop, .long m_meanBy, .ref a_order, .int m_rowMany, .int m_newSteps])), (a_tape, .inl (cA.1 2, 900, .inl g_tape))] H → va_D A [(h0, .inr (12, [.int m_status, .int m_thrown, .long m_above, .long m_under, .ref a_traySort, .ref a_trayMany, .ref a_numbers, .ref a_tape, .int m_taped, .int m_textEnd, .int m_faultKind, .int m_faultAt, .int m_bad, .int m_badAt, .int m_token, .int v_44, .int v_1040, .int v_1041, .int m_letters, .long m_word, .ref a_c, .ref a_words, .int m_markMany, .ref a_there, .ref a_tried, .ref a_best, .ref a_found, .int m_thereMany, .int m_foundMany, .int m_orderHow, .int m_orderRing, .int m_orderMany, .int m_hasBest, .long m_bestTop, .long m_bestBy, .ref a_weights, .ref a_shared, .int m_random, .int m_truePlace, .int m_trueWay, .int m_seconds, .int m_done, .int m_feelings, .int m_tries, .int m_leftOver, .int m_playDoor, .int m_playRing, .int m_isOpen, .int m_isOver, .int m_wasTried, .int m_hasPlayed, .ref a_feltNow, .ref a_last, .ref a_kept, .int m_hasSeconds, .int m_hasTurned, .int m_hasRound, .ref a_hasFeels, .ref a_isOn, .int m_firstAct, .long m_meanTop, .long m_meanBy, .ref a_order, .int m_rowMany, .int m_newSteps])), (a_tape, .inl (cA.1 2, 900, .inl g_tape))] → va_S A s.heap H locs → lv_has ls 2 [(0, .ref h0), (1, .int r_964)] → W p l e ({ frames := 1, cells := 0, slots := 0, locals := 21 }) s m args below meth c H locs 0 0 Q (F0 m 210 ls []) := by
                intro n_L210a
                induction n_L210a with
                | zero =>
                  intro v_1040 v_1041 H locs ls hmu_hlp_1102 hr_v_1040 hr_v_1041 hi_1069 hi_1070 hF_L210a hP hD hS hl
                  exact absurd hmu_hlp_1102 (Nat.not_lt_zero _)
                | succ n_L210a ih_1103 =>
                  intro v_1040 v_1041 H locs ls hmu_hlp_1102 hr_v_1040 hr_v_1041 hi_1069 hi_1070 hF_L210a hP hD hS hl
                  refine lv_aload_n hx hb dX12_next2_210 rfl (lv_at hl 0 rfl) ?_
                  refine lv_aload_n hx hb dX12_next2_211 rfl (lv_at hl 0 rfl) ?_
                  refine va_get (D := G) (ci := 12) (v := .int v_1040) (C := RX12) (T := TX12) (N := 65) hx hb hts inT12 hown hK hP 0 rfl rfl 16 (by decide) (hts _ tw_1901) (fun _ h9 => h9) rfl dX12_next2_212 ?_
                  refine z_callVi (As := [.int v_1040]) (rest := []) (wr := []) ⟨hx, hb, hml, hown, hts⟩ hK hE hT hP hD hS hA (r_look2 l G cA h0 m_status m_thrown m_above m_under a_traySort a_trayMany a_numbers a_tape m_taped m_textEnd m_faultKind m_faultAt m_bad m_badAt m_token v_44 v_1040 v_1041 m_letters m_word a_c a_words m_markMany a_there a_tried a_best a_found m_thereMany m_foundMany m_orderHow m_orderRing m_orderMany m_hasBest m_bestTop m_bestBy a_weights a_shared m_random m_truePlace m_trueWay m_seconds m_done m_feelings m_tries m_leftOver m_playDoor m_playRing m_isOpen m_isOver m_wasTried m_hasPlayed a_feltNow a_last a_kept m_hasSeconds m_hasTurned m_hasRound a_hasFeels a_isOn m_firstAct m_meanTop m_meanBy a_order m_rowMany m_newSteps g_tape v_1040 hr_v_1040 hr_m_textEnd) lk_RX12_130 ⟨rfl, rfl⟩ ⟨Nat.le_of_ble_eq_true rfl, Nat.le_of_ble_eq_true rfl⟩ 12 rfl rfl rfl [0, 1] [] rfl rfl (by decide) rfl hl.1 rfl (lv_room (Nat.le_of_ble_eq_true rfl)) dX12_next2_215 ⟨Nat.le_of_ble_eq_true rfl, Nat.le_of_ble_eq_true rfl⟩ (fun r_1104 u_1105 H locs hw hP hD hS => ?_)
                  obtain ⟨he_r_1104, hw⟩ := hw
                  obtain ⟨hr_r_1104, hf_1107, hf_1108⟩ := hw
                  have hz_r_1104 := z_lksame (hlk_r_964) hf_1108 (Z := v_1040.toInt) (Y := v_44.toInt)
                  refine z_callSi (As := [.int r_1104]) (rest := []) (wr := [(h0, .inr (12, [.int m_status, .int m_thrown, .long m_above, .long m_under, .ref a_traySort, .ref a_trayMany, .ref a_numbers, .ref a_tape, .int m_taped, .int m_textEnd, .int m_faultKind, .int m_faultAt, .int m_bad, .int m_badAt, .int m_token, .int v_44, .int v_1040, .int v_1041, .int m_letters, .long m_word, .ref a_c, .ref a_words, .int m_markMany, .ref a_there, .ref a_tried, .ref a_best, .ref a_found, .int m_thereMany, .int m_foundMany, .int m_orderHow, .int m_orderRing, .int m_orderMany, .int m_hasBest, .long m_bestTop, .long m_bestBy, .ref a_weights, .ref a_shared, .int m_random, .int m_truePlace, .int m_trueWay, .int m_seconds, .int m_done, .int m_feelings, .int m_tries, .int m_leftOver, .int m_playDoor, .int m_playRing, .int m_isOpen, .int m_isOver, .int m_wasTried, .int m_hasPlayed, .ref a_feltNow, .ref a_last, .ref a_kept, .int m_hasSeconds, .int m_hasTurned, .int m_hasRound, .ref a_hasFeels, .ref a_isOn, .int m_firstAct, .long m_meanTop, .long m_meanBy, .ref a_order, .int m_rowMany, .int m_newSteps])), (a_tape, .inl (cA.1 2, 900, .inl g_tape))]) ⟨hx, hb, hml, hown, hts⟩ hK hE hT hP hD hS hA (r_isDigit l G cA r_1104) lk_RX12_149 ⟨rfl, rfl⟩ ⟨Nat.le_of_ble_eq_true rfl, Nat.le_of_ble_eq_true rfl⟩ [] [0, 1] rfl rfl (by decide) rfl hl.1 rfl (lv_room (Nat.le_of_ble_eq_true rfl)) dX12_next2_218 ⟨Nat.le_of_ble_eq_true rfl, Nat.le_of_ble_eq_true rfl⟩ (fun r_1109 u_1110 H locs hw hP hD hS => ?_)
                  obtain ⟨he_r_1109, hw⟩ := hw
                  rcases hw with ⟨rfl, hf_1112⟩ | ⟨rfl, hf_1113⟩
                  · skip
                    refine lv_if_eq (tgt := 273) hx hb dX12_next2_221 (by decide) (fun _ => ?_) (fun h9 => absurd (by decide +kernel) h9)
                    refine lv_aload_n hx hb dX12_next2_273 rfl (lv_at hl 0 rfl) ?_
                    refine lv_aload_n hx hb dX12_next2_274 rfl (lv_at hl 0 rfl) ?_
                    refine va_get (D := G) (ci := 12) (v := .int v_1040) (C := RX12) (T := TX12) (N := 65) hx hb hts inT12 hown hK hP 0 rfl rfl 16 (by decide) (hts _ tw_1901) (fun _ h9 => h9) rfl dX12_next2_275 ?_
                    refine lv_aload_n hx hb dX12_next2_278 rfl (lv_at hl 0 rfl) ?_
                    refine va_get (D := G) (ci := 12) (v := .int v_44) (C := RX12) (T := TX12) (N := 65) hx hb hts inT12 hown hK hP 0 rfl rfl 15 (by decide) (hts _ tw_1900) (fun _ h9 => h9) rfl dX12_next2_279 ?_
                    refine lv_isub hx hb dX12_next2_282 ?_
                    refine lv_topi (fun x_1114 he_x_1114 => ?_)
                    have hq_x_1114 := z_subq he_x_1114 (rfl : v_1040.toInt = _) (rfl : v_44.toInt = _) (by omega) (by omega)
                    refine lv_iconst (v := 4) hx hb dX12_next2_283 (by decide) ?_
                    refine lv_icmp_le (tgt := 291) hx hb dX12_next2_284 (by decide) (fun c_1115 => ?_) (fun c_1115 => ?_)
                    · have b_1116 := z_fleT c_1115
                      refine lv_iconst (v := 2) hx hb dX12_next2_291 (by decide) ?_
                      refine va_put (D := G) (ci := 12) (v := .int 2) (ty := .int) (C := RX12) (T := TX12) (N := 65) hx hb hts inT12 tyX12 tyX12_ok nmX12 hown hK hP hD hS 0 rfl rfl 14 (by decide) (hts _ tw_1899) (fun _ h9 => h9) rfl (tyX12_ok 14 (by decide)) rfl rfl (Nat.le_of_ble_eq_true rfl) dX12_next2_292 (fun H locs hP hD hS => ?_)
                      refine lv_goto (tgt := 330) hx hb dX12_next2_295 (by decide) ?_
                      have hpost : (0 ≤ (2 : Int32).toInt ∧ (2 : Int32).toInt ≤ 4) ∧ (0 ≤ v_44.toInt ∧ v_44.toInt ≤ 900) ∧ (0 ≤ v_1040.toInt ∧ v_1040.toInt ≤ 900) ∧ (0 ≤ v_1041.toInt ∧ v_1041.toInt ≤ 9999) ∧ (0 ≤ m_letters.toInt ∧ m_letters.toInt ≤ 900) ∧ (m_behind.toInt ≤ v_1040.toInt) ∧ ((2 : Int32).toInt = 0 ∨ m_behind.toInt < v_1040.toInt) := ⟨(by decide +kernel), hr_v_44, hr_v_1040, hr_v_1041, hr_m_letters, (by omega), (by omega)⟩
                      have hX_1117 : F_r_next2 m_textEnd m_behind m_number m_letters m_word g_tape = (((2 : Int32), v_44, v_1040, v_1041, m_letters, m_word) : Int32 × Int32 × Int32 × Int32 × Int32 × Int64) := by
                        refine hF_L210a.trans ?_
                        refine (F_r_next2_L210a_s ..).trans ?_
                        extract_lets -merge -useContext +onlyGivenNames w9 y9; have e9 : r_1104 = w9 := he_r_1104; clear_value w9; subst e9
                        extract_lets -merge -useContext +onlyGivenNames w9 y9; have e9 : (0 : Int32) = w9 := he_r_1109; clear_value w9; subst e9
                        refine (if_pos rfl).trans ?_
                        try (extract_lets -merge -useContext +onlyGivenNames y9; have e9 : x_1114 = y9 := (by first | exact he_x_1114 | exact he_x_1114.symm); clear_value y9; subst e9)
                        refine (if_pos c_1115).trans ?_
                        exact rfl
                      exact hret _ _ _ _ _ (2, v_44, v_1040, v_1041, m_letters, m_word) [0, 1] hP hD hS rfl (by decide) dX12_next2_330 ⟨(congrArg (fun z9 => z9.1) hX_1117).symm, (congrArg (fun z9 => z9.2.1) hX_1117).symm, (congrArg (fun z9 => z9.2.2.1) hX_1117).symm, (congrArg (fun z9 => z9.2.2.2.1) hX_1117).symm, (congrArg (fun z9 => z9.2.2.2.2.1) hX_1117).symm, (congrArg (fun z9 => z9.2.2.2.2.2) hX_1117).symm, hpost⟩
                    · have b_1118 := z_fgtF c_1115
                      refine lv_iconst (v := 4) hx hb dX12_next2_287 (by decide) ?_
                      refine lv_goto (tgt := 292) hx hb dX12_next2_288 (by decide) ?_
                      refine va_put (D := G) (ci := 12) (v := .int 4) (ty := .int) (C := RX12) (T := TX12) (N := 65) hx hb hts inT12 tyX12 tyX12_ok nmX12 hown hK hP hD hS 0 rfl rfl 14 (by decide) (hts _ tw_1899) (fun _ h9 => h9) rfl (tyX12_ok 14 (by decide)) rfl rfl (Nat.le_of_ble_eq_true rfl) dX12_next2_292 (fun H locs hP hD hS => ?_)
                      refine lv_goto (tgt := 330) hx hb dX12_next2_295 (by decide) ?_
                      have hpost : (0 ≤ (4 : Int32).toInt ∧ (4 : Int32).toInt ≤ 4) ∧ (0 ≤ v_44.toInt ∧ v_44.toInt ≤ 900) ∧ (0 ≤ v_1040.toInt ∧ v_1040.toInt ≤ 900) ∧ (0 ≤ v_1041.toInt ∧ v_1041.toInt ≤ 9999) ∧ (0 ≤ m_letters.toInt ∧ m_letters.toInt ≤ 900) ∧ (m_behind.toInt ≤ v_1040.toInt) ∧ ((4 : Int32).toInt = 0 ∨ m_behind.toInt < v_1040.toInt) := ⟨(by decide +kernel), hr_v_44, hr_v_1040, hr_v_1041, hr_m_letters, (by omega), (by omega)⟩
                      have hX_1119 : F_r_next2 m_textEnd m_behind m_number m_letters m_word g_tape = (((4 : Int32), v_44, v_1040, v_1041, m_letters, m_word) : Int32 × Int32 × Int32 × Int32 × Int32 × Int64) := by
                        refine hF_L210a.trans ?_
                        refine (F_r_next2_L210a_s ..).trans ?_
                        extract_lets -merge -useContext +onlyGivenNames w9 y9; have e9 : r_1104 = w9 := he_r_1104; clear_value w9; subst e9
                        extract_lets -merge -useContext +onlyGivenNames w9 y9; have e9 : (0 : Int32) = w9 := he_r_1109; clear_value w9; subst e9
                        refine (if_pos rfl).trans ?_
                        try (extract_lets -merge -useContext +onlyGivenNames y9; have e9 : x_1114 = y9 := (by first | exact he_x_1114 | exact he_x_1114.symm); clear_value y9; subst e9)
                        refine (if_neg c_1115).trans ?_
                        exact rfl
                      exact hret _ _ _ _ _ (4, v_44, v_1040, v_1041, m_letters, m_word) [0, 1] hP hD hS rfl (by decide) dX12_next2_330 ⟨(congrArg (fun z9 => z9.1) hX_1119).symm, (congrArg (fun z9 => z9.2.1) hX_1119).symm, (congrArg (fun z9 => z9.2.2.1) hX_1119).symm, (congrArg (fun z9 => z9.2.2.2.1) hX_1119).symm, (congrArg (fun z9 => z9.2.2.2.2.1) hX_1119).symm, (congrArg (fun z9 => z9.2.2.2.2.2) hX_1119).symm, hpost⟩
                  · skip
                    refine lv_if_eq (tgt := 273) hx hb dX12_next2_221 (by decide) (fun h9 => absurd h9 (by decide +kernel)) (fun _ => ?_)
                    refine lv_aload_n hx hb dX12_next2_224 rfl (lv_at hl 0 rfl) ?_
                    refine va_get (D := G) (ci := 12) (v := .int v_1040) (C := RX12) (T := TX12) (N := 65) hx hb hts inT12 hown hK hP 0 rfl rfl 16 (by decide) (hts _ tw_1901) (fun _ h9 => h9) rfl dX12_next2_225 ?_
                    refine lv_aload_n hx hb dX12_next2_228 rfl (lv_at hl 0 rfl) ?_
                    refine va_get (D := G) (ci := 12) (v := .int v_44) (C := RX12) (T := TX12) (N := 65) hx hb hts inT12 hown hK hP 0 rfl rfl 15 (by decide) (hts _ tw_1900) (fun _ h9 => h9) rfl dX12_next2_229 ?_
                    refine lv_isub hx hb dX12_next2_232 ?_
                    refine lv_topi (fun x_1120 he_x_1120 => ?_)
                    have hq_x_1120 := z_subq he_x_1120 (rfl : v_1040.toInt = _) (rfl : v_44.toInt = _) (by omega) (by omega)
                    refine lv_iconst (v := 4) hx hb dX12_next2_233 (by decide) ?_
                    refine lv_icmp_ge (tgt := 260) hx hb dX12_next2_234 (by decide) (fun c_1121 => ?_) (fun c_1121 => ?_)
                    · have b_1122 := z_fgeT c_1121
                      refine lv_aload_n hx hb dX12_next2_260 rfl (lv_at hl 0 rfl) ?_
                      refine lv_dup hx hb dX12_next2_261 rfl ?_
                      refine va_get (D := G) (ci := 12) (v := .int v_1040) (C := RX12) (T := TX12) (N := 65) hx hb hts inT12 hown hK hP 0 rfl rfl 16 (by decide) (hts _ tw_1901) (fun _ h9 => h9) rfl dX12_next2_262 ?_
                      refine lv_iconst (v := 1) hx hb dX12_next2_265 (by decide) ?_
                      refine lv_iadd hx hb dX12_next2_266 ?_
                      refine lv_topi (fun x_1123 he_x_1123 => ?_)
                      have hq_x_1123 := z_addq he_x_1123 (rfl : v_1040.toInt = _) hk_1 (by omega) (by omega)
                      have hn_k_1124 : 0 ≤ x_1123.toInt ∧ x_1123.toInt ≤ 900 := by omega
                      refine va_put (D := G) (ci := 12) (v := .int x_1123) (ty := .int) (C := RX12) (T := TX12) (N := 65) hx hb hts inT12 tyX12 tyX12_ok nmX12 hown hK hP hD hS 0 rfl rfl 16 (by decide) (hts _ tw_1901) (fun _ h9 => h9) rfl (tyX12_ok 16 (by decide)) rfl rfl (Nat.le_of_ble_eq_true rfl) dX12_next2_267 (fun H locs hP hD hS => ?_)
                      refine lv_goto (tgt := 210) hx hb dX12_next2_270 (by decide) ?_
                      have hX_1125 : F_r_next2 m_textEnd m_behind m_number m_letters m_word g_tape = F_r_next2_L210a m_textEnd m_letters m_word g_tape v_44 n_L210a x_1123 v_1041 := by
                        refine hF_L210a.trans ?_
                        refine (F_r_next2_L210a_s ..).trans ?_
                        extract_lets -merge -useContext +onlyGivenNames w9 y9; have e9 : r_1104 = w9 := he_r_1104; clear_value w9; subst e9
                        extract_lets -merge -useContext +onlyGivenNames w9 y9; have e9 : (1 : Int32) = w9 := he_r_1109; clear_value w9; subst e9
                        refine (if_neg (show ¬ (1 : Int32) = 0 by decide)).trans ?_
                        try (extract_lets -merge -useContext +onlyGivenNames y9; have e9 : x_1120 = y9 := (by first | exact he_x_1120 | exact he_x_1120.symm); clear_value y9; subst e9)
                        refine (if_pos c_1121).trans ?_
                        try (extract_lets -merge -useContext +onlyGivenNames y9; have e9 : x_1123 = y9 := (by first | exact he_x_1123 | exact he_x_1123.symm); clear_value y9; subst e9)
                        exact rfl
                      exact ih_1103 x_1123 v_1041 H locs ls (by omega) (by omega) hr_v_1041 (by omega) (by omega) hX_1125 hP hD hS (lv_sub hl [0, 1] rfl)
                    · have b_1126 := z_fltF c_1121
                      refine lv_aload_n hx hb dX12_next2_237 rfl (lv_at hl 0 rfl) ?_
                      refine lv_bipush (v := 10) hx hb dX12_next2_238 (by decide) ?_
                      refine lv_aload_n hx hb dX12_next2_240 rfl (lv_at hl 0 rfl) ?_
                      refine va_get (D := G) (ci := 12) (v := .int v_1041) (C := RX12) (T := TX12) (N := 65) hx hb hts inT12 hown hK hP 0 rfl rfl 17 (by decide) (hts _ tw_1902) (fun _ h9 => h9) rfl dX12_next2_241 ?_
                      refine lv_imul hx hb dX12_next2_244 ?_
                      refine lv_topi (fun x_1127 he_x_1127 => ?_)
                      have hq_x_1127 := z_mulq he_x_1127 hk_10 (rfl : v_1041.toInt = _) (by omega) (by omega)
                      refine lv_aload_n hx hb dX12_next2_245 rfl (lv_at hl 0 rfl) ?_
                      refine lv_aload_n hx hb dX12_next2_246 rfl (lv_at hl 0 rfl) ?_
                      refine va_get (D := G) (ci := 12) (v := .int v_1040) (C := RX12) (T := TX12) (N := 65) hx hb hts inT12 hown hK hP 0 rfl rfl 16 (by decide) (hts _ tw_1901) (fun _ h9 => h9) rfl dX12_next2_247 ?_
                      refine z_callVi (As := [.int v_1040]) (rest := [.int x_1127, .ref h0]) (wr := []) ⟨hx, hb, hml, hown, hts⟩ hK hE hT hP hD hS hA (r_look2 l G cA h0 m_status m_thrown m_above m_under a_traySort a_trayMany a_numbers a_tape m_taped m_textEnd m_faultKind m_faultAt m_bad m_badAt m_token v_44 v_1040 v_1041 m_letters m_word a_c a_words m_markMany a_there a_tried a_best a_found m_thereMany m_foundMany m_orderHow m_orderRing m_orderMany m_hasBest m_bestTop m_bestBy a_weights a_shared m_random m_truePlace m_trueWay m_seconds m_done m_feelings m_tries m_leftOver m_playDoor m_playRing m_isOpen m_isOver m_wasTried m_hasPlayed a_feltNow a_last a_kept m_hasSeconds m_hasTurned m_hasRound a_hasFeels a_isOn m_firstAct m_meanTop m_meanBy a_order m_rowMany m_newSteps g_tape v_1040 hr_v_1040 hr_m_textEnd) lk_RX12_130 ⟨rfl, rfl⟩ ⟨Nat.le_of_ble_eq_true rfl, Nat.le_of_ble_eq_true rfl⟩ 12 rfl rfl rfl [0, 1] [] rfl rfl (by decide) rfl hl.1 rfl (lv_room (Nat.le_of_ble_eq_true rfl)) dX12_next2_250 ⟨Nat.le_of_ble_eq_true rfl, Nat.le_of_ble_eq_true rfl⟩ (fun r_1128 u_1129 H locs hw hP hD hS => ?_)
                      obtain ⟨he_r_1128, hw⟩ := hw
                      obtain ⟨hr_r_1128, hf_1131, hf_1132⟩ := hw
                      refine lv_iadd hx hb dX12_next2_253 ?_
                      refine lv_topi (fun x_1133 he_x_1133 => ?_)
                      have hq_x_1133 := z_addq he_x_1133 (rfl : x_1127.toInt = _) (rfl : r_1128.toInt = _) (by omega) (by omega)
                      refine lv_bipush (v := 48) hx hb dX12_next2_254 (by decide) ?_
                      refine lv_isub hx hb dX12_next2_256 ?_
                      refine lv_topi (fun x_1134 he_x_1134 => ?_)
                      have hq_x_1134 := z_subq he_x_1134 (rfl : x_1133.toInt = _) hk_48 (by omega) (by omega)
                      have hn_k_1135 : 0 ≤ x_1134.toInt ∧ x_1134.toInt ≤ 9999 := by omega
                      refine va_put (D := G) (ci := 12) (v := .int x_1134) (ty := .int) (C := RX12) (T := TX12) (N := 65) hx hb hts inT12 tyX12 tyX12_ok nmX12 hown hK hP hD hS 0 rfl rfl 17 (by decide) (hts _ tw_1902) (fun _ h9 => h9) rfl (tyX12_ok 17 (by decide)) rfl rfl (Nat.le_of_ble_eq_true rfl) dX12_next2_257 (fun H locs hP hD hS => ?_)
                      refine lv_aload_n hx hb dX12_next2_260 rfl (lv_at hl 0 rfl) ?_
                      refine lv_dup hx hb dX12_next2_261 rfl ?_
                      refine va_get (D := G) (ci := 12) (v := .int v_1040) (C := RX12) (T := TX12) (N := 65) hx hb hts inT12 hown hK hP 0 rfl rfl 16 (by decide) (hts _ tw_1901) (fun _ h9 => h9) rfl dX12_next2_262 ?_
                      refine lv_iconst (v := 1) hx hb dX12_next2_265 (by decide) ?_
                      refine lv_iadd hx hb dX12_next2_266 ?_
                      refine lv_topi (fun x_1136 he_x_1136 => ?_)
                      have hq_x_1136 := z_addq he_x_1136 (rfl : v_1040.toInt = _) hk_1 (by omega) (by omega)
                      have hn_k_1137 : 0 ≤ x_1136.toInt ∧ x_1136.toInt ≤ 900 := by omega
                      refine va_put (D := G) (ci := 12) (v := .int x_1136) (ty := .int) (C := RX12) (T := TX12) (N := 65) hx hb hts inT12 tyX12 tyX12_ok nmX12 hown hK hP hD hS 0 rfl rfl 16 (by decide) (hts _ tw_1901) (fun _ h9 => h9) rfl (tyX12_ok 16 (by decide)) rfl rfl (Nat.le_of_ble_eq_true rfl) dX12_next2_267 (fun H locs hP hD hS => ?_)
                      refine lv_goto (tgt := 210) hx hb dX12_next2_270 (by decide) ?_
                      have hX_1138 : F_r_next2 m_textEnd m_behind m_number m_letters m_word g_tape = F_r_next2_L210a m_textEnd m_letters m_word g_tape v_44 n_L210a x_1136 x_1134 := by
                        refine hF_L210a.trans ?_
                        refine (F_r_next2_L210a_s ..).trans ?_
                        extract_lets -merge -useContext +onlyGivenNames w9 y9; have e9 : r_1104 = w9 := he_r_1104; clear_value w9; subst e9
                        extract_lets -merge -useContext +onlyGivenNames w9 y9; have e9 : (1 : Int32) = w9 := he_r_1109; clear_value w9; subst e9
                        refine (if_neg (show ¬ (1 : Int32) = 0 by decide)).trans ?_
                        try (extract_lets -merge -useContext +onlyGivenNames y9; have e9 : x_1120 = y9 := (by first | exact he_x_1120 | exact he_x_1120.symm); clear_value y9; subst e9)
                        refine (if_neg c_1121).trans ?_
                        try (extract_lets -merge -useContext +onlyGivenNames y9; have e9 : x_1127 = y9 := (by first | exact he_x_1127 | exact he_x_1127.symm); clear_value y9; subst e9)
                        extract_lets -merge -useContext +onlyGivenNames w9 y9; have e9 : r_1128 = w9 := he_r_1128; clear_value w9; subst e9
                        try (extract_lets -merge -useContext +onlyGivenNames y9; have e9 : x_1133 = y9 := (by first | exact he_x_1133 | exact he_x_1133.symm); clear_value y9; subst e9)
                        try (extract_lets -merge -useContext +onlyGivenNames y9; have e9 : x_1134 = y9 := (by first | exact he_x_1134 | exact he_x_1134.symm); clear_value y9; subst e9)
                        try (extract_lets -merge -useContext +onlyGivenNames y9; have e9 : x_1136 = y9 := (by first | exact he_x_1136 | exact he_x_1136.symm); clear_value y9; subst e9)
                        exact rfl
                      exact ih_1103 x_1136 x_1134 H locs ls (by omega) (by omega) (by omega) (by omega) (by omega) hX_1138 hP hD hS (lv_sub hl [0, 1] rfl)
              have hX_1139 : F_r_next2 m_textEnd m_behind m_number m_letters m_word g_tape = F_r_next2_L210a m_textEnd m_letters m_word g_tape v_44 ((2147483647 - v_44.toInt).toNat + 1) v_44 (0 : Int32) := by
                refine hF_L8a.trans ?_
                refine (F_r_next2_L8a_s ..).trans ?_
                refine (if_pos c_960).trans ?_
                refine (if_pos c_962).trans ?_
                extract_lets -merge -useContext +onlyGivenNames w9 y9; have e9 : r_964 = w9 := he_r_964; clear_value w9; subst e9
                extract_lets -merge -useContext +onlyGivenNames w9 y9; have e9 : (0 : Int32) = w9 := he_r_969; clear_value w9; subst e9
                refine (if_pos rfl).trans ?_
                extract_lets -merge -useContext +onlyGivenNames w9 y9; have e9 : (1 : Int32) = w9 := he_r_974; clear_value w9; subst e9
                refine (if_neg (show ¬ (1 : Int32) = 0 by decide)).trans ?_
                exact rfl
              exact hlp_1102 ((2147483647 - v_44.toInt).toNat + 1) v_44 0 _ _ _ (Nat.lt_succ_self _) hr_v_44 (by decide +kernel) (by omega) (by omega) hX_1139 hP hD hS (lv_sub hl [1, 0] rfl)
          · skip
            refine lv_if_eq (tgt := 198) hx hb dX12_next2_96 (by decide) (fun h9 => absurd h9 (by decide +kernel)) (fun _ => ?_)
            refine lv_aload_n hx hb dX12_next2_99 rfl (lv_at hl 1 rfl) ?_
            refine lv_iconst (v := 1) hx hb dX12_next2_100 (by decide) ?_
            refine va_put (D := G) (ci := 12) (v := .int 1) (ty := .int) (C := RX12) (T := TX12) (N := 65) hx hb hts inT12 tyX12 tyX12_ok nmX12 hown hK hP hD hS 0 rfl rfl 14 (by decide) (hts _ tw_1899) (fun _ h9 => h9) rfl (tyX12_ok 14 (by decide)) rfl rfl (Nat.le_of_ble_eq_true rfl) dX12_next2_101 (fun H locs hP hD hS => ?_)
            refine lv_aload_n hx hb dX12_next2_104 rfl (lv_at hl 1 rfl) ?_
            refine lv_lconst (v := 0) hx hb dX12_next2_105 (by decide) ?_
            refine va_put (D := G) (ci := 12) (v := .long 0) (ty := .long) (C := RX12) (T := TX12) (N := 65) hx hb hts inT12 tyX12 tyX12_ok nmX12 hown hK hP hD hS 0 rfl rfl 19 (by decide) (hts _ tw_1904) (fun _ h9 => h9) rfl (tyX12_ok 19 (by decide)) rfl rfl (Nat.le_of_ble_eq_true rfl) dX12_next2_106 (fun H locs hP hD hS => ?_)
            have hlp_1370 : ∀ (n_L109a : Nat) (v_1311 : Int32) (v_1312 : Int64) (H : Heap) (locs : List Loc) (ls : Array Slot), (2147483647 - v_1311.toInt).toNat < n_L109a → (0 ≤ v_1311.toInt ∧ v_1311.toInt ≤ 900) → (v_44.toInt ≤ v_1311.toInt) → (F_r_next2 m_textEnd m_behind m_number m_letters m_word g_tape = F_r_next2_L109a m_textEnd m_number g_tape v_44 n_L109a v_1311 v_1312) → va_P G vwCl [(h0, .inr (12, [.int m_status, .int m_thrown, .long m_above, .long m_under, .ref a_traySort, .ref a_trayMany, .ref a_numbers, .ref a_tape, .int m_taped, .int m_textEnd, .int m_faultKind, .int m_faultAt, .int m_bad, .int m_badAt, .int 1, .int v_44, .int v_1311, .int m_number, .int m_letters, .long v_1312, .ref a_c, .ref a_words, .int m_markMany, .ref a_there, .ref a_tried, .ref a_best, .ref a_found, .int m_thereMany, .int m_foundMany, .int m_orderHow, .int m_orderRing, .int m_orderMany, .int m_hasBest, .long m_bestTop, .long m_bestBy, .ref a_weights, .ref a_shared, .int m_random, .int m_truePlace, .int m_trueWay, .int m_seconds, .int m_done, .int m_feelings, .int m_tries, .int m_leftOver, .int m_playDoor, .int m_playRing, .int m_isOpen, .int m_isOver, .int m_wasTried, .int m_hasPlayed, .ref a_feltNow, .ref a_last, .ref a_kept, .int m_hasSeconds, .int m_hasTurned, .int m_hasRound, .ref a_hasFeels, .ref a_isOn, .int m_firstAct, .long m_meanTop, .long m_meanBy, .ref a_order, .int m_rowMany, .int m_newSteps])), (a_tape, .inl (cA.1 2, 900, .inl g_tape))] H → va_D A [(h0, .inr (12, [.int m_status, .int m_thrown, .long m_above, .long m_under, .ref a_traySort, .ref a_trayMany, .ref a_numbers, .ref a_tape, .int m_taped, .int m_textEnd, .int m_faultKind, .int m_faultAt, .int m_bad, .int m_badAt, .int 1, .int v_44, .int v_1311, .int m_number, .int m_letters, .long v_1312, .ref a_c, .ref a_words, .int m_markMany, .ref a_there, .ref a_tried, .ref a_best, .ref a_found, .int m_thereMany, .int m_foundMany, .int m_orderHow, .int m_orderRing, .int m_orderMany, .int m_hasBest, .long m_bestTop, .long m_bestBy, .ref a_weights, .ref a_shared, .int m_random, .int m_truePlace, .int m_trueWay, .int m_seconds, .int m_done, .int m_feelings, .int m_tries, .int m_leftOver, .int m_playDoor, .int m_playRing, .int m_isOpen, .int m_isOver, .int m_wasTried, .int m_hasPlayed, .ref a_feltNow, .ref a_last, .ref a_kept, .int m_hasSeconds, .int m_hasTurned, .int m_hasRound, .ref a_hasFeels, .ref a_isOn, .int m_firstAct, .long m_meanTop, .long m_meanBy, .ref a_order, .int m_rowMany, .int m_newSteps])), (a_tape, .inl (cA.1 2, 900, .inl g_tape))] → va_S A s.heap H locs → lv_has ls 2 [(0, .ref h0), (1, .int r_964)] → W p l e ({ frames := 1, cells := 0, slots := 0, locals := 21 }) s m args below meth c H locs 0 0 Q (F0 m 109 ls []) := by
              intro n_L109a
              induction n_L109a with
              | zero =>
                intro v_1311 v_1312 H locs ls hmu_hlp_1370 hr_v_1311 hi_1340 hF_L109a hP hD hS hl
                exact absurd hmu_hlp_1370 (Nat.not_lt_zero _)
              | succ n_L109a ih_1371 =>
                intro v_1311 v_1312 H locs ls hmu_hlp_1370 hr_v_1311 hi_1340 hF_L109a hP hD hS hl
                refine lv_aload_n hx hb dX12_next2_109 rfl (lv_at hl 0 rfl) ?_
                refine lv_aload_n hx hb dX12_next2_110 rfl (lv_at hl 0 rfl) ?_
                refine va_get (D := G) (ci := 12) (v := .int v_1311) (C := RX12) (T := TX12) (N := 65) hx hb hts inT12 hown hK hP 0 rfl rfl 16 (by decide) (hts _ tw_1901) (fun _ h9 => h9) rfl dX12_next2_111 ?_
                refine z_callVi (As := [.int v_1311]) (rest := []) (wr := []) ⟨hx, hb, hml, hown, hts⟩ hK hE hT hP hD hS hA (r_look2 l G cA h0 m_status m_thrown m_above m_under a_traySort a_trayMany a_numbers a_tape m_taped m_textEnd m_faultKind m_faultAt m_bad m_badAt 1 v_44 v_1311 m_number m_letters v_1312 a_c a_words m_markMany a_there a_tried a_best a_found m_thereMany m_foundMany m_orderHow m_orderRing m_orderMany m_hasBest m_bestTop m_bestBy a_weights a_shared m_random m_truePlace m_trueWay m_seconds m_done m_feelings m_tries m_leftOver m_playDoor m_playRing m_isOpen m_isOver m_wasTried m_hasPlayed a_feltNow a_last a_kept m_hasSeconds m_hasTurned m_hasRound a_hasFeels a_isOn m_firstAct m_meanTop m_meanBy a_order m_rowMany m_newSteps g_tape v_1311 hr_v_1311 hr_m_textEnd) lk_RX12_130 ⟨rfl, rfl⟩ ⟨Nat.le_of_ble_eq_true rfl, Nat.le_of_ble_eq_true rfl⟩ 12 rfl rfl rfl [0, 1] [] rfl rfl (by decide) rfl hl.1 rfl (lv_room (Nat.le_of_ble_eq_true rfl)) dX12_next2_114 ⟨Nat.le_of_ble_eq_true rfl, Nat.le_of_ble_eq_true rfl⟩ (fun r_1372 u_1373 H locs hw hP hD hS => ?_)
                obtain ⟨he_r_1372, hw⟩ := hw
                obtain ⟨hr_r_1372, hf_1375, hf_1376⟩ := hw
                have hz_r_1372 := z_lksame (hlk_r_964) hf_1376 (Z := v_1311.toInt) (Y := v_44.toInt)
                refine z_callSi (As := [.int r_1372]) (rest := []) (wr := [(h0, .inr (12, [.int m_status, .int m_thrown, .long m_above, .long m_under, .ref a_traySort, .ref a_trayMany, .ref a_numbers, .ref a_tape, .int m_taped, .int m_textEnd, .int m_faultKind, .int m_faultAt, .int m_bad, .int m_badAt, .int 1, .int v_44, .int v_1311, .int m_number, .int m_letters, .long v_1312, .ref a_c, .ref a_words, .int m_markMany, .ref a_there, .ref a_tried, .ref a_best, .ref a_found, .int m_thereMany, .int m_foundMany, .int m_orderHow, .int m_orderRing, .int m_orderMany, .int m_hasBest, .long m_bestTop, .long m_bestBy, .ref a_weights, .ref a_shared, .int m_random, .int m_truePlace, .int m_trueWay, .int m_seconds, .int m_done, .int m_feelings, .int m_tries, .int m_leftOver, .int m_playDoor, .int m_playRing, .int m_isOpen, .int m_isOver, .int m_wasTried, .int m_hasPlayed, .ref a_feltNow, .ref a_last, .ref a_kept, .int m_hasSeconds, .int m_hasTurned, .int m_hasRound, .ref a_hasFeels, .ref a_isOn, .int m_firstAct, .long m_meanTop, .long m_meanBy, .ref a_order, .int m_rowMany, .int m_newSteps])), (a_tape, .inl (cA.1 2, 900, .inl g_tape))]) ⟨hx, hb, hml, hown, hts⟩ hK hE hT hP hD hS hA (r_isLetter l G cA r_1372) lk_RX12_136 ⟨rfl, rfl⟩ ⟨Nat.le_of_ble_eq_true rfl, Nat.le_of_ble_eq_true rfl⟩ [] [0, 1] rfl rfl (by decide) rfl hl.1 rfl (lv_room (Nat.le_of_ble_eq_true rfl)) dX12_next2_117 ⟨Nat.le_of_ble_eq_true rfl, Nat.le_of_ble_eq_true rfl⟩ (fun r_1377 u_1378 H locs hw hP hD hS => ?_)
                obtain ⟨he_r_1377, hw⟩ := hw
                rcases hw with ⟨rfl, hf_1380⟩ | ⟨rfl, hf_1381⟩
                · skip
                  refine lv_if_eq (tgt := 182) hx hb dX12_next2_120 (by decide) (fun _ => ?_) (fun h9 => absurd (by decide +kernel) h9)
                  refine lv_aload_n hx hb dX12_next2_182 rfl (lv_at hl 0 rfl) ?_
                  refine lv_aload_n hx hb dX12_next2_183 rfl (lv_at hl 0 rfl) ?_
                  refine va_get (D := G) (ci := 12) (v := .int v_1311) (C := RX12) (T := TX12) (N := 65) hx hb hts inT12 hown hK hP 0 rfl rfl 16 (by decide) (hts _ tw_1901) (fun _ h9 => h9) rfl dX12_next2_184 ?_
                  refine lv_aload_n hx hb dX12_next2_187 rfl (lv_at hl 0 rfl) ?_
                  refine va_get (D := G) (ci := 12) (v := .int v_44) (C := RX12) (T := TX12) (N := 65) hx hb hts inT12 hown hK hP 0 rfl rfl 15 (by decide) (hts _ tw_1900) (fun _ h9 => h9) rfl dX12_next2_188 ?_
                  refine lv_isub hx hb dX12_next2_191 ?_
                  refine lv_topi (fun x_1382 he_x_1382 => ?_)
                  have hq_x_1382 := z_subq he_x_1382 (rfl : v_1311.toInt = _) (rfl : v_44.toInt = _) (by omega) (by omega)
                  have hn_k_1383 : 0 ≤ x_1382.toInt ∧ x_1382.toInt ≤ 900 := by omega
                  refine va_put (D := G) (ci := 12) (v := .int x_1382) (ty := .int) (C := RX12) (T := TX12) (N := 65) hx hb hts inT12 tyX12 tyX12_ok nmX12 hown hK hP hD hS 0 rfl rfl 18 (by decide) (hts _ tw_1903) (fun _ h9 => h9) rfl (tyX12_ok 18 (by decide)) rfl rfl (Nat.le_of_ble_eq_true rfl) dX12_next2_192 (fun H locs hP hD hS => ?_)
                  refine lv_goto (tgt := 330) hx hb dX12_next2_195 (by decide) ?_
                  have hpost : (0 ≤ (1 : Int32).toInt ∧ (1 : Int32).toInt ≤ 4) ∧ (0 ≤ v_44.toInt ∧ v_44.toInt ≤ 900) ∧ (0 ≤ v_1311.toInt ∧ v_1311.toInt ≤ 900) ∧ (0 ≤ m_number.toInt ∧ m_number.toInt ≤ 9999) ∧ (0 ≤ x_1382.toInt ∧ x_1382.toInt ≤ 900) ∧ (m_behind.toInt ≤ v_1311.toInt) ∧ ((1 : Int32).toInt = 0 ∨ m_behind.toInt < v_1311.toInt) := ⟨(by decide +kernel), hr_v_44, hr_v_1311, hr_m_number, (by omega), (by omega), (by omega)⟩
                  have hX_1384 : F_r_next2 m_textEnd m_behind m_number m_letters m_word g_tape = (((1 : Int32), v_44, v_1311, m_number, x_1382, v_1312) : Int32 × Int32 × Int32 × Int32 × Int32 × Int64) := by
                    refine hF_L109a.trans ?_
                    refine (F_r_next2_L109a_s ..).trans ?_
                    extract_lets -merge -useContext +onlyGivenNames w9 y9; have e9 : r_1372 = w9 := he_r_1372; clear_value w9; subst e9
                    extract_lets -merge -useContext +onlyGivenNames w9 y9; have e9 : (0 : Int32) = w9 := he_r_1377; clear_value w9; subst e9
                    refine (if_pos rfl).trans ?_
                    try (extract_lets -merge -useContext +onlyGivenNames y9; have e9 : x_1382 = y9 := (by first | exact he_x_1382 | exact he_x_1382.symm); clear_value y9; subst e9)
                    exact rfl
                  exact hret _ _ _ _ _ (1, v_44, v_1311, m_number, x_1382, v_1312) [0, 1] hP hD hS rfl (by decide) dX12_next2_330 ⟨(congrArg (fun z9 => z9.1) hX_1384).symm, (congrArg (fun z9 => z9.2.1) hX_1384).symm, (congrArg (fun z9 => z9.2.2.1) hX_1384).symm, (congrArg (fun z9 => z9.2.2.2.1) hX_1384).symm, (congrArg (fun z9 => z9.2.2.2.2.1) hX_1384).symm, (congrArg (fun z9 => z9.2.2.2.2.2) hX_1384).symm, hpost⟩
                · skip
                  refine lv_if_eq (tgt := 182) hx hb dX12_next2_120 (by decide) (fun h9 => absurd h9 (by decide +kernel)) (fun _ => ?_)
                  refine lv_aload_n hx hb dX12_next2_123 rfl (lv_at hl 0 rfl) ?_
                  refine lv_aload_n hx hb dX12_next2_124 rfl (lv_at hl 0 rfl) ?_
                  refine va_get (D := G) (ci := 12) (v := .int v_1311) (C := RX12) (T := TX12) (N := 65) hx hb hts inT12 hown hK hP 0 rfl rfl 16 (by decide) (hts _ tw_1901) (fun _ h9 => h9) rfl dX12_next2_125 ?_
                  refine lv_aload_n hx hb dX12_next2_128 rfl (lv_at hl 0 rfl) ?_
                  refine va_get (D := G) (ci := 12) (v := .int v_44) (C := RX12) (T := TX12) (N := 65) hx hb hts inT12 hown hK hP 0 rfl rfl 15 (by decide) (hts _ tw_1900) (fun _ h9 => h9) rfl dX12_next2_129 ?_
                  refine lv_isub hx hb dX12_next2_132 ?_
                  refine lv_topi (fun x_1385 he_x_1385 => ?_)
                  have hq_x_1385 := z_subq he_x_1385 (rfl : v_1311.toInt = _) (rfl : v_44.toInt = _) (by omega) (by omega)
                  refine lv_bipush (v := 8) hx hb dX12_next2_133 (by decide) ?_
                  refine lv_icmp_ge (tgt := 163) hx hb dX12_next2_135 (by decide) (fun c_1386 => ?_) (fun c_1386 => ?_)
                  · have b_1387 := z_fgeT c_1386
                    refine lv_ldc2 (v := (-1)) hx hb hown (hts _ tw_2118) dX12_next2_163 ?_
                    refine va_put (D := G) (ci := 12) (v := .long (-1)) (ty := .long) (C := RX12) (T := TX12) (N := 65) hx hb hts inT12 tyX12 tyX12_ok nmX12 hown hK hP hD hS 0 rfl rfl 19 (by decide) (hts _ tw_1904) (fun _ h9 => h9) rfl (tyX12_ok 19 (by decide)) rfl rfl (Nat.le_of_ble_eq_true rfl) dX12_next2_166 (fun H locs hP hD hS => ?_)
                    refine lv_aload_n hx hb dX12_next2_169 rfl (lv_at hl 0 rfl) ?_
                    refine lv_dup hx hb dX12_next2_170 rfl ?_
                    refine va_get (D := G) (ci := 12) (v := .int v_1311) (C := RX12) (T := TX12) (N := 65) hx hb hts inT12 hown hK hP 0 rfl rfl 16 (by decide) (hts _ tw_1901) (fun _ h9 => h9) rfl dX12_next2_171 ?_
                    refine lv_iconst (v := 1) hx hb dX12_next2_174 (by decide) ?_
                    refine lv_iadd hx hb dX12_next2_175 ?_
                    refine lv_topi (fun x_1388 he_x_1388 => ?_)
                    have hq_x_1388 := z_addq he_x_1388 (rfl : v_1311.toInt = _) hk_1 (by omega) (by omega)
                    have hn_k_1389 : 0 ≤ x_1388.toInt ∧ x_1388.toInt ≤ 900 := by omega
                    refine va_put (D := G) (ci := 12) (v := .int x_1388) (ty := .int) (C := RX12) (T := TX12) (N := 65) hx hb hts inT12 tyX12 tyX12_ok nmX12 hown hK hP hD hS 0 rfl rfl 16 (by decide) (hts _ tw_1901) (fun _ h9 => h9) rfl (tyX12_ok 16 (by decide)) rfl rfl (Nat.le_of_ble_eq_true rfl) dX12_next2_176 (fun H locs hP hD hS => ?_)
                    refine lv_goto (tgt := 109) hx hb dX12_next2_179 (by decide) ?_
                    have hX_1390 : F_r_next2 m_textEnd m_behind m_number m_letters m_word g_tape = F_r_next2_L109a m_textEnd m_number g_tape v_44 n_L109a x_1388 (-1 : Int64) := by
                      refine hF_L109a.trans ?_
                      refine (F_r_next2_L109a_s ..).trans ?_
                      extract_lets -merge -useContext +onlyGivenNames w9 y9; have e9 : r_1372 = w9 := he_r_1372; clear_value w9; subst e9
                      extract_lets -merge -useContext +onlyGivenNames w9 y9; have e9 : (1 : Int32) = w9 := he_r_1377; clear_value w9; subst e9
                      refine (if_neg (show ¬ (1 : Int32) = 0 by decide)).trans ?_
                      try (extract_lets -merge -useContext +onlyGivenNames y9; have e9 : x_1385 = y9 := (by first | exact he_x_1385 | exact he_x_1385.symm); clear_value y9; subst e9)
                      refine (if_pos c_1386).trans ?_
                      try (extract_lets -merge -useContext +onlyGivenNames y9; have e9 : x_1388 = y9 := (by first | exact he_x_1388 | exact he_x_1388.symm); clear_value y9; subst e9)
                      exact rfl
                    exact ih_1371 x_1388 (-1) H locs ls (by omega) (by omega) (by omega) hX_1390 hP hD hS (lv_sub hl [0, 1] rfl)
                  · have b_1391 := z_fltF c_1386
                    refine lv_aload_n hx hb dX12_next2_138 rfl (lv_at hl 0 rfl) ?_
                    refine va_get (D := G) (ci := 12) (v := .long v_1312) (C := RX12) (T := TX12) (N := 65) hx hb hts inT12 hown hK hP 0 rfl rfl 19 (by decide) (hts _ tw_1904) (fun _ h9 => h9) rfl dX12_next2_139 ?_
                    refine lv_ldc2 (v := 32) hx hb hown (hts _ tw_2154) dX12_next2_142 ?_
                    refine lv_lmul hx hb dX12_next2_145 ?_
                    have hL_v_1312 := z_fulll v_1312
                    refine lv_topl (fun x_1392 he_x_1392 => ?_)
                    refine lv_aload_n hx hb dX12_next2_146 rfl (lv_at hl 0 rfl) ?_
                    refine lv_aload_n hx hb dX12_next2_147 rfl (lv_at hl 0 rfl) ?_
                    refine va_get (D := G) (ci := 12) (v := .int v_1311) (C := RX12) (T := TX12) (N := 65) hx hb hts inT12 hown hK hP 0 rfl rfl 16 (by decide) (hts _ tw_1901) (fun _ h9 => h9) rfl dX12_next2_148 ?_
                    refine z_callVi (As := [.int v_1311]) (rest := [.long x_1392, .ref h0]) (wr := []) ⟨hx, hb, hml, hown, hts⟩ hK hE hT hP hD hS hA (r_look2 l G cA h0 m_status m_thrown m_above m_under a_traySort a_trayMany a_numbers a_tape m_taped m_textEnd m_faultKind m_faultAt m_bad m_badAt 1 v_44 v_1311 m_number m_letters v_1312 a_c a_words m_markMany a_there a_tried a_best a_found m_thereMany m_foundMany m_orderHow m_orderRing m_orderMany m_hasBest m_bestTop m_bestBy a_weights a_shared m_random m_truePlace m_trueWay m_seconds m_done m_feelings m_tries m_leftOver m_playDoor m_playRing m_isOpen m_isOver m_wasTried m_hasPlayed a_feltNow a_last a_kept m_hasSeconds m_hasTurned m_hasRound a_hasFeels a_isOn m_firstAct m_meanTop m_meanBy a_order m_rowMany m_newSteps g_tape v_1311 hr_v_1311 hr_m_textEnd) lk_RX12_130 ⟨rfl, rfl⟩ ⟨Nat.le_of_ble_eq_true rfl, Nat.le_of_ble_eq_true rfl⟩ 12 rfl rfl rfl [0, 1] [] rfl rfl (by decide) rfl hl.1 rfl (lv_room (Nat.le_of_ble_eq_true rfl)) dX12_next2_151 ⟨Nat.le_of_ble_eq_true rfl, Nat.le_of_ble_eq_true rfl⟩ (fun r_1393 u_1394 H locs hw hP hD hS => ?_)
                    obtain ⟨he_r_1393, hw⟩ := hw
                    obtain ⟨hr_r_1393, hf_1396, hf_1397⟩ := hw
                    refine lv_i2l (v := (r_1393).toInt64) hx hb dX12_next2_154 rfl ?_
                    refine lv_topl (fun x_1398 he_x_1398 => ?_)
                    have hq_x_1398 := z_i2l he_x_1398
                    refine lv_ladd hx hb dX12_next2_155 ?_
                    have hL_x_1392 := z_fulll x_1392
                    refine lv_topl (fun x_1399 he_x_1399 => ?_)
                    refine lv_ldc2 (v := 96) hx hb hown (hts _ tw_2155) dX12_next2_156 ?_
                    refine lv_lsub hx hb dX12_next2_159 ?_
                    have hL_x_1399 := z_fulll x_1399
                    refine lv_topl (fun x_1400 he_x_1400 => ?_)
                    refine lv_goto (tgt := 166) hx hb dX12_next2_160 (by decide) ?_
                    refine va_put (D := G) (ci := 12) (v := .long x_1400) (ty := .long) (C := RX12) (T := TX12) (N := 65) hx hb hts inT12 tyX12 tyX12_ok nmX12 hown hK hP hD hS 0 rfl rfl 19 (by decide) (hts _ tw_1904) (fun _ h9 => h9) rfl (tyX12_ok 19 (by decide)) rfl rfl (Nat.le_of_ble_eq_true rfl) dX12_next2_166 (fun H locs hP hD hS => ?_)
                    refine lv_aload_n hx hb dX12_next2_169 rfl (lv_at hl 0 rfl) ?_
                    refine lv_dup hx hb dX12_next2_170 rfl ?_
                    refine va_get (D := G) (ci := 12) (v := .int v_1311) (C := RX12) (T := TX12) (N := 65) hx hb hts inT12 hown hK hP 0 rfl rfl 16 (by decide) (hts _ tw_1901) (fun _ h9 => h9) rfl dX12_next2_171 ?_
                    refine lv_iconst (v := 1) hx hb dX12_next2_174 (by decide) ?_
                    refine lv_iadd hx hb dX12_next2_175 ?_
                    refine lv_topi (fun x_1401 he_x_1401 => ?_)
                    have hq_x_1401 := z_addq he_x_1401 (rfl : v_1311.toInt = _) hk_1 (by omega) (by omega)
                    have hn_k_1402 : 0 ≤ x_1401.toInt ∧ x_1401.toInt ≤ 900 := by omega
                    refine va_put (D := G) (ci := 12) (v := .int x_1401) (ty := .int) (C := RX12) (T := TX12) (N := 65) hx hb hts inT12 tyX12 tyX12_ok nmX12 hown hK hP hD hS 0 rfl rfl 16 (by decide) (hts _ tw_1901) (fun _ h9 => h9) rfl (tyX12_ok 16 (by decide)) rfl rfl (Nat.le_of_ble_eq_true rfl) dX12_next2_176 (fun H locs hP hD hS => ?_)
                    refine lv_goto (tgt := 109) hx hb dX12_next2_179 (by decide) ?_
                    have hX_1403 : F_r_next2 m_textEnd m_behind m_number m_letters m_word g_tape = F_r_next2_L109a m_textEnd m_number g_tape v_44 n_L109a x_1401 x_1400 := by
                      refine hF_L109a.trans ?_
                      refine (F_r_next2_L109a_s ..).trans ?_
                      extract_lets -merge -useContext +onlyGivenNames w9 y9; have e9 : r_1372 = w9 := he_r_1372; clear_value w9; subst e9
                      extract_lets -merge -useContext +onlyGivenNames w9 y9; have e9 : (1 : Int32) = w9 := he_r_1377; clear_value w9; subst e9
                      refine (if_neg (show ¬ (1 : Int32) = 0 by decide)).trans ?_
                      try (extract_lets -merge -useContext +onlyGivenNames y9; have e9 : x_1385 = y9 := (by first | exact he_x_1385 | exact he_x_1385.symm); clear_value y9; subst e9)
                      refine (if_neg c_1386).trans ?_
                      try (extract_lets -merge -useContext +onlyGivenNames y9; have e9 : x_1392 = y9 := (by first | exact he_x_1392 | exact he_x_1392.symm); clear_value y9; subst e9)
                      extract_lets -merge -useContext +onlyGivenNames w9 y9; have e9 : r_1393 = w9 := he_r_1393; clear_value w9; subst e9
                      try (extract_lets -merge -useContext +onlyGivenNames y9; have e9 : x_1398 = y9 := (by first | exact he_x_1398 | exact he_x_1398.symm); clear_value y9; subst e9)
                      try (extract_lets -merge -useContext +onlyGivenNames y9; have e9 : x_1399 = y9 := (by first | exact he_x_1399 | exact he_x_1399.symm); clear_value y9; subst e9)
                      try (extract_lets -merge -useContext +onlyGivenNames y9; have e9 : x_1400 = y9 := (by first | exact he_x_1400 | exact he_x_1400.symm); clear_value y9; subst e9)
                      try (extract_lets -merge -useContext +onlyGivenNames y9; have e9 : x_1401 = y9 := (by first | exact he_x_1401 | exact he_x_1401.symm); clear_value y9; subst e9)
                      exact rfl
                    exact ih_1371 x_1401 x_1400 H locs ls (by omega) (by omega) (by omega) hX_1403 hP hD hS (lv_sub hl [0, 1] rfl)
            have hX_1404 : F_r_next2 m_textEnd m_behind m_number m_letters m_word g_tape = F_r_next2_L109a m_textEnd m_number g_tape v_44 ((2147483647 - v_44.toInt).toNat + 1) v_44 (0 : Int64) := by
              refine hF_L8a.trans ?_
              refine (F_r_next2_L8a_s ..).trans ?_
              refine (if_pos c_960).trans ?_
              refine (if_pos c_962).trans ?_
              extract_lets -merge -useContext +onlyGivenNames w9 y9; have e9 : r_964 = w9 := he_r_964; clear_value w9; subst e9
              extract_lets -merge -useContext +onlyGivenNames w9 y9; have e9 : (1 : Int32) = w9 := he_r_969; clear_value w9; subst e9
              refine (if_neg (show ¬ (1 : Int32) = 0 by decide)).trans ?_
              exact rfl
            exact hlp_1370 ((2147483647 - v_44.toInt).toNat + 1) v_44 0 _ _ _ (Nat.lt_succ_self _) hr_v_44 (by omega) hX_1404 hP hD hS (lv_sub hl [1, 0] rfl)
        · have b_1405 := z_fgeF c_962
          refine lv_aload_n hx hb dX12_next2_77 rfl (lv_at hl 0 rfl) ?_
          refine lv_iconst (v := 0) hx hb dX12_next2_78 (by decide) ?_
          refine va_put (D := G) (ci := 12) (v := .int 0) (ty := .int) (C := RX12) (T := TX12) (N := 65) hx hb hts inT12 tyX12 tyX12_ok nmX12 hown hK hP hD hS 0 rfl rfl 14 (by decide) (hts _ tw_1899) (fun _ h9 => h9) rfl (tyX12_ok 14 (by decide)) rfl rfl (Nat.le_of_ble_eq_true rfl) dX12_next2_79 (fun H locs hP hD hS => ?_)
          have hpost : (0 ≤ (0 : Int32).toInt ∧ (0 : Int32).toInt ≤ 4) ∧ (0 ≤ v_44.toInt ∧ v_44.toInt ≤ 900) ∧ (0 ≤ v_44.toInt ∧ v_44.toInt ≤ 900) ∧ (0 ≤ m_number.toInt ∧ m_number.toInt ≤ 9999) ∧ (0 ≤ m_letters.toInt ∧ m_letters.toInt ≤ 900) ∧ (m_behind.toInt ≤ v_44.toInt) ∧ ((0 : Int32).toInt = 0 ∨ m_behind.toInt < v_44.toInt) := ⟨(by decide +kernel), hr_v_44, hr_v_44, hr_m_number, hr_m_letters, (by omega), (by omega)⟩
          have hX_1406 : F_r_next2 m_textEnd m_behind m_number m_letters m_word g_tape = (((0 : Int32), v_44, v_44, m_number, m_letters, m_word) : Int32 × Int32 × Int32 × Int32 × Int32 × Int64) := by
            refine hF_L8a.trans ?_
            refine (F_r_next2_L8a_s ..).trans ?_
            refine (if_pos c_960).trans ?_
            refine (if_neg c_962).trans ?_
            exact rfl
          exact hret _ _ _ _ _ (0, v_44, v_44, m_number, m_letters, m_word) [0, 1] hP hD hS rfl (by decide) dX12_next2_82 ⟨(congrArg (fun z9 => z9.1) hX_1406).symm, (congrArg (fun z9 => z9.2.1) hX_1406).symm, (congrArg (fun z9 => z9.2.2.1) hX_1406).symm, (congrArg (fun z9 => z9.2.2.2.1) hX_1406).symm, (congrArg (fun z9 => z9.2.2.2.2.1) hX_1406).symm, (congrArg (fun z9 => z9.2.2.2.2.2) hX_1406).symm, hpost⟩
      · have b_1407 := z_fltF c_960
        refine lv_aload_n hx hb dX12_next2_19 rfl (lv_at hl 0 rfl) ?_
        refine lv_aload_n hx hb dX12_next2_20 rfl (lv_at hl 0 rfl) ?_
        refine va_get (D := G) (ci := 12) (v := .int v_44) (C := RX12) (T := TX12) (N := 65) hx hb hts inT12 hown hK hP 0 rfl rfl 15 (by decide) (hts _ tw_1900) (fun _ h9 => h9) rfl dX12_next2_21 ?_
        refine z_callVi (As := [.int v_44]) (rest := []) (wr := []) ⟨hx, hb, hml, hown, hts⟩ hK hE hT hP hD hS hA (r_look2 l G cA h0 m_status m_thrown m_above m_under a_traySort a_trayMany a_numbers a_tape m_taped m_textEnd m_faultKind m_faultAt m_bad m_badAt m_token v_44 m_behind m_number m_letters m_word a_c a_words m_markMany a_there a_tried a_best a_found m_thereMany m_foundMany m_orderHow m_orderRing m_orderMany m_hasBest m_bestTop m_bestBy a_weights a_shared m_random m_truePlace m_trueWay m_seconds m_done m_feelings m_tries m_leftOver m_playDoor m_playRing m_isOpen m_isOver m_wasTried m_hasPlayed a_feltNow a_last a_kept m_hasSeconds m_hasTurned m_hasRound a_hasFeels a_isOn m_firstAct m_meanTop m_meanBy a_order m_rowMany m_newSteps g_tape v_44 hr_v_44 hr_m_textEnd) lk_RX12_130 ⟨rfl, rfl⟩ ⟨Nat.le_of_ble_eq_true rfl, Nat.le_of_ble_eq_true rfl⟩ 12 rfl rfl rfl [0, 1] [] rfl rfl (by decide) rfl hl.1 rfl (lv_room (Nat.le_of_ble_eq_true rfl)) dX12_next2_24 ⟨Nat.le_of_ble_eq_true rfl, Nat.le_of_ble_eq_true rfl⟩ (fun r_1408 u_1409 H locs hw hP hD hS => ?_)
        obtain ⟨he_r_1408, hw⟩ := hw
        obtain ⟨hr_r_1408, hf_1411, hf_1412⟩ := hw
        refine lv_bipush (v := 10) hx hb dX12_next2_27 (by decide) ?_
        refine lv_icmp_eq (tgt := 45) hx hb dX12_next2_29 (by decide) (fun c_1413 => ?_) (fun c_1413 => ?_)
        · have b_1414 := z_feqT c_1413
          refine lv_aload_n hx hb dX12_next2_45 rfl (lv_at hl 0 rfl) ?_
          refine lv_dup hx hb dX12_next2_46 rfl ?_
          refine va_get (D := G) (ci := 12) (v := .int v_44) (C := RX12) (T := TX12) (N := 65) hx hb hts inT12 hown hK hP 0 rfl rfl 15 (by decide) (hts _ tw_1900) (fun _ h9 => h9) rfl dX12_next2_47 ?_
          refine lv_iconst (v := 1) hx hb dX12_next2_50 (by decide) ?_
          refine lv_iadd hx hb dX12_next2_51 ?_
          refine lv_topi (fun x_1415 he_x_1415 => ?_)
          have hq_x_1415 := z_addq he_x_1415 (rfl : v_44.toInt = _) hk_1 (by omega) (by omega)
          refine va_put (D := G) (ci := 12) (v := .int x_1415) (ty := .int) (C := RX12) (T := TX12) (N := 65) hx hb hts inT12 tyX12 tyX12_ok nmX12 hown hK hP hD hS 0 rfl rfl 15 (by decide) (hts _ tw_1900) (fun _ h9 => h9) rfl (tyX12_ok 15 (by decide)) rfl rfl (Nat.le_of_ble_eq_true rfl) dX12_next2_52 (fun H locs hP hD hS => ?_)
          refine lv_goto (tgt := 8) hx hb dX12_next2_55 (by decide) ?_
          have hX_1416 : F_r_next2 m_textEnd m_behind m_number m_letters m_word g_tape = F_r_next2_L8a m_textEnd m_number m_letters m_word g_tape n_L8a x_1415 := by
            refine hF_L8a.trans ?_
            refine (F_r_next2_L8a_s ..).trans ?_
            refine (if_neg c_960).trans ?_
            extract_lets -merge -useContext +onlyGivenNames w9 y9; have e9 : r_1408 = w9 := he_r_1408; clear_value w9; subst e9
            refine (if_pos c_1413).trans ?_
            try (extract_lets -merge -useContext +onlyGivenNames y9; have e9 : x_1415 = y9 := (by first | exact he_x_1415 | exact he_x_1415.symm); clear_value y9; subst e9)
            exact rfl
          exact ih_959 x_1415 H locs ls (by omega) (by omega) (by omega) hX_1416 hP hD hS (lv_sub hl [0] rfl)
        · have b_1417 := z_fneF c_1413
          refine lv_aload_n hx hb dX12_next2_32 rfl (lv_at hl 0 rfl) ?_
          refine lv_aload_n hx hb dX12_next2_33 rfl (lv_at hl 0 rfl) ?_
          refine va_get (D := G) (ci := 12) (v := .int v_44) (C := RX12) (T := TX12) (N := 65) hx hb hts inT12 hown hK hP 0 rfl rfl 15 (by decide) (hts _ tw_1900) (fun _ h9 => h9) rfl dX12_next2_34 ?_
          refine z_callVi (As := [.int v_44]) (rest := []) (wr := []) ⟨hx, hb, hml, hown, hts⟩ hK hE hT hP hD hS hA (r_look2 l G cA h0 m_status m_thrown m_above m_under a_traySort a_trayMany a_numbers a_tape m_taped m_textEnd m_faultKind m_faultAt m_bad m_badAt m_token v_44 m_behind m_number m_letters m_word a_c a_words m_markMany a_there a_tried a_best a_found m_thereMany m_foundMany m_orderHow m_orderRing m_orderMany m_hasBest m_bestTop m_bestBy a_weights a_shared m_random m_truePlace m_trueWay m_seconds m_done m_feelings m_tries m_leftOver m_playDoor m_playRing m_isOpen m_isOver m_wasTried m_hasPlayed a_feltNow a_last a_kept m_hasSeconds m_hasTurned m_hasRound a_hasFeels a_isOn m_firstAct m_meanTop m_meanBy a_order m_rowMany m_newSteps g_tape v_44 hr_v_44 hr_m_textEnd) lk_RX12_130 ⟨rfl, rfl⟩ ⟨Nat.le_of_ble_eq_true rfl, Nat.le_of_ble_eq_true rfl⟩ 12 rfl rfl rfl [0, 1] [] rfl rfl (by decide) rfl hl.1 rfl (lv_room (Nat.le_of_ble_eq_true rfl)) dX12_next2_37 ⟨Nat.le_of_ble_eq_true rfl, Nat.le_of_ble_eq_true rfl⟩ (fun r_1418 u_1419 H locs hw hP hD hS => ?_)
          obtain ⟨he_r_1418, hw⟩ := hw
          obtain ⟨hr_r_1418, hf_1421, hf_1422⟩ := hw
          refine lv_bipush (v := 32) hx hb dX12_next2_40 (by decide) ?_
          refine lv_icmp_ne (tgt := 58) hx hb dX12_next2_42 (by decide) (fun c_1423 => ?_) (fun c_1423 => ?_)
          · have b_1424 := z_fneT c_1423
            refine lv_aload_n hx hb dX12_next2_58 rfl (lv_at hl 0 rfl) ?_
            refine lv_aload_n hx hb dX12_next2_59 rfl (lv_at hl 0 rfl) ?_
            refine va_get (D := G) (ci := 12) (v := .int v_44) (C := RX12) (T := TX12) (N := 65) hx hb hts inT12 hown hK hP 0 rfl rfl 15 (by decide) (hts _ tw_1900) (fun _ h9 => h9) rfl dX12_next2_60 ?_
            refine va_put (D := G) (ci := 12) (v := .int v_44) (ty := .int) (C := RX12) (T := TX12) (N := 65) hx hb hts inT12 tyX12 tyX12_ok nmX12 hown hK hP hD hS 0 rfl rfl 16 (by decide) (hts _ tw_1901) (fun _ h9 => h9) rfl (tyX12_ok 16 (by decide)) rfl rfl (Nat.le_of_ble_eq_true rfl) dX12_next2_63 (fun H locs hP hD hS => ?_)
            refine lv_aload_n hx hb dX12_next2_66 rfl (lv_at hl 0 rfl) ?_
            refine va_get (D := G) (ci := 12) (v := .int v_44) (C := RX12) (T := TX12) (N := 65) hx hb hts inT12 hown hK hP 0 rfl rfl 15 (by decide) (hts _ tw_1900) (fun _ h9 => h9) rfl dX12_next2_67 ?_
            refine lv_aload_n hx hb dX12_next2_70 rfl (lv_at hl 0 rfl) ?_
            refine va_get (D := G) (ci := 12) (v := .int m_textEnd) (C := RX12) (T := TX12) (N := 65) hx hb hts inT12 hown hK hP 0 rfl rfl 9 (by decide) (hts _ tw_1894) (fun _ h9 => h9) rfl dX12_next2_71 ?_
            refine lv_icmp_lt (tgt := 83) hx hb dX12_next2_74 (by decide) (fun c_1425 => ?_) (fun c_1425 => ?_)
            · have b_1426 := z_fltT c_1425
              refine lv_aload_n hx hb dX12_next2_83 rfl (lv_at hl 0 rfl) ?_
              refine lv_aload_n hx hb dX12_next2_84 rfl (lv_at hl 0 rfl) ?_
              refine va_get (D := G) (ci := 12) (v := .int v_44) (C := RX12) (T := TX12) (N := 65) hx hb hts inT12 hown hK hP 0 rfl rfl 15 (by decide) (hts _ tw_1900) (fun _ h9 => h9) rfl dX12_next2_85 ?_
              refine z_callVi (As := [.int v_44]) (rest := []) (wr := []) ⟨hx, hb, hml, hown, hts⟩ hK hE hT hP hD hS hA (r_look2 l G cA h0 m_status m_thrown m_above m_under a_traySort a_trayMany a_numbers a_tape m_taped m_textEnd m_faultKind m_faultAt m_bad m_badAt m_token v_44 v_44 m_number m_letters m_word a_c a_words m_markMany a_there a_tried a_best a_found m_thereMany m_foundMany m_orderHow m_orderRing m_orderMany m_hasBest m_bestTop m_bestBy a_weights a_shared m_random m_truePlace m_trueWay m_seconds m_done m_feelings m_tries m_leftOver m_playDoor m_playRing m_isOpen m_isOver m_wasTried m_hasPlayed a_feltNow a_last a_kept m_hasSeconds m_hasTurned m_hasRound a_hasFeels a_isOn m_firstAct m_meanTop m_meanBy a_order m_rowMany m_newSteps g_tape v_44 hr_v_44 hr_m_textEnd) lk_RX12_130 ⟨rfl, rfl⟩ ⟨Nat.le_of_ble_eq_true rfl, Nat.le_of_ble_eq_true rfl⟩ 12 rfl rfl rfl [0, 1] [] rfl rfl (by decide) rfl hl.1 rfl (lv_room (Nat.le_of_ble_eq_true rfl)) dX12_next2_88 ⟨Nat.le_of_ble_eq_true rfl, Nat.le_of_ble_eq_true rfl⟩ (fun r_1427 u_1428 H locs hw hP hD hS => ?_)
              obtain ⟨he_r_1427, hw⟩ := hw
              obtain ⟨hr_r_1427, hf_1430, hf_1431⟩ := hw
              have hlk_r_1427 := hf_1431
              refine lv_istore_n (lv' := [(1, .int r_1427), (0, .ref h0)]) hx hb dX12_next2_91 rfl hl (by decide) rfl (fun ls hl => ?_)
              refine lv_iload_n hx hb dX12_next2_92 rfl (lv_at hl 0 rfl) ?_
              refine z_callSi (As := [.int r_1427]) (rest := []) (wr := [(h0, .inr (12, [.int m_status, .int m_thrown, .long m_above, .long m_under, .ref a_traySort, .ref a_trayMany, .ref a_numbers, .ref a_tape, .int m_taped, .int m_textEnd, .int m_faultKind, .int m_faultAt, .int m_bad, .int m_badAt, .int m_token, .int v_44, .int v_44, .int m_number, .int m_letters, .long m_word, .ref a_c, .ref a_words, .int m_markMany, .ref a_there, .ref a_tried, .ref a_best, .ref a_found, .int m_thereMany, .int m_foundMany, .int m_orderHow, .int m_orderRing, .int m_orderMany, .int m_hasBest, .long m_bestTop, .long m_bestBy, .ref a_weights, .ref a_shared, .int m_random, .int m_truePlace, .int m_trueWay, .int m_seconds, .int m_done, .int m_feelings, .int m_tries, .int m_leftOver, .int m_playDoor, .int m_playRing, .int m_isOpen, .int m_isOver, .int m_wasTried, .int m_hasPlayed, .ref a_feltNow, .ref a_last, .ref a_kept, .int m_hasSeconds, .int m_hasTurned, .int m_hasRound, .ref a_hasFeels, .ref a_isOn, .int m_firstAct, .long m_meanTop, .long m_meanBy, .ref a_order, .int m_rowMany, .int m_newSteps])), (a_tape, .inl (cA.1 2, 900, .inl g_tape))]) ⟨hx, hb, hml, hown, hts⟩ hK hE hT hP hD hS hA (r_isLetter l G cA r_1427) lk_RX12_136 ⟨rfl, rfl⟩ ⟨Nat.le_of_ble_eq_true rfl, Nat.le_of_ble_eq_true rfl⟩ [] [0, 1] rfl rfl (by decide) rfl hl.1 rfl (lv_room (Nat.le_of_ble_eq_true rfl)) dX12_next2_93 ⟨Nat.le_of_ble_eq_true rfl, Nat.le_of_ble_eq_true rfl⟩ (fun r_1432 u_1433 H locs hw hP hD hS => ?_)
              obtain ⟨he_r_1432, hw⟩ := hw
              rcases hw with ⟨rfl, hf_1435⟩ | ⟨rfl, hf_1436⟩
              · skip
                refine lv_if_eq (tgt := 198) hx hb dX12_next2_96 (by decide) (fun _ => ?_) (fun h9 => absurd (by decide +kernel) h9)
                refine lv_iload_n hx hb dX12_next2_198 rfl (lv_at hl 0 rfl) ?_
                refine z_callSi (As := [.int r_1427]) (rest := []) (wr := [(h0, .inr (12, [.int m_status, .int m_thrown, .long m_above, .long m_under, .ref a_traySort, .ref a_trayMany, .ref a_numbers, .ref a_tape, .int m_taped, .int m_textEnd, .int m_faultKind, .int m_faultAt, .int m_bad, .int m_badAt, .int m_token, .int v_44, .int v_44, .int m_number, .int m_letters, .long m_word, .ref a_c, .ref a_words, .int m_markMany, .ref a_there, .ref a_tried, .ref a_best, .ref a_found, .int m_thereMany, .int m_foundMany, .int m_orderHow, .int m_orderRing, .int m_orderMany, .int m_hasBest, .long m_bestTop, .long m_bestBy, .ref a_weights, .ref a_shared, .int m_random, .int m_truePlace, .int m_trueWay, .int m_seconds, .int m_done, .int m_feelings, .int m_tries, .int m_leftOver, .int m_playDoor, .int m_playRing, .int m_isOpen, .int m_isOver, .int m_wasTried, .int m_hasPlayed, .ref a_feltNow, .ref a_last, .ref a_kept, .int m_hasSeconds, .int m_hasTurned, .int m_hasRound, .ref a_hasFeels, .ref a_isOn, .int m_firstAct, .long m_meanTop, .long m_meanBy, .ref a_order, .int m_rowMany, .int m_newSteps])), (a_tape, .inl (cA.1 2, 900, .inl g_tape))]) ⟨hx, hb, hml, hown, hts⟩ hK hE hT hP hD hS hA (r_isDigit l G cA r_1427) lk_RX12_149 ⟨rfl, rfl⟩ ⟨Nat.le_of_ble_eq_true rfl, Nat.le_of_ble_eq_true rfl⟩ [] [0, 1] rfl rfl (by decide) rfl hl.1 rfl (lv_room (Nat.le_of_ble_eq_true rfl)) dX12_next2_199 ⟨Nat.le_of_ble_eq_true rfl, Nat.le_of_ble_eq_true rfl⟩ (fun r_1437 u_1438 H locs hw hP hD hS => ?_)
                obtain ⟨he_r_1437, hw⟩ := hw
                rcases hw with ⟨rfl, hf_1440⟩ | ⟨rfl, hf_1441⟩
                · skip
                  refine lv_if_eq (tgt := 298) hx hb dX12_next2_202 (by decide) (fun _ => ?_) (fun h9 => absurd (by decide +kernel) h9)
                  refine lv_aload_n hx hb dX12_next2_298 rfl (lv_at hl 1 rfl) ?_
                  refine lv_aload_n hx hb dX12_next2_299 rfl (lv_at hl 1 rfl) ?_
                  refine va_get (D := G) (ci := 12) (v := .int v_44) (C := RX12) (T := TX12) (N := 65) hx hb hts inT12 hown hK hP 0 rfl rfl 15 (by decide) (hts _ tw_1900) (fun _ h9 => h9) rfl dX12_next2_300 ?_
                  refine lv_iconst (v := 1) hx hb dX12_next2_303 (by decide) ?_
                  refine lv_iadd hx hb dX12_next2_304 ?_
                  refine lv_topi (fun x_1442 he_x_1442 => ?_)
                  have hq_x_1442 := z_addq he_x_1442 (rfl : v_44.toInt = _) hk_1 (by omega) (by omega)
                  refine va_put (D := G) (ci := 12) (v := .int x_1442) (ty := .int) (C := RX12) (T := TX12) (N := 65) hx hb hts inT12 tyX12 tyX12_ok nmX12 hown hK hP hD hS 0 rfl rfl 16 (by decide) (hts _ tw_1901) (fun _ h9 => h9) rfl (tyX12_ok 16 (by decide)) rfl rfl (Nat.le_of_ble_eq_true rfl) dX12_next2_305 (fun H locs hP hD hS => ?_)
                  refine lv_aload_n hx hb dX12_next2_308 rfl (lv_at hl 1 rfl) ?_
                  refine lv_iload_n hx hb dX12_next2_309 rfl (lv_at hl 0 rfl) ?_
                  refine va_put (D := G) (ci := 12) (v := .int r_1427) (ty := .int) (C := RX12) (T := TX12) (N := 65) hx hb hts inT12 tyX12 tyX12_ok nmX12 hown hK hP hD hS 0 rfl rfl 17 (by decide) (hts _ tw_1902) (fun _ h9 => h9) rfl (tyX12_ok 17 (by decide)) rfl rfl (Nat.le_of_ble_eq_true rfl) dX12_next2_310 (fun H locs hP hD hS => ?_)
                  refine lv_aload_n hx hb dX12_next2_313 rfl (lv_at hl 1 rfl) ?_
                  refine lv_aload_n hx hb dX12_next2_314 rfl (lv_at hl 1 rfl) ?_
                  refine lv_iload_n hx hb dX12_next2_315 rfl (lv_at hl 0 rfl) ?_
                  refine z_callVi (As := [.int r_1427]) (rest := [.ref h0]) (wr := [(a_tape, .inl (cA.1 2, 900, .inl g_tape))]) ⟨hx, hb, hml, hown, hts⟩ hK hE hT hP hD hS hA (r_isSignByte l G cA h0 m_status m_thrown m_above m_under a_traySort a_trayMany a_numbers a_tape m_taped m_textEnd m_faultKind m_faultAt m_bad m_badAt m_token v_44 x_1442 r_1427 m_letters m_word a_c a_words m_markMany a_there a_tried a_best a_found m_thereMany m_foundMany m_orderHow m_orderRing m_orderMany m_hasBest m_bestTop m_bestBy a_weights a_shared m_random m_truePlace m_trueWay m_seconds m_done m_feelings m_tries m_leftOver m_playDoor m_playRing m_isOpen m_isOver m_wasTried m_hasPlayed a_feltNow a_last a_kept m_hasSeconds m_hasTurned m_hasRound a_hasFeels a_isOn m_firstAct m_meanTop m_meanBy a_order m_rowMany m_newSteps r_1427) lk_RX12_155 ⟨rfl, rfl⟩ ⟨Nat.le_of_ble_eq_true rfl, Nat.le_of_ble_eq_true rfl⟩ 12 rfl rfl rfl [0] [1] rfl rfl (by decide) rfl hl.1 rfl (lv_room (Nat.le_of_ble_eq_true rfl)) dX12_next2_316 ⟨Nat.le_of_ble_eq_true rfl, Nat.le_of_ble_eq_true rfl⟩ (fun r_1443 u_1444 H locs hw hP hD hS => ?_)
                  obtain ⟨he_r_1443, hw⟩ := hw
                  rcases hw with ⟨rfl, -⟩ | ⟨rfl, -⟩
                  · skip
                    refine lv_if_eq (tgt := 326) hx hb dX12_next2_319 (by decide) (fun _ => ?_) (fun h9 => absurd (by decide +kernel) h9)
                    refine lv_iconst (v := 4) hx hb dX12_next2_326 (by decide) ?_
                    refine va_put (D := G) (ci := 12) (v := .int 4) (ty := .int) (C := RX12) (T := TX12) (N := 65) hx hb hts inT12 tyX12 tyX12_ok nmX12 hown hK hP hD hS 1 rfl rfl 14 (by decide) (hts _ tw_1899) (fun _ h9 => h9) rfl (tyX12_ok 14 (by decide)) rfl rfl (Nat.le_of_ble_eq_true rfl) dX12_next2_327 (fun H locs hP hD hS => ?_)
                    have hpost : (0 ≤ (4 : Int32).toInt ∧ (4 : Int32).toInt ≤ 4) ∧ (0 ≤ v_44.toInt ∧ v_44.toInt ≤ 900) ∧ (0 ≤ x_1442.toInt ∧ x_1442.toInt ≤ 900) ∧ (0 ≤ r_1427.toInt ∧ r_1427.toInt ≤ 9999) ∧ (0 ≤ m_letters.toInt ∧ m_letters.toInt ≤ 900) ∧ (m_behind.toInt ≤ x_1442.toInt) ∧ ((4 : Int32).toInt = 0 ∨ m_behind.toInt < x_1442.toInt) := ⟨(by decide +kernel), hr_v_44, (by omega), (z_rgw hr_r_1427 (by decide) (by decide)), hr_m_letters, (by omega), (by omega)⟩
                    have hX_1446 : F_r_next2 m_textEnd m_behind m_number m_letters m_word g_tape = (((4 : Int32), v_44, x_1442, r_1427, m_letters, m_word) : Int32 × Int32 × Int32 × Int32 × Int32 × Int64) := by
                      refine hF_L8a.trans ?_
                      refine (F_r_next2_L8a_s ..).trans ?_
                      refine (if_neg c_960).trans ?_
                      extract_lets -merge -useContext +onlyGivenNames w9 y9; have e9 : r_1408 = w9 := he_r_1408; clear_value w9; subst e9
                      refine (if_neg c_1413).trans ?_
                      extract_lets -merge -useContext +onlyGivenNames w9 y9; have e9 : r_1418 = w9 := he_r_1418; clear_value w9; subst e9
                      refine (if_neg c_1423).trans ?_
                      refine (if_pos c_1425).trans ?_
                      extract_lets -merge -useContext +onlyGivenNames w9 y9; have e9 : r_1427 = w9 := he_r_1427; clear_value w9; subst e9
                      extract_lets -merge -useContext +onlyGivenNames w9 y9; have e9 : (0 : Int32) = w9 := he_r_1432; clear_value w9; subst e9
                      refine (if_pos rfl).trans ?_
                      extract_lets -merge -useContext +onlyGivenNames w9 y9; have e9 : (0 : Int32) = w9 := he_r_1437; clear_value w9; subst e9
                      refine (if_pos rfl).trans ?_
                      try (extract_lets -merge -useContext +onlyGivenNames y9; have e9 : x_1442 = y9 := (by first | exact he_x_1442 | exact he_x_1442.symm); clear_value y9; subst e9)
                      extract_lets -merge -useContext +onlyGivenNames w9 y9; have e9 : (0 : Int32) = w9 := he_r_1443; clear_value w9; subst e9
                      refine (if_pos rfl).trans ?_
                      exact rfl
                    exact hret _ _ _ _ _ (4, v_44, x_1442, r_1427, m_letters, m_word) [1, 0] hP hD hS rfl (by decide) dX12_next2_330 ⟨(congrArg (fun z9 => z9.1) hX_1446).symm, (congrArg (fun z9 => z9.2.1) hX_1446).symm, (congrArg (fun z9 => z9.2.2.1) hX_1446).symm, (congrArg (fun z9 => z9.2.2.2.1) hX_1446).symm, (congrArg (fun z9 => z9.2.2.2.2.1) hX_1446).symm, (congrArg (fun z9 => z9.2.2.2.2.2) hX_1446).symm, hpost⟩
                  · skip
                    refine lv_if_eq (tgt := 326) hx hb dX12_next2_319 (by decide) (fun h9 => absurd h9 (by decide +kernel)) (fun _ => ?_)
                    refine lv_iconst (v := 3) hx hb dX12_next2_322 (by decide) ?_
                    refine lv_goto (tgt := 327) hx hb dX12_next2_323 (by decide) ?_
                    refine va_put (D := G) (ci := 12) (v := .int 3) (ty := .int) (C := RX12) (T := TX12) (N := 65) hx hb hts inT12 tyX12 tyX12_ok nmX12 hown hK hP hD hS 1 rfl rfl 14 (by decide) (hts _ tw_1899) (fun _ h9 => h9) rfl (tyX12_ok 14 (by decide)) rfl rfl (Nat.le_of_ble_eq_true rfl) dX12_next2_327 (fun H locs hP hD hS => ?_)
                    have hpost : (0 ≤ (3 : Int32).toInt ∧ (3 : Int32).toInt ≤ 4) ∧ (0 ≤ v_44.toInt ∧ v_44.toInt ≤ 900) ∧ (0 ≤ x_1442.toInt ∧ x_1442.toInt ≤ 900) ∧ (0 ≤ r_1427.toInt ∧ r_1427.toInt ≤ 9999) ∧ (0 ≤ m_letters.toInt ∧ m_letters.toInt ≤ 900) ∧ (m_behind.toInt ≤ x_1442.toInt) ∧ ((3 : Int32).toInt = 0 ∨ m_behind.toInt < x_1442.toInt) := ⟨(by decide +kernel), hr_v_44, (by omega), (z_rgw hr_r_1427 (by decide) (by decide)), hr_m_letters, (by omega), (by omega)⟩
                    have hX_1447 : F_r_next2 m_textEnd m_behind m_number m_letters m_word g_tape = (((3 : Int32), v_44, x_1442, r_1427, m_letters, m_word) : Int32 × Int32 × Int32 × Int32 × Int32 × Int64) := by
                      refine hF_L8a.trans ?_
                      refine (F_r_next2_L8a_s ..).trans ?_
                      refine (if_neg c_960).trans ?_
                      extract_lets -merge -useContext +onlyGivenNames w9 y9; have e9 : r_1408 = w9 := he_r_1408; clear_value w9; subst e9
                      refine (if_neg c_1413).trans ?_
                      extract_lets -merge -useContext +onlyGivenNames w9 y9; have e9 : r_1418 = w9 := he_r_1418; clear_value w9; subst e9
                      refine (if_neg c_1423).trans ?_
                      refine (if_pos c_1425).trans ?_
                      extract_lets -merge -useContext +onlyGivenNames w9 y9; have e9 : r_1427 = w9 := he_r_1427; clear_value w9; subst e9
                      extract_lets -merge -useContext +onlyGivenNames w9 y9; have e9 : (0 : Int32) = w9 := he_r_1432; clear_value w9; subst e9
                      refine (if_pos rfl).trans ?_
                      extract_lets -merge -useContext +onlyGivenNames w9 y9; have e9 : (0 : Int32) = w9 := he_r_1437; clear_value w9; subst e9
                      refine (if_pos rfl).trans ?_
                      try (extract_lets -merge -useContext +onlyGivenNames y9; have e9 : x_1442 = y9 := (by first | exact he_x_1442 | exact he_x_1442.symm); clear_value y9; subst e9)
                      extract_lets -merge -useContext +onlyGivenNames w9 y9; have e9 : (1 : Int32) = w9 := he_r_1443; clear_value w9; subst e9
                      refine (if_neg (show ¬ (1 : Int32) = 0 by decide)).trans ?_
                      exact rfl
                    exact hret _ _ _ _ _ (3, v_44, x_1442, r_1427, m_letters, m_word) [1, 0] hP hD hS rfl (by decide) dX12_next2_330 ⟨(congrArg (fun z9 => z9.1) hX_1447).symm, (congrArg (fun z9 => z9.2.1) hX_1447).symm, (congrArg (fun z9 => z9.2.2.1) hX_1447).symm, (congrArg (fun z9 => z9.2.2.2.1) hX_1447).symm, (congrArg (fun z9 => z9.2.2.2.2.1) hX_1447).symm, (congrArg (fun z9 => z9.2.2.2.2.2) hX_1447).symm, hpost⟩
                · skip
                  refine lv_if_eq (tgt := 298) hx hb dX12_next2_202 (by decide) (fun h9 => absurd h9 (by decide +kernel)) (fun _ => ?_)
                  refine lv_aload_n hx hb dX12_next2_205 rfl (lv_at hl 1 rfl) ?_
                  refine lv_iconst (v := 0) hx hb dX12_next2_206 (by decide) ?_
                  refine va_put (D := G) (ci := 12) (v := .int 0) (ty := .int) (C := RX12) (T := TX12) (N := 65) hx hb hts inT12 tyX12 tyX12_ok nmX12 hown hK hP hD hS 0 rfl rfl 17 (by decide) (hts _ tw_1902) (fun _ h9 => h9) rfl (tyX12_ok 17 (by decide)) rfl rfl (Nat.le_of_ble_eq_true rfl) dX12_next2_207 (fun H locs hP hD hS => ?_)
                  have hlp_1565 : ∀ (n_L210b : Nat) (v_1503 : Int32) (v_1504 : Int32) (H : Heap) (locs : List Loc) (ls : Array Slot), (2147483647 - v_1503.toInt).toNat < n_L210b → (0 ≤ v_1503.toInt ∧ v_1503.toInt ≤ 900) → (0 ≤ v_1504.toInt ∧ v_1504.toInt ≤ 9999) → (v_44.toInt ≤ v_1503.toInt) → ((v_1503.toInt - v_44.toInt ≤ 0 → v_1504.toInt ≤ 0) ∧ (v_1503.toInt - v_44.toInt ≤ 1 → v_1504.toInt ≤ 9) ∧ (v_1503.toInt - v_44.toInt ≤ 2 → v_1504.toInt ≤ 99) ∧ (v_1503.toInt - v_44.toInt ≤ 3 → v_1504.toInt ≤ 999)) → (F_r_next2 m_textEnd m_behind m_number m_letters m_word g_tape = F_r_next2_L210b m_textEnd m_letters m_word g_tape v_44 n_L210b v_1503 v_1504) → va_P G vwCl [(h0, .inr (12, [.int m_status, .int m_thrown, .long m_above, .long m_under, .ref a_traySort, .ref a_trayMany, .ref a_numbers, .ref a_tape, .int m_taped, .int m_textEnd, .int m_faultKind, .int m_faultAt, .int m_bad, .int m_badAt, .int m_token, .int v_44, .int v_1503, .int v_1504, .int m_letters, .long m_word, .ref a_c, .ref a_words, .int m_markMany, .ref a_there, .ref a_tried, .ref a_best, .ref a_found, .int m_thereMany, .int m_foundMany, .int m_orderHow, .int m_orderRing, .int m_orderMany, .int m_hasBest, .long m_bestTop, .long m_bestBy, .ref a_weights, .ref a_shared, .int m_random, .int m_truePlace, .int m_trueWay, .int m_seconds, .int m_done, .int m_feelings, .int m_tries, .int m_leftOver, .int m_playDoor, .int m_playRing, .int m_isOpen, .int m_isOver, .int m_wasTried, .int m_hasPlayed, .ref a_feltNow, .ref a_last, .ref a_kept, .int m_hasSeconds, .int m_hasTurned, .int m_hasRound, .ref a_hasFeels, .ref a_isOn, .int m_firstAct, .long m_meanTop, .long m_meanBy, .ref a_order, .int m_rowMany, .int m_newSteps])), (a_tape, .inl (cA.1 2, 900, .inl g_tape))] H → va_D A [(h0, .inr (12, [.int m_status, .int m_thrown, .long m_above, .long m_under, .ref a_traySort, .ref a_trayMany, .ref a_numbers, .ref a_tape, .int m_taped, .int m_textEnd, .int m_faultKind, .int m_faultAt, .int m_bad, .int m_badAt, .int m_token, .int v_44, .int v_1503, .int v_1504, .int m_letters, .long m_word, .ref a_c, .ref a_words, .int m_markMany, .ref a_there, .ref a_tried, .ref a_best, .ref a_found, .int m_thereMany, .int m_foundMany, .int m_orderHow, .int m_orderRing, .int m_orderMany, .int m_hasBest, .long m_bestTop, .long m_bestBy, .ref a_weights, .ref a_shared, .int m_random, .int m_truePlace, .int m_trueWay, .int m_seconds, .int m_done, .int m_feelings, .int m_tries, .int m_leftOver, .int m_playDoor, .int m_playRing, .int m_isOpen, .int m_isOver, .int m_wasTried, .int m_hasPlayed, .ref a_feltNow, .ref a_last, .ref a_kept, .int m_hasSeconds, .int m_hasTurned, .int m_hasRound, .ref a_hasFeels, .ref a_isOn, .int m_firstAct, .long m_meanTop, .long m_meanBy, .ref a_order, .int m_rowMany, .int m_newSteps])), (a_tape, .inl (cA.1 2, 900, .inl g_tape))] → va_S A s.heap H locs → lv_has ls 2 [(0, .ref h0), (1, .int r_1427)] → W p l e ({ frames := 1, cells := 0, slots := 0, locals := 21 }) s m args below meth c H locs 0 0 Q (F0 m 210 ls []) := by
                    intro n_L210b
                    induction n_L210b with
                    | zero =>
                      intro v_1503 v_1504 H locs ls hmu_hlp_1565 hr_v_1503 hr_v_1504 hi_1532 hi_1533 hF_L210b hP hD hS hl
                      exact absurd hmu_hlp_1565 (Nat.not_lt_zero _)
                    | succ n_L210b ih_1566 =>
                      intro v_1503 v_1504 H locs ls hmu_hlp_1565 hr_v_1503 hr_v_1504 hi_1532 hi_1533 hF_L210b hP hD hS hl
                      refine lv_aload_n hx hb dX12_next2_210 rfl (lv_at hl 0 rfl) ?_
                      refine lv_aload_n hx hb dX12_next2_211 rfl (lv_at hl 0 rfl) ?_
                      refine va_get (D := G) (ci := 12) (v := .int v_1503) (C := RX12) (T := TX12) (N := 65) hx hb hts inT12 hown hK hP 0 rfl rfl 16 (by decide) (hts _ tw_1901) (fun _ h9 => h9) rfl dX12_next2_212 ?_
                      refine z_callVi (As := [.int v_1503]) (rest := []) (wr := []) ⟨hx, hb, hml, hown, hts⟩ hK hE hT hP hD hS hA (r_look2 l G cA h0 m_status m_thrown m_above m_under a_traySort a_trayMany a_numbers a_tape m_taped m_textEnd m_faultKind m_faultAt m_bad m_badAt m_token v_44 v_1503 v_1504 m_letters m_word a_c a_words m_markMany a_there a_tried a_best a_found m_thereMany m_foundMany m_orderHow m_orderRing m_orderMany m_hasBest m_bestTop m_bestBy a_weights a_shared m_random m_truePlace m_trueWay m_seconds m_done m_feelings m_tries m_leftOver m_playDoor m_playRing m_isOpen m_isOver m_wasTried m_hasPlayed a_feltNow a_last a_kept m_hasSeconds m_hasTurned m_hasRound a_hasFeels a_isOn m_firstAct m_meanTop m_meanBy a_order m_rowMany m_newSteps g_tape v_1503 hr_v_1503 hr_m_textEnd) lk_RX12_130 ⟨rfl, rfl⟩ ⟨Nat.le_of_ble_eq_true rfl, Nat.le_of_ble_eq_true rfl⟩ 12 rfl rfl rfl [0, 1] [] rfl rfl (by decide) rfl hl.1 rfl (lv_room (Nat.le_of_ble_eq_true rfl)) dX12_next2_215 ⟨Nat.le_of_ble_eq_true rfl, Nat.le_of_ble_eq_true rfl⟩ (fun r_1567 u_1568 H locs hw hP hD hS => ?_)
                      obtain ⟨he_r_1567, hw⟩ := hw
                      obtain ⟨hr_r_1567, hf_1570, hf_1571⟩ := hw
                      have hz_r_1567 := z_lksame (hlk_r_1427) hf_1571 (Z := v_1503.toInt) (Y := v_44.toInt)
                      refine z_callSi (As := [.int r_1567]) (rest := []) (wr := [(h0, .inr (12, [.int m_status, .int m_thrown, .long m_above, .long m_under, .ref a_traySort, .ref a_trayMany, .ref a_numbers, .ref a_tape, .int m_taped, .int m_textEnd, .int m_faultKind, .int m_faultAt, .int m_bad, .int m_badAt, .int m_token, .int v_44, .int v_1503, .int v_1504, .int m_letters, .long m_word, .ref a_c, .ref a_words, .int m_markMany, .ref a_there, .ref a_tried, .ref a_best, .ref a_found, .int m_thereMany, .int m_foundMany, .int m_orderHow, .int m_orderRing, .int m_orderMany, .int m_hasBest, .long m_bestTop, .long m_bestBy, .ref a_weights, .ref a_shared, .int m_random, .int m_truePlace, .int m_trueWay, .int m_seconds, .int m_done, .int m_feelings, .int m_tries, .int m_leftOver, .int m_playDoor, .int m_playRing, .int m_isOpen, .int m_isOver, .int m_wasTried, .int m_hasPlayed, .ref a_feltNow, .ref a_last, .ref a_kept, .int m_hasSeconds, .int m_hasTurned, .int m_hasRound, .ref a_hasFeels, .ref a_isOn, .int m_firstAct, .long m_meanTop, .long m_meanBy, .ref a_order, .int m_rowMany, .int m_newSteps])), (a_tape, .inl (cA.1 2, 900, .inl g_tape))]) ⟨hx, hb, hml, hown, hts⟩ hK hE hT hP hD hS hA (r_isDigit l G cA r_1567) lk_RX12_149 ⟨rfl, rfl⟩ ⟨Nat.le_of_ble_eq_true rfl, Nat.le_of_ble_eq_true rfl⟩ [] [0, 1] rfl rfl (by decide) rfl hl.1 rfl (lv_room (Nat.le_of_ble_eq_true rfl)) dX12_next2_218 ⟨Nat.le_of_ble_eq_true rfl, Nat.le_of_ble_eq_true rfl⟩ (fun r_1572 u_1573 H locs hw hP hD hS => ?_)
                      obtain ⟨he_r_1572, hw⟩ := hw
                      rcases hw with ⟨rfl, hf_1575⟩ | ⟨rfl, hf_1576⟩
                      · skip
                        refine lv_if_eq (tgt := 273) hx hb dX12_next2_221 (by decide) (fun _ => ?_) (fun h9 => absurd (by decide +kernel) h9)
                        refine lv_aload_n hx hb dX12_next2_273 rfl (lv_at hl 0 rfl) ?_
                        refine lv_aload_n hx hb dX12_next2_274 rfl (lv_at hl 0 rfl) ?_
                        refine va_get (D := G) (ci := 12) (v := .int v_1503) (C := RX12) (T := TX12) (N := 65) hx hb hts inT12 hown hK hP 0 rfl rfl 16 (by decide) (hts _ tw_1901) (fun _ h9 => h9) rfl dX12_next2_275 ?_
                        refine lv_aload_n hx hb dX12_next2_278 rfl (lv_at hl 0 rfl) ?_
                        refine va_get (D := G) (ci := 12) (v := .int v_44) (C := RX12) (T := TX12) (N := 65) hx hb hts inT12 hown hK hP 0 rfl rfl 15 (by decide) (hts _ tw_1900) (fun _ h9 => h9) rfl dX12_next2_279 ?_
                        refine lv_isub hx hb dX12_next2_282 ?_
                        refine lv_topi (fun x_1577 he_x_1577 => ?_)
                        have hq_x_1577 := z_subq he_x_1577 (rfl : v_1503.toInt = _) (rfl : v_44.toInt = _) (by omega) (by omega)
                        refine lv_iconst (v := 4) hx hb dX12_next2_283 (by decide) ?_
                        refine lv_icmp_le (tgt := 291) hx hb dX12_next2_284 (by decide) (fun c_1578 => ?_) (fun c_1578 => ?_)
                        · have b_1579 := z_fleT c_1578
                          refine lv_iconst (v := 2) hx hb dX12_next2_291 (by decide) ?_
                          refine va_put (D := G) (ci := 12) (v := .int 2) (ty := .int) (C := RX12) (T := TX12) (N := 65) hx hb hts inT12 tyX12 tyX12_ok nmX12 hown hK hP hD hS 0 rfl rfl 14 (by decide) (hts _ tw_1899) (fun _ h9 => h9) rfl (tyX12_ok 14 (by decide)) rfl rfl (Nat.le_of_ble_eq_true rfl) dX12_next2_292 (fun H locs hP hD hS => ?_)
                          refine lv_goto (tgt := 330) hx hb dX12_next2_295 (by decide) ?_
                          have hpost : (0 ≤ (2 : Int32).toInt ∧ (2 : Int32).toInt ≤ 4) ∧ (0 ≤ v_44.toInt ∧ v_44.toInt ≤ 900) ∧ (0 ≤ v_1503.toInt ∧ v_1503.toInt ≤ 900) ∧ (0 ≤ v_1504.toInt ∧ v_1504.toInt ≤ 9999) ∧ (0 ≤ m_letters.toInt ∧ m_letters.toInt ≤ 900) ∧ (m_behind.toInt ≤ v_1503.toInt) ∧ ((2 : Int32).toInt = 0 ∨ m_behind.toInt < v_1503.toInt) := ⟨(by decide +kernel), hr_v_44, hr_v_1503, hr_v_1504, hr_m_letters, (by omega), (by omega)⟩
                          have hX_1580 : F_r_next2 m_textEnd m_behind m_number m_letters m_word g_tape = (((2 : Int32), v_44, v_1503, v_1504, m_letters, m_word) : Int32 × Int32 × Int32 × Int32 × Int32 × Int64) := by
                            refine hF_L210b.trans ?_
                            refine (F_r_next2_L210b_s ..).trans ?_
                            extract_lets -merge -useContext +onlyGivenNames w9 y9; have e9 : r_1567 = w9 := he_r_1567; clear_value w9; subst e9
                            extract_lets -merge -useContext +onlyGivenNames w9 y9; have e9 : (0 : Int32) = w9 := he_r_1572; clear_value w9; subst e9
                            refine (if_pos rfl).trans ?_
                            try (extract_lets -merge -useContext +onlyGivenNames y9; have e9 : x_1577 = y9 := (by first | exact he_x_1577 | exact he_x_1577.symm); clear_value y9; subst e9)
                            refine (if_pos c_1578).trans ?_
                            exact rfl
                          exact hret _ _ _ _ _ (2, v_44, v_1503, v_1504, m_letters, m_word) [0, 1] hP hD hS rfl (by decide) dX12_next2_330 ⟨(congrArg (fun z9 => z9.1) hX_1580).symm, (congrArg (fun z9 => z9.2.1) hX_1580).symm, (congrArg (fun z9 => z9.2.2.1) hX_1580).symm, (congrArg (fun z9 => z9.2.2.2.1) hX_1580).symm, (congrArg (fun z9 => z9.2.2.2.2.1) hX_1580).symm, (congrArg (fun z9 => z9.2.2.2.2.2) hX_1580).symm, hpost⟩
                        · have b_1581 := z_fgtF c_1578
                          refine lv_iconst (v := 4) hx hb dX12_next2_287 (by decide) ?_
                          refine lv_goto (tgt := 292) hx hb dX12_next2_288 (by decide) ?_
                          refine va_put (D := G) (ci := 12) (v := .int 4) (ty := .int) (C := RX12) (T := TX12) (N := 65) hx hb hts inT12 tyX12 tyX12_ok nmX12 hown hK hP hD hS 0 rfl rfl 14 (by decide) (hts _ tw_1899) (fun _ h9 => h9) rfl (tyX12_ok 14 (by decide)) rfl rfl (Nat.le_of_ble_eq_true rfl) dX12_next2_292 (fun H locs hP hD hS => ?_)
                          refine lv_goto (tgt := 330) hx hb dX12_next2_295 (by decide) ?_
                          have hpost : (0 ≤ (4 : Int32).toInt ∧ (4 : Int32).toInt ≤ 4) ∧ (0 ≤ v_44.toInt ∧ v_44.toInt ≤ 900) ∧ (0 ≤ v_1503.toInt ∧ v_1503.toInt ≤ 900) ∧ (0 ≤ v_1504.toInt ∧ v_1504.toInt ≤ 9999) ∧ (0 ≤ m_letters.toInt ∧ m_letters.toInt ≤ 900) ∧ (m_behind.toInt ≤ v_1503.toInt) ∧ ((4 : Int32).toInt = 0 ∨ m_behind.toInt < v_1503.toInt) := ⟨(by decide +kernel), hr_v_44, hr_v_1503, hr_v_1504, hr_m_letters, (by omega), (by omega)⟩
                          have hX_1582 : F_r_next2 m_textEnd m_behind m_number m_letters m_word g_tape = (((4 : Int32), v_44, v_1503, v_1504, m_letters, m_word) : Int32 × Int32 × Int32 × Int32 × Int32 × Int64) := by
                            refine hF_L210b.trans ?_
                            refine (F_r_next2_L210b_s ..).trans ?_
                            extract_lets -merge -useContext +onlyGivenNames w9 y9; have e9 : r_1567 = w9 := he_r_1567; clear_value w9; subst e9
                            extract_lets -merge -useContext +onlyGivenNames w9 y9; have e9 : (0 : Int32) = w9 := he_r_1572; clear_value w9; subst e9
                            refine (if_pos rfl).trans ?_
                            try (extract_lets -merge -useContext +onlyGivenNames y9; have e9 : x_1577 = y9 := (by first | exact he_x_1577 | exact he_x_1577.symm); clear_value y9; subst e9)
                            refine (if_neg c_1578).trans ?_
                            exact rfl
                          exact hret _ _ _ _ _ (4, v_44, v_1503, v_1504, m_letters, m_word) [0, 1] hP hD hS rfl (by decide) dX12_next2_330 ⟨(congrArg (fun z9 => z9.1) hX_1582).symm, (congrArg (fun z9 => z9.2.1) hX_1582).symm, (congrArg (fun z9 => z9.2.2.1) hX_1582).symm, (congrArg (fun z9 => z9.2.2.2.1) hX_1582).symm, (congrArg (fun z9 => z9.2.2.2.2.1) hX_1582).symm, (congrArg (fun z9 => z9.2.2.2.2.2) hX_1582).symm, hpost⟩
                      · skip
                        refine lv_if_eq (tgt := 273) hx hb dX12_next2_221 (by decide) (fun h9 => absurd h9 (by decide +kernel)) (fun _ => ?_)
                        refine lv_aload_n hx hb dX12_next2_224 rfl (lv_at hl 0 rfl) ?_
                        refine va_get (D := G) (ci := 12) (v := .int v_1503) (C := RX12) (T := TX12) (N := 65) hx hb hts inT12 hown hK hP 0 rfl rfl 16 (by decide) (hts _ tw_1901) (fun _ h9 => h9) rfl dX12_next2_225 ?_
                        refine lv_aload_n hx hb dX12_next2_228 rfl (lv_at hl 0 rfl) ?_
                        refine va_get (D := G) (ci := 12) (v := .int v_44) (C := RX12) (T := TX12) (N := 65) hx hb hts inT12 hown hK hP 0 rfl rfl 15 (by decide) (hts _ tw_1900) (fun _ h9 => h9) rfl dX12_next2_229 ?_
                        refine lv_isub hx hb dX12_next2_232 ?_
                        refine lv_topi (fun x_1583 he_x_1583 => ?_)
                        have hq_x_1583 := z_subq he_x_1583 (rfl : v_1503.toInt = _) (rfl : v_44.toInt = _) (by omega) (by omega)
                        refine lv_iconst (v := 4) hx hb dX12_next2_233 (by decide) ?_
                        refine lv_icmp_ge (tgt := 260) hx hb dX12_next2_234 (by decide) (fun c_1584 => ?_) (fun c_1584 => ?_)
                        · have b_1585 := z_fgeT c_1584
                          refine lv_aload_n hx hb dX12_next2_260 rfl (lv_at hl 0 rfl) ?_
                          refine lv_dup hx hb dX12_next2_261 rfl ?_
                          refine va_get (D := G) (ci := 12) (v := .int v_1503) (C := RX12) (T := TX12) (N := 65) hx hb hts inT12 hown hK hP 0 rfl rfl 16 (by decide) (hts _ tw_1901) (fun _ h9 => h9) rfl dX12_next2_262 ?_
                          refine lv_iconst (v := 1) hx hb dX12_next2_265 (by decide) ?_
                          refine lv_iadd hx hb dX12_next2_266 ?_
                          refine lv_topi (fun x_1586 he_x_1586 => ?_)
                          have hq_x_1586 := z_addq he_x_1586 (rfl : v_1503.toInt = _) hk_1 (by omega) (by omega)
                          have hn_k_1587 : 0 ≤ x_1586.toInt ∧ x_1586.toInt ≤ 900 := by omega
                          refine va_put (D := G) (ci := 12) (v := .int x_1586) (ty := .int) (C := RX12) (T := TX12) (N := 65) hx hb hts inT12 tyX12 tyX12_ok nmX12 hown hK hP hD hS 0 rfl rfl 16 (by decide) (hts _ tw_1901) (fun _ h9 => h9) rfl (tyX12_ok 16 (by decide)) rfl rfl (Nat.le_of_ble_eq_true rfl) dX12_next2_267 (fun H locs hP hD hS => ?_)
                          refine lv_goto (tgt := 210) hx hb dX12_next2_270 (by decide) ?_
                          have hX_1588 : F_r_next2 m_textEnd m_behind m_number m_letters m_word g_tape = F_r_next2_L210b m_textEnd m_letters m_word g_tape v_44 n_L210b x_1586 v_1504 := by
                            refine hF_L210b.trans ?_
                            refine (F_r_next2_L210b_s ..).trans ?_
                            extract_lets -merge -useContext +onlyGivenNames w9 y9; have e9 : r_1567 = w9 := he_r_1567; clear_value w9; subst e9
                            extract_lets -merge -useContext +onlyGivenNames w9 y9; have e9 : (1 : Int32) = w9 := he_r_1572; clear_value w9; subst e9
                            refine (if_neg (show ¬ (1 : Int32) = 0 by decide)).trans ?_
                            try (extract_lets -merge -useContext +onlyGivenNames y9; have e9 : x_1583 = y9 := (by first | exact he_x_1583 | exact he_x_1583.symm); clear_value y9; subst e9)
                            refine (if_pos c_1584).trans ?_
                            try (extract_lets -merge -useContext +onlyGivenNames y9; have e9 : x_1586 = y9 := (by first | exact he_x_1586 | exact he_x_1586.symm); clear_value y9; subst e9)
                            exact rfl
                          exact ih_1566 x_1586 v_1504 H locs ls (by omega) (by omega) hr_v_1504 (by omega) (by omega) hX_1588 hP hD hS (lv_sub hl [0, 1] rfl)
                        · have b_1589 := z_fltF c_1584
                          refine lv_aload_n hx hb dX12_next2_237 rfl (lv_at hl 0 rfl) ?_
                          refine lv_bipush (v := 10) hx hb dX12_next2_238 (by decide) ?_
                          refine lv_aload_n hx hb dX12_next2_240 rfl (lv_at hl 0 rfl) ?_
                          refine va_get (D := G) (ci := 12) (v := .int v_1504) (C := RX12) (T := TX12) (N := 65) hx hb hts inT12 hown hK hP 0 rfl rfl 17 (by decide) (hts _ tw_1902) (fun _ h9 => h9) rfl dX12_next2_241 ?_
                          refine lv_imul hx hb dX12_next2_244 ?_
                          refine lv_topi (fun x_1590 he_x_1590 => ?_)
                          have hq_x_1590 := z_mulq he_x_1590 hk_10 (rfl : v_1504.toInt = _) (by omega) (by omega)
                          refine lv_aload_n hx hb dX12_next2_245 rfl (lv_at hl 0 rfl) ?_
                          refine lv_aload_n hx hb dX12_next2_246 rfl (lv_at hl 0 rfl) ?_
                          refine va_get (D := G) (ci := 12) (v := .int v_1503) (C := RX12) (T := TX12) (N := 65) hx hb hts inT12 hown hK hP 0 rfl rfl 16 (by decide) (hts _ tw_1901) (fun _ h9 => h9) rfl dX12_next2_247 ?_
                          refine z_callVi (As := [.int v_1503]) (rest := [.int x_1590, .ref h0]) (wr := []) ⟨hx, hb, hml, hown, hts⟩ hK hE hT hP hD hS hA (r_look2 l G cA h0 m_status m_thrown m_above m_under a_traySort a_trayMany a_numbers a_tape m_taped m_textEnd m_faultKind m_faultAt m_bad m_badAt m_token v_44 v_1503 v_1504 m_letters m_word a_c a_words m_markMany a_there a_tried a_best a_found m_thereMany m_foundMany m_orderHow m_orderRing m_orderMany m_hasBest m_bestTop m_bestBy a_weights a_shared m_random m_truePlace m_trueWay m_seconds m_done m_feelings m_tries m_leftOver m_playDoor m_playRing m_isOpen m_isOver m_wasTried m_hasPlayed a_feltNow a_last a_kept m_hasSeconds m_hasTurned m_hasRound a_hasFeels a_isOn m_firstAct m_meanTop m_meanBy a_order m_rowMany m_newSteps g_tape v_1503 hr_v_1503 hr_m_textEnd) lk_RX12_130 ⟨rfl, rfl⟩ ⟨Nat.le_of_ble_eq_true rfl, Nat.le_of_ble_eq_true rfl⟩ 12 rfl rfl rfl [0, 1] [] rfl rfl (by decide) rfl hl.1 rfl (lv_room (Nat.le_of_ble_eq_true rfl)) dX12_next2_250 ⟨Nat.le_of_ble_eq_true rfl, Nat.le_of_ble_eq_true rfl⟩ (fun r_1591 u_1592 H locs hw hP hD hS => ?_)
                          obtain ⟨he_r_1591, hw⟩ := hw
                          obtain ⟨hr_r_1591, hf_1594, hf_1595⟩ := hw
                          refine lv_iadd hx hb dX12_next2_253 ?_
                          refine lv_topi (fun x_1596 he_x_1596 => ?_)
                          have hq_x_1596 := z_addq he_x_1596 (rfl : x_1590.toInt = _) (rfl : r_1591.toInt = _) (by omega) (by omega)
                          refine lv_bipush (v := 48) hx hb dX12_next2_254 (by decide) ?_
                          refine lv_isub hx hb dX12_next2_256 ?_
                          refine lv_topi (fun x_1597 he_x_1597 => ?_)
                          have hq_x_1597 := z_subq he_x_1597 (rfl : x_1596.toInt = _) hk_48 (by omega) (by omega)
                          have hn_k_1598 : 0 ≤ x_1597.toInt ∧ x_1597.toInt ≤ 9999 := by omega
                          refine va_put (D := G) (ci := 12) (v := .int x_1597) (ty := .int) (C := RX12) (T := TX12) (N := 65) hx hb hts inT12 tyX12 tyX12_ok nmX12 hown hK hP hD hS 0 rfl rfl 17 (by decide) (hts _ tw_1902) (fun _ h9 => h9) rfl (tyX12_ok 17 (by decide)) rfl rfl (Nat.le_of_ble_eq_true rfl) dX12_next2_257 (fun H locs hP hD hS => ?_)
                          refine lv_aload_n hx hb dX12_next2_260 rfl (lv_at hl 0 rfl) ?_
                          refine lv_dup hx hb dX12_next2_261 rfl ?_
                          refine va_get (D := G) (ci := 12) (v := .int v_1503) (C := RX12) (T := TX12) (N := 65) hx hb hts inT12 hown hK hP 0 rfl rfl 16 (by decide) (hts _ tw_1901) (fun _ h9 => h9) rfl dX12_next2_262 ?_
                          refine lv_iconst (v := 1) hx hb dX12_next2_265 (by decide) ?_
                          refine lv_iadd hx hb dX12_next2_266 ?_
                          refine lv_topi (fun x_1599 he_x_1599 => ?_)
                          have hq_x_1599 := z_addq he_x_1599 (rfl : v_1503.toInt = _) hk_1 (by omega) (by omega)
                          have hn_k_1600 : 0 ≤ x_1599.toInt ∧ x_1599.toInt ≤ 900 := by omega
                          refine va_put (D := G) (ci := 12) (v := .int x_1599) (ty := .int) (C := RX12) (T := TX12) (N := 65) hx hb hts inT12 tyX12 tyX12_ok nmX12 hown hK hP hD hS 0 rfl rfl 16 (by decide) (hts _ tw_1901) (fun _ h9 => h9) rfl (tyX12_ok 16 (by decide)) rfl rfl (Nat.le_of_ble_eq_true rfl) dX12_next2_267 (fun H locs hP hD hS => ?_)
                          refine lv_goto (tgt := 210) hx hb dX12_next2_270 (by decide) ?_
                          have hX_1601 : F_r_next2 m_textEnd m_behind m_number m_letters m_word g_tape = F_r_next2_L210b m_textEnd m_letters m_word g_tape v_44 n_L210b x_1599 x_1597 := by
                            refine hF_L210b.trans ?_
                            refine (F_r_next2_L210b_s ..).trans ?_
                            extract_lets -merge -useContext +onlyGivenNames w9 y9; have e9 : r_1567 = w9 := he_r_1567; clear_value w9; subst e9
                            extract_lets -merge -useContext +onlyGivenNames w9 y9; have e9 : (1 : Int32) = w9 := he_r_1572; clear_value w9; subst e9
                            refine (if_neg (show ¬ (1 : Int32) = 0 by decide)).trans ?_
                            try (extract_lets -merge -useContext +onlyGivenNames y9; have e9 : x_1583 = y9 := (by first | exact he_x_1583 | exact he_x_1583.symm); clear_value y9; subst e9)
                            refine (if_neg c_1584).trans ?_
                            try (extract_lets -merge -useContext +onlyGivenNames y9; have e9 : x_1590 = y9 := (by first | exact he_x_1590 | exact he_x_1590.symm); clear_value y9; subst e9)
                            extract_lets -merge -useContext +onlyGivenNames w9 y9; have e9 : r_1591 = w9 := he_r_1591; clear_value w9; subst e9
                            try (extract_lets -merge -useContext +onlyGivenNames y9; have e9 : x_1596 = y9 := (by first | exact he_x_1596 | exact he_x_1596.symm); clear_value y9; subst e9)
                            try (extract_lets -merge -useContext +onlyGivenNames y9; have e9 : x_1597 = y9 := (by first | exact he_x_1597 | exact he_x_1597.symm); clear_value y9; subst e9)
                            try (extract_lets -merge -useContext +onlyGivenNames y9; have e9 : x_1599 = y9 := (by first | exact he_x_1599 | exact he_x_1599.symm); clear_value y9; subst e9)
                            exact rfl
                          exact ih_1566 x_1599 x_1597 H locs ls (by omega) (by omega) (by omega) (by omega) (by omega) hX_1601 hP hD hS (lv_sub hl [0, 1] rfl)
                  have hX_1602 : F_r_next2 m_textEnd m_behind m_number m_letters m_word g_tape = F_r_next2_L210b m_textEnd m_letters m_word g_tape v_44 ((2147483647 - v_44.toInt).toNat + 1) v_44 (0 : Int32) := by
                    refine hF_L8a.trans ?_
                    refine (F_r_next2_L8a_s ..).trans ?_
                    refine (if_neg c_960).trans ?_
                    extract_lets -merge -useContext +onlyGivenNames w9 y9; have e9 : r_1408 = w9 := he_r_1408; clear_value w9; subst e9
                    refine (if_neg c_1413).trans ?_
                    extract_lets -merge -useContext +onlyGivenNames w9 y9; have e9 : r_1418 = w9 := he_r_1418; clear_value w9; subst e9
                    refine (if_neg c_1423).trans ?_
                    refine (if_pos c_1425).trans ?_
                    extract_lets -merge -useContext +onlyGivenNames w9 y9; have e9 : r_1427 = w9 := he_r_1427; clear_value w9; subst e9
                    extract_lets -merge -useContext +onlyGivenNames w9 y9; have e9 : (0 : Int32) = w9 := he_r_1432; clear_value w9; subst e9
                    refine (if_pos rfl).trans ?_
                    extract_lets -merge -useContext +onlyGivenNames w9 y9; have e9 : (1 : Int32) = w9 := he_r_1437; clear_value w9; subst e9
                    refine (if_neg (show ¬ (1 : Int32) = 0 by decide)).trans ?_
                    exact rfl
                  exact hlp_1565 ((2147483647 - v_44.toInt).toNat + 1) v_44 0 _ _ _ (Nat.lt_succ_self _) hr_v_44 (by decide +kernel) (by omega) (by omega) hX_1602 hP hD hS (lv_sub hl [1, 0] rfl)
              · skip
                refine lv_if_eq (tgt := 198) hx hb dX12_next2_96 (by decide) (fun h9 => absurd h9 (by decide +kernel)) (fun _ => ?_)
                refine lv_aload_n hx hb dX12_next2_99 rfl (lv_at hl 1 rfl) ?_
                refine lv_iconst (v := 1) hx hb dX12_next2_100 (by decide) ?_
                refine va_put (D := G) (ci := 12) (v := .int 1) (ty := .int) (C := RX12) (T := TX12) (N := 65) hx hb hts inT12 tyX12 tyX12_ok nmX12 hown hK hP hD hS 0 rfl rfl 14 (by decide) (hts _ tw_1899) (fun _ h9 => h9) rfl (tyX12_ok 14 (by decide)) rfl rfl (Nat.le_of_ble_eq_true rfl) dX12_next2_101 (fun H locs hP hD hS => ?_)
                refine lv_aload_n hx hb dX12_next2_104 rfl (lv_at hl 1 rfl) ?_
                refine lv_lconst (v := 0) hx hb dX12_next2_105 (by decide) ?_
                refine va_put (D := G) (ci := 12) (v := .long 0) (ty := .long) (C := RX12) (T := TX12) (N := 65) hx hb hts inT12 tyX12 tyX12_ok nmX12 hown hK hP hD hS 0 rfl rfl 19 (by decide) (hts _ tw_1904) (fun _ h9 => h9) rfl (tyX12_ok 19 (by decide)) rfl rfl (Nat.le_of_ble_eq_true rfl) dX12_next2_106 (fun H locs hP hD hS => ?_)
                have hlp_1833 : ∀ (n_L109b : Nat) (v_1774 : Int32) (v_1775 : Int64) (H : Heap) (locs : List Loc) (ls : Array Slot), (2147483647 - v_1774.toInt).toNat < n_L109b → (0 ≤ v_1774.toInt ∧ v_1774.toInt ≤ 900) → (v_44.toInt ≤ v_1774.toInt) → (F_r_next2 m_textEnd m_behind m_number m_letters m_word g_tape = F_r_next2_L109b m_textEnd m_number g_tape v_44 n_L109b v_1774 v_1775) → va_P G vwCl [(h0, .inr (12, [.int m_status, .int m_thrown, .long m_above, .long m_under, .ref a_traySort, .ref a_trayMany, .ref a_numbers, .ref a_tape, .int m_taped, .int m_textEnd, .int m_faultKind, .int m_faultAt, .int m_bad, .int m_badAt, .int 1, .int v_44, .int v_1774, .int m_number, .int m_letters, .long v_1775, .ref a_c, .ref a_words, .int m_markMany, .ref a_there, .ref a_tried, .ref a_best, .ref a_found, .int m_thereMany, .int m_foundMany, .int m_orderHow, .int m_orderRing, .int m_orderMany, .int m_hasBest, .long m_bestTop, .long m_bestBy, .ref a_weights, .ref a_shared, .int m_random, .int m_truePlace, .int m_trueWay, .int m_seconds, .int m_done, .int m_feelings, .int m_tries, .int m_leftOver, .int m_playDoor, .int m_playRing, .int m_isOpen, .int m_isOver, .int m_wasTried, .int m_hasPlayed, .ref a_feltNow, .ref a_last, .ref a_kept, .int m_hasSeconds, .int m_hasTurned, .int m_hasRound, .ref a_hasFeels, .ref a_isOn, .int m_firstAct, .long m_meanTop, .long m_meanBy, .ref a_order, .int m_rowMany, .int m_newSteps])), (a_tape, .inl (cA.1 2, 900, .inl g_tape))] H → va_D A [(h0, .inr (12, [.int m_status, .int m_thrown, .long m_above, .long m_under, .ref a_traySort, .ref a_trayMany, .ref a_numbers, .ref a_tape, .int m_taped, .int m_textEnd, .int m_faultKind, .int m_faultAt, .int m_bad, .int m_badAt, .int 1, .int v_44, .int v_1774, .int m_number, .int m_letters, .long v_1775, .ref a_c, .ref a_words, .int m_markMany, .ref a_there, .ref a_tried, .ref a_best, .ref a_found, .int m_thereMany, .int m_foundMany, .int m_orderHow, .int m_orderRing, .int m_orderMany, .int m_hasBest, .long m_bestTop, .long m_bestBy, .ref a_weights, .ref a_shared, .int m_random, .int m_truePlace, .int m_trueWay, .int m_seconds, .int m_done, .int m_feelings, .int m_tries, .int m_leftOver, .int m_playDoor, .int m_playRing, .int m_isOpen, .int m_isOver, .int m_wasTried, .int m_hasPlayed, .ref a_feltNow, .ref a_last, .ref a_kept, .int m_hasSeconds, .int m_hasTurned, .int m_hasRound, .ref a_hasFeels, .ref a_isOn, .int m_firstAct, .long m_meanTop, .long m_meanBy, .ref a_order, .int m_rowMany, .int m_newSteps])), (a_tape, .inl (cA.1 2, 900, .inl g_tape))] → va_S A s.heap H locs → lv_has ls 2 [(0, .ref h0), (1, .int r_1427)] → W p l e ({ frames := 1, cells := 0, slots := 0, locals := 21 }) s m args below meth c H locs 0 0 Q (F0 m 109 ls []) := by
                  intro n_L109b
                  induction n_L109b with
                  | zero =>
                    intro v_1774 v_1775 H locs ls hmu_hlp_1833 hr_v_1774 hi_1803 hF_L109b hP hD hS hl
                    exact absurd hmu_hlp_1833 (Nat.not_lt_zero _)
                  | succ n_L109b ih_1834 =>
                    intro v_1774 v_1775 H locs ls hmu_hlp_1833 hr_v_1774 hi_1803 hF_L109b hP hD hS hl
                    refine lv_aload_n hx hb dX12_next2_109 rfl (lv_at hl 0 rfl) ?_
                    refine lv_aload_n hx hb dX12_next2_110 rfl (lv_at hl 0 rfl) ?_
                    refine va_get (D := G) (ci := 12) (v := .int v_1774) (C := RX12) (T := TX12) (N := 65) hx hb hts inT12 hown hK hP 0 rfl rfl 16 (by decide) (hts _ tw_1901) (fun _ h9 => h9) rfl dX12_next2_111 ?_
                    refine z_callVi (As := [.int v_1774]) (rest := []) (wr := []) ⟨hx, hb, hml, hown, hts⟩ hK hE hT hP hD hS hA (r_look2 l G cA h0 m_status m_thrown m_above m_under a_traySort a_trayMany a_numbers a_tape m_taped m_textEnd m_faultKind m_faultAt m_bad m_badAt 1 v_44 v_1774 m_number m_letters v_1775 a_c a_words m_markMany a_there a_tried a_best a_found m_thereMany m_foundMany m_orderHow m_orderRing m_orderMany m_hasBest m_bestTop m_bestBy a_weights a_shared m_random m_truePlace m_trueWay m_seconds m_done m_feelings m_tries m_leftOver m_playDoor m_playRing m_isOpen m_isOver m_wasTried m_hasPlayed a_feltNow a_last a_kept m_hasSeconds m_hasTurned m_hasRound a_hasFeels a_isOn m_firstAct m_meanTop m_meanBy a_order m_rowMany m_newSteps g_tape v_1774 hr_v_1774 hr_m_textEnd) lk_RX12_130 ⟨rfl, rfl⟩ ⟨Nat.le_of_ble_eq_true rfl, Nat.le_of_ble_eq_true rfl⟩ 12 rfl rfl rfl [0, 1] [] rfl rfl (by decide) rfl hl.1 rfl (lv_room (Nat.le_of_ble_eq_true rfl)) dX12_next2_114 ⟨Nat.le_of_ble_eq_true rfl, Nat.le_of_ble_eq_true rfl⟩ (fun r_1835 u_1836 H locs hw hP hD hS => ?_)
                    obtain ⟨he_r_1835, hw⟩ := hw
                    obtain ⟨hr_r_1835, hf_1838, hf_1839⟩ := hw
                    have hz_r_1835 := z_lksame (hlk_r_1427) hf_1839 (Z := v_1774.toInt) (Y := v_44.toInt)
                    refine z_callSi (As := [.int r_1835]) (rest := []) (wr := [(h0, .inr (12, [.int m_status, .int m_thrown, .long m_above, .long m_under, .ref a_traySort, .ref a_trayMany, .ref a_numbers, .ref a_tape, .int m_taped, .int m_textEnd, .int m_faultKind, .int m_faultAt, .int m_bad, .int m_badAt, .int 1, .int v_44, .int v_1774, .int m_number, .int m_letters, .long v_1775, .ref a_c, .ref a_words, .int m_markMany, .ref a_there, .ref a_tried, .ref a_best, .ref a_found, .int m_thereMany, .int m_foundMany, .int m_orderHow, .int m_orderRing, .int m_orderMany, .int m_hasBest, .long m_bestTop, .long m_bestBy, .ref a_weights, .ref a_shared, .int m_random, .int m_truePlace, .int m_trueWay, .int m_seconds, .int m_done, .int m_feelings, .int m_tries, .int m_leftOver, .int m_playDoor, .int m_playRing, .int m_isOpen, .int m_isOver, .int m_wasTried, .int m_hasPlayed, .ref a_feltNow, .ref a_last, .ref a_kept, .int m_hasSeconds, .int m_hasTurned, .int m_hasRound, .ref a_hasFeels, .ref a_isOn, .int m_firstAct, .long m_meanTop, .long m_meanBy, .ref a_order, .int m_rowMany, .int m_newSteps])), (a_tape, .inl (cA.1 2, 900, .inl g_tape))]) ⟨hx, hb, hml, hown, hts⟩ hK hE hT hP hD hS hA (r_isLetter l G cA r_1835) lk_RX12_136 ⟨rfl, rfl⟩ ⟨Nat.le_of_ble_eq_true rfl, Nat.le_of_ble_eq_true rfl⟩ [] [0, 1] rfl rfl (by decide) rfl hl.1 rfl (lv_room (Nat.le_of_ble_eq_true rfl)) dX12_next2_117 ⟨Nat.le_of_ble_eq_true rfl, Nat.le_of_ble_eq_true rfl⟩ (fun r_1840 u_1841 H locs hw hP hD hS => ?_)
                    obtain ⟨he_r_1840, hw⟩ := hw
                    rcases hw with ⟨rfl, hf_1843⟩ | ⟨rfl, hf_1844⟩
                    · skip
                      refine lv_if_eq (tgt := 182) hx hb dX12_next2_120 (by decide) (fun _ => ?_) (fun h9 => absurd (by decide +kernel) h9)
                      refine lv_aload_n hx hb dX12_next2_182 rfl (lv_at hl 0 rfl) ?_
                      refine lv_aload_n hx hb dX12_next2_183 rfl (lv_at hl 0 rfl) ?_
                      refine va_get (D := G) (ci := 12) (v := .int v_1774) (C := RX12) (T := TX12) (N := 65) hx hb hts inT12 hown hK hP 0 rfl rfl 16 (by decide) (hts _ tw_1901) (fun _ h9 => h9) rfl dX12_next2_184 ?_
                      refine lv_aload_n hx hb dX12_next2_187 rfl (lv_at hl 0 rfl) ?_
                      refine va_get (D := G) (ci := 12) (v := .int v_44) (C := RX12) (T := TX12) (N := 65) hx hb hts inT12 hown hK hP 0 rfl rfl 15 (by decide) (hts _ tw_1900) (fun _ h9 => h9) rfl dX12_next2_188 ?_
                      refine lv_isub hx hb dX12_next2_191 ?_
                      refine lv_topi (fun x_1845 he_x_1845 => ?_)
                      have hq_x_1845 := z_subq he_x_1845 (rfl : v_1774.toInt = _) (rfl : v_44.toInt = _) (by omega) (by omega)
                      have hn_k_1846 : 0 ≤ x_1845.toInt ∧ x_1845.toInt ≤ 900 := by omega
                      refine va_put (D := G) (ci := 12) (v := .int x_1845) (ty := .int) (C := RX12) (T := TX12) (N := 65) hx hb hts inT12 tyX12 tyX12_ok nmX12 hown hK hP hD hS 0 rfl rfl 18 (by decide) (hts _ tw_1903) (fun _ h9 => h9) rfl (tyX12_ok 18 (by decide)) rfl rfl (Nat.le_of_ble_eq_true rfl) dX12_next2_192 (fun H locs hP hD hS => ?_)
                      refine lv_goto (tgt := 330) hx hb dX12_next2_195 (by decide) ?_
                      have hpost : (0 ≤ (1 : Int32).toInt ∧ (1 : Int32).toInt ≤ 4) ∧ (0 ≤ v_44.toInt ∧ v_44.toInt ≤ 900) ∧ (0 ≤ v_1774.toInt ∧ v_1774.toInt ≤ 900) ∧ (0 ≤ m_number.toInt ∧ m_number.toInt ≤ 9999) ∧ (0 ≤ x_1845.toInt ∧ x_1845.toInt ≤ 900) ∧ (m_behind.toInt ≤ v_1774.toInt) ∧ ((1 : Int32).toInt = 0 ∨ m_behind.toInt < v_1774.toInt) := ⟨(by decide +kernel), hr_v_44, hr_v_1774, hr_m_number, (by omega), (by omega), (by omega)⟩
                      have hX_1847 : F_r_next2 m_textEnd m_behind m_number m_letters m_word g_tape = (((1 : Int32), v_44, v_1774, m_number, x_1845, v_1775) : Int32 × Int32 × Int32 × Int32 × Int32 × Int64) := by
                        refine hF_L109b.trans ?_
                        refine (F_r_next2_L109b_s ..).trans ?_
                        extract_lets -merge -useContext +onlyGivenNames w9 y9; have e9 : r_1835 = w9 := he_r_1835; clear_value w9; subst e9
                        extract_lets -merge -useContext +onlyGivenNames w9 y9; have e9 : (0 : Int32) = w9 := he_r_1840; clear_value w9; subst e9
                        refine (if_pos rfl).trans ?_
                        try (extract_lets -merge -useContext +onlyGivenNames y9; have e9 : x_1845 = y9 := (by first | exact he_x_1845 | exact he_x_1845.symm); clear_value y9; subst e9)
                        exact rfl
                      exact hret _ _ _ _ _ (1, v_44, v_1774, m_number, x_1845, v_1775) [0, 1] hP hD hS rfl (by decide) dX12_next2_330 ⟨(congrArg (fun z9 => z9.1) hX_1847).symm, (congrArg (fun z9 => z9.2.1) hX_1847).symm, (congrArg (fun z9 => z9.2.2.1) hX_1847).symm, (congrArg (fun z9 => z9.2.2.2.1) hX_1847).symm, (congrArg (fun z9 => z9.2.2.2.2.1) hX_1847).symm, (congrArg (fun z9 => z9.2.2.2.2.2) hX_1847).symm, hpost⟩
                    · skip
                      refine lv_if_eq (tgt := 182) hx hb dX12_next2_120 (by decide) (fun h9 => absurd h9 (by decide +kernel)) (fun _ => ?_)
                      refine lv_aload_n hx hb dX12_next2_123 rfl (lv_at hl 0 rfl) ?_
                      refine lv_aload_n hx hb dX12_next2_124 rfl (lv_at hl 0 rfl) ?_
                      refine va_get (D := G) (ci := 12) (v := .int v_1774) (C := RX12) (T := TX12) (N := 65) hx hb hts inT12 hown hK hP 0 rfl rfl 16 (by decide) (hts _ tw_1901) (fun _ h9 => h9) rfl dX12_next2_125 ?_
                      refine lv_aload_n hx hb dX12_next2_128 rfl (lv_at hl 0 rfl) ?_
                      refine va_get (D := G) (ci := 12) (v := .int v_44) (C := RX12) (T := TX12) (N := 65) hx hb hts inT12 hown hK hP 0 rfl rfl 15 (by decide) (hts _ tw_1900) (fun _ h9 => h9) rfl dX12_next2_129 ?_
                      refine lv_isub hx hb dX12_next2_132 ?_
                      refine lv_topi (fun x_1848 he_x_1848 => ?_)
                      have hq_x_1848 := z_subq he_x_1848 (rfl : v_1774.toInt = _) (rfl : v_44.toInt = _) (by omega) (by omega)
                      refine lv_bipush (v := 8) hx hb dX12_next2_133 (by decide) ?_
                      refine lv_icmp_ge (tgt := 163) hx hb dX12_next2_135 (by decide) (fun c_1849 => ?_) (fun c_1849 => ?_)
                      · have b_1850 := z_fgeT c_1849
                        refine lv_ldc2 (v := (-1)) hx hb hown (hts _ tw_2118) dX12_next2_163 ?_
                        refine va_put (D := G) (ci := 12) (v := .long (-1)) (ty := .long) (C := RX12) (T := TX12) (N := 65) hx hb hts inT12 tyX12 tyX12_ok nmX12 hown hK hP hD hS 0 rfl rfl 19 (by decide) (hts _ tw_1904) (fun _ h9 => h9) rfl (tyX12_ok 19 (by decide)) rfl rfl (Nat.le_of_ble_eq_true rfl) dX12_next2_166 (fun H locs hP hD hS => ?_)
                        refine lv_aload_n hx hb dX12_next2_169 rfl (lv_at hl 0 rfl) ?_
                        refine lv_dup hx hb dX12_next2_170 rfl ?_
                        refine va_get (D := G) (ci := 12) (v := .int v_1774) (C := RX12) (T := TX12) (N := 65) hx hb hts inT12 hown hK hP 0 rfl rfl 16 (by decide) (hts _ tw_1901) (fun _ h9 => h9) rfl dX12_next2_171 ?_
                        refine lv_iconst (v := 1) hx hb dX12_next2_174 (by decide) ?_
                        refine lv_iadd hx hb dX12_next2_175 ?_
                        refine lv_topi (fun x_1851 he_x_1851 => ?_)
                        have hq_x_1851 := z_addq he_x_1851 (rfl : v_1774.toInt = _) hk_1 (by omega) (by omega)
                        have hn_k_1852 : 0 ≤ x_1851.toInt ∧ x_1851.toInt ≤ 900 := by omega
                        refine va_put (D := G) (ci := 12) (v := .int x_1851) (ty := .int) (C := RX12) (T := TX12) (N := 65) hx hb hts inT12 tyX12 tyX12_ok nmX12 hown hK hP hD hS 0 rfl rfl 16 (by decide) (hts _ tw_1901) (fun _ h9 => h9) rfl (tyX12_ok 16 (by decide)) rfl rfl (Nat.le_of_ble_eq_true rfl) dX12_next2_176 (fun H locs hP hD hS => ?_)
                        refine lv_goto (tgt := 109) hx hb dX12_next2_179 (by decide) ?_
                        have hX_1853 : F_r_next2 m_textEnd m_behind m_number m_letters m_word g_tape = F_r_next2_L109b m_textEnd m_number g_tape v_44 n_L109b x_1851 (-1 : Int64) := by
                          refine hF_L109b.trans ?_
                          refine (F_r_next2_L109b_s ..).trans ?_
                          extract_lets -merge -useContext +onlyGivenNames w9 y9; have e9 : r_1835 = w9 := he_r_1835; clear_value w9; subst e9
                          extract_lets -merge -useContext +onlyGivenNames w9 y9; have e9 : (1 : Int32) = w9 := he_r_1840; clear_value w9; subst e9
                          refine (if_neg (show ¬ (1 : Int32) = 0 by decide)).trans ?_
                          try (extract_lets -merge -useContext +onlyGivenNames y9; have e9 : x_1848 = y9 := (by first | exact he_x_1848 | exact he_x_1848.symm); clear_value y9; subst e9)
                          refine (if_pos c_1849).trans ?_
                          try (extract_lets -merge -useContext +onlyGivenNames y9; have e9 : x_1851 = y9 := (by first | exact he_x_1851 | exact he_x_1851.symm); clear_value y9; subst e9)
                          exact rfl
                        exact ih_1834 x_1851 (-1) H locs ls (by omega) (by omega) (by omega) hX_1853 hP hD hS (lv_sub hl [0, 1] rfl)
                      · have b_1854 := z_fltF c_1849
                        refine lv_aload_n hx hb dX12_next2_138 rfl (lv_at hl 0 rfl) ?_
                        refine va_get (D := G) (ci := 12) (v := .long v_1775) (C := RX12) (T := TX12) (N := 65) hx hb hts inT12 hown hK hP 0 rfl rfl 19 (by decide) (hts _ tw_1904) (fun _ h9 => h9) rfl dX12_next2_139 ?_
                        refine lv_ldc2 (v := 32) hx hb hown (hts _ tw_2154) dX12_next2_142 ?_
                        refine lv_lmul hx hb dX12_next2_145 ?_
                        have hL_v_1775 := z_fulll v_1775
                        refine lv_topl (fun x_1855 he_x_1855 => ?_)
                        refine lv_aload_n hx hb dX12_next2_146 rfl (lv_at hl 0 rfl) ?_
                        refine lv_aload_n hx hb dX12_next2_147 rfl (lv_at hl 0 rfl) ?_
                        refine va_get (D := G) (ci := 12) (v := .int v_1774) (C := RX12) (T := TX12) (N := 65) hx hb hts inT12 hown hK hP 0 rfl rfl 16 (by decide) (hts _ tw_1901) (fun _ h9 => h9) rfl dX12_next2_148 ?_
                        refine z_callVi (As := [.int v_1774]) (rest := [.long x_1855, .ref h0]) (wr := []) ⟨hx, hb, hml, hown, hts⟩ hK hE hT hP hD hS hA (r_look2 l G cA h0 m_status m_thrown m_above m_under a_traySort a_trayMany a_numbers a_tape m_taped m_textEnd m_faultKind m_faultAt m_bad m_badAt 1 v_44 v_1774 m_number m_letters v_1775 a_c a_words m_markMany a_there a_tried a_best a_found m_thereMany m_foundMany m_orderHow m_orderRing m_orderMany m_hasBest m_bestTop m_bestBy a_weights a_shared m_random m_truePlace m_trueWay m_seconds m_done m_feelings m_tries m_leftOver m_playDoor m_playRing m_isOpen m_isOver m_wasTried m_hasPlayed a_feltNow a_last a_kept m_hasSeconds m_hasTurned m_hasRound a_hasFeels a_isOn m_firstAct m_meanTop m_meanBy a_order m_rowMany m_newSteps g_tape v_1774 hr_v_1774 hr_m_textEnd) lk_RX12_130 ⟨rfl, rfl⟩ ⟨Nat.le_of_ble_eq_true rfl, Nat.le_of_ble_eq_true rfl⟩ 12 rfl rfl rfl [0, 1] [] rfl rfl (by decide) rfl hl.1 rfl (lv_room (Nat.le_of_ble_eq_true rfl)) dX12_next2_151 ⟨Nat.le_of_ble_eq_true rfl, Nat.le_of_ble_eq_true rfl⟩ (fun r_1856 u_1857 H locs hw hP hD hS => ?_)
                        obtain ⟨he_r_1856, hw⟩ := hw
                        obtain ⟨hr_r_1856, hf_1859, hf_1860⟩ := hw
                        refine lv_i2l (v := (r_1856).toInt64) hx hb dX12_next2_154 rfl ?_
                        refine lv_topl (fun x_1861 he_x_1861 => ?_)
                        have hq_x_1861 := z_i2l he_x_1861
                        refine lv_ladd hx hb dX12_next2_155 ?_
                        have hL_x_1855 := z_fulll x_1855
                        refine lv_topl (fun x_1862 he_x_1862 => ?_)
                        refine lv_ldc2 (v := 96) hx hb hown (hts _ tw_2155) dX12_next2_156 ?_
                        refine lv_lsub hx hb dX12_next2_159 ?_
                        have hL_x_1862 := z_fulll x_1862
                        refine lv_topl (fun x_1863 he_x_1863 => ?_)
                        refine lv_goto (tgt := 166) hx hb dX12_next2_160 (by decide) ?_
                        refine va_put (D := G) (ci := 12) (v := .long x_1863) (ty := .long) (C := RX12) (T := TX12) (N := 65) hx hb hts inT12 tyX12 tyX12_ok nmX12 hown hK hP hD hS 0 rfl rfl 19 (by decide) (hts _ tw_1904) (fun _ h9 => h9) rfl (tyX12_ok 19 (by decide)) rfl rfl (Nat.le_of_ble_eq_true rfl) dX12_next2_166 (fun H locs hP hD hS => ?_)
                        refine lv_aload_n hx hb dX12_next2_169 rfl (lv_at hl 0 rfl) ?_
                        refine lv_dup hx hb dX12_next2_170 rfl ?_
                        refine va_get (D := G) (ci := 12) (v := .int v_1774) (C := RX12) (T := TX12) (N := 65) hx hb hts inT12 hown hK hP 0 rfl rfl 16 (by decide) (hts _ tw_1901) (fun _ h9 => h9) rfl dX12_next2_171 ?_
                        refine lv_iconst (v := 1) hx hb dX12_next2_174 (by decide) ?_
                        refine lv_iadd hx hb dX12_next2_175 ?_
                        refine lv_topi (fun x_1864 he_x_1864 => ?_)
                        have hq_x_1864 := z_addq he_x_1864 (rfl : v_1774.toInt = _) hk_1 (by omega) (by omega)
                        have hn_k_1865 : 0 ≤ x_1864.toInt ∧ x_1864.toInt ≤ 900 := by omega
                        refine va_put (D := G) (ci := 12) (v := .int x_1864) (ty := .int) (C := RX12) (T := TX12) (N := 65) hx hb hts inT12 tyX12 tyX12_ok nmX12 hown hK hP hD hS 0 rfl rfl 16 (by decide) (hts _ tw_1901) (fun _ h9 => h9) rfl (tyX12_ok 16 (by decide)) rfl rfl (Nat.le_of_ble_eq_true rfl) dX12_next2_176 (fun H locs hP hD hS => ?_)
                        refine lv_goto (tgt := 109) hx hb dX12_next2_179 (by decide) ?_
                        have hX_1866 : F_r_next2 m_textEnd m_behind m_number m_letters m_word g_tape = F_r_next2_L109b m_textEnd m_number g_tape v_44 n_L109b x_1864 x_1863 := by
                          refine hF_L109b.trans ?_
                          refine (F_r_next2_L109b_s ..).trans ?_
                          extract_lets -merge -useContext +onlyGivenNames w9 y9; have e9 : r_1835 = w9 := he_r_1835; clear_value w9; subst e9
                          extract_lets -merge -useContext +onlyGivenNames w9 y9; have e9 : (1 : Int32) = w9 := he_r_1840; clear_value w9; subst e9
                          refine (if_neg (show ¬ (1 : Int32) = 0 by decide)).trans ?_
                          try (extract_lets -merge -useContext +onlyGivenNames y9; have e9 : x_1848 = y9 := (by first | exact he_x_1848 | exact he_x_1848.symm); clear_value y9; subst e9)
                          refine (if_neg c_1849).trans ?_
                          try (extract_lets -merge -useContext +onlyGivenNames y9; have e9 : x_1855 = y9 := (by first | exact he_x_1855 | exact he_x_1855.symm); clear_value y9; subst e9)
                          extract_lets -merge -useContext +onlyGivenNames w9 y9; have e9 : r_1856 = w9 := he_r_1856; clear_value w9; subst e9
                          try (extract_lets -merge -useContext +onlyGivenNames y9; have e9 : x_1861 = y9 := (by first | exact he_x_1861 | exact he_x_1861.symm); clear_value y9; subst e9)
                          try (extract_lets -merge -useContext +onlyGivenNames y9; have e9 : x_1862 = y9 := (by first | exact he_x_1862 | exact he_x_1862.symm); clear_value y9; subst e9)
                          try (extract_lets -merge -useContext +onlyGivenNames y9; have e9 : x_1863 = y9 := (by first | exact he_x_1863 | exact he_x_1863.symm); clear_value y9; subst e9)
                          try (extract_lets -merge -useContext +onlyGivenNames y9; have e9 : x_1864 = y9 := (by first | exact he_x_1864 | exact he_x_1864.symm); clear_value y9; subst e9)
                          exact rfl
                        exact ih_1834 x_1864 x_1863 H locs ls (by omega) (by omega) (by omega) hX_1866 hP hD hS (lv_sub hl [0, 1] rfl)
                have hX_1867 : F_r_next2 m_textEnd m_behind m_number m_letters m_word g_tape = F_r_next2_L109b m_textEnd m_number g_tape v_44 ((2147483647 - v_44.toInt).toNat + 1) v_44 (0 : Int64) := by
                  refine hF_L8a.trans ?_
                  refine (F_r_next2_L8a_s ..).trans ?_
                  refine (if_neg c_960).trans ?_
                  extract_lets -merge -useContext +onlyGivenNames w9 y9; have e9 : r_1408 = w9 := he_r_1408; clear_value w9; subst e9
                  refine (if_neg c_1413).trans ?_
                  extract_lets -merge -useContext +onlyGivenNames w9 y9; have e9 : r_1418 = w9 := he_r_1418; clear_value w9; subst e9
                  refine (if_neg c_1423).trans ?_
                  refine (if_pos c_1425).trans ?_
                  extract_lets -merge -useContext +onlyGivenNames w9 y9; have e9 : r_1427 = w9 := he_r_1427; clear_value w9; subst e9
                  extract_lets -merge -useContext +onlyGivenNames w9 y9; have e9 : (1 : Int32) = w9 := he_r_1432; clear_value w9; subst e9
                  refine (if_neg (show ¬ (1 : Int32) = 0 by decide)).trans ?_
                  exact rfl
                exact hlp_1833 ((2147483647 - v_44.toInt).toNat + 1) v_44 0 _ _ _ (Nat.lt_succ_self _) hr_v_44 (by omega) hX_1867 hP hD hS (lv_sub hl [1, 0] rfl)
            · have b_1868 := z_fgeF c_1425
              refine lv_aload_n hx hb dX12_next2_77 rfl (lv_at hl 0 rfl) ?_
              refine lv_iconst (v := 0) hx hb dX12_next2_78 (by decide) ?_
              refine va_put (D := G) (ci := 12) (v := .int 0) (ty := .int) (C := RX12) (T := TX12) (N := 65) hx hb hts inT12 tyX12 tyX12_ok nmX12 hown hK hP hD hS 0 rfl rfl 14 (by decide) (hts _ tw_1899) (fun _ h9 => h9) rfl (tyX12_ok 14 (by decide)) rfl rfl (Nat.le_of_ble_eq_true rfl) dX12_next2_79 (fun H locs hP hD hS => ?_)
              have hpost : (0 ≤ (0 : Int32).toInt ∧ (0 : Int32).toInt ≤ 4) ∧ (0 ≤ v_44.toInt ∧ v_44.toInt ≤ 900) ∧ (0 ≤ v_44.toInt ∧ v_44.toInt ≤ 900) ∧ (0 ≤ m_number.toInt ∧ m_number.toInt ≤ 9999) ∧ (0 ≤ m_letters.toInt ∧ m_letters.toInt ≤ 900) ∧ (m_behind.toInt ≤ v_44.toInt) ∧ ((0 : Int32).toInt = 0 ∨ m_behind.toInt < v_44.toInt) := ⟨(by decide +kernel), hr_v_44, hr_v_44, hr_m_number, hr_m_letters, (by omega), (by omega)⟩
              have hX_1869 : F_r_next2 m_textEnd m_behind m_number m_letters m_word g_tape = (((0 : Int32), v_44, v_44, m_number, m_letters, m_word) : Int32 × Int32 × Int32 × Int32 × Int32 × Int64) := by
                refine hF_L8a.trans ?_
                refine (F_r_next2_L8a_s ..).trans ?_
                refine (if_neg c_960).trans ?_
                extract_lets -merge -useContext +onlyGivenNames w9 y9; have e9 : r_1408 = w9 := he_r_1408; clear_value w9; subst e9
                refine (if_neg c_1413).trans ?_
                extract_lets -merge -useContext +onlyGivenNames w9 y9; have e9 : r_1418 = w9 := he_r_1418; clear_value w9; subst e9
                refine (if_neg c_1423).trans ?_
                refine (if_neg c_1425).trans ?_
                exact rfl
              exact hret _ _ _ _ _ (0, v_44, v_44, m_number, m_letters, m_word) [0, 1] hP hD hS rfl (by decide) dX12_next2_82 ⟨(congrArg (fun z9 => z9.1) hX_1869).symm, (congrArg (fun z9 => z9.2.1) hX_1869).symm, (congrArg (fun z9 => z9.2.2.1) hX_1869).symm, (congrArg (fun z9 => z9.2.2.2.1) hX_1869).symm, (congrArg (fun z9 => z9.2.2.2.2.1) hX_1869).symm, (congrArg (fun z9 => z9.2.2.2.2.2) hX_1869).symm, hpost⟩
          · have b_1870 := z_feqF c_1423
            refine lv_aload_n hx hb dX12_next2_45 rfl (lv_at hl 0 rfl) ?_
            refine lv_dup hx hb dX12_next2_46 rfl ?_
            refine va_get (D := G) (ci := 12) (v := .int v_44) (C := RX12) (T := TX12) (N := 65) hx hb hts inT12 hown hK hP 0 rfl rfl 15 (by decide) (hts _ tw_1900) (fun _ h9 => h9) rfl dX12_next2_47 ?_
            refine lv_iconst (v := 1) hx hb dX12_next2_50 (by decide) ?_
            refine lv_iadd hx hb dX12_next2_51 ?_
            refine lv_topi (fun x_1871 he_x_1871 => ?_)
            have hq_x_1871 := z_addq he_x_1871 (rfl : v_44.toInt = _) hk_1 (by omega) (by omega)
            refine va_put (D := G) (ci := 12) (v := .int x_1871) (ty := .int) (C := RX12) (T := TX12) (N := 65) hx hb hts inT12 tyX12 tyX12_ok nmX12 hown hK hP hD hS 0 rfl rfl 15 (by decide) (hts _ tw_1900) (fun _ h9 => h9) rfl (tyX12_ok 15 (by decide)) rfl rfl (Nat.le_of_ble_eq_true rfl) dX12_next2_52 (fun H locs hP hD hS => ?_)
            refine lv_goto (tgt := 8) hx hb dX12_next2_55 (by decide) ?_
            have hX_1872 : F_r_next2 m_textEnd m_behind m_number m_letters m_word g_tape = F_r_next2_L8a m_textEnd m_number m_letters m_word g_tape n_L8a x_1871 := by
              refine hF_L8a.trans ?_
              refine (F_r_next2_L8a_s ..).trans ?_
              refine (if_neg c_960).trans ?_
              extract_lets -merge -useContext +onlyGivenNames w9 y9; have e9 : r_1408 = w9 := he_r_1408; clear_value w9; subst e9
              refine (if_neg c_1413).trans ?_
              extract_lets -merge -useContext +onlyGivenNames w9 y9; have e9 : r_1418 = w9 := he_r_1418; clear_value w9; subst e9
              refine (if_pos c_1423).trans ?_
              try (extract_lets -merge -useContext +onlyGivenNames y9; have e9 : x_1871 = y9 := (by first | exact he_x_1871 | exact he_x_1871.symm); clear_value y9; subst e9)
              exact rfl
            exact ih_959 x_1871 H locs ls (by omega) (by omega) (by omega) hX_1872 hP hD hS (lv_sub hl [0] rfl)
  have hX_1873 : F_r_next2 m_textEnd m_behind m_number m_letters m_word g_tape = F_r_next2_L8a m_textEnd m_number m_letters m_word g_tape ((2147483647 - m_behind.toInt).toNat + 1) m_behind := by
    refine (F_r_next2_s ..).trans ?_
    exact rfl
  exact hlp_958 ((2147483647 - m_behind.toInt).toNat + 1) m_behind _ _ _ (Nat.lt_succ_self _) hr_m_behind (by omega) hX_1873 hP hD hS (lv_sub hl [0] rfl)
set_option maxHeartbeats 40000000 in
set_option maxRecDepth 100000 in
theorem r_fail (l : Launch) (G : va_G) (cA : zCA) (h0 : Nat) (m_status : Int32) (m_thrown : Int32) (m_above : Int64) (m_under : Int64) (a_traySort : Nat) (a_trayMany : Nat) (a_numbers : Nat) (a_tape : Nat) (m_taped : Int32) (m_textEnd : Int32) (m_faultKind : Int32) (m_faultAt : Int32) (m_bad : Int32) (m_badAt : Int32) (m_token : Int32) (m_at : Int32) (m_behind : Int32) (m_number : Int32) (m_letters : Int32) (m_word : Int64) (a_c : Nat) (a_words : Nat) (m_markMany : Int32) (a_there : Nat) (a_tried : Nat) (a_best : Nat) (a_found : Nat) (m_thereMany : Int32) (m_foundMany : Int32) (m_orderHow : Int32) (m_orderRing : Int32) (m_orderMany : Int32) (m_hasBest : Int32) (m_bestTop : Int64) (m_bestBy : Int64) (a_weights : Nat) (a_shared : Nat) (m_random : Int32) (m_truePlace : Int32) (m_trueWay : Int32) (m_seconds : Int32) (m_done : Int32) (m_feelings : Int32) (m_tries : Int32) (m_leftOver : Int32) (m_playDoor : Int32) (m_playRing : Int32) (m_isOpen : Int32) (m_isOver : Int32) (m_wasTried : Int32) (m_hasPlayed : Int32) (a_feltNow : Nat) (a_last : Nat) (a_kept : Nat) (m_hasSeconds : Int32) (m_hasTurned : Int32) (m_hasRound : Int32) (a_hasFeels : Nat) (a_isOn : Nat) (m_firstAct : Int32) (m_meanTop : Int64) (m_meanBy : Int64) (a_order : Nat) (m_rowMany : Int32) (m_newSteps : Int32) (k : Int32) (pp : Int32) (hr_k : 1 ≤ k.toInt ∧ k.toInt ≤ 9) (hr_m_bad : 0 ≤ m_bad.toInt ∧ m_bad.toInt ≤ 9) : zCv l yX12_fail cX12_fail 3 none ({ frames := 0, cells := 0, slots := 0, locals := 0 }) G cA [.ref h0, .int k, .int pp] [(h0, .inr (12, [.int m_status, .int m_thrown, .long m_above, .long m_under, .ref a_traySort, .ref a_trayMany, .ref a_numbers, .ref a_tape, .int m_taped, .int m_textEnd, .int m_faultKind, .int m_faultAt, .int m_bad, .int m_badAt, .int m_token, .int m_at, .int m_behind, .int m_number, .int m_letters, .long m_word, .ref a_c, .ref a_words, .int m_markMany, .ref a_there, .ref a_tried, .ref a_best, .ref a_found, .int m_thereMany, .int m_foundMany, .int m_orderHow, .int m_orderRing, .int m_orderMany, .int m_hasBest, .long m_bestTop, .long m_bestBy, .ref a_weights, .ref a_shared, .int m_random, .int m_truePlace, .int m_trueWay, .int m_seconds, .int m_done, .int m_feelings, .int m_tries, .int m_leftOver, .int m_playDoor, .int m_playRing, .int m_isOpen, .int m_isOver, .int m_wasTried, .int m_hasPlayed, .ref a_feltNow, .ref a_last, .ref a_kept, .int m_hasSeconds, .int m_hasTurned, .int m_hasRound, .ref a_hasFeels, .ref a_isOn, .int m_firstAct, .long m_meanTop, .long m_meanBy, .ref a_order, .int m_rowMany, .int m_newSteps]))] (S := Int32 × Int32) (fun (u : Int32 × Int32) => (u.1 = (F_r_fail m_bad m_badAt k pp).1) ∧ (u.2 = (F_r_fail m_bad m_badAt k pp).2) ∧ ((1 ≤ u.1.toInt ∧ u.1.toInt ≤ 9) ∧ (1 ≤ u.1.toInt))) (fun (u : Int32 × Int32) => [(h0, .inr (12, [.int m_status, .int m_thrown, .long m_above, .long m_under, .ref a_traySort, .ref a_trayMany, .ref a_numbers, .ref a_tape, .int m_taped, .int m_textEnd, .int m_faultKind, .int m_faultAt, .int u.1, .int u.2, .int m_token, .int m_at, .int m_behind, .int m_number, .int m_letters, .long m_word, .ref a_c, .ref a_words, .int m_markMany, .ref a_there, .ref a_tried, .ref a_best, .ref a_found, .int m_thereMany, .int m_foundMany, .int m_orderHow, .int m_orderRing, .int m_orderMany, .int m_hasBest, .long m_bestTop, .long m_bestBy, .ref a_weights, .ref a_shared, .int m_random, .int m_truePlace, .int m_trueWay, .int m_seconds, .int m_done, .int m_feelings, .int m_tries, .int m_leftOver, .int m_playDoor, .int m_playRing, .int m_isOpen, .int m_isOver, .int m_wasTried, .int m_hasPlayed, .ref a_feltNow, .ref a_last, .ref a_kept, .int m_hasSeconds, .int m_hasTurned, .int m_hasRound, .ref a_hasFeels, .ref a_isOn, .int m_firstAct, .long m_meanTop, .long m_meanBy, .ref a_order, .int m_rowMany, .int m_newSteps]))]) 0 0 := by
  have hk_0 : (0 : Int32).toInt = 0 := by decide +kernel
  refine z_start2v (own := RX12) (by decide) (Nat.le_of_ble_eq_true rfl) rfl ?_
  intro p e s m args below meth c A ls Q hx hb hml hts hown hK hE hT hP hD hS hA hl hret
  have hl : lv_has ls 3 [(0, .ref h0), (1, .int k), (2, .int pp)] := hl
  refine lv_aload_n hx hb dX12_fail_0 rfl (lv_at hl 0 rfl) ?_
  refine va_get (D := G) (ci := 12) (v := .int m_bad) (C := RX12) (T := TX12) (N := 65) hx hb hts inT12 hown hK hP 0 rfl rfl 12 (by decide) (hts _ tw_1897) (fun _ h9 => h9) rfl dX12_fail_1 ?_
  refine lv_if_le (tgt := 8) hx hb dX12_fail_4 (by decide) (fun c_1 => ?_) (fun c_1 => ?_)
  · have b_2 := z_fleT c_1
    refine lv_aload_n hx hb dX12_fail_8 rfl (lv_at hl 0 rfl) ?_
    refine lv_iload_n hx hb dX12_fail_9 rfl (lv_at hl 1 rfl) ?_
    refine va_put (D := G) (ci := 12) (v := .int k) (ty := .int) (C := RX12) (T := TX12) (N := 65) hx hb hts inT12 tyX12 tyX12_ok nmX12 hown hK hP hD hS 0 rfl rfl 12 (by decide) (hts _ tw_1897) (fun _ h9 => h9) rfl (tyX12_ok 12 (by decide)) rfl rfl (Nat.le_of_ble_eq_true rfl) dX12_fail_10 (fun H locs hP hD hS => ?_)
    refine lv_aload_n hx hb dX12_fail_13 rfl (lv_at hl 0 rfl) ?_
    refine lv_iload_n hx hb dX12_fail_14 rfl (lv_at hl 2 rfl) ?_
    refine va_put (D := G) (ci := 12) (v := .int pp) (ty := .int) (C := RX12) (T := TX12) (N := 65) hx hb hts inT12 tyX12 tyX12_ok nmX12 hown hK hP hD hS 0 rfl rfl 13 (by decide) (hts _ tw_1898) (fun _ h9 => h9) rfl (tyX12_ok 13 (by decide)) rfl rfl (Nat.le_of_ble_eq_true rfl) dX12_fail_15 (fun H locs hP hD hS => ?_)
    have hpost : (1 ≤ k.toInt ∧ k.toInt ≤ 9) ∧ (1 ≤ k.toInt) := ⟨hr_k, (by omega)⟩
    have hX_3 : F_r_fail m_bad m_badAt k pp = ((k, pp) : Int32 × Int32) := by
      refine (F_r_fail_s ..).trans ?_
      refine (if_pos c_1).trans ?_
      exact rfl
    exact hret _ _ _ _ _ (k, pp) [0] hP hD hS rfl (by decide) dX12_fail_18 ⟨(congrArg (fun z9 => z9.1) hX_3).symm, (congrArg (fun z9 => z9.2) hX_3).symm, hpost⟩
  · have b_4 := z_fgtF c_1
    have hpost : (1 ≤ m_bad.toInt ∧ m_bad.toInt ≤ 9) ∧ (1 ≤ m_bad.toInt) := ⟨(by omega), (by omega)⟩
    have hX_5 : F_r_fail m_bad m_badAt k pp = ((m_bad, m_badAt) : Int32 × Int32) := by
      refine (F_r_fail_s ..).trans ?_
      refine (if_neg c_1).trans ?_
      exact rfl
    exact hret _ _ _ _ _ (m_bad, m_badAt) [0] hP hD hS rfl (by decide) dX12_fail_7 ⟨(congrArg (fun z9 => z9.1) hX_5).symm, (congrArg (fun z9 => z9.2) hX_5).symm, hpost⟩
set_option maxHeartbeats 40000000 in
set_option maxRecDepth 100000 in
theorem r_wrong (l : Launch) (G : va_G) (cA : zCA) (h0 : Nat) (m_status : Int32) (m_thrown : Int32) (m_above : Int64) (m_under : Int64) (a_traySort : Nat) (a_trayMany : Nat) (a_numbers : Nat) (a_tape : Nat) (m_taped : Int32) (m_textEnd : Int32) (m_faultKind : Int32) (m_faultAt : Int32) (m_bad : Int32) (m_badAt : Int32) (m_token : Int32) (m_at : Int32) (m_behind : Int32) (m_number : Int32) (m_letters : Int32) (m_word : Int64) (a_c : Nat) (a_words : Nat) (m_markMany : Int32) (a_there : Nat) (a_tried : Nat) (a_best : Nat) (a_found : Nat) (m_thereMany : Int32) (m_foundMany : Int32) (m_orderHow : Int32) (m_orderRing : Int32) (m_orderMany : Int32) (m_hasBest : Int32) (m_bestTop : Int64) (m_bestBy : Int64) (a_weights : Nat) (a_shared : Nat) (m_random : Int32) (m_truePlace : Int32) (m_trueWay : Int32) (m_seconds : Int32) (m_done : Int32) (m_feelings : Int32) (m_tries : Int32) (m_leftOver : Int32) (m_playDoor : Int32) (m_playRing : Int32) (m_isOpen : Int32) (m_isOver : Int32) (m_wasTried : Int32) (m_hasPlayed : Int32) (a_feltNow : Nat) (a_last : Nat) (a_kept : Nat) (m_hasSeconds : Int32) (m_hasTurned : Int32) (m_hasRound : Int32) (a_hasFeels : Nat) (a_isOn : Nat) (m_firstAct : Int32) (m_meanTop : Int64) (m_meanBy : Int64) (a_order : Nat) (m_rowMany : Int32) (m_newSteps : Int32) (hr_m_at : 0 ≤ m_at.toInt ∧ m_at.toInt ≤ 900) (hr_m_bad : 0 ≤ m_bad.toInt ∧ m_bad.toInt ≤ 9) (hr_m_token : 0 ≤ m_token.toInt ∧ m_token.toInt ≤ 4) : zCv l yX12_wrong cX12_wrong 1 none ({ frames := 1, cells := 0, slots := 0, locals := 22 }) G cA [.ref h0] [(h0, .inr (12, [.int m_status, .int m_thrown, .long m_above, .long m_under, .ref a_traySort, .ref a_trayMany, .ref a_numbers, .ref a_tape, .int m_taped, .int m_textEnd, .int m_faultKind, .int m_faultAt, .int m_bad, .int m_badAt, .int m_token, .int m_at, .int m_behind, .int m_number, .int m_letters, .long m_word, .ref a_c, .ref a_words, .int m_markMany, .ref a_there, .ref a_tried, .ref a_best, .ref a_found, .int m_thereMany, .int m_foundMany, .int m_orderHow, .int m_orderRing, .int m_orderMany, .int m_hasBest, .long m_bestTop, .long m_bestBy, .ref a_weights, .ref a_shared, .int m_random, .int m_truePlace, .int m_trueWay, .int m_seconds, .int m_done, .int m_feelings, .int m_tries, .int m_leftOver, .int m_playDoor, .int m_playRing, .int m_isOpen, .int m_isOver, .int m_wasTried, .int m_hasPlayed, .ref a_feltNow, .ref a_last, .ref a_kept, .int m_hasSeconds, .int m_hasTurned, .int m_hasRound, .ref a_hasFeels, .ref a_isOn, .int m_firstAct, .long m_meanTop, .long m_meanBy, .ref a_order, .int m_rowMany, .int m_newSteps]))] (S := Int32 × Int32) (fun (u : Int32 × Int32) => (u.1 = (F_r_wrong m_bad m_badAt m_token m_at).1) ∧ (u.2 = (F_r_wrong m_bad m_badAt m_token m_at).2) ∧ ((1 ≤ u.1.toInt ∧ u.1.toInt ≤ 9))) (fun (u : Int32 × Int32) => [(h0, .inr (12, [.int m_status, .int m_thrown, .long m_above, .long m_under, .ref a_traySort, .ref a_trayMany, .ref a_numbers, .ref a_tape, .int m_taped, .int m_textEnd, .int m_faultKind, .int m_faultAt, .int u.1, .int u.2, .int m_token, .int m_at, .int m_behind, .int m_number, .int m_letters, .long m_word, .ref a_c, .ref a_words, .int m_markMany, .ref a_there, .ref a_tried, .ref a_best, .ref a_found, .int m_thereMany, .int m_foundMany, .int m_orderHow, .int m_orderRing, .int m_orderMany, .int m_hasBest, .long m_bestTop, .long m_bestBy, .ref a_weights, .ref a_shared, .int m_random, .int m_truePlace, .int m_trueWay, .int m_seconds, .int m_done, .int m_feelings, .int m_tries, .int m_leftOver, .int m_playDoor, .int m_playRing, .int m_isOpen, .int m_isOver, .int m_wasTried, .int m_hasPlayed, .ref a_feltNow, .ref a_last, .ref a_kept, .int m_hasSeconds, .int m_hasTurned, .int m_hasRound, .ref a_hasFeels, .ref a_isOn, .int m_firstAct, .long m_meanTop, .long m_meanBy, .ref a_order, .int m_rowMany, .int m_newSteps]))]) 0 0 := by
  have hk_1 : (1 : Int32).toInt = 1 := by decide +kernel
  have hk_2 : (2 : Int32).toInt = 2 := by decide +kernel
  have hk_4 : (4 : Int32).toInt = 4 := by decide +kernel
  refine z_start2v (own := RX12) (by decide) (Nat.le_of_ble_eq_true rfl) rfl ?_
  intro p e s m args below meth c A ls Q hx hb hml hts hown hK hE hT hP hD hS hA hl hret
  have hl : lv_has ls 1 [(0, .ref h0)] := hl
  refine lv_aload_n hx hb dX12_wrong_0 rfl (lv_at hl 0 rfl) ?_
  refine lv_aload_n hx hb dX12_wrong_1 rfl (lv_at hl 0 rfl) ?_
  refine va_get (D := G) (ci := 12) (v := .int m_token) (C := RX12) (T := TX12) (N := 65) hx hb hts inT12 hown hK hP 0 rfl rfl 14 (by decide) (hts _ tw_1899) (fun _ h9 => h9) rfl dX12_wrong_2 ?_
  refine lv_iconst (v := 4) hx hb dX12_wrong_5 (by decide) ?_
  refine lv_icmp_ne (tgt := 13) hx hb dX12_wrong_6 (by decide) (fun c_1 => ?_) (fun c_1 => ?_)
  · have b_2 := z_fneT c_1
    refine lv_iconst (v := 2) hx hb dX12_wrong_13 (by decide) ?_
    refine lv_aload_n hx hb dX12_wrong_14 rfl (lv_at hl 0 rfl) ?_
    refine va_get (D := G) (ci := 12) (v := .int m_at) (C := RX12) (T := TX12) (N := 65) hx hb hts inT12 hown hK hP 0 rfl rfl 15 (by decide) (hts _ tw_1900) (fun _ h9 => h9) rfl dX12_wrong_15 ?_
    refine z_callVv (As := [.int 2, .int m_at]) (rest := []) (wr := []) ⟨hx, hb, hml, hown, hts⟩ hK hE hT hP hD hS hA (r_fail l G cA h0 m_status m_thrown m_above m_under a_traySort a_trayMany a_numbers a_tape m_taped m_textEnd m_faultKind m_faultAt m_bad m_badAt m_token m_at m_behind m_number m_letters m_word a_c a_words m_markMany a_there a_tried a_best a_found m_thereMany m_foundMany m_orderHow m_orderRing m_orderMany m_hasBest m_bestTop m_bestBy a_weights a_shared m_random m_truePlace m_trueWay m_seconds m_done m_feelings m_tries m_leftOver m_playDoor m_playRing m_isOpen m_isOver m_wasTried m_hasPlayed a_feltNow a_last a_kept m_hasSeconds m_hasTurned m_hasRound a_hasFeels a_isOn m_firstAct m_meanTop m_meanBy a_order m_rowMany m_newSteps 2 m_at (by decide +kernel) hr_m_bad) lk_RX12_180 ⟨rfl, rfl⟩ ⟨Nat.le_of_ble_eq_true rfl, Nat.le_of_ble_eq_true rfl⟩ 12 rfl rfl rfl [0] [] rfl rfl (by decide) rfl hl.1 rfl (lv_room (Nat.le_of_ble_eq_true rfl)) dX12_wrong_18 ⟨Nat.le_of_ble_eq_true rfl, Nat.le_of_ble_eq_true rfl⟩ (fun u_6 H locs hw hP hD hS => ?_)
    obtain ⟨n_3, n_4⟩ := u_6
    try dsimp only at hw
    obtain ⟨he_n_3, he_n_4, hw⟩ := hw
    obtain ⟨hr_n_3, hf_8⟩ := hw
    have hpost : (1 ≤ n_3.toInt ∧ n_3.toInt ≤ 9) := hr_n_3
    have hX_9 : F_r_wrong m_bad m_badAt m_token m_at = ((n_3, n_4) : Int32 × Int32) := by
      refine (F_r_wrong_s ..).trans ?_
      refine (if_neg c_1).trans ?_
      extract_lets -merge -useContext +onlyGivenNames w9 y1_0 y1_1; have e9 : (n_3, n_4) = w9 := ((z_tS he_n_3 he_n_4.symm)).symm; clear_value w9; subst e9
      exact rfl
    exact hret _ _ _ _ _ (n_3, n_4) [0] hP hD hS rfl (by decide) dX12_wrong_21 ⟨(congrArg (fun z9 => z9.1) hX_9).symm, (congrArg (fun z9 => z9.2) hX_9).symm, hpost⟩
  · have b_10 := z_feqF c_1
    refine lv_iconst (v := 1) hx hb dX12_wrong_9 (by decide) ?_
    refine lv_goto (tgt := 14) hx hb dX12_wrong_10 (by decide) ?_
    refine lv_aload_n hx hb dX12_wrong_14 rfl (lv_at hl 0 rfl) ?_
    refine va_get (D := G) (ci := 12) (v := .int m_at) (C := RX12) (T := TX12) (N := 65) hx hb hts inT12 hown hK hP 0 rfl rfl 15 (by decide) (hts _ tw_1900) (fun _ h9 => h9) rfl dX12_wrong_15 ?_
    refine z_callVv (As := [.int 1, .int m_at]) (rest := []) (wr := []) ⟨hx, hb, hml, hown, hts⟩ hK hE hT hP hD hS hA (r_fail l G cA h0 m_status m_thrown m_above m_under a_traySort a_trayMany a_numbers a_tape m_taped m_textEnd m_faultKind m_faultAt m_bad m_badAt m_token m_at m_behind m_number m_letters m_word a_c a_words m_markMany a_there a_tried a_best a_found m_thereMany m_foundMany m_orderHow m_orderRing m_orderMany m_hasBest m_bestTop m_bestBy a_weights a_shared m_random m_truePlace m_trueWay m_seconds m_done m_feelings m_tries m_leftOver m_playDoor m_playRing m_isOpen m_isOver m_wasTried m_hasPlayed a_feltNow a_last a_kept m_hasSeconds m_hasTurned m_hasRound a_hasFeels a_isOn m_firstAct m_meanTop m_meanBy a_order m_rowMany m_newSteps 1 m_at (by decide +kernel) hr_m_bad) lk_RX12_180 ⟨rfl, rfl⟩ ⟨Nat.le_of_ble_eq_true rfl, Nat.le_of_ble_eq_true rfl⟩ 12 rfl rfl rfl [0] [] rfl rfl (by decide) rfl hl.1 rfl (lv_room (Nat.le_of_ble_eq_true rfl)) dX12_wrong_18 ⟨Nat.le_of_ble_eq_true rfl, Nat.le_of_ble_eq_true rfl⟩ (fun u_14 H locs hw hP hD hS => ?_)
    obtain ⟨n_11, n_12⟩ := u_14
    try dsimp only at hw
    obtain ⟨he_n_11, he_n_12, hw⟩ := hw
    obtain ⟨hr_n_11, hf_16⟩ := hw
    have hpost : (1 ≤ n_11.toInt ∧ n_11.toInt ≤ 9) := hr_n_11
    have hX_17 : F_r_wrong m_bad m_badAt m_token m_at = ((n_11, n_12) : Int32 × Int32) := by
      refine (F_r_wrong_s ..).trans ?_
      refine (if_pos c_1).trans ?_
      extract_lets -merge -useContext +onlyGivenNames w9 y1_0 y1_1; have e9 : (n_11, n_12) = w9 := ((z_tS he_n_11 he_n_12.symm)).symm; clear_value w9; subst e9
      exact rfl
    exact hret _ _ _ _ _ (n_11, n_12) [0] hP hD hS rfl (by decide) dX12_wrong_21 ⟨(congrArg (fun z9 => z9.1) hX_17).symm, (congrArg (fun z9 => z9.2) hX_17).symm, hpost⟩
set_option maxHeartbeats 40000000 in
set_option maxRecDepth 100000 in
theorem r_must_0 (l : Launch) (G : va_G) (cA : zCA) (h0 : Nat) (m_status : Int32) (m_thrown : Int32) (m_above : Int64) (m_under : Int64) (a_traySort : Nat) (a_trayMany : Nat) (a_numbers : Nat) (a_tape : Nat) (m_taped : Int32) (m_textEnd : Int32) (m_faultKind : Int32) (m_faultAt : Int32) (m_bad : Int32) (m_badAt : Int32) (m_token : Int32) (m_at : Int32) (m_behind : Int32) (m_number : Int32) (m_letters : Int32) (m_word : Int64) (a_c : Nat) (a_words : Nat) (m_markMany : Int32) (a_there : Nat) (a_tried : Nat) (a_best : Nat) (a_found : Nat) (m_thereMany : Int32) (m_foundMany : Int32) (m_orderHow : Int32) (m_orderRing : Int32) (m_orderMany : Int32) (m_hasBest : Int32) (m_bestTop : Int64) (m_bestBy : Int64) (a_weights : Nat) (a_shared : Nat) (m_random : Int32) (m_truePlace : Int32) (m_trueWay : Int32) (m_seconds : Int32) (m_done : Int32) (m_feelings : Int32) (m_tries : Int32) (m_leftOver : Int32) (m_playDoor : Int32) (m_playRing : Int32) (m_isOpen : Int32) (m_isOver : Int32) (m_wasTried : Int32) (m_hasPlayed : Int32) (a_feltNow : Nat) (a_last : Nat) (a_kept : Nat) (m_hasSeconds : Int32) (m_hasTurned : Int32) (m_hasRound : Int32) (a_hasFeels : Nat) (a_isOn : Nat) (m_firstAct : Int32) (m_meanTop : Int64) (m_meanBy : Int64) (a_order : Nat) (m_rowMany : Int32) (m_newSteps : Int32) (hr_m_at : 0 ≤ m_at.toInt ∧ m_at.toInt ≤ 900) (hr_m_bad : 0 ≤ m_bad.toInt ∧ m_bad.toInt ≤ 9) (hr_m_token : 0 ≤ m_token.toInt ∧ m_token.toInt ≤ 4) : zCv l yX12_must cX12_must 2 none ({ frames := 2, cells := 0, slots := 0, locals := 42 }) G cA [.ref h0, .int 0] [(h0, .inr (12, [.int m_status, .int m_thrown, .long m_above, .long m_under, .ref a_traySort, .ref a_trayMany, .ref a_numbers, .ref a_tape, .int m_taped, .int m_textEnd, .int m_faultKind, .int m_faultAt, .int m_bad, .int m_badAt, .int m_token, .int m_at, .int m_behind, .int m_number, .int m_letters, .long m_word, .ref a_c, .ref a_words, .int m_markMany, .ref a_there, .ref a_tried, .ref a_best, .ref a_found, .int m_thereMany, .int m_foundMany, .int m_orderHow, .int m_orderRing, .int m_orderMany, .int m_hasBest, .long m_bestTop, .long m_bestBy, .ref a_weights, .ref a_shared, .int m_random, .int m_truePlace, .int m_trueWay, .int m_seconds, .int m_done, .int m_feelings, .int m_tries, .int m_leftOver, .int m_playDoor, .int m_playRing, .int m_isOpen, .int m_isOver, .int m_wasTried, .int m_hasPlayed, .ref a_feltNow, .ref a_last, .ref a_kept, .int m_hasSeconds, .int m_hasTurned, .int m_hasRound, .ref a_hasFeels, .ref a_isOn, .int m_firstAct, .long m_meanTop, .long m_meanBy, .ref a_order, .int m_rowMany, .int m_newSteps]))] (S := Int32 × Int32) (fun (u : Int32 × Int32) => (u.1 = (F_r_must_0 m_bad m_badAt m_token m_at).1) ∧ (u.2 = (F_r_must_0 m_bad m_badAt m_token m_at).2) ∧ ((1 ≤ u.1.toInt ∧ u.1.toInt ≤ 9))) (fun (u : Int32 × Int32) => [(h0, .inr (12, [.int m_status, .int m_thrown, .long m_above, .long m_under, .ref a_traySort, .ref a_trayMany, .ref a_numbers, .ref a_tape, .int m_taped, .int m_textEnd, .int m_faultKind, .int m_faultAt, .int u.1, .int u.2, .int m_token, .int m_at, .int m_behind, .int m_number, .int m_letters, .long m_word, .ref a_c, .ref a_words, .int m_markMany, .ref a_there, .ref a_tried, .ref a_best, .ref a_found, .int m_thereMany, .int m_foundMany, .int m_orderHow, .int m_orderRing, .int m_orderMany, .int m_hasBest, .long m_bestTop, .long m_bestBy, .ref a_weights, .ref a_shared, .int m_random, .int m_truePlace, .int m_trueWay, .int m_seconds, .int m_done, .int m_feelings, .int m_tries, .int m_leftOver, .int m_playDoor, .int m_playRing, .int m_isOpen, .int m_isOver, .int m_wasTried, .int m_hasPlayed, .ref a_feltNow, .ref a_last, .ref a_kept, .int m_hasSeconds, .int m_hasTurned, .int m_hasRound, .ref a_hasFeels, .ref a_isOn, .int m_firstAct, .long m_meanTop, .long m_meanBy, .ref a_order, .int m_rowMany, .int m_newSteps]))]) 0 0 := by
  have hk_0 : (0 : Int32).toInt = 0 := by decide +kernel
  refine z_start2v (own := RX12) (by decide) (Nat.le_of_ble_eq_true rfl) rfl ?_
  intro p e s m args below meth c A ls Q hx hb hml hts hown hK hE hT hP hD hS hA hl hret
  have hl : lv_has ls 2 [(0, .ref h0), (1, .int 0)] := hl
  refine lv_aload_n hx hb dX12_must_0 rfl (lv_at hl 0 rfl) ?_
  refine va_get (D := G) (ci := 12) (v := .int m_bad) (C := RX12) (T := TX12) (N := 65) hx hb hts inT12 hown hK hP 0 rfl rfl 12 (by decide) (hts _ tw_1897) (fun _ h9 => h9) rfl dX12_must_1 ?_
  refine lv_if_le (tgt := 8) hx hb dX12_must_4 (by decide) (fun c_1 => ?_) (fun c_1 => ?_)
  · have b_2 := z_fleT c_1
    refine lv_iload_n hx hb dX12_must_8 rfl (lv_at hl 1 rfl) ?_
    refine lv_if_eq (tgt := 19) hx hb dX12_must_9 (by decide) (fun _ => ?_) (fun h9 => absurd (by decide +kernel) h9)
    refine lv_aload_n hx hb dX12_must_19 rfl (lv_at hl 0 rfl) ?_
    refine z_callVv (As := []) (rest := []) (wr := []) ⟨hx, hb, hml, hown, hts⟩ hK hE hT hP hD hS hA (r_wrong l G cA h0 m_status m_thrown m_above m_under a_traySort a_trayMany a_numbers a_tape m_taped m_textEnd m_faultKind m_faultAt m_bad m_badAt m_token m_at m_behind m_number m_letters m_word a_c a_words m_markMany a_there a_tried a_best a_found m_thereMany m_foundMany m_orderHow m_orderRing m_orderMany m_hasBest m_bestTop m_bestBy a_weights a_shared m_random m_truePlace m_trueWay m_seconds m_done m_feelings m_tries m_leftOver m_playDoor m_playRing m_isOpen m_isOver m_wasTried m_hasPlayed a_feltNow a_last a_kept m_hasSeconds m_hasTurned m_hasRound a_hasFeels a_isOn m_firstAct m_meanTop m_meanBy a_order m_rowMany m_newSteps hr_m_at hr_m_bad hr_m_token) lk_RX12_187 ⟨rfl, rfl⟩ ⟨Nat.le_of_ble_eq_true rfl, Nat.le_of_ble_eq_true rfl⟩ 12 rfl rfl rfl [0] [] rfl rfl (by decide) rfl hl.1 rfl (lv_room (Nat.le_of_ble_eq_true rfl)) dX12_must_20 ⟨Nat.le_of_ble_eq_true rfl, Nat.le_of_ble_eq_true rfl⟩ (fun u_6 H locs hw hP hD hS => ?_)
    obtain ⟨n_3, n_4⟩ := u_6
    try dsimp only at hw
    obtain ⟨he_n_3, he_n_4, hw⟩ := hw
    have hr_n_3 := hw
    have hpost : (1 ≤ n_3.toInt ∧ n_3.toInt ≤ 9) := hr_n_3
    have hX_8 : F_r_must_0 m_bad m_badAt m_token m_at = ((n_3, n_4) : Int32 × Int32) := by
      refine (F_r_must_0_s ..).trans ?_
      refine (if_pos c_1).trans ?_
      extract_lets -merge -useContext +onlyGivenNames w9 y1_0 y1_1; have e9 : (n_3, n_4) = w9 := ((z_tS he_n_3 he_n_4.symm)).symm; clear_value w9; subst e9
      exact rfl
    exact hret _ _ _ _ _ (n_3, n_4) [0] hP hD hS rfl (by decide) dX12_must_23 ⟨(congrArg (fun z9 => z9.1) hX_8).symm, (congrArg (fun z9 => z9.2) hX_8).symm, hpost⟩
  · have b_9 := z_fgtF c_1
    have hpost : (1 ≤ m_bad.toInt ∧ m_bad.toInt ≤ 9) := (by omega)
    have hX_10 : F_r_must_0 m_bad m_badAt m_token m_at = ((m_bad, m_badAt) : Int32 × Int32) := by
      refine (F_r_must_0_s ..).trans ?_
      refine (if_neg c_1).trans ?_
      exact rfl
    exact hret _ _ _ _ _ (m_bad, m_badAt) [0] hP hD hS rfl (by decide) dX12_must_7 ⟨(congrArg (fun z9 => z9.1) hX_10).symm, (congrArg (fun z9 => z9.2) hX_10).symm, hpost⟩
set_option maxHeartbeats 40000000 in
set_option maxRecDepth 100000 in
theorem r_must_1 (l : Launch) (G : va_G) (cA : zCA) (h0 : Nat) (m_status : Int32) (m_thrown : Int32) (m_above : Int64) (m_under : Int64) (a_traySort : Nat) (a_trayMany : Nat) (a_numbers : Nat) (a_tape : Nat) (m_taped : Int32) (m_textEnd : Int32) (m_faultKind : Int32) (m_faultAt : Int32) (m_bad : Int32) (m_badAt : Int32) (m_token : Int32) (m_at : Int32) (m_behind : Int32) (m_number : Int32) (m_letters : Int32) (m_word : Int64) (a_c : Nat) (a_words : Nat) (m_markMany : Int32) (a_there : Nat) (a_tried : Nat) (a_best : Nat) (a_found : Nat) (m_thereMany : Int32) (m_foundMany : Int32) (m_orderHow : Int32) (m_orderRing : Int32) (m_orderMany : Int32) (m_hasBest : Int32) (m_bestTop : Int64) (m_bestBy : Int64) (a_weights : Nat) (a_shared : Nat) (m_random : Int32) (m_truePlace : Int32) (m_trueWay : Int32) (m_seconds : Int32) (m_done : Int32) (m_feelings : Int32) (m_tries : Int32) (m_leftOver : Int32) (m_playDoor : Int32) (m_playRing : Int32) (m_isOpen : Int32) (m_isOver : Int32) (m_wasTried : Int32) (m_hasPlayed : Int32) (a_feltNow : Nat) (a_last : Nat) (a_kept : Nat) (m_hasSeconds : Int32) (m_hasTurned : Int32) (m_hasRound : Int32) (a_hasFeels : Nat) (a_isOn : Nat) (m_firstAct : Int32) (m_meanTop : Int64) (m_meanBy : Int64) (a_order : Nat) (m_rowMany : Int32) (m_newSteps : Int32) (g_tape : Nat → Int32) (hr_m_textEnd : 0 ≤ m_textEnd.toInt ∧ m_textEnd.toInt ≤ 900) (hr_m_at : 0 ≤ m_at.toInt ∧ m_at.toInt ≤ 900) (hr_m_behind : 0 ≤ m_behind.toInt ∧ m_behind.toInt ≤ 900) (hr_m_bad : 0 ≤ m_bad.toInt ∧ m_bad.toInt ≤ 9) (hr_m_token : 0 ≤ m_token.toInt ∧ m_token.toInt ≤ 4) (hr_m_number : 0 ≤ m_number.toInt ∧ m_number.toInt ≤ 9999) (hr_m_letters : 0 ≤ m_letters.toInt ∧ m_letters.toInt ≤ 900) : zCv l yX12_must cX12_must 2 none ({ frames := 2, cells := 0, slots := 0, locals := 42 }) G cA [.ref h0, .int 1] [(h0, .inr (12, [.int m_status, .int m_thrown, .long m_above, .long m_under, .ref a_traySort, .ref a_trayMany, .ref a_numbers, .ref a_tape, .int m_taped, .int m_textEnd, .int m_faultKind, .int m_faultAt, .int m_bad, .int m_badAt, .int m_token, .int m_at, .int m_behind, .int m_number, .int m_letters, .long m_word, .ref a_c, .ref a_words, .int m_markMany, .ref a_there, .ref a_tried, .ref a_best, .ref a_found, .int m_thereMany, .int m_foundMany, .int m_orderHow, .int m_orderRing, .int m_orderMany, .int m_hasBest, .long m_bestTop, .long m_bestBy, .ref a_weights, .ref a_shared, .int m_random, .int m_truePlace, .int m_trueWay, .int m_seconds, .int m_done, .int m_feelings, .int m_tries, .int m_leftOver, .int m_playDoor, .int m_playRing, .int m_isOpen, .int m_isOver, .int m_wasTried, .int m_hasPlayed, .ref a_feltNow, .ref a_last, .ref a_kept, .int m_hasSeconds, .int m_hasTurned, .int m_hasRound, .ref a_hasFeels, .ref a_isOn, .int m_firstAct, .long m_meanTop, .long m_meanBy, .ref a_order, .int m_rowMany, .int m_newSteps])), (a_tape, .inl (cA.1 2, 900, .inl g_tape))] (S := Int32 × Int32 × Int32 × Int32 × Int32 × Int64) (fun (u : Int32 × Int32 × Int32 × Int32 × Int32 × Int64) => (u.1 = (F_r_must_1 m_textEnd m_bad m_token m_at m_behind m_number m_letters m_word g_tape).1) ∧ (u.2.1 = (F_r_must_1 m_textEnd m_bad m_token m_at m_behind m_number m_letters m_word g_tape).2.1) ∧ (u.2.2.1 = (F_r_must_1 m_textEnd m_bad m_token m_at m_behind m_number m_letters m_word g_tape).2.2.1) ∧ (u.2.2.2.1 = (F_r_must_1 m_textEnd m_bad m_token m_at m_behind m_number m_letters m_word g_tape).2.2.2.1) ∧ (u.2.2.2.2.1 = (F_r_must_1 m_textEnd m_bad m_token m_at m_behind m_number m_letters m_word g_tape).2.2.2.2.1) ∧ (u.2.2.2.2.2 = (F_r_must_1 m_textEnd m_bad m_token m_at m_behind m_number m_letters m_word g_tape).2.2.2.2.2) ∧ ((0 ≤ u.1.toInt ∧ u.1.toInt ≤ 4) ∧ (0 ≤ u.2.1.toInt ∧ u.2.1.toInt ≤ 900) ∧ (0 ≤ u.2.2.1.toInt ∧ u.2.2.1.toInt ≤ 900) ∧ (0 ≤ u.2.2.2.1.toInt ∧ u.2.2.2.1.toInt ≤ 9999) ∧ (0 ≤ u.2.2.2.2.1.toInt ∧ u.2.2.2.2.1.toInt ≤ 900) ∧ (m_behind.toInt ≤ u.2.2.1.toInt) ∧ (0 < m_bad.toInt → 0 < m_bad.toInt) ∧ (m_bad.toInt ≤ 0 → u.1.toInt = 0 ∨ m_behind.toInt < u.2.2.1.toInt))) (fun (u : Int32 × Int32 × Int32 × Int32 × Int32 × Int64) => [(h0, .inr (12, [.int m_status, .int m_thrown, .long m_above, .long m_under, .ref a_traySort, .ref a_trayMany, .ref a_numbers, .ref a_tape, .int m_taped, .int m_textEnd, .int m_faultKind, .int m_faultAt, .int m_bad, .int m_badAt, .int u.1, .int u.2.1, .int u.2.2.1, .int u.2.2.2.1, .int u.2.2.2.2.1, .long u.2.2.2.2.2, .ref a_c, .ref a_words, .int m_markMany, .ref a_there, .ref a_tried, .ref a_best, .ref a_found, .int m_thereMany, .int m_foundMany, .int m_orderHow, .int m_orderRing, .int m_orderMany, .int m_hasBest, .long m_bestTop, .long m_bestBy, .ref a_weights, .ref a_shared, .int m_random, .int m_truePlace, .int m_trueWay, .int m_seconds, .int m_done, .int m_feelings, .int m_tries, .int m_leftOver, .int m_playDoor, .int m_playRing, .int m_isOpen, .int m_isOver, .int m_wasTried, .int m_hasPlayed, .ref a_feltNow, .ref a_last, .ref a_kept, .int m_hasSeconds, .int m_hasTurned, .int m_hasRound, .ref a_hasFeels, .ref a_isOn, .int m_firstAct, .long m_meanTop, .long m_meanBy, .ref a_order, .int m_rowMany, .int m_newSteps])), (a_tape, .inl (cA.1 2, 900, .inl g_tape))]) 0 0 := by
  have hk_0 : (0 : Int32).toInt = 0 := by decide +kernel
  refine z_start2v (own := RX12) (by decide) (Nat.le_of_ble_eq_true rfl) rfl ?_
  intro p e s m args below meth c A ls Q hx hb hml hts hown hK hE hT hP hD hS hA hl hret
  have hl : lv_has ls 2 [(0, .ref h0), (1, .int 1)] := hl
  refine lv_aload_n hx hb dX12_must_0 rfl (lv_at hl 0 rfl) ?_
  refine va_get (D := G) (ci := 12) (v := .int m_bad) (C := RX12) (T := TX12) (N := 65) hx hb hts inT12 hown hK hP 0 rfl rfl 12 (by decide) (hts _ tw_1897) (fun _ h9 => h9) rfl dX12_must_1 ?_
  refine lv_if_le (tgt := 8) hx hb dX12_must_4 (by decide) (fun c_1 => ?_) (fun c_1 => ?_)
  · have b_2 := z_fleT c_1
    refine lv_iload_n hx hb dX12_must_8 rfl (lv_at hl 1 rfl) ?_
    refine lv_if_eq (tgt := 19) hx hb dX12_must_9 (by decide) (fun h9 => absurd h9 (by decide +kernel)) (fun _ => ?_)
    refine lv_aload_n hx hb dX12_must_12 rfl (lv_at hl 0 rfl) ?_
    refine z_callVv (As := []) (rest := []) (wr := []) ⟨hx, hb, hml, hown, hts⟩ hK hE hT hP hD hS hA (r_next2 l G cA h0 m_status m_thrown m_above m_under a_traySort a_trayMany a_numbers a_tape m_taped m_textEnd m_faultKind m_faultAt m_bad m_badAt m_token m_at m_behind m_number m_letters m_word a_c a_words m_markMany a_there a_tried a_best a_found m_thereMany m_foundMany m_orderHow m_orderRing m_orderMany m_hasBest m_bestTop m_bestBy a_weights a_shared m_random m_truePlace m_trueWay m_seconds m_done m_feelings m_tries m_leftOver m_playDoor m_playRing m_isOpen m_isOver m_wasTried m_hasPlayed a_feltNow a_last a_kept m_hasSeconds m_hasTurned m_hasRound a_hasFeels a_isOn m_firstAct m_meanTop m_meanBy a_order m_rowMany m_newSteps g_tape hr_m_textEnd hr_m_at hr_m_behind hr_m_token hr_m_number hr_m_letters) lk_RX12_184 ⟨rfl, rfl⟩ ⟨Nat.le_of_ble_eq_true rfl, Nat.le_of_ble_eq_true rfl⟩ 12 rfl rfl rfl [0, 1] [] rfl rfl (by decide) rfl hl.1 rfl (lv_room (Nat.le_of_ble_eq_true rfl)) dX12_must_13 ⟨Nat.le_of_ble_eq_true rfl, Nat.le_of_ble_eq_true rfl⟩ (fun u_10 H locs hw hP hD hS => ?_)
    obtain ⟨n_3, n_4, n_5, n_6, n_7, n_8⟩ := u_10
    try dsimp only at hw
    obtain ⟨he_n_3, he_n_4, he_n_5, he_n_6, he_n_7, he_n_8, hw⟩ := hw
    obtain ⟨hr_n_3, hr_n_4, hr_n_5, hr_n_6, hr_n_7, hf_12, hf_13⟩ := hw
    refine lv_goto (tgt := 23) hx hb dX12_must_16 (by decide) ?_
    have hpost : (0 ≤ n_3.toInt ∧ n_3.toInt ≤ 4) ∧ (0 ≤ n_4.toInt ∧ n_4.toInt ≤ 900) ∧ (0 ≤ n_5.toInt ∧ n_5.toInt ≤ 900) ∧ (0 ≤ n_6.toInt ∧ n_6.toInt ≤ 9999) ∧ (0 ≤ n_7.toInt ∧ n_7.toInt ≤ 900) ∧ (m_behind.toInt ≤ n_5.toInt) ∧ (0 < m_bad.toInt → 0 < m_bad.toInt) ∧ (m_bad.toInt ≤ 0 → n_3.toInt = 0 ∨ m_behind.toInt < n_5.toInt) := ⟨hr_n_3, hr_n_4, hr_n_5, hr_n_6, hr_n_7, (by omega), (by omega), (by omega)⟩
    have hX_14 : F_r_must_1 m_textEnd m_bad m_token m_at m_behind m_number m_letters m_word g_tape = ((n_3, n_4, n_5, n_6, n_7, n_8) : Int32 × Int32 × Int32 × Int32 × Int32 × Int64) := by
      refine (F_r_must_1_s ..).trans ?_
      refine (if_pos c_1).trans ?_
      extract_lets -merge -useContext +onlyGivenNames w9 y1_0 y1_1 y1_2 y1_3 y1_4 y1_5; have e9 : (n_3, n_4, n_5, n_6, n_7, n_8) = w9 := ((z_tS he_n_3 (z_tS he_n_4 (z_tS he_n_5 (z_tS he_n_6 (z_tS he_n_7 he_n_8.symm)))))).symm; clear_value w9; subst e9
      exact rfl
    exact hret _ _ _ _ _ (n_3, n_4, n_5, n_6, n_7, n_8) [0, 1] hP hD hS rfl (by decide) dX12_must_23 ⟨(congrArg (fun z9 => z9.1) hX_14).symm, (congrArg (fun z9 => z9.2.1) hX_14).symm, (congrArg (fun z9 => z9.2.2.1) hX_14).symm, (congrArg (fun z9 => z9.2.2.2.1) hX_14).symm, (congrArg (fun z9 => z9.2.2.2.2.1) hX_14).symm, (congrArg (fun z9 => z9.2.2.2.2.2) hX_14).symm, hpost⟩
  · have b_15 := z_fgtF c_1
    have hpost : (0 ≤ m_token.toInt ∧ m_token.toInt ≤ 4) ∧ (0 ≤ m_at.toInt ∧ m_at.toInt ≤ 900) ∧ (0 ≤ m_behind.toInt ∧ m_behind.toInt ≤ 900) ∧ (0 ≤ m_number.toInt ∧ m_number.toInt ≤ 9999) ∧ (0 ≤ m_letters.toInt ∧ m_letters.toInt ≤ 900) ∧ (m_behind.toInt ≤ m_behind.toInt) ∧ (0 < m_bad.toInt → 0 < m_bad.toInt) ∧ (m_bad.toInt ≤ 0 → m_token.toInt = 0 ∨ m_behind.toInt < m_behind.toInt) := ⟨hr_m_token, hr_m_at, hr_m_behind, hr_m_number, hr_m_letters, (by omega), (by omega), (by omega)⟩
    have hX_16 : F_r_must_1 m_textEnd m_bad m_token m_at m_behind m_number m_letters m_word g_tape = ((m_token, m_at, m_behind, m_number, m_letters, m_word) : Int32 × Int32 × Int32 × Int32 × Int32 × Int64) := by
      refine (F_r_must_1_s ..).trans ?_
      refine (if_neg c_1).trans ?_
      exact rfl
    exact hret _ _ _ _ _ (m_token, m_at, m_behind, m_number, m_letters, m_word) [0, 1] hP hD hS rfl (by decide) dX12_must_7 ⟨(congrArg (fun z9 => z9.1) hX_16).symm, (congrArg (fun z9 => z9.2.1) hX_16).symm, (congrArg (fun z9 => z9.2.2.1) hX_16).symm, (congrArg (fun z9 => z9.2.2.2.1) hX_16).symm, (congrArg (fun z9 => z9.2.2.2.2.1) hX_16).symm, (congrArg (fun z9 => z9.2.2.2.2.2) hX_16).symm, hpost⟩
set_option maxHeartbeats 40000000 in
set_option maxRecDepth 100000 in
theorem r_count (l : Launch) (G : va_G) (cA : zCA) (h0 : Nat) (m_status : Int32) (m_thrown : Int32) (m_above : Int64) (m_under : Int64) (a_traySort : Nat) (a_trayMany : Nat) (a_numbers : Nat) (a_tape : Nat) (m_taped : Int32) (m_textEnd : Int32) (m_faultKind : Int32) (m_faultAt : Int32) (m_bad : Int32) (m_badAt : Int32) (m_token : Int32) (m_at : Int32) (m_behind : Int32) (m_number : Int32) (m_letters : Int32) (m_word : Int64) (a_c : Nat) (a_words : Nat) (m_markMany : Int32) (a_there : Nat) (a_tried : Nat) (a_best : Nat) (a_found : Nat) (m_thereMany : Int32) (m_foundMany : Int32) (m_orderHow : Int32) (m_orderRing : Int32) (m_orderMany : Int32) (m_hasBest : Int32) (m_bestTop : Int64) (m_bestBy : Int64) (a_weights : Nat) (a_shared : Nat) (m_random : Int32) (m_truePlace : Int32) (m_trueWay : Int32) (m_seconds : Int32) (m_done : Int32) (m_feelings : Int32) (m_tries : Int32) (m_leftOver : Int32) (m_playDoor : Int32) (m_playRing : Int32) (m_isOpen : Int32) (m_isOver : Int32) (m_wasTried : Int32) (m_hasPlayed : Int32) (a_feltNow : Nat) (a_last : Nat) (a_kept : Nat) (m_hasSeconds : Int32) (m_hasTurned : Int32) (m_hasRound : Int32) (a_hasFeels : Nat) (a_isOn : Nat) (m_firstAct : Int32) (m_meanTop : Int64) (m_meanBy : Int64) (a_order : Nat) (m_rowMany : Int32) (m_newSteps : Int32) (g_tape : Nat → Int32) (a : Int32) (b : Int32) (hr_a : 0 ≤ a.toInt ∧ a.toInt ≤ 99) (hr_b : 0 ≤ b.toInt ∧ b.toInt ≤ 99) (hr_m_textEnd : 0 ≤ m_textEnd.toInt ∧ m_textEnd.toInt ≤ 900) (hr_m_at : 0 ≤ m_at.toInt ∧ m_at.toInt ≤ 900) (hr_m_behind : 0 ≤ m_behind.toInt ∧ m_behind.toInt ≤ 900) (hr_m_bad : 0 ≤ m_bad.toInt ∧ m_bad.toInt ≤ 9) (hr_m_token : 0 ≤ m_token.toInt ∧ m_token.toInt ≤ 4) (hr_m_number : 0 ≤ m_number.toInt ∧ m_number.toInt ≤ 9999) (hr_m_letters : 0 ≤ m_letters.toInt ∧ m_letters.toInt ≤ 900) : zCi l yX12_count cX12_count 4 (some .int) ({ frames := 2, cells := 0, slots := 0, locals := 42 }) G cA [.ref h0, .int a, .int b] [(h0, .inr (12, [.int m_status, .int m_thrown, .long m_above, .long m_under, .ref a_traySort, .ref a_trayMany, .ref a_numbers, .ref a_tape, .int m_taped, .int m_textEnd, .int m_faultKind, .int m_faultAt, .int m_bad, .int m_badAt, .int m_token, .int m_at, .int m_behind, .int m_number, .int m_letters, .long m_word, .ref a_c, .ref a_words, .int m_markMany, .ref a_there, .ref a_tried, .ref a_best, .ref a_found, .int m_thereMany, .int m_foundMany, .int m_orderHow, .int m_orderRing, .int m_orderMany, .int m_hasBest, .long m_bestTop, .long m_bestBy, .ref a_weights, .ref a_shared, .int m_random, .int m_truePlace, .int m_trueWay, .int m_seconds, .int m_done, .int m_feelings, .int m_tries, .int m_leftOver, .int m_playDoor, .int m_playRing, .int m_isOpen, .int m_isOver, .int m_wasTried, .int m_hasPlayed, .ref a_feltNow, .ref a_last, .ref a_kept, .int m_hasSeconds, .int m_hasTurned, .int m_hasRound, .ref a_hasFeels, .ref a_isOn, .int m_firstAct, .long m_meanTop, .long m_meanBy, .ref a_order, .int m_rowMany, .int m_newSteps])), (a_tape, .inl (cA.1 2, 900, .inl g_tape))] (S := Int32 × Int32 × Int32 × Int32 × Int32 × Int32 × Int32 × Int64) (fun (r : Int32) (u : Int32 × Int32 × Int32 × Int32 × Int32 × Int32 × Int32 × Int64) => (r = (F_r_count m_textEnd m_bad m_badAt m_token m_at m_behind m_number m_letters m_word g_tape a b).1) ∧ (u.1 = (F_r_count m_textEnd m_bad m_badAt m_token m_at m_behind m_number m_letters m_word g_tape a b).2.1) ∧ (u.2.1 = (F_r_count m_textEnd m_bad m_badAt m_token m_at m_behind m_number m_letters m_word g_tape a b).2.2.1) ∧ (u.2.2.1 = (F_r_count m_textEnd m_bad m_badAt m_token m_at m_behind m_number m_letters m_word g_tape a b).2.2.2.1) ∧ (u.2.2.2.1 = (F_r_count m_textEnd m_bad m_badAt m_token m_at m_behind m_number m_letters m_word g_tape a b).2.2.2.2.1) ∧ (u.2.2.2.2.1 = (F_r_count m_textEnd m_bad m_badAt m_token m_at m_behind m_number m_letters m_word g_tape a b).2.2.2.2.2.1) ∧ (u.2.2.2.2.2.1 = (F_r_count m_textEnd m_bad m_badAt m_token m_at m_behind m_number m_letters m_word g_tape a b).2.2.2.2.2.2.1) ∧ (u.2.2.2.2.2.2.1 = (F_r_count m_textEnd m_bad m_badAt m_token m_at m_behind m_number m_letters m_word g_tape a b).2.2.2.2.2.2.2.1) ∧ (u.2.2.2.2.2.2.2 = (F_r_count m_textEnd m_bad m_badAt m_token m_at m_behind m_number m_letters m_word g_tape a b).2.2.2.2.2.2.2.2) ∧ ((0 ≤ r.toInt ∧ r.toInt ≤ 99) ∧ (0 ≤ u.1.toInt ∧ u.1.toInt ≤ 9) ∧ (0 ≤ u.2.2.1.toInt ∧ u.2.2.1.toInt ≤ 4) ∧ (0 ≤ u.2.2.2.1.toInt ∧ u.2.2.2.1.toInt ≤ 900) ∧ (0 ≤ u.2.2.2.2.1.toInt ∧ u.2.2.2.2.1.toInt ≤ 900) ∧ (0 ≤ u.2.2.2.2.2.1.toInt ∧ u.2.2.2.2.2.1.toInt ≤ 9999) ∧ (0 ≤ u.2.2.2.2.2.2.1.toInt ∧ u.2.2.2.2.2.2.1.toInt ≤ 900) ∧ (m_behind.toInt ≤ u.2.2.2.2.1.toInt) ∧ (0 < m_bad.toInt → 0 < u.1.toInt) ∧ (u.1.toInt ≤ 0 → u.2.2.1.toInt = 0 ∨ m_behind.toInt < u.2.2.2.2.1.toInt) ∧ (u.1.toInt ≤ 0 → a.toInt ≤ r.toInt ∧ r.toInt ≤ b.toInt) ∧ (r.toInt ≤ b.toInt) ∧ (a.toInt ≤ r.toInt ∨ r.toInt = 0))) (fun (u : Int32 × Int32 × Int32 × Int32 × Int32 × Int32 × Int32 × Int64) => [(h0, .inr (12, [.int m_status, .int m_thrown, .long m_above, .long m_under, .ref a_traySort, .ref a_trayMany, .ref a_numbers, .ref a_tape, .int m_taped, .int m_textEnd, .int m_faultKind, .int m_faultAt, .int u.1, .int u.2.1, .int u.2.2.1, .int u.2.2.2.1, .int u.2.2.2.2.1, .int u.2.2.2.2.2.1, .int u.2.2.2.2.2.2.1, .long u.2.2.2.2.2.2.2, .ref a_c, .ref a_words, .int m_markMany, .ref a_there, .ref a_tried, .ref a_best, .ref a_found, .int m_thereMany, .int m_foundMany, .int m_orderHow, .int m_orderRing, .int m_orderMany, .int m_hasBest, .long m_bestTop, .long m_bestBy, .ref a_weights, .ref a_shared, .int m_random, .int m_truePlace, .int m_trueWay, .int m_seconds, .int m_done, .int m_feelings, .int m_tries, .int m_leftOver, .int m_playDoor, .int m_playRing, .int m_isOpen, .int m_isOver, .int m_wasTried, .int m_hasPlayed, .ref a_feltNow, .ref a_last, .ref a_kept, .int m_hasSeconds, .int m_hasTurned, .int m_hasRound, .ref a_hasFeels, .ref a_isOn, .int m_firstAct, .long m_meanTop, .long m_meanBy, .ref a_order, .int m_rowMany, .int m_newSteps])), (a_tape, .inl (cA.1 2, 900, .inl g_tape))]) 0 0 := by
  have hk_0 : (0 : Int32).toInt = 0 := by decide +kernel
  have hk_2 : (2 : Int32).toInt = 2 := by decide +kernel
  have hk_4 : (4 : Int32).toInt = 4 := by decide +kernel
  refine z_start2i (own := RX12) (by decide) (Nat.le_of_ble_eq_true rfl) rfl ?_
  intro p e s m args below meth c A ls Q hx hb hml hts hown hK hE hT hP hD hS hA hl hret
  have hl : lv_has ls 4 [(0, .ref h0), (1, .int a), (2, .int b)] := hl
  refine lv_aload_n hx hb dX12_count_0 rfl (lv_at hl 0 rfl) ?_
  refine va_get (D := G) (ci := 12) (v := .int m_bad) (C := RX12) (T := TX12) (N := 65) hx hb hts inT12 hown hK hP 0 rfl rfl 12 (by decide) (hts _ tw_1897) (fun _ h9 => h9) rfl dX12_count_1 ?_
  refine lv_if_ne (tgt := 19) hx hb dX12_count_4 (by decide) (fun c_1 => ?_) (fun c_1 => ?_)
  · have b_2 := z_fneT c_1
    refine lv_aload_n hx hb dX12_count_19 rfl (lv_at hl 0 rfl) ?_
    refine va_get (D := G) (ci := 12) (v := .int m_bad) (C := RX12) (T := TX12) (N := 65) hx hb hts inT12 hown hK hP 0 rfl rfl 12 (by decide) (hts _ tw_1897) (fun _ h9 => h9) rfl dX12_count_20 ?_
    refine lv_if_ne (tgt := 50) hx hb dX12_count_23 (by decide) (fun c_3 => ?_) (fun h9 => (z_no (by have h8 := z_feqF h9; omega)))
    have b_4 := z_fneT c_3
    refine lv_aload_n hx hb dX12_count_50 rfl (lv_at hl 0 rfl) ?_
    refine va_get (D := G) (ci := 12) (v := .int m_bad) (C := RX12) (T := TX12) (N := 65) hx hb hts inT12 hown hK hP 0 rfl rfl 12 (by decide) (hts _ tw_1897) (fun _ h9 => h9) rfl dX12_count_51 ?_
    refine lv_if_le (tgt := 59) hx hb dX12_count_54 (by decide) (fun h9 => (z_no (by have h8 := z_fleT h9; omega))) (fun c_5 => ?_)
    have b_6 := z_fgtF c_5
    refine lv_iconst (v := 0) hx hb dX12_count_57 (by decide) ?_
    have hpost : (0 ≤ (0 : Int32).toInt ∧ (0 : Int32).toInt ≤ 99) ∧ (0 ≤ m_bad.toInt ∧ m_bad.toInt ≤ 9) ∧ (0 ≤ m_token.toInt ∧ m_token.toInt ≤ 4) ∧ (0 ≤ m_at.toInt ∧ m_at.toInt ≤ 900) ∧ (0 ≤ m_behind.toInt ∧ m_behind.toInt ≤ 900) ∧ (0 ≤ m_number.toInt ∧ m_number.toInt ≤ 9999) ∧ (0 ≤ m_letters.toInt ∧ m_letters.toInt ≤ 900) ∧ (m_behind.toInt ≤ m_behind.toInt) ∧ (0 < m_bad.toInt → 0 < m_bad.toInt) ∧ (m_bad.toInt ≤ 0 → m_token.toInt = 0 ∨ m_behind.toInt < m_behind.toInt) ∧ (m_bad.toInt ≤ 0 → a.toInt ≤ (0 : Int32).toInt ∧ (0 : Int32).toInt ≤ b.toInt) ∧ ((0 : Int32).toInt ≤ b.toInt) ∧ (a.toInt ≤ (0 : Int32).toInt ∨ (0 : Int32).toInt = 0) := ⟨(by decide +kernel), hr_m_bad, hr_m_token, hr_m_at, hr_m_behind, hr_m_number, hr_m_letters, (by omega), (by omega), (by omega), (by omega), (by omega), (by omega)⟩
    have hX_7 : F_r_count m_textEnd m_bad m_badAt m_token m_at m_behind m_number m_letters m_word g_tape a b = (((0 : Int32), m_bad, m_badAt, m_token, m_at, m_behind, m_number, m_letters, m_word) : Int32 × Int32 × Int32 × Int32 × Int32 × Int32 × Int32 × Int32 × Int64) := by
      refine (F_r_count_s ..).trans ?_
      refine (if_neg c_1).trans ?_
      exact rfl
    exact hret _ _ _ _ _ _ (m_bad, m_badAt, m_token, m_at, m_behind, m_number, m_letters, m_word) [0, 1] hP hD hS rfl (by decide) dX12_count_58 ⟨(congrArg (fun z9 => z9.1) hX_7).symm, (congrArg (fun z9 => z9.2.1) hX_7).symm, (congrArg (fun z9 => z9.2.2.1) hX_7).symm, (congrArg (fun z9 => z9.2.2.2.1) hX_7).symm, (congrArg (fun z9 => z9.2.2.2.2.1) hX_7).symm, (congrArg (fun z9 => z9.2.2.2.2.2.1) hX_7).symm, (congrArg (fun z9 => z9.2.2.2.2.2.2.1) hX_7).symm, (congrArg (fun z9 => z9.2.2.2.2.2.2.2.1) hX_7).symm, (congrArg (fun z9 => z9.2.2.2.2.2.2.2.2) hX_7).symm, hpost⟩
  · have b_8 := z_feqF c_1
    refine lv_aload_n hx hb dX12_count_7 rfl (lv_at hl 0 rfl) ?_
    refine va_get (D := G) (ci := 12) (v := .int m_token) (C := RX12) (T := TX12) (N := 65) hx hb hts inT12 hown hK hP 0 rfl rfl 14 (by decide) (hts _ tw_1899) (fun _ h9 => h9) rfl dX12_count_8 ?_
    refine lv_iconst (v := 2) hx hb dX12_count_11 (by decide) ?_
    refine lv_icmp_eq (tgt := 19) hx hb dX12_count_12 (by decide) (fun c_9 => ?_) (fun c_9 => ?_)
    · have b_10 := z_feqT c_9
      refine lv_aload_n hx hb dX12_count_19 rfl (lv_at hl 0 rfl) ?_
      refine va_get (D := G) (ci := 12) (v := .int m_bad) (C := RX12) (T := TX12) (N := 65) hx hb hts inT12 hown hK hP 0 rfl rfl 12 (by decide) (hts _ tw_1897) (fun _ h9 => h9) rfl dX12_count_20 ?_
      refine lv_if_ne (tgt := 50) hx hb dX12_count_23 (by decide) (fun h9 => (z_no (by have h8 := z_fneT h9; omega))) (fun c_11 => ?_)
      have b_12 := z_feqF c_11
      refine lv_aload_n hx hb dX12_count_26 rfl (lv_at hl 0 rfl) ?_
      refine va_get (D := G) (ci := 12) (v := .int m_number) (C := RX12) (T := TX12) (N := 65) hx hb hts inT12 hown hK hP 0 rfl rfl 17 (by decide) (hts _ tw_1902) (fun _ h9 => h9) rfl dX12_count_27 ?_
      refine lv_i2l (v := (m_number).toInt64) hx hb dX12_count_30 rfl ?_
      refine lv_topl (fun x_13 he_x_13 => ?_)
      have hq_x_13 := z_i2l he_x_13
      refine lv_iload_n hx hb dX12_count_31 rfl (lv_at hl 1 rfl) ?_
      refine lv_i2l (v := (a).toInt64) hx hb dX12_count_32 rfl ?_
      refine lv_topl (fun x_14 he_x_14 => ?_)
      have hq_x_14 := z_i2l he_x_14
      refine lv_iload_n hx hb dX12_count_33 rfl (lv_at hl 2 rfl) ?_
      refine lv_i2l (v := (b).toInt64) hx hb dX12_count_34 rfl ?_
      refine lv_topl (fun x_15 he_x_15 => ?_)
      have hq_x_15 := z_i2l he_x_15
      refine z_callSi (As := [.long x_13, .long x_14, .long x_15]) (rest := []) (wr := [(h0, .inr (12, [.int m_status, .int m_thrown, .long m_above, .long m_under, .ref a_traySort, .ref a_trayMany, .ref a_numbers, .ref a_tape, .int m_taped, .int m_textEnd, .int m_faultKind, .int m_faultAt, .int m_bad, .int m_badAt, .int m_token, .int m_at, .int m_behind, .int m_number, .int m_letters, .long m_word, .ref a_c, .ref a_words, .int m_markMany, .ref a_there, .ref a_tried, .ref a_best, .ref a_found, .int m_thereMany, .int m_foundMany, .int m_orderHow, .int m_orderRing, .int m_orderMany, .int m_hasBest, .long m_bestTop, .long m_bestBy, .ref a_weights, .ref a_shared, .int m_random, .int m_truePlace, .int m_trueWay, .int m_seconds, .int m_done, .int m_feelings, .int m_tries, .int m_leftOver, .int m_playDoor, .int m_playRing, .int m_isOpen, .int m_isOver, .int m_wasTried, .int m_hasPlayed, .ref a_feltNow, .ref a_last, .ref a_kept, .int m_hasSeconds, .int m_hasTurned, .int m_hasRound, .ref a_hasFeels, .ref a_isOn, .int m_firstAct, .long m_meanTop, .long m_meanBy, .ref a_order, .int m_rowMany, .int m_newSteps])), (a_tape, .inl (cA.1 2, 900, .inl g_tape))]) ⟨hx, hb, hml, hown, hts⟩ hK hE hT hP hD hS hA (r_isIn l G cA x_13 x_14 x_15) lk_RX12_117 ⟨rfl, rfl⟩ ⟨Nat.le_of_ble_eq_true rfl, Nat.le_of_ble_eq_true rfl⟩ [] [0, 1] rfl rfl (by decide) rfl hl.1 rfl (lv_room (Nat.le_of_ble_eq_true rfl)) dX12_count_35 ⟨Nat.le_of_ble_eq_true rfl, Nat.le_of_ble_eq_true rfl⟩ (fun r_16 u_17 H locs hw hP hD hS => ?_)
      obtain ⟨he_r_16, hw⟩ := hw
      rcases hw with ⟨rfl, hf_19⟩ | ⟨rfl, hf_20⟩
      · skip
        refine lv_if_ne (tgt := 50) hx hb dX12_count_38 (by decide) (fun h9 => absurd (by decide +kernel) h9) (fun _ => ?_)
        refine lv_aload_n hx hb dX12_count_41 rfl (lv_at hl 0 rfl) ?_
        refine lv_iconst (v := 4) hx hb dX12_count_42 (by decide) ?_
        refine lv_aload_n hx hb dX12_count_43 rfl (lv_at hl 0 rfl) ?_
        refine va_get (D := G) (ci := 12) (v := .int m_at) (C := RX12) (T := TX12) (N := 65) hx hb hts inT12 hown hK hP 0 rfl rfl 15 (by decide) (hts _ tw_1900) (fun _ h9 => h9) rfl dX12_count_44 ?_
        refine z_callVv (As := [.int 4, .int m_at]) (rest := []) (wr := [(a_tape, .inl (cA.1 2, 900, .inl g_tape))]) ⟨hx, hb, hml, hown, hts⟩ hK hE hT hP hD hS hA (r_fail l G cA h0 m_status m_thrown m_above m_under a_traySort a_trayMany a_numbers a_tape m_taped m_textEnd m_faultKind m_faultAt m_bad m_badAt m_token m_at m_behind m_number m_letters m_word a_c a_words m_markMany a_there a_tried a_best a_found m_thereMany m_foundMany m_orderHow m_orderRing m_orderMany m_hasBest m_bestTop m_bestBy a_weights a_shared m_random m_truePlace m_trueWay m_seconds m_done m_feelings m_tries m_leftOver m_playDoor m_playRing m_isOpen m_isOver m_wasTried m_hasPlayed a_feltNow a_last a_kept m_hasSeconds m_hasTurned m_hasRound a_hasFeels a_isOn m_firstAct m_meanTop m_meanBy a_order m_rowMany m_newSteps 4 m_at (by decide +kernel) hr_m_bad) lk_RX12_180 ⟨rfl, rfl⟩ ⟨Nat.le_of_ble_eq_true rfl, Nat.le_of_ble_eq_true rfl⟩ 12 rfl rfl rfl [0] [1] rfl rfl (by decide) rfl hl.1 rfl (lv_room (Nat.le_of_ble_eq_true rfl)) dX12_count_47 ⟨Nat.le_of_ble_eq_true rfl, Nat.le_of_ble_eq_true rfl⟩ (fun u_24 H locs hw hP hD hS => ?_)
        obtain ⟨n_21, n_22⟩ := u_24
        try dsimp only at hw
        obtain ⟨he_n_21, he_n_22, hw⟩ := hw
        obtain ⟨hr_n_21, hf_26⟩ := hw
        refine lv_aload_n hx hb dX12_count_50 rfl (lv_at hl 0 rfl) ?_
        refine va_get (D := G) (ci := 12) (v := .int n_21) (C := RX12) (T := TX12) (N := 65) hx hb hts inT12 hown hK hP 1 rfl rfl 12 (by decide) (hts _ tw_1897) (fun _ h9 => h9) rfl dX12_count_51 ?_
        refine lv_if_le (tgt := 59) hx hb dX12_count_54 (by decide) (fun h9 => (z_no (by have h8 := z_fleT h9; omega))) (fun c_27 => ?_)
        have b_28 := z_fgtF c_27
        refine lv_iconst (v := 0) hx hb dX12_count_57 (by decide) ?_
        have hpost : (0 ≤ (0 : Int32).toInt ∧ (0 : Int32).toInt ≤ 99) ∧ (0 ≤ n_21.toInt ∧ n_21.toInt ≤ 9) ∧ (0 ≤ m_token.toInt ∧ m_token.toInt ≤ 4) ∧ (0 ≤ m_at.toInt ∧ m_at.toInt ≤ 900) ∧ (0 ≤ m_behind.toInt ∧ m_behind.toInt ≤ 900) ∧ (0 ≤ m_number.toInt ∧ m_number.toInt ≤ 9999) ∧ (0 ≤ m_letters.toInt ∧ m_letters.toInt ≤ 900) ∧ (m_behind.toInt ≤ m_behind.toInt) ∧ (0 < m_bad.toInt → 0 < n_21.toInt) ∧ (n_21.toInt ≤ 0 → m_token.toInt = 0 ∨ m_behind.toInt < m_behind.toInt) ∧ (n_21.toInt ≤ 0 → a.toInt ≤ (0 : Int32).toInt ∧ (0 : Int32).toInt ≤ b.toInt) ∧ ((0 : Int32).toInt ≤ b.toInt) ∧ (a.toInt ≤ (0 : Int32).toInt ∨ (0 : Int32).toInt = 0) := ⟨(by decide +kernel), (z_rgw hr_n_21 (by decide) (by decide)), hr_m_token, hr_m_at, hr_m_behind, hr_m_number, hr_m_letters, (by omega), (by omega), (by omega), (by omega), (by omega), (by omega)⟩
        have hX_29 : F_r_count m_textEnd m_bad m_badAt m_token m_at m_behind m_number m_letters m_word g_tape a b = (((0 : Int32), n_21, n_22, m_token, m_at, m_behind, m_number, m_letters, m_word) : Int32 × Int32 × Int32 × Int32 × Int32 × Int32 × Int32 × Int32 × Int64) := by
          refine (F_r_count_s ..).trans ?_
          refine (if_pos c_1).trans ?_
          refine (if_pos c_9).trans ?_
          try (extract_lets -merge -useContext +onlyGivenNames y9; have e9 : x_13 = y9 := (by first | exact he_x_13 | exact he_x_13.symm); clear_value y9; subst e9)
          try (extract_lets -merge -useContext +onlyGivenNames y9; have e9 : x_14 = y9 := (by first | exact he_x_14 | exact he_x_14.symm); clear_value y9; subst e9)
          try (extract_lets -merge -useContext +onlyGivenNames y9; have e9 : x_15 = y9 := (by first | exact he_x_15 | exact he_x_15.symm); clear_value y9; subst e9)
          extract_lets -merge -useContext +onlyGivenNames w9 y9; have e9 : (0 : Int32) = w9 := he_r_16; clear_value w9; subst e9
          refine (if_pos rfl).trans ?_
          extract_lets -merge -useContext +onlyGivenNames w9 y7_0 y7_1; have e9 : (n_21, n_22) = w9 := ((z_tS he_n_21 he_n_22.symm)).symm; clear_value w9; subst e9
          exact rfl
        exact hret _ _ _ _ _ _ (n_21, n_22, m_token, m_at, m_behind, m_number, m_letters, m_word) [1, 0] hP hD hS rfl (by decide) dX12_count_58 ⟨(congrArg (fun z9 => z9.1) hX_29).symm, (congrArg (fun z9 => z9.2.1) hX_29).symm, (congrArg (fun z9 => z9.2.2.1) hX_29).symm, (congrArg (fun z9 => z9.2.2.2.1) hX_29).symm, (congrArg (fun z9 => z9.2.2.2.2.1) hX_29).symm, (congrArg (fun z9 => z9.2.2.2.2.2.1) hX_29).symm, (congrArg (fun z9 => z9.2.2.2.2.2.2.1) hX_29).symm, (congrArg (fun z9 => z9.2.2.2.2.2.2.2.1) hX_29).symm, (congrArg (fun z9 => z9.2.2.2.2.2.2.2.2) hX_29).symm, hpost⟩
      · skip
        refine lv_if_ne (tgt := 50) hx hb dX12_count_38 (by decide) (fun _ => ?_) (fun h9 => absurd h9 (by decide +kernel))
        refine lv_aload_n hx hb dX12_count_50 rfl (lv_at hl 0 rfl) ?_
        refine va_get (D := G) (ci := 12) (v := .int m_bad) (C := RX12) (T := TX12) (N := 65) hx hb hts inT12 hown hK hP 0 rfl rfl 12 (by decide) (hts _ tw_1897) (fun _ h9 => h9) rfl dX12_count_51 ?_
        refine lv_if_le (tgt := 59) hx hb dX12_count_54 (by decide) (fun c_30 => ?_) (fun h9 => (z_no (by have h8 := z_fgtF h9; omega)))
        have b_31 := z_fleT c_30
        refine lv_aload_n hx hb dX12_count_59 rfl (lv_at hl 0 rfl) ?_
        refine va_get (D := G) (ci := 12) (v := .int m_number) (C := RX12) (T := TX12) (N := 65) hx hb hts inT12 hown hK hP 0 rfl rfl 17 (by decide) (hts _ tw_1902) (fun _ h9 => h9) rfl dX12_count_60 ?_
        refine lv_istore_n (lv' := [(3, .int m_number), (0, .ref h0), (1, .int a), (2, .int b)]) hx hb dX12_count_63 rfl hl (by decide) rfl (fun ls hl => ?_)
        refine lv_aload_n hx hb dX12_count_64 rfl (lv_at hl 1 rfl) ?_
        refine z_callVv (As := []) (rest := []) (wr := []) ⟨hx, hb, hml, hown, hts⟩ hK hE hT hP hD hS hA (r_next2 l G cA h0 m_status m_thrown m_above m_under a_traySort a_trayMany a_numbers a_tape m_taped m_textEnd m_faultKind m_faultAt m_bad m_badAt m_token m_at m_behind m_number m_letters m_word a_c a_words m_markMany a_there a_tried a_best a_found m_thereMany m_foundMany m_orderHow m_orderRing m_orderMany m_hasBest m_bestTop m_bestBy a_weights a_shared m_random m_truePlace m_trueWay m_seconds m_done m_feelings m_tries m_leftOver m_playDoor m_playRing m_isOpen m_isOver m_wasTried m_hasPlayed a_feltNow a_last a_kept m_hasSeconds m_hasTurned m_hasRound a_hasFeels a_isOn m_firstAct m_meanTop m_meanBy a_order m_rowMany m_newSteps g_tape hr_m_textEnd hr_m_at hr_m_behind hr_m_token hr_m_number hr_m_letters) lk_RX12_184 ⟨rfl, rfl⟩ ⟨Nat.le_of_ble_eq_true rfl, Nat.le_of_ble_eq_true rfl⟩ 12 rfl rfl rfl [0, 1] [] rfl rfl (by decide) rfl hl.1 rfl (lv_room (Nat.le_of_ble_eq_true rfl)) dX12_count_65 ⟨Nat.le_of_ble_eq_true rfl, Nat.le_of_ble_eq_true rfl⟩ (fun u_39 H locs hw hP hD hS => ?_)
        obtain ⟨n_32, n_33, n_34, n_35, n_36, n_37⟩ := u_39
        try dsimp only at hw
        obtain ⟨he_n_32, he_n_33, he_n_34, he_n_35, he_n_36, he_n_37, hw⟩ := hw
        obtain ⟨hr_n_32, hr_n_33, hr_n_34, hr_n_35, hr_n_36, hf_41, hf_42⟩ := hw
        refine lv_iload_n hx hb dX12_count_68 rfl (lv_at hl 0 rfl) ?_
        have hpost : (0 ≤ m_number.toInt ∧ m_number.toInt ≤ 99) ∧ (0 ≤ m_bad.toInt ∧ m_bad.toInt ≤ 9) ∧ (0 ≤ n_32.toInt ∧ n_32.toInt ≤ 4) ∧ (0 ≤ n_33.toInt ∧ n_33.toInt ≤ 900) ∧ (0 ≤ n_34.toInt ∧ n_34.toInt ≤ 900) ∧ (0 ≤ n_35.toInt ∧ n_35.toInt ≤ 9999) ∧ (0 ≤ n_36.toInt ∧ n_36.toInt ≤ 900) ∧ (m_behind.toInt ≤ n_34.toInt) ∧ (0 < m_bad.toInt → 0 < m_bad.toInt) ∧ (m_bad.toInt ≤ 0 → n_32.toInt = 0 ∨ m_behind.toInt < n_34.toInt) ∧ (m_bad.toInt ≤ 0 → a.toInt ≤ m_number.toInt ∧ m_number.toInt ≤ b.toInt) ∧ (m_number.toInt ≤ b.toInt) ∧ (a.toInt ≤ m_number.toInt ∨ m_number.toInt = 0) := ⟨(by omega), hr_m_bad, hr_n_32, hr_n_33, hr_n_34, hr_n_35, hr_n_36, (by omega), (by omega), (by omega), (by omega), (by omega), (by omega)⟩
        have hX_43 : F_r_count m_textEnd m_bad m_badAt m_token m_at m_behind m_number m_letters m_word g_tape a b = ((m_number, m_bad, m_badAt, n_32, n_33, n_34, n_35, n_36, n_37) : Int32 × Int32 × Int32 × Int32 × Int32 × Int32 × Int32 × Int32 × Int64) := by
          refine (F_r_count_s ..).trans ?_
          refine (if_pos c_1).trans ?_
          refine (if_pos c_9).trans ?_
          try (extract_lets -merge -useContext +onlyGivenNames y9; have e9 : x_13 = y9 := (by first | exact he_x_13 | exact he_x_13.symm); clear_value y9; subst e9)
          try (extract_lets -merge -useContext +onlyGivenNames y9; have e9 : x_14 = y9 := (by first | exact he_x_14 | exact he_x_14.symm); clear_value y9; subst e9)
          try (extract_lets -merge -useContext +onlyGivenNames y9; have e9 : x_15 = y9 := (by first | exact he_x_15 | exact he_x_15.symm); clear_value y9; subst e9)
          extract_lets -merge -useContext +onlyGivenNames w9 y9; have e9 : (1 : Int32) = w9 := he_r_16; clear_value w9; subst e9
          refine (if_neg (show ¬ (1 : Int32) = 0 by decide)).trans ?_
          extract_lets -merge -useContext +onlyGivenNames w9 y7_0 y7_1 y7_2 y7_3 y7_4 y7_5; have e9 : (n_32, n_33, n_34, n_35, n_36, n_37) = w9 := ((z_tS he_n_32 (z_tS he_n_33 (z_tS he_n_34 (z_tS he_n_35 (z_tS he_n_36 he_n_37.symm)))))).symm; clear_value w9; subst e9
          exact rfl
        exact hret _ _ _ _ _ _ (m_bad, m_badAt, n_32, n_33, n_34, n_35, n_36, n_37) [0, 1] hP hD hS rfl (by decide) dX12_count_69 ⟨(congrArg (fun z9 => z9.1) hX_43).symm, (congrArg (fun z9 => z9.2.1) hX_43).symm, (congrArg (fun z9 => z9.2.2.1) hX_43).symm, (congrArg (fun z9 => z9.2.2.2.1) hX_43).symm, (congrArg (fun z9 => z9.2.2.2.2.1) hX_43).symm, (congrArg (fun z9 => z9.2.2.2.2.2.1) hX_43).symm, (congrArg (fun z9 => z9.2.2.2.2.2.2.1) hX_43).symm, (congrArg (fun z9 => z9.2.2.2.2.2.2.2.1) hX_43).symm, (congrArg (fun z9 => z9.2.2.2.2.2.2.2.2) hX_43).symm, hpost⟩
    · have b_44 := z_fneF c_9
      refine lv_aload_n hx hb dX12_count_15 rfl (lv_at hl 0 rfl) ?_
      refine z_callVv (As := []) (rest := []) (wr := [(a_tape, .inl (cA.1 2, 900, .inl g_tape))]) ⟨hx, hb, hml, hown, hts⟩ hK hE hT hP hD hS hA (r_wrong l G cA h0 m_status m_thrown m_above m_under a_traySort a_trayMany a_numbers a_tape m_taped m_textEnd m_faultKind m_faultAt m_bad m_badAt m_token m_at m_behind m_number m_letters m_word a_c a_words m_markMany a_there a_tried a_best a_found m_thereMany m_foundMany m_orderHow m_orderRing m_orderMany m_hasBest m_bestTop m_bestBy a_weights a_shared m_random m_truePlace m_trueWay m_seconds m_done m_feelings m_tries m_leftOver m_playDoor m_playRing m_isOpen m_isOver m_wasTried m_hasPlayed a_feltNow a_last a_kept m_hasSeconds m_hasTurned m_hasRound a_hasFeels a_isOn m_firstAct m_meanTop m_meanBy a_order m_rowMany m_newSteps hr_m_at hr_m_bad hr_m_token) lk_RX12_187 ⟨rfl, rfl⟩ ⟨Nat.le_of_ble_eq_true rfl, Nat.le_of_ble_eq_true rfl⟩ 12 rfl rfl rfl [0] [1] rfl rfl (by decide) rfl hl.1 rfl (lv_room (Nat.le_of_ble_eq_true rfl)) dX12_count_16 ⟨Nat.le_of_ble_eq_true rfl, Nat.le_of_ble_eq_true rfl⟩ (fun u_48 H locs hw hP hD hS => ?_)
      obtain ⟨n_45, n_46⟩ := u_48
      try dsimp only at hw
      obtain ⟨he_n_45, he_n_46, hw⟩ := hw
      have hr_n_45 := hw
      refine lv_aload_n hx hb dX12_count_19 rfl (lv_at hl 0 rfl) ?_
      refine va_get (D := G) (ci := 12) (v := .int n_45) (C := RX12) (T := TX12) (N := 65) hx hb hts inT12 hown hK hP 1 rfl rfl 12 (by decide) (hts _ tw_1897) (fun _ h9 => h9) rfl dX12_count_20 ?_
      refine lv_if_ne (tgt := 50) hx hb dX12_count_23 (by decide) (fun c_50 => ?_) (fun h9 => (z_no (by have h8 := z_feqF h9; omega)))
      have b_51 := z_fneT c_50
      refine lv_aload_n hx hb dX12_count_50 rfl (lv_at hl 0 rfl) ?_
      refine va_get (D := G) (ci := 12) (v := .int n_45) (C := RX12) (T := TX12) (N := 65) hx hb hts inT12 hown hK hP 1 rfl rfl 12 (by decide) (hts _ tw_1897) (fun _ h9 => h9) rfl dX12_count_51 ?_
      refine lv_if_le (tgt := 59) hx hb dX12_count_54 (by decide) (fun h9 => (z_no (by have h8 := z_fleT h9; omega))) (fun c_52 => ?_)
      have b_53 := z_fgtF c_52
      refine lv_iconst (v := 0) hx hb dX12_count_57 (by decide) ?_
      have hpost : (0 ≤ (0 : Int32).toInt ∧ (0 : Int32).toInt ≤ 99) ∧ (0 ≤ n_45.toInt ∧ n_45.toInt ≤ 9) ∧ (0 ≤ m_token.toInt ∧ m_token.toInt ≤ 4) ∧ (0 ≤ m_at.toInt ∧ m_at.toInt ≤ 900) ∧ (0 ≤ m_behind.toInt ∧ m_behind.toInt ≤ 900) ∧ (0 ≤ m_number.toInt ∧ m_number.toInt ≤ 9999) ∧ (0 ≤ m_letters.toInt ∧ m_letters.toInt ≤ 900) ∧ (m_behind.toInt ≤ m_behind.toInt) ∧ (0 < m_bad.toInt → 0 < n_45.toInt) ∧ (n_45.toInt ≤ 0 → m_token.toInt = 0 ∨ m_behind.toInt < m_behind.toInt) ∧ (n_45.toInt ≤ 0 → a.toInt ≤ (0 : Int32).toInt ∧ (0 : Int32).toInt ≤ b.toInt) ∧ ((0 : Int32).toInt ≤ b.toInt) ∧ (a.toInt ≤ (0 : Int32).toInt ∨ (0 : Int32).toInt = 0) := ⟨(by decide +kernel), (z_rgw hr_n_45 (by decide) (by decide)), hr_m_token, hr_m_at, hr_m_behind, hr_m_number, hr_m_letters, (by omega), (by omega), (by omega), (by omega), (by omega), (by omega)⟩
      have hX_54 : F_r_count m_textEnd m_bad m_badAt m_token m_at m_behind m_number m_letters m_word g_tape a b = (((0 : Int32), n_45, n_46, m_token, m_at, m_behind, m_number, m_letters, m_word) : Int32 × Int32 × Int32 × Int32 × Int32 × Int32 × Int32 × Int32 × Int64) := by
        refine (F_r_count_s ..).trans ?_
        refine (if_pos c_1).trans ?_
        refine (if_neg c_9).trans ?_
        extract_lets -merge -useContext +onlyGivenNames w9 y2_0 y2_1; have e9 : (n_45, n_46) = w9 := ((z_tS he_n_45 he_n_46.symm)).symm; clear_value w9; subst e9
        exact rfl
      exact hret _ _ _ _ _ _ (n_45, n_46, m_token, m_at, m_behind, m_number, m_letters, m_word) [1, 0] hP hD hS rfl (by decide) dX12_count_58 ⟨(congrArg (fun z9 => z9.1) hX_54).symm, (congrArg (fun z9 => z9.2.1) hX_54).symm, (congrArg (fun z9 => z9.2.2.1) hX_54).symm, (congrArg (fun z9 => z9.2.2.2.1) hX_54).symm, (congrArg (fun z9 => z9.2.2.2.2.1) hX_54).symm, (congrArg (fun z9 => z9.2.2.2.2.2.1) hX_54).symm, (congrArg (fun z9 => z9.2.2.2.2.2.2.1) hX_54).symm, (congrArg (fun z9 => z9.2.2.2.2.2.2.2.1) hX_54).symm, (congrArg (fun z9 => z9.2.2.2.2.2.2.2.2) hX_54).symm, hpost⟩
set_option maxHeartbeats 40000000 in
set_option maxRecDepth 100000 in
theorem r_layByte (l : Launch) (G : va_G) (cA : zCA) (h0 : Nat) (m_status : Int32) (m_thrown : Int32) (m_above : Int64) (m_under : Int64) (a_traySort : Nat) (a_trayMany : Nat) (a_numbers : Nat) (a_tape : Nat) (m_taped : Int32) (m_textEnd : Int32) (m_faultKind : Int32) (m_faultAt : Int32) (m_bad : Int32) (m_badAt : Int32) (m_token : Int32) (m_at : Int32) (m_behind : Int32) (m_number : Int32) (m_letters : Int32) (m_word : Int64) (a_c : Nat) (a_words : Nat) (m_markMany : Int32) (a_there : Nat) (a_tried : Nat) (a_best : Nat) (a_found : Nat) (m_thereMany : Int32) (m_foundMany : Int32) (m_orderHow : Int32) (m_orderRing : Int32) (m_orderMany : Int32) (m_hasBest : Int32) (m_bestTop : Int64) (m_bestBy : Int64) (a_weights : Nat) (a_shared : Nat) (m_random : Int32) (m_truePlace : Int32) (m_trueWay : Int32) (m_seconds : Int32) (m_done : Int32) (m_feelings : Int32) (m_tries : Int32) (m_leftOver : Int32) (m_playDoor : Int32) (m_playRing : Int32) (m_isOpen : Int32) (m_isOver : Int32) (m_wasTried : Int32) (m_hasPlayed : Int32) (a_feltNow : Nat) (a_last : Nat) (a_kept : Nat) (m_hasSeconds : Int32) (m_hasTurned : Int32) (m_hasRound : Int32) (a_hasFeels : Nat) (a_isOn : Nat) (m_firstAct : Int32) (m_meanTop : Int64) (m_meanBy : Int64) (a_order : Nat) (m_rowMany : Int32) (m_newSteps : Int32) (g_tape : Nat → Int32) (x : Int32) (hr_m_taped : 0 ≤ m_taped.toInt ∧ m_taped.toInt ≤ 896) : zCv l yX12_layByte cX12_layByte 3 none ({ frames := 0, cells := 0, slots := 0, locals := 0 }) G cA [.ref h0, .int x] [(h0, .inr (12, [.int m_status, .int m_thrown, .long m_above, .long m_under, .ref a_traySort, .ref a_trayMany, .ref a_numbers, .ref a_tape, .int m_taped, .int m_textEnd, .int m_faultKind, .int m_faultAt, .int m_bad, .int m_badAt, .int m_token, .int m_at, .int m_behind, .int m_number, .int m_letters, .long m_word, .ref a_c, .ref a_words, .int m_markMany, .ref a_there, .ref a_tried, .ref a_best, .ref a_found, .int m_thereMany, .int m_foundMany, .int m_orderHow, .int m_orderRing, .int m_orderMany, .int m_hasBest, .long m_bestTop, .long m_bestBy, .ref a_weights, .ref a_shared, .int m_random, .int m_truePlace, .int m_trueWay, .int m_seconds, .int m_done, .int m_feelings, .int m_tries, .int m_leftOver, .int m_playDoor, .int m_playRing, .int m_isOpen, .int m_isOver, .int m_wasTried, .int m_hasPlayed, .ref a_feltNow, .ref a_last, .ref a_kept, .int m_hasSeconds, .int m_hasTurned, .int m_hasRound, .ref a_hasFeels, .ref a_isOn, .int m_firstAct, .long m_meanTop, .long m_meanBy, .ref a_order, .int m_rowMany, .int m_newSteps])), (a_tape, .inl (cA.1 2, 900, .inl g_tape))] (S := Int32 × (Nat → Int32)) (fun (u : Int32 × (Nat → Int32)) => (u.1 = (F_r_layByte m_taped g_tape x).1) ∧ (u.2 = (F_r_layByte m_taped g_tape x).2) ∧ ((0 ≤ u.1.toInt ∧ u.1.toInt ≤ 900) ∧ (u.1.toInt = m_taped.toInt + 4))) (fun (u : Int32 × (Nat → Int32)) => [(h0, .inr (12, [.int m_status, .int m_thrown, .long m_above, .long m_under, .ref a_traySort, .ref a_trayMany, .ref a_numbers, .ref a_tape, .int u.1, .int m_textEnd, .int m_faultKind, .int m_faultAt, .int m_bad, .int m_badAt, .int m_token, .int m_at, .int m_behind, .int m_number, .int m_letters, .long m_word, .ref a_c, .ref a_words, .int m_markMany, .ref a_there, .ref a_tried, .ref a_best, .ref a_found, .int m_thereMany, .int m_foundMany, .int m_orderHow, .int m_orderRing, .int m_orderMany, .int m_hasBest, .long m_bestTop, .long m_bestBy, .ref a_weights, .ref a_shared, .int m_random, .int m_truePlace, .int m_trueWay, .int m_seconds, .int m_done, .int m_feelings, .int m_tries, .int m_leftOver, .int m_playDoor, .int m_playRing, .int m_isOpen, .int m_isOver, .int m_wasTried, .int m_hasPlayed, .ref a_feltNow, .ref a_last, .ref a_kept, .int m_hasSeconds, .int m_hasTurned, .int m_hasRound, .ref a_hasFeels, .ref a_isOn, .int m_firstAct, .long m_meanTop, .long m_meanBy, .ref a_order, .int m_rowMany, .int m_newSteps])), (a_tape, .inl (cA.1 2, 900, .inl u.2))]) 0 0 := by
  have hk_m1 : ((-1) : Int32).toInt = (-1) := by decide +kernel
  have hk_0 : (0 : Int32).toInt = 0 := by decide +kernel
  have hk_1 : (1 : Int32).toInt = 1 := by decide +kernel
  have hk_3 : (3 : Int32).toInt = 3 := by decide +kernel
  have hk_8 : (8 : Int32).toInt = 8 := by decide +kernel
  refine z_start2v (own := RX12) (by decide) (Nat.le_of_ble_eq_true rfl) rfl ?_
  intro p e s m args below meth c A ls Q hx hb hml hts hown hK hE hT hP hD hS hA hl hret
  have hl : lv_has ls 3 [(0, .ref h0), (1, .int x)] := hl
  refine lv_iconst (v := 3) hx hb dX12_layByte_0 (by decide) ?_
  refine lv_istore_n (lv' := [(2, .int 3), (0, .ref h0), (1, .int x)]) hx hb dX12_layByte_1 rfl hl (by decide) rfl (fun ls hl => ?_)
  have hlp_79 : ∀ (n_L2a : Nat) (v_55 : Int32) (v_56 : Int32) (g_57 : Nat → Int32) (H : Heap) (locs : List Loc) (ls : Array Slot), (v_55.toInt + 2147483648).toNat < n_L2a → ((-1) ≤ v_55.toInt ∧ v_55.toInt ≤ 3) → (0 ≤ v_56.toInt ∧ v_56.toInt ≤ 900) → (v_56.toInt + v_55.toInt = m_taped.toInt + 3) → (F_r_layByte m_taped g_tape x = F_r_layByte_L2a x n_L2a v_55 v_56 g_57) → va_P G vwCl [(h0, .inr (12, [.int m_status, .int m_thrown, .long m_above, .long m_under, .ref a_traySort, .ref a_trayMany, .ref a_numbers, .ref a_tape, .int v_56, .int m_textEnd, .int m_faultKind, .int m_faultAt, .int m_bad, .int m_badAt, .int m_token, .int m_at, .int m_behind, .int m_number, .int m_letters, .long m_word, .ref a_c, .ref a_words, .int m_markMany, .ref a_there, .ref a_tried, .ref a_best, .ref a_found, .int m_thereMany, .int m_foundMany, .int m_orderHow, .int m_orderRing, .int m_orderMany, .int m_hasBest, .long m_bestTop, .long m_bestBy, .ref a_weights, .ref a_shared, .int m_random, .int m_truePlace, .int m_trueWay, .int m_seconds, .int m_done, .int m_feelings, .int m_tries, .int m_leftOver, .int m_playDoor, .int m_playRing, .int m_isOpen, .int m_isOver, .int m_wasTried, .int m_hasPlayed, .ref a_feltNow, .ref a_last, .ref a_kept, .int m_hasSeconds, .int m_hasTurned, .int m_hasRound, .ref a_hasFeels, .ref a_isOn, .int m_firstAct, .long m_meanTop, .long m_meanBy, .ref a_order, .int m_rowMany, .int m_newSteps])), (a_tape, .inl (cA.1 2, 900, .inl g_57))] H → va_D A [(h0, .inr (12, [.int m_status, .int m_thrown, .long m_above, .long m_under, .ref a_traySort, .ref a_trayMany, .ref a_numbers, .ref a_tape, .int v_56, .int m_textEnd, .int m_faultKind, .int m_faultAt, .int m_bad, .int m_badAt, .int m_token, .int m_at, .int m_behind, .int m_number, .int m_letters, .long m_word, .ref a_c, .ref a_words, .int m_markMany, .ref a_there, .ref a_tried, .ref a_best, .ref a_found, .int m_thereMany, .int m_foundMany, .int m_orderHow, .int m_orderRing, .int m_orderMany, .int m_hasBest, .long m_bestTop, .long m_bestBy, .ref a_weights, .ref a_shared, .int m_random, .int m_truePlace, .int m_trueWay, .int m_seconds, .int m_done, .int m_feelings, .int m_tries, .int m_leftOver, .int m_playDoor, .int m_playRing, .int m_isOpen, .int m_isOver, .int m_wasTried, .int m_hasPlayed, .ref a_feltNow, .ref a_last, .ref a_kept, .int m_hasSeconds, .int m_hasTurned, .int m_hasRound, .ref a_hasFeels, .ref a_isOn, .int m_firstAct, .long m_meanTop, .long m_meanBy, .ref a_order, .int m_rowMany, .int m_newSteps])), (a_tape, .inl (cA.1 2, 900, .inl g_57))] → va_S A s.heap H locs → lv_has ls 3 [(0, .ref h0), (1, .int x), (2, .int v_55)] → W p l e ({ frames := 0, cells := 0, slots := 0, locals := 0 }) s m args below meth c H locs 0 0 Q (F0 m 2 ls []) := by
    intro n_L2a
    induction n_L2a with
    | zero =>
      intro v_55 v_56 g_57 H locs ls hmu_hlp_79 hr_v_55 hr_v_56 hi_68 hF_L2a hP hD hS hl
      exact absurd hmu_hlp_79 (Nat.not_lt_zero _)
    | succ n_L2a ih_80 =>
      intro v_55 v_56 g_57 H locs ls hmu_hlp_79 hr_v_55 hr_v_56 hi_68 hF_L2a hP hD hS hl
      refine lv_iload_n hx hb dX12_layByte_2 rfl (lv_at hl 2 rfl) ?_
      refine lv_if_lt (tgt := 38) hx hb dX12_layByte_3 (by decide) (fun c_81 => ?_) (fun c_81 => ?_)
      · have b_82 := z_fltT c_81
        have hpost : (0 ≤ v_56.toInt ∧ v_56.toInt ≤ 900) ∧ (v_56.toInt = m_taped.toInt + 4) := ⟨hr_v_56, (by omega)⟩
        have hX_83 : F_r_layByte m_taped g_tape x = ((v_56, g_57) : Int32 × (Nat → Int32)) := by
          refine hF_L2a.trans ?_
          refine (F_r_layByte_L2a_s ..).trans ?_
          refine (if_pos c_81).trans ?_
          exact rfl
        exact hret _ _ _ _ _ (v_56, g_57) [0, 1] hP hD hS rfl (by decide) dX12_layByte_38 ⟨(congrArg (fun z9 => z9.1) hX_83).symm, (congrArg (fun z9 => z9.2) hX_83).symm, hpost⟩
      · have b_84 := z_fgeF c_81
        refine lv_aload_n hx hb dX12_layByte_6 rfl (lv_at hl 0 rfl) ?_
        refine va_get (D := G) (ci := 12) (v := .ref a_tape) (C := RX12) (T := TX12) (N := 65) hx hb hts inT12 hown hK hP 0 rfl rfl 7 (by decide) (hts _ tw_1892) (fun _ h9 => h9) rfl dX12_layByte_7 ?_
        refine lv_aload_n hx hb dX12_layByte_10 rfl (lv_at hl 0 rfl) ?_
        refine va_get (D := G) (ci := 12) (v := .int v_56) (C := RX12) (T := TX12) (N := 65) hx hb hts inT12 hown hK hP 0 rfl rfl 8 (by decide) (hts _ tw_1893) (fun _ h9 => h9) rfl dX12_layByte_11 ?_
        refine lv_iload_n hx hb dX12_layByte_14 rfl (lv_at hl 1 rfl) ?_
        refine lv_bipush (v := 8) hx hb dX12_layByte_15 (by decide) ?_
        refine lv_iload_n hx hb dX12_layByte_17 rfl (lv_at hl 2 rfl) ?_
        refine lv_imul hx hb dX12_layByte_18 ?_
        refine lv_topi (fun x_85 he_x_85 => ?_)
        have hq_x_85 := z_mulq he_x_85 hk_8 (rfl : v_55.toInt = _) (by omega) (by omega)
        refine lv_ishr hx hb dX12_layByte_19 ?_
        have hL_x := z_full x
        refine lv_topi (fun x_86 he_x_86 => ?_)
        refine lv_i2b (v := (x_86).toInt8.toInt32) hx hb dX12_layByte_20 rfl ?_
        refine lv_topi (fun x_87 he_x_87 => ?_)
        refine z_bast hx hb hK hP hD hS 1 2 rfl rfl (z_inN (by omega) (by omega)) dX12_layByte_21 (fun g_88 hg_g_88 H locs hP hD hS => ?_)
        have hn_k_89 : 0 ≤ v_56.toInt ∧ v_56.toInt ≤ 899 := by omega
        refine lv_aload_n hx hb dX12_layByte_22 rfl (lv_at hl 0 rfl) ?_
        refine lv_dup hx hb dX12_layByte_23 rfl ?_
        refine va_get (D := G) (ci := 12) (v := .int v_56) (C := RX12) (T := TX12) (N := 65) hx hb hts inT12 hown hK hP 0 rfl rfl 8 (by decide) (hts _ tw_1893) (fun _ h9 => h9) rfl dX12_layByte_24 ?_
        refine lv_iconst (v := 1) hx hb dX12_layByte_27 (by decide) ?_
        refine lv_iadd hx hb dX12_layByte_28 ?_
        refine lv_topi (fun x_90 he_x_90 => ?_)
        have hq_x_90 := z_addq he_x_90 (rfl : v_56.toInt = _) hk_1 (by omega) (by omega)
        refine va_put (D := G) (ci := 12) (v := .int x_90) (ty := .int) (C := RX12) (T := TX12) (N := 65) hx hb hts inT12 tyX12 tyX12_ok nmX12 hown hK hP hD hS 0 rfl rfl 8 (by decide) (hts _ tw_1893) (fun _ h9 => h9) rfl (tyX12_ok 8 (by decide)) rfl rfl (Nat.le_of_ble_eq_true rfl) dX12_layByte_29 (fun H locs hP hD hS => ?_)
        obtain ⟨x_91, he_x_91⟩ : ∃ z : Int32, z = v_55 + (-1) := ⟨_, rfl⟩
        have hq_x_91 := z_addq he_x_91 (rfl : v_55.toInt = _) hk_m1 (by omega) (by omega)
        refine lv_iinc (v := x_91) (lv' := [(2, .int x_91), (0, .ref h0), (1, .int x)]) hx hb dX12_layByte_32 hl (k := 2) rfl ((z_ofi (by decide +kernel)).trans he_x_91.symm) (by decide) rfl (fun ls hl => ?_)
        refine lv_goto (tgt := 2) hx hb dX12_layByte_35 (by decide) ?_
        have hX_92 : F_r_layByte m_taped g_tape x = F_r_layByte_L2a x n_L2a x_91 x_90 g_88 := by
          refine hF_L2a.trans ?_
          refine (F_r_layByte_L2a_s ..).trans ?_
          refine (if_neg c_81).trans ?_
          try (extract_lets -merge -useContext +onlyGivenNames y9; have e9 : x_85 = y9 := (by first | exact he_x_85 | exact he_x_85.symm); clear_value y9; subst e9)
          try (extract_lets -merge -useContext +onlyGivenNames y9; have e9 : x_86 = y9 := (by first | exact he_x_86 | exact he_x_86.symm); clear_value y9; subst e9)
          try (extract_lets -merge -useContext +onlyGivenNames y9; have e9 : x_87 = y9 := (by first | exact he_x_87 | exact he_x_87.symm); clear_value y9; subst e9)
          try (extract_lets -merge -useContext +onlyGivenNames y9; have e9 : g_88 = y9 := (by first | exact hg_g_88 | exact hg_g_88.symm); clear_value y9; subst e9)
          try (extract_lets -merge -useContext +onlyGivenNames y9; have e9 : x_90 = y9 := (by first | exact he_x_90 | exact he_x_90.symm); clear_value y9; subst e9)
          try (extract_lets -merge -useContext +onlyGivenNames y9; have e9 : x_91 = y9 := (by first | exact he_x_91 | exact he_x_91.symm); clear_value y9; subst e9)
          exact rfl
        exact ih_80 x_91 x_90 g_88 H locs ls (by omega) (by omega) (by omega) (by omega) hX_92 hP hD hS (lv_sub hl [1, 2, 0] rfl)
  have hX_93 : F_r_layByte m_taped g_tape x = F_r_layByte_L2a x (((3 : Int32).toInt + 2147483648).toNat + 1) (3 : Int32) m_taped g_tape := by
    refine (F_r_layByte_s ..).trans ?_
    exact rfl
  exact hlp_79 (((3 : Int32).toInt + 2147483648).toNat + 1) 3 m_taped g_tape _ _ _ (Nat.lt_succ_self _) (by decide +kernel) (z_rgw hr_m_taped (by decide) (by decide)) (by omega) hX_93 hP hD hS (lv_sub hl [1, 2, 0] rfl)
set_option maxHeartbeats 40000000 in
set_option maxRecDepth 100000 in
theorem r_feed (l : Launch) (G : va_G) (cA : zCA) (h0 : Nat) (m_status : Int32) (m_thrown : Int32) (m_above : Int64) (m_under : Int64) (a_traySort : Nat) (a_trayMany : Nat) (a_numbers : Nat) (a_tape : Nat) (m_taped : Int32) (m_textEnd : Int32) (m_faultKind : Int32) (m_faultAt : Int32) (m_bad : Int32) (m_badAt : Int32) (m_token : Int32) (m_at : Int32) (m_behind : Int32) (m_number : Int32) (m_letters : Int32) (m_word : Int64) (a_c : Nat) (a_words : Nat) (m_markMany : Int32) (a_there : Nat) (a_tried : Nat) (a_best : Nat) (a_found : Nat) (m_thereMany : Int32) (m_foundMany : Int32) (m_orderHow : Int32) (m_orderRing : Int32) (m_orderMany : Int32) (m_hasBest : Int32) (m_bestTop : Int64) (m_bestBy : Int64) (a_weights : Nat) (a_shared : Nat) (m_random : Int32) (m_truePlace : Int32) (m_trueWay : Int32) (m_seconds : Int32) (m_done : Int32) (m_feelings : Int32) (m_tries : Int32) (m_leftOver : Int32) (m_playDoor : Int32) (m_playRing : Int32) (m_isOpen : Int32) (m_isOver : Int32) (m_wasTried : Int32) (m_hasPlayed : Int32) (a_feltNow : Nat) (a_last : Nat) (a_kept : Nat) (m_hasSeconds : Int32) (m_hasTurned : Int32) (m_hasRound : Int32) (a_hasFeels : Nat) (a_isOn : Nat) (m_firstAct : Int32) (m_meanTop : Int64) (m_meanBy : Int64) (a_order : Nat) (m_rowMany : Int32) (m_newSteps : Int32) (g_tape : Nat → Int32) (x0 : Int32) (x1 : Int32) (x2 : Int32) (x3 : Int32) (x4 : Int32) (hr_m_taped : 0 ≤ m_taped.toInt ∧ m_taped.toInt ≤ 900) : zCi l yX12_feed cX12_feed 6 (some .int) ({ frames := 1, cells := 0, slots := 0, locals := 22 }) G cA [.ref h0, .int x0, .int x1, .int x2, .int x3, .int x4] [(h0, .inr (12, [.int m_status, .int m_thrown, .long m_above, .long m_under, .ref a_traySort, .ref a_trayMany, .ref a_numbers, .ref a_tape, .int m_taped, .int m_textEnd, .int m_faultKind, .int m_faultAt, .int m_bad, .int m_badAt, .int m_token, .int m_at, .int m_behind, .int m_number, .int m_letters, .long m_word, .ref a_c, .ref a_words, .int m_markMany, .ref a_there, .ref a_tried, .ref a_best, .ref a_found, .int m_thereMany, .int m_foundMany, .int m_orderHow, .int m_orderRing, .int m_orderMany, .int m_hasBest, .long m_bestTop, .long m_bestBy, .ref a_weights, .ref a_shared, .int m_random, .int m_truePlace, .int m_trueWay, .int m_seconds, .int m_done, .int m_feelings, .int m_tries, .int m_leftOver, .int m_playDoor, .int m_playRing, .int m_isOpen, .int m_isOver, .int m_wasTried, .int m_hasPlayed, .ref a_feltNow, .ref a_last, .ref a_kept, .int m_hasSeconds, .int m_hasTurned, .int m_hasRound, .ref a_hasFeels, .ref a_isOn, .int m_firstAct, .long m_meanTop, .long m_meanBy, .ref a_order, .int m_rowMany, .int m_newSteps])), (a_tape, .inl (cA.1 2, 900, .inl g_tape))] (S := Int32 × Int32 × (Nat → Int32)) (fun (r : Int32) (u : Int32 × Int32 × (Nat → Int32)) => (r = (F_r_feed m_taped g_tape x0 x1 x2 x3 x4).1) ∧ (u.1 = (F_r_feed m_taped g_tape x0 x1 x2 x3 x4).2.1) ∧ (u.2.1 = (F_r_feed m_taped g_tape x0 x1 x2 x3 x4).2.2.1) ∧ (u.2.2 = (F_r_feed m_taped g_tape x0 x1 x2 x3 x4).2.2.2) ∧ (((-1) ≤ r.toInt ∧ r.toInt ≤ 900) ∧ (0 ≤ u.1.toInt ∧ u.1.toInt ≤ 0) ∧ (20 ≤ u.2.1.toInt ∧ u.2.1.toInt ≤ 900))) (fun (u : Int32 × Int32 × (Nat → Int32)) => [(h0, .inr (12, [.int m_status, .int u.1, .long m_above, .long m_under, .ref a_traySort, .ref a_trayMany, .ref a_numbers, .ref a_tape, .int u.2.1, .int m_textEnd, .int m_faultKind, .int m_faultAt, .int m_bad, .int m_badAt, .int m_token, .int m_at, .int m_behind, .int m_number, .int m_letters, .long m_word, .ref a_c, .ref a_words, .int m_markMany, .ref a_there, .ref a_tried, .ref a_best, .ref a_found, .int m_thereMany, .int m_foundMany, .int m_orderHow, .int m_orderRing, .int m_orderMany, .int m_hasBest, .long m_bestTop, .long m_bestBy, .ref a_weights, .ref a_shared, .int m_random, .int m_truePlace, .int m_trueWay, .int m_seconds, .int m_done, .int m_feelings, .int m_tries, .int m_leftOver, .int m_playDoor, .int m_playRing, .int m_isOpen, .int m_isOver, .int m_wasTried, .int m_hasPlayed, .ref a_feltNow, .ref a_last, .ref a_kept, .int m_hasSeconds, .int m_hasTurned, .int m_hasRound, .ref a_hasFeels, .ref a_isOn, .int m_firstAct, .long m_meanTop, .long m_meanBy, .ref a_order, .int m_rowMany, .int m_newSteps])), (a_tape, .inl (cA.1 2, 900, .inl u.2.2))]) 0 0 := by
  have hk_20 : (20 : Int32).toInt = 20 := by decide +kernel
  have hk_900 : (900 : Int32).toInt = 900 := by decide +kernel
  refine z_start2i (own := RX12) (by decide) (Nat.le_of_ble_eq_true rfl) rfl ?_
  intro p e s m args below meth c A ls Q hx hb hml hts hown hK hE hT hP hD hS hA hl hret
  have hl : lv_has ls 6 [(0, .ref h0), (1, .int x0), (2, .int x1), (3, .int x2), (4, .int x3), (5, .int x4)] := hl
  refine lv_aload_n hx hb dX12_feed_0 rfl (lv_at hl 0 rfl) ?_
  refine lv_iconst (v := 0) hx hb dX12_feed_1 (by decide) ?_
  refine va_put (D := G) (ci := 12) (v := .int 0) (ty := .int) (C := RX12) (T := TX12) (N := 65) hx hb hts inT12 tyX12 tyX12_ok nmX12 hown hK hP hD hS 0 rfl rfl 1 (by decide) (hts _ tw_1886) (fun _ h9 => h9) rfl (tyX12_ok 1 (by decide)) rfl rfl (Nat.le_of_ble_eq_true rfl) dX12_feed_2 (fun H locs hP hD hS => ?_)
  refine lv_aload_n hx hb dX12_feed_5 rfl (lv_at hl 0 rfl) ?_
  refine va_get (D := G) (ci := 12) (v := .int m_taped) (C := RX12) (T := TX12) (N := 65) hx hb hts inT12 hown hK hP 0 rfl rfl 8 (by decide) (hts _ tw_1893) (fun _ h9 => h9) rfl dX12_feed_6 ?_
  refine lv_bipush (v := 20) hx hb dX12_feed_9 (by decide) ?_
  refine lv_iadd hx hb dX12_feed_11 ?_
  refine lv_topi (fun x_1 he_x_1 => ?_)
  have hq_x_1 := z_addq he_x_1 (rfl : m_taped.toInt = _) hk_20 (by omega) (by omega)
  refine lv_sipush (v := 900) hx hb dX12_feed_12 (by decide) ?_
  refine lv_icmp_le (tgt := 20) hx hb dX12_feed_15 (by decide) (fun c_2 => ?_) (fun c_2 => ?_)
  · have b_3 := z_fleT c_2
    refine lv_aload_n hx hb dX12_feed_20 rfl (lv_at hl 0 rfl) ?_
    refine lv_iload_n hx hb dX12_feed_21 rfl (lv_at hl 1 rfl) ?_
    refine z_callVv (As := [.int x0]) (rest := []) (wr := []) ⟨hx, hb, hml, hown, hts⟩ hK hE hT hP hD hS hA (r_layByte l G cA h0 m_status 0 m_above m_under a_traySort a_trayMany a_numbers a_tape m_taped m_textEnd m_faultKind m_faultAt m_bad m_badAt m_token m_at m_behind m_number m_letters m_word a_c a_words m_markMany a_there a_tried a_best a_found m_thereMany m_foundMany m_orderHow m_orderRing m_orderMany m_hasBest m_bestTop m_bestBy a_weights a_shared m_random m_truePlace m_trueWay m_seconds m_done m_feelings m_tries m_leftOver m_playDoor m_playRing m_isOpen m_isOver m_wasTried m_hasPlayed a_feltNow a_last a_kept m_hasSeconds m_hasTurned m_hasRound a_hasFeels a_isOn m_firstAct m_meanTop m_meanBy a_order m_rowMany m_newSteps g_tape x0 (by omega)) lk_RX12_193 ⟨rfl, rfl⟩ ⟨Nat.le_of_ble_eq_true rfl, Nat.le_of_ble_eq_true rfl⟩ 12 rfl rfl rfl [0, 1] [] rfl rfl (by decide) rfl hl.1 rfl (lv_room (Nat.le_of_ble_eq_true rfl)) dX12_feed_22 ⟨Nat.le_of_ble_eq_true rfl, Nat.le_of_ble_eq_true rfl⟩ (fun u_7 H locs hw hP hD hS => ?_)
    obtain ⟨n_4, n_5⟩ := u_7
    try dsimp only at hw
    obtain ⟨he_n_4, he_n_5, hw⟩ := hw
    obtain ⟨hr_n_4, hf_9⟩ := hw
    refine lv_aload_n hx hb dX12_feed_25 rfl (lv_at hl 0 rfl) ?_
    refine lv_iload_n hx hb dX12_feed_26 rfl (lv_at hl 2 rfl) ?_
    refine z_callVv (As := [.int x1]) (rest := []) (wr := []) ⟨hx, hb, hml, hown, hts⟩ hK hE hT hP hD hS hA (r_layByte l G cA h0 m_status 0 m_above m_under a_traySort a_trayMany a_numbers a_tape n_4 m_textEnd m_faultKind m_faultAt m_bad m_badAt m_token m_at m_behind m_number m_letters m_word a_c a_words m_markMany a_there a_tried a_best a_found m_thereMany m_foundMany m_orderHow m_orderRing m_orderMany m_hasBest m_bestTop m_bestBy a_weights a_shared m_random m_truePlace m_trueWay m_seconds m_done m_feelings m_tries m_leftOver m_playDoor m_playRing m_isOpen m_isOver m_wasTried m_hasPlayed a_feltNow a_last a_kept m_hasSeconds m_hasTurned m_hasRound a_hasFeels a_isOn m_firstAct m_meanTop m_meanBy a_order m_rowMany m_newSteps n_5 x1 (by omega)) lk_RX12_193 ⟨rfl, rfl⟩ ⟨Nat.le_of_ble_eq_true rfl, Nat.le_of_ble_eq_true rfl⟩ 12 rfl rfl rfl [0, 1] [] rfl rfl (by decide) rfl hl.1 rfl (lv_room (Nat.le_of_ble_eq_true rfl)) dX12_feed_27 ⟨Nat.le_of_ble_eq_true rfl, Nat.le_of_ble_eq_true rfl⟩ (fun u_13 H locs hw hP hD hS => ?_)
    obtain ⟨n_10, n_11⟩ := u_13
    try dsimp only at hw
    obtain ⟨he_n_10, he_n_11, hw⟩ := hw
    obtain ⟨hr_n_10, hf_15⟩ := hw
    refine lv_aload_n hx hb dX12_feed_30 rfl (lv_at hl 0 rfl) ?_
    refine lv_iload_n hx hb dX12_feed_31 rfl (lv_at hl 3 rfl) ?_
    refine z_callVv (As := [.int x2]) (rest := []) (wr := []) ⟨hx, hb, hml, hown, hts⟩ hK hE hT hP hD hS hA (r_layByte l G cA h0 m_status 0 m_above m_under a_traySort a_trayMany a_numbers a_tape n_10 m_textEnd m_faultKind m_faultAt m_bad m_badAt m_token m_at m_behind m_number m_letters m_word a_c a_words m_markMany a_there a_tried a_best a_found m_thereMany m_foundMany m_orderHow m_orderRing m_orderMany m_hasBest m_bestTop m_bestBy a_weights a_shared m_random m_truePlace m_trueWay m_seconds m_done m_feelings m_tries m_leftOver m_playDoor m_playRing m_isOpen m_isOver m_wasTried m_hasPlayed a_feltNow a_last a_kept m_hasSeconds m_hasTurned m_hasRound a_hasFeels a_isOn m_firstAct m_meanTop m_meanBy a_order m_rowMany m_newSteps n_11 x2 (by omega)) lk_RX12_193 ⟨rfl, rfl⟩ ⟨Nat.le_of_ble_eq_true rfl, Nat.le_of_ble_eq_true rfl⟩ 12 rfl rfl rfl [0, 1] [] rfl rfl (by decide) rfl hl.1 rfl (lv_room (Nat.le_of_ble_eq_true rfl)) dX12_feed_32 ⟨Nat.le_of_ble_eq_true rfl, Nat.le_of_ble_eq_true rfl⟩ (fun u_19 H locs hw hP hD hS => ?_)
    obtain ⟨n_16, n_17⟩ := u_19
    try dsimp only at hw
    obtain ⟨he_n_16, he_n_17, hw⟩ := hw
    obtain ⟨hr_n_16, hf_21⟩ := hw
    refine lv_aload_n hx hb dX12_feed_35 rfl (lv_at hl 0 rfl) ?_
    refine lv_iload hx hb dX12_feed_36 (lv_at hl 4 rfl) ?_
    refine z_callVv (As := [.int x3]) (rest := []) (wr := []) ⟨hx, hb, hml, hown, hts⟩ hK hE hT hP hD hS hA (r_layByte l G cA h0 m_status 0 m_above m_under a_traySort a_trayMany a_numbers a_tape n_16 m_textEnd m_faultKind m_faultAt m_bad m_badAt m_token m_at m_behind m_number m_letters m_word a_c a_words m_markMany a_there a_tried a_best a_found m_thereMany m_foundMany m_orderHow m_orderRing m_orderMany m_hasBest m_bestTop m_bestBy a_weights a_shared m_random m_truePlace m_trueWay m_seconds m_done m_feelings m_tries m_leftOver m_playDoor m_playRing m_isOpen m_isOver m_wasTried m_hasPlayed a_feltNow a_last a_kept m_hasSeconds m_hasTurned m_hasRound a_hasFeels a_isOn m_firstAct m_meanTop m_meanBy a_order m_rowMany m_newSteps n_17 x3 (by omega)) lk_RX12_193 ⟨rfl, rfl⟩ ⟨Nat.le_of_ble_eq_true rfl, Nat.le_of_ble_eq_true rfl⟩ 12 rfl rfl rfl [0, 1] [] rfl rfl (by decide) rfl hl.1 rfl (lv_room (Nat.le_of_ble_eq_true rfl)) dX12_feed_38 ⟨Nat.le_of_ble_eq_true rfl, Nat.le_of_ble_eq_true rfl⟩ (fun u_25 H locs hw hP hD hS => ?_)
    obtain ⟨n_22, n_23⟩ := u_25
    try dsimp only at hw
    obtain ⟨he_n_22, he_n_23, hw⟩ := hw
    obtain ⟨hr_n_22, hf_27⟩ := hw
    refine lv_aload_n hx hb dX12_feed_41 rfl (lv_at hl 0 rfl) ?_
    refine lv_iload hx hb dX12_feed_42 (lv_at hl 5 rfl) ?_
    refine z_callVv (As := [.int x4]) (rest := []) (wr := []) ⟨hx, hb, hml, hown, hts⟩ hK hE hT hP hD hS hA (r_layByte l G cA h0 m_status 0 m_above m_under a_traySort a_trayMany a_numbers a_tape n_22 m_textEnd m_faultKind m_faultAt m_bad m_badAt m_token m_at m_behind m_number m_letters m_word a_c a_words m_markMany a_there a_tried a_best a_found m_thereMany m_foundMany m_orderHow m_orderRing m_orderMany m_hasBest m_bestTop m_bestBy a_weights a_shared m_random m_truePlace m_trueWay m_seconds m_done m_feelings m_tries m_leftOver m_playDoor m_playRing m_isOpen m_isOver m_wasTried m_hasPlayed a_feltNow a_last a_kept m_hasSeconds m_hasTurned m_hasRound a_hasFeels a_isOn m_firstAct m_meanTop m_meanBy a_order m_rowMany m_newSteps n_23 x4 (by omega)) lk_RX12_193 ⟨rfl, rfl⟩ ⟨Nat.le_of_ble_eq_true rfl, Nat.le_of_ble_eq_true rfl⟩ 12 rfl rfl rfl [0, 1] [] rfl rfl (by decide) rfl hl.1 rfl (lv_room (Nat.le_of_ble_eq_true rfl)) dX12_feed_44 ⟨Nat.le_of_ble_eq_true rfl, Nat.le_of_ble_eq_true rfl⟩ (fun u_31 H locs hw hP hD hS => ?_)
    obtain ⟨n_28, n_29⟩ := u_31
    try dsimp only at hw
    obtain ⟨he_n_28, he_n_29, hw⟩ := hw
    obtain ⟨hr_n_28, hf_33⟩ := hw
    refine lv_aload_n hx hb dX12_feed_47 rfl (lv_at hl 0 rfl) ?_
    refine va_get (D := G) (ci := 12) (v := .int n_28) (C := RX12) (T := TX12) (N := 65) hx hb hts inT12 hown hK hP 0 rfl rfl 8 (by decide) (hts _ tw_1893) (fun _ h9 => h9) rfl dX12_feed_48 ?_
    have hpost : ((-1) ≤ n_28.toInt ∧ n_28.toInt ≤ 900) ∧ (0 ≤ (0 : Int32).toInt ∧ (0 : Int32).toInt ≤ 0) ∧ (20 ≤ n_28.toInt ∧ n_28.toInt ≤ 900) := ⟨(z_rgw hr_n_28 (by decide) (by decide)), (by decide +kernel), (by omega)⟩
    have hX_34 : F_r_feed m_taped g_tape x0 x1 x2 x3 x4 = ((n_28, (0 : Int32), n_28, n_29) : Int32 × Int32 × Int32 × (Nat → Int32)) := by
      refine (F_r_feed_s ..).trans ?_
      try (extract_lets -merge -useContext +onlyGivenNames y9; have e9 : x_1 = y9 := (by first | exact he_x_1 | exact he_x_1.symm); clear_value y9; subst e9)
      refine (if_pos c_2).trans ?_
      extract_lets -merge -useContext +onlyGivenNames w9 y2_0 y2_1; have e9 : (n_4, n_5) = w9 := ((z_tS he_n_4 he_n_5.symm)).symm; clear_value w9; subst e9
      extract_lets -merge -useContext +onlyGivenNames w9 y3_0 y3_1; have e9 : (n_10, n_11) = w9 := ((z_tS he_n_10 he_n_11.symm)).symm; clear_value w9; subst e9
      extract_lets -merge -useContext +onlyGivenNames w9 y4_0 y4_1; have e9 : (n_16, n_17) = w9 := ((z_tS he_n_16 he_n_17.symm)).symm; clear_value w9; subst e9
      extract_lets -merge -useContext +onlyGivenNames w9 y5_0 y5_1; have e9 : (n_22, n_23) = w9 := ((z_tS he_n_22 he_n_23.symm)).symm; clear_value w9; subst e9
      extract_lets -merge -useContext +onlyGivenNames w9 y6_0 y6_1; have e9 : (n_28, n_29) = w9 := ((z_tS he_n_28 he_n_29.symm)).symm; clear_value w9; subst e9
      exact rfl
    exact hret _ _ _ _ _ _ (0, n_28, n_29) [0, 1] hP hD hS rfl (by decide) dX12_feed_51 ⟨(congrArg (fun z9 => z9.1) hX_34).symm, (congrArg (fun z9 => z9.2.1) hX_34).symm, (congrArg (fun z9 => z9.2.2.1) hX_34).symm, (congrArg (fun z9 => z9.2.2.2) hX_34).symm, hpost⟩
  · have b_35 := z_fgtF c_2
    refine lv_iconst (v := (-1)) hx hb dX12_feed_18 (by decide) ?_
    have hpost : ((-1) ≤ ((-1) : Int32).toInt ∧ ((-1) : Int32).toInt ≤ 900) ∧ (0 ≤ (0 : Int32).toInt ∧ (0 : Int32).toInt ≤ 0) ∧ (20 ≤ m_taped.toInt ∧ m_taped.toInt ≤ 900) := ⟨(by decide +kernel), (by decide +kernel), (by omega)⟩
    have hX_36 : F_r_feed m_taped g_tape x0 x1 x2 x3 x4 = (((-1 : Int32), (0 : Int32), m_taped, g_tape) : Int32 × Int32 × Int32 × (Nat → Int32)) := by
      refine (F_r_feed_s ..).trans ?_
      try (extract_lets -merge -useContext +onlyGivenNames y9; have e9 : x_1 = y9 := (by first | exact he_x_1 | exact he_x_1.symm); clear_value y9; subst e9)
      refine (if_neg c_2).trans ?_
      exact rfl
    exact hret _ _ _ _ _ _ (0, m_taped, g_tape) [0, 1] hP hD hS rfl (by decide) dX12_feed_19 ⟨(congrArg (fun z9 => z9.1) hX_36).symm, (congrArg (fun z9 => z9.2.1) hX_36).symm, (congrArg (fun z9 => z9.2.2.1) hX_36).symm, (congrArg (fun z9 => z9.2.2.2) hX_36).symm, hpost⟩
set_option maxHeartbeats 40000000 in
set_option maxRecDepth 100000 in
theorem r_begins (l : Launch) (G : va_G) (cA : zCA) (h0 : Nat) (m_status : Int32) (m_thrown : Int32) (m_above : Int64) (m_under : Int64) (a_traySort : Nat) (a_trayMany : Nat) (a_numbers : Nat) (a_tape : Nat) (m_taped : Int32) (m_textEnd : Int32) (m_faultKind : Int32) (m_faultAt : Int32) (m_bad : Int32) (m_badAt : Int32) (m_token : Int32) (m_at : Int32) (m_behind : Int32) (m_number : Int32) (m_letters : Int32) (m_word : Int64) (a_c : Nat) (a_words : Nat) (m_markMany : Int32) (a_there : Nat) (a_tried : Nat) (a_best : Nat) (a_found : Nat) (m_thereMany : Int32) (m_foundMany : Int32) (m_orderHow : Int32) (m_orderRing : Int32) (m_orderMany : Int32) (m_hasBest : Int32) (m_bestTop : Int64) (m_bestBy : Int64) (a_weights : Nat) (a_shared : Nat) (m_random : Int32) (m_truePlace : Int32) (m_trueWay : Int32) (m_seconds : Int32) (m_done : Int32) (m_feelings : Int32) (m_tries : Int32) (m_leftOver : Int32) (m_playDoor : Int32) (m_playRing : Int32) (m_isOpen : Int32) (m_isOver : Int32) (m_wasTried : Int32) (m_hasPlayed : Int32) (a_feltNow : Nat) (a_last : Nat) (a_kept : Nat) (m_hasSeconds : Int32) (m_hasTurned : Int32) (m_hasRound : Int32) (a_hasFeels : Nat) (a_isOn : Nat) (m_firstAct : Int32) (m_meanTop : Int64) (m_meanBy : Int64) (a_order : Nat) (m_rowMany : Int32) (m_newSteps : Int32) (g_tape : Nat → Int32) (nn : Int32) (k : Int32) (hr_k : 0 ≤ k.toInt ∧ k.toInt ≤ 900) (hr_m_taped : 0 ≤ m_taped.toInt ∧ m_taped.toInt ≤ 900) (hr_m_textEnd : 0 ≤ m_textEnd.toInt ∧ m_textEnd.toInt ≤ 900) (hr_m_at : 0 ≤ m_at.toInt ∧ m_at.toInt ≤ 900) (hr_m_behind : 0 ≤ m_behind.toInt ∧ m_behind.toInt ≤ 900) (hr_m_bad : 0 ≤ m_bad.toInt ∧ m_bad.toInt ≤ 9) (hr_m_token : 0 ≤ m_token.toInt ∧ m_token.toInt ≤ 4) (hr_m_number : 0 ≤ m_number.toInt ∧ m_number.toInt ≤ 9999) (hr_m_letters : 0 ≤ m_letters.toInt ∧ m_letters.toInt ≤ 900) : zCi l yX12_begins cX12_begins 3 (some .boolean) ({ frames := 2, cells := 0, slots := 0, locals := 42 }) G cA [.ref h0, .int nn, .int k] [(h0, .inr (12, [.int m_status, .int m_thrown, .long m_above, .long m_under, .ref a_traySort, .ref a_trayMany, .ref a_numbers, .ref a_tape, .int m_taped, .int m_textEnd, .int m_faultKind, .int m_faultAt, .int m_bad, .int m_badAt, .int m_token, .int m_at, .int m_behind, .int m_number, .int m_letters, .long m_word, .ref a_c, .ref a_words, .int m_markMany, .ref a_there, .ref a_tried, .ref a_best, .ref a_found, .int m_thereMany, .int m_foundMany, .int m_orderHow, .int m_orderRing, .int m_orderMany, .int m_hasBest, .long m_bestTop, .long m_bestBy, .ref a_weights, .ref a_shared, .int m_random, .int m_truePlace, .int m_trueWay, .int m_seconds, .int m_done, .int m_feelings, .int m_tries, .int m_leftOver, .int m_playDoor, .int m_playRing, .int m_isOpen, .int m_isOver, .int m_wasTried, .int m_hasPlayed, .ref a_feltNow, .ref a_last, .ref a_kept, .int m_hasSeconds, .int m_hasTurned, .int m_hasRound, .ref a_hasFeels, .ref a_isOn, .int m_firstAct, .long m_meanTop, .long m_meanBy, .ref a_order, .int m_rowMany, .int m_newSteps])), (a_tape, .inl (cA.1 2, 900, .inl g_tape))] (S := Int32 × Int32 × Int32 × Int32 × Int32 × Int32 × Int32 × Int32 × Int32 × Int64) (fun (r : Int32) (u : Int32 × Int32 × Int32 × Int32 × Int32 × Int32 × Int32 × Int32 × Int32 × Int64) => (r = (F_r_begins m_status m_taped m_textEnd m_bad m_token m_at m_behind m_number m_letters m_word g_tape nn k).1) ∧ (u.1 = (F_r_begins m_status m_taped m_textEnd m_bad m_token m_at m_behind m_number m_letters m_word g_tape nn k).2.1) ∧ (u.2.1 = (F_r_begins m_status m_taped m_textEnd m_bad m_token m_at m_behind m_number m_letters m_word g_tape nn k).2.2.1) ∧ (u.2.2.1 = (F_r_begins m_status m_taped m_textEnd m_bad m_token m_at m_behind m_number m_letters m_word g_tape nn k).2.2.2.1) ∧ (u.2.2.2.1 = (F_r_begins m_status m_taped m_textEnd m_bad m_token m_at m_behind m_number m_letters m_word g_tape nn k).2.2.2.2.1) ∧ (u.2.2.2.2.1 = (F_r_begins m_status m_taped m_textEnd m_bad m_token m_at m_behind m_number m_letters m_word g_tape nn k).2.2.2.2.2.1) ∧ (u.2.2.2.2.2.1 = (F_r_begins m_status m_taped m_textEnd m_bad m_token m_at m_behind m_number m_letters m_word g_tape nn k).2.2.2.2.2.2.1) ∧ (u.2.2.2.2.2.2.1 = (F_r_begins m_status m_taped m_textEnd m_bad m_token m_at m_behind m_number m_letters m_word g_tape nn k).2.2.2.2.2.2.2.1) ∧ (u.2.2.2.2.2.2.2.1 = (F_r_begins m_status m_taped m_textEnd m_bad m_token m_at m_behind m_number m_letters m_word g_tape nn k).2.2.2.2.2.2.2.2.1) ∧ (u.2.2.2.2.2.2.2.2.1 = (F_r_begins m_status m_taped m_textEnd m_bad m_token m_at m_behind m_number m_letters m_word g_tape nn k).2.2.2.2.2.2.2.2.2.1) ∧ (u.2.2.2.2.2.2.2.2.2 = (F_r_begins m_status m_taped m_textEnd m_bad m_token m_at m_behind m_number m_letters m_word g_tape nn k).2.2.2.2.2.2.2.2.2.2) ∧ ((r = 0 ∧ (0 ≤ u.2.1.toInt ∧ u.2.1.toInt ≤ 900) ∧ (0 ≤ u.2.2.1.toInt ∧ u.2.2.1.toInt ≤ 900) ∧ (0 ≤ u.2.2.2.1.toInt ∧ u.2.2.2.1.toInt ≤ 9) ∧ (0 ≤ u.2.2.2.2.1.toInt ∧ u.2.2.2.2.1.toInt ≤ 4) ∧ (0 ≤ u.2.2.2.2.2.1.toInt ∧ u.2.2.2.2.2.1.toInt ≤ 900) ∧ (0 ≤ u.2.2.2.2.2.2.1.toInt ∧ u.2.2.2.2.2.2.1.toInt ≤ 900) ∧ (0 ≤ u.2.2.2.2.2.2.2.1.toInt ∧ u.2.2.2.2.2.2.2.1.toInt ≤ 9999) ∧ (0 ≤ u.2.2.2.2.2.2.2.2.1.toInt ∧ u.2.2.2.2.2.2.2.2.1.toInt ≤ 900)) ∨ (r = 1 ∧ (0 ≤ u.2.1.toInt ∧ u.2.1.toInt ≤ 0) ∧ (0 ≤ u.2.2.1.toInt ∧ u.2.2.1.toInt ≤ 900) ∧ (0 ≤ u.2.2.2.1.toInt ∧ u.2.2.2.1.toInt ≤ 0) ∧ (0 ≤ u.2.2.2.2.1.toInt ∧ u.2.2.2.2.1.toInt ≤ 4) ∧ (0 ≤ u.2.2.2.2.2.1.toInt ∧ u.2.2.2.2.2.1.toInt ≤ 900) ∧ (0 ≤ u.2.2.2.2.2.2.1.toInt ∧ u.2.2.2.2.2.2.1.toInt ≤ 900) ∧ (0 ≤ u.2.2.2.2.2.2.2.1.toInt ∧ u.2.2.2.2.2.2.2.1.toInt ≤ 9999) ∧ (0 ≤ u.2.2.2.2.2.2.2.2.1.toInt ∧ u.2.2.2.2.2.2.2.2.1.toInt ≤ 900)))) (fun (u : Int32 × Int32 × Int32 × Int32 × Int32 × Int32 × Int32 × Int32 × Int32 × Int64) => [(h0, .inr (12, [.int u.1, .int m_thrown, .long m_above, .long m_under, .ref a_traySort, .ref a_trayMany, .ref a_numbers, .ref a_tape, .int u.2.1, .int u.2.2.1, .int m_faultKind, .int m_faultAt, .int u.2.2.2.1, .int m_badAt, .int u.2.2.2.2.1, .int u.2.2.2.2.2.1, .int u.2.2.2.2.2.2.1, .int u.2.2.2.2.2.2.2.1, .int u.2.2.2.2.2.2.2.2.1, .long u.2.2.2.2.2.2.2.2.2, .ref a_c, .ref a_words, .int m_markMany, .ref a_there, .ref a_tried, .ref a_best, .ref a_found, .int m_thereMany, .int m_foundMany, .int m_orderHow, .int m_orderRing, .int m_orderMany, .int m_hasBest, .long m_bestTop, .long m_bestBy, .ref a_weights, .ref a_shared, .int m_random, .int m_truePlace, .int m_trueWay, .int m_seconds, .int m_done, .int m_feelings, .int m_tries, .int m_leftOver, .int m_playDoor, .int m_playRing, .int m_isOpen, .int m_isOver, .int m_wasTried, .int m_hasPlayed, .ref a_feltNow, .ref a_last, .ref a_kept, .int m_hasSeconds, .int m_hasTurned, .int m_hasRound, .ref a_hasFeels, .ref a_isOn, .int m_firstAct, .long m_meanTop, .long m_meanBy, .ref a_order, .int m_rowMany, .int m_newSteps])), (a_tape, .inl (cA.1 2, 900, .inl g_tape))]) 0 0 := by
  have hk_0 : (0 : Int32).toInt = 0 := by decide +kernel
  have hk_5 : (5 : Int32).toInt = 5 := by decide +kernel
  refine z_start2z (own := RX12) (by decide) (Nat.le_of_ble_eq_true rfl) rfl ?_
  intro p e s m args below meth c A ls Q hx hb hml hts hown hK hE hT hP hD hS hA hl hret
  have hl : lv_has ls 3 [(0, .ref h0), (1, .int nn), (2, .int k)] := hl
  refine lv_iload_n hx hb dX12_begins_0 rfl (lv_at hl 1 rfl) ?_
  refine lv_if_lt (tgt := 17) hx hb dX12_begins_1 (by decide) (fun c_1 => ?_) (fun c_1 => ?_)
  · have b_2 := z_fltT c_1
    refine lv_aload_n hx hb dX12_begins_17 rfl (lv_at hl 0 rfl) ?_
    refine lv_iconst (v := 5) hx hb dX12_begins_18 (by decide) ?_
    refine z_callVi (As := [.int 5]) (rest := []) (wr := [(a_tape, .inl (cA.1 2, 900, .inl g_tape))]) ⟨hx, hb, hml, hown, hts⟩ hK hE hT hP hD hS hA (r_no l G cA h0 m_status m_thrown m_above m_under a_traySort a_trayMany a_numbers a_tape m_taped m_textEnd m_faultKind m_faultAt m_bad m_badAt m_token m_at m_behind m_number m_letters m_word a_c a_words m_markMany a_there a_tried a_best a_found m_thereMany m_foundMany m_orderHow m_orderRing m_orderMany m_hasBest m_bestTop m_bestBy a_weights a_shared m_random m_truePlace m_trueWay m_seconds m_done m_feelings m_tries m_leftOver m_playDoor m_playRing m_isOpen m_isOver m_wasTried m_hasPlayed a_feltNow a_last a_kept m_hasSeconds m_hasTurned m_hasRound a_hasFeels a_isOn m_firstAct m_meanTop m_meanBy a_order m_rowMany m_newSteps 5) lk_RX12_97 ⟨rfl, rfl⟩ ⟨Nat.le_of_ble_eq_true rfl, Nat.le_of_ble_eq_true rfl⟩ 12 rfl rfl rfl [0] [1] rfl rfl (by decide) rfl hl.1 rfl (lv_room (Nat.le_of_ble_eq_true rfl)) dX12_begins_19 ⟨Nat.le_of_ble_eq_true rfl, Nat.le_of_ble_eq_true rfl⟩ (fun r_4 u_5 H locs hw hP hD hS => ?_)
    obtain ⟨n_3, rfl⟩ : ∃ z, z = u_5 := ⟨_, rfl⟩
    obtain ⟨he_r_4, he_n_3, hw⟩ := hw
    obtain ⟨rfl, -⟩ := hw
    have hpost : ((0 : Int32) = 0 ∧ (0 ≤ m_taped.toInt ∧ m_taped.toInt ≤ 900) ∧ (0 ≤ m_textEnd.toInt ∧ m_textEnd.toInt ≤ 900) ∧ (0 ≤ m_bad.toInt ∧ m_bad.toInt ≤ 9) ∧ (0 ≤ m_token.toInt ∧ m_token.toInt ≤ 4) ∧ (0 ≤ m_at.toInt ∧ m_at.toInt ≤ 900) ∧ (0 ≤ m_behind.toInt ∧ m_behind.toInt ≤ 900) ∧ (0 ≤ m_number.toInt ∧ m_number.toInt ≤ 9999) ∧ (0 ≤ m_letters.toInt ∧ m_letters.toInt ≤ 900)) ∨ ((0 : Int32) = 1 ∧ (0 ≤ m_taped.toInt ∧ m_taped.toInt ≤ 0) ∧ (0 ≤ m_textEnd.toInt ∧ m_textEnd.toInt ≤ 900) ∧ (0 ≤ m_bad.toInt ∧ m_bad.toInt ≤ 0) ∧ (0 ≤ m_token.toInt ∧ m_token.toInt ≤ 4) ∧ (0 ≤ m_at.toInt ∧ m_at.toInt ≤ 900) ∧ (0 ≤ m_behind.toInt ∧ m_behind.toInt ≤ 900) ∧ (0 ≤ m_number.toInt ∧ m_number.toInt ≤ 9999) ∧ (0 ≤ m_letters.toInt ∧ m_letters.toInt ≤ 900)) := (Or.inl ⟨rfl, ⟨hr_m_taped, hr_m_textEnd, hr_m_bad, hr_m_token, hr_m_at, hr_m_behind, hr_m_number, hr_m_letters⟩⟩)
    have hX_7 : F_r_begins m_status m_taped m_textEnd m_bad m_token m_at m_behind m_number m_letters m_word g_tape nn k = (((0 : Int32), n_3, m_taped, m_textEnd, m_bad, m_token, m_at, m_behind, m_number, m_letters, m_word) : Int32 × Int32 × Int32 × Int32 × Int32 × Int32 × Int32 × Int32 × Int32 × Int32 × Int64) := by
      refine (F_r_begins_s ..).trans ?_
      refine (if_pos c_1).trans ?_
      extract_lets -merge -useContext +onlyGivenNames w9 y1_0 y1_1; have e9 : ((0 : Int32), n_3) = w9 := ((z_tS he_r_4 he_n_3.symm)).symm; clear_value w9; subst e9
      exact rfl
    exact hret _ _ _ _ _ _ (n_3, m_taped, m_textEnd, m_bad, m_token, m_at, m_behind, m_number, m_letters, m_word) [1, 0] hP hD hS rfl (by decide) dX12_begins_22 (Or.inl rfl) ⟨(congrArg (fun z9 => z9.1) hX_7).symm, (congrArg (fun z9 => z9.2.1) hX_7).symm, (congrArg (fun z9 => z9.2.2.1) hX_7).symm, (congrArg (fun z9 => z9.2.2.2.1) hX_7).symm, (congrArg (fun z9 => z9.2.2.2.2.1) hX_7).symm, (congrArg (fun z9 => z9.2.2.2.2.2.1) hX_7).symm, (congrArg (fun z9 => z9.2.2.2.2.2.2.1) hX_7).symm, (congrArg (fun z9 => z9.2.2.2.2.2.2.2.1) hX_7).symm, (congrArg (fun z9 => z9.2.2.2.2.2.2.2.2.1) hX_7).symm, (congrArg (fun z9 => z9.2.2.2.2.2.2.2.2.2.1) hX_7).symm, (congrArg (fun z9 => z9.2.2.2.2.2.2.2.2.2.2) hX_7).symm, hpost⟩
  · have b_8 := z_fgeF c_1
    refine lv_iload_n hx hb dX12_begins_4 rfl (lv_at hl 1 rfl) ?_
    refine lv_aload_n hx hb dX12_begins_5 rfl (lv_at hl 0 rfl) ?_
    refine va_get (D := G) (ci := 12) (v := .int m_taped) (C := RX12) (T := TX12) (N := 65) hx hb hts inT12 hown hK hP 0 rfl rfl 8 (by decide) (hts _ tw_1893) (fun _ h9 => h9) rfl dX12_begins_6 ?_
    refine lv_icmp_gt (tgt := 17) hx hb dX12_begins_9 (by decide) (fun c_9 => ?_) (fun c_9 => ?_)
    · have b_10 := z_fgtT c_9
      refine lv_aload_n hx hb dX12_begins_17 rfl (lv_at hl 0 rfl) ?_
      refine lv_iconst (v := 5) hx hb dX12_begins_18 (by decide) ?_
      refine z_callVi (As := [.int 5]) (rest := []) (wr := [(a_tape, .inl (cA.1 2, 900, .inl g_tape))]) ⟨hx, hb, hml, hown, hts⟩ hK hE hT hP hD hS hA (r_no l G cA h0 m_status m_thrown m_above m_under a_traySort a_trayMany a_numbers a_tape m_taped m_textEnd m_faultKind m_faultAt m_bad m_badAt m_token m_at m_behind m_number m_letters m_word a_c a_words m_markMany a_there a_tried a_best a_found m_thereMany m_foundMany m_orderHow m_orderRing m_orderMany m_hasBest m_bestTop m_bestBy a_weights a_shared m_random m_truePlace m_trueWay m_seconds m_done m_feelings m_tries m_leftOver m_playDoor m_playRing m_isOpen m_isOver m_wasTried m_hasPlayed a_feltNow a_last a_kept m_hasSeconds m_hasTurned m_hasRound a_hasFeels a_isOn m_firstAct m_meanTop m_meanBy a_order m_rowMany m_newSteps 5) lk_RX12_97 ⟨rfl, rfl⟩ ⟨Nat.le_of_ble_eq_true rfl, Nat.le_of_ble_eq_true rfl⟩ 12 rfl rfl rfl [0] [1] rfl rfl (by decide) rfl hl.1 rfl (lv_room (Nat.le_of_ble_eq_true rfl)) dX12_begins_19 ⟨Nat.le_of_ble_eq_true rfl, Nat.le_of_ble_eq_true rfl⟩ (fun r_12 u_13 H locs hw hP hD hS => ?_)
      obtain ⟨n_11, rfl⟩ : ∃ z, z = u_13 := ⟨_, rfl⟩
      obtain ⟨he_r_12, he_n_11, hw⟩ := hw
      obtain ⟨rfl, -⟩ := hw
      have hpost : ((0 : Int32) = 0 ∧ (0 ≤ m_taped.toInt ∧ m_taped.toInt ≤ 900) ∧ (0 ≤ m_textEnd.toInt ∧ m_textEnd.toInt ≤ 900) ∧ (0 ≤ m_bad.toInt ∧ m_bad.toInt ≤ 9) ∧ (0 ≤ m_token.toInt ∧ m_token.toInt ≤ 4) ∧ (0 ≤ m_at.toInt ∧ m_at.toInt ≤ 900) ∧ (0 ≤ m_behind.toInt ∧ m_behind.toInt ≤ 900) ∧ (0 ≤ m_number.toInt ∧ m_number.toInt ≤ 9999) ∧ (0 ≤ m_letters.toInt ∧ m_letters.toInt ≤ 900)) ∨ ((0 : Int32) = 1 ∧ (0 ≤ m_taped.toInt ∧ m_taped.toInt ≤ 0) ∧ (0 ≤ m_textEnd.toInt ∧ m_textEnd.toInt ≤ 900) ∧ (0 ≤ m_bad.toInt ∧ m_bad.toInt ≤ 0) ∧ (0 ≤ m_token.toInt ∧ m_token.toInt ≤ 4) ∧ (0 ≤ m_at.toInt ∧ m_at.toInt ≤ 900) ∧ (0 ≤ m_behind.toInt ∧ m_behind.toInt ≤ 900) ∧ (0 ≤ m_number.toInt ∧ m_number.toInt ≤ 9999) ∧ (0 ≤ m_letters.toInt ∧ m_letters.toInt ≤ 900)) := (Or.inl ⟨rfl, ⟨hr_m_taped, hr_m_textEnd, hr_m_bad, hr_m_token, hr_m_at, hr_m_behind, hr_m_number, hr_m_letters⟩⟩)
      have hX_15 : F_r_begins m_status m_taped m_textEnd m_bad m_token m_at m_behind m_number m_letters m_word g_tape nn k = (((0 : Int32), n_11, m_taped, m_textEnd, m_bad, m_token, m_at, m_behind, m_number, m_letters, m_word) : Int32 × Int32 × Int32 × Int32 × Int32 × Int32 × Int32 × Int32 × Int32 × Int32 × Int64) := by
        refine (F_r_begins_s ..).trans ?_
        refine (if_neg c_1).trans ?_
        refine (if_pos c_9).trans ?_
        extract_lets -merge -useContext +onlyGivenNames w9 y2_0 y2_1; have e9 : ((0 : Int32), n_11) = w9 := ((z_tS he_r_12 he_n_11.symm)).symm; clear_value w9; subst e9
        exact rfl
      exact hret _ _ _ _ _ _ (n_11, m_taped, m_textEnd, m_bad, m_token, m_at, m_behind, m_number, m_letters, m_word) [1, 0] hP hD hS rfl (by decide) dX12_begins_22 (Or.inl rfl) ⟨(congrArg (fun z9 => z9.1) hX_15).symm, (congrArg (fun z9 => z9.2.1) hX_15).symm, (congrArg (fun z9 => z9.2.2.1) hX_15).symm, (congrArg (fun z9 => z9.2.2.2.1) hX_15).symm, (congrArg (fun z9 => z9.2.2.2.2.1) hX_15).symm, (congrArg (fun z9 => z9.2.2.2.2.2.1) hX_15).symm, (congrArg (fun z9 => z9.2.2.2.2.2.2.1) hX_15).symm, (congrArg (fun z9 => z9.2.2.2.2.2.2.2.1) hX_15).symm, (congrArg (fun z9 => z9.2.2.2.2.2.2.2.2.1) hX_15).symm, (congrArg (fun z9 => z9.2.2.2.2.2.2.2.2.2.1) hX_15).symm, (congrArg (fun z9 => z9.2.2.2.2.2.2.2.2.2.2) hX_15).symm, hpost⟩
    · have b_16 := z_fleF c_9
      refine lv_iload_n hx hb dX12_begins_12 rfl (lv_at hl 1 rfl) ?_
      refine lv_iload_n hx hb dX12_begins_13 rfl (lv_at hl 2 rfl) ?_
      refine lv_icmp_le (tgt := 23) hx hb dX12_begins_14 (by decide) (fun c_17 => ?_) (fun c_17 => ?_)
      · have b_18 := z_fleT c_17
        refine lv_aload_n hx hb dX12_begins_23 rfl (lv_at hl 0 rfl) ?_
        refine lv_iload_n hx hb dX12_begins_24 rfl (lv_at hl 1 rfl) ?_
        refine va_put (D := G) (ci := 12) (v := .int nn) (ty := .int) (C := RX12) (T := TX12) (N := 65) hx hb hts inT12 tyX12 tyX12_ok nmX12 hown hK hP hD hS 0 rfl rfl 9 (by decide) (hts _ tw_1894) (fun _ h9 => h9) rfl (tyX12_ok 9 (by decide)) rfl rfl (Nat.le_of_ble_eq_true rfl) dX12_begins_25 (fun H locs hP hD hS => ?_)
        refine lv_aload_n hx hb dX12_begins_28 rfl (lv_at hl 0 rfl) ?_
        refine lv_iconst (v := 0) hx hb dX12_begins_29 (by decide) ?_
        refine va_put (D := G) (ci := 12) (v := .int 0) (ty := .int) (C := RX12) (T := TX12) (N := 65) hx hb hts inT12 tyX12 tyX12_ok nmX12 hown hK hP hD hS 0 rfl rfl 8 (by decide) (hts _ tw_1893) (fun _ h9 => h9) rfl (tyX12_ok 8 (by decide)) rfl rfl (Nat.le_of_ble_eq_true rfl) dX12_begins_30 (fun H locs hP hD hS => ?_)
        refine lv_aload_n hx hb dX12_begins_33 rfl (lv_at hl 0 rfl) ?_
        refine lv_iconst (v := 0) hx hb dX12_begins_34 (by decide) ?_
        refine va_put (D := G) (ci := 12) (v := .int 0) (ty := .int) (C := RX12) (T := TX12) (N := 65) hx hb hts inT12 tyX12 tyX12_ok nmX12 hown hK hP hD hS 0 rfl rfl 16 (by decide) (hts _ tw_1901) (fun _ h9 => h9) rfl (tyX12_ok 16 (by decide)) rfl rfl (Nat.le_of_ble_eq_true rfl) dX12_begins_35 (fun H locs hP hD hS => ?_)
        refine lv_aload_n hx hb dX12_begins_38 rfl (lv_at hl 0 rfl) ?_
        refine lv_iconst (v := 0) hx hb dX12_begins_39 (by decide) ?_
        refine va_put (D := G) (ci := 12) (v := .int 0) (ty := .int) (C := RX12) (T := TX12) (N := 65) hx hb hts inT12 tyX12 tyX12_ok nmX12 hown hK hP hD hS 0 rfl rfl 12 (by decide) (hts _ tw_1897) (fun _ h9 => h9) rfl (tyX12_ok 12 (by decide)) rfl rfl (Nat.le_of_ble_eq_true rfl) dX12_begins_40 (fun H locs hP hD hS => ?_)
        refine lv_aload_n hx hb dX12_begins_43 rfl (lv_at hl 0 rfl) ?_
        refine z_callVv (As := []) (rest := []) (wr := []) ⟨hx, hb, hml, hown, hts⟩ hK hE hT hP hD hS hA (r_next2 l G cA h0 m_status m_thrown m_above m_under a_traySort a_trayMany a_numbers a_tape 0 nn m_faultKind m_faultAt 0 m_badAt m_token m_at 0 m_number m_letters m_word a_c a_words m_markMany a_there a_tried a_best a_found m_thereMany m_foundMany m_orderHow m_orderRing m_orderMany m_hasBest m_bestTop m_bestBy a_weights a_shared m_random m_truePlace m_trueWay m_seconds m_done m_feelings m_tries m_leftOver m_playDoor m_playRing m_isOpen m_isOver m_wasTried m_hasPlayed a_feltNow a_last a_kept m_hasSeconds m_hasTurned m_hasRound a_hasFeels a_isOn m_firstAct m_meanTop m_meanBy a_order m_rowMany m_newSteps g_tape (by omega) hr_m_at (by decide +kernel) hr_m_token hr_m_number hr_m_letters) lk_RX12_184 ⟨rfl, rfl⟩ ⟨Nat.le_of_ble_eq_true rfl, Nat.le_of_ble_eq_true rfl⟩ 12 rfl rfl rfl [0, 1] [] rfl rfl (by decide) rfl hl.1 rfl (lv_room (Nat.le_of_ble_eq_true rfl)) dX12_begins_44 ⟨Nat.le_of_ble_eq_true rfl, Nat.le_of_ble_eq_true rfl⟩ (fun u_26 H locs hw hP hD hS => ?_)
        obtain ⟨n_19, n_20, n_21, n_22, n_23, n_24⟩ := u_26
        try dsimp only at hw
        obtain ⟨he_n_19, he_n_20, he_n_21, he_n_22, he_n_23, he_n_24, hw⟩ := hw
        obtain ⟨hr_n_19, hr_n_20, hr_n_21, hr_n_22, hr_n_23, hf_28, hf_29⟩ := hw
        refine lv_iconst (v := 1) hx hb dX12_begins_47 (by decide) ?_
        have hpost : ((1 : Int32) = 0 ∧ (0 ≤ (0 : Int32).toInt ∧ (0 : Int32).toInt ≤ 900) ∧ (0 ≤ nn.toInt ∧ nn.toInt ≤ 900) ∧ (0 ≤ (0 : Int32).toInt ∧ (0 : Int32).toInt ≤ 9) ∧ (0 ≤ n_19.toInt ∧ n_19.toInt ≤ 4) ∧ (0 ≤ n_20.toInt ∧ n_20.toInt ≤ 900) ∧ (0 ≤ n_21.toInt ∧ n_21.toInt ≤ 900) ∧ (0 ≤ n_22.toInt ∧ n_22.toInt ≤ 9999) ∧ (0 ≤ n_23.toInt ∧ n_23.toInt ≤ 900)) ∨ ((1 : Int32) = 1 ∧ (0 ≤ (0 : Int32).toInt ∧ (0 : Int32).toInt ≤ 0) ∧ (0 ≤ nn.toInt ∧ nn.toInt ≤ 900) ∧ (0 ≤ (0 : Int32).toInt ∧ (0 : Int32).toInt ≤ 0) ∧ (0 ≤ n_19.toInt ∧ n_19.toInt ≤ 4) ∧ (0 ≤ n_20.toInt ∧ n_20.toInt ≤ 900) ∧ (0 ≤ n_21.toInt ∧ n_21.toInt ≤ 900) ∧ (0 ≤ n_22.toInt ∧ n_22.toInt ≤ 9999) ∧ (0 ≤ n_23.toInt ∧ n_23.toInt ≤ 900)) := (Or.inr ⟨rfl, ⟨(by decide +kernel), (by omega), (by decide +kernel), hr_n_19, hr_n_20, hr_n_21, hr_n_22, hr_n_23⟩⟩)
        have hX_30 : F_r_begins m_status m_taped m_textEnd m_bad m_token m_at m_behind m_number m_letters m_word g_tape nn k = (((1 : Int32), m_status, (0 : Int32), nn, (0 : Int32), n_19, n_20, n_21, n_22, n_23, n_24) : Int32 × Int32 × Int32 × Int32 × Int32 × Int32 × Int32 × Int32 × Int32 × Int32 × Int64) := by
          refine (F_r_begins_s ..).trans ?_
          refine (if_neg c_1).trans ?_
          refine (if_neg c_9).trans ?_
          refine (if_pos c_17).trans ?_
          extract_lets -merge -useContext +onlyGivenNames w9 y3_0 y3_1 y3_2 y3_3 y3_4 y3_5; have e9 : (n_19, n_20, n_21, n_22, n_23, n_24) = w9 := ((z_tS he_n_19 (z_tS he_n_20 (z_tS he_n_21 (z_tS he_n_22 (z_tS he_n_23 he_n_24.symm)))))).symm; clear_value w9; subst e9
          exact rfl
        exact hret _ _ _ _ _ _ (m_status, 0, nn, 0, n_19, n_20, n_21, n_22, n_23, n_24) [0, 1] hP hD hS rfl (by decide) dX12_begins_48 (Or.inr rfl) ⟨(congrArg (fun z9 => z9.1) hX_30).symm, (congrArg (fun z9 => z9.2.1) hX_30).symm, (congrArg (fun z9 => z9.2.2.1) hX_30).symm, (congrArg (fun z9 => z9.2.2.2.1) hX_30).symm, (congrArg (fun z9 => z9.2.2.2.2.1) hX_30).symm, (congrArg (fun z9 => z9.2.2.2.2.2.1) hX_30).symm, (congrArg (fun z9 => z9.2.2.2.2.2.2.1) hX_30).symm, (congrArg (fun z9 => z9.2.2.2.2.2.2.2.1) hX_30).symm, (congrArg (fun z9 => z9.2.2.2.2.2.2.2.2.1) hX_30).symm, (congrArg (fun z9 => z9.2.2.2.2.2.2.2.2.2.1) hX_30).symm, (congrArg (fun z9 => z9.2.2.2.2.2.2.2.2.2.2) hX_30).symm, hpost⟩
      · have b_31 := z_fgtF c_17
        refine lv_aload_n hx hb dX12_begins_17 rfl (lv_at hl 0 rfl) ?_
        refine lv_iconst (v := 5) hx hb dX12_begins_18 (by decide) ?_
        refine z_callVi (As := [.int 5]) (rest := []) (wr := [(a_tape, .inl (cA.1 2, 900, .inl g_tape))]) ⟨hx, hb, hml, hown, hts⟩ hK hE hT hP hD hS hA (r_no l G cA h0 m_status m_thrown m_above m_under a_traySort a_trayMany a_numbers a_tape m_taped m_textEnd m_faultKind m_faultAt m_bad m_badAt m_token m_at m_behind m_number m_letters m_word a_c a_words m_markMany a_there a_tried a_best a_found m_thereMany m_foundMany m_orderHow m_orderRing m_orderMany m_hasBest m_bestTop m_bestBy a_weights a_shared m_random m_truePlace m_trueWay m_seconds m_done m_feelings m_tries m_leftOver m_playDoor m_playRing m_isOpen m_isOver m_wasTried m_hasPlayed a_feltNow a_last a_kept m_hasSeconds m_hasTurned m_hasRound a_hasFeels a_isOn m_firstAct m_meanTop m_meanBy a_order m_rowMany m_newSteps 5) lk_RX12_97 ⟨rfl, rfl⟩ ⟨Nat.le_of_ble_eq_true rfl, Nat.le_of_ble_eq_true rfl⟩ 12 rfl rfl rfl [0] [1] rfl rfl (by decide) rfl hl.1 rfl (lv_room (Nat.le_of_ble_eq_true rfl)) dX12_begins_19 ⟨Nat.le_of_ble_eq_true rfl, Nat.le_of_ble_eq_true rfl⟩ (fun r_33 u_34 H locs hw hP hD hS => ?_)
        obtain ⟨n_32, rfl⟩ : ∃ z, z = u_34 := ⟨_, rfl⟩
        obtain ⟨he_r_33, he_n_32, hw⟩ := hw
        obtain ⟨rfl, -⟩ := hw
        have hpost : ((0 : Int32) = 0 ∧ (0 ≤ m_taped.toInt ∧ m_taped.toInt ≤ 900) ∧ (0 ≤ m_textEnd.toInt ∧ m_textEnd.toInt ≤ 900) ∧ (0 ≤ m_bad.toInt ∧ m_bad.toInt ≤ 9) ∧ (0 ≤ m_token.toInt ∧ m_token.toInt ≤ 4) ∧ (0 ≤ m_at.toInt ∧ m_at.toInt ≤ 900) ∧ (0 ≤ m_behind.toInt ∧ m_behind.toInt ≤ 900) ∧ (0 ≤ m_number.toInt ∧ m_number.toInt ≤ 9999) ∧ (0 ≤ m_letters.toInt ∧ m_letters.toInt ≤ 900)) ∨ ((0 : Int32) = 1 ∧ (0 ≤ m_taped.toInt ∧ m_taped.toInt ≤ 0) ∧ (0 ≤ m_textEnd.toInt ∧ m_textEnd.toInt ≤ 900) ∧ (0 ≤ m_bad.toInt ∧ m_bad.toInt ≤ 0) ∧ (0 ≤ m_token.toInt ∧ m_token.toInt ≤ 4) ∧ (0 ≤ m_at.toInt ∧ m_at.toInt ≤ 900) ∧ (0 ≤ m_behind.toInt ∧ m_behind.toInt ≤ 900) ∧ (0 ≤ m_number.toInt ∧ m_number.toInt ≤ 9999) ∧ (0 ≤ m_letters.toInt ∧ m_letters.toInt ≤ 900)) := (Or.inl ⟨rfl, ⟨hr_m_taped, hr_m_textEnd, hr_m_bad, hr_m_token, hr_m_at, hr_m_behind, hr_m_number, hr_m_letters⟩⟩)
        have hX_36 : F_r_begins m_status m_taped m_textEnd m_bad m_token m_at m_behind m_number m_letters m_word g_tape nn k = (((0 : Int32), n_32, m_taped, m_textEnd, m_bad, m_token, m_at, m_behind, m_number, m_letters, m_word) : Int32 × Int32 × Int32 × Int32 × Int32 × Int32 × Int32 × Int32 × Int32 × Int32 × Int64) := by
          refine (F_r_begins_s ..).trans ?_
          refine (if_neg c_1).trans ?_
          refine (if_neg c_9).trans ?_
          refine (if_neg c_17).trans ?_
          extract_lets -merge -useContext +onlyGivenNames w9 y3_0 y3_1; have e9 : ((0 : Int32), n_32) = w9 := ((z_tS he_r_33 he_n_32.symm)).symm; clear_value w9; subst e9
          exact rfl
        exact hret _ _ _ _ _ _ (n_32, m_taped, m_textEnd, m_bad, m_token, m_at, m_behind, m_number, m_letters, m_word) [1, 0] hP hD hS rfl (by decide) dX12_begins_22 (Or.inl rfl) ⟨(congrArg (fun z9 => z9.1) hX_36).symm, (congrArg (fun z9 => z9.2.1) hX_36).symm, (congrArg (fun z9 => z9.2.2.1) hX_36).symm, (congrArg (fun z9 => z9.2.2.2.1) hX_36).symm, (congrArg (fun z9 => z9.2.2.2.2.1) hX_36).symm, (congrArg (fun z9 => z9.2.2.2.2.2.1) hX_36).symm, (congrArg (fun z9 => z9.2.2.2.2.2.2.1) hX_36).symm, (congrArg (fun z9 => z9.2.2.2.2.2.2.2.1) hX_36).symm, (congrArg (fun z9 => z9.2.2.2.2.2.2.2.2.1) hX_36).symm, (congrArg (fun z9 => z9.2.2.2.2.2.2.2.2.2.1) hX_36).symm, (congrArg (fun z9 => z9.2.2.2.2.2.2.2.2.2.2) hX_36).symm, hpost⟩
