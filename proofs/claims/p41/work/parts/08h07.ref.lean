set_option maxHeartbeats 4000000 in
set_option maxRecDepth 100000 in
theorem r_triedWorth_3 (l : Launch) (G : va_G) (cA : zCA) (h0 : Nat) (m_status : Int32) (m_thrown : Int32) (m_above : Int64) (m_under : Int64) (a_traySort : Nat) (a_trayMany : Nat) (a_numbers : Nat) (a_tape : Nat) (m_taped : Int32) (m_textEnd : Int32) (m_faultKind : Int32) (m_faultAt : Int32) (m_bad : Int32) (m_badAt : Int32) (m_token : Int32) (m_at : Int32) (m_behind : Int32) (m_number : Int32) (m_letters : Int32) (m_word : Int64) (a_c : Nat) (a_words : Nat) (m_markMany : Int32) (a_there : Nat) (a_tried : Nat) (a_best : Nat) (a_found : Nat) (m_thereMany : Int32) (m_foundMany : Int32) (m_orderHow : Int32) (m_orderRing : Int32) (m_orderMany : Int32) (m_hasBest : Int32) (m_bestTop : Int64) (m_bestBy : Int64) (a_weights : Nat) (a_shared : Nat) (m_random : Int32) (m_truePlace : Int32) (m_trueWay : Int32) (m_seconds : Int32) (m_done : Int32) (m_feelings : Int32) (m_tries : Int32) (m_leftOver : Int32) (m_playDoor : Int32) (m_playRing : Int32) (m_isOpen : Int32) (m_isOver : Int32) (m_wasTried : Int32) (m_hasPlayed : Int32) (a_feltNow : Nat) (a_last : Nat) (a_kept : Nat) (m_hasSeconds : Int32) (m_hasTurned : Int32) (m_hasRound : Int32) (a_hasFeels : Nat) (a_isOn : Nat) (m_firstAct : Int32) (m_meanTop : Int64) (m_meanBy : Int64) (a_order : Nat) (m_rowMany : Int32) (m_newSteps : Int32) (g_c : Nat → Int32) (g_there : Nat → Int32) (g_weights : Nat → Int64) (pp : Int32) (d : Int32) (hr_pp : 0 ≤ pp.toInt ∧ pp.toInt ≤ 1) (hr_d : 0 ≤ d.toInt ∧ d.toInt ≤ 4) (hr_m_thereMany : 0 ≤ m_thereMany.toInt ∧ m_thereMany.toInt ≤ 10) (hC_g_c : zC g_c) (hC_g_there : zRg 10 0 9 g_there) : zCl l yX12_triedWorth cX12_triedWorth 8 (some .long) ({ frames := 6, cells := 0, slots := 0, locals := 162 }) G cA [.ref h0, .int pp, .int 3, .int d] [(h0, .inr (12, [.int m_status, .int m_thrown, .long m_above, .long m_under, .ref a_traySort, .ref a_trayMany, .ref a_numbers, .ref a_tape, .int m_taped, .int m_textEnd, .int m_faultKind, .int m_faultAt, .int m_bad, .int m_badAt, .int m_token, .int m_at, .int m_behind, .int m_number, .int m_letters, .long m_word, .ref a_c, .ref a_words, .int m_markMany, .ref a_there, .ref a_tried, .ref a_best, .ref a_found, .int m_thereMany, .int m_foundMany, .int m_orderHow, .int m_orderRing, .int m_orderMany, .int m_hasBest, .long m_bestTop, .long m_bestBy, .ref a_weights, .ref a_shared, .int m_random, .int m_truePlace, .int m_trueWay, .int m_seconds, .int m_done, .int m_feelings, .int m_tries, .int m_leftOver, .int m_playDoor, .int m_playRing, .int m_isOpen, .int m_isOver, .int m_wasTried, .int m_hasPlayed, .ref a_feltNow, .ref a_last, .ref a_kept, .int m_hasSeconds, .int m_hasTurned, .int m_hasRound, .ref a_hasFeels, .ref a_isOn, .int m_firstAct, .long m_meanTop, .long m_meanBy, .ref a_order, .int m_rowMany, .int m_newSteps])), (a_c, .inl (cA.1 0, 1825, .inl g_c)), (a_there, .inl (cA.1 0, 10, .inl g_there)), (a_weights, .inl (cA.1 1, 100, .inr (.inl g_weights)))] (S := Int32 × (Nat → Int64)) (fun (r : Int64) (u : Int32 × (Nat → Int64)) => True) (fun (u : Int32 × (Nat → Int64)) => [(h0, .inr (12, [.int m_status, .int m_thrown, .long m_above, .long m_under, .ref a_traySort, .ref a_trayMany, .ref a_numbers, .ref a_tape, .int m_taped, .int m_textEnd, .int m_faultKind, .int m_faultAt, .int m_bad, .int m_badAt, .int m_token, .int m_at, .int m_behind, .int m_number, .int m_letters, .long m_word, .ref a_c, .ref a_words, .int m_markMany, .ref a_there, .ref a_tried, .ref a_best, .ref a_found, .int m_thereMany, .int m_foundMany, .int m_orderHow, .int m_orderRing, .int m_orderMany, .int m_hasBest, .long m_bestTop, .long m_bestBy, .ref a_weights, .ref a_shared, .int m_random, .int m_truePlace, .int m_trueWay, .int m_seconds, .int m_done, .int m_feelings, .int m_tries, .int m_leftOver, .int m_playDoor, .int m_playRing, .int m_isOpen, .int m_isOver, .int m_wasTried, .int m_hasPlayed, .ref a_feltNow, .ref a_last, .ref a_kept, .int m_hasSeconds, .int m_hasTurned, .int m_hasRound, .ref a_hasFeels, .ref a_isOn, .int u.1, .long m_meanTop, .long m_meanBy, .ref a_order, .int m_rowMany, .int m_newSteps])), (a_c, .inl (cA.1 0, 1825, .inl g_c)), (a_there, .inl (cA.1 0, 10, .inl g_there)), (a_weights, .inl (cA.1 1, 100, .inr (.inl u.2)))]) 0 0 := by
  have hk_0 : (0 : Int32).toInt = 0 := by decide +kernel
  have hk_1 : (1 : Int32).toInt = 1 := by decide +kernel
  have hk_2 : (2 : Int32).toInt = 2 := by decide +kernel
  have hk_3 : (3 : Int32).toInt = 3 := by decide +kernel
  have hk_20 : (20 : Int32).toInt = 20 := by decide +kernel
  have hkl_0 : (0 : Int64).toInt = 0 := by decide +kernel
  refine z_start2l (own := RX12) (by decide) (Nat.le_of_ble_eq_true rfl) rfl ?_
  intro p e s m args below meth c A ls Q hx hb hml hts hown hK hE hT hP hD hS hA hl hret
  have hl : lv_has ls 8 [(0, .ref h0), (1, .int pp), (2, .int 3), (3, .int d)] := hl
  refine lv_lconst (v := 0) hx hb dX12_triedWorth_0 (by decide) ?_
  refine lv_lstore (lv' := [(4, .long 0), (0, .ref h0), (1, .int pp), (2, .int 3), (3, .int d)]) hx hb dX12_triedWorth_1 hl (by decide) rfl (fun ls hl => ?_)
  refine lv_iconst (v := 0) hx hb dX12_triedWorth_3 (by decide) ?_
  refine lv_istore (lv' := [(6, .int 0), (4, .long 0), (0, .ref h0), (1, .int pp), (2, .int 3), (3, .int d)]) hx hb dX12_triedWorth_4 hl (by decide) rfl (fun ls hl => ?_)
  have hlp_645 : ∀ (n : Nat) (v_614 : Int64) (v_615 : Int32) (g_616 : Nat → Int64) (H : Heap) (locs : List Loc) (ls : Array Slot), (2147483647 - v_615.toInt).toNat < n → (0 ≤ v_615.toInt ∧ v_615.toInt ≤ 20) → va_P G vwCl [(h0, .inr (12, [.int m_status, .int m_thrown, .long m_above, .long m_under, .ref a_traySort, .ref a_trayMany, .ref a_numbers, .ref a_tape, .int m_taped, .int m_textEnd, .int m_faultKind, .int m_faultAt, .int m_bad, .int m_badAt, .int m_token, .int m_at, .int m_behind, .int m_number, .int m_letters, .long m_word, .ref a_c, .ref a_words, .int m_markMany, .ref a_there, .ref a_tried, .ref a_best, .ref a_found, .int m_thereMany, .int m_foundMany, .int m_orderHow, .int m_orderRing, .int m_orderMany, .int m_hasBest, .long m_bestTop, .long m_bestBy, .ref a_weights, .ref a_shared, .int m_random, .int m_truePlace, .int m_trueWay, .int m_seconds, .int m_done, .int m_feelings, .int m_tries, .int m_leftOver, .int m_playDoor, .int m_playRing, .int m_isOpen, .int m_isOver, .int m_wasTried, .int m_hasPlayed, .ref a_feltNow, .ref a_last, .ref a_kept, .int m_hasSeconds, .int m_hasTurned, .int m_hasRound, .ref a_hasFeels, .ref a_isOn, .int m_firstAct, .long m_meanTop, .long m_meanBy, .ref a_order, .int m_rowMany, .int m_newSteps])), (a_c, .inl (cA.1 0, 1825, .inl g_c)), (a_there, .inl (cA.1 0, 10, .inl g_there)), (a_weights, .inl (cA.1 1, 100, .inr (.inl g_616)))] H → va_D A [(h0, .inr (12, [.int m_status, .int m_thrown, .long m_above, .long m_under, .ref a_traySort, .ref a_trayMany, .ref a_numbers, .ref a_tape, .int m_taped, .int m_textEnd, .int m_faultKind, .int m_faultAt, .int m_bad, .int m_badAt, .int m_token, .int m_at, .int m_behind, .int m_number, .int m_letters, .long m_word, .ref a_c, .ref a_words, .int m_markMany, .ref a_there, .ref a_tried, .ref a_best, .ref a_found, .int m_thereMany, .int m_foundMany, .int m_orderHow, .int m_orderRing, .int m_orderMany, .int m_hasBest, .long m_bestTop, .long m_bestBy, .ref a_weights, .ref a_shared, .int m_random, .int m_truePlace, .int m_trueWay, .int m_seconds, .int m_done, .int m_feelings, .int m_tries, .int m_leftOver, .int m_playDoor, .int m_playRing, .int m_isOpen, .int m_isOver, .int m_wasTried, .int m_hasPlayed, .ref a_feltNow, .ref a_last, .ref a_kept, .int m_hasSeconds, .int m_hasTurned, .int m_hasRound, .ref a_hasFeels, .ref a_isOn, .int m_firstAct, .long m_meanTop, .long m_meanBy, .ref a_order, .int m_rowMany, .int m_newSteps])), (a_c, .inl (cA.1 0, 1825, .inl g_c)), (a_there, .inl (cA.1 0, 10, .inl g_there)), (a_weights, .inl (cA.1 1, 100, .inr (.inl g_616)))] → va_S A s.heap H locs → lv_has ls 8 [(0, .ref h0), (1, .int pp), (2, .int 3), (3, .int d), (4, .long v_614), (6, .int v_615)] → W p l e ({ frames := 6, cells := 0, slots := 0, locals := 162 }) s m args below meth c H locs 0 0 Q (F0 m 6 ls []) := by
    intro n
    induction n with
    | zero =>
      intro v_614 v_615 g_616 H locs ls hmu_hlp_645 hr_v_615 hP hD hS hl
      exact absurd hmu_hlp_645 (Nat.not_lt_zero _)
    | succ n ih_646 =>
      intro v_614 v_615 g_616 H locs ls hmu_hlp_645 hr_v_615 hP hD hS hl
      refine lv_iload hx hb dX12_triedWorth_6 (lv_at hl 5 rfl) ?_
      refine lv_iconst (v := 2) hx hb dX12_triedWorth_8 (by decide) ?_
      refine lv_aload_n hx hb dX12_triedWorth_9 rfl (lv_at hl 0 rfl) ?_
      refine va_get (D := G) (ci := 12) (v := .int m_thereMany) (C := RX12) (T := TX12) (N := 65) hx hb hts inT12 hown hK hP 0 rfl rfl 27 (by decide) (hts _ tw_1912) (fun _ h9 => h9) rfl dX12_triedWorth_10 ?_
      refine lv_imul hx hb dX12_triedWorth_13 ?_
      refine lv_topi (fun x_647 he_x_647 => ?_)
      have hq_x_647 := z_mulq he_x_647 hk_2 (rfl : m_thereMany.toInt = _) (by omega) (by omega)
      refine lv_icmp_ge (tgt := 101) hx hb dX12_triedWorth_14 (by decide) (fun c_648 => ?_) (fun c_648 => ?_)
      · have b_649 := z_fgeT c_648
        refine lv_lload hx hb dX12_triedWorth_101 (lv_at hl 4 rfl) ?_
        refine lv_iload_n hx hb dX12_triedWorth_103 rfl (lv_at hl 2 rfl) ?_
        refine z_callSl (As := [.int 3]) (rest := [.long v_614]) (wr := [(h0, .inr (12, [.int m_status, .int m_thrown, .long m_above, .long m_under, .ref a_traySort, .ref a_trayMany, .ref a_numbers, .ref a_tape, .int m_taped, .int m_textEnd, .int m_faultKind, .int m_faultAt, .int m_bad, .int m_badAt, .int m_token, .int m_at, .int m_behind, .int m_number, .int m_letters, .long m_word, .ref a_c, .ref a_words, .int m_markMany, .ref a_there, .ref a_tried, .ref a_best, .ref a_found, .int m_thereMany, .int m_foundMany, .int m_orderHow, .int m_orderRing, .int m_orderMany, .int m_hasBest, .long m_bestTop, .long m_bestBy, .ref a_weights, .ref a_shared, .int m_random, .int m_truePlace, .int m_trueWay, .int m_seconds, .int m_done, .int m_feelings, .int m_tries, .int m_leftOver, .int m_playDoor, .int m_playRing, .int m_isOpen, .int m_isOver, .int m_wasTried, .int m_hasPlayed, .ref a_feltNow, .ref a_last, .ref a_kept, .int m_hasSeconds, .int m_hasTurned, .int m_hasRound, .ref a_hasFeels, .ref a_isOn, .int m_firstAct, .long m_meanTop, .long m_meanBy, .ref a_order, .int m_rowMany, .int m_newSteps])), (a_c, .inl (cA.1 0, 1825, .inl g_c)), (a_there, .inl (cA.1 0, 10, .inl g_there)), (a_weights, .inl (cA.1 1, 100, .inr (.inl g_616)))]) ⟨hx, hb, hml, hown, hts⟩ hK hE hT hP hD hS hA (r_power l G cA 3 (by decide +kernel)) lk_RX12_376 ⟨rfl, rfl⟩ ⟨Nat.le_of_ble_eq_true rfl, Nat.le_of_ble_eq_true rfl⟩ [] [0, 1, 2, 3] rfl rfl (by decide) rfl hl.1 rfl (lv_room (Nat.le_of_ble_eq_true rfl)) dX12_triedWorth_104 ⟨Nat.le_of_ble_eq_true rfl, Nat.le_of_ble_eq_true rfl⟩ (fun r_650 u_651 H locs hw hP hD hS => ?_)
        refine lv_lmul hx hb dX12_triedWorth_107 ?_
        have hL_v_614 := z_fulll v_614
        have hL_r_650 := z_fulll r_650
        refine lv_topl (fun x_652 he_x_652 => ?_)
        refine lv_ldc2 (v := 16) hx hb hown (hts _ tw_2470) dX12_triedWorth_108 ?_
        refine lv_aload_n hx hb dX12_triedWorth_111 rfl (lv_at hl 0 rfl) ?_
        refine lv_iload_n hx hb dX12_triedWorth_112 rfl (lv_at hl 1 rfl) ?_
        refine lv_iconst (v := 1) hx hb dX12_triedWorth_113 (by decide) ?_
        refine lv_iadd hx hb dX12_triedWorth_114 ?_
        refine lv_topi (fun x_653 he_x_653 => ?_)
        have hq_x_653 := z_addq he_x_653 (rfl : pp.toInt = _) hk_1 (by omega) (by omega)
        refine lv_iload_n hx hb dX12_triedWorth_115 rfl (lv_at hl 2 rfl) ?_
        refine lv_iconst (v := 1) hx hb dX12_triedWorth_116 (by decide) ?_
        refine lv_isub hx hb dX12_triedWorth_117 ?_
        refine z_topi (y := 2) (by decide +kernel) ?_
        refine lv_iload_n hx hb dX12_triedWorth_118 rfl (lv_at hl 3 rfl) ?_
        refine z_callVl (As := [.int x_653, .int 2, .int d]) (rest := [.long 16, .long x_652]) (wr := []) ⟨hx, hb, hml, hown, hts⟩ hK hE hT hP hD hS hA (r_worthOf_2 l G cA h0 m_status m_thrown m_above m_under a_traySort a_trayMany a_numbers a_tape m_taped m_textEnd m_faultKind m_faultAt m_bad m_badAt m_token m_at m_behind m_number m_letters m_word a_c a_words m_markMany a_there a_tried a_best a_found m_thereMany m_foundMany m_orderHow m_orderRing m_orderMany m_hasBest m_bestTop m_bestBy a_weights a_shared m_random m_truePlace m_trueWay m_seconds m_done m_feelings m_tries m_leftOver m_playDoor m_playRing m_isOpen m_isOver m_wasTried m_hasPlayed a_feltNow a_last a_kept m_hasSeconds m_hasTurned m_hasRound a_hasFeels a_isOn m_firstAct m_meanTop m_meanBy a_order m_rowMany m_newSteps g_c g_there g_616 x_653 d (by omega) hr_d hr_m_thereMany hC_g_c hC_g_there) lk_RX12_379 ⟨rfl, rfl⟩ ⟨Nat.le_of_ble_eq_true rfl, Nat.le_of_ble_eq_true rfl⟩ 12 rfl rfl rfl [0, 1, 2, 3] [] rfl rfl (by decide) rfl hl.1 rfl (lv_room (Nat.le_of_ble_eq_true rfl)) dX12_triedWorth_119 ⟨Nat.le_of_ble_eq_true rfl, Nat.le_of_ble_eq_true rfl⟩ (fun r_656 u_657 H locs hw hP hD hS => ?_)
        obtain ⟨n_654, n_655⟩ := u_657
        try dsimp only at hw
        refine lv_lmul hx hb dX12_triedWorth_122 ?_
        have hL_r_656 := z_fulll r_656
        refine lv_topl (fun x_658 he_x_658 => ?_)
        refine lv_ladd hx hb dX12_triedWorth_123 ?_
        have hL_x_652 := z_fulll x_652
        have hL_x_658 := z_fulll x_658
        refine lv_topl (fun x_659 he_x_659 => ?_)
        exact hret _ _ _ _ _ _ (n_654, n_655) [0, 1, 2, 3] hP hD hS rfl (by decide) dX12_triedWorth_124 trivial
      · have b_660 := z_fltF c_648
        refine lv_aload_n hx hb dX12_triedWorth_17 rfl (lv_at hl 0 rfl) ?_
        refine lv_aload_n hx hb dX12_triedWorth_18 rfl (lv_at hl 0 rfl) ?_
        refine va_get (D := G) (ci := 12) (v := .ref a_there) (C := RX12) (T := TX12) (N := 65) hx hb hts inT12 hown hK hP 0 rfl rfl 23 (by decide) (hts _ tw_1908) (fun _ h9 => h9) rfl dX12_triedWorth_19 ?_
        refine lv_iload hx hb dX12_triedWorth_22 (lv_at hl 5 rfl) ?_
        refine lv_iconst (v := 2) hx hb dX12_triedWorth_24 (by decide) ?_
        refine lv_idiv hx hb dX12_triedWorth_25 (by decide +kernel) ?_
        refine lv_topi (fun x_661 he_x_661 => ?_)
        have hq_x_661 := z_divq he_x_661 (rfl : v_615.toInt = _) hk_2 (by omega) (by decide)
        refine va_iald hx hb hK hP 2 0 rfl rfl (z_inN (by omega) (by omega)) dX12_triedWorth_26 ?_
        refine lv_topi (fun x_662 he_x_662 => ?_)
        have hr_x_662 := z_rg hC_g_there he_x_662 (by omega) (by omega)
        refine lv_iload_n hx hb dX12_triedWorth_27 rfl (lv_at hl 3 rfl) ?_
        refine z_callVi (As := [.int x_662, .int d]) (rest := []) (wr := [(a_there, .inl (cA.1 0, 10, .inl g_there)), (a_weights, .inl (cA.1 1, 100, .inr (.inl g_616)))]) ⟨hx, hb, hml, hown, hts⟩ hK hE hT hP hD hS hA (r_canOpen l G cA h0 m_status m_thrown m_above m_under a_traySort a_trayMany a_numbers a_tape m_taped m_textEnd m_faultKind m_faultAt m_bad m_badAt m_token m_at m_behind m_number m_letters m_word a_c a_words m_markMany a_there a_tried a_best a_found m_thereMany m_foundMany m_orderHow m_orderRing m_orderMany m_hasBest m_bestTop m_bestBy a_weights a_shared m_random m_truePlace m_trueWay m_seconds m_done m_feelings m_tries m_leftOver m_playDoor m_playRing m_isOpen m_isOver m_wasTried m_hasPlayed a_feltNow a_last a_kept m_hasSeconds m_hasTurned m_hasRound a_hasFeels a_isOn m_firstAct m_meanTop m_meanBy a_order m_rowMany m_newSteps g_c x_662 d hr_x_662 hr_d hC_g_c) lk_RX12_345 ⟨rfl, rfl⟩ ⟨Nat.le_of_ble_eq_true rfl, Nat.le_of_ble_eq_true rfl⟩ 12 rfl rfl rfl [0, 1] [2, 3] rfl rfl (by decide) rfl hl.1 rfl (lv_room (Nat.le_of_ble_eq_true rfl)) dX12_triedWorth_28 ⟨Nat.le_of_ble_eq_true rfl, Nat.le_of_ble_eq_true rfl⟩ (fun r_663 u_664 H locs hw hP hD hS => ?_)
        obtain ⟨he_r_663, hw⟩ := hw
        rcases hw with ⟨rfl, hf_665⟩ | ⟨rfl, hf_666⟩
        · skip
          refine lv_istore (lv' := [(7, .int 0), (0, .ref h0), (1, .int pp), (2, .int 3), (3, .int d), (4, .long v_614), (6, .int v_615)]) hx hb dX12_triedWorth_31 hl (by decide) rfl (fun ls hl => ?_)
          refine lv_lload hx hb dX12_triedWorth_33 (lv_at hl 5 rfl) ?_
          refine lv_iload hx hb dX12_triedWorth_35 (lv_at hl 0 rfl) ?_
          refine lv_if_eq (tgt := 55) hx hb dX12_triedWorth_37 (by decide) (fun _ => ?_) (fun h9 => absurd (by decide +kernel) h9)
          refine lv_lconst (v := 0) hx hb dX12_triedWorth_55 (by decide) ?_
          refine lv_ladd hx hb dX12_triedWorth_56 ?_
          have hL_v_614 := z_fulll v_614
          refine lv_topl (fun x_667 he_x_667 => ?_)
          have hq_x_667 := z_addql he_x_667 (rfl : v_614.toInt = _) hkl_0 (by omega) (by omega)
          refine lv_lstore (lv' := [(4, .long x_667), (7, .int 0), (0, .ref h0), (1, .int pp), (2, .int 3), (3, .int d), (6, .int v_615)]) hx hb dX12_triedWorth_57 hl (by decide) rfl (fun ls hl => ?_)
          refine lv_aload_n hx hb dX12_triedWorth_59 rfl (lv_at hl 2 rfl) ?_
          refine va_get (D := G) (ci := 12) (v := .ref a_weights) (C := RX12) (T := TX12) (N := 65) hx hb hts inT12 hown hK hP 2 rfl rfl 35 (by decide) (hts _ tw_1919) (fun _ h9 => h9) rfl dX12_triedWorth_60 ?_
          refine lv_bipush (v := 20) hx hb dX12_triedWorth_63 (by decide) ?_
          refine lv_iload_n hx hb dX12_triedWorth_65 rfl (lv_at hl 3 rfl) ?_
          refine lv_imul hx hb dX12_triedWorth_66 ?_
          refine lv_topi (fun x_668 he_x_668 => ?_)
          have hq_x_668 := z_mulq he_x_668 hk_20 (rfl : pp.toInt = _) (by omega) (by omega)
          refine lv_bipush (v := 20) hx hb dX12_triedWorth_67 (by decide) ?_
          refine lv_iadd hx hb dX12_triedWorth_69 ?_
          refine lv_topi (fun x_669 he_x_669 => ?_)
          have hq_x_669 := z_addq he_x_669 (rfl : x_668.toInt = _) hk_20 (by omega) (by omega)
          refine lv_iload hx hb dX12_triedWorth_70 (lv_at hl 6 rfl) ?_
          refine lv_iadd hx hb dX12_triedWorth_72 ?_
          refine lv_topi (fun x_670 he_x_670 => ?_)
          have hq_x_670 := z_addq he_x_670 (rfl : x_669.toInt = _) (rfl : v_615.toInt = _) (by omega) (by omega)
          refine lv_iload hx hb dX12_triedWorth_73 (lv_at hl 1 rfl) ?_
          refine lv_if_eq (tgt := 82) hx hb dX12_triedWorth_75 (by decide) (fun _ => ?_) (fun h9 => absurd (by decide +kernel) h9)
          refine lv_aload_n hx hb dX12_triedWorth_82 rfl (lv_at hl 2 rfl) ?_
          refine va_get (D := G) (ci := 12) (v := .ref a_weights) (C := RX12) (T := TX12) (N := 65) hx hb hts inT12 hown hK hP 2 rfl rfl 35 (by decide) (hts _ tw_1919) (fun _ h9 => h9) rfl dX12_triedWorth_83 ?_
          refine lv_bipush (v := 20) hx hb dX12_triedWorth_86 (by decide) ?_
          refine lv_iload_n hx hb dX12_triedWorth_88 rfl (lv_at hl 3 rfl) ?_
          refine lv_imul hx hb dX12_triedWorth_89 ?_
          refine lv_topi (fun x_671 he_x_671 => ?_)
          have hq_x_671 := z_mulq he_x_671 hk_20 (rfl : pp.toInt = _) (by omega) (by omega)
          refine lv_iload hx hb dX12_triedWorth_90 (lv_at hl 6 rfl) ?_
          refine lv_iadd hx hb dX12_triedWorth_92 ?_
          refine lv_topi (fun x_672 he_x_672 => ?_)
          have hq_x_672 := z_addq he_x_672 (rfl : x_671.toInt = _) (rfl : v_615.toInt = _) (by omega) (by omega)
          refine va_lald hx hb hK hP 1 1 rfl rfl (z_inN (by omega) (by omega)) dX12_triedWorth_93 ?_
          refine lv_topl (fun x_673 he_x_673 => ?_)
          refine z_last hx hb hK hP hD hS 1 1 rfl rfl (z_inN (by omega) (by omega)) dX12_triedWorth_94 (fun g_674 hg_g_674 H locs hP hD hS => ?_)
          obtain ⟨x_675, he_x_675⟩ : ∃ z : Int32, z = v_615 + 1 := ⟨_, rfl⟩
          have hq_x_675 := z_addq he_x_675 (rfl : v_615.toInt = _) hk_1 (by omega) (by omega)
          refine lv_iinc (v := x_675) (lv' := [(6, .int x_675), (4, .long x_667), (7, .int 0), (0, .ref h0), (1, .int pp), (2, .int 3), (3, .int d)]) hx hb dX12_triedWorth_95 hl (k := 6) rfl ((z_ofi (by decide +kernel)).trans he_x_675.symm) (by decide) rfl (fun ls hl => ?_)
          refine lv_goto (tgt := 6) hx hb dX12_triedWorth_98 (by decide) ?_
          have hP := hP.sub (ws' := [(h0, .inr (12, [.int m_status, .int m_thrown, .long m_above, .long m_under, .ref a_traySort, .ref a_trayMany, .ref a_numbers, .ref a_tape, .int m_taped, .int m_textEnd, .int m_faultKind, .int m_faultAt, .int m_bad, .int m_badAt, .int m_token, .int m_at, .int m_behind, .int m_number, .int m_letters, .long m_word, .ref a_c, .ref a_words, .int m_markMany, .ref a_there, .ref a_tried, .ref a_best, .ref a_found, .int m_thereMany, .int m_foundMany, .int m_orderHow, .int m_orderRing, .int m_orderMany, .int m_hasBest, .long m_bestTop, .long m_bestBy, .ref a_weights, .ref a_shared, .int m_random, .int m_truePlace, .int m_trueWay, .int m_seconds, .int m_done, .int m_feelings, .int m_tries, .int m_leftOver, .int m_playDoor, .int m_playRing, .int m_isOpen, .int m_isOver, .int m_wasTried, .int m_hasPlayed, .ref a_feltNow, .ref a_last, .ref a_kept, .int m_hasSeconds, .int m_hasTurned, .int m_hasRound, .ref a_hasFeels, .ref a_isOn, .int m_firstAct, .long m_meanTop, .long m_meanBy, .ref a_order, .int m_rowMany, .int m_newSteps])), (a_c, .inl (cA.1 0, 1825, .inl g_c)), (a_there, .inl (cA.1 0, 10, .inl g_there)), (a_weights, .inl (cA.1 1, 100, .inr (.inl g_674)))]) [2, 3, 0, 1] rfl
          have hD := hD.sub (ws' := [(h0, .inr (12, [.int m_status, .int m_thrown, .long m_above, .long m_under, .ref a_traySort, .ref a_trayMany, .ref a_numbers, .ref a_tape, .int m_taped, .int m_textEnd, .int m_faultKind, .int m_faultAt, .int m_bad, .int m_badAt, .int m_token, .int m_at, .int m_behind, .int m_number, .int m_letters, .long m_word, .ref a_c, .ref a_words, .int m_markMany, .ref a_there, .ref a_tried, .ref a_best, .ref a_found, .int m_thereMany, .int m_foundMany, .int m_orderHow, .int m_orderRing, .int m_orderMany, .int m_hasBest, .long m_bestTop, .long m_bestBy, .ref a_weights, .ref a_shared, .int m_random, .int m_truePlace, .int m_trueWay, .int m_seconds, .int m_done, .int m_feelings, .int m_tries, .int m_leftOver, .int m_playDoor, .int m_playRing, .int m_isOpen, .int m_isOver, .int m_wasTried, .int m_hasPlayed, .ref a_feltNow, .ref a_last, .ref a_kept, .int m_hasSeconds, .int m_hasTurned, .int m_hasRound, .ref a_hasFeels, .ref a_isOn, .int m_firstAct, .long m_meanTop, .long m_meanBy, .ref a_order, .int m_rowMany, .int m_newSteps])), (a_c, .inl (cA.1 0, 1825, .inl g_c)), (a_there, .inl (cA.1 0, 10, .inl g_there)), (a_weights, .inl (cA.1 1, 100, .inr (.inl g_674)))]) [2, 3, 0, 1] (by decide) rfl
          exact ih_646 x_667 x_675 g_674 H locs ls (by omega) (by omega) hP hD hS (lv_sub hl [3, 4, 5, 6, 1, 0] rfl)
        · skip
          refine lv_istore (lv' := [(7, .int 1), (0, .ref h0), (1, .int pp), (2, .int 3), (3, .int d), (4, .long v_614), (6, .int v_615)]) hx hb dX12_triedWorth_31 hl (by decide) rfl (fun ls hl => ?_)
          refine lv_lload hx hb dX12_triedWorth_33 (lv_at hl 5 rfl) ?_
          refine lv_iload hx hb dX12_triedWorth_35 (lv_at hl 0 rfl) ?_
          refine lv_if_eq (tgt := 55) hx hb dX12_triedWorth_37 (by decide) (fun h9 => absurd h9 (by decide +kernel)) (fun _ => ?_)
          refine lv_aload_n hx hb dX12_triedWorth_40 rfl (lv_at hl 1 rfl) ?_
          refine va_get (D := G) (ci := 12) (v := .ref a_weights) (C := RX12) (T := TX12) (N := 65) hx hb hts inT12 hown hK hP 2 rfl rfl 35 (by decide) (hts _ tw_1919) (fun _ h9 => h9) rfl dX12_triedWorth_41 ?_
          refine lv_bipush (v := 20) hx hb dX12_triedWorth_44 (by decide) ?_
          refine lv_iload_n hx hb dX12_triedWorth_46 rfl (lv_at hl 2 rfl) ?_
          refine lv_imul hx hb dX12_triedWorth_47 ?_
          refine lv_topi (fun x_676 he_x_676 => ?_)
          have hq_x_676 := z_mulq he_x_676 hk_20 (rfl : pp.toInt = _) (by omega) (by omega)
          refine lv_iload hx hb dX12_triedWorth_48 (lv_at hl 6 rfl) ?_
          refine lv_iadd hx hb dX12_triedWorth_50 ?_
          refine lv_topi (fun x_677 he_x_677 => ?_)
          have hq_x_677 := z_addq he_x_677 (rfl : x_676.toInt = _) (rfl : v_615.toInt = _) (by omega) (by omega)
          refine va_lald hx hb hK hP 1 1 rfl rfl (z_inN (by omega) (by omega)) dX12_triedWorth_51 ?_
          refine lv_topl (fun x_678 he_x_678 => ?_)
          refine lv_goto (tgt := 56) hx hb dX12_triedWorth_52 (by decide) ?_
          refine lv_ladd hx hb dX12_triedWorth_56 ?_
          have hL_v_614 := z_fulll v_614
          have hL_x_678 := z_fulll x_678
          refine lv_topl (fun x_679 he_x_679 => ?_)
          refine lv_lstore (lv' := [(4, .long x_679), (7, .int 1), (0, .ref h0), (1, .int pp), (2, .int 3), (3, .int d), (6, .int v_615)]) hx hb dX12_triedWorth_57 hl (by decide) rfl (fun ls hl => ?_)
          refine lv_aload_n hx hb dX12_triedWorth_59 rfl (lv_at hl 2 rfl) ?_
          refine va_get (D := G) (ci := 12) (v := .ref a_weights) (C := RX12) (T := TX12) (N := 65) hx hb hts inT12 hown hK hP 2 rfl rfl 35 (by decide) (hts _ tw_1919) (fun _ h9 => h9) rfl dX12_triedWorth_60 ?_
          refine lv_bipush (v := 20) hx hb dX12_triedWorth_63 (by decide) ?_
          refine lv_iload_n hx hb dX12_triedWorth_65 rfl (lv_at hl 3 rfl) ?_
          refine lv_imul hx hb dX12_triedWorth_66 ?_
          refine lv_topi (fun x_680 he_x_680 => ?_)
          have hq_x_680 := z_mulq he_x_680 hk_20 (rfl : pp.toInt = _) (by omega) (by omega)
          refine lv_bipush (v := 20) hx hb dX12_triedWorth_67 (by decide) ?_
          refine lv_iadd hx hb dX12_triedWorth_69 ?_
          refine lv_topi (fun x_681 he_x_681 => ?_)
          have hq_x_681 := z_addq he_x_681 (rfl : x_680.toInt = _) hk_20 (by omega) (by omega)
          refine lv_iload hx hb dX12_triedWorth_70 (lv_at hl 6 rfl) ?_
          refine lv_iadd hx hb dX12_triedWorth_72 ?_
          refine lv_topi (fun x_682 he_x_682 => ?_)
          have hq_x_682 := z_addq he_x_682 (rfl : x_681.toInt = _) (rfl : v_615.toInt = _) (by omega) (by omega)
          refine lv_iload hx hb dX12_triedWorth_73 (lv_at hl 1 rfl) ?_
          refine lv_if_eq (tgt := 82) hx hb dX12_triedWorth_75 (by decide) (fun h9 => absurd h9 (by decide +kernel)) (fun _ => ?_)
          refine lv_lconst (v := 0) hx hb dX12_triedWorth_78 (by decide) ?_
          refine lv_goto (tgt := 94) hx hb dX12_triedWorth_79 (by decide) ?_
          refine z_last hx hb hK hP hD hS 1 1 rfl rfl (z_inN (by omega) (by omega)) dX12_triedWorth_94 (fun g_683 hg_g_683 H locs hP hD hS => ?_)
          obtain ⟨x_684, he_x_684⟩ : ∃ z : Int32, z = v_615 + 1 := ⟨_, rfl⟩
          have hq_x_684 := z_addq he_x_684 (rfl : v_615.toInt = _) hk_1 (by omega) (by omega)
          refine lv_iinc (v := x_684) (lv' := [(6, .int x_684), (4, .long x_679), (7, .int 1), (0, .ref h0), (1, .int pp), (2, .int 3), (3, .int d)]) hx hb dX12_triedWorth_95 hl (k := 6) rfl ((z_ofi (by decide +kernel)).trans he_x_684.symm) (by decide) rfl (fun ls hl => ?_)
          refine lv_goto (tgt := 6) hx hb dX12_triedWorth_98 (by decide) ?_
          have hP := hP.sub (ws' := [(h0, .inr (12, [.int m_status, .int m_thrown, .long m_above, .long m_under, .ref a_traySort, .ref a_trayMany, .ref a_numbers, .ref a_tape, .int m_taped, .int m_textEnd, .int m_faultKind, .int m_faultAt, .int m_bad, .int m_badAt, .int m_token, .int m_at, .int m_behind, .int m_number, .int m_letters, .long m_word, .ref a_c, .ref a_words, .int m_markMany, .ref a_there, .ref a_tried, .ref a_best, .ref a_found, .int m_thereMany, .int m_foundMany, .int m_orderHow, .int m_orderRing, .int m_orderMany, .int m_hasBest, .long m_bestTop, .long m_bestBy, .ref a_weights, .ref a_shared, .int m_random, .int m_truePlace, .int m_trueWay, .int m_seconds, .int m_done, .int m_feelings, .int m_tries, .int m_leftOver, .int m_playDoor, .int m_playRing, .int m_isOpen, .int m_isOver, .int m_wasTried, .int m_hasPlayed, .ref a_feltNow, .ref a_last, .ref a_kept, .int m_hasSeconds, .int m_hasTurned, .int m_hasRound, .ref a_hasFeels, .ref a_isOn, .int m_firstAct, .long m_meanTop, .long m_meanBy, .ref a_order, .int m_rowMany, .int m_newSteps])), (a_c, .inl (cA.1 0, 1825, .inl g_c)), (a_there, .inl (cA.1 0, 10, .inl g_there)), (a_weights, .inl (cA.1 1, 100, .inr (.inl g_683)))]) [2, 3, 0, 1] rfl
          have hD := hD.sub (ws' := [(h0, .inr (12, [.int m_status, .int m_thrown, .long m_above, .long m_under, .ref a_traySort, .ref a_trayMany, .ref a_numbers, .ref a_tape, .int m_taped, .int m_textEnd, .int m_faultKind, .int m_faultAt, .int m_bad, .int m_badAt, .int m_token, .int m_at, .int m_behind, .int m_number, .int m_letters, .long m_word, .ref a_c, .ref a_words, .int m_markMany, .ref a_there, .ref a_tried, .ref a_best, .ref a_found, .int m_thereMany, .int m_foundMany, .int m_orderHow, .int m_orderRing, .int m_orderMany, .int m_hasBest, .long m_bestTop, .long m_bestBy, .ref a_weights, .ref a_shared, .int m_random, .int m_truePlace, .int m_trueWay, .int m_seconds, .int m_done, .int m_feelings, .int m_tries, .int m_leftOver, .int m_playDoor, .int m_playRing, .int m_isOpen, .int m_isOver, .int m_wasTried, .int m_hasPlayed, .ref a_feltNow, .ref a_last, .ref a_kept, .int m_hasSeconds, .int m_hasTurned, .int m_hasRound, .ref a_hasFeels, .ref a_isOn, .int m_firstAct, .long m_meanTop, .long m_meanBy, .ref a_order, .int m_rowMany, .int m_newSteps])), (a_c, .inl (cA.1 0, 1825, .inl g_c)), (a_there, .inl (cA.1 0, 10, .inl g_there)), (a_weights, .inl (cA.1 1, 100, .inr (.inl g_683)))]) [2, 3, 0, 1] (by decide) rfl
          exact ih_646 x_679 x_684 g_683 H locs ls (by omega) (by omega) hP hD hS (lv_sub hl [3, 4, 5, 6, 1, 0] rfl)
  exact hlp_645 _ 0 0 g_weights _ _ _ (Nat.lt_succ_self _) (by decide +kernel) hP hD hS (lv_sub hl [2, 3, 4, 5, 1, 0] rfl)
set_option maxHeartbeats 4000000 in
set_option maxRecDepth 100000 in
theorem r_goneWorth_3 (l : Launch) (G : va_G) (cA : zCA) (h0 : Nat) (m_status : Int32) (m_thrown : Int32) (m_above : Int64) (m_under : Int64) (a_traySort : Nat) (a_trayMany : Nat) (a_numbers : Nat) (a_tape : Nat) (m_taped : Int32) (m_textEnd : Int32) (m_faultKind : Int32) (m_faultAt : Int32) (m_bad : Int32) (m_badAt : Int32) (m_token : Int32) (m_at : Int32) (m_behind : Int32) (m_number : Int32) (m_letters : Int32) (m_word : Int64) (a_c : Nat) (a_words : Nat) (m_markMany : Int32) (a_there : Nat) (a_tried : Nat) (a_best : Nat) (a_found : Nat) (m_thereMany : Int32) (m_foundMany : Int32) (m_orderHow : Int32) (m_orderRing : Int32) (m_orderMany : Int32) (m_hasBest : Int32) (m_bestTop : Int64) (m_bestBy : Int64) (a_weights : Nat) (a_shared : Nat) (m_random : Int32) (m_truePlace : Int32) (m_trueWay : Int32) (m_seconds : Int32) (m_done : Int32) (m_feelings : Int32) (m_tries : Int32) (m_leftOver : Int32) (m_playDoor : Int32) (m_playRing : Int32) (m_isOpen : Int32) (m_isOver : Int32) (m_wasTried : Int32) (m_hasPlayed : Int32) (a_feltNow : Nat) (a_last : Nat) (a_kept : Nat) (m_hasSeconds : Int32) (m_hasTurned : Int32) (m_hasRound : Int32) (a_hasFeels : Nat) (a_isOn : Nat) (m_firstAct : Int32) (m_meanTop : Int64) (m_meanBy : Int64) (a_order : Nat) (m_rowMany : Int32) (m_newSteps : Int32) (g_c : Nat → Int32) (g_there : Nat → Int32) (g_weights : Nat → Int64) (pp : Int32) (d : Int32) (hr_pp : 0 ≤ pp.toInt ∧ pp.toInt ≤ 1) (hr_d : 0 ≤ d.toInt ∧ d.toInt ≤ 4) (hr_m_thereMany : 0 ≤ m_thereMany.toInt ∧ m_thereMany.toInt ≤ 10) (hC_g_c : zC g_c) (hC_g_there : zRg 10 0 9 g_there) : zCl l yX12_goneWorth cX12_goneWorth 5 (some .long) ({ frames := 6, cells := 0, slots := 0, locals := 162 }) G cA [.ref h0, .int pp, .int 3, .int d] [(h0, .inr (12, [.int m_status, .int m_thrown, .long m_above, .long m_under, .ref a_traySort, .ref a_trayMany, .ref a_numbers, .ref a_tape, .int m_taped, .int m_textEnd, .int m_faultKind, .int m_faultAt, .int m_bad, .int m_badAt, .int m_token, .int m_at, .int m_behind, .int m_number, .int m_letters, .long m_word, .ref a_c, .ref a_words, .int m_markMany, .ref a_there, .ref a_tried, .ref a_best, .ref a_found, .int m_thereMany, .int m_foundMany, .int m_orderHow, .int m_orderRing, .int m_orderMany, .int m_hasBest, .long m_bestTop, .long m_bestBy, .ref a_weights, .ref a_shared, .int m_random, .int m_truePlace, .int m_trueWay, .int m_seconds, .int m_done, .int m_feelings, .int m_tries, .int m_leftOver, .int m_playDoor, .int m_playRing, .int m_isOpen, .int m_isOver, .int m_wasTried, .int m_hasPlayed, .ref a_feltNow, .ref a_last, .ref a_kept, .int m_hasSeconds, .int m_hasTurned, .int m_hasRound, .ref a_hasFeels, .ref a_isOn, .int m_firstAct, .long m_meanTop, .long m_meanBy, .ref a_order, .int m_rowMany, .int m_newSteps])), (a_c, .inl (cA.1 0, 1825, .inl g_c)), (a_there, .inl (cA.1 0, 10, .inl g_there)), (a_weights, .inl (cA.1 1, 100, .inr (.inl g_weights)))] (S := Int32 × (Nat → Int64)) (fun (r : Int64) (u : Int32 × (Nat → Int64)) => True) (fun (u : Int32 × (Nat → Int64)) => [(h0, .inr (12, [.int m_status, .int m_thrown, .long m_above, .long m_under, .ref a_traySort, .ref a_trayMany, .ref a_numbers, .ref a_tape, .int m_taped, .int m_textEnd, .int m_faultKind, .int m_faultAt, .int m_bad, .int m_badAt, .int m_token, .int m_at, .int m_behind, .int m_number, .int m_letters, .long m_word, .ref a_c, .ref a_words, .int m_markMany, .ref a_there, .ref a_tried, .ref a_best, .ref a_found, .int m_thereMany, .int m_foundMany, .int m_orderHow, .int m_orderRing, .int m_orderMany, .int m_hasBest, .long m_bestTop, .long m_bestBy, .ref a_weights, .ref a_shared, .int m_random, .int m_truePlace, .int m_trueWay, .int m_seconds, .int m_done, .int m_feelings, .int m_tries, .int m_leftOver, .int m_playDoor, .int m_playRing, .int m_isOpen, .int m_isOver, .int m_wasTried, .int m_hasPlayed, .ref a_feltNow, .ref a_last, .ref a_kept, .int m_hasSeconds, .int m_hasTurned, .int m_hasRound, .ref a_hasFeels, .ref a_isOn, .int u.1, .long m_meanTop, .long m_meanBy, .ref a_order, .int m_rowMany, .int m_newSteps])), (a_c, .inl (cA.1 0, 1825, .inl g_c)), (a_there, .inl (cA.1 0, 10, .inl g_there)), (a_weights, .inl (cA.1 1, 100, .inr (.inl u.2)))]) 0 0 := by
  have hk_0 : (0 : Int32).toInt = 0 := by decide +kernel
  have hk_1 : (1 : Int32).toInt = 1 := by decide +kernel
  have hk_2 : (2 : Int32).toInt = 2 := by decide +kernel
  have hk_20 : (20 : Int32).toInt = 20 := by decide +kernel
  refine z_start2l (own := RX12) (by decide) (Nat.le_of_ble_eq_true rfl) rfl ?_
  intro p e s m args below meth c A ls Q hx hb hml hts hown hK hE hT hP hD hS hA hl hret
  have hl : lv_has ls 5 [(0, .ref h0), (1, .int pp), (2, .int 3), (3, .int d)] := hl
  refine lv_iconst (v := 0) hx hb dX12_goneWorth_0 (by decide) ?_
  refine lv_istore (lv' := [(4, .int 0), (0, .ref h0), (1, .int pp), (2, .int 3), (3, .int d)]) hx hb dX12_goneWorth_1 hl (by decide) rfl (fun ls hl => ?_)
  have hlp_355 : ∀ (n : Nat) (v_338 : Int32) (g_339 : Nat → Int64) (H : Heap) (locs : List Loc) (ls : Array Slot), (2147483647 - v_338.toInt).toNat < n → (0 ≤ v_338.toInt ∧ v_338.toInt ≤ 20) → va_P G vwCl [(h0, .inr (12, [.int m_status, .int m_thrown, .long m_above, .long m_under, .ref a_traySort, .ref a_trayMany, .ref a_numbers, .ref a_tape, .int m_taped, .int m_textEnd, .int m_faultKind, .int m_faultAt, .int m_bad, .int m_badAt, .int m_token, .int m_at, .int m_behind, .int m_number, .int m_letters, .long m_word, .ref a_c, .ref a_words, .int m_markMany, .ref a_there, .ref a_tried, .ref a_best, .ref a_found, .int m_thereMany, .int m_foundMany, .int m_orderHow, .int m_orderRing, .int m_orderMany, .int m_hasBest, .long m_bestTop, .long m_bestBy, .ref a_weights, .ref a_shared, .int m_random, .int m_truePlace, .int m_trueWay, .int m_seconds, .int m_done, .int m_feelings, .int m_tries, .int m_leftOver, .int m_playDoor, .int m_playRing, .int m_isOpen, .int m_isOver, .int m_wasTried, .int m_hasPlayed, .ref a_feltNow, .ref a_last, .ref a_kept, .int m_hasSeconds, .int m_hasTurned, .int m_hasRound, .ref a_hasFeels, .ref a_isOn, .int m_firstAct, .long m_meanTop, .long m_meanBy, .ref a_order, .int m_rowMany, .int m_newSteps])), (a_c, .inl (cA.1 0, 1825, .inl g_c)), (a_there, .inl (cA.1 0, 10, .inl g_there)), (a_weights, .inl (cA.1 1, 100, .inr (.inl g_339)))] H → va_D A [(h0, .inr (12, [.int m_status, .int m_thrown, .long m_above, .long m_under, .ref a_traySort, .ref a_trayMany, .ref a_numbers, .ref a_tape, .int m_taped, .int m_textEnd, .int m_faultKind, .int m_faultAt, .int m_bad, .int m_badAt, .int m_token, .int m_at, .int m_behind, .int m_number, .int m_letters, .long m_word, .ref a_c, .ref a_words, .int m_markMany, .ref a_there, .ref a_tried, .ref a_best, .ref a_found, .int m_thereMany, .int m_foundMany, .int m_orderHow, .int m_orderRing, .int m_orderMany, .int m_hasBest, .long m_bestTop, .long m_bestBy, .ref a_weights, .ref a_shared, .int m_random, .int m_truePlace, .int m_trueWay, .int m_seconds, .int m_done, .int m_feelings, .int m_tries, .int m_leftOver, .int m_playDoor, .int m_playRing, .int m_isOpen, .int m_isOver, .int m_wasTried, .int m_hasPlayed, .ref a_feltNow, .ref a_last, .ref a_kept, .int m_hasSeconds, .int m_hasTurned, .int m_hasRound, .ref a_hasFeels, .ref a_isOn, .int m_firstAct, .long m_meanTop, .long m_meanBy, .ref a_order, .int m_rowMany, .int m_newSteps])), (a_c, .inl (cA.1 0, 1825, .inl g_c)), (a_there, .inl (cA.1 0, 10, .inl g_there)), (a_weights, .inl (cA.1 1, 100, .inr (.inl g_339)))] → va_S A s.heap H locs → lv_has ls 5 [(0, .ref h0), (1, .int pp), (2, .int 3), (3, .int d), (4, .int v_338)] → W p l e ({ frames := 6, cells := 0, slots := 0, locals := 162 }) s m args below meth c H locs 0 0 Q (F0 m 3 ls []) := by
    intro n
    induction n with
    | zero =>
      intro v_338 g_339 H locs ls hmu_hlp_355 hr_v_338 hP hD hS hl
      exact absurd hmu_hlp_355 (Nat.not_lt_zero _)
    | succ n ih_356 =>
      intro v_338 g_339 H locs ls hmu_hlp_355 hr_v_338 hP hD hS hl
      refine lv_iload hx hb dX12_goneWorth_3 (lv_at hl 4 rfl) ?_
      refine lv_iconst (v := 2) hx hb dX12_goneWorth_5 (by decide) ?_
      refine lv_aload_n hx hb dX12_goneWorth_6 rfl (lv_at hl 0 rfl) ?_
      refine va_get (D := G) (ci := 12) (v := .int m_thereMany) (C := RX12) (T := TX12) (N := 65) hx hb hts inT12 hown hK hP 0 rfl rfl 27 (by decide) (hts _ tw_1912) (fun _ h9 => h9) rfl dX12_goneWorth_7 ?_
      refine lv_imul hx hb dX12_goneWorth_10 ?_
      refine lv_topi (fun x_357 he_x_357 => ?_)
      have hq_x_357 := z_mulq he_x_357 hk_2 (rfl : m_thereMany.toInt = _) (by omega) (by omega)
      refine lv_icmp_ge (tgt := 51) hx hb dX12_goneWorth_11 (by decide) (fun c_358 => ?_) (fun c_358 => ?_)
      · have b_359 := z_fgeT c_358
        refine lv_ldc2 (v := 16) hx hb hown (hts _ tw_2470) dX12_goneWorth_51 ?_
        refine lv_aload_n hx hb dX12_goneWorth_54 rfl (lv_at hl 0 rfl) ?_
        refine lv_iload_n hx hb dX12_goneWorth_55 rfl (lv_at hl 1 rfl) ?_
        refine lv_iconst (v := 1) hx hb dX12_goneWorth_56 (by decide) ?_
        refine lv_iadd hx hb dX12_goneWorth_57 ?_
        refine lv_topi (fun x_360 he_x_360 => ?_)
        have hq_x_360 := z_addq he_x_360 (rfl : pp.toInt = _) hk_1 (by omega) (by omega)
        refine lv_iload_n hx hb dX12_goneWorth_58 rfl (lv_at hl 2 rfl) ?_
        refine lv_iconst (v := 1) hx hb dX12_goneWorth_59 (by decide) ?_
        refine lv_isub hx hb dX12_goneWorth_60 ?_
        refine z_topi (y := 2) (by decide +kernel) ?_
        refine lv_iload_n hx hb dX12_goneWorth_61 rfl (lv_at hl 3 rfl) ?_
        refine z_callVl (As := [.int x_360, .int 2, .int d]) (rest := [.long 16]) (wr := []) ⟨hx, hb, hml, hown, hts⟩ hK hE hT hP hD hS hA (r_worthOf_2 l G cA h0 m_status m_thrown m_above m_under a_traySort a_trayMany a_numbers a_tape m_taped m_textEnd m_faultKind m_faultAt m_bad m_badAt m_token m_at m_behind m_number m_letters m_word a_c a_words m_markMany a_there a_tried a_best a_found m_thereMany m_foundMany m_orderHow m_orderRing m_orderMany m_hasBest m_bestTop m_bestBy a_weights a_shared m_random m_truePlace m_trueWay m_seconds m_done m_feelings m_tries m_leftOver m_playDoor m_playRing m_isOpen m_isOver m_wasTried m_hasPlayed a_feltNow a_last a_kept m_hasSeconds m_hasTurned m_hasRound a_hasFeels a_isOn m_firstAct m_meanTop m_meanBy a_order m_rowMany m_newSteps g_c g_there g_339 x_360 d (by omega) hr_d hr_m_thereMany hC_g_c hC_g_there) lk_RX12_379 ⟨rfl, rfl⟩ ⟨Nat.le_of_ble_eq_true rfl, Nat.le_of_ble_eq_true rfl⟩ 12 rfl rfl rfl [0, 1, 2, 3] [] rfl rfl (by decide) rfl hl.1 rfl (lv_room (Nat.le_of_ble_eq_true rfl)) dX12_goneWorth_62 ⟨Nat.le_of_ble_eq_true rfl, Nat.le_of_ble_eq_true rfl⟩ (fun r_363 u_364 H locs hw hP hD hS => ?_)
        obtain ⟨n_361, n_362⟩ := u_364
        try dsimp only at hw
        refine lv_lmul hx hb dX12_goneWorth_65 ?_
        have hL_r_363 := z_fulll r_363
        refine lv_topl (fun x_365 he_x_365 => ?_)
        exact hret _ _ _ _ _ _ (n_361, n_362) [0, 1, 2, 3] hP hD hS rfl (by decide) dX12_goneWorth_66 trivial
      · have b_366 := z_fltF c_358
        refine lv_aload_n hx hb dX12_goneWorth_14 rfl (lv_at hl 0 rfl) ?_
        refine va_get (D := G) (ci := 12) (v := .ref a_weights) (C := RX12) (T := TX12) (N := 65) hx hb hts inT12 hown hK hP 0 rfl rfl 35 (by decide) (hts _ tw_1919) (fun _ h9 => h9) rfl dX12_goneWorth_15 ?_
        refine lv_bipush (v := 20) hx hb dX12_goneWorth_18 (by decide) ?_
        refine lv_iload_n hx hb dX12_goneWorth_20 rfl (lv_at hl 1 rfl) ?_
        refine lv_imul hx hb dX12_goneWorth_21 ?_
        refine lv_topi (fun x_367 he_x_367 => ?_)
        have hq_x_367 := z_mulq he_x_367 hk_20 (rfl : pp.toInt = _) (by omega) (by omega)
        refine lv_bipush (v := 20) hx hb dX12_goneWorth_22 (by decide) ?_
        refine lv_iadd hx hb dX12_goneWorth_24 ?_
        refine lv_topi (fun x_368 he_x_368 => ?_)
        have hq_x_368 := z_addq he_x_368 (rfl : x_367.toInt = _) hk_20 (by omega) (by omega)
        refine lv_aload_n hx hb dX12_goneWorth_25 rfl (lv_at hl 0 rfl) ?_
        refine lv_iload hx hb dX12_goneWorth_26 (lv_at hl 4 rfl) ?_
        refine z_callVi (As := [.int v_338]) (rest := [.int x_368, .ref a_weights]) (wr := [(a_c, .inl (cA.1 0, 1825, .inl g_c)), (a_there, .inl (cA.1 0, 10, .inl g_there)), (a_weights, .inl (cA.1 1, 100, .inr (.inl g_339)))]) ⟨hx, hb, hml, hown, hts⟩ hK hE hT hP hD hS hA (r_onward l G cA h0 m_status m_thrown m_above m_under a_traySort a_trayMany a_numbers a_tape m_taped m_textEnd m_faultKind m_faultAt m_bad m_badAt m_token m_at m_behind m_number m_letters m_word a_c a_words m_markMany a_there a_tried a_best a_found m_thereMany m_foundMany m_orderHow m_orderRing m_orderMany m_hasBest m_bestTop m_bestBy a_weights a_shared m_random m_truePlace m_trueWay m_seconds m_done m_feelings m_tries m_leftOver m_playDoor m_playRing m_isOpen m_isOver m_wasTried m_hasPlayed a_feltNow a_last a_kept m_hasSeconds m_hasTurned m_hasRound a_hasFeels a_isOn m_firstAct m_meanTop m_meanBy a_order m_rowMany m_newSteps v_338 (by omega) (by omega) (by omega)) lk_RX12_336 ⟨rfl, rfl⟩ ⟨Nat.le_of_ble_eq_true rfl, Nat.le_of_ble_eq_true rfl⟩ 12 rfl rfl rfl [0] [1, 2, 3] rfl rfl (by decide) rfl hl.1 rfl (lv_room (Nat.le_of_ble_eq_true rfl)) dX12_goneWorth_28 ⟨Nat.le_of_ble_eq_true rfl, Nat.le_of_ble_eq_true rfl⟩ (fun r_369 u_370 H locs hw hP hD hS => ?_)
        obtain ⟨hr_r_369, hf_371⟩ := hw
        refine lv_iadd hx hb dX12_goneWorth_31 ?_
        refine lv_topi (fun x_372 he_x_372 => ?_)
        have hq_x_372 := z_addq he_x_372 (rfl : x_368.toInt = _) (rfl : r_369.toInt = _) (by omega) (by omega)
        refine lv_aload_n hx hb dX12_goneWorth_32 rfl (lv_at hl 0 rfl) ?_
        refine va_get (D := G) (ci := 12) (v := .ref a_weights) (C := RX12) (T := TX12) (N := 65) hx hb hts inT12 hown hK hP 3 rfl rfl 35 (by decide) (hts _ tw_1919) (fun _ h9 => h9) rfl dX12_goneWorth_33 ?_
        refine lv_bipush (v := 20) hx hb dX12_goneWorth_36 (by decide) ?_
        refine lv_iload_n hx hb dX12_goneWorth_38 rfl (lv_at hl 1 rfl) ?_
        refine lv_imul hx hb dX12_goneWorth_39 ?_
        refine lv_topi (fun x_373 he_x_373 => ?_)
        have hq_x_373 := z_mulq he_x_373 hk_20 (rfl : pp.toInt = _) (by omega) (by omega)
        refine lv_iload hx hb dX12_goneWorth_40 (lv_at hl 4 rfl) ?_
        refine lv_iadd hx hb dX12_goneWorth_42 ?_
        refine lv_topi (fun x_374 he_x_374 => ?_)
        have hq_x_374 := z_addq he_x_374 (rfl : x_373.toInt = _) (rfl : v_338.toInt = _) (by omega) (by omega)
        refine va_lald hx hb hK hP 2 1 rfl rfl (z_inN (by omega) (by omega)) dX12_goneWorth_43 ?_
        refine lv_topl (fun x_375 he_x_375 => ?_)
        refine z_last hx hb hK hP hD hS 2 1 rfl rfl (z_inN (by omega) (by omega)) dX12_goneWorth_44 (fun g_376 hg_g_376 H locs hP hD hS => ?_)
        obtain ⟨x_377, he_x_377⟩ : ∃ z : Int32, z = v_338 + 1 := ⟨_, rfl⟩
        have hq_x_377 := z_addq he_x_377 (rfl : v_338.toInt = _) hk_1 (by omega) (by omega)
        refine lv_iinc (v := x_377) (lv' := [(4, .int x_377), (0, .ref h0), (1, .int pp), (2, .int 3), (3, .int d)]) hx hb dX12_goneWorth_45 hl (k := 4) rfl ((z_ofi (by decide +kernel)).trans he_x_377.symm) (by decide) rfl (fun ls hl => ?_)
        refine lv_goto (tgt := 3) hx hb dX12_goneWorth_48 (by decide) ?_
        have hP := hP.sub (ws' := [(h0, .inr (12, [.int m_status, .int m_thrown, .long m_above, .long m_under, .ref a_traySort, .ref a_trayMany, .ref a_numbers, .ref a_tape, .int m_taped, .int m_textEnd, .int m_faultKind, .int m_faultAt, .int m_bad, .int m_badAt, .int m_token, .int m_at, .int m_behind, .int m_number, .int m_letters, .long m_word, .ref a_c, .ref a_words, .int m_markMany, .ref a_there, .ref a_tried, .ref a_best, .ref a_found, .int m_thereMany, .int m_foundMany, .int m_orderHow, .int m_orderRing, .int m_orderMany, .int m_hasBest, .long m_bestTop, .long m_bestBy, .ref a_weights, .ref a_shared, .int m_random, .int m_truePlace, .int m_trueWay, .int m_seconds, .int m_done, .int m_feelings, .int m_tries, .int m_leftOver, .int m_playDoor, .int m_playRing, .int m_isOpen, .int m_isOver, .int m_wasTried, .int m_hasPlayed, .ref a_feltNow, .ref a_last, .ref a_kept, .int m_hasSeconds, .int m_hasTurned, .int m_hasRound, .ref a_hasFeels, .ref a_isOn, .int m_firstAct, .long m_meanTop, .long m_meanBy, .ref a_order, .int m_rowMany, .int m_newSteps])), (a_c, .inl (cA.1 0, 1825, .inl g_c)), (a_there, .inl (cA.1 0, 10, .inl g_there)), (a_weights, .inl (cA.1 1, 100, .inr (.inl g_376)))]) [3, 0, 1, 2] rfl
        have hD := hD.sub (ws' := [(h0, .inr (12, [.int m_status, .int m_thrown, .long m_above, .long m_under, .ref a_traySort, .ref a_trayMany, .ref a_numbers, .ref a_tape, .int m_taped, .int m_textEnd, .int m_faultKind, .int m_faultAt, .int m_bad, .int m_badAt, .int m_token, .int m_at, .int m_behind, .int m_number, .int m_letters, .long m_word, .ref a_c, .ref a_words, .int m_markMany, .ref a_there, .ref a_tried, .ref a_best, .ref a_found, .int m_thereMany, .int m_foundMany, .int m_orderHow, .int m_orderRing, .int m_orderMany, .int m_hasBest, .long m_bestTop, .long m_bestBy, .ref a_weights, .ref a_shared, .int m_random, .int m_truePlace, .int m_trueWay, .int m_seconds, .int m_done, .int m_feelings, .int m_tries, .int m_leftOver, .int m_playDoor, .int m_playRing, .int m_isOpen, .int m_isOver, .int m_wasTried, .int m_hasPlayed, .ref a_feltNow, .ref a_last, .ref a_kept, .int m_hasSeconds, .int m_hasTurned, .int m_hasRound, .ref a_hasFeels, .ref a_isOn, .int m_firstAct, .long m_meanTop, .long m_meanBy, .ref a_order, .int m_rowMany, .int m_newSteps])), (a_c, .inl (cA.1 0, 1825, .inl g_c)), (a_there, .inl (cA.1 0, 10, .inl g_there)), (a_weights, .inl (cA.1 1, 100, .inr (.inl g_376)))]) [3, 0, 1, 2] (by decide) rfl
        exact ih_356 x_377 g_376 H locs ls (by omega) (by omega) hP hD hS (lv_sub hl [1, 2, 3, 4, 0] rfl)
  exact hlp_355 _ 0 g_weights _ _ _ (Nat.lt_succ_self _) (by decide +kernel) hP hD hS (lv_sub hl [1, 2, 3, 4, 0] rfl)
set_option maxHeartbeats 4000000 in
set_option maxRecDepth 100000 in
theorem r_feltWorth_3 (l : Launch) (G : va_G) (cA : zCA) (h0 : Nat) (m_status : Int32) (m_thrown : Int32) (m_above : Int64) (m_under : Int64) (a_traySort : Nat) (a_trayMany : Nat) (a_numbers : Nat) (a_tape : Nat) (m_taped : Int32) (m_textEnd : Int32) (m_faultKind : Int32) (m_faultAt : Int32) (m_bad : Int32) (m_badAt : Int32) (m_token : Int32) (m_at : Int32) (m_behind : Int32) (m_number : Int32) (m_letters : Int32) (m_word : Int64) (a_c : Nat) (a_words : Nat) (m_markMany : Int32) (a_there : Nat) (a_tried : Nat) (a_best : Nat) (a_found : Nat) (m_thereMany : Int32) (m_foundMany : Int32) (m_orderHow : Int32) (m_orderRing : Int32) (m_orderMany : Int32) (m_hasBest : Int32) (m_bestTop : Int64) (m_bestBy : Int64) (a_weights : Nat) (a_shared : Nat) (m_random : Int32) (m_truePlace : Int32) (m_trueWay : Int32) (m_seconds : Int32) (m_done : Int32) (m_feelings : Int32) (m_tries : Int32) (m_leftOver : Int32) (m_playDoor : Int32) (m_playRing : Int32) (m_isOpen : Int32) (m_isOver : Int32) (m_wasTried : Int32) (m_hasPlayed : Int32) (a_feltNow : Nat) (a_last : Nat) (a_kept : Nat) (m_hasSeconds : Int32) (m_hasTurned : Int32) (m_hasRound : Int32) (a_hasFeels : Nat) (a_isOn : Nat) (m_firstAct : Int32) (m_meanTop : Int64) (m_meanBy : Int64) (a_order : Nat) (m_rowMany : Int32) (m_newSteps : Int32) (g_c : Nat → Int32) (g_there : Nat → Int32) (g_weights : Nat → Int64) (pp : Int32) (d : Int32) (f : Int32) (hr_pp : 0 ≤ pp.toInt ∧ pp.toInt ≤ 1) (hr_d : 0 ≤ d.toInt ∧ d.toInt ≤ 4) (hr_f : 0 ≤ f.toInt ∧ f.toInt ≤ 2) (hr_m_thereMany : 0 ≤ m_thereMany.toInt ∧ m_thereMany.toInt ≤ 10) (hC_g_c : zC g_c) (hC_g_there : zRg 10 0 9 g_there) : zCl l yX12_feltWorth cX12_feltWorth 9 (some .long) ({ frames := 6, cells := 0, slots := 0, locals := 162 }) G cA [.ref h0, .int pp, .int 3, .int d, .int f] [(h0, .inr (12, [.int m_status, .int m_thrown, .long m_above, .long m_under, .ref a_traySort, .ref a_trayMany, .ref a_numbers, .ref a_tape, .int m_taped, .int m_textEnd, .int m_faultKind, .int m_faultAt, .int m_bad, .int m_badAt, .int m_token, .int m_at, .int m_behind, .int m_number, .int m_letters, .long m_word, .ref a_c, .ref a_words, .int m_markMany, .ref a_there, .ref a_tried, .ref a_best, .ref a_found, .int m_thereMany, .int m_foundMany, .int m_orderHow, .int m_orderRing, .int m_orderMany, .int m_hasBest, .long m_bestTop, .long m_bestBy, .ref a_weights, .ref a_shared, .int m_random, .int m_truePlace, .int m_trueWay, .int m_seconds, .int m_done, .int m_feelings, .int m_tries, .int m_leftOver, .int m_playDoor, .int m_playRing, .int m_isOpen, .int m_isOver, .int m_wasTried, .int m_hasPlayed, .ref a_feltNow, .ref a_last, .ref a_kept, .int m_hasSeconds, .int m_hasTurned, .int m_hasRound, .ref a_hasFeels, .ref a_isOn, .int m_firstAct, .long m_meanTop, .long m_meanBy, .ref a_order, .int m_rowMany, .int m_newSteps])), (a_c, .inl (cA.1 0, 1825, .inl g_c)), (a_there, .inl (cA.1 0, 10, .inl g_there)), (a_weights, .inl (cA.1 1, 100, .inr (.inl g_weights)))] (S := Int32 × (Nat → Int64)) (fun (r : Int64) (u : Int32 × (Nat → Int64)) => True) (fun (u : Int32 × (Nat → Int64)) => [(h0, .inr (12, [.int m_status, .int m_thrown, .long m_above, .long m_under, .ref a_traySort, .ref a_trayMany, .ref a_numbers, .ref a_tape, .int m_taped, .int m_textEnd, .int m_faultKind, .int m_faultAt, .int m_bad, .int m_badAt, .int m_token, .int m_at, .int m_behind, .int m_number, .int m_letters, .long m_word, .ref a_c, .ref a_words, .int m_markMany, .ref a_there, .ref a_tried, .ref a_best, .ref a_found, .int m_thereMany, .int m_foundMany, .int m_orderHow, .int m_orderRing, .int m_orderMany, .int m_hasBest, .long m_bestTop, .long m_bestBy, .ref a_weights, .ref a_shared, .int m_random, .int m_truePlace, .int m_trueWay, .int m_seconds, .int m_done, .int m_feelings, .int m_tries, .int m_leftOver, .int m_playDoor, .int m_playRing, .int m_isOpen, .int m_isOver, .int m_wasTried, .int m_hasPlayed, .ref a_feltNow, .ref a_last, .ref a_kept, .int m_hasSeconds, .int m_hasTurned, .int m_hasRound, .ref a_hasFeels, .ref a_isOn, .int u.1, .long m_meanTop, .long m_meanBy, .ref a_order, .int m_rowMany, .int m_newSteps])), (a_c, .inl (cA.1 0, 1825, .inl g_c)), (a_there, .inl (cA.1 0, 10, .inl g_there)), (a_weights, .inl (cA.1 1, 100, .inr (.inl u.2)))]) 0 0 := by
  have hk_0 : (0 : Int32).toInt = 0 := by decide +kernel
  have hk_1 : (1 : Int32).toInt = 1 := by decide +kernel
  have hk_2 : (2 : Int32).toInt = 2 := by decide +kernel
  have hk_11 : (11 : Int32).toInt = 11 := by decide +kernel
  have hk_20 : (20 : Int32).toInt = 20 := by decide +kernel
  have hkl_0 : (0 : Int64).toInt = 0 := by decide +kernel
  refine z_start2l (own := RX12) (by decide) (Nat.le_of_ble_eq_true rfl) rfl ?_
  intro p e s m args below meth c A ls Q hx hb hml hts hown hK hE hT hP hD hS hA hl hret
  have hl : lv_has ls 9 [(0, .ref h0), (1, .int pp), (2, .int 3), (3, .int d), (4, .int f)] := hl
  refine lv_lconst (v := 0) hx hb dX12_feltWorth_0 (by decide) ?_
  refine lv_lstore (lv' := [(5, .long 0), (0, .ref h0), (1, .int pp), (2, .int 3), (3, .int d), (4, .int f)]) hx hb dX12_feltWorth_1 hl (by decide) rfl (fun ls hl => ?_)
  refine lv_iconst (v := 0) hx hb dX12_feltWorth_3 (by decide) ?_
  refine lv_istore (lv' := [(7, .int 0), (5, .long 0), (0, .ref h0), (1, .int pp), (2, .int 3), (3, .int d), (4, .int f)]) hx hb dX12_feltWorth_4 hl (by decide) rfl (fun ls hl => ?_)
  have hlp_2966 : ∀ (n : Nat) (v_2471 : Int64) (v_2472 : Int32) (v_2473 : Int32) (g_2474 : Nat → Int64) (H : Heap) (locs : List Loc) (ls : Array Slot), (2147483647 - v_2472.toInt).toNat < n → (0 ≤ v_2472.toInt ∧ v_2472.toInt ≤ 4) → va_P G vwCl [(h0, .inr (12, [.int m_status, .int m_thrown, .long m_above, .long m_under, .ref a_traySort, .ref a_trayMany, .ref a_numbers, .ref a_tape, .int m_taped, .int m_textEnd, .int m_faultKind, .int m_faultAt, .int m_bad, .int m_badAt, .int m_token, .int m_at, .int m_behind, .int m_number, .int m_letters, .long m_word, .ref a_c, .ref a_words, .int m_markMany, .ref a_there, .ref a_tried, .ref a_best, .ref a_found, .int m_thereMany, .int m_foundMany, .int m_orderHow, .int m_orderRing, .int m_orderMany, .int m_hasBest, .long m_bestTop, .long m_bestBy, .ref a_weights, .ref a_shared, .int m_random, .int m_truePlace, .int m_trueWay, .int m_seconds, .int m_done, .int m_feelings, .int m_tries, .int m_leftOver, .int m_playDoor, .int m_playRing, .int m_isOpen, .int m_isOver, .int m_wasTried, .int m_hasPlayed, .ref a_feltNow, .ref a_last, .ref a_kept, .int m_hasSeconds, .int m_hasTurned, .int m_hasRound, .ref a_hasFeels, .ref a_isOn, .int v_2473, .long m_meanTop, .long m_meanBy, .ref a_order, .int m_rowMany, .int m_newSteps])), (a_c, .inl (cA.1 0, 1825, .inl g_c)), (a_there, .inl (cA.1 0, 10, .inl g_there)), (a_weights, .inl (cA.1 1, 100, .inr (.inl g_2474)))] H → va_D A [(h0, .inr (12, [.int m_status, .int m_thrown, .long m_above, .long m_under, .ref a_traySort, .ref a_trayMany, .ref a_numbers, .ref a_tape, .int m_taped, .int m_textEnd, .int m_faultKind, .int m_faultAt, .int m_bad, .int m_badAt, .int m_token, .int m_at, .int m_behind, .int m_number, .int m_letters, .long m_word, .ref a_c, .ref a_words, .int m_markMany, .ref a_there, .ref a_tried, .ref a_best, .ref a_found, .int m_thereMany, .int m_foundMany, .int m_orderHow, .int m_orderRing, .int m_orderMany, .int m_hasBest, .long m_bestTop, .long m_bestBy, .ref a_weights, .ref a_shared, .int m_random, .int m_truePlace, .int m_trueWay, .int m_seconds, .int m_done, .int m_feelings, .int m_tries, .int m_leftOver, .int m_playDoor, .int m_playRing, .int m_isOpen, .int m_isOver, .int m_wasTried, .int m_hasPlayed, .ref a_feltNow, .ref a_last, .ref a_kept, .int m_hasSeconds, .int m_hasTurned, .int m_hasRound, .ref a_hasFeels, .ref a_isOn, .int v_2473, .long m_meanTop, .long m_meanBy, .ref a_order, .int m_rowMany, .int m_newSteps])), (a_c, .inl (cA.1 0, 1825, .inl g_c)), (a_there, .inl (cA.1 0, 10, .inl g_there)), (a_weights, .inl (cA.1 1, 100, .inr (.inl g_2474)))] → va_S A s.heap H locs → lv_has ls 9 [(0, .ref h0), (1, .int pp), (2, .int 3), (3, .int d), (4, .int f), (5, .long v_2471), (7, .int v_2472)] → W p l e ({ frames := 6, cells := 0, slots := 0, locals := 162 }) s m args below meth c H locs 0 0 Q (F0 m 6 ls []) := by
    intro n
    induction n with
    | zero =>
      intro v_2471 v_2472 v_2473 g_2474 H locs ls hmu_hlp_2966 hr_v_2472 hP hD hS hl
      exact absurd hmu_hlp_2966 (Nat.not_lt_zero _)
    | succ n ih_2967 =>
      intro v_2471 v_2472 v_2473 g_2474 H locs ls hmu_hlp_2966 hr_v_2472 hP hD hS hl
      refine lv_iload hx hb dX12_feltWorth_6 (lv_at hl 6 rfl) ?_
      refine lv_aload_n hx hb dX12_feltWorth_8 rfl (lv_at hl 0 rfl) ?_
      refine va_get (D := G) (ci := 12) (v := .ref a_c) (C := RX12) (T := TX12) (N := 65) hx hb hts inT12 hown hK hP 0 rfl rfl 20 (by decide) (hts _ tw_1905) (fun _ h9 => h9) rfl dX12_feltWorth_9 ?_
      refine lv_bipush (v := 11) hx hb dX12_feltWorth_12 (by decide) ?_
      refine lv_iload hx hb dX12_feltWorth_14 (lv_at hl 4 rfl) ?_
      refine lv_iadd hx hb dX12_feltWorth_16 ?_
      refine lv_topi (fun x_2968 he_x_2968 => ?_)
      have hq_x_2968 := z_addq he_x_2968 hk_11 (rfl : f.toInt = _) (by omega) (by omega)
      refine va_iald hx hb hK hP 1 0 rfl rfl (z_inN (by omega) (by omega)) dX12_feltWorth_17 ?_
      refine lv_topi (fun x_2969 he_x_2969 => ?_)
      have hr_x_2969 := z_ct hC_g_c he_x_2969 (a := 11) (b := 13) (lo := 0) (hi := 4) (by decide +kernel) (by decide) (by omega) (by omega)
      refine lv_icmp_ge (tgt := 113) hx hb dX12_feltWorth_18 (by decide) (fun c_2970 => ?_) (fun c_2970 => ?_)
      · have b_2971 := z_fgeT c_2970
        refine lv_lload hx hb dX12_feltWorth_113 (lv_at hl 5 rfl) ?_
        exact hret _ _ _ _ _ _ (v_2473, g_2474) [0, 1, 2, 3] hP hD hS rfl (by decide) dX12_feltWorth_115 trivial
      · have b_2972 := z_fltF c_2970
        refine lv_iconst (v := 0) hx hb dX12_feltWorth_21 (by decide) ?_
        refine lv_istore (lv' := [(8, .int 0), (0, .ref h0), (1, .int pp), (2, .int 3), (3, .int d), (4, .int f), (5, .long v_2471), (7, .int v_2472)]) hx hb dX12_feltWorth_22 hl (by decide) rfl (fun ls hl => ?_)
        have hlp_3430 : ∀ (n : Nat) (v_3408 : Int32) (g_3409 : Nat → Int64) (H : Heap) (locs : List Loc) (ls : Array Slot), (2147483647 - v_3408.toInt).toNat < n → (0 ≤ v_3408.toInt ∧ v_3408.toInt ≤ 20) → va_P G vwCl [(h0, .inr (12, [.int m_status, .int m_thrown, .long m_above, .long m_under, .ref a_traySort, .ref a_trayMany, .ref a_numbers, .ref a_tape, .int m_taped, .int m_textEnd, .int m_faultKind, .int m_faultAt, .int m_bad, .int m_badAt, .int m_token, .int m_at, .int m_behind, .int m_number, .int m_letters, .long m_word, .ref a_c, .ref a_words, .int m_markMany, .ref a_there, .ref a_tried, .ref a_best, .ref a_found, .int m_thereMany, .int m_foundMany, .int m_orderHow, .int m_orderRing, .int m_orderMany, .int m_hasBest, .long m_bestTop, .long m_bestBy, .ref a_weights, .ref a_shared, .int m_random, .int m_truePlace, .int m_trueWay, .int m_seconds, .int m_done, .int m_feelings, .int m_tries, .int m_leftOver, .int m_playDoor, .int m_playRing, .int m_isOpen, .int m_isOver, .int m_wasTried, .int m_hasPlayed, .ref a_feltNow, .ref a_last, .ref a_kept, .int m_hasSeconds, .int m_hasTurned, .int m_hasRound, .ref a_hasFeels, .ref a_isOn, .int v_2473, .long m_meanTop, .long m_meanBy, .ref a_order, .int m_rowMany, .int m_newSteps])), (a_c, .inl (cA.1 0, 1825, .inl g_c)), (a_there, .inl (cA.1 0, 10, .inl g_there)), (a_weights, .inl (cA.1 1, 100, .inr (.inl g_3409)))] H → va_D A [(h0, .inr (12, [.int m_status, .int m_thrown, .long m_above, .long m_under, .ref a_traySort, .ref a_trayMany, .ref a_numbers, .ref a_tape, .int m_taped, .int m_textEnd, .int m_faultKind, .int m_faultAt, .int m_bad, .int m_badAt, .int m_token, .int m_at, .int m_behind, .int m_number, .int m_letters, .long m_word, .ref a_c, .ref a_words, .int m_markMany, .ref a_there, .ref a_tried, .ref a_best, .ref a_found, .int m_thereMany, .int m_foundMany, .int m_orderHow, .int m_orderRing, .int m_orderMany, .int m_hasBest, .long m_bestTop, .long m_bestBy, .ref a_weights, .ref a_shared, .int m_random, .int m_truePlace, .int m_trueWay, .int m_seconds, .int m_done, .int m_feelings, .int m_tries, .int m_leftOver, .int m_playDoor, .int m_playRing, .int m_isOpen, .int m_isOver, .int m_wasTried, .int m_hasPlayed, .ref a_feltNow, .ref a_last, .ref a_kept, .int m_hasSeconds, .int m_hasTurned, .int m_hasRound, .ref a_hasFeels, .ref a_isOn, .int v_2473, .long m_meanTop, .long m_meanBy, .ref a_order, .int m_rowMany, .int m_newSteps])), (a_c, .inl (cA.1 0, 1825, .inl g_c)), (a_there, .inl (cA.1 0, 10, .inl g_there)), (a_weights, .inl (cA.1 1, 100, .inr (.inl g_3409)))] → va_S A s.heap H locs → lv_has ls 9 [(0, .ref h0), (1, .int pp), (2, .int 3), (3, .int d), (4, .int f), (5, .long v_2471), (7, .int v_2472), (8, .int v_3408)] → W p l e ({ frames := 6, cells := 0, slots := 0, locals := 162 }) s m args below meth c H locs 0 0 Q (F0 m 24 ls []) := by
          intro n
          induction n with
          | zero =>
            intro v_3408 g_3409 H locs ls hmu_hlp_3430 hr_v_3408 hP hD hS hl
            exact absurd hmu_hlp_3430 (Nat.not_lt_zero _)
          | succ n ih_3431 =>
            intro v_3408 g_3409 H locs ls hmu_hlp_3430 hr_v_3408 hP hD hS hl
            refine lv_iload hx hb dX12_feltWorth_24 (lv_at hl 7 rfl) ?_
            refine lv_iconst (v := 2) hx hb dX12_feltWorth_26 (by decide) ?_
            refine lv_aload_n hx hb dX12_feltWorth_27 rfl (lv_at hl 0 rfl) ?_
            refine va_get (D := G) (ci := 12) (v := .int m_thereMany) (C := RX12) (T := TX12) (N := 65) hx hb hts inT12 hown hK hP 0 rfl rfl 27 (by decide) (hts _ tw_1912) (fun _ h9 => h9) rfl dX12_feltWorth_28 ?_
            refine lv_imul hx hb dX12_feltWorth_31 ?_
            refine lv_topi (fun x_3432 he_x_3432 => ?_)
            have hq_x_3432 := z_mulq he_x_3432 hk_2 (rfl : m_thereMany.toInt = _) (by omega) (by omega)
            refine lv_icmp_ge (tgt := 91) hx hb dX12_feltWorth_32 (by decide) (fun c_3433 => ?_) (fun c_3433 => ?_)
            · have b_3434 := z_fgeT c_3433
              refine lv_lload hx hb dX12_feltWorth_91 (lv_at hl 5 rfl) ?_
              refine lv_aload_n hx hb dX12_feltWorth_93 rfl (lv_at hl 0 rfl) ?_
              refine lv_iload_n hx hb dX12_feltWorth_94 rfl (lv_at hl 1 rfl) ?_
              refine lv_iconst (v := 1) hx hb dX12_feltWorth_95 (by decide) ?_
              refine lv_iadd hx hb dX12_feltWorth_96 ?_
              refine lv_topi (fun x_3435 he_x_3435 => ?_)
              have hq_x_3435 := z_addq he_x_3435 (rfl : pp.toInt = _) hk_1 (by omega) (by omega)
              refine lv_iload_n hx hb dX12_feltWorth_97 rfl (lv_at hl 2 rfl) ?_
              refine lv_iconst (v := 1) hx hb dX12_feltWorth_98 (by decide) ?_
              refine lv_isub hx hb dX12_feltWorth_99 ?_
              refine z_topi (y := 2) (by decide +kernel) ?_
              refine lv_iload_n hx hb dX12_feltWorth_100 rfl (lv_at hl 3 rfl) ?_
              refine z_callVl (As := [.int x_3435, .int 2, .int d]) (rest := [.long v_2471]) (wr := []) ⟨hx, hb, hml, hown, hts⟩ hK hE hT hP hD hS hA (r_worthOf_2 l G cA h0 m_status m_thrown m_above m_under a_traySort a_trayMany a_numbers a_tape m_taped m_textEnd m_faultKind m_faultAt m_bad m_badAt m_token m_at m_behind m_number m_letters m_word a_c a_words m_markMany a_there a_tried a_best a_found m_thereMany m_foundMany m_orderHow m_orderRing m_orderMany m_hasBest m_bestTop m_bestBy a_weights a_shared m_random m_truePlace m_trueWay m_seconds m_done m_feelings m_tries m_leftOver m_playDoor m_playRing m_isOpen m_isOver m_wasTried m_hasPlayed a_feltNow a_last a_kept m_hasSeconds m_hasTurned m_hasRound a_hasFeels a_isOn v_2473 m_meanTop m_meanBy a_order m_rowMany m_newSteps g_c g_there g_3409 x_3435 d (by omega) hr_d hr_m_thereMany hC_g_c hC_g_there) lk_RX12_379 ⟨rfl, rfl⟩ ⟨Nat.le_of_ble_eq_true rfl, Nat.le_of_ble_eq_true rfl⟩ 12 rfl rfl rfl [0, 1, 2, 3] [] rfl rfl (by decide) rfl hl.1 rfl (lv_room (Nat.le_of_ble_eq_true rfl)) dX12_feltWorth_101 ⟨Nat.le_of_ble_eq_true rfl, Nat.le_of_ble_eq_true rfl⟩ (fun r_3438 u_3439 H locs hw hP hD hS => ?_)
              obtain ⟨n_3436, n_3437⟩ := u_3439
              try dsimp only at hw
              refine lv_ladd hx hb dX12_feltWorth_104 ?_
              have hL_v_2471 := z_fulll v_2471
              have hL_r_3438 := z_fulll r_3438
              refine lv_topl (fun x_3440 he_x_3440 => ?_)
              refine lv_lstore (lv' := [(5, .long x_3440), (0, .ref h0), (1, .int pp), (2, .int 3), (3, .int d), (4, .int f), (7, .int v_2472), (8, .int v_3408)]) hx hb dX12_feltWorth_105 hl (by decide) rfl (fun ls hl => ?_)
              obtain ⟨x_3441, he_x_3441⟩ : ∃ z : Int32, z = v_2472 + 1 := ⟨_, rfl⟩
              have hq_x_3441 := z_addq he_x_3441 (rfl : v_2472.toInt = _) hk_1 (by omega) (by omega)
              refine lv_iinc (v := x_3441) (lv' := [(7, .int x_3441), (5, .long x_3440), (0, .ref h0), (1, .int pp), (2, .int 3), (3, .int d), (4, .int f), (8, .int v_3408)]) hx hb dX12_feltWorth_107 hl (k := 6) rfl ((z_ofi (by decide +kernel)).trans he_x_3441.symm) (by decide) rfl (fun ls hl => ?_)
              refine lv_goto (tgt := 6) hx hb dX12_feltWorth_110 (by decide) ?_
              exact ih_2967 x_3440 x_3441 n_3436 n_3437 H locs ls (by omega) (by omega) hP hD hS (lv_sub hl [2, 3, 4, 5, 6, 1, 0] rfl)
            · have b_3442 := z_fltF c_3433
              refine lv_aload_n hx hb dX12_feltWorth_35 rfl (lv_at hl 0 rfl) ?_
              refine va_get (D := G) (ci := 12) (v := .ref a_weights) (C := RX12) (T := TX12) (N := 65) hx hb hts inT12 hown hK hP 0 rfl rfl 35 (by decide) (hts _ tw_1919) (fun _ h9 => h9) rfl dX12_feltWorth_36 ?_
              refine lv_bipush (v := 20) hx hb dX12_feltWorth_39 (by decide) ?_
              refine lv_iload_n hx hb dX12_feltWorth_41 rfl (lv_at hl 1 rfl) ?_
              refine lv_imul hx hb dX12_feltWorth_42 ?_
              refine lv_topi (fun x_3443 he_x_3443 => ?_)
              have hq_x_3443 := z_mulq he_x_3443 hk_20 (rfl : pp.toInt = _) (by omega) (by omega)
              refine lv_bipush (v := 20) hx hb dX12_feltWorth_43 (by decide) ?_
              refine lv_iadd hx hb dX12_feltWorth_45 ?_
              refine lv_topi (fun x_3444 he_x_3444 => ?_)
              have hq_x_3444 := z_addq he_x_3444 (rfl : x_3443.toInt = _) hk_20 (by omega) (by omega)
              refine lv_iload hx hb dX12_feltWorth_46 (lv_at hl 7 rfl) ?_
              refine lv_iadd hx hb dX12_feltWorth_48 ?_
              refine lv_topi (fun x_3445 he_x_3445 => ?_)
              have hq_x_3445 := z_addq he_x_3445 (rfl : x_3444.toInt = _) (rfl : v_3408.toInt = _) (by omega) (by omega)
              refine lv_aload_n hx hb dX12_feltWorth_49 rfl (lv_at hl 0 rfl) ?_
              refine va_get (D := G) (ci := 12) (v := .ref a_weights) (C := RX12) (T := TX12) (N := 65) hx hb hts inT12 hown hK hP 0 rfl rfl 35 (by decide) (hts _ tw_1919) (fun _ h9 => h9) rfl dX12_feltWorth_50 ?_
              refine lv_bipush (v := 20) hx hb dX12_feltWorth_53 (by decide) ?_
              refine lv_iload_n hx hb dX12_feltWorth_55 rfl (lv_at hl 1 rfl) ?_
              refine lv_imul hx hb dX12_feltWorth_56 ?_
              refine lv_topi (fun x_3446 he_x_3446 => ?_)
              have hq_x_3446 := z_mulq he_x_3446 hk_20 (rfl : pp.toInt = _) (by omega) (by omega)
              refine lv_iload hx hb dX12_feltWorth_57 (lv_at hl 7 rfl) ?_
              refine lv_iadd hx hb dX12_feltWorth_59 ?_
              refine lv_topi (fun x_3447 he_x_3447 => ?_)
              have hq_x_3447 := z_addq he_x_3447 (rfl : x_3446.toInt = _) (rfl : v_3408.toInt = _) (by omega) (by omega)
              refine va_lald hx hb hK hP 3 1 rfl rfl (z_inN (by omega) (by omega)) dX12_feltWorth_60 ?_
              refine lv_topl (fun x_3448 he_x_3448 => ?_)
              refine lv_aload_n hx hb dX12_feltWorth_61 rfl (lv_at hl 0 rfl) ?_
              refine lv_aload_n hx hb dX12_feltWorth_62 rfl (lv_at hl 0 rfl) ?_
              refine va_get (D := G) (ci := 12) (v := .ref a_there) (C := RX12) (T := TX12) (N := 65) hx hb hts inT12 hown hK hP 0 rfl rfl 23 (by decide) (hts _ tw_1908) (fun _ h9 => h9) rfl dX12_feltWorth_63 ?_
              refine lv_iload hx hb dX12_feltWorth_66 (lv_at hl 7 rfl) ?_
              refine lv_iconst (v := 2) hx hb dX12_feltWorth_68 (by decide) ?_
              refine lv_idiv hx hb dX12_feltWorth_69 (by decide +kernel) ?_
              refine lv_topi (fun x_3449 he_x_3449 => ?_)
              have hq_x_3449 := z_divq he_x_3449 (rfl : v_3408.toInt = _) hk_2 (by omega) (by decide)
              refine va_iald hx hb hK hP 2 0 rfl rfl (z_inN (by omega) (by omega)) dX12_feltWorth_70 ?_
              refine lv_topi (fun x_3450 he_x_3450 => ?_)
              have hr_x_3450 := z_rg hC_g_there he_x_3450 (by omega) (by omega)
              refine lv_iload hx hb dX12_feltWorth_71 (lv_at hl 4 rfl) ?_
              refine lv_iload hx hb dX12_feltWorth_73 (lv_at hl 7 rfl) ?_
              refine lv_iconst (v := 2) hx hb dX12_feltWorth_75 (by decide) ?_
              refine lv_irem hx hb dX12_feltWorth_76 (by decide +kernel) ?_
              refine lv_topi (fun x_3451 he_x_3451 => ?_)
              have hq_x_3451 := z_remq he_x_3451 (rfl : v_3408.toInt = _) hk_2 (by omega) (by decide)
              refine lv_iload hx hb dX12_feltWorth_77 (lv_at hl 6 rfl) ?_
              refine z_callVi (As := [.int x_3450, .int f, .int x_3451, .int v_2472]) (rest := [.long x_3448, .int x_3445, .ref a_weights]) (wr := [(a_there, .inl (cA.1 0, 10, .inl g_there)), (a_weights, .inl (cA.1 1, 100, .inr (.inl g_3409)))]) ⟨hx, hb, hml, hown, hts⟩ hK hE hT hP hD hS hA (r_felt l G cA h0 m_status m_thrown m_above m_under a_traySort a_trayMany a_numbers a_tape m_taped m_textEnd m_faultKind m_faultAt m_bad m_badAt m_token m_at m_behind m_number m_letters m_word a_c a_words m_markMany a_there a_tried a_best a_found m_thereMany m_foundMany m_orderHow m_orderRing m_orderMany m_hasBest m_bestTop m_bestBy a_weights a_shared m_random m_truePlace m_trueWay m_seconds m_done m_feelings m_tries m_leftOver m_playDoor m_playRing m_isOpen m_isOver m_wasTried m_hasPlayed a_feltNow a_last a_kept m_hasSeconds m_hasTurned m_hasRound a_hasFeels a_isOn v_2473 m_meanTop m_meanBy a_order m_rowMany m_newSteps g_c x_3450 f x_3451 v_2472 hr_x_3450 hr_f (by omega) (by omega) hC_g_c) lk_RX12_329 ⟨rfl, rfl⟩ ⟨Nat.le_of_ble_eq_true rfl, Nat.le_of_ble_eq_true rfl⟩ 12 rfl rfl rfl [0, 1] [2, 3] rfl rfl (by decide) rfl hl.1 rfl (lv_room (Nat.le_of_ble_eq_true rfl)) dX12_feltWorth_79 ⟨Nat.le_of_ble_eq_true rfl, Nat.le_of_ble_eq_true rfl⟩ (fun r_3452 u_3453 H locs hw hP hD hS => ?_)
              obtain ⟨hr_r_3452, hf_3454⟩ := hw
              refine lv_i2l (v := (r_3452).toInt64) hx hb dX12_feltWorth_82 rfl ?_
              refine lv_topl (fun x_3455 he_x_3455 => ?_)
              have hq_x_3455 := z_i2l he_x_3455
              refine lv_lmul hx hb dX12_feltWorth_83 ?_
              have hL_x_3448 := z_fulll x_3448
              refine lv_topl (fun x_3456 he_x_3456 => ?_)
              refine z_last hx hb hK hP hD hS 1 1 rfl rfl (z_inN (by omega) (by omega)) dX12_feltWorth_84 (fun g_3457 hg_g_3457 H locs hP hD hS => ?_)
              obtain ⟨x_3458, he_x_3458⟩ : ∃ z : Int32, z = v_3408 + 1 := ⟨_, rfl⟩
              have hq_x_3458 := z_addq he_x_3458 (rfl : v_3408.toInt = _) hk_1 (by omega) (by omega)
              refine lv_iinc (v := x_3458) (lv' := [(8, .int x_3458), (0, .ref h0), (1, .int pp), (2, .int 3), (3, .int d), (4, .int f), (5, .long v_2471), (7, .int v_2472)]) hx hb dX12_feltWorth_85 hl (k := 7) rfl ((z_ofi (by decide +kernel)).trans he_x_3458.symm) (by decide) rfl (fun ls hl => ?_)
              refine lv_goto (tgt := 24) hx hb dX12_feltWorth_88 (by decide) ?_
              have hP := hP.sub (ws' := [(h0, .inr (12, [.int m_status, .int m_thrown, .long m_above, .long m_under, .ref a_traySort, .ref a_trayMany, .ref a_numbers, .ref a_tape, .int m_taped, .int m_textEnd, .int m_faultKind, .int m_faultAt, .int m_bad, .int m_badAt, .int m_token, .int m_at, .int m_behind, .int m_number, .int m_letters, .long m_word, .ref a_c, .ref a_words, .int m_markMany, .ref a_there, .ref a_tried, .ref a_best, .ref a_found, .int m_thereMany, .int m_foundMany, .int m_orderHow, .int m_orderRing, .int m_orderMany, .int m_hasBest, .long m_bestTop, .long m_bestBy, .ref a_weights, .ref a_shared, .int m_random, .int m_truePlace, .int m_trueWay, .int m_seconds, .int m_done, .int m_feelings, .int m_tries, .int m_leftOver, .int m_playDoor, .int m_playRing, .int m_isOpen, .int m_isOver, .int m_wasTried, .int m_hasPlayed, .ref a_feltNow, .ref a_last, .ref a_kept, .int m_hasSeconds, .int m_hasTurned, .int m_hasRound, .ref a_hasFeels, .ref a_isOn, .int v_2473, .long m_meanTop, .long m_meanBy, .ref a_order, .int m_rowMany, .int m_newSteps])), (a_c, .inl (cA.1 0, 1825, .inl g_c)), (a_there, .inl (cA.1 0, 10, .inl g_there)), (a_weights, .inl (cA.1 1, 100, .inr (.inl g_3457)))]) [2, 3, 0, 1] rfl
              have hD := hD.sub (ws' := [(h0, .inr (12, [.int m_status, .int m_thrown, .long m_above, .long m_under, .ref a_traySort, .ref a_trayMany, .ref a_numbers, .ref a_tape, .int m_taped, .int m_textEnd, .int m_faultKind, .int m_faultAt, .int m_bad, .int m_badAt, .int m_token, .int m_at, .int m_behind, .int m_number, .int m_letters, .long m_word, .ref a_c, .ref a_words, .int m_markMany, .ref a_there, .ref a_tried, .ref a_best, .ref a_found, .int m_thereMany, .int m_foundMany, .int m_orderHow, .int m_orderRing, .int m_orderMany, .int m_hasBest, .long m_bestTop, .long m_bestBy, .ref a_weights, .ref a_shared, .int m_random, .int m_truePlace, .int m_trueWay, .int m_seconds, .int m_done, .int m_feelings, .int m_tries, .int m_leftOver, .int m_playDoor, .int m_playRing, .int m_isOpen, .int m_isOver, .int m_wasTried, .int m_hasPlayed, .ref a_feltNow, .ref a_last, .ref a_kept, .int m_hasSeconds, .int m_hasTurned, .int m_hasRound, .ref a_hasFeels, .ref a_isOn, .int v_2473, .long m_meanTop, .long m_meanBy, .ref a_order, .int m_rowMany, .int m_newSteps])), (a_c, .inl (cA.1 0, 1825, .inl g_c)), (a_there, .inl (cA.1 0, 10, .inl g_there)), (a_weights, .inl (cA.1 1, 100, .inr (.inl g_3457)))]) [2, 3, 0, 1] (by decide) rfl
              exact ih_3431 x_3458 g_3457 H locs ls (by omega) (by omega) hP hD hS (lv_sub hl [1, 2, 3, 4, 5, 6, 7, 0] rfl)
        exact hlp_3430 _ 0 g_2474 _ _ _ (Nat.lt_succ_self _) (by decide +kernel) hP hD hS (lv_sub hl [1, 2, 3, 4, 5, 6, 7, 0] rfl)
  exact hlp_2966 _ 0 0 m_firstAct g_weights _ _ _ (Nat.lt_succ_self _) (by decide +kernel) hP hD hS (lv_sub hl [2, 3, 4, 5, 6, 1, 0] rfl)
set_option maxHeartbeats 4000000 in
set_option maxRecDepth 100000 in
theorem r_worthOf_3 (l : Launch) (G : va_G) (cA : zCA) (h0 : Nat) (m_status : Int32) (m_thrown : Int32) (m_above : Int64) (m_under : Int64) (a_traySort : Nat) (a_trayMany : Nat) (a_numbers : Nat) (a_tape : Nat) (m_taped : Int32) (m_textEnd : Int32) (m_faultKind : Int32) (m_faultAt : Int32) (m_bad : Int32) (m_badAt : Int32) (m_token : Int32) (m_at : Int32) (m_behind : Int32) (m_number : Int32) (m_letters : Int32) (m_word : Int64) (a_c : Nat) (a_words : Nat) (m_markMany : Int32) (a_there : Nat) (a_tried : Nat) (a_best : Nat) (a_found : Nat) (m_thereMany : Int32) (m_foundMany : Int32) (m_orderHow : Int32) (m_orderRing : Int32) (m_orderMany : Int32) (m_hasBest : Int32) (m_bestTop : Int64) (m_bestBy : Int64) (a_weights : Nat) (a_shared : Nat) (m_random : Int32) (m_truePlace : Int32) (m_trueWay : Int32) (m_seconds : Int32) (m_done : Int32) (m_feelings : Int32) (m_tries : Int32) (m_leftOver : Int32) (m_playDoor : Int32) (m_playRing : Int32) (m_isOpen : Int32) (m_isOver : Int32) (m_wasTried : Int32) (m_hasPlayed : Int32) (a_feltNow : Nat) (a_last : Nat) (a_kept : Nat) (m_hasSeconds : Int32) (m_hasTurned : Int32) (m_hasRound : Int32) (a_hasFeels : Nat) (a_isOn : Nat) (m_firstAct : Int32) (m_meanTop : Int64) (m_meanBy : Int64) (a_order : Nat) (m_rowMany : Int32) (m_newSteps : Int32) (g_c : Nat → Int32) (g_there : Nat → Int32) (g_weights : Nat → Int64) (pp : Int32) (d : Int32) (hr_pp : 0 ≤ pp.toInt ∧ pp.toInt ≤ 1) (hr_d : 0 ≤ d.toInt ∧ d.toInt ≤ 4) (hr_m_thereMany : 0 ≤ m_thereMany.toInt ∧ m_thereMany.toInt ≤ 10) (hC_g_c : zC g_c) (hC_g_there : zRg 10 0 9 g_there) : zCl l yX12_worthOf cX12_worthOf 10 (some .long) ({ frames := 7, cells := 0, slots := 0, locals := 190 }) G cA [.ref h0, .int pp, .int 3, .int d] [(h0, .inr (12, [.int m_status, .int m_thrown, .long m_above, .long m_under, .ref a_traySort, .ref a_trayMany, .ref a_numbers, .ref a_tape, .int m_taped, .int m_textEnd, .int m_faultKind, .int m_faultAt, .int m_bad, .int m_badAt, .int m_token, .int m_at, .int m_behind, .int m_number, .int m_letters, .long m_word, .ref a_c, .ref a_words, .int m_markMany, .ref a_there, .ref a_tried, .ref a_best, .ref a_found, .int m_thereMany, .int m_foundMany, .int m_orderHow, .int m_orderRing, .int m_orderMany, .int m_hasBest, .long m_bestTop, .long m_bestBy, .ref a_weights, .ref a_shared, .int m_random, .int m_truePlace, .int m_trueWay, .int m_seconds, .int m_done, .int m_feelings, .int m_tries, .int m_leftOver, .int m_playDoor, .int m_playRing, .int m_isOpen, .int m_isOver, .int m_wasTried, .int m_hasPlayed, .ref a_feltNow, .ref a_last, .ref a_kept, .int m_hasSeconds, .int m_hasTurned, .int m_hasRound, .ref a_hasFeels, .ref a_isOn, .int m_firstAct, .long m_meanTop, .long m_meanBy, .ref a_order, .int m_rowMany, .int m_newSteps])), (a_c, .inl (cA.1 0, 1825, .inl g_c)), (a_there, .inl (cA.1 0, 10, .inl g_there)), (a_weights, .inl (cA.1 1, 100, .inr (.inl g_weights)))] (S := Int32 × (Nat → Int64)) (fun (r : Int64) (u : Int32 × (Nat → Int64)) => True) (fun (u : Int32 × (Nat → Int64)) => [(h0, .inr (12, [.int m_status, .int m_thrown, .long m_above, .long m_under, .ref a_traySort, .ref a_trayMany, .ref a_numbers, .ref a_tape, .int m_taped, .int m_textEnd, .int m_faultKind, .int m_faultAt, .int m_bad, .int m_badAt, .int m_token, .int m_at, .int m_behind, .int m_number, .int m_letters, .long m_word, .ref a_c, .ref a_words, .int m_markMany, .ref a_there, .ref a_tried, .ref a_best, .ref a_found, .int m_thereMany, .int m_foundMany, .int m_orderHow, .int m_orderRing, .int m_orderMany, .int m_hasBest, .long m_bestTop, .long m_bestBy, .ref a_weights, .ref a_shared, .int m_random, .int m_truePlace, .int m_trueWay, .int m_seconds, .int m_done, .int m_feelings, .int m_tries, .int m_leftOver, .int m_playDoor, .int m_playRing, .int m_isOpen, .int m_isOver, .int m_wasTried, .int m_hasPlayed, .ref a_feltNow, .ref a_last, .ref a_kept, .int m_hasSeconds, .int m_hasTurned, .int m_hasRound, .ref a_hasFeels, .ref a_isOn, .int u.1, .long m_meanTop, .long m_meanBy, .ref a_order, .int m_rowMany, .int m_newSteps])), (a_c, .inl (cA.1 0, 1825, .inl g_c)), (a_there, .inl (cA.1 0, 10, .inl g_there)), (a_weights, .inl (cA.1 1, 100, .inr (.inl u.2)))]) 0 0 := by
  have hk_0 : (0 : Int32).toInt = 0 := by decide +kernel
  have hk_1 : (1 : Int32).toInt = 1 := by decide +kernel
  have hk_2 : (2 : Int32).toInt = 2 := by decide +kernel
  have hk_3 : (3 : Int32).toInt = 3 := by decide +kernel
  refine z_start2l (own := RX12) (by decide) (Nat.le_of_ble_eq_true rfl) rfl ?_
  intro p e s m args below meth c A ls Q hx hb hml hts hown hK hE hT hP hD hS hA hl hret
  have hl : lv_has ls 10 [(0, .ref h0), (1, .int pp), (2, .int 3), (3, .int d)] := hl
  refine lv_iload_n hx hb dX12_worthOf_0 rfl (lv_at hl 2 rfl) ?_
  refine lv_if_ne (tgt := 6) hx hb dX12_worthOf_1 (by decide) (fun _ => ?_) (fun h9 => absurd h9 (by decide +kernel))
  refine lv_aload_n hx hb dX12_worthOf_6 rfl (lv_at hl 0 rfl) ?_
  refine lv_iload_n hx hb dX12_worthOf_7 rfl (lv_at hl 1 rfl) ?_
  refine lv_iload_n hx hb dX12_worthOf_8 rfl (lv_at hl 2 rfl) ?_
  refine lv_iload_n hx hb dX12_worthOf_9 rfl (lv_at hl 3 rfl) ?_
  refine z_callVl (As := [.int pp, .int 3, .int d]) (rest := []) (wr := []) ⟨hx, hb, hml, hown, hts⟩ hK hE hT hP hD hS hA (r_triedWorth_3 l G cA h0 m_status m_thrown m_above m_under a_traySort a_trayMany a_numbers a_tape m_taped m_textEnd m_faultKind m_faultAt m_bad m_badAt m_token m_at m_behind m_number m_letters m_word a_c a_words m_markMany a_there a_tried a_best a_found m_thereMany m_foundMany m_orderHow m_orderRing m_orderMany m_hasBest m_bestTop m_bestBy a_weights a_shared m_random m_truePlace m_trueWay m_seconds m_done m_feelings m_tries m_leftOver m_playDoor m_playRing m_isOpen m_isOver m_wasTried m_hasPlayed a_feltNow a_last a_kept m_hasSeconds m_hasTurned m_hasRound a_hasFeels a_isOn m_firstAct m_meanTop m_meanBy a_order m_rowMany m_newSteps g_c g_there g_weights pp d hr_pp hr_d hr_m_thereMany hC_g_c hC_g_there) lk_RX12_362 ⟨rfl, rfl⟩ ⟨Nat.le_of_ble_eq_true rfl, Nat.le_of_ble_eq_true rfl⟩ 12 rfl rfl rfl [0, 1, 2, 3] [] rfl rfl (by decide) rfl hl.1 rfl (lv_room (Nat.le_of_ble_eq_true rfl)) dX12_worthOf_10 ⟨Nat.le_of_ble_eq_true rfl, Nat.le_of_ble_eq_true rfl⟩ (fun r_3 u_4 H locs hw hP hD hS => ?_)
  obtain ⟨n_1, n_2⟩ := u_4
  try dsimp only at hw
  refine lv_lstore (lv' := [(4, .long r_3), (0, .ref h0), (1, .int pp), (2, .int 3), (3, .int d)]) hx hb dX12_worthOf_13 hl (by decide) rfl (fun ls hl => ?_)
  refine lv_iconst (v := 0) hx hb dX12_worthOf_15 (by decide) ?_
  refine lv_istore (lv' := [(6, .int 0), (4, .long r_3), (0, .ref h0), (1, .int pp), (2, .int 3), (3, .int d)]) hx hb dX12_worthOf_16 hl (by decide) rfl (fun ls hl => ?_)
  refine lv_aload_n hx hb dX12_worthOf_18 rfl (lv_at hl 2 rfl) ?_
  refine lv_iload_n hx hb dX12_worthOf_19 rfl (lv_at hl 3 rfl) ?_
  refine lv_iload_n hx hb dX12_worthOf_20 rfl (lv_at hl 4 rfl) ?_
  refine lv_iload_n hx hb dX12_worthOf_21 rfl (lv_at hl 5 rfl) ?_
  refine z_callVl (As := [.int pp, .int 3, .int d]) (rest := []) (wr := []) ⟨hx, hb, hml, hown, hts⟩ hK hE hT hP hD hS hA (r_goneWorth_3 l G cA h0 m_status m_thrown m_above m_under a_traySort a_trayMany a_numbers a_tape m_taped m_textEnd m_faultKind m_faultAt m_bad m_badAt m_token m_at m_behind m_number m_letters m_word a_c a_words m_markMany a_there a_tried a_best a_found m_thereMany m_foundMany m_orderHow m_orderRing m_orderMany m_hasBest m_bestTop m_bestBy a_weights a_shared m_random m_truePlace m_trueWay m_seconds m_done m_feelings m_tries m_leftOver m_playDoor m_playRing m_isOpen m_isOver m_wasTried m_hasPlayed a_feltNow a_last a_kept m_hasSeconds m_hasTurned m_hasRound a_hasFeels a_isOn n_1 m_meanTop m_meanBy a_order m_rowMany m_newSteps g_c g_there n_2 pp d hr_pp hr_d hr_m_thereMany hC_g_c hC_g_there) lk_RX12_366 ⟨rfl, rfl⟩ ⟨Nat.le_of_ble_eq_true rfl, Nat.le_of_ble_eq_true rfl⟩ 12 rfl rfl rfl [0, 1, 2, 3] [] rfl rfl (by decide) rfl hl.1 rfl (lv_room (Nat.le_of_ble_eq_true rfl)) dX12_worthOf_22 ⟨Nat.le_of_ble_eq_true rfl, Nat.le_of_ble_eq_true rfl⟩ (fun r_7 u_8 H locs hw hP hD hS => ?_)
  obtain ⟨n_5, n_6⟩ := u_8
  try dsimp only at hw
  refine lv_lstore (lv' := [(7, .long r_7), (6, .int 0), (4, .long r_3), (0, .ref h0), (1, .int pp), (2, .int 3), (3, .int d)]) hx hb dX12_worthOf_25 hl (by decide) rfl (fun ls hl => ?_)
  refine lv_lload hx hb dX12_worthOf_27 (lv_at hl 0 rfl) ?_
  refine lv_lload hx hb dX12_worthOf_29 (lv_at hl 2 rfl) ?_
  refine W.lcmp hx hb dX12_worthOf_31 ?_
  refine lv_if_le (tgt := 42) hx hb dX12_worthOf_32 (by decide) (fun c_9 => ?_) (fun c_9 => ?_)
  · have b_10 := z_fleTl c_9
    refine lv_iconst (v := 0) hx hb dX12_worthOf_42 (by decide) ?_
    refine lv_istore (lv' := [(9, .int 0), (7, .long r_7), (6, .int 0), (4, .long r_3), (0, .ref h0), (1, .int pp), (2, .int 3), (3, .int d)]) hx hb dX12_worthOf_43 hl (by decide) rfl (fun ls hl => ?_)
    have hlp_102 : ∀ (n : Nat) (v_82 : Int64) (v_83 : Int32) (v_84 : Int64) (v_85 : Int32) (v_86 : Int32) (g_87 : Nat → Int64) (H : Heap) (locs : List Loc) (ls : Array Slot), (2147483647 - v_85.toInt).toNat < n → (0 ≤ v_83.toInt ∧ v_83.toInt ≤ 4) → (0 ≤ v_85.toInt ∧ v_85.toInt ≤ 3) → va_P G vwCl [(h0, .inr (12, [.int m_status, .int m_thrown, .long m_above, .long m_under, .ref a_traySort, .ref a_trayMany, .ref a_numbers, .ref a_tape, .int m_taped, .int m_textEnd, .int m_faultKind, .int m_faultAt, .int m_bad, .int m_badAt, .int m_token, .int m_at, .int m_behind, .int m_number, .int m_letters, .long m_word, .ref a_c, .ref a_words, .int m_markMany, .ref a_there, .ref a_tried, .ref a_best, .ref a_found, .int m_thereMany, .int m_foundMany, .int m_orderHow, .int m_orderRing, .int m_orderMany, .int m_hasBest, .long m_bestTop, .long m_bestBy, .ref a_weights, .ref a_shared, .int m_random, .int m_truePlace, .int m_trueWay, .int m_seconds, .int m_done, .int m_feelings, .int m_tries, .int m_leftOver, .int m_playDoor, .int m_playRing, .int m_isOpen, .int m_isOver, .int m_wasTried, .int m_hasPlayed, .ref a_feltNow, .ref a_last, .ref a_kept, .int m_hasSeconds, .int m_hasTurned, .int m_hasRound, .ref a_hasFeels, .ref a_isOn, .int v_86, .long m_meanTop, .long m_meanBy, .ref a_order, .int m_rowMany, .int m_newSteps])), (a_c, .inl (cA.1 0, 1825, .inl g_c)), (a_there, .inl (cA.1 0, 10, .inl g_there)), (a_weights, .inl (cA.1 1, 100, .inr (.inl g_87)))] H → va_D A [(h0, .inr (12, [.int m_status, .int m_thrown, .long m_above, .long m_under, .ref a_traySort, .ref a_trayMany, .ref a_numbers, .ref a_tape, .int m_taped, .int m_textEnd, .int m_faultKind, .int m_faultAt, .int m_bad, .int m_badAt, .int m_token, .int m_at, .int m_behind, .int m_number, .int m_letters, .long m_word, .ref a_c, .ref a_words, .int m_markMany, .ref a_there, .ref a_tried, .ref a_best, .ref a_found, .int m_thereMany, .int m_foundMany, .int m_orderHow, .int m_orderRing, .int m_orderMany, .int m_hasBest, .long m_bestTop, .long m_bestBy, .ref a_weights, .ref a_shared, .int m_random, .int m_truePlace, .int m_trueWay, .int m_seconds, .int m_done, .int m_feelings, .int m_tries, .int m_leftOver, .int m_playDoor, .int m_playRing, .int m_isOpen, .int m_isOver, .int m_wasTried, .int m_hasPlayed, .ref a_feltNow, .ref a_last, .ref a_kept, .int m_hasSeconds, .int m_hasTurned, .int m_hasRound, .ref a_hasFeels, .ref a_isOn, .int v_86, .long m_meanTop, .long m_meanBy, .ref a_order, .int m_rowMany, .int m_newSteps])), (a_c, .inl (cA.1 0, 1825, .inl g_c)), (a_there, .inl (cA.1 0, 10, .inl g_there)), (a_weights, .inl (cA.1 1, 100, .inr (.inl g_87)))] → va_S A s.heap H locs → lv_has ls 10 [(0, .ref h0), (1, .int pp), (2, .int 3), (3, .int d), (4, .long v_82), (6, .int v_83), (7, .long v_84), (9, .int v_85)] → W p l e ({ frames := 7, cells := 0, slots := 0, locals := 190 }) s m args below meth c H locs 0 0 Q (F0 m 45 ls []) := by
      intro n
      induction n with
      | zero =>
        intro v_82 v_83 v_84 v_85 v_86 g_87 H locs ls hmu_hlp_102 hr_v_83 hr_v_85 hP hD hS hl
        exact absurd hmu_hlp_102 (Nat.not_lt_zero _)
      | succ n ih_103 =>
        intro v_82 v_83 v_84 v_85 v_86 g_87 H locs ls hmu_hlp_102 hr_v_83 hr_v_85 hP hD hS hl
        refine lv_iload hx hb dX12_worthOf_45 (lv_at hl 7 rfl) ?_
        refine lv_aload_n hx hb dX12_worthOf_47 rfl (lv_at hl 0 rfl) ?_
        refine va_get (D := G) (ci := 12) (v := .ref a_c) (C := RX12) (T := TX12) (N := 65) hx hb hts inT12 hown hK hP 0 rfl rfl 20 (by decide) (hts _ tw_1905) (fun _ h9 => h9) rfl dX12_worthOf_48 ?_
        refine lv_iconst (v := 0) hx hb dX12_worthOf_51 (by decide) ?_
        refine va_iald hx hb hK hP 1 0 rfl rfl (z_in (i := 0) (n := 1825) (by decide +kernel) (by decide +kernel)) dX12_worthOf_52 ?_
        refine lv_topi (fun x_104 he_x_104 => ?_)
        have hr_x_104 := z_ctk hC_g_c he_x_104 (k := 0) (lo := 0) (hi := 3) (by decide +kernel) (by decide +kernel) (by decide +kernel)
        refine lv_icmp_ge (tgt := 94) hx hb dX12_worthOf_53 (by decide) (fun c_105 => ?_) (fun c_105 => ?_)
        · have b_106 := z_fgeT c_105
          refine lv_iload_n hx hb dX12_worthOf_94 rfl (lv_at hl 1 rfl) ?_
          refine lv_if_ne (tgt := 104) hx hb dX12_worthOf_95 (by decide) (fun c_107 => ?_) (fun c_107 => ?_)
          · have b_108 := z_fneT c_107
            refine lv_lload hx hb dX12_worthOf_104 (lv_at hl 4 rfl) ?_
            exact hret _ _ _ _ _ _ (v_86, g_87) [0, 1, 2, 3] hP hD hS rfl (by decide) dX12_worthOf_106 trivial
          · have b_109 := z_feqF c_107
            refine lv_aload_n hx hb dX12_worthOf_98 rfl (lv_at hl 0 rfl) ?_
            refine lv_iload hx hb dX12_worthOf_99 (lv_at hl 5 rfl) ?_
            refine va_put (D := G) (ci := 12) (v := .int v_83) (ty := .int) (C := RX12) (T := TX12) (N := 65) hx hb hts inT12 tyX12 tyX12_ok nmX12 hown hK hP hD hS 0 rfl rfl 59 (by decide) (hts _ tw_1942) (fun _ h9 => h9) rfl (tyX12_ok 59 (by decide)) rfl rfl (Nat.le_of_ble_eq_true rfl) dX12_worthOf_101 (fun H locs hP hD hS => ?_)
            refine lv_lload hx hb dX12_worthOf_104 (lv_at hl 4 rfl) ?_
            exact hret _ _ _ _ _ _ (v_83, g_87) [0, 1, 2, 3] hP hD hS rfl (by decide) dX12_worthOf_106 trivial
        · have b_110 := z_fltF c_105
          refine lv_aload_n hx hb dX12_worthOf_56 rfl (lv_at hl 0 rfl) ?_
          refine lv_iload_n hx hb dX12_worthOf_57 rfl (lv_at hl 1 rfl) ?_
          refine lv_iload_n hx hb dX12_worthOf_58 rfl (lv_at hl 2 rfl) ?_
          refine lv_iload_n hx hb dX12_worthOf_59 rfl (lv_at hl 3 rfl) ?_
          refine lv_iload hx hb dX12_worthOf_60 (lv_at hl 7 rfl) ?_
          refine z_callVl (As := [.int pp, .int 3, .int d, .int v_85]) (rest := []) (wr := []) ⟨hx, hb, hml, hown, hts⟩ hK hE hT hP hD hS hA (r_feltWorth_3 l G cA h0 m_status m_thrown m_above m_under a_traySort a_trayMany a_numbers a_tape m_taped m_textEnd m_faultKind m_faultAt m_bad m_badAt m_token m_at m_behind m_number m_letters m_word a_c a_words m_markMany a_there a_tried a_best a_found m_thereMany m_foundMany m_orderHow m_orderRing m_orderMany m_hasBest m_bestTop m_bestBy a_weights a_shared m_random m_truePlace m_trueWay m_seconds m_done m_feelings m_tries m_leftOver m_playDoor m_playRing m_isOpen m_isOver m_wasTried m_hasPlayed a_feltNow a_last a_kept m_hasSeconds m_hasTurned m_hasRound a_hasFeels a_isOn v_86 m_meanTop m_meanBy a_order m_rowMany m_newSteps g_c g_there g_87 pp d v_85 hr_pp hr_d (by omega) hr_m_thereMany hC_g_c hC_g_there) lk_RX12_369 ⟨rfl, rfl⟩ ⟨Nat.le_of_ble_eq_true rfl, Nat.le_of_ble_eq_true rfl⟩ 12 rfl rfl rfl [0, 1, 2, 3] [] rfl rfl (by decide) rfl hl.1 rfl (lv_room (Nat.le_of_ble_eq_true rfl)) dX12_worthOf_62 ⟨Nat.le_of_ble_eq_true rfl, Nat.le_of_ble_eq_true rfl⟩ (fun r_113 u_114 H locs hw hP hD hS => ?_)
          obtain ⟨n_111, n_112⟩ := u_114
          try dsimp only at hw
          refine lv_lstore (lv' := [(7, .long r_113), (0, .ref h0), (1, .int pp), (2, .int 3), (3, .int d), (4, .long v_82), (6, .int v_83), (9, .int v_85)]) hx hb dX12_worthOf_65 hl (by decide) rfl (fun ls hl => ?_)
          refine lv_lload hx hb dX12_worthOf_67 (lv_at hl 0 rfl) ?_
          refine lv_lload hx hb dX12_worthOf_69 (lv_at hl 5 rfl) ?_
          refine W.lcmp hx hb dX12_worthOf_71 ?_
          refine lv_if_gt (tgt := 78) hx hb dX12_worthOf_72 (by decide) (fun c_115 => ?_) (fun c_115 => ?_)
          · have b_116 := z_fgtTl c_115
            refine lv_lload hx hb dX12_worthOf_78 (lv_at hl 0 rfl) ?_
            refine lv_lstore (lv' := [(4, .long r_113), (7, .long r_113), (0, .ref h0), (1, .int pp), (2, .int 3), (3, .int d), (6, .int v_83), (9, .int v_85)]) hx hb dX12_worthOf_80 hl (by decide) rfl (fun ls hl => ?_)
            refine lv_iconst (v := 2) hx hb dX12_worthOf_82 (by decide) ?_
            refine lv_iload hx hb dX12_worthOf_83 (lv_at hl 7 rfl) ?_
            refine lv_iadd hx hb dX12_worthOf_85 ?_
            refine lv_topi (fun x_117 he_x_117 => ?_)
            have hq_x_117 := z_addq he_x_117 hk_2 (rfl : v_85.toInt = _) (by omega) (by omega)
            refine lv_istore (lv' := [(6, .int x_117), (4, .long r_113), (7, .long r_113), (0, .ref h0), (1, .int pp), (2, .int 3), (3, .int d), (9, .int v_85)]) hx hb dX12_worthOf_86 hl (by decide) rfl (fun ls hl => ?_)
            obtain ⟨x_118, he_x_118⟩ : ∃ z : Int32, z = v_85 + 1 := ⟨_, rfl⟩
            have hq_x_118 := z_addq he_x_118 (rfl : v_85.toInt = _) hk_1 (by omega) (by omega)
            refine lv_iinc (v := x_118) (lv' := [(9, .int x_118), (6, .int x_117), (4, .long r_113), (7, .long r_113), (0, .ref h0), (1, .int pp), (2, .int 3), (3, .int d)]) hx hb dX12_worthOf_88 hl (k := 7) rfl ((z_ofi (by decide +kernel)).trans he_x_118.symm) (by decide) rfl (fun ls hl => ?_)
            refine lv_goto (tgt := 45) hx hb dX12_worthOf_91 (by decide) ?_
            exact ih_103 r_113 x_117 r_113 x_118 n_111 n_112 H locs ls (by omega) (by omega) (by omega) hP hD hS (lv_sub hl [4, 5, 6, 7, 2, 1, 3, 0] rfl)
          · have b_119 := z_fleFl c_115
            refine lv_goto (tgt := 88) hx hb dX12_worthOf_75 (by decide) ?_
            obtain ⟨x_120, he_x_120⟩ : ∃ z : Int32, z = v_85 + 1 := ⟨_, rfl⟩
            have hq_x_120 := z_addq he_x_120 (rfl : v_85.toInt = _) hk_1 (by omega) (by omega)
            refine lv_iinc (v := x_120) (lv' := [(9, .int x_120), (7, .long r_113), (0, .ref h0), (1, .int pp), (2, .int 3), (3, .int d), (4, .long v_82), (6, .int v_83)]) hx hb dX12_worthOf_88 hl (k := 7) rfl ((z_ofi (by decide +kernel)).trans he_x_120.symm) (by decide) rfl (fun ls hl => ?_)
            refine lv_goto (tgt := 45) hx hb dX12_worthOf_91 (by decide) ?_
            exact ih_103 v_82 v_83 r_113 x_120 n_111 n_112 H locs ls (by omega) hr_v_83 (by omega) hP hD hS (lv_sub hl [2, 3, 4, 5, 6, 7, 1, 0] rfl)
    exact hlp_102 _ r_3 0 r_7 0 n_5 n_6 _ _ _ (Nat.lt_succ_self _) (by decide +kernel) (by decide +kernel) hP hD hS (lv_sub hl [4, 5, 6, 7, 3, 2, 1, 0] rfl)
  · have b_121 := z_fgtFl c_9
    refine lv_lload hx hb dX12_worthOf_35 (lv_at hl 0 rfl) ?_
    refine lv_lstore (lv' := [(4, .long r_7), (7, .long r_7), (6, .int 0), (0, .ref h0), (1, .int pp), (2, .int 3), (3, .int d)]) hx hb dX12_worthOf_37 hl (by decide) rfl (fun ls hl => ?_)
    refine lv_iconst (v := 1) hx hb dX12_worthOf_39 (by decide) ?_
    refine lv_istore (lv' := [(6, .int 1), (4, .long r_7), (7, .long r_7), (0, .ref h0), (1, .int pp), (2, .int 3), (3, .int d)]) hx hb dX12_worthOf_40 hl (by decide) rfl (fun ls hl => ?_)
    refine lv_iconst (v := 0) hx hb dX12_worthOf_42 (by decide) ?_
    refine lv_istore (lv' := [(9, .int 0), (6, .int 1), (4, .long r_7), (7, .long r_7), (0, .ref h0), (1, .int pp), (2, .int 3), (3, .int d)]) hx hb dX12_worthOf_43 hl (by decide) rfl (fun ls hl => ?_)
    have hlp_213 : ∀ (n : Nat) (v_193 : Int64) (v_194 : Int32) (v_195 : Int64) (v_196 : Int32) (v_197 : Int32) (g_198 : Nat → Int64) (H : Heap) (locs : List Loc) (ls : Array Slot), (2147483647 - v_196.toInt).toNat < n → (1 ≤ v_194.toInt ∧ v_194.toInt ≤ 4) → (0 ≤ v_196.toInt ∧ v_196.toInt ≤ 3) → va_P G vwCl [(h0, .inr (12, [.int m_status, .int m_thrown, .long m_above, .long m_under, .ref a_traySort, .ref a_trayMany, .ref a_numbers, .ref a_tape, .int m_taped, .int m_textEnd, .int m_faultKind, .int m_faultAt, .int m_bad, .int m_badAt, .int m_token, .int m_at, .int m_behind, .int m_number, .int m_letters, .long m_word, .ref a_c, .ref a_words, .int m_markMany, .ref a_there, .ref a_tried, .ref a_best, .ref a_found, .int m_thereMany, .int m_foundMany, .int m_orderHow, .int m_orderRing, .int m_orderMany, .int m_hasBest, .long m_bestTop, .long m_bestBy, .ref a_weights, .ref a_shared, .int m_random, .int m_truePlace, .int m_trueWay, .int m_seconds, .int m_done, .int m_feelings, .int m_tries, .int m_leftOver, .int m_playDoor, .int m_playRing, .int m_isOpen, .int m_isOver, .int m_wasTried, .int m_hasPlayed, .ref a_feltNow, .ref a_last, .ref a_kept, .int m_hasSeconds, .int m_hasTurned, .int m_hasRound, .ref a_hasFeels, .ref a_isOn, .int v_197, .long m_meanTop, .long m_meanBy, .ref a_order, .int m_rowMany, .int m_newSteps])), (a_c, .inl (cA.1 0, 1825, .inl g_c)), (a_there, .inl (cA.1 0, 10, .inl g_there)), (a_weights, .inl (cA.1 1, 100, .inr (.inl g_198)))] H → va_D A [(h0, .inr (12, [.int m_status, .int m_thrown, .long m_above, .long m_under, .ref a_traySort, .ref a_trayMany, .ref a_numbers, .ref a_tape, .int m_taped, .int m_textEnd, .int m_faultKind, .int m_faultAt, .int m_bad, .int m_badAt, .int m_token, .int m_at, .int m_behind, .int m_number, .int m_letters, .long m_word, .ref a_c, .ref a_words, .int m_markMany, .ref a_there, .ref a_tried, .ref a_best, .ref a_found, .int m_thereMany, .int m_foundMany, .int m_orderHow, .int m_orderRing, .int m_orderMany, .int m_hasBest, .long m_bestTop, .long m_bestBy, .ref a_weights, .ref a_shared, .int m_random, .int m_truePlace, .int m_trueWay, .int m_seconds, .int m_done, .int m_feelings, .int m_tries, .int m_leftOver, .int m_playDoor, .int m_playRing, .int m_isOpen, .int m_isOver, .int m_wasTried, .int m_hasPlayed, .ref a_feltNow, .ref a_last, .ref a_kept, .int m_hasSeconds, .int m_hasTurned, .int m_hasRound, .ref a_hasFeels, .ref a_isOn, .int v_197, .long m_meanTop, .long m_meanBy, .ref a_order, .int m_rowMany, .int m_newSteps])), (a_c, .inl (cA.1 0, 1825, .inl g_c)), (a_there, .inl (cA.1 0, 10, .inl g_there)), (a_weights, .inl (cA.1 1, 100, .inr (.inl g_198)))] → va_S A s.heap H locs → lv_has ls 10 [(0, .ref h0), (1, .int pp), (2, .int 3), (3, .int d), (4, .long v_193), (6, .int v_194), (7, .long v_195), (9, .int v_196)] → W p l e ({ frames := 7, cells := 0, slots := 0, locals := 190 }) s m args below meth c H locs 0 0 Q (F0 m 45 ls []) := by
      intro n
      induction n with
      | zero =>
        intro v_193 v_194 v_195 v_196 v_197 g_198 H locs ls hmu_hlp_213 hr_v_194 hr_v_196 hP hD hS hl
        exact absurd hmu_hlp_213 (Nat.not_lt_zero _)
      | succ n ih_214 =>
        intro v_193 v_194 v_195 v_196 v_197 g_198 H locs ls hmu_hlp_213 hr_v_194 hr_v_196 hP hD hS hl
        refine lv_iload hx hb dX12_worthOf_45 (lv_at hl 7 rfl) ?_
        refine lv_aload_n hx hb dX12_worthOf_47 rfl (lv_at hl 0 rfl) ?_
        refine va_get (D := G) (ci := 12) (v := .ref a_c) (C := RX12) (T := TX12) (N := 65) hx hb hts inT12 hown hK hP 0 rfl rfl 20 (by decide) (hts _ tw_1905) (fun _ h9 => h9) rfl dX12_worthOf_48 ?_
        refine lv_iconst (v := 0) hx hb dX12_worthOf_51 (by decide) ?_
        refine va_iald hx hb hK hP 1 0 rfl rfl (z_in (i := 0) (n := 1825) (by decide +kernel) (by decide +kernel)) dX12_worthOf_52 ?_
        refine lv_topi (fun x_215 he_x_215 => ?_)
        have hr_x_215 := z_ctk hC_g_c he_x_215 (k := 0) (lo := 0) (hi := 3) (by decide +kernel) (by decide +kernel) (by decide +kernel)
        refine lv_icmp_ge (tgt := 94) hx hb dX12_worthOf_53 (by decide) (fun c_216 => ?_) (fun c_216 => ?_)
        · have b_217 := z_fgeT c_216
          refine lv_iload_n hx hb dX12_worthOf_94 rfl (lv_at hl 1 rfl) ?_
          refine lv_if_ne (tgt := 104) hx hb dX12_worthOf_95 (by decide) (fun c_218 => ?_) (fun c_218 => ?_)
          · have b_219 := z_fneT c_218
            refine lv_lload hx hb dX12_worthOf_104 (lv_at hl 4 rfl) ?_
            exact hret _ _ _ _ _ _ (v_197, g_198) [0, 1, 2, 3] hP hD hS rfl (by decide) dX12_worthOf_106 trivial
          · have b_220 := z_feqF c_218
            refine lv_aload_n hx hb dX12_worthOf_98 rfl (lv_at hl 0 rfl) ?_
            refine lv_iload hx hb dX12_worthOf_99 (lv_at hl 5 rfl) ?_
            refine va_put (D := G) (ci := 12) (v := .int v_194) (ty := .int) (C := RX12) (T := TX12) (N := 65) hx hb hts inT12 tyX12 tyX12_ok nmX12 hown hK hP hD hS 0 rfl rfl 59 (by decide) (hts _ tw_1942) (fun _ h9 => h9) rfl (tyX12_ok 59 (by decide)) rfl rfl (Nat.le_of_ble_eq_true rfl) dX12_worthOf_101 (fun H locs hP hD hS => ?_)
            refine lv_lload hx hb dX12_worthOf_104 (lv_at hl 4 rfl) ?_
            exact hret _ _ _ _ _ _ (v_194, g_198) [0, 1, 2, 3] hP hD hS rfl (by decide) dX12_worthOf_106 trivial
        · have b_221 := z_fltF c_216
          refine lv_aload_n hx hb dX12_worthOf_56 rfl (lv_at hl 0 rfl) ?_
          refine lv_iload_n hx hb dX12_worthOf_57 rfl (lv_at hl 1 rfl) ?_
          refine lv_iload_n hx hb dX12_worthOf_58 rfl (lv_at hl 2 rfl) ?_
          refine lv_iload_n hx hb dX12_worthOf_59 rfl (lv_at hl 3 rfl) ?_
          refine lv_iload hx hb dX12_worthOf_60 (lv_at hl 7 rfl) ?_
          refine z_callVl (As := [.int pp, .int 3, .int d, .int v_196]) (rest := []) (wr := []) ⟨hx, hb, hml, hown, hts⟩ hK hE hT hP hD hS hA (r_feltWorth_3 l G cA h0 m_status m_thrown m_above m_under a_traySort a_trayMany a_numbers a_tape m_taped m_textEnd m_faultKind m_faultAt m_bad m_badAt m_token m_at m_behind m_number m_letters m_word a_c a_words m_markMany a_there a_tried a_best a_found m_thereMany m_foundMany m_orderHow m_orderRing m_orderMany m_hasBest m_bestTop m_bestBy a_weights a_shared m_random m_truePlace m_trueWay m_seconds m_done m_feelings m_tries m_leftOver m_playDoor m_playRing m_isOpen m_isOver m_wasTried m_hasPlayed a_feltNow a_last a_kept m_hasSeconds m_hasTurned m_hasRound a_hasFeels a_isOn v_197 m_meanTop m_meanBy a_order m_rowMany m_newSteps g_c g_there g_198 pp d v_196 hr_pp hr_d (by omega) hr_m_thereMany hC_g_c hC_g_there) lk_RX12_369 ⟨rfl, rfl⟩ ⟨Nat.le_of_ble_eq_true rfl, Nat.le_of_ble_eq_true rfl⟩ 12 rfl rfl rfl [0, 1, 2, 3] [] rfl rfl (by decide) rfl hl.1 rfl (lv_room (Nat.le_of_ble_eq_true rfl)) dX12_worthOf_62 ⟨Nat.le_of_ble_eq_true rfl, Nat.le_of_ble_eq_true rfl⟩ (fun r_224 u_225 H locs hw hP hD hS => ?_)
          obtain ⟨n_222, n_223⟩ := u_225
          try dsimp only at hw
          refine lv_lstore (lv' := [(7, .long r_224), (0, .ref h0), (1, .int pp), (2, .int 3), (3, .int d), (4, .long v_193), (6, .int v_194), (9, .int v_196)]) hx hb dX12_worthOf_65 hl (by decide) rfl (fun ls hl => ?_)
          refine lv_lload hx hb dX12_worthOf_67 (lv_at hl 0 rfl) ?_
          refine lv_lload hx hb dX12_worthOf_69 (lv_at hl 5 rfl) ?_
          refine W.lcmp hx hb dX12_worthOf_71 ?_
          refine lv_if_gt (tgt := 78) hx hb dX12_worthOf_72 (by decide) (fun c_226 => ?_) (fun c_226 => ?_)
          · have b_227 := z_fgtTl c_226
            refine lv_lload hx hb dX12_worthOf_78 (lv_at hl 0 rfl) ?_
            refine lv_lstore (lv' := [(4, .long r_224), (7, .long r_224), (0, .ref h0), (1, .int pp), (2, .int 3), (3, .int d), (6, .int v_194), (9, .int v_196)]) hx hb dX12_worthOf_80 hl (by decide) rfl (fun ls hl => ?_)
            refine lv_iconst (v := 2) hx hb dX12_worthOf_82 (by decide) ?_
            refine lv_iload hx hb dX12_worthOf_83 (lv_at hl 7 rfl) ?_
            refine lv_iadd hx hb dX12_worthOf_85 ?_
            refine lv_topi (fun x_228 he_x_228 => ?_)
            have hq_x_228 := z_addq he_x_228 hk_2 (rfl : v_196.toInt = _) (by omega) (by omega)
            refine lv_istore (lv' := [(6, .int x_228), (4, .long r_224), (7, .long r_224), (0, .ref h0), (1, .int pp), (2, .int 3), (3, .int d), (9, .int v_196)]) hx hb dX12_worthOf_86 hl (by decide) rfl (fun ls hl => ?_)
            obtain ⟨x_229, he_x_229⟩ : ∃ z : Int32, z = v_196 + 1 := ⟨_, rfl⟩
            have hq_x_229 := z_addq he_x_229 (rfl : v_196.toInt = _) hk_1 (by omega) (by omega)
            refine lv_iinc (v := x_229) (lv' := [(9, .int x_229), (6, .int x_228), (4, .long r_224), (7, .long r_224), (0, .ref h0), (1, .int pp), (2, .int 3), (3, .int d)]) hx hb dX12_worthOf_88 hl (k := 7) rfl ((z_ofi (by decide +kernel)).trans he_x_229.symm) (by decide) rfl (fun ls hl => ?_)
            refine lv_goto (tgt := 45) hx hb dX12_worthOf_91 (by decide) ?_
            exact ih_214 r_224 x_228 r_224 x_229 n_222 n_223 H locs ls (by omega) (by omega) (by omega) hP hD hS (lv_sub hl [4, 5, 6, 7, 2, 1, 3, 0] rfl)
          · have b_230 := z_fleFl c_226
            refine lv_goto (tgt := 88) hx hb dX12_worthOf_75 (by decide) ?_
            obtain ⟨x_231, he_x_231⟩ : ∃ z : Int32, z = v_196 + 1 := ⟨_, rfl⟩
            have hq_x_231 := z_addq he_x_231 (rfl : v_196.toInt = _) hk_1 (by omega) (by omega)
            refine lv_iinc (v := x_231) (lv' := [(9, .int x_231), (7, .long r_224), (0, .ref h0), (1, .int pp), (2, .int 3), (3, .int d), (4, .long v_193), (6, .int v_194)]) hx hb dX12_worthOf_88 hl (k := 7) rfl ((z_ofi (by decide +kernel)).trans he_x_231.symm) (by decide) rfl (fun ls hl => ?_)
            refine lv_goto (tgt := 45) hx hb dX12_worthOf_91 (by decide) ?_
            exact ih_214 v_193 v_194 r_224 x_231 n_222 n_223 H locs ls (by omega) hr_v_194 (by omega) hP hD hS (lv_sub hl [2, 3, 4, 5, 6, 7, 1, 0] rfl)
    exact hlp_213 _ r_7 1 r_7 0 n_5 n_6 _ _ _ (Nat.lt_succ_self _) (by decide +kernel) (by decide +kernel) hP hD hS (lv_sub hl [4, 5, 6, 7, 2, 1, 3, 0] rfl)
set_option maxHeartbeats 4000000 in
set_option maxRecDepth 100000 in
theorem r_triedWorth_4 (l : Launch) (G : va_G) (cA : zCA) (h0 : Nat) (m_status : Int32) (m_thrown : Int32) (m_above : Int64) (m_under : Int64) (a_traySort : Nat) (a_trayMany : Nat) (a_numbers : Nat) (a_tape : Nat) (m_taped : Int32) (m_textEnd : Int32) (m_faultKind : Int32) (m_faultAt : Int32) (m_bad : Int32) (m_badAt : Int32) (m_token : Int32) (m_at : Int32) (m_behind : Int32) (m_number : Int32) (m_letters : Int32) (m_word : Int64) (a_c : Nat) (a_words : Nat) (m_markMany : Int32) (a_there : Nat) (a_tried : Nat) (a_best : Nat) (a_found : Nat) (m_thereMany : Int32) (m_foundMany : Int32) (m_orderHow : Int32) (m_orderRing : Int32) (m_orderMany : Int32) (m_hasBest : Int32) (m_bestTop : Int64) (m_bestBy : Int64) (a_weights : Nat) (a_shared : Nat) (m_random : Int32) (m_truePlace : Int32) (m_trueWay : Int32) (m_seconds : Int32) (m_done : Int32) (m_feelings : Int32) (m_tries : Int32) (m_leftOver : Int32) (m_playDoor : Int32) (m_playRing : Int32) (m_isOpen : Int32) (m_isOver : Int32) (m_wasTried : Int32) (m_hasPlayed : Int32) (a_feltNow : Nat) (a_last : Nat) (a_kept : Nat) (m_hasSeconds : Int32) (m_hasTurned : Int32) (m_hasRound : Int32) (a_hasFeels : Nat) (a_isOn : Nat) (m_firstAct : Int32) (m_meanTop : Int64) (m_meanBy : Int64) (a_order : Nat) (m_rowMany : Int32) (m_newSteps : Int32) (g_c : Nat → Int32) (g_there : Nat → Int32) (g_weights : Nat → Int64) (pp : Int32) (d : Int32) (hr_pp : 0 ≤ pp.toInt ∧ pp.toInt ≤ 0) (hr_d : 0 ≤ d.toInt ∧ d.toInt ≤ 4) (hr_m_thereMany : 0 ≤ m_thereMany.toInt ∧ m_thereMany.toInt ≤ 10) (hC_g_c : zC g_c) (hC_g_there : zRg 10 0 9 g_there) : zCl l yX12_triedWorth cX12_triedWorth 8 (some .long) ({ frames := 8, cells := 0, slots := 0, locals := 219 }) G cA [.ref h0, .int pp, .int 4, .int d] [(h0, .inr (12, [.int m_status, .int m_thrown, .long m_above, .long m_under, .ref a_traySort, .ref a_trayMany, .ref a_numbers, .ref a_tape, .int m_taped, .int m_textEnd, .int m_faultKind, .int m_faultAt, .int m_bad, .int m_badAt, .int m_token, .int m_at, .int m_behind, .int m_number, .int m_letters, .long m_word, .ref a_c, .ref a_words, .int m_markMany, .ref a_there, .ref a_tried, .ref a_best, .ref a_found, .int m_thereMany, .int m_foundMany, .int m_orderHow, .int m_orderRing, .int m_orderMany, .int m_hasBest, .long m_bestTop, .long m_bestBy, .ref a_weights, .ref a_shared, .int m_random, .int m_truePlace, .int m_trueWay, .int m_seconds, .int m_done, .int m_feelings, .int m_tries, .int m_leftOver, .int m_playDoor, .int m_playRing, .int m_isOpen, .int m_isOver, .int m_wasTried, .int m_hasPlayed, .ref a_feltNow, .ref a_last, .ref a_kept, .int m_hasSeconds, .int m_hasTurned, .int m_hasRound, .ref a_hasFeels, .ref a_isOn, .int m_firstAct, .long m_meanTop, .long m_meanBy, .ref a_order, .int m_rowMany, .int m_newSteps])), (a_c, .inl (cA.1 0, 1825, .inl g_c)), (a_there, .inl (cA.1 0, 10, .inl g_there)), (a_weights, .inl (cA.1 1, 100, .inr (.inl g_weights)))] (S := Int32 × (Nat → Int64)) (fun (r : Int64) (u : Int32 × (Nat → Int64)) => True) (fun (u : Int32 × (Nat → Int64)) => [(h0, .inr (12, [.int m_status, .int m_thrown, .long m_above, .long m_under, .ref a_traySort, .ref a_trayMany, .ref a_numbers, .ref a_tape, .int m_taped, .int m_textEnd, .int m_faultKind, .int m_faultAt, .int m_bad, .int m_badAt, .int m_token, .int m_at, .int m_behind, .int m_number, .int m_letters, .long m_word, .ref a_c, .ref a_words, .int m_markMany, .ref a_there, .ref a_tried, .ref a_best, .ref a_found, .int m_thereMany, .int m_foundMany, .int m_orderHow, .int m_orderRing, .int m_orderMany, .int m_hasBest, .long m_bestTop, .long m_bestBy, .ref a_weights, .ref a_shared, .int m_random, .int m_truePlace, .int m_trueWay, .int m_seconds, .int m_done, .int m_feelings, .int m_tries, .int m_leftOver, .int m_playDoor, .int m_playRing, .int m_isOpen, .int m_isOver, .int m_wasTried, .int m_hasPlayed, .ref a_feltNow, .ref a_last, .ref a_kept, .int m_hasSeconds, .int m_hasTurned, .int m_hasRound, .ref a_hasFeels, .ref a_isOn, .int u.1, .long m_meanTop, .long m_meanBy, .ref a_order, .int m_rowMany, .int m_newSteps])), (a_c, .inl (cA.1 0, 1825, .inl g_c)), (a_there, .inl (cA.1 0, 10, .inl g_there)), (a_weights, .inl (cA.1 1, 100, .inr (.inl u.2)))]) 0 0 := by
  have hk_0 : (0 : Int32).toInt = 0 := by decide +kernel
  have hk_1 : (1 : Int32).toInt = 1 := by decide +kernel
  have hk_2 : (2 : Int32).toInt = 2 := by decide +kernel
  have hk_3 : (3 : Int32).toInt = 3 := by decide +kernel
  have hk_4 : (4 : Int32).toInt = 4 := by decide +kernel
  have hk_20 : (20 : Int32).toInt = 20 := by decide +kernel
  have hkl_0 : (0 : Int64).toInt = 0 := by decide +kernel
  refine z_start2l (own := RX12) (by decide) (Nat.le_of_ble_eq_true rfl) rfl ?_
  intro p e s m args below meth c A ls Q hx hb hml hts hown hK hE hT hP hD hS hA hl hret
  have hl : lv_has ls 8 [(0, .ref h0), (1, .int pp), (2, .int 4), (3, .int d)] := hl
  refine lv_lconst (v := 0) hx hb dX12_triedWorth_0 (by decide) ?_
  refine lv_lstore (lv' := [(4, .long 0), (0, .ref h0), (1, .int pp), (2, .int 4), (3, .int d)]) hx hb dX12_triedWorth_1 hl (by decide) rfl (fun ls hl => ?_)
  refine lv_iconst (v := 0) hx hb dX12_triedWorth_3 (by decide) ?_
  refine lv_istore (lv' := [(6, .int 0), (4, .long 0), (0, .ref h0), (1, .int pp), (2, .int 4), (3, .int d)]) hx hb dX12_triedWorth_4 hl (by decide) rfl (fun ls hl => ?_)
  have hlp_645 : ∀ (n : Nat) (v_614 : Int64) (v_615 : Int32) (g_616 : Nat → Int64) (H : Heap) (locs : List Loc) (ls : Array Slot), (2147483647 - v_615.toInt).toNat < n → (0 ≤ v_615.toInt ∧ v_615.toInt ≤ 20) → va_P G vwCl [(h0, .inr (12, [.int m_status, .int m_thrown, .long m_above, .long m_under, .ref a_traySort, .ref a_trayMany, .ref a_numbers, .ref a_tape, .int m_taped, .int m_textEnd, .int m_faultKind, .int m_faultAt, .int m_bad, .int m_badAt, .int m_token, .int m_at, .int m_behind, .int m_number, .int m_letters, .long m_word, .ref a_c, .ref a_words, .int m_markMany, .ref a_there, .ref a_tried, .ref a_best, .ref a_found, .int m_thereMany, .int m_foundMany, .int m_orderHow, .int m_orderRing, .int m_orderMany, .int m_hasBest, .long m_bestTop, .long m_bestBy, .ref a_weights, .ref a_shared, .int m_random, .int m_truePlace, .int m_trueWay, .int m_seconds, .int m_done, .int m_feelings, .int m_tries, .int m_leftOver, .int m_playDoor, .int m_playRing, .int m_isOpen, .int m_isOver, .int m_wasTried, .int m_hasPlayed, .ref a_feltNow, .ref a_last, .ref a_kept, .int m_hasSeconds, .int m_hasTurned, .int m_hasRound, .ref a_hasFeels, .ref a_isOn, .int m_firstAct, .long m_meanTop, .long m_meanBy, .ref a_order, .int m_rowMany, .int m_newSteps])), (a_c, .inl (cA.1 0, 1825, .inl g_c)), (a_there, .inl (cA.1 0, 10, .inl g_there)), (a_weights, .inl (cA.1 1, 100, .inr (.inl g_616)))] H → va_D A [(h0, .inr (12, [.int m_status, .int m_thrown, .long m_above, .long m_under, .ref a_traySort, .ref a_trayMany, .ref a_numbers, .ref a_tape, .int m_taped, .int m_textEnd, .int m_faultKind, .int m_faultAt, .int m_bad, .int m_badAt, .int m_token, .int m_at, .int m_behind, .int m_number, .int m_letters, .long m_word, .ref a_c, .ref a_words, .int m_markMany, .ref a_there, .ref a_tried, .ref a_best, .ref a_found, .int m_thereMany, .int m_foundMany, .int m_orderHow, .int m_orderRing, .int m_orderMany, .int m_hasBest, .long m_bestTop, .long m_bestBy, .ref a_weights, .ref a_shared, .int m_random, .int m_truePlace, .int m_trueWay, .int m_seconds, .int m_done, .int m_feelings, .int m_tries, .int m_leftOver, .int m_playDoor, .int m_playRing, .int m_isOpen, .int m_isOver, .int m_wasTried, .int m_hasPlayed, .ref a_feltNow, .ref a_last, .ref a_kept, .int m_hasSeconds, .int m_hasTurned, .int m_hasRound, .ref a_hasFeels, .ref a_isOn, .int m_firstAct, .long m_meanTop, .long m_meanBy, .ref a_order, .int m_rowMany, .int m_newSteps])), (a_c, .inl (cA.1 0, 1825, .inl g_c)), (a_there, .inl (cA.1 0, 10, .inl g_there)), (a_weights, .inl (cA.1 1, 100, .inr (.inl g_616)))] → va_S A s.heap H locs → lv_has ls 8 [(0, .ref h0), (1, .int pp), (2, .int 4), (3, .int d), (4, .long v_614), (6, .int v_615)] → W p l e ({ frames := 8, cells := 0, slots := 0, locals := 219 }) s m args below meth c H locs 0 0 Q (F0 m 6 ls []) := by
    intro n
    induction n with
    | zero =>
      intro v_614 v_615 g_616 H locs ls hmu_hlp_645 hr_v_615 hP hD hS hl
      exact absurd hmu_hlp_645 (Nat.not_lt_zero _)
    | succ n ih_646 =>
      intro v_614 v_615 g_616 H locs ls hmu_hlp_645 hr_v_615 hP hD hS hl
      refine lv_iload hx hb dX12_triedWorth_6 (lv_at hl 5 rfl) ?_
      refine lv_iconst (v := 2) hx hb dX12_triedWorth_8 (by decide) ?_
      refine lv_aload_n hx hb dX12_triedWorth_9 rfl (lv_at hl 0 rfl) ?_
      refine va_get (D := G) (ci := 12) (v := .int m_thereMany) (C := RX12) (T := TX12) (N := 65) hx hb hts inT12 hown hK hP 0 rfl rfl 27 (by decide) (hts _ tw_1912) (fun _ h9 => h9) rfl dX12_triedWorth_10 ?_
      refine lv_imul hx hb dX12_triedWorth_13 ?_
      refine lv_topi (fun x_647 he_x_647 => ?_)
      have hq_x_647 := z_mulq he_x_647 hk_2 (rfl : m_thereMany.toInt = _) (by omega) (by omega)
      refine lv_icmp_ge (tgt := 101) hx hb dX12_triedWorth_14 (by decide) (fun c_648 => ?_) (fun c_648 => ?_)
      · have b_649 := z_fgeT c_648
        refine lv_lload hx hb dX12_triedWorth_101 (lv_at hl 4 rfl) ?_
        refine lv_iload_n hx hb dX12_triedWorth_103 rfl (lv_at hl 2 rfl) ?_
        refine z_callSl (As := [.int 4]) (rest := [.long v_614]) (wr := [(h0, .inr (12, [.int m_status, .int m_thrown, .long m_above, .long m_under, .ref a_traySort, .ref a_trayMany, .ref a_numbers, .ref a_tape, .int m_taped, .int m_textEnd, .int m_faultKind, .int m_faultAt, .int m_bad, .int m_badAt, .int m_token, .int m_at, .int m_behind, .int m_number, .int m_letters, .long m_word, .ref a_c, .ref a_words, .int m_markMany, .ref a_there, .ref a_tried, .ref a_best, .ref a_found, .int m_thereMany, .int m_foundMany, .int m_orderHow, .int m_orderRing, .int m_orderMany, .int m_hasBest, .long m_bestTop, .long m_bestBy, .ref a_weights, .ref a_shared, .int m_random, .int m_truePlace, .int m_trueWay, .int m_seconds, .int m_done, .int m_feelings, .int m_tries, .int m_leftOver, .int m_playDoor, .int m_playRing, .int m_isOpen, .int m_isOver, .int m_wasTried, .int m_hasPlayed, .ref a_feltNow, .ref a_last, .ref a_kept, .int m_hasSeconds, .int m_hasTurned, .int m_hasRound, .ref a_hasFeels, .ref a_isOn, .int m_firstAct, .long m_meanTop, .long m_meanBy, .ref a_order, .int m_rowMany, .int m_newSteps])), (a_c, .inl (cA.1 0, 1825, .inl g_c)), (a_there, .inl (cA.1 0, 10, .inl g_there)), (a_weights, .inl (cA.1 1, 100, .inr (.inl g_616)))]) ⟨hx, hb, hml, hown, hts⟩ hK hE hT hP hD hS hA (r_power l G cA 4 (by decide +kernel)) lk_RX12_376 ⟨rfl, rfl⟩ ⟨Nat.le_of_ble_eq_true rfl, Nat.le_of_ble_eq_true rfl⟩ [] [0, 1, 2, 3] rfl rfl (by decide) rfl hl.1 rfl (lv_room (Nat.le_of_ble_eq_true rfl)) dX12_triedWorth_104 ⟨Nat.le_of_ble_eq_true rfl, Nat.le_of_ble_eq_true rfl⟩ (fun r_650 u_651 H locs hw hP hD hS => ?_)
        refine lv_lmul hx hb dX12_triedWorth_107 ?_
        have hL_v_614 := z_fulll v_614
        have hL_r_650 := z_fulll r_650
        refine lv_topl (fun x_652 he_x_652 => ?_)
        refine lv_ldc2 (v := 16) hx hb hown (hts _ tw_2470) dX12_triedWorth_108 ?_
        refine lv_aload_n hx hb dX12_triedWorth_111 rfl (lv_at hl 0 rfl) ?_
        refine lv_iload_n hx hb dX12_triedWorth_112 rfl (lv_at hl 1 rfl) ?_
        refine lv_iconst (v := 1) hx hb dX12_triedWorth_113 (by decide) ?_
        refine lv_iadd hx hb dX12_triedWorth_114 ?_
        refine lv_topi (fun x_653 he_x_653 => ?_)
        have hq_x_653 := z_addq he_x_653 (rfl : pp.toInt = _) hk_1 (by omega) (by omega)
        refine lv_iload_n hx hb dX12_triedWorth_115 rfl (lv_at hl 2 rfl) ?_
        refine lv_iconst (v := 1) hx hb dX12_triedWorth_116 (by decide) ?_
        refine lv_isub hx hb dX12_triedWorth_117 ?_
        refine z_topi (y := 3) (by decide +kernel) ?_
        refine lv_iload_n hx hb dX12_triedWorth_118 rfl (lv_at hl 3 rfl) ?_
        refine z_callVl (As := [.int x_653, .int 3, .int d]) (rest := [.long 16, .long x_652]) (wr := []) ⟨hx, hb, hml, hown, hts⟩ hK hE hT hP hD hS hA (r_worthOf_3 l G cA h0 m_status m_thrown m_above m_under a_traySort a_trayMany a_numbers a_tape m_taped m_textEnd m_faultKind m_faultAt m_bad m_badAt m_token m_at m_behind m_number m_letters m_word a_c a_words m_markMany a_there a_tried a_best a_found m_thereMany m_foundMany m_orderHow m_orderRing m_orderMany m_hasBest m_bestTop m_bestBy a_weights a_shared m_random m_truePlace m_trueWay m_seconds m_done m_feelings m_tries m_leftOver m_playDoor m_playRing m_isOpen m_isOver m_wasTried m_hasPlayed a_feltNow a_last a_kept m_hasSeconds m_hasTurned m_hasRound a_hasFeels a_isOn m_firstAct m_meanTop m_meanBy a_order m_rowMany m_newSteps g_c g_there g_616 x_653 d (by omega) hr_d hr_m_thereMany hC_g_c hC_g_there) lk_RX12_379 ⟨rfl, rfl⟩ ⟨Nat.le_of_ble_eq_true rfl, Nat.le_of_ble_eq_true rfl⟩ 12 rfl rfl rfl [0, 1, 2, 3] [] rfl rfl (by decide) rfl hl.1 rfl (lv_room (Nat.le_of_ble_eq_true rfl)) dX12_triedWorth_119 ⟨Nat.le_of_ble_eq_true rfl, Nat.le_of_ble_eq_true rfl⟩ (fun r_656 u_657 H locs hw hP hD hS => ?_)
        obtain ⟨n_654, n_655⟩ := u_657
        try dsimp only at hw
        refine lv_lmul hx hb dX12_triedWorth_122 ?_
        have hL_r_656 := z_fulll r_656
        refine lv_topl (fun x_658 he_x_658 => ?_)
        refine lv_ladd hx hb dX12_triedWorth_123 ?_
        have hL_x_652 := z_fulll x_652
        have hL_x_658 := z_fulll x_658
        refine lv_topl (fun x_659 he_x_659 => ?_)
        exact hret _ _ _ _ _ _ (n_654, n_655) [0, 1, 2, 3] hP hD hS rfl (by decide) dX12_triedWorth_124 trivial
      · have b_660 := z_fltF c_648
        refine lv_aload_n hx hb dX12_triedWorth_17 rfl (lv_at hl 0 rfl) ?_
        refine lv_aload_n hx hb dX12_triedWorth_18 rfl (lv_at hl 0 rfl) ?_
        refine va_get (D := G) (ci := 12) (v := .ref a_there) (C := RX12) (T := TX12) (N := 65) hx hb hts inT12 hown hK hP 0 rfl rfl 23 (by decide) (hts _ tw_1908) (fun _ h9 => h9) rfl dX12_triedWorth_19 ?_
        refine lv_iload hx hb dX12_triedWorth_22 (lv_at hl 5 rfl) ?_
        refine lv_iconst (v := 2) hx hb dX12_triedWorth_24 (by decide) ?_
        refine lv_idiv hx hb dX12_triedWorth_25 (by decide +kernel) ?_
        refine lv_topi (fun x_661 he_x_661 => ?_)
        have hq_x_661 := z_divq he_x_661 (rfl : v_615.toInt = _) hk_2 (by omega) (by decide)
        refine va_iald hx hb hK hP 2 0 rfl rfl (z_inN (by omega) (by omega)) dX12_triedWorth_26 ?_
        refine lv_topi (fun x_662 he_x_662 => ?_)
        have hr_x_662 := z_rg hC_g_there he_x_662 (by omega) (by omega)
        refine lv_iload_n hx hb dX12_triedWorth_27 rfl (lv_at hl 3 rfl) ?_
        refine z_callVi (As := [.int x_662, .int d]) (rest := []) (wr := [(a_there, .inl (cA.1 0, 10, .inl g_there)), (a_weights, .inl (cA.1 1, 100, .inr (.inl g_616)))]) ⟨hx, hb, hml, hown, hts⟩ hK hE hT hP hD hS hA (r_canOpen l G cA h0 m_status m_thrown m_above m_under a_traySort a_trayMany a_numbers a_tape m_taped m_textEnd m_faultKind m_faultAt m_bad m_badAt m_token m_at m_behind m_number m_letters m_word a_c a_words m_markMany a_there a_tried a_best a_found m_thereMany m_foundMany m_orderHow m_orderRing m_orderMany m_hasBest m_bestTop m_bestBy a_weights a_shared m_random m_truePlace m_trueWay m_seconds m_done m_feelings m_tries m_leftOver m_playDoor m_playRing m_isOpen m_isOver m_wasTried m_hasPlayed a_feltNow a_last a_kept m_hasSeconds m_hasTurned m_hasRound a_hasFeels a_isOn m_firstAct m_meanTop m_meanBy a_order m_rowMany m_newSteps g_c x_662 d hr_x_662 hr_d hC_g_c) lk_RX12_345 ⟨rfl, rfl⟩ ⟨Nat.le_of_ble_eq_true rfl, Nat.le_of_ble_eq_true rfl⟩ 12 rfl rfl rfl [0, 1] [2, 3] rfl rfl (by decide) rfl hl.1 rfl (lv_room (Nat.le_of_ble_eq_true rfl)) dX12_triedWorth_28 ⟨Nat.le_of_ble_eq_true rfl, Nat.le_of_ble_eq_true rfl⟩ (fun r_663 u_664 H locs hw hP hD hS => ?_)
        obtain ⟨he_r_663, hw⟩ := hw
        rcases hw with ⟨rfl, hf_665⟩ | ⟨rfl, hf_666⟩
        · skip
          refine lv_istore (lv' := [(7, .int 0), (0, .ref h0), (1, .int pp), (2, .int 4), (3, .int d), (4, .long v_614), (6, .int v_615)]) hx hb dX12_triedWorth_31 hl (by decide) rfl (fun ls hl => ?_)
          refine lv_lload hx hb dX12_triedWorth_33 (lv_at hl 5 rfl) ?_
          refine lv_iload hx hb dX12_triedWorth_35 (lv_at hl 0 rfl) ?_
          refine lv_if_eq (tgt := 55) hx hb dX12_triedWorth_37 (by decide) (fun _ => ?_) (fun h9 => absurd (by decide +kernel) h9)
          refine lv_lconst (v := 0) hx hb dX12_triedWorth_55 (by decide) ?_
          refine lv_ladd hx hb dX12_triedWorth_56 ?_
          have hL_v_614 := z_fulll v_614
          refine lv_topl (fun x_667 he_x_667 => ?_)
          have hq_x_667 := z_addql he_x_667 (rfl : v_614.toInt = _) hkl_0 (by omega) (by omega)
          refine lv_lstore (lv' := [(4, .long x_667), (7, .int 0), (0, .ref h0), (1, .int pp), (2, .int 4), (3, .int d), (6, .int v_615)]) hx hb dX12_triedWorth_57 hl (by decide) rfl (fun ls hl => ?_)
          refine lv_aload_n hx hb dX12_triedWorth_59 rfl (lv_at hl 2 rfl) ?_
          refine va_get (D := G) (ci := 12) (v := .ref a_weights) (C := RX12) (T := TX12) (N := 65) hx hb hts inT12 hown hK hP 2 rfl rfl 35 (by decide) (hts _ tw_1919) (fun _ h9 => h9) rfl dX12_triedWorth_60 ?_
          refine lv_bipush (v := 20) hx hb dX12_triedWorth_63 (by decide) ?_
          refine lv_iload_n hx hb dX12_triedWorth_65 rfl (lv_at hl 3 rfl) ?_
          refine lv_imul hx hb dX12_triedWorth_66 ?_
          refine lv_topi (fun x_668 he_x_668 => ?_)
          have hq_x_668 := z_mulq he_x_668 hk_20 (rfl : pp.toInt = _) (by omega) (by omega)
          refine lv_bipush (v := 20) hx hb dX12_triedWorth_67 (by decide) ?_
          refine lv_iadd hx hb dX12_triedWorth_69 ?_
          refine lv_topi (fun x_669 he_x_669 => ?_)
          have hq_x_669 := z_addq he_x_669 (rfl : x_668.toInt = _) hk_20 (by omega) (by omega)
          refine lv_iload hx hb dX12_triedWorth_70 (lv_at hl 6 rfl) ?_
          refine lv_iadd hx hb dX12_triedWorth_72 ?_
          refine lv_topi (fun x_670 he_x_670 => ?_)
          have hq_x_670 := z_addq he_x_670 (rfl : x_669.toInt = _) (rfl : v_615.toInt = _) (by omega) (by omega)
          refine lv_iload hx hb dX12_triedWorth_73 (lv_at hl 1 rfl) ?_
          refine lv_if_eq (tgt := 82) hx hb dX12_triedWorth_75 (by decide) (fun _ => ?_) (fun h9 => absurd (by decide +kernel) h9)
          refine lv_aload_n hx hb dX12_triedWorth_82 rfl (lv_at hl 2 rfl) ?_
          refine va_get (D := G) (ci := 12) (v := .ref a_weights) (C := RX12) (T := TX12) (N := 65) hx hb hts inT12 hown hK hP 2 rfl rfl 35 (by decide) (hts _ tw_1919) (fun _ h9 => h9) rfl dX12_triedWorth_83 ?_
          refine lv_bipush (v := 20) hx hb dX12_triedWorth_86 (by decide) ?_
          refine lv_iload_n hx hb dX12_triedWorth_88 rfl (lv_at hl 3 rfl) ?_
          refine lv_imul hx hb dX12_triedWorth_89 ?_
          refine lv_topi (fun x_671 he_x_671 => ?_)
          have hq_x_671 := z_mulq he_x_671 hk_20 (rfl : pp.toInt = _) (by omega) (by omega)
          refine lv_iload hx hb dX12_triedWorth_90 (lv_at hl 6 rfl) ?_
          refine lv_iadd hx hb dX12_triedWorth_92 ?_
          refine lv_topi (fun x_672 he_x_672 => ?_)
          have hq_x_672 := z_addq he_x_672 (rfl : x_671.toInt = _) (rfl : v_615.toInt = _) (by omega) (by omega)
          refine va_lald hx hb hK hP 1 1 rfl rfl (z_inN (by omega) (by omega)) dX12_triedWorth_93 ?_
          refine lv_topl (fun x_673 he_x_673 => ?_)
          refine z_last hx hb hK hP hD hS 1 1 rfl rfl (z_inN (by omega) (by omega)) dX12_triedWorth_94 (fun g_674 hg_g_674 H locs hP hD hS => ?_)
          obtain ⟨x_675, he_x_675⟩ : ∃ z : Int32, z = v_615 + 1 := ⟨_, rfl⟩
          have hq_x_675 := z_addq he_x_675 (rfl : v_615.toInt = _) hk_1 (by omega) (by omega)
          refine lv_iinc (v := x_675) (lv' := [(6, .int x_675), (4, .long x_667), (7, .int 0), (0, .ref h0), (1, .int pp), (2, .int 4), (3, .int d)]) hx hb dX12_triedWorth_95 hl (k := 6) rfl ((z_ofi (by decide +kernel)).trans he_x_675.symm) (by decide) rfl (fun ls hl => ?_)
          refine lv_goto (tgt := 6) hx hb dX12_triedWorth_98 (by decide) ?_
          have hP := hP.sub (ws' := [(h0, .inr (12, [.int m_status, .int m_thrown, .long m_above, .long m_under, .ref a_traySort, .ref a_trayMany, .ref a_numbers, .ref a_tape, .int m_taped, .int m_textEnd, .int m_faultKind, .int m_faultAt, .int m_bad, .int m_badAt, .int m_token, .int m_at, .int m_behind, .int m_number, .int m_letters, .long m_word, .ref a_c, .ref a_words, .int m_markMany, .ref a_there, .ref a_tried, .ref a_best, .ref a_found, .int m_thereMany, .int m_foundMany, .int m_orderHow, .int m_orderRing, .int m_orderMany, .int m_hasBest, .long m_bestTop, .long m_bestBy, .ref a_weights, .ref a_shared, .int m_random, .int m_truePlace, .int m_trueWay, .int m_seconds, .int m_done, .int m_feelings, .int m_tries, .int m_leftOver, .int m_playDoor, .int m_playRing, .int m_isOpen, .int m_isOver, .int m_wasTried, .int m_hasPlayed, .ref a_feltNow, .ref a_last, .ref a_kept, .int m_hasSeconds, .int m_hasTurned, .int m_hasRound, .ref a_hasFeels, .ref a_isOn, .int m_firstAct, .long m_meanTop, .long m_meanBy, .ref a_order, .int m_rowMany, .int m_newSteps])), (a_c, .inl (cA.1 0, 1825, .inl g_c)), (a_there, .inl (cA.1 0, 10, .inl g_there)), (a_weights, .inl (cA.1 1, 100, .inr (.inl g_674)))]) [2, 3, 0, 1] rfl
          have hD := hD.sub (ws' := [(h0, .inr (12, [.int m_status, .int m_thrown, .long m_above, .long m_under, .ref a_traySort, .ref a_trayMany, .ref a_numbers, .ref a_tape, .int m_taped, .int m_textEnd, .int m_faultKind, .int m_faultAt, .int m_bad, .int m_badAt, .int m_token, .int m_at, .int m_behind, .int m_number, .int m_letters, .long m_word, .ref a_c, .ref a_words, .int m_markMany, .ref a_there, .ref a_tried, .ref a_best, .ref a_found, .int m_thereMany, .int m_foundMany, .int m_orderHow, .int m_orderRing, .int m_orderMany, .int m_hasBest, .long m_bestTop, .long m_bestBy, .ref a_weights, .ref a_shared, .int m_random, .int m_truePlace, .int m_trueWay, .int m_seconds, .int m_done, .int m_feelings, .int m_tries, .int m_leftOver, .int m_playDoor, .int m_playRing, .int m_isOpen, .int m_isOver, .int m_wasTried, .int m_hasPlayed, .ref a_feltNow, .ref a_last, .ref a_kept, .int m_hasSeconds, .int m_hasTurned, .int m_hasRound, .ref a_hasFeels, .ref a_isOn, .int m_firstAct, .long m_meanTop, .long m_meanBy, .ref a_order, .int m_rowMany, .int m_newSteps])), (a_c, .inl (cA.1 0, 1825, .inl g_c)), (a_there, .inl (cA.1 0, 10, .inl g_there)), (a_weights, .inl (cA.1 1, 100, .inr (.inl g_674)))]) [2, 3, 0, 1] (by decide) rfl
          exact ih_646 x_667 x_675 g_674 H locs ls (by omega) (by omega) hP hD hS (lv_sub hl [3, 4, 5, 6, 1, 0] rfl)
        · skip
          refine lv_istore (lv' := [(7, .int 1), (0, .ref h0), (1, .int pp), (2, .int 4), (3, .int d), (4, .long v_614), (6, .int v_615)]) hx hb dX12_triedWorth_31 hl (by decide) rfl (fun ls hl => ?_)
          refine lv_lload hx hb dX12_triedWorth_33 (lv_at hl 5 rfl) ?_
          refine lv_iload hx hb dX12_triedWorth_35 (lv_at hl 0 rfl) ?_
          refine lv_if_eq (tgt := 55) hx hb dX12_triedWorth_37 (by decide) (fun h9 => absurd h9 (by decide +kernel)) (fun _ => ?_)
          refine lv_aload_n hx hb dX12_triedWorth_40 rfl (lv_at hl 1 rfl) ?_
          refine va_get (D := G) (ci := 12) (v := .ref a_weights) (C := RX12) (T := TX12) (N := 65) hx hb hts inT12 hown hK hP 2 rfl rfl 35 (by decide) (hts _ tw_1919) (fun _ h9 => h9) rfl dX12_triedWorth_41 ?_
          refine lv_bipush (v := 20) hx hb dX12_triedWorth_44 (by decide) ?_
          refine lv_iload_n hx hb dX12_triedWorth_46 rfl (lv_at hl 2 rfl) ?_
          refine lv_imul hx hb dX12_triedWorth_47 ?_
          refine lv_topi (fun x_676 he_x_676 => ?_)
          have hq_x_676 := z_mulq he_x_676 hk_20 (rfl : pp.toInt = _) (by omega) (by omega)
          refine lv_iload hx hb dX12_triedWorth_48 (lv_at hl 6 rfl) ?_
          refine lv_iadd hx hb dX12_triedWorth_50 ?_
          refine lv_topi (fun x_677 he_x_677 => ?_)
          have hq_x_677 := z_addq he_x_677 (rfl : x_676.toInt = _) (rfl : v_615.toInt = _) (by omega) (by omega)
          refine va_lald hx hb hK hP 1 1 rfl rfl (z_inN (by omega) (by omega)) dX12_triedWorth_51 ?_
          refine lv_topl (fun x_678 he_x_678 => ?_)
          refine lv_goto (tgt := 56) hx hb dX12_triedWorth_52 (by decide) ?_
          refine lv_ladd hx hb dX12_triedWorth_56 ?_
          have hL_v_614 := z_fulll v_614
          have hL_x_678 := z_fulll x_678
          refine lv_topl (fun x_679 he_x_679 => ?_)
          refine lv_lstore (lv' := [(4, .long x_679), (7, .int 1), (0, .ref h0), (1, .int pp), (2, .int 4), (3, .int d), (6, .int v_615)]) hx hb dX12_triedWorth_57 hl (by decide) rfl (fun ls hl => ?_)
          refine lv_aload_n hx hb dX12_triedWorth_59 rfl (lv_at hl 2 rfl) ?_
          refine va_get (D := G) (ci := 12) (v := .ref a_weights) (C := RX12) (T := TX12) (N := 65) hx hb hts inT12 hown hK hP 2 rfl rfl 35 (by decide) (hts _ tw_1919) (fun _ h9 => h9) rfl dX12_triedWorth_60 ?_
          refine lv_bipush (v := 20) hx hb dX12_triedWorth_63 (by decide) ?_
          refine lv_iload_n hx hb dX12_triedWorth_65 rfl (lv_at hl 3 rfl) ?_
          refine lv_imul hx hb dX12_triedWorth_66 ?_
          refine lv_topi (fun x_680 he_x_680 => ?_)
          have hq_x_680 := z_mulq he_x_680 hk_20 (rfl : pp.toInt = _) (by omega) (by omega)
          refine lv_bipush (v := 20) hx hb dX12_triedWorth_67 (by decide) ?_
          refine lv_iadd hx hb dX12_triedWorth_69 ?_
          refine lv_topi (fun x_681 he_x_681 => ?_)
          have hq_x_681 := z_addq he_x_681 (rfl : x_680.toInt = _) hk_20 (by omega) (by omega)
          refine lv_iload hx hb dX12_triedWorth_70 (lv_at hl 6 rfl) ?_
          refine lv_iadd hx hb dX12_triedWorth_72 ?_
          refine lv_topi (fun x_682 he_x_682 => ?_)
          have hq_x_682 := z_addq he_x_682 (rfl : x_681.toInt = _) (rfl : v_615.toInt = _) (by omega) (by omega)
          refine lv_iload hx hb dX12_triedWorth_73 (lv_at hl 1 rfl) ?_
          refine lv_if_eq (tgt := 82) hx hb dX12_triedWorth_75 (by decide) (fun h9 => absurd h9 (by decide +kernel)) (fun _ => ?_)
          refine lv_lconst (v := 0) hx hb dX12_triedWorth_78 (by decide) ?_
          refine lv_goto (tgt := 94) hx hb dX12_triedWorth_79 (by decide) ?_
          refine z_last hx hb hK hP hD hS 1 1 rfl rfl (z_inN (by omega) (by omega)) dX12_triedWorth_94 (fun g_683 hg_g_683 H locs hP hD hS => ?_)
          obtain ⟨x_684, he_x_684⟩ : ∃ z : Int32, z = v_615 + 1 := ⟨_, rfl⟩
          have hq_x_684 := z_addq he_x_684 (rfl : v_615.toInt = _) hk_1 (by omega) (by omega)
          refine lv_iinc (v := x_684) (lv' := [(6, .int x_684), (4, .long x_679), (7, .int 1), (0, .ref h0), (1, .int pp), (2, .int 4), (3, .int d)]) hx hb dX12_triedWorth_95 hl (k := 6) rfl ((z_ofi (by decide +kernel)).trans he_x_684.symm) (by decide) rfl (fun ls hl => ?_)
          refine lv_goto (tgt := 6) hx hb dX12_triedWorth_98 (by decide) ?_
          have hP := hP.sub (ws' := [(h0, .inr (12, [.int m_status, .int m_thrown, .long m_above, .long m_under, .ref a_traySort, .ref a_trayMany, .ref a_numbers, .ref a_tape, .int m_taped, .int m_textEnd, .int m_faultKind, .int m_faultAt, .int m_bad, .int m_badAt, .int m_token, .int m_at, .int m_behind, .int m_number, .int m_letters, .long m_word, .ref a_c, .ref a_words, .int m_markMany, .ref a_there, .ref a_tried, .ref a_best, .ref a_found, .int m_thereMany, .int m_foundMany, .int m_orderHow, .int m_orderRing, .int m_orderMany, .int m_hasBest, .long m_bestTop, .long m_bestBy, .ref a_weights, .ref a_shared, .int m_random, .int m_truePlace, .int m_trueWay, .int m_seconds, .int m_done, .int m_feelings, .int m_tries, .int m_leftOver, .int m_playDoor, .int m_playRing, .int m_isOpen, .int m_isOver, .int m_wasTried, .int m_hasPlayed, .ref a_feltNow, .ref a_last, .ref a_kept, .int m_hasSeconds, .int m_hasTurned, .int m_hasRound, .ref a_hasFeels, .ref a_isOn, .int m_firstAct, .long m_meanTop, .long m_meanBy, .ref a_order, .int m_rowMany, .int m_newSteps])), (a_c, .inl (cA.1 0, 1825, .inl g_c)), (a_there, .inl (cA.1 0, 10, .inl g_there)), (a_weights, .inl (cA.1 1, 100, .inr (.inl g_683)))]) [2, 3, 0, 1] rfl
          have hD := hD.sub (ws' := [(h0, .inr (12, [.int m_status, .int m_thrown, .long m_above, .long m_under, .ref a_traySort, .ref a_trayMany, .ref a_numbers, .ref a_tape, .int m_taped, .int m_textEnd, .int m_faultKind, .int m_faultAt, .int m_bad, .int m_badAt, .int m_token, .int m_at, .int m_behind, .int m_number, .int m_letters, .long m_word, .ref a_c, .ref a_words, .int m_markMany, .ref a_there, .ref a_tried, .ref a_best, .ref a_found, .int m_thereMany, .int m_foundMany, .int m_orderHow, .int m_orderRing, .int m_orderMany, .int m_hasBest, .long m_bestTop, .long m_bestBy, .ref a_weights, .ref a_shared, .int m_random, .int m_truePlace, .int m_trueWay, .int m_seconds, .int m_done, .int m_feelings, .int m_tries, .int m_leftOver, .int m_playDoor, .int m_playRing, .int m_isOpen, .int m_isOver, .int m_wasTried, .int m_hasPlayed, .ref a_feltNow, .ref a_last, .ref a_kept, .int m_hasSeconds, .int m_hasTurned, .int m_hasRound, .ref a_hasFeels, .ref a_isOn, .int m_firstAct, .long m_meanTop, .long m_meanBy, .ref a_order, .int m_rowMany, .int m_newSteps])), (a_c, .inl (cA.1 0, 1825, .inl g_c)), (a_there, .inl (cA.1 0, 10, .inl g_there)), (a_weights, .inl (cA.1 1, 100, .inr (.inl g_683)))]) [2, 3, 0, 1] (by decide) rfl
          exact ih_646 x_679 x_684 g_683 H locs ls (by omega) (by omega) hP hD hS (lv_sub hl [3, 4, 5, 6, 1, 0] rfl)
  exact hlp_645 _ 0 0 g_weights _ _ _ (Nat.lt_succ_self _) (by decide +kernel) hP hD hS (lv_sub hl [2, 3, 4, 5, 1, 0] rfl)
set_option maxHeartbeats 4000000 in
set_option maxRecDepth 100000 in
theorem r_goneWorth_4 (l : Launch) (G : va_G) (cA : zCA) (h0 : Nat) (m_status : Int32) (m_thrown : Int32) (m_above : Int64) (m_under : Int64) (a_traySort : Nat) (a_trayMany : Nat) (a_numbers : Nat) (a_tape : Nat) (m_taped : Int32) (m_textEnd : Int32) (m_faultKind : Int32) (m_faultAt : Int32) (m_bad : Int32) (m_badAt : Int32) (m_token : Int32) (m_at : Int32) (m_behind : Int32) (m_number : Int32) (m_letters : Int32) (m_word : Int64) (a_c : Nat) (a_words : Nat) (m_markMany : Int32) (a_there : Nat) (a_tried : Nat) (a_best : Nat) (a_found : Nat) (m_thereMany : Int32) (m_foundMany : Int32) (m_orderHow : Int32) (m_orderRing : Int32) (m_orderMany : Int32) (m_hasBest : Int32) (m_bestTop : Int64) (m_bestBy : Int64) (a_weights : Nat) (a_shared : Nat) (m_random : Int32) (m_truePlace : Int32) (m_trueWay : Int32) (m_seconds : Int32) (m_done : Int32) (m_feelings : Int32) (m_tries : Int32) (m_leftOver : Int32) (m_playDoor : Int32) (m_playRing : Int32) (m_isOpen : Int32) (m_isOver : Int32) (m_wasTried : Int32) (m_hasPlayed : Int32) (a_feltNow : Nat) (a_last : Nat) (a_kept : Nat) (m_hasSeconds : Int32) (m_hasTurned : Int32) (m_hasRound : Int32) (a_hasFeels : Nat) (a_isOn : Nat) (m_firstAct : Int32) (m_meanTop : Int64) (m_meanBy : Int64) (a_order : Nat) (m_rowMany : Int32) (m_newSteps : Int32) (g_c : Nat → Int32) (g_there : Nat → Int32) (g_weights : Nat → Int64) (pp : Int32) (d : Int32) (hr_pp : 0 ≤ pp.toInt ∧ pp.toInt ≤ 0) (hr_d : 0 ≤ d.toInt ∧ d.toInt ≤ 4) (hr_m_thereMany : 0 ≤ m_thereMany.toInt ∧ m_thereMany.toInt ≤ 10) (hC_g_c : zC g_c) (hC_g_there : zRg 10 0 9 g_there) : zCl l yX12_goneWorth cX12_goneWorth 5 (some .long) ({ frames := 8, cells := 0, slots := 0, locals := 219 }) G cA [.ref h0, .int pp, .int 4, .int d] [(h0, .inr (12, [.int m_status, .int m_thrown, .long m_above, .long m_under, .ref a_traySort, .ref a_trayMany, .ref a_numbers, .ref a_tape, .int m_taped, .int m_textEnd, .int m_faultKind, .int m_faultAt, .int m_bad, .int m_badAt, .int m_token, .int m_at, .int m_behind, .int m_number, .int m_letters, .long m_word, .ref a_c, .ref a_words, .int m_markMany, .ref a_there, .ref a_tried, .ref a_best, .ref a_found, .int m_thereMany, .int m_foundMany, .int m_orderHow, .int m_orderRing, .int m_orderMany, .int m_hasBest, .long m_bestTop, .long m_bestBy, .ref a_weights, .ref a_shared, .int m_random, .int m_truePlace, .int m_trueWay, .int m_seconds, .int m_done, .int m_feelings, .int m_tries, .int m_leftOver, .int m_playDoor, .int m_playRing, .int m_isOpen, .int m_isOver, .int m_wasTried, .int m_hasPlayed, .ref a_feltNow, .ref a_last, .ref a_kept, .int m_hasSeconds, .int m_hasTurned, .int m_hasRound, .ref a_hasFeels, .ref a_isOn, .int m_firstAct, .long m_meanTop, .long m_meanBy, .ref a_order, .int m_rowMany, .int m_newSteps])), (a_c, .inl (cA.1 0, 1825, .inl g_c)), (a_there, .inl (cA.1 0, 10, .inl g_there)), (a_weights, .inl (cA.1 1, 100, .inr (.inl g_weights)))] (S := Int32 × (Nat → Int64)) (fun (r : Int64) (u : Int32 × (Nat → Int64)) => True) (fun (u : Int32 × (Nat → Int64)) => [(h0, .inr (12, [.int m_status, .int m_thrown, .long m_above, .long m_under, .ref a_traySort, .ref a_trayMany, .ref a_numbers, .ref a_tape, .int m_taped, .int m_textEnd, .int m_faultKind, .int m_faultAt, .int m_bad, .int m_badAt, .int m_token, .int m_at, .int m_behind, .int m_number, .int m_letters, .long m_word, .ref a_c, .ref a_words, .int m_markMany, .ref a_there, .ref a_tried, .ref a_best, .ref a_found, .int m_thereMany, .int m_foundMany, .int m_orderHow, .int m_orderRing, .int m_orderMany, .int m_hasBest, .long m_bestTop, .long m_bestBy, .ref a_weights, .ref a_shared, .int m_random, .int m_truePlace, .int m_trueWay, .int m_seconds, .int m_done, .int m_feelings, .int m_tries, .int m_leftOver, .int m_playDoor, .int m_playRing, .int m_isOpen, .int m_isOver, .int m_wasTried, .int m_hasPlayed, .ref a_feltNow, .ref a_last, .ref a_kept, .int m_hasSeconds, .int m_hasTurned, .int m_hasRound, .ref a_hasFeels, .ref a_isOn, .int u.1, .long m_meanTop, .long m_meanBy, .ref a_order, .int m_rowMany, .int m_newSteps])), (a_c, .inl (cA.1 0, 1825, .inl g_c)), (a_there, .inl (cA.1 0, 10, .inl g_there)), (a_weights, .inl (cA.1 1, 100, .inr (.inl u.2)))]) 0 0 := by
  have hk_0 : (0 : Int32).toInt = 0 := by decide +kernel
  have hk_1 : (1 : Int32).toInt = 1 := by decide +kernel
  have hk_2 : (2 : Int32).toInt = 2 := by decide +kernel
  have hk_3 : (3 : Int32).toInt = 3 := by decide +kernel
  have hk_20 : (20 : Int32).toInt = 20 := by decide +kernel
  refine z_start2l (own := RX12) (by decide) (Nat.le_of_ble_eq_true rfl) rfl ?_
  intro p e s m args below meth c A ls Q hx hb hml hts hown hK hE hT hP hD hS hA hl hret
  have hl : lv_has ls 5 [(0, .ref h0), (1, .int pp), (2, .int 4), (3, .int d)] := hl
  refine lv_iconst (v := 0) hx hb dX12_goneWorth_0 (by decide) ?_
  refine lv_istore (lv' := [(4, .int 0), (0, .ref h0), (1, .int pp), (2, .int 4), (3, .int d)]) hx hb dX12_goneWorth_1 hl (by decide) rfl (fun ls hl => ?_)
  have hlp_355 : ∀ (n : Nat) (v_338 : Int32) (g_339 : Nat → Int64) (H : Heap) (locs : List Loc) (ls : Array Slot), (2147483647 - v_338.toInt).toNat < n → (0 ≤ v_338.toInt ∧ v_338.toInt ≤ 20) → va_P G vwCl [(h0, .inr (12, [.int m_status, .int m_thrown, .long m_above, .long m_under, .ref a_traySort, .ref a_trayMany, .ref a_numbers, .ref a_tape, .int m_taped, .int m_textEnd, .int m_faultKind, .int m_faultAt, .int m_bad, .int m_badAt, .int m_token, .int m_at, .int m_behind, .int m_number, .int m_letters, .long m_word, .ref a_c, .ref a_words, .int m_markMany, .ref a_there, .ref a_tried, .ref a_best, .ref a_found, .int m_thereMany, .int m_foundMany, .int m_orderHow, .int m_orderRing, .int m_orderMany, .int m_hasBest, .long m_bestTop, .long m_bestBy, .ref a_weights, .ref a_shared, .int m_random, .int m_truePlace, .int m_trueWay, .int m_seconds, .int m_done, .int m_feelings, .int m_tries, .int m_leftOver, .int m_playDoor, .int m_playRing, .int m_isOpen, .int m_isOver, .int m_wasTried, .int m_hasPlayed, .ref a_feltNow, .ref a_last, .ref a_kept, .int m_hasSeconds, .int m_hasTurned, .int m_hasRound, .ref a_hasFeels, .ref a_isOn, .int m_firstAct, .long m_meanTop, .long m_meanBy, .ref a_order, .int m_rowMany, .int m_newSteps])), (a_c, .inl (cA.1 0, 1825, .inl g_c)), (a_there, .inl (cA.1 0, 10, .inl g_there)), (a_weights, .inl (cA.1 1, 100, .inr (.inl g_339)))] H → va_D A [(h0, .inr (12, [.int m_status, .int m_thrown, .long m_above, .long m_under, .ref a_traySort, .ref a_trayMany, .ref a_numbers, .ref a_tape, .int m_taped, .int m_textEnd, .int m_faultKind, .int m_faultAt, .int m_bad, .int m_badAt, .int m_token, .int m_at, .int m_behind, .int m_number, .int m_letters, .long m_word, .ref a_c, .ref a_words, .int m_markMany, .ref a_there, .ref a_tried, .ref a_best, .ref a_found, .int m_thereMany, .int m_foundMany, .int m_orderHow, .int m_orderRing, .int m_orderMany, .int m_hasBest, .long m_bestTop, .long m_bestBy, .ref a_weights, .ref a_shared, .int m_random, .int m_truePlace, .int m_trueWay, .int m_seconds, .int m_done, .int m_feelings, .int m_tries, .int m_leftOver, .int m_playDoor, .int m_playRing, .int m_isOpen, .int m_isOver, .int m_wasTried, .int m_hasPlayed, .ref a_feltNow, .ref a_last, .ref a_kept, .int m_hasSeconds, .int m_hasTurned, .int m_hasRound, .ref a_hasFeels, .ref a_isOn, .int m_firstAct, .long m_meanTop, .long m_meanBy, .ref a_order, .int m_rowMany, .int m_newSteps])), (a_c, .inl (cA.1 0, 1825, .inl g_c)), (a_there, .inl (cA.1 0, 10, .inl g_there)), (a_weights, .inl (cA.1 1, 100, .inr (.inl g_339)))] → va_S A s.heap H locs → lv_has ls 5 [(0, .ref h0), (1, .int pp), (2, .int 4), (3, .int d), (4, .int v_338)] → W p l e ({ frames := 8, cells := 0, slots := 0, locals := 219 }) s m args below meth c H locs 0 0 Q (F0 m 3 ls []) := by
    intro n
    induction n with
    | zero =>
      intro v_338 g_339 H locs ls hmu_hlp_355 hr_v_338 hP hD hS hl
      exact absurd hmu_hlp_355 (Nat.not_lt_zero _)
    | succ n ih_356 =>
      intro v_338 g_339 H locs ls hmu_hlp_355 hr_v_338 hP hD hS hl
      refine lv_iload hx hb dX12_goneWorth_3 (lv_at hl 4 rfl) ?_
      refine lv_iconst (v := 2) hx hb dX12_goneWorth_5 (by decide) ?_
      refine lv_aload_n hx hb dX12_goneWorth_6 rfl (lv_at hl 0 rfl) ?_
      refine va_get (D := G) (ci := 12) (v := .int m_thereMany) (C := RX12) (T := TX12) (N := 65) hx hb hts inT12 hown hK hP 0 rfl rfl 27 (by decide) (hts _ tw_1912) (fun _ h9 => h9) rfl dX12_goneWorth_7 ?_
      refine lv_imul hx hb dX12_goneWorth_10 ?_
      refine lv_topi (fun x_357 he_x_357 => ?_)
      have hq_x_357 := z_mulq he_x_357 hk_2 (rfl : m_thereMany.toInt = _) (by omega) (by omega)
      refine lv_icmp_ge (tgt := 51) hx hb dX12_goneWorth_11 (by decide) (fun c_358 => ?_) (fun c_358 => ?_)
      · have b_359 := z_fgeT c_358
        refine lv_ldc2 (v := 16) hx hb hown (hts _ tw_2470) dX12_goneWorth_51 ?_
        refine lv_aload_n hx hb dX12_goneWorth_54 rfl (lv_at hl 0 rfl) ?_
        refine lv_iload_n hx hb dX12_goneWorth_55 rfl (lv_at hl 1 rfl) ?_
        refine lv_iconst (v := 1) hx hb dX12_goneWorth_56 (by decide) ?_
        refine lv_iadd hx hb dX12_goneWorth_57 ?_
        refine lv_topi (fun x_360 he_x_360 => ?_)
        have hq_x_360 := z_addq he_x_360 (rfl : pp.toInt = _) hk_1 (by omega) (by omega)
        refine lv_iload_n hx hb dX12_goneWorth_58 rfl (lv_at hl 2 rfl) ?_
        refine lv_iconst (v := 1) hx hb dX12_goneWorth_59 (by decide) ?_
        refine lv_isub hx hb dX12_goneWorth_60 ?_
        refine z_topi (y := 3) (by decide +kernel) ?_
        refine lv_iload_n hx hb dX12_goneWorth_61 rfl (lv_at hl 3 rfl) ?_
        refine z_callVl (As := [.int x_360, .int 3, .int d]) (rest := [.long 16]) (wr := []) ⟨hx, hb, hml, hown, hts⟩ hK hE hT hP hD hS hA (r_worthOf_3 l G cA h0 m_status m_thrown m_above m_under a_traySort a_trayMany a_numbers a_tape m_taped m_textEnd m_faultKind m_faultAt m_bad m_badAt m_token m_at m_behind m_number m_letters m_word a_c a_words m_markMany a_there a_tried a_best a_found m_thereMany m_foundMany m_orderHow m_orderRing m_orderMany m_hasBest m_bestTop m_bestBy a_weights a_shared m_random m_truePlace m_trueWay m_seconds m_done m_feelings m_tries m_leftOver m_playDoor m_playRing m_isOpen m_isOver m_wasTried m_hasPlayed a_feltNow a_last a_kept m_hasSeconds m_hasTurned m_hasRound a_hasFeels a_isOn m_firstAct m_meanTop m_meanBy a_order m_rowMany m_newSteps g_c g_there g_339 x_360 d (by omega) hr_d hr_m_thereMany hC_g_c hC_g_there) lk_RX12_379 ⟨rfl, rfl⟩ ⟨Nat.le_of_ble_eq_true rfl, Nat.le_of_ble_eq_true rfl⟩ 12 rfl rfl rfl [0, 1, 2, 3] [] rfl rfl (by decide) rfl hl.1 rfl (lv_room (Nat.le_of_ble_eq_true rfl)) dX12_goneWorth_62 ⟨Nat.le_of_ble_eq_true rfl, Nat.le_of_ble_eq_true rfl⟩ (fun r_363 u_364 H locs hw hP hD hS => ?_)
        obtain ⟨n_361, n_362⟩ := u_364
        try dsimp only at hw
        refine lv_lmul hx hb dX12_goneWorth_65 ?_
        have hL_r_363 := z_fulll r_363
        refine lv_topl (fun x_365 he_x_365 => ?_)
        exact hret _ _ _ _ _ _ (n_361, n_362) [0, 1, 2, 3] hP hD hS rfl (by decide) dX12_goneWorth_66 trivial
      · have b_366 := z_fltF c_358
        refine lv_aload_n hx hb dX12_goneWorth_14 rfl (lv_at hl 0 rfl) ?_
        refine va_get (D := G) (ci := 12) (v := .ref a_weights) (C := RX12) (T := TX12) (N := 65) hx hb hts inT12 hown hK hP 0 rfl rfl 35 (by decide) (hts _ tw_1919) (fun _ h9 => h9) rfl dX12_goneWorth_15 ?_
        refine lv_bipush (v := 20) hx hb dX12_goneWorth_18 (by decide) ?_
        refine lv_iload_n hx hb dX12_goneWorth_20 rfl (lv_at hl 1 rfl) ?_
        refine lv_imul hx hb dX12_goneWorth_21 ?_
        refine lv_topi (fun x_367 he_x_367 => ?_)
        have hq_x_367 := z_mulq he_x_367 hk_20 (rfl : pp.toInt = _) (by omega) (by omega)
        refine lv_bipush (v := 20) hx hb dX12_goneWorth_22 (by decide) ?_
        refine lv_iadd hx hb dX12_goneWorth_24 ?_
        refine lv_topi (fun x_368 he_x_368 => ?_)
        have hq_x_368 := z_addq he_x_368 (rfl : x_367.toInt = _) hk_20 (by omega) (by omega)
        refine lv_aload_n hx hb dX12_goneWorth_25 rfl (lv_at hl 0 rfl) ?_
        refine lv_iload hx hb dX12_goneWorth_26 (lv_at hl 4 rfl) ?_
        refine z_callVi (As := [.int v_338]) (rest := [.int x_368, .ref a_weights]) (wr := [(a_c, .inl (cA.1 0, 1825, .inl g_c)), (a_there, .inl (cA.1 0, 10, .inl g_there)), (a_weights, .inl (cA.1 1, 100, .inr (.inl g_339)))]) ⟨hx, hb, hml, hown, hts⟩ hK hE hT hP hD hS hA (r_onward l G cA h0 m_status m_thrown m_above m_under a_traySort a_trayMany a_numbers a_tape m_taped m_textEnd m_faultKind m_faultAt m_bad m_badAt m_token m_at m_behind m_number m_letters m_word a_c a_words m_markMany a_there a_tried a_best a_found m_thereMany m_foundMany m_orderHow m_orderRing m_orderMany m_hasBest m_bestTop m_bestBy a_weights a_shared m_random m_truePlace m_trueWay m_seconds m_done m_feelings m_tries m_leftOver m_playDoor m_playRing m_isOpen m_isOver m_wasTried m_hasPlayed a_feltNow a_last a_kept m_hasSeconds m_hasTurned m_hasRound a_hasFeels a_isOn m_firstAct m_meanTop m_meanBy a_order m_rowMany m_newSteps v_338 (by omega) (by omega) (by omega)) lk_RX12_336 ⟨rfl, rfl⟩ ⟨Nat.le_of_ble_eq_true rfl, Nat.le_of_ble_eq_true rfl⟩ 12 rfl rfl rfl [0] [1, 2, 3] rfl rfl (by decide) rfl hl.1 rfl (lv_room (Nat.le_of_ble_eq_true rfl)) dX12_goneWorth_28 ⟨Nat.le_of_ble_eq_true rfl, Nat.le_of_ble_eq_true rfl⟩ (fun r_369 u_370 H locs hw hP hD hS => ?_)
        obtain ⟨hr_r_369, hf_371⟩ := hw
        refine lv_iadd hx hb dX12_goneWorth_31 ?_
        refine lv_topi (fun x_372 he_x_372 => ?_)
        have hq_x_372 := z_addq he_x_372 (rfl : x_368.toInt = _) (rfl : r_369.toInt = _) (by omega) (by omega)
        refine lv_aload_n hx hb dX12_goneWorth_32 rfl (lv_at hl 0 rfl) ?_
        refine va_get (D := G) (ci := 12) (v := .ref a_weights) (C := RX12) (T := TX12) (N := 65) hx hb hts inT12 hown hK hP 3 rfl rfl 35 (by decide) (hts _ tw_1919) (fun _ h9 => h9) rfl dX12_goneWorth_33 ?_
        refine lv_bipush (v := 20) hx hb dX12_goneWorth_36 (by decide) ?_
        refine lv_iload_n hx hb dX12_goneWorth_38 rfl (lv_at hl 1 rfl) ?_
        refine lv_imul hx hb dX12_goneWorth_39 ?_
        refine lv_topi (fun x_373 he_x_373 => ?_)
        have hq_x_373 := z_mulq he_x_373 hk_20 (rfl : pp.toInt = _) (by omega) (by omega)
        refine lv_iload hx hb dX12_goneWorth_40 (lv_at hl 4 rfl) ?_
        refine lv_iadd hx hb dX12_goneWorth_42 ?_
        refine lv_topi (fun x_374 he_x_374 => ?_)
        have hq_x_374 := z_addq he_x_374 (rfl : x_373.toInt = _) (rfl : v_338.toInt = _) (by omega) (by omega)
        refine va_lald hx hb hK hP 2 1 rfl rfl (z_inN (by omega) (by omega)) dX12_goneWorth_43 ?_
        refine lv_topl (fun x_375 he_x_375 => ?_)
        refine z_last hx hb hK hP hD hS 2 1 rfl rfl (z_inN (by omega) (by omega)) dX12_goneWorth_44 (fun g_376 hg_g_376 H locs hP hD hS => ?_)
        obtain ⟨x_377, he_x_377⟩ : ∃ z : Int32, z = v_338 + 1 := ⟨_, rfl⟩
        have hq_x_377 := z_addq he_x_377 (rfl : v_338.toInt = _) hk_1 (by omega) (by omega)
        refine lv_iinc (v := x_377) (lv' := [(4, .int x_377), (0, .ref h0), (1, .int pp), (2, .int 4), (3, .int d)]) hx hb dX12_goneWorth_45 hl (k := 4) rfl ((z_ofi (by decide +kernel)).trans he_x_377.symm) (by decide) rfl (fun ls hl => ?_)
        refine lv_goto (tgt := 3) hx hb dX12_goneWorth_48 (by decide) ?_
        have hP := hP.sub (ws' := [(h0, .inr (12, [.int m_status, .int m_thrown, .long m_above, .long m_under, .ref a_traySort, .ref a_trayMany, .ref a_numbers, .ref a_tape, .int m_taped, .int m_textEnd, .int m_faultKind, .int m_faultAt, .int m_bad, .int m_badAt, .int m_token, .int m_at, .int m_behind, .int m_number, .int m_letters, .long m_word, .ref a_c, .ref a_words, .int m_markMany, .ref a_there, .ref a_tried, .ref a_best, .ref a_found, .int m_thereMany, .int m_foundMany, .int m_orderHow, .int m_orderRing, .int m_orderMany, .int m_hasBest, .long m_bestTop, .long m_bestBy, .ref a_weights, .ref a_shared, .int m_random, .int m_truePlace, .int m_trueWay, .int m_seconds, .int m_done, .int m_feelings, .int m_tries, .int m_leftOver, .int m_playDoor, .int m_playRing, .int m_isOpen, .int m_isOver, .int m_wasTried, .int m_hasPlayed, .ref a_feltNow, .ref a_last, .ref a_kept, .int m_hasSeconds, .int m_hasTurned, .int m_hasRound, .ref a_hasFeels, .ref a_isOn, .int m_firstAct, .long m_meanTop, .long m_meanBy, .ref a_order, .int m_rowMany, .int m_newSteps])), (a_c, .inl (cA.1 0, 1825, .inl g_c)), (a_there, .inl (cA.1 0, 10, .inl g_there)), (a_weights, .inl (cA.1 1, 100, .inr (.inl g_376)))]) [3, 0, 1, 2] rfl
        have hD := hD.sub (ws' := [(h0, .inr (12, [.int m_status, .int m_thrown, .long m_above, .long m_under, .ref a_traySort, .ref a_trayMany, .ref a_numbers, .ref a_tape, .int m_taped, .int m_textEnd, .int m_faultKind, .int m_faultAt, .int m_bad, .int m_badAt, .int m_token, .int m_at, .int m_behind, .int m_number, .int m_letters, .long m_word, .ref a_c, .ref a_words, .int m_markMany, .ref a_there, .ref a_tried, .ref a_best, .ref a_found, .int m_thereMany, .int m_foundMany, .int m_orderHow, .int m_orderRing, .int m_orderMany, .int m_hasBest, .long m_bestTop, .long m_bestBy, .ref a_weights, .ref a_shared, .int m_random, .int m_truePlace, .int m_trueWay, .int m_seconds, .int m_done, .int m_feelings, .int m_tries, .int m_leftOver, .int m_playDoor, .int m_playRing, .int m_isOpen, .int m_isOver, .int m_wasTried, .int m_hasPlayed, .ref a_feltNow, .ref a_last, .ref a_kept, .int m_hasSeconds, .int m_hasTurned, .int m_hasRound, .ref a_hasFeels, .ref a_isOn, .int m_firstAct, .long m_meanTop, .long m_meanBy, .ref a_order, .int m_rowMany, .int m_newSteps])), (a_c, .inl (cA.1 0, 1825, .inl g_c)), (a_there, .inl (cA.1 0, 10, .inl g_there)), (a_weights, .inl (cA.1 1, 100, .inr (.inl g_376)))]) [3, 0, 1, 2] (by decide) rfl
        exact ih_356 x_377 g_376 H locs ls (by omega) (by omega) hP hD hS (lv_sub hl [1, 2, 3, 4, 0] rfl)
  exact hlp_355 _ 0 g_weights _ _ _ (Nat.lt_succ_self _) (by decide +kernel) hP hD hS (lv_sub hl [1, 2, 3, 4, 0] rfl)
set_option maxHeartbeats 4000000 in
set_option maxRecDepth 100000 in
theorem r_feltWorth_4 (l : Launch) (G : va_G) (cA : zCA) (h0 : Nat) (m_status : Int32) (m_thrown : Int32) (m_above : Int64) (m_under : Int64) (a_traySort : Nat) (a_trayMany : Nat) (a_numbers : Nat) (a_tape : Nat) (m_taped : Int32) (m_textEnd : Int32) (m_faultKind : Int32) (m_faultAt : Int32) (m_bad : Int32) (m_badAt : Int32) (m_token : Int32) (m_at : Int32) (m_behind : Int32) (m_number : Int32) (m_letters : Int32) (m_word : Int64) (a_c : Nat) (a_words : Nat) (m_markMany : Int32) (a_there : Nat) (a_tried : Nat) (a_best : Nat) (a_found : Nat) (m_thereMany : Int32) (m_foundMany : Int32) (m_orderHow : Int32) (m_orderRing : Int32) (m_orderMany : Int32) (m_hasBest : Int32) (m_bestTop : Int64) (m_bestBy : Int64) (a_weights : Nat) (a_shared : Nat) (m_random : Int32) (m_truePlace : Int32) (m_trueWay : Int32) (m_seconds : Int32) (m_done : Int32) (m_feelings : Int32) (m_tries : Int32) (m_leftOver : Int32) (m_playDoor : Int32) (m_playRing : Int32) (m_isOpen : Int32) (m_isOver : Int32) (m_wasTried : Int32) (m_hasPlayed : Int32) (a_feltNow : Nat) (a_last : Nat) (a_kept : Nat) (m_hasSeconds : Int32) (m_hasTurned : Int32) (m_hasRound : Int32) (a_hasFeels : Nat) (a_isOn : Nat) (m_firstAct : Int32) (m_meanTop : Int64) (m_meanBy : Int64) (a_order : Nat) (m_rowMany : Int32) (m_newSteps : Int32) (g_c : Nat → Int32) (g_there : Nat → Int32) (g_weights : Nat → Int64) (pp : Int32) (d : Int32) (f : Int32) (hr_pp : 0 ≤ pp.toInt ∧ pp.toInt ≤ 0) (hr_d : 0 ≤ d.toInt ∧ d.toInt ≤ 4) (hr_f : 0 ≤ f.toInt ∧ f.toInt ≤ 2) (hr_m_thereMany : 0 ≤ m_thereMany.toInt ∧ m_thereMany.toInt ≤ 10) (hC_g_c : zC g_c) (hC_g_there : zRg 10 0 9 g_there) : zCl l yX12_feltWorth cX12_feltWorth 9 (some .long) ({ frames := 8, cells := 0, slots := 0, locals := 219 }) G cA [.ref h0, .int pp, .int 4, .int d, .int f] [(h0, .inr (12, [.int m_status, .int m_thrown, .long m_above, .long m_under, .ref a_traySort, .ref a_trayMany, .ref a_numbers, .ref a_tape, .int m_taped, .int m_textEnd, .int m_faultKind, .int m_faultAt, .int m_bad, .int m_badAt, .int m_token, .int m_at, .int m_behind, .int m_number, .int m_letters, .long m_word, .ref a_c, .ref a_words, .int m_markMany, .ref a_there, .ref a_tried, .ref a_best, .ref a_found, .int m_thereMany, .int m_foundMany, .int m_orderHow, .int m_orderRing, .int m_orderMany, .int m_hasBest, .long m_bestTop, .long m_bestBy, .ref a_weights, .ref a_shared, .int m_random, .int m_truePlace, .int m_trueWay, .int m_seconds, .int m_done, .int m_feelings, .int m_tries, .int m_leftOver, .int m_playDoor, .int m_playRing, .int m_isOpen, .int m_isOver, .int m_wasTried, .int m_hasPlayed, .ref a_feltNow, .ref a_last, .ref a_kept, .int m_hasSeconds, .int m_hasTurned, .int m_hasRound, .ref a_hasFeels, .ref a_isOn, .int m_firstAct, .long m_meanTop, .long m_meanBy, .ref a_order, .int m_rowMany, .int m_newSteps])), (a_c, .inl (cA.1 0, 1825, .inl g_c)), (a_there, .inl (cA.1 0, 10, .inl g_there)), (a_weights, .inl (cA.1 1, 100, .inr (.inl g_weights)))] (S := Int32 × (Nat → Int64)) (fun (r : Int64) (u : Int32 × (Nat → Int64)) => True) (fun (u : Int32 × (Nat → Int64)) => [(h0, .inr (12, [.int m_status, .int m_thrown, .long m_above, .long m_under, .ref a_traySort, .ref a_trayMany, .ref a_numbers, .ref a_tape, .int m_taped, .int m_textEnd, .int m_faultKind, .int m_faultAt, .int m_bad, .int m_badAt, .int m_token, .int m_at, .int m_behind, .int m_number, .int m_letters, .long m_word, .ref a_c, .ref a_words, .int m_markMany, .ref a_there, .ref a_tried, .ref a_best, .ref a_found, .int m_thereMany, .int m_foundMany, .int m_orderHow, .int m_orderRing, .int m_orderMany, .int m_hasBest, .long m_bestTop, .long m_bestBy, .ref a_weights, .ref a_shared, .int m_random, .int m_truePlace, .int m_trueWay, .int m_seconds, .int m_done, .int m_feelings, .int m_tries, .int m_leftOver, .int m_playDoor, .int m_playRing, .int m_isOpen, .int m_isOver, .int m_wasTried, .int m_hasPlayed, .ref a_feltNow, .ref a_last, .ref a_kept, .int m_hasSeconds, .int m_hasTurned, .int m_hasRound, .ref a_hasFeels, .ref a_isOn, .int u.1, .long m_meanTop, .long m_meanBy, .ref a_order, .int m_rowMany, .int m_newSteps])), (a_c, .inl (cA.1 0, 1825, .inl g_c)), (a_there, .inl (cA.1 0, 10, .inl g_there)), (a_weights, .inl (cA.1 1, 100, .inr (.inl u.2)))]) 0 0 := by
  have hk_0 : (0 : Int32).toInt = 0 := by decide +kernel
  have hk_1 : (1 : Int32).toInt = 1 := by decide +kernel
  have hk_2 : (2 : Int32).toInt = 2 := by decide +kernel
  have hk_3 : (3 : Int32).toInt = 3 := by decide +kernel
  have hk_11 : (11 : Int32).toInt = 11 := by decide +kernel
  have hk_20 : (20 : Int32).toInt = 20 := by decide +kernel
  have hkl_0 : (0 : Int64).toInt = 0 := by decide +kernel
  refine z_start2l (own := RX12) (by decide) (Nat.le_of_ble_eq_true rfl) rfl ?_
  intro p e s m args below meth c A ls Q hx hb hml hts hown hK hE hT hP hD hS hA hl hret
  have hl : lv_has ls 9 [(0, .ref h0), (1, .int pp), (2, .int 4), (3, .int d), (4, .int f)] := hl
  refine lv_lconst (v := 0) hx hb dX12_feltWorth_0 (by decide) ?_
  refine lv_lstore (lv' := [(5, .long 0), (0, .ref h0), (1, .int pp), (2, .int 4), (3, .int d), (4, .int f)]) hx hb dX12_feltWorth_1 hl (by decide) rfl (fun ls hl => ?_)
  refine lv_iconst (v := 0) hx hb dX12_feltWorth_3 (by decide) ?_
  refine lv_istore (lv' := [(7, .int 0), (5, .long 0), (0, .ref h0), (1, .int pp), (2, .int 4), (3, .int d), (4, .int f)]) hx hb dX12_feltWorth_4 hl (by decide) rfl (fun ls hl => ?_)
  have hlp_2966 : ∀ (n : Nat) (v_2471 : Int64) (v_2472 : Int32) (v_2473 : Int32) (g_2474 : Nat → Int64) (H : Heap) (locs : List Loc) (ls : Array Slot), (2147483647 - v_2472.toInt).toNat < n → (0 ≤ v_2472.toInt ∧ v_2472.toInt ≤ 4) → va_P G vwCl [(h0, .inr (12, [.int m_status, .int m_thrown, .long m_above, .long m_under, .ref a_traySort, .ref a_trayMany, .ref a_numbers, .ref a_tape, .int m_taped, .int m_textEnd, .int m_faultKind, .int m_faultAt, .int m_bad, .int m_badAt, .int m_token, .int m_at, .int m_behind, .int m_number, .int m_letters, .long m_word, .ref a_c, .ref a_words, .int m_markMany, .ref a_there, .ref a_tried, .ref a_best, .ref a_found, .int m_thereMany, .int m_foundMany, .int m_orderHow, .int m_orderRing, .int m_orderMany, .int m_hasBest, .long m_bestTop, .long m_bestBy, .ref a_weights, .ref a_shared, .int m_random, .int m_truePlace, .int m_trueWay, .int m_seconds, .int m_done, .int m_feelings, .int m_tries, .int m_leftOver, .int m_playDoor, .int m_playRing, .int m_isOpen, .int m_isOver, .int m_wasTried, .int m_hasPlayed, .ref a_feltNow, .ref a_last, .ref a_kept, .int m_hasSeconds, .int m_hasTurned, .int m_hasRound, .ref a_hasFeels, .ref a_isOn, .int v_2473, .long m_meanTop, .long m_meanBy, .ref a_order, .int m_rowMany, .int m_newSteps])), (a_c, .inl (cA.1 0, 1825, .inl g_c)), (a_there, .inl (cA.1 0, 10, .inl g_there)), (a_weights, .inl (cA.1 1, 100, .inr (.inl g_2474)))] H → va_D A [(h0, .inr (12, [.int m_status, .int m_thrown, .long m_above, .long m_under, .ref a_traySort, .ref a_trayMany, .ref a_numbers, .ref a_tape, .int m_taped, .int m_textEnd, .int m_faultKind, .int m_faultAt, .int m_bad, .int m_badAt, .int m_token, .int m_at, .int m_behind, .int m_number, .int m_letters, .long m_word, .ref a_c, .ref a_words, .int m_markMany, .ref a_there, .ref a_tried, .ref a_best, .ref a_found, .int m_thereMany, .int m_foundMany, .int m_orderHow, .int m_orderRing, .int m_orderMany, .int m_hasBest, .long m_bestTop, .long m_bestBy, .ref a_weights, .ref a_shared, .int m_random, .int m_truePlace, .int m_trueWay, .int m_seconds, .int m_done, .int m_feelings, .int m_tries, .int m_leftOver, .int m_playDoor, .int m_playRing, .int m_isOpen, .int m_isOver, .int m_wasTried, .int m_hasPlayed, .ref a_feltNow, .ref a_last, .ref a_kept, .int m_hasSeconds, .int m_hasTurned, .int m_hasRound, .ref a_hasFeels, .ref a_isOn, .int v_2473, .long m_meanTop, .long m_meanBy, .ref a_order, .int m_rowMany, .int m_newSteps])), (a_c, .inl (cA.1 0, 1825, .inl g_c)), (a_there, .inl (cA.1 0, 10, .inl g_there)), (a_weights, .inl (cA.1 1, 100, .inr (.inl g_2474)))] → va_S A s.heap H locs → lv_has ls 9 [(0, .ref h0), (1, .int pp), (2, .int 4), (3, .int d), (4, .int f), (5, .long v_2471), (7, .int v_2472)] → W p l e ({ frames := 8, cells := 0, slots := 0, locals := 219 }) s m args below meth c H locs 0 0 Q (F0 m 6 ls []) := by
    intro n
    induction n with
    | zero =>
      intro v_2471 v_2472 v_2473 g_2474 H locs ls hmu_hlp_2966 hr_v_2472 hP hD hS hl
      exact absurd hmu_hlp_2966 (Nat.not_lt_zero _)
    | succ n ih_2967 =>
      intro v_2471 v_2472 v_2473 g_2474 H locs ls hmu_hlp_2966 hr_v_2472 hP hD hS hl
      refine lv_iload hx hb dX12_feltWorth_6 (lv_at hl 6 rfl) ?_
      refine lv_aload_n hx hb dX12_feltWorth_8 rfl (lv_at hl 0 rfl) ?_
      refine va_get (D := G) (ci := 12) (v := .ref a_c) (C := RX12) (T := TX12) (N := 65) hx hb hts inT12 hown hK hP 0 rfl rfl 20 (by decide) (hts _ tw_1905) (fun _ h9 => h9) rfl dX12_feltWorth_9 ?_
      refine lv_bipush (v := 11) hx hb dX12_feltWorth_12 (by decide) ?_
      refine lv_iload hx hb dX12_feltWorth_14 (lv_at hl 4 rfl) ?_
      refine lv_iadd hx hb dX12_feltWorth_16 ?_
      refine lv_topi (fun x_2968 he_x_2968 => ?_)
      have hq_x_2968 := z_addq he_x_2968 hk_11 (rfl : f.toInt = _) (by omega) (by omega)
      refine va_iald hx hb hK hP 1 0 rfl rfl (z_inN (by omega) (by omega)) dX12_feltWorth_17 ?_
      refine lv_topi (fun x_2969 he_x_2969 => ?_)
      have hr_x_2969 := z_ct hC_g_c he_x_2969 (a := 11) (b := 13) (lo := 0) (hi := 4) (by decide +kernel) (by decide) (by omega) (by omega)
      refine lv_icmp_ge (tgt := 113) hx hb dX12_feltWorth_18 (by decide) (fun c_2970 => ?_) (fun c_2970 => ?_)
      · have b_2971 := z_fgeT c_2970
        refine lv_lload hx hb dX12_feltWorth_113 (lv_at hl 5 rfl) ?_
        exact hret _ _ _ _ _ _ (v_2473, g_2474) [0, 1, 2, 3] hP hD hS rfl (by decide) dX12_feltWorth_115 trivial
      · have b_2972 := z_fltF c_2970
        refine lv_iconst (v := 0) hx hb dX12_feltWorth_21 (by decide) ?_
        refine lv_istore (lv' := [(8, .int 0), (0, .ref h0), (1, .int pp), (2, .int 4), (3, .int d), (4, .int f), (5, .long v_2471), (7, .int v_2472)]) hx hb dX12_feltWorth_22 hl (by decide) rfl (fun ls hl => ?_)
        have hlp_3430 : ∀ (n : Nat) (v_3408 : Int32) (g_3409 : Nat → Int64) (H : Heap) (locs : List Loc) (ls : Array Slot), (2147483647 - v_3408.toInt).toNat < n → (0 ≤ v_3408.toInt ∧ v_3408.toInt ≤ 20) → va_P G vwCl [(h0, .inr (12, [.int m_status, .int m_thrown, .long m_above, .long m_under, .ref a_traySort, .ref a_trayMany, .ref a_numbers, .ref a_tape, .int m_taped, .int m_textEnd, .int m_faultKind, .int m_faultAt, .int m_bad, .int m_badAt, .int m_token, .int m_at, .int m_behind, .int m_number, .int m_letters, .long m_word, .ref a_c, .ref a_words, .int m_markMany, .ref a_there, .ref a_tried, .ref a_best, .ref a_found, .int m_thereMany, .int m_foundMany, .int m_orderHow, .int m_orderRing, .int m_orderMany, .int m_hasBest, .long m_bestTop, .long m_bestBy, .ref a_weights, .ref a_shared, .int m_random, .int m_truePlace, .int m_trueWay, .int m_seconds, .int m_done, .int m_feelings, .int m_tries, .int m_leftOver, .int m_playDoor, .int m_playRing, .int m_isOpen, .int m_isOver, .int m_wasTried, .int m_hasPlayed, .ref a_feltNow, .ref a_last, .ref a_kept, .int m_hasSeconds, .int m_hasTurned, .int m_hasRound, .ref a_hasFeels, .ref a_isOn, .int v_2473, .long m_meanTop, .long m_meanBy, .ref a_order, .int m_rowMany, .int m_newSteps])), (a_c, .inl (cA.1 0, 1825, .inl g_c)), (a_there, .inl (cA.1 0, 10, .inl g_there)), (a_weights, .inl (cA.1 1, 100, .inr (.inl g_3409)))] H → va_D A [(h0, .inr (12, [.int m_status, .int m_thrown, .long m_above, .long m_under, .ref a_traySort, .ref a_trayMany, .ref a_numbers, .ref a_tape, .int m_taped, .int m_textEnd, .int m_faultKind, .int m_faultAt, .int m_bad, .int m_badAt, .int m_token, .int m_at, .int m_behind, .int m_number, .int m_letters, .long m_word, .ref a_c, .ref a_words, .int m_markMany, .ref a_there, .ref a_tried, .ref a_best, .ref a_found, .int m_thereMany, .int m_foundMany, .int m_orderHow, .int m_orderRing, .int m_orderMany, .int m_hasBest, .long m_bestTop, .long m_bestBy, .ref a_weights, .ref a_shared, .int m_random, .int m_truePlace, .int m_trueWay, .int m_seconds, .int m_done, .int m_feelings, .int m_tries, .int m_leftOver, .int m_playDoor, .int m_playRing, .int m_isOpen, .int m_isOver, .int m_wasTried, .int m_hasPlayed, .ref a_feltNow, .ref a_last, .ref a_kept, .int m_hasSeconds, .int m_hasTurned, .int m_hasRound, .ref a_hasFeels, .ref a_isOn, .int v_2473, .long m_meanTop, .long m_meanBy, .ref a_order, .int m_rowMany, .int m_newSteps])), (a_c, .inl (cA.1 0, 1825, .inl g_c)), (a_there, .inl (cA.1 0, 10, .inl g_there)), (a_weights, .inl (cA.1 1, 100, .inr (.inl g_3409)))] → va_S A s.heap H locs → lv_has ls 9 [(0, .ref h0), (1, .int pp), (2, .int 4), (3, .int d), (4, .int f), (5, .long v_2471), (7, .int v_2472), (8, .int v_3408)] → W p l e ({ frames := 8, cells := 0, slots := 0, locals := 219 }) s m args below meth c H locs 0 0 Q (F0 m 24 ls []) := by
          intro n
          induction n with
          | zero =>
            intro v_3408 g_3409 H locs ls hmu_hlp_3430 hr_v_3408 hP hD hS hl
            exact absurd hmu_hlp_3430 (Nat.not_lt_zero _)
          | succ n ih_3431 =>
            intro v_3408 g_3409 H locs ls hmu_hlp_3430 hr_v_3408 hP hD hS hl
            refine lv_iload hx hb dX12_feltWorth_24 (lv_at hl 7 rfl) ?_
            refine lv_iconst (v := 2) hx hb dX12_feltWorth_26 (by decide) ?_
            refine lv_aload_n hx hb dX12_feltWorth_27 rfl (lv_at hl 0 rfl) ?_
            refine va_get (D := G) (ci := 12) (v := .int m_thereMany) (C := RX12) (T := TX12) (N := 65) hx hb hts inT12 hown hK hP 0 rfl rfl 27 (by decide) (hts _ tw_1912) (fun _ h9 => h9) rfl dX12_feltWorth_28 ?_
            refine lv_imul hx hb dX12_feltWorth_31 ?_
            refine lv_topi (fun x_3432 he_x_3432 => ?_)
            have hq_x_3432 := z_mulq he_x_3432 hk_2 (rfl : m_thereMany.toInt = _) (by omega) (by omega)
            refine lv_icmp_ge (tgt := 91) hx hb dX12_feltWorth_32 (by decide) (fun c_3433 => ?_) (fun c_3433 => ?_)
            · have b_3434 := z_fgeT c_3433
              refine lv_lload hx hb dX12_feltWorth_91 (lv_at hl 5 rfl) ?_
              refine lv_aload_n hx hb dX12_feltWorth_93 rfl (lv_at hl 0 rfl) ?_
              refine lv_iload_n hx hb dX12_feltWorth_94 rfl (lv_at hl 1 rfl) ?_
              refine lv_iconst (v := 1) hx hb dX12_feltWorth_95 (by decide) ?_
              refine lv_iadd hx hb dX12_feltWorth_96 ?_
              refine lv_topi (fun x_3435 he_x_3435 => ?_)
              have hq_x_3435 := z_addq he_x_3435 (rfl : pp.toInt = _) hk_1 (by omega) (by omega)
              refine lv_iload_n hx hb dX12_feltWorth_97 rfl (lv_at hl 2 rfl) ?_
              refine lv_iconst (v := 1) hx hb dX12_feltWorth_98 (by decide) ?_
              refine lv_isub hx hb dX12_feltWorth_99 ?_
              refine z_topi (y := 3) (by decide +kernel) ?_
              refine lv_iload_n hx hb dX12_feltWorth_100 rfl (lv_at hl 3 rfl) ?_
              refine z_callVl (As := [.int x_3435, .int 3, .int d]) (rest := [.long v_2471]) (wr := []) ⟨hx, hb, hml, hown, hts⟩ hK hE hT hP hD hS hA (r_worthOf_3 l G cA h0 m_status m_thrown m_above m_under a_traySort a_trayMany a_numbers a_tape m_taped m_textEnd m_faultKind m_faultAt m_bad m_badAt m_token m_at m_behind m_number m_letters m_word a_c a_words m_markMany a_there a_tried a_best a_found m_thereMany m_foundMany m_orderHow m_orderRing m_orderMany m_hasBest m_bestTop m_bestBy a_weights a_shared m_random m_truePlace m_trueWay m_seconds m_done m_feelings m_tries m_leftOver m_playDoor m_playRing m_isOpen m_isOver m_wasTried m_hasPlayed a_feltNow a_last a_kept m_hasSeconds m_hasTurned m_hasRound a_hasFeels a_isOn v_2473 m_meanTop m_meanBy a_order m_rowMany m_newSteps g_c g_there g_3409 x_3435 d (by omega) hr_d hr_m_thereMany hC_g_c hC_g_there) lk_RX12_379 ⟨rfl, rfl⟩ ⟨Nat.le_of_ble_eq_true rfl, Nat.le_of_ble_eq_true rfl⟩ 12 rfl rfl rfl [0, 1, 2, 3] [] rfl rfl (by decide) rfl hl.1 rfl (lv_room (Nat.le_of_ble_eq_true rfl)) dX12_feltWorth_101 ⟨Nat.le_of_ble_eq_true rfl, Nat.le_of_ble_eq_true rfl⟩ (fun r_3438 u_3439 H locs hw hP hD hS => ?_)
              obtain ⟨n_3436, n_3437⟩ := u_3439
              try dsimp only at hw
              refine lv_ladd hx hb dX12_feltWorth_104 ?_
              have hL_v_2471 := z_fulll v_2471
              have hL_r_3438 := z_fulll r_3438
              refine lv_topl (fun x_3440 he_x_3440 => ?_)
              refine lv_lstore (lv' := [(5, .long x_3440), (0, .ref h0), (1, .int pp), (2, .int 4), (3, .int d), (4, .int f), (7, .int v_2472), (8, .int v_3408)]) hx hb dX12_feltWorth_105 hl (by decide) rfl (fun ls hl => ?_)
              obtain ⟨x_3441, he_x_3441⟩ : ∃ z : Int32, z = v_2472 + 1 := ⟨_, rfl⟩
              have hq_x_3441 := z_addq he_x_3441 (rfl : v_2472.toInt = _) hk_1 (by omega) (by omega)
              refine lv_iinc (v := x_3441) (lv' := [(7, .int x_3441), (5, .long x_3440), (0, .ref h0), (1, .int pp), (2, .int 4), (3, .int d), (4, .int f), (8, .int v_3408)]) hx hb dX12_feltWorth_107 hl (k := 6) rfl ((z_ofi (by decide +kernel)).trans he_x_3441.symm) (by decide) rfl (fun ls hl => ?_)
              refine lv_goto (tgt := 6) hx hb dX12_feltWorth_110 (by decide) ?_
              exact ih_2967 x_3440 x_3441 n_3436 n_3437 H locs ls (by omega) (by omega) hP hD hS (lv_sub hl [2, 3, 4, 5, 6, 1, 0] rfl)
            · have b_3442 := z_fltF c_3433
              refine lv_aload_n hx hb dX12_feltWorth_35 rfl (lv_at hl 0 rfl) ?_
              refine va_get (D := G) (ci := 12) (v := .ref a_weights) (C := RX12) (T := TX12) (N := 65) hx hb hts inT12 hown hK hP 0 rfl rfl 35 (by decide) (hts _ tw_1919) (fun _ h9 => h9) rfl dX12_feltWorth_36 ?_
              refine lv_bipush (v := 20) hx hb dX12_feltWorth_39 (by decide) ?_
              refine lv_iload_n hx hb dX12_feltWorth_41 rfl (lv_at hl 1 rfl) ?_
              refine lv_imul hx hb dX12_feltWorth_42 ?_
              refine lv_topi (fun x_3443 he_x_3443 => ?_)
              have hq_x_3443 := z_mulq he_x_3443 hk_20 (rfl : pp.toInt = _) (by omega) (by omega)
              refine lv_bipush (v := 20) hx hb dX12_feltWorth_43 (by decide) ?_
              refine lv_iadd hx hb dX12_feltWorth_45 ?_
              refine lv_topi (fun x_3444 he_x_3444 => ?_)
              have hq_x_3444 := z_addq he_x_3444 (rfl : x_3443.toInt = _) hk_20 (by omega) (by omega)
              refine lv_iload hx hb dX12_feltWorth_46 (lv_at hl 7 rfl) ?_
              refine lv_iadd hx hb dX12_feltWorth_48 ?_
              refine lv_topi (fun x_3445 he_x_3445 => ?_)
              have hq_x_3445 := z_addq he_x_3445 (rfl : x_3444.toInt = _) (rfl : v_3408.toInt = _) (by omega) (by omega)
              refine lv_aload_n hx hb dX12_feltWorth_49 rfl (lv_at hl 0 rfl) ?_
              refine va_get (D := G) (ci := 12) (v := .ref a_weights) (C := RX12) (T := TX12) (N := 65) hx hb hts inT12 hown hK hP 0 rfl rfl 35 (by decide) (hts _ tw_1919) (fun _ h9 => h9) rfl dX12_feltWorth_50 ?_
              refine lv_bipush (v := 20) hx hb dX12_feltWorth_53 (by decide) ?_
              refine lv_iload_n hx hb dX12_feltWorth_55 rfl (lv_at hl 1 rfl) ?_
              refine lv_imul hx hb dX12_feltWorth_56 ?_
              refine lv_topi (fun x_3446 he_x_3446 => ?_)
              have hq_x_3446 := z_mulq he_x_3446 hk_20 (rfl : pp.toInt = _) (by omega) (by omega)
              refine lv_iload hx hb dX12_feltWorth_57 (lv_at hl 7 rfl) ?_
              refine lv_iadd hx hb dX12_feltWorth_59 ?_
              refine lv_topi (fun x_3447 he_x_3447 => ?_)
              have hq_x_3447 := z_addq he_x_3447 (rfl : x_3446.toInt = _) (rfl : v_3408.toInt = _) (by omega) (by omega)
              refine va_lald hx hb hK hP 3 1 rfl rfl (z_inN (by omega) (by omega)) dX12_feltWorth_60 ?_
              refine lv_topl (fun x_3448 he_x_3448 => ?_)
              refine lv_aload_n hx hb dX12_feltWorth_61 rfl (lv_at hl 0 rfl) ?_
              refine lv_aload_n hx hb dX12_feltWorth_62 rfl (lv_at hl 0 rfl) ?_
              refine va_get (D := G) (ci := 12) (v := .ref a_there) (C := RX12) (T := TX12) (N := 65) hx hb hts inT12 hown hK hP 0 rfl rfl 23 (by decide) (hts _ tw_1908) (fun _ h9 => h9) rfl dX12_feltWorth_63 ?_
              refine lv_iload hx hb dX12_feltWorth_66 (lv_at hl 7 rfl) ?_
              refine lv_iconst (v := 2) hx hb dX12_feltWorth_68 (by decide) ?_
              refine lv_idiv hx hb dX12_feltWorth_69 (by decide +kernel) ?_
              refine lv_topi (fun x_3449 he_x_3449 => ?_)
              have hq_x_3449 := z_divq he_x_3449 (rfl : v_3408.toInt = _) hk_2 (by omega) (by decide)
              refine va_iald hx hb hK hP 2 0 rfl rfl (z_inN (by omega) (by omega)) dX12_feltWorth_70 ?_
              refine lv_topi (fun x_3450 he_x_3450 => ?_)
              have hr_x_3450 := z_rg hC_g_there he_x_3450 (by omega) (by omega)
              refine lv_iload hx hb dX12_feltWorth_71 (lv_at hl 4 rfl) ?_
              refine lv_iload hx hb dX12_feltWorth_73 (lv_at hl 7 rfl) ?_
              refine lv_iconst (v := 2) hx hb dX12_feltWorth_75 (by decide) ?_
              refine lv_irem hx hb dX12_feltWorth_76 (by decide +kernel) ?_
              refine lv_topi (fun x_3451 he_x_3451 => ?_)
              have hq_x_3451 := z_remq he_x_3451 (rfl : v_3408.toInt = _) hk_2 (by omega) (by decide)
              refine lv_iload hx hb dX12_feltWorth_77 (lv_at hl 6 rfl) ?_
              refine z_callVi (As := [.int x_3450, .int f, .int x_3451, .int v_2472]) (rest := [.long x_3448, .int x_3445, .ref a_weights]) (wr := [(a_there, .inl (cA.1 0, 10, .inl g_there)), (a_weights, .inl (cA.1 1, 100, .inr (.inl g_3409)))]) ⟨hx, hb, hml, hown, hts⟩ hK hE hT hP hD hS hA (r_felt l G cA h0 m_status m_thrown m_above m_under a_traySort a_trayMany a_numbers a_tape m_taped m_textEnd m_faultKind m_faultAt m_bad m_badAt m_token m_at m_behind m_number m_letters m_word a_c a_words m_markMany a_there a_tried a_best a_found m_thereMany m_foundMany m_orderHow m_orderRing m_orderMany m_hasBest m_bestTop m_bestBy a_weights a_shared m_random m_truePlace m_trueWay m_seconds m_done m_feelings m_tries m_leftOver m_playDoor m_playRing m_isOpen m_isOver m_wasTried m_hasPlayed a_feltNow a_last a_kept m_hasSeconds m_hasTurned m_hasRound a_hasFeels a_isOn v_2473 m_meanTop m_meanBy a_order m_rowMany m_newSteps g_c x_3450 f x_3451 v_2472 hr_x_3450 hr_f (by omega) (by omega) hC_g_c) lk_RX12_329 ⟨rfl, rfl⟩ ⟨Nat.le_of_ble_eq_true rfl, Nat.le_of_ble_eq_true rfl⟩ 12 rfl rfl rfl [0, 1] [2, 3] rfl rfl (by decide) rfl hl.1 rfl (lv_room (Nat.le_of_ble_eq_true rfl)) dX12_feltWorth_79 ⟨Nat.le_of_ble_eq_true rfl, Nat.le_of_ble_eq_true rfl⟩ (fun r_3452 u_3453 H locs hw hP hD hS => ?_)
              obtain ⟨hr_r_3452, hf_3454⟩ := hw
              refine lv_i2l (v := (r_3452).toInt64) hx hb dX12_feltWorth_82 rfl ?_
              refine lv_topl (fun x_3455 he_x_3455 => ?_)
              have hq_x_3455 := z_i2l he_x_3455
              refine lv_lmul hx hb dX12_feltWorth_83 ?_
              have hL_x_3448 := z_fulll x_3448
              refine lv_topl (fun x_3456 he_x_3456 => ?_)
              refine z_last hx hb hK hP hD hS 1 1 rfl rfl (z_inN (by omega) (by omega)) dX12_feltWorth_84 (fun g_3457 hg_g_3457 H locs hP hD hS => ?_)
              obtain ⟨x_3458, he_x_3458⟩ : ∃ z : Int32, z = v_3408 + 1 := ⟨_, rfl⟩
              have hq_x_3458 := z_addq he_x_3458 (rfl : v_3408.toInt = _) hk_1 (by omega) (by omega)
              refine lv_iinc (v := x_3458) (lv' := [(8, .int x_3458), (0, .ref h0), (1, .int pp), (2, .int 4), (3, .int d), (4, .int f), (5, .long v_2471), (7, .int v_2472)]) hx hb dX12_feltWorth_85 hl (k := 7) rfl ((z_ofi (by decide +kernel)).trans he_x_3458.symm) (by decide) rfl (fun ls hl => ?_)
              refine lv_goto (tgt := 24) hx hb dX12_feltWorth_88 (by decide) ?_
              have hP := hP.sub (ws' := [(h0, .inr (12, [.int m_status, .int m_thrown, .long m_above, .long m_under, .ref a_traySort, .ref a_trayMany, .ref a_numbers, .ref a_tape, .int m_taped, .int m_textEnd, .int m_faultKind, .int m_faultAt, .int m_bad, .int m_badAt, .int m_token, .int m_at, .int m_behind, .int m_number, .int m_letters, .long m_word, .ref a_c, .ref a_words, .int m_markMany, .ref a_there, .ref a_tried, .ref a_best, .ref a_found, .int m_thereMany, .int m_foundMany, .int m_orderHow, .int m_orderRing, .int m_orderMany, .int m_hasBest, .long m_bestTop, .long m_bestBy, .ref a_weights, .ref a_shared, .int m_random, .int m_truePlace, .int m_trueWay, .int m_seconds, .int m_done, .int m_feelings, .int m_tries, .int m_leftOver, .int m_playDoor, .int m_playRing, .int m_isOpen, .int m_isOver, .int m_wasTried, .int m_hasPlayed, .ref a_feltNow, .ref a_last, .ref a_kept, .int m_hasSeconds, .int m_hasTurned, .int m_hasRound, .ref a_hasFeels, .ref a_isOn, .int v_2473, .long m_meanTop, .long m_meanBy, .ref a_order, .int m_rowMany, .int m_newSteps])), (a_c, .inl (cA.1 0, 1825, .inl g_c)), (a_there, .inl (cA.1 0, 10, .inl g_there)), (a_weights, .inl (cA.1 1, 100, .inr (.inl g_3457)))]) [2, 3, 0, 1] rfl
              have hD := hD.sub (ws' := [(h0, .inr (12, [.int m_status, .int m_thrown, .long m_above, .long m_under, .ref a_traySort, .ref a_trayMany, .ref a_numbers, .ref a_tape, .int m_taped, .int m_textEnd, .int m_faultKind, .int m_faultAt, .int m_bad, .int m_badAt, .int m_token, .int m_at, .int m_behind, .int m_number, .int m_letters, .long m_word, .ref a_c, .ref a_words, .int m_markMany, .ref a_there, .ref a_tried, .ref a_best, .ref a_found, .int m_thereMany, .int m_foundMany, .int m_orderHow, .int m_orderRing, .int m_orderMany, .int m_hasBest, .long m_bestTop, .long m_bestBy, .ref a_weights, .ref a_shared, .int m_random, .int m_truePlace, .int m_trueWay, .int m_seconds, .int m_done, .int m_feelings, .int m_tries, .int m_leftOver, .int m_playDoor, .int m_playRing, .int m_isOpen, .int m_isOver, .int m_wasTried, .int m_hasPlayed, .ref a_feltNow, .ref a_last, .ref a_kept, .int m_hasSeconds, .int m_hasTurned, .int m_hasRound, .ref a_hasFeels, .ref a_isOn, .int v_2473, .long m_meanTop, .long m_meanBy, .ref a_order, .int m_rowMany, .int m_newSteps])), (a_c, .inl (cA.1 0, 1825, .inl g_c)), (a_there, .inl (cA.1 0, 10, .inl g_there)), (a_weights, .inl (cA.1 1, 100, .inr (.inl g_3457)))]) [2, 3, 0, 1] (by decide) rfl
              exact ih_3431 x_3458 g_3457 H locs ls (by omega) (by omega) hP hD hS (lv_sub hl [1, 2, 3, 4, 5, 6, 7, 0] rfl)
        exact hlp_3430 _ 0 g_2474 _ _ _ (Nat.lt_succ_self _) (by decide +kernel) hP hD hS (lv_sub hl [1, 2, 3, 4, 5, 6, 7, 0] rfl)
  exact hlp_2966 _ 0 0 m_firstAct g_weights _ _ _ (Nat.lt_succ_self _) (by decide +kernel) hP hD hS (lv_sub hl [2, 3, 4, 5, 6, 1, 0] rfl)
set_option maxHeartbeats 4000000 in
set_option maxRecDepth 100000 in
theorem r_worthOf_4 (l : Launch) (G : va_G) (cA : zCA) (h0 : Nat) (m_status : Int32) (m_thrown : Int32) (m_above : Int64) (m_under : Int64) (a_traySort : Nat) (a_trayMany : Nat) (a_numbers : Nat) (a_tape : Nat) (m_taped : Int32) (m_textEnd : Int32) (m_faultKind : Int32) (m_faultAt : Int32) (m_bad : Int32) (m_badAt : Int32) (m_token : Int32) (m_at : Int32) (m_behind : Int32) (m_number : Int32) (m_letters : Int32) (m_word : Int64) (a_c : Nat) (a_words : Nat) (m_markMany : Int32) (a_there : Nat) (a_tried : Nat) (a_best : Nat) (a_found : Nat) (m_thereMany : Int32) (m_foundMany : Int32) (m_orderHow : Int32) (m_orderRing : Int32) (m_orderMany : Int32) (m_hasBest : Int32) (m_bestTop : Int64) (m_bestBy : Int64) (a_weights : Nat) (a_shared : Nat) (m_random : Int32) (m_truePlace : Int32) (m_trueWay : Int32) (m_seconds : Int32) (m_done : Int32) (m_feelings : Int32) (m_tries : Int32) (m_leftOver : Int32) (m_playDoor : Int32) (m_playRing : Int32) (m_isOpen : Int32) (m_isOver : Int32) (m_wasTried : Int32) (m_hasPlayed : Int32) (a_feltNow : Nat) (a_last : Nat) (a_kept : Nat) (m_hasSeconds : Int32) (m_hasTurned : Int32) (m_hasRound : Int32) (a_hasFeels : Nat) (a_isOn : Nat) (m_firstAct : Int32) (m_meanTop : Int64) (m_meanBy : Int64) (a_order : Nat) (m_rowMany : Int32) (m_newSteps : Int32) (g_c : Nat → Int32) (g_there : Nat → Int32) (g_weights : Nat → Int64) (pp : Int32) (d : Int32) (hr_pp : 0 ≤ pp.toInt ∧ pp.toInt ≤ 0) (hr_d : 0 ≤ d.toInt ∧ d.toInt ≤ 4) (hr_m_thereMany : 0 ≤ m_thereMany.toInt ∧ m_thereMany.toInt ≤ 10) (hC_g_c : zC g_c) (hC_g_there : zRg 10 0 9 g_there) : zCl l yX12_worthOf cX12_worthOf 10 (some .long) ({ frames := 9, cells := 0, slots := 0, locals := 247 }) G cA [.ref h0, .int pp, .int 4, .int d] [(h0, .inr (12, [.int m_status, .int m_thrown, .long m_above, .long m_under, .ref a_traySort, .ref a_trayMany, .ref a_numbers, .ref a_tape, .int m_taped, .int m_textEnd, .int m_faultKind, .int m_faultAt, .int m_bad, .int m_badAt, .int m_token, .int m_at, .int m_behind, .int m_number, .int m_letters, .long m_word, .ref a_c, .ref a_words, .int m_markMany, .ref a_there, .ref a_tried, .ref a_best, .ref a_found, .int m_thereMany, .int m_foundMany, .int m_orderHow, .int m_orderRing, .int m_orderMany, .int m_hasBest, .long m_bestTop, .long m_bestBy, .ref a_weights, .ref a_shared, .int m_random, .int m_truePlace, .int m_trueWay, .int m_seconds, .int m_done, .int m_feelings, .int m_tries, .int m_leftOver, .int m_playDoor, .int m_playRing, .int m_isOpen, .int m_isOver, .int m_wasTried, .int m_hasPlayed, .ref a_feltNow, .ref a_last, .ref a_kept, .int m_hasSeconds, .int m_hasTurned, .int m_hasRound, .ref a_hasFeels, .ref a_isOn, .int m_firstAct, .long m_meanTop, .long m_meanBy, .ref a_order, .int m_rowMany, .int m_newSteps])), (a_c, .inl (cA.1 0, 1825, .inl g_c)), (a_there, .inl (cA.1 0, 10, .inl g_there)), (a_weights, .inl (cA.1 1, 100, .inr (.inl g_weights)))] (S := Int32 × (Nat → Int64)) (fun (r : Int64) (u : Int32 × (Nat → Int64)) => (0 ≤ u.1.toInt ∧ u.1.toInt ≤ 4)) (fun (u : Int32 × (Nat → Int64)) => [(h0, .inr (12, [.int m_status, .int m_thrown, .long m_above, .long m_under, .ref a_traySort, .ref a_trayMany, .ref a_numbers, .ref a_tape, .int m_taped, .int m_textEnd, .int m_faultKind, .int m_faultAt, .int m_bad, .int m_badAt, .int m_token, .int m_at, .int m_behind, .int m_number, .int m_letters, .long m_word, .ref a_c, .ref a_words, .int m_markMany, .ref a_there, .ref a_tried, .ref a_best, .ref a_found, .int m_thereMany, .int m_foundMany, .int m_orderHow, .int m_orderRing, .int m_orderMany, .int m_hasBest, .long m_bestTop, .long m_bestBy, .ref a_weights, .ref a_shared, .int m_random, .int m_truePlace, .int m_trueWay, .int m_seconds, .int m_done, .int m_feelings, .int m_tries, .int m_leftOver, .int m_playDoor, .int m_playRing, .int m_isOpen, .int m_isOver, .int m_wasTried, .int m_hasPlayed, .ref a_feltNow, .ref a_last, .ref a_kept, .int m_hasSeconds, .int m_hasTurned, .int m_hasRound, .ref a_hasFeels, .ref a_isOn, .int u.1, .long m_meanTop, .long m_meanBy, .ref a_order, .int m_rowMany, .int m_newSteps])), (a_c, .inl (cA.1 0, 1825, .inl g_c)), (a_there, .inl (cA.1 0, 10, .inl g_there)), (a_weights, .inl (cA.1 1, 100, .inr (.inl u.2)))]) 0 0 := by
  have hk_0 : (0 : Int32).toInt = 0 := by decide +kernel
  have hk_1 : (1 : Int32).toInt = 1 := by decide +kernel
  have hk_2 : (2 : Int32).toInt = 2 := by decide +kernel
  have hk_4 : (4 : Int32).toInt = 4 := by decide +kernel
  refine z_start2l (own := RX12) (by decide) (Nat.le_of_ble_eq_true rfl) rfl ?_
  intro p e s m args below meth c A ls Q hx hb hml hts hown hK hE hT hP hD hS hA hl hret
  have hl : lv_has ls 10 [(0, .ref h0), (1, .int pp), (2, .int 4), (3, .int d)] := hl
  refine lv_iload_n hx hb dX12_worthOf_0 rfl (lv_at hl 2 rfl) ?_
  refine lv_if_ne (tgt := 6) hx hb dX12_worthOf_1 (by decide) (fun _ => ?_) (fun h9 => absurd h9 (by decide +kernel))
  refine lv_aload_n hx hb dX12_worthOf_6 rfl (lv_at hl 0 rfl) ?_
  refine lv_iload_n hx hb dX12_worthOf_7 rfl (lv_at hl 1 rfl) ?_
  refine lv_iload_n hx hb dX12_worthOf_8 rfl (lv_at hl 2 rfl) ?_
  refine lv_iload_n hx hb dX12_worthOf_9 rfl (lv_at hl 3 rfl) ?_
  refine z_callVl (As := [.int pp, .int 4, .int d]) (rest := []) (wr := []) ⟨hx, hb, hml, hown, hts⟩ hK hE hT hP hD hS hA (r_triedWorth_4 l G cA h0 m_status m_thrown m_above m_under a_traySort a_trayMany a_numbers a_tape m_taped m_textEnd m_faultKind m_faultAt m_bad m_badAt m_token m_at m_behind m_number m_letters m_word a_c a_words m_markMany a_there a_tried a_best a_found m_thereMany m_foundMany m_orderHow m_orderRing m_orderMany m_hasBest m_bestTop m_bestBy a_weights a_shared m_random m_truePlace m_trueWay m_seconds m_done m_feelings m_tries m_leftOver m_playDoor m_playRing m_isOpen m_isOver m_wasTried m_hasPlayed a_feltNow a_last a_kept m_hasSeconds m_hasTurned m_hasRound a_hasFeels a_isOn m_firstAct m_meanTop m_meanBy a_order m_rowMany m_newSteps g_c g_there g_weights pp d hr_pp hr_d hr_m_thereMany hC_g_c hC_g_there) lk_RX12_362 ⟨rfl, rfl⟩ ⟨Nat.le_of_ble_eq_true rfl, Nat.le_of_ble_eq_true rfl⟩ 12 rfl rfl rfl [0, 1, 2, 3] [] rfl rfl (by decide) rfl hl.1 rfl (lv_room (Nat.le_of_ble_eq_true rfl)) dX12_worthOf_10 ⟨Nat.le_of_ble_eq_true rfl, Nat.le_of_ble_eq_true rfl⟩ (fun r_3 u_4 H locs hw hP hD hS => ?_)
  obtain ⟨n_1, n_2⟩ := u_4
  try dsimp only at hw
  refine lv_lstore (lv' := [(4, .long r_3), (0, .ref h0), (1, .int pp), (2, .int 4), (3, .int d)]) hx hb dX12_worthOf_13 hl (by decide) rfl (fun ls hl => ?_)
  refine lv_iconst (v := 0) hx hb dX12_worthOf_15 (by decide) ?_
  refine lv_istore (lv' := [(6, .int 0), (4, .long r_3), (0, .ref h0), (1, .int pp), (2, .int 4), (3, .int d)]) hx hb dX12_worthOf_16 hl (by decide) rfl (fun ls hl => ?_)
  refine lv_aload_n hx hb dX12_worthOf_18 rfl (lv_at hl 2 rfl) ?_
  refine lv_iload_n hx hb dX12_worthOf_19 rfl (lv_at hl 3 rfl) ?_
  refine lv_iload_n hx hb dX12_worthOf_20 rfl (lv_at hl 4 rfl) ?_
  refine lv_iload_n hx hb dX12_worthOf_21 rfl (lv_at hl 5 rfl) ?_
  refine z_callVl (As := [.int pp, .int 4, .int d]) (rest := []) (wr := []) ⟨hx, hb, hml, hown, hts⟩ hK hE hT hP hD hS hA (r_goneWorth_4 l G cA h0 m_status m_thrown m_above m_under a_traySort a_trayMany a_numbers a_tape m_taped m_textEnd m_faultKind m_faultAt m_bad m_badAt m_token m_at m_behind m_number m_letters m_word a_c a_words m_markMany a_there a_tried a_best a_found m_thereMany m_foundMany m_orderHow m_orderRing m_orderMany m_hasBest m_bestTop m_bestBy a_weights a_shared m_random m_truePlace m_trueWay m_seconds m_done m_feelings m_tries m_leftOver m_playDoor m_playRing m_isOpen m_isOver m_wasTried m_hasPlayed a_feltNow a_last a_kept m_hasSeconds m_hasTurned m_hasRound a_hasFeels a_isOn n_1 m_meanTop m_meanBy a_order m_rowMany m_newSteps g_c g_there n_2 pp d hr_pp hr_d hr_m_thereMany hC_g_c hC_g_there) lk_RX12_366 ⟨rfl, rfl⟩ ⟨Nat.le_of_ble_eq_true rfl, Nat.le_of_ble_eq_true rfl⟩ 12 rfl rfl rfl [0, 1, 2, 3] [] rfl rfl (by decide) rfl hl.1 rfl (lv_room (Nat.le_of_ble_eq_true rfl)) dX12_worthOf_22 ⟨Nat.le_of_ble_eq_true rfl, Nat.le_of_ble_eq_true rfl⟩ (fun r_7 u_8 H locs hw hP hD hS => ?_)
  obtain ⟨n_5, n_6⟩ := u_8
  try dsimp only at hw
  refine lv_lstore (lv' := [(7, .long r_7), (6, .int 0), (4, .long r_3), (0, .ref h0), (1, .int pp), (2, .int 4), (3, .int d)]) hx hb dX12_worthOf_25 hl (by decide) rfl (fun ls hl => ?_)
  refine lv_lload hx hb dX12_worthOf_27 (lv_at hl 0 rfl) ?_
  refine lv_lload hx hb dX12_worthOf_29 (lv_at hl 2 rfl) ?_
  refine W.lcmp hx hb dX12_worthOf_31 ?_
  refine lv_if_le (tgt := 42) hx hb dX12_worthOf_32 (by decide) (fun c_9 => ?_) (fun c_9 => ?_)
  · have b_10 := z_fleTl c_9
    refine lv_iconst (v := 0) hx hb dX12_worthOf_42 (by decide) ?_
    refine lv_istore (lv' := [(9, .int 0), (7, .long r_7), (6, .int 0), (4, .long r_3), (0, .ref h0), (1, .int pp), (2, .int 4), (3, .int d)]) hx hb dX12_worthOf_43 hl (by decide) rfl (fun ls hl => ?_)
    have hlp_102 : ∀ (n : Nat) (v_82 : Int64) (v_83 : Int32) (v_84 : Int64) (v_85 : Int32) (v_86 : Int32) (g_87 : Nat → Int64) (H : Heap) (locs : List Loc) (ls : Array Slot), (2147483647 - v_85.toInt).toNat < n → (0 ≤ v_83.toInt ∧ v_83.toInt ≤ 4) → (0 ≤ v_85.toInt ∧ v_85.toInt ≤ 3) → va_P G vwCl [(h0, .inr (12, [.int m_status, .int m_thrown, .long m_above, .long m_under, .ref a_traySort, .ref a_trayMany, .ref a_numbers, .ref a_tape, .int m_taped, .int m_textEnd, .int m_faultKind, .int m_faultAt, .int m_bad, .int m_badAt, .int m_token, .int m_at, .int m_behind, .int m_number, .int m_letters, .long m_word, .ref a_c, .ref a_words, .int m_markMany, .ref a_there, .ref a_tried, .ref a_best, .ref a_found, .int m_thereMany, .int m_foundMany, .int m_orderHow, .int m_orderRing, .int m_orderMany, .int m_hasBest, .long m_bestTop, .long m_bestBy, .ref a_weights, .ref a_shared, .int m_random, .int m_truePlace, .int m_trueWay, .int m_seconds, .int m_done, .int m_feelings, .int m_tries, .int m_leftOver, .int m_playDoor, .int m_playRing, .int m_isOpen, .int m_isOver, .int m_wasTried, .int m_hasPlayed, .ref a_feltNow, .ref a_last, .ref a_kept, .int m_hasSeconds, .int m_hasTurned, .int m_hasRound, .ref a_hasFeels, .ref a_isOn, .int v_86, .long m_meanTop, .long m_meanBy, .ref a_order, .int m_rowMany, .int m_newSteps])), (a_c, .inl (cA.1 0, 1825, .inl g_c)), (a_there, .inl (cA.1 0, 10, .inl g_there)), (a_weights, .inl (cA.1 1, 100, .inr (.inl g_87)))] H → va_D A [(h0, .inr (12, [.int m_status, .int m_thrown, .long m_above, .long m_under, .ref a_traySort, .ref a_trayMany, .ref a_numbers, .ref a_tape, .int m_taped, .int m_textEnd, .int m_faultKind, .int m_faultAt, .int m_bad, .int m_badAt, .int m_token, .int m_at, .int m_behind, .int m_number, .int m_letters, .long m_word, .ref a_c, .ref a_words, .int m_markMany, .ref a_there, .ref a_tried, .ref a_best, .ref a_found, .int m_thereMany, .int m_foundMany, .int m_orderHow, .int m_orderRing, .int m_orderMany, .int m_hasBest, .long m_bestTop, .long m_bestBy, .ref a_weights, .ref a_shared, .int m_random, .int m_truePlace, .int m_trueWay, .int m_seconds, .int m_done, .int m_feelings, .int m_tries, .int m_leftOver, .int m_playDoor, .int m_playRing, .int m_isOpen, .int m_isOver, .int m_wasTried, .int m_hasPlayed, .ref a_feltNow, .ref a_last, .ref a_kept, .int m_hasSeconds, .int m_hasTurned, .int m_hasRound, .ref a_hasFeels, .ref a_isOn, .int v_86, .long m_meanTop, .long m_meanBy, .ref a_order, .int m_rowMany, .int m_newSteps])), (a_c, .inl (cA.1 0, 1825, .inl g_c)), (a_there, .inl (cA.1 0, 10, .inl g_there)), (a_weights, .inl (cA.1 1, 100, .inr (.inl g_87)))] → va_S A s.heap H locs → lv_has ls 10 [(0, .ref h0), (1, .int pp), (2, .int 4), (3, .int d), (4, .long v_82), (6, .int v_83), (7, .long v_84), (9, .int v_85)] → W p l e ({ frames := 9, cells := 0, slots := 0, locals := 247 }) s m args below meth c H locs 0 0 Q (F0 m 45 ls []) := by
      intro n
      induction n with
      | zero =>
        intro v_82 v_83 v_84 v_85 v_86 g_87 H locs ls hmu_hlp_102 hr_v_83 hr_v_85 hP hD hS hl
        exact absurd hmu_hlp_102 (Nat.not_lt_zero _)
      | succ n ih_103 =>
        intro v_82 v_83 v_84 v_85 v_86 g_87 H locs ls hmu_hlp_102 hr_v_83 hr_v_85 hP hD hS hl
        refine lv_iload hx hb dX12_worthOf_45 (lv_at hl 7 rfl) ?_
        refine lv_aload_n hx hb dX12_worthOf_47 rfl (lv_at hl 0 rfl) ?_
        refine va_get (D := G) (ci := 12) (v := .ref a_c) (C := RX12) (T := TX12) (N := 65) hx hb hts inT12 hown hK hP 0 rfl rfl 20 (by decide) (hts _ tw_1905) (fun _ h9 => h9) rfl dX12_worthOf_48 ?_
        refine lv_iconst (v := 0) hx hb dX12_worthOf_51 (by decide) ?_
        refine va_iald hx hb hK hP 1 0 rfl rfl (z_in (i := 0) (n := 1825) (by decide +kernel) (by decide +kernel)) dX12_worthOf_52 ?_
        refine lv_topi (fun x_104 he_x_104 => ?_)
        have hr_x_104 := z_ctk hC_g_c he_x_104 (k := 0) (lo := 0) (hi := 3) (by decide +kernel) (by decide +kernel) (by decide +kernel)
        refine lv_icmp_ge (tgt := 94) hx hb dX12_worthOf_53 (by decide) (fun c_105 => ?_) (fun c_105 => ?_)
        · have b_106 := z_fgeT c_105
          refine lv_iload_n hx hb dX12_worthOf_94 rfl (lv_at hl 1 rfl) ?_
          refine lv_if_ne (tgt := 104) hx hb dX12_worthOf_95 (by decide) (fun h9 => (z_no (by have h8 := z_fneT h9; omega))) (fun c_107 => ?_)
          have b_108 := z_feqF c_107
          refine lv_aload_n hx hb dX12_worthOf_98 rfl (lv_at hl 0 rfl) ?_
          refine lv_iload hx hb dX12_worthOf_99 (lv_at hl 5 rfl) ?_
          refine va_put (D := G) (ci := 12) (v := .int v_83) (ty := .int) (C := RX12) (T := TX12) (N := 65) hx hb hts inT12 tyX12 tyX12_ok nmX12 hown hK hP hD hS 0 rfl rfl 59 (by decide) (hts _ tw_1942) (fun _ h9 => h9) rfl (tyX12_ok 59 (by decide)) rfl rfl (Nat.le_of_ble_eq_true rfl) dX12_worthOf_101 (fun H locs hP hD hS => ?_)
          refine lv_lload hx hb dX12_worthOf_104 (lv_at hl 4 rfl) ?_
          have hpost : (0 ≤ v_83.toInt ∧ v_83.toInt ≤ 4) := hr_v_83
          exact hret _ _ _ _ _ _ (v_83, g_87) [0, 1, 2, 3] hP hD hS rfl (by decide) dX12_worthOf_106 hpost
        · have b_109 := z_fltF c_105
          refine lv_aload_n hx hb dX12_worthOf_56 rfl (lv_at hl 0 rfl) ?_
          refine lv_iload_n hx hb dX12_worthOf_57 rfl (lv_at hl 1 rfl) ?_
          refine lv_iload_n hx hb dX12_worthOf_58 rfl (lv_at hl 2 rfl) ?_
          refine lv_iload_n hx hb dX12_worthOf_59 rfl (lv_at hl 3 rfl) ?_
          refine lv_iload hx hb dX12_worthOf_60 (lv_at hl 7 rfl) ?_
          refine z_callVl (As := [.int pp, .int 4, .int d, .int v_85]) (rest := []) (wr := []) ⟨hx, hb, hml, hown, hts⟩ hK hE hT hP hD hS hA (r_feltWorth_4 l G cA h0 m_status m_thrown m_above m_under a_traySort a_trayMany a_numbers a_tape m_taped m_textEnd m_faultKind m_faultAt m_bad m_badAt m_token m_at m_behind m_number m_letters m_word a_c a_words m_markMany a_there a_tried a_best a_found m_thereMany m_foundMany m_orderHow m_orderRing m_orderMany m_hasBest m_bestTop m_bestBy a_weights a_shared m_random m_truePlace m_trueWay m_seconds m_done m_feelings m_tries m_leftOver m_playDoor m_playRing m_isOpen m_isOver m_wasTried m_hasPlayed a_feltNow a_last a_kept m_hasSeconds m_hasTurned m_hasRound a_hasFeels a_isOn v_86 m_meanTop m_meanBy a_order m_rowMany m_newSteps g_c g_there g_87 pp d v_85 hr_pp hr_d (by omega) hr_m_thereMany hC_g_c hC_g_there) lk_RX12_369 ⟨rfl, rfl⟩ ⟨Nat.le_of_ble_eq_true rfl, Nat.le_of_ble_eq_true rfl⟩ 12 rfl rfl rfl [0, 1, 2, 3] [] rfl rfl (by decide) rfl hl.1 rfl (lv_room (Nat.le_of_ble_eq_true rfl)) dX12_worthOf_62 ⟨Nat.le_of_ble_eq_true rfl, Nat.le_of_ble_eq_true rfl⟩ (fun r_112 u_113 H locs hw hP hD hS => ?_)
          obtain ⟨n_110, n_111⟩ := u_113
          try dsimp only at hw
          refine lv_lstore (lv' := [(7, .long r_112), (0, .ref h0), (1, .int pp), (2, .int 4), (3, .int d), (4, .long v_82), (6, .int v_83), (9, .int v_85)]) hx hb dX12_worthOf_65 hl (by decide) rfl (fun ls hl => ?_)
          refine lv_lload hx hb dX12_worthOf_67 (lv_at hl 0 rfl) ?_
          refine lv_lload hx hb dX12_worthOf_69 (lv_at hl 5 rfl) ?_
          refine W.lcmp hx hb dX12_worthOf_71 ?_
          refine lv_if_gt (tgt := 78) hx hb dX12_worthOf_72 (by decide) (fun c_114 => ?_) (fun c_114 => ?_)
          · have b_115 := z_fgtTl c_114
            refine lv_lload hx hb dX12_worthOf_78 (lv_at hl 0 rfl) ?_
            refine lv_lstore (lv' := [(4, .long r_112), (7, .long r_112), (0, .ref h0), (1, .int pp), (2, .int 4), (3, .int d), (6, .int v_83), (9, .int v_85)]) hx hb dX12_worthOf_80 hl (by decide) rfl (fun ls hl => ?_)
            refine lv_iconst (v := 2) hx hb dX12_worthOf_82 (by decide) ?_
            refine lv_iload hx hb dX12_worthOf_83 (lv_at hl 7 rfl) ?_
            refine lv_iadd hx hb dX12_worthOf_85 ?_
            refine lv_topi (fun x_116 he_x_116 => ?_)
            have hq_x_116 := z_addq he_x_116 hk_2 (rfl : v_85.toInt = _) (by omega) (by omega)
            refine lv_istore (lv' := [(6, .int x_116), (4, .long r_112), (7, .long r_112), (0, .ref h0), (1, .int pp), (2, .int 4), (3, .int d), (9, .int v_85)]) hx hb dX12_worthOf_86 hl (by decide) rfl (fun ls hl => ?_)
            obtain ⟨x_117, he_x_117⟩ : ∃ z : Int32, z = v_85 + 1 := ⟨_, rfl⟩
            have hq_x_117 := z_addq he_x_117 (rfl : v_85.toInt = _) hk_1 (by omega) (by omega)
            refine lv_iinc (v := x_117) (lv' := [(9, .int x_117), (6, .int x_116), (4, .long r_112), (7, .long r_112), (0, .ref h0), (1, .int pp), (2, .int 4), (3, .int d)]) hx hb dX12_worthOf_88 hl (k := 7) rfl ((z_ofi (by decide +kernel)).trans he_x_117.symm) (by decide) rfl (fun ls hl => ?_)
            refine lv_goto (tgt := 45) hx hb dX12_worthOf_91 (by decide) ?_
            exact ih_103 r_112 x_116 r_112 x_117 n_110 n_111 H locs ls (by omega) (by omega) (by omega) hP hD hS (lv_sub hl [4, 5, 6, 7, 2, 1, 3, 0] rfl)
          · have b_118 := z_fleFl c_114
            refine lv_goto (tgt := 88) hx hb dX12_worthOf_75 (by decide) ?_
            obtain ⟨x_119, he_x_119⟩ : ∃ z : Int32, z = v_85 + 1 := ⟨_, rfl⟩
            have hq_x_119 := z_addq he_x_119 (rfl : v_85.toInt = _) hk_1 (by omega) (by omega)
            refine lv_iinc (v := x_119) (lv' := [(9, .int x_119), (7, .long r_112), (0, .ref h0), (1, .int pp), (2, .int 4), (3, .int d), (4, .long v_82), (6, .int v_83)]) hx hb dX12_worthOf_88 hl (k := 7) rfl ((z_ofi (by decide +kernel)).trans he_x_119.symm) (by decide) rfl (fun ls hl => ?_)
            refine lv_goto (tgt := 45) hx hb dX12_worthOf_91 (by decide) ?_
            exact ih_103 v_82 v_83 r_112 x_119 n_110 n_111 H locs ls (by omega) hr_v_83 (by omega) hP hD hS (lv_sub hl [2, 3, 4, 5, 6, 7, 1, 0] rfl)
    exact hlp_102 _ r_3 0 r_7 0 n_5 n_6 _ _ _ (Nat.lt_succ_self _) (by decide +kernel) (by decide +kernel) hP hD hS (lv_sub hl [4, 5, 6, 7, 3, 2, 1, 0] rfl)
  · have b_120 := z_fgtFl c_9
    refine lv_lload hx hb dX12_worthOf_35 (lv_at hl 0 rfl) ?_
    refine lv_lstore (lv' := [(4, .long r_7), (7, .long r_7), (6, .int 0), (0, .ref h0), (1, .int pp), (2, .int 4), (3, .int d)]) hx hb dX12_worthOf_37 hl (by decide) rfl (fun ls hl => ?_)
    refine lv_iconst (v := 1) hx hb dX12_worthOf_39 (by decide) ?_
    refine lv_istore (lv' := [(6, .int 1), (4, .long r_7), (7, .long r_7), (0, .ref h0), (1, .int pp), (2, .int 4), (3, .int d)]) hx hb dX12_worthOf_40 hl (by decide) rfl (fun ls hl => ?_)
    refine lv_iconst (v := 0) hx hb dX12_worthOf_42 (by decide) ?_
    refine lv_istore (lv' := [(9, .int 0), (6, .int 1), (4, .long r_7), (7, .long r_7), (0, .ref h0), (1, .int pp), (2, .int 4), (3, .int d)]) hx hb dX12_worthOf_43 hl (by decide) rfl (fun ls hl => ?_)
    have hlp_212 : ∀ (n : Nat) (v_192 : Int64) (v_193 : Int32) (v_194 : Int64) (v_195 : Int32) (v_196 : Int32) (g_197 : Nat → Int64) (H : Heap) (locs : List Loc) (ls : Array Slot), (2147483647 - v_195.toInt).toNat < n → (1 ≤ v_193.toInt ∧ v_193.toInt ≤ 4) → (0 ≤ v_195.toInt ∧ v_195.toInt ≤ 3) → va_P G vwCl [(h0, .inr (12, [.int m_status, .int m_thrown, .long m_above, .long m_under, .ref a_traySort, .ref a_trayMany, .ref a_numbers, .ref a_tape, .int m_taped, .int m_textEnd, .int m_faultKind, .int m_faultAt, .int m_bad, .int m_badAt, .int m_token, .int m_at, .int m_behind, .int m_number, .int m_letters, .long m_word, .ref a_c, .ref a_words, .int m_markMany, .ref a_there, .ref a_tried, .ref a_best, .ref a_found, .int m_thereMany, .int m_foundMany, .int m_orderHow, .int m_orderRing, .int m_orderMany, .int m_hasBest, .long m_bestTop, .long m_bestBy, .ref a_weights, .ref a_shared, .int m_random, .int m_truePlace, .int m_trueWay, .int m_seconds, .int m_done, .int m_feelings, .int m_tries, .int m_leftOver, .int m_playDoor, .int m_playRing, .int m_isOpen, .int m_isOver, .int m_wasTried, .int m_hasPlayed, .ref a_feltNow, .ref a_last, .ref a_kept, .int m_hasSeconds, .int m_hasTurned, .int m_hasRound, .ref a_hasFeels, .ref a_isOn, .int v_196, .long m_meanTop, .long m_meanBy, .ref a_order, .int m_rowMany, .int m_newSteps])), (a_c, .inl (cA.1 0, 1825, .inl g_c)), (a_there, .inl (cA.1 0, 10, .inl g_there)), (a_weights, .inl (cA.1 1, 100, .inr (.inl g_197)))] H → va_D A [(h0, .inr (12, [.int m_status, .int m_thrown, .long m_above, .long m_under, .ref a_traySort, .ref a_trayMany, .ref a_numbers, .ref a_tape, .int m_taped, .int m_textEnd, .int m_faultKind, .int m_faultAt, .int m_bad, .int m_badAt, .int m_token, .int m_at, .int m_behind, .int m_number, .int m_letters, .long m_word, .ref a_c, .ref a_words, .int m_markMany, .ref a_there, .ref a_tried, .ref a_best, .ref a_found, .int m_thereMany, .int m_foundMany, .int m_orderHow, .int m_orderRing, .int m_orderMany, .int m_hasBest, .long m_bestTop, .long m_bestBy, .ref a_weights, .ref a_shared, .int m_random, .int m_truePlace, .int m_trueWay, .int m_seconds, .int m_done, .int m_feelings, .int m_tries, .int m_leftOver, .int m_playDoor, .int m_playRing, .int m_isOpen, .int m_isOver, .int m_wasTried, .int m_hasPlayed, .ref a_feltNow, .ref a_last, .ref a_kept, .int m_hasSeconds, .int m_hasTurned, .int m_hasRound, .ref a_hasFeels, .ref a_isOn, .int v_196, .long m_meanTop, .long m_meanBy, .ref a_order, .int m_rowMany, .int m_newSteps])), (a_c, .inl (cA.1 0, 1825, .inl g_c)), (a_there, .inl (cA.1 0, 10, .inl g_there)), (a_weights, .inl (cA.1 1, 100, .inr (.inl g_197)))] → va_S A s.heap H locs → lv_has ls 10 [(0, .ref h0), (1, .int pp), (2, .int 4), (3, .int d), (4, .long v_192), (6, .int v_193), (7, .long v_194), (9, .int v_195)] → W p l e ({ frames := 9, cells := 0, slots := 0, locals := 247 }) s m args below meth c H locs 0 0 Q (F0 m 45 ls []) := by
      intro n
      induction n with
      | zero =>
        intro v_192 v_193 v_194 v_195 v_196 g_197 H locs ls hmu_hlp_212 hr_v_193 hr_v_195 hP hD hS hl
        exact absurd hmu_hlp_212 (Nat.not_lt_zero _)
      | succ n ih_213 =>
        intro v_192 v_193 v_194 v_195 v_196 g_197 H locs ls hmu_hlp_212 hr_v_193 hr_v_195 hP hD hS hl
        refine lv_iload hx hb dX12_worthOf_45 (lv_at hl 7 rfl) ?_
        refine lv_aload_n hx hb dX12_worthOf_47 rfl (lv_at hl 0 rfl) ?_
        refine va_get (D := G) (ci := 12) (v := .ref a_c) (C := RX12) (T := TX12) (N := 65) hx hb hts inT12 hown hK hP 0 rfl rfl 20 (by decide) (hts _ tw_1905) (fun _ h9 => h9) rfl dX12_worthOf_48 ?_
        refine lv_iconst (v := 0) hx hb dX12_worthOf_51 (by decide) ?_
        refine va_iald hx hb hK hP 1 0 rfl rfl (z_in (i := 0) (n := 1825) (by decide +kernel) (by decide +kernel)) dX12_worthOf_52 ?_
        refine lv_topi (fun x_214 he_x_214 => ?_)
        have hr_x_214 := z_ctk hC_g_c he_x_214 (k := 0) (lo := 0) (hi := 3) (by decide +kernel) (by decide +kernel) (by decide +kernel)
        refine lv_icmp_ge (tgt := 94) hx hb dX12_worthOf_53 (by decide) (fun c_215 => ?_) (fun c_215 => ?_)
        · have b_216 := z_fgeT c_215
          refine lv_iload_n hx hb dX12_worthOf_94 rfl (lv_at hl 1 rfl) ?_
          refine lv_if_ne (tgt := 104) hx hb dX12_worthOf_95 (by decide) (fun h9 => (z_no (by have h8 := z_fneT h9; omega))) (fun c_217 => ?_)
          have b_218 := z_feqF c_217
          refine lv_aload_n hx hb dX12_worthOf_98 rfl (lv_at hl 0 rfl) ?_
          refine lv_iload hx hb dX12_worthOf_99 (lv_at hl 5 rfl) ?_
          refine va_put (D := G) (ci := 12) (v := .int v_193) (ty := .int) (C := RX12) (T := TX12) (N := 65) hx hb hts inT12 tyX12 tyX12_ok nmX12 hown hK hP hD hS 0 rfl rfl 59 (by decide) (hts _ tw_1942) (fun _ h9 => h9) rfl (tyX12_ok 59 (by decide)) rfl rfl (Nat.le_of_ble_eq_true rfl) dX12_worthOf_101 (fun H locs hP hD hS => ?_)
          refine lv_lload hx hb dX12_worthOf_104 (lv_at hl 4 rfl) ?_
          have hpost : (0 ≤ v_193.toInt ∧ v_193.toInt ≤ 4) := (z_rgw hr_v_193 (by decide) (by decide))
          exact hret _ _ _ _ _ _ (v_193, g_197) [0, 1, 2, 3] hP hD hS rfl (by decide) dX12_worthOf_106 hpost
        · have b_219 := z_fltF c_215
          refine lv_aload_n hx hb dX12_worthOf_56 rfl (lv_at hl 0 rfl) ?_
          refine lv_iload_n hx hb dX12_worthOf_57 rfl (lv_at hl 1 rfl) ?_
          refine lv_iload_n hx hb dX12_worthOf_58 rfl (lv_at hl 2 rfl) ?_
          refine lv_iload_n hx hb dX12_worthOf_59 rfl (lv_at hl 3 rfl) ?_
          refine lv_iload hx hb dX12_worthOf_60 (lv_at hl 7 rfl) ?_
          refine z_callVl (As := [.int pp, .int 4, .int d, .int v_195]) (rest := []) (wr := []) ⟨hx, hb, hml, hown, hts⟩ hK hE hT hP hD hS hA (r_feltWorth_4 l G cA h0 m_status m_thrown m_above m_under a_traySort a_trayMany a_numbers a_tape m_taped m_textEnd m_faultKind m_faultAt m_bad m_badAt m_token m_at m_behind m_number m_letters m_word a_c a_words m_markMany a_there a_tried a_best a_found m_thereMany m_foundMany m_orderHow m_orderRing m_orderMany m_hasBest m_bestTop m_bestBy a_weights a_shared m_random m_truePlace m_trueWay m_seconds m_done m_feelings m_tries m_leftOver m_playDoor m_playRing m_isOpen m_isOver m_wasTried m_hasPlayed a_feltNow a_last a_kept m_hasSeconds m_hasTurned m_hasRound a_hasFeels a_isOn v_196 m_meanTop m_meanBy a_order m_rowMany m_newSteps g_c g_there g_197 pp d v_195 hr_pp hr_d (by omega) hr_m_thereMany hC_g_c hC_g_there) lk_RX12_369 ⟨rfl, rfl⟩ ⟨Nat.le_of_ble_eq_true rfl, Nat.le_of_ble_eq_true rfl⟩ 12 rfl rfl rfl [0, 1, 2, 3] [] rfl rfl (by decide) rfl hl.1 rfl (lv_room (Nat.le_of_ble_eq_true rfl)) dX12_worthOf_62 ⟨Nat.le_of_ble_eq_true rfl, Nat.le_of_ble_eq_true rfl⟩ (fun r_222 u_223 H locs hw hP hD hS => ?_)
          obtain ⟨n_220, n_221⟩ := u_223
          try dsimp only at hw
          refine lv_lstore (lv' := [(7, .long r_222), (0, .ref h0), (1, .int pp), (2, .int 4), (3, .int d), (4, .long v_192), (6, .int v_193), (9, .int v_195)]) hx hb dX12_worthOf_65 hl (by decide) rfl (fun ls hl => ?_)
          refine lv_lload hx hb dX12_worthOf_67 (lv_at hl 0 rfl) ?_
          refine lv_lload hx hb dX12_worthOf_69 (lv_at hl 5 rfl) ?_
          refine W.lcmp hx hb dX12_worthOf_71 ?_
          refine lv_if_gt (tgt := 78) hx hb dX12_worthOf_72 (by decide) (fun c_224 => ?_) (fun c_224 => ?_)
          · have b_225 := z_fgtTl c_224
            refine lv_lload hx hb dX12_worthOf_78 (lv_at hl 0 rfl) ?_
            refine lv_lstore (lv' := [(4, .long r_222), (7, .long r_222), (0, .ref h0), (1, .int pp), (2, .int 4), (3, .int d), (6, .int v_193), (9, .int v_195)]) hx hb dX12_worthOf_80 hl (by decide) rfl (fun ls hl => ?_)
            refine lv_iconst (v := 2) hx hb dX12_worthOf_82 (by decide) ?_
            refine lv_iload hx hb dX12_worthOf_83 (lv_at hl 7 rfl) ?_
            refine lv_iadd hx hb dX12_worthOf_85 ?_
            refine lv_topi (fun x_226 he_x_226 => ?_)
            have hq_x_226 := z_addq he_x_226 hk_2 (rfl : v_195.toInt = _) (by omega) (by omega)
            refine lv_istore (lv' := [(6, .int x_226), (4, .long r_222), (7, .long r_222), (0, .ref h0), (1, .int pp), (2, .int 4), (3, .int d), (9, .int v_195)]) hx hb dX12_worthOf_86 hl (by decide) rfl (fun ls hl => ?_)
            obtain ⟨x_227, he_x_227⟩ : ∃ z : Int32, z = v_195 + 1 := ⟨_, rfl⟩
            have hq_x_227 := z_addq he_x_227 (rfl : v_195.toInt = _) hk_1 (by omega) (by omega)
            refine lv_iinc (v := x_227) (lv' := [(9, .int x_227), (6, .int x_226), (4, .long r_222), (7, .long r_222), (0, .ref h0), (1, .int pp), (2, .int 4), (3, .int d)]) hx hb dX12_worthOf_88 hl (k := 7) rfl ((z_ofi (by decide +kernel)).trans he_x_227.symm) (by decide) rfl (fun ls hl => ?_)
            refine lv_goto (tgt := 45) hx hb dX12_worthOf_91 (by decide) ?_
            exact ih_213 r_222 x_226 r_222 x_227 n_220 n_221 H locs ls (by omega) (by omega) (by omega) hP hD hS (lv_sub hl [4, 5, 6, 7, 2, 1, 3, 0] rfl)
          · have b_228 := z_fleFl c_224
            refine lv_goto (tgt := 88) hx hb dX12_worthOf_75 (by decide) ?_
            obtain ⟨x_229, he_x_229⟩ : ∃ z : Int32, z = v_195 + 1 := ⟨_, rfl⟩
            have hq_x_229 := z_addq he_x_229 (rfl : v_195.toInt = _) hk_1 (by omega) (by omega)
            refine lv_iinc (v := x_229) (lv' := [(9, .int x_229), (7, .long r_222), (0, .ref h0), (1, .int pp), (2, .int 4), (3, .int d), (4, .long v_192), (6, .int v_193)]) hx hb dX12_worthOf_88 hl (k := 7) rfl ((z_ofi (by decide +kernel)).trans he_x_229.symm) (by decide) rfl (fun ls hl => ?_)
            refine lv_goto (tgt := 45) hx hb dX12_worthOf_91 (by decide) ?_
            exact ih_213 v_192 v_193 r_222 x_229 n_220 n_221 H locs ls (by omega) hr_v_193 (by omega) hP hD hS (lv_sub hl [2, 3, 4, 5, 6, 7, 1, 0] rfl)
    exact hlp_212 _ r_7 1 r_7 0 n_5 n_6 _ _ _ (Nat.lt_succ_self _) (by decide +kernel) (by decide +kernel) hP hD hS (lv_sub hl [4, 5, 6, 7, 2, 1, 3, 0] rfl)
set_option maxHeartbeats 40000000 in
set_option maxRecDepth 100000 in
theorem r_search (l : Launch) (G : va_G) (cA : zCA) (h0 : Nat) (m_status : Int32) (m_thrown : Int32) (m_above : Int64) (m_under : Int64) (a_traySort : Nat) (a_trayMany : Nat) (a_numbers : Nat) (a_tape : Nat) (m_taped : Int32) (m_textEnd : Int32) (m_faultKind : Int32) (m_faultAt : Int32) (m_bad : Int32) (m_badAt : Int32) (m_token : Int32) (m_at : Int32) (m_behind : Int32) (m_number : Int32) (m_letters : Int32) (m_word : Int64) (a_c : Nat) (a_words : Nat) (m_markMany : Int32) (a_there : Nat) (a_tried : Nat) (a_best : Nat) (a_found : Nat) (m_thereMany : Int32) (m_foundMany : Int32) (m_orderHow : Int32) (m_orderRing : Int32) (m_orderMany : Int32) (m_hasBest : Int32) (m_bestTop : Int64) (m_bestBy : Int64) (a_weights : Nat) (a_shared : Nat) (m_random : Int32) (m_truePlace : Int32) (m_trueWay : Int32) (m_seconds : Int32) (m_done : Int32) (m_feelings : Int32) (m_tries : Int32) (m_leftOver : Int32) (m_playDoor : Int32) (m_playRing : Int32) (m_isOpen : Int32) (m_isOver : Int32) (m_wasTried : Int32) (m_hasPlayed : Int32) (a_feltNow : Nat) (a_last : Nat) (a_kept : Nat) (m_hasSeconds : Int32) (m_hasTurned : Int32) (m_hasRound : Int32) (a_hasFeels : Nat) (a_isOn : Nat) (m_firstAct : Int32) (m_meanTop : Int64) (m_meanBy : Int64) (a_order : Nat) (m_rowMany : Int32) (m_newSteps : Int32) (g_c : Nat → Int32) (g_there : Nat → Int32) (d : Int32) (pp : Int32) (w : Int32) (hr_d : 0 ≤ d.toInt ∧ d.toInt ≤ 4) (hr_pp : 0 ≤ pp.toInt ∧ pp.toInt ≤ 9) (hr_w : 0 ≤ w.toInt ∧ w.toInt ≤ 1) (hr_m_thereMany : 0 ≤ m_thereMany.toInt ∧ m_thereMany.toInt ≤ 10) (hC_g_c : zC g_c) (hC_g_there : zRg 10 0 9 g_there) (hp_0 : m_thereMany.toInt ≤ 0 ∨ pp.toInt < m_thereMany.toInt) : zCi l yX12_search cX12_search 7 (some .int) ({ frames := 1, cells := 0, slots := 0, locals := 22 }) G cA [.ref h0, .int d, .int pp, .int w] [(h0, .inr (12, [.int m_status, .int m_thrown, .long m_above, .long m_under, .ref a_traySort, .ref a_trayMany, .ref a_numbers, .ref a_tape, .int m_taped, .int m_textEnd, .int m_faultKind, .int m_faultAt, .int m_bad, .int m_badAt, .int m_token, .int m_at, .int m_behind, .int m_number, .int m_letters, .long m_word, .ref a_c, .ref a_words, .int m_markMany, .ref a_there, .ref a_tried, .ref a_best, .ref a_found, .int m_thereMany, .int m_foundMany, .int m_orderHow, .int m_orderRing, .int m_orderMany, .int m_hasBest, .long m_bestTop, .long m_bestBy, .ref a_weights, .ref a_shared, .int m_random, .int m_truePlace, .int m_trueWay, .int m_seconds, .int m_done, .int m_feelings, .int m_tries, .int m_leftOver, .int m_playDoor, .int m_playRing, .int m_isOpen, .int m_isOver, .int m_wasTried, .int m_hasPlayed, .ref a_feltNow, .ref a_last, .ref a_kept, .int m_hasSeconds, .int m_hasTurned, .int m_hasRound, .ref a_hasFeels, .ref a_isOn, .int m_firstAct, .long m_meanTop, .long m_meanBy, .ref a_order, .int m_rowMany, .int m_newSteps])), (a_c, .inl (cA.1 0, 1825, .inl g_c)), (a_there, .inl (cA.1 0, 10, .inl g_there))] (S := Unit) (fun (r : Int32) (u : Unit) => (r = (F_r_search m_thereMany g_c g_there d pp w)) ∧ (((-1) ≤ r.toInt ∧ r.toInt ≤ 2178) ∧ (r.toInt < 0 → ¬ zop g_c g_there m_thereMany.toInt d.toInt) ∧ (0 ≤ r.toInt → zop g_c g_there m_thereMany.toInt d.toInt))) (fun (u : Unit) => [(h0, .inr (12, [.int m_status, .int m_thrown, .long m_above, .long m_under, .ref a_traySort, .ref a_trayMany, .ref a_numbers, .ref a_tape, .int m_taped, .int m_textEnd, .int m_faultKind, .int m_faultAt, .int m_bad, .int m_badAt, .int m_token, .int m_at, .int m_behind, .int m_number, .int m_letters, .long m_word, .ref a_c, .ref a_words, .int m_markMany, .ref a_there, .ref a_tried, .ref a_best, .ref a_found, .int m_thereMany, .int m_foundMany, .int m_orderHow, .int m_orderRing, .int m_orderMany, .int m_hasBest, .long m_bestTop, .long m_bestBy, .ref a_weights, .ref a_shared, .int m_random, .int m_truePlace, .int m_trueWay, .int m_seconds, .int m_done, .int m_feelings, .int m_tries, .int m_leftOver, .int m_playDoor, .int m_playRing, .int m_isOpen, .int m_isOver, .int m_wasTried, .int m_hasPlayed, .ref a_feltNow, .ref a_last, .ref a_kept, .int m_hasSeconds, .int m_hasTurned, .int m_hasRound, .ref a_hasFeels, .ref a_isOn, .int m_firstAct, .long m_meanTop, .long m_meanBy, .ref a_order, .int m_rowMany, .int m_newSteps])), (a_c, .inl (cA.1 0, 1825, .inl g_c)), (a_there, .inl (cA.1 0, 10, .inl g_there))]) 0 0 := by
  have hk_m1 : ((-1) : Int32).toInt = (-1) := by decide +kernel
  have hk_0 : (0 : Int32).toInt = 0 := by decide +kernel
  have hk_1 : (1 : Int32).toInt = 1 := by decide +kernel
  refine z_start2i (own := RX12) (by decide) (Nat.le_of_ble_eq_true rfl) rfl ?_
  intro p e s m args below meth c A ls Q hx hb hml hts hown hK hE hT hP hD hS hA hl hret
  have hl : lv_has ls 7 [(0, .ref h0), (1, .int d), (2, .int pp), (3, .int w)] := hl
  refine lv_iload_n hx hb dX12_search_0 rfl (lv_at hl 2 rfl) ?_
  refine lv_istore (lv' := [(4, .int pp), (0, .ref h0), (1, .int d), (2, .int pp), (3, .int w)]) hx hb dX12_search_1 hl (by decide) rfl (fun ls hl => ?_)
  refine lv_iconst (v := 0) hx hb dX12_search_3 (by decide) ?_
  refine lv_istore (lv' := [(5, .int 0), (4, .int pp), (0, .ref h0), (1, .int d), (2, .int pp), (3, .int w)]) hx hb dX12_search_4 hl (by decide) rfl (fun ls hl => ?_)
  refine lv_iconst (v := 0) hx hb dX12_search_6 (by decide) ?_
  refine lv_istore (lv' := [(6, .int 0), (5, .int 0), (4, .int pp), (0, .ref h0), (1, .int d), (2, .int pp), (3, .int w)]) hx hb dX12_search_7 hl (by decide) rfl (fun ls hl => ?_)
  have hlp_586 : ∀ (n_L9a : Nat) (v_491 : Int32) (v_492 : Int32) (v_493 : Int32) (H : Heap) (locs : List Loc) (ls : Array Slot), (2147483647 - v_493.toInt).toNat < n_L9a → (0 ≤ v_491.toInt ∧ v_491.toInt ≤ 9) → (0 ≤ v_492.toInt ∧ v_492.toInt ≤ 1980) → (0 ≤ v_493.toInt ∧ v_493.toInt ≤ 10) → (zNp g_c g_there m_thereMany.toInt d.toInt pp.toInt w.toInt v_493.toInt) → (zPl m_thereMany.toInt pp.toInt w.toInt v_493.toInt v_491.toInt) → (m_thereMany.toInt ≤ 0 ∨ v_491.toInt < m_thereMany.toInt) → (v_492.toInt ≤ 198 * v_493.toInt) → (F_r_search m_thereMany g_c g_there d pp w = F_r_search_L9a m_thereMany g_c g_there d w n_L9a v_491 v_492 v_493) → va_P G vwCl [(h0, .inr (12, [.int m_status, .int m_thrown, .long m_above, .long m_under, .ref a_traySort, .ref a_trayMany, .ref a_numbers, .ref a_tape, .int m_taped, .int m_textEnd, .int m_faultKind, .int m_faultAt, .int m_bad, .int m_badAt, .int m_token, .int m_at, .int m_behind, .int m_number, .int m_letters, .long m_word, .ref a_c, .ref a_words, .int m_markMany, .ref a_there, .ref a_tried, .ref a_best, .ref a_found, .int m_thereMany, .int m_foundMany, .int m_orderHow, .int m_orderRing, .int m_orderMany, .int m_hasBest, .long m_bestTop, .long m_bestBy, .ref a_weights, .ref a_shared, .int m_random, .int m_truePlace, .int m_trueWay, .int m_seconds, .int m_done, .int m_feelings, .int m_tries, .int m_leftOver, .int m_playDoor, .int m_playRing, .int m_isOpen, .int m_isOver, .int m_wasTried, .int m_hasPlayed, .ref a_feltNow, .ref a_last, .ref a_kept, .int m_hasSeconds, .int m_hasTurned, .int m_hasRound, .ref a_hasFeels, .ref a_isOn, .int m_firstAct, .long m_meanTop, .long m_meanBy, .ref a_order, .int m_rowMany, .int m_newSteps])), (a_c, .inl (cA.1 0, 1825, .inl g_c)), (a_there, .inl (cA.1 0, 10, .inl g_there))] H → va_D A [(h0, .inr (12, [.int m_status, .int m_thrown, .long m_above, .long m_under, .ref a_traySort, .ref a_trayMany, .ref a_numbers, .ref a_tape, .int m_taped, .int m_textEnd, .int m_faultKind, .int m_faultAt, .int m_bad, .int m_badAt, .int m_token, .int m_at, .int m_behind, .int m_number, .int m_letters, .long m_word, .ref a_c, .ref a_words, .int m_markMany, .ref a_there, .ref a_tried, .ref a_best, .ref a_found, .int m_thereMany, .int m_foundMany, .int m_orderHow, .int m_orderRing, .int m_orderMany, .int m_hasBest, .long m_bestTop, .long m_bestBy, .ref a_weights, .ref a_shared, .int m_random, .int m_truePlace, .int m_trueWay, .int m_seconds, .int m_done, .int m_feelings, .int m_tries, .int m_leftOver, .int m_playDoor, .int m_playRing, .int m_isOpen, .int m_isOver, .int m_wasTried, .int m_hasPlayed, .ref a_feltNow, .ref a_last, .ref a_kept, .int m_hasSeconds, .int m_hasTurned, .int m_hasRound, .ref a_hasFeels, .ref a_isOn, .int m_firstAct, .long m_meanTop, .long m_meanBy, .ref a_order, .int m_rowMany, .int m_newSteps])), (a_c, .inl (cA.1 0, 1825, .inl g_c)), (a_there, .inl (cA.1 0, 10, .inl g_there))] → va_S A s.heap H locs → lv_has ls 7 [(0, .ref h0), (1, .int d), (2, .int pp), (3, .int w), (4, .int v_491), (5, .int v_492), (6, .int v_493)] → W p l e ({ frames := 1, cells := 0, slots := 0, locals := 22 }) s m args below meth c H locs 0 0 Q (F0 m 9 ls []) := by
    intro n_L9a
    induction n_L9a with
    | zero =>
      intro v_491 v_492 v_493 H locs ls hmu_hlp_586 hr_v_491 hr_v_492 hr_v_493 hi_538 hi_539 hi_540 hi_541 hF_L9a hP hD hS hl
      exact absurd hmu_hlp_586 (Nat.not_lt_zero _)
    | succ n_L9a ih_587 =>
      intro v_491 v_492 v_493 H locs ls hmu_hlp_586 hr_v_491 hr_v_492 hr_v_493 hi_538 hi_539 hi_540 hi_541 hF_L9a hP hD hS hl
      refine lv_iload hx hb dX12_search_9 (lv_at hl 6 rfl) ?_
      refine lv_aload_n hx hb dX12_search_11 rfl (lv_at hl 0 rfl) ?_
      refine va_get (D := G) (ci := 12) (v := .int m_thereMany) (C := RX12) (T := TX12) (N := 65) hx hb hts inT12 hown hK hP 0 rfl rfl 27 (by decide) (hts _ tw_1912) (fun _ h9 => h9) rfl dX12_search_12 ?_
      refine lv_icmp_ge (tgt := 103) hx hb dX12_search_15 (by decide) (fun c_588 => ?_) (fun c_588 => ?_)
      · have b_589 := z_fgeT c_588
        refine lv_iconst (v := (-1)) hx hb dX12_search_103 (by decide) ?_
        have hpost : ((-1) ≤ ((-1) : Int32).toInt ∧ ((-1) : Int32).toInt ≤ 2178) ∧ (((-1) : Int32).toInt < 0 → ¬ zop g_c g_there m_thereMany.toInt d.toInt) ∧ (0 ≤ ((-1) : Int32).toInt → zop g_c g_there m_thereMany.toInt d.toInt) := ⟨(by decide +kernel), (fun _ => zNp_all hi_538 (by omega) (by omega) (by omega) hp_0), (fun h => z_no (by omega))⟩
        have hX_590 : F_r_search m_thereMany g_c g_there d pp w = ((-1 : Int32) : Int32) := by
          refine hF_L9a.trans ?_
          refine (F_r_search_L9a_s ..).trans ?_
          refine (if_pos c_588).trans ?_
          exact rfl
        exact hret _ _ _ _ _ _ () [0, 1, 2] hP hD hS rfl (by decide) dX12_search_104 ⟨(congrArg (fun z9 => z9) hX_590).symm, hpost⟩
      · have b_591 := z_fltF c_588
        refine lv_iload hx hb dX12_search_18 (lv_at hl 5 rfl) ?_
        refine lv_aload_n hx hb dX12_search_20 rfl (lv_at hl 0 rfl) ?_
        refine va_get (D := G) (ci := 12) (v := .ref a_c) (C := RX12) (T := TX12) (N := 65) hx hb hts inT12 hown hK hP 0 rfl rfl 20 (by decide) (hts _ tw_1905) (fun _ h9 => h9) rfl dX12_search_21 ?_
        refine lv_bipush (v := 6) hx hb dX12_search_24 (by decide) ?_
        refine va_iald hx hb hK hP 1 0 rfl rfl (z_in (i := 6) (n := 1825) (by decide +kernel) (by decide +kernel)) dX12_search_26 ?_
        refine lv_topi (fun x_592 he_x_592 => ?_)
        have hr_x_592 := z_ctk hC_g_c he_x_592 (k := 6) (lo := 0) (hi := 99) (by decide +kernel) (by decide +kernel) (by decide +kernel)
        refine lv_iload hx hb dX12_search_27 (lv_at hl 6 rfl) ?_
        refine lv_if_ne (tgt := 36) hx hb dX12_search_29 (by decide) (fun c_593 => ?_) (fun c_593 => ?_)
        · have b_594 := z_fneT c_593
          refine lv_aload_n hx hb dX12_search_36 rfl (lv_at hl 0 rfl) ?_
          refine va_get (D := G) (ci := 12) (v := .ref a_c) (C := RX12) (T := TX12) (N := 65) hx hb hts inT12 hown hK hP 0 rfl rfl 20 (by decide) (hts _ tw_1905) (fun _ h9 => h9) rfl dX12_search_37 ?_
          refine lv_bipush (v := 7) hx hb dX12_search_40 (by decide) ?_
          refine va_iald hx hb hK hP 1 0 rfl rfl (z_in (i := 7) (n := 1825) (by decide +kernel) (by decide +kernel)) dX12_search_42 ?_
          refine lv_topi (fun x_595 he_x_595 => ?_)
          have hr_x_595 := z_ctk hC_g_c he_x_595 (k := 7) (lo := 0) (hi := 99) (by decide +kernel) (by decide +kernel) (by decide +kernel)
          refine lv_iadd hx hb dX12_search_43 ?_
          refine lv_topi (fun x_596 he_x_596 => ?_)
          have hq_x_596 := z_addq he_x_596 (rfl : x_592.toInt = _) (rfl : x_595.toInt = _) (by omega) (by omega)
          refine lv_iadd hx hb dX12_search_44 ?_
          refine lv_topi (fun x_597 he_x_597 => ?_)
          have hq_x_597 := z_addq he_x_597 (rfl : v_492.toInt = _) (rfl : x_596.toInt = _) (by omega) (by omega)
          refine lv_istore (lv' := [(5, .int x_597), (0, .ref h0), (1, .int d), (2, .int pp), (3, .int w), (4, .int v_491), (6, .int v_493)]) hx hb dX12_search_45 hl (by decide) rfl (fun ls hl => ?_)
          refine lv_aload_n hx hb dX12_search_47 rfl (lv_at hl 1 rfl) ?_
          refine lv_aload_n hx hb dX12_search_48 rfl (lv_at hl 1 rfl) ?_
          refine va_get (D := G) (ci := 12) (v := .ref a_there) (C := RX12) (T := TX12) (N := 65) hx hb hts inT12 hown hK hP 0 rfl rfl 23 (by decide) (hts _ tw_1908) (fun _ h9 => h9) rfl dX12_search_49 ?_
          refine lv_iload hx hb dX12_search_52 (lv_at hl 5 rfl) ?_
          refine va_iald hx hb hK hP 2 0 rfl rfl (z_inN (by omega) (by omega)) dX12_search_54 ?_
          refine lv_topi (fun x_598 he_x_598 => ?_)
          have hr_x_598 := z_rg hC_g_there he_x_598 (by omega) (by omega)
          refine lv_iload_n hx hb dX12_search_55 rfl (lv_at hl 2 rfl) ?_
          refine z_callVi (As := [.int x_598, .int d]) (rest := []) (wr := [(a_there, .inl (cA.1 0, 10, .inl g_there))]) ⟨hx, hb, hml, hown, hts⟩ hK hE hT hP hD hS hA (r_canOpen l G cA h0 m_status m_thrown m_above m_under a_traySort a_trayMany a_numbers a_tape m_taped m_textEnd m_faultKind m_faultAt m_bad m_badAt m_token m_at m_behind m_number m_letters m_word a_c a_words m_markMany a_there a_tried a_best a_found m_thereMany m_foundMany m_orderHow m_orderRing m_orderMany m_hasBest m_bestTop m_bestBy a_weights a_shared m_random m_truePlace m_trueWay m_seconds m_done m_feelings m_tries m_leftOver m_playDoor m_playRing m_isOpen m_isOver m_wasTried m_hasPlayed a_feltNow a_last a_kept m_hasSeconds m_hasTurned m_hasRound a_hasFeels a_isOn m_firstAct m_meanTop m_meanBy a_order m_rowMany m_newSteps g_c x_598 d hr_x_598 hr_d hC_g_c) lk_RX12_345 ⟨rfl, rfl⟩ ⟨Nat.le_of_ble_eq_true rfl, Nat.le_of_ble_eq_true rfl⟩ 12 rfl rfl rfl [0, 1] [2] rfl rfl (by decide) rfl hl.1 rfl (lv_room (Nat.le_of_ble_eq_true rfl)) dX12_search_56 ⟨Nat.le_of_ble_eq_true rfl, Nat.le_of_ble_eq_true rfl⟩ (fun r_599 u_600 H locs hw hP hD hS => ?_)
          obtain ⟨he_r_599, hw⟩ := hw
          rcases hw with ⟨rfl, hf_602⟩ | ⟨rfl, hf_603⟩
          · skip
            refine lv_if_eq (tgt := 65) hx hb dX12_search_59 (by decide) (fun _ => ?_) (fun h9 => absurd (by decide +kernel) h9)
            refine lv_iload_n hx hb dX12_search_65 rfl (lv_at hl 4 rfl) ?_
            refine lv_if_ne (tgt := 81) hx hb dX12_search_66 (by decide) (fun c_604 => ?_) (fun c_604 => ?_)
            · have b_605 := z_fneT c_604
              refine lv_iload hx hb dX12_search_81 (lv_at hl 5 rfl) ?_
              refine lv_aload_n hx hb dX12_search_83 rfl (lv_at hl 1 rfl) ?_
              refine va_get (D := G) (ci := 12) (v := .int m_thereMany) (C := RX12) (T := TX12) (N := 65) hx hb hts inT12 hown hK hP 1 rfl rfl 27 (by decide) (hts _ tw_1912) (fun _ h9 => h9) rfl dX12_search_84 ?_
              refine lv_iadd hx hb dX12_search_87 ?_
              refine lv_topi (fun x_606 he_x_606 => ?_)
              have hq_x_606 := z_addq he_x_606 (rfl : v_491.toInt = _) (rfl : m_thereMany.toInt = _) (by omega) (by omega)
              refine lv_iconst (v := 1) hx hb dX12_search_88 (by decide) ?_
              refine lv_isub hx hb dX12_search_89 ?_
              refine lv_topi (fun x_607 he_x_607 => ?_)
              have hq_x_607 := z_subq he_x_607 (rfl : x_606.toInt = _) hk_1 (by omega) (by omega)
              refine lv_aload_n hx hb dX12_search_90 rfl (lv_at hl 1 rfl) ?_
              refine va_get (D := G) (ci := 12) (v := .int m_thereMany) (C := RX12) (T := TX12) (N := 65) hx hb hts inT12 hown hK hP 1 rfl rfl 27 (by decide) (hts _ tw_1912) (fun _ h9 => h9) rfl dX12_search_91 ?_
              refine lv_irem hx hb dX12_search_94 (z_nz (by omega)) ?_
              refine lv_topi (fun x_608 he_x_608 => ?_)
              have hr_x_608 := z_remr he_x_608 (by omega) (by omega)
              have hd_x_608 := z_rem2 he_x_608 (by omega) (by omega) (by omega)
              refine lv_istore (lv' := [(4, .int x_608), (5, .int x_597), (0, .ref h0), (1, .int d), (2, .int pp), (3, .int w), (6, .int v_493)]) hx hb dX12_search_95 hl (by decide) rfl (fun ls hl => ?_)
              obtain ⟨x_609, he_x_609⟩ : ∃ z : Int32, z = v_493 + 1 := ⟨_, rfl⟩
              have hq_x_609 := z_addq he_x_609 (rfl : v_493.toInt = _) hk_1 (by omega) (by omega)
              refine lv_iinc (v := x_609) (lv' := [(6, .int x_609), (4, .int x_608), (5, .int x_597), (0, .ref h0), (1, .int d), (2, .int pp), (3, .int w)]) hx hb dX12_search_97 hl (k := 6) rfl ((z_ofi (by decide +kernel)).trans he_x_609.symm) (by decide) rfl (fun ls hl => ?_)
              refine lv_goto (tgt := 9) hx hb dX12_search_100 (by decide) ?_
              have hX_610 : F_r_search m_thereMany g_c g_there d pp w = F_r_search_L9a m_thereMany g_c g_there d w n_L9a x_608 x_597 x_609 := by
                refine hF_L9a.trans ?_
                refine (F_r_search_L9a_s ..).trans ?_
                refine (if_neg c_588).trans ?_
                try (extract_lets -merge -useContext +onlyGivenNames y9; have e9 : x_592 = y9 := (by first | exact he_x_592 | exact he_x_592.symm); clear_value y9; subst e9)
                refine (if_neg c_593).trans ?_
                try (extract_lets -merge -useContext +onlyGivenNames y9; have e9 : x_595 = y9 := (by first | exact he_x_595 | exact he_x_595.symm); clear_value y9; subst e9)
                try (extract_lets -merge -useContext +onlyGivenNames y9; have e9 : x_596 = y9 := (by first | exact he_x_596 | exact he_x_596.symm); clear_value y9; subst e9)
                try (extract_lets -merge -useContext +onlyGivenNames y9; have e9 : x_597 = y9 := (by first | exact he_x_597 | exact he_x_597.symm); clear_value y9; subst e9)
                try (extract_lets -merge -useContext +onlyGivenNames y9; have e9 : x_598 = y9 := (by first | exact he_x_598 | exact he_x_598.symm); clear_value y9; subst e9)
                extract_lets -merge -useContext +onlyGivenNames w9 y9; have e9 : (0 : Int32) = w9 := he_r_599; clear_value w9; subst e9
                refine (if_pos rfl).trans ?_
                refine (if_neg c_604).trans ?_
                try (extract_lets -merge -useContext +onlyGivenNames y9; have e9 : x_606 = y9 := (by first | exact he_x_606 | exact he_x_606.symm); clear_value y9; subst e9)
                try (extract_lets -merge -useContext +onlyGivenNames y9; have e9 : x_607 = y9 := (by first | exact he_x_607 | exact he_x_607.symm); clear_value y9; subst e9)
                try (extract_lets -merge -useContext +onlyGivenNames y9; have e9 : x_608 = y9 := (by first | exact he_x_608 | exact he_x_608.symm); clear_value y9; subst e9)
                try (extract_lets -merge -useContext +onlyGivenNames y9; have e9 : x_609 = y9 := (by first | exact he_x_609 | exact he_x_609.symm); clear_value y9; subst e9)
                exact rfl
              have hP := hP.sub (ws' := [(h0, .inr (12, [.int m_status, .int m_thrown, .long m_above, .long m_under, .ref a_traySort, .ref a_trayMany, .ref a_numbers, .ref a_tape, .int m_taped, .int m_textEnd, .int m_faultKind, .int m_faultAt, .int m_bad, .int m_badAt, .int m_token, .int m_at, .int m_behind, .int m_number, .int m_letters, .long m_word, .ref a_c, .ref a_words, .int m_markMany, .ref a_there, .ref a_tried, .ref a_best, .ref a_found, .int m_thereMany, .int m_foundMany, .int m_orderHow, .int m_orderRing, .int m_orderMany, .int m_hasBest, .long m_bestTop, .long m_bestBy, .ref a_weights, .ref a_shared, .int m_random, .int m_truePlace, .int m_trueWay, .int m_seconds, .int m_done, .int m_feelings, .int m_tries, .int m_leftOver, .int m_playDoor, .int m_playRing, .int m_isOpen, .int m_isOver, .int m_wasTried, .int m_hasPlayed, .ref a_feltNow, .ref a_last, .ref a_kept, .int m_hasSeconds, .int m_hasTurned, .int m_hasRound, .ref a_hasFeels, .ref a_isOn, .int m_firstAct, .long m_meanTop, .long m_meanBy, .ref a_order, .int m_rowMany, .int m_newSteps])), (a_c, .inl (cA.1 0, 1825, .inl g_c)), (a_there, .inl (cA.1 0, 10, .inl g_there))]) [1, 2, 0] rfl
              have hD := hD.sub (ws' := [(h0, .inr (12, [.int m_status, .int m_thrown, .long m_above, .long m_under, .ref a_traySort, .ref a_trayMany, .ref a_numbers, .ref a_tape, .int m_taped, .int m_textEnd, .int m_faultKind, .int m_faultAt, .int m_bad, .int m_badAt, .int m_token, .int m_at, .int m_behind, .int m_number, .int m_letters, .long m_word, .ref a_c, .ref a_words, .int m_markMany, .ref a_there, .ref a_tried, .ref a_best, .ref a_found, .int m_thereMany, .int m_foundMany, .int m_orderHow, .int m_orderRing, .int m_orderMany, .int m_hasBest, .long m_bestTop, .long m_bestBy, .ref a_weights, .ref a_shared, .int m_random, .int m_truePlace, .int m_trueWay, .int m_seconds, .int m_done, .int m_feelings, .int m_tries, .int m_leftOver, .int m_playDoor, .int m_playRing, .int m_isOpen, .int m_isOver, .int m_wasTried, .int m_hasPlayed, .ref a_feltNow, .ref a_last, .ref a_kept, .int m_hasSeconds, .int m_hasTurned, .int m_hasRound, .ref a_hasFeels, .ref a_isOn, .int m_firstAct, .long m_meanTop, .long m_meanBy, .ref a_order, .int m_rowMany, .int m_newSteps])), (a_c, .inl (cA.1 0, 1825, .inl g_c)), (a_there, .inl (cA.1 0, 10, .inl g_there))]) [1, 2, 0] (by decide) rfl
              exact ih_587 x_608 x_597 x_609 H locs ls (by omega) (by omega) (by omega) (by omega) (by rw [hq_x_609]; exact zNp_step hi_538 hi_539 (by omega) (by omega) he_x_598 (by omega) hf_602 (by omega) (by omega) (by omega) (by omega)) (by have h9 := hi_539; unfold zPl at h9 ⊢; omega) (by omega) (by omega) hX_610 hP hD hS (lv_sub hl [3, 4, 5, 6, 1, 2, 0] rfl)
            · have b_611 := z_feqF c_604
              refine lv_iload hx hb dX12_search_69 (lv_at hl 5 rfl) ?_
              refine lv_iconst (v := 1) hx hb dX12_search_71 (by decide) ?_
              refine lv_iadd hx hb dX12_search_72 ?_
              refine lv_topi (fun x_612 he_x_612 => ?_)
              have hq_x_612 := z_addq he_x_612 (rfl : v_491.toInt = _) hk_1 (by omega) (by omega)
              refine lv_aload_n hx hb dX12_search_73 rfl (lv_at hl 1 rfl) ?_
              refine va_get (D := G) (ci := 12) (v := .int m_thereMany) (C := RX12) (T := TX12) (N := 65) hx hb hts inT12 hown hK hP 1 rfl rfl 27 (by decide) (hts _ tw_1912) (fun _ h9 => h9) rfl dX12_search_74 ?_
              refine lv_irem hx hb dX12_search_77 (z_nz (by omega)) ?_
              refine lv_topi (fun x_613 he_x_613 => ?_)
              have hr_x_613 := z_remr he_x_613 (by omega) (by omega)
              have hd_x_613 := z_rem2 he_x_613 (by omega) (by omega) (by omega)
              refine lv_goto (tgt := 95) hx hb dX12_search_78 (by decide) ?_
              refine lv_istore (lv' := [(4, .int x_613), (5, .int x_597), (0, .ref h0), (1, .int d), (2, .int pp), (3, .int w), (6, .int v_493)]) hx hb dX12_search_95 hl (by decide) rfl (fun ls hl => ?_)
              obtain ⟨x_614, he_x_614⟩ : ∃ z : Int32, z = v_493 + 1 := ⟨_, rfl⟩
              have hq_x_614 := z_addq he_x_614 (rfl : v_493.toInt = _) hk_1 (by omega) (by omega)
              refine lv_iinc (v := x_614) (lv' := [(6, .int x_614), (4, .int x_613), (5, .int x_597), (0, .ref h0), (1, .int d), (2, .int pp), (3, .int w)]) hx hb dX12_search_97 hl (k := 6) rfl ((z_ofi (by decide +kernel)).trans he_x_614.symm) (by decide) rfl (fun ls hl => ?_)
              refine lv_goto (tgt := 9) hx hb dX12_search_100 (by decide) ?_
              have hX_615 : F_r_search m_thereMany g_c g_there d pp w = F_r_search_L9a m_thereMany g_c g_there d w n_L9a x_613 x_597 x_614 := by
                refine hF_L9a.trans ?_
                refine (F_r_search_L9a_s ..).trans ?_
                refine (if_neg c_588).trans ?_
                try (extract_lets -merge -useContext +onlyGivenNames y9; have e9 : x_592 = y9 := (by first | exact he_x_592 | exact he_x_592.symm); clear_value y9; subst e9)
                refine (if_neg c_593).trans ?_
                try (extract_lets -merge -useContext +onlyGivenNames y9; have e9 : x_595 = y9 := (by first | exact he_x_595 | exact he_x_595.symm); clear_value y9; subst e9)
                try (extract_lets -merge -useContext +onlyGivenNames y9; have e9 : x_596 = y9 := (by first | exact he_x_596 | exact he_x_596.symm); clear_value y9; subst e9)
                try (extract_lets -merge -useContext +onlyGivenNames y9; have e9 : x_597 = y9 := (by first | exact he_x_597 | exact he_x_597.symm); clear_value y9; subst e9)
                try (extract_lets -merge -useContext +onlyGivenNames y9; have e9 : x_598 = y9 := (by first | exact he_x_598 | exact he_x_598.symm); clear_value y9; subst e9)
                extract_lets -merge -useContext +onlyGivenNames w9 y9; have e9 : (0 : Int32) = w9 := he_r_599; clear_value w9; subst e9
                refine (if_pos rfl).trans ?_
                refine (if_pos c_604).trans ?_
                try (extract_lets -merge -useContext +onlyGivenNames y9; have e9 : x_612 = y9 := (by first | exact he_x_612 | exact he_x_612.symm); clear_value y9; subst e9)
                try (extract_lets -merge -useContext +onlyGivenNames y9; have e9 : x_613 = y9 := (by first | exact he_x_613 | exact he_x_613.symm); clear_value y9; subst e9)
                try (extract_lets -merge -useContext +onlyGivenNames y9; have e9 : x_614 = y9 := (by first | exact he_x_614 | exact he_x_614.symm); clear_value y9; subst e9)
                exact rfl
              have hP := hP.sub (ws' := [(h0, .inr (12, [.int m_status, .int m_thrown, .long m_above, .long m_under, .ref a_traySort, .ref a_trayMany, .ref a_numbers, .ref a_tape, .int m_taped, .int m_textEnd, .int m_faultKind, .int m_faultAt, .int m_bad, .int m_badAt, .int m_token, .int m_at, .int m_behind, .int m_number, .int m_letters, .long m_word, .ref a_c, .ref a_words, .int m_markMany, .ref a_there, .ref a_tried, .ref a_best, .ref a_found, .int m_thereMany, .int m_foundMany, .int m_orderHow, .int m_orderRing, .int m_orderMany, .int m_hasBest, .long m_bestTop, .long m_bestBy, .ref a_weights, .ref a_shared, .int m_random, .int m_truePlace, .int m_trueWay, .int m_seconds, .int m_done, .int m_feelings, .int m_tries, .int m_leftOver, .int m_playDoor, .int m_playRing, .int m_isOpen, .int m_isOver, .int m_wasTried, .int m_hasPlayed, .ref a_feltNow, .ref a_last, .ref a_kept, .int m_hasSeconds, .int m_hasTurned, .int m_hasRound, .ref a_hasFeels, .ref a_isOn, .int m_firstAct, .long m_meanTop, .long m_meanBy, .ref a_order, .int m_rowMany, .int m_newSteps])), (a_c, .inl (cA.1 0, 1825, .inl g_c)), (a_there, .inl (cA.1 0, 10, .inl g_there))]) [1, 2, 0] rfl
              have hD := hD.sub (ws' := [(h0, .inr (12, [.int m_status, .int m_thrown, .long m_above, .long m_under, .ref a_traySort, .ref a_trayMany, .ref a_numbers, .ref a_tape, .int m_taped, .int m_textEnd, .int m_faultKind, .int m_faultAt, .int m_bad, .int m_badAt, .int m_token, .int m_at, .int m_behind, .int m_number, .int m_letters, .long m_word, .ref a_c, .ref a_words, .int m_markMany, .ref a_there, .ref a_tried, .ref a_best, .ref a_found, .int m_thereMany, .int m_foundMany, .int m_orderHow, .int m_orderRing, .int m_orderMany, .int m_hasBest, .long m_bestTop, .long m_bestBy, .ref a_weights, .ref a_shared, .int m_random, .int m_truePlace, .int m_trueWay, .int m_seconds, .int m_done, .int m_feelings, .int m_tries, .int m_leftOver, .int m_playDoor, .int m_playRing, .int m_isOpen, .int m_isOver, .int m_wasTried, .int m_hasPlayed, .ref a_feltNow, .ref a_last, .ref a_kept, .int m_hasSeconds, .int m_hasTurned, .int m_hasRound, .ref a_hasFeels, .ref a_isOn, .int m_firstAct, .long m_meanTop, .long m_meanBy, .ref a_order, .int m_rowMany, .int m_newSteps])), (a_c, .inl (cA.1 0, 1825, .inl g_c)), (a_there, .inl (cA.1 0, 10, .inl g_there))]) [1, 2, 0] (by decide) rfl
              exact ih_587 x_613 x_597 x_614 H locs ls (by omega) (by omega) (by omega) (by omega) (by rw [hq_x_614]; exact zNp_step hi_538 hi_539 (by omega) (by omega) he_x_598 (by omega) hf_602 (by omega) (by omega) (by omega) (by omega)) (by have h9 := hi_539; unfold zPl at h9 ⊢; omega) (by omega) (by omega) hX_615 hP hD hS (lv_sub hl [3, 4, 5, 6, 1, 2, 0] rfl)
          · skip
            refine lv_if_eq (tgt := 65) hx hb dX12_search_59 (by decide) (fun h9 => absurd h9 (by decide +kernel)) (fun _ => ?_)
            refine lv_iload hx hb dX12_search_62 (lv_at hl 0 rfl) ?_
            have hpost : ((-1) ≤ x_597.toInt ∧ x_597.toInt ≤ 2178) ∧ (x_597.toInt < 0 → ¬ zop g_c g_there m_thereMany.toInt d.toInt) ∧ (0 ≤ x_597.toInt → zop g_c g_there m_thereMany.toInt d.toInt) := ⟨(by omega), (fun h => z_no (by omega)), (fun _ => ⟨v_491.toInt.toNat, by omega, by rw [← z_at he_x_598 (a := v_491.toInt.toNat) (by omega)]; exact hf_603⟩)⟩
            have hX_616 : F_r_search m_thereMany g_c g_there d pp w = (x_597 : Int32) := by
              refine hF_L9a.trans ?_
              refine (F_r_search_L9a_s ..).trans ?_
              refine (if_neg c_588).trans ?_
              try (extract_lets -merge -useContext +onlyGivenNames y9; have e9 : x_592 = y9 := (by first | exact he_x_592 | exact he_x_592.symm); clear_value y9; subst e9)
              refine (if_neg c_593).trans ?_
              try (extract_lets -merge -useContext +onlyGivenNames y9; have e9 : x_595 = y9 := (by first | exact he_x_595 | exact he_x_595.symm); clear_value y9; subst e9)
              try (extract_lets -merge -useContext +onlyGivenNames y9; have e9 : x_596 = y9 := (by first | exact he_x_596 | exact he_x_596.symm); clear_value y9; subst e9)
              try (extract_lets -merge -useContext +onlyGivenNames y9; have e9 : x_597 = y9 := (by first | exact he_x_597 | exact he_x_597.symm); clear_value y9; subst e9)
              try (extract_lets -merge -useContext +onlyGivenNames y9; have e9 : x_598 = y9 := (by first | exact he_x_598 | exact he_x_598.symm); clear_value y9; subst e9)
              extract_lets -merge -useContext +onlyGivenNames w9 y9; have e9 : (1 : Int32) = w9 := he_r_599; clear_value w9; subst e9
              refine (if_neg (show ¬ (1 : Int32) = 0 by decide)).trans ?_
              exact rfl
            exact hret _ _ _ _ _ _ () [1, 2, 0] hP hD hS rfl (by decide) dX12_search_64 ⟨(congrArg (fun z9 => z9) hX_616).symm, hpost⟩
        · have b_617 := z_feqF c_593
          refine lv_iconst (v := 0) hx hb dX12_search_32 (by decide) ?_
          refine lv_goto (tgt := 43) hx hb dX12_search_33 (by decide) ?_
          refine lv_iadd hx hb dX12_search_43 ?_
          refine lv_topi (fun x_618 he_x_618 => ?_)
          have hq_x_618 := z_addq he_x_618 (rfl : x_592.toInt = _) hk_0 (by omega) (by omega)
          refine lv_iadd hx hb dX12_search_44 ?_
          refine lv_topi (fun x_619 he_x_619 => ?_)
          have hq_x_619 := z_addq he_x_619 (rfl : v_492.toInt = _) (rfl : x_618.toInt = _) (by omega) (by omega)
          refine lv_istore (lv' := [(5, .int x_619), (0, .ref h0), (1, .int d), (2, .int pp), (3, .int w), (4, .int v_491), (6, .int v_493)]) hx hb dX12_search_45 hl (by decide) rfl (fun ls hl => ?_)
          refine lv_aload_n hx hb dX12_search_47 rfl (lv_at hl 1 rfl) ?_
          refine lv_aload_n hx hb dX12_search_48 rfl (lv_at hl 1 rfl) ?_
          refine va_get (D := G) (ci := 12) (v := .ref a_there) (C := RX12) (T := TX12) (N := 65) hx hb hts inT12 hown hK hP 0 rfl rfl 23 (by decide) (hts _ tw_1908) (fun _ h9 => h9) rfl dX12_search_49 ?_
          refine lv_iload hx hb dX12_search_52 (lv_at hl 5 rfl) ?_
          refine va_iald hx hb hK hP 2 0 rfl rfl (z_inN (by omega) (by omega)) dX12_search_54 ?_
          refine lv_topi (fun x_620 he_x_620 => ?_)
          have hr_x_620 := z_rg hC_g_there he_x_620 (by omega) (by omega)
          refine lv_iload_n hx hb dX12_search_55 rfl (lv_at hl 2 rfl) ?_
          refine z_callVi (As := [.int x_620, .int d]) (rest := []) (wr := [(a_there, .inl (cA.1 0, 10, .inl g_there))]) ⟨hx, hb, hml, hown, hts⟩ hK hE hT hP hD hS hA (r_canOpen l G cA h0 m_status m_thrown m_above m_under a_traySort a_trayMany a_numbers a_tape m_taped m_textEnd m_faultKind m_faultAt m_bad m_badAt m_token m_at m_behind m_number m_letters m_word a_c a_words m_markMany a_there a_tried a_best a_found m_thereMany m_foundMany m_orderHow m_orderRing m_orderMany m_hasBest m_bestTop m_bestBy a_weights a_shared m_random m_truePlace m_trueWay m_seconds m_done m_feelings m_tries m_leftOver m_playDoor m_playRing m_isOpen m_isOver m_wasTried m_hasPlayed a_feltNow a_last a_kept m_hasSeconds m_hasTurned m_hasRound a_hasFeels a_isOn m_firstAct m_meanTop m_meanBy a_order m_rowMany m_newSteps g_c x_620 d hr_x_620 hr_d hC_g_c) lk_RX12_345 ⟨rfl, rfl⟩ ⟨Nat.le_of_ble_eq_true rfl, Nat.le_of_ble_eq_true rfl⟩ 12 rfl rfl rfl [0, 1] [2] rfl rfl (by decide) rfl hl.1 rfl (lv_room (Nat.le_of_ble_eq_true rfl)) dX12_search_56 ⟨Nat.le_of_ble_eq_true rfl, Nat.le_of_ble_eq_true rfl⟩ (fun r_621 u_622 H locs hw hP hD hS => ?_)
          obtain ⟨he_r_621, hw⟩ := hw
          rcases hw with ⟨rfl, hf_624⟩ | ⟨rfl, hf_625⟩
          · skip
            refine lv_if_eq (tgt := 65) hx hb dX12_search_59 (by decide) (fun _ => ?_) (fun h9 => absurd (by decide +kernel) h9)
            refine lv_iload_n hx hb dX12_search_65 rfl (lv_at hl 4 rfl) ?_
            refine lv_if_ne (tgt := 81) hx hb dX12_search_66 (by decide) (fun c_626 => ?_) (fun c_626 => ?_)
            · have b_627 := z_fneT c_626
              refine lv_iload hx hb dX12_search_81 (lv_at hl 5 rfl) ?_
              refine lv_aload_n hx hb dX12_search_83 rfl (lv_at hl 1 rfl) ?_
              refine va_get (D := G) (ci := 12) (v := .int m_thereMany) (C := RX12) (T := TX12) (N := 65) hx hb hts inT12 hown hK hP 1 rfl rfl 27 (by decide) (hts _ tw_1912) (fun _ h9 => h9) rfl dX12_search_84 ?_
              refine lv_iadd hx hb dX12_search_87 ?_
              refine lv_topi (fun x_628 he_x_628 => ?_)
              have hq_x_628 := z_addq he_x_628 (rfl : v_491.toInt = _) (rfl : m_thereMany.toInt = _) (by omega) (by omega)
              refine lv_iconst (v := 1) hx hb dX12_search_88 (by decide) ?_
              refine lv_isub hx hb dX12_search_89 ?_
              refine lv_topi (fun x_629 he_x_629 => ?_)
              have hq_x_629 := z_subq he_x_629 (rfl : x_628.toInt = _) hk_1 (by omega) (by omega)
              refine lv_aload_n hx hb dX12_search_90 rfl (lv_at hl 1 rfl) ?_
              refine va_get (D := G) (ci := 12) (v := .int m_thereMany) (C := RX12) (T := TX12) (N := 65) hx hb hts inT12 hown hK hP 1 rfl rfl 27 (by decide) (hts _ tw_1912) (fun _ h9 => h9) rfl dX12_search_91 ?_
              refine lv_irem hx hb dX12_search_94 (z_nz (by omega)) ?_
              refine lv_topi (fun x_630 he_x_630 => ?_)
              have hr_x_630 := z_remr he_x_630 (by omega) (by omega)
              have hd_x_630 := z_rem2 he_x_630 (by omega) (by omega) (by omega)
              refine lv_istore (lv' := [(4, .int x_630), (5, .int x_619), (0, .ref h0), (1, .int d), (2, .int pp), (3, .int w), (6, .int v_493)]) hx hb dX12_search_95 hl (by decide) rfl (fun ls hl => ?_)
              obtain ⟨x_631, he_x_631⟩ : ∃ z : Int32, z = v_493 + 1 := ⟨_, rfl⟩
              have hq_x_631 := z_addq he_x_631 (rfl : v_493.toInt = _) hk_1 (by omega) (by omega)
              refine lv_iinc (v := x_631) (lv' := [(6, .int x_631), (4, .int x_630), (5, .int x_619), (0, .ref h0), (1, .int d), (2, .int pp), (3, .int w)]) hx hb dX12_search_97 hl (k := 6) rfl ((z_ofi (by decide +kernel)).trans he_x_631.symm) (by decide) rfl (fun ls hl => ?_)
              refine lv_goto (tgt := 9) hx hb dX12_search_100 (by decide) ?_
              have hX_632 : F_r_search m_thereMany g_c g_there d pp w = F_r_search_L9a m_thereMany g_c g_there d w n_L9a x_630 x_619 x_631 := by
                refine hF_L9a.trans ?_
                refine (F_r_search_L9a_s ..).trans ?_
                refine (if_neg c_588).trans ?_
                try (extract_lets -merge -useContext +onlyGivenNames y9; have e9 : x_592 = y9 := (by first | exact he_x_592 | exact he_x_592.symm); clear_value y9; subst e9)
                refine (if_pos c_593).trans ?_
                try (extract_lets -merge -useContext +onlyGivenNames y9; have e9 : x_618 = y9 := (by first | exact he_x_618 | exact he_x_618.symm); clear_value y9; subst e9)
                try (extract_lets -merge -useContext +onlyGivenNames y9; have e9 : x_619 = y9 := (by first | exact he_x_619 | exact he_x_619.symm); clear_value y9; subst e9)
                try (extract_lets -merge -useContext +onlyGivenNames y9; have e9 : x_620 = y9 := (by first | exact he_x_620 | exact he_x_620.symm); clear_value y9; subst e9)
                extract_lets -merge -useContext +onlyGivenNames w9 y9; have e9 : (0 : Int32) = w9 := he_r_621; clear_value w9; subst e9
                refine (if_pos rfl).trans ?_
                refine (if_neg c_626).trans ?_
                try (extract_lets -merge -useContext +onlyGivenNames y9; have e9 : x_628 = y9 := (by first | exact he_x_628 | exact he_x_628.symm); clear_value y9; subst e9)
                try (extract_lets -merge -useContext +onlyGivenNames y9; have e9 : x_629 = y9 := (by first | exact he_x_629 | exact he_x_629.symm); clear_value y9; subst e9)
                try (extract_lets -merge -useContext +onlyGivenNames y9; have e9 : x_630 = y9 := (by first | exact he_x_630 | exact he_x_630.symm); clear_value y9; subst e9)
                try (extract_lets -merge -useContext +onlyGivenNames y9; have e9 : x_631 = y9 := (by first | exact he_x_631 | exact he_x_631.symm); clear_value y9; subst e9)
                exact rfl
              have hP := hP.sub (ws' := [(h0, .inr (12, [.int m_status, .int m_thrown, .long m_above, .long m_under, .ref a_traySort, .ref a_trayMany, .ref a_numbers, .ref a_tape, .int m_taped, .int m_textEnd, .int m_faultKind, .int m_faultAt, .int m_bad, .int m_badAt, .int m_token, .int m_at, .int m_behind, .int m_number, .int m_letters, .long m_word, .ref a_c, .ref a_words, .int m_markMany, .ref a_there, .ref a_tried, .ref a_best, .ref a_found, .int m_thereMany, .int m_foundMany, .int m_orderHow, .int m_orderRing, .int m_orderMany, .int m_hasBest, .long m_bestTop, .long m_bestBy, .ref a_weights, .ref a_shared, .int m_random, .int m_truePlace, .int m_trueWay, .int m_seconds, .int m_done, .int m_feelings, .int m_tries, .int m_leftOver, .int m_playDoor, .int m_playRing, .int m_isOpen, .int m_isOver, .int m_wasTried, .int m_hasPlayed, .ref a_feltNow, .ref a_last, .ref a_kept, .int m_hasSeconds, .int m_hasTurned, .int m_hasRound, .ref a_hasFeels, .ref a_isOn, .int m_firstAct, .long m_meanTop, .long m_meanBy, .ref a_order, .int m_rowMany, .int m_newSteps])), (a_c, .inl (cA.1 0, 1825, .inl g_c)), (a_there, .inl (cA.1 0, 10, .inl g_there))]) [1, 2, 0] rfl
              have hD := hD.sub (ws' := [(h0, .inr (12, [.int m_status, .int m_thrown, .long m_above, .long m_under, .ref a_traySort, .ref a_trayMany, .ref a_numbers, .ref a_tape, .int m_taped, .int m_textEnd, .int m_faultKind, .int m_faultAt, .int m_bad, .int m_badAt, .int m_token, .int m_at, .int m_behind, .int m_number, .int m_letters, .long m_word, .ref a_c, .ref a_words, .int m_markMany, .ref a_there, .ref a_tried, .ref a_best, .ref a_found, .int m_thereMany, .int m_foundMany, .int m_orderHow, .int m_orderRing, .int m_orderMany, .int m_hasBest, .long m_bestTop, .long m_bestBy, .ref a_weights, .ref a_shared, .int m_random, .int m_truePlace, .int m_trueWay, .int m_seconds, .int m_done, .int m_feelings, .int m_tries, .int m_leftOver, .int m_playDoor, .int m_playRing, .int m_isOpen, .int m_isOver, .int m_wasTried, .int m_hasPlayed, .ref a_feltNow, .ref a_last, .ref a_kept, .int m_hasSeconds, .int m_hasTurned, .int m_hasRound, .ref a_hasFeels, .ref a_isOn, .int m_firstAct, .long m_meanTop, .long m_meanBy, .ref a_order, .int m_rowMany, .int m_newSteps])), (a_c, .inl (cA.1 0, 1825, .inl g_c)), (a_there, .inl (cA.1 0, 10, .inl g_there))]) [1, 2, 0] (by decide) rfl
              exact ih_587 x_630 x_619 x_631 H locs ls (by omega) (by omega) (by omega) (by omega) (by rw [hq_x_631]; exact zNp_step hi_538 hi_539 (by omega) (by omega) he_x_620 (by omega) hf_624 (by omega) (by omega) (by omega) (by omega)) (by have h9 := hi_539; unfold zPl at h9 ⊢; omega) (by omega) (by omega) hX_632 hP hD hS (lv_sub hl [3, 4, 5, 6, 1, 2, 0] rfl)
            · have b_633 := z_feqF c_626
              refine lv_iload hx hb dX12_search_69 (lv_at hl 5 rfl) ?_
              refine lv_iconst (v := 1) hx hb dX12_search_71 (by decide) ?_
              refine lv_iadd hx hb dX12_search_72 ?_
              refine lv_topi (fun x_634 he_x_634 => ?_)
              have hq_x_634 := z_addq he_x_634 (rfl : v_491.toInt = _) hk_1 (by omega) (by omega)
              refine lv_aload_n hx hb dX12_search_73 rfl (lv_at hl 1 rfl) ?_
              refine va_get (D := G) (ci := 12) (v := .int m_thereMany) (C := RX12) (T := TX12) (N := 65) hx hb hts inT12 hown hK hP 1 rfl rfl 27 (by decide) (hts _ tw_1912) (fun _ h9 => h9) rfl dX12_search_74 ?_
              refine lv_irem hx hb dX12_search_77 (z_nz (by omega)) ?_
              refine lv_topi (fun x_635 he_x_635 => ?_)
              have hr_x_635 := z_remr he_x_635 (by omega) (by omega)
              have hd_x_635 := z_rem2 he_x_635 (by omega) (by omega) (by omega)
              refine lv_goto (tgt := 95) hx hb dX12_search_78 (by decide) ?_
              refine lv_istore (lv' := [(4, .int x_635), (5, .int x_619), (0, .ref h0), (1, .int d), (2, .int pp), (3, .int w), (6, .int v_493)]) hx hb dX12_search_95 hl (by decide) rfl (fun ls hl => ?_)
              obtain ⟨x_636, he_x_636⟩ : ∃ z : Int32, z = v_493 + 1 := ⟨_, rfl⟩
              have hq_x_636 := z_addq he_x_636 (rfl : v_493.toInt = _) hk_1 (by omega) (by omega)
              refine lv_iinc (v := x_636) (lv' := [(6, .int x_636), (4, .int x_635), (5, .int x_619), (0, .ref h0), (1, .int d), (2, .int pp), (3, .int w)]) hx hb dX12_search_97 hl (k := 6) rfl ((z_ofi (by decide +kernel)).trans he_x_636.symm) (by decide) rfl (fun ls hl => ?_)
              refine lv_goto (tgt := 9) hx hb dX12_search_100 (by decide) ?_
              have hX_637 : F_r_search m_thereMany g_c g_there d pp w = F_r_search_L9a m_thereMany g_c g_there d w n_L9a x_635 x_619 x_636 := by
                refine hF_L9a.trans ?_
                refine (F_r_search_L9a_s ..).trans ?_
                refine (if_neg c_588).trans ?_
                try (extract_lets -merge -useContext +onlyGivenNames y9; have e9 : x_592 = y9 := (by first | exact he_x_592 | exact he_x_592.symm); clear_value y9; subst e9)
                refine (if_pos c_593).trans ?_
                try (extract_lets -merge -useContext +onlyGivenNames y9; have e9 : x_618 = y9 := (by first | exact he_x_618 | exact he_x_618.symm); clear_value y9; subst e9)
                try (extract_lets -merge -useContext +onlyGivenNames y9; have e9 : x_619 = y9 := (by first | exact he_x_619 | exact he_x_619.symm); clear_value y9; subst e9)
                try (extract_lets -merge -useContext +onlyGivenNames y9; have e9 : x_620 = y9 := (by first | exact he_x_620 | exact he_x_620.symm); clear_value y9; subst e9)
                extract_lets -merge -useContext +onlyGivenNames w9 y9; have e9 : (0 : Int32) = w9 := he_r_621; clear_value w9; subst e9
                refine (if_pos rfl).trans ?_
                refine (if_pos c_626).trans ?_
                try (extract_lets -merge -useContext +onlyGivenNames y9; have e9 : x_634 = y9 := (by first | exact he_x_634 | exact he_x_634.symm); clear_value y9; subst e9)
                try (extract_lets -merge -useContext +onlyGivenNames y9; have e9 : x_635 = y9 := (by first | exact he_x_635 | exact he_x_635.symm); clear_value y9; subst e9)
                try (extract_lets -merge -useContext +onlyGivenNames y9; have e9 : x_636 = y9 := (by first | exact he_x_636 | exact he_x_636.symm); clear_value y9; subst e9)
                exact rfl
              have hP := hP.sub (ws' := [(h0, .inr (12, [.int m_status, .int m_thrown, .long m_above, .long m_under, .ref a_traySort, .ref a_trayMany, .ref a_numbers, .ref a_tape, .int m_taped, .int m_textEnd, .int m_faultKind, .int m_faultAt, .int m_bad, .int m_badAt, .int m_token, .int m_at, .int m_behind, .int m_number, .int m_letters, .long m_word, .ref a_c, .ref a_words, .int m_markMany, .ref a_there, .ref a_tried, .ref a_best, .ref a_found, .int m_thereMany, .int m_foundMany, .int m_orderHow, .int m_orderRing, .int m_orderMany, .int m_hasBest, .long m_bestTop, .long m_bestBy, .ref a_weights, .ref a_shared, .int m_random, .int m_truePlace, .int m_trueWay, .int m_seconds, .int m_done, .int m_feelings, .int m_tries, .int m_leftOver, .int m_playDoor, .int m_playRing, .int m_isOpen, .int m_isOver, .int m_wasTried, .int m_hasPlayed, .ref a_feltNow, .ref a_last, .ref a_kept, .int m_hasSeconds, .int m_hasTurned, .int m_hasRound, .ref a_hasFeels, .ref a_isOn, .int m_firstAct, .long m_meanTop, .long m_meanBy, .ref a_order, .int m_rowMany, .int m_newSteps])), (a_c, .inl (cA.1 0, 1825, .inl g_c)), (a_there, .inl (cA.1 0, 10, .inl g_there))]) [1, 2, 0] rfl
              have hD := hD.sub (ws' := [(h0, .inr (12, [.int m_status, .int m_thrown, .long m_above, .long m_under, .ref a_traySort, .ref a_trayMany, .ref a_numbers, .ref a_tape, .int m_taped, .int m_textEnd, .int m_faultKind, .int m_faultAt, .int m_bad, .int m_badAt, .int m_token, .int m_at, .int m_behind, .int m_number, .int m_letters, .long m_word, .ref a_c, .ref a_words, .int m_markMany, .ref a_there, .ref a_tried, .ref a_best, .ref a_found, .int m_thereMany, .int m_foundMany, .int m_orderHow, .int m_orderRing, .int m_orderMany, .int m_hasBest, .long m_bestTop, .long m_bestBy, .ref a_weights, .ref a_shared, .int m_random, .int m_truePlace, .int m_trueWay, .int m_seconds, .int m_done, .int m_feelings, .int m_tries, .int m_leftOver, .int m_playDoor, .int m_playRing, .int m_isOpen, .int m_isOver, .int m_wasTried, .int m_hasPlayed, .ref a_feltNow, .ref a_last, .ref a_kept, .int m_hasSeconds, .int m_hasTurned, .int m_hasRound, .ref a_hasFeels, .ref a_isOn, .int m_firstAct, .long m_meanTop, .long m_meanBy, .ref a_order, .int m_rowMany, .int m_newSteps])), (a_c, .inl (cA.1 0, 1825, .inl g_c)), (a_there, .inl (cA.1 0, 10, .inl g_there))]) [1, 2, 0] (by decide) rfl
              exact ih_587 x_635 x_619 x_636 H locs ls (by omega) (by omega) (by omega) (by omega) (by rw [hq_x_636]; exact zNp_step hi_538 hi_539 (by omega) (by omega) he_x_620 (by omega) hf_624 (by omega) (by omega) (by omega) (by omega)) (by have h9 := hi_539; unfold zPl at h9 ⊢; omega) (by omega) (by omega) hX_637 hP hD hS (lv_sub hl [3, 4, 5, 6, 1, 2, 0] rfl)
          · skip
            refine lv_if_eq (tgt := 65) hx hb dX12_search_59 (by decide) (fun h9 => absurd h9 (by decide +kernel)) (fun _ => ?_)
            refine lv_iload hx hb dX12_search_62 (lv_at hl 0 rfl) ?_
            have hpost : ((-1) ≤ x_619.toInt ∧ x_619.toInt ≤ 2178) ∧ (x_619.toInt < 0 → ¬ zop g_c g_there m_thereMany.toInt d.toInt) ∧ (0 ≤ x_619.toInt → zop g_c g_there m_thereMany.toInt d.toInt) := ⟨(by omega), (fun h => z_no (by omega)), (fun _ => ⟨v_491.toInt.toNat, by omega, by rw [← z_at he_x_620 (a := v_491.toInt.toNat) (by omega)]; exact hf_625⟩)⟩
            have hX_638 : F_r_search m_thereMany g_c g_there d pp w = (x_619 : Int32) := by
              refine hF_L9a.trans ?_
              refine (F_r_search_L9a_s ..).trans ?_
              refine (if_neg c_588).trans ?_
              try (extract_lets -merge -useContext +onlyGivenNames y9; have e9 : x_592 = y9 := (by first | exact he_x_592 | exact he_x_592.symm); clear_value y9; subst e9)
              refine (if_pos c_593).trans ?_
              try (extract_lets -merge -useContext +onlyGivenNames y9; have e9 : x_618 = y9 := (by first | exact he_x_618 | exact he_x_618.symm); clear_value y9; subst e9)
              try (extract_lets -merge -useContext +onlyGivenNames y9; have e9 : x_619 = y9 := (by first | exact he_x_619 | exact he_x_619.symm); clear_value y9; subst e9)
              try (extract_lets -merge -useContext +onlyGivenNames y9; have e9 : x_620 = y9 := (by first | exact he_x_620 | exact he_x_620.symm); clear_value y9; subst e9)
              extract_lets -merge -useContext +onlyGivenNames w9 y9; have e9 : (1 : Int32) = w9 := he_r_621; clear_value w9; subst e9
              refine (if_neg (show ¬ (1 : Int32) = 0 by decide)).trans ?_
              exact rfl
            exact hret _ _ _ _ _ _ () [1, 2, 0] hP hD hS rfl (by decide) dX12_search_64 ⟨(congrArg (fun z9 => z9) hX_638).symm, hpost⟩
  have hX_639 : F_r_search m_thereMany g_c g_there d pp w = F_r_search_L9a m_thereMany g_c g_there d w ((2147483647 - (0 : Int32).toInt).toNat + 1) pp (0 : Int32) (0 : Int32) := by
    refine (F_r_search_s ..).trans ?_
    exact rfl
  exact hlp_586 ((2147483647 - (0 : Int32).toInt).toNat + 1) pp 0 0 _ _ _ (Nat.lt_succ_self _) hr_pp (by decide +kernel) (by decide +kernel) (zNp_0 (by omega) hp_0) (by unfold zPl; omega) (by omega) (by omega) hX_639 hP hD hS (lv_sub hl [3, 4, 5, 6, 2, 1, 0] rfl)
