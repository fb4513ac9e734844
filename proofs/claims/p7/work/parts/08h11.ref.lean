set_option maxHeartbeats 4000000 in
set_option maxRecDepth 100000 in
theorem r_insert (l : Launch) (G : va_G) (cA : zCA) (h0 : Nat) (m_status : Int32) (m_thrown : Int32) (m_above : Int64) (m_under : Int64) (a_traySort : Nat) (a_trayMany : Nat) (a_numbers : Nat) (a_tape : Nat) (m_taped : Int32) (m_textEnd : Int32) (m_faultKind : Int32) (m_faultAt : Int32) (m_bad : Int32) (m_badAt : Int32) (m_token : Int32) (m_at : Int32) (m_behind : Int32) (m_number : Int32) (m_letters : Int32) (m_word : Int64) (a_c : Nat) (a_words : Nat) (m_markMany : Int32) (a_there : Nat) (a_tried : Nat) (a_best : Nat) (a_found : Nat) (m_thereMany : Int32) (m_foundMany : Int32) (m_orderHow : Int32) (m_orderRing : Int32) (m_orderMany : Int32) (m_hasBest : Int32) (m_bestTop : Int64) (m_bestBy : Int64) (a_weights : Nat) (a_shared : Nat) (m_random : Int32) (m_truePlace : Int32) (m_trueWay : Int32) (m_seconds : Int32) (m_done : Int32) (m_feelings : Int32) (m_tries : Int32) (m_leftOver : Int32) (m_playDoor : Int32) (m_playRing : Int32) (m_isOpen : Int32) (m_isOver : Int32) (m_wasTried : Int32) (m_hasPlayed : Int32) (a_feltNow : Nat) (a_last : Nat) (a_kept : Nat) (m_hasSeconds : Int32) (m_hasTurned : Int32) (m_hasRound : Int32) (a_hasFeels : Nat) (a_isOn : Nat) (m_firstAct : Int32) (m_meanTop : Int64) (m_meanBy : Int64) (a_order : Nat) (m_rowMany : Int32) (m_newSteps : Int32) (g_c : Nat → Int32) (k : Int32) (r : Int32) (pp : Int32) (hr_k : 0 ≤ k.toInt ∧ k.toInt ≤ 9) (hr_r : 0 ≤ r.toInt ∧ r.toInt ≤ 2) (hr_pp : 0 ≤ pp.toInt ∧ pp.toInt ≤ 10) (hZ_g_c : zC g_c) (hp_0 : r.toInt < (g_c 2).toInt) (hp_1 : k.toInt < (g_c 1).toInt) (hp_2 : pp.toInt ≤ (g_c (95 + r.toInt.toNat)).toInt) (hp_3 : zRO g_c k.toInt (-1)) : zCv l yX12_insert cX12_insert 5 none ({ frames := 0, cells := 0, slots := 0, locals := 0 }) G cA [.ref h0, .int k, .int r, .int pp] [(h0, .inr (12, [.int m_status, .int m_thrown, .long m_above, .long m_under, .ref a_traySort, .ref a_trayMany, .ref a_numbers, .ref a_tape, .int m_taped, .int m_textEnd, .int m_faultKind, .int m_faultAt, .int m_bad, .int m_badAt, .int m_token, .int m_at, .int m_behind, .int m_number, .int m_letters, .long m_word, .ref a_c, .ref a_words, .int m_markMany, .ref a_there, .ref a_tried, .ref a_best, .ref a_found, .int m_thereMany, .int m_foundMany, .int m_orderHow, .int m_orderRing, .int m_orderMany, .int m_hasBest, .long m_bestTop, .long m_bestBy, .ref a_weights, .ref a_shared, .int m_random, .int m_truePlace, .int m_trueWay, .int m_seconds, .int m_done, .int m_feelings, .int m_tries, .int m_leftOver, .int m_playDoor, .int m_playRing, .int m_isOpen, .int m_isOver, .int m_wasTried, .int m_hasPlayed, .ref a_feltNow, .ref a_last, .ref a_kept, .int m_hasSeconds, .int m_hasTurned, .int m_hasRound, .ref a_hasFeels, .ref a_isOn, .int m_firstAct, .long m_meanTop, .long m_meanBy, .ref a_order, .int m_rowMany, .int m_newSteps])), (a_c, .inl (cA.1 0, 1825, .inl g_c))] (S := (Nat → Int32)) (fun (u : (Nat → Int32)) => (zC u) ∧ (zInP g_c u r.toInt pp.toInt k.toInt)) (fun (u : (Nat → Int32)) => [(h0, .inr (12, [.int m_status, .int m_thrown, .long m_above, .long m_under, .ref a_traySort, .ref a_trayMany, .ref a_numbers, .ref a_tape, .int m_taped, .int m_textEnd, .int m_faultKind, .int m_faultAt, .int m_bad, .int m_badAt, .int m_token, .int m_at, .int m_behind, .int m_number, .int m_letters, .long m_word, .ref a_c, .ref a_words, .int m_markMany, .ref a_there, .ref a_tried, .ref a_best, .ref a_found, .int m_thereMany, .int m_foundMany, .int m_orderHow, .int m_orderRing, .int m_orderMany, .int m_hasBest, .long m_bestTop, .long m_bestBy, .ref a_weights, .ref a_shared, .int m_random, .int m_truePlace, .int m_trueWay, .int m_seconds, .int m_done, .int m_feelings, .int m_tries, .int m_leftOver, .int m_playDoor, .int m_playRing, .int m_isOpen, .int m_isOver, .int m_wasTried, .int m_hasPlayed, .ref a_feltNow, .ref a_last, .ref a_kept, .int m_hasSeconds, .int m_hasTurned, .int m_hasRound, .ref a_hasFeels, .ref a_isOn, .int m_firstAct, .long m_meanTop, .long m_meanBy, .ref a_order, .int m_rowMany, .int m_newSteps])), (a_c, .inl (cA.1 0, 1825, .inl u))]) 0 0 := by
  have hk_m1 : ((-1) : Int32).toInt = (-1) := by decide +kernel
  have hk_1 : (1 : Int32).toInt = 1 := by decide +kernel
  have hk_10 : (10 : Int32).toInt = 10 := by decide +kernel
  have hk_95 : (95 : Int32).toInt = 95 := by decide +kernel
  have hk_98 : (98 : Int32).toInt = 98 := by decide +kernel
  have hC_g_c : zCt g_c := hZ_g_c.1
  refine z_start2v (own := RX12) (by decide) (Nat.le_of_ble_eq_true rfl) rfl ?_
  intro p e s m args below meth c A ls Q hx hb hml hts hown hK hE hT hP hD hS hA hl hret
  have hl : lv_has ls 5 [(0, .ref h0), (1, .int k), (2, .int r), (3, .int pp)] := hl
  refine lv_aload_n hx hb dX12_insert_0 rfl (lv_at hl 0 rfl) ?_
  refine va_get (D := G) (ci := 12) (v := .ref a_c) (C := RX12) (T := TX12) (N := 65) hx hb hts inT12 hown hK hP 0 rfl rfl 20 (by decide) (hts _ tw_1905) (fun _ h9 => h9) rfl dX12_insert_1 ?_
  refine lv_bipush (v := 95) hx hb dX12_insert_4 (by decide) ?_
  refine lv_iload_n hx hb dX12_insert_6 rfl (lv_at hl 2 rfl) ?_
  refine lv_iadd hx hb dX12_insert_7 ?_
  refine lv_topi (fun x_1 he_x_1 => ?_)
  have hq_x_1 := z_addq he_x_1 hk_95 (rfl : r.toInt = _) (by omega) (by omega)
  refine va_iald hx hb hK hP 1 0 rfl rfl (z_inN (by omega) (by omega)) dX12_insert_8 ?_
  refine lv_topi (fun x_2 he_x_2 => ?_)
  have hr_x_2 := z_ctt hC_g_c he_x_2 (a := 95) (b := 97) (lo := 0) (hi := 10) (by decide +kernel) (by decide) (by omega) (by omega)
  have hsz_x_2 := z_sz (r := r.toInt) he_x_2 (by omega) (by omega)
  have hS9 : (g_c (95 + r.toInt.toNat)).toInt ≤ 9 := zRoom hZ_g_c (by omega) (by omega) hp_0 (by omega) hp_1 (zRO_noring hp_3 (by omega) hp_0)
  have hy9 : 0 ≤ x_2.toInt ∧ x_2.toInt ≤ 9 := by omega
  refine lv_istore (lv' := [(4, .int x_2), (0, .ref h0), (1, .int k), (2, .int r), (3, .int pp)]) hx hb dX12_insert_9 hl (by decide) rfl (fun ls hl => ?_)
  have hlp_49 : ∀ (n : Nat) (v_31 : Int32) (g_32 : Nat → Int32) (H : Heap) (locs : List Loc) (ls : Array Slot), (v_31.toInt + 2147483648).toNat < n → (0 ≤ v_31.toInt ∧ v_31.toInt ≤ 9) → (zCt g_32) → (pp.toInt ≤ v_31.toInt) → (v_31.toInt ≤ (g_c (95 + r.toInt.toNat)).toInt) → (zShI g_c g_32 (98 + 10 * r.toInt) v_31.toInt (g_c (95 + r.toInt.toNat)).toInt) → va_P G vwCl [(h0, .inr (12, [.int m_status, .int m_thrown, .long m_above, .long m_under, .ref a_traySort, .ref a_trayMany, .ref a_numbers, .ref a_tape, .int m_taped, .int m_textEnd, .int m_faultKind, .int m_faultAt, .int m_bad, .int m_badAt, .int m_token, .int m_at, .int m_behind, .int m_number, .int m_letters, .long m_word, .ref a_c, .ref a_words, .int m_markMany, .ref a_there, .ref a_tried, .ref a_best, .ref a_found, .int m_thereMany, .int m_foundMany, .int m_orderHow, .int m_orderRing, .int m_orderMany, .int m_hasBest, .long m_bestTop, .long m_bestBy, .ref a_weights, .ref a_shared, .int m_random, .int m_truePlace, .int m_trueWay, .int m_seconds, .int m_done, .int m_feelings, .int m_tries, .int m_leftOver, .int m_playDoor, .int m_playRing, .int m_isOpen, .int m_isOver, .int m_wasTried, .int m_hasPlayed, .ref a_feltNow, .ref a_last, .ref a_kept, .int m_hasSeconds, .int m_hasTurned, .int m_hasRound, .ref a_hasFeels, .ref a_isOn, .int m_firstAct, .long m_meanTop, .long m_meanBy, .ref a_order, .int m_rowMany, .int m_newSteps])), (a_c, .inl (cA.1 0, 1825, .inl g_32))] H → va_D A [(h0, .inr (12, [.int m_status, .int m_thrown, .long m_above, .long m_under, .ref a_traySort, .ref a_trayMany, .ref a_numbers, .ref a_tape, .int m_taped, .int m_textEnd, .int m_faultKind, .int m_faultAt, .int m_bad, .int m_badAt, .int m_token, .int m_at, .int m_behind, .int m_number, .int m_letters, .long m_word, .ref a_c, .ref a_words, .int m_markMany, .ref a_there, .ref a_tried, .ref a_best, .ref a_found, .int m_thereMany, .int m_foundMany, .int m_orderHow, .int m_orderRing, .int m_orderMany, .int m_hasBest, .long m_bestTop, .long m_bestBy, .ref a_weights, .ref a_shared, .int m_random, .int m_truePlace, .int m_trueWay, .int m_seconds, .int m_done, .int m_feelings, .int m_tries, .int m_leftOver, .int m_playDoor, .int m_playRing, .int m_isOpen, .int m_isOver, .int m_wasTried, .int m_hasPlayed, .ref a_feltNow, .ref a_last, .ref a_kept, .int m_hasSeconds, .int m_hasTurned, .int m_hasRound, .ref a_hasFeels, .ref a_isOn, .int m_firstAct, .long m_meanTop, .long m_meanBy, .ref a_order, .int m_rowMany, .int m_newSteps])), (a_c, .inl (cA.1 0, 1825, .inl g_32))] → va_S A s.heap H locs → lv_has ls 5 [(0, .ref h0), (1, .int k), (2, .int r), (3, .int pp), (4, .int v_31)] → W p l e ({ frames := 0, cells := 0, slots := 0, locals := 0 }) s m args below meth c H locs 0 0 Q (F0 m 11 ls []) := by
    intro n
    induction n with
    | zero =>
      intro v_31 g_32 H locs ls hmu_hlp_49 hr_v_31 hC_g_32 hi_46 hi_47 hi_48 hP hD hS hl
      exact absurd hmu_hlp_49 (Nat.not_lt_zero _)
    | succ n ih_50 =>
      intro v_31 g_32 H locs ls hmu_hlp_49 hr_v_31 hC_g_32 hi_46 hi_47 hi_48 hP hD hS hl
      refine lv_iload hx hb dX12_insert_11 (lv_at hl 4 rfl) ?_
      refine lv_iload_n hx hb dX12_insert_13 rfl (lv_at hl 3 rfl) ?_
      refine lv_icmp_le (tgt := 55) hx hb dX12_insert_14 (by decide) (fun c_51 => ?_) (fun c_51 => ?_)
      · have b_52 := z_fleT c_51
        refine lv_aload_n hx hb dX12_insert_55 rfl (lv_at hl 0 rfl) ?_
        have hn_k_53 : 0 ≤ pp.toInt ∧ pp.toInt ≤ 9 := by omega
        refine va_get (D := G) (ci := 12) (v := .ref a_c) (C := RX12) (T := TX12) (N := 65) hx hb hts inT12 hown hK hP 0 rfl rfl 20 (by decide) (hts _ tw_1905) (fun _ h9 => h9) rfl dX12_insert_56 ?_
        refine lv_bipush (v := 98) hx hb dX12_insert_59 (by decide) ?_
        refine lv_bipush (v := 10) hx hb dX12_insert_61 (by decide) ?_
        refine lv_iload_n hx hb dX12_insert_63 rfl (lv_at hl 2 rfl) ?_
        refine lv_imul hx hb dX12_insert_64 ?_
        refine lv_topi (fun x_54 he_x_54 => ?_)
        have hq_x_54 := z_mulq he_x_54 hk_10 (rfl : r.toInt = _) (by omega) (by omega)
        refine lv_iadd hx hb dX12_insert_65 ?_
        refine lv_topi (fun x_55 he_x_55 => ?_)
        have hq_x_55 := z_addq he_x_55 hk_98 (rfl : x_54.toInt = _) (by omega) (by omega)
        refine lv_iload_n hx hb dX12_insert_66 rfl (lv_at hl 3 rfl) ?_
        refine lv_iadd hx hb dX12_insert_67 ?_
        refine lv_topi (fun x_56 he_x_56 => ?_)
        have hq_x_56 := z_addq he_x_56 (rfl : x_55.toInt = _) (rfl : pp.toInt = _) (by omega) (by omega)
        refine lv_iload_n hx hb dX12_insert_68 rfl (lv_at hl 1 rfl) ?_
        refine z_iast hx hb hK hP hD hS 1 0 rfl rfl (z_inN (by omega) (by omega)) dX12_insert_69 (fun g_57 hg_g_57 H locs hP hD hS => ?_)
        have hC_g_57 := z_ctUt hC_g_32 hg_g_57 (a := 98) (b := 127) (lo := 0) (hi := 9) (by decide +kernel) (by omega) (by omega) (by omega)
        refine lv_aload_n hx hb dX12_insert_70 rfl (lv_at hl 0 rfl) ?_
        refine va_get (D := G) (ci := 12) (v := .ref a_c) (C := RX12) (T := TX12) (N := 65) hx hb hts inT12 hown hK hP 0 rfl rfl 20 (by decide) (hts _ tw_1905) (fun _ h9 => h9) rfl dX12_insert_71 ?_
        refine lv_bipush (v := 95) hx hb dX12_insert_74 (by decide) ?_
        refine lv_iload_n hx hb dX12_insert_76 rfl (lv_at hl 2 rfl) ?_
        refine lv_iadd hx hb dX12_insert_77 ?_
        refine lv_topi (fun x_58 he_x_58 => ?_)
        have hq_x_58 := z_addq he_x_58 hk_95 (rfl : r.toInt = _) (by omega) (by omega)
        refine lv_dup2_11 hx hb dX12_insert_78 rfl rfl ?_
        refine va_iald hx hb hK hP 1 0 rfl rfl (z_inN (by omega) (by omega)) dX12_insert_79 ?_
        refine lv_topi (fun x_59 he_x_59 => ?_)
        have hr_x_59 := z_ctt hC_g_57 he_x_59 (a := 95) (b := 97) (lo := 0) (hi := 10) (by decide +kernel) (by decide) (by omega) (by omega)
        have hxS_x_59 := zInX hi_48 (by omega) (by omega) (by omega) hg_g_57 (by omega) he_x_59 (by omega)
        refine lv_iconst (v := 1) hx hb dX12_insert_80 (by decide) ?_
        refine lv_iadd hx hb dX12_insert_81 ?_
        refine lv_topi (fun x_60 he_x_60 => ?_)
        have hq_x_60 := z_addq he_x_60 (rfl : x_59.toInt = _) hk_1 (by omega) (by omega)
        refine z_iast hx hb hK hP hD hS 1 0 rfl rfl (z_inN (by omega) (by omega)) dX12_insert_82 (fun g_61 hg_g_61 H locs hP hD hS => ?_)
        have hC_g_61 := z_ctUt hC_g_57 hg_g_61 (a := 95) (b := 97) (lo := 0) (hi := 10) (by decide +kernel) (by omega) (by omega) (by omega)
        have hin : zInP g_c g_61 r.toInt pp.toInt k.toInt := zInP_of hi_48 (by omega) (by omega) (by omega) (by omega) (by omega) hg_g_57 (by omega) he_x_59 (by omega) hg_g_61 (by omega) (by omega)
        have hpost : (zC g_61) ∧ (zInP g_c g_61 r.toInt pp.toInt k.toInt) := ⟨(zInP_zC hZ_g_c hC_g_61 hin (by omega) (by omega) (by omega) (by omega) hp_1 (zRO_noring hp_3 (by omega) hp_0) hS9), hin⟩
        exact hret _ _ _ _ _ g_61 [0, 1] hP hD hS rfl (by decide) dX12_insert_83 hpost
      · have b_62 := z_fgtF c_51
        refine lv_aload_n hx hb dX12_insert_17 rfl (lv_at hl 0 rfl) ?_
        refine va_get (D := G) (ci := 12) (v := .ref a_c) (C := RX12) (T := TX12) (N := 65) hx hb hts inT12 hown hK hP 0 rfl rfl 20 (by decide) (hts _ tw_1905) (fun _ h9 => h9) rfl dX12_insert_18 ?_
        refine lv_bipush (v := 98) hx hb dX12_insert_21 (by decide) ?_
        refine lv_bipush (v := 10) hx hb dX12_insert_23 (by decide) ?_
        refine lv_iload_n hx hb dX12_insert_25 rfl (lv_at hl 2 rfl) ?_
        refine lv_imul hx hb dX12_insert_26 ?_
        refine lv_topi (fun x_63 he_x_63 => ?_)
        have hq_x_63 := z_mulq he_x_63 hk_10 (rfl : r.toInt = _) (by omega) (by omega)
        refine lv_iadd hx hb dX12_insert_27 ?_
        refine lv_topi (fun x_64 he_x_64 => ?_)
        have hq_x_64 := z_addq he_x_64 hk_98 (rfl : x_63.toInt = _) (by omega) (by omega)
        refine lv_iload hx hb dX12_insert_28 (lv_at hl 4 rfl) ?_
        refine lv_iadd hx hb dX12_insert_30 ?_
        refine lv_topi (fun x_65 he_x_65 => ?_)
        have hq_x_65 := z_addq he_x_65 (rfl : x_64.toInt = _) (rfl : v_31.toInt = _) (by omega) (by omega)
        refine lv_aload_n hx hb dX12_insert_31 rfl (lv_at hl 0 rfl) ?_
        refine va_get (D := G) (ci := 12) (v := .ref a_c) (C := RX12) (T := TX12) (N := 65) hx hb hts inT12 hown hK hP 0 rfl rfl 20 (by decide) (hts _ tw_1905) (fun _ h9 => h9) rfl dX12_insert_32 ?_
        refine lv_bipush (v := 98) hx hb dX12_insert_35 (by decide) ?_
        refine lv_bipush (v := 10) hx hb dX12_insert_37 (by decide) ?_
        refine lv_iload_n hx hb dX12_insert_39 rfl (lv_at hl 2 rfl) ?_
        refine lv_imul hx hb dX12_insert_40 ?_
        refine lv_topi (fun x_66 he_x_66 => ?_)
        have hq_x_66 := z_mulq he_x_66 hk_10 (rfl : r.toInt = _) (by omega) (by omega)
        refine lv_iadd hx hb dX12_insert_41 ?_
        refine lv_topi (fun x_67 he_x_67 => ?_)
        have hq_x_67 := z_addq he_x_67 hk_98 (rfl : x_66.toInt = _) (by omega) (by omega)
        refine lv_iload hx hb dX12_insert_42 (lv_at hl 4 rfl) ?_
        refine lv_iadd hx hb dX12_insert_44 ?_
        refine lv_topi (fun x_68 he_x_68 => ?_)
        have hq_x_68 := z_addq he_x_68 (rfl : x_67.toInt = _) (rfl : v_31.toInt = _) (by omega) (by omega)
        refine lv_iconst (v := 1) hx hb dX12_insert_45 (by decide) ?_
        refine lv_isub hx hb dX12_insert_46 ?_
        refine lv_topi (fun x_69 he_x_69 => ?_)
        have hq_x_69 := z_subq he_x_69 (rfl : x_68.toInt = _) hk_1 (by omega) (by omega)
        refine va_iald hx hb hK hP 1 0 rfl rfl (z_inN (by omega) (by omega)) dX12_insert_47 ?_
        refine lv_topi (fun x_70 he_x_70 => ?_)
        have hr_x_70 := z_ctt hC_g_32 he_x_70 (a := 98) (b := 126) (lo := 0) (hi := 9) (by decide +kernel) (by decide) (by omega) (by omega)
        refine z_iast hx hb hK hP hD hS 1 0 rfl rfl (z_inN (by omega) (by omega)) dX12_insert_48 (fun g_71 hg_g_71 H locs hP hD hS => ?_)
        have hC_g_71 := z_ctUt hC_g_32 hg_g_71 (a := 99) (b := 127) (lo := 0) (hi := 9) (by decide +kernel) (by omega) (by omega) (by omega)
        obtain ⟨x_72, he_x_72⟩ : ∃ z : Int32, z = v_31 + (-1) := ⟨_, rfl⟩
        have hq_x_72 := z_addq he_x_72 (rfl : v_31.toInt = _) hk_m1 (by omega) (by omega)
        refine lv_iinc (v := x_72) (lv' := [(4, .int x_72), (0, .ref h0), (1, .int k), (2, .int r), (3, .int pp)]) hx hb dX12_insert_49 hl (k := 4) rfl ((z_ofi (by decide +kernel)).trans he_x_72.symm) (by decide) rfl (fun ls hl => ?_)
        refine lv_goto (tgt := 11) hx hb dX12_insert_52 (by decide) ?_
        exact ih_50 x_72 g_71 H locs ls (by omega) (by omega) hC_g_71 (by omega) (by omega) (by rw [show x_72.toInt = v_31.toInt - 1 by omega]; exact zShI_step hi_48 hg_g_71 he_x_70 (by omega) (by omega) (by omega) (by omega)) hP hD hS (lv_sub hl [1, 2, 3, 4, 0] rfl)
  exact hlp_49 _ x_2 g_c _ _ _ (Nat.lt_succ_self _) (by omega) hC_g_c (by omega) (by omega) (by rw [hsz_x_2]; exact zShI_0) hP hD hS (lv_sub hl [1, 2, 3, 4, 0] rfl)
set_option maxHeartbeats 4000000 in
set_option maxRecDepth 100000 in
theorem r_take2 (l : Launch) (G : va_G) (cA : zCA) (h0 : Nat) (m_status : Int32) (m_thrown : Int32) (m_above : Int64) (m_under : Int64) (a_traySort : Nat) (a_trayMany : Nat) (a_numbers : Nat) (a_tape : Nat) (m_taped : Int32) (m_textEnd : Int32) (m_faultKind : Int32) (m_faultAt : Int32) (m_bad : Int32) (m_badAt : Int32) (m_token : Int32) (m_at : Int32) (m_behind : Int32) (m_number : Int32) (m_letters : Int32) (m_word : Int64) (a_c : Nat) (a_words : Nat) (m_markMany : Int32) (a_there : Nat) (a_tried : Nat) (a_best : Nat) (a_found : Nat) (m_thereMany : Int32) (m_foundMany : Int32) (m_orderHow : Int32) (m_orderRing : Int32) (m_orderMany : Int32) (m_hasBest : Int32) (m_bestTop : Int64) (m_bestBy : Int64) (a_weights : Nat) (a_shared : Nat) (m_random : Int32) (m_truePlace : Int32) (m_trueWay : Int32) (m_seconds : Int32) (m_done : Int32) (m_feelings : Int32) (m_tries : Int32) (m_leftOver : Int32) (m_playDoor : Int32) (m_playRing : Int32) (m_isOpen : Int32) (m_isOver : Int32) (m_wasTried : Int32) (m_hasPlayed : Int32) (a_feltNow : Nat) (a_last : Nat) (a_kept : Nat) (m_hasSeconds : Int32) (m_hasTurned : Int32) (m_hasRound : Int32) (a_hasFeels : Nat) (a_isOn : Nat) (m_firstAct : Int32) (m_meanTop : Int64) (m_meanBy : Int64) (a_order : Nat) (m_rowMany : Int32) (m_newSteps : Int32) (g_c : Nat → Int32) (k : Int32) (hr_k : 0 ≤ k.toInt ∧ k.toInt ≤ 9) (hZ_g_c : zC g_c) (hp_0 : zOn g_c k.toInt) : zCv l yX12_take2 cX12_take2 4 none ({ frames := 2, cells := 0, slots := 0, locals := 46 }) G cA [.ref h0, .int k] [(h0, .inr (12, [.int m_status, .int m_thrown, .long m_above, .long m_under, .ref a_traySort, .ref a_trayMany, .ref a_numbers, .ref a_tape, .int m_taped, .int m_textEnd, .int m_faultKind, .int m_faultAt, .int m_bad, .int m_badAt, .int m_token, .int m_at, .int m_behind, .int m_number, .int m_letters, .long m_word, .ref a_c, .ref a_words, .int m_markMany, .ref a_there, .ref a_tried, .ref a_best, .ref a_found, .int m_thereMany, .int m_foundMany, .int m_orderHow, .int m_orderRing, .int m_orderMany, .int m_hasBest, .long m_bestTop, .long m_bestBy, .ref a_weights, .ref a_shared, .int m_random, .int m_truePlace, .int m_trueWay, .int m_seconds, .int m_done, .int m_feelings, .int m_tries, .int m_leftOver, .int m_playDoor, .int m_playRing, .int m_isOpen, .int m_isOver, .int m_wasTried, .int m_hasPlayed, .ref a_feltNow, .ref a_last, .ref a_kept, .int m_hasSeconds, .int m_hasTurned, .int m_hasRound, .ref a_hasFeels, .ref a_isOn, .int m_firstAct, .long m_meanTop, .long m_meanBy, .ref a_order, .int m_rowMany, .int m_newSteps])), (a_c, .inl (cA.1 0, 1825, .inl g_c))] (S := (Nat → Int32)) (fun (u : (Nat → Int32)) => (zC u) ∧ (zTaken g_c u k.toInt)) (fun (u : (Nat → Int32)) => [(h0, .inr (12, [.int m_status, .int m_thrown, .long m_above, .long m_under, .ref a_traySort, .ref a_trayMany, .ref a_numbers, .ref a_tape, .int m_taped, .int m_textEnd, .int m_faultKind, .int m_faultAt, .int m_bad, .int m_badAt, .int m_token, .int m_at, .int m_behind, .int m_number, .int m_letters, .long m_word, .ref a_c, .ref a_words, .int m_markMany, .ref a_there, .ref a_tried, .ref a_best, .ref a_found, .int m_thereMany, .int m_foundMany, .int m_orderHow, .int m_orderRing, .int m_orderMany, .int m_hasBest, .long m_bestTop, .long m_bestBy, .ref a_weights, .ref a_shared, .int m_random, .int m_truePlace, .int m_trueWay, .int m_seconds, .int m_done, .int m_feelings, .int m_tries, .int m_leftOver, .int m_playDoor, .int m_playRing, .int m_isOpen, .int m_isOver, .int m_wasTried, .int m_hasPlayed, .ref a_feltNow, .ref a_last, .ref a_kept, .int m_hasSeconds, .int m_hasTurned, .int m_hasRound, .ref a_hasFeels, .ref a_isOn, .int m_firstAct, .long m_meanTop, .long m_meanBy, .ref a_order, .int m_rowMany, .int m_newSteps])), (a_c, .inl (cA.1 0, 1825, .inl u))]) 0 0 := by
  have hk_1 : (1 : Int32).toInt = 1 := by decide +kernel
  have hk_10 : (10 : Int32).toInt = 10 := by decide +kernel
  have hk_95 : (95 : Int32).toInt = 95 := by decide +kernel
  have hk_98 : (98 : Int32).toInt = 98 := by decide +kernel
  have hC_g_c : zCt g_c := hZ_g_c.1
  refine z_start2v (own := RX12) (by decide) (Nat.le_of_ble_eq_true rfl) rfl ?_
  intro p e s m args below meth c A ls Q hx hb hml hts hown hK hE hT hP hD hS hA hl hret
  have hl : lv_has ls 4 [(0, .ref h0), (1, .int k)] := hl
  refine lv_aload_n hx hb dX12_take2_0 rfl (lv_at hl 0 rfl) ?_
  refine lv_iload_n hx hb dX12_take2_1 rfl (lv_at hl 1 rfl) ?_
  refine z_callVi (As := [.int k]) (rest := []) (wr := []) ⟨hx, hb, hml, hown, hts⟩ hK hE hT hP hD hS hA (r_ringOf l G cA h0 m_status m_thrown m_above m_under a_traySort a_trayMany a_numbers a_tape m_taped m_textEnd m_faultKind m_faultAt m_bad m_badAt m_token m_at m_behind m_number m_letters m_word a_c a_words m_markMany a_there a_tried a_best a_found m_thereMany m_foundMany m_orderHow m_orderRing m_orderMany m_hasBest m_bestTop m_bestBy a_weights a_shared m_random m_truePlace m_trueWay m_seconds m_done m_feelings m_tries m_leftOver m_playDoor m_playRing m_isOpen m_isOver m_wasTried m_hasPlayed a_feltNow a_last a_kept m_hasSeconds m_hasTurned m_hasRound a_hasFeels a_isOn m_firstAct m_meanTop m_meanBy a_order m_rowMany m_newSteps g_c k hr_k hZ_g_c) lk_RX12_278 ⟨rfl, rfl⟩ ⟨Nat.le_of_ble_eq_true rfl, Nat.le_of_ble_eq_true rfl⟩ 12 rfl rfl rfl [0, 1] [] rfl rfl (by decide) rfl hl.1 rfl (lv_room (Nat.le_of_ble_eq_true rfl)) dX12_take2_2 ⟨Nat.le_of_ble_eq_true rfl, Nat.le_of_ble_eq_true rfl⟩ (fun r_1 u_2 H locs hw hP hD hS => ?_)
  obtain ⟨hr_r_1, hf_3⟩ := hw
  have hr0_r_1 := zOn_r hp_0 hf_3
  refine lv_istore_n (lv' := [(2, .int r_1), (0, .ref h0), (1, .int k)]) hx hb dX12_take2_5 rfl hl (by decide) rfl (fun ls hl => ?_)
  refine lv_aload_n hx hb dX12_take2_6 rfl (lv_at hl 1 rfl) ?_
  refine lv_iload_n hx hb dX12_take2_7 rfl (lv_at hl 2 rfl) ?_
  refine z_callVi (As := [.int k]) (rest := []) (wr := []) ⟨hx, hb, hml, hown, hts⟩ hK hE hT hP hD hS hA (r_placeOf l G cA h0 m_status m_thrown m_above m_under a_traySort a_trayMany a_numbers a_tape m_taped m_textEnd m_faultKind m_faultAt m_bad m_badAt m_token m_at m_behind m_number m_letters m_word a_c a_words m_markMany a_there a_tried a_best a_found m_thereMany m_foundMany m_orderHow m_orderRing m_orderMany m_hasBest m_bestTop m_bestBy a_weights a_shared m_random m_truePlace m_trueWay m_seconds m_done m_feelings m_tries m_leftOver m_playDoor m_playRing m_isOpen m_isOver m_wasTried m_hasPlayed a_feltNow a_last a_kept m_hasSeconds m_hasTurned m_hasRound a_hasFeels a_isOn m_firstAct m_meanTop m_meanBy a_order m_rowMany m_newSteps g_c k hr_k hZ_g_c) lk_RX12_283 ⟨rfl, rfl⟩ ⟨Nat.le_of_ble_eq_true rfl, Nat.le_of_ble_eq_true rfl⟩ 12 rfl rfl rfl [0, 1] [] rfl rfl (by decide) rfl hl.1 rfl (lv_room (Nat.le_of_ble_eq_true rfl)) dX12_take2_8 ⟨Nat.le_of_ble_eq_true rfl, Nat.le_of_ble_eq_true rfl⟩ (fun r_4 u_5 H locs hw hP hD hS => ?_)
  obtain ⟨hr_r_4, hf_6⟩ := hw
  have hpo := zPO_r hf_6 hf_3 (by omega)
  have hzs := zC_size hZ_g_c.1 (r := r_1.toInt.toNat) (by omega)
  have hi0_r_4 : 0 ≤ r_4.toInt ∧ r_4.toInt ≤ 9 := by omega
  refine lv_istore_n (lv' := [(3, .int r_4), (2, .int r_1), (0, .ref h0), (1, .int k)]) hx hb dX12_take2_11 rfl hl (by decide) rfl (fun ls hl => ?_)
  have hlp_62 : ∀ (n : Nat) (v_41 : Int32) (g_42 : Nat → Int32) (H : Heap) (locs : List Loc) (ls : Array Slot), (2147483647 - v_41.toInt).toNat < n → (0 ≤ v_41.toInt ∧ v_41.toInt ≤ 9) → (zCt g_42) → (zShT g_c g_42 (98 + 10 * r_1.toInt) r_4.toInt v_41.toInt) → (r_4.toInt ≤ v_41.toInt) → (v_41.toInt + 1 ≤ (g_c (95 + r_1.toInt.toNat)).toInt) → va_P G vwCl [(h0, .inr (12, [.int m_status, .int m_thrown, .long m_above, .long m_under, .ref a_traySort, .ref a_trayMany, .ref a_numbers, .ref a_tape, .int m_taped, .int m_textEnd, .int m_faultKind, .int m_faultAt, .int m_bad, .int m_badAt, .int m_token, .int m_at, .int m_behind, .int m_number, .int m_letters, .long m_word, .ref a_c, .ref a_words, .int m_markMany, .ref a_there, .ref a_tried, .ref a_best, .ref a_found, .int m_thereMany, .int m_foundMany, .int m_orderHow, .int m_orderRing, .int m_orderMany, .int m_hasBest, .long m_bestTop, .long m_bestBy, .ref a_weights, .ref a_shared, .int m_random, .int m_truePlace, .int m_trueWay, .int m_seconds, .int m_done, .int m_feelings, .int m_tries, .int m_leftOver, .int m_playDoor, .int m_playRing, .int m_isOpen, .int m_isOver, .int m_wasTried, .int m_hasPlayed, .ref a_feltNow, .ref a_last, .ref a_kept, .int m_hasSeconds, .int m_hasTurned, .int m_hasRound, .ref a_hasFeels, .ref a_isOn, .int m_firstAct, .long m_meanTop, .long m_meanBy, .ref a_order, .int m_rowMany, .int m_newSteps])), (a_c, .inl (cA.1 0, 1825, .inl g_42))] H → va_D A [(h0, .inr (12, [.int m_status, .int m_thrown, .long m_above, .long m_under, .ref a_traySort, .ref a_trayMany, .ref a_numbers, .ref a_tape, .int m_taped, .int m_textEnd, .int m_faultKind, .int m_faultAt, .int m_bad, .int m_badAt, .int m_token, .int m_at, .int m_behind, .int m_number, .int m_letters, .long m_word, .ref a_c, .ref a_words, .int m_markMany, .ref a_there, .ref a_tried, .ref a_best, .ref a_found, .int m_thereMany, .int m_foundMany, .int m_orderHow, .int m_orderRing, .int m_orderMany, .int m_hasBest, .long m_bestTop, .long m_bestBy, .ref a_weights, .ref a_shared, .int m_random, .int m_truePlace, .int m_trueWay, .int m_seconds, .int m_done, .int m_feelings, .int m_tries, .int m_leftOver, .int m_playDoor, .int m_playRing, .int m_isOpen, .int m_isOver, .int m_wasTried, .int m_hasPlayed, .ref a_feltNow, .ref a_last, .ref a_kept, .int m_hasSeconds, .int m_hasTurned, .int m_hasRound, .ref a_hasFeels, .ref a_isOn, .int m_firstAct, .long m_meanTop, .long m_meanBy, .ref a_order, .int m_rowMany, .int m_newSteps])), (a_c, .inl (cA.1 0, 1825, .inl g_42))] → va_S A s.heap H locs → lv_has ls 4 [(0, .ref h0), (1, .int k), (2, .int r_1), (3, .int v_41)] → W p l e ({ frames := 2, cells := 0, slots := 0, locals := 46 }) s m args below meth c H locs 0 0 Q (F0 m 12 ls []) := by
    intro n
    induction n with
    | zero =>
      intro v_41 g_42 H locs ls hmu_hlp_62 hr_v_41 hC_g_42 hi_59 hi_60 hi_61 hP hD hS hl
      exact absurd hmu_hlp_62 (Nat.not_lt_zero _)
    | succ n ih_63 =>
      intro v_41 g_42 H locs ls hmu_hlp_62 hr_v_41 hC_g_42 hi_59 hi_60 hi_61 hP hD hS hl
      refine lv_iload_n hx hb dX12_take2_12 rfl (lv_at hl 3 rfl) ?_
      refine lv_iconst (v := 1) hx hb dX12_take2_13 (by decide) ?_
      refine lv_iadd hx hb dX12_take2_14 ?_
      refine lv_topi (fun x_64 he_x_64 => ?_)
      have hq_x_64 := z_addq he_x_64 (rfl : v_41.toInt = _) hk_1 (by omega) (by omega)
      refine lv_aload_n hx hb dX12_take2_15 rfl (lv_at hl 0 rfl) ?_
      refine va_get (D := G) (ci := 12) (v := .ref a_c) (C := RX12) (T := TX12) (N := 65) hx hb hts inT12 hown hK hP 0 rfl rfl 20 (by decide) (hts _ tw_1905) (fun _ h9 => h9) rfl dX12_take2_16 ?_
      refine lv_bipush (v := 95) hx hb dX12_take2_19 (by decide) ?_
      refine lv_iload_n hx hb dX12_take2_21 rfl (lv_at hl 2 rfl) ?_
      refine lv_iadd hx hb dX12_take2_22 ?_
      refine lv_topi (fun x_65 he_x_65 => ?_)
      have hq_x_65 := z_addq he_x_65 hk_95 (rfl : r_1.toInt = _) (by omega) (by omega)
      refine va_iald hx hb hK hP 1 0 rfl rfl (z_inN (by omega) (by omega)) dX12_take2_23 ?_
      refine lv_topi (fun x_66 he_x_66 => ?_)
      have hr_x_66 := z_ctt hC_g_42 he_x_66 (a := 95) (b := 97) (lo := 0) (hi := 10) (by decide +kernel) (by decide) (by omega) (by omega)
      have hyS_x_66 := zShT_sz hi_59 (by omega) (by omega) (by omega) he_x_66 (by omega)
      refine lv_icmp_ge (tgt := 63) hx hb dX12_take2_24 (by decide) (fun c_67 => ?_) (fun c_67 => ?_)
      · have b_68 := z_fgeT c_67
        refine lv_aload_n hx hb dX12_take2_63 rfl (lv_at hl 0 rfl) ?_
        refine va_get (D := G) (ci := 12) (v := .ref a_c) (C := RX12) (T := TX12) (N := 65) hx hb hts inT12 hown hK hP 0 rfl rfl 20 (by decide) (hts _ tw_1905) (fun _ h9 => h9) rfl dX12_take2_64 ?_
        refine lv_bipush (v := 95) hx hb dX12_take2_67 (by decide) ?_
        refine lv_iload_n hx hb dX12_take2_69 rfl (lv_at hl 2 rfl) ?_
        refine lv_iadd hx hb dX12_take2_70 ?_
        refine lv_topi (fun x_69 he_x_69 => ?_)
        have hq_x_69 := z_addq he_x_69 hk_95 (rfl : r_1.toInt = _) (by omega) (by omega)
        refine lv_dup2_11 hx hb dX12_take2_71 rfl rfl ?_
        refine va_iald hx hb hK hP 1 0 rfl rfl (z_inN (by omega) (by omega)) dX12_take2_72 ?_
        refine lv_topi (fun x_70 he_x_70 => ?_)
        have hr_x_70 := z_ctt hC_g_42 he_x_70 (a := 95) (b := 97) (lo := 0) (hi := 10) (by decide +kernel) (by decide) (by omega) (by omega)
        have hyS_x_70 := zShT_sz hi_59 (by omega) (by omega) (by omega) he_x_70 (by omega)
        have hn_k_71 : 1 ≤ x_70.toInt ∧ x_70.toInt ≤ 10 := by omega
        refine lv_iconst (v := 1) hx hb dX12_take2_73 (by decide) ?_
        refine lv_isub hx hb dX12_take2_74 ?_
        refine lv_topi (fun x_72 he_x_72 => ?_)
        have hq_x_72 := z_subq he_x_72 (rfl : x_70.toInt = _) hk_1 (by omega) (by omega)
        refine z_iast hx hb hK hP hD hS 1 0 rfl rfl (z_inN (by omega) (by omega)) dX12_take2_75 (fun g_73 hg_g_73 H locs hP hD hS => ?_)
        have hC_g_73 := z_ctUt hC_g_42 hg_g_73 (a := 95) (b := 97) (lo := 0) (hi := 10) (by decide +kernel) (by omega) (by omega) (by omega)
        have htk : zTkP g_c g_73 r_1.toInt r_4.toInt := zTkP_of hi_59 (by omega) (by omega) (by omega) (by omega) he_x_70 (by omega) hg_g_73 (by omega) (by omega)
        have hpost : (zC g_73) ∧ (zTaken g_c g_73 k.toInt) := ⟨(zTkP_zC hZ_g_c hC_g_73 htk (by omega) (by omega) (by omega) (by omega)), ⟨r_1.toInt, r_4.toInt, by omega, by omega, by omega, hf_3, by omega, hpo.2.2, htk⟩⟩
        exact hret _ _ _ _ _ g_73 [0, 1] hP hD hS rfl (by decide) dX12_take2_76 hpost
      · have b_74 := z_fltF c_67
        refine lv_aload_n hx hb dX12_take2_27 rfl (lv_at hl 0 rfl) ?_
        refine va_get (D := G) (ci := 12) (v := .ref a_c) (C := RX12) (T := TX12) (N := 65) hx hb hts inT12 hown hK hP 0 rfl rfl 20 (by decide) (hts _ tw_1905) (fun _ h9 => h9) rfl dX12_take2_28 ?_
        refine lv_bipush (v := 98) hx hb dX12_take2_31 (by decide) ?_
        refine lv_bipush (v := 10) hx hb dX12_take2_33 (by decide) ?_
        refine lv_iload_n hx hb dX12_take2_35 rfl (lv_at hl 2 rfl) ?_
        refine lv_imul hx hb dX12_take2_36 ?_
        refine lv_topi (fun x_75 he_x_75 => ?_)
        have hq_x_75 := z_mulq he_x_75 hk_10 (rfl : r_1.toInt = _) (by omega) (by omega)
        refine lv_iadd hx hb dX12_take2_37 ?_
        refine lv_topi (fun x_76 he_x_76 => ?_)
        have hq_x_76 := z_addq he_x_76 hk_98 (rfl : x_75.toInt = _) (by omega) (by omega)
        refine lv_iload_n hx hb dX12_take2_38 rfl (lv_at hl 3 rfl) ?_
        refine lv_iadd hx hb dX12_take2_39 ?_
        refine lv_topi (fun x_77 he_x_77 => ?_)
        have hq_x_77 := z_addq he_x_77 (rfl : x_76.toInt = _) (rfl : v_41.toInt = _) (by omega) (by omega)
        refine lv_aload_n hx hb dX12_take2_40 rfl (lv_at hl 0 rfl) ?_
        refine va_get (D := G) (ci := 12) (v := .ref a_c) (C := RX12) (T := TX12) (N := 65) hx hb hts inT12 hown hK hP 0 rfl rfl 20 (by decide) (hts _ tw_1905) (fun _ h9 => h9) rfl dX12_take2_41 ?_
        refine lv_bipush (v := 98) hx hb dX12_take2_44 (by decide) ?_
        refine lv_bipush (v := 10) hx hb dX12_take2_46 (by decide) ?_
        refine lv_iload_n hx hb dX12_take2_48 rfl (lv_at hl 2 rfl) ?_
        refine lv_imul hx hb dX12_take2_49 ?_
        refine lv_topi (fun x_78 he_x_78 => ?_)
        have hq_x_78 := z_mulq he_x_78 hk_10 (rfl : r_1.toInt = _) (by omega) (by omega)
        refine lv_iadd hx hb dX12_take2_50 ?_
        refine lv_topi (fun x_79 he_x_79 => ?_)
        have hq_x_79 := z_addq he_x_79 hk_98 (rfl : x_78.toInt = _) (by omega) (by omega)
        refine lv_iload_n hx hb dX12_take2_51 rfl (lv_at hl 3 rfl) ?_
        refine lv_iadd hx hb dX12_take2_52 ?_
        refine lv_topi (fun x_80 he_x_80 => ?_)
        have hq_x_80 := z_addq he_x_80 (rfl : x_79.toInt = _) (rfl : v_41.toInt = _) (by omega) (by omega)
        refine lv_iconst (v := 1) hx hb dX12_take2_53 (by decide) ?_
        refine lv_iadd hx hb dX12_take2_54 ?_
        refine lv_topi (fun x_81 he_x_81 => ?_)
        have hq_x_81 := z_addq he_x_81 (rfl : x_80.toInt = _) hk_1 (by omega) (by omega)
        refine va_iald hx hb hK hP 1 0 rfl rfl (z_inN (by omega) (by omega)) dX12_take2_55 ?_
        refine lv_topi (fun x_82 he_x_82 => ?_)
        have hr_x_82 := z_ctt hC_g_42 he_x_82 (a := 99) (b := 127) (lo := 0) (hi := 9) (by decide +kernel) (by decide) (by omega) (by omega)
        refine z_iast hx hb hK hP hD hS 1 0 rfl rfl (z_inN (by omega) (by omega)) dX12_take2_56 (fun g_83 hg_g_83 H locs hP hD hS => ?_)
        have hC_g_83 := z_ctUt hC_g_42 hg_g_83 (a := 98) (b := 126) (lo := 0) (hi := 9) (by decide +kernel) (by omega) (by omega) (by omega)
        obtain ⟨x_84, he_x_84⟩ : ∃ z : Int32, z = v_41 + 1 := ⟨_, rfl⟩
        have hq_x_84 := z_addq he_x_84 (rfl : v_41.toInt = _) hk_1 (by omega) (by omega)
        refine lv_iinc (v := x_84) (lv' := [(3, .int x_84), (0, .ref h0), (1, .int k), (2, .int r_1)]) hx hb dX12_take2_57 hl (k := 3) rfl ((z_ofi (by decide +kernel)).trans he_x_84.symm) (by decide) rfl (fun ls hl => ?_)
        refine lv_goto (tgt := 12) hx hb dX12_take2_60 (by decide) ?_
        exact ih_63 x_84 g_83 H locs ls (by omega) (by omega) hC_g_83 (by rw [show x_84.toInt = v_41.toInt + 1 by omega]; exact zShT_step hi_59 hg_g_83 he_x_82 (by omega) (by omega) (by omega) (by omega)) (by omega) (by omega) hP hD hS (lv_sub hl [1, 2, 3, 0] rfl)
  exact hlp_62 _ r_4 g_c _ _ _ (Nat.lt_succ_self _) (by omega) hC_g_c zShT_0 (by omega) (by omega) hP hD hS (lv_sub hl [2, 3, 1, 0] rfl)
set_option maxHeartbeats 4000000 in
set_option maxRecDepth 100000 in
theorem r_put (l : Launch) (G : va_G) (cA : zCA) (h0 : Nat) (m_status : Int32) (m_thrown : Int32) (m_above : Int64) (m_under : Int64) (a_traySort : Nat) (a_trayMany : Nat) (a_numbers : Nat) (a_tape : Nat) (m_taped : Int32) (m_textEnd : Int32) (m_faultKind : Int32) (m_faultAt : Int32) (m_bad : Int32) (m_badAt : Int32) (m_token : Int32) (m_at : Int32) (m_behind : Int32) (m_number : Int32) (m_letters : Int32) (m_word : Int64) (a_c : Nat) (a_words : Nat) (m_markMany : Int32) (a_there : Nat) (a_tried : Nat) (a_best : Nat) (a_found : Nat) (m_thereMany : Int32) (m_foundMany : Int32) (m_orderHow : Int32) (m_orderRing : Int32) (m_orderMany : Int32) (m_hasBest : Int32) (m_bestTop : Int64) (m_bestBy : Int64) (a_weights : Nat) (a_shared : Nat) (m_random : Int32) (m_truePlace : Int32) (m_trueWay : Int32) (m_seconds : Int32) (m_done : Int32) (m_feelings : Int32) (m_tries : Int32) (m_leftOver : Int32) (m_playDoor : Int32) (m_playRing : Int32) (m_isOpen : Int32) (m_isOver : Int32) (m_wasTried : Int32) (m_hasPlayed : Int32) (a_feltNow : Nat) (a_last : Nat) (a_kept : Nat) (m_hasSeconds : Int32) (m_hasTurned : Int32) (m_hasRound : Int32) (a_hasFeels : Nat) (a_isOn : Nat) (m_firstAct : Int32) (m_meanTop : Int64) (m_meanBy : Int64) (a_order : Nat) (m_rowMany : Int32) (m_newSteps : Int32) (g_c : Nat → Int32) (k : Int32) (r : Int32) (pp : Int32) (hC_g_c : zC g_c) : zCi l yX12_put cX12_put 4 (some .boolean) ({ frames := 2, cells := 0, slots := 0, locals := 47 }) G cA [.ref h0, .int k, .int r, .int pp] [(h0, .inr (12, [.int m_status, .int m_thrown, .long m_above, .long m_under, .ref a_traySort, .ref a_trayMany, .ref a_numbers, .ref a_tape, .int m_taped, .int m_textEnd, .int m_faultKind, .int m_faultAt, .int m_bad, .int m_badAt, .int m_token, .int m_at, .int m_behind, .int m_number, .int m_letters, .long m_word, .ref a_c, .ref a_words, .int m_markMany, .ref a_there, .ref a_tried, .ref a_best, .ref a_found, .int m_thereMany, .int m_foundMany, .int m_orderHow, .int m_orderRing, .int m_orderMany, .int m_hasBest, .long m_bestTop, .long m_bestBy, .ref a_weights, .ref a_shared, .int m_random, .int m_truePlace, .int m_trueWay, .int m_seconds, .int m_done, .int m_feelings, .int m_tries, .int m_leftOver, .int m_playDoor, .int m_playRing, .int m_isOpen, .int m_isOver, .int m_wasTried, .int m_hasPlayed, .ref a_feltNow, .ref a_last, .ref a_kept, .int m_hasSeconds, .int m_hasTurned, .int m_hasRound, .ref a_hasFeels, .ref a_isOn, .int m_firstAct, .long m_meanTop, .long m_meanBy, .ref a_order, .int m_rowMany, .int m_newSteps])), (a_c, .inl (cA.1 0, 1825, .inl g_c))] (S := Int32 × Int32 × (Nat → Int32)) (fun (r : Int32) (u : Int32 × Int32 × (Nat → Int32)) => (r = 0 ∧ (0 ≤ u.2.1.toInt ∧ u.2.1.toInt ≤ 0) ∧ (zC u.2.2)) ∨ (r = 1 ∧ (0 ≤ u.1.toInt ∧ u.1.toInt ≤ 0) ∧ (0 ≤ u.2.1.toInt ∧ u.2.1.toInt ≤ 0) ∧ (zC u.2.2))) (fun (u : Int32 × Int32 × (Nat → Int32)) => [(h0, .inr (12, [.int u.1, .int u.2.1, .long m_above, .long m_under, .ref a_traySort, .ref a_trayMany, .ref a_numbers, .ref a_tape, .int m_taped, .int m_textEnd, .int m_faultKind, .int m_faultAt, .int m_bad, .int m_badAt, .int m_token, .int m_at, .int m_behind, .int m_number, .int m_letters, .long m_word, .ref a_c, .ref a_words, .int m_markMany, .ref a_there, .ref a_tried, .ref a_best, .ref a_found, .int m_thereMany, .int m_foundMany, .int m_orderHow, .int m_orderRing, .int m_orderMany, .int m_hasBest, .long m_bestTop, .long m_bestBy, .ref a_weights, .ref a_shared, .int m_random, .int m_truePlace, .int m_trueWay, .int m_seconds, .int m_done, .int m_feelings, .int m_tries, .int m_leftOver, .int m_playDoor, .int m_playRing, .int m_isOpen, .int m_isOver, .int m_wasTried, .int m_hasPlayed, .ref a_feltNow, .ref a_last, .ref a_kept, .int m_hasSeconds, .int m_hasTurned, .int m_hasRound, .ref a_hasFeels, .ref a_isOn, .int m_firstAct, .long m_meanTop, .long m_meanBy, .ref a_order, .int m_rowMany, .int m_newSteps])), (a_c, .inl (cA.1 0, 1825, .inl u.2.2))]) 0 0 := by
  have hk_0 : (0 : Int32).toInt = 0 := by decide +kernel
  have hk_1 : (1 : Int32).toInt = 1 := by decide +kernel
  have hk_2 : (2 : Int32).toInt = 2 := by decide +kernel
  have hk_5 : (5 : Int32).toInt = 5 := by decide +kernel
  have hk_9 : (9 : Int32).toInt = 9 := by decide +kernel
  have hk_95 : (95 : Int32).toInt = 95 := by decide +kernel
  have hkl_0 : (0 : Int64).toInt = 0 := by decide +kernel
  refine z_start2z (own := RX12) (by decide) (Nat.le_of_ble_eq_true rfl) rfl ?_
  intro p e s m args below meth c A ls Q hx hb hml hts hown hK hE hT hP hD hS hA hl hret
  have hl : lv_has ls 4 [(0, .ref h0), (1, .int k), (2, .int r), (3, .int pp)] := hl
  refine lv_aload_n hx hb dX12_put_0 rfl (lv_at hl 0 rfl) ?_
  refine lv_iconst (v := 0) hx hb dX12_put_1 (by decide) ?_
  refine va_put (D := G) (ci := 12) (v := .int 0) (ty := .int) (C := RX12) (T := TX12) (N := 65) hx hb hts inT12 tyX12 tyX12_ok nmX12 hown hK hP hD hS 0 rfl rfl 1 (by decide) (hts _ tw_1886) (fun _ h9 => h9) rfl (tyX12_ok 1 (by decide)) rfl rfl (Nat.le_of_ble_eq_true rfl) dX12_put_2 (fun H locs hP hD hS => ?_)
  refine lv_aload_n hx hb dX12_put_5 rfl (lv_at hl 0 rfl) ?_
  refine lv_iconst (v := 0) hx hb dX12_put_6 (by decide) ?_
  refine va_put (D := G) (ci := 12) (v := .int 0) (ty := .int) (C := RX12) (T := TX12) (N := 65) hx hb hts inT12 tyX12 tyX12_ok nmX12 hown hK hP hD hS 0 rfl rfl 0 (by decide) (hts _ tw_1885) (fun _ h9 => h9) rfl (tyX12_ok 0 (by decide)) rfl rfl (Nat.le_of_ble_eq_true rfl) dX12_put_7 (fun H locs hP hD hS => ?_)
  refine lv_aload_n hx hb dX12_put_10 rfl (lv_at hl 0 rfl) ?_
  refine lv_iload_n hx hb dX12_put_11 rfl (lv_at hl 1 rfl) ?_
  refine lv_i2l (v := (k).toInt64) hx hb dX12_put_12 rfl ?_
  refine lv_topl (fun x_1 he_x_1 => ?_)
  have hq_x_1 := z_i2l he_x_1
  have hL_k := z_full k
  refine z_callVi (As := [.long x_1]) (rest := []) (wr := []) ⟨hx, hb, hml, hown, hts⟩ hK hE hT hP hD hS hA (r_isKey l G cA h0 0 0 m_above m_under a_traySort a_trayMany a_numbers a_tape m_taped m_textEnd m_faultKind m_faultAt m_bad m_badAt m_token m_at m_behind m_number m_letters m_word a_c a_words m_markMany a_there a_tried a_best a_found m_thereMany m_foundMany m_orderHow m_orderRing m_orderMany m_hasBest m_bestTop m_bestBy a_weights a_shared m_random m_truePlace m_trueWay m_seconds m_done m_feelings m_tries m_leftOver m_playDoor m_playRing m_isOpen m_isOver m_wasTried m_hasPlayed a_feltNow a_last a_kept m_hasSeconds m_hasTurned m_hasRound a_hasFeels a_isOn m_firstAct m_meanTop m_meanBy a_order m_rowMany m_newSteps g_c x_1 hC_g_c) lk_RX12_275 ⟨rfl, rfl⟩ ⟨Nat.le_of_ble_eq_true rfl, Nat.le_of_ble_eq_true rfl⟩ 12 rfl rfl rfl [0, 1] [] rfl rfl (by decide) rfl hl.1 rfl (lv_room (Nat.le_of_ble_eq_true rfl)) dX12_put_13 ⟨Nat.le_of_ble_eq_true rfl, Nat.le_of_ble_eq_true rfl⟩ (fun r_2 u_3 H locs hw hP hD hS => ?_)
  rcases hw with ⟨rfl, -⟩ | ⟨rfl, hf_4, hf_5⟩
  · skip
    refine lv_if_eq (tgt := 27) hx hb dX12_put_16 (by decide) (fun _ => ?_) (fun h9 => absurd (by decide +kernel) h9)
    refine lv_aload_n hx hb dX12_put_27 rfl (lv_at hl 0 rfl) ?_
    refine lv_iconst (v := 2) hx hb dX12_put_28 (by decide) ?_
    refine z_callVi (As := [.int 2]) (rest := []) (wr := [(a_c, .inl (cA.1 0, 1825, .inl g_c))]) ⟨hx, hb, hml, hown, hts⟩ hK hE hT hP hD hS hA (r_no l G cA h0 0 0 m_above m_under a_traySort a_trayMany a_numbers a_tape m_taped m_textEnd m_faultKind m_faultAt m_bad m_badAt m_token m_at m_behind m_number m_letters m_word a_c a_words m_markMany a_there a_tried a_best a_found m_thereMany m_foundMany m_orderHow m_orderRing m_orderMany m_hasBest m_bestTop m_bestBy a_weights a_shared m_random m_truePlace m_trueWay m_seconds m_done m_feelings m_tries m_leftOver m_playDoor m_playRing m_isOpen m_isOver m_wasTried m_hasPlayed a_feltNow a_last a_kept m_hasSeconds m_hasTurned m_hasRound a_hasFeels a_isOn m_firstAct m_meanTop m_meanBy a_order m_rowMany m_newSteps 2) lk_RX12_97 ⟨rfl, rfl⟩ ⟨Nat.le_of_ble_eq_true rfl, Nat.le_of_ble_eq_true rfl⟩ 12 rfl rfl rfl [0] [1] rfl rfl (by decide) rfl hl.1 rfl (lv_room (Nat.le_of_ble_eq_true rfl)) dX12_put_29 ⟨Nat.le_of_ble_eq_true rfl, Nat.le_of_ble_eq_true rfl⟩ (fun r_7 u_8 H locs hw hP hD hS => ?_)
    obtain ⟨n_6, rfl⟩ : ∃ z, z = u_8 := ⟨_, rfl⟩
    obtain ⟨he_r_7, he_n_6, hw⟩ := hw
    obtain ⟨rfl, -⟩ := hw
    have hpost : ((0 : Int32) = 0 ∧ (0 ≤ (0 : Int32).toInt ∧ (0 : Int32).toInt ≤ 0) ∧ (zC g_c)) ∨ ((0 : Int32) = 1 ∧ (0 ≤ n_6.toInt ∧ n_6.toInt ≤ 0) ∧ (0 ≤ (0 : Int32).toInt ∧ (0 : Int32).toInt ≤ 0) ∧ (zC g_c)) := (Or.inl ⟨rfl, ⟨(by decide +kernel), hC_g_c⟩⟩)
    exact hret _ _ _ _ _ _ (n_6, 0, g_c) [1, 0] hP hD hS rfl (by decide) dX12_put_32 (Or.inl rfl) hpost
  · skip
    refine lv_if_eq (tgt := 27) hx hb dX12_put_16 (by decide) (fun h9 => absurd h9 (by decide +kernel)) (fun _ => ?_)
    refine lv_aload_n hx hb dX12_put_19 rfl (lv_at hl 0 rfl) ?_
    refine lv_iload_n hx hb dX12_put_20 rfl (lv_at hl 2 rfl) ?_
    refine z_callVi (As := [.int r]) (rest := []) (wr := []) ⟨hx, hb, hml, hown, hts⟩ hK hE hT hP hD hS hA (r_isRing l G cA h0 0 0 m_above m_under a_traySort a_trayMany a_numbers a_tape m_taped m_textEnd m_faultKind m_faultAt m_bad m_badAt m_token m_at m_behind m_number m_letters m_word a_c a_words m_markMany a_there a_tried a_best a_found m_thereMany m_foundMany m_orderHow m_orderRing m_orderMany m_hasBest m_bestTop m_bestBy a_weights a_shared m_random m_truePlace m_trueWay m_seconds m_done m_feelings m_tries m_leftOver m_playDoor m_playRing m_isOpen m_isOver m_wasTried m_hasPlayed a_feltNow a_last a_kept m_hasSeconds m_hasTurned m_hasRound a_hasFeels a_isOn m_firstAct m_meanTop m_meanBy a_order m_rowMany m_newSteps g_c r hC_g_c) lk_RX12_289 ⟨rfl, rfl⟩ ⟨Nat.le_of_ble_eq_true rfl, Nat.le_of_ble_eq_true rfl⟩ 12 rfl rfl rfl [0, 1] [] rfl rfl (by decide) rfl hl.1 rfl (lv_room (Nat.le_of_ble_eq_true rfl)) dX12_put_21 ⟨Nat.le_of_ble_eq_true rfl, Nat.le_of_ble_eq_true rfl⟩ (fun r_9 u_10 H locs hw hP hD hS => ?_)
    rcases hw with ⟨rfl, -⟩ | ⟨rfl, hf_11, hf_12⟩
    · skip
      refine lv_if_ne (tgt := 33) hx hb dX12_put_24 (by decide) (fun h9 => absurd (by decide +kernel) h9) (fun _ => ?_)
      refine lv_aload_n hx hb dX12_put_27 rfl (lv_at hl 0 rfl) ?_
      refine lv_iconst (v := 2) hx hb dX12_put_28 (by decide) ?_
      refine z_callVi (As := [.int 2]) (rest := []) (wr := [(a_c, .inl (cA.1 0, 1825, .inl g_c))]) ⟨hx, hb, hml, hown, hts⟩ hK hE hT hP hD hS hA (r_no l G cA h0 0 0 m_above m_under a_traySort a_trayMany a_numbers a_tape m_taped m_textEnd m_faultKind m_faultAt m_bad m_badAt m_token m_at m_behind m_number m_letters m_word a_c a_words m_markMany a_there a_tried a_best a_found m_thereMany m_foundMany m_orderHow m_orderRing m_orderMany m_hasBest m_bestTop m_bestBy a_weights a_shared m_random m_truePlace m_trueWay m_seconds m_done m_feelings m_tries m_leftOver m_playDoor m_playRing m_isOpen m_isOver m_wasTried m_hasPlayed a_feltNow a_last a_kept m_hasSeconds m_hasTurned m_hasRound a_hasFeels a_isOn m_firstAct m_meanTop m_meanBy a_order m_rowMany m_newSteps 2) lk_RX12_97 ⟨rfl, rfl⟩ ⟨Nat.le_of_ble_eq_true rfl, Nat.le_of_ble_eq_true rfl⟩ 12 rfl rfl rfl [0] [1] rfl rfl (by decide) rfl hl.1 rfl (lv_room (Nat.le_of_ble_eq_true rfl)) dX12_put_29 ⟨Nat.le_of_ble_eq_true rfl, Nat.le_of_ble_eq_true rfl⟩ (fun r_14 u_15 H locs hw hP hD hS => ?_)
      obtain ⟨n_13, rfl⟩ : ∃ z, z = u_15 := ⟨_, rfl⟩
      obtain ⟨he_r_14, he_n_13, hw⟩ := hw
      obtain ⟨rfl, -⟩ := hw
      have hpost : ((0 : Int32) = 0 ∧ (0 ≤ (0 : Int32).toInt ∧ (0 : Int32).toInt ≤ 0) ∧ (zC g_c)) ∨ ((0 : Int32) = 1 ∧ (0 ≤ n_13.toInt ∧ n_13.toInt ≤ 0) ∧ (0 ≤ (0 : Int32).toInt ∧ (0 : Int32).toInt ≤ 0) ∧ (zC g_c)) := (Or.inl ⟨rfl, ⟨(by decide +kernel), hC_g_c⟩⟩)
      exact hret _ _ _ _ _ _ (n_13, 0, g_c) [1, 0] hP hD hS rfl (by decide) dX12_put_32 (Or.inl rfl) hpost
    · skip
      refine lv_if_ne (tgt := 33) hx hb dX12_put_24 (by decide) (fun _ => ?_) (fun h9 => absurd h9 (by decide +kernel))
      refine lv_iload_n hx hb dX12_put_33 rfl (lv_at hl 3 rfl) ?_
      refine lv_i2l (v := (pp).toInt64) hx hb dX12_put_34 rfl ?_
      refine lv_topl (fun x_16 he_x_16 => ?_)
      have hq_x_16 := z_i2l he_x_16
      have hL_pp := z_full pp
      refine lv_lconst (v := 0) hx hb dX12_put_35 (by decide) ?_
      refine lv_aload_n hx hb dX12_put_36 rfl (lv_at hl 0 rfl) ?_
      refine va_get (D := G) (ci := 12) (v := .ref a_c) (C := RX12) (T := TX12) (N := 65) hx hb hts inT12 hown hK hP 0 rfl rfl 20 (by decide) (hts _ tw_1905) (fun _ h9 => h9) rfl dX12_put_37 ?_
      refine lv_bipush (v := 95) hx hb dX12_put_40 (by decide) ?_
      refine lv_iload_n hx hb dX12_put_42 rfl (lv_at hl 2 rfl) ?_
      refine lv_iadd hx hb dX12_put_43 ?_
      refine lv_topi (fun x_17 he_x_17 => ?_)
      have hq_x_17 := z_addq he_x_17 hk_95 (rfl : r.toInt = _) (by omega) (by omega)
      refine va_iald hx hb hK hP 1 0 rfl rfl (z_inN (by omega) (by omega)) dX12_put_44 ?_
      refine lv_topi (fun x_18 he_x_18 => ?_)
      have hr_x_18 := z_ct hC_g_c he_x_18 (a := 95) (b := 97) (lo := 0) (hi := 10) (by decide +kernel) (by decide) (by omega) (by omega)
      have hsz_x_18 := z_sz (r := r.toInt) he_x_18 (by omega) (by omega)
      refine lv_i2l (v := (x_18).toInt64) hx hb dX12_put_45 rfl ?_
      refine lv_topl (fun x_19 he_x_19 => ?_)
      have hq_x_19 := z_i2l he_x_19
      refine z_callSi (As := [.long x_16, .long 0, .long x_19]) (rest := []) (wr := [(h0, .inr (12, [.int 0, .int 0, .long m_above, .long m_under, .ref a_traySort, .ref a_trayMany, .ref a_numbers, .ref a_tape, .int m_taped, .int m_textEnd, .int m_faultKind, .int m_faultAt, .int m_bad, .int m_badAt, .int m_token, .int m_at, .int m_behind, .int m_number, .int m_letters, .long m_word, .ref a_c, .ref a_words, .int m_markMany, .ref a_there, .ref a_tried, .ref a_best, .ref a_found, .int m_thereMany, .int m_foundMany, .int m_orderHow, .int m_orderRing, .int m_orderMany, .int m_hasBest, .long m_bestTop, .long m_bestBy, .ref a_weights, .ref a_shared, .int m_random, .int m_truePlace, .int m_trueWay, .int m_seconds, .int m_done, .int m_feelings, .int m_tries, .int m_leftOver, .int m_playDoor, .int m_playRing, .int m_isOpen, .int m_isOver, .int m_wasTried, .int m_hasPlayed, .ref a_feltNow, .ref a_last, .ref a_kept, .int m_hasSeconds, .int m_hasTurned, .int m_hasRound, .ref a_hasFeels, .ref a_isOn, .int m_firstAct, .long m_meanTop, .long m_meanBy, .ref a_order, .int m_rowMany, .int m_newSteps])), (a_c, .inl (cA.1 0, 1825, .inl g_c))]) ⟨hx, hb, hml, hown, hts⟩ hK hE hT hP hD hS hA (r_isIn l G cA x_16 0 x_19) lk_RX12_117 ⟨rfl, rfl⟩ ⟨Nat.le_of_ble_eq_true rfl, Nat.le_of_ble_eq_true rfl⟩ [] [0, 1] rfl rfl (by decide) rfl hl.1 rfl (lv_room (Nat.le_of_ble_eq_true rfl)) dX12_put_46 ⟨Nat.le_of_ble_eq_true rfl, Nat.le_of_ble_eq_true rfl⟩ (fun r_20 u_21 H locs hw hP hD hS => ?_)
      rcases hw with ⟨rfl, hf_22⟩ | ⟨rfl, hf_23⟩
      · skip
        refine lv_if_ne (tgt := 58) hx hb dX12_put_49 (by decide) (fun h9 => absurd (by decide +kernel) h9) (fun _ => ?_)
        refine lv_aload_n hx hb dX12_put_52 rfl (lv_at hl 0 rfl) ?_
        refine lv_iconst (v := 5) hx hb dX12_put_53 (by decide) ?_
        refine z_callVi (As := [.int 5]) (rest := []) (wr := [(a_c, .inl (cA.1 0, 1825, .inl g_c))]) ⟨hx, hb, hml, hown, hts⟩ hK hE hT hP hD hS hA (r_no l G cA h0 0 0 m_above m_under a_traySort a_trayMany a_numbers a_tape m_taped m_textEnd m_faultKind m_faultAt m_bad m_badAt m_token m_at m_behind m_number m_letters m_word a_c a_words m_markMany a_there a_tried a_best a_found m_thereMany m_foundMany m_orderHow m_orderRing m_orderMany m_hasBest m_bestTop m_bestBy a_weights a_shared m_random m_truePlace m_trueWay m_seconds m_done m_feelings m_tries m_leftOver m_playDoor m_playRing m_isOpen m_isOver m_wasTried m_hasPlayed a_feltNow a_last a_kept m_hasSeconds m_hasTurned m_hasRound a_hasFeels a_isOn m_firstAct m_meanTop m_meanBy a_order m_rowMany m_newSteps 5) lk_RX12_97 ⟨rfl, rfl⟩ ⟨Nat.le_of_ble_eq_true rfl, Nat.le_of_ble_eq_true rfl⟩ 12 rfl rfl rfl [0] [1] rfl rfl (by decide) rfl hl.1 rfl (lv_room (Nat.le_of_ble_eq_true rfl)) dX12_put_54 ⟨Nat.le_of_ble_eq_true rfl, Nat.le_of_ble_eq_true rfl⟩ (fun r_25 u_26 H locs hw hP hD hS => ?_)
        obtain ⟨n_24, rfl⟩ : ∃ z, z = u_26 := ⟨_, rfl⟩
        obtain ⟨he_r_25, he_n_24, hw⟩ := hw
        obtain ⟨rfl, -⟩ := hw
        have hpost : ((0 : Int32) = 0 ∧ (0 ≤ (0 : Int32).toInt ∧ (0 : Int32).toInt ≤ 0) ∧ (zC g_c)) ∨ ((0 : Int32) = 1 ∧ (0 ≤ n_24.toInt ∧ n_24.toInt ≤ 0) ∧ (0 ≤ (0 : Int32).toInt ∧ (0 : Int32).toInt ≤ 0) ∧ (zC g_c)) := (Or.inl ⟨rfl, ⟨(by decide +kernel), hC_g_c⟩⟩)
        exact hret _ _ _ _ _ _ (n_24, 0, g_c) [1, 0] hP hD hS rfl (by decide) dX12_put_57 (Or.inl rfl) hpost
      · skip
        refine lv_if_ne (tgt := 58) hx hb dX12_put_49 (by decide) (fun _ => ?_) (fun h9 => absurd h9 (by decide +kernel))
        refine lv_aload_n hx hb dX12_put_58 rfl (lv_at hl 0 rfl) ?_
        refine lv_iload_n hx hb dX12_put_59 rfl (lv_at hl 1 rfl) ?_
        refine z_callVi (As := [.int k]) (rest := []) (wr := []) ⟨hx, hb, hml, hown, hts⟩ hK hE hT hP hD hS hA (r_ringOf l G cA h0 0 0 m_above m_under a_traySort a_trayMany a_numbers a_tape m_taped m_textEnd m_faultKind m_faultAt m_bad m_badAt m_token m_at m_behind m_number m_letters m_word a_c a_words m_markMany a_there a_tried a_best a_found m_thereMany m_foundMany m_orderHow m_orderRing m_orderMany m_hasBest m_bestTop m_bestBy a_weights a_shared m_random m_truePlace m_trueWay m_seconds m_done m_feelings m_tries m_leftOver m_playDoor m_playRing m_isOpen m_isOver m_wasTried m_hasPlayed a_feltNow a_last a_kept m_hasSeconds m_hasTurned m_hasRound a_hasFeels a_isOn m_firstAct m_meanTop m_meanBy a_order m_rowMany m_newSteps g_c k (by omega) hC_g_c) lk_RX12_278 ⟨rfl, rfl⟩ ⟨Nat.le_of_ble_eq_true rfl, Nat.le_of_ble_eq_true rfl⟩ 12 rfl rfl rfl [0, 1] [] rfl rfl (by decide) rfl hl.1 rfl (lv_room (Nat.le_of_ble_eq_true rfl)) dX12_put_60 ⟨Nat.le_of_ble_eq_true rfl, Nat.le_of_ble_eq_true rfl⟩ (fun r_27 u_28 H locs hw hP hD hS => ?_)
        obtain ⟨hr_r_27, hf_29⟩ := hw
        refine lv_if_lt (tgt := 73) hx hb dX12_put_63 (by decide) (fun c_30 => ?_) (fun c_30 => ?_)
        · have b_31 := z_fltT c_30
          refine lv_aload_n hx hb dX12_put_73 rfl (lv_at hl 0 rfl) ?_
          have hn_k_32 : 0 ≤ pp.toInt ∧ pp.toInt ≤ 10 := by omega
          refine lv_iload_n hx hb dX12_put_74 rfl (lv_at hl 1 rfl) ?_
          refine lv_iload_n hx hb dX12_put_75 rfl (lv_at hl 2 rfl) ?_
          refine lv_iload_n hx hb dX12_put_76 rfl (lv_at hl 3 rfl) ?_
          refine z_callVv (As := [.int k, .int r, .int pp]) (rest := []) (wr := []) ⟨hx, hb, hml, hown, hts⟩ hK hE hT hP hD hS hA (r_insert l G cA h0 0 0 m_above m_under a_traySort a_trayMany a_numbers a_tape m_taped m_textEnd m_faultKind m_faultAt m_bad m_badAt m_token m_at m_behind m_number m_letters m_word a_c a_words m_markMany a_there a_tried a_best a_found m_thereMany m_foundMany m_orderHow m_orderRing m_orderMany m_hasBest m_bestTop m_bestBy a_weights a_shared m_random m_truePlace m_trueWay m_seconds m_done m_feelings m_tries m_leftOver m_playDoor m_playRing m_isOpen m_isOver m_wasTried m_hasPlayed a_feltNow a_last a_kept m_hasSeconds m_hasTurned m_hasRound a_hasFeels a_isOn m_firstAct m_meanTop m_meanBy a_order m_rowMany m_newSteps g_c k r pp (by omega) (by omega) (by omega) hC_g_c (by omega) (by omega) (by omega) (zRO_neg hf_29 (by omega))) lk_RX12_308 ⟨rfl, rfl⟩ ⟨Nat.le_of_ble_eq_true rfl, Nat.le_of_ble_eq_true rfl⟩ 12 rfl rfl rfl [0, 1] [] rfl rfl (by decide) rfl hl.1 rfl (lv_room (Nat.le_of_ble_eq_true rfl)) dX12_put_77 ⟨Nat.le_of_ble_eq_true rfl, Nat.le_of_ble_eq_true rfl⟩ (fun u_35 H locs hw hP hD hS => ?_)
          obtain ⟨n_33, rfl⟩ : ∃ z, z = u_35 := ⟨_, rfl⟩
          obtain ⟨hC_n_33, hf_36⟩ := hw
          refine lv_aload_n hx hb dX12_put_80 rfl (lv_at hl 0 rfl) ?_
          refine lv_iload_n hx hb dX12_put_81 rfl (lv_at hl 2 rfl) ?_
          refine z_callVv (As := [.int r]) (rest := []) (wr := []) ⟨hx, hb, hml, hown, hts⟩ hK hE hT hP hD hS hA (r_letGo l G cA h0 0 0 m_above m_under a_traySort a_trayMany a_numbers a_tape m_taped m_textEnd m_faultKind m_faultAt m_bad m_badAt m_token m_at m_behind m_number m_letters m_word a_c a_words m_markMany a_there a_tried a_best a_found m_thereMany m_foundMany m_orderHow m_orderRing m_orderMany m_hasBest m_bestTop m_bestBy a_weights a_shared m_random m_truePlace m_trueWay m_seconds m_done m_feelings m_tries m_leftOver m_playDoor m_playRing m_isOpen m_isOver m_wasTried m_hasPlayed a_feltNow a_last a_kept m_hasSeconds m_hasTurned m_hasRound a_hasFeels a_isOn m_firstAct m_meanTop m_meanBy a_order m_rowMany m_newSteps n_33 r hC_n_33) lk_RX12_305 ⟨rfl, rfl⟩ ⟨Nat.le_of_ble_eq_true rfl, Nat.le_of_ble_eq_true rfl⟩ 12 rfl rfl rfl [0, 1] [] rfl rfl (by decide) rfl hl.1 rfl (lv_room (Nat.le_of_ble_eq_true rfl)) dX12_put_82 ⟨Nat.le_of_ble_eq_true rfl, Nat.le_of_ble_eq_true rfl⟩ (fun u_39 H locs hw hP hD hS => ?_)
          obtain ⟨n_37, rfl⟩ : ∃ z, z = u_39 := ⟨_, rfl⟩
          obtain ⟨hC_n_37, hf_40⟩ := hw
          refine lv_iconst (v := 1) hx hb dX12_put_85 (by decide) ?_
          have hpost : ((1 : Int32) = 0 ∧ (0 ≤ (0 : Int32).toInt ∧ (0 : Int32).toInt ≤ 0) ∧ (zC n_37)) ∨ ((1 : Int32) = 1 ∧ (0 ≤ (0 : Int32).toInt ∧ (0 : Int32).toInt ≤ 0) ∧ (0 ≤ (0 : Int32).toInt ∧ (0 : Int32).toInt ≤ 0) ∧ (zC n_37)) := (Or.inr ⟨rfl, ⟨(by decide +kernel), (by decide +kernel), hC_n_37⟩⟩)
          exact hret _ _ _ _ _ _ (0, 0, n_37) [0, 1] hP hD hS rfl (by decide) dX12_put_86 (Or.inr rfl) hpost
        · have b_41 := z_fgeF c_30
          refine lv_aload_n hx hb dX12_put_66 rfl (lv_at hl 0 rfl) ?_
          refine lv_bipush (v := 9) hx hb dX12_put_67 (by decide) ?_
          refine z_callVi (As := [.int 9]) (rest := []) (wr := [(a_c, .inl (cA.1 0, 1825, .inl g_c))]) ⟨hx, hb, hml, hown, hts⟩ hK hE hT hP hD hS hA (r_no l G cA h0 0 0 m_above m_under a_traySort a_trayMany a_numbers a_tape m_taped m_textEnd m_faultKind m_faultAt m_bad m_badAt m_token m_at m_behind m_number m_letters m_word a_c a_words m_markMany a_there a_tried a_best a_found m_thereMany m_foundMany m_orderHow m_orderRing m_orderMany m_hasBest m_bestTop m_bestBy a_weights a_shared m_random m_truePlace m_trueWay m_seconds m_done m_feelings m_tries m_leftOver m_playDoor m_playRing m_isOpen m_isOver m_wasTried m_hasPlayed a_feltNow a_last a_kept m_hasSeconds m_hasTurned m_hasRound a_hasFeels a_isOn m_firstAct m_meanTop m_meanBy a_order m_rowMany m_newSteps 9) lk_RX12_97 ⟨rfl, rfl⟩ ⟨Nat.le_of_ble_eq_true rfl, Nat.le_of_ble_eq_true rfl⟩ 12 rfl rfl rfl [0] [1] rfl rfl (by decide) rfl hl.1 rfl (lv_room (Nat.le_of_ble_eq_true rfl)) dX12_put_69 ⟨Nat.le_of_ble_eq_true rfl, Nat.le_of_ble_eq_true rfl⟩ (fun r_43 u_44 H locs hw hP hD hS => ?_)
          obtain ⟨n_42, rfl⟩ : ∃ z, z = u_44 := ⟨_, rfl⟩
          obtain ⟨he_r_43, he_n_42, hw⟩ := hw
          obtain ⟨rfl, -⟩ := hw
          have hpost : ((0 : Int32) = 0 ∧ (0 ≤ (0 : Int32).toInt ∧ (0 : Int32).toInt ≤ 0) ∧ (zC g_c)) ∨ ((0 : Int32) = 1 ∧ (0 ≤ n_42.toInt ∧ n_42.toInt ≤ 0) ∧ (0 ≤ (0 : Int32).toInt ∧ (0 : Int32).toInt ≤ 0) ∧ (zC g_c)) := (Or.inl ⟨rfl, ⟨(by decide +kernel), hC_g_c⟩⟩)
          exact hret _ _ _ _ _ _ (n_42, 0, g_c) [1, 0] hP hD hS rfl (by decide) dX12_put_72 (Or.inl rfl) hpost
set_option maxHeartbeats 4000000 in
set_option maxRecDepth 100000 in
theorem r_off (l : Launch) (G : va_G) (cA : zCA) (h0 : Nat) (m_status : Int32) (m_thrown : Int32) (m_above : Int64) (m_under : Int64) (a_traySort : Nat) (a_trayMany : Nat) (a_numbers : Nat) (a_tape : Nat) (m_taped : Int32) (m_textEnd : Int32) (m_faultKind : Int32) (m_faultAt : Int32) (m_bad : Int32) (m_badAt : Int32) (m_token : Int32) (m_at : Int32) (m_behind : Int32) (m_number : Int32) (m_letters : Int32) (m_word : Int64) (a_c : Nat) (a_words : Nat) (m_markMany : Int32) (a_there : Nat) (a_tried : Nat) (a_best : Nat) (a_found : Nat) (m_thereMany : Int32) (m_foundMany : Int32) (m_orderHow : Int32) (m_orderRing : Int32) (m_orderMany : Int32) (m_hasBest : Int32) (m_bestTop : Int64) (m_bestBy : Int64) (a_weights : Nat) (a_shared : Nat) (m_random : Int32) (m_truePlace : Int32) (m_trueWay : Int32) (m_seconds : Int32) (m_done : Int32) (m_feelings : Int32) (m_tries : Int32) (m_leftOver : Int32) (m_playDoor : Int32) (m_playRing : Int32) (m_isOpen : Int32) (m_isOver : Int32) (m_wasTried : Int32) (m_hasPlayed : Int32) (a_feltNow : Nat) (a_last : Nat) (a_kept : Nat) (m_hasSeconds : Int32) (m_hasTurned : Int32) (m_hasRound : Int32) (a_hasFeels : Nat) (a_isOn : Nat) (m_firstAct : Int32) (m_meanTop : Int64) (m_meanBy : Int64) (a_order : Nat) (m_rowMany : Int32) (m_newSteps : Int32) (g_c : Nat → Int32) (k : Int32) (hC_g_c : zC g_c) : zCi l yX12_off cX12_off 2 (some .boolean) ({ frames := 3, cells := 0, slots := 0, locals := 69 }) G cA [.ref h0, .int k] [(h0, .inr (12, [.int m_status, .int m_thrown, .long m_above, .long m_under, .ref a_traySort, .ref a_trayMany, .ref a_numbers, .ref a_tape, .int m_taped, .int m_textEnd, .int m_faultKind, .int m_faultAt, .int m_bad, .int m_badAt, .int m_token, .int m_at, .int m_behind, .int m_number, .int m_letters, .long m_word, .ref a_c, .ref a_words, .int m_markMany, .ref a_there, .ref a_tried, .ref a_best, .ref a_found, .int m_thereMany, .int m_foundMany, .int m_orderHow, .int m_orderRing, .int m_orderMany, .int m_hasBest, .long m_bestTop, .long m_bestBy, .ref a_weights, .ref a_shared, .int m_random, .int m_truePlace, .int m_trueWay, .int m_seconds, .int m_done, .int m_feelings, .int m_tries, .int m_leftOver, .int m_playDoor, .int m_playRing, .int m_isOpen, .int m_isOver, .int m_wasTried, .int m_hasPlayed, .ref a_feltNow, .ref a_last, .ref a_kept, .int m_hasSeconds, .int m_hasTurned, .int m_hasRound, .ref a_hasFeels, .ref a_isOn, .int m_firstAct, .long m_meanTop, .long m_meanBy, .ref a_order, .int m_rowMany, .int m_newSteps])), (a_c, .inl (cA.1 0, 1825, .inl g_c))] (S := Int32 × Int32 × (Nat → Int32)) (fun (r : Int32) (u : Int32 × Int32 × (Nat → Int32)) => (r = 0 ∧ (0 ≤ u.2.1.toInt ∧ u.2.1.toInt ≤ 0) ∧ (zC u.2.2)) ∨ (r = 1 ∧ (0 ≤ u.1.toInt ∧ u.1.toInt ≤ 0) ∧ (0 ≤ u.2.1.toInt ∧ u.2.1.toInt ≤ 0) ∧ (zC u.2.2))) (fun (u : Int32 × Int32 × (Nat → Int32)) => [(h0, .inr (12, [.int u.1, .int u.2.1, .long m_above, .long m_under, .ref a_traySort, .ref a_trayMany, .ref a_numbers, .ref a_tape, .int m_taped, .int m_textEnd, .int m_faultKind, .int m_faultAt, .int m_bad, .int m_badAt, .int m_token, .int m_at, .int m_behind, .int m_number, .int m_letters, .long m_word, .ref a_c, .ref a_words, .int m_markMany, .ref a_there, .ref a_tried, .ref a_best, .ref a_found, .int m_thereMany, .int m_foundMany, .int m_orderHow, .int m_orderRing, .int m_orderMany, .int m_hasBest, .long m_bestTop, .long m_bestBy, .ref a_weights, .ref a_shared, .int m_random, .int m_truePlace, .int m_trueWay, .int m_seconds, .int m_done, .int m_feelings, .int m_tries, .int m_leftOver, .int m_playDoor, .int m_playRing, .int m_isOpen, .int m_isOver, .int m_wasTried, .int m_hasPlayed, .ref a_feltNow, .ref a_last, .ref a_kept, .int m_hasSeconds, .int m_hasTurned, .int m_hasRound, .ref a_hasFeels, .ref a_isOn, .int m_firstAct, .long m_meanTop, .long m_meanBy, .ref a_order, .int m_rowMany, .int m_newSteps])), (a_c, .inl (cA.1 0, 1825, .inl u.2.2))]) 0 0 := by
  have hk_0 : (0 : Int32).toInt = 0 := by decide +kernel
  have hk_2 : (2 : Int32).toInt = 2 := by decide +kernel
  have hk_8 : (8 : Int32).toInt = 8 := by decide +kernel
  refine z_start2z (own := RX12) (by decide) (Nat.le_of_ble_eq_true rfl) rfl ?_
  intro p e s m args below meth c A ls Q hx hb hml hts hown hK hE hT hP hD hS hA hl hret
  have hl : lv_has ls 2 [(0, .ref h0), (1, .int k)] := hl
  refine lv_aload_n hx hb dX12_off_0 rfl (lv_at hl 0 rfl) ?_
  refine lv_iconst (v := 0) hx hb dX12_off_1 (by decide) ?_
  refine va_put (D := G) (ci := 12) (v := .int 0) (ty := .int) (C := RX12) (T := TX12) (N := 65) hx hb hts inT12 tyX12 tyX12_ok nmX12 hown hK hP hD hS 0 rfl rfl 1 (by decide) (hts _ tw_1886) (fun _ h9 => h9) rfl (tyX12_ok 1 (by decide)) rfl rfl (Nat.le_of_ble_eq_true rfl) dX12_off_2 (fun H locs hP hD hS => ?_)
  refine lv_aload_n hx hb dX12_off_5 rfl (lv_at hl 0 rfl) ?_
  refine lv_iconst (v := 0) hx hb dX12_off_6 (by decide) ?_
  refine va_put (D := G) (ci := 12) (v := .int 0) (ty := .int) (C := RX12) (T := TX12) (N := 65) hx hb hts inT12 tyX12 tyX12_ok nmX12 hown hK hP hD hS 0 rfl rfl 0 (by decide) (hts _ tw_1885) (fun _ h9 => h9) rfl (tyX12_ok 0 (by decide)) rfl rfl (Nat.le_of_ble_eq_true rfl) dX12_off_7 (fun H locs hP hD hS => ?_)
  refine lv_aload_n hx hb dX12_off_10 rfl (lv_at hl 0 rfl) ?_
  refine lv_iload_n hx hb dX12_off_11 rfl (lv_at hl 1 rfl) ?_
  refine lv_i2l (v := (k).toInt64) hx hb dX12_off_12 rfl ?_
  refine lv_topl (fun x_1 he_x_1 => ?_)
  have hq_x_1 := z_i2l he_x_1
  have hL_k := z_full k
  refine z_callVi (As := [.long x_1]) (rest := []) (wr := []) ⟨hx, hb, hml, hown, hts⟩ hK hE hT hP hD hS hA (r_isKey l G cA h0 0 0 m_above m_under a_traySort a_trayMany a_numbers a_tape m_taped m_textEnd m_faultKind m_faultAt m_bad m_badAt m_token m_at m_behind m_number m_letters m_word a_c a_words m_markMany a_there a_tried a_best a_found m_thereMany m_foundMany m_orderHow m_orderRing m_orderMany m_hasBest m_bestTop m_bestBy a_weights a_shared m_random m_truePlace m_trueWay m_seconds m_done m_feelings m_tries m_leftOver m_playDoor m_playRing m_isOpen m_isOver m_wasTried m_hasPlayed a_feltNow a_last a_kept m_hasSeconds m_hasTurned m_hasRound a_hasFeels a_isOn m_firstAct m_meanTop m_meanBy a_order m_rowMany m_newSteps g_c x_1 hC_g_c) lk_RX12_275 ⟨rfl, rfl⟩ ⟨Nat.le_of_ble_eq_true rfl, Nat.le_of_ble_eq_true rfl⟩ 12 rfl rfl rfl [0, 1] [] rfl rfl (by decide) rfl hl.1 rfl (lv_room (Nat.le_of_ble_eq_true rfl)) dX12_off_13 ⟨Nat.le_of_ble_eq_true rfl, Nat.le_of_ble_eq_true rfl⟩ (fun r_2 u_3 H locs hw hP hD hS => ?_)
  rcases hw with ⟨rfl, -⟩ | ⟨rfl, hf_4, hf_5⟩
  · skip
    refine lv_if_ne (tgt := 25) hx hb dX12_off_16 (by decide) (fun h9 => absurd (by decide +kernel) h9) (fun _ => ?_)
    refine lv_aload_n hx hb dX12_off_19 rfl (lv_at hl 0 rfl) ?_
    refine lv_iconst (v := 2) hx hb dX12_off_20 (by decide) ?_
    refine z_callVi (As := [.int 2]) (rest := []) (wr := [(a_c, .inl (cA.1 0, 1825, .inl g_c))]) ⟨hx, hb, hml, hown, hts⟩ hK hE hT hP hD hS hA (r_no l G cA h0 0 0 m_above m_under a_traySort a_trayMany a_numbers a_tape m_taped m_textEnd m_faultKind m_faultAt m_bad m_badAt m_token m_at m_behind m_number m_letters m_word a_c a_words m_markMany a_there a_tried a_best a_found m_thereMany m_foundMany m_orderHow m_orderRing m_orderMany m_hasBest m_bestTop m_bestBy a_weights a_shared m_random m_truePlace m_trueWay m_seconds m_done m_feelings m_tries m_leftOver m_playDoor m_playRing m_isOpen m_isOver m_wasTried m_hasPlayed a_feltNow a_last a_kept m_hasSeconds m_hasTurned m_hasRound a_hasFeels a_isOn m_firstAct m_meanTop m_meanBy a_order m_rowMany m_newSteps 2) lk_RX12_97 ⟨rfl, rfl⟩ ⟨Nat.le_of_ble_eq_true rfl, Nat.le_of_ble_eq_true rfl⟩ 12 rfl rfl rfl [0] [1] rfl rfl (by decide) rfl hl.1 rfl (lv_room (Nat.le_of_ble_eq_true rfl)) dX12_off_21 ⟨Nat.le_of_ble_eq_true rfl, Nat.le_of_ble_eq_true rfl⟩ (fun r_7 u_8 H locs hw hP hD hS => ?_)
    obtain ⟨n_6, rfl⟩ : ∃ z, z = u_8 := ⟨_, rfl⟩
    obtain ⟨he_r_7, he_n_6, hw⟩ := hw
    obtain ⟨rfl, -⟩ := hw
    have hpost : ((0 : Int32) = 0 ∧ (0 ≤ (0 : Int32).toInt ∧ (0 : Int32).toInt ≤ 0) ∧ (zC g_c)) ∨ ((0 : Int32) = 1 ∧ (0 ≤ n_6.toInt ∧ n_6.toInt ≤ 0) ∧ (0 ≤ (0 : Int32).toInt ∧ (0 : Int32).toInt ≤ 0) ∧ (zC g_c)) := (Or.inl ⟨rfl, ⟨(by decide +kernel), hC_g_c⟩⟩)
    exact hret _ _ _ _ _ _ (n_6, 0, g_c) [1, 0] hP hD hS rfl (by decide) dX12_off_24 (Or.inl rfl) hpost
  · skip
    refine lv_if_ne (tgt := 25) hx hb dX12_off_16 (by decide) (fun _ => ?_) (fun h9 => absurd h9 (by decide +kernel))
    refine lv_aload_n hx hb dX12_off_25 rfl (lv_at hl 0 rfl) ?_
    refine lv_iload_n hx hb dX12_off_26 rfl (lv_at hl 1 rfl) ?_
    refine z_callVi (As := [.int k]) (rest := []) (wr := []) ⟨hx, hb, hml, hown, hts⟩ hK hE hT hP hD hS hA (r_ringOf l G cA h0 0 0 m_above m_under a_traySort a_trayMany a_numbers a_tape m_taped m_textEnd m_faultKind m_faultAt m_bad m_badAt m_token m_at m_behind m_number m_letters m_word a_c a_words m_markMany a_there a_tried a_best a_found m_thereMany m_foundMany m_orderHow m_orderRing m_orderMany m_hasBest m_bestTop m_bestBy a_weights a_shared m_random m_truePlace m_trueWay m_seconds m_done m_feelings m_tries m_leftOver m_playDoor m_playRing m_isOpen m_isOver m_wasTried m_hasPlayed a_feltNow a_last a_kept m_hasSeconds m_hasTurned m_hasRound a_hasFeels a_isOn m_firstAct m_meanTop m_meanBy a_order m_rowMany m_newSteps g_c k (by omega) hC_g_c) lk_RX12_278 ⟨rfl, rfl⟩ ⟨Nat.le_of_ble_eq_true rfl, Nat.le_of_ble_eq_true rfl⟩ 12 rfl rfl rfl [0, 1] [] rfl rfl (by decide) rfl hl.1 rfl (lv_room (Nat.le_of_ble_eq_true rfl)) dX12_off_27 ⟨Nat.le_of_ble_eq_true rfl, Nat.le_of_ble_eq_true rfl⟩ (fun r_9 u_10 H locs hw hP hD hS => ?_)
    obtain ⟨hr_r_9, hf_11⟩ := hw
    refine lv_if_ge (tgt := 40) hx hb dX12_off_30 (by decide) (fun c_12 => ?_) (fun c_12 => ?_)
    · have b_13 := z_fgeT c_12
      refine lv_aload_n hx hb dX12_off_40 rfl (lv_at hl 0 rfl) ?_
      refine lv_aload_n hx hb dX12_off_41 rfl (lv_at hl 0 rfl) ?_
      refine lv_iload_n hx hb dX12_off_42 rfl (lv_at hl 1 rfl) ?_
      refine z_callVi (As := [.int k]) (rest := [.ref h0]) (wr := []) ⟨hx, hb, hml, hown, hts⟩ hK hE hT hP hD hS hA (r_ringOf l G cA h0 0 0 m_above m_under a_traySort a_trayMany a_numbers a_tape m_taped m_textEnd m_faultKind m_faultAt m_bad m_badAt m_token m_at m_behind m_number m_letters m_word a_c a_words m_markMany a_there a_tried a_best a_found m_thereMany m_foundMany m_orderHow m_orderRing m_orderMany m_hasBest m_bestTop m_bestBy a_weights a_shared m_random m_truePlace m_trueWay m_seconds m_done m_feelings m_tries m_leftOver m_playDoor m_playRing m_isOpen m_isOver m_wasTried m_hasPlayed a_feltNow a_last a_kept m_hasSeconds m_hasTurned m_hasRound a_hasFeels a_isOn m_firstAct m_meanTop m_meanBy a_order m_rowMany m_newSteps g_c k (by omega) hC_g_c) lk_RX12_278 ⟨rfl, rfl⟩ ⟨Nat.le_of_ble_eq_true rfl, Nat.le_of_ble_eq_true rfl⟩ 12 rfl rfl rfl [0, 1] [] rfl rfl (by decide) rfl hl.1 rfl (lv_room (Nat.le_of_ble_eq_true rfl)) dX12_off_43 ⟨Nat.le_of_ble_eq_true rfl, Nat.le_of_ble_eq_true rfl⟩ (fun r_14 u_15 H locs hw hP hD hS => ?_)
      obtain ⟨hr_r_14, hf_16⟩ := hw
      refine z_callVv (As := [.int r_14]) (rest := []) (wr := []) ⟨hx, hb, hml, hown, hts⟩ hK hE hT hP hD hS hA (r_letGo l G cA h0 0 0 m_above m_under a_traySort a_trayMany a_numbers a_tape m_taped m_textEnd m_faultKind m_faultAt m_bad m_badAt m_token m_at m_behind m_number m_letters m_word a_c a_words m_markMany a_there a_tried a_best a_found m_thereMany m_foundMany m_orderHow m_orderRing m_orderMany m_hasBest m_bestTop m_bestBy a_weights a_shared m_random m_truePlace m_trueWay m_seconds m_done m_feelings m_tries m_leftOver m_playDoor m_playRing m_isOpen m_isOver m_wasTried m_hasPlayed a_feltNow a_last a_kept m_hasSeconds m_hasTurned m_hasRound a_hasFeels a_isOn m_firstAct m_meanTop m_meanBy a_order m_rowMany m_newSteps g_c r_14 hC_g_c) lk_RX12_305 ⟨rfl, rfl⟩ ⟨Nat.le_of_ble_eq_true rfl, Nat.le_of_ble_eq_true rfl⟩ 12 rfl rfl rfl [0, 1] [] rfl rfl (by decide) rfl hl.1 rfl (lv_room (Nat.le_of_ble_eq_true rfl)) dX12_off_46 ⟨Nat.le_of_ble_eq_true rfl, Nat.le_of_ble_eq_true rfl⟩ (fun u_19 H locs hw hP hD hS => ?_)
      obtain ⟨n_17, rfl⟩ : ∃ z, z = u_19 := ⟨_, rfl⟩
      obtain ⟨hC_n_17, hf_20⟩ := hw
      refine lv_aload_n hx hb dX12_off_49 rfl (lv_at hl 0 rfl) ?_
      refine lv_iload_n hx hb dX12_off_50 rfl (lv_at hl 1 rfl) ?_
      refine z_callVv (As := [.int k]) (rest := []) (wr := []) ⟨hx, hb, hml, hown, hts⟩ hK hE hT hP hD hS hA (r_take2 l G cA h0 0 0 m_above m_under a_traySort a_trayMany a_numbers a_tape m_taped m_textEnd m_faultKind m_faultAt m_bad m_badAt m_token m_at m_behind m_number m_letters m_word a_c a_words m_markMany a_there a_tried a_best a_found m_thereMany m_foundMany m_orderHow m_orderRing m_orderMany m_hasBest m_bestTop m_bestBy a_weights a_shared m_random m_truePlace m_trueWay m_seconds m_done m_feelings m_tries m_leftOver m_playDoor m_playRing m_isOpen m_isOver m_wasTried m_hasPlayed a_feltNow a_last a_kept m_hasSeconds m_hasTurned m_hasRound a_hasFeels a_isOn m_firstAct m_meanTop m_meanBy a_order m_rowMany m_newSteps n_17 k (by omega) hC_n_17 ⟨_, (by omega), zRO_same hf_11 (hf_20 2 (by omega)) (fun q hq => hf_20 _ (by omega)) (fun q j hq hj => hf_20 _ (by omega))⟩) lk_RX12_312 ⟨rfl, rfl⟩ ⟨Nat.le_of_ble_eq_true rfl, Nat.le_of_ble_eq_true rfl⟩ 12 rfl rfl rfl [0, 1] [] rfl rfl (by decide) rfl hl.1 rfl (lv_room (Nat.le_of_ble_eq_true rfl)) dX12_off_51 ⟨Nat.le_of_ble_eq_true rfl, Nat.le_of_ble_eq_true rfl⟩ (fun u_23 H locs hw hP hD hS => ?_)
      obtain ⟨n_21, rfl⟩ : ∃ z, z = u_23 := ⟨_, rfl⟩
      obtain ⟨hC_n_21, hf_24⟩ := hw
      refine lv_iconst (v := 1) hx hb dX12_off_54 (by decide) ?_
      have hpost : ((1 : Int32) = 0 ∧ (0 ≤ (0 : Int32).toInt ∧ (0 : Int32).toInt ≤ 0) ∧ (zC n_21)) ∨ ((1 : Int32) = 1 ∧ (0 ≤ (0 : Int32).toInt ∧ (0 : Int32).toInt ≤ 0) ∧ (0 ≤ (0 : Int32).toInt ∧ (0 : Int32).toInt ≤ 0) ∧ (zC n_21)) := (Or.inr ⟨rfl, ⟨(by decide +kernel), (by decide +kernel), hC_n_21⟩⟩)
      exact hret _ _ _ _ _ _ (0, 0, n_21) [0, 1] hP hD hS rfl (by decide) dX12_off_55 (Or.inr rfl) hpost
    · have b_25 := z_fltF c_12
      refine lv_aload_n hx hb dX12_off_33 rfl (lv_at hl 0 rfl) ?_
      refine lv_bipush (v := 8) hx hb dX12_off_34 (by decide) ?_
      refine z_callVi (As := [.int 8]) (rest := []) (wr := [(a_c, .inl (cA.1 0, 1825, .inl g_c))]) ⟨hx, hb, hml, hown, hts⟩ hK hE hT hP hD hS hA (r_no l G cA h0 0 0 m_above m_under a_traySort a_trayMany a_numbers a_tape m_taped m_textEnd m_faultKind m_faultAt m_bad m_badAt m_token m_at m_behind m_number m_letters m_word a_c a_words m_markMany a_there a_tried a_best a_found m_thereMany m_foundMany m_orderHow m_orderRing m_orderMany m_hasBest m_bestTop m_bestBy a_weights a_shared m_random m_truePlace m_trueWay m_seconds m_done m_feelings m_tries m_leftOver m_playDoor m_playRing m_isOpen m_isOver m_wasTried m_hasPlayed a_feltNow a_last a_kept m_hasSeconds m_hasTurned m_hasRound a_hasFeels a_isOn m_firstAct m_meanTop m_meanBy a_order m_rowMany m_newSteps 8) lk_RX12_97 ⟨rfl, rfl⟩ ⟨Nat.le_of_ble_eq_true rfl, Nat.le_of_ble_eq_true rfl⟩ 12 rfl rfl rfl [0] [1] rfl rfl (by decide) rfl hl.1 rfl (lv_room (Nat.le_of_ble_eq_true rfl)) dX12_off_36 ⟨Nat.le_of_ble_eq_true rfl, Nat.le_of_ble_eq_true rfl⟩ (fun r_27 u_28 H locs hw hP hD hS => ?_)
      obtain ⟨n_26, rfl⟩ : ∃ z, z = u_28 := ⟨_, rfl⟩
      obtain ⟨he_r_27, he_n_26, hw⟩ := hw
      obtain ⟨rfl, -⟩ := hw
      have hpost : ((0 : Int32) = 0 ∧ (0 ≤ (0 : Int32).toInt ∧ (0 : Int32).toInt ≤ 0) ∧ (zC g_c)) ∨ ((0 : Int32) = 1 ∧ (0 ≤ n_26.toInt ∧ n_26.toInt ≤ 0) ∧ (0 ≤ (0 : Int32).toInt ∧ (0 : Int32).toInt ≤ 0) ∧ (zC g_c)) := (Or.inl ⟨rfl, ⟨(by decide +kernel), hC_g_c⟩⟩)
      exact hret _ _ _ _ _ _ (n_26, 0, g_c) [1, 0] hP hD hS rfl (by decide) dX12_off_39 (Or.inl rfl) hpost
set_option maxHeartbeats 4000000 in
set_option maxRecDepth 100000 in
theorem r_lay (l : Launch) (G : va_G) (cA : zCA) (h0 : Nat) (m_status : Int32) (m_thrown : Int32) (m_above : Int64) (m_under : Int64) (a_traySort : Nat) (a_trayMany : Nat) (a_numbers : Nat) (a_tape : Nat) (m_taped : Int32) (m_textEnd : Int32) (m_faultKind : Int32) (m_faultAt : Int32) (m_bad : Int32) (m_badAt : Int32) (m_token : Int32) (m_at : Int32) (m_behind : Int32) (m_number : Int32) (m_letters : Int32) (m_word : Int64) (a_c : Nat) (a_words : Nat) (m_markMany : Int32) (a_there : Nat) (a_tried : Nat) (a_best : Nat) (a_found : Nat) (m_thereMany : Int32) (m_foundMany : Int32) (m_orderHow : Int32) (m_orderRing : Int32) (m_orderMany : Int32) (m_hasBest : Int32) (m_bestTop : Int64) (m_bestBy : Int64) (a_weights : Nat) (a_shared : Nat) (m_random : Int32) (m_truePlace : Int32) (m_trueWay : Int32) (m_seconds : Int32) (m_done : Int32) (m_feelings : Int32) (m_tries : Int32) (m_leftOver : Int32) (m_playDoor : Int32) (m_playRing : Int32) (m_isOpen : Int32) (m_isOver : Int32) (m_wasTried : Int32) (m_hasPlayed : Int32) (a_feltNow : Nat) (a_last : Nat) (a_kept : Nat) (m_hasSeconds : Int32) (m_hasTurned : Int32) (m_hasRound : Int32) (a_hasFeels : Nat) (a_isOn : Nat) (m_firstAct : Int32) (m_meanTop : Int64) (m_meanBy : Int64) (a_order : Nat) (m_rowMany : Int32) (m_newSteps : Int32) (g_trayMany : Nat → Int32) (g_numbers : Nat → Int64) (g_c : Nat → Int32) (r : Int32) (t : Int32) (hC_g_trayMany : zRg 4 (-1) 60 g_trayMany) (hZ_g_c : zC g_c) : zCi l yX12_lay cX12_lay 8 (some .boolean) ({ frames := 2, cells := 0, slots := 0, locals := 47 }) G cA [.ref h0, .int r, .int t] [(h0, .inr (12, [.int m_status, .int m_thrown, .long m_above, .long m_under, .ref a_traySort, .ref a_trayMany, .ref a_numbers, .ref a_tape, .int m_taped, .int m_textEnd, .int m_faultKind, .int m_faultAt, .int m_bad, .int m_badAt, .int m_token, .int m_at, .int m_behind, .int m_number, .int m_letters, .long m_word, .ref a_c, .ref a_words, .int m_markMany, .ref a_there, .ref a_tried, .ref a_best, .ref a_found, .int m_thereMany, .int m_foundMany, .int m_orderHow, .int m_orderRing, .int m_orderMany, .int m_hasBest, .long m_bestTop, .long m_bestBy, .ref a_weights, .ref a_shared, .int m_random, .int m_truePlace, .int m_trueWay, .int m_seconds, .int m_done, .int m_feelings, .int m_tries, .int m_leftOver, .int m_playDoor, .int m_playRing, .int m_isOpen, .int m_isOver, .int m_wasTried, .int m_hasPlayed, .ref a_feltNow, .ref a_last, .ref a_kept, .int m_hasSeconds, .int m_hasTurned, .int m_hasRound, .ref a_hasFeels, .ref a_isOn, .int m_firstAct, .long m_meanTop, .long m_meanBy, .ref a_order, .int m_rowMany, .int m_newSteps])), (a_trayMany, .inl (cA.1 0, 4, .inl g_trayMany)), (a_numbers, .inl (cA.1 1, 240, .inr (.inl g_numbers))), (a_c, .inl (cA.1 0, 1825, .inl g_c))] (S := Int32 × Int32 × (Nat → Int32)) (fun (r : Int32) (u : Int32 × Int32 × (Nat → Int32)) => (r = 0 ∧ (0 ≤ u.2.1.toInt ∧ u.2.1.toInt ≤ 0) ∧ (zC u.2.2)) ∨ (r = 1 ∧ (0 ≤ u.1.toInt ∧ u.1.toInt ≤ 0) ∧ (0 ≤ u.2.1.toInt ∧ u.2.1.toInt ≤ 0) ∧ (zC u.2.2))) (fun (u : Int32 × Int32 × (Nat → Int32)) => [(h0, .inr (12, [.int u.1, .int u.2.1, .long m_above, .long m_under, .ref a_traySort, .ref a_trayMany, .ref a_numbers, .ref a_tape, .int m_taped, .int m_textEnd, .int m_faultKind, .int m_faultAt, .int m_bad, .int m_badAt, .int m_token, .int m_at, .int m_behind, .int m_number, .int m_letters, .long m_word, .ref a_c, .ref a_words, .int m_markMany, .ref a_there, .ref a_tried, .ref a_best, .ref a_found, .int m_thereMany, .int m_foundMany, .int m_orderHow, .int m_orderRing, .int m_orderMany, .int m_hasBest, .long m_bestTop, .long m_bestBy, .ref a_weights, .ref a_shared, .int m_random, .int m_truePlace, .int m_trueWay, .int m_seconds, .int m_done, .int m_feelings, .int m_tries, .int m_leftOver, .int m_playDoor, .int m_playRing, .int m_isOpen, .int m_isOver, .int m_wasTried, .int m_hasPlayed, .ref a_feltNow, .ref a_last, .ref a_kept, .int m_hasSeconds, .int m_hasTurned, .int m_hasRound, .ref a_hasFeels, .ref a_isOn, .int m_firstAct, .long m_meanTop, .long m_meanBy, .ref a_order, .int m_rowMany, .int m_newSteps])), (a_trayMany, .inl (cA.1 0, 4, .inl g_trayMany)), (a_numbers, .inl (cA.1 1, 240, .inr (.inl g_numbers))), (a_c, .inl (cA.1 0, 1825, .inl u.2.2))]) 0 0 := by
  have hk_0 : (0 : Int32).toInt = 0 := by decide +kernel
  have hk_1 : (1 : Int32).toInt = 1 := by decide +kernel
  have hk_2 : (2 : Int32).toInt = 2 := by decide +kernel
  have hk_3 : (3 : Int32).toInt = 3 := by decide +kernel
  have hk_4 : (4 : Int32).toInt = 4 := by decide +kernel
  have hk_5 : (5 : Int32).toInt = 5 := by decide +kernel
  have hk_10 : (10 : Int32).toInt = 10 := by decide +kernel
  have hk_95 : (95 : Int32).toInt = 95 := by decide +kernel
  have hk_98 : (98 : Int32).toInt = 98 := by decide +kernel
  have hC_g_c : zCt g_c := hZ_g_c.1
  refine z_start2z (own := RX12) (by decide) (Nat.le_of_ble_eq_true rfl) rfl ?_
  intro p e s m args below meth c A ls Q hx hb hml hts hown hK hE hT hP hD hS hA hl hret
  have hl : lv_has ls 8 [(0, .ref h0), (1, .int r), (2, .int t)] := hl
  refine lv_aload_n hx hb dX12_lay_0 rfl (lv_at hl 0 rfl) ?_
  refine lv_iconst (v := 0) hx hb dX12_lay_1 (by decide) ?_
  refine va_put (D := G) (ci := 12) (v := .int 0) (ty := .int) (C := RX12) (T := TX12) (N := 65) hx hb hts inT12 tyX12 tyX12_ok nmX12 hown hK hP hD hS 0 rfl rfl 1 (by decide) (hts _ tw_1886) (fun _ h9 => h9) rfl (tyX12_ok 1 (by decide)) rfl rfl (Nat.le_of_ble_eq_true rfl) dX12_lay_2 (fun H locs hP hD hS => ?_)
  refine lv_aload_n hx hb dX12_lay_5 rfl (lv_at hl 0 rfl) ?_
  refine lv_iconst (v := 0) hx hb dX12_lay_6 (by decide) ?_
  refine va_put (D := G) (ci := 12) (v := .int 0) (ty := .int) (C := RX12) (T := TX12) (N := 65) hx hb hts inT12 tyX12 tyX12_ok nmX12 hown hK hP hD hS 0 rfl rfl 0 (by decide) (hts _ tw_1885) (fun _ h9 => h9) rfl (tyX12_ok 0 (by decide)) rfl rfl (Nat.le_of_ble_eq_true rfl) dX12_lay_7 (fun H locs hP hD hS => ?_)
  refine lv_aload_n hx hb dX12_lay_10 rfl (lv_at hl 0 rfl) ?_
  refine lv_iload_n hx hb dX12_lay_11 rfl (lv_at hl 2 rfl) ?_
  refine z_callVi (As := [.int t]) (rest := []) (wr := [(a_trayMany, .inl (cA.1 0, 4, .inl g_trayMany)), (a_numbers, .inl (cA.1 1, 240, .inr (.inl g_numbers))), (a_c, .inl (cA.1 0, 1825, .inl g_c))]) ⟨hx, hb, hml, hown, hts⟩ hK hE hT hP hD hS hA (r_isTray l G cA h0 0 0 m_above m_under a_traySort a_trayMany a_numbers a_tape m_taped m_textEnd m_faultKind m_faultAt m_bad m_badAt m_token m_at m_behind m_number m_letters m_word a_c a_words m_markMany a_there a_tried a_best a_found m_thereMany m_foundMany m_orderHow m_orderRing m_orderMany m_hasBest m_bestTop m_bestBy a_weights a_shared m_random m_truePlace m_trueWay m_seconds m_done m_feelings m_tries m_leftOver m_playDoor m_playRing m_isOpen m_isOver m_wasTried m_hasPlayed a_feltNow a_last a_kept m_hasSeconds m_hasTurned m_hasRound a_hasFeels a_isOn m_firstAct m_meanTop m_meanBy a_order m_rowMany m_newSteps t) lk_RX12_298 ⟨rfl, rfl⟩ ⟨Nat.le_of_ble_eq_true rfl, Nat.le_of_ble_eq_true rfl⟩ 12 rfl rfl rfl [0] [1, 2, 3] rfl rfl (by decide) rfl hl.1 rfl (lv_room (Nat.le_of_ble_eq_true rfl)) dX12_lay_12 ⟨Nat.le_of_ble_eq_true rfl, Nat.le_of_ble_eq_true rfl⟩ (fun r_1 u_2 H locs hw hP hD hS => ?_)
  rcases hw with ⟨rfl, -⟩ | ⟨rfl, hf_3⟩
  · skip
    refine lv_if_ne (tgt := 24) hx hb dX12_lay_15 (by decide) (fun h9 => absurd (by decide +kernel) h9) (fun _ => ?_)
    refine lv_aload_n hx hb dX12_lay_18 rfl (lv_at hl 0 rfl) ?_
    refine lv_iconst (v := 1) hx hb dX12_lay_19 (by decide) ?_
    refine z_callVi (As := [.int 1]) (rest := []) (wr := [(a_trayMany, .inl (cA.1 0, 4, .inl g_trayMany)), (a_numbers, .inl (cA.1 1, 240, .inr (.inl g_numbers))), (a_c, .inl (cA.1 0, 1825, .inl g_c))]) ⟨hx, hb, hml, hown, hts⟩ hK hE hT hP hD hS hA (r_no l G cA h0 0 0 m_above m_under a_traySort a_trayMany a_numbers a_tape m_taped m_textEnd m_faultKind m_faultAt m_bad m_badAt m_token m_at m_behind m_number m_letters m_word a_c a_words m_markMany a_there a_tried a_best a_found m_thereMany m_foundMany m_orderHow m_orderRing m_orderMany m_hasBest m_bestTop m_bestBy a_weights a_shared m_random m_truePlace m_trueWay m_seconds m_done m_feelings m_tries m_leftOver m_playDoor m_playRing m_isOpen m_isOver m_wasTried m_hasPlayed a_feltNow a_last a_kept m_hasSeconds m_hasTurned m_hasRound a_hasFeels a_isOn m_firstAct m_meanTop m_meanBy a_order m_rowMany m_newSteps 1) lk_RX12_97 ⟨rfl, rfl⟩ ⟨Nat.le_of_ble_eq_true rfl, Nat.le_of_ble_eq_true rfl⟩ 12 rfl rfl rfl [3] [0, 1, 2] rfl rfl (by decide) rfl hl.1 rfl (lv_room (Nat.le_of_ble_eq_true rfl)) dX12_lay_20 ⟨Nat.le_of_ble_eq_true rfl, Nat.le_of_ble_eq_true rfl⟩ (fun r_5 u_6 H locs hw hP hD hS => ?_)
    obtain ⟨n_4, rfl⟩ : ∃ z, z = u_6 := ⟨_, rfl⟩
    obtain ⟨he_r_5, he_n_4, hw⟩ := hw
    obtain ⟨rfl, -⟩ := hw
    have hpost : ((0 : Int32) = 0 ∧ (0 ≤ (0 : Int32).toInt ∧ (0 : Int32).toInt ≤ 0) ∧ (zC g_c)) ∨ ((0 : Int32) = 1 ∧ (0 ≤ n_4.toInt ∧ n_4.toInt ≤ 0) ∧ (0 ≤ (0 : Int32).toInt ∧ (0 : Int32).toInt ≤ 0) ∧ (zC g_c)) := (Or.inl ⟨rfl, ⟨(by decide +kernel), hZ_g_c⟩⟩)
    exact hret _ _ _ _ _ _ (n_4, 0, g_c) [3, 0, 1, 2] hP hD hS rfl (by decide) dX12_lay_23 (Or.inl rfl) hpost
  · skip
    refine lv_if_ne (tgt := 24) hx hb dX12_lay_15 (by decide) (fun _ => ?_) (fun h9 => absurd h9 (by decide +kernel))
    refine lv_aload_n hx hb dX12_lay_24 rfl (lv_at hl 0 rfl) ?_
    refine lv_iload_n hx hb dX12_lay_25 rfl (lv_at hl 1 rfl) ?_
    refine z_callVi (As := [.int r]) (rest := []) (wr := [(a_trayMany, .inl (cA.1 0, 4, .inl g_trayMany)), (a_numbers, .inl (cA.1 1, 240, .inr (.inl g_numbers)))]) ⟨hx, hb, hml, hown, hts⟩ hK hE hT hP hD hS hA (r_isRing l G cA h0 0 0 m_above m_under a_traySort a_trayMany a_numbers a_tape m_taped m_textEnd m_faultKind m_faultAt m_bad m_badAt m_token m_at m_behind m_number m_letters m_word a_c a_words m_markMany a_there a_tried a_best a_found m_thereMany m_foundMany m_orderHow m_orderRing m_orderMany m_hasBest m_bestTop m_bestBy a_weights a_shared m_random m_truePlace m_trueWay m_seconds m_done m_feelings m_tries m_leftOver m_playDoor m_playRing m_isOpen m_isOver m_wasTried m_hasPlayed a_feltNow a_last a_kept m_hasSeconds m_hasTurned m_hasRound a_hasFeels a_isOn m_firstAct m_meanTop m_meanBy a_order m_rowMany m_newSteps g_c r hZ_g_c) lk_RX12_289 ⟨rfl, rfl⟩ ⟨Nat.le_of_ble_eq_true rfl, Nat.le_of_ble_eq_true rfl⟩ 12 rfl rfl rfl [3, 2] [0, 1] rfl rfl (by decide) rfl hl.1 rfl (lv_room (Nat.le_of_ble_eq_true rfl)) dX12_lay_26 ⟨Nat.le_of_ble_eq_true rfl, Nat.le_of_ble_eq_true rfl⟩ (fun r_7 u_8 H locs hw hP hD hS => ?_)
    rcases hw with ⟨rfl, -⟩ | ⟨rfl, hf_9, hf_10⟩
    · skip
      refine lv_if_ne (tgt := 38) hx hb dX12_lay_29 (by decide) (fun h9 => absurd (by decide +kernel) h9) (fun _ => ?_)
      refine lv_aload_n hx hb dX12_lay_32 rfl (lv_at hl 0 rfl) ?_
      refine lv_iconst (v := 2) hx hb dX12_lay_33 (by decide) ?_
      refine z_callVi (As := [.int 2]) (rest := []) (wr := [(a_trayMany, .inl (cA.1 0, 4, .inl g_trayMany)), (a_numbers, .inl (cA.1 1, 240, .inr (.inl g_numbers))), (a_c, .inl (cA.1 0, 1825, .inl g_c))]) ⟨hx, hb, hml, hown, hts⟩ hK hE hT hP hD hS hA (r_no l G cA h0 0 0 m_above m_under a_traySort a_trayMany a_numbers a_tape m_taped m_textEnd m_faultKind m_faultAt m_bad m_badAt m_token m_at m_behind m_number m_letters m_word a_c a_words m_markMany a_there a_tried a_best a_found m_thereMany m_foundMany m_orderHow m_orderRing m_orderMany m_hasBest m_bestTop m_bestBy a_weights a_shared m_random m_truePlace m_trueWay m_seconds m_done m_feelings m_tries m_leftOver m_playDoor m_playRing m_isOpen m_isOver m_wasTried m_hasPlayed a_feltNow a_last a_kept m_hasSeconds m_hasTurned m_hasRound a_hasFeels a_isOn m_firstAct m_meanTop m_meanBy a_order m_rowMany m_newSteps 2) lk_RX12_97 ⟨rfl, rfl⟩ ⟨Nat.le_of_ble_eq_true rfl, Nat.le_of_ble_eq_true rfl⟩ 12 rfl rfl rfl [2] [0, 1, 3] rfl rfl (by decide) rfl hl.1 rfl (lv_room (Nat.le_of_ble_eq_true rfl)) dX12_lay_34 ⟨Nat.le_of_ble_eq_true rfl, Nat.le_of_ble_eq_true rfl⟩ (fun r_12 u_13 H locs hw hP hD hS => ?_)
      obtain ⟨n_11, rfl⟩ : ∃ z, z = u_13 := ⟨_, rfl⟩
      obtain ⟨he_r_12, he_n_11, hw⟩ := hw
      obtain ⟨rfl, -⟩ := hw
      have hpost : ((0 : Int32) = 0 ∧ (0 ≤ (0 : Int32).toInt ∧ (0 : Int32).toInt ≤ 0) ∧ (zC g_c)) ∨ ((0 : Int32) = 1 ∧ (0 ≤ n_11.toInt ∧ n_11.toInt ≤ 0) ∧ (0 ≤ (0 : Int32).toInt ∧ (0 : Int32).toInt ≤ 0) ∧ (zC g_c)) := (Or.inl ⟨rfl, ⟨(by decide +kernel), hZ_g_c⟩⟩)
      exact hret _ _ _ _ _ _ (n_11, 0, g_c) [3, 0, 1, 2] hP hD hS rfl (by decide) dX12_lay_37 (Or.inl rfl) hpost
    · skip
      refine lv_if_ne (tgt := 38) hx hb dX12_lay_29 (by decide) (fun _ => ?_) (fun h9 => absurd h9 (by decide +kernel))
      refine lv_aload_n hx hb dX12_lay_38 rfl (lv_at hl 0 rfl) ?_
      refine va_get (D := G) (ci := 12) (v := .ref a_trayMany) (C := RX12) (T := TX12) (N := 65) hx hb hts inT12 hown hK hP 2 rfl rfl 5 (by decide) (hts _ tw_1890) (fun _ h9 => h9) rfl dX12_lay_39 ?_
      refine lv_iload_n hx hb dX12_lay_42 rfl (lv_at hl 2 rfl) ?_
      refine va_iald hx hb hK hP 0 0 rfl rfl (z_inN (by omega) (by omega)) dX12_lay_43 ?_
      refine lv_topi (fun x_14 he_x_14 => ?_)
      have hr_x_14 := z_rg hC_g_trayMany he_x_14 (by omega) (by omega)
      refine lv_if_ge (tgt := 53) hx hb dX12_lay_44 (by decide) (fun c_15 => ?_) (fun c_15 => ?_)
      · have b_16 := z_fgeT c_15
        refine lv_aload_n hx hb dX12_lay_53 rfl (lv_at hl 0 rfl) ?_
        refine va_get (D := G) (ci := 12) (v := .ref a_c) (C := RX12) (T := TX12) (N := 65) hx hb hts inT12 hown hK hP 2 rfl rfl 20 (by decide) (hts _ tw_1905) (fun _ h9 => h9) rfl dX12_lay_54 ?_
        refine lv_bipush (v := 95) hx hb dX12_lay_57 (by decide) ?_
        refine lv_iload_n hx hb dX12_lay_59 rfl (lv_at hl 1 rfl) ?_
        refine lv_iadd hx hb dX12_lay_60 ?_
        refine lv_topi (fun x_17 he_x_17 => ?_)
        have hq_x_17 := z_addq he_x_17 hk_95 (rfl : r.toInt = _) (by omega) (by omega)
        refine va_iald hx hb hK hP 3 0 rfl rfl (z_inN (by omega) (by omega)) dX12_lay_61 ?_
        refine lv_topi (fun x_18 he_x_18 => ?_)
        have hr_x_18 := z_ctt hC_g_c he_x_18 (a := 95) (b := 97) (lo := 0) (hi := 10) (by decide +kernel) (by decide) (by omega) (by omega)
        have hsz_x_18 := z_sz (r := r.toInt) he_x_18 (by omega) (by omega)
        refine lv_istore_n (lv' := [(3, .int x_18), (0, .ref h0), (1, .int r), (2, .int t)]) hx hb dX12_lay_62 rfl hl (by decide) rfl (fun ls hl => ?_)
        refine lv_aload_n hx hb dX12_lay_63 rfl (lv_at hl 1 rfl) ?_
        refine va_get (D := G) (ci := 12) (v := .ref a_trayMany) (C := RX12) (T := TX12) (N := 65) hx hb hts inT12 hown hK hP 2 rfl rfl 5 (by decide) (hts _ tw_1890) (fun _ h9 => h9) rfl dX12_lay_64 ?_
        refine lv_iload_n hx hb dX12_lay_67 rfl (lv_at hl 3 rfl) ?_
        refine va_iald hx hb hK hP 0 0 rfl rfl (z_inN (by omega) (by omega)) dX12_lay_68 ?_
        refine lv_topi (fun x_19 he_x_19 => ?_)
        have hr_x_19 := z_rg hC_g_trayMany he_x_19 (by omega) (by omega)
        refine lv_iload_n hx hb dX12_lay_69 rfl (lv_at hl 0 rfl) ?_
        refine lv_icmp_ge (tgt := 79) hx hb dX12_lay_70 (by decide) (fun c_20 => ?_) (fun c_20 => ?_)
        · have b_21 := z_fgeT c_20
          refine lv_iconst (v := 0) hx hb dX12_lay_79 (by decide) ?_
          refine lv_istore (lv' := [(4, .int 0), (3, .int x_18), (0, .ref h0), (1, .int r), (2, .int t)]) hx hb dX12_lay_80 hl (by decide) rfl (fun ls hl => ?_)
          have hlp_1669 : ∀ (n : Nat) (v_1474 : Int32) (H : Heap) (locs : List Loc) (ls : Array Slot), (2147483647 - v_1474.toInt).toNat < n → (0 ≤ v_1474.toInt ∧ v_1474.toInt ≤ 10) → (zLy g_numbers (g_c 1).toInt t.toInt v_1474.toInt) → (v_1474.toInt ≤ x_18.toInt) → va_P G vwCl [(a_trayMany, .inl (cA.1 0, 4, .inl g_trayMany)), (a_numbers, .inl (cA.1 1, 240, .inr (.inl g_numbers))), (h0, .inr (12, [.int 0, .int 0, .long m_above, .long m_under, .ref a_traySort, .ref a_trayMany, .ref a_numbers, .ref a_tape, .int m_taped, .int m_textEnd, .int m_faultKind, .int m_faultAt, .int m_bad, .int m_badAt, .int m_token, .int m_at, .int m_behind, .int m_number, .int m_letters, .long m_word, .ref a_c, .ref a_words, .int m_markMany, .ref a_there, .ref a_tried, .ref a_best, .ref a_found, .int m_thereMany, .int m_foundMany, .int m_orderHow, .int m_orderRing, .int m_orderMany, .int m_hasBest, .long m_bestTop, .long m_bestBy, .ref a_weights, .ref a_shared, .int m_random, .int m_truePlace, .int m_trueWay, .int m_seconds, .int m_done, .int m_feelings, .int m_tries, .int m_leftOver, .int m_playDoor, .int m_playRing, .int m_isOpen, .int m_isOver, .int m_wasTried, .int m_hasPlayed, .ref a_feltNow, .ref a_last, .ref a_kept, .int m_hasSeconds, .int m_hasTurned, .int m_hasRound, .ref a_hasFeels, .ref a_isOn, .int m_firstAct, .long m_meanTop, .long m_meanBy, .ref a_order, .int m_rowMany, .int m_newSteps])), (a_c, .inl (cA.1 0, 1825, .inl g_c))] H → va_D A [(a_trayMany, .inl (cA.1 0, 4, .inl g_trayMany)), (a_numbers, .inl (cA.1 1, 240, .inr (.inl g_numbers))), (h0, .inr (12, [.int 0, .int 0, .long m_above, .long m_under, .ref a_traySort, .ref a_trayMany, .ref a_numbers, .ref a_tape, .int m_taped, .int m_textEnd, .int m_faultKind, .int m_faultAt, .int m_bad, .int m_badAt, .int m_token, .int m_at, .int m_behind, .int m_number, .int m_letters, .long m_word, .ref a_c, .ref a_words, .int m_markMany, .ref a_there, .ref a_tried, .ref a_best, .ref a_found, .int m_thereMany, .int m_foundMany, .int m_orderHow, .int m_orderRing, .int m_orderMany, .int m_hasBest, .long m_bestTop, .long m_bestBy, .ref a_weights, .ref a_shared, .int m_random, .int m_truePlace, .int m_trueWay, .int m_seconds, .int m_done, .int m_feelings, .int m_tries, .int m_leftOver, .int m_playDoor, .int m_playRing, .int m_isOpen, .int m_isOver, .int m_wasTried, .int m_hasPlayed, .ref a_feltNow, .ref a_last, .ref a_kept, .int m_hasSeconds, .int m_hasTurned, .int m_hasRound, .ref a_hasFeels, .ref a_isOn, .int m_firstAct, .long m_meanTop, .long m_meanBy, .ref a_order, .int m_rowMany, .int m_newSteps])), (a_c, .inl (cA.1 0, 1825, .inl g_c))] → va_S A s.heap H locs → lv_has ls 8 [(0, .ref h0), (1, .int r), (2, .int t), (3, .int x_18), (4, .int v_1474)] → W p l e ({ frames := 2, cells := 0, slots := 0, locals := 47 }) s m args below meth c H locs 0 0 Q (F0 m 82 ls []) := by
            intro n
            induction n with
            | zero =>
              intro v_1474 H locs ls hmu_hlp_1669 hr_v_1474 hi_1667 hi_1668 hP hD hS hl
              exact absurd hmu_hlp_1669 (Nat.not_lt_zero _)
            | succ n ih_1670 =>
              intro v_1474 H locs ls hmu_hlp_1669 hr_v_1474 hi_1667 hi_1668 hP hD hS hl
              refine lv_iload hx hb dX12_lay_82 (lv_at hl 4 rfl) ?_
              refine lv_iload_n hx hb dX12_lay_84 rfl (lv_at hl 3 rfl) ?_
              refine lv_icmp_ge (tgt := 164) hx hb dX12_lay_85 (by decide) (fun c_1671 => ?_) (fun c_1671 => ?_)
              · have b_1672 := z_fgeT c_1671
                have hlyn : v_1474.toInt = x_18.toInt := by omega
                have hlyE : zLy g_numbers (g_c 1).toInt t.toInt x_18.toInt := hlyn ▸ hi_1667
                refine lv_iconst (v := 0) hx hb dX12_lay_164 (by decide) ?_
                refine lv_istore (lv' := [(4, .int 0), (0, .ref h0), (1, .int r), (2, .int t), (3, .int x_18)]) hx hb dX12_lay_165 hl (by decide) rfl (fun ls hl => ?_)
                have hlp_1840 : ∀ (n : Nat) (v_1824 : Int32) (g_1825 : Nat → Int32) (H : Heap) (locs : List Loc) (ls : Array Slot), (2147483647 - v_1824.toInt).toNat < n → (0 ≤ v_1824.toInt ∧ v_1824.toInt ≤ 10) → (zCt g_1825) → (zLw g_c g_1825 g_numbers r.toInt t.toInt v_1824.toInt) → (v_1824.toInt ≤ x_18.toInt) → va_P G vwCl [(a_trayMany, .inl (cA.1 0, 4, .inl g_trayMany)), (a_numbers, .inl (cA.1 1, 240, .inr (.inl g_numbers))), (h0, .inr (12, [.int 0, .int 0, .long m_above, .long m_under, .ref a_traySort, .ref a_trayMany, .ref a_numbers, .ref a_tape, .int m_taped, .int m_textEnd, .int m_faultKind, .int m_faultAt, .int m_bad, .int m_badAt, .int m_token, .int m_at, .int m_behind, .int m_number, .int m_letters, .long m_word, .ref a_c, .ref a_words, .int m_markMany, .ref a_there, .ref a_tried, .ref a_best, .ref a_found, .int m_thereMany, .int m_foundMany, .int m_orderHow, .int m_orderRing, .int m_orderMany, .int m_hasBest, .long m_bestTop, .long m_bestBy, .ref a_weights, .ref a_shared, .int m_random, .int m_truePlace, .int m_trueWay, .int m_seconds, .int m_done, .int m_feelings, .int m_tries, .int m_leftOver, .int m_playDoor, .int m_playRing, .int m_isOpen, .int m_isOver, .int m_wasTried, .int m_hasPlayed, .ref a_feltNow, .ref a_last, .ref a_kept, .int m_hasSeconds, .int m_hasTurned, .int m_hasRound, .ref a_hasFeels, .ref a_isOn, .int m_firstAct, .long m_meanTop, .long m_meanBy, .ref a_order, .int m_rowMany, .int m_newSteps])), (a_c, .inl (cA.1 0, 1825, .inl g_1825))] H → va_D A [(a_trayMany, .inl (cA.1 0, 4, .inl g_trayMany)), (a_numbers, .inl (cA.1 1, 240, .inr (.inl g_numbers))), (h0, .inr (12, [.int 0, .int 0, .long m_above, .long m_under, .ref a_traySort, .ref a_trayMany, .ref a_numbers, .ref a_tape, .int m_taped, .int m_textEnd, .int m_faultKind, .int m_faultAt, .int m_bad, .int m_badAt, .int m_token, .int m_at, .int m_behind, .int m_number, .int m_letters, .long m_word, .ref a_c, .ref a_words, .int m_markMany, .ref a_there, .ref a_tried, .ref a_best, .ref a_found, .int m_thereMany, .int m_foundMany, .int m_orderHow, .int m_orderRing, .int m_orderMany, .int m_hasBest, .long m_bestTop, .long m_bestBy, .ref a_weights, .ref a_shared, .int m_random, .int m_truePlace, .int m_trueWay, .int m_seconds, .int m_done, .int m_feelings, .int m_tries, .int m_leftOver, .int m_playDoor, .int m_playRing, .int m_isOpen, .int m_isOver, .int m_wasTried, .int m_hasPlayed, .ref a_feltNow, .ref a_last, .ref a_kept, .int m_hasSeconds, .int m_hasTurned, .int m_hasRound, .ref a_hasFeels, .ref a_isOn, .int m_firstAct, .long m_meanTop, .long m_meanBy, .ref a_order, .int m_rowMany, .int m_newSteps])), (a_c, .inl (cA.1 0, 1825, .inl g_1825))] → va_S A s.heap H locs → lv_has ls 8 [(0, .ref h0), (1, .int r), (2, .int t), (3, .int x_18), (4, .int v_1824)] → W p l e ({ frames := 2, cells := 0, slots := 0, locals := 47 }) s m args below meth c H locs 0 0 Q (F0 m 167 ls []) := by
                  intro n
                  induction n with
                  | zero =>
                    intro v_1824 g_1825 H locs ls hmu_hlp_1840 hr_v_1824 hC_g_1825 hi_1838 hi_1839 hP hD hS hl
                    exact absurd hmu_hlp_1840 (Nat.not_lt_zero _)
                  | succ n ih_1841 =>
                    intro v_1824 g_1825 H locs ls hmu_hlp_1840 hr_v_1824 hC_g_1825 hi_1838 hi_1839 hP hD hS hl
                    refine lv_iload hx hb dX12_lay_167 (lv_at hl 4 rfl) ?_
                    refine lv_iload_n hx hb dX12_lay_169 rfl (lv_at hl 3 rfl) ?_
                    refine lv_icmp_ge (tgt := 202) hx hb dX12_lay_170 (by decide) (fun c_1842 => ?_) (fun c_1842 => ?_)
                    · have b_1843 := z_fgeT c_1842
                      refine lv_aload_n hx hb dX12_lay_202 rfl (lv_at hl 0 rfl) ?_
                      have hlw : zLw g_c g_1825 g_numbers r.toInt t.toInt x_18.toInt := (show v_1824.toInt = x_18.toInt by omega) ▸ hi_1838
                      have hZ_g_1825 : zC g_1825 := zLw_zC hZ_g_c hC_g_1825 hlw hlyE (by omega) (by omega) (by omega)
                      refine lv_iload_n hx hb dX12_lay_203 rfl (lv_at hl 1 rfl) ?_
                      refine z_callVv (As := [.int r]) (rest := []) (wr := [(a_trayMany, .inl (cA.1 0, 4, .inl g_trayMany)), (a_numbers, .inl (cA.1 1, 240, .inr (.inl g_numbers)))]) ⟨hx, hb, hml, hown, hts⟩ hK hE hT hP hD hS hA (r_letGo l G cA h0 0 0 m_above m_under a_traySort a_trayMany a_numbers a_tape m_taped m_textEnd m_faultKind m_faultAt m_bad m_badAt m_token m_at m_behind m_number m_letters m_word a_c a_words m_markMany a_there a_tried a_best a_found m_thereMany m_foundMany m_orderHow m_orderRing m_orderMany m_hasBest m_bestTop m_bestBy a_weights a_shared m_random m_truePlace m_trueWay m_seconds m_done m_feelings m_tries m_leftOver m_playDoor m_playRing m_isOpen m_isOver m_wasTried m_hasPlayed a_feltNow a_last a_kept m_hasSeconds m_hasTurned m_hasRound a_hasFeels a_isOn m_firstAct m_meanTop m_meanBy a_order m_rowMany m_newSteps g_1825 r hZ_g_1825) lk_RX12_305 ⟨rfl, rfl⟩ ⟨Nat.le_of_ble_eq_true rfl, Nat.le_of_ble_eq_true rfl⟩ 12 rfl rfl rfl [2, 3] [0, 1] rfl rfl (by decide) rfl hl.1 rfl (lv_room (Nat.le_of_ble_eq_true rfl)) dX12_lay_204 ⟨Nat.le_of_ble_eq_true rfl, Nat.le_of_ble_eq_true rfl⟩ (fun u_1846 H locs hw hP hD hS => ?_)
                      obtain ⟨n_1844, rfl⟩ : ∃ z, z = u_1846 := ⟨_, rfl⟩
                      obtain ⟨hZ_n_1844, hf_1847⟩ := hw
                      have hC_n_1844 : zCt n_1844 := hZ_n_1844.1
                      refine lv_iconst (v := 1) hx hb dX12_lay_207 (by decide) ?_
                      have hpost : ((1 : Int32) = 0 ∧ (0 ≤ (0 : Int32).toInt ∧ (0 : Int32).toInt ≤ 0) ∧ (zC n_1844)) ∨ ((1 : Int32) = 1 ∧ (0 ≤ (0 : Int32).toInt ∧ (0 : Int32).toInt ≤ 0) ∧ (0 ≤ (0 : Int32).toInt ∧ (0 : Int32).toInt ≤ 0) ∧ (zC n_1844)) := (Or.inr ⟨rfl, ⟨(by decide +kernel), (by decide +kernel), hZ_n_1844⟩⟩)
                      exact hret _ _ _ _ _ _ (0, 0, n_1844) [2, 0, 1, 3] hP hD hS rfl (by decide) dX12_lay_208 (Or.inr rfl) hpost
                    · have b_1848 := z_fltF c_1842
                      refine lv_aload_n hx hb dX12_lay_173 rfl (lv_at hl 0 rfl) ?_
                      refine va_get (D := G) (ci := 12) (v := .ref a_c) (C := RX12) (T := TX12) (N := 65) hx hb hts inT12 hown hK hP 2 rfl rfl 20 (by decide) (hts _ tw_1905) (fun _ h9 => h9) rfl dX12_lay_174 ?_
                      refine lv_bipush (v := 98) hx hb dX12_lay_177 (by decide) ?_
                      refine lv_bipush (v := 10) hx hb dX12_lay_179 (by decide) ?_
                      refine lv_iload_n hx hb dX12_lay_181 rfl (lv_at hl 1 rfl) ?_
                      refine lv_imul hx hb dX12_lay_182 ?_
                      refine lv_topi (fun x_1849 he_x_1849 => ?_)
                      have hq_x_1849 := z_mulq he_x_1849 hk_10 (rfl : r.toInt = _) (by omega) (by omega)
                      refine lv_iadd hx hb dX12_lay_183 ?_
                      refine lv_topi (fun x_1850 he_x_1850 => ?_)
                      have hq_x_1850 := z_addq he_x_1850 hk_98 (rfl : x_1849.toInt = _) (by omega) (by omega)
                      refine lv_iload hx hb dX12_lay_184 (lv_at hl 4 rfl) ?_
                      refine lv_iadd hx hb dX12_lay_186 ?_
                      refine lv_topi (fun x_1851 he_x_1851 => ?_)
                      have hq_x_1851 := z_addq he_x_1851 (rfl : x_1850.toInt = _) (rfl : v_1824.toInt = _) (by omega) (by omega)
                      refine lv_aload_n hx hb dX12_lay_187 rfl (lv_at hl 0 rfl) ?_
                      refine lv_iload_n hx hb dX12_lay_188 rfl (lv_at hl 2 rfl) ?_
                      refine lv_iload hx hb dX12_lay_189 (lv_at hl 4 rfl) ?_
                      refine z_callVl (As := [.int t, .int v_1824]) (rest := [.int x_1851, .ref a_c]) (wr := [(a_trayMany, .inl (cA.1 0, 4, .inl g_trayMany)), (a_c, .inl (cA.1 0, 1825, .inl g_1825))]) ⟨hx, hb, hml, hown, hts⟩ hK hE hT hP hD hS hA (r_numberOf l G cA h0 0 0 m_above m_under a_traySort a_trayMany a_numbers a_tape m_taped m_textEnd m_faultKind m_faultAt m_bad m_badAt m_token m_at m_behind m_number m_letters m_word a_c a_words m_markMany a_there a_tried a_best a_found m_thereMany m_foundMany m_orderHow m_orderRing m_orderMany m_hasBest m_bestTop m_bestBy a_weights a_shared m_random m_truePlace m_trueWay m_seconds m_done m_feelings m_tries m_leftOver m_playDoor m_playRing m_isOpen m_isOver m_wasTried m_hasPlayed a_feltNow a_last a_kept m_hasSeconds m_hasTurned m_hasRound a_hasFeels a_isOn m_firstAct m_meanTop m_meanBy a_order m_rowMany m_newSteps g_numbers t v_1824 (by omega) (z_rgw hr_v_1824 (by decide) (by decide))) lk_RX12_301 ⟨rfl, rfl⟩ ⟨Nat.le_of_ble_eq_true rfl, Nat.le_of_ble_eq_true rfl⟩ 12 rfl rfl rfl [2, 1] [0, 3] rfl rfl (by decide) rfl hl.1 rfl (lv_room (Nat.le_of_ble_eq_true rfl)) dX12_lay_191 ⟨Nat.le_of_ble_eq_true rfl, Nat.le_of_ble_eq_true rfl⟩ (fun r_1852 u_1853 H locs hw hP hD hS => ?_)
                      have hf_1854 := hw
                      have hyl_r_1852 := (hlyE).1 v_1824.toInt.toNat (by omega)
                      rw [← hf_1854] at hyl_r_1852
                      have hk1_r_1852 := z_ct hZ_g_c (z := g_c 1) (i := 1) (by rfl) (a := 1) (b := 1) (lo := 0) (hi := 10) (by decide +kernel) (by decide) (by decide +kernel) (by decide +kernel)
                      have hy9_r_1852 : 0 ≤ r_1852.toInt ∧ r_1852.toInt ≤ 9 := by omega
                      refine lv_l2i (v := (r_1852).toInt32) hx hb dX12_lay_194 rfl ?_
                      refine lv_topi (fun x_1855 he_x_1855 => ?_)
                      have hq_x_1855 := z_l2i he_x_1855 (by omega) (by omega)
                      refine z_iast hx hb hK hP hD hS 1 0 rfl rfl (z_inN (by omega) (by omega)) dX12_lay_195 (fun g_1856 hg_g_1856 H locs hP hD hS => ?_)
                      have hC_g_1856 := z_ctUt hC_g_1825 hg_g_1856 (a := 98) (b := 127) (lo := 0) (hi := 9) (by decide +kernel) (by omega) (by omega) (by omega)
                      have hw_g_1856_1 := z_cwo hg_g_1856 (k := 1) (by omega) (by omega)
                      have hw_g_1856_2 := z_cwo hg_g_1856 (k := 2) (by omega) (by omega)
                      obtain ⟨x_1857, he_x_1857⟩ : ∃ z : Int32, z = v_1824 + 1 := ⟨_, rfl⟩
                      have hq_x_1857 := z_addq he_x_1857 (rfl : v_1824.toInt = _) hk_1 (by omega) (by omega)
                      refine lv_iinc (v := x_1857) (lv' := [(4, .int x_1857), (0, .ref h0), (1, .int r), (2, .int t), (3, .int x_18)]) hx hb dX12_lay_196 hl (k := 4) rfl ((z_ofi (by decide +kernel)).trans he_x_1857.symm) (by decide) rfl (fun ls hl => ?_)
                      refine lv_goto (tgt := 167) hx hb dX12_lay_199 (by decide) ?_
                      have hP := hP.sub (ws' := [(a_trayMany, .inl (cA.1 0, 4, .inl g_trayMany)), (a_numbers, .inl (cA.1 1, 240, .inr (.inl g_numbers))), (h0, .inr (12, [.int 0, .int 0, .long m_above, .long m_under, .ref a_traySort, .ref a_trayMany, .ref a_numbers, .ref a_tape, .int m_taped, .int m_textEnd, .int m_faultKind, .int m_faultAt, .int m_bad, .int m_badAt, .int m_token, .int m_at, .int m_behind, .int m_number, .int m_letters, .long m_word, .ref a_c, .ref a_words, .int m_markMany, .ref a_there, .ref a_tried, .ref a_best, .ref a_found, .int m_thereMany, .int m_foundMany, .int m_orderHow, .int m_orderRing, .int m_orderMany, .int m_hasBest, .long m_bestTop, .long m_bestBy, .ref a_weights, .ref a_shared, .int m_random, .int m_truePlace, .int m_trueWay, .int m_seconds, .int m_done, .int m_feelings, .int m_tries, .int m_leftOver, .int m_playDoor, .int m_playRing, .int m_isOpen, .int m_isOver, .int m_wasTried, .int m_hasPlayed, .ref a_feltNow, .ref a_last, .ref a_kept, .int m_hasSeconds, .int m_hasTurned, .int m_hasRound, .ref a_hasFeels, .ref a_isOn, .int m_firstAct, .long m_meanTop, .long m_meanBy, .ref a_order, .int m_rowMany, .int m_newSteps])), (a_c, .inl (cA.1 0, 1825, .inl g_1856))]) [0, 3, 2, 1] rfl
                      have hD := hD.sub (ws' := [(a_trayMany, .inl (cA.1 0, 4, .inl g_trayMany)), (a_numbers, .inl (cA.1 1, 240, .inr (.inl g_numbers))), (h0, .inr (12, [.int 0, .int 0, .long m_above, .long m_under, .ref a_traySort, .ref a_trayMany, .ref a_numbers, .ref a_tape, .int m_taped, .int m_textEnd, .int m_faultKind, .int m_faultAt, .int m_bad, .int m_badAt, .int m_token, .int m_at, .int m_behind, .int m_number, .int m_letters, .long m_word, .ref a_c, .ref a_words, .int m_markMany, .ref a_there, .ref a_tried, .ref a_best, .ref a_found, .int m_thereMany, .int m_foundMany, .int m_orderHow, .int m_orderRing, .int m_orderMany, .int m_hasBest, .long m_bestTop, .long m_bestBy, .ref a_weights, .ref a_shared, .int m_random, .int m_truePlace, .int m_trueWay, .int m_seconds, .int m_done, .int m_feelings, .int m_tries, .int m_leftOver, .int m_playDoor, .int m_playRing, .int m_isOpen, .int m_isOver, .int m_wasTried, .int m_hasPlayed, .ref a_feltNow, .ref a_last, .ref a_kept, .int m_hasSeconds, .int m_hasTurned, .int m_hasRound, .ref a_hasFeels, .ref a_isOn, .int m_firstAct, .long m_meanTop, .long m_meanBy, .ref a_order, .int m_rowMany, .int m_newSteps])), (a_c, .inl (cA.1 0, 1825, .inl g_1856))]) [0, 3, 2, 1] (by decide) rfl
                      exact ih_1841 x_1857 g_1856 H locs ls (by omega) (by omega) hC_g_1856 (by rw [hq_x_1857]; exact zLw_step hi_1838 hg_g_1856 (by omega) hf_1854 (by omega) (by omega) (by omega) (by omega) (by omega)) (by omega) hP hD hS (lv_sub hl [1, 2, 3, 4, 0] rfl)
                exact hlp_1840 _ 0 g_c _ _ _ (Nat.lt_succ_self _) (by decide +kernel) hC_g_c zLw_0 (by omega) hP hD hS (lv_sub hl [1, 2, 3, 4, 0] rfl)
              · have b_1858 := z_fltF c_1671
                refine lv_aload_n hx hb dX12_lay_88 rfl (lv_at hl 0 rfl) ?_
                refine lv_iload_n hx hb dX12_lay_89 rfl (lv_at hl 2 rfl) ?_
                refine lv_iload hx hb dX12_lay_90 (lv_at hl 4 rfl) ?_
                refine z_callVl (As := [.int t, .int v_1474]) (rest := []) (wr := [(a_trayMany, .inl (cA.1 0, 4, .inl g_trayMany)), (a_c, .inl (cA.1 0, 1825, .inl g_c))]) ⟨hx, hb, hml, hown, hts⟩ hK hE hT hP hD hS hA (r_numberOf l G cA h0 0 0 m_above m_under a_traySort a_trayMany a_numbers a_tape m_taped m_textEnd m_faultKind m_faultAt m_bad m_badAt m_token m_at m_behind m_number m_letters m_word a_c a_words m_markMany a_there a_tried a_best a_found m_thereMany m_foundMany m_orderHow m_orderRing m_orderMany m_hasBest m_bestTop m_bestBy a_weights a_shared m_random m_truePlace m_trueWay m_seconds m_done m_feelings m_tries m_leftOver m_playDoor m_playRing m_isOpen m_isOver m_wasTried m_hasPlayed a_feltNow a_last a_kept m_hasSeconds m_hasTurned m_hasRound a_hasFeels a_isOn m_firstAct m_meanTop m_meanBy a_order m_rowMany m_newSteps g_numbers t v_1474 (by omega) (z_rgw hr_v_1474 (by decide) (by decide))) lk_RX12_301 ⟨rfl, rfl⟩ ⟨Nat.le_of_ble_eq_true rfl, Nat.le_of_ble_eq_true rfl⟩ 12 rfl rfl rfl [2, 1] [0, 3] rfl rfl (by decide) rfl hl.1 rfl (lv_room (Nat.le_of_ble_eq_true rfl)) dX12_lay_92 ⟨Nat.le_of_ble_eq_true rfl, Nat.le_of_ble_eq_true rfl⟩ (fun r_1859 u_1860 H locs hw hP hD hS => ?_)
                have hf_1861 := hw
                refine lv_lstore (lv' := [(5, .long r_1859), (0, .ref h0), (1, .int r), (2, .int t), (3, .int x_18), (4, .int v_1474)]) hx hb dX12_lay_95 hl (by decide) rfl (fun ls hl => ?_)
                refine lv_aload_n hx hb dX12_lay_97 rfl (lv_at hl 1 rfl) ?_
                refine lv_lload hx hb dX12_lay_98 (lv_at hl 0 rfl) ?_
                refine z_callVi (As := [.long r_1859]) (rest := []) (wr := [(a_trayMany, .inl (cA.1 0, 4, .inl g_trayMany)), (a_numbers, .inl (cA.1 1, 240, .inr (.inl g_numbers)))]) ⟨hx, hb, hml, hown, hts⟩ hK hE hT hP hD hS hA (r_isKey l G cA h0 0 0 m_above m_under a_traySort a_trayMany a_numbers a_tape m_taped m_textEnd m_faultKind m_faultAt m_bad m_badAt m_token m_at m_behind m_number m_letters m_word a_c a_words m_markMany a_there a_tried a_best a_found m_thereMany m_foundMany m_orderHow m_orderRing m_orderMany m_hasBest m_bestTop m_bestBy a_weights a_shared m_random m_truePlace m_trueWay m_seconds m_done m_feelings m_tries m_leftOver m_playDoor m_playRing m_isOpen m_isOver m_wasTried m_hasPlayed a_feltNow a_last a_kept m_hasSeconds m_hasTurned m_hasRound a_hasFeels a_isOn m_firstAct m_meanTop m_meanBy a_order m_rowMany m_newSteps g_c r_1859 hZ_g_c) lk_RX12_275 ⟨rfl, rfl⟩ ⟨Nat.le_of_ble_eq_true rfl, Nat.le_of_ble_eq_true rfl⟩ 12 rfl rfl rfl [2, 1] [0, 3] rfl rfl (by decide) rfl hl.1 rfl (lv_room (Nat.le_of_ble_eq_true rfl)) dX12_lay_100 ⟨Nat.le_of_ble_eq_true rfl, Nat.le_of_ble_eq_true rfl⟩ (fun r_1862 u_1863 H locs hw hP hD hS => ?_)
                rcases hw with ⟨rfl, -⟩ | ⟨rfl, hf_1864, hf_1865⟩
                · skip
                  refine lv_if_eq (tgt := 117) hx hb dX12_lay_103 (by decide) (fun _ => ?_) (fun h9 => absurd (by decide +kernel) h9)
                  refine lv_aload_n hx hb dX12_lay_117 rfl (lv_at hl 1 rfl) ?_
                  refine lv_iconst (v := 5) hx hb dX12_lay_118 (by decide) ?_
                  refine z_callVi (As := [.int 5]) (rest := []) (wr := [(a_trayMany, .inl (cA.1 0, 4, .inl g_trayMany)), (a_numbers, .inl (cA.1 1, 240, .inr (.inl g_numbers))), (a_c, .inl (cA.1 0, 1825, .inl g_c))]) ⟨hx, hb, hml, hown, hts⟩ hK hE hT hP hD hS hA (r_no l G cA h0 0 0 m_above m_under a_traySort a_trayMany a_numbers a_tape m_taped m_textEnd m_faultKind m_faultAt m_bad m_badAt m_token m_at m_behind m_number m_letters m_word a_c a_words m_markMany a_there a_tried a_best a_found m_thereMany m_foundMany m_orderHow m_orderRing m_orderMany m_hasBest m_bestTop m_bestBy a_weights a_shared m_random m_truePlace m_trueWay m_seconds m_done m_feelings m_tries m_leftOver m_playDoor m_playRing m_isOpen m_isOver m_wasTried m_hasPlayed a_feltNow a_last a_kept m_hasSeconds m_hasTurned m_hasRound a_hasFeels a_isOn m_firstAct m_meanTop m_meanBy a_order m_rowMany m_newSteps 5) lk_RX12_97 ⟨rfl, rfl⟩ ⟨Nat.le_of_ble_eq_true rfl, Nat.le_of_ble_eq_true rfl⟩ 12 rfl rfl rfl [2] [0, 1, 3] rfl rfl (by decide) rfl hl.1 rfl (lv_room (Nat.le_of_ble_eq_true rfl)) dX12_lay_119 ⟨Nat.le_of_ble_eq_true rfl, Nat.le_of_ble_eq_true rfl⟩ (fun r_1867 u_1868 H locs hw hP hD hS => ?_)
                  obtain ⟨n_1866, rfl⟩ : ∃ z, z = u_1868 := ⟨_, rfl⟩
                  obtain ⟨he_r_1867, he_n_1866, hw⟩ := hw
                  obtain ⟨rfl, -⟩ := hw
                  have hpost : ((0 : Int32) = 0 ∧ (0 ≤ (0 : Int32).toInt ∧ (0 : Int32).toInt ≤ 0) ∧ (zC g_c)) ∨ ((0 : Int32) = 1 ∧ (0 ≤ n_1866.toInt ∧ n_1866.toInt ≤ 0) ∧ (0 ≤ (0 : Int32).toInt ∧ (0 : Int32).toInt ≤ 0) ∧ (zC g_c)) := (Or.inl ⟨rfl, ⟨(by decide +kernel), hZ_g_c⟩⟩)
                  exact hret _ _ _ _ _ _ (n_1866, 0, g_c) [3, 0, 1, 2] hP hD hS rfl (by decide) dX12_lay_122 (Or.inl rfl) hpost
                · skip
                  refine lv_if_eq (tgt := 117) hx hb dX12_lay_103 (by decide) (fun h9 => absurd h9 (by decide +kernel)) (fun _ => ?_)
                  refine lv_aload_n hx hb dX12_lay_106 rfl (lv_at hl 1 rfl) ?_
                  refine lv_lload hx hb dX12_lay_107 (lv_at hl 0 rfl) ?_
                  refine lv_l2i (v := (r_1859).toInt32) hx hb dX12_lay_109 rfl ?_
                  refine lv_topi (fun x_1869 he_x_1869 => ?_)
                  have hq_x_1869 := z_l2i he_x_1869 (by omega) (by omega)
                  refine z_callVi (As := [.int x_1869]) (rest := []) (wr := [(a_trayMany, .inl (cA.1 0, 4, .inl g_trayMany)), (a_numbers, .inl (cA.1 1, 240, .inr (.inl g_numbers)))]) ⟨hx, hb, hml, hown, hts⟩ hK hE hT hP hD hS hA (r_ringOf l G cA h0 0 0 m_above m_under a_traySort a_trayMany a_numbers a_tape m_taped m_textEnd m_faultKind m_faultAt m_bad m_badAt m_token m_at m_behind m_number m_letters m_word a_c a_words m_markMany a_there a_tried a_best a_found m_thereMany m_foundMany m_orderHow m_orderRing m_orderMany m_hasBest m_bestTop m_bestBy a_weights a_shared m_random m_truePlace m_trueWay m_seconds m_done m_feelings m_tries m_leftOver m_playDoor m_playRing m_isOpen m_isOver m_wasTried m_hasPlayed a_feltNow a_last a_kept m_hasSeconds m_hasTurned m_hasRound a_hasFeels a_isOn m_firstAct m_meanTop m_meanBy a_order m_rowMany m_newSteps g_c x_1869 (by omega) hZ_g_c) lk_RX12_278 ⟨rfl, rfl⟩ ⟨Nat.le_of_ble_eq_true rfl, Nat.le_of_ble_eq_true rfl⟩ 12 rfl rfl rfl [2, 3] [0, 1] rfl rfl (by decide) rfl hl.1 rfl (lv_room (Nat.le_of_ble_eq_true rfl)) dX12_lay_110 ⟨Nat.le_of_ble_eq_true rfl, Nat.le_of_ble_eq_true rfl⟩ (fun r_1870 u_1871 H locs hw hP hD hS => ?_)
                  obtain ⟨hr_r_1870, hf_1872⟩ := hw
                  refine lv_iload_n hx hb dX12_lay_113 rfl (lv_at hl 2 rfl) ?_
                  refine lv_icmp_eq (tgt := 123) hx hb dX12_lay_114 (by decide) (fun c_1873 => ?_) (fun c_1873 => ?_)
                  · have b_1874 := z_feqT c_1873
                    refine lv_iconst (v := 0) hx hb dX12_lay_123 (by decide) ?_
                    refine lv_istore (lv' := [(7, .int 0), (5, .long r_1859), (0, .ref h0), (1, .int r), (2, .int t), (3, .int x_18), (4, .int v_1474)]) hx hb dX12_lay_124 hl (by decide) rfl (fun ls hl => ?_)
                    have hlp_2028 : ∀ (n : Nat) (v_2013 : Int32) (H : Heap) (locs : List Loc) (ls : Array Slot), (2147483647 - v_2013.toInt).toNat < n → (0 ≤ v_2013.toInt ∧ v_2013.toInt ≤ 9) → (zLz g_numbers t.toInt r_1859.toInt v_2013.toInt) → va_P G vwCl [(a_trayMany, .inl (cA.1 0, 4, .inl g_trayMany)), (a_numbers, .inl (cA.1 1, 240, .inr (.inl g_numbers))), (h0, .inr (12, [.int 0, .int 0, .long m_above, .long m_under, .ref a_traySort, .ref a_trayMany, .ref a_numbers, .ref a_tape, .int m_taped, .int m_textEnd, .int m_faultKind, .int m_faultAt, .int m_bad, .int m_badAt, .int m_token, .int m_at, .int m_behind, .int m_number, .int m_letters, .long m_word, .ref a_c, .ref a_words, .int m_markMany, .ref a_there, .ref a_tried, .ref a_best, .ref a_found, .int m_thereMany, .int m_foundMany, .int m_orderHow, .int m_orderRing, .int m_orderMany, .int m_hasBest, .long m_bestTop, .long m_bestBy, .ref a_weights, .ref a_shared, .int m_random, .int m_truePlace, .int m_trueWay, .int m_seconds, .int m_done, .int m_feelings, .int m_tries, .int m_leftOver, .int m_playDoor, .int m_playRing, .int m_isOpen, .int m_isOver, .int m_wasTried, .int m_hasPlayed, .ref a_feltNow, .ref a_last, .ref a_kept, .int m_hasSeconds, .int m_hasTurned, .int m_hasRound, .ref a_hasFeels, .ref a_isOn, .int m_firstAct, .long m_meanTop, .long m_meanBy, .ref a_order, .int m_rowMany, .int m_newSteps])), (a_c, .inl (cA.1 0, 1825, .inl g_c))] H → va_D A [(a_trayMany, .inl (cA.1 0, 4, .inl g_trayMany)), (a_numbers, .inl (cA.1 1, 240, .inr (.inl g_numbers))), (h0, .inr (12, [.int 0, .int 0, .long m_above, .long m_under, .ref a_traySort, .ref a_trayMany, .ref a_numbers, .ref a_tape, .int m_taped, .int m_textEnd, .int m_faultKind, .int m_faultAt, .int m_bad, .int m_badAt, .int m_token, .int m_at, .int m_behind, .int m_number, .int m_letters, .long m_word, .ref a_c, .ref a_words, .int m_markMany, .ref a_there, .ref a_tried, .ref a_best, .ref a_found, .int m_thereMany, .int m_foundMany, .int m_orderHow, .int m_orderRing, .int m_orderMany, .int m_hasBest, .long m_bestTop, .long m_bestBy, .ref a_weights, .ref a_shared, .int m_random, .int m_truePlace, .int m_trueWay, .int m_seconds, .int m_done, .int m_feelings, .int m_tries, .int m_leftOver, .int m_playDoor, .int m_playRing, .int m_isOpen, .int m_isOver, .int m_wasTried, .int m_hasPlayed, .ref a_feltNow, .ref a_last, .ref a_kept, .int m_hasSeconds, .int m_hasTurned, .int m_hasRound, .ref a_hasFeels, .ref a_isOn, .int m_firstAct, .long m_meanTop, .long m_meanBy, .ref a_order, .int m_rowMany, .int m_newSteps])), (a_c, .inl (cA.1 0, 1825, .inl g_c))] → va_S A s.heap H locs → lv_has ls 8 [(0, .ref h0), (1, .int r), (2, .int t), (3, .int x_18), (4, .int v_1474), (5, .long r_1859), (7, .int v_2013)] → W p l e ({ frames := 2, cells := 0, slots := 0, locals := 47 }) s m args below meth c H locs 0 0 Q (F0 m 126 ls []) := by
                      intro n
                      induction n with
                      | zero =>
                        intro v_2013 H locs ls hmu_hlp_2028 hr_v_2013 hi_2027 hP hD hS hl
                        exact absurd hmu_hlp_2028 (Nat.not_lt_zero _)
                      | succ n ih_2029 =>
                        intro v_2013 H locs ls hmu_hlp_2028 hr_v_2013 hi_2027 hP hD hS hl
                        refine lv_iload hx hb dX12_lay_126 (lv_at hl 6 rfl) ?_
                        refine lv_iload hx hb dX12_lay_128 (lv_at hl 4 rfl) ?_
                        refine lv_icmp_ge (tgt := 158) hx hb dX12_lay_130 (by decide) (fun c_2030 => ?_) (fun c_2030 => ?_)
                        · have b_2031 := z_fgeT c_2030
                          obtain ⟨x_2032, he_x_2032⟩ : ∃ z : Int32, z = v_1474 + 1 := ⟨_, rfl⟩
                          have hq_x_2032 := z_addq he_x_2032 (rfl : v_1474.toInt = _) hk_1 (by omega) (by omega)
                          refine lv_iinc (v := x_2032) (lv' := [(4, .int x_2032), (0, .ref h0), (1, .int r), (2, .int t), (3, .int x_18), (5, .long r_1859), (7, .int v_2013)]) hx hb dX12_lay_158 hl (k := 4) rfl ((z_ofi (by decide +kernel)).trans he_x_2032.symm) (by decide) rfl (fun ls hl => ?_)
                          refine lv_goto (tgt := 82) hx hb dX12_lay_161 (by decide) ?_
                          exact ih_1670 x_2032 H locs ls (by omega) (by omega) (by rw [hq_x_2032]; exact zLy_step hi_1667 hf_1861 (by omega) (by omega) (by omega) (by omega) hi_2027 (by omega)) (by omega) hP hD hS (lv_sub hl [1, 2, 3, 4, 0] rfl)
                        · have b_2033 := z_fltF c_2030
                          refine lv_aload_n hx hb dX12_lay_133 rfl (lv_at hl 0 rfl) ?_
                          refine lv_iload_n hx hb dX12_lay_134 rfl (lv_at hl 2 rfl) ?_
                          refine lv_iload hx hb dX12_lay_135 (lv_at hl 6 rfl) ?_
                          refine z_callVl (As := [.int t, .int v_2013]) (rest := []) (wr := [(a_trayMany, .inl (cA.1 0, 4, .inl g_trayMany)), (a_c, .inl (cA.1 0, 1825, .inl g_c))]) ⟨hx, hb, hml, hown, hts⟩ hK hE hT hP hD hS hA (r_numberOf l G cA h0 0 0 m_above m_under a_traySort a_trayMany a_numbers a_tape m_taped m_textEnd m_faultKind m_faultAt m_bad m_badAt m_token m_at m_behind m_number m_letters m_word a_c a_words m_markMany a_there a_tried a_best a_found m_thereMany m_foundMany m_orderHow m_orderRing m_orderMany m_hasBest m_bestTop m_bestBy a_weights a_shared m_random m_truePlace m_trueWay m_seconds m_done m_feelings m_tries m_leftOver m_playDoor m_playRing m_isOpen m_isOver m_wasTried m_hasPlayed a_feltNow a_last a_kept m_hasSeconds m_hasTurned m_hasRound a_hasFeels a_isOn m_firstAct m_meanTop m_meanBy a_order m_rowMany m_newSteps g_numbers t v_2013 (by omega) (z_rgw hr_v_2013 (by decide) (by decide))) lk_RX12_301 ⟨rfl, rfl⟩ ⟨Nat.le_of_ble_eq_true rfl, Nat.le_of_ble_eq_true rfl⟩ 12 rfl rfl rfl [2, 1] [0, 3] rfl rfl (by decide) rfl hl.1 rfl (lv_room (Nat.le_of_ble_eq_true rfl)) dX12_lay_137 ⟨Nat.le_of_ble_eq_true rfl, Nat.le_of_ble_eq_true rfl⟩ (fun r_2034 u_2035 H locs hw hP hD hS => ?_)
                          have hf_2036 := hw
                          refine lv_lload hx hb dX12_lay_140 (lv_at hl 5 rfl) ?_
                          refine W.lcmp hx hb dX12_lay_142 ?_
                          refine lv_if_ne (tgt := 152) hx hb dX12_lay_143 (by decide) (fun c_2037 => ?_) (fun c_2037 => ?_)
                          · have b_2038 := z_fneTl c_2037
                            obtain ⟨x_2039, he_x_2039⟩ : ∃ z : Int32, z = v_2013 + 1 := ⟨_, rfl⟩
                            have hq_x_2039 := z_addq he_x_2039 (rfl : v_2013.toInt = _) hk_1 (by omega) (by omega)
                            refine lv_iinc (v := x_2039) (lv' := [(7, .int x_2039), (0, .ref h0), (1, .int r), (2, .int t), (3, .int x_18), (4, .int v_1474), (5, .long r_1859)]) hx hb dX12_lay_152 hl (k := 6) rfl ((z_ofi (by decide +kernel)).trans he_x_2039.symm) (by decide) rfl (fun ls hl => ?_)
                            refine lv_goto (tgt := 126) hx hb dX12_lay_155 (by decide) ?_
                            have hP := hP.sub (ws' := [(a_trayMany, .inl (cA.1 0, 4, .inl g_trayMany)), (a_numbers, .inl (cA.1 1, 240, .inr (.inl g_numbers))), (h0, .inr (12, [.int 0, .int 0, .long m_above, .long m_under, .ref a_traySort, .ref a_trayMany, .ref a_numbers, .ref a_tape, .int m_taped, .int m_textEnd, .int m_faultKind, .int m_faultAt, .int m_bad, .int m_badAt, .int m_token, .int m_at, .int m_behind, .int m_number, .int m_letters, .long m_word, .ref a_c, .ref a_words, .int m_markMany, .ref a_there, .ref a_tried, .ref a_best, .ref a_found, .int m_thereMany, .int m_foundMany, .int m_orderHow, .int m_orderRing, .int m_orderMany, .int m_hasBest, .long m_bestTop, .long m_bestBy, .ref a_weights, .ref a_shared, .int m_random, .int m_truePlace, .int m_trueWay, .int m_seconds, .int m_done, .int m_feelings, .int m_tries, .int m_leftOver, .int m_playDoor, .int m_playRing, .int m_isOpen, .int m_isOver, .int m_wasTried, .int m_hasPlayed, .ref a_feltNow, .ref a_last, .ref a_kept, .int m_hasSeconds, .int m_hasTurned, .int m_hasRound, .ref a_hasFeels, .ref a_isOn, .int m_firstAct, .long m_meanTop, .long m_meanBy, .ref a_order, .int m_rowMany, .int m_newSteps])), (a_c, .inl (cA.1 0, 1825, .inl g_c))]) [0, 3, 2, 1] rfl
                            have hD := hD.sub (ws' := [(a_trayMany, .inl (cA.1 0, 4, .inl g_trayMany)), (a_numbers, .inl (cA.1 1, 240, .inr (.inl g_numbers))), (h0, .inr (12, [.int 0, .int 0, .long m_above, .long m_under, .ref a_traySort, .ref a_trayMany, .ref a_numbers, .ref a_tape, .int m_taped, .int m_textEnd, .int m_faultKind, .int m_faultAt, .int m_bad, .int m_badAt, .int m_token, .int m_at, .int m_behind, .int m_number, .int m_letters, .long m_word, .ref a_c, .ref a_words, .int m_markMany, .ref a_there, .ref a_tried, .ref a_best, .ref a_found, .int m_thereMany, .int m_foundMany, .int m_orderHow, .int m_orderRing, .int m_orderMany, .int m_hasBest, .long m_bestTop, .long m_bestBy, .ref a_weights, .ref a_shared, .int m_random, .int m_truePlace, .int m_trueWay, .int m_seconds, .int m_done, .int m_feelings, .int m_tries, .int m_leftOver, .int m_playDoor, .int m_playRing, .int m_isOpen, .int m_isOver, .int m_wasTried, .int m_hasPlayed, .ref a_feltNow, .ref a_last, .ref a_kept, .int m_hasSeconds, .int m_hasTurned, .int m_hasRound, .ref a_hasFeels, .ref a_isOn, .int m_firstAct, .long m_meanTop, .long m_meanBy, .ref a_order, .int m_rowMany, .int m_newSteps])), (a_c, .inl (cA.1 0, 1825, .inl g_c))]) [0, 3, 2, 1] (by decide) rfl
                            exact ih_2029 x_2039 H locs ls (by omega) (by omega) (by rw [hq_x_2039]; exact zLz_step hi_2027 hf_2036 (by omega) (by omega) (by omega) (by omega)) hP hD hS (lv_sub hl [1, 2, 3, 4, 5, 6, 0] rfl)
                          · have b_2040 := z_feqFl c_2037
                            refine lv_aload_n hx hb dX12_lay_146 rfl (lv_at hl 0 rfl) ?_
                            refine lv_iconst (v := 5) hx hb dX12_lay_147 (by decide) ?_
                            refine z_callVi (As := [.int 5]) (rest := []) (wr := [(a_trayMany, .inl (cA.1 0, 4, .inl g_trayMany)), (a_c, .inl (cA.1 0, 1825, .inl g_c)), (a_numbers, .inl (cA.1 1, 240, .inr (.inl g_numbers)))]) ⟨hx, hb, hml, hown, hts⟩ hK hE hT hP hD hS hA (r_no l G cA h0 0 0 m_above m_under a_traySort a_trayMany a_numbers a_tape m_taped m_textEnd m_faultKind m_faultAt m_bad m_badAt m_token m_at m_behind m_number m_letters m_word a_c a_words m_markMany a_there a_tried a_best a_found m_thereMany m_foundMany m_orderHow m_orderRing m_orderMany m_hasBest m_bestTop m_bestBy a_weights a_shared m_random m_truePlace m_trueWay m_seconds m_done m_feelings m_tries m_leftOver m_playDoor m_playRing m_isOpen m_isOver m_wasTried m_hasPlayed a_feltNow a_last a_kept m_hasSeconds m_hasTurned m_hasRound a_hasFeels a_isOn m_firstAct m_meanTop m_meanBy a_order m_rowMany m_newSteps 5) lk_RX12_97 ⟨rfl, rfl⟩ ⟨Nat.le_of_ble_eq_true rfl, Nat.le_of_ble_eq_true rfl⟩ 12 rfl rfl rfl [2] [0, 1, 3] rfl rfl (by decide) rfl hl.1 rfl (lv_room (Nat.le_of_ble_eq_true rfl)) dX12_lay_148 ⟨Nat.le_of_ble_eq_true rfl, Nat.le_of_ble_eq_true rfl⟩ (fun r_2042 u_2043 H locs hw hP hD hS => ?_)
                            obtain ⟨n_2041, rfl⟩ : ∃ z, z = u_2043 := ⟨_, rfl⟩
                            obtain ⟨he_r_2042, he_n_2041, hw⟩ := hw
                            obtain ⟨rfl, -⟩ := hw
                            have hpost : ((0 : Int32) = 0 ∧ (0 ≤ (0 : Int32).toInt ∧ (0 : Int32).toInt ≤ 0) ∧ (zC g_c)) ∨ ((0 : Int32) = 1 ∧ (0 ≤ n_2041.toInt ∧ n_2041.toInt ≤ 0) ∧ (0 ≤ (0 : Int32).toInt ∧ (0 : Int32).toInt ≤ 0) ∧ (zC g_c)) := (Or.inl ⟨rfl, ⟨(by decide +kernel), hZ_g_c⟩⟩)
                            exact hret _ _ _ _ _ _ (n_2041, 0, g_c) [3, 0, 2, 1] hP hD hS rfl (by decide) dX12_lay_151 (Or.inl rfl) hpost
                    exact hlp_2028 _ 0 _ _ _ (Nat.lt_succ_self _) (by decide +kernel) zLz_0 hP hD hS (lv_sub hl [2, 3, 4, 5, 6, 1, 0] rfl)
                  · have b_2044 := z_fneF c_1873
                    refine lv_aload_n hx hb dX12_lay_117 rfl (lv_at hl 1 rfl) ?_
                    refine lv_iconst (v := 5) hx hb dX12_lay_118 (by decide) ?_
                    refine z_callVi (As := [.int 5]) (rest := []) (wr := [(a_trayMany, .inl (cA.1 0, 4, .inl g_trayMany)), (a_numbers, .inl (cA.1 1, 240, .inr (.inl g_numbers))), (a_c, .inl (cA.1 0, 1825, .inl g_c))]) ⟨hx, hb, hml, hown, hts⟩ hK hE hT hP hD hS hA (r_no l G cA h0 0 0 m_above m_under a_traySort a_trayMany a_numbers a_tape m_taped m_textEnd m_faultKind m_faultAt m_bad m_badAt m_token m_at m_behind m_number m_letters m_word a_c a_words m_markMany a_there a_tried a_best a_found m_thereMany m_foundMany m_orderHow m_orderRing m_orderMany m_hasBest m_bestTop m_bestBy a_weights a_shared m_random m_truePlace m_trueWay m_seconds m_done m_feelings m_tries m_leftOver m_playDoor m_playRing m_isOpen m_isOver m_wasTried m_hasPlayed a_feltNow a_last a_kept m_hasSeconds m_hasTurned m_hasRound a_hasFeels a_isOn m_firstAct m_meanTop m_meanBy a_order m_rowMany m_newSteps 5) lk_RX12_97 ⟨rfl, rfl⟩ ⟨Nat.le_of_ble_eq_true rfl, Nat.le_of_ble_eq_true rfl⟩ 12 rfl rfl rfl [2] [0, 1, 3] rfl rfl (by decide) rfl hl.1 rfl (lv_room (Nat.le_of_ble_eq_true rfl)) dX12_lay_119 ⟨Nat.le_of_ble_eq_true rfl, Nat.le_of_ble_eq_true rfl⟩ (fun r_2046 u_2047 H locs hw hP hD hS => ?_)
                    obtain ⟨n_2045, rfl⟩ : ∃ z, z = u_2047 := ⟨_, rfl⟩
                    obtain ⟨he_r_2046, he_n_2045, hw⟩ := hw
                    obtain ⟨rfl, -⟩ := hw
                    have hpost : ((0 : Int32) = 0 ∧ (0 ≤ (0 : Int32).toInt ∧ (0 : Int32).toInt ≤ 0) ∧ (zC g_c)) ∨ ((0 : Int32) = 1 ∧ (0 ≤ n_2045.toInt ∧ n_2045.toInt ≤ 0) ∧ (0 ≤ (0 : Int32).toInt ∧ (0 : Int32).toInt ≤ 0) ∧ (zC g_c)) := (Or.inl ⟨rfl, ⟨(by decide +kernel), hZ_g_c⟩⟩)
                    exact hret _ _ _ _ _ _ (n_2045, 0, g_c) [3, 0, 1, 2] hP hD hS rfl (by decide) dX12_lay_122 (Or.inl rfl) hpost
          exact hlp_1669 _ 0 _ _ _ (Nat.lt_succ_self _) (by decide +kernel) zLy_0 (by omega) hP hD hS (lv_sub hl [2, 3, 4, 1, 0] rfl)
        · have b_2048 := z_fltF c_20
          refine lv_aload_n hx hb dX12_lay_73 rfl (lv_at hl 1 rfl) ?_
          refine lv_iconst (v := 4) hx hb dX12_lay_74 (by decide) ?_
          refine z_callVi (As := [.int 4]) (rest := []) (wr := [(a_trayMany, .inl (cA.1 0, 4, .inl g_trayMany)), (a_numbers, .inl (cA.1 1, 240, .inr (.inl g_numbers))), (a_c, .inl (cA.1 0, 1825, .inl g_c))]) ⟨hx, hb, hml, hown, hts⟩ hK hE hT hP hD hS hA (r_no l G cA h0 0 0 m_above m_under a_traySort a_trayMany a_numbers a_tape m_taped m_textEnd m_faultKind m_faultAt m_bad m_badAt m_token m_at m_behind m_number m_letters m_word a_c a_words m_markMany a_there a_tried a_best a_found m_thereMany m_foundMany m_orderHow m_orderRing m_orderMany m_hasBest m_bestTop m_bestBy a_weights a_shared m_random m_truePlace m_trueWay m_seconds m_done m_feelings m_tries m_leftOver m_playDoor m_playRing m_isOpen m_isOver m_wasTried m_hasPlayed a_feltNow a_last a_kept m_hasSeconds m_hasTurned m_hasRound a_hasFeels a_isOn m_firstAct m_meanTop m_meanBy a_order m_rowMany m_newSteps 4) lk_RX12_97 ⟨rfl, rfl⟩ ⟨Nat.le_of_ble_eq_true rfl, Nat.le_of_ble_eq_true rfl⟩ 12 rfl rfl rfl [2] [0, 1, 3] rfl rfl (by decide) rfl hl.1 rfl (lv_room (Nat.le_of_ble_eq_true rfl)) dX12_lay_75 ⟨Nat.le_of_ble_eq_true rfl, Nat.le_of_ble_eq_true rfl⟩ (fun r_2050 u_2051 H locs hw hP hD hS => ?_)
          obtain ⟨n_2049, rfl⟩ : ∃ z, z = u_2051 := ⟨_, rfl⟩
          obtain ⟨he_r_2050, he_n_2049, hw⟩ := hw
          obtain ⟨rfl, -⟩ := hw
          have hpost : ((0 : Int32) = 0 ∧ (0 ≤ (0 : Int32).toInt ∧ (0 : Int32).toInt ≤ 0) ∧ (zC g_c)) ∨ ((0 : Int32) = 1 ∧ (0 ≤ n_2049.toInt ∧ n_2049.toInt ≤ 0) ∧ (0 ≤ (0 : Int32).toInt ∧ (0 : Int32).toInt ≤ 0) ∧ (zC g_c)) := (Or.inl ⟨rfl, ⟨(by decide +kernel), hZ_g_c⟩⟩)
          exact hret _ _ _ _ _ _ (n_2049, 0, g_c) [3, 0, 1, 2] hP hD hS rfl (by decide) dX12_lay_78 (Or.inl rfl) hpost
      · have b_2052 := z_fltF c_15
        refine lv_aload_n hx hb dX12_lay_47 rfl (lv_at hl 0 rfl) ?_
        refine lv_iconst (v := 3) hx hb dX12_lay_48 (by decide) ?_
        refine z_callVi (As := [.int 3]) (rest := []) (wr := [(a_trayMany, .inl (cA.1 0, 4, .inl g_trayMany)), (a_numbers, .inl (cA.1 1, 240, .inr (.inl g_numbers))), (a_c, .inl (cA.1 0, 1825, .inl g_c))]) ⟨hx, hb, hml, hown, hts⟩ hK hE hT hP hD hS hA (r_no l G cA h0 0 0 m_above m_under a_traySort a_trayMany a_numbers a_tape m_taped m_textEnd m_faultKind m_faultAt m_bad m_badAt m_token m_at m_behind m_number m_letters m_word a_c a_words m_markMany a_there a_tried a_best a_found m_thereMany m_foundMany m_orderHow m_orderRing m_orderMany m_hasBest m_bestTop m_bestBy a_weights a_shared m_random m_truePlace m_trueWay m_seconds m_done m_feelings m_tries m_leftOver m_playDoor m_playRing m_isOpen m_isOver m_wasTried m_hasPlayed a_feltNow a_last a_kept m_hasSeconds m_hasTurned m_hasRound a_hasFeels a_isOn m_firstAct m_meanTop m_meanBy a_order m_rowMany m_newSteps 3) lk_RX12_97 ⟨rfl, rfl⟩ ⟨Nat.le_of_ble_eq_true rfl, Nat.le_of_ble_eq_true rfl⟩ 12 rfl rfl rfl [2] [0, 1, 3] rfl rfl (by decide) rfl hl.1 rfl (lv_room (Nat.le_of_ble_eq_true rfl)) dX12_lay_49 ⟨Nat.le_of_ble_eq_true rfl, Nat.le_of_ble_eq_true rfl⟩ (fun r_2054 u_2055 H locs hw hP hD hS => ?_)
        obtain ⟨n_2053, rfl⟩ : ∃ z, z = u_2055 := ⟨_, rfl⟩
        obtain ⟨he_r_2054, he_n_2053, hw⟩ := hw
        obtain ⟨rfl, -⟩ := hw
        have hpost : ((0 : Int32) = 0 ∧ (0 ≤ (0 : Int32).toInt ∧ (0 : Int32).toInt ≤ 0) ∧ (zC g_c)) ∨ ((0 : Int32) = 1 ∧ (0 ≤ n_2053.toInt ∧ n_2053.toInt ≤ 0) ∧ (0 ≤ (0 : Int32).toInt ∧ (0 : Int32).toInt ≤ 0) ∧ (zC g_c)) := (Or.inl ⟨rfl, ⟨(by decide +kernel), hZ_g_c⟩⟩)
        exact hret _ _ _ _ _ _ (n_2053, 0, g_c) [3, 0, 1, 2] hP hD hS rfl (by decide) dX12_lay_52 (Or.inl rfl) hpost
set_option maxHeartbeats 4000000 in
set_option maxRecDepth 100000 in
theorem r_newly (l : Launch) (G : va_G) (cA : zCA) (h0 : Nat) (m_status : Int32) (m_thrown : Int32) (m_above : Int64) (m_under : Int64) (a_traySort : Nat) (a_trayMany : Nat) (a_numbers : Nat) (a_tape : Nat) (m_taped : Int32) (m_textEnd : Int32) (m_faultKind : Int32) (m_faultAt : Int32) (m_bad : Int32) (m_badAt : Int32) (m_token : Int32) (m_at : Int32) (m_behind : Int32) (m_number : Int32) (m_letters : Int32) (m_word : Int64) (a_c : Nat) (a_words : Nat) (m_markMany : Int32) (a_there : Nat) (a_tried : Nat) (a_best : Nat) (a_found : Nat) (m_thereMany : Int32) (m_foundMany : Int32) (m_orderHow : Int32) (m_orderRing : Int32) (m_orderMany : Int32) (m_hasBest : Int32) (m_bestTop : Int64) (m_bestBy : Int64) (a_weights : Nat) (a_shared : Nat) (m_random : Int32) (m_truePlace : Int32) (m_trueWay : Int32) (m_seconds : Int32) (m_done : Int32) (m_feelings : Int32) (m_tries : Int32) (m_leftOver : Int32) (m_playDoor : Int32) (m_playRing : Int32) (m_isOpen : Int32) (m_isOver : Int32) (m_wasTried : Int32) (m_hasPlayed : Int32) (a_feltNow : Nat) (a_last : Nat) (a_kept : Nat) (m_hasSeconds : Int32) (m_hasTurned : Int32) (m_hasRound : Int32) (a_hasFeels : Nat) (a_isOn : Nat) (m_firstAct : Int32) (m_meanTop : Int64) (m_meanBy : Int64) (a_order : Nat) (m_rowMany : Int32) (m_newSteps : Int32) (g_c : Nat → Int32) (g_there : Nat → Int32) (k : Int32) (r : Int32) (d : Int32) (hr_m_thereMany : 0 ≤ m_thereMany.toInt ∧ m_thereMany.toInt ≤ 10) (hr_m_hasBest : 0 ≤ m_hasBest.toInt ∧ m_hasBest.toInt ≤ 1) (hz_m_hasBest : m_hasBest = 0 ∨ m_hasBest = 1) (hC_g_c : zC g_c) (hC_g_there : zRg 10 0 9 g_there) : zCi l yX12_newly cX12_newly 9 (some .int) ({ frames := 3, cells := 0, slots := 0, locals := 69 }) G cA [.ref h0, .int k, .int r, .int d] [(h0, .inr (12, [.int m_status, .int m_thrown, .long m_above, .long m_under, .ref a_traySort, .ref a_trayMany, .ref a_numbers, .ref a_tape, .int m_taped, .int m_textEnd, .int m_faultKind, .int m_faultAt, .int m_bad, .int m_badAt, .int m_token, .int m_at, .int m_behind, .int m_number, .int m_letters, .long m_word, .ref a_c, .ref a_words, .int m_markMany, .ref a_there, .ref a_tried, .ref a_best, .ref a_found, .int m_thereMany, .int m_foundMany, .int m_orderHow, .int m_orderRing, .int m_orderMany, .int m_hasBest, .long m_bestTop, .long m_bestBy, .ref a_weights, .ref a_shared, .int m_random, .int m_truePlace, .int m_trueWay, .int m_seconds, .int m_done, .int m_feelings, .int m_tries, .int m_leftOver, .int m_playDoor, .int m_playRing, .int m_isOpen, .int m_isOver, .int m_wasTried, .int m_hasPlayed, .ref a_feltNow, .ref a_last, .ref a_kept, .int m_hasSeconds, .int m_hasTurned, .int m_hasRound, .ref a_hasFeels, .ref a_isOn, .int m_firstAct, .long m_meanTop, .long m_meanBy, .ref a_order, .int m_rowMany, .int m_newSteps])), (a_c, .inl (cA.1 0, 1825, .inl g_c)), (a_there, .inl (cA.1 0, 10, .inl g_there))] (S := Int32 × Int32 × Int32 × (Nat → Int32) × Int64 × Int64 × Int32 × Int64 × Int64 × (Nat → Int32)) (fun (r : Int32) (u : Int32 × Int32 × Int32 × (Nat → Int32) × Int64 × Int64 × Int32 × Int64 × Int64 × (Nat → Int32)) => ((-1) ≤ r.toInt ∧ r.toInt ≤ 9) ∧ (0 ≤ u.2.1.toInt ∧ u.2.1.toInt ≤ 0) ∧ (0 ≤ u.2.2.1.toInt ∧ u.2.2.1.toInt ≤ 10) ∧ (zRg 10 0 9 u.2.2.2.1) ∧ (u.2.2.2.2.2.2.1 = 0 ∨ u.2.2.2.2.2.2.1 = 1) ∧ (0 ≤ u.2.2.2.2.2.2.1.toInt ∧ u.2.2.2.2.2.2.1.toInt ≤ 1) ∧ (zC u.2.2.2.2.2.2.2.2.2)) (fun (u : Int32 × Int32 × Int32 × (Nat → Int32) × Int64 × Int64 × Int32 × Int64 × Int64 × (Nat → Int32)) => [(h0, .inr (12, [.int u.1, .int u.2.1, .long u.2.2.2.2.1, .long u.2.2.2.2.2.1, .ref a_traySort, .ref a_trayMany, .ref a_numbers, .ref a_tape, .int m_taped, .int m_textEnd, .int m_faultKind, .int m_faultAt, .int m_bad, .int m_badAt, .int m_token, .int m_at, .int m_behind, .int m_number, .int m_letters, .long m_word, .ref a_c, .ref a_words, .int m_markMany, .ref a_there, .ref a_tried, .ref a_best, .ref a_found, .int u.2.2.1, .int m_foundMany, .int m_orderHow, .int m_orderRing, .int m_orderMany, .int u.2.2.2.2.2.2.1, .long u.2.2.2.2.2.2.2.1, .long u.2.2.2.2.2.2.2.2.1, .ref a_weights, .ref a_shared, .int m_random, .int m_truePlace, .int m_trueWay, .int m_seconds, .int m_done, .int m_feelings, .int m_tries, .int m_leftOver, .int m_playDoor, .int m_playRing, .int m_isOpen, .int m_isOver, .int m_wasTried, .int m_hasPlayed, .ref a_feltNow, .ref a_last, .ref a_kept, .int m_hasSeconds, .int m_hasTurned, .int m_hasRound, .ref a_hasFeels, .ref a_isOn, .int m_firstAct, .long m_meanTop, .long m_meanBy, .ref a_order, .int m_rowMany, .int m_newSteps])), (a_c, .inl (cA.1 0, 1825, .inl u.2.2.2.2.2.2.2.2.2)), (a_there, .inl (cA.1 0, 10, .inl u.2.2.2.1))]) 0 0 := by
  have hk_0 : (0 : Int32).toInt = 0 := by decide +kernel
  have hk_1 : (1 : Int32).toInt = 1 := by decide +kernel
  have hk_2 : (2 : Int32).toInt = 2 := by decide +kernel
  have hk_8 : (8 : Int32).toInt = 8 := by decide +kernel
  have hk_9 : (9 : Int32).toInt = 9 := by decide +kernel
  have hk_95 : (95 : Int32).toInt = 95 := by decide +kernel
  have hk_150 : (150 : Int32).toInt = 150 := by decide +kernel
  have hkl_0 : (0 : Int64).toInt = 0 := by decide +kernel
  have hkl_16 : (16 : Int64).toInt = 16 := by decide +kernel
  refine z_start2i (own := RX12) (by decide) (Nat.le_of_ble_eq_true rfl) rfl ?_
  intro p e s m args below meth c A ls Q hx hb hml hts hown hK hE hT hP hD hS hA hl hret
  have hl : lv_has ls 9 [(0, .ref h0), (1, .int k), (2, .int r), (3, .int d)] := hl
  refine lv_aload_n hx hb dX12_newly_0 rfl (lv_at hl 0 rfl) ?_
  refine lv_iconst (v := 0) hx hb dX12_newly_1 (by decide) ?_
  refine va_put (D := G) (ci := 12) (v := .int 0) (ty := .int) (C := RX12) (T := TX12) (N := 65) hx hb hts inT12 tyX12 tyX12_ok nmX12 hown hK hP hD hS 0 rfl rfl 1 (by decide) (hts _ tw_1886) (fun _ h9 => h9) rfl (tyX12_ok 1 (by decide)) rfl rfl (Nat.le_of_ble_eq_true rfl) dX12_newly_2 (fun H locs hP hD hS => ?_)
  refine lv_aload_n hx hb dX12_newly_5 rfl (lv_at hl 0 rfl) ?_
  refine lv_iconst (v := 0) hx hb dX12_newly_6 (by decide) ?_
  refine va_put (D := G) (ci := 12) (v := .int 0) (ty := .int) (C := RX12) (T := TX12) (N := 65) hx hb hts inT12 tyX12 tyX12_ok nmX12 hown hK hP hD hS 0 rfl rfl 0 (by decide) (hts _ tw_1885) (fun _ h9 => h9) rfl (tyX12_ok 0 (by decide)) rfl rfl (Nat.le_of_ble_eq_true rfl) dX12_newly_7 (fun H locs hP hD hS => ?_)
  refine lv_aload_n hx hb dX12_newly_10 rfl (lv_at hl 0 rfl) ?_
  refine lv_iload_n hx hb dX12_newly_11 rfl (lv_at hl 1 rfl) ?_
  refine lv_i2l (v := (k).toInt64) hx hb dX12_newly_12 rfl ?_
  refine lv_topl (fun x_1 he_x_1 => ?_)
  have hq_x_1 := z_i2l he_x_1
  have hL_k := z_full k
  refine z_callVi (As := [.long x_1]) (rest := []) (wr := [(a_there, .inl (cA.1 0, 10, .inl g_there))]) ⟨hx, hb, hml, hown, hts⟩ hK hE hT hP hD hS hA (r_isKey l G cA h0 0 0 m_above m_under a_traySort a_trayMany a_numbers a_tape m_taped m_textEnd m_faultKind m_faultAt m_bad m_badAt m_token m_at m_behind m_number m_letters m_word a_c a_words m_markMany a_there a_tried a_best a_found m_thereMany m_foundMany m_orderHow m_orderRing m_orderMany m_hasBest m_bestTop m_bestBy a_weights a_shared m_random m_truePlace m_trueWay m_seconds m_done m_feelings m_tries m_leftOver m_playDoor m_playRing m_isOpen m_isOver m_wasTried m_hasPlayed a_feltNow a_last a_kept m_hasSeconds m_hasTurned m_hasRound a_hasFeels a_isOn m_firstAct m_meanTop m_meanBy a_order m_rowMany m_newSteps g_c x_1 hC_g_c) lk_RX12_275 ⟨rfl, rfl⟩ ⟨Nat.le_of_ble_eq_true rfl, Nat.le_of_ble_eq_true rfl⟩ 12 rfl rfl rfl [0, 1] [2] rfl rfl (by decide) rfl hl.1 rfl (lv_room (Nat.le_of_ble_eq_true rfl)) dX12_newly_13 ⟨Nat.le_of_ble_eq_true rfl, Nat.le_of_ble_eq_true rfl⟩ (fun r_2 u_3 H locs hw hP hD hS => ?_)
  rcases hw with ⟨rfl, -⟩ | ⟨rfl, hf_4, hf_5⟩
  · skip
    refine lv_if_eq (tgt := 35) hx hb dX12_newly_16 (by decide) (fun _ => ?_) (fun h9 => absurd (by decide +kernel) h9)
    refine lv_aload_n hx hb dX12_newly_35 rfl (lv_at hl 0 rfl) ?_
    refine lv_iconst (v := 2) hx hb dX12_newly_36 (by decide) ?_
    refine z_callVi (As := [.int 2]) (rest := []) (wr := [(a_there, .inl (cA.1 0, 10, .inl g_there)), (a_c, .inl (cA.1 0, 1825, .inl g_c))]) ⟨hx, hb, hml, hown, hts⟩ hK hE hT hP hD hS hA (r_refuse l G cA h0 0 0 m_above m_under a_traySort a_trayMany a_numbers a_tape m_taped m_textEnd m_faultKind m_faultAt m_bad m_badAt m_token m_at m_behind m_number m_letters m_word a_c a_words m_markMany a_there a_tried a_best a_found m_thereMany m_foundMany m_orderHow m_orderRing m_orderMany m_hasBest m_bestTop m_bestBy a_weights a_shared m_random m_truePlace m_trueWay m_seconds m_done m_feelings m_tries m_leftOver m_playDoor m_playRing m_isOpen m_isOver m_wasTried m_hasPlayed a_feltNow a_last a_kept m_hasSeconds m_hasTurned m_hasRound a_hasFeels a_isOn m_firstAct m_meanTop m_meanBy a_order m_rowMany m_newSteps 2) lk_RX12_269 ⟨rfl, rfl⟩ ⟨Nat.le_of_ble_eq_true rfl, Nat.le_of_ble_eq_true rfl⟩ 12 rfl rfl rfl [1] [0, 2] rfl rfl (by decide) rfl hl.1 rfl (lv_room (Nat.le_of_ble_eq_true rfl)) dX12_newly_37 ⟨Nat.le_of_ble_eq_true rfl, Nat.le_of_ble_eq_true rfl⟩ (fun r_7 u_8 H locs hw hP hD hS => ?_)
    obtain ⟨n_6, rfl⟩ : ∃ z, z = u_8 := ⟨_, rfl⟩
    have hr_r_7 := hw
    have hpost : ((-1) ≤ r_7.toInt ∧ r_7.toInt ≤ 9) ∧ (0 ≤ (0 : Int32).toInt ∧ (0 : Int32).toInt ≤ 0) ∧ (0 ≤ m_thereMany.toInt ∧ m_thereMany.toInt ≤ 10) ∧ (zRg 10 0 9 g_there) ∧ (m_hasBest = 0 ∨ m_hasBest = 1) ∧ (0 ≤ m_hasBest.toInt ∧ m_hasBest.toInt ≤ 1) ∧ (zC g_c) := ⟨(z_rgw hr_r_7 (by decide) (by decide)), (by decide +kernel), hr_m_thereMany, hC_g_there, hz_m_hasBest, hr_m_hasBest, hC_g_c⟩
    exact hret _ _ _ _ _ _ (n_6, 0, m_thereMany, g_there, m_above, m_under, m_hasBest, m_bestTop, m_bestBy, g_c) [2, 1, 0] hP hD hS rfl (by decide) dX12_newly_40 hpost
  · skip
    refine lv_if_eq (tgt := 35) hx hb dX12_newly_16 (by decide) (fun h9 => absurd h9 (by decide +kernel)) (fun _ => ?_)
    refine lv_aload_n hx hb dX12_newly_19 rfl (lv_at hl 0 rfl) ?_
    refine lv_iload_n hx hb dX12_newly_20 rfl (lv_at hl 2 rfl) ?_
    refine z_callVi (As := [.int r]) (rest := []) (wr := [(a_there, .inl (cA.1 0, 10, .inl g_there))]) ⟨hx, hb, hml, hown, hts⟩ hK hE hT hP hD hS hA (r_isRing l G cA h0 0 0 m_above m_under a_traySort a_trayMany a_numbers a_tape m_taped m_textEnd m_faultKind m_faultAt m_bad m_badAt m_token m_at m_behind m_number m_letters m_word a_c a_words m_markMany a_there a_tried a_best a_found m_thereMany m_foundMany m_orderHow m_orderRing m_orderMany m_hasBest m_bestTop m_bestBy a_weights a_shared m_random m_truePlace m_trueWay m_seconds m_done m_feelings m_tries m_leftOver m_playDoor m_playRing m_isOpen m_isOver m_wasTried m_hasPlayed a_feltNow a_last a_kept m_hasSeconds m_hasTurned m_hasRound a_hasFeels a_isOn m_firstAct m_meanTop m_meanBy a_order m_rowMany m_newSteps g_c r hC_g_c) lk_RX12_289 ⟨rfl, rfl⟩ ⟨Nat.le_of_ble_eq_true rfl, Nat.le_of_ble_eq_true rfl⟩ 12 rfl rfl rfl [1, 2] [0] rfl rfl (by decide) rfl hl.1 rfl (lv_room (Nat.le_of_ble_eq_true rfl)) dX12_newly_21 ⟨Nat.le_of_ble_eq_true rfl, Nat.le_of_ble_eq_true rfl⟩ (fun r_9 u_10 H locs hw hP hD hS => ?_)
    rcases hw with ⟨rfl, -⟩ | ⟨rfl, hf_11, hf_12⟩
    · skip
      refine lv_if_eq (tgt := 35) hx hb dX12_newly_24 (by decide) (fun _ => ?_) (fun h9 => absurd (by decide +kernel) h9)
      refine lv_aload_n hx hb dX12_newly_35 rfl (lv_at hl 0 rfl) ?_
      refine lv_iconst (v := 2) hx hb dX12_newly_36 (by decide) ?_
      refine z_callVi (As := [.int 2]) (rest := []) (wr := [(a_there, .inl (cA.1 0, 10, .inl g_there)), (a_c, .inl (cA.1 0, 1825, .inl g_c))]) ⟨hx, hb, hml, hown, hts⟩ hK hE hT hP hD hS hA (r_refuse l G cA h0 0 0 m_above m_under a_traySort a_trayMany a_numbers a_tape m_taped m_textEnd m_faultKind m_faultAt m_bad m_badAt m_token m_at m_behind m_number m_letters m_word a_c a_words m_markMany a_there a_tried a_best a_found m_thereMany m_foundMany m_orderHow m_orderRing m_orderMany m_hasBest m_bestTop m_bestBy a_weights a_shared m_random m_truePlace m_trueWay m_seconds m_done m_feelings m_tries m_leftOver m_playDoor m_playRing m_isOpen m_isOver m_wasTried m_hasPlayed a_feltNow a_last a_kept m_hasSeconds m_hasTurned m_hasRound a_hasFeels a_isOn m_firstAct m_meanTop m_meanBy a_order m_rowMany m_newSteps 2) lk_RX12_269 ⟨rfl, rfl⟩ ⟨Nat.le_of_ble_eq_true rfl, Nat.le_of_ble_eq_true rfl⟩ 12 rfl rfl rfl [1] [0, 2] rfl rfl (by decide) rfl hl.1 rfl (lv_room (Nat.le_of_ble_eq_true rfl)) dX12_newly_37 ⟨Nat.le_of_ble_eq_true rfl, Nat.le_of_ble_eq_true rfl⟩ (fun r_14 u_15 H locs hw hP hD hS => ?_)
      obtain ⟨n_13, rfl⟩ : ∃ z, z = u_15 := ⟨_, rfl⟩
      have hr_r_14 := hw
      have hpost : ((-1) ≤ r_14.toInt ∧ r_14.toInt ≤ 9) ∧ (0 ≤ (0 : Int32).toInt ∧ (0 : Int32).toInt ≤ 0) ∧ (0 ≤ m_thereMany.toInt ∧ m_thereMany.toInt ≤ 10) ∧ (zRg 10 0 9 g_there) ∧ (m_hasBest = 0 ∨ m_hasBest = 1) ∧ (0 ≤ m_hasBest.toInt ∧ m_hasBest.toInt ≤ 1) ∧ (zC g_c) := ⟨(z_rgw hr_r_14 (by decide) (by decide)), (by decide +kernel), hr_m_thereMany, hC_g_there, hz_m_hasBest, hr_m_hasBest, hC_g_c⟩
      exact hret _ _ _ _ _ _ (n_13, 0, m_thereMany, g_there, m_above, m_under, m_hasBest, m_bestTop, m_bestBy, g_c) [2, 1, 0] hP hD hS rfl (by decide) dX12_newly_40 hpost
    · skip
      refine lv_if_eq (tgt := 35) hx hb dX12_newly_24 (by decide) (fun h9 => absurd h9 (by decide +kernel)) (fun _ => ?_)
      refine lv_aload_n hx hb dX12_newly_27 rfl (lv_at hl 0 rfl) ?_
      refine lv_iload_n hx hb dX12_newly_28 rfl (lv_at hl 3 rfl) ?_
      refine z_callVi (As := [.int d]) (rest := []) (wr := [(a_there, .inl (cA.1 0, 10, .inl g_there))]) ⟨hx, hb, hml, hown, hts⟩ hK hE hT hP hD hS hA (r_isDoor l G cA h0 0 0 m_above m_under a_traySort a_trayMany a_numbers a_tape m_taped m_textEnd m_faultKind m_faultAt m_bad m_badAt m_token m_at m_behind m_number m_letters m_word a_c a_words m_markMany a_there a_tried a_best a_found m_thereMany m_foundMany m_orderHow m_orderRing m_orderMany m_hasBest m_bestTop m_bestBy a_weights a_shared m_random m_truePlace m_trueWay m_seconds m_done m_feelings m_tries m_leftOver m_playDoor m_playRing m_isOpen m_isOver m_wasTried m_hasPlayed a_feltNow a_last a_kept m_hasSeconds m_hasTurned m_hasRound a_hasFeels a_isOn m_firstAct m_meanTop m_meanBy a_order m_rowMany m_newSteps g_c d hC_g_c) lk_RX12_295 ⟨rfl, rfl⟩ ⟨Nat.le_of_ble_eq_true rfl, Nat.le_of_ble_eq_true rfl⟩ 12 rfl rfl rfl [1, 2] [0] rfl rfl (by decide) rfl hl.1 rfl (lv_room (Nat.le_of_ble_eq_true rfl)) dX12_newly_29 ⟨Nat.le_of_ble_eq_true rfl, Nat.le_of_ble_eq_true rfl⟩ (fun r_16 u_17 H locs hw hP hD hS => ?_)
      rcases hw with ⟨rfl, -⟩ | ⟨rfl, hf_18, hf_19⟩
      · skip
        refine lv_if_ne (tgt := 41) hx hb dX12_newly_32 (by decide) (fun h9 => absurd (by decide +kernel) h9) (fun _ => ?_)
        refine lv_aload_n hx hb dX12_newly_35 rfl (lv_at hl 0 rfl) ?_
        refine lv_iconst (v := 2) hx hb dX12_newly_36 (by decide) ?_
        refine z_callVi (As := [.int 2]) (rest := []) (wr := [(a_there, .inl (cA.1 0, 10, .inl g_there)), (a_c, .inl (cA.1 0, 1825, .inl g_c))]) ⟨hx, hb, hml, hown, hts⟩ hK hE hT hP hD hS hA (r_refuse l G cA h0 0 0 m_above m_under a_traySort a_trayMany a_numbers a_tape m_taped m_textEnd m_faultKind m_faultAt m_bad m_badAt m_token m_at m_behind m_number m_letters m_word a_c a_words m_markMany a_there a_tried a_best a_found m_thereMany m_foundMany m_orderHow m_orderRing m_orderMany m_hasBest m_bestTop m_bestBy a_weights a_shared m_random m_truePlace m_trueWay m_seconds m_done m_feelings m_tries m_leftOver m_playDoor m_playRing m_isOpen m_isOver m_wasTried m_hasPlayed a_feltNow a_last a_kept m_hasSeconds m_hasTurned m_hasRound a_hasFeels a_isOn m_firstAct m_meanTop m_meanBy a_order m_rowMany m_newSteps 2) lk_RX12_269 ⟨rfl, rfl⟩ ⟨Nat.le_of_ble_eq_true rfl, Nat.le_of_ble_eq_true rfl⟩ 12 rfl rfl rfl [1] [0, 2] rfl rfl (by decide) rfl hl.1 rfl (lv_room (Nat.le_of_ble_eq_true rfl)) dX12_newly_37 ⟨Nat.le_of_ble_eq_true rfl, Nat.le_of_ble_eq_true rfl⟩ (fun r_21 u_22 H locs hw hP hD hS => ?_)
        obtain ⟨n_20, rfl⟩ : ∃ z, z = u_22 := ⟨_, rfl⟩
        have hr_r_21 := hw
        have hpost : ((-1) ≤ r_21.toInt ∧ r_21.toInt ≤ 9) ∧ (0 ≤ (0 : Int32).toInt ∧ (0 : Int32).toInt ≤ 0) ∧ (0 ≤ m_thereMany.toInt ∧ m_thereMany.toInt ≤ 10) ∧ (zRg 10 0 9 g_there) ∧ (m_hasBest = 0 ∨ m_hasBest = 1) ∧ (0 ≤ m_hasBest.toInt ∧ m_hasBest.toInt ≤ 1) ∧ (zC g_c) := ⟨(z_rgw hr_r_21 (by decide) (by decide)), (by decide +kernel), hr_m_thereMany, hC_g_there, hz_m_hasBest, hr_m_hasBest, hC_g_c⟩
        exact hret _ _ _ _ _ _ (n_20, 0, m_thereMany, g_there, m_above, m_under, m_hasBest, m_bestTop, m_bestBy, g_c) [2, 1, 0] hP hD hS rfl (by decide) dX12_newly_40 hpost
      · skip
        refine lv_if_ne (tgt := 41) hx hb dX12_newly_32 (by decide) (fun _ => ?_) (fun h9 => absurd h9 (by decide +kernel))
        refine lv_aload_n hx hb dX12_newly_41 rfl (lv_at hl 0 rfl) ?_
        refine lv_iload_n hx hb dX12_newly_42 rfl (lv_at hl 1 rfl) ?_
        refine z_callVi (As := [.int k]) (rest := []) (wr := [(a_there, .inl (cA.1 0, 10, .inl g_there))]) ⟨hx, hb, hml, hown, hts⟩ hK hE hT hP hD hS hA (r_ringOf l G cA h0 0 0 m_above m_under a_traySort a_trayMany a_numbers a_tape m_taped m_textEnd m_faultKind m_faultAt m_bad m_badAt m_token m_at m_behind m_number m_letters m_word a_c a_words m_markMany a_there a_tried a_best a_found m_thereMany m_foundMany m_orderHow m_orderRing m_orderMany m_hasBest m_bestTop m_bestBy a_weights a_shared m_random m_truePlace m_trueWay m_seconds m_done m_feelings m_tries m_leftOver m_playDoor m_playRing m_isOpen m_isOver m_wasTried m_hasPlayed a_feltNow a_last a_kept m_hasSeconds m_hasTurned m_hasRound a_hasFeels a_isOn m_firstAct m_meanTop m_meanBy a_order m_rowMany m_newSteps g_c k (by omega) hC_g_c) lk_RX12_278 ⟨rfl, rfl⟩ ⟨Nat.le_of_ble_eq_true rfl, Nat.le_of_ble_eq_true rfl⟩ 12 rfl rfl rfl [1, 2] [0] rfl rfl (by decide) rfl hl.1 rfl (lv_room (Nat.le_of_ble_eq_true rfl)) dX12_newly_43 ⟨Nat.le_of_ble_eq_true rfl, Nat.le_of_ble_eq_true rfl⟩ (fun r_23 u_24 H locs hw hP hD hS => ?_)
        obtain ⟨hr_r_23, hf_25⟩ := hw
        refine lv_if_ge (tgt := 63) hx hb dX12_newly_46 (by decide) (fun c_26 => ?_) (fun c_26 => ?_)
        · have b_27 := z_fgeT c_26
          refine lv_aload_n hx hb dX12_newly_63 rfl (lv_at hl 0 rfl) ?_
          refine lv_bipush (v := 9) hx hb dX12_newly_64 (by decide) ?_
          refine z_callVi (As := [.int 9]) (rest := []) (wr := [(a_there, .inl (cA.1 0, 10, .inl g_there)), (a_c, .inl (cA.1 0, 1825, .inl g_c))]) ⟨hx, hb, hml, hown, hts⟩ hK hE hT hP hD hS hA (r_refuse l G cA h0 0 0 m_above m_under a_traySort a_trayMany a_numbers a_tape m_taped m_textEnd m_faultKind m_faultAt m_bad m_badAt m_token m_at m_behind m_number m_letters m_word a_c a_words m_markMany a_there a_tried a_best a_found m_thereMany m_foundMany m_orderHow m_orderRing m_orderMany m_hasBest m_bestTop m_bestBy a_weights a_shared m_random m_truePlace m_trueWay m_seconds m_done m_feelings m_tries m_leftOver m_playDoor m_playRing m_isOpen m_isOver m_wasTried m_hasPlayed a_feltNow a_last a_kept m_hasSeconds m_hasTurned m_hasRound a_hasFeels a_isOn m_firstAct m_meanTop m_meanBy a_order m_rowMany m_newSteps 9) lk_RX12_269 ⟨rfl, rfl⟩ ⟨Nat.le_of_ble_eq_true rfl, Nat.le_of_ble_eq_true rfl⟩ 12 rfl rfl rfl [1] [0, 2] rfl rfl (by decide) rfl hl.1 rfl (lv_room (Nat.le_of_ble_eq_true rfl)) dX12_newly_66 ⟨Nat.le_of_ble_eq_true rfl, Nat.le_of_ble_eq_true rfl⟩ (fun r_29 u_30 H locs hw hP hD hS => ?_)
          obtain ⟨n_28, rfl⟩ : ∃ z, z = u_30 := ⟨_, rfl⟩
          have hr_r_29 := hw
          have hpost : ((-1) ≤ r_29.toInt ∧ r_29.toInt ≤ 9) ∧ (0 ≤ (0 : Int32).toInt ∧ (0 : Int32).toInt ≤ 0) ∧ (0 ≤ m_thereMany.toInt ∧ m_thereMany.toInt ≤ 10) ∧ (zRg 10 0 9 g_there) ∧ (m_hasBest = 0 ∨ m_hasBest = 1) ∧ (0 ≤ m_hasBest.toInt ∧ m_hasBest.toInt ≤ 1) ∧ (zC g_c) := ⟨(z_rgw hr_r_29 (by decide) (by decide)), (by decide +kernel), hr_m_thereMany, hC_g_there, hz_m_hasBest, hr_m_hasBest, hC_g_c⟩
          exact hret _ _ _ _ _ _ (n_28, 0, m_thereMany, g_there, m_above, m_under, m_hasBest, m_bestTop, m_bestBy, g_c) [2, 1, 0] hP hD hS rfl (by decide) dX12_newly_69 hpost
        · have b_31 := z_fltF c_26
          refine lv_aload_n hx hb dX12_newly_49 rfl (lv_at hl 0 rfl) ?_
          refine va_get (D := G) (ci := 12) (v := .ref a_c) (C := RX12) (T := TX12) (N := 65) hx hb hts inT12 hown hK hP 1 rfl rfl 20 (by decide) (hts _ tw_1905) (fun _ h9 => h9) rfl dX12_newly_50 ?_
          refine lv_sipush (v := 150) hx hb dX12_newly_53 (by decide) ?_
          refine lv_iload_n hx hb dX12_newly_56 rfl (lv_at hl 1 rfl) ?_
          refine lv_iadd hx hb dX12_newly_57 ?_
          refine lv_topi (fun x_32 he_x_32 => ?_)
          have hq_x_32 := z_addq he_x_32 hk_150 (rfl : k.toInt = _) (by omega) (by omega)
          refine va_iald hx hb hK hP 2 0 rfl rfl (z_inN (by omega) (by omega)) dX12_newly_58 ?_
          refine lv_topi (fun x_33 he_x_33 => ?_)
          have hlen_x_33 := z_at he_x_33 (a := 150 + k.toInt.toNat) (by omega)
          refine lv_iconst (v := 1) hx hb dX12_newly_59 (by decide) ?_
          refine lv_icmp_ne (tgt := 70) hx hb dX12_newly_60 (by decide) (fun c_34 => ?_) (fun c_34 => ?_)
          · have b_35 := z_fneT c_34
            refine lv_aload_n hx hb dX12_newly_70 rfl (lv_at hl 0 rfl) ?_
            refine lv_iload_n hx hb dX12_newly_71 rfl (lv_at hl 2 rfl) ?_
            refine z_callVv (As := [.int r]) (rest := []) (wr := []) ⟨hx, hb, hml, hown, hts⟩ hK hE hT hP hD hS hA (r_gather l G cA h0 0 0 m_above m_under a_traySort a_trayMany a_numbers a_tape m_taped m_textEnd m_faultKind m_faultAt m_bad m_badAt m_token m_at m_behind m_number m_letters m_word a_c a_words m_markMany a_there a_tried a_best a_found m_thereMany m_foundMany m_orderHow m_orderRing m_orderMany m_hasBest m_bestTop m_bestBy a_weights a_shared m_random m_truePlace m_trueWay m_seconds m_done m_feelings m_tries m_leftOver m_playDoor m_playRing m_isOpen m_isOver m_wasTried m_hasPlayed a_feltNow a_last a_kept m_hasSeconds m_hasTurned m_hasRound a_hasFeels a_isOn m_firstAct m_meanTop m_meanBy a_order m_rowMany m_newSteps g_c g_there r (by omega) hr_m_thereMany hC_g_c hC_g_there) lk_RX12_292 ⟨rfl, rfl⟩ ⟨Nat.le_of_ble_eq_true rfl, Nat.le_of_ble_eq_true rfl⟩ 12 rfl rfl rfl [1, 2, 0] [] rfl rfl (by decide) rfl hl.1 rfl (lv_room (Nat.le_of_ble_eq_true rfl)) dX12_newly_72 ⟨Nat.le_of_ble_eq_true rfl, Nat.le_of_ble_eq_true rfl⟩ (fun u_39 H locs hw hP hD hS => ?_)
            obtain ⟨n_36, n_37⟩ := u_39
            try dsimp only at hw
            obtain ⟨hr_n_36, hC_n_37, hf_40, hf_41⟩ := hw
            refine lv_aload_n hx hb dX12_newly_75 rfl (lv_at hl 0 rfl) ?_
            refine lv_iload_n hx hb dX12_newly_76 rfl (lv_at hl 3 rfl) ?_
            refine z_callVi (As := [.int d]) (rest := []) (wr := []) ⟨hx, hb, hml, hown, hts⟩ hK hE hT hP hD hS hA (r_hasOpener l G cA h0 0 0 m_above m_under a_traySort a_trayMany a_numbers a_tape m_taped m_textEnd m_faultKind m_faultAt m_bad m_badAt m_token m_at m_behind m_number m_letters m_word a_c a_words m_markMany a_there a_tried a_best a_found n_36 m_foundMany m_orderHow m_orderRing m_orderMany m_hasBest m_bestTop m_bestBy a_weights a_shared m_random m_truePlace m_trueWay m_seconds m_done m_feelings m_tries m_leftOver m_playDoor m_playRing m_isOpen m_isOver m_wasTried m_hasPlayed a_feltNow a_last a_kept m_hasSeconds m_hasTurned m_hasRound a_hasFeels a_isOn m_firstAct m_meanTop m_meanBy a_order m_rowMany m_newSteps g_c n_37 d (by omega) hr_n_36 hC_g_c hC_n_37) lk_RX12_438 ⟨rfl, rfl⟩ ⟨Nat.le_of_ble_eq_true rfl, Nat.le_of_ble_eq_true rfl⟩ 12 rfl rfl rfl [0, 1, 2] [] rfl rfl (by decide) rfl hl.1 rfl (lv_room (Nat.le_of_ble_eq_true rfl)) dX12_newly_77 ⟨Nat.le_of_ble_eq_true rfl, Nat.le_of_ble_eq_true rfl⟩ (fun r_42 u_43 H locs hw hP hD hS => ?_)
            rcases hw with ⟨rfl, -⟩ | ⟨rfl, -⟩
            · skip
              refine lv_if_ne (tgt := 99) hx hb dX12_newly_80 (by decide) (fun h9 => absurd (by decide +kernel) h9) (fun _ => ?_)
              refine lv_aload_n hx hb dX12_newly_83 rfl (lv_at hl 0 rfl) ?_
              refine lv_iload_n hx hb dX12_newly_84 rfl (lv_at hl 1 rfl) ?_
              refine lv_iload_n hx hb dX12_newly_85 rfl (lv_at hl 3 rfl) ?_
              refine z_callVi (As := [.int k, .int d]) (rest := []) (wr := [(a_there, .inl (cA.1 0, 10, .inl n_37))]) ⟨hx, hb, hml, hown, hts⟩ hK hE hT hP hD hS hA (r_canOpen l G cA h0 0 0 m_above m_under a_traySort a_trayMany a_numbers a_tape m_taped m_textEnd m_faultKind m_faultAt m_bad m_badAt m_token m_at m_behind m_number m_letters m_word a_c a_words m_markMany a_there a_tried a_best a_found n_36 m_foundMany m_orderHow m_orderRing m_orderMany m_hasBest m_bestTop m_bestBy a_weights a_shared m_random m_truePlace m_trueWay m_seconds m_done m_feelings m_tries m_leftOver m_playDoor m_playRing m_isOpen m_isOver m_wasTried m_hasPlayed a_feltNow a_last a_kept m_hasSeconds m_hasTurned m_hasRound a_hasFeels a_isOn m_firstAct m_meanTop m_meanBy a_order m_rowMany m_newSteps g_c k d (by omega) (by omega) hC_g_c) lk_RX12_345 ⟨rfl, rfl⟩ ⟨Nat.le_of_ble_eq_true rfl, Nat.le_of_ble_eq_true rfl⟩ 12 rfl rfl rfl [0, 1] [2] rfl rfl (by decide) rfl hl.1 rfl (lv_room (Nat.le_of_ble_eq_true rfl)) dX12_newly_86 ⟨Nat.le_of_ble_eq_true rfl, Nat.le_of_ble_eq_true rfl⟩ (fun r_44 u_45 H locs hw hP hD hS => ?_)
              rcases hw with ⟨rfl, hf_46⟩ | ⟨rfl, hf_47⟩
              · skip
                refine lv_if_ne (tgt := 99) hx hb dX12_newly_89 (by decide) (fun h9 => absurd (by decide +kernel) h9) (fun _ => ?_)
                refine lv_aload_n hx hb dX12_newly_92 rfl (lv_at hl 0 rfl) ?_
                refine lv_bipush (v := 8) hx hb dX12_newly_93 (by decide) ?_
                refine z_callVi (As := [.int 8]) (rest := []) (wr := [(a_there, .inl (cA.1 0, 10, .inl n_37)), (a_c, .inl (cA.1 0, 1825, .inl g_c))]) ⟨hx, hb, hml, hown, hts⟩ hK hE hT hP hD hS hA (r_refuse l G cA h0 0 0 m_above m_under a_traySort a_trayMany a_numbers a_tape m_taped m_textEnd m_faultKind m_faultAt m_bad m_badAt m_token m_at m_behind m_number m_letters m_word a_c a_words m_markMany a_there a_tried a_best a_found n_36 m_foundMany m_orderHow m_orderRing m_orderMany m_hasBest m_bestTop m_bestBy a_weights a_shared m_random m_truePlace m_trueWay m_seconds m_done m_feelings m_tries m_leftOver m_playDoor m_playRing m_isOpen m_isOver m_wasTried m_hasPlayed a_feltNow a_last a_kept m_hasSeconds m_hasTurned m_hasRound a_hasFeels a_isOn m_firstAct m_meanTop m_meanBy a_order m_rowMany m_newSteps 8) lk_RX12_269 ⟨rfl, rfl⟩ ⟨Nat.le_of_ble_eq_true rfl, Nat.le_of_ble_eq_true rfl⟩ 12 rfl rfl rfl [1] [0, 2] rfl rfl (by decide) rfl hl.1 rfl (lv_room (Nat.le_of_ble_eq_true rfl)) dX12_newly_95 ⟨Nat.le_of_ble_eq_true rfl, Nat.le_of_ble_eq_true rfl⟩ (fun r_49 u_50 H locs hw hP hD hS => ?_)
                obtain ⟨n_48, rfl⟩ : ∃ z, z = u_50 := ⟨_, rfl⟩
                have hr_r_49 := hw
                have hpost : ((-1) ≤ r_49.toInt ∧ r_49.toInt ≤ 9) ∧ (0 ≤ (0 : Int32).toInt ∧ (0 : Int32).toInt ≤ 0) ∧ (0 ≤ n_36.toInt ∧ n_36.toInt ≤ 10) ∧ (zRg 10 0 9 n_37) ∧ (m_hasBest = 0 ∨ m_hasBest = 1) ∧ (0 ≤ m_hasBest.toInt ∧ m_hasBest.toInt ≤ 1) ∧ (zC g_c) := ⟨(z_rgw hr_r_49 (by decide) (by decide)), (by decide +kernel), hr_n_36, hC_n_37, hz_m_hasBest, hr_m_hasBest, hC_g_c⟩
                exact hret _ _ _ _ _ _ (n_48, 0, n_36, n_37, m_above, m_under, m_hasBest, m_bestTop, m_bestBy, g_c) [2, 1, 0] hP hD hS rfl (by decide) dX12_newly_98 hpost
              · skip
                refine lv_if_ne (tgt := 99) hx hb dX12_newly_89 (by decide) (fun _ => ?_) (fun h9 => absurd h9 (by decide +kernel))
                refine lv_iconst (v := 0) hx hb dX12_newly_99 (by decide) ?_
                refine lv_istore (lv' := [(4, .int 0), (0, .ref h0), (1, .int k), (2, .int r), (3, .int d)]) hx hb dX12_newly_100 hl (by decide) rfl (fun ls hl => ?_)
                refine lv_aload_n hx hb dX12_newly_102 rfl (lv_at hl 1 rfl) ?_
                refine lv_iconst (v := 0) hx hb dX12_newly_103 (by decide) ?_
                refine va_put (D := G) (ci := 12) (v := .int 0) (ty := .boolean) (C := RX12) (T := TX12) (N := 65) hx hb hts inT12 tyX12 tyX12_ok nmX12 hown hK hP hD hS 1 rfl rfl 32 (by decide) (hts _ tw_1916) (fun _ h9 => h9) rfl (tyX12_ok 32 (by decide)) rfl rfl (Nat.le_of_ble_eq_true rfl) dX12_newly_104 (fun H locs hP hD hS => ?_)
                have hro := zRO_neg hf_25 (by omega)
                have hS9 : (g_c (95 + r.toInt.toNat)).toInt ≤ 9 := zRoom hC_g_c (by omega) (by omega) (by omega) (by omega) (by omega) (zRO_noring hro (by omega) (by omega))
                have hln : (g_c (150 + k.toInt.toNat)).toInt ≠ 1 := by rw [← hlen_x_33]; omega
                refine lv_iconst (v := 0) hx hb dX12_newly_107 (by decide) ?_
                refine lv_istore (lv' := [(5, .int 0), (4, .int 0), (0, .ref h0), (1, .int k), (2, .int r), (3, .int d)]) hx hb dX12_newly_108 hl (by decide) rfl (fun ls hl => ?_)
                have hlp_3205 : ∀ (n : Nat) (v_2407 : Int32) (v_2408 : Int32) (g_2409 : Nat → Int32) (v_2410 : Int32) (v_2411 : Int32) (v_2412 : Int64) (v_2413 : Int64) (g_2414 : Nat → Int32) (H : Heap) (locs : List Loc) (ls : Array Slot), (2147483647 - v_2408.toInt).toNat < n → (0 ≤ v_2407.toInt ∧ v_2407.toInt ≤ 9) → (0 ≤ v_2408.toInt ∧ v_2408.toInt ≤ 10) → (zRg 10 0 9 g_2409) → (0 ≤ v_2410.toInt ∧ v_2410.toInt ≤ 10) → (v_2411 = 0 ∨ v_2411 = 1) → (0 ≤ v_2411.toInt ∧ v_2411.toInt ≤ 1) → (zC g_2414) → (zLike g_c g_2414 r.toInt) → (v_2408.toInt ≤ 0 ∨ v_2411.toInt = 1) → (v_2411.toInt ≤ 0 ∨ 1 ≤ v_2413.toInt) → va_P G vwCl [(a_there, .inl (cA.1 0, 10, .inl g_2409)), (h0, .inr (12, [.int 0, .int 0, .long m_above, .long m_under, .ref a_traySort, .ref a_trayMany, .ref a_numbers, .ref a_tape, .int m_taped, .int m_textEnd, .int m_faultKind, .int m_faultAt, .int m_bad, .int m_badAt, .int m_token, .int m_at, .int m_behind, .int m_number, .int m_letters, .long m_word, .ref a_c, .ref a_words, .int m_markMany, .ref a_there, .ref a_tried, .ref a_best, .ref a_found, .int v_2410, .int m_foundMany, .int m_orderHow, .int m_orderRing, .int m_orderMany, .int v_2411, .long v_2412, .long v_2413, .ref a_weights, .ref a_shared, .int m_random, .int m_truePlace, .int m_trueWay, .int m_seconds, .int m_done, .int m_feelings, .int m_tries, .int m_leftOver, .int m_playDoor, .int m_playRing, .int m_isOpen, .int m_isOver, .int m_wasTried, .int m_hasPlayed, .ref a_feltNow, .ref a_last, .ref a_kept, .int m_hasSeconds, .int m_hasTurned, .int m_hasRound, .ref a_hasFeels, .ref a_isOn, .int m_firstAct, .long m_meanTop, .long m_meanBy, .ref a_order, .int m_rowMany, .int m_newSteps])), (a_c, .inl (cA.1 0, 1825, .inl g_2414))] H → va_D A [(a_there, .inl (cA.1 0, 10, .inl g_2409)), (h0, .inr (12, [.int 0, .int 0, .long m_above, .long m_under, .ref a_traySort, .ref a_trayMany, .ref a_numbers, .ref a_tape, .int m_taped, .int m_textEnd, .int m_faultKind, .int m_faultAt, .int m_bad, .int m_badAt, .int m_token, .int m_at, .int m_behind, .int m_number, .int m_letters, .long m_word, .ref a_c, .ref a_words, .int m_markMany, .ref a_there, .ref a_tried, .ref a_best, .ref a_found, .int v_2410, .int m_foundMany, .int m_orderHow, .int m_orderRing, .int m_orderMany, .int v_2411, .long v_2412, .long v_2413, .ref a_weights, .ref a_shared, .int m_random, .int m_truePlace, .int m_trueWay, .int m_seconds, .int m_done, .int m_feelings, .int m_tries, .int m_leftOver, .int m_playDoor, .int m_playRing, .int m_isOpen, .int m_isOver, .int m_wasTried, .int m_hasPlayed, .ref a_feltNow, .ref a_last, .ref a_kept, .int m_hasSeconds, .int m_hasTurned, .int m_hasRound, .ref a_hasFeels, .ref a_isOn, .int m_firstAct, .long m_meanTop, .long m_meanBy, .ref a_order, .int m_rowMany, .int m_newSteps])), (a_c, .inl (cA.1 0, 1825, .inl g_2414))] → va_S A s.heap H locs → lv_has ls 9 [(0, .ref h0), (1, .int k), (2, .int r), (3, .int d), (4, .int v_2407), (5, .int v_2408)] → W p l e ({ frames := 3, cells := 0, slots := 0, locals := 69 }) s m args below meth c H locs 0 0 Q (F0 m 110 ls []) := by
                  intro n
                  induction n with
                  | zero =>
                    intro v_2407 v_2408 g_2409 v_2410 v_2411 v_2412 v_2413 g_2414 H locs ls hmu_hlp_3205 hr_v_2407 hr_v_2408 hC_g_2409 hr_v_2410 hz_v_2411 hr_v_2411 hC_g_2414 hi_3202 hi_3203 hi_3204 hP hD hS hl
                    exact absurd hmu_hlp_3205 (Nat.not_lt_zero _)
                  | succ n ih_3206 =>
                    intro v_2407 v_2408 g_2409 v_2410 v_2411 v_2412 v_2413 g_2414 H locs ls hmu_hlp_3205 hr_v_2407 hr_v_2408 hC_g_2409 hr_v_2410 hz_v_2411 hr_v_2411 hC_g_2414 hi_3202 hi_3203 hi_3204 hP hD hS hl
                    refine lv_iload hx hb dX12_newly_110 (lv_at hl 5 rfl) ?_
                    refine lv_aload_n hx hb dX12_newly_112 rfl (lv_at hl 0 rfl) ?_
                    refine va_get (D := G) (ci := 12) (v := .ref a_c) (C := RX12) (T := TX12) (N := 65) hx hb hts inT12 hown hK hP 1 rfl rfl 20 (by decide) (hts _ tw_1905) (fun _ h9 => h9) rfl dX12_newly_113 ?_
                    refine lv_bipush (v := 95) hx hb dX12_newly_116 (by decide) ?_
                    refine lv_iload_n hx hb dX12_newly_118 rfl (lv_at hl 2 rfl) ?_
                    refine lv_iadd hx hb dX12_newly_119 ?_
                    refine lv_topi (fun x_3207 he_x_3207 => ?_)
                    have hq_x_3207 := z_addq he_x_3207 hk_95 (rfl : r.toInt = _) (by omega) (by omega)
                    refine va_iald hx hb hK hP 2 0 rfl rfl (z_inN (by omega) (by omega)) dX12_newly_120 ?_
                    refine lv_topi (fun x_3208 he_x_3208 => ?_)
                    have hr_x_3208 := z_ct hC_g_2414 he_x_3208 (a := 95) (b := 97) (lo := 0) (hi := 10) (by decide +kernel) (by decide) (by omega) (by omega)
                    have hlk := zLike_sz hi_3202 (by omega) (by omega) hC_g_c.1
                    have hyS : x_3208.toInt = (g_c (95 + r.toInt.toNat)).toInt := by rw [z_at he_x_3208 (a := 95 + r.toInt.toNat) (by omega), hlk.1]
                    have hy9 : 0 ≤ x_3208.toInt ∧ x_3208.toInt ≤ 9 := by omega
                    refine lv_icmp_gt (tgt := 264) hx hb dX12_newly_121 (by decide) (fun c_3209 => ?_) (fun c_3209 => ?_)
                    · have b_3210 := z_fgtT c_3209
                      refine lv_aload_n hx hb dX12_newly_264 rfl (lv_at hl 0 rfl) ?_
                      refine lv_aload_n hx hb dX12_newly_265 rfl (lv_at hl 0 rfl) ?_
                      refine va_get (D := G) (ci := 12) (v := .long v_2412) (C := RX12) (T := TX12) (N := 65) hx hb hts inT12 hown hK hP 1 rfl rfl 33 (by decide) (hts _ tw_1917) (fun _ h9 => h9) rfl dX12_newly_266 ?_
                      refine lv_aload_n hx hb dX12_newly_269 rfl (lv_at hl 0 rfl) ?_
                      refine va_get (D := G) (ci := 12) (v := .long v_2413) (C := RX12) (T := TX12) (N := 65) hx hb hts inT12 hown hK hP 1 rfl rfl 34 (by decide) (hts _ tw_1918) (fun _ h9 => h9) rfl dX12_newly_270 ?_
                      refine z_callVi (As := [.long v_2412, .long v_2413]) (rest := []) (wr := [(a_there, .inl (cA.1 0, 10, .inl g_2409)), (a_c, .inl (cA.1 0, 1825, .inl g_2414))]) ⟨hx, hb, hml, hown, hts⟩ hK hE hT hP hD hS hA (r_fraction l G cA h0 0 0 m_above m_under a_traySort a_trayMany a_numbers a_tape m_taped m_textEnd m_faultKind m_faultAt m_bad m_badAt m_token m_at m_behind m_number m_letters m_word a_c a_words m_markMany a_there a_tried a_best a_found v_2410 m_foundMany m_orderHow m_orderRing m_orderMany v_2411 v_2412 v_2413 a_weights a_shared m_random m_truePlace m_trueWay m_seconds m_done m_feelings m_tries m_leftOver m_playDoor m_playRing m_isOpen m_isOver m_wasTried m_hasPlayed a_feltNow a_last a_kept m_hasSeconds m_hasTurned m_hasRound a_hasFeels a_isOn m_firstAct m_meanTop m_meanBy a_order m_rowMany m_newSteps v_2412 v_2413 (by omega)) lk_RX12_352 ⟨rfl, rfl⟩ ⟨Nat.le_of_ble_eq_true rfl, Nat.le_of_ble_eq_true rfl⟩ 12 rfl rfl rfl [1] [0, 2] rfl rfl (by decide) rfl hl.1 rfl (lv_room (Nat.le_of_ble_eq_true rfl)) dX12_newly_273 ⟨Nat.le_of_ble_eq_true rfl, Nat.le_of_ble_eq_true rfl⟩ (fun r_3213 u_3214 H locs hw hP hD hS => ?_)
                      obtain ⟨n_3211, n_3212⟩ := u_3214
                      try dsimp only at hw
                      obtain ⟨rfl, -⟩ := hw
                      refine lv_pop hx hb dX12_newly_276 rfl ?_
                      refine lv_iload hx hb dX12_newly_277 (lv_at hl 4 rfl) ?_
                      have hpost : ((-1) ≤ v_2407.toInt ∧ v_2407.toInt ≤ 9) ∧ (0 ≤ (0 : Int32).toInt ∧ (0 : Int32).toInt ≤ 0) ∧ (0 ≤ v_2410.toInt ∧ v_2410.toInt ≤ 10) ∧ (zRg 10 0 9 g_2409) ∧ (v_2411 = 0 ∨ v_2411 = 1) ∧ (0 ≤ v_2411.toInt ∧ v_2411.toInt ≤ 1) ∧ (zC g_2414) := ⟨(z_rgw hr_v_2407 (by decide) (by decide)), (by decide +kernel), hr_v_2410, hC_g_2409, hz_v_2411, hr_v_2411, hC_g_2414⟩
                      exact hret _ _ _ _ _ _ (0, 0, v_2410, g_2409, n_3211, n_3212, v_2411, v_2412, v_2413, g_2414) [2, 1, 0] hP hD hS rfl (by decide) dX12_newly_279 hpost
                    · have b_3215 := z_fleF c_3209
                      refine lv_aload_n hx hb dX12_newly_124 rfl (lv_at hl 0 rfl) ?_
                      refine lv_iload_n hx hb dX12_newly_125 rfl (lv_at hl 1 rfl) ?_
                      refine lv_iload_n hx hb dX12_newly_126 rfl (lv_at hl 2 rfl) ?_
                      refine lv_iload hx hb dX12_newly_127 (lv_at hl 5 rfl) ?_
                      refine z_callVv (As := [.int k, .int r, .int v_2408]) (rest := []) (wr := [(a_there, .inl (cA.1 0, 10, .inl g_2409))]) ⟨hx, hb, hml, hown, hts⟩ hK hE hT hP hD hS hA (r_insert l G cA h0 0 0 m_above m_under a_traySort a_trayMany a_numbers a_tape m_taped m_textEnd m_faultKind m_faultAt m_bad m_badAt m_token m_at m_behind m_number m_letters m_word a_c a_words m_markMany a_there a_tried a_best a_found v_2410 m_foundMany m_orderHow m_orderRing m_orderMany v_2411 v_2412 v_2413 a_weights a_shared m_random m_truePlace m_trueWay m_seconds m_done m_feelings m_tries m_leftOver m_playDoor m_playRing m_isOpen m_isOver m_wasTried m_hasPlayed a_feltNow a_last a_kept m_hasSeconds m_hasTurned m_hasRound a_hasFeels a_isOn m_firstAct m_meanTop m_meanBy a_order m_rowMany m_newSteps g_2414 k r v_2408 (by omega) (by omega) hr_v_2408 hC_g_2414 (by first | (rw [hlk.2.1]; omega) | (rw [hlk.2.2]; omega) | (rw [hlk.1]; omega)) (by first | (rw [hlk.2.1]; omega) | (rw [hlk.2.2]; omega) | (rw [hlk.1]; omega)) (by first | (rw [hlk.2.1]; omega) | (rw [hlk.2.2]; omega) | (rw [hlk.1]; omega)) (zLike_RO hi_3202 (by omega) (by omega) hC_g_c.1 hro)) lk_RX12_308 ⟨rfl, rfl⟩ ⟨Nat.le_of_ble_eq_true rfl, Nat.le_of_ble_eq_true rfl⟩ 12 rfl rfl rfl [1, 2] [0] rfl rfl (by decide) rfl hl.1 rfl (lv_room (Nat.le_of_ble_eq_true rfl)) dX12_newly_129 ⟨Nat.le_of_ble_eq_true rfl, Nat.le_of_ble_eq_true rfl⟩ (fun u_3218 H locs hw hP hD hS => ?_)
                      obtain ⟨n_3216, rfl⟩ : ∃ z, z = u_3218 := ⟨_, rfl⟩
                      obtain ⟨hC_n_3216, hf_3219⟩ := hw
                      have hone := zIn_there hf_3219 (by omega) (by omega) (by omega) (by rw [hlk.1]; omega) (by rw [hlk.1]; omega) (by omega) (by rw [hi_3202 (150 + k.toInt.toNat) (by omega)]; exact hln)
                      refine lv_aload_n hx hb dX12_newly_132 rfl (lv_at hl 0 rfl) ?_
                      refine lv_iload_n hx hb dX12_newly_133 rfl (lv_at hl 2 rfl) ?_
                      refine z_callVv (As := [.int r]) (rest := []) (wr := []) ⟨hx, hb, hml, hown, hts⟩ hK hE hT hP hD hS hA (r_gather l G cA h0 0 0 m_above m_under a_traySort a_trayMany a_numbers a_tape m_taped m_textEnd m_faultKind m_faultAt m_bad m_badAt m_token m_at m_behind m_number m_letters m_word a_c a_words m_markMany a_there a_tried a_best a_found v_2410 m_foundMany m_orderHow m_orderRing m_orderMany v_2411 v_2412 v_2413 a_weights a_shared m_random m_truePlace m_trueWay m_seconds m_done m_feelings m_tries m_leftOver m_playDoor m_playRing m_isOpen m_isOver m_wasTried m_hasPlayed a_feltNow a_last a_kept m_hasSeconds m_hasTurned m_hasRound a_hasFeels a_isOn m_firstAct m_meanTop m_meanBy a_order m_rowMany m_newSteps n_3216 g_2409 r (by omega) hr_v_2410 hC_n_3216 hC_g_2409) lk_RX12_292 ⟨rfl, rfl⟩ ⟨Nat.le_of_ble_eq_true rfl, Nat.le_of_ble_eq_true rfl⟩ 12 rfl rfl rfl [1, 2, 0] [] rfl rfl (by decide) rfl hl.1 rfl (lv_room (Nat.le_of_ble_eq_true rfl)) dX12_newly_134 ⟨Nat.le_of_ble_eq_true rfl, Nat.le_of_ble_eq_true rfl⟩ (fun u_3223 H locs hw hP hD hS => ?_)
                      obtain ⟨n_3220, n_3221⟩ := u_3223
                      try dsimp only at hw
                      obtain ⟨hr_n_3220, hC_n_3221, hf_3224, hf_3225⟩ := hw
                      have hn_k_3226 : 1 ≤ n_3220.toInt ∧ n_3220.toInt ≤ 10 := by omega
                      refine lv_lconst (v := 0) hx hb dX12_newly_137 (by decide) ?_
                      refine lv_lstore (lv' := [(6, .long 0), (0, .ref h0), (1, .int k), (2, .int r), (3, .int d), (4, .int v_2407), (5, .int v_2408)]) hx hb dX12_newly_138 hl (by decide) rfl (fun ls hl => ?_)
                      refine lv_iconst (v := 0) hx hb dX12_newly_140 (by decide) ?_
                      refine lv_istore (lv' := [(8, .int 0), (6, .long 0), (0, .ref h0), (1, .int k), (2, .int r), (3, .int d), (4, .int v_2407), (5, .int v_2408)]) hx hb dX12_newly_141 hl (by decide) rfl (fun ls hl => ?_)
                      have hlp_3939 : ∀ (n : Nat) (v_3904 : Int64) (v_3905 : Int32) (H : Heap) (locs : List Loc) (ls : Array Slot), (2147483647 - v_3905.toInt).toNat < n → (0 ≤ v_3905.toInt ∧ v_3905.toInt ≤ 20) → va_P G vwCl [(h0, .inr (12, [.int 0, .int 0, .long m_above, .long m_under, .ref a_traySort, .ref a_trayMany, .ref a_numbers, .ref a_tape, .int m_taped, .int m_textEnd, .int m_faultKind, .int m_faultAt, .int m_bad, .int m_badAt, .int m_token, .int m_at, .int m_behind, .int m_number, .int m_letters, .long m_word, .ref a_c, .ref a_words, .int m_markMany, .ref a_there, .ref a_tried, .ref a_best, .ref a_found, .int n_3220, .int m_foundMany, .int m_orderHow, .int m_orderRing, .int m_orderMany, .int v_2411, .long v_2412, .long v_2413, .ref a_weights, .ref a_shared, .int m_random, .int m_truePlace, .int m_trueWay, .int m_seconds, .int m_done, .int m_feelings, .int m_tries, .int m_leftOver, .int m_playDoor, .int m_playRing, .int m_isOpen, .int m_isOver, .int m_wasTried, .int m_hasPlayed, .ref a_feltNow, .ref a_last, .ref a_kept, .int m_hasSeconds, .int m_hasTurned, .int m_hasRound, .ref a_hasFeels, .ref a_isOn, .int m_firstAct, .long m_meanTop, .long m_meanBy, .ref a_order, .int m_rowMany, .int m_newSteps])), (a_c, .inl (cA.1 0, 1825, .inl n_3216)), (a_there, .inl (cA.1 0, 10, .inl n_3221))] H → va_D A [(h0, .inr (12, [.int 0, .int 0, .long m_above, .long m_under, .ref a_traySort, .ref a_trayMany, .ref a_numbers, .ref a_tape, .int m_taped, .int m_textEnd, .int m_faultKind, .int m_faultAt, .int m_bad, .int m_badAt, .int m_token, .int m_at, .int m_behind, .int m_number, .int m_letters, .long m_word, .ref a_c, .ref a_words, .int m_markMany, .ref a_there, .ref a_tried, .ref a_best, .ref a_found, .int n_3220, .int m_foundMany, .int m_orderHow, .int m_orderRing, .int m_orderMany, .int v_2411, .long v_2412, .long v_2413, .ref a_weights, .ref a_shared, .int m_random, .int m_truePlace, .int m_trueWay, .int m_seconds, .int m_done, .int m_feelings, .int m_tries, .int m_leftOver, .int m_playDoor, .int m_playRing, .int m_isOpen, .int m_isOver, .int m_wasTried, .int m_hasPlayed, .ref a_feltNow, .ref a_last, .ref a_kept, .int m_hasSeconds, .int m_hasTurned, .int m_hasRound, .ref a_hasFeels, .ref a_isOn, .int m_firstAct, .long m_meanTop, .long m_meanBy, .ref a_order, .int m_rowMany, .int m_newSteps])), (a_c, .inl (cA.1 0, 1825, .inl n_3216)), (a_there, .inl (cA.1 0, 10, .inl n_3221))] → va_S A s.heap H locs → lv_has ls 9 [(0, .ref h0), (1, .int k), (2, .int r), (3, .int d), (4, .int v_2407), (5, .int v_2408), (6, .long v_3904), (8, .int v_3905)] → W p l e ({ frames := 3, cells := 0, slots := 0, locals := 69 }) s m args below meth c H locs 0 0 Q (F0 m 143 ls []) := by
                        intro n
                        induction n with
                        | zero =>
                          intro v_3904 v_3905 H locs ls hmu_hlp_3939 hr_v_3905 hP hD hS hl
                          exact absurd hmu_hlp_3939 (Nat.not_lt_zero _)
                        | succ n ih_3940 =>
                          intro v_3904 v_3905 H locs ls hmu_hlp_3939 hr_v_3905 hP hD hS hl
                          refine lv_iload hx hb dX12_newly_143 (lv_at hl 7 rfl) ?_
                          refine lv_iconst (v := 2) hx hb dX12_newly_145 (by decide) ?_
                          refine lv_aload_n hx hb dX12_newly_146 rfl (lv_at hl 0 rfl) ?_
                          refine va_get (D := G) (ci := 12) (v := .int n_3220) (C := RX12) (T := TX12) (N := 65) hx hb hts inT12 hown hK hP 0 rfl rfl 27 (by decide) (hts _ tw_1912) (fun _ h9 => h9) rfl dX12_newly_147 ?_
                          refine lv_imul hx hb dX12_newly_150 ?_
                          refine lv_topi (fun x_3941 he_x_3941 => ?_)
                          have hq_x_3941 := z_mulq he_x_3941 hk_2 (rfl : n_3220.toInt = _) (by omega) (by omega)
                          refine lv_icmp_ge (tgt := 208) hx hb dX12_newly_151 (by decide) (fun c_3942 => ?_) (fun c_3942 => ?_)
                          · have b_3943 := z_fgeT c_3942
                            refine lv_aload_n hx hb dX12_newly_208 rfl (lv_at hl 0 rfl) ?_
                            refine va_get (D := G) (ci := 12) (v := .int v_2411) (C := RX12) (T := TX12) (N := 65) hx hb hts inT12 hown hK hP 0 rfl rfl 32 (by decide) (hts _ tw_1916) (fun _ h9 => h9) rfl dX12_newly_209 ?_
                            refine lv_if_eq (tgt := 225) hx hb dX12_newly_212 (by decide) (fun c_3944 => ?_) (fun c_3944 => ?_)
                            · have b_3945 := z_feqT c_3944
                              refine lv_iload hx hb dX12_newly_225 (lv_at hl 5 rfl) ?_
                              refine lv_istore (lv' := [(4, .int v_2408), (0, .ref h0), (1, .int k), (2, .int r), (3, .int d), (5, .int v_2408), (6, .long v_3904), (8, .int v_3905)]) hx hb dX12_newly_227 hl (by decide) rfl (fun ls hl => ?_)
                              refine lv_aload_n hx hb dX12_newly_229 rfl (lv_at hl 1 rfl) ?_
                              refine lv_lload hx hb dX12_newly_230 (lv_at hl 6 rfl) ?_
                              refine va_put (D := G) (ci := 12) (v := .long v_3904) (ty := .long) (C := RX12) (T := TX12) (N := 65) hx hb hts inT12 tyX12 tyX12_ok nmX12 hown hK hP hD hS 0 rfl rfl 33 (by decide) (hts _ tw_1917) (fun _ h9 => h9) rfl (tyX12_ok 33 (by decide)) rfl rfl (Nat.le_of_ble_eq_true rfl) dX12_newly_232 (fun H locs hP hD hS => ?_)
                              refine lv_aload_n hx hb dX12_newly_235 rfl (lv_at hl 1 rfl) ?_
                              refine lv_ldc2 (v := 16) hx hb hown (hts _ tw_2470) dX12_newly_236 ?_
                              refine lv_aload_n hx hb dX12_newly_239 rfl (lv_at hl 1 rfl) ?_
                              refine va_get (D := G) (ci := 12) (v := .int n_3220) (C := RX12) (T := TX12) (N := 65) hx hb hts inT12 hown hK hP 0 rfl rfl 27 (by decide) (hts _ tw_1912) (fun _ h9 => h9) rfl dX12_newly_240 ?_
                              refine lv_i2l (v := (n_3220).toInt64) hx hb dX12_newly_243 rfl ?_
                              refine lv_topl (fun x_3946 he_x_3946 => ?_)
                              have hq_x_3946 := z_i2l he_x_3946
                              refine lv_lmul hx hb dX12_newly_244 ?_
                              refine lv_topl (fun x_3947 he_x_3947 => ?_)
                              have hq_x_3947 := z_mulql he_x_3947 hkl_16 (rfl : x_3946.toInt = _) (by omega) (by omega)
                              refine va_put (D := G) (ci := 12) (v := .long x_3947) (ty := .long) (C := RX12) (T := TX12) (N := 65) hx hb hts inT12 tyX12 tyX12_ok nmX12 hown hK hP hD hS 0 rfl rfl 34 (by decide) (hts _ tw_1918) (fun _ h9 => h9) rfl (tyX12_ok 34 (by decide)) rfl rfl (Nat.le_of_ble_eq_true rfl) dX12_newly_245 (fun H locs hP hD hS => ?_)
                              refine lv_aload_n hx hb dX12_newly_248 rfl (lv_at hl 1 rfl) ?_
                              refine lv_iconst (v := 1) hx hb dX12_newly_249 (by decide) ?_
                              refine va_put (D := G) (ci := 12) (v := .int 1) (ty := .boolean) (C := RX12) (T := TX12) (N := 65) hx hb hts inT12 tyX12 tyX12_ok nmX12 hown hK hP hD hS 0 rfl rfl 32 (by decide) (hts _ tw_1916) (fun _ h9 => h9) rfl (tyX12_ok 32 (by decide)) rfl rfl (Nat.le_of_ble_eq_true rfl) dX12_newly_250 (fun H locs hP hD hS => ?_)
                              refine lv_aload_n hx hb dX12_newly_253 rfl (lv_at hl 1 rfl) ?_
                              refine lv_iload_n hx hb dX12_newly_254 rfl (lv_at hl 2 rfl) ?_
                              refine z_callVv (As := [.int k]) (rest := []) (wr := [(a_there, .inl (cA.1 0, 10, .inl n_3221))]) ⟨hx, hb, hml, hown, hts⟩ hK hE hT hP hD hS hA (r_take2 l G cA h0 0 0 m_above m_under a_traySort a_trayMany a_numbers a_tape m_taped m_textEnd m_faultKind m_faultAt m_bad m_badAt m_token m_at m_behind m_number m_letters m_word a_c a_words m_markMany a_there a_tried a_best a_found n_3220 m_foundMany m_orderHow m_orderRing m_orderMany 1 v_3904 x_3947 a_weights a_shared m_random m_truePlace m_trueWay m_seconds m_done m_feelings m_tries m_leftOver m_playDoor m_playRing m_isOpen m_isOver m_wasTried m_hasPlayed a_feltNow a_last a_kept m_hasSeconds m_hasTurned m_hasRound a_hasFeels a_isOn m_firstAct m_meanTop m_meanBy a_order m_rowMany m_newSteps n_3216 k (by omega) hC_n_3216 ⟨r.toInt, (by omega), zIn_RO hC_g_2414.1 hf_3219 (by omega) (by omega) (by rw [hlk.2.1]; omega) (by omega) (by rw [hlk.1]; omega) (by rw [hlk.1]; omega) (zLike_RO hi_3202 (by omega) (by omega) hC_g_c.1 hro)⟩) lk_RX12_312 ⟨rfl, rfl⟩ ⟨Nat.le_of_ble_eq_true rfl, Nat.le_of_ble_eq_true rfl⟩ 12 rfl rfl rfl [0, 1] [2] rfl rfl (by decide) rfl hl.1 rfl (lv_room (Nat.le_of_ble_eq_true rfl)) dX12_newly_255 ⟨Nat.le_of_ble_eq_true rfl, Nat.le_of_ble_eq_true rfl⟩ (fun u_3950 H locs hw hP hD hS => ?_)
                              obtain ⟨n_3948, rfl⟩ : ∃ z, z = u_3950 := ⟨_, rfl⟩
                              obtain ⟨hC_n_3948, hf_3951⟩ := hw
                              have hnl := zLike_trans hi_3202 (zIn_take hC_g_2414 hC_n_3216 hf_3219 (by omega) (by omega) (by rw [hlk.2.1]; omega) (by omega) (by rw [hlk.1]; omega) (by rw [hlk.1]; omega) (zLike_RO hi_3202 (by omega) (by omega) hC_g_c.1 hro) hf_3951) (by omega) (by omega) hC_g_c.1
                              obtain ⟨x_3952, he_x_3952⟩ : ∃ z : Int32, z = v_2408 + 1 := ⟨_, rfl⟩
                              have hq_x_3952 := z_addq he_x_3952 (rfl : v_2408.toInt = _) hk_1 (by omega) (by omega)
                              refine lv_iinc (v := x_3952) (lv' := [(5, .int x_3952), (4, .int v_2408), (0, .ref h0), (1, .int k), (2, .int r), (3, .int d), (6, .long v_3904), (8, .int v_3905)]) hx hb dX12_newly_258 hl (k := 5) rfl ((z_ofi (by decide +kernel)).trans he_x_3952.symm) (by decide) rfl (fun ls hl => ?_)
                              refine lv_goto (tgt := 110) hx hb dX12_newly_261 (by decide) ?_
                              exact ih_3206 v_2408 x_3952 n_3221 n_3220 1 v_3904 x_3947 n_3948 H locs ls (by omega) (by omega) (by omega) hC_n_3221 hr_n_3220 (Or.inr rfl) (by decide +kernel) hC_n_3948 hnl (by omega) (by omega) hP hD hS (lv_sub hl [2, 3, 4, 5, 1, 0] rfl)
                            · have b_3953 := z_fneF c_3944
                              refine lv_lload hx hb dX12_newly_215 (lv_at hl 6 rfl) ?_
                              refine lv_aload_n hx hb dX12_newly_217 rfl (lv_at hl 0 rfl) ?_
                              refine va_get (D := G) (ci := 12) (v := .long v_2412) (C := RX12) (T := TX12) (N := 65) hx hb hts inT12 hown hK hP 0 rfl rfl 33 (by decide) (hts _ tw_1917) (fun _ h9 => h9) rfl dX12_newly_218 ?_
                              refine W.lcmp hx hb dX12_newly_221 ?_
                              refine lv_if_ge (tgt := 248) hx hb dX12_newly_222 (by decide) (fun c_3954 => ?_) (fun c_3954 => ?_)
                              · have b_3955 := z_fgeTl c_3954
                                refine lv_aload_n hx hb dX12_newly_248 rfl (lv_at hl 0 rfl) ?_
                                refine lv_iconst (v := 1) hx hb dX12_newly_249 (by decide) ?_
                                refine va_put (D := G) (ci := 12) (v := .int 1) (ty := .boolean) (C := RX12) (T := TX12) (N := 65) hx hb hts inT12 tyX12 tyX12_ok nmX12 hown hK hP hD hS 0 rfl rfl 32 (by decide) (hts _ tw_1916) (fun _ h9 => h9) rfl (tyX12_ok 32 (by decide)) rfl rfl (Nat.le_of_ble_eq_true rfl) dX12_newly_250 (fun H locs hP hD hS => ?_)
                                refine lv_aload_n hx hb dX12_newly_253 rfl (lv_at hl 0 rfl) ?_
                                refine lv_iload_n hx hb dX12_newly_254 rfl (lv_at hl 1 rfl) ?_
                                refine z_callVv (As := [.int k]) (rest := []) (wr := [(a_there, .inl (cA.1 0, 10, .inl n_3221))]) ⟨hx, hb, hml, hown, hts⟩ hK hE hT hP hD hS hA (r_take2 l G cA h0 0 0 m_above m_under a_traySort a_trayMany a_numbers a_tape m_taped m_textEnd m_faultKind m_faultAt m_bad m_badAt m_token m_at m_behind m_number m_letters m_word a_c a_words m_markMany a_there a_tried a_best a_found n_3220 m_foundMany m_orderHow m_orderRing m_orderMany 1 v_2412 v_2413 a_weights a_shared m_random m_truePlace m_trueWay m_seconds m_done m_feelings m_tries m_leftOver m_playDoor m_playRing m_isOpen m_isOver m_wasTried m_hasPlayed a_feltNow a_last a_kept m_hasSeconds m_hasTurned m_hasRound a_hasFeels a_isOn m_firstAct m_meanTop m_meanBy a_order m_rowMany m_newSteps n_3216 k (by omega) hC_n_3216 ⟨r.toInt, (by omega), zIn_RO hC_g_2414.1 hf_3219 (by omega) (by omega) (by rw [hlk.2.1]; omega) (by omega) (by rw [hlk.1]; omega) (by rw [hlk.1]; omega) (zLike_RO hi_3202 (by omega) (by omega) hC_g_c.1 hro)⟩) lk_RX12_312 ⟨rfl, rfl⟩ ⟨Nat.le_of_ble_eq_true rfl, Nat.le_of_ble_eq_true rfl⟩ 12 rfl rfl rfl [0, 1] [2] rfl rfl (by decide) rfl hl.1 rfl (lv_room (Nat.le_of_ble_eq_true rfl)) dX12_newly_255 ⟨Nat.le_of_ble_eq_true rfl, Nat.le_of_ble_eq_true rfl⟩ (fun u_3958 H locs hw hP hD hS => ?_)
                                obtain ⟨n_3956, rfl⟩ : ∃ z, z = u_3958 := ⟨_, rfl⟩
                                obtain ⟨hC_n_3956, hf_3959⟩ := hw
                                have hnl := zLike_trans hi_3202 (zIn_take hC_g_2414 hC_n_3216 hf_3219 (by omega) (by omega) (by rw [hlk.2.1]; omega) (by omega) (by rw [hlk.1]; omega) (by rw [hlk.1]; omega) (zLike_RO hi_3202 (by omega) (by omega) hC_g_c.1 hro) hf_3959) (by omega) (by omega) hC_g_c.1
                                obtain ⟨x_3960, he_x_3960⟩ : ∃ z : Int32, z = v_2408 + 1 := ⟨_, rfl⟩
                                have hq_x_3960 := z_addq he_x_3960 (rfl : v_2408.toInt = _) hk_1 (by omega) (by omega)
                                refine lv_iinc (v := x_3960) (lv' := [(5, .int x_3960), (0, .ref h0), (1, .int k), (2, .int r), (3, .int d), (4, .int v_2407), (6, .long v_3904), (8, .int v_3905)]) hx hb dX12_newly_258 hl (k := 5) rfl ((z_ofi (by decide +kernel)).trans he_x_3960.symm) (by decide) rfl (fun ls hl => ?_)
                                refine lv_goto (tgt := 110) hx hb dX12_newly_261 (by decide) ?_
                                exact ih_3206 v_2407 x_3960 n_3221 n_3220 1 v_2412 v_2413 n_3956 H locs ls (by omega) hr_v_2407 (by omega) hC_n_3221 hr_n_3220 (Or.inr rfl) (by decide +kernel) hC_n_3956 hnl (by omega) (by omega) hP hD hS (lv_sub hl [1, 2, 3, 4, 5, 0] rfl)
                              · have b_3961 := z_fltFl c_3954
                                refine lv_iload hx hb dX12_newly_225 (lv_at hl 5 rfl) ?_
                                refine lv_istore (lv' := [(4, .int v_2408), (0, .ref h0), (1, .int k), (2, .int r), (3, .int d), (5, .int v_2408), (6, .long v_3904), (8, .int v_3905)]) hx hb dX12_newly_227 hl (by decide) rfl (fun ls hl => ?_)
                                refine lv_aload_n hx hb dX12_newly_229 rfl (lv_at hl 1 rfl) ?_
                                refine lv_lload hx hb dX12_newly_230 (lv_at hl 6 rfl) ?_
                                refine va_put (D := G) (ci := 12) (v := .long v_3904) (ty := .long) (C := RX12) (T := TX12) (N := 65) hx hb hts inT12 tyX12 tyX12_ok nmX12 hown hK hP hD hS 0 rfl rfl 33 (by decide) (hts _ tw_1917) (fun _ h9 => h9) rfl (tyX12_ok 33 (by decide)) rfl rfl (Nat.le_of_ble_eq_true rfl) dX12_newly_232 (fun H locs hP hD hS => ?_)
                                refine lv_aload_n hx hb dX12_newly_235 rfl (lv_at hl 1 rfl) ?_
                                refine lv_ldc2 (v := 16) hx hb hown (hts _ tw_2470) dX12_newly_236 ?_
                                refine lv_aload_n hx hb dX12_newly_239 rfl (lv_at hl 1 rfl) ?_
                                refine va_get (D := G) (ci := 12) (v := .int n_3220) (C := RX12) (T := TX12) (N := 65) hx hb hts inT12 hown hK hP 0 rfl rfl 27 (by decide) (hts _ tw_1912) (fun _ h9 => h9) rfl dX12_newly_240 ?_
                                refine lv_i2l (v := (n_3220).toInt64) hx hb dX12_newly_243 rfl ?_
                                refine lv_topl (fun x_3962 he_x_3962 => ?_)
                                have hq_x_3962 := z_i2l he_x_3962
                                refine lv_lmul hx hb dX12_newly_244 ?_
                                refine lv_topl (fun x_3963 he_x_3963 => ?_)
                                have hq_x_3963 := z_mulql he_x_3963 hkl_16 (rfl : x_3962.toInt = _) (by omega) (by omega)
                                refine va_put (D := G) (ci := 12) (v := .long x_3963) (ty := .long) (C := RX12) (T := TX12) (N := 65) hx hb hts inT12 tyX12 tyX12_ok nmX12 hown hK hP hD hS 0 rfl rfl 34 (by decide) (hts _ tw_1918) (fun _ h9 => h9) rfl (tyX12_ok 34 (by decide)) rfl rfl (Nat.le_of_ble_eq_true rfl) dX12_newly_245 (fun H locs hP hD hS => ?_)
                                refine lv_aload_n hx hb dX12_newly_248 rfl (lv_at hl 1 rfl) ?_
                                refine lv_iconst (v := 1) hx hb dX12_newly_249 (by decide) ?_
                                refine va_put (D := G) (ci := 12) (v := .int 1) (ty := .boolean) (C := RX12) (T := TX12) (N := 65) hx hb hts inT12 tyX12 tyX12_ok nmX12 hown hK hP hD hS 0 rfl rfl 32 (by decide) (hts _ tw_1916) (fun _ h9 => h9) rfl (tyX12_ok 32 (by decide)) rfl rfl (Nat.le_of_ble_eq_true rfl) dX12_newly_250 (fun H locs hP hD hS => ?_)
                                refine lv_aload_n hx hb dX12_newly_253 rfl (lv_at hl 1 rfl) ?_
                                refine lv_iload_n hx hb dX12_newly_254 rfl (lv_at hl 2 rfl) ?_
                                refine z_callVv (As := [.int k]) (rest := []) (wr := [(a_there, .inl (cA.1 0, 10, .inl n_3221))]) ⟨hx, hb, hml, hown, hts⟩ hK hE hT hP hD hS hA (r_take2 l G cA h0 0 0 m_above m_under a_traySort a_trayMany a_numbers a_tape m_taped m_textEnd m_faultKind m_faultAt m_bad m_badAt m_token m_at m_behind m_number m_letters m_word a_c a_words m_markMany a_there a_tried a_best a_found n_3220 m_foundMany m_orderHow m_orderRing m_orderMany 1 v_3904 x_3963 a_weights a_shared m_random m_truePlace m_trueWay m_seconds m_done m_feelings m_tries m_leftOver m_playDoor m_playRing m_isOpen m_isOver m_wasTried m_hasPlayed a_feltNow a_last a_kept m_hasSeconds m_hasTurned m_hasRound a_hasFeels a_isOn m_firstAct m_meanTop m_meanBy a_order m_rowMany m_newSteps n_3216 k (by omega) hC_n_3216 ⟨r.toInt, (by omega), zIn_RO hC_g_2414.1 hf_3219 (by omega) (by omega) (by rw [hlk.2.1]; omega) (by omega) (by rw [hlk.1]; omega) (by rw [hlk.1]; omega) (zLike_RO hi_3202 (by omega) (by omega) hC_g_c.1 hro)⟩) lk_RX12_312 ⟨rfl, rfl⟩ ⟨Nat.le_of_ble_eq_true rfl, Nat.le_of_ble_eq_true rfl⟩ 12 rfl rfl rfl [0, 1] [2] rfl rfl (by decide) rfl hl.1 rfl (lv_room (Nat.le_of_ble_eq_true rfl)) dX12_newly_255 ⟨Nat.le_of_ble_eq_true rfl, Nat.le_of_ble_eq_true rfl⟩ (fun u_3966 H locs hw hP hD hS => ?_)
                                obtain ⟨n_3964, rfl⟩ : ∃ z, z = u_3966 := ⟨_, rfl⟩
                                obtain ⟨hC_n_3964, hf_3967⟩ := hw
                                have hnl := zLike_trans hi_3202 (zIn_take hC_g_2414 hC_n_3216 hf_3219 (by omega) (by omega) (by rw [hlk.2.1]; omega) (by omega) (by rw [hlk.1]; omega) (by rw [hlk.1]; omega) (zLike_RO hi_3202 (by omega) (by omega) hC_g_c.1 hro) hf_3967) (by omega) (by omega) hC_g_c.1
                                obtain ⟨x_3968, he_x_3968⟩ : ∃ z : Int32, z = v_2408 + 1 := ⟨_, rfl⟩
                                have hq_x_3968 := z_addq he_x_3968 (rfl : v_2408.toInt = _) hk_1 (by omega) (by omega)
                                refine lv_iinc (v := x_3968) (lv' := [(5, .int x_3968), (4, .int v_2408), (0, .ref h0), (1, .int k), (2, .int r), (3, .int d), (6, .long v_3904), (8, .int v_3905)]) hx hb dX12_newly_258 hl (k := 5) rfl ((z_ofi (by decide +kernel)).trans he_x_3968.symm) (by decide) rfl (fun ls hl => ?_)
                                refine lv_goto (tgt := 110) hx hb dX12_newly_261 (by decide) ?_
                                exact ih_3206 v_2408 x_3968 n_3221 n_3220 1 v_3904 x_3963 n_3964 H locs ls (by omega) (by omega) (by omega) hC_n_3221 hr_n_3220 (Or.inr rfl) (by decide +kernel) hC_n_3964 hnl (by omega) (by omega) hP hD hS (lv_sub hl [2, 3, 4, 5, 1, 0] rfl)
                          · have b_3969 := z_fltF c_3942
                            refine lv_lload hx hb dX12_newly_154 (lv_at hl 6 rfl) ?_
                            refine lv_iload hx hb dX12_newly_156 (lv_at hl 7 rfl) ?_
                            refine lv_iconst (v := 2) hx hb dX12_newly_158 (by decide) ?_
                            refine lv_irem hx hb dX12_newly_159 (by decide +kernel) ?_
                            refine lv_topi (fun x_3970 he_x_3970 => ?_)
                            have hq_x_3970 := z_remq he_x_3970 (rfl : v_3905.toInt = _) hk_2 (by omega) (by decide)
                            refine lv_if_ne (tgt := 176) hx hb dX12_newly_160 (by decide) (fun c_3971 => ?_) (fun c_3971 => ?_)
                            · have b_3972 := z_fneT c_3971
                              refine lv_aload_n hx hb dX12_newly_176 rfl (lv_at hl 0 rfl) ?_
                              refine va_get (D := G) (ci := 12) (v := .ref a_c) (C := RX12) (T := TX12) (N := 65) hx hb hts inT12 hown hK hP 0 rfl rfl 20 (by decide) (hts _ tw_1905) (fun _ h9 => h9) rfl dX12_newly_177 ?_
                              refine lv_bipush (v := 9) hx hb dX12_newly_180 (by decide) ?_
                              refine va_iald hx hb hK hP 1 0 rfl rfl (z_in (i := 9) (n := 1825) (by decide +kernel) (by decide +kernel)) dX12_newly_182 ?_
                              refine lv_topi (fun x_3973 he_x_3973 => ?_)
                              refine lv_i2l (v := (x_3973).toInt64) hx hb dX12_newly_183 rfl ?_
                              refine lv_topl (fun x_3974 he_x_3974 => ?_)
                              have hq_x_3974 := z_i2l he_x_3974
                              have hL_x_3973 := z_full x_3973
                              refine lv_aload_n hx hb dX12_newly_184 rfl (lv_at hl 0 rfl) ?_
                              refine lv_iload_n hx hb dX12_newly_185 rfl (lv_at hl 3 rfl) ?_
                              refine lv_iload hx hb dX12_newly_186 (lv_at hl 7 rfl) ?_
                              refine lv_iconst (v := 2) hx hb dX12_newly_188 (by decide) ?_
                              refine lv_idiv hx hb dX12_newly_189 (by decide +kernel) ?_
                              refine lv_topi (fun x_3975 he_x_3975 => ?_)
                              have hq_x_3975 := z_divq he_x_3975 (rfl : v_3905.toInt = _) hk_2 (by omega) (by decide)
                              refine lv_iload hx hb dX12_newly_190 (lv_at hl 7 rfl) ?_
                              refine lv_iconst (v := 2) hx hb dX12_newly_192 (by decide) ?_
                              refine lv_irem hx hb dX12_newly_193 (by decide +kernel) ?_
                              refine lv_topi (fun x_3976 he_x_3976 => ?_)
                              have hq_x_3976 := z_remq he_x_3976 (rfl : v_3905.toInt = _) hk_2 (by omega) (by decide)
                              refine z_callVi (As := [.int d, .int x_3975, .int x_3976]) (rest := [.long x_3974, .long v_3904]) (wr := []) ⟨hx, hb, hml, hown, hts⟩ hK hE hT hP hD hS hA (r_search l G cA h0 0 0 m_above m_under a_traySort a_trayMany a_numbers a_tape m_taped m_textEnd m_faultKind m_faultAt m_bad m_badAt m_token m_at m_behind m_number m_letters m_word a_c a_words m_markMany a_there a_tried a_best a_found n_3220 m_foundMany m_orderHow m_orderRing m_orderMany v_2411 v_2412 v_2413 a_weights a_shared m_random m_truePlace m_trueWay m_seconds m_done m_feelings m_tries m_leftOver m_playDoor m_playRing m_isOpen m_isOver m_wasTried m_hasPlayed a_feltNow a_last a_kept m_hasSeconds m_hasTurned m_hasRound a_hasFeels a_isOn m_firstAct m_meanTop m_meanBy a_order m_rowMany m_newSteps n_3216 n_3221 d x_3975 x_3976 (by omega) (by omega) (by omega) hr_n_3220 hC_n_3216 hC_n_3221 (by omega)) lk_RX12_387 ⟨rfl, rfl⟩ ⟨Nat.le_of_ble_eq_true rfl, Nat.le_of_ble_eq_true rfl⟩ 12 rfl rfl rfl [0, 1, 2] [] rfl rfl (by decide) rfl hl.1 rfl (lv_room (Nat.le_of_ble_eq_true rfl)) dX12_newly_194 ⟨Nat.le_of_ble_eq_true rfl, Nat.le_of_ble_eq_true rfl⟩ (fun r_3977 u_3978 H locs hw hP hD hS => ?_)
                              obtain ⟨hr_r_3977, hf_3979, hf_3980⟩ := hw
                              refine lv_i2l (v := (r_3977).toInt64) hx hb dX12_newly_197 rfl ?_
                              refine lv_topl (fun x_3981 he_x_3981 => ?_)
                              have hq_x_3981 := z_i2l he_x_3981
                              refine lv_lmul hx hb dX12_newly_198 ?_
                              refine lv_topl (fun x_3982 he_x_3982 => ?_)
                              refine lv_ladd hx hb dX12_newly_199 ?_
                              have hL_v_3904 := z_fulll v_3904
                              have hL_x_3982 := z_fulll x_3982
                              refine lv_topl (fun x_3983 he_x_3983 => ?_)
                              refine lv_lstore (lv' := [(6, .long x_3983), (0, .ref h0), (1, .int k), (2, .int r), (3, .int d), (4, .int v_2407), (5, .int v_2408), (8, .int v_3905)]) hx hb dX12_newly_200 hl (by decide) rfl (fun ls hl => ?_)
                              obtain ⟨x_3984, he_x_3984⟩ : ∃ z : Int32, z = v_3905 + 1 := ⟨_, rfl⟩
                              have hq_x_3984 := z_addq he_x_3984 (rfl : v_3905.toInt = _) hk_1 (by omega) (by omega)
                              refine lv_iinc (v := x_3984) (lv' := [(8, .int x_3984), (6, .long x_3983), (0, .ref h0), (1, .int k), (2, .int r), (3, .int d), (4, .int v_2407), (5, .int v_2408)]) hx hb dX12_newly_202 hl (k := 7) rfl ((z_ofi (by decide +kernel)).trans he_x_3984.symm) (by decide) rfl (fun ls hl => ?_)
                              refine lv_goto (tgt := 143) hx hb dX12_newly_205 (by decide) ?_
                              exact ih_3940 x_3983 x_3984 H locs ls (by omega) (by omega) hP hD hS (lv_sub hl [2, 3, 4, 5, 6, 7, 1, 0] rfl)
                            · have b_3985 := z_feqF c_3971
                              refine lv_bipush (v := 16) hx hb dX12_newly_163 (by decide) ?_
                              refine lv_aload_n hx hb dX12_newly_165 rfl (lv_at hl 0 rfl) ?_
                              refine va_get (D := G) (ci := 12) (v := .ref a_c) (C := RX12) (T := TX12) (N := 65) hx hb hts inT12 hown hK hP 0 rfl rfl 20 (by decide) (hts _ tw_1905) (fun _ h9 => h9) rfl dX12_newly_166 ?_
                              refine lv_bipush (v := 9) hx hb dX12_newly_169 (by decide) ?_
                              refine va_iald hx hb hK hP 1 0 rfl rfl (z_in (i := 9) (n := 1825) (by decide +kernel) (by decide +kernel)) dX12_newly_171 ?_
                              refine lv_topi (fun x_3986 he_x_3986 => ?_)
                              refine lv_isub hx hb dX12_newly_172 ?_
                              have hL_x_3986 := z_full x_3986
                              refine lv_topi (fun x_3987 he_x_3987 => ?_)
                              refine lv_goto (tgt := 183) hx hb dX12_newly_173 (by decide) ?_
                              refine lv_i2l (v := (x_3987).toInt64) hx hb dX12_newly_183 rfl ?_
                              refine lv_topl (fun x_3988 he_x_3988 => ?_)
                              have hq_x_3988 := z_i2l he_x_3988
                              have hL_x_3987 := z_full x_3987
                              refine lv_aload_n hx hb dX12_newly_184 rfl (lv_at hl 0 rfl) ?_
                              refine lv_iload_n hx hb dX12_newly_185 rfl (lv_at hl 3 rfl) ?_
                              refine lv_iload hx hb dX12_newly_186 (lv_at hl 7 rfl) ?_
                              refine lv_iconst (v := 2) hx hb dX12_newly_188 (by decide) ?_
                              refine lv_idiv hx hb dX12_newly_189 (by decide +kernel) ?_
                              refine lv_topi (fun x_3989 he_x_3989 => ?_)
                              have hq_x_3989 := z_divq he_x_3989 (rfl : v_3905.toInt = _) hk_2 (by omega) (by decide)
                              refine lv_iload hx hb dX12_newly_190 (lv_at hl 7 rfl) ?_
                              refine lv_iconst (v := 2) hx hb dX12_newly_192 (by decide) ?_
                              refine lv_irem hx hb dX12_newly_193 (by decide +kernel) ?_
                              refine lv_topi (fun x_3990 he_x_3990 => ?_)
                              have hq_x_3990 := z_remq he_x_3990 (rfl : v_3905.toInt = _) hk_2 (by omega) (by decide)
                              refine z_callVi (As := [.int d, .int x_3989, .int x_3990]) (rest := [.long x_3988, .long v_3904]) (wr := []) ⟨hx, hb, hml, hown, hts⟩ hK hE hT hP hD hS hA (r_search l G cA h0 0 0 m_above m_under a_traySort a_trayMany a_numbers a_tape m_taped m_textEnd m_faultKind m_faultAt m_bad m_badAt m_token m_at m_behind m_number m_letters m_word a_c a_words m_markMany a_there a_tried a_best a_found n_3220 m_foundMany m_orderHow m_orderRing m_orderMany v_2411 v_2412 v_2413 a_weights a_shared m_random m_truePlace m_trueWay m_seconds m_done m_feelings m_tries m_leftOver m_playDoor m_playRing m_isOpen m_isOver m_wasTried m_hasPlayed a_feltNow a_last a_kept m_hasSeconds m_hasTurned m_hasRound a_hasFeels a_isOn m_firstAct m_meanTop m_meanBy a_order m_rowMany m_newSteps n_3216 n_3221 d x_3989 x_3990 (by omega) (by omega) (by omega) hr_n_3220 hC_n_3216 hC_n_3221 (by omega)) lk_RX12_387 ⟨rfl, rfl⟩ ⟨Nat.le_of_ble_eq_true rfl, Nat.le_of_ble_eq_true rfl⟩ 12 rfl rfl rfl [0, 1, 2] [] rfl rfl (by decide) rfl hl.1 rfl (lv_room (Nat.le_of_ble_eq_true rfl)) dX12_newly_194 ⟨Nat.le_of_ble_eq_true rfl, Nat.le_of_ble_eq_true rfl⟩ (fun r_3991 u_3992 H locs hw hP hD hS => ?_)
                              obtain ⟨hr_r_3991, hf_3993, hf_3994⟩ := hw
                              refine lv_i2l (v := (r_3991).toInt64) hx hb dX12_newly_197 rfl ?_
                              refine lv_topl (fun x_3995 he_x_3995 => ?_)
                              have hq_x_3995 := z_i2l he_x_3995
                              refine lv_lmul hx hb dX12_newly_198 ?_
                              refine lv_topl (fun x_3996 he_x_3996 => ?_)
                              refine lv_ladd hx hb dX12_newly_199 ?_
                              have hL_v_3904 := z_fulll v_3904
                              have hL_x_3996 := z_fulll x_3996
                              refine lv_topl (fun x_3997 he_x_3997 => ?_)
                              refine lv_lstore (lv' := [(6, .long x_3997), (0, .ref h0), (1, .int k), (2, .int r), (3, .int d), (4, .int v_2407), (5, .int v_2408), (8, .int v_3905)]) hx hb dX12_newly_200 hl (by decide) rfl (fun ls hl => ?_)
                              obtain ⟨x_3998, he_x_3998⟩ : ∃ z : Int32, z = v_3905 + 1 := ⟨_, rfl⟩
                              have hq_x_3998 := z_addq he_x_3998 (rfl : v_3905.toInt = _) hk_1 (by omega) (by omega)
                              refine lv_iinc (v := x_3998) (lv' := [(8, .int x_3998), (6, .long x_3997), (0, .ref h0), (1, .int k), (2, .int r), (3, .int d), (4, .int v_2407), (5, .int v_2408)]) hx hb dX12_newly_202 hl (k := 7) rfl ((z_ofi (by decide +kernel)).trans he_x_3998.symm) (by decide) rfl (fun ls hl => ?_)
                              refine lv_goto (tgt := 143) hx hb dX12_newly_205 (by decide) ?_
                              exact ih_3940 x_3997 x_3998 H locs ls (by omega) (by omega) hP hD hS (lv_sub hl [2, 3, 4, 5, 6, 7, 1, 0] rfl)
                      exact hlp_3939 _ 0 0 _ _ _ (Nat.lt_succ_self _) (by decide +kernel) hP hD hS (lv_sub hl [2, 3, 4, 5, 6, 7, 1, 0] rfl)
                exact hlp_3205 _ 0 0 n_37 n_36 0 m_bestTop m_bestBy g_c _ _ _ (Nat.lt_succ_self _) (by decide +kernel) (by decide +kernel) hC_n_37 hr_n_36 (Or.inl rfl) (by decide +kernel) hC_g_c (zLike_refl _) (by omega) (by omega) hP hD hS (lv_sub hl [2, 3, 4, 5, 1, 0] rfl)
            · skip
              refine lv_if_ne (tgt := 99) hx hb dX12_newly_80 (by decide) (fun _ => ?_) (fun h9 => absurd h9 (by decide +kernel))
              refine lv_iconst (v := 0) hx hb dX12_newly_99 (by decide) ?_
              refine lv_istore (lv' := [(4, .int 0), (0, .ref h0), (1, .int k), (2, .int r), (3, .int d)]) hx hb dX12_newly_100 hl (by decide) rfl (fun ls hl => ?_)
              refine lv_aload_n hx hb dX12_newly_102 rfl (lv_at hl 1 rfl) ?_
              refine lv_iconst (v := 0) hx hb dX12_newly_103 (by decide) ?_
              refine va_put (D := G) (ci := 12) (v := .int 0) (ty := .boolean) (C := RX12) (T := TX12) (N := 65) hx hb hts inT12 tyX12 tyX12_ok nmX12 hown hK hP hD hS 0 rfl rfl 32 (by decide) (hts _ tw_1916) (fun _ h9 => h9) rfl (tyX12_ok 32 (by decide)) rfl rfl (Nat.le_of_ble_eq_true rfl) dX12_newly_104 (fun H locs hP hD hS => ?_)
              have hro := zRO_neg hf_25 (by omega)
              have hS9 : (g_c (95 + r.toInt.toNat)).toInt ≤ 9 := zRoom hC_g_c (by omega) (by omega) (by omega) (by omega) (by omega) (zRO_noring hro (by omega) (by omega))
              have hln : (g_c (150 + k.toInt.toNat)).toInt ≠ 1 := by rw [← hlen_x_33]; omega
              refine lv_iconst (v := 0) hx hb dX12_newly_107 (by decide) ?_
              refine lv_istore (lv' := [(5, .int 0), (4, .int 0), (0, .ref h0), (1, .int k), (2, .int r), (3, .int d)]) hx hb dX12_newly_108 hl (by decide) rfl (fun ls hl => ?_)
              have hlp_7153 : ∀ (n : Nat) (v_6355 : Int32) (v_6356 : Int32) (v_6357 : Int32) (v_6358 : Int32) (v_6359 : Int64) (v_6360 : Int64) (g_6361 : Nat → Int32) (g_6362 : Nat → Int32) (H : Heap) (locs : List Loc) (ls : Array Slot), (2147483647 - v_6356.toInt).toNat < n → (0 ≤ v_6355.toInt ∧ v_6355.toInt ≤ 9) → (0 ≤ v_6356.toInt ∧ v_6356.toInt ≤ 10) → (0 ≤ v_6357.toInt ∧ v_6357.toInt ≤ 10) → (v_6358 = 0 ∨ v_6358 = 1) → (0 ≤ v_6358.toInt ∧ v_6358.toInt ≤ 1) → (zC g_6361) → (zRg 10 0 9 g_6362) → (zLike g_c g_6361 r.toInt) → (v_6356.toInt ≤ 0 ∨ v_6358.toInt = 1) → (v_6358.toInt ≤ 0 ∨ 1 ≤ v_6360.toInt) → va_P G vwCl [(h0, .inr (12, [.int 0, .int 0, .long m_above, .long m_under, .ref a_traySort, .ref a_trayMany, .ref a_numbers, .ref a_tape, .int m_taped, .int m_textEnd, .int m_faultKind, .int m_faultAt, .int m_bad, .int m_badAt, .int m_token, .int m_at, .int m_behind, .int m_number, .int m_letters, .long m_word, .ref a_c, .ref a_words, .int m_markMany, .ref a_there, .ref a_tried, .ref a_best, .ref a_found, .int v_6357, .int m_foundMany, .int m_orderHow, .int m_orderRing, .int m_orderMany, .int v_6358, .long v_6359, .long v_6360, .ref a_weights, .ref a_shared, .int m_random, .int m_truePlace, .int m_trueWay, .int m_seconds, .int m_done, .int m_feelings, .int m_tries, .int m_leftOver, .int m_playDoor, .int m_playRing, .int m_isOpen, .int m_isOver, .int m_wasTried, .int m_hasPlayed, .ref a_feltNow, .ref a_last, .ref a_kept, .int m_hasSeconds, .int m_hasTurned, .int m_hasRound, .ref a_hasFeels, .ref a_isOn, .int m_firstAct, .long m_meanTop, .long m_meanBy, .ref a_order, .int m_rowMany, .int m_newSteps])), (a_c, .inl (cA.1 0, 1825, .inl g_6361)), (a_there, .inl (cA.1 0, 10, .inl g_6362))] H → va_D A [(h0, .inr (12, [.int 0, .int 0, .long m_above, .long m_under, .ref a_traySort, .ref a_trayMany, .ref a_numbers, .ref a_tape, .int m_taped, .int m_textEnd, .int m_faultKind, .int m_faultAt, .int m_bad, .int m_badAt, .int m_token, .int m_at, .int m_behind, .int m_number, .int m_letters, .long m_word, .ref a_c, .ref a_words, .int m_markMany, .ref a_there, .ref a_tried, .ref a_best, .ref a_found, .int v_6357, .int m_foundMany, .int m_orderHow, .int m_orderRing, .int m_orderMany, .int v_6358, .long v_6359, .long v_6360, .ref a_weights, .ref a_shared, .int m_random, .int m_truePlace, .int m_trueWay, .int m_seconds, .int m_done, .int m_feelings, .int m_tries, .int m_leftOver, .int m_playDoor, .int m_playRing, .int m_isOpen, .int m_isOver, .int m_wasTried, .int m_hasPlayed, .ref a_feltNow, .ref a_last, .ref a_kept, .int m_hasSeconds, .int m_hasTurned, .int m_hasRound, .ref a_hasFeels, .ref a_isOn, .int m_firstAct, .long m_meanTop, .long m_meanBy, .ref a_order, .int m_rowMany, .int m_newSteps])), (a_c, .inl (cA.1 0, 1825, .inl g_6361)), (a_there, .inl (cA.1 0, 10, .inl g_6362))] → va_S A s.heap H locs → lv_has ls 9 [(0, .ref h0), (1, .int k), (2, .int r), (3, .int d), (4, .int v_6355), (5, .int v_6356)] → W p l e ({ frames := 3, cells := 0, slots := 0, locals := 69 }) s m args below meth c H locs 0 0 Q (F0 m 110 ls []) := by
                intro n
                induction n with
                | zero =>
                  intro v_6355 v_6356 v_6357 v_6358 v_6359 v_6360 g_6361 g_6362 H locs ls hmu_hlp_7153 hr_v_6355 hr_v_6356 hr_v_6357 hz_v_6358 hr_v_6358 hC_g_6361 hC_g_6362 hi_7150 hi_7151 hi_7152 hP hD hS hl
                  exact absurd hmu_hlp_7153 (Nat.not_lt_zero _)
                | succ n ih_7154 =>
                  intro v_6355 v_6356 v_6357 v_6358 v_6359 v_6360 g_6361 g_6362 H locs ls hmu_hlp_7153 hr_v_6355 hr_v_6356 hr_v_6357 hz_v_6358 hr_v_6358 hC_g_6361 hC_g_6362 hi_7150 hi_7151 hi_7152 hP hD hS hl
                  refine lv_iload hx hb dX12_newly_110 (lv_at hl 5 rfl) ?_
                  refine lv_aload_n hx hb dX12_newly_112 rfl (lv_at hl 0 rfl) ?_
                  refine va_get (D := G) (ci := 12) (v := .ref a_c) (C := RX12) (T := TX12) (N := 65) hx hb hts inT12 hown hK hP 0 rfl rfl 20 (by decide) (hts _ tw_1905) (fun _ h9 => h9) rfl dX12_newly_113 ?_
                  refine lv_bipush (v := 95) hx hb dX12_newly_116 (by decide) ?_
                  refine lv_iload_n hx hb dX12_newly_118 rfl (lv_at hl 2 rfl) ?_
                  refine lv_iadd hx hb dX12_newly_119 ?_
                  refine lv_topi (fun x_7155 he_x_7155 => ?_)
                  have hq_x_7155 := z_addq he_x_7155 hk_95 (rfl : r.toInt = _) (by omega) (by omega)
                  refine va_iald hx hb hK hP 1 0 rfl rfl (z_inN (by omega) (by omega)) dX12_newly_120 ?_
                  refine lv_topi (fun x_7156 he_x_7156 => ?_)
                  have hr_x_7156 := z_ct hC_g_6361 he_x_7156 (a := 95) (b := 97) (lo := 0) (hi := 10) (by decide +kernel) (by decide) (by omega) (by omega)
                  have hlk := zLike_sz hi_7150 (by omega) (by omega) hC_g_c.1
                  have hyS : x_7156.toInt = (g_c (95 + r.toInt.toNat)).toInt := by rw [z_at he_x_7156 (a := 95 + r.toInt.toNat) (by omega), hlk.1]
                  have hy9 : 0 ≤ x_7156.toInt ∧ x_7156.toInt ≤ 9 := by omega
                  refine lv_icmp_gt (tgt := 264) hx hb dX12_newly_121 (by decide) (fun c_7157 => ?_) (fun c_7157 => ?_)
                  · have b_7158 := z_fgtT c_7157
                    refine lv_aload_n hx hb dX12_newly_264 rfl (lv_at hl 0 rfl) ?_
                    refine lv_aload_n hx hb dX12_newly_265 rfl (lv_at hl 0 rfl) ?_
                    refine va_get (D := G) (ci := 12) (v := .long v_6359) (C := RX12) (T := TX12) (N := 65) hx hb hts inT12 hown hK hP 0 rfl rfl 33 (by decide) (hts _ tw_1917) (fun _ h9 => h9) rfl dX12_newly_266 ?_
                    refine lv_aload_n hx hb dX12_newly_269 rfl (lv_at hl 0 rfl) ?_
                    refine va_get (D := G) (ci := 12) (v := .long v_6360) (C := RX12) (T := TX12) (N := 65) hx hb hts inT12 hown hK hP 0 rfl rfl 34 (by decide) (hts _ tw_1918) (fun _ h9 => h9) rfl dX12_newly_270 ?_
                    refine z_callVi (As := [.long v_6359, .long v_6360]) (rest := []) (wr := [(a_c, .inl (cA.1 0, 1825, .inl g_6361)), (a_there, .inl (cA.1 0, 10, .inl g_6362))]) ⟨hx, hb, hml, hown, hts⟩ hK hE hT hP hD hS hA (r_fraction l G cA h0 0 0 m_above m_under a_traySort a_trayMany a_numbers a_tape m_taped m_textEnd m_faultKind m_faultAt m_bad m_badAt m_token m_at m_behind m_number m_letters m_word a_c a_words m_markMany a_there a_tried a_best a_found v_6357 m_foundMany m_orderHow m_orderRing m_orderMany v_6358 v_6359 v_6360 a_weights a_shared m_random m_truePlace m_trueWay m_seconds m_done m_feelings m_tries m_leftOver m_playDoor m_playRing m_isOpen m_isOver m_wasTried m_hasPlayed a_feltNow a_last a_kept m_hasSeconds m_hasTurned m_hasRound a_hasFeels a_isOn m_firstAct m_meanTop m_meanBy a_order m_rowMany m_newSteps v_6359 v_6360 (by omega)) lk_RX12_352 ⟨rfl, rfl⟩ ⟨Nat.le_of_ble_eq_true rfl, Nat.le_of_ble_eq_true rfl⟩ 12 rfl rfl rfl [0] [1, 2] rfl rfl (by decide) rfl hl.1 rfl (lv_room (Nat.le_of_ble_eq_true rfl)) dX12_newly_273 ⟨Nat.le_of_ble_eq_true rfl, Nat.le_of_ble_eq_true rfl⟩ (fun r_7161 u_7162 H locs hw hP hD hS => ?_)
                    obtain ⟨n_7159, n_7160⟩ := u_7162
                    try dsimp only at hw
                    obtain ⟨rfl, -⟩ := hw
                    refine lv_pop hx hb dX12_newly_276 rfl ?_
                    refine lv_iload hx hb dX12_newly_277 (lv_at hl 4 rfl) ?_
                    have hpost : ((-1) ≤ v_6355.toInt ∧ v_6355.toInt ≤ 9) ∧ (0 ≤ (0 : Int32).toInt ∧ (0 : Int32).toInt ≤ 0) ∧ (0 ≤ v_6357.toInt ∧ v_6357.toInt ≤ 10) ∧ (zRg 10 0 9 g_6362) ∧ (v_6358 = 0 ∨ v_6358 = 1) ∧ (0 ≤ v_6358.toInt ∧ v_6358.toInt ≤ 1) ∧ (zC g_6361) := ⟨(z_rgw hr_v_6355 (by decide) (by decide)), (by decide +kernel), hr_v_6357, hC_g_6362, hz_v_6358, hr_v_6358, hC_g_6361⟩
                    exact hret _ _ _ _ _ _ (0, 0, v_6357, g_6362, n_7159, n_7160, v_6358, v_6359, v_6360, g_6361) [2, 0, 1] hP hD hS rfl (by decide) dX12_newly_279 hpost
                  · have b_7163 := z_fleF c_7157
                    refine lv_aload_n hx hb dX12_newly_124 rfl (lv_at hl 0 rfl) ?_
                    refine lv_iload_n hx hb dX12_newly_125 rfl (lv_at hl 1 rfl) ?_
                    refine lv_iload_n hx hb dX12_newly_126 rfl (lv_at hl 2 rfl) ?_
                    refine lv_iload hx hb dX12_newly_127 (lv_at hl 5 rfl) ?_
                    refine z_callVv (As := [.int k, .int r, .int v_6356]) (rest := []) (wr := [(a_there, .inl (cA.1 0, 10, .inl g_6362))]) ⟨hx, hb, hml, hown, hts⟩ hK hE hT hP hD hS hA (r_insert l G cA h0 0 0 m_above m_under a_traySort a_trayMany a_numbers a_tape m_taped m_textEnd m_faultKind m_faultAt m_bad m_badAt m_token m_at m_behind m_number m_letters m_word a_c a_words m_markMany a_there a_tried a_best a_found v_6357 m_foundMany m_orderHow m_orderRing m_orderMany v_6358 v_6359 v_6360 a_weights a_shared m_random m_truePlace m_trueWay m_seconds m_done m_feelings m_tries m_leftOver m_playDoor m_playRing m_isOpen m_isOver m_wasTried m_hasPlayed a_feltNow a_last a_kept m_hasSeconds m_hasTurned m_hasRound a_hasFeels a_isOn m_firstAct m_meanTop m_meanBy a_order m_rowMany m_newSteps g_6361 k r v_6356 (by omega) (by omega) hr_v_6356 hC_g_6361 (by first | (rw [hlk.2.1]; omega) | (rw [hlk.2.2]; omega) | (rw [hlk.1]; omega)) (by first | (rw [hlk.2.1]; omega) | (rw [hlk.2.2]; omega) | (rw [hlk.1]; omega)) (by first | (rw [hlk.2.1]; omega) | (rw [hlk.2.2]; omega) | (rw [hlk.1]; omega)) (zLike_RO hi_7150 (by omega) (by omega) hC_g_c.1 hro)) lk_RX12_308 ⟨rfl, rfl⟩ ⟨Nat.le_of_ble_eq_true rfl, Nat.le_of_ble_eq_true rfl⟩ 12 rfl rfl rfl [0, 1] [2] rfl rfl (by decide) rfl hl.1 rfl (lv_room (Nat.le_of_ble_eq_true rfl)) dX12_newly_129 ⟨Nat.le_of_ble_eq_true rfl, Nat.le_of_ble_eq_true rfl⟩ (fun u_7166 H locs hw hP hD hS => ?_)
                    obtain ⟨n_7164, rfl⟩ : ∃ z, z = u_7166 := ⟨_, rfl⟩
                    obtain ⟨hC_n_7164, hf_7167⟩ := hw
                    have hone := zIn_there hf_7167 (by omega) (by omega) (by omega) (by rw [hlk.1]; omega) (by rw [hlk.1]; omega) (by omega) (by rw [hi_7150 (150 + k.toInt.toNat) (by omega)]; exact hln)
                    refine lv_aload_n hx hb dX12_newly_132 rfl (lv_at hl 0 rfl) ?_
                    refine lv_iload_n hx hb dX12_newly_133 rfl (lv_at hl 2 rfl) ?_
                    refine z_callVv (As := [.int r]) (rest := []) (wr := []) ⟨hx, hb, hml, hown, hts⟩ hK hE hT hP hD hS hA (r_gather l G cA h0 0 0 m_above m_under a_traySort a_trayMany a_numbers a_tape m_taped m_textEnd m_faultKind m_faultAt m_bad m_badAt m_token m_at m_behind m_number m_letters m_word a_c a_words m_markMany a_there a_tried a_best a_found v_6357 m_foundMany m_orderHow m_orderRing m_orderMany v_6358 v_6359 v_6360 a_weights a_shared m_random m_truePlace m_trueWay m_seconds m_done m_feelings m_tries m_leftOver m_playDoor m_playRing m_isOpen m_isOver m_wasTried m_hasPlayed a_feltNow a_last a_kept m_hasSeconds m_hasTurned m_hasRound a_hasFeels a_isOn m_firstAct m_meanTop m_meanBy a_order m_rowMany m_newSteps n_7164 g_6362 r (by omega) hr_v_6357 hC_n_7164 hC_g_6362) lk_RX12_292 ⟨rfl, rfl⟩ ⟨Nat.le_of_ble_eq_true rfl, Nat.le_of_ble_eq_true rfl⟩ 12 rfl rfl rfl [1, 2, 0] [] rfl rfl (by decide) rfl hl.1 rfl (lv_room (Nat.le_of_ble_eq_true rfl)) dX12_newly_134 ⟨Nat.le_of_ble_eq_true rfl, Nat.le_of_ble_eq_true rfl⟩ (fun u_7171 H locs hw hP hD hS => ?_)
                    obtain ⟨n_7168, n_7169⟩ := u_7171
                    try dsimp only at hw
                    obtain ⟨hr_n_7168, hC_n_7169, hf_7172, hf_7173⟩ := hw
                    have hn_k_7174 : 1 ≤ n_7168.toInt ∧ n_7168.toInt ≤ 10 := by omega
                    refine lv_lconst (v := 0) hx hb dX12_newly_137 (by decide) ?_
                    refine lv_lstore (lv' := [(6, .long 0), (0, .ref h0), (1, .int k), (2, .int r), (3, .int d), (4, .int v_6355), (5, .int v_6356)]) hx hb dX12_newly_138 hl (by decide) rfl (fun ls hl => ?_)
                    refine lv_iconst (v := 0) hx hb dX12_newly_140 (by decide) ?_
                    refine lv_istore (lv' := [(8, .int 0), (6, .long 0), (0, .ref h0), (1, .int k), (2, .int r), (3, .int d), (4, .int v_6355), (5, .int v_6356)]) hx hb dX12_newly_141 hl (by decide) rfl (fun ls hl => ?_)
                    have hlp_7887 : ∀ (n : Nat) (v_7852 : Int64) (v_7853 : Int32) (H : Heap) (locs : List Loc) (ls : Array Slot), (2147483647 - v_7853.toInt).toNat < n → (0 ≤ v_7853.toInt ∧ v_7853.toInt ≤ 20) → va_P G vwCl [(h0, .inr (12, [.int 0, .int 0, .long m_above, .long m_under, .ref a_traySort, .ref a_trayMany, .ref a_numbers, .ref a_tape, .int m_taped, .int m_textEnd, .int m_faultKind, .int m_faultAt, .int m_bad, .int m_badAt, .int m_token, .int m_at, .int m_behind, .int m_number, .int m_letters, .long m_word, .ref a_c, .ref a_words, .int m_markMany, .ref a_there, .ref a_tried, .ref a_best, .ref a_found, .int n_7168, .int m_foundMany, .int m_orderHow, .int m_orderRing, .int m_orderMany, .int v_6358, .long v_6359, .long v_6360, .ref a_weights, .ref a_shared, .int m_random, .int m_truePlace, .int m_trueWay, .int m_seconds, .int m_done, .int m_feelings, .int m_tries, .int m_leftOver, .int m_playDoor, .int m_playRing, .int m_isOpen, .int m_isOver, .int m_wasTried, .int m_hasPlayed, .ref a_feltNow, .ref a_last, .ref a_kept, .int m_hasSeconds, .int m_hasTurned, .int m_hasRound, .ref a_hasFeels, .ref a_isOn, .int m_firstAct, .long m_meanTop, .long m_meanBy, .ref a_order, .int m_rowMany, .int m_newSteps])), (a_c, .inl (cA.1 0, 1825, .inl n_7164)), (a_there, .inl (cA.1 0, 10, .inl n_7169))] H → va_D A [(h0, .inr (12, [.int 0, .int 0, .long m_above, .long m_under, .ref a_traySort, .ref a_trayMany, .ref a_numbers, .ref a_tape, .int m_taped, .int m_textEnd, .int m_faultKind, .int m_faultAt, .int m_bad, .int m_badAt, .int m_token, .int m_at, .int m_behind, .int m_number, .int m_letters, .long m_word, .ref a_c, .ref a_words, .int m_markMany, .ref a_there, .ref a_tried, .ref a_best, .ref a_found, .int n_7168, .int m_foundMany, .int m_orderHow, .int m_orderRing, .int m_orderMany, .int v_6358, .long v_6359, .long v_6360, .ref a_weights, .ref a_shared, .int m_random, .int m_truePlace, .int m_trueWay, .int m_seconds, .int m_done, .int m_feelings, .int m_tries, .int m_leftOver, .int m_playDoor, .int m_playRing, .int m_isOpen, .int m_isOver, .int m_wasTried, .int m_hasPlayed, .ref a_feltNow, .ref a_last, .ref a_kept, .int m_hasSeconds, .int m_hasTurned, .int m_hasRound, .ref a_hasFeels, .ref a_isOn, .int m_firstAct, .long m_meanTop, .long m_meanBy, .ref a_order, .int m_rowMany, .int m_newSteps])), (a_c, .inl (cA.1 0, 1825, .inl n_7164)), (a_there, .inl (cA.1 0, 10, .inl n_7169))] → va_S A s.heap H locs → lv_has ls 9 [(0, .ref h0), (1, .int k), (2, .int r), (3, .int d), (4, .int v_6355), (5, .int v_6356), (6, .long v_7852), (8, .int v_7853)] → W p l e ({ frames := 3, cells := 0, slots := 0, locals := 69 }) s m args below meth c H locs 0 0 Q (F0 m 143 ls []) := by
                      intro n
                      induction n with
                      | zero =>
                        intro v_7852 v_7853 H locs ls hmu_hlp_7887 hr_v_7853 hP hD hS hl
                        exact absurd hmu_hlp_7887 (Nat.not_lt_zero _)
                      | succ n ih_7888 =>
                        intro v_7852 v_7853 H locs ls hmu_hlp_7887 hr_v_7853 hP hD hS hl
                        refine lv_iload hx hb dX12_newly_143 (lv_at hl 7 rfl) ?_
                        refine lv_iconst (v := 2) hx hb dX12_newly_145 (by decide) ?_
                        refine lv_aload_n hx hb dX12_newly_146 rfl (lv_at hl 0 rfl) ?_
                        refine va_get (D := G) (ci := 12) (v := .int n_7168) (C := RX12) (T := TX12) (N := 65) hx hb hts inT12 hown hK hP 0 rfl rfl 27 (by decide) (hts _ tw_1912) (fun _ h9 => h9) rfl dX12_newly_147 ?_
                        refine lv_imul hx hb dX12_newly_150 ?_
                        refine lv_topi (fun x_7889 he_x_7889 => ?_)
                        have hq_x_7889 := z_mulq he_x_7889 hk_2 (rfl : n_7168.toInt = _) (by omega) (by omega)
                        refine lv_icmp_ge (tgt := 208) hx hb dX12_newly_151 (by decide) (fun c_7890 => ?_) (fun c_7890 => ?_)
                        · have b_7891 := z_fgeT c_7890
                          refine lv_aload_n hx hb dX12_newly_208 rfl (lv_at hl 0 rfl) ?_
                          refine va_get (D := G) (ci := 12) (v := .int v_6358) (C := RX12) (T := TX12) (N := 65) hx hb hts inT12 hown hK hP 0 rfl rfl 32 (by decide) (hts _ tw_1916) (fun _ h9 => h9) rfl dX12_newly_209 ?_
                          refine lv_if_eq (tgt := 225) hx hb dX12_newly_212 (by decide) (fun c_7892 => ?_) (fun c_7892 => ?_)
                          · have b_7893 := z_feqT c_7892
                            refine lv_iload hx hb dX12_newly_225 (lv_at hl 5 rfl) ?_
                            refine lv_istore (lv' := [(4, .int v_6356), (0, .ref h0), (1, .int k), (2, .int r), (3, .int d), (5, .int v_6356), (6, .long v_7852), (8, .int v_7853)]) hx hb dX12_newly_227 hl (by decide) rfl (fun ls hl => ?_)
                            refine lv_aload_n hx hb dX12_newly_229 rfl (lv_at hl 1 rfl) ?_
                            refine lv_lload hx hb dX12_newly_230 (lv_at hl 6 rfl) ?_
                            refine va_put (D := G) (ci := 12) (v := .long v_7852) (ty := .long) (C := RX12) (T := TX12) (N := 65) hx hb hts inT12 tyX12 tyX12_ok nmX12 hown hK hP hD hS 0 rfl rfl 33 (by decide) (hts _ tw_1917) (fun _ h9 => h9) rfl (tyX12_ok 33 (by decide)) rfl rfl (Nat.le_of_ble_eq_true rfl) dX12_newly_232 (fun H locs hP hD hS => ?_)
                            refine lv_aload_n hx hb dX12_newly_235 rfl (lv_at hl 1 rfl) ?_
                            refine lv_ldc2 (v := 16) hx hb hown (hts _ tw_2470) dX12_newly_236 ?_
                            refine lv_aload_n hx hb dX12_newly_239 rfl (lv_at hl 1 rfl) ?_
                            refine va_get (D := G) (ci := 12) (v := .int n_7168) (C := RX12) (T := TX12) (N := 65) hx hb hts inT12 hown hK hP 0 rfl rfl 27 (by decide) (hts _ tw_1912) (fun _ h9 => h9) rfl dX12_newly_240 ?_
                            refine lv_i2l (v := (n_7168).toInt64) hx hb dX12_newly_243 rfl ?_
                            refine lv_topl (fun x_7894 he_x_7894 => ?_)
                            have hq_x_7894 := z_i2l he_x_7894
                            refine lv_lmul hx hb dX12_newly_244 ?_
                            refine lv_topl (fun x_7895 he_x_7895 => ?_)
                            have hq_x_7895 := z_mulql he_x_7895 hkl_16 (rfl : x_7894.toInt = _) (by omega) (by omega)
                            refine va_put (D := G) (ci := 12) (v := .long x_7895) (ty := .long) (C := RX12) (T := TX12) (N := 65) hx hb hts inT12 tyX12 tyX12_ok nmX12 hown hK hP hD hS 0 rfl rfl 34 (by decide) (hts _ tw_1918) (fun _ h9 => h9) rfl (tyX12_ok 34 (by decide)) rfl rfl (Nat.le_of_ble_eq_true rfl) dX12_newly_245 (fun H locs hP hD hS => ?_)
                            refine lv_aload_n hx hb dX12_newly_248 rfl (lv_at hl 1 rfl) ?_
                            refine lv_iconst (v := 1) hx hb dX12_newly_249 (by decide) ?_
                            refine va_put (D := G) (ci := 12) (v := .int 1) (ty := .boolean) (C := RX12) (T := TX12) (N := 65) hx hb hts inT12 tyX12 tyX12_ok nmX12 hown hK hP hD hS 0 rfl rfl 32 (by decide) (hts _ tw_1916) (fun _ h9 => h9) rfl (tyX12_ok 32 (by decide)) rfl rfl (Nat.le_of_ble_eq_true rfl) dX12_newly_250 (fun H locs hP hD hS => ?_)
                            refine lv_aload_n hx hb dX12_newly_253 rfl (lv_at hl 1 rfl) ?_
                            refine lv_iload_n hx hb dX12_newly_254 rfl (lv_at hl 2 rfl) ?_
                            refine z_callVv (As := [.int k]) (rest := []) (wr := [(a_there, .inl (cA.1 0, 10, .inl n_7169))]) ⟨hx, hb, hml, hown, hts⟩ hK hE hT hP hD hS hA (r_take2 l G cA h0 0 0 m_above m_under a_traySort a_trayMany a_numbers a_tape m_taped m_textEnd m_faultKind m_faultAt m_bad m_badAt m_token m_at m_behind m_number m_letters m_word a_c a_words m_markMany a_there a_tried a_best a_found n_7168 m_foundMany m_orderHow m_orderRing m_orderMany 1 v_7852 x_7895 a_weights a_shared m_random m_truePlace m_trueWay m_seconds m_done m_feelings m_tries m_leftOver m_playDoor m_playRing m_isOpen m_isOver m_wasTried m_hasPlayed a_feltNow a_last a_kept m_hasSeconds m_hasTurned m_hasRound a_hasFeels a_isOn m_firstAct m_meanTop m_meanBy a_order m_rowMany m_newSteps n_7164 k (by omega) hC_n_7164 ⟨r.toInt, (by omega), zIn_RO hC_g_6361.1 hf_7167 (by omega) (by omega) (by rw [hlk.2.1]; omega) (by omega) (by rw [hlk.1]; omega) (by rw [hlk.1]; omega) (zLike_RO hi_7150 (by omega) (by omega) hC_g_c.1 hro)⟩) lk_RX12_312 ⟨rfl, rfl⟩ ⟨Nat.le_of_ble_eq_true rfl, Nat.le_of_ble_eq_true rfl⟩ 12 rfl rfl rfl [0, 1] [2] rfl rfl (by decide) rfl hl.1 rfl (lv_room (Nat.le_of_ble_eq_true rfl)) dX12_newly_255 ⟨Nat.le_of_ble_eq_true rfl, Nat.le_of_ble_eq_true rfl⟩ (fun u_7898 H locs hw hP hD hS => ?_)
                            obtain ⟨n_7896, rfl⟩ : ∃ z, z = u_7898 := ⟨_, rfl⟩
                            obtain ⟨hC_n_7896, hf_7899⟩ := hw
                            have hnl := zLike_trans hi_7150 (zIn_take hC_g_6361 hC_n_7164 hf_7167 (by omega) (by omega) (by rw [hlk.2.1]; omega) (by omega) (by rw [hlk.1]; omega) (by rw [hlk.1]; omega) (zLike_RO hi_7150 (by omega) (by omega) hC_g_c.1 hro) hf_7899) (by omega) (by omega) hC_g_c.1
                            obtain ⟨x_7900, he_x_7900⟩ : ∃ z : Int32, z = v_6356 + 1 := ⟨_, rfl⟩
                            have hq_x_7900 := z_addq he_x_7900 (rfl : v_6356.toInt = _) hk_1 (by omega) (by omega)
                            refine lv_iinc (v := x_7900) (lv' := [(5, .int x_7900), (4, .int v_6356), (0, .ref h0), (1, .int k), (2, .int r), (3, .int d), (6, .long v_7852), (8, .int v_7853)]) hx hb dX12_newly_258 hl (k := 5) rfl ((z_ofi (by decide +kernel)).trans he_x_7900.symm) (by decide) rfl (fun ls hl => ?_)
                            refine lv_goto (tgt := 110) hx hb dX12_newly_261 (by decide) ?_
                            have hP := hP.sub (ws' := [(h0, .inr (12, [.int 0, .int 0, .long m_above, .long m_under, .ref a_traySort, .ref a_trayMany, .ref a_numbers, .ref a_tape, .int m_taped, .int m_textEnd, .int m_faultKind, .int m_faultAt, .int m_bad, .int m_badAt, .int m_token, .int m_at, .int m_behind, .int m_number, .int m_letters, .long m_word, .ref a_c, .ref a_words, .int m_markMany, .ref a_there, .ref a_tried, .ref a_best, .ref a_found, .int n_7168, .int m_foundMany, .int m_orderHow, .int m_orderRing, .int m_orderMany, .int 1, .long v_7852, .long x_7895, .ref a_weights, .ref a_shared, .int m_random, .int m_truePlace, .int m_trueWay, .int m_seconds, .int m_done, .int m_feelings, .int m_tries, .int m_leftOver, .int m_playDoor, .int m_playRing, .int m_isOpen, .int m_isOver, .int m_wasTried, .int m_hasPlayed, .ref a_feltNow, .ref a_last, .ref a_kept, .int m_hasSeconds, .int m_hasTurned, .int m_hasRound, .ref a_hasFeels, .ref a_isOn, .int m_firstAct, .long m_meanTop, .long m_meanBy, .ref a_order, .int m_rowMany, .int m_newSteps])), (a_c, .inl (cA.1 0, 1825, .inl n_7896)), (a_there, .inl (cA.1 0, 10, .inl n_7169))]) [1, 2, 0] rfl
                            have hD := hD.sub (ws' := [(h0, .inr (12, [.int 0, .int 0, .long m_above, .long m_under, .ref a_traySort, .ref a_trayMany, .ref a_numbers, .ref a_tape, .int m_taped, .int m_textEnd, .int m_faultKind, .int m_faultAt, .int m_bad, .int m_badAt, .int m_token, .int m_at, .int m_behind, .int m_number, .int m_letters, .long m_word, .ref a_c, .ref a_words, .int m_markMany, .ref a_there, .ref a_tried, .ref a_best, .ref a_found, .int n_7168, .int m_foundMany, .int m_orderHow, .int m_orderRing, .int m_orderMany, .int 1, .long v_7852, .long x_7895, .ref a_weights, .ref a_shared, .int m_random, .int m_truePlace, .int m_trueWay, .int m_seconds, .int m_done, .int m_feelings, .int m_tries, .int m_leftOver, .int m_playDoor, .int m_playRing, .int m_isOpen, .int m_isOver, .int m_wasTried, .int m_hasPlayed, .ref a_feltNow, .ref a_last, .ref a_kept, .int m_hasSeconds, .int m_hasTurned, .int m_hasRound, .ref a_hasFeels, .ref a_isOn, .int m_firstAct, .long m_meanTop, .long m_meanBy, .ref a_order, .int m_rowMany, .int m_newSteps])), (a_c, .inl (cA.1 0, 1825, .inl n_7896)), (a_there, .inl (cA.1 0, 10, .inl n_7169))]) [1, 2, 0] (by decide) rfl
                            exact ih_7154 v_6356 x_7900 n_7168 1 v_7852 x_7895 n_7896 n_7169 H locs ls (by omega) (by omega) (by omega) hr_n_7168 (Or.inr rfl) (by decide +kernel) hC_n_7896 hC_n_7169 hnl (by omega) (by omega) hP hD hS (lv_sub hl [2, 3, 4, 5, 1, 0] rfl)
                          · have b_7901 := z_fneF c_7892
                            refine lv_lload hx hb dX12_newly_215 (lv_at hl 6 rfl) ?_
                            refine lv_aload_n hx hb dX12_newly_217 rfl (lv_at hl 0 rfl) ?_
                            refine va_get (D := G) (ci := 12) (v := .long v_6359) (C := RX12) (T := TX12) (N := 65) hx hb hts inT12 hown hK hP 0 rfl rfl 33 (by decide) (hts _ tw_1917) (fun _ h9 => h9) rfl dX12_newly_218 ?_
                            refine W.lcmp hx hb dX12_newly_221 ?_
                            refine lv_if_ge (tgt := 248) hx hb dX12_newly_222 (by decide) (fun c_7902 => ?_) (fun c_7902 => ?_)
                            · have b_7903 := z_fgeTl c_7902
                              refine lv_aload_n hx hb dX12_newly_248 rfl (lv_at hl 0 rfl) ?_
                              refine lv_iconst (v := 1) hx hb dX12_newly_249 (by decide) ?_
                              refine va_put (D := G) (ci := 12) (v := .int 1) (ty := .boolean) (C := RX12) (T := TX12) (N := 65) hx hb hts inT12 tyX12 tyX12_ok nmX12 hown hK hP hD hS 0 rfl rfl 32 (by decide) (hts _ tw_1916) (fun _ h9 => h9) rfl (tyX12_ok 32 (by decide)) rfl rfl (Nat.le_of_ble_eq_true rfl) dX12_newly_250 (fun H locs hP hD hS => ?_)
                              refine lv_aload_n hx hb dX12_newly_253 rfl (lv_at hl 0 rfl) ?_
                              refine lv_iload_n hx hb dX12_newly_254 rfl (lv_at hl 1 rfl) ?_
                              refine z_callVv (As := [.int k]) (rest := []) (wr := [(a_there, .inl (cA.1 0, 10, .inl n_7169))]) ⟨hx, hb, hml, hown, hts⟩ hK hE hT hP hD hS hA (r_take2 l G cA h0 0 0 m_above m_under a_traySort a_trayMany a_numbers a_tape m_taped m_textEnd m_faultKind m_faultAt m_bad m_badAt m_token m_at m_behind m_number m_letters m_word a_c a_words m_markMany a_there a_tried a_best a_found n_7168 m_foundMany m_orderHow m_orderRing m_orderMany 1 v_6359 v_6360 a_weights a_shared m_random m_truePlace m_trueWay m_seconds m_done m_feelings m_tries m_leftOver m_playDoor m_playRing m_isOpen m_isOver m_wasTried m_hasPlayed a_feltNow a_last a_kept m_hasSeconds m_hasTurned m_hasRound a_hasFeels a_isOn m_firstAct m_meanTop m_meanBy a_order m_rowMany m_newSteps n_7164 k (by omega) hC_n_7164 ⟨r.toInt, (by omega), zIn_RO hC_g_6361.1 hf_7167 (by omega) (by omega) (by rw [hlk.2.1]; omega) (by omega) (by rw [hlk.1]; omega) (by rw [hlk.1]; omega) (zLike_RO hi_7150 (by omega) (by omega) hC_g_c.1 hro)⟩) lk_RX12_312 ⟨rfl, rfl⟩ ⟨Nat.le_of_ble_eq_true rfl, Nat.le_of_ble_eq_true rfl⟩ 12 rfl rfl rfl [0, 1] [2] rfl rfl (by decide) rfl hl.1 rfl (lv_room (Nat.le_of_ble_eq_true rfl)) dX12_newly_255 ⟨Nat.le_of_ble_eq_true rfl, Nat.le_of_ble_eq_true rfl⟩ (fun u_7906 H locs hw hP hD hS => ?_)
                              obtain ⟨n_7904, rfl⟩ : ∃ z, z = u_7906 := ⟨_, rfl⟩
                              obtain ⟨hC_n_7904, hf_7907⟩ := hw
                              have hnl := zLike_trans hi_7150 (zIn_take hC_g_6361 hC_n_7164 hf_7167 (by omega) (by omega) (by rw [hlk.2.1]; omega) (by omega) (by rw [hlk.1]; omega) (by rw [hlk.1]; omega) (zLike_RO hi_7150 (by omega) (by omega) hC_g_c.1 hro) hf_7907) (by omega) (by omega) hC_g_c.1
                              obtain ⟨x_7908, he_x_7908⟩ : ∃ z : Int32, z = v_6356 + 1 := ⟨_, rfl⟩
                              have hq_x_7908 := z_addq he_x_7908 (rfl : v_6356.toInt = _) hk_1 (by omega) (by omega)
                              refine lv_iinc (v := x_7908) (lv' := [(5, .int x_7908), (0, .ref h0), (1, .int k), (2, .int r), (3, .int d), (4, .int v_6355), (6, .long v_7852), (8, .int v_7853)]) hx hb dX12_newly_258 hl (k := 5) rfl ((z_ofi (by decide +kernel)).trans he_x_7908.symm) (by decide) rfl (fun ls hl => ?_)
                              refine lv_goto (tgt := 110) hx hb dX12_newly_261 (by decide) ?_
                              have hP := hP.sub (ws' := [(h0, .inr (12, [.int 0, .int 0, .long m_above, .long m_under, .ref a_traySort, .ref a_trayMany, .ref a_numbers, .ref a_tape, .int m_taped, .int m_textEnd, .int m_faultKind, .int m_faultAt, .int m_bad, .int m_badAt, .int m_token, .int m_at, .int m_behind, .int m_number, .int m_letters, .long m_word, .ref a_c, .ref a_words, .int m_markMany, .ref a_there, .ref a_tried, .ref a_best, .ref a_found, .int n_7168, .int m_foundMany, .int m_orderHow, .int m_orderRing, .int m_orderMany, .int 1, .long v_6359, .long v_6360, .ref a_weights, .ref a_shared, .int m_random, .int m_truePlace, .int m_trueWay, .int m_seconds, .int m_done, .int m_feelings, .int m_tries, .int m_leftOver, .int m_playDoor, .int m_playRing, .int m_isOpen, .int m_isOver, .int m_wasTried, .int m_hasPlayed, .ref a_feltNow, .ref a_last, .ref a_kept, .int m_hasSeconds, .int m_hasTurned, .int m_hasRound, .ref a_hasFeels, .ref a_isOn, .int m_firstAct, .long m_meanTop, .long m_meanBy, .ref a_order, .int m_rowMany, .int m_newSteps])), (a_c, .inl (cA.1 0, 1825, .inl n_7904)), (a_there, .inl (cA.1 0, 10, .inl n_7169))]) [1, 2, 0] rfl
                              have hD := hD.sub (ws' := [(h0, .inr (12, [.int 0, .int 0, .long m_above, .long m_under, .ref a_traySort, .ref a_trayMany, .ref a_numbers, .ref a_tape, .int m_taped, .int m_textEnd, .int m_faultKind, .int m_faultAt, .int m_bad, .int m_badAt, .int m_token, .int m_at, .int m_behind, .int m_number, .int m_letters, .long m_word, .ref a_c, .ref a_words, .int m_markMany, .ref a_there, .ref a_tried, .ref a_best, .ref a_found, .int n_7168, .int m_foundMany, .int m_orderHow, .int m_orderRing, .int m_orderMany, .int 1, .long v_6359, .long v_6360, .ref a_weights, .ref a_shared, .int m_random, .int m_truePlace, .int m_trueWay, .int m_seconds, .int m_done, .int m_feelings, .int m_tries, .int m_leftOver, .int m_playDoor, .int m_playRing, .int m_isOpen, .int m_isOver, .int m_wasTried, .int m_hasPlayed, .ref a_feltNow, .ref a_last, .ref a_kept, .int m_hasSeconds, .int m_hasTurned, .int m_hasRound, .ref a_hasFeels, .ref a_isOn, .int m_firstAct, .long m_meanTop, .long m_meanBy, .ref a_order, .int m_rowMany, .int m_newSteps])), (a_c, .inl (cA.1 0, 1825, .inl n_7904)), (a_there, .inl (cA.1 0, 10, .inl n_7169))]) [1, 2, 0] (by decide) rfl
                              exact ih_7154 v_6355 x_7908 n_7168 1 v_6359 v_6360 n_7904 n_7169 H locs ls (by omega) hr_v_6355 (by omega) hr_n_7168 (Or.inr rfl) (by decide +kernel) hC_n_7904 hC_n_7169 hnl (by omega) (by omega) hP hD hS (lv_sub hl [1, 2, 3, 4, 5, 0] rfl)
                            · have b_7909 := z_fltFl c_7902
                              refine lv_iload hx hb dX12_newly_225 (lv_at hl 5 rfl) ?_
                              refine lv_istore (lv' := [(4, .int v_6356), (0, .ref h0), (1, .int k), (2, .int r), (3, .int d), (5, .int v_6356), (6, .long v_7852), (8, .int v_7853)]) hx hb dX12_newly_227 hl (by decide) rfl (fun ls hl => ?_)
                              refine lv_aload_n hx hb dX12_newly_229 rfl (lv_at hl 1 rfl) ?_
                              refine lv_lload hx hb dX12_newly_230 (lv_at hl 6 rfl) ?_
                              refine va_put (D := G) (ci := 12) (v := .long v_7852) (ty := .long) (C := RX12) (T := TX12) (N := 65) hx hb hts inT12 tyX12 tyX12_ok nmX12 hown hK hP hD hS 0 rfl rfl 33 (by decide) (hts _ tw_1917) (fun _ h9 => h9) rfl (tyX12_ok 33 (by decide)) rfl rfl (Nat.le_of_ble_eq_true rfl) dX12_newly_232 (fun H locs hP hD hS => ?_)
                              refine lv_aload_n hx hb dX12_newly_235 rfl (lv_at hl 1 rfl) ?_
                              refine lv_ldc2 (v := 16) hx hb hown (hts _ tw_2470) dX12_newly_236 ?_
                              refine lv_aload_n hx hb dX12_newly_239 rfl (lv_at hl 1 rfl) ?_
                              refine va_get (D := G) (ci := 12) (v := .int n_7168) (C := RX12) (T := TX12) (N := 65) hx hb hts inT12 hown hK hP 0 rfl rfl 27 (by decide) (hts _ tw_1912) (fun _ h9 => h9) rfl dX12_newly_240 ?_
                              refine lv_i2l (v := (n_7168).toInt64) hx hb dX12_newly_243 rfl ?_
                              refine lv_topl (fun x_7910 he_x_7910 => ?_)
                              have hq_x_7910 := z_i2l he_x_7910
                              refine lv_lmul hx hb dX12_newly_244 ?_
                              refine lv_topl (fun x_7911 he_x_7911 => ?_)
                              have hq_x_7911 := z_mulql he_x_7911 hkl_16 (rfl : x_7910.toInt = _) (by omega) (by omega)
                              refine va_put (D := G) (ci := 12) (v := .long x_7911) (ty := .long) (C := RX12) (T := TX12) (N := 65) hx hb hts inT12 tyX12 tyX12_ok nmX12 hown hK hP hD hS 0 rfl rfl 34 (by decide) (hts _ tw_1918) (fun _ h9 => h9) rfl (tyX12_ok 34 (by decide)) rfl rfl (Nat.le_of_ble_eq_true rfl) dX12_newly_245 (fun H locs hP hD hS => ?_)
                              refine lv_aload_n hx hb dX12_newly_248 rfl (lv_at hl 1 rfl) ?_
                              refine lv_iconst (v := 1) hx hb dX12_newly_249 (by decide) ?_
                              refine va_put (D := G) (ci := 12) (v := .int 1) (ty := .boolean) (C := RX12) (T := TX12) (N := 65) hx hb hts inT12 tyX12 tyX12_ok nmX12 hown hK hP hD hS 0 rfl rfl 32 (by decide) (hts _ tw_1916) (fun _ h9 => h9) rfl (tyX12_ok 32 (by decide)) rfl rfl (Nat.le_of_ble_eq_true rfl) dX12_newly_250 (fun H locs hP hD hS => ?_)
                              refine lv_aload_n hx hb dX12_newly_253 rfl (lv_at hl 1 rfl) ?_
                              refine lv_iload_n hx hb dX12_newly_254 rfl (lv_at hl 2 rfl) ?_
                              refine z_callVv (As := [.int k]) (rest := []) (wr := [(a_there, .inl (cA.1 0, 10, .inl n_7169))]) ⟨hx, hb, hml, hown, hts⟩ hK hE hT hP hD hS hA (r_take2 l G cA h0 0 0 m_above m_under a_traySort a_trayMany a_numbers a_tape m_taped m_textEnd m_faultKind m_faultAt m_bad m_badAt m_token m_at m_behind m_number m_letters m_word a_c a_words m_markMany a_there a_tried a_best a_found n_7168 m_foundMany m_orderHow m_orderRing m_orderMany 1 v_7852 x_7911 a_weights a_shared m_random m_truePlace m_trueWay m_seconds m_done m_feelings m_tries m_leftOver m_playDoor m_playRing m_isOpen m_isOver m_wasTried m_hasPlayed a_feltNow a_last a_kept m_hasSeconds m_hasTurned m_hasRound a_hasFeels a_isOn m_firstAct m_meanTop m_meanBy a_order m_rowMany m_newSteps n_7164 k (by omega) hC_n_7164 ⟨r.toInt, (by omega), zIn_RO hC_g_6361.1 hf_7167 (by omega) (by omega) (by rw [hlk.2.1]; omega) (by omega) (by rw [hlk.1]; omega) (by rw [hlk.1]; omega) (zLike_RO hi_7150 (by omega) (by omega) hC_g_c.1 hro)⟩) lk_RX12_312 ⟨rfl, rfl⟩ ⟨Nat.le_of_ble_eq_true rfl, Nat.le_of_ble_eq_true rfl⟩ 12 rfl rfl rfl [0, 1] [2] rfl rfl (by decide) rfl hl.1 rfl (lv_room (Nat.le_of_ble_eq_true rfl)) dX12_newly_255 ⟨Nat.le_of_ble_eq_true rfl, Nat.le_of_ble_eq_true rfl⟩ (fun u_7914 H locs hw hP hD hS => ?_)
                              obtain ⟨n_7912, rfl⟩ : ∃ z, z = u_7914 := ⟨_, rfl⟩
                              obtain ⟨hC_n_7912, hf_7915⟩ := hw
                              have hnl := zLike_trans hi_7150 (zIn_take hC_g_6361 hC_n_7164 hf_7167 (by omega) (by omega) (by rw [hlk.2.1]; omega) (by omega) (by rw [hlk.1]; omega) (by rw [hlk.1]; omega) (zLike_RO hi_7150 (by omega) (by omega) hC_g_c.1 hro) hf_7915) (by omega) (by omega) hC_g_c.1
                              obtain ⟨x_7916, he_x_7916⟩ : ∃ z : Int32, z = v_6356 + 1 := ⟨_, rfl⟩
                              have hq_x_7916 := z_addq he_x_7916 (rfl : v_6356.toInt = _) hk_1 (by omega) (by omega)
                              refine lv_iinc (v := x_7916) (lv' := [(5, .int x_7916), (4, .int v_6356), (0, .ref h0), (1, .int k), (2, .int r), (3, .int d), (6, .long v_7852), (8, .int v_7853)]) hx hb dX12_newly_258 hl (k := 5) rfl ((z_ofi (by decide +kernel)).trans he_x_7916.symm) (by decide) rfl (fun ls hl => ?_)
                              refine lv_goto (tgt := 110) hx hb dX12_newly_261 (by decide) ?_
                              have hP := hP.sub (ws' := [(h0, .inr (12, [.int 0, .int 0, .long m_above, .long m_under, .ref a_traySort, .ref a_trayMany, .ref a_numbers, .ref a_tape, .int m_taped, .int m_textEnd, .int m_faultKind, .int m_faultAt, .int m_bad, .int m_badAt, .int m_token, .int m_at, .int m_behind, .int m_number, .int m_letters, .long m_word, .ref a_c, .ref a_words, .int m_markMany, .ref a_there, .ref a_tried, .ref a_best, .ref a_found, .int n_7168, .int m_foundMany, .int m_orderHow, .int m_orderRing, .int m_orderMany, .int 1, .long v_7852, .long x_7911, .ref a_weights, .ref a_shared, .int m_random, .int m_truePlace, .int m_trueWay, .int m_seconds, .int m_done, .int m_feelings, .int m_tries, .int m_leftOver, .int m_playDoor, .int m_playRing, .int m_isOpen, .int m_isOver, .int m_wasTried, .int m_hasPlayed, .ref a_feltNow, .ref a_last, .ref a_kept, .int m_hasSeconds, .int m_hasTurned, .int m_hasRound, .ref a_hasFeels, .ref a_isOn, .int m_firstAct, .long m_meanTop, .long m_meanBy, .ref a_order, .int m_rowMany, .int m_newSteps])), (a_c, .inl (cA.1 0, 1825, .inl n_7912)), (a_there, .inl (cA.1 0, 10, .inl n_7169))]) [1, 2, 0] rfl
                              have hD := hD.sub (ws' := [(h0, .inr (12, [.int 0, .int 0, .long m_above, .long m_under, .ref a_traySort, .ref a_trayMany, .ref a_numbers, .ref a_tape, .int m_taped, .int m_textEnd, .int m_faultKind, .int m_faultAt, .int m_bad, .int m_badAt, .int m_token, .int m_at, .int m_behind, .int m_number, .int m_letters, .long m_word, .ref a_c, .ref a_words, .int m_markMany, .ref a_there, .ref a_tried, .ref a_best, .ref a_found, .int n_7168, .int m_foundMany, .int m_orderHow, .int m_orderRing, .int m_orderMany, .int 1, .long v_7852, .long x_7911, .ref a_weights, .ref a_shared, .int m_random, .int m_truePlace, .int m_trueWay, .int m_seconds, .int m_done, .int m_feelings, .int m_tries, .int m_leftOver, .int m_playDoor, .int m_playRing, .int m_isOpen, .int m_isOver, .int m_wasTried, .int m_hasPlayed, .ref a_feltNow, .ref a_last, .ref a_kept, .int m_hasSeconds, .int m_hasTurned, .int m_hasRound, .ref a_hasFeels, .ref a_isOn, .int m_firstAct, .long m_meanTop, .long m_meanBy, .ref a_order, .int m_rowMany, .int m_newSteps])), (a_c, .inl (cA.1 0, 1825, .inl n_7912)), (a_there, .inl (cA.1 0, 10, .inl n_7169))]) [1, 2, 0] (by decide) rfl
                              exact ih_7154 v_6356 x_7916 n_7168 1 v_7852 x_7911 n_7912 n_7169 H locs ls (by omega) (by omega) (by omega) hr_n_7168 (Or.inr rfl) (by decide +kernel) hC_n_7912 hC_n_7169 hnl (by omega) (by omega) hP hD hS (lv_sub hl [2, 3, 4, 5, 1, 0] rfl)
                        · have b_7917 := z_fltF c_7890
                          refine lv_lload hx hb dX12_newly_154 (lv_at hl 6 rfl) ?_
                          refine lv_iload hx hb dX12_newly_156 (lv_at hl 7 rfl) ?_
                          refine lv_iconst (v := 2) hx hb dX12_newly_158 (by decide) ?_
                          refine lv_irem hx hb dX12_newly_159 (by decide +kernel) ?_
                          refine lv_topi (fun x_7918 he_x_7918 => ?_)
                          have hq_x_7918 := z_remq he_x_7918 (rfl : v_7853.toInt = _) hk_2 (by omega) (by decide)
                          refine lv_if_ne (tgt := 176) hx hb dX12_newly_160 (by decide) (fun c_7919 => ?_) (fun c_7919 => ?_)
                          · have b_7920 := z_fneT c_7919
                            refine lv_aload_n hx hb dX12_newly_176 rfl (lv_at hl 0 rfl) ?_
                            refine va_get (D := G) (ci := 12) (v := .ref a_c) (C := RX12) (T := TX12) (N := 65) hx hb hts inT12 hown hK hP 0 rfl rfl 20 (by decide) (hts _ tw_1905) (fun _ h9 => h9) rfl dX12_newly_177 ?_
                            refine lv_bipush (v := 9) hx hb dX12_newly_180 (by decide) ?_
                            refine va_iald hx hb hK hP 1 0 rfl rfl (z_in (i := 9) (n := 1825) (by decide +kernel) (by decide +kernel)) dX12_newly_182 ?_
                            refine lv_topi (fun x_7921 he_x_7921 => ?_)
                            refine lv_i2l (v := (x_7921).toInt64) hx hb dX12_newly_183 rfl ?_
                            refine lv_topl (fun x_7922 he_x_7922 => ?_)
                            have hq_x_7922 := z_i2l he_x_7922
                            have hL_x_7921 := z_full x_7921
                            refine lv_aload_n hx hb dX12_newly_184 rfl (lv_at hl 0 rfl) ?_
                            refine lv_iload_n hx hb dX12_newly_185 rfl (lv_at hl 3 rfl) ?_
                            refine lv_iload hx hb dX12_newly_186 (lv_at hl 7 rfl) ?_
                            refine lv_iconst (v := 2) hx hb dX12_newly_188 (by decide) ?_
                            refine lv_idiv hx hb dX12_newly_189 (by decide +kernel) ?_
                            refine lv_topi (fun x_7923 he_x_7923 => ?_)
                            have hq_x_7923 := z_divq he_x_7923 (rfl : v_7853.toInt = _) hk_2 (by omega) (by decide)
                            refine lv_iload hx hb dX12_newly_190 (lv_at hl 7 rfl) ?_
                            refine lv_iconst (v := 2) hx hb dX12_newly_192 (by decide) ?_
                            refine lv_irem hx hb dX12_newly_193 (by decide +kernel) ?_
                            refine lv_topi (fun x_7924 he_x_7924 => ?_)
                            have hq_x_7924 := z_remq he_x_7924 (rfl : v_7853.toInt = _) hk_2 (by omega) (by decide)
                            refine z_callVi (As := [.int d, .int x_7923, .int x_7924]) (rest := [.long x_7922, .long v_7852]) (wr := []) ⟨hx, hb, hml, hown, hts⟩ hK hE hT hP hD hS hA (r_search l G cA h0 0 0 m_above m_under a_traySort a_trayMany a_numbers a_tape m_taped m_textEnd m_faultKind m_faultAt m_bad m_badAt m_token m_at m_behind m_number m_letters m_word a_c a_words m_markMany a_there a_tried a_best a_found n_7168 m_foundMany m_orderHow m_orderRing m_orderMany v_6358 v_6359 v_6360 a_weights a_shared m_random m_truePlace m_trueWay m_seconds m_done m_feelings m_tries m_leftOver m_playDoor m_playRing m_isOpen m_isOver m_wasTried m_hasPlayed a_feltNow a_last a_kept m_hasSeconds m_hasTurned m_hasRound a_hasFeels a_isOn m_firstAct m_meanTop m_meanBy a_order m_rowMany m_newSteps n_7164 n_7169 d x_7923 x_7924 (by omega) (by omega) (by omega) hr_n_7168 hC_n_7164 hC_n_7169 (by omega)) lk_RX12_387 ⟨rfl, rfl⟩ ⟨Nat.le_of_ble_eq_true rfl, Nat.le_of_ble_eq_true rfl⟩ 12 rfl rfl rfl [0, 1, 2] [] rfl rfl (by decide) rfl hl.1 rfl (lv_room (Nat.le_of_ble_eq_true rfl)) dX12_newly_194 ⟨Nat.le_of_ble_eq_true rfl, Nat.le_of_ble_eq_true rfl⟩ (fun r_7925 u_7926 H locs hw hP hD hS => ?_)
                            obtain ⟨hr_r_7925, hf_7927, hf_7928⟩ := hw
                            refine lv_i2l (v := (r_7925).toInt64) hx hb dX12_newly_197 rfl ?_
                            refine lv_topl (fun x_7929 he_x_7929 => ?_)
                            have hq_x_7929 := z_i2l he_x_7929
                            refine lv_lmul hx hb dX12_newly_198 ?_
                            refine lv_topl (fun x_7930 he_x_7930 => ?_)
                            refine lv_ladd hx hb dX12_newly_199 ?_
                            have hL_v_7852 := z_fulll v_7852
                            have hL_x_7930 := z_fulll x_7930
                            refine lv_topl (fun x_7931 he_x_7931 => ?_)
                            refine lv_lstore (lv' := [(6, .long x_7931), (0, .ref h0), (1, .int k), (2, .int r), (3, .int d), (4, .int v_6355), (5, .int v_6356), (8, .int v_7853)]) hx hb dX12_newly_200 hl (by decide) rfl (fun ls hl => ?_)
                            obtain ⟨x_7932, he_x_7932⟩ : ∃ z : Int32, z = v_7853 + 1 := ⟨_, rfl⟩
                            have hq_x_7932 := z_addq he_x_7932 (rfl : v_7853.toInt = _) hk_1 (by omega) (by omega)
                            refine lv_iinc (v := x_7932) (lv' := [(8, .int x_7932), (6, .long x_7931), (0, .ref h0), (1, .int k), (2, .int r), (3, .int d), (4, .int v_6355), (5, .int v_6356)]) hx hb dX12_newly_202 hl (k := 7) rfl ((z_ofi (by decide +kernel)).trans he_x_7932.symm) (by decide) rfl (fun ls hl => ?_)
                            refine lv_goto (tgt := 143) hx hb dX12_newly_205 (by decide) ?_
                            exact ih_7888 x_7931 x_7932 H locs ls (by omega) (by omega) hP hD hS (lv_sub hl [2, 3, 4, 5, 6, 7, 1, 0] rfl)
                          · have b_7933 := z_feqF c_7919
                            refine lv_bipush (v := 16) hx hb dX12_newly_163 (by decide) ?_
                            refine lv_aload_n hx hb dX12_newly_165 rfl (lv_at hl 0 rfl) ?_
                            refine va_get (D := G) (ci := 12) (v := .ref a_c) (C := RX12) (T := TX12) (N := 65) hx hb hts inT12 hown hK hP 0 rfl rfl 20 (by decide) (hts _ tw_1905) (fun _ h9 => h9) rfl dX12_newly_166 ?_
                            refine lv_bipush (v := 9) hx hb dX12_newly_169 (by decide) ?_
                            refine va_iald hx hb hK hP 1 0 rfl rfl (z_in (i := 9) (n := 1825) (by decide +kernel) (by decide +kernel)) dX12_newly_171 ?_
                            refine lv_topi (fun x_7934 he_x_7934 => ?_)
                            refine lv_isub hx hb dX12_newly_172 ?_
                            have hL_x_7934 := z_full x_7934
                            refine lv_topi (fun x_7935 he_x_7935 => ?_)
                            refine lv_goto (tgt := 183) hx hb dX12_newly_173 (by decide) ?_
                            refine lv_i2l (v := (x_7935).toInt64) hx hb dX12_newly_183 rfl ?_
                            refine lv_topl (fun x_7936 he_x_7936 => ?_)
                            have hq_x_7936 := z_i2l he_x_7936
                            have hL_x_7935 := z_full x_7935
                            refine lv_aload_n hx hb dX12_newly_184 rfl (lv_at hl 0 rfl) ?_
                            refine lv_iload_n hx hb dX12_newly_185 rfl (lv_at hl 3 rfl) ?_
                            refine lv_iload hx hb dX12_newly_186 (lv_at hl 7 rfl) ?_
                            refine lv_iconst (v := 2) hx hb dX12_newly_188 (by decide) ?_
                            refine lv_idiv hx hb dX12_newly_189 (by decide +kernel) ?_
                            refine lv_topi (fun x_7937 he_x_7937 => ?_)
                            have hq_x_7937 := z_divq he_x_7937 (rfl : v_7853.toInt = _) hk_2 (by omega) (by decide)
                            refine lv_iload hx hb dX12_newly_190 (lv_at hl 7 rfl) ?_
                            refine lv_iconst (v := 2) hx hb dX12_newly_192 (by decide) ?_
                            refine lv_irem hx hb dX12_newly_193 (by decide +kernel) ?_
                            refine lv_topi (fun x_7938 he_x_7938 => ?_)
                            have hq_x_7938 := z_remq he_x_7938 (rfl : v_7853.toInt = _) hk_2 (by omega) (by decide)
                            refine z_callVi (As := [.int d, .int x_7937, .int x_7938]) (rest := [.long x_7936, .long v_7852]) (wr := []) ⟨hx, hb, hml, hown, hts⟩ hK hE hT hP hD hS hA (r_search l G cA h0 0 0 m_above m_under a_traySort a_trayMany a_numbers a_tape m_taped m_textEnd m_faultKind m_faultAt m_bad m_badAt m_token m_at m_behind m_number m_letters m_word a_c a_words m_markMany a_there a_tried a_best a_found n_7168 m_foundMany m_orderHow m_orderRing m_orderMany v_6358 v_6359 v_6360 a_weights a_shared m_random m_truePlace m_trueWay m_seconds m_done m_feelings m_tries m_leftOver m_playDoor m_playRing m_isOpen m_isOver m_wasTried m_hasPlayed a_feltNow a_last a_kept m_hasSeconds m_hasTurned m_hasRound a_hasFeels a_isOn m_firstAct m_meanTop m_meanBy a_order m_rowMany m_newSteps n_7164 n_7169 d x_7937 x_7938 (by omega) (by omega) (by omega) hr_n_7168 hC_n_7164 hC_n_7169 (by omega)) lk_RX12_387 ⟨rfl, rfl⟩ ⟨Nat.le_of_ble_eq_true rfl, Nat.le_of_ble_eq_true rfl⟩ 12 rfl rfl rfl [0, 1, 2] [] rfl rfl (by decide) rfl hl.1 rfl (lv_room (Nat.le_of_ble_eq_true rfl)) dX12_newly_194 ⟨Nat.le_of_ble_eq_true rfl, Nat.le_of_ble_eq_true rfl⟩ (fun r_7939 u_7940 H locs hw hP hD hS => ?_)
                            obtain ⟨hr_r_7939, hf_7941, hf_7942⟩ := hw
                            refine lv_i2l (v := (r_7939).toInt64) hx hb dX12_newly_197 rfl ?_
                            refine lv_topl (fun x_7943 he_x_7943 => ?_)
                            have hq_x_7943 := z_i2l he_x_7943
                            refine lv_lmul hx hb dX12_newly_198 ?_
                            refine lv_topl (fun x_7944 he_x_7944 => ?_)
                            refine lv_ladd hx hb dX12_newly_199 ?_
                            have hL_v_7852 := z_fulll v_7852
                            have hL_x_7944 := z_fulll x_7944
                            refine lv_topl (fun x_7945 he_x_7945 => ?_)
                            refine lv_lstore (lv' := [(6, .long x_7945), (0, .ref h0), (1, .int k), (2, .int r), (3, .int d), (4, .int v_6355), (5, .int v_6356), (8, .int v_7853)]) hx hb dX12_newly_200 hl (by decide) rfl (fun ls hl => ?_)
                            obtain ⟨x_7946, he_x_7946⟩ : ∃ z : Int32, z = v_7853 + 1 := ⟨_, rfl⟩
                            have hq_x_7946 := z_addq he_x_7946 (rfl : v_7853.toInt = _) hk_1 (by omega) (by omega)
                            refine lv_iinc (v := x_7946) (lv' := [(8, .int x_7946), (6, .long x_7945), (0, .ref h0), (1, .int k), (2, .int r), (3, .int d), (4, .int v_6355), (5, .int v_6356)]) hx hb dX12_newly_202 hl (k := 7) rfl ((z_ofi (by decide +kernel)).trans he_x_7946.symm) (by decide) rfl (fun ls hl => ?_)
                            refine lv_goto (tgt := 143) hx hb dX12_newly_205 (by decide) ?_
                            exact ih_7888 x_7945 x_7946 H locs ls (by omega) (by omega) hP hD hS (lv_sub hl [2, 3, 4, 5, 6, 7, 1, 0] rfl)
                    exact hlp_7887 _ 0 0 _ _ _ (Nat.lt_succ_self _) (by decide +kernel) hP hD hS (lv_sub hl [2, 3, 4, 5, 6, 7, 1, 0] rfl)
              exact hlp_7153 _ 0 0 n_36 0 m_bestTop m_bestBy g_c n_37 _ _ _ (Nat.lt_succ_self _) (by decide +kernel) (by decide +kernel) hr_n_36 (Or.inl rfl) (by decide +kernel) hC_g_c hC_n_37 (zLike_refl _) (by omega) (by omega) hP hD hS (lv_sub hl [2, 3, 4, 5, 1, 0] rfl)
          · have b_7947 := z_feqF c_34
            refine lv_aload_n hx hb dX12_newly_63 rfl (lv_at hl 0 rfl) ?_
            refine lv_bipush (v := 9) hx hb dX12_newly_64 (by decide) ?_
            refine z_callVi (As := [.int 9]) (rest := []) (wr := [(a_there, .inl (cA.1 0, 10, .inl g_there)), (a_c, .inl (cA.1 0, 1825, .inl g_c))]) ⟨hx, hb, hml, hown, hts⟩ hK hE hT hP hD hS hA (r_refuse l G cA h0 0 0 m_above m_under a_traySort a_trayMany a_numbers a_tape m_taped m_textEnd m_faultKind m_faultAt m_bad m_badAt m_token m_at m_behind m_number m_letters m_word a_c a_words m_markMany a_there a_tried a_best a_found m_thereMany m_foundMany m_orderHow m_orderRing m_orderMany m_hasBest m_bestTop m_bestBy a_weights a_shared m_random m_truePlace m_trueWay m_seconds m_done m_feelings m_tries m_leftOver m_playDoor m_playRing m_isOpen m_isOver m_wasTried m_hasPlayed a_feltNow a_last a_kept m_hasSeconds m_hasTurned m_hasRound a_hasFeels a_isOn m_firstAct m_meanTop m_meanBy a_order m_rowMany m_newSteps 9) lk_RX12_269 ⟨rfl, rfl⟩ ⟨Nat.le_of_ble_eq_true rfl, Nat.le_of_ble_eq_true rfl⟩ 12 rfl rfl rfl [1] [0, 2] rfl rfl (by decide) rfl hl.1 rfl (lv_room (Nat.le_of_ble_eq_true rfl)) dX12_newly_66 ⟨Nat.le_of_ble_eq_true rfl, Nat.le_of_ble_eq_true rfl⟩ (fun r_7949 u_7950 H locs hw hP hD hS => ?_)
            obtain ⟨n_7948, rfl⟩ : ∃ z, z = u_7950 := ⟨_, rfl⟩
            have hr_r_7949 := hw
            have hpost : ((-1) ≤ r_7949.toInt ∧ r_7949.toInt ≤ 9) ∧ (0 ≤ (0 : Int32).toInt ∧ (0 : Int32).toInt ≤ 0) ∧ (0 ≤ m_thereMany.toInt ∧ m_thereMany.toInt ≤ 10) ∧ (zRg 10 0 9 g_there) ∧ (m_hasBest = 0 ∨ m_hasBest = 1) ∧ (0 ≤ m_hasBest.toInt ∧ m_hasBest.toInt ≤ 1) ∧ (zC g_c) := ⟨(z_rgw hr_r_7949 (by decide) (by decide)), (by decide +kernel), hr_m_thereMany, hC_g_there, hz_m_hasBest, hr_m_hasBest, hC_g_c⟩
            exact hret _ _ _ _ _ _ (n_7948, 0, m_thereMany, g_there, m_above, m_under, m_hasBest, m_bestTop, m_bestBy, g_c) [2, 1, 0] hP hD hS rfl (by decide) dX12_newly_69 hpost
