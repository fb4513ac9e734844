set_option maxHeartbeats 40000000 in
set_option maxRecDepth 100000 in
theorem r_copy (l : Launch) (G : va_G) (cA : zCA) (h0 : Nat) (m_status : Int32) (m_thrown : Int32) (m_above : Int64) (m_under : Int64) (a_traySort : Nat) (a_trayMany : Nat) (a_numbers : Nat) (a_tape : Nat) (m_taped : Int32) (m_textEnd : Int32) (m_faultKind : Int32) (m_faultAt : Int32) (m_bad : Int32) (m_badAt : Int32) (m_token : Int32) (m_at : Int32) (m_behind : Int32) (m_number : Int32) (m_letters : Int32) (m_word : Int64) (a_c : Nat) (a_words : Nat) (m_markMany : Int32) (a_there : Nat) (a_tried : Nat) (a_best : Nat) (a_found : Nat) (m_thereMany : Int32) (m_foundMany : Int32) (m_orderHow : Int32) (m_orderRing : Int32) (m_orderMany : Int32) (m_hasBest : Int32) (m_bestTop : Int64) (m_bestBy : Int64) (a_weights : Nat) (a_shared : Nat) (m_random : Int32) (m_truePlace : Int32) (m_trueWay : Int32) (m_seconds : Int32) (m_done : Int32) (m_feelings : Int32) (m_tries : Int32) (m_leftOver : Int32) (m_playDoor : Int32) (m_playRing : Int32) (m_isOpen : Int32) (m_isOver : Int32) (m_wasTried : Int32) (m_hasPlayed : Int32) (a_feltNow : Nat) (a_last : Nat) (a_kept : Nat) (m_hasSeconds : Int32) (m_hasTurned : Int32) (m_hasRound : Int32) (a_hasFeels : Nat) (a_isOn : Nat) (m_firstAct : Int32) (m_meanTop : Int64) (m_meanBy : Int64) (a_order : Nat) (m_rowMany : Int32) (m_newSteps : Int32) (g_c : Nat → Int32) (g_words : Nat → Int64) (a : Int32) (b : Int32) (hr_a : 0 ≤ a.toInt ∧ a.toInt ≤ 3) (hr_b : 0 ≤ b.toInt ∧ b.toInt ≤ 3) (hZ_g_c : zC g_c) (hp_0 : a.toInt = 0 ∨ b.toInt = 0) : zCv l yX12_copy cX12_copy 4 none ({ frames := 0, cells := 0, slots := 0, locals := 0 }) G cA [.ref h0, .int a, .int b] [(h0, .inr (12, [.int m_status, .int m_thrown, .long m_above, .long m_under, .ref a_traySort, .ref a_trayMany, .ref a_numbers, .ref a_tape, .int m_taped, .int m_textEnd, .int m_faultKind, .int m_faultAt, .int m_bad, .int m_badAt, .int m_token, .int m_at, .int m_behind, .int m_number, .int m_letters, .long m_word, .ref a_c, .ref a_words, .int m_markMany, .ref a_there, .ref a_tried, .ref a_best, .ref a_found, .int m_thereMany, .int m_foundMany, .int m_orderHow, .int m_orderRing, .int m_orderMany, .int m_hasBest, .long m_bestTop, .long m_bestBy, .ref a_weights, .ref a_shared, .int m_random, .int m_truePlace, .int m_trueWay, .int m_seconds, .int m_done, .int m_feelings, .int m_tries, .int m_leftOver, .int m_playDoor, .int m_playRing, .int m_isOpen, .int m_isOver, .int m_wasTried, .int m_hasPlayed, .ref a_feltNow, .ref a_last, .ref a_kept, .int m_hasSeconds, .int m_hasTurned, .int m_hasRound, .ref a_hasFeels, .ref a_isOn, .int m_firstAct, .long m_meanTop, .long m_meanBy, .ref a_order, .int m_rowMany, .int m_newSteps])), (a_c, .inl (cA.1 0, 1825, .inl g_c)), (a_words, .inl (cA.1 1, 105, .inr (.inl g_words)))] (S := (Nat → Int32) × (Nat → Int64)) (fun (u : (Nat → Int32) × (Nat → Int64)) => (u.1 = (F_r_copy g_c g_words a b).1) ∧ (u.2 = (F_r_copy g_c g_words a b).2) ∧ ((zC u.1))) (fun (u : (Nat → Int32) × (Nat → Int64)) => [(h0, .inr (12, [.int m_status, .int m_thrown, .long m_above, .long m_under, .ref a_traySort, .ref a_trayMany, .ref a_numbers, .ref a_tape, .int m_taped, .int m_textEnd, .int m_faultKind, .int m_faultAt, .int m_bad, .int m_badAt, .int m_token, .int m_at, .int m_behind, .int m_number, .int m_letters, .long m_word, .ref a_c, .ref a_words, .int m_markMany, .ref a_there, .ref a_tried, .ref a_best, .ref a_found, .int m_thereMany, .int m_foundMany, .int m_orderHow, .int m_orderRing, .int m_orderMany, .int m_hasBest, .long m_bestTop, .long m_bestBy, .ref a_weights, .ref a_shared, .int m_random, .int m_truePlace, .int m_trueWay, .int m_seconds, .int m_done, .int m_feelings, .int m_tries, .int m_leftOver, .int m_playDoor, .int m_playRing, .int m_isOpen, .int m_isOver, .int m_wasTried, .int m_hasPlayed, .ref a_feltNow, .ref a_last, .ref a_kept, .int m_hasSeconds, .int m_hasTurned, .int m_hasRound, .ref a_hasFeels, .ref a_isOn, .int m_firstAct, .long m_meanTop, .long m_meanBy, .ref a_order, .int m_rowMany, .int m_newSteps])), (a_c, .inl (cA.1 0, 1825, .inl u.1)), (a_words, .inl (cA.1 1, 105, .inr (.inl u.2)))]) 0 0 := by
  have hk_0 : (0 : Int32).toInt = 0 := by decide +kernel
  have hk_1 : (1 : Int32).toInt = 1 := by decide +kernel
  have hk_21 : (21 : Int32).toInt = 21 := by decide +kernel
  have hk_365 : (365 : Int32).toInt = 365 := by decide +kernel
  have hC_g_c : zCt g_c := hZ_g_c.1
  refine z_start2v (own := RX12) (by decide) (Nat.le_of_ble_eq_true rfl) rfl ?_
  intro p e s m args below meth c A ls Q hx hb hml hts hown hK hE hT hP hD hS hA hl hret
  have hl : lv_has ls 4 [(0, .ref h0), (1, .int a), (2, .int b)] := hl
  refine lv_iconst (v := 0) hx hb dX12_copy_0 (by decide) ?_
  refine lv_istore_n (lv' := [(3, .int 0), (0, .ref h0), (1, .int a), (2, .int b)]) hx hb dX12_copy_1 rfl hl (by decide) rfl (fun ls hl => ?_)
  have hlp_678 : ∀ (n_L2a : Nat) (v_393 : Int32) (g_394 : Nat → Int32) (H : Heap) (locs : List Loc) (ls : Array Slot), (2147483647 - v_393.toInt).toNat < n_L2a → (0 ≤ v_393.toInt ∧ v_393.toInt ≤ 365) → (zCt g_394) → (zCp g_c g_394 (365 * a.toInt) (365 * b.toInt) v_393.toInt) → (F_r_copy g_c g_words a b = F_r_copy_L2a g_words a b n_L2a v_393 g_394) → va_P G vwCl [(h0, .inr (12, [.int m_status, .int m_thrown, .long m_above, .long m_under, .ref a_traySort, .ref a_trayMany, .ref a_numbers, .ref a_tape, .int m_taped, .int m_textEnd, .int m_faultKind, .int m_faultAt, .int m_bad, .int m_badAt, .int m_token, .int m_at, .int m_behind, .int m_number, .int m_letters, .long m_word, .ref a_c, .ref a_words, .int m_markMany, .ref a_there, .ref a_tried, .ref a_best, .ref a_found, .int m_thereMany, .int m_foundMany, .int m_orderHow, .int m_orderRing, .int m_orderMany, .int m_hasBest, .long m_bestTop, .long m_bestBy, .ref a_weights, .ref a_shared, .int m_random, .int m_truePlace, .int m_trueWay, .int m_seconds, .int m_done, .int m_feelings, .int m_tries, .int m_leftOver, .int m_playDoor, .int m_playRing, .int m_isOpen, .int m_isOver, .int m_wasTried, .int m_hasPlayed, .ref a_feltNow, .ref a_last, .ref a_kept, .int m_hasSeconds, .int m_hasTurned, .int m_hasRound, .ref a_hasFeels, .ref a_isOn, .int m_firstAct, .long m_meanTop, .long m_meanBy, .ref a_order, .int m_rowMany, .int m_newSteps])), (a_c, .inl (cA.1 0, 1825, .inl g_394)), (a_words, .inl (cA.1 1, 105, .inr (.inl g_words)))] H → va_D A [(h0, .inr (12, [.int m_status, .int m_thrown, .long m_above, .long m_under, .ref a_traySort, .ref a_trayMany, .ref a_numbers, .ref a_tape, .int m_taped, .int m_textEnd, .int m_faultKind, .int m_faultAt, .int m_bad, .int m_badAt, .int m_token, .int m_at, .int m_behind, .int m_number, .int m_letters, .long m_word, .ref a_c, .ref a_words, .int m_markMany, .ref a_there, .ref a_tried, .ref a_best, .ref a_found, .int m_thereMany, .int m_foundMany, .int m_orderHow, .int m_orderRing, .int m_orderMany, .int m_hasBest, .long m_bestTop, .long m_bestBy, .ref a_weights, .ref a_shared, .int m_random, .int m_truePlace, .int m_trueWay, .int m_seconds, .int m_done, .int m_feelings, .int m_tries, .int m_leftOver, .int m_playDoor, .int m_playRing, .int m_isOpen, .int m_isOver, .int m_wasTried, .int m_hasPlayed, .ref a_feltNow, .ref a_last, .ref a_kept, .int m_hasSeconds, .int m_hasTurned, .int m_hasRound, .ref a_hasFeels, .ref a_isOn, .int m_firstAct, .long m_meanTop, .long m_meanBy, .ref a_order, .int m_rowMany, .int m_newSteps])), (a_c, .inl (cA.1 0, 1825, .inl g_394)), (a_words, .inl (cA.1 1, 105, .inr (.inl g_words)))] → va_S A s.heap H locs → lv_has ls 4 [(0, .ref h0), (1, .int a), (2, .int b), (3, .int v_393)] → W p l e ({ frames := 0, cells := 0, slots := 0, locals := 0 }) s m args below meth c H locs 0 0 Q (F0 m 2 ls []) := by
    intro n_L2a
    induction n_L2a with
    | zero =>
      intro v_393 g_394 H locs ls hmu_hlp_678 hr_v_393 hC_g_394 hi_405 hF_L2a hP hD hS hl
      exact absurd hmu_hlp_678 (Nat.not_lt_zero _)
    | succ n_L2a ih_679 =>
      intro v_393 g_394 H locs ls hmu_hlp_678 hr_v_393 hC_g_394 hi_405 hF_L2a hP hD hS hl
      refine lv_iload_n hx hb dX12_copy_2 rfl (lv_at hl 3 rfl) ?_
      refine lv_sipush (v := 365) hx hb dX12_copy_3 (by decide) ?_
      refine lv_icmp_ge (tgt := 39) hx hb dX12_copy_6 (by decide) (fun c_680 => ?_) (fun c_680 => ?_)
      · have b_681 := z_fgeT c_680
        have hz_g_394 : zC g_394 := zCp_zC hZ_g_c hC_g_394 (n := v_393.toInt) (a := 365 * a.toInt) (b := 365 * b.toInt) hi_405 (by omega) (by omega) (by omega) (by omega) (zC_block hZ_g_c (by omega))
        refine lv_iconst (v := 0) hx hb dX12_copy_39 (by decide) ?_
        refine lv_istore_n (lv' := [(3, .int 0), (0, .ref h0), (1, .int a), (2, .int b)]) hx hb dX12_copy_40 rfl hl (by decide) rfl (fun ls hl => ?_)
        have hlp_931 : ∀ (n_L41a : Nat) (v_909 : Int32) (g_910 : Nat → Int64) (H : Heap) (locs : List Loc) (ls : Array Slot), (2147483647 - v_909.toInt).toNat < n_L41a → (0 ≤ v_909.toInt ∧ v_909.toInt ≤ 29) → (F_r_copy g_c g_words a b = F_r_copy_L41a a b g_394 n_L41a v_909 g_910) → va_P G vwCl [(h0, .inr (12, [.int m_status, .int m_thrown, .long m_above, .long m_under, .ref a_traySort, .ref a_trayMany, .ref a_numbers, .ref a_tape, .int m_taped, .int m_textEnd, .int m_faultKind, .int m_faultAt, .int m_bad, .int m_badAt, .int m_token, .int m_at, .int m_behind, .int m_number, .int m_letters, .long m_word, .ref a_c, .ref a_words, .int m_markMany, .ref a_there, .ref a_tried, .ref a_best, .ref a_found, .int m_thereMany, .int m_foundMany, .int m_orderHow, .int m_orderRing, .int m_orderMany, .int m_hasBest, .long m_bestTop, .long m_bestBy, .ref a_weights, .ref a_shared, .int m_random, .int m_truePlace, .int m_trueWay, .int m_seconds, .int m_done, .int m_feelings, .int m_tries, .int m_leftOver, .int m_playDoor, .int m_playRing, .int m_isOpen, .int m_isOver, .int m_wasTried, .int m_hasPlayed, .ref a_feltNow, .ref a_last, .ref a_kept, .int m_hasSeconds, .int m_hasTurned, .int m_hasRound, .ref a_hasFeels, .ref a_isOn, .int m_firstAct, .long m_meanTop, .long m_meanBy, .ref a_order, .int m_rowMany, .int m_newSteps])), (a_c, .inl (cA.1 0, 1825, .inl g_394)), (a_words, .inl (cA.1 1, 105, .inr (.inl g_910)))] H → va_D A [(h0, .inr (12, [.int m_status, .int m_thrown, .long m_above, .long m_under, .ref a_traySort, .ref a_trayMany, .ref a_numbers, .ref a_tape, .int m_taped, .int m_textEnd, .int m_faultKind, .int m_faultAt, .int m_bad, .int m_badAt, .int m_token, .int m_at, .int m_behind, .int m_number, .int m_letters, .long m_word, .ref a_c, .ref a_words, .int m_markMany, .ref a_there, .ref a_tried, .ref a_best, .ref a_found, .int m_thereMany, .int m_foundMany, .int m_orderHow, .int m_orderRing, .int m_orderMany, .int m_hasBest, .long m_bestTop, .long m_bestBy, .ref a_weights, .ref a_shared, .int m_random, .int m_truePlace, .int m_trueWay, .int m_seconds, .int m_done, .int m_feelings, .int m_tries, .int m_leftOver, .int m_playDoor, .int m_playRing, .int m_isOpen, .int m_isOver, .int m_wasTried, .int m_hasPlayed, .ref a_feltNow, .ref a_last, .ref a_kept, .int m_hasSeconds, .int m_hasTurned, .int m_hasRound, .ref a_hasFeels, .ref a_isOn, .int m_firstAct, .long m_meanTop, .long m_meanBy, .ref a_order, .int m_rowMany, .int m_newSteps])), (a_c, .inl (cA.1 0, 1825, .inl g_394)), (a_words, .inl (cA.1 1, 105, .inr (.inl g_910)))] → va_S A s.heap H locs → lv_has ls 4 [(0, .ref h0), (1, .int a), (2, .int b), (3, .int v_909)] → W p l e ({ frames := 0, cells := 0, slots := 0, locals := 0 }) s m args below meth c H locs 0 0 Q (F0 m 41 ls []) := by
          intro n_L41a
          induction n_L41a with
          | zero =>
            intro v_909 g_910 H locs ls hmu_hlp_931 hr_v_909 hF_L41a hP hD hS hl
            exact absurd hmu_hlp_931 (Nat.not_lt_zero _)
          | succ n_L41a ih_932 =>
            intro v_909 g_910 H locs ls hmu_hlp_931 hr_v_909 hF_L41a hP hD hS hl
            refine lv_iload_n hx hb dX12_copy_41 rfl (lv_at hl 3 rfl) ?_
            refine lv_bipush (v := 21) hx hb dX12_copy_42 (by decide) ?_
            refine lv_icmp_ge (tgt := 75) hx hb dX12_copy_44 (by decide) (fun c_933 => ?_) (fun c_933 => ?_)
            · have b_934 := z_fgeT c_933
              have hpost : (zC g_394) := hz_g_394
              have hX_935 : F_r_copy g_c g_words a b = ((g_394, g_910) : (Nat → Int32) × (Nat → Int64)) := by
                refine hF_L41a.trans ?_
                refine (F_r_copy_L41a_s ..).trans ?_
                refine (if_pos c_933).trans ?_
                exact rfl
              exact hret _ _ _ _ _ (g_394, g_910) [0, 1, 2] hP hD hS rfl (by decide) dX12_copy_75 ⟨(congrArg (fun z9 => z9.1) hX_935).symm, (congrArg (fun z9 => z9.2) hX_935).symm, hpost⟩
            · have b_936 := z_fltF c_933
              refine lv_aload_n hx hb dX12_copy_47 rfl (lv_at hl 0 rfl) ?_
              refine va_get (D := G) (ci := 12) (v := .ref a_words) (C := RX12) (T := TX12) (N := 65) hx hb hts inT12 hown hK hP 0 rfl rfl 21 (by decide) (hts _ tw_1906) (fun _ h9 => h9) rfl dX12_copy_48 ?_
              refine lv_bipush (v := 21) hx hb dX12_copy_51 (by decide) ?_
              refine lv_iload_n hx hb dX12_copy_53 rfl (lv_at hl 2 rfl) ?_
              refine lv_imul hx hb dX12_copy_54 ?_
              refine lv_topi (fun x_937 he_x_937 => ?_)
              have hq_x_937 := z_mulq he_x_937 hk_21 (rfl : b.toInt = _) (by omega) (by omega)
              refine lv_iload_n hx hb dX12_copy_55 rfl (lv_at hl 3 rfl) ?_
              refine lv_iadd hx hb dX12_copy_56 ?_
              refine lv_topi (fun x_938 he_x_938 => ?_)
              have hq_x_938 := z_addq he_x_938 (rfl : x_937.toInt = _) (rfl : v_909.toInt = _) (by omega) (by omega)
              refine lv_aload_n hx hb dX12_copy_57 rfl (lv_at hl 0 rfl) ?_
              refine va_get (D := G) (ci := 12) (v := .ref a_words) (C := RX12) (T := TX12) (N := 65) hx hb hts inT12 hown hK hP 0 rfl rfl 21 (by decide) (hts _ tw_1906) (fun _ h9 => h9) rfl dX12_copy_58 ?_
              refine lv_bipush (v := 21) hx hb dX12_copy_61 (by decide) ?_
              refine lv_iload_n hx hb dX12_copy_63 rfl (lv_at hl 1 rfl) ?_
              refine lv_imul hx hb dX12_copy_64 ?_
              refine lv_topi (fun x_939 he_x_939 => ?_)
              have hq_x_939 := z_mulq he_x_939 hk_21 (rfl : a.toInt = _) (by omega) (by omega)
              refine lv_iload_n hx hb dX12_copy_65 rfl (lv_at hl 3 rfl) ?_
              refine lv_iadd hx hb dX12_copy_66 ?_
              refine lv_topi (fun x_940 he_x_940 => ?_)
              have hq_x_940 := z_addq he_x_940 (rfl : x_939.toInt = _) (rfl : v_909.toInt = _) (by omega) (by omega)
              refine va_lald hx hb hK hP 2 1 rfl rfl (z_inN (by omega) (by omega)) dX12_copy_67 ?_
              refine lv_topl (fun x_941 he_x_941 => ?_)
              refine z_last hx hb hK hP hD hS 2 1 rfl rfl (z_inN (by omega) (by omega)) dX12_copy_68 (fun g_942 hg_g_942 H locs hP hD hS => ?_)
              obtain ⟨x_943, he_x_943⟩ : ∃ z : Int32, z = v_909 + 1 := ⟨_, rfl⟩
              have hq_x_943 := z_addq he_x_943 (rfl : v_909.toInt = _) hk_1 (by omega) (by omega)
              refine lv_iinc (v := x_943) (lv' := [(3, .int x_943), (0, .ref h0), (1, .int a), (2, .int b)]) hx hb dX12_copy_69 hl (k := 3) rfl ((z_ofi (by decide +kernel)).trans he_x_943.symm) (by decide) rfl (fun ls hl => ?_)
              refine lv_goto (tgt := 41) hx hb dX12_copy_72 (by decide) ?_
              have hX_944 : F_r_copy g_c g_words a b = F_r_copy_L41a a b g_394 n_L41a x_943 g_942 := by
                refine hF_L41a.trans ?_
                refine (F_r_copy_L41a_s ..).trans ?_
                refine (if_neg c_933).trans ?_
                try (extract_lets -merge -useContext +onlyGivenNames y9; have e9 : x_937 = y9 := (by first | exact he_x_937 | exact he_x_937.symm); clear_value y9; subst e9)
                try (extract_lets -merge -useContext +onlyGivenNames y9; have e9 : x_938 = y9 := (by first | exact he_x_938 | exact he_x_938.symm); clear_value y9; subst e9)
                try (extract_lets -merge -useContext +onlyGivenNames y9; have e9 : x_939 = y9 := (by first | exact he_x_939 | exact he_x_939.symm); clear_value y9; subst e9)
                try (extract_lets -merge -useContext +onlyGivenNames y9; have e9 : x_940 = y9 := (by first | exact he_x_940 | exact he_x_940.symm); clear_value y9; subst e9)
                try (extract_lets -merge -useContext +onlyGivenNames y9; have e9 : x_941 = y9 := (by first | exact he_x_941 | exact he_x_941.symm); clear_value y9; subst e9)
                try (extract_lets -merge -useContext +onlyGivenNames y9; have e9 : g_942 = y9 := (by first | exact hg_g_942 | exact hg_g_942.symm); clear_value y9; subst e9)
                try (extract_lets -merge -useContext +onlyGivenNames y9; have e9 : x_943 = y9 := (by first | exact he_x_943 | exact he_x_943.symm); clear_value y9; subst e9)
                exact rfl
              exact ih_932 x_943 g_942 H locs ls (by omega) (by omega) hX_944 hP hD hS (lv_sub hl [1, 2, 3, 0] rfl)
        have hX_945 : F_r_copy g_c g_words a b = F_r_copy_L41a a b g_394 ((2147483647 - (0 : Int32).toInt).toNat + 1) (0 : Int32) g_words := by
          refine hF_L2a.trans ?_
          refine (F_r_copy_L2a_s ..).trans ?_
          refine (if_pos c_680).trans ?_
          exact rfl
        exact hlp_931 ((2147483647 - (0 : Int32).toInt).toNat + 1) 0 g_words _ _ _ (Nat.lt_succ_self _) (by decide +kernel) hX_945 hP hD hS (lv_sub hl [1, 2, 3, 0] rfl)
      · have b_946 := z_fltF c_680
        refine lv_aload_n hx hb dX12_copy_9 rfl (lv_at hl 0 rfl) ?_
        refine va_get (D := G) (ci := 12) (v := .ref a_c) (C := RX12) (T := TX12) (N := 65) hx hb hts inT12 hown hK hP 0 rfl rfl 20 (by decide) (hts _ tw_1905) (fun _ h9 => h9) rfl dX12_copy_10 ?_
        refine lv_sipush (v := 365) hx hb dX12_copy_13 (by decide) ?_
        refine lv_iload_n hx hb dX12_copy_16 rfl (lv_at hl 2 rfl) ?_
        refine lv_imul hx hb dX12_copy_17 ?_
        refine lv_topi (fun x_947 he_x_947 => ?_)
        have hq_x_947 := z_mulq he_x_947 hk_365 (rfl : b.toInt = _) (by omega) (by omega)
        refine lv_iload_n hx hb dX12_copy_18 rfl (lv_at hl 3 rfl) ?_
        refine lv_iadd hx hb dX12_copy_19 ?_
        refine lv_topi (fun x_948 he_x_948 => ?_)
        have hq_x_948 := z_addq he_x_948 (rfl : x_947.toInt = _) (rfl : v_393.toInt = _) (by omega) (by omega)
        refine lv_aload_n hx hb dX12_copy_20 rfl (lv_at hl 0 rfl) ?_
        refine va_get (D := G) (ci := 12) (v := .ref a_c) (C := RX12) (T := TX12) (N := 65) hx hb hts inT12 hown hK hP 0 rfl rfl 20 (by decide) (hts _ tw_1905) (fun _ h9 => h9) rfl dX12_copy_21 ?_
        refine lv_sipush (v := 365) hx hb dX12_copy_24 (by decide) ?_
        refine lv_iload_n hx hb dX12_copy_27 rfl (lv_at hl 1 rfl) ?_
        refine lv_imul hx hb dX12_copy_28 ?_
        refine lv_topi (fun x_949 he_x_949 => ?_)
        have hq_x_949 := z_mulq he_x_949 hk_365 (rfl : a.toInt = _) (by omega) (by omega)
        refine lv_iload_n hx hb dX12_copy_29 rfl (lv_at hl 3 rfl) ?_
        refine lv_iadd hx hb dX12_copy_30 ?_
        refine lv_topi (fun x_950 he_x_950 => ?_)
        have hq_x_950 := z_addq he_x_950 (rfl : x_949.toInt = _) (rfl : v_393.toInt = _) (by omega) (by omega)
        refine va_iald hx hb hK hP 1 0 rfl rfl (z_inN (by omega) (by omega)) dX12_copy_31 ?_
        refine lv_topi (fun x_951 he_x_951 => ?_)
        refine z_iast hx hb hK hP hD hS 1 0 rfl rfl (z_inN (by omega) (by omega)) dX12_copy_32 (fun g_952 hg_g_952 H locs hP hD hS => ?_)
        have hC_g_952 := z_ctUct hC_g_394 hg_g_952 he_x_951 (by omega) (by omega) (by omega) (by omega) (by omega)
        obtain ⟨x_953, he_x_953⟩ : ∃ z : Int32, z = v_393 + 1 := ⟨_, rfl⟩
        have hq_x_953 := z_addq he_x_953 (rfl : v_393.toInt = _) hk_1 (by omega) (by omega)
        refine lv_iinc (v := x_953) (lv' := [(3, .int x_953), (0, .ref h0), (1, .int a), (2, .int b)]) hx hb dX12_copy_33 hl (k := 3) rfl ((z_ofi (by decide +kernel)).trans he_x_953.symm) (by decide) rfl (fun ls hl => ?_)
        refine lv_goto (tgt := 2) hx hb dX12_copy_36 (by decide) ?_
        have hX_954 : F_r_copy g_c g_words a b = F_r_copy_L2a g_words a b n_L2a x_953 g_952 := by
          refine hF_L2a.trans ?_
          refine (F_r_copy_L2a_s ..).trans ?_
          refine (if_neg c_680).trans ?_
          try (extract_lets -merge -useContext +onlyGivenNames y9; have e9 : x_947 = y9 := (by first | exact he_x_947 | exact he_x_947.symm); clear_value y9; subst e9)
          try (extract_lets -merge -useContext +onlyGivenNames y9; have e9 : x_948 = y9 := (by first | exact he_x_948 | exact he_x_948.symm); clear_value y9; subst e9)
          try (extract_lets -merge -useContext +onlyGivenNames y9; have e9 : x_949 = y9 := (by first | exact he_x_949 | exact he_x_949.symm); clear_value y9; subst e9)
          try (extract_lets -merge -useContext +onlyGivenNames y9; have e9 : x_950 = y9 := (by first | exact he_x_950 | exact he_x_950.symm); clear_value y9; subst e9)
          try (extract_lets -merge -useContext +onlyGivenNames y9; have e9 : x_951 = y9 := (by first | exact he_x_951 | exact he_x_951.symm); clear_value y9; subst e9)
          try (extract_lets -merge -useContext +onlyGivenNames y9; have e9 : g_952 = y9 := (by first | exact hg_g_952 | exact hg_g_952.symm); clear_value y9; subst e9)
          try (extract_lets -merge -useContext +onlyGivenNames y9; have e9 : x_953 = y9 := (by first | exact he_x_953 | exact he_x_953.symm); clear_value y9; subst e9)
          exact rfl
        exact ih_679 x_953 g_952 H locs ls (by omega) (by omega) hC_g_952 (by rw [hq_x_953]; exact zCp_step hi_405 hg_g_952 (by omega) he_x_951 (by omega) (by omega) (by omega) (by omega) (by omega) (by omega)) hX_954 hP hD hS (lv_sub hl [1, 2, 3, 0] rfl)
  have hX_955 : F_r_copy g_c g_words a b = F_r_copy_L2a g_words a b ((2147483647 - (0 : Int32).toInt).toNat + 1) (0 : Int32) g_c := by
    refine (F_r_copy_s ..).trans ?_
    exact rfl
  exact hlp_678 ((2147483647 - (0 : Int32).toInt).toNat + 1) 0 g_c _ _ _ (Nat.lt_succ_self _) (by decide +kernel) hC_g_c zCp_0 hX_955 hP hD hS (lv_sub hl [1, 2, 3, 0] rfl)
def zMk (a r b : Int32) : Prop := ((a.toInt < 0 ∨ 3 ≤ a.toInt) ∧ r.toInt = -1 ∧ b = a) ∨ (0 ≤ a.toInt ∧ a.toInt < 3 ∧ r.toInt = a.toInt + 1 ∧ b.toInt = a.toInt + 1)
def zBk (a r b : Int32) : Prop := ((a.toInt < 1 ∨ 3 < a.toInt) ∧ r.toInt = -1 ∧ b = a) ∨ (1 ≤ a.toInt ∧ a.toInt ≤ 3 ∧ r.toInt = a.toInt - 1 ∧ b.toInt = a.toInt - 1)
theorem zMk_fn {a r b r2 b2 : Int32} (h : zMk a r b) (h2 : zMk a r2 b2) : r = r2 ∧ b = b2 := by
  unfold zMk at h h2
  rcases h with ⟨h, e, f⟩ | ⟨h, h0, e, f⟩ <;> rcases h2 with ⟨h2, e2, f2⟩ | ⟨h2, h3, e2, f2⟩
  · exact ⟨Int32.toInt_inj.mp (by omega), by rw [f, f2]⟩
  · omega
  · omega
  · exact ⟨Int32.toInt_inj.mp (by omega), Int32.toInt_inj.mp (by omega)⟩
theorem zBk_fn {a r b r2 b2 : Int32} (h : zBk a r b) (h2 : zBk a r2 b2) : r = r2 ∧ b = b2 := by
  unfold zBk at h h2
  rcases h with ⟨h, e, f⟩ | ⟨h, h0, e, f⟩ <;> rcases h2 with ⟨h2, e2, f2⟩ | ⟨h2, h3, e2, f2⟩
  · exact ⟨Int32.toInt_inj.mp (by omega), by rw [f, f2]⟩
  · omega
  · omega
  · exact ⟨Int32.toInt_inj.mp (by omega), Int32.toInt_inj.mp (by omega)⟩
set_option maxHeartbeats 40000000 in
set_option maxRecDepth 100000 in
theorem r_mark (l : Launch) (G : va_G) (cA : zCA) (h0 : Nat) (m_status : Int32) (m_thrown : Int32) (m_above : Int64) (m_under : Int64) (a_traySort : Nat) (a_trayMany : Nat) (a_numbers : Nat) (a_tape : Nat) (m_taped : Int32) (m_textEnd : Int32) (m_faultKind : Int32) (m_faultAt : Int32) (m_bad : Int32) (m_badAt : Int32) (m_token : Int32) (m_at : Int32) (m_behind : Int32) (m_number : Int32) (m_letters : Int32) (m_word : Int64) (a_c : Nat) (a_words : Nat) (m_markMany : Int32) (a_there : Nat) (a_tried : Nat) (a_best : Nat) (a_found : Nat) (m_thereMany : Int32) (m_foundMany : Int32) (m_orderHow : Int32) (m_orderRing : Int32) (m_orderMany : Int32) (m_hasBest : Int32) (m_bestTop : Int64) (m_bestBy : Int64) (a_weights : Nat) (a_shared : Nat) (m_random : Int32) (m_truePlace : Int32) (m_trueWay : Int32) (m_seconds : Int32) (m_done : Int32) (m_feelings : Int32) (m_tries : Int32) (m_leftOver : Int32) (m_playDoor : Int32) (m_playRing : Int32) (m_isOpen : Int32) (m_isOver : Int32) (m_wasTried : Int32) (m_hasPlayed : Int32) (a_feltNow : Nat) (a_last : Nat) (a_kept : Nat) (m_hasSeconds : Int32) (m_hasTurned : Int32) (m_hasRound : Int32) (a_hasFeels : Nat) (a_isOn : Nat) (m_firstAct : Int32) (m_meanTop : Int64) (m_meanBy : Int64) (a_order : Nat) (m_rowMany : Int32) (m_newSteps : Int32) (g_c : Nat → Int32) (g_words : Nat → Int64) (hr_m_markMany : 0 ≤ m_markMany.toInt ∧ m_markMany.toInt ≤ 3) (hC_g_c : zC g_c) : zCi l yX12_mark cX12_mark 1 (some .int) ({ frames := 1, cells := 0, slots := 0, locals := 23 }) G cA [.ref h0] [(h0, .inr (12, [.int m_status, .int m_thrown, .long m_above, .long m_under, .ref a_traySort, .ref a_trayMany, .ref a_numbers, .ref a_tape, .int m_taped, .int m_textEnd, .int m_faultKind, .int m_faultAt, .int m_bad, .int m_badAt, .int m_token, .int m_at, .int m_behind, .int m_number, .int m_letters, .long m_word, .ref a_c, .ref a_words, .int m_markMany, .ref a_there, .ref a_tried, .ref a_best, .ref a_found, .int m_thereMany, .int m_foundMany, .int m_orderHow, .int m_orderRing, .int m_orderMany, .int m_hasBest, .long m_bestTop, .long m_bestBy, .ref a_weights, .ref a_shared, .int m_random, .int m_truePlace, .int m_trueWay, .int m_seconds, .int m_done, .int m_feelings, .int m_tries, .int m_leftOver, .int m_playDoor, .int m_playRing, .int m_isOpen, .int m_isOver, .int m_wasTried, .int m_hasPlayed, .ref a_feltNow, .ref a_last, .ref a_kept, .int m_hasSeconds, .int m_hasTurned, .int m_hasRound, .ref a_hasFeels, .ref a_isOn, .int m_firstAct, .long m_meanTop, .long m_meanBy, .ref a_order, .int m_rowMany, .int m_newSteps])), (a_c, .inl (cA.1 0, 1825, .inl g_c)), (a_words, .inl (cA.1 1, 105, .inr (.inl g_words)))] (S := Int32 × Int32 × Int32 × (Nat → Int32) × (Nat → Int64)) (fun (r : Int32) (u : Int32 × Int32 × Int32 × (Nat → Int32) × (Nat → Int64)) => (r = (F_r_mark m_markMany g_c g_words).1) ∧ (u.1 = (F_r_mark m_markMany g_c g_words).2.1) ∧ (u.2.1 = (F_r_mark m_markMany g_c g_words).2.2.1) ∧ (u.2.2.1 = (F_r_mark m_markMany g_c g_words).2.2.2.1) ∧ (u.2.2.2.1 = (F_r_mark m_markMany g_c g_words).2.2.2.2.1) ∧ (u.2.2.2.2 = (F_r_mark m_markMany g_c g_words).2.2.2.2.2) ∧ (((-1) ≤ r.toInt ∧ r.toInt ≤ 3) ∧ (0 ≤ u.2.1.toInt ∧ u.2.1.toInt ≤ 0) ∧ (1 ≤ u.2.2.1.toInt ∧ u.2.2.1.toInt ≤ 3) ∧ (zC u.2.2.2.1) ∧ (zMk m_markMany r u.2.2.1))) (fun (u : Int32 × Int32 × Int32 × (Nat → Int32) × (Nat → Int64)) => [(h0, .inr (12, [.int u.1, .int u.2.1, .long m_above, .long m_under, .ref a_traySort, .ref a_trayMany, .ref a_numbers, .ref a_tape, .int m_taped, .int m_textEnd, .int m_faultKind, .int m_faultAt, .int m_bad, .int m_badAt, .int m_token, .int m_at, .int m_behind, .int m_number, .int m_letters, .long m_word, .ref a_c, .ref a_words, .int u.2.2.1, .ref a_there, .ref a_tried, .ref a_best, .ref a_found, .int m_thereMany, .int m_foundMany, .int m_orderHow, .int m_orderRing, .int m_orderMany, .int m_hasBest, .long m_bestTop, .long m_bestBy, .ref a_weights, .ref a_shared, .int m_random, .int m_truePlace, .int m_trueWay, .int m_seconds, .int m_done, .int m_feelings, .int m_tries, .int m_leftOver, .int m_playDoor, .int m_playRing, .int m_isOpen, .int m_isOver, .int m_wasTried, .int m_hasPlayed, .ref a_feltNow, .ref a_last, .ref a_kept, .int m_hasSeconds, .int m_hasTurned, .int m_hasRound, .ref a_hasFeels, .ref a_isOn, .int m_firstAct, .long m_meanTop, .long m_meanBy, .ref a_order, .int m_rowMany, .int m_newSteps])), (a_c, .inl (cA.1 0, 1825, .inl u.2.2.2.1)), (a_words, .inl (cA.1 1, 105, .inr (.inl u.2.2.2.2)))]) 0 0 := by
  have hk_0 : (0 : Int32).toInt = 0 := by decide +kernel
  have hk_1 : (1 : Int32).toInt = 1 := by decide +kernel
  have hk_3 : (3 : Int32).toInt = 3 := by decide +kernel
  have hk_7 : (7 : Int32).toInt = 7 := by decide +kernel
  refine z_start2i (own := RX12) (by decide) (Nat.le_of_ble_eq_true rfl) rfl ?_
  intro p e s m args below meth c A ls Q hx hb hml hts hown hK hE hT hP hD hS hA hl hret
  have hl : lv_has ls 1 [(0, .ref h0)] := hl
  refine lv_aload_n hx hb dX12_mark_0 rfl (lv_at hl 0 rfl) ?_
  refine lv_iconst (v := 0) hx hb dX12_mark_1 (by decide) ?_
  refine va_put (D := G) (ci := 12) (v := .int 0) (ty := .int) (C := RX12) (T := TX12) (N := 65) hx hb hts inT12 tyX12 tyX12_ok nmX12 hown hK hP hD hS 0 rfl rfl 1 (by decide) (hts _ tw_1886) (fun _ h9 => h9) rfl (tyX12_ok 1 (by decide)) rfl rfl (Nat.le_of_ble_eq_true rfl) dX12_mark_2 (fun H locs hP hD hS => ?_)
  refine lv_aload_n hx hb dX12_mark_5 rfl (lv_at hl 0 rfl) ?_
  refine lv_iconst (v := 0) hx hb dX12_mark_6 (by decide) ?_
  refine va_put (D := G) (ci := 12) (v := .int 0) (ty := .int) (C := RX12) (T := TX12) (N := 65) hx hb hts inT12 tyX12 tyX12_ok nmX12 hown hK hP hD hS 0 rfl rfl 0 (by decide) (hts _ tw_1885) (fun _ h9 => h9) rfl (tyX12_ok 0 (by decide)) rfl rfl (Nat.le_of_ble_eq_true rfl) dX12_mark_7 (fun H locs hP hD hS => ?_)
  refine lv_aload_n hx hb dX12_mark_10 rfl (lv_at hl 0 rfl) ?_
  refine va_get (D := G) (ci := 12) (v := .int m_markMany) (C := RX12) (T := TX12) (N := 65) hx hb hts inT12 hown hK hP 0 rfl rfl 22 (by decide) (hts _ tw_1907) (fun _ h9 => h9) rfl dX12_mark_11 ?_
  refine lv_iconst (v := 3) hx hb dX12_mark_14 (by decide) ?_
  refine lv_icmp_ne (tgt := 25) hx hb dX12_mark_15 (by decide) (fun c_1 => ?_) (fun c_1 => ?_)
  · have b_2 := z_fneT c_1
    refine lv_aload_n hx hb dX12_mark_25 rfl (lv_at hl 0 rfl) ?_
    refine lv_dup hx hb dX12_mark_26 rfl ?_
    refine va_get (D := G) (ci := 12) (v := .int m_markMany) (C := RX12) (T := TX12) (N := 65) hx hb hts inT12 hown hK hP 0 rfl rfl 22 (by decide) (hts _ tw_1907) (fun _ h9 => h9) rfl dX12_mark_27 ?_
    refine lv_iconst (v := 1) hx hb dX12_mark_30 (by decide) ?_
    refine lv_iadd hx hb dX12_mark_31 ?_
    refine lv_topi (fun x_3 he_x_3 => ?_)
    have hq_x_3 := z_addq he_x_3 (rfl : m_markMany.toInt = _) hk_1 (by omega) (by omega)
    refine va_put (D := G) (ci := 12) (v := .int x_3) (ty := .int) (C := RX12) (T := TX12) (N := 65) hx hb hts inT12 tyX12 tyX12_ok nmX12 hown hK hP hD hS 0 rfl rfl 22 (by decide) (hts _ tw_1907) (fun _ h9 => h9) rfl (tyX12_ok 22 (by decide)) rfl rfl (Nat.le_of_ble_eq_true rfl) dX12_mark_32 (fun H locs hP hD hS => ?_)
    refine lv_aload_n hx hb dX12_mark_35 rfl (lv_at hl 0 rfl) ?_
    refine lv_iconst (v := 0) hx hb dX12_mark_36 (by decide) ?_
    refine lv_aload_n hx hb dX12_mark_37 rfl (lv_at hl 0 rfl) ?_
    refine va_get (D := G) (ci := 12) (v := .int x_3) (C := RX12) (T := TX12) (N := 65) hx hb hts inT12 hown hK hP 0 rfl rfl 22 (by decide) (hts _ tw_1907) (fun _ h9 => h9) rfl dX12_mark_38 ?_
    refine z_callVv (As := [.int 0, .int x_3]) (rest := []) (wr := []) ⟨hx, hb, hml, hown, hts⟩ hK hE hT hP hD hS hA (r_copy l G cA h0 0 0 m_above m_under a_traySort a_trayMany a_numbers a_tape m_taped m_textEnd m_faultKind m_faultAt m_bad m_badAt m_token m_at m_behind m_number m_letters m_word a_c a_words x_3 a_there a_tried a_best a_found m_thereMany m_foundMany m_orderHow m_orderRing m_orderMany m_hasBest m_bestTop m_bestBy a_weights a_shared m_random m_truePlace m_trueWay m_seconds m_done m_feelings m_tries m_leftOver m_playDoor m_playRing m_isOpen m_isOver m_wasTried m_hasPlayed a_feltNow a_last a_kept m_hasSeconds m_hasTurned m_hasRound a_hasFeels a_isOn m_firstAct m_meanTop m_meanBy a_order m_rowMany m_newSteps g_c g_words 0 x_3 (by decide +kernel) (by omega) hC_g_c (by omega)) lk_RX12_597 ⟨rfl, rfl⟩ ⟨Nat.le_of_ble_eq_true rfl, Nat.le_of_ble_eq_true rfl⟩ 12 rfl rfl rfl [0, 1, 2] [] rfl rfl (by decide) rfl hl.1 rfl (lv_room (Nat.le_of_ble_eq_true rfl)) dX12_mark_41 ⟨Nat.le_of_ble_eq_true rfl, Nat.le_of_ble_eq_true rfl⟩ (fun u_7 H locs hw hP hD hS => ?_)
    obtain ⟨n_4, n_5⟩ := u_7
    try dsimp only at hw
    obtain ⟨he_n_4, he_n_5, hw⟩ := hw
    have hC_n_4 := hw
    refine lv_aload_n hx hb dX12_mark_44 rfl (lv_at hl 0 rfl) ?_
    refine va_get (D := G) (ci := 12) (v := .int x_3) (C := RX12) (T := TX12) (N := 65) hx hb hts inT12 hown hK hP 0 rfl rfl 22 (by decide) (hts _ tw_1907) (fun _ h9 => h9) rfl dX12_mark_45 ?_
    have hpost : ((-1) ≤ x_3.toInt ∧ x_3.toInt ≤ 3) ∧ (0 ≤ (0 : Int32).toInt ∧ (0 : Int32).toInt ≤ 0) ∧ (1 ≤ x_3.toInt ∧ x_3.toInt ≤ 3) ∧ (zC n_4) ∧ (zMk m_markMany x_3 x_3) := ⟨(by omega), (by decide +kernel), (by omega), hC_n_4, (by first | exact Or.inl ⟨by omega, by omega, rfl⟩ | exact Or.inr ⟨by omega, by omega, by omega, by omega⟩)⟩
    have hX_9 : F_r_mark m_markMany g_c g_words = ((x_3, (0 : Int32), (0 : Int32), x_3, n_4, n_5) : Int32 × Int32 × Int32 × Int32 × (Nat → Int32) × (Nat → Int64)) := by
      refine (F_r_mark_s ..).trans ?_
      refine (if_neg c_1).trans ?_
      try (extract_lets -merge -useContext +onlyGivenNames y9; have e9 : x_3 = y9 := (by first | exact he_x_3 | exact he_x_3.symm); clear_value y9; subst e9)
      extract_lets -merge -useContext +onlyGivenNames w9 y2_0 y2_1; have e9 : (n_4, n_5) = w9 := ((z_tS he_n_4 he_n_5.symm)).symm; clear_value w9; subst e9
      exact rfl
    exact hret _ _ _ _ _ _ (0, 0, x_3, n_4, n_5) [0, 1, 2] hP hD hS rfl (by decide) dX12_mark_48 ⟨(congrArg (fun z9 => z9.1) hX_9).symm, (congrArg (fun z9 => z9.2.1) hX_9).symm, (congrArg (fun z9 => z9.2.2.1) hX_9).symm, (congrArg (fun z9 => z9.2.2.2.1) hX_9).symm, (congrArg (fun z9 => z9.2.2.2.2.1) hX_9).symm, (congrArg (fun z9 => z9.2.2.2.2.2) hX_9).symm, hpost⟩
  · have b_10 := z_feqF c_1
    refine lv_aload_n hx hb dX12_mark_18 rfl (lv_at hl 0 rfl) ?_
    refine lv_bipush (v := 7) hx hb dX12_mark_19 (by decide) ?_
    refine z_callVi (As := [.int 7]) (rest := []) (wr := [(a_c, .inl (cA.1 0, 1825, .inl g_c)), (a_words, .inl (cA.1 1, 105, .inr (.inl g_words)))]) ⟨hx, hb, hml, hown, hts⟩ hK hE hT hP hD hS hA (r_refuse l G cA h0 0 0 m_above m_under a_traySort a_trayMany a_numbers a_tape m_taped m_textEnd m_faultKind m_faultAt m_bad m_badAt m_token m_at m_behind m_number m_letters m_word a_c a_words m_markMany a_there a_tried a_best a_found m_thereMany m_foundMany m_orderHow m_orderRing m_orderMany m_hasBest m_bestTop m_bestBy a_weights a_shared m_random m_truePlace m_trueWay m_seconds m_done m_feelings m_tries m_leftOver m_playDoor m_playRing m_isOpen m_isOver m_wasTried m_hasPlayed a_feltNow a_last a_kept m_hasSeconds m_hasTurned m_hasRound a_hasFeels a_isOn m_firstAct m_meanTop m_meanBy a_order m_rowMany m_newSteps 7) lk_RX12_269 ⟨rfl, rfl⟩ ⟨Nat.le_of_ble_eq_true rfl, Nat.le_of_ble_eq_true rfl⟩ 12 rfl rfl rfl [0] [1, 2] rfl rfl (by decide) rfl hl.1 rfl (lv_room (Nat.le_of_ble_eq_true rfl)) dX12_mark_21 ⟨Nat.le_of_ble_eq_true rfl, Nat.le_of_ble_eq_true rfl⟩ (fun r_12 u_13 H locs hw hP hD hS => ?_)
    obtain ⟨n_11, rfl⟩ : ∃ z, z = u_13 := ⟨_, rfl⟩
    obtain ⟨he_r_12, he_n_11, hw⟩ := hw
    have hr_r_12 := hw
    have hpost : ((-1) ≤ r_12.toInt ∧ r_12.toInt ≤ 3) ∧ (0 ≤ (0 : Int32).toInt ∧ (0 : Int32).toInt ≤ 0) ∧ (1 ≤ m_markMany.toInt ∧ m_markMany.toInt ≤ 3) ∧ (zC g_c) ∧ (zMk m_markMany r_12 m_markMany) := ⟨(z_rgw hr_r_12 (by decide) (by decide)), (by decide +kernel), (by omega), hC_g_c, (by first | exact Or.inl ⟨by omega, by omega, rfl⟩ | exact Or.inr ⟨by omega, by omega, by omega, by omega⟩)⟩
    have hX_15 : F_r_mark m_markMany g_c g_words = ((r_12, n_11, (0 : Int32), m_markMany, g_c, g_words) : Int32 × Int32 × Int32 × Int32 × (Nat → Int32) × (Nat → Int64)) := by
      refine (F_r_mark_s ..).trans ?_
      refine (if_pos c_1).trans ?_
      extract_lets -merge -useContext +onlyGivenNames w9 y1_0 y1_1; have e9 : (r_12, n_11) = w9 := ((z_tS he_r_12 he_n_11.symm)).symm; clear_value w9; subst e9
      exact rfl
    exact hret _ _ _ _ _ _ (n_11, 0, m_markMany, g_c, g_words) [2, 0, 1] hP hD hS rfl (by decide) dX12_mark_24 ⟨(congrArg (fun z9 => z9.1) hX_15).symm, (congrArg (fun z9 => z9.2.1) hX_15).symm, (congrArg (fun z9 => z9.2.2.1) hX_15).symm, (congrArg (fun z9 => z9.2.2.2.1) hX_15).symm, (congrArg (fun z9 => z9.2.2.2.2.1) hX_15).symm, (congrArg (fun z9 => z9.2.2.2.2.2) hX_15).symm, hpost⟩
set_option maxHeartbeats 40000000 in
set_option maxRecDepth 100000 in
theorem r_back (l : Launch) (G : va_G) (cA : zCA) (h0 : Nat) (m_status : Int32) (m_thrown : Int32) (m_above : Int64) (m_under : Int64) (a_traySort : Nat) (a_trayMany : Nat) (a_numbers : Nat) (a_tape : Nat) (m_taped : Int32) (m_textEnd : Int32) (m_faultKind : Int32) (m_faultAt : Int32) (m_bad : Int32) (m_badAt : Int32) (m_token : Int32) (m_at : Int32) (m_behind : Int32) (m_number : Int32) (m_letters : Int32) (m_word : Int64) (a_c : Nat) (a_words : Nat) (m_markMany : Int32) (a_there : Nat) (a_tried : Nat) (a_best : Nat) (a_found : Nat) (m_thereMany : Int32) (m_foundMany : Int32) (m_orderHow : Int32) (m_orderRing : Int32) (m_orderMany : Int32) (m_hasBest : Int32) (m_bestTop : Int64) (m_bestBy : Int64) (a_weights : Nat) (a_shared : Nat) (m_random : Int32) (m_truePlace : Int32) (m_trueWay : Int32) (m_seconds : Int32) (m_done : Int32) (m_feelings : Int32) (m_tries : Int32) (m_leftOver : Int32) (m_playDoor : Int32) (m_playRing : Int32) (m_isOpen : Int32) (m_isOver : Int32) (m_wasTried : Int32) (m_hasPlayed : Int32) (a_feltNow : Nat) (a_last : Nat) (a_kept : Nat) (m_hasSeconds : Int32) (m_hasTurned : Int32) (m_hasRound : Int32) (a_hasFeels : Nat) (a_isOn : Nat) (m_firstAct : Int32) (m_meanTop : Int64) (m_meanBy : Int64) (a_order : Nat) (m_rowMany : Int32) (m_newSteps : Int32) (g_c : Nat → Int32) (g_words : Nat → Int64) (hr_m_markMany : 0 ≤ m_markMany.toInt ∧ m_markMany.toInt ≤ 3) (hC_g_c : zC g_c) : zCi l yX12_back cX12_back 1 (some .int) ({ frames := 1, cells := 0, slots := 0, locals := 23 }) G cA [.ref h0] [(h0, .inr (12, [.int m_status, .int m_thrown, .long m_above, .long m_under, .ref a_traySort, .ref a_trayMany, .ref a_numbers, .ref a_tape, .int m_taped, .int m_textEnd, .int m_faultKind, .int m_faultAt, .int m_bad, .int m_badAt, .int m_token, .int m_at, .int m_behind, .int m_number, .int m_letters, .long m_word, .ref a_c, .ref a_words, .int m_markMany, .ref a_there, .ref a_tried, .ref a_best, .ref a_found, .int m_thereMany, .int m_foundMany, .int m_orderHow, .int m_orderRing, .int m_orderMany, .int m_hasBest, .long m_bestTop, .long m_bestBy, .ref a_weights, .ref a_shared, .int m_random, .int m_truePlace, .int m_trueWay, .int m_seconds, .int m_done, .int m_feelings, .int m_tries, .int m_leftOver, .int m_playDoor, .int m_playRing, .int m_isOpen, .int m_isOver, .int m_wasTried, .int m_hasPlayed, .ref a_feltNow, .ref a_last, .ref a_kept, .int m_hasSeconds, .int m_hasTurned, .int m_hasRound, .ref a_hasFeels, .ref a_isOn, .int m_firstAct, .long m_meanTop, .long m_meanBy, .ref a_order, .int m_rowMany, .int m_newSteps])), (a_c, .inl (cA.1 0, 1825, .inl g_c)), (a_words, .inl (cA.1 1, 105, .inr (.inl g_words)))] (S := Int32 × Int32 × Int32 × (Nat → Int32) × (Nat → Int64)) (fun (r : Int32) (u : Int32 × Int32 × Int32 × (Nat → Int32) × (Nat → Int64)) => (r = (F_r_back m_markMany g_c g_words).1) ∧ (u.1 = (F_r_back m_markMany g_c g_words).2.1) ∧ (u.2.1 = (F_r_back m_markMany g_c g_words).2.2.1) ∧ (u.2.2.1 = (F_r_back m_markMany g_c g_words).2.2.2.1) ∧ (u.2.2.2.1 = (F_r_back m_markMany g_c g_words).2.2.2.2.1) ∧ (u.2.2.2.2 = (F_r_back m_markMany g_c g_words).2.2.2.2.2) ∧ (((-1) ≤ r.toInt ∧ r.toInt ≤ 2) ∧ (0 ≤ u.2.1.toInt ∧ u.2.1.toInt ≤ 0) ∧ (0 ≤ u.2.2.1.toInt ∧ u.2.2.1.toInt ≤ 2) ∧ (zC u.2.2.2.1) ∧ (zBk m_markMany r u.2.2.1))) (fun (u : Int32 × Int32 × Int32 × (Nat → Int32) × (Nat → Int64)) => [(h0, .inr (12, [.int u.1, .int u.2.1, .long m_above, .long m_under, .ref a_traySort, .ref a_trayMany, .ref a_numbers, .ref a_tape, .int m_taped, .int m_textEnd, .int m_faultKind, .int m_faultAt, .int m_bad, .int m_badAt, .int m_token, .int m_at, .int m_behind, .int m_number, .int m_letters, .long m_word, .ref a_c, .ref a_words, .int u.2.2.1, .ref a_there, .ref a_tried, .ref a_best, .ref a_found, .int m_thereMany, .int m_foundMany, .int m_orderHow, .int m_orderRing, .int m_orderMany, .int m_hasBest, .long m_bestTop, .long m_bestBy, .ref a_weights, .ref a_shared, .int m_random, .int m_truePlace, .int m_trueWay, .int m_seconds, .int m_done, .int m_feelings, .int m_tries, .int m_leftOver, .int m_playDoor, .int m_playRing, .int m_isOpen, .int m_isOver, .int m_wasTried, .int m_hasPlayed, .ref a_feltNow, .ref a_last, .ref a_kept, .int m_hasSeconds, .int m_hasTurned, .int m_hasRound, .ref a_hasFeels, .ref a_isOn, .int m_firstAct, .long m_meanTop, .long m_meanBy, .ref a_order, .int m_rowMany, .int m_newSteps])), (a_c, .inl (cA.1 0, 1825, .inl u.2.2.2.1)), (a_words, .inl (cA.1 1, 105, .inr (.inl u.2.2.2.2)))]) 0 0 := by
  have hk_0 : (0 : Int32).toInt = 0 := by decide +kernel
  have hk_1 : (1 : Int32).toInt = 1 := by decide +kernel
  have hk_8 : (8 : Int32).toInt = 8 := by decide +kernel
  refine z_start2i (own := RX12) (by decide) (Nat.le_of_ble_eq_true rfl) rfl ?_
  intro p e s m args below meth c A ls Q hx hb hml hts hown hK hE hT hP hD hS hA hl hret
  have hl : lv_has ls 1 [(0, .ref h0)] := hl
  refine lv_aload_n hx hb dX12_back_0 rfl (lv_at hl 0 rfl) ?_
  refine lv_iconst (v := 0) hx hb dX12_back_1 (by decide) ?_
  refine va_put (D := G) (ci := 12) (v := .int 0) (ty := .int) (C := RX12) (T := TX12) (N := 65) hx hb hts inT12 tyX12 tyX12_ok nmX12 hown hK hP hD hS 0 rfl rfl 1 (by decide) (hts _ tw_1886) (fun _ h9 => h9) rfl (tyX12_ok 1 (by decide)) rfl rfl (Nat.le_of_ble_eq_true rfl) dX12_back_2 (fun H locs hP hD hS => ?_)
  refine lv_aload_n hx hb dX12_back_5 rfl (lv_at hl 0 rfl) ?_
  refine lv_iconst (v := 0) hx hb dX12_back_6 (by decide) ?_
  refine va_put (D := G) (ci := 12) (v := .int 0) (ty := .int) (C := RX12) (T := TX12) (N := 65) hx hb hts inT12 tyX12 tyX12_ok nmX12 hown hK hP hD hS 0 rfl rfl 0 (by decide) (hts _ tw_1885) (fun _ h9 => h9) rfl (tyX12_ok 0 (by decide)) rfl rfl (Nat.le_of_ble_eq_true rfl) dX12_back_7 (fun H locs hP hD hS => ?_)
  refine lv_aload_n hx hb dX12_back_10 rfl (lv_at hl 0 rfl) ?_
  refine va_get (D := G) (ci := 12) (v := .int m_markMany) (C := RX12) (T := TX12) (N := 65) hx hb hts inT12 hown hK hP 0 rfl rfl 22 (by decide) (hts _ tw_1907) (fun _ h9 => h9) rfl dX12_back_11 ?_
  refine lv_if_ne (tgt := 24) hx hb dX12_back_14 (by decide) (fun c_1 => ?_) (fun c_1 => ?_)
  · have b_2 := z_fneT c_1
    refine lv_aload_n hx hb dX12_back_24 rfl (lv_at hl 0 rfl) ?_
    refine lv_aload_n hx hb dX12_back_25 rfl (lv_at hl 0 rfl) ?_
    refine va_get (D := G) (ci := 12) (v := .int m_markMany) (C := RX12) (T := TX12) (N := 65) hx hb hts inT12 hown hK hP 0 rfl rfl 22 (by decide) (hts _ tw_1907) (fun _ h9 => h9) rfl dX12_back_26 ?_
    refine lv_iconst (v := 0) hx hb dX12_back_29 (by decide) ?_
    refine z_callVv (As := [.int m_markMany, .int 0]) (rest := []) (wr := []) ⟨hx, hb, hml, hown, hts⟩ hK hE hT hP hD hS hA (r_copy l G cA h0 0 0 m_above m_under a_traySort a_trayMany a_numbers a_tape m_taped m_textEnd m_faultKind m_faultAt m_bad m_badAt m_token m_at m_behind m_number m_letters m_word a_c a_words m_markMany a_there a_tried a_best a_found m_thereMany m_foundMany m_orderHow m_orderRing m_orderMany m_hasBest m_bestTop m_bestBy a_weights a_shared m_random m_truePlace m_trueWay m_seconds m_done m_feelings m_tries m_leftOver m_playDoor m_playRing m_isOpen m_isOver m_wasTried m_hasPlayed a_feltNow a_last a_kept m_hasSeconds m_hasTurned m_hasRound a_hasFeels a_isOn m_firstAct m_meanTop m_meanBy a_order m_rowMany m_newSteps g_c g_words m_markMany 0 hr_m_markMany (by decide +kernel) hC_g_c (by omega)) lk_RX12_597 ⟨rfl, rfl⟩ ⟨Nat.le_of_ble_eq_true rfl, Nat.le_of_ble_eq_true rfl⟩ 12 rfl rfl rfl [0, 1, 2] [] rfl rfl (by decide) rfl hl.1 rfl (lv_room (Nat.le_of_ble_eq_true rfl)) dX12_back_30 ⟨Nat.le_of_ble_eq_true rfl, Nat.le_of_ble_eq_true rfl⟩ (fun u_6 H locs hw hP hD hS => ?_)
    obtain ⟨n_3, n_4⟩ := u_6
    try dsimp only at hw
    obtain ⟨he_n_3, he_n_4, hw⟩ := hw
    have hC_n_3 := hw
    refine lv_aload_n hx hb dX12_back_33 rfl (lv_at hl 0 rfl) ?_
    refine lv_dup hx hb dX12_back_34 rfl ?_
    refine va_get (D := G) (ci := 12) (v := .int m_markMany) (C := RX12) (T := TX12) (N := 65) hx hb hts inT12 hown hK hP 0 rfl rfl 22 (by decide) (hts _ tw_1907) (fun _ h9 => h9) rfl dX12_back_35 ?_
    refine lv_iconst (v := 1) hx hb dX12_back_38 (by decide) ?_
    refine lv_isub hx hb dX12_back_39 ?_
    refine lv_topi (fun x_8 he_x_8 => ?_)
    have hq_x_8 := z_subq he_x_8 (rfl : m_markMany.toInt = _) hk_1 (by omega) (by omega)
    refine va_put (D := G) (ci := 12) (v := .int x_8) (ty := .int) (C := RX12) (T := TX12) (N := 65) hx hb hts inT12 tyX12 tyX12_ok nmX12 hown hK hP hD hS 0 rfl rfl 22 (by decide) (hts _ tw_1907) (fun _ h9 => h9) rfl (tyX12_ok 22 (by decide)) rfl rfl (Nat.le_of_ble_eq_true rfl) dX12_back_40 (fun H locs hP hD hS => ?_)
    refine lv_aload_n hx hb dX12_back_43 rfl (lv_at hl 0 rfl) ?_
    refine va_get (D := G) (ci := 12) (v := .int x_8) (C := RX12) (T := TX12) (N := 65) hx hb hts inT12 hown hK hP 0 rfl rfl 22 (by decide) (hts _ tw_1907) (fun _ h9 => h9) rfl dX12_back_44 ?_
    have hpost : ((-1) ≤ x_8.toInt ∧ x_8.toInt ≤ 2) ∧ (0 ≤ (0 : Int32).toInt ∧ (0 : Int32).toInt ≤ 0) ∧ (0 ≤ x_8.toInt ∧ x_8.toInt ≤ 2) ∧ (zC n_3) ∧ (zBk m_markMany x_8 x_8) := ⟨(by omega), (by decide +kernel), (by omega), hC_n_3, (by first | exact Or.inl ⟨by omega, by omega, rfl⟩ | exact Or.inr ⟨by omega, by omega, by omega, by omega⟩)⟩
    have hX_9 : F_r_back m_markMany g_c g_words = ((x_8, (0 : Int32), (0 : Int32), x_8, n_3, n_4) : Int32 × Int32 × Int32 × Int32 × (Nat → Int32) × (Nat → Int64)) := by
      refine (F_r_back_s ..).trans ?_
      refine (if_neg c_1).trans ?_
      extract_lets -merge -useContext +onlyGivenNames w9 y1_0 y1_1; have e9 : (n_3, n_4) = w9 := ((z_tS he_n_3 he_n_4.symm)).symm; clear_value w9; subst e9
      try (extract_lets -merge -useContext +onlyGivenNames y9; have e9 : x_8 = y9 := (by first | exact he_x_8 | exact he_x_8.symm); clear_value y9; subst e9)
      exact rfl
    exact hret _ _ _ _ _ _ (0, 0, x_8, n_3, n_4) [0, 1, 2] hP hD hS rfl (by decide) dX12_back_47 ⟨(congrArg (fun z9 => z9.1) hX_9).symm, (congrArg (fun z9 => z9.2.1) hX_9).symm, (congrArg (fun z9 => z9.2.2.1) hX_9).symm, (congrArg (fun z9 => z9.2.2.2.1) hX_9).symm, (congrArg (fun z9 => z9.2.2.2.2.1) hX_9).symm, (congrArg (fun z9 => z9.2.2.2.2.2) hX_9).symm, hpost⟩
  · have b_10 := z_feqF c_1
    refine lv_aload_n hx hb dX12_back_17 rfl (lv_at hl 0 rfl) ?_
    refine lv_bipush (v := 8) hx hb dX12_back_18 (by decide) ?_
    refine z_callVi (As := [.int 8]) (rest := []) (wr := [(a_c, .inl (cA.1 0, 1825, .inl g_c)), (a_words, .inl (cA.1 1, 105, .inr (.inl g_words)))]) ⟨hx, hb, hml, hown, hts⟩ hK hE hT hP hD hS hA (r_refuse l G cA h0 0 0 m_above m_under a_traySort a_trayMany a_numbers a_tape m_taped m_textEnd m_faultKind m_faultAt m_bad m_badAt m_token m_at m_behind m_number m_letters m_word a_c a_words m_markMany a_there a_tried a_best a_found m_thereMany m_foundMany m_orderHow m_orderRing m_orderMany m_hasBest m_bestTop m_bestBy a_weights a_shared m_random m_truePlace m_trueWay m_seconds m_done m_feelings m_tries m_leftOver m_playDoor m_playRing m_isOpen m_isOver m_wasTried m_hasPlayed a_feltNow a_last a_kept m_hasSeconds m_hasTurned m_hasRound a_hasFeels a_isOn m_firstAct m_meanTop m_meanBy a_order m_rowMany m_newSteps 8) lk_RX12_269 ⟨rfl, rfl⟩ ⟨Nat.le_of_ble_eq_true rfl, Nat.le_of_ble_eq_true rfl⟩ 12 rfl rfl rfl [0] [1, 2] rfl rfl (by decide) rfl hl.1 rfl (lv_room (Nat.le_of_ble_eq_true rfl)) dX12_back_20 ⟨Nat.le_of_ble_eq_true rfl, Nat.le_of_ble_eq_true rfl⟩ (fun r_12 u_13 H locs hw hP hD hS => ?_)
    obtain ⟨n_11, rfl⟩ : ∃ z, z = u_13 := ⟨_, rfl⟩
    obtain ⟨he_r_12, he_n_11, hw⟩ := hw
    have hr_r_12 := hw
    have hpost : ((-1) ≤ r_12.toInt ∧ r_12.toInt ≤ 2) ∧ (0 ≤ (0 : Int32).toInt ∧ (0 : Int32).toInt ≤ 0) ∧ (0 ≤ m_markMany.toInt ∧ m_markMany.toInt ≤ 2) ∧ (zC g_c) ∧ (zBk m_markMany r_12 m_markMany) := ⟨(z_rgw hr_r_12 (by decide) (by decide)), (by decide +kernel), (by omega), hC_g_c, (by first | exact Or.inl ⟨by omega, by omega, rfl⟩ | exact Or.inr ⟨by omega, by omega, by omega, by omega⟩)⟩
    have hX_15 : F_r_back m_markMany g_c g_words = ((r_12, n_11, (0 : Int32), m_markMany, g_c, g_words) : Int32 × Int32 × Int32 × Int32 × (Nat → Int32) × (Nat → Int64)) := by
      refine (F_r_back_s ..).trans ?_
      refine (if_pos c_1).trans ?_
      extract_lets -merge -useContext +onlyGivenNames w9 y1_0 y1_1; have e9 : (r_12, n_11) = w9 := ((z_tS he_r_12 he_n_11.symm)).symm; clear_value w9; subst e9
      exact rfl
    exact hret _ _ _ _ _ _ (n_11, 0, m_markMany, g_c, g_words) [2, 0, 1] hP hD hS rfl (by decide) dX12_back_23 ⟨(congrArg (fun z9 => z9.1) hX_15).symm, (congrArg (fun z9 => z9.2.1) hX_15).symm, (congrArg (fun z9 => z9.2.2.1) hX_15).symm, (congrArg (fun z9 => z9.2.2.2.1) hX_15).symm, (congrArg (fun z9 => z9.2.2.2.2.1) hX_15).symm, (congrArg (fun z9 => z9.2.2.2.2.2) hX_15).symm, hpost⟩
set_option maxHeartbeats 40000000 in
set_option maxRecDepth 100000 in
theorem r_readFeature (l : Launch) (G : va_G) (cA : zCA) (h0 : Nat) (m_status : Int32) (m_thrown : Int32) (m_above : Int64) (m_under : Int64) (a_traySort : Nat) (a_trayMany : Nat) (a_numbers : Nat) (a_tape : Nat) (m_taped : Int32) (m_textEnd : Int32) (m_faultKind : Int32) (m_faultAt : Int32) (m_bad : Int32) (m_badAt : Int32) (m_token : Int32) (m_at : Int32) (m_behind : Int32) (m_number : Int32) (m_letters : Int32) (m_word : Int64) (a_c : Nat) (a_words : Nat) (m_markMany : Int32) (a_there : Nat) (a_tried : Nat) (a_best : Nat) (a_found : Nat) (m_thereMany : Int32) (m_foundMany : Int32) (m_orderHow : Int32) (m_orderRing : Int32) (m_orderMany : Int32) (m_hasBest : Int32) (m_bestTop : Int64) (m_bestBy : Int64) (a_weights : Nat) (a_shared : Nat) (m_random : Int32) (m_truePlace : Int32) (m_trueWay : Int32) (m_seconds : Int32) (m_done : Int32) (m_feelings : Int32) (m_tries : Int32) (m_leftOver : Int32) (m_playDoor : Int32) (m_playRing : Int32) (m_isOpen : Int32) (m_isOver : Int32) (m_wasTried : Int32) (m_hasPlayed : Int32) (a_feltNow : Nat) (a_last : Nat) (a_kept : Nat) (m_hasSeconds : Int32) (m_hasTurned : Int32) (m_hasRound : Int32) (a_hasFeels : Nat) (a_isOn : Nat) (m_firstAct : Int32) (m_meanTop : Int64) (m_meanBy : Int64) (a_order : Nat) (m_rowMany : Int32) (m_newSteps : Int32) (g_tape : Nat → Int32) (g_c : Nat → Int32) (g_words : Nat → Int64) (g_hasFeels : Nat → Int32) (g_isOn : Nat → Int32) (hr_m_textEnd : 0 ≤ m_textEnd.toInt ∧ m_textEnd.toInt ≤ 900) (hr_m_at : 0 ≤ m_at.toInt ∧ m_at.toInt ≤ 900) (hr_m_behind : 0 ≤ m_behind.toInt ∧ m_behind.toInt ≤ 900) (hr_m_bad : 0 ≤ m_bad.toInt ∧ m_bad.toInt ≤ 0) (hr_m_token : 0 ≤ m_token.toInt ∧ m_token.toInt ≤ 4) (hr_m_number : 0 ≤ m_number.toInt ∧ m_number.toInt ≤ 9999) (hr_m_letters : 0 ≤ m_letters.toInt ∧ m_letters.toInt ≤ 900) (hC_g_c : zC g_c) (hC_g_hasFeels : zRg 3 0 1 g_hasFeels) (hC_g_isOn : zRg 10 0 1 g_isOn) (hNW0 : zNw g_c g_isOn) (hNF0 : zNf g_c) : zCv l yX12_readFeature cX12_readFeature 5 none ({ frames := 4, cells := 0, slots := 0, locals := 91 }) G cA [.ref h0] [(h0, .inr (12, [.int m_status, .int m_thrown, .long m_above, .long m_under, .ref a_traySort, .ref a_trayMany, .ref a_numbers, .ref a_tape, .int m_taped, .int m_textEnd, .int m_faultKind, .int m_faultAt, .int m_bad, .int m_badAt, .int m_token, .int m_at, .int m_behind, .int m_number, .int m_letters, .long m_word, .ref a_c, .ref a_words, .int m_markMany, .ref a_there, .ref a_tried, .ref a_best, .ref a_found, .int m_thereMany, .int m_foundMany, .int m_orderHow, .int m_orderRing, .int m_orderMany, .int m_hasBest, .long m_bestTop, .long m_bestBy, .ref a_weights, .ref a_shared, .int m_random, .int m_truePlace, .int m_trueWay, .int m_seconds, .int m_done, .int m_feelings, .int m_tries, .int m_leftOver, .int m_playDoor, .int m_playRing, .int m_isOpen, .int m_isOver, .int m_wasTried, .int m_hasPlayed, .ref a_feltNow, .ref a_last, .ref a_kept, .int m_hasSeconds, .int m_hasTurned, .int m_hasRound, .ref a_hasFeels, .ref a_isOn, .int m_firstAct, .long m_meanTop, .long m_meanBy, .ref a_order, .int m_rowMany, .int m_newSteps])), (a_tape, .inl (cA.1 2, 900, .inl g_tape)), (a_c, .inl (cA.1 0, 1825, .inl g_c)), (a_words, .inl (cA.1 1, 105, .inr (.inl g_words))), (a_hasFeels, .inl (cA.1 3, 3, .inl g_hasFeels)), (a_isOn, .inl (cA.1 3, 10, .inl g_isOn))] (S := Int32 × Int32 × Int32 × Int32 × Int32 × Int32 × Int32 × Int64 × (Nat → Int32) × (Nat → Int64) × (Nat → Int32)) (fun (u : Int32 × Int32 × Int32 × Int32 × Int32 × Int32 × Int32 × Int64 × (Nat → Int32) × (Nat → Int64) × (Nat → Int32)) => (u.1 = (F_r_readFeature m_textEnd m_bad m_badAt m_token m_at m_behind m_number m_letters m_word g_tape g_c g_words g_hasFeels).1) ∧ (u.2.1 = (F_r_readFeature m_textEnd m_bad m_badAt m_token m_at m_behind m_number m_letters m_word g_tape g_c g_words g_hasFeels).2.1) ∧ (u.2.2.1 = (F_r_readFeature m_textEnd m_bad m_badAt m_token m_at m_behind m_number m_letters m_word g_tape g_c g_words g_hasFeels).2.2.1) ∧ (u.2.2.2.1 = (F_r_readFeature m_textEnd m_bad m_badAt m_token m_at m_behind m_number m_letters m_word g_tape g_c g_words g_hasFeels).2.2.2.1) ∧ (u.2.2.2.2.1 = (F_r_readFeature m_textEnd m_bad m_badAt m_token m_at m_behind m_number m_letters m_word g_tape g_c g_words g_hasFeels).2.2.2.2.1) ∧ (u.2.2.2.2.2.1 = (F_r_readFeature m_textEnd m_bad m_badAt m_token m_at m_behind m_number m_letters m_word g_tape g_c g_words g_hasFeels).2.2.2.2.2.1) ∧ (u.2.2.2.2.2.2.1 = (F_r_readFeature m_textEnd m_bad m_badAt m_token m_at m_behind m_number m_letters m_word g_tape g_c g_words g_hasFeels).2.2.2.2.2.2.1) ∧ (u.2.2.2.2.2.2.2.1 = (F_r_readFeature m_textEnd m_bad m_badAt m_token m_at m_behind m_number m_letters m_word g_tape g_c g_words g_hasFeels).2.2.2.2.2.2.2.1) ∧ (u.2.2.2.2.2.2.2.2.1 = (F_r_readFeature m_textEnd m_bad m_badAt m_token m_at m_behind m_number m_letters m_word g_tape g_c g_words g_hasFeels).2.2.2.2.2.2.2.2.1) ∧ (u.2.2.2.2.2.2.2.2.2.1 = (F_r_readFeature m_textEnd m_bad m_badAt m_token m_at m_behind m_number m_letters m_word g_tape g_c g_words g_hasFeels).2.2.2.2.2.2.2.2.2.1) ∧ (u.2.2.2.2.2.2.2.2.2.2 = (F_r_readFeature m_textEnd m_bad m_badAt m_token m_at m_behind m_number m_letters m_word g_tape g_c g_words g_hasFeels).2.2.2.2.2.2.2.2.2.2) ∧ ((0 ≤ u.1.toInt ∧ u.1.toInt ≤ 9) ∧ (0 ≤ u.2.2.1.toInt ∧ u.2.2.1.toInt ≤ 4) ∧ (0 ≤ u.2.2.2.1.toInt ∧ u.2.2.2.1.toInt ≤ 900) ∧ (0 ≤ u.2.2.2.2.1.toInt ∧ u.2.2.2.2.1.toInt ≤ 900) ∧ (0 ≤ u.2.2.2.2.2.1.toInt ∧ u.2.2.2.2.2.1.toInt ≤ 9999) ∧ (0 ≤ u.2.2.2.2.2.2.1.toInt ∧ u.2.2.2.2.2.2.1.toInt ≤ 900) ∧ (zC u.2.2.2.2.2.2.2.2.1) ∧ (zRg 3 0 1 u.2.2.2.2.2.2.2.2.2.2) ∧ (zNw u.2.2.2.2.2.2.2.2.1 g_isOn) ∧ (m_behind.toInt ≤ u.2.2.2.2.1.toInt) ∧ (0 < m_bad.toInt → 0 < u.1.toInt) ∧ (u.1.toInt ≤ 0 → u.2.2.1.toInt = 0 ∨ m_behind.toInt < u.2.2.2.2.1.toInt) ∧ (u.1.toInt ≤ 0 → u.2.2.1.toInt = 3 → u.2.2.2.2.2.1.toInt = 59 → zNf u.2.2.2.2.2.2.2.2.1))) (fun (u : Int32 × Int32 × Int32 × Int32 × Int32 × Int32 × Int32 × Int64 × (Nat → Int32) × (Nat → Int64) × (Nat → Int32)) => [(h0, .inr (12, [.int m_status, .int m_thrown, .long m_above, .long m_under, .ref a_traySort, .ref a_trayMany, .ref a_numbers, .ref a_tape, .int m_taped, .int m_textEnd, .int m_faultKind, .int m_faultAt, .int u.1, .int u.2.1, .int u.2.2.1, .int u.2.2.2.1, .int u.2.2.2.2.1, .int u.2.2.2.2.2.1, .int u.2.2.2.2.2.2.1, .long u.2.2.2.2.2.2.2.1, .ref a_c, .ref a_words, .int m_markMany, .ref a_there, .ref a_tried, .ref a_best, .ref a_found, .int m_thereMany, .int m_foundMany, .int m_orderHow, .int m_orderRing, .int m_orderMany, .int m_hasBest, .long m_bestTop, .long m_bestBy, .ref a_weights, .ref a_shared, .int m_random, .int m_truePlace, .int m_trueWay, .int m_seconds, .int m_done, .int m_feelings, .int m_tries, .int m_leftOver, .int m_playDoor, .int m_playRing, .int m_isOpen, .int m_isOver, .int m_wasTried, .int m_hasPlayed, .ref a_feltNow, .ref a_last, .ref a_kept, .int m_hasSeconds, .int m_hasTurned, .int m_hasRound, .ref a_hasFeels, .ref a_isOn, .int m_firstAct, .long m_meanTop, .long m_meanBy, .ref a_order, .int m_rowMany, .int m_newSteps])), (a_tape, .inl (cA.1 2, 900, .inl g_tape)), (a_c, .inl (cA.1 0, 1825, .inl u.2.2.2.2.2.2.2.2.1)), (a_words, .inl (cA.1 1, 105, .inr (.inl u.2.2.2.2.2.2.2.2.2.1))), (a_hasFeels, .inl (cA.1 3, 3, .inl u.2.2.2.2.2.2.2.2.2.2)), (a_isOn, .inl (cA.1 3, 10, .inl g_isOn))]) 0 0 := by
  have hk_0 : (0 : Int32).toInt = 0 := by decide +kernel
  have hk_1 : (1 : Int32).toInt = 1 := by decide +kernel
  have hk_2 : (2 : Int32).toInt = 2 := by decide +kernel
  have hk_3 : (3 : Int32).toInt = 3 := by decide +kernel
  have hk_4 : (4 : Int32).toInt = 4 := by decide +kernel
  have hk_5 : (5 : Int32).toInt = 5 := by decide +kernel
  have hk_6 : (6 : Int32).toInt = 6 := by decide +kernel
  have hk_7 : (7 : Int32).toInt = 7 := by decide +kernel
  have hk_8 : (8 : Int32).toInt = 8 := by decide +kernel
  have hk_16 : (16 : Int32).toInt = 16 := by decide +kernel
  have hk_1471 : (1471 : Int32).toInt = 1471 := by decide +kernel
  have hk_1474 : (1474 : Int32).toInt = 1474 := by decide +kernel
  have hk_1477 : (1477 : Int32).toInt = 1477 := by decide +kernel
  refine z_start2v (own := RX12) (by decide) (Nat.le_of_ble_eq_true rfl) rfl ?_
  intro p e s m args below meth c A ls Q hx hb hml hts hown hK hE hT hP hD hS hA hl hret
  have hl : lv_has ls 5 [(0, .ref h0)] := hl
  have hct_104 : ∀ (v_371 : Int32) (v_372 : Int32) (v_373 : Int32) (v_374 : Int32) (v_375 : Int32) (v_376 : Int32) (v_377 : Int32) (v_378 : Int32) (v_379 : Int32) (v_380 : Int32) (v_381 : Int64) (g_382 : Nat → Int64) (H : Heap) (locs : List Loc) (ls : Array Slot), (0 ≤ v_371.toInt ∧ v_371.toInt ≤ 2) → (2 ≤ v_372.toInt ∧ v_372.toInt ≤ 4) → (0 ≤ v_373.toInt ∧ v_373.toInt ≤ 1) → (0 ≤ v_374.toInt ∧ v_374.toInt ≤ 0) → (0 ≤ v_376.toInt ∧ v_376.toInt ≤ 4) → (0 ≤ v_377.toInt ∧ v_377.toInt ≤ 900) → (0 ≤ v_378.toInt ∧ v_378.toInt ≤ 900) → (0 ≤ v_379.toInt ∧ v_379.toInt ≤ 9999) → (0 ≤ v_380.toInt ∧ v_380.toInt ≤ 900) → (zNw g_c g_isOn) → (zNf g_c) → ((g_c 1460).toInt = v_371.toInt) → ((g_c 1461).toInt ≤ 0) → (m_behind.toInt ≤ v_378.toInt) → (v_374.toInt ≤ 0 → v_376.toInt = 0 ∨ m_behind.toInt < v_378.toInt) → (F_r_readFeature m_textEnd m_bad m_badAt m_token m_at m_behind m_number m_letters m_word g_tape g_c g_words g_hasFeels = F_r_readFeature_C104 g_c g_hasFeels v_371 v_372 v_373 v_374 v_375 v_376 v_377 v_378 v_379 v_380 v_381 g_382) → va_P G vwCl [(h0, .inr (12, [.int m_status, .int m_thrown, .long m_above, .long m_under, .ref a_traySort, .ref a_trayMany, .ref a_numbers, .ref a_tape, .int m_taped, .int m_textEnd, .int m_faultKind, .int m_faultAt, .int v_374, .int v_375, .int v_376, .int v_377, .int v_378, .int v_379, .int v_380, .long v_381, .ref a_c, .ref a_words, .int m_markMany, .ref a_there, .ref a_tried, .ref a_best, .ref a_found, .int m_thereMany, .int m_foundMany, .int m_orderHow, .int m_orderRing, .int m_orderMany, .int m_hasBest, .long m_bestTop, .long m_bestBy, .ref a_weights, .ref a_shared, .int m_random, .int m_truePlace, .int m_trueWay, .int m_seconds, .int m_done, .int m_feelings, .int m_tries, .int m_leftOver, .int m_playDoor, .int m_playRing, .int m_isOpen, .int m_isOver, .int m_wasTried, .int m_hasPlayed, .ref a_feltNow, .ref a_last, .ref a_kept, .int m_hasSeconds, .int m_hasTurned, .int m_hasRound, .ref a_hasFeels, .ref a_isOn, .int m_firstAct, .long m_meanTop, .long m_meanBy, .ref a_order, .int m_rowMany, .int m_newSteps])), (a_tape, .inl (cA.1 2, 900, .inl g_tape)), (a_c, .inl (cA.1 0, 1825, .inl g_c)), (a_words, .inl (cA.1 1, 105, .inr (.inl g_382))), (a_hasFeels, .inl (cA.1 3, 3, .inl g_hasFeels)), (a_isOn, .inl (cA.1 3, 10, .inl g_isOn))] H → va_D A [(h0, .inr (12, [.int m_status, .int m_thrown, .long m_above, .long m_under, .ref a_traySort, .ref a_trayMany, .ref a_numbers, .ref a_tape, .int m_taped, .int m_textEnd, .int m_faultKind, .int m_faultAt, .int v_374, .int v_375, .int v_376, .int v_377, .int v_378, .int v_379, .int v_380, .long v_381, .ref a_c, .ref a_words, .int m_markMany, .ref a_there, .ref a_tried, .ref a_best, .ref a_found, .int m_thereMany, .int m_foundMany, .int m_orderHow, .int m_orderRing, .int m_orderMany, .int m_hasBest, .long m_bestTop, .long m_bestBy, .ref a_weights, .ref a_shared, .int m_random, .int m_truePlace, .int m_trueWay, .int m_seconds, .int m_done, .int m_feelings, .int m_tries, .int m_leftOver, .int m_playDoor, .int m_playRing, .int m_isOpen, .int m_isOver, .int m_wasTried, .int m_hasPlayed, .ref a_feltNow, .ref a_last, .ref a_kept, .int m_hasSeconds, .int m_hasTurned, .int m_hasRound, .ref a_hasFeels, .ref a_isOn, .int m_firstAct, .long m_meanTop, .long m_meanBy, .ref a_order, .int m_rowMany, .int m_newSteps])), (a_tape, .inl (cA.1 2, 900, .inl g_tape)), (a_c, .inl (cA.1 0, 1825, .inl g_c)), (a_words, .inl (cA.1 1, 105, .inr (.inl g_382))), (a_hasFeels, .inl (cA.1 3, 3, .inl g_hasFeels)), (a_isOn, .inl (cA.1 3, 10, .inl g_isOn))] → va_S A s.heap H locs → lv_has ls 5 [(0, .ref h0), (1, .int v_371), (2, .int v_372), (3, .int v_373)] → W p l e ({ frames := 4, cells := 0, slots := 0, locals := 91 }) s m args below meth c H locs 0 0 Q (F0 m 104 ls []) := by
    intro v_371 v_372 v_373 v_374 v_375 v_376 v_377 v_378 v_379 v_380 v_381 g_382 H locs ls hr_v_371 hr_v_372 hr_v_373 hr_v_374 hr_v_376 hr_v_377 hr_v_378 hr_v_379 hr_v_380 hs_383 hs_384 hi_385 hi_386 hi_387 hi_388 hFc_104 hP hD hS hl
    refine lv_aload_n hx hb dX12_readFeature_104 rfl (lv_at hl 0 rfl) ?_
    refine va_get (D := G) (ci := 12) (v := .ref a_c) (C := RX12) (T := TX12) (N := 65) hx hb hts inT12 hown hK hP 0 rfl rfl 20 (by decide) (hts _ tw_1905) (fun _ h9 => h9) rfl dX12_readFeature_105 ?_
    refine lv_sipush (v := 1471) hx hb dX12_readFeature_108 (by decide) ?_
    refine lv_iload_n hx hb dX12_readFeature_111 rfl (lv_at hl 1 rfl) ?_
    refine lv_iadd hx hb dX12_readFeature_112 ?_
    refine lv_topi (fun x_1262 he_x_1262 => ?_)
    have hq_x_1262 := z_addq he_x_1262 hk_1471 (rfl : v_371.toInt = _) (by omega) (by omega)
    refine lv_iload_n hx hb dX12_readFeature_113 rfl (lv_at hl 2 rfl) ?_
    refine z_iast hx hb hK hP hD hS 2 0 rfl rfl (z_inN (by omega) (by omega)) dX12_readFeature_114 (fun g_1263 hg_g_1263 H locs hP hD hS => ?_)
    have hC_g_1263 := z_ctU hC_g_c hg_g_1263 (a := 1471) (b := 1473) (lo := 0) (hi := 4) (by decide +kernel) (by decide +kernel) (by omega) (by omega) (by omega)
    have hw_g_1263_1460 := z_cwo hg_g_1263 (k := 1460) (by omega) (by omega)
    have hw_g_1263_1461 := z_cwo hg_g_1263 (k := 1461) (by omega) (by omega)
    have hs_1264 : zNw g_1263 g_isOn := (zNw_st hs_383 hg_g_1263 (by omega) (by omega) (by omega))
    have hs_1265 : zNf g_1263 := (zNf_fr hs_384 hg_g_1263 (a := 1471) (b := 1473) (by decide +kernel) (by omega) (by omega))
    have hs_1266 : (g_1263 (1471 + v_371.toInt.toNat)).toInt = v_372.toInt := (z_updself hg_g_1263 (by omega))
    refine lv_aload_n hx hb dX12_readFeature_115 rfl (lv_at hl 0 rfl) ?_
    refine va_get (D := G) (ci := 12) (v := .ref a_c) (C := RX12) (T := TX12) (N := 65) hx hb hts inT12 hown hK hP 0 rfl rfl 20 (by decide) (hts _ tw_1905) (fun _ h9 => h9) rfl dX12_readFeature_116 ?_
    refine lv_sipush (v := 1474) hx hb dX12_readFeature_119 (by decide) ?_
    refine lv_iload_n hx hb dX12_readFeature_122 rfl (lv_at hl 1 rfl) ?_
    refine lv_iadd hx hb dX12_readFeature_123 ?_
    refine lv_topi (fun x_1267 he_x_1267 => ?_)
    have hq_x_1267 := z_addq he_x_1267 hk_1474 (rfl : v_371.toInt = _) (by omega) (by omega)
    refine lv_iload_n hx hb dX12_readFeature_124 rfl (lv_at hl 3 rfl) ?_
    refine lv_if_eq (tgt := 132) hx hb dX12_readFeature_125 (by decide) (fun c_1268 => ?_) (fun c_1268 => ?_)
    · have b_1269 := z_feqT c_1268
      refine lv_iconst (v := 0) hx hb dX12_readFeature_132 (by decide) ?_
      refine z_iast hx hb hK hP hD hS 2 0 rfl rfl (z_inN (by omega) (by omega)) dX12_readFeature_133 (fun g_1270 hg_g_1270 H locs hP hD hS => ?_)
      have hC_g_1270 := z_ctU hC_g_1263 hg_g_1270 (a := 1474) (b := 1476) (lo := 0) (hi := 1) (by decide +kernel) (by decide +kernel) (by omega) (by omega) (by decide +kernel)
      have hw_g_1270_1460 := z_cwo hg_g_1270 (k := 1460) (by omega) (by omega)
      have hw_g_1270_1461 := z_cwo hg_g_1270 (k := 1461) (by omega) (by omega)
      have hs_1271 : zNw g_1270 g_isOn := (zNw_fr hs_1264 hg_g_1270 (a := 1474) (b := 1476) (by decide +kernel) (by omega) (by omega))
      have hs_1272 : zNf g_1270 := (zNf_fr hs_1265 hg_g_1270 (a := 1474) (b := 1476) (by decide +kernel) (by omega) (by omega))
      have hs_1273 : (g_1270 (1471 + v_371.toInt.toNat)).toInt = v_372.toInt := (z_updkeep hs_1266 hg_g_1270 (by omega) (by omega))
      refine lv_iconst (v := 0) hx hb dX12_readFeature_134 (by decide) ?_
      refine lv_istore (lv' := [(4, .int 0), (0, .ref h0), (1, .int v_371), (2, .int v_372), (3, .int v_373)]) hx hb dX12_readFeature_135 hl (by decide) rfl (fun ls hl => ?_)
      have hlp_1673 : ∀ (n_L137a : Nat) (v_1618 : Int32) (g_1619 : Nat → Int32) (H : Heap) (locs : List Loc) (ls : Array Slot), (2147483647 - v_1618.toInt).toNat < n_L137a → (0 ≤ v_1618.toInt ∧ v_1618.toInt ≤ 16) → (zC g_1619) → (zNw g_1619 g_isOn) → (zNf g_1619) → ((g_1619 (1471 + v_371.toInt.toNat)).toInt = v_372.toInt) → (zFt g_1619 v_371.toInt v_1618.toInt) → ((g_1619 1460).toInt = v_371.toInt) → (m_behind.toInt ≤ v_378.toInt) → (v_374.toInt ≤ 0 → v_376.toInt = 0 ∨ m_behind.toInt < v_378.toInt) → (F_r_readFeature m_textEnd m_bad m_badAt m_token m_at m_behind m_number m_letters m_word g_tape g_c g_words g_hasFeels = F_r_readFeature_L137a g_hasFeels v_371 v_374 v_375 v_376 v_377 v_378 v_379 v_380 v_381 g_382 n_L137a v_1618 g_1619) → va_P G vwCl [(h0, .inr (12, [.int m_status, .int m_thrown, .long m_above, .long m_under, .ref a_traySort, .ref a_trayMany, .ref a_numbers, .ref a_tape, .int m_taped, .int m_textEnd, .int m_faultKind, .int m_faultAt, .int v_374, .int v_375, .int v_376, .int v_377, .int v_378, .int v_379, .int v_380, .long v_381, .ref a_c, .ref a_words, .int m_markMany, .ref a_there, .ref a_tried, .ref a_best, .ref a_found, .int m_thereMany, .int m_foundMany, .int m_orderHow, .int m_orderRing, .int m_orderMany, .int m_hasBest, .long m_bestTop, .long m_bestBy, .ref a_weights, .ref a_shared, .int m_random, .int m_truePlace, .int m_trueWay, .int m_seconds, .int m_done, .int m_feelings, .int m_tries, .int m_leftOver, .int m_playDoor, .int m_playRing, .int m_isOpen, .int m_isOver, .int m_wasTried, .int m_hasPlayed, .ref a_feltNow, .ref a_last, .ref a_kept, .int m_hasSeconds, .int m_hasTurned, .int m_hasRound, .ref a_hasFeels, .ref a_isOn, .int m_firstAct, .long m_meanTop, .long m_meanBy, .ref a_order, .int m_rowMany, .int m_newSteps])), (a_tape, .inl (cA.1 2, 900, .inl g_tape)), (a_c, .inl (cA.1 0, 1825, .inl g_1619)), (a_words, .inl (cA.1 1, 105, .inr (.inl g_382))), (a_hasFeels, .inl (cA.1 3, 3, .inl g_hasFeels)), (a_isOn, .inl (cA.1 3, 10, .inl g_isOn))] H → va_D A [(h0, .inr (12, [.int m_status, .int m_thrown, .long m_above, .long m_under, .ref a_traySort, .ref a_trayMany, .ref a_numbers, .ref a_tape, .int m_taped, .int m_textEnd, .int m_faultKind, .int m_faultAt, .int v_374, .int v_375, .int v_376, .int v_377, .int v_378, .int v_379, .int v_380, .long v_381, .ref a_c, .ref a_words, .int m_markMany, .ref a_there, .ref a_tried, .ref a_best, .ref a_found, .int m_thereMany, .int m_foundMany, .int m_orderHow, .int m_orderRing, .int m_orderMany, .int m_hasBest, .long m_bestTop, .long m_bestBy, .ref a_weights, .ref a_shared, .int m_random, .int m_truePlace, .int m_trueWay, .int m_seconds, .int m_done, .int m_feelings, .int m_tries, .int m_leftOver, .int m_playDoor, .int m_playRing, .int m_isOpen, .int m_isOver, .int m_wasTried, .int m_hasPlayed, .ref a_feltNow, .ref a_last, .ref a_kept, .int m_hasSeconds, .int m_hasTurned, .int m_hasRound, .ref a_hasFeels, .ref a_isOn, .int m_firstAct, .long m_meanTop, .long m_meanBy, .ref a_order, .int m_rowMany, .int m_newSteps])), (a_tape, .inl (cA.1 2, 900, .inl g_tape)), (a_c, .inl (cA.1 0, 1825, .inl g_1619)), (a_words, .inl (cA.1 1, 105, .inr (.inl g_382))), (a_hasFeels, .inl (cA.1 3, 3, .inl g_hasFeels)), (a_isOn, .inl (cA.1 3, 10, .inl g_isOn))] → va_S A s.heap H locs → lv_has ls 5 [(0, .ref h0), (1, .int v_371), (2, .int v_372), (3, .int v_373), (4, .int v_1618)] → W p l e ({ frames := 4, cells := 0, slots := 0, locals := 91 }) s m args below meth c H locs 0 0 Q (F0 m 137 ls []) := by
        intro n_L137a
        induction n_L137a with
        | zero =>
          intro v_1618 g_1619 H locs ls hmu_hlp_1673 hr_v_1618 hC_g_1619 hs_1640 hs_1641 hs_1642 hi_1643 hi_1644 hi_1645 hi_1646 hF_L137a hP hD hS hl
          exact absurd hmu_hlp_1673 (Nat.not_lt_zero _)
        | succ n_L137a ih_1674 =>
          intro v_1618 g_1619 H locs ls hmu_hlp_1673 hr_v_1618 hC_g_1619 hs_1640 hs_1641 hs_1642 hi_1643 hi_1644 hi_1645 hi_1646 hF_L137a hP hD hS hl
          refine lv_iload hx hb dX12_readFeature_137 (lv_at hl 4 rfl) ?_
          refine lv_bipush (v := 16) hx hb dX12_readFeature_139 (by decide) ?_
          refine lv_icmp_ge (tgt := 179) hx hb dX12_readFeature_141 (by decide) (fun c_1675 => ?_) (fun c_1675 => ?_)
          · have b_1676 := z_fgeT c_1675
            refine lv_aload_n hx hb dX12_readFeature_179 rfl (lv_at hl 0 rfl) ?_
            refine va_get (D := G) (ci := 12) (v := .ref a_hasFeels) (C := RX12) (T := TX12) (N := 65) hx hb hts inT12 hown hK hP 0 rfl rfl 57 (by decide) (hts _ tw_1940) (fun _ h9 => h9) rfl dX12_readFeature_180 ?_
            refine lv_iload_n hx hb dX12_readFeature_183 rfl (lv_at hl 1 rfl) ?_
            refine lv_iconst (v := 0) hx hb dX12_readFeature_184 (by decide) ?_
            refine z_zast hx hb hK hP hD hS 4 3 rfl rfl (z_inN (by omega) (by omega)) dX12_readFeature_185 (fun g_1677 hg_g_1677 H locs hP hD hS => ?_)
            have hC_g_1677 := z_rgZ hC_g_hasFeels hg_g_1677 (Or.inl rfl)
            refine lv_aload_n hx hb dX12_readFeature_186 rfl (lv_at hl 0 rfl) ?_
            refine va_get (D := G) (ci := 12) (v := .ref a_c) (C := RX12) (T := TX12) (N := 65) hx hb hts inT12 hown hK hP 0 rfl rfl 20 (by decide) (hts _ tw_1905) (fun _ h9 => h9) rfl dX12_readFeature_187 ?_
            refine lv_sipush (v := 1460) hx hb dX12_readFeature_190 (by decide) ?_
            refine lv_dup2_11 hx hb dX12_readFeature_193 rfl rfl ?_
            refine va_iald hx hb hK hP 2 0 rfl rfl (z_in (i := 1460) (n := 1825) (by decide +kernel) (by decide +kernel)) dX12_readFeature_194 ?_
            refine lv_topi (fun x_1678 he_x_1678 => ?_)
            have hr_x_1678 := z_ctk hC_g_1619 he_x_1678 (k := 1460) (lo := 0) (hi := 3) (by decide +kernel) (by decide +kernel) (by decide +kernel)
            have hv_x_1678 := z_cv he_x_1678 (k := 1460) (by decide +kernel)
            refine lv_iconst (v := 1) hx hb dX12_readFeature_195 (by decide) ?_
            refine lv_iadd hx hb dX12_readFeature_196 ?_
            refine lv_topi (fun x_1679 he_x_1679 => ?_)
            have hq_x_1679 := z_addq he_x_1679 (rfl : x_1678.toInt = _) hk_1 (by omega) (by omega)
            refine z_iast hx hb hK hP hD hS 2 0 rfl rfl (z_in (i := 1460) (n := 1825) (by decide +kernel) (by decide +kernel)) dX12_readFeature_197 (fun g_1680 hg_g_1680 H locs hP hD hS => ?_)
            have hC_g_1680 := z_ctUk hC_g_1619 hg_g_1680 (k := 1460) (lo := 0) (hi := 3) (by decide +kernel) (by decide +kernel) (by decide +kernel) (by omega)
            have hw_g_1680_1460 := z_cwk hg_g_1680 (k := 1460) (by decide +kernel)
            have hw_g_1680_1461 := z_cwo hg_g_1680 (k := 1461) (by decide +kernel) (by decide +kernel)
            have hs_1681 : zNw g_1680 g_isOn := (zNw_fe hs_1640 hg_g_1680 (by decide +kernel) (by omega) (by omega) (by omega) (k := v_371.toInt) (by omega) (by rw [hs_1642]; omega))
            have hs_1682 : zNf g_1680 := (zNf_fe hs_1641 hg_g_1680 (by decide +kernel) (by omega) (by omega) (by omega) (k := v_371.toInt) (n := v_1618.toInt) (by omega) (by omega) hi_1643)
            have hpost : (0 ≤ v_374.toInt ∧ v_374.toInt ≤ 9) ∧ (0 ≤ v_376.toInt ∧ v_376.toInt ≤ 4) ∧ (0 ≤ v_377.toInt ∧ v_377.toInt ≤ 900) ∧ (0 ≤ v_378.toInt ∧ v_378.toInt ≤ 900) ∧ (0 ≤ v_379.toInt ∧ v_379.toInt ≤ 9999) ∧ (0 ≤ v_380.toInt ∧ v_380.toInt ≤ 900) ∧ (zC g_1680) ∧ (zRg 3 0 1 g_1677) ∧ (zNw g_1680 g_isOn) ∧ (m_behind.toInt ≤ v_378.toInt) ∧ (0 < m_bad.toInt → 0 < v_374.toInt) ∧ (v_374.toInt ≤ 0 → v_376.toInt = 0 ∨ m_behind.toInt < v_378.toInt) ∧ (v_374.toInt ≤ 0 → v_376.toInt = 3 → v_379.toInt = 59 → zNf g_1680) := ⟨(z_rgw hr_v_374 (by decide) (by decide)), hr_v_376, hr_v_377, hr_v_378, hr_v_379, hr_v_380, hC_g_1680, hC_g_1677, hs_1681, (by omega), (by omega), (by omega), (fun _ _ _ => hs_1682)⟩
            have hX_1683 : F_r_readFeature m_textEnd m_bad m_badAt m_token m_at m_behind m_number m_letters m_word g_tape g_c g_words g_hasFeels = ((v_374, v_375, v_376, v_377, v_378, v_379, v_380, v_381, g_1680, g_382, g_1677) : Int32 × Int32 × Int32 × Int32 × Int32 × Int32 × Int32 × Int64 × (Nat → Int32) × (Nat → Int64) × (Nat → Int32)) := by
              refine hF_L137a.trans ?_
              refine (F_r_readFeature_L137a_s ..).trans ?_
              refine (if_pos c_1675).trans ?_
              try (extract_lets -merge -useContext +onlyGivenNames y9; have e9 : g_1677 = y9 := (by first | exact hg_g_1677 | exact hg_g_1677.symm); clear_value y9; subst e9)
              try (extract_lets -merge -useContext +onlyGivenNames y9; have e9 : x_1678 = y9 := (by first | exact he_x_1678 | exact he_x_1678.symm); clear_value y9; subst e9)
              try (extract_lets -merge -useContext +onlyGivenNames y9; have e9 : x_1679 = y9 := (by first | exact he_x_1679 | exact he_x_1679.symm); clear_value y9; subst e9)
              try (extract_lets -merge -useContext +onlyGivenNames y9; have e9 : g_1680 = y9 := (by first | exact hg_g_1680 | exact hg_g_1680.symm); clear_value y9; subst e9)
              exact rfl
            exact hret _ _ _ _ _ (v_374, v_375, v_376, v_377, v_378, v_379, v_380, v_381, g_1680, g_382, g_1677) [0, 1, 2, 3, 4, 5] hP hD hS rfl (by decide) dX12_readFeature_198 ⟨(congrArg (fun z9 => z9.1) hX_1683).symm, (congrArg (fun z9 => z9.2.1) hX_1683).symm, (congrArg (fun z9 => z9.2.2.1) hX_1683).symm, (congrArg (fun z9 => z9.2.2.2.1) hX_1683).symm, (congrArg (fun z9 => z9.2.2.2.2.1) hX_1683).symm, (congrArg (fun z9 => z9.2.2.2.2.2.1) hX_1683).symm, (congrArg (fun z9 => z9.2.2.2.2.2.2.1) hX_1683).symm, (congrArg (fun z9 => z9.2.2.2.2.2.2.2.1) hX_1683).symm, (congrArg (fun z9 => z9.2.2.2.2.2.2.2.2.1) hX_1683).symm, (congrArg (fun z9 => z9.2.2.2.2.2.2.2.2.2.1) hX_1683).symm, (congrArg (fun z9 => z9.2.2.2.2.2.2.2.2.2.2) hX_1683).symm, hpost⟩
          · have b_1684 := z_fltF c_1675
            refine lv_aload_n hx hb dX12_readFeature_144 rfl (lv_at hl 0 rfl) ?_
            refine va_get (D := G) (ci := 12) (v := .ref a_c) (C := RX12) (T := TX12) (N := 65) hx hb hts inT12 hown hK hP 0 rfl rfl 20 (by decide) (hts _ tw_1905) (fun _ h9 => h9) rfl dX12_readFeature_145 ?_
            refine lv_sipush (v := 1477) hx hb dX12_readFeature_148 (by decide) ?_
            refine lv_bipush (v := 16) hx hb dX12_readFeature_151 (by decide) ?_
            refine lv_iload_n hx hb dX12_readFeature_153 rfl (lv_at hl 1 rfl) ?_
            refine lv_imul hx hb dX12_readFeature_154 ?_
            refine lv_topi (fun x_1685 he_x_1685 => ?_)
            have hq_x_1685 := z_mulq he_x_1685 hk_16 (rfl : v_371.toInt = _) (by omega) (by omega)
            refine lv_iadd hx hb dX12_readFeature_155 ?_
            refine lv_topi (fun x_1686 he_x_1686 => ?_)
            have hq_x_1686 := z_addq he_x_1686 hk_1477 (rfl : x_1685.toInt = _) (by omega) (by omega)
            refine lv_iload hx hb dX12_readFeature_156 (lv_at hl 4 rfl) ?_
            refine lv_iadd hx hb dX12_readFeature_158 ?_
            refine lv_topi (fun x_1687 he_x_1687 => ?_)
            have hq_x_1687 := z_addq he_x_1687 (rfl : x_1686.toInt = _) (rfl : v_1618.toInt = _) (by omega) (by omega)
            refine lv_iload hx hb dX12_readFeature_159 (lv_at hl 4 rfl) ?_
            refine lv_iconst (v := 5) hx hb dX12_readFeature_161 (by decide) ?_
            refine lv_irem hx hb dX12_readFeature_162 (by decide +kernel) ?_
            refine lv_topi (fun x_1688 he_x_1688 => ?_)
            have hq_x_1688 := z_remq he_x_1688 (rfl : v_1618.toInt = _) hk_5 (by omega) (by decide)
            refine lv_if_ne (tgt := 171) hx hb dX12_readFeature_163 (by decide) (fun c_1689 => ?_) (fun c_1689 => ?_)
            · have b_1690 := z_fneT c_1689
              refine lv_iconst (v := 0) hx hb dX12_readFeature_171 (by decide) ?_
              refine z_iast hx hb hK hP hD hS 2 0 rfl rfl (z_inN (by omega) (by omega)) dX12_readFeature_172 (fun g_1691 hg_g_1691 H locs hP hD hS => ?_)
              have hC_g_1691 := z_ctU hC_g_1619 hg_g_1691 (a := 1477) (b := 1524) (lo := 0) (hi := 16) (by decide +kernel) (by decide +kernel) (by omega) (by omega) (by decide +kernel)
              have hw_g_1691_1460 := z_cwo hg_g_1691 (k := 1460) (by omega) (by omega)
              have hw_g_1691_1461 := z_cwo hg_g_1691 (k := 1461) (by omega) (by omega)
              have hs_1692 : zNw g_1691 g_isOn := (zNw_fr hs_1640 hg_g_1691 (a := 1477) (b := 1524) (by decide +kernel) (by omega) (by omega))
              have hs_1693 : zNf g_1691 := (zNf_row hs_1641 hg_g_1691 (by omega) (by omega) (by omega))
              have hs_1694 : (g_1691 (1471 + v_371.toInt.toNat)).toInt = v_372.toInt := (z_updkeep hs_1642 hg_g_1691 (by omega) (by omega))
              obtain ⟨x_1695, he_x_1695⟩ : ∃ z : Int32, z = v_1618 + 1 := ⟨_, rfl⟩
              have hq_x_1695 := z_addq he_x_1695 (rfl : v_1618.toInt = _) hk_1 (by omega) (by omega)
              refine lv_iinc (v := x_1695) (lv' := [(4, .int x_1695), (0, .ref h0), (1, .int v_371), (2, .int v_372), (3, .int v_373)]) hx hb dX12_readFeature_173 hl (k := 4) rfl ((z_ofi (by decide +kernel)).trans he_x_1695.symm) (by decide) rfl (fun ls hl => ?_)
              refine lv_goto (tgt := 137) hx hb dX12_readFeature_176 (by decide) ?_
              have hX_1696 : F_r_readFeature m_textEnd m_bad m_badAt m_token m_at m_behind m_number m_letters m_word g_tape g_c g_words g_hasFeels = F_r_readFeature_L137a g_hasFeels v_371 v_374 v_375 v_376 v_377 v_378 v_379 v_380 v_381 g_382 n_L137a x_1695 g_1691 := by
                refine hF_L137a.trans ?_
                refine (F_r_readFeature_L137a_s ..).trans ?_
                refine (if_neg c_1675).trans ?_
                try (extract_lets -merge -useContext +onlyGivenNames y9; have e9 : x_1685 = y9 := (by first | exact he_x_1685 | exact he_x_1685.symm); clear_value y9; subst e9)
                try (extract_lets -merge -useContext +onlyGivenNames y9; have e9 : x_1686 = y9 := (by first | exact he_x_1686 | exact he_x_1686.symm); clear_value y9; subst e9)
                try (extract_lets -merge -useContext +onlyGivenNames y9; have e9 : x_1687 = y9 := (by first | exact he_x_1687 | exact he_x_1687.symm); clear_value y9; subst e9)
                try (extract_lets -merge -useContext +onlyGivenNames y9; have e9 : x_1688 = y9 := (by first | exact he_x_1688 | exact he_x_1688.symm); clear_value y9; subst e9)
                refine (if_neg c_1689).trans ?_
                try (extract_lets -merge -useContext +onlyGivenNames y9; have e9 : g_1691 = y9 := (by first | exact hg_g_1691 | exact hg_g_1691.symm); clear_value y9; subst e9)
                try (extract_lets -merge -useContext +onlyGivenNames y9; have e9 : x_1695 = y9 := (by first | exact he_x_1695 | exact he_x_1695.symm); clear_value y9; subst e9)
                exact rfl
              exact ih_1674 x_1695 g_1691 H locs ls (by omega) (by omega) hC_g_1691 hs_1692 hs_1693 hs_1694 (by rw [hq_x_1695]; exact zFt_step hi_1643 hg_g_1691 (by omega) (by omega) (by omega) (by omega)) (by omega) (by omega) (by omega) hX_1696 hP hD hS (lv_sub hl [1, 2, 3, 4, 0] rfl)
            · have b_1697 := z_feqF c_1689
              refine lv_bipush (v := 16) hx hb dX12_readFeature_166 (by decide) ?_
              refine lv_goto (tgt := 172) hx hb dX12_readFeature_168 (by decide) ?_
              refine z_iast hx hb hK hP hD hS 2 0 rfl rfl (z_inN (by omega) (by omega)) dX12_readFeature_172 (fun g_1698 hg_g_1698 H locs hP hD hS => ?_)
              have hC_g_1698 := z_ctU hC_g_1619 hg_g_1698 (a := 1477) (b := 1524) (lo := 0) (hi := 16) (by decide +kernel) (by decide +kernel) (by omega) (by omega) (by decide +kernel)
              have hw_g_1698_1460 := z_cwo hg_g_1698 (k := 1460) (by omega) (by omega)
              have hw_g_1698_1461 := z_cwo hg_g_1698 (k := 1461) (by omega) (by omega)
              have hs_1699 : zNw g_1698 g_isOn := (zNw_fr hs_1640 hg_g_1698 (a := 1477) (b := 1524) (by decide +kernel) (by omega) (by omega))
              have hs_1700 : zNf g_1698 := (zNf_row hs_1641 hg_g_1698 (by omega) (by omega) (by omega))
              have hs_1701 : (g_1698 (1471 + v_371.toInt.toNat)).toInt = v_372.toInt := (z_updkeep hs_1642 hg_g_1698 (by omega) (by omega))
              obtain ⟨x_1702, he_x_1702⟩ : ∃ z : Int32, z = v_1618 + 1 := ⟨_, rfl⟩
              have hq_x_1702 := z_addq he_x_1702 (rfl : v_1618.toInt = _) hk_1 (by omega) (by omega)
              refine lv_iinc (v := x_1702) (lv' := [(4, .int x_1702), (0, .ref h0), (1, .int v_371), (2, .int v_372), (3, .int v_373)]) hx hb dX12_readFeature_173 hl (k := 4) rfl ((z_ofi (by decide +kernel)).trans he_x_1702.symm) (by decide) rfl (fun ls hl => ?_)
              refine lv_goto (tgt := 137) hx hb dX12_readFeature_176 (by decide) ?_
              have hX_1703 : F_r_readFeature m_textEnd m_bad m_badAt m_token m_at m_behind m_number m_letters m_word g_tape g_c g_words g_hasFeels = F_r_readFeature_L137a g_hasFeels v_371 v_374 v_375 v_376 v_377 v_378 v_379 v_380 v_381 g_382 n_L137a x_1702 g_1698 := by
                refine hF_L137a.trans ?_
                refine (F_r_readFeature_L137a_s ..).trans ?_
                refine (if_neg c_1675).trans ?_
                try (extract_lets -merge -useContext +onlyGivenNames y9; have e9 : x_1685 = y9 := (by first | exact he_x_1685 | exact he_x_1685.symm); clear_value y9; subst e9)
                try (extract_lets -merge -useContext +onlyGivenNames y9; have e9 : x_1686 = y9 := (by first | exact he_x_1686 | exact he_x_1686.symm); clear_value y9; subst e9)
                try (extract_lets -merge -useContext +onlyGivenNames y9; have e9 : x_1687 = y9 := (by first | exact he_x_1687 | exact he_x_1687.symm); clear_value y9; subst e9)
                try (extract_lets -merge -useContext +onlyGivenNames y9; have e9 : x_1688 = y9 := (by first | exact he_x_1688 | exact he_x_1688.symm); clear_value y9; subst e9)
                refine (if_pos c_1689).trans ?_
                try (extract_lets -merge -useContext +onlyGivenNames y9; have e9 : g_1698 = y9 := (by first | exact hg_g_1698 | exact hg_g_1698.symm); clear_value y9; subst e9)
                try (extract_lets -merge -useContext +onlyGivenNames y9; have e9 : x_1702 = y9 := (by first | exact he_x_1702 | exact he_x_1702.symm); clear_value y9; subst e9)
                exact rfl
              exact ih_1674 x_1702 g_1698 H locs ls (by omega) (by omega) hC_g_1698 hs_1699 hs_1700 hs_1701 (by rw [hq_x_1702]; exact zFt_step hi_1643 hg_g_1698 (by omega) (by omega) (by omega) (by omega)) (by omega) (by omega) (by omega) hX_1703 hP hD hS (lv_sub hl [1, 2, 3, 4, 0] rfl)
      have hX_1704 : F_r_readFeature m_textEnd m_bad m_badAt m_token m_at m_behind m_number m_letters m_word g_tape g_c g_words g_hasFeels = F_r_readFeature_L137a g_hasFeels v_371 v_374 v_375 v_376 v_377 v_378 v_379 v_380 v_381 g_382 ((2147483647 - (0 : Int32).toInt).toNat + 1) (0 : Int32) g_1270 := by
        refine hFc_104.trans ?_
        refine (F_r_readFeature_C104_s ..).trans ?_
        try (extract_lets -merge -useContext +onlyGivenNames y9; have e9 : x_1262 = y9 := (by first | exact he_x_1262 | exact he_x_1262.symm); clear_value y9; subst e9)
        try (extract_lets -merge -useContext +onlyGivenNames y9; have e9 : g_1263 = y9 := (by first | exact hg_g_1263 | exact hg_g_1263.symm); clear_value y9; subst e9)
        try (extract_lets -merge -useContext +onlyGivenNames y9; have e9 : x_1267 = y9 := (by first | exact he_x_1267 | exact he_x_1267.symm); clear_value y9; subst e9)
        refine (if_pos c_1268).trans ?_
        try (extract_lets -merge -useContext +onlyGivenNames y9; have e9 : g_1270 = y9 := (by first | exact hg_g_1270 | exact hg_g_1270.symm); clear_value y9; subst e9)
        exact rfl
      exact hlp_1673 ((2147483647 - (0 : Int32).toInt).toNat + 1) 0 g_1270 _ _ _ (Nat.lt_succ_self _) (by decide +kernel) hC_g_1270 hs_1271 hs_1272 hs_1273 zFt_0 (by omega) (by omega) (by omega) hX_1704 hP hD hS (lv_sub hl [1, 2, 3, 4, 0] rfl)
    · have b_1705 := z_fneF c_1268
      refine lv_iconst (v := 1) hx hb dX12_readFeature_128 (by decide) ?_
      refine lv_goto (tgt := 133) hx hb dX12_readFeature_129 (by decide) ?_
      refine z_iast hx hb hK hP hD hS 2 0 rfl rfl (z_inN (by omega) (by omega)) dX12_readFeature_133 (fun g_1706 hg_g_1706 H locs hP hD hS => ?_)
      have hC_g_1706 := z_ctU hC_g_1263 hg_g_1706 (a := 1474) (b := 1476) (lo := 0) (hi := 1) (by decide +kernel) (by decide +kernel) (by omega) (by omega) (by decide +kernel)
      have hw_g_1706_1460 := z_cwo hg_g_1706 (k := 1460) (by omega) (by omega)
      have hw_g_1706_1461 := z_cwo hg_g_1706 (k := 1461) (by omega) (by omega)
      have hs_1707 : zNw g_1706 g_isOn := (zNw_fr hs_1264 hg_g_1706 (a := 1474) (b := 1476) (by decide +kernel) (by omega) (by omega))
      have hs_1708 : zNf g_1706 := (zNf_fr hs_1265 hg_g_1706 (a := 1474) (b := 1476) (by decide +kernel) (by omega) (by omega))
      have hs_1709 : (g_1706 (1471 + v_371.toInt.toNat)).toInt = v_372.toInt := (z_updkeep hs_1266 hg_g_1706 (by omega) (by omega))
      refine lv_iconst (v := 0) hx hb dX12_readFeature_134 (by decide) ?_
      refine lv_istore (lv' := [(4, .int 0), (0, .ref h0), (1, .int v_371), (2, .int v_372), (3, .int v_373)]) hx hb dX12_readFeature_135 hl (by decide) rfl (fun ls hl => ?_)
      have hlp_2109 : ∀ (n_L137b : Nat) (v_2054 : Int32) (g_2055 : Nat → Int32) (H : Heap) (locs : List Loc) (ls : Array Slot), (2147483647 - v_2054.toInt).toNat < n_L137b → (0 ≤ v_2054.toInt ∧ v_2054.toInt ≤ 16) → (zC g_2055) → (zNw g_2055 g_isOn) → (zNf g_2055) → ((g_2055 (1471 + v_371.toInt.toNat)).toInt = v_372.toInt) → (zFt g_2055 v_371.toInt v_2054.toInt) → ((g_2055 1460).toInt = v_371.toInt) → (m_behind.toInt ≤ v_378.toInt) → (v_374.toInt ≤ 0 → v_376.toInt = 0 ∨ m_behind.toInt < v_378.toInt) → (F_r_readFeature m_textEnd m_bad m_badAt m_token m_at m_behind m_number m_letters m_word g_tape g_c g_words g_hasFeels = F_r_readFeature_L137b g_hasFeels v_371 v_374 v_375 v_376 v_377 v_378 v_379 v_380 v_381 g_382 n_L137b v_2054 g_2055) → va_P G vwCl [(h0, .inr (12, [.int m_status, .int m_thrown, .long m_above, .long m_under, .ref a_traySort, .ref a_trayMany, .ref a_numbers, .ref a_tape, .int m_taped, .int m_textEnd, .int m_faultKind, .int m_faultAt, .int v_374, .int v_375, .int v_376, .int v_377, .int v_378, .int v_379, .int v_380, .long v_381, .ref a_c, .ref a_words, .int m_markMany, .ref a_there, .ref a_tried, .ref a_best, .ref a_found, .int m_thereMany, .int m_foundMany, .int m_orderHow, .int m_orderRing, .int m_orderMany, .int m_hasBest, .long m_bestTop, .long m_bestBy, .ref a_weights, .ref a_shared, .int m_random, .int m_truePlace, .int m_trueWay, .int m_seconds, .int m_done, .int m_feelings, .int m_tries, .int m_leftOver, .int m_playDoor, .int m_playRing, .int m_isOpen, .int m_isOver, .int m_wasTried, .int m_hasPlayed, .ref a_feltNow, .ref a_last, .ref a_kept, .int m_hasSeconds, .int m_hasTurned, .int m_hasRound, .ref a_hasFeels, .ref a_isOn, .int m_firstAct, .long m_meanTop, .long m_meanBy, .ref a_order, .int m_rowMany, .int m_newSteps])), (a_tape, .inl (cA.1 2, 900, .inl g_tape)), (a_c, .inl (cA.1 0, 1825, .inl g_2055)), (a_words, .inl (cA.1 1, 105, .inr (.inl g_382))), (a_hasFeels, .inl (cA.1 3, 3, .inl g_hasFeels)), (a_isOn, .inl (cA.1 3, 10, .inl g_isOn))] H → va_D A [(h0, .inr (12, [.int m_status, .int m_thrown, .long m_above, .long m_under, .ref a_traySort, .ref a_trayMany, .ref a_numbers, .ref a_tape, .int m_taped, .int m_textEnd, .int m_faultKind, .int m_faultAt, .int v_374, .int v_375, .int v_376, .int v_377, .int v_378, .int v_379, .int v_380, .long v_381, .ref a_c, .ref a_words, .int m_markMany, .ref a_there, .ref a_tried, .ref a_best, .ref a_found, .int m_thereMany, .int m_foundMany, .int m_orderHow, .int m_orderRing, .int m_orderMany, .int m_hasBest, .long m_bestTop, .long m_bestBy, .ref a_weights, .ref a_shared, .int m_random, .int m_truePlace, .int m_trueWay, .int m_seconds, .int m_done, .int m_feelings, .int m_tries, .int m_leftOver, .int m_playDoor, .int m_playRing, .int m_isOpen, .int m_isOver, .int m_wasTried, .int m_hasPlayed, .ref a_feltNow, .ref a_last, .ref a_kept, .int m_hasSeconds, .int m_hasTurned, .int m_hasRound, .ref a_hasFeels, .ref a_isOn, .int m_firstAct, .long m_meanTop, .long m_meanBy, .ref a_order, .int m_rowMany, .int m_newSteps])), (a_tape, .inl (cA.1 2, 900, .inl g_tape)), (a_c, .inl (cA.1 0, 1825, .inl g_2055)), (a_words, .inl (cA.1 1, 105, .inr (.inl g_382))), (a_hasFeels, .inl (cA.1 3, 3, .inl g_hasFeels)), (a_isOn, .inl (cA.1 3, 10, .inl g_isOn))] → va_S A s.heap H locs → lv_has ls 5 [(0, .ref h0), (1, .int v_371), (2, .int v_372), (3, .int v_373), (4, .int v_2054)] → W p l e ({ frames := 4, cells := 0, slots := 0, locals := 91 }) s m args below meth c H locs 0 0 Q (F0 m 137 ls []) := by
        intro n_L137b
        induction n_L137b with
        | zero =>
          intro v_2054 g_2055 H locs ls hmu_hlp_2109 hr_v_2054 hC_g_2055 hs_2076 hs_2077 hs_2078 hi_2079 hi_2080 hi_2081 hi_2082 hF_L137b hP hD hS hl
          exact absurd hmu_hlp_2109 (Nat.not_lt_zero _)
        | succ n_L137b ih_2110 =>
          intro v_2054 g_2055 H locs ls hmu_hlp_2109 hr_v_2054 hC_g_2055 hs_2076 hs_2077 hs_2078 hi_2079 hi_2080 hi_2081 hi_2082 hF_L137b hP hD hS hl
          refine lv_iload hx hb dX12_readFeature_137 (lv_at hl 4 rfl) ?_
          refine lv_bipush (v := 16) hx hb dX12_readFeature_139 (by decide) ?_
          refine lv_icmp_ge (tgt := 179) hx hb dX12_readFeature_141 (by decide) (fun c_2111 => ?_) (fun c_2111 => ?_)
          · have b_2112 := z_fgeT c_2111
            refine lv_aload_n hx hb dX12_readFeature_179 rfl (lv_at hl 0 rfl) ?_
            refine va_get (D := G) (ci := 12) (v := .ref a_hasFeels) (C := RX12) (T := TX12) (N := 65) hx hb hts inT12 hown hK hP 0 rfl rfl 57 (by decide) (hts _ tw_1940) (fun _ h9 => h9) rfl dX12_readFeature_180 ?_
            refine lv_iload_n hx hb dX12_readFeature_183 rfl (lv_at hl 1 rfl) ?_
            refine lv_iconst (v := 0) hx hb dX12_readFeature_184 (by decide) ?_
            refine z_zast hx hb hK hP hD hS 4 3 rfl rfl (z_inN (by omega) (by omega)) dX12_readFeature_185 (fun g_2113 hg_g_2113 H locs hP hD hS => ?_)
            have hC_g_2113 := z_rgZ hC_g_hasFeels hg_g_2113 (Or.inl rfl)
            refine lv_aload_n hx hb dX12_readFeature_186 rfl (lv_at hl 0 rfl) ?_
            refine va_get (D := G) (ci := 12) (v := .ref a_c) (C := RX12) (T := TX12) (N := 65) hx hb hts inT12 hown hK hP 0 rfl rfl 20 (by decide) (hts _ tw_1905) (fun _ h9 => h9) rfl dX12_readFeature_187 ?_
            refine lv_sipush (v := 1460) hx hb dX12_readFeature_190 (by decide) ?_
            refine lv_dup2_11 hx hb dX12_readFeature_193 rfl rfl ?_
            refine va_iald hx hb hK hP 2 0 rfl rfl (z_in (i := 1460) (n := 1825) (by decide +kernel) (by decide +kernel)) dX12_readFeature_194 ?_
            refine lv_topi (fun x_2114 he_x_2114 => ?_)
            have hr_x_2114 := z_ctk hC_g_2055 he_x_2114 (k := 1460) (lo := 0) (hi := 3) (by decide +kernel) (by decide +kernel) (by decide +kernel)
            have hv_x_2114 := z_cv he_x_2114 (k := 1460) (by decide +kernel)
            refine lv_iconst (v := 1) hx hb dX12_readFeature_195 (by decide) ?_
            refine lv_iadd hx hb dX12_readFeature_196 ?_
            refine lv_topi (fun x_2115 he_x_2115 => ?_)
            have hq_x_2115 := z_addq he_x_2115 (rfl : x_2114.toInt = _) hk_1 (by omega) (by omega)
            refine z_iast hx hb hK hP hD hS 2 0 rfl rfl (z_in (i := 1460) (n := 1825) (by decide +kernel) (by decide +kernel)) dX12_readFeature_197 (fun g_2116 hg_g_2116 H locs hP hD hS => ?_)
            have hC_g_2116 := z_ctUk hC_g_2055 hg_g_2116 (k := 1460) (lo := 0) (hi := 3) (by decide +kernel) (by decide +kernel) (by decide +kernel) (by omega)
            have hw_g_2116_1460 := z_cwk hg_g_2116 (k := 1460) (by decide +kernel)
            have hw_g_2116_1461 := z_cwo hg_g_2116 (k := 1461) (by decide +kernel) (by decide +kernel)
            have hs_2117 : zNw g_2116 g_isOn := (zNw_fe hs_2076 hg_g_2116 (by decide +kernel) (by omega) (by omega) (by omega) (k := v_371.toInt) (by omega) (by rw [hs_2078]; omega))
            have hs_2118 : zNf g_2116 := (zNf_fe hs_2077 hg_g_2116 (by decide +kernel) (by omega) (by omega) (by omega) (k := v_371.toInt) (n := v_2054.toInt) (by omega) (by omega) hi_2079)
            have hpost : (0 ≤ v_374.toInt ∧ v_374.toInt ≤ 9) ∧ (0 ≤ v_376.toInt ∧ v_376.toInt ≤ 4) ∧ (0 ≤ v_377.toInt ∧ v_377.toInt ≤ 900) ∧ (0 ≤ v_378.toInt ∧ v_378.toInt ≤ 900) ∧ (0 ≤ v_379.toInt ∧ v_379.toInt ≤ 9999) ∧ (0 ≤ v_380.toInt ∧ v_380.toInt ≤ 900) ∧ (zC g_2116) ∧ (zRg 3 0 1 g_2113) ∧ (zNw g_2116 g_isOn) ∧ (m_behind.toInt ≤ v_378.toInt) ∧ (0 < m_bad.toInt → 0 < v_374.toInt) ∧ (v_374.toInt ≤ 0 → v_376.toInt = 0 ∨ m_behind.toInt < v_378.toInt) ∧ (v_374.toInt ≤ 0 → v_376.toInt = 3 → v_379.toInt = 59 → zNf g_2116) := ⟨(z_rgw hr_v_374 (by decide) (by decide)), hr_v_376, hr_v_377, hr_v_378, hr_v_379, hr_v_380, hC_g_2116, hC_g_2113, hs_2117, (by omega), (by omega), (by omega), (fun _ _ _ => hs_2118)⟩
            have hX_2119 : F_r_readFeature m_textEnd m_bad m_badAt m_token m_at m_behind m_number m_letters m_word g_tape g_c g_words g_hasFeels = ((v_374, v_375, v_376, v_377, v_378, v_379, v_380, v_381, g_2116, g_382, g_2113) : Int32 × Int32 × Int32 × Int32 × Int32 × Int32 × Int32 × Int64 × (Nat → Int32) × (Nat → Int64) × (Nat → Int32)) := by
              refine hF_L137b.trans ?_
              refine (F_r_readFeature_L137b_s ..).trans ?_
              refine (if_pos c_2111).trans ?_
              try (extract_lets -merge -useContext +onlyGivenNames y9; have e9 : g_2113 = y9 := (by first | exact hg_g_2113 | exact hg_g_2113.symm); clear_value y9; subst e9)
              try (extract_lets -merge -useContext +onlyGivenNames y9; have e9 : x_2114 = y9 := (by first | exact he_x_2114 | exact he_x_2114.symm); clear_value y9; subst e9)
              try (extract_lets -merge -useContext +onlyGivenNames y9; have e9 : x_2115 = y9 := (by first | exact he_x_2115 | exact he_x_2115.symm); clear_value y9; subst e9)
              try (extract_lets -merge -useContext +onlyGivenNames y9; have e9 : g_2116 = y9 := (by first | exact hg_g_2116 | exact hg_g_2116.symm); clear_value y9; subst e9)
              exact rfl
            exact hret _ _ _ _ _ (v_374, v_375, v_376, v_377, v_378, v_379, v_380, v_381, g_2116, g_382, g_2113) [0, 1, 2, 3, 4, 5] hP hD hS rfl (by decide) dX12_readFeature_198 ⟨(congrArg (fun z9 => z9.1) hX_2119).symm, (congrArg (fun z9 => z9.2.1) hX_2119).symm, (congrArg (fun z9 => z9.2.2.1) hX_2119).symm, (congrArg (fun z9 => z9.2.2.2.1) hX_2119).symm, (congrArg (fun z9 => z9.2.2.2.2.1) hX_2119).symm, (congrArg (fun z9 => z9.2.2.2.2.2.1) hX_2119).symm, (congrArg (fun z9 => z9.2.2.2.2.2.2.1) hX_2119).symm, (congrArg (fun z9 => z9.2.2.2.2.2.2.2.1) hX_2119).symm, (congrArg (fun z9 => z9.2.2.2.2.2.2.2.2.1) hX_2119).symm, (congrArg (fun z9 => z9.2.2.2.2.2.2.2.2.2.1) hX_2119).symm, (congrArg (fun z9 => z9.2.2.2.2.2.2.2.2.2.2) hX_2119).symm, hpost⟩
          · have b_2120 := z_fltF c_2111
            refine lv_aload_n hx hb dX12_readFeature_144 rfl (lv_at hl 0 rfl) ?_
            refine va_get (D := G) (ci := 12) (v := .ref a_c) (C := RX12) (T := TX12) (N := 65) hx hb hts inT12 hown hK hP 0 rfl rfl 20 (by decide) (hts _ tw_1905) (fun _ h9 => h9) rfl dX12_readFeature_145 ?_
            refine lv_sipush (v := 1477) hx hb dX12_readFeature_148 (by decide) ?_
            refine lv_bipush (v := 16) hx hb dX12_readFeature_151 (by decide) ?_
            refine lv_iload_n hx hb dX12_readFeature_153 rfl (lv_at hl 1 rfl) ?_
            refine lv_imul hx hb dX12_readFeature_154 ?_
            refine lv_topi (fun x_2121 he_x_2121 => ?_)
            have hq_x_2121 := z_mulq he_x_2121 hk_16 (rfl : v_371.toInt = _) (by omega) (by omega)
            refine lv_iadd hx hb dX12_readFeature_155 ?_
            refine lv_topi (fun x_2122 he_x_2122 => ?_)
            have hq_x_2122 := z_addq he_x_2122 hk_1477 (rfl : x_2121.toInt = _) (by omega) (by omega)
            refine lv_iload hx hb dX12_readFeature_156 (lv_at hl 4 rfl) ?_
            refine lv_iadd hx hb dX12_readFeature_158 ?_
            refine lv_topi (fun x_2123 he_x_2123 => ?_)
            have hq_x_2123 := z_addq he_x_2123 (rfl : x_2122.toInt = _) (rfl : v_2054.toInt = _) (by omega) (by omega)
            refine lv_iload hx hb dX12_readFeature_159 (lv_at hl 4 rfl) ?_
            refine lv_iconst (v := 5) hx hb dX12_readFeature_161 (by decide) ?_
            refine lv_irem hx hb dX12_readFeature_162 (by decide +kernel) ?_
            refine lv_topi (fun x_2124 he_x_2124 => ?_)
            have hq_x_2124 := z_remq he_x_2124 (rfl : v_2054.toInt = _) hk_5 (by omega) (by decide)
            refine lv_if_ne (tgt := 171) hx hb dX12_readFeature_163 (by decide) (fun c_2125 => ?_) (fun c_2125 => ?_)
            · have b_2126 := z_fneT c_2125
              refine lv_iconst (v := 0) hx hb dX12_readFeature_171 (by decide) ?_
              refine z_iast hx hb hK hP hD hS 2 0 rfl rfl (z_inN (by omega) (by omega)) dX12_readFeature_172 (fun g_2127 hg_g_2127 H locs hP hD hS => ?_)
              have hC_g_2127 := z_ctU hC_g_2055 hg_g_2127 (a := 1477) (b := 1524) (lo := 0) (hi := 16) (by decide +kernel) (by decide +kernel) (by omega) (by omega) (by decide +kernel)
              have hw_g_2127_1460 := z_cwo hg_g_2127 (k := 1460) (by omega) (by omega)
              have hw_g_2127_1461 := z_cwo hg_g_2127 (k := 1461) (by omega) (by omega)
              have hs_2128 : zNw g_2127 g_isOn := (zNw_fr hs_2076 hg_g_2127 (a := 1477) (b := 1524) (by decide +kernel) (by omega) (by omega))
              have hs_2129 : zNf g_2127 := (zNf_row hs_2077 hg_g_2127 (by omega) (by omega) (by omega))
              have hs_2130 : (g_2127 (1471 + v_371.toInt.toNat)).toInt = v_372.toInt := (z_updkeep hs_2078 hg_g_2127 (by omega) (by omega))
              obtain ⟨x_2131, he_x_2131⟩ : ∃ z : Int32, z = v_2054 + 1 := ⟨_, rfl⟩
              have hq_x_2131 := z_addq he_x_2131 (rfl : v_2054.toInt = _) hk_1 (by omega) (by omega)
              refine lv_iinc (v := x_2131) (lv' := [(4, .int x_2131), (0, .ref h0), (1, .int v_371), (2, .int v_372), (3, .int v_373)]) hx hb dX12_readFeature_173 hl (k := 4) rfl ((z_ofi (by decide +kernel)).trans he_x_2131.symm) (by decide) rfl (fun ls hl => ?_)
              refine lv_goto (tgt := 137) hx hb dX12_readFeature_176 (by decide) ?_
              have hX_2132 : F_r_readFeature m_textEnd m_bad m_badAt m_token m_at m_behind m_number m_letters m_word g_tape g_c g_words g_hasFeels = F_r_readFeature_L137b g_hasFeels v_371 v_374 v_375 v_376 v_377 v_378 v_379 v_380 v_381 g_382 n_L137b x_2131 g_2127 := by
                refine hF_L137b.trans ?_
                refine (F_r_readFeature_L137b_s ..).trans ?_
                refine (if_neg c_2111).trans ?_
                try (extract_lets -merge -useContext +onlyGivenNames y9; have e9 : x_2121 = y9 := (by first | exact he_x_2121 | exact he_x_2121.symm); clear_value y9; subst e9)
                try (extract_lets -merge -useContext +onlyGivenNames y9; have e9 : x_2122 = y9 := (by first | exact he_x_2122 | exact he_x_2122.symm); clear_value y9; subst e9)
                try (extract_lets -merge -useContext +onlyGivenNames y9; have e9 : x_2123 = y9 := (by first | exact he_x_2123 | exact he_x_2123.symm); clear_value y9; subst e9)
                try (extract_lets -merge -useContext +onlyGivenNames y9; have e9 : x_2124 = y9 := (by first | exact he_x_2124 | exact he_x_2124.symm); clear_value y9; subst e9)
                refine (if_neg c_2125).trans ?_
                try (extract_lets -merge -useContext +onlyGivenNames y9; have e9 : g_2127 = y9 := (by first | exact hg_g_2127 | exact hg_g_2127.symm); clear_value y9; subst e9)
                try (extract_lets -merge -useContext +onlyGivenNames y9; have e9 : x_2131 = y9 := (by first | exact he_x_2131 | exact he_x_2131.symm); clear_value y9; subst e9)
                exact rfl
              exact ih_2110 x_2131 g_2127 H locs ls (by omega) (by omega) hC_g_2127 hs_2128 hs_2129 hs_2130 (by rw [hq_x_2131]; exact zFt_step hi_2079 hg_g_2127 (by omega) (by omega) (by omega) (by omega)) (by omega) (by omega) (by omega) hX_2132 hP hD hS (lv_sub hl [1, 2, 3, 4, 0] rfl)
            · have b_2133 := z_feqF c_2125
              refine lv_bipush (v := 16) hx hb dX12_readFeature_166 (by decide) ?_
              refine lv_goto (tgt := 172) hx hb dX12_readFeature_168 (by decide) ?_
              refine z_iast hx hb hK hP hD hS 2 0 rfl rfl (z_inN (by omega) (by omega)) dX12_readFeature_172 (fun g_2134 hg_g_2134 H locs hP hD hS => ?_)
              have hC_g_2134 := z_ctU hC_g_2055 hg_g_2134 (a := 1477) (b := 1524) (lo := 0) (hi := 16) (by decide +kernel) (by decide +kernel) (by omega) (by omega) (by decide +kernel)
              have hw_g_2134_1460 := z_cwo hg_g_2134 (k := 1460) (by omega) (by omega)
              have hw_g_2134_1461 := z_cwo hg_g_2134 (k := 1461) (by omega) (by omega)
              have hs_2135 : zNw g_2134 g_isOn := (zNw_fr hs_2076 hg_g_2134 (a := 1477) (b := 1524) (by decide +kernel) (by omega) (by omega))
              have hs_2136 : zNf g_2134 := (zNf_row hs_2077 hg_g_2134 (by omega) (by omega) (by omega))
              have hs_2137 : (g_2134 (1471 + v_371.toInt.toNat)).toInt = v_372.toInt := (z_updkeep hs_2078 hg_g_2134 (by omega) (by omega))
              obtain ⟨x_2138, he_x_2138⟩ : ∃ z : Int32, z = v_2054 + 1 := ⟨_, rfl⟩
              have hq_x_2138 := z_addq he_x_2138 (rfl : v_2054.toInt = _) hk_1 (by omega) (by omega)
              refine lv_iinc (v := x_2138) (lv' := [(4, .int x_2138), (0, .ref h0), (1, .int v_371), (2, .int v_372), (3, .int v_373)]) hx hb dX12_readFeature_173 hl (k := 4) rfl ((z_ofi (by decide +kernel)).trans he_x_2138.symm) (by decide) rfl (fun ls hl => ?_)
              refine lv_goto (tgt := 137) hx hb dX12_readFeature_176 (by decide) ?_
              have hX_2139 : F_r_readFeature m_textEnd m_bad m_badAt m_token m_at m_behind m_number m_letters m_word g_tape g_c g_words g_hasFeels = F_r_readFeature_L137b g_hasFeels v_371 v_374 v_375 v_376 v_377 v_378 v_379 v_380 v_381 g_382 n_L137b x_2138 g_2134 := by
                refine hF_L137b.trans ?_
                refine (F_r_readFeature_L137b_s ..).trans ?_
                refine (if_neg c_2111).trans ?_
                try (extract_lets -merge -useContext +onlyGivenNames y9; have e9 : x_2121 = y9 := (by first | exact he_x_2121 | exact he_x_2121.symm); clear_value y9; subst e9)
                try (extract_lets -merge -useContext +onlyGivenNames y9; have e9 : x_2122 = y9 := (by first | exact he_x_2122 | exact he_x_2122.symm); clear_value y9; subst e9)
                try (extract_lets -merge -useContext +onlyGivenNames y9; have e9 : x_2123 = y9 := (by first | exact he_x_2123 | exact he_x_2123.symm); clear_value y9; subst e9)
                try (extract_lets -merge -useContext +onlyGivenNames y9; have e9 : x_2124 = y9 := (by first | exact he_x_2124 | exact he_x_2124.symm); clear_value y9; subst e9)
                refine (if_pos c_2125).trans ?_
                try (extract_lets -merge -useContext +onlyGivenNames y9; have e9 : g_2134 = y9 := (by first | exact hg_g_2134 | exact hg_g_2134.symm); clear_value y9; subst e9)
                try (extract_lets -merge -useContext +onlyGivenNames y9; have e9 : x_2138 = y9 := (by first | exact he_x_2138 | exact he_x_2138.symm); clear_value y9; subst e9)
                exact rfl
              exact ih_2110 x_2138 g_2134 H locs ls (by omega) (by omega) hC_g_2134 hs_2135 hs_2136 hs_2137 (by rw [hq_x_2138]; exact zFt_step hi_2079 hg_g_2134 (by omega) (by omega) (by omega) (by omega)) (by omega) (by omega) (by omega) hX_2139 hP hD hS (lv_sub hl [1, 2, 3, 4, 0] rfl)
      have hX_2140 : F_r_readFeature m_textEnd m_bad m_badAt m_token m_at m_behind m_number m_letters m_word g_tape g_c g_words g_hasFeels = F_r_readFeature_L137b g_hasFeels v_371 v_374 v_375 v_376 v_377 v_378 v_379 v_380 v_381 g_382 ((2147483647 - (0 : Int32).toInt).toNat + 1) (0 : Int32) g_1706 := by
        refine hFc_104.trans ?_
        refine (F_r_readFeature_C104_s ..).trans ?_
        try (extract_lets -merge -useContext +onlyGivenNames y9; have e9 : x_1262 = y9 := (by first | exact he_x_1262 | exact he_x_1262.symm); clear_value y9; subst e9)
        try (extract_lets -merge -useContext +onlyGivenNames y9; have e9 : g_1263 = y9 := (by first | exact hg_g_1263 | exact hg_g_1263.symm); clear_value y9; subst e9)
        try (extract_lets -merge -useContext +onlyGivenNames y9; have e9 : x_1267 = y9 := (by first | exact he_x_1267 | exact he_x_1267.symm); clear_value y9; subst e9)
        refine (if_neg c_1268).trans ?_
        try (extract_lets -merge -useContext +onlyGivenNames y9; have e9 : g_1706 = y9 := (by first | exact hg_g_1706 | exact hg_g_1706.symm); clear_value y9; subst e9)
        exact rfl
      exact hlp_2109 ((2147483647 - (0 : Int32).toInt).toNat + 1) 0 g_1706 _ _ _ (Nat.lt_succ_self _) (by decide +kernel) hC_g_1706 hs_1707 hs_1708 hs_1709 zFt_0 (by omega) (by omega) (by omega) hX_2140 hP hD hS (lv_sub hl [1, 2, 3, 4, 0] rfl)
  refine lv_aload_n hx hb dX12_readFeature_0 rfl (lv_at hl 0 rfl) ?_
  refine va_get (D := G) (ci := 12) (v := .ref a_c) (C := RX12) (T := TX12) (N := 65) hx hb hts inT12 hown hK hP 0 rfl rfl 20 (by decide) (hts _ tw_1905) (fun _ h9 => h9) rfl dX12_readFeature_1 ?_
  refine lv_sipush (v := 1460) hx hb dX12_readFeature_4 (by decide) ?_
  refine va_iald hx hb hK hP 2 0 rfl rfl (z_in (i := 1460) (n := 1825) (by decide +kernel) (by decide +kernel)) dX12_readFeature_7 ?_
  refine lv_topi (fun x_2141 he_x_2141 => ?_)
  have hr_x_2141 := z_ctk hC_g_c he_x_2141 (k := 1460) (lo := 0) (hi := 3) (by decide +kernel) (by decide +kernel) (by decide +kernel)
  have hv_x_2141 := z_cv he_x_2141 (k := 1460) (by decide +kernel)
  refine lv_iconst (v := 3) hx hb dX12_readFeature_8 (by decide) ?_
  refine lv_icmp_ge (tgt := 33) hx hb dX12_readFeature_9 (by decide) (fun c_2142 => ?_) (fun c_2142 => ?_)
  · have b_2143 := z_fgeT c_2142
    refine lv_aload_n hx hb dX12_readFeature_33 rfl (lv_at hl 0 rfl) ?_
    refine lv_iconst (v := 0) hx hb dX12_readFeature_34 (by decide) ?_
    refine lv_iconst (v := 3) hx hb dX12_readFeature_35 (by decide) ?_
    refine lv_iconst (v := 0) hx hb dX12_readFeature_36 (by decide) ?_
    refine z_callVi (As := [.int 0, .int 3, .int 0]) (rest := []) (wr := [(a_hasFeels, .inl (cA.1 3, 3, .inl g_hasFeels)), (a_isOn, .inl (cA.1 3, 10, .inl g_isOn))]) ⟨hx, hb, hml, hown, hts⟩ hK hE hT hP hD hS hA (r_readNew_0 l G cA h0 m_status m_thrown m_above m_under a_traySort a_trayMany a_numbers a_tape m_taped m_textEnd m_faultKind m_faultAt m_bad m_badAt m_token m_at m_behind m_number m_letters m_word a_c a_words m_markMany a_there a_tried a_best a_found m_thereMany m_foundMany m_orderHow m_orderRing m_orderMany m_hasBest m_bestTop m_bestBy a_weights a_shared m_random m_truePlace m_trueWay m_seconds m_done m_feelings m_tries m_leftOver m_playDoor m_playRing m_isOpen m_isOver m_wasTried m_hasPlayed a_feltNow a_last a_kept m_hasSeconds m_hasTurned m_hasRound a_hasFeels a_isOn m_firstAct m_meanTop m_meanBy a_order m_rowMany m_newSteps g_tape g_c g_words hr_m_textEnd hr_m_at hr_m_behind (z_rgw hr_m_bad (by decide) (by decide)) hr_m_token hr_m_number hr_m_letters hC_g_c) lk_RX12_207 ⟨rfl, rfl⟩ ⟨Nat.le_of_ble_eq_true rfl, Nat.le_of_ble_eq_true rfl⟩ 12 rfl rfl rfl [0, 1, 2, 3] [4, 5] rfl rfl (by decide) rfl hl.1 rfl (lv_room (Nat.le_of_ble_eq_true rfl)) dX12_readFeature_37 ⟨Nat.le_of_ble_eq_true rfl, Nat.le_of_ble_eq_true rfl⟩ (fun r_2153 u_2154 H locs hw hP hD hS => ?_)
    obtain ⟨n_2144, n_2145, n_2146, n_2147, n_2148, n_2149, n_2150, n_2151, n_2152⟩ := u_2154
    try dsimp only at hw
    obtain ⟨he_r_2153, he_n_2144, he_n_2145, he_n_2146, he_n_2147, he_n_2148, he_n_2149, he_n_2150, he_n_2151, he_n_2152, hw⟩ := hw
    obtain ⟨hr_r_2153, hr_n_2144, hr_n_2146, hr_n_2147, hr_n_2148, hr_n_2149, hr_n_2150, hf_2156, hf_2157, hf_2158, hf_2159, hf_2160⟩ := hw
    refine lv_istore_n (lv' := [(1, .int r_2153), (0, .ref h0)]) hx hb dX12_readFeature_40 rfl hl (by decide) rfl (fun ls hl => ?_)
    refine lv_aload_n hx hb dX12_readFeature_41 rfl (lv_at hl 1 rfl) ?_
    refine lv_aload_n hx hb dX12_readFeature_42 rfl (lv_at hl 1 rfl) ?_
    refine z_callVi (As := []) (rest := [.ref h0]) (wr := [(a_hasFeels, .inl (cA.1 3, 3, .inl g_hasFeels)), (a_isOn, .inl (cA.1 3, 10, .inl g_isOn)), (a_tape, .inl (cA.1 2, 900, .inl g_tape)), (a_c, .inl (cA.1 0, 1825, .inl g_c)), (a_words, .inl (cA.1 1, 105, .inr (.inl n_2152)))]) ⟨hx, hb, hml, hown, hts⟩ hK hE hT hP hD hS hA (r_houseWord l G cA h0 m_status m_thrown m_above m_under a_traySort a_trayMany a_numbers a_tape m_taped m_textEnd m_faultKind m_faultAt n_2144 n_2145 n_2146 n_2147 n_2148 n_2149 n_2150 n_2151 a_c a_words m_markMany a_there a_tried a_best a_found m_thereMany m_foundMany m_orderHow m_orderRing m_orderMany m_hasBest m_bestTop m_bestBy a_weights a_shared m_random m_truePlace m_trueWay m_seconds m_done m_feelings m_tries m_leftOver m_playDoor m_playRing m_isOpen m_isOver m_wasTried m_hasPlayed a_feltNow a_last a_kept m_hasSeconds m_hasTurned m_hasRound a_hasFeels a_isOn m_firstAct m_meanTop m_meanBy a_order m_rowMany m_newSteps hr_n_2146) lk_RX12_170 ⟨rfl, rfl⟩ ⟨Nat.le_of_ble_eq_true rfl, Nat.le_of_ble_eq_true rfl⟩ 12 rfl rfl rfl [2] [0, 1, 3, 4, 5] rfl rfl (by decide) rfl hl.1 rfl (lv_room (Nat.le_of_ble_eq_true rfl)) dX12_readFeature_43 ⟨Nat.le_of_ble_eq_true rfl, Nat.le_of_ble_eq_true rfl⟩ (fun r_2161 u_2162 H locs hw hP hD hS => ?_)
    obtain ⟨he_r_2161, hw⟩ := hw
    obtain ⟨hr_r_2161, hf_2164⟩ := hw
    refine lv_bipush (v := 8) hx hb dX12_readFeature_46 (by decide) ?_
    refine lv_icmp_ne (tgt := 55) hx hb dX12_readFeature_48 (by decide) (fun c_2165 => ?_) (fun c_2165 => ?_)
    · have b_2166 := z_fneT c_2165
      refine lv_iconst (v := 0) hx hb dX12_readFeature_55 (by decide) ?_
      refine z_callVv (As := [.int 0]) (rest := []) (wr := [(a_hasFeels, .inl (cA.1 3, 3, .inl g_hasFeels)), (a_isOn, .inl (cA.1 3, 10, .inl g_isOn)), (a_tape, .inl (cA.1 2, 900, .inl g_tape)), (a_c, .inl (cA.1 0, 1825, .inl g_c)), (a_words, .inl (cA.1 1, 105, .inr (.inl n_2152)))]) ⟨hx, hb, hml, hown, hts⟩ hK hE hT hP hD hS hA (r_must_0 l G cA h0 m_status m_thrown m_above m_under a_traySort a_trayMany a_numbers a_tape m_taped m_textEnd m_faultKind m_faultAt n_2144 n_2145 n_2146 n_2147 n_2148 n_2149 n_2150 n_2151 a_c a_words m_markMany a_there a_tried a_best a_found m_thereMany m_foundMany m_orderHow m_orderRing m_orderMany m_hasBest m_bestTop m_bestBy a_weights a_shared m_random m_truePlace m_trueWay m_seconds m_done m_feelings m_tries m_leftOver m_playDoor m_playRing m_isOpen m_isOver m_wasTried m_hasPlayed a_feltNow a_last a_kept m_hasSeconds m_hasTurned m_hasRound a_hasFeels a_isOn m_firstAct m_meanTop m_meanBy a_order m_rowMany m_newSteps hr_n_2147 hr_n_2144 hr_n_2146) lk_RX12_210 ⟨rfl, rfl⟩ ⟨Nat.le_of_ble_eq_true rfl, Nat.le_of_ble_eq_true rfl⟩ 12 rfl rfl rfl [5] [0, 1, 2, 3, 4] rfl rfl (by decide) rfl hl.1 rfl (lv_room (Nat.le_of_ble_eq_true rfl)) dX12_readFeature_56 ⟨Nat.le_of_ble_eq_true rfl, Nat.le_of_ble_eq_true rfl⟩ (fun u_2170 H locs hw hP hD hS => ?_)
      obtain ⟨n_2167, n_2168⟩ := u_2170
      try dsimp only at hw
      obtain ⟨he_n_2167, he_n_2168, hw⟩ := hw
      have hr_n_2167 := hw
      refine lv_aload_n hx hb dX12_readFeature_59 rfl (lv_at hl 1 rfl) ?_
      refine lv_iconst (v := 2) hx hb dX12_readFeature_60 (by decide) ?_
      refine lv_iconst (v := 4) hx hb dX12_readFeature_61 (by decide) ?_
      refine z_callVi (As := [.int 2, .int 4]) (rest := []) (wr := [(a_hasFeels, .inl (cA.1 3, 3, .inl g_hasFeels)), (a_isOn, .inl (cA.1 3, 10, .inl g_isOn)), (a_c, .inl (cA.1 0, 1825, .inl g_c)), (a_words, .inl (cA.1 1, 105, .inr (.inl n_2152)))]) ⟨hx, hb, hml, hown, hts⟩ hK hE hT hP hD hS hA (r_count l G cA h0 m_status m_thrown m_above m_under a_traySort a_trayMany a_numbers a_tape m_taped m_textEnd m_faultKind m_faultAt n_2167 n_2168 n_2146 n_2147 n_2148 n_2149 n_2150 n_2151 a_c a_words m_markMany a_there a_tried a_best a_found m_thereMany m_foundMany m_orderHow m_orderRing m_orderMany m_hasBest m_bestTop m_bestBy a_weights a_shared m_random m_truePlace m_trueWay m_seconds m_done m_feelings m_tries m_leftOver m_playDoor m_playRing m_isOpen m_isOver m_wasTried m_hasPlayed a_feltNow a_last a_kept m_hasSeconds m_hasTurned m_hasRound a_hasFeels a_isOn m_firstAct m_meanTop m_meanBy a_order m_rowMany m_newSteps g_tape 2 4 (by decide +kernel) (by decide +kernel) hr_m_textEnd hr_n_2147 hr_n_2148 (z_rgw hr_n_2167 (by decide) (by decide)) hr_n_2146 hr_n_2149 hr_n_2150) lk_RX12_214 ⟨rfl, rfl⟩ ⟨Nat.le_of_ble_eq_true rfl, Nat.le_of_ble_eq_true rfl⟩ 12 rfl rfl rfl [5, 2] [0, 1, 3, 4] rfl rfl (by decide) rfl hl.1 rfl (lv_room (Nat.le_of_ble_eq_true rfl)) dX12_readFeature_62 ⟨Nat.le_of_ble_eq_true rfl, Nat.le_of_ble_eq_true rfl⟩ (fun r_2180 u_2181 H locs hw hP hD hS => ?_)
      obtain ⟨n_2172, n_2173, n_2174, n_2175, n_2176, n_2177, n_2178, n_2179⟩ := u_2181
      try dsimp only at hw
      obtain ⟨he_r_2180, he_n_2172, he_n_2173, he_n_2174, he_n_2175, he_n_2176, he_n_2177, he_n_2178, he_n_2179, hw⟩ := hw
      obtain ⟨hr_r_2180, hr_n_2172, hr_n_2174, hr_n_2175, hr_n_2176, hr_n_2177, hr_n_2178, hf_2183, hf_2184, hf_2185, hf_2186, hf_2187, hf_2188⟩ := hw
      refine lv_istore_n (lv' := [(2, .int r_2180), (1, .int r_2153), (0, .ref h0)]) hx hb dX12_readFeature_65 rfl hl (by decide) rfl (fun ls hl => ?_)
      refine lv_aload_n hx hb dX12_readFeature_66 rfl (lv_at hl 2 rfl) ?_
      refine va_get (D := G) (ci := 12) (v := .int n_2172) (C := RX12) (T := TX12) (N := 65) hx hb hts inT12 hown hK hP 4 rfl rfl 12 (by decide) (hts _ tw_1897) (fun _ h9 => h9) rfl dX12_readFeature_67 ?_
      refine lv_if_ne (tgt := 86) hx hb dX12_readFeature_70 (by decide) (fun c_2189 => ?_) (fun c_2189 => ?_)
      · have b_2190 := z_fneT c_2189
        refine lv_iconst (v := 0) hx hb dX12_readFeature_86 (by decide) ?_
        refine lv_istore_n (lv' := [(3, .int 0), (2, .int r_2180), (1, .int r_2153), (0, .ref h0)]) hx hb dX12_readFeature_87 rfl hl (by decide) rfl (fun ls hl => ?_)
        refine lv_iload_n hx hb dX12_readFeature_88 rfl (lv_at hl 0 rfl) ?_
        refine lv_if_eq (tgt := 96) hx hb dX12_readFeature_89 (by decide) (fun _ => ?_) (fun h9 => absurd (by decide +kernel) h9)
        refine lv_aload_n hx hb dX12_readFeature_96 rfl (lv_at hl 3 rfl) ?_
        refine va_get (D := G) (ci := 12) (v := .int n_2172) (C := RX12) (T := TX12) (N := 65) hx hb hts inT12 hown hK hP 4 rfl rfl 12 (by decide) (hts _ tw_1897) (fun _ h9 => h9) rfl dX12_readFeature_97 ?_
        refine lv_if_le (tgt := 104) hx hb dX12_readFeature_100 (by decide) (fun h9 => (z_no (by have h8 := z_fleT h9; omega))) (fun c_2191 => ?_)
        have b_2192 := z_fgtF c_2191
        have hpost : (0 ≤ n_2172.toInt ∧ n_2172.toInt ≤ 9) ∧ (0 ≤ n_2174.toInt ∧ n_2174.toInt ≤ 4) ∧ (0 ≤ n_2175.toInt ∧ n_2175.toInt ≤ 900) ∧ (0 ≤ n_2176.toInt ∧ n_2176.toInt ≤ 900) ∧ (0 ≤ n_2177.toInt ∧ n_2177.toInt ≤ 9999) ∧ (0 ≤ n_2178.toInt ∧ n_2178.toInt ≤ 900) ∧ (zC g_c) ∧ (zRg 3 0 1 g_hasFeels) ∧ (zNw g_c g_isOn) ∧ (m_behind.toInt ≤ n_2176.toInt) ∧ (0 < m_bad.toInt → 0 < n_2172.toInt) ∧ (n_2172.toInt ≤ 0 → n_2174.toInt = 0 ∨ m_behind.toInt < n_2176.toInt) ∧ (n_2172.toInt ≤ 0 → n_2174.toInt = 3 → n_2177.toInt = 59 → zNf g_c) := ⟨hr_n_2172, hr_n_2174, hr_n_2175, hr_n_2176, hr_n_2177, hr_n_2178, hC_g_c, hC_g_hasFeels, hNW0, (by omega), (by omega), (by omega), (fun _ _ _ => hNF0)⟩
        have hX_2193 : F_r_readFeature m_textEnd m_bad m_badAt m_token m_at m_behind m_number m_letters m_word g_tape g_c g_words g_hasFeels = ((n_2172, n_2173, n_2174, n_2175, n_2176, n_2177, n_2178, n_2179, g_c, n_2152, g_hasFeels) : Int32 × Int32 × Int32 × Int32 × Int32 × Int32 × Int32 × Int64 × (Nat → Int32) × (Nat → Int64) × (Nat → Int32)) := by
          refine (F_r_readFeature_s ..).trans ?_
          try (extract_lets -merge -useContext +onlyGivenNames y9; have e9 : x_2141 = y9 := (by first | exact he_x_2141 | exact he_x_2141.symm); clear_value y9; subst e9)
          refine (if_pos c_2142).trans ?_
          extract_lets -merge -useContext +onlyGivenNames w9 y2_0 y2_1 y2_2 y2_3 y2_4 y2_5 y2_6 y2_7 y2_8 y2_9; have e9 : (r_2153, n_2144, n_2145, n_2146, n_2147, n_2148, n_2149, n_2150, n_2151, n_2152) = w9 := ((z_tS he_r_2153 (z_tS he_n_2144 (z_tS he_n_2145 (z_tS he_n_2146 (z_tS he_n_2147 (z_tS he_n_2148 (z_tS he_n_2149 (z_tS he_n_2150 (z_tS he_n_2151 he_n_2152.symm)))))))))).symm; clear_value w9; subst e9
          extract_lets -merge -useContext +onlyGivenNames w9 y9; have e9 : r_2161 = w9 := he_r_2161; clear_value w9; subst e9
          refine (if_neg c_2165).trans ?_
          extract_lets -merge -useContext +onlyGivenNames w9 y5_0 y5_1; have e9 : (n_2167, n_2168) = w9 := ((z_tS he_n_2167 he_n_2168.symm)).symm; clear_value w9; subst e9
          extract_lets -merge -useContext +onlyGivenNames w9 y6_0 y6_1 y6_2 y6_3 y6_4 y6_5 y6_6 y6_7 y6_8; have e9 : (r_2180, n_2172, n_2173, n_2174, n_2175, n_2176, n_2177, n_2178, n_2179) = w9 := ((z_tS he_r_2180 (z_tS he_n_2172 (z_tS he_n_2173 (z_tS he_n_2174 (z_tS he_n_2175 (z_tS he_n_2176 (z_tS he_n_2177 (z_tS he_n_2178 he_n_2179.symm))))))))).symm; clear_value w9; subst e9
          refine (if_neg c_2189).trans ?_
          exact rfl
        exact hret _ _ _ _ _ (n_2172, n_2173, n_2174, n_2175, n_2176, n_2177, n_2178, n_2179, g_c, n_2152, g_hasFeels) [4, 5, 2, 3, 0, 1] hP hD hS rfl (by decide) dX12_readFeature_103 ⟨(congrArg (fun z9 => z9.1) hX_2193).symm, (congrArg (fun z9 => z9.2.1) hX_2193).symm, (congrArg (fun z9 => z9.2.2.1) hX_2193).symm, (congrArg (fun z9 => z9.2.2.2.1) hX_2193).symm, (congrArg (fun z9 => z9.2.2.2.2.1) hX_2193).symm, (congrArg (fun z9 => z9.2.2.2.2.2.1) hX_2193).symm, (congrArg (fun z9 => z9.2.2.2.2.2.2.1) hX_2193).symm, (congrArg (fun z9 => z9.2.2.2.2.2.2.2.1) hX_2193).symm, (congrArg (fun z9 => z9.2.2.2.2.2.2.2.2.1) hX_2193).symm, (congrArg (fun z9 => z9.2.2.2.2.2.2.2.2.2.1) hX_2193).symm, (congrArg (fun z9 => z9.2.2.2.2.2.2.2.2.2.2) hX_2193).symm, hpost⟩
      · have b_2194 := z_feqF c_2189
        refine lv_aload_n hx hb dX12_readFeature_73 rfl (lv_at hl 2 rfl) ?_
        refine z_callVi (As := []) (rest := []) (wr := [(a_hasFeels, .inl (cA.1 3, 3, .inl g_hasFeels)), (a_isOn, .inl (cA.1 3, 10, .inl g_isOn)), (a_c, .inl (cA.1 0, 1825, .inl g_c)), (a_words, .inl (cA.1 1, 105, .inr (.inl n_2152))), (a_tape, .inl (cA.1 2, 900, .inl g_tape))]) ⟨hx, hb, hml, hown, hts⟩ hK hE hT hP hD hS hA (r_houseWord l G cA h0 m_status m_thrown m_above m_under a_traySort a_trayMany a_numbers a_tape m_taped m_textEnd m_faultKind m_faultAt n_2172 n_2173 n_2174 n_2175 n_2176 n_2177 n_2178 n_2179 a_c a_words m_markMany a_there a_tried a_best a_found m_thereMany m_foundMany m_orderHow m_orderRing m_orderMany m_hasBest m_bestTop m_bestBy a_weights a_shared m_random m_truePlace m_trueWay m_seconds m_done m_feelings m_tries m_leftOver m_playDoor m_playRing m_isOpen m_isOver m_wasTried m_hasPlayed a_feltNow a_last a_kept m_hasSeconds m_hasTurned m_hasRound a_hasFeels a_isOn m_firstAct m_meanTop m_meanBy a_order m_rowMany m_newSteps hr_n_2174) lk_RX12_170 ⟨rfl, rfl⟩ ⟨Nat.le_of_ble_eq_true rfl, Nat.le_of_ble_eq_true rfl⟩ 12 rfl rfl rfl [4] [0, 1, 2, 3, 5] rfl rfl (by decide) rfl hl.1 rfl (lv_room (Nat.le_of_ble_eq_true rfl)) dX12_readFeature_74 ⟨Nat.le_of_ble_eq_true rfl, Nat.le_of_ble_eq_true rfl⟩ (fun r_2195 u_2196 H locs hw hP hD hS => ?_)
        obtain ⟨he_r_2195, hw⟩ := hw
        obtain ⟨hr_r_2195, hf_2198⟩ := hw
        refine lv_bipush (v := 6) hx hb dX12_readFeature_77 (by decide) ?_
        refine lv_icmp_ne (tgt := 86) hx hb dX12_readFeature_79 (by decide) (fun c_2199 => ?_) (fun c_2199 => ?_)
        · have b_2200 := z_fneT c_2199
          refine lv_iconst (v := 0) hx hb dX12_readFeature_86 (by decide) ?_
          refine lv_istore_n (lv' := [(3, .int 0), (2, .int r_2180), (1, .int r_2153), (0, .ref h0)]) hx hb dX12_readFeature_87 rfl hl (by decide) rfl (fun ls hl => ?_)
          refine lv_iload_n hx hb dX12_readFeature_88 rfl (lv_at hl 0 rfl) ?_
          refine lv_if_eq (tgt := 96) hx hb dX12_readFeature_89 (by decide) (fun _ => ?_) (fun h9 => absurd (by decide +kernel) h9)
          refine lv_aload_n hx hb dX12_readFeature_96 rfl (lv_at hl 3 rfl) ?_
          refine va_get (D := G) (ci := 12) (v := .int n_2172) (C := RX12) (T := TX12) (N := 65) hx hb hts inT12 hown hK hP 5 rfl rfl 12 (by decide) (hts _ tw_1897) (fun _ h9 => h9) rfl dX12_readFeature_97 ?_
          refine lv_if_le (tgt := 104) hx hb dX12_readFeature_100 (by decide) (fun c_2201 => ?_) (fun h9 => (z_no (by have h8 := z_fgtF h9; omega)))
          have b_2202 := z_fleT c_2201
          have hX_2203 : F_r_readFeature m_textEnd m_bad m_badAt m_token m_at m_behind m_number m_letters m_word g_tape g_c g_words g_hasFeels = F_r_readFeature_C104 g_c g_hasFeels r_2153 r_2180 (0 : Int32) n_2172 n_2173 n_2174 n_2175 n_2176 n_2177 n_2178 n_2179 n_2152 := by
            refine (F_r_readFeature_s ..).trans ?_
            try (extract_lets -merge -useContext +onlyGivenNames y9; have e9 : x_2141 = y9 := (by first | exact he_x_2141 | exact he_x_2141.symm); clear_value y9; subst e9)
            refine (if_pos c_2142).trans ?_
            extract_lets -merge -useContext +onlyGivenNames w9 y2_0 y2_1 y2_2 y2_3 y2_4 y2_5 y2_6 y2_7 y2_8 y2_9; have e9 : (r_2153, n_2144, n_2145, n_2146, n_2147, n_2148, n_2149, n_2150, n_2151, n_2152) = w9 := ((z_tS he_r_2153 (z_tS he_n_2144 (z_tS he_n_2145 (z_tS he_n_2146 (z_tS he_n_2147 (z_tS he_n_2148 (z_tS he_n_2149 (z_tS he_n_2150 (z_tS he_n_2151 he_n_2152.symm)))))))))).symm; clear_value w9; subst e9
            extract_lets -merge -useContext +onlyGivenNames w9 y9; have e9 : r_2161 = w9 := he_r_2161; clear_value w9; subst e9
            refine (if_neg c_2165).trans ?_
            extract_lets -merge -useContext +onlyGivenNames w9 y5_0 y5_1; have e9 : (n_2167, n_2168) = w9 := ((z_tS he_n_2167 he_n_2168.symm)).symm; clear_value w9; subst e9
            extract_lets -merge -useContext +onlyGivenNames w9 y6_0 y6_1 y6_2 y6_3 y6_4 y6_5 y6_6 y6_7 y6_8; have e9 : (r_2180, n_2172, n_2173, n_2174, n_2175, n_2176, n_2177, n_2178, n_2179) = w9 := ((z_tS he_r_2180 (z_tS he_n_2172 (z_tS he_n_2173 (z_tS he_n_2174 (z_tS he_n_2175 (z_tS he_n_2176 (z_tS he_n_2177 (z_tS he_n_2178 he_n_2179.symm))))))))).symm; clear_value w9; subst e9
            refine (if_pos c_2189).trans ?_
            extract_lets -merge -useContext +onlyGivenNames w9 y9; have e9 : r_2195 = w9 := he_r_2195; clear_value w9; subst e9
            refine (if_neg c_2199).trans ?_
            exact rfl
          have hP := hP.sub (ws' := [(h0, .inr (12, [.int m_status, .int m_thrown, .long m_above, .long m_under, .ref a_traySort, .ref a_trayMany, .ref a_numbers, .ref a_tape, .int m_taped, .int m_textEnd, .int m_faultKind, .int m_faultAt, .int n_2172, .int n_2173, .int n_2174, .int n_2175, .int n_2176, .int n_2177, .int n_2178, .long n_2179, .ref a_c, .ref a_words, .int m_markMany, .ref a_there, .ref a_tried, .ref a_best, .ref a_found, .int m_thereMany, .int m_foundMany, .int m_orderHow, .int m_orderRing, .int m_orderMany, .int m_hasBest, .long m_bestTop, .long m_bestBy, .ref a_weights, .ref a_shared, .int m_random, .int m_truePlace, .int m_trueWay, .int m_seconds, .int m_done, .int m_feelings, .int m_tries, .int m_leftOver, .int m_playDoor, .int m_playRing, .int m_isOpen, .int m_isOver, .int m_wasTried, .int m_hasPlayed, .ref a_feltNow, .ref a_last, .ref a_kept, .int m_hasSeconds, .int m_hasTurned, .int m_hasRound, .ref a_hasFeels, .ref a_isOn, .int m_firstAct, .long m_meanTop, .long m_meanBy, .ref a_order, .int m_rowMany, .int m_newSteps])), (a_tape, .inl (cA.1 2, 900, .inl g_tape)), (a_c, .inl (cA.1 0, 1825, .inl g_c)), (a_words, .inl (cA.1 1, 105, .inr (.inl n_2152))), (a_hasFeels, .inl (cA.1 3, 3, .inl g_hasFeels)), (a_isOn, .inl (cA.1 3, 10, .inl g_isOn))]) [5, 4, 2, 3, 0, 1] rfl
          have hD := hD.sub (ws' := [(h0, .inr (12, [.int m_status, .int m_thrown, .long m_above, .long m_under, .ref a_traySort, .ref a_trayMany, .ref a_numbers, .ref a_tape, .int m_taped, .int m_textEnd, .int m_faultKind, .int m_faultAt, .int n_2172, .int n_2173, .int n_2174, .int n_2175, .int n_2176, .int n_2177, .int n_2178, .long n_2179, .ref a_c, .ref a_words, .int m_markMany, .ref a_there, .ref a_tried, .ref a_best, .ref a_found, .int m_thereMany, .int m_foundMany, .int m_orderHow, .int m_orderRing, .int m_orderMany, .int m_hasBest, .long m_bestTop, .long m_bestBy, .ref a_weights, .ref a_shared, .int m_random, .int m_truePlace, .int m_trueWay, .int m_seconds, .int m_done, .int m_feelings, .int m_tries, .int m_leftOver, .int m_playDoor, .int m_playRing, .int m_isOpen, .int m_isOver, .int m_wasTried, .int m_hasPlayed, .ref a_feltNow, .ref a_last, .ref a_kept, .int m_hasSeconds, .int m_hasTurned, .int m_hasRound, .ref a_hasFeels, .ref a_isOn, .int m_firstAct, .long m_meanTop, .long m_meanBy, .ref a_order, .int m_rowMany, .int m_newSteps])), (a_tape, .inl (cA.1 2, 900, .inl g_tape)), (a_c, .inl (cA.1 0, 1825, .inl g_c)), (a_words, .inl (cA.1 1, 105, .inr (.inl n_2152))), (a_hasFeels, .inl (cA.1 3, 3, .inl g_hasFeels)), (a_isOn, .inl (cA.1 3, 10, .inl g_isOn))]) [5, 4, 2, 3, 0, 1] (by decide) rfl
          exact hct_104 r_2153 r_2180 0 n_2172 n_2173 n_2174 n_2175 n_2176 n_2177 n_2178 n_2179 n_2152 H locs ls hr_r_2153 (by omega) (by decide +kernel) (by omega) hr_n_2174 hr_n_2175 hr_n_2176 hr_n_2177 hr_n_2178 hNW0 hNF0 (by omega) (by omega) (by omega) (by omega) hX_2203 hP hD hS (lv_sub hl [3, 2, 1, 0] rfl)
        · have b_2204 := z_feqF c_2199
          refine lv_iconst (v := 1) hx hb dX12_readFeature_82 (by decide) ?_
          refine lv_goto (tgt := 87) hx hb dX12_readFeature_83 (by decide) ?_
          refine lv_istore_n (lv' := [(3, .int 1), (2, .int r_2180), (1, .int r_2153), (0, .ref h0)]) hx hb dX12_readFeature_87 rfl hl (by decide) rfl (fun ls hl => ?_)
          refine lv_iload_n hx hb dX12_readFeature_88 rfl (lv_at hl 0 rfl) ?_
          refine lv_if_eq (tgt := 96) hx hb dX12_readFeature_89 (by decide) (fun h9 => absurd h9 (by decide +kernel)) (fun _ => ?_)
          refine lv_aload_n hx hb dX12_readFeature_92 rfl (lv_at hl 3 rfl) ?_
          refine z_callVv (As := []) (rest := []) (wr := [(a_hasFeels, .inl (cA.1 3, 3, .inl g_hasFeels)), (a_isOn, .inl (cA.1 3, 10, .inl g_isOn)), (a_c, .inl (cA.1 0, 1825, .inl g_c)), (a_words, .inl (cA.1 1, 105, .inr (.inl n_2152)))]) ⟨hx, hb, hml, hown, hts⟩ hK hE hT hP hD hS hA (r_next2 l G cA h0 m_status m_thrown m_above m_under a_traySort a_trayMany a_numbers a_tape m_taped m_textEnd m_faultKind m_faultAt n_2172 n_2173 n_2174 n_2175 n_2176 n_2177 n_2178 n_2179 a_c a_words m_markMany a_there a_tried a_best a_found m_thereMany m_foundMany m_orderHow m_orderRing m_orderMany m_hasBest m_bestTop m_bestBy a_weights a_shared m_random m_truePlace m_trueWay m_seconds m_done m_feelings m_tries m_leftOver m_playDoor m_playRing m_isOpen m_isOver m_wasTried m_hasPlayed a_feltNow a_last a_kept m_hasSeconds m_hasTurned m_hasRound a_hasFeels a_isOn m_firstAct m_meanTop m_meanBy a_order m_rowMany m_newSteps g_tape hr_m_textEnd hr_n_2175 hr_n_2176 hr_n_2174 hr_n_2177 hr_n_2178) lk_RX12_184 ⟨rfl, rfl⟩ ⟨Nat.le_of_ble_eq_true rfl, Nat.le_of_ble_eq_true rfl⟩ 12 rfl rfl rfl [5, 4] [0, 1, 2, 3] rfl rfl (by decide) rfl hl.1 rfl (lv_room (Nat.le_of_ble_eq_true rfl)) dX12_readFeature_93 ⟨Nat.le_of_ble_eq_true rfl, Nat.le_of_ble_eq_true rfl⟩ (fun u_2212 H locs hw hP hD hS => ?_)
          obtain ⟨n_2205, n_2206, n_2207, n_2208, n_2209, n_2210⟩ := u_2212
          try dsimp only at hw
          obtain ⟨he_n_2205, he_n_2206, he_n_2207, he_n_2208, he_n_2209, he_n_2210, hw⟩ := hw
          obtain ⟨hr_n_2205, hr_n_2206, hr_n_2207, hr_n_2208, hr_n_2209, hf_2214, hf_2215⟩ := hw
          refine lv_aload_n hx hb dX12_readFeature_96 rfl (lv_at hl 3 rfl) ?_
          refine va_get (D := G) (ci := 12) (v := .int n_2172) (C := RX12) (T := TX12) (N := 65) hx hb hts inT12 hown hK hP 4 rfl rfl 12 (by decide) (hts _ tw_1897) (fun _ h9 => h9) rfl dX12_readFeature_97 ?_
          refine lv_if_le (tgt := 104) hx hb dX12_readFeature_100 (by decide) (fun c_2216 => ?_) (fun h9 => (z_no (by have h8 := z_fgtF h9; omega)))
          have b_2217 := z_fleT c_2216
          have hX_2218 : F_r_readFeature m_textEnd m_bad m_badAt m_token m_at m_behind m_number m_letters m_word g_tape g_c g_words g_hasFeels = F_r_readFeature_C104 g_c g_hasFeels r_2153 r_2180 (1 : Int32) n_2172 n_2173 n_2205 n_2206 n_2207 n_2208 n_2209 n_2210 n_2152 := by
            refine (F_r_readFeature_s ..).trans ?_
            try (extract_lets -merge -useContext +onlyGivenNames y9; have e9 : x_2141 = y9 := (by first | exact he_x_2141 | exact he_x_2141.symm); clear_value y9; subst e9)
            refine (if_pos c_2142).trans ?_
            extract_lets -merge -useContext +onlyGivenNames w9 y2_0 y2_1 y2_2 y2_3 y2_4 y2_5 y2_6 y2_7 y2_8 y2_9; have e9 : (r_2153, n_2144, n_2145, n_2146, n_2147, n_2148, n_2149, n_2150, n_2151, n_2152) = w9 := ((z_tS he_r_2153 (z_tS he_n_2144 (z_tS he_n_2145 (z_tS he_n_2146 (z_tS he_n_2147 (z_tS he_n_2148 (z_tS he_n_2149 (z_tS he_n_2150 (z_tS he_n_2151 he_n_2152.symm)))))))))).symm; clear_value w9; subst e9
            extract_lets -merge -useContext +onlyGivenNames w9 y9; have e9 : r_2161 = w9 := he_r_2161; clear_value w9; subst e9
            refine (if_neg c_2165).trans ?_
            extract_lets -merge -useContext +onlyGivenNames w9 y5_0 y5_1; have e9 : (n_2167, n_2168) = w9 := ((z_tS he_n_2167 he_n_2168.symm)).symm; clear_value w9; subst e9
            extract_lets -merge -useContext +onlyGivenNames w9 y6_0 y6_1 y6_2 y6_3 y6_4 y6_5 y6_6 y6_7 y6_8; have e9 : (r_2180, n_2172, n_2173, n_2174, n_2175, n_2176, n_2177, n_2178, n_2179) = w9 := ((z_tS he_r_2180 (z_tS he_n_2172 (z_tS he_n_2173 (z_tS he_n_2174 (z_tS he_n_2175 (z_tS he_n_2176 (z_tS he_n_2177 (z_tS he_n_2178 he_n_2179.symm))))))))).symm; clear_value w9; subst e9
            refine (if_pos c_2189).trans ?_
            extract_lets -merge -useContext +onlyGivenNames w9 y9; have e9 : r_2195 = w9 := he_r_2195; clear_value w9; subst e9
            refine (if_pos c_2199).trans ?_
            extract_lets -merge -useContext +onlyGivenNames w9 y10_0 y10_1 y10_2 y10_3 y10_4 y10_5; have e9 : (n_2205, n_2206, n_2207, n_2208, n_2209, n_2210) = w9 := ((z_tS he_n_2205 (z_tS he_n_2206 (z_tS he_n_2207 (z_tS he_n_2208 (z_tS he_n_2209 he_n_2210.symm)))))).symm; clear_value w9; subst e9
            exact rfl
          have hP := hP.sub (ws' := [(h0, .inr (12, [.int m_status, .int m_thrown, .long m_above, .long m_under, .ref a_traySort, .ref a_trayMany, .ref a_numbers, .ref a_tape, .int m_taped, .int m_textEnd, .int m_faultKind, .int m_faultAt, .int n_2172, .int n_2173, .int n_2205, .int n_2206, .int n_2207, .int n_2208, .int n_2209, .long n_2210, .ref a_c, .ref a_words, .int m_markMany, .ref a_there, .ref a_tried, .ref a_best, .ref a_found, .int m_thereMany, .int m_foundMany, .int m_orderHow, .int m_orderRing, .int m_orderMany, .int m_hasBest, .long m_bestTop, .long m_bestBy, .ref a_weights, .ref a_shared, .int m_random, .int m_truePlace, .int m_trueWay, .int m_seconds, .int m_done, .int m_feelings, .int m_tries, .int m_leftOver, .int m_playDoor, .int m_playRing, .int m_isOpen, .int m_isOver, .int m_wasTried, .int m_hasPlayed, .ref a_feltNow, .ref a_last, .ref a_kept, .int m_hasSeconds, .int m_hasTurned, .int m_hasRound, .ref a_hasFeels, .ref a_isOn, .int m_firstAct, .long m_meanTop, .long m_meanBy, .ref a_order, .int m_rowMany, .int m_newSteps])), (a_tape, .inl (cA.1 2, 900, .inl g_tape)), (a_c, .inl (cA.1 0, 1825, .inl g_c)), (a_words, .inl (cA.1 1, 105, .inr (.inl n_2152))), (a_hasFeels, .inl (cA.1 3, 3, .inl g_hasFeels)), (a_isOn, .inl (cA.1 3, 10, .inl g_isOn))]) [4, 5, 2, 3, 0, 1] rfl
          have hD := hD.sub (ws' := [(h0, .inr (12, [.int m_status, .int m_thrown, .long m_above, .long m_under, .ref a_traySort, .ref a_trayMany, .ref a_numbers, .ref a_tape, .int m_taped, .int m_textEnd, .int m_faultKind, .int m_faultAt, .int n_2172, .int n_2173, .int n_2205, .int n_2206, .int n_2207, .int n_2208, .int n_2209, .long n_2210, .ref a_c, .ref a_words, .int m_markMany, .ref a_there, .ref a_tried, .ref a_best, .ref a_found, .int m_thereMany, .int m_foundMany, .int m_orderHow, .int m_orderRing, .int m_orderMany, .int m_hasBest, .long m_bestTop, .long m_bestBy, .ref a_weights, .ref a_shared, .int m_random, .int m_truePlace, .int m_trueWay, .int m_seconds, .int m_done, .int m_feelings, .int m_tries, .int m_leftOver, .int m_playDoor, .int m_playRing, .int m_isOpen, .int m_isOver, .int m_wasTried, .int m_hasPlayed, .ref a_feltNow, .ref a_last, .ref a_kept, .int m_hasSeconds, .int m_hasTurned, .int m_hasRound, .ref a_hasFeels, .ref a_isOn, .int m_firstAct, .long m_meanTop, .long m_meanBy, .ref a_order, .int m_rowMany, .int m_newSteps])), (a_tape, .inl (cA.1 2, 900, .inl g_tape)), (a_c, .inl (cA.1 0, 1825, .inl g_c)), (a_words, .inl (cA.1 1, 105, .inr (.inl n_2152))), (a_hasFeels, .inl (cA.1 3, 3, .inl g_hasFeels)), (a_isOn, .inl (cA.1 3, 10, .inl g_isOn))]) [4, 5, 2, 3, 0, 1] (by decide) rfl
          exact hct_104 r_2153 r_2180 1 n_2172 n_2173 n_2205 n_2206 n_2207 n_2208 n_2209 n_2210 n_2152 H locs ls hr_r_2153 (by omega) (by decide +kernel) (by omega) hr_n_2205 hr_n_2206 hr_n_2207 hr_n_2208 hr_n_2209 hNW0 hNF0 (by omega) (by omega) (by omega) (by omega) hX_2218 hP hD hS (lv_sub hl [3, 2, 1, 0] rfl)
    · have b_2219 := z_feqF c_2165
      refine lv_iconst (v := 1) hx hb dX12_readFeature_51 (by decide) ?_
      refine lv_goto (tgt := 56) hx hb dX12_readFeature_52 (by decide) ?_
      refine z_callVv (As := [.int 1]) (rest := []) (wr := [(a_hasFeels, .inl (cA.1 3, 3, .inl g_hasFeels)), (a_isOn, .inl (cA.1 3, 10, .inl g_isOn)), (a_c, .inl (cA.1 0, 1825, .inl g_c)), (a_words, .inl (cA.1 1, 105, .inr (.inl n_2152)))]) ⟨hx, hb, hml, hown, hts⟩ hK hE hT hP hD hS hA (r_must_1 l G cA h0 m_status m_thrown m_above m_under a_traySort a_trayMany a_numbers a_tape m_taped m_textEnd m_faultKind m_faultAt n_2144 n_2145 n_2146 n_2147 n_2148 n_2149 n_2150 n_2151 a_c a_words m_markMany a_there a_tried a_best a_found m_thereMany m_foundMany m_orderHow m_orderRing m_orderMany m_hasBest m_bestTop m_bestBy a_weights a_shared m_random m_truePlace m_trueWay m_seconds m_done m_feelings m_tries m_leftOver m_playDoor m_playRing m_isOpen m_isOver m_wasTried m_hasPlayed a_feltNow a_last a_kept m_hasSeconds m_hasTurned m_hasRound a_hasFeels a_isOn m_firstAct m_meanTop m_meanBy a_order m_rowMany m_newSteps g_tape hr_m_textEnd hr_n_2147 hr_n_2148 hr_n_2144 hr_n_2146 hr_n_2149 hr_n_2150) lk_RX12_210 ⟨rfl, rfl⟩ ⟨Nat.le_of_ble_eq_true rfl, Nat.le_of_ble_eq_true rfl⟩ 12 rfl rfl rfl [5, 2] [0, 1, 3, 4] rfl rfl (by decide) rfl hl.1 rfl (lv_room (Nat.le_of_ble_eq_true rfl)) dX12_readFeature_56 ⟨Nat.le_of_ble_eq_true rfl, Nat.le_of_ble_eq_true rfl⟩ (fun u_2227 H locs hw hP hD hS => ?_)
      obtain ⟨n_2220, n_2221, n_2222, n_2223, n_2224, n_2225⟩ := u_2227
      try dsimp only at hw
      obtain ⟨he_n_2220, he_n_2221, he_n_2222, he_n_2223, he_n_2224, he_n_2225, hw⟩ := hw
      obtain ⟨hr_n_2220, hr_n_2221, hr_n_2222, hr_n_2223, hr_n_2224, hf_2229, hf_2230, hf_2231⟩ := hw
      refine lv_aload_n hx hb dX12_readFeature_59 rfl (lv_at hl 1 rfl) ?_
      refine lv_iconst (v := 2) hx hb dX12_readFeature_60 (by decide) ?_
      refine lv_iconst (v := 4) hx hb dX12_readFeature_61 (by decide) ?_
      refine z_callVi (As := [.int 2, .int 4]) (rest := []) (wr := [(a_hasFeels, .inl (cA.1 3, 3, .inl g_hasFeels)), (a_isOn, .inl (cA.1 3, 10, .inl g_isOn)), (a_c, .inl (cA.1 0, 1825, .inl g_c)), (a_words, .inl (cA.1 1, 105, .inr (.inl n_2152)))]) ⟨hx, hb, hml, hown, hts⟩ hK hE hT hP hD hS hA (r_count l G cA h0 m_status m_thrown m_above m_under a_traySort a_trayMany a_numbers a_tape m_taped m_textEnd m_faultKind m_faultAt n_2144 n_2145 n_2220 n_2221 n_2222 n_2223 n_2224 n_2225 a_c a_words m_markMany a_there a_tried a_best a_found m_thereMany m_foundMany m_orderHow m_orderRing m_orderMany m_hasBest m_bestTop m_bestBy a_weights a_shared m_random m_truePlace m_trueWay m_seconds m_done m_feelings m_tries m_leftOver m_playDoor m_playRing m_isOpen m_isOver m_wasTried m_hasPlayed a_feltNow a_last a_kept m_hasSeconds m_hasTurned m_hasRound a_hasFeels a_isOn m_firstAct m_meanTop m_meanBy a_order m_rowMany m_newSteps g_tape 2 4 (by decide +kernel) (by decide +kernel) hr_m_textEnd hr_n_2221 hr_n_2222 hr_n_2144 hr_n_2220 hr_n_2223 hr_n_2224) lk_RX12_214 ⟨rfl, rfl⟩ ⟨Nat.le_of_ble_eq_true rfl, Nat.le_of_ble_eq_true rfl⟩ 12 rfl rfl rfl [4, 5] [0, 1, 2, 3] rfl rfl (by decide) rfl hl.1 rfl (lv_room (Nat.le_of_ble_eq_true rfl)) dX12_readFeature_62 ⟨Nat.le_of_ble_eq_true rfl, Nat.le_of_ble_eq_true rfl⟩ (fun r_2240 u_2241 H locs hw hP hD hS => ?_)
      obtain ⟨n_2232, n_2233, n_2234, n_2235, n_2236, n_2237, n_2238, n_2239⟩ := u_2241
      try dsimp only at hw
      obtain ⟨he_r_2240, he_n_2232, he_n_2233, he_n_2234, he_n_2235, he_n_2236, he_n_2237, he_n_2238, he_n_2239, hw⟩ := hw
      obtain ⟨hr_r_2240, hr_n_2232, hr_n_2234, hr_n_2235, hr_n_2236, hr_n_2237, hr_n_2238, hf_2243, hf_2244, hf_2245, hf_2246, hf_2247, hf_2248⟩ := hw
      refine lv_istore_n (lv' := [(2, .int r_2240), (1, .int r_2153), (0, .ref h0)]) hx hb dX12_readFeature_65 rfl hl (by decide) rfl (fun ls hl => ?_)
      refine lv_aload_n hx hb dX12_readFeature_66 rfl (lv_at hl 2 rfl) ?_
      refine va_get (D := G) (ci := 12) (v := .int n_2232) (C := RX12) (T := TX12) (N := 65) hx hb hts inT12 hown hK hP 4 rfl rfl 12 (by decide) (hts _ tw_1897) (fun _ h9 => h9) rfl dX12_readFeature_67 ?_
      refine lv_if_ne (tgt := 86) hx hb dX12_readFeature_70 (by decide) (fun c_2249 => ?_) (fun c_2249 => ?_)
      · have b_2250 := z_fneT c_2249
        refine lv_iconst (v := 0) hx hb dX12_readFeature_86 (by decide) ?_
        refine lv_istore_n (lv' := [(3, .int 0), (2, .int r_2240), (1, .int r_2153), (0, .ref h0)]) hx hb dX12_readFeature_87 rfl hl (by decide) rfl (fun ls hl => ?_)
        refine lv_iload_n hx hb dX12_readFeature_88 rfl (lv_at hl 0 rfl) ?_
        refine lv_if_eq (tgt := 96) hx hb dX12_readFeature_89 (by decide) (fun _ => ?_) (fun h9 => absurd (by decide +kernel) h9)
        refine lv_aload_n hx hb dX12_readFeature_96 rfl (lv_at hl 3 rfl) ?_
        refine va_get (D := G) (ci := 12) (v := .int n_2232) (C := RX12) (T := TX12) (N := 65) hx hb hts inT12 hown hK hP 4 rfl rfl 12 (by decide) (hts _ tw_1897) (fun _ h9 => h9) rfl dX12_readFeature_97 ?_
        refine lv_if_le (tgt := 104) hx hb dX12_readFeature_100 (by decide) (fun h9 => (z_no (by have h8 := z_fleT h9; omega))) (fun c_2251 => ?_)
        have b_2252 := z_fgtF c_2251
        have hpost : (0 ≤ n_2232.toInt ∧ n_2232.toInt ≤ 9) ∧ (0 ≤ n_2234.toInt ∧ n_2234.toInt ≤ 4) ∧ (0 ≤ n_2235.toInt ∧ n_2235.toInt ≤ 900) ∧ (0 ≤ n_2236.toInt ∧ n_2236.toInt ≤ 900) ∧ (0 ≤ n_2237.toInt ∧ n_2237.toInt ≤ 9999) ∧ (0 ≤ n_2238.toInt ∧ n_2238.toInt ≤ 900) ∧ (zC g_c) ∧ (zRg 3 0 1 g_hasFeels) ∧ (zNw g_c g_isOn) ∧ (m_behind.toInt ≤ n_2236.toInt) ∧ (0 < m_bad.toInt → 0 < n_2232.toInt) ∧ (n_2232.toInt ≤ 0 → n_2234.toInt = 0 ∨ m_behind.toInt < n_2236.toInt) ∧ (n_2232.toInt ≤ 0 → n_2234.toInt = 3 → n_2237.toInt = 59 → zNf g_c) := ⟨hr_n_2232, hr_n_2234, hr_n_2235, hr_n_2236, hr_n_2237, hr_n_2238, hC_g_c, hC_g_hasFeels, hNW0, (by omega), (by omega), (by omega), (fun _ _ _ => hNF0)⟩
        have hX_2253 : F_r_readFeature m_textEnd m_bad m_badAt m_token m_at m_behind m_number m_letters m_word g_tape g_c g_words g_hasFeels = ((n_2232, n_2233, n_2234, n_2235, n_2236, n_2237, n_2238, n_2239, g_c, n_2152, g_hasFeels) : Int32 × Int32 × Int32 × Int32 × Int32 × Int32 × Int32 × Int64 × (Nat → Int32) × (Nat → Int64) × (Nat → Int32)) := by
          refine (F_r_readFeature_s ..).trans ?_
          try (extract_lets -merge -useContext +onlyGivenNames y9; have e9 : x_2141 = y9 := (by first | exact he_x_2141 | exact he_x_2141.symm); clear_value y9; subst e9)
          refine (if_pos c_2142).trans ?_
          extract_lets -merge -useContext +onlyGivenNames w9 y2_0 y2_1 y2_2 y2_3 y2_4 y2_5 y2_6 y2_7 y2_8 y2_9; have e9 : (r_2153, n_2144, n_2145, n_2146, n_2147, n_2148, n_2149, n_2150, n_2151, n_2152) = w9 := ((z_tS he_r_2153 (z_tS he_n_2144 (z_tS he_n_2145 (z_tS he_n_2146 (z_tS he_n_2147 (z_tS he_n_2148 (z_tS he_n_2149 (z_tS he_n_2150 (z_tS he_n_2151 he_n_2152.symm)))))))))).symm; clear_value w9; subst e9
          extract_lets -merge -useContext +onlyGivenNames w9 y9; have e9 : r_2161 = w9 := he_r_2161; clear_value w9; subst e9
          refine (if_pos c_2165).trans ?_
          extract_lets -merge -useContext +onlyGivenNames w9 y5_0 y5_1 y5_2 y5_3 y5_4 y5_5; have e9 : (n_2220, n_2221, n_2222, n_2223, n_2224, n_2225) = w9 := ((z_tS he_n_2220 (z_tS he_n_2221 (z_tS he_n_2222 (z_tS he_n_2223 (z_tS he_n_2224 he_n_2225.symm)))))).symm; clear_value w9; subst e9
          extract_lets -merge -useContext +onlyGivenNames w9 y6_0 y6_1 y6_2 y6_3 y6_4 y6_5 y6_6 y6_7 y6_8; have e9 : (r_2240, n_2232, n_2233, n_2234, n_2235, n_2236, n_2237, n_2238, n_2239) = w9 := ((z_tS he_r_2240 (z_tS he_n_2232 (z_tS he_n_2233 (z_tS he_n_2234 (z_tS he_n_2235 (z_tS he_n_2236 (z_tS he_n_2237 (z_tS he_n_2238 he_n_2239.symm))))))))).symm; clear_value w9; subst e9
          refine (if_neg c_2249).trans ?_
          exact rfl
        exact hret _ _ _ _ _ (n_2232, n_2233, n_2234, n_2235, n_2236, n_2237, n_2238, n_2239, g_c, n_2152, g_hasFeels) [4, 5, 2, 3, 0, 1] hP hD hS rfl (by decide) dX12_readFeature_103 ⟨(congrArg (fun z9 => z9.1) hX_2253).symm, (congrArg (fun z9 => z9.2.1) hX_2253).symm, (congrArg (fun z9 => z9.2.2.1) hX_2253).symm, (congrArg (fun z9 => z9.2.2.2.1) hX_2253).symm, (congrArg (fun z9 => z9.2.2.2.2.1) hX_2253).symm, (congrArg (fun z9 => z9.2.2.2.2.2.1) hX_2253).symm, (congrArg (fun z9 => z9.2.2.2.2.2.2.1) hX_2253).symm, (congrArg (fun z9 => z9.2.2.2.2.2.2.2.1) hX_2253).symm, (congrArg (fun z9 => z9.2.2.2.2.2.2.2.2.1) hX_2253).symm, (congrArg (fun z9 => z9.2.2.2.2.2.2.2.2.2.1) hX_2253).symm, (congrArg (fun z9 => z9.2.2.2.2.2.2.2.2.2.2) hX_2253).symm, hpost⟩
      · have b_2254 := z_feqF c_2249
        refine lv_aload_n hx hb dX12_readFeature_73 rfl (lv_at hl 2 rfl) ?_
        refine z_callVi (As := []) (rest := []) (wr := [(a_hasFeels, .inl (cA.1 3, 3, .inl g_hasFeels)), (a_isOn, .inl (cA.1 3, 10, .inl g_isOn)), (a_c, .inl (cA.1 0, 1825, .inl g_c)), (a_words, .inl (cA.1 1, 105, .inr (.inl n_2152))), (a_tape, .inl (cA.1 2, 900, .inl g_tape))]) ⟨hx, hb, hml, hown, hts⟩ hK hE hT hP hD hS hA (r_houseWord l G cA h0 m_status m_thrown m_above m_under a_traySort a_trayMany a_numbers a_tape m_taped m_textEnd m_faultKind m_faultAt n_2232 n_2233 n_2234 n_2235 n_2236 n_2237 n_2238 n_2239 a_c a_words m_markMany a_there a_tried a_best a_found m_thereMany m_foundMany m_orderHow m_orderRing m_orderMany m_hasBest m_bestTop m_bestBy a_weights a_shared m_random m_truePlace m_trueWay m_seconds m_done m_feelings m_tries m_leftOver m_playDoor m_playRing m_isOpen m_isOver m_wasTried m_hasPlayed a_feltNow a_last a_kept m_hasSeconds m_hasTurned m_hasRound a_hasFeels a_isOn m_firstAct m_meanTop m_meanBy a_order m_rowMany m_newSteps hr_n_2234) lk_RX12_170 ⟨rfl, rfl⟩ ⟨Nat.le_of_ble_eq_true rfl, Nat.le_of_ble_eq_true rfl⟩ 12 rfl rfl rfl [4] [0, 1, 2, 3, 5] rfl rfl (by decide) rfl hl.1 rfl (lv_room (Nat.le_of_ble_eq_true rfl)) dX12_readFeature_74 ⟨Nat.le_of_ble_eq_true rfl, Nat.le_of_ble_eq_true rfl⟩ (fun r_2255 u_2256 H locs hw hP hD hS => ?_)
        obtain ⟨he_r_2255, hw⟩ := hw
        obtain ⟨hr_r_2255, hf_2258⟩ := hw
        refine lv_bipush (v := 6) hx hb dX12_readFeature_77 (by decide) ?_
        refine lv_icmp_ne (tgt := 86) hx hb dX12_readFeature_79 (by decide) (fun c_2259 => ?_) (fun c_2259 => ?_)
        · have b_2260 := z_fneT c_2259
          refine lv_iconst (v := 0) hx hb dX12_readFeature_86 (by decide) ?_
          refine lv_istore_n (lv' := [(3, .int 0), (2, .int r_2240), (1, .int r_2153), (0, .ref h0)]) hx hb dX12_readFeature_87 rfl hl (by decide) rfl (fun ls hl => ?_)
          refine lv_iload_n hx hb dX12_readFeature_88 rfl (lv_at hl 0 rfl) ?_
          refine lv_if_eq (tgt := 96) hx hb dX12_readFeature_89 (by decide) (fun _ => ?_) (fun h9 => absurd (by decide +kernel) h9)
          refine lv_aload_n hx hb dX12_readFeature_96 rfl (lv_at hl 3 rfl) ?_
          refine va_get (D := G) (ci := 12) (v := .int n_2232) (C := RX12) (T := TX12) (N := 65) hx hb hts inT12 hown hK hP 5 rfl rfl 12 (by decide) (hts _ tw_1897) (fun _ h9 => h9) rfl dX12_readFeature_97 ?_
          refine lv_if_le (tgt := 104) hx hb dX12_readFeature_100 (by decide) (fun c_2261 => ?_) (fun h9 => (z_no (by have h8 := z_fgtF h9; omega)))
          have b_2262 := z_fleT c_2261
          have hX_2263 : F_r_readFeature m_textEnd m_bad m_badAt m_token m_at m_behind m_number m_letters m_word g_tape g_c g_words g_hasFeels = F_r_readFeature_C104 g_c g_hasFeels r_2153 r_2240 (0 : Int32) n_2232 n_2233 n_2234 n_2235 n_2236 n_2237 n_2238 n_2239 n_2152 := by
            refine (F_r_readFeature_s ..).trans ?_
            try (extract_lets -merge -useContext +onlyGivenNames y9; have e9 : x_2141 = y9 := (by first | exact he_x_2141 | exact he_x_2141.symm); clear_value y9; subst e9)
            refine (if_pos c_2142).trans ?_
            extract_lets -merge -useContext +onlyGivenNames w9 y2_0 y2_1 y2_2 y2_3 y2_4 y2_5 y2_6 y2_7 y2_8 y2_9; have e9 : (r_2153, n_2144, n_2145, n_2146, n_2147, n_2148, n_2149, n_2150, n_2151, n_2152) = w9 := ((z_tS he_r_2153 (z_tS he_n_2144 (z_tS he_n_2145 (z_tS he_n_2146 (z_tS he_n_2147 (z_tS he_n_2148 (z_tS he_n_2149 (z_tS he_n_2150 (z_tS he_n_2151 he_n_2152.symm)))))))))).symm; clear_value w9; subst e9
            extract_lets -merge -useContext +onlyGivenNames w9 y9; have e9 : r_2161 = w9 := he_r_2161; clear_value w9; subst e9
            refine (if_pos c_2165).trans ?_
            extract_lets -merge -useContext +onlyGivenNames w9 y5_0 y5_1 y5_2 y5_3 y5_4 y5_5; have e9 : (n_2220, n_2221, n_2222, n_2223, n_2224, n_2225) = w9 := ((z_tS he_n_2220 (z_tS he_n_2221 (z_tS he_n_2222 (z_tS he_n_2223 (z_tS he_n_2224 he_n_2225.symm)))))).symm; clear_value w9; subst e9
            extract_lets -merge -useContext +onlyGivenNames w9 y6_0 y6_1 y6_2 y6_3 y6_4 y6_5 y6_6 y6_7 y6_8; have e9 : (r_2240, n_2232, n_2233, n_2234, n_2235, n_2236, n_2237, n_2238, n_2239) = w9 := ((z_tS he_r_2240 (z_tS he_n_2232 (z_tS he_n_2233 (z_tS he_n_2234 (z_tS he_n_2235 (z_tS he_n_2236 (z_tS he_n_2237 (z_tS he_n_2238 he_n_2239.symm))))))))).symm; clear_value w9; subst e9
            refine (if_pos c_2249).trans ?_
            extract_lets -merge -useContext +onlyGivenNames w9 y9; have e9 : r_2255 = w9 := he_r_2255; clear_value w9; subst e9
            refine (if_neg c_2259).trans ?_
            exact rfl
          have hP := hP.sub (ws' := [(h0, .inr (12, [.int m_status, .int m_thrown, .long m_above, .long m_under, .ref a_traySort, .ref a_trayMany, .ref a_numbers, .ref a_tape, .int m_taped, .int m_textEnd, .int m_faultKind, .int m_faultAt, .int n_2232, .int n_2233, .int n_2234, .int n_2235, .int n_2236, .int n_2237, .int n_2238, .long n_2239, .ref a_c, .ref a_words, .int m_markMany, .ref a_there, .ref a_tried, .ref a_best, .ref a_found, .int m_thereMany, .int m_foundMany, .int m_orderHow, .int m_orderRing, .int m_orderMany, .int m_hasBest, .long m_bestTop, .long m_bestBy, .ref a_weights, .ref a_shared, .int m_random, .int m_truePlace, .int m_trueWay, .int m_seconds, .int m_done, .int m_feelings, .int m_tries, .int m_leftOver, .int m_playDoor, .int m_playRing, .int m_isOpen, .int m_isOver, .int m_wasTried, .int m_hasPlayed, .ref a_feltNow, .ref a_last, .ref a_kept, .int m_hasSeconds, .int m_hasTurned, .int m_hasRound, .ref a_hasFeels, .ref a_isOn, .int m_firstAct, .long m_meanTop, .long m_meanBy, .ref a_order, .int m_rowMany, .int m_newSteps])), (a_tape, .inl (cA.1 2, 900, .inl g_tape)), (a_c, .inl (cA.1 0, 1825, .inl g_c)), (a_words, .inl (cA.1 1, 105, .inr (.inl n_2152))), (a_hasFeels, .inl (cA.1 3, 3, .inl g_hasFeels)), (a_isOn, .inl (cA.1 3, 10, .inl g_isOn))]) [5, 4, 2, 3, 0, 1] rfl
          have hD := hD.sub (ws' := [(h0, .inr (12, [.int m_status, .int m_thrown, .long m_above, .long m_under, .ref a_traySort, .ref a_trayMany, .ref a_numbers, .ref a_tape, .int m_taped, .int m_textEnd, .int m_faultKind, .int m_faultAt, .int n_2232, .int n_2233, .int n_2234, .int n_2235, .int n_2236, .int n_2237, .int n_2238, .long n_2239, .ref a_c, .ref a_words, .int m_markMany, .ref a_there, .ref a_tried, .ref a_best, .ref a_found, .int m_thereMany, .int m_foundMany, .int m_orderHow, .int m_orderRing, .int m_orderMany, .int m_hasBest, .long m_bestTop, .long m_bestBy, .ref a_weights, .ref a_shared, .int m_random, .int m_truePlace, .int m_trueWay, .int m_seconds, .int m_done, .int m_feelings, .int m_tries, .int m_leftOver, .int m_playDoor, .int m_playRing, .int m_isOpen, .int m_isOver, .int m_wasTried, .int m_hasPlayed, .ref a_feltNow, .ref a_last, .ref a_kept, .int m_hasSeconds, .int m_hasTurned, .int m_hasRound, .ref a_hasFeels, .ref a_isOn, .int m_firstAct, .long m_meanTop, .long m_meanBy, .ref a_order, .int m_rowMany, .int m_newSteps])), (a_tape, .inl (cA.1 2, 900, .inl g_tape)), (a_c, .inl (cA.1 0, 1825, .inl g_c)), (a_words, .inl (cA.1 1, 105, .inr (.inl n_2152))), (a_hasFeels, .inl (cA.1 3, 3, .inl g_hasFeels)), (a_isOn, .inl (cA.1 3, 10, .inl g_isOn))]) [5, 4, 2, 3, 0, 1] (by decide) rfl
          exact hct_104 r_2153 r_2240 0 n_2232 n_2233 n_2234 n_2235 n_2236 n_2237 n_2238 n_2239 n_2152 H locs ls hr_r_2153 (by omega) (by decide +kernel) (by omega) hr_n_2234 hr_n_2235 hr_n_2236 hr_n_2237 hr_n_2238 hNW0 hNF0 (by omega) (by omega) (by omega) (by omega) hX_2263 hP hD hS (lv_sub hl [3, 2, 1, 0] rfl)
        · have b_2264 := z_feqF c_2259
          refine lv_iconst (v := 1) hx hb dX12_readFeature_82 (by decide) ?_
          refine lv_goto (tgt := 87) hx hb dX12_readFeature_83 (by decide) ?_
          refine lv_istore_n (lv' := [(3, .int 1), (2, .int r_2240), (1, .int r_2153), (0, .ref h0)]) hx hb dX12_readFeature_87 rfl hl (by decide) rfl (fun ls hl => ?_)
          refine lv_iload_n hx hb dX12_readFeature_88 rfl (lv_at hl 0 rfl) ?_
          refine lv_if_eq (tgt := 96) hx hb dX12_readFeature_89 (by decide) (fun h9 => absurd h9 (by decide +kernel)) (fun _ => ?_)
          refine lv_aload_n hx hb dX12_readFeature_92 rfl (lv_at hl 3 rfl) ?_
          refine z_callVv (As := []) (rest := []) (wr := [(a_hasFeels, .inl (cA.1 3, 3, .inl g_hasFeels)), (a_isOn, .inl (cA.1 3, 10, .inl g_isOn)), (a_c, .inl (cA.1 0, 1825, .inl g_c)), (a_words, .inl (cA.1 1, 105, .inr (.inl n_2152)))]) ⟨hx, hb, hml, hown, hts⟩ hK hE hT hP hD hS hA (r_next2 l G cA h0 m_status m_thrown m_above m_under a_traySort a_trayMany a_numbers a_tape m_taped m_textEnd m_faultKind m_faultAt n_2232 n_2233 n_2234 n_2235 n_2236 n_2237 n_2238 n_2239 a_c a_words m_markMany a_there a_tried a_best a_found m_thereMany m_foundMany m_orderHow m_orderRing m_orderMany m_hasBest m_bestTop m_bestBy a_weights a_shared m_random m_truePlace m_trueWay m_seconds m_done m_feelings m_tries m_leftOver m_playDoor m_playRing m_isOpen m_isOver m_wasTried m_hasPlayed a_feltNow a_last a_kept m_hasSeconds m_hasTurned m_hasRound a_hasFeels a_isOn m_firstAct m_meanTop m_meanBy a_order m_rowMany m_newSteps g_tape hr_m_textEnd hr_n_2235 hr_n_2236 hr_n_2234 hr_n_2237 hr_n_2238) lk_RX12_184 ⟨rfl, rfl⟩ ⟨Nat.le_of_ble_eq_true rfl, Nat.le_of_ble_eq_true rfl⟩ 12 rfl rfl rfl [5, 4] [0, 1, 2, 3] rfl rfl (by decide) rfl hl.1 rfl (lv_room (Nat.le_of_ble_eq_true rfl)) dX12_readFeature_93 ⟨Nat.le_of_ble_eq_true rfl, Nat.le_of_ble_eq_true rfl⟩ (fun u_2272 H locs hw hP hD hS => ?_)
          obtain ⟨n_2265, n_2266, n_2267, n_2268, n_2269, n_2270⟩ := u_2272
          try dsimp only at hw
          obtain ⟨he_n_2265, he_n_2266, he_n_2267, he_n_2268, he_n_2269, he_n_2270, hw⟩ := hw
          obtain ⟨hr_n_2265, hr_n_2266, hr_n_2267, hr_n_2268, hr_n_2269, hf_2274, hf_2275⟩ := hw
          refine lv_aload_n hx hb dX12_readFeature_96 rfl (lv_at hl 3 rfl) ?_
          refine va_get (D := G) (ci := 12) (v := .int n_2232) (C := RX12) (T := TX12) (N := 65) hx hb hts inT12 hown hK hP 4 rfl rfl 12 (by decide) (hts _ tw_1897) (fun _ h9 => h9) rfl dX12_readFeature_97 ?_
          refine lv_if_le (tgt := 104) hx hb dX12_readFeature_100 (by decide) (fun c_2276 => ?_) (fun h9 => (z_no (by have h8 := z_fgtF h9; omega)))
          have b_2277 := z_fleT c_2276
          have hX_2278 : F_r_readFeature m_textEnd m_bad m_badAt m_token m_at m_behind m_number m_letters m_word g_tape g_c g_words g_hasFeels = F_r_readFeature_C104 g_c g_hasFeels r_2153 r_2240 (1 : Int32) n_2232 n_2233 n_2265 n_2266 n_2267 n_2268 n_2269 n_2270 n_2152 := by
            refine (F_r_readFeature_s ..).trans ?_
            try (extract_lets -merge -useContext +onlyGivenNames y9; have e9 : x_2141 = y9 := (by first | exact he_x_2141 | exact he_x_2141.symm); clear_value y9; subst e9)
            refine (if_pos c_2142).trans ?_
            extract_lets -merge -useContext +onlyGivenNames w9 y2_0 y2_1 y2_2 y2_3 y2_4 y2_5 y2_6 y2_7 y2_8 y2_9; have e9 : (r_2153, n_2144, n_2145, n_2146, n_2147, n_2148, n_2149, n_2150, n_2151, n_2152) = w9 := ((z_tS he_r_2153 (z_tS he_n_2144 (z_tS he_n_2145 (z_tS he_n_2146 (z_tS he_n_2147 (z_tS he_n_2148 (z_tS he_n_2149 (z_tS he_n_2150 (z_tS he_n_2151 he_n_2152.symm)))))))))).symm; clear_value w9; subst e9
            extract_lets -merge -useContext +onlyGivenNames w9 y9; have e9 : r_2161 = w9 := he_r_2161; clear_value w9; subst e9
            refine (if_pos c_2165).trans ?_
            extract_lets -merge -useContext +onlyGivenNames w9 y5_0 y5_1 y5_2 y5_3 y5_4 y5_5; have e9 : (n_2220, n_2221, n_2222, n_2223, n_2224, n_2225) = w9 := ((z_tS he_n_2220 (z_tS he_n_2221 (z_tS he_n_2222 (z_tS he_n_2223 (z_tS he_n_2224 he_n_2225.symm)))))).symm; clear_value w9; subst e9
            extract_lets -merge -useContext +onlyGivenNames w9 y6_0 y6_1 y6_2 y6_3 y6_4 y6_5 y6_6 y6_7 y6_8; have e9 : (r_2240, n_2232, n_2233, n_2234, n_2235, n_2236, n_2237, n_2238, n_2239) = w9 := ((z_tS he_r_2240 (z_tS he_n_2232 (z_tS he_n_2233 (z_tS he_n_2234 (z_tS he_n_2235 (z_tS he_n_2236 (z_tS he_n_2237 (z_tS he_n_2238 he_n_2239.symm))))))))).symm; clear_value w9; subst e9
            refine (if_pos c_2249).trans ?_
            extract_lets -merge -useContext +onlyGivenNames w9 y9; have e9 : r_2255 = w9 := he_r_2255; clear_value w9; subst e9
            refine (if_pos c_2259).trans ?_
            extract_lets -merge -useContext +onlyGivenNames w9 y10_0 y10_1 y10_2 y10_3 y10_4 y10_5; have e9 : (n_2265, n_2266, n_2267, n_2268, n_2269, n_2270) = w9 := ((z_tS he_n_2265 (z_tS he_n_2266 (z_tS he_n_2267 (z_tS he_n_2268 (z_tS he_n_2269 he_n_2270.symm)))))).symm; clear_value w9; subst e9
            exact rfl
          have hP := hP.sub (ws' := [(h0, .inr (12, [.int m_status, .int m_thrown, .long m_above, .long m_under, .ref a_traySort, .ref a_trayMany, .ref a_numbers, .ref a_tape, .int m_taped, .int m_textEnd, .int m_faultKind, .int m_faultAt, .int n_2232, .int n_2233, .int n_2265, .int n_2266, .int n_2267, .int n_2268, .int n_2269, .long n_2270, .ref a_c, .ref a_words, .int m_markMany, .ref a_there, .ref a_tried, .ref a_best, .ref a_found, .int m_thereMany, .int m_foundMany, .int m_orderHow, .int m_orderRing, .int m_orderMany, .int m_hasBest, .long m_bestTop, .long m_bestBy, .ref a_weights, .ref a_shared, .int m_random, .int m_truePlace, .int m_trueWay, .int m_seconds, .int m_done, .int m_feelings, .int m_tries, .int m_leftOver, .int m_playDoor, .int m_playRing, .int m_isOpen, .int m_isOver, .int m_wasTried, .int m_hasPlayed, .ref a_feltNow, .ref a_last, .ref a_kept, .int m_hasSeconds, .int m_hasTurned, .int m_hasRound, .ref a_hasFeels, .ref a_isOn, .int m_firstAct, .long m_meanTop, .long m_meanBy, .ref a_order, .int m_rowMany, .int m_newSteps])), (a_tape, .inl (cA.1 2, 900, .inl g_tape)), (a_c, .inl (cA.1 0, 1825, .inl g_c)), (a_words, .inl (cA.1 1, 105, .inr (.inl n_2152))), (a_hasFeels, .inl (cA.1 3, 3, .inl g_hasFeels)), (a_isOn, .inl (cA.1 3, 10, .inl g_isOn))]) [4, 5, 2, 3, 0, 1] rfl
          have hD := hD.sub (ws' := [(h0, .inr (12, [.int m_status, .int m_thrown, .long m_above, .long m_under, .ref a_traySort, .ref a_trayMany, .ref a_numbers, .ref a_tape, .int m_taped, .int m_textEnd, .int m_faultKind, .int m_faultAt, .int n_2232, .int n_2233, .int n_2265, .int n_2266, .int n_2267, .int n_2268, .int n_2269, .long n_2270, .ref a_c, .ref a_words, .int m_markMany, .ref a_there, .ref a_tried, .ref a_best, .ref a_found, .int m_thereMany, .int m_foundMany, .int m_orderHow, .int m_orderRing, .int m_orderMany, .int m_hasBest, .long m_bestTop, .long m_bestBy, .ref a_weights, .ref a_shared, .int m_random, .int m_truePlace, .int m_trueWay, .int m_seconds, .int m_done, .int m_feelings, .int m_tries, .int m_leftOver, .int m_playDoor, .int m_playRing, .int m_isOpen, .int m_isOver, .int m_wasTried, .int m_hasPlayed, .ref a_feltNow, .ref a_last, .ref a_kept, .int m_hasSeconds, .int m_hasTurned, .int m_hasRound, .ref a_hasFeels, .ref a_isOn, .int m_firstAct, .long m_meanTop, .long m_meanBy, .ref a_order, .int m_rowMany, .int m_newSteps])), (a_tape, .inl (cA.1 2, 900, .inl g_tape)), (a_c, .inl (cA.1 0, 1825, .inl g_c)), (a_words, .inl (cA.1 1, 105, .inr (.inl n_2152))), (a_hasFeels, .inl (cA.1 3, 3, .inl g_hasFeels)), (a_isOn, .inl (cA.1 3, 10, .inl g_isOn))]) [4, 5, 2, 3, 0, 1] (by decide) rfl
          exact hct_104 r_2153 r_2240 1 n_2232 n_2233 n_2265 n_2266 n_2267 n_2268 n_2269 n_2270 n_2152 H locs ls hr_r_2153 (by omega) (by decide +kernel) (by omega) hr_n_2265 hr_n_2266 hr_n_2267 hr_n_2268 hr_n_2269 hNW0 hNF0 (by omega) (by omega) (by omega) (by omega) hX_2278 hP hD hS (lv_sub hl [3, 2, 1, 0] rfl)
  · have b_2279 := z_fltF c_2142
    refine lv_aload_n hx hb dX12_readFeature_12 rfl (lv_at hl 0 rfl) ?_
    refine va_get (D := G) (ci := 12) (v := .ref a_c) (C := RX12) (T := TX12) (N := 65) hx hb hts inT12 hown hK hP 0 rfl rfl 20 (by decide) (hts _ tw_1905) (fun _ h9 => h9) rfl dX12_readFeature_13 ?_
    refine lv_sipush (v := 1461) hx hb dX12_readFeature_16 (by decide) ?_
    refine va_iald hx hb hK hP 2 0 rfl rfl (z_in (i := 1461) (n := 1825) (by decide +kernel) (by decide +kernel)) dX12_readFeature_19 ?_
    refine lv_topi (fun x_2280 he_x_2280 => ?_)
    have hr_x_2280 := z_ctk hC_g_c he_x_2280 (k := 1461) (lo := 0) (hi := 10) (by decide +kernel) (by decide +kernel) (by decide +kernel)
    have hv_x_2280 := z_cv he_x_2280 (k := 1461) (by decide +kernel)
    refine lv_if_le (tgt := 33) hx hb dX12_readFeature_20 (by decide) (fun c_2281 => ?_) (fun c_2281 => ?_)
    · have b_2282 := z_fleT c_2281
      refine lv_aload_n hx hb dX12_readFeature_33 rfl (lv_at hl 0 rfl) ?_
      refine lv_iconst (v := 0) hx hb dX12_readFeature_34 (by decide) ?_
      refine lv_iconst (v := 3) hx hb dX12_readFeature_35 (by decide) ?_
      refine lv_iconst (v := 0) hx hb dX12_readFeature_36 (by decide) ?_
      refine z_callVi (As := [.int 0, .int 3, .int 0]) (rest := []) (wr := [(a_hasFeels, .inl (cA.1 3, 3, .inl g_hasFeels)), (a_isOn, .inl (cA.1 3, 10, .inl g_isOn))]) ⟨hx, hb, hml, hown, hts⟩ hK hE hT hP hD hS hA (r_readNew_0 l G cA h0 m_status m_thrown m_above m_under a_traySort a_trayMany a_numbers a_tape m_taped m_textEnd m_faultKind m_faultAt m_bad m_badAt m_token m_at m_behind m_number m_letters m_word a_c a_words m_markMany a_there a_tried a_best a_found m_thereMany m_foundMany m_orderHow m_orderRing m_orderMany m_hasBest m_bestTop m_bestBy a_weights a_shared m_random m_truePlace m_trueWay m_seconds m_done m_feelings m_tries m_leftOver m_playDoor m_playRing m_isOpen m_isOver m_wasTried m_hasPlayed a_feltNow a_last a_kept m_hasSeconds m_hasTurned m_hasRound a_hasFeels a_isOn m_firstAct m_meanTop m_meanBy a_order m_rowMany m_newSteps g_tape g_c g_words hr_m_textEnd hr_m_at hr_m_behind (z_rgw hr_m_bad (by decide) (by decide)) hr_m_token hr_m_number hr_m_letters hC_g_c) lk_RX12_207 ⟨rfl, rfl⟩ ⟨Nat.le_of_ble_eq_true rfl, Nat.le_of_ble_eq_true rfl⟩ 12 rfl rfl rfl [0, 1, 2, 3] [4, 5] rfl rfl (by decide) rfl hl.1 rfl (lv_room (Nat.le_of_ble_eq_true rfl)) dX12_readFeature_37 ⟨Nat.le_of_ble_eq_true rfl, Nat.le_of_ble_eq_true rfl⟩ (fun r_2292 u_2293 H locs hw hP hD hS => ?_)
      obtain ⟨n_2283, n_2284, n_2285, n_2286, n_2287, n_2288, n_2289, n_2290, n_2291⟩ := u_2293
      try dsimp only at hw
      obtain ⟨he_r_2292, he_n_2283, he_n_2284, he_n_2285, he_n_2286, he_n_2287, he_n_2288, he_n_2289, he_n_2290, he_n_2291, hw⟩ := hw
      obtain ⟨hr_r_2292, hr_n_2283, hr_n_2285, hr_n_2286, hr_n_2287, hr_n_2288, hr_n_2289, hf_2295, hf_2296, hf_2297, hf_2298, hf_2299⟩ := hw
      refine lv_istore_n (lv' := [(1, .int r_2292), (0, .ref h0)]) hx hb dX12_readFeature_40 rfl hl (by decide) rfl (fun ls hl => ?_)
      refine lv_aload_n hx hb dX12_readFeature_41 rfl (lv_at hl 1 rfl) ?_
      refine lv_aload_n hx hb dX12_readFeature_42 rfl (lv_at hl 1 rfl) ?_
      refine z_callVi (As := []) (rest := [.ref h0]) (wr := [(a_hasFeels, .inl (cA.1 3, 3, .inl g_hasFeels)), (a_isOn, .inl (cA.1 3, 10, .inl g_isOn)), (a_tape, .inl (cA.1 2, 900, .inl g_tape)), (a_c, .inl (cA.1 0, 1825, .inl g_c)), (a_words, .inl (cA.1 1, 105, .inr (.inl n_2291)))]) ⟨hx, hb, hml, hown, hts⟩ hK hE hT hP hD hS hA (r_houseWord l G cA h0 m_status m_thrown m_above m_under a_traySort a_trayMany a_numbers a_tape m_taped m_textEnd m_faultKind m_faultAt n_2283 n_2284 n_2285 n_2286 n_2287 n_2288 n_2289 n_2290 a_c a_words m_markMany a_there a_tried a_best a_found m_thereMany m_foundMany m_orderHow m_orderRing m_orderMany m_hasBest m_bestTop m_bestBy a_weights a_shared m_random m_truePlace m_trueWay m_seconds m_done m_feelings m_tries m_leftOver m_playDoor m_playRing m_isOpen m_isOver m_wasTried m_hasPlayed a_feltNow a_last a_kept m_hasSeconds m_hasTurned m_hasRound a_hasFeels a_isOn m_firstAct m_meanTop m_meanBy a_order m_rowMany m_newSteps hr_n_2285) lk_RX12_170 ⟨rfl, rfl⟩ ⟨Nat.le_of_ble_eq_true rfl, Nat.le_of_ble_eq_true rfl⟩ 12 rfl rfl rfl [2] [0, 1, 3, 4, 5] rfl rfl (by decide) rfl hl.1 rfl (lv_room (Nat.le_of_ble_eq_true rfl)) dX12_readFeature_43 ⟨Nat.le_of_ble_eq_true rfl, Nat.le_of_ble_eq_true rfl⟩ (fun r_2300 u_2301 H locs hw hP hD hS => ?_)
      obtain ⟨he_r_2300, hw⟩ := hw
      obtain ⟨hr_r_2300, hf_2303⟩ := hw
      refine lv_bipush (v := 8) hx hb dX12_readFeature_46 (by decide) ?_
      refine lv_icmp_ne (tgt := 55) hx hb dX12_readFeature_48 (by decide) (fun c_2304 => ?_) (fun c_2304 => ?_)
      · have b_2305 := z_fneT c_2304
        refine lv_iconst (v := 0) hx hb dX12_readFeature_55 (by decide) ?_
        refine z_callVv (As := [.int 0]) (rest := []) (wr := [(a_hasFeels, .inl (cA.1 3, 3, .inl g_hasFeels)), (a_isOn, .inl (cA.1 3, 10, .inl g_isOn)), (a_tape, .inl (cA.1 2, 900, .inl g_tape)), (a_c, .inl (cA.1 0, 1825, .inl g_c)), (a_words, .inl (cA.1 1, 105, .inr (.inl n_2291)))]) ⟨hx, hb, hml, hown, hts⟩ hK hE hT hP hD hS hA (r_must_0 l G cA h0 m_status m_thrown m_above m_under a_traySort a_trayMany a_numbers a_tape m_taped m_textEnd m_faultKind m_faultAt n_2283 n_2284 n_2285 n_2286 n_2287 n_2288 n_2289 n_2290 a_c a_words m_markMany a_there a_tried a_best a_found m_thereMany m_foundMany m_orderHow m_orderRing m_orderMany m_hasBest m_bestTop m_bestBy a_weights a_shared m_random m_truePlace m_trueWay m_seconds m_done m_feelings m_tries m_leftOver m_playDoor m_playRing m_isOpen m_isOver m_wasTried m_hasPlayed a_feltNow a_last a_kept m_hasSeconds m_hasTurned m_hasRound a_hasFeels a_isOn m_firstAct m_meanTop m_meanBy a_order m_rowMany m_newSteps hr_n_2286 hr_n_2283 hr_n_2285) lk_RX12_210 ⟨rfl, rfl⟩ ⟨Nat.le_of_ble_eq_true rfl, Nat.le_of_ble_eq_true rfl⟩ 12 rfl rfl rfl [5] [0, 1, 2, 3, 4] rfl rfl (by decide) rfl hl.1 rfl (lv_room (Nat.le_of_ble_eq_true rfl)) dX12_readFeature_56 ⟨Nat.le_of_ble_eq_true rfl, Nat.le_of_ble_eq_true rfl⟩ (fun u_2309 H locs hw hP hD hS => ?_)
        obtain ⟨n_2306, n_2307⟩ := u_2309
        try dsimp only at hw
        obtain ⟨he_n_2306, he_n_2307, hw⟩ := hw
        have hr_n_2306 := hw
        refine lv_aload_n hx hb dX12_readFeature_59 rfl (lv_at hl 1 rfl) ?_
        refine lv_iconst (v := 2) hx hb dX12_readFeature_60 (by decide) ?_
        refine lv_iconst (v := 4) hx hb dX12_readFeature_61 (by decide) ?_
        refine z_callVi (As := [.int 2, .int 4]) (rest := []) (wr := [(a_hasFeels, .inl (cA.1 3, 3, .inl g_hasFeels)), (a_isOn, .inl (cA.1 3, 10, .inl g_isOn)), (a_c, .inl (cA.1 0, 1825, .inl g_c)), (a_words, .inl (cA.1 1, 105, .inr (.inl n_2291)))]) ⟨hx, hb, hml, hown, hts⟩ hK hE hT hP hD hS hA (r_count l G cA h0 m_status m_thrown m_above m_under a_traySort a_trayMany a_numbers a_tape m_taped m_textEnd m_faultKind m_faultAt n_2306 n_2307 n_2285 n_2286 n_2287 n_2288 n_2289 n_2290 a_c a_words m_markMany a_there a_tried a_best a_found m_thereMany m_foundMany m_orderHow m_orderRing m_orderMany m_hasBest m_bestTop m_bestBy a_weights a_shared m_random m_truePlace m_trueWay m_seconds m_done m_feelings m_tries m_leftOver m_playDoor m_playRing m_isOpen m_isOver m_wasTried m_hasPlayed a_feltNow a_last a_kept m_hasSeconds m_hasTurned m_hasRound a_hasFeels a_isOn m_firstAct m_meanTop m_meanBy a_order m_rowMany m_newSteps g_tape 2 4 (by decide +kernel) (by decide +kernel) hr_m_textEnd hr_n_2286 hr_n_2287 (z_rgw hr_n_2306 (by decide) (by decide)) hr_n_2285 hr_n_2288 hr_n_2289) lk_RX12_214 ⟨rfl, rfl⟩ ⟨Nat.le_of_ble_eq_true rfl, Nat.le_of_ble_eq_true rfl⟩ 12 rfl rfl rfl [5, 2] [0, 1, 3, 4] rfl rfl (by decide) rfl hl.1 rfl (lv_room (Nat.le_of_ble_eq_true rfl)) dX12_readFeature_62 ⟨Nat.le_of_ble_eq_true rfl, Nat.le_of_ble_eq_true rfl⟩ (fun r_2319 u_2320 H locs hw hP hD hS => ?_)
        obtain ⟨n_2311, n_2312, n_2313, n_2314, n_2315, n_2316, n_2317, n_2318⟩ := u_2320
        try dsimp only at hw
        obtain ⟨he_r_2319, he_n_2311, he_n_2312, he_n_2313, he_n_2314, he_n_2315, he_n_2316, he_n_2317, he_n_2318, hw⟩ := hw
        obtain ⟨hr_r_2319, hr_n_2311, hr_n_2313, hr_n_2314, hr_n_2315, hr_n_2316, hr_n_2317, hf_2322, hf_2323, hf_2324, hf_2325, hf_2326, hf_2327⟩ := hw
        refine lv_istore_n (lv' := [(2, .int r_2319), (1, .int r_2292), (0, .ref h0)]) hx hb dX12_readFeature_65 rfl hl (by decide) rfl (fun ls hl => ?_)
        refine lv_aload_n hx hb dX12_readFeature_66 rfl (lv_at hl 2 rfl) ?_
        refine va_get (D := G) (ci := 12) (v := .int n_2311) (C := RX12) (T := TX12) (N := 65) hx hb hts inT12 hown hK hP 4 rfl rfl 12 (by decide) (hts _ tw_1897) (fun _ h9 => h9) rfl dX12_readFeature_67 ?_
        refine lv_if_ne (tgt := 86) hx hb dX12_readFeature_70 (by decide) (fun c_2328 => ?_) (fun c_2328 => ?_)
        · have b_2329 := z_fneT c_2328
          refine lv_iconst (v := 0) hx hb dX12_readFeature_86 (by decide) ?_
          refine lv_istore_n (lv' := [(3, .int 0), (2, .int r_2319), (1, .int r_2292), (0, .ref h0)]) hx hb dX12_readFeature_87 rfl hl (by decide) rfl (fun ls hl => ?_)
          refine lv_iload_n hx hb dX12_readFeature_88 rfl (lv_at hl 0 rfl) ?_
          refine lv_if_eq (tgt := 96) hx hb dX12_readFeature_89 (by decide) (fun _ => ?_) (fun h9 => absurd (by decide +kernel) h9)
          refine lv_aload_n hx hb dX12_readFeature_96 rfl (lv_at hl 3 rfl) ?_
          refine va_get (D := G) (ci := 12) (v := .int n_2311) (C := RX12) (T := TX12) (N := 65) hx hb hts inT12 hown hK hP 4 rfl rfl 12 (by decide) (hts _ tw_1897) (fun _ h9 => h9) rfl dX12_readFeature_97 ?_
          refine lv_if_le (tgt := 104) hx hb dX12_readFeature_100 (by decide) (fun h9 => (z_no (by have h8 := z_fleT h9; omega))) (fun c_2330 => ?_)
          have b_2331 := z_fgtF c_2330
          have hpost : (0 ≤ n_2311.toInt ∧ n_2311.toInt ≤ 9) ∧ (0 ≤ n_2313.toInt ∧ n_2313.toInt ≤ 4) ∧ (0 ≤ n_2314.toInt ∧ n_2314.toInt ≤ 900) ∧ (0 ≤ n_2315.toInt ∧ n_2315.toInt ≤ 900) ∧ (0 ≤ n_2316.toInt ∧ n_2316.toInt ≤ 9999) ∧ (0 ≤ n_2317.toInt ∧ n_2317.toInt ≤ 900) ∧ (zC g_c) ∧ (zRg 3 0 1 g_hasFeels) ∧ (zNw g_c g_isOn) ∧ (m_behind.toInt ≤ n_2315.toInt) ∧ (0 < m_bad.toInt → 0 < n_2311.toInt) ∧ (n_2311.toInt ≤ 0 → n_2313.toInt = 0 ∨ m_behind.toInt < n_2315.toInt) ∧ (n_2311.toInt ≤ 0 → n_2313.toInt = 3 → n_2316.toInt = 59 → zNf g_c) := ⟨hr_n_2311, hr_n_2313, hr_n_2314, hr_n_2315, hr_n_2316, hr_n_2317, hC_g_c, hC_g_hasFeels, hNW0, (by omega), (by omega), (by omega), (fun _ _ _ => hNF0)⟩
          have hX_2332 : F_r_readFeature m_textEnd m_bad m_badAt m_token m_at m_behind m_number m_letters m_word g_tape g_c g_words g_hasFeels = ((n_2311, n_2312, n_2313, n_2314, n_2315, n_2316, n_2317, n_2318, g_c, n_2291, g_hasFeels) : Int32 × Int32 × Int32 × Int32 × Int32 × Int32 × Int32 × Int64 × (Nat → Int32) × (Nat → Int64) × (Nat → Int32)) := by
            refine (F_r_readFeature_s ..).trans ?_
            try (extract_lets -merge -useContext +onlyGivenNames y9; have e9 : x_2141 = y9 := (by first | exact he_x_2141 | exact he_x_2141.symm); clear_value y9; subst e9)
            refine (if_neg c_2142).trans ?_
            try (extract_lets -merge -useContext +onlyGivenNames y9; have e9 : x_2280 = y9 := (by first | exact he_x_2280 | exact he_x_2280.symm); clear_value y9; subst e9)
            refine (if_pos c_2281).trans ?_
            extract_lets -merge -useContext +onlyGivenNames w9 y4_0 y4_1 y4_2 y4_3 y4_4 y4_5 y4_6 y4_7 y4_8 y4_9; have e9 : (r_2292, n_2283, n_2284, n_2285, n_2286, n_2287, n_2288, n_2289, n_2290, n_2291) = w9 := ((z_tS he_r_2292 (z_tS he_n_2283 (z_tS he_n_2284 (z_tS he_n_2285 (z_tS he_n_2286 (z_tS he_n_2287 (z_tS he_n_2288 (z_tS he_n_2289 (z_tS he_n_2290 he_n_2291.symm)))))))))).symm; clear_value w9; subst e9
            extract_lets -merge -useContext +onlyGivenNames w9 y9; have e9 : r_2300 = w9 := he_r_2300; clear_value w9; subst e9
            refine (if_neg c_2304).trans ?_
            extract_lets -merge -useContext +onlyGivenNames w9 y7_0 y7_1; have e9 : (n_2306, n_2307) = w9 := ((z_tS he_n_2306 he_n_2307.symm)).symm; clear_value w9; subst e9
            extract_lets -merge -useContext +onlyGivenNames w9 y8_0 y8_1 y8_2 y8_3 y8_4 y8_5 y8_6 y8_7 y8_8; have e9 : (r_2319, n_2311, n_2312, n_2313, n_2314, n_2315, n_2316, n_2317, n_2318) = w9 := ((z_tS he_r_2319 (z_tS he_n_2311 (z_tS he_n_2312 (z_tS he_n_2313 (z_tS he_n_2314 (z_tS he_n_2315 (z_tS he_n_2316 (z_tS he_n_2317 he_n_2318.symm))))))))).symm; clear_value w9; subst e9
            refine (if_neg c_2328).trans ?_
            exact rfl
          exact hret _ _ _ _ _ (n_2311, n_2312, n_2313, n_2314, n_2315, n_2316, n_2317, n_2318, g_c, n_2291, g_hasFeels) [4, 5, 2, 3, 0, 1] hP hD hS rfl (by decide) dX12_readFeature_103 ⟨(congrArg (fun z9 => z9.1) hX_2332).symm, (congrArg (fun z9 => z9.2.1) hX_2332).symm, (congrArg (fun z9 => z9.2.2.1) hX_2332).symm, (congrArg (fun z9 => z9.2.2.2.1) hX_2332).symm, (congrArg (fun z9 => z9.2.2.2.2.1) hX_2332).symm, (congrArg (fun z9 => z9.2.2.2.2.2.1) hX_2332).symm, (congrArg (fun z9 => z9.2.2.2.2.2.2.1) hX_2332).symm, (congrArg (fun z9 => z9.2.2.2.2.2.2.2.1) hX_2332).symm, (congrArg (fun z9 => z9.2.2.2.2.2.2.2.2.1) hX_2332).symm, (congrArg (fun z9 => z9.2.2.2.2.2.2.2.2.2.1) hX_2332).symm, (congrArg (fun z9 => z9.2.2.2.2.2.2.2.2.2.2) hX_2332).symm, hpost⟩
        · have b_2333 := z_feqF c_2328
          refine lv_aload_n hx hb dX12_readFeature_73 rfl (lv_at hl 2 rfl) ?_
          refine z_callVi (As := []) (rest := []) (wr := [(a_hasFeels, .inl (cA.1 3, 3, .inl g_hasFeels)), (a_isOn, .inl (cA.1 3, 10, .inl g_isOn)), (a_c, .inl (cA.1 0, 1825, .inl g_c)), (a_words, .inl (cA.1 1, 105, .inr (.inl n_2291))), (a_tape, .inl (cA.1 2, 900, .inl g_tape))]) ⟨hx, hb, hml, hown, hts⟩ hK hE hT hP hD hS hA (r_houseWord l G cA h0 m_status m_thrown m_above m_under a_traySort a_trayMany a_numbers a_tape m_taped m_textEnd m_faultKind m_faultAt n_2311 n_2312 n_2313 n_2314 n_2315 n_2316 n_2317 n_2318 a_c a_words m_markMany a_there a_tried a_best a_found m_thereMany m_foundMany m_orderHow m_orderRing m_orderMany m_hasBest m_bestTop m_bestBy a_weights a_shared m_random m_truePlace m_trueWay m_seconds m_done m_feelings m_tries m_leftOver m_playDoor m_playRing m_isOpen m_isOver m_wasTried m_hasPlayed a_feltNow a_last a_kept m_hasSeconds m_hasTurned m_hasRound a_hasFeels a_isOn m_firstAct m_meanTop m_meanBy a_order m_rowMany m_newSteps hr_n_2313) lk_RX12_170 ⟨rfl, rfl⟩ ⟨Nat.le_of_ble_eq_true rfl, Nat.le_of_ble_eq_true rfl⟩ 12 rfl rfl rfl [4] [0, 1, 2, 3, 5] rfl rfl (by decide) rfl hl.1 rfl (lv_room (Nat.le_of_ble_eq_true rfl)) dX12_readFeature_74 ⟨Nat.le_of_ble_eq_true rfl, Nat.le_of_ble_eq_true rfl⟩ (fun r_2334 u_2335 H locs hw hP hD hS => ?_)
          obtain ⟨he_r_2334, hw⟩ := hw
          obtain ⟨hr_r_2334, hf_2337⟩ := hw
          refine lv_bipush (v := 6) hx hb dX12_readFeature_77 (by decide) ?_
          refine lv_icmp_ne (tgt := 86) hx hb dX12_readFeature_79 (by decide) (fun c_2338 => ?_) (fun c_2338 => ?_)
          · have b_2339 := z_fneT c_2338
            refine lv_iconst (v := 0) hx hb dX12_readFeature_86 (by decide) ?_
            refine lv_istore_n (lv' := [(3, .int 0), (2, .int r_2319), (1, .int r_2292), (0, .ref h0)]) hx hb dX12_readFeature_87 rfl hl (by decide) rfl (fun ls hl => ?_)
            refine lv_iload_n hx hb dX12_readFeature_88 rfl (lv_at hl 0 rfl) ?_
            refine lv_if_eq (tgt := 96) hx hb dX12_readFeature_89 (by decide) (fun _ => ?_) (fun h9 => absurd (by decide +kernel) h9)
            refine lv_aload_n hx hb dX12_readFeature_96 rfl (lv_at hl 3 rfl) ?_
            refine va_get (D := G) (ci := 12) (v := .int n_2311) (C := RX12) (T := TX12) (N := 65) hx hb hts inT12 hown hK hP 5 rfl rfl 12 (by decide) (hts _ tw_1897) (fun _ h9 => h9) rfl dX12_readFeature_97 ?_
            refine lv_if_le (tgt := 104) hx hb dX12_readFeature_100 (by decide) (fun c_2340 => ?_) (fun h9 => (z_no (by have h8 := z_fgtF h9; omega)))
            have b_2341 := z_fleT c_2340
            have hX_2342 : F_r_readFeature m_textEnd m_bad m_badAt m_token m_at m_behind m_number m_letters m_word g_tape g_c g_words g_hasFeels = F_r_readFeature_C104 g_c g_hasFeels r_2292 r_2319 (0 : Int32) n_2311 n_2312 n_2313 n_2314 n_2315 n_2316 n_2317 n_2318 n_2291 := by
              refine (F_r_readFeature_s ..).trans ?_
              try (extract_lets -merge -useContext +onlyGivenNames y9; have e9 : x_2141 = y9 := (by first | exact he_x_2141 | exact he_x_2141.symm); clear_value y9; subst e9)
              refine (if_neg c_2142).trans ?_
              try (extract_lets -merge -useContext +onlyGivenNames y9; have e9 : x_2280 = y9 := (by first | exact he_x_2280 | exact he_x_2280.symm); clear_value y9; subst e9)
              refine (if_pos c_2281).trans ?_
              extract_lets -merge -useContext +onlyGivenNames w9 y4_0 y4_1 y4_2 y4_3 y4_4 y4_5 y4_6 y4_7 y4_8 y4_9; have e9 : (r_2292, n_2283, n_2284, n_2285, n_2286, n_2287, n_2288, n_2289, n_2290, n_2291) = w9 := ((z_tS he_r_2292 (z_tS he_n_2283 (z_tS he_n_2284 (z_tS he_n_2285 (z_tS he_n_2286 (z_tS he_n_2287 (z_tS he_n_2288 (z_tS he_n_2289 (z_tS he_n_2290 he_n_2291.symm)))))))))).symm; clear_value w9; subst e9
              extract_lets -merge -useContext +onlyGivenNames w9 y9; have e9 : r_2300 = w9 := he_r_2300; clear_value w9; subst e9
              refine (if_neg c_2304).trans ?_
              extract_lets -merge -useContext +onlyGivenNames w9 y7_0 y7_1; have e9 : (n_2306, n_2307) = w9 := ((z_tS he_n_2306 he_n_2307.symm)).symm; clear_value w9; subst e9
              extract_lets -merge -useContext +onlyGivenNames w9 y8_0 y8_1 y8_2 y8_3 y8_4 y8_5 y8_6 y8_7 y8_8; have e9 : (r_2319, n_2311, n_2312, n_2313, n_2314, n_2315, n_2316, n_2317, n_2318) = w9 := ((z_tS he_r_2319 (z_tS he_n_2311 (z_tS he_n_2312 (z_tS he_n_2313 (z_tS he_n_2314 (z_tS he_n_2315 (z_tS he_n_2316 (z_tS he_n_2317 he_n_2318.symm))))))))).symm; clear_value w9; subst e9
              refine (if_pos c_2328).trans ?_
              extract_lets -merge -useContext +onlyGivenNames w9 y9; have e9 : r_2334 = w9 := he_r_2334; clear_value w9; subst e9
              refine (if_neg c_2338).trans ?_
              exact rfl
            have hP := hP.sub (ws' := [(h0, .inr (12, [.int m_status, .int m_thrown, .long m_above, .long m_under, .ref a_traySort, .ref a_trayMany, .ref a_numbers, .ref a_tape, .int m_taped, .int m_textEnd, .int m_faultKind, .int m_faultAt, .int n_2311, .int n_2312, .int n_2313, .int n_2314, .int n_2315, .int n_2316, .int n_2317, .long n_2318, .ref a_c, .ref a_words, .int m_markMany, .ref a_there, .ref a_tried, .ref a_best, .ref a_found, .int m_thereMany, .int m_foundMany, .int m_orderHow, .int m_orderRing, .int m_orderMany, .int m_hasBest, .long m_bestTop, .long m_bestBy, .ref a_weights, .ref a_shared, .int m_random, .int m_truePlace, .int m_trueWay, .int m_seconds, .int m_done, .int m_feelings, .int m_tries, .int m_leftOver, .int m_playDoor, .int m_playRing, .int m_isOpen, .int m_isOver, .int m_wasTried, .int m_hasPlayed, .ref a_feltNow, .ref a_last, .ref a_kept, .int m_hasSeconds, .int m_hasTurned, .int m_hasRound, .ref a_hasFeels, .ref a_isOn, .int m_firstAct, .long m_meanTop, .long m_meanBy, .ref a_order, .int m_rowMany, .int m_newSteps])), (a_tape, .inl (cA.1 2, 900, .inl g_tape)), (a_c, .inl (cA.1 0, 1825, .inl g_c)), (a_words, .inl (cA.1 1, 105, .inr (.inl n_2291))), (a_hasFeels, .inl (cA.1 3, 3, .inl g_hasFeels)), (a_isOn, .inl (cA.1 3, 10, .inl g_isOn))]) [5, 4, 2, 3, 0, 1] rfl
            have hD := hD.sub (ws' := [(h0, .inr (12, [.int m_status, .int m_thrown, .long m_above, .long m_under, .ref a_traySort, .ref a_trayMany, .ref a_numbers, .ref a_tape, .int m_taped, .int m_textEnd, .int m_faultKind, .int m_faultAt, .int n_2311, .int n_2312, .int n_2313, .int n_2314, .int n_2315, .int n_2316, .int n_2317, .long n_2318, .ref a_c, .ref a_words, .int m_markMany, .ref a_there, .ref a_tried, .ref a_best, .ref a_found, .int m_thereMany, .int m_foundMany, .int m_orderHow, .int m_orderRing, .int m_orderMany, .int m_hasBest, .long m_bestTop, .long m_bestBy, .ref a_weights, .ref a_shared, .int m_random, .int m_truePlace, .int m_trueWay, .int m_seconds, .int m_done, .int m_feelings, .int m_tries, .int m_leftOver, .int m_playDoor, .int m_playRing, .int m_isOpen, .int m_isOver, .int m_wasTried, .int m_hasPlayed, .ref a_feltNow, .ref a_last, .ref a_kept, .int m_hasSeconds, .int m_hasTurned, .int m_hasRound, .ref a_hasFeels, .ref a_isOn, .int m_firstAct, .long m_meanTop, .long m_meanBy, .ref a_order, .int m_rowMany, .int m_newSteps])), (a_tape, .inl (cA.1 2, 900, .inl g_tape)), (a_c, .inl (cA.1 0, 1825, .inl g_c)), (a_words, .inl (cA.1 1, 105, .inr (.inl n_2291))), (a_hasFeels, .inl (cA.1 3, 3, .inl g_hasFeels)), (a_isOn, .inl (cA.1 3, 10, .inl g_isOn))]) [5, 4, 2, 3, 0, 1] (by decide) rfl
            exact hct_104 r_2292 r_2319 0 n_2311 n_2312 n_2313 n_2314 n_2315 n_2316 n_2317 n_2318 n_2291 H locs ls hr_r_2292 (by omega) (by decide +kernel) (by omega) hr_n_2313 hr_n_2314 hr_n_2315 hr_n_2316 hr_n_2317 hNW0 hNF0 (by omega) (by omega) (by omega) (by omega) hX_2342 hP hD hS (lv_sub hl [3, 2, 1, 0] rfl)
          · have b_2343 := z_feqF c_2338
            refine lv_iconst (v := 1) hx hb dX12_readFeature_82 (by decide) ?_
            refine lv_goto (tgt := 87) hx hb dX12_readFeature_83 (by decide) ?_
            refine lv_istore_n (lv' := [(3, .int 1), (2, .int r_2319), (1, .int r_2292), (0, .ref h0)]) hx hb dX12_readFeature_87 rfl hl (by decide) rfl (fun ls hl => ?_)
            refine lv_iload_n hx hb dX12_readFeature_88 rfl (lv_at hl 0 rfl) ?_
            refine lv_if_eq (tgt := 96) hx hb dX12_readFeature_89 (by decide) (fun h9 => absurd h9 (by decide +kernel)) (fun _ => ?_)
            refine lv_aload_n hx hb dX12_readFeature_92 rfl (lv_at hl 3 rfl) ?_
            refine z_callVv (As := []) (rest := []) (wr := [(a_hasFeels, .inl (cA.1 3, 3, .inl g_hasFeels)), (a_isOn, .inl (cA.1 3, 10, .inl g_isOn)), (a_c, .inl (cA.1 0, 1825, .inl g_c)), (a_words, .inl (cA.1 1, 105, .inr (.inl n_2291)))]) ⟨hx, hb, hml, hown, hts⟩ hK hE hT hP hD hS hA (r_next2 l G cA h0 m_status m_thrown m_above m_under a_traySort a_trayMany a_numbers a_tape m_taped m_textEnd m_faultKind m_faultAt n_2311 n_2312 n_2313 n_2314 n_2315 n_2316 n_2317 n_2318 a_c a_words m_markMany a_there a_tried a_best a_found m_thereMany m_foundMany m_orderHow m_orderRing m_orderMany m_hasBest m_bestTop m_bestBy a_weights a_shared m_random m_truePlace m_trueWay m_seconds m_done m_feelings m_tries m_leftOver m_playDoor m_playRing m_isOpen m_isOver m_wasTried m_hasPlayed a_feltNow a_last a_kept m_hasSeconds m_hasTurned m_hasRound a_hasFeels a_isOn m_firstAct m_meanTop m_meanBy a_order m_rowMany m_newSteps g_tape hr_m_textEnd hr_n_2314 hr_n_2315 hr_n_2313 hr_n_2316 hr_n_2317) lk_RX12_184 ⟨rfl, rfl⟩ ⟨Nat.le_of_ble_eq_true rfl, Nat.le_of_ble_eq_true rfl⟩ 12 rfl rfl rfl [5, 4] [0, 1, 2, 3] rfl rfl (by decide) rfl hl.1 rfl (lv_room (Nat.le_of_ble_eq_true rfl)) dX12_readFeature_93 ⟨Nat.le_of_ble_eq_true rfl, Nat.le_of_ble_eq_true rfl⟩ (fun u_2351 H locs hw hP hD hS => ?_)
            obtain ⟨n_2344, n_2345, n_2346, n_2347, n_2348, n_2349⟩ := u_2351
            try dsimp only at hw
            obtain ⟨he_n_2344, he_n_2345, he_n_2346, he_n_2347, he_n_2348, he_n_2349, hw⟩ := hw
            obtain ⟨hr_n_2344, hr_n_2345, hr_n_2346, hr_n_2347, hr_n_2348, hf_2353, hf_2354⟩ := hw
            refine lv_aload_n hx hb dX12_readFeature_96 rfl (lv_at hl 3 rfl) ?_
            refine va_get (D := G) (ci := 12) (v := .int n_2311) (C := RX12) (T := TX12) (N := 65) hx hb hts inT12 hown hK hP 4 rfl rfl 12 (by decide) (hts _ tw_1897) (fun _ h9 => h9) rfl dX12_readFeature_97 ?_
            refine lv_if_le (tgt := 104) hx hb dX12_readFeature_100 (by decide) (fun c_2355 => ?_) (fun h9 => (z_no (by have h8 := z_fgtF h9; omega)))
            have b_2356 := z_fleT c_2355
            have hX_2357 : F_r_readFeature m_textEnd m_bad m_badAt m_token m_at m_behind m_number m_letters m_word g_tape g_c g_words g_hasFeels = F_r_readFeature_C104 g_c g_hasFeels r_2292 r_2319 (1 : Int32) n_2311 n_2312 n_2344 n_2345 n_2346 n_2347 n_2348 n_2349 n_2291 := by
              refine (F_r_readFeature_s ..).trans ?_
              try (extract_lets -merge -useContext +onlyGivenNames y9; have e9 : x_2141 = y9 := (by first | exact he_x_2141 | exact he_x_2141.symm); clear_value y9; subst e9)
              refine (if_neg c_2142).trans ?_
              try (extract_lets -merge -useContext +onlyGivenNames y9; have e9 : x_2280 = y9 := (by first | exact he_x_2280 | exact he_x_2280.symm); clear_value y9; subst e9)
              refine (if_pos c_2281).trans ?_
              extract_lets -merge -useContext +onlyGivenNames w9 y4_0 y4_1 y4_2 y4_3 y4_4 y4_5 y4_6 y4_7 y4_8 y4_9; have e9 : (r_2292, n_2283, n_2284, n_2285, n_2286, n_2287, n_2288, n_2289, n_2290, n_2291) = w9 := ((z_tS he_r_2292 (z_tS he_n_2283 (z_tS he_n_2284 (z_tS he_n_2285 (z_tS he_n_2286 (z_tS he_n_2287 (z_tS he_n_2288 (z_tS he_n_2289 (z_tS he_n_2290 he_n_2291.symm)))))))))).symm; clear_value w9; subst e9
              extract_lets -merge -useContext +onlyGivenNames w9 y9; have e9 : r_2300 = w9 := he_r_2300; clear_value w9; subst e9
              refine (if_neg c_2304).trans ?_
              extract_lets -merge -useContext +onlyGivenNames w9 y7_0 y7_1; have e9 : (n_2306, n_2307) = w9 := ((z_tS he_n_2306 he_n_2307.symm)).symm; clear_value w9; subst e9
              extract_lets -merge -useContext +onlyGivenNames w9 y8_0 y8_1 y8_2 y8_3 y8_4 y8_5 y8_6 y8_7 y8_8; have e9 : (r_2319, n_2311, n_2312, n_2313, n_2314, n_2315, n_2316, n_2317, n_2318) = w9 := ((z_tS he_r_2319 (z_tS he_n_2311 (z_tS he_n_2312 (z_tS he_n_2313 (z_tS he_n_2314 (z_tS he_n_2315 (z_tS he_n_2316 (z_tS he_n_2317 he_n_2318.symm))))))))).symm; clear_value w9; subst e9
              refine (if_pos c_2328).trans ?_
              extract_lets -merge -useContext +onlyGivenNames w9 y9; have e9 : r_2334 = w9 := he_r_2334; clear_value w9; subst e9
              refine (if_pos c_2338).trans ?_
              extract_lets -merge -useContext +onlyGivenNames w9 y12_0 y12_1 y12_2 y12_3 y12_4 y12_5; have e9 : (n_2344, n_2345, n_2346, n_2347, n_2348, n_2349) = w9 := ((z_tS he_n_2344 (z_tS he_n_2345 (z_tS he_n_2346 (z_tS he_n_2347 (z_tS he_n_2348 he_n_2349.symm)))))).symm; clear_value w9; subst e9
              exact rfl
            have hP := hP.sub (ws' := [(h0, .inr (12, [.int m_status, .int m_thrown, .long m_above, .long m_under, .ref a_traySort, .ref a_trayMany, .ref a_numbers, .ref a_tape, .int m_taped, .int m_textEnd, .int m_faultKind, .int m_faultAt, .int n_2311, .int n_2312, .int n_2344, .int n_2345, .int n_2346, .int n_2347, .int n_2348, .long n_2349, .ref a_c, .ref a_words, .int m_markMany, .ref a_there, .ref a_tried, .ref a_best, .ref a_found, .int m_thereMany, .int m_foundMany, .int m_orderHow, .int m_orderRing, .int m_orderMany, .int m_hasBest, .long m_bestTop, .long m_bestBy, .ref a_weights, .ref a_shared, .int m_random, .int m_truePlace, .int m_trueWay, .int m_seconds, .int m_done, .int m_feelings, .int m_tries, .int m_leftOver, .int m_playDoor, .int m_playRing, .int m_isOpen, .int m_isOver, .int m_wasTried, .int m_hasPlayed, .ref a_feltNow, .ref a_last, .ref a_kept, .int m_hasSeconds, .int m_hasTurned, .int m_hasRound, .ref a_hasFeels, .ref a_isOn, .int m_firstAct, .long m_meanTop, .long m_meanBy, .ref a_order, .int m_rowMany, .int m_newSteps])), (a_tape, .inl (cA.1 2, 900, .inl g_tape)), (a_c, .inl (cA.1 0, 1825, .inl g_c)), (a_words, .inl (cA.1 1, 105, .inr (.inl n_2291))), (a_hasFeels, .inl (cA.1 3, 3, .inl g_hasFeels)), (a_isOn, .inl (cA.1 3, 10, .inl g_isOn))]) [4, 5, 2, 3, 0, 1] rfl
            have hD := hD.sub (ws' := [(h0, .inr (12, [.int m_status, .int m_thrown, .long m_above, .long m_under, .ref a_traySort, .ref a_trayMany, .ref a_numbers, .ref a_tape, .int m_taped, .int m_textEnd, .int m_faultKind, .int m_faultAt, .int n_2311, .int n_2312, .int n_2344, .int n_2345, .int n_2346, .int n_2347, .int n_2348, .long n_2349, .ref a_c, .ref a_words, .int m_markMany, .ref a_there, .ref a_tried, .ref a_best, .ref a_found, .int m_thereMany, .int m_foundMany, .int m_orderHow, .int m_orderRing, .int m_orderMany, .int m_hasBest, .long m_bestTop, .long m_bestBy, .ref a_weights, .ref a_shared, .int m_random, .int m_truePlace, .int m_trueWay, .int m_seconds, .int m_done, .int m_feelings, .int m_tries, .int m_leftOver, .int m_playDoor, .int m_playRing, .int m_isOpen, .int m_isOver, .int m_wasTried, .int m_hasPlayed, .ref a_feltNow, .ref a_last, .ref a_kept, .int m_hasSeconds, .int m_hasTurned, .int m_hasRound, .ref a_hasFeels, .ref a_isOn, .int m_firstAct, .long m_meanTop, .long m_meanBy, .ref a_order, .int m_rowMany, .int m_newSteps])), (a_tape, .inl (cA.1 2, 900, .inl g_tape)), (a_c, .inl (cA.1 0, 1825, .inl g_c)), (a_words, .inl (cA.1 1, 105, .inr (.inl n_2291))), (a_hasFeels, .inl (cA.1 3, 3, .inl g_hasFeels)), (a_isOn, .inl (cA.1 3, 10, .inl g_isOn))]) [4, 5, 2, 3, 0, 1] (by decide) rfl
            exact hct_104 r_2292 r_2319 1 n_2311 n_2312 n_2344 n_2345 n_2346 n_2347 n_2348 n_2349 n_2291 H locs ls hr_r_2292 (by omega) (by decide +kernel) (by omega) hr_n_2344 hr_n_2345 hr_n_2346 hr_n_2347 hr_n_2348 hNW0 hNF0 (by omega) (by omega) (by omega) (by omega) hX_2357 hP hD hS (lv_sub hl [3, 2, 1, 0] rfl)
      · have b_2358 := z_feqF c_2304
        refine lv_iconst (v := 1) hx hb dX12_readFeature_51 (by decide) ?_
        refine lv_goto (tgt := 56) hx hb dX12_readFeature_52 (by decide) ?_
        refine z_callVv (As := [.int 1]) (rest := []) (wr := [(a_hasFeels, .inl (cA.1 3, 3, .inl g_hasFeels)), (a_isOn, .inl (cA.1 3, 10, .inl g_isOn)), (a_c, .inl (cA.1 0, 1825, .inl g_c)), (a_words, .inl (cA.1 1, 105, .inr (.inl n_2291)))]) ⟨hx, hb, hml, hown, hts⟩ hK hE hT hP hD hS hA (r_must_1 l G cA h0 m_status m_thrown m_above m_under a_traySort a_trayMany a_numbers a_tape m_taped m_textEnd m_faultKind m_faultAt n_2283 n_2284 n_2285 n_2286 n_2287 n_2288 n_2289 n_2290 a_c a_words m_markMany a_there a_tried a_best a_found m_thereMany m_foundMany m_orderHow m_orderRing m_orderMany m_hasBest m_bestTop m_bestBy a_weights a_shared m_random m_truePlace m_trueWay m_seconds m_done m_feelings m_tries m_leftOver m_playDoor m_playRing m_isOpen m_isOver m_wasTried m_hasPlayed a_feltNow a_last a_kept m_hasSeconds m_hasTurned m_hasRound a_hasFeels a_isOn m_firstAct m_meanTop m_meanBy a_order m_rowMany m_newSteps g_tape hr_m_textEnd hr_n_2286 hr_n_2287 hr_n_2283 hr_n_2285 hr_n_2288 hr_n_2289) lk_RX12_210 ⟨rfl, rfl⟩ ⟨Nat.le_of_ble_eq_true rfl, Nat.le_of_ble_eq_true rfl⟩ 12 rfl rfl rfl [5, 2] [0, 1, 3, 4] rfl rfl (by decide) rfl hl.1 rfl (lv_room (Nat.le_of_ble_eq_true rfl)) dX12_readFeature_56 ⟨Nat.le_of_ble_eq_true rfl, Nat.le_of_ble_eq_true rfl⟩ (fun u_2366 H locs hw hP hD hS => ?_)
        obtain ⟨n_2359, n_2360, n_2361, n_2362, n_2363, n_2364⟩ := u_2366
        try dsimp only at hw
        obtain ⟨he_n_2359, he_n_2360, he_n_2361, he_n_2362, he_n_2363, he_n_2364, hw⟩ := hw
        obtain ⟨hr_n_2359, hr_n_2360, hr_n_2361, hr_n_2362, hr_n_2363, hf_2368, hf_2369, hf_2370⟩ := hw
        refine lv_aload_n hx hb dX12_readFeature_59 rfl (lv_at hl 1 rfl) ?_
        refine lv_iconst (v := 2) hx hb dX12_readFeature_60 (by decide) ?_
        refine lv_iconst (v := 4) hx hb dX12_readFeature_61 (by decide) ?_
        refine z_callVi (As := [.int 2, .int 4]) (rest := []) (wr := [(a_hasFeels, .inl (cA.1 3, 3, .inl g_hasFeels)), (a_isOn, .inl (cA.1 3, 10, .inl g_isOn)), (a_c, .inl (cA.1 0, 1825, .inl g_c)), (a_words, .inl (cA.1 1, 105, .inr (.inl n_2291)))]) ⟨hx, hb, hml, hown, hts⟩ hK hE hT hP hD hS hA (r_count l G cA h0 m_status m_thrown m_above m_under a_traySort a_trayMany a_numbers a_tape m_taped m_textEnd m_faultKind m_faultAt n_2283 n_2284 n_2359 n_2360 n_2361 n_2362 n_2363 n_2364 a_c a_words m_markMany a_there a_tried a_best a_found m_thereMany m_foundMany m_orderHow m_orderRing m_orderMany m_hasBest m_bestTop m_bestBy a_weights a_shared m_random m_truePlace m_trueWay m_seconds m_done m_feelings m_tries m_leftOver m_playDoor m_playRing m_isOpen m_isOver m_wasTried m_hasPlayed a_feltNow a_last a_kept m_hasSeconds m_hasTurned m_hasRound a_hasFeels a_isOn m_firstAct m_meanTop m_meanBy a_order m_rowMany m_newSteps g_tape 2 4 (by decide +kernel) (by decide +kernel) hr_m_textEnd hr_n_2360 hr_n_2361 hr_n_2283 hr_n_2359 hr_n_2362 hr_n_2363) lk_RX12_214 ⟨rfl, rfl⟩ ⟨Nat.le_of_ble_eq_true rfl, Nat.le_of_ble_eq_true rfl⟩ 12 rfl rfl rfl [4, 5] [0, 1, 2, 3] rfl rfl (by decide) rfl hl.1 rfl (lv_room (Nat.le_of_ble_eq_true rfl)) dX12_readFeature_62 ⟨Nat.le_of_ble_eq_true rfl, Nat.le_of_ble_eq_true rfl⟩ (fun r_2379 u_2380 H locs hw hP hD hS => ?_)
        obtain ⟨n_2371, n_2372, n_2373, n_2374, n_2375, n_2376, n_2377, n_2378⟩ := u_2380
        try dsimp only at hw
        obtain ⟨he_r_2379, he_n_2371, he_n_2372, he_n_2373, he_n_2374, he_n_2375, he_n_2376, he_n_2377, he_n_2378, hw⟩ := hw
        obtain ⟨hr_r_2379, hr_n_2371, hr_n_2373, hr_n_2374, hr_n_2375, hr_n_2376, hr_n_2377, hf_2382, hf_2383, hf_2384, hf_2385, hf_2386, hf_2387⟩ := hw
        refine lv_istore_n (lv' := [(2, .int r_2379), (1, .int r_2292), (0, .ref h0)]) hx hb dX12_readFeature_65 rfl hl (by decide) rfl (fun ls hl => ?_)
        refine lv_aload_n hx hb dX12_readFeature_66 rfl (lv_at hl 2 rfl) ?_
        refine va_get (D := G) (ci := 12) (v := .int n_2371) (C := RX12) (T := TX12) (N := 65) hx hb hts inT12 hown hK hP 4 rfl rfl 12 (by decide) (hts _ tw_1897) (fun _ h9 => h9) rfl dX12_readFeature_67 ?_
        refine lv_if_ne (tgt := 86) hx hb dX12_readFeature_70 (by decide) (fun c_2388 => ?_) (fun c_2388 => ?_)
        · have b_2389 := z_fneT c_2388
          refine lv_iconst (v := 0) hx hb dX12_readFeature_86 (by decide) ?_
          refine lv_istore_n (lv' := [(3, .int 0), (2, .int r_2379), (1, .int r_2292), (0, .ref h0)]) hx hb dX12_readFeature_87 rfl hl (by decide) rfl (fun ls hl => ?_)
          refine lv_iload_n hx hb dX12_readFeature_88 rfl (lv_at hl 0 rfl) ?_
          refine lv_if_eq (tgt := 96) hx hb dX12_readFeature_89 (by decide) (fun _ => ?_) (fun h9 => absurd (by decide +kernel) h9)
          refine lv_aload_n hx hb dX12_readFeature_96 rfl (lv_at hl 3 rfl) ?_
          refine va_get (D := G) (ci := 12) (v := .int n_2371) (C := RX12) (T := TX12) (N := 65) hx hb hts inT12 hown hK hP 4 rfl rfl 12 (by decide) (hts _ tw_1897) (fun _ h9 => h9) rfl dX12_readFeature_97 ?_
          refine lv_if_le (tgt := 104) hx hb dX12_readFeature_100 (by decide) (fun h9 => (z_no (by have h8 := z_fleT h9; omega))) (fun c_2390 => ?_)
          have b_2391 := z_fgtF c_2390
          have hpost : (0 ≤ n_2371.toInt ∧ n_2371.toInt ≤ 9) ∧ (0 ≤ n_2373.toInt ∧ n_2373.toInt ≤ 4) ∧ (0 ≤ n_2374.toInt ∧ n_2374.toInt ≤ 900) ∧ (0 ≤ n_2375.toInt ∧ n_2375.toInt ≤ 900) ∧ (0 ≤ n_2376.toInt ∧ n_2376.toInt ≤ 9999) ∧ (0 ≤ n_2377.toInt ∧ n_2377.toInt ≤ 900) ∧ (zC g_c) ∧ (zRg 3 0 1 g_hasFeels) ∧ (zNw g_c g_isOn) ∧ (m_behind.toInt ≤ n_2375.toInt) ∧ (0 < m_bad.toInt → 0 < n_2371.toInt) ∧ (n_2371.toInt ≤ 0 → n_2373.toInt = 0 ∨ m_behind.toInt < n_2375.toInt) ∧ (n_2371.toInt ≤ 0 → n_2373.toInt = 3 → n_2376.toInt = 59 → zNf g_c) := ⟨hr_n_2371, hr_n_2373, hr_n_2374, hr_n_2375, hr_n_2376, hr_n_2377, hC_g_c, hC_g_hasFeels, hNW0, (by omega), (by omega), (by omega), (fun _ _ _ => hNF0)⟩
          have hX_2392 : F_r_readFeature m_textEnd m_bad m_badAt m_token m_at m_behind m_number m_letters m_word g_tape g_c g_words g_hasFeels = ((n_2371, n_2372, n_2373, n_2374, n_2375, n_2376, n_2377, n_2378, g_c, n_2291, g_hasFeels) : Int32 × Int32 × Int32 × Int32 × Int32 × Int32 × Int32 × Int64 × (Nat → Int32) × (Nat → Int64) × (Nat → Int32)) := by
            refine (F_r_readFeature_s ..).trans ?_
            try (extract_lets -merge -useContext +onlyGivenNames y9; have e9 : x_2141 = y9 := (by first | exact he_x_2141 | exact he_x_2141.symm); clear_value y9; subst e9)
            refine (if_neg c_2142).trans ?_
            try (extract_lets -merge -useContext +onlyGivenNames y9; have e9 : x_2280 = y9 := (by first | exact he_x_2280 | exact he_x_2280.symm); clear_value y9; subst e9)
            refine (if_pos c_2281).trans ?_
            extract_lets -merge -useContext +onlyGivenNames w9 y4_0 y4_1 y4_2 y4_3 y4_4 y4_5 y4_6 y4_7 y4_8 y4_9; have e9 : (r_2292, n_2283, n_2284, n_2285, n_2286, n_2287, n_2288, n_2289, n_2290, n_2291) = w9 := ((z_tS he_r_2292 (z_tS he_n_2283 (z_tS he_n_2284 (z_tS he_n_2285 (z_tS he_n_2286 (z_tS he_n_2287 (z_tS he_n_2288 (z_tS he_n_2289 (z_tS he_n_2290 he_n_2291.symm)))))))))).symm; clear_value w9; subst e9
            extract_lets -merge -useContext +onlyGivenNames w9 y9; have e9 : r_2300 = w9 := he_r_2300; clear_value w9; subst e9
            refine (if_pos c_2304).trans ?_
            extract_lets -merge -useContext +onlyGivenNames w9 y7_0 y7_1 y7_2 y7_3 y7_4 y7_5; have e9 : (n_2359, n_2360, n_2361, n_2362, n_2363, n_2364) = w9 := ((z_tS he_n_2359 (z_tS he_n_2360 (z_tS he_n_2361 (z_tS he_n_2362 (z_tS he_n_2363 he_n_2364.symm)))))).symm; clear_value w9; subst e9
            extract_lets -merge -useContext +onlyGivenNames w9 y8_0 y8_1 y8_2 y8_3 y8_4 y8_5 y8_6 y8_7 y8_8; have e9 : (r_2379, n_2371, n_2372, n_2373, n_2374, n_2375, n_2376, n_2377, n_2378) = w9 := ((z_tS he_r_2379 (z_tS he_n_2371 (z_tS he_n_2372 (z_tS he_n_2373 (z_tS he_n_2374 (z_tS he_n_2375 (z_tS he_n_2376 (z_tS he_n_2377 he_n_2378.symm))))))))).symm; clear_value w9; subst e9
            refine (if_neg c_2388).trans ?_
            exact rfl
          exact hret _ _ _ _ _ (n_2371, n_2372, n_2373, n_2374, n_2375, n_2376, n_2377, n_2378, g_c, n_2291, g_hasFeels) [4, 5, 2, 3, 0, 1] hP hD hS rfl (by decide) dX12_readFeature_103 ⟨(congrArg (fun z9 => z9.1) hX_2392).symm, (congrArg (fun z9 => z9.2.1) hX_2392).symm, (congrArg (fun z9 => z9.2.2.1) hX_2392).symm, (congrArg (fun z9 => z9.2.2.2.1) hX_2392).symm, (congrArg (fun z9 => z9.2.2.2.2.1) hX_2392).symm, (congrArg (fun z9 => z9.2.2.2.2.2.1) hX_2392).symm, (congrArg (fun z9 => z9.2.2.2.2.2.2.1) hX_2392).symm, (congrArg (fun z9 => z9.2.2.2.2.2.2.2.1) hX_2392).symm, (congrArg (fun z9 => z9.2.2.2.2.2.2.2.2.1) hX_2392).symm, (congrArg (fun z9 => z9.2.2.2.2.2.2.2.2.2.1) hX_2392).symm, (congrArg (fun z9 => z9.2.2.2.2.2.2.2.2.2.2) hX_2392).symm, hpost⟩
        · have b_2393 := z_feqF c_2388
          refine lv_aload_n hx hb dX12_readFeature_73 rfl (lv_at hl 2 rfl) ?_
          refine z_callVi (As := []) (rest := []) (wr := [(a_hasFeels, .inl (cA.1 3, 3, .inl g_hasFeels)), (a_isOn, .inl (cA.1 3, 10, .inl g_isOn)), (a_c, .inl (cA.1 0, 1825, .inl g_c)), (a_words, .inl (cA.1 1, 105, .inr (.inl n_2291))), (a_tape, .inl (cA.1 2, 900, .inl g_tape))]) ⟨hx, hb, hml, hown, hts⟩ hK hE hT hP hD hS hA (r_houseWord l G cA h0 m_status m_thrown m_above m_under a_traySort a_trayMany a_numbers a_tape m_taped m_textEnd m_faultKind m_faultAt n_2371 n_2372 n_2373 n_2374 n_2375 n_2376 n_2377 n_2378 a_c a_words m_markMany a_there a_tried a_best a_found m_thereMany m_foundMany m_orderHow m_orderRing m_orderMany m_hasBest m_bestTop m_bestBy a_weights a_shared m_random m_truePlace m_trueWay m_seconds m_done m_feelings m_tries m_leftOver m_playDoor m_playRing m_isOpen m_isOver m_wasTried m_hasPlayed a_feltNow a_last a_kept m_hasSeconds m_hasTurned m_hasRound a_hasFeels a_isOn m_firstAct m_meanTop m_meanBy a_order m_rowMany m_newSteps hr_n_2373) lk_RX12_170 ⟨rfl, rfl⟩ ⟨Nat.le_of_ble_eq_true rfl, Nat.le_of_ble_eq_true rfl⟩ 12 rfl rfl rfl [4] [0, 1, 2, 3, 5] rfl rfl (by decide) rfl hl.1 rfl (lv_room (Nat.le_of_ble_eq_true rfl)) dX12_readFeature_74 ⟨Nat.le_of_ble_eq_true rfl, Nat.le_of_ble_eq_true rfl⟩ (fun r_2394 u_2395 H locs hw hP hD hS => ?_)
          obtain ⟨he_r_2394, hw⟩ := hw
          obtain ⟨hr_r_2394, hf_2397⟩ := hw
          refine lv_bipush (v := 6) hx hb dX12_readFeature_77 (by decide) ?_
          refine lv_icmp_ne (tgt := 86) hx hb dX12_readFeature_79 (by decide) (fun c_2398 => ?_) (fun c_2398 => ?_)
          · have b_2399 := z_fneT c_2398
            refine lv_iconst (v := 0) hx hb dX12_readFeature_86 (by decide) ?_
            refine lv_istore_n (lv' := [(3, .int 0), (2, .int r_2379), (1, .int r_2292), (0, .ref h0)]) hx hb dX12_readFeature_87 rfl hl (by decide) rfl (fun ls hl => ?_)
            refine lv_iload_n hx hb dX12_readFeature_88 rfl (lv_at hl 0 rfl) ?_
            refine lv_if_eq (tgt := 96) hx hb dX12_readFeature_89 (by decide) (fun _ => ?_) (fun h9 => absurd (by decide +kernel) h9)
            refine lv_aload_n hx hb dX12_readFeature_96 rfl (lv_at hl 3 rfl) ?_
            refine va_get (D := G) (ci := 12) (v := .int n_2371) (C := RX12) (T := TX12) (N := 65) hx hb hts inT12 hown hK hP 5 rfl rfl 12 (by decide) (hts _ tw_1897) (fun _ h9 => h9) rfl dX12_readFeature_97 ?_
            refine lv_if_le (tgt := 104) hx hb dX12_readFeature_100 (by decide) (fun c_2400 => ?_) (fun h9 => (z_no (by have h8 := z_fgtF h9; omega)))
            have b_2401 := z_fleT c_2400
            have hX_2402 : F_r_readFeature m_textEnd m_bad m_badAt m_token m_at m_behind m_number m_letters m_word g_tape g_c g_words g_hasFeels = F_r_readFeature_C104 g_c g_hasFeels r_2292 r_2379 (0 : Int32) n_2371 n_2372 n_2373 n_2374 n_2375 n_2376 n_2377 n_2378 n_2291 := by
              refine (F_r_readFeature_s ..).trans ?_
              try (extract_lets -merge -useContext +onlyGivenNames y9; have e9 : x_2141 = y9 := (by first | exact he_x_2141 | exact he_x_2141.symm); clear_value y9; subst e9)
              refine (if_neg c_2142).trans ?_
              try (extract_lets -merge -useContext +onlyGivenNames y9; have e9 : x_2280 = y9 := (by first | exact he_x_2280 | exact he_x_2280.symm); clear_value y9; subst e9)
              refine (if_pos c_2281).trans ?_
              extract_lets -merge -useContext +onlyGivenNames w9 y4_0 y4_1 y4_2 y4_3 y4_4 y4_5 y4_6 y4_7 y4_8 y4_9; have e9 : (r_2292, n_2283, n_2284, n_2285, n_2286, n_2287, n_2288, n_2289, n_2290, n_2291) = w9 := ((z_tS he_r_2292 (z_tS he_n_2283 (z_tS he_n_2284 (z_tS he_n_2285 (z_tS he_n_2286 (z_tS he_n_2287 (z_tS he_n_2288 (z_tS he_n_2289 (z_tS he_n_2290 he_n_2291.symm)))))))))).symm; clear_value w9; subst e9
              extract_lets -merge -useContext +onlyGivenNames w9 y9; have e9 : r_2300 = w9 := he_r_2300; clear_value w9; subst e9
              refine (if_pos c_2304).trans ?_
              extract_lets -merge -useContext +onlyGivenNames w9 y7_0 y7_1 y7_2 y7_3 y7_4 y7_5; have e9 : (n_2359, n_2360, n_2361, n_2362, n_2363, n_2364) = w9 := ((z_tS he_n_2359 (z_tS he_n_2360 (z_tS he_n_2361 (z_tS he_n_2362 (z_tS he_n_2363 he_n_2364.symm)))))).symm; clear_value w9; subst e9
              extract_lets -merge -useContext +onlyGivenNames w9 y8_0 y8_1 y8_2 y8_3 y8_4 y8_5 y8_6 y8_7 y8_8; have e9 : (r_2379, n_2371, n_2372, n_2373, n_2374, n_2375, n_2376, n_2377, n_2378) = w9 := ((z_tS he_r_2379 (z_tS he_n_2371 (z_tS he_n_2372 (z_tS he_n_2373 (z_tS he_n_2374 (z_tS he_n_2375 (z_tS he_n_2376 (z_tS he_n_2377 he_n_2378.symm))))))))).symm; clear_value w9; subst e9
              refine (if_pos c_2388).trans ?_
              extract_lets -merge -useContext +onlyGivenNames w9 y9; have e9 : r_2394 = w9 := he_r_2394; clear_value w9; subst e9
              refine (if_neg c_2398).trans ?_
              exact rfl
            have hP := hP.sub (ws' := [(h0, .inr (12, [.int m_status, .int m_thrown, .long m_above, .long m_under, .ref a_traySort, .ref a_trayMany, .ref a_numbers, .ref a_tape, .int m_taped, .int m_textEnd, .int m_faultKind, .int m_faultAt, .int n_2371, .int n_2372, .int n_2373, .int n_2374, .int n_2375, .int n_2376, .int n_2377, .long n_2378, .ref a_c, .ref a_words, .int m_markMany, .ref a_there, .ref a_tried, .ref a_best, .ref a_found, .int m_thereMany, .int m_foundMany, .int m_orderHow, .int m_orderRing, .int m_orderMany, .int m_hasBest, .long m_bestTop, .long m_bestBy, .ref a_weights, .ref a_shared, .int m_random, .int m_truePlace, .int m_trueWay, .int m_seconds, .int m_done, .int m_feelings, .int m_tries, .int m_leftOver, .int m_playDoor, .int m_playRing, .int m_isOpen, .int m_isOver, .int m_wasTried, .int m_hasPlayed, .ref a_feltNow, .ref a_last, .ref a_kept, .int m_hasSeconds, .int m_hasTurned, .int m_hasRound, .ref a_hasFeels, .ref a_isOn, .int m_firstAct, .long m_meanTop, .long m_meanBy, .ref a_order, .int m_rowMany, .int m_newSteps])), (a_tape, .inl (cA.1 2, 900, .inl g_tape)), (a_c, .inl (cA.1 0, 1825, .inl g_c)), (a_words, .inl (cA.1 1, 105, .inr (.inl n_2291))), (a_hasFeels, .inl (cA.1 3, 3, .inl g_hasFeels)), (a_isOn, .inl (cA.1 3, 10, .inl g_isOn))]) [5, 4, 2, 3, 0, 1] rfl
            have hD := hD.sub (ws' := [(h0, .inr (12, [.int m_status, .int m_thrown, .long m_above, .long m_under, .ref a_traySort, .ref a_trayMany, .ref a_numbers, .ref a_tape, .int m_taped, .int m_textEnd, .int m_faultKind, .int m_faultAt, .int n_2371, .int n_2372, .int n_2373, .int n_2374, .int n_2375, .int n_2376, .int n_2377, .long n_2378, .ref a_c, .ref a_words, .int m_markMany, .ref a_there, .ref a_tried, .ref a_best, .ref a_found, .int m_thereMany, .int m_foundMany, .int m_orderHow, .int m_orderRing, .int m_orderMany, .int m_hasBest, .long m_bestTop, .long m_bestBy, .ref a_weights, .ref a_shared, .int m_random, .int m_truePlace, .int m_trueWay, .int m_seconds, .int m_done, .int m_feelings, .int m_tries, .int m_leftOver, .int m_playDoor, .int m_playRing, .int m_isOpen, .int m_isOver, .int m_wasTried, .int m_hasPlayed, .ref a_feltNow, .ref a_last, .ref a_kept, .int m_hasSeconds, .int m_hasTurned, .int m_hasRound, .ref a_hasFeels, .ref a_isOn, .int m_firstAct, .long m_meanTop, .long m_meanBy, .ref a_order, .int m_rowMany, .int m_newSteps])), (a_tape, .inl (cA.1 2, 900, .inl g_tape)), (a_c, .inl (cA.1 0, 1825, .inl g_c)), (a_words, .inl (cA.1 1, 105, .inr (.inl n_2291))), (a_hasFeels, .inl (cA.1 3, 3, .inl g_hasFeels)), (a_isOn, .inl (cA.1 3, 10, .inl g_isOn))]) [5, 4, 2, 3, 0, 1] (by decide) rfl
            exact hct_104 r_2292 r_2379 0 n_2371 n_2372 n_2373 n_2374 n_2375 n_2376 n_2377 n_2378 n_2291 H locs ls hr_r_2292 (by omega) (by decide +kernel) (by omega) hr_n_2373 hr_n_2374 hr_n_2375 hr_n_2376 hr_n_2377 hNW0 hNF0 (by omega) (by omega) (by omega) (by omega) hX_2402 hP hD hS (lv_sub hl [3, 2, 1, 0] rfl)
          · have b_2403 := z_feqF c_2398
            refine lv_iconst (v := 1) hx hb dX12_readFeature_82 (by decide) ?_
            refine lv_goto (tgt := 87) hx hb dX12_readFeature_83 (by decide) ?_
            refine lv_istore_n (lv' := [(3, .int 1), (2, .int r_2379), (1, .int r_2292), (0, .ref h0)]) hx hb dX12_readFeature_87 rfl hl (by decide) rfl (fun ls hl => ?_)
            refine lv_iload_n hx hb dX12_readFeature_88 rfl (lv_at hl 0 rfl) ?_
            refine lv_if_eq (tgt := 96) hx hb dX12_readFeature_89 (by decide) (fun h9 => absurd h9 (by decide +kernel)) (fun _ => ?_)
            refine lv_aload_n hx hb dX12_readFeature_92 rfl (lv_at hl 3 rfl) ?_
            refine z_callVv (As := []) (rest := []) (wr := [(a_hasFeels, .inl (cA.1 3, 3, .inl g_hasFeels)), (a_isOn, .inl (cA.1 3, 10, .inl g_isOn)), (a_c, .inl (cA.1 0, 1825, .inl g_c)), (a_words, .inl (cA.1 1, 105, .inr (.inl n_2291)))]) ⟨hx, hb, hml, hown, hts⟩ hK hE hT hP hD hS hA (r_next2 l G cA h0 m_status m_thrown m_above m_under a_traySort a_trayMany a_numbers a_tape m_taped m_textEnd m_faultKind m_faultAt n_2371 n_2372 n_2373 n_2374 n_2375 n_2376 n_2377 n_2378 a_c a_words m_markMany a_there a_tried a_best a_found m_thereMany m_foundMany m_orderHow m_orderRing m_orderMany m_hasBest m_bestTop m_bestBy a_weights a_shared m_random m_truePlace m_trueWay m_seconds m_done m_feelings m_tries m_leftOver m_playDoor m_playRing m_isOpen m_isOver m_wasTried m_hasPlayed a_feltNow a_last a_kept m_hasSeconds m_hasTurned m_hasRound a_hasFeels a_isOn m_firstAct m_meanTop m_meanBy a_order m_rowMany m_newSteps g_tape hr_m_textEnd hr_n_2374 hr_n_2375 hr_n_2373 hr_n_2376 hr_n_2377) lk_RX12_184 ⟨rfl, rfl⟩ ⟨Nat.le_of_ble_eq_true rfl, Nat.le_of_ble_eq_true rfl⟩ 12 rfl rfl rfl [5, 4] [0, 1, 2, 3] rfl rfl (by decide) rfl hl.1 rfl (lv_room (Nat.le_of_ble_eq_true rfl)) dX12_readFeature_93 ⟨Nat.le_of_ble_eq_true rfl, Nat.le_of_ble_eq_true rfl⟩ (fun u_2411 H locs hw hP hD hS => ?_)
            obtain ⟨n_2404, n_2405, n_2406, n_2407, n_2408, n_2409⟩ := u_2411
            try dsimp only at hw
            obtain ⟨he_n_2404, he_n_2405, he_n_2406, he_n_2407, he_n_2408, he_n_2409, hw⟩ := hw
            obtain ⟨hr_n_2404, hr_n_2405, hr_n_2406, hr_n_2407, hr_n_2408, hf_2413, hf_2414⟩ := hw
            refine lv_aload_n hx hb dX12_readFeature_96 rfl (lv_at hl 3 rfl) ?_
            refine va_get (D := G) (ci := 12) (v := .int n_2371) (C := RX12) (T := TX12) (N := 65) hx hb hts inT12 hown hK hP 4 rfl rfl 12 (by decide) (hts _ tw_1897) (fun _ h9 => h9) rfl dX12_readFeature_97 ?_
            refine lv_if_le (tgt := 104) hx hb dX12_readFeature_100 (by decide) (fun c_2415 => ?_) (fun h9 => (z_no (by have h8 := z_fgtF h9; omega)))
            have b_2416 := z_fleT c_2415
            have hX_2417 : F_r_readFeature m_textEnd m_bad m_badAt m_token m_at m_behind m_number m_letters m_word g_tape g_c g_words g_hasFeels = F_r_readFeature_C104 g_c g_hasFeels r_2292 r_2379 (1 : Int32) n_2371 n_2372 n_2404 n_2405 n_2406 n_2407 n_2408 n_2409 n_2291 := by
              refine (F_r_readFeature_s ..).trans ?_
              try (extract_lets -merge -useContext +onlyGivenNames y9; have e9 : x_2141 = y9 := (by first | exact he_x_2141 | exact he_x_2141.symm); clear_value y9; subst e9)
              refine (if_neg c_2142).trans ?_
              try (extract_lets -merge -useContext +onlyGivenNames y9; have e9 : x_2280 = y9 := (by first | exact he_x_2280 | exact he_x_2280.symm); clear_value y9; subst e9)
              refine (if_pos c_2281).trans ?_
              extract_lets -merge -useContext +onlyGivenNames w9 y4_0 y4_1 y4_2 y4_3 y4_4 y4_5 y4_6 y4_7 y4_8 y4_9; have e9 : (r_2292, n_2283, n_2284, n_2285, n_2286, n_2287, n_2288, n_2289, n_2290, n_2291) = w9 := ((z_tS he_r_2292 (z_tS he_n_2283 (z_tS he_n_2284 (z_tS he_n_2285 (z_tS he_n_2286 (z_tS he_n_2287 (z_tS he_n_2288 (z_tS he_n_2289 (z_tS he_n_2290 he_n_2291.symm)))))))))).symm; clear_value w9; subst e9
              extract_lets -merge -useContext +onlyGivenNames w9 y9; have e9 : r_2300 = w9 := he_r_2300; clear_value w9; subst e9
              refine (if_pos c_2304).trans ?_
              extract_lets -merge -useContext +onlyGivenNames w9 y7_0 y7_1 y7_2 y7_3 y7_4 y7_5; have e9 : (n_2359, n_2360, n_2361, n_2362, n_2363, n_2364) = w9 := ((z_tS he_n_2359 (z_tS he_n_2360 (z_tS he_n_2361 (z_tS he_n_2362 (z_tS he_n_2363 he_n_2364.symm)))))).symm; clear_value w9; subst e9
              extract_lets -merge -useContext +onlyGivenNames w9 y8_0 y8_1 y8_2 y8_3 y8_4 y8_5 y8_6 y8_7 y8_8; have e9 : (r_2379, n_2371, n_2372, n_2373, n_2374, n_2375, n_2376, n_2377, n_2378) = w9 := ((z_tS he_r_2379 (z_tS he_n_2371 (z_tS he_n_2372 (z_tS he_n_2373 (z_tS he_n_2374 (z_tS he_n_2375 (z_tS he_n_2376 (z_tS he_n_2377 he_n_2378.symm))))))))).symm; clear_value w9; subst e9
              refine (if_pos c_2388).trans ?_
              extract_lets -merge -useContext +onlyGivenNames w9 y9; have e9 : r_2394 = w9 := he_r_2394; clear_value w9; subst e9
              refine (if_pos c_2398).trans ?_
              extract_lets -merge -useContext +onlyGivenNames w9 y12_0 y12_1 y12_2 y12_3 y12_4 y12_5; have e9 : (n_2404, n_2405, n_2406, n_2407, n_2408, n_2409) = w9 := ((z_tS he_n_2404 (z_tS he_n_2405 (z_tS he_n_2406 (z_tS he_n_2407 (z_tS he_n_2408 he_n_2409.symm)))))).symm; clear_value w9; subst e9
              exact rfl
            have hP := hP.sub (ws' := [(h0, .inr (12, [.int m_status, .int m_thrown, .long m_above, .long m_under, .ref a_traySort, .ref a_trayMany, .ref a_numbers, .ref a_tape, .int m_taped, .int m_textEnd, .int m_faultKind, .int m_faultAt, .int n_2371, .int n_2372, .int n_2404, .int n_2405, .int n_2406, .int n_2407, .int n_2408, .long n_2409, .ref a_c, .ref a_words, .int m_markMany, .ref a_there, .ref a_tried, .ref a_best, .ref a_found, .int m_thereMany, .int m_foundMany, .int m_orderHow, .int m_orderRing, .int m_orderMany, .int m_hasBest, .long m_bestTop, .long m_bestBy, .ref a_weights, .ref a_shared, .int m_random, .int m_truePlace, .int m_trueWay, .int m_seconds, .int m_done, .int m_feelings, .int m_tries, .int m_leftOver, .int m_playDoor, .int m_playRing, .int m_isOpen, .int m_isOver, .int m_wasTried, .int m_hasPlayed, .ref a_feltNow, .ref a_last, .ref a_kept, .int m_hasSeconds, .int m_hasTurned, .int m_hasRound, .ref a_hasFeels, .ref a_isOn, .int m_firstAct, .long m_meanTop, .long m_meanBy, .ref a_order, .int m_rowMany, .int m_newSteps])), (a_tape, .inl (cA.1 2, 900, .inl g_tape)), (a_c, .inl (cA.1 0, 1825, .inl g_c)), (a_words, .inl (cA.1 1, 105, .inr (.inl n_2291))), (a_hasFeels, .inl (cA.1 3, 3, .inl g_hasFeels)), (a_isOn, .inl (cA.1 3, 10, .inl g_isOn))]) [4, 5, 2, 3, 0, 1] rfl
            have hD := hD.sub (ws' := [(h0, .inr (12, [.int m_status, .int m_thrown, .long m_above, .long m_under, .ref a_traySort, .ref a_trayMany, .ref a_numbers, .ref a_tape, .int m_taped, .int m_textEnd, .int m_faultKind, .int m_faultAt, .int n_2371, .int n_2372, .int n_2404, .int n_2405, .int n_2406, .int n_2407, .int n_2408, .long n_2409, .ref a_c, .ref a_words, .int m_markMany, .ref a_there, .ref a_tried, .ref a_best, .ref a_found, .int m_thereMany, .int m_foundMany, .int m_orderHow, .int m_orderRing, .int m_orderMany, .int m_hasBest, .long m_bestTop, .long m_bestBy, .ref a_weights, .ref a_shared, .int m_random, .int m_truePlace, .int m_trueWay, .int m_seconds, .int m_done, .int m_feelings, .int m_tries, .int m_leftOver, .int m_playDoor, .int m_playRing, .int m_isOpen, .int m_isOver, .int m_wasTried, .int m_hasPlayed, .ref a_feltNow, .ref a_last, .ref a_kept, .int m_hasSeconds, .int m_hasTurned, .int m_hasRound, .ref a_hasFeels, .ref a_isOn, .int m_firstAct, .long m_meanTop, .long m_meanBy, .ref a_order, .int m_rowMany, .int m_newSteps])), (a_tape, .inl (cA.1 2, 900, .inl g_tape)), (a_c, .inl (cA.1 0, 1825, .inl g_c)), (a_words, .inl (cA.1 1, 105, .inr (.inl n_2291))), (a_hasFeels, .inl (cA.1 3, 3, .inl g_hasFeels)), (a_isOn, .inl (cA.1 3, 10, .inl g_isOn))]) [4, 5, 2, 3, 0, 1] (by decide) rfl
            exact hct_104 r_2292 r_2379 1 n_2371 n_2372 n_2404 n_2405 n_2406 n_2407 n_2408 n_2409 n_2291 H locs ls hr_r_2292 (by omega) (by decide +kernel) (by omega) hr_n_2404 hr_n_2405 hr_n_2406 hr_n_2407 hr_n_2408 hNW0 hNF0 (by omega) (by omega) (by omega) (by omega) hX_2417 hP hD hS (lv_sub hl [3, 2, 1, 0] rfl)
    · have b_2418 := z_fgtF c_2281
      refine lv_aload_n hx hb dX12_readFeature_23 rfl (lv_at hl 0 rfl) ?_
      refine lv_bipush (v := 7) hx hb dX12_readFeature_24 (by decide) ?_
      refine lv_aload_n hx hb dX12_readFeature_26 rfl (lv_at hl 0 rfl) ?_
      refine va_get (D := G) (ci := 12) (v := .int m_at) (C := RX12) (T := TX12) (N := 65) hx hb hts inT12 hown hK hP 0 rfl rfl 15 (by decide) (hts _ tw_1900) (fun _ h9 => h9) rfl dX12_readFeature_27 ?_
      refine z_callVv (As := [.int 7, .int m_at]) (rest := []) (wr := [(a_tape, .inl (cA.1 2, 900, .inl g_tape)), (a_c, .inl (cA.1 0, 1825, .inl g_c)), (a_words, .inl (cA.1 1, 105, .inr (.inl g_words))), (a_hasFeels, .inl (cA.1 3, 3, .inl g_hasFeels)), (a_isOn, .inl (cA.1 3, 10, .inl g_isOn))]) ⟨hx, hb, hml, hown, hts⟩ hK hE hT hP hD hS hA (r_fail l G cA h0 m_status m_thrown m_above m_under a_traySort a_trayMany a_numbers a_tape m_taped m_textEnd m_faultKind m_faultAt m_bad m_badAt m_token m_at m_behind m_number m_letters m_word a_c a_words m_markMany a_there a_tried a_best a_found m_thereMany m_foundMany m_orderHow m_orderRing m_orderMany m_hasBest m_bestTop m_bestBy a_weights a_shared m_random m_truePlace m_trueWay m_seconds m_done m_feelings m_tries m_leftOver m_playDoor m_playRing m_isOpen m_isOver m_wasTried m_hasPlayed a_feltNow a_last a_kept m_hasSeconds m_hasTurned m_hasRound a_hasFeels a_isOn m_firstAct m_meanTop m_meanBy a_order m_rowMany m_newSteps 7 m_at (by decide +kernel) (z_rgw hr_m_bad (by decide) (by decide))) lk_RX12_180 ⟨rfl, rfl⟩ ⟨Nat.le_of_ble_eq_true rfl, Nat.le_of_ble_eq_true rfl⟩ 12 rfl rfl rfl [0] [1, 2, 3, 4, 5] rfl rfl (by decide) rfl hl.1 rfl (lv_room (Nat.le_of_ble_eq_true rfl)) dX12_readFeature_30 ⟨Nat.le_of_ble_eq_true rfl, Nat.le_of_ble_eq_true rfl⟩ (fun u_2422 H locs hw hP hD hS => ?_)
      obtain ⟨n_2419, n_2420⟩ := u_2422
      try dsimp only at hw
      obtain ⟨he_n_2419, he_n_2420, hw⟩ := hw
      obtain ⟨hr_n_2419, hf_2424⟩ := hw
      refine lv_aload_n hx hb dX12_readFeature_33 rfl (lv_at hl 0 rfl) ?_
      refine lv_iconst (v := 0) hx hb dX12_readFeature_34 (by decide) ?_
      refine lv_iconst (v := 3) hx hb dX12_readFeature_35 (by decide) ?_
      refine lv_iconst (v := 0) hx hb dX12_readFeature_36 (by decide) ?_
      refine z_callVi (As := [.int 0, .int 3, .int 0]) (rest := []) (wr := [(a_hasFeels, .inl (cA.1 3, 3, .inl g_hasFeels)), (a_isOn, .inl (cA.1 3, 10, .inl g_isOn))]) ⟨hx, hb, hml, hown, hts⟩ hK hE hT hP hD hS hA (r_readNew_0 l G cA h0 m_status m_thrown m_above m_under a_traySort a_trayMany a_numbers a_tape m_taped m_textEnd m_faultKind m_faultAt n_2419 n_2420 m_token m_at m_behind m_number m_letters m_word a_c a_words m_markMany a_there a_tried a_best a_found m_thereMany m_foundMany m_orderHow m_orderRing m_orderMany m_hasBest m_bestTop m_bestBy a_weights a_shared m_random m_truePlace m_trueWay m_seconds m_done m_feelings m_tries m_leftOver m_playDoor m_playRing m_isOpen m_isOver m_wasTried m_hasPlayed a_feltNow a_last a_kept m_hasSeconds m_hasTurned m_hasRound a_hasFeels a_isOn m_firstAct m_meanTop m_meanBy a_order m_rowMany m_newSteps g_tape g_c g_words hr_m_textEnd hr_m_at hr_m_behind (z_rgw hr_n_2419 (by decide) (by decide)) hr_m_token hr_m_number hr_m_letters hC_g_c) lk_RX12_207 ⟨rfl, rfl⟩ ⟨Nat.le_of_ble_eq_true rfl, Nat.le_of_ble_eq_true rfl⟩ 12 rfl rfl rfl [5, 0, 1, 2] [3, 4] rfl rfl (by decide) rfl hl.1 rfl (lv_room (Nat.le_of_ble_eq_true rfl)) dX12_readFeature_37 ⟨Nat.le_of_ble_eq_true rfl, Nat.le_of_ble_eq_true rfl⟩ (fun r_2434 u_2435 H locs hw hP hD hS => ?_)
      obtain ⟨n_2425, n_2426, n_2427, n_2428, n_2429, n_2430, n_2431, n_2432, n_2433⟩ := u_2435
      try dsimp only at hw
      obtain ⟨he_r_2434, he_n_2425, he_n_2426, he_n_2427, he_n_2428, he_n_2429, he_n_2430, he_n_2431, he_n_2432, he_n_2433, hw⟩ := hw
      obtain ⟨hr_r_2434, hr_n_2425, hr_n_2427, hr_n_2428, hr_n_2429, hr_n_2430, hr_n_2431, hf_2437, hf_2438, hf_2439, hf_2440, hf_2441⟩ := hw
      refine lv_istore_n (lv' := [(1, .int r_2434), (0, .ref h0)]) hx hb dX12_readFeature_40 rfl hl (by decide) rfl (fun ls hl => ?_)
      refine lv_aload_n hx hb dX12_readFeature_41 rfl (lv_at hl 1 rfl) ?_
      refine lv_aload_n hx hb dX12_readFeature_42 rfl (lv_at hl 1 rfl) ?_
      refine z_callVi (As := []) (rest := [.ref h0]) (wr := [(a_hasFeels, .inl (cA.1 3, 3, .inl g_hasFeels)), (a_isOn, .inl (cA.1 3, 10, .inl g_isOn)), (a_tape, .inl (cA.1 2, 900, .inl g_tape)), (a_c, .inl (cA.1 0, 1825, .inl g_c)), (a_words, .inl (cA.1 1, 105, .inr (.inl n_2433)))]) ⟨hx, hb, hml, hown, hts⟩ hK hE hT hP hD hS hA (r_houseWord l G cA h0 m_status m_thrown m_above m_under a_traySort a_trayMany a_numbers a_tape m_taped m_textEnd m_faultKind m_faultAt n_2425 n_2426 n_2427 n_2428 n_2429 n_2430 n_2431 n_2432 a_c a_words m_markMany a_there a_tried a_best a_found m_thereMany m_foundMany m_orderHow m_orderRing m_orderMany m_hasBest m_bestTop m_bestBy a_weights a_shared m_random m_truePlace m_trueWay m_seconds m_done m_feelings m_tries m_leftOver m_playDoor m_playRing m_isOpen m_isOver m_wasTried m_hasPlayed a_feltNow a_last a_kept m_hasSeconds m_hasTurned m_hasRound a_hasFeels a_isOn m_firstAct m_meanTop m_meanBy a_order m_rowMany m_newSteps hr_n_2427) lk_RX12_170 ⟨rfl, rfl⟩ ⟨Nat.le_of_ble_eq_true rfl, Nat.le_of_ble_eq_true rfl⟩ 12 rfl rfl rfl [2] [0, 1, 3, 4, 5] rfl rfl (by decide) rfl hl.1 rfl (lv_room (Nat.le_of_ble_eq_true rfl)) dX12_readFeature_43 ⟨Nat.le_of_ble_eq_true rfl, Nat.le_of_ble_eq_true rfl⟩ (fun r_2442 u_2443 H locs hw hP hD hS => ?_)
      obtain ⟨he_r_2442, hw⟩ := hw
      obtain ⟨hr_r_2442, hf_2445⟩ := hw
      refine lv_bipush (v := 8) hx hb dX12_readFeature_46 (by decide) ?_
      refine lv_icmp_ne (tgt := 55) hx hb dX12_readFeature_48 (by decide) (fun c_2446 => ?_) (fun c_2446 => ?_)
      · have b_2447 := z_fneT c_2446
        refine lv_iconst (v := 0) hx hb dX12_readFeature_55 (by decide) ?_
        refine z_callVv (As := [.int 0]) (rest := []) (wr := [(a_hasFeels, .inl (cA.1 3, 3, .inl g_hasFeels)), (a_isOn, .inl (cA.1 3, 10, .inl g_isOn)), (a_tape, .inl (cA.1 2, 900, .inl g_tape)), (a_c, .inl (cA.1 0, 1825, .inl g_c)), (a_words, .inl (cA.1 1, 105, .inr (.inl n_2433)))]) ⟨hx, hb, hml, hown, hts⟩ hK hE hT hP hD hS hA (r_must_0 l G cA h0 m_status m_thrown m_above m_under a_traySort a_trayMany a_numbers a_tape m_taped m_textEnd m_faultKind m_faultAt n_2425 n_2426 n_2427 n_2428 n_2429 n_2430 n_2431 n_2432 a_c a_words m_markMany a_there a_tried a_best a_found m_thereMany m_foundMany m_orderHow m_orderRing m_orderMany m_hasBest m_bestTop m_bestBy a_weights a_shared m_random m_truePlace m_trueWay m_seconds m_done m_feelings m_tries m_leftOver m_playDoor m_playRing m_isOpen m_isOver m_wasTried m_hasPlayed a_feltNow a_last a_kept m_hasSeconds m_hasTurned m_hasRound a_hasFeels a_isOn m_firstAct m_meanTop m_meanBy a_order m_rowMany m_newSteps hr_n_2428 hr_n_2425 hr_n_2427) lk_RX12_210 ⟨rfl, rfl⟩ ⟨Nat.le_of_ble_eq_true rfl, Nat.le_of_ble_eq_true rfl⟩ 12 rfl rfl rfl [5] [0, 1, 2, 3, 4] rfl rfl (by decide) rfl hl.1 rfl (lv_room (Nat.le_of_ble_eq_true rfl)) dX12_readFeature_56 ⟨Nat.le_of_ble_eq_true rfl, Nat.le_of_ble_eq_true rfl⟩ (fun u_2451 H locs hw hP hD hS => ?_)
        obtain ⟨n_2448, n_2449⟩ := u_2451
        try dsimp only at hw
        obtain ⟨he_n_2448, he_n_2449, hw⟩ := hw
        have hr_n_2448 := hw
        refine lv_aload_n hx hb dX12_readFeature_59 rfl (lv_at hl 1 rfl) ?_
        refine lv_iconst (v := 2) hx hb dX12_readFeature_60 (by decide) ?_
        refine lv_iconst (v := 4) hx hb dX12_readFeature_61 (by decide) ?_
        refine z_callVi (As := [.int 2, .int 4]) (rest := []) (wr := [(a_hasFeels, .inl (cA.1 3, 3, .inl g_hasFeels)), (a_isOn, .inl (cA.1 3, 10, .inl g_isOn)), (a_c, .inl (cA.1 0, 1825, .inl g_c)), (a_words, .inl (cA.1 1, 105, .inr (.inl n_2433)))]) ⟨hx, hb, hml, hown, hts⟩ hK hE hT hP hD hS hA (r_count l G cA h0 m_status m_thrown m_above m_under a_traySort a_trayMany a_numbers a_tape m_taped m_textEnd m_faultKind m_faultAt n_2448 n_2449 n_2427 n_2428 n_2429 n_2430 n_2431 n_2432 a_c a_words m_markMany a_there a_tried a_best a_found m_thereMany m_foundMany m_orderHow m_orderRing m_orderMany m_hasBest m_bestTop m_bestBy a_weights a_shared m_random m_truePlace m_trueWay m_seconds m_done m_feelings m_tries m_leftOver m_playDoor m_playRing m_isOpen m_isOver m_wasTried m_hasPlayed a_feltNow a_last a_kept m_hasSeconds m_hasTurned m_hasRound a_hasFeels a_isOn m_firstAct m_meanTop m_meanBy a_order m_rowMany m_newSteps g_tape 2 4 (by decide +kernel) (by decide +kernel) hr_m_textEnd hr_n_2428 hr_n_2429 (z_rgw hr_n_2448 (by decide) (by decide)) hr_n_2427 hr_n_2430 hr_n_2431) lk_RX12_214 ⟨rfl, rfl⟩ ⟨Nat.le_of_ble_eq_true rfl, Nat.le_of_ble_eq_true rfl⟩ 12 rfl rfl rfl [5, 2] [0, 1, 3, 4] rfl rfl (by decide) rfl hl.1 rfl (lv_room (Nat.le_of_ble_eq_true rfl)) dX12_readFeature_62 ⟨Nat.le_of_ble_eq_true rfl, Nat.le_of_ble_eq_true rfl⟩ (fun r_2461 u_2462 H locs hw hP hD hS => ?_)
        obtain ⟨n_2453, n_2454, n_2455, n_2456, n_2457, n_2458, n_2459, n_2460⟩ := u_2462
        try dsimp only at hw
        obtain ⟨he_r_2461, he_n_2453, he_n_2454, he_n_2455, he_n_2456, he_n_2457, he_n_2458, he_n_2459, he_n_2460, hw⟩ := hw
        obtain ⟨hr_r_2461, hr_n_2453, hr_n_2455, hr_n_2456, hr_n_2457, hr_n_2458, hr_n_2459, hf_2464, hf_2465, hf_2466, hf_2467, hf_2468, hf_2469⟩ := hw
        refine lv_istore_n (lv' := [(2, .int r_2461), (1, .int r_2434), (0, .ref h0)]) hx hb dX12_readFeature_65 rfl hl (by decide) rfl (fun ls hl => ?_)
        refine lv_aload_n hx hb dX12_readFeature_66 rfl (lv_at hl 2 rfl) ?_
        refine va_get (D := G) (ci := 12) (v := .int n_2453) (C := RX12) (T := TX12) (N := 65) hx hb hts inT12 hown hK hP 4 rfl rfl 12 (by decide) (hts _ tw_1897) (fun _ h9 => h9) rfl dX12_readFeature_67 ?_
        refine lv_if_ne (tgt := 86) hx hb dX12_readFeature_70 (by decide) (fun c_2470 => ?_) (fun c_2470 => ?_)
        · have b_2471 := z_fneT c_2470
          refine lv_iconst (v := 0) hx hb dX12_readFeature_86 (by decide) ?_
          refine lv_istore_n (lv' := [(3, .int 0), (2, .int r_2461), (1, .int r_2434), (0, .ref h0)]) hx hb dX12_readFeature_87 rfl hl (by decide) rfl (fun ls hl => ?_)
          refine lv_iload_n hx hb dX12_readFeature_88 rfl (lv_at hl 0 rfl) ?_
          refine lv_if_eq (tgt := 96) hx hb dX12_readFeature_89 (by decide) (fun _ => ?_) (fun h9 => absurd (by decide +kernel) h9)
          refine lv_aload_n hx hb dX12_readFeature_96 rfl (lv_at hl 3 rfl) ?_
          refine va_get (D := G) (ci := 12) (v := .int n_2453) (C := RX12) (T := TX12) (N := 65) hx hb hts inT12 hown hK hP 4 rfl rfl 12 (by decide) (hts _ tw_1897) (fun _ h9 => h9) rfl dX12_readFeature_97 ?_
          refine lv_if_le (tgt := 104) hx hb dX12_readFeature_100 (by decide) (fun h9 => (z_no (by have h8 := z_fleT h9; omega))) (fun c_2472 => ?_)
          have b_2473 := z_fgtF c_2472
          have hpost : (0 ≤ n_2453.toInt ∧ n_2453.toInt ≤ 9) ∧ (0 ≤ n_2455.toInt ∧ n_2455.toInt ≤ 4) ∧ (0 ≤ n_2456.toInt ∧ n_2456.toInt ≤ 900) ∧ (0 ≤ n_2457.toInt ∧ n_2457.toInt ≤ 900) ∧ (0 ≤ n_2458.toInt ∧ n_2458.toInt ≤ 9999) ∧ (0 ≤ n_2459.toInt ∧ n_2459.toInt ≤ 900) ∧ (zC g_c) ∧ (zRg 3 0 1 g_hasFeels) ∧ (zNw g_c g_isOn) ∧ (m_behind.toInt ≤ n_2457.toInt) ∧ (0 < m_bad.toInt → 0 < n_2453.toInt) ∧ (n_2453.toInt ≤ 0 → n_2455.toInt = 0 ∨ m_behind.toInt < n_2457.toInt) ∧ (n_2453.toInt ≤ 0 → n_2455.toInt = 3 → n_2458.toInt = 59 → zNf g_c) := ⟨hr_n_2453, hr_n_2455, hr_n_2456, hr_n_2457, hr_n_2458, hr_n_2459, hC_g_c, hC_g_hasFeels, hNW0, (by omega), (by omega), (by omega), (fun _ _ _ => hNF0)⟩
          have hX_2474 : F_r_readFeature m_textEnd m_bad m_badAt m_token m_at m_behind m_number m_letters m_word g_tape g_c g_words g_hasFeels = ((n_2453, n_2454, n_2455, n_2456, n_2457, n_2458, n_2459, n_2460, g_c, n_2433, g_hasFeels) : Int32 × Int32 × Int32 × Int32 × Int32 × Int32 × Int32 × Int64 × (Nat → Int32) × (Nat → Int64) × (Nat → Int32)) := by
            refine (F_r_readFeature_s ..).trans ?_
            try (extract_lets -merge -useContext +onlyGivenNames y9; have e9 : x_2141 = y9 := (by first | exact he_x_2141 | exact he_x_2141.symm); clear_value y9; subst e9)
            refine (if_neg c_2142).trans ?_
            try (extract_lets -merge -useContext +onlyGivenNames y9; have e9 : x_2280 = y9 := (by first | exact he_x_2280 | exact he_x_2280.symm); clear_value y9; subst e9)
            refine (if_neg c_2281).trans ?_
            extract_lets -merge -useContext +onlyGivenNames w9 y4_0 y4_1; have e9 : (n_2419, n_2420) = w9 := ((z_tS he_n_2419 he_n_2420.symm)).symm; clear_value w9; subst e9
            extract_lets -merge -useContext +onlyGivenNames w9 y5_0 y5_1 y5_2 y5_3 y5_4 y5_5 y5_6 y5_7 y5_8 y5_9; have e9 : (r_2434, n_2425, n_2426, n_2427, n_2428, n_2429, n_2430, n_2431, n_2432, n_2433) = w9 := ((z_tS he_r_2434 (z_tS he_n_2425 (z_tS he_n_2426 (z_tS he_n_2427 (z_tS he_n_2428 (z_tS he_n_2429 (z_tS he_n_2430 (z_tS he_n_2431 (z_tS he_n_2432 he_n_2433.symm)))))))))).symm; clear_value w9; subst e9
            extract_lets -merge -useContext +onlyGivenNames w9 y9; have e9 : r_2442 = w9 := he_r_2442; clear_value w9; subst e9
            refine (if_neg c_2446).trans ?_
            extract_lets -merge -useContext +onlyGivenNames w9 y8_0 y8_1; have e9 : (n_2448, n_2449) = w9 := ((z_tS he_n_2448 he_n_2449.symm)).symm; clear_value w9; subst e9
            extract_lets -merge -useContext +onlyGivenNames w9 y9_0 y9_1 y9_2 y9_3 y9_4 y9_5 y9_6 y9_7 y9_8; have e9 : (r_2461, n_2453, n_2454, n_2455, n_2456, n_2457, n_2458, n_2459, n_2460) = w9 := ((z_tS he_r_2461 (z_tS he_n_2453 (z_tS he_n_2454 (z_tS he_n_2455 (z_tS he_n_2456 (z_tS he_n_2457 (z_tS he_n_2458 (z_tS he_n_2459 he_n_2460.symm))))))))).symm; clear_value w9; subst e9
            refine (if_neg c_2470).trans ?_
            exact rfl
          exact hret _ _ _ _ _ (n_2453, n_2454, n_2455, n_2456, n_2457, n_2458, n_2459, n_2460, g_c, n_2433, g_hasFeels) [4, 5, 2, 3, 0, 1] hP hD hS rfl (by decide) dX12_readFeature_103 ⟨(congrArg (fun z9 => z9.1) hX_2474).symm, (congrArg (fun z9 => z9.2.1) hX_2474).symm, (congrArg (fun z9 => z9.2.2.1) hX_2474).symm, (congrArg (fun z9 => z9.2.2.2.1) hX_2474).symm, (congrArg (fun z9 => z9.2.2.2.2.1) hX_2474).symm, (congrArg (fun z9 => z9.2.2.2.2.2.1) hX_2474).symm, (congrArg (fun z9 => z9.2.2.2.2.2.2.1) hX_2474).symm, (congrArg (fun z9 => z9.2.2.2.2.2.2.2.1) hX_2474).symm, (congrArg (fun z9 => z9.2.2.2.2.2.2.2.2.1) hX_2474).symm, (congrArg (fun z9 => z9.2.2.2.2.2.2.2.2.2.1) hX_2474).symm, (congrArg (fun z9 => z9.2.2.2.2.2.2.2.2.2.2) hX_2474).symm, hpost⟩
        · have b_2475 := z_feqF c_2470
          refine lv_aload_n hx hb dX12_readFeature_73 rfl (lv_at hl 2 rfl) ?_
          refine z_callVi (As := []) (rest := []) (wr := [(a_hasFeels, .inl (cA.1 3, 3, .inl g_hasFeels)), (a_isOn, .inl (cA.1 3, 10, .inl g_isOn)), (a_c, .inl (cA.1 0, 1825, .inl g_c)), (a_words, .inl (cA.1 1, 105, .inr (.inl n_2433))), (a_tape, .inl (cA.1 2, 900, .inl g_tape))]) ⟨hx, hb, hml, hown, hts⟩ hK hE hT hP hD hS hA (r_houseWord l G cA h0 m_status m_thrown m_above m_under a_traySort a_trayMany a_numbers a_tape m_taped m_textEnd m_faultKind m_faultAt n_2453 n_2454 n_2455 n_2456 n_2457 n_2458 n_2459 n_2460 a_c a_words m_markMany a_there a_tried a_best a_found m_thereMany m_foundMany m_orderHow m_orderRing m_orderMany m_hasBest m_bestTop m_bestBy a_weights a_shared m_random m_truePlace m_trueWay m_seconds m_done m_feelings m_tries m_leftOver m_playDoor m_playRing m_isOpen m_isOver m_wasTried m_hasPlayed a_feltNow a_last a_kept m_hasSeconds m_hasTurned m_hasRound a_hasFeels a_isOn m_firstAct m_meanTop m_meanBy a_order m_rowMany m_newSteps hr_n_2455) lk_RX12_170 ⟨rfl, rfl⟩ ⟨Nat.le_of_ble_eq_true rfl, Nat.le_of_ble_eq_true rfl⟩ 12 rfl rfl rfl [4] [0, 1, 2, 3, 5] rfl rfl (by decide) rfl hl.1 rfl (lv_room (Nat.le_of_ble_eq_true rfl)) dX12_readFeature_74 ⟨Nat.le_of_ble_eq_true rfl, Nat.le_of_ble_eq_true rfl⟩ (fun r_2476 u_2477 H locs hw hP hD hS => ?_)
          obtain ⟨he_r_2476, hw⟩ := hw
          obtain ⟨hr_r_2476, hf_2479⟩ := hw
          refine lv_bipush (v := 6) hx hb dX12_readFeature_77 (by decide) ?_
          refine lv_icmp_ne (tgt := 86) hx hb dX12_readFeature_79 (by decide) (fun c_2480 => ?_) (fun c_2480 => ?_)
          · have b_2481 := z_fneT c_2480
            refine lv_iconst (v := 0) hx hb dX12_readFeature_86 (by decide) ?_
            refine lv_istore_n (lv' := [(3, .int 0), (2, .int r_2461), (1, .int r_2434), (0, .ref h0)]) hx hb dX12_readFeature_87 rfl hl (by decide) rfl (fun ls hl => ?_)
            refine lv_iload_n hx hb dX12_readFeature_88 rfl (lv_at hl 0 rfl) ?_
            refine lv_if_eq (tgt := 96) hx hb dX12_readFeature_89 (by decide) (fun _ => ?_) (fun h9 => absurd (by decide +kernel) h9)
            refine lv_aload_n hx hb dX12_readFeature_96 rfl (lv_at hl 3 rfl) ?_
            refine va_get (D := G) (ci := 12) (v := .int n_2453) (C := RX12) (T := TX12) (N := 65) hx hb hts inT12 hown hK hP 5 rfl rfl 12 (by decide) (hts _ tw_1897) (fun _ h9 => h9) rfl dX12_readFeature_97 ?_
            refine lv_if_le (tgt := 104) hx hb dX12_readFeature_100 (by decide) (fun c_2482 => ?_) (fun h9 => (z_no (by have h8 := z_fgtF h9; omega)))
            have b_2483 := z_fleT c_2482
            have hX_2484 : F_r_readFeature m_textEnd m_bad m_badAt m_token m_at m_behind m_number m_letters m_word g_tape g_c g_words g_hasFeels = F_r_readFeature_C104 g_c g_hasFeels r_2434 r_2461 (0 : Int32) n_2453 n_2454 n_2455 n_2456 n_2457 n_2458 n_2459 n_2460 n_2433 := by
              refine (F_r_readFeature_s ..).trans ?_
              try (extract_lets -merge -useContext +onlyGivenNames y9; have e9 : x_2141 = y9 := (by first | exact he_x_2141 | exact he_x_2141.symm); clear_value y9; subst e9)
              refine (if_neg c_2142).trans ?_
              try (extract_lets -merge -useContext +onlyGivenNames y9; have e9 : x_2280 = y9 := (by first | exact he_x_2280 | exact he_x_2280.symm); clear_value y9; subst e9)
              refine (if_neg c_2281).trans ?_
              extract_lets -merge -useContext +onlyGivenNames w9 y4_0 y4_1; have e9 : (n_2419, n_2420) = w9 := ((z_tS he_n_2419 he_n_2420.symm)).symm; clear_value w9; subst e9
              extract_lets -merge -useContext +onlyGivenNames w9 y5_0 y5_1 y5_2 y5_3 y5_4 y5_5 y5_6 y5_7 y5_8 y5_9; have e9 : (r_2434, n_2425, n_2426, n_2427, n_2428, n_2429, n_2430, n_2431, n_2432, n_2433) = w9 := ((z_tS he_r_2434 (z_tS he_n_2425 (z_tS he_n_2426 (z_tS he_n_2427 (z_tS he_n_2428 (z_tS he_n_2429 (z_tS he_n_2430 (z_tS he_n_2431 (z_tS he_n_2432 he_n_2433.symm)))))))))).symm; clear_value w9; subst e9
              extract_lets -merge -useContext +onlyGivenNames w9 y9; have e9 : r_2442 = w9 := he_r_2442; clear_value w9; subst e9
              refine (if_neg c_2446).trans ?_
              extract_lets -merge -useContext +onlyGivenNames w9 y8_0 y8_1; have e9 : (n_2448, n_2449) = w9 := ((z_tS he_n_2448 he_n_2449.symm)).symm; clear_value w9; subst e9
              extract_lets -merge -useContext +onlyGivenNames w9 y9_0 y9_1 y9_2 y9_3 y9_4 y9_5 y9_6 y9_7 y9_8; have e9 : (r_2461, n_2453, n_2454, n_2455, n_2456, n_2457, n_2458, n_2459, n_2460) = w9 := ((z_tS he_r_2461 (z_tS he_n_2453 (z_tS he_n_2454 (z_tS he_n_2455 (z_tS he_n_2456 (z_tS he_n_2457 (z_tS he_n_2458 (z_tS he_n_2459 he_n_2460.symm))))))))).symm; clear_value w9; subst e9
              refine (if_pos c_2470).trans ?_
              extract_lets -merge -useContext +onlyGivenNames w9 y9; have e9 : r_2476 = w9 := he_r_2476; clear_value w9; subst e9
              refine (if_neg c_2480).trans ?_
              exact rfl
            have hP := hP.sub (ws' := [(h0, .inr (12, [.int m_status, .int m_thrown, .long m_above, .long m_under, .ref a_traySort, .ref a_trayMany, .ref a_numbers, .ref a_tape, .int m_taped, .int m_textEnd, .int m_faultKind, .int m_faultAt, .int n_2453, .int n_2454, .int n_2455, .int n_2456, .int n_2457, .int n_2458, .int n_2459, .long n_2460, .ref a_c, .ref a_words, .int m_markMany, .ref a_there, .ref a_tried, .ref a_best, .ref a_found, .int m_thereMany, .int m_foundMany, .int m_orderHow, .int m_orderRing, .int m_orderMany, .int m_hasBest, .long m_bestTop, .long m_bestBy, .ref a_weights, .ref a_shared, .int m_random, .int m_truePlace, .int m_trueWay, .int m_seconds, .int m_done, .int m_feelings, .int m_tries, .int m_leftOver, .int m_playDoor, .int m_playRing, .int m_isOpen, .int m_isOver, .int m_wasTried, .int m_hasPlayed, .ref a_feltNow, .ref a_last, .ref a_kept, .int m_hasSeconds, .int m_hasTurned, .int m_hasRound, .ref a_hasFeels, .ref a_isOn, .int m_firstAct, .long m_meanTop, .long m_meanBy, .ref a_order, .int m_rowMany, .int m_newSteps])), (a_tape, .inl (cA.1 2, 900, .inl g_tape)), (a_c, .inl (cA.1 0, 1825, .inl g_c)), (a_words, .inl (cA.1 1, 105, .inr (.inl n_2433))), (a_hasFeels, .inl (cA.1 3, 3, .inl g_hasFeels)), (a_isOn, .inl (cA.1 3, 10, .inl g_isOn))]) [5, 4, 2, 3, 0, 1] rfl
            have hD := hD.sub (ws' := [(h0, .inr (12, [.int m_status, .int m_thrown, .long m_above, .long m_under, .ref a_traySort, .ref a_trayMany, .ref a_numbers, .ref a_tape, .int m_taped, .int m_textEnd, .int m_faultKind, .int m_faultAt, .int n_2453, .int n_2454, .int n_2455, .int n_2456, .int n_2457, .int n_2458, .int n_2459, .long n_2460, .ref a_c, .ref a_words, .int m_markMany, .ref a_there, .ref a_tried, .ref a_best, .ref a_found, .int m_thereMany, .int m_foundMany, .int m_orderHow, .int m_orderRing, .int m_orderMany, .int m_hasBest, .long m_bestTop, .long m_bestBy, .ref a_weights, .ref a_shared, .int m_random, .int m_truePlace, .int m_trueWay, .int m_seconds, .int m_done, .int m_feelings, .int m_tries, .int m_leftOver, .int m_playDoor, .int m_playRing, .int m_isOpen, .int m_isOver, .int m_wasTried, .int m_hasPlayed, .ref a_feltNow, .ref a_last, .ref a_kept, .int m_hasSeconds, .int m_hasTurned, .int m_hasRound, .ref a_hasFeels, .ref a_isOn, .int m_firstAct, .long m_meanTop, .long m_meanBy, .ref a_order, .int m_rowMany, .int m_newSteps])), (a_tape, .inl (cA.1 2, 900, .inl g_tape)), (a_c, .inl (cA.1 0, 1825, .inl g_c)), (a_words, .inl (cA.1 1, 105, .inr (.inl n_2433))), (a_hasFeels, .inl (cA.1 3, 3, .inl g_hasFeels)), (a_isOn, .inl (cA.1 3, 10, .inl g_isOn))]) [5, 4, 2, 3, 0, 1] (by decide) rfl
            exact hct_104 r_2434 r_2461 0 n_2453 n_2454 n_2455 n_2456 n_2457 n_2458 n_2459 n_2460 n_2433 H locs ls hr_r_2434 (by omega) (by decide +kernel) (by omega) hr_n_2455 hr_n_2456 hr_n_2457 hr_n_2458 hr_n_2459 hNW0 hNF0 (by omega) (by omega) (by omega) (by omega) hX_2484 hP hD hS (lv_sub hl [3, 2, 1, 0] rfl)
          · have b_2485 := z_feqF c_2480
            refine lv_iconst (v := 1) hx hb dX12_readFeature_82 (by decide) ?_
            refine lv_goto (tgt := 87) hx hb dX12_readFeature_83 (by decide) ?_
            refine lv_istore_n (lv' := [(3, .int 1), (2, .int r_2461), (1, .int r_2434), (0, .ref h0)]) hx hb dX12_readFeature_87 rfl hl (by decide) rfl (fun ls hl => ?_)
            refine lv_iload_n hx hb dX12_readFeature_88 rfl (lv_at hl 0 rfl) ?_
            refine lv_if_eq (tgt := 96) hx hb dX12_readFeature_89 (by decide) (fun h9 => absurd h9 (by decide +kernel)) (fun _ => ?_)
            refine lv_aload_n hx hb dX12_readFeature_92 rfl (lv_at hl 3 rfl) ?_
            refine z_callVv (As := []) (rest := []) (wr := [(a_hasFeels, .inl (cA.1 3, 3, .inl g_hasFeels)), (a_isOn, .inl (cA.1 3, 10, .inl g_isOn)), (a_c, .inl (cA.1 0, 1825, .inl g_c)), (a_words, .inl (cA.1 1, 105, .inr (.inl n_2433)))]) ⟨hx, hb, hml, hown, hts⟩ hK hE hT hP hD hS hA (r_next2 l G cA h0 m_status m_thrown m_above m_under a_traySort a_trayMany a_numbers a_tape m_taped m_textEnd m_faultKind m_faultAt n_2453 n_2454 n_2455 n_2456 n_2457 n_2458 n_2459 n_2460 a_c a_words m_markMany a_there a_tried a_best a_found m_thereMany m_foundMany m_orderHow m_orderRing m_orderMany m_hasBest m_bestTop m_bestBy a_weights a_shared m_random m_truePlace m_trueWay m_seconds m_done m_feelings m_tries m_leftOver m_playDoor m_playRing m_isOpen m_isOver m_wasTried m_hasPlayed a_feltNow a_last a_kept m_hasSeconds m_hasTurned m_hasRound a_hasFeels a_isOn m_firstAct m_meanTop m_meanBy a_order m_rowMany m_newSteps g_tape hr_m_textEnd hr_n_2456 hr_n_2457 hr_n_2455 hr_n_2458 hr_n_2459) lk_RX12_184 ⟨rfl, rfl⟩ ⟨Nat.le_of_ble_eq_true rfl, Nat.le_of_ble_eq_true rfl⟩ 12 rfl rfl rfl [5, 4] [0, 1, 2, 3] rfl rfl (by decide) rfl hl.1 rfl (lv_room (Nat.le_of_ble_eq_true rfl)) dX12_readFeature_93 ⟨Nat.le_of_ble_eq_true rfl, Nat.le_of_ble_eq_true rfl⟩ (fun u_2493 H locs hw hP hD hS => ?_)
            obtain ⟨n_2486, n_2487, n_2488, n_2489, n_2490, n_2491⟩ := u_2493
            try dsimp only at hw
            obtain ⟨he_n_2486, he_n_2487, he_n_2488, he_n_2489, he_n_2490, he_n_2491, hw⟩ := hw
            obtain ⟨hr_n_2486, hr_n_2487, hr_n_2488, hr_n_2489, hr_n_2490, hf_2495, hf_2496⟩ := hw
            refine lv_aload_n hx hb dX12_readFeature_96 rfl (lv_at hl 3 rfl) ?_
            refine va_get (D := G) (ci := 12) (v := .int n_2453) (C := RX12) (T := TX12) (N := 65) hx hb hts inT12 hown hK hP 4 rfl rfl 12 (by decide) (hts _ tw_1897) (fun _ h9 => h9) rfl dX12_readFeature_97 ?_
            refine lv_if_le (tgt := 104) hx hb dX12_readFeature_100 (by decide) (fun c_2497 => ?_) (fun h9 => (z_no (by have h8 := z_fgtF h9; omega)))
            have b_2498 := z_fleT c_2497
            have hX_2499 : F_r_readFeature m_textEnd m_bad m_badAt m_token m_at m_behind m_number m_letters m_word g_tape g_c g_words g_hasFeels = F_r_readFeature_C104 g_c g_hasFeels r_2434 r_2461 (1 : Int32) n_2453 n_2454 n_2486 n_2487 n_2488 n_2489 n_2490 n_2491 n_2433 := by
              refine (F_r_readFeature_s ..).trans ?_
              try (extract_lets -merge -useContext +onlyGivenNames y9; have e9 : x_2141 = y9 := (by first | exact he_x_2141 | exact he_x_2141.symm); clear_value y9; subst e9)
              refine (if_neg c_2142).trans ?_
              try (extract_lets -merge -useContext +onlyGivenNames y9; have e9 : x_2280 = y9 := (by first | exact he_x_2280 | exact he_x_2280.symm); clear_value y9; subst e9)
              refine (if_neg c_2281).trans ?_
              extract_lets -merge -useContext +onlyGivenNames w9 y4_0 y4_1; have e9 : (n_2419, n_2420) = w9 := ((z_tS he_n_2419 he_n_2420.symm)).symm; clear_value w9; subst e9
              extract_lets -merge -useContext +onlyGivenNames w9 y5_0 y5_1 y5_2 y5_3 y5_4 y5_5 y5_6 y5_7 y5_8 y5_9; have e9 : (r_2434, n_2425, n_2426, n_2427, n_2428, n_2429, n_2430, n_2431, n_2432, n_2433) = w9 := ((z_tS he_r_2434 (z_tS he_n_2425 (z_tS he_n_2426 (z_tS he_n_2427 (z_tS he_n_2428 (z_tS he_n_2429 (z_tS he_n_2430 (z_tS he_n_2431 (z_tS he_n_2432 he_n_2433.symm)))))))))).symm; clear_value w9; subst e9
              extract_lets -merge -useContext +onlyGivenNames w9 y9; have e9 : r_2442 = w9 := he_r_2442; clear_value w9; subst e9
              refine (if_neg c_2446).trans ?_
              extract_lets -merge -useContext +onlyGivenNames w9 y8_0 y8_1; have e9 : (n_2448, n_2449) = w9 := ((z_tS he_n_2448 he_n_2449.symm)).symm; clear_value w9; subst e9
              extract_lets -merge -useContext +onlyGivenNames w9 y9_0 y9_1 y9_2 y9_3 y9_4 y9_5 y9_6 y9_7 y9_8; have e9 : (r_2461, n_2453, n_2454, n_2455, n_2456, n_2457, n_2458, n_2459, n_2460) = w9 := ((z_tS he_r_2461 (z_tS he_n_2453 (z_tS he_n_2454 (z_tS he_n_2455 (z_tS he_n_2456 (z_tS he_n_2457 (z_tS he_n_2458 (z_tS he_n_2459 he_n_2460.symm))))))))).symm; clear_value w9; subst e9
              refine (if_pos c_2470).trans ?_
              extract_lets -merge -useContext +onlyGivenNames w9 y9; have e9 : r_2476 = w9 := he_r_2476; clear_value w9; subst e9
              refine (if_pos c_2480).trans ?_
              extract_lets -merge -useContext +onlyGivenNames w9 y13_0 y13_1 y13_2 y13_3 y13_4 y13_5; have e9 : (n_2486, n_2487, n_2488, n_2489, n_2490, n_2491) = w9 := ((z_tS he_n_2486 (z_tS he_n_2487 (z_tS he_n_2488 (z_tS he_n_2489 (z_tS he_n_2490 he_n_2491.symm)))))).symm; clear_value w9; subst e9
              exact rfl
            have hP := hP.sub (ws' := [(h0, .inr (12, [.int m_status, .int m_thrown, .long m_above, .long m_under, .ref a_traySort, .ref a_trayMany, .ref a_numbers, .ref a_tape, .int m_taped, .int m_textEnd, .int m_faultKind, .int m_faultAt, .int n_2453, .int n_2454, .int n_2486, .int n_2487, .int n_2488, .int n_2489, .int n_2490, .long n_2491, .ref a_c, .ref a_words, .int m_markMany, .ref a_there, .ref a_tried, .ref a_best, .ref a_found, .int m_thereMany, .int m_foundMany, .int m_orderHow, .int m_orderRing, .int m_orderMany, .int m_hasBest, .long m_bestTop, .long m_bestBy, .ref a_weights, .ref a_shared, .int m_random, .int m_truePlace, .int m_trueWay, .int m_seconds, .int m_done, .int m_feelings, .int m_tries, .int m_leftOver, .int m_playDoor, .int m_playRing, .int m_isOpen, .int m_isOver, .int m_wasTried, .int m_hasPlayed, .ref a_feltNow, .ref a_last, .ref a_kept, .int m_hasSeconds, .int m_hasTurned, .int m_hasRound, .ref a_hasFeels, .ref a_isOn, .int m_firstAct, .long m_meanTop, .long m_meanBy, .ref a_order, .int m_rowMany, .int m_newSteps])), (a_tape, .inl (cA.1 2, 900, .inl g_tape)), (a_c, .inl (cA.1 0, 1825, .inl g_c)), (a_words, .inl (cA.1 1, 105, .inr (.inl n_2433))), (a_hasFeels, .inl (cA.1 3, 3, .inl g_hasFeels)), (a_isOn, .inl (cA.1 3, 10, .inl g_isOn))]) [4, 5, 2, 3, 0, 1] rfl
            have hD := hD.sub (ws' := [(h0, .inr (12, [.int m_status, .int m_thrown, .long m_above, .long m_under, .ref a_traySort, .ref a_trayMany, .ref a_numbers, .ref a_tape, .int m_taped, .int m_textEnd, .int m_faultKind, .int m_faultAt, .int n_2453, .int n_2454, .int n_2486, .int n_2487, .int n_2488, .int n_2489, .int n_2490, .long n_2491, .ref a_c, .ref a_words, .int m_markMany, .ref a_there, .ref a_tried, .ref a_best, .ref a_found, .int m_thereMany, .int m_foundMany, .int m_orderHow, .int m_orderRing, .int m_orderMany, .int m_hasBest, .long m_bestTop, .long m_bestBy, .ref a_weights, .ref a_shared, .int m_random, .int m_truePlace, .int m_trueWay, .int m_seconds, .int m_done, .int m_feelings, .int m_tries, .int m_leftOver, .int m_playDoor, .int m_playRing, .int m_isOpen, .int m_isOver, .int m_wasTried, .int m_hasPlayed, .ref a_feltNow, .ref a_last, .ref a_kept, .int m_hasSeconds, .int m_hasTurned, .int m_hasRound, .ref a_hasFeels, .ref a_isOn, .int m_firstAct, .long m_meanTop, .long m_meanBy, .ref a_order, .int m_rowMany, .int m_newSteps])), (a_tape, .inl (cA.1 2, 900, .inl g_tape)), (a_c, .inl (cA.1 0, 1825, .inl g_c)), (a_words, .inl (cA.1 1, 105, .inr (.inl n_2433))), (a_hasFeels, .inl (cA.1 3, 3, .inl g_hasFeels)), (a_isOn, .inl (cA.1 3, 10, .inl g_isOn))]) [4, 5, 2, 3, 0, 1] (by decide) rfl
            exact hct_104 r_2434 r_2461 1 n_2453 n_2454 n_2486 n_2487 n_2488 n_2489 n_2490 n_2491 n_2433 H locs ls hr_r_2434 (by omega) (by decide +kernel) (by omega) hr_n_2486 hr_n_2487 hr_n_2488 hr_n_2489 hr_n_2490 hNW0 hNF0 (by omega) (by omega) (by omega) (by omega) hX_2499 hP hD hS (lv_sub hl [3, 2, 1, 0] rfl)
      · have b_2500 := z_feqF c_2446
        refine lv_iconst (v := 1) hx hb dX12_readFeature_51 (by decide) ?_
        refine lv_goto (tgt := 56) hx hb dX12_readFeature_52 (by decide) ?_
        refine z_callVv (As := [.int 1]) (rest := []) (wr := [(a_hasFeels, .inl (cA.1 3, 3, .inl g_hasFeels)), (a_isOn, .inl (cA.1 3, 10, .inl g_isOn)), (a_c, .inl (cA.1 0, 1825, .inl g_c)), (a_words, .inl (cA.1 1, 105, .inr (.inl n_2433)))]) ⟨hx, hb, hml, hown, hts⟩ hK hE hT hP hD hS hA (r_must_1 l G cA h0 m_status m_thrown m_above m_under a_traySort a_trayMany a_numbers a_tape m_taped m_textEnd m_faultKind m_faultAt n_2425 n_2426 n_2427 n_2428 n_2429 n_2430 n_2431 n_2432 a_c a_words m_markMany a_there a_tried a_best a_found m_thereMany m_foundMany m_orderHow m_orderRing m_orderMany m_hasBest m_bestTop m_bestBy a_weights a_shared m_random m_truePlace m_trueWay m_seconds m_done m_feelings m_tries m_leftOver m_playDoor m_playRing m_isOpen m_isOver m_wasTried m_hasPlayed a_feltNow a_last a_kept m_hasSeconds m_hasTurned m_hasRound a_hasFeels a_isOn m_firstAct m_meanTop m_meanBy a_order m_rowMany m_newSteps g_tape hr_m_textEnd hr_n_2428 hr_n_2429 hr_n_2425 hr_n_2427 hr_n_2430 hr_n_2431) lk_RX12_210 ⟨rfl, rfl⟩ ⟨Nat.le_of_ble_eq_true rfl, Nat.le_of_ble_eq_true rfl⟩ 12 rfl rfl rfl [5, 2] [0, 1, 3, 4] rfl rfl (by decide) rfl hl.1 rfl (lv_room (Nat.le_of_ble_eq_true rfl)) dX12_readFeature_56 ⟨Nat.le_of_ble_eq_true rfl, Nat.le_of_ble_eq_true rfl⟩ (fun u_2508 H locs hw hP hD hS => ?_)
        obtain ⟨n_2501, n_2502, n_2503, n_2504, n_2505, n_2506⟩ := u_2508
        try dsimp only at hw
        obtain ⟨he_n_2501, he_n_2502, he_n_2503, he_n_2504, he_n_2505, he_n_2506, hw⟩ := hw
        obtain ⟨hr_n_2501, hr_n_2502, hr_n_2503, hr_n_2504, hr_n_2505, hf_2510, hf_2511, hf_2512⟩ := hw
        refine lv_aload_n hx hb dX12_readFeature_59 rfl (lv_at hl 1 rfl) ?_
        refine lv_iconst (v := 2) hx hb dX12_readFeature_60 (by decide) ?_
        refine lv_iconst (v := 4) hx hb dX12_readFeature_61 (by decide) ?_
        refine z_callVi (As := [.int 2, .int 4]) (rest := []) (wr := [(a_hasFeels, .inl (cA.1 3, 3, .inl g_hasFeels)), (a_isOn, .inl (cA.1 3, 10, .inl g_isOn)), (a_c, .inl (cA.1 0, 1825, .inl g_c)), (a_words, .inl (cA.1 1, 105, .inr (.inl n_2433)))]) ⟨hx, hb, hml, hown, hts⟩ hK hE hT hP hD hS hA (r_count l G cA h0 m_status m_thrown m_above m_under a_traySort a_trayMany a_numbers a_tape m_taped m_textEnd m_faultKind m_faultAt n_2425 n_2426 n_2501 n_2502 n_2503 n_2504 n_2505 n_2506 a_c a_words m_markMany a_there a_tried a_best a_found m_thereMany m_foundMany m_orderHow m_orderRing m_orderMany m_hasBest m_bestTop m_bestBy a_weights a_shared m_random m_truePlace m_trueWay m_seconds m_done m_feelings m_tries m_leftOver m_playDoor m_playRing m_isOpen m_isOver m_wasTried m_hasPlayed a_feltNow a_last a_kept m_hasSeconds m_hasTurned m_hasRound a_hasFeels a_isOn m_firstAct m_meanTop m_meanBy a_order m_rowMany m_newSteps g_tape 2 4 (by decide +kernel) (by decide +kernel) hr_m_textEnd hr_n_2502 hr_n_2503 hr_n_2425 hr_n_2501 hr_n_2504 hr_n_2505) lk_RX12_214 ⟨rfl, rfl⟩ ⟨Nat.le_of_ble_eq_true rfl, Nat.le_of_ble_eq_true rfl⟩ 12 rfl rfl rfl [4, 5] [0, 1, 2, 3] rfl rfl (by decide) rfl hl.1 rfl (lv_room (Nat.le_of_ble_eq_true rfl)) dX12_readFeature_62 ⟨Nat.le_of_ble_eq_true rfl, Nat.le_of_ble_eq_true rfl⟩ (fun r_2521 u_2522 H locs hw hP hD hS => ?_)
        obtain ⟨n_2513, n_2514, n_2515, n_2516, n_2517, n_2518, n_2519, n_2520⟩ := u_2522
        try dsimp only at hw
        obtain ⟨he_r_2521, he_n_2513, he_n_2514, he_n_2515, he_n_2516, he_n_2517, he_n_2518, he_n_2519, he_n_2520, hw⟩ := hw
        obtain ⟨hr_r_2521, hr_n_2513, hr_n_2515, hr_n_2516, hr_n_2517, hr_n_2518, hr_n_2519, hf_2524, hf_2525, hf_2526, hf_2527, hf_2528, hf_2529⟩ := hw
        refine lv_istore_n (lv' := [(2, .int r_2521), (1, .int r_2434), (0, .ref h0)]) hx hb dX12_readFeature_65 rfl hl (by decide) rfl (fun ls hl => ?_)
        refine lv_aload_n hx hb dX12_readFeature_66 rfl (lv_at hl 2 rfl) ?_
        refine va_get (D := G) (ci := 12) (v := .int n_2513) (C := RX12) (T := TX12) (N := 65) hx hb hts inT12 hown hK hP 4 rfl rfl 12 (by decide) (hts _ tw_1897) (fun _ h9 => h9) rfl dX12_readFeature_67 ?_
        refine lv_if_ne (tgt := 86) hx hb dX12_readFeature_70 (by decide) (fun c_2530 => ?_) (fun c_2530 => ?_)
        · have b_2531 := z_fneT c_2530
          refine lv_iconst (v := 0) hx hb dX12_readFeature_86 (by decide) ?_
          refine lv_istore_n (lv' := [(3, .int 0), (2, .int r_2521), (1, .int r_2434), (0, .ref h0)]) hx hb dX12_readFeature_87 rfl hl (by decide) rfl (fun ls hl => ?_)
          refine lv_iload_n hx hb dX12_readFeature_88 rfl (lv_at hl 0 rfl) ?_
          refine lv_if_eq (tgt := 96) hx hb dX12_readFeature_89 (by decide) (fun _ => ?_) (fun h9 => absurd (by decide +kernel) h9)
          refine lv_aload_n hx hb dX12_readFeature_96 rfl (lv_at hl 3 rfl) ?_
          refine va_get (D := G) (ci := 12) (v := .int n_2513) (C := RX12) (T := TX12) (N := 65) hx hb hts inT12 hown hK hP 4 rfl rfl 12 (by decide) (hts _ tw_1897) (fun _ h9 => h9) rfl dX12_readFeature_97 ?_
          refine lv_if_le (tgt := 104) hx hb dX12_readFeature_100 (by decide) (fun h9 => (z_no (by have h8 := z_fleT h9; omega))) (fun c_2532 => ?_)
          have b_2533 := z_fgtF c_2532
          have hpost : (0 ≤ n_2513.toInt ∧ n_2513.toInt ≤ 9) ∧ (0 ≤ n_2515.toInt ∧ n_2515.toInt ≤ 4) ∧ (0 ≤ n_2516.toInt ∧ n_2516.toInt ≤ 900) ∧ (0 ≤ n_2517.toInt ∧ n_2517.toInt ≤ 900) ∧ (0 ≤ n_2518.toInt ∧ n_2518.toInt ≤ 9999) ∧ (0 ≤ n_2519.toInt ∧ n_2519.toInt ≤ 900) ∧ (zC g_c) ∧ (zRg 3 0 1 g_hasFeels) ∧ (zNw g_c g_isOn) ∧ (m_behind.toInt ≤ n_2517.toInt) ∧ (0 < m_bad.toInt → 0 < n_2513.toInt) ∧ (n_2513.toInt ≤ 0 → n_2515.toInt = 0 ∨ m_behind.toInt < n_2517.toInt) ∧ (n_2513.toInt ≤ 0 → n_2515.toInt = 3 → n_2518.toInt = 59 → zNf g_c) := ⟨hr_n_2513, hr_n_2515, hr_n_2516, hr_n_2517, hr_n_2518, hr_n_2519, hC_g_c, hC_g_hasFeels, hNW0, (by omega), (by omega), (by omega), (fun _ _ _ => hNF0)⟩
          have hX_2534 : F_r_readFeature m_textEnd m_bad m_badAt m_token m_at m_behind m_number m_letters m_word g_tape g_c g_words g_hasFeels = ((n_2513, n_2514, n_2515, n_2516, n_2517, n_2518, n_2519, n_2520, g_c, n_2433, g_hasFeels) : Int32 × Int32 × Int32 × Int32 × Int32 × Int32 × Int32 × Int64 × (Nat → Int32) × (Nat → Int64) × (Nat → Int32)) := by
            refine (F_r_readFeature_s ..).trans ?_
            try (extract_lets -merge -useContext +onlyGivenNames y9; have e9 : x_2141 = y9 := (by first | exact he_x_2141 | exact he_x_2141.symm); clear_value y9; subst e9)
            refine (if_neg c_2142).trans ?_
            try (extract_lets -merge -useContext +onlyGivenNames y9; have e9 : x_2280 = y9 := (by first | exact he_x_2280 | exact he_x_2280.symm); clear_value y9; subst e9)
            refine (if_neg c_2281).trans ?_
            extract_lets -merge -useContext +onlyGivenNames w9 y4_0 y4_1; have e9 : (n_2419, n_2420) = w9 := ((z_tS he_n_2419 he_n_2420.symm)).symm; clear_value w9; subst e9
            extract_lets -merge -useContext +onlyGivenNames w9 y5_0 y5_1 y5_2 y5_3 y5_4 y5_5 y5_6 y5_7 y5_8 y5_9; have e9 : (r_2434, n_2425, n_2426, n_2427, n_2428, n_2429, n_2430, n_2431, n_2432, n_2433) = w9 := ((z_tS he_r_2434 (z_tS he_n_2425 (z_tS he_n_2426 (z_tS he_n_2427 (z_tS he_n_2428 (z_tS he_n_2429 (z_tS he_n_2430 (z_tS he_n_2431 (z_tS he_n_2432 he_n_2433.symm)))))))))).symm; clear_value w9; subst e9
            extract_lets -merge -useContext +onlyGivenNames w9 y9; have e9 : r_2442 = w9 := he_r_2442; clear_value w9; subst e9
            refine (if_pos c_2446).trans ?_
            extract_lets -merge -useContext +onlyGivenNames w9 y8_0 y8_1 y8_2 y8_3 y8_4 y8_5; have e9 : (n_2501, n_2502, n_2503, n_2504, n_2505, n_2506) = w9 := ((z_tS he_n_2501 (z_tS he_n_2502 (z_tS he_n_2503 (z_tS he_n_2504 (z_tS he_n_2505 he_n_2506.symm)))))).symm; clear_value w9; subst e9
            extract_lets -merge -useContext +onlyGivenNames w9 y9_0 y9_1 y9_2 y9_3 y9_4 y9_5 y9_6 y9_7 y9_8; have e9 : (r_2521, n_2513, n_2514, n_2515, n_2516, n_2517, n_2518, n_2519, n_2520) = w9 := ((z_tS he_r_2521 (z_tS he_n_2513 (z_tS he_n_2514 (z_tS he_n_2515 (z_tS he_n_2516 (z_tS he_n_2517 (z_tS he_n_2518 (z_tS he_n_2519 he_n_2520.symm))))))))).symm; clear_value w9; subst e9
            refine (if_neg c_2530).trans ?_
            exact rfl
          exact hret _ _ _ _ _ (n_2513, n_2514, n_2515, n_2516, n_2517, n_2518, n_2519, n_2520, g_c, n_2433, g_hasFeels) [4, 5, 2, 3, 0, 1] hP hD hS rfl (by decide) dX12_readFeature_103 ⟨(congrArg (fun z9 => z9.1) hX_2534).symm, (congrArg (fun z9 => z9.2.1) hX_2534).symm, (congrArg (fun z9 => z9.2.2.1) hX_2534).symm, (congrArg (fun z9 => z9.2.2.2.1) hX_2534).symm, (congrArg (fun z9 => z9.2.2.2.2.1) hX_2534).symm, (congrArg (fun z9 => z9.2.2.2.2.2.1) hX_2534).symm, (congrArg (fun z9 => z9.2.2.2.2.2.2.1) hX_2534).symm, (congrArg (fun z9 => z9.2.2.2.2.2.2.2.1) hX_2534).symm, (congrArg (fun z9 => z9.2.2.2.2.2.2.2.2.1) hX_2534).symm, (congrArg (fun z9 => z9.2.2.2.2.2.2.2.2.2.1) hX_2534).symm, (congrArg (fun z9 => z9.2.2.2.2.2.2.2.2.2.2) hX_2534).symm, hpost⟩
        · have b_2535 := z_feqF c_2530
          refine lv_aload_n hx hb dX12_readFeature_73 rfl (lv_at hl 2 rfl) ?_
          refine z_callVi (As := []) (rest := []) (wr := [(a_hasFeels, .inl (cA.1 3, 3, .inl g_hasFeels)), (a_isOn, .inl (cA.1 3, 10, .inl g_isOn)), (a_c, .inl (cA.1 0, 1825, .inl g_c)), (a_words, .inl (cA.1 1, 105, .inr (.inl n_2433))), (a_tape, .inl (cA.1 2, 900, .inl g_tape))]) ⟨hx, hb, hml, hown, hts⟩ hK hE hT hP hD hS hA (r_houseWord l G cA h0 m_status m_thrown m_above m_under a_traySort a_trayMany a_numbers a_tape m_taped m_textEnd m_faultKind m_faultAt n_2513 n_2514 n_2515 n_2516 n_2517 n_2518 n_2519 n_2520 a_c a_words m_markMany a_there a_tried a_best a_found m_thereMany m_foundMany m_orderHow m_orderRing m_orderMany m_hasBest m_bestTop m_bestBy a_weights a_shared m_random m_truePlace m_trueWay m_seconds m_done m_feelings m_tries m_leftOver m_playDoor m_playRing m_isOpen m_isOver m_wasTried m_hasPlayed a_feltNow a_last a_kept m_hasSeconds m_hasTurned m_hasRound a_hasFeels a_isOn m_firstAct m_meanTop m_meanBy a_order m_rowMany m_newSteps hr_n_2515) lk_RX12_170 ⟨rfl, rfl⟩ ⟨Nat.le_of_ble_eq_true rfl, Nat.le_of_ble_eq_true rfl⟩ 12 rfl rfl rfl [4] [0, 1, 2, 3, 5] rfl rfl (by decide) rfl hl.1 rfl (lv_room (Nat.le_of_ble_eq_true rfl)) dX12_readFeature_74 ⟨Nat.le_of_ble_eq_true rfl, Nat.le_of_ble_eq_true rfl⟩ (fun r_2536 u_2537 H locs hw hP hD hS => ?_)
          obtain ⟨he_r_2536, hw⟩ := hw
          obtain ⟨hr_r_2536, hf_2539⟩ := hw
          refine lv_bipush (v := 6) hx hb dX12_readFeature_77 (by decide) ?_
          refine lv_icmp_ne (tgt := 86) hx hb dX12_readFeature_79 (by decide) (fun c_2540 => ?_) (fun c_2540 => ?_)
          · have b_2541 := z_fneT c_2540
            refine lv_iconst (v := 0) hx hb dX12_readFeature_86 (by decide) ?_
            refine lv_istore_n (lv' := [(3, .int 0), (2, .int r_2521), (1, .int r_2434), (0, .ref h0)]) hx hb dX12_readFeature_87 rfl hl (by decide) rfl (fun ls hl => ?_)
            refine lv_iload_n hx hb dX12_readFeature_88 rfl (lv_at hl 0 rfl) ?_
            refine lv_if_eq (tgt := 96) hx hb dX12_readFeature_89 (by decide) (fun _ => ?_) (fun h9 => absurd (by decide +kernel) h9)
            refine lv_aload_n hx hb dX12_readFeature_96 rfl (lv_at hl 3 rfl) ?_
            refine va_get (D := G) (ci := 12) (v := .int n_2513) (C := RX12) (T := TX12) (N := 65) hx hb hts inT12 hown hK hP 5 rfl rfl 12 (by decide) (hts _ tw_1897) (fun _ h9 => h9) rfl dX12_readFeature_97 ?_
            refine lv_if_le (tgt := 104) hx hb dX12_readFeature_100 (by decide) (fun c_2542 => ?_) (fun h9 => (z_no (by have h8 := z_fgtF h9; omega)))
            have b_2543 := z_fleT c_2542
            have hX_2544 : F_r_readFeature m_textEnd m_bad m_badAt m_token m_at m_behind m_number m_letters m_word g_tape g_c g_words g_hasFeels = F_r_readFeature_C104 g_c g_hasFeels r_2434 r_2521 (0 : Int32) n_2513 n_2514 n_2515 n_2516 n_2517 n_2518 n_2519 n_2520 n_2433 := by
              refine (F_r_readFeature_s ..).trans ?_
              try (extract_lets -merge -useContext +onlyGivenNames y9; have e9 : x_2141 = y9 := (by first | exact he_x_2141 | exact he_x_2141.symm); clear_value y9; subst e9)
              refine (if_neg c_2142).trans ?_
              try (extract_lets -merge -useContext +onlyGivenNames y9; have e9 : x_2280 = y9 := (by first | exact he_x_2280 | exact he_x_2280.symm); clear_value y9; subst e9)
              refine (if_neg c_2281).trans ?_
              extract_lets -merge -useContext +onlyGivenNames w9 y4_0 y4_1; have e9 : (n_2419, n_2420) = w9 := ((z_tS he_n_2419 he_n_2420.symm)).symm; clear_value w9; subst e9
              extract_lets -merge -useContext +onlyGivenNames w9 y5_0 y5_1 y5_2 y5_3 y5_4 y5_5 y5_6 y5_7 y5_8 y5_9; have e9 : (r_2434, n_2425, n_2426, n_2427, n_2428, n_2429, n_2430, n_2431, n_2432, n_2433) = w9 := ((z_tS he_r_2434 (z_tS he_n_2425 (z_tS he_n_2426 (z_tS he_n_2427 (z_tS he_n_2428 (z_tS he_n_2429 (z_tS he_n_2430 (z_tS he_n_2431 (z_tS he_n_2432 he_n_2433.symm)))))))))).symm; clear_value w9; subst e9
              extract_lets -merge -useContext +onlyGivenNames w9 y9; have e9 : r_2442 = w9 := he_r_2442; clear_value w9; subst e9
              refine (if_pos c_2446).trans ?_
              extract_lets -merge -useContext +onlyGivenNames w9 y8_0 y8_1 y8_2 y8_3 y8_4 y8_5; have e9 : (n_2501, n_2502, n_2503, n_2504, n_2505, n_2506) = w9 := ((z_tS he_n_2501 (z_tS he_n_2502 (z_tS he_n_2503 (z_tS he_n_2504 (z_tS he_n_2505 he_n_2506.symm)))))).symm; clear_value w9; subst e9
              extract_lets -merge -useContext +onlyGivenNames w9 y9_0 y9_1 y9_2 y9_3 y9_4 y9_5 y9_6 y9_7 y9_8; have e9 : (r_2521, n_2513, n_2514, n_2515, n_2516, n_2517, n_2518, n_2519, n_2520) = w9 := ((z_tS he_r_2521 (z_tS he_n_2513 (z_tS he_n_2514 (z_tS he_n_2515 (z_tS he_n_2516 (z_tS he_n_2517 (z_tS he_n_2518 (z_tS he_n_2519 he_n_2520.symm))))))))).symm; clear_value w9; subst e9
              refine (if_pos c_2530).trans ?_
              extract_lets -merge -useContext +onlyGivenNames w9 y9; have e9 : r_2536 = w9 := he_r_2536; clear_value w9; subst e9
              refine (if_neg c_2540).trans ?_
              exact rfl
            have hP := hP.sub (ws' := [(h0, .inr (12, [.int m_status, .int m_thrown, .long m_above, .long m_under, .ref a_traySort, .ref a_trayMany, .ref a_numbers, .ref a_tape, .int m_taped, .int m_textEnd, .int m_faultKind, .int m_faultAt, .int n_2513, .int n_2514, .int n_2515, .int n_2516, .int n_2517, .int n_2518, .int n_2519, .long n_2520, .ref a_c, .ref a_words, .int m_markMany, .ref a_there, .ref a_tried, .ref a_best, .ref a_found, .int m_thereMany, .int m_foundMany, .int m_orderHow, .int m_orderRing, .int m_orderMany, .int m_hasBest, .long m_bestTop, .long m_bestBy, .ref a_weights, .ref a_shared, .int m_random, .int m_truePlace, .int m_trueWay, .int m_seconds, .int m_done, .int m_feelings, .int m_tries, .int m_leftOver, .int m_playDoor, .int m_playRing, .int m_isOpen, .int m_isOver, .int m_wasTried, .int m_hasPlayed, .ref a_feltNow, .ref a_last, .ref a_kept, .int m_hasSeconds, .int m_hasTurned, .int m_hasRound, .ref a_hasFeels, .ref a_isOn, .int m_firstAct, .long m_meanTop, .long m_meanBy, .ref a_order, .int m_rowMany, .int m_newSteps])), (a_tape, .inl (cA.1 2, 900, .inl g_tape)), (a_c, .inl (cA.1 0, 1825, .inl g_c)), (a_words, .inl (cA.1 1, 105, .inr (.inl n_2433))), (a_hasFeels, .inl (cA.1 3, 3, .inl g_hasFeels)), (a_isOn, .inl (cA.1 3, 10, .inl g_isOn))]) [5, 4, 2, 3, 0, 1] rfl
            have hD := hD.sub (ws' := [(h0, .inr (12, [.int m_status, .int m_thrown, .long m_above, .long m_under, .ref a_traySort, .ref a_trayMany, .ref a_numbers, .ref a_tape, .int m_taped, .int m_textEnd, .int m_faultKind, .int m_faultAt, .int n_2513, .int n_2514, .int n_2515, .int n_2516, .int n_2517, .int n_2518, .int n_2519, .long n_2520, .ref a_c, .ref a_words, .int m_markMany, .ref a_there, .ref a_tried, .ref a_best, .ref a_found, .int m_thereMany, .int m_foundMany, .int m_orderHow, .int m_orderRing, .int m_orderMany, .int m_hasBest, .long m_bestTop, .long m_bestBy, .ref a_weights, .ref a_shared, .int m_random, .int m_truePlace, .int m_trueWay, .int m_seconds, .int m_done, .int m_feelings, .int m_tries, .int m_leftOver, .int m_playDoor, .int m_playRing, .int m_isOpen, .int m_isOver, .int m_wasTried, .int m_hasPlayed, .ref a_feltNow, .ref a_last, .ref a_kept, .int m_hasSeconds, .int m_hasTurned, .int m_hasRound, .ref a_hasFeels, .ref a_isOn, .int m_firstAct, .long m_meanTop, .long m_meanBy, .ref a_order, .int m_rowMany, .int m_newSteps])), (a_tape, .inl (cA.1 2, 900, .inl g_tape)), (a_c, .inl (cA.1 0, 1825, .inl g_c)), (a_words, .inl (cA.1 1, 105, .inr (.inl n_2433))), (a_hasFeels, .inl (cA.1 3, 3, .inl g_hasFeels)), (a_isOn, .inl (cA.1 3, 10, .inl g_isOn))]) [5, 4, 2, 3, 0, 1] (by decide) rfl
            exact hct_104 r_2434 r_2521 0 n_2513 n_2514 n_2515 n_2516 n_2517 n_2518 n_2519 n_2520 n_2433 H locs ls hr_r_2434 (by omega) (by decide +kernel) (by omega) hr_n_2515 hr_n_2516 hr_n_2517 hr_n_2518 hr_n_2519 hNW0 hNF0 (by omega) (by omega) (by omega) (by omega) hX_2544 hP hD hS (lv_sub hl [3, 2, 1, 0] rfl)
          · have b_2545 := z_feqF c_2540
            refine lv_iconst (v := 1) hx hb dX12_readFeature_82 (by decide) ?_
            refine lv_goto (tgt := 87) hx hb dX12_readFeature_83 (by decide) ?_
            refine lv_istore_n (lv' := [(3, .int 1), (2, .int r_2521), (1, .int r_2434), (0, .ref h0)]) hx hb dX12_readFeature_87 rfl hl (by decide) rfl (fun ls hl => ?_)
            refine lv_iload_n hx hb dX12_readFeature_88 rfl (lv_at hl 0 rfl) ?_
            refine lv_if_eq (tgt := 96) hx hb dX12_readFeature_89 (by decide) (fun h9 => absurd h9 (by decide +kernel)) (fun _ => ?_)
            refine lv_aload_n hx hb dX12_readFeature_92 rfl (lv_at hl 3 rfl) ?_
            refine z_callVv (As := []) (rest := []) (wr := [(a_hasFeels, .inl (cA.1 3, 3, .inl g_hasFeels)), (a_isOn, .inl (cA.1 3, 10, .inl g_isOn)), (a_c, .inl (cA.1 0, 1825, .inl g_c)), (a_words, .inl (cA.1 1, 105, .inr (.inl n_2433)))]) ⟨hx, hb, hml, hown, hts⟩ hK hE hT hP hD hS hA (r_next2 l G cA h0 m_status m_thrown m_above m_under a_traySort a_trayMany a_numbers a_tape m_taped m_textEnd m_faultKind m_faultAt n_2513 n_2514 n_2515 n_2516 n_2517 n_2518 n_2519 n_2520 a_c a_words m_markMany a_there a_tried a_best a_found m_thereMany m_foundMany m_orderHow m_orderRing m_orderMany m_hasBest m_bestTop m_bestBy a_weights a_shared m_random m_truePlace m_trueWay m_seconds m_done m_feelings m_tries m_leftOver m_playDoor m_playRing m_isOpen m_isOver m_wasTried m_hasPlayed a_feltNow a_last a_kept m_hasSeconds m_hasTurned m_hasRound a_hasFeels a_isOn m_firstAct m_meanTop m_meanBy a_order m_rowMany m_newSteps g_tape hr_m_textEnd hr_n_2516 hr_n_2517 hr_n_2515 hr_n_2518 hr_n_2519) lk_RX12_184 ⟨rfl, rfl⟩ ⟨Nat.le_of_ble_eq_true rfl, Nat.le_of_ble_eq_true rfl⟩ 12 rfl rfl rfl [5, 4] [0, 1, 2, 3] rfl rfl (by decide) rfl hl.1 rfl (lv_room (Nat.le_of_ble_eq_true rfl)) dX12_readFeature_93 ⟨Nat.le_of_ble_eq_true rfl, Nat.le_of_ble_eq_true rfl⟩ (fun u_2553 H locs hw hP hD hS => ?_)
            obtain ⟨n_2546, n_2547, n_2548, n_2549, n_2550, n_2551⟩ := u_2553
            try dsimp only at hw
            obtain ⟨he_n_2546, he_n_2547, he_n_2548, he_n_2549, he_n_2550, he_n_2551, hw⟩ := hw
            obtain ⟨hr_n_2546, hr_n_2547, hr_n_2548, hr_n_2549, hr_n_2550, hf_2555, hf_2556⟩ := hw
            refine lv_aload_n hx hb dX12_readFeature_96 rfl (lv_at hl 3 rfl) ?_
            refine va_get (D := G) (ci := 12) (v := .int n_2513) (C := RX12) (T := TX12) (N := 65) hx hb hts inT12 hown hK hP 4 rfl rfl 12 (by decide) (hts _ tw_1897) (fun _ h9 => h9) rfl dX12_readFeature_97 ?_
            refine lv_if_le (tgt := 104) hx hb dX12_readFeature_100 (by decide) (fun c_2557 => ?_) (fun h9 => (z_no (by have h8 := z_fgtF h9; omega)))
            have b_2558 := z_fleT c_2557
            have hX_2559 : F_r_readFeature m_textEnd m_bad m_badAt m_token m_at m_behind m_number m_letters m_word g_tape g_c g_words g_hasFeels = F_r_readFeature_C104 g_c g_hasFeels r_2434 r_2521 (1 : Int32) n_2513 n_2514 n_2546 n_2547 n_2548 n_2549 n_2550 n_2551 n_2433 := by
              refine (F_r_readFeature_s ..).trans ?_
              try (extract_lets -merge -useContext +onlyGivenNames y9; have e9 : x_2141 = y9 := (by first | exact he_x_2141 | exact he_x_2141.symm); clear_value y9; subst e9)
              refine (if_neg c_2142).trans ?_
              try (extract_lets -merge -useContext +onlyGivenNames y9; have e9 : x_2280 = y9 := (by first | exact he_x_2280 | exact he_x_2280.symm); clear_value y9; subst e9)
              refine (if_neg c_2281).trans ?_
              extract_lets -merge -useContext +onlyGivenNames w9 y4_0 y4_1; have e9 : (n_2419, n_2420) = w9 := ((z_tS he_n_2419 he_n_2420.symm)).symm; clear_value w9; subst e9
              extract_lets -merge -useContext +onlyGivenNames w9 y5_0 y5_1 y5_2 y5_3 y5_4 y5_5 y5_6 y5_7 y5_8 y5_9; have e9 : (r_2434, n_2425, n_2426, n_2427, n_2428, n_2429, n_2430, n_2431, n_2432, n_2433) = w9 := ((z_tS he_r_2434 (z_tS he_n_2425 (z_tS he_n_2426 (z_tS he_n_2427 (z_tS he_n_2428 (z_tS he_n_2429 (z_tS he_n_2430 (z_tS he_n_2431 (z_tS he_n_2432 he_n_2433.symm)))))))))).symm; clear_value w9; subst e9
              extract_lets -merge -useContext +onlyGivenNames w9 y9; have e9 : r_2442 = w9 := he_r_2442; clear_value w9; subst e9
              refine (if_pos c_2446).trans ?_
              extract_lets -merge -useContext +onlyGivenNames w9 y8_0 y8_1 y8_2 y8_3 y8_4 y8_5; have e9 : (n_2501, n_2502, n_2503, n_2504, n_2505, n_2506) = w9 := ((z_tS he_n_2501 (z_tS he_n_2502 (z_tS he_n_2503 (z_tS he_n_2504 (z_tS he_n_2505 he_n_2506.symm)))))).symm; clear_value w9; subst e9
              extract_lets -merge -useContext +onlyGivenNames w9 y9_0 y9_1 y9_2 y9_3 y9_4 y9_5 y9_6 y9_7 y9_8; have e9 : (r_2521, n_2513, n_2514, n_2515, n_2516, n_2517, n_2518, n_2519, n_2520) = w9 := ((z_tS he_r_2521 (z_tS he_n_2513 (z_tS he_n_2514 (z_tS he_n_2515 (z_tS he_n_2516 (z_tS he_n_2517 (z_tS he_n_2518 (z_tS he_n_2519 he_n_2520.symm))))))))).symm; clear_value w9; subst e9
              refine (if_pos c_2530).trans ?_
              extract_lets -merge -useContext +onlyGivenNames w9 y9; have e9 : r_2536 = w9 := he_r_2536; clear_value w9; subst e9
              refine (if_pos c_2540).trans ?_
              extract_lets -merge -useContext +onlyGivenNames w9 y13_0 y13_1 y13_2 y13_3 y13_4 y13_5; have e9 : (n_2546, n_2547, n_2548, n_2549, n_2550, n_2551) = w9 := ((z_tS he_n_2546 (z_tS he_n_2547 (z_tS he_n_2548 (z_tS he_n_2549 (z_tS he_n_2550 he_n_2551.symm)))))).symm; clear_value w9; subst e9
              exact rfl
            have hP := hP.sub (ws' := [(h0, .inr (12, [.int m_status, .int m_thrown, .long m_above, .long m_under, .ref a_traySort, .ref a_trayMany, .ref a_numbers, .ref a_tape, .int m_taped, .int m_textEnd, .int m_faultKind, .int m_faultAt, .int n_2513, .int n_2514, .int n_2546, .int n_2547, .int n_2548, .int n_2549, .int n_2550, .long n_2551, .ref a_c, .ref a_words, .int m_markMany, .ref a_there, .ref a_tried, .ref a_best, .ref a_found, .int m_thereMany, .int m_foundMany, .int m_orderHow, .int m_orderRing, .int m_orderMany, .int m_hasBest, .long m_bestTop, .long m_bestBy, .ref a_weights, .ref a_shared, .int m_random, .int m_truePlace, .int m_trueWay, .int m_seconds, .int m_done, .int m_feelings, .int m_tries, .int m_leftOver, .int m_playDoor, .int m_playRing, .int m_isOpen, .int m_isOver, .int m_wasTried, .int m_hasPlayed, .ref a_feltNow, .ref a_last, .ref a_kept, .int m_hasSeconds, .int m_hasTurned, .int m_hasRound, .ref a_hasFeels, .ref a_isOn, .int m_firstAct, .long m_meanTop, .long m_meanBy, .ref a_order, .int m_rowMany, .int m_newSteps])), (a_tape, .inl (cA.1 2, 900, .inl g_tape)), (a_c, .inl (cA.1 0, 1825, .inl g_c)), (a_words, .inl (cA.1 1, 105, .inr (.inl n_2433))), (a_hasFeels, .inl (cA.1 3, 3, .inl g_hasFeels)), (a_isOn, .inl (cA.1 3, 10, .inl g_isOn))]) [4, 5, 2, 3, 0, 1] rfl
            have hD := hD.sub (ws' := [(h0, .inr (12, [.int m_status, .int m_thrown, .long m_above, .long m_under, .ref a_traySort, .ref a_trayMany, .ref a_numbers, .ref a_tape, .int m_taped, .int m_textEnd, .int m_faultKind, .int m_faultAt, .int n_2513, .int n_2514, .int n_2546, .int n_2547, .int n_2548, .int n_2549, .int n_2550, .long n_2551, .ref a_c, .ref a_words, .int m_markMany, .ref a_there, .ref a_tried, .ref a_best, .ref a_found, .int m_thereMany, .int m_foundMany, .int m_orderHow, .int m_orderRing, .int m_orderMany, .int m_hasBest, .long m_bestTop, .long m_bestBy, .ref a_weights, .ref a_shared, .int m_random, .int m_truePlace, .int m_trueWay, .int m_seconds, .int m_done, .int m_feelings, .int m_tries, .int m_leftOver, .int m_playDoor, .int m_playRing, .int m_isOpen, .int m_isOver, .int m_wasTried, .int m_hasPlayed, .ref a_feltNow, .ref a_last, .ref a_kept, .int m_hasSeconds, .int m_hasTurned, .int m_hasRound, .ref a_hasFeels, .ref a_isOn, .int m_firstAct, .long m_meanTop, .long m_meanBy, .ref a_order, .int m_rowMany, .int m_newSteps])), (a_tape, .inl (cA.1 2, 900, .inl g_tape)), (a_c, .inl (cA.1 0, 1825, .inl g_c)), (a_words, .inl (cA.1 1, 105, .inr (.inl n_2433))), (a_hasFeels, .inl (cA.1 3, 3, .inl g_hasFeels)), (a_isOn, .inl (cA.1 3, 10, .inl g_isOn))]) [4, 5, 2, 3, 0, 1] (by decide) rfl
            exact hct_104 r_2434 r_2521 1 n_2513 n_2514 n_2546 n_2547 n_2548 n_2549 n_2550 n_2551 n_2433 H locs ls hr_r_2434 (by omega) (by decide +kernel) (by omega) hr_n_2546 hr_n_2547 hr_n_2548 hr_n_2549 hr_n_2550 hNW0 hNF0 (by omega) (by omega) (by omega) (by omega) hX_2559 hP hD hS (lv_sub hl [3, 2, 1, 0] rfl)
