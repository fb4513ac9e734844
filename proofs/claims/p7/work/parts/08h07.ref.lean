set_option maxHeartbeats 4000000 in
set_option maxRecDepth 100000 in
theorem r_meanFrom (l : Launch) (G : va_G) (cA : zCA) (h0 : Nat) (m_status : Int32) (m_thrown : Int32) (m_above : Int64) (m_under : Int64) (a_traySort : Nat) (a_trayMany : Nat) (a_numbers : Nat) (a_tape : Nat) (m_taped : Int32) (m_textEnd : Int32) (m_faultKind : Int32) (m_faultAt : Int32) (m_bad : Int32) (m_badAt : Int32) (m_token : Int32) (m_at : Int32) (m_behind : Int32) (m_number : Int32) (m_letters : Int32) (m_word : Int64) (a_c : Nat) (a_words : Nat) (m_markMany : Int32) (a_there : Nat) (a_tried : Nat) (a_best : Nat) (a_found : Nat) (m_thereMany : Int32) (m_foundMany : Int32) (m_orderHow : Int32) (m_orderRing : Int32) (m_orderMany : Int32) (m_hasBest : Int32) (m_bestTop : Int64) (m_bestBy : Int64) (a_weights : Nat) (a_shared : Nat) (m_random : Int32) (m_truePlace : Int32) (m_trueWay : Int32) (m_seconds : Int32) (m_done : Int32) (m_feelings : Int32) (m_tries : Int32) (m_leftOver : Int32) (m_playDoor : Int32) (m_playRing : Int32) (m_isOpen : Int32) (m_isOver : Int32) (m_wasTried : Int32) (m_hasPlayed : Int32) (a_feltNow : Nat) (a_last : Nat) (a_kept : Nat) (m_hasSeconds : Int32) (m_hasTurned : Int32) (m_hasRound : Int32) (a_hasFeels : Nat) (a_isOn : Nat) (m_firstAct : Int32) (m_meanTop : Int64) (m_meanBy : Int64) (a_order : Nat) (m_rowMany : Int32) (m_newSteps : Int32) (g_c : Nat → Int32) (g_there : Nat → Int32) (pp : Int32) (w : Int32) (hr_pp : 0 ≤ pp.toInt ∧ pp.toInt ≤ 9) (hr_w : 0 ≤ w.toInt ∧ w.toInt ≤ 1) (hr_m_thereMany : 0 ≤ m_thereMany.toInt ∧ m_thereMany.toInt ≤ 10) (hC_g_c : zC g_c) (hC_g_there : zRg 10 0 9 g_there) (hp_0 : m_thereMany.toInt ≤ 0 ∨ pp.toInt < m_thereMany.toInt) : zCv l yX12_meanFrom cX12_meanFrom 5 none ({ frames := 2, cells := 0, slots := 0, locals := 48 }) G cA [.ref h0, .int pp, .int w] [(h0, .inr (12, [.int m_status, .int m_thrown, .long m_above, .long m_under, .ref a_traySort, .ref a_trayMany, .ref a_numbers, .ref a_tape, .int m_taped, .int m_textEnd, .int m_faultKind, .int m_faultAt, .int m_bad, .int m_badAt, .int m_token, .int m_at, .int m_behind, .int m_number, .int m_letters, .long m_word, .ref a_c, .ref a_words, .int m_markMany, .ref a_there, .ref a_tried, .ref a_best, .ref a_found, .int m_thereMany, .int m_foundMany, .int m_orderHow, .int m_orderRing, .int m_orderMany, .int m_hasBest, .long m_bestTop, .long m_bestBy, .ref a_weights, .ref a_shared, .int m_random, .int m_truePlace, .int m_trueWay, .int m_seconds, .int m_done, .int m_feelings, .int m_tries, .int m_leftOver, .int m_playDoor, .int m_playRing, .int m_isOpen, .int m_isOver, .int m_wasTried, .int m_hasPlayed, .ref a_feltNow, .ref a_last, .ref a_kept, .int m_hasSeconds, .int m_hasTurned, .int m_hasRound, .ref a_hasFeels, .ref a_isOn, .int m_firstAct, .long m_meanTop, .long m_meanBy, .ref a_order, .int m_rowMany, .int m_newSteps])), (a_c, .inl (cA.1 0, 1825, .inl g_c)), (a_there, .inl (cA.1 0, 10, .inl g_there))] (S := Int64 × Int64) (fun (u : Int64 × Int64) => (0 ≤ u.2.toInt ∧ u.2.toInt ≤ 495) ∧ ((1 ≤ u.2.toInt ∧ zMB g_c g_there m_thereMany.toInt) ∨ (u.2.toInt = 0 ∧ ¬ zMB g_c g_there m_thereMany.toInt))) (fun (u : Int64 × Int64) => [(h0, .inr (12, [.int m_status, .int m_thrown, .long m_above, .long m_under, .ref a_traySort, .ref a_trayMany, .ref a_numbers, .ref a_tape, .int m_taped, .int m_textEnd, .int m_faultKind, .int m_faultAt, .int m_bad, .int m_badAt, .int m_token, .int m_at, .int m_behind, .int m_number, .int m_letters, .long m_word, .ref a_c, .ref a_words, .int m_markMany, .ref a_there, .ref a_tried, .ref a_best, .ref a_found, .int m_thereMany, .int m_foundMany, .int m_orderHow, .int m_orderRing, .int m_orderMany, .int m_hasBest, .long m_bestTop, .long m_bestBy, .ref a_weights, .ref a_shared, .int m_random, .int m_truePlace, .int m_trueWay, .int m_seconds, .int m_done, .int m_feelings, .int m_tries, .int m_leftOver, .int m_playDoor, .int m_playRing, .int m_isOpen, .int m_isOver, .int m_wasTried, .int m_hasPlayed, .ref a_feltNow, .ref a_last, .ref a_kept, .int m_hasSeconds, .int m_hasTurned, .int m_hasRound, .ref a_hasFeels, .ref a_isOn, .int m_firstAct, .long u.1, .long u.2, .ref a_order, .int m_rowMany, .int m_newSteps])), (a_c, .inl (cA.1 0, 1825, .inl g_c)), (a_there, .inl (cA.1 0, 10, .inl g_there))]) 0 0 := by
  have hk_0 : (0 : Int32).toInt = 0 := by decide +kernel
  have hk_1 : (1 : Int32).toInt = 1 := by decide +kernel
  have hk_128 : (128 : Int32).toInt = 128 := by decide +kernel
  have hkl_0 : (0 : Int64).toInt = 0 := by decide +kernel
  refine z_start2v (own := RX12) (by decide) (Nat.le_of_ble_eq_true rfl) rfl ?_
  intro p e s m args below meth c A ls Q hx hb hml hts hown hK hE hT hP hD hS hA hl hret
  have hl : lv_has ls 5 [(0, .ref h0), (1, .int pp), (2, .int w)] := hl
  refine lv_aload_n hx hb dX12_meanFrom_0 rfl (lv_at hl 0 rfl) ?_
  refine lv_lconst (v := 0) hx hb dX12_meanFrom_1 (by decide) ?_
  refine va_put (D := G) (ci := 12) (v := .long 0) (ty := .long) (C := RX12) (T := TX12) (N := 65) hx hb hts inT12 tyX12 tyX12_ok nmX12 hown hK hP hD hS 0 rfl rfl 60 (by decide) (hts _ tw_1943) (fun _ h9 => h9) rfl (tyX12_ok 60 (by decide)) rfl rfl (Nat.le_of_ble_eq_true rfl) dX12_meanFrom_2 (fun H locs hP hD hS => ?_)
  refine lv_aload_n hx hb dX12_meanFrom_5 rfl (lv_at hl 0 rfl) ?_
  refine lv_lconst (v := 0) hx hb dX12_meanFrom_6 (by decide) ?_
  refine va_put (D := G) (ci := 12) (v := .long 0) (ty := .long) (C := RX12) (T := TX12) (N := 65) hx hb hts inT12 tyX12 tyX12_ok nmX12 hown hK hP hD hS 0 rfl rfl 61 (by decide) (hts _ tw_1944) (fun _ h9 => h9) rfl (tyX12_ok 61 (by decide)) rfl rfl (Nat.le_of_ble_eq_true rfl) dX12_meanFrom_7 (fun H locs hP hD hS => ?_)
  have hg3 := zC_3 hC_g_c.1
  refine lv_iconst (v := 0) hx hb dX12_meanFrom_10 (by decide) ?_
  refine lv_istore_n (lv' := [(3, .int 0), (0, .ref h0), (1, .int pp), (2, .int w)]) hx hb dX12_meanFrom_11 rfl hl (by decide) rfl (fun ls hl => ?_)
  have hlp_258 : ∀ (n : Nat) (v_226 : Int32) (v_227 : Int64) (v_228 : Int64) (H : Heap) (locs : List Loc) (ls : Array Slot), (2147483647 - v_226.toInt).toNat < n → (0 ≤ v_226.toInt ∧ v_226.toInt ≤ 5) → (0 ≤ v_228.toInt ∧ v_228.toInt ≤ 495) → ((1 ≤ v_228.toInt ∧ zMd g_c g_there m_thereMany.toInt v_226.toInt) ∨ (v_228.toInt = 0 ∧ ¬ zMd g_c g_there m_thereMany.toInt v_226.toInt)) → (v_228.toInt ≤ 99 * v_226.toInt) → (v_226.toInt ≤ (g_c 3).toInt) → va_P G vwCl [(h0, .inr (12, [.int m_status, .int m_thrown, .long m_above, .long m_under, .ref a_traySort, .ref a_trayMany, .ref a_numbers, .ref a_tape, .int m_taped, .int m_textEnd, .int m_faultKind, .int m_faultAt, .int m_bad, .int m_badAt, .int m_token, .int m_at, .int m_behind, .int m_number, .int m_letters, .long m_word, .ref a_c, .ref a_words, .int m_markMany, .ref a_there, .ref a_tried, .ref a_best, .ref a_found, .int m_thereMany, .int m_foundMany, .int m_orderHow, .int m_orderRing, .int m_orderMany, .int m_hasBest, .long m_bestTop, .long m_bestBy, .ref a_weights, .ref a_shared, .int m_random, .int m_truePlace, .int m_trueWay, .int m_seconds, .int m_done, .int m_feelings, .int m_tries, .int m_leftOver, .int m_playDoor, .int m_playRing, .int m_isOpen, .int m_isOver, .int m_wasTried, .int m_hasPlayed, .ref a_feltNow, .ref a_last, .ref a_kept, .int m_hasSeconds, .int m_hasTurned, .int m_hasRound, .ref a_hasFeels, .ref a_isOn, .int m_firstAct, .long v_227, .long v_228, .ref a_order, .int m_rowMany, .int m_newSteps])), (a_c, .inl (cA.1 0, 1825, .inl g_c)), (a_there, .inl (cA.1 0, 10, .inl g_there))] H → va_D A [(h0, .inr (12, [.int m_status, .int m_thrown, .long m_above, .long m_under, .ref a_traySort, .ref a_trayMany, .ref a_numbers, .ref a_tape, .int m_taped, .int m_textEnd, .int m_faultKind, .int m_faultAt, .int m_bad, .int m_badAt, .int m_token, .int m_at, .int m_behind, .int m_number, .int m_letters, .long m_word, .ref a_c, .ref a_words, .int m_markMany, .ref a_there, .ref a_tried, .ref a_best, .ref a_found, .int m_thereMany, .int m_foundMany, .int m_orderHow, .int m_orderRing, .int m_orderMany, .int m_hasBest, .long m_bestTop, .long m_bestBy, .ref a_weights, .ref a_shared, .int m_random, .int m_truePlace, .int m_trueWay, .int m_seconds, .int m_done, .int m_feelings, .int m_tries, .int m_leftOver, .int m_playDoor, .int m_playRing, .int m_isOpen, .int m_isOver, .int m_wasTried, .int m_hasPlayed, .ref a_feltNow, .ref a_last, .ref a_kept, .int m_hasSeconds, .int m_hasTurned, .int m_hasRound, .ref a_hasFeels, .ref a_isOn, .int m_firstAct, .long v_227, .long v_228, .ref a_order, .int m_rowMany, .int m_newSteps])), (a_c, .inl (cA.1 0, 1825, .inl g_c)), (a_there, .inl (cA.1 0, 10, .inl g_there))] → va_S A s.heap H locs → lv_has ls 5 [(0, .ref h0), (1, .int pp), (2, .int w), (3, .int v_226)] → W p l e ({ frames := 2, cells := 0, slots := 0, locals := 48 }) s m args below meth c H locs 0 0 Q (F0 m 12 ls []) := by
    intro n
    induction n with
    | zero =>
      intro v_226 v_227 v_228 H locs ls hmu_hlp_258 hr_v_226 hr_v_228 hi_255 hi_256 hi_257 hP hD hS hl
      exact absurd hmu_hlp_258 (Nat.not_lt_zero _)
    | succ n ih_259 =>
      intro v_226 v_227 v_228 H locs ls hmu_hlp_258 hr_v_226 hr_v_228 hi_255 hi_256 hi_257 hP hD hS hl
      refine lv_iload_n hx hb dX12_meanFrom_12 rfl (lv_at hl 3 rfl) ?_
      refine lv_aload_n hx hb dX12_meanFrom_13 rfl (lv_at hl 0 rfl) ?_
      refine va_get (D := G) (ci := 12) (v := .ref a_c) (C := RX12) (T := TX12) (N := 65) hx hb hts inT12 hown hK hP 0 rfl rfl 20 (by decide) (hts _ tw_1905) (fun _ h9 => h9) rfl dX12_meanFrom_14 ?_
      refine lv_iconst (v := 3) hx hb dX12_meanFrom_17 (by decide) ?_
      refine va_iald hx hb hK hP 1 0 rfl rfl (z_in (i := 3) (n := 1825) (by decide +kernel) (by decide +kernel)) dX12_meanFrom_18 ?_
      refine lv_topi (fun x_260 he_x_260 => ?_)
      have hr_x_260 := z_ctk hC_g_c he_x_260 (k := 3) (lo := 0) (hi := 5) (by decide +kernel) (by decide +kernel) (by decide +kernel)
      have hv_x_260 := z_cv he_x_260 (k := 3) (by decide +kernel)
      refine lv_icmp_ge (tgt := 96) hx hb dX12_meanFrom_19 (by decide) (fun c_261 => ?_) (fun c_261 => ?_)
      · have b_262 := z_fgeT c_261
        have hpost : (0 ≤ v_228.toInt ∧ v_228.toInt ≤ 495) ∧ ((1 ≤ v_228.toInt ∧ zMB g_c g_there m_thereMany.toInt) ∨ (v_228.toInt = 0 ∧ ¬ zMB g_c g_there m_thereMany.toInt)) := ⟨hr_v_228, (by first | exact zMd_nil hi_255 (by omega) | exact zMd_end hi_255 (by omega))⟩
        exact hret _ _ _ _ _ (v_227, v_228) [0, 1, 2] hP hD hS rfl (by decide) dX12_meanFrom_96 hpost
      · have b_263 := z_fltF c_261
        refine lv_aload_n hx hb dX12_meanFrom_22 rfl (lv_at hl 0 rfl) ?_
        refine va_get (D := G) (ci := 12) (v := .int m_thereMany) (C := RX12) (T := TX12) (N := 65) hx hb hts inT12 hown hK hP 0 rfl rfl 27 (by decide) (hts _ tw_1912) (fun _ h9 => h9) rfl dX12_meanFrom_23 ?_
        refine lv_if_le (tgt := 96) hx hb dX12_meanFrom_26 (by decide) (fun c_264 => ?_) (fun c_264 => ?_)
        · have b_265 := z_fleT c_264
          have hpost : (0 ≤ v_228.toInt ∧ v_228.toInt ≤ 495) ∧ ((1 ≤ v_228.toInt ∧ zMB g_c g_there m_thereMany.toInt) ∨ (v_228.toInt = 0 ∧ ¬ zMB g_c g_there m_thereMany.toInt)) := ⟨hr_v_228, (by first | exact zMd_nil hi_255 (by omega) | exact zMd_end hi_255 (by omega))⟩
          exact hret _ _ _ _ _ (v_227, v_228) [0, 1, 2] hP hD hS rfl (by decide) dX12_meanFrom_96 hpost
        · have b_266 := z_fgtF c_264
          refine lv_aload_n hx hb dX12_meanFrom_29 rfl (lv_at hl 0 rfl) ?_
          refine lv_iload_n hx hb dX12_meanFrom_30 rfl (lv_at hl 3 rfl) ?_
          refine lv_iload_n hx hb dX12_meanFrom_31 rfl (lv_at hl 1 rfl) ?_
          refine lv_iload_n hx hb dX12_meanFrom_32 rfl (lv_at hl 2 rfl) ?_
          refine z_callVi (As := [.int v_226, .int pp, .int w]) (rest := []) (wr := []) ⟨hx, hb, hml, hown, hts⟩ hK hE hT hP hD hS hA (r_search l G cA h0 m_status m_thrown m_above m_under a_traySort a_trayMany a_numbers a_tape m_taped m_textEnd m_faultKind m_faultAt m_bad m_badAt m_token m_at m_behind m_number m_letters m_word a_c a_words m_markMany a_there a_tried a_best a_found m_thereMany m_foundMany m_orderHow m_orderRing m_orderMany m_hasBest m_bestTop m_bestBy a_weights a_shared m_random m_truePlace m_trueWay m_seconds m_done m_feelings m_tries m_leftOver m_playDoor m_playRing m_isOpen m_isOver m_wasTried m_hasPlayed a_feltNow a_last a_kept m_hasSeconds m_hasTurned m_hasRound a_hasFeels a_isOn m_firstAct v_227 v_228 a_order m_rowMany m_newSteps g_c g_there v_226 pp w (by omega) hr_pp hr_w hr_m_thereMany hC_g_c hC_g_there (by omega)) lk_RX12_387 ⟨rfl, rfl⟩ ⟨Nat.le_of_ble_eq_true rfl, Nat.le_of_ble_eq_true rfl⟩ 12 rfl rfl rfl [0, 1, 2] [] rfl rfl (by decide) rfl hl.1 rfl (lv_room (Nat.le_of_ble_eq_true rfl)) dX12_meanFrom_33 ⟨Nat.le_of_ble_eq_true rfl, Nat.le_of_ble_eq_true rfl⟩ (fun r_267 u_268 H locs hw hP hD hS => ?_)
          obtain ⟨hr_r_267, hf_269, hf_270⟩ := hw
          refine lv_istore (lv' := [(4, .int r_267), (0, .ref h0), (1, .int pp), (2, .int w), (3, .int v_226)]) hx hb dX12_meanFrom_36 hl (by decide) rfl (fun ls hl => ?_)
          refine lv_iload hx hb dX12_meanFrom_38 (lv_at hl 0 rfl) ?_
          refine lv_if_ge (tgt := 46) hx hb dX12_meanFrom_40 (by decide) (fun c_271 => ?_) (fun c_271 => ?_)
          · have b_272 := z_fgeT c_271
            refine lv_aload_n hx hb dX12_meanFrom_46 rfl (lv_at hl 1 rfl) ?_
            refine lv_dup hx hb dX12_meanFrom_47 rfl ?_
            refine va_get (D := G) (ci := 12) (v := .long v_227) (C := RX12) (T := TX12) (N := 65) hx hb hts inT12 hown hK hP 0 rfl rfl 60 (by decide) (hts _ tw_1943) (fun _ h9 => h9) rfl dX12_meanFrom_48 ?_
            refine lv_aload_n hx hb dX12_meanFrom_51 rfl (lv_at hl 1 rfl) ?_
            refine va_get (D := G) (ci := 12) (v := .ref a_c) (C := RX12) (T := TX12) (N := 65) hx hb hts inT12 hown hK hP 0 rfl rfl 20 (by decide) (hts _ tw_1905) (fun _ h9 => h9) rfl dX12_meanFrom_52 ?_
            refine lv_sipush (v := 128) hx hb dX12_meanFrom_55 (by decide) ?_
            refine lv_iload_n hx hb dX12_meanFrom_58 rfl (lv_at hl 4 rfl) ?_
            refine lv_iadd hx hb dX12_meanFrom_59 ?_
            refine lv_topi (fun x_273 he_x_273 => ?_)
            have hq_x_273 := z_addq he_x_273 hk_128 (rfl : v_226.toInt = _) (by omega) (by omega)
            refine va_iald hx hb hK hP 1 0 rfl rfl (z_inN (by omega) (by omega)) dX12_meanFrom_60 ?_
            refine lv_topi (fun x_274 he_x_274 => ?_)
            have hr_x_274 := z_ct hC_g_c he_x_274 (a := 128) (b := 132) (lo := 0) (hi := 99) (by decide +kernel) (by decide) (by omega) (by omega)
            refine lv_i2l (v := (x_274).toInt64) hx hb dX12_meanFrom_61 rfl ?_
            refine lv_topl (fun x_275 he_x_275 => ?_)
            have hq_x_275 := z_i2l he_x_275
            refine lv_iload hx hb dX12_meanFrom_62 (lv_at hl 0 rfl) ?_
            refine lv_i2l (v := (r_267).toInt64) hx hb dX12_meanFrom_64 rfl ?_
            refine lv_topl (fun x_276 he_x_276 => ?_)
            have hq_x_276 := z_i2l he_x_276
            refine lv_lmul hx hb dX12_meanFrom_65 ?_
            refine lv_topl (fun x_277 he_x_277 => ?_)
            have hr_x_277 := z_mulrl he_x_277 (M := 99) (N := 2178) (by omega) (by omega) (by decide)
            have hm_x_277 := z_mulpl he_x_277 (M := 99) (N := 2178) (by omega) (by omega) (by decide)
            refine lv_ladd hx hb dX12_meanFrom_66 ?_
            have hL_v_227 := z_fulll v_227
            refine lv_topl (fun x_278 he_x_278 => ?_)
            refine va_put (D := G) (ci := 12) (v := .long x_278) (ty := .long) (C := RX12) (T := TX12) (N := 65) hx hb hts inT12 tyX12 tyX12_ok nmX12 hown hK hP hD hS 0 rfl rfl 60 (by decide) (hts _ tw_1943) (fun _ h9 => h9) rfl (tyX12_ok 60 (by decide)) rfl rfl (Nat.le_of_ble_eq_true rfl) dX12_meanFrom_67 (fun H locs hP hD hS => ?_)
            refine lv_aload_n hx hb dX12_meanFrom_70 rfl (lv_at hl 1 rfl) ?_
            refine lv_dup hx hb dX12_meanFrom_71 rfl ?_
            refine va_get (D := G) (ci := 12) (v := .long v_228) (C := RX12) (T := TX12) (N := 65) hx hb hts inT12 hown hK hP 0 rfl rfl 61 (by decide) (hts _ tw_1944) (fun _ h9 => h9) rfl dX12_meanFrom_72 ?_
            refine lv_aload_n hx hb dX12_meanFrom_75 rfl (lv_at hl 1 rfl) ?_
            refine va_get (D := G) (ci := 12) (v := .ref a_c) (C := RX12) (T := TX12) (N := 65) hx hb hts inT12 hown hK hP 0 rfl rfl 20 (by decide) (hts _ tw_1905) (fun _ h9 => h9) rfl dX12_meanFrom_76 ?_
            refine lv_sipush (v := 128) hx hb dX12_meanFrom_79 (by decide) ?_
            refine lv_iload_n hx hb dX12_meanFrom_82 rfl (lv_at hl 4 rfl) ?_
            refine lv_iadd hx hb dX12_meanFrom_83 ?_
            refine lv_topi (fun x_279 he_x_279 => ?_)
            have hq_x_279 := z_addq he_x_279 hk_128 (rfl : v_226.toInt = _) (by omega) (by omega)
            refine va_iald hx hb hK hP 1 0 rfl rfl (z_inN (by omega) (by omega)) dX12_meanFrom_84 ?_
            refine lv_topi (fun x_280 he_x_280 => ?_)
            have hr_x_280 := z_ct hC_g_c he_x_280 (a := 128) (b := 132) (lo := 0) (hi := 99) (by decide +kernel) (by decide) (by omega) (by omega)
            refine lv_i2l (v := (x_280).toInt64) hx hb dX12_meanFrom_85 rfl ?_
            refine lv_topl (fun x_281 he_x_281 => ?_)
            have hq_x_281 := z_i2l he_x_281
            refine lv_ladd hx hb dX12_meanFrom_86 ?_
            refine lv_topl (fun x_282 he_x_282 => ?_)
            have hq_x_282 := z_addql he_x_282 (rfl : v_228.toInt = _) (rfl : x_281.toInt = _) (by omega) (by omega)
            refine va_put (D := G) (ci := 12) (v := .long x_282) (ty := .long) (C := RX12) (T := TX12) (N := 65) hx hb hts inT12 tyX12 tyX12_ok nmX12 hown hK hP hD hS 0 rfl rfl 61 (by decide) (hts _ tw_1944) (fun _ h9 => h9) rfl (tyX12_ok 61 (by decide)) rfl rfl (Nat.le_of_ble_eq_true rfl) dX12_meanFrom_87 (fun H locs hP hD hS => ?_)
            obtain ⟨x_283, he_x_283⟩ : ∃ z : Int32, z = v_226 + 1 := ⟨_, rfl⟩
            have hq_x_283 := z_addq he_x_283 (rfl : v_226.toInt = _) hk_1 (by omega) (by omega)
            refine lv_iinc (v := x_283) (lv' := [(3, .int x_283), (4, .int r_267), (0, .ref h0), (1, .int pp), (2, .int w)]) hx hb dX12_meanFrom_90 hl (k := 4) rfl ((z_ofi (by decide +kernel)).trans he_x_283.symm) (by decide) rfl (fun ls hl => ?_)
            refine lv_goto (tgt := 12) hx hb dX12_meanFrom_93 (by decide) ?_
            exact ih_259 x_283 x_278 x_282 H locs ls (by omega) (by omega) (by omega) (by rw [hq_x_283]; exact zMd_yes hi_255 he_x_280 (by omega) (by omega) (hf_270 (by omega)) (by omega) (by omega)) (by omega) (by omega) hP hD hS (lv_sub hl [2, 3, 4, 0] rfl)
          · have b_284 := z_fltF c_271
            refine lv_goto (tgt := 90) hx hb dX12_meanFrom_43 (by decide) ?_
            obtain ⟨x_285, he_x_285⟩ : ∃ z : Int32, z = v_226 + 1 := ⟨_, rfl⟩
            have hq_x_285 := z_addq he_x_285 (rfl : v_226.toInt = _) hk_1 (by omega) (by omega)
            refine lv_iinc (v := x_285) (lv' := [(3, .int x_285), (4, .int r_267), (0, .ref h0), (1, .int pp), (2, .int w)]) hx hb dX12_meanFrom_90 hl (k := 4) rfl ((z_ofi (by decide +kernel)).trans he_x_285.symm) (by decide) rfl (fun ls hl => ?_)
            refine lv_goto (tgt := 12) hx hb dX12_meanFrom_93 (by decide) ?_
            exact ih_259 x_285 v_227 v_228 H locs ls (by omega) (by omega) hr_v_228 (by rw [hq_x_285]; exact zMd_no hi_255 (by omega) (hf_269 (by omega))) (by omega) (by omega) hP hD hS (lv_sub hl [2, 3, 4, 0] rfl)
  exact hlp_258 _ 0 0 0 _ _ _ (Nat.lt_succ_self _) (by decide +kernel) (by decide +kernel) (Or.inr ⟨by omega, zMd_0⟩) (by omega) (by omega) hP hD hS (lv_sub hl [1, 2, 3, 0] rfl)
set_option maxHeartbeats 4000000 in
set_option maxRecDepth 100000 in
theorem r_meanAnywhere (l : Launch) (G : va_G) (cA : zCA) (h0 : Nat) (m_status : Int32) (m_thrown : Int32) (m_above : Int64) (m_under : Int64) (a_traySort : Nat) (a_trayMany : Nat) (a_numbers : Nat) (a_tape : Nat) (m_taped : Int32) (m_textEnd : Int32) (m_faultKind : Int32) (m_faultAt : Int32) (m_bad : Int32) (m_badAt : Int32) (m_token : Int32) (m_at : Int32) (m_behind : Int32) (m_number : Int32) (m_letters : Int32) (m_word : Int64) (a_c : Nat) (a_words : Nat) (m_markMany : Int32) (a_there : Nat) (a_tried : Nat) (a_best : Nat) (a_found : Nat) (m_thereMany : Int32) (m_foundMany : Int32) (m_orderHow : Int32) (m_orderRing : Int32) (m_orderMany : Int32) (m_hasBest : Int32) (m_bestTop : Int64) (m_bestBy : Int64) (a_weights : Nat) (a_shared : Nat) (m_random : Int32) (m_truePlace : Int32) (m_trueWay : Int32) (m_seconds : Int32) (m_done : Int32) (m_feelings : Int32) (m_tries : Int32) (m_leftOver : Int32) (m_playDoor : Int32) (m_playRing : Int32) (m_isOpen : Int32) (m_isOver : Int32) (m_wasTried : Int32) (m_hasPlayed : Int32) (a_feltNow : Nat) (a_last : Nat) (a_kept : Nat) (m_hasSeconds : Int32) (m_hasTurned : Int32) (m_hasRound : Int32) (a_hasFeels : Nat) (a_isOn : Nat) (m_firstAct : Int32) (m_meanTop : Int64) (m_meanBy : Int64) (a_order : Nat) (m_rowMany : Int32) (m_newSteps : Int32) (g_c : Nat → Int32) (g_there : Nat → Int32) (hr_m_thereMany : 0 ≤ m_thereMany.toInt ∧ m_thereMany.toInt ≤ 10) (hC_g_c : zC g_c) (hC_g_there : zRg 10 0 9 g_there) : zCv l yX12_meanAnywhere cX12_meanAnywhere 6 none ({ frames := 3, cells := 0, slots := 0, locals := 72 }) G cA [.ref h0] [(h0, .inr (12, [.int m_status, .int m_thrown, .long m_above, .long m_under, .ref a_traySort, .ref a_trayMany, .ref a_numbers, .ref a_tape, .int m_taped, .int m_textEnd, .int m_faultKind, .int m_faultAt, .int m_bad, .int m_badAt, .int m_token, .int m_at, .int m_behind, .int m_number, .int m_letters, .long m_word, .ref a_c, .ref a_words, .int m_markMany, .ref a_there, .ref a_tried, .ref a_best, .ref a_found, .int m_thereMany, .int m_foundMany, .int m_orderHow, .int m_orderRing, .int m_orderMany, .int m_hasBest, .long m_bestTop, .long m_bestBy, .ref a_weights, .ref a_shared, .int m_random, .int m_truePlace, .int m_trueWay, .int m_seconds, .int m_done, .int m_feelings, .int m_tries, .int m_leftOver, .int m_playDoor, .int m_playRing, .int m_isOpen, .int m_isOver, .int m_wasTried, .int m_hasPlayed, .ref a_feltNow, .ref a_last, .ref a_kept, .int m_hasSeconds, .int m_hasTurned, .int m_hasRound, .ref a_hasFeels, .ref a_isOn, .int m_firstAct, .long m_meanTop, .long m_meanBy, .ref a_order, .int m_rowMany, .int m_newSteps])), (a_c, .inl (cA.1 0, 1825, .inl g_c)), (a_there, .inl (cA.1 0, 10, .inl g_there))] (S := Int64 × Int64) (fun (u : Int64 × Int64) => (0 ≤ u.2.toInt ∧ u.2.toInt ≤ 79200) ∧ (zMB g_c g_there m_thereMany.toInt → 1 ≤ u.2.toInt)) (fun (u : Int64 × Int64) => [(h0, .inr (12, [.int m_status, .int m_thrown, .long m_above, .long m_under, .ref a_traySort, .ref a_trayMany, .ref a_numbers, .ref a_tape, .int m_taped, .int m_textEnd, .int m_faultKind, .int m_faultAt, .int m_bad, .int m_badAt, .int m_token, .int m_at, .int m_behind, .int m_number, .int m_letters, .long m_word, .ref a_c, .ref a_words, .int m_markMany, .ref a_there, .ref a_tried, .ref a_best, .ref a_found, .int m_thereMany, .int m_foundMany, .int m_orderHow, .int m_orderRing, .int m_orderMany, .int m_hasBest, .long m_bestTop, .long m_bestBy, .ref a_weights, .ref a_shared, .int m_random, .int m_truePlace, .int m_trueWay, .int m_seconds, .int m_done, .int m_feelings, .int m_tries, .int m_leftOver, .int m_playDoor, .int m_playRing, .int m_isOpen, .int m_isOver, .int m_wasTried, .int m_hasPlayed, .ref a_feltNow, .ref a_last, .ref a_kept, .int m_hasSeconds, .int m_hasTurned, .int m_hasRound, .ref a_hasFeels, .ref a_isOn, .int m_firstAct, .long u.1, .long u.2, .ref a_order, .int m_rowMany, .int m_newSteps])), (a_c, .inl (cA.1 0, 1825, .inl g_c)), (a_there, .inl (cA.1 0, 10, .inl g_there))]) 0 0 := by
  have hk_0 : (0 : Int32).toInt = 0 := by decide +kernel
  have hk_1 : (1 : Int32).toInt = 1 := by decide +kernel
  have hk_2 : (2 : Int32).toInt = 2 := by decide +kernel
  have hkl_0 : (0 : Int64).toInt = 0 := by decide +kernel
  have hkl_16 : (16 : Int64).toInt = 16 := by decide +kernel
  refine z_start2v (own := RX12) (by decide) (Nat.le_of_ble_eq_true rfl) rfl ?_
  intro p e s m args below meth c A ls Q hx hb hml hts hown hK hE hT hP hD hS hA hl hret
  have hl : lv_has ls 6 [(0, .ref h0)] := hl
  refine lv_lconst (v := 0) hx hb dX12_meanAnywhere_0 (by decide) ?_
  refine lv_lstore_n (lv' := [(1, .long 0), (0, .ref h0)]) hx hb dX12_meanAnywhere_1 rfl hl (by decide) rfl (fun ls hl => ?_)
  refine lv_lconst (v := 0) hx hb dX12_meanAnywhere_2 (by decide) ?_
  refine lv_lstore_n (lv' := [(3, .long 0), (1, .long 0), (0, .ref h0)]) hx hb dX12_meanAnywhere_3 rfl hl (by decide) rfl (fun ls hl => ?_)
  refine lv_iconst (v := 0) hx hb dX12_meanAnywhere_4 (by decide) ?_
  refine lv_istore (lv' := [(5, .int 0), (3, .long 0), (1, .long 0), (0, .ref h0)]) hx hb dX12_meanAnywhere_5 hl (by decide) rfl (fun ls hl => ?_)
  have hlp_636 : ∀ (n : Nat) (v_604 : Int64) (v_605 : Int64) (v_606 : Int32) (v_607 : Int64) (v_608 : Int64) (H : Heap) (locs : List Loc) (ls : Array Slot), (2147483647 - v_606.toInt).toNat < n → (0 ≤ v_605.toInt ∧ v_605.toInt ≤ 495) → (0 ≤ v_606.toInt ∧ v_606.toInt ≤ 20) → (v_606.toInt ≤ 0 ∨ (1 ≤ v_605.toInt ∧ zMB g_c g_there m_thereMany.toInt) ∨ (v_605.toInt = 0 ∧ ¬ zMB g_c g_there m_thereMany.toInt)) → va_P G vwCl [(h0, .inr (12, [.int m_status, .int m_thrown, .long m_above, .long m_under, .ref a_traySort, .ref a_trayMany, .ref a_numbers, .ref a_tape, .int m_taped, .int m_textEnd, .int m_faultKind, .int m_faultAt, .int m_bad, .int m_badAt, .int m_token, .int m_at, .int m_behind, .int m_number, .int m_letters, .long m_word, .ref a_c, .ref a_words, .int m_markMany, .ref a_there, .ref a_tried, .ref a_best, .ref a_found, .int m_thereMany, .int m_foundMany, .int m_orderHow, .int m_orderRing, .int m_orderMany, .int m_hasBest, .long m_bestTop, .long m_bestBy, .ref a_weights, .ref a_shared, .int m_random, .int m_truePlace, .int m_trueWay, .int m_seconds, .int m_done, .int m_feelings, .int m_tries, .int m_leftOver, .int m_playDoor, .int m_playRing, .int m_isOpen, .int m_isOver, .int m_wasTried, .int m_hasPlayed, .ref a_feltNow, .ref a_last, .ref a_kept, .int m_hasSeconds, .int m_hasTurned, .int m_hasRound, .ref a_hasFeels, .ref a_isOn, .int m_firstAct, .long v_607, .long v_608, .ref a_order, .int m_rowMany, .int m_newSteps])), (a_c, .inl (cA.1 0, 1825, .inl g_c)), (a_there, .inl (cA.1 0, 10, .inl g_there))] H → va_D A [(h0, .inr (12, [.int m_status, .int m_thrown, .long m_above, .long m_under, .ref a_traySort, .ref a_trayMany, .ref a_numbers, .ref a_tape, .int m_taped, .int m_textEnd, .int m_faultKind, .int m_faultAt, .int m_bad, .int m_badAt, .int m_token, .int m_at, .int m_behind, .int m_number, .int m_letters, .long m_word, .ref a_c, .ref a_words, .int m_markMany, .ref a_there, .ref a_tried, .ref a_best, .ref a_found, .int m_thereMany, .int m_foundMany, .int m_orderHow, .int m_orderRing, .int m_orderMany, .int m_hasBest, .long m_bestTop, .long m_bestBy, .ref a_weights, .ref a_shared, .int m_random, .int m_truePlace, .int m_trueWay, .int m_seconds, .int m_done, .int m_feelings, .int m_tries, .int m_leftOver, .int m_playDoor, .int m_playRing, .int m_isOpen, .int m_isOver, .int m_wasTried, .int m_hasPlayed, .ref a_feltNow, .ref a_last, .ref a_kept, .int m_hasSeconds, .int m_hasTurned, .int m_hasRound, .ref a_hasFeels, .ref a_isOn, .int m_firstAct, .long v_607, .long v_608, .ref a_order, .int m_rowMany, .int m_newSteps])), (a_c, .inl (cA.1 0, 1825, .inl g_c)), (a_there, .inl (cA.1 0, 10, .inl g_there))] → va_S A s.heap H locs → lv_has ls 6 [(0, .ref h0), (1, .long v_604), (3, .long v_605), (5, .int v_606)] → W p l e ({ frames := 3, cells := 0, slots := 0, locals := 72 }) s m args below meth c H locs 0 0 Q (F0 m 7 ls []) := by
    intro n
    induction n with
    | zero =>
      intro v_604 v_605 v_606 v_607 v_608 H locs ls hmu_hlp_636 hr_v_605 hr_v_606 hi_635 hP hD hS hl
      exact absurd hmu_hlp_636 (Nat.not_lt_zero _)
    | succ n ih_637 =>
      intro v_604 v_605 v_606 v_607 v_608 H locs ls hmu_hlp_636 hr_v_605 hr_v_606 hi_635 hP hD hS hl
      refine lv_iload hx hb dX12_meanAnywhere_7 (lv_at hl 3 rfl) ?_
      refine lv_iconst (v := 2) hx hb dX12_meanAnywhere_9 (by decide) ?_
      refine lv_aload_n hx hb dX12_meanAnywhere_10 rfl (lv_at hl 0 rfl) ?_
      refine va_get (D := G) (ci := 12) (v := .int m_thereMany) (C := RX12) (T := TX12) (N := 65) hx hb hts inT12 hown hK hP 0 rfl rfl 27 (by decide) (hts _ tw_1912) (fun _ h9 => h9) rfl dX12_meanAnywhere_11 ?_
      refine lv_imul hx hb dX12_meanAnywhere_14 ?_
      refine lv_topi (fun x_638 he_x_638 => ?_)
      have hq_x_638 := z_mulq he_x_638 hk_2 (rfl : m_thereMany.toInt = _) (by omega) (by omega)
      refine lv_icmp_ge (tgt := 77) hx hb dX12_meanAnywhere_15 (by decide) (fun c_639 => ?_) (fun c_639 => ?_)
      · have b_640 := z_fgeT c_639
        refine lv_aload_n hx hb dX12_meanAnywhere_77 rfl (lv_at hl 0 rfl) ?_
        refine lv_lload_n hx hb dX12_meanAnywhere_78 rfl (lv_at hl 1 rfl) ?_
        refine va_put (D := G) (ci := 12) (v := .long v_604) (ty := .long) (C := RX12) (T := TX12) (N := 65) hx hb hts inT12 tyX12 tyX12_ok nmX12 hown hK hP hD hS 0 rfl rfl 60 (by decide) (hts _ tw_1943) (fun _ h9 => h9) rfl (tyX12_ok 60 (by decide)) rfl rfl (Nat.le_of_ble_eq_true rfl) dX12_meanAnywhere_79 (fun H locs hP hD hS => ?_)
        refine lv_aload_n hx hb dX12_meanAnywhere_82 rfl (lv_at hl 0 rfl) ?_
        refine lv_lload_n hx hb dX12_meanAnywhere_83 rfl (lv_at hl 2 rfl) ?_
        refine lv_ldc2 (v := 16) hx hb hown (hts _ tw_2470) dX12_meanAnywhere_84 ?_
        refine lv_lmul hx hb dX12_meanAnywhere_87 ?_
        refine lv_topl (fun x_641 he_x_641 => ?_)
        have hq_x_641 := z_mulql he_x_641 (rfl : v_605.toInt = _) hkl_16 (by omega) (by omega)
        refine lv_aload_n hx hb dX12_meanAnywhere_88 rfl (lv_at hl 0 rfl) ?_
        refine va_get (D := G) (ci := 12) (v := .int m_thereMany) (C := RX12) (T := TX12) (N := 65) hx hb hts inT12 hown hK hP 0 rfl rfl 27 (by decide) (hts _ tw_1912) (fun _ h9 => h9) rfl dX12_meanAnywhere_89 ?_
        refine lv_i2l (v := (m_thereMany).toInt64) hx hb dX12_meanAnywhere_92 rfl ?_
        refine lv_topl (fun x_642 he_x_642 => ?_)
        have hq_x_642 := z_i2l he_x_642
        refine lv_lmul hx hb dX12_meanAnywhere_93 ?_
        refine lv_topl (fun x_643 he_x_643 => ?_)
        have hr_x_643 := z_mulrl he_x_643 (M := 7920) (N := 10) (by omega) (by omega) (by decide)
        have hm_x_643 := z_mulpl he_x_643 (M := 7920) (N := 10) (by omega) (by omega) (by decide)
        refine va_put (D := G) (ci := 12) (v := .long x_643) (ty := .long) (C := RX12) (T := TX12) (N := 65) hx hb hts inT12 tyX12 tyX12_ok nmX12 hown hK hP hD hS 0 rfl rfl 61 (by decide) (hts _ tw_1944) (fun _ h9 => h9) rfl (tyX12_ok 61 (by decide)) rfl rfl (Nat.le_of_ble_eq_true rfl) dX12_meanAnywhere_94 (fun H locs hP hD hS => ?_)
        have hpost : (0 ≤ x_643.toInt ∧ x_643.toInt ≤ 79200) ∧ (zMB g_c g_there m_thereMany.toInt → 1 ≤ x_643.toInt) := ⟨(by omega), (fun h1 => by have h2 := zMB_pos h1; rcases hi_635 with h | h | h <;> first | omega | exact absurd h1 h.2)⟩
        exact hret _ _ _ _ _ (v_604, x_643) [0, 1, 2] hP hD hS rfl (by decide) dX12_meanAnywhere_97 hpost
      · have b_644 := z_fltF c_639
        refine lv_aload_n hx hb dX12_meanAnywhere_18 rfl (lv_at hl 0 rfl) ?_
        refine lv_iload hx hb dX12_meanAnywhere_19 (lv_at hl 3 rfl) ?_
        refine lv_iconst (v := 2) hx hb dX12_meanAnywhere_21 (by decide) ?_
        refine lv_idiv hx hb dX12_meanAnywhere_22 (by decide +kernel) ?_
        refine lv_topi (fun x_645 he_x_645 => ?_)
        have hq_x_645 := z_divq he_x_645 (rfl : v_606.toInt = _) hk_2 (by omega) (by decide)
        refine lv_iload hx hb dX12_meanAnywhere_23 (lv_at hl 3 rfl) ?_
        refine lv_iconst (v := 2) hx hb dX12_meanAnywhere_25 (by decide) ?_
        refine lv_irem hx hb dX12_meanAnywhere_26 (by decide +kernel) ?_
        refine lv_topi (fun x_646 he_x_646 => ?_)
        have hq_x_646 := z_remq he_x_646 (rfl : v_606.toInt = _) hk_2 (by omega) (by decide)
        refine z_callVv (As := [.int x_645, .int x_646]) (rest := []) (wr := []) ⟨hx, hb, hml, hown, hts⟩ hK hE hT hP hD hS hA (r_meanFrom l G cA h0 m_status m_thrown m_above m_under a_traySort a_trayMany a_numbers a_tape m_taped m_textEnd m_faultKind m_faultAt m_bad m_badAt m_token m_at m_behind m_number m_letters m_word a_c a_words m_markMany a_there a_tried a_best a_found m_thereMany m_foundMany m_orderHow m_orderRing m_orderMany m_hasBest m_bestTop m_bestBy a_weights a_shared m_random m_truePlace m_trueWay m_seconds m_done m_feelings m_tries m_leftOver m_playDoor m_playRing m_isOpen m_isOver m_wasTried m_hasPlayed a_feltNow a_last a_kept m_hasSeconds m_hasTurned m_hasRound a_hasFeels a_isOn m_firstAct v_607 v_608 a_order m_rowMany m_newSteps g_c g_there x_645 x_646 (by omega) (by omega) hr_m_thereMany hC_g_c hC_g_there (by omega)) lk_RX12_396 ⟨rfl, rfl⟩ ⟨Nat.le_of_ble_eq_true rfl, Nat.le_of_ble_eq_true rfl⟩ 12 rfl rfl rfl [0, 1, 2] [] rfl rfl (by decide) rfl hl.1 rfl (lv_room (Nat.le_of_ble_eq_true rfl)) dX12_meanAnywhere_27 ⟨Nat.le_of_ble_eq_true rfl, Nat.le_of_ble_eq_true rfl⟩ (fun u_650 H locs hw hP hD hS => ?_)
        obtain ⟨n_647, n_648⟩ := u_650
        try dsimp only at hw
        obtain ⟨hr_n_648, hf_651⟩ := hw
        refine lv_lload_n hx hb dX12_meanAnywhere_30 rfl (lv_at hl 1 rfl) ?_
        refine lv_iload hx hb dX12_meanAnywhere_31 (lv_at hl 3 rfl) ?_
        refine lv_iconst (v := 2) hx hb dX12_meanAnywhere_33 (by decide) ?_
        refine lv_irem hx hb dX12_meanAnywhere_34 (by decide +kernel) ?_
        refine lv_topi (fun x_652 he_x_652 => ?_)
        have hq_x_652 := z_remq he_x_652 (rfl : v_606.toInt = _) hk_2 (by omega) (by decide)
        refine lv_if_ne (tgt := 51) hx hb dX12_meanAnywhere_35 (by decide) (fun c_653 => ?_) (fun c_653 => ?_)
        · have b_654 := z_fneT c_653
          refine lv_aload_n hx hb dX12_meanAnywhere_51 rfl (lv_at hl 0 rfl) ?_
          refine va_get (D := G) (ci := 12) (v := .ref a_c) (C := RX12) (T := TX12) (N := 65) hx hb hts inT12 hown hK hP 0 rfl rfl 20 (by decide) (hts _ tw_1905) (fun _ h9 => h9) rfl dX12_meanAnywhere_52 ?_
          refine lv_bipush (v := 9) hx hb dX12_meanAnywhere_55 (by decide) ?_
          refine va_iald hx hb hK hP 1 0 rfl rfl (z_in (i := 9) (n := 1825) (by decide +kernel) (by decide +kernel)) dX12_meanAnywhere_57 ?_
          refine lv_topi (fun x_655 he_x_655 => ?_)
          refine lv_i2l (v := (x_655).toInt64) hx hb dX12_meanAnywhere_58 rfl ?_
          refine lv_topl (fun x_656 he_x_656 => ?_)
          have hq_x_656 := z_i2l he_x_656
          have hL_x_655 := z_full x_655
          refine lv_aload_n hx hb dX12_meanAnywhere_59 rfl (lv_at hl 0 rfl) ?_
          refine va_get (D := G) (ci := 12) (v := .long n_647) (C := RX12) (T := TX12) (N := 65) hx hb hts inT12 hown hK hP 0 rfl rfl 60 (by decide) (hts _ tw_1943) (fun _ h9 => h9) rfl dX12_meanAnywhere_60 ?_
          refine lv_lmul hx hb dX12_meanAnywhere_63 ?_
          have hL_n_647 := z_fulll n_647
          refine lv_topl (fun x_657 he_x_657 => ?_)
          refine lv_ladd hx hb dX12_meanAnywhere_64 ?_
          have hL_v_604 := z_fulll v_604
          have hL_x_657 := z_fulll x_657
          refine lv_topl (fun x_658 he_x_658 => ?_)
          refine lv_lstore_n (lv' := [(1, .long x_658), (0, .ref h0), (3, .long v_605), (5, .int v_606)]) hx hb dX12_meanAnywhere_65 rfl hl (by decide) rfl (fun ls hl => ?_)
          refine lv_aload_n hx hb dX12_meanAnywhere_66 rfl (lv_at hl 1 rfl) ?_
          refine va_get (D := G) (ci := 12) (v := .long n_648) (C := RX12) (T := TX12) (N := 65) hx hb hts inT12 hown hK hP 0 rfl rfl 61 (by decide) (hts _ tw_1944) (fun _ h9 => h9) rfl dX12_meanAnywhere_67 ?_
          refine lv_lstore_n (lv' := [(3, .long n_648), (1, .long x_658), (0, .ref h0), (5, .int v_606)]) hx hb dX12_meanAnywhere_70 rfl hl (by decide) rfl (fun ls hl => ?_)
          obtain ⟨x_659, he_x_659⟩ : ∃ z : Int32, z = v_606 + 1 := ⟨_, rfl⟩
          have hq_x_659 := z_addq he_x_659 (rfl : v_606.toInt = _) hk_1 (by omega) (by omega)
          refine lv_iinc (v := x_659) (lv' := [(5, .int x_659), (3, .long n_648), (1, .long x_658), (0, .ref h0)]) hx hb dX12_meanAnywhere_71 hl (k := 3) rfl ((z_ofi (by decide +kernel)).trans he_x_659.symm) (by decide) rfl (fun ls hl => ?_)
          refine lv_goto (tgt := 7) hx hb dX12_meanAnywhere_74 (by decide) ?_
          exact ih_637 x_658 n_648 x_659 n_647 n_648 H locs ls (by omega) hr_n_648 (by omega) (Or.inr hf_651) hP hD hS (lv_sub hl [3, 2, 1, 0] rfl)
        · have b_660 := z_feqF c_653
          refine lv_bipush (v := 16) hx hb dX12_meanAnywhere_38 (by decide) ?_
          refine lv_aload_n hx hb dX12_meanAnywhere_40 rfl (lv_at hl 0 rfl) ?_
          refine va_get (D := G) (ci := 12) (v := .ref a_c) (C := RX12) (T := TX12) (N := 65) hx hb hts inT12 hown hK hP 0 rfl rfl 20 (by decide) (hts _ tw_1905) (fun _ h9 => h9) rfl dX12_meanAnywhere_41 ?_
          refine lv_bipush (v := 9) hx hb dX12_meanAnywhere_44 (by decide) ?_
          refine va_iald hx hb hK hP 1 0 rfl rfl (z_in (i := 9) (n := 1825) (by decide +kernel) (by decide +kernel)) dX12_meanAnywhere_46 ?_
          refine lv_topi (fun x_661 he_x_661 => ?_)
          refine lv_isub hx hb dX12_meanAnywhere_47 ?_
          have hL_x_661 := z_full x_661
          refine lv_topi (fun x_662 he_x_662 => ?_)
          refine lv_goto (tgt := 58) hx hb dX12_meanAnywhere_48 (by decide) ?_
          refine lv_i2l (v := (x_662).toInt64) hx hb dX12_meanAnywhere_58 rfl ?_
          refine lv_topl (fun x_663 he_x_663 => ?_)
          have hq_x_663 := z_i2l he_x_663
          have hL_x_662 := z_full x_662
          refine lv_aload_n hx hb dX12_meanAnywhere_59 rfl (lv_at hl 0 rfl) ?_
          refine va_get (D := G) (ci := 12) (v := .long n_647) (C := RX12) (T := TX12) (N := 65) hx hb hts inT12 hown hK hP 0 rfl rfl 60 (by decide) (hts _ tw_1943) (fun _ h9 => h9) rfl dX12_meanAnywhere_60 ?_
          refine lv_lmul hx hb dX12_meanAnywhere_63 ?_
          have hL_n_647 := z_fulll n_647
          refine lv_topl (fun x_664 he_x_664 => ?_)
          refine lv_ladd hx hb dX12_meanAnywhere_64 ?_
          have hL_v_604 := z_fulll v_604
          have hL_x_664 := z_fulll x_664
          refine lv_topl (fun x_665 he_x_665 => ?_)
          refine lv_lstore_n (lv' := [(1, .long x_665), (0, .ref h0), (3, .long v_605), (5, .int v_606)]) hx hb dX12_meanAnywhere_65 rfl hl (by decide) rfl (fun ls hl => ?_)
          refine lv_aload_n hx hb dX12_meanAnywhere_66 rfl (lv_at hl 1 rfl) ?_
          refine va_get (D := G) (ci := 12) (v := .long n_648) (C := RX12) (T := TX12) (N := 65) hx hb hts inT12 hown hK hP 0 rfl rfl 61 (by decide) (hts _ tw_1944) (fun _ h9 => h9) rfl dX12_meanAnywhere_67 ?_
          refine lv_lstore_n (lv' := [(3, .long n_648), (1, .long x_665), (0, .ref h0), (5, .int v_606)]) hx hb dX12_meanAnywhere_70 rfl hl (by decide) rfl (fun ls hl => ?_)
          obtain ⟨x_666, he_x_666⟩ : ∃ z : Int32, z = v_606 + 1 := ⟨_, rfl⟩
          have hq_x_666 := z_addq he_x_666 (rfl : v_606.toInt = _) hk_1 (by omega) (by omega)
          refine lv_iinc (v := x_666) (lv' := [(5, .int x_666), (3, .long n_648), (1, .long x_665), (0, .ref h0)]) hx hb dX12_meanAnywhere_71 hl (k := 3) rfl ((z_ofi (by decide +kernel)).trans he_x_666.symm) (by decide) rfl (fun ls hl => ?_)
          refine lv_goto (tgt := 7) hx hb dX12_meanAnywhere_74 (by decide) ?_
          exact ih_637 x_665 n_648 x_666 n_647 n_648 H locs ls (by omega) hr_n_648 (by omega) (Or.inr hf_651) hP hD hS (lv_sub hl [3, 2, 1, 0] rfl)
  exact hlp_636 _ 0 0 0 m_meanTop m_meanBy _ _ _ (Nat.lt_succ_self _) (by decide +kernel) (by decide +kernel) (Or.inl (by omega)) hP hD hS (lv_sub hl [3, 2, 1, 0] rfl)
set_option maxHeartbeats 4000000 in
set_option maxRecDepth 100000 in
theorem r_from (l : Launch) (G : va_G) (cA : zCA) (h0 : Nat) (m_status : Int32) (m_thrown : Int32) (m_above : Int64) (m_under : Int64) (a_traySort : Nat) (a_trayMany : Nat) (a_numbers : Nat) (a_tape : Nat) (m_taped : Int32) (m_textEnd : Int32) (m_faultKind : Int32) (m_faultAt : Int32) (m_bad : Int32) (m_badAt : Int32) (m_token : Int32) (m_at : Int32) (m_behind : Int32) (m_number : Int32) (m_letters : Int32) (m_word : Int64) (a_c : Nat) (a_words : Nat) (m_markMany : Int32) (a_there : Nat) (a_tried : Nat) (a_best : Nat) (a_found : Nat) (m_thereMany : Int32) (m_foundMany : Int32) (m_orderHow : Int32) (m_orderRing : Int32) (m_orderMany : Int32) (m_hasBest : Int32) (m_bestTop : Int64) (m_bestBy : Int64) (a_weights : Nat) (a_shared : Nat) (m_random : Int32) (m_truePlace : Int32) (m_trueWay : Int32) (m_seconds : Int32) (m_done : Int32) (m_feelings : Int32) (m_tries : Int32) (m_leftOver : Int32) (m_playDoor : Int32) (m_playRing : Int32) (m_isOpen : Int32) (m_isOver : Int32) (m_wasTried : Int32) (m_hasPlayed : Int32) (a_feltNow : Nat) (a_last : Nat) (a_kept : Nat) (m_hasSeconds : Int32) (m_hasTurned : Int32) (m_hasRound : Int32) (a_hasFeels : Nat) (a_isOn : Nat) (m_firstAct : Int32) (m_meanTop : Int64) (m_meanBy : Int64) (a_order : Nat) (m_rowMany : Int32) (m_newSteps : Int32) (g_c : Nat → Int32) (g_there : Nat → Int32) (r : Int32) (pp : Int32) (w : Int32) (hr_m_thereMany : 0 ≤ m_thereMany.toInt ∧ m_thereMany.toInt ≤ 10) (hC_g_c : zC g_c) (hC_g_there : zRg 10 0 9 g_there) : zCi l yX12_from cX12_from 4 (some .boolean) ({ frames := 3, cells := 0, slots := 0, locals := 72 }) G cA [.ref h0, .int r, .int pp, .int w] [(h0, .inr (12, [.int m_status, .int m_thrown, .long m_above, .long m_under, .ref a_traySort, .ref a_trayMany, .ref a_numbers, .ref a_tape, .int m_taped, .int m_textEnd, .int m_faultKind, .int m_faultAt, .int m_bad, .int m_badAt, .int m_token, .int m_at, .int m_behind, .int m_number, .int m_letters, .long m_word, .ref a_c, .ref a_words, .int m_markMany, .ref a_there, .ref a_tried, .ref a_best, .ref a_found, .int m_thereMany, .int m_foundMany, .int m_orderHow, .int m_orderRing, .int m_orderMany, .int m_hasBest, .long m_bestTop, .long m_bestBy, .ref a_weights, .ref a_shared, .int m_random, .int m_truePlace, .int m_trueWay, .int m_seconds, .int m_done, .int m_feelings, .int m_tries, .int m_leftOver, .int m_playDoor, .int m_playRing, .int m_isOpen, .int m_isOver, .int m_wasTried, .int m_hasPlayed, .ref a_feltNow, .ref a_last, .ref a_kept, .int m_hasSeconds, .int m_hasTurned, .int m_hasRound, .ref a_hasFeels, .ref a_isOn, .int m_firstAct, .long m_meanTop, .long m_meanBy, .ref a_order, .int m_rowMany, .int m_newSteps])), (a_c, .inl (cA.1 0, 1825, .inl g_c)), (a_there, .inl (cA.1 0, 10, .inl g_there))] (S := Int32 × Int32 × Int32 × (Nat → Int32) × Int64 × Int64 × Int64 × Int64) (fun (r : Int32) (u : Int32 × Int32 × Int32 × (Nat → Int32) × Int64 × Int64 × Int64 × Int64) => (r = 0 ∧ (0 ≤ u.2.1.toInt ∧ u.2.1.toInt ≤ 0) ∧ (0 ≤ u.2.2.1.toInt ∧ u.2.2.1.toInt ≤ 10) ∧ (zRg 10 0 9 u.2.2.2.1)) ∨ (r = 1 ∧ (0 ≤ u.1.toInt ∧ u.1.toInt ≤ 0) ∧ (0 ≤ u.2.1.toInt ∧ u.2.1.toInt ≤ 0) ∧ (0 ≤ u.2.2.1.toInt ∧ u.2.2.1.toInt ≤ 10) ∧ (zRg 10 0 9 u.2.2.2.1) ∧ (1 ≤ u.2.2.2.2.2.2.2.toInt ∧ u.2.2.2.2.2.2.2.toInt ≤ 495))) (fun (u : Int32 × Int32 × Int32 × (Nat → Int32) × Int64 × Int64 × Int64 × Int64) => [(h0, .inr (12, [.int u.1, .int u.2.1, .long u.2.2.2.2.1, .long u.2.2.2.2.2.1, .ref a_traySort, .ref a_trayMany, .ref a_numbers, .ref a_tape, .int m_taped, .int m_textEnd, .int m_faultKind, .int m_faultAt, .int m_bad, .int m_badAt, .int m_token, .int m_at, .int m_behind, .int m_number, .int m_letters, .long m_word, .ref a_c, .ref a_words, .int m_markMany, .ref a_there, .ref a_tried, .ref a_best, .ref a_found, .int u.2.2.1, .int m_foundMany, .int m_orderHow, .int m_orderRing, .int m_orderMany, .int m_hasBest, .long m_bestTop, .long m_bestBy, .ref a_weights, .ref a_shared, .int m_random, .int m_truePlace, .int m_trueWay, .int m_seconds, .int m_done, .int m_feelings, .int m_tries, .int m_leftOver, .int m_playDoor, .int m_playRing, .int m_isOpen, .int m_isOver, .int m_wasTried, .int m_hasPlayed, .ref a_feltNow, .ref a_last, .ref a_kept, .int m_hasSeconds, .int m_hasTurned, .int m_hasRound, .ref a_hasFeels, .ref a_isOn, .int m_firstAct, .long u.2.2.2.2.2.2.1, .long u.2.2.2.2.2.2.2, .ref a_order, .int m_rowMany, .int m_newSteps])), (a_c, .inl (cA.1 0, 1825, .inl g_c)), (a_there, .inl (cA.1 0, 10, .inl u.2.2.2.1))]) 0 0 := by
  have hk_1 : (1 : Int32).toInt = 1 := by decide +kernel
  have hk_2 : (2 : Int32).toInt = 2 := by decide +kernel
  have hk_5 : (5 : Int32).toInt = 5 := by decide +kernel
  have hk_8 : (8 : Int32).toInt = 8 := by decide +kernel
  have hkl_0 : (0 : Int64).toInt = 0 := by decide +kernel
  have hkl_1 : (1 : Int64).toInt = 1 := by decide +kernel
  refine z_start2z (own := RX12) (by decide) (Nat.le_of_ble_eq_true rfl) rfl ?_
  intro p e s m args below meth c A ls Q hx hb hml hts hown hK hE hT hP hD hS hA hl hret
  have hl : lv_has ls 4 [(0, .ref h0), (1, .int r), (2, .int pp), (3, .int w)] := hl
  refine lv_aload_n hx hb dX12_from_0 rfl (lv_at hl 0 rfl) ?_
  refine lv_iconst (v := 0) hx hb dX12_from_1 (by decide) ?_
  refine va_put (D := G) (ci := 12) (v := .int 0) (ty := .int) (C := RX12) (T := TX12) (N := 65) hx hb hts inT12 tyX12 tyX12_ok nmX12 hown hK hP hD hS 0 rfl rfl 1 (by decide) (hts _ tw_1886) (fun _ h9 => h9) rfl (tyX12_ok 1 (by decide)) rfl rfl (Nat.le_of_ble_eq_true rfl) dX12_from_2 (fun H locs hP hD hS => ?_)
  refine lv_aload_n hx hb dX12_from_5 rfl (lv_at hl 0 rfl) ?_
  refine lv_iconst (v := 0) hx hb dX12_from_6 (by decide) ?_
  refine va_put (D := G) (ci := 12) (v := .int 0) (ty := .int) (C := RX12) (T := TX12) (N := 65) hx hb hts inT12 tyX12 tyX12_ok nmX12 hown hK hP hD hS 0 rfl rfl 0 (by decide) (hts _ tw_1885) (fun _ h9 => h9) rfl (tyX12_ok 0 (by decide)) rfl rfl (Nat.le_of_ble_eq_true rfl) dX12_from_7 (fun H locs hP hD hS => ?_)
  refine lv_aload_n hx hb dX12_from_10 rfl (lv_at hl 0 rfl) ?_
  refine lv_iload_n hx hb dX12_from_11 rfl (lv_at hl 1 rfl) ?_
  refine z_callVi (As := [.int r]) (rest := []) (wr := [(a_there, .inl (cA.1 0, 10, .inl g_there))]) ⟨hx, hb, hml, hown, hts⟩ hK hE hT hP hD hS hA (r_isRing l G cA h0 0 0 m_above m_under a_traySort a_trayMany a_numbers a_tape m_taped m_textEnd m_faultKind m_faultAt m_bad m_badAt m_token m_at m_behind m_number m_letters m_word a_c a_words m_markMany a_there a_tried a_best a_found m_thereMany m_foundMany m_orderHow m_orderRing m_orderMany m_hasBest m_bestTop m_bestBy a_weights a_shared m_random m_truePlace m_trueWay m_seconds m_done m_feelings m_tries m_leftOver m_playDoor m_playRing m_isOpen m_isOver m_wasTried m_hasPlayed a_feltNow a_last a_kept m_hasSeconds m_hasTurned m_hasRound a_hasFeels a_isOn m_firstAct m_meanTop m_meanBy a_order m_rowMany m_newSteps g_c r hC_g_c) lk_RX12_289 ⟨rfl, rfl⟩ ⟨Nat.le_of_ble_eq_true rfl, Nat.le_of_ble_eq_true rfl⟩ 12 rfl rfl rfl [0, 1] [2] rfl rfl (by decide) rfl hl.1 rfl (lv_room (Nat.le_of_ble_eq_true rfl)) dX12_from_12 ⟨Nat.le_of_ble_eq_true rfl, Nat.le_of_ble_eq_true rfl⟩ (fun r_1 u_2 H locs hw hP hD hS => ?_)
  rcases hw with ⟨rfl, -⟩ | ⟨rfl, hf_3, hf_4⟩
  · skip
    refine lv_if_ne (tgt := 24) hx hb dX12_from_15 (by decide) (fun h9 => absurd (by decide +kernel) h9) (fun _ => ?_)
    refine lv_aload_n hx hb dX12_from_18 rfl (lv_at hl 0 rfl) ?_
    refine lv_iconst (v := 2) hx hb dX12_from_19 (by decide) ?_
    refine z_callVi (As := [.int 2]) (rest := []) (wr := [(a_there, .inl (cA.1 0, 10, .inl g_there)), (a_c, .inl (cA.1 0, 1825, .inl g_c))]) ⟨hx, hb, hml, hown, hts⟩ hK hE hT hP hD hS hA (r_no l G cA h0 0 0 m_above m_under a_traySort a_trayMany a_numbers a_tape m_taped m_textEnd m_faultKind m_faultAt m_bad m_badAt m_token m_at m_behind m_number m_letters m_word a_c a_words m_markMany a_there a_tried a_best a_found m_thereMany m_foundMany m_orderHow m_orderRing m_orderMany m_hasBest m_bestTop m_bestBy a_weights a_shared m_random m_truePlace m_trueWay m_seconds m_done m_feelings m_tries m_leftOver m_playDoor m_playRing m_isOpen m_isOver m_wasTried m_hasPlayed a_feltNow a_last a_kept m_hasSeconds m_hasTurned m_hasRound a_hasFeels a_isOn m_firstAct m_meanTop m_meanBy a_order m_rowMany m_newSteps 2) lk_RX12_97 ⟨rfl, rfl⟩ ⟨Nat.le_of_ble_eq_true rfl, Nat.le_of_ble_eq_true rfl⟩ 12 rfl rfl rfl [1] [0, 2] rfl rfl (by decide) rfl hl.1 rfl (lv_room (Nat.le_of_ble_eq_true rfl)) dX12_from_20 ⟨Nat.le_of_ble_eq_true rfl, Nat.le_of_ble_eq_true rfl⟩ (fun r_6 u_7 H locs hw hP hD hS => ?_)
    obtain ⟨n_5, rfl⟩ : ∃ z, z = u_7 := ⟨_, rfl⟩
    obtain ⟨he_r_6, he_n_5, hw⟩ := hw
    obtain ⟨rfl, -⟩ := hw
    have hpost : ((0 : Int32) = 0 ∧ (0 ≤ (0 : Int32).toInt ∧ (0 : Int32).toInt ≤ 0) ∧ (0 ≤ m_thereMany.toInt ∧ m_thereMany.toInt ≤ 10) ∧ (zRg 10 0 9 g_there)) ∨ ((0 : Int32) = 1 ∧ (0 ≤ n_5.toInt ∧ n_5.toInt ≤ 0) ∧ (0 ≤ (0 : Int32).toInt ∧ (0 : Int32).toInt ≤ 0) ∧ (0 ≤ m_thereMany.toInt ∧ m_thereMany.toInt ≤ 10) ∧ (zRg 10 0 9 g_there) ∧ (1 ≤ m_meanBy.toInt ∧ m_meanBy.toInt ≤ 495)) := (Or.inl ⟨rfl, ⟨(by decide +kernel), hr_m_thereMany, hC_g_there⟩⟩)
    exact hret _ _ _ _ _ _ (n_5, 0, m_thereMany, g_there, m_above, m_under, m_meanTop, m_meanBy) [2, 1, 0] hP hD hS rfl (by decide) dX12_from_23 (Or.inl rfl) hpost
  · skip
    refine lv_if_ne (tgt := 24) hx hb dX12_from_15 (by decide) (fun _ => ?_) (fun h9 => absurd h9 (by decide +kernel))
    refine lv_aload_n hx hb dX12_from_24 rfl (lv_at hl 0 rfl) ?_
    refine lv_iload_n hx hb dX12_from_25 rfl (lv_at hl 1 rfl) ?_
    refine z_callVv (As := [.int r]) (rest := []) (wr := []) ⟨hx, hb, hml, hown, hts⟩ hK hE hT hP hD hS hA (r_gather l G cA h0 0 0 m_above m_under a_traySort a_trayMany a_numbers a_tape m_taped m_textEnd m_faultKind m_faultAt m_bad m_badAt m_token m_at m_behind m_number m_letters m_word a_c a_words m_markMany a_there a_tried a_best a_found m_thereMany m_foundMany m_orderHow m_orderRing m_orderMany m_hasBest m_bestTop m_bestBy a_weights a_shared m_random m_truePlace m_trueWay m_seconds m_done m_feelings m_tries m_leftOver m_playDoor m_playRing m_isOpen m_isOver m_wasTried m_hasPlayed a_feltNow a_last a_kept m_hasSeconds m_hasTurned m_hasRound a_hasFeels a_isOn m_firstAct m_meanTop m_meanBy a_order m_rowMany m_newSteps g_c g_there r (by omega) hr_m_thereMany hC_g_c hC_g_there) lk_RX12_292 ⟨rfl, rfl⟩ ⟨Nat.le_of_ble_eq_true rfl, Nat.le_of_ble_eq_true rfl⟩ 12 rfl rfl rfl [1, 2, 0] [] rfl rfl (by decide) rfl hl.1 rfl (lv_room (Nat.le_of_ble_eq_true rfl)) dX12_from_26 ⟨Nat.le_of_ble_eq_true rfl, Nat.le_of_ble_eq_true rfl⟩ (fun u_11 H locs hw hP hD hS => ?_)
    obtain ⟨n_8, n_9⟩ := u_11
    try dsimp only at hw
    obtain ⟨hr_n_8, hC_n_9, hf_12, hf_13⟩ := hw
    refine lv_iload_n hx hb dX12_from_29 rfl (lv_at hl 2 rfl) ?_
    refine lv_i2l (v := (pp).toInt64) hx hb dX12_from_30 rfl ?_
    refine lv_topl (fun x_14 he_x_14 => ?_)
    have hq_x_14 := z_i2l he_x_14
    have hL_pp := z_full pp
    refine lv_lconst (v := 0) hx hb dX12_from_31 (by decide) ?_
    refine lv_aload_n hx hb dX12_from_32 rfl (lv_at hl 0 rfl) ?_
    refine va_get (D := G) (ci := 12) (v := .int n_8) (C := RX12) (T := TX12) (N := 65) hx hb hts inT12 hown hK hP 0 rfl rfl 27 (by decide) (hts _ tw_1912) (fun _ h9 => h9) rfl dX12_from_33 ?_
    refine lv_iconst (v := 1) hx hb dX12_from_36 (by decide) ?_
    refine lv_isub hx hb dX12_from_37 ?_
    refine lv_topi (fun x_15 he_x_15 => ?_)
    have hq_x_15 := z_subq he_x_15 (rfl : n_8.toInt = _) hk_1 (by omega) (by omega)
    refine lv_i2l (v := (x_15).toInt64) hx hb dX12_from_38 rfl ?_
    refine lv_topl (fun x_16 he_x_16 => ?_)
    have hq_x_16 := z_i2l he_x_16
    refine z_callSi (As := [.long x_14, .long 0, .long x_16]) (rest := []) (wr := [(h0, .inr (12, [.int 0, .int 0, .long m_above, .long m_under, .ref a_traySort, .ref a_trayMany, .ref a_numbers, .ref a_tape, .int m_taped, .int m_textEnd, .int m_faultKind, .int m_faultAt, .int m_bad, .int m_badAt, .int m_token, .int m_at, .int m_behind, .int m_number, .int m_letters, .long m_word, .ref a_c, .ref a_words, .int m_markMany, .ref a_there, .ref a_tried, .ref a_best, .ref a_found, .int n_8, .int m_foundMany, .int m_orderHow, .int m_orderRing, .int m_orderMany, .int m_hasBest, .long m_bestTop, .long m_bestBy, .ref a_weights, .ref a_shared, .int m_random, .int m_truePlace, .int m_trueWay, .int m_seconds, .int m_done, .int m_feelings, .int m_tries, .int m_leftOver, .int m_playDoor, .int m_playRing, .int m_isOpen, .int m_isOver, .int m_wasTried, .int m_hasPlayed, .ref a_feltNow, .ref a_last, .ref a_kept, .int m_hasSeconds, .int m_hasTurned, .int m_hasRound, .ref a_hasFeels, .ref a_isOn, .int m_firstAct, .long m_meanTop, .long m_meanBy, .ref a_order, .int m_rowMany, .int m_newSteps])), (a_c, .inl (cA.1 0, 1825, .inl g_c)), (a_there, .inl (cA.1 0, 10, .inl n_9))]) ⟨hx, hb, hml, hown, hts⟩ hK hE hT hP hD hS hA (r_isIn l G cA x_14 0 x_16) lk_RX12_117 ⟨rfl, rfl⟩ ⟨Nat.le_of_ble_eq_true rfl, Nat.le_of_ble_eq_true rfl⟩ [] [0, 1, 2] rfl rfl (by decide) rfl hl.1 rfl (lv_room (Nat.le_of_ble_eq_true rfl)) dX12_from_39 ⟨Nat.le_of_ble_eq_true rfl, Nat.le_of_ble_eq_true rfl⟩ (fun r_17 u_18 H locs hw hP hD hS => ?_)
    rcases hw with ⟨rfl, hf_19⟩ | ⟨rfl, hf_20⟩
    · skip
      refine lv_if_eq (tgt := 55) hx hb dX12_from_42 (by decide) (fun _ => ?_) (fun h9 => absurd (by decide +kernel) h9)
      refine lv_aload_n hx hb dX12_from_55 rfl (lv_at hl 0 rfl) ?_
      refine lv_iconst (v := 5) hx hb dX12_from_56 (by decide) ?_
      refine z_callVi (As := [.int 5]) (rest := []) (wr := [(a_c, .inl (cA.1 0, 1825, .inl g_c)), (a_there, .inl (cA.1 0, 10, .inl n_9))]) ⟨hx, hb, hml, hown, hts⟩ hK hE hT hP hD hS hA (r_no l G cA h0 0 0 m_above m_under a_traySort a_trayMany a_numbers a_tape m_taped m_textEnd m_faultKind m_faultAt m_bad m_badAt m_token m_at m_behind m_number m_letters m_word a_c a_words m_markMany a_there a_tried a_best a_found n_8 m_foundMany m_orderHow m_orderRing m_orderMany m_hasBest m_bestTop m_bestBy a_weights a_shared m_random m_truePlace m_trueWay m_seconds m_done m_feelings m_tries m_leftOver m_playDoor m_playRing m_isOpen m_isOver m_wasTried m_hasPlayed a_feltNow a_last a_kept m_hasSeconds m_hasTurned m_hasRound a_hasFeels a_isOn m_firstAct m_meanTop m_meanBy a_order m_rowMany m_newSteps 5) lk_RX12_97 ⟨rfl, rfl⟩ ⟨Nat.le_of_ble_eq_true rfl, Nat.le_of_ble_eq_true rfl⟩ 12 rfl rfl rfl [0] [1, 2] rfl rfl (by decide) rfl hl.1 rfl (lv_room (Nat.le_of_ble_eq_true rfl)) dX12_from_57 ⟨Nat.le_of_ble_eq_true rfl, Nat.le_of_ble_eq_true rfl⟩ (fun r_22 u_23 H locs hw hP hD hS => ?_)
      obtain ⟨n_21, rfl⟩ : ∃ z, z = u_23 := ⟨_, rfl⟩
      obtain ⟨he_r_22, he_n_21, hw⟩ := hw
      obtain ⟨rfl, -⟩ := hw
      have hpost : ((0 : Int32) = 0 ∧ (0 ≤ (0 : Int32).toInt ∧ (0 : Int32).toInt ≤ 0) ∧ (0 ≤ n_8.toInt ∧ n_8.toInt ≤ 10) ∧ (zRg 10 0 9 n_9)) ∨ ((0 : Int32) = 1 ∧ (0 ≤ n_21.toInt ∧ n_21.toInt ≤ 0) ∧ (0 ≤ (0 : Int32).toInt ∧ (0 : Int32).toInt ≤ 0) ∧ (0 ≤ n_8.toInt ∧ n_8.toInt ≤ 10) ∧ (zRg 10 0 9 n_9) ∧ (1 ≤ m_meanBy.toInt ∧ m_meanBy.toInt ≤ 495)) := (Or.inl ⟨rfl, ⟨(by decide +kernel), hr_n_8, hC_n_9⟩⟩)
      exact hret _ _ _ _ _ _ (n_21, 0, n_8, n_9, m_above, m_under, m_meanTop, m_meanBy) [2, 0, 1] hP hD hS rfl (by decide) dX12_from_60 (Or.inl rfl) hpost
    · skip
      refine lv_if_eq (tgt := 55) hx hb dX12_from_42 (by decide) (fun h9 => absurd h9 (by decide +kernel)) (fun _ => ?_)
      refine lv_iload_n hx hb dX12_from_45 rfl (lv_at hl 3 rfl) ?_
      refine lv_i2l (v := (w).toInt64) hx hb dX12_from_46 rfl ?_
      refine lv_topl (fun x_24 he_x_24 => ?_)
      have hq_x_24 := z_i2l he_x_24
      have hL_w := z_full w
      refine lv_lconst (v := 0) hx hb dX12_from_47 (by decide) ?_
      refine lv_lconst (v := 1) hx hb dX12_from_48 (by decide) ?_
      refine z_callSi (As := [.long x_24, .long 0, .long 1]) (rest := []) (wr := [(h0, .inr (12, [.int 0, .int 0, .long m_above, .long m_under, .ref a_traySort, .ref a_trayMany, .ref a_numbers, .ref a_tape, .int m_taped, .int m_textEnd, .int m_faultKind, .int m_faultAt, .int m_bad, .int m_badAt, .int m_token, .int m_at, .int m_behind, .int m_number, .int m_letters, .long m_word, .ref a_c, .ref a_words, .int m_markMany, .ref a_there, .ref a_tried, .ref a_best, .ref a_found, .int n_8, .int m_foundMany, .int m_orderHow, .int m_orderRing, .int m_orderMany, .int m_hasBest, .long m_bestTop, .long m_bestBy, .ref a_weights, .ref a_shared, .int m_random, .int m_truePlace, .int m_trueWay, .int m_seconds, .int m_done, .int m_feelings, .int m_tries, .int m_leftOver, .int m_playDoor, .int m_playRing, .int m_isOpen, .int m_isOver, .int m_wasTried, .int m_hasPlayed, .ref a_feltNow, .ref a_last, .ref a_kept, .int m_hasSeconds, .int m_hasTurned, .int m_hasRound, .ref a_hasFeels, .ref a_isOn, .int m_firstAct, .long m_meanTop, .long m_meanBy, .ref a_order, .int m_rowMany, .int m_newSteps])), (a_c, .inl (cA.1 0, 1825, .inl g_c)), (a_there, .inl (cA.1 0, 10, .inl n_9))]) ⟨hx, hb, hml, hown, hts⟩ hK hE hT hP hD hS hA (r_isIn l G cA x_24 0 1) lk_RX12_117 ⟨rfl, rfl⟩ ⟨Nat.le_of_ble_eq_true rfl, Nat.le_of_ble_eq_true rfl⟩ [] [0, 1, 2] rfl rfl (by decide) rfl hl.1 rfl (lv_room (Nat.le_of_ble_eq_true rfl)) dX12_from_49 ⟨Nat.le_of_ble_eq_true rfl, Nat.le_of_ble_eq_true rfl⟩ (fun r_25 u_26 H locs hw hP hD hS => ?_)
      rcases hw with ⟨rfl, hf_27⟩ | ⟨rfl, hf_28⟩
      · skip
        refine lv_if_ne (tgt := 61) hx hb dX12_from_52 (by decide) (fun h9 => absurd (by decide +kernel) h9) (fun _ => ?_)
        refine lv_aload_n hx hb dX12_from_55 rfl (lv_at hl 0 rfl) ?_
        refine lv_iconst (v := 5) hx hb dX12_from_56 (by decide) ?_
        refine z_callVi (As := [.int 5]) (rest := []) (wr := [(a_c, .inl (cA.1 0, 1825, .inl g_c)), (a_there, .inl (cA.1 0, 10, .inl n_9))]) ⟨hx, hb, hml, hown, hts⟩ hK hE hT hP hD hS hA (r_no l G cA h0 0 0 m_above m_under a_traySort a_trayMany a_numbers a_tape m_taped m_textEnd m_faultKind m_faultAt m_bad m_badAt m_token m_at m_behind m_number m_letters m_word a_c a_words m_markMany a_there a_tried a_best a_found n_8 m_foundMany m_orderHow m_orderRing m_orderMany m_hasBest m_bestTop m_bestBy a_weights a_shared m_random m_truePlace m_trueWay m_seconds m_done m_feelings m_tries m_leftOver m_playDoor m_playRing m_isOpen m_isOver m_wasTried m_hasPlayed a_feltNow a_last a_kept m_hasSeconds m_hasTurned m_hasRound a_hasFeels a_isOn m_firstAct m_meanTop m_meanBy a_order m_rowMany m_newSteps 5) lk_RX12_97 ⟨rfl, rfl⟩ ⟨Nat.le_of_ble_eq_true rfl, Nat.le_of_ble_eq_true rfl⟩ 12 rfl rfl rfl [0] [1, 2] rfl rfl (by decide) rfl hl.1 rfl (lv_room (Nat.le_of_ble_eq_true rfl)) dX12_from_57 ⟨Nat.le_of_ble_eq_true rfl, Nat.le_of_ble_eq_true rfl⟩ (fun r_30 u_31 H locs hw hP hD hS => ?_)
        obtain ⟨n_29, rfl⟩ : ∃ z, z = u_31 := ⟨_, rfl⟩
        obtain ⟨he_r_30, he_n_29, hw⟩ := hw
        obtain ⟨rfl, -⟩ := hw
        have hpost : ((0 : Int32) = 0 ∧ (0 ≤ (0 : Int32).toInt ∧ (0 : Int32).toInt ≤ 0) ∧ (0 ≤ n_8.toInt ∧ n_8.toInt ≤ 10) ∧ (zRg 10 0 9 n_9)) ∨ ((0 : Int32) = 1 ∧ (0 ≤ n_29.toInt ∧ n_29.toInt ≤ 0) ∧ (0 ≤ (0 : Int32).toInt ∧ (0 : Int32).toInt ≤ 0) ∧ (0 ≤ n_8.toInt ∧ n_8.toInt ≤ 10) ∧ (zRg 10 0 9 n_9) ∧ (1 ≤ m_meanBy.toInt ∧ m_meanBy.toInt ≤ 495)) := (Or.inl ⟨rfl, ⟨(by decide +kernel), hr_n_8, hC_n_9⟩⟩)
        exact hret _ _ _ _ _ _ (n_29, 0, n_8, n_9, m_above, m_under, m_meanTop, m_meanBy) [2, 0, 1] hP hD hS rfl (by decide) dX12_from_60 (Or.inl rfl) hpost
      · skip
        refine lv_if_ne (tgt := 61) hx hb dX12_from_52 (by decide) (fun _ => ?_) (fun h9 => absurd h9 (by decide +kernel))
        refine lv_aload_n hx hb dX12_from_61 rfl (lv_at hl 0 rfl) ?_
        refine lv_iload_n hx hb dX12_from_62 rfl (lv_at hl 2 rfl) ?_
        refine lv_iload_n hx hb dX12_from_63 rfl (lv_at hl 3 rfl) ?_
        refine z_callVv (As := [.int pp, .int w]) (rest := []) (wr := []) ⟨hx, hb, hml, hown, hts⟩ hK hE hT hP hD hS hA (r_meanFrom l G cA h0 0 0 m_above m_under a_traySort a_trayMany a_numbers a_tape m_taped m_textEnd m_faultKind m_faultAt m_bad m_badAt m_token m_at m_behind m_number m_letters m_word a_c a_words m_markMany a_there a_tried a_best a_found n_8 m_foundMany m_orderHow m_orderRing m_orderMany m_hasBest m_bestTop m_bestBy a_weights a_shared m_random m_truePlace m_trueWay m_seconds m_done m_feelings m_tries m_leftOver m_playDoor m_playRing m_isOpen m_isOver m_wasTried m_hasPlayed a_feltNow a_last a_kept m_hasSeconds m_hasTurned m_hasRound a_hasFeels a_isOn m_firstAct m_meanTop m_meanBy a_order m_rowMany m_newSteps g_c n_9 pp w (by omega) (by omega) hr_n_8 hC_g_c hC_n_9 (by omega)) lk_RX12_396 ⟨rfl, rfl⟩ ⟨Nat.le_of_ble_eq_true rfl, Nat.le_of_ble_eq_true rfl⟩ 12 rfl rfl rfl [0, 1, 2] [] rfl rfl (by decide) rfl hl.1 rfl (lv_room (Nat.le_of_ble_eq_true rfl)) dX12_from_64 ⟨Nat.le_of_ble_eq_true rfl, Nat.le_of_ble_eq_true rfl⟩ (fun u_35 H locs hw hP hD hS => ?_)
        obtain ⟨n_32, n_33⟩ := u_35
        try dsimp only at hw
        obtain ⟨hr_n_33, hf_36⟩ := hw
        refine lv_aload_n hx hb dX12_from_67 rfl (lv_at hl 0 rfl) ?_
        refine va_get (D := G) (ci := 12) (v := .long n_33) (C := RX12) (T := TX12) (N := 65) hx hb hts inT12 hown hK hP 0 rfl rfl 61 (by decide) (hts _ tw_1944) (fun _ h9 => h9) rfl dX12_from_68 ?_
        refine lv_lconst (v := 0) hx hb dX12_from_71 (by decide) ?_
        refine W.lcmp hx hb dX12_from_72 ?_
        refine lv_if_ne (tgt := 85) hx hb dX12_from_73 (by decide) (fun c_37 => ?_) (fun c_37 => ?_)
        · have b_38 := z_fneTl c_37
          refine lv_aload_n hx hb dX12_from_85 rfl (lv_at hl 0 rfl) ?_
          refine lv_aload_n hx hb dX12_from_86 rfl (lv_at hl 0 rfl) ?_
          refine va_get (D := G) (ci := 12) (v := .long n_32) (C := RX12) (T := TX12) (N := 65) hx hb hts inT12 hown hK hP 0 rfl rfl 60 (by decide) (hts _ tw_1943) (fun _ h9 => h9) rfl dX12_from_87 ?_
          refine lv_aload_n hx hb dX12_from_90 rfl (lv_at hl 0 rfl) ?_
          refine va_get (D := G) (ci := 12) (v := .long n_33) (C := RX12) (T := TX12) (N := 65) hx hb hts inT12 hown hK hP 0 rfl rfl 61 (by decide) (hts _ tw_1944) (fun _ h9 => h9) rfl dX12_from_91 ?_
          refine z_callVi (As := [.long n_32, .long n_33]) (rest := []) (wr := [(a_c, .inl (cA.1 0, 1825, .inl g_c)), (a_there, .inl (cA.1 0, 10, .inl n_9))]) ⟨hx, hb, hml, hown, hts⟩ hK hE hT hP hD hS hA (r_fraction l G cA h0 0 0 m_above m_under a_traySort a_trayMany a_numbers a_tape m_taped m_textEnd m_faultKind m_faultAt m_bad m_badAt m_token m_at m_behind m_number m_letters m_word a_c a_words m_markMany a_there a_tried a_best a_found n_8 m_foundMany m_orderHow m_orderRing m_orderMany m_hasBest m_bestTop m_bestBy a_weights a_shared m_random m_truePlace m_trueWay m_seconds m_done m_feelings m_tries m_leftOver m_playDoor m_playRing m_isOpen m_isOver m_wasTried m_hasPlayed a_feltNow a_last a_kept m_hasSeconds m_hasTurned m_hasRound a_hasFeels a_isOn m_firstAct n_32 n_33 a_order m_rowMany m_newSteps n_32 n_33 (by omega)) lk_RX12_352 ⟨rfl, rfl⟩ ⟨Nat.le_of_ble_eq_true rfl, Nat.le_of_ble_eq_true rfl⟩ 12 rfl rfl rfl [0] [1, 2] rfl rfl (by decide) rfl hl.1 rfl (lv_room (Nat.le_of_ble_eq_true rfl)) dX12_from_94 ⟨Nat.le_of_ble_eq_true rfl, Nat.le_of_ble_eq_true rfl⟩ (fun r_41 u_42 H locs hw hP hD hS => ?_)
          obtain ⟨n_39, n_40⟩ := u_42
          try dsimp only at hw
          obtain ⟨rfl, -⟩ := hw
          have hpost : ((1 : Int32) = 0 ∧ (0 ≤ (0 : Int32).toInt ∧ (0 : Int32).toInt ≤ 0) ∧ (0 ≤ n_8.toInt ∧ n_8.toInt ≤ 10) ∧ (zRg 10 0 9 n_9)) ∨ ((1 : Int32) = 1 ∧ (0 ≤ (0 : Int32).toInt ∧ (0 : Int32).toInt ≤ 0) ∧ (0 ≤ (0 : Int32).toInt ∧ (0 : Int32).toInt ≤ 0) ∧ (0 ≤ n_8.toInt ∧ n_8.toInt ≤ 10) ∧ (zRg 10 0 9 n_9) ∧ (1 ≤ n_33.toInt ∧ n_33.toInt ≤ 495)) := (Or.inr ⟨rfl, ⟨(by decide +kernel), (by decide +kernel), hr_n_8, hC_n_9, (by omega)⟩⟩)
          exact hret _ _ _ _ _ _ (0, 0, n_8, n_9, n_39, n_40, n_32, n_33) [2, 0, 1] hP hD hS rfl (by decide) dX12_from_97 (Or.inr rfl) hpost
        · have b_43 := z_feqFl c_37
          refine lv_aload_n hx hb dX12_from_76 rfl (lv_at hl 0 rfl) ?_
          refine lv_bipush (v := 8) hx hb dX12_from_77 (by decide) ?_
          refine z_callVi (As := [.int 8]) (rest := []) (wr := [(a_c, .inl (cA.1 0, 1825, .inl g_c)), (a_there, .inl (cA.1 0, 10, .inl n_9))]) ⟨hx, hb, hml, hown, hts⟩ hK hE hT hP hD hS hA (r_no l G cA h0 0 0 m_above m_under a_traySort a_trayMany a_numbers a_tape m_taped m_textEnd m_faultKind m_faultAt m_bad m_badAt m_token m_at m_behind m_number m_letters m_word a_c a_words m_markMany a_there a_tried a_best a_found n_8 m_foundMany m_orderHow m_orderRing m_orderMany m_hasBest m_bestTop m_bestBy a_weights a_shared m_random m_truePlace m_trueWay m_seconds m_done m_feelings m_tries m_leftOver m_playDoor m_playRing m_isOpen m_isOver m_wasTried m_hasPlayed a_feltNow a_last a_kept m_hasSeconds m_hasTurned m_hasRound a_hasFeels a_isOn m_firstAct n_32 n_33 a_order m_rowMany m_newSteps 8) lk_RX12_97 ⟨rfl, rfl⟩ ⟨Nat.le_of_ble_eq_true rfl, Nat.le_of_ble_eq_true rfl⟩ 12 rfl rfl rfl [0] [1, 2] rfl rfl (by decide) rfl hl.1 rfl (lv_room (Nat.le_of_ble_eq_true rfl)) dX12_from_79 ⟨Nat.le_of_ble_eq_true rfl, Nat.le_of_ble_eq_true rfl⟩ (fun r_45 u_46 H locs hw hP hD hS => ?_)
          obtain ⟨n_44, rfl⟩ : ∃ z, z = u_46 := ⟨_, rfl⟩
          obtain ⟨he_r_45, he_n_44, hw⟩ := hw
          obtain ⟨rfl, -⟩ := hw
          refine lv_goto (tgt := 97) hx hb dX12_from_82 (by decide) ?_
          have hpost : ((0 : Int32) = 0 ∧ (0 ≤ (0 : Int32).toInt ∧ (0 : Int32).toInt ≤ 0) ∧ (0 ≤ n_8.toInt ∧ n_8.toInt ≤ 10) ∧ (zRg 10 0 9 n_9)) ∨ ((0 : Int32) = 1 ∧ (0 ≤ n_44.toInt ∧ n_44.toInt ≤ 0) ∧ (0 ≤ (0 : Int32).toInt ∧ (0 : Int32).toInt ≤ 0) ∧ (0 ≤ n_8.toInt ∧ n_8.toInt ≤ 10) ∧ (zRg 10 0 9 n_9) ∧ (1 ≤ n_33.toInt ∧ n_33.toInt ≤ 495)) := (Or.inl ⟨rfl, ⟨(by decide +kernel), hr_n_8, hC_n_9⟩⟩)
          exact hret _ _ _ _ _ _ (n_44, 0, n_8, n_9, m_above, m_under, n_32, n_33) [2, 0, 1] hP hD hS rfl (by decide) dX12_from_97 (Or.inl rfl) hpost
set_option maxHeartbeats 4000000 in
set_option maxRecDepth 100000 in
theorem r_anywhere (l : Launch) (G : va_G) (cA : zCA) (h0 : Nat) (m_status : Int32) (m_thrown : Int32) (m_above : Int64) (m_under : Int64) (a_traySort : Nat) (a_trayMany : Nat) (a_numbers : Nat) (a_tape : Nat) (m_taped : Int32) (m_textEnd : Int32) (m_faultKind : Int32) (m_faultAt : Int32) (m_bad : Int32) (m_badAt : Int32) (m_token : Int32) (m_at : Int32) (m_behind : Int32) (m_number : Int32) (m_letters : Int32) (m_word : Int64) (a_c : Nat) (a_words : Nat) (m_markMany : Int32) (a_there : Nat) (a_tried : Nat) (a_best : Nat) (a_found : Nat) (m_thereMany : Int32) (m_foundMany : Int32) (m_orderHow : Int32) (m_orderRing : Int32) (m_orderMany : Int32) (m_hasBest : Int32) (m_bestTop : Int64) (m_bestBy : Int64) (a_weights : Nat) (a_shared : Nat) (m_random : Int32) (m_truePlace : Int32) (m_trueWay : Int32) (m_seconds : Int32) (m_done : Int32) (m_feelings : Int32) (m_tries : Int32) (m_leftOver : Int32) (m_playDoor : Int32) (m_playRing : Int32) (m_isOpen : Int32) (m_isOver : Int32) (m_wasTried : Int32) (m_hasPlayed : Int32) (a_feltNow : Nat) (a_last : Nat) (a_kept : Nat) (m_hasSeconds : Int32) (m_hasTurned : Int32) (m_hasRound : Int32) (a_hasFeels : Nat) (a_isOn : Nat) (m_firstAct : Int32) (m_meanTop : Int64) (m_meanBy : Int64) (a_order : Nat) (m_rowMany : Int32) (m_newSteps : Int32) (g_c : Nat → Int32) (g_there : Nat → Int32) (r : Int32) (hr_m_thereMany : 0 ≤ m_thereMany.toInt ∧ m_thereMany.toInt ≤ 10) (hC_g_c : zC g_c) (hC_g_there : zRg 10 0 9 g_there) : zCi l yX12_anywhere cX12_anywhere 2 (some .boolean) ({ frames := 4, cells := 0, slots := 0, locals := 97 }) G cA [.ref h0, .int r] [(h0, .inr (12, [.int m_status, .int m_thrown, .long m_above, .long m_under, .ref a_traySort, .ref a_trayMany, .ref a_numbers, .ref a_tape, .int m_taped, .int m_textEnd, .int m_faultKind, .int m_faultAt, .int m_bad, .int m_badAt, .int m_token, .int m_at, .int m_behind, .int m_number, .int m_letters, .long m_word, .ref a_c, .ref a_words, .int m_markMany, .ref a_there, .ref a_tried, .ref a_best, .ref a_found, .int m_thereMany, .int m_foundMany, .int m_orderHow, .int m_orderRing, .int m_orderMany, .int m_hasBest, .long m_bestTop, .long m_bestBy, .ref a_weights, .ref a_shared, .int m_random, .int m_truePlace, .int m_trueWay, .int m_seconds, .int m_done, .int m_feelings, .int m_tries, .int m_leftOver, .int m_playDoor, .int m_playRing, .int m_isOpen, .int m_isOver, .int m_wasTried, .int m_hasPlayed, .ref a_feltNow, .ref a_last, .ref a_kept, .int m_hasSeconds, .int m_hasTurned, .int m_hasRound, .ref a_hasFeels, .ref a_isOn, .int m_firstAct, .long m_meanTop, .long m_meanBy, .ref a_order, .int m_rowMany, .int m_newSteps])), (a_c, .inl (cA.1 0, 1825, .inl g_c)), (a_there, .inl (cA.1 0, 10, .inl g_there))] (S := Int32 × Int32 × Int64 × Int64 × Int32 × Int64 × Int64 × (Nat → Int32)) (fun (r : Int32) (u : Int32 × Int32 × Int64 × Int64 × Int32 × Int64 × Int64 × (Nat → Int32)) => (r = 0 ∧ (0 ≤ u.2.1.toInt ∧ u.2.1.toInt ≤ 0) ∧ (0 ≤ u.2.2.2.2.1.toInt ∧ u.2.2.2.2.1.toInt ≤ 10) ∧ (zRg 10 0 9 u.2.2.2.2.2.2.2)) ∨ (r = 1 ∧ (0 ≤ u.1.toInt ∧ u.1.toInt ≤ 0) ∧ (0 ≤ u.2.1.toInt ∧ u.2.1.toInt ≤ 0) ∧ (0 ≤ u.2.2.2.2.1.toInt ∧ u.2.2.2.2.1.toInt ≤ 10) ∧ (1 ≤ u.2.2.2.2.2.2.1.toInt ∧ u.2.2.2.2.2.2.1.toInt ≤ 79200) ∧ (zRg 10 0 9 u.2.2.2.2.2.2.2))) (fun (u : Int32 × Int32 × Int64 × Int64 × Int32 × Int64 × Int64 × (Nat → Int32)) => [(h0, .inr (12, [.int u.1, .int u.2.1, .long u.2.2.1, .long u.2.2.2.1, .ref a_traySort, .ref a_trayMany, .ref a_numbers, .ref a_tape, .int m_taped, .int m_textEnd, .int m_faultKind, .int m_faultAt, .int m_bad, .int m_badAt, .int m_token, .int m_at, .int m_behind, .int m_number, .int m_letters, .long m_word, .ref a_c, .ref a_words, .int m_markMany, .ref a_there, .ref a_tried, .ref a_best, .ref a_found, .int u.2.2.2.2.1, .int m_foundMany, .int m_orderHow, .int m_orderRing, .int m_orderMany, .int m_hasBest, .long m_bestTop, .long m_bestBy, .ref a_weights, .ref a_shared, .int m_random, .int m_truePlace, .int m_trueWay, .int m_seconds, .int m_done, .int m_feelings, .int m_tries, .int m_leftOver, .int m_playDoor, .int m_playRing, .int m_isOpen, .int m_isOver, .int m_wasTried, .int m_hasPlayed, .ref a_feltNow, .ref a_last, .ref a_kept, .int m_hasSeconds, .int m_hasTurned, .int m_hasRound, .ref a_hasFeels, .ref a_isOn, .int m_firstAct, .long u.2.2.2.2.2.1, .long u.2.2.2.2.2.2.1, .ref a_order, .int m_rowMany, .int m_newSteps])), (a_c, .inl (cA.1 0, 1825, .inl g_c)), (a_there, .inl (cA.1 0, 10, .inl u.2.2.2.2.2.2.2))]) 0 0 := by
  have hk_2 : (2 : Int32).toInt = 2 := by decide +kernel
  have hk_8 : (8 : Int32).toInt = 8 := by decide +kernel
  have hkl_0 : (0 : Int64).toInt = 0 := by decide +kernel
  refine z_start2z (own := RX12) (by decide) (Nat.le_of_ble_eq_true rfl) rfl ?_
  intro p e s m args below meth c A ls Q hx hb hml hts hown hK hE hT hP hD hS hA hl hret
  have hl : lv_has ls 2 [(0, .ref h0), (1, .int r)] := hl
  refine lv_aload_n hx hb dX12_anywhere_0 rfl (lv_at hl 0 rfl) ?_
  refine lv_iconst (v := 0) hx hb dX12_anywhere_1 (by decide) ?_
  refine va_put (D := G) (ci := 12) (v := .int 0) (ty := .int) (C := RX12) (T := TX12) (N := 65) hx hb hts inT12 tyX12 tyX12_ok nmX12 hown hK hP hD hS 0 rfl rfl 1 (by decide) (hts _ tw_1886) (fun _ h9 => h9) rfl (tyX12_ok 1 (by decide)) rfl rfl (Nat.le_of_ble_eq_true rfl) dX12_anywhere_2 (fun H locs hP hD hS => ?_)
  refine lv_aload_n hx hb dX12_anywhere_5 rfl (lv_at hl 0 rfl) ?_
  refine lv_iconst (v := 0) hx hb dX12_anywhere_6 (by decide) ?_
  refine va_put (D := G) (ci := 12) (v := .int 0) (ty := .int) (C := RX12) (T := TX12) (N := 65) hx hb hts inT12 tyX12 tyX12_ok nmX12 hown hK hP hD hS 0 rfl rfl 0 (by decide) (hts _ tw_1885) (fun _ h9 => h9) rfl (tyX12_ok 0 (by decide)) rfl rfl (Nat.le_of_ble_eq_true rfl) dX12_anywhere_7 (fun H locs hP hD hS => ?_)
  refine lv_aload_n hx hb dX12_anywhere_10 rfl (lv_at hl 0 rfl) ?_
  refine lv_iload_n hx hb dX12_anywhere_11 rfl (lv_at hl 1 rfl) ?_
  refine z_callVi (As := [.int r]) (rest := []) (wr := [(a_there, .inl (cA.1 0, 10, .inl g_there))]) ⟨hx, hb, hml, hown, hts⟩ hK hE hT hP hD hS hA (r_isRing l G cA h0 0 0 m_above m_under a_traySort a_trayMany a_numbers a_tape m_taped m_textEnd m_faultKind m_faultAt m_bad m_badAt m_token m_at m_behind m_number m_letters m_word a_c a_words m_markMany a_there a_tried a_best a_found m_thereMany m_foundMany m_orderHow m_orderRing m_orderMany m_hasBest m_bestTop m_bestBy a_weights a_shared m_random m_truePlace m_trueWay m_seconds m_done m_feelings m_tries m_leftOver m_playDoor m_playRing m_isOpen m_isOver m_wasTried m_hasPlayed a_feltNow a_last a_kept m_hasSeconds m_hasTurned m_hasRound a_hasFeels a_isOn m_firstAct m_meanTop m_meanBy a_order m_rowMany m_newSteps g_c r hC_g_c) lk_RX12_289 ⟨rfl, rfl⟩ ⟨Nat.le_of_ble_eq_true rfl, Nat.le_of_ble_eq_true rfl⟩ 12 rfl rfl rfl [0, 1] [2] rfl rfl (by decide) rfl hl.1 rfl (lv_room (Nat.le_of_ble_eq_true rfl)) dX12_anywhere_12 ⟨Nat.le_of_ble_eq_true rfl, Nat.le_of_ble_eq_true rfl⟩ (fun r_1 u_2 H locs hw hP hD hS => ?_)
  rcases hw with ⟨rfl, -⟩ | ⟨rfl, hf_3, hf_4⟩
  · skip
    refine lv_if_ne (tgt := 24) hx hb dX12_anywhere_15 (by decide) (fun h9 => absurd (by decide +kernel) h9) (fun _ => ?_)
    refine lv_aload_n hx hb dX12_anywhere_18 rfl (lv_at hl 0 rfl) ?_
    refine lv_iconst (v := 2) hx hb dX12_anywhere_19 (by decide) ?_
    refine z_callVi (As := [.int 2]) (rest := []) (wr := [(a_there, .inl (cA.1 0, 10, .inl g_there)), (a_c, .inl (cA.1 0, 1825, .inl g_c))]) ⟨hx, hb, hml, hown, hts⟩ hK hE hT hP hD hS hA (r_no l G cA h0 0 0 m_above m_under a_traySort a_trayMany a_numbers a_tape m_taped m_textEnd m_faultKind m_faultAt m_bad m_badAt m_token m_at m_behind m_number m_letters m_word a_c a_words m_markMany a_there a_tried a_best a_found m_thereMany m_foundMany m_orderHow m_orderRing m_orderMany m_hasBest m_bestTop m_bestBy a_weights a_shared m_random m_truePlace m_trueWay m_seconds m_done m_feelings m_tries m_leftOver m_playDoor m_playRing m_isOpen m_isOver m_wasTried m_hasPlayed a_feltNow a_last a_kept m_hasSeconds m_hasTurned m_hasRound a_hasFeels a_isOn m_firstAct m_meanTop m_meanBy a_order m_rowMany m_newSteps 2) lk_RX12_97 ⟨rfl, rfl⟩ ⟨Nat.le_of_ble_eq_true rfl, Nat.le_of_ble_eq_true rfl⟩ 12 rfl rfl rfl [1] [0, 2] rfl rfl (by decide) rfl hl.1 rfl (lv_room (Nat.le_of_ble_eq_true rfl)) dX12_anywhere_20 ⟨Nat.le_of_ble_eq_true rfl, Nat.le_of_ble_eq_true rfl⟩ (fun r_6 u_7 H locs hw hP hD hS => ?_)
    obtain ⟨n_5, rfl⟩ : ∃ z, z = u_7 := ⟨_, rfl⟩
    obtain ⟨he_r_6, he_n_5, hw⟩ := hw
    obtain ⟨rfl, -⟩ := hw
    have hpost : ((0 : Int32) = 0 ∧ (0 ≤ (0 : Int32).toInt ∧ (0 : Int32).toInt ≤ 0) ∧ (0 ≤ m_thereMany.toInt ∧ m_thereMany.toInt ≤ 10) ∧ (zRg 10 0 9 g_there)) ∨ ((0 : Int32) = 1 ∧ (0 ≤ n_5.toInt ∧ n_5.toInt ≤ 0) ∧ (0 ≤ (0 : Int32).toInt ∧ (0 : Int32).toInt ≤ 0) ∧ (0 ≤ m_thereMany.toInt ∧ m_thereMany.toInt ≤ 10) ∧ (1 ≤ m_meanBy.toInt ∧ m_meanBy.toInt ≤ 79200) ∧ (zRg 10 0 9 g_there)) := (Or.inl ⟨rfl, ⟨(by decide +kernel), hr_m_thereMany, hC_g_there⟩⟩)
    exact hret _ _ _ _ _ _ (n_5, 0, m_above, m_under, m_thereMany, m_meanTop, m_meanBy, g_there) [2, 1, 0] hP hD hS rfl (by decide) dX12_anywhere_23 (Or.inl rfl) hpost
  · skip
    refine lv_if_ne (tgt := 24) hx hb dX12_anywhere_15 (by decide) (fun _ => ?_) (fun h9 => absurd h9 (by decide +kernel))
    refine lv_aload_n hx hb dX12_anywhere_24 rfl (lv_at hl 0 rfl) ?_
    refine lv_iload_n hx hb dX12_anywhere_25 rfl (lv_at hl 1 rfl) ?_
    refine z_callVv (As := [.int r]) (rest := []) (wr := []) ⟨hx, hb, hml, hown, hts⟩ hK hE hT hP hD hS hA (r_gather l G cA h0 0 0 m_above m_under a_traySort a_trayMany a_numbers a_tape m_taped m_textEnd m_faultKind m_faultAt m_bad m_badAt m_token m_at m_behind m_number m_letters m_word a_c a_words m_markMany a_there a_tried a_best a_found m_thereMany m_foundMany m_orderHow m_orderRing m_orderMany m_hasBest m_bestTop m_bestBy a_weights a_shared m_random m_truePlace m_trueWay m_seconds m_done m_feelings m_tries m_leftOver m_playDoor m_playRing m_isOpen m_isOver m_wasTried m_hasPlayed a_feltNow a_last a_kept m_hasSeconds m_hasTurned m_hasRound a_hasFeels a_isOn m_firstAct m_meanTop m_meanBy a_order m_rowMany m_newSteps g_c g_there r (by omega) hr_m_thereMany hC_g_c hC_g_there) lk_RX12_292 ⟨rfl, rfl⟩ ⟨Nat.le_of_ble_eq_true rfl, Nat.le_of_ble_eq_true rfl⟩ 12 rfl rfl rfl [1, 2, 0] [] rfl rfl (by decide) rfl hl.1 rfl (lv_room (Nat.le_of_ble_eq_true rfl)) dX12_anywhere_26 ⟨Nat.le_of_ble_eq_true rfl, Nat.le_of_ble_eq_true rfl⟩ (fun u_11 H locs hw hP hD hS => ?_)
    obtain ⟨n_8, n_9⟩ := u_11
    try dsimp only at hw
    obtain ⟨hr_n_8, hC_n_9, hf_12, hf_13⟩ := hw
    refine lv_aload_n hx hb dX12_anywhere_29 rfl (lv_at hl 0 rfl) ?_
    refine z_callVv (As := []) (rest := []) (wr := []) ⟨hx, hb, hml, hown, hts⟩ hK hE hT hP hD hS hA (r_meanAnywhere l G cA h0 0 0 m_above m_under a_traySort a_trayMany a_numbers a_tape m_taped m_textEnd m_faultKind m_faultAt m_bad m_badAt m_token m_at m_behind m_number m_letters m_word a_c a_words m_markMany a_there a_tried a_best a_found n_8 m_foundMany m_orderHow m_orderRing m_orderMany m_hasBest m_bestTop m_bestBy a_weights a_shared m_random m_truePlace m_trueWay m_seconds m_done m_feelings m_tries m_leftOver m_playDoor m_playRing m_isOpen m_isOver m_wasTried m_hasPlayed a_feltNow a_last a_kept m_hasSeconds m_hasTurned m_hasRound a_hasFeels a_isOn m_firstAct m_meanTop m_meanBy a_order m_rowMany m_newSteps g_c n_9 hr_n_8 hC_g_c hC_n_9) lk_RX12_399 ⟨rfl, rfl⟩ ⟨Nat.le_of_ble_eq_true rfl, Nat.le_of_ble_eq_true rfl⟩ 12 rfl rfl rfl [0, 1, 2] [] rfl rfl (by decide) rfl hl.1 rfl (lv_room (Nat.le_of_ble_eq_true rfl)) dX12_anywhere_30 ⟨Nat.le_of_ble_eq_true rfl, Nat.le_of_ble_eq_true rfl⟩ (fun u_17 H locs hw hP hD hS => ?_)
    obtain ⟨n_14, n_15⟩ := u_17
    try dsimp only at hw
    obtain ⟨hr_n_15, hf_18⟩ := hw
    refine lv_aload_n hx hb dX12_anywhere_33 rfl (lv_at hl 0 rfl) ?_
    refine va_get (D := G) (ci := 12) (v := .long n_15) (C := RX12) (T := TX12) (N := 65) hx hb hts inT12 hown hK hP 0 rfl rfl 61 (by decide) (hts _ tw_1944) (fun _ h9 => h9) rfl dX12_anywhere_34 ?_
    refine lv_lconst (v := 0) hx hb dX12_anywhere_37 (by decide) ?_
    refine W.lcmp hx hb dX12_anywhere_38 ?_
    refine lv_if_ne (tgt := 51) hx hb dX12_anywhere_39 (by decide) (fun c_19 => ?_) (fun c_19 => ?_)
    · have b_20 := z_fneTl c_19
      refine lv_aload_n hx hb dX12_anywhere_51 rfl (lv_at hl 0 rfl) ?_
      refine lv_aload_n hx hb dX12_anywhere_52 rfl (lv_at hl 0 rfl) ?_
      refine va_get (D := G) (ci := 12) (v := .long n_14) (C := RX12) (T := TX12) (N := 65) hx hb hts inT12 hown hK hP 0 rfl rfl 60 (by decide) (hts _ tw_1943) (fun _ h9 => h9) rfl dX12_anywhere_53 ?_
      refine lv_aload_n hx hb dX12_anywhere_56 rfl (lv_at hl 0 rfl) ?_
      refine va_get (D := G) (ci := 12) (v := .long n_15) (C := RX12) (T := TX12) (N := 65) hx hb hts inT12 hown hK hP 0 rfl rfl 61 (by decide) (hts _ tw_1944) (fun _ h9 => h9) rfl dX12_anywhere_57 ?_
      refine z_callVi (As := [.long n_14, .long n_15]) (rest := []) (wr := [(a_c, .inl (cA.1 0, 1825, .inl g_c)), (a_there, .inl (cA.1 0, 10, .inl n_9))]) ⟨hx, hb, hml, hown, hts⟩ hK hE hT hP hD hS hA (r_fraction l G cA h0 0 0 m_above m_under a_traySort a_trayMany a_numbers a_tape m_taped m_textEnd m_faultKind m_faultAt m_bad m_badAt m_token m_at m_behind m_number m_letters m_word a_c a_words m_markMany a_there a_tried a_best a_found n_8 m_foundMany m_orderHow m_orderRing m_orderMany m_hasBest m_bestTop m_bestBy a_weights a_shared m_random m_truePlace m_trueWay m_seconds m_done m_feelings m_tries m_leftOver m_playDoor m_playRing m_isOpen m_isOver m_wasTried m_hasPlayed a_feltNow a_last a_kept m_hasSeconds m_hasTurned m_hasRound a_hasFeels a_isOn m_firstAct n_14 n_15 a_order m_rowMany m_newSteps n_14 n_15 (by omega)) lk_RX12_352 ⟨rfl, rfl⟩ ⟨Nat.le_of_ble_eq_true rfl, Nat.le_of_ble_eq_true rfl⟩ 12 rfl rfl rfl [0] [1, 2] rfl rfl (by decide) rfl hl.1 rfl (lv_room (Nat.le_of_ble_eq_true rfl)) dX12_anywhere_60 ⟨Nat.le_of_ble_eq_true rfl, Nat.le_of_ble_eq_true rfl⟩ (fun r_23 u_24 H locs hw hP hD hS => ?_)
      obtain ⟨n_21, n_22⟩ := u_24
      try dsimp only at hw
      obtain ⟨rfl, -⟩ := hw
      have hpost : ((1 : Int32) = 0 ∧ (0 ≤ (0 : Int32).toInt ∧ (0 : Int32).toInt ≤ 0) ∧ (0 ≤ n_8.toInt ∧ n_8.toInt ≤ 10) ∧ (zRg 10 0 9 n_9)) ∨ ((1 : Int32) = 1 ∧ (0 ≤ (0 : Int32).toInt ∧ (0 : Int32).toInt ≤ 0) ∧ (0 ≤ (0 : Int32).toInt ∧ (0 : Int32).toInt ≤ 0) ∧ (0 ≤ n_8.toInt ∧ n_8.toInt ≤ 10) ∧ (1 ≤ n_15.toInt ∧ n_15.toInt ≤ 79200) ∧ (zRg 10 0 9 n_9)) := (Or.inr ⟨rfl, ⟨(by decide +kernel), (by decide +kernel), hr_n_8, (by omega), hC_n_9⟩⟩)
      exact hret _ _ _ _ _ _ (0, 0, n_21, n_22, n_8, n_14, n_15, n_9) [2, 0, 1] hP hD hS rfl (by decide) dX12_anywhere_63 (Or.inr rfl) hpost
    · have b_25 := z_feqFl c_19
      refine lv_aload_n hx hb dX12_anywhere_42 rfl (lv_at hl 0 rfl) ?_
      refine lv_bipush (v := 8) hx hb dX12_anywhere_43 (by decide) ?_
      refine z_callVi (As := [.int 8]) (rest := []) (wr := [(a_c, .inl (cA.1 0, 1825, .inl g_c)), (a_there, .inl (cA.1 0, 10, .inl n_9))]) ⟨hx, hb, hml, hown, hts⟩ hK hE hT hP hD hS hA (r_no l G cA h0 0 0 m_above m_under a_traySort a_trayMany a_numbers a_tape m_taped m_textEnd m_faultKind m_faultAt m_bad m_badAt m_token m_at m_behind m_number m_letters m_word a_c a_words m_markMany a_there a_tried a_best a_found n_8 m_foundMany m_orderHow m_orderRing m_orderMany m_hasBest m_bestTop m_bestBy a_weights a_shared m_random m_truePlace m_trueWay m_seconds m_done m_feelings m_tries m_leftOver m_playDoor m_playRing m_isOpen m_isOver m_wasTried m_hasPlayed a_feltNow a_last a_kept m_hasSeconds m_hasTurned m_hasRound a_hasFeels a_isOn m_firstAct n_14 n_15 a_order m_rowMany m_newSteps 8) lk_RX12_97 ⟨rfl, rfl⟩ ⟨Nat.le_of_ble_eq_true rfl, Nat.le_of_ble_eq_true rfl⟩ 12 rfl rfl rfl [0] [1, 2] rfl rfl (by decide) rfl hl.1 rfl (lv_room (Nat.le_of_ble_eq_true rfl)) dX12_anywhere_45 ⟨Nat.le_of_ble_eq_true rfl, Nat.le_of_ble_eq_true rfl⟩ (fun r_27 u_28 H locs hw hP hD hS => ?_)
      obtain ⟨n_26, rfl⟩ : ∃ z, z = u_28 := ⟨_, rfl⟩
      obtain ⟨he_r_27, he_n_26, hw⟩ := hw
      obtain ⟨rfl, -⟩ := hw
      refine lv_goto (tgt := 63) hx hb dX12_anywhere_48 (by decide) ?_
      have hpost : ((0 : Int32) = 0 ∧ (0 ≤ (0 : Int32).toInt ∧ (0 : Int32).toInt ≤ 0) ∧ (0 ≤ n_8.toInt ∧ n_8.toInt ≤ 10) ∧ (zRg 10 0 9 n_9)) ∨ ((0 : Int32) = 1 ∧ (0 ≤ n_26.toInt ∧ n_26.toInt ≤ 0) ∧ (0 ≤ (0 : Int32).toInt ∧ (0 : Int32).toInt ≤ 0) ∧ (0 ≤ n_8.toInt ∧ n_8.toInt ≤ 10) ∧ (1 ≤ n_15.toInt ∧ n_15.toInt ≤ 79200) ∧ (zRg 10 0 9 n_9)) := (Or.inl ⟨rfl, ⟨(by decide +kernel), hr_n_8, hC_n_9⟩⟩)
      exact hret _ _ _ _ _ _ (n_26, 0, m_above, m_under, n_8, n_14, n_15, n_9) [2, 0, 1] hP hD hS rfl (by decide) dX12_anywhere_63 (Or.inl rfl) hpost
set_option maxHeartbeats 4000000 in
set_option maxRecDepth 100000 in
theorem r_walk (l : Launch) (G : va_G) (cA : zCA) (h0 : Nat) (m_status : Int32) (m_thrown : Int32) (m_above : Int64) (m_under : Int64) (a_traySort : Nat) (a_trayMany : Nat) (a_numbers : Nat) (a_tape : Nat) (m_taped : Int32) (m_textEnd : Int32) (m_faultKind : Int32) (m_faultAt : Int32) (m_bad : Int32) (m_badAt : Int32) (m_token : Int32) (m_at : Int32) (m_behind : Int32) (m_number : Int32) (m_letters : Int32) (m_word : Int64) (a_c : Nat) (a_words : Nat) (m_markMany : Int32) (a_there : Nat) (a_tried : Nat) (a_best : Nat) (a_found : Nat) (m_thereMany : Int32) (m_foundMany : Int32) (m_orderHow : Int32) (m_orderRing : Int32) (m_orderMany : Int32) (m_hasBest : Int32) (m_bestTop : Int64) (m_bestBy : Int64) (a_weights : Nat) (a_shared : Nat) (m_random : Int32) (m_truePlace : Int32) (m_trueWay : Int32) (m_seconds : Int32) (m_done : Int32) (m_feelings : Int32) (m_tries : Int32) (m_leftOver : Int32) (m_playDoor : Int32) (m_playRing : Int32) (m_isOpen : Int32) (m_isOver : Int32) (m_wasTried : Int32) (m_hasPlayed : Int32) (a_feltNow : Nat) (a_last : Nat) (a_kept : Nat) (m_hasSeconds : Int32) (m_hasTurned : Int32) (m_hasRound : Int32) (a_hasFeels : Nat) (a_isOn : Nat) (m_firstAct : Int32) (m_meanTop : Int64) (m_meanBy : Int64) (a_order : Nat) (m_rowMany : Int32) (m_newSteps : Int32) (g_c : Nat → Int32) (g_there : Nat → Int32) (hr_m_thereMany : 0 ≤ m_thereMany.toInt ∧ m_thereMany.toInt ≤ 10) (hC_g_c : zC g_c) (hC_g_there : zRg 10 0 9 g_there) : zCi l yX12_walk cX12_walk 8 (some .int) ({ frames := 1, cells := 0, slots := 0, locals := 22 }) G cA [.ref h0] [(h0, .inr (12, [.int m_status, .int m_thrown, .long m_above, .long m_under, .ref a_traySort, .ref a_trayMany, .ref a_numbers, .ref a_tape, .int m_taped, .int m_textEnd, .int m_faultKind, .int m_faultAt, .int m_bad, .int m_badAt, .int m_token, .int m_at, .int m_behind, .int m_number, .int m_letters, .long m_word, .ref a_c, .ref a_words, .int m_markMany, .ref a_there, .ref a_tried, .ref a_best, .ref a_found, .int m_thereMany, .int m_foundMany, .int m_orderHow, .int m_orderRing, .int m_orderMany, .int m_hasBest, .long m_bestTop, .long m_bestBy, .ref a_weights, .ref a_shared, .int m_random, .int m_truePlace, .int m_trueWay, .int m_seconds, .int m_done, .int m_feelings, .int m_tries, .int m_leftOver, .int m_playDoor, .int m_playRing, .int m_isOpen, .int m_isOver, .int m_wasTried, .int m_hasPlayed, .ref a_feltNow, .ref a_last, .ref a_kept, .int m_hasSeconds, .int m_hasTurned, .int m_hasRound, .ref a_hasFeels, .ref a_isOn, .int m_firstAct, .long m_meanTop, .long m_meanBy, .ref a_order, .int m_rowMany, .int m_newSteps])), (a_c, .inl (cA.1 0, 1825, .inl g_c)), (a_there, .inl (cA.1 0, 10, .inl g_there))] (S := Unit) (fun (r : Int32) (u : Unit) => True) (fun (u : Unit) => [(h0, .inr (12, [.int m_status, .int m_thrown, .long m_above, .long m_under, .ref a_traySort, .ref a_trayMany, .ref a_numbers, .ref a_tape, .int m_taped, .int m_textEnd, .int m_faultKind, .int m_faultAt, .int m_bad, .int m_badAt, .int m_token, .int m_at, .int m_behind, .int m_number, .int m_letters, .long m_word, .ref a_c, .ref a_words, .int m_markMany, .ref a_there, .ref a_tried, .ref a_best, .ref a_found, .int m_thereMany, .int m_foundMany, .int m_orderHow, .int m_orderRing, .int m_orderMany, .int m_hasBest, .long m_bestTop, .long m_bestBy, .ref a_weights, .ref a_shared, .int m_random, .int m_truePlace, .int m_trueWay, .int m_seconds, .int m_done, .int m_feelings, .int m_tries, .int m_leftOver, .int m_playDoor, .int m_playRing, .int m_isOpen, .int m_isOver, .int m_wasTried, .int m_hasPlayed, .ref a_feltNow, .ref a_last, .ref a_kept, .int m_hasSeconds, .int m_hasTurned, .int m_hasRound, .ref a_hasFeels, .ref a_isOn, .int m_firstAct, .long m_meanTop, .long m_meanBy, .ref a_order, .int m_rowMany, .int m_newSteps])), (a_c, .inl (cA.1 0, 1825, .inl g_c)), (a_there, .inl (cA.1 0, 10, .inl g_there))]) 0 0 := by
  have hk_0 : (0 : Int32).toInt = 0 := by decide +kernel
  have hk_1 : (1 : Int32).toInt = 1 := by decide +kernel
  have hk_138 : (138 : Int32).toInt = 138 := by decide +kernel
  refine z_start2i (own := RX12) (by decide) (Nat.le_of_ble_eq_true rfl) rfl ?_
  intro p e s m args below meth c A ls Q hx hb hml hts hown hK hE hT hP hD hS hA hl hret
  have hl : lv_has ls 8 [(0, .ref h0)] := hl
  refine lv_iconst (v := 0) hx hb dX12_walk_0 (by decide) ?_
  refine lv_istore_n (lv' := [(1, .int 0), (0, .ref h0)]) hx hb dX12_walk_1 rfl hl (by decide) rfl (fun ls hl => ?_)
  refine lv_iconst (v := 0) hx hb dX12_walk_2 (by decide) ?_
  refine lv_istore_n (lv' := [(2, .int 0), (1, .int 0), (0, .ref h0)]) hx hb dX12_walk_3 rfl hl (by decide) rfl (fun ls hl => ?_)
  refine lv_iconst (v := 0) hx hb dX12_walk_4 (by decide) ?_
  refine lv_istore_n (lv' := [(3, .int 0), (2, .int 0), (1, .int 0), (0, .ref h0)]) hx hb dX12_walk_5 rfl hl (by decide) rfl (fun ls hl => ?_)
  have hlp_5806 : ∀ (n : Nat) (v_5390 : Int32) (v_5391 : Int32) (v_5392 : Int32) (H : Heap) (locs : List Loc) (ls : Array Slot), (2147483647 - v_5392.toInt).toNat < n → (0 ≤ v_5390.toInt ∧ v_5390.toInt ≤ 9) → (0 ≤ v_5392.toInt ∧ v_5392.toInt ≤ 12) → va_P G vwCl [(h0, .inr (12, [.int m_status, .int m_thrown, .long m_above, .long m_under, .ref a_traySort, .ref a_trayMany, .ref a_numbers, .ref a_tape, .int m_taped, .int m_textEnd, .int m_faultKind, .int m_faultAt, .int m_bad, .int m_badAt, .int m_token, .int m_at, .int m_behind, .int m_number, .int m_letters, .long m_word, .ref a_c, .ref a_words, .int m_markMany, .ref a_there, .ref a_tried, .ref a_best, .ref a_found, .int m_thereMany, .int m_foundMany, .int m_orderHow, .int m_orderRing, .int m_orderMany, .int m_hasBest, .long m_bestTop, .long m_bestBy, .ref a_weights, .ref a_shared, .int m_random, .int m_truePlace, .int m_trueWay, .int m_seconds, .int m_done, .int m_feelings, .int m_tries, .int m_leftOver, .int m_playDoor, .int m_playRing, .int m_isOpen, .int m_isOver, .int m_wasTried, .int m_hasPlayed, .ref a_feltNow, .ref a_last, .ref a_kept, .int m_hasSeconds, .int m_hasTurned, .int m_hasRound, .ref a_hasFeels, .ref a_isOn, .int m_firstAct, .long m_meanTop, .long m_meanBy, .ref a_order, .int m_rowMany, .int m_newSteps])), (a_c, .inl (cA.1 0, 1825, .inl g_c)), (a_there, .inl (cA.1 0, 10, .inl g_there))] H → va_D A [(h0, .inr (12, [.int m_status, .int m_thrown, .long m_above, .long m_under, .ref a_traySort, .ref a_trayMany, .ref a_numbers, .ref a_tape, .int m_taped, .int m_textEnd, .int m_faultKind, .int m_faultAt, .int m_bad, .int m_badAt, .int m_token, .int m_at, .int m_behind, .int m_number, .int m_letters, .long m_word, .ref a_c, .ref a_words, .int m_markMany, .ref a_there, .ref a_tried, .ref a_best, .ref a_found, .int m_thereMany, .int m_foundMany, .int m_orderHow, .int m_orderRing, .int m_orderMany, .int m_hasBest, .long m_bestTop, .long m_bestBy, .ref a_weights, .ref a_shared, .int m_random, .int m_truePlace, .int m_trueWay, .int m_seconds, .int m_done, .int m_feelings, .int m_tries, .int m_leftOver, .int m_playDoor, .int m_playRing, .int m_isOpen, .int m_isOver, .int m_wasTried, .int m_hasPlayed, .ref a_feltNow, .ref a_last, .ref a_kept, .int m_hasSeconds, .int m_hasTurned, .int m_hasRound, .ref a_hasFeels, .ref a_isOn, .int m_firstAct, .long m_meanTop, .long m_meanBy, .ref a_order, .int m_rowMany, .int m_newSteps])), (a_c, .inl (cA.1 0, 1825, .inl g_c)), (a_there, .inl (cA.1 0, 10, .inl g_there))] → va_S A s.heap H locs → lv_has ls 8 [(0, .ref h0), (1, .int v_5390), (2, .int v_5391), (3, .int v_5392)] → W p l e ({ frames := 1, cells := 0, slots := 0, locals := 22 }) s m args below meth c H locs 0 0 Q (F0 m 6 ls []) := by
    intro n
    induction n with
    | zero =>
      intro v_5390 v_5391 v_5392 H locs ls hmu_hlp_5806 hr_v_5390 hr_v_5392 hP hD hS hl
      exact absurd hmu_hlp_5806 (Nat.not_lt_zero _)
    | succ n ih_5807 =>
      intro v_5390 v_5391 v_5392 H locs ls hmu_hlp_5806 hr_v_5390 hr_v_5392 hP hD hS hl
      refine lv_iload_n hx hb dX12_walk_6 rfl (lv_at hl 3 rfl) ?_
      refine lv_aload_n hx hb dX12_walk_7 rfl (lv_at hl 0 rfl) ?_
      refine va_get (D := G) (ci := 12) (v := .ref a_c) (C := RX12) (T := TX12) (N := 65) hx hb hts inT12 hown hK hP 0 rfl rfl 20 (by decide) (hts _ tw_1905) (fun _ h9 => h9) rfl dX12_walk_8 ?_
      refine lv_iconst (v := 4) hx hb dX12_walk_11 (by decide) ?_
      refine va_iald hx hb hK hP 1 0 rfl rfl (z_in (i := 4) (n := 1825) (by decide +kernel) (by decide +kernel)) dX12_walk_12 ?_
      refine lv_topi (fun x_5808 he_x_5808 => ?_)
      have hr_x_5808 := z_ctk hC_g_c he_x_5808 (k := 4) (lo := 0) (hi := 12) (by decide +kernel) (by decide +kernel) (by decide +kernel)
      refine lv_icmp_ge (tgt := 152) hx hb dX12_walk_13 (by decide) (fun c_5809 => ?_) (fun c_5809 => ?_)
      · have b_5810 := z_fgeT c_5809
        refine lv_iload_n hx hb dX12_walk_152 rfl (lv_at hl 2 rfl) ?_
        exact hret _ _ _ _ _ _ () [0, 1, 2] hP hD hS rfl (by decide) dX12_walk_153 trivial
      · have b_5811 := z_fltF c_5809
        refine lv_iconst (v := (-1)) hx hb dX12_walk_16 (by decide) ?_
        refine lv_istore (lv' := [(4, .int (-1)), (0, .ref h0), (1, .int v_5390), (2, .int v_5391), (3, .int v_5392)]) hx hb dX12_walk_17 hl (by decide) rfl (fun ls hl => ?_)
        refine lv_iconst (v := 0) hx hb dX12_walk_19 (by decide) ?_
        refine lv_istore (lv' := [(5, .int 0), (4, .int (-1)), (0, .ref h0), (1, .int v_5390), (2, .int v_5391), (3, .int v_5392)]) hx hb dX12_walk_20 hl (by decide) rfl (fun ls hl => ?_)
        refine lv_iconst (v := 0) hx hb dX12_walk_22 (by decide) ?_
        refine lv_istore (lv' := [(6, .int 0), (5, .int 0), (4, .int (-1)), (0, .ref h0), (1, .int v_5390), (2, .int v_5391), (3, .int v_5392)]) hx hb dX12_walk_23 hl (by decide) rfl (fun ls hl => ?_)
        have hlp_6181 : ∀ (n : Nat) (v_6149 : Int32) (v_6150 : Int32) (v_6151 : Int32) (H : Heap) (locs : List Loc) (ls : Array Slot), (2147483647 - v_6151.toInt).toNat < n → ((-1) ≤ v_6149.toInt ∧ v_6149.toInt ≤ 9) → (0 ≤ v_6151.toInt ∧ v_6151.toInt ≤ 10) → va_P G vwCl [(h0, .inr (12, [.int m_status, .int m_thrown, .long m_above, .long m_under, .ref a_traySort, .ref a_trayMany, .ref a_numbers, .ref a_tape, .int m_taped, .int m_textEnd, .int m_faultKind, .int m_faultAt, .int m_bad, .int m_badAt, .int m_token, .int m_at, .int m_behind, .int m_number, .int m_letters, .long m_word, .ref a_c, .ref a_words, .int m_markMany, .ref a_there, .ref a_tried, .ref a_best, .ref a_found, .int m_thereMany, .int m_foundMany, .int m_orderHow, .int m_orderRing, .int m_orderMany, .int m_hasBest, .long m_bestTop, .long m_bestBy, .ref a_weights, .ref a_shared, .int m_random, .int m_truePlace, .int m_trueWay, .int m_seconds, .int m_done, .int m_feelings, .int m_tries, .int m_leftOver, .int m_playDoor, .int m_playRing, .int m_isOpen, .int m_isOver, .int m_wasTried, .int m_hasPlayed, .ref a_feltNow, .ref a_last, .ref a_kept, .int m_hasSeconds, .int m_hasTurned, .int m_hasRound, .ref a_hasFeels, .ref a_isOn, .int m_firstAct, .long m_meanTop, .long m_meanBy, .ref a_order, .int m_rowMany, .int m_newSteps])), (a_c, .inl (cA.1 0, 1825, .inl g_c)), (a_there, .inl (cA.1 0, 10, .inl g_there))] H → va_D A [(h0, .inr (12, [.int m_status, .int m_thrown, .long m_above, .long m_under, .ref a_traySort, .ref a_trayMany, .ref a_numbers, .ref a_tape, .int m_taped, .int m_textEnd, .int m_faultKind, .int m_faultAt, .int m_bad, .int m_badAt, .int m_token, .int m_at, .int m_behind, .int m_number, .int m_letters, .long m_word, .ref a_c, .ref a_words, .int m_markMany, .ref a_there, .ref a_tried, .ref a_best, .ref a_found, .int m_thereMany, .int m_foundMany, .int m_orderHow, .int m_orderRing, .int m_orderMany, .int m_hasBest, .long m_bestTop, .long m_bestBy, .ref a_weights, .ref a_shared, .int m_random, .int m_truePlace, .int m_trueWay, .int m_seconds, .int m_done, .int m_feelings, .int m_tries, .int m_leftOver, .int m_playDoor, .int m_playRing, .int m_isOpen, .int m_isOver, .int m_wasTried, .int m_hasPlayed, .ref a_feltNow, .ref a_last, .ref a_kept, .int m_hasSeconds, .int m_hasTurned, .int m_hasRound, .ref a_hasFeels, .ref a_isOn, .int m_firstAct, .long m_meanTop, .long m_meanBy, .ref a_order, .int m_rowMany, .int m_newSteps])), (a_c, .inl (cA.1 0, 1825, .inl g_c)), (a_there, .inl (cA.1 0, 10, .inl g_there))] → va_S A s.heap H locs → lv_has ls 8 [(0, .ref h0), (1, .int v_5390), (2, .int v_5391), (3, .int v_5392), (4, .int v_6149), (5, .int v_6150), (6, .int v_6151)] → W p l e ({ frames := 1, cells := 0, slots := 0, locals := 22 }) s m args below meth c H locs 0 0 Q (F0 m 25 ls []) := by
          intro n
          induction n with
          | zero =>
            intro v_6149 v_6150 v_6151 H locs ls hmu_hlp_6181 hr_v_6149 hr_v_6151 hP hD hS hl
            exact absurd hmu_hlp_6181 (Nat.not_lt_zero _)
          | succ n ih_6182 =>
            intro v_6149 v_6150 v_6151 H locs ls hmu_hlp_6181 hr_v_6149 hr_v_6151 hP hD hS hl
            refine lv_iload hx hb dX12_walk_25 (lv_at hl 6 rfl) ?_
            refine lv_aload_n hx hb dX12_walk_27 rfl (lv_at hl 0 rfl) ?_
            refine va_get (D := G) (ci := 12) (v := .int m_thereMany) (C := RX12) (T := TX12) (N := 65) hx hb hts inT12 hown hK hP 0 rfl rfl 27 (by decide) (hts _ tw_1912) (fun _ h9 => h9) rfl dX12_walk_28 ?_
            refine lv_icmp_ge (tgt := 115) hx hb dX12_walk_31 (by decide) (fun c_6183 => ?_) (fun c_6183 => ?_)
            · have b_6184 := z_fgeT c_6183
              refine lv_iload hx hb dX12_walk_115 (lv_at hl 4 rfl) ?_
              refine lv_if_ge (tgt := 122) hx hb dX12_walk_117 (by decide) (fun c_6185 => ?_) (fun c_6185 => ?_)
              · have b_6186 := z_fgeT c_6185
                refine lv_iload_n hx hb dX12_walk_122 rfl (lv_at hl 2 rfl) ?_
                refine lv_iload hx hb dX12_walk_123 (lv_at hl 5 rfl) ?_
                refine lv_aload_n hx hb dX12_walk_125 rfl (lv_at hl 0 rfl) ?_
                refine va_get (D := G) (ci := 12) (v := .ref a_c) (C := RX12) (T := TX12) (N := 65) hx hb hts inT12 hown hK hP 0 rfl rfl 20 (by decide) (hts _ tw_1905) (fun _ h9 => h9) rfl dX12_walk_126 ?_
                refine lv_bipush (v := 7) hx hb dX12_walk_129 (by decide) ?_
                refine va_iald hx hb hK hP 1 0 rfl rfl (z_in (i := 7) (n := 1825) (by decide +kernel) (by decide +kernel)) dX12_walk_131 ?_
                refine lv_topi (fun x_6187 he_x_6187 => ?_)
                have hr_x_6187 := z_ctk hC_g_c he_x_6187 (k := 7) (lo := 0) (hi := 99) (by decide +kernel) (by decide +kernel) (by decide +kernel)
                refine lv_imul hx hb dX12_walk_132 ?_
                have hL_v_6150 := z_full v_6150
                refine lv_topi (fun x_6188 he_x_6188 => ?_)
                refine lv_aload_n hx hb dX12_walk_133 rfl (lv_at hl 0 rfl) ?_
                refine va_get (D := G) (ci := 12) (v := .ref a_c) (C := RX12) (T := TX12) (N := 65) hx hb hts inT12 hown hK hP 0 rfl rfl 20 (by decide) (hts _ tw_1905) (fun _ h9 => h9) rfl dX12_walk_134 ?_
                refine lv_bipush (v := 6) hx hb dX12_walk_137 (by decide) ?_
                refine va_iald hx hb hK hP 1 0 rfl rfl (z_in (i := 6) (n := 1825) (by decide +kernel) (by decide +kernel)) dX12_walk_139 ?_
                refine lv_topi (fun x_6189 he_x_6189 => ?_)
                have hr_x_6189 := z_ctk hC_g_c he_x_6189 (k := 6) (lo := 0) (hi := 99) (by decide +kernel) (by decide +kernel) (by decide +kernel)
                refine lv_iadd hx hb dX12_walk_140 ?_
                have hL_x_6188 := z_full x_6188
                refine lv_topi (fun x_6190 he_x_6190 => ?_)
                refine lv_iadd hx hb dX12_walk_141 ?_
                have hL_v_5391 := z_full v_5391
                have hL_x_6190 := z_full x_6190
                refine lv_topi (fun x_6191 he_x_6191 => ?_)
                refine lv_istore_n (lv' := [(2, .int x_6191), (0, .ref h0), (1, .int v_5390), (3, .int v_5392), (4, .int v_6149), (5, .int v_6150), (6, .int v_6151)]) hx hb dX12_walk_142 rfl hl (by decide) rfl (fun ls hl => ?_)
                refine lv_iload hx hb dX12_walk_143 (lv_at hl 4 rfl) ?_
                refine lv_istore_n (lv' := [(1, .int v_6149), (2, .int x_6191), (0, .ref h0), (3, .int v_5392), (4, .int v_6149), (5, .int v_6150), (6, .int v_6151)]) hx hb dX12_walk_145 rfl hl (by decide) rfl (fun ls hl => ?_)
                obtain ⟨x_6192, he_x_6192⟩ : ∃ z : Int32, z = v_5392 + 1 := ⟨_, rfl⟩
                have hq_x_6192 := z_addq he_x_6192 (rfl : v_5392.toInt = _) hk_1 (by omega) (by omega)
                refine lv_iinc (v := x_6192) (lv' := [(3, .int x_6192), (1, .int v_6149), (2, .int x_6191), (0, .ref h0), (4, .int v_6149), (5, .int v_6150), (6, .int v_6151)]) hx hb dX12_walk_146 hl (k := 3) rfl ((z_ofi (by decide +kernel)).trans he_x_6192.symm) (by decide) rfl (fun ls hl => ?_)
                refine lv_goto (tgt := 6) hx hb dX12_walk_149 (by decide) ?_
                exact ih_5807 v_6149 x_6191 x_6192 H locs ls (by omega) (by omega) (by omega) hP hD hS (lv_sub hl [3, 1, 2, 0] rfl)
              · have b_6193 := z_fltF c_6185
                refine lv_iconst (v := (-1)) hx hb dX12_walk_120 (by decide) ?_
                exact hret _ _ _ _ _ _ () [0, 1, 2] hP hD hS rfl (by decide) dX12_walk_121 trivial
            · have b_6194 := z_fltF c_6183
              refine lv_iload hx hb dX12_walk_34 (lv_at hl 6 rfl) ?_
              refine lv_aload_n hx hb dX12_walk_36 rfl (lv_at hl 0 rfl) ?_
              refine va_get (D := G) (ci := 12) (v := .int m_thereMany) (C := RX12) (T := TX12) (N := 65) hx hb hts inT12 hown hK hP 0 rfl rfl 27 (by decide) (hts _ tw_1912) (fun _ h9 => h9) rfl dX12_walk_37 ?_
              refine lv_iload hx hb dX12_walk_40 (lv_at hl 6 rfl) ?_
              refine lv_isub hx hb dX12_walk_42 ?_
              refine lv_topi (fun x_6195 he_x_6195 => ?_)
              have hq_x_6195 := z_subq he_x_6195 (rfl : m_thereMany.toInt = _) (rfl : v_6151.toInt = _) (by omega) (by omega)
              refine z_callSi (As := [.int v_6151, .int x_6195]) (rest := []) (wr := [(h0, .inr (12, [.int m_status, .int m_thrown, .long m_above, .long m_under, .ref a_traySort, .ref a_trayMany, .ref a_numbers, .ref a_tape, .int m_taped, .int m_textEnd, .int m_faultKind, .int m_faultAt, .int m_bad, .int m_badAt, .int m_token, .int m_at, .int m_behind, .int m_number, .int m_letters, .long m_word, .ref a_c, .ref a_words, .int m_markMany, .ref a_there, .ref a_tried, .ref a_best, .ref a_found, .int m_thereMany, .int m_foundMany, .int m_orderHow, .int m_orderRing, .int m_orderMany, .int m_hasBest, .long m_bestTop, .long m_bestBy, .ref a_weights, .ref a_shared, .int m_random, .int m_truePlace, .int m_trueWay, .int m_seconds, .int m_done, .int m_feelings, .int m_tries, .int m_leftOver, .int m_playDoor, .int m_playRing, .int m_isOpen, .int m_isOver, .int m_wasTried, .int m_hasPlayed, .ref a_feltNow, .ref a_last, .ref a_kept, .int m_hasSeconds, .int m_hasTurned, .int m_hasRound, .ref a_hasFeels, .ref a_isOn, .int m_firstAct, .long m_meanTop, .long m_meanBy, .ref a_order, .int m_rowMany, .int m_newSteps])), (a_c, .inl (cA.1 0, 1825, .inl g_c)), (a_there, .inl (cA.1 0, 10, .inl g_there))]) ⟨hx, hb, hml, hown, hts⟩ hK hE hT hP hD hS hA (r_Ma_min l G cA v_6151 x_6195) lk_RX12_450 ⟨rfl, rfl⟩ ⟨Nat.le_of_ble_eq_true rfl, Nat.le_of_ble_eq_true rfl⟩ [] [0, 1, 2] rfl rfl (by decide) rfl hl.1 rfl (lv_room (Nat.le_of_ble_eq_true rfl)) dX12_walk_43 ⟨Nat.le_of_ble_eq_true rfl, Nat.le_of_ble_eq_true rfl⟩ (fun r_6196 u_6197 H locs hw hP hD hS => ?_)
              refine lv_istore (lv' := [(7, .int r_6196), (0, .ref h0), (1, .int v_5390), (2, .int v_5391), (3, .int v_5392), (4, .int v_6149), (5, .int v_6150), (6, .int v_6151)]) hx hb dX12_walk_46 hl (by decide) rfl (fun ls hl => ?_)
              refine lv_aload_n hx hb dX12_walk_48 rfl (lv_at hl 1 rfl) ?_
              refine lv_aload_n hx hb dX12_walk_49 rfl (lv_at hl 1 rfl) ?_
              refine va_get (D := G) (ci := 12) (v := .ref a_there) (C := RX12) (T := TX12) (N := 65) hx hb hts inT12 hown hK hP 0 rfl rfl 23 (by decide) (hts _ tw_1908) (fun _ h9 => h9) rfl dX12_walk_50 ?_
              refine lv_iload_n hx hb dX12_walk_53 rfl (lv_at hl 2 rfl) ?_
              refine lv_iload hx hb dX12_walk_54 (lv_at hl 7 rfl) ?_
              refine lv_iadd hx hb dX12_walk_56 ?_
              refine lv_topi (fun x_6198 he_x_6198 => ?_)
              have hq_x_6198 := z_addq he_x_6198 (rfl : v_5390.toInt = _) (rfl : v_6151.toInt = _) (by omega) (by omega)
              refine lv_aload_n hx hb dX12_walk_57 rfl (lv_at hl 1 rfl) ?_
              refine va_get (D := G) (ci := 12) (v := .int m_thereMany) (C := RX12) (T := TX12) (N := 65) hx hb hts inT12 hown hK hP 0 rfl rfl 27 (by decide) (hts _ tw_1912) (fun _ h9 => h9) rfl dX12_walk_58 ?_
              refine lv_irem hx hb dX12_walk_61 (z_nz (by omega)) ?_
              refine lv_topi (fun x_6199 he_x_6199 => ?_)
              have hr_x_6199 := z_remr he_x_6199 (by omega) (by omega)
              refine va_iald hx hb hK hP 2 0 rfl rfl (z_inN (by omega) (by omega)) dX12_walk_62 ?_
              refine lv_topi (fun x_6200 he_x_6200 => ?_)
              have hr_x_6200 := z_rg hC_g_there he_x_6200 (by omega) (by omega)
              refine lv_aload_n hx hb dX12_walk_63 rfl (lv_at hl 1 rfl) ?_
              refine va_get (D := G) (ci := 12) (v := .ref a_c) (C := RX12) (T := TX12) (N := 65) hx hb hts inT12 hown hK hP 0 rfl rfl 20 (by decide) (hts _ tw_1905) (fun _ h9 => h9) rfl dX12_walk_64 ?_
              refine lv_sipush (v := 138) hx hb dX12_walk_67 (by decide) ?_
              refine lv_iload_n hx hb dX12_walk_70 rfl (lv_at hl 4 rfl) ?_
              refine lv_iadd hx hb dX12_walk_71 ?_
              refine lv_topi (fun x_6201 he_x_6201 => ?_)
              have hq_x_6201 := z_addq he_x_6201 hk_138 (rfl : v_5392.toInt = _) (by omega) (by omega)
              refine va_iald hx hb hK hP 1 0 rfl rfl (z_inN (by omega) (by omega)) dX12_walk_72 ?_
              refine lv_topi (fun x_6202 he_x_6202 => ?_)
              have hr_x_6202 := z_ct hC_g_c he_x_6202 (a := 138) (b := 149) (lo := 0) (hi := 4) (by decide +kernel) (by decide) (by omega) (by omega)
              refine z_callVi (As := [.int x_6200, .int x_6202]) (rest := []) (wr := [(a_there, .inl (cA.1 0, 10, .inl g_there))]) ⟨hx, hb, hml, hown, hts⟩ hK hE hT hP hD hS hA (r_canOpen l G cA h0 m_status m_thrown m_above m_under a_traySort a_trayMany a_numbers a_tape m_taped m_textEnd m_faultKind m_faultAt m_bad m_badAt m_token m_at m_behind m_number m_letters m_word a_c a_words m_markMany a_there a_tried a_best a_found m_thereMany m_foundMany m_orderHow m_orderRing m_orderMany m_hasBest m_bestTop m_bestBy a_weights a_shared m_random m_truePlace m_trueWay m_seconds m_done m_feelings m_tries m_leftOver m_playDoor m_playRing m_isOpen m_isOver m_wasTried m_hasPlayed a_feltNow a_last a_kept m_hasSeconds m_hasTurned m_hasRound a_hasFeels a_isOn m_firstAct m_meanTop m_meanBy a_order m_rowMany m_newSteps g_c x_6200 x_6202 hr_x_6200 hr_x_6202 hC_g_c) lk_RX12_345 ⟨rfl, rfl⟩ ⟨Nat.le_of_ble_eq_true rfl, Nat.le_of_ble_eq_true rfl⟩ 12 rfl rfl rfl [0, 1] [2] rfl rfl (by decide) rfl hl.1 rfl (lv_room (Nat.le_of_ble_eq_true rfl)) dX12_walk_73 ⟨Nat.le_of_ble_eq_true rfl, Nat.le_of_ble_eq_true rfl⟩ (fun r_6203 u_6204 H locs hw hP hD hS => ?_)
              rcases hw with ⟨rfl, hf_6205⟩ | ⟨rfl, hf_6206⟩
              · skip
                refine lv_if_eq (tgt := 109) hx hb dX12_walk_76 (by decide) (fun _ => ?_) (fun h9 => absurd (by decide +kernel) h9)
                obtain ⟨x_6207, he_x_6207⟩ : ∃ z : Int32, z = v_6151 + 1 := ⟨_, rfl⟩
                have hq_x_6207 := z_addq he_x_6207 (rfl : v_6151.toInt = _) hk_1 (by omega) (by omega)
                refine lv_iinc (v := x_6207) (lv' := [(6, .int x_6207), (7, .int r_6196), (0, .ref h0), (1, .int v_5390), (2, .int v_5391), (3, .int v_5392), (4, .int v_6149), (5, .int v_6150)]) hx hb dX12_walk_109 hl (k := 7) rfl ((z_ofi (by decide +kernel)).trans he_x_6207.symm) (by decide) rfl (fun ls hl => ?_)
                refine lv_goto (tgt := 25) hx hb dX12_walk_112 (by decide) ?_
                have hP := hP.sub (ws' := [(h0, .inr (12, [.int m_status, .int m_thrown, .long m_above, .long m_under, .ref a_traySort, .ref a_trayMany, .ref a_numbers, .ref a_tape, .int m_taped, .int m_textEnd, .int m_faultKind, .int m_faultAt, .int m_bad, .int m_badAt, .int m_token, .int m_at, .int m_behind, .int m_number, .int m_letters, .long m_word, .ref a_c, .ref a_words, .int m_markMany, .ref a_there, .ref a_tried, .ref a_best, .ref a_found, .int m_thereMany, .int m_foundMany, .int m_orderHow, .int m_orderRing, .int m_orderMany, .int m_hasBest, .long m_bestTop, .long m_bestBy, .ref a_weights, .ref a_shared, .int m_random, .int m_truePlace, .int m_trueWay, .int m_seconds, .int m_done, .int m_feelings, .int m_tries, .int m_leftOver, .int m_playDoor, .int m_playRing, .int m_isOpen, .int m_isOver, .int m_wasTried, .int m_hasPlayed, .ref a_feltNow, .ref a_last, .ref a_kept, .int m_hasSeconds, .int m_hasTurned, .int m_hasRound, .ref a_hasFeels, .ref a_isOn, .int m_firstAct, .long m_meanTop, .long m_meanBy, .ref a_order, .int m_rowMany, .int m_newSteps])), (a_c, .inl (cA.1 0, 1825, .inl g_c)), (a_there, .inl (cA.1 0, 10, .inl g_there))]) [1, 2, 0] rfl
                have hD := hD.sub (ws' := [(h0, .inr (12, [.int m_status, .int m_thrown, .long m_above, .long m_under, .ref a_traySort, .ref a_trayMany, .ref a_numbers, .ref a_tape, .int m_taped, .int m_textEnd, .int m_faultKind, .int m_faultAt, .int m_bad, .int m_badAt, .int m_token, .int m_at, .int m_behind, .int m_number, .int m_letters, .long m_word, .ref a_c, .ref a_words, .int m_markMany, .ref a_there, .ref a_tried, .ref a_best, .ref a_found, .int m_thereMany, .int m_foundMany, .int m_orderHow, .int m_orderRing, .int m_orderMany, .int m_hasBest, .long m_bestTop, .long m_bestBy, .ref a_weights, .ref a_shared, .int m_random, .int m_truePlace, .int m_trueWay, .int m_seconds, .int m_done, .int m_feelings, .int m_tries, .int m_leftOver, .int m_playDoor, .int m_playRing, .int m_isOpen, .int m_isOver, .int m_wasTried, .int m_hasPlayed, .ref a_feltNow, .ref a_last, .ref a_kept, .int m_hasSeconds, .int m_hasTurned, .int m_hasRound, .ref a_hasFeels, .ref a_isOn, .int m_firstAct, .long m_meanTop, .long m_meanBy, .ref a_order, .int m_rowMany, .int m_newSteps])), (a_c, .inl (cA.1 0, 1825, .inl g_c)), (a_there, .inl (cA.1 0, 10, .inl g_there))]) [1, 2, 0] (by decide) rfl
                exact ih_6182 v_6149 v_6150 x_6207 H locs ls (by omega) hr_v_6149 (by omega) hP hD hS (lv_sub hl [2, 3, 4, 5, 6, 7, 0] rfl)
              · skip
                refine lv_if_eq (tgt := 109) hx hb dX12_walk_76 (by decide) (fun h9 => absurd h9 (by decide +kernel)) (fun _ => ?_)
                refine lv_iload hx hb dX12_walk_79 (lv_at hl 5 rfl) ?_
                refine lv_if_lt (tgt := 94) hx hb dX12_walk_81 (by decide) (fun c_6208 => ?_) (fun c_6208 => ?_)
                · have b_6209 := z_fltT c_6208
                  refine lv_iload_n hx hb dX12_walk_94 rfl (lv_at hl 2 rfl) ?_
                  refine lv_iload hx hb dX12_walk_95 (lv_at hl 7 rfl) ?_
                  refine lv_iadd hx hb dX12_walk_97 ?_
                  refine lv_topi (fun x_6210 he_x_6210 => ?_)
                  have hq_x_6210 := z_addq he_x_6210 (rfl : v_5390.toInt = _) (rfl : v_6151.toInt = _) (by omega) (by omega)
                  refine lv_aload_n hx hb dX12_walk_98 rfl (lv_at hl 1 rfl) ?_
                  refine va_get (D := G) (ci := 12) (v := .int m_thereMany) (C := RX12) (T := TX12) (N := 65) hx hb hts inT12 hown hK hP 1 rfl rfl 27 (by decide) (hts _ tw_1912) (fun _ h9 => h9) rfl dX12_walk_99 ?_
                  refine lv_irem hx hb dX12_walk_102 (z_nz (by omega)) ?_
                  refine lv_topi (fun x_6211 he_x_6211 => ?_)
                  have hr_x_6211 := z_remr he_x_6211 (by omega) (by omega)
                  refine lv_istore (lv' := [(4, .int x_6211), (7, .int r_6196), (0, .ref h0), (1, .int v_5390), (2, .int v_5391), (3, .int v_5392), (5, .int v_6150), (6, .int v_6151)]) hx hb dX12_walk_103 hl (by decide) rfl (fun ls hl => ?_)
                  refine lv_iload hx hb dX12_walk_105 (lv_at hl 1 rfl) ?_
                  refine lv_istore (lv' := [(5, .int r_6196), (4, .int x_6211), (7, .int r_6196), (0, .ref h0), (1, .int v_5390), (2, .int v_5391), (3, .int v_5392), (6, .int v_6151)]) hx hb dX12_walk_107 hl (by decide) rfl (fun ls hl => ?_)
                  obtain ⟨x_6212, he_x_6212⟩ : ∃ z : Int32, z = v_6151 + 1 := ⟨_, rfl⟩
                  have hq_x_6212 := z_addq he_x_6212 (rfl : v_6151.toInt = _) hk_1 (by omega) (by omega)
                  refine lv_iinc (v := x_6212) (lv' := [(6, .int x_6212), (5, .int r_6196), (4, .int x_6211), (7, .int r_6196), (0, .ref h0), (1, .int v_5390), (2, .int v_5391), (3, .int v_5392)]) hx hb dX12_walk_109 hl (k := 7) rfl ((z_ofi (by decide +kernel)).trans he_x_6212.symm) (by decide) rfl (fun ls hl => ?_)
                  refine lv_goto (tgt := 25) hx hb dX12_walk_112 (by decide) ?_
                  have hP := hP.sub (ws' := [(h0, .inr (12, [.int m_status, .int m_thrown, .long m_above, .long m_under, .ref a_traySort, .ref a_trayMany, .ref a_numbers, .ref a_tape, .int m_taped, .int m_textEnd, .int m_faultKind, .int m_faultAt, .int m_bad, .int m_badAt, .int m_token, .int m_at, .int m_behind, .int m_number, .int m_letters, .long m_word, .ref a_c, .ref a_words, .int m_markMany, .ref a_there, .ref a_tried, .ref a_best, .ref a_found, .int m_thereMany, .int m_foundMany, .int m_orderHow, .int m_orderRing, .int m_orderMany, .int m_hasBest, .long m_bestTop, .long m_bestBy, .ref a_weights, .ref a_shared, .int m_random, .int m_truePlace, .int m_trueWay, .int m_seconds, .int m_done, .int m_feelings, .int m_tries, .int m_leftOver, .int m_playDoor, .int m_playRing, .int m_isOpen, .int m_isOver, .int m_wasTried, .int m_hasPlayed, .ref a_feltNow, .ref a_last, .ref a_kept, .int m_hasSeconds, .int m_hasTurned, .int m_hasRound, .ref a_hasFeels, .ref a_isOn, .int m_firstAct, .long m_meanTop, .long m_meanBy, .ref a_order, .int m_rowMany, .int m_newSteps])), (a_c, .inl (cA.1 0, 1825, .inl g_c)), (a_there, .inl (cA.1 0, 10, .inl g_there))]) [1, 2, 0] rfl
                  have hD := hD.sub (ws' := [(h0, .inr (12, [.int m_status, .int m_thrown, .long m_above, .long m_under, .ref a_traySort, .ref a_trayMany, .ref a_numbers, .ref a_tape, .int m_taped, .int m_textEnd, .int m_faultKind, .int m_faultAt, .int m_bad, .int m_badAt, .int m_token, .int m_at, .int m_behind, .int m_number, .int m_letters, .long m_word, .ref a_c, .ref a_words, .int m_markMany, .ref a_there, .ref a_tried, .ref a_best, .ref a_found, .int m_thereMany, .int m_foundMany, .int m_orderHow, .int m_orderRing, .int m_orderMany, .int m_hasBest, .long m_bestTop, .long m_bestBy, .ref a_weights, .ref a_shared, .int m_random, .int m_truePlace, .int m_trueWay, .int m_seconds, .int m_done, .int m_feelings, .int m_tries, .int m_leftOver, .int m_playDoor, .int m_playRing, .int m_isOpen, .int m_isOver, .int m_wasTried, .int m_hasPlayed, .ref a_feltNow, .ref a_last, .ref a_kept, .int m_hasSeconds, .int m_hasTurned, .int m_hasRound, .ref a_hasFeels, .ref a_isOn, .int m_firstAct, .long m_meanTop, .long m_meanBy, .ref a_order, .int m_rowMany, .int m_newSteps])), (a_c, .inl (cA.1 0, 1825, .inl g_c)), (a_there, .inl (cA.1 0, 10, .inl g_there))]) [1, 2, 0] (by decide) rfl
                  exact ih_6182 x_6211 r_6196 x_6212 H locs ls (by omega) (by omega) (by omega) hP hD hS (lv_sub hl [4, 5, 6, 7, 2, 1, 0] rfl)
                · have b_6213 := z_fgeF c_6208
                  refine lv_iload hx hb dX12_walk_84 (lv_at hl 0 rfl) ?_
                  refine lv_iload hx hb dX12_walk_86 (lv_at hl 6 rfl) ?_
                  refine lv_icmp_lt (tgt := 94) hx hb dX12_walk_88 (by decide) (fun c_6214 => ?_) (fun c_6214 => ?_)
                  · have b_6215 := z_fltT c_6214
                    refine lv_iload_n hx hb dX12_walk_94 rfl (lv_at hl 2 rfl) ?_
                    refine lv_iload hx hb dX12_walk_95 (lv_at hl 7 rfl) ?_
                    refine lv_iadd hx hb dX12_walk_97 ?_
                    refine lv_topi (fun x_6216 he_x_6216 => ?_)
                    have hq_x_6216 := z_addq he_x_6216 (rfl : v_5390.toInt = _) (rfl : v_6151.toInt = _) (by omega) (by omega)
                    refine lv_aload_n hx hb dX12_walk_98 rfl (lv_at hl 1 rfl) ?_
                    refine va_get (D := G) (ci := 12) (v := .int m_thereMany) (C := RX12) (T := TX12) (N := 65) hx hb hts inT12 hown hK hP 1 rfl rfl 27 (by decide) (hts _ tw_1912) (fun _ h9 => h9) rfl dX12_walk_99 ?_
                    refine lv_irem hx hb dX12_walk_102 (z_nz (by omega)) ?_
                    refine lv_topi (fun x_6217 he_x_6217 => ?_)
                    have hr_x_6217 := z_remr he_x_6217 (by omega) (by omega)
                    refine lv_istore (lv' := [(4, .int x_6217), (7, .int r_6196), (0, .ref h0), (1, .int v_5390), (2, .int v_5391), (3, .int v_5392), (5, .int v_6150), (6, .int v_6151)]) hx hb dX12_walk_103 hl (by decide) rfl (fun ls hl => ?_)
                    refine lv_iload hx hb dX12_walk_105 (lv_at hl 1 rfl) ?_
                    refine lv_istore (lv' := [(5, .int r_6196), (4, .int x_6217), (7, .int r_6196), (0, .ref h0), (1, .int v_5390), (2, .int v_5391), (3, .int v_5392), (6, .int v_6151)]) hx hb dX12_walk_107 hl (by decide) rfl (fun ls hl => ?_)
                    obtain ⟨x_6218, he_x_6218⟩ : ∃ z : Int32, z = v_6151 + 1 := ⟨_, rfl⟩
                    have hq_x_6218 := z_addq he_x_6218 (rfl : v_6151.toInt = _) hk_1 (by omega) (by omega)
                    refine lv_iinc (v := x_6218) (lv' := [(6, .int x_6218), (5, .int r_6196), (4, .int x_6217), (7, .int r_6196), (0, .ref h0), (1, .int v_5390), (2, .int v_5391), (3, .int v_5392)]) hx hb dX12_walk_109 hl (k := 7) rfl ((z_ofi (by decide +kernel)).trans he_x_6218.symm) (by decide) rfl (fun ls hl => ?_)
                    refine lv_goto (tgt := 25) hx hb dX12_walk_112 (by decide) ?_
                    have hP := hP.sub (ws' := [(h0, .inr (12, [.int m_status, .int m_thrown, .long m_above, .long m_under, .ref a_traySort, .ref a_trayMany, .ref a_numbers, .ref a_tape, .int m_taped, .int m_textEnd, .int m_faultKind, .int m_faultAt, .int m_bad, .int m_badAt, .int m_token, .int m_at, .int m_behind, .int m_number, .int m_letters, .long m_word, .ref a_c, .ref a_words, .int m_markMany, .ref a_there, .ref a_tried, .ref a_best, .ref a_found, .int m_thereMany, .int m_foundMany, .int m_orderHow, .int m_orderRing, .int m_orderMany, .int m_hasBest, .long m_bestTop, .long m_bestBy, .ref a_weights, .ref a_shared, .int m_random, .int m_truePlace, .int m_trueWay, .int m_seconds, .int m_done, .int m_feelings, .int m_tries, .int m_leftOver, .int m_playDoor, .int m_playRing, .int m_isOpen, .int m_isOver, .int m_wasTried, .int m_hasPlayed, .ref a_feltNow, .ref a_last, .ref a_kept, .int m_hasSeconds, .int m_hasTurned, .int m_hasRound, .ref a_hasFeels, .ref a_isOn, .int m_firstAct, .long m_meanTop, .long m_meanBy, .ref a_order, .int m_rowMany, .int m_newSteps])), (a_c, .inl (cA.1 0, 1825, .inl g_c)), (a_there, .inl (cA.1 0, 10, .inl g_there))]) [1, 2, 0] rfl
                    have hD := hD.sub (ws' := [(h0, .inr (12, [.int m_status, .int m_thrown, .long m_above, .long m_under, .ref a_traySort, .ref a_trayMany, .ref a_numbers, .ref a_tape, .int m_taped, .int m_textEnd, .int m_faultKind, .int m_faultAt, .int m_bad, .int m_badAt, .int m_token, .int m_at, .int m_behind, .int m_number, .int m_letters, .long m_word, .ref a_c, .ref a_words, .int m_markMany, .ref a_there, .ref a_tried, .ref a_best, .ref a_found, .int m_thereMany, .int m_foundMany, .int m_orderHow, .int m_orderRing, .int m_orderMany, .int m_hasBest, .long m_bestTop, .long m_bestBy, .ref a_weights, .ref a_shared, .int m_random, .int m_truePlace, .int m_trueWay, .int m_seconds, .int m_done, .int m_feelings, .int m_tries, .int m_leftOver, .int m_playDoor, .int m_playRing, .int m_isOpen, .int m_isOver, .int m_wasTried, .int m_hasPlayed, .ref a_feltNow, .ref a_last, .ref a_kept, .int m_hasSeconds, .int m_hasTurned, .int m_hasRound, .ref a_hasFeels, .ref a_isOn, .int m_firstAct, .long m_meanTop, .long m_meanBy, .ref a_order, .int m_rowMany, .int m_newSteps])), (a_c, .inl (cA.1 0, 1825, .inl g_c)), (a_there, .inl (cA.1 0, 10, .inl g_there))]) [1, 2, 0] (by decide) rfl
                    exact ih_6182 x_6217 r_6196 x_6218 H locs ls (by omega) (by omega) (by omega) hP hD hS (lv_sub hl [4, 5, 6, 7, 2, 1, 0] rfl)
                  · have b_6219 := z_fgeF c_6214
                    refine lv_goto (tgt := 109) hx hb dX12_walk_91 (by decide) ?_
                    obtain ⟨x_6220, he_x_6220⟩ : ∃ z : Int32, z = v_6151 + 1 := ⟨_, rfl⟩
                    have hq_x_6220 := z_addq he_x_6220 (rfl : v_6151.toInt = _) hk_1 (by omega) (by omega)
                    refine lv_iinc (v := x_6220) (lv' := [(6, .int x_6220), (7, .int r_6196), (0, .ref h0), (1, .int v_5390), (2, .int v_5391), (3, .int v_5392), (4, .int v_6149), (5, .int v_6150)]) hx hb dX12_walk_109 hl (k := 7) rfl ((z_ofi (by decide +kernel)).trans he_x_6220.symm) (by decide) rfl (fun ls hl => ?_)
                    refine lv_goto (tgt := 25) hx hb dX12_walk_112 (by decide) ?_
                    have hP := hP.sub (ws' := [(h0, .inr (12, [.int m_status, .int m_thrown, .long m_above, .long m_under, .ref a_traySort, .ref a_trayMany, .ref a_numbers, .ref a_tape, .int m_taped, .int m_textEnd, .int m_faultKind, .int m_faultAt, .int m_bad, .int m_badAt, .int m_token, .int m_at, .int m_behind, .int m_number, .int m_letters, .long m_word, .ref a_c, .ref a_words, .int m_markMany, .ref a_there, .ref a_tried, .ref a_best, .ref a_found, .int m_thereMany, .int m_foundMany, .int m_orderHow, .int m_orderRing, .int m_orderMany, .int m_hasBest, .long m_bestTop, .long m_bestBy, .ref a_weights, .ref a_shared, .int m_random, .int m_truePlace, .int m_trueWay, .int m_seconds, .int m_done, .int m_feelings, .int m_tries, .int m_leftOver, .int m_playDoor, .int m_playRing, .int m_isOpen, .int m_isOver, .int m_wasTried, .int m_hasPlayed, .ref a_feltNow, .ref a_last, .ref a_kept, .int m_hasSeconds, .int m_hasTurned, .int m_hasRound, .ref a_hasFeels, .ref a_isOn, .int m_firstAct, .long m_meanTop, .long m_meanBy, .ref a_order, .int m_rowMany, .int m_newSteps])), (a_c, .inl (cA.1 0, 1825, .inl g_c)), (a_there, .inl (cA.1 0, 10, .inl g_there))]) [1, 2, 0] rfl
                    have hD := hD.sub (ws' := [(h0, .inr (12, [.int m_status, .int m_thrown, .long m_above, .long m_under, .ref a_traySort, .ref a_trayMany, .ref a_numbers, .ref a_tape, .int m_taped, .int m_textEnd, .int m_faultKind, .int m_faultAt, .int m_bad, .int m_badAt, .int m_token, .int m_at, .int m_behind, .int m_number, .int m_letters, .long m_word, .ref a_c, .ref a_words, .int m_markMany, .ref a_there, .ref a_tried, .ref a_best, .ref a_found, .int m_thereMany, .int m_foundMany, .int m_orderHow, .int m_orderRing, .int m_orderMany, .int m_hasBest, .long m_bestTop, .long m_bestBy, .ref a_weights, .ref a_shared, .int m_random, .int m_truePlace, .int m_trueWay, .int m_seconds, .int m_done, .int m_feelings, .int m_tries, .int m_leftOver, .int m_playDoor, .int m_playRing, .int m_isOpen, .int m_isOver, .int m_wasTried, .int m_hasPlayed, .ref a_feltNow, .ref a_last, .ref a_kept, .int m_hasSeconds, .int m_hasTurned, .int m_hasRound, .ref a_hasFeels, .ref a_isOn, .int m_firstAct, .long m_meanTop, .long m_meanBy, .ref a_order, .int m_rowMany, .int m_newSteps])), (a_c, .inl (cA.1 0, 1825, .inl g_c)), (a_there, .inl (cA.1 0, 10, .inl g_there))]) [1, 2, 0] (by decide) rfl
                    exact ih_6182 v_6149 v_6150 x_6220 H locs ls (by omega) hr_v_6149 (by omega) hP hD hS (lv_sub hl [2, 3, 4, 5, 6, 7, 0] rfl)
        exact hlp_6181 _ (-1) 0 0 _ _ _ (Nat.lt_succ_self _) (by decide +kernel) (by decide +kernel) hP hD hS (lv_sub hl [3, 4, 5, 6, 2, 1, 0] rfl)
  exact hlp_5806 _ 0 0 0 _ _ _ (Nat.lt_succ_self _) (by decide +kernel) (by decide +kernel) hP hD hS (lv_sub hl [3, 2, 1, 0] rfl)
set_option maxHeartbeats 4000000 in
set_option maxRecDepth 100000 in
theorem r_walked (l : Launch) (G : va_G) (cA : zCA) (h0 : Nat) (m_status : Int32) (m_thrown : Int32) (m_above : Int64) (m_under : Int64) (a_traySort : Nat) (a_trayMany : Nat) (a_numbers : Nat) (a_tape : Nat) (m_taped : Int32) (m_textEnd : Int32) (m_faultKind : Int32) (m_faultAt : Int32) (m_bad : Int32) (m_badAt : Int32) (m_token : Int32) (m_at : Int32) (m_behind : Int32) (m_number : Int32) (m_letters : Int32) (m_word : Int64) (a_c : Nat) (a_words : Nat) (m_markMany : Int32) (a_there : Nat) (a_tried : Nat) (a_best : Nat) (a_found : Nat) (m_thereMany : Int32) (m_foundMany : Int32) (m_orderHow : Int32) (m_orderRing : Int32) (m_orderMany : Int32) (m_hasBest : Int32) (m_bestTop : Int64) (m_bestBy : Int64) (a_weights : Nat) (a_shared : Nat) (m_random : Int32) (m_truePlace : Int32) (m_trueWay : Int32) (m_seconds : Int32) (m_done : Int32) (m_feelings : Int32) (m_tries : Int32) (m_leftOver : Int32) (m_playDoor : Int32) (m_playRing : Int32) (m_isOpen : Int32) (m_isOver : Int32) (m_wasTried : Int32) (m_hasPlayed : Int32) (a_feltNow : Nat) (a_last : Nat) (a_kept : Nat) (m_hasSeconds : Int32) (m_hasTurned : Int32) (m_hasRound : Int32) (a_hasFeels : Nat) (a_isOn : Nat) (m_firstAct : Int32) (m_meanTop : Int64) (m_meanBy : Int64) (a_order : Nat) (m_rowMany : Int32) (m_newSteps : Int32) (g_c : Nat → Int32) (g_there : Nat → Int32) (r : Int32) (hr_m_thereMany : 0 ≤ m_thereMany.toInt ∧ m_thereMany.toInt ≤ 10) (hC_g_c : zC g_c) (hC_g_there : zRg 10 0 9 g_there) : zCi l yX12_walked cX12_walked 3 (some .int) ({ frames := 2, cells := 0, slots := 0, locals := 49 }) G cA [.ref h0, .int r] [(h0, .inr (12, [.int m_status, .int m_thrown, .long m_above, .long m_under, .ref a_traySort, .ref a_trayMany, .ref a_numbers, .ref a_tape, .int m_taped, .int m_textEnd, .int m_faultKind, .int m_faultAt, .int m_bad, .int m_badAt, .int m_token, .int m_at, .int m_behind, .int m_number, .int m_letters, .long m_word, .ref a_c, .ref a_words, .int m_markMany, .ref a_there, .ref a_tried, .ref a_best, .ref a_found, .int m_thereMany, .int m_foundMany, .int m_orderHow, .int m_orderRing, .int m_orderMany, .int m_hasBest, .long m_bestTop, .long m_bestBy, .ref a_weights, .ref a_shared, .int m_random, .int m_truePlace, .int m_trueWay, .int m_seconds, .int m_done, .int m_feelings, .int m_tries, .int m_leftOver, .int m_playDoor, .int m_playRing, .int m_isOpen, .int m_isOver, .int m_wasTried, .int m_hasPlayed, .ref a_feltNow, .ref a_last, .ref a_kept, .int m_hasSeconds, .int m_hasTurned, .int m_hasRound, .ref a_hasFeels, .ref a_isOn, .int m_firstAct, .long m_meanTop, .long m_meanBy, .ref a_order, .int m_rowMany, .int m_newSteps])), (a_c, .inl (cA.1 0, 1825, .inl g_c)), (a_there, .inl (cA.1 0, 10, .inl g_there))] (S := Int32 × Int32 × Int32 × (Nat → Int32)) (fun (r : Int32) (u : Int32 × Int32 × Int32 × (Nat → Int32)) => ((-1) ≤ r.toInt ∧ r.toInt ≤ 2147483647) ∧ (0 ≤ u.2.1.toInt ∧ u.2.1.toInt ≤ 0) ∧ (0 ≤ u.2.2.1.toInt ∧ u.2.2.1.toInt ≤ 10) ∧ (zRg 10 0 9 u.2.2.2)) (fun (u : Int32 × Int32 × Int32 × (Nat → Int32)) => [(h0, .inr (12, [.int u.1, .int u.2.1, .long m_above, .long m_under, .ref a_traySort, .ref a_trayMany, .ref a_numbers, .ref a_tape, .int m_taped, .int m_textEnd, .int m_faultKind, .int m_faultAt, .int m_bad, .int m_badAt, .int m_token, .int m_at, .int m_behind, .int m_number, .int m_letters, .long m_word, .ref a_c, .ref a_words, .int m_markMany, .ref a_there, .ref a_tried, .ref a_best, .ref a_found, .int u.2.2.1, .int m_foundMany, .int m_orderHow, .int m_orderRing, .int m_orderMany, .int m_hasBest, .long m_bestTop, .long m_bestBy, .ref a_weights, .ref a_shared, .int m_random, .int m_truePlace, .int m_trueWay, .int m_seconds, .int m_done, .int m_feelings, .int m_tries, .int m_leftOver, .int m_playDoor, .int m_playRing, .int m_isOpen, .int m_isOver, .int m_wasTried, .int m_hasPlayed, .ref a_feltNow, .ref a_last, .ref a_kept, .int m_hasSeconds, .int m_hasTurned, .int m_hasRound, .ref a_hasFeels, .ref a_isOn, .int m_firstAct, .long m_meanTop, .long m_meanBy, .ref a_order, .int m_rowMany, .int m_newSteps])), (a_c, .inl (cA.1 0, 1825, .inl g_c)), (a_there, .inl (cA.1 0, 10, .inl u.2.2.2))]) 0 0 := by
  have hk_0 : (0 : Int32).toInt = 0 := by decide +kernel
  have hk_2 : (2 : Int32).toInt = 2 := by decide +kernel
  have hk_8 : (8 : Int32).toInt = 8 := by decide +kernel
  refine z_start2i (own := RX12) (by decide) (Nat.le_of_ble_eq_true rfl) rfl ?_
  intro p e s m args below meth c A ls Q hx hb hml hts hown hK hE hT hP hD hS hA hl hret
  have hl : lv_has ls 3 [(0, .ref h0), (1, .int r)] := hl
  refine lv_aload_n hx hb dX12_walked_0 rfl (lv_at hl 0 rfl) ?_
  refine lv_iconst (v := 0) hx hb dX12_walked_1 (by decide) ?_
  refine va_put (D := G) (ci := 12) (v := .int 0) (ty := .int) (C := RX12) (T := TX12) (N := 65) hx hb hts inT12 tyX12 tyX12_ok nmX12 hown hK hP hD hS 0 rfl rfl 1 (by decide) (hts _ tw_1886) (fun _ h9 => h9) rfl (tyX12_ok 1 (by decide)) rfl rfl (Nat.le_of_ble_eq_true rfl) dX12_walked_2 (fun H locs hP hD hS => ?_)
  refine lv_aload_n hx hb dX12_walked_5 rfl (lv_at hl 0 rfl) ?_
  refine lv_iconst (v := 0) hx hb dX12_walked_6 (by decide) ?_
  refine va_put (D := G) (ci := 12) (v := .int 0) (ty := .int) (C := RX12) (T := TX12) (N := 65) hx hb hts inT12 tyX12 tyX12_ok nmX12 hown hK hP hD hS 0 rfl rfl 0 (by decide) (hts _ tw_1885) (fun _ h9 => h9) rfl (tyX12_ok 0 (by decide)) rfl rfl (Nat.le_of_ble_eq_true rfl) dX12_walked_7 (fun H locs hP hD hS => ?_)
  refine lv_aload_n hx hb dX12_walked_10 rfl (lv_at hl 0 rfl) ?_
  refine lv_iload_n hx hb dX12_walked_11 rfl (lv_at hl 1 rfl) ?_
  refine z_callVi (As := [.int r]) (rest := []) (wr := [(a_there, .inl (cA.1 0, 10, .inl g_there))]) ⟨hx, hb, hml, hown, hts⟩ hK hE hT hP hD hS hA (r_isRing l G cA h0 0 0 m_above m_under a_traySort a_trayMany a_numbers a_tape m_taped m_textEnd m_faultKind m_faultAt m_bad m_badAt m_token m_at m_behind m_number m_letters m_word a_c a_words m_markMany a_there a_tried a_best a_found m_thereMany m_foundMany m_orderHow m_orderRing m_orderMany m_hasBest m_bestTop m_bestBy a_weights a_shared m_random m_truePlace m_trueWay m_seconds m_done m_feelings m_tries m_leftOver m_playDoor m_playRing m_isOpen m_isOver m_wasTried m_hasPlayed a_feltNow a_last a_kept m_hasSeconds m_hasTurned m_hasRound a_hasFeels a_isOn m_firstAct m_meanTop m_meanBy a_order m_rowMany m_newSteps g_c r hC_g_c) lk_RX12_289 ⟨rfl, rfl⟩ ⟨Nat.le_of_ble_eq_true rfl, Nat.le_of_ble_eq_true rfl⟩ 12 rfl rfl rfl [0, 1] [2] rfl rfl (by decide) rfl hl.1 rfl (lv_room (Nat.le_of_ble_eq_true rfl)) dX12_walked_12 ⟨Nat.le_of_ble_eq_true rfl, Nat.le_of_ble_eq_true rfl⟩ (fun r_1 u_2 H locs hw hP hD hS => ?_)
  rcases hw with ⟨rfl, -⟩ | ⟨rfl, hf_3, hf_4⟩
  · skip
    refine lv_if_ne (tgt := 24) hx hb dX12_walked_15 (by decide) (fun h9 => absurd (by decide +kernel) h9) (fun _ => ?_)
    refine lv_aload_n hx hb dX12_walked_18 rfl (lv_at hl 0 rfl) ?_
    refine lv_iconst (v := 2) hx hb dX12_walked_19 (by decide) ?_
    refine z_callVi (As := [.int 2]) (rest := []) (wr := [(a_there, .inl (cA.1 0, 10, .inl g_there)), (a_c, .inl (cA.1 0, 1825, .inl g_c))]) ⟨hx, hb, hml, hown, hts⟩ hK hE hT hP hD hS hA (r_refuse l G cA h0 0 0 m_above m_under a_traySort a_trayMany a_numbers a_tape m_taped m_textEnd m_faultKind m_faultAt m_bad m_badAt m_token m_at m_behind m_number m_letters m_word a_c a_words m_markMany a_there a_tried a_best a_found m_thereMany m_foundMany m_orderHow m_orderRing m_orderMany m_hasBest m_bestTop m_bestBy a_weights a_shared m_random m_truePlace m_trueWay m_seconds m_done m_feelings m_tries m_leftOver m_playDoor m_playRing m_isOpen m_isOver m_wasTried m_hasPlayed a_feltNow a_last a_kept m_hasSeconds m_hasTurned m_hasRound a_hasFeels a_isOn m_firstAct m_meanTop m_meanBy a_order m_rowMany m_newSteps 2) lk_RX12_269 ⟨rfl, rfl⟩ ⟨Nat.le_of_ble_eq_true rfl, Nat.le_of_ble_eq_true rfl⟩ 12 rfl rfl rfl [1] [0, 2] rfl rfl (by decide) rfl hl.1 rfl (lv_room (Nat.le_of_ble_eq_true rfl)) dX12_walked_20 ⟨Nat.le_of_ble_eq_true rfl, Nat.le_of_ble_eq_true rfl⟩ (fun r_6 u_7 H locs hw hP hD hS => ?_)
    obtain ⟨n_5, rfl⟩ : ∃ z, z = u_7 := ⟨_, rfl⟩
    have hr_r_6 := hw
    have hpost : ((-1) ≤ r_6.toInt ∧ r_6.toInt ≤ 2147483647) ∧ (0 ≤ (0 : Int32).toInt ∧ (0 : Int32).toInt ≤ 0) ∧ (0 ≤ m_thereMany.toInt ∧ m_thereMany.toInt ≤ 10) ∧ (zRg 10 0 9 g_there) := ⟨(z_rgw hr_r_6 (by decide) (by decide)), (by decide +kernel), hr_m_thereMany, hC_g_there⟩
    exact hret _ _ _ _ _ _ (n_5, 0, m_thereMany, g_there) [2, 1, 0] hP hD hS rfl (by decide) dX12_walked_23 hpost
  · skip
    refine lv_if_ne (tgt := 24) hx hb dX12_walked_15 (by decide) (fun _ => ?_) (fun h9 => absurd h9 (by decide +kernel))
    refine lv_aload_n hx hb dX12_walked_24 rfl (lv_at hl 0 rfl) ?_
    refine lv_iload_n hx hb dX12_walked_25 rfl (lv_at hl 1 rfl) ?_
    refine z_callVv (As := [.int r]) (rest := []) (wr := []) ⟨hx, hb, hml, hown, hts⟩ hK hE hT hP hD hS hA (r_gather l G cA h0 0 0 m_above m_under a_traySort a_trayMany a_numbers a_tape m_taped m_textEnd m_faultKind m_faultAt m_bad m_badAt m_token m_at m_behind m_number m_letters m_word a_c a_words m_markMany a_there a_tried a_best a_found m_thereMany m_foundMany m_orderHow m_orderRing m_orderMany m_hasBest m_bestTop m_bestBy a_weights a_shared m_random m_truePlace m_trueWay m_seconds m_done m_feelings m_tries m_leftOver m_playDoor m_playRing m_isOpen m_isOver m_wasTried m_hasPlayed a_feltNow a_last a_kept m_hasSeconds m_hasTurned m_hasRound a_hasFeels a_isOn m_firstAct m_meanTop m_meanBy a_order m_rowMany m_newSteps g_c g_there r (by omega) hr_m_thereMany hC_g_c hC_g_there) lk_RX12_292 ⟨rfl, rfl⟩ ⟨Nat.le_of_ble_eq_true rfl, Nat.le_of_ble_eq_true rfl⟩ 12 rfl rfl rfl [1, 2, 0] [] rfl rfl (by decide) rfl hl.1 rfl (lv_room (Nat.le_of_ble_eq_true rfl)) dX12_walked_26 ⟨Nat.le_of_ble_eq_true rfl, Nat.le_of_ble_eq_true rfl⟩ (fun u_11 H locs hw hP hD hS => ?_)
    obtain ⟨n_8, n_9⟩ := u_11
    try dsimp only at hw
    obtain ⟨hr_n_8, hC_n_9, hf_12, hf_13⟩ := hw
    refine lv_aload_n hx hb dX12_walked_29 rfl (lv_at hl 0 rfl) ?_
    refine va_get (D := G) (ci := 12) (v := .ref a_c) (C := RX12) (T := TX12) (N := 65) hx hb hts inT12 hown hK hP 0 rfl rfl 20 (by decide) (hts _ tw_1905) (fun _ h9 => h9) rfl dX12_walked_30 ?_
    refine lv_iconst (v := 4) hx hb dX12_walked_33 (by decide) ?_
    refine va_iald hx hb hK hP 1 0 rfl rfl (z_in (i := 4) (n := 1825) (by decide +kernel) (by decide +kernel)) dX12_walked_34 ?_
    refine lv_topi (fun x_14 he_x_14 => ?_)
    have hr_x_14 := z_ctk hC_g_c he_x_14 (k := 4) (lo := 0) (hi := 12) (by decide +kernel) (by decide +kernel) (by decide +kernel)
    refine lv_if_ne (tgt := 42) hx hb dX12_walked_35 (by decide) (fun c_15 => ?_) (fun c_15 => ?_)
    · have b_16 := z_fneT c_15
      refine lv_aload_n hx hb dX12_walked_42 rfl (lv_at hl 0 rfl) ?_
      refine z_callVi (As := []) (rest := []) (wr := []) ⟨hx, hb, hml, hown, hts⟩ hK hE hT hP hD hS hA (r_walk l G cA h0 0 0 m_above m_under a_traySort a_trayMany a_numbers a_tape m_taped m_textEnd m_faultKind m_faultAt m_bad m_badAt m_token m_at m_behind m_number m_letters m_word a_c a_words m_markMany a_there a_tried a_best a_found n_8 m_foundMany m_orderHow m_orderRing m_orderMany m_hasBest m_bestTop m_bestBy a_weights a_shared m_random m_truePlace m_trueWay m_seconds m_done m_feelings m_tries m_leftOver m_playDoor m_playRing m_isOpen m_isOver m_wasTried m_hasPlayed a_feltNow a_last a_kept m_hasSeconds m_hasTurned m_hasRound a_hasFeels a_isOn m_firstAct m_meanTop m_meanBy a_order m_rowMany m_newSteps g_c n_9 hr_n_8 hC_g_c hC_n_9) lk_RX12_408 ⟨rfl, rfl⟩ ⟨Nat.le_of_ble_eq_true rfl, Nat.le_of_ble_eq_true rfl⟩ 12 rfl rfl rfl [0, 1, 2] [] rfl rfl (by decide) rfl hl.1 rfl (lv_room (Nat.le_of_ble_eq_true rfl)) dX12_walked_43 ⟨Nat.le_of_ble_eq_true rfl, Nat.le_of_ble_eq_true rfl⟩ (fun r_17 u_18 H locs hw hP hD hS => ?_)
      refine lv_istore_n (lv' := [(2, .int r_17), (0, .ref h0), (1, .int r)]) hx hb dX12_walked_46 rfl hl (by decide) rfl (fun ls hl => ?_)
      refine lv_iload_n hx hb dX12_walked_47 rfl (lv_at hl 0 rfl) ?_
      refine lv_if_ge (tgt := 60) hx hb dX12_walked_48 (by decide) (fun c_19 => ?_) (fun c_19 => ?_)
      · have b_20 := z_fgeT c_19
        refine lv_iload_n hx hb dX12_walked_60 rfl (lv_at hl 0 rfl) ?_
        have hL_r_17 := z_full r_17
        have hpost : ((-1) ≤ r_17.toInt ∧ r_17.toInt ≤ 2147483647) ∧ (0 ≤ (0 : Int32).toInt ∧ (0 : Int32).toInt ≤ 0) ∧ (0 ≤ n_8.toInt ∧ n_8.toInt ≤ 10) ∧ (zRg 10 0 9 n_9) := ⟨(by omega), (by decide +kernel), hr_n_8, hC_n_9⟩
        exact hret _ _ _ _ _ _ (0, 0, n_8, n_9) [0, 1, 2] hP hD hS rfl (by decide) dX12_walked_61 hpost
      · have b_21 := z_fltF c_19
        refine lv_aload_n hx hb dX12_walked_51 rfl (lv_at hl 1 rfl) ?_
        refine lv_bipush (v := 8) hx hb dX12_walked_52 (by decide) ?_
        refine z_callVi (As := [.int 8]) (rest := []) (wr := [(a_c, .inl (cA.1 0, 1825, .inl g_c)), (a_there, .inl (cA.1 0, 10, .inl n_9))]) ⟨hx, hb, hml, hown, hts⟩ hK hE hT hP hD hS hA (r_refuse l G cA h0 0 0 m_above m_under a_traySort a_trayMany a_numbers a_tape m_taped m_textEnd m_faultKind m_faultAt m_bad m_badAt m_token m_at m_behind m_number m_letters m_word a_c a_words m_markMany a_there a_tried a_best a_found n_8 m_foundMany m_orderHow m_orderRing m_orderMany m_hasBest m_bestTop m_bestBy a_weights a_shared m_random m_truePlace m_trueWay m_seconds m_done m_feelings m_tries m_leftOver m_playDoor m_playRing m_isOpen m_isOver m_wasTried m_hasPlayed a_feltNow a_last a_kept m_hasSeconds m_hasTurned m_hasRound a_hasFeels a_isOn m_firstAct m_meanTop m_meanBy a_order m_rowMany m_newSteps 8) lk_RX12_269 ⟨rfl, rfl⟩ ⟨Nat.le_of_ble_eq_true rfl, Nat.le_of_ble_eq_true rfl⟩ 12 rfl rfl rfl [0] [1, 2] rfl rfl (by decide) rfl hl.1 rfl (lv_room (Nat.le_of_ble_eq_true rfl)) dX12_walked_54 ⟨Nat.le_of_ble_eq_true rfl, Nat.le_of_ble_eq_true rfl⟩ (fun r_23 u_24 H locs hw hP hD hS => ?_)
        obtain ⟨n_22, rfl⟩ : ∃ z, z = u_24 := ⟨_, rfl⟩
        have hr_r_23 := hw
        refine lv_goto (tgt := 61) hx hb dX12_walked_57 (by decide) ?_
        have hpost : ((-1) ≤ r_23.toInt ∧ r_23.toInt ≤ 2147483647) ∧ (0 ≤ (0 : Int32).toInt ∧ (0 : Int32).toInt ≤ 0) ∧ (0 ≤ n_8.toInt ∧ n_8.toInt ≤ 10) ∧ (zRg 10 0 9 n_9) := ⟨(z_rgw hr_r_23 (by decide) (by decide)), (by decide +kernel), hr_n_8, hC_n_9⟩
        exact hret _ _ _ _ _ _ (n_22, 0, n_8, n_9) [2, 0, 1] hP hD hS rfl (by decide) dX12_walked_61 hpost
    · have b_25 := z_feqF c_15
      refine lv_iconst (v := (-1)) hx hb dX12_walked_38 (by decide) ?_
      refine lv_goto (tgt := 46) hx hb dX12_walked_39 (by decide) ?_
      refine lv_istore_n (lv' := [(2, .int (-1)), (0, .ref h0), (1, .int r)]) hx hb dX12_walked_46 rfl hl (by decide) rfl (fun ls hl => ?_)
      refine lv_iload_n hx hb dX12_walked_47 rfl (lv_at hl 0 rfl) ?_
      refine lv_if_ge (tgt := 60) hx hb dX12_walked_48 (by decide) (fun h9 => absurd h9 (by decide +kernel)) (fun _ => ?_)
      refine lv_aload_n hx hb dX12_walked_51 rfl (lv_at hl 1 rfl) ?_
      refine lv_bipush (v := 8) hx hb dX12_walked_52 (by decide) ?_
      refine z_callVi (As := [.int 8]) (rest := []) (wr := [(a_c, .inl (cA.1 0, 1825, .inl g_c)), (a_there, .inl (cA.1 0, 10, .inl n_9))]) ⟨hx, hb, hml, hown, hts⟩ hK hE hT hP hD hS hA (r_refuse l G cA h0 0 0 m_above m_under a_traySort a_trayMany a_numbers a_tape m_taped m_textEnd m_faultKind m_faultAt m_bad m_badAt m_token m_at m_behind m_number m_letters m_word a_c a_words m_markMany a_there a_tried a_best a_found n_8 m_foundMany m_orderHow m_orderRing m_orderMany m_hasBest m_bestTop m_bestBy a_weights a_shared m_random m_truePlace m_trueWay m_seconds m_done m_feelings m_tries m_leftOver m_playDoor m_playRing m_isOpen m_isOver m_wasTried m_hasPlayed a_feltNow a_last a_kept m_hasSeconds m_hasTurned m_hasRound a_hasFeels a_isOn m_firstAct m_meanTop m_meanBy a_order m_rowMany m_newSteps 8) lk_RX12_269 ⟨rfl, rfl⟩ ⟨Nat.le_of_ble_eq_true rfl, Nat.le_of_ble_eq_true rfl⟩ 12 rfl rfl rfl [0] [1, 2] rfl rfl (by decide) rfl hl.1 rfl (lv_room (Nat.le_of_ble_eq_true rfl)) dX12_walked_54 ⟨Nat.le_of_ble_eq_true rfl, Nat.le_of_ble_eq_true rfl⟩ (fun r_27 u_28 H locs hw hP hD hS => ?_)
      obtain ⟨n_26, rfl⟩ : ∃ z, z = u_28 := ⟨_, rfl⟩
      have hr_r_27 := hw
      refine lv_goto (tgt := 61) hx hb dX12_walked_57 (by decide) ?_
      have hpost : ((-1) ≤ r_27.toInt ∧ r_27.toInt ≤ 2147483647) ∧ (0 ≤ (0 : Int32).toInt ∧ (0 : Int32).toInt ≤ 0) ∧ (0 ≤ n_8.toInt ∧ n_8.toInt ≤ 10) ∧ (zRg 10 0 9 n_9) := ⟨(z_rgw hr_r_27 (by decide) (by decide)), (by decide +kernel), hr_n_8, hC_n_9⟩
      exact hret _ _ _ _ _ _ (n_26, 0, n_8, n_9) [2, 0, 1] hP hD hS rfl (by decide) dX12_walked_61 hpost
set_option maxHeartbeats 4000000 in
set_option maxRecDepth 100000 in
theorem r_isUsed (l : Launch) (G : va_G) (cA : zCA) (h0 : Nat) (m_status : Int32) (m_thrown : Int32) (m_above : Int64) (m_under : Int64) (a_traySort : Nat) (a_trayMany : Nat) (a_numbers : Nat) (a_tape : Nat) (m_taped : Int32) (m_textEnd : Int32) (m_faultKind : Int32) (m_faultAt : Int32) (m_bad : Int32) (m_badAt : Int32) (m_token : Int32) (m_at : Int32) (m_behind : Int32) (m_number : Int32) (m_letters : Int32) (m_word : Int64) (a_c : Nat) (a_words : Nat) (m_markMany : Int32) (a_there : Nat) (a_tried : Nat) (a_best : Nat) (a_found : Nat) (m_thereMany : Int32) (m_foundMany : Int32) (m_orderHow : Int32) (m_orderRing : Int32) (m_orderMany : Int32) (m_hasBest : Int32) (m_bestTop : Int64) (m_bestBy : Int64) (a_weights : Nat) (a_shared : Nat) (m_random : Int32) (m_truePlace : Int32) (m_trueWay : Int32) (m_seconds : Int32) (m_done : Int32) (m_feelings : Int32) (m_tries : Int32) (m_leftOver : Int32) (m_playDoor : Int32) (m_playRing : Int32) (m_isOpen : Int32) (m_isOver : Int32) (m_wasTried : Int32) (m_hasPlayed : Int32) (a_feltNow : Nat) (a_last : Nat) (a_kept : Nat) (m_hasSeconds : Int32) (m_hasTurned : Int32) (m_hasRound : Int32) (a_hasFeels : Nat) (a_isOn : Nat) (m_firstAct : Int32) (m_meanTop : Int64) (m_meanBy : Int64) (a_order : Nat) (m_rowMany : Int32) (m_newSteps : Int32) (g_tried : Nat → Int32) (k : Int32) (nn : Int32) (hr_nn : 0 ≤ nn.toInt ∧ nn.toInt ≤ 9) (hC_g_tried : zRg 10 0 9 g_tried) : zCi l yX12_isUsed cX12_isUsed 4 (some .boolean) ({ frames := 0, cells := 0, slots := 0, locals := 0 }) G cA [.ref h0, .int k, .int nn] [(h0, .inr (12, [.int m_status, .int m_thrown, .long m_above, .long m_under, .ref a_traySort, .ref a_trayMany, .ref a_numbers, .ref a_tape, .int m_taped, .int m_textEnd, .int m_faultKind, .int m_faultAt, .int m_bad, .int m_badAt, .int m_token, .int m_at, .int m_behind, .int m_number, .int m_letters, .long m_word, .ref a_c, .ref a_words, .int m_markMany, .ref a_there, .ref a_tried, .ref a_best, .ref a_found, .int m_thereMany, .int m_foundMany, .int m_orderHow, .int m_orderRing, .int m_orderMany, .int m_hasBest, .long m_bestTop, .long m_bestBy, .ref a_weights, .ref a_shared, .int m_random, .int m_truePlace, .int m_trueWay, .int m_seconds, .int m_done, .int m_feelings, .int m_tries, .int m_leftOver, .int m_playDoor, .int m_playRing, .int m_isOpen, .int m_isOver, .int m_wasTried, .int m_hasPlayed, .ref a_feltNow, .ref a_last, .ref a_kept, .int m_hasSeconds, .int m_hasTurned, .int m_hasRound, .ref a_hasFeels, .ref a_isOn, .int m_firstAct, .long m_meanTop, .long m_meanBy, .ref a_order, .int m_rowMany, .int m_newSteps])), (a_tried, .inl (cA.1 0, 10, .inl g_tried))] (S := Unit) (fun (r : Int32) (u : Unit) => (r = 0 ∧ (zNt g_tried k.toInt nn.toInt)) ∨ (r = 1 ∧ (zIt g_tried k.toInt nn.toInt))) (fun (u : Unit) => [(h0, .inr (12, [.int m_status, .int m_thrown, .long m_above, .long m_under, .ref a_traySort, .ref a_trayMany, .ref a_numbers, .ref a_tape, .int m_taped, .int m_textEnd, .int m_faultKind, .int m_faultAt, .int m_bad, .int m_badAt, .int m_token, .int m_at, .int m_behind, .int m_number, .int m_letters, .long m_word, .ref a_c, .ref a_words, .int m_markMany, .ref a_there, .ref a_tried, .ref a_best, .ref a_found, .int m_thereMany, .int m_foundMany, .int m_orderHow, .int m_orderRing, .int m_orderMany, .int m_hasBest, .long m_bestTop, .long m_bestBy, .ref a_weights, .ref a_shared, .int m_random, .int m_truePlace, .int m_trueWay, .int m_seconds, .int m_done, .int m_feelings, .int m_tries, .int m_leftOver, .int m_playDoor, .int m_playRing, .int m_isOpen, .int m_isOver, .int m_wasTried, .int m_hasPlayed, .ref a_feltNow, .ref a_last, .ref a_kept, .int m_hasSeconds, .int m_hasTurned, .int m_hasRound, .ref a_hasFeels, .ref a_isOn, .int m_firstAct, .long m_meanTop, .long m_meanBy, .ref a_order, .int m_rowMany, .int m_newSteps])), (a_tried, .inl (cA.1 0, 10, .inl g_tried))]) 0 0 := by
  have hk_0 : (0 : Int32).toInt = 0 := by decide +kernel
  have hk_1 : (1 : Int32).toInt = 1 := by decide +kernel
  refine z_start2z (own := RX12) (by decide) (Nat.le_of_ble_eq_true rfl) rfl ?_
  intro p e s m args below meth c A ls Q hx hb hml hts hown hK hE hT hP hD hS hA hl hret
  have hl : lv_has ls 4 [(0, .ref h0), (1, .int k), (2, .int nn)] := hl
  refine lv_iconst (v := 0) hx hb dX12_isUsed_0 (by decide) ?_
  refine lv_istore_n (lv' := [(3, .int 0), (0, .ref h0), (1, .int k), (2, .int nn)]) hx hb dX12_isUsed_1 rfl hl (by decide) rfl (fun ls hl => ?_)
  have hlp_99 : ∀ (n : Nat) (v_89 : Int32) (H : Heap) (locs : List Loc) (ls : Array Slot), (2147483647 - v_89.toInt).toNat < n → (0 ≤ v_89.toInt ∧ v_89.toInt ≤ 9) → (zNt g_tried k.toInt v_89.toInt) → va_P G vwCl [(h0, .inr (12, [.int m_status, .int m_thrown, .long m_above, .long m_under, .ref a_traySort, .ref a_trayMany, .ref a_numbers, .ref a_tape, .int m_taped, .int m_textEnd, .int m_faultKind, .int m_faultAt, .int m_bad, .int m_badAt, .int m_token, .int m_at, .int m_behind, .int m_number, .int m_letters, .long m_word, .ref a_c, .ref a_words, .int m_markMany, .ref a_there, .ref a_tried, .ref a_best, .ref a_found, .int m_thereMany, .int m_foundMany, .int m_orderHow, .int m_orderRing, .int m_orderMany, .int m_hasBest, .long m_bestTop, .long m_bestBy, .ref a_weights, .ref a_shared, .int m_random, .int m_truePlace, .int m_trueWay, .int m_seconds, .int m_done, .int m_feelings, .int m_tries, .int m_leftOver, .int m_playDoor, .int m_playRing, .int m_isOpen, .int m_isOver, .int m_wasTried, .int m_hasPlayed, .ref a_feltNow, .ref a_last, .ref a_kept, .int m_hasSeconds, .int m_hasTurned, .int m_hasRound, .ref a_hasFeels, .ref a_isOn, .int m_firstAct, .long m_meanTop, .long m_meanBy, .ref a_order, .int m_rowMany, .int m_newSteps])), (a_tried, .inl (cA.1 0, 10, .inl g_tried))] H → va_D A [(h0, .inr (12, [.int m_status, .int m_thrown, .long m_above, .long m_under, .ref a_traySort, .ref a_trayMany, .ref a_numbers, .ref a_tape, .int m_taped, .int m_textEnd, .int m_faultKind, .int m_faultAt, .int m_bad, .int m_badAt, .int m_token, .int m_at, .int m_behind, .int m_number, .int m_letters, .long m_word, .ref a_c, .ref a_words, .int m_markMany, .ref a_there, .ref a_tried, .ref a_best, .ref a_found, .int m_thereMany, .int m_foundMany, .int m_orderHow, .int m_orderRing, .int m_orderMany, .int m_hasBest, .long m_bestTop, .long m_bestBy, .ref a_weights, .ref a_shared, .int m_random, .int m_truePlace, .int m_trueWay, .int m_seconds, .int m_done, .int m_feelings, .int m_tries, .int m_leftOver, .int m_playDoor, .int m_playRing, .int m_isOpen, .int m_isOver, .int m_wasTried, .int m_hasPlayed, .ref a_feltNow, .ref a_last, .ref a_kept, .int m_hasSeconds, .int m_hasTurned, .int m_hasRound, .ref a_hasFeels, .ref a_isOn, .int m_firstAct, .long m_meanTop, .long m_meanBy, .ref a_order, .int m_rowMany, .int m_newSteps])), (a_tried, .inl (cA.1 0, 10, .inl g_tried))] → va_S A s.heap H locs → lv_has ls 4 [(0, .ref h0), (1, .int k), (2, .int nn), (3, .int v_89)] → W p l e ({ frames := 0, cells := 0, slots := 0, locals := 0 }) s m args below meth c H locs 0 0 Q (F0 m 2 ls []) := by
    intro n
    induction n with
    | zero =>
      intro v_89 H locs ls hmu_hlp_99 hr_v_89 hi_98 hP hD hS hl
      exact absurd hmu_hlp_99 (Nat.not_lt_zero _)
    | succ n ih_100 =>
      intro v_89 H locs ls hmu_hlp_99 hr_v_89 hi_98 hP hD hS hl
      refine lv_iload_n hx hb dX12_isUsed_2 rfl (lv_at hl 3 rfl) ?_
      refine lv_iload_n hx hb dX12_isUsed_3 rfl (lv_at hl 2 rfl) ?_
      refine lv_icmp_ge (tgt := 25) hx hb dX12_isUsed_4 (by decide) (fun c_101 => ?_) (fun c_101 => ?_)
      · have b_102 := z_fgeT c_101
        refine lv_iconst (v := 0) hx hb dX12_isUsed_25 (by decide) ?_
        have hpost : ((0 : Int32) = 0 ∧ (zNt g_tried k.toInt nn.toInt)) ∨ ((0 : Int32) = 1 ∧ (zIt g_tried k.toInt nn.toInt)) := (Or.inl ⟨rfl, (zNt_end hi_98 (by omega))⟩)
        exact hret _ _ _ _ _ _ () [0, 1] hP hD hS rfl (by decide) dX12_isUsed_26 (Or.inl rfl) hpost
      · have b_103 := z_fltF c_101
        refine lv_aload_n hx hb dX12_isUsed_7 rfl (lv_at hl 0 rfl) ?_
        refine va_get (D := G) (ci := 12) (v := .ref a_tried) (C := RX12) (T := TX12) (N := 65) hx hb hts inT12 hown hK hP 0 rfl rfl 24 (by decide) (hts _ tw_1909) (fun _ h9 => h9) rfl dX12_isUsed_8 ?_
        refine lv_iload_n hx hb dX12_isUsed_11 rfl (lv_at hl 3 rfl) ?_
        refine va_iald hx hb hK hP 1 0 rfl rfl (z_inN (by omega) (by omega)) dX12_isUsed_12 ?_
        refine lv_topi (fun x_104 he_x_104 => ?_)
        have hr_x_104 := z_rg hC_g_tried he_x_104 (by omega) (by omega)
        refine lv_iload_n hx hb dX12_isUsed_13 rfl (lv_at hl 1 rfl) ?_
        refine lv_icmp_ne (tgt := 19) hx hb dX12_isUsed_14 (by decide) (fun c_105 => ?_) (fun c_105 => ?_)
        · have b_106 := z_fneT c_105
          obtain ⟨x_107, he_x_107⟩ : ∃ z : Int32, z = v_89 + 1 := ⟨_, rfl⟩
          have hq_x_107 := z_addq he_x_107 (rfl : v_89.toInt = _) hk_1 (by omega) (by omega)
          refine lv_iinc (v := x_107) (lv' := [(3, .int x_107), (0, .ref h0), (1, .int k), (2, .int nn)]) hx hb dX12_isUsed_19 hl (k := 3) rfl ((z_ofi (by decide +kernel)).trans he_x_107.symm) (by decide) rfl (fun ls hl => ?_)
          refine lv_goto (tgt := 2) hx hb dX12_isUsed_22 (by decide) ?_
          exact ih_100 x_107 H locs ls (by omega) (by omega) (by rw [hq_x_107]; exact zNt_step hi_98 he_x_104 (by omega) (by omega) (by omega)) hP hD hS (lv_sub hl [1, 2, 3, 0] rfl)
        · have b_108 := z_feqF c_105
          refine lv_iconst (v := 1) hx hb dX12_isUsed_17 (by decide) ?_
          have hpost : ((1 : Int32) = 0 ∧ (zNt g_tried k.toInt nn.toInt)) ∨ ((1 : Int32) = 1 ∧ (zIt g_tried k.toInt nn.toInt)) := (Or.inr ⟨rfl, (zIt_of he_x_104 (rfl : v_89.toInt = _) (by omega) (by omega) (by omega))⟩)
          exact hret _ _ _ _ _ _ () [0, 1] hP hD hS rfl (by decide) dX12_isUsed_18 (Or.inr rfl) hpost
  exact hlp_99 _ 0 _ _ _ (Nat.lt_succ_self _) (by decide +kernel) zNt_0 hP hD hS (lv_sub hl [1, 2, 3, 0] rfl)
set_option maxHeartbeats 4000000 in
set_option maxRecDepth 100000 in
theorem r_isOrdered (l : Launch) (G : va_G) (cA : zCA) (h0 : Nat) (m_status : Int32) (m_thrown : Int32) (m_above : Int64) (m_under : Int64) (a_traySort : Nat) (a_trayMany : Nat) (a_numbers : Nat) (a_tape : Nat) (m_taped : Int32) (m_textEnd : Int32) (m_faultKind : Int32) (m_faultAt : Int32) (m_bad : Int32) (m_badAt : Int32) (m_token : Int32) (m_at : Int32) (m_behind : Int32) (m_number : Int32) (m_letters : Int32) (m_word : Int64) (a_c : Nat) (a_words : Nat) (m_markMany : Int32) (a_there : Nat) (a_tried : Nat) (a_best : Nat) (a_found : Nat) (m_thereMany : Int32) (m_foundMany : Int32) (m_orderHow : Int32) (m_orderRing : Int32) (m_orderMany : Int32) (m_hasBest : Int32) (m_bestTop : Int64) (m_bestBy : Int64) (a_weights : Nat) (a_shared : Nat) (m_random : Int32) (m_truePlace : Int32) (m_trueWay : Int32) (m_seconds : Int32) (m_done : Int32) (m_feelings : Int32) (m_tries : Int32) (m_leftOver : Int32) (m_playDoor : Int32) (m_playRing : Int32) (m_isOpen : Int32) (m_isOver : Int32) (m_wasTried : Int32) (m_hasPlayed : Int32) (a_feltNow : Nat) (a_last : Nat) (a_kept : Nat) (m_hasSeconds : Int32) (m_hasTurned : Int32) (m_hasRound : Int32) (a_hasFeels : Nat) (a_isOn : Nat) (m_firstAct : Int32) (m_meanTop : Int64) (m_meanBy : Int64) (a_order : Nat) (m_rowMany : Int32) (m_newSteps : Int32) (g_best : Nat → Int32) (k : Int32) (hr_m_orderMany : 0 ≤ m_orderMany.toInt ∧ m_orderMany.toInt ≤ 10) (hC_g_best : zRg 10 0 9 g_best) : zCi l yX12_isOrdered cX12_isOrdered 3 (some .boolean) ({ frames := 0, cells := 0, slots := 0, locals := 0 }) G cA [.ref h0, .int k] [(h0, .inr (12, [.int m_status, .int m_thrown, .long m_above, .long m_under, .ref a_traySort, .ref a_trayMany, .ref a_numbers, .ref a_tape, .int m_taped, .int m_textEnd, .int m_faultKind, .int m_faultAt, .int m_bad, .int m_badAt, .int m_token, .int m_at, .int m_behind, .int m_number, .int m_letters, .long m_word, .ref a_c, .ref a_words, .int m_markMany, .ref a_there, .ref a_tried, .ref a_best, .ref a_found, .int m_thereMany, .int m_foundMany, .int m_orderHow, .int m_orderRing, .int m_orderMany, .int m_hasBest, .long m_bestTop, .long m_bestBy, .ref a_weights, .ref a_shared, .int m_random, .int m_truePlace, .int m_trueWay, .int m_seconds, .int m_done, .int m_feelings, .int m_tries, .int m_leftOver, .int m_playDoor, .int m_playRing, .int m_isOpen, .int m_isOver, .int m_wasTried, .int m_hasPlayed, .ref a_feltNow, .ref a_last, .ref a_kept, .int m_hasSeconds, .int m_hasTurned, .int m_hasRound, .ref a_hasFeels, .ref a_isOn, .int m_firstAct, .long m_meanTop, .long m_meanBy, .ref a_order, .int m_rowMany, .int m_newSteps])), (a_best, .inl (cA.1 0, 10, .inl g_best))] (S := Unit) (fun (r : Int32) (u : Unit) => (r = 0 ∧ (zNt g_best k.toInt m_orderMany.toInt)) ∨ (r = 1 ∧ (zIt g_best k.toInt m_orderMany.toInt))) (fun (u : Unit) => [(h0, .inr (12, [.int m_status, .int m_thrown, .long m_above, .long m_under, .ref a_traySort, .ref a_trayMany, .ref a_numbers, .ref a_tape, .int m_taped, .int m_textEnd, .int m_faultKind, .int m_faultAt, .int m_bad, .int m_badAt, .int m_token, .int m_at, .int m_behind, .int m_number, .int m_letters, .long m_word, .ref a_c, .ref a_words, .int m_markMany, .ref a_there, .ref a_tried, .ref a_best, .ref a_found, .int m_thereMany, .int m_foundMany, .int m_orderHow, .int m_orderRing, .int m_orderMany, .int m_hasBest, .long m_bestTop, .long m_bestBy, .ref a_weights, .ref a_shared, .int m_random, .int m_truePlace, .int m_trueWay, .int m_seconds, .int m_done, .int m_feelings, .int m_tries, .int m_leftOver, .int m_playDoor, .int m_playRing, .int m_isOpen, .int m_isOver, .int m_wasTried, .int m_hasPlayed, .ref a_feltNow, .ref a_last, .ref a_kept, .int m_hasSeconds, .int m_hasTurned, .int m_hasRound, .ref a_hasFeels, .ref a_isOn, .int m_firstAct, .long m_meanTop, .long m_meanBy, .ref a_order, .int m_rowMany, .int m_newSteps])), (a_best, .inl (cA.1 0, 10, .inl g_best))]) 0 0 := by
  have hk_0 : (0 : Int32).toInt = 0 := by decide +kernel
  have hk_1 : (1 : Int32).toInt = 1 := by decide +kernel
  refine z_start2z (own := RX12) (by decide) (Nat.le_of_ble_eq_true rfl) rfl ?_
  intro p e s m args below meth c A ls Q hx hb hml hts hown hK hE hT hP hD hS hA hl hret
  have hl : lv_has ls 3 [(0, .ref h0), (1, .int k)] := hl
  refine lv_iconst (v := 0) hx hb dX12_isOrdered_0 (by decide) ?_
  refine lv_istore_n (lv' := [(2, .int 0), (0, .ref h0), (1, .int k)]) hx hb dX12_isOrdered_1 rfl hl (by decide) rfl (fun ls hl => ?_)
  have hlp_108 : ∀ (n : Nat) (v_98 : Int32) (H : Heap) (locs : List Loc) (ls : Array Slot), (2147483647 - v_98.toInt).toNat < n → (0 ≤ v_98.toInt ∧ v_98.toInt ≤ 10) → (zNt g_best k.toInt v_98.toInt) → va_P G vwCl [(h0, .inr (12, [.int m_status, .int m_thrown, .long m_above, .long m_under, .ref a_traySort, .ref a_trayMany, .ref a_numbers, .ref a_tape, .int m_taped, .int m_textEnd, .int m_faultKind, .int m_faultAt, .int m_bad, .int m_badAt, .int m_token, .int m_at, .int m_behind, .int m_number, .int m_letters, .long m_word, .ref a_c, .ref a_words, .int m_markMany, .ref a_there, .ref a_tried, .ref a_best, .ref a_found, .int m_thereMany, .int m_foundMany, .int m_orderHow, .int m_orderRing, .int m_orderMany, .int m_hasBest, .long m_bestTop, .long m_bestBy, .ref a_weights, .ref a_shared, .int m_random, .int m_truePlace, .int m_trueWay, .int m_seconds, .int m_done, .int m_feelings, .int m_tries, .int m_leftOver, .int m_playDoor, .int m_playRing, .int m_isOpen, .int m_isOver, .int m_wasTried, .int m_hasPlayed, .ref a_feltNow, .ref a_last, .ref a_kept, .int m_hasSeconds, .int m_hasTurned, .int m_hasRound, .ref a_hasFeels, .ref a_isOn, .int m_firstAct, .long m_meanTop, .long m_meanBy, .ref a_order, .int m_rowMany, .int m_newSteps])), (a_best, .inl (cA.1 0, 10, .inl g_best))] H → va_D A [(h0, .inr (12, [.int m_status, .int m_thrown, .long m_above, .long m_under, .ref a_traySort, .ref a_trayMany, .ref a_numbers, .ref a_tape, .int m_taped, .int m_textEnd, .int m_faultKind, .int m_faultAt, .int m_bad, .int m_badAt, .int m_token, .int m_at, .int m_behind, .int m_number, .int m_letters, .long m_word, .ref a_c, .ref a_words, .int m_markMany, .ref a_there, .ref a_tried, .ref a_best, .ref a_found, .int m_thereMany, .int m_foundMany, .int m_orderHow, .int m_orderRing, .int m_orderMany, .int m_hasBest, .long m_bestTop, .long m_bestBy, .ref a_weights, .ref a_shared, .int m_random, .int m_truePlace, .int m_trueWay, .int m_seconds, .int m_done, .int m_feelings, .int m_tries, .int m_leftOver, .int m_playDoor, .int m_playRing, .int m_isOpen, .int m_isOver, .int m_wasTried, .int m_hasPlayed, .ref a_feltNow, .ref a_last, .ref a_kept, .int m_hasSeconds, .int m_hasTurned, .int m_hasRound, .ref a_hasFeels, .ref a_isOn, .int m_firstAct, .long m_meanTop, .long m_meanBy, .ref a_order, .int m_rowMany, .int m_newSteps])), (a_best, .inl (cA.1 0, 10, .inl g_best))] → va_S A s.heap H locs → lv_has ls 3 [(0, .ref h0), (1, .int k), (2, .int v_98)] → W p l e ({ frames := 0, cells := 0, slots := 0, locals := 0 }) s m args below meth c H locs 0 0 Q (F0 m 2 ls []) := by
    intro n
    induction n with
    | zero =>
      intro v_98 H locs ls hmu_hlp_108 hr_v_98 hi_107 hP hD hS hl
      exact absurd hmu_hlp_108 (Nat.not_lt_zero _)
    | succ n ih_109 =>
      intro v_98 H locs ls hmu_hlp_108 hr_v_98 hi_107 hP hD hS hl
      refine lv_iload_n hx hb dX12_isOrdered_2 rfl (lv_at hl 2 rfl) ?_
      refine lv_aload_n hx hb dX12_isOrdered_3 rfl (lv_at hl 0 rfl) ?_
      refine va_get (D := G) (ci := 12) (v := .int m_orderMany) (C := RX12) (T := TX12) (N := 65) hx hb hts inT12 hown hK hP 0 rfl rfl 31 (by decide) (hts _ tw_1915) (fun _ h9 => h9) rfl dX12_isOrdered_4 ?_
      refine lv_icmp_ge (tgt := 28) hx hb dX12_isOrdered_7 (by decide) (fun c_110 => ?_) (fun c_110 => ?_)
      · have b_111 := z_fgeT c_110
        refine lv_iconst (v := 0) hx hb dX12_isOrdered_28 (by decide) ?_
        have hpost : ((0 : Int32) = 0 ∧ (zNt g_best k.toInt m_orderMany.toInt)) ∨ ((0 : Int32) = 1 ∧ (zIt g_best k.toInt m_orderMany.toInt)) := (Or.inl ⟨rfl, (zNt_end hi_107 (by omega))⟩)
        exact hret _ _ _ _ _ _ () [0, 1] hP hD hS rfl (by decide) dX12_isOrdered_29 (Or.inl rfl) hpost
      · have b_112 := z_fltF c_110
        refine lv_aload_n hx hb dX12_isOrdered_10 rfl (lv_at hl 0 rfl) ?_
        refine va_get (D := G) (ci := 12) (v := .ref a_best) (C := RX12) (T := TX12) (N := 65) hx hb hts inT12 hown hK hP 0 rfl rfl 25 (by decide) (hts _ tw_1910) (fun _ h9 => h9) rfl dX12_isOrdered_11 ?_
        refine lv_iload_n hx hb dX12_isOrdered_14 rfl (lv_at hl 2 rfl) ?_
        refine va_iald hx hb hK hP 1 0 rfl rfl (z_inN (by omega) (by omega)) dX12_isOrdered_15 ?_
        refine lv_topi (fun x_113 he_x_113 => ?_)
        have hr_x_113 := z_rg hC_g_best he_x_113 (by omega) (by omega)
        refine lv_iload_n hx hb dX12_isOrdered_16 rfl (lv_at hl 1 rfl) ?_
        refine lv_icmp_ne (tgt := 22) hx hb dX12_isOrdered_17 (by decide) (fun c_114 => ?_) (fun c_114 => ?_)
        · have b_115 := z_fneT c_114
          obtain ⟨x_116, he_x_116⟩ : ∃ z : Int32, z = v_98 + 1 := ⟨_, rfl⟩
          have hq_x_116 := z_addq he_x_116 (rfl : v_98.toInt = _) hk_1 (by omega) (by omega)
          refine lv_iinc (v := x_116) (lv' := [(2, .int x_116), (0, .ref h0), (1, .int k)]) hx hb dX12_isOrdered_22 hl (k := 2) rfl ((z_ofi (by decide +kernel)).trans he_x_116.symm) (by decide) rfl (fun ls hl => ?_)
          refine lv_goto (tgt := 2) hx hb dX12_isOrdered_25 (by decide) ?_
          exact ih_109 x_116 H locs ls (by omega) (by omega) (by rw [hq_x_116]; exact zNt_step hi_107 he_x_113 (by omega) (by omega) (by omega)) hP hD hS (lv_sub hl [1, 2, 0] rfl)
        · have b_117 := z_feqF c_114
          refine lv_iconst (v := 1) hx hb dX12_isOrdered_20 (by decide) ?_
          have hpost : ((1 : Int32) = 0 ∧ (zNt g_best k.toInt m_orderMany.toInt)) ∨ ((1 : Int32) = 1 ∧ (zIt g_best k.toInt m_orderMany.toInt)) := (Or.inr ⟨rfl, (zIt_of he_x_113 (rfl : v_98.toInt = _) (by omega) (by omega) (by omega))⟩)
          exact hret _ _ _ _ _ _ () [0, 1] hP hD hS rfl (by decide) dX12_isOrdered_21 (Or.inr rfl) hpost
  exact hlp_108 _ 0 _ _ _ (Nat.lt_succ_self _) (by decide +kernel) zNt_0 hP hD hS (lv_sub hl [1, 2, 0] rfl)
set_option maxHeartbeats 4000000 in
set_option maxRecDepth 100000 in
theorem r_judge (l : Launch) (G : va_G) (cA : zCA) (h0 : Nat) (m_status : Int32) (m_thrown : Int32) (m_above : Int64) (m_under : Int64) (a_traySort : Nat) (a_trayMany : Nat) (a_numbers : Nat) (a_tape : Nat) (m_taped : Int32) (m_textEnd : Int32) (m_faultKind : Int32) (m_faultAt : Int32) (m_bad : Int32) (m_badAt : Int32) (m_token : Int32) (m_at : Int32) (m_behind : Int32) (m_number : Int32) (m_letters : Int32) (m_word : Int64) (a_c : Nat) (a_words : Nat) (m_markMany : Int32) (a_there : Nat) (a_tried : Nat) (a_best : Nat) (a_found : Nat) (m_thereMany : Int32) (m_foundMany : Int32) (m_orderHow : Int32) (m_orderRing : Int32) (m_orderMany : Int32) (m_hasBest : Int32) (m_bestTop : Int64) (m_bestBy : Int64) (a_weights : Nat) (a_shared : Nat) (m_random : Int32) (m_truePlace : Int32) (m_trueWay : Int32) (m_seconds : Int32) (m_done : Int32) (m_feelings : Int32) (m_tries : Int32) (m_leftOver : Int32) (m_playDoor : Int32) (m_playRing : Int32) (m_isOpen : Int32) (m_isOver : Int32) (m_wasTried : Int32) (m_hasPlayed : Int32) (a_feltNow : Nat) (a_last : Nat) (a_kept : Nat) (m_hasSeconds : Int32) (m_hasTurned : Int32) (m_hasRound : Int32) (a_hasFeels : Nat) (a_isOn : Nat) (m_firstAct : Int32) (m_meanTop : Int64) (m_meanBy : Int64) (a_order : Nat) (m_rowMany : Int32) (m_newSteps : Int32) (g_c : Nat → Int32) (g_there : Nat → Int32) (g_tried : Nat → Int32) (g_order : Nat → Int32) (hr_m_thereMany : 0 ≤ m_thereMany.toInt ∧ m_thereMany.toInt ≤ 10) (hr_m_orderMany : 0 ≤ m_orderMany.toInt ∧ m_orderMany.toInt ≤ 10) (hr_m_orderHow : 0 ≤ m_orderHow.toInt ∧ m_orderHow.toInt ≤ 2) (hr_m_hasBest : 0 ≤ m_hasBest.toInt ∧ m_hasBest.toInt ≤ 1) (hz_m_hasBest : m_hasBest = 0 ∨ m_hasBest = 1) (hC_g_c : zC g_c) (hC_g_there : zRg 10 0 9 g_there) (hC_g_tried : zRg 10 0 9 g_tried) (hC_g_order : zRg 10 0 9 g_order) (hp_0 : m_thereMany.toInt = m_orderMany.toInt) (hp_1 : m_orderHow.toInt ≠ 2 → zMB g_c g_tried m_orderMany.toInt) (hp_2 : m_hasBest.toInt ≤ 0 ∨ 1 ≤ m_bestBy.toInt) : zCv l yX12_judge cX12_judge 2 none ({ frames := 4, cells := 0, slots := 0, locals := 97 }) G cA [.ref h0] [(h0, .inr (12, [.int m_status, .int m_thrown, .long m_above, .long m_under, .ref a_traySort, .ref a_trayMany, .ref a_numbers, .ref a_tape, .int m_taped, .int m_textEnd, .int m_faultKind, .int m_faultAt, .int m_bad, .int m_badAt, .int m_token, .int m_at, .int m_behind, .int m_number, .int m_letters, .long m_word, .ref a_c, .ref a_words, .int m_markMany, .ref a_there, .ref a_tried, .ref a_best, .ref a_found, .int m_thereMany, .int m_foundMany, .int m_orderHow, .int m_orderRing, .int m_orderMany, .int m_hasBest, .long m_bestTop, .long m_bestBy, .ref a_weights, .ref a_shared, .int m_random, .int m_truePlace, .int m_trueWay, .int m_seconds, .int m_done, .int m_feelings, .int m_tries, .int m_leftOver, .int m_playDoor, .int m_playRing, .int m_isOpen, .int m_isOver, .int m_wasTried, .int m_hasPlayed, .ref a_feltNow, .ref a_last, .ref a_kept, .int m_hasSeconds, .int m_hasTurned, .int m_hasRound, .ref a_hasFeels, .ref a_isOn, .int m_firstAct, .long m_meanTop, .long m_meanBy, .ref a_order, .int m_rowMany, .int m_newSteps])), (a_c, .inl (cA.1 0, 1825, .inl g_c)), (a_there, .inl (cA.1 0, 10, .inl g_there)), (a_tried, .inl (cA.1 0, 10, .inl g_tried)), (a_order, .inl (cA.1 0, 10, .inl g_order))] (S := Int32 × Int64 × Int64 × Int64 × Int64 × (Nat → Int32) × (Nat → Int32)) (fun (u : Int32 × Int64 × Int64 × Int64 × Int64 × (Nat → Int32) × (Nat → Int32)) => (u.1 = 0 ∨ u.1 = 1) ∧ (0 ≤ u.1.toInt ∧ u.1.toInt ≤ 1) ∧ (0 ≤ u.2.2.2.2.1.toInt ∧ u.2.2.2.2.1.toInt ≤ 79200) ∧ (zRg 10 0 9 u.2.2.2.2.2.1) ∧ (zRg 10 0 9 u.2.2.2.2.2.2) ∧ (u.1.toInt = 1 ∧ 1 ≤ u.2.2.1.toInt)) (fun (u : Int32 × Int64 × Int64 × Int64 × Int64 × (Nat → Int32) × (Nat → Int32)) => [(h0, .inr (12, [.int m_status, .int m_thrown, .long m_above, .long m_under, .ref a_traySort, .ref a_trayMany, .ref a_numbers, .ref a_tape, .int m_taped, .int m_textEnd, .int m_faultKind, .int m_faultAt, .int m_bad, .int m_badAt, .int m_token, .int m_at, .int m_behind, .int m_number, .int m_letters, .long m_word, .ref a_c, .ref a_words, .int m_markMany, .ref a_there, .ref a_tried, .ref a_best, .ref a_found, .int m_thereMany, .int m_foundMany, .int m_orderHow, .int m_orderRing, .int m_orderMany, .int u.1, .long u.2.1, .long u.2.2.1, .ref a_weights, .ref a_shared, .int m_random, .int m_truePlace, .int m_trueWay, .int m_seconds, .int m_done, .int m_feelings, .int m_tries, .int m_leftOver, .int m_playDoor, .int m_playRing, .int m_isOpen, .int m_isOver, .int m_wasTried, .int m_hasPlayed, .ref a_feltNow, .ref a_last, .ref a_kept, .int m_hasSeconds, .int m_hasTurned, .int m_hasRound, .ref a_hasFeels, .ref a_isOn, .int m_firstAct, .long u.2.2.2.1, .long u.2.2.2.2.1, .ref a_order, .int m_rowMany, .int m_newSteps])), (a_c, .inl (cA.1 0, 1825, .inl g_c)), (a_there, .inl (cA.1 0, 10, .inl u.2.2.2.2.2.1)), (a_tried, .inl (cA.1 0, 10, .inl g_tried)), (a_order, .inl (cA.1 0, 10, .inl u.2.2.2.2.2.2))]) 0 0 := by
  have hk_0 : (0 : Int32).toInt = 0 := by decide +kernel
  have hk_1 : (1 : Int32).toInt = 1 := by decide +kernel
  have hk_2 : (2 : Int32).toInt = 2 := by decide +kernel
  have hkl_1 : (1 : Int64).toInt = 1 := by decide +kernel
  refine z_start2v (own := RX12) (by decide) (Nat.le_of_ble_eq_true rfl) rfl ?_
  intro p e s m args below meth c A ls Q hx hb hml hts hown hK hE hT hP hD hS hA hl hret
  have hl : lv_has ls 2 [(0, .ref h0)] := hl
  refine lv_iconst (v := 0) hx hb dX12_judge_0 (by decide) ?_
  refine lv_istore_n (lv' := [(1, .int 0), (0, .ref h0)]) hx hb dX12_judge_1 rfl hl (by decide) rfl (fun ls hl => ?_)
  have hlp_95 : ∀ (n : Nat) (v_86 : Int32) (g_87 : Nat → Int32) (H : Heap) (locs : List Loc) (ls : Array Slot), (2147483647 - v_86.toInt).toNat < n → (0 ≤ v_86.toInt ∧ v_86.toInt ≤ 10) → (zRg 10 0 9 g_87) → (zEq g_87 g_tried v_86.toInt) → va_P G vwCl [(h0, .inr (12, [.int m_status, .int m_thrown, .long m_above, .long m_under, .ref a_traySort, .ref a_trayMany, .ref a_numbers, .ref a_tape, .int m_taped, .int m_textEnd, .int m_faultKind, .int m_faultAt, .int m_bad, .int m_badAt, .int m_token, .int m_at, .int m_behind, .int m_number, .int m_letters, .long m_word, .ref a_c, .ref a_words, .int m_markMany, .ref a_there, .ref a_tried, .ref a_best, .ref a_found, .int m_thereMany, .int m_foundMany, .int m_orderHow, .int m_orderRing, .int m_orderMany, .int m_hasBest, .long m_bestTop, .long m_bestBy, .ref a_weights, .ref a_shared, .int m_random, .int m_truePlace, .int m_trueWay, .int m_seconds, .int m_done, .int m_feelings, .int m_tries, .int m_leftOver, .int m_playDoor, .int m_playRing, .int m_isOpen, .int m_isOver, .int m_wasTried, .int m_hasPlayed, .ref a_feltNow, .ref a_last, .ref a_kept, .int m_hasSeconds, .int m_hasTurned, .int m_hasRound, .ref a_hasFeels, .ref a_isOn, .int m_firstAct, .long m_meanTop, .long m_meanBy, .ref a_order, .int m_rowMany, .int m_newSteps])), (a_c, .inl (cA.1 0, 1825, .inl g_c)), (a_there, .inl (cA.1 0, 10, .inl g_87)), (a_tried, .inl (cA.1 0, 10, .inl g_tried)), (a_order, .inl (cA.1 0, 10, .inl g_order))] H → va_D A [(h0, .inr (12, [.int m_status, .int m_thrown, .long m_above, .long m_under, .ref a_traySort, .ref a_trayMany, .ref a_numbers, .ref a_tape, .int m_taped, .int m_textEnd, .int m_faultKind, .int m_faultAt, .int m_bad, .int m_badAt, .int m_token, .int m_at, .int m_behind, .int m_number, .int m_letters, .long m_word, .ref a_c, .ref a_words, .int m_markMany, .ref a_there, .ref a_tried, .ref a_best, .ref a_found, .int m_thereMany, .int m_foundMany, .int m_orderHow, .int m_orderRing, .int m_orderMany, .int m_hasBest, .long m_bestTop, .long m_bestBy, .ref a_weights, .ref a_shared, .int m_random, .int m_truePlace, .int m_trueWay, .int m_seconds, .int m_done, .int m_feelings, .int m_tries, .int m_leftOver, .int m_playDoor, .int m_playRing, .int m_isOpen, .int m_isOver, .int m_wasTried, .int m_hasPlayed, .ref a_feltNow, .ref a_last, .ref a_kept, .int m_hasSeconds, .int m_hasTurned, .int m_hasRound, .ref a_hasFeels, .ref a_isOn, .int m_firstAct, .long m_meanTop, .long m_meanBy, .ref a_order, .int m_rowMany, .int m_newSteps])), (a_c, .inl (cA.1 0, 1825, .inl g_c)), (a_there, .inl (cA.1 0, 10, .inl g_87)), (a_tried, .inl (cA.1 0, 10, .inl g_tried)), (a_order, .inl (cA.1 0, 10, .inl g_order))] → va_S A s.heap H locs → lv_has ls 2 [(0, .ref h0), (1, .int v_86)] → W p l e ({ frames := 4, cells := 0, slots := 0, locals := 97 }) s m args below meth c H locs 0 0 Q (F0 m 2 ls []) := by
    intro n
    induction n with
    | zero =>
      intro v_86 g_87 H locs ls hmu_hlp_95 hr_v_86 hC_g_87 hi_94 hP hD hS hl
      exact absurd hmu_hlp_95 (Nat.not_lt_zero _)
    | succ n ih_96 =>
      intro v_86 g_87 H locs ls hmu_hlp_95 hr_v_86 hC_g_87 hi_94 hP hD hS hl
      refine lv_iload_n hx hb dX12_judge_2 rfl (lv_at hl 1 rfl) ?_
      refine lv_aload_n hx hb dX12_judge_3 rfl (lv_at hl 0 rfl) ?_
      refine va_get (D := G) (ci := 12) (v := .int m_orderMany) (C := RX12) (T := TX12) (N := 65) hx hb hts inT12 hown hK hP 0 rfl rfl 31 (by decide) (hts _ tw_1915) (fun _ h9 => h9) rfl dX12_judge_4 ?_
      refine lv_icmp_ge (tgt := 28) hx hb dX12_judge_7 (by decide) (fun c_97 => ?_) (fun c_97 => ?_)
      · have b_98 := z_fgeT c_97
        have hEq : zEq g_87 g_tried m_orderMany.toInt := zEq_less hi_94 (by omega)
        refine lv_aload_n hx hb dX12_judge_28 rfl (lv_at hl 0 rfl) ?_
        refine va_get (D := G) (ci := 12) (v := .int m_orderHow) (C := RX12) (T := TX12) (N := 65) hx hb hts inT12 hown hK hP 0 rfl rfl 29 (by decide) (hts _ tw_1914) (fun _ h9 => h9) rfl dX12_judge_29 ?_
        refine lv_iconst (v := 2) hx hb dX12_judge_32 (by decide) ?_
        refine lv_icmp_ne (tgt := 53) hx hb dX12_judge_33 (by decide) (fun c_99 => ?_) (fun c_99 => ?_)
        · have b_100 := z_fneT c_99
          refine lv_aload_n hx hb dX12_judge_53 rfl (lv_at hl 0 rfl) ?_
          refine va_get (D := G) (ci := 12) (v := .int m_orderHow) (C := RX12) (T := TX12) (N := 65) hx hb hts inT12 hown hK hP 0 rfl rfl 29 (by decide) (hts _ tw_1914) (fun _ h9 => h9) rfl dX12_judge_54 ?_
          refine lv_if_ne (tgt := 69) hx hb dX12_judge_57 (by decide) (fun c_101 => ?_) (fun c_101 => ?_)
          · have b_102 := z_fneT c_101
            refine lv_aload_n hx hb dX12_judge_69 rfl (lv_at hl 0 rfl) ?_
            refine z_callVv (As := []) (rest := []) (wr := [(a_tried, .inl (cA.1 0, 10, .inl g_tried)), (a_order, .inl (cA.1 0, 10, .inl g_order))]) ⟨hx, hb, hml, hown, hts⟩ hK hE hT hP hD hS hA (r_meanAnywhere l G cA h0 m_status m_thrown m_above m_under a_traySort a_trayMany a_numbers a_tape m_taped m_textEnd m_faultKind m_faultAt m_bad m_badAt m_token m_at m_behind m_number m_letters m_word a_c a_words m_markMany a_there a_tried a_best a_found m_thereMany m_foundMany m_orderHow m_orderRing m_orderMany m_hasBest m_bestTop m_bestBy a_weights a_shared m_random m_truePlace m_trueWay m_seconds m_done m_feelings m_tries m_leftOver m_playDoor m_playRing m_isOpen m_isOver m_wasTried m_hasPlayed a_feltNow a_last a_kept m_hasSeconds m_hasTurned m_hasRound a_hasFeels a_isOn m_firstAct m_meanTop m_meanBy a_order m_rowMany m_newSteps g_c g_87 hr_m_thereMany hC_g_c hC_g_87) lk_RX12_399 ⟨rfl, rfl⟩ ⟨Nat.le_of_ble_eq_true rfl, Nat.le_of_ble_eq_true rfl⟩ 12 rfl rfl rfl [0, 1, 2] [3, 4] rfl rfl (by decide) rfl hl.1 rfl (lv_room (Nat.le_of_ble_eq_true rfl)) dX12_judge_70 ⟨Nat.le_of_ble_eq_true rfl, Nat.le_of_ble_eq_true rfl⟩ (fun u_106 H locs hw hP hD hS => ?_)
            obtain ⟨n_103, n_104⟩ := u_106
            try dsimp only at hw
            obtain ⟨hr_n_104, hf_107⟩ := hw
            have hone : 1 ≤ n_104.toInt := hf_107 (by rw [hp_0]; exact zMB_eq hEq (hp_1 (by omega)))
            refine lv_aload_n hx hb dX12_judge_73 rfl (lv_at hl 0 rfl) ?_
            refine va_get (D := G) (ci := 12) (v := .int m_hasBest) (C := RX12) (T := TX12) (N := 65) hx hb hts inT12 hown hK hP 2 rfl rfl 32 (by decide) (hts _ tw_1916) (fun _ h9 => h9) rfl dX12_judge_74 ?_
            refine lv_if_eq (tgt := 103) hx hb dX12_judge_77 (by decide) (fun c_108 => ?_) (fun c_108 => ?_)
            · have b_109 := z_feqT c_108
              refine lv_aload_n hx hb dX12_judge_103 rfl (lv_at hl 0 rfl) ?_
              refine lv_iconst (v := 1) hx hb dX12_judge_104 (by decide) ?_
              refine va_put (D := G) (ci := 12) (v := .int 1) (ty := .boolean) (C := RX12) (T := TX12) (N := 65) hx hb hts inT12 tyX12 tyX12_ok nmX12 hown hK hP hD hS 2 rfl rfl 32 (by decide) (hts _ tw_1916) (fun _ h9 => h9) rfl (tyX12_ok 32 (by decide)) rfl rfl (Nat.le_of_ble_eq_true rfl) dX12_judge_105 (fun H locs hP hD hS => ?_)
              refine lv_aload_n hx hb dX12_judge_108 rfl (lv_at hl 0 rfl) ?_
              refine lv_aload_n hx hb dX12_judge_109 rfl (lv_at hl 0 rfl) ?_
              refine va_get (D := G) (ci := 12) (v := .long n_103) (C := RX12) (T := TX12) (N := 65) hx hb hts inT12 hown hK hP 2 rfl rfl 60 (by decide) (hts _ tw_1943) (fun _ h9 => h9) rfl dX12_judge_110 ?_
              refine va_put (D := G) (ci := 12) (v := .long n_103) (ty := .long) (C := RX12) (T := TX12) (N := 65) hx hb hts inT12 tyX12 tyX12_ok nmX12 hown hK hP hD hS 2 rfl rfl 33 (by decide) (hts _ tw_1917) (fun _ h9 => h9) rfl (tyX12_ok 33 (by decide)) rfl rfl (Nat.le_of_ble_eq_true rfl) dX12_judge_113 (fun H locs hP hD hS => ?_)
              refine lv_aload_n hx hb dX12_judge_116 rfl (lv_at hl 0 rfl) ?_
              refine lv_aload_n hx hb dX12_judge_117 rfl (lv_at hl 0 rfl) ?_
              refine va_get (D := G) (ci := 12) (v := .long n_104) (C := RX12) (T := TX12) (N := 65) hx hb hts inT12 hown hK hP 2 rfl rfl 61 (by decide) (hts _ tw_1944) (fun _ h9 => h9) rfl dX12_judge_118 ?_
              refine va_put (D := G) (ci := 12) (v := .long n_104) (ty := .long) (C := RX12) (T := TX12) (N := 65) hx hb hts inT12 tyX12 tyX12_ok nmX12 hown hK hP hD hS 2 rfl rfl 34 (by decide) (hts _ tw_1918) (fun _ h9 => h9) rfl (tyX12_ok 34 (by decide)) rfl rfl (Nat.le_of_ble_eq_true rfl) dX12_judge_121 (fun H locs hP hD hS => ?_)
              refine lv_iconst (v := 0) hx hb dX12_judge_124 (by decide) ?_
              refine lv_istore_n (lv' := [(1, .int 0), (0, .ref h0)]) hx hb dX12_judge_125 rfl hl (by decide) rfl (fun ls hl => ?_)
              have hlp_203 : ∀ (n : Nat) (v_195 : Int32) (g_196 : Nat → Int32) (H : Heap) (locs : List Loc) (ls : Array Slot), (2147483647 - v_195.toInt).toNat < n → (0 ≤ v_195.toInt ∧ v_195.toInt ≤ 10) → (zRg 10 0 9 g_196) → va_P G vwCl [(a_tried, .inl (cA.1 0, 10, .inl g_tried)), (a_order, .inl (cA.1 0, 10, .inl g_196)), (h0, .inr (12, [.int m_status, .int m_thrown, .long m_above, .long m_under, .ref a_traySort, .ref a_trayMany, .ref a_numbers, .ref a_tape, .int m_taped, .int m_textEnd, .int m_faultKind, .int m_faultAt, .int m_bad, .int m_badAt, .int m_token, .int m_at, .int m_behind, .int m_number, .int m_letters, .long m_word, .ref a_c, .ref a_words, .int m_markMany, .ref a_there, .ref a_tried, .ref a_best, .ref a_found, .int m_thereMany, .int m_foundMany, .int m_orderHow, .int m_orderRing, .int m_orderMany, .int 1, .long n_103, .long n_104, .ref a_weights, .ref a_shared, .int m_random, .int m_truePlace, .int m_trueWay, .int m_seconds, .int m_done, .int m_feelings, .int m_tries, .int m_leftOver, .int m_playDoor, .int m_playRing, .int m_isOpen, .int m_isOver, .int m_wasTried, .int m_hasPlayed, .ref a_feltNow, .ref a_last, .ref a_kept, .int m_hasSeconds, .int m_hasTurned, .int m_hasRound, .ref a_hasFeels, .ref a_isOn, .int m_firstAct, .long n_103, .long n_104, .ref a_order, .int m_rowMany, .int m_newSteps])), (a_c, .inl (cA.1 0, 1825, .inl g_c)), (a_there, .inl (cA.1 0, 10, .inl g_87))] H → va_D A [(a_tried, .inl (cA.1 0, 10, .inl g_tried)), (a_order, .inl (cA.1 0, 10, .inl g_196)), (h0, .inr (12, [.int m_status, .int m_thrown, .long m_above, .long m_under, .ref a_traySort, .ref a_trayMany, .ref a_numbers, .ref a_tape, .int m_taped, .int m_textEnd, .int m_faultKind, .int m_faultAt, .int m_bad, .int m_badAt, .int m_token, .int m_at, .int m_behind, .int m_number, .int m_letters, .long m_word, .ref a_c, .ref a_words, .int m_markMany, .ref a_there, .ref a_tried, .ref a_best, .ref a_found, .int m_thereMany, .int m_foundMany, .int m_orderHow, .int m_orderRing, .int m_orderMany, .int 1, .long n_103, .long n_104, .ref a_weights, .ref a_shared, .int m_random, .int m_truePlace, .int m_trueWay, .int m_seconds, .int m_done, .int m_feelings, .int m_tries, .int m_leftOver, .int m_playDoor, .int m_playRing, .int m_isOpen, .int m_isOver, .int m_wasTried, .int m_hasPlayed, .ref a_feltNow, .ref a_last, .ref a_kept, .int m_hasSeconds, .int m_hasTurned, .int m_hasRound, .ref a_hasFeels, .ref a_isOn, .int m_firstAct, .long n_103, .long n_104, .ref a_order, .int m_rowMany, .int m_newSteps])), (a_c, .inl (cA.1 0, 1825, .inl g_c)), (a_there, .inl (cA.1 0, 10, .inl g_87))] → va_S A s.heap H locs → lv_has ls 2 [(0, .ref h0), (1, .int v_195)] → W p l e ({ frames := 4, cells := 0, slots := 0, locals := 97 }) s m args below meth c H locs 0 0 Q (F0 m 126 ls []) := by
                intro n
                induction n with
                | zero =>
                  intro v_195 g_196 H locs ls hmu_hlp_203 hr_v_195 hC_g_196 hP hD hS hl
                  exact absurd hmu_hlp_203 (Nat.not_lt_zero _)
                | succ n ih_204 =>
                  intro v_195 g_196 H locs ls hmu_hlp_203 hr_v_195 hC_g_196 hP hD hS hl
                  refine lv_iload_n hx hb dX12_judge_126 rfl (lv_at hl 1 rfl) ?_
                  refine lv_aload_n hx hb dX12_judge_127 rfl (lv_at hl 0 rfl) ?_
                  refine va_get (D := G) (ci := 12) (v := .int m_orderMany) (C := RX12) (T := TX12) (N := 65) hx hb hts inT12 hown hK hP 2 rfl rfl 31 (by decide) (hts _ tw_1915) (fun _ h9 => h9) rfl dX12_judge_128 ?_
                  refine lv_icmp_ge (tgt := 152) hx hb dX12_judge_131 (by decide) (fun c_205 => ?_) (fun c_205 => ?_)
                  · have b_206 := z_fgeT c_205
                    have hpost : ((1 : Int32) = 0 ∨ (1 : Int32) = 1) ∧ (0 ≤ (1 : Int32).toInt ∧ (1 : Int32).toInt ≤ 1) ∧ (0 ≤ n_104.toInt ∧ n_104.toInt ≤ 79200) ∧ (zRg 10 0 9 g_87) ∧ (zRg 10 0 9 g_196) ∧ ((1 : Int32).toInt = 1 ∧ 1 ≤ n_104.toInt) := ⟨(Or.inr rfl), (by decide +kernel), hr_n_104, hC_g_87, hC_g_196, (by omega)⟩
                    exact hret _ _ _ _ _ (1, n_103, n_104, n_103, n_104, g_87, g_196) [2, 3, 4, 0, 1] hP hD hS rfl (by decide) dX12_judge_152 hpost
                  · have b_207 := z_fltF c_205
                    refine lv_aload_n hx hb dX12_judge_134 rfl (lv_at hl 0 rfl) ?_
                    refine va_get (D := G) (ci := 12) (v := .ref a_order) (C := RX12) (T := TX12) (N := 65) hx hb hts inT12 hown hK hP 2 rfl rfl 62 (by decide) (hts _ tw_1945) (fun _ h9 => h9) rfl dX12_judge_135 ?_
                    refine lv_iload_n hx hb dX12_judge_138 rfl (lv_at hl 1 rfl) ?_
                    refine lv_aload_n hx hb dX12_judge_139 rfl (lv_at hl 0 rfl) ?_
                    refine va_get (D := G) (ci := 12) (v := .ref a_tried) (C := RX12) (T := TX12) (N := 65) hx hb hts inT12 hown hK hP 2 rfl rfl 24 (by decide) (hts _ tw_1909) (fun _ h9 => h9) rfl dX12_judge_140 ?_
                    refine lv_iload_n hx hb dX12_judge_143 rfl (lv_at hl 1 rfl) ?_
                    refine va_iald hx hb hK hP 0 0 rfl rfl (z_inN (by omega) (by omega)) dX12_judge_144 ?_
                    refine lv_topi (fun x_208 he_x_208 => ?_)
                    have hr_x_208 := z_rg hC_g_tried he_x_208 (by omega) (by omega)
                    refine z_iast hx hb hK hP hD hS 1 0 rfl rfl (z_inN (by omega) (by omega)) dX12_judge_145 (fun g_209 hg_g_209 H locs hP hD hS => ?_)
                    have hC_g_209 := z_rgU hC_g_196 hg_g_209 (by omega)
                    obtain ⟨x_210, he_x_210⟩ : ∃ z : Int32, z = v_195 + 1 := ⟨_, rfl⟩
                    have hq_x_210 := z_addq he_x_210 (rfl : v_195.toInt = _) hk_1 (by omega) (by omega)
                    refine lv_iinc (v := x_210) (lv' := [(1, .int x_210), (0, .ref h0)]) hx hb dX12_judge_146 hl (k := 1) rfl ((z_ofi (by decide +kernel)).trans he_x_210.symm) (by decide) rfl (fun ls hl => ?_)
                    refine lv_goto (tgt := 126) hx hb dX12_judge_149 (by decide) ?_
                    exact ih_204 x_210 g_209 H locs ls (by omega) (by omega) hC_g_209 hP hD hS (lv_sub hl [1, 0] rfl)
              exact hlp_203 _ 0 g_order _ _ _ (Nat.lt_succ_self _) (by decide +kernel) hC_g_order hP hD hS (lv_sub hl [1, 0] rfl)
            · have b_211 := z_fneF c_108
              refine lv_aload_n hx hb dX12_judge_80 rfl (lv_at hl 0 rfl) ?_
              refine va_get (D := G) (ci := 12) (v := .long n_103) (C := RX12) (T := TX12) (N := 65) hx hb hts inT12 hown hK hP 2 rfl rfl 60 (by decide) (hts _ tw_1943) (fun _ h9 => h9) rfl dX12_judge_81 ?_
              refine lv_aload_n hx hb dX12_judge_84 rfl (lv_at hl 0 rfl) ?_
              refine va_get (D := G) (ci := 12) (v := .long m_bestBy) (C := RX12) (T := TX12) (N := 65) hx hb hts inT12 hown hK hP 2 rfl rfl 34 (by decide) (hts _ tw_1918) (fun _ h9 => h9) rfl dX12_judge_85 ?_
              refine lv_lmul hx hb dX12_judge_88 ?_
              have hL_n_103 := z_fulll n_103
              have hL_m_bestBy := z_fulll m_bestBy
              refine lv_topl (fun x_212 he_x_212 => ?_)
              refine lv_aload_n hx hb dX12_judge_89 rfl (lv_at hl 0 rfl) ?_
              refine va_get (D := G) (ci := 12) (v := .long m_bestTop) (C := RX12) (T := TX12) (N := 65) hx hb hts inT12 hown hK hP 2 rfl rfl 33 (by decide) (hts _ tw_1917) (fun _ h9 => h9) rfl dX12_judge_90 ?_
              refine lv_aload_n hx hb dX12_judge_93 rfl (lv_at hl 0 rfl) ?_
              refine va_get (D := G) (ci := 12) (v := .long n_104) (C := RX12) (T := TX12) (N := 65) hx hb hts inT12 hown hK hP 2 rfl rfl 61 (by decide) (hts _ tw_1944) (fun _ h9 => h9) rfl dX12_judge_94 ?_
              refine lv_lmul hx hb dX12_judge_97 ?_
              have hL_m_bestTop := z_fulll m_bestTop
              refine lv_topl (fun x_213 he_x_213 => ?_)
              refine W.lcmp hx hb dX12_judge_98 ?_
              refine lv_if_lt (tgt := 103) hx hb dX12_judge_99 (by decide) (fun c_214 => ?_) (fun c_214 => ?_)
              · have b_215 := z_fltTl c_214
                refine lv_aload_n hx hb dX12_judge_103 rfl (lv_at hl 0 rfl) ?_
                refine lv_iconst (v := 1) hx hb dX12_judge_104 (by decide) ?_
                refine va_put (D := G) (ci := 12) (v := .int 1) (ty := .boolean) (C := RX12) (T := TX12) (N := 65) hx hb hts inT12 tyX12 tyX12_ok nmX12 hown hK hP hD hS 2 rfl rfl 32 (by decide) (hts _ tw_1916) (fun _ h9 => h9) rfl (tyX12_ok 32 (by decide)) rfl rfl (Nat.le_of_ble_eq_true rfl) dX12_judge_105 (fun H locs hP hD hS => ?_)
                refine lv_aload_n hx hb dX12_judge_108 rfl (lv_at hl 0 rfl) ?_
                refine lv_aload_n hx hb dX12_judge_109 rfl (lv_at hl 0 rfl) ?_
                refine va_get (D := G) (ci := 12) (v := .long n_103) (C := RX12) (T := TX12) (N := 65) hx hb hts inT12 hown hK hP 2 rfl rfl 60 (by decide) (hts _ tw_1943) (fun _ h9 => h9) rfl dX12_judge_110 ?_
                refine va_put (D := G) (ci := 12) (v := .long n_103) (ty := .long) (C := RX12) (T := TX12) (N := 65) hx hb hts inT12 tyX12 tyX12_ok nmX12 hown hK hP hD hS 2 rfl rfl 33 (by decide) (hts _ tw_1917) (fun _ h9 => h9) rfl (tyX12_ok 33 (by decide)) rfl rfl (Nat.le_of_ble_eq_true rfl) dX12_judge_113 (fun H locs hP hD hS => ?_)
                refine lv_aload_n hx hb dX12_judge_116 rfl (lv_at hl 0 rfl) ?_
                refine lv_aload_n hx hb dX12_judge_117 rfl (lv_at hl 0 rfl) ?_
                refine va_get (D := G) (ci := 12) (v := .long n_104) (C := RX12) (T := TX12) (N := 65) hx hb hts inT12 hown hK hP 2 rfl rfl 61 (by decide) (hts _ tw_1944) (fun _ h9 => h9) rfl dX12_judge_118 ?_
                refine va_put (D := G) (ci := 12) (v := .long n_104) (ty := .long) (C := RX12) (T := TX12) (N := 65) hx hb hts inT12 tyX12 tyX12_ok nmX12 hown hK hP hD hS 2 rfl rfl 34 (by decide) (hts _ tw_1918) (fun _ h9 => h9) rfl (tyX12_ok 34 (by decide)) rfl rfl (Nat.le_of_ble_eq_true rfl) dX12_judge_121 (fun H locs hP hD hS => ?_)
                refine lv_iconst (v := 0) hx hb dX12_judge_124 (by decide) ?_
                refine lv_istore_n (lv' := [(1, .int 0), (0, .ref h0)]) hx hb dX12_judge_125 rfl hl (by decide) rfl (fun ls hl => ?_)
                have hlp_309 : ∀ (n : Nat) (v_301 : Int32) (g_302 : Nat → Int32) (H : Heap) (locs : List Loc) (ls : Array Slot), (2147483647 - v_301.toInt).toNat < n → (0 ≤ v_301.toInt ∧ v_301.toInt ≤ 10) → (zRg 10 0 9 g_302) → va_P G vwCl [(a_tried, .inl (cA.1 0, 10, .inl g_tried)), (a_order, .inl (cA.1 0, 10, .inl g_302)), (h0, .inr (12, [.int m_status, .int m_thrown, .long m_above, .long m_under, .ref a_traySort, .ref a_trayMany, .ref a_numbers, .ref a_tape, .int m_taped, .int m_textEnd, .int m_faultKind, .int m_faultAt, .int m_bad, .int m_badAt, .int m_token, .int m_at, .int m_behind, .int m_number, .int m_letters, .long m_word, .ref a_c, .ref a_words, .int m_markMany, .ref a_there, .ref a_tried, .ref a_best, .ref a_found, .int m_thereMany, .int m_foundMany, .int m_orderHow, .int m_orderRing, .int m_orderMany, .int 1, .long n_103, .long n_104, .ref a_weights, .ref a_shared, .int m_random, .int m_truePlace, .int m_trueWay, .int m_seconds, .int m_done, .int m_feelings, .int m_tries, .int m_leftOver, .int m_playDoor, .int m_playRing, .int m_isOpen, .int m_isOver, .int m_wasTried, .int m_hasPlayed, .ref a_feltNow, .ref a_last, .ref a_kept, .int m_hasSeconds, .int m_hasTurned, .int m_hasRound, .ref a_hasFeels, .ref a_isOn, .int m_firstAct, .long n_103, .long n_104, .ref a_order, .int m_rowMany, .int m_newSteps])), (a_c, .inl (cA.1 0, 1825, .inl g_c)), (a_there, .inl (cA.1 0, 10, .inl g_87))] H → va_D A [(a_tried, .inl (cA.1 0, 10, .inl g_tried)), (a_order, .inl (cA.1 0, 10, .inl g_302)), (h0, .inr (12, [.int m_status, .int m_thrown, .long m_above, .long m_under, .ref a_traySort, .ref a_trayMany, .ref a_numbers, .ref a_tape, .int m_taped, .int m_textEnd, .int m_faultKind, .int m_faultAt, .int m_bad, .int m_badAt, .int m_token, .int m_at, .int m_behind, .int m_number, .int m_letters, .long m_word, .ref a_c, .ref a_words, .int m_markMany, .ref a_there, .ref a_tried, .ref a_best, .ref a_found, .int m_thereMany, .int m_foundMany, .int m_orderHow, .int m_orderRing, .int m_orderMany, .int 1, .long n_103, .long n_104, .ref a_weights, .ref a_shared, .int m_random, .int m_truePlace, .int m_trueWay, .int m_seconds, .int m_done, .int m_feelings, .int m_tries, .int m_leftOver, .int m_playDoor, .int m_playRing, .int m_isOpen, .int m_isOver, .int m_wasTried, .int m_hasPlayed, .ref a_feltNow, .ref a_last, .ref a_kept, .int m_hasSeconds, .int m_hasTurned, .int m_hasRound, .ref a_hasFeels, .ref a_isOn, .int m_firstAct, .long n_103, .long n_104, .ref a_order, .int m_rowMany, .int m_newSteps])), (a_c, .inl (cA.1 0, 1825, .inl g_c)), (a_there, .inl (cA.1 0, 10, .inl g_87))] → va_S A s.heap H locs → lv_has ls 2 [(0, .ref h0), (1, .int v_301)] → W p l e ({ frames := 4, cells := 0, slots := 0, locals := 97 }) s m args below meth c H locs 0 0 Q (F0 m 126 ls []) := by
                  intro n
                  induction n with
                  | zero =>
                    intro v_301 g_302 H locs ls hmu_hlp_309 hr_v_301 hC_g_302 hP hD hS hl
                    exact absurd hmu_hlp_309 (Nat.not_lt_zero _)
                  | succ n ih_310 =>
                    intro v_301 g_302 H locs ls hmu_hlp_309 hr_v_301 hC_g_302 hP hD hS hl
                    refine lv_iload_n hx hb dX12_judge_126 rfl (lv_at hl 1 rfl) ?_
                    refine lv_aload_n hx hb dX12_judge_127 rfl (lv_at hl 0 rfl) ?_
                    refine va_get (D := G) (ci := 12) (v := .int m_orderMany) (C := RX12) (T := TX12) (N := 65) hx hb hts inT12 hown hK hP 2 rfl rfl 31 (by decide) (hts _ tw_1915) (fun _ h9 => h9) rfl dX12_judge_128 ?_
                    refine lv_icmp_ge (tgt := 152) hx hb dX12_judge_131 (by decide) (fun c_311 => ?_) (fun c_311 => ?_)
                    · have b_312 := z_fgeT c_311
                      have hpost : ((1 : Int32) = 0 ∨ (1 : Int32) = 1) ∧ (0 ≤ (1 : Int32).toInt ∧ (1 : Int32).toInt ≤ 1) ∧ (0 ≤ n_104.toInt ∧ n_104.toInt ≤ 79200) ∧ (zRg 10 0 9 g_87) ∧ (zRg 10 0 9 g_302) ∧ ((1 : Int32).toInt = 1 ∧ 1 ≤ n_104.toInt) := ⟨(Or.inr rfl), (by decide +kernel), hr_n_104, hC_g_87, hC_g_302, (by omega)⟩
                      exact hret _ _ _ _ _ (1, n_103, n_104, n_103, n_104, g_87, g_302) [2, 3, 4, 0, 1] hP hD hS rfl (by decide) dX12_judge_152 hpost
                    · have b_313 := z_fltF c_311
                      refine lv_aload_n hx hb dX12_judge_134 rfl (lv_at hl 0 rfl) ?_
                      refine va_get (D := G) (ci := 12) (v := .ref a_order) (C := RX12) (T := TX12) (N := 65) hx hb hts inT12 hown hK hP 2 rfl rfl 62 (by decide) (hts _ tw_1945) (fun _ h9 => h9) rfl dX12_judge_135 ?_
                      refine lv_iload_n hx hb dX12_judge_138 rfl (lv_at hl 1 rfl) ?_
                      refine lv_aload_n hx hb dX12_judge_139 rfl (lv_at hl 0 rfl) ?_
                      refine va_get (D := G) (ci := 12) (v := .ref a_tried) (C := RX12) (T := TX12) (N := 65) hx hb hts inT12 hown hK hP 2 rfl rfl 24 (by decide) (hts _ tw_1909) (fun _ h9 => h9) rfl dX12_judge_140 ?_
                      refine lv_iload_n hx hb dX12_judge_143 rfl (lv_at hl 1 rfl) ?_
                      refine va_iald hx hb hK hP 0 0 rfl rfl (z_inN (by omega) (by omega)) dX12_judge_144 ?_
                      refine lv_topi (fun x_314 he_x_314 => ?_)
                      have hr_x_314 := z_rg hC_g_tried he_x_314 (by omega) (by omega)
                      refine z_iast hx hb hK hP hD hS 1 0 rfl rfl (z_inN (by omega) (by omega)) dX12_judge_145 (fun g_315 hg_g_315 H locs hP hD hS => ?_)
                      have hC_g_315 := z_rgU hC_g_302 hg_g_315 (by omega)
                      obtain ⟨x_316, he_x_316⟩ : ∃ z : Int32, z = v_301 + 1 := ⟨_, rfl⟩
                      have hq_x_316 := z_addq he_x_316 (rfl : v_301.toInt = _) hk_1 (by omega) (by omega)
                      refine lv_iinc (v := x_316) (lv' := [(1, .int x_316), (0, .ref h0)]) hx hb dX12_judge_146 hl (k := 1) rfl ((z_ofi (by decide +kernel)).trans he_x_316.symm) (by decide) rfl (fun ls hl => ?_)
                      refine lv_goto (tgt := 126) hx hb dX12_judge_149 (by decide) ?_
                      exact ih_310 x_316 g_315 H locs ls (by omega) (by omega) hC_g_315 hP hD hS (lv_sub hl [1, 0] rfl)
                exact hlp_309 _ 0 g_order _ _ _ (Nat.lt_succ_self _) (by decide +kernel) hC_g_order hP hD hS (lv_sub hl [1, 0] rfl)
              · have b_317 := z_fgeFl c_214
                have hpost : (m_hasBest = 0 ∨ m_hasBest = 1) ∧ (0 ≤ m_hasBest.toInt ∧ m_hasBest.toInt ≤ 1) ∧ (0 ≤ n_104.toInt ∧ n_104.toInt ≤ 79200) ∧ (zRg 10 0 9 g_87) ∧ (zRg 10 0 9 g_order) ∧ (m_hasBest.toInt = 1 ∧ 1 ≤ m_bestBy.toInt) := ⟨hz_m_hasBest, hr_m_hasBest, hr_n_104, hC_g_87, hC_g_order, (by omega)⟩
                exact hret _ _ _ _ _ (m_hasBest, m_bestTop, m_bestBy, n_103, n_104, g_87, g_order) [2, 3, 4, 0, 1] hP hD hS rfl (by decide) dX12_judge_102 hpost
          · have b_318 := z_feqF c_101
            refine lv_aload_n hx hb dX12_judge_60 rfl (lv_at hl 0 rfl) ?_
            refine lv_iconst (v := 0) hx hb dX12_judge_61 (by decide) ?_
            refine lv_iconst (v := 0) hx hb dX12_judge_62 (by decide) ?_
            refine z_callVv (As := [.int 0, .int 0]) (rest := []) (wr := [(a_tried, .inl (cA.1 0, 10, .inl g_tried)), (a_order, .inl (cA.1 0, 10, .inl g_order))]) ⟨hx, hb, hml, hown, hts⟩ hK hE hT hP hD hS hA (r_meanFrom l G cA h0 m_status m_thrown m_above m_under a_traySort a_trayMany a_numbers a_tape m_taped m_textEnd m_faultKind m_faultAt m_bad m_badAt m_token m_at m_behind m_number m_letters m_word a_c a_words m_markMany a_there a_tried a_best a_found m_thereMany m_foundMany m_orderHow m_orderRing m_orderMany m_hasBest m_bestTop m_bestBy a_weights a_shared m_random m_truePlace m_trueWay m_seconds m_done m_feelings m_tries m_leftOver m_playDoor m_playRing m_isOpen m_isOver m_wasTried m_hasPlayed a_feltNow a_last a_kept m_hasSeconds m_hasTurned m_hasRound a_hasFeels a_isOn m_firstAct m_meanTop m_meanBy a_order m_rowMany m_newSteps g_c g_87 0 0 (by decide +kernel) (by decide +kernel) hr_m_thereMany hC_g_c hC_g_87 (by omega)) lk_RX12_396 ⟨rfl, rfl⟩ ⟨Nat.le_of_ble_eq_true rfl, Nat.le_of_ble_eq_true rfl⟩ 12 rfl rfl rfl [0, 1, 2] [3, 4] rfl rfl (by decide) rfl hl.1 rfl (lv_room (Nat.le_of_ble_eq_true rfl)) dX12_judge_63 ⟨Nat.le_of_ble_eq_true rfl, Nat.le_of_ble_eq_true rfl⟩ (fun u_322 H locs hw hP hD hS => ?_)
            obtain ⟨n_319, n_320⟩ := u_322
            try dsimp only at hw
            obtain ⟨hr_n_320, hf_323⟩ := hw
            have hone : 1 ≤ n_320.toInt := (hf_323).elim (fun h => h.1) (fun h => absurd (by rw [hp_0]; exact zMB_eq hEq (hp_1 (by omega))) h.2)
            refine lv_goto (tgt := 73) hx hb dX12_judge_66 (by decide) ?_
            refine lv_aload_n hx hb dX12_judge_73 rfl (lv_at hl 0 rfl) ?_
            refine va_get (D := G) (ci := 12) (v := .int m_hasBest) (C := RX12) (T := TX12) (N := 65) hx hb hts inT12 hown hK hP 2 rfl rfl 32 (by decide) (hts _ tw_1916) (fun _ h9 => h9) rfl dX12_judge_74 ?_
            refine lv_if_eq (tgt := 103) hx hb dX12_judge_77 (by decide) (fun c_324 => ?_) (fun c_324 => ?_)
            · have b_325 := z_feqT c_324
              refine lv_aload_n hx hb dX12_judge_103 rfl (lv_at hl 0 rfl) ?_
              refine lv_iconst (v := 1) hx hb dX12_judge_104 (by decide) ?_
              refine va_put (D := G) (ci := 12) (v := .int 1) (ty := .boolean) (C := RX12) (T := TX12) (N := 65) hx hb hts inT12 tyX12 tyX12_ok nmX12 hown hK hP hD hS 2 rfl rfl 32 (by decide) (hts _ tw_1916) (fun _ h9 => h9) rfl (tyX12_ok 32 (by decide)) rfl rfl (Nat.le_of_ble_eq_true rfl) dX12_judge_105 (fun H locs hP hD hS => ?_)
              refine lv_aload_n hx hb dX12_judge_108 rfl (lv_at hl 0 rfl) ?_
              refine lv_aload_n hx hb dX12_judge_109 rfl (lv_at hl 0 rfl) ?_
              refine va_get (D := G) (ci := 12) (v := .long n_319) (C := RX12) (T := TX12) (N := 65) hx hb hts inT12 hown hK hP 2 rfl rfl 60 (by decide) (hts _ tw_1943) (fun _ h9 => h9) rfl dX12_judge_110 ?_
              refine va_put (D := G) (ci := 12) (v := .long n_319) (ty := .long) (C := RX12) (T := TX12) (N := 65) hx hb hts inT12 tyX12 tyX12_ok nmX12 hown hK hP hD hS 2 rfl rfl 33 (by decide) (hts _ tw_1917) (fun _ h9 => h9) rfl (tyX12_ok 33 (by decide)) rfl rfl (Nat.le_of_ble_eq_true rfl) dX12_judge_113 (fun H locs hP hD hS => ?_)
              refine lv_aload_n hx hb dX12_judge_116 rfl (lv_at hl 0 rfl) ?_
              refine lv_aload_n hx hb dX12_judge_117 rfl (lv_at hl 0 rfl) ?_
              refine va_get (D := G) (ci := 12) (v := .long n_320) (C := RX12) (T := TX12) (N := 65) hx hb hts inT12 hown hK hP 2 rfl rfl 61 (by decide) (hts _ tw_1944) (fun _ h9 => h9) rfl dX12_judge_118 ?_
              refine va_put (D := G) (ci := 12) (v := .long n_320) (ty := .long) (C := RX12) (T := TX12) (N := 65) hx hb hts inT12 tyX12 tyX12_ok nmX12 hown hK hP hD hS 2 rfl rfl 34 (by decide) (hts _ tw_1918) (fun _ h9 => h9) rfl (tyX12_ok 34 (by decide)) rfl rfl (Nat.le_of_ble_eq_true rfl) dX12_judge_121 (fun H locs hP hD hS => ?_)
              refine lv_iconst (v := 0) hx hb dX12_judge_124 (by decide) ?_
              refine lv_istore_n (lv' := [(1, .int 0), (0, .ref h0)]) hx hb dX12_judge_125 rfl hl (by decide) rfl (fun ls hl => ?_)
              have hlp_419 : ∀ (n : Nat) (v_411 : Int32) (g_412 : Nat → Int32) (H : Heap) (locs : List Loc) (ls : Array Slot), (2147483647 - v_411.toInt).toNat < n → (0 ≤ v_411.toInt ∧ v_411.toInt ≤ 10) → (zRg 10 0 9 g_412) → va_P G vwCl [(a_tried, .inl (cA.1 0, 10, .inl g_tried)), (a_order, .inl (cA.1 0, 10, .inl g_412)), (h0, .inr (12, [.int m_status, .int m_thrown, .long m_above, .long m_under, .ref a_traySort, .ref a_trayMany, .ref a_numbers, .ref a_tape, .int m_taped, .int m_textEnd, .int m_faultKind, .int m_faultAt, .int m_bad, .int m_badAt, .int m_token, .int m_at, .int m_behind, .int m_number, .int m_letters, .long m_word, .ref a_c, .ref a_words, .int m_markMany, .ref a_there, .ref a_tried, .ref a_best, .ref a_found, .int m_thereMany, .int m_foundMany, .int m_orderHow, .int m_orderRing, .int m_orderMany, .int 1, .long n_319, .long n_320, .ref a_weights, .ref a_shared, .int m_random, .int m_truePlace, .int m_trueWay, .int m_seconds, .int m_done, .int m_feelings, .int m_tries, .int m_leftOver, .int m_playDoor, .int m_playRing, .int m_isOpen, .int m_isOver, .int m_wasTried, .int m_hasPlayed, .ref a_feltNow, .ref a_last, .ref a_kept, .int m_hasSeconds, .int m_hasTurned, .int m_hasRound, .ref a_hasFeels, .ref a_isOn, .int m_firstAct, .long n_319, .long n_320, .ref a_order, .int m_rowMany, .int m_newSteps])), (a_c, .inl (cA.1 0, 1825, .inl g_c)), (a_there, .inl (cA.1 0, 10, .inl g_87))] H → va_D A [(a_tried, .inl (cA.1 0, 10, .inl g_tried)), (a_order, .inl (cA.1 0, 10, .inl g_412)), (h0, .inr (12, [.int m_status, .int m_thrown, .long m_above, .long m_under, .ref a_traySort, .ref a_trayMany, .ref a_numbers, .ref a_tape, .int m_taped, .int m_textEnd, .int m_faultKind, .int m_faultAt, .int m_bad, .int m_badAt, .int m_token, .int m_at, .int m_behind, .int m_number, .int m_letters, .long m_word, .ref a_c, .ref a_words, .int m_markMany, .ref a_there, .ref a_tried, .ref a_best, .ref a_found, .int m_thereMany, .int m_foundMany, .int m_orderHow, .int m_orderRing, .int m_orderMany, .int 1, .long n_319, .long n_320, .ref a_weights, .ref a_shared, .int m_random, .int m_truePlace, .int m_trueWay, .int m_seconds, .int m_done, .int m_feelings, .int m_tries, .int m_leftOver, .int m_playDoor, .int m_playRing, .int m_isOpen, .int m_isOver, .int m_wasTried, .int m_hasPlayed, .ref a_feltNow, .ref a_last, .ref a_kept, .int m_hasSeconds, .int m_hasTurned, .int m_hasRound, .ref a_hasFeels, .ref a_isOn, .int m_firstAct, .long n_319, .long n_320, .ref a_order, .int m_rowMany, .int m_newSteps])), (a_c, .inl (cA.1 0, 1825, .inl g_c)), (a_there, .inl (cA.1 0, 10, .inl g_87))] → va_S A s.heap H locs → lv_has ls 2 [(0, .ref h0), (1, .int v_411)] → W p l e ({ frames := 4, cells := 0, slots := 0, locals := 97 }) s m args below meth c H locs 0 0 Q (F0 m 126 ls []) := by
                intro n
                induction n with
                | zero =>
                  intro v_411 g_412 H locs ls hmu_hlp_419 hr_v_411 hC_g_412 hP hD hS hl
                  exact absurd hmu_hlp_419 (Nat.not_lt_zero _)
                | succ n ih_420 =>
                  intro v_411 g_412 H locs ls hmu_hlp_419 hr_v_411 hC_g_412 hP hD hS hl
                  refine lv_iload_n hx hb dX12_judge_126 rfl (lv_at hl 1 rfl) ?_
                  refine lv_aload_n hx hb dX12_judge_127 rfl (lv_at hl 0 rfl) ?_
                  refine va_get (D := G) (ci := 12) (v := .int m_orderMany) (C := RX12) (T := TX12) (N := 65) hx hb hts inT12 hown hK hP 2 rfl rfl 31 (by decide) (hts _ tw_1915) (fun _ h9 => h9) rfl dX12_judge_128 ?_
                  refine lv_icmp_ge (tgt := 152) hx hb dX12_judge_131 (by decide) (fun c_421 => ?_) (fun c_421 => ?_)
                  · have b_422 := z_fgeT c_421
                    have hpost : ((1 : Int32) = 0 ∨ (1 : Int32) = 1) ∧ (0 ≤ (1 : Int32).toInt ∧ (1 : Int32).toInt ≤ 1) ∧ (0 ≤ n_320.toInt ∧ n_320.toInt ≤ 79200) ∧ (zRg 10 0 9 g_87) ∧ (zRg 10 0 9 g_412) ∧ ((1 : Int32).toInt = 1 ∧ 1 ≤ n_320.toInt) := ⟨(Or.inr rfl), (by decide +kernel), (z_rgw hr_n_320 (by decide) (by decide)), hC_g_87, hC_g_412, (by omega)⟩
                    exact hret _ _ _ _ _ (1, n_319, n_320, n_319, n_320, g_87, g_412) [2, 3, 4, 0, 1] hP hD hS rfl (by decide) dX12_judge_152 hpost
                  · have b_423 := z_fltF c_421
                    refine lv_aload_n hx hb dX12_judge_134 rfl (lv_at hl 0 rfl) ?_
                    refine va_get (D := G) (ci := 12) (v := .ref a_order) (C := RX12) (T := TX12) (N := 65) hx hb hts inT12 hown hK hP 2 rfl rfl 62 (by decide) (hts _ tw_1945) (fun _ h9 => h9) rfl dX12_judge_135 ?_
                    refine lv_iload_n hx hb dX12_judge_138 rfl (lv_at hl 1 rfl) ?_
                    refine lv_aload_n hx hb dX12_judge_139 rfl (lv_at hl 0 rfl) ?_
                    refine va_get (D := G) (ci := 12) (v := .ref a_tried) (C := RX12) (T := TX12) (N := 65) hx hb hts inT12 hown hK hP 2 rfl rfl 24 (by decide) (hts _ tw_1909) (fun _ h9 => h9) rfl dX12_judge_140 ?_
                    refine lv_iload_n hx hb dX12_judge_143 rfl (lv_at hl 1 rfl) ?_
                    refine va_iald hx hb hK hP 0 0 rfl rfl (z_inN (by omega) (by omega)) dX12_judge_144 ?_
                    refine lv_topi (fun x_424 he_x_424 => ?_)
                    have hr_x_424 := z_rg hC_g_tried he_x_424 (by omega) (by omega)
                    refine z_iast hx hb hK hP hD hS 1 0 rfl rfl (z_inN (by omega) (by omega)) dX12_judge_145 (fun g_425 hg_g_425 H locs hP hD hS => ?_)
                    have hC_g_425 := z_rgU hC_g_412 hg_g_425 (by omega)
                    obtain ⟨x_426, he_x_426⟩ : ∃ z : Int32, z = v_411 + 1 := ⟨_, rfl⟩
                    have hq_x_426 := z_addq he_x_426 (rfl : v_411.toInt = _) hk_1 (by omega) (by omega)
                    refine lv_iinc (v := x_426) (lv' := [(1, .int x_426), (0, .ref h0)]) hx hb dX12_judge_146 hl (k := 1) rfl ((z_ofi (by decide +kernel)).trans he_x_426.symm) (by decide) rfl (fun ls hl => ?_)
                    refine lv_goto (tgt := 126) hx hb dX12_judge_149 (by decide) ?_
                    exact ih_420 x_426 g_425 H locs ls (by omega) (by omega) hC_g_425 hP hD hS (lv_sub hl [1, 0] rfl)
              exact hlp_419 _ 0 g_order _ _ _ (Nat.lt_succ_self _) (by decide +kernel) hC_g_order hP hD hS (lv_sub hl [1, 0] rfl)
            · have b_427 := z_fneF c_324
              refine lv_aload_n hx hb dX12_judge_80 rfl (lv_at hl 0 rfl) ?_
              refine va_get (D := G) (ci := 12) (v := .long n_319) (C := RX12) (T := TX12) (N := 65) hx hb hts inT12 hown hK hP 2 rfl rfl 60 (by decide) (hts _ tw_1943) (fun _ h9 => h9) rfl dX12_judge_81 ?_
              refine lv_aload_n hx hb dX12_judge_84 rfl (lv_at hl 0 rfl) ?_
              refine va_get (D := G) (ci := 12) (v := .long m_bestBy) (C := RX12) (T := TX12) (N := 65) hx hb hts inT12 hown hK hP 2 rfl rfl 34 (by decide) (hts _ tw_1918) (fun _ h9 => h9) rfl dX12_judge_85 ?_
              refine lv_lmul hx hb dX12_judge_88 ?_
              have hL_n_319 := z_fulll n_319
              have hL_m_bestBy := z_fulll m_bestBy
              refine lv_topl (fun x_428 he_x_428 => ?_)
              refine lv_aload_n hx hb dX12_judge_89 rfl (lv_at hl 0 rfl) ?_
              refine va_get (D := G) (ci := 12) (v := .long m_bestTop) (C := RX12) (T := TX12) (N := 65) hx hb hts inT12 hown hK hP 2 rfl rfl 33 (by decide) (hts _ tw_1917) (fun _ h9 => h9) rfl dX12_judge_90 ?_
              refine lv_aload_n hx hb dX12_judge_93 rfl (lv_at hl 0 rfl) ?_
              refine va_get (D := G) (ci := 12) (v := .long n_320) (C := RX12) (T := TX12) (N := 65) hx hb hts inT12 hown hK hP 2 rfl rfl 61 (by decide) (hts _ tw_1944) (fun _ h9 => h9) rfl dX12_judge_94 ?_
              refine lv_lmul hx hb dX12_judge_97 ?_
              have hL_m_bestTop := z_fulll m_bestTop
              refine lv_topl (fun x_429 he_x_429 => ?_)
              refine W.lcmp hx hb dX12_judge_98 ?_
              refine lv_if_lt (tgt := 103) hx hb dX12_judge_99 (by decide) (fun c_430 => ?_) (fun c_430 => ?_)
              · have b_431 := z_fltTl c_430
                refine lv_aload_n hx hb dX12_judge_103 rfl (lv_at hl 0 rfl) ?_
                refine lv_iconst (v := 1) hx hb dX12_judge_104 (by decide) ?_
                refine va_put (D := G) (ci := 12) (v := .int 1) (ty := .boolean) (C := RX12) (T := TX12) (N := 65) hx hb hts inT12 tyX12 tyX12_ok nmX12 hown hK hP hD hS 2 rfl rfl 32 (by decide) (hts _ tw_1916) (fun _ h9 => h9) rfl (tyX12_ok 32 (by decide)) rfl rfl (Nat.le_of_ble_eq_true rfl) dX12_judge_105 (fun H locs hP hD hS => ?_)
                refine lv_aload_n hx hb dX12_judge_108 rfl (lv_at hl 0 rfl) ?_
                refine lv_aload_n hx hb dX12_judge_109 rfl (lv_at hl 0 rfl) ?_
                refine va_get (D := G) (ci := 12) (v := .long n_319) (C := RX12) (T := TX12) (N := 65) hx hb hts inT12 hown hK hP 2 rfl rfl 60 (by decide) (hts _ tw_1943) (fun _ h9 => h9) rfl dX12_judge_110 ?_
                refine va_put (D := G) (ci := 12) (v := .long n_319) (ty := .long) (C := RX12) (T := TX12) (N := 65) hx hb hts inT12 tyX12 tyX12_ok nmX12 hown hK hP hD hS 2 rfl rfl 33 (by decide) (hts _ tw_1917) (fun _ h9 => h9) rfl (tyX12_ok 33 (by decide)) rfl rfl (Nat.le_of_ble_eq_true rfl) dX12_judge_113 (fun H locs hP hD hS => ?_)
                refine lv_aload_n hx hb dX12_judge_116 rfl (lv_at hl 0 rfl) ?_
                refine lv_aload_n hx hb dX12_judge_117 rfl (lv_at hl 0 rfl) ?_
                refine va_get (D := G) (ci := 12) (v := .long n_320) (C := RX12) (T := TX12) (N := 65) hx hb hts inT12 hown hK hP 2 rfl rfl 61 (by decide) (hts _ tw_1944) (fun _ h9 => h9) rfl dX12_judge_118 ?_
                refine va_put (D := G) (ci := 12) (v := .long n_320) (ty := .long) (C := RX12) (T := TX12) (N := 65) hx hb hts inT12 tyX12 tyX12_ok nmX12 hown hK hP hD hS 2 rfl rfl 34 (by decide) (hts _ tw_1918) (fun _ h9 => h9) rfl (tyX12_ok 34 (by decide)) rfl rfl (Nat.le_of_ble_eq_true rfl) dX12_judge_121 (fun H locs hP hD hS => ?_)
                refine lv_iconst (v := 0) hx hb dX12_judge_124 (by decide) ?_
                refine lv_istore_n (lv' := [(1, .int 0), (0, .ref h0)]) hx hb dX12_judge_125 rfl hl (by decide) rfl (fun ls hl => ?_)
                have hlp_525 : ∀ (n : Nat) (v_517 : Int32) (g_518 : Nat → Int32) (H : Heap) (locs : List Loc) (ls : Array Slot), (2147483647 - v_517.toInt).toNat < n → (0 ≤ v_517.toInt ∧ v_517.toInt ≤ 10) → (zRg 10 0 9 g_518) → va_P G vwCl [(a_tried, .inl (cA.1 0, 10, .inl g_tried)), (a_order, .inl (cA.1 0, 10, .inl g_518)), (h0, .inr (12, [.int m_status, .int m_thrown, .long m_above, .long m_under, .ref a_traySort, .ref a_trayMany, .ref a_numbers, .ref a_tape, .int m_taped, .int m_textEnd, .int m_faultKind, .int m_faultAt, .int m_bad, .int m_badAt, .int m_token, .int m_at, .int m_behind, .int m_number, .int m_letters, .long m_word, .ref a_c, .ref a_words, .int m_markMany, .ref a_there, .ref a_tried, .ref a_best, .ref a_found, .int m_thereMany, .int m_foundMany, .int m_orderHow, .int m_orderRing, .int m_orderMany, .int 1, .long n_319, .long n_320, .ref a_weights, .ref a_shared, .int m_random, .int m_truePlace, .int m_trueWay, .int m_seconds, .int m_done, .int m_feelings, .int m_tries, .int m_leftOver, .int m_playDoor, .int m_playRing, .int m_isOpen, .int m_isOver, .int m_wasTried, .int m_hasPlayed, .ref a_feltNow, .ref a_last, .ref a_kept, .int m_hasSeconds, .int m_hasTurned, .int m_hasRound, .ref a_hasFeels, .ref a_isOn, .int m_firstAct, .long n_319, .long n_320, .ref a_order, .int m_rowMany, .int m_newSteps])), (a_c, .inl (cA.1 0, 1825, .inl g_c)), (a_there, .inl (cA.1 0, 10, .inl g_87))] H → va_D A [(a_tried, .inl (cA.1 0, 10, .inl g_tried)), (a_order, .inl (cA.1 0, 10, .inl g_518)), (h0, .inr (12, [.int m_status, .int m_thrown, .long m_above, .long m_under, .ref a_traySort, .ref a_trayMany, .ref a_numbers, .ref a_tape, .int m_taped, .int m_textEnd, .int m_faultKind, .int m_faultAt, .int m_bad, .int m_badAt, .int m_token, .int m_at, .int m_behind, .int m_number, .int m_letters, .long m_word, .ref a_c, .ref a_words, .int m_markMany, .ref a_there, .ref a_tried, .ref a_best, .ref a_found, .int m_thereMany, .int m_foundMany, .int m_orderHow, .int m_orderRing, .int m_orderMany, .int 1, .long n_319, .long n_320, .ref a_weights, .ref a_shared, .int m_random, .int m_truePlace, .int m_trueWay, .int m_seconds, .int m_done, .int m_feelings, .int m_tries, .int m_leftOver, .int m_playDoor, .int m_playRing, .int m_isOpen, .int m_isOver, .int m_wasTried, .int m_hasPlayed, .ref a_feltNow, .ref a_last, .ref a_kept, .int m_hasSeconds, .int m_hasTurned, .int m_hasRound, .ref a_hasFeels, .ref a_isOn, .int m_firstAct, .long n_319, .long n_320, .ref a_order, .int m_rowMany, .int m_newSteps])), (a_c, .inl (cA.1 0, 1825, .inl g_c)), (a_there, .inl (cA.1 0, 10, .inl g_87))] → va_S A s.heap H locs → lv_has ls 2 [(0, .ref h0), (1, .int v_517)] → W p l e ({ frames := 4, cells := 0, slots := 0, locals := 97 }) s m args below meth c H locs 0 0 Q (F0 m 126 ls []) := by
                  intro n
                  induction n with
                  | zero =>
                    intro v_517 g_518 H locs ls hmu_hlp_525 hr_v_517 hC_g_518 hP hD hS hl
                    exact absurd hmu_hlp_525 (Nat.not_lt_zero _)
                  | succ n ih_526 =>
                    intro v_517 g_518 H locs ls hmu_hlp_525 hr_v_517 hC_g_518 hP hD hS hl
                    refine lv_iload_n hx hb dX12_judge_126 rfl (lv_at hl 1 rfl) ?_
                    refine lv_aload_n hx hb dX12_judge_127 rfl (lv_at hl 0 rfl) ?_
                    refine va_get (D := G) (ci := 12) (v := .int m_orderMany) (C := RX12) (T := TX12) (N := 65) hx hb hts inT12 hown hK hP 2 rfl rfl 31 (by decide) (hts _ tw_1915) (fun _ h9 => h9) rfl dX12_judge_128 ?_
                    refine lv_icmp_ge (tgt := 152) hx hb dX12_judge_131 (by decide) (fun c_527 => ?_) (fun c_527 => ?_)
                    · have b_528 := z_fgeT c_527
                      have hpost : ((1 : Int32) = 0 ∨ (1 : Int32) = 1) ∧ (0 ≤ (1 : Int32).toInt ∧ (1 : Int32).toInt ≤ 1) ∧ (0 ≤ n_320.toInt ∧ n_320.toInt ≤ 79200) ∧ (zRg 10 0 9 g_87) ∧ (zRg 10 0 9 g_518) ∧ ((1 : Int32).toInt = 1 ∧ 1 ≤ n_320.toInt) := ⟨(Or.inr rfl), (by decide +kernel), (z_rgw hr_n_320 (by decide) (by decide)), hC_g_87, hC_g_518, (by omega)⟩
                      exact hret _ _ _ _ _ (1, n_319, n_320, n_319, n_320, g_87, g_518) [2, 3, 4, 0, 1] hP hD hS rfl (by decide) dX12_judge_152 hpost
                    · have b_529 := z_fltF c_527
                      refine lv_aload_n hx hb dX12_judge_134 rfl (lv_at hl 0 rfl) ?_
                      refine va_get (D := G) (ci := 12) (v := .ref a_order) (C := RX12) (T := TX12) (N := 65) hx hb hts inT12 hown hK hP 2 rfl rfl 62 (by decide) (hts _ tw_1945) (fun _ h9 => h9) rfl dX12_judge_135 ?_
                      refine lv_iload_n hx hb dX12_judge_138 rfl (lv_at hl 1 rfl) ?_
                      refine lv_aload_n hx hb dX12_judge_139 rfl (lv_at hl 0 rfl) ?_
                      refine va_get (D := G) (ci := 12) (v := .ref a_tried) (C := RX12) (T := TX12) (N := 65) hx hb hts inT12 hown hK hP 2 rfl rfl 24 (by decide) (hts _ tw_1909) (fun _ h9 => h9) rfl dX12_judge_140 ?_
                      refine lv_iload_n hx hb dX12_judge_143 rfl (lv_at hl 1 rfl) ?_
                      refine va_iald hx hb hK hP 0 0 rfl rfl (z_inN (by omega) (by omega)) dX12_judge_144 ?_
                      refine lv_topi (fun x_530 he_x_530 => ?_)
                      have hr_x_530 := z_rg hC_g_tried he_x_530 (by omega) (by omega)
                      refine z_iast hx hb hK hP hD hS 1 0 rfl rfl (z_inN (by omega) (by omega)) dX12_judge_145 (fun g_531 hg_g_531 H locs hP hD hS => ?_)
                      have hC_g_531 := z_rgU hC_g_518 hg_g_531 (by omega)
                      obtain ⟨x_532, he_x_532⟩ : ∃ z : Int32, z = v_517 + 1 := ⟨_, rfl⟩
                      have hq_x_532 := z_addq he_x_532 (rfl : v_517.toInt = _) hk_1 (by omega) (by omega)
                      refine lv_iinc (v := x_532) (lv' := [(1, .int x_532), (0, .ref h0)]) hx hb dX12_judge_146 hl (k := 1) rfl ((z_ofi (by decide +kernel)).trans he_x_532.symm) (by decide) rfl (fun ls hl => ?_)
                      refine lv_goto (tgt := 126) hx hb dX12_judge_149 (by decide) ?_
                      exact ih_526 x_532 g_531 H locs ls (by omega) (by omega) hC_g_531 hP hD hS (lv_sub hl [1, 0] rfl)
                exact hlp_525 _ 0 g_order _ _ _ (Nat.lt_succ_self _) (by decide +kernel) hC_g_order hP hD hS (lv_sub hl [1, 0] rfl)
              · have b_533 := z_fgeFl c_430
                have hpost : (m_hasBest = 0 ∨ m_hasBest = 1) ∧ (0 ≤ m_hasBest.toInt ∧ m_hasBest.toInt ≤ 1) ∧ (0 ≤ n_320.toInt ∧ n_320.toInt ≤ 79200) ∧ (zRg 10 0 9 g_87) ∧ (zRg 10 0 9 g_order) ∧ (m_hasBest.toInt = 1 ∧ 1 ≤ m_bestBy.toInt) := ⟨hz_m_hasBest, hr_m_hasBest, (z_rgw hr_n_320 (by decide) (by decide)), hC_g_87, hC_g_order, (by omega)⟩
                exact hret _ _ _ _ _ (m_hasBest, m_bestTop, m_bestBy, n_319, n_320, g_87, g_order) [2, 3, 4, 0, 1] hP hD hS rfl (by decide) dX12_judge_102 hpost
        · have b_534 := z_feqF c_99
          refine lv_aload_n hx hb dX12_judge_36 rfl (lv_at hl 0 rfl) ?_
          refine lv_aload_n hx hb dX12_judge_37 rfl (lv_at hl 0 rfl) ?_
          refine z_callVi (As := []) (rest := [.ref h0]) (wr := [(a_tried, .inl (cA.1 0, 10, .inl g_tried)), (a_order, .inl (cA.1 0, 10, .inl g_order))]) ⟨hx, hb, hml, hown, hts⟩ hK hE hT hP hD hS hA (r_walk l G cA h0 m_status m_thrown m_above m_under a_traySort a_trayMany a_numbers a_tape m_taped m_textEnd m_faultKind m_faultAt m_bad m_badAt m_token m_at m_behind m_number m_letters m_word a_c a_words m_markMany a_there a_tried a_best a_found m_thereMany m_foundMany m_orderHow m_orderRing m_orderMany m_hasBest m_bestTop m_bestBy a_weights a_shared m_random m_truePlace m_trueWay m_seconds m_done m_feelings m_tries m_leftOver m_playDoor m_playRing m_isOpen m_isOver m_wasTried m_hasPlayed a_feltNow a_last a_kept m_hasSeconds m_hasTurned m_hasRound a_hasFeels a_isOn m_firstAct m_meanTop m_meanBy a_order m_rowMany m_newSteps g_c g_87 hr_m_thereMany hC_g_c hC_g_87) lk_RX12_408 ⟨rfl, rfl⟩ ⟨Nat.le_of_ble_eq_true rfl, Nat.le_of_ble_eq_true rfl⟩ 12 rfl rfl rfl [0, 1, 2] [3, 4] rfl rfl (by decide) rfl hl.1 rfl (lv_room (Nat.le_of_ble_eq_true rfl)) dX12_judge_38 ⟨Nat.le_of_ble_eq_true rfl, Nat.le_of_ble_eq_true rfl⟩ (fun r_535 u_536 H locs hw hP hD hS => ?_)
          refine lv_i2l (v := (r_535).toInt64) hx hb dX12_judge_41 rfl ?_
          refine lv_topl (fun x_537 he_x_537 => ?_)
          have hq_x_537 := z_i2l he_x_537
          have hL_r_535 := z_full r_535
          refine va_put (D := G) (ci := 12) (v := .long x_537) (ty := .long) (C := RX12) (T := TX12) (N := 65) hx hb hts inT12 tyX12 tyX12_ok nmX12 hown hK hP hD hS 2 rfl rfl 60 (by decide) (hts _ tw_1943) (fun _ h9 => h9) rfl (tyX12_ok 60 (by decide)) rfl rfl (Nat.le_of_ble_eq_true rfl) dX12_judge_42 (fun H locs hP hD hS => ?_)
          refine lv_aload_n hx hb dX12_judge_45 rfl (lv_at hl 0 rfl) ?_
          refine lv_lconst (v := 1) hx hb dX12_judge_46 (by decide) ?_
          refine va_put (D := G) (ci := 12) (v := .long 1) (ty := .long) (C := RX12) (T := TX12) (N := 65) hx hb hts inT12 tyX12 tyX12_ok nmX12 hown hK hP hD hS 2 rfl rfl 61 (by decide) (hts _ tw_1944) (fun _ h9 => h9) rfl (tyX12_ok 61 (by decide)) rfl rfl (Nat.le_of_ble_eq_true rfl) dX12_judge_47 (fun H locs hP hD hS => ?_)
          refine lv_goto (tgt := 73) hx hb dX12_judge_50 (by decide) ?_
          refine lv_aload_n hx hb dX12_judge_73 rfl (lv_at hl 0 rfl) ?_
          refine va_get (D := G) (ci := 12) (v := .int m_hasBest) (C := RX12) (T := TX12) (N := 65) hx hb hts inT12 hown hK hP 2 rfl rfl 32 (by decide) (hts _ tw_1916) (fun _ h9 => h9) rfl dX12_judge_74 ?_
          refine lv_if_eq (tgt := 103) hx hb dX12_judge_77 (by decide) (fun c_538 => ?_) (fun c_538 => ?_)
          · have b_539 := z_feqT c_538
            refine lv_aload_n hx hb dX12_judge_103 rfl (lv_at hl 0 rfl) ?_
            refine lv_iconst (v := 1) hx hb dX12_judge_104 (by decide) ?_
            refine va_put (D := G) (ci := 12) (v := .int 1) (ty := .boolean) (C := RX12) (T := TX12) (N := 65) hx hb hts inT12 tyX12 tyX12_ok nmX12 hown hK hP hD hS 2 rfl rfl 32 (by decide) (hts _ tw_1916) (fun _ h9 => h9) rfl (tyX12_ok 32 (by decide)) rfl rfl (Nat.le_of_ble_eq_true rfl) dX12_judge_105 (fun H locs hP hD hS => ?_)
            refine lv_aload_n hx hb dX12_judge_108 rfl (lv_at hl 0 rfl) ?_
            refine lv_aload_n hx hb dX12_judge_109 rfl (lv_at hl 0 rfl) ?_
            refine va_get (D := G) (ci := 12) (v := .long x_537) (C := RX12) (T := TX12) (N := 65) hx hb hts inT12 hown hK hP 2 rfl rfl 60 (by decide) (hts _ tw_1943) (fun _ h9 => h9) rfl dX12_judge_110 ?_
            refine va_put (D := G) (ci := 12) (v := .long x_537) (ty := .long) (C := RX12) (T := TX12) (N := 65) hx hb hts inT12 tyX12 tyX12_ok nmX12 hown hK hP hD hS 2 rfl rfl 33 (by decide) (hts _ tw_1917) (fun _ h9 => h9) rfl (tyX12_ok 33 (by decide)) rfl rfl (Nat.le_of_ble_eq_true rfl) dX12_judge_113 (fun H locs hP hD hS => ?_)
            refine lv_aload_n hx hb dX12_judge_116 rfl (lv_at hl 0 rfl) ?_
            refine lv_aload_n hx hb dX12_judge_117 rfl (lv_at hl 0 rfl) ?_
            refine va_get (D := G) (ci := 12) (v := .long 1) (C := RX12) (T := TX12) (N := 65) hx hb hts inT12 hown hK hP 2 rfl rfl 61 (by decide) (hts _ tw_1944) (fun _ h9 => h9) rfl dX12_judge_118 ?_
            refine va_put (D := G) (ci := 12) (v := .long 1) (ty := .long) (C := RX12) (T := TX12) (N := 65) hx hb hts inT12 tyX12 tyX12_ok nmX12 hown hK hP hD hS 2 rfl rfl 34 (by decide) (hts _ tw_1918) (fun _ h9 => h9) rfl (tyX12_ok 34 (by decide)) rfl rfl (Nat.le_of_ble_eq_true rfl) dX12_judge_121 (fun H locs hP hD hS => ?_)
            refine lv_iconst (v := 0) hx hb dX12_judge_124 (by decide) ?_
            refine lv_istore_n (lv' := [(1, .int 0), (0, .ref h0)]) hx hb dX12_judge_125 rfl hl (by decide) rfl (fun ls hl => ?_)
            have hlp_633 : ∀ (n : Nat) (v_625 : Int32) (g_626 : Nat → Int32) (H : Heap) (locs : List Loc) (ls : Array Slot), (2147483647 - v_625.toInt).toNat < n → (0 ≤ v_625.toInt ∧ v_625.toInt ≤ 10) → (zRg 10 0 9 g_626) → va_P G vwCl [(a_tried, .inl (cA.1 0, 10, .inl g_tried)), (a_order, .inl (cA.1 0, 10, .inl g_626)), (h0, .inr (12, [.int m_status, .int m_thrown, .long m_above, .long m_under, .ref a_traySort, .ref a_trayMany, .ref a_numbers, .ref a_tape, .int m_taped, .int m_textEnd, .int m_faultKind, .int m_faultAt, .int m_bad, .int m_badAt, .int m_token, .int m_at, .int m_behind, .int m_number, .int m_letters, .long m_word, .ref a_c, .ref a_words, .int m_markMany, .ref a_there, .ref a_tried, .ref a_best, .ref a_found, .int m_thereMany, .int m_foundMany, .int m_orderHow, .int m_orderRing, .int m_orderMany, .int 1, .long x_537, .long 1, .ref a_weights, .ref a_shared, .int m_random, .int m_truePlace, .int m_trueWay, .int m_seconds, .int m_done, .int m_feelings, .int m_tries, .int m_leftOver, .int m_playDoor, .int m_playRing, .int m_isOpen, .int m_isOver, .int m_wasTried, .int m_hasPlayed, .ref a_feltNow, .ref a_last, .ref a_kept, .int m_hasSeconds, .int m_hasTurned, .int m_hasRound, .ref a_hasFeels, .ref a_isOn, .int m_firstAct, .long x_537, .long 1, .ref a_order, .int m_rowMany, .int m_newSteps])), (a_c, .inl (cA.1 0, 1825, .inl g_c)), (a_there, .inl (cA.1 0, 10, .inl g_87))] H → va_D A [(a_tried, .inl (cA.1 0, 10, .inl g_tried)), (a_order, .inl (cA.1 0, 10, .inl g_626)), (h0, .inr (12, [.int m_status, .int m_thrown, .long m_above, .long m_under, .ref a_traySort, .ref a_trayMany, .ref a_numbers, .ref a_tape, .int m_taped, .int m_textEnd, .int m_faultKind, .int m_faultAt, .int m_bad, .int m_badAt, .int m_token, .int m_at, .int m_behind, .int m_number, .int m_letters, .long m_word, .ref a_c, .ref a_words, .int m_markMany, .ref a_there, .ref a_tried, .ref a_best, .ref a_found, .int m_thereMany, .int m_foundMany, .int m_orderHow, .int m_orderRing, .int m_orderMany, .int 1, .long x_537, .long 1, .ref a_weights, .ref a_shared, .int m_random, .int m_truePlace, .int m_trueWay, .int m_seconds, .int m_done, .int m_feelings, .int m_tries, .int m_leftOver, .int m_playDoor, .int m_playRing, .int m_isOpen, .int m_isOver, .int m_wasTried, .int m_hasPlayed, .ref a_feltNow, .ref a_last, .ref a_kept, .int m_hasSeconds, .int m_hasTurned, .int m_hasRound, .ref a_hasFeels, .ref a_isOn, .int m_firstAct, .long x_537, .long 1, .ref a_order, .int m_rowMany, .int m_newSteps])), (a_c, .inl (cA.1 0, 1825, .inl g_c)), (a_there, .inl (cA.1 0, 10, .inl g_87))] → va_S A s.heap H locs → lv_has ls 2 [(0, .ref h0), (1, .int v_625)] → W p l e ({ frames := 4, cells := 0, slots := 0, locals := 97 }) s m args below meth c H locs 0 0 Q (F0 m 126 ls []) := by
              intro n
              induction n with
              | zero =>
                intro v_625 g_626 H locs ls hmu_hlp_633 hr_v_625 hC_g_626 hP hD hS hl
                exact absurd hmu_hlp_633 (Nat.not_lt_zero _)
              | succ n ih_634 =>
                intro v_625 g_626 H locs ls hmu_hlp_633 hr_v_625 hC_g_626 hP hD hS hl
                refine lv_iload_n hx hb dX12_judge_126 rfl (lv_at hl 1 rfl) ?_
                refine lv_aload_n hx hb dX12_judge_127 rfl (lv_at hl 0 rfl) ?_
                refine va_get (D := G) (ci := 12) (v := .int m_orderMany) (C := RX12) (T := TX12) (N := 65) hx hb hts inT12 hown hK hP 2 rfl rfl 31 (by decide) (hts _ tw_1915) (fun _ h9 => h9) rfl dX12_judge_128 ?_
                refine lv_icmp_ge (tgt := 152) hx hb dX12_judge_131 (by decide) (fun c_635 => ?_) (fun c_635 => ?_)
                · have b_636 := z_fgeT c_635
                  have hpost : ((1 : Int32) = 0 ∨ (1 : Int32) = 1) ∧ (0 ≤ (1 : Int32).toInt ∧ (1 : Int32).toInt ≤ 1) ∧ (0 ≤ (1 : Int64).toInt ∧ (1 : Int64).toInt ≤ 79200) ∧ (zRg 10 0 9 g_87) ∧ (zRg 10 0 9 g_626) ∧ ((1 : Int32).toInt = 1 ∧ 1 ≤ (1 : Int64).toInt) := ⟨(Or.inr rfl), (by decide +kernel), (by decide +kernel), hC_g_87, hC_g_626, (by omega)⟩
                  exact hret _ _ _ _ _ (1, x_537, 1, x_537, 1, g_87, g_626) [2, 3, 4, 0, 1] hP hD hS rfl (by decide) dX12_judge_152 hpost
                · have b_637 := z_fltF c_635
                  refine lv_aload_n hx hb dX12_judge_134 rfl (lv_at hl 0 rfl) ?_
                  refine va_get (D := G) (ci := 12) (v := .ref a_order) (C := RX12) (T := TX12) (N := 65) hx hb hts inT12 hown hK hP 2 rfl rfl 62 (by decide) (hts _ tw_1945) (fun _ h9 => h9) rfl dX12_judge_135 ?_
                  refine lv_iload_n hx hb dX12_judge_138 rfl (lv_at hl 1 rfl) ?_
                  refine lv_aload_n hx hb dX12_judge_139 rfl (lv_at hl 0 rfl) ?_
                  refine va_get (D := G) (ci := 12) (v := .ref a_tried) (C := RX12) (T := TX12) (N := 65) hx hb hts inT12 hown hK hP 2 rfl rfl 24 (by decide) (hts _ tw_1909) (fun _ h9 => h9) rfl dX12_judge_140 ?_
                  refine lv_iload_n hx hb dX12_judge_143 rfl (lv_at hl 1 rfl) ?_
                  refine va_iald hx hb hK hP 0 0 rfl rfl (z_inN (by omega) (by omega)) dX12_judge_144 ?_
                  refine lv_topi (fun x_638 he_x_638 => ?_)
                  have hr_x_638 := z_rg hC_g_tried he_x_638 (by omega) (by omega)
                  refine z_iast hx hb hK hP hD hS 1 0 rfl rfl (z_inN (by omega) (by omega)) dX12_judge_145 (fun g_639 hg_g_639 H locs hP hD hS => ?_)
                  have hC_g_639 := z_rgU hC_g_626 hg_g_639 (by omega)
                  obtain ⟨x_640, he_x_640⟩ : ∃ z : Int32, z = v_625 + 1 := ⟨_, rfl⟩
                  have hq_x_640 := z_addq he_x_640 (rfl : v_625.toInt = _) hk_1 (by omega) (by omega)
                  refine lv_iinc (v := x_640) (lv' := [(1, .int x_640), (0, .ref h0)]) hx hb dX12_judge_146 hl (k := 1) rfl ((z_ofi (by decide +kernel)).trans he_x_640.symm) (by decide) rfl (fun ls hl => ?_)
                  refine lv_goto (tgt := 126) hx hb dX12_judge_149 (by decide) ?_
                  exact ih_634 x_640 g_639 H locs ls (by omega) (by omega) hC_g_639 hP hD hS (lv_sub hl [1, 0] rfl)
            exact hlp_633 _ 0 g_order _ _ _ (Nat.lt_succ_self _) (by decide +kernel) hC_g_order hP hD hS (lv_sub hl [1, 0] rfl)
          · have b_641 := z_fneF c_538
            refine lv_aload_n hx hb dX12_judge_80 rfl (lv_at hl 0 rfl) ?_
            refine va_get (D := G) (ci := 12) (v := .long x_537) (C := RX12) (T := TX12) (N := 65) hx hb hts inT12 hown hK hP 2 rfl rfl 60 (by decide) (hts _ tw_1943) (fun _ h9 => h9) rfl dX12_judge_81 ?_
            refine lv_aload_n hx hb dX12_judge_84 rfl (lv_at hl 0 rfl) ?_
            refine va_get (D := G) (ci := 12) (v := .long m_bestBy) (C := RX12) (T := TX12) (N := 65) hx hb hts inT12 hown hK hP 2 rfl rfl 34 (by decide) (hts _ tw_1918) (fun _ h9 => h9) rfl dX12_judge_85 ?_
            refine lv_lmul hx hb dX12_judge_88 ?_
            have hL_m_bestBy := z_fulll m_bestBy
            refine lv_topl (fun x_642 he_x_642 => ?_)
            refine lv_aload_n hx hb dX12_judge_89 rfl (lv_at hl 0 rfl) ?_
            refine va_get (D := G) (ci := 12) (v := .long m_bestTop) (C := RX12) (T := TX12) (N := 65) hx hb hts inT12 hown hK hP 2 rfl rfl 33 (by decide) (hts _ tw_1917) (fun _ h9 => h9) rfl dX12_judge_90 ?_
            refine lv_aload_n hx hb dX12_judge_93 rfl (lv_at hl 0 rfl) ?_
            refine va_get (D := G) (ci := 12) (v := .long 1) (C := RX12) (T := TX12) (N := 65) hx hb hts inT12 hown hK hP 2 rfl rfl 61 (by decide) (hts _ tw_1944) (fun _ h9 => h9) rfl dX12_judge_94 ?_
            refine lv_lmul hx hb dX12_judge_97 ?_
            have hL_m_bestTop := z_fulll m_bestTop
            refine lv_topl (fun x_643 he_x_643 => ?_)
            have hq_x_643 := z_mulql he_x_643 (rfl : m_bestTop.toInt = _) hkl_1 (by omega) (by omega)
            refine W.lcmp hx hb dX12_judge_98 ?_
            refine lv_if_lt (tgt := 103) hx hb dX12_judge_99 (by decide) (fun c_644 => ?_) (fun c_644 => ?_)
            · have b_645 := z_fltTl c_644
              refine lv_aload_n hx hb dX12_judge_103 rfl (lv_at hl 0 rfl) ?_
              refine lv_iconst (v := 1) hx hb dX12_judge_104 (by decide) ?_
              refine va_put (D := G) (ci := 12) (v := .int 1) (ty := .boolean) (C := RX12) (T := TX12) (N := 65) hx hb hts inT12 tyX12 tyX12_ok nmX12 hown hK hP hD hS 2 rfl rfl 32 (by decide) (hts _ tw_1916) (fun _ h9 => h9) rfl (tyX12_ok 32 (by decide)) rfl rfl (Nat.le_of_ble_eq_true rfl) dX12_judge_105 (fun H locs hP hD hS => ?_)
              refine lv_aload_n hx hb dX12_judge_108 rfl (lv_at hl 0 rfl) ?_
              refine lv_aload_n hx hb dX12_judge_109 rfl (lv_at hl 0 rfl) ?_
              refine va_get (D := G) (ci := 12) (v := .long x_537) (C := RX12) (T := TX12) (N := 65) hx hb hts inT12 hown hK hP 2 rfl rfl 60 (by decide) (hts _ tw_1943) (fun _ h9 => h9) rfl dX12_judge_110 ?_
              refine va_put (D := G) (ci := 12) (v := .long x_537) (ty := .long) (C := RX12) (T := TX12) (N := 65) hx hb hts inT12 tyX12 tyX12_ok nmX12 hown hK hP hD hS 2 rfl rfl 33 (by decide) (hts _ tw_1917) (fun _ h9 => h9) rfl (tyX12_ok 33 (by decide)) rfl rfl (Nat.le_of_ble_eq_true rfl) dX12_judge_113 (fun H locs hP hD hS => ?_)
              refine lv_aload_n hx hb dX12_judge_116 rfl (lv_at hl 0 rfl) ?_
              refine lv_aload_n hx hb dX12_judge_117 rfl (lv_at hl 0 rfl) ?_
              refine va_get (D := G) (ci := 12) (v := .long 1) (C := RX12) (T := TX12) (N := 65) hx hb hts inT12 hown hK hP 2 rfl rfl 61 (by decide) (hts _ tw_1944) (fun _ h9 => h9) rfl dX12_judge_118 ?_
              refine va_put (D := G) (ci := 12) (v := .long 1) (ty := .long) (C := RX12) (T := TX12) (N := 65) hx hb hts inT12 tyX12 tyX12_ok nmX12 hown hK hP hD hS 2 rfl rfl 34 (by decide) (hts _ tw_1918) (fun _ h9 => h9) rfl (tyX12_ok 34 (by decide)) rfl rfl (Nat.le_of_ble_eq_true rfl) dX12_judge_121 (fun H locs hP hD hS => ?_)
              refine lv_iconst (v := 0) hx hb dX12_judge_124 (by decide) ?_
              refine lv_istore_n (lv' := [(1, .int 0), (0, .ref h0)]) hx hb dX12_judge_125 rfl hl (by decide) rfl (fun ls hl => ?_)
              have hlp_739 : ∀ (n : Nat) (v_731 : Int32) (g_732 : Nat → Int32) (H : Heap) (locs : List Loc) (ls : Array Slot), (2147483647 - v_731.toInt).toNat < n → (0 ≤ v_731.toInt ∧ v_731.toInt ≤ 10) → (zRg 10 0 9 g_732) → va_P G vwCl [(a_tried, .inl (cA.1 0, 10, .inl g_tried)), (a_order, .inl (cA.1 0, 10, .inl g_732)), (h0, .inr (12, [.int m_status, .int m_thrown, .long m_above, .long m_under, .ref a_traySort, .ref a_trayMany, .ref a_numbers, .ref a_tape, .int m_taped, .int m_textEnd, .int m_faultKind, .int m_faultAt, .int m_bad, .int m_badAt, .int m_token, .int m_at, .int m_behind, .int m_number, .int m_letters, .long m_word, .ref a_c, .ref a_words, .int m_markMany, .ref a_there, .ref a_tried, .ref a_best, .ref a_found, .int m_thereMany, .int m_foundMany, .int m_orderHow, .int m_orderRing, .int m_orderMany, .int 1, .long x_537, .long 1, .ref a_weights, .ref a_shared, .int m_random, .int m_truePlace, .int m_trueWay, .int m_seconds, .int m_done, .int m_feelings, .int m_tries, .int m_leftOver, .int m_playDoor, .int m_playRing, .int m_isOpen, .int m_isOver, .int m_wasTried, .int m_hasPlayed, .ref a_feltNow, .ref a_last, .ref a_kept, .int m_hasSeconds, .int m_hasTurned, .int m_hasRound, .ref a_hasFeels, .ref a_isOn, .int m_firstAct, .long x_537, .long 1, .ref a_order, .int m_rowMany, .int m_newSteps])), (a_c, .inl (cA.1 0, 1825, .inl g_c)), (a_there, .inl (cA.1 0, 10, .inl g_87))] H → va_D A [(a_tried, .inl (cA.1 0, 10, .inl g_tried)), (a_order, .inl (cA.1 0, 10, .inl g_732)), (h0, .inr (12, [.int m_status, .int m_thrown, .long m_above, .long m_under, .ref a_traySort, .ref a_trayMany, .ref a_numbers, .ref a_tape, .int m_taped, .int m_textEnd, .int m_faultKind, .int m_faultAt, .int m_bad, .int m_badAt, .int m_token, .int m_at, .int m_behind, .int m_number, .int m_letters, .long m_word, .ref a_c, .ref a_words, .int m_markMany, .ref a_there, .ref a_tried, .ref a_best, .ref a_found, .int m_thereMany, .int m_foundMany, .int m_orderHow, .int m_orderRing, .int m_orderMany, .int 1, .long x_537, .long 1, .ref a_weights, .ref a_shared, .int m_random, .int m_truePlace, .int m_trueWay, .int m_seconds, .int m_done, .int m_feelings, .int m_tries, .int m_leftOver, .int m_playDoor, .int m_playRing, .int m_isOpen, .int m_isOver, .int m_wasTried, .int m_hasPlayed, .ref a_feltNow, .ref a_last, .ref a_kept, .int m_hasSeconds, .int m_hasTurned, .int m_hasRound, .ref a_hasFeels, .ref a_isOn, .int m_firstAct, .long x_537, .long 1, .ref a_order, .int m_rowMany, .int m_newSteps])), (a_c, .inl (cA.1 0, 1825, .inl g_c)), (a_there, .inl (cA.1 0, 10, .inl g_87))] → va_S A s.heap H locs → lv_has ls 2 [(0, .ref h0), (1, .int v_731)] → W p l e ({ frames := 4, cells := 0, slots := 0, locals := 97 }) s m args below meth c H locs 0 0 Q (F0 m 126 ls []) := by
                intro n
                induction n with
                | zero =>
                  intro v_731 g_732 H locs ls hmu_hlp_739 hr_v_731 hC_g_732 hP hD hS hl
                  exact absurd hmu_hlp_739 (Nat.not_lt_zero _)
                | succ n ih_740 =>
                  intro v_731 g_732 H locs ls hmu_hlp_739 hr_v_731 hC_g_732 hP hD hS hl
                  refine lv_iload_n hx hb dX12_judge_126 rfl (lv_at hl 1 rfl) ?_
                  refine lv_aload_n hx hb dX12_judge_127 rfl (lv_at hl 0 rfl) ?_
                  refine va_get (D := G) (ci := 12) (v := .int m_orderMany) (C := RX12) (T := TX12) (N := 65) hx hb hts inT12 hown hK hP 2 rfl rfl 31 (by decide) (hts _ tw_1915) (fun _ h9 => h9) rfl dX12_judge_128 ?_
                  refine lv_icmp_ge (tgt := 152) hx hb dX12_judge_131 (by decide) (fun c_741 => ?_) (fun c_741 => ?_)
                  · have b_742 := z_fgeT c_741
                    have hpost : ((1 : Int32) = 0 ∨ (1 : Int32) = 1) ∧ (0 ≤ (1 : Int32).toInt ∧ (1 : Int32).toInt ≤ 1) ∧ (0 ≤ (1 : Int64).toInt ∧ (1 : Int64).toInt ≤ 79200) ∧ (zRg 10 0 9 g_87) ∧ (zRg 10 0 9 g_732) ∧ ((1 : Int32).toInt = 1 ∧ 1 ≤ (1 : Int64).toInt) := ⟨(Or.inr rfl), (by decide +kernel), (by decide +kernel), hC_g_87, hC_g_732, (by omega)⟩
                    exact hret _ _ _ _ _ (1, x_537, 1, x_537, 1, g_87, g_732) [2, 3, 4, 0, 1] hP hD hS rfl (by decide) dX12_judge_152 hpost
                  · have b_743 := z_fltF c_741
                    refine lv_aload_n hx hb dX12_judge_134 rfl (lv_at hl 0 rfl) ?_
                    refine va_get (D := G) (ci := 12) (v := .ref a_order) (C := RX12) (T := TX12) (N := 65) hx hb hts inT12 hown hK hP 2 rfl rfl 62 (by decide) (hts _ tw_1945) (fun _ h9 => h9) rfl dX12_judge_135 ?_
                    refine lv_iload_n hx hb dX12_judge_138 rfl (lv_at hl 1 rfl) ?_
                    refine lv_aload_n hx hb dX12_judge_139 rfl (lv_at hl 0 rfl) ?_
                    refine va_get (D := G) (ci := 12) (v := .ref a_tried) (C := RX12) (T := TX12) (N := 65) hx hb hts inT12 hown hK hP 2 rfl rfl 24 (by decide) (hts _ tw_1909) (fun _ h9 => h9) rfl dX12_judge_140 ?_
                    refine lv_iload_n hx hb dX12_judge_143 rfl (lv_at hl 1 rfl) ?_
                    refine va_iald hx hb hK hP 0 0 rfl rfl (z_inN (by omega) (by omega)) dX12_judge_144 ?_
                    refine lv_topi (fun x_744 he_x_744 => ?_)
                    have hr_x_744 := z_rg hC_g_tried he_x_744 (by omega) (by omega)
                    refine z_iast hx hb hK hP hD hS 1 0 rfl rfl (z_inN (by omega) (by omega)) dX12_judge_145 (fun g_745 hg_g_745 H locs hP hD hS => ?_)
                    have hC_g_745 := z_rgU hC_g_732 hg_g_745 (by omega)
                    obtain ⟨x_746, he_x_746⟩ : ∃ z : Int32, z = v_731 + 1 := ⟨_, rfl⟩
                    have hq_x_746 := z_addq he_x_746 (rfl : v_731.toInt = _) hk_1 (by omega) (by omega)
                    refine lv_iinc (v := x_746) (lv' := [(1, .int x_746), (0, .ref h0)]) hx hb dX12_judge_146 hl (k := 1) rfl ((z_ofi (by decide +kernel)).trans he_x_746.symm) (by decide) rfl (fun ls hl => ?_)
                    refine lv_goto (tgt := 126) hx hb dX12_judge_149 (by decide) ?_
                    exact ih_740 x_746 g_745 H locs ls (by omega) (by omega) hC_g_745 hP hD hS (lv_sub hl [1, 0] rfl)
              exact hlp_739 _ 0 g_order _ _ _ (Nat.lt_succ_self _) (by decide +kernel) hC_g_order hP hD hS (lv_sub hl [1, 0] rfl)
            · have b_747 := z_fgeFl c_644
              have hpost : (m_hasBest = 0 ∨ m_hasBest = 1) ∧ (0 ≤ m_hasBest.toInt ∧ m_hasBest.toInt ≤ 1) ∧ (0 ≤ (1 : Int64).toInt ∧ (1 : Int64).toInt ≤ 79200) ∧ (zRg 10 0 9 g_87) ∧ (zRg 10 0 9 g_order) ∧ (m_hasBest.toInt = 1 ∧ 1 ≤ m_bestBy.toInt) := ⟨hz_m_hasBest, hr_m_hasBest, (by decide +kernel), hC_g_87, hC_g_order, (by omega)⟩
              exact hret _ _ _ _ _ (m_hasBest, m_bestTop, m_bestBy, x_537, 1, g_87, g_order) [2, 3, 4, 0, 1] hP hD hS rfl (by decide) dX12_judge_102 hpost
      · have b_748 := z_fltF c_97
        refine lv_aload_n hx hb dX12_judge_10 rfl (lv_at hl 0 rfl) ?_
        refine va_get (D := G) (ci := 12) (v := .ref a_there) (C := RX12) (T := TX12) (N := 65) hx hb hts inT12 hown hK hP 0 rfl rfl 23 (by decide) (hts _ tw_1908) (fun _ h9 => h9) rfl dX12_judge_11 ?_
        refine lv_iload_n hx hb dX12_judge_14 rfl (lv_at hl 1 rfl) ?_
        refine lv_aload_n hx hb dX12_judge_15 rfl (lv_at hl 0 rfl) ?_
        refine va_get (D := G) (ci := 12) (v := .ref a_tried) (C := RX12) (T := TX12) (N := 65) hx hb hts inT12 hown hK hP 0 rfl rfl 24 (by decide) (hts _ tw_1909) (fun _ h9 => h9) rfl dX12_judge_16 ?_
        refine lv_iload_n hx hb dX12_judge_19 rfl (lv_at hl 1 rfl) ?_
        refine va_iald hx hb hK hP 3 0 rfl rfl (z_inN (by omega) (by omega)) dX12_judge_20 ?_
        refine lv_topi (fun x_749 he_x_749 => ?_)
        have hr_x_749 := z_rg hC_g_tried he_x_749 (by omega) (by omega)
        refine z_iast hx hb hK hP hD hS 2 0 rfl rfl (z_inN (by omega) (by omega)) dX12_judge_21 (fun g_750 hg_g_750 H locs hP hD hS => ?_)
        have hC_g_750 := z_rgU hC_g_87 hg_g_750 (by omega)
        obtain ⟨x_751, he_x_751⟩ : ∃ z : Int32, z = v_86 + 1 := ⟨_, rfl⟩
        have hq_x_751 := z_addq he_x_751 (rfl : v_86.toInt = _) hk_1 (by omega) (by omega)
        refine lv_iinc (v := x_751) (lv' := [(1, .int x_751), (0, .ref h0)]) hx hb dX12_judge_22 hl (k := 1) rfl ((z_ofi (by decide +kernel)).trans he_x_751.symm) (by decide) rfl (fun ls hl => ?_)
        refine lv_goto (tgt := 2) hx hb dX12_judge_25 (by decide) ?_
        exact ih_96 x_751 g_750 H locs ls (by omega) (by omega) hC_g_750 (by rw [hq_x_751]; exact zEq_step hi_94 hg_g_750 (by omega) (by omega) he_x_749 (by omega)) hP hD hS (lv_sub hl [1, 0] rfl)
  exact hlp_95 _ 0 g_there _ _ _ (Nat.lt_succ_self _) (by decide +kernel) hC_g_there zEq_0 hP hD hS (lv_sub hl [1, 0] rfl)
set_option maxHeartbeats 4000000 in
set_option maxRecDepth 100000 in
theorem r_orderFrom_0 (l : Launch) (G : va_G) (cA : zCA) (h0 : Nat) (m_status : Int32) (m_thrown : Int32) (m_above : Int64) (m_under : Int64) (a_traySort : Nat) (a_trayMany : Nat) (a_numbers : Nat) (a_tape : Nat) (m_taped : Int32) (m_textEnd : Int32) (m_faultKind : Int32) (m_faultAt : Int32) (m_bad : Int32) (m_badAt : Int32) (m_token : Int32) (m_at : Int32) (m_behind : Int32) (m_number : Int32) (m_letters : Int32) (m_word : Int64) (a_c : Nat) (a_words : Nat) (m_markMany : Int32) (a_there : Nat) (a_tried : Nat) (a_best : Nat) (a_found : Nat) (m_thereMany : Int32) (m_foundMany : Int32) (m_orderHow : Int32) (m_orderRing : Int32) (m_orderMany : Int32) (m_hasBest : Int32) (m_bestTop : Int64) (m_bestBy : Int64) (a_weights : Nat) (a_shared : Nat) (m_random : Int32) (m_truePlace : Int32) (m_trueWay : Int32) (m_seconds : Int32) (m_done : Int32) (m_feelings : Int32) (m_tries : Int32) (m_leftOver : Int32) (m_playDoor : Int32) (m_playRing : Int32) (m_isOpen : Int32) (m_isOver : Int32) (m_wasTried : Int32) (m_hasPlayed : Int32) (a_feltNow : Nat) (a_last : Nat) (a_kept : Nat) (m_hasSeconds : Int32) (m_hasTurned : Int32) (m_hasRound : Int32) (a_hasFeels : Nat) (a_isOn : Nat) (m_firstAct : Int32) (m_meanTop : Int64) (m_meanBy : Int64) (a_order : Nat) (m_rowMany : Int32) (m_newSteps : Int32) (g_c : Nat → Int32) (g_there : Nat → Int32) (g_tried : Nat → Int32) (g_best : Nat → Int32) (g_order : Nat → Int32) (nn : Int32) (hr_nn : 0 ≤ nn.toInt ∧ nn.toInt ≤ 6) (hr_m_thereMany : 0 ≤ m_thereMany.toInt ∧ m_thereMany.toInt ≤ 10) (hr_m_orderMany : 0 ≤ m_orderMany.toInt ∧ m_orderMany.toInt ≤ 6) (hr_m_orderHow : 0 ≤ m_orderHow.toInt ∧ m_orderHow.toInt ≤ 2) (hr_m_hasBest : 0 ≤ m_hasBest.toInt ∧ m_hasBest.toInt ≤ 1) (hz_m_hasBest : m_hasBest = 0 ∨ m_hasBest = 1) (hC_g_c : zC g_c) (hC_g_there : zRg 10 0 9 g_there) (hC_g_tried : zRg 10 0 9 g_tried) (hC_g_best : zRg 10 0 9 g_best) (hC_g_order : zRg 10 0 9 g_order) (hp_0 : m_orderMany.toInt - nn.toInt = 0) (hp_1 : m_thereMany.toInt = m_orderMany.toInt) (hp_2 : m_orderHow.toInt ≠ 2 → zOK g_c g_best g_tried nn.toInt m_orderMany.toInt) (hp_3 : m_hasBest.toInt ≤ 0 ∨ 1 ≤ m_bestBy.toInt) : zCv l yX12_orderFrom cX12_orderFrom 3 none ({ frames := 5, cells := 0, slots := 0, locals := 118 }) G cA [.ref h0, .int nn] [(h0, .inr (12, [.int m_status, .int m_thrown, .long m_above, .long m_under, .ref a_traySort, .ref a_trayMany, .ref a_numbers, .ref a_tape, .int m_taped, .int m_textEnd, .int m_faultKind, .int m_faultAt, .int m_bad, .int m_badAt, .int m_token, .int m_at, .int m_behind, .int m_number, .int m_letters, .long m_word, .ref a_c, .ref a_words, .int m_markMany, .ref a_there, .ref a_tried, .ref a_best, .ref a_found, .int m_thereMany, .int m_foundMany, .int m_orderHow, .int m_orderRing, .int m_orderMany, .int m_hasBest, .long m_bestTop, .long m_bestBy, .ref a_weights, .ref a_shared, .int m_random, .int m_truePlace, .int m_trueWay, .int m_seconds, .int m_done, .int m_feelings, .int m_tries, .int m_leftOver, .int m_playDoor, .int m_playRing, .int m_isOpen, .int m_isOver, .int m_wasTried, .int m_hasPlayed, .ref a_feltNow, .ref a_last, .ref a_kept, .int m_hasSeconds, .int m_hasTurned, .int m_hasRound, .ref a_hasFeels, .ref a_isOn, .int m_firstAct, .long m_meanTop, .long m_meanBy, .ref a_order, .int m_rowMany, .int m_newSteps])), (a_c, .inl (cA.1 0, 1825, .inl g_c)), (a_there, .inl (cA.1 0, 10, .inl g_there)), (a_tried, .inl (cA.1 0, 10, .inl g_tried)), (a_best, .inl (cA.1 0, 10, .inl g_best)), (a_order, .inl (cA.1 0, 10, .inl g_order))] (S := Int32 × Int64 × Int64 × Int64 × Int64 × (Nat → Int32) × (Nat → Int32)) (fun (u : Int32 × Int64 × Int64 × Int64 × Int64 × (Nat → Int32) × (Nat → Int32)) => (u.1 = 0 ∨ u.1 = 1) ∧ (0 ≤ u.1.toInt ∧ u.1.toInt ≤ 1) ∧ (0 ≤ u.2.2.2.2.1.toInt ∧ u.2.2.2.2.1.toInt ≤ 79200) ∧ (zRg 10 0 9 u.2.2.2.2.2.1) ∧ (zRg 10 0 9 u.2.2.2.2.2.2) ∧ (u.1.toInt ≤ 0 ∨ 1 ≤ u.2.2.1.toInt) ∧ (m_orderHow.toInt ≠ 2 → u.1.toInt = 1) ∧ (zEq g_tried g_tried nn.toInt)) (fun (u : Int32 × Int64 × Int64 × Int64 × Int64 × (Nat → Int32) × (Nat → Int32)) => [(h0, .inr (12, [.int m_status, .int m_thrown, .long m_above, .long m_under, .ref a_traySort, .ref a_trayMany, .ref a_numbers, .ref a_tape, .int m_taped, .int m_textEnd, .int m_faultKind, .int m_faultAt, .int m_bad, .int m_badAt, .int m_token, .int m_at, .int m_behind, .int m_number, .int m_letters, .long m_word, .ref a_c, .ref a_words, .int m_markMany, .ref a_there, .ref a_tried, .ref a_best, .ref a_found, .int m_thereMany, .int m_foundMany, .int m_orderHow, .int m_orderRing, .int m_orderMany, .int u.1, .long u.2.1, .long u.2.2.1, .ref a_weights, .ref a_shared, .int m_random, .int m_truePlace, .int m_trueWay, .int m_seconds, .int m_done, .int m_feelings, .int m_tries, .int m_leftOver, .int m_playDoor, .int m_playRing, .int m_isOpen, .int m_isOver, .int m_wasTried, .int m_hasPlayed, .ref a_feltNow, .ref a_last, .ref a_kept, .int m_hasSeconds, .int m_hasTurned, .int m_hasRound, .ref a_hasFeels, .ref a_isOn, .int m_firstAct, .long u.2.2.2.1, .long u.2.2.2.2.1, .ref a_order, .int m_rowMany, .int m_newSteps])), (a_c, .inl (cA.1 0, 1825, .inl g_c)), (a_there, .inl (cA.1 0, 10, .inl u.2.2.2.2.2.1)), (a_tried, .inl (cA.1 0, 10, .inl g_tried)), (a_best, .inl (cA.1 0, 10, .inl g_best)), (a_order, .inl (cA.1 0, 10, .inl u.2.2.2.2.2.2))]) 0 0 := by
  refine z_start2v (own := RX12) (by decide) (Nat.le_of_ble_eq_true rfl) rfl ?_
  intro p e s m args below meth c A ls Q hx hb hml hts hown hK hE hT hP hD hS hA hl hret
  have hl : lv_has ls 3 [(0, .ref h0), (1, .int nn)] := hl
  refine lv_iload_n hx hb dX12_orderFrom_0 rfl (lv_at hl 1 rfl) ?_
  refine lv_aload_n hx hb dX12_orderFrom_1 rfl (lv_at hl 0 rfl) ?_
  refine va_get (D := G) (ci := 12) (v := .int m_orderMany) (C := RX12) (T := TX12) (N := 65) hx hb hts inT12 hown hK hP 0 rfl rfl 31 (by decide) (hts _ tw_1915) (fun _ h9 => h9) rfl dX12_orderFrom_2 ?_
  refine lv_icmp_ne (tgt := 13) hx hb dX12_orderFrom_5 (by decide) (fun h9 => (z_no (by have h8 := z_fneT h9; omega))) (fun c_1 => ?_)
  have b_2 := z_feqF c_1
  refine lv_aload_n hx hb dX12_orderFrom_8 rfl (lv_at hl 0 rfl) ?_
  refine z_callVv (As := []) (rest := []) (wr := [(a_best, .inl (cA.1 0, 10, .inl g_best))]) ⟨hx, hb, hml, hown, hts⟩ hK hE hT hP hD hS hA (r_judge l G cA h0 m_status m_thrown m_above m_under a_traySort a_trayMany a_numbers a_tape m_taped m_textEnd m_faultKind m_faultAt m_bad m_badAt m_token m_at m_behind m_number m_letters m_word a_c a_words m_markMany a_there a_tried a_best a_found m_thereMany m_foundMany m_orderHow m_orderRing m_orderMany m_hasBest m_bestTop m_bestBy a_weights a_shared m_random m_truePlace m_trueWay m_seconds m_done m_feelings m_tries m_leftOver m_playDoor m_playRing m_isOpen m_isOver m_wasTried m_hasPlayed a_feltNow a_last a_kept m_hasSeconds m_hasTurned m_hasRound a_hasFeels a_isOn m_firstAct m_meanTop m_meanBy a_order m_rowMany m_newSteps g_c g_there g_tried g_order hr_m_thereMany (z_rgw hr_m_orderMany (by decide) (by decide)) hr_m_orderHow hr_m_hasBest hz_m_hasBest hC_g_c hC_g_there hC_g_tried hC_g_order (by omega) (fun h => zOK_perm (hp_2 h) (by omega) (by omega)) (by omega)) lk_RX12_420 ⟨rfl, rfl⟩ ⟨Nat.le_of_ble_eq_true rfl, Nat.le_of_ble_eq_true rfl⟩ 12 rfl rfl rfl [0, 1, 2, 3, 5] [4] rfl rfl (by decide) rfl hl.1 rfl (lv_room (Nat.le_of_ble_eq_true rfl)) dX12_orderFrom_9 ⟨Nat.le_of_ble_eq_true rfl, Nat.le_of_ble_eq_true rfl⟩ (fun u_11 H locs hw hP hD hS => ?_)
  obtain ⟨n_3, n_4, n_5, n_6, n_7, n_8, n_9⟩ := u_11
  try dsimp only at hw
  obtain ⟨hz_n_3, hr_n_3, hr_n_7, hC_n_8, hC_n_9, hf_12⟩ := hw
  have hpost : (n_3 = 0 ∨ n_3 = 1) ∧ (0 ≤ n_3.toInt ∧ n_3.toInt ≤ 1) ∧ (0 ≤ n_7.toInt ∧ n_7.toInt ≤ 79200) ∧ (zRg 10 0 9 n_8) ∧ (zRg 10 0 9 n_9) ∧ (n_3.toInt ≤ 0 ∨ 1 ≤ n_5.toInt) ∧ (m_orderHow.toInt ≠ 2 → n_3.toInt = 1) ∧ (zEq g_tried g_tried nn.toInt) := ⟨hz_n_3, hr_n_3, hr_n_7, hC_n_8, hC_n_9, (by omega), (fun _ => by omega), zEq_refl⟩
  exact hret _ _ _ _ _ (n_3, n_4, n_5, n_6, n_7, n_8, n_9) [1, 2, 3, 4, 0, 5] hP hD hS rfl (by decide) dX12_orderFrom_12 hpost
set_option maxHeartbeats 4000000 in
set_option maxRecDepth 100000 in
theorem r_orderFrom_1 (l : Launch) (G : va_G) (cA : zCA) (h0 : Nat) (m_status : Int32) (m_thrown : Int32) (m_above : Int64) (m_under : Int64) (a_traySort : Nat) (a_trayMany : Nat) (a_numbers : Nat) (a_tape : Nat) (m_taped : Int32) (m_textEnd : Int32) (m_faultKind : Int32) (m_faultAt : Int32) (m_bad : Int32) (m_badAt : Int32) (m_token : Int32) (m_at : Int32) (m_behind : Int32) (m_number : Int32) (m_letters : Int32) (m_word : Int64) (a_c : Nat) (a_words : Nat) (m_markMany : Int32) (a_there : Nat) (a_tried : Nat) (a_best : Nat) (a_found : Nat) (m_thereMany : Int32) (m_foundMany : Int32) (m_orderHow : Int32) (m_orderRing : Int32) (m_orderMany : Int32) (m_hasBest : Int32) (m_bestTop : Int64) (m_bestBy : Int64) (a_weights : Nat) (a_shared : Nat) (m_random : Int32) (m_truePlace : Int32) (m_trueWay : Int32) (m_seconds : Int32) (m_done : Int32) (m_feelings : Int32) (m_tries : Int32) (m_leftOver : Int32) (m_playDoor : Int32) (m_playRing : Int32) (m_isOpen : Int32) (m_isOver : Int32) (m_wasTried : Int32) (m_hasPlayed : Int32) (a_feltNow : Nat) (a_last : Nat) (a_kept : Nat) (m_hasSeconds : Int32) (m_hasTurned : Int32) (m_hasRound : Int32) (a_hasFeels : Nat) (a_isOn : Nat) (m_firstAct : Int32) (m_meanTop : Int64) (m_meanBy : Int64) (a_order : Nat) (m_rowMany : Int32) (m_newSteps : Int32) (g_c : Nat → Int32) (g_there : Nat → Int32) (g_tried : Nat → Int32) (g_best : Nat → Int32) (g_order : Nat → Int32) (nn : Int32) (hr_nn : 0 ≤ nn.toInt ∧ nn.toInt ≤ 5) (hr_m_thereMany : 0 ≤ m_thereMany.toInt ∧ m_thereMany.toInt ≤ 10) (hr_m_orderMany : 1 ≤ m_orderMany.toInt ∧ m_orderMany.toInt ≤ 6) (hr_m_orderHow : 0 ≤ m_orderHow.toInt ∧ m_orderHow.toInt ≤ 2) (hr_m_hasBest : 0 ≤ m_hasBest.toInt ∧ m_hasBest.toInt ≤ 1) (hz_m_hasBest : m_hasBest = 0 ∨ m_hasBest = 1) (hC_g_c : zC g_c) (hC_g_there : zRg 10 0 9 g_there) (hC_g_tried : zRg 10 0 9 g_tried) (hC_g_best : zRg 10 0 9 g_best) (hC_g_order : zRg 10 0 9 g_order) (hp_0 : m_orderMany.toInt - nn.toInt = 1) (hp_1 : m_thereMany.toInt = m_orderMany.toInt) (hp_2 : m_orderHow.toInt ≠ 2 → zOK g_c g_best g_tried nn.toInt m_orderMany.toInt) (hp_3 : m_hasBest.toInt ≤ 0 ∨ 1 ≤ m_bestBy.toInt) : zCv l yX12_orderFrom cX12_orderFrom 3 none ({ frames := 6, cells := 0, slots := 0, locals := 140 }) G cA [.ref h0, .int nn] [(h0, .inr (12, [.int m_status, .int m_thrown, .long m_above, .long m_under, .ref a_traySort, .ref a_trayMany, .ref a_numbers, .ref a_tape, .int m_taped, .int m_textEnd, .int m_faultKind, .int m_faultAt, .int m_bad, .int m_badAt, .int m_token, .int m_at, .int m_behind, .int m_number, .int m_letters, .long m_word, .ref a_c, .ref a_words, .int m_markMany, .ref a_there, .ref a_tried, .ref a_best, .ref a_found, .int m_thereMany, .int m_foundMany, .int m_orderHow, .int m_orderRing, .int m_orderMany, .int m_hasBest, .long m_bestTop, .long m_bestBy, .ref a_weights, .ref a_shared, .int m_random, .int m_truePlace, .int m_trueWay, .int m_seconds, .int m_done, .int m_feelings, .int m_tries, .int m_leftOver, .int m_playDoor, .int m_playRing, .int m_isOpen, .int m_isOver, .int m_wasTried, .int m_hasPlayed, .ref a_feltNow, .ref a_last, .ref a_kept, .int m_hasSeconds, .int m_hasTurned, .int m_hasRound, .ref a_hasFeels, .ref a_isOn, .int m_firstAct, .long m_meanTop, .long m_meanBy, .ref a_order, .int m_rowMany, .int m_newSteps])), (a_c, .inl (cA.1 0, 1825, .inl g_c)), (a_there, .inl (cA.1 0, 10, .inl g_there)), (a_tried, .inl (cA.1 0, 10, .inl g_tried)), (a_best, .inl (cA.1 0, 10, .inl g_best)), (a_order, .inl (cA.1 0, 10, .inl g_order))] (S := Int32 × Int64 × Int64 × Int64 × Int64 × (Nat → Int32) × (Nat → Int32) × (Nat → Int32)) (fun (u : Int32 × Int64 × Int64 × Int64 × Int64 × (Nat → Int32) × (Nat → Int32) × (Nat → Int32)) => (u.1 = 0 ∨ u.1 = 1) ∧ (0 ≤ u.1.toInt ∧ u.1.toInt ≤ 1) ∧ (zRg 10 0 9 u.2.2.2.2.2.1) ∧ (zRg 10 0 9 u.2.2.2.2.2.2.1) ∧ (zRg 10 0 9 u.2.2.2.2.2.2.2) ∧ (u.1.toInt ≤ 0 ∨ 1 ≤ u.2.2.1.toInt) ∧ (m_orderHow.toInt ≠ 2 → u.1.toInt = 1) ∧ (zEq u.2.2.2.2.2.2.1 g_tried nn.toInt)) (fun (u : Int32 × Int64 × Int64 × Int64 × Int64 × (Nat → Int32) × (Nat → Int32) × (Nat → Int32)) => [(h0, .inr (12, [.int m_status, .int m_thrown, .long m_above, .long m_under, .ref a_traySort, .ref a_trayMany, .ref a_numbers, .ref a_tape, .int m_taped, .int m_textEnd, .int m_faultKind, .int m_faultAt, .int m_bad, .int m_badAt, .int m_token, .int m_at, .int m_behind, .int m_number, .int m_letters, .long m_word, .ref a_c, .ref a_words, .int m_markMany, .ref a_there, .ref a_tried, .ref a_best, .ref a_found, .int m_thereMany, .int m_foundMany, .int m_orderHow, .int m_orderRing, .int m_orderMany, .int u.1, .long u.2.1, .long u.2.2.1, .ref a_weights, .ref a_shared, .int m_random, .int m_truePlace, .int m_trueWay, .int m_seconds, .int m_done, .int m_feelings, .int m_tries, .int m_leftOver, .int m_playDoor, .int m_playRing, .int m_isOpen, .int m_isOver, .int m_wasTried, .int m_hasPlayed, .ref a_feltNow, .ref a_last, .ref a_kept, .int m_hasSeconds, .int m_hasTurned, .int m_hasRound, .ref a_hasFeels, .ref a_isOn, .int m_firstAct, .long u.2.2.2.1, .long u.2.2.2.2.1, .ref a_order, .int m_rowMany, .int m_newSteps])), (a_c, .inl (cA.1 0, 1825, .inl g_c)), (a_there, .inl (cA.1 0, 10, .inl u.2.2.2.2.2.1)), (a_tried, .inl (cA.1 0, 10, .inl u.2.2.2.2.2.2.1)), (a_best, .inl (cA.1 0, 10, .inl g_best)), (a_order, .inl (cA.1 0, 10, .inl u.2.2.2.2.2.2.2))]) 0 0 := by
  have hk_0 : (0 : Int32).toInt = 0 := by decide +kernel
  have hk_1 : (1 : Int32).toInt = 1 := by decide +kernel
  refine z_start2v (own := RX12) (by decide) (Nat.le_of_ble_eq_true rfl) rfl ?_
  intro p e s m args below meth c A ls Q hx hb hml hts hown hK hE hT hP hD hS hA hl hret
  have hl : lv_has ls 3 [(0, .ref h0), (1, .int nn)] := hl
  refine lv_iload_n hx hb dX12_orderFrom_0 rfl (lv_at hl 1 rfl) ?_
  refine lv_aload_n hx hb dX12_orderFrom_1 rfl (lv_at hl 0 rfl) ?_
  refine va_get (D := G) (ci := 12) (v := .int m_orderMany) (C := RX12) (T := TX12) (N := 65) hx hb hts inT12 hown hK hP 0 rfl rfl 31 (by decide) (hts _ tw_1915) (fun _ h9 => h9) rfl dX12_orderFrom_2 ?_
  refine lv_icmp_ne (tgt := 13) hx hb dX12_orderFrom_5 (by decide) (fun c_1 => ?_) (fun h9 => (z_no (by have h8 := z_feqF h9; omega)))
  have b_2 := z_fneT c_1
  have hW : m_orderHow.toInt ≠ 2 → zRest g_best g_tried (g_c 1).toInt nn.toInt m_orderMany.toInt (0 : Int32).toInt := fun h => zRest_0 (hp_2 h) (by omega) (by omega)
  refine lv_iconst (v := 0) hx hb dX12_orderFrom_13 (by decide) ?_
  refine lv_istore_n (lv' := [(2, .int 0), (0, .ref h0), (1, .int nn)]) hx hb dX12_orderFrom_14 rfl hl (by decide) rfl (fun ls hl => ?_)
  have hlp_450 : ∀ (n : Nat) (v_409 : Int32) (v_410 : Int32) (v_411 : Int64) (v_412 : Int64) (v_413 : Int64) (v_414 : Int64) (g_415 : Nat → Int32) (g_416 : Nat → Int32) (g_417 : Nat → Int32) (H : Heap) (locs : List Loc) (ls : Array Slot), (2147483647 - v_409.toInt).toNat < n → (0 ≤ v_409.toInt ∧ v_409.toInt ≤ 10) → (v_410 = 0 ∨ v_410 = 1) → (0 ≤ v_410.toInt ∧ v_410.toInt ≤ 1) → (zRg 10 0 9 g_415) → (zRg 10 0 9 g_416) → (zRg 10 0 9 g_417) → (v_410.toInt ≤ 0 ∨ 1 ≤ v_412.toInt) → (zEq g_416 g_tried nn.toInt) → (m_orderHow.toInt ≠ 2 → v_410.toInt = 1 ∨ zRest g_best g_tried (g_c 1).toInt nn.toInt m_orderMany.toInt v_409.toInt) → va_P G vwCl [(h0, .inr (12, [.int m_status, .int m_thrown, .long m_above, .long m_under, .ref a_traySort, .ref a_trayMany, .ref a_numbers, .ref a_tape, .int m_taped, .int m_textEnd, .int m_faultKind, .int m_faultAt, .int m_bad, .int m_badAt, .int m_token, .int m_at, .int m_behind, .int m_number, .int m_letters, .long m_word, .ref a_c, .ref a_words, .int m_markMany, .ref a_there, .ref a_tried, .ref a_best, .ref a_found, .int m_thereMany, .int m_foundMany, .int m_orderHow, .int m_orderRing, .int m_orderMany, .int v_410, .long v_411, .long v_412, .ref a_weights, .ref a_shared, .int m_random, .int m_truePlace, .int m_trueWay, .int m_seconds, .int m_done, .int m_feelings, .int m_tries, .int m_leftOver, .int m_playDoor, .int m_playRing, .int m_isOpen, .int m_isOver, .int m_wasTried, .int m_hasPlayed, .ref a_feltNow, .ref a_last, .ref a_kept, .int m_hasSeconds, .int m_hasTurned, .int m_hasRound, .ref a_hasFeels, .ref a_isOn, .int m_firstAct, .long v_413, .long v_414, .ref a_order, .int m_rowMany, .int m_newSteps])), (a_c, .inl (cA.1 0, 1825, .inl g_c)), (a_there, .inl (cA.1 0, 10, .inl g_415)), (a_tried, .inl (cA.1 0, 10, .inl g_416)), (a_best, .inl (cA.1 0, 10, .inl g_best)), (a_order, .inl (cA.1 0, 10, .inl g_417))] H → va_D A [(h0, .inr (12, [.int m_status, .int m_thrown, .long m_above, .long m_under, .ref a_traySort, .ref a_trayMany, .ref a_numbers, .ref a_tape, .int m_taped, .int m_textEnd, .int m_faultKind, .int m_faultAt, .int m_bad, .int m_badAt, .int m_token, .int m_at, .int m_behind, .int m_number, .int m_letters, .long m_word, .ref a_c, .ref a_words, .int m_markMany, .ref a_there, .ref a_tried, .ref a_best, .ref a_found, .int m_thereMany, .int m_foundMany, .int m_orderHow, .int m_orderRing, .int m_orderMany, .int v_410, .long v_411, .long v_412, .ref a_weights, .ref a_shared, .int m_random, .int m_truePlace, .int m_trueWay, .int m_seconds, .int m_done, .int m_feelings, .int m_tries, .int m_leftOver, .int m_playDoor, .int m_playRing, .int m_isOpen, .int m_isOver, .int m_wasTried, .int m_hasPlayed, .ref a_feltNow, .ref a_last, .ref a_kept, .int m_hasSeconds, .int m_hasTurned, .int m_hasRound, .ref a_hasFeels, .ref a_isOn, .int m_firstAct, .long v_413, .long v_414, .ref a_order, .int m_rowMany, .int m_newSteps])), (a_c, .inl (cA.1 0, 1825, .inl g_c)), (a_there, .inl (cA.1 0, 10, .inl g_415)), (a_tried, .inl (cA.1 0, 10, .inl g_416)), (a_best, .inl (cA.1 0, 10, .inl g_best)), (a_order, .inl (cA.1 0, 10, .inl g_417))] → va_S A s.heap H locs → lv_has ls 3 [(0, .ref h0), (1, .int nn), (2, .int v_409)] → W p l e ({ frames := 6, cells := 0, slots := 0, locals := 140 }) s m args below meth c H locs 0 0 Q (F0 m 15 ls []) := by
    intro n
    induction n with
    | zero =>
      intro v_409 v_410 v_411 v_412 v_413 v_414 g_415 g_416 g_417 H locs ls hmu_hlp_450 hr_v_409 hz_v_410 hr_v_410 hC_g_415 hC_g_416 hC_g_417 hi_447 hi_448 hi_449 hP hD hS hl
      exact absurd hmu_hlp_450 (Nat.not_lt_zero _)
    | succ n ih_451 =>
      intro v_409 v_410 v_411 v_412 v_413 v_414 g_415 g_416 g_417 H locs ls hmu_hlp_450 hr_v_409 hz_v_410 hr_v_410 hC_g_415 hC_g_416 hC_g_417 hi_447 hi_448 hi_449 hP hD hS hl
      refine lv_iload_n hx hb dX12_orderFrom_15 rfl (lv_at hl 2 rfl) ?_
      refine lv_aload_n hx hb dX12_orderFrom_16 rfl (lv_at hl 0 rfl) ?_
      refine va_get (D := G) (ci := 12) (v := .ref a_c) (C := RX12) (T := TX12) (N := 65) hx hb hts inT12 hown hK hP 0 rfl rfl 20 (by decide) (hts _ tw_1905) (fun _ h9 => h9) rfl dX12_orderFrom_17 ?_
      refine lv_iconst (v := 1) hx hb dX12_orderFrom_20 (by decide) ?_
      refine va_iald hx hb hK hP 1 0 rfl rfl (z_in (i := 1) (n := 1825) (by decide +kernel) (by decide +kernel)) dX12_orderFrom_21 ?_
      refine lv_topi (fun x_452 he_x_452 => ?_)
      have hr_x_452 := z_ctk hC_g_c he_x_452 (k := 1) (lo := 0) (hi := 10) (by decide +kernel) (by decide +kernel) (by decide +kernel)
      have hv_x_452 := z_cv he_x_452 (k := 1) (by decide +kernel)
      refine lv_icmp_ge (tgt := 65) hx hb dX12_orderFrom_22 (by decide) (fun c_453 => ?_) (fun c_453 => ?_)
      · have b_454 := z_fgeT c_453
        have hpost : (v_410 = 0 ∨ v_410 = 1) ∧ (0 ≤ v_410.toInt ∧ v_410.toInt ≤ 1) ∧ (zRg 10 0 9 g_415) ∧ (zRg 10 0 9 g_416) ∧ (zRg 10 0 9 g_417) ∧ (v_410.toInt ≤ 0 ∨ 1 ≤ v_412.toInt) ∧ (m_orderHow.toInt ≠ 2 → v_410.toInt = 1) ∧ (zEq g_416 g_tried nn.toInt) := ⟨hz_v_410, hr_v_410, hC_g_415, hC_g_416, hC_g_417, (by omega), (fun h => (hi_449 h).elim id (fun q => (zRest_end q (by omega)).elim)), hi_448⟩
        exact hret _ _ _ _ _ (v_410, v_411, v_412, v_413, v_414, g_415, g_416, g_417) [0, 1, 2, 3, 4, 5] hP hD hS rfl (by decide) dX12_orderFrom_65 hpost
      · have b_455 := z_fltF c_453
        refine lv_aload_n hx hb dX12_orderFrom_25 rfl (lv_at hl 0 rfl) ?_
        refine lv_iload_n hx hb dX12_orderFrom_26 rfl (lv_at hl 2 rfl) ?_
        refine z_callVi (As := [.int v_409]) (rest := []) (wr := [(a_c, .inl (cA.1 0, 1825, .inl g_c)), (a_there, .inl (cA.1 0, 10, .inl g_415)), (a_tried, .inl (cA.1 0, 10, .inl g_416)), (a_order, .inl (cA.1 0, 10, .inl g_417))]) ⟨hx, hb, hml, hown, hts⟩ hK hE hT hP hD hS hA (r_isOrdered l G cA h0 m_status m_thrown m_above m_under a_traySort a_trayMany a_numbers a_tape m_taped m_textEnd m_faultKind m_faultAt m_bad m_badAt m_token m_at m_behind m_number m_letters m_word a_c a_words m_markMany a_there a_tried a_best a_found m_thereMany m_foundMany m_orderHow m_orderRing m_orderMany v_410 v_411 v_412 a_weights a_shared m_random m_truePlace m_trueWay m_seconds m_done m_feelings m_tries m_leftOver m_playDoor m_playRing m_isOpen m_isOver m_wasTried m_hasPlayed a_feltNow a_last a_kept m_hasSeconds m_hasTurned m_hasRound a_hasFeels a_isOn m_firstAct v_413 v_414 a_order m_rowMany m_newSteps g_best v_409 (z_rgw hr_m_orderMany (by decide) (by decide)) hC_g_best) lk_RX12_423 ⟨rfl, rfl⟩ ⟨Nat.le_of_ble_eq_true rfl, Nat.le_of_ble_eq_true rfl⟩ 12 rfl rfl rfl [0, 4] [1, 2, 3, 5] rfl rfl (by decide) rfl hl.1 rfl (lv_room (Nat.le_of_ble_eq_true rfl)) dX12_orderFrom_27 ⟨Nat.le_of_ble_eq_true rfl, Nat.le_of_ble_eq_true rfl⟩ (fun r_456 u_457 H locs hw hP hD hS => ?_)
        rcases hw with ⟨rfl, hf_458⟩ | ⟨rfl, hf_459⟩
        · skip
          refine lv_if_eq (tgt := 59) hx hb dX12_orderFrom_30 (by decide) (fun _ => ?_) (fun h9 => absurd (by decide +kernel) h9)
          obtain ⟨x_460, he_x_460⟩ : ∃ z : Int32, z = v_409 + 1 := ⟨_, rfl⟩
          have hq_x_460 := z_addq he_x_460 (rfl : v_409.toInt = _) hk_1 (by omega) (by omega)
          refine lv_iinc (v := x_460) (lv' := [(2, .int x_460), (0, .ref h0), (1, .int nn)]) hx hb dX12_orderFrom_59 hl (k := 2) rfl ((z_ofi (by decide +kernel)).trans he_x_460.symm) (by decide) rfl (fun ls hl => ?_)
          refine lv_goto (tgt := 15) hx hb dX12_orderFrom_62 (by decide) ?_
          have hP := hP.sub (ws' := [(h0, .inr (12, [.int m_status, .int m_thrown, .long m_above, .long m_under, .ref a_traySort, .ref a_trayMany, .ref a_numbers, .ref a_tape, .int m_taped, .int m_textEnd, .int m_faultKind, .int m_faultAt, .int m_bad, .int m_badAt, .int m_token, .int m_at, .int m_behind, .int m_number, .int m_letters, .long m_word, .ref a_c, .ref a_words, .int m_markMany, .ref a_there, .ref a_tried, .ref a_best, .ref a_found, .int m_thereMany, .int m_foundMany, .int m_orderHow, .int m_orderRing, .int m_orderMany, .int v_410, .long v_411, .long v_412, .ref a_weights, .ref a_shared, .int m_random, .int m_truePlace, .int m_trueWay, .int m_seconds, .int m_done, .int m_feelings, .int m_tries, .int m_leftOver, .int m_playDoor, .int m_playRing, .int m_isOpen, .int m_isOver, .int m_wasTried, .int m_hasPlayed, .ref a_feltNow, .ref a_last, .ref a_kept, .int m_hasSeconds, .int m_hasTurned, .int m_hasRound, .ref a_hasFeels, .ref a_isOn, .int m_firstAct, .long v_413, .long v_414, .ref a_order, .int m_rowMany, .int m_newSteps])), (a_c, .inl (cA.1 0, 1825, .inl g_c)), (a_there, .inl (cA.1 0, 10, .inl g_415)), (a_tried, .inl (cA.1 0, 10, .inl g_416)), (a_best, .inl (cA.1 0, 10, .inl g_best)), (a_order, .inl (cA.1 0, 10, .inl g_417))]) [4, 0, 1, 2, 5, 3] rfl
          have hD := hD.sub (ws' := [(h0, .inr (12, [.int m_status, .int m_thrown, .long m_above, .long m_under, .ref a_traySort, .ref a_trayMany, .ref a_numbers, .ref a_tape, .int m_taped, .int m_textEnd, .int m_faultKind, .int m_faultAt, .int m_bad, .int m_badAt, .int m_token, .int m_at, .int m_behind, .int m_number, .int m_letters, .long m_word, .ref a_c, .ref a_words, .int m_markMany, .ref a_there, .ref a_tried, .ref a_best, .ref a_found, .int m_thereMany, .int m_foundMany, .int m_orderHow, .int m_orderRing, .int m_orderMany, .int v_410, .long v_411, .long v_412, .ref a_weights, .ref a_shared, .int m_random, .int m_truePlace, .int m_trueWay, .int m_seconds, .int m_done, .int m_feelings, .int m_tries, .int m_leftOver, .int m_playDoor, .int m_playRing, .int m_isOpen, .int m_isOver, .int m_wasTried, .int m_hasPlayed, .ref a_feltNow, .ref a_last, .ref a_kept, .int m_hasSeconds, .int m_hasTurned, .int m_hasRound, .ref a_hasFeels, .ref a_isOn, .int m_firstAct, .long v_413, .long v_414, .ref a_order, .int m_rowMany, .int m_newSteps])), (a_c, .inl (cA.1 0, 1825, .inl g_c)), (a_there, .inl (cA.1 0, 10, .inl g_415)), (a_tried, .inl (cA.1 0, 10, .inl g_416)), (a_best, .inl (cA.1 0, 10, .inl g_best)), (a_order, .inl (cA.1 0, 10, .inl g_417))]) [4, 0, 1, 2, 5, 3] (by decide) rfl
          exact ih_451 x_460 v_410 v_411 v_412 v_413 v_414 g_415 g_416 g_417 H locs ls (by omega) (by omega) hz_v_410 hr_v_410 hC_g_415 hC_g_416 hC_g_417 (by omega) hi_448 (fun h => (hi_449 h).elim Or.inl (fun q => Or.inr (by rw [hq_x_460]; exact zRest_no q hf_458))) hP hD hS (lv_sub hl [1, 2, 0] rfl)
        · skip
          refine lv_if_eq (tgt := 59) hx hb dX12_orderFrom_30 (by decide) (fun h9 => absurd h9 (by decide +kernel)) (fun _ => ?_)
          refine lv_aload_n hx hb dX12_orderFrom_33 rfl (lv_at hl 0 rfl) ?_
          refine lv_iload_n hx hb dX12_orderFrom_34 rfl (lv_at hl 2 rfl) ?_
          refine lv_iload_n hx hb dX12_orderFrom_35 rfl (lv_at hl 1 rfl) ?_
          refine z_callVi (As := [.int v_409, .int nn]) (rest := []) (wr := [(a_c, .inl (cA.1 0, 1825, .inl g_c)), (a_there, .inl (cA.1 0, 10, .inl g_415)), (a_order, .inl (cA.1 0, 10, .inl g_417)), (a_best, .inl (cA.1 0, 10, .inl g_best))]) ⟨hx, hb, hml, hown, hts⟩ hK hE hT hP hD hS hA (r_isUsed l G cA h0 m_status m_thrown m_above m_under a_traySort a_trayMany a_numbers a_tape m_taped m_textEnd m_faultKind m_faultAt m_bad m_badAt m_token m_at m_behind m_number m_letters m_word a_c a_words m_markMany a_there a_tried a_best a_found m_thereMany m_foundMany m_orderHow m_orderRing m_orderMany v_410 v_411 v_412 a_weights a_shared m_random m_truePlace m_trueWay m_seconds m_done m_feelings m_tries m_leftOver m_playDoor m_playRing m_isOpen m_isOver m_wasTried m_hasPlayed a_feltNow a_last a_kept m_hasSeconds m_hasTurned m_hasRound a_hasFeels a_isOn m_firstAct v_413 v_414 a_order m_rowMany m_newSteps g_416 v_409 nn (z_rgw hr_nn (by decide) (by decide)) hC_g_416) lk_RX12_426 ⟨rfl, rfl⟩ ⟨Nat.le_of_ble_eq_true rfl, Nat.le_of_ble_eq_true rfl⟩ 12 rfl rfl rfl [4, 2] [0, 1, 3, 5] rfl rfl (by decide) rfl hl.1 rfl (lv_room (Nat.le_of_ble_eq_true rfl)) dX12_orderFrom_36 ⟨Nat.le_of_ble_eq_true rfl, Nat.le_of_ble_eq_true rfl⟩ (fun r_461 u_462 H locs hw hP hD hS => ?_)
          rcases hw with ⟨rfl, hf_463⟩ | ⟨rfl, hf_464⟩
          · skip
            refine lv_if_eq (tgt := 45) hx hb dX12_orderFrom_39 (by decide) (fun _ => ?_) (fun h9 => absurd (by decide +kernel) h9)
            refine lv_aload_n hx hb dX12_orderFrom_45 rfl (lv_at hl 0 rfl) ?_
            refine va_get (D := G) (ci := 12) (v := .ref a_tried) (C := RX12) (T := TX12) (N := 65) hx hb hts inT12 hown hK hP 4 rfl rfl 24 (by decide) (hts _ tw_1909) (fun _ h9 => h9) rfl dX12_orderFrom_46 ?_
            refine lv_iload_n hx hb dX12_orderFrom_49 rfl (lv_at hl 1 rfl) ?_
            refine lv_iload_n hx hb dX12_orderFrom_50 rfl (lv_at hl 2 rfl) ?_
            refine z_iast hx hb hK hP hD hS 5 0 rfl rfl (z_inN (by omega) (by omega)) dX12_orderFrom_51 (fun g_465 hg_g_465 H locs hP hD hS => ?_)
            have hC_g_465 := z_rgU hC_g_416 hg_g_465 (by omega)
            refine lv_aload_n hx hb dX12_orderFrom_52 rfl (lv_at hl 0 rfl) ?_
            refine lv_iload_n hx hb dX12_orderFrom_53 rfl (lv_at hl 1 rfl) ?_
            refine lv_iconst (v := 1) hx hb dX12_orderFrom_54 (by decide) ?_
            refine lv_iadd hx hb dX12_orderFrom_55 ?_
            refine lv_topi (fun x_466 he_x_466 => ?_)
            have hq_x_466 := z_addq he_x_466 (rfl : nn.toInt = _) hk_1 (by omega) (by omega)
            refine z_callVv (As := [.int x_466]) (rest := []) (wr := []) ⟨hx, hb, hml, hown, hts⟩ hK hE hT hP hD hS hA (r_orderFrom_0 l G cA h0 m_status m_thrown m_above m_under a_traySort a_trayMany a_numbers a_tape m_taped m_textEnd m_faultKind m_faultAt m_bad m_badAt m_token m_at m_behind m_number m_letters m_word a_c a_words m_markMany a_there a_tried a_best a_found m_thereMany m_foundMany m_orderHow m_orderRing m_orderMany v_410 v_411 v_412 a_weights a_shared m_random m_truePlace m_trueWay m_seconds m_done m_feelings m_tries m_leftOver m_playDoor m_playRing m_isOpen m_isOver m_wasTried m_hasPlayed a_feltNow a_last a_kept m_hasSeconds m_hasTurned m_hasRound a_hasFeels a_isOn m_firstAct v_413 v_414 a_order m_rowMany m_newSteps g_c g_415 g_465 g_best g_417 x_466 (by omega) hr_m_thereMany (z_rgw hr_m_orderMany (by decide) (by decide)) hr_m_orderHow hr_v_410 hz_v_410 hC_g_c hC_g_415 hC_g_465 hC_g_best hC_g_417 (by omega) (by omega) (fun h => by rw [show x_466.toInt = nn.toInt + 1 by omega]; exact zOK_add (hp_2 h) hi_448 hg_g_465 (by omega) (by omega) hf_463 hf_459) (by omega)) lk_RX12_429 ⟨rfl, rfl⟩ ⟨Nat.le_of_ble_eq_true rfl, Nat.le_of_ble_eq_true rfl⟩ 12 rfl rfl rfl [4, 0, 1, 5, 3, 2] [] rfl rfl (by decide) rfl hl.1 rfl (lv_room (Nat.le_of_ble_eq_true rfl)) dX12_orderFrom_56 ⟨Nat.le_of_ble_eq_true rfl, Nat.le_of_ble_eq_true rfl⟩ (fun u_475 H locs hw hP hD hS => ?_)
            obtain ⟨n_467, n_468, n_469, n_470, n_471, n_472, n_473⟩ := u_475
            try dsimp only at hw
            obtain ⟨hz_n_467, hr_n_467, hr_n_471, hC_n_472, hC_n_473, hf_476, hf_477, hf_478⟩ := hw
            obtain ⟨x_479, he_x_479⟩ : ∃ z : Int32, z = v_409 + 1 := ⟨_, rfl⟩
            have hq_x_479 := z_addq he_x_479 (rfl : v_409.toInt = _) hk_1 (by omega) (by omega)
            refine lv_iinc (v := x_479) (lv' := [(2, .int x_479), (0, .ref h0), (1, .int nn)]) hx hb dX12_orderFrom_59 hl (k := 2) rfl ((z_ofi (by decide +kernel)).trans he_x_479.symm) (by decide) rfl (fun ls hl => ?_)
            refine lv_goto (tgt := 15) hx hb dX12_orderFrom_62 (by decide) ?_
            exact ih_451 x_479 n_467 n_468 n_469 n_470 n_471 n_472 g_465 n_473 H locs ls (by omega) (by omega) hz_n_467 hr_n_467 hC_n_472 hC_g_465 hC_n_473 (by omega) (zEq_trans (zEq_keep hg_g_465 (by omega) (by omega) (by rw [← show x_466.toInt = nn.toInt + 1 by omega]; exact hf_478)) hi_448) (fun h => Or.inl (hf_477 h)) hP hD hS (lv_sub hl [1, 2, 0] rfl)
          · skip
            refine lv_if_eq (tgt := 45) hx hb dX12_orderFrom_39 (by decide) (fun h9 => absurd h9 (by decide +kernel)) (fun _ => ?_)
            refine lv_goto (tgt := 59) hx hb dX12_orderFrom_42 (by decide) ?_
            obtain ⟨x_480, he_x_480⟩ : ∃ z : Int32, z = v_409 + 1 := ⟨_, rfl⟩
            have hq_x_480 := z_addq he_x_480 (rfl : v_409.toInt = _) hk_1 (by omega) (by omega)
            refine lv_iinc (v := x_480) (lv' := [(2, .int x_480), (0, .ref h0), (1, .int nn)]) hx hb dX12_orderFrom_59 hl (k := 2) rfl ((z_ofi (by decide +kernel)).trans he_x_480.symm) (by decide) rfl (fun ls hl => ?_)
            refine lv_goto (tgt := 15) hx hb dX12_orderFrom_62 (by decide) ?_
            have hP := hP.sub (ws' := [(h0, .inr (12, [.int m_status, .int m_thrown, .long m_above, .long m_under, .ref a_traySort, .ref a_trayMany, .ref a_numbers, .ref a_tape, .int m_taped, .int m_textEnd, .int m_faultKind, .int m_faultAt, .int m_bad, .int m_badAt, .int m_token, .int m_at, .int m_behind, .int m_number, .int m_letters, .long m_word, .ref a_c, .ref a_words, .int m_markMany, .ref a_there, .ref a_tried, .ref a_best, .ref a_found, .int m_thereMany, .int m_foundMany, .int m_orderHow, .int m_orderRing, .int m_orderMany, .int v_410, .long v_411, .long v_412, .ref a_weights, .ref a_shared, .int m_random, .int m_truePlace, .int m_trueWay, .int m_seconds, .int m_done, .int m_feelings, .int m_tries, .int m_leftOver, .int m_playDoor, .int m_playRing, .int m_isOpen, .int m_isOver, .int m_wasTried, .int m_hasPlayed, .ref a_feltNow, .ref a_last, .ref a_kept, .int m_hasSeconds, .int m_hasTurned, .int m_hasRound, .ref a_hasFeels, .ref a_isOn, .int m_firstAct, .long v_413, .long v_414, .ref a_order, .int m_rowMany, .int m_newSteps])), (a_c, .inl (cA.1 0, 1825, .inl g_c)), (a_there, .inl (cA.1 0, 10, .inl g_415)), (a_tried, .inl (cA.1 0, 10, .inl g_416)), (a_best, .inl (cA.1 0, 10, .inl g_best)), (a_order, .inl (cA.1 0, 10, .inl g_417))]) [4, 0, 1, 5, 3, 2] rfl
            have hD := hD.sub (ws' := [(h0, .inr (12, [.int m_status, .int m_thrown, .long m_above, .long m_under, .ref a_traySort, .ref a_trayMany, .ref a_numbers, .ref a_tape, .int m_taped, .int m_textEnd, .int m_faultKind, .int m_faultAt, .int m_bad, .int m_badAt, .int m_token, .int m_at, .int m_behind, .int m_number, .int m_letters, .long m_word, .ref a_c, .ref a_words, .int m_markMany, .ref a_there, .ref a_tried, .ref a_best, .ref a_found, .int m_thereMany, .int m_foundMany, .int m_orderHow, .int m_orderRing, .int m_orderMany, .int v_410, .long v_411, .long v_412, .ref a_weights, .ref a_shared, .int m_random, .int m_truePlace, .int m_trueWay, .int m_seconds, .int m_done, .int m_feelings, .int m_tries, .int m_leftOver, .int m_playDoor, .int m_playRing, .int m_isOpen, .int m_isOver, .int m_wasTried, .int m_hasPlayed, .ref a_feltNow, .ref a_last, .ref a_kept, .int m_hasSeconds, .int m_hasTurned, .int m_hasRound, .ref a_hasFeels, .ref a_isOn, .int m_firstAct, .long v_413, .long v_414, .ref a_order, .int m_rowMany, .int m_newSteps])), (a_c, .inl (cA.1 0, 1825, .inl g_c)), (a_there, .inl (cA.1 0, 10, .inl g_415)), (a_tried, .inl (cA.1 0, 10, .inl g_416)), (a_best, .inl (cA.1 0, 10, .inl g_best)), (a_order, .inl (cA.1 0, 10, .inl g_417))]) [4, 0, 1, 5, 3, 2] (by decide) rfl
            exact ih_451 x_480 v_410 v_411 v_412 v_413 v_414 g_415 g_416 g_417 H locs ls (by omega) (by omega) hz_v_410 hr_v_410 hC_g_415 hC_g_416 hC_g_417 (by omega) hi_448 (fun h => (hi_449 h).elim Or.inl (fun q => Or.inr (by rw [hq_x_480]; exact zRest_used q hi_448 hf_464))) hP hD hS (lv_sub hl [1, 2, 0] rfl)
  exact hlp_450 _ 0 m_hasBest m_bestTop m_bestBy m_meanTop m_meanBy g_there g_tried g_order _ _ _ (Nat.lt_succ_self _) (by decide +kernel) hz_m_hasBest hr_m_hasBest hC_g_there hC_g_tried hC_g_order (by omega) zEq_refl (fun h => Or.inr (hW h)) hP hD hS (lv_sub hl [1, 2, 0] rfl)
