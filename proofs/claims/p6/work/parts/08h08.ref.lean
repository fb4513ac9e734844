set_option maxHeartbeats 4000000 in
set_option maxRecDepth 100000 in
theorem r_orderFrom_6 (l : Launch) (G : va_G) (cA : zCA) (h0 : Nat) (m_status : Int32) (m_thrown : Int32) (m_above : Int64) (m_under : Int64) (a_traySort : Nat) (a_trayMany : Nat) (a_numbers : Nat) (a_tape : Nat) (m_taped : Int32) (m_textEnd : Int32) (m_faultKind : Int32) (m_faultAt : Int32) (m_bad : Int32) (m_badAt : Int32) (m_token : Int32) (m_at : Int32) (m_behind : Int32) (m_number : Int32) (m_letters : Int32) (m_word : Int64) (a_c : Nat) (a_words : Nat) (m_markMany : Int32) (a_there : Nat) (a_tried : Nat) (a_best : Nat) (a_found : Nat) (m_thereMany : Int32) (m_foundMany : Int32) (m_orderHow : Int32) (m_orderRing : Int32) (m_orderMany : Int32) (m_hasBest : Int32) (m_bestTop : Int64) (m_bestBy : Int64) (a_weights : Nat) (a_shared : Nat) (m_random : Int32) (m_truePlace : Int32) (m_trueWay : Int32) (m_seconds : Int32) (m_done : Int32) (m_feelings : Int32) (m_tries : Int32) (m_leftOver : Int32) (m_playDoor : Int32) (m_playRing : Int32) (m_isOpen : Int32) (m_isOver : Int32) (m_wasTried : Int32) (m_hasPlayed : Int32) (a_feltNow : Nat) (a_last : Nat) (a_kept : Nat) (m_hasSeconds : Int32) (m_hasTurned : Int32) (m_hasRound : Int32) (a_hasFeels : Nat) (a_isOn : Nat) (m_firstAct : Int32) (m_meanTop : Int64) (m_meanBy : Int64) (a_order : Nat) (m_rowMany : Int32) (m_newSteps : Int32) (g_c : Nat → Int32) (g_there : Nat → Int32) (g_tried : Nat → Int32) (g_best : Nat → Int32) (g_order : Nat → Int32) (nn : Int32) (hr_nn : 0 ≤ nn.toInt ∧ nn.toInt ≤ 0) (hr_m_thereMany : 0 ≤ m_thereMany.toInt ∧ m_thereMany.toInt ≤ 10) (hr_m_orderMany : 6 ≤ m_orderMany.toInt ∧ m_orderMany.toInt ≤ 6) (hr_m_orderHow : 0 ≤ m_orderHow.toInt ∧ m_orderHow.toInt ≤ 2) (hr_m_hasBest : 0 ≤ m_hasBest.toInt ∧ m_hasBest.toInt ≤ 1) (hz_m_hasBest : m_hasBest = 0 ∨ m_hasBest = 1) (hC_g_c : zC g_c) (hC_g_there : zRg 10 0 9 g_there) (hC_g_tried : zRg 10 0 9 g_tried) (hC_g_best : zRg 10 0 9 g_best) (hC_g_order : zRg 10 0 9 g_order) (hp_0 : m_orderMany.toInt - nn.toInt = 6) (hp_1 : m_thereMany.toInt = m_orderMany.toInt) (hp_2 : m_orderHow.toInt ≠ 2 → zOK g_c g_best g_tried nn.toInt m_orderMany.toInt) (hp_3 : m_hasBest.toInt ≤ 0 ∨ 1 ≤ m_bestBy.toInt) : zCv l yX12_orderFrom cX12_orderFrom 3 none ({ frames := 11, cells := 0, slots := 0, locals := 250 }) G cA [.ref h0, .int nn] [(h0, .inr (12, [.int m_status, .int m_thrown, .long m_above, .long m_under, .ref a_traySort, .ref a_trayMany, .ref a_numbers, .ref a_tape, .int m_taped, .int m_textEnd, .int m_faultKind, .int m_faultAt, .int m_bad, .int m_badAt, .int m_token, .int m_at, .int m_behind, .int m_number, .int m_letters, .long m_word, .ref a_c, .ref a_words, .int m_markMany, .ref a_there, .ref a_tried, .ref a_best, .ref a_found, .int m_thereMany, .int m_foundMany, .int m_orderHow, .int m_orderRing, .int m_orderMany, .int m_hasBest, .long m_bestTop, .long m_bestBy, .ref a_weights, .ref a_shared, .int m_random, .int m_truePlace, .int m_trueWay, .int m_seconds, .int m_done, .int m_feelings, .int m_tries, .int m_leftOver, .int m_playDoor, .int m_playRing, .int m_isOpen, .int m_isOver, .int m_wasTried, .int m_hasPlayed, .ref a_feltNow, .ref a_last, .ref a_kept, .int m_hasSeconds, .int m_hasTurned, .int m_hasRound, .ref a_hasFeels, .ref a_isOn, .int m_firstAct, .long m_meanTop, .long m_meanBy, .ref a_order, .int m_rowMany, .int m_newSteps])), (a_c, .inl (cA.1 0, 1825, .inl g_c)), (a_there, .inl (cA.1 0, 10, .inl g_there)), (a_tried, .inl (cA.1 0, 10, .inl g_tried)), (a_best, .inl (cA.1 0, 10, .inl g_best)), (a_order, .inl (cA.1 0, 10, .inl g_order))] (S := Int32 × Int64 × Int64 × Int64 × Int64 × (Nat → Int32) × (Nat → Int32) × (Nat → Int32)) (fun (u : Int32 × Int64 × Int64 × Int64 × Int64 × (Nat → Int32) × (Nat → Int32) × (Nat → Int32)) => (u.1 = 0 ∨ u.1 = 1) ∧ (0 ≤ u.1.toInt ∧ u.1.toInt ≤ 1) ∧ (zRg 10 0 9 u.2.2.2.2.2.1) ∧ (zRg 10 0 9 u.2.2.2.2.2.2.1) ∧ (zRg 10 0 9 u.2.2.2.2.2.2.2) ∧ (u.1.toInt ≤ 0 ∨ 1 ≤ u.2.2.1.toInt) ∧ (m_orderHow.toInt ≠ 2 → u.1.toInt = 1) ∧ (zEq u.2.2.2.2.2.2.1 g_tried nn.toInt)) (fun (u : Int32 × Int64 × Int64 × Int64 × Int64 × (Nat → Int32) × (Nat → Int32) × (Nat → Int32)) => [(h0, .inr (12, [.int m_status, .int m_thrown, .long m_above, .long m_under, .ref a_traySort, .ref a_trayMany, .ref a_numbers, .ref a_tape, .int m_taped, .int m_textEnd, .int m_faultKind, .int m_faultAt, .int m_bad, .int m_badAt, .int m_token, .int m_at, .int m_behind, .int m_number, .int m_letters, .long m_word, .ref a_c, .ref a_words, .int m_markMany, .ref a_there, .ref a_tried, .ref a_best, .ref a_found, .int m_thereMany, .int m_foundMany, .int m_orderHow, .int m_orderRing, .int m_orderMany, .int u.1, .long u.2.1, .long u.2.2.1, .ref a_weights, .ref a_shared, .int m_random, .int m_truePlace, .int m_trueWay, .int m_seconds, .int m_done, .int m_feelings, .int m_tries, .int m_leftOver, .int m_playDoor, .int m_playRing, .int m_isOpen, .int m_isOver, .int m_wasTried, .int m_hasPlayed, .ref a_feltNow, .ref a_last, .ref a_kept, .int m_hasSeconds, .int m_hasTurned, .int m_hasRound, .ref a_hasFeels, .ref a_isOn, .int m_firstAct, .long u.2.2.2.1, .long u.2.2.2.2.1, .ref a_order, .int m_rowMany, .int m_newSteps])), (a_c, .inl (cA.1 0, 1825, .inl g_c)), (a_there, .inl (cA.1 0, 10, .inl u.2.2.2.2.2.1)), (a_tried, .inl (cA.1 0, 10, .inl u.2.2.2.2.2.2.1)), (a_best, .inl (cA.1 0, 10, .inl g_best)), (a_order, .inl (cA.1 0, 10, .inl u.2.2.2.2.2.2.2))]) 0 0 := by
  have hk_0 : (0 : Int32).toInt = 0 := by decide +kernel
  have hk_1 : (1 : Int32).toInt = 1 := by decide +kernel
  refine z_start2v (own := RX12) (by decide) (Nat.le_of_ble_eq_true rfl) rfl ?_
  intro p e s m args below meth c A ls Q hx hb hml hts hown hK hE hT hP hD hS hA hl hret
  have hl : lv_has ls 3 [(0, .ref h0), (1, .int nn)] := hl
  refine lv_iload_n hx hb dX12_orderFrom_0 rfl (lv_at hl 1 rfl) ?_
  refine lv_aload_n hx hb dX12_orderFrom_1 rfl (lv_at hl 0 rfl) ?_
  refine va_get (D := G) (ci := 12) (v := .int m_orderMany) (C := RX12) (T := TX12) (N := 65) hx hb hts inT12 hown hK hP 0 rfl rfl 31 (by decide) (hts _ tw_1915) (fun _ h9 => h9) rfl dX12_orderFrom_2 ?_
  refine lv_icmp_ne (tgt := 13) hx hb dX12_orderFrom_5 (by decide) (fun c_1 => ?_) (fun h9 => (z_no (by have h8 := z_feqF h9; omega)))
  have b_2 := z_fneT c_1
  have hW : m_orderHow.toInt ≠ 2 → zRest g_best g_tried (g_c 1).toInt nn.toInt m_orderMany.toInt (0 : Int32).toInt := fun h => zRest_0 (hp_2 h) (by omega) (by omega)
  refine lv_iconst (v := 0) hx hb dX12_orderFrom_13 (by decide) ?_
  refine lv_istore_n (lv' := [(2, .int 0), (0, .ref h0), (1, .int nn)]) hx hb dX12_orderFrom_14 rfl hl (by decide) rfl (fun ls hl => ?_)
  have hlp_462 : ∀ (n : Nat) (v_420 : Int32) (v_421 : Int32) (v_422 : Int64) (v_423 : Int64) (v_424 : Int64) (v_425 : Int64) (g_426 : Nat → Int32) (g_427 : Nat → Int32) (g_428 : Nat → Int32) (H : Heap) (locs : List Loc) (ls : Array Slot), (2147483647 - v_420.toInt).toNat < n → (0 ≤ v_420.toInt ∧ v_420.toInt ≤ 10) → (v_421 = 0 ∨ v_421 = 1) → (0 ≤ v_421.toInt ∧ v_421.toInt ≤ 1) → (zRg 10 0 9 g_426) → (zRg 10 0 9 g_427) → (zRg 10 0 9 g_428) → (v_421.toInt ≤ 0 ∨ 1 ≤ v_423.toInt) → (zEq g_427 g_tried nn.toInt) → (m_orderHow.toInt ≠ 2 → v_421.toInt = 1 ∨ zRest g_best g_tried (g_c 1).toInt nn.toInt m_orderMany.toInt v_420.toInt) → va_P G vwCl [(h0, .inr (12, [.int m_status, .int m_thrown, .long m_above, .long m_under, .ref a_traySort, .ref a_trayMany, .ref a_numbers, .ref a_tape, .int m_taped, .int m_textEnd, .int m_faultKind, .int m_faultAt, .int m_bad, .int m_badAt, .int m_token, .int m_at, .int m_behind, .int m_number, .int m_letters, .long m_word, .ref a_c, .ref a_words, .int m_markMany, .ref a_there, .ref a_tried, .ref a_best, .ref a_found, .int m_thereMany, .int m_foundMany, .int m_orderHow, .int m_orderRing, .int m_orderMany, .int v_421, .long v_422, .long v_423, .ref a_weights, .ref a_shared, .int m_random, .int m_truePlace, .int m_trueWay, .int m_seconds, .int m_done, .int m_feelings, .int m_tries, .int m_leftOver, .int m_playDoor, .int m_playRing, .int m_isOpen, .int m_isOver, .int m_wasTried, .int m_hasPlayed, .ref a_feltNow, .ref a_last, .ref a_kept, .int m_hasSeconds, .int m_hasTurned, .int m_hasRound, .ref a_hasFeels, .ref a_isOn, .int m_firstAct, .long v_424, .long v_425, .ref a_order, .int m_rowMany, .int m_newSteps])), (a_c, .inl (cA.1 0, 1825, .inl g_c)), (a_there, .inl (cA.1 0, 10, .inl g_426)), (a_tried, .inl (cA.1 0, 10, .inl g_427)), (a_best, .inl (cA.1 0, 10, .inl g_best)), (a_order, .inl (cA.1 0, 10, .inl g_428))] H → va_D A [(h0, .inr (12, [.int m_status, .int m_thrown, .long m_above, .long m_under, .ref a_traySort, .ref a_trayMany, .ref a_numbers, .ref a_tape, .int m_taped, .int m_textEnd, .int m_faultKind, .int m_faultAt, .int m_bad, .int m_badAt, .int m_token, .int m_at, .int m_behind, .int m_number, .int m_letters, .long m_word, .ref a_c, .ref a_words, .int m_markMany, .ref a_there, .ref a_tried, .ref a_best, .ref a_found, .int m_thereMany, .int m_foundMany, .int m_orderHow, .int m_orderRing, .int m_orderMany, .int v_421, .long v_422, .long v_423, .ref a_weights, .ref a_shared, .int m_random, .int m_truePlace, .int m_trueWay, .int m_seconds, .int m_done, .int m_feelings, .int m_tries, .int m_leftOver, .int m_playDoor, .int m_playRing, .int m_isOpen, .int m_isOver, .int m_wasTried, .int m_hasPlayed, .ref a_feltNow, .ref a_last, .ref a_kept, .int m_hasSeconds, .int m_hasTurned, .int m_hasRound, .ref a_hasFeels, .ref a_isOn, .int m_firstAct, .long v_424, .long v_425, .ref a_order, .int m_rowMany, .int m_newSteps])), (a_c, .inl (cA.1 0, 1825, .inl g_c)), (a_there, .inl (cA.1 0, 10, .inl g_426)), (a_tried, .inl (cA.1 0, 10, .inl g_427)), (a_best, .inl (cA.1 0, 10, .inl g_best)), (a_order, .inl (cA.1 0, 10, .inl g_428))] → va_S A s.heap H locs → lv_has ls 3 [(0, .ref h0), (1, .int nn), (2, .int v_420)] → W p l e ({ frames := 11, cells := 0, slots := 0, locals := 250 }) s m args below meth c H locs 0 0 Q (F0 m 15 ls []) := by
    intro n
    induction n with
    | zero =>
      intro v_420 v_421 v_422 v_423 v_424 v_425 g_426 g_427 g_428 H locs ls hmu_hlp_462 hr_v_420 hz_v_421 hr_v_421 hC_g_426 hC_g_427 hC_g_428 hi_459 hi_460 hi_461 hP hD hS hl
      exact absurd hmu_hlp_462 (Nat.not_lt_zero _)
    | succ n ih_463 =>
      intro v_420 v_421 v_422 v_423 v_424 v_425 g_426 g_427 g_428 H locs ls hmu_hlp_462 hr_v_420 hz_v_421 hr_v_421 hC_g_426 hC_g_427 hC_g_428 hi_459 hi_460 hi_461 hP hD hS hl
      refine lv_iload_n hx hb dX12_orderFrom_15 rfl (lv_at hl 2 rfl) ?_
      refine lv_aload_n hx hb dX12_orderFrom_16 rfl (lv_at hl 0 rfl) ?_
      refine va_get (D := G) (ci := 12) (v := .ref a_c) (C := RX12) (T := TX12) (N := 65) hx hb hts inT12 hown hK hP 0 rfl rfl 20 (by decide) (hts _ tw_1905) (fun _ h9 => h9) rfl dX12_orderFrom_17 ?_
      refine lv_iconst (v := 1) hx hb dX12_orderFrom_20 (by decide) ?_
      refine va_iald hx hb hK hP 1 0 rfl rfl (z_in (i := 1) (n := 1825) (by decide +kernel) (by decide +kernel)) dX12_orderFrom_21 ?_
      refine lv_topi (fun x_464 he_x_464 => ?_)
      have hr_x_464 := z_ctk hC_g_c he_x_464 (k := 1) (lo := 0) (hi := 10) (by decide +kernel) (by decide +kernel) (by decide +kernel)
      have hv_x_464 := z_cv he_x_464 (k := 1) (by decide +kernel)
      refine lv_icmp_ge (tgt := 65) hx hb dX12_orderFrom_22 (by decide) (fun c_465 => ?_) (fun c_465 => ?_)
      · have b_466 := z_fgeT c_465
        have hpost : (v_421 = 0 ∨ v_421 = 1) ∧ (0 ≤ v_421.toInt ∧ v_421.toInt ≤ 1) ∧ (zRg 10 0 9 g_426) ∧ (zRg 10 0 9 g_427) ∧ (zRg 10 0 9 g_428) ∧ (v_421.toInt ≤ 0 ∨ 1 ≤ v_423.toInt) ∧ (m_orderHow.toInt ≠ 2 → v_421.toInt = 1) ∧ (zEq g_427 g_tried nn.toInt) := ⟨hz_v_421, hr_v_421, hC_g_426, hC_g_427, hC_g_428, (by omega), (fun h => (hi_461 h).elim id (fun q => (zRest_end q (by omega)).elim)), hi_460⟩
        exact hret _ _ _ _ _ (v_421, v_422, v_423, v_424, v_425, g_426, g_427, g_428) [0, 1, 2, 3, 4, 5] hP hD hS rfl (by decide) dX12_orderFrom_65 hpost
      · have b_467 := z_fltF c_465
        refine lv_aload_n hx hb dX12_orderFrom_25 rfl (lv_at hl 0 rfl) ?_
        refine lv_iload_n hx hb dX12_orderFrom_26 rfl (lv_at hl 2 rfl) ?_
        refine z_callVi (As := [.int v_420]) (rest := []) (wr := [(a_c, .inl (cA.1 0, 1825, .inl g_c)), (a_there, .inl (cA.1 0, 10, .inl g_426)), (a_tried, .inl (cA.1 0, 10, .inl g_427)), (a_order, .inl (cA.1 0, 10, .inl g_428))]) ⟨hx, hb, hml, hown, hts⟩ hK hE hT hP hD hS hA (r_isOrdered l G cA h0 m_status m_thrown m_above m_under a_traySort a_trayMany a_numbers a_tape m_taped m_textEnd m_faultKind m_faultAt m_bad m_badAt m_token m_at m_behind m_number m_letters m_word a_c a_words m_markMany a_there a_tried a_best a_found m_thereMany m_foundMany m_orderHow m_orderRing m_orderMany v_421 v_422 v_423 a_weights a_shared m_random m_truePlace m_trueWay m_seconds m_done m_feelings m_tries m_leftOver m_playDoor m_playRing m_isOpen m_isOver m_wasTried m_hasPlayed a_feltNow a_last a_kept m_hasSeconds m_hasTurned m_hasRound a_hasFeels a_isOn m_firstAct v_424 v_425 a_order m_rowMany m_newSteps g_best v_420 (z_rgw hr_m_orderMany (by decide) (by decide)) hC_g_best) lk_RX12_423 ⟨rfl, rfl⟩ ⟨Nat.le_of_ble_eq_true rfl, Nat.le_of_ble_eq_true rfl⟩ 12 rfl rfl rfl [0, 4] [1, 2, 3, 5] rfl rfl (by decide) rfl hl.1 rfl (lv_room (Nat.le_of_ble_eq_true rfl)) dX12_orderFrom_27 ⟨Nat.le_of_ble_eq_true rfl, Nat.le_of_ble_eq_true rfl⟩ (fun r_468 u_469 H locs hw hP hD hS => ?_)
        rcases hw with ⟨rfl, hf_470⟩ | ⟨rfl, hf_471⟩
        · skip
          refine lv_if_eq (tgt := 59) hx hb dX12_orderFrom_30 (by decide) (fun _ => ?_) (fun h9 => absurd (by decide +kernel) h9)
          obtain ⟨x_472, he_x_472⟩ : ∃ z : Int32, z = v_420 + 1 := ⟨_, rfl⟩
          have hq_x_472 := z_addq he_x_472 (rfl : v_420.toInt = _) hk_1 (by omega) (by omega)
          refine lv_iinc (v := x_472) (lv' := [(2, .int x_472), (0, .ref h0), (1, .int nn)]) hx hb dX12_orderFrom_59 hl (k := 2) rfl ((z_ofi (by decide +kernel)).trans he_x_472.symm) (by decide) rfl (fun ls hl => ?_)
          refine lv_goto (tgt := 15) hx hb dX12_orderFrom_62 (by decide) ?_
          have hP := hP.sub (ws' := [(h0, .inr (12, [.int m_status, .int m_thrown, .long m_above, .long m_under, .ref a_traySort, .ref a_trayMany, .ref a_numbers, .ref a_tape, .int m_taped, .int m_textEnd, .int m_faultKind, .int m_faultAt, .int m_bad, .int m_badAt, .int m_token, .int m_at, .int m_behind, .int m_number, .int m_letters, .long m_word, .ref a_c, .ref a_words, .int m_markMany, .ref a_there, .ref a_tried, .ref a_best, .ref a_found, .int m_thereMany, .int m_foundMany, .int m_orderHow, .int m_orderRing, .int m_orderMany, .int v_421, .long v_422, .long v_423, .ref a_weights, .ref a_shared, .int m_random, .int m_truePlace, .int m_trueWay, .int m_seconds, .int m_done, .int m_feelings, .int m_tries, .int m_leftOver, .int m_playDoor, .int m_playRing, .int m_isOpen, .int m_isOver, .int m_wasTried, .int m_hasPlayed, .ref a_feltNow, .ref a_last, .ref a_kept, .int m_hasSeconds, .int m_hasTurned, .int m_hasRound, .ref a_hasFeels, .ref a_isOn, .int m_firstAct, .long v_424, .long v_425, .ref a_order, .int m_rowMany, .int m_newSteps])), (a_c, .inl (cA.1 0, 1825, .inl g_c)), (a_there, .inl (cA.1 0, 10, .inl g_426)), (a_tried, .inl (cA.1 0, 10, .inl g_427)), (a_best, .inl (cA.1 0, 10, .inl g_best)), (a_order, .inl (cA.1 0, 10, .inl g_428))]) [4, 0, 1, 2, 5, 3] rfl
          have hD := hD.sub (ws' := [(h0, .inr (12, [.int m_status, .int m_thrown, .long m_above, .long m_under, .ref a_traySort, .ref a_trayMany, .ref a_numbers, .ref a_tape, .int m_taped, .int m_textEnd, .int m_faultKind, .int m_faultAt, .int m_bad, .int m_badAt, .int m_token, .int m_at, .int m_behind, .int m_number, .int m_letters, .long m_word, .ref a_c, .ref a_words, .int m_markMany, .ref a_there, .ref a_tried, .ref a_best, .ref a_found, .int m_thereMany, .int m_foundMany, .int m_orderHow, .int m_orderRing, .int m_orderMany, .int v_421, .long v_422, .long v_423, .ref a_weights, .ref a_shared, .int m_random, .int m_truePlace, .int m_trueWay, .int m_seconds, .int m_done, .int m_feelings, .int m_tries, .int m_leftOver, .int m_playDoor, .int m_playRing, .int m_isOpen, .int m_isOver, .int m_wasTried, .int m_hasPlayed, .ref a_feltNow, .ref a_last, .ref a_kept, .int m_hasSeconds, .int m_hasTurned, .int m_hasRound, .ref a_hasFeels, .ref a_isOn, .int m_firstAct, .long v_424, .long v_425, .ref a_order, .int m_rowMany, .int m_newSteps])), (a_c, .inl (cA.1 0, 1825, .inl g_c)), (a_there, .inl (cA.1 0, 10, .inl g_426)), (a_tried, .inl (cA.1 0, 10, .inl g_427)), (a_best, .inl (cA.1 0, 10, .inl g_best)), (a_order, .inl (cA.1 0, 10, .inl g_428))]) [4, 0, 1, 2, 5, 3] (by decide) rfl
          exact ih_463 x_472 v_421 v_422 v_423 v_424 v_425 g_426 g_427 g_428 H locs ls (by omega) (by omega) hz_v_421 hr_v_421 hC_g_426 hC_g_427 hC_g_428 (by omega) hi_460 (fun h => (hi_461 h).elim Or.inl (fun q => Or.inr (by rw [hq_x_472]; exact zRest_no q hf_470))) hP hD hS (lv_sub hl [1, 2, 0] rfl)
        · skip
          refine lv_if_eq (tgt := 59) hx hb dX12_orderFrom_30 (by decide) (fun h9 => absurd h9 (by decide +kernel)) (fun _ => ?_)
          refine lv_aload_n hx hb dX12_orderFrom_33 rfl (lv_at hl 0 rfl) ?_
          refine lv_iload_n hx hb dX12_orderFrom_34 rfl (lv_at hl 2 rfl) ?_
          refine lv_iload_n hx hb dX12_orderFrom_35 rfl (lv_at hl 1 rfl) ?_
          refine z_callVi (As := [.int v_420, .int nn]) (rest := []) (wr := [(a_c, .inl (cA.1 0, 1825, .inl g_c)), (a_there, .inl (cA.1 0, 10, .inl g_426)), (a_order, .inl (cA.1 0, 10, .inl g_428)), (a_best, .inl (cA.1 0, 10, .inl g_best))]) ⟨hx, hb, hml, hown, hts⟩ hK hE hT hP hD hS hA (r_isUsed l G cA h0 m_status m_thrown m_above m_under a_traySort a_trayMany a_numbers a_tape m_taped m_textEnd m_faultKind m_faultAt m_bad m_badAt m_token m_at m_behind m_number m_letters m_word a_c a_words m_markMany a_there a_tried a_best a_found m_thereMany m_foundMany m_orderHow m_orderRing m_orderMany v_421 v_422 v_423 a_weights a_shared m_random m_truePlace m_trueWay m_seconds m_done m_feelings m_tries m_leftOver m_playDoor m_playRing m_isOpen m_isOver m_wasTried m_hasPlayed a_feltNow a_last a_kept m_hasSeconds m_hasTurned m_hasRound a_hasFeels a_isOn m_firstAct v_424 v_425 a_order m_rowMany m_newSteps g_427 v_420 nn (z_rgw hr_nn (by decide) (by decide)) hC_g_427) lk_RX12_426 ⟨rfl, rfl⟩ ⟨Nat.le_of_ble_eq_true rfl, Nat.le_of_ble_eq_true rfl⟩ 12 rfl rfl rfl [4, 2] [0, 1, 3, 5] rfl rfl (by decide) rfl hl.1 rfl (lv_room (Nat.le_of_ble_eq_true rfl)) dX12_orderFrom_36 ⟨Nat.le_of_ble_eq_true rfl, Nat.le_of_ble_eq_true rfl⟩ (fun r_473 u_474 H locs hw hP hD hS => ?_)
          rcases hw with ⟨rfl, hf_475⟩ | ⟨rfl, hf_476⟩
          · skip
            refine lv_if_eq (tgt := 45) hx hb dX12_orderFrom_39 (by decide) (fun _ => ?_) (fun h9 => absurd (by decide +kernel) h9)
            refine lv_aload_n hx hb dX12_orderFrom_45 rfl (lv_at hl 0 rfl) ?_
            refine va_get (D := G) (ci := 12) (v := .ref a_tried) (C := RX12) (T := TX12) (N := 65) hx hb hts inT12 hown hK hP 4 rfl rfl 24 (by decide) (hts _ tw_1909) (fun _ h9 => h9) rfl dX12_orderFrom_46 ?_
            refine lv_iload_n hx hb dX12_orderFrom_49 rfl (lv_at hl 1 rfl) ?_
            refine lv_iload_n hx hb dX12_orderFrom_50 rfl (lv_at hl 2 rfl) ?_
            refine z_iast hx hb hK hP hD hS 5 0 rfl rfl (z_inN (by omega) (by omega)) dX12_orderFrom_51 (fun g_477 hg_g_477 H locs hP hD hS => ?_)
            have hC_g_477 := z_rgU hC_g_427 hg_g_477 (by omega)
            refine lv_aload_n hx hb dX12_orderFrom_52 rfl (lv_at hl 0 rfl) ?_
            refine lv_iload_n hx hb dX12_orderFrom_53 rfl (lv_at hl 1 rfl) ?_
            refine lv_iconst (v := 1) hx hb dX12_orderFrom_54 (by decide) ?_
            refine lv_iadd hx hb dX12_orderFrom_55 ?_
            refine lv_topi (fun x_478 he_x_478 => ?_)
            have hq_x_478 := z_addq he_x_478 (rfl : nn.toInt = _) hk_1 (by omega) (by omega)
            refine z_callVv (As := [.int x_478]) (rest := []) (wr := []) ⟨hx, hb, hml, hown, hts⟩ hK hE hT hP hD hS hA (r_orderFrom_5 l G cA h0 m_status m_thrown m_above m_under a_traySort a_trayMany a_numbers a_tape m_taped m_textEnd m_faultKind m_faultAt m_bad m_badAt m_token m_at m_behind m_number m_letters m_word a_c a_words m_markMany a_there a_tried a_best a_found m_thereMany m_foundMany m_orderHow m_orderRing m_orderMany v_421 v_422 v_423 a_weights a_shared m_random m_truePlace m_trueWay m_seconds m_done m_feelings m_tries m_leftOver m_playDoor m_playRing m_isOpen m_isOver m_wasTried m_hasPlayed a_feltNow a_last a_kept m_hasSeconds m_hasTurned m_hasRound a_hasFeels a_isOn m_firstAct v_424 v_425 a_order m_rowMany m_newSteps g_c g_426 g_477 g_best g_428 x_478 (by omega) hr_m_thereMany (z_rgw hr_m_orderMany (by decide) (by decide)) hr_m_orderHow hr_v_421 hz_v_421 hC_g_c hC_g_426 hC_g_477 hC_g_best hC_g_428 (by omega) (by omega) (fun h => by rw [show x_478.toInt = nn.toInt + 1 by omega]; exact zOK_add (hp_2 h) hi_460 hg_g_477 (by omega) (by omega) hf_475 hf_471) (by omega)) lk_RX12_429 ⟨rfl, rfl⟩ ⟨Nat.le_of_ble_eq_true rfl, Nat.le_of_ble_eq_true rfl⟩ 12 rfl rfl rfl [4, 0, 1, 5, 3, 2] [] rfl rfl (by decide) rfl hl.1 rfl (lv_room (Nat.le_of_ble_eq_true rfl)) dX12_orderFrom_56 ⟨Nat.le_of_ble_eq_true rfl, Nat.le_of_ble_eq_true rfl⟩ (fun u_488 H locs hw hP hD hS => ?_)
            obtain ⟨n_479, n_480, n_481, n_482, n_483, n_484, n_485, n_486⟩ := u_488
            try dsimp only at hw
            obtain ⟨hz_n_479, hr_n_479, hC_n_484, hC_n_485, hC_n_486, hf_489, hf_490, hf_491⟩ := hw
            obtain ⟨x_492, he_x_492⟩ : ∃ z : Int32, z = v_420 + 1 := ⟨_, rfl⟩
            have hq_x_492 := z_addq he_x_492 (rfl : v_420.toInt = _) hk_1 (by omega) (by omega)
            refine lv_iinc (v := x_492) (lv' := [(2, .int x_492), (0, .ref h0), (1, .int nn)]) hx hb dX12_orderFrom_59 hl (k := 2) rfl ((z_ofi (by decide +kernel)).trans he_x_492.symm) (by decide) rfl (fun ls hl => ?_)
            refine lv_goto (tgt := 15) hx hb dX12_orderFrom_62 (by decide) ?_
            exact ih_463 x_492 n_479 n_480 n_481 n_482 n_483 n_484 n_485 n_486 H locs ls (by omega) (by omega) hz_n_479 hr_n_479 hC_n_484 hC_n_485 hC_n_486 (by omega) (zEq_trans (zEq_keep hg_g_477 (by omega) (by omega) (by rw [← show x_478.toInt = nn.toInt + 1 by omega]; exact hf_491)) hi_460) (fun h => Or.inl (hf_490 h)) hP hD hS (lv_sub hl [1, 2, 0] rfl)
          · skip
            refine lv_if_eq (tgt := 45) hx hb dX12_orderFrom_39 (by decide) (fun h9 => absurd h9 (by decide +kernel)) (fun _ => ?_)
            refine lv_goto (tgt := 59) hx hb dX12_orderFrom_42 (by decide) ?_
            obtain ⟨x_493, he_x_493⟩ : ∃ z : Int32, z = v_420 + 1 := ⟨_, rfl⟩
            have hq_x_493 := z_addq he_x_493 (rfl : v_420.toInt = _) hk_1 (by omega) (by omega)
            refine lv_iinc (v := x_493) (lv' := [(2, .int x_493), (0, .ref h0), (1, .int nn)]) hx hb dX12_orderFrom_59 hl (k := 2) rfl ((z_ofi (by decide +kernel)).trans he_x_493.symm) (by decide) rfl (fun ls hl => ?_)
            refine lv_goto (tgt := 15) hx hb dX12_orderFrom_62 (by decide) ?_
            have hP := hP.sub (ws' := [(h0, .inr (12, [.int m_status, .int m_thrown, .long m_above, .long m_under, .ref a_traySort, .ref a_trayMany, .ref a_numbers, .ref a_tape, .int m_taped, .int m_textEnd, .int m_faultKind, .int m_faultAt, .int m_bad, .int m_badAt, .int m_token, .int m_at, .int m_behind, .int m_number, .int m_letters, .long m_word, .ref a_c, .ref a_words, .int m_markMany, .ref a_there, .ref a_tried, .ref a_best, .ref a_found, .int m_thereMany, .int m_foundMany, .int m_orderHow, .int m_orderRing, .int m_orderMany, .int v_421, .long v_422, .long v_423, .ref a_weights, .ref a_shared, .int m_random, .int m_truePlace, .int m_trueWay, .int m_seconds, .int m_done, .int m_feelings, .int m_tries, .int m_leftOver, .int m_playDoor, .int m_playRing, .int m_isOpen, .int m_isOver, .int m_wasTried, .int m_hasPlayed, .ref a_feltNow, .ref a_last, .ref a_kept, .int m_hasSeconds, .int m_hasTurned, .int m_hasRound, .ref a_hasFeels, .ref a_isOn, .int m_firstAct, .long v_424, .long v_425, .ref a_order, .int m_rowMany, .int m_newSteps])), (a_c, .inl (cA.1 0, 1825, .inl g_c)), (a_there, .inl (cA.1 0, 10, .inl g_426)), (a_tried, .inl (cA.1 0, 10, .inl g_427)), (a_best, .inl (cA.1 0, 10, .inl g_best)), (a_order, .inl (cA.1 0, 10, .inl g_428))]) [4, 0, 1, 5, 3, 2] rfl
            have hD := hD.sub (ws' := [(h0, .inr (12, [.int m_status, .int m_thrown, .long m_above, .long m_under, .ref a_traySort, .ref a_trayMany, .ref a_numbers, .ref a_tape, .int m_taped, .int m_textEnd, .int m_faultKind, .int m_faultAt, .int m_bad, .int m_badAt, .int m_token, .int m_at, .int m_behind, .int m_number, .int m_letters, .long m_word, .ref a_c, .ref a_words, .int m_markMany, .ref a_there, .ref a_tried, .ref a_best, .ref a_found, .int m_thereMany, .int m_foundMany, .int m_orderHow, .int m_orderRing, .int m_orderMany, .int v_421, .long v_422, .long v_423, .ref a_weights, .ref a_shared, .int m_random, .int m_truePlace, .int m_trueWay, .int m_seconds, .int m_done, .int m_feelings, .int m_tries, .int m_leftOver, .int m_playDoor, .int m_playRing, .int m_isOpen, .int m_isOver, .int m_wasTried, .int m_hasPlayed, .ref a_feltNow, .ref a_last, .ref a_kept, .int m_hasSeconds, .int m_hasTurned, .int m_hasRound, .ref a_hasFeels, .ref a_isOn, .int m_firstAct, .long v_424, .long v_425, .ref a_order, .int m_rowMany, .int m_newSteps])), (a_c, .inl (cA.1 0, 1825, .inl g_c)), (a_there, .inl (cA.1 0, 10, .inl g_426)), (a_tried, .inl (cA.1 0, 10, .inl g_427)), (a_best, .inl (cA.1 0, 10, .inl g_best)), (a_order, .inl (cA.1 0, 10, .inl g_428))]) [4, 0, 1, 5, 3, 2] (by decide) rfl
            exact ih_463 x_493 v_421 v_422 v_423 v_424 v_425 g_426 g_427 g_428 H locs ls (by omega) (by omega) hz_v_421 hr_v_421 hC_g_426 hC_g_427 hC_g_428 (by omega) hi_460 (fun h => (hi_461 h).elim Or.inl (fun q => Or.inr (by rw [hq_x_493]; exact zRest_used q hi_460 hf_476))) hP hD hS (lv_sub hl [1, 2, 0] rfl)
  exact hlp_462 _ 0 m_hasBest m_bestTop m_bestBy m_meanTop m_meanBy g_there g_tried g_order _ _ _ (Nat.lt_succ_self _) (by decide +kernel) hz_m_hasBest hr_m_hasBest hC_g_there hC_g_tried hC_g_order (by omega) zEq_refl (fun h => Or.inr (hW h)) hP hD hS (lv_sub hl [1, 2, 0] rfl)
set_option maxHeartbeats 4000000 in
set_option maxRecDepth 100000 in
theorem r_findOrder (l : Launch) (G : va_G) (cA : zCA) (h0 : Nat) (m_status : Int32) (m_thrown : Int32) (m_above : Int64) (m_under : Int64) (a_traySort : Nat) (a_trayMany : Nat) (a_numbers : Nat) (a_tape : Nat) (m_taped : Int32) (m_textEnd : Int32) (m_faultKind : Int32) (m_faultAt : Int32) (m_bad : Int32) (m_badAt : Int32) (m_token : Int32) (m_at : Int32) (m_behind : Int32) (m_number : Int32) (m_letters : Int32) (m_word : Int64) (a_c : Nat) (a_words : Nat) (m_markMany : Int32) (a_there : Nat) (a_tried : Nat) (a_best : Nat) (a_found : Nat) (m_thereMany : Int32) (m_foundMany : Int32) (m_orderHow : Int32) (m_orderRing : Int32) (m_orderMany : Int32) (m_hasBest : Int32) (m_bestTop : Int64) (m_bestBy : Int64) (a_weights : Nat) (a_shared : Nat) (m_random : Int32) (m_truePlace : Int32) (m_trueWay : Int32) (m_seconds : Int32) (m_done : Int32) (m_feelings : Int32) (m_tries : Int32) (m_leftOver : Int32) (m_playDoor : Int32) (m_playRing : Int32) (m_isOpen : Int32) (m_isOver : Int32) (m_wasTried : Int32) (m_hasPlayed : Int32) (a_feltNow : Nat) (a_last : Nat) (a_kept : Nat) (m_hasSeconds : Int32) (m_hasTurned : Int32) (m_hasRound : Int32) (a_hasFeels : Nat) (a_isOn : Nat) (m_firstAct : Int32) (m_meanTop : Int64) (m_meanBy : Int64) (a_order : Nat) (m_rowMany : Int32) (m_newSteps : Int32) (g_c : Nat → Int32) (g_there : Nat → Int32) (g_tried : Nat → Int32) (g_best : Nat → Int32) (g_found : Nat → Int32) (g_order : Nat → Int32) (h : Int32) (hr_h : 0 ≤ h.toInt ∧ h.toInt ≤ 2) (hr_m_thereMany : 0 ≤ m_thereMany.toInt ∧ m_thereMany.toInt ≤ 6) (hr_m_foundMany : 0 ≤ m_foundMany.toInt ∧ m_foundMany.toInt ≤ 10) (hr_m_orderMany : 0 ≤ m_orderMany.toInt ∧ m_orderMany.toInt ≤ 10) (hr_m_orderHow : 0 ≤ m_orderHow.toInt ∧ m_orderHow.toInt ≤ 2) (hr_m_hasBest : 0 ≤ m_hasBest.toInt ∧ m_hasBest.toInt ≤ 1) (hz_m_hasBest : m_hasBest = 0 ∨ m_hasBest = 1) (hC_g_c : zC g_c) (hC_g_there : zRg 10 0 9 g_there) (hC_g_tried : zRg 10 0 9 g_tried) (hC_g_best : zRg 10 0 9 g_best) (hC_g_found : zRg 10 0 9 g_found) (hC_g_order : zRg 10 0 9 g_order) (hp_0 : h.toInt ≠ 2 → zMB g_c g_there m_thereMany.toInt ∧ zDi g_there m_thereMany.toInt ∧ ∀ j : Nat, (j : Int) < m_thereMany.toInt → 0 ≤ (g_there j).toInt ∧ (g_there j).toInt < (g_c 1).toInt) : zCv l yX12_findOrder cX12_findOrder 3 none ({ frames := 12, cells := 0, slots := 0, locals := 272 }) G cA [.ref h0, .int h] [(h0, .inr (12, [.int m_status, .int m_thrown, .long m_above, .long m_under, .ref a_traySort, .ref a_trayMany, .ref a_numbers, .ref a_tape, .int m_taped, .int m_textEnd, .int m_faultKind, .int m_faultAt, .int m_bad, .int m_badAt, .int m_token, .int m_at, .int m_behind, .int m_number, .int m_letters, .long m_word, .ref a_c, .ref a_words, .int m_markMany, .ref a_there, .ref a_tried, .ref a_best, .ref a_found, .int m_thereMany, .int m_foundMany, .int m_orderHow, .int m_orderRing, .int m_orderMany, .int m_hasBest, .long m_bestTop, .long m_bestBy, .ref a_weights, .ref a_shared, .int m_random, .int m_truePlace, .int m_trueWay, .int m_seconds, .int m_done, .int m_feelings, .int m_tries, .int m_leftOver, .int m_playDoor, .int m_playRing, .int m_isOpen, .int m_isOver, .int m_wasTried, .int m_hasPlayed, .ref a_feltNow, .ref a_last, .ref a_kept, .int m_hasSeconds, .int m_hasTurned, .int m_hasRound, .ref a_hasFeels, .ref a_isOn, .int m_firstAct, .long m_meanTop, .long m_meanBy, .ref a_order, .int m_rowMany, .int m_newSteps])), (a_c, .inl (cA.1 0, 1825, .inl g_c)), (a_there, .inl (cA.1 0, 10, .inl g_there)), (a_tried, .inl (cA.1 0, 10, .inl g_tried)), (a_best, .inl (cA.1 0, 10, .inl g_best)), (a_found, .inl (cA.1 0, 10, .inl g_found)), (a_order, .inl (cA.1 0, 10, .inl g_order))] (S := Int32 × Int32 × Int32 × Int32 × Int64 × Int64 × Int64 × Int64 × (Nat → Int32) × (Nat → Int32) × (Nat → Int32) × (Nat → Int32) × (Nat → Int32)) (fun (u : Int32 × Int32 × Int32 × Int32 × Int64 × Int64 × Int64 × Int64 × (Nat → Int32) × (Nat → Int32) × (Nat → Int32) × (Nat → Int32) × (Nat → Int32)) => (0 ≤ u.1.toInt ∧ u.1.toInt ≤ 6) ∧ (0 ≤ u.2.1.toInt ∧ u.2.1.toInt ≤ 2) ∧ (0 ≤ u.2.2.1.toInt ∧ u.2.2.1.toInt ≤ 6) ∧ (u.2.2.2.1 = 0 ∨ u.2.2.2.1 = 1) ∧ (0 ≤ u.2.2.2.1.toInt ∧ u.2.2.2.1.toInt ≤ 1) ∧ (zRg 10 0 9 u.2.2.2.2.2.2.2.2.1) ∧ (zRg 10 0 9 u.2.2.2.2.2.2.2.2.2.1) ∧ (zRg 10 0 9 u.2.2.2.2.2.2.2.2.2.2.1) ∧ (zRg 10 0 9 u.2.2.2.2.2.2.2.2.2.2.2.1) ∧ (zRg 10 0 9 u.2.2.2.2.2.2.2.2.2.2.2.2) ∧ (h.toInt ≠ 2 → u.2.2.2.1.toInt = 1 ∧ 1 ≤ u.2.2.2.2.2.1.toInt)) (fun (u : Int32 × Int32 × Int32 × Int32 × Int64 × Int64 × Int64 × Int64 × (Nat → Int32) × (Nat → Int32) × (Nat → Int32) × (Nat → Int32) × (Nat → Int32)) => [(h0, .inr (12, [.int m_status, .int m_thrown, .long m_above, .long m_under, .ref a_traySort, .ref a_trayMany, .ref a_numbers, .ref a_tape, .int m_taped, .int m_textEnd, .int m_faultKind, .int m_faultAt, .int m_bad, .int m_badAt, .int m_token, .int m_at, .int m_behind, .int m_number, .int m_letters, .long m_word, .ref a_c, .ref a_words, .int m_markMany, .ref a_there, .ref a_tried, .ref a_best, .ref a_found, .int m_thereMany, .int u.1, .int u.2.1, .int m_orderRing, .int u.2.2.1, .int u.2.2.2.1, .long u.2.2.2.2.1, .long u.2.2.2.2.2.1, .ref a_weights, .ref a_shared, .int m_random, .int m_truePlace, .int m_trueWay, .int m_seconds, .int m_done, .int m_feelings, .int m_tries, .int m_leftOver, .int m_playDoor, .int m_playRing, .int m_isOpen, .int m_isOver, .int m_wasTried, .int m_hasPlayed, .ref a_feltNow, .ref a_last, .ref a_kept, .int m_hasSeconds, .int m_hasTurned, .int m_hasRound, .ref a_hasFeels, .ref a_isOn, .int m_firstAct, .long u.2.2.2.2.2.2.1, .long u.2.2.2.2.2.2.2.1, .ref a_order, .int m_rowMany, .int m_newSteps])), (a_c, .inl (cA.1 0, 1825, .inl g_c)), (a_there, .inl (cA.1 0, 10, .inl u.2.2.2.2.2.2.2.2.1)), (a_tried, .inl (cA.1 0, 10, .inl u.2.2.2.2.2.2.2.2.2.2.2.1)), (a_best, .inl (cA.1 0, 10, .inl u.2.2.2.2.2.2.2.2.2.1)), (a_found, .inl (cA.1 0, 10, .inl u.2.2.2.2.2.2.2.2.2.2.2.2)), (a_order, .inl (cA.1 0, 10, .inl u.2.2.2.2.2.2.2.2.2.2.1))]) 0 0 := by
  have hk_0 : (0 : Int32).toInt = 0 := by decide +kernel
  have hk_1 : (1 : Int32).toInt = 1 := by decide +kernel
  refine z_start2v (own := RX12) (by decide) (Nat.le_of_ble_eq_true rfl) rfl ?_
  intro p e s m args below meth c A ls Q hx hb hml hts hown hK hE hT hP hD hS hA hl hret
  have hl : lv_has ls 3 [(0, .ref h0), (1, .int h)] := hl
  refine lv_aload_n hx hb dX12_findOrder_0 rfl (lv_at hl 0 rfl) ?_
  refine lv_iload_n hx hb dX12_findOrder_1 rfl (lv_at hl 1 rfl) ?_
  refine va_put (D := G) (ci := 12) (v := .int h) (ty := .int) (C := RX12) (T := TX12) (N := 65) hx hb hts inT12 tyX12 tyX12_ok nmX12 hown hK hP hD hS 0 rfl rfl 29 (by decide) (hts _ tw_1914) (fun _ h9 => h9) rfl (tyX12_ok 29 (by decide)) rfl rfl (Nat.le_of_ble_eq_true rfl) dX12_findOrder_2 (fun H locs hP hD hS => ?_)
  refine lv_aload_n hx hb dX12_findOrder_5 rfl (lv_at hl 0 rfl) ?_
  refine lv_aload_n hx hb dX12_findOrder_6 rfl (lv_at hl 0 rfl) ?_
  refine va_get (D := G) (ci := 12) (v := .int m_thereMany) (C := RX12) (T := TX12) (N := 65) hx hb hts inT12 hown hK hP 0 rfl rfl 27 (by decide) (hts _ tw_1912) (fun _ h9 => h9) rfl dX12_findOrder_7 ?_
  refine va_put (D := G) (ci := 12) (v := .int m_thereMany) (ty := .int) (C := RX12) (T := TX12) (N := 65) hx hb hts inT12 tyX12 tyX12_ok nmX12 hown hK hP hD hS 0 rfl rfl 31 (by decide) (hts _ tw_1915) (fun _ h9 => h9) rfl (tyX12_ok 31 (by decide)) rfl rfl (Nat.le_of_ble_eq_true rfl) dX12_findOrder_10 (fun H locs hP hD hS => ?_)
  refine lv_iconst (v := 0) hx hb dX12_findOrder_13 (by decide) ?_
  refine lv_istore_n (lv' := [(2, .int 0), (0, .ref h0), (1, .int h)]) hx hb dX12_findOrder_14 rfl hl (by decide) rfl (fun ls hl => ?_)
  have hlp_63 : ∀ (n : Nat) (v_54 : Int32) (g_55 : Nat → Int32) (H : Heap) (locs : List Loc) (ls : Array Slot), (2147483647 - v_54.toInt).toNat < n → (0 ≤ v_54.toInt ∧ v_54.toInt ≤ 6) → (zRg 10 0 9 g_55) → (zEq g_55 g_there v_54.toInt) → va_P G vwCl [(h0, .inr (12, [.int m_status, .int m_thrown, .long m_above, .long m_under, .ref a_traySort, .ref a_trayMany, .ref a_numbers, .ref a_tape, .int m_taped, .int m_textEnd, .int m_faultKind, .int m_faultAt, .int m_bad, .int m_badAt, .int m_token, .int m_at, .int m_behind, .int m_number, .int m_letters, .long m_word, .ref a_c, .ref a_words, .int m_markMany, .ref a_there, .ref a_tried, .ref a_best, .ref a_found, .int m_thereMany, .int m_foundMany, .int h, .int m_orderRing, .int m_thereMany, .int m_hasBest, .long m_bestTop, .long m_bestBy, .ref a_weights, .ref a_shared, .int m_random, .int m_truePlace, .int m_trueWay, .int m_seconds, .int m_done, .int m_feelings, .int m_tries, .int m_leftOver, .int m_playDoor, .int m_playRing, .int m_isOpen, .int m_isOver, .int m_wasTried, .int m_hasPlayed, .ref a_feltNow, .ref a_last, .ref a_kept, .int m_hasSeconds, .int m_hasTurned, .int m_hasRound, .ref a_hasFeels, .ref a_isOn, .int m_firstAct, .long m_meanTop, .long m_meanBy, .ref a_order, .int m_rowMany, .int m_newSteps])), (a_c, .inl (cA.1 0, 1825, .inl g_c)), (a_there, .inl (cA.1 0, 10, .inl g_there)), (a_tried, .inl (cA.1 0, 10, .inl g_tried)), (a_best, .inl (cA.1 0, 10, .inl g_55)), (a_found, .inl (cA.1 0, 10, .inl g_found)), (a_order, .inl (cA.1 0, 10, .inl g_order))] H → va_D A [(h0, .inr (12, [.int m_status, .int m_thrown, .long m_above, .long m_under, .ref a_traySort, .ref a_trayMany, .ref a_numbers, .ref a_tape, .int m_taped, .int m_textEnd, .int m_faultKind, .int m_faultAt, .int m_bad, .int m_badAt, .int m_token, .int m_at, .int m_behind, .int m_number, .int m_letters, .long m_word, .ref a_c, .ref a_words, .int m_markMany, .ref a_there, .ref a_tried, .ref a_best, .ref a_found, .int m_thereMany, .int m_foundMany, .int h, .int m_orderRing, .int m_thereMany, .int m_hasBest, .long m_bestTop, .long m_bestBy, .ref a_weights, .ref a_shared, .int m_random, .int m_truePlace, .int m_trueWay, .int m_seconds, .int m_done, .int m_feelings, .int m_tries, .int m_leftOver, .int m_playDoor, .int m_playRing, .int m_isOpen, .int m_isOver, .int m_wasTried, .int m_hasPlayed, .ref a_feltNow, .ref a_last, .ref a_kept, .int m_hasSeconds, .int m_hasTurned, .int m_hasRound, .ref a_hasFeels, .ref a_isOn, .int m_firstAct, .long m_meanTop, .long m_meanBy, .ref a_order, .int m_rowMany, .int m_newSteps])), (a_c, .inl (cA.1 0, 1825, .inl g_c)), (a_there, .inl (cA.1 0, 10, .inl g_there)), (a_tried, .inl (cA.1 0, 10, .inl g_tried)), (a_best, .inl (cA.1 0, 10, .inl g_55)), (a_found, .inl (cA.1 0, 10, .inl g_found)), (a_order, .inl (cA.1 0, 10, .inl g_order))] → va_S A s.heap H locs → lv_has ls 3 [(0, .ref h0), (1, .int h), (2, .int v_54)] → W p l e ({ frames := 12, cells := 0, slots := 0, locals := 272 }) s m args below meth c H locs 0 0 Q (F0 m 15 ls []) := by
    intro n
    induction n with
    | zero =>
      intro v_54 g_55 H locs ls hmu_hlp_63 hr_v_54 hC_g_55 hi_62 hP hD hS hl
      exact absurd hmu_hlp_63 (Nat.not_lt_zero _)
    | succ n ih_64 =>
      intro v_54 g_55 H locs ls hmu_hlp_63 hr_v_54 hC_g_55 hi_62 hP hD hS hl
      refine lv_iload_n hx hb dX12_findOrder_15 rfl (lv_at hl 2 rfl) ?_
      refine lv_aload_n hx hb dX12_findOrder_16 rfl (lv_at hl 0 rfl) ?_
      refine va_get (D := G) (ci := 12) (v := .int m_thereMany) (C := RX12) (T := TX12) (N := 65) hx hb hts inT12 hown hK hP 0 rfl rfl 27 (by decide) (hts _ tw_1912) (fun _ h9 => h9) rfl dX12_findOrder_17 ?_
      refine lv_icmp_ge (tgt := 41) hx hb dX12_findOrder_20 (by decide) (fun c_65 => ?_) (fun c_65 => ?_)
      · have b_66 := z_fgeT c_65
        refine lv_aload_n hx hb dX12_findOrder_41 rfl (lv_at hl 0 rfl) ?_
        refine lv_iconst (v := 0) hx hb dX12_findOrder_42 (by decide) ?_
        refine va_put (D := G) (ci := 12) (v := .int 0) (ty := .boolean) (C := RX12) (T := TX12) (N := 65) hx hb hts inT12 tyX12 tyX12_ok nmX12 hown hK hP hD hS 0 rfl rfl 32 (by decide) (hts _ tw_1916) (fun _ h9 => h9) rfl (tyX12_ok 32 (by decide)) rfl rfl (Nat.le_of_ble_eq_true rfl) dX12_findOrder_43 (fun H locs hP hD hS => ?_)
        refine lv_aload_n hx hb dX12_findOrder_46 rfl (lv_at hl 0 rfl) ?_
        rcases (show m_thereMany.toInt = 0 ∨ m_thereMany.toInt = 1 ∨ m_thereMany.toInt = 2 ∨ m_thereMany.toInt = 3 ∨ m_thereMany.toInt = 4 ∨ m_thereMany.toInt = 5 ∨ m_thereMany.toInt = 6 by omega) with h_67 | h_67 | h_67 | h_67 | h_67 | h_67 | h_67
        · skip
          refine lv_iconst (v := 0) hx hb dX12_findOrder_47 (by decide) ?_
          refine z_callVv (As := [.int 0]) (rest := []) (wr := [(a_found, .inl (cA.1 0, 10, .inl g_found))]) ⟨hx, hb, hml, hown, hts⟩ hK hE hT hP hD hS hA (r_orderFrom_0 l G cA h0 m_status m_thrown m_above m_under a_traySort a_trayMany a_numbers a_tape m_taped m_textEnd m_faultKind m_faultAt m_bad m_badAt m_token m_at m_behind m_number m_letters m_word a_c a_words m_markMany a_there a_tried a_best a_found m_thereMany m_foundMany h m_orderRing m_thereMany 0 m_bestTop m_bestBy a_weights a_shared m_random m_truePlace m_trueWay m_seconds m_done m_feelings m_tries m_leftOver m_playDoor m_playRing m_isOpen m_isOver m_wasTried m_hasPlayed a_feltNow a_last a_kept m_hasSeconds m_hasTurned m_hasRound a_hasFeels a_isOn m_firstAct m_meanTop m_meanBy a_order m_rowMany m_newSteps g_c g_there g_tried g_55 g_order 0 (by decide +kernel) (z_rgw hr_m_thereMany (by decide) (by decide)) hr_m_thereMany hr_h (by decide +kernel) (Or.inl rfl) hC_g_c hC_g_there hC_g_tried hC_g_55 hC_g_order (by omega) (by omega) (fun h => zOK_0 (zEq_less hi_62 (by omega)) (hp_0 h).1 (hp_0 h).2) (by omega)) lk_RX12_429 ⟨rfl, rfl⟩ ⟨Nat.le_of_ble_eq_true rfl, Nat.le_of_ble_eq_true rfl⟩ 12 rfl rfl rfl [0, 1, 2, 3, 4, 6] [5] rfl rfl (by decide) rfl hl.1 rfl (lv_room (Nat.le_of_ble_eq_true rfl)) dX12_findOrder_48 ⟨Nat.le_of_ble_eq_true rfl, Nat.le_of_ble_eq_true rfl⟩ (fun u_76 H locs hw hP hD hS => ?_)
          obtain ⟨n_68, n_69, n_70, n_71, n_72, n_73, n_74⟩ := u_76
          try dsimp only at hw
          obtain ⟨hz_n_68, hr_n_68, hr_n_72, hC_n_73, hC_n_74, hf_77, hf_78, hf_79⟩ := hw
          refine lv_aload_n hx hb dX12_findOrder_51 rfl (lv_at hl 0 rfl) ?_
          refine lv_aload_n hx hb dX12_findOrder_52 rfl (lv_at hl 0 rfl) ?_
          refine va_get (D := G) (ci := 12) (v := .int m_thereMany) (C := RX12) (T := TX12) (N := 65) hx hb hts inT12 hown hK hP 1 rfl rfl 31 (by decide) (hts _ tw_1915) (fun _ h9 => h9) rfl dX12_findOrder_53 ?_
          refine va_put (D := G) (ci := 12) (v := .int m_thereMany) (ty := .int) (C := RX12) (T := TX12) (N := 65) hx hb hts inT12 tyX12 tyX12_ok nmX12 hown hK hP hD hS 1 rfl rfl 28 (by decide) (hts _ tw_1913) (fun _ h9 => h9) rfl (tyX12_ok 28 (by decide)) rfl rfl (Nat.le_of_ble_eq_true rfl) dX12_findOrder_56 (fun H locs hP hD hS => ?_)
          refine lv_iconst (v := 0) hx hb dX12_findOrder_59 (by decide) ?_
          refine lv_istore_n (lv' := [(2, .int 0), (0, .ref h0), (1, .int h)]) hx hb dX12_findOrder_60 rfl hl (by decide) rfl (fun ls hl => ?_)
          have hlp_84 : ∀ (n : Nat) (H : Heap) (locs : List Loc) (ls : Array Slot), 0 < n → va_P G vwCl [(a_found, .inl (cA.1 0, 10, .inl g_found)), (h0, .inr (12, [.int m_status, .int m_thrown, .long m_above, .long m_under, .ref a_traySort, .ref a_trayMany, .ref a_numbers, .ref a_tape, .int m_taped, .int m_textEnd, .int m_faultKind, .int m_faultAt, .int m_bad, .int m_badAt, .int m_token, .int m_at, .int m_behind, .int m_number, .int m_letters, .long m_word, .ref a_c, .ref a_words, .int m_markMany, .ref a_there, .ref a_tried, .ref a_best, .ref a_found, .int m_thereMany, .int m_thereMany, .int h, .int m_orderRing, .int m_thereMany, .int n_68, .long n_69, .long n_70, .ref a_weights, .ref a_shared, .int m_random, .int m_truePlace, .int m_trueWay, .int m_seconds, .int m_done, .int m_feelings, .int m_tries, .int m_leftOver, .int m_playDoor, .int m_playRing, .int m_isOpen, .int m_isOver, .int m_wasTried, .int m_hasPlayed, .ref a_feltNow, .ref a_last, .ref a_kept, .int m_hasSeconds, .int m_hasTurned, .int m_hasRound, .ref a_hasFeels, .ref a_isOn, .int m_firstAct, .long n_71, .long n_72, .ref a_order, .int m_rowMany, .int m_newSteps])), (a_c, .inl (cA.1 0, 1825, .inl g_c)), (a_there, .inl (cA.1 0, 10, .inl n_73)), (a_tried, .inl (cA.1 0, 10, .inl g_tried)), (a_best, .inl (cA.1 0, 10, .inl g_55)), (a_order, .inl (cA.1 0, 10, .inl n_74))] H → va_D A [(a_found, .inl (cA.1 0, 10, .inl g_found)), (h0, .inr (12, [.int m_status, .int m_thrown, .long m_above, .long m_under, .ref a_traySort, .ref a_trayMany, .ref a_numbers, .ref a_tape, .int m_taped, .int m_textEnd, .int m_faultKind, .int m_faultAt, .int m_bad, .int m_badAt, .int m_token, .int m_at, .int m_behind, .int m_number, .int m_letters, .long m_word, .ref a_c, .ref a_words, .int m_markMany, .ref a_there, .ref a_tried, .ref a_best, .ref a_found, .int m_thereMany, .int m_thereMany, .int h, .int m_orderRing, .int m_thereMany, .int n_68, .long n_69, .long n_70, .ref a_weights, .ref a_shared, .int m_random, .int m_truePlace, .int m_trueWay, .int m_seconds, .int m_done, .int m_feelings, .int m_tries, .int m_leftOver, .int m_playDoor, .int m_playRing, .int m_isOpen, .int m_isOver, .int m_wasTried, .int m_hasPlayed, .ref a_feltNow, .ref a_last, .ref a_kept, .int m_hasSeconds, .int m_hasTurned, .int m_hasRound, .ref a_hasFeels, .ref a_isOn, .int m_firstAct, .long n_71, .long n_72, .ref a_order, .int m_rowMany, .int m_newSteps])), (a_c, .inl (cA.1 0, 1825, .inl g_c)), (a_there, .inl (cA.1 0, 10, .inl n_73)), (a_tried, .inl (cA.1 0, 10, .inl g_tried)), (a_best, .inl (cA.1 0, 10, .inl g_55)), (a_order, .inl (cA.1 0, 10, .inl n_74))] → va_S A s.heap H locs → lv_has ls 3 [(0, .ref h0), (1, .int h), (2, .int 0)] → W p l e ({ frames := 12, cells := 0, slots := 0, locals := 272 }) s m args below meth c H locs 0 0 Q (F0 m 61 ls []) := by
            intro n
            induction n with
            | zero =>
              intro H locs ls hmu_hlp_84 hP hD hS hl
              exact absurd hmu_hlp_84 (Nat.not_lt_zero _)
            | succ n ih_85 =>
              intro H locs ls hmu_hlp_84 hP hD hS hl
              refine lv_iload_n hx hb dX12_findOrder_61 rfl (lv_at hl 2 rfl) ?_
              refine lv_aload_n hx hb dX12_findOrder_62 rfl (lv_at hl 0 rfl) ?_
              refine va_get (D := G) (ci := 12) (v := .int m_thereMany) (C := RX12) (T := TX12) (N := 65) hx hb hts inT12 hown hK hP 1 rfl rfl 31 (by decide) (hts _ tw_1915) (fun _ h9 => h9) rfl dX12_findOrder_63 ?_
              refine lv_icmp_ge (tgt := 87) hx hb dX12_findOrder_66 (by decide) (fun c_86 => ?_) (fun h9 => (z_no (by have h8 := z_fltF h9; omega)))
              have b_87 := z_fgeT c_86
              have hpost : (0 ≤ m_thereMany.toInt ∧ m_thereMany.toInt ≤ 6) ∧ (0 ≤ h.toInt ∧ h.toInt ≤ 2) ∧ (0 ≤ m_thereMany.toInt ∧ m_thereMany.toInt ≤ 6) ∧ (n_68 = 0 ∨ n_68 = 1) ∧ (0 ≤ n_68.toInt ∧ n_68.toInt ≤ 1) ∧ (zRg 10 0 9 n_73) ∧ (zRg 10 0 9 g_55) ∧ (zRg 10 0 9 n_74) ∧ (zRg 10 0 9 g_tried) ∧ (zRg 10 0 9 g_found) ∧ (h.toInt ≠ 2 → n_68.toInt = 1 ∧ 1 ≤ n_70.toInt) := ⟨hr_m_thereMany, hr_h, hr_m_thereMany, hz_n_68, hr_n_68, hC_n_73, hC_g_55, hC_n_74, hC_g_tried, hC_g_found, (fun h9 => ⟨hf_78 h9, by have := hf_78 h9; omega⟩)⟩
              exact hret _ _ _ _ _ (m_thereMany, h, m_thereMany, n_68, n_69, n_70, n_71, n_72, n_73, g_55, n_74, g_tried, g_found) [1, 2, 3, 4, 5, 0, 6] hP hD hS rfl (by decide) dX12_findOrder_87 hpost
          exact hlp_84 _ _ _ _ (Nat.lt_succ_self _) hP hD hS (lv_sub hl [1, 2, 0] rfl)
        · skip
          refine lv_iconst (v := 0) hx hb dX12_findOrder_47 (by decide) ?_
          refine z_callVv (As := [.int 0]) (rest := []) (wr := [(a_found, .inl (cA.1 0, 10, .inl g_found))]) ⟨hx, hb, hml, hown, hts⟩ hK hE hT hP hD hS hA (r_orderFrom_1 l G cA h0 m_status m_thrown m_above m_under a_traySort a_trayMany a_numbers a_tape m_taped m_textEnd m_faultKind m_faultAt m_bad m_badAt m_token m_at m_behind m_number m_letters m_word a_c a_words m_markMany a_there a_tried a_best a_found m_thereMany m_foundMany h m_orderRing m_thereMany 0 m_bestTop m_bestBy a_weights a_shared m_random m_truePlace m_trueWay m_seconds m_done m_feelings m_tries m_leftOver m_playDoor m_playRing m_isOpen m_isOver m_wasTried m_hasPlayed a_feltNow a_last a_kept m_hasSeconds m_hasTurned m_hasRound a_hasFeels a_isOn m_firstAct m_meanTop m_meanBy a_order m_rowMany m_newSteps g_c g_there g_tried g_55 g_order 0 (by decide +kernel) (z_rgw hr_m_thereMany (by decide) (by decide)) (by omega) hr_h (by decide +kernel) (Or.inl rfl) hC_g_c hC_g_there hC_g_tried hC_g_55 hC_g_order (by omega) (by omega) (fun h => zOK_0 (zEq_less hi_62 (by omega)) (hp_0 h).1 (hp_0 h).2) (by omega)) lk_RX12_429 ⟨rfl, rfl⟩ ⟨Nat.le_of_ble_eq_true rfl, Nat.le_of_ble_eq_true rfl⟩ 12 rfl rfl rfl [0, 1, 2, 3, 4, 6] [5] rfl rfl (by decide) rfl hl.1 rfl (lv_room (Nat.le_of_ble_eq_true rfl)) dX12_findOrder_48 ⟨Nat.le_of_ble_eq_true rfl, Nat.le_of_ble_eq_true rfl⟩ (fun u_97 H locs hw hP hD hS => ?_)
          obtain ⟨n_88, n_89, n_90, n_91, n_92, n_93, n_94, n_95⟩ := u_97
          try dsimp only at hw
          obtain ⟨hz_n_88, hr_n_88, hC_n_93, hC_n_94, hC_n_95, hf_98, hf_99, hf_100⟩ := hw
          refine lv_aload_n hx hb dX12_findOrder_51 rfl (lv_at hl 0 rfl) ?_
          refine lv_aload_n hx hb dX12_findOrder_52 rfl (lv_at hl 0 rfl) ?_
          refine va_get (D := G) (ci := 12) (v := .int m_thereMany) (C := RX12) (T := TX12) (N := 65) hx hb hts inT12 hown hK hP 1 rfl rfl 31 (by decide) (hts _ tw_1915) (fun _ h9 => h9) rfl dX12_findOrder_53 ?_
          refine va_put (D := G) (ci := 12) (v := .int m_thereMany) (ty := .int) (C := RX12) (T := TX12) (N := 65) hx hb hts inT12 tyX12 tyX12_ok nmX12 hown hK hP hD hS 1 rfl rfl 28 (by decide) (hts _ tw_1913) (fun _ h9 => h9) rfl (tyX12_ok 28 (by decide)) rfl rfl (Nat.le_of_ble_eq_true rfl) dX12_findOrder_56 (fun H locs hP hD hS => ?_)
          refine lv_iconst (v := 0) hx hb dX12_findOrder_59 (by decide) ?_
          refine lv_istore_n (lv' := [(2, .int 0), (0, .ref h0), (1, .int h)]) hx hb dX12_findOrder_60 rfl hl (by decide) rfl (fun ls hl => ?_)
          have hlp_121 : ∀ (n : Nat) (v_113 : Int32) (g_114 : Nat → Int32) (H : Heap) (locs : List Loc) (ls : Array Slot), (2147483647 - v_113.toInt).toNat < n → (0 ≤ v_113.toInt ∧ v_113.toInt ≤ 1) → (zRg 10 0 9 g_114) → va_P G vwCl [(a_found, .inl (cA.1 0, 10, .inl g_114)), (h0, .inr (12, [.int m_status, .int m_thrown, .long m_above, .long m_under, .ref a_traySort, .ref a_trayMany, .ref a_numbers, .ref a_tape, .int m_taped, .int m_textEnd, .int m_faultKind, .int m_faultAt, .int m_bad, .int m_badAt, .int m_token, .int m_at, .int m_behind, .int m_number, .int m_letters, .long m_word, .ref a_c, .ref a_words, .int m_markMany, .ref a_there, .ref a_tried, .ref a_best, .ref a_found, .int m_thereMany, .int m_thereMany, .int h, .int m_orderRing, .int m_thereMany, .int n_88, .long n_89, .long n_90, .ref a_weights, .ref a_shared, .int m_random, .int m_truePlace, .int m_trueWay, .int m_seconds, .int m_done, .int m_feelings, .int m_tries, .int m_leftOver, .int m_playDoor, .int m_playRing, .int m_isOpen, .int m_isOver, .int m_wasTried, .int m_hasPlayed, .ref a_feltNow, .ref a_last, .ref a_kept, .int m_hasSeconds, .int m_hasTurned, .int m_hasRound, .ref a_hasFeels, .ref a_isOn, .int m_firstAct, .long n_91, .long n_92, .ref a_order, .int m_rowMany, .int m_newSteps])), (a_c, .inl (cA.1 0, 1825, .inl g_c)), (a_there, .inl (cA.1 0, 10, .inl n_93)), (a_tried, .inl (cA.1 0, 10, .inl n_94)), (a_best, .inl (cA.1 0, 10, .inl g_55)), (a_order, .inl (cA.1 0, 10, .inl n_95))] H → va_D A [(a_found, .inl (cA.1 0, 10, .inl g_114)), (h0, .inr (12, [.int m_status, .int m_thrown, .long m_above, .long m_under, .ref a_traySort, .ref a_trayMany, .ref a_numbers, .ref a_tape, .int m_taped, .int m_textEnd, .int m_faultKind, .int m_faultAt, .int m_bad, .int m_badAt, .int m_token, .int m_at, .int m_behind, .int m_number, .int m_letters, .long m_word, .ref a_c, .ref a_words, .int m_markMany, .ref a_there, .ref a_tried, .ref a_best, .ref a_found, .int m_thereMany, .int m_thereMany, .int h, .int m_orderRing, .int m_thereMany, .int n_88, .long n_89, .long n_90, .ref a_weights, .ref a_shared, .int m_random, .int m_truePlace, .int m_trueWay, .int m_seconds, .int m_done, .int m_feelings, .int m_tries, .int m_leftOver, .int m_playDoor, .int m_playRing, .int m_isOpen, .int m_isOver, .int m_wasTried, .int m_hasPlayed, .ref a_feltNow, .ref a_last, .ref a_kept, .int m_hasSeconds, .int m_hasTurned, .int m_hasRound, .ref a_hasFeels, .ref a_isOn, .int m_firstAct, .long n_91, .long n_92, .ref a_order, .int m_rowMany, .int m_newSteps])), (a_c, .inl (cA.1 0, 1825, .inl g_c)), (a_there, .inl (cA.1 0, 10, .inl n_93)), (a_tried, .inl (cA.1 0, 10, .inl n_94)), (a_best, .inl (cA.1 0, 10, .inl g_55)), (a_order, .inl (cA.1 0, 10, .inl n_95))] → va_S A s.heap H locs → lv_has ls 3 [(0, .ref h0), (1, .int h), (2, .int v_113)] → W p l e ({ frames := 12, cells := 0, slots := 0, locals := 272 }) s m args below meth c H locs 0 0 Q (F0 m 61 ls []) := by
            intro n
            induction n with
            | zero =>
              intro v_113 g_114 H locs ls hmu_hlp_121 hr_v_113 hC_g_114 hP hD hS hl
              exact absurd hmu_hlp_121 (Nat.not_lt_zero _)
            | succ n ih_122 =>
              intro v_113 g_114 H locs ls hmu_hlp_121 hr_v_113 hC_g_114 hP hD hS hl
              refine lv_iload_n hx hb dX12_findOrder_61 rfl (lv_at hl 2 rfl) ?_
              refine lv_aload_n hx hb dX12_findOrder_62 rfl (lv_at hl 0 rfl) ?_
              refine va_get (D := G) (ci := 12) (v := .int m_thereMany) (C := RX12) (T := TX12) (N := 65) hx hb hts inT12 hown hK hP 1 rfl rfl 31 (by decide) (hts _ tw_1915) (fun _ h9 => h9) rfl dX12_findOrder_63 ?_
              refine lv_icmp_ge (tgt := 87) hx hb dX12_findOrder_66 (by decide) (fun c_123 => ?_) (fun c_123 => ?_)
              · have b_124 := z_fgeT c_123
                have hpost : (0 ≤ m_thereMany.toInt ∧ m_thereMany.toInt ≤ 6) ∧ (0 ≤ h.toInt ∧ h.toInt ≤ 2) ∧ (0 ≤ m_thereMany.toInt ∧ m_thereMany.toInt ≤ 6) ∧ (n_88 = 0 ∨ n_88 = 1) ∧ (0 ≤ n_88.toInt ∧ n_88.toInt ≤ 1) ∧ (zRg 10 0 9 n_93) ∧ (zRg 10 0 9 g_55) ∧ (zRg 10 0 9 n_95) ∧ (zRg 10 0 9 n_94) ∧ (zRg 10 0 9 g_114) ∧ (h.toInt ≠ 2 → n_88.toInt = 1 ∧ 1 ≤ n_90.toInt) := ⟨hr_m_thereMany, hr_h, hr_m_thereMany, hz_n_88, hr_n_88, hC_n_93, hC_g_55, hC_n_95, hC_n_94, hC_g_114, (fun h9 => ⟨hf_99 h9, by have := hf_99 h9; omega⟩)⟩
                exact hret _ _ _ _ _ (m_thereMany, h, m_thereMany, n_88, n_89, n_90, n_91, n_92, n_93, g_55, n_95, n_94, g_114) [1, 2, 3, 4, 5, 0, 6] hP hD hS rfl (by decide) dX12_findOrder_87 hpost
              · have b_125 := z_fltF c_123
                refine lv_aload_n hx hb dX12_findOrder_69 rfl (lv_at hl 0 rfl) ?_
                refine va_get (D := G) (ci := 12) (v := .ref a_found) (C := RX12) (T := TX12) (N := 65) hx hb hts inT12 hown hK hP 1 rfl rfl 26 (by decide) (hts _ tw_1911) (fun _ h9 => h9) rfl dX12_findOrder_70 ?_
                refine lv_iload_n hx hb dX12_findOrder_73 rfl (lv_at hl 2 rfl) ?_
                refine lv_aload_n hx hb dX12_findOrder_74 rfl (lv_at hl 0 rfl) ?_
                refine va_get (D := G) (ci := 12) (v := .ref a_order) (C := RX12) (T := TX12) (N := 65) hx hb hts inT12 hown hK hP 1 rfl rfl 62 (by decide) (hts _ tw_1945) (fun _ h9 => h9) rfl dX12_findOrder_75 ?_
                refine lv_iload_n hx hb dX12_findOrder_78 rfl (lv_at hl 2 rfl) ?_
                refine va_iald hx hb hK hP 6 0 rfl rfl (z_inN (by omega) (by omega)) dX12_findOrder_79 ?_
                refine lv_topi (fun x_126 he_x_126 => ?_)
                have hr_x_126 := z_rg hC_n_95 he_x_126 (by omega) (by omega)
                refine z_iast hx hb hK hP hD hS 0 0 rfl rfl (z_inN (by omega) (by omega)) dX12_findOrder_80 (fun g_127 hg_g_127 H locs hP hD hS => ?_)
                have hC_g_127 := z_rgU hC_g_114 hg_g_127 (by omega)
                obtain ⟨x_128, he_x_128⟩ : ∃ z : Int32, z = v_113 + 1 := ⟨_, rfl⟩
                have hq_x_128 := z_addq he_x_128 (rfl : v_113.toInt = _) hk_1 (by omega) (by omega)
                refine lv_iinc (v := x_128) (lv' := [(2, .int x_128), (0, .ref h0), (1, .int h)]) hx hb dX12_findOrder_81 hl (k := 2) rfl ((z_ofi (by decide +kernel)).trans he_x_128.symm) (by decide) rfl (fun ls hl => ?_)
                refine lv_goto (tgt := 61) hx hb dX12_findOrder_84 (by decide) ?_
                exact ih_122 x_128 g_127 H locs ls (by omega) (by omega) hC_g_127 hP hD hS (lv_sub hl [1, 2, 0] rfl)
          exact hlp_121 _ 0 g_found _ _ _ (Nat.lt_succ_self _) (by decide +kernel) hC_g_found hP hD hS (lv_sub hl [1, 2, 0] rfl)
        · skip
          refine lv_iconst (v := 0) hx hb dX12_findOrder_47 (by decide) ?_
          refine z_callVv (As := [.int 0]) (rest := []) (wr := [(a_found, .inl (cA.1 0, 10, .inl g_found))]) ⟨hx, hb, hml, hown, hts⟩ hK hE hT hP hD hS hA (r_orderFrom_2 l G cA h0 m_status m_thrown m_above m_under a_traySort a_trayMany a_numbers a_tape m_taped m_textEnd m_faultKind m_faultAt m_bad m_badAt m_token m_at m_behind m_number m_letters m_word a_c a_words m_markMany a_there a_tried a_best a_found m_thereMany m_foundMany h m_orderRing m_thereMany 0 m_bestTop m_bestBy a_weights a_shared m_random m_truePlace m_trueWay m_seconds m_done m_feelings m_tries m_leftOver m_playDoor m_playRing m_isOpen m_isOver m_wasTried m_hasPlayed a_feltNow a_last a_kept m_hasSeconds m_hasTurned m_hasRound a_hasFeels a_isOn m_firstAct m_meanTop m_meanBy a_order m_rowMany m_newSteps g_c g_there g_tried g_55 g_order 0 (by decide +kernel) (z_rgw hr_m_thereMany (by decide) (by decide)) (by omega) hr_h (by decide +kernel) (Or.inl rfl) hC_g_c hC_g_there hC_g_tried hC_g_55 hC_g_order (by omega) (by omega) (fun h => zOK_0 (zEq_less hi_62 (by omega)) (hp_0 h).1 (hp_0 h).2) (by omega)) lk_RX12_429 ⟨rfl, rfl⟩ ⟨Nat.le_of_ble_eq_true rfl, Nat.le_of_ble_eq_true rfl⟩ 12 rfl rfl rfl [0, 1, 2, 3, 4, 6] [5] rfl rfl (by decide) rfl hl.1 rfl (lv_room (Nat.le_of_ble_eq_true rfl)) dX12_findOrder_48 ⟨Nat.le_of_ble_eq_true rfl, Nat.le_of_ble_eq_true rfl⟩ (fun u_138 H locs hw hP hD hS => ?_)
          obtain ⟨n_129, n_130, n_131, n_132, n_133, n_134, n_135, n_136⟩ := u_138
          try dsimp only at hw
          obtain ⟨hz_n_129, hr_n_129, hC_n_134, hC_n_135, hC_n_136, hf_139, hf_140, hf_141⟩ := hw
          refine lv_aload_n hx hb dX12_findOrder_51 rfl (lv_at hl 0 rfl) ?_
          refine lv_aload_n hx hb dX12_findOrder_52 rfl (lv_at hl 0 rfl) ?_
          refine va_get (D := G) (ci := 12) (v := .int m_thereMany) (C := RX12) (T := TX12) (N := 65) hx hb hts inT12 hown hK hP 1 rfl rfl 31 (by decide) (hts _ tw_1915) (fun _ h9 => h9) rfl dX12_findOrder_53 ?_
          refine va_put (D := G) (ci := 12) (v := .int m_thereMany) (ty := .int) (C := RX12) (T := TX12) (N := 65) hx hb hts inT12 tyX12 tyX12_ok nmX12 hown hK hP hD hS 1 rfl rfl 28 (by decide) (hts _ tw_1913) (fun _ h9 => h9) rfl (tyX12_ok 28 (by decide)) rfl rfl (Nat.le_of_ble_eq_true rfl) dX12_findOrder_56 (fun H locs hP hD hS => ?_)
          refine lv_iconst (v := 0) hx hb dX12_findOrder_59 (by decide) ?_
          refine lv_istore_n (lv' := [(2, .int 0), (0, .ref h0), (1, .int h)]) hx hb dX12_findOrder_60 rfl hl (by decide) rfl (fun ls hl => ?_)
          have hlp_169 : ∀ (n : Nat) (v_161 : Int32) (g_162 : Nat → Int32) (H : Heap) (locs : List Loc) (ls : Array Slot), (2147483647 - v_161.toInt).toNat < n → (0 ≤ v_161.toInt ∧ v_161.toInt ≤ 2) → (zRg 10 0 9 g_162) → va_P G vwCl [(a_found, .inl (cA.1 0, 10, .inl g_162)), (h0, .inr (12, [.int m_status, .int m_thrown, .long m_above, .long m_under, .ref a_traySort, .ref a_trayMany, .ref a_numbers, .ref a_tape, .int m_taped, .int m_textEnd, .int m_faultKind, .int m_faultAt, .int m_bad, .int m_badAt, .int m_token, .int m_at, .int m_behind, .int m_number, .int m_letters, .long m_word, .ref a_c, .ref a_words, .int m_markMany, .ref a_there, .ref a_tried, .ref a_best, .ref a_found, .int m_thereMany, .int m_thereMany, .int h, .int m_orderRing, .int m_thereMany, .int n_129, .long n_130, .long n_131, .ref a_weights, .ref a_shared, .int m_random, .int m_truePlace, .int m_trueWay, .int m_seconds, .int m_done, .int m_feelings, .int m_tries, .int m_leftOver, .int m_playDoor, .int m_playRing, .int m_isOpen, .int m_isOver, .int m_wasTried, .int m_hasPlayed, .ref a_feltNow, .ref a_last, .ref a_kept, .int m_hasSeconds, .int m_hasTurned, .int m_hasRound, .ref a_hasFeels, .ref a_isOn, .int m_firstAct, .long n_132, .long n_133, .ref a_order, .int m_rowMany, .int m_newSteps])), (a_c, .inl (cA.1 0, 1825, .inl g_c)), (a_there, .inl (cA.1 0, 10, .inl n_134)), (a_tried, .inl (cA.1 0, 10, .inl n_135)), (a_best, .inl (cA.1 0, 10, .inl g_55)), (a_order, .inl (cA.1 0, 10, .inl n_136))] H → va_D A [(a_found, .inl (cA.1 0, 10, .inl g_162)), (h0, .inr (12, [.int m_status, .int m_thrown, .long m_above, .long m_under, .ref a_traySort, .ref a_trayMany, .ref a_numbers, .ref a_tape, .int m_taped, .int m_textEnd, .int m_faultKind, .int m_faultAt, .int m_bad, .int m_badAt, .int m_token, .int m_at, .int m_behind, .int m_number, .int m_letters, .long m_word, .ref a_c, .ref a_words, .int m_markMany, .ref a_there, .ref a_tried, .ref a_best, .ref a_found, .int m_thereMany, .int m_thereMany, .int h, .int m_orderRing, .int m_thereMany, .int n_129, .long n_130, .long n_131, .ref a_weights, .ref a_shared, .int m_random, .int m_truePlace, .int m_trueWay, .int m_seconds, .int m_done, .int m_feelings, .int m_tries, .int m_leftOver, .int m_playDoor, .int m_playRing, .int m_isOpen, .int m_isOver, .int m_wasTried, .int m_hasPlayed, .ref a_feltNow, .ref a_last, .ref a_kept, .int m_hasSeconds, .int m_hasTurned, .int m_hasRound, .ref a_hasFeels, .ref a_isOn, .int m_firstAct, .long n_132, .long n_133, .ref a_order, .int m_rowMany, .int m_newSteps])), (a_c, .inl (cA.1 0, 1825, .inl g_c)), (a_there, .inl (cA.1 0, 10, .inl n_134)), (a_tried, .inl (cA.1 0, 10, .inl n_135)), (a_best, .inl (cA.1 0, 10, .inl g_55)), (a_order, .inl (cA.1 0, 10, .inl n_136))] → va_S A s.heap H locs → lv_has ls 3 [(0, .ref h0), (1, .int h), (2, .int v_161)] → W p l e ({ frames := 12, cells := 0, slots := 0, locals := 272 }) s m args below meth c H locs 0 0 Q (F0 m 61 ls []) := by
            intro n
            induction n with
            | zero =>
              intro v_161 g_162 H locs ls hmu_hlp_169 hr_v_161 hC_g_162 hP hD hS hl
              exact absurd hmu_hlp_169 (Nat.not_lt_zero _)
            | succ n ih_170 =>
              intro v_161 g_162 H locs ls hmu_hlp_169 hr_v_161 hC_g_162 hP hD hS hl
              refine lv_iload_n hx hb dX12_findOrder_61 rfl (lv_at hl 2 rfl) ?_
              refine lv_aload_n hx hb dX12_findOrder_62 rfl (lv_at hl 0 rfl) ?_
              refine va_get (D := G) (ci := 12) (v := .int m_thereMany) (C := RX12) (T := TX12) (N := 65) hx hb hts inT12 hown hK hP 1 rfl rfl 31 (by decide) (hts _ tw_1915) (fun _ h9 => h9) rfl dX12_findOrder_63 ?_
              refine lv_icmp_ge (tgt := 87) hx hb dX12_findOrder_66 (by decide) (fun c_171 => ?_) (fun c_171 => ?_)
              · have b_172 := z_fgeT c_171
                have hpost : (0 ≤ m_thereMany.toInt ∧ m_thereMany.toInt ≤ 6) ∧ (0 ≤ h.toInt ∧ h.toInt ≤ 2) ∧ (0 ≤ m_thereMany.toInt ∧ m_thereMany.toInt ≤ 6) ∧ (n_129 = 0 ∨ n_129 = 1) ∧ (0 ≤ n_129.toInt ∧ n_129.toInt ≤ 1) ∧ (zRg 10 0 9 n_134) ∧ (zRg 10 0 9 g_55) ∧ (zRg 10 0 9 n_136) ∧ (zRg 10 0 9 n_135) ∧ (zRg 10 0 9 g_162) ∧ (h.toInt ≠ 2 → n_129.toInt = 1 ∧ 1 ≤ n_131.toInt) := ⟨hr_m_thereMany, hr_h, hr_m_thereMany, hz_n_129, hr_n_129, hC_n_134, hC_g_55, hC_n_136, hC_n_135, hC_g_162, (fun h9 => ⟨hf_140 h9, by have := hf_140 h9; omega⟩)⟩
                exact hret _ _ _ _ _ (m_thereMany, h, m_thereMany, n_129, n_130, n_131, n_132, n_133, n_134, g_55, n_136, n_135, g_162) [1, 2, 3, 4, 5, 0, 6] hP hD hS rfl (by decide) dX12_findOrder_87 hpost
              · have b_173 := z_fltF c_171
                refine lv_aload_n hx hb dX12_findOrder_69 rfl (lv_at hl 0 rfl) ?_
                refine va_get (D := G) (ci := 12) (v := .ref a_found) (C := RX12) (T := TX12) (N := 65) hx hb hts inT12 hown hK hP 1 rfl rfl 26 (by decide) (hts _ tw_1911) (fun _ h9 => h9) rfl dX12_findOrder_70 ?_
                refine lv_iload_n hx hb dX12_findOrder_73 rfl (lv_at hl 2 rfl) ?_
                refine lv_aload_n hx hb dX12_findOrder_74 rfl (lv_at hl 0 rfl) ?_
                refine va_get (D := G) (ci := 12) (v := .ref a_order) (C := RX12) (T := TX12) (N := 65) hx hb hts inT12 hown hK hP 1 rfl rfl 62 (by decide) (hts _ tw_1945) (fun _ h9 => h9) rfl dX12_findOrder_75 ?_
                refine lv_iload_n hx hb dX12_findOrder_78 rfl (lv_at hl 2 rfl) ?_
                refine va_iald hx hb hK hP 6 0 rfl rfl (z_inN (by omega) (by omega)) dX12_findOrder_79 ?_
                refine lv_topi (fun x_174 he_x_174 => ?_)
                have hr_x_174 := z_rg hC_n_136 he_x_174 (by omega) (by omega)
                refine z_iast hx hb hK hP hD hS 0 0 rfl rfl (z_inN (by omega) (by omega)) dX12_findOrder_80 (fun g_175 hg_g_175 H locs hP hD hS => ?_)
                have hC_g_175 := z_rgU hC_g_162 hg_g_175 (by omega)
                obtain ⟨x_176, he_x_176⟩ : ∃ z : Int32, z = v_161 + 1 := ⟨_, rfl⟩
                have hq_x_176 := z_addq he_x_176 (rfl : v_161.toInt = _) hk_1 (by omega) (by omega)
                refine lv_iinc (v := x_176) (lv' := [(2, .int x_176), (0, .ref h0), (1, .int h)]) hx hb dX12_findOrder_81 hl (k := 2) rfl ((z_ofi (by decide +kernel)).trans he_x_176.symm) (by decide) rfl (fun ls hl => ?_)
                refine lv_goto (tgt := 61) hx hb dX12_findOrder_84 (by decide) ?_
                exact ih_170 x_176 g_175 H locs ls (by omega) (by omega) hC_g_175 hP hD hS (lv_sub hl [1, 2, 0] rfl)
          exact hlp_169 _ 0 g_found _ _ _ (Nat.lt_succ_self _) (by decide +kernel) hC_g_found hP hD hS (lv_sub hl [1, 2, 0] rfl)
        · skip
          refine lv_iconst (v := 0) hx hb dX12_findOrder_47 (by decide) ?_
          refine z_callVv (As := [.int 0]) (rest := []) (wr := [(a_found, .inl (cA.1 0, 10, .inl g_found))]) ⟨hx, hb, hml, hown, hts⟩ hK hE hT hP hD hS hA (r_orderFrom_3 l G cA h0 m_status m_thrown m_above m_under a_traySort a_trayMany a_numbers a_tape m_taped m_textEnd m_faultKind m_faultAt m_bad m_badAt m_token m_at m_behind m_number m_letters m_word a_c a_words m_markMany a_there a_tried a_best a_found m_thereMany m_foundMany h m_orderRing m_thereMany 0 m_bestTop m_bestBy a_weights a_shared m_random m_truePlace m_trueWay m_seconds m_done m_feelings m_tries m_leftOver m_playDoor m_playRing m_isOpen m_isOver m_wasTried m_hasPlayed a_feltNow a_last a_kept m_hasSeconds m_hasTurned m_hasRound a_hasFeels a_isOn m_firstAct m_meanTop m_meanBy a_order m_rowMany m_newSteps g_c g_there g_tried g_55 g_order 0 (by decide +kernel) (z_rgw hr_m_thereMany (by decide) (by decide)) (by omega) hr_h (by decide +kernel) (Or.inl rfl) hC_g_c hC_g_there hC_g_tried hC_g_55 hC_g_order (by omega) (by omega) (fun h => zOK_0 (zEq_less hi_62 (by omega)) (hp_0 h).1 (hp_0 h).2) (by omega)) lk_RX12_429 ⟨rfl, rfl⟩ ⟨Nat.le_of_ble_eq_true rfl, Nat.le_of_ble_eq_true rfl⟩ 12 rfl rfl rfl [0, 1, 2, 3, 4, 6] [5] rfl rfl (by decide) rfl hl.1 rfl (lv_room (Nat.le_of_ble_eq_true rfl)) dX12_findOrder_48 ⟨Nat.le_of_ble_eq_true rfl, Nat.le_of_ble_eq_true rfl⟩ (fun u_186 H locs hw hP hD hS => ?_)
          obtain ⟨n_177, n_178, n_179, n_180, n_181, n_182, n_183, n_184⟩ := u_186
          try dsimp only at hw
          obtain ⟨hz_n_177, hr_n_177, hC_n_182, hC_n_183, hC_n_184, hf_187, hf_188, hf_189⟩ := hw
          refine lv_aload_n hx hb dX12_findOrder_51 rfl (lv_at hl 0 rfl) ?_
          refine lv_aload_n hx hb dX12_findOrder_52 rfl (lv_at hl 0 rfl) ?_
          refine va_get (D := G) (ci := 12) (v := .int m_thereMany) (C := RX12) (T := TX12) (N := 65) hx hb hts inT12 hown hK hP 1 rfl rfl 31 (by decide) (hts _ tw_1915) (fun _ h9 => h9) rfl dX12_findOrder_53 ?_
          refine va_put (D := G) (ci := 12) (v := .int m_thereMany) (ty := .int) (C := RX12) (T := TX12) (N := 65) hx hb hts inT12 tyX12 tyX12_ok nmX12 hown hK hP hD hS 1 rfl rfl 28 (by decide) (hts _ tw_1913) (fun _ h9 => h9) rfl (tyX12_ok 28 (by decide)) rfl rfl (Nat.le_of_ble_eq_true rfl) dX12_findOrder_56 (fun H locs hP hD hS => ?_)
          refine lv_iconst (v := 0) hx hb dX12_findOrder_59 (by decide) ?_
          refine lv_istore_n (lv' := [(2, .int 0), (0, .ref h0), (1, .int h)]) hx hb dX12_findOrder_60 rfl hl (by decide) rfl (fun ls hl => ?_)
          have hlp_224 : ∀ (n : Nat) (v_216 : Int32) (g_217 : Nat → Int32) (H : Heap) (locs : List Loc) (ls : Array Slot), (2147483647 - v_216.toInt).toNat < n → (0 ≤ v_216.toInt ∧ v_216.toInt ≤ 3) → (zRg 10 0 9 g_217) → va_P G vwCl [(a_found, .inl (cA.1 0, 10, .inl g_217)), (h0, .inr (12, [.int m_status, .int m_thrown, .long m_above, .long m_under, .ref a_traySort, .ref a_trayMany, .ref a_numbers, .ref a_tape, .int m_taped, .int m_textEnd, .int m_faultKind, .int m_faultAt, .int m_bad, .int m_badAt, .int m_token, .int m_at, .int m_behind, .int m_number, .int m_letters, .long m_word, .ref a_c, .ref a_words, .int m_markMany, .ref a_there, .ref a_tried, .ref a_best, .ref a_found, .int m_thereMany, .int m_thereMany, .int h, .int m_orderRing, .int m_thereMany, .int n_177, .long n_178, .long n_179, .ref a_weights, .ref a_shared, .int m_random, .int m_truePlace, .int m_trueWay, .int m_seconds, .int m_done, .int m_feelings, .int m_tries, .int m_leftOver, .int m_playDoor, .int m_playRing, .int m_isOpen, .int m_isOver, .int m_wasTried, .int m_hasPlayed, .ref a_feltNow, .ref a_last, .ref a_kept, .int m_hasSeconds, .int m_hasTurned, .int m_hasRound, .ref a_hasFeels, .ref a_isOn, .int m_firstAct, .long n_180, .long n_181, .ref a_order, .int m_rowMany, .int m_newSteps])), (a_c, .inl (cA.1 0, 1825, .inl g_c)), (a_there, .inl (cA.1 0, 10, .inl n_182)), (a_tried, .inl (cA.1 0, 10, .inl n_183)), (a_best, .inl (cA.1 0, 10, .inl g_55)), (a_order, .inl (cA.1 0, 10, .inl n_184))] H → va_D A [(a_found, .inl (cA.1 0, 10, .inl g_217)), (h0, .inr (12, [.int m_status, .int m_thrown, .long m_above, .long m_under, .ref a_traySort, .ref a_trayMany, .ref a_numbers, .ref a_tape, .int m_taped, .int m_textEnd, .int m_faultKind, .int m_faultAt, .int m_bad, .int m_badAt, .int m_token, .int m_at, .int m_behind, .int m_number, .int m_letters, .long m_word, .ref a_c, .ref a_words, .int m_markMany, .ref a_there, .ref a_tried, .ref a_best, .ref a_found, .int m_thereMany, .int m_thereMany, .int h, .int m_orderRing, .int m_thereMany, .int n_177, .long n_178, .long n_179, .ref a_weights, .ref a_shared, .int m_random, .int m_truePlace, .int m_trueWay, .int m_seconds, .int m_done, .int m_feelings, .int m_tries, .int m_leftOver, .int m_playDoor, .int m_playRing, .int m_isOpen, .int m_isOver, .int m_wasTried, .int m_hasPlayed, .ref a_feltNow, .ref a_last, .ref a_kept, .int m_hasSeconds, .int m_hasTurned, .int m_hasRound, .ref a_hasFeels, .ref a_isOn, .int m_firstAct, .long n_180, .long n_181, .ref a_order, .int m_rowMany, .int m_newSteps])), (a_c, .inl (cA.1 0, 1825, .inl g_c)), (a_there, .inl (cA.1 0, 10, .inl n_182)), (a_tried, .inl (cA.1 0, 10, .inl n_183)), (a_best, .inl (cA.1 0, 10, .inl g_55)), (a_order, .inl (cA.1 0, 10, .inl n_184))] → va_S A s.heap H locs → lv_has ls 3 [(0, .ref h0), (1, .int h), (2, .int v_216)] → W p l e ({ frames := 12, cells := 0, slots := 0, locals := 272 }) s m args below meth c H locs 0 0 Q (F0 m 61 ls []) := by
            intro n
            induction n with
            | zero =>
              intro v_216 g_217 H locs ls hmu_hlp_224 hr_v_216 hC_g_217 hP hD hS hl
              exact absurd hmu_hlp_224 (Nat.not_lt_zero _)
            | succ n ih_225 =>
              intro v_216 g_217 H locs ls hmu_hlp_224 hr_v_216 hC_g_217 hP hD hS hl
              refine lv_iload_n hx hb dX12_findOrder_61 rfl (lv_at hl 2 rfl) ?_
              refine lv_aload_n hx hb dX12_findOrder_62 rfl (lv_at hl 0 rfl) ?_
              refine va_get (D := G) (ci := 12) (v := .int m_thereMany) (C := RX12) (T := TX12) (N := 65) hx hb hts inT12 hown hK hP 1 rfl rfl 31 (by decide) (hts _ tw_1915) (fun _ h9 => h9) rfl dX12_findOrder_63 ?_
              refine lv_icmp_ge (tgt := 87) hx hb dX12_findOrder_66 (by decide) (fun c_226 => ?_) (fun c_226 => ?_)
              · have b_227 := z_fgeT c_226
                have hpost : (0 ≤ m_thereMany.toInt ∧ m_thereMany.toInt ≤ 6) ∧ (0 ≤ h.toInt ∧ h.toInt ≤ 2) ∧ (0 ≤ m_thereMany.toInt ∧ m_thereMany.toInt ≤ 6) ∧ (n_177 = 0 ∨ n_177 = 1) ∧ (0 ≤ n_177.toInt ∧ n_177.toInt ≤ 1) ∧ (zRg 10 0 9 n_182) ∧ (zRg 10 0 9 g_55) ∧ (zRg 10 0 9 n_184) ∧ (zRg 10 0 9 n_183) ∧ (zRg 10 0 9 g_217) ∧ (h.toInt ≠ 2 → n_177.toInt = 1 ∧ 1 ≤ n_179.toInt) := ⟨hr_m_thereMany, hr_h, hr_m_thereMany, hz_n_177, hr_n_177, hC_n_182, hC_g_55, hC_n_184, hC_n_183, hC_g_217, (fun h9 => ⟨hf_188 h9, by have := hf_188 h9; omega⟩)⟩
                exact hret _ _ _ _ _ (m_thereMany, h, m_thereMany, n_177, n_178, n_179, n_180, n_181, n_182, g_55, n_184, n_183, g_217) [1, 2, 3, 4, 5, 0, 6] hP hD hS rfl (by decide) dX12_findOrder_87 hpost
              · have b_228 := z_fltF c_226
                refine lv_aload_n hx hb dX12_findOrder_69 rfl (lv_at hl 0 rfl) ?_
                refine va_get (D := G) (ci := 12) (v := .ref a_found) (C := RX12) (T := TX12) (N := 65) hx hb hts inT12 hown hK hP 1 rfl rfl 26 (by decide) (hts _ tw_1911) (fun _ h9 => h9) rfl dX12_findOrder_70 ?_
                refine lv_iload_n hx hb dX12_findOrder_73 rfl (lv_at hl 2 rfl) ?_
                refine lv_aload_n hx hb dX12_findOrder_74 rfl (lv_at hl 0 rfl) ?_
                refine va_get (D := G) (ci := 12) (v := .ref a_order) (C := RX12) (T := TX12) (N := 65) hx hb hts inT12 hown hK hP 1 rfl rfl 62 (by decide) (hts _ tw_1945) (fun _ h9 => h9) rfl dX12_findOrder_75 ?_
                refine lv_iload_n hx hb dX12_findOrder_78 rfl (lv_at hl 2 rfl) ?_
                refine va_iald hx hb hK hP 6 0 rfl rfl (z_inN (by omega) (by omega)) dX12_findOrder_79 ?_
                refine lv_topi (fun x_229 he_x_229 => ?_)
                have hr_x_229 := z_rg hC_n_184 he_x_229 (by omega) (by omega)
                refine z_iast hx hb hK hP hD hS 0 0 rfl rfl (z_inN (by omega) (by omega)) dX12_findOrder_80 (fun g_230 hg_g_230 H locs hP hD hS => ?_)
                have hC_g_230 := z_rgU hC_g_217 hg_g_230 (by omega)
                obtain ⟨x_231, he_x_231⟩ : ∃ z : Int32, z = v_216 + 1 := ⟨_, rfl⟩
                have hq_x_231 := z_addq he_x_231 (rfl : v_216.toInt = _) hk_1 (by omega) (by omega)
                refine lv_iinc (v := x_231) (lv' := [(2, .int x_231), (0, .ref h0), (1, .int h)]) hx hb dX12_findOrder_81 hl (k := 2) rfl ((z_ofi (by decide +kernel)).trans he_x_231.symm) (by decide) rfl (fun ls hl => ?_)
                refine lv_goto (tgt := 61) hx hb dX12_findOrder_84 (by decide) ?_
                exact ih_225 x_231 g_230 H locs ls (by omega) (by omega) hC_g_230 hP hD hS (lv_sub hl [1, 2, 0] rfl)
          exact hlp_224 _ 0 g_found _ _ _ (Nat.lt_succ_self _) (by decide +kernel) hC_g_found hP hD hS (lv_sub hl [1, 2, 0] rfl)
        · skip
          refine lv_iconst (v := 0) hx hb dX12_findOrder_47 (by decide) ?_
          refine z_callVv (As := [.int 0]) (rest := []) (wr := [(a_found, .inl (cA.1 0, 10, .inl g_found))]) ⟨hx, hb, hml, hown, hts⟩ hK hE hT hP hD hS hA (r_orderFrom_4 l G cA h0 m_status m_thrown m_above m_under a_traySort a_trayMany a_numbers a_tape m_taped m_textEnd m_faultKind m_faultAt m_bad m_badAt m_token m_at m_behind m_number m_letters m_word a_c a_words m_markMany a_there a_tried a_best a_found m_thereMany m_foundMany h m_orderRing m_thereMany 0 m_bestTop m_bestBy a_weights a_shared m_random m_truePlace m_trueWay m_seconds m_done m_feelings m_tries m_leftOver m_playDoor m_playRing m_isOpen m_isOver m_wasTried m_hasPlayed a_feltNow a_last a_kept m_hasSeconds m_hasTurned m_hasRound a_hasFeels a_isOn m_firstAct m_meanTop m_meanBy a_order m_rowMany m_newSteps g_c g_there g_tried g_55 g_order 0 (by decide +kernel) (z_rgw hr_m_thereMany (by decide) (by decide)) (by omega) hr_h (by decide +kernel) (Or.inl rfl) hC_g_c hC_g_there hC_g_tried hC_g_55 hC_g_order (by omega) (by omega) (fun h => zOK_0 (zEq_less hi_62 (by omega)) (hp_0 h).1 (hp_0 h).2) (by omega)) lk_RX12_429 ⟨rfl, rfl⟩ ⟨Nat.le_of_ble_eq_true rfl, Nat.le_of_ble_eq_true rfl⟩ 12 rfl rfl rfl [0, 1, 2, 3, 4, 6] [5] rfl rfl (by decide) rfl hl.1 rfl (lv_room (Nat.le_of_ble_eq_true rfl)) dX12_findOrder_48 ⟨Nat.le_of_ble_eq_true rfl, Nat.le_of_ble_eq_true rfl⟩ (fun u_241 H locs hw hP hD hS => ?_)
          obtain ⟨n_232, n_233, n_234, n_235, n_236, n_237, n_238, n_239⟩ := u_241
          try dsimp only at hw
          obtain ⟨hz_n_232, hr_n_232, hC_n_237, hC_n_238, hC_n_239, hf_242, hf_243, hf_244⟩ := hw
          refine lv_aload_n hx hb dX12_findOrder_51 rfl (lv_at hl 0 rfl) ?_
          refine lv_aload_n hx hb dX12_findOrder_52 rfl (lv_at hl 0 rfl) ?_
          refine va_get (D := G) (ci := 12) (v := .int m_thereMany) (C := RX12) (T := TX12) (N := 65) hx hb hts inT12 hown hK hP 1 rfl rfl 31 (by decide) (hts _ tw_1915) (fun _ h9 => h9) rfl dX12_findOrder_53 ?_
          refine va_put (D := G) (ci := 12) (v := .int m_thereMany) (ty := .int) (C := RX12) (T := TX12) (N := 65) hx hb hts inT12 tyX12 tyX12_ok nmX12 hown hK hP hD hS 1 rfl rfl 28 (by decide) (hts _ tw_1913) (fun _ h9 => h9) rfl (tyX12_ok 28 (by decide)) rfl rfl (Nat.le_of_ble_eq_true rfl) dX12_findOrder_56 (fun H locs hP hD hS => ?_)
          refine lv_iconst (v := 0) hx hb dX12_findOrder_59 (by decide) ?_
          refine lv_istore_n (lv' := [(2, .int 0), (0, .ref h0), (1, .int h)]) hx hb dX12_findOrder_60 rfl hl (by decide) rfl (fun ls hl => ?_)
          have hlp_286 : ∀ (n : Nat) (v_278 : Int32) (g_279 : Nat → Int32) (H : Heap) (locs : List Loc) (ls : Array Slot), (2147483647 - v_278.toInt).toNat < n → (0 ≤ v_278.toInt ∧ v_278.toInt ≤ 4) → (zRg 10 0 9 g_279) → va_P G vwCl [(a_found, .inl (cA.1 0, 10, .inl g_279)), (h0, .inr (12, [.int m_status, .int m_thrown, .long m_above, .long m_under, .ref a_traySort, .ref a_trayMany, .ref a_numbers, .ref a_tape, .int m_taped, .int m_textEnd, .int m_faultKind, .int m_faultAt, .int m_bad, .int m_badAt, .int m_token, .int m_at, .int m_behind, .int m_number, .int m_letters, .long m_word, .ref a_c, .ref a_words, .int m_markMany, .ref a_there, .ref a_tried, .ref a_best, .ref a_found, .int m_thereMany, .int m_thereMany, .int h, .int m_orderRing, .int m_thereMany, .int n_232, .long n_233, .long n_234, .ref a_weights, .ref a_shared, .int m_random, .int m_truePlace, .int m_trueWay, .int m_seconds, .int m_done, .int m_feelings, .int m_tries, .int m_leftOver, .int m_playDoor, .int m_playRing, .int m_isOpen, .int m_isOver, .int m_wasTried, .int m_hasPlayed, .ref a_feltNow, .ref a_last, .ref a_kept, .int m_hasSeconds, .int m_hasTurned, .int m_hasRound, .ref a_hasFeels, .ref a_isOn, .int m_firstAct, .long n_235, .long n_236, .ref a_order, .int m_rowMany, .int m_newSteps])), (a_c, .inl (cA.1 0, 1825, .inl g_c)), (a_there, .inl (cA.1 0, 10, .inl n_237)), (a_tried, .inl (cA.1 0, 10, .inl n_238)), (a_best, .inl (cA.1 0, 10, .inl g_55)), (a_order, .inl (cA.1 0, 10, .inl n_239))] H → va_D A [(a_found, .inl (cA.1 0, 10, .inl g_279)), (h0, .inr (12, [.int m_status, .int m_thrown, .long m_above, .long m_under, .ref a_traySort, .ref a_trayMany, .ref a_numbers, .ref a_tape, .int m_taped, .int m_textEnd, .int m_faultKind, .int m_faultAt, .int m_bad, .int m_badAt, .int m_token, .int m_at, .int m_behind, .int m_number, .int m_letters, .long m_word, .ref a_c, .ref a_words, .int m_markMany, .ref a_there, .ref a_tried, .ref a_best, .ref a_found, .int m_thereMany, .int m_thereMany, .int h, .int m_orderRing, .int m_thereMany, .int n_232, .long n_233, .long n_234, .ref a_weights, .ref a_shared, .int m_random, .int m_truePlace, .int m_trueWay, .int m_seconds, .int m_done, .int m_feelings, .int m_tries, .int m_leftOver, .int m_playDoor, .int m_playRing, .int m_isOpen, .int m_isOver, .int m_wasTried, .int m_hasPlayed, .ref a_feltNow, .ref a_last, .ref a_kept, .int m_hasSeconds, .int m_hasTurned, .int m_hasRound, .ref a_hasFeels, .ref a_isOn, .int m_firstAct, .long n_235, .long n_236, .ref a_order, .int m_rowMany, .int m_newSteps])), (a_c, .inl (cA.1 0, 1825, .inl g_c)), (a_there, .inl (cA.1 0, 10, .inl n_237)), (a_tried, .inl (cA.1 0, 10, .inl n_238)), (a_best, .inl (cA.1 0, 10, .inl g_55)), (a_order, .inl (cA.1 0, 10, .inl n_239))] → va_S A s.heap H locs → lv_has ls 3 [(0, .ref h0), (1, .int h), (2, .int v_278)] → W p l e ({ frames := 12, cells := 0, slots := 0, locals := 272 }) s m args below meth c H locs 0 0 Q (F0 m 61 ls []) := by
            intro n
            induction n with
            | zero =>
              intro v_278 g_279 H locs ls hmu_hlp_286 hr_v_278 hC_g_279 hP hD hS hl
              exact absurd hmu_hlp_286 (Nat.not_lt_zero _)
            | succ n ih_287 =>
              intro v_278 g_279 H locs ls hmu_hlp_286 hr_v_278 hC_g_279 hP hD hS hl
              refine lv_iload_n hx hb dX12_findOrder_61 rfl (lv_at hl 2 rfl) ?_
              refine lv_aload_n hx hb dX12_findOrder_62 rfl (lv_at hl 0 rfl) ?_
              refine va_get (D := G) (ci := 12) (v := .int m_thereMany) (C := RX12) (T := TX12) (N := 65) hx hb hts inT12 hown hK hP 1 rfl rfl 31 (by decide) (hts _ tw_1915) (fun _ h9 => h9) rfl dX12_findOrder_63 ?_
              refine lv_icmp_ge (tgt := 87) hx hb dX12_findOrder_66 (by decide) (fun c_288 => ?_) (fun c_288 => ?_)
              · have b_289 := z_fgeT c_288
                have hpost : (0 ≤ m_thereMany.toInt ∧ m_thereMany.toInt ≤ 6) ∧ (0 ≤ h.toInt ∧ h.toInt ≤ 2) ∧ (0 ≤ m_thereMany.toInt ∧ m_thereMany.toInt ≤ 6) ∧ (n_232 = 0 ∨ n_232 = 1) ∧ (0 ≤ n_232.toInt ∧ n_232.toInt ≤ 1) ∧ (zRg 10 0 9 n_237) ∧ (zRg 10 0 9 g_55) ∧ (zRg 10 0 9 n_239) ∧ (zRg 10 0 9 n_238) ∧ (zRg 10 0 9 g_279) ∧ (h.toInt ≠ 2 → n_232.toInt = 1 ∧ 1 ≤ n_234.toInt) := ⟨hr_m_thereMany, hr_h, hr_m_thereMany, hz_n_232, hr_n_232, hC_n_237, hC_g_55, hC_n_239, hC_n_238, hC_g_279, (fun h9 => ⟨hf_243 h9, by have := hf_243 h9; omega⟩)⟩
                exact hret _ _ _ _ _ (m_thereMany, h, m_thereMany, n_232, n_233, n_234, n_235, n_236, n_237, g_55, n_239, n_238, g_279) [1, 2, 3, 4, 5, 0, 6] hP hD hS rfl (by decide) dX12_findOrder_87 hpost
              · have b_290 := z_fltF c_288
                refine lv_aload_n hx hb dX12_findOrder_69 rfl (lv_at hl 0 rfl) ?_
                refine va_get (D := G) (ci := 12) (v := .ref a_found) (C := RX12) (T := TX12) (N := 65) hx hb hts inT12 hown hK hP 1 rfl rfl 26 (by decide) (hts _ tw_1911) (fun _ h9 => h9) rfl dX12_findOrder_70 ?_
                refine lv_iload_n hx hb dX12_findOrder_73 rfl (lv_at hl 2 rfl) ?_
                refine lv_aload_n hx hb dX12_findOrder_74 rfl (lv_at hl 0 rfl) ?_
                refine va_get (D := G) (ci := 12) (v := .ref a_order) (C := RX12) (T := TX12) (N := 65) hx hb hts inT12 hown hK hP 1 rfl rfl 62 (by decide) (hts _ tw_1945) (fun _ h9 => h9) rfl dX12_findOrder_75 ?_
                refine lv_iload_n hx hb dX12_findOrder_78 rfl (lv_at hl 2 rfl) ?_
                refine va_iald hx hb hK hP 6 0 rfl rfl (z_inN (by omega) (by omega)) dX12_findOrder_79 ?_
                refine lv_topi (fun x_291 he_x_291 => ?_)
                have hr_x_291 := z_rg hC_n_239 he_x_291 (by omega) (by omega)
                refine z_iast hx hb hK hP hD hS 0 0 rfl rfl (z_inN (by omega) (by omega)) dX12_findOrder_80 (fun g_292 hg_g_292 H locs hP hD hS => ?_)
                have hC_g_292 := z_rgU hC_g_279 hg_g_292 (by omega)
                obtain ⟨x_293, he_x_293⟩ : ∃ z : Int32, z = v_278 + 1 := ⟨_, rfl⟩
                have hq_x_293 := z_addq he_x_293 (rfl : v_278.toInt = _) hk_1 (by omega) (by omega)
                refine lv_iinc (v := x_293) (lv' := [(2, .int x_293), (0, .ref h0), (1, .int h)]) hx hb dX12_findOrder_81 hl (k := 2) rfl ((z_ofi (by decide +kernel)).trans he_x_293.symm) (by decide) rfl (fun ls hl => ?_)
                refine lv_goto (tgt := 61) hx hb dX12_findOrder_84 (by decide) ?_
                exact ih_287 x_293 g_292 H locs ls (by omega) (by omega) hC_g_292 hP hD hS (lv_sub hl [1, 2, 0] rfl)
          exact hlp_286 _ 0 g_found _ _ _ (Nat.lt_succ_self _) (by decide +kernel) hC_g_found hP hD hS (lv_sub hl [1, 2, 0] rfl)
        · skip
          refine lv_iconst (v := 0) hx hb dX12_findOrder_47 (by decide) ?_
          refine z_callVv (As := [.int 0]) (rest := []) (wr := [(a_found, .inl (cA.1 0, 10, .inl g_found))]) ⟨hx, hb, hml, hown, hts⟩ hK hE hT hP hD hS hA (r_orderFrom_5 l G cA h0 m_status m_thrown m_above m_under a_traySort a_trayMany a_numbers a_tape m_taped m_textEnd m_faultKind m_faultAt m_bad m_badAt m_token m_at m_behind m_number m_letters m_word a_c a_words m_markMany a_there a_tried a_best a_found m_thereMany m_foundMany h m_orderRing m_thereMany 0 m_bestTop m_bestBy a_weights a_shared m_random m_truePlace m_trueWay m_seconds m_done m_feelings m_tries m_leftOver m_playDoor m_playRing m_isOpen m_isOver m_wasTried m_hasPlayed a_feltNow a_last a_kept m_hasSeconds m_hasTurned m_hasRound a_hasFeels a_isOn m_firstAct m_meanTop m_meanBy a_order m_rowMany m_newSteps g_c g_there g_tried g_55 g_order 0 (by decide +kernel) (z_rgw hr_m_thereMany (by decide) (by decide)) (by omega) hr_h (by decide +kernel) (Or.inl rfl) hC_g_c hC_g_there hC_g_tried hC_g_55 hC_g_order (by omega) (by omega) (fun h => zOK_0 (zEq_less hi_62 (by omega)) (hp_0 h).1 (hp_0 h).2) (by omega)) lk_RX12_429 ⟨rfl, rfl⟩ ⟨Nat.le_of_ble_eq_true rfl, Nat.le_of_ble_eq_true rfl⟩ 12 rfl rfl rfl [0, 1, 2, 3, 4, 6] [5] rfl rfl (by decide) rfl hl.1 rfl (lv_room (Nat.le_of_ble_eq_true rfl)) dX12_findOrder_48 ⟨Nat.le_of_ble_eq_true rfl, Nat.le_of_ble_eq_true rfl⟩ (fun u_303 H locs hw hP hD hS => ?_)
          obtain ⟨n_294, n_295, n_296, n_297, n_298, n_299, n_300, n_301⟩ := u_303
          try dsimp only at hw
          obtain ⟨hz_n_294, hr_n_294, hC_n_299, hC_n_300, hC_n_301, hf_304, hf_305, hf_306⟩ := hw
          refine lv_aload_n hx hb dX12_findOrder_51 rfl (lv_at hl 0 rfl) ?_
          refine lv_aload_n hx hb dX12_findOrder_52 rfl (lv_at hl 0 rfl) ?_
          refine va_get (D := G) (ci := 12) (v := .int m_thereMany) (C := RX12) (T := TX12) (N := 65) hx hb hts inT12 hown hK hP 1 rfl rfl 31 (by decide) (hts _ tw_1915) (fun _ h9 => h9) rfl dX12_findOrder_53 ?_
          refine va_put (D := G) (ci := 12) (v := .int m_thereMany) (ty := .int) (C := RX12) (T := TX12) (N := 65) hx hb hts inT12 tyX12 tyX12_ok nmX12 hown hK hP hD hS 1 rfl rfl 28 (by decide) (hts _ tw_1913) (fun _ h9 => h9) rfl (tyX12_ok 28 (by decide)) rfl rfl (Nat.le_of_ble_eq_true rfl) dX12_findOrder_56 (fun H locs hP hD hS => ?_)
          refine lv_iconst (v := 0) hx hb dX12_findOrder_59 (by decide) ?_
          refine lv_istore_n (lv' := [(2, .int 0), (0, .ref h0), (1, .int h)]) hx hb dX12_findOrder_60 rfl hl (by decide) rfl (fun ls hl => ?_)
          have hlp_355 : ∀ (n : Nat) (v_347 : Int32) (g_348 : Nat → Int32) (H : Heap) (locs : List Loc) (ls : Array Slot), (2147483647 - v_347.toInt).toNat < n → (0 ≤ v_347.toInt ∧ v_347.toInt ≤ 5) → (zRg 10 0 9 g_348) → va_P G vwCl [(a_found, .inl (cA.1 0, 10, .inl g_348)), (h0, .inr (12, [.int m_status, .int m_thrown, .long m_above, .long m_under, .ref a_traySort, .ref a_trayMany, .ref a_numbers, .ref a_tape, .int m_taped, .int m_textEnd, .int m_faultKind, .int m_faultAt, .int m_bad, .int m_badAt, .int m_token, .int m_at, .int m_behind, .int m_number, .int m_letters, .long m_word, .ref a_c, .ref a_words, .int m_markMany, .ref a_there, .ref a_tried, .ref a_best, .ref a_found, .int m_thereMany, .int m_thereMany, .int h, .int m_orderRing, .int m_thereMany, .int n_294, .long n_295, .long n_296, .ref a_weights, .ref a_shared, .int m_random, .int m_truePlace, .int m_trueWay, .int m_seconds, .int m_done, .int m_feelings, .int m_tries, .int m_leftOver, .int m_playDoor, .int m_playRing, .int m_isOpen, .int m_isOver, .int m_wasTried, .int m_hasPlayed, .ref a_feltNow, .ref a_last, .ref a_kept, .int m_hasSeconds, .int m_hasTurned, .int m_hasRound, .ref a_hasFeels, .ref a_isOn, .int m_firstAct, .long n_297, .long n_298, .ref a_order, .int m_rowMany, .int m_newSteps])), (a_c, .inl (cA.1 0, 1825, .inl g_c)), (a_there, .inl (cA.1 0, 10, .inl n_299)), (a_tried, .inl (cA.1 0, 10, .inl n_300)), (a_best, .inl (cA.1 0, 10, .inl g_55)), (a_order, .inl (cA.1 0, 10, .inl n_301))] H → va_D A [(a_found, .inl (cA.1 0, 10, .inl g_348)), (h0, .inr (12, [.int m_status, .int m_thrown, .long m_above, .long m_under, .ref a_traySort, .ref a_trayMany, .ref a_numbers, .ref a_tape, .int m_taped, .int m_textEnd, .int m_faultKind, .int m_faultAt, .int m_bad, .int m_badAt, .int m_token, .int m_at, .int m_behind, .int m_number, .int m_letters, .long m_word, .ref a_c, .ref a_words, .int m_markMany, .ref a_there, .ref a_tried, .ref a_best, .ref a_found, .int m_thereMany, .int m_thereMany, .int h, .int m_orderRing, .int m_thereMany, .int n_294, .long n_295, .long n_296, .ref a_weights, .ref a_shared, .int m_random, .int m_truePlace, .int m_trueWay, .int m_seconds, .int m_done, .int m_feelings, .int m_tries, .int m_leftOver, .int m_playDoor, .int m_playRing, .int m_isOpen, .int m_isOver, .int m_wasTried, .int m_hasPlayed, .ref a_feltNow, .ref a_last, .ref a_kept, .int m_hasSeconds, .int m_hasTurned, .int m_hasRound, .ref a_hasFeels, .ref a_isOn, .int m_firstAct, .long n_297, .long n_298, .ref a_order, .int m_rowMany, .int m_newSteps])), (a_c, .inl (cA.1 0, 1825, .inl g_c)), (a_there, .inl (cA.1 0, 10, .inl n_299)), (a_tried, .inl (cA.1 0, 10, .inl n_300)), (a_best, .inl (cA.1 0, 10, .inl g_55)), (a_order, .inl (cA.1 0, 10, .inl n_301))] → va_S A s.heap H locs → lv_has ls 3 [(0, .ref h0), (1, .int h), (2, .int v_347)] → W p l e ({ frames := 12, cells := 0, slots := 0, locals := 272 }) s m args below meth c H locs 0 0 Q (F0 m 61 ls []) := by
            intro n
            induction n with
            | zero =>
              intro v_347 g_348 H locs ls hmu_hlp_355 hr_v_347 hC_g_348 hP hD hS hl
              exact absurd hmu_hlp_355 (Nat.not_lt_zero _)
            | succ n ih_356 =>
              intro v_347 g_348 H locs ls hmu_hlp_355 hr_v_347 hC_g_348 hP hD hS hl
              refine lv_iload_n hx hb dX12_findOrder_61 rfl (lv_at hl 2 rfl) ?_
              refine lv_aload_n hx hb dX12_findOrder_62 rfl (lv_at hl 0 rfl) ?_
              refine va_get (D := G) (ci := 12) (v := .int m_thereMany) (C := RX12) (T := TX12) (N := 65) hx hb hts inT12 hown hK hP 1 rfl rfl 31 (by decide) (hts _ tw_1915) (fun _ h9 => h9) rfl dX12_findOrder_63 ?_
              refine lv_icmp_ge (tgt := 87) hx hb dX12_findOrder_66 (by decide) (fun c_357 => ?_) (fun c_357 => ?_)
              · have b_358 := z_fgeT c_357
                have hpost : (0 ≤ m_thereMany.toInt ∧ m_thereMany.toInt ≤ 6) ∧ (0 ≤ h.toInt ∧ h.toInt ≤ 2) ∧ (0 ≤ m_thereMany.toInt ∧ m_thereMany.toInt ≤ 6) ∧ (n_294 = 0 ∨ n_294 = 1) ∧ (0 ≤ n_294.toInt ∧ n_294.toInt ≤ 1) ∧ (zRg 10 0 9 n_299) ∧ (zRg 10 0 9 g_55) ∧ (zRg 10 0 9 n_301) ∧ (zRg 10 0 9 n_300) ∧ (zRg 10 0 9 g_348) ∧ (h.toInt ≠ 2 → n_294.toInt = 1 ∧ 1 ≤ n_296.toInt) := ⟨hr_m_thereMany, hr_h, hr_m_thereMany, hz_n_294, hr_n_294, hC_n_299, hC_g_55, hC_n_301, hC_n_300, hC_g_348, (fun h9 => ⟨hf_305 h9, by have := hf_305 h9; omega⟩)⟩
                exact hret _ _ _ _ _ (m_thereMany, h, m_thereMany, n_294, n_295, n_296, n_297, n_298, n_299, g_55, n_301, n_300, g_348) [1, 2, 3, 4, 5, 0, 6] hP hD hS rfl (by decide) dX12_findOrder_87 hpost
              · have b_359 := z_fltF c_357
                refine lv_aload_n hx hb dX12_findOrder_69 rfl (lv_at hl 0 rfl) ?_
                refine va_get (D := G) (ci := 12) (v := .ref a_found) (C := RX12) (T := TX12) (N := 65) hx hb hts inT12 hown hK hP 1 rfl rfl 26 (by decide) (hts _ tw_1911) (fun _ h9 => h9) rfl dX12_findOrder_70 ?_
                refine lv_iload_n hx hb dX12_findOrder_73 rfl (lv_at hl 2 rfl) ?_
                refine lv_aload_n hx hb dX12_findOrder_74 rfl (lv_at hl 0 rfl) ?_
                refine va_get (D := G) (ci := 12) (v := .ref a_order) (C := RX12) (T := TX12) (N := 65) hx hb hts inT12 hown hK hP 1 rfl rfl 62 (by decide) (hts _ tw_1945) (fun _ h9 => h9) rfl dX12_findOrder_75 ?_
                refine lv_iload_n hx hb dX12_findOrder_78 rfl (lv_at hl 2 rfl) ?_
                refine va_iald hx hb hK hP 6 0 rfl rfl (z_inN (by omega) (by omega)) dX12_findOrder_79 ?_
                refine lv_topi (fun x_360 he_x_360 => ?_)
                have hr_x_360 := z_rg hC_n_301 he_x_360 (by omega) (by omega)
                refine z_iast hx hb hK hP hD hS 0 0 rfl rfl (z_inN (by omega) (by omega)) dX12_findOrder_80 (fun g_361 hg_g_361 H locs hP hD hS => ?_)
                have hC_g_361 := z_rgU hC_g_348 hg_g_361 (by omega)
                obtain ⟨x_362, he_x_362⟩ : ∃ z : Int32, z = v_347 + 1 := ⟨_, rfl⟩
                have hq_x_362 := z_addq he_x_362 (rfl : v_347.toInt = _) hk_1 (by omega) (by omega)
                refine lv_iinc (v := x_362) (lv' := [(2, .int x_362), (0, .ref h0), (1, .int h)]) hx hb dX12_findOrder_81 hl (k := 2) rfl ((z_ofi (by decide +kernel)).trans he_x_362.symm) (by decide) rfl (fun ls hl => ?_)
                refine lv_goto (tgt := 61) hx hb dX12_findOrder_84 (by decide) ?_
                exact ih_356 x_362 g_361 H locs ls (by omega) (by omega) hC_g_361 hP hD hS (lv_sub hl [1, 2, 0] rfl)
          exact hlp_355 _ 0 g_found _ _ _ (Nat.lt_succ_self _) (by decide +kernel) hC_g_found hP hD hS (lv_sub hl [1, 2, 0] rfl)
        · skip
          refine lv_iconst (v := 0) hx hb dX12_findOrder_47 (by decide) ?_
          refine z_callVv (As := [.int 0]) (rest := []) (wr := [(a_found, .inl (cA.1 0, 10, .inl g_found))]) ⟨hx, hb, hml, hown, hts⟩ hK hE hT hP hD hS hA (r_orderFrom_6 l G cA h0 m_status m_thrown m_above m_under a_traySort a_trayMany a_numbers a_tape m_taped m_textEnd m_faultKind m_faultAt m_bad m_badAt m_token m_at m_behind m_number m_letters m_word a_c a_words m_markMany a_there a_tried a_best a_found m_thereMany m_foundMany h m_orderRing m_thereMany 0 m_bestTop m_bestBy a_weights a_shared m_random m_truePlace m_trueWay m_seconds m_done m_feelings m_tries m_leftOver m_playDoor m_playRing m_isOpen m_isOver m_wasTried m_hasPlayed a_feltNow a_last a_kept m_hasSeconds m_hasTurned m_hasRound a_hasFeels a_isOn m_firstAct m_meanTop m_meanBy a_order m_rowMany m_newSteps g_c g_there g_tried g_55 g_order 0 (by decide +kernel) (z_rgw hr_m_thereMany (by decide) (by decide)) (by omega) hr_h (by decide +kernel) (Or.inl rfl) hC_g_c hC_g_there hC_g_tried hC_g_55 hC_g_order (by omega) (by omega) (fun h => zOK_0 (zEq_less hi_62 (by omega)) (hp_0 h).1 (hp_0 h).2) (by omega)) lk_RX12_429 ⟨rfl, rfl⟩ ⟨Nat.le_of_ble_eq_true rfl, Nat.le_of_ble_eq_true rfl⟩ 12 rfl rfl rfl [0, 1, 2, 3, 4, 6] [5] rfl rfl (by decide) rfl hl.1 rfl (lv_room (Nat.le_of_ble_eq_true rfl)) dX12_findOrder_48 ⟨Nat.le_of_ble_eq_true rfl, Nat.le_of_ble_eq_true rfl⟩ (fun u_372 H locs hw hP hD hS => ?_)
          obtain ⟨n_363, n_364, n_365, n_366, n_367, n_368, n_369, n_370⟩ := u_372
          try dsimp only at hw
          obtain ⟨hz_n_363, hr_n_363, hC_n_368, hC_n_369, hC_n_370, hf_373, hf_374, hf_375⟩ := hw
          refine lv_aload_n hx hb dX12_findOrder_51 rfl (lv_at hl 0 rfl) ?_
          refine lv_aload_n hx hb dX12_findOrder_52 rfl (lv_at hl 0 rfl) ?_
          refine va_get (D := G) (ci := 12) (v := .int m_thereMany) (C := RX12) (T := TX12) (N := 65) hx hb hts inT12 hown hK hP 1 rfl rfl 31 (by decide) (hts _ tw_1915) (fun _ h9 => h9) rfl dX12_findOrder_53 ?_
          refine va_put (D := G) (ci := 12) (v := .int m_thereMany) (ty := .int) (C := RX12) (T := TX12) (N := 65) hx hb hts inT12 tyX12 tyX12_ok nmX12 hown hK hP hD hS 1 rfl rfl 28 (by decide) (hts _ tw_1913) (fun _ h9 => h9) rfl (tyX12_ok 28 (by decide)) rfl rfl (Nat.le_of_ble_eq_true rfl) dX12_findOrder_56 (fun H locs hP hD hS => ?_)
          refine lv_iconst (v := 0) hx hb dX12_findOrder_59 (by decide) ?_
          refine lv_istore_n (lv' := [(2, .int 0), (0, .ref h0), (1, .int h)]) hx hb dX12_findOrder_60 rfl hl (by decide) rfl (fun ls hl => ?_)
          have hlp_431 : ∀ (n : Nat) (v_423 : Int32) (g_424 : Nat → Int32) (H : Heap) (locs : List Loc) (ls : Array Slot), (2147483647 - v_423.toInt).toNat < n → (0 ≤ v_423.toInt ∧ v_423.toInt ≤ 6) → (zRg 10 0 9 g_424) → va_P G vwCl [(a_found, .inl (cA.1 0, 10, .inl g_424)), (h0, .inr (12, [.int m_status, .int m_thrown, .long m_above, .long m_under, .ref a_traySort, .ref a_trayMany, .ref a_numbers, .ref a_tape, .int m_taped, .int m_textEnd, .int m_faultKind, .int m_faultAt, .int m_bad, .int m_badAt, .int m_token, .int m_at, .int m_behind, .int m_number, .int m_letters, .long m_word, .ref a_c, .ref a_words, .int m_markMany, .ref a_there, .ref a_tried, .ref a_best, .ref a_found, .int m_thereMany, .int m_thereMany, .int h, .int m_orderRing, .int m_thereMany, .int n_363, .long n_364, .long n_365, .ref a_weights, .ref a_shared, .int m_random, .int m_truePlace, .int m_trueWay, .int m_seconds, .int m_done, .int m_feelings, .int m_tries, .int m_leftOver, .int m_playDoor, .int m_playRing, .int m_isOpen, .int m_isOver, .int m_wasTried, .int m_hasPlayed, .ref a_feltNow, .ref a_last, .ref a_kept, .int m_hasSeconds, .int m_hasTurned, .int m_hasRound, .ref a_hasFeels, .ref a_isOn, .int m_firstAct, .long n_366, .long n_367, .ref a_order, .int m_rowMany, .int m_newSteps])), (a_c, .inl (cA.1 0, 1825, .inl g_c)), (a_there, .inl (cA.1 0, 10, .inl n_368)), (a_tried, .inl (cA.1 0, 10, .inl n_369)), (a_best, .inl (cA.1 0, 10, .inl g_55)), (a_order, .inl (cA.1 0, 10, .inl n_370))] H → va_D A [(a_found, .inl (cA.1 0, 10, .inl g_424)), (h0, .inr (12, [.int m_status, .int m_thrown, .long m_above, .long m_under, .ref a_traySort, .ref a_trayMany, .ref a_numbers, .ref a_tape, .int m_taped, .int m_textEnd, .int m_faultKind, .int m_faultAt, .int m_bad, .int m_badAt, .int m_token, .int m_at, .int m_behind, .int m_number, .int m_letters, .long m_word, .ref a_c, .ref a_words, .int m_markMany, .ref a_there, .ref a_tried, .ref a_best, .ref a_found, .int m_thereMany, .int m_thereMany, .int h, .int m_orderRing, .int m_thereMany, .int n_363, .long n_364, .long n_365, .ref a_weights, .ref a_shared, .int m_random, .int m_truePlace, .int m_trueWay, .int m_seconds, .int m_done, .int m_feelings, .int m_tries, .int m_leftOver, .int m_playDoor, .int m_playRing, .int m_isOpen, .int m_isOver, .int m_wasTried, .int m_hasPlayed, .ref a_feltNow, .ref a_last, .ref a_kept, .int m_hasSeconds, .int m_hasTurned, .int m_hasRound, .ref a_hasFeels, .ref a_isOn, .int m_firstAct, .long n_366, .long n_367, .ref a_order, .int m_rowMany, .int m_newSteps])), (a_c, .inl (cA.1 0, 1825, .inl g_c)), (a_there, .inl (cA.1 0, 10, .inl n_368)), (a_tried, .inl (cA.1 0, 10, .inl n_369)), (a_best, .inl (cA.1 0, 10, .inl g_55)), (a_order, .inl (cA.1 0, 10, .inl n_370))] → va_S A s.heap H locs → lv_has ls 3 [(0, .ref h0), (1, .int h), (2, .int v_423)] → W p l e ({ frames := 12, cells := 0, slots := 0, locals := 272 }) s m args below meth c H locs 0 0 Q (F0 m 61 ls []) := by
            intro n
            induction n with
            | zero =>
              intro v_423 g_424 H locs ls hmu_hlp_431 hr_v_423 hC_g_424 hP hD hS hl
              exact absurd hmu_hlp_431 (Nat.not_lt_zero _)
            | succ n ih_432 =>
              intro v_423 g_424 H locs ls hmu_hlp_431 hr_v_423 hC_g_424 hP hD hS hl
              refine lv_iload_n hx hb dX12_findOrder_61 rfl (lv_at hl 2 rfl) ?_
              refine lv_aload_n hx hb dX12_findOrder_62 rfl (lv_at hl 0 rfl) ?_
              refine va_get (D := G) (ci := 12) (v := .int m_thereMany) (C := RX12) (T := TX12) (N := 65) hx hb hts inT12 hown hK hP 1 rfl rfl 31 (by decide) (hts _ tw_1915) (fun _ h9 => h9) rfl dX12_findOrder_63 ?_
              refine lv_icmp_ge (tgt := 87) hx hb dX12_findOrder_66 (by decide) (fun c_433 => ?_) (fun c_433 => ?_)
              · have b_434 := z_fgeT c_433
                have hpost : (0 ≤ m_thereMany.toInt ∧ m_thereMany.toInt ≤ 6) ∧ (0 ≤ h.toInt ∧ h.toInt ≤ 2) ∧ (0 ≤ m_thereMany.toInt ∧ m_thereMany.toInt ≤ 6) ∧ (n_363 = 0 ∨ n_363 = 1) ∧ (0 ≤ n_363.toInt ∧ n_363.toInt ≤ 1) ∧ (zRg 10 0 9 n_368) ∧ (zRg 10 0 9 g_55) ∧ (zRg 10 0 9 n_370) ∧ (zRg 10 0 9 n_369) ∧ (zRg 10 0 9 g_424) ∧ (h.toInt ≠ 2 → n_363.toInt = 1 ∧ 1 ≤ n_365.toInt) := ⟨hr_m_thereMany, hr_h, hr_m_thereMany, hz_n_363, hr_n_363, hC_n_368, hC_g_55, hC_n_370, hC_n_369, hC_g_424, (fun h9 => ⟨hf_374 h9, by have := hf_374 h9; omega⟩)⟩
                exact hret _ _ _ _ _ (m_thereMany, h, m_thereMany, n_363, n_364, n_365, n_366, n_367, n_368, g_55, n_370, n_369, g_424) [1, 2, 3, 4, 5, 0, 6] hP hD hS rfl (by decide) dX12_findOrder_87 hpost
              · have b_435 := z_fltF c_433
                refine lv_aload_n hx hb dX12_findOrder_69 rfl (lv_at hl 0 rfl) ?_
                refine va_get (D := G) (ci := 12) (v := .ref a_found) (C := RX12) (T := TX12) (N := 65) hx hb hts inT12 hown hK hP 1 rfl rfl 26 (by decide) (hts _ tw_1911) (fun _ h9 => h9) rfl dX12_findOrder_70 ?_
                refine lv_iload_n hx hb dX12_findOrder_73 rfl (lv_at hl 2 rfl) ?_
                refine lv_aload_n hx hb dX12_findOrder_74 rfl (lv_at hl 0 rfl) ?_
                refine va_get (D := G) (ci := 12) (v := .ref a_order) (C := RX12) (T := TX12) (N := 65) hx hb hts inT12 hown hK hP 1 rfl rfl 62 (by decide) (hts _ tw_1945) (fun _ h9 => h9) rfl dX12_findOrder_75 ?_
                refine lv_iload_n hx hb dX12_findOrder_78 rfl (lv_at hl 2 rfl) ?_
                refine va_iald hx hb hK hP 6 0 rfl rfl (z_inN (by omega) (by omega)) dX12_findOrder_79 ?_
                refine lv_topi (fun x_436 he_x_436 => ?_)
                have hr_x_436 := z_rg hC_n_370 he_x_436 (by omega) (by omega)
                refine z_iast hx hb hK hP hD hS 0 0 rfl rfl (z_inN (by omega) (by omega)) dX12_findOrder_80 (fun g_437 hg_g_437 H locs hP hD hS => ?_)
                have hC_g_437 := z_rgU hC_g_424 hg_g_437 (by omega)
                obtain ⟨x_438, he_x_438⟩ : ∃ z : Int32, z = v_423 + 1 := ⟨_, rfl⟩
                have hq_x_438 := z_addq he_x_438 (rfl : v_423.toInt = _) hk_1 (by omega) (by omega)
                refine lv_iinc (v := x_438) (lv' := [(2, .int x_438), (0, .ref h0), (1, .int h)]) hx hb dX12_findOrder_81 hl (k := 2) rfl ((z_ofi (by decide +kernel)).trans he_x_438.symm) (by decide) rfl (fun ls hl => ?_)
                refine lv_goto (tgt := 61) hx hb dX12_findOrder_84 (by decide) ?_
                exact ih_432 x_438 g_437 H locs ls (by omega) (by omega) hC_g_437 hP hD hS (lv_sub hl [1, 2, 0] rfl)
          exact hlp_431 _ 0 g_found _ _ _ (Nat.lt_succ_self _) (by decide +kernel) hC_g_found hP hD hS (lv_sub hl [1, 2, 0] rfl)
      · have b_439 := z_fltF c_65
        refine lv_aload_n hx hb dX12_findOrder_23 rfl (lv_at hl 0 rfl) ?_
        refine va_get (D := G) (ci := 12) (v := .ref a_best) (C := RX12) (T := TX12) (N := 65) hx hb hts inT12 hown hK hP 0 rfl rfl 25 (by decide) (hts _ tw_1910) (fun _ h9 => h9) rfl dX12_findOrder_24 ?_
        refine lv_iload_n hx hb dX12_findOrder_27 rfl (lv_at hl 2 rfl) ?_
        refine lv_aload_n hx hb dX12_findOrder_28 rfl (lv_at hl 0 rfl) ?_
        refine va_get (D := G) (ci := 12) (v := .ref a_there) (C := RX12) (T := TX12) (N := 65) hx hb hts inT12 hown hK hP 0 rfl rfl 23 (by decide) (hts _ tw_1908) (fun _ h9 => h9) rfl dX12_findOrder_29 ?_
        refine lv_iload_n hx hb dX12_findOrder_32 rfl (lv_at hl 2 rfl) ?_
        refine va_iald hx hb hK hP 2 0 rfl rfl (z_inN (by omega) (by omega)) dX12_findOrder_33 ?_
        refine lv_topi (fun x_440 he_x_440 => ?_)
        have hr_x_440 := z_rg hC_g_there he_x_440 (by omega) (by omega)
        refine z_iast hx hb hK hP hD hS 4 0 rfl rfl (z_inN (by omega) (by omega)) dX12_findOrder_34 (fun g_441 hg_g_441 H locs hP hD hS => ?_)
        have hC_g_441 := z_rgU hC_g_55 hg_g_441 (by omega)
        obtain ⟨x_442, he_x_442⟩ : ∃ z : Int32, z = v_54 + 1 := ⟨_, rfl⟩
        have hq_x_442 := z_addq he_x_442 (rfl : v_54.toInt = _) hk_1 (by omega) (by omega)
        refine lv_iinc (v := x_442) (lv' := [(2, .int x_442), (0, .ref h0), (1, .int h)]) hx hb dX12_findOrder_35 hl (k := 2) rfl ((z_ofi (by decide +kernel)).trans he_x_442.symm) (by decide) rfl (fun ls hl => ?_)
        refine lv_goto (tgt := 15) hx hb dX12_findOrder_38 (by decide) ?_
        exact ih_64 x_442 g_441 H locs ls (by omega) (by omega) hC_g_441 (by rw [hq_x_442]; exact zEq_step hi_62 hg_g_441 (by omega) (by omega) he_x_440 (by omega)) hP hD hS (lv_sub hl [1, 2, 0] rfl)
  exact hlp_63 _ 0 g_best _ _ _ (Nat.lt_succ_self _) (by decide +kernel) hC_g_best zEq_0 hP hD hS (lv_sub hl [1, 2, 0] rfl)
set_option maxHeartbeats 4000000 in
set_option maxRecDepth 100000 in
theorem r_hasOpener (l : Launch) (G : va_G) (cA : zCA) (h0 : Nat) (m_status : Int32) (m_thrown : Int32) (m_above : Int64) (m_under : Int64) (a_traySort : Nat) (a_trayMany : Nat) (a_numbers : Nat) (a_tape : Nat) (m_taped : Int32) (m_textEnd : Int32) (m_faultKind : Int32) (m_faultAt : Int32) (m_bad : Int32) (m_badAt : Int32) (m_token : Int32) (m_at : Int32) (m_behind : Int32) (m_number : Int32) (m_letters : Int32) (m_word : Int64) (a_c : Nat) (a_words : Nat) (m_markMany : Int32) (a_there : Nat) (a_tried : Nat) (a_best : Nat) (a_found : Nat) (m_thereMany : Int32) (m_foundMany : Int32) (m_orderHow : Int32) (m_orderRing : Int32) (m_orderMany : Int32) (m_hasBest : Int32) (m_bestTop : Int64) (m_bestBy : Int64) (a_weights : Nat) (a_shared : Nat) (m_random : Int32) (m_truePlace : Int32) (m_trueWay : Int32) (m_seconds : Int32) (m_done : Int32) (m_feelings : Int32) (m_tries : Int32) (m_leftOver : Int32) (m_playDoor : Int32) (m_playRing : Int32) (m_isOpen : Int32) (m_isOver : Int32) (m_wasTried : Int32) (m_hasPlayed : Int32) (a_feltNow : Nat) (a_last : Nat) (a_kept : Nat) (m_hasSeconds : Int32) (m_hasTurned : Int32) (m_hasRound : Int32) (a_hasFeels : Nat) (a_isOn : Nat) (m_firstAct : Int32) (m_meanTop : Int64) (m_meanBy : Int64) (a_order : Nat) (m_rowMany : Int32) (m_newSteps : Int32) (g_c : Nat → Int32) (g_there : Nat → Int32) (d : Int32) (hr_d : 0 ≤ d.toInt ∧ d.toInt ≤ 4) (hr_m_thereMany : 0 ≤ m_thereMany.toInt ∧ m_thereMany.toInt ≤ 10) (hC_g_c : zC g_c) (hC_g_there : zRg 10 0 9 g_there) : zCi l yX12_hasOpener cX12_hasOpener 3 (some .boolean) ({ frames := 1, cells := 0, slots := 0, locals := 22 }) G cA [.ref h0, .int d] [(h0, .inr (12, [.int m_status, .int m_thrown, .long m_above, .long m_under, .ref a_traySort, .ref a_trayMany, .ref a_numbers, .ref a_tape, .int m_taped, .int m_textEnd, .int m_faultKind, .int m_faultAt, .int m_bad, .int m_badAt, .int m_token, .int m_at, .int m_behind, .int m_number, .int m_letters, .long m_word, .ref a_c, .ref a_words, .int m_markMany, .ref a_there, .ref a_tried, .ref a_best, .ref a_found, .int m_thereMany, .int m_foundMany, .int m_orderHow, .int m_orderRing, .int m_orderMany, .int m_hasBest, .long m_bestTop, .long m_bestBy, .ref a_weights, .ref a_shared, .int m_random, .int m_truePlace, .int m_trueWay, .int m_seconds, .int m_done, .int m_feelings, .int m_tries, .int m_leftOver, .int m_playDoor, .int m_playRing, .int m_isOpen, .int m_isOver, .int m_wasTried, .int m_hasPlayed, .ref a_feltNow, .ref a_last, .ref a_kept, .int m_hasSeconds, .int m_hasTurned, .int m_hasRound, .ref a_hasFeels, .ref a_isOn, .int m_firstAct, .long m_meanTop, .long m_meanBy, .ref a_order, .int m_rowMany, .int m_newSteps])), (a_c, .inl (cA.1 0, 1825, .inl g_c)), (a_there, .inl (cA.1 0, 10, .inl g_there))] (S := Unit) (fun (r : Int32) (u : Unit) => (r = 0 ∧ True) ∨ (r = 1 ∧ True)) (fun (u : Unit) => [(h0, .inr (12, [.int m_status, .int m_thrown, .long m_above, .long m_under, .ref a_traySort, .ref a_trayMany, .ref a_numbers, .ref a_tape, .int m_taped, .int m_textEnd, .int m_faultKind, .int m_faultAt, .int m_bad, .int m_badAt, .int m_token, .int m_at, .int m_behind, .int m_number, .int m_letters, .long m_word, .ref a_c, .ref a_words, .int m_markMany, .ref a_there, .ref a_tried, .ref a_best, .ref a_found, .int m_thereMany, .int m_foundMany, .int m_orderHow, .int m_orderRing, .int m_orderMany, .int m_hasBest, .long m_bestTop, .long m_bestBy, .ref a_weights, .ref a_shared, .int m_random, .int m_truePlace, .int m_trueWay, .int m_seconds, .int m_done, .int m_feelings, .int m_tries, .int m_leftOver, .int m_playDoor, .int m_playRing, .int m_isOpen, .int m_isOver, .int m_wasTried, .int m_hasPlayed, .ref a_feltNow, .ref a_last, .ref a_kept, .int m_hasSeconds, .int m_hasTurned, .int m_hasRound, .ref a_hasFeels, .ref a_isOn, .int m_firstAct, .long m_meanTop, .long m_meanBy, .ref a_order, .int m_rowMany, .int m_newSteps])), (a_c, .inl (cA.1 0, 1825, .inl g_c)), (a_there, .inl (cA.1 0, 10, .inl g_there))]) 0 0 := by
  have hk_0 : (0 : Int32).toInt = 0 := by decide +kernel
  have hk_1 : (1 : Int32).toInt = 1 := by decide +kernel
  refine z_start2z (own := RX12) (by decide) (Nat.le_of_ble_eq_true rfl) rfl ?_
  intro p e s m args below meth c A ls Q hx hb hml hts hown hK hE hT hP hD hS hA hl hret
  have hl : lv_has ls 3 [(0, .ref h0), (1, .int d)] := hl
  refine lv_iconst (v := 0) hx hb dX12_hasOpener_0 (by decide) ?_
  refine lv_istore_n (lv' := [(2, .int 0), (0, .ref h0), (1, .int d)]) hx hb dX12_hasOpener_1 rfl hl (by decide) rfl (fun ls hl => ?_)
  have hlp_119 : ∀ (n : Nat) (v_109 : Int32) (H : Heap) (locs : List Loc) (ls : Array Slot), (2147483647 - v_109.toInt).toNat < n → (0 ≤ v_109.toInt ∧ v_109.toInt ≤ 10) → va_P G vwCl [(h0, .inr (12, [.int m_status, .int m_thrown, .long m_above, .long m_under, .ref a_traySort, .ref a_trayMany, .ref a_numbers, .ref a_tape, .int m_taped, .int m_textEnd, .int m_faultKind, .int m_faultAt, .int m_bad, .int m_badAt, .int m_token, .int m_at, .int m_behind, .int m_number, .int m_letters, .long m_word, .ref a_c, .ref a_words, .int m_markMany, .ref a_there, .ref a_tried, .ref a_best, .ref a_found, .int m_thereMany, .int m_foundMany, .int m_orderHow, .int m_orderRing, .int m_orderMany, .int m_hasBest, .long m_bestTop, .long m_bestBy, .ref a_weights, .ref a_shared, .int m_random, .int m_truePlace, .int m_trueWay, .int m_seconds, .int m_done, .int m_feelings, .int m_tries, .int m_leftOver, .int m_playDoor, .int m_playRing, .int m_isOpen, .int m_isOver, .int m_wasTried, .int m_hasPlayed, .ref a_feltNow, .ref a_last, .ref a_kept, .int m_hasSeconds, .int m_hasTurned, .int m_hasRound, .ref a_hasFeels, .ref a_isOn, .int m_firstAct, .long m_meanTop, .long m_meanBy, .ref a_order, .int m_rowMany, .int m_newSteps])), (a_c, .inl (cA.1 0, 1825, .inl g_c)), (a_there, .inl (cA.1 0, 10, .inl g_there))] H → va_D A [(h0, .inr (12, [.int m_status, .int m_thrown, .long m_above, .long m_under, .ref a_traySort, .ref a_trayMany, .ref a_numbers, .ref a_tape, .int m_taped, .int m_textEnd, .int m_faultKind, .int m_faultAt, .int m_bad, .int m_badAt, .int m_token, .int m_at, .int m_behind, .int m_number, .int m_letters, .long m_word, .ref a_c, .ref a_words, .int m_markMany, .ref a_there, .ref a_tried, .ref a_best, .ref a_found, .int m_thereMany, .int m_foundMany, .int m_orderHow, .int m_orderRing, .int m_orderMany, .int m_hasBest, .long m_bestTop, .long m_bestBy, .ref a_weights, .ref a_shared, .int m_random, .int m_truePlace, .int m_trueWay, .int m_seconds, .int m_done, .int m_feelings, .int m_tries, .int m_leftOver, .int m_playDoor, .int m_playRing, .int m_isOpen, .int m_isOver, .int m_wasTried, .int m_hasPlayed, .ref a_feltNow, .ref a_last, .ref a_kept, .int m_hasSeconds, .int m_hasTurned, .int m_hasRound, .ref a_hasFeels, .ref a_isOn, .int m_firstAct, .long m_meanTop, .long m_meanBy, .ref a_order, .int m_rowMany, .int m_newSteps])), (a_c, .inl (cA.1 0, 1825, .inl g_c)), (a_there, .inl (cA.1 0, 10, .inl g_there))] → va_S A s.heap H locs → lv_has ls 3 [(0, .ref h0), (1, .int d), (2, .int v_109)] → W p l e ({ frames := 1, cells := 0, slots := 0, locals := 22 }) s m args below meth c H locs 0 0 Q (F0 m 2 ls []) := by
    intro n
    induction n with
    | zero =>
      intro v_109 H locs ls hmu_hlp_119 hr_v_109 hP hD hS hl
      exact absurd hmu_hlp_119 (Nat.not_lt_zero _)
    | succ n ih_120 =>
      intro v_109 H locs ls hmu_hlp_119 hr_v_109 hP hD hS hl
      refine lv_iload_n hx hb dX12_hasOpener_2 rfl (lv_at hl 2 rfl) ?_
      refine lv_aload_n hx hb dX12_hasOpener_3 rfl (lv_at hl 0 rfl) ?_
      refine va_get (D := G) (ci := 12) (v := .int m_thereMany) (C := RX12) (T := TX12) (N := 65) hx hb hts inT12 hown hK hP 0 rfl rfl 27 (by decide) (hts _ tw_1912) (fun _ h9 => h9) rfl dX12_hasOpener_4 ?_
      refine lv_icmp_ge (tgt := 32) hx hb dX12_hasOpener_7 (by decide) (fun c_121 => ?_) (fun c_121 => ?_)
      · have b_122 := z_fgeT c_121
        refine lv_iconst (v := 0) hx hb dX12_hasOpener_32 (by decide) ?_
        have hpost : ((0 : Int32) = 0 ∧ True) ∨ ((0 : Int32) = 1 ∧ True) := (Or.inl ⟨rfl, trivial⟩)
        exact hret _ _ _ _ _ _ () [0, 1, 2] hP hD hS rfl (by decide) dX12_hasOpener_33 (Or.inl rfl) hpost
      · have b_123 := z_fltF c_121
        refine lv_aload_n hx hb dX12_hasOpener_10 rfl (lv_at hl 0 rfl) ?_
        refine lv_aload_n hx hb dX12_hasOpener_11 rfl (lv_at hl 0 rfl) ?_
        refine va_get (D := G) (ci := 12) (v := .ref a_there) (C := RX12) (T := TX12) (N := 65) hx hb hts inT12 hown hK hP 0 rfl rfl 23 (by decide) (hts _ tw_1908) (fun _ h9 => h9) rfl dX12_hasOpener_12 ?_
        refine lv_iload_n hx hb dX12_hasOpener_15 rfl (lv_at hl 2 rfl) ?_
        refine va_iald hx hb hK hP 2 0 rfl rfl (z_inN (by omega) (by omega)) dX12_hasOpener_16 ?_
        refine lv_topi (fun x_124 he_x_124 => ?_)
        have hr_x_124 := z_rg hC_g_there he_x_124 (by omega) (by omega)
        refine lv_iload_n hx hb dX12_hasOpener_17 rfl (lv_at hl 1 rfl) ?_
        refine z_callVi (As := [.int x_124, .int d]) (rest := []) (wr := [(a_there, .inl (cA.1 0, 10, .inl g_there))]) ⟨hx, hb, hml, hown, hts⟩ hK hE hT hP hD hS hA (r_canOpen l G cA h0 m_status m_thrown m_above m_under a_traySort a_trayMany a_numbers a_tape m_taped m_textEnd m_faultKind m_faultAt m_bad m_badAt m_token m_at m_behind m_number m_letters m_word a_c a_words m_markMany a_there a_tried a_best a_found m_thereMany m_foundMany m_orderHow m_orderRing m_orderMany m_hasBest m_bestTop m_bestBy a_weights a_shared m_random m_truePlace m_trueWay m_seconds m_done m_feelings m_tries m_leftOver m_playDoor m_playRing m_isOpen m_isOver m_wasTried m_hasPlayed a_feltNow a_last a_kept m_hasSeconds m_hasTurned m_hasRound a_hasFeels a_isOn m_firstAct m_meanTop m_meanBy a_order m_rowMany m_newSteps g_c x_124 d hr_x_124 hr_d hC_g_c) lk_RX12_345 ⟨rfl, rfl⟩ ⟨Nat.le_of_ble_eq_true rfl, Nat.le_of_ble_eq_true rfl⟩ 12 rfl rfl rfl [0, 1] [2] rfl rfl (by decide) rfl hl.1 rfl (lv_room (Nat.le_of_ble_eq_true rfl)) dX12_hasOpener_18 ⟨Nat.le_of_ble_eq_true rfl, Nat.le_of_ble_eq_true rfl⟩ (fun r_125 u_126 H locs hw hP hD hS => ?_)
        rcases hw with ⟨rfl, hf_127⟩ | ⟨rfl, hf_128⟩
        · skip
          refine lv_if_eq (tgt := 26) hx hb dX12_hasOpener_21 (by decide) (fun _ => ?_) (fun h9 => absurd (by decide +kernel) h9)
          obtain ⟨x_129, he_x_129⟩ : ∃ z : Int32, z = v_109 + 1 := ⟨_, rfl⟩
          have hq_x_129 := z_addq he_x_129 (rfl : v_109.toInt = _) hk_1 (by omega) (by omega)
          refine lv_iinc (v := x_129) (lv' := [(2, .int x_129), (0, .ref h0), (1, .int d)]) hx hb dX12_hasOpener_26 hl (k := 2) rfl ((z_ofi (by decide +kernel)).trans he_x_129.symm) (by decide) rfl (fun ls hl => ?_)
          refine lv_goto (tgt := 2) hx hb dX12_hasOpener_29 (by decide) ?_
          have hP := hP.sub (ws' := [(h0, .inr (12, [.int m_status, .int m_thrown, .long m_above, .long m_under, .ref a_traySort, .ref a_trayMany, .ref a_numbers, .ref a_tape, .int m_taped, .int m_textEnd, .int m_faultKind, .int m_faultAt, .int m_bad, .int m_badAt, .int m_token, .int m_at, .int m_behind, .int m_number, .int m_letters, .long m_word, .ref a_c, .ref a_words, .int m_markMany, .ref a_there, .ref a_tried, .ref a_best, .ref a_found, .int m_thereMany, .int m_foundMany, .int m_orderHow, .int m_orderRing, .int m_orderMany, .int m_hasBest, .long m_bestTop, .long m_bestBy, .ref a_weights, .ref a_shared, .int m_random, .int m_truePlace, .int m_trueWay, .int m_seconds, .int m_done, .int m_feelings, .int m_tries, .int m_leftOver, .int m_playDoor, .int m_playRing, .int m_isOpen, .int m_isOver, .int m_wasTried, .int m_hasPlayed, .ref a_feltNow, .ref a_last, .ref a_kept, .int m_hasSeconds, .int m_hasTurned, .int m_hasRound, .ref a_hasFeels, .ref a_isOn, .int m_firstAct, .long m_meanTop, .long m_meanBy, .ref a_order, .int m_rowMany, .int m_newSteps])), (a_c, .inl (cA.1 0, 1825, .inl g_c)), (a_there, .inl (cA.1 0, 10, .inl g_there))]) [1, 2, 0] rfl
          have hD := hD.sub (ws' := [(h0, .inr (12, [.int m_status, .int m_thrown, .long m_above, .long m_under, .ref a_traySort, .ref a_trayMany, .ref a_numbers, .ref a_tape, .int m_taped, .int m_textEnd, .int m_faultKind, .int m_faultAt, .int m_bad, .int m_badAt, .int m_token, .int m_at, .int m_behind, .int m_number, .int m_letters, .long m_word, .ref a_c, .ref a_words, .int m_markMany, .ref a_there, .ref a_tried, .ref a_best, .ref a_found, .int m_thereMany, .int m_foundMany, .int m_orderHow, .int m_orderRing, .int m_orderMany, .int m_hasBest, .long m_bestTop, .long m_bestBy, .ref a_weights, .ref a_shared, .int m_random, .int m_truePlace, .int m_trueWay, .int m_seconds, .int m_done, .int m_feelings, .int m_tries, .int m_leftOver, .int m_playDoor, .int m_playRing, .int m_isOpen, .int m_isOver, .int m_wasTried, .int m_hasPlayed, .ref a_feltNow, .ref a_last, .ref a_kept, .int m_hasSeconds, .int m_hasTurned, .int m_hasRound, .ref a_hasFeels, .ref a_isOn, .int m_firstAct, .long m_meanTop, .long m_meanBy, .ref a_order, .int m_rowMany, .int m_newSteps])), (a_c, .inl (cA.1 0, 1825, .inl g_c)), (a_there, .inl (cA.1 0, 10, .inl g_there))]) [1, 2, 0] (by decide) rfl
          exact ih_120 x_129 H locs ls (by omega) (by omega) hP hD hS (lv_sub hl [1, 2, 0] rfl)
        · skip
          refine lv_if_eq (tgt := 26) hx hb dX12_hasOpener_21 (by decide) (fun h9 => absurd h9 (by decide +kernel)) (fun _ => ?_)
          refine lv_iconst (v := 1) hx hb dX12_hasOpener_24 (by decide) ?_
          have hpost : ((1 : Int32) = 0 ∧ True) ∨ ((1 : Int32) = 1 ∧ True) := (Or.inr ⟨rfl, trivial⟩)
          exact hret _ _ _ _ _ _ () [1, 2, 0] hP hD hS rfl (by decide) dX12_hasOpener_25 (Or.inr rfl) hpost
  exact hlp_119 _ 0 _ _ _ (Nat.lt_succ_self _) (by decide +kernel) hP hD hS (lv_sub hl [1, 2, 0] rfl)
set_option maxHeartbeats 4000000 in
set_option maxRecDepth 100000 in
theorem r_judgeRow (l : Launch) (G : va_G) (cA : zCA) (h0 : Nat) (m_status : Int32) (m_thrown : Int32) (m_above : Int64) (m_under : Int64) (a_traySort : Nat) (a_trayMany : Nat) (a_numbers : Nat) (a_tape : Nat) (m_taped : Int32) (m_textEnd : Int32) (m_faultKind : Int32) (m_faultAt : Int32) (m_bad : Int32) (m_badAt : Int32) (m_token : Int32) (m_at : Int32) (m_behind : Int32) (m_number : Int32) (m_letters : Int32) (m_word : Int64) (a_c : Nat) (a_words : Nat) (m_markMany : Int32) (a_there : Nat) (a_tried : Nat) (a_best : Nat) (a_found : Nat) (m_thereMany : Int32) (m_foundMany : Int32) (m_orderHow : Int32) (m_orderRing : Int32) (m_orderMany : Int32) (m_hasBest : Int32) (m_bestTop : Int64) (m_bestBy : Int64) (a_weights : Nat) (a_shared : Nat) (m_random : Int32) (m_truePlace : Int32) (m_trueWay : Int32) (m_seconds : Int32) (m_done : Int32) (m_feelings : Int32) (m_tries : Int32) (m_leftOver : Int32) (m_playDoor : Int32) (m_playRing : Int32) (m_isOpen : Int32) (m_isOver : Int32) (m_wasTried : Int32) (m_hasPlayed : Int32) (a_feltNow : Nat) (a_last : Nat) (a_kept : Nat) (m_hasSeconds : Int32) (m_hasTurned : Int32) (m_hasRound : Int32) (a_hasFeels : Nat) (a_isOn : Nat) (m_firstAct : Int32) (m_meanTop : Int64) (m_meanBy : Int64) (a_order : Nat) (m_rowMany : Int32) (m_newSteps : Int32) (g_c : Nat → Int32) (g_there : Nat → Int32) (g_tried : Nat → Int32) (g_order : Nat → Int32) (nn : Int32) (d : Int32) (hr_nn : 0 ≤ nn.toInt ∧ nn.toInt ≤ 3) (hr_d : 0 ≤ d.toInt ∧ d.toInt ≤ 4) (hr_m_thereMany : 0 ≤ m_thereMany.toInt ∧ m_thereMany.toInt ≤ 10) (hr_m_hasBest : 0 ≤ m_hasBest.toInt ∧ m_hasBest.toInt ≤ 1) (hz_m_hasBest : m_hasBest = 0 ∨ m_hasBest = 1) (hC_g_c : zC g_c) (hC_g_there : zRg 10 0 9 g_there) (hC_g_tried : zRg 10 0 9 g_tried) (hC_g_order : zRg 10 0 9 g_order) (hT3_0 : zT3 g_tried nn.toInt) (hp_0 : m_hasBest.toInt ≤ 0 ∨ 1 ≤ m_bestBy.toInt) : zCv l yX12_judgeRow cX12_judgeRow 7 none ({ frames := 2, cells := 0, slots := 0, locals := 48 }) G cA [.ref h0, .int nn, .int d] [(h0, .inr (12, [.int m_status, .int m_thrown, .long m_above, .long m_under, .ref a_traySort, .ref a_trayMany, .ref a_numbers, .ref a_tape, .int m_taped, .int m_textEnd, .int m_faultKind, .int m_faultAt, .int m_bad, .int m_badAt, .int m_token, .int m_at, .int m_behind, .int m_number, .int m_letters, .long m_word, .ref a_c, .ref a_words, .int m_markMany, .ref a_there, .ref a_tried, .ref a_best, .ref a_found, .int m_thereMany, .int m_foundMany, .int m_orderHow, .int m_orderRing, .int m_orderMany, .int m_hasBest, .long m_bestTop, .long m_bestBy, .ref a_weights, .ref a_shared, .int m_random, .int m_truePlace, .int m_trueWay, .int m_seconds, .int m_done, .int m_feelings, .int m_tries, .int m_leftOver, .int m_playDoor, .int m_playRing, .int m_isOpen, .int m_isOver, .int m_wasTried, .int m_hasPlayed, .ref a_feltNow, .ref a_last, .ref a_kept, .int m_hasSeconds, .int m_hasTurned, .int m_hasRound, .ref a_hasFeels, .ref a_isOn, .int m_firstAct, .long m_meanTop, .long m_meanBy, .ref a_order, .int m_rowMany, .int m_newSteps])), (a_c, .inl (cA.1 0, 1825, .inl g_c)), (a_there, .inl (cA.1 0, 10, .inl g_there)), (a_tried, .inl (cA.1 0, 10, .inl g_tried)), (a_order, .inl (cA.1 0, 10, .inl g_order))] (S := Int32 × Int64 × Int64 × (Nat → Int32) × Int32 × Int64 × Int64 × (Nat → Int32)) (fun (u : Int32 × Int64 × Int64 × (Nat → Int32) × Int32 × Int64 × Int64 × (Nat → Int32)) => (0 ≤ u.1.toInt ∧ u.1.toInt ≤ 10) ∧ (0 ≤ u.2.2.1.toInt ∧ u.2.2.1.toInt ≤ 160) ∧ (zRg 10 0 9 u.2.2.2.1) ∧ (u.2.2.2.2.1 = 0 ∨ u.2.2.2.2.1 = 1) ∧ (0 ≤ u.2.2.2.2.1.toInt ∧ u.2.2.2.2.1.toInt ≤ 1) ∧ (zRg 10 0 9 u.2.2.2.2.2.2.2) ∧ (zT3 g_tried nn.toInt) ∧ (u.2.2.2.2.1.toInt ≤ 0 ∨ 1 ≤ u.2.2.2.2.2.2.1.toInt)) (fun (u : Int32 × Int64 × Int64 × (Nat → Int32) × Int32 × Int64 × Int64 × (Nat → Int32)) => [(h0, .inr (12, [.int m_status, .int m_thrown, .long m_above, .long m_under, .ref a_traySort, .ref a_trayMany, .ref a_numbers, .ref a_tape, .int m_taped, .int m_textEnd, .int m_faultKind, .int m_faultAt, .int m_bad, .int m_badAt, .int m_token, .int m_at, .int m_behind, .int m_number, .int m_letters, .long m_word, .ref a_c, .ref a_words, .int m_markMany, .ref a_there, .ref a_tried, .ref a_best, .ref a_found, .int u.1, .int m_foundMany, .int m_orderHow, .int m_orderRing, .int m_orderMany, .int u.2.2.2.2.1, .long u.2.2.2.2.2.1, .long u.2.2.2.2.2.2.1, .ref a_weights, .ref a_shared, .int m_random, .int m_truePlace, .int m_trueWay, .int m_seconds, .int m_done, .int m_feelings, .int m_tries, .int m_leftOver, .int m_playDoor, .int m_playRing, .int m_isOpen, .int m_isOver, .int m_wasTried, .int m_hasPlayed, .ref a_feltNow, .ref a_last, .ref a_kept, .int m_hasSeconds, .int m_hasTurned, .int m_hasRound, .ref a_hasFeels, .ref a_isOn, .int m_firstAct, .long u.2.1, .long u.2.2.1, .ref a_order, .int m_rowMany, .int m_newSteps])), (a_c, .inl (cA.1 0, 1825, .inl g_c)), (a_there, .inl (cA.1 0, 10, .inl u.2.2.2.1)), (a_tried, .inl (cA.1 0, 10, .inl g_tried)), (a_order, .inl (cA.1 0, 10, .inl u.2.2.2.2.2.2.2))]) 0 0 := by
  have hk_0 : (0 : Int32).toInt = 0 := by decide +kernel
  have hk_1 : (1 : Int32).toInt = 1 := by decide +kernel
  have hk_2 : (2 : Int32).toInt = 2 := by decide +kernel
  have hkl_0 : (0 : Int64).toInt = 0 := by decide +kernel
  have hkl_1 : (1 : Int64).toInt = 1 := by decide +kernel
  have hkl_16 : (16 : Int64).toInt = 16 := by decide +kernel
  refine z_start2v (own := RX12) (by decide) (Nat.le_of_ble_eq_true rfl) rfl ?_
  intro p e s m args below meth c A ls Q hx hb hml hts hown hK hE hT hP hD hS hA hl hret
  have hl : lv_has ls 7 [(0, .ref h0), (1, .int nn), (2, .int d)] := hl
  refine lv_lconst (v := 0) hx hb dX12_judgeRow_0 (by decide) ?_
  refine lv_lstore_n (lv' := [(3, .long 0), (0, .ref h0), (1, .int nn), (2, .int d)]) hx hb dX12_judgeRow_1 rfl hl (by decide) rfl (fun ls hl => ?_)
  refine lv_aload_n hx hb dX12_judgeRow_2 rfl (lv_at hl 1 rfl) ?_
  refine lv_lconst (v := 0) hx hb dX12_judgeRow_3 (by decide) ?_
  refine va_put (D := G) (ci := 12) (v := .long 0) (ty := .long) (C := RX12) (T := TX12) (N := 65) hx hb hts inT12 tyX12 tyX12_ok nmX12 hown hK hP hD hS 0 rfl rfl 61 (by decide) (hts _ tw_1944) (fun _ h9 => h9) rfl (tyX12_ok 61 (by decide)) rfl rfl (Nat.le_of_ble_eq_true rfl) dX12_judgeRow_4 (fun H locs hP hD hS => ?_)
  refine lv_iconst (v := 0) hx hb dX12_judgeRow_7 (by decide) ?_
  refine lv_istore (lv' := [(5, .int 0), (3, .long 0), (0, .ref h0), (1, .int nn), (2, .int d)]) hx hb dX12_judgeRow_8 hl (by decide) rfl (fun ls hl => ?_)
  have hlp_7016 : ∀ (n : Nat) (v_5456 : Int64) (v_5457 : Int32) (v_5458 : Int32) (v_5459 : Int64) (v_5460 : Int64) (g_5461 : Nat → Int32) (H : Heap) (locs : List Loc) (ls : Array Slot), (2147483647 - v_5457.toInt).toNat < n → (0 ≤ v_5457.toInt ∧ v_5457.toInt ≤ 3) → (0 ≤ v_5458.toInt ∧ v_5458.toInt ≤ 10) → (0 ≤ v_5460.toInt ∧ v_5460.toInt ≤ 160) → (zRg 10 0 9 g_5461) → va_P G vwCl [(h0, .inr (12, [.int m_status, .int m_thrown, .long m_above, .long m_under, .ref a_traySort, .ref a_trayMany, .ref a_numbers, .ref a_tape, .int m_taped, .int m_textEnd, .int m_faultKind, .int m_faultAt, .int m_bad, .int m_badAt, .int m_token, .int m_at, .int m_behind, .int m_number, .int m_letters, .long m_word, .ref a_c, .ref a_words, .int m_markMany, .ref a_there, .ref a_tried, .ref a_best, .ref a_found, .int v_5458, .int m_foundMany, .int m_orderHow, .int m_orderRing, .int m_orderMany, .int m_hasBest, .long m_bestTop, .long m_bestBy, .ref a_weights, .ref a_shared, .int m_random, .int m_truePlace, .int m_trueWay, .int m_seconds, .int m_done, .int m_feelings, .int m_tries, .int m_leftOver, .int m_playDoor, .int m_playRing, .int m_isOpen, .int m_isOver, .int m_wasTried, .int m_hasPlayed, .ref a_feltNow, .ref a_last, .ref a_kept, .int m_hasSeconds, .int m_hasTurned, .int m_hasRound, .ref a_hasFeels, .ref a_isOn, .int m_firstAct, .long v_5459, .long v_5460, .ref a_order, .int m_rowMany, .int m_newSteps])), (a_c, .inl (cA.1 0, 1825, .inl g_c)), (a_there, .inl (cA.1 0, 10, .inl g_5461)), (a_tried, .inl (cA.1 0, 10, .inl g_tried)), (a_order, .inl (cA.1 0, 10, .inl g_order))] H → va_D A [(h0, .inr (12, [.int m_status, .int m_thrown, .long m_above, .long m_under, .ref a_traySort, .ref a_trayMany, .ref a_numbers, .ref a_tape, .int m_taped, .int m_textEnd, .int m_faultKind, .int m_faultAt, .int m_bad, .int m_badAt, .int m_token, .int m_at, .int m_behind, .int m_number, .int m_letters, .long m_word, .ref a_c, .ref a_words, .int m_markMany, .ref a_there, .ref a_tried, .ref a_best, .ref a_found, .int v_5458, .int m_foundMany, .int m_orderHow, .int m_orderRing, .int m_orderMany, .int m_hasBest, .long m_bestTop, .long m_bestBy, .ref a_weights, .ref a_shared, .int m_random, .int m_truePlace, .int m_trueWay, .int m_seconds, .int m_done, .int m_feelings, .int m_tries, .int m_leftOver, .int m_playDoor, .int m_playRing, .int m_isOpen, .int m_isOver, .int m_wasTried, .int m_hasPlayed, .ref a_feltNow, .ref a_last, .ref a_kept, .int m_hasSeconds, .int m_hasTurned, .int m_hasRound, .ref a_hasFeels, .ref a_isOn, .int m_firstAct, .long v_5459, .long v_5460, .ref a_order, .int m_rowMany, .int m_newSteps])), (a_c, .inl (cA.1 0, 1825, .inl g_c)), (a_there, .inl (cA.1 0, 10, .inl g_5461)), (a_tried, .inl (cA.1 0, 10, .inl g_tried)), (a_order, .inl (cA.1 0, 10, .inl g_order))] → va_S A s.heap H locs → lv_has ls 7 [(0, .ref h0), (1, .int nn), (2, .int d), (3, .long v_5456), (5, .int v_5457)] → W p l e ({ frames := 2, cells := 0, slots := 0, locals := 48 }) s m args below meth c H locs 0 0 Q (F0 m 10 ls []) := by
    intro n
    induction n with
    | zero =>
      intro v_5456 v_5457 v_5458 v_5459 v_5460 g_5461 H locs ls hmu_hlp_7016 hr_v_5457 hr_v_5458 hr_v_5460 hC_g_5461 hP hD hS hl
      exact absurd hmu_hlp_7016 (Nat.not_lt_zero _)
    | succ n ih_7017 =>
      intro v_5456 v_5457 v_5458 v_5459 v_5460 g_5461 H locs ls hmu_hlp_7016 hr_v_5457 hr_v_5458 hr_v_5460 hC_g_5461 hP hD hS hl
      refine lv_iload hx hb dX12_judgeRow_10 (lv_at hl 4 rfl) ?_
      refine lv_iload_n hx hb dX12_judgeRow_12 rfl (lv_at hl 1 rfl) ?_
      refine lv_icmp_ge (tgt := 202) hx hb dX12_judgeRow_13 (by decide) (fun c_7018 => ?_) (fun c_7018 => ?_)
      · have b_7019 := z_fgeT c_7018
        refine lv_aload_n hx hb dX12_judgeRow_202 rfl (lv_at hl 0 rfl) ?_
        refine va_get (D := G) (ci := 12) (v := .long v_5460) (C := RX12) (T := TX12) (N := 65) hx hb hts inT12 hown hK hP 0 rfl rfl 61 (by decide) (hts _ tw_1944) (fun _ h9 => h9) rfl dX12_judgeRow_203 ?_
        refine lv_lconst (v := 0) hx hb dX12_judgeRow_206 (by decide) ?_
        refine W.lcmp hx hb dX12_judgeRow_207 ?_
        refine lv_if_eq (tgt := 240) hx hb dX12_judgeRow_208 (by decide) (fun c_7020 => ?_) (fun c_7020 => ?_)
        · have b_7021 := z_feqTl c_7020
          have hpost : (0 ≤ v_5458.toInt ∧ v_5458.toInt ≤ 10) ∧ (0 ≤ v_5460.toInt ∧ v_5460.toInt ≤ 160) ∧ (zRg 10 0 9 g_5461) ∧ (m_hasBest = 0 ∨ m_hasBest = 1) ∧ (0 ≤ m_hasBest.toInt ∧ m_hasBest.toInt ≤ 1) ∧ (zRg 10 0 9 g_order) ∧ (zT3 g_tried nn.toInt) ∧ (m_hasBest.toInt ≤ 0 ∨ 1 ≤ m_bestBy.toInt) := ⟨hr_v_5458, hr_v_5460, hC_g_5461, hz_m_hasBest, hr_m_hasBest, hC_g_order, hT3_0, (by omega)⟩
          exact hret _ _ _ _ _ (v_5458, v_5459, v_5460, g_5461, m_hasBest, m_bestTop, m_bestBy, g_order) [0, 1, 2, 3, 4] hP hD hS rfl (by decide) dX12_judgeRow_240 hpost
        · have b_7022 := z_fneFl c_7020
          refine lv_aload_n hx hb dX12_judgeRow_211 rfl (lv_at hl 0 rfl) ?_
          refine va_get (D := G) (ci := 12) (v := .int m_hasBest) (C := RX12) (T := TX12) (N := 65) hx hb hts inT12 hown hK hP 0 rfl rfl 32 (by decide) (hts _ tw_1916) (fun _ h9 => h9) rfl dX12_judgeRow_212 ?_
          refine lv_if_eq (tgt := 241) hx hb dX12_judgeRow_215 (by decide) (fun c_7023 => ?_) (fun c_7023 => ?_)
          · have b_7024 := z_feqT c_7023
            refine lv_aload_n hx hb dX12_judgeRow_241 rfl (lv_at hl 0 rfl) ?_
            refine lv_iconst (v := 1) hx hb dX12_judgeRow_242 (by decide) ?_
            refine va_put (D := G) (ci := 12) (v := .int 1) (ty := .boolean) (C := RX12) (T := TX12) (N := 65) hx hb hts inT12 tyX12 tyX12_ok nmX12 hown hK hP hD hS 0 rfl rfl 32 (by decide) (hts _ tw_1916) (fun _ h9 => h9) rfl (tyX12_ok 32 (by decide)) rfl rfl (Nat.le_of_ble_eq_true rfl) dX12_judgeRow_243 (fun H locs hP hD hS => ?_)
            refine lv_aload_n hx hb dX12_judgeRow_246 rfl (lv_at hl 0 rfl) ?_
            refine lv_aload_n hx hb dX12_judgeRow_247 rfl (lv_at hl 0 rfl) ?_
            refine va_get (D := G) (ci := 12) (v := .long v_5459) (C := RX12) (T := TX12) (N := 65) hx hb hts inT12 hown hK hP 0 rfl rfl 60 (by decide) (hts _ tw_1943) (fun _ h9 => h9) rfl dX12_judgeRow_248 ?_
            refine va_put (D := G) (ci := 12) (v := .long v_5459) (ty := .long) (C := RX12) (T := TX12) (N := 65) hx hb hts inT12 tyX12 tyX12_ok nmX12 hown hK hP hD hS 0 rfl rfl 33 (by decide) (hts _ tw_1917) (fun _ h9 => h9) rfl (tyX12_ok 33 (by decide)) rfl rfl (Nat.le_of_ble_eq_true rfl) dX12_judgeRow_251 (fun H locs hP hD hS => ?_)
            refine lv_aload_n hx hb dX12_judgeRow_254 rfl (lv_at hl 0 rfl) ?_
            refine lv_aload_n hx hb dX12_judgeRow_255 rfl (lv_at hl 0 rfl) ?_
            refine va_get (D := G) (ci := 12) (v := .long v_5460) (C := RX12) (T := TX12) (N := 65) hx hb hts inT12 hown hK hP 0 rfl rfl 61 (by decide) (hts _ tw_1944) (fun _ h9 => h9) rfl dX12_judgeRow_256 ?_
            refine va_put (D := G) (ci := 12) (v := .long v_5460) (ty := .long) (C := RX12) (T := TX12) (N := 65) hx hb hts inT12 tyX12 tyX12_ok nmX12 hown hK hP hD hS 0 rfl rfl 34 (by decide) (hts _ tw_1918) (fun _ h9 => h9) rfl (tyX12_ok 34 (by decide)) rfl rfl (Nat.le_of_ble_eq_true rfl) dX12_judgeRow_259 (fun H locs hP hD hS => ?_)
            refine lv_iconst (v := 0) hx hb dX12_judgeRow_262 (by decide) ?_
            refine lv_istore (lv' := [(5, .int 0), (0, .ref h0), (1, .int nn), (2, .int d), (3, .long v_5456)]) hx hb dX12_judgeRow_263 hl (by decide) rfl (fun ls hl => ?_)
            have hlp_7062 : ∀ (n : Nat) (v_7054 : Int32) (g_7055 : Nat → Int32) (H : Heap) (locs : List Loc) (ls : Array Slot), (2147483647 - v_7054.toInt).toNat < n → (0 ≤ v_7054.toInt ∧ v_7054.toInt ≤ 3) → (zRg 10 0 9 g_7055) → va_P G vwCl [(h0, .inr (12, [.int m_status, .int m_thrown, .long m_above, .long m_under, .ref a_traySort, .ref a_trayMany, .ref a_numbers, .ref a_tape, .int m_taped, .int m_textEnd, .int m_faultKind, .int m_faultAt, .int m_bad, .int m_badAt, .int m_token, .int m_at, .int m_behind, .int m_number, .int m_letters, .long m_word, .ref a_c, .ref a_words, .int m_markMany, .ref a_there, .ref a_tried, .ref a_best, .ref a_found, .int v_5458, .int m_foundMany, .int m_orderHow, .int m_orderRing, .int m_orderMany, .int 1, .long v_5459, .long v_5460, .ref a_weights, .ref a_shared, .int m_random, .int m_truePlace, .int m_trueWay, .int m_seconds, .int m_done, .int m_feelings, .int m_tries, .int m_leftOver, .int m_playDoor, .int m_playRing, .int m_isOpen, .int m_isOver, .int m_wasTried, .int m_hasPlayed, .ref a_feltNow, .ref a_last, .ref a_kept, .int m_hasSeconds, .int m_hasTurned, .int m_hasRound, .ref a_hasFeels, .ref a_isOn, .int m_firstAct, .long v_5459, .long v_5460, .ref a_order, .int m_rowMany, .int m_newSteps])), (a_c, .inl (cA.1 0, 1825, .inl g_c)), (a_there, .inl (cA.1 0, 10, .inl g_5461)), (a_tried, .inl (cA.1 0, 10, .inl g_tried)), (a_order, .inl (cA.1 0, 10, .inl g_7055))] H → va_D A [(h0, .inr (12, [.int m_status, .int m_thrown, .long m_above, .long m_under, .ref a_traySort, .ref a_trayMany, .ref a_numbers, .ref a_tape, .int m_taped, .int m_textEnd, .int m_faultKind, .int m_faultAt, .int m_bad, .int m_badAt, .int m_token, .int m_at, .int m_behind, .int m_number, .int m_letters, .long m_word, .ref a_c, .ref a_words, .int m_markMany, .ref a_there, .ref a_tried, .ref a_best, .ref a_found, .int v_5458, .int m_foundMany, .int m_orderHow, .int m_orderRing, .int m_orderMany, .int 1, .long v_5459, .long v_5460, .ref a_weights, .ref a_shared, .int m_random, .int m_truePlace, .int m_trueWay, .int m_seconds, .int m_done, .int m_feelings, .int m_tries, .int m_leftOver, .int m_playDoor, .int m_playRing, .int m_isOpen, .int m_isOver, .int m_wasTried, .int m_hasPlayed, .ref a_feltNow, .ref a_last, .ref a_kept, .int m_hasSeconds, .int m_hasTurned, .int m_hasRound, .ref a_hasFeels, .ref a_isOn, .int m_firstAct, .long v_5459, .long v_5460, .ref a_order, .int m_rowMany, .int m_newSteps])), (a_c, .inl (cA.1 0, 1825, .inl g_c)), (a_there, .inl (cA.1 0, 10, .inl g_5461)), (a_tried, .inl (cA.1 0, 10, .inl g_tried)), (a_order, .inl (cA.1 0, 10, .inl g_7055))] → va_S A s.heap H locs → lv_has ls 7 [(0, .ref h0), (1, .int nn), (2, .int d), (3, .long v_5456), (5, .int v_7054)] → W p l e ({ frames := 2, cells := 0, slots := 0, locals := 48 }) s m args below meth c H locs 0 0 Q (F0 m 265 ls []) := by
              intro n
              induction n with
              | zero =>
                intro v_7054 g_7055 H locs ls hmu_hlp_7062 hr_v_7054 hC_g_7055 hP hD hS hl
                exact absurd hmu_hlp_7062 (Nat.not_lt_zero _)
              | succ n ih_7063 =>
                intro v_7054 g_7055 H locs ls hmu_hlp_7062 hr_v_7054 hC_g_7055 hP hD hS hl
                refine lv_iload hx hb dX12_judgeRow_265 (lv_at hl 4 rfl) ?_
                refine lv_iload_n hx hb dX12_judgeRow_267 rfl (lv_at hl 1 rfl) ?_
                refine lv_icmp_ge (tgt := 291) hx hb dX12_judgeRow_268 (by decide) (fun c_7064 => ?_) (fun c_7064 => ?_)
                · have b_7065 := z_fgeT c_7064
                  have hpost : (0 ≤ v_5458.toInt ∧ v_5458.toInt ≤ 10) ∧ (0 ≤ v_5460.toInt ∧ v_5460.toInt ≤ 160) ∧ (zRg 10 0 9 g_5461) ∧ ((1 : Int32) = 0 ∨ (1 : Int32) = 1) ∧ (0 ≤ (1 : Int32).toInt ∧ (1 : Int32).toInt ≤ 1) ∧ (zRg 10 0 9 g_7055) ∧ (zT3 g_tried nn.toInt) ∧ ((1 : Int32).toInt ≤ 0 ∨ 1 ≤ v_5460.toInt) := ⟨hr_v_5458, hr_v_5460, hC_g_5461, (Or.inr rfl), (by decide +kernel), hC_g_7055, hT3_0, (by omega)⟩
                  exact hret _ _ _ _ _ (v_5458, v_5459, v_5460, g_5461, 1, v_5459, v_5460, g_7055) [0, 1, 2, 3, 4] hP hD hS rfl (by decide) dX12_judgeRow_291 hpost
                · have b_7066 := z_fltF c_7064
                  refine lv_aload_n hx hb dX12_judgeRow_271 rfl (lv_at hl 0 rfl) ?_
                  refine va_get (D := G) (ci := 12) (v := .ref a_order) (C := RX12) (T := TX12) (N := 65) hx hb hts inT12 hown hK hP 0 rfl rfl 62 (by decide) (hts _ tw_1945) (fun _ h9 => h9) rfl dX12_judgeRow_272 ?_
                  refine lv_iload hx hb dX12_judgeRow_275 (lv_at hl 4 rfl) ?_
                  refine lv_aload_n hx hb dX12_judgeRow_277 rfl (lv_at hl 0 rfl) ?_
                  refine va_get (D := G) (ci := 12) (v := .ref a_tried) (C := RX12) (T := TX12) (N := 65) hx hb hts inT12 hown hK hP 0 rfl rfl 24 (by decide) (hts _ tw_1909) (fun _ h9 => h9) rfl dX12_judgeRow_278 ?_
                  refine lv_iload hx hb dX12_judgeRow_281 (lv_at hl 4 rfl) ?_
                  refine va_iald hx hb hK hP 3 0 rfl rfl (z_inN (by omega) (by omega)) dX12_judgeRow_283 ?_
                  refine lv_topi (fun x_7067 he_x_7067 => ?_)
                  have hr_x_7067 := z_rg hC_g_tried he_x_7067 (by omega) (by omega)
                  refine z_iast hx hb hK hP hD hS 4 0 rfl rfl (z_inN (by omega) (by omega)) dX12_judgeRow_284 (fun g_7068 hg_g_7068 H locs hP hD hS => ?_)
                  have hC_g_7068 := z_rgU hC_g_7055 hg_g_7068 (by omega)
                  obtain ⟨x_7069, he_x_7069⟩ : ∃ z : Int32, z = v_7054 + 1 := ⟨_, rfl⟩
                  have hq_x_7069 := z_addq he_x_7069 (rfl : v_7054.toInt = _) hk_1 (by omega) (by omega)
                  refine lv_iinc (v := x_7069) (lv' := [(5, .int x_7069), (0, .ref h0), (1, .int nn), (2, .int d), (3, .long v_5456)]) hx hb dX12_judgeRow_285 hl (k := 4) rfl ((z_ofi (by decide +kernel)).trans he_x_7069.symm) (by decide) rfl (fun ls hl => ?_)
                  refine lv_goto (tgt := 265) hx hb dX12_judgeRow_288 (by decide) ?_
                  exact ih_7063 x_7069 g_7068 H locs ls (by omega) (by omega) hC_g_7068 hP hD hS (lv_sub hl [1, 2, 3, 4, 0] rfl)
            exact hlp_7062 _ 0 g_order _ _ _ (Nat.lt_succ_self _) (by decide +kernel) hC_g_order hP hD hS (lv_sub hl [1, 2, 3, 4, 0] rfl)
          · have b_7070 := z_fneF c_7023
            refine lv_aload_n hx hb dX12_judgeRow_218 rfl (lv_at hl 0 rfl) ?_
            refine va_get (D := G) (ci := 12) (v := .long v_5459) (C := RX12) (T := TX12) (N := 65) hx hb hts inT12 hown hK hP 0 rfl rfl 60 (by decide) (hts _ tw_1943) (fun _ h9 => h9) rfl dX12_judgeRow_219 ?_
            refine lv_aload_n hx hb dX12_judgeRow_222 rfl (lv_at hl 0 rfl) ?_
            refine va_get (D := G) (ci := 12) (v := .long m_bestBy) (C := RX12) (T := TX12) (N := 65) hx hb hts inT12 hown hK hP 0 rfl rfl 34 (by decide) (hts _ tw_1918) (fun _ h9 => h9) rfl dX12_judgeRow_223 ?_
            refine lv_lmul hx hb dX12_judgeRow_226 ?_
            have hL_v_5459 := z_fulll v_5459
            have hL_m_bestBy := z_fulll m_bestBy
            refine lv_topl (fun x_7071 he_x_7071 => ?_)
            refine lv_aload_n hx hb dX12_judgeRow_227 rfl (lv_at hl 0 rfl) ?_
            refine va_get (D := G) (ci := 12) (v := .long m_bestTop) (C := RX12) (T := TX12) (N := 65) hx hb hts inT12 hown hK hP 0 rfl rfl 33 (by decide) (hts _ tw_1917) (fun _ h9 => h9) rfl dX12_judgeRow_228 ?_
            refine lv_aload_n hx hb dX12_judgeRow_231 rfl (lv_at hl 0 rfl) ?_
            refine va_get (D := G) (ci := 12) (v := .long v_5460) (C := RX12) (T := TX12) (N := 65) hx hb hts inT12 hown hK hP 0 rfl rfl 61 (by decide) (hts _ tw_1944) (fun _ h9 => h9) rfl dX12_judgeRow_232 ?_
            refine lv_lmul hx hb dX12_judgeRow_235 ?_
            have hL_m_bestTop := z_fulll m_bestTop
            refine lv_topl (fun x_7072 he_x_7072 => ?_)
            refine W.lcmp hx hb dX12_judgeRow_236 ?_
            refine lv_if_lt (tgt := 241) hx hb dX12_judgeRow_237 (by decide) (fun c_7073 => ?_) (fun c_7073 => ?_)
            · have b_7074 := z_fltTl c_7073
              refine lv_aload_n hx hb dX12_judgeRow_241 rfl (lv_at hl 0 rfl) ?_
              refine lv_iconst (v := 1) hx hb dX12_judgeRow_242 (by decide) ?_
              refine va_put (D := G) (ci := 12) (v := .int 1) (ty := .boolean) (C := RX12) (T := TX12) (N := 65) hx hb hts inT12 tyX12 tyX12_ok nmX12 hown hK hP hD hS 0 rfl rfl 32 (by decide) (hts _ tw_1916) (fun _ h9 => h9) rfl (tyX12_ok 32 (by decide)) rfl rfl (Nat.le_of_ble_eq_true rfl) dX12_judgeRow_243 (fun H locs hP hD hS => ?_)
              refine lv_aload_n hx hb dX12_judgeRow_246 rfl (lv_at hl 0 rfl) ?_
              refine lv_aload_n hx hb dX12_judgeRow_247 rfl (lv_at hl 0 rfl) ?_
              refine va_get (D := G) (ci := 12) (v := .long v_5459) (C := RX12) (T := TX12) (N := 65) hx hb hts inT12 hown hK hP 0 rfl rfl 60 (by decide) (hts _ tw_1943) (fun _ h9 => h9) rfl dX12_judgeRow_248 ?_
              refine va_put (D := G) (ci := 12) (v := .long v_5459) (ty := .long) (C := RX12) (T := TX12) (N := 65) hx hb hts inT12 tyX12 tyX12_ok nmX12 hown hK hP hD hS 0 rfl rfl 33 (by decide) (hts _ tw_1917) (fun _ h9 => h9) rfl (tyX12_ok 33 (by decide)) rfl rfl (Nat.le_of_ble_eq_true rfl) dX12_judgeRow_251 (fun H locs hP hD hS => ?_)
              refine lv_aload_n hx hb dX12_judgeRow_254 rfl (lv_at hl 0 rfl) ?_
              refine lv_aload_n hx hb dX12_judgeRow_255 rfl (lv_at hl 0 rfl) ?_
              refine va_get (D := G) (ci := 12) (v := .long v_5460) (C := RX12) (T := TX12) (N := 65) hx hb hts inT12 hown hK hP 0 rfl rfl 61 (by decide) (hts _ tw_1944) (fun _ h9 => h9) rfl dX12_judgeRow_256 ?_
              refine va_put (D := G) (ci := 12) (v := .long v_5460) (ty := .long) (C := RX12) (T := TX12) (N := 65) hx hb hts inT12 tyX12 tyX12_ok nmX12 hown hK hP hD hS 0 rfl rfl 34 (by decide) (hts _ tw_1918) (fun _ h9 => h9) rfl (tyX12_ok 34 (by decide)) rfl rfl (Nat.le_of_ble_eq_true rfl) dX12_judgeRow_259 (fun H locs hP hD hS => ?_)
              refine lv_iconst (v := 0) hx hb dX12_judgeRow_262 (by decide) ?_
              refine lv_istore (lv' := [(5, .int 0), (0, .ref h0), (1, .int nn), (2, .int d), (3, .long v_5456)]) hx hb dX12_judgeRow_263 hl (by decide) rfl (fun ls hl => ?_)
              have hlp_7112 : ∀ (n : Nat) (v_7104 : Int32) (g_7105 : Nat → Int32) (H : Heap) (locs : List Loc) (ls : Array Slot), (2147483647 - v_7104.toInt).toNat < n → (0 ≤ v_7104.toInt ∧ v_7104.toInt ≤ 3) → (zRg 10 0 9 g_7105) → va_P G vwCl [(h0, .inr (12, [.int m_status, .int m_thrown, .long m_above, .long m_under, .ref a_traySort, .ref a_trayMany, .ref a_numbers, .ref a_tape, .int m_taped, .int m_textEnd, .int m_faultKind, .int m_faultAt, .int m_bad, .int m_badAt, .int m_token, .int m_at, .int m_behind, .int m_number, .int m_letters, .long m_word, .ref a_c, .ref a_words, .int m_markMany, .ref a_there, .ref a_tried, .ref a_best, .ref a_found, .int v_5458, .int m_foundMany, .int m_orderHow, .int m_orderRing, .int m_orderMany, .int 1, .long v_5459, .long v_5460, .ref a_weights, .ref a_shared, .int m_random, .int m_truePlace, .int m_trueWay, .int m_seconds, .int m_done, .int m_feelings, .int m_tries, .int m_leftOver, .int m_playDoor, .int m_playRing, .int m_isOpen, .int m_isOver, .int m_wasTried, .int m_hasPlayed, .ref a_feltNow, .ref a_last, .ref a_kept, .int m_hasSeconds, .int m_hasTurned, .int m_hasRound, .ref a_hasFeels, .ref a_isOn, .int m_firstAct, .long v_5459, .long v_5460, .ref a_order, .int m_rowMany, .int m_newSteps])), (a_c, .inl (cA.1 0, 1825, .inl g_c)), (a_there, .inl (cA.1 0, 10, .inl g_5461)), (a_tried, .inl (cA.1 0, 10, .inl g_tried)), (a_order, .inl (cA.1 0, 10, .inl g_7105))] H → va_D A [(h0, .inr (12, [.int m_status, .int m_thrown, .long m_above, .long m_under, .ref a_traySort, .ref a_trayMany, .ref a_numbers, .ref a_tape, .int m_taped, .int m_textEnd, .int m_faultKind, .int m_faultAt, .int m_bad, .int m_badAt, .int m_token, .int m_at, .int m_behind, .int m_number, .int m_letters, .long m_word, .ref a_c, .ref a_words, .int m_markMany, .ref a_there, .ref a_tried, .ref a_best, .ref a_found, .int v_5458, .int m_foundMany, .int m_orderHow, .int m_orderRing, .int m_orderMany, .int 1, .long v_5459, .long v_5460, .ref a_weights, .ref a_shared, .int m_random, .int m_truePlace, .int m_trueWay, .int m_seconds, .int m_done, .int m_feelings, .int m_tries, .int m_leftOver, .int m_playDoor, .int m_playRing, .int m_isOpen, .int m_isOver, .int m_wasTried, .int m_hasPlayed, .ref a_feltNow, .ref a_last, .ref a_kept, .int m_hasSeconds, .int m_hasTurned, .int m_hasRound, .ref a_hasFeels, .ref a_isOn, .int m_firstAct, .long v_5459, .long v_5460, .ref a_order, .int m_rowMany, .int m_newSteps])), (a_c, .inl (cA.1 0, 1825, .inl g_c)), (a_there, .inl (cA.1 0, 10, .inl g_5461)), (a_tried, .inl (cA.1 0, 10, .inl g_tried)), (a_order, .inl (cA.1 0, 10, .inl g_7105))] → va_S A s.heap H locs → lv_has ls 7 [(0, .ref h0), (1, .int nn), (2, .int d), (3, .long v_5456), (5, .int v_7104)] → W p l e ({ frames := 2, cells := 0, slots := 0, locals := 48 }) s m args below meth c H locs 0 0 Q (F0 m 265 ls []) := by
                intro n
                induction n with
                | zero =>
                  intro v_7104 g_7105 H locs ls hmu_hlp_7112 hr_v_7104 hC_g_7105 hP hD hS hl
                  exact absurd hmu_hlp_7112 (Nat.not_lt_zero _)
                | succ n ih_7113 =>
                  intro v_7104 g_7105 H locs ls hmu_hlp_7112 hr_v_7104 hC_g_7105 hP hD hS hl
                  refine lv_iload hx hb dX12_judgeRow_265 (lv_at hl 4 rfl) ?_
                  refine lv_iload_n hx hb dX12_judgeRow_267 rfl (lv_at hl 1 rfl) ?_
                  refine lv_icmp_ge (tgt := 291) hx hb dX12_judgeRow_268 (by decide) (fun c_7114 => ?_) (fun c_7114 => ?_)
                  · have b_7115 := z_fgeT c_7114
                    have hpost : (0 ≤ v_5458.toInt ∧ v_5458.toInt ≤ 10) ∧ (0 ≤ v_5460.toInt ∧ v_5460.toInt ≤ 160) ∧ (zRg 10 0 9 g_5461) ∧ ((1 : Int32) = 0 ∨ (1 : Int32) = 1) ∧ (0 ≤ (1 : Int32).toInt ∧ (1 : Int32).toInt ≤ 1) ∧ (zRg 10 0 9 g_7105) ∧ (zT3 g_tried nn.toInt) ∧ ((1 : Int32).toInt ≤ 0 ∨ 1 ≤ v_5460.toInt) := ⟨hr_v_5458, hr_v_5460, hC_g_5461, (Or.inr rfl), (by decide +kernel), hC_g_7105, hT3_0, (by omega)⟩
                    exact hret _ _ _ _ _ (v_5458, v_5459, v_5460, g_5461, 1, v_5459, v_5460, g_7105) [0, 1, 2, 3, 4] hP hD hS rfl (by decide) dX12_judgeRow_291 hpost
                  · have b_7116 := z_fltF c_7114
                    refine lv_aload_n hx hb dX12_judgeRow_271 rfl (lv_at hl 0 rfl) ?_
                    refine va_get (D := G) (ci := 12) (v := .ref a_order) (C := RX12) (T := TX12) (N := 65) hx hb hts inT12 hown hK hP 0 rfl rfl 62 (by decide) (hts _ tw_1945) (fun _ h9 => h9) rfl dX12_judgeRow_272 ?_
                    refine lv_iload hx hb dX12_judgeRow_275 (lv_at hl 4 rfl) ?_
                    refine lv_aload_n hx hb dX12_judgeRow_277 rfl (lv_at hl 0 rfl) ?_
                    refine va_get (D := G) (ci := 12) (v := .ref a_tried) (C := RX12) (T := TX12) (N := 65) hx hb hts inT12 hown hK hP 0 rfl rfl 24 (by decide) (hts _ tw_1909) (fun _ h9 => h9) rfl dX12_judgeRow_278 ?_
                    refine lv_iload hx hb dX12_judgeRow_281 (lv_at hl 4 rfl) ?_
                    refine va_iald hx hb hK hP 3 0 rfl rfl (z_inN (by omega) (by omega)) dX12_judgeRow_283 ?_
                    refine lv_topi (fun x_7117 he_x_7117 => ?_)
                    have hr_x_7117 := z_rg hC_g_tried he_x_7117 (by omega) (by omega)
                    refine z_iast hx hb hK hP hD hS 4 0 rfl rfl (z_inN (by omega) (by omega)) dX12_judgeRow_284 (fun g_7118 hg_g_7118 H locs hP hD hS => ?_)
                    have hC_g_7118 := z_rgU hC_g_7105 hg_g_7118 (by omega)
                    obtain ⟨x_7119, he_x_7119⟩ : ∃ z : Int32, z = v_7104 + 1 := ⟨_, rfl⟩
                    have hq_x_7119 := z_addq he_x_7119 (rfl : v_7104.toInt = _) hk_1 (by omega) (by omega)
                    refine lv_iinc (v := x_7119) (lv' := [(5, .int x_7119), (0, .ref h0), (1, .int nn), (2, .int d), (3, .long v_5456)]) hx hb dX12_judgeRow_285 hl (k := 4) rfl ((z_ofi (by decide +kernel)).trans he_x_7119.symm) (by decide) rfl (fun ls hl => ?_)
                    refine lv_goto (tgt := 265) hx hb dX12_judgeRow_288 (by decide) ?_
                    exact ih_7113 x_7119 g_7118 H locs ls (by omega) (by omega) hC_g_7118 hP hD hS (lv_sub hl [1, 2, 3, 4, 0] rfl)
              exact hlp_7112 _ 0 g_order _ _ _ (Nat.lt_succ_self _) (by decide +kernel) hC_g_order hP hD hS (lv_sub hl [1, 2, 3, 4, 0] rfl)
            · have b_7120 := z_fgeFl c_7073
              have hpost : (0 ≤ v_5458.toInt ∧ v_5458.toInt ≤ 10) ∧ (0 ≤ v_5460.toInt ∧ v_5460.toInt ≤ 160) ∧ (zRg 10 0 9 g_5461) ∧ (m_hasBest = 0 ∨ m_hasBest = 1) ∧ (0 ≤ m_hasBest.toInt ∧ m_hasBest.toInt ≤ 1) ∧ (zRg 10 0 9 g_order) ∧ (zT3 g_tried nn.toInt) ∧ (m_hasBest.toInt ≤ 0 ∨ 1 ≤ m_bestBy.toInt) := ⟨hr_v_5458, hr_v_5460, hC_g_5461, hz_m_hasBest, hr_m_hasBest, hC_g_order, hT3_0, (by omega)⟩
              exact hret _ _ _ _ _ (v_5458, v_5459, v_5460, g_5461, m_hasBest, m_bestTop, m_bestBy, g_order) [0, 1, 2, 3, 4] hP hD hS rfl (by decide) dX12_judgeRow_240 hpost
      · have b_7121 := z_fltF c_7018
        refine lv_aload_n hx hb dX12_judgeRow_16 rfl (lv_at hl 0 rfl) ?_
        refine va_get (D := G) (ci := 12) (v := .long v_5460) (C := RX12) (T := TX12) (N := 65) hx hb hts inT12 hown hK hP 0 rfl rfl 61 (by decide) (hts _ tw_1944) (fun _ h9 => h9) rfl dX12_judgeRow_17 ?_
        refine lv_lconst (v := 0) hx hb dX12_judgeRow_20 (by decide) ?_
        refine W.lcmp hx hb dX12_judgeRow_21 ?_
        refine lv_if_ne (tgt := 202) hx hb dX12_judgeRow_22 (by decide) (fun c_7122 => ?_) (fun c_7122 => ?_)
        · have b_7123 := z_fneTl c_7122
          refine lv_aload_n hx hb dX12_judgeRow_202 rfl (lv_at hl 0 rfl) ?_
          refine va_get (D := G) (ci := 12) (v := .long v_5460) (C := RX12) (T := TX12) (N := 65) hx hb hts inT12 hown hK hP 0 rfl rfl 61 (by decide) (hts _ tw_1944) (fun _ h9 => h9) rfl dX12_judgeRow_203 ?_
          refine lv_lconst (v := 0) hx hb dX12_judgeRow_206 (by decide) ?_
          refine W.lcmp hx hb dX12_judgeRow_207 ?_
          refine lv_if_eq (tgt := 240) hx hb dX12_judgeRow_208 (by decide) (fun h9 => (z_no (by have h8 := z_feqTl h9; omega))) (fun c_7124 => ?_)
          have b_7125 := z_fneFl c_7124
          refine lv_aload_n hx hb dX12_judgeRow_211 rfl (lv_at hl 0 rfl) ?_
          refine va_get (D := G) (ci := 12) (v := .int m_hasBest) (C := RX12) (T := TX12) (N := 65) hx hb hts inT12 hown hK hP 0 rfl rfl 32 (by decide) (hts _ tw_1916) (fun _ h9 => h9) rfl dX12_judgeRow_212 ?_
          refine lv_if_eq (tgt := 241) hx hb dX12_judgeRow_215 (by decide) (fun c_7126 => ?_) (fun c_7126 => ?_)
          · have b_7127 := z_feqT c_7126
            refine lv_aload_n hx hb dX12_judgeRow_241 rfl (lv_at hl 0 rfl) ?_
            refine lv_iconst (v := 1) hx hb dX12_judgeRow_242 (by decide) ?_
            refine va_put (D := G) (ci := 12) (v := .int 1) (ty := .boolean) (C := RX12) (T := TX12) (N := 65) hx hb hts inT12 tyX12 tyX12_ok nmX12 hown hK hP hD hS 0 rfl rfl 32 (by decide) (hts _ tw_1916) (fun _ h9 => h9) rfl (tyX12_ok 32 (by decide)) rfl rfl (Nat.le_of_ble_eq_true rfl) dX12_judgeRow_243 (fun H locs hP hD hS => ?_)
            refine lv_aload_n hx hb dX12_judgeRow_246 rfl (lv_at hl 0 rfl) ?_
            refine lv_aload_n hx hb dX12_judgeRow_247 rfl (lv_at hl 0 rfl) ?_
            refine va_get (D := G) (ci := 12) (v := .long v_5459) (C := RX12) (T := TX12) (N := 65) hx hb hts inT12 hown hK hP 0 rfl rfl 60 (by decide) (hts _ tw_1943) (fun _ h9 => h9) rfl dX12_judgeRow_248 ?_
            refine va_put (D := G) (ci := 12) (v := .long v_5459) (ty := .long) (C := RX12) (T := TX12) (N := 65) hx hb hts inT12 tyX12 tyX12_ok nmX12 hown hK hP hD hS 0 rfl rfl 33 (by decide) (hts _ tw_1917) (fun _ h9 => h9) rfl (tyX12_ok 33 (by decide)) rfl rfl (Nat.le_of_ble_eq_true rfl) dX12_judgeRow_251 (fun H locs hP hD hS => ?_)
            refine lv_aload_n hx hb dX12_judgeRow_254 rfl (lv_at hl 0 rfl) ?_
            refine lv_aload_n hx hb dX12_judgeRow_255 rfl (lv_at hl 0 rfl) ?_
            refine va_get (D := G) (ci := 12) (v := .long v_5460) (C := RX12) (T := TX12) (N := 65) hx hb hts inT12 hown hK hP 0 rfl rfl 61 (by decide) (hts _ tw_1944) (fun _ h9 => h9) rfl dX12_judgeRow_256 ?_
            refine va_put (D := G) (ci := 12) (v := .long v_5460) (ty := .long) (C := RX12) (T := TX12) (N := 65) hx hb hts inT12 tyX12 tyX12_ok nmX12 hown hK hP hD hS 0 rfl rfl 34 (by decide) (hts _ tw_1918) (fun _ h9 => h9) rfl (tyX12_ok 34 (by decide)) rfl rfl (Nat.le_of_ble_eq_true rfl) dX12_judgeRow_259 (fun H locs hP hD hS => ?_)
            refine lv_iconst (v := 0) hx hb dX12_judgeRow_262 (by decide) ?_
            refine lv_istore (lv' := [(5, .int 0), (0, .ref h0), (1, .int nn), (2, .int d), (3, .long v_5456)]) hx hb dX12_judgeRow_263 hl (by decide) rfl (fun ls hl => ?_)
            have hlp_7164 : ∀ (n : Nat) (v_7156 : Int32) (g_7157 : Nat → Int32) (H : Heap) (locs : List Loc) (ls : Array Slot), (2147483647 - v_7156.toInt).toNat < n → (0 ≤ v_7156.toInt ∧ v_7156.toInt ≤ 3) → (zRg 10 0 9 g_7157) → va_P G vwCl [(h0, .inr (12, [.int m_status, .int m_thrown, .long m_above, .long m_under, .ref a_traySort, .ref a_trayMany, .ref a_numbers, .ref a_tape, .int m_taped, .int m_textEnd, .int m_faultKind, .int m_faultAt, .int m_bad, .int m_badAt, .int m_token, .int m_at, .int m_behind, .int m_number, .int m_letters, .long m_word, .ref a_c, .ref a_words, .int m_markMany, .ref a_there, .ref a_tried, .ref a_best, .ref a_found, .int v_5458, .int m_foundMany, .int m_orderHow, .int m_orderRing, .int m_orderMany, .int 1, .long v_5459, .long v_5460, .ref a_weights, .ref a_shared, .int m_random, .int m_truePlace, .int m_trueWay, .int m_seconds, .int m_done, .int m_feelings, .int m_tries, .int m_leftOver, .int m_playDoor, .int m_playRing, .int m_isOpen, .int m_isOver, .int m_wasTried, .int m_hasPlayed, .ref a_feltNow, .ref a_last, .ref a_kept, .int m_hasSeconds, .int m_hasTurned, .int m_hasRound, .ref a_hasFeels, .ref a_isOn, .int m_firstAct, .long v_5459, .long v_5460, .ref a_order, .int m_rowMany, .int m_newSteps])), (a_c, .inl (cA.1 0, 1825, .inl g_c)), (a_there, .inl (cA.1 0, 10, .inl g_5461)), (a_tried, .inl (cA.1 0, 10, .inl g_tried)), (a_order, .inl (cA.1 0, 10, .inl g_7157))] H → va_D A [(h0, .inr (12, [.int m_status, .int m_thrown, .long m_above, .long m_under, .ref a_traySort, .ref a_trayMany, .ref a_numbers, .ref a_tape, .int m_taped, .int m_textEnd, .int m_faultKind, .int m_faultAt, .int m_bad, .int m_badAt, .int m_token, .int m_at, .int m_behind, .int m_number, .int m_letters, .long m_word, .ref a_c, .ref a_words, .int m_markMany, .ref a_there, .ref a_tried, .ref a_best, .ref a_found, .int v_5458, .int m_foundMany, .int m_orderHow, .int m_orderRing, .int m_orderMany, .int 1, .long v_5459, .long v_5460, .ref a_weights, .ref a_shared, .int m_random, .int m_truePlace, .int m_trueWay, .int m_seconds, .int m_done, .int m_feelings, .int m_tries, .int m_leftOver, .int m_playDoor, .int m_playRing, .int m_isOpen, .int m_isOver, .int m_wasTried, .int m_hasPlayed, .ref a_feltNow, .ref a_last, .ref a_kept, .int m_hasSeconds, .int m_hasTurned, .int m_hasRound, .ref a_hasFeels, .ref a_isOn, .int m_firstAct, .long v_5459, .long v_5460, .ref a_order, .int m_rowMany, .int m_newSteps])), (a_c, .inl (cA.1 0, 1825, .inl g_c)), (a_there, .inl (cA.1 0, 10, .inl g_5461)), (a_tried, .inl (cA.1 0, 10, .inl g_tried)), (a_order, .inl (cA.1 0, 10, .inl g_7157))] → va_S A s.heap H locs → lv_has ls 7 [(0, .ref h0), (1, .int nn), (2, .int d), (3, .long v_5456), (5, .int v_7156)] → W p l e ({ frames := 2, cells := 0, slots := 0, locals := 48 }) s m args below meth c H locs 0 0 Q (F0 m 265 ls []) := by
              intro n
              induction n with
              | zero =>
                intro v_7156 g_7157 H locs ls hmu_hlp_7164 hr_v_7156 hC_g_7157 hP hD hS hl
                exact absurd hmu_hlp_7164 (Nat.not_lt_zero _)
              | succ n ih_7165 =>
                intro v_7156 g_7157 H locs ls hmu_hlp_7164 hr_v_7156 hC_g_7157 hP hD hS hl
                refine lv_iload hx hb dX12_judgeRow_265 (lv_at hl 4 rfl) ?_
                refine lv_iload_n hx hb dX12_judgeRow_267 rfl (lv_at hl 1 rfl) ?_
                refine lv_icmp_ge (tgt := 291) hx hb dX12_judgeRow_268 (by decide) (fun c_7166 => ?_) (fun c_7166 => ?_)
                · have b_7167 := z_fgeT c_7166
                  have hpost : (0 ≤ v_5458.toInt ∧ v_5458.toInt ≤ 10) ∧ (0 ≤ v_5460.toInt ∧ v_5460.toInt ≤ 160) ∧ (zRg 10 0 9 g_5461) ∧ ((1 : Int32) = 0 ∨ (1 : Int32) = 1) ∧ (0 ≤ (1 : Int32).toInt ∧ (1 : Int32).toInt ≤ 1) ∧ (zRg 10 0 9 g_7157) ∧ (zT3 g_tried nn.toInt) ∧ ((1 : Int32).toInt ≤ 0 ∨ 1 ≤ v_5460.toInt) := ⟨hr_v_5458, hr_v_5460, hC_g_5461, (Or.inr rfl), (by decide +kernel), hC_g_7157, hT3_0, (by omega)⟩
                  exact hret _ _ _ _ _ (v_5458, v_5459, v_5460, g_5461, 1, v_5459, v_5460, g_7157) [0, 1, 2, 3, 4] hP hD hS rfl (by decide) dX12_judgeRow_291 hpost
                · have b_7168 := z_fltF c_7166
                  refine lv_aload_n hx hb dX12_judgeRow_271 rfl (lv_at hl 0 rfl) ?_
                  refine va_get (D := G) (ci := 12) (v := .ref a_order) (C := RX12) (T := TX12) (N := 65) hx hb hts inT12 hown hK hP 0 rfl rfl 62 (by decide) (hts _ tw_1945) (fun _ h9 => h9) rfl dX12_judgeRow_272 ?_
                  refine lv_iload hx hb dX12_judgeRow_275 (lv_at hl 4 rfl) ?_
                  refine lv_aload_n hx hb dX12_judgeRow_277 rfl (lv_at hl 0 rfl) ?_
                  refine va_get (D := G) (ci := 12) (v := .ref a_tried) (C := RX12) (T := TX12) (N := 65) hx hb hts inT12 hown hK hP 0 rfl rfl 24 (by decide) (hts _ tw_1909) (fun _ h9 => h9) rfl dX12_judgeRow_278 ?_
                  refine lv_iload hx hb dX12_judgeRow_281 (lv_at hl 4 rfl) ?_
                  refine va_iald hx hb hK hP 3 0 rfl rfl (z_inN (by omega) (by omega)) dX12_judgeRow_283 ?_
                  refine lv_topi (fun x_7169 he_x_7169 => ?_)
                  have hr_x_7169 := z_rg hC_g_tried he_x_7169 (by omega) (by omega)
                  refine z_iast hx hb hK hP hD hS 4 0 rfl rfl (z_inN (by omega) (by omega)) dX12_judgeRow_284 (fun g_7170 hg_g_7170 H locs hP hD hS => ?_)
                  have hC_g_7170 := z_rgU hC_g_7157 hg_g_7170 (by omega)
                  obtain ⟨x_7171, he_x_7171⟩ : ∃ z : Int32, z = v_7156 + 1 := ⟨_, rfl⟩
                  have hq_x_7171 := z_addq he_x_7171 (rfl : v_7156.toInt = _) hk_1 (by omega) (by omega)
                  refine lv_iinc (v := x_7171) (lv' := [(5, .int x_7171), (0, .ref h0), (1, .int nn), (2, .int d), (3, .long v_5456)]) hx hb dX12_judgeRow_285 hl (k := 4) rfl ((z_ofi (by decide +kernel)).trans he_x_7171.symm) (by decide) rfl (fun ls hl => ?_)
                  refine lv_goto (tgt := 265) hx hb dX12_judgeRow_288 (by decide) ?_
                  exact ih_7165 x_7171 g_7170 H locs ls (by omega) (by omega) hC_g_7170 hP hD hS (lv_sub hl [1, 2, 3, 4, 0] rfl)
            exact hlp_7164 _ 0 g_order _ _ _ (Nat.lt_succ_self _) (by decide +kernel) hC_g_order hP hD hS (lv_sub hl [1, 2, 3, 4, 0] rfl)
          · have b_7172 := z_fneF c_7126
            refine lv_aload_n hx hb dX12_judgeRow_218 rfl (lv_at hl 0 rfl) ?_
            refine va_get (D := G) (ci := 12) (v := .long v_5459) (C := RX12) (T := TX12) (N := 65) hx hb hts inT12 hown hK hP 0 rfl rfl 60 (by decide) (hts _ tw_1943) (fun _ h9 => h9) rfl dX12_judgeRow_219 ?_
            refine lv_aload_n hx hb dX12_judgeRow_222 rfl (lv_at hl 0 rfl) ?_
            refine va_get (D := G) (ci := 12) (v := .long m_bestBy) (C := RX12) (T := TX12) (N := 65) hx hb hts inT12 hown hK hP 0 rfl rfl 34 (by decide) (hts _ tw_1918) (fun _ h9 => h9) rfl dX12_judgeRow_223 ?_
            refine lv_lmul hx hb dX12_judgeRow_226 ?_
            have hL_v_5459 := z_fulll v_5459
            have hL_m_bestBy := z_fulll m_bestBy
            refine lv_topl (fun x_7173 he_x_7173 => ?_)
            refine lv_aload_n hx hb dX12_judgeRow_227 rfl (lv_at hl 0 rfl) ?_
            refine va_get (D := G) (ci := 12) (v := .long m_bestTop) (C := RX12) (T := TX12) (N := 65) hx hb hts inT12 hown hK hP 0 rfl rfl 33 (by decide) (hts _ tw_1917) (fun _ h9 => h9) rfl dX12_judgeRow_228 ?_
            refine lv_aload_n hx hb dX12_judgeRow_231 rfl (lv_at hl 0 rfl) ?_
            refine va_get (D := G) (ci := 12) (v := .long v_5460) (C := RX12) (T := TX12) (N := 65) hx hb hts inT12 hown hK hP 0 rfl rfl 61 (by decide) (hts _ tw_1944) (fun _ h9 => h9) rfl dX12_judgeRow_232 ?_
            refine lv_lmul hx hb dX12_judgeRow_235 ?_
            have hL_m_bestTop := z_fulll m_bestTop
            refine lv_topl (fun x_7174 he_x_7174 => ?_)
            refine W.lcmp hx hb dX12_judgeRow_236 ?_
            refine lv_if_lt (tgt := 241) hx hb dX12_judgeRow_237 (by decide) (fun c_7175 => ?_) (fun c_7175 => ?_)
            · have b_7176 := z_fltTl c_7175
              refine lv_aload_n hx hb dX12_judgeRow_241 rfl (lv_at hl 0 rfl) ?_
              refine lv_iconst (v := 1) hx hb dX12_judgeRow_242 (by decide) ?_
              refine va_put (D := G) (ci := 12) (v := .int 1) (ty := .boolean) (C := RX12) (T := TX12) (N := 65) hx hb hts inT12 tyX12 tyX12_ok nmX12 hown hK hP hD hS 0 rfl rfl 32 (by decide) (hts _ tw_1916) (fun _ h9 => h9) rfl (tyX12_ok 32 (by decide)) rfl rfl (Nat.le_of_ble_eq_true rfl) dX12_judgeRow_243 (fun H locs hP hD hS => ?_)
              refine lv_aload_n hx hb dX12_judgeRow_246 rfl (lv_at hl 0 rfl) ?_
              refine lv_aload_n hx hb dX12_judgeRow_247 rfl (lv_at hl 0 rfl) ?_
              refine va_get (D := G) (ci := 12) (v := .long v_5459) (C := RX12) (T := TX12) (N := 65) hx hb hts inT12 hown hK hP 0 rfl rfl 60 (by decide) (hts _ tw_1943) (fun _ h9 => h9) rfl dX12_judgeRow_248 ?_
              refine va_put (D := G) (ci := 12) (v := .long v_5459) (ty := .long) (C := RX12) (T := TX12) (N := 65) hx hb hts inT12 tyX12 tyX12_ok nmX12 hown hK hP hD hS 0 rfl rfl 33 (by decide) (hts _ tw_1917) (fun _ h9 => h9) rfl (tyX12_ok 33 (by decide)) rfl rfl (Nat.le_of_ble_eq_true rfl) dX12_judgeRow_251 (fun H locs hP hD hS => ?_)
              refine lv_aload_n hx hb dX12_judgeRow_254 rfl (lv_at hl 0 rfl) ?_
              refine lv_aload_n hx hb dX12_judgeRow_255 rfl (lv_at hl 0 rfl) ?_
              refine va_get (D := G) (ci := 12) (v := .long v_5460) (C := RX12) (T := TX12) (N := 65) hx hb hts inT12 hown hK hP 0 rfl rfl 61 (by decide) (hts _ tw_1944) (fun _ h9 => h9) rfl dX12_judgeRow_256 ?_
              refine va_put (D := G) (ci := 12) (v := .long v_5460) (ty := .long) (C := RX12) (T := TX12) (N := 65) hx hb hts inT12 tyX12 tyX12_ok nmX12 hown hK hP hD hS 0 rfl rfl 34 (by decide) (hts _ tw_1918) (fun _ h9 => h9) rfl (tyX12_ok 34 (by decide)) rfl rfl (Nat.le_of_ble_eq_true rfl) dX12_judgeRow_259 (fun H locs hP hD hS => ?_)
              refine lv_iconst (v := 0) hx hb dX12_judgeRow_262 (by decide) ?_
              refine lv_istore (lv' := [(5, .int 0), (0, .ref h0), (1, .int nn), (2, .int d), (3, .long v_5456)]) hx hb dX12_judgeRow_263 hl (by decide) rfl (fun ls hl => ?_)
              have hlp_7213 : ∀ (n : Nat) (v_7205 : Int32) (g_7206 : Nat → Int32) (H : Heap) (locs : List Loc) (ls : Array Slot), (2147483647 - v_7205.toInt).toNat < n → (0 ≤ v_7205.toInt ∧ v_7205.toInt ≤ 3) → (zRg 10 0 9 g_7206) → va_P G vwCl [(h0, .inr (12, [.int m_status, .int m_thrown, .long m_above, .long m_under, .ref a_traySort, .ref a_trayMany, .ref a_numbers, .ref a_tape, .int m_taped, .int m_textEnd, .int m_faultKind, .int m_faultAt, .int m_bad, .int m_badAt, .int m_token, .int m_at, .int m_behind, .int m_number, .int m_letters, .long m_word, .ref a_c, .ref a_words, .int m_markMany, .ref a_there, .ref a_tried, .ref a_best, .ref a_found, .int v_5458, .int m_foundMany, .int m_orderHow, .int m_orderRing, .int m_orderMany, .int 1, .long v_5459, .long v_5460, .ref a_weights, .ref a_shared, .int m_random, .int m_truePlace, .int m_trueWay, .int m_seconds, .int m_done, .int m_feelings, .int m_tries, .int m_leftOver, .int m_playDoor, .int m_playRing, .int m_isOpen, .int m_isOver, .int m_wasTried, .int m_hasPlayed, .ref a_feltNow, .ref a_last, .ref a_kept, .int m_hasSeconds, .int m_hasTurned, .int m_hasRound, .ref a_hasFeels, .ref a_isOn, .int m_firstAct, .long v_5459, .long v_5460, .ref a_order, .int m_rowMany, .int m_newSteps])), (a_c, .inl (cA.1 0, 1825, .inl g_c)), (a_there, .inl (cA.1 0, 10, .inl g_5461)), (a_tried, .inl (cA.1 0, 10, .inl g_tried)), (a_order, .inl (cA.1 0, 10, .inl g_7206))] H → va_D A [(h0, .inr (12, [.int m_status, .int m_thrown, .long m_above, .long m_under, .ref a_traySort, .ref a_trayMany, .ref a_numbers, .ref a_tape, .int m_taped, .int m_textEnd, .int m_faultKind, .int m_faultAt, .int m_bad, .int m_badAt, .int m_token, .int m_at, .int m_behind, .int m_number, .int m_letters, .long m_word, .ref a_c, .ref a_words, .int m_markMany, .ref a_there, .ref a_tried, .ref a_best, .ref a_found, .int v_5458, .int m_foundMany, .int m_orderHow, .int m_orderRing, .int m_orderMany, .int 1, .long v_5459, .long v_5460, .ref a_weights, .ref a_shared, .int m_random, .int m_truePlace, .int m_trueWay, .int m_seconds, .int m_done, .int m_feelings, .int m_tries, .int m_leftOver, .int m_playDoor, .int m_playRing, .int m_isOpen, .int m_isOver, .int m_wasTried, .int m_hasPlayed, .ref a_feltNow, .ref a_last, .ref a_kept, .int m_hasSeconds, .int m_hasTurned, .int m_hasRound, .ref a_hasFeels, .ref a_isOn, .int m_firstAct, .long v_5459, .long v_5460, .ref a_order, .int m_rowMany, .int m_newSteps])), (a_c, .inl (cA.1 0, 1825, .inl g_c)), (a_there, .inl (cA.1 0, 10, .inl g_5461)), (a_tried, .inl (cA.1 0, 10, .inl g_tried)), (a_order, .inl (cA.1 0, 10, .inl g_7206))] → va_S A s.heap H locs → lv_has ls 7 [(0, .ref h0), (1, .int nn), (2, .int d), (3, .long v_5456), (5, .int v_7205)] → W p l e ({ frames := 2, cells := 0, slots := 0, locals := 48 }) s m args below meth c H locs 0 0 Q (F0 m 265 ls []) := by
                intro n
                induction n with
                | zero =>
                  intro v_7205 g_7206 H locs ls hmu_hlp_7213 hr_v_7205 hC_g_7206 hP hD hS hl
                  exact absurd hmu_hlp_7213 (Nat.not_lt_zero _)
                | succ n ih_7214 =>
                  intro v_7205 g_7206 H locs ls hmu_hlp_7213 hr_v_7205 hC_g_7206 hP hD hS hl
                  refine lv_iload hx hb dX12_judgeRow_265 (lv_at hl 4 rfl) ?_
                  refine lv_iload_n hx hb dX12_judgeRow_267 rfl (lv_at hl 1 rfl) ?_
                  refine lv_icmp_ge (tgt := 291) hx hb dX12_judgeRow_268 (by decide) (fun c_7215 => ?_) (fun c_7215 => ?_)
                  · have b_7216 := z_fgeT c_7215
                    have hpost : (0 ≤ v_5458.toInt ∧ v_5458.toInt ≤ 10) ∧ (0 ≤ v_5460.toInt ∧ v_5460.toInt ≤ 160) ∧ (zRg 10 0 9 g_5461) ∧ ((1 : Int32) = 0 ∨ (1 : Int32) = 1) ∧ (0 ≤ (1 : Int32).toInt ∧ (1 : Int32).toInt ≤ 1) ∧ (zRg 10 0 9 g_7206) ∧ (zT3 g_tried nn.toInt) ∧ ((1 : Int32).toInt ≤ 0 ∨ 1 ≤ v_5460.toInt) := ⟨hr_v_5458, hr_v_5460, hC_g_5461, (Or.inr rfl), (by decide +kernel), hC_g_7206, hT3_0, (by omega)⟩
                    exact hret _ _ _ _ _ (v_5458, v_5459, v_5460, g_5461, 1, v_5459, v_5460, g_7206) [0, 1, 2, 3, 4] hP hD hS rfl (by decide) dX12_judgeRow_291 hpost
                  · have b_7217 := z_fltF c_7215
                    refine lv_aload_n hx hb dX12_judgeRow_271 rfl (lv_at hl 0 rfl) ?_
                    refine va_get (D := G) (ci := 12) (v := .ref a_order) (C := RX12) (T := TX12) (N := 65) hx hb hts inT12 hown hK hP 0 rfl rfl 62 (by decide) (hts _ tw_1945) (fun _ h9 => h9) rfl dX12_judgeRow_272 ?_
                    refine lv_iload hx hb dX12_judgeRow_275 (lv_at hl 4 rfl) ?_
                    refine lv_aload_n hx hb dX12_judgeRow_277 rfl (lv_at hl 0 rfl) ?_
                    refine va_get (D := G) (ci := 12) (v := .ref a_tried) (C := RX12) (T := TX12) (N := 65) hx hb hts inT12 hown hK hP 0 rfl rfl 24 (by decide) (hts _ tw_1909) (fun _ h9 => h9) rfl dX12_judgeRow_278 ?_
                    refine lv_iload hx hb dX12_judgeRow_281 (lv_at hl 4 rfl) ?_
                    refine va_iald hx hb hK hP 3 0 rfl rfl (z_inN (by omega) (by omega)) dX12_judgeRow_283 ?_
                    refine lv_topi (fun x_7218 he_x_7218 => ?_)
                    have hr_x_7218 := z_rg hC_g_tried he_x_7218 (by omega) (by omega)
                    refine z_iast hx hb hK hP hD hS 4 0 rfl rfl (z_inN (by omega) (by omega)) dX12_judgeRow_284 (fun g_7219 hg_g_7219 H locs hP hD hS => ?_)
                    have hC_g_7219 := z_rgU hC_g_7206 hg_g_7219 (by omega)
                    obtain ⟨x_7220, he_x_7220⟩ : ∃ z : Int32, z = v_7205 + 1 := ⟨_, rfl⟩
                    have hq_x_7220 := z_addq he_x_7220 (rfl : v_7205.toInt = _) hk_1 (by omega) (by omega)
                    refine lv_iinc (v := x_7220) (lv' := [(5, .int x_7220), (0, .ref h0), (1, .int nn), (2, .int d), (3, .long v_5456)]) hx hb dX12_judgeRow_285 hl (k := 4) rfl ((z_ofi (by decide +kernel)).trans he_x_7220.symm) (by decide) rfl (fun ls hl => ?_)
                    refine lv_goto (tgt := 265) hx hb dX12_judgeRow_288 (by decide) ?_
                    exact ih_7214 x_7220 g_7219 H locs ls (by omega) (by omega) hC_g_7219 hP hD hS (lv_sub hl [1, 2, 3, 4, 0] rfl)
              exact hlp_7213 _ 0 g_order _ _ _ (Nat.lt_succ_self _) (by decide +kernel) hC_g_order hP hD hS (lv_sub hl [1, 2, 3, 4, 0] rfl)
            · have b_7221 := z_fgeFl c_7175
              have hpost : (0 ≤ v_5458.toInt ∧ v_5458.toInt ≤ 10) ∧ (0 ≤ v_5460.toInt ∧ v_5460.toInt ≤ 160) ∧ (zRg 10 0 9 g_5461) ∧ (m_hasBest = 0 ∨ m_hasBest = 1) ∧ (0 ≤ m_hasBest.toInt ∧ m_hasBest.toInt ≤ 1) ∧ (zRg 10 0 9 g_order) ∧ (zT3 g_tried nn.toInt) ∧ (m_hasBest.toInt ≤ 0 ∨ 1 ≤ m_bestBy.toInt) := ⟨hr_v_5458, hr_v_5460, hC_g_5461, hz_m_hasBest, hr_m_hasBest, hC_g_order, hT3_0, (by omega)⟩
              exact hret _ _ _ _ _ (v_5458, v_5459, v_5460, g_5461, m_hasBest, m_bestTop, m_bestBy, g_order) [0, 1, 2, 3, 4] hP hD hS rfl (by decide) dX12_judgeRow_240 hpost
        · have b_7222 := z_feqFl c_7122
          refine lv_aload_n hx hb dX12_judgeRow_25 rfl (lv_at hl 0 rfl) ?_
          refine lv_aload_n hx hb dX12_judgeRow_26 rfl (lv_at hl 0 rfl) ?_
          refine va_get (D := G) (ci := 12) (v := .ref a_tried) (C := RX12) (T := TX12) (N := 65) hx hb hts inT12 hown hK hP 0 rfl rfl 24 (by decide) (hts _ tw_1909) (fun _ h9 => h9) rfl dX12_judgeRow_27 ?_
          refine lv_iload hx hb dX12_judgeRow_30 (lv_at hl 4 rfl) ?_
          refine va_iald hx hb hK hP 3 0 rfl rfl (z_inN (by omega) (by omega)) dX12_judgeRow_32 ?_
          refine lv_topi (fun x_7223 he_x_7223 => ?_)
          have hr_x_7223 := z_rg hC_g_tried he_x_7223 (by omega) (by omega)
          have ht3_x_7223 := zT3_at hT3_0 he_x_7223 (by omega) (by omega)
          refine z_callVv (As := [.int x_7223]) (rest := []) (wr := [(a_tried, .inl (cA.1 0, 10, .inl g_tried)), (a_order, .inl (cA.1 0, 10, .inl g_order))]) ⟨hx, hb, hml, hown, hts⟩ hK hE hT hP hD hS hA (r_gather l G cA h0 m_status m_thrown m_above m_under a_traySort a_trayMany a_numbers a_tape m_taped m_textEnd m_faultKind m_faultAt m_bad m_badAt m_token m_at m_behind m_number m_letters m_word a_c a_words m_markMany a_there a_tried a_best a_found v_5458 m_foundMany m_orderHow m_orderRing m_orderMany m_hasBest m_bestTop m_bestBy a_weights a_shared m_random m_truePlace m_trueWay m_seconds m_done m_feelings m_tries m_leftOver m_playDoor m_playRing m_isOpen m_isOver m_wasTried m_hasPlayed a_feltNow a_last a_kept m_hasSeconds m_hasTurned m_hasRound a_hasFeels a_isOn m_firstAct v_5459 v_5460 a_order m_rowMany m_newSteps g_c g_5461 x_7223 (by omega) hr_v_5458 hC_g_c hC_g_5461) lk_RX12_292 ⟨rfl, rfl⟩ ⟨Nat.le_of_ble_eq_true rfl, Nat.le_of_ble_eq_true rfl⟩ 12 rfl rfl rfl [0, 1, 2] [3, 4] rfl rfl (by decide) rfl hl.1 rfl (lv_room (Nat.le_of_ble_eq_true rfl)) dX12_judgeRow_33 ⟨Nat.le_of_ble_eq_true rfl, Nat.le_of_ble_eq_true rfl⟩ (fun u_7227 H locs hw hP hD hS => ?_)
          obtain ⟨n_7224, n_7225⟩ := u_7227
          try dsimp only at hw
          obtain ⟨hr_n_7224, hC_n_7225, hf_7228, hf_7229⟩ := hw
          refine lv_lload_n hx hb dX12_judgeRow_36 rfl (lv_at hl 3 rfl) ?_
          refine lv_iload hx hb dX12_judgeRow_37 (lv_at hl 4 rfl) ?_
          refine lv_if_ne (tgt := 46) hx hb dX12_judgeRow_39 (by decide) (fun c_7230 => ?_) (fun c_7230 => ?_)
          · have b_7231 := z_fneT c_7230
            refine lv_aload_n hx hb dX12_judgeRow_46 rfl (lv_at hl 0 rfl) ?_
            refine va_get (D := G) (ci := 12) (v := .ref a_c) (C := RX12) (T := TX12) (N := 65) hx hb hts inT12 hown hK hP 2 rfl rfl 20 (by decide) (hts _ tw_1905) (fun _ h9 => h9) rfl dX12_judgeRow_47 ?_
            refine lv_bipush (v := 8) hx hb dX12_judgeRow_50 (by decide) ?_
            refine va_iald hx hb hK hP 3 0 rfl rfl (z_in (i := 8) (n := 1825) (by decide +kernel) (by decide +kernel)) dX12_judgeRow_52 ?_
            refine lv_topi (fun x_7232 he_x_7232 => ?_)
            have hr_x_7232 := z_ctk hC_g_c he_x_7232 (k := 8) (lo := 0) (hi := 99) (by decide +kernel) (by decide +kernel) (by decide +kernel)
            refine lv_i2l (v := (x_7232).toInt64) hx hb dX12_judgeRow_53 rfl ?_
            refine lv_topl (fun x_7233 he_x_7233 => ?_)
            have hq_x_7233 := z_i2l he_x_7233
            refine lv_ladd hx hb dX12_judgeRow_54 ?_
            have hL_v_5456 := z_fulll v_5456
            refine lv_topl (fun x_7234 he_x_7234 => ?_)
            refine lv_lstore_n (lv' := [(3, .long x_7234), (0, .ref h0), (1, .int nn), (2, .int d), (5, .int v_5457)]) hx hb dX12_judgeRow_55 rfl hl (by decide) rfl (fun ls hl => ?_)
            refine lv_aload_n hx hb dX12_judgeRow_56 rfl (lv_at hl 1 rfl) ?_
            refine lv_iload_n hx hb dX12_judgeRow_57 rfl (lv_at hl 3 rfl) ?_
            refine z_callVi (As := [.int d]) (rest := []) (wr := [(a_tried, .inl (cA.1 0, 10, .inl g_tried)), (a_order, .inl (cA.1 0, 10, .inl g_order))]) ⟨hx, hb, hml, hown, hts⟩ hK hE hT hP hD hS hA (r_hasOpener l G cA h0 m_status m_thrown m_above m_under a_traySort a_trayMany a_numbers a_tape m_taped m_textEnd m_faultKind m_faultAt m_bad m_badAt m_token m_at m_behind m_number m_letters m_word a_c a_words m_markMany a_there a_tried a_best a_found n_7224 m_foundMany m_orderHow m_orderRing m_orderMany m_hasBest m_bestTop m_bestBy a_weights a_shared m_random m_truePlace m_trueWay m_seconds m_done m_feelings m_tries m_leftOver m_playDoor m_playRing m_isOpen m_isOver m_wasTried m_hasPlayed a_feltNow a_last a_kept m_hasSeconds m_hasTurned m_hasRound a_hasFeels a_isOn m_firstAct v_5459 v_5460 a_order m_rowMany m_newSteps g_c n_7225 d hr_d hr_n_7224 hC_g_c hC_n_7225) lk_RX12_438 ⟨rfl, rfl⟩ ⟨Nat.le_of_ble_eq_true rfl, Nat.le_of_ble_eq_true rfl⟩ 12 rfl rfl rfl [2, 3, 4] [0, 1] rfl rfl (by decide) rfl hl.1 rfl (lv_room (Nat.le_of_ble_eq_true rfl)) dX12_judgeRow_58 ⟨Nat.le_of_ble_eq_true rfl, Nat.le_of_ble_eq_true rfl⟩ (fun r_7235 u_7236 H locs hw hP hD hS => ?_)
            rcases hw with ⟨rfl, -⟩ | ⟨rfl, -⟩
            · skip
              refine lv_if_ne (tgt := 101) hx hb dX12_judgeRow_61 (by decide) (fun h9 => absurd (by decide +kernel) h9) (fun _ => ?_)
              refine lv_lload_n hx hb dX12_judgeRow_64 rfl (lv_at hl 0 rfl) ?_
              refine lv_aload_n hx hb dX12_judgeRow_65 rfl (lv_at hl 1 rfl) ?_
              refine va_get (D := G) (ci := 12) (v := .int n_7224) (C := RX12) (T := TX12) (N := 65) hx hb hts inT12 hown hK hP 2 rfl rfl 27 (by decide) (hts _ tw_1912) (fun _ h9 => h9) rfl dX12_judgeRow_66 ?_
              refine lv_i2l (v := (n_7224).toInt64) hx hb dX12_judgeRow_69 rfl ?_
              refine lv_topl (fun x_7237 he_x_7237 => ?_)
              have hq_x_7237 := z_i2l he_x_7237
              refine lv_aload_n hx hb dX12_judgeRow_70 rfl (lv_at hl 1 rfl) ?_
              refine va_get (D := G) (ci := 12) (v := .ref a_c) (C := RX12) (T := TX12) (N := 65) hx hb hts inT12 hown hK hP 2 rfl rfl 20 (by decide) (hts _ tw_1905) (fun _ h9 => h9) rfl dX12_judgeRow_71 ?_
              refine lv_bipush (v := 6) hx hb dX12_judgeRow_74 (by decide) ?_
              refine va_iald hx hb hK hP 3 0 rfl rfl (z_in (i := 6) (n := 1825) (by decide +kernel) (by decide +kernel)) dX12_judgeRow_76 ?_
              refine lv_topi (fun x_7238 he_x_7238 => ?_)
              have hr_x_7238 := z_ctk hC_g_c he_x_7238 (k := 6) (lo := 0) (hi := 99) (by decide +kernel) (by decide +kernel) (by decide +kernel)
              refine lv_i2l (v := (x_7238).toInt64) hx hb dX12_judgeRow_77 rfl ?_
              refine lv_topl (fun x_7239 he_x_7239 => ?_)
              have hq_x_7239 := z_i2l he_x_7239
              refine lv_lmul hx hb dX12_judgeRow_78 ?_
              refine lv_topl (fun x_7240 he_x_7240 => ?_)
              have hr_x_7240 := z_mulrl he_x_7240 (M := 10) (N := 99) (by omega) (by omega) (by decide)
              have hm_x_7240 := z_mulpl he_x_7240 (M := 10) (N := 99) (by omega) (by omega) (by decide)
              refine lv_aload_n hx hb dX12_judgeRow_79 rfl (lv_at hl 1 rfl) ?_
              refine va_get (D := G) (ci := 12) (v := .int n_7224) (C := RX12) (T := TX12) (N := 65) hx hb hts inT12 hown hK hP 2 rfl rfl 27 (by decide) (hts _ tw_1912) (fun _ h9 => h9) rfl dX12_judgeRow_80 ?_
              refine lv_i2l (v := (n_7224).toInt64) hx hb dX12_judgeRow_83 rfl ?_
              refine lv_topl (fun x_7241 he_x_7241 => ?_)
              have hq_x_7241 := z_i2l he_x_7241
              refine lv_lconst (v := 1) hx hb dX12_judgeRow_84 (by decide) ?_
              refine lv_lsub hx hb dX12_judgeRow_85 ?_
              refine lv_topl (fun x_7242 he_x_7242 => ?_)
              have hq_x_7242 := z_subql he_x_7242 (rfl : x_7241.toInt = _) hkl_1 (by omega) (by omega)
              refine lv_aload_n hx hb dX12_judgeRow_86 rfl (lv_at hl 1 rfl) ?_
              refine va_get (D := G) (ci := 12) (v := .ref a_c) (C := RX12) (T := TX12) (N := 65) hx hb hts inT12 hown hK hP 2 rfl rfl 20 (by decide) (hts _ tw_1905) (fun _ h9 => h9) rfl dX12_judgeRow_87 ?_
              refine lv_bipush (v := 7) hx hb dX12_judgeRow_90 (by decide) ?_
              refine va_iald hx hb hK hP 3 0 rfl rfl (z_in (i := 7) (n := 1825) (by decide +kernel) (by decide +kernel)) dX12_judgeRow_92 ?_
              refine lv_topi (fun x_7243 he_x_7243 => ?_)
              have hr_x_7243 := z_ctk hC_g_c he_x_7243 (k := 7) (lo := 0) (hi := 99) (by decide +kernel) (by decide +kernel) (by decide +kernel)
              refine lv_i2l (v := (x_7243).toInt64) hx hb dX12_judgeRow_93 rfl ?_
              refine lv_topl (fun x_7244 he_x_7244 => ?_)
              have hq_x_7244 := z_i2l he_x_7244
              refine lv_lmul hx hb dX12_judgeRow_94 ?_
              refine lv_topl (fun x_7245 he_x_7245 => ?_)
              refine lv_ladd hx hb dX12_judgeRow_95 ?_
              have hL_x_7245 := z_fulll x_7245
              refine lv_topl (fun x_7246 he_x_7246 => ?_)
              refine lv_ladd hx hb dX12_judgeRow_96 ?_
              have hL_x_7234 := z_fulll x_7234
              have hL_x_7246 := z_fulll x_7246
              refine lv_topl (fun x_7247 he_x_7247 => ?_)
              refine lv_lstore_n (lv' := [(3, .long x_7247), (0, .ref h0), (1, .int nn), (2, .int d), (5, .int v_5457)]) hx hb dX12_judgeRow_97 rfl hl (by decide) rfl (fun ls hl => ?_)
              refine lv_goto (tgt := 196) hx hb dX12_judgeRow_98 (by decide) ?_
              obtain ⟨x_7248, he_x_7248⟩ : ∃ z : Int32, z = v_5457 + 1 := ⟨_, rfl⟩
              have hq_x_7248 := z_addq he_x_7248 (rfl : v_5457.toInt = _) hk_1 (by omega) (by omega)
              refine lv_iinc (v := x_7248) (lv' := [(5, .int x_7248), (3, .long x_7247), (0, .ref h0), (1, .int nn), (2, .int d)]) hx hb dX12_judgeRow_196 hl (k := 4) rfl ((z_ofi (by decide +kernel)).trans he_x_7248.symm) (by decide) rfl (fun ls hl => ?_)
              refine lv_goto (tgt := 10) hx hb dX12_judgeRow_199 (by decide) ?_
              have hP := hP.sub (ws' := [(h0, .inr (12, [.int m_status, .int m_thrown, .long m_above, .long m_under, .ref a_traySort, .ref a_trayMany, .ref a_numbers, .ref a_tape, .int m_taped, .int m_textEnd, .int m_faultKind, .int m_faultAt, .int m_bad, .int m_badAt, .int m_token, .int m_at, .int m_behind, .int m_number, .int m_letters, .long m_word, .ref a_c, .ref a_words, .int m_markMany, .ref a_there, .ref a_tried, .ref a_best, .ref a_found, .int n_7224, .int m_foundMany, .int m_orderHow, .int m_orderRing, .int m_orderMany, .int m_hasBest, .long m_bestTop, .long m_bestBy, .ref a_weights, .ref a_shared, .int m_random, .int m_truePlace, .int m_trueWay, .int m_seconds, .int m_done, .int m_feelings, .int m_tries, .int m_leftOver, .int m_playDoor, .int m_playRing, .int m_isOpen, .int m_isOver, .int m_wasTried, .int m_hasPlayed, .ref a_feltNow, .ref a_last, .ref a_kept, .int m_hasSeconds, .int m_hasTurned, .int m_hasRound, .ref a_hasFeels, .ref a_isOn, .int m_firstAct, .long v_5459, .long v_5460, .ref a_order, .int m_rowMany, .int m_newSteps])), (a_c, .inl (cA.1 0, 1825, .inl g_c)), (a_there, .inl (cA.1 0, 10, .inl n_7225)), (a_tried, .inl (cA.1 0, 10, .inl g_tried)), (a_order, .inl (cA.1 0, 10, .inl g_order))]) [2, 3, 4, 0, 1] rfl
              have hD := hD.sub (ws' := [(h0, .inr (12, [.int m_status, .int m_thrown, .long m_above, .long m_under, .ref a_traySort, .ref a_trayMany, .ref a_numbers, .ref a_tape, .int m_taped, .int m_textEnd, .int m_faultKind, .int m_faultAt, .int m_bad, .int m_badAt, .int m_token, .int m_at, .int m_behind, .int m_number, .int m_letters, .long m_word, .ref a_c, .ref a_words, .int m_markMany, .ref a_there, .ref a_tried, .ref a_best, .ref a_found, .int n_7224, .int m_foundMany, .int m_orderHow, .int m_orderRing, .int m_orderMany, .int m_hasBest, .long m_bestTop, .long m_bestBy, .ref a_weights, .ref a_shared, .int m_random, .int m_truePlace, .int m_trueWay, .int m_seconds, .int m_done, .int m_feelings, .int m_tries, .int m_leftOver, .int m_playDoor, .int m_playRing, .int m_isOpen, .int m_isOver, .int m_wasTried, .int m_hasPlayed, .ref a_feltNow, .ref a_last, .ref a_kept, .int m_hasSeconds, .int m_hasTurned, .int m_hasRound, .ref a_hasFeels, .ref a_isOn, .int m_firstAct, .long v_5459, .long v_5460, .ref a_order, .int m_rowMany, .int m_newSteps])), (a_c, .inl (cA.1 0, 1825, .inl g_c)), (a_there, .inl (cA.1 0, 10, .inl n_7225)), (a_tried, .inl (cA.1 0, 10, .inl g_tried)), (a_order, .inl (cA.1 0, 10, .inl g_order))]) [2, 3, 4, 0, 1] (by decide) rfl
              exact ih_7017 x_7247 x_7248 n_7224 v_5459 v_5460 n_7225 H locs ls (by omega) (by omega) hr_n_7224 hr_v_5460 hC_n_7225 hP hD hS (lv_sub hl [2, 3, 4, 1, 0] rfl)
            · skip
              refine lv_if_ne (tgt := 101) hx hb dX12_judgeRow_61 (by decide) (fun _ => ?_) (fun h9 => absurd h9 (by decide +kernel))
              refine lv_aload_n hx hb dX12_judgeRow_101 rfl (lv_at hl 1 rfl) ?_
              refine lv_ldc2 (v := 16) hx hb hown (hts _ tw_2470) dX12_judgeRow_102 ?_
              refine lv_aload_n hx hb dX12_judgeRow_105 rfl (lv_at hl 1 rfl) ?_
              refine va_get (D := G) (ci := 12) (v := .int n_7224) (C := RX12) (T := TX12) (N := 65) hx hb hts inT12 hown hK hP 2 rfl rfl 27 (by decide) (hts _ tw_1912) (fun _ h9 => h9) rfl dX12_judgeRow_106 ?_
              refine lv_i2l (v := (n_7224).toInt64) hx hb dX12_judgeRow_109 rfl ?_
              refine lv_topl (fun x_7249 he_x_7249 => ?_)
              have hq_x_7249 := z_i2l he_x_7249
              refine lv_lmul hx hb dX12_judgeRow_110 ?_
              refine lv_topl (fun x_7250 he_x_7250 => ?_)
              have hq_x_7250 := z_mulql he_x_7250 hkl_16 (rfl : x_7249.toInt = _) (by omega) (by omega)
              refine va_put (D := G) (ci := 12) (v := .long x_7250) (ty := .long) (C := RX12) (T := TX12) (N := 65) hx hb hts inT12 tyX12 tyX12_ok nmX12 hown hK hP hD hS 2 rfl rfl 61 (by decide) (hts _ tw_1944) (fun _ h9 => h9) rfl (tyX12_ok 61 (by decide)) rfl rfl (Nat.le_of_ble_eq_true rfl) dX12_judgeRow_111 (fun H locs hP hD hS => ?_)
              refine lv_aload_n hx hb dX12_judgeRow_114 rfl (lv_at hl 1 rfl) ?_
              refine lv_lload_n hx hb dX12_judgeRow_115 rfl (lv_at hl 0 rfl) ?_
              refine lv_aload_n hx hb dX12_judgeRow_116 rfl (lv_at hl 1 rfl) ?_
              refine va_get (D := G) (ci := 12) (v := .long x_7250) (C := RX12) (T := TX12) (N := 65) hx hb hts inT12 hown hK hP 2 rfl rfl 61 (by decide) (hts _ tw_1944) (fun _ h9 => h9) rfl dX12_judgeRow_117 ?_
              refine lv_lmul hx hb dX12_judgeRow_120 ?_
              have hL_x_7234 := z_fulll x_7234
              refine lv_topl (fun x_7251 he_x_7251 => ?_)
              refine va_put (D := G) (ci := 12) (v := .long x_7251) (ty := .long) (C := RX12) (T := TX12) (N := 65) hx hb hts inT12 tyX12 tyX12_ok nmX12 hown hK hP hD hS 2 rfl rfl 60 (by decide) (hts _ tw_1943) (fun _ h9 => h9) rfl (tyX12_ok 60 (by decide)) rfl rfl (Nat.le_of_ble_eq_true rfl) dX12_judgeRow_121 (fun H locs hP hD hS => ?_)
              refine lv_iconst (v := 0) hx hb dX12_judgeRow_124 (by decide) ?_
              refine lv_istore (lv' := [(6, .int 0), (3, .long x_7234), (0, .ref h0), (1, .int nn), (2, .int d), (5, .int v_5457)]) hx hb dX12_judgeRow_125 hl (by decide) rfl (fun ls hl => ?_)
              have hlp_7966 : ∀ (n : Nat) (v_7931 : Int32) (v_7932 : Int64) (H : Heap) (locs : List Loc) (ls : Array Slot), (2147483647 - v_7931.toInt).toNat < n → (0 ≤ v_7931.toInt ∧ v_7931.toInt ≤ 20) → va_P G vwCl [(a_tried, .inl (cA.1 0, 10, .inl g_tried)), (a_order, .inl (cA.1 0, 10, .inl g_order)), (h0, .inr (12, [.int m_status, .int m_thrown, .long m_above, .long m_under, .ref a_traySort, .ref a_trayMany, .ref a_numbers, .ref a_tape, .int m_taped, .int m_textEnd, .int m_faultKind, .int m_faultAt, .int m_bad, .int m_badAt, .int m_token, .int m_at, .int m_behind, .int m_number, .int m_letters, .long m_word, .ref a_c, .ref a_words, .int m_markMany, .ref a_there, .ref a_tried, .ref a_best, .ref a_found, .int n_7224, .int m_foundMany, .int m_orderHow, .int m_orderRing, .int m_orderMany, .int m_hasBest, .long m_bestTop, .long m_bestBy, .ref a_weights, .ref a_shared, .int m_random, .int m_truePlace, .int m_trueWay, .int m_seconds, .int m_done, .int m_feelings, .int m_tries, .int m_leftOver, .int m_playDoor, .int m_playRing, .int m_isOpen, .int m_isOver, .int m_wasTried, .int m_hasPlayed, .ref a_feltNow, .ref a_last, .ref a_kept, .int m_hasSeconds, .int m_hasTurned, .int m_hasRound, .ref a_hasFeels, .ref a_isOn, .int m_firstAct, .long v_7932, .long x_7250, .ref a_order, .int m_rowMany, .int m_newSteps])), (a_c, .inl (cA.1 0, 1825, .inl g_c)), (a_there, .inl (cA.1 0, 10, .inl n_7225))] H → va_D A [(a_tried, .inl (cA.1 0, 10, .inl g_tried)), (a_order, .inl (cA.1 0, 10, .inl g_order)), (h0, .inr (12, [.int m_status, .int m_thrown, .long m_above, .long m_under, .ref a_traySort, .ref a_trayMany, .ref a_numbers, .ref a_tape, .int m_taped, .int m_textEnd, .int m_faultKind, .int m_faultAt, .int m_bad, .int m_badAt, .int m_token, .int m_at, .int m_behind, .int m_number, .int m_letters, .long m_word, .ref a_c, .ref a_words, .int m_markMany, .ref a_there, .ref a_tried, .ref a_best, .ref a_found, .int n_7224, .int m_foundMany, .int m_orderHow, .int m_orderRing, .int m_orderMany, .int m_hasBest, .long m_bestTop, .long m_bestBy, .ref a_weights, .ref a_shared, .int m_random, .int m_truePlace, .int m_trueWay, .int m_seconds, .int m_done, .int m_feelings, .int m_tries, .int m_leftOver, .int m_playDoor, .int m_playRing, .int m_isOpen, .int m_isOver, .int m_wasTried, .int m_hasPlayed, .ref a_feltNow, .ref a_last, .ref a_kept, .int m_hasSeconds, .int m_hasTurned, .int m_hasRound, .ref a_hasFeels, .ref a_isOn, .int m_firstAct, .long v_7932, .long x_7250, .ref a_order, .int m_rowMany, .int m_newSteps])), (a_c, .inl (cA.1 0, 1825, .inl g_c)), (a_there, .inl (cA.1 0, 10, .inl n_7225))] → va_S A s.heap H locs → lv_has ls 7 [(0, .ref h0), (1, .int nn), (2, .int d), (3, .long x_7234), (5, .int v_5457), (6, .int v_7931)] → W p l e ({ frames := 2, cells := 0, slots := 0, locals := 48 }) s m args below meth c H locs 0 0 Q (F0 m 127 ls []) := by
                intro n
                induction n with
                | zero =>
                  intro v_7931 v_7932 H locs ls hmu_hlp_7966 hr_v_7931 hP hD hS hl
                  exact absurd hmu_hlp_7966 (Nat.not_lt_zero _)
                | succ n ih_7967 =>
                  intro v_7931 v_7932 H locs ls hmu_hlp_7966 hr_v_7931 hP hD hS hl
                  refine lv_iload hx hb dX12_judgeRow_127 (lv_at hl 5 rfl) ?_
                  refine lv_iconst (v := 2) hx hb dX12_judgeRow_129 (by decide) ?_
                  refine lv_aload_n hx hb dX12_judgeRow_130 rfl (lv_at hl 0 rfl) ?_
                  refine va_get (D := G) (ci := 12) (v := .int n_7224) (C := RX12) (T := TX12) (N := 65) hx hb hts inT12 hown hK hP 2 rfl rfl 27 (by decide) (hts _ tw_1912) (fun _ h9 => h9) rfl dX12_judgeRow_131 ?_
                  refine lv_imul hx hb dX12_judgeRow_134 ?_
                  refine lv_topi (fun x_7968 he_x_7968 => ?_)
                  have hq_x_7968 := z_mulq he_x_7968 hk_2 (rfl : n_7224.toInt = _) (by omega) (by omega)
                  refine lv_icmp_ge (tgt := 196) hx hb dX12_judgeRow_135 (by decide) (fun c_7969 => ?_) (fun c_7969 => ?_)
                  · have b_7970 := z_fgeT c_7969
                    obtain ⟨x_7971, he_x_7971⟩ : ∃ z : Int32, z = v_5457 + 1 := ⟨_, rfl⟩
                    have hq_x_7971 := z_addq he_x_7971 (rfl : v_5457.toInt = _) hk_1 (by omega) (by omega)
                    refine lv_iinc (v := x_7971) (lv' := [(5, .int x_7971), (0, .ref h0), (1, .int nn), (2, .int d), (3, .long x_7234), (6, .int v_7931)]) hx hb dX12_judgeRow_196 hl (k := 4) rfl ((z_ofi (by decide +kernel)).trans he_x_7971.symm) (by decide) rfl (fun ls hl => ?_)
                    refine lv_goto (tgt := 10) hx hb dX12_judgeRow_199 (by decide) ?_
                    have hP := hP.sub (ws' := [(h0, .inr (12, [.int m_status, .int m_thrown, .long m_above, .long m_under, .ref a_traySort, .ref a_trayMany, .ref a_numbers, .ref a_tape, .int m_taped, .int m_textEnd, .int m_faultKind, .int m_faultAt, .int m_bad, .int m_badAt, .int m_token, .int m_at, .int m_behind, .int m_number, .int m_letters, .long m_word, .ref a_c, .ref a_words, .int m_markMany, .ref a_there, .ref a_tried, .ref a_best, .ref a_found, .int n_7224, .int m_foundMany, .int m_orderHow, .int m_orderRing, .int m_orderMany, .int m_hasBest, .long m_bestTop, .long m_bestBy, .ref a_weights, .ref a_shared, .int m_random, .int m_truePlace, .int m_trueWay, .int m_seconds, .int m_done, .int m_feelings, .int m_tries, .int m_leftOver, .int m_playDoor, .int m_playRing, .int m_isOpen, .int m_isOver, .int m_wasTried, .int m_hasPlayed, .ref a_feltNow, .ref a_last, .ref a_kept, .int m_hasSeconds, .int m_hasTurned, .int m_hasRound, .ref a_hasFeels, .ref a_isOn, .int m_firstAct, .long v_7932, .long x_7250, .ref a_order, .int m_rowMany, .int m_newSteps])), (a_c, .inl (cA.1 0, 1825, .inl g_c)), (a_there, .inl (cA.1 0, 10, .inl n_7225)), (a_tried, .inl (cA.1 0, 10, .inl g_tried)), (a_order, .inl (cA.1 0, 10, .inl g_order))]) [2, 3, 4, 0, 1] rfl
                    have hD := hD.sub (ws' := [(h0, .inr (12, [.int m_status, .int m_thrown, .long m_above, .long m_under, .ref a_traySort, .ref a_trayMany, .ref a_numbers, .ref a_tape, .int m_taped, .int m_textEnd, .int m_faultKind, .int m_faultAt, .int m_bad, .int m_badAt, .int m_token, .int m_at, .int m_behind, .int m_number, .int m_letters, .long m_word, .ref a_c, .ref a_words, .int m_markMany, .ref a_there, .ref a_tried, .ref a_best, .ref a_found, .int n_7224, .int m_foundMany, .int m_orderHow, .int m_orderRing, .int m_orderMany, .int m_hasBest, .long m_bestTop, .long m_bestBy, .ref a_weights, .ref a_shared, .int m_random, .int m_truePlace, .int m_trueWay, .int m_seconds, .int m_done, .int m_feelings, .int m_tries, .int m_leftOver, .int m_playDoor, .int m_playRing, .int m_isOpen, .int m_isOver, .int m_wasTried, .int m_hasPlayed, .ref a_feltNow, .ref a_last, .ref a_kept, .int m_hasSeconds, .int m_hasTurned, .int m_hasRound, .ref a_hasFeels, .ref a_isOn, .int m_firstAct, .long v_7932, .long x_7250, .ref a_order, .int m_rowMany, .int m_newSteps])), (a_c, .inl (cA.1 0, 1825, .inl g_c)), (a_there, .inl (cA.1 0, 10, .inl n_7225)), (a_tried, .inl (cA.1 0, 10, .inl g_tried)), (a_order, .inl (cA.1 0, 10, .inl g_order))]) [2, 3, 4, 0, 1] (by decide) rfl
                    exact ih_7017 x_7234 x_7971 n_7224 v_7932 x_7250 n_7225 H locs ls (by omega) (by omega) hr_n_7224 (by omega) hC_n_7225 hP hD hS (lv_sub hl [1, 2, 3, 4, 0] rfl)
                  · have b_7972 := z_fltF c_7969
                    refine lv_aload_n hx hb dX12_judgeRow_138 rfl (lv_at hl 0 rfl) ?_
                    refine lv_dup hx hb dX12_judgeRow_139 rfl ?_
                    refine va_get (D := G) (ci := 12) (v := .long v_7932) (C := RX12) (T := TX12) (N := 65) hx hb hts inT12 hown hK hP 2 rfl rfl 60 (by decide) (hts _ tw_1943) (fun _ h9 => h9) rfl dX12_judgeRow_140 ?_
                    refine lv_iload hx hb dX12_judgeRow_143 (lv_at hl 5 rfl) ?_
                    refine lv_iconst (v := 2) hx hb dX12_judgeRow_145 (by decide) ?_
                    refine lv_irem hx hb dX12_judgeRow_146 (by decide +kernel) ?_
                    refine lv_topi (fun x_7973 he_x_7973 => ?_)
                    have hq_x_7973 := z_remq he_x_7973 (rfl : v_7931.toInt = _) hk_2 (by omega) (by decide)
                    refine lv_if_ne (tgt := 163) hx hb dX12_judgeRow_147 (by decide) (fun c_7974 => ?_) (fun c_7974 => ?_)
                    · have b_7975 := z_fneT c_7974
                      refine lv_aload_n hx hb dX12_judgeRow_163 rfl (lv_at hl 0 rfl) ?_
                      refine va_get (D := G) (ci := 12) (v := .ref a_c) (C := RX12) (T := TX12) (N := 65) hx hb hts inT12 hown hK hP 2 rfl rfl 20 (by decide) (hts _ tw_1905) (fun _ h9 => h9) rfl dX12_judgeRow_164 ?_
                      refine lv_bipush (v := 9) hx hb dX12_judgeRow_167 (by decide) ?_
                      refine va_iald hx hb hK hP 3 0 rfl rfl (z_in (i := 9) (n := 1825) (by decide +kernel) (by decide +kernel)) dX12_judgeRow_169 ?_
                      refine lv_topi (fun x_7976 he_x_7976 => ?_)
                      refine lv_i2l (v := (x_7976).toInt64) hx hb dX12_judgeRow_170 rfl ?_
                      refine lv_topl (fun x_7977 he_x_7977 => ?_)
                      have hq_x_7977 := z_i2l he_x_7977
                      have hL_x_7976 := z_full x_7976
                      refine lv_aload_n hx hb dX12_judgeRow_171 rfl (lv_at hl 0 rfl) ?_
                      refine lv_iload_n hx hb dX12_judgeRow_172 rfl (lv_at hl 2 rfl) ?_
                      refine lv_iload hx hb dX12_judgeRow_173 (lv_at hl 5 rfl) ?_
                      refine lv_iconst (v := 2) hx hb dX12_judgeRow_175 (by decide) ?_
                      refine lv_idiv hx hb dX12_judgeRow_176 (by decide +kernel) ?_
                      refine lv_topi (fun x_7978 he_x_7978 => ?_)
                      have hq_x_7978 := z_divq he_x_7978 (rfl : v_7931.toInt = _) hk_2 (by omega) (by decide)
                      refine lv_iload hx hb dX12_judgeRow_177 (lv_at hl 5 rfl) ?_
                      refine lv_iconst (v := 2) hx hb dX12_judgeRow_179 (by decide) ?_
                      refine lv_irem hx hb dX12_judgeRow_180 (by decide +kernel) ?_
                      refine lv_topi (fun x_7979 he_x_7979 => ?_)
                      have hq_x_7979 := z_remq he_x_7979 (rfl : v_7931.toInt = _) hk_2 (by omega) (by decide)
                      refine z_callVi (As := [.int d, .int x_7978, .int x_7979]) (rest := [.long x_7977, .long v_7932, .ref h0]) (wr := [(a_tried, .inl (cA.1 0, 10, .inl g_tried)), (a_order, .inl (cA.1 0, 10, .inl g_order))]) ⟨hx, hb, hml, hown, hts⟩ hK hE hT hP hD hS hA (r_search l G cA h0 m_status m_thrown m_above m_under a_traySort a_trayMany a_numbers a_tape m_taped m_textEnd m_faultKind m_faultAt m_bad m_badAt m_token m_at m_behind m_number m_letters m_word a_c a_words m_markMany a_there a_tried a_best a_found n_7224 m_foundMany m_orderHow m_orderRing m_orderMany m_hasBest m_bestTop m_bestBy a_weights a_shared m_random m_truePlace m_trueWay m_seconds m_done m_feelings m_tries m_leftOver m_playDoor m_playRing m_isOpen m_isOver m_wasTried m_hasPlayed a_feltNow a_last a_kept m_hasSeconds m_hasTurned m_hasRound a_hasFeels a_isOn m_firstAct v_7932 x_7250 a_order m_rowMany m_newSteps g_c n_7225 d x_7978 x_7979 hr_d (by omega) (by omega) hr_n_7224 hC_g_c hC_n_7225 (by omega)) lk_RX12_387 ⟨rfl, rfl⟩ ⟨Nat.le_of_ble_eq_true rfl, Nat.le_of_ble_eq_true rfl⟩ 12 rfl rfl rfl [2, 3, 4] [0, 1] rfl rfl (by decide) rfl hl.1 rfl (lv_room (Nat.le_of_ble_eq_true rfl)) dX12_judgeRow_181 ⟨Nat.le_of_ble_eq_true rfl, Nat.le_of_ble_eq_true rfl⟩ (fun r_7980 u_7981 H locs hw hP hD hS => ?_)
                      obtain ⟨hr_r_7980, hf_7982, hf_7983⟩ := hw
                      refine lv_i2l (v := (r_7980).toInt64) hx hb dX12_judgeRow_184 rfl ?_
                      refine lv_topl (fun x_7984 he_x_7984 => ?_)
                      have hq_x_7984 := z_i2l he_x_7984
                      refine lv_lmul hx hb dX12_judgeRow_185 ?_
                      refine lv_topl (fun x_7985 he_x_7985 => ?_)
                      refine lv_ladd hx hb dX12_judgeRow_186 ?_
                      have hL_v_7932 := z_fulll v_7932
                      have hL_x_7985 := z_fulll x_7985
                      refine lv_topl (fun x_7986 he_x_7986 => ?_)
                      refine va_put (D := G) (ci := 12) (v := .long x_7986) (ty := .long) (C := RX12) (T := TX12) (N := 65) hx hb hts inT12 tyX12 tyX12_ok nmX12 hown hK hP hD hS 2 rfl rfl 60 (by decide) (hts _ tw_1943) (fun _ h9 => h9) rfl (tyX12_ok 60 (by decide)) rfl rfl (Nat.le_of_ble_eq_true rfl) dX12_judgeRow_187 (fun H locs hP hD hS => ?_)
                      obtain ⟨x_7987, he_x_7987⟩ : ∃ z : Int32, z = v_7931 + 1 := ⟨_, rfl⟩
                      have hq_x_7987 := z_addq he_x_7987 (rfl : v_7931.toInt = _) hk_1 (by omega) (by omega)
                      refine lv_iinc (v := x_7987) (lv' := [(6, .int x_7987), (0, .ref h0), (1, .int nn), (2, .int d), (3, .long x_7234), (5, .int v_5457)]) hx hb dX12_judgeRow_190 hl (k := 5) rfl ((z_ofi (by decide +kernel)).trans he_x_7987.symm) (by decide) rfl (fun ls hl => ?_)
                      refine lv_goto (tgt := 127) hx hb dX12_judgeRow_193 (by decide) ?_
                      exact ih_7967 x_7987 x_7986 H locs ls (by omega) (by omega) hP hD hS (lv_sub hl [1, 2, 3, 4, 5, 0] rfl)
                    · have b_7988 := z_feqF c_7974
                      refine lv_bipush (v := 16) hx hb dX12_judgeRow_150 (by decide) ?_
                      refine lv_aload_n hx hb dX12_judgeRow_152 rfl (lv_at hl 0 rfl) ?_
                      refine va_get (D := G) (ci := 12) (v := .ref a_c) (C := RX12) (T := TX12) (N := 65) hx hb hts inT12 hown hK hP 2 rfl rfl 20 (by decide) (hts _ tw_1905) (fun _ h9 => h9) rfl dX12_judgeRow_153 ?_
                      refine lv_bipush (v := 9) hx hb dX12_judgeRow_156 (by decide) ?_
                      refine va_iald hx hb hK hP 3 0 rfl rfl (z_in (i := 9) (n := 1825) (by decide +kernel) (by decide +kernel)) dX12_judgeRow_158 ?_
                      refine lv_topi (fun x_7989 he_x_7989 => ?_)
                      refine lv_isub hx hb dX12_judgeRow_159 ?_
                      have hL_x_7989 := z_full x_7989
                      refine lv_topi (fun x_7990 he_x_7990 => ?_)
                      refine lv_goto (tgt := 170) hx hb dX12_judgeRow_160 (by decide) ?_
                      refine lv_i2l (v := (x_7990).toInt64) hx hb dX12_judgeRow_170 rfl ?_
                      refine lv_topl (fun x_7991 he_x_7991 => ?_)
                      have hq_x_7991 := z_i2l he_x_7991
                      have hL_x_7990 := z_full x_7990
                      refine lv_aload_n hx hb dX12_judgeRow_171 rfl (lv_at hl 0 rfl) ?_
                      refine lv_iload_n hx hb dX12_judgeRow_172 rfl (lv_at hl 2 rfl) ?_
                      refine lv_iload hx hb dX12_judgeRow_173 (lv_at hl 5 rfl) ?_
                      refine lv_iconst (v := 2) hx hb dX12_judgeRow_175 (by decide) ?_
                      refine lv_idiv hx hb dX12_judgeRow_176 (by decide +kernel) ?_
                      refine lv_topi (fun x_7992 he_x_7992 => ?_)
                      have hq_x_7992 := z_divq he_x_7992 (rfl : v_7931.toInt = _) hk_2 (by omega) (by decide)
                      refine lv_iload hx hb dX12_judgeRow_177 (lv_at hl 5 rfl) ?_
                      refine lv_iconst (v := 2) hx hb dX12_judgeRow_179 (by decide) ?_
                      refine lv_irem hx hb dX12_judgeRow_180 (by decide +kernel) ?_
                      refine lv_topi (fun x_7993 he_x_7993 => ?_)
                      have hq_x_7993 := z_remq he_x_7993 (rfl : v_7931.toInt = _) hk_2 (by omega) (by decide)
                      refine z_callVi (As := [.int d, .int x_7992, .int x_7993]) (rest := [.long x_7991, .long v_7932, .ref h0]) (wr := [(a_tried, .inl (cA.1 0, 10, .inl g_tried)), (a_order, .inl (cA.1 0, 10, .inl g_order))]) ⟨hx, hb, hml, hown, hts⟩ hK hE hT hP hD hS hA (r_search l G cA h0 m_status m_thrown m_above m_under a_traySort a_trayMany a_numbers a_tape m_taped m_textEnd m_faultKind m_faultAt m_bad m_badAt m_token m_at m_behind m_number m_letters m_word a_c a_words m_markMany a_there a_tried a_best a_found n_7224 m_foundMany m_orderHow m_orderRing m_orderMany m_hasBest m_bestTop m_bestBy a_weights a_shared m_random m_truePlace m_trueWay m_seconds m_done m_feelings m_tries m_leftOver m_playDoor m_playRing m_isOpen m_isOver m_wasTried m_hasPlayed a_feltNow a_last a_kept m_hasSeconds m_hasTurned m_hasRound a_hasFeels a_isOn m_firstAct v_7932 x_7250 a_order m_rowMany m_newSteps g_c n_7225 d x_7992 x_7993 hr_d (by omega) (by omega) hr_n_7224 hC_g_c hC_n_7225 (by omega)) lk_RX12_387 ⟨rfl, rfl⟩ ⟨Nat.le_of_ble_eq_true rfl, Nat.le_of_ble_eq_true rfl⟩ 12 rfl rfl rfl [2, 3, 4] [0, 1] rfl rfl (by decide) rfl hl.1 rfl (lv_room (Nat.le_of_ble_eq_true rfl)) dX12_judgeRow_181 ⟨Nat.le_of_ble_eq_true rfl, Nat.le_of_ble_eq_true rfl⟩ (fun r_7994 u_7995 H locs hw hP hD hS => ?_)
                      obtain ⟨hr_r_7994, hf_7996, hf_7997⟩ := hw
                      refine lv_i2l (v := (r_7994).toInt64) hx hb dX12_judgeRow_184 rfl ?_
                      refine lv_topl (fun x_7998 he_x_7998 => ?_)
                      have hq_x_7998 := z_i2l he_x_7998
                      refine lv_lmul hx hb dX12_judgeRow_185 ?_
                      refine lv_topl (fun x_7999 he_x_7999 => ?_)
                      refine lv_ladd hx hb dX12_judgeRow_186 ?_
                      have hL_v_7932 := z_fulll v_7932
                      have hL_x_7999 := z_fulll x_7999
                      refine lv_topl (fun x_8000 he_x_8000 => ?_)
                      refine va_put (D := G) (ci := 12) (v := .long x_8000) (ty := .long) (C := RX12) (T := TX12) (N := 65) hx hb hts inT12 tyX12 tyX12_ok nmX12 hown hK hP hD hS 2 rfl rfl 60 (by decide) (hts _ tw_1943) (fun _ h9 => h9) rfl (tyX12_ok 60 (by decide)) rfl rfl (Nat.le_of_ble_eq_true rfl) dX12_judgeRow_187 (fun H locs hP hD hS => ?_)
                      obtain ⟨x_8001, he_x_8001⟩ : ∃ z : Int32, z = v_7931 + 1 := ⟨_, rfl⟩
                      have hq_x_8001 := z_addq he_x_8001 (rfl : v_7931.toInt = _) hk_1 (by omega) (by omega)
                      refine lv_iinc (v := x_8001) (lv' := [(6, .int x_8001), (0, .ref h0), (1, .int nn), (2, .int d), (3, .long x_7234), (5, .int v_5457)]) hx hb dX12_judgeRow_190 hl (k := 5) rfl ((z_ofi (by decide +kernel)).trans he_x_8001.symm) (by decide) rfl (fun ls hl => ?_)
                      refine lv_goto (tgt := 127) hx hb dX12_judgeRow_193 (by decide) ?_
                      exact ih_7967 x_8001 x_8000 H locs ls (by omega) (by omega) hP hD hS (lv_sub hl [1, 2, 3, 4, 5, 0] rfl)
              exact hlp_7966 _ 0 x_7251 _ _ _ (Nat.lt_succ_self _) (by decide +kernel) hP hD hS (lv_sub hl [2, 3, 4, 1, 5, 0] rfl)
          · have b_8002 := z_feqF c_7230
            refine lv_lconst (v := 0) hx hb dX12_judgeRow_42 (by decide) ?_
            refine lv_goto (tgt := 54) hx hb dX12_judgeRow_43 (by decide) ?_
            refine lv_ladd hx hb dX12_judgeRow_54 ?_
            have hL_v_5456 := z_fulll v_5456
            refine lv_topl (fun x_8003 he_x_8003 => ?_)
            have hq_x_8003 := z_addql he_x_8003 (rfl : v_5456.toInt = _) hkl_0 (by omega) (by omega)
            refine lv_lstore_n (lv' := [(3, .long x_8003), (0, .ref h0), (1, .int nn), (2, .int d), (5, .int v_5457)]) hx hb dX12_judgeRow_55 rfl hl (by decide) rfl (fun ls hl => ?_)
            refine lv_aload_n hx hb dX12_judgeRow_56 rfl (lv_at hl 1 rfl) ?_
            refine lv_iload_n hx hb dX12_judgeRow_57 rfl (lv_at hl 3 rfl) ?_
            refine z_callVi (As := [.int d]) (rest := []) (wr := [(a_tried, .inl (cA.1 0, 10, .inl g_tried)), (a_order, .inl (cA.1 0, 10, .inl g_order))]) ⟨hx, hb, hml, hown, hts⟩ hK hE hT hP hD hS hA (r_hasOpener l G cA h0 m_status m_thrown m_above m_under a_traySort a_trayMany a_numbers a_tape m_taped m_textEnd m_faultKind m_faultAt m_bad m_badAt m_token m_at m_behind m_number m_letters m_word a_c a_words m_markMany a_there a_tried a_best a_found n_7224 m_foundMany m_orderHow m_orderRing m_orderMany m_hasBest m_bestTop m_bestBy a_weights a_shared m_random m_truePlace m_trueWay m_seconds m_done m_feelings m_tries m_leftOver m_playDoor m_playRing m_isOpen m_isOver m_wasTried m_hasPlayed a_feltNow a_last a_kept m_hasSeconds m_hasTurned m_hasRound a_hasFeels a_isOn m_firstAct v_5459 v_5460 a_order m_rowMany m_newSteps g_c n_7225 d hr_d hr_n_7224 hC_g_c hC_n_7225) lk_RX12_438 ⟨rfl, rfl⟩ ⟨Nat.le_of_ble_eq_true rfl, Nat.le_of_ble_eq_true rfl⟩ 12 rfl rfl rfl [2, 3, 4] [0, 1] rfl rfl (by decide) rfl hl.1 rfl (lv_room (Nat.le_of_ble_eq_true rfl)) dX12_judgeRow_58 ⟨Nat.le_of_ble_eq_true rfl, Nat.le_of_ble_eq_true rfl⟩ (fun r_8004 u_8005 H locs hw hP hD hS => ?_)
            rcases hw with ⟨rfl, -⟩ | ⟨rfl, -⟩
            · skip
              refine lv_if_ne (tgt := 101) hx hb dX12_judgeRow_61 (by decide) (fun h9 => absurd (by decide +kernel) h9) (fun _ => ?_)
              refine lv_lload_n hx hb dX12_judgeRow_64 rfl (lv_at hl 0 rfl) ?_
              refine lv_aload_n hx hb dX12_judgeRow_65 rfl (lv_at hl 1 rfl) ?_
              refine va_get (D := G) (ci := 12) (v := .int n_7224) (C := RX12) (T := TX12) (N := 65) hx hb hts inT12 hown hK hP 2 rfl rfl 27 (by decide) (hts _ tw_1912) (fun _ h9 => h9) rfl dX12_judgeRow_66 ?_
              refine lv_i2l (v := (n_7224).toInt64) hx hb dX12_judgeRow_69 rfl ?_
              refine lv_topl (fun x_8006 he_x_8006 => ?_)
              have hq_x_8006 := z_i2l he_x_8006
              refine lv_aload_n hx hb dX12_judgeRow_70 rfl (lv_at hl 1 rfl) ?_
              refine va_get (D := G) (ci := 12) (v := .ref a_c) (C := RX12) (T := TX12) (N := 65) hx hb hts inT12 hown hK hP 2 rfl rfl 20 (by decide) (hts _ tw_1905) (fun _ h9 => h9) rfl dX12_judgeRow_71 ?_
              refine lv_bipush (v := 6) hx hb dX12_judgeRow_74 (by decide) ?_
              refine va_iald hx hb hK hP 3 0 rfl rfl (z_in (i := 6) (n := 1825) (by decide +kernel) (by decide +kernel)) dX12_judgeRow_76 ?_
              refine lv_topi (fun x_8007 he_x_8007 => ?_)
              have hr_x_8007 := z_ctk hC_g_c he_x_8007 (k := 6) (lo := 0) (hi := 99) (by decide +kernel) (by decide +kernel) (by decide +kernel)
              refine lv_i2l (v := (x_8007).toInt64) hx hb dX12_judgeRow_77 rfl ?_
              refine lv_topl (fun x_8008 he_x_8008 => ?_)
              have hq_x_8008 := z_i2l he_x_8008
              refine lv_lmul hx hb dX12_judgeRow_78 ?_
              refine lv_topl (fun x_8009 he_x_8009 => ?_)
              have hr_x_8009 := z_mulrl he_x_8009 (M := 10) (N := 99) (by omega) (by omega) (by decide)
              have hm_x_8009 := z_mulpl he_x_8009 (M := 10) (N := 99) (by omega) (by omega) (by decide)
              refine lv_aload_n hx hb dX12_judgeRow_79 rfl (lv_at hl 1 rfl) ?_
              refine va_get (D := G) (ci := 12) (v := .int n_7224) (C := RX12) (T := TX12) (N := 65) hx hb hts inT12 hown hK hP 2 rfl rfl 27 (by decide) (hts _ tw_1912) (fun _ h9 => h9) rfl dX12_judgeRow_80 ?_
              refine lv_i2l (v := (n_7224).toInt64) hx hb dX12_judgeRow_83 rfl ?_
              refine lv_topl (fun x_8010 he_x_8010 => ?_)
              have hq_x_8010 := z_i2l he_x_8010
              refine lv_lconst (v := 1) hx hb dX12_judgeRow_84 (by decide) ?_
              refine lv_lsub hx hb dX12_judgeRow_85 ?_
              refine lv_topl (fun x_8011 he_x_8011 => ?_)
              have hq_x_8011 := z_subql he_x_8011 (rfl : x_8010.toInt = _) hkl_1 (by omega) (by omega)
              refine lv_aload_n hx hb dX12_judgeRow_86 rfl (lv_at hl 1 rfl) ?_
              refine va_get (D := G) (ci := 12) (v := .ref a_c) (C := RX12) (T := TX12) (N := 65) hx hb hts inT12 hown hK hP 2 rfl rfl 20 (by decide) (hts _ tw_1905) (fun _ h9 => h9) rfl dX12_judgeRow_87 ?_
              refine lv_bipush (v := 7) hx hb dX12_judgeRow_90 (by decide) ?_
              refine va_iald hx hb hK hP 3 0 rfl rfl (z_in (i := 7) (n := 1825) (by decide +kernel) (by decide +kernel)) dX12_judgeRow_92 ?_
              refine lv_topi (fun x_8012 he_x_8012 => ?_)
              have hr_x_8012 := z_ctk hC_g_c he_x_8012 (k := 7) (lo := 0) (hi := 99) (by decide +kernel) (by decide +kernel) (by decide +kernel)
              refine lv_i2l (v := (x_8012).toInt64) hx hb dX12_judgeRow_93 rfl ?_
              refine lv_topl (fun x_8013 he_x_8013 => ?_)
              have hq_x_8013 := z_i2l he_x_8013
              refine lv_lmul hx hb dX12_judgeRow_94 ?_
              refine lv_topl (fun x_8014 he_x_8014 => ?_)
              refine lv_ladd hx hb dX12_judgeRow_95 ?_
              have hL_x_8014 := z_fulll x_8014
              refine lv_topl (fun x_8015 he_x_8015 => ?_)
              refine lv_ladd hx hb dX12_judgeRow_96 ?_
              have hL_x_8003 := z_fulll x_8003
              have hL_x_8015 := z_fulll x_8015
              refine lv_topl (fun x_8016 he_x_8016 => ?_)
              refine lv_lstore_n (lv' := [(3, .long x_8016), (0, .ref h0), (1, .int nn), (2, .int d), (5, .int v_5457)]) hx hb dX12_judgeRow_97 rfl hl (by decide) rfl (fun ls hl => ?_)
              refine lv_goto (tgt := 196) hx hb dX12_judgeRow_98 (by decide) ?_
              obtain ⟨x_8017, he_x_8017⟩ : ∃ z : Int32, z = v_5457 + 1 := ⟨_, rfl⟩
              have hq_x_8017 := z_addq he_x_8017 (rfl : v_5457.toInt = _) hk_1 (by omega) (by omega)
              refine lv_iinc (v := x_8017) (lv' := [(5, .int x_8017), (3, .long x_8016), (0, .ref h0), (1, .int nn), (2, .int d)]) hx hb dX12_judgeRow_196 hl (k := 4) rfl ((z_ofi (by decide +kernel)).trans he_x_8017.symm) (by decide) rfl (fun ls hl => ?_)
              refine lv_goto (tgt := 10) hx hb dX12_judgeRow_199 (by decide) ?_
              have hP := hP.sub (ws' := [(h0, .inr (12, [.int m_status, .int m_thrown, .long m_above, .long m_under, .ref a_traySort, .ref a_trayMany, .ref a_numbers, .ref a_tape, .int m_taped, .int m_textEnd, .int m_faultKind, .int m_faultAt, .int m_bad, .int m_badAt, .int m_token, .int m_at, .int m_behind, .int m_number, .int m_letters, .long m_word, .ref a_c, .ref a_words, .int m_markMany, .ref a_there, .ref a_tried, .ref a_best, .ref a_found, .int n_7224, .int m_foundMany, .int m_orderHow, .int m_orderRing, .int m_orderMany, .int m_hasBest, .long m_bestTop, .long m_bestBy, .ref a_weights, .ref a_shared, .int m_random, .int m_truePlace, .int m_trueWay, .int m_seconds, .int m_done, .int m_feelings, .int m_tries, .int m_leftOver, .int m_playDoor, .int m_playRing, .int m_isOpen, .int m_isOver, .int m_wasTried, .int m_hasPlayed, .ref a_feltNow, .ref a_last, .ref a_kept, .int m_hasSeconds, .int m_hasTurned, .int m_hasRound, .ref a_hasFeels, .ref a_isOn, .int m_firstAct, .long v_5459, .long v_5460, .ref a_order, .int m_rowMany, .int m_newSteps])), (a_c, .inl (cA.1 0, 1825, .inl g_c)), (a_there, .inl (cA.1 0, 10, .inl n_7225)), (a_tried, .inl (cA.1 0, 10, .inl g_tried)), (a_order, .inl (cA.1 0, 10, .inl g_order))]) [2, 3, 4, 0, 1] rfl
              have hD := hD.sub (ws' := [(h0, .inr (12, [.int m_status, .int m_thrown, .long m_above, .long m_under, .ref a_traySort, .ref a_trayMany, .ref a_numbers, .ref a_tape, .int m_taped, .int m_textEnd, .int m_faultKind, .int m_faultAt, .int m_bad, .int m_badAt, .int m_token, .int m_at, .int m_behind, .int m_number, .int m_letters, .long m_word, .ref a_c, .ref a_words, .int m_markMany, .ref a_there, .ref a_tried, .ref a_best, .ref a_found, .int n_7224, .int m_foundMany, .int m_orderHow, .int m_orderRing, .int m_orderMany, .int m_hasBest, .long m_bestTop, .long m_bestBy, .ref a_weights, .ref a_shared, .int m_random, .int m_truePlace, .int m_trueWay, .int m_seconds, .int m_done, .int m_feelings, .int m_tries, .int m_leftOver, .int m_playDoor, .int m_playRing, .int m_isOpen, .int m_isOver, .int m_wasTried, .int m_hasPlayed, .ref a_feltNow, .ref a_last, .ref a_kept, .int m_hasSeconds, .int m_hasTurned, .int m_hasRound, .ref a_hasFeels, .ref a_isOn, .int m_firstAct, .long v_5459, .long v_5460, .ref a_order, .int m_rowMany, .int m_newSteps])), (a_c, .inl (cA.1 0, 1825, .inl g_c)), (a_there, .inl (cA.1 0, 10, .inl n_7225)), (a_tried, .inl (cA.1 0, 10, .inl g_tried)), (a_order, .inl (cA.1 0, 10, .inl g_order))]) [2, 3, 4, 0, 1] (by decide) rfl
              exact ih_7017 x_8016 x_8017 n_7224 v_5459 v_5460 n_7225 H locs ls (by omega) (by omega) hr_n_7224 hr_v_5460 hC_n_7225 hP hD hS (lv_sub hl [2, 3, 4, 1, 0] rfl)
            · skip
              refine lv_if_ne (tgt := 101) hx hb dX12_judgeRow_61 (by decide) (fun _ => ?_) (fun h9 => absurd h9 (by decide +kernel))
              refine lv_aload_n hx hb dX12_judgeRow_101 rfl (lv_at hl 1 rfl) ?_
              refine lv_ldc2 (v := 16) hx hb hown (hts _ tw_2470) dX12_judgeRow_102 ?_
              refine lv_aload_n hx hb dX12_judgeRow_105 rfl (lv_at hl 1 rfl) ?_
              refine va_get (D := G) (ci := 12) (v := .int n_7224) (C := RX12) (T := TX12) (N := 65) hx hb hts inT12 hown hK hP 2 rfl rfl 27 (by decide) (hts _ tw_1912) (fun _ h9 => h9) rfl dX12_judgeRow_106 ?_
              refine lv_i2l (v := (n_7224).toInt64) hx hb dX12_judgeRow_109 rfl ?_
              refine lv_topl (fun x_8018 he_x_8018 => ?_)
              have hq_x_8018 := z_i2l he_x_8018
              refine lv_lmul hx hb dX12_judgeRow_110 ?_
              refine lv_topl (fun x_8019 he_x_8019 => ?_)
              have hq_x_8019 := z_mulql he_x_8019 hkl_16 (rfl : x_8018.toInt = _) (by omega) (by omega)
              refine va_put (D := G) (ci := 12) (v := .long x_8019) (ty := .long) (C := RX12) (T := TX12) (N := 65) hx hb hts inT12 tyX12 tyX12_ok nmX12 hown hK hP hD hS 2 rfl rfl 61 (by decide) (hts _ tw_1944) (fun _ h9 => h9) rfl (tyX12_ok 61 (by decide)) rfl rfl (Nat.le_of_ble_eq_true rfl) dX12_judgeRow_111 (fun H locs hP hD hS => ?_)
              refine lv_aload_n hx hb dX12_judgeRow_114 rfl (lv_at hl 1 rfl) ?_
              refine lv_lload_n hx hb dX12_judgeRow_115 rfl (lv_at hl 0 rfl) ?_
              refine lv_aload_n hx hb dX12_judgeRow_116 rfl (lv_at hl 1 rfl) ?_
              refine va_get (D := G) (ci := 12) (v := .long x_8019) (C := RX12) (T := TX12) (N := 65) hx hb hts inT12 hown hK hP 2 rfl rfl 61 (by decide) (hts _ tw_1944) (fun _ h9 => h9) rfl dX12_judgeRow_117 ?_
              refine lv_lmul hx hb dX12_judgeRow_120 ?_
              have hL_x_8003 := z_fulll x_8003
              refine lv_topl (fun x_8020 he_x_8020 => ?_)
              refine va_put (D := G) (ci := 12) (v := .long x_8020) (ty := .long) (C := RX12) (T := TX12) (N := 65) hx hb hts inT12 tyX12 tyX12_ok nmX12 hown hK hP hD hS 2 rfl rfl 60 (by decide) (hts _ tw_1943) (fun _ h9 => h9) rfl (tyX12_ok 60 (by decide)) rfl rfl (Nat.le_of_ble_eq_true rfl) dX12_judgeRow_121 (fun H locs hP hD hS => ?_)
              refine lv_iconst (v := 0) hx hb dX12_judgeRow_124 (by decide) ?_
              refine lv_istore (lv' := [(6, .int 0), (3, .long x_8003), (0, .ref h0), (1, .int nn), (2, .int d), (5, .int v_5457)]) hx hb dX12_judgeRow_125 hl (by decide) rfl (fun ls hl => ?_)
              have hlp_8735 : ∀ (n : Nat) (v_8700 : Int32) (v_8701 : Int64) (H : Heap) (locs : List Loc) (ls : Array Slot), (2147483647 - v_8700.toInt).toNat < n → (0 ≤ v_8700.toInt ∧ v_8700.toInt ≤ 20) → va_P G vwCl [(a_tried, .inl (cA.1 0, 10, .inl g_tried)), (a_order, .inl (cA.1 0, 10, .inl g_order)), (h0, .inr (12, [.int m_status, .int m_thrown, .long m_above, .long m_under, .ref a_traySort, .ref a_trayMany, .ref a_numbers, .ref a_tape, .int m_taped, .int m_textEnd, .int m_faultKind, .int m_faultAt, .int m_bad, .int m_badAt, .int m_token, .int m_at, .int m_behind, .int m_number, .int m_letters, .long m_word, .ref a_c, .ref a_words, .int m_markMany, .ref a_there, .ref a_tried, .ref a_best, .ref a_found, .int n_7224, .int m_foundMany, .int m_orderHow, .int m_orderRing, .int m_orderMany, .int m_hasBest, .long m_bestTop, .long m_bestBy, .ref a_weights, .ref a_shared, .int m_random, .int m_truePlace, .int m_trueWay, .int m_seconds, .int m_done, .int m_feelings, .int m_tries, .int m_leftOver, .int m_playDoor, .int m_playRing, .int m_isOpen, .int m_isOver, .int m_wasTried, .int m_hasPlayed, .ref a_feltNow, .ref a_last, .ref a_kept, .int m_hasSeconds, .int m_hasTurned, .int m_hasRound, .ref a_hasFeels, .ref a_isOn, .int m_firstAct, .long v_8701, .long x_8019, .ref a_order, .int m_rowMany, .int m_newSteps])), (a_c, .inl (cA.1 0, 1825, .inl g_c)), (a_there, .inl (cA.1 0, 10, .inl n_7225))] H → va_D A [(a_tried, .inl (cA.1 0, 10, .inl g_tried)), (a_order, .inl (cA.1 0, 10, .inl g_order)), (h0, .inr (12, [.int m_status, .int m_thrown, .long m_above, .long m_under, .ref a_traySort, .ref a_trayMany, .ref a_numbers, .ref a_tape, .int m_taped, .int m_textEnd, .int m_faultKind, .int m_faultAt, .int m_bad, .int m_badAt, .int m_token, .int m_at, .int m_behind, .int m_number, .int m_letters, .long m_word, .ref a_c, .ref a_words, .int m_markMany, .ref a_there, .ref a_tried, .ref a_best, .ref a_found, .int n_7224, .int m_foundMany, .int m_orderHow, .int m_orderRing, .int m_orderMany, .int m_hasBest, .long m_bestTop, .long m_bestBy, .ref a_weights, .ref a_shared, .int m_random, .int m_truePlace, .int m_trueWay, .int m_seconds, .int m_done, .int m_feelings, .int m_tries, .int m_leftOver, .int m_playDoor, .int m_playRing, .int m_isOpen, .int m_isOver, .int m_wasTried, .int m_hasPlayed, .ref a_feltNow, .ref a_last, .ref a_kept, .int m_hasSeconds, .int m_hasTurned, .int m_hasRound, .ref a_hasFeels, .ref a_isOn, .int m_firstAct, .long v_8701, .long x_8019, .ref a_order, .int m_rowMany, .int m_newSteps])), (a_c, .inl (cA.1 0, 1825, .inl g_c)), (a_there, .inl (cA.1 0, 10, .inl n_7225))] → va_S A s.heap H locs → lv_has ls 7 [(0, .ref h0), (1, .int nn), (2, .int d), (3, .long x_8003), (5, .int v_5457), (6, .int v_8700)] → W p l e ({ frames := 2, cells := 0, slots := 0, locals := 48 }) s m args below meth c H locs 0 0 Q (F0 m 127 ls []) := by
                intro n
                induction n with
                | zero =>
                  intro v_8700 v_8701 H locs ls hmu_hlp_8735 hr_v_8700 hP hD hS hl
                  exact absurd hmu_hlp_8735 (Nat.not_lt_zero _)
                | succ n ih_8736 =>
                  intro v_8700 v_8701 H locs ls hmu_hlp_8735 hr_v_8700 hP hD hS hl
                  refine lv_iload hx hb dX12_judgeRow_127 (lv_at hl 5 rfl) ?_
                  refine lv_iconst (v := 2) hx hb dX12_judgeRow_129 (by decide) ?_
                  refine lv_aload_n hx hb dX12_judgeRow_130 rfl (lv_at hl 0 rfl) ?_
                  refine va_get (D := G) (ci := 12) (v := .int n_7224) (C := RX12) (T := TX12) (N := 65) hx hb hts inT12 hown hK hP 2 rfl rfl 27 (by decide) (hts _ tw_1912) (fun _ h9 => h9) rfl dX12_judgeRow_131 ?_
                  refine lv_imul hx hb dX12_judgeRow_134 ?_
                  refine lv_topi (fun x_8737 he_x_8737 => ?_)
                  have hq_x_8737 := z_mulq he_x_8737 hk_2 (rfl : n_7224.toInt = _) (by omega) (by omega)
                  refine lv_icmp_ge (tgt := 196) hx hb dX12_judgeRow_135 (by decide) (fun c_8738 => ?_) (fun c_8738 => ?_)
                  · have b_8739 := z_fgeT c_8738
                    obtain ⟨x_8740, he_x_8740⟩ : ∃ z : Int32, z = v_5457 + 1 := ⟨_, rfl⟩
                    have hq_x_8740 := z_addq he_x_8740 (rfl : v_5457.toInt = _) hk_1 (by omega) (by omega)
                    refine lv_iinc (v := x_8740) (lv' := [(5, .int x_8740), (0, .ref h0), (1, .int nn), (2, .int d), (3, .long x_8003), (6, .int v_8700)]) hx hb dX12_judgeRow_196 hl (k := 4) rfl ((z_ofi (by decide +kernel)).trans he_x_8740.symm) (by decide) rfl (fun ls hl => ?_)
                    refine lv_goto (tgt := 10) hx hb dX12_judgeRow_199 (by decide) ?_
                    have hP := hP.sub (ws' := [(h0, .inr (12, [.int m_status, .int m_thrown, .long m_above, .long m_under, .ref a_traySort, .ref a_trayMany, .ref a_numbers, .ref a_tape, .int m_taped, .int m_textEnd, .int m_faultKind, .int m_faultAt, .int m_bad, .int m_badAt, .int m_token, .int m_at, .int m_behind, .int m_number, .int m_letters, .long m_word, .ref a_c, .ref a_words, .int m_markMany, .ref a_there, .ref a_tried, .ref a_best, .ref a_found, .int n_7224, .int m_foundMany, .int m_orderHow, .int m_orderRing, .int m_orderMany, .int m_hasBest, .long m_bestTop, .long m_bestBy, .ref a_weights, .ref a_shared, .int m_random, .int m_truePlace, .int m_trueWay, .int m_seconds, .int m_done, .int m_feelings, .int m_tries, .int m_leftOver, .int m_playDoor, .int m_playRing, .int m_isOpen, .int m_isOver, .int m_wasTried, .int m_hasPlayed, .ref a_feltNow, .ref a_last, .ref a_kept, .int m_hasSeconds, .int m_hasTurned, .int m_hasRound, .ref a_hasFeels, .ref a_isOn, .int m_firstAct, .long v_8701, .long x_8019, .ref a_order, .int m_rowMany, .int m_newSteps])), (a_c, .inl (cA.1 0, 1825, .inl g_c)), (a_there, .inl (cA.1 0, 10, .inl n_7225)), (a_tried, .inl (cA.1 0, 10, .inl g_tried)), (a_order, .inl (cA.1 0, 10, .inl g_order))]) [2, 3, 4, 0, 1] rfl
                    have hD := hD.sub (ws' := [(h0, .inr (12, [.int m_status, .int m_thrown, .long m_above, .long m_under, .ref a_traySort, .ref a_trayMany, .ref a_numbers, .ref a_tape, .int m_taped, .int m_textEnd, .int m_faultKind, .int m_faultAt, .int m_bad, .int m_badAt, .int m_token, .int m_at, .int m_behind, .int m_number, .int m_letters, .long m_word, .ref a_c, .ref a_words, .int m_markMany, .ref a_there, .ref a_tried, .ref a_best, .ref a_found, .int n_7224, .int m_foundMany, .int m_orderHow, .int m_orderRing, .int m_orderMany, .int m_hasBest, .long m_bestTop, .long m_bestBy, .ref a_weights, .ref a_shared, .int m_random, .int m_truePlace, .int m_trueWay, .int m_seconds, .int m_done, .int m_feelings, .int m_tries, .int m_leftOver, .int m_playDoor, .int m_playRing, .int m_isOpen, .int m_isOver, .int m_wasTried, .int m_hasPlayed, .ref a_feltNow, .ref a_last, .ref a_kept, .int m_hasSeconds, .int m_hasTurned, .int m_hasRound, .ref a_hasFeels, .ref a_isOn, .int m_firstAct, .long v_8701, .long x_8019, .ref a_order, .int m_rowMany, .int m_newSteps])), (a_c, .inl (cA.1 0, 1825, .inl g_c)), (a_there, .inl (cA.1 0, 10, .inl n_7225)), (a_tried, .inl (cA.1 0, 10, .inl g_tried)), (a_order, .inl (cA.1 0, 10, .inl g_order))]) [2, 3, 4, 0, 1] (by decide) rfl
                    exact ih_7017 x_8003 x_8740 n_7224 v_8701 x_8019 n_7225 H locs ls (by omega) (by omega) hr_n_7224 (by omega) hC_n_7225 hP hD hS (lv_sub hl [1, 2, 3, 4, 0] rfl)
                  · have b_8741 := z_fltF c_8738
                    refine lv_aload_n hx hb dX12_judgeRow_138 rfl (lv_at hl 0 rfl) ?_
                    refine lv_dup hx hb dX12_judgeRow_139 rfl ?_
                    refine va_get (D := G) (ci := 12) (v := .long v_8701) (C := RX12) (T := TX12) (N := 65) hx hb hts inT12 hown hK hP 2 rfl rfl 60 (by decide) (hts _ tw_1943) (fun _ h9 => h9) rfl dX12_judgeRow_140 ?_
                    refine lv_iload hx hb dX12_judgeRow_143 (lv_at hl 5 rfl) ?_
                    refine lv_iconst (v := 2) hx hb dX12_judgeRow_145 (by decide) ?_
                    refine lv_irem hx hb dX12_judgeRow_146 (by decide +kernel) ?_
                    refine lv_topi (fun x_8742 he_x_8742 => ?_)
                    have hq_x_8742 := z_remq he_x_8742 (rfl : v_8700.toInt = _) hk_2 (by omega) (by decide)
                    refine lv_if_ne (tgt := 163) hx hb dX12_judgeRow_147 (by decide) (fun c_8743 => ?_) (fun c_8743 => ?_)
                    · have b_8744 := z_fneT c_8743
                      refine lv_aload_n hx hb dX12_judgeRow_163 rfl (lv_at hl 0 rfl) ?_
                      refine va_get (D := G) (ci := 12) (v := .ref a_c) (C := RX12) (T := TX12) (N := 65) hx hb hts inT12 hown hK hP 2 rfl rfl 20 (by decide) (hts _ tw_1905) (fun _ h9 => h9) rfl dX12_judgeRow_164 ?_
                      refine lv_bipush (v := 9) hx hb dX12_judgeRow_167 (by decide) ?_
                      refine va_iald hx hb hK hP 3 0 rfl rfl (z_in (i := 9) (n := 1825) (by decide +kernel) (by decide +kernel)) dX12_judgeRow_169 ?_
                      refine lv_topi (fun x_8745 he_x_8745 => ?_)
                      refine lv_i2l (v := (x_8745).toInt64) hx hb dX12_judgeRow_170 rfl ?_
                      refine lv_topl (fun x_8746 he_x_8746 => ?_)
                      have hq_x_8746 := z_i2l he_x_8746
                      have hL_x_8745 := z_full x_8745
                      refine lv_aload_n hx hb dX12_judgeRow_171 rfl (lv_at hl 0 rfl) ?_
                      refine lv_iload_n hx hb dX12_judgeRow_172 rfl (lv_at hl 2 rfl) ?_
                      refine lv_iload hx hb dX12_judgeRow_173 (lv_at hl 5 rfl) ?_
                      refine lv_iconst (v := 2) hx hb dX12_judgeRow_175 (by decide) ?_
                      refine lv_idiv hx hb dX12_judgeRow_176 (by decide +kernel) ?_
                      refine lv_topi (fun x_8747 he_x_8747 => ?_)
                      have hq_x_8747 := z_divq he_x_8747 (rfl : v_8700.toInt = _) hk_2 (by omega) (by decide)
                      refine lv_iload hx hb dX12_judgeRow_177 (lv_at hl 5 rfl) ?_
                      refine lv_iconst (v := 2) hx hb dX12_judgeRow_179 (by decide) ?_
                      refine lv_irem hx hb dX12_judgeRow_180 (by decide +kernel) ?_
                      refine lv_topi (fun x_8748 he_x_8748 => ?_)
                      have hq_x_8748 := z_remq he_x_8748 (rfl : v_8700.toInt = _) hk_2 (by omega) (by decide)
                      refine z_callVi (As := [.int d, .int x_8747, .int x_8748]) (rest := [.long x_8746, .long v_8701, .ref h0]) (wr := [(a_tried, .inl (cA.1 0, 10, .inl g_tried)), (a_order, .inl (cA.1 0, 10, .inl g_order))]) ⟨hx, hb, hml, hown, hts⟩ hK hE hT hP hD hS hA (r_search l G cA h0 m_status m_thrown m_above m_under a_traySort a_trayMany a_numbers a_tape m_taped m_textEnd m_faultKind m_faultAt m_bad m_badAt m_token m_at m_behind m_number m_letters m_word a_c a_words m_markMany a_there a_tried a_best a_found n_7224 m_foundMany m_orderHow m_orderRing m_orderMany m_hasBest m_bestTop m_bestBy a_weights a_shared m_random m_truePlace m_trueWay m_seconds m_done m_feelings m_tries m_leftOver m_playDoor m_playRing m_isOpen m_isOver m_wasTried m_hasPlayed a_feltNow a_last a_kept m_hasSeconds m_hasTurned m_hasRound a_hasFeels a_isOn m_firstAct v_8701 x_8019 a_order m_rowMany m_newSteps g_c n_7225 d x_8747 x_8748 hr_d (by omega) (by omega) hr_n_7224 hC_g_c hC_n_7225 (by omega)) lk_RX12_387 ⟨rfl, rfl⟩ ⟨Nat.le_of_ble_eq_true rfl, Nat.le_of_ble_eq_true rfl⟩ 12 rfl rfl rfl [2, 3, 4] [0, 1] rfl rfl (by decide) rfl hl.1 rfl (lv_room (Nat.le_of_ble_eq_true rfl)) dX12_judgeRow_181 ⟨Nat.le_of_ble_eq_true rfl, Nat.le_of_ble_eq_true rfl⟩ (fun r_8749 u_8750 H locs hw hP hD hS => ?_)
                      obtain ⟨hr_r_8749, hf_8751, hf_8752⟩ := hw
                      refine lv_i2l (v := (r_8749).toInt64) hx hb dX12_judgeRow_184 rfl ?_
                      refine lv_topl (fun x_8753 he_x_8753 => ?_)
                      have hq_x_8753 := z_i2l he_x_8753
                      refine lv_lmul hx hb dX12_judgeRow_185 ?_
                      refine lv_topl (fun x_8754 he_x_8754 => ?_)
                      refine lv_ladd hx hb dX12_judgeRow_186 ?_
                      have hL_v_8701 := z_fulll v_8701
                      have hL_x_8754 := z_fulll x_8754
                      refine lv_topl (fun x_8755 he_x_8755 => ?_)
                      refine va_put (D := G) (ci := 12) (v := .long x_8755) (ty := .long) (C := RX12) (T := TX12) (N := 65) hx hb hts inT12 tyX12 tyX12_ok nmX12 hown hK hP hD hS 2 rfl rfl 60 (by decide) (hts _ tw_1943) (fun _ h9 => h9) rfl (tyX12_ok 60 (by decide)) rfl rfl (Nat.le_of_ble_eq_true rfl) dX12_judgeRow_187 (fun H locs hP hD hS => ?_)
                      obtain ⟨x_8756, he_x_8756⟩ : ∃ z : Int32, z = v_8700 + 1 := ⟨_, rfl⟩
                      have hq_x_8756 := z_addq he_x_8756 (rfl : v_8700.toInt = _) hk_1 (by omega) (by omega)
                      refine lv_iinc (v := x_8756) (lv' := [(6, .int x_8756), (0, .ref h0), (1, .int nn), (2, .int d), (3, .long x_8003), (5, .int v_5457)]) hx hb dX12_judgeRow_190 hl (k := 5) rfl ((z_ofi (by decide +kernel)).trans he_x_8756.symm) (by decide) rfl (fun ls hl => ?_)
                      refine lv_goto (tgt := 127) hx hb dX12_judgeRow_193 (by decide) ?_
                      exact ih_8736 x_8756 x_8755 H locs ls (by omega) (by omega) hP hD hS (lv_sub hl [1, 2, 3, 4, 5, 0] rfl)
                    · have b_8757 := z_feqF c_8743
                      refine lv_bipush (v := 16) hx hb dX12_judgeRow_150 (by decide) ?_
                      refine lv_aload_n hx hb dX12_judgeRow_152 rfl (lv_at hl 0 rfl) ?_
                      refine va_get (D := G) (ci := 12) (v := .ref a_c) (C := RX12) (T := TX12) (N := 65) hx hb hts inT12 hown hK hP 2 rfl rfl 20 (by decide) (hts _ tw_1905) (fun _ h9 => h9) rfl dX12_judgeRow_153 ?_
                      refine lv_bipush (v := 9) hx hb dX12_judgeRow_156 (by decide) ?_
                      refine va_iald hx hb hK hP 3 0 rfl rfl (z_in (i := 9) (n := 1825) (by decide +kernel) (by decide +kernel)) dX12_judgeRow_158 ?_
                      refine lv_topi (fun x_8758 he_x_8758 => ?_)
                      refine lv_isub hx hb dX12_judgeRow_159 ?_
                      have hL_x_8758 := z_full x_8758
                      refine lv_topi (fun x_8759 he_x_8759 => ?_)
                      refine lv_goto (tgt := 170) hx hb dX12_judgeRow_160 (by decide) ?_
                      refine lv_i2l (v := (x_8759).toInt64) hx hb dX12_judgeRow_170 rfl ?_
                      refine lv_topl (fun x_8760 he_x_8760 => ?_)
                      have hq_x_8760 := z_i2l he_x_8760
                      have hL_x_8759 := z_full x_8759
                      refine lv_aload_n hx hb dX12_judgeRow_171 rfl (lv_at hl 0 rfl) ?_
                      refine lv_iload_n hx hb dX12_judgeRow_172 rfl (lv_at hl 2 rfl) ?_
                      refine lv_iload hx hb dX12_judgeRow_173 (lv_at hl 5 rfl) ?_
                      refine lv_iconst (v := 2) hx hb dX12_judgeRow_175 (by decide) ?_
                      refine lv_idiv hx hb dX12_judgeRow_176 (by decide +kernel) ?_
                      refine lv_topi (fun x_8761 he_x_8761 => ?_)
                      have hq_x_8761 := z_divq he_x_8761 (rfl : v_8700.toInt = _) hk_2 (by omega) (by decide)
                      refine lv_iload hx hb dX12_judgeRow_177 (lv_at hl 5 rfl) ?_
                      refine lv_iconst (v := 2) hx hb dX12_judgeRow_179 (by decide) ?_
                      refine lv_irem hx hb dX12_judgeRow_180 (by decide +kernel) ?_
                      refine lv_topi (fun x_8762 he_x_8762 => ?_)
                      have hq_x_8762 := z_remq he_x_8762 (rfl : v_8700.toInt = _) hk_2 (by omega) (by decide)
                      refine z_callVi (As := [.int d, .int x_8761, .int x_8762]) (rest := [.long x_8760, .long v_8701, .ref h0]) (wr := [(a_tried, .inl (cA.1 0, 10, .inl g_tried)), (a_order, .inl (cA.1 0, 10, .inl g_order))]) ⟨hx, hb, hml, hown, hts⟩ hK hE hT hP hD hS hA (r_search l G cA h0 m_status m_thrown m_above m_under a_traySort a_trayMany a_numbers a_tape m_taped m_textEnd m_faultKind m_faultAt m_bad m_badAt m_token m_at m_behind m_number m_letters m_word a_c a_words m_markMany a_there a_tried a_best a_found n_7224 m_foundMany m_orderHow m_orderRing m_orderMany m_hasBest m_bestTop m_bestBy a_weights a_shared m_random m_truePlace m_trueWay m_seconds m_done m_feelings m_tries m_leftOver m_playDoor m_playRing m_isOpen m_isOver m_wasTried m_hasPlayed a_feltNow a_last a_kept m_hasSeconds m_hasTurned m_hasRound a_hasFeels a_isOn m_firstAct v_8701 x_8019 a_order m_rowMany m_newSteps g_c n_7225 d x_8761 x_8762 hr_d (by omega) (by omega) hr_n_7224 hC_g_c hC_n_7225 (by omega)) lk_RX12_387 ⟨rfl, rfl⟩ ⟨Nat.le_of_ble_eq_true rfl, Nat.le_of_ble_eq_true rfl⟩ 12 rfl rfl rfl [2, 3, 4] [0, 1] rfl rfl (by decide) rfl hl.1 rfl (lv_room (Nat.le_of_ble_eq_true rfl)) dX12_judgeRow_181 ⟨Nat.le_of_ble_eq_true rfl, Nat.le_of_ble_eq_true rfl⟩ (fun r_8763 u_8764 H locs hw hP hD hS => ?_)
                      obtain ⟨hr_r_8763, hf_8765, hf_8766⟩ := hw
                      refine lv_i2l (v := (r_8763).toInt64) hx hb dX12_judgeRow_184 rfl ?_
                      refine lv_topl (fun x_8767 he_x_8767 => ?_)
                      have hq_x_8767 := z_i2l he_x_8767
                      refine lv_lmul hx hb dX12_judgeRow_185 ?_
                      refine lv_topl (fun x_8768 he_x_8768 => ?_)
                      refine lv_ladd hx hb dX12_judgeRow_186 ?_
                      have hL_v_8701 := z_fulll v_8701
                      have hL_x_8768 := z_fulll x_8768
                      refine lv_topl (fun x_8769 he_x_8769 => ?_)
                      refine va_put (D := G) (ci := 12) (v := .long x_8769) (ty := .long) (C := RX12) (T := TX12) (N := 65) hx hb hts inT12 tyX12 tyX12_ok nmX12 hown hK hP hD hS 2 rfl rfl 60 (by decide) (hts _ tw_1943) (fun _ h9 => h9) rfl (tyX12_ok 60 (by decide)) rfl rfl (Nat.le_of_ble_eq_true rfl) dX12_judgeRow_187 (fun H locs hP hD hS => ?_)
                      obtain ⟨x_8770, he_x_8770⟩ : ∃ z : Int32, z = v_8700 + 1 := ⟨_, rfl⟩
                      have hq_x_8770 := z_addq he_x_8770 (rfl : v_8700.toInt = _) hk_1 (by omega) (by omega)
                      refine lv_iinc (v := x_8770) (lv' := [(6, .int x_8770), (0, .ref h0), (1, .int nn), (2, .int d), (3, .long x_8003), (5, .int v_5457)]) hx hb dX12_judgeRow_190 hl (k := 5) rfl ((z_ofi (by decide +kernel)).trans he_x_8770.symm) (by decide) rfl (fun ls hl => ?_)
                      refine lv_goto (tgt := 127) hx hb dX12_judgeRow_193 (by decide) ?_
                      exact ih_8736 x_8770 x_8769 H locs ls (by omega) (by omega) hP hD hS (lv_sub hl [1, 2, 3, 4, 5, 0] rfl)
              exact hlp_8735 _ 0 x_8020 _ _ _ (Nat.lt_succ_self _) (by decide +kernel) hP hD hS (lv_sub hl [2, 3, 4, 1, 5, 0] rfl)
  exact hlp_7016 _ 0 0 m_thereMany m_meanTop 0 g_there _ _ _ (Nat.lt_succ_self _) (by decide +kernel) hr_m_thereMany (by decide +kernel) hC_g_there hP hD hS (lv_sub hl [2, 3, 4, 1, 0] rfl)
set_option maxHeartbeats 4000000 in
set_option maxRecDepth 100000 in
theorem r_rowFrom_0 (l : Launch) (G : va_G) (cA : zCA) (h0 : Nat) (m_status : Int32) (m_thrown : Int32) (m_above : Int64) (m_under : Int64) (a_traySort : Nat) (a_trayMany : Nat) (a_numbers : Nat) (a_tape : Nat) (m_taped : Int32) (m_textEnd : Int32) (m_faultKind : Int32) (m_faultAt : Int32) (m_bad : Int32) (m_badAt : Int32) (m_token : Int32) (m_at : Int32) (m_behind : Int32) (m_number : Int32) (m_letters : Int32) (m_word : Int64) (a_c : Nat) (a_words : Nat) (m_markMany : Int32) (a_there : Nat) (a_tried : Nat) (a_best : Nat) (a_found : Nat) (m_thereMany : Int32) (m_foundMany : Int32) (m_orderHow : Int32) (m_orderRing : Int32) (m_orderMany : Int32) (m_hasBest : Int32) (m_bestTop : Int64) (m_bestBy : Int64) (a_weights : Nat) (a_shared : Nat) (m_random : Int32) (m_truePlace : Int32) (m_trueWay : Int32) (m_seconds : Int32) (m_done : Int32) (m_feelings : Int32) (m_tries : Int32) (m_leftOver : Int32) (m_playDoor : Int32) (m_playRing : Int32) (m_isOpen : Int32) (m_isOver : Int32) (m_wasTried : Int32) (m_hasPlayed : Int32) (a_feltNow : Nat) (a_last : Nat) (a_kept : Nat) (m_hasSeconds : Int32) (m_hasTurned : Int32) (m_hasRound : Int32) (a_hasFeels : Nat) (a_isOn : Nat) (m_firstAct : Int32) (m_meanTop : Int64) (m_meanBy : Int64) (a_order : Nat) (m_rowMany : Int32) (m_newSteps : Int32) (g_c : Nat → Int32) (g_there : Nat → Int32) (g_tried : Nat → Int32) (g_order : Nat → Int32) (nn : Int32) (d : Int32) (hr_nn : 0 ≤ nn.toInt ∧ nn.toInt ≤ 3) (hr_d : 0 ≤ d.toInt ∧ d.toInt ≤ 4) (hr_m_thereMany : 0 ≤ m_thereMany.toInt ∧ m_thereMany.toInt ≤ 10) (hr_m_rowMany : 0 ≤ m_rowMany.toInt ∧ m_rowMany.toInt ≤ 3) (hr_m_hasBest : 0 ≤ m_hasBest.toInt ∧ m_hasBest.toInt ≤ 1) (hz_m_hasBest : m_hasBest = 0 ∨ m_hasBest = 1) (hC_g_c : zC g_c) (hC_g_there : zRg 10 0 9 g_there) (hC_g_tried : zRg 10 0 9 g_tried) (hC_g_order : zRg 10 0 9 g_order) (hT3_0 : zT3 g_tried nn.toInt) (hp_0 : m_rowMany.toInt - nn.toInt = 0) (hp_1 : m_hasBest.toInt ≤ 0 ∨ 1 ≤ m_bestBy.toInt) : zCv l yX12_rowFrom cX12_rowFrom 4 none ({ frames := 3, cells := 0, slots := 0, locals := 74 }) G cA [.ref h0, .int nn, .int d] [(h0, .inr (12, [.int m_status, .int m_thrown, .long m_above, .long m_under, .ref a_traySort, .ref a_trayMany, .ref a_numbers, .ref a_tape, .int m_taped, .int m_textEnd, .int m_faultKind, .int m_faultAt, .int m_bad, .int m_badAt, .int m_token, .int m_at, .int m_behind, .int m_number, .int m_letters, .long m_word, .ref a_c, .ref a_words, .int m_markMany, .ref a_there, .ref a_tried, .ref a_best, .ref a_found, .int m_thereMany, .int m_foundMany, .int m_orderHow, .int m_orderRing, .int m_orderMany, .int m_hasBest, .long m_bestTop, .long m_bestBy, .ref a_weights, .ref a_shared, .int m_random, .int m_truePlace, .int m_trueWay, .int m_seconds, .int m_done, .int m_feelings, .int m_tries, .int m_leftOver, .int m_playDoor, .int m_playRing, .int m_isOpen, .int m_isOver, .int m_wasTried, .int m_hasPlayed, .ref a_feltNow, .ref a_last, .ref a_kept, .int m_hasSeconds, .int m_hasTurned, .int m_hasRound, .ref a_hasFeels, .ref a_isOn, .int m_firstAct, .long m_meanTop, .long m_meanBy, .ref a_order, .int m_rowMany, .int m_newSteps])), (a_c, .inl (cA.1 0, 1825, .inl g_c)), (a_there, .inl (cA.1 0, 10, .inl g_there)), (a_tried, .inl (cA.1 0, 10, .inl g_tried)), (a_order, .inl (cA.1 0, 10, .inl g_order))] (S := Int32 × Int32 × Int64 × Int64 × Int64 × Int64 × (Nat → Int32) × (Nat → Int32)) (fun (u : Int32 × Int32 × Int64 × Int64 × Int64 × Int64 × (Nat → Int32) × (Nat → Int32)) => (0 ≤ u.1.toInt ∧ u.1.toInt ≤ 10) ∧ (u.2.1 = 0 ∨ u.2.1 = 1) ∧ (0 ≤ u.2.1.toInt ∧ u.2.1.toInt ≤ 1) ∧ (0 ≤ u.2.2.2.2.2.1.toInt ∧ u.2.2.2.2.2.1.toInt ≤ 160) ∧ (zRg 10 0 9 u.2.2.2.2.2.2.1) ∧ (zRg 10 0 9 u.2.2.2.2.2.2.2) ∧ (zT3 g_tried nn.toInt) ∧ (u.2.1.toInt ≤ 0 ∨ 1 ≤ u.2.2.2.1.toInt)) (fun (u : Int32 × Int32 × Int64 × Int64 × Int64 × Int64 × (Nat → Int32) × (Nat → Int32)) => [(h0, .inr (12, [.int m_status, .int m_thrown, .long m_above, .long m_under, .ref a_traySort, .ref a_trayMany, .ref a_numbers, .ref a_tape, .int m_taped, .int m_textEnd, .int m_faultKind, .int m_faultAt, .int m_bad, .int m_badAt, .int m_token, .int m_at, .int m_behind, .int m_number, .int m_letters, .long m_word, .ref a_c, .ref a_words, .int m_markMany, .ref a_there, .ref a_tried, .ref a_best, .ref a_found, .int u.1, .int m_foundMany, .int m_orderHow, .int m_orderRing, .int m_orderMany, .int u.2.1, .long u.2.2.1, .long u.2.2.2.1, .ref a_weights, .ref a_shared, .int m_random, .int m_truePlace, .int m_trueWay, .int m_seconds, .int m_done, .int m_feelings, .int m_tries, .int m_leftOver, .int m_playDoor, .int m_playRing, .int m_isOpen, .int m_isOver, .int m_wasTried, .int m_hasPlayed, .ref a_feltNow, .ref a_last, .ref a_kept, .int m_hasSeconds, .int m_hasTurned, .int m_hasRound, .ref a_hasFeels, .ref a_isOn, .int m_firstAct, .long u.2.2.2.2.1, .long u.2.2.2.2.2.1, .ref a_order, .int m_rowMany, .int m_newSteps])), (a_c, .inl (cA.1 0, 1825, .inl g_c)), (a_there, .inl (cA.1 0, 10, .inl u.2.2.2.2.2.2.1)), (a_tried, .inl (cA.1 0, 10, .inl g_tried)), (a_order, .inl (cA.1 0, 10, .inl u.2.2.2.2.2.2.2))]) 0 0 := by
  refine z_start2v (own := RX12) (by decide) (Nat.le_of_ble_eq_true rfl) rfl ?_
  intro p e s m args below meth c A ls Q hx hb hml hts hown hK hE hT hP hD hS hA hl hret
  have hl : lv_has ls 4 [(0, .ref h0), (1, .int nn), (2, .int d)] := hl
  refine lv_iload_n hx hb dX12_rowFrom_0 rfl (lv_at hl 1 rfl) ?_
  refine lv_aload_n hx hb dX12_rowFrom_1 rfl (lv_at hl 0 rfl) ?_
  refine va_get (D := G) (ci := 12) (v := .int m_rowMany) (C := RX12) (T := TX12) (N := 65) hx hb hts inT12 hown hK hP 0 rfl rfl 63 (by decide) (hts _ tw_1946) (fun _ h9 => h9) rfl dX12_rowFrom_2 ?_
  refine lv_icmp_ne (tgt := 15) hx hb dX12_rowFrom_5 (by decide) (fun h9 => (z_no (by have h8 := z_fneT h9; omega))) (fun c_1 => ?_)
  have b_2 := z_feqF c_1
  refine lv_aload_n hx hb dX12_rowFrom_8 rfl (lv_at hl 0 rfl) ?_
  refine lv_iload_n hx hb dX12_rowFrom_9 rfl (lv_at hl 1 rfl) ?_
  refine lv_iload_n hx hb dX12_rowFrom_10 rfl (lv_at hl 2 rfl) ?_
  refine z_callVv (As := [.int nn, .int d]) (rest := []) (wr := []) ⟨hx, hb, hml, hown, hts⟩ hK hE hT hP hD hS hA (r_judgeRow l G cA h0 m_status m_thrown m_above m_under a_traySort a_trayMany a_numbers a_tape m_taped m_textEnd m_faultKind m_faultAt m_bad m_badAt m_token m_at m_behind m_number m_letters m_word a_c a_words m_markMany a_there a_tried a_best a_found m_thereMany m_foundMany m_orderHow m_orderRing m_orderMany m_hasBest m_bestTop m_bestBy a_weights a_shared m_random m_truePlace m_trueWay m_seconds m_done m_feelings m_tries m_leftOver m_playDoor m_playRing m_isOpen m_isOver m_wasTried m_hasPlayed a_feltNow a_last a_kept m_hasSeconds m_hasTurned m_hasRound a_hasFeels a_isOn m_firstAct m_meanTop m_meanBy a_order m_rowMany m_newSteps g_c g_there g_tried g_order nn d hr_nn hr_d hr_m_thereMany hr_m_hasBest hz_m_hasBest hC_g_c hC_g_there hC_g_tried hC_g_order hT3_0 (by omega)) lk_RX12_444 ⟨rfl, rfl⟩ ⟨Nat.le_of_ble_eq_true rfl, Nat.le_of_ble_eq_true rfl⟩ 12 rfl rfl rfl [0, 1, 2, 3, 4] [] rfl rfl (by decide) rfl hl.1 rfl (lv_room (Nat.le_of_ble_eq_true rfl)) dX12_rowFrom_11 ⟨Nat.le_of_ble_eq_true rfl, Nat.le_of_ble_eq_true rfl⟩ (fun u_12 H locs hw hP hD hS => ?_)
  obtain ⟨n_3, n_4, n_5, n_6, n_7, n_8, n_9, n_10⟩ := u_12
  try dsimp only at hw
  obtain ⟨hr_n_3, hr_n_5, hC_n_6, hz_n_7, hr_n_7, hC_n_10, hf_13, hf_14⟩ := hw
  have hpost : (0 ≤ n_3.toInt ∧ n_3.toInt ≤ 10) ∧ (n_7 = 0 ∨ n_7 = 1) ∧ (0 ≤ n_7.toInt ∧ n_7.toInt ≤ 1) ∧ (0 ≤ n_5.toInt ∧ n_5.toInt ≤ 160) ∧ (zRg 10 0 9 n_6) ∧ (zRg 10 0 9 n_10) ∧ (zT3 g_tried nn.toInt) ∧ (n_7.toInt ≤ 0 ∨ 1 ≤ n_9.toInt) := ⟨hr_n_3, hz_n_7, hr_n_7, hr_n_5, hC_n_6, hC_n_10, hT3_0, (by omega)⟩
  exact hret _ _ _ _ _ (n_3, n_7, n_8, n_9, n_4, n_5, n_6, n_10) [0, 1, 2, 3, 4] hP hD hS rfl (by decide) dX12_rowFrom_14 hpost
set_option maxHeartbeats 4000000 in
set_option maxRecDepth 100000 in
theorem r_rowFrom_1 (l : Launch) (G : va_G) (cA : zCA) (h0 : Nat) (m_status : Int32) (m_thrown : Int32) (m_above : Int64) (m_under : Int64) (a_traySort : Nat) (a_trayMany : Nat) (a_numbers : Nat) (a_tape : Nat) (m_taped : Int32) (m_textEnd : Int32) (m_faultKind : Int32) (m_faultAt : Int32) (m_bad : Int32) (m_badAt : Int32) (m_token : Int32) (m_at : Int32) (m_behind : Int32) (m_number : Int32) (m_letters : Int32) (m_word : Int64) (a_c : Nat) (a_words : Nat) (m_markMany : Int32) (a_there : Nat) (a_tried : Nat) (a_best : Nat) (a_found : Nat) (m_thereMany : Int32) (m_foundMany : Int32) (m_orderHow : Int32) (m_orderRing : Int32) (m_orderMany : Int32) (m_hasBest : Int32) (m_bestTop : Int64) (m_bestBy : Int64) (a_weights : Nat) (a_shared : Nat) (m_random : Int32) (m_truePlace : Int32) (m_trueWay : Int32) (m_seconds : Int32) (m_done : Int32) (m_feelings : Int32) (m_tries : Int32) (m_leftOver : Int32) (m_playDoor : Int32) (m_playRing : Int32) (m_isOpen : Int32) (m_isOver : Int32) (m_wasTried : Int32) (m_hasPlayed : Int32) (a_feltNow : Nat) (a_last : Nat) (a_kept : Nat) (m_hasSeconds : Int32) (m_hasTurned : Int32) (m_hasRound : Int32) (a_hasFeels : Nat) (a_isOn : Nat) (m_firstAct : Int32) (m_meanTop : Int64) (m_meanBy : Int64) (a_order : Nat) (m_rowMany : Int32) (m_newSteps : Int32) (g_c : Nat → Int32) (g_there : Nat → Int32) (g_tried : Nat → Int32) (g_order : Nat → Int32) (nn : Int32) (d : Int32) (hr_nn : 0 ≤ nn.toInt ∧ nn.toInt ≤ 2) (hr_d : 0 ≤ d.toInt ∧ d.toInt ≤ 4) (hr_m_thereMany : 0 ≤ m_thereMany.toInt ∧ m_thereMany.toInt ≤ 10) (hr_m_rowMany : 1 ≤ m_rowMany.toInt ∧ m_rowMany.toInt ≤ 3) (hr_m_hasBest : 0 ≤ m_hasBest.toInt ∧ m_hasBest.toInt ≤ 1) (hz_m_hasBest : m_hasBest = 0 ∨ m_hasBest = 1) (hC_g_c : zC g_c) (hC_g_there : zRg 10 0 9 g_there) (hC_g_tried : zRg 10 0 9 g_tried) (hC_g_order : zRg 10 0 9 g_order) (hT3_0 : zT3 g_tried nn.toInt) (hp_0 : m_rowMany.toInt - nn.toInt = 1) (hp_1 : m_hasBest.toInt ≤ 0 ∨ 1 ≤ m_bestBy.toInt) : zCv l yX12_rowFrom cX12_rowFrom 4 none ({ frames := 4, cells := 0, slots := 0, locals := 97 }) G cA [.ref h0, .int nn, .int d] [(h0, .inr (12, [.int m_status, .int m_thrown, .long m_above, .long m_under, .ref a_traySort, .ref a_trayMany, .ref a_numbers, .ref a_tape, .int m_taped, .int m_textEnd, .int m_faultKind, .int m_faultAt, .int m_bad, .int m_badAt, .int m_token, .int m_at, .int m_behind, .int m_number, .int m_letters, .long m_word, .ref a_c, .ref a_words, .int m_markMany, .ref a_there, .ref a_tried, .ref a_best, .ref a_found, .int m_thereMany, .int m_foundMany, .int m_orderHow, .int m_orderRing, .int m_orderMany, .int m_hasBest, .long m_bestTop, .long m_bestBy, .ref a_weights, .ref a_shared, .int m_random, .int m_truePlace, .int m_trueWay, .int m_seconds, .int m_done, .int m_feelings, .int m_tries, .int m_leftOver, .int m_playDoor, .int m_playRing, .int m_isOpen, .int m_isOver, .int m_wasTried, .int m_hasPlayed, .ref a_feltNow, .ref a_last, .ref a_kept, .int m_hasSeconds, .int m_hasTurned, .int m_hasRound, .ref a_hasFeels, .ref a_isOn, .int m_firstAct, .long m_meanTop, .long m_meanBy, .ref a_order, .int m_rowMany, .int m_newSteps])), (a_c, .inl (cA.1 0, 1825, .inl g_c)), (a_there, .inl (cA.1 0, 10, .inl g_there)), (a_tried, .inl (cA.1 0, 10, .inl g_tried)), (a_order, .inl (cA.1 0, 10, .inl g_order))] (S := Int32 × Int32 × Int64 × Int64 × Int64 × Int64 × (Nat → Int32) × (Nat → Int32) × (Nat → Int32)) (fun (u : Int32 × Int32 × Int64 × Int64 × Int64 × Int64 × (Nat → Int32) × (Nat → Int32) × (Nat → Int32)) => (0 ≤ u.1.toInt ∧ u.1.toInt ≤ 10) ∧ (u.2.1 = 0 ∨ u.2.1 = 1) ∧ (0 ≤ u.2.1.toInt ∧ u.2.1.toInt ≤ 1) ∧ (zRg 10 0 9 u.2.2.2.2.2.2.1) ∧ (zRg 10 0 9 u.2.2.2.2.2.2.2.1) ∧ (zRg 10 0 9 u.2.2.2.2.2.2.2.2) ∧ (zT3 u.2.2.2.2.2.2.2.1 nn.toInt) ∧ (u.2.1.toInt ≤ 0 ∨ 1 ≤ u.2.2.2.1.toInt)) (fun (u : Int32 × Int32 × Int64 × Int64 × Int64 × Int64 × (Nat → Int32) × (Nat → Int32) × (Nat → Int32)) => [(h0, .inr (12, [.int m_status, .int m_thrown, .long m_above, .long m_under, .ref a_traySort, .ref a_trayMany, .ref a_numbers, .ref a_tape, .int m_taped, .int m_textEnd, .int m_faultKind, .int m_faultAt, .int m_bad, .int m_badAt, .int m_token, .int m_at, .int m_behind, .int m_number, .int m_letters, .long m_word, .ref a_c, .ref a_words, .int m_markMany, .ref a_there, .ref a_tried, .ref a_best, .ref a_found, .int u.1, .int m_foundMany, .int m_orderHow, .int m_orderRing, .int m_orderMany, .int u.2.1, .long u.2.2.1, .long u.2.2.2.1, .ref a_weights, .ref a_shared, .int m_random, .int m_truePlace, .int m_trueWay, .int m_seconds, .int m_done, .int m_feelings, .int m_tries, .int m_leftOver, .int m_playDoor, .int m_playRing, .int m_isOpen, .int m_isOver, .int m_wasTried, .int m_hasPlayed, .ref a_feltNow, .ref a_last, .ref a_kept, .int m_hasSeconds, .int m_hasTurned, .int m_hasRound, .ref a_hasFeels, .ref a_isOn, .int m_firstAct, .long u.2.2.2.2.1, .long u.2.2.2.2.2.1, .ref a_order, .int m_rowMany, .int m_newSteps])), (a_c, .inl (cA.1 0, 1825, .inl g_c)), (a_there, .inl (cA.1 0, 10, .inl u.2.2.2.2.2.2.1)), (a_tried, .inl (cA.1 0, 10, .inl u.2.2.2.2.2.2.2.1)), (a_order, .inl (cA.1 0, 10, .inl u.2.2.2.2.2.2.2.2))]) 0 0 := by
  have hk_0 : (0 : Int32).toInt = 0 := by decide +kernel
  have hk_1 : (1 : Int32).toInt = 1 := by decide +kernel
  refine z_start2v (own := RX12) (by decide) (Nat.le_of_ble_eq_true rfl) rfl ?_
  intro p e s m args below meth c A ls Q hx hb hml hts hown hK hE hT hP hD hS hA hl hret
  have hl : lv_has ls 4 [(0, .ref h0), (1, .int nn), (2, .int d)] := hl
  refine lv_iload_n hx hb dX12_rowFrom_0 rfl (lv_at hl 1 rfl) ?_
  refine lv_aload_n hx hb dX12_rowFrom_1 rfl (lv_at hl 0 rfl) ?_
  refine va_get (D := G) (ci := 12) (v := .int m_rowMany) (C := RX12) (T := TX12) (N := 65) hx hb hts inT12 hown hK hP 0 rfl rfl 63 (by decide) (hts _ tw_1946) (fun _ h9 => h9) rfl dX12_rowFrom_2 ?_
  refine lv_icmp_ne (tgt := 15) hx hb dX12_rowFrom_5 (by decide) (fun c_1 => ?_) (fun h9 => (z_no (by have h8 := z_feqF h9; omega)))
  have b_2 := z_fneT c_1
  refine lv_iconst (v := 0) hx hb dX12_rowFrom_15 (by decide) ?_
  refine lv_istore_n (lv' := [(3, .int 0), (0, .ref h0), (1, .int nn), (2, .int d)]) hx hb dX12_rowFrom_16 rfl hl (by decide) rfl (fun ls hl => ?_)
  have hlp_217 : ∀ (n : Nat) (v_170 : Int32) (v_171 : Int32) (v_172 : Int32) (v_173 : Int64) (v_174 : Int64) (v_175 : Int64) (v_176 : Int64) (g_177 : Nat → Int32) (g_178 : Nat → Int32) (g_179 : Nat → Int32) (H : Heap) (locs : List Loc) (ls : Array Slot), (2147483647 - v_170.toInt).toNat < n → (0 ≤ v_170.toInt ∧ v_170.toInt ≤ 3) → (0 ≤ v_171.toInt ∧ v_171.toInt ≤ 10) → (v_172 = 0 ∨ v_172 = 1) → (0 ≤ v_172.toInt ∧ v_172.toInt ≤ 1) → (zRg 10 0 9 g_177) → (zRg 10 0 9 g_178) → (zRg 10 0 9 g_179) → (zT3 g_178 nn.toInt) → (v_172.toInt ≤ 0 ∨ 1 ≤ v_174.toInt) → va_P G vwCl [(h0, .inr (12, [.int m_status, .int m_thrown, .long m_above, .long m_under, .ref a_traySort, .ref a_trayMany, .ref a_numbers, .ref a_tape, .int m_taped, .int m_textEnd, .int m_faultKind, .int m_faultAt, .int m_bad, .int m_badAt, .int m_token, .int m_at, .int m_behind, .int m_number, .int m_letters, .long m_word, .ref a_c, .ref a_words, .int m_markMany, .ref a_there, .ref a_tried, .ref a_best, .ref a_found, .int v_171, .int m_foundMany, .int m_orderHow, .int m_orderRing, .int m_orderMany, .int v_172, .long v_173, .long v_174, .ref a_weights, .ref a_shared, .int m_random, .int m_truePlace, .int m_trueWay, .int m_seconds, .int m_done, .int m_feelings, .int m_tries, .int m_leftOver, .int m_playDoor, .int m_playRing, .int m_isOpen, .int m_isOver, .int m_wasTried, .int m_hasPlayed, .ref a_feltNow, .ref a_last, .ref a_kept, .int m_hasSeconds, .int m_hasTurned, .int m_hasRound, .ref a_hasFeels, .ref a_isOn, .int m_firstAct, .long v_175, .long v_176, .ref a_order, .int m_rowMany, .int m_newSteps])), (a_c, .inl (cA.1 0, 1825, .inl g_c)), (a_there, .inl (cA.1 0, 10, .inl g_177)), (a_tried, .inl (cA.1 0, 10, .inl g_178)), (a_order, .inl (cA.1 0, 10, .inl g_179))] H → va_D A [(h0, .inr (12, [.int m_status, .int m_thrown, .long m_above, .long m_under, .ref a_traySort, .ref a_trayMany, .ref a_numbers, .ref a_tape, .int m_taped, .int m_textEnd, .int m_faultKind, .int m_faultAt, .int m_bad, .int m_badAt, .int m_token, .int m_at, .int m_behind, .int m_number, .int m_letters, .long m_word, .ref a_c, .ref a_words, .int m_markMany, .ref a_there, .ref a_tried, .ref a_best, .ref a_found, .int v_171, .int m_foundMany, .int m_orderHow, .int m_orderRing, .int m_orderMany, .int v_172, .long v_173, .long v_174, .ref a_weights, .ref a_shared, .int m_random, .int m_truePlace, .int m_trueWay, .int m_seconds, .int m_done, .int m_feelings, .int m_tries, .int m_leftOver, .int m_playDoor, .int m_playRing, .int m_isOpen, .int m_isOver, .int m_wasTried, .int m_hasPlayed, .ref a_feltNow, .ref a_last, .ref a_kept, .int m_hasSeconds, .int m_hasTurned, .int m_hasRound, .ref a_hasFeels, .ref a_isOn, .int m_firstAct, .long v_175, .long v_176, .ref a_order, .int m_rowMany, .int m_newSteps])), (a_c, .inl (cA.1 0, 1825, .inl g_c)), (a_there, .inl (cA.1 0, 10, .inl g_177)), (a_tried, .inl (cA.1 0, 10, .inl g_178)), (a_order, .inl (cA.1 0, 10, .inl g_179))] → va_S A s.heap H locs → lv_has ls 4 [(0, .ref h0), (1, .int nn), (2, .int d), (3, .int v_170)] → W p l e ({ frames := 4, cells := 0, slots := 0, locals := 97 }) s m args below meth c H locs 0 0 Q (F0 m 17 ls []) := by
    intro n
    induction n with
    | zero =>
      intro v_170 v_171 v_172 v_173 v_174 v_175 v_176 g_177 g_178 g_179 H locs ls hmu_hlp_217 hr_v_170 hr_v_171 hz_v_172 hr_v_172 hC_g_177 hC_g_178 hC_g_179 hs_215 hi_216 hP hD hS hl
      exact absurd hmu_hlp_217 (Nat.not_lt_zero _)
    | succ n ih_218 =>
      intro v_170 v_171 v_172 v_173 v_174 v_175 v_176 g_177 g_178 g_179 H locs ls hmu_hlp_217 hr_v_170 hr_v_171 hz_v_172 hr_v_172 hC_g_177 hC_g_178 hC_g_179 hs_215 hi_216 hP hD hS hl
      refine lv_iload_n hx hb dX12_rowFrom_17 rfl (lv_at hl 3 rfl) ?_
      refine lv_aload_n hx hb dX12_rowFrom_18 rfl (lv_at hl 0 rfl) ?_
      refine va_get (D := G) (ci := 12) (v := .ref a_c) (C := RX12) (T := TX12) (N := 65) hx hb hts inT12 hown hK hP 0 rfl rfl 20 (by decide) (hts _ tw_1905) (fun _ h9 => h9) rfl dX12_rowFrom_19 ?_
      refine lv_iconst (v := 2) hx hb dX12_rowFrom_22 (by decide) ?_
      refine va_iald hx hb hK hP 1 0 rfl rfl (z_in (i := 2) (n := 1825) (by decide +kernel) (by decide +kernel)) dX12_rowFrom_23 ?_
      refine lv_topi (fun x_219 he_x_219 => ?_)
      have hr_x_219 := z_ctk hC_g_c he_x_219 (k := 2) (lo := 0) (hi := 3) (by decide +kernel) (by decide +kernel) (by decide +kernel)
      refine lv_icmp_ge (tgt := 72) hx hb dX12_rowFrom_24 (by decide) (fun c_220 => ?_) (fun c_220 => ?_)
      · have b_221 := z_fgeT c_220
        have hpost : (0 ≤ v_171.toInt ∧ v_171.toInt ≤ 10) ∧ (v_172 = 0 ∨ v_172 = 1) ∧ (0 ≤ v_172.toInt ∧ v_172.toInt ≤ 1) ∧ (zRg 10 0 9 g_177) ∧ (zRg 10 0 9 g_178) ∧ (zRg 10 0 9 g_179) ∧ (zT3 g_178 nn.toInt) ∧ (v_172.toInt ≤ 0 ∨ 1 ≤ v_174.toInt) := ⟨hr_v_171, hz_v_172, hr_v_172, hC_g_177, hC_g_178, hC_g_179, hs_215, (by omega)⟩
        exact hret _ _ _ _ _ (v_171, v_172, v_173, v_174, v_175, v_176, g_177, g_178, g_179) [0, 1, 2, 3, 4] hP hD hS rfl (by decide) dX12_rowFrom_72 hpost
      · have b_222 := z_fltF c_220
        refine lv_aload_n hx hb dX12_rowFrom_27 rfl (lv_at hl 0 rfl) ?_
        refine lv_iload_n hx hb dX12_rowFrom_28 rfl (lv_at hl 3 rfl) ?_
        refine z_callVv (As := [.int v_170]) (rest := []) (wr := [(a_tried, .inl (cA.1 0, 10, .inl g_178)), (a_order, .inl (cA.1 0, 10, .inl g_179))]) ⟨hx, hb, hml, hown, hts⟩ hK hE hT hP hD hS hA (r_gather l G cA h0 m_status m_thrown m_above m_under a_traySort a_trayMany a_numbers a_tape m_taped m_textEnd m_faultKind m_faultAt m_bad m_badAt m_token m_at m_behind m_number m_letters m_word a_c a_words m_markMany a_there a_tried a_best a_found v_171 m_foundMany m_orderHow m_orderRing m_orderMany v_172 v_173 v_174 a_weights a_shared m_random m_truePlace m_trueWay m_seconds m_done m_feelings m_tries m_leftOver m_playDoor m_playRing m_isOpen m_isOver m_wasTried m_hasPlayed a_feltNow a_last a_kept m_hasSeconds m_hasTurned m_hasRound a_hasFeels a_isOn m_firstAct v_175 v_176 a_order m_rowMany m_newSteps g_c g_177 v_170 (by omega) hr_v_171 hC_g_c hC_g_177) lk_RX12_292 ⟨rfl, rfl⟩ ⟨Nat.le_of_ble_eq_true rfl, Nat.le_of_ble_eq_true rfl⟩ 12 rfl rfl rfl [0, 1, 2] [3, 4] rfl rfl (by decide) rfl hl.1 rfl (lv_room (Nat.le_of_ble_eq_true rfl)) dX12_rowFrom_29 ⟨Nat.le_of_ble_eq_true rfl, Nat.le_of_ble_eq_true rfl⟩ (fun u_226 H locs hw hP hD hS => ?_)
        obtain ⟨n_223, n_224⟩ := u_226
        try dsimp only at hw
        obtain ⟨hr_n_223, hC_n_224, hf_227, hf_228⟩ := hw
        refine lv_aload_n hx hb dX12_rowFrom_32 rfl (lv_at hl 0 rfl) ?_
        refine va_get (D := G) (ci := 12) (v := .int n_223) (C := RX12) (T := TX12) (N := 65) hx hb hts inT12 hown hK hP 2 rfl rfl 27 (by decide) (hts _ tw_1912) (fun _ h9 => h9) rfl dX12_rowFrom_33 ?_
        refine lv_if_eq (tgt := 66) hx hb dX12_rowFrom_36 (by decide) (fun c_229 => ?_) (fun c_229 => ?_)
        · have b_230 := z_feqT c_229
          obtain ⟨x_231, he_x_231⟩ : ∃ z : Int32, z = v_170 + 1 := ⟨_, rfl⟩
          have hq_x_231 := z_addq he_x_231 (rfl : v_170.toInt = _) hk_1 (by omega) (by omega)
          refine lv_iinc (v := x_231) (lv' := [(3, .int x_231), (0, .ref h0), (1, .int nn), (2, .int d)]) hx hb dX12_rowFrom_66 hl (k := 3) rfl ((z_ofi (by decide +kernel)).trans he_x_231.symm) (by decide) rfl (fun ls hl => ?_)
          refine lv_goto (tgt := 17) hx hb dX12_rowFrom_69 (by decide) ?_
          have hP := hP.sub (ws' := [(h0, .inr (12, [.int m_status, .int m_thrown, .long m_above, .long m_under, .ref a_traySort, .ref a_trayMany, .ref a_numbers, .ref a_tape, .int m_taped, .int m_textEnd, .int m_faultKind, .int m_faultAt, .int m_bad, .int m_badAt, .int m_token, .int m_at, .int m_behind, .int m_number, .int m_letters, .long m_word, .ref a_c, .ref a_words, .int m_markMany, .ref a_there, .ref a_tried, .ref a_best, .ref a_found, .int n_223, .int m_foundMany, .int m_orderHow, .int m_orderRing, .int m_orderMany, .int v_172, .long v_173, .long v_174, .ref a_weights, .ref a_shared, .int m_random, .int m_truePlace, .int m_trueWay, .int m_seconds, .int m_done, .int m_feelings, .int m_tries, .int m_leftOver, .int m_playDoor, .int m_playRing, .int m_isOpen, .int m_isOver, .int m_wasTried, .int m_hasPlayed, .ref a_feltNow, .ref a_last, .ref a_kept, .int m_hasSeconds, .int m_hasTurned, .int m_hasRound, .ref a_hasFeels, .ref a_isOn, .int m_firstAct, .long v_175, .long v_176, .ref a_order, .int m_rowMany, .int m_newSteps])), (a_c, .inl (cA.1 0, 1825, .inl g_c)), (a_there, .inl (cA.1 0, 10, .inl n_224)), (a_tried, .inl (cA.1 0, 10, .inl g_178)), (a_order, .inl (cA.1 0, 10, .inl g_179))]) [2, 3, 4, 0, 1] rfl
          have hD := hD.sub (ws' := [(h0, .inr (12, [.int m_status, .int m_thrown, .long m_above, .long m_under, .ref a_traySort, .ref a_trayMany, .ref a_numbers, .ref a_tape, .int m_taped, .int m_textEnd, .int m_faultKind, .int m_faultAt, .int m_bad, .int m_badAt, .int m_token, .int m_at, .int m_behind, .int m_number, .int m_letters, .long m_word, .ref a_c, .ref a_words, .int m_markMany, .ref a_there, .ref a_tried, .ref a_best, .ref a_found, .int n_223, .int m_foundMany, .int m_orderHow, .int m_orderRing, .int m_orderMany, .int v_172, .long v_173, .long v_174, .ref a_weights, .ref a_shared, .int m_random, .int m_truePlace, .int m_trueWay, .int m_seconds, .int m_done, .int m_feelings, .int m_tries, .int m_leftOver, .int m_playDoor, .int m_playRing, .int m_isOpen, .int m_isOver, .int m_wasTried, .int m_hasPlayed, .ref a_feltNow, .ref a_last, .ref a_kept, .int m_hasSeconds, .int m_hasTurned, .int m_hasRound, .ref a_hasFeels, .ref a_isOn, .int m_firstAct, .long v_175, .long v_176, .ref a_order, .int m_rowMany, .int m_newSteps])), (a_c, .inl (cA.1 0, 1825, .inl g_c)), (a_there, .inl (cA.1 0, 10, .inl n_224)), (a_tried, .inl (cA.1 0, 10, .inl g_178)), (a_order, .inl (cA.1 0, 10, .inl g_179))]) [2, 3, 4, 0, 1] (by decide) rfl
          exact ih_218 x_231 n_223 v_172 v_173 v_174 v_175 v_176 n_224 g_178 g_179 H locs ls (by omega) (by omega) hr_n_223 hz_v_172 hr_v_172 hC_n_224 hC_g_178 hC_g_179 hs_215 (by omega) hP hD hS (lv_sub hl [1, 2, 3, 0] rfl)
        · have b_232 := z_fneF c_229
          refine lv_aload_n hx hb dX12_rowFrom_39 rfl (lv_at hl 0 rfl) ?_
          refine lv_iload_n hx hb dX12_rowFrom_40 rfl (lv_at hl 3 rfl) ?_
          refine lv_iload_n hx hb dX12_rowFrom_41 rfl (lv_at hl 1 rfl) ?_
          refine z_callVi (As := [.int v_170, .int nn]) (rest := []) (wr := [(a_order, .inl (cA.1 0, 10, .inl g_179)), (a_c, .inl (cA.1 0, 1825, .inl g_c)), (a_there, .inl (cA.1 0, 10, .inl n_224))]) ⟨hx, hb, hml, hown, hts⟩ hK hE hT hP hD hS hA (r_isUsed l G cA h0 m_status m_thrown m_above m_under a_traySort a_trayMany a_numbers a_tape m_taped m_textEnd m_faultKind m_faultAt m_bad m_badAt m_token m_at m_behind m_number m_letters m_word a_c a_words m_markMany a_there a_tried a_best a_found n_223 m_foundMany m_orderHow m_orderRing m_orderMany v_172 v_173 v_174 a_weights a_shared m_random m_truePlace m_trueWay m_seconds m_done m_feelings m_tries m_leftOver m_playDoor m_playRing m_isOpen m_isOver m_wasTried m_hasPlayed a_feltNow a_last a_kept m_hasSeconds m_hasTurned m_hasRound a_hasFeels a_isOn m_firstAct v_175 v_176 a_order m_rowMany m_newSteps g_178 v_170 nn (z_rgw hr_nn (by decide) (by decide)) hC_g_178) lk_RX12_426 ⟨rfl, rfl⟩ ⟨Nat.le_of_ble_eq_true rfl, Nat.le_of_ble_eq_true rfl⟩ 12 rfl rfl rfl [2, 0] [1, 3, 4] rfl rfl (by decide) rfl hl.1 rfl (lv_room (Nat.le_of_ble_eq_true rfl)) dX12_rowFrom_42 ⟨Nat.le_of_ble_eq_true rfl, Nat.le_of_ble_eq_true rfl⟩ (fun r_233 u_234 H locs hw hP hD hS => ?_)
          rcases hw with ⟨rfl, hf_235⟩ | ⟨rfl, hf_236⟩
          · skip
            refine lv_if_eq (tgt := 51) hx hb dX12_rowFrom_45 (by decide) (fun _ => ?_) (fun h9 => absurd (by decide +kernel) h9)
            refine lv_aload_n hx hb dX12_rowFrom_51 rfl (lv_at hl 0 rfl) ?_
            refine va_get (D := G) (ci := 12) (v := .ref a_tried) (C := RX12) (T := TX12) (N := 65) hx hb hts inT12 hown hK hP 3 rfl rfl 24 (by decide) (hts _ tw_1909) (fun _ h9 => h9) rfl dX12_rowFrom_52 ?_
            refine lv_iload_n hx hb dX12_rowFrom_55 rfl (lv_at hl 1 rfl) ?_
            refine lv_iload_n hx hb dX12_rowFrom_56 rfl (lv_at hl 3 rfl) ?_
            refine z_iast hx hb hK hP hD hS 4 0 rfl rfl (z_inN (by omega) (by omega)) dX12_rowFrom_57 (fun g_237 hg_g_237 H locs hP hD hS => ?_)
            have hC_g_237 := z_rgU hC_g_178 hg_g_237 (by omega)
            have hs_238 : zT3 g_237 nn.toInt := (zT3_upd hs_215 hg_g_237 (by omega))
            have hT1_g_237 : zT3 g_237 (nn.toInt + 1) := zT3_add hs_215 hg_g_237 (by omega) (by omega) (by omega)
            refine lv_aload_n hx hb dX12_rowFrom_58 rfl (lv_at hl 0 rfl) ?_
            refine lv_iload_n hx hb dX12_rowFrom_59 rfl (lv_at hl 1 rfl) ?_
            refine lv_iconst (v := 1) hx hb dX12_rowFrom_60 (by decide) ?_
            refine lv_iadd hx hb dX12_rowFrom_61 ?_
            refine lv_topi (fun x_239 he_x_239 => ?_)
            have hq_x_239 := z_addq he_x_239 (rfl : nn.toInt = _) hk_1 (by omega) (by omega)
            refine lv_iload_n hx hb dX12_rowFrom_62 rfl (lv_at hl 2 rfl) ?_
            refine z_callVv (As := [.int x_239, .int d]) (rest := []) (wr := []) ⟨hx, hb, hml, hown, hts⟩ hK hE hT hP hD hS hA (r_rowFrom_0 l G cA h0 m_status m_thrown m_above m_under a_traySort a_trayMany a_numbers a_tape m_taped m_textEnd m_faultKind m_faultAt m_bad m_badAt m_token m_at m_behind m_number m_letters m_word a_c a_words m_markMany a_there a_tried a_best a_found n_223 m_foundMany m_orderHow m_orderRing m_orderMany v_172 v_173 v_174 a_weights a_shared m_random m_truePlace m_trueWay m_seconds m_done m_feelings m_tries m_leftOver m_playDoor m_playRing m_isOpen m_isOver m_wasTried m_hasPlayed a_feltNow a_last a_kept m_hasSeconds m_hasTurned m_hasRound a_hasFeels a_isOn m_firstAct v_175 v_176 a_order m_rowMany m_newSteps g_c n_224 g_237 g_179 x_239 d (by omega) hr_d hr_n_223 (z_rgw hr_m_rowMany (by decide) (by decide)) hr_v_172 hz_v_172 hC_g_c hC_n_224 hC_g_237 hC_g_179 (by rw [show x_239.toInt = nn.toInt + 1 by omega]; exact hT1_g_237) (by omega) (by omega)) lk_RX12_447 ⟨rfl, rfl⟩ ⟨Nat.le_of_ble_eq_true rfl, Nat.le_of_ble_eq_true rfl⟩ 12 rfl rfl rfl [3, 1, 2, 4, 0] [] rfl rfl (by decide) rfl hl.1 rfl (lv_room (Nat.le_of_ble_eq_true rfl)) dX12_rowFrom_63 ⟨Nat.le_of_ble_eq_true rfl, Nat.le_of_ble_eq_true rfl⟩ (fun u_249 H locs hw hP hD hS => ?_)
            obtain ⟨n_240, n_241, n_242, n_243, n_244, n_245, n_246, n_247⟩ := u_249
            try dsimp only at hw
            obtain ⟨hr_n_240, hz_n_241, hr_n_241, hr_n_245, hC_n_246, hC_n_247, hf_250, hf_251⟩ := hw
            obtain ⟨x_252, he_x_252⟩ : ∃ z : Int32, z = v_170 + 1 := ⟨_, rfl⟩
            have hq_x_252 := z_addq he_x_252 (rfl : v_170.toInt = _) hk_1 (by omega) (by omega)
            refine lv_iinc (v := x_252) (lv' := [(3, .int x_252), (0, .ref h0), (1, .int nn), (2, .int d)]) hx hb dX12_rowFrom_66 hl (k := 3) rfl ((z_ofi (by decide +kernel)).trans he_x_252.symm) (by decide) rfl (fun ls hl => ?_)
            refine lv_goto (tgt := 17) hx hb dX12_rowFrom_69 (by decide) ?_
            exact ih_218 x_252 n_240 n_241 n_242 n_243 n_244 n_245 n_246 g_237 n_247 H locs ls (by omega) (by omega) hr_n_240 hz_n_241 hr_n_241 hC_n_246 hC_g_237 hC_n_247 hs_238 (by omega) hP hD hS (lv_sub hl [1, 2, 3, 0] rfl)
          · skip
            refine lv_if_eq (tgt := 51) hx hb dX12_rowFrom_45 (by decide) (fun h9 => absurd h9 (by decide +kernel)) (fun _ => ?_)
            refine lv_goto (tgt := 66) hx hb dX12_rowFrom_48 (by decide) ?_
            obtain ⟨x_253, he_x_253⟩ : ∃ z : Int32, z = v_170 + 1 := ⟨_, rfl⟩
            have hq_x_253 := z_addq he_x_253 (rfl : v_170.toInt = _) hk_1 (by omega) (by omega)
            refine lv_iinc (v := x_253) (lv' := [(3, .int x_253), (0, .ref h0), (1, .int nn), (2, .int d)]) hx hb dX12_rowFrom_66 hl (k := 3) rfl ((z_ofi (by decide +kernel)).trans he_x_253.symm) (by decide) rfl (fun ls hl => ?_)
            refine lv_goto (tgt := 17) hx hb dX12_rowFrom_69 (by decide) ?_
            have hP := hP.sub (ws' := [(h0, .inr (12, [.int m_status, .int m_thrown, .long m_above, .long m_under, .ref a_traySort, .ref a_trayMany, .ref a_numbers, .ref a_tape, .int m_taped, .int m_textEnd, .int m_faultKind, .int m_faultAt, .int m_bad, .int m_badAt, .int m_token, .int m_at, .int m_behind, .int m_number, .int m_letters, .long m_word, .ref a_c, .ref a_words, .int m_markMany, .ref a_there, .ref a_tried, .ref a_best, .ref a_found, .int n_223, .int m_foundMany, .int m_orderHow, .int m_orderRing, .int m_orderMany, .int v_172, .long v_173, .long v_174, .ref a_weights, .ref a_shared, .int m_random, .int m_truePlace, .int m_trueWay, .int m_seconds, .int m_done, .int m_feelings, .int m_tries, .int m_leftOver, .int m_playDoor, .int m_playRing, .int m_isOpen, .int m_isOver, .int m_wasTried, .int m_hasPlayed, .ref a_feltNow, .ref a_last, .ref a_kept, .int m_hasSeconds, .int m_hasTurned, .int m_hasRound, .ref a_hasFeels, .ref a_isOn, .int m_firstAct, .long v_175, .long v_176, .ref a_order, .int m_rowMany, .int m_newSteps])), (a_c, .inl (cA.1 0, 1825, .inl g_c)), (a_there, .inl (cA.1 0, 10, .inl n_224)), (a_tried, .inl (cA.1 0, 10, .inl g_178)), (a_order, .inl (cA.1 0, 10, .inl g_179))]) [3, 1, 2, 4, 0] rfl
            have hD := hD.sub (ws' := [(h0, .inr (12, [.int m_status, .int m_thrown, .long m_above, .long m_under, .ref a_traySort, .ref a_trayMany, .ref a_numbers, .ref a_tape, .int m_taped, .int m_textEnd, .int m_faultKind, .int m_faultAt, .int m_bad, .int m_badAt, .int m_token, .int m_at, .int m_behind, .int m_number, .int m_letters, .long m_word, .ref a_c, .ref a_words, .int m_markMany, .ref a_there, .ref a_tried, .ref a_best, .ref a_found, .int n_223, .int m_foundMany, .int m_orderHow, .int m_orderRing, .int m_orderMany, .int v_172, .long v_173, .long v_174, .ref a_weights, .ref a_shared, .int m_random, .int m_truePlace, .int m_trueWay, .int m_seconds, .int m_done, .int m_feelings, .int m_tries, .int m_leftOver, .int m_playDoor, .int m_playRing, .int m_isOpen, .int m_isOver, .int m_wasTried, .int m_hasPlayed, .ref a_feltNow, .ref a_last, .ref a_kept, .int m_hasSeconds, .int m_hasTurned, .int m_hasRound, .ref a_hasFeels, .ref a_isOn, .int m_firstAct, .long v_175, .long v_176, .ref a_order, .int m_rowMany, .int m_newSteps])), (a_c, .inl (cA.1 0, 1825, .inl g_c)), (a_there, .inl (cA.1 0, 10, .inl n_224)), (a_tried, .inl (cA.1 0, 10, .inl g_178)), (a_order, .inl (cA.1 0, 10, .inl g_179))]) [3, 1, 2, 4, 0] (by decide) rfl
            exact ih_218 x_253 n_223 v_172 v_173 v_174 v_175 v_176 n_224 g_178 g_179 H locs ls (by omega) (by omega) hr_n_223 hz_v_172 hr_v_172 hC_n_224 hC_g_178 hC_g_179 hs_215 (by omega) hP hD hS (lv_sub hl [1, 2, 3, 0] rfl)
  exact hlp_217 _ 0 m_thereMany m_hasBest m_bestTop m_bestBy m_meanTop m_meanBy g_there g_tried g_order _ _ _ (Nat.lt_succ_self _) (by decide +kernel) hr_m_thereMany hz_m_hasBest hr_m_hasBest hC_g_there hC_g_tried hC_g_order hT3_0 (by omega) hP hD hS (lv_sub hl [1, 2, 3, 0] rfl)
