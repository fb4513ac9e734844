set_option maxHeartbeats 40000000 in
set_option maxRecDepth 100000 in
theorem r_readKey (l : Launch) (G : va_G) (cA : zCA) (h0 : Nat) (m_status : Int32) (m_thrown : Int32) (m_above : Int64) (m_under : Int64) (a_traySort : Nat) (a_trayMany : Nat) (a_numbers : Nat) (a_tape : Nat) (m_taped : Int32) (m_textEnd : Int32) (m_faultKind : Int32) (m_faultAt : Int32) (m_bad : Int32) (m_badAt : Int32) (m_token : Int32) (m_at : Int32) (m_behind : Int32) (m_number : Int32) (m_letters : Int32) (m_word : Int64) (a_c : Nat) (a_words : Nat) (m_markMany : Int32) (a_there : Nat) (a_tried : Nat) (a_best : Nat) (a_found : Nat) (m_thereMany : Int32) (m_foundMany : Int32) (m_orderHow : Int32) (m_orderRing : Int32) (m_orderMany : Int32) (m_hasBest : Int32) (m_bestTop : Int64) (m_bestBy : Int64) (a_weights : Nat) (a_shared : Nat) (m_random : Int32) (m_truePlace : Int32) (m_trueWay : Int32) (m_seconds : Int32) (m_done : Int32) (m_feelings : Int32) (m_tries : Int32) (m_leftOver : Int32) (m_playDoor : Int32) (m_playRing : Int32) (m_isOpen : Int32) (m_isOver : Int32) (m_wasTried : Int32) (m_hasPlayed : Int32) (a_feltNow : Nat) (a_last : Nat) (a_kept : Nat) (m_hasSeconds : Int32) (m_hasTurned : Int32) (m_hasRound : Int32) (a_hasFeels : Nat) (a_isOn : Nat) (m_firstAct : Int32) (m_meanTop : Int64) (m_meanBy : Int64) (a_order : Nat) (m_rowMany : Int32) (m_newSteps : Int32) (g_tape : Nat → Int32) (g_c : Nat → Int32) (g_words : Nat → Int64) (g_isOn : Nat → Int32) (hr_m_textEnd : 0 ≤ m_textEnd.toInt ∧ m_textEnd.toInt ≤ 900) (hr_m_at : 0 ≤ m_at.toInt ∧ m_at.toInt ≤ 900) (hr_m_behind : 0 ≤ m_behind.toInt ∧ m_behind.toInt ≤ 900) (hr_m_bad : 0 ≤ m_bad.toInt ∧ m_bad.toInt ≤ 0) (hr_m_token : 0 ≤ m_token.toInt ∧ m_token.toInt ≤ 4) (hr_m_number : 0 ≤ m_number.toInt ∧ m_number.toInt ≤ 9999) (hr_m_letters : 0 ≤ m_letters.toInt ∧ m_letters.toInt ≤ 900) (hC_g_c : zC g_c) (hC_g_isOn : zRg 10 0 1 g_isOn) (hNW0 : zNw g_c g_isOn) (hNF0 : zNf g_c) : zCv l yX12_readKey cX12_readKey 3 none ({ frames := 4, cells := 0, slots := 0, locals := 91 }) G cA [.ref h0] [(h0, .inr (12, [.int m_status, .int m_thrown, .long m_above, .long m_under, .ref a_traySort, .ref a_trayMany, .ref a_numbers, .ref a_tape, .int m_taped, .int m_textEnd, .int m_faultKind, .int m_faultAt, .int m_bad, .int m_badAt, .int m_token, .int m_at, .int m_behind, .int m_number, .int m_letters, .long m_word, .ref a_c, .ref a_words, .int m_markMany, .ref a_there, .ref a_tried, .ref a_best, .ref a_found, .int m_thereMany, .int m_foundMany, .int m_orderHow, .int m_orderRing, .int m_orderMany, .int m_hasBest, .long m_bestTop, .long m_bestBy, .ref a_weights, .ref a_shared, .int m_random, .int m_truePlace, .int m_trueWay, .int m_seconds, .int m_done, .int m_feelings, .int m_tries, .int m_leftOver, .int m_playDoor, .int m_playRing, .int m_isOpen, .int m_isOver, .int m_wasTried, .int m_hasPlayed, .ref a_feltNow, .ref a_last, .ref a_kept, .int m_hasSeconds, .int m_hasTurned, .int m_hasRound, .ref a_hasFeels, .ref a_isOn, .int m_firstAct, .long m_meanTop, .long m_meanBy, .ref a_order, .int m_rowMany, .int m_newSteps])), (a_tape, .inl (cA.1 2, 900, .inl g_tape)), (a_c, .inl (cA.1 0, 1825, .inl g_c)), (a_words, .inl (cA.1 1, 105, .inr (.inl g_words))), (a_isOn, .inl (cA.1 3, 10, .inl g_isOn))] (S := Int32 × Int32 × Int32 × Int32 × Int32 × Int32 × Int32 × Int64 × (Nat → Int64) × (Nat → Int32) × (Nat → Int32)) (fun (u : Int32 × Int32 × Int32 × Int32 × Int32 × Int32 × Int32 × Int64 × (Nat → Int64) × (Nat → Int32) × (Nat → Int32)) => (u.1 = (F_r_readKey m_textEnd m_bad m_badAt m_token m_at m_behind m_number m_letters m_word g_tape g_c g_words g_isOn).1) ∧ (u.2.1 = (F_r_readKey m_textEnd m_bad m_badAt m_token m_at m_behind m_number m_letters m_word g_tape g_c g_words g_isOn).2.1) ∧ (u.2.2.1 = (F_r_readKey m_textEnd m_bad m_badAt m_token m_at m_behind m_number m_letters m_word g_tape g_c g_words g_isOn).2.2.1) ∧ (u.2.2.2.1 = (F_r_readKey m_textEnd m_bad m_badAt m_token m_at m_behind m_number m_letters m_word g_tape g_c g_words g_isOn).2.2.2.1) ∧ (u.2.2.2.2.1 = (F_r_readKey m_textEnd m_bad m_badAt m_token m_at m_behind m_number m_letters m_word g_tape g_c g_words g_isOn).2.2.2.2.1) ∧ (u.2.2.2.2.2.1 = (F_r_readKey m_textEnd m_bad m_badAt m_token m_at m_behind m_number m_letters m_word g_tape g_c g_words g_isOn).2.2.2.2.2.1) ∧ (u.2.2.2.2.2.2.1 = (F_r_readKey m_textEnd m_bad m_badAt m_token m_at m_behind m_number m_letters m_word g_tape g_c g_words g_isOn).2.2.2.2.2.2.1) ∧ (u.2.2.2.2.2.2.2.1 = (F_r_readKey m_textEnd m_bad m_badAt m_token m_at m_behind m_number m_letters m_word g_tape g_c g_words g_isOn).2.2.2.2.2.2.2.1) ∧ (u.2.2.2.2.2.2.2.2.1 = (F_r_readKey m_textEnd m_bad m_badAt m_token m_at m_behind m_number m_letters m_word g_tape g_c g_words g_isOn).2.2.2.2.2.2.2.2.1) ∧ (u.2.2.2.2.2.2.2.2.2.1 = (F_r_readKey m_textEnd m_bad m_badAt m_token m_at m_behind m_number m_letters m_word g_tape g_c g_words g_isOn).2.2.2.2.2.2.2.2.2.1) ∧ (u.2.2.2.2.2.2.2.2.2.2 = (F_r_readKey m_textEnd m_bad m_badAt m_token m_at m_behind m_number m_letters m_word g_tape g_c g_words g_isOn).2.2.2.2.2.2.2.2.2.2) ∧ ((0 ≤ u.1.toInt ∧ u.1.toInt ≤ 9) ∧ (0 ≤ u.2.2.1.toInt ∧ u.2.2.1.toInt ≤ 4) ∧ (0 ≤ u.2.2.2.1.toInt ∧ u.2.2.2.1.toInt ≤ 900) ∧ (0 ≤ u.2.2.2.2.1.toInt ∧ u.2.2.2.2.1.toInt ≤ 900) ∧ (0 ≤ u.2.2.2.2.2.1.toInt ∧ u.2.2.2.2.2.1.toInt ≤ 9999) ∧ (0 ≤ u.2.2.2.2.2.2.1.toInt ∧ u.2.2.2.2.2.2.1.toInt ≤ 900) ∧ (zC u.2.2.2.2.2.2.2.2.2.1) ∧ (zRg 10 0 1 u.2.2.2.2.2.2.2.2.2.2) ∧ (zNw u.2.2.2.2.2.2.2.2.2.1 u.2.2.2.2.2.2.2.2.2.2) ∧ (m_behind.toInt ≤ u.2.2.2.2.1.toInt) ∧ (0 < m_bad.toInt → 0 < u.1.toInt) ∧ (u.1.toInt ≤ 0 → u.2.2.1.toInt = 0 ∨ m_behind.toInt < u.2.2.2.2.1.toInt) ∧ (u.1.toInt ≤ 0 → u.2.2.1.toInt = 3 → u.2.2.2.2.2.1.toInt = 59 → zNf u.2.2.2.2.2.2.2.2.2.1))) (fun (u : Int32 × Int32 × Int32 × Int32 × Int32 × Int32 × Int32 × Int64 × (Nat → Int64) × (Nat → Int32) × (Nat → Int32)) => [(h0, .inr (12, [.int m_status, .int m_thrown, .long m_above, .long m_under, .ref a_traySort, .ref a_trayMany, .ref a_numbers, .ref a_tape, .int m_taped, .int m_textEnd, .int m_faultKind, .int m_faultAt, .int u.1, .int u.2.1, .int u.2.2.1, .int u.2.2.2.1, .int u.2.2.2.2.1, .int u.2.2.2.2.2.1, .int u.2.2.2.2.2.2.1, .long u.2.2.2.2.2.2.2.1, .ref a_c, .ref a_words, .int m_markMany, .ref a_there, .ref a_tried, .ref a_best, .ref a_found, .int m_thereMany, .int m_foundMany, .int m_orderHow, .int m_orderRing, .int m_orderMany, .int m_hasBest, .long m_bestTop, .long m_bestBy, .ref a_weights, .ref a_shared, .int m_random, .int m_truePlace, .int m_trueWay, .int m_seconds, .int m_done, .int m_feelings, .int m_tries, .int m_leftOver, .int m_playDoor, .int m_playRing, .int m_isOpen, .int m_isOver, .int m_wasTried, .int m_hasPlayed, .ref a_feltNow, .ref a_last, .ref a_kept, .int m_hasSeconds, .int m_hasTurned, .int m_hasRound, .ref a_hasFeels, .ref a_isOn, .int m_firstAct, .long m_meanTop, .long m_meanBy, .ref a_order, .int m_rowMany, .int m_newSteps])), (a_tape, .inl (cA.1 2, 900, .inl g_tape)), (a_c, .inl (cA.1 0, 1825, .inl u.2.2.2.2.2.2.2.2.2.1)), (a_words, .inl (cA.1 1, 105, .inr (.inl u.2.2.2.2.2.2.2.2.1))), (a_isOn, .inl (cA.1 3, 10, .inl u.2.2.2.2.2.2.2.2.2.2))]) 0 0 := by
  have hk_0 : (0 : Int32).toInt = 0 := by decide +kernel
  have hk_1 : (1 : Int32).toInt = 1 := by decide +kernel
  have hk_2 : (2 : Int32).toInt = 2 := by decide +kernel
  have hk_3 : (3 : Int32).toInt = 3 := by decide +kernel
  have hk_4 : (4 : Int32).toInt = 4 := by decide +kernel
  have hk_8 : (8 : Int32).toInt = 8 := by decide +kernel
  have hk_10 : (10 : Int32).toInt = 10 := by decide +kernel
  have hk_59 : (59 : Int32).toInt = 59 := by decide +kernel
  have hk_1471 : (1471 : Int32).toInt = 1471 := by decide +kernel
  have hk_1525 : (1525 : Int32).toInt = 1525 := by decide +kernel
  have hk_1610 : (1610 : Int32).toInt = 1610 := by decide +kernel
  refine z_start2v (own := RX12) (by decide) (Nat.le_of_ble_eq_true rfl) rfl ?_
  intro p e s m args below meth c A ls Q hx hb hml hts hown hK hE hT hP hD hS hA hl hret
  have hl : lv_has ls 3 [(0, .ref h0)] := hl
  refine lv_aload_n hx hb dX12_readKey_0 rfl (lv_at hl 0 rfl) ?_
  refine lv_iconst (v := 1) hx hb dX12_readKey_1 (by decide) ?_
  refine lv_bipush (v := 10) hx hb dX12_readKey_2 (by decide) ?_
  refine lv_iconst (v := 3) hx hb dX12_readKey_4 (by decide) ?_
  refine z_callVi (As := [.int 1, .int 10, .int 3]) (rest := []) (wr := [(a_isOn, .inl (cA.1 3, 10, .inl g_isOn))]) ⟨hx, hb, hml, hown, hts⟩ hK hE hT hP hD hS hA (r_readNew_1 l G cA h0 m_status m_thrown m_above m_under a_traySort a_trayMany a_numbers a_tape m_taped m_textEnd m_faultKind m_faultAt m_bad m_badAt m_token m_at m_behind m_number m_letters m_word a_c a_words m_markMany a_there a_tried a_best a_found m_thereMany m_foundMany m_orderHow m_orderRing m_orderMany m_hasBest m_bestTop m_bestBy a_weights a_shared m_random m_truePlace m_trueWay m_seconds m_done m_feelings m_tries m_leftOver m_playDoor m_playRing m_isOpen m_isOver m_wasTried m_hasPlayed a_feltNow a_last a_kept m_hasSeconds m_hasTurned m_hasRound a_hasFeels a_isOn m_firstAct m_meanTop m_meanBy a_order m_rowMany m_newSteps g_tape g_c g_words hr_m_textEnd hr_m_at hr_m_behind (z_rgw hr_m_bad (by decide) (by decide)) hr_m_token hr_m_number hr_m_letters hC_g_c) lk_RX12_207 ⟨rfl, rfl⟩ ⟨Nat.le_of_ble_eq_true rfl, Nat.le_of_ble_eq_true rfl⟩ 12 rfl rfl rfl [0, 1, 2, 3] [4] rfl rfl (by decide) rfl hl.1 rfl (lv_room (Nat.le_of_ble_eq_true rfl)) dX12_readKey_5 ⟨Nat.le_of_ble_eq_true rfl, Nat.le_of_ble_eq_true rfl⟩ (fun r_10 u_11 H locs hw hP hD hS => ?_)
  obtain ⟨n_1, n_2, n_3, n_4, n_5, n_6, n_7, n_8, n_9⟩ := u_11
  try dsimp only at hw
  obtain ⟨he_r_10, he_n_1, he_n_2, he_n_3, he_n_4, he_n_5, he_n_6, he_n_7, he_n_8, he_n_9, hw⟩ := hw
  obtain ⟨hr_r_10, hr_n_1, hr_n_3, hr_n_4, hr_n_5, hr_n_6, hr_n_7, hf_13, hf_14, hf_15, hf_16, hf_17⟩ := hw
  refine lv_istore_n (lv' := [(1, .int r_10), (0, .ref h0)]) hx hb dX12_readKey_8 rfl hl (by decide) rfl (fun ls hl => ?_)
  refine lv_iconst (v := 0) hx hb dX12_readKey_9 (by decide) ?_
  refine lv_istore_n (lv' := [(2, .int 0), (1, .int r_10), (0, .ref h0)]) hx hb dX12_readKey_10 rfl hl (by decide) rfl (fun ls hl => ?_)
  have hk60_g_c : 0 ≤ (g_c 1460).toInt ∧ (g_c 1460).toInt ≤ 3 := by have h9 := hC_g_c.1 1460 (by decide); exact ⟨h9.1, h9.2⟩
  have hlp_436 : ∀ (n_L11a : Nat) (v_182 : Int32) (v_183 : Int32) (v_184 : Int32) (v_185 : Int32) (v_186 : Int32) (v_187 : Int32) (v_188 : Int64) (g_189 : Nat → Int32) (H : Heap) (locs : List Loc) (ls : Array Slot), (4600 - 5 * v_185.toInt + v_183.toInt - 5 * n_1.toInt).toNat < n_L11a → (0 ≤ v_182.toInt ∧ v_182.toInt ≤ 3) → (0 ≤ v_183.toInt ∧ v_183.toInt ≤ 4) → (0 ≤ v_184.toInt ∧ v_184.toInt ≤ 900) → (0 ≤ v_185.toInt ∧ v_185.toInt ≤ 900) → (0 ≤ v_186.toInt ∧ v_186.toInt ≤ 9999) → (0 ≤ v_187.toInt ∧ v_187.toInt ≤ 900) → (zC g_189) → (zNw g_189 g_isOn) → (zNf g_189) → (n_1.toInt ≤ 0 → v_182.toInt ≤ (g_189 1460).toInt) → (n_1.toInt ≤ 0 → (g_189 1461).toInt = r_10.toInt) → (n_1.toInt ≤ 0 → (g_189 1460).toInt ≤ 3) → (m_behind.toInt ≤ v_185.toInt) → (n_1.toInt ≤ 0 → v_183.toInt = 0 ∨ m_behind.toInt < v_185.toInt) → (F_r_readKey m_textEnd m_bad m_badAt m_token m_at m_behind m_number m_letters m_word g_tape g_c g_words g_isOn = F_r_readKey_L11a m_textEnd g_tape g_isOn r_10 n_1 n_2 n_9 n_L11a v_182 v_183 v_184 v_185 v_186 v_187 v_188 g_189) → va_P G vwCl [(a_isOn, .inl (cA.1 3, 10, .inl g_isOn)), (h0, .inr (12, [.int m_status, .int m_thrown, .long m_above, .long m_under, .ref a_traySort, .ref a_trayMany, .ref a_numbers, .ref a_tape, .int m_taped, .int m_textEnd, .int m_faultKind, .int m_faultAt, .int n_1, .int n_2, .int v_183, .int v_184, .int v_185, .int v_186, .int v_187, .long v_188, .ref a_c, .ref a_words, .int m_markMany, .ref a_there, .ref a_tried, .ref a_best, .ref a_found, .int m_thereMany, .int m_foundMany, .int m_orderHow, .int m_orderRing, .int m_orderMany, .int m_hasBest, .long m_bestTop, .long m_bestBy, .ref a_weights, .ref a_shared, .int m_random, .int m_truePlace, .int m_trueWay, .int m_seconds, .int m_done, .int m_feelings, .int m_tries, .int m_leftOver, .int m_playDoor, .int m_playRing, .int m_isOpen, .int m_isOver, .int m_wasTried, .int m_hasPlayed, .ref a_feltNow, .ref a_last, .ref a_kept, .int m_hasSeconds, .int m_hasTurned, .int m_hasRound, .ref a_hasFeels, .ref a_isOn, .int m_firstAct, .long m_meanTop, .long m_meanBy, .ref a_order, .int m_rowMany, .int m_newSteps])), (a_tape, .inl (cA.1 2, 900, .inl g_tape)), (a_c, .inl (cA.1 0, 1825, .inl g_189)), (a_words, .inl (cA.1 1, 105, .inr (.inl n_9)))] H → va_D A [(a_isOn, .inl (cA.1 3, 10, .inl g_isOn)), (h0, .inr (12, [.int m_status, .int m_thrown, .long m_above, .long m_under, .ref a_traySort, .ref a_trayMany, .ref a_numbers, .ref a_tape, .int m_taped, .int m_textEnd, .int m_faultKind, .int m_faultAt, .int n_1, .int n_2, .int v_183, .int v_184, .int v_185, .int v_186, .int v_187, .long v_188, .ref a_c, .ref a_words, .int m_markMany, .ref a_there, .ref a_tried, .ref a_best, .ref a_found, .int m_thereMany, .int m_foundMany, .int m_orderHow, .int m_orderRing, .int m_orderMany, .int m_hasBest, .long m_bestTop, .long m_bestBy, .ref a_weights, .ref a_shared, .int m_random, .int m_truePlace, .int m_trueWay, .int m_seconds, .int m_done, .int m_feelings, .int m_tries, .int m_leftOver, .int m_playDoor, .int m_playRing, .int m_isOpen, .int m_isOver, .int m_wasTried, .int m_hasPlayed, .ref a_feltNow, .ref a_last, .ref a_kept, .int m_hasSeconds, .int m_hasTurned, .int m_hasRound, .ref a_hasFeels, .ref a_isOn, .int m_firstAct, .long m_meanTop, .long m_meanBy, .ref a_order, .int m_rowMany, .int m_newSteps])), (a_tape, .inl (cA.1 2, 900, .inl g_tape)), (a_c, .inl (cA.1 0, 1825, .inl g_189)), (a_words, .inl (cA.1 1, 105, .inr (.inl n_9)))] → va_S A s.heap H locs → lv_has ls 3 [(0, .ref h0), (1, .int r_10), (2, .int v_182)] → W p l e ({ frames := 4, cells := 0, slots := 0, locals := 91 }) s m args below meth c H locs 0 0 Q (F0 m 11 ls []) := by
    intro n_L11a
    induction n_L11a with
    | zero =>
      intro v_182 v_183 v_184 v_185 v_186 v_187 v_188 g_189 H locs ls hmu_hlp_436 hr_v_182 hr_v_183 hr_v_184 hr_v_185 hr_v_186 hr_v_187 hC_g_189 hs_285 hs_286 hi_287 hi_288 hi_289 hi_290 hi_291 hF_L11a hP hD hS hl
      exact absurd hmu_hlp_436 (Nat.not_lt_zero _)
    | succ n_L11a ih_437 =>
      intro v_182 v_183 v_184 v_185 v_186 v_187 v_188 g_189 H locs ls hmu_hlp_436 hr_v_182 hr_v_183 hr_v_184 hr_v_185 hr_v_186 hr_v_187 hC_g_189 hs_285 hs_286 hi_287 hi_288 hi_289 hi_290 hi_291 hF_L11a hP hD hS hl
      refine lv_aload_n hx hb dX12_readKey_11 rfl (lv_at hl 0 rfl) ?_
      refine va_get (D := G) (ci := 12) (v := .int n_1) (C := RX12) (T := TX12) (N := 65) hx hb hts inT12 hown hK hP 1 rfl rfl 12 (by decide) (hts _ tw_1897) (fun _ h9 => h9) rfl dX12_readKey_12 ?_
      refine lv_if_ne (tgt := 129) hx hb dX12_readKey_15 (by decide) (fun c_438 => ?_) (fun c_438 => ?_)
      · have b_439 := z_fneT c_438
        refine lv_aload_n hx hb dX12_readKey_129 rfl (lv_at hl 0 rfl) ?_
        refine va_get (D := G) (ci := 12) (v := .int n_1) (C := RX12) (T := TX12) (N := 65) hx hb hts inT12 hown hK hP 1 rfl rfl 12 (by decide) (hts _ tw_1897) (fun _ h9 => h9) rfl dX12_readKey_130 ?_
        refine lv_if_ne (tgt := 167) hx hb dX12_readKey_133 (by decide) (fun c_440 => ?_) (fun h9 => (z_no (by have h8 := z_feqF h9; omega)))
        have b_441 := z_fneT c_440
        refine lv_aload_n hx hb dX12_readKey_167 rfl (lv_at hl 0 rfl) ?_
        refine va_get (D := G) (ci := 12) (v := .int n_1) (C := RX12) (T := TX12) (N := 65) hx hb hts inT12 hown hK hP 1 rfl rfl 12 (by decide) (hts _ tw_1897) (fun _ h9 => h9) rfl dX12_readKey_168 ?_
        refine lv_if_le (tgt := 175) hx hb dX12_readKey_171 (by decide) (fun h9 => (z_no (by have h8 := z_fleT h9; omega))) (fun c_442 => ?_)
        have b_443 := z_fgtF c_442
        have hpost : (0 ≤ n_1.toInt ∧ n_1.toInt ≤ 9) ∧ (0 ≤ v_183.toInt ∧ v_183.toInt ≤ 4) ∧ (0 ≤ v_184.toInt ∧ v_184.toInt ≤ 900) ∧ (0 ≤ v_185.toInt ∧ v_185.toInt ≤ 900) ∧ (0 ≤ v_186.toInt ∧ v_186.toInt ≤ 9999) ∧ (0 ≤ v_187.toInt ∧ v_187.toInt ≤ 900) ∧ (zC g_189) ∧ (zRg 10 0 1 g_isOn) ∧ (zNw g_189 g_isOn) ∧ (m_behind.toInt ≤ v_185.toInt) ∧ (0 < m_bad.toInt → 0 < n_1.toInt) ∧ (n_1.toInt ≤ 0 → v_183.toInt = 0 ∨ m_behind.toInt < v_185.toInt) ∧ (n_1.toInt ≤ 0 → v_183.toInt = 3 → v_186.toInt = 59 → zNf g_189) := ⟨hr_n_1, hr_v_183, hr_v_184, hr_v_185, hr_v_186, hr_v_187, hC_g_189, hC_g_isOn, hs_285, (by omega), (by omega), (by omega), (fun _ _ _ => hs_286)⟩
        have hX_444 : F_r_readKey m_textEnd m_bad m_badAt m_token m_at m_behind m_number m_letters m_word g_tape g_c g_words g_isOn = ((n_1, n_2, v_183, v_184, v_185, v_186, v_187, v_188, n_9, g_189, g_isOn) : Int32 × Int32 × Int32 × Int32 × Int32 × Int32 × Int32 × Int64 × (Nat → Int64) × (Nat → Int32) × (Nat → Int32)) := by
          refine hF_L11a.trans ?_
          refine (F_r_readKey_L11a_s ..).trans ?_
          refine (if_neg c_438).trans ?_
          exact rfl
        exact hret _ _ _ _ _ (n_1, n_2, v_183, v_184, v_185, v_186, v_187, v_188, n_9, g_189, g_isOn) [1, 2, 3, 4, 0] hP hD hS rfl (by decide) dX12_readKey_174 ⟨(congrArg (fun z9 => z9.1) hX_444).symm, (congrArg (fun z9 => z9.2.1) hX_444).symm, (congrArg (fun z9 => z9.2.2.1) hX_444).symm, (congrArg (fun z9 => z9.2.2.2.1) hX_444).symm, (congrArg (fun z9 => z9.2.2.2.2.1) hX_444).symm, (congrArg (fun z9 => z9.2.2.2.2.2.1) hX_444).symm, (congrArg (fun z9 => z9.2.2.2.2.2.2.1) hX_444).symm, (congrArg (fun z9 => z9.2.2.2.2.2.2.2.1) hX_444).symm, (congrArg (fun z9 => z9.2.2.2.2.2.2.2.2.1) hX_444).symm, (congrArg (fun z9 => z9.2.2.2.2.2.2.2.2.2.1) hX_444).symm, (congrArg (fun z9 => z9.2.2.2.2.2.2.2.2.2.2) hX_444).symm, hpost⟩
      · have b_445 := z_feqF c_438
        refine lv_aload_n hx hb dX12_readKey_18 rfl (lv_at hl 0 rfl) ?_
        refine va_get (D := G) (ci := 12) (v := .int v_183) (C := RX12) (T := TX12) (N := 65) hx hb hts inT12 hown hK hP 1 rfl rfl 14 (by decide) (hts _ tw_1899) (fun _ h9 => h9) rfl dX12_readKey_19 ?_
        refine lv_iconst (v := 2) hx hb dX12_readKey_22 (by decide) ?_
        refine lv_icmp_ne (tgt := 129) hx hb dX12_readKey_23 (by decide) (fun c_446 => ?_) (fun c_446 => ?_)
        · have b_447 := z_fneT c_446
          refine lv_aload_n hx hb dX12_readKey_129 rfl (lv_at hl 0 rfl) ?_
          refine va_get (D := G) (ci := 12) (v := .int n_1) (C := RX12) (T := TX12) (N := 65) hx hb hts inT12 hown hK hP 1 rfl rfl 12 (by decide) (hts _ tw_1897) (fun _ h9 => h9) rfl dX12_readKey_130 ?_
          refine lv_if_ne (tgt := 167) hx hb dX12_readKey_133 (by decide) (fun h9 => (z_no (by have h8 := z_fneT h9; omega))) (fun c_448 => ?_)
          have b_449 := z_feqF c_448
          refine lv_aload_n hx hb dX12_readKey_136 rfl (lv_at hl 0 rfl) ?_
          refine lv_bipush (v := 59) hx hb dX12_readKey_137 (by decide) ?_
          refine z_callVi (As := [.int 59]) (rest := []) (wr := [(a_isOn, .inl (cA.1 3, 10, .inl g_isOn)), (a_tape, .inl (cA.1 2, 900, .inl g_tape)), (a_c, .inl (cA.1 0, 1825, .inl g_189)), (a_words, .inl (cA.1 1, 105, .inr (.inl n_9)))]) ⟨hx, hb, hml, hown, hts⟩ hK hE hT hP hD hS hA (r_isSign l G cA h0 m_status m_thrown m_above m_under a_traySort a_trayMany a_numbers a_tape m_taped m_textEnd m_faultKind m_faultAt n_1 n_2 v_183 v_184 v_185 v_186 v_187 v_188 a_c a_words m_markMany a_there a_tried a_best a_found m_thereMany m_foundMany m_orderHow m_orderRing m_orderMany m_hasBest m_bestTop m_bestBy a_weights a_shared m_random m_truePlace m_trueWay m_seconds m_done m_feelings m_tries m_leftOver m_playDoor m_playRing m_isOpen m_isOver m_wasTried m_hasPlayed a_feltNow a_last a_kept m_hasSeconds m_hasTurned m_hasRound a_hasFeels a_isOn m_firstAct m_meanTop m_meanBy a_order m_rowMany m_newSteps 59 hr_v_183 hr_v_186) lk_RX12_220 ⟨rfl, rfl⟩ ⟨Nat.le_of_ble_eq_true rfl, Nat.le_of_ble_eq_true rfl⟩ 12 rfl rfl rfl [1] [0, 2, 3, 4] rfl rfl (by decide) rfl hl.1 rfl (lv_room (Nat.le_of_ble_eq_true rfl)) dX12_readKey_139 ⟨Nat.le_of_ble_eq_true rfl, Nat.le_of_ble_eq_true rfl⟩ (fun r_450 u_451 H locs hw hP hD hS => ?_)
          obtain ⟨he_r_450, hw⟩ := hw
          rcases hw with ⟨rfl, hf_453⟩ | ⟨rfl, hf_454⟩
          · skip
            refine lv_if_eq (tgt := 167) hx hb dX12_readKey_142 (by decide) (fun _ => ?_) (fun h9 => absurd (by decide +kernel) h9)
            refine lv_aload_n hx hb dX12_readKey_167 rfl (lv_at hl 0 rfl) ?_
            refine va_get (D := G) (ci := 12) (v := .int n_1) (C := RX12) (T := TX12) (N := 65) hx hb hts inT12 hown hK hP 4 rfl rfl 12 (by decide) (hts _ tw_1897) (fun _ h9 => h9) rfl dX12_readKey_168 ?_
            refine lv_if_le (tgt := 175) hx hb dX12_readKey_171 (by decide) (fun c_455 => ?_) (fun h9 => (z_no (by have h8 := z_fgtF h9; omega)))
            have b_456 := z_fleT c_455
            refine lv_aload_n hx hb dX12_readKey_175 rfl (lv_at hl 0 rfl) ?_
            refine va_get (D := G) (ci := 12) (v := .ref a_isOn) (C := RX12) (T := TX12) (N := 65) hx hb hts inT12 hown hK hP 4 rfl rfl 58 (by decide) (hts _ tw_1941) (fun _ h9 => h9) rfl dX12_readKey_176 ?_
            refine lv_iload_n hx hb dX12_readKey_179 rfl (lv_at hl 1 rfl) ?_
            refine lv_iconst (v := 0) hx hb dX12_readKey_180 (by decide) ?_
            refine z_zast hx hb hK hP hD hS 0 3 rfl rfl (z_inN (by omega) (by omega)) dX12_readKey_181 (fun g_457 hg_g_457 H locs hP hD hS => ?_)
            have hC_g_457 := z_rgZ hC_g_isOn hg_g_457 (Or.inl rfl)
            have hs_458 : zNw g_189 g_457 := (zNw_on0 hs_285 hC_g_189.1 hg_g_457 (by omega) (by omega))
            refine lv_aload_n hx hb dX12_readKey_182 rfl (lv_at hl 0 rfl) ?_
            refine va_get (D := G) (ci := 12) (v := .ref a_c) (C := RX12) (T := TX12) (N := 65) hx hb hts inT12 hown hK hP 4 rfl rfl 20 (by decide) (hts _ tw_1905) (fun _ h9 => h9) rfl dX12_readKey_183 ?_
            refine lv_sipush (v := 1610) hx hb dX12_readKey_186 (by decide) ?_
            refine lv_iload_n hx hb dX12_readKey_189 rfl (lv_at hl 1 rfl) ?_
            refine lv_iadd hx hb dX12_readKey_190 ?_
            refine lv_topi (fun x_459 he_x_459 => ?_)
            have hq_x_459 := z_addq he_x_459 hk_1610 (rfl : r_10.toInt = _) (by omega) (by omega)
            refine lv_iconst (v := 0) hx hb dX12_readKey_191 (by decide) ?_
            refine z_iast hx hb hK hP hD hS 2 0 rfl rfl (z_inN (by omega) (by omega)) dX12_readKey_192 (fun g_460 hg_g_460 H locs hP hD hS => ?_)
            have hC_g_460 := z_ctU hC_g_189 hg_g_460 (a := 1610) (b := 1619) (lo := 0) (hi := 1) (by decide +kernel) (by decide +kernel) (by omega) (by omega) (by decide +kernel)
            have hw_g_460_1460 := z_cwo hg_g_460 (k := 1460) (by omega) (by omega)
            have hw_g_460_1461 := z_cwo hg_g_460 (k := 1461) (by omega) (by omega)
            have hs_461 : zNw g_460 g_457 := (zNw_fr hs_458 hg_g_460 (a := 1610) (b := 1619) (by decide +kernel) (by omega) (by omega))
            have hs_462 : zNf g_460 := (zNf_fr hs_286 hg_g_460 (a := 1610) (b := 1619) (by decide +kernel) (by omega) (by omega))
            refine lv_aload_n hx hb dX12_readKey_193 rfl (lv_at hl 0 rfl) ?_
            refine va_get (D := G) (ci := 12) (v := .ref a_c) (C := RX12) (T := TX12) (N := 65) hx hb hts inT12 hown hK hP 4 rfl rfl 20 (by decide) (hts _ tw_1905) (fun _ h9 => h9) rfl dX12_readKey_194 ?_
            refine lv_sipush (v := 1461) hx hb dX12_readKey_197 (by decide) ?_
            refine lv_dup2_11 hx hb dX12_readKey_200 rfl rfl ?_
            refine va_iald hx hb hK hP 2 0 rfl rfl (z_in (i := 1461) (n := 1825) (by decide +kernel) (by decide +kernel)) dX12_readKey_201 ?_
            refine lv_topi (fun x_463 he_x_463 => ?_)
            have hr_x_463 := z_ctk hC_g_460 he_x_463 (k := 1461) (lo := 0) (hi := 10) (by decide +kernel) (by decide +kernel) (by decide +kernel)
            have hv_x_463 := z_cv he_x_463 (k := 1461) (by decide +kernel)
            refine lv_iconst (v := 1) hx hb dX12_readKey_202 (by decide) ?_
            refine lv_iadd hx hb dX12_readKey_203 ?_
            refine lv_topi (fun x_464 he_x_464 => ?_)
            have hq_x_464 := z_addq he_x_464 (rfl : x_463.toInt = _) hk_1 (by omega) (by omega)
            refine z_iast hx hb hK hP hD hS 2 0 rfl rfl (z_in (i := 1461) (n := 1825) (by decide +kernel) (by decide +kernel)) dX12_readKey_204 (fun g_465 hg_g_465 H locs hP hD hS => ?_)
            have hC_g_465 := z_ctUk hC_g_460 hg_g_465 (k := 1461) (lo := 0) (hi := 10) (by decide +kernel) (by decide +kernel) (by decide +kernel) (by omega)
            have hw_g_465_1460 := z_cwo hg_g_465 (k := 1460) (by decide +kernel) (by decide +kernel)
            have hw_g_465_1461 := z_cwk hg_g_465 (k := 1461) (by decide +kernel)
            have hs_466 : zNw g_465 g_457 := (zNw_ke hs_461 hg_g_465 (by decide +kernel) (by omega))
            have hs_467 : zNf g_465 := (zNf_fr hs_462 hg_g_465 (a := 1461) (b := 1461) (by decide +kernel) (by decide +kernel) (by decide +kernel))
            have hpost : (0 ≤ n_1.toInt ∧ n_1.toInt ≤ 9) ∧ (0 ≤ v_183.toInt ∧ v_183.toInt ≤ 4) ∧ (0 ≤ v_184.toInt ∧ v_184.toInt ≤ 900) ∧ (0 ≤ v_185.toInt ∧ v_185.toInt ≤ 900) ∧ (0 ≤ v_186.toInt ∧ v_186.toInt ≤ 9999) ∧ (0 ≤ v_187.toInt ∧ v_187.toInt ≤ 900) ∧ (zC g_465) ∧ (zRg 10 0 1 g_457) ∧ (zNw g_465 g_457) ∧ (m_behind.toInt ≤ v_185.toInt) ∧ (0 < m_bad.toInt → 0 < n_1.toInt) ∧ (n_1.toInt ≤ 0 → v_183.toInt = 0 ∨ m_behind.toInt < v_185.toInt) ∧ (n_1.toInt ≤ 0 → v_183.toInt = 3 → v_186.toInt = 59 → zNf g_465) := ⟨hr_n_1, hr_v_183, hr_v_184, hr_v_185, hr_v_186, hr_v_187, hC_g_465, hC_g_457, hs_466, (by omega), (by omega), (by omega), (fun _ _ _ => hs_467)⟩
            have hX_468 : F_r_readKey m_textEnd m_bad m_badAt m_token m_at m_behind m_number m_letters m_word g_tape g_c g_words g_isOn = ((n_1, n_2, v_183, v_184, v_185, v_186, v_187, v_188, n_9, g_465, g_457) : Int32 × Int32 × Int32 × Int32 × Int32 × Int32 × Int32 × Int64 × (Nat → Int64) × (Nat → Int32) × (Nat → Int32)) := by
              refine hF_L11a.trans ?_
              refine (F_r_readKey_L11a_s ..).trans ?_
              refine (if_pos c_438).trans ?_
              refine (if_neg c_446).trans ?_
              extract_lets -merge -useContext +onlyGivenNames w9 y9; have e9 : (0 : Int32) = w9 := he_r_450; clear_value w9; subst e9
              refine (if_pos rfl).trans ?_
              try (extract_lets -merge -useContext +onlyGivenNames y9; have e9 : g_457 = y9 := (by first | exact hg_g_457 | exact hg_g_457.symm); clear_value y9; subst e9)
              try (extract_lets -merge -useContext +onlyGivenNames y9; have e9 : x_459 = y9 := (by first | exact he_x_459 | exact he_x_459.symm); clear_value y9; subst e9)
              try (extract_lets -merge -useContext +onlyGivenNames y9; have e9 : g_460 = y9 := (by first | exact hg_g_460 | exact hg_g_460.symm); clear_value y9; subst e9)
              try (extract_lets -merge -useContext +onlyGivenNames y9; have e9 : x_463 = y9 := (by first | exact he_x_463 | exact he_x_463.symm); clear_value y9; subst e9)
              try (extract_lets -merge -useContext +onlyGivenNames y9; have e9 : x_464 = y9 := (by first | exact he_x_464 | exact he_x_464.symm); clear_value y9; subst e9)
              try (extract_lets -merge -useContext +onlyGivenNames y9; have e9 : g_465 = y9 := (by first | exact hg_g_465 | exact hg_g_465.symm); clear_value y9; subst e9)
              exact rfl
            exact hret _ _ _ _ _ (n_1, n_2, v_183, v_184, v_185, v_186, v_187, v_188, n_9, g_465, g_457) [4, 1, 2, 3, 0] hP hD hS rfl (by decide) dX12_readKey_205 ⟨(congrArg (fun z9 => z9.1) hX_468).symm, (congrArg (fun z9 => z9.2.1) hX_468).symm, (congrArg (fun z9 => z9.2.2.1) hX_468).symm, (congrArg (fun z9 => z9.2.2.2.1) hX_468).symm, (congrArg (fun z9 => z9.2.2.2.2.1) hX_468).symm, (congrArg (fun z9 => z9.2.2.2.2.2.1) hX_468).symm, (congrArg (fun z9 => z9.2.2.2.2.2.2.1) hX_468).symm, (congrArg (fun z9 => z9.2.2.2.2.2.2.2.1) hX_468).symm, (congrArg (fun z9 => z9.2.2.2.2.2.2.2.2.1) hX_468).symm, (congrArg (fun z9 => z9.2.2.2.2.2.2.2.2.2.1) hX_468).symm, (congrArg (fun z9 => z9.2.2.2.2.2.2.2.2.2.2) hX_468).symm, hpost⟩
          · skip
            refine lv_if_eq (tgt := 167) hx hb dX12_readKey_142 (by decide) (fun h9 => absurd h9 (by decide +kernel)) (fun _ => ?_)
            refine lv_iload_n hx hb dX12_readKey_145 rfl (lv_at hl 2 rfl) ?_
            refine lv_aload_n hx hb dX12_readKey_146 rfl (lv_at hl 0 rfl) ?_
            refine va_get (D := G) (ci := 12) (v := .ref a_c) (C := RX12) (T := TX12) (N := 65) hx hb hts inT12 hown hK hP 4 rfl rfl 20 (by decide) (hts _ tw_1905) (fun _ h9 => h9) rfl dX12_readKey_147 ?_
            refine lv_sipush (v := 1460) hx hb dX12_readKey_150 (by decide) ?_
            refine va_iald hx hb hK hP 2 0 rfl rfl (z_in (i := 1460) (n := 1825) (by decide +kernel) (by decide +kernel)) dX12_readKey_153 ?_
            refine lv_topi (fun x_469 he_x_469 => ?_)
            have hr_x_469 := z_ctk hC_g_189 he_x_469 (k := 1460) (lo := 0) (hi := 3) (by decide +kernel) (by decide +kernel) (by decide +kernel)
            have hv_x_469 := z_cv he_x_469 (k := 1460) (by decide +kernel)
            refine lv_icmp_ge (tgt := 167) hx hb dX12_readKey_154 (by decide) (fun c_470 => ?_) (fun c_470 => ?_)
            · have b_471 := z_fgeT c_470
              refine lv_aload_n hx hb dX12_readKey_167 rfl (lv_at hl 0 rfl) ?_
              refine va_get (D := G) (ci := 12) (v := .int n_1) (C := RX12) (T := TX12) (N := 65) hx hb hts inT12 hown hK hP 4 rfl rfl 12 (by decide) (hts _ tw_1897) (fun _ h9 => h9) rfl dX12_readKey_168 ?_
              refine lv_if_le (tgt := 175) hx hb dX12_readKey_171 (by decide) (fun c_472 => ?_) (fun h9 => (z_no (by have h8 := z_fgtF h9; omega)))
              have b_473 := z_fleT c_472
              refine lv_aload_n hx hb dX12_readKey_175 rfl (lv_at hl 0 rfl) ?_
              refine va_get (D := G) (ci := 12) (v := .ref a_isOn) (C := RX12) (T := TX12) (N := 65) hx hb hts inT12 hown hK hP 4 rfl rfl 58 (by decide) (hts _ tw_1941) (fun _ h9 => h9) rfl dX12_readKey_176 ?_
              refine lv_iload_n hx hb dX12_readKey_179 rfl (lv_at hl 1 rfl) ?_
              refine lv_iconst (v := 0) hx hb dX12_readKey_180 (by decide) ?_
              refine z_zast hx hb hK hP hD hS 0 3 rfl rfl (z_inN (by omega) (by omega)) dX12_readKey_181 (fun g_474 hg_g_474 H locs hP hD hS => ?_)
              have hC_g_474 := z_rgZ hC_g_isOn hg_g_474 (Or.inl rfl)
              have hs_475 : zNw g_189 g_474 := (zNw_on0 hs_285 hC_g_189.1 hg_g_474 (by omega) (by omega))
              refine lv_aload_n hx hb dX12_readKey_182 rfl (lv_at hl 0 rfl) ?_
              refine va_get (D := G) (ci := 12) (v := .ref a_c) (C := RX12) (T := TX12) (N := 65) hx hb hts inT12 hown hK hP 4 rfl rfl 20 (by decide) (hts _ tw_1905) (fun _ h9 => h9) rfl dX12_readKey_183 ?_
              refine lv_sipush (v := 1610) hx hb dX12_readKey_186 (by decide) ?_
              refine lv_iload_n hx hb dX12_readKey_189 rfl (lv_at hl 1 rfl) ?_
              refine lv_iadd hx hb dX12_readKey_190 ?_
              refine lv_topi (fun x_476 he_x_476 => ?_)
              have hq_x_476 := z_addq he_x_476 hk_1610 (rfl : r_10.toInt = _) (by omega) (by omega)
              refine lv_iconst (v := 0) hx hb dX12_readKey_191 (by decide) ?_
              refine z_iast hx hb hK hP hD hS 2 0 rfl rfl (z_inN (by omega) (by omega)) dX12_readKey_192 (fun g_477 hg_g_477 H locs hP hD hS => ?_)
              have hC_g_477 := z_ctU hC_g_189 hg_g_477 (a := 1610) (b := 1619) (lo := 0) (hi := 1) (by decide +kernel) (by decide +kernel) (by omega) (by omega) (by decide +kernel)
              have hw_g_477_1460 := z_cwo hg_g_477 (k := 1460) (by omega) (by omega)
              have hw_g_477_1461 := z_cwo hg_g_477 (k := 1461) (by omega) (by omega)
              have hs_478 : zNw g_477 g_474 := (zNw_fr hs_475 hg_g_477 (a := 1610) (b := 1619) (by decide +kernel) (by omega) (by omega))
              have hs_479 : zNf g_477 := (zNf_fr hs_286 hg_g_477 (a := 1610) (b := 1619) (by decide +kernel) (by omega) (by omega))
              refine lv_aload_n hx hb dX12_readKey_193 rfl (lv_at hl 0 rfl) ?_
              refine va_get (D := G) (ci := 12) (v := .ref a_c) (C := RX12) (T := TX12) (N := 65) hx hb hts inT12 hown hK hP 4 rfl rfl 20 (by decide) (hts _ tw_1905) (fun _ h9 => h9) rfl dX12_readKey_194 ?_
              refine lv_sipush (v := 1461) hx hb dX12_readKey_197 (by decide) ?_
              refine lv_dup2_11 hx hb dX12_readKey_200 rfl rfl ?_
              refine va_iald hx hb hK hP 2 0 rfl rfl (z_in (i := 1461) (n := 1825) (by decide +kernel) (by decide +kernel)) dX12_readKey_201 ?_
              refine lv_topi (fun x_480 he_x_480 => ?_)
              have hr_x_480 := z_ctk hC_g_477 he_x_480 (k := 1461) (lo := 0) (hi := 10) (by decide +kernel) (by decide +kernel) (by decide +kernel)
              have hv_x_480 := z_cv he_x_480 (k := 1461) (by decide +kernel)
              refine lv_iconst (v := 1) hx hb dX12_readKey_202 (by decide) ?_
              refine lv_iadd hx hb dX12_readKey_203 ?_
              refine lv_topi (fun x_481 he_x_481 => ?_)
              have hq_x_481 := z_addq he_x_481 (rfl : x_480.toInt = _) hk_1 (by omega) (by omega)
              refine z_iast hx hb hK hP hD hS 2 0 rfl rfl (z_in (i := 1461) (n := 1825) (by decide +kernel) (by decide +kernel)) dX12_readKey_204 (fun g_482 hg_g_482 H locs hP hD hS => ?_)
              have hC_g_482 := z_ctUk hC_g_477 hg_g_482 (k := 1461) (lo := 0) (hi := 10) (by decide +kernel) (by decide +kernel) (by decide +kernel) (by omega)
              have hw_g_482_1460 := z_cwo hg_g_482 (k := 1460) (by decide +kernel) (by decide +kernel)
              have hw_g_482_1461 := z_cwk hg_g_482 (k := 1461) (by decide +kernel)
              have hs_483 : zNw g_482 g_474 := (zNw_ke hs_478 hg_g_482 (by decide +kernel) (by omega))
              have hs_484 : zNf g_482 := (zNf_fr hs_479 hg_g_482 (a := 1461) (b := 1461) (by decide +kernel) (by decide +kernel) (by decide +kernel))
              have hpost : (0 ≤ n_1.toInt ∧ n_1.toInt ≤ 9) ∧ (0 ≤ v_183.toInt ∧ v_183.toInt ≤ 4) ∧ (0 ≤ v_184.toInt ∧ v_184.toInt ≤ 900) ∧ (0 ≤ v_185.toInt ∧ v_185.toInt ≤ 900) ∧ (0 ≤ v_186.toInt ∧ v_186.toInt ≤ 9999) ∧ (0 ≤ v_187.toInt ∧ v_187.toInt ≤ 900) ∧ (zC g_482) ∧ (zRg 10 0 1 g_474) ∧ (zNw g_482 g_474) ∧ (m_behind.toInt ≤ v_185.toInt) ∧ (0 < m_bad.toInt → 0 < n_1.toInt) ∧ (n_1.toInt ≤ 0 → v_183.toInt = 0 ∨ m_behind.toInt < v_185.toInt) ∧ (n_1.toInt ≤ 0 → v_183.toInt = 3 → v_186.toInt = 59 → zNf g_482) := ⟨hr_n_1, hr_v_183, hr_v_184, hr_v_185, hr_v_186, hr_v_187, hC_g_482, hC_g_474, hs_483, (by omega), (by omega), (by omega), (fun _ _ _ => hs_484)⟩
              have hX_485 : F_r_readKey m_textEnd m_bad m_badAt m_token m_at m_behind m_number m_letters m_word g_tape g_c g_words g_isOn = ((n_1, n_2, v_183, v_184, v_185, v_186, v_187, v_188, n_9, g_482, g_474) : Int32 × Int32 × Int32 × Int32 × Int32 × Int32 × Int32 × Int64 × (Nat → Int64) × (Nat → Int32) × (Nat → Int32)) := by
                refine hF_L11a.trans ?_
                refine (F_r_readKey_L11a_s ..).trans ?_
                refine (if_pos c_438).trans ?_
                refine (if_neg c_446).trans ?_
                extract_lets -merge -useContext +onlyGivenNames w9 y9; have e9 : (1 : Int32) = w9 := he_r_450; clear_value w9; subst e9
                refine (if_neg (show ¬ (1 : Int32) = 0 by decide)).trans ?_
                try (extract_lets -merge -useContext +onlyGivenNames y9; have e9 : x_469 = y9 := (by first | exact he_x_469 | exact he_x_469.symm); clear_value y9; subst e9)
                refine (if_pos c_470).trans ?_
                try (extract_lets -merge -useContext +onlyGivenNames y9; have e9 : g_474 = y9 := (by first | exact hg_g_474 | exact hg_g_474.symm); clear_value y9; subst e9)
                try (extract_lets -merge -useContext +onlyGivenNames y9; have e9 : x_476 = y9 := (by first | exact he_x_476 | exact he_x_476.symm); clear_value y9; subst e9)
                try (extract_lets -merge -useContext +onlyGivenNames y9; have e9 : g_477 = y9 := (by first | exact hg_g_477 | exact hg_g_477.symm); clear_value y9; subst e9)
                try (extract_lets -merge -useContext +onlyGivenNames y9; have e9 : x_480 = y9 := (by first | exact he_x_480 | exact he_x_480.symm); clear_value y9; subst e9)
                try (extract_lets -merge -useContext +onlyGivenNames y9; have e9 : x_481 = y9 := (by first | exact he_x_481 | exact he_x_481.symm); clear_value y9; subst e9)
                try (extract_lets -merge -useContext +onlyGivenNames y9; have e9 : g_482 = y9 := (by first | exact hg_g_482 | exact hg_g_482.symm); clear_value y9; subst e9)
                exact rfl
              exact hret _ _ _ _ _ (n_1, n_2, v_183, v_184, v_185, v_186, v_187, v_188, n_9, g_482, g_474) [4, 1, 2, 3, 0] hP hD hS rfl (by decide) dX12_readKey_205 ⟨(congrArg (fun z9 => z9.1) hX_485).symm, (congrArg (fun z9 => z9.2.1) hX_485).symm, (congrArg (fun z9 => z9.2.2.1) hX_485).symm, (congrArg (fun z9 => z9.2.2.2.1) hX_485).symm, (congrArg (fun z9 => z9.2.2.2.2.1) hX_485).symm, (congrArg (fun z9 => z9.2.2.2.2.2.1) hX_485).symm, (congrArg (fun z9 => z9.2.2.2.2.2.2.1) hX_485).symm, (congrArg (fun z9 => z9.2.2.2.2.2.2.2.1) hX_485).symm, (congrArg (fun z9 => z9.2.2.2.2.2.2.2.2.1) hX_485).symm, (congrArg (fun z9 => z9.2.2.2.2.2.2.2.2.2.1) hX_485).symm, (congrArg (fun z9 => z9.2.2.2.2.2.2.2.2.2.2) hX_485).symm, hpost⟩
            · have b_486 := z_fltF c_470
              refine lv_aload_n hx hb dX12_readKey_157 rfl (lv_at hl 0 rfl) ?_
              refine lv_bipush (v := 8) hx hb dX12_readKey_158 (by decide) ?_
              refine lv_aload_n hx hb dX12_readKey_160 rfl (lv_at hl 0 rfl) ?_
              refine va_get (D := G) (ci := 12) (v := .int v_184) (C := RX12) (T := TX12) (N := 65) hx hb hts inT12 hown hK hP 4 rfl rfl 15 (by decide) (hts _ tw_1900) (fun _ h9 => h9) rfl dX12_readKey_161 ?_
              refine z_callVv (As := [.int 8, .int v_184]) (rest := []) (wr := [(a_isOn, .inl (cA.1 3, 10, .inl g_isOn)), (a_tape, .inl (cA.1 2, 900, .inl g_tape)), (a_c, .inl (cA.1 0, 1825, .inl g_189)), (a_words, .inl (cA.1 1, 105, .inr (.inl n_9)))]) ⟨hx, hb, hml, hown, hts⟩ hK hE hT hP hD hS hA (r_fail l G cA h0 m_status m_thrown m_above m_under a_traySort a_trayMany a_numbers a_tape m_taped m_textEnd m_faultKind m_faultAt n_1 n_2 v_183 v_184 v_185 v_186 v_187 v_188 a_c a_words m_markMany a_there a_tried a_best a_found m_thereMany m_foundMany m_orderHow m_orderRing m_orderMany m_hasBest m_bestTop m_bestBy a_weights a_shared m_random m_truePlace m_trueWay m_seconds m_done m_feelings m_tries m_leftOver m_playDoor m_playRing m_isOpen m_isOver m_wasTried m_hasPlayed a_feltNow a_last a_kept m_hasSeconds m_hasTurned m_hasRound a_hasFeels a_isOn m_firstAct m_meanTop m_meanBy a_order m_rowMany m_newSteps 8 v_184 (by decide +kernel) hr_n_1) lk_RX12_180 ⟨rfl, rfl⟩ ⟨Nat.le_of_ble_eq_true rfl, Nat.le_of_ble_eq_true rfl⟩ 12 rfl rfl rfl [4] [0, 1, 2, 3] rfl rfl (by decide) rfl hl.1 rfl (lv_room (Nat.le_of_ble_eq_true rfl)) dX12_readKey_164 ⟨Nat.le_of_ble_eq_true rfl, Nat.le_of_ble_eq_true rfl⟩ (fun u_490 H locs hw hP hD hS => ?_)
              obtain ⟨n_487, n_488⟩ := u_490
              try dsimp only at hw
              obtain ⟨he_n_487, he_n_488, hw⟩ := hw
              obtain ⟨hr_n_487, hf_492⟩ := hw
              refine lv_aload_n hx hb dX12_readKey_167 rfl (lv_at hl 0 rfl) ?_
              refine va_get (D := G) (ci := 12) (v := .int n_487) (C := RX12) (T := TX12) (N := 65) hx hb hts inT12 hown hK hP 4 rfl rfl 12 (by decide) (hts _ tw_1897) (fun _ h9 => h9) rfl dX12_readKey_168 ?_
              refine lv_if_le (tgt := 175) hx hb dX12_readKey_171 (by decide) (fun h9 => (z_no (by have h8 := z_fleT h9; omega))) (fun c_493 => ?_)
              have b_494 := z_fgtF c_493
              have hpost : (0 ≤ n_487.toInt ∧ n_487.toInt ≤ 9) ∧ (0 ≤ v_183.toInt ∧ v_183.toInt ≤ 4) ∧ (0 ≤ v_184.toInt ∧ v_184.toInt ≤ 900) ∧ (0 ≤ v_185.toInt ∧ v_185.toInt ≤ 900) ∧ (0 ≤ v_186.toInt ∧ v_186.toInt ≤ 9999) ∧ (0 ≤ v_187.toInt ∧ v_187.toInt ≤ 900) ∧ (zC g_189) ∧ (zRg 10 0 1 g_isOn) ∧ (zNw g_189 g_isOn) ∧ (m_behind.toInt ≤ v_185.toInt) ∧ (0 < m_bad.toInt → 0 < n_487.toInt) ∧ (n_487.toInt ≤ 0 → v_183.toInt = 0 ∨ m_behind.toInt < v_185.toInt) ∧ (n_487.toInt ≤ 0 → v_183.toInt = 3 → v_186.toInt = 59 → zNf g_189) := ⟨(z_rgw hr_n_487 (by decide) (by decide)), hr_v_183, hr_v_184, hr_v_185, hr_v_186, hr_v_187, hC_g_189, hC_g_isOn, hs_285, (by omega), (by omega), (by omega), (fun _ _ _ => hs_286)⟩
              have hX_495 : F_r_readKey m_textEnd m_bad m_badAt m_token m_at m_behind m_number m_letters m_word g_tape g_c g_words g_isOn = ((n_487, n_488, v_183, v_184, v_185, v_186, v_187, v_188, n_9, g_189, g_isOn) : Int32 × Int32 × Int32 × Int32 × Int32 × Int32 × Int32 × Int64 × (Nat → Int64) × (Nat → Int32) × (Nat → Int32)) := by
                refine hF_L11a.trans ?_
                refine (F_r_readKey_L11a_s ..).trans ?_
                refine (if_pos c_438).trans ?_
                refine (if_neg c_446).trans ?_
                extract_lets -merge -useContext +onlyGivenNames w9 y9; have e9 : (1 : Int32) = w9 := he_r_450; clear_value w9; subst e9
                refine (if_neg (show ¬ (1 : Int32) = 0 by decide)).trans ?_
                try (extract_lets -merge -useContext +onlyGivenNames y9; have e9 : x_469 = y9 := (by first | exact he_x_469 | exact he_x_469.symm); clear_value y9; subst e9)
                refine (if_neg c_470).trans ?_
                extract_lets -merge -useContext +onlyGivenNames w9 y6_0 y6_1; have e9 : (n_487, n_488) = w9 := ((z_tS he_n_487 he_n_488.symm)).symm; clear_value w9; subst e9
                exact rfl
              exact hret _ _ _ _ _ (n_487, n_488, v_183, v_184, v_185, v_186, v_187, v_188, n_9, g_189, g_isOn) [4, 1, 2, 3, 0] hP hD hS rfl (by decide) dX12_readKey_174 ⟨(congrArg (fun z9 => z9.1) hX_495).symm, (congrArg (fun z9 => z9.2.1) hX_495).symm, (congrArg (fun z9 => z9.2.2.1) hX_495).symm, (congrArg (fun z9 => z9.2.2.2.1) hX_495).symm, (congrArg (fun z9 => z9.2.2.2.2.1) hX_495).symm, (congrArg (fun z9 => z9.2.2.2.2.2.1) hX_495).symm, (congrArg (fun z9 => z9.2.2.2.2.2.2.1) hX_495).symm, (congrArg (fun z9 => z9.2.2.2.2.2.2.2.1) hX_495).symm, (congrArg (fun z9 => z9.2.2.2.2.2.2.2.2.1) hX_495).symm, (congrArg (fun z9 => z9.2.2.2.2.2.2.2.2.2.1) hX_495).symm, (congrArg (fun z9 => z9.2.2.2.2.2.2.2.2.2.2) hX_495).symm, hpost⟩
        · have b_496 := z_feqF c_446
          refine lv_iload_n hx hb dX12_readKey_26 rfl (lv_at hl 2 rfl) ?_
          refine lv_aload_n hx hb dX12_readKey_27 rfl (lv_at hl 0 rfl) ?_
          refine va_get (D := G) (ci := 12) (v := .ref a_c) (C := RX12) (T := TX12) (N := 65) hx hb hts inT12 hown hK hP 1 rfl rfl 20 (by decide) (hts _ tw_1905) (fun _ h9 => h9) rfl dX12_readKey_28 ?_
          refine lv_sipush (v := 1460) hx hb dX12_readKey_31 (by decide) ?_
          refine va_iald hx hb hK hP 3 0 rfl rfl (z_in (i := 1460) (n := 1825) (by decide +kernel) (by decide +kernel)) dX12_readKey_34 ?_
          refine lv_topi (fun x_497 he_x_497 => ?_)
          have hr_x_497 := z_ctk hC_g_189 he_x_497 (k := 1460) (lo := 0) (hi := 3) (by decide +kernel) (by decide +kernel) (by decide +kernel)
          have hv_x_497 := z_cv he_x_497 (k := 1460) (by decide +kernel)
          refine lv_icmp_ge (tgt := 64) hx hb dX12_readKey_35 (by decide) (fun c_498 => ?_) (fun c_498 => ?_)
          · have b_499 := z_fgeT c_498
            refine lv_aload_n hx hb dX12_readKey_64 rfl (lv_at hl 0 rfl) ?_
            refine va_get (D := G) (ci := 12) (v := .int n_1) (C := RX12) (T := TX12) (N := 65) hx hb hts inT12 hown hK hP 1 rfl rfl 12 (by decide) (hts _ tw_1897) (fun _ h9 => h9) rfl dX12_readKey_65 ?_
            refine lv_if_ne (tgt := 93) hx hb dX12_readKey_68 (by decide) (fun h9 => (z_no (by have h8 := z_fneT h9; omega))) (fun c_500 => ?_)
            have b_501 := z_feqF c_500
            refine lv_iload_n hx hb dX12_readKey_71 rfl (lv_at hl 2 rfl) ?_
            refine lv_aload_n hx hb dX12_readKey_72 rfl (lv_at hl 0 rfl) ?_
            refine va_get (D := G) (ci := 12) (v := .ref a_c) (C := RX12) (T := TX12) (N := 65) hx hb hts inT12 hown hK hP 1 rfl rfl 20 (by decide) (hts _ tw_1905) (fun _ h9 => h9) rfl dX12_readKey_73 ?_
            refine lv_sipush (v := 1460) hx hb dX12_readKey_76 (by decide) ?_
            refine va_iald hx hb hK hP 3 0 rfl rfl (z_in (i := 1460) (n := 1825) (by decide +kernel) (by decide +kernel)) dX12_readKey_79 ?_
            refine lv_topi (fun x_502 he_x_502 => ?_)
            have hr_x_502 := z_ctk hC_g_189 he_x_502 (k := 1460) (lo := 0) (hi := 3) (by decide +kernel) (by decide +kernel) (by decide +kernel)
            have hv_x_502 := z_cv he_x_502 (k := 1460) (by decide +kernel)
            refine lv_icmp_ne (tgt := 93) hx hb dX12_readKey_80 (by decide) (fun c_503 => ?_) (fun c_503 => ?_)
            · have b_504 := z_fneT c_503
              refine lv_aload_n hx hb dX12_readKey_93 rfl (lv_at hl 0 rfl) ?_
              refine va_get (D := G) (ci := 12) (v := .int n_1) (C := RX12) (T := TX12) (N := 65) hx hb hts inT12 hown hK hP 1 rfl rfl 12 (by decide) (hts _ tw_1897) (fun _ h9 => h9) rfl dX12_readKey_94 ?_
              refine lv_if_le (tgt := 101) hx hb dX12_readKey_97 (by decide) (fun c_505 => ?_) (fun h9 => (z_no (by have h8 := z_fgtF h9; omega)))
              have b_506 := z_fleT c_505
              have hn_k_507 : 0 ≤ v_182.toInt ∧ v_182.toInt ≤ 2 := by omega
              refine lv_aload_n hx hb dX12_readKey_101 rfl (lv_at hl 0 rfl) ?_
              refine va_get (D := G) (ci := 12) (v := .ref a_c) (C := RX12) (T := TX12) (N := 65) hx hb hts inT12 hown hK hP 1 rfl rfl 20 (by decide) (hts _ tw_1905) (fun _ h9 => h9) rfl dX12_readKey_102 ?_
              refine lv_sipush (v := 1525) hx hb dX12_readKey_105 (by decide) ?_
              refine lv_iconst (v := 3) hx hb dX12_readKey_108 (by decide) ?_
              refine lv_iload_n hx hb dX12_readKey_109 rfl (lv_at hl 1 rfl) ?_
              refine lv_imul hx hb dX12_readKey_110 ?_
              refine lv_topi (fun x_508 he_x_508 => ?_)
              have hq_x_508 := z_mulq he_x_508 hk_3 (rfl : r_10.toInt = _) (by omega) (by omega)
              refine lv_iadd hx hb dX12_readKey_111 ?_
              refine lv_topi (fun x_509 he_x_509 => ?_)
              have hq_x_509 := z_addq he_x_509 hk_1525 (rfl : x_508.toInt = _) (by omega) (by omega)
              refine lv_iload_n hx hb dX12_readKey_112 rfl (lv_at hl 2 rfl) ?_
              refine lv_iadd hx hb dX12_readKey_113 ?_
              refine lv_topi (fun x_510 he_x_510 => ?_)
              have hq_x_510 := z_addq he_x_510 (rfl : x_509.toInt = _) (rfl : v_182.toInt = _) (by omega) (by omega)
              refine lv_aload_n hx hb dX12_readKey_114 rfl (lv_at hl 0 rfl) ?_
              refine va_get (D := G) (ci := 12) (v := .int v_186) (C := RX12) (T := TX12) (N := 65) hx hb hts inT12 hown hK hP 1 rfl rfl 17 (by decide) (hts _ tw_1902) (fun _ h9 => h9) rfl dX12_readKey_115 ?_
              refine z_iast hx hb hK hP hD hS 3 0 rfl rfl (z_inN (by omega) (by omega)) dX12_readKey_118 (fun g_511 hg_g_511 H locs hP hD hS => ?_)
              have hC_g_511 := z_ctU hC_g_189 hg_g_511 (a := 1525) (b := 1554) (lo := 0) (hi := 3) (by decide +kernel) (by decide +kernel) (by omega) (by omega) (by omega)
              have hw_g_511_1460 := z_cwo hg_g_511 (k := 1460) (by omega) (by omega)
              have hw_g_511_1461 := z_cwo hg_g_511 (k := 1461) (by omega) (by omega)
              have hs_512 : zNw g_511 g_isOn := (z_no (by omega))
              have hs_513 : zNf g_511 := (zNf_fr hs_286 hg_g_511 (a := 1525) (b := 1554) (by decide +kernel) (by omega) (by omega))
              obtain ⟨x_514, he_x_514⟩ : ∃ z : Int32, z = v_182 + 1 := ⟨_, rfl⟩
              have hq_x_514 := z_addq he_x_514 (rfl : v_182.toInt = _) hk_1 (by omega) (by omega)
              refine lv_iinc (v := x_514) (lv' := [(2, .int x_514), (0, .ref h0), (1, .int r_10)]) hx hb dX12_readKey_119 hl (k := 2) rfl ((z_ofi (by decide +kernel)).trans he_x_514.symm) (by decide) rfl (fun ls hl => ?_)
              refine lv_aload_n hx hb dX12_readKey_122 rfl (lv_at hl 1 rfl) ?_
              refine z_callVv (As := []) (rest := []) (wr := [(a_isOn, .inl (cA.1 3, 10, .inl g_isOn)), (a_c, .inl (cA.1 0, 1825, .inl g_511)), (a_words, .inl (cA.1 1, 105, .inr (.inl n_9)))]) ⟨hx, hb, hml, hown, hts⟩ hK hE hT hP hD hS hA (r_next2 l G cA h0 m_status m_thrown m_above m_under a_traySort a_trayMany a_numbers a_tape m_taped m_textEnd m_faultKind m_faultAt n_1 n_2 v_183 v_184 v_185 v_186 v_187 v_188 a_c a_words m_markMany a_there a_tried a_best a_found m_thereMany m_foundMany m_orderHow m_orderRing m_orderMany m_hasBest m_bestTop m_bestBy a_weights a_shared m_random m_truePlace m_trueWay m_seconds m_done m_feelings m_tries m_leftOver m_playDoor m_playRing m_isOpen m_isOver m_wasTried m_hasPlayed a_feltNow a_last a_kept m_hasSeconds m_hasTurned m_hasRound a_hasFeels a_isOn m_firstAct m_meanTop m_meanBy a_order m_rowMany m_newSteps g_tape hr_m_textEnd hr_v_184 hr_v_185 hr_v_183 hr_v_186 hr_v_187) lk_RX12_184 ⟨rfl, rfl⟩ ⟨Nat.le_of_ble_eq_true rfl, Nat.le_of_ble_eq_true rfl⟩ 12 rfl rfl rfl [1, 2] [0, 3, 4] rfl rfl (by decide) rfl hl.1 rfl (lv_room (Nat.le_of_ble_eq_true rfl)) dX12_readKey_123 ⟨Nat.le_of_ble_eq_true rfl, Nat.le_of_ble_eq_true rfl⟩ (fun u_522 H locs hw hP hD hS => ?_)
              obtain ⟨n_515, n_516, n_517, n_518, n_519, n_520⟩ := u_522
              try dsimp only at hw
              obtain ⟨he_n_515, he_n_516, he_n_517, he_n_518, he_n_519, he_n_520, hw⟩ := hw
              obtain ⟨hr_n_515, hr_n_516, hr_n_517, hr_n_518, hr_n_519, hf_524, hf_525⟩ := hw
              refine lv_goto (tgt := 11) hx hb dX12_readKey_126 (by decide) ?_
              have hX_526 : F_r_readKey m_textEnd m_bad m_badAt m_token m_at m_behind m_number m_letters m_word g_tape g_c g_words g_isOn = F_r_readKey_L11a m_textEnd g_tape g_isOn r_10 n_1 n_2 n_9 n_L11a x_514 n_515 n_516 n_517 n_518 n_519 n_520 g_511 := by
                refine hF_L11a.trans ?_
                refine (F_r_readKey_L11a_s ..).trans ?_
                refine (if_pos c_438).trans ?_
                refine (if_pos c_446).trans ?_
                try (extract_lets -merge -useContext +onlyGivenNames y9; have e9 : x_497 = y9 := (by first | exact he_x_497 | exact he_x_497.symm); clear_value y9; subst e9)
                refine (if_pos c_498).trans ?_
                try (extract_lets -merge -useContext +onlyGivenNames y9; have e9 : x_502 = y9 := (by first | exact he_x_502 | exact he_x_502.symm); clear_value y9; subst e9)
                refine (if_neg c_503).trans ?_
                try (extract_lets -merge -useContext +onlyGivenNames y9; have e9 : x_508 = y9 := (by first | exact he_x_508 | exact he_x_508.symm); clear_value y9; subst e9)
                try (extract_lets -merge -useContext +onlyGivenNames y9; have e9 : x_509 = y9 := (by first | exact he_x_509 | exact he_x_509.symm); clear_value y9; subst e9)
                try (extract_lets -merge -useContext +onlyGivenNames y9; have e9 : x_510 = y9 := (by first | exact he_x_510 | exact he_x_510.symm); clear_value y9; subst e9)
                try (extract_lets -merge -useContext +onlyGivenNames y9; have e9 : g_511 = y9 := (by first | exact hg_g_511 | exact hg_g_511.symm); clear_value y9; subst e9)
                try (extract_lets -merge -useContext +onlyGivenNames y9; have e9 : x_514 = y9 := (by first | exact he_x_514 | exact he_x_514.symm); clear_value y9; subst e9)
                extract_lets -merge -useContext +onlyGivenNames w9 y11_0 y11_1 y11_2 y11_3 y11_4 y11_5; have e9 : (n_515, n_516, n_517, n_518, n_519, n_520) = w9 := ((z_tS he_n_515 (z_tS he_n_516 (z_tS he_n_517 (z_tS he_n_518 (z_tS he_n_519 he_n_520.symm)))))).symm; clear_value w9; subst e9
                exact rfl
              have hP := hP.sub (ws' := [(a_isOn, .inl (cA.1 3, 10, .inl g_isOn)), (h0, .inr (12, [.int m_status, .int m_thrown, .long m_above, .long m_under, .ref a_traySort, .ref a_trayMany, .ref a_numbers, .ref a_tape, .int m_taped, .int m_textEnd, .int m_faultKind, .int m_faultAt, .int n_1, .int n_2, .int n_515, .int n_516, .int n_517, .int n_518, .int n_519, .long n_520, .ref a_c, .ref a_words, .int m_markMany, .ref a_there, .ref a_tried, .ref a_best, .ref a_found, .int m_thereMany, .int m_foundMany, .int m_orderHow, .int m_orderRing, .int m_orderMany, .int m_hasBest, .long m_bestTop, .long m_bestBy, .ref a_weights, .ref a_shared, .int m_random, .int m_truePlace, .int m_trueWay, .int m_seconds, .int m_done, .int m_feelings, .int m_tries, .int m_leftOver, .int m_playDoor, .int m_playRing, .int m_isOpen, .int m_isOver, .int m_wasTried, .int m_hasPlayed, .ref a_feltNow, .ref a_last, .ref a_kept, .int m_hasSeconds, .int m_hasTurned, .int m_hasRound, .ref a_hasFeels, .ref a_isOn, .int m_firstAct, .long m_meanTop, .long m_meanBy, .ref a_order, .int m_rowMany, .int m_newSteps])), (a_tape, .inl (cA.1 2, 900, .inl g_tape)), (a_c, .inl (cA.1 0, 1825, .inl g_511)), (a_words, .inl (cA.1 1, 105, .inr (.inl n_9)))]) [0, 3, 4, 1, 2] rfl
              have hD := hD.sub (ws' := [(a_isOn, .inl (cA.1 3, 10, .inl g_isOn)), (h0, .inr (12, [.int m_status, .int m_thrown, .long m_above, .long m_under, .ref a_traySort, .ref a_trayMany, .ref a_numbers, .ref a_tape, .int m_taped, .int m_textEnd, .int m_faultKind, .int m_faultAt, .int n_1, .int n_2, .int n_515, .int n_516, .int n_517, .int n_518, .int n_519, .long n_520, .ref a_c, .ref a_words, .int m_markMany, .ref a_there, .ref a_tried, .ref a_best, .ref a_found, .int m_thereMany, .int m_foundMany, .int m_orderHow, .int m_orderRing, .int m_orderMany, .int m_hasBest, .long m_bestTop, .long m_bestBy, .ref a_weights, .ref a_shared, .int m_random, .int m_truePlace, .int m_trueWay, .int m_seconds, .int m_done, .int m_feelings, .int m_tries, .int m_leftOver, .int m_playDoor, .int m_playRing, .int m_isOpen, .int m_isOver, .int m_wasTried, .int m_hasPlayed, .ref a_feltNow, .ref a_last, .ref a_kept, .int m_hasSeconds, .int m_hasTurned, .int m_hasRound, .ref a_hasFeels, .ref a_isOn, .int m_firstAct, .long m_meanTop, .long m_meanBy, .ref a_order, .int m_rowMany, .int m_newSteps])), (a_tape, .inl (cA.1 2, 900, .inl g_tape)), (a_c, .inl (cA.1 0, 1825, .inl g_511)), (a_words, .inl (cA.1 1, 105, .inr (.inl n_9)))]) [0, 3, 4, 1, 2] (by decide) rfl
              exact ih_437 x_514 n_515 n_516 n_517 n_518 n_519 n_520 g_511 H locs ls (by omega) (by omega) hr_n_515 hr_n_516 hr_n_517 hr_n_518 hr_n_519 hC_g_511 hs_512 hs_513 (by omega) (by omega) (by omega) (by omega) (by omega) hX_526 hP hD hS (lv_sub hl [1, 2, 0] rfl)
            · have b_527 := z_feqF c_503
              refine lv_aload_n hx hb dX12_readKey_83 rfl (lv_at hl 0 rfl) ?_
              refine lv_bipush (v := 8) hx hb dX12_readKey_84 (by decide) ?_
              refine lv_aload_n hx hb dX12_readKey_86 rfl (lv_at hl 0 rfl) ?_
              refine va_get (D := G) (ci := 12) (v := .int v_184) (C := RX12) (T := TX12) (N := 65) hx hb hts inT12 hown hK hP 1 rfl rfl 15 (by decide) (hts _ tw_1900) (fun _ h9 => h9) rfl dX12_readKey_87 ?_
              refine z_callVv (As := [.int 8, .int v_184]) (rest := []) (wr := [(a_isOn, .inl (cA.1 3, 10, .inl g_isOn)), (a_tape, .inl (cA.1 2, 900, .inl g_tape)), (a_c, .inl (cA.1 0, 1825, .inl g_189)), (a_words, .inl (cA.1 1, 105, .inr (.inl n_9)))]) ⟨hx, hb, hml, hown, hts⟩ hK hE hT hP hD hS hA (r_fail l G cA h0 m_status m_thrown m_above m_under a_traySort a_trayMany a_numbers a_tape m_taped m_textEnd m_faultKind m_faultAt n_1 n_2 v_183 v_184 v_185 v_186 v_187 v_188 a_c a_words m_markMany a_there a_tried a_best a_found m_thereMany m_foundMany m_orderHow m_orderRing m_orderMany m_hasBest m_bestTop m_bestBy a_weights a_shared m_random m_truePlace m_trueWay m_seconds m_done m_feelings m_tries m_leftOver m_playDoor m_playRing m_isOpen m_isOver m_wasTried m_hasPlayed a_feltNow a_last a_kept m_hasSeconds m_hasTurned m_hasRound a_hasFeels a_isOn m_firstAct m_meanTop m_meanBy a_order m_rowMany m_newSteps 8 v_184 (by decide +kernel) hr_n_1) lk_RX12_180 ⟨rfl, rfl⟩ ⟨Nat.le_of_ble_eq_true rfl, Nat.le_of_ble_eq_true rfl⟩ 12 rfl rfl rfl [1] [0, 2, 3, 4] rfl rfl (by decide) rfl hl.1 rfl (lv_room (Nat.le_of_ble_eq_true rfl)) dX12_readKey_90 ⟨Nat.le_of_ble_eq_true rfl, Nat.le_of_ble_eq_true rfl⟩ (fun u_531 H locs hw hP hD hS => ?_)
              obtain ⟨n_528, n_529⟩ := u_531
              try dsimp only at hw
              obtain ⟨he_n_528, he_n_529, hw⟩ := hw
              obtain ⟨hr_n_528, hf_533⟩ := hw
              refine lv_aload_n hx hb dX12_readKey_93 rfl (lv_at hl 0 rfl) ?_
              refine va_get (D := G) (ci := 12) (v := .int n_528) (C := RX12) (T := TX12) (N := 65) hx hb hts inT12 hown hK hP 4 rfl rfl 12 (by decide) (hts _ tw_1897) (fun _ h9 => h9) rfl dX12_readKey_94 ?_
              refine lv_if_le (tgt := 101) hx hb dX12_readKey_97 (by decide) (fun h9 => (z_no (by have h8 := z_fleT h9; omega))) (fun c_534 => ?_)
              have b_535 := z_fgtF c_534
              have hpost : (0 ≤ n_528.toInt ∧ n_528.toInt ≤ 9) ∧ (0 ≤ v_183.toInt ∧ v_183.toInt ≤ 4) ∧ (0 ≤ v_184.toInt ∧ v_184.toInt ≤ 900) ∧ (0 ≤ v_185.toInt ∧ v_185.toInt ≤ 900) ∧ (0 ≤ v_186.toInt ∧ v_186.toInt ≤ 9999) ∧ (0 ≤ v_187.toInt ∧ v_187.toInt ≤ 900) ∧ (zC g_189) ∧ (zRg 10 0 1 g_isOn) ∧ (zNw g_189 g_isOn) ∧ (m_behind.toInt ≤ v_185.toInt) ∧ (0 < m_bad.toInt → 0 < n_528.toInt) ∧ (n_528.toInt ≤ 0 → v_183.toInt = 0 ∨ m_behind.toInt < v_185.toInt) ∧ (n_528.toInt ≤ 0 → v_183.toInt = 3 → v_186.toInt = 59 → zNf g_189) := ⟨(z_rgw hr_n_528 (by decide) (by decide)), hr_v_183, hr_v_184, hr_v_185, hr_v_186, hr_v_187, hC_g_189, hC_g_isOn, hs_285, (by omega), (by omega), (by omega), (fun _ _ _ => hs_286)⟩
              have hX_536 : F_r_readKey m_textEnd m_bad m_badAt m_token m_at m_behind m_number m_letters m_word g_tape g_c g_words g_isOn = ((n_528, n_529, v_183, v_184, v_185, v_186, v_187, v_188, n_9, g_189, g_isOn) : Int32 × Int32 × Int32 × Int32 × Int32 × Int32 × Int32 × Int64 × (Nat → Int64) × (Nat → Int32) × (Nat → Int32)) := by
                refine hF_L11a.trans ?_
                refine (F_r_readKey_L11a_s ..).trans ?_
                refine (if_pos c_438).trans ?_
                refine (if_pos c_446).trans ?_
                try (extract_lets -merge -useContext +onlyGivenNames y9; have e9 : x_497 = y9 := (by first | exact he_x_497 | exact he_x_497.symm); clear_value y9; subst e9)
                refine (if_pos c_498).trans ?_
                try (extract_lets -merge -useContext +onlyGivenNames y9; have e9 : x_502 = y9 := (by first | exact he_x_502 | exact he_x_502.symm); clear_value y9; subst e9)
                refine (if_pos c_503).trans ?_
                extract_lets -merge -useContext +onlyGivenNames w9 y6_0 y6_1; have e9 : (n_528, n_529) = w9 := ((z_tS he_n_528 he_n_529.symm)).symm; clear_value w9; subst e9
                exact rfl
              exact hret _ _ _ _ _ (n_528, n_529, v_183, v_184, v_185, v_186, v_187, v_188, n_9, g_189, g_isOn) [4, 1, 2, 3, 0] hP hD hS rfl (by decide) dX12_readKey_100 ⟨(congrArg (fun z9 => z9.1) hX_536).symm, (congrArg (fun z9 => z9.2.1) hX_536).symm, (congrArg (fun z9 => z9.2.2.1) hX_536).symm, (congrArg (fun z9 => z9.2.2.2.1) hX_536).symm, (congrArg (fun z9 => z9.2.2.2.2.1) hX_536).symm, (congrArg (fun z9 => z9.2.2.2.2.2.1) hX_536).symm, (congrArg (fun z9 => z9.2.2.2.2.2.2.1) hX_536).symm, (congrArg (fun z9 => z9.2.2.2.2.2.2.2.1) hX_536).symm, (congrArg (fun z9 => z9.2.2.2.2.2.2.2.2.1) hX_536).symm, (congrArg (fun z9 => z9.2.2.2.2.2.2.2.2.2.1) hX_536).symm, (congrArg (fun z9 => z9.2.2.2.2.2.2.2.2.2.2) hX_536).symm, hpost⟩
          · have b_537 := z_fltF c_498
            refine lv_aload_n hx hb dX12_readKey_38 rfl (lv_at hl 0 rfl) ?_
            refine va_get (D := G) (ci := 12) (v := .int v_186) (C := RX12) (T := TX12) (N := 65) hx hb hts inT12 hown hK hP 1 rfl rfl 17 (by decide) (hts _ tw_1902) (fun _ h9 => h9) rfl dX12_readKey_39 ?_
            refine lv_aload_n hx hb dX12_readKey_42 rfl (lv_at hl 0 rfl) ?_
            refine va_get (D := G) (ci := 12) (v := .ref a_c) (C := RX12) (T := TX12) (N := 65) hx hb hts inT12 hown hK hP 1 rfl rfl 20 (by decide) (hts _ tw_1905) (fun _ h9 => h9) rfl dX12_readKey_43 ?_
            refine lv_sipush (v := 1471) hx hb dX12_readKey_46 (by decide) ?_
            refine lv_iload_n hx hb dX12_readKey_49 rfl (lv_at hl 2 rfl) ?_
            refine lv_iadd hx hb dX12_readKey_50 ?_
            refine lv_topi (fun x_538 he_x_538 => ?_)
            have hq_x_538 := z_addq he_x_538 hk_1471 (rfl : v_182.toInt = _) (by omega) (by omega)
            refine va_iald hx hb hK hP 3 0 rfl rfl (z_inN (by omega) (by omega)) dX12_readKey_51 ?_
            refine lv_topi (fun x_539 he_x_539 => ?_)
            have hr_x_539 := z_ct hC_g_189 he_x_539 (a := 1471) (b := 1473) (lo := 0) (hi := 4) (by decide +kernel) (by decide) (by omega) (by omega)
            refine lv_icmp_lt (tgt := 64) hx hb dX12_readKey_52 (by decide) (fun c_540 => ?_) (fun c_540 => ?_)
            · have b_541 := z_fltT c_540
              refine lv_aload_n hx hb dX12_readKey_64 rfl (lv_at hl 0 rfl) ?_
              refine va_get (D := G) (ci := 12) (v := .int n_1) (C := RX12) (T := TX12) (N := 65) hx hb hts inT12 hown hK hP 1 rfl rfl 12 (by decide) (hts _ tw_1897) (fun _ h9 => h9) rfl dX12_readKey_65 ?_
              refine lv_if_ne (tgt := 93) hx hb dX12_readKey_68 (by decide) (fun h9 => (z_no (by have h8 := z_fneT h9; omega))) (fun c_542 => ?_)
              have b_543 := z_feqF c_542
              refine lv_iload_n hx hb dX12_readKey_71 rfl (lv_at hl 2 rfl) ?_
              refine lv_aload_n hx hb dX12_readKey_72 rfl (lv_at hl 0 rfl) ?_
              refine va_get (D := G) (ci := 12) (v := .ref a_c) (C := RX12) (T := TX12) (N := 65) hx hb hts inT12 hown hK hP 1 rfl rfl 20 (by decide) (hts _ tw_1905) (fun _ h9 => h9) rfl dX12_readKey_73 ?_
              refine lv_sipush (v := 1460) hx hb dX12_readKey_76 (by decide) ?_
              refine va_iald hx hb hK hP 3 0 rfl rfl (z_in (i := 1460) (n := 1825) (by decide +kernel) (by decide +kernel)) dX12_readKey_79 ?_
              refine lv_topi (fun x_544 he_x_544 => ?_)
              have hr_x_544 := z_ctk hC_g_189 he_x_544 (k := 1460) (lo := 0) (hi := 3) (by decide +kernel) (by decide +kernel) (by decide +kernel)
              have hv_x_544 := z_cv he_x_544 (k := 1460) (by decide +kernel)
              refine lv_icmp_ne (tgt := 93) hx hb dX12_readKey_80 (by decide) (fun c_545 => ?_) (fun c_545 => ?_)
              · have b_546 := z_fneT c_545
                refine lv_aload_n hx hb dX12_readKey_93 rfl (lv_at hl 0 rfl) ?_
                refine va_get (D := G) (ci := 12) (v := .int n_1) (C := RX12) (T := TX12) (N := 65) hx hb hts inT12 hown hK hP 1 rfl rfl 12 (by decide) (hts _ tw_1897) (fun _ h9 => h9) rfl dX12_readKey_94 ?_
                refine lv_if_le (tgt := 101) hx hb dX12_readKey_97 (by decide) (fun c_547 => ?_) (fun h9 => (z_no (by have h8 := z_fgtF h9; omega)))
                have b_548 := z_fleT c_547
                have hn_k_549 : 0 ≤ v_182.toInt ∧ v_182.toInt ≤ 2 := by omega
                refine lv_aload_n hx hb dX12_readKey_101 rfl (lv_at hl 0 rfl) ?_
                refine va_get (D := G) (ci := 12) (v := .ref a_c) (C := RX12) (T := TX12) (N := 65) hx hb hts inT12 hown hK hP 1 rfl rfl 20 (by decide) (hts _ tw_1905) (fun _ h9 => h9) rfl dX12_readKey_102 ?_
                refine lv_sipush (v := 1525) hx hb dX12_readKey_105 (by decide) ?_
                refine lv_iconst (v := 3) hx hb dX12_readKey_108 (by decide) ?_
                refine lv_iload_n hx hb dX12_readKey_109 rfl (lv_at hl 1 rfl) ?_
                refine lv_imul hx hb dX12_readKey_110 ?_
                refine lv_topi (fun x_550 he_x_550 => ?_)
                have hq_x_550 := z_mulq he_x_550 hk_3 (rfl : r_10.toInt = _) (by omega) (by omega)
                refine lv_iadd hx hb dX12_readKey_111 ?_
                refine lv_topi (fun x_551 he_x_551 => ?_)
                have hq_x_551 := z_addq he_x_551 hk_1525 (rfl : x_550.toInt = _) (by omega) (by omega)
                refine lv_iload_n hx hb dX12_readKey_112 rfl (lv_at hl 2 rfl) ?_
                refine lv_iadd hx hb dX12_readKey_113 ?_
                refine lv_topi (fun x_552 he_x_552 => ?_)
                have hq_x_552 := z_addq he_x_552 (rfl : x_551.toInt = _) (rfl : v_182.toInt = _) (by omega) (by omega)
                refine lv_aload_n hx hb dX12_readKey_114 rfl (lv_at hl 0 rfl) ?_
                refine va_get (D := G) (ci := 12) (v := .int v_186) (C := RX12) (T := TX12) (N := 65) hx hb hts inT12 hown hK hP 1 rfl rfl 17 (by decide) (hts _ tw_1902) (fun _ h9 => h9) rfl dX12_readKey_115 ?_
                refine z_iast hx hb hK hP hD hS 3 0 rfl rfl (z_inN (by omega) (by omega)) dX12_readKey_118 (fun g_553 hg_g_553 H locs hP hD hS => ?_)
                have hC_g_553 := z_ctU hC_g_189 hg_g_553 (a := 1525) (b := 1554) (lo := 0) (hi := 3) (by decide +kernel) (by decide +kernel) (by omega) (by omega) (by omega)
                have hw_g_553_1460 := z_cwo hg_g_553 (k := 1460) (by omega) (by omega)
                have hw_g_553_1461 := z_cwo hg_g_553 (k := 1461) (by omega) (by omega)
                have hs_554 : zNw g_553 g_isOn := (zNw_ks hs_285 hg_g_553 (k := r_10.toInt) (n := v_182.toInt) (by omega) (by omega) (by omega) (by omega) (by omega) (by omega) (by rw [← z_at he_x_539 (a := 1471 + v_182.toInt.toNat) (by omega)]; omega))
                have hs_555 : zNf g_553 := (zNf_fr hs_286 hg_g_553 (a := 1525) (b := 1554) (by decide +kernel) (by omega) (by omega))
                obtain ⟨x_556, he_x_556⟩ : ∃ z : Int32, z = v_182 + 1 := ⟨_, rfl⟩
                have hq_x_556 := z_addq he_x_556 (rfl : v_182.toInt = _) hk_1 (by omega) (by omega)
                refine lv_iinc (v := x_556) (lv' := [(2, .int x_556), (0, .ref h0), (1, .int r_10)]) hx hb dX12_readKey_119 hl (k := 2) rfl ((z_ofi (by decide +kernel)).trans he_x_556.symm) (by decide) rfl (fun ls hl => ?_)
                refine lv_aload_n hx hb dX12_readKey_122 rfl (lv_at hl 1 rfl) ?_
                refine z_callVv (As := []) (rest := []) (wr := [(a_isOn, .inl (cA.1 3, 10, .inl g_isOn)), (a_c, .inl (cA.1 0, 1825, .inl g_553)), (a_words, .inl (cA.1 1, 105, .inr (.inl n_9)))]) ⟨hx, hb, hml, hown, hts⟩ hK hE hT hP hD hS hA (r_next2 l G cA h0 m_status m_thrown m_above m_under a_traySort a_trayMany a_numbers a_tape m_taped m_textEnd m_faultKind m_faultAt n_1 n_2 v_183 v_184 v_185 v_186 v_187 v_188 a_c a_words m_markMany a_there a_tried a_best a_found m_thereMany m_foundMany m_orderHow m_orderRing m_orderMany m_hasBest m_bestTop m_bestBy a_weights a_shared m_random m_truePlace m_trueWay m_seconds m_done m_feelings m_tries m_leftOver m_playDoor m_playRing m_isOpen m_isOver m_wasTried m_hasPlayed a_feltNow a_last a_kept m_hasSeconds m_hasTurned m_hasRound a_hasFeels a_isOn m_firstAct m_meanTop m_meanBy a_order m_rowMany m_newSteps g_tape hr_m_textEnd hr_v_184 hr_v_185 hr_v_183 hr_v_186 hr_v_187) lk_RX12_184 ⟨rfl, rfl⟩ ⟨Nat.le_of_ble_eq_true rfl, Nat.le_of_ble_eq_true rfl⟩ 12 rfl rfl rfl [1, 2] [0, 3, 4] rfl rfl (by decide) rfl hl.1 rfl (lv_room (Nat.le_of_ble_eq_true rfl)) dX12_readKey_123 ⟨Nat.le_of_ble_eq_true rfl, Nat.le_of_ble_eq_true rfl⟩ (fun u_564 H locs hw hP hD hS => ?_)
                obtain ⟨n_557, n_558, n_559, n_560, n_561, n_562⟩ := u_564
                try dsimp only at hw
                obtain ⟨he_n_557, he_n_558, he_n_559, he_n_560, he_n_561, he_n_562, hw⟩ := hw
                obtain ⟨hr_n_557, hr_n_558, hr_n_559, hr_n_560, hr_n_561, hf_566, hf_567⟩ := hw
                refine lv_goto (tgt := 11) hx hb dX12_readKey_126 (by decide) ?_
                have hX_568 : F_r_readKey m_textEnd m_bad m_badAt m_token m_at m_behind m_number m_letters m_word g_tape g_c g_words g_isOn = F_r_readKey_L11a m_textEnd g_tape g_isOn r_10 n_1 n_2 n_9 n_L11a x_556 n_557 n_558 n_559 n_560 n_561 n_562 g_553 := by
                  refine hF_L11a.trans ?_
                  refine (F_r_readKey_L11a_s ..).trans ?_
                  refine (if_pos c_438).trans ?_
                  refine (if_pos c_446).trans ?_
                  try (extract_lets -merge -useContext +onlyGivenNames y9; have e9 : x_497 = y9 := (by first | exact he_x_497 | exact he_x_497.symm); clear_value y9; subst e9)
                  refine (if_neg c_498).trans ?_
                  try (extract_lets -merge -useContext +onlyGivenNames y9; have e9 : x_538 = y9 := (by first | exact he_x_538 | exact he_x_538.symm); clear_value y9; subst e9)
                  try (extract_lets -merge -useContext +onlyGivenNames y9; have e9 : x_539 = y9 := (by first | exact he_x_539 | exact he_x_539.symm); clear_value y9; subst e9)
                  refine (if_pos c_540).trans ?_
                  try (extract_lets -merge -useContext +onlyGivenNames y9; have e9 : x_544 = y9 := (by first | exact he_x_544 | exact he_x_544.symm); clear_value y9; subst e9)
                  refine (if_neg c_545).trans ?_
                  try (extract_lets -merge -useContext +onlyGivenNames y9; have e9 : x_550 = y9 := (by first | exact he_x_550 | exact he_x_550.symm); clear_value y9; subst e9)
                  try (extract_lets -merge -useContext +onlyGivenNames y9; have e9 : x_551 = y9 := (by first | exact he_x_551 | exact he_x_551.symm); clear_value y9; subst e9)
                  try (extract_lets -merge -useContext +onlyGivenNames y9; have e9 : x_552 = y9 := (by first | exact he_x_552 | exact he_x_552.symm); clear_value y9; subst e9)
                  try (extract_lets -merge -useContext +onlyGivenNames y9; have e9 : g_553 = y9 := (by first | exact hg_g_553 | exact hg_g_553.symm); clear_value y9; subst e9)
                  try (extract_lets -merge -useContext +onlyGivenNames y9; have e9 : x_556 = y9 := (by first | exact he_x_556 | exact he_x_556.symm); clear_value y9; subst e9)
                  extract_lets -merge -useContext +onlyGivenNames w9 y14_0 y14_1 y14_2 y14_3 y14_4 y14_5; have e9 : (n_557, n_558, n_559, n_560, n_561, n_562) = w9 := ((z_tS he_n_557 (z_tS he_n_558 (z_tS he_n_559 (z_tS he_n_560 (z_tS he_n_561 he_n_562.symm)))))).symm; clear_value w9; subst e9
                  exact rfl
                have hP := hP.sub (ws' := [(a_isOn, .inl (cA.1 3, 10, .inl g_isOn)), (h0, .inr (12, [.int m_status, .int m_thrown, .long m_above, .long m_under, .ref a_traySort, .ref a_trayMany, .ref a_numbers, .ref a_tape, .int m_taped, .int m_textEnd, .int m_faultKind, .int m_faultAt, .int n_1, .int n_2, .int n_557, .int n_558, .int n_559, .int n_560, .int n_561, .long n_562, .ref a_c, .ref a_words, .int m_markMany, .ref a_there, .ref a_tried, .ref a_best, .ref a_found, .int m_thereMany, .int m_foundMany, .int m_orderHow, .int m_orderRing, .int m_orderMany, .int m_hasBest, .long m_bestTop, .long m_bestBy, .ref a_weights, .ref a_shared, .int m_random, .int m_truePlace, .int m_trueWay, .int m_seconds, .int m_done, .int m_feelings, .int m_tries, .int m_leftOver, .int m_playDoor, .int m_playRing, .int m_isOpen, .int m_isOver, .int m_wasTried, .int m_hasPlayed, .ref a_feltNow, .ref a_last, .ref a_kept, .int m_hasSeconds, .int m_hasTurned, .int m_hasRound, .ref a_hasFeels, .ref a_isOn, .int m_firstAct, .long m_meanTop, .long m_meanBy, .ref a_order, .int m_rowMany, .int m_newSteps])), (a_tape, .inl (cA.1 2, 900, .inl g_tape)), (a_c, .inl (cA.1 0, 1825, .inl g_553)), (a_words, .inl (cA.1 1, 105, .inr (.inl n_9)))]) [0, 3, 4, 1, 2] rfl
                have hD := hD.sub (ws' := [(a_isOn, .inl (cA.1 3, 10, .inl g_isOn)), (h0, .inr (12, [.int m_status, .int m_thrown, .long m_above, .long m_under, .ref a_traySort, .ref a_trayMany, .ref a_numbers, .ref a_tape, .int m_taped, .int m_textEnd, .int m_faultKind, .int m_faultAt, .int n_1, .int n_2, .int n_557, .int n_558, .int n_559, .int n_560, .int n_561, .long n_562, .ref a_c, .ref a_words, .int m_markMany, .ref a_there, .ref a_tried, .ref a_best, .ref a_found, .int m_thereMany, .int m_foundMany, .int m_orderHow, .int m_orderRing, .int m_orderMany, .int m_hasBest, .long m_bestTop, .long m_bestBy, .ref a_weights, .ref a_shared, .int m_random, .int m_truePlace, .int m_trueWay, .int m_seconds, .int m_done, .int m_feelings, .int m_tries, .int m_leftOver, .int m_playDoor, .int m_playRing, .int m_isOpen, .int m_isOver, .int m_wasTried, .int m_hasPlayed, .ref a_feltNow, .ref a_last, .ref a_kept, .int m_hasSeconds, .int m_hasTurned, .int m_hasRound, .ref a_hasFeels, .ref a_isOn, .int m_firstAct, .long m_meanTop, .long m_meanBy, .ref a_order, .int m_rowMany, .int m_newSteps])), (a_tape, .inl (cA.1 2, 900, .inl g_tape)), (a_c, .inl (cA.1 0, 1825, .inl g_553)), (a_words, .inl (cA.1 1, 105, .inr (.inl n_9)))]) [0, 3, 4, 1, 2] (by decide) rfl
                exact ih_437 x_556 n_557 n_558 n_559 n_560 n_561 n_562 g_553 H locs ls (by omega) (by omega) hr_n_557 hr_n_558 hr_n_559 hr_n_560 hr_n_561 hC_g_553 hs_554 hs_555 (by omega) (by omega) (by omega) (by omega) (by omega) hX_568 hP hD hS (lv_sub hl [1, 2, 0] rfl)
              · have b_569 := z_feqF c_545
                refine lv_aload_n hx hb dX12_readKey_83 rfl (lv_at hl 0 rfl) ?_
                refine lv_bipush (v := 8) hx hb dX12_readKey_84 (by decide) ?_
                refine lv_aload_n hx hb dX12_readKey_86 rfl (lv_at hl 0 rfl) ?_
                refine va_get (D := G) (ci := 12) (v := .int v_184) (C := RX12) (T := TX12) (N := 65) hx hb hts inT12 hown hK hP 1 rfl rfl 15 (by decide) (hts _ tw_1900) (fun _ h9 => h9) rfl dX12_readKey_87 ?_
                refine z_callVv (As := [.int 8, .int v_184]) (rest := []) (wr := [(a_isOn, .inl (cA.1 3, 10, .inl g_isOn)), (a_tape, .inl (cA.1 2, 900, .inl g_tape)), (a_c, .inl (cA.1 0, 1825, .inl g_189)), (a_words, .inl (cA.1 1, 105, .inr (.inl n_9)))]) ⟨hx, hb, hml, hown, hts⟩ hK hE hT hP hD hS hA (r_fail l G cA h0 m_status m_thrown m_above m_under a_traySort a_trayMany a_numbers a_tape m_taped m_textEnd m_faultKind m_faultAt n_1 n_2 v_183 v_184 v_185 v_186 v_187 v_188 a_c a_words m_markMany a_there a_tried a_best a_found m_thereMany m_foundMany m_orderHow m_orderRing m_orderMany m_hasBest m_bestTop m_bestBy a_weights a_shared m_random m_truePlace m_trueWay m_seconds m_done m_feelings m_tries m_leftOver m_playDoor m_playRing m_isOpen m_isOver m_wasTried m_hasPlayed a_feltNow a_last a_kept m_hasSeconds m_hasTurned m_hasRound a_hasFeels a_isOn m_firstAct m_meanTop m_meanBy a_order m_rowMany m_newSteps 8 v_184 (by decide +kernel) hr_n_1) lk_RX12_180 ⟨rfl, rfl⟩ ⟨Nat.le_of_ble_eq_true rfl, Nat.le_of_ble_eq_true rfl⟩ 12 rfl rfl rfl [1] [0, 2, 3, 4] rfl rfl (by decide) rfl hl.1 rfl (lv_room (Nat.le_of_ble_eq_true rfl)) dX12_readKey_90 ⟨Nat.le_of_ble_eq_true rfl, Nat.le_of_ble_eq_true rfl⟩ (fun u_573 H locs hw hP hD hS => ?_)
                obtain ⟨n_570, n_571⟩ := u_573
                try dsimp only at hw
                obtain ⟨he_n_570, he_n_571, hw⟩ := hw
                obtain ⟨hr_n_570, hf_575⟩ := hw
                refine lv_aload_n hx hb dX12_readKey_93 rfl (lv_at hl 0 rfl) ?_
                refine va_get (D := G) (ci := 12) (v := .int n_570) (C := RX12) (T := TX12) (N := 65) hx hb hts inT12 hown hK hP 4 rfl rfl 12 (by decide) (hts _ tw_1897) (fun _ h9 => h9) rfl dX12_readKey_94 ?_
                refine lv_if_le (tgt := 101) hx hb dX12_readKey_97 (by decide) (fun h9 => (z_no (by have h8 := z_fleT h9; omega))) (fun c_576 => ?_)
                have b_577 := z_fgtF c_576
                have hpost : (0 ≤ n_570.toInt ∧ n_570.toInt ≤ 9) ∧ (0 ≤ v_183.toInt ∧ v_183.toInt ≤ 4) ∧ (0 ≤ v_184.toInt ∧ v_184.toInt ≤ 900) ∧ (0 ≤ v_185.toInt ∧ v_185.toInt ≤ 900) ∧ (0 ≤ v_186.toInt ∧ v_186.toInt ≤ 9999) ∧ (0 ≤ v_187.toInt ∧ v_187.toInt ≤ 900) ∧ (zC g_189) ∧ (zRg 10 0 1 g_isOn) ∧ (zNw g_189 g_isOn) ∧ (m_behind.toInt ≤ v_185.toInt) ∧ (0 < m_bad.toInt → 0 < n_570.toInt) ∧ (n_570.toInt ≤ 0 → v_183.toInt = 0 ∨ m_behind.toInt < v_185.toInt) ∧ (n_570.toInt ≤ 0 → v_183.toInt = 3 → v_186.toInt = 59 → zNf g_189) := ⟨(z_rgw hr_n_570 (by decide) (by decide)), hr_v_183, hr_v_184, hr_v_185, hr_v_186, hr_v_187, hC_g_189, hC_g_isOn, hs_285, (by omega), (by omega), (by omega), (fun _ _ _ => hs_286)⟩
                have hX_578 : F_r_readKey m_textEnd m_bad m_badAt m_token m_at m_behind m_number m_letters m_word g_tape g_c g_words g_isOn = ((n_570, n_571, v_183, v_184, v_185, v_186, v_187, v_188, n_9, g_189, g_isOn) : Int32 × Int32 × Int32 × Int32 × Int32 × Int32 × Int32 × Int64 × (Nat → Int64) × (Nat → Int32) × (Nat → Int32)) := by
                  refine hF_L11a.trans ?_
                  refine (F_r_readKey_L11a_s ..).trans ?_
                  refine (if_pos c_438).trans ?_
                  refine (if_pos c_446).trans ?_
                  try (extract_lets -merge -useContext +onlyGivenNames y9; have e9 : x_497 = y9 := (by first | exact he_x_497 | exact he_x_497.symm); clear_value y9; subst e9)
                  refine (if_neg c_498).trans ?_
                  try (extract_lets -merge -useContext +onlyGivenNames y9; have e9 : x_538 = y9 := (by first | exact he_x_538 | exact he_x_538.symm); clear_value y9; subst e9)
                  try (extract_lets -merge -useContext +onlyGivenNames y9; have e9 : x_539 = y9 := (by first | exact he_x_539 | exact he_x_539.symm); clear_value y9; subst e9)
                  refine (if_pos c_540).trans ?_
                  try (extract_lets -merge -useContext +onlyGivenNames y9; have e9 : x_544 = y9 := (by first | exact he_x_544 | exact he_x_544.symm); clear_value y9; subst e9)
                  refine (if_pos c_545).trans ?_
                  extract_lets -merge -useContext +onlyGivenNames w9 y9_0 y9_1; have e9 : (n_570, n_571) = w9 := ((z_tS he_n_570 he_n_571.symm)).symm; clear_value w9; subst e9
                  exact rfl
                exact hret _ _ _ _ _ (n_570, n_571, v_183, v_184, v_185, v_186, v_187, v_188, n_9, g_189, g_isOn) [4, 1, 2, 3, 0] hP hD hS rfl (by decide) dX12_readKey_100 ⟨(congrArg (fun z9 => z9.1) hX_578).symm, (congrArg (fun z9 => z9.2.1) hX_578).symm, (congrArg (fun z9 => z9.2.2.1) hX_578).symm, (congrArg (fun z9 => z9.2.2.2.1) hX_578).symm, (congrArg (fun z9 => z9.2.2.2.2.1) hX_578).symm, (congrArg (fun z9 => z9.2.2.2.2.2.1) hX_578).symm, (congrArg (fun z9 => z9.2.2.2.2.2.2.1) hX_578).symm, (congrArg (fun z9 => z9.2.2.2.2.2.2.2.1) hX_578).symm, (congrArg (fun z9 => z9.2.2.2.2.2.2.2.2.1) hX_578).symm, (congrArg (fun z9 => z9.2.2.2.2.2.2.2.2.2.1) hX_578).symm, (congrArg (fun z9 => z9.2.2.2.2.2.2.2.2.2.2) hX_578).symm, hpost⟩
            · have b_579 := z_fgeF c_540
              refine lv_aload_n hx hb dX12_readKey_55 rfl (lv_at hl 0 rfl) ?_
              refine lv_iconst (v := 4) hx hb dX12_readKey_56 (by decide) ?_
              refine lv_aload_n hx hb dX12_readKey_57 rfl (lv_at hl 0 rfl) ?_
              refine va_get (D := G) (ci := 12) (v := .int v_184) (C := RX12) (T := TX12) (N := 65) hx hb hts inT12 hown hK hP 1 rfl rfl 15 (by decide) (hts _ tw_1900) (fun _ h9 => h9) rfl dX12_readKey_58 ?_
              refine z_callVv (As := [.int 4, .int v_184]) (rest := []) (wr := [(a_isOn, .inl (cA.1 3, 10, .inl g_isOn)), (a_tape, .inl (cA.1 2, 900, .inl g_tape)), (a_c, .inl (cA.1 0, 1825, .inl g_189)), (a_words, .inl (cA.1 1, 105, .inr (.inl n_9)))]) ⟨hx, hb, hml, hown, hts⟩ hK hE hT hP hD hS hA (r_fail l G cA h0 m_status m_thrown m_above m_under a_traySort a_trayMany a_numbers a_tape m_taped m_textEnd m_faultKind m_faultAt n_1 n_2 v_183 v_184 v_185 v_186 v_187 v_188 a_c a_words m_markMany a_there a_tried a_best a_found m_thereMany m_foundMany m_orderHow m_orderRing m_orderMany m_hasBest m_bestTop m_bestBy a_weights a_shared m_random m_truePlace m_trueWay m_seconds m_done m_feelings m_tries m_leftOver m_playDoor m_playRing m_isOpen m_isOver m_wasTried m_hasPlayed a_feltNow a_last a_kept m_hasSeconds m_hasTurned m_hasRound a_hasFeels a_isOn m_firstAct m_meanTop m_meanBy a_order m_rowMany m_newSteps 4 v_184 (by decide +kernel) hr_n_1) lk_RX12_180 ⟨rfl, rfl⟩ ⟨Nat.le_of_ble_eq_true rfl, Nat.le_of_ble_eq_true rfl⟩ 12 rfl rfl rfl [1] [0, 2, 3, 4] rfl rfl (by decide) rfl hl.1 rfl (lv_room (Nat.le_of_ble_eq_true rfl)) dX12_readKey_61 ⟨Nat.le_of_ble_eq_true rfl, Nat.le_of_ble_eq_true rfl⟩ (fun u_583 H locs hw hP hD hS => ?_)
              obtain ⟨n_580, n_581⟩ := u_583
              try dsimp only at hw
              obtain ⟨he_n_580, he_n_581, hw⟩ := hw
              obtain ⟨hr_n_580, hf_585⟩ := hw
              refine lv_aload_n hx hb dX12_readKey_64 rfl (lv_at hl 0 rfl) ?_
              refine va_get (D := G) (ci := 12) (v := .int n_580) (C := RX12) (T := TX12) (N := 65) hx hb hts inT12 hown hK hP 4 rfl rfl 12 (by decide) (hts _ tw_1897) (fun _ h9 => h9) rfl dX12_readKey_65 ?_
              refine lv_if_ne (tgt := 93) hx hb dX12_readKey_68 (by decide) (fun c_586 => ?_) (fun h9 => (z_no (by have h8 := z_feqF h9; omega)))
              have b_587 := z_fneT c_586
              refine lv_aload_n hx hb dX12_readKey_93 rfl (lv_at hl 0 rfl) ?_
              refine va_get (D := G) (ci := 12) (v := .int n_580) (C := RX12) (T := TX12) (N := 65) hx hb hts inT12 hown hK hP 4 rfl rfl 12 (by decide) (hts _ tw_1897) (fun _ h9 => h9) rfl dX12_readKey_94 ?_
              refine lv_if_le (tgt := 101) hx hb dX12_readKey_97 (by decide) (fun h9 => (z_no (by have h8 := z_fleT h9; omega))) (fun c_588 => ?_)
              have b_589 := z_fgtF c_588
              have hpost : (0 ≤ n_580.toInt ∧ n_580.toInt ≤ 9) ∧ (0 ≤ v_183.toInt ∧ v_183.toInt ≤ 4) ∧ (0 ≤ v_184.toInt ∧ v_184.toInt ≤ 900) ∧ (0 ≤ v_185.toInt ∧ v_185.toInt ≤ 900) ∧ (0 ≤ v_186.toInt ∧ v_186.toInt ≤ 9999) ∧ (0 ≤ v_187.toInt ∧ v_187.toInt ≤ 900) ∧ (zC g_189) ∧ (zRg 10 0 1 g_isOn) ∧ (zNw g_189 g_isOn) ∧ (m_behind.toInt ≤ v_185.toInt) ∧ (0 < m_bad.toInt → 0 < n_580.toInt) ∧ (n_580.toInt ≤ 0 → v_183.toInt = 0 ∨ m_behind.toInt < v_185.toInt) ∧ (n_580.toInt ≤ 0 → v_183.toInt = 3 → v_186.toInt = 59 → zNf g_189) := ⟨(z_rgw hr_n_580 (by decide) (by decide)), hr_v_183, hr_v_184, hr_v_185, hr_v_186, hr_v_187, hC_g_189, hC_g_isOn, hs_285, (by omega), (by omega), (by omega), (fun _ _ _ => hs_286)⟩
              have hX_590 : F_r_readKey m_textEnd m_bad m_badAt m_token m_at m_behind m_number m_letters m_word g_tape g_c g_words g_isOn = ((n_580, n_581, v_183, v_184, v_185, v_186, v_187, v_188, n_9, g_189, g_isOn) : Int32 × Int32 × Int32 × Int32 × Int32 × Int32 × Int32 × Int64 × (Nat → Int64) × (Nat → Int32) × (Nat → Int32)) := by
                refine hF_L11a.trans ?_
                refine (F_r_readKey_L11a_s ..).trans ?_
                refine (if_pos c_438).trans ?_
                refine (if_pos c_446).trans ?_
                try (extract_lets -merge -useContext +onlyGivenNames y9; have e9 : x_497 = y9 := (by first | exact he_x_497 | exact he_x_497.symm); clear_value y9; subst e9)
                refine (if_neg c_498).trans ?_
                try (extract_lets -merge -useContext +onlyGivenNames y9; have e9 : x_538 = y9 := (by first | exact he_x_538 | exact he_x_538.symm); clear_value y9; subst e9)
                try (extract_lets -merge -useContext +onlyGivenNames y9; have e9 : x_539 = y9 := (by first | exact he_x_539 | exact he_x_539.symm); clear_value y9; subst e9)
                refine (if_neg c_540).trans ?_
                extract_lets -merge -useContext +onlyGivenNames w9 y7_0 y7_1; have e9 : (n_580, n_581) = w9 := ((z_tS he_n_580 he_n_581.symm)).symm; clear_value w9; subst e9
                exact rfl
              exact hret _ _ _ _ _ (n_580, n_581, v_183, v_184, v_185, v_186, v_187, v_188, n_9, g_189, g_isOn) [4, 1, 2, 3, 0] hP hD hS rfl (by decide) dX12_readKey_100 ⟨(congrArg (fun z9 => z9.1) hX_590).symm, (congrArg (fun z9 => z9.2.1) hX_590).symm, (congrArg (fun z9 => z9.2.2.1) hX_590).symm, (congrArg (fun z9 => z9.2.2.2.1) hX_590).symm, (congrArg (fun z9 => z9.2.2.2.2.1) hX_590).symm, (congrArg (fun z9 => z9.2.2.2.2.2.1) hX_590).symm, (congrArg (fun z9 => z9.2.2.2.2.2.2.1) hX_590).symm, (congrArg (fun z9 => z9.2.2.2.2.2.2.2.1) hX_590).symm, (congrArg (fun z9 => z9.2.2.2.2.2.2.2.2.1) hX_590).symm, (congrArg (fun z9 => z9.2.2.2.2.2.2.2.2.2.1) hX_590).symm, (congrArg (fun z9 => z9.2.2.2.2.2.2.2.2.2.2) hX_590).symm, hpost⟩
  have hX_591 : F_r_readKey m_textEnd m_bad m_badAt m_token m_at m_behind m_number m_letters m_word g_tape g_c g_words g_isOn = F_r_readKey_L11a m_textEnd g_tape g_isOn r_10 n_1 n_2 n_9 ((4600 - 5 * n_5.toInt + n_3.toInt - 5 * n_1.toInt).toNat + 1) (0 : Int32) n_3 n_4 n_5 n_6 n_7 n_8 g_c := by
    refine (F_r_readKey_s ..).trans ?_
    extract_lets -merge -useContext +onlyGivenNames w9 y0_0 y0_1 y0_2 y0_3 y0_4 y0_5 y0_6 y0_7 y0_8 y0_9; have e9 : (r_10, n_1, n_2, n_3, n_4, n_5, n_6, n_7, n_8, n_9) = w9 := ((z_tS he_r_10 (z_tS he_n_1 (z_tS he_n_2 (z_tS he_n_3 (z_tS he_n_4 (z_tS he_n_5 (z_tS he_n_6 (z_tS he_n_7 (z_tS he_n_8 he_n_9.symm)))))))))).symm; clear_value w9; subst e9
    exact rfl
  exact hlp_436 ((4600 - 5 * n_5.toInt + n_3.toInt - 5 * n_1.toInt).toNat + 1) 0 n_3 n_4 n_5 n_6 n_7 n_8 g_c _ _ _ (Nat.lt_succ_self _) (by decide +kernel) hr_n_3 hr_n_4 hr_n_5 hr_n_6 hr_n_7 hC_g_c hNW0 hNF0 (by omega) (by omega) (by omega) (by omega) (by omega) hX_591 hP hD hS (lv_sub hl [2, 1, 0] rfl)
set_option maxHeartbeats 40000000 in
set_option maxRecDepth 100000 in
theorem r_readRing (l : Launch) (G : va_G) (cA : zCA) (h0 : Nat) (m_status : Int32) (m_thrown : Int32) (m_above : Int64) (m_under : Int64) (a_traySort : Nat) (a_trayMany : Nat) (a_numbers : Nat) (a_tape : Nat) (m_taped : Int32) (m_textEnd : Int32) (m_faultKind : Int32) (m_faultAt : Int32) (m_bad : Int32) (m_badAt : Int32) (m_token : Int32) (m_at : Int32) (m_behind : Int32) (m_number : Int32) (m_letters : Int32) (m_word : Int64) (a_c : Nat) (a_words : Nat) (m_markMany : Int32) (a_there : Nat) (a_tried : Nat) (a_best : Nat) (a_found : Nat) (m_thereMany : Int32) (m_foundMany : Int32) (m_orderHow : Int32) (m_orderRing : Int32) (m_orderMany : Int32) (m_hasBest : Int32) (m_bestTop : Int64) (m_bestBy : Int64) (a_weights : Nat) (a_shared : Nat) (m_random : Int32) (m_truePlace : Int32) (m_trueWay : Int32) (m_seconds : Int32) (m_done : Int32) (m_feelings : Int32) (m_tries : Int32) (m_leftOver : Int32) (m_playDoor : Int32) (m_playRing : Int32) (m_isOpen : Int32) (m_isOver : Int32) (m_wasTried : Int32) (m_hasPlayed : Int32) (a_feltNow : Nat) (a_last : Nat) (a_kept : Nat) (m_hasSeconds : Int32) (m_hasTurned : Int32) (m_hasRound : Int32) (a_hasFeels : Nat) (a_isOn : Nat) (m_firstAct : Int32) (m_meanTop : Int64) (m_meanBy : Int64) (a_order : Nat) (m_rowMany : Int32) (m_newSteps : Int32) (g_tape : Nat → Int32) (g_c : Nat → Int32) (g_words : Nat → Int64) (g_isOn : Nat → Int32) (hr_m_textEnd : 0 ≤ m_textEnd.toInt ∧ m_textEnd.toInt ≤ 900) (hr_m_at : 0 ≤ m_at.toInt ∧ m_at.toInt ≤ 900) (hr_m_behind : 0 ≤ m_behind.toInt ∧ m_behind.toInt ≤ 900) (hr_m_bad : 0 ≤ m_bad.toInt ∧ m_bad.toInt ≤ 0) (hr_m_token : 0 ≤ m_token.toInt ∧ m_token.toInt ≤ 4) (hr_m_number : 0 ≤ m_number.toInt ∧ m_number.toInt ≤ 9999) (hr_m_letters : 0 ≤ m_letters.toInt ∧ m_letters.toInt ≤ 900) (hC_g_c : zC g_c) (hC_g_isOn : zRg 10 0 1 g_isOn) (hNW0 : zNw g_c g_isOn) (hNF0 : zNf g_c) : zCv l yX12_readRing cX12_readRing 4 none ({ frames := 4, cells := 0, slots := 0, locals := 91 }) G cA [.ref h0] [(h0, .inr (12, [.int m_status, .int m_thrown, .long m_above, .long m_under, .ref a_traySort, .ref a_trayMany, .ref a_numbers, .ref a_tape, .int m_taped, .int m_textEnd, .int m_faultKind, .int m_faultAt, .int m_bad, .int m_badAt, .int m_token, .int m_at, .int m_behind, .int m_number, .int m_letters, .long m_word, .ref a_c, .ref a_words, .int m_markMany, .ref a_there, .ref a_tried, .ref a_best, .ref a_found, .int m_thereMany, .int m_foundMany, .int m_orderHow, .int m_orderRing, .int m_orderMany, .int m_hasBest, .long m_bestTop, .long m_bestBy, .ref a_weights, .ref a_shared, .int m_random, .int m_truePlace, .int m_trueWay, .int m_seconds, .int m_done, .int m_feelings, .int m_tries, .int m_leftOver, .int m_playDoor, .int m_playRing, .int m_isOpen, .int m_isOver, .int m_wasTried, .int m_hasPlayed, .ref a_feltNow, .ref a_last, .ref a_kept, .int m_hasSeconds, .int m_hasTurned, .int m_hasRound, .ref a_hasFeels, .ref a_isOn, .int m_firstAct, .long m_meanTop, .long m_meanBy, .ref a_order, .int m_rowMany, .int m_newSteps])), (a_tape, .inl (cA.1 2, 900, .inl g_tape)), (a_c, .inl (cA.1 0, 1825, .inl g_c)), (a_words, .inl (cA.1 1, 105, .inr (.inl g_words))), (a_isOn, .inl (cA.1 3, 10, .inl g_isOn))] (S := Int32 × Int32 × Int32 × Int32 × Int32 × Int32 × Int32 × Int64 × (Nat → Int64) × (Nat → Int32) × (Nat → Int32)) (fun (u : Int32 × Int32 × Int32 × Int32 × Int32 × Int32 × Int32 × Int64 × (Nat → Int64) × (Nat → Int32) × (Nat → Int32)) => (u.1 = (F_r_readRing m_textEnd m_bad m_badAt m_token m_at m_behind m_number m_letters m_word g_tape g_c g_words g_isOn).1) ∧ (u.2.1 = (F_r_readRing m_textEnd m_bad m_badAt m_token m_at m_behind m_number m_letters m_word g_tape g_c g_words g_isOn).2.1) ∧ (u.2.2.1 = (F_r_readRing m_textEnd m_bad m_badAt m_token m_at m_behind m_number m_letters m_word g_tape g_c g_words g_isOn).2.2.1) ∧ (u.2.2.2.1 = (F_r_readRing m_textEnd m_bad m_badAt m_token m_at m_behind m_number m_letters m_word g_tape g_c g_words g_isOn).2.2.2.1) ∧ (u.2.2.2.2.1 = (F_r_readRing m_textEnd m_bad m_badAt m_token m_at m_behind m_number m_letters m_word g_tape g_c g_words g_isOn).2.2.2.2.1) ∧ (u.2.2.2.2.2.1 = (F_r_readRing m_textEnd m_bad m_badAt m_token m_at m_behind m_number m_letters m_word g_tape g_c g_words g_isOn).2.2.2.2.2.1) ∧ (u.2.2.2.2.2.2.1 = (F_r_readRing m_textEnd m_bad m_badAt m_token m_at m_behind m_number m_letters m_word g_tape g_c g_words g_isOn).2.2.2.2.2.2.1) ∧ (u.2.2.2.2.2.2.2.1 = (F_r_readRing m_textEnd m_bad m_badAt m_token m_at m_behind m_number m_letters m_word g_tape g_c g_words g_isOn).2.2.2.2.2.2.2.1) ∧ (u.2.2.2.2.2.2.2.2.1 = (F_r_readRing m_textEnd m_bad m_badAt m_token m_at m_behind m_number m_letters m_word g_tape g_c g_words g_isOn).2.2.2.2.2.2.2.2.1) ∧ (u.2.2.2.2.2.2.2.2.2.1 = (F_r_readRing m_textEnd m_bad m_badAt m_token m_at m_behind m_number m_letters m_word g_tape g_c g_words g_isOn).2.2.2.2.2.2.2.2.2.1) ∧ (u.2.2.2.2.2.2.2.2.2.2 = (F_r_readRing m_textEnd m_bad m_badAt m_token m_at m_behind m_number m_letters m_word g_tape g_c g_words g_isOn).2.2.2.2.2.2.2.2.2.2) ∧ ((0 ≤ u.1.toInt ∧ u.1.toInt ≤ 9) ∧ (0 ≤ u.2.2.1.toInt ∧ u.2.2.1.toInt ≤ 4) ∧ (0 ≤ u.2.2.2.1.toInt ∧ u.2.2.2.1.toInt ≤ 900) ∧ (0 ≤ u.2.2.2.2.1.toInt ∧ u.2.2.2.2.1.toInt ≤ 900) ∧ (0 ≤ u.2.2.2.2.2.1.toInt ∧ u.2.2.2.2.2.1.toInt ≤ 9999) ∧ (0 ≤ u.2.2.2.2.2.2.1.toInt ∧ u.2.2.2.2.2.2.1.toInt ≤ 900) ∧ (zC u.2.2.2.2.2.2.2.2.2.1) ∧ (zRg 10 0 1 u.2.2.2.2.2.2.2.2.2.2) ∧ (zNw u.2.2.2.2.2.2.2.2.2.1 u.2.2.2.2.2.2.2.2.2.2) ∧ (m_behind.toInt ≤ u.2.2.2.2.1.toInt) ∧ (0 < m_bad.toInt → 0 < u.1.toInt) ∧ (u.1.toInt ≤ 0 → u.2.2.1.toInt = 0 ∨ m_behind.toInt < u.2.2.2.2.1.toInt) ∧ (u.1.toInt ≤ 0 → u.2.2.1.toInt = 3 → u.2.2.2.2.2.1.toInt = 59 → zNf u.2.2.2.2.2.2.2.2.2.1))) (fun (u : Int32 × Int32 × Int32 × Int32 × Int32 × Int32 × Int32 × Int64 × (Nat → Int64) × (Nat → Int32) × (Nat → Int32)) => [(h0, .inr (12, [.int m_status, .int m_thrown, .long m_above, .long m_under, .ref a_traySort, .ref a_trayMany, .ref a_numbers, .ref a_tape, .int m_taped, .int m_textEnd, .int m_faultKind, .int m_faultAt, .int u.1, .int u.2.1, .int u.2.2.1, .int u.2.2.2.1, .int u.2.2.2.2.1, .int u.2.2.2.2.2.1, .int u.2.2.2.2.2.2.1, .long u.2.2.2.2.2.2.2.1, .ref a_c, .ref a_words, .int m_markMany, .ref a_there, .ref a_tried, .ref a_best, .ref a_found, .int m_thereMany, .int m_foundMany, .int m_orderHow, .int m_orderRing, .int m_orderMany, .int m_hasBest, .long m_bestTop, .long m_bestBy, .ref a_weights, .ref a_shared, .int m_random, .int m_truePlace, .int m_trueWay, .int m_seconds, .int m_done, .int m_feelings, .int m_tries, .int m_leftOver, .int m_playDoor, .int m_playRing, .int m_isOpen, .int m_isOver, .int m_wasTried, .int m_hasPlayed, .ref a_feltNow, .ref a_last, .ref a_kept, .int m_hasSeconds, .int m_hasTurned, .int m_hasRound, .ref a_hasFeels, .ref a_isOn, .int m_firstAct, .long m_meanTop, .long m_meanBy, .ref a_order, .int m_rowMany, .int m_newSteps])), (a_tape, .inl (cA.1 2, 900, .inl g_tape)), (a_c, .inl (cA.1 0, 1825, .inl u.2.2.2.2.2.2.2.2.2.1)), (a_words, .inl (cA.1 1, 105, .inr (.inl u.2.2.2.2.2.2.2.2.1))), (a_isOn, .inl (cA.1 3, 10, .inl u.2.2.2.2.2.2.2.2.2.2))]) 0 0 := by
  have hk_0 : (0 : Int32).toInt = 0 := by decide +kernel
  have hk_1 : (1 : Int32).toInt = 1 := by decide +kernel
  have hk_2 : (2 : Int32).toInt = 2 := by decide +kernel
  have hk_3 : (3 : Int32).toInt = 3 := by decide +kernel
  have hk_5 : (5 : Int32).toInt = 5 := by decide +kernel
  have hk_10 : (10 : Int32).toInt = 10 := by decide +kernel
  have hk_13 : (13 : Int32).toInt = 13 := by decide +kernel
  have hk_1555 : (1555 : Int32).toInt = 1555 := by decide +kernel
  have hk_1558 : (1558 : Int32).toInt = 1558 := by decide +kernel
  refine z_start2v (own := RX12) (by decide) (Nat.le_of_ble_eq_true rfl) rfl ?_
  intro p e s m args below meth c A ls Q hx hb hml hts hown hK hE hT hP hD hS hA hl hret
  have hl : lv_has ls 4 [(0, .ref h0)] := hl
  refine lv_aload_n hx hb dX12_readRing_0 rfl (lv_at hl 0 rfl) ?_
  refine lv_iconst (v := 2) hx hb dX12_readRing_1 (by decide) ?_
  refine lv_iconst (v := 3) hx hb dX12_readRing_2 (by decide) ?_
  refine lv_bipush (v := 13) hx hb dX12_readRing_3 (by decide) ?_
  refine z_callVi (As := [.int 2, .int 3, .int 13]) (rest := []) (wr := [(a_isOn, .inl (cA.1 3, 10, .inl g_isOn))]) ⟨hx, hb, hml, hown, hts⟩ hK hE hT hP hD hS hA (r_readNew_2 l G cA h0 m_status m_thrown m_above m_under a_traySort a_trayMany a_numbers a_tape m_taped m_textEnd m_faultKind m_faultAt m_bad m_badAt m_token m_at m_behind m_number m_letters m_word a_c a_words m_markMany a_there a_tried a_best a_found m_thereMany m_foundMany m_orderHow m_orderRing m_orderMany m_hasBest m_bestTop m_bestBy a_weights a_shared m_random m_truePlace m_trueWay m_seconds m_done m_feelings m_tries m_leftOver m_playDoor m_playRing m_isOpen m_isOver m_wasTried m_hasPlayed a_feltNow a_last a_kept m_hasSeconds m_hasTurned m_hasRound a_hasFeels a_isOn m_firstAct m_meanTop m_meanBy a_order m_rowMany m_newSteps g_tape g_c g_words hr_m_textEnd hr_m_at hr_m_behind (z_rgw hr_m_bad (by decide) (by decide)) hr_m_token hr_m_number hr_m_letters hC_g_c) lk_RX12_207 ⟨rfl, rfl⟩ ⟨Nat.le_of_ble_eq_true rfl, Nat.le_of_ble_eq_true rfl⟩ 12 rfl rfl rfl [0, 1, 2, 3] [4] rfl rfl (by decide) rfl hl.1 rfl (lv_room (Nat.le_of_ble_eq_true rfl)) dX12_readRing_5 ⟨Nat.le_of_ble_eq_true rfl, Nat.le_of_ble_eq_true rfl⟩ (fun r_10 u_11 H locs hw hP hD hS => ?_)
  obtain ⟨n_1, n_2, n_3, n_4, n_5, n_6, n_7, n_8, n_9⟩ := u_11
  try dsimp only at hw
  obtain ⟨he_r_10, he_n_1, he_n_2, he_n_3, he_n_4, he_n_5, he_n_6, he_n_7, he_n_8, he_n_9, hw⟩ := hw
  obtain ⟨hr_r_10, hr_n_1, hr_n_3, hr_n_4, hr_n_5, hr_n_6, hr_n_7, hf_13, hf_14, hf_15, hf_16, hf_17⟩ := hw
  refine lv_istore_n (lv' := [(1, .int r_10), (0, .ref h0)]) hx hb dX12_readRing_8 rfl hl (by decide) rfl (fun ls hl => ?_)
  refine lv_iconst (v := 0) hx hb dX12_readRing_9 (by decide) ?_
  refine lv_istore_n (lv' := [(2, .int 0), (1, .int r_10), (0, .ref h0)]) hx hb dX12_readRing_10 rfl hl (by decide) rfl (fun ls hl => ?_)
  have hlp_270 : ∀ (n_L11a : Nat) (v_134 : Int32) (g_135 : Nat → Int32) (v_136 : Int32) (v_137 : Int32) (v_138 : Int32) (v_139 : Int32) (v_140 : Int32) (v_141 : Int32) (v_142 : Int32) (v_143 : Int64) (g_144 : Nat → Int32) (H : Heap) (locs : List Loc) (ls : Array Slot), (4600 - 5 * v_140.toInt + v_138.toInt - 5 * v_136.toInt).toNat < n_L11a → (0 ≤ v_134.toInt ∧ v_134.toInt ≤ 10) → (zRg 10 0 1 g_135) → (0 ≤ v_136.toInt ∧ v_136.toInt ≤ 9) → (0 ≤ v_138.toInt ∧ v_138.toInt ≤ 4) → (0 ≤ v_139.toInt ∧ v_139.toInt ≤ 900) → (0 ≤ v_140.toInt ∧ v_140.toInt ≤ 900) → (0 ≤ v_141.toInt ∧ v_141.toInt ≤ 9999) → (0 ≤ v_142.toInt ∧ v_142.toInt ≤ 900) → (zC g_144) → (zNw g_144 g_135) → (zNf g_144) → (zRr g_144 g_135 r_10.toInt v_134.toInt) → (v_136.toInt ≤ 0 → (g_144 1462).toInt = r_10.toInt) → (m_behind.toInt ≤ v_140.toInt) → (v_136.toInt ≤ 0 → v_138.toInt = 0 ∨ m_behind.toInt < v_140.toInt) → (F_r_readRing m_textEnd m_bad m_badAt m_token m_at m_behind m_number m_letters m_word g_tape g_c g_words g_isOn = F_r_readRing_L11a m_textEnd g_tape r_10 n_9 n_L11a v_134 g_135 v_136 v_137 v_138 v_139 v_140 v_141 v_142 v_143 g_144) → va_P G vwCl [(a_isOn, .inl (cA.1 3, 10, .inl g_135)), (h0, .inr (12, [.int m_status, .int m_thrown, .long m_above, .long m_under, .ref a_traySort, .ref a_trayMany, .ref a_numbers, .ref a_tape, .int m_taped, .int m_textEnd, .int m_faultKind, .int m_faultAt, .int v_136, .int v_137, .int v_138, .int v_139, .int v_140, .int v_141, .int v_142, .long v_143, .ref a_c, .ref a_words, .int m_markMany, .ref a_there, .ref a_tried, .ref a_best, .ref a_found, .int m_thereMany, .int m_foundMany, .int m_orderHow, .int m_orderRing, .int m_orderMany, .int m_hasBest, .long m_bestTop, .long m_bestBy, .ref a_weights, .ref a_shared, .int m_random, .int m_truePlace, .int m_trueWay, .int m_seconds, .int m_done, .int m_feelings, .int m_tries, .int m_leftOver, .int m_playDoor, .int m_playRing, .int m_isOpen, .int m_isOver, .int m_wasTried, .int m_hasPlayed, .ref a_feltNow, .ref a_last, .ref a_kept, .int m_hasSeconds, .int m_hasTurned, .int m_hasRound, .ref a_hasFeels, .ref a_isOn, .int m_firstAct, .long m_meanTop, .long m_meanBy, .ref a_order, .int m_rowMany, .int m_newSteps])), (a_tape, .inl (cA.1 2, 900, .inl g_tape)), (a_c, .inl (cA.1 0, 1825, .inl g_144)), (a_words, .inl (cA.1 1, 105, .inr (.inl n_9)))] H → va_D A [(a_isOn, .inl (cA.1 3, 10, .inl g_135)), (h0, .inr (12, [.int m_status, .int m_thrown, .long m_above, .long m_under, .ref a_traySort, .ref a_trayMany, .ref a_numbers, .ref a_tape, .int m_taped, .int m_textEnd, .int m_faultKind, .int m_faultAt, .int v_136, .int v_137, .int v_138, .int v_139, .int v_140, .int v_141, .int v_142, .long v_143, .ref a_c, .ref a_words, .int m_markMany, .ref a_there, .ref a_tried, .ref a_best, .ref a_found, .int m_thereMany, .int m_foundMany, .int m_orderHow, .int m_orderRing, .int m_orderMany, .int m_hasBest, .long m_bestTop, .long m_bestBy, .ref a_weights, .ref a_shared, .int m_random, .int m_truePlace, .int m_trueWay, .int m_seconds, .int m_done, .int m_feelings, .int m_tries, .int m_leftOver, .int m_playDoor, .int m_playRing, .int m_isOpen, .int m_isOver, .int m_wasTried, .int m_hasPlayed, .ref a_feltNow, .ref a_last, .ref a_kept, .int m_hasSeconds, .int m_hasTurned, .int m_hasRound, .ref a_hasFeels, .ref a_isOn, .int m_firstAct, .long m_meanTop, .long m_meanBy, .ref a_order, .int m_rowMany, .int m_newSteps])), (a_tape, .inl (cA.1 2, 900, .inl g_tape)), (a_c, .inl (cA.1 0, 1825, .inl g_144)), (a_words, .inl (cA.1 1, 105, .inr (.inl n_9)))] → va_S A s.heap H locs → lv_has ls 4 [(0, .ref h0), (1, .int r_10), (2, .int v_134)] → W p l e ({ frames := 4, cells := 0, slots := 0, locals := 91 }) s m args below meth c H locs 0 0 Q (F0 m 11 ls []) := by
    intro n_L11a
    induction n_L11a with
    | zero =>
      intro v_134 g_135 v_136 v_137 v_138 v_139 v_140 v_141 v_142 v_143 g_144 H locs ls hmu_hlp_270 hr_v_134 hC_g_135 hr_v_136 hr_v_138 hr_v_139 hr_v_140 hr_v_141 hr_v_142 hC_g_144 hs_198 hs_199 hi_200 hi_201 hi_202 hi_203 hF_L11a hP hD hS hl
      exact absurd hmu_hlp_270 (Nat.not_lt_zero _)
    | succ n_L11a ih_271 =>
      intro v_134 g_135 v_136 v_137 v_138 v_139 v_140 v_141 v_142 v_143 g_144 H locs ls hmu_hlp_270 hr_v_134 hC_g_135 hr_v_136 hr_v_138 hr_v_139 hr_v_140 hr_v_141 hr_v_142 hC_g_144 hs_198 hs_199 hi_200 hi_201 hi_202 hi_203 hF_L11a hP hD hS hl
      refine lv_aload_n hx hb dX12_readRing_11 rfl (lv_at hl 0 rfl) ?_
      refine va_get (D := G) (ci := 12) (v := .int v_136) (C := RX12) (T := TX12) (N := 65) hx hb hts inT12 hown hK hP 1 rfl rfl 12 (by decide) (hts _ tw_1897) (fun _ h9 => h9) rfl dX12_readRing_12 ?_
      refine lv_if_ne (tgt := 99) hx hb dX12_readRing_15 (by decide) (fun c_272 => ?_) (fun c_272 => ?_)
      · have b_273 := z_fneT c_272
        refine lv_aload_n hx hb dX12_readRing_99 rfl (lv_at hl 0 rfl) ?_
        refine va_get (D := G) (ci := 12) (v := .int v_136) (C := RX12) (T := TX12) (N := 65) hx hb hts inT12 hown hK hP 1 rfl rfl 12 (by decide) (hts _ tw_1897) (fun _ h9 => h9) rfl dX12_readRing_100 ?_
        refine lv_if_le (tgt := 107) hx hb dX12_readRing_103 (by decide) (fun h9 => (z_no (by have h8 := z_fleT h9; omega))) (fun c_274 => ?_)
        have b_275 := z_fgtF c_274
        have hpost : (0 ≤ v_136.toInt ∧ v_136.toInt ≤ 9) ∧ (0 ≤ v_138.toInt ∧ v_138.toInt ≤ 4) ∧ (0 ≤ v_139.toInt ∧ v_139.toInt ≤ 900) ∧ (0 ≤ v_140.toInt ∧ v_140.toInt ≤ 900) ∧ (0 ≤ v_141.toInt ∧ v_141.toInt ≤ 9999) ∧ (0 ≤ v_142.toInt ∧ v_142.toInt ≤ 900) ∧ (zC g_144) ∧ (zRg 10 0 1 g_135) ∧ (zNw g_144 g_135) ∧ (m_behind.toInt ≤ v_140.toInt) ∧ (0 < m_bad.toInt → 0 < v_136.toInt) ∧ (v_136.toInt ≤ 0 → v_138.toInt = 0 ∨ m_behind.toInt < v_140.toInt) ∧ (v_136.toInt ≤ 0 → v_138.toInt = 3 → v_141.toInt = 59 → zNf g_144) := ⟨hr_v_136, hr_v_138, hr_v_139, hr_v_140, hr_v_141, hr_v_142, hC_g_144, hC_g_135, hs_198, (by omega), (by omega), (by omega), (fun _ _ _ => hs_199)⟩
        have hX_276 : F_r_readRing m_textEnd m_bad m_badAt m_token m_at m_behind m_number m_letters m_word g_tape g_c g_words g_isOn = ((v_136, v_137, v_138, v_139, v_140, v_141, v_142, v_143, n_9, g_144, g_135) : Int32 × Int32 × Int32 × Int32 × Int32 × Int32 × Int32 × Int64 × (Nat → Int64) × (Nat → Int32) × (Nat → Int32)) := by
          refine hF_L11a.trans ?_
          refine (F_r_readRing_L11a_s ..).trans ?_
          refine (if_neg c_272).trans ?_
          exact rfl
        exact hret _ _ _ _ _ (v_136, v_137, v_138, v_139, v_140, v_141, v_142, v_143, n_9, g_144, g_135) [1, 2, 3, 4, 0] hP hD hS rfl (by decide) dX12_readRing_106 ⟨(congrArg (fun z9 => z9.1) hX_276).symm, (congrArg (fun z9 => z9.2.1) hX_276).symm, (congrArg (fun z9 => z9.2.2.1) hX_276).symm, (congrArg (fun z9 => z9.2.2.2.1) hX_276).symm, (congrArg (fun z9 => z9.2.2.2.2.1) hX_276).symm, (congrArg (fun z9 => z9.2.2.2.2.2.1) hX_276).symm, (congrArg (fun z9 => z9.2.2.2.2.2.2.1) hX_276).symm, (congrArg (fun z9 => z9.2.2.2.2.2.2.2.1) hX_276).symm, (congrArg (fun z9 => z9.2.2.2.2.2.2.2.2.1) hX_276).symm, (congrArg (fun z9 => z9.2.2.2.2.2.2.2.2.2.1) hX_276).symm, (congrArg (fun z9 => z9.2.2.2.2.2.2.2.2.2.2) hX_276).symm, hpost⟩
      · have b_277 := z_feqF c_272
        refine lv_aload_n hx hb dX12_readRing_18 rfl (lv_at hl 0 rfl) ?_
        refine va_get (D := G) (ci := 12) (v := .int v_138) (C := RX12) (T := TX12) (N := 65) hx hb hts inT12 hown hK hP 1 rfl rfl 14 (by decide) (hts _ tw_1899) (fun _ h9 => h9) rfl dX12_readRing_19 ?_
        refine lv_iconst (v := 1) hx hb dX12_readRing_22 (by decide) ?_
        refine lv_icmp_ne (tgt := 99) hx hb dX12_readRing_23 (by decide) (fun c_278 => ?_) (fun c_278 => ?_)
        · have b_279 := z_fneT c_278
          refine lv_aload_n hx hb dX12_readRing_99 rfl (lv_at hl 0 rfl) ?_
          refine va_get (D := G) (ci := 12) (v := .int v_136) (C := RX12) (T := TX12) (N := 65) hx hb hts inT12 hown hK hP 1 rfl rfl 12 (by decide) (hts _ tw_1897) (fun _ h9 => h9) rfl dX12_readRing_100 ?_
          refine lv_if_le (tgt := 107) hx hb dX12_readRing_103 (by decide) (fun c_280 => ?_) (fun h9 => (z_no (by have h8 := z_fgtF h9; omega)))
          have b_281 := z_fleT c_280
          refine lv_aload_n hx hb dX12_readRing_107 rfl (lv_at hl 0 rfl) ?_
          refine va_get (D := G) (ci := 12) (v := .ref a_c) (C := RX12) (T := TX12) (N := 65) hx hb hts inT12 hown hK hP 1 rfl rfl 20 (by decide) (hts _ tw_1905) (fun _ h9 => h9) rfl dX12_readRing_108 ?_
          refine lv_sipush (v := 1555) hx hb dX12_readRing_111 (by decide) ?_
          refine lv_iload_n hx hb dX12_readRing_114 rfl (lv_at hl 1 rfl) ?_
          refine lv_iadd hx hb dX12_readRing_115 ?_
          refine lv_topi (fun x_282 he_x_282 => ?_)
          have hq_x_282 := z_addq he_x_282 hk_1555 (rfl : r_10.toInt = _) (by omega) (by omega)
          refine lv_iload_n hx hb dX12_readRing_116 rfl (lv_at hl 2 rfl) ?_
          refine z_iast hx hb hK hP hD hS 3 0 rfl rfl (z_inN (by omega) (by omega)) dX12_readRing_117 (fun g_283 hg_g_283 H locs hP hD hS => ?_)
          have hC_g_283 := z_ctU hC_g_144 hg_g_283 (a := 1555) (b := 1557) (lo := 0) (hi := 10) (by decide +kernel) (by decide +kernel) (by omega) (by omega) (by omega)
          have hw_g_283_1461 := z_cwo hg_g_283 (k := 1461) (by omega) (by omega)
          have hw_g_283_1462 := z_cwo hg_g_283 (k := 1462) (by omega) (by omega)
          have hs_284 : zNw g_283 g_135 := (zNw_sz hs_198 hg_g_283 (by omega) (by omega) (by omega))
          have hs_285 : zNf g_283 := (zNf_fr hs_199 hg_g_283 (a := 1555) (b := 1557) (by decide +kernel) (by omega) (by omega))
          refine lv_aload_n hx hb dX12_readRing_118 rfl (lv_at hl 0 rfl) ?_
          refine va_get (D := G) (ci := 12) (v := .ref a_c) (C := RX12) (T := TX12) (N := 65) hx hb hts inT12 hown hK hP 1 rfl rfl 20 (by decide) (hts _ tw_1905) (fun _ h9 => h9) rfl dX12_readRing_119 ?_
          refine lv_sipush (v := 1462) hx hb dX12_readRing_122 (by decide) ?_
          refine lv_dup2_11 hx hb dX12_readRing_125 rfl rfl ?_
          refine va_iald hx hb hK hP 3 0 rfl rfl (z_in (i := 1462) (n := 1825) (by decide +kernel) (by decide +kernel)) dX12_readRing_126 ?_
          refine lv_topi (fun x_286 he_x_286 => ?_)
          have hr_x_286 := z_ctk hC_g_283 he_x_286 (k := 1462) (lo := 0) (hi := 3) (by decide +kernel) (by decide +kernel) (by decide +kernel)
          have hv_x_286 := z_cv he_x_286 (k := 1462) (by decide +kernel)
          refine lv_iconst (v := 1) hx hb dX12_readRing_127 (by decide) ?_
          refine lv_iadd hx hb dX12_readRing_128 ?_
          refine lv_topi (fun x_287 he_x_287 => ?_)
          have hq_x_287 := z_addq he_x_287 (rfl : x_286.toInt = _) hk_1 (by omega) (by omega)
          refine z_iast hx hb hK hP hD hS 3 0 rfl rfl (z_in (i := 1462) (n := 1825) (by decide +kernel) (by decide +kernel)) dX12_readRing_129 (fun g_288 hg_g_288 H locs hP hD hS => ?_)
          have hC_g_288 := z_ctUk hC_g_283 hg_g_288 (k := 1462) (lo := 0) (hi := 3) (by decide +kernel) (by decide +kernel) (by decide +kernel) (by omega)
          have hw_g_288_1461 := z_cwo hg_g_288 (k := 1461) (by decide +kernel) (by decide +kernel)
          have hw_g_288_1462 := z_cwk hg_g_288 (k := 1462) (by decide +kernel)
          have hs_289 : zNw g_288 g_135 := (zNw_ri hs_198 hg_g_283 (by omega) rfl hg_g_288 (by decide +kernel) (by omega) (by omega) (by omega) (k := r_10.toInt) (by omega) hi_200)
          have hs_290 : zNf g_288 := (zNf_fr hs_285 hg_g_288 (a := 1462) (b := 1462) (by decide +kernel) (by decide +kernel) (by decide +kernel))
          have hpost : (0 ≤ v_136.toInt ∧ v_136.toInt ≤ 9) ∧ (0 ≤ v_138.toInt ∧ v_138.toInt ≤ 4) ∧ (0 ≤ v_139.toInt ∧ v_139.toInt ≤ 900) ∧ (0 ≤ v_140.toInt ∧ v_140.toInt ≤ 900) ∧ (0 ≤ v_141.toInt ∧ v_141.toInt ≤ 9999) ∧ (0 ≤ v_142.toInt ∧ v_142.toInt ≤ 900) ∧ (zC g_288) ∧ (zRg 10 0 1 g_135) ∧ (zNw g_288 g_135) ∧ (m_behind.toInt ≤ v_140.toInt) ∧ (0 < m_bad.toInt → 0 < v_136.toInt) ∧ (v_136.toInt ≤ 0 → v_138.toInt = 0 ∨ m_behind.toInt < v_140.toInt) ∧ (v_136.toInt ≤ 0 → v_138.toInt = 3 → v_141.toInt = 59 → zNf g_288) := ⟨hr_v_136, hr_v_138, hr_v_139, hr_v_140, hr_v_141, hr_v_142, hC_g_288, hC_g_135, hs_289, (by omega), (by omega), (by omega), (fun _ _ _ => hs_290)⟩
          have hX_291 : F_r_readRing m_textEnd m_bad m_badAt m_token m_at m_behind m_number m_letters m_word g_tape g_c g_words g_isOn = ((v_136, v_137, v_138, v_139, v_140, v_141, v_142, v_143, n_9, g_288, g_135) : Int32 × Int32 × Int32 × Int32 × Int32 × Int32 × Int32 × Int64 × (Nat → Int64) × (Nat → Int32) × (Nat → Int32)) := by
            refine hF_L11a.trans ?_
            refine (F_r_readRing_L11a_s ..).trans ?_
            refine (if_pos c_272).trans ?_
            refine (if_neg c_278).trans ?_
            try (extract_lets -merge -useContext +onlyGivenNames y9; have e9 : x_282 = y9 := (by first | exact he_x_282 | exact he_x_282.symm); clear_value y9; subst e9)
            try (extract_lets -merge -useContext +onlyGivenNames y9; have e9 : g_283 = y9 := (by first | exact hg_g_283 | exact hg_g_283.symm); clear_value y9; subst e9)
            try (extract_lets -merge -useContext +onlyGivenNames y9; have e9 : x_286 = y9 := (by first | exact he_x_286 | exact he_x_286.symm); clear_value y9; subst e9)
            try (extract_lets -merge -useContext +onlyGivenNames y9; have e9 : x_287 = y9 := (by first | exact he_x_287 | exact he_x_287.symm); clear_value y9; subst e9)
            try (extract_lets -merge -useContext +onlyGivenNames y9; have e9 : g_288 = y9 := (by first | exact hg_g_288 | exact hg_g_288.symm); clear_value y9; subst e9)
            exact rfl
          exact hret _ _ _ _ _ (v_136, v_137, v_138, v_139, v_140, v_141, v_142, v_143, n_9, g_288, g_135) [1, 2, 3, 4, 0] hP hD hS rfl (by decide) dX12_readRing_130 ⟨(congrArg (fun z9 => z9.1) hX_291).symm, (congrArg (fun z9 => z9.2.1) hX_291).symm, (congrArg (fun z9 => z9.2.2.1) hX_291).symm, (congrArg (fun z9 => z9.2.2.2.1) hX_291).symm, (congrArg (fun z9 => z9.2.2.2.2.1) hX_291).symm, (congrArg (fun z9 => z9.2.2.2.2.2.1) hX_291).symm, (congrArg (fun z9 => z9.2.2.2.2.2.2.1) hX_291).symm, (congrArg (fun z9 => z9.2.2.2.2.2.2.2.1) hX_291).symm, (congrArg (fun z9 => z9.2.2.2.2.2.2.2.2.1) hX_291).symm, (congrArg (fun z9 => z9.2.2.2.2.2.2.2.2.2.1) hX_291).symm, (congrArg (fun z9 => z9.2.2.2.2.2.2.2.2.2.2) hX_291).symm, hpost⟩
        · have b_292 := z_feqF c_278
          refine lv_aload_n hx hb dX12_readRing_26 rfl (lv_at hl 0 rfl) ?_
          refine lv_iconst (v := 1) hx hb dX12_readRing_27 (by decide) ?_
          refine lv_iconst (v := 3) hx hb dX12_readRing_28 (by decide) ?_
          refine z_callVi (As := [.int 1, .int 3]) (rest := []) (wr := [(a_isOn, .inl (cA.1 3, 10, .inl g_135)), (a_tape, .inl (cA.1 2, 900, .inl g_tape))]) ⟨hx, hb, hml, hown, hts⟩ hK hE hT hP hD hS hA (r_readOld_1 l G cA h0 m_status m_thrown m_above m_under a_traySort a_trayMany a_numbers a_tape m_taped m_textEnd m_faultKind m_faultAt v_136 v_137 v_138 v_139 v_140 v_141 v_142 v_143 a_c a_words m_markMany a_there a_tried a_best a_found m_thereMany m_foundMany m_orderHow m_orderRing m_orderMany m_hasBest m_bestTop m_bestBy a_weights a_shared m_random m_truePlace m_trueWay m_seconds m_done m_feelings m_tries m_leftOver m_playDoor m_playRing m_isOpen m_isOver m_wasTried m_hasPlayed a_feltNow a_last a_kept m_hasSeconds m_hasTurned m_hasRound a_hasFeels a_isOn m_firstAct m_meanTop m_meanBy a_order m_rowMany m_newSteps g_144 n_9 hr_v_139 hr_v_136 hr_v_138 hr_v_142 hC_g_144) lk_RX12_217 ⟨rfl, rfl⟩ ⟨Nat.le_of_ble_eq_true rfl, Nat.le_of_ble_eq_true rfl⟩ 12 rfl rfl rfl [1, 3, 4] [0, 2] rfl rfl (by decide) rfl hl.1 rfl (lv_room (Nat.le_of_ble_eq_true rfl)) dX12_readRing_29 ⟨Nat.le_of_ble_eq_true rfl, Nat.le_of_ble_eq_true rfl⟩ (fun r_295 u_296 H locs hw hP hD hS => ?_)
          obtain ⟨n_293, n_294⟩ := u_296
          try dsimp only at hw
          obtain ⟨he_r_295, he_n_293, he_n_294, hw⟩ := hw
          obtain ⟨hr_r_295, hr_n_293, hf_298, hf_299, hf_300⟩ := hw
          refine lv_istore_n (lv' := [(3, .int r_295), (0, .ref h0), (1, .int r_10), (2, .int v_134)]) hx hb dX12_readRing_32 rfl hl (by decide) rfl (fun ls hl => ?_)
          refine lv_aload_n hx hb dX12_readRing_33 rfl (lv_at hl 1 rfl) ?_
          refine va_get (D := G) (ci := 12) (v := .int n_293) (C := RX12) (T := TX12) (N := 65) hx hb hts inT12 hown hK hP 2 rfl rfl 12 (by decide) (hts _ tw_1897) (fun _ h9 => h9) rfl dX12_readRing_34 ?_
          refine lv_if_ne (tgt := 58) hx hb dX12_readRing_37 (by decide) (fun c_301 => ?_) (fun c_301 => ?_)
          · have b_302 := z_fneT c_301
            refine lv_aload_n hx hb dX12_readRing_58 rfl (lv_at hl 1 rfl) ?_
            refine va_get (D := G) (ci := 12) (v := .int n_293) (C := RX12) (T := TX12) (N := 65) hx hb hts inT12 hown hK hP 2 rfl rfl 12 (by decide) (hts _ tw_1897) (fun _ h9 => h9) rfl dX12_readRing_59 ?_
            refine lv_if_le (tgt := 66) hx hb dX12_readRing_62 (by decide) (fun h9 => (z_no (by have h8 := z_fleT h9; omega))) (fun c_303 => ?_)
            have b_304 := z_fgtF c_303
            have hpost : (0 ≤ n_293.toInt ∧ n_293.toInt ≤ 9) ∧ (0 ≤ v_138.toInt ∧ v_138.toInt ≤ 4) ∧ (0 ≤ v_139.toInt ∧ v_139.toInt ≤ 900) ∧ (0 ≤ v_140.toInt ∧ v_140.toInt ≤ 900) ∧ (0 ≤ v_141.toInt ∧ v_141.toInt ≤ 9999) ∧ (0 ≤ v_142.toInt ∧ v_142.toInt ≤ 900) ∧ (zC g_144) ∧ (zRg 10 0 1 g_135) ∧ (zNw g_144 g_135) ∧ (m_behind.toInt ≤ v_140.toInt) ∧ (0 < m_bad.toInt → 0 < n_293.toInt) ∧ (n_293.toInt ≤ 0 → v_138.toInt = 0 ∨ m_behind.toInt < v_140.toInt) ∧ (n_293.toInt ≤ 0 → v_138.toInt = 3 → v_141.toInt = 59 → zNf g_144) := ⟨hr_n_293, hr_v_138, hr_v_139, hr_v_140, hr_v_141, hr_v_142, hC_g_144, hC_g_135, hs_198, (by omega), (by omega), (by omega), (fun _ _ _ => hs_199)⟩
            have hX_305 : F_r_readRing m_textEnd m_bad m_badAt m_token m_at m_behind m_number m_letters m_word g_tape g_c g_words g_isOn = ((n_293, n_294, v_138, v_139, v_140, v_141, v_142, v_143, n_9, g_144, g_135) : Int32 × Int32 × Int32 × Int32 × Int32 × Int32 × Int32 × Int64 × (Nat → Int64) × (Nat → Int32) × (Nat → Int32)) := by
              refine hF_L11a.trans ?_
              refine (F_r_readRing_L11a_s ..).trans ?_
              refine (if_pos c_272).trans ?_
              refine (if_pos c_278).trans ?_
              extract_lets -merge -useContext +onlyGivenNames w9 y2_0 y2_1 y2_2; have e9 : (r_295, n_293, n_294) = w9 := ((z_tS he_r_295 (z_tS he_n_293 he_n_294.symm))).symm; clear_value w9; subst e9
              refine (if_neg c_301).trans ?_
              exact rfl
            exact hret _ _ _ _ _ (n_293, n_294, v_138, v_139, v_140, v_141, v_142, v_143, n_9, g_144, g_135) [2, 1, 3, 4, 0] hP hD hS rfl (by decide) dX12_readRing_65 ⟨(congrArg (fun z9 => z9.1) hX_305).symm, (congrArg (fun z9 => z9.2.1) hX_305).symm, (congrArg (fun z9 => z9.2.2.1) hX_305).symm, (congrArg (fun z9 => z9.2.2.2.1) hX_305).symm, (congrArg (fun z9 => z9.2.2.2.2.1) hX_305).symm, (congrArg (fun z9 => z9.2.2.2.2.2.1) hX_305).symm, (congrArg (fun z9 => z9.2.2.2.2.2.2.1) hX_305).symm, (congrArg (fun z9 => z9.2.2.2.2.2.2.2.1) hX_305).symm, (congrArg (fun z9 => z9.2.2.2.2.2.2.2.2.1) hX_305).symm, (congrArg (fun z9 => z9.2.2.2.2.2.2.2.2.2.1) hX_305).symm, (congrArg (fun z9 => z9.2.2.2.2.2.2.2.2.2.2) hX_305).symm, hpost⟩
          · have b_306 := z_feqF c_301
            refine lv_aload_n hx hb dX12_readRing_40 rfl (lv_at hl 1 rfl) ?_
            refine va_get (D := G) (ci := 12) (v := .ref a_isOn) (C := RX12) (T := TX12) (N := 65) hx hb hts inT12 hown hK hP 2 rfl rfl 58 (by decide) (hts _ tw_1941) (fun _ h9 => h9) rfl dX12_readRing_41 ?_
            refine lv_iload_n hx hb dX12_readRing_44 rfl (lv_at hl 0 rfl) ?_
            refine va_zald hx hb hK hP 0 3 rfl rfl (z_inN (by omega) (by omega)) dX12_readRing_45 ?_
            refine lv_topi (fun x_307 he_x_307 => ?_)
            have hr_x_307 := z_rg hC_g_135 he_x_307 (by omega) (by omega)
            refine lv_if_eq (tgt := 58) hx hb dX12_readRing_46 (by decide) (fun c_308 => ?_) (fun c_308 => ?_)
            · have b_309 := z_feqT c_308
              refine lv_aload_n hx hb dX12_readRing_58 rfl (lv_at hl 1 rfl) ?_
              refine va_get (D := G) (ci := 12) (v := .int n_293) (C := RX12) (T := TX12) (N := 65) hx hb hts inT12 hown hK hP 2 rfl rfl 12 (by decide) (hts _ tw_1897) (fun _ h9 => h9) rfl dX12_readRing_59 ?_
              refine lv_if_le (tgt := 66) hx hb dX12_readRing_62 (by decide) (fun c_310 => ?_) (fun h9 => (z_no (by have h8 := z_fgtF h9; omega)))
              have b_311 := z_fleT c_310
              have hn9 := zRr_room hi_200 hC_g_144.1 he_x_307 (by omega) (by omega) (by omega) (by omega)
              refine lv_aload_n hx hb dX12_readRing_66 rfl (lv_at hl 1 rfl) ?_
              refine va_get (D := G) (ci := 12) (v := .ref a_isOn) (C := RX12) (T := TX12) (N := 65) hx hb hts inT12 hown hK hP 2 rfl rfl 58 (by decide) (hts _ tw_1941) (fun _ h9 => h9) rfl dX12_readRing_67 ?_
              refine lv_iload_n hx hb dX12_readRing_70 rfl (lv_at hl 0 rfl) ?_
              refine lv_iconst (v := 1) hx hb dX12_readRing_71 (by decide) ?_
              refine z_zast hx hb hK hP hD hS 0 3 rfl rfl (z_inN (by omega) (by omega)) dX12_readRing_72 (fun g_312 hg_g_312 H locs hP hD hS => ?_)
              have hC_g_312 := z_rgZ hC_g_135 hg_g_312 (Or.inr rfl)
              have hs_313 : zNw g_144 g_312 := (zNw_on1 hs_198 hg_g_312)
              refine lv_aload_n hx hb dX12_readRing_73 rfl (lv_at hl 1 rfl) ?_
              refine va_get (D := G) (ci := 12) (v := .ref a_c) (C := RX12) (T := TX12) (N := 65) hx hb hts inT12 hown hK hP 2 rfl rfl 20 (by decide) (hts _ tw_1905) (fun _ h9 => h9) rfl dX12_readRing_74 ?_
              refine lv_sipush (v := 1558) hx hb dX12_readRing_77 (by decide) ?_
              refine lv_bipush (v := 10) hx hb dX12_readRing_80 (by decide) ?_
              refine lv_iload_n hx hb dX12_readRing_82 rfl (lv_at hl 2 rfl) ?_
              refine lv_imul hx hb dX12_readRing_83 ?_
              refine lv_topi (fun x_314 he_x_314 => ?_)
              have hq_x_314 := z_mulq he_x_314 hk_10 (rfl : r_10.toInt = _) (by omega) (by omega)
              refine lv_iadd hx hb dX12_readRing_84 ?_
              refine lv_topi (fun x_315 he_x_315 => ?_)
              have hq_x_315 := z_addq he_x_315 hk_1558 (rfl : x_314.toInt = _) (by omega) (by omega)
              refine lv_iload_n hx hb dX12_readRing_85 rfl (lv_at hl 3 rfl) ?_
              refine lv_iadd hx hb dX12_readRing_86 ?_
              refine lv_topi (fun x_316 he_x_316 => ?_)
              have hq_x_316 := z_addq he_x_316 (rfl : x_315.toInt = _) (rfl : v_134.toInt = _) (by omega) (by omega)
              refine lv_iload_n hx hb dX12_readRing_87 rfl (lv_at hl 0 rfl) ?_
              refine z_iast hx hb hK hP hD hS 3 0 rfl rfl (z_inN (by omega) (by omega)) dX12_readRing_88 (fun g_317 hg_g_317 H locs hP hD hS => ?_)
              have hC_g_317 := z_ctU hC_g_144 hg_g_317 (a := 1558) (b := 1587) (lo := 0) (hi := 9) (by decide +kernel) (by decide +kernel) (by omega) (by omega) (by omega)
              have hw_g_317_1461 := z_cwo hg_g_317 (k := 1461) (by omega) (by omega)
              have hw_g_317_1462 := z_cwo hg_g_317 (k := 1462) (by omega) (by omega)
              have hs_318 : zNw g_317 g_312 := (zNw_w hs_313 hg_g_317 (n := v_134.toInt) (by omega) (by omega) (by omega) (by omega) (by omega))
              have hs_319 : zNf g_317 := (zNf_fr hs_199 hg_g_317 (a := 1558) (b := 1587) (by decide +kernel) (by omega) (by omega))
              obtain ⟨x_320, he_x_320⟩ : ∃ z : Int32, z = v_134 + 1 := ⟨_, rfl⟩
              have hq_x_320 := z_addq he_x_320 (rfl : v_134.toInt = _) hk_1 (by omega) (by omega)
              refine lv_iinc (v := x_320) (lv' := [(2, .int x_320), (3, .int r_295), (0, .ref h0), (1, .int r_10)]) hx hb dX12_readRing_89 hl (k := 3) rfl ((z_ofi (by decide +kernel)).trans he_x_320.symm) (by decide) rfl (fun ls hl => ?_)
              refine lv_aload_n hx hb dX12_readRing_92 rfl (lv_at hl 2 rfl) ?_
              refine z_callVv (As := []) (rest := []) (wr := [(a_isOn, .inl (cA.1 3, 10, .inl g_312)), (a_c, .inl (cA.1 0, 1825, .inl g_317)), (a_words, .inl (cA.1 1, 105, .inr (.inl n_9)))]) ⟨hx, hb, hml, hown, hts⟩ hK hE hT hP hD hS hA (r_next2 l G cA h0 m_status m_thrown m_above m_under a_traySort a_trayMany a_numbers a_tape m_taped m_textEnd m_faultKind m_faultAt n_293 n_294 v_138 v_139 v_140 v_141 v_142 v_143 a_c a_words m_markMany a_there a_tried a_best a_found m_thereMany m_foundMany m_orderHow m_orderRing m_orderMany m_hasBest m_bestTop m_bestBy a_weights a_shared m_random m_truePlace m_trueWay m_seconds m_done m_feelings m_tries m_leftOver m_playDoor m_playRing m_isOpen m_isOver m_wasTried m_hasPlayed a_feltNow a_last a_kept m_hasSeconds m_hasTurned m_hasRound a_hasFeels a_isOn m_firstAct m_meanTop m_meanBy a_order m_rowMany m_newSteps g_tape hr_m_textEnd hr_v_139 hr_v_140 hr_v_138 hr_v_141 hr_v_142) lk_RX12_184 ⟨rfl, rfl⟩ ⟨Nat.le_of_ble_eq_true rfl, Nat.le_of_ble_eq_true rfl⟩ 12 rfl rfl rfl [2, 1] [0, 3, 4] rfl rfl (by decide) rfl hl.1 rfl (lv_room (Nat.le_of_ble_eq_true rfl)) dX12_readRing_93 ⟨Nat.le_of_ble_eq_true rfl, Nat.le_of_ble_eq_true rfl⟩ (fun u_328 H locs hw hP hD hS => ?_)
              obtain ⟨n_321, n_322, n_323, n_324, n_325, n_326⟩ := u_328
              try dsimp only at hw
              obtain ⟨he_n_321, he_n_322, he_n_323, he_n_324, he_n_325, he_n_326, hw⟩ := hw
              obtain ⟨hr_n_321, hr_n_322, hr_n_323, hr_n_324, hr_n_325, hf_330, hf_331⟩ := hw
              refine lv_goto (tgt := 11) hx hb dX12_readRing_96 (by decide) ?_
              have hX_332 : F_r_readRing m_textEnd m_bad m_badAt m_token m_at m_behind m_number m_letters m_word g_tape g_c g_words g_isOn = F_r_readRing_L11a m_textEnd g_tape r_10 n_9 n_L11a x_320 g_312 n_293 n_294 n_321 n_322 n_323 n_324 n_325 n_326 g_317 := by
                refine hF_L11a.trans ?_
                refine (F_r_readRing_L11a_s ..).trans ?_
                refine (if_pos c_272).trans ?_
                refine (if_pos c_278).trans ?_
                extract_lets -merge -useContext +onlyGivenNames w9 y2_0 y2_1 y2_2; have e9 : (r_295, n_293, n_294) = w9 := ((z_tS he_r_295 (z_tS he_n_293 he_n_294.symm))).symm; clear_value w9; subst e9
                refine (if_pos c_301).trans ?_
                try (extract_lets -merge -useContext +onlyGivenNames y9; have e9 : x_307 = y9 := (by first | exact he_x_307 | exact he_x_307.symm); clear_value y9; subst e9)
                refine (if_pos c_308).trans ?_
                try (extract_lets -merge -useContext +onlyGivenNames y9; have e9 : g_312 = y9 := (by first | exact hg_g_312 | exact hg_g_312.symm); clear_value y9; subst e9)
                try (extract_lets -merge -useContext +onlyGivenNames y9; have e9 : x_314 = y9 := (by first | exact he_x_314 | exact he_x_314.symm); clear_value y9; subst e9)
                try (extract_lets -merge -useContext +onlyGivenNames y9; have e9 : x_315 = y9 := (by first | exact he_x_315 | exact he_x_315.symm); clear_value y9; subst e9)
                try (extract_lets -merge -useContext +onlyGivenNames y9; have e9 : x_316 = y9 := (by first | exact he_x_316 | exact he_x_316.symm); clear_value y9; subst e9)
                try (extract_lets -merge -useContext +onlyGivenNames y9; have e9 : g_317 = y9 := (by first | exact hg_g_317 | exact hg_g_317.symm); clear_value y9; subst e9)
                try (extract_lets -merge -useContext +onlyGivenNames y9; have e9 : x_320 = y9 := (by first | exact he_x_320 | exact he_x_320.symm); clear_value y9; subst e9)
                extract_lets -merge -useContext +onlyGivenNames w9 y12_0 y12_1 y12_2 y12_3 y12_4 y12_5; have e9 : (n_321, n_322, n_323, n_324, n_325, n_326) = w9 := ((z_tS he_n_321 (z_tS he_n_322 (z_tS he_n_323 (z_tS he_n_324 (z_tS he_n_325 he_n_326.symm)))))).symm; clear_value w9; subst e9
                exact rfl
              have hP := hP.sub (ws' := [(a_isOn, .inl (cA.1 3, 10, .inl g_312)), (h0, .inr (12, [.int m_status, .int m_thrown, .long m_above, .long m_under, .ref a_traySort, .ref a_trayMany, .ref a_numbers, .ref a_tape, .int m_taped, .int m_textEnd, .int m_faultKind, .int m_faultAt, .int n_293, .int n_294, .int n_321, .int n_322, .int n_323, .int n_324, .int n_325, .long n_326, .ref a_c, .ref a_words, .int m_markMany, .ref a_there, .ref a_tried, .ref a_best, .ref a_found, .int m_thereMany, .int m_foundMany, .int m_orderHow, .int m_orderRing, .int m_orderMany, .int m_hasBest, .long m_bestTop, .long m_bestBy, .ref a_weights, .ref a_shared, .int m_random, .int m_truePlace, .int m_trueWay, .int m_seconds, .int m_done, .int m_feelings, .int m_tries, .int m_leftOver, .int m_playDoor, .int m_playRing, .int m_isOpen, .int m_isOver, .int m_wasTried, .int m_hasPlayed, .ref a_feltNow, .ref a_last, .ref a_kept, .int m_hasSeconds, .int m_hasTurned, .int m_hasRound, .ref a_hasFeels, .ref a_isOn, .int m_firstAct, .long m_meanTop, .long m_meanBy, .ref a_order, .int m_rowMany, .int m_newSteps])), (a_tape, .inl (cA.1 2, 900, .inl g_tape)), (a_c, .inl (cA.1 0, 1825, .inl g_317)), (a_words, .inl (cA.1 1, 105, .inr (.inl n_9)))]) [0, 3, 4, 1, 2] rfl
              have hD := hD.sub (ws' := [(a_isOn, .inl (cA.1 3, 10, .inl g_312)), (h0, .inr (12, [.int m_status, .int m_thrown, .long m_above, .long m_under, .ref a_traySort, .ref a_trayMany, .ref a_numbers, .ref a_tape, .int m_taped, .int m_textEnd, .int m_faultKind, .int m_faultAt, .int n_293, .int n_294, .int n_321, .int n_322, .int n_323, .int n_324, .int n_325, .long n_326, .ref a_c, .ref a_words, .int m_markMany, .ref a_there, .ref a_tried, .ref a_best, .ref a_found, .int m_thereMany, .int m_foundMany, .int m_orderHow, .int m_orderRing, .int m_orderMany, .int m_hasBest, .long m_bestTop, .long m_bestBy, .ref a_weights, .ref a_shared, .int m_random, .int m_truePlace, .int m_trueWay, .int m_seconds, .int m_done, .int m_feelings, .int m_tries, .int m_leftOver, .int m_playDoor, .int m_playRing, .int m_isOpen, .int m_isOver, .int m_wasTried, .int m_hasPlayed, .ref a_feltNow, .ref a_last, .ref a_kept, .int m_hasSeconds, .int m_hasTurned, .int m_hasRound, .ref a_hasFeels, .ref a_isOn, .int m_firstAct, .long m_meanTop, .long m_meanBy, .ref a_order, .int m_rowMany, .int m_newSteps])), (a_tape, .inl (cA.1 2, 900, .inl g_tape)), (a_c, .inl (cA.1 0, 1825, .inl g_317)), (a_words, .inl (cA.1 1, 105, .inr (.inl n_9)))]) [0, 3, 4, 1, 2] (by decide) rfl
              exact ih_271 x_320 g_312 n_293 n_294 n_321 n_322 n_323 n_324 n_325 n_326 g_317 H locs ls (by omega) (by omega) hC_g_312 hr_n_293 hr_n_321 hr_n_322 hr_n_323 hr_n_324 hr_n_325 hC_g_317 hs_318 hs_319 (by rw [hq_x_320]; exact zRr_step hi_200 he_x_307 (by omega) (by omega) (by omega) hg_g_312 hg_g_317 (by omega) (by omega) (by omega)) (by omega) (by omega) (by omega) hX_332 hP hD hS (lv_sub hl [2, 3, 0] rfl)
            · have b_333 := z_fneF c_308
              refine lv_aload_n hx hb dX12_readRing_49 rfl (lv_at hl 1 rfl) ?_
              refine lv_iconst (v := 5) hx hb dX12_readRing_50 (by decide) ?_
              refine lv_aload_n hx hb dX12_readRing_51 rfl (lv_at hl 1 rfl) ?_
              refine va_get (D := G) (ci := 12) (v := .int v_139) (C := RX12) (T := TX12) (N := 65) hx hb hts inT12 hown hK hP 2 rfl rfl 15 (by decide) (hts _ tw_1900) (fun _ h9 => h9) rfl dX12_readRing_52 ?_
              refine z_callVv (As := [.int 5, .int v_139]) (rest := []) (wr := [(a_isOn, .inl (cA.1 3, 10, .inl g_135)), (a_tape, .inl (cA.1 2, 900, .inl g_tape)), (a_c, .inl (cA.1 0, 1825, .inl g_144)), (a_words, .inl (cA.1 1, 105, .inr (.inl n_9)))]) ⟨hx, hb, hml, hown, hts⟩ hK hE hT hP hD hS hA (r_fail l G cA h0 m_status m_thrown m_above m_under a_traySort a_trayMany a_numbers a_tape m_taped m_textEnd m_faultKind m_faultAt n_293 n_294 v_138 v_139 v_140 v_141 v_142 v_143 a_c a_words m_markMany a_there a_tried a_best a_found m_thereMany m_foundMany m_orderHow m_orderRing m_orderMany m_hasBest m_bestTop m_bestBy a_weights a_shared m_random m_truePlace m_trueWay m_seconds m_done m_feelings m_tries m_leftOver m_playDoor m_playRing m_isOpen m_isOver m_wasTried m_hasPlayed a_feltNow a_last a_kept m_hasSeconds m_hasTurned m_hasRound a_hasFeels a_isOn m_firstAct m_meanTop m_meanBy a_order m_rowMany m_newSteps 5 v_139 (by decide +kernel) hr_n_293) lk_RX12_180 ⟨rfl, rfl⟩ ⟨Nat.le_of_ble_eq_true rfl, Nat.le_of_ble_eq_true rfl⟩ 12 rfl rfl rfl [2] [0, 1, 3, 4] rfl rfl (by decide) rfl hl.1 rfl (lv_room (Nat.le_of_ble_eq_true rfl)) dX12_readRing_55 ⟨Nat.le_of_ble_eq_true rfl, Nat.le_of_ble_eq_true rfl⟩ (fun u_337 H locs hw hP hD hS => ?_)
              obtain ⟨n_334, n_335⟩ := u_337
              try dsimp only at hw
              obtain ⟨he_n_334, he_n_335, hw⟩ := hw
              obtain ⟨hr_n_334, hf_339⟩ := hw
              refine lv_aload_n hx hb dX12_readRing_58 rfl (lv_at hl 1 rfl) ?_
              refine va_get (D := G) (ci := 12) (v := .int n_334) (C := RX12) (T := TX12) (N := 65) hx hb hts inT12 hown hK hP 4 rfl rfl 12 (by decide) (hts _ tw_1897) (fun _ h9 => h9) rfl dX12_readRing_59 ?_
              refine lv_if_le (tgt := 66) hx hb dX12_readRing_62 (by decide) (fun h9 => (z_no (by have h8 := z_fleT h9; omega))) (fun c_340 => ?_)
              have b_341 := z_fgtF c_340
              have hpost : (0 ≤ n_334.toInt ∧ n_334.toInt ≤ 9) ∧ (0 ≤ v_138.toInt ∧ v_138.toInt ≤ 4) ∧ (0 ≤ v_139.toInt ∧ v_139.toInt ≤ 900) ∧ (0 ≤ v_140.toInt ∧ v_140.toInt ≤ 900) ∧ (0 ≤ v_141.toInt ∧ v_141.toInt ≤ 9999) ∧ (0 ≤ v_142.toInt ∧ v_142.toInt ≤ 900) ∧ (zC g_144) ∧ (zRg 10 0 1 g_135) ∧ (zNw g_144 g_135) ∧ (m_behind.toInt ≤ v_140.toInt) ∧ (0 < m_bad.toInt → 0 < n_334.toInt) ∧ (n_334.toInt ≤ 0 → v_138.toInt = 0 ∨ m_behind.toInt < v_140.toInt) ∧ (n_334.toInt ≤ 0 → v_138.toInt = 3 → v_141.toInt = 59 → zNf g_144) := ⟨(z_rgw hr_n_334 (by decide) (by decide)), hr_v_138, hr_v_139, hr_v_140, hr_v_141, hr_v_142, hC_g_144, hC_g_135, hs_198, (by omega), (by omega), (by omega), (fun _ _ _ => hs_199)⟩
              have hX_342 : F_r_readRing m_textEnd m_bad m_badAt m_token m_at m_behind m_number m_letters m_word g_tape g_c g_words g_isOn = ((n_334, n_335, v_138, v_139, v_140, v_141, v_142, v_143, n_9, g_144, g_135) : Int32 × Int32 × Int32 × Int32 × Int32 × Int32 × Int32 × Int64 × (Nat → Int64) × (Nat → Int32) × (Nat → Int32)) := by
                refine hF_L11a.trans ?_
                refine (F_r_readRing_L11a_s ..).trans ?_
                refine (if_pos c_272).trans ?_
                refine (if_pos c_278).trans ?_
                extract_lets -merge -useContext +onlyGivenNames w9 y2_0 y2_1 y2_2; have e9 : (r_295, n_293, n_294) = w9 := ((z_tS he_r_295 (z_tS he_n_293 he_n_294.symm))).symm; clear_value w9; subst e9
                refine (if_pos c_301).trans ?_
                try (extract_lets -merge -useContext +onlyGivenNames y9; have e9 : x_307 = y9 := (by first | exact he_x_307 | exact he_x_307.symm); clear_value y9; subst e9)
                refine (if_neg c_308).trans ?_
                extract_lets -merge -useContext +onlyGivenNames w9 y6_0 y6_1; have e9 : (n_334, n_335) = w9 := ((z_tS he_n_334 he_n_335.symm)).symm; clear_value w9; subst e9
                exact rfl
              exact hret _ _ _ _ _ (n_334, n_335, v_138, v_139, v_140, v_141, v_142, v_143, n_9, g_144, g_135) [4, 1, 2, 3, 0] hP hD hS rfl (by decide) dX12_readRing_65 ⟨(congrArg (fun z9 => z9.1) hX_342).symm, (congrArg (fun z9 => z9.2.1) hX_342).symm, (congrArg (fun z9 => z9.2.2.1) hX_342).symm, (congrArg (fun z9 => z9.2.2.2.1) hX_342).symm, (congrArg (fun z9 => z9.2.2.2.2.1) hX_342).symm, (congrArg (fun z9 => z9.2.2.2.2.2.1) hX_342).symm, (congrArg (fun z9 => z9.2.2.2.2.2.2.1) hX_342).symm, (congrArg (fun z9 => z9.2.2.2.2.2.2.2.1) hX_342).symm, (congrArg (fun z9 => z9.2.2.2.2.2.2.2.2.1) hX_342).symm, (congrArg (fun z9 => z9.2.2.2.2.2.2.2.2.2.1) hX_342).symm, (congrArg (fun z9 => z9.2.2.2.2.2.2.2.2.2.2) hX_342).symm, hpost⟩
  have hX_343 : F_r_readRing m_textEnd m_bad m_badAt m_token m_at m_behind m_number m_letters m_word g_tape g_c g_words g_isOn = F_r_readRing_L11a m_textEnd g_tape r_10 n_9 ((4600 - 5 * n_5.toInt + n_3.toInt - 5 * n_1.toInt).toNat + 1) (0 : Int32) g_isOn n_1 n_2 n_3 n_4 n_5 n_6 n_7 n_8 g_c := by
    refine (F_r_readRing_s ..).trans ?_
    extract_lets -merge -useContext +onlyGivenNames w9 y0_0 y0_1 y0_2 y0_3 y0_4 y0_5 y0_6 y0_7 y0_8 y0_9; have e9 : (r_10, n_1, n_2, n_3, n_4, n_5, n_6, n_7, n_8, n_9) = w9 := ((z_tS he_r_10 (z_tS he_n_1 (z_tS he_n_2 (z_tS he_n_3 (z_tS he_n_4 (z_tS he_n_5 (z_tS he_n_6 (z_tS he_n_7 (z_tS he_n_8 he_n_9.symm)))))))))).symm; clear_value w9; subst e9
    exact rfl
  exact hlp_270 ((4600 - 5 * n_5.toInt + n_3.toInt - 5 * n_1.toInt).toNat + 1) 0 g_isOn n_1 n_2 n_3 n_4 n_5 n_6 n_7 n_8 g_c _ _ _ (Nat.lt_succ_self _) (by decide +kernel) hC_g_isOn hr_n_1 hr_n_3 hr_n_4 hr_n_5 hr_n_6 hr_n_7 hC_g_c hNW0 hNF0 zRr_0 (by omega) (by omega) (by omega) hX_343 hP hD hS (lv_sub hl [2, 1, 0] rfl)
set_option maxHeartbeats 40000000 in
set_option maxRecDepth 100000 in
theorem r_readDoor (l : Launch) (G : va_G) (cA : zCA) (h0 : Nat) (m_status : Int32) (m_thrown : Int32) (m_above : Int64) (m_under : Int64) (a_traySort : Nat) (a_trayMany : Nat) (a_numbers : Nat) (a_tape : Nat) (m_taped : Int32) (m_textEnd : Int32) (m_faultKind : Int32) (m_faultAt : Int32) (m_bad : Int32) (m_badAt : Int32) (m_token : Int32) (m_at : Int32) (m_behind : Int32) (m_number : Int32) (m_letters : Int32) (m_word : Int64) (a_c : Nat) (a_words : Nat) (m_markMany : Int32) (a_there : Nat) (a_tried : Nat) (a_best : Nat) (a_found : Nat) (m_thereMany : Int32) (m_foundMany : Int32) (m_orderHow : Int32) (m_orderRing : Int32) (m_orderMany : Int32) (m_hasBest : Int32) (m_bestTop : Int64) (m_bestBy : Int64) (a_weights : Nat) (a_shared : Nat) (m_random : Int32) (m_truePlace : Int32) (m_trueWay : Int32) (m_seconds : Int32) (m_done : Int32) (m_feelings : Int32) (m_tries : Int32) (m_leftOver : Int32) (m_playDoor : Int32) (m_playRing : Int32) (m_isOpen : Int32) (m_isOver : Int32) (m_wasTried : Int32) (m_hasPlayed : Int32) (a_feltNow : Nat) (a_last : Nat) (a_kept : Nat) (m_hasSeconds : Int32) (m_hasTurned : Int32) (m_hasRound : Int32) (a_hasFeels : Nat) (a_isOn : Nat) (m_firstAct : Int32) (m_meanTop : Int64) (m_meanBy : Int64) (a_order : Nat) (m_rowMany : Int32) (m_newSteps : Int32) (g_tape : Nat → Int32) (g_c : Nat → Int32) (g_words : Nat → Int64) (g_isOn : Nat → Int32) (hr_m_textEnd : 0 ≤ m_textEnd.toInt ∧ m_textEnd.toInt ≤ 900) (hr_m_at : 0 ≤ m_at.toInt ∧ m_at.toInt ≤ 900) (hr_m_behind : 0 ≤ m_behind.toInt ∧ m_behind.toInt ≤ 900) (hr_m_bad : 0 ≤ m_bad.toInt ∧ m_bad.toInt ≤ 0) (hr_m_token : 0 ≤ m_token.toInt ∧ m_token.toInt ≤ 4) (hr_m_number : 0 ≤ m_number.toInt ∧ m_number.toInt ≤ 9999) (hr_m_letters : 0 ≤ m_letters.toInt ∧ m_letters.toInt ≤ 900) (hC_g_c : zC g_c) (hC_g_isOn : zRg 10 0 1 g_isOn) (hNW0 : zNw g_c g_isOn) (hNF0 : zNf g_c) : zCv l yX12_readDoor cX12_readDoor 6 none ({ frames := 4, cells := 0, slots := 0, locals := 91 }) G cA [.ref h0] [(h0, .inr (12, [.int m_status, .int m_thrown, .long m_above, .long m_under, .ref a_traySort, .ref a_trayMany, .ref a_numbers, .ref a_tape, .int m_taped, .int m_textEnd, .int m_faultKind, .int m_faultAt, .int m_bad, .int m_badAt, .int m_token, .int m_at, .int m_behind, .int m_number, .int m_letters, .long m_word, .ref a_c, .ref a_words, .int m_markMany, .ref a_there, .ref a_tried, .ref a_best, .ref a_found, .int m_thereMany, .int m_foundMany, .int m_orderHow, .int m_orderRing, .int m_orderMany, .int m_hasBest, .long m_bestTop, .long m_bestBy, .ref a_weights, .ref a_shared, .int m_random, .int m_truePlace, .int m_trueWay, .int m_seconds, .int m_done, .int m_feelings, .int m_tries, .int m_leftOver, .int m_playDoor, .int m_playRing, .int m_isOpen, .int m_isOver, .int m_wasTried, .int m_hasPlayed, .ref a_feltNow, .ref a_last, .ref a_kept, .int m_hasSeconds, .int m_hasTurned, .int m_hasRound, .ref a_hasFeels, .ref a_isOn, .int m_firstAct, .long m_meanTop, .long m_meanBy, .ref a_order, .int m_rowMany, .int m_newSteps])), (a_tape, .inl (cA.1 2, 900, .inl g_tape)), (a_c, .inl (cA.1 0, 1825, .inl g_c)), (a_words, .inl (cA.1 1, 105, .inr (.inl g_words))), (a_isOn, .inl (cA.1 3, 10, .inl g_isOn))] (S := Int32 × Int32 × Int32 × Int32 × Int32 × Int32 × Int32 × Int64 × (Nat → Int64) × (Nat → Int32)) (fun (u : Int32 × Int32 × Int32 × Int32 × Int32 × Int32 × Int32 × Int64 × (Nat → Int64) × (Nat → Int32)) => (u.1 = (F_r_readDoor m_textEnd m_bad m_badAt m_token m_at m_behind m_number m_letters m_word g_tape g_c g_words).1) ∧ (u.2.1 = (F_r_readDoor m_textEnd m_bad m_badAt m_token m_at m_behind m_number m_letters m_word g_tape g_c g_words).2.1) ∧ (u.2.2.1 = (F_r_readDoor m_textEnd m_bad m_badAt m_token m_at m_behind m_number m_letters m_word g_tape g_c g_words).2.2.1) ∧ (u.2.2.2.1 = (F_r_readDoor m_textEnd m_bad m_badAt m_token m_at m_behind m_number m_letters m_word g_tape g_c g_words).2.2.2.1) ∧ (u.2.2.2.2.1 = (F_r_readDoor m_textEnd m_bad m_badAt m_token m_at m_behind m_number m_letters m_word g_tape g_c g_words).2.2.2.2.1) ∧ (u.2.2.2.2.2.1 = (F_r_readDoor m_textEnd m_bad m_badAt m_token m_at m_behind m_number m_letters m_word g_tape g_c g_words).2.2.2.2.2.1) ∧ (u.2.2.2.2.2.2.1 = (F_r_readDoor m_textEnd m_bad m_badAt m_token m_at m_behind m_number m_letters m_word g_tape g_c g_words).2.2.2.2.2.2.1) ∧ (u.2.2.2.2.2.2.2.1 = (F_r_readDoor m_textEnd m_bad m_badAt m_token m_at m_behind m_number m_letters m_word g_tape g_c g_words).2.2.2.2.2.2.2.1) ∧ (u.2.2.2.2.2.2.2.2.1 = (F_r_readDoor m_textEnd m_bad m_badAt m_token m_at m_behind m_number m_letters m_word g_tape g_c g_words).2.2.2.2.2.2.2.2.1) ∧ (u.2.2.2.2.2.2.2.2.2 = (F_r_readDoor m_textEnd m_bad m_badAt m_token m_at m_behind m_number m_letters m_word g_tape g_c g_words).2.2.2.2.2.2.2.2.2) ∧ ((0 ≤ u.1.toInt ∧ u.1.toInt ≤ 9) ∧ (0 ≤ u.2.2.1.toInt ∧ u.2.2.1.toInt ≤ 4) ∧ (0 ≤ u.2.2.2.1.toInt ∧ u.2.2.2.1.toInt ≤ 900) ∧ (0 ≤ u.2.2.2.2.1.toInt ∧ u.2.2.2.2.1.toInt ≤ 900) ∧ (0 ≤ u.2.2.2.2.2.1.toInt ∧ u.2.2.2.2.2.1.toInt ≤ 9999) ∧ (0 ≤ u.2.2.2.2.2.2.1.toInt ∧ u.2.2.2.2.2.2.1.toInt ≤ 900) ∧ (zC u.2.2.2.2.2.2.2.2.2) ∧ (zNw u.2.2.2.2.2.2.2.2.2 g_isOn) ∧ (m_behind.toInt ≤ u.2.2.2.2.1.toInt) ∧ (0 < m_bad.toInt → 0 < u.1.toInt) ∧ (u.1.toInt ≤ 0 → u.2.2.1.toInt = 0 ∨ m_behind.toInt < u.2.2.2.2.1.toInt) ∧ (u.1.toInt ≤ 0 → u.2.2.1.toInt = 3 → u.2.2.2.2.2.1.toInt = 59 → zNf u.2.2.2.2.2.2.2.2.2))) (fun (u : Int32 × Int32 × Int32 × Int32 × Int32 × Int32 × Int32 × Int64 × (Nat → Int64) × (Nat → Int32)) => [(h0, .inr (12, [.int m_status, .int m_thrown, .long m_above, .long m_under, .ref a_traySort, .ref a_trayMany, .ref a_numbers, .ref a_tape, .int m_taped, .int m_textEnd, .int m_faultKind, .int m_faultAt, .int u.1, .int u.2.1, .int u.2.2.1, .int u.2.2.2.1, .int u.2.2.2.2.1, .int u.2.2.2.2.2.1, .int u.2.2.2.2.2.2.1, .long u.2.2.2.2.2.2.2.1, .ref a_c, .ref a_words, .int m_markMany, .ref a_there, .ref a_tried, .ref a_best, .ref a_found, .int m_thereMany, .int m_foundMany, .int m_orderHow, .int m_orderRing, .int m_orderMany, .int m_hasBest, .long m_bestTop, .long m_bestBy, .ref a_weights, .ref a_shared, .int m_random, .int m_truePlace, .int m_trueWay, .int m_seconds, .int m_done, .int m_feelings, .int m_tries, .int m_leftOver, .int m_playDoor, .int m_playRing, .int m_isOpen, .int m_isOver, .int m_wasTried, .int m_hasPlayed, .ref a_feltNow, .ref a_last, .ref a_kept, .int m_hasSeconds, .int m_hasTurned, .int m_hasRound, .ref a_hasFeels, .ref a_isOn, .int m_firstAct, .long m_meanTop, .long m_meanBy, .ref a_order, .int m_rowMany, .int m_newSteps])), (a_tape, .inl (cA.1 2, 900, .inl g_tape)), (a_c, .inl (cA.1 0, 1825, .inl u.2.2.2.2.2.2.2.2.2)), (a_words, .inl (cA.1 1, 105, .inr (.inl u.2.2.2.2.2.2.2.2.1))), (a_isOn, .inl (cA.1 3, 10, .inl g_isOn))]) 0 0 := by
  have hk_0 : (0 : Int32).toInt = 0 := by decide +kernel
  have hk_1 : (1 : Int32).toInt = 1 := by decide +kernel
  have hk_3 : (3 : Int32).toInt = 3 := by decide +kernel
  have hk_5 : (5 : Int32).toInt = 5 := by decide +kernel
  have hk_9 : (9 : Int32).toInt = 9 := by decide +kernel
  have hk_10 : (10 : Int32).toInt = 10 := by decide +kernel
  have hk_16 : (16 : Int32).toInt = 16 := by decide +kernel
  have hk_99 : (99 : Int32).toInt = 99 := by decide +kernel
  have hk_1588 : (1588 : Int32).toInt = 1588 := by decide +kernel
  have hk_1593 : (1593 : Int32).toInt = 1593 := by decide +kernel
  refine z_start2v (own := RX12) (by decide) (Nat.le_of_ble_eq_true rfl) rfl ?_
  intro p e s m args below meth c A ls Q hx hb hml hts hown hK hE hT hP hD hS hA hl hret
  have hl : lv_has ls 6 [(0, .ref h0)] := hl
  refine lv_aload_n hx hb dX12_readDoor_0 rfl (lv_at hl 0 rfl) ?_
  refine lv_iconst (v := 3) hx hb dX12_readDoor_1 (by decide) ?_
  refine lv_iconst (v := 5) hx hb dX12_readDoor_2 (by decide) ?_
  refine lv_bipush (v := 16) hx hb dX12_readDoor_3 (by decide) ?_
  refine z_callVi (As := [.int 3, .int 5, .int 16]) (rest := []) (wr := [(a_isOn, .inl (cA.1 3, 10, .inl g_isOn))]) ⟨hx, hb, hml, hown, hts⟩ hK hE hT hP hD hS hA (r_readNew_3 l G cA h0 m_status m_thrown m_above m_under a_traySort a_trayMany a_numbers a_tape m_taped m_textEnd m_faultKind m_faultAt m_bad m_badAt m_token m_at m_behind m_number m_letters m_word a_c a_words m_markMany a_there a_tried a_best a_found m_thereMany m_foundMany m_orderHow m_orderRing m_orderMany m_hasBest m_bestTop m_bestBy a_weights a_shared m_random m_truePlace m_trueWay m_seconds m_done m_feelings m_tries m_leftOver m_playDoor m_playRing m_isOpen m_isOver m_wasTried m_hasPlayed a_feltNow a_last a_kept m_hasSeconds m_hasTurned m_hasRound a_hasFeels a_isOn m_firstAct m_meanTop m_meanBy a_order m_rowMany m_newSteps g_tape g_c g_words hr_m_textEnd hr_m_at hr_m_behind (z_rgw hr_m_bad (by decide) (by decide)) hr_m_token hr_m_number hr_m_letters hC_g_c) lk_RX12_207 ⟨rfl, rfl⟩ ⟨Nat.le_of_ble_eq_true rfl, Nat.le_of_ble_eq_true rfl⟩ 12 rfl rfl rfl [0, 1, 2, 3] [4] rfl rfl (by decide) rfl hl.1 rfl (lv_room (Nat.le_of_ble_eq_true rfl)) dX12_readDoor_5 ⟨Nat.le_of_ble_eq_true rfl, Nat.le_of_ble_eq_true rfl⟩ (fun r_10 u_11 H locs hw hP hD hS => ?_)
  obtain ⟨n_1, n_2, n_3, n_4, n_5, n_6, n_7, n_8, n_9⟩ := u_11
  try dsimp only at hw
  obtain ⟨he_r_10, he_n_1, he_n_2, he_n_3, he_n_4, he_n_5, he_n_6, he_n_7, he_n_8, he_n_9, hw⟩ := hw
  obtain ⟨hr_r_10, hr_n_1, hr_n_3, hr_n_4, hr_n_5, hr_n_6, hr_n_7, hf_13, hf_14, hf_15, hf_16, hf_17⟩ := hw
  refine lv_istore_n (lv' := [(1, .int r_10), (0, .ref h0)]) hx hb dX12_readDoor_8 rfl hl (by decide) rfl (fun ls hl => ?_)
  refine lv_aload_n hx hb dX12_readDoor_9 rfl (lv_at hl 1 rfl) ?_
  refine lv_aload_n hx hb dX12_readDoor_10 rfl (lv_at hl 1 rfl) ?_
  refine z_callVi (As := []) (rest := [.ref h0]) (wr := [(a_isOn, .inl (cA.1 3, 10, .inl g_isOn)), (a_tape, .inl (cA.1 2, 900, .inl g_tape)), (a_c, .inl (cA.1 0, 1825, .inl g_c)), (a_words, .inl (cA.1 1, 105, .inr (.inl n_9)))]) ⟨hx, hb, hml, hown, hts⟩ hK hE hT hP hD hS hA (r_houseWord l G cA h0 m_status m_thrown m_above m_under a_traySort a_trayMany a_numbers a_tape m_taped m_textEnd m_faultKind m_faultAt n_1 n_2 n_3 n_4 n_5 n_6 n_7 n_8 a_c a_words m_markMany a_there a_tried a_best a_found m_thereMany m_foundMany m_orderHow m_orderRing m_orderMany m_hasBest m_bestTop m_bestBy a_weights a_shared m_random m_truePlace m_trueWay m_seconds m_done m_feelings m_tries m_leftOver m_playDoor m_playRing m_isOpen m_isOver m_wasTried m_hasPlayed a_feltNow a_last a_kept m_hasSeconds m_hasTurned m_hasRound a_hasFeels a_isOn m_firstAct m_meanTop m_meanBy a_order m_rowMany m_newSteps hr_n_3) lk_RX12_170 ⟨rfl, rfl⟩ ⟨Nat.le_of_ble_eq_true rfl, Nat.le_of_ble_eq_true rfl⟩ 12 rfl rfl rfl [1] [0, 2, 3, 4] rfl rfl (by decide) rfl hl.1 rfl (lv_room (Nat.le_of_ble_eq_true rfl)) dX12_readDoor_11 ⟨Nat.le_of_ble_eq_true rfl, Nat.le_of_ble_eq_true rfl⟩ (fun r_18 u_19 H locs hw hP hD hS => ?_)
  obtain ⟨he_r_18, hw⟩ := hw
  obtain ⟨hr_r_18, hf_21⟩ := hw
  refine lv_bipush (v := 9) hx hb dX12_readDoor_14 (by decide) ?_
  refine lv_icmp_ne (tgt := 23) hx hb dX12_readDoor_16 (by decide) (fun c_22 => ?_) (fun c_22 => ?_)
  · have b_23 := z_fneT c_22
    refine lv_iconst (v := 0) hx hb dX12_readDoor_23 (by decide) ?_
    refine z_callVv (As := [.int 0]) (rest := []) (wr := [(a_isOn, .inl (cA.1 3, 10, .inl g_isOn)), (a_tape, .inl (cA.1 2, 900, .inl g_tape)), (a_c, .inl (cA.1 0, 1825, .inl g_c)), (a_words, .inl (cA.1 1, 105, .inr (.inl n_9)))]) ⟨hx, hb, hml, hown, hts⟩ hK hE hT hP hD hS hA (r_must_0 l G cA h0 m_status m_thrown m_above m_under a_traySort a_trayMany a_numbers a_tape m_taped m_textEnd m_faultKind m_faultAt n_1 n_2 n_3 n_4 n_5 n_6 n_7 n_8 a_c a_words m_markMany a_there a_tried a_best a_found m_thereMany m_foundMany m_orderHow m_orderRing m_orderMany m_hasBest m_bestTop m_bestBy a_weights a_shared m_random m_truePlace m_trueWay m_seconds m_done m_feelings m_tries m_leftOver m_playDoor m_playRing m_isOpen m_isOver m_wasTried m_hasPlayed a_feltNow a_last a_kept m_hasSeconds m_hasTurned m_hasRound a_hasFeels a_isOn m_firstAct m_meanTop m_meanBy a_order m_rowMany m_newSteps hr_n_4 hr_n_1 hr_n_3) lk_RX12_210 ⟨rfl, rfl⟩ ⟨Nat.le_of_ble_eq_true rfl, Nat.le_of_ble_eq_true rfl⟩ 12 rfl rfl rfl [4] [0, 1, 2, 3] rfl rfl (by decide) rfl hl.1 rfl (lv_room (Nat.le_of_ble_eq_true rfl)) dX12_readDoor_24 ⟨Nat.le_of_ble_eq_true rfl, Nat.le_of_ble_eq_true rfl⟩ (fun u_27 H locs hw hP hD hS => ?_)
    obtain ⟨n_24, n_25⟩ := u_27
    try dsimp only at hw
    obtain ⟨he_n_24, he_n_25, hw⟩ := hw
    have hr_n_24 := hw
    refine lv_aload_n hx hb dX12_readDoor_27 rfl (lv_at hl 1 rfl) ?_
    refine lv_iconst (v := 0) hx hb dX12_readDoor_28 (by decide) ?_
    refine lv_bipush (v := 99) hx hb dX12_readDoor_29 (by decide) ?_
    refine z_callVi (As := [.int 0, .int 99]) (rest := []) (wr := [(a_isOn, .inl (cA.1 3, 10, .inl g_isOn)), (a_c, .inl (cA.1 0, 1825, .inl g_c)), (a_words, .inl (cA.1 1, 105, .inr (.inl n_9)))]) ⟨hx, hb, hml, hown, hts⟩ hK hE hT hP hD hS hA (r_count l G cA h0 m_status m_thrown m_above m_under a_traySort a_trayMany a_numbers a_tape m_taped m_textEnd m_faultKind m_faultAt n_24 n_25 n_3 n_4 n_5 n_6 n_7 n_8 a_c a_words m_markMany a_there a_tried a_best a_found m_thereMany m_foundMany m_orderHow m_orderRing m_orderMany m_hasBest m_bestTop m_bestBy a_weights a_shared m_random m_truePlace m_trueWay m_seconds m_done m_feelings m_tries m_leftOver m_playDoor m_playRing m_isOpen m_isOver m_wasTried m_hasPlayed a_feltNow a_last a_kept m_hasSeconds m_hasTurned m_hasRound a_hasFeels a_isOn m_firstAct m_meanTop m_meanBy a_order m_rowMany m_newSteps g_tape 0 99 (by decide +kernel) (by decide +kernel) hr_m_textEnd hr_n_4 hr_n_5 (z_rgw hr_n_24 (by decide) (by decide)) hr_n_3 hr_n_6 hr_n_7) lk_RX12_214 ⟨rfl, rfl⟩ ⟨Nat.le_of_ble_eq_true rfl, Nat.le_of_ble_eq_true rfl⟩ 12 rfl rfl rfl [4, 1] [0, 2, 3] rfl rfl (by decide) rfl hl.1 rfl (lv_room (Nat.le_of_ble_eq_true rfl)) dX12_readDoor_31 ⟨Nat.le_of_ble_eq_true rfl, Nat.le_of_ble_eq_true rfl⟩ (fun r_37 u_38 H locs hw hP hD hS => ?_)
    obtain ⟨n_29, n_30, n_31, n_32, n_33, n_34, n_35, n_36⟩ := u_38
    try dsimp only at hw
    obtain ⟨he_r_37, he_n_29, he_n_30, he_n_31, he_n_32, he_n_33, he_n_34, he_n_35, he_n_36, hw⟩ := hw
    obtain ⟨hr_r_37, hr_n_29, hr_n_31, hr_n_32, hr_n_33, hr_n_34, hr_n_35, hf_40, hf_41, hf_42, hf_43, hf_44, hf_45⟩ := hw
    refine lv_istore_n (lv' := [(2, .int r_37), (1, .int r_10), (0, .ref h0)]) hx hb dX12_readDoor_34 rfl hl (by decide) rfl (fun ls hl => ?_)
    refine lv_aload_n hx hb dX12_readDoor_35 rfl (lv_at hl 2 rfl) ?_
    refine lv_aload_n hx hb dX12_readDoor_36 rfl (lv_at hl 2 rfl) ?_
    refine z_callVi (As := []) (rest := [.ref h0]) (wr := [(a_isOn, .inl (cA.1 3, 10, .inl g_isOn)), (a_c, .inl (cA.1 0, 1825, .inl g_c)), (a_words, .inl (cA.1 1, 105, .inr (.inl n_9))), (a_tape, .inl (cA.1 2, 900, .inl g_tape))]) ⟨hx, hb, hml, hown, hts⟩ hK hE hT hP hD hS hA (r_houseWord l G cA h0 m_status m_thrown m_above m_under a_traySort a_trayMany a_numbers a_tape m_taped m_textEnd m_faultKind m_faultAt n_29 n_30 n_31 n_32 n_33 n_34 n_35 n_36 a_c a_words m_markMany a_there a_tried a_best a_found m_thereMany m_foundMany m_orderHow m_orderRing m_orderMany m_hasBest m_bestTop m_bestBy a_weights a_shared m_random m_truePlace m_trueWay m_seconds m_done m_feelings m_tries m_leftOver m_playDoor m_playRing m_isOpen m_isOver m_wasTried m_hasPlayed a_feltNow a_last a_kept m_hasSeconds m_hasTurned m_hasRound a_hasFeels a_isOn m_firstAct m_meanTop m_meanBy a_order m_rowMany m_newSteps hr_n_31) lk_RX12_170 ⟨rfl, rfl⟩ ⟨Nat.le_of_ble_eq_true rfl, Nat.le_of_ble_eq_true rfl⟩ 12 rfl rfl rfl [3] [0, 1, 2, 4] rfl rfl (by decide) rfl hl.1 rfl (lv_room (Nat.le_of_ble_eq_true rfl)) dX12_readDoor_37 ⟨Nat.le_of_ble_eq_true rfl, Nat.le_of_ble_eq_true rfl⟩ (fun r_46 u_47 H locs hw hP hD hS => ?_)
    obtain ⟨he_r_46, hw⟩ := hw
    obtain ⟨hr_r_46, hf_49⟩ := hw
    refine lv_bipush (v := 10) hx hb dX12_readDoor_40 (by decide) ?_
    refine lv_icmp_ne (tgt := 49) hx hb dX12_readDoor_42 (by decide) (fun c_50 => ?_) (fun c_50 => ?_)
    · have b_51 := z_fneT c_50
      refine lv_iconst (v := 0) hx hb dX12_readDoor_49 (by decide) ?_
      refine z_callVv (As := [.int 0]) (rest := []) (wr := [(a_isOn, .inl (cA.1 3, 10, .inl g_isOn)), (a_c, .inl (cA.1 0, 1825, .inl g_c)), (a_words, .inl (cA.1 1, 105, .inr (.inl n_9))), (a_tape, .inl (cA.1 2, 900, .inl g_tape))]) ⟨hx, hb, hml, hown, hts⟩ hK hE hT hP hD hS hA (r_must_0 l G cA h0 m_status m_thrown m_above m_under a_traySort a_trayMany a_numbers a_tape m_taped m_textEnd m_faultKind m_faultAt n_29 n_30 n_31 n_32 n_33 n_34 n_35 n_36 a_c a_words m_markMany a_there a_tried a_best a_found m_thereMany m_foundMany m_orderHow m_orderRing m_orderMany m_hasBest m_bestTop m_bestBy a_weights a_shared m_random m_truePlace m_trueWay m_seconds m_done m_feelings m_tries m_leftOver m_playDoor m_playRing m_isOpen m_isOver m_wasTried m_hasPlayed a_feltNow a_last a_kept m_hasSeconds m_hasTurned m_hasRound a_hasFeels a_isOn m_firstAct m_meanTop m_meanBy a_order m_rowMany m_newSteps hr_n_32 hr_n_29 hr_n_31) lk_RX12_210 ⟨rfl, rfl⟩ ⟨Nat.le_of_ble_eq_true rfl, Nat.le_of_ble_eq_true rfl⟩ 12 rfl rfl rfl [4] [0, 1, 2, 3] rfl rfl (by decide) rfl hl.1 rfl (lv_room (Nat.le_of_ble_eq_true rfl)) dX12_readDoor_50 ⟨Nat.le_of_ble_eq_true rfl, Nat.le_of_ble_eq_true rfl⟩ (fun u_55 H locs hw hP hD hS => ?_)
      obtain ⟨n_52, n_53⟩ := u_55
      try dsimp only at hw
      obtain ⟨he_n_52, he_n_53, hw⟩ := hw
      have hr_n_52 := hw
      refine lv_iconst (v := 0) hx hb dX12_readDoor_53 (by decide) ?_
      refine lv_istore_n (lv' := [(3, .int 0), (2, .int r_37), (1, .int r_10), (0, .ref h0)]) hx hb dX12_readDoor_54 rfl hl (by decide) rfl (fun ls hl => ?_)
      refine lv_iconst (v := 1) hx hb dX12_readDoor_55 (by decide) ?_
      refine lv_istore (lv' := [(4, .int 1), (3, .int 0), (2, .int r_37), (1, .int r_10), (0, .ref h0)]) hx hb dX12_readDoor_56 hl (by decide) rfl (fun ls hl => ?_)
      have hlp_68 : ∀ (n_L58a : Nat) (H : Heap) (locs : List Loc) (ls : Array Slot), (900 - n_33.toInt + (1 : Int32).toInt).toNat < n_L58a → (n_52.toInt ≤ 0 → (g_c 1463).toInt = r_10.toInt) → (m_behind.toInt ≤ n_33.toInt) → (n_52.toInt ≤ 0 → n_31.toInt = 0 ∨ m_behind.toInt < n_33.toInt) → (F_r_readDoor m_textEnd m_bad m_badAt m_token m_at m_behind m_number m_letters m_word g_tape g_c g_words = F_r_readDoor_L58a g_c n_9 n_31 n_32 n_33 n_34 n_35 n_36 n_52 n_53 n_L58a) → va_P G vwCl [(a_isOn, .inl (cA.1 3, 10, .inl g_isOn)), (a_c, .inl (cA.1 0, 1825, .inl g_c)), (a_words, .inl (cA.1 1, 105, .inr (.inl n_9))), (a_tape, .inl (cA.1 2, 900, .inl g_tape)), (h0, .inr (12, [.int m_status, .int m_thrown, .long m_above, .long m_under, .ref a_traySort, .ref a_trayMany, .ref a_numbers, .ref a_tape, .int m_taped, .int m_textEnd, .int m_faultKind, .int m_faultAt, .int n_52, .int n_53, .int n_31, .int n_32, .int n_33, .int n_34, .int n_35, .long n_36, .ref a_c, .ref a_words, .int m_markMany, .ref a_there, .ref a_tried, .ref a_best, .ref a_found, .int m_thereMany, .int m_foundMany, .int m_orderHow, .int m_orderRing, .int m_orderMany, .int m_hasBest, .long m_bestTop, .long m_bestBy, .ref a_weights, .ref a_shared, .int m_random, .int m_truePlace, .int m_trueWay, .int m_seconds, .int m_done, .int m_feelings, .int m_tries, .int m_leftOver, .int m_playDoor, .int m_playRing, .int m_isOpen, .int m_isOver, .int m_wasTried, .int m_hasPlayed, .ref a_feltNow, .ref a_last, .ref a_kept, .int m_hasSeconds, .int m_hasTurned, .int m_hasRound, .ref a_hasFeels, .ref a_isOn, .int m_firstAct, .long m_meanTop, .long m_meanBy, .ref a_order, .int m_rowMany, .int m_newSteps]))] H → va_D A [(a_isOn, .inl (cA.1 3, 10, .inl g_isOn)), (a_c, .inl (cA.1 0, 1825, .inl g_c)), (a_words, .inl (cA.1 1, 105, .inr (.inl n_9))), (a_tape, .inl (cA.1 2, 900, .inl g_tape)), (h0, .inr (12, [.int m_status, .int m_thrown, .long m_above, .long m_under, .ref a_traySort, .ref a_trayMany, .ref a_numbers, .ref a_tape, .int m_taped, .int m_textEnd, .int m_faultKind, .int m_faultAt, .int n_52, .int n_53, .int n_31, .int n_32, .int n_33, .int n_34, .int n_35, .long n_36, .ref a_c, .ref a_words, .int m_markMany, .ref a_there, .ref a_tried, .ref a_best, .ref a_found, .int m_thereMany, .int m_foundMany, .int m_orderHow, .int m_orderRing, .int m_orderMany, .int m_hasBest, .long m_bestTop, .long m_bestBy, .ref a_weights, .ref a_shared, .int m_random, .int m_truePlace, .int m_trueWay, .int m_seconds, .int m_done, .int m_feelings, .int m_tries, .int m_leftOver, .int m_playDoor, .int m_playRing, .int m_isOpen, .int m_isOver, .int m_wasTried, .int m_hasPlayed, .ref a_feltNow, .ref a_last, .ref a_kept, .int m_hasSeconds, .int m_hasTurned, .int m_hasRound, .ref a_hasFeels, .ref a_isOn, .int m_firstAct, .long m_meanTop, .long m_meanBy, .ref a_order, .int m_rowMany, .int m_newSteps]))] → va_S A s.heap H locs → lv_has ls 6 [(0, .ref h0), (1, .int r_10), (2, .int r_37), (3, .int 0), (4, .int 1)] → W p l e ({ frames := 4, cells := 0, slots := 0, locals := 91 }) s m args below meth c H locs 0 0 Q (F0 m 58 ls []) := by
        intro n_L58a
        induction n_L58a with
        | zero =>
          intro H locs ls hmu_hlp_68 hi_61 hi_62 hi_63 hF_L58a hP hD hS hl
          exact absurd hmu_hlp_68 (Nat.not_lt_zero _)
        | succ n_L58a ih_69 =>
          intro H locs ls hmu_hlp_68 hi_61 hi_62 hi_63 hF_L58a hP hD hS hl
          refine lv_iload hx hb dX12_readDoor_58 (lv_at hl 4 rfl) ?_
          refine lv_if_eq (tgt := 141) hx hb dX12_readDoor_60 (by decide) (fun h9 => absurd h9 (by decide +kernel)) (fun _ => ?_)
          refine lv_aload_n hx hb dX12_readDoor_63 rfl (lv_at hl 0 rfl) ?_
          refine va_get (D := G) (ci := 12) (v := .int n_52) (C := RX12) (T := TX12) (N := 65) hx hb hts inT12 hown hK hP 4 rfl rfl 12 (by decide) (hts _ tw_1897) (fun _ h9 => h9) rfl dX12_readDoor_64 ?_
          refine lv_if_ne (tgt := 141) hx hb dX12_readDoor_67 (by decide) (fun c_70 => ?_) (fun h9 => (z_no (by have h8 := z_feqF h9; omega)))
          have b_71 := z_fneT c_70
          refine lv_aload_n hx hb dX12_readDoor_141 rfl (lv_at hl 0 rfl) ?_
          refine va_get (D := G) (ci := 12) (v := .int n_52) (C := RX12) (T := TX12) (N := 65) hx hb hts inT12 hown hK hP 4 rfl rfl 12 (by decide) (hts _ tw_1897) (fun _ h9 => h9) rfl dX12_readDoor_142 ?_
          refine lv_if_le (tgt := 149) hx hb dX12_readDoor_145 (by decide) (fun h9 => (z_no (by have h8 := z_fleT h9; omega))) (fun c_72 => ?_)
          have b_73 := z_fgtF c_72
          have hpost : (0 ≤ n_52.toInt ∧ n_52.toInt ≤ 9) ∧ (0 ≤ n_31.toInt ∧ n_31.toInt ≤ 4) ∧ (0 ≤ n_32.toInt ∧ n_32.toInt ≤ 900) ∧ (0 ≤ n_33.toInt ∧ n_33.toInt ≤ 900) ∧ (0 ≤ n_34.toInt ∧ n_34.toInt ≤ 9999) ∧ (0 ≤ n_35.toInt ∧ n_35.toInt ≤ 900) ∧ (zC g_c) ∧ (zNw g_c g_isOn) ∧ (m_behind.toInt ≤ n_33.toInt) ∧ (0 < m_bad.toInt → 0 < n_52.toInt) ∧ (n_52.toInt ≤ 0 → n_31.toInt = 0 ∨ m_behind.toInt < n_33.toInt) ∧ (n_52.toInt ≤ 0 → n_31.toInt = 3 → n_34.toInt = 59 → zNf g_c) := ⟨(z_rgw hr_n_52 (by decide) (by decide)), hr_n_31, hr_n_32, hr_n_33, hr_n_34, hr_n_35, hC_g_c, hNW0, (by omega), (by omega), (by omega), (fun _ _ _ => hNF0)⟩
          have hX_74 : F_r_readDoor m_textEnd m_bad m_badAt m_token m_at m_behind m_number m_letters m_word g_tape g_c g_words = ((n_52, n_53, n_31, n_32, n_33, n_34, n_35, n_36, n_9, g_c) : Int32 × Int32 × Int32 × Int32 × Int32 × Int32 × Int32 × Int64 × (Nat → Int64) × (Nat → Int32)) := by
            refine hF_L58a.trans ?_
            refine (F_r_readDoor_L58a_s ..).trans ?_
            exact rfl
          exact hret _ _ _ _ _ (n_52, n_53, n_31, n_32, n_33, n_34, n_35, n_36, n_9, g_c) [4, 3, 1, 2, 0] hP hD hS rfl (by decide) dX12_readDoor_148 ⟨(congrArg (fun z9 => z9.1) hX_74).symm, (congrArg (fun z9 => z9.2.1) hX_74).symm, (congrArg (fun z9 => z9.2.2.1) hX_74).symm, (congrArg (fun z9 => z9.2.2.2.1) hX_74).symm, (congrArg (fun z9 => z9.2.2.2.2.1) hX_74).symm, (congrArg (fun z9 => z9.2.2.2.2.2.1) hX_74).symm, (congrArg (fun z9 => z9.2.2.2.2.2.2.1) hX_74).symm, (congrArg (fun z9 => z9.2.2.2.2.2.2.2.1) hX_74).symm, (congrArg (fun z9 => z9.2.2.2.2.2.2.2.2.1) hX_74).symm, (congrArg (fun z9 => z9.2.2.2.2.2.2.2.2.2) hX_74).symm, hpost⟩
      have hX_75 : F_r_readDoor m_textEnd m_bad m_badAt m_token m_at m_behind m_number m_letters m_word g_tape g_c g_words = F_r_readDoor_L58a g_c n_9 n_31 n_32 n_33 n_34 n_35 n_36 n_52 n_53 ((900 - n_33.toInt + (1 : Int32).toInt).toNat + 1) := by
        refine (F_r_readDoor_s ..).trans ?_
        extract_lets -merge -useContext +onlyGivenNames w9 y0_0 y0_1 y0_2 y0_3 y0_4 y0_5 y0_6 y0_7 y0_8 y0_9; have e9 : (r_10, n_1, n_2, n_3, n_4, n_5, n_6, n_7, n_8, n_9) = w9 := ((z_tS he_r_10 (z_tS he_n_1 (z_tS he_n_2 (z_tS he_n_3 (z_tS he_n_4 (z_tS he_n_5 (z_tS he_n_6 (z_tS he_n_7 (z_tS he_n_8 he_n_9.symm)))))))))).symm; clear_value w9; subst e9
        extract_lets -merge -useContext +onlyGivenNames w9 y9; have e9 : r_18 = w9 := he_r_18; clear_value w9; subst e9
        refine (if_neg c_22).trans ?_
        extract_lets -merge -useContext +onlyGivenNames w9 y3_0 y3_1; have e9 : (n_24, n_25) = w9 := ((z_tS he_n_24 he_n_25.symm)).symm; clear_value w9; subst e9
        extract_lets -merge -useContext +onlyGivenNames w9 y4_0 y4_1 y4_2 y4_3 y4_4 y4_5 y4_6 y4_7 y4_8; have e9 : (r_37, n_29, n_30, n_31, n_32, n_33, n_34, n_35, n_36) = w9 := ((z_tS he_r_37 (z_tS he_n_29 (z_tS he_n_30 (z_tS he_n_31 (z_tS he_n_32 (z_tS he_n_33 (z_tS he_n_34 (z_tS he_n_35 he_n_36.symm))))))))).symm; clear_value w9; subst e9
        extract_lets -merge -useContext +onlyGivenNames w9 y9; have e9 : r_46 = w9 := he_r_46; clear_value w9; subst e9
        refine (if_neg c_50).trans ?_
        extract_lets -merge -useContext +onlyGivenNames w9 y7_0 y7_1; have e9 : (n_52, n_53) = w9 := ((z_tS he_n_52 he_n_53.symm)).symm; clear_value w9; subst e9
        exact rfl
      exact hlp_68 ((900 - n_33.toInt + (1 : Int32).toInt).toNat + 1) _ _ _ (Nat.lt_succ_self _) (by omega) (by omega) (by omega) hX_75 hP hD hS (lv_sub hl [4, 3, 2, 1, 0] rfl)
    · have b_76 := z_feqF c_50
      refine lv_iconst (v := 1) hx hb dX12_readDoor_45 (by decide) ?_
      refine lv_goto (tgt := 50) hx hb dX12_readDoor_46 (by decide) ?_
      refine z_callVv (As := [.int 1]) (rest := []) (wr := [(a_isOn, .inl (cA.1 3, 10, .inl g_isOn)), (a_c, .inl (cA.1 0, 1825, .inl g_c)), (a_words, .inl (cA.1 1, 105, .inr (.inl n_9)))]) ⟨hx, hb, hml, hown, hts⟩ hK hE hT hP hD hS hA (r_must_1 l G cA h0 m_status m_thrown m_above m_under a_traySort a_trayMany a_numbers a_tape m_taped m_textEnd m_faultKind m_faultAt n_29 n_30 n_31 n_32 n_33 n_34 n_35 n_36 a_c a_words m_markMany a_there a_tried a_best a_found m_thereMany m_foundMany m_orderHow m_orderRing m_orderMany m_hasBest m_bestTop m_bestBy a_weights a_shared m_random m_truePlace m_trueWay m_seconds m_done m_feelings m_tries m_leftOver m_playDoor m_playRing m_isOpen m_isOver m_wasTried m_hasPlayed a_feltNow a_last a_kept m_hasSeconds m_hasTurned m_hasRound a_hasFeels a_isOn m_firstAct m_meanTop m_meanBy a_order m_rowMany m_newSteps g_tape hr_m_textEnd hr_n_32 hr_n_33 hr_n_29 hr_n_31 hr_n_34 hr_n_35) lk_RX12_210 ⟨rfl, rfl⟩ ⟨Nat.le_of_ble_eq_true rfl, Nat.le_of_ble_eq_true rfl⟩ 12 rfl rfl rfl [4, 3] [0, 1, 2] rfl rfl (by decide) rfl hl.1 rfl (lv_room (Nat.le_of_ble_eq_true rfl)) dX12_readDoor_50 ⟨Nat.le_of_ble_eq_true rfl, Nat.le_of_ble_eq_true rfl⟩ (fun u_84 H locs hw hP hD hS => ?_)
      obtain ⟨n_77, n_78, n_79, n_80, n_81, n_82⟩ := u_84
      try dsimp only at hw
      obtain ⟨he_n_77, he_n_78, he_n_79, he_n_80, he_n_81, he_n_82, hw⟩ := hw
      obtain ⟨hr_n_77, hr_n_78, hr_n_79, hr_n_80, hr_n_81, hf_86, hf_87, hf_88⟩ := hw
      refine lv_iconst (v := 0) hx hb dX12_readDoor_53 (by decide) ?_
      refine lv_istore_n (lv' := [(3, .int 0), (2, .int r_37), (1, .int r_10), (0, .ref h0)]) hx hb dX12_readDoor_54 rfl hl (by decide) rfl (fun ls hl => ?_)
      refine lv_iconst (v := 1) hx hb dX12_readDoor_55 (by decide) ?_
      refine lv_istore (lv' := [(4, .int 1), (3, .int 0), (2, .int r_37), (1, .int r_10), (0, .ref h0)]) hx hb dX12_readDoor_56 hl (by decide) rfl (fun ls hl => ?_)
      have hlp_327 : ∀ (n_L58b : Nat) (v_196 : Int32) (v_197 : Int32) (v_198 : Int32) (v_199 : Int32) (v_200 : Int32) (v_201 : Int32) (v_202 : Int32) (v_203 : Int32) (v_204 : Int32) (v_205 : Int64) (H : Heap) (locs : List Loc) (ls : Array Slot), (900 - v_202.toInt + v_197.toInt).toNat < n_L58b → (0 ≤ v_197.toInt ∧ v_197.toInt ≤ 1) → (0 ≤ v_198.toInt ∧ v_198.toInt ≤ 9) → (0 ≤ v_200.toInt ∧ v_200.toInt ≤ 4) → (0 ≤ v_201.toInt ∧ v_201.toInt ≤ 900) → (0 ≤ v_202.toInt ∧ v_202.toInt ≤ 900) → (0 ≤ v_203.toInt ∧ v_203.toInt ≤ 9999) → (0 ≤ v_204.toInt ∧ v_204.toInt ≤ 900) → (v_198.toInt ≤ 0 → (g_c 1463).toInt = r_10.toInt) → (m_behind.toInt ≤ v_202.toInt) → (v_198.toInt ≤ 0 → v_200.toInt = 0 ∨ m_behind.toInt < v_202.toInt) → (F_r_readDoor m_textEnd m_bad m_badAt m_token m_at m_behind m_number m_letters m_word g_tape g_c g_words = F_r_readDoor_L58b m_textEnd g_tape g_c r_10 n_9 r_37 n_L58b v_196 v_197 v_198 v_199 v_200 v_201 v_202 v_203 v_204 v_205) → va_P G vwCl [(a_isOn, .inl (cA.1 3, 10, .inl g_isOn)), (a_c, .inl (cA.1 0, 1825, .inl g_c)), (a_words, .inl (cA.1 1, 105, .inr (.inl n_9))), (h0, .inr (12, [.int m_status, .int m_thrown, .long m_above, .long m_under, .ref a_traySort, .ref a_trayMany, .ref a_numbers, .ref a_tape, .int m_taped, .int m_textEnd, .int m_faultKind, .int m_faultAt, .int v_198, .int v_199, .int v_200, .int v_201, .int v_202, .int v_203, .int v_204, .long v_205, .ref a_c, .ref a_words, .int m_markMany, .ref a_there, .ref a_tried, .ref a_best, .ref a_found, .int m_thereMany, .int m_foundMany, .int m_orderHow, .int m_orderRing, .int m_orderMany, .int m_hasBest, .long m_bestTop, .long m_bestBy, .ref a_weights, .ref a_shared, .int m_random, .int m_truePlace, .int m_trueWay, .int m_seconds, .int m_done, .int m_feelings, .int m_tries, .int m_leftOver, .int m_playDoor, .int m_playRing, .int m_isOpen, .int m_isOver, .int m_wasTried, .int m_hasPlayed, .ref a_feltNow, .ref a_last, .ref a_kept, .int m_hasSeconds, .int m_hasTurned, .int m_hasRound, .ref a_hasFeels, .ref a_isOn, .int m_firstAct, .long m_meanTop, .long m_meanBy, .ref a_order, .int m_rowMany, .int m_newSteps])), (a_tape, .inl (cA.1 2, 900, .inl g_tape))] H → va_D A [(a_isOn, .inl (cA.1 3, 10, .inl g_isOn)), (a_c, .inl (cA.1 0, 1825, .inl g_c)), (a_words, .inl (cA.1 1, 105, .inr (.inl n_9))), (h0, .inr (12, [.int m_status, .int m_thrown, .long m_above, .long m_under, .ref a_traySort, .ref a_trayMany, .ref a_numbers, .ref a_tape, .int m_taped, .int m_textEnd, .int m_faultKind, .int m_faultAt, .int v_198, .int v_199, .int v_200, .int v_201, .int v_202, .int v_203, .int v_204, .long v_205, .ref a_c, .ref a_words, .int m_markMany, .ref a_there, .ref a_tried, .ref a_best, .ref a_found, .int m_thereMany, .int m_foundMany, .int m_orderHow, .int m_orderRing, .int m_orderMany, .int m_hasBest, .long m_bestTop, .long m_bestBy, .ref a_weights, .ref a_shared, .int m_random, .int m_truePlace, .int m_trueWay, .int m_seconds, .int m_done, .int m_feelings, .int m_tries, .int m_leftOver, .int m_playDoor, .int m_playRing, .int m_isOpen, .int m_isOver, .int m_wasTried, .int m_hasPlayed, .ref a_feltNow, .ref a_last, .ref a_kept, .int m_hasSeconds, .int m_hasTurned, .int m_hasRound, .ref a_hasFeels, .ref a_isOn, .int m_firstAct, .long m_meanTop, .long m_meanBy, .ref a_order, .int m_rowMany, .int m_newSteps])), (a_tape, .inl (cA.1 2, 900, .inl g_tape))] → va_S A s.heap H locs → lv_has ls 6 [(0, .ref h0), (1, .int r_10), (2, .int r_37), (3, .int v_196), (4, .int v_197)] → W p l e ({ frames := 4, cells := 0, slots := 0, locals := 91 }) s m args below meth c H locs 0 0 Q (F0 m 58 ls []) := by
        intro n_L58b
        induction n_L58b with
        | zero =>
          intro v_196 v_197 v_198 v_199 v_200 v_201 v_202 v_203 v_204 v_205 H locs ls hmu_hlp_327 hr_v_197 hr_v_198 hr_v_200 hr_v_201 hr_v_202 hr_v_203 hr_v_204 hi_256 hi_257 hi_258 hF_L58b hP hD hS hl
          exact absurd hmu_hlp_327 (Nat.not_lt_zero _)
        | succ n_L58b ih_328 =>
          intro v_196 v_197 v_198 v_199 v_200 v_201 v_202 v_203 v_204 v_205 H locs ls hmu_hlp_327 hr_v_197 hr_v_198 hr_v_200 hr_v_201 hr_v_202 hr_v_203 hr_v_204 hi_256 hi_257 hi_258 hF_L58b hP hD hS hl
          refine lv_iload hx hb dX12_readDoor_58 (lv_at hl 4 rfl) ?_
          refine lv_if_eq (tgt := 141) hx hb dX12_readDoor_60 (by decide) (fun c_329 => ?_) (fun c_329 => ?_)
          · have b_330 := z_feqT c_329
            refine lv_aload_n hx hb dX12_readDoor_141 rfl (lv_at hl 0 rfl) ?_
            refine va_get (D := G) (ci := 12) (v := .int v_198) (C := RX12) (T := TX12) (N := 65) hx hb hts inT12 hown hK hP 3 rfl rfl 12 (by decide) (hts _ tw_1897) (fun _ h9 => h9) rfl dX12_readDoor_142 ?_
            refine lv_if_le (tgt := 149) hx hb dX12_readDoor_145 (by decide) (fun c_331 => ?_) (fun c_331 => ?_)
            · have b_332 := z_fleT c_331
              refine lv_aload_n hx hb dX12_readDoor_149 rfl (lv_at hl 0 rfl) ?_
              refine va_get (D := G) (ci := 12) (v := .ref a_c) (C := RX12) (T := TX12) (N := 65) hx hb hts inT12 hown hK hP 3 rfl rfl 20 (by decide) (hts _ tw_1905) (fun _ h9 => h9) rfl dX12_readDoor_150 ?_
              refine lv_sipush (v := 1588) hx hb dX12_readDoor_153 (by decide) ?_
              refine lv_iload_n hx hb dX12_readDoor_156 rfl (lv_at hl 1 rfl) ?_
              refine lv_iadd hx hb dX12_readDoor_157 ?_
              refine lv_topi (fun x_333 he_x_333 => ?_)
              have hq_x_333 := z_addq he_x_333 hk_1588 (rfl : r_10.toInt = _) (by omega) (by omega)
              refine lv_iload_n hx hb dX12_readDoor_158 rfl (lv_at hl 2 rfl) ?_
              refine z_iast hx hb hK hP hD hS 1 0 rfl rfl (z_inN (by omega) (by omega)) dX12_readDoor_159 (fun g_334 hg_g_334 H locs hP hD hS => ?_)
              have hC_g_334 := z_ctU hC_g_c hg_g_334 (a := 1588) (b := 1592) (lo := 0) (hi := 99) (by decide +kernel) (by decide +kernel) (by omega) (by omega) (by omega)
              have hw_g_334_1461 := z_cwo hg_g_334 (k := 1461) (by omega) (by omega)
              have hw_g_334_1463 := z_cwo hg_g_334 (k := 1463) (by omega) (by omega)
              have hs_335 : zNw g_334 g_isOn := (zNw_fr hNW0 hg_g_334 (a := 1588) (b := 1592) (by decide +kernel) (by omega) (by omega))
              have hs_336 : zNf g_334 := (zNf_fr hNF0 hg_g_334 (a := 1588) (b := 1592) (by decide +kernel) (by omega) (by omega))
              refine lv_aload_n hx hb dX12_readDoor_160 rfl (lv_at hl 0 rfl) ?_
              refine va_get (D := G) (ci := 12) (v := .ref a_c) (C := RX12) (T := TX12) (N := 65) hx hb hts inT12 hown hK hP 3 rfl rfl 20 (by decide) (hts _ tw_1905) (fun _ h9 => h9) rfl dX12_readDoor_161 ?_
              refine lv_sipush (v := 1593) hx hb dX12_readDoor_164 (by decide) ?_
              refine lv_iload_n hx hb dX12_readDoor_167 rfl (lv_at hl 1 rfl) ?_
              refine lv_iadd hx hb dX12_readDoor_168 ?_
              refine lv_topi (fun x_337 he_x_337 => ?_)
              have hq_x_337 := z_addq he_x_337 hk_1593 (rfl : r_10.toInt = _) (by omega) (by omega)
              refine lv_iload_n hx hb dX12_readDoor_169 rfl (lv_at hl 3 rfl) ?_
              refine z_iast hx hb hK hP hD hS 1 0 rfl rfl (z_inN (by omega) (by omega)) dX12_readDoor_170 (fun g_338 hg_g_338 H locs hP hD hS => ?_)
              have hC_g_338 := z_ctU hC_g_334 hg_g_338 (a := 1593) (b := 1597) (lo := (-2147483648)) (hi := 2147483647) (by decide +kernel) (by decide +kernel) (by omega) (by omega) (z_full _)
              have hw_g_338_1461 := z_cwo hg_g_338 (k := 1461) (by omega) (by omega)
              have hw_g_338_1463 := z_cwo hg_g_338 (k := 1463) (by omega) (by omega)
              have hs_339 : zNw g_338 g_isOn := (zNw_fr hs_335 hg_g_338 (a := 1593) (b := 1597) (by decide +kernel) (by omega) (by omega))
              have hs_340 : zNf g_338 := (zNf_fr hs_336 hg_g_338 (a := 1593) (b := 1597) (by decide +kernel) (by omega) (by omega))
              refine lv_aload_n hx hb dX12_readDoor_171 rfl (lv_at hl 0 rfl) ?_
              refine va_get (D := G) (ci := 12) (v := .ref a_c) (C := RX12) (T := TX12) (N := 65) hx hb hts inT12 hown hK hP 3 rfl rfl 20 (by decide) (hts _ tw_1905) (fun _ h9 => h9) rfl dX12_readDoor_172 ?_
              refine lv_sipush (v := 1463) hx hb dX12_readDoor_175 (by decide) ?_
              refine lv_dup2_11 hx hb dX12_readDoor_178 rfl rfl ?_
              refine va_iald hx hb hK hP 1 0 rfl rfl (z_in (i := 1463) (n := 1825) (by decide +kernel) (by decide +kernel)) dX12_readDoor_179 ?_
              refine lv_topi (fun x_341 he_x_341 => ?_)
              have hr_x_341 := z_ctk hC_g_338 he_x_341 (k := 1463) (lo := 0) (hi := 5) (by decide +kernel) (by decide +kernel) (by decide +kernel)
              have hv_x_341 := z_cv he_x_341 (k := 1463) (by decide +kernel)
              refine lv_iconst (v := 1) hx hb dX12_readDoor_180 (by decide) ?_
              refine lv_iadd hx hb dX12_readDoor_181 ?_
              refine lv_topi (fun x_342 he_x_342 => ?_)
              have hq_x_342 := z_addq he_x_342 (rfl : x_341.toInt = _) hk_1 (by omega) (by omega)
              refine z_iast hx hb hK hP hD hS 1 0 rfl rfl (z_in (i := 1463) (n := 1825) (by decide +kernel) (by decide +kernel)) dX12_readDoor_182 (fun g_343 hg_g_343 H locs hP hD hS => ?_)
              have hC_g_343 := z_ctUk hC_g_338 hg_g_343 (k := 1463) (lo := 0) (hi := 5) (by decide +kernel) (by decide +kernel) (by decide +kernel) (by omega)
              have hw_g_343_1461 := z_cwo hg_g_343 (k := 1461) (by decide +kernel) (by decide +kernel)
              have hw_g_343_1463 := z_cwk hg_g_343 (k := 1463) (by decide +kernel)
              have hs_344 : zNw g_343 g_isOn := (zNw_fr hs_339 hg_g_343 (a := 1463) (b := 1463) (by decide +kernel) (by decide +kernel) (by decide +kernel))
              have hs_345 : zNf g_343 := (zNf_fr hs_340 hg_g_343 (a := 1463) (b := 1463) (by decide +kernel) (by decide +kernel) (by decide +kernel))
              have hpost : (0 ≤ v_198.toInt ∧ v_198.toInt ≤ 9) ∧ (0 ≤ v_200.toInt ∧ v_200.toInt ≤ 4) ∧ (0 ≤ v_201.toInt ∧ v_201.toInt ≤ 900) ∧ (0 ≤ v_202.toInt ∧ v_202.toInt ≤ 900) ∧ (0 ≤ v_203.toInt ∧ v_203.toInt ≤ 9999) ∧ (0 ≤ v_204.toInt ∧ v_204.toInt ≤ 900) ∧ (zC g_343) ∧ (zNw g_343 g_isOn) ∧ (m_behind.toInt ≤ v_202.toInt) ∧ (0 < m_bad.toInt → 0 < v_198.toInt) ∧ (v_198.toInt ≤ 0 → v_200.toInt = 0 ∨ m_behind.toInt < v_202.toInt) ∧ (v_198.toInt ≤ 0 → v_200.toInt = 3 → v_203.toInt = 59 → zNf g_343) := ⟨hr_v_198, hr_v_200, hr_v_201, hr_v_202, hr_v_203, hr_v_204, hC_g_343, hs_344, (by omega), (by omega), (by omega), (fun _ _ _ => hs_345)⟩
              have hX_346 : F_r_readDoor m_textEnd m_bad m_badAt m_token m_at m_behind m_number m_letters m_word g_tape g_c g_words = ((v_198, v_199, v_200, v_201, v_202, v_203, v_204, v_205, n_9, g_343) : Int32 × Int32 × Int32 × Int32 × Int32 × Int32 × Int32 × Int64 × (Nat → Int64) × (Nat → Int32)) := by
                refine hF_L58b.trans ?_
                refine (F_r_readDoor_L58b_s ..).trans ?_
                refine (if_pos c_329).trans ?_
                refine (if_pos c_331).trans ?_
                try (extract_lets -merge -useContext +onlyGivenNames y9; have e9 : x_333 = y9 := (by first | exact he_x_333 | exact he_x_333.symm); clear_value y9; subst e9)
                try (extract_lets -merge -useContext +onlyGivenNames y9; have e9 : g_334 = y9 := (by first | exact hg_g_334 | exact hg_g_334.symm); clear_value y9; subst e9)
                try (extract_lets -merge -useContext +onlyGivenNames y9; have e9 : x_337 = y9 := (by first | exact he_x_337 | exact he_x_337.symm); clear_value y9; subst e9)
                try (extract_lets -merge -useContext +onlyGivenNames y9; have e9 : g_338 = y9 := (by first | exact hg_g_338 | exact hg_g_338.symm); clear_value y9; subst e9)
                try (extract_lets -merge -useContext +onlyGivenNames y9; have e9 : x_341 = y9 := (by first | exact he_x_341 | exact he_x_341.symm); clear_value y9; subst e9)
                try (extract_lets -merge -useContext +onlyGivenNames y9; have e9 : x_342 = y9 := (by first | exact he_x_342 | exact he_x_342.symm); clear_value y9; subst e9)
                try (extract_lets -merge -useContext +onlyGivenNames y9; have e9 : g_343 = y9 := (by first | exact hg_g_343 | exact hg_g_343.symm); clear_value y9; subst e9)
                exact rfl
              exact hret _ _ _ _ _ (v_198, v_199, v_200, v_201, v_202, v_203, v_204, v_205, n_9, g_343) [3, 4, 1, 2, 0] hP hD hS rfl (by decide) dX12_readDoor_183 ⟨(congrArg (fun z9 => z9.1) hX_346).symm, (congrArg (fun z9 => z9.2.1) hX_346).symm, (congrArg (fun z9 => z9.2.2.1) hX_346).symm, (congrArg (fun z9 => z9.2.2.2.1) hX_346).symm, (congrArg (fun z9 => z9.2.2.2.2.1) hX_346).symm, (congrArg (fun z9 => z9.2.2.2.2.2.1) hX_346).symm, (congrArg (fun z9 => z9.2.2.2.2.2.2.1) hX_346).symm, (congrArg (fun z9 => z9.2.2.2.2.2.2.2.1) hX_346).symm, (congrArg (fun z9 => z9.2.2.2.2.2.2.2.2.1) hX_346).symm, (congrArg (fun z9 => z9.2.2.2.2.2.2.2.2.2) hX_346).symm, hpost⟩
            · have b_347 := z_fgtF c_331
              have hpost : (0 ≤ v_198.toInt ∧ v_198.toInt ≤ 9) ∧ (0 ≤ v_200.toInt ∧ v_200.toInt ≤ 4) ∧ (0 ≤ v_201.toInt ∧ v_201.toInt ≤ 900) ∧ (0 ≤ v_202.toInt ∧ v_202.toInt ≤ 900) ∧ (0 ≤ v_203.toInt ∧ v_203.toInt ≤ 9999) ∧ (0 ≤ v_204.toInt ∧ v_204.toInt ≤ 900) ∧ (zC g_c) ∧ (zNw g_c g_isOn) ∧ (m_behind.toInt ≤ v_202.toInt) ∧ (0 < m_bad.toInt → 0 < v_198.toInt) ∧ (v_198.toInt ≤ 0 → v_200.toInt = 0 ∨ m_behind.toInt < v_202.toInt) ∧ (v_198.toInt ≤ 0 → v_200.toInt = 3 → v_203.toInt = 59 → zNf g_c) := ⟨hr_v_198, hr_v_200, hr_v_201, hr_v_202, hr_v_203, hr_v_204, hC_g_c, hNW0, (by omega), (by omega), (by omega), (fun _ _ _ => hNF0)⟩
              have hX_348 : F_r_readDoor m_textEnd m_bad m_badAt m_token m_at m_behind m_number m_letters m_word g_tape g_c g_words = ((v_198, v_199, v_200, v_201, v_202, v_203, v_204, v_205, n_9, g_c) : Int32 × Int32 × Int32 × Int32 × Int32 × Int32 × Int32 × Int64 × (Nat → Int64) × (Nat → Int32)) := by
                refine hF_L58b.trans ?_
                refine (F_r_readDoor_L58b_s ..).trans ?_
                refine (if_pos c_329).trans ?_
                refine (if_neg c_331).trans ?_
                exact rfl
              exact hret _ _ _ _ _ (v_198, v_199, v_200, v_201, v_202, v_203, v_204, v_205, n_9, g_c) [3, 4, 1, 2, 0] hP hD hS rfl (by decide) dX12_readDoor_148 ⟨(congrArg (fun z9 => z9.1) hX_348).symm, (congrArg (fun z9 => z9.2.1) hX_348).symm, (congrArg (fun z9 => z9.2.2.1) hX_348).symm, (congrArg (fun z9 => z9.2.2.2.1) hX_348).symm, (congrArg (fun z9 => z9.2.2.2.2.1) hX_348).symm, (congrArg (fun z9 => z9.2.2.2.2.2.1) hX_348).symm, (congrArg (fun z9 => z9.2.2.2.2.2.2.1) hX_348).symm, (congrArg (fun z9 => z9.2.2.2.2.2.2.2.1) hX_348).symm, (congrArg (fun z9 => z9.2.2.2.2.2.2.2.2.1) hX_348).symm, (congrArg (fun z9 => z9.2.2.2.2.2.2.2.2.2) hX_348).symm, hpost⟩
          · have b_349 := z_fneF c_329
            refine lv_aload_n hx hb dX12_readDoor_63 rfl (lv_at hl 0 rfl) ?_
            refine va_get (D := G) (ci := 12) (v := .int v_198) (C := RX12) (T := TX12) (N := 65) hx hb hts inT12 hown hK hP 3 rfl rfl 12 (by decide) (hts _ tw_1897) (fun _ h9 => h9) rfl dX12_readDoor_64 ?_
            refine lv_if_ne (tgt := 141) hx hb dX12_readDoor_67 (by decide) (fun c_350 => ?_) (fun c_350 => ?_)
            · have b_351 := z_fneT c_350
              refine lv_aload_n hx hb dX12_readDoor_141 rfl (lv_at hl 0 rfl) ?_
              refine va_get (D := G) (ci := 12) (v := .int v_198) (C := RX12) (T := TX12) (N := 65) hx hb hts inT12 hown hK hP 3 rfl rfl 12 (by decide) (hts _ tw_1897) (fun _ h9 => h9) rfl dX12_readDoor_142 ?_
              refine lv_if_le (tgt := 149) hx hb dX12_readDoor_145 (by decide) (fun h9 => (z_no (by have h8 := z_fleT h9; omega))) (fun c_352 => ?_)
              have b_353 := z_fgtF c_352
              have hpost : (0 ≤ v_198.toInt ∧ v_198.toInt ≤ 9) ∧ (0 ≤ v_200.toInt ∧ v_200.toInt ≤ 4) ∧ (0 ≤ v_201.toInt ∧ v_201.toInt ≤ 900) ∧ (0 ≤ v_202.toInt ∧ v_202.toInt ≤ 900) ∧ (0 ≤ v_203.toInt ∧ v_203.toInt ≤ 9999) ∧ (0 ≤ v_204.toInt ∧ v_204.toInt ≤ 900) ∧ (zC g_c) ∧ (zNw g_c g_isOn) ∧ (m_behind.toInt ≤ v_202.toInt) ∧ (0 < m_bad.toInt → 0 < v_198.toInt) ∧ (v_198.toInt ≤ 0 → v_200.toInt = 0 ∨ m_behind.toInt < v_202.toInt) ∧ (v_198.toInt ≤ 0 → v_200.toInt = 3 → v_203.toInt = 59 → zNf g_c) := ⟨hr_v_198, hr_v_200, hr_v_201, hr_v_202, hr_v_203, hr_v_204, hC_g_c, hNW0, (by omega), (by omega), (by omega), (fun _ _ _ => hNF0)⟩
              have hX_354 : F_r_readDoor m_textEnd m_bad m_badAt m_token m_at m_behind m_number m_letters m_word g_tape g_c g_words = ((v_198, v_199, v_200, v_201, v_202, v_203, v_204, v_205, n_9, g_c) : Int32 × Int32 × Int32 × Int32 × Int32 × Int32 × Int32 × Int64 × (Nat → Int64) × (Nat → Int32)) := by
                refine hF_L58b.trans ?_
                refine (F_r_readDoor_L58b_s ..).trans ?_
                refine (if_neg c_329).trans ?_
                refine (if_neg c_350).trans ?_
                exact rfl
              exact hret _ _ _ _ _ (v_198, v_199, v_200, v_201, v_202, v_203, v_204, v_205, n_9, g_c) [3, 4, 1, 2, 0] hP hD hS rfl (by decide) dX12_readDoor_148 ⟨(congrArg (fun z9 => z9.1) hX_354).symm, (congrArg (fun z9 => z9.2.1) hX_354).symm, (congrArg (fun z9 => z9.2.2.1) hX_354).symm, (congrArg (fun z9 => z9.2.2.2.1) hX_354).symm, (congrArg (fun z9 => z9.2.2.2.2.1) hX_354).symm, (congrArg (fun z9 => z9.2.2.2.2.2.1) hX_354).symm, (congrArg (fun z9 => z9.2.2.2.2.2.2.1) hX_354).symm, (congrArg (fun z9 => z9.2.2.2.2.2.2.2.1) hX_354).symm, (congrArg (fun z9 => z9.2.2.2.2.2.2.2.2.1) hX_354).symm, (congrArg (fun z9 => z9.2.2.2.2.2.2.2.2.2) hX_354).symm, hpost⟩
            · have b_355 := z_feqF c_350
              refine lv_aload_n hx hb dX12_readDoor_70 rfl (lv_at hl 0 rfl) ?_
              refine lv_iconst (v := 1) hx hb dX12_readDoor_71 (by decide) ?_
              refine lv_iconst (v := 3) hx hb dX12_readDoor_72 (by decide) ?_
              refine z_callVi (As := [.int 1, .int 3]) (rest := []) (wr := [(a_isOn, .inl (cA.1 3, 10, .inl g_isOn)), (a_tape, .inl (cA.1 2, 900, .inl g_tape))]) ⟨hx, hb, hml, hown, hts⟩ hK hE hT hP hD hS hA (r_readOld_1 l G cA h0 m_status m_thrown m_above m_under a_traySort a_trayMany a_numbers a_tape m_taped m_textEnd m_faultKind m_faultAt v_198 v_199 v_200 v_201 v_202 v_203 v_204 v_205 a_c a_words m_markMany a_there a_tried a_best a_found m_thereMany m_foundMany m_orderHow m_orderRing m_orderMany m_hasBest m_bestTop m_bestBy a_weights a_shared m_random m_truePlace m_trueWay m_seconds m_done m_feelings m_tries m_leftOver m_playDoor m_playRing m_isOpen m_isOver m_wasTried m_hasPlayed a_feltNow a_last a_kept m_hasSeconds m_hasTurned m_hasRound a_hasFeels a_isOn m_firstAct m_meanTop m_meanBy a_order m_rowMany m_newSteps g_c n_9 hr_v_201 hr_v_198 hr_v_200 hr_v_204 hC_g_c) lk_RX12_217 ⟨rfl, rfl⟩ ⟨Nat.le_of_ble_eq_true rfl, Nat.le_of_ble_eq_true rfl⟩ 12 rfl rfl rfl [3, 1, 2] [0, 4] rfl rfl (by decide) rfl hl.1 rfl (lv_room (Nat.le_of_ble_eq_true rfl)) dX12_readDoor_73 ⟨Nat.le_of_ble_eq_true rfl, Nat.le_of_ble_eq_true rfl⟩ (fun r_358 u_359 H locs hw hP hD hS => ?_)
              obtain ⟨n_356, n_357⟩ := u_359
              try dsimp only at hw
              obtain ⟨he_r_358, he_n_356, he_n_357, hw⟩ := hw
              obtain ⟨hr_r_358, hr_n_356, hf_361, hf_362, hf_363⟩ := hw
              refine lv_istore (lv' := [(5, .int r_358), (0, .ref h0), (1, .int r_10), (2, .int r_37), (3, .int v_196), (4, .int v_197)]) hx hb dX12_readDoor_76 hl (by decide) rfl (fun ls hl => ?_)
              refine lv_aload_n hx hb dX12_readDoor_78 rfl (lv_at hl 1 rfl) ?_
              refine va_get (D := G) (ci := 12) (v := .int n_356) (C := RX12) (T := TX12) (N := 65) hx hb hts inT12 hown hK hP 2 rfl rfl 12 (by decide) (hts _ tw_1897) (fun _ h9 => h9) rfl dX12_readDoor_79 ?_
              refine lv_if_ne (tgt := 104) hx hb dX12_readDoor_82 (by decide) (fun c_364 => ?_) (fun c_364 => ?_)
              · have b_365 := z_fneT c_364
                refine lv_aload_n hx hb dX12_readDoor_104 rfl (lv_at hl 1 rfl) ?_
                refine va_get (D := G) (ci := 12) (v := .int n_356) (C := RX12) (T := TX12) (N := 65) hx hb hts inT12 hown hK hP 2 rfl rfl 12 (by decide) (hts _ tw_1897) (fun _ h9 => h9) rfl dX12_readDoor_105 ?_
                refine lv_if_le (tgt := 112) hx hb dX12_readDoor_108 (by decide) (fun h9 => (z_no (by have h8 := z_fleT h9; omega))) (fun c_366 => ?_)
                have b_367 := z_fgtF c_366
                have hpost : (0 ≤ n_356.toInt ∧ n_356.toInt ≤ 9) ∧ (0 ≤ v_200.toInt ∧ v_200.toInt ≤ 4) ∧ (0 ≤ v_201.toInt ∧ v_201.toInt ≤ 900) ∧ (0 ≤ v_202.toInt ∧ v_202.toInt ≤ 900) ∧ (0 ≤ v_203.toInt ∧ v_203.toInt ≤ 9999) ∧ (0 ≤ v_204.toInt ∧ v_204.toInt ≤ 900) ∧ (zC g_c) ∧ (zNw g_c g_isOn) ∧ (m_behind.toInt ≤ v_202.toInt) ∧ (0 < m_bad.toInt → 0 < n_356.toInt) ∧ (n_356.toInt ≤ 0 → v_200.toInt = 0 ∨ m_behind.toInt < v_202.toInt) ∧ (n_356.toInt ≤ 0 → v_200.toInt = 3 → v_203.toInt = 59 → zNf g_c) := ⟨hr_n_356, hr_v_200, hr_v_201, hr_v_202, hr_v_203, hr_v_204, hC_g_c, hNW0, (by omega), (by omega), (by omega), (fun _ _ _ => hNF0)⟩
                have hX_368 : F_r_readDoor m_textEnd m_bad m_badAt m_token m_at m_behind m_number m_letters m_word g_tape g_c g_words = ((n_356, n_357, v_200, v_201, v_202, v_203, v_204, v_205, n_9, g_c) : Int32 × Int32 × Int32 × Int32 × Int32 × Int32 × Int32 × Int64 × (Nat → Int64) × (Nat → Int32)) := by
                  refine hF_L58b.trans ?_
                  refine (F_r_readDoor_L58b_s ..).trans ?_
                  refine (if_neg c_329).trans ?_
                  refine (if_pos c_350).trans ?_
                  extract_lets -merge -useContext +onlyGivenNames w9 y2_0 y2_1 y2_2; have e9 : (r_358, n_356, n_357) = w9 := ((z_tS he_r_358 (z_tS he_n_356 he_n_357.symm))).symm; clear_value w9; subst e9
                  refine (if_neg c_364).trans ?_
                  exact rfl
                exact hret _ _ _ _ _ (n_356, n_357, v_200, v_201, v_202, v_203, v_204, v_205, n_9, g_c) [2, 1, 3, 4, 0] hP hD hS rfl (by decide) dX12_readDoor_111 ⟨(congrArg (fun z9 => z9.1) hX_368).symm, (congrArg (fun z9 => z9.2.1) hX_368).symm, (congrArg (fun z9 => z9.2.2.1) hX_368).symm, (congrArg (fun z9 => z9.2.2.2.1) hX_368).symm, (congrArg (fun z9 => z9.2.2.2.2.1) hX_368).symm, (congrArg (fun z9 => z9.2.2.2.2.2.1) hX_368).symm, (congrArg (fun z9 => z9.2.2.2.2.2.2.1) hX_368).symm, (congrArg (fun z9 => z9.2.2.2.2.2.2.2.1) hX_368).symm, (congrArg (fun z9 => z9.2.2.2.2.2.2.2.2.1) hX_368).symm, (congrArg (fun z9 => z9.2.2.2.2.2.2.2.2.2) hX_368).symm, hpost⟩
              · have b_369 := z_feqF c_364
                refine lv_iload_n hx hb dX12_readDoor_85 rfl (lv_at hl 4 rfl) ?_
                refine lv_iload hx hb dX12_readDoor_86 (lv_at hl 0 rfl) ?_
                refine lv_ishr hx hb dX12_readDoor_88 ?_
                have hL_v_196 := z_full v_196
                refine lv_topi (fun x_370 he_x_370 => ?_)
                refine lv_iconst (v := 1) hx hb dX12_readDoor_89 (by decide) ?_
                refine lv_iand hx hb dX12_readDoor_90 ?_
                have hL_x_370 := z_full x_370
                refine lv_topi (fun x_371 he_x_371 => ?_)
                have hr_x_371 := z_andr he_x_371 hk_1 (by decide)
                refine lv_iconst (v := 1) hx hb dX12_readDoor_91 (by decide) ?_
                refine lv_icmp_ne (tgt := 104) hx hb dX12_readDoor_92 (by decide) (fun c_372 => ?_) (fun c_372 => ?_)
                · have b_373 := z_fneT c_372
                  refine lv_aload_n hx hb dX12_readDoor_104 rfl (lv_at hl 1 rfl) ?_
                  refine va_get (D := G) (ci := 12) (v := .int n_356) (C := RX12) (T := TX12) (N := 65) hx hb hts inT12 hown hK hP 2 rfl rfl 12 (by decide) (hts _ tw_1897) (fun _ h9 => h9) rfl dX12_readDoor_105 ?_
                  refine lv_if_le (tgt := 112) hx hb dX12_readDoor_108 (by decide) (fun c_374 => ?_) (fun h9 => (z_no (by have h8 := z_fgtF h9; omega)))
                  have b_375 := z_fleT c_374
                  refine lv_iload_n hx hb dX12_readDoor_112 rfl (lv_at hl 4 rfl) ?_
                  refine lv_iconst (v := 1) hx hb dX12_readDoor_113 (by decide) ?_
                  refine lv_iload hx hb dX12_readDoor_114 (lv_at hl 0 rfl) ?_
                  refine lv_ishl hx hb dX12_readDoor_116 ?_
                  refine lv_topi (fun x_376 he_x_376 => ?_)
                  refine lv_ior hx hb dX12_readDoor_117 ?_
                  have hL_x_376 := z_full x_376
                  refine lv_topi (fun x_377 he_x_377 => ?_)
                  refine lv_istore_n (lv' := [(3, .int x_377), (5, .int r_358), (0, .ref h0), (1, .int r_10), (2, .int r_37), (4, .int v_197)]) hx hb dX12_readDoor_118 rfl hl (by decide) rfl (fun ls hl => ?_)
                  refine lv_aload_n hx hb dX12_readDoor_119 rfl (lv_at hl 2 rfl) ?_
                  refine z_callVv (As := []) (rest := []) (wr := [(a_isOn, .inl (cA.1 3, 10, .inl g_isOn)), (a_c, .inl (cA.1 0, 1825, .inl g_c)), (a_words, .inl (cA.1 1, 105, .inr (.inl n_9)))]) ⟨hx, hb, hml, hown, hts⟩ hK hE hT hP hD hS hA (r_next2 l G cA h0 m_status m_thrown m_above m_under a_traySort a_trayMany a_numbers a_tape m_taped m_textEnd m_faultKind m_faultAt n_356 n_357 v_200 v_201 v_202 v_203 v_204 v_205 a_c a_words m_markMany a_there a_tried a_best a_found m_thereMany m_foundMany m_orderHow m_orderRing m_orderMany m_hasBest m_bestTop m_bestBy a_weights a_shared m_random m_truePlace m_trueWay m_seconds m_done m_feelings m_tries m_leftOver m_playDoor m_playRing m_isOpen m_isOver m_wasTried m_hasPlayed a_feltNow a_last a_kept m_hasSeconds m_hasTurned m_hasRound a_hasFeels a_isOn m_firstAct m_meanTop m_meanBy a_order m_rowMany m_newSteps g_tape hr_m_textEnd hr_v_201 hr_v_202 hr_v_200 hr_v_203 hr_v_204) lk_RX12_184 ⟨rfl, rfl⟩ ⟨Nat.le_of_ble_eq_true rfl, Nat.le_of_ble_eq_true rfl⟩ 12 rfl rfl rfl [2, 1] [0, 3, 4] rfl rfl (by decide) rfl hl.1 rfl (lv_room (Nat.le_of_ble_eq_true rfl)) dX12_readDoor_120 ⟨Nat.le_of_ble_eq_true rfl, Nat.le_of_ble_eq_true rfl⟩ (fun u_385 H locs hw hP hD hS => ?_)
                  obtain ⟨n_378, n_379, n_380, n_381, n_382, n_383⟩ := u_385
                  try dsimp only at hw
                  obtain ⟨he_n_378, he_n_379, he_n_380, he_n_381, he_n_382, he_n_383, hw⟩ := hw
                  obtain ⟨hr_n_378, hr_n_379, hr_n_380, hr_n_381, hr_n_382, hf_387, hf_388⟩ := hw
                  refine lv_aload_n hx hb dX12_readDoor_123 rfl (lv_at hl 2 rfl) ?_
                  refine va_get (D := G) (ci := 12) (v := .int n_378) (C := RX12) (T := TX12) (N := 65) hx hb hts inT12 hown hK hP 3 rfl rfl 14 (by decide) (hts _ tw_1899) (fun _ h9 => h9) rfl dX12_readDoor_124 ?_
                  refine lv_iconst (v := 1) hx hb dX12_readDoor_127 (by decide) ?_
                  refine lv_icmp_ne (tgt := 135) hx hb dX12_readDoor_128 (by decide) (fun c_389 => ?_) (fun c_389 => ?_)
                  · have b_390 := z_fneT c_389
                    refine lv_iconst (v := 0) hx hb dX12_readDoor_135 (by decide) ?_
                    refine lv_istore (lv' := [(4, .int 0), (3, .int x_377), (5, .int r_358), (0, .ref h0), (1, .int r_10), (2, .int r_37)]) hx hb dX12_readDoor_136 hl (by decide) rfl (fun ls hl => ?_)
                    refine lv_goto (tgt := 58) hx hb dX12_readDoor_138 (by decide) ?_
                    have hX_391 : F_r_readDoor m_textEnd m_bad m_badAt m_token m_at m_behind m_number m_letters m_word g_tape g_c g_words = F_r_readDoor_L58b m_textEnd g_tape g_c r_10 n_9 r_37 n_L58b x_377 (0 : Int32) n_356 n_357 n_378 n_379 n_380 n_381 n_382 n_383 := by
                      refine hF_L58b.trans ?_
                      refine (F_r_readDoor_L58b_s ..).trans ?_
                      refine (if_neg c_329).trans ?_
                      refine (if_pos c_350).trans ?_
                      extract_lets -merge -useContext +onlyGivenNames w9 y2_0 y2_1 y2_2; have e9 : (r_358, n_356, n_357) = w9 := ((z_tS he_r_358 (z_tS he_n_356 he_n_357.symm))).symm; clear_value w9; subst e9
                      refine (if_pos c_364).trans ?_
                      try (extract_lets -merge -useContext +onlyGivenNames y9; have e9 : x_370 = y9 := (by first | exact he_x_370 | exact he_x_370.symm); clear_value y9; subst e9)
                      try (extract_lets -merge -useContext +onlyGivenNames y9; have e9 : x_371 = y9 := (by first | exact he_x_371 | exact he_x_371.symm); clear_value y9; subst e9)
                      refine (if_neg c_372).trans ?_
                      try (extract_lets -merge -useContext +onlyGivenNames y9; have e9 : x_376 = y9 := (by first | exact he_x_376 | exact he_x_376.symm); clear_value y9; subst e9)
                      try (extract_lets -merge -useContext +onlyGivenNames y9; have e9 : x_377 = y9 := (by first | exact he_x_377 | exact he_x_377.symm); clear_value y9; subst e9)
                      extract_lets -merge -useContext +onlyGivenNames w9 y9_0 y9_1 y9_2 y9_3 y9_4 y9_5; have e9 : (n_378, n_379, n_380, n_381, n_382, n_383) = w9 := ((z_tS he_n_378 (z_tS he_n_379 (z_tS he_n_380 (z_tS he_n_381 (z_tS he_n_382 he_n_383.symm)))))).symm; clear_value w9; subst e9
                      refine (if_neg c_389).trans ?_
                      exact rfl
                    exact ih_328 x_377 0 n_356 n_357 n_378 n_379 n_380 n_381 n_382 n_383 H locs ls (by omega) (by decide +kernel) hr_n_356 hr_n_378 hr_n_379 hr_n_380 hr_n_381 hr_n_382 (by omega) (by omega) (by omega) hX_391 hP hD hS (lv_sub hl [3, 4, 5, 1, 0] rfl)
                  · have b_392 := z_feqF c_389
                    refine lv_iconst (v := 1) hx hb dX12_readDoor_131 (by decide) ?_
                    refine lv_goto (tgt := 136) hx hb dX12_readDoor_132 (by decide) ?_
                    refine lv_istore (lv' := [(4, .int 1), (3, .int x_377), (5, .int r_358), (0, .ref h0), (1, .int r_10), (2, .int r_37)]) hx hb dX12_readDoor_136 hl (by decide) rfl (fun ls hl => ?_)
                    refine lv_goto (tgt := 58) hx hb dX12_readDoor_138 (by decide) ?_
                    have hX_393 : F_r_readDoor m_textEnd m_bad m_badAt m_token m_at m_behind m_number m_letters m_word g_tape g_c g_words = F_r_readDoor_L58b m_textEnd g_tape g_c r_10 n_9 r_37 n_L58b x_377 (1 : Int32) n_356 n_357 n_378 n_379 n_380 n_381 n_382 n_383 := by
                      refine hF_L58b.trans ?_
                      refine (F_r_readDoor_L58b_s ..).trans ?_
                      refine (if_neg c_329).trans ?_
                      refine (if_pos c_350).trans ?_
                      extract_lets -merge -useContext +onlyGivenNames w9 y2_0 y2_1 y2_2; have e9 : (r_358, n_356, n_357) = w9 := ((z_tS he_r_358 (z_tS he_n_356 he_n_357.symm))).symm; clear_value w9; subst e9
                      refine (if_pos c_364).trans ?_
                      try (extract_lets -merge -useContext +onlyGivenNames y9; have e9 : x_370 = y9 := (by first | exact he_x_370 | exact he_x_370.symm); clear_value y9; subst e9)
                      try (extract_lets -merge -useContext +onlyGivenNames y9; have e9 : x_371 = y9 := (by first | exact he_x_371 | exact he_x_371.symm); clear_value y9; subst e9)
                      refine (if_neg c_372).trans ?_
                      try (extract_lets -merge -useContext +onlyGivenNames y9; have e9 : x_376 = y9 := (by first | exact he_x_376 | exact he_x_376.symm); clear_value y9; subst e9)
                      try (extract_lets -merge -useContext +onlyGivenNames y9; have e9 : x_377 = y9 := (by first | exact he_x_377 | exact he_x_377.symm); clear_value y9; subst e9)
                      extract_lets -merge -useContext +onlyGivenNames w9 y9_0 y9_1 y9_2 y9_3 y9_4 y9_5; have e9 : (n_378, n_379, n_380, n_381, n_382, n_383) = w9 := ((z_tS he_n_378 (z_tS he_n_379 (z_tS he_n_380 (z_tS he_n_381 (z_tS he_n_382 he_n_383.symm)))))).symm; clear_value w9; subst e9
                      refine (if_pos c_389).trans ?_
                      exact rfl
                    exact ih_328 x_377 1 n_356 n_357 n_378 n_379 n_380 n_381 n_382 n_383 H locs ls (by omega) (by decide +kernel) hr_n_356 hr_n_378 hr_n_379 hr_n_380 hr_n_381 hr_n_382 (by omega) (by omega) (by omega) hX_393 hP hD hS (lv_sub hl [3, 4, 5, 1, 0] rfl)
                · have b_394 := z_feqF c_372
                  refine lv_aload_n hx hb dX12_readDoor_95 rfl (lv_at hl 1 rfl) ?_
                  refine lv_iconst (v := 5) hx hb dX12_readDoor_96 (by decide) ?_
                  refine lv_aload_n hx hb dX12_readDoor_97 rfl (lv_at hl 1 rfl) ?_
                  refine va_get (D := G) (ci := 12) (v := .int v_201) (C := RX12) (T := TX12) (N := 65) hx hb hts inT12 hown hK hP 2 rfl rfl 15 (by decide) (hts _ tw_1900) (fun _ h9 => h9) rfl dX12_readDoor_98 ?_
                  refine z_callVv (As := [.int 5, .int v_201]) (rest := []) (wr := [(a_isOn, .inl (cA.1 3, 10, .inl g_isOn)), (a_tape, .inl (cA.1 2, 900, .inl g_tape)), (a_c, .inl (cA.1 0, 1825, .inl g_c)), (a_words, .inl (cA.1 1, 105, .inr (.inl n_9)))]) ⟨hx, hb, hml, hown, hts⟩ hK hE hT hP hD hS hA (r_fail l G cA h0 m_status m_thrown m_above m_under a_traySort a_trayMany a_numbers a_tape m_taped m_textEnd m_faultKind m_faultAt n_356 n_357 v_200 v_201 v_202 v_203 v_204 v_205 a_c a_words m_markMany a_there a_tried a_best a_found m_thereMany m_foundMany m_orderHow m_orderRing m_orderMany m_hasBest m_bestTop m_bestBy a_weights a_shared m_random m_truePlace m_trueWay m_seconds m_done m_feelings m_tries m_leftOver m_playDoor m_playRing m_isOpen m_isOver m_wasTried m_hasPlayed a_feltNow a_last a_kept m_hasSeconds m_hasTurned m_hasRound a_hasFeels a_isOn m_firstAct m_meanTop m_meanBy a_order m_rowMany m_newSteps 5 v_201 (by decide +kernel) hr_n_356) lk_RX12_180 ⟨rfl, rfl⟩ ⟨Nat.le_of_ble_eq_true rfl, Nat.le_of_ble_eq_true rfl⟩ 12 rfl rfl rfl [2] [0, 1, 3, 4] rfl rfl (by decide) rfl hl.1 rfl (lv_room (Nat.le_of_ble_eq_true rfl)) dX12_readDoor_101 ⟨Nat.le_of_ble_eq_true rfl, Nat.le_of_ble_eq_true rfl⟩ (fun u_398 H locs hw hP hD hS => ?_)
                  obtain ⟨n_395, n_396⟩ := u_398
                  try dsimp only at hw
                  obtain ⟨he_n_395, he_n_396, hw⟩ := hw
                  obtain ⟨hr_n_395, hf_400⟩ := hw
                  refine lv_aload_n hx hb dX12_readDoor_104 rfl (lv_at hl 1 rfl) ?_
                  refine va_get (D := G) (ci := 12) (v := .int n_395) (C := RX12) (T := TX12) (N := 65) hx hb hts inT12 hown hK hP 4 rfl rfl 12 (by decide) (hts _ tw_1897) (fun _ h9 => h9) rfl dX12_readDoor_105 ?_
                  refine lv_if_le (tgt := 112) hx hb dX12_readDoor_108 (by decide) (fun h9 => (z_no (by have h8 := z_fleT h9; omega))) (fun c_401 => ?_)
                  have b_402 := z_fgtF c_401
                  have hpost : (0 ≤ n_395.toInt ∧ n_395.toInt ≤ 9) ∧ (0 ≤ v_200.toInt ∧ v_200.toInt ≤ 4) ∧ (0 ≤ v_201.toInt ∧ v_201.toInt ≤ 900) ∧ (0 ≤ v_202.toInt ∧ v_202.toInt ≤ 900) ∧ (0 ≤ v_203.toInt ∧ v_203.toInt ≤ 9999) ∧ (0 ≤ v_204.toInt ∧ v_204.toInt ≤ 900) ∧ (zC g_c) ∧ (zNw g_c g_isOn) ∧ (m_behind.toInt ≤ v_202.toInt) ∧ (0 < m_bad.toInt → 0 < n_395.toInt) ∧ (n_395.toInt ≤ 0 → v_200.toInt = 0 ∨ m_behind.toInt < v_202.toInt) ∧ (n_395.toInt ≤ 0 → v_200.toInt = 3 → v_203.toInt = 59 → zNf g_c) := ⟨(z_rgw hr_n_395 (by decide) (by decide)), hr_v_200, hr_v_201, hr_v_202, hr_v_203, hr_v_204, hC_g_c, hNW0, (by omega), (by omega), (by omega), (fun _ _ _ => hNF0)⟩
                  have hX_403 : F_r_readDoor m_textEnd m_bad m_badAt m_token m_at m_behind m_number m_letters m_word g_tape g_c g_words = ((n_395, n_396, v_200, v_201, v_202, v_203, v_204, v_205, n_9, g_c) : Int32 × Int32 × Int32 × Int32 × Int32 × Int32 × Int32 × Int64 × (Nat → Int64) × (Nat → Int32)) := by
                    refine hF_L58b.trans ?_
                    refine (F_r_readDoor_L58b_s ..).trans ?_
                    refine (if_neg c_329).trans ?_
                    refine (if_pos c_350).trans ?_
                    extract_lets -merge -useContext +onlyGivenNames w9 y2_0 y2_1 y2_2; have e9 : (r_358, n_356, n_357) = w9 := ((z_tS he_r_358 (z_tS he_n_356 he_n_357.symm))).symm; clear_value w9; subst e9
                    refine (if_pos c_364).trans ?_
                    try (extract_lets -merge -useContext +onlyGivenNames y9; have e9 : x_370 = y9 := (by first | exact he_x_370 | exact he_x_370.symm); clear_value y9; subst e9)
                    try (extract_lets -merge -useContext +onlyGivenNames y9; have e9 : x_371 = y9 := (by first | exact he_x_371 | exact he_x_371.symm); clear_value y9; subst e9)
                    refine (if_pos c_372).trans ?_
                    extract_lets -merge -useContext +onlyGivenNames w9 y7_0 y7_1; have e9 : (n_395, n_396) = w9 := ((z_tS he_n_395 he_n_396.symm)).symm; clear_value w9; subst e9
                    exact rfl
                  exact hret _ _ _ _ _ (n_395, n_396, v_200, v_201, v_202, v_203, v_204, v_205, n_9, g_c) [4, 1, 2, 3, 0] hP hD hS rfl (by decide) dX12_readDoor_111 ⟨(congrArg (fun z9 => z9.1) hX_403).symm, (congrArg (fun z9 => z9.2.1) hX_403).symm, (congrArg (fun z9 => z9.2.2.1) hX_403).symm, (congrArg (fun z9 => z9.2.2.2.1) hX_403).symm, (congrArg (fun z9 => z9.2.2.2.2.1) hX_403).symm, (congrArg (fun z9 => z9.2.2.2.2.2.1) hX_403).symm, (congrArg (fun z9 => z9.2.2.2.2.2.2.1) hX_403).symm, (congrArg (fun z9 => z9.2.2.2.2.2.2.2.1) hX_403).symm, (congrArg (fun z9 => z9.2.2.2.2.2.2.2.2.1) hX_403).symm, (congrArg (fun z9 => z9.2.2.2.2.2.2.2.2.2) hX_403).symm, hpost⟩
      have hX_404 : F_r_readDoor m_textEnd m_bad m_badAt m_token m_at m_behind m_number m_letters m_word g_tape g_c g_words = F_r_readDoor_L58b m_textEnd g_tape g_c r_10 n_9 r_37 ((900 - n_79.toInt + (1 : Int32).toInt).toNat + 1) (0 : Int32) (1 : Int32) n_29 n_30 n_77 n_78 n_79 n_80 n_81 n_82 := by
        refine (F_r_readDoor_s ..).trans ?_
        extract_lets -merge -useContext +onlyGivenNames w9 y0_0 y0_1 y0_2 y0_3 y0_4 y0_5 y0_6 y0_7 y0_8 y0_9; have e9 : (r_10, n_1, n_2, n_3, n_4, n_5, n_6, n_7, n_8, n_9) = w9 := ((z_tS he_r_10 (z_tS he_n_1 (z_tS he_n_2 (z_tS he_n_3 (z_tS he_n_4 (z_tS he_n_5 (z_tS he_n_6 (z_tS he_n_7 (z_tS he_n_8 he_n_9.symm)))))))))).symm; clear_value w9; subst e9
        extract_lets -merge -useContext +onlyGivenNames w9 y9; have e9 : r_18 = w9 := he_r_18; clear_value w9; subst e9
        refine (if_neg c_22).trans ?_
        extract_lets -merge -useContext +onlyGivenNames w9 y3_0 y3_1; have e9 : (n_24, n_25) = w9 := ((z_tS he_n_24 he_n_25.symm)).symm; clear_value w9; subst e9
        extract_lets -merge -useContext +onlyGivenNames w9 y4_0 y4_1 y4_2 y4_3 y4_4 y4_5 y4_6 y4_7 y4_8; have e9 : (r_37, n_29, n_30, n_31, n_32, n_33, n_34, n_35, n_36) = w9 := ((z_tS he_r_37 (z_tS he_n_29 (z_tS he_n_30 (z_tS he_n_31 (z_tS he_n_32 (z_tS he_n_33 (z_tS he_n_34 (z_tS he_n_35 he_n_36.symm))))))))).symm; clear_value w9; subst e9
        extract_lets -merge -useContext +onlyGivenNames w9 y9; have e9 : r_46 = w9 := he_r_46; clear_value w9; subst e9
        refine (if_pos c_50).trans ?_
        extract_lets -merge -useContext +onlyGivenNames w9 y7_0 y7_1 y7_2 y7_3 y7_4 y7_5; have e9 : (n_77, n_78, n_79, n_80, n_81, n_82) = w9 := ((z_tS he_n_77 (z_tS he_n_78 (z_tS he_n_79 (z_tS he_n_80 (z_tS he_n_81 he_n_82.symm)))))).symm; clear_value w9; subst e9
        exact rfl
      exact hlp_327 ((900 - n_79.toInt + (1 : Int32).toInt).toNat + 1) 0 1 n_29 n_30 n_77 n_78 n_79 n_80 n_81 n_82 _ _ _ (Nat.lt_succ_self _) (by decide +kernel) hr_n_29 hr_n_77 hr_n_78 hr_n_79 hr_n_80 hr_n_81 (by omega) (by omega) (by omega) hX_404 hP hD hS (lv_sub hl [4, 3, 2, 1, 0] rfl)
  · have b_405 := z_feqF c_22
    refine lv_iconst (v := 1) hx hb dX12_readDoor_19 (by decide) ?_
    refine lv_goto (tgt := 24) hx hb dX12_readDoor_20 (by decide) ?_
    refine z_callVv (As := [.int 1]) (rest := []) (wr := [(a_isOn, .inl (cA.1 3, 10, .inl g_isOn)), (a_c, .inl (cA.1 0, 1825, .inl g_c)), (a_words, .inl (cA.1 1, 105, .inr (.inl n_9)))]) ⟨hx, hb, hml, hown, hts⟩ hK hE hT hP hD hS hA (r_must_1 l G cA h0 m_status m_thrown m_above m_under a_traySort a_trayMany a_numbers a_tape m_taped m_textEnd m_faultKind m_faultAt n_1 n_2 n_3 n_4 n_5 n_6 n_7 n_8 a_c a_words m_markMany a_there a_tried a_best a_found m_thereMany m_foundMany m_orderHow m_orderRing m_orderMany m_hasBest m_bestTop m_bestBy a_weights a_shared m_random m_truePlace m_trueWay m_seconds m_done m_feelings m_tries m_leftOver m_playDoor m_playRing m_isOpen m_isOver m_wasTried m_hasPlayed a_feltNow a_last a_kept m_hasSeconds m_hasTurned m_hasRound a_hasFeels a_isOn m_firstAct m_meanTop m_meanBy a_order m_rowMany m_newSteps g_tape hr_m_textEnd hr_n_4 hr_n_5 hr_n_1 hr_n_3 hr_n_6 hr_n_7) lk_RX12_210 ⟨rfl, rfl⟩ ⟨Nat.le_of_ble_eq_true rfl, Nat.le_of_ble_eq_true rfl⟩ 12 rfl rfl rfl [4, 1] [0, 2, 3] rfl rfl (by decide) rfl hl.1 rfl (lv_room (Nat.le_of_ble_eq_true rfl)) dX12_readDoor_24 ⟨Nat.le_of_ble_eq_true rfl, Nat.le_of_ble_eq_true rfl⟩ (fun u_413 H locs hw hP hD hS => ?_)
    obtain ⟨n_406, n_407, n_408, n_409, n_410, n_411⟩ := u_413
    try dsimp only at hw
    obtain ⟨he_n_406, he_n_407, he_n_408, he_n_409, he_n_410, he_n_411, hw⟩ := hw
    obtain ⟨hr_n_406, hr_n_407, hr_n_408, hr_n_409, hr_n_410, hf_415, hf_416, hf_417⟩ := hw
    refine lv_aload_n hx hb dX12_readDoor_27 rfl (lv_at hl 1 rfl) ?_
    refine lv_iconst (v := 0) hx hb dX12_readDoor_28 (by decide) ?_
    refine lv_bipush (v := 99) hx hb dX12_readDoor_29 (by decide) ?_
    refine z_callVi (As := [.int 0, .int 99]) (rest := []) (wr := [(a_isOn, .inl (cA.1 3, 10, .inl g_isOn)), (a_c, .inl (cA.1 0, 1825, .inl g_c)), (a_words, .inl (cA.1 1, 105, .inr (.inl n_9)))]) ⟨hx, hb, hml, hown, hts⟩ hK hE hT hP hD hS hA (r_count l G cA h0 m_status m_thrown m_above m_under a_traySort a_trayMany a_numbers a_tape m_taped m_textEnd m_faultKind m_faultAt n_1 n_2 n_406 n_407 n_408 n_409 n_410 n_411 a_c a_words m_markMany a_there a_tried a_best a_found m_thereMany m_foundMany m_orderHow m_orderRing m_orderMany m_hasBest m_bestTop m_bestBy a_weights a_shared m_random m_truePlace m_trueWay m_seconds m_done m_feelings m_tries m_leftOver m_playDoor m_playRing m_isOpen m_isOver m_wasTried m_hasPlayed a_feltNow a_last a_kept m_hasSeconds m_hasTurned m_hasRound a_hasFeels a_isOn m_firstAct m_meanTop m_meanBy a_order m_rowMany m_newSteps g_tape 0 99 (by decide +kernel) (by decide +kernel) hr_m_textEnd hr_n_407 hr_n_408 hr_n_1 hr_n_406 hr_n_409 hr_n_410) lk_RX12_214 ⟨rfl, rfl⟩ ⟨Nat.le_of_ble_eq_true rfl, Nat.le_of_ble_eq_true rfl⟩ 12 rfl rfl rfl [3, 4] [0, 1, 2] rfl rfl (by decide) rfl hl.1 rfl (lv_room (Nat.le_of_ble_eq_true rfl)) dX12_readDoor_31 ⟨Nat.le_of_ble_eq_true rfl, Nat.le_of_ble_eq_true rfl⟩ (fun r_426 u_427 H locs hw hP hD hS => ?_)
    obtain ⟨n_418, n_419, n_420, n_421, n_422, n_423, n_424, n_425⟩ := u_427
    try dsimp only at hw
    obtain ⟨he_r_426, he_n_418, he_n_419, he_n_420, he_n_421, he_n_422, he_n_423, he_n_424, he_n_425, hw⟩ := hw
    obtain ⟨hr_r_426, hr_n_418, hr_n_420, hr_n_421, hr_n_422, hr_n_423, hr_n_424, hf_429, hf_430, hf_431, hf_432, hf_433, hf_434⟩ := hw
    refine lv_istore_n (lv' := [(2, .int r_426), (1, .int r_10), (0, .ref h0)]) hx hb dX12_readDoor_34 rfl hl (by decide) rfl (fun ls hl => ?_)
    refine lv_aload_n hx hb dX12_readDoor_35 rfl (lv_at hl 2 rfl) ?_
    refine lv_aload_n hx hb dX12_readDoor_36 rfl (lv_at hl 2 rfl) ?_
    refine z_callVi (As := []) (rest := [.ref h0]) (wr := [(a_isOn, .inl (cA.1 3, 10, .inl g_isOn)), (a_c, .inl (cA.1 0, 1825, .inl g_c)), (a_words, .inl (cA.1 1, 105, .inr (.inl n_9))), (a_tape, .inl (cA.1 2, 900, .inl g_tape))]) ⟨hx, hb, hml, hown, hts⟩ hK hE hT hP hD hS hA (r_houseWord l G cA h0 m_status m_thrown m_above m_under a_traySort a_trayMany a_numbers a_tape m_taped m_textEnd m_faultKind m_faultAt n_418 n_419 n_420 n_421 n_422 n_423 n_424 n_425 a_c a_words m_markMany a_there a_tried a_best a_found m_thereMany m_foundMany m_orderHow m_orderRing m_orderMany m_hasBest m_bestTop m_bestBy a_weights a_shared m_random m_truePlace m_trueWay m_seconds m_done m_feelings m_tries m_leftOver m_playDoor m_playRing m_isOpen m_isOver m_wasTried m_hasPlayed a_feltNow a_last a_kept m_hasSeconds m_hasTurned m_hasRound a_hasFeels a_isOn m_firstAct m_meanTop m_meanBy a_order m_rowMany m_newSteps hr_n_420) lk_RX12_170 ⟨rfl, rfl⟩ ⟨Nat.le_of_ble_eq_true rfl, Nat.le_of_ble_eq_true rfl⟩ 12 rfl rfl rfl [3] [0, 1, 2, 4] rfl rfl (by decide) rfl hl.1 rfl (lv_room (Nat.le_of_ble_eq_true rfl)) dX12_readDoor_37 ⟨Nat.le_of_ble_eq_true rfl, Nat.le_of_ble_eq_true rfl⟩ (fun r_435 u_436 H locs hw hP hD hS => ?_)
    obtain ⟨he_r_435, hw⟩ := hw
    obtain ⟨hr_r_435, hf_438⟩ := hw
    refine lv_bipush (v := 10) hx hb dX12_readDoor_40 (by decide) ?_
    refine lv_icmp_ne (tgt := 49) hx hb dX12_readDoor_42 (by decide) (fun c_439 => ?_) (fun c_439 => ?_)
    · have b_440 := z_fneT c_439
      refine lv_iconst (v := 0) hx hb dX12_readDoor_49 (by decide) ?_
      refine z_callVv (As := [.int 0]) (rest := []) (wr := [(a_isOn, .inl (cA.1 3, 10, .inl g_isOn)), (a_c, .inl (cA.1 0, 1825, .inl g_c)), (a_words, .inl (cA.1 1, 105, .inr (.inl n_9))), (a_tape, .inl (cA.1 2, 900, .inl g_tape))]) ⟨hx, hb, hml, hown, hts⟩ hK hE hT hP hD hS hA (r_must_0 l G cA h0 m_status m_thrown m_above m_under a_traySort a_trayMany a_numbers a_tape m_taped m_textEnd m_faultKind m_faultAt n_418 n_419 n_420 n_421 n_422 n_423 n_424 n_425 a_c a_words m_markMany a_there a_tried a_best a_found m_thereMany m_foundMany m_orderHow m_orderRing m_orderMany m_hasBest m_bestTop m_bestBy a_weights a_shared m_random m_truePlace m_trueWay m_seconds m_done m_feelings m_tries m_leftOver m_playDoor m_playRing m_isOpen m_isOver m_wasTried m_hasPlayed a_feltNow a_last a_kept m_hasSeconds m_hasTurned m_hasRound a_hasFeels a_isOn m_firstAct m_meanTop m_meanBy a_order m_rowMany m_newSteps hr_n_421 hr_n_418 hr_n_420) lk_RX12_210 ⟨rfl, rfl⟩ ⟨Nat.le_of_ble_eq_true rfl, Nat.le_of_ble_eq_true rfl⟩ 12 rfl rfl rfl [4] [0, 1, 2, 3] rfl rfl (by decide) rfl hl.1 rfl (lv_room (Nat.le_of_ble_eq_true rfl)) dX12_readDoor_50 ⟨Nat.le_of_ble_eq_true rfl, Nat.le_of_ble_eq_true rfl⟩ (fun u_444 H locs hw hP hD hS => ?_)
      obtain ⟨n_441, n_442⟩ := u_444
      try dsimp only at hw
      obtain ⟨he_n_441, he_n_442, hw⟩ := hw
      have hr_n_441 := hw
      refine lv_iconst (v := 0) hx hb dX12_readDoor_53 (by decide) ?_
      refine lv_istore_n (lv' := [(3, .int 0), (2, .int r_426), (1, .int r_10), (0, .ref h0)]) hx hb dX12_readDoor_54 rfl hl (by decide) rfl (fun ls hl => ?_)
      refine lv_iconst (v := 1) hx hb dX12_readDoor_55 (by decide) ?_
      refine lv_istore (lv' := [(4, .int 1), (3, .int 0), (2, .int r_426), (1, .int r_10), (0, .ref h0)]) hx hb dX12_readDoor_56 hl (by decide) rfl (fun ls hl => ?_)
      have hlp_457 : ∀ (n_L58c : Nat) (H : Heap) (locs : List Loc) (ls : Array Slot), (900 - n_422.toInt + (1 : Int32).toInt).toNat < n_L58c → (n_441.toInt ≤ 0 → (g_c 1463).toInt = r_10.toInt) → (m_behind.toInt ≤ n_422.toInt) → (n_441.toInt ≤ 0 → n_420.toInt = 0 ∨ m_behind.toInt < n_422.toInt) → (F_r_readDoor m_textEnd m_bad m_badAt m_token m_at m_behind m_number m_letters m_word g_tape g_c g_words = F_r_readDoor_L58c g_c n_9 n_420 n_421 n_422 n_423 n_424 n_425 n_441 n_442 n_L58c) → va_P G vwCl [(a_isOn, .inl (cA.1 3, 10, .inl g_isOn)), (a_c, .inl (cA.1 0, 1825, .inl g_c)), (a_words, .inl (cA.1 1, 105, .inr (.inl n_9))), (a_tape, .inl (cA.1 2, 900, .inl g_tape)), (h0, .inr (12, [.int m_status, .int m_thrown, .long m_above, .long m_under, .ref a_traySort, .ref a_trayMany, .ref a_numbers, .ref a_tape, .int m_taped, .int m_textEnd, .int m_faultKind, .int m_faultAt, .int n_441, .int n_442, .int n_420, .int n_421, .int n_422, .int n_423, .int n_424, .long n_425, .ref a_c, .ref a_words, .int m_markMany, .ref a_there, .ref a_tried, .ref a_best, .ref a_found, .int m_thereMany, .int m_foundMany, .int m_orderHow, .int m_orderRing, .int m_orderMany, .int m_hasBest, .long m_bestTop, .long m_bestBy, .ref a_weights, .ref a_shared, .int m_random, .int m_truePlace, .int m_trueWay, .int m_seconds, .int m_done, .int m_feelings, .int m_tries, .int m_leftOver, .int m_playDoor, .int m_playRing, .int m_isOpen, .int m_isOver, .int m_wasTried, .int m_hasPlayed, .ref a_feltNow, .ref a_last, .ref a_kept, .int m_hasSeconds, .int m_hasTurned, .int m_hasRound, .ref a_hasFeels, .ref a_isOn, .int m_firstAct, .long m_meanTop, .long m_meanBy, .ref a_order, .int m_rowMany, .int m_newSteps]))] H → va_D A [(a_isOn, .inl (cA.1 3, 10, .inl g_isOn)), (a_c, .inl (cA.1 0, 1825, .inl g_c)), (a_words, .inl (cA.1 1, 105, .inr (.inl n_9))), (a_tape, .inl (cA.1 2, 900, .inl g_tape)), (h0, .inr (12, [.int m_status, .int m_thrown, .long m_above, .long m_under, .ref a_traySort, .ref a_trayMany, .ref a_numbers, .ref a_tape, .int m_taped, .int m_textEnd, .int m_faultKind, .int m_faultAt, .int n_441, .int n_442, .int n_420, .int n_421, .int n_422, .int n_423, .int n_424, .long n_425, .ref a_c, .ref a_words, .int m_markMany, .ref a_there, .ref a_tried, .ref a_best, .ref a_found, .int m_thereMany, .int m_foundMany, .int m_orderHow, .int m_orderRing, .int m_orderMany, .int m_hasBest, .long m_bestTop, .long m_bestBy, .ref a_weights, .ref a_shared, .int m_random, .int m_truePlace, .int m_trueWay, .int m_seconds, .int m_done, .int m_feelings, .int m_tries, .int m_leftOver, .int m_playDoor, .int m_playRing, .int m_isOpen, .int m_isOver, .int m_wasTried, .int m_hasPlayed, .ref a_feltNow, .ref a_last, .ref a_kept, .int m_hasSeconds, .int m_hasTurned, .int m_hasRound, .ref a_hasFeels, .ref a_isOn, .int m_firstAct, .long m_meanTop, .long m_meanBy, .ref a_order, .int m_rowMany, .int m_newSteps]))] → va_S A s.heap H locs → lv_has ls 6 [(0, .ref h0), (1, .int r_10), (2, .int r_426), (3, .int 0), (4, .int 1)] → W p l e ({ frames := 4, cells := 0, slots := 0, locals := 91 }) s m args below meth c H locs 0 0 Q (F0 m 58 ls []) := by
        intro n_L58c
        induction n_L58c with
        | zero =>
          intro H locs ls hmu_hlp_457 hi_450 hi_451 hi_452 hF_L58c hP hD hS hl
          exact absurd hmu_hlp_457 (Nat.not_lt_zero _)
        | succ n_L58c ih_458 =>
          intro H locs ls hmu_hlp_457 hi_450 hi_451 hi_452 hF_L58c hP hD hS hl
          refine lv_iload hx hb dX12_readDoor_58 (lv_at hl 4 rfl) ?_
          refine lv_if_eq (tgt := 141) hx hb dX12_readDoor_60 (by decide) (fun h9 => absurd h9 (by decide +kernel)) (fun _ => ?_)
          refine lv_aload_n hx hb dX12_readDoor_63 rfl (lv_at hl 0 rfl) ?_
          refine va_get (D := G) (ci := 12) (v := .int n_441) (C := RX12) (T := TX12) (N := 65) hx hb hts inT12 hown hK hP 4 rfl rfl 12 (by decide) (hts _ tw_1897) (fun _ h9 => h9) rfl dX12_readDoor_64 ?_
          refine lv_if_ne (tgt := 141) hx hb dX12_readDoor_67 (by decide) (fun c_459 => ?_) (fun h9 => (z_no (by have h8 := z_feqF h9; omega)))
          have b_460 := z_fneT c_459
          refine lv_aload_n hx hb dX12_readDoor_141 rfl (lv_at hl 0 rfl) ?_
          refine va_get (D := G) (ci := 12) (v := .int n_441) (C := RX12) (T := TX12) (N := 65) hx hb hts inT12 hown hK hP 4 rfl rfl 12 (by decide) (hts _ tw_1897) (fun _ h9 => h9) rfl dX12_readDoor_142 ?_
          refine lv_if_le (tgt := 149) hx hb dX12_readDoor_145 (by decide) (fun h9 => (z_no (by have h8 := z_fleT h9; omega))) (fun c_461 => ?_)
          have b_462 := z_fgtF c_461
          have hpost : (0 ≤ n_441.toInt ∧ n_441.toInt ≤ 9) ∧ (0 ≤ n_420.toInt ∧ n_420.toInt ≤ 4) ∧ (0 ≤ n_421.toInt ∧ n_421.toInt ≤ 900) ∧ (0 ≤ n_422.toInt ∧ n_422.toInt ≤ 900) ∧ (0 ≤ n_423.toInt ∧ n_423.toInt ≤ 9999) ∧ (0 ≤ n_424.toInt ∧ n_424.toInt ≤ 900) ∧ (zC g_c) ∧ (zNw g_c g_isOn) ∧ (m_behind.toInt ≤ n_422.toInt) ∧ (0 < m_bad.toInt → 0 < n_441.toInt) ∧ (n_441.toInt ≤ 0 → n_420.toInt = 0 ∨ m_behind.toInt < n_422.toInt) ∧ (n_441.toInt ≤ 0 → n_420.toInt = 3 → n_423.toInt = 59 → zNf g_c) := ⟨(z_rgw hr_n_441 (by decide) (by decide)), hr_n_420, hr_n_421, hr_n_422, hr_n_423, hr_n_424, hC_g_c, hNW0, (by omega), (by omega), (by omega), (fun _ _ _ => hNF0)⟩
          have hX_463 : F_r_readDoor m_textEnd m_bad m_badAt m_token m_at m_behind m_number m_letters m_word g_tape g_c g_words = ((n_441, n_442, n_420, n_421, n_422, n_423, n_424, n_425, n_9, g_c) : Int32 × Int32 × Int32 × Int32 × Int32 × Int32 × Int32 × Int64 × (Nat → Int64) × (Nat → Int32)) := by
            refine hF_L58c.trans ?_
            refine (F_r_readDoor_L58c_s ..).trans ?_
            exact rfl
          exact hret _ _ _ _ _ (n_441, n_442, n_420, n_421, n_422, n_423, n_424, n_425, n_9, g_c) [4, 3, 1, 2, 0] hP hD hS rfl (by decide) dX12_readDoor_148 ⟨(congrArg (fun z9 => z9.1) hX_463).symm, (congrArg (fun z9 => z9.2.1) hX_463).symm, (congrArg (fun z9 => z9.2.2.1) hX_463).symm, (congrArg (fun z9 => z9.2.2.2.1) hX_463).symm, (congrArg (fun z9 => z9.2.2.2.2.1) hX_463).symm, (congrArg (fun z9 => z9.2.2.2.2.2.1) hX_463).symm, (congrArg (fun z9 => z9.2.2.2.2.2.2.1) hX_463).symm, (congrArg (fun z9 => z9.2.2.2.2.2.2.2.1) hX_463).symm, (congrArg (fun z9 => z9.2.2.2.2.2.2.2.2.1) hX_463).symm, (congrArg (fun z9 => z9.2.2.2.2.2.2.2.2.2) hX_463).symm, hpost⟩
      have hX_464 : F_r_readDoor m_textEnd m_bad m_badAt m_token m_at m_behind m_number m_letters m_word g_tape g_c g_words = F_r_readDoor_L58c g_c n_9 n_420 n_421 n_422 n_423 n_424 n_425 n_441 n_442 ((900 - n_422.toInt + (1 : Int32).toInt).toNat + 1) := by
        refine (F_r_readDoor_s ..).trans ?_
        extract_lets -merge -useContext +onlyGivenNames w9 y0_0 y0_1 y0_2 y0_3 y0_4 y0_5 y0_6 y0_7 y0_8 y0_9; have e9 : (r_10, n_1, n_2, n_3, n_4, n_5, n_6, n_7, n_8, n_9) = w9 := ((z_tS he_r_10 (z_tS he_n_1 (z_tS he_n_2 (z_tS he_n_3 (z_tS he_n_4 (z_tS he_n_5 (z_tS he_n_6 (z_tS he_n_7 (z_tS he_n_8 he_n_9.symm)))))))))).symm; clear_value w9; subst e9
        extract_lets -merge -useContext +onlyGivenNames w9 y9; have e9 : r_18 = w9 := he_r_18; clear_value w9; subst e9
        refine (if_pos c_22).trans ?_
        extract_lets -merge -useContext +onlyGivenNames w9 y3_0 y3_1 y3_2 y3_3 y3_4 y3_5; have e9 : (n_406, n_407, n_408, n_409, n_410, n_411) = w9 := ((z_tS he_n_406 (z_tS he_n_407 (z_tS he_n_408 (z_tS he_n_409 (z_tS he_n_410 he_n_411.symm)))))).symm; clear_value w9; subst e9
        extract_lets -merge -useContext +onlyGivenNames w9 y4_0 y4_1 y4_2 y4_3 y4_4 y4_5 y4_6 y4_7 y4_8; have e9 : (r_426, n_418, n_419, n_420, n_421, n_422, n_423, n_424, n_425) = w9 := ((z_tS he_r_426 (z_tS he_n_418 (z_tS he_n_419 (z_tS he_n_420 (z_tS he_n_421 (z_tS he_n_422 (z_tS he_n_423 (z_tS he_n_424 he_n_425.symm))))))))).symm; clear_value w9; subst e9
        extract_lets -merge -useContext +onlyGivenNames w9 y9; have e9 : r_435 = w9 := he_r_435; clear_value w9; subst e9
        refine (if_neg c_439).trans ?_
        extract_lets -merge -useContext +onlyGivenNames w9 y7_0 y7_1; have e9 : (n_441, n_442) = w9 := ((z_tS he_n_441 he_n_442.symm)).symm; clear_value w9; subst e9
        exact rfl
      exact hlp_457 ((900 - n_422.toInt + (1 : Int32).toInt).toNat + 1) _ _ _ (Nat.lt_succ_self _) (by omega) (by omega) (by omega) hX_464 hP hD hS (lv_sub hl [4, 3, 2, 1, 0] rfl)
    · have b_465 := z_feqF c_439
      refine lv_iconst (v := 1) hx hb dX12_readDoor_45 (by decide) ?_
      refine lv_goto (tgt := 50) hx hb dX12_readDoor_46 (by decide) ?_
      refine z_callVv (As := [.int 1]) (rest := []) (wr := [(a_isOn, .inl (cA.1 3, 10, .inl g_isOn)), (a_c, .inl (cA.1 0, 1825, .inl g_c)), (a_words, .inl (cA.1 1, 105, .inr (.inl n_9)))]) ⟨hx, hb, hml, hown, hts⟩ hK hE hT hP hD hS hA (r_must_1 l G cA h0 m_status m_thrown m_above m_under a_traySort a_trayMany a_numbers a_tape m_taped m_textEnd m_faultKind m_faultAt n_418 n_419 n_420 n_421 n_422 n_423 n_424 n_425 a_c a_words m_markMany a_there a_tried a_best a_found m_thereMany m_foundMany m_orderHow m_orderRing m_orderMany m_hasBest m_bestTop m_bestBy a_weights a_shared m_random m_truePlace m_trueWay m_seconds m_done m_feelings m_tries m_leftOver m_playDoor m_playRing m_isOpen m_isOver m_wasTried m_hasPlayed a_feltNow a_last a_kept m_hasSeconds m_hasTurned m_hasRound a_hasFeels a_isOn m_firstAct m_meanTop m_meanBy a_order m_rowMany m_newSteps g_tape hr_m_textEnd hr_n_421 hr_n_422 hr_n_418 hr_n_420 hr_n_423 hr_n_424) lk_RX12_210 ⟨rfl, rfl⟩ ⟨Nat.le_of_ble_eq_true rfl, Nat.le_of_ble_eq_true rfl⟩ 12 rfl rfl rfl [4, 3] [0, 1, 2] rfl rfl (by decide) rfl hl.1 rfl (lv_room (Nat.le_of_ble_eq_true rfl)) dX12_readDoor_50 ⟨Nat.le_of_ble_eq_true rfl, Nat.le_of_ble_eq_true rfl⟩ (fun u_473 H locs hw hP hD hS => ?_)
      obtain ⟨n_466, n_467, n_468, n_469, n_470, n_471⟩ := u_473
      try dsimp only at hw
      obtain ⟨he_n_466, he_n_467, he_n_468, he_n_469, he_n_470, he_n_471, hw⟩ := hw
      obtain ⟨hr_n_466, hr_n_467, hr_n_468, hr_n_469, hr_n_470, hf_475, hf_476, hf_477⟩ := hw
      refine lv_iconst (v := 0) hx hb dX12_readDoor_53 (by decide) ?_
      refine lv_istore_n (lv' := [(3, .int 0), (2, .int r_426), (1, .int r_10), (0, .ref h0)]) hx hb dX12_readDoor_54 rfl hl (by decide) rfl (fun ls hl => ?_)
      refine lv_iconst (v := 1) hx hb dX12_readDoor_55 (by decide) ?_
      refine lv_istore (lv' := [(4, .int 1), (3, .int 0), (2, .int r_426), (1, .int r_10), (0, .ref h0)]) hx hb dX12_readDoor_56 hl (by decide) rfl (fun ls hl => ?_)
      have hlp_716 : ∀ (n_L58d : Nat) (v_585 : Int32) (v_586 : Int32) (v_587 : Int32) (v_588 : Int32) (v_589 : Int32) (v_590 : Int32) (v_591 : Int32) (v_592 : Int32) (v_593 : Int32) (v_594 : Int64) (H : Heap) (locs : List Loc) (ls : Array Slot), (900 - v_591.toInt + v_586.toInt).toNat < n_L58d → (0 ≤ v_586.toInt ∧ v_586.toInt ≤ 1) → (0 ≤ v_587.toInt ∧ v_587.toInt ≤ 9) → (0 ≤ v_589.toInt ∧ v_589.toInt ≤ 4) → (0 ≤ v_590.toInt ∧ v_590.toInt ≤ 900) → (0 ≤ v_591.toInt ∧ v_591.toInt ≤ 900) → (0 ≤ v_592.toInt ∧ v_592.toInt ≤ 9999) → (0 ≤ v_593.toInt ∧ v_593.toInt ≤ 900) → (v_587.toInt ≤ 0 → (g_c 1463).toInt = r_10.toInt) → (m_behind.toInt ≤ v_591.toInt) → (v_587.toInt ≤ 0 → v_589.toInt = 0 ∨ m_behind.toInt < v_591.toInt) → (F_r_readDoor m_textEnd m_bad m_badAt m_token m_at m_behind m_number m_letters m_word g_tape g_c g_words = F_r_readDoor_L58d m_textEnd g_tape g_c r_10 n_9 r_426 n_L58d v_585 v_586 v_587 v_588 v_589 v_590 v_591 v_592 v_593 v_594) → va_P G vwCl [(a_isOn, .inl (cA.1 3, 10, .inl g_isOn)), (a_c, .inl (cA.1 0, 1825, .inl g_c)), (a_words, .inl (cA.1 1, 105, .inr (.inl n_9))), (h0, .inr (12, [.int m_status, .int m_thrown, .long m_above, .long m_under, .ref a_traySort, .ref a_trayMany, .ref a_numbers, .ref a_tape, .int m_taped, .int m_textEnd, .int m_faultKind, .int m_faultAt, .int v_587, .int v_588, .int v_589, .int v_590, .int v_591, .int v_592, .int v_593, .long v_594, .ref a_c, .ref a_words, .int m_markMany, .ref a_there, .ref a_tried, .ref a_best, .ref a_found, .int m_thereMany, .int m_foundMany, .int m_orderHow, .int m_orderRing, .int m_orderMany, .int m_hasBest, .long m_bestTop, .long m_bestBy, .ref a_weights, .ref a_shared, .int m_random, .int m_truePlace, .int m_trueWay, .int m_seconds, .int m_done, .int m_feelings, .int m_tries, .int m_leftOver, .int m_playDoor, .int m_playRing, .int m_isOpen, .int m_isOver, .int m_wasTried, .int m_hasPlayed, .ref a_feltNow, .ref a_last, .ref a_kept, .int m_hasSeconds, .int m_hasTurned, .int m_hasRound, .ref a_hasFeels, .ref a_isOn, .int m_firstAct, .long m_meanTop, .long m_meanBy, .ref a_order, .int m_rowMany, .int m_newSteps])), (a_tape, .inl (cA.1 2, 900, .inl g_tape))] H → va_D A [(a_isOn, .inl (cA.1 3, 10, .inl g_isOn)), (a_c, .inl (cA.1 0, 1825, .inl g_c)), (a_words, .inl (cA.1 1, 105, .inr (.inl n_9))), (h0, .inr (12, [.int m_status, .int m_thrown, .long m_above, .long m_under, .ref a_traySort, .ref a_trayMany, .ref a_numbers, .ref a_tape, .int m_taped, .int m_textEnd, .int m_faultKind, .int m_faultAt, .int v_587, .int v_588, .int v_589, .int v_590, .int v_591, .int v_592, .int v_593, .long v_594, .ref a_c, .ref a_words, .int m_markMany, .ref a_there, .ref a_tried, .ref a_best, .ref a_found, .int m_thereMany, .int m_foundMany, .int m_orderHow, .int m_orderRing, .int m_orderMany, .int m_hasBest, .long m_bestTop, .long m_bestBy, .ref a_weights, .ref a_shared, .int m_random, .int m_truePlace, .int m_trueWay, .int m_seconds, .int m_done, .int m_feelings, .int m_tries, .int m_leftOver, .int m_playDoor, .int m_playRing, .int m_isOpen, .int m_isOver, .int m_wasTried, .int m_hasPlayed, .ref a_feltNow, .ref a_last, .ref a_kept, .int m_hasSeconds, .int m_hasTurned, .int m_hasRound, .ref a_hasFeels, .ref a_isOn, .int m_firstAct, .long m_meanTop, .long m_meanBy, .ref a_order, .int m_rowMany, .int m_newSteps])), (a_tape, .inl (cA.1 2, 900, .inl g_tape))] → va_S A s.heap H locs → lv_has ls 6 [(0, .ref h0), (1, .int r_10), (2, .int r_426), (3, .int v_585), (4, .int v_586)] → W p l e ({ frames := 4, cells := 0, slots := 0, locals := 91 }) s m args below meth c H locs 0 0 Q (F0 m 58 ls []) := by
        intro n_L58d
        induction n_L58d with
        | zero =>
          intro v_585 v_586 v_587 v_588 v_589 v_590 v_591 v_592 v_593 v_594 H locs ls hmu_hlp_716 hr_v_586 hr_v_587 hr_v_589 hr_v_590 hr_v_591 hr_v_592 hr_v_593 hi_645 hi_646 hi_647 hF_L58d hP hD hS hl
          exact absurd hmu_hlp_716 (Nat.not_lt_zero _)
        | succ n_L58d ih_717 =>
          intro v_585 v_586 v_587 v_588 v_589 v_590 v_591 v_592 v_593 v_594 H locs ls hmu_hlp_716 hr_v_586 hr_v_587 hr_v_589 hr_v_590 hr_v_591 hr_v_592 hr_v_593 hi_645 hi_646 hi_647 hF_L58d hP hD hS hl
          refine lv_iload hx hb dX12_readDoor_58 (lv_at hl 4 rfl) ?_
          refine lv_if_eq (tgt := 141) hx hb dX12_readDoor_60 (by decide) (fun c_718 => ?_) (fun c_718 => ?_)
          · have b_719 := z_feqT c_718
            refine lv_aload_n hx hb dX12_readDoor_141 rfl (lv_at hl 0 rfl) ?_
            refine va_get (D := G) (ci := 12) (v := .int v_587) (C := RX12) (T := TX12) (N := 65) hx hb hts inT12 hown hK hP 3 rfl rfl 12 (by decide) (hts _ tw_1897) (fun _ h9 => h9) rfl dX12_readDoor_142 ?_
            refine lv_if_le (tgt := 149) hx hb dX12_readDoor_145 (by decide) (fun c_720 => ?_) (fun c_720 => ?_)
            · have b_721 := z_fleT c_720
              refine lv_aload_n hx hb dX12_readDoor_149 rfl (lv_at hl 0 rfl) ?_
              refine va_get (D := G) (ci := 12) (v := .ref a_c) (C := RX12) (T := TX12) (N := 65) hx hb hts inT12 hown hK hP 3 rfl rfl 20 (by decide) (hts _ tw_1905) (fun _ h9 => h9) rfl dX12_readDoor_150 ?_
              refine lv_sipush (v := 1588) hx hb dX12_readDoor_153 (by decide) ?_
              refine lv_iload_n hx hb dX12_readDoor_156 rfl (lv_at hl 1 rfl) ?_
              refine lv_iadd hx hb dX12_readDoor_157 ?_
              refine lv_topi (fun x_722 he_x_722 => ?_)
              have hq_x_722 := z_addq he_x_722 hk_1588 (rfl : r_10.toInt = _) (by omega) (by omega)
              refine lv_iload_n hx hb dX12_readDoor_158 rfl (lv_at hl 2 rfl) ?_
              refine z_iast hx hb hK hP hD hS 1 0 rfl rfl (z_inN (by omega) (by omega)) dX12_readDoor_159 (fun g_723 hg_g_723 H locs hP hD hS => ?_)
              have hC_g_723 := z_ctU hC_g_c hg_g_723 (a := 1588) (b := 1592) (lo := 0) (hi := 99) (by decide +kernel) (by decide +kernel) (by omega) (by omega) (by omega)
              have hw_g_723_1461 := z_cwo hg_g_723 (k := 1461) (by omega) (by omega)
              have hw_g_723_1463 := z_cwo hg_g_723 (k := 1463) (by omega) (by omega)
              have hs_724 : zNw g_723 g_isOn := (zNw_fr hNW0 hg_g_723 (a := 1588) (b := 1592) (by decide +kernel) (by omega) (by omega))
              have hs_725 : zNf g_723 := (zNf_fr hNF0 hg_g_723 (a := 1588) (b := 1592) (by decide +kernel) (by omega) (by omega))
              refine lv_aload_n hx hb dX12_readDoor_160 rfl (lv_at hl 0 rfl) ?_
              refine va_get (D := G) (ci := 12) (v := .ref a_c) (C := RX12) (T := TX12) (N := 65) hx hb hts inT12 hown hK hP 3 rfl rfl 20 (by decide) (hts _ tw_1905) (fun _ h9 => h9) rfl dX12_readDoor_161 ?_
              refine lv_sipush (v := 1593) hx hb dX12_readDoor_164 (by decide) ?_
              refine lv_iload_n hx hb dX12_readDoor_167 rfl (lv_at hl 1 rfl) ?_
              refine lv_iadd hx hb dX12_readDoor_168 ?_
              refine lv_topi (fun x_726 he_x_726 => ?_)
              have hq_x_726 := z_addq he_x_726 hk_1593 (rfl : r_10.toInt = _) (by omega) (by omega)
              refine lv_iload_n hx hb dX12_readDoor_169 rfl (lv_at hl 3 rfl) ?_
              refine z_iast hx hb hK hP hD hS 1 0 rfl rfl (z_inN (by omega) (by omega)) dX12_readDoor_170 (fun g_727 hg_g_727 H locs hP hD hS => ?_)
              have hC_g_727 := z_ctU hC_g_723 hg_g_727 (a := 1593) (b := 1597) (lo := (-2147483648)) (hi := 2147483647) (by decide +kernel) (by decide +kernel) (by omega) (by omega) (z_full _)
              have hw_g_727_1461 := z_cwo hg_g_727 (k := 1461) (by omega) (by omega)
              have hw_g_727_1463 := z_cwo hg_g_727 (k := 1463) (by omega) (by omega)
              have hs_728 : zNw g_727 g_isOn := (zNw_fr hs_724 hg_g_727 (a := 1593) (b := 1597) (by decide +kernel) (by omega) (by omega))
              have hs_729 : zNf g_727 := (zNf_fr hs_725 hg_g_727 (a := 1593) (b := 1597) (by decide +kernel) (by omega) (by omega))
              refine lv_aload_n hx hb dX12_readDoor_171 rfl (lv_at hl 0 rfl) ?_
              refine va_get (D := G) (ci := 12) (v := .ref a_c) (C := RX12) (T := TX12) (N := 65) hx hb hts inT12 hown hK hP 3 rfl rfl 20 (by decide) (hts _ tw_1905) (fun _ h9 => h9) rfl dX12_readDoor_172 ?_
              refine lv_sipush (v := 1463) hx hb dX12_readDoor_175 (by decide) ?_
              refine lv_dup2_11 hx hb dX12_readDoor_178 rfl rfl ?_
              refine va_iald hx hb hK hP 1 0 rfl rfl (z_in (i := 1463) (n := 1825) (by decide +kernel) (by decide +kernel)) dX12_readDoor_179 ?_
              refine lv_topi (fun x_730 he_x_730 => ?_)
              have hr_x_730 := z_ctk hC_g_727 he_x_730 (k := 1463) (lo := 0) (hi := 5) (by decide +kernel) (by decide +kernel) (by decide +kernel)
              have hv_x_730 := z_cv he_x_730 (k := 1463) (by decide +kernel)
              refine lv_iconst (v := 1) hx hb dX12_readDoor_180 (by decide) ?_
              refine lv_iadd hx hb dX12_readDoor_181 ?_
              refine lv_topi (fun x_731 he_x_731 => ?_)
              have hq_x_731 := z_addq he_x_731 (rfl : x_730.toInt = _) hk_1 (by omega) (by omega)
              refine z_iast hx hb hK hP hD hS 1 0 rfl rfl (z_in (i := 1463) (n := 1825) (by decide +kernel) (by decide +kernel)) dX12_readDoor_182 (fun g_732 hg_g_732 H locs hP hD hS => ?_)
              have hC_g_732 := z_ctUk hC_g_727 hg_g_732 (k := 1463) (lo := 0) (hi := 5) (by decide +kernel) (by decide +kernel) (by decide +kernel) (by omega)
              have hw_g_732_1461 := z_cwo hg_g_732 (k := 1461) (by decide +kernel) (by decide +kernel)
              have hw_g_732_1463 := z_cwk hg_g_732 (k := 1463) (by decide +kernel)
              have hs_733 : zNw g_732 g_isOn := (zNw_fr hs_728 hg_g_732 (a := 1463) (b := 1463) (by decide +kernel) (by decide +kernel) (by decide +kernel))
              have hs_734 : zNf g_732 := (zNf_fr hs_729 hg_g_732 (a := 1463) (b := 1463) (by decide +kernel) (by decide +kernel) (by decide +kernel))
              have hpost : (0 ≤ v_587.toInt ∧ v_587.toInt ≤ 9) ∧ (0 ≤ v_589.toInt ∧ v_589.toInt ≤ 4) ∧ (0 ≤ v_590.toInt ∧ v_590.toInt ≤ 900) ∧ (0 ≤ v_591.toInt ∧ v_591.toInt ≤ 900) ∧ (0 ≤ v_592.toInt ∧ v_592.toInt ≤ 9999) ∧ (0 ≤ v_593.toInt ∧ v_593.toInt ≤ 900) ∧ (zC g_732) ∧ (zNw g_732 g_isOn) ∧ (m_behind.toInt ≤ v_591.toInt) ∧ (0 < m_bad.toInt → 0 < v_587.toInt) ∧ (v_587.toInt ≤ 0 → v_589.toInt = 0 ∨ m_behind.toInt < v_591.toInt) ∧ (v_587.toInt ≤ 0 → v_589.toInt = 3 → v_592.toInt = 59 → zNf g_732) := ⟨hr_v_587, hr_v_589, hr_v_590, hr_v_591, hr_v_592, hr_v_593, hC_g_732, hs_733, (by omega), (by omega), (by omega), (fun _ _ _ => hs_734)⟩
              have hX_735 : F_r_readDoor m_textEnd m_bad m_badAt m_token m_at m_behind m_number m_letters m_word g_tape g_c g_words = ((v_587, v_588, v_589, v_590, v_591, v_592, v_593, v_594, n_9, g_732) : Int32 × Int32 × Int32 × Int32 × Int32 × Int32 × Int32 × Int64 × (Nat → Int64) × (Nat → Int32)) := by
                refine hF_L58d.trans ?_
                refine (F_r_readDoor_L58d_s ..).trans ?_
                refine (if_pos c_718).trans ?_
                refine (if_pos c_720).trans ?_
                try (extract_lets -merge -useContext +onlyGivenNames y9; have e9 : x_722 = y9 := (by first | exact he_x_722 | exact he_x_722.symm); clear_value y9; subst e9)
                try (extract_lets -merge -useContext +onlyGivenNames y9; have e9 : g_723 = y9 := (by first | exact hg_g_723 | exact hg_g_723.symm); clear_value y9; subst e9)
                try (extract_lets -merge -useContext +onlyGivenNames y9; have e9 : x_726 = y9 := (by first | exact he_x_726 | exact he_x_726.symm); clear_value y9; subst e9)
                try (extract_lets -merge -useContext +onlyGivenNames y9; have e9 : g_727 = y9 := (by first | exact hg_g_727 | exact hg_g_727.symm); clear_value y9; subst e9)
                try (extract_lets -merge -useContext +onlyGivenNames y9; have e9 : x_730 = y9 := (by first | exact he_x_730 | exact he_x_730.symm); clear_value y9; subst e9)
                try (extract_lets -merge -useContext +onlyGivenNames y9; have e9 : x_731 = y9 := (by first | exact he_x_731 | exact he_x_731.symm); clear_value y9; subst e9)
                try (extract_lets -merge -useContext +onlyGivenNames y9; have e9 : g_732 = y9 := (by first | exact hg_g_732 | exact hg_g_732.symm); clear_value y9; subst e9)
                exact rfl
              exact hret _ _ _ _ _ (v_587, v_588, v_589, v_590, v_591, v_592, v_593, v_594, n_9, g_732) [3, 4, 1, 2, 0] hP hD hS rfl (by decide) dX12_readDoor_183 ⟨(congrArg (fun z9 => z9.1) hX_735).symm, (congrArg (fun z9 => z9.2.1) hX_735).symm, (congrArg (fun z9 => z9.2.2.1) hX_735).symm, (congrArg (fun z9 => z9.2.2.2.1) hX_735).symm, (congrArg (fun z9 => z9.2.2.2.2.1) hX_735).symm, (congrArg (fun z9 => z9.2.2.2.2.2.1) hX_735).symm, (congrArg (fun z9 => z9.2.2.2.2.2.2.1) hX_735).symm, (congrArg (fun z9 => z9.2.2.2.2.2.2.2.1) hX_735).symm, (congrArg (fun z9 => z9.2.2.2.2.2.2.2.2.1) hX_735).symm, (congrArg (fun z9 => z9.2.2.2.2.2.2.2.2.2) hX_735).symm, hpost⟩
            · have b_736 := z_fgtF c_720
              have hpost : (0 ≤ v_587.toInt ∧ v_587.toInt ≤ 9) ∧ (0 ≤ v_589.toInt ∧ v_589.toInt ≤ 4) ∧ (0 ≤ v_590.toInt ∧ v_590.toInt ≤ 900) ∧ (0 ≤ v_591.toInt ∧ v_591.toInt ≤ 900) ∧ (0 ≤ v_592.toInt ∧ v_592.toInt ≤ 9999) ∧ (0 ≤ v_593.toInt ∧ v_593.toInt ≤ 900) ∧ (zC g_c) ∧ (zNw g_c g_isOn) ∧ (m_behind.toInt ≤ v_591.toInt) ∧ (0 < m_bad.toInt → 0 < v_587.toInt) ∧ (v_587.toInt ≤ 0 → v_589.toInt = 0 ∨ m_behind.toInt < v_591.toInt) ∧ (v_587.toInt ≤ 0 → v_589.toInt = 3 → v_592.toInt = 59 → zNf g_c) := ⟨hr_v_587, hr_v_589, hr_v_590, hr_v_591, hr_v_592, hr_v_593, hC_g_c, hNW0, (by omega), (by omega), (by omega), (fun _ _ _ => hNF0)⟩
              have hX_737 : F_r_readDoor m_textEnd m_bad m_badAt m_token m_at m_behind m_number m_letters m_word g_tape g_c g_words = ((v_587, v_588, v_589, v_590, v_591, v_592, v_593, v_594, n_9, g_c) : Int32 × Int32 × Int32 × Int32 × Int32 × Int32 × Int32 × Int64 × (Nat → Int64) × (Nat → Int32)) := by
                refine hF_L58d.trans ?_
                refine (F_r_readDoor_L58d_s ..).trans ?_
                refine (if_pos c_718).trans ?_
                refine (if_neg c_720).trans ?_
                exact rfl
              exact hret _ _ _ _ _ (v_587, v_588, v_589, v_590, v_591, v_592, v_593, v_594, n_9, g_c) [3, 4, 1, 2, 0] hP hD hS rfl (by decide) dX12_readDoor_148 ⟨(congrArg (fun z9 => z9.1) hX_737).symm, (congrArg (fun z9 => z9.2.1) hX_737).symm, (congrArg (fun z9 => z9.2.2.1) hX_737).symm, (congrArg (fun z9 => z9.2.2.2.1) hX_737).symm, (congrArg (fun z9 => z9.2.2.2.2.1) hX_737).symm, (congrArg (fun z9 => z9.2.2.2.2.2.1) hX_737).symm, (congrArg (fun z9 => z9.2.2.2.2.2.2.1) hX_737).symm, (congrArg (fun z9 => z9.2.2.2.2.2.2.2.1) hX_737).symm, (congrArg (fun z9 => z9.2.2.2.2.2.2.2.2.1) hX_737).symm, (congrArg (fun z9 => z9.2.2.2.2.2.2.2.2.2) hX_737).symm, hpost⟩
          · have b_738 := z_fneF c_718
            refine lv_aload_n hx hb dX12_readDoor_63 rfl (lv_at hl 0 rfl) ?_
            refine va_get (D := G) (ci := 12) (v := .int v_587) (C := RX12) (T := TX12) (N := 65) hx hb hts inT12 hown hK hP 3 rfl rfl 12 (by decide) (hts _ tw_1897) (fun _ h9 => h9) rfl dX12_readDoor_64 ?_
            refine lv_if_ne (tgt := 141) hx hb dX12_readDoor_67 (by decide) (fun c_739 => ?_) (fun c_739 => ?_)
            · have b_740 := z_fneT c_739
              refine lv_aload_n hx hb dX12_readDoor_141 rfl (lv_at hl 0 rfl) ?_
              refine va_get (D := G) (ci := 12) (v := .int v_587) (C := RX12) (T := TX12) (N := 65) hx hb hts inT12 hown hK hP 3 rfl rfl 12 (by decide) (hts _ tw_1897) (fun _ h9 => h9) rfl dX12_readDoor_142 ?_
              refine lv_if_le (tgt := 149) hx hb dX12_readDoor_145 (by decide) (fun h9 => (z_no (by have h8 := z_fleT h9; omega))) (fun c_741 => ?_)
              have b_742 := z_fgtF c_741
              have hpost : (0 ≤ v_587.toInt ∧ v_587.toInt ≤ 9) ∧ (0 ≤ v_589.toInt ∧ v_589.toInt ≤ 4) ∧ (0 ≤ v_590.toInt ∧ v_590.toInt ≤ 900) ∧ (0 ≤ v_591.toInt ∧ v_591.toInt ≤ 900) ∧ (0 ≤ v_592.toInt ∧ v_592.toInt ≤ 9999) ∧ (0 ≤ v_593.toInt ∧ v_593.toInt ≤ 900) ∧ (zC g_c) ∧ (zNw g_c g_isOn) ∧ (m_behind.toInt ≤ v_591.toInt) ∧ (0 < m_bad.toInt → 0 < v_587.toInt) ∧ (v_587.toInt ≤ 0 → v_589.toInt = 0 ∨ m_behind.toInt < v_591.toInt) ∧ (v_587.toInt ≤ 0 → v_589.toInt = 3 → v_592.toInt = 59 → zNf g_c) := ⟨hr_v_587, hr_v_589, hr_v_590, hr_v_591, hr_v_592, hr_v_593, hC_g_c, hNW0, (by omega), (by omega), (by omega), (fun _ _ _ => hNF0)⟩
              have hX_743 : F_r_readDoor m_textEnd m_bad m_badAt m_token m_at m_behind m_number m_letters m_word g_tape g_c g_words = ((v_587, v_588, v_589, v_590, v_591, v_592, v_593, v_594, n_9, g_c) : Int32 × Int32 × Int32 × Int32 × Int32 × Int32 × Int32 × Int64 × (Nat → Int64) × (Nat → Int32)) := by
                refine hF_L58d.trans ?_
                refine (F_r_readDoor_L58d_s ..).trans ?_
                refine (if_neg c_718).trans ?_
                refine (if_neg c_739).trans ?_
                exact rfl
              exact hret _ _ _ _ _ (v_587, v_588, v_589, v_590, v_591, v_592, v_593, v_594, n_9, g_c) [3, 4, 1, 2, 0] hP hD hS rfl (by decide) dX12_readDoor_148 ⟨(congrArg (fun z9 => z9.1) hX_743).symm, (congrArg (fun z9 => z9.2.1) hX_743).symm, (congrArg (fun z9 => z9.2.2.1) hX_743).symm, (congrArg (fun z9 => z9.2.2.2.1) hX_743).symm, (congrArg (fun z9 => z9.2.2.2.2.1) hX_743).symm, (congrArg (fun z9 => z9.2.2.2.2.2.1) hX_743).symm, (congrArg (fun z9 => z9.2.2.2.2.2.2.1) hX_743).symm, (congrArg (fun z9 => z9.2.2.2.2.2.2.2.1) hX_743).symm, (congrArg (fun z9 => z9.2.2.2.2.2.2.2.2.1) hX_743).symm, (congrArg (fun z9 => z9.2.2.2.2.2.2.2.2.2) hX_743).symm, hpost⟩
            · have b_744 := z_feqF c_739
              refine lv_aload_n hx hb dX12_readDoor_70 rfl (lv_at hl 0 rfl) ?_
              refine lv_iconst (v := 1) hx hb dX12_readDoor_71 (by decide) ?_
              refine lv_iconst (v := 3) hx hb dX12_readDoor_72 (by decide) ?_
              refine z_callVi (As := [.int 1, .int 3]) (rest := []) (wr := [(a_isOn, .inl (cA.1 3, 10, .inl g_isOn)), (a_tape, .inl (cA.1 2, 900, .inl g_tape))]) ⟨hx, hb, hml, hown, hts⟩ hK hE hT hP hD hS hA (r_readOld_1 l G cA h0 m_status m_thrown m_above m_under a_traySort a_trayMany a_numbers a_tape m_taped m_textEnd m_faultKind m_faultAt v_587 v_588 v_589 v_590 v_591 v_592 v_593 v_594 a_c a_words m_markMany a_there a_tried a_best a_found m_thereMany m_foundMany m_orderHow m_orderRing m_orderMany m_hasBest m_bestTop m_bestBy a_weights a_shared m_random m_truePlace m_trueWay m_seconds m_done m_feelings m_tries m_leftOver m_playDoor m_playRing m_isOpen m_isOver m_wasTried m_hasPlayed a_feltNow a_last a_kept m_hasSeconds m_hasTurned m_hasRound a_hasFeels a_isOn m_firstAct m_meanTop m_meanBy a_order m_rowMany m_newSteps g_c n_9 hr_v_590 hr_v_587 hr_v_589 hr_v_593 hC_g_c) lk_RX12_217 ⟨rfl, rfl⟩ ⟨Nat.le_of_ble_eq_true rfl, Nat.le_of_ble_eq_true rfl⟩ 12 rfl rfl rfl [3, 1, 2] [0, 4] rfl rfl (by decide) rfl hl.1 rfl (lv_room (Nat.le_of_ble_eq_true rfl)) dX12_readDoor_73 ⟨Nat.le_of_ble_eq_true rfl, Nat.le_of_ble_eq_true rfl⟩ (fun r_747 u_748 H locs hw hP hD hS => ?_)
              obtain ⟨n_745, n_746⟩ := u_748
              try dsimp only at hw
              obtain ⟨he_r_747, he_n_745, he_n_746, hw⟩ := hw
              obtain ⟨hr_r_747, hr_n_745, hf_750, hf_751, hf_752⟩ := hw
              refine lv_istore (lv' := [(5, .int r_747), (0, .ref h0), (1, .int r_10), (2, .int r_426), (3, .int v_585), (4, .int v_586)]) hx hb dX12_readDoor_76 hl (by decide) rfl (fun ls hl => ?_)
              refine lv_aload_n hx hb dX12_readDoor_78 rfl (lv_at hl 1 rfl) ?_
              refine va_get (D := G) (ci := 12) (v := .int n_745) (C := RX12) (T := TX12) (N := 65) hx hb hts inT12 hown hK hP 2 rfl rfl 12 (by decide) (hts _ tw_1897) (fun _ h9 => h9) rfl dX12_readDoor_79 ?_
              refine lv_if_ne (tgt := 104) hx hb dX12_readDoor_82 (by decide) (fun c_753 => ?_) (fun c_753 => ?_)
              · have b_754 := z_fneT c_753
                refine lv_aload_n hx hb dX12_readDoor_104 rfl (lv_at hl 1 rfl) ?_
                refine va_get (D := G) (ci := 12) (v := .int n_745) (C := RX12) (T := TX12) (N := 65) hx hb hts inT12 hown hK hP 2 rfl rfl 12 (by decide) (hts _ tw_1897) (fun _ h9 => h9) rfl dX12_readDoor_105 ?_
                refine lv_if_le (tgt := 112) hx hb dX12_readDoor_108 (by decide) (fun h9 => (z_no (by have h8 := z_fleT h9; omega))) (fun c_755 => ?_)
                have b_756 := z_fgtF c_755
                have hpost : (0 ≤ n_745.toInt ∧ n_745.toInt ≤ 9) ∧ (0 ≤ v_589.toInt ∧ v_589.toInt ≤ 4) ∧ (0 ≤ v_590.toInt ∧ v_590.toInt ≤ 900) ∧ (0 ≤ v_591.toInt ∧ v_591.toInt ≤ 900) ∧ (0 ≤ v_592.toInt ∧ v_592.toInt ≤ 9999) ∧ (0 ≤ v_593.toInt ∧ v_593.toInt ≤ 900) ∧ (zC g_c) ∧ (zNw g_c g_isOn) ∧ (m_behind.toInt ≤ v_591.toInt) ∧ (0 < m_bad.toInt → 0 < n_745.toInt) ∧ (n_745.toInt ≤ 0 → v_589.toInt = 0 ∨ m_behind.toInt < v_591.toInt) ∧ (n_745.toInt ≤ 0 → v_589.toInt = 3 → v_592.toInt = 59 → zNf g_c) := ⟨hr_n_745, hr_v_589, hr_v_590, hr_v_591, hr_v_592, hr_v_593, hC_g_c, hNW0, (by omega), (by omega), (by omega), (fun _ _ _ => hNF0)⟩
                have hX_757 : F_r_readDoor m_textEnd m_bad m_badAt m_token m_at m_behind m_number m_letters m_word g_tape g_c g_words = ((n_745, n_746, v_589, v_590, v_591, v_592, v_593, v_594, n_9, g_c) : Int32 × Int32 × Int32 × Int32 × Int32 × Int32 × Int32 × Int64 × (Nat → Int64) × (Nat → Int32)) := by
                  refine hF_L58d.trans ?_
                  refine (F_r_readDoor_L58d_s ..).trans ?_
                  refine (if_neg c_718).trans ?_
                  refine (if_pos c_739).trans ?_
                  extract_lets -merge -useContext +onlyGivenNames w9 y2_0 y2_1 y2_2; have e9 : (r_747, n_745, n_746) = w9 := ((z_tS he_r_747 (z_tS he_n_745 he_n_746.symm))).symm; clear_value w9; subst e9
                  refine (if_neg c_753).trans ?_
                  exact rfl
                exact hret _ _ _ _ _ (n_745, n_746, v_589, v_590, v_591, v_592, v_593, v_594, n_9, g_c) [2, 1, 3, 4, 0] hP hD hS rfl (by decide) dX12_readDoor_111 ⟨(congrArg (fun z9 => z9.1) hX_757).symm, (congrArg (fun z9 => z9.2.1) hX_757).symm, (congrArg (fun z9 => z9.2.2.1) hX_757).symm, (congrArg (fun z9 => z9.2.2.2.1) hX_757).symm, (congrArg (fun z9 => z9.2.2.2.2.1) hX_757).symm, (congrArg (fun z9 => z9.2.2.2.2.2.1) hX_757).symm, (congrArg (fun z9 => z9.2.2.2.2.2.2.1) hX_757).symm, (congrArg (fun z9 => z9.2.2.2.2.2.2.2.1) hX_757).symm, (congrArg (fun z9 => z9.2.2.2.2.2.2.2.2.1) hX_757).symm, (congrArg (fun z9 => z9.2.2.2.2.2.2.2.2.2) hX_757).symm, hpost⟩
              · have b_758 := z_feqF c_753
                refine lv_iload_n hx hb dX12_readDoor_85 rfl (lv_at hl 4 rfl) ?_
                refine lv_iload hx hb dX12_readDoor_86 (lv_at hl 0 rfl) ?_
                refine lv_ishr hx hb dX12_readDoor_88 ?_
                have hL_v_585 := z_full v_585
                refine lv_topi (fun x_759 he_x_759 => ?_)
                refine lv_iconst (v := 1) hx hb dX12_readDoor_89 (by decide) ?_
                refine lv_iand hx hb dX12_readDoor_90 ?_
                have hL_x_759 := z_full x_759
                refine lv_topi (fun x_760 he_x_760 => ?_)
                have hr_x_760 := z_andr he_x_760 hk_1 (by decide)
                refine lv_iconst (v := 1) hx hb dX12_readDoor_91 (by decide) ?_
                refine lv_icmp_ne (tgt := 104) hx hb dX12_readDoor_92 (by decide) (fun c_761 => ?_) (fun c_761 => ?_)
                · have b_762 := z_fneT c_761
                  refine lv_aload_n hx hb dX12_readDoor_104 rfl (lv_at hl 1 rfl) ?_
                  refine va_get (D := G) (ci := 12) (v := .int n_745) (C := RX12) (T := TX12) (N := 65) hx hb hts inT12 hown hK hP 2 rfl rfl 12 (by decide) (hts _ tw_1897) (fun _ h9 => h9) rfl dX12_readDoor_105 ?_
                  refine lv_if_le (tgt := 112) hx hb dX12_readDoor_108 (by decide) (fun c_763 => ?_) (fun h9 => (z_no (by have h8 := z_fgtF h9; omega)))
                  have b_764 := z_fleT c_763
                  refine lv_iload_n hx hb dX12_readDoor_112 rfl (lv_at hl 4 rfl) ?_
                  refine lv_iconst (v := 1) hx hb dX12_readDoor_113 (by decide) ?_
                  refine lv_iload hx hb dX12_readDoor_114 (lv_at hl 0 rfl) ?_
                  refine lv_ishl hx hb dX12_readDoor_116 ?_
                  refine lv_topi (fun x_765 he_x_765 => ?_)
                  refine lv_ior hx hb dX12_readDoor_117 ?_
                  have hL_x_765 := z_full x_765
                  refine lv_topi (fun x_766 he_x_766 => ?_)
                  refine lv_istore_n (lv' := [(3, .int x_766), (5, .int r_747), (0, .ref h0), (1, .int r_10), (2, .int r_426), (4, .int v_586)]) hx hb dX12_readDoor_118 rfl hl (by decide) rfl (fun ls hl => ?_)
                  refine lv_aload_n hx hb dX12_readDoor_119 rfl (lv_at hl 2 rfl) ?_
                  refine z_callVv (As := []) (rest := []) (wr := [(a_isOn, .inl (cA.1 3, 10, .inl g_isOn)), (a_c, .inl (cA.1 0, 1825, .inl g_c)), (a_words, .inl (cA.1 1, 105, .inr (.inl n_9)))]) ⟨hx, hb, hml, hown, hts⟩ hK hE hT hP hD hS hA (r_next2 l G cA h0 m_status m_thrown m_above m_under a_traySort a_trayMany a_numbers a_tape m_taped m_textEnd m_faultKind m_faultAt n_745 n_746 v_589 v_590 v_591 v_592 v_593 v_594 a_c a_words m_markMany a_there a_tried a_best a_found m_thereMany m_foundMany m_orderHow m_orderRing m_orderMany m_hasBest m_bestTop m_bestBy a_weights a_shared m_random m_truePlace m_trueWay m_seconds m_done m_feelings m_tries m_leftOver m_playDoor m_playRing m_isOpen m_isOver m_wasTried m_hasPlayed a_feltNow a_last a_kept m_hasSeconds m_hasTurned m_hasRound a_hasFeels a_isOn m_firstAct m_meanTop m_meanBy a_order m_rowMany m_newSteps g_tape hr_m_textEnd hr_v_590 hr_v_591 hr_v_589 hr_v_592 hr_v_593) lk_RX12_184 ⟨rfl, rfl⟩ ⟨Nat.le_of_ble_eq_true rfl, Nat.le_of_ble_eq_true rfl⟩ 12 rfl rfl rfl [2, 1] [0, 3, 4] rfl rfl (by decide) rfl hl.1 rfl (lv_room (Nat.le_of_ble_eq_true rfl)) dX12_readDoor_120 ⟨Nat.le_of_ble_eq_true rfl, Nat.le_of_ble_eq_true rfl⟩ (fun u_774 H locs hw hP hD hS => ?_)
                  obtain ⟨n_767, n_768, n_769, n_770, n_771, n_772⟩ := u_774
                  try dsimp only at hw
                  obtain ⟨he_n_767, he_n_768, he_n_769, he_n_770, he_n_771, he_n_772, hw⟩ := hw
                  obtain ⟨hr_n_767, hr_n_768, hr_n_769, hr_n_770, hr_n_771, hf_776, hf_777⟩ := hw
                  refine lv_aload_n hx hb dX12_readDoor_123 rfl (lv_at hl 2 rfl) ?_
                  refine va_get (D := G) (ci := 12) (v := .int n_767) (C := RX12) (T := TX12) (N := 65) hx hb hts inT12 hown hK hP 3 rfl rfl 14 (by decide) (hts _ tw_1899) (fun _ h9 => h9) rfl dX12_readDoor_124 ?_
                  refine lv_iconst (v := 1) hx hb dX12_readDoor_127 (by decide) ?_
                  refine lv_icmp_ne (tgt := 135) hx hb dX12_readDoor_128 (by decide) (fun c_778 => ?_) (fun c_778 => ?_)
                  · have b_779 := z_fneT c_778
                    refine lv_iconst (v := 0) hx hb dX12_readDoor_135 (by decide) ?_
                    refine lv_istore (lv' := [(4, .int 0), (3, .int x_766), (5, .int r_747), (0, .ref h0), (1, .int r_10), (2, .int r_426)]) hx hb dX12_readDoor_136 hl (by decide) rfl (fun ls hl => ?_)
                    refine lv_goto (tgt := 58) hx hb dX12_readDoor_138 (by decide) ?_
                    have hX_780 : F_r_readDoor m_textEnd m_bad m_badAt m_token m_at m_behind m_number m_letters m_word g_tape g_c g_words = F_r_readDoor_L58d m_textEnd g_tape g_c r_10 n_9 r_426 n_L58d x_766 (0 : Int32) n_745 n_746 n_767 n_768 n_769 n_770 n_771 n_772 := by
                      refine hF_L58d.trans ?_
                      refine (F_r_readDoor_L58d_s ..).trans ?_
                      refine (if_neg c_718).trans ?_
                      refine (if_pos c_739).trans ?_
                      extract_lets -merge -useContext +onlyGivenNames w9 y2_0 y2_1 y2_2; have e9 : (r_747, n_745, n_746) = w9 := ((z_tS he_r_747 (z_tS he_n_745 he_n_746.symm))).symm; clear_value w9; subst e9
                      refine (if_pos c_753).trans ?_
                      try (extract_lets -merge -useContext +onlyGivenNames y9; have e9 : x_759 = y9 := (by first | exact he_x_759 | exact he_x_759.symm); clear_value y9; subst e9)
                      try (extract_lets -merge -useContext +onlyGivenNames y9; have e9 : x_760 = y9 := (by first | exact he_x_760 | exact he_x_760.symm); clear_value y9; subst e9)
                      refine (if_neg c_761).trans ?_
                      try (extract_lets -merge -useContext +onlyGivenNames y9; have e9 : x_765 = y9 := (by first | exact he_x_765 | exact he_x_765.symm); clear_value y9; subst e9)
                      try (extract_lets -merge -useContext +onlyGivenNames y9; have e9 : x_766 = y9 := (by first | exact he_x_766 | exact he_x_766.symm); clear_value y9; subst e9)
                      extract_lets -merge -useContext +onlyGivenNames w9 y9_0 y9_1 y9_2 y9_3 y9_4 y9_5; have e9 : (n_767, n_768, n_769, n_770, n_771, n_772) = w9 := ((z_tS he_n_767 (z_tS he_n_768 (z_tS he_n_769 (z_tS he_n_770 (z_tS he_n_771 he_n_772.symm)))))).symm; clear_value w9; subst e9
                      refine (if_neg c_778).trans ?_
                      exact rfl
                    exact ih_717 x_766 0 n_745 n_746 n_767 n_768 n_769 n_770 n_771 n_772 H locs ls (by omega) (by decide +kernel) hr_n_745 hr_n_767 hr_n_768 hr_n_769 hr_n_770 hr_n_771 (by omega) (by omega) (by omega) hX_780 hP hD hS (lv_sub hl [3, 4, 5, 1, 0] rfl)
                  · have b_781 := z_feqF c_778
                    refine lv_iconst (v := 1) hx hb dX12_readDoor_131 (by decide) ?_
                    refine lv_goto (tgt := 136) hx hb dX12_readDoor_132 (by decide) ?_
                    refine lv_istore (lv' := [(4, .int 1), (3, .int x_766), (5, .int r_747), (0, .ref h0), (1, .int r_10), (2, .int r_426)]) hx hb dX12_readDoor_136 hl (by decide) rfl (fun ls hl => ?_)
                    refine lv_goto (tgt := 58) hx hb dX12_readDoor_138 (by decide) ?_
                    have hX_782 : F_r_readDoor m_textEnd m_bad m_badAt m_token m_at m_behind m_number m_letters m_word g_tape g_c g_words = F_r_readDoor_L58d m_textEnd g_tape g_c r_10 n_9 r_426 n_L58d x_766 (1 : Int32) n_745 n_746 n_767 n_768 n_769 n_770 n_771 n_772 := by
                      refine hF_L58d.trans ?_
                      refine (F_r_readDoor_L58d_s ..).trans ?_
                      refine (if_neg c_718).trans ?_
                      refine (if_pos c_739).trans ?_
                      extract_lets -merge -useContext +onlyGivenNames w9 y2_0 y2_1 y2_2; have e9 : (r_747, n_745, n_746) = w9 := ((z_tS he_r_747 (z_tS he_n_745 he_n_746.symm))).symm; clear_value w9; subst e9
                      refine (if_pos c_753).trans ?_
                      try (extract_lets -merge -useContext +onlyGivenNames y9; have e9 : x_759 = y9 := (by first | exact he_x_759 | exact he_x_759.symm); clear_value y9; subst e9)
                      try (extract_lets -merge -useContext +onlyGivenNames y9; have e9 : x_760 = y9 := (by first | exact he_x_760 | exact he_x_760.symm); clear_value y9; subst e9)
                      refine (if_neg c_761).trans ?_
                      try (extract_lets -merge -useContext +onlyGivenNames y9; have e9 : x_765 = y9 := (by first | exact he_x_765 | exact he_x_765.symm); clear_value y9; subst e9)
                      try (extract_lets -merge -useContext +onlyGivenNames y9; have e9 : x_766 = y9 := (by first | exact he_x_766 | exact he_x_766.symm); clear_value y9; subst e9)
                      extract_lets -merge -useContext +onlyGivenNames w9 y9_0 y9_1 y9_2 y9_3 y9_4 y9_5; have e9 : (n_767, n_768, n_769, n_770, n_771, n_772) = w9 := ((z_tS he_n_767 (z_tS he_n_768 (z_tS he_n_769 (z_tS he_n_770 (z_tS he_n_771 he_n_772.symm)))))).symm; clear_value w9; subst e9
                      refine (if_pos c_778).trans ?_
                      exact rfl
                    exact ih_717 x_766 1 n_745 n_746 n_767 n_768 n_769 n_770 n_771 n_772 H locs ls (by omega) (by decide +kernel) hr_n_745 hr_n_767 hr_n_768 hr_n_769 hr_n_770 hr_n_771 (by omega) (by omega) (by omega) hX_782 hP hD hS (lv_sub hl [3, 4, 5, 1, 0] rfl)
                · have b_783 := z_feqF c_761
                  refine lv_aload_n hx hb dX12_readDoor_95 rfl (lv_at hl 1 rfl) ?_
                  refine lv_iconst (v := 5) hx hb dX12_readDoor_96 (by decide) ?_
                  refine lv_aload_n hx hb dX12_readDoor_97 rfl (lv_at hl 1 rfl) ?_
                  refine va_get (D := G) (ci := 12) (v := .int v_590) (C := RX12) (T := TX12) (N := 65) hx hb hts inT12 hown hK hP 2 rfl rfl 15 (by decide) (hts _ tw_1900) (fun _ h9 => h9) rfl dX12_readDoor_98 ?_
                  refine z_callVv (As := [.int 5, .int v_590]) (rest := []) (wr := [(a_isOn, .inl (cA.1 3, 10, .inl g_isOn)), (a_tape, .inl (cA.1 2, 900, .inl g_tape)), (a_c, .inl (cA.1 0, 1825, .inl g_c)), (a_words, .inl (cA.1 1, 105, .inr (.inl n_9)))]) ⟨hx, hb, hml, hown, hts⟩ hK hE hT hP hD hS hA (r_fail l G cA h0 m_status m_thrown m_above m_under a_traySort a_trayMany a_numbers a_tape m_taped m_textEnd m_faultKind m_faultAt n_745 n_746 v_589 v_590 v_591 v_592 v_593 v_594 a_c a_words m_markMany a_there a_tried a_best a_found m_thereMany m_foundMany m_orderHow m_orderRing m_orderMany m_hasBest m_bestTop m_bestBy a_weights a_shared m_random m_truePlace m_trueWay m_seconds m_done m_feelings m_tries m_leftOver m_playDoor m_playRing m_isOpen m_isOver m_wasTried m_hasPlayed a_feltNow a_last a_kept m_hasSeconds m_hasTurned m_hasRound a_hasFeels a_isOn m_firstAct m_meanTop m_meanBy a_order m_rowMany m_newSteps 5 v_590 (by decide +kernel) hr_n_745) lk_RX12_180 ⟨rfl, rfl⟩ ⟨Nat.le_of_ble_eq_true rfl, Nat.le_of_ble_eq_true rfl⟩ 12 rfl rfl rfl [2] [0, 1, 3, 4] rfl rfl (by decide) rfl hl.1 rfl (lv_room (Nat.le_of_ble_eq_true rfl)) dX12_readDoor_101 ⟨Nat.le_of_ble_eq_true rfl, Nat.le_of_ble_eq_true rfl⟩ (fun u_787 H locs hw hP hD hS => ?_)
                  obtain ⟨n_784, n_785⟩ := u_787
                  try dsimp only at hw
                  obtain ⟨he_n_784, he_n_785, hw⟩ := hw
                  obtain ⟨hr_n_784, hf_789⟩ := hw
                  refine lv_aload_n hx hb dX12_readDoor_104 rfl (lv_at hl 1 rfl) ?_
                  refine va_get (D := G) (ci := 12) (v := .int n_784) (C := RX12) (T := TX12) (N := 65) hx hb hts inT12 hown hK hP 4 rfl rfl 12 (by decide) (hts _ tw_1897) (fun _ h9 => h9) rfl dX12_readDoor_105 ?_
                  refine lv_if_le (tgt := 112) hx hb dX12_readDoor_108 (by decide) (fun h9 => (z_no (by have h8 := z_fleT h9; omega))) (fun c_790 => ?_)
                  have b_791 := z_fgtF c_790
                  have hpost : (0 ≤ n_784.toInt ∧ n_784.toInt ≤ 9) ∧ (0 ≤ v_589.toInt ∧ v_589.toInt ≤ 4) ∧ (0 ≤ v_590.toInt ∧ v_590.toInt ≤ 900) ∧ (0 ≤ v_591.toInt ∧ v_591.toInt ≤ 900) ∧ (0 ≤ v_592.toInt ∧ v_592.toInt ≤ 9999) ∧ (0 ≤ v_593.toInt ∧ v_593.toInt ≤ 900) ∧ (zC g_c) ∧ (zNw g_c g_isOn) ∧ (m_behind.toInt ≤ v_591.toInt) ∧ (0 < m_bad.toInt → 0 < n_784.toInt) ∧ (n_784.toInt ≤ 0 → v_589.toInt = 0 ∨ m_behind.toInt < v_591.toInt) ∧ (n_784.toInt ≤ 0 → v_589.toInt = 3 → v_592.toInt = 59 → zNf g_c) := ⟨(z_rgw hr_n_784 (by decide) (by decide)), hr_v_589, hr_v_590, hr_v_591, hr_v_592, hr_v_593, hC_g_c, hNW0, (by omega), (by omega), (by omega), (fun _ _ _ => hNF0)⟩
                  have hX_792 : F_r_readDoor m_textEnd m_bad m_badAt m_token m_at m_behind m_number m_letters m_word g_tape g_c g_words = ((n_784, n_785, v_589, v_590, v_591, v_592, v_593, v_594, n_9, g_c) : Int32 × Int32 × Int32 × Int32 × Int32 × Int32 × Int32 × Int64 × (Nat → Int64) × (Nat → Int32)) := by
                    refine hF_L58d.trans ?_
                    refine (F_r_readDoor_L58d_s ..).trans ?_
                    refine (if_neg c_718).trans ?_
                    refine (if_pos c_739).trans ?_
                    extract_lets -merge -useContext +onlyGivenNames w9 y2_0 y2_1 y2_2; have e9 : (r_747, n_745, n_746) = w9 := ((z_tS he_r_747 (z_tS he_n_745 he_n_746.symm))).symm; clear_value w9; subst e9
                    refine (if_pos c_753).trans ?_
                    try (extract_lets -merge -useContext +onlyGivenNames y9; have e9 : x_759 = y9 := (by first | exact he_x_759 | exact he_x_759.symm); clear_value y9; subst e9)
                    try (extract_lets -merge -useContext +onlyGivenNames y9; have e9 : x_760 = y9 := (by first | exact he_x_760 | exact he_x_760.symm); clear_value y9; subst e9)
                    refine (if_pos c_761).trans ?_
                    extract_lets -merge -useContext +onlyGivenNames w9 y7_0 y7_1; have e9 : (n_784, n_785) = w9 := ((z_tS he_n_784 he_n_785.symm)).symm; clear_value w9; subst e9
                    exact rfl
                  exact hret _ _ _ _ _ (n_784, n_785, v_589, v_590, v_591, v_592, v_593, v_594, n_9, g_c) [4, 1, 2, 3, 0] hP hD hS rfl (by decide) dX12_readDoor_111 ⟨(congrArg (fun z9 => z9.1) hX_792).symm, (congrArg (fun z9 => z9.2.1) hX_792).symm, (congrArg (fun z9 => z9.2.2.1) hX_792).symm, (congrArg (fun z9 => z9.2.2.2.1) hX_792).symm, (congrArg (fun z9 => z9.2.2.2.2.1) hX_792).symm, (congrArg (fun z9 => z9.2.2.2.2.2.1) hX_792).symm, (congrArg (fun z9 => z9.2.2.2.2.2.2.1) hX_792).symm, (congrArg (fun z9 => z9.2.2.2.2.2.2.2.1) hX_792).symm, (congrArg (fun z9 => z9.2.2.2.2.2.2.2.2.1) hX_792).symm, (congrArg (fun z9 => z9.2.2.2.2.2.2.2.2.2) hX_792).symm, hpost⟩
      have hX_793 : F_r_readDoor m_textEnd m_bad m_badAt m_token m_at m_behind m_number m_letters m_word g_tape g_c g_words = F_r_readDoor_L58d m_textEnd g_tape g_c r_10 n_9 r_426 ((900 - n_468.toInt + (1 : Int32).toInt).toNat + 1) (0 : Int32) (1 : Int32) n_418 n_419 n_466 n_467 n_468 n_469 n_470 n_471 := by
        refine (F_r_readDoor_s ..).trans ?_
        extract_lets -merge -useContext +onlyGivenNames w9 y0_0 y0_1 y0_2 y0_3 y0_4 y0_5 y0_6 y0_7 y0_8 y0_9; have e9 : (r_10, n_1, n_2, n_3, n_4, n_5, n_6, n_7, n_8, n_9) = w9 := ((z_tS he_r_10 (z_tS he_n_1 (z_tS he_n_2 (z_tS he_n_3 (z_tS he_n_4 (z_tS he_n_5 (z_tS he_n_6 (z_tS he_n_7 (z_tS he_n_8 he_n_9.symm)))))))))).symm; clear_value w9; subst e9
        extract_lets -merge -useContext +onlyGivenNames w9 y9; have e9 : r_18 = w9 := he_r_18; clear_value w9; subst e9
        refine (if_pos c_22).trans ?_
        extract_lets -merge -useContext +onlyGivenNames w9 y3_0 y3_1 y3_2 y3_3 y3_4 y3_5; have e9 : (n_406, n_407, n_408, n_409, n_410, n_411) = w9 := ((z_tS he_n_406 (z_tS he_n_407 (z_tS he_n_408 (z_tS he_n_409 (z_tS he_n_410 he_n_411.symm)))))).symm; clear_value w9; subst e9
        extract_lets -merge -useContext +onlyGivenNames w9 y4_0 y4_1 y4_2 y4_3 y4_4 y4_5 y4_6 y4_7 y4_8; have e9 : (r_426, n_418, n_419, n_420, n_421, n_422, n_423, n_424, n_425) = w9 := ((z_tS he_r_426 (z_tS he_n_418 (z_tS he_n_419 (z_tS he_n_420 (z_tS he_n_421 (z_tS he_n_422 (z_tS he_n_423 (z_tS he_n_424 he_n_425.symm))))))))).symm; clear_value w9; subst e9
        extract_lets -merge -useContext +onlyGivenNames w9 y9; have e9 : r_435 = w9 := he_r_435; clear_value w9; subst e9
        refine (if_pos c_439).trans ?_
        extract_lets -merge -useContext +onlyGivenNames w9 y7_0 y7_1 y7_2 y7_3 y7_4 y7_5; have e9 : (n_466, n_467, n_468, n_469, n_470, n_471) = w9 := ((z_tS he_n_466 (z_tS he_n_467 (z_tS he_n_468 (z_tS he_n_469 (z_tS he_n_470 he_n_471.symm)))))).symm; clear_value w9; subst e9
        exact rfl
      exact hlp_716 ((900 - n_468.toInt + (1 : Int32).toInt).toNat + 1) 0 1 n_418 n_419 n_466 n_467 n_468 n_469 n_470 n_471 _ _ _ (Nat.lt_succ_self _) (by decide +kernel) hr_n_418 hr_n_466 hr_n_467 hr_n_468 hr_n_469 hr_n_470 (by omega) (by omega) (by omega) hX_793 hP hD hS (lv_sub hl [4, 3, 2, 1, 0] rfl)
