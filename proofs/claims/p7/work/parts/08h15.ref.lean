set_option maxHeartbeats 4000000 in
set_option maxRecDepth 100000 in
theorem r_readKey (l : Launch) (G : va_G) (cA : zCA) (h0 : Nat) (m_status : Int32) (m_thrown : Int32) (m_above : Int64) (m_under : Int64) (a_traySort : Nat) (a_trayMany : Nat) (a_numbers : Nat) (a_tape : Nat) (m_taped : Int32) (m_textEnd : Int32) (m_faultKind : Int32) (m_faultAt : Int32) (m_bad : Int32) (m_badAt : Int32) (m_token : Int32) (m_at : Int32) (m_behind : Int32) (m_number : Int32) (m_letters : Int32) (m_word : Int64) (a_c : Nat) (a_words : Nat) (m_markMany : Int32) (a_there : Nat) (a_tried : Nat) (a_best : Nat) (a_found : Nat) (m_thereMany : Int32) (m_foundMany : Int32) (m_orderHow : Int32) (m_orderRing : Int32) (m_orderMany : Int32) (m_hasBest : Int32) (m_bestTop : Int64) (m_bestBy : Int64) (a_weights : Nat) (a_shared : Nat) (m_random : Int32) (m_truePlace : Int32) (m_trueWay : Int32) (m_seconds : Int32) (m_done : Int32) (m_feelings : Int32) (m_tries : Int32) (m_leftOver : Int32) (m_playDoor : Int32) (m_playRing : Int32) (m_isOpen : Int32) (m_isOver : Int32) (m_wasTried : Int32) (m_hasPlayed : Int32) (a_feltNow : Nat) (a_last : Nat) (a_kept : Nat) (m_hasSeconds : Int32) (m_hasTurned : Int32) (m_hasRound : Int32) (a_hasFeels : Nat) (a_isOn : Nat) (m_firstAct : Int32) (m_meanTop : Int64) (m_meanBy : Int64) (a_order : Nat) (m_rowMany : Int32) (m_newSteps : Int32) (g_tape : Nat → Int32) (g_c : Nat → Int32) (g_words : Nat → Int64) (g_isOn : Nat → Int32) (hr_m_textEnd : 0 ≤ m_textEnd.toInt ∧ m_textEnd.toInt ≤ 900) (hr_m_at : 0 ≤ m_at.toInt ∧ m_at.toInt ≤ 900) (hr_m_behind : 0 ≤ m_behind.toInt ∧ m_behind.toInt ≤ 900) (hr_m_bad : 0 ≤ m_bad.toInt ∧ m_bad.toInt ≤ 0) (hr_m_token : 0 ≤ m_token.toInt ∧ m_token.toInt ≤ 4) (hr_m_number : 0 ≤ m_number.toInt ∧ m_number.toInt ≤ 9999) (hr_m_letters : 0 ≤ m_letters.toInt ∧ m_letters.toInt ≤ 900) (hC_g_c : zC g_c) (hC_g_isOn : zRg 10 0 1 g_isOn) (hNW0 : zNw g_c g_isOn) (hNF0 : zNf g_c) : zCv l yX12_readKey cX12_readKey 3 none ({ frames := 4, cells := 0, slots := 0, locals := 91 }) G cA [.ref h0] [(h0, .inr (12, [.int m_status, .int m_thrown, .long m_above, .long m_under, .ref a_traySort, .ref a_trayMany, .ref a_numbers, .ref a_tape, .int m_taped, .int m_textEnd, .int m_faultKind, .int m_faultAt, .int m_bad, .int m_badAt, .int m_token, .int m_at, .int m_behind, .int m_number, .int m_letters, .long m_word, .ref a_c, .ref a_words, .int m_markMany, .ref a_there, .ref a_tried, .ref a_best, .ref a_found, .int m_thereMany, .int m_foundMany, .int m_orderHow, .int m_orderRing, .int m_orderMany, .int m_hasBest, .long m_bestTop, .long m_bestBy, .ref a_weights, .ref a_shared, .int m_random, .int m_truePlace, .int m_trueWay, .int m_seconds, .int m_done, .int m_feelings, .int m_tries, .int m_leftOver, .int m_playDoor, .int m_playRing, .int m_isOpen, .int m_isOver, .int m_wasTried, .int m_hasPlayed, .ref a_feltNow, .ref a_last, .ref a_kept, .int m_hasSeconds, .int m_hasTurned, .int m_hasRound, .ref a_hasFeels, .ref a_isOn, .int m_firstAct, .long m_meanTop, .long m_meanBy, .ref a_order, .int m_rowMany, .int m_newSteps])), (a_tape, .inl (cA.1 2, 900, .inl g_tape)), (a_c, .inl (cA.1 0, 1825, .inl g_c)), (a_words, .inl (cA.1 1, 105, .inr (.inl g_words))), (a_isOn, .inl (cA.1 3, 10, .inl g_isOn))] (S := Int32 × Int32 × Int32 × Int32 × Int32 × Int32 × Int32 × Int64 × (Nat → Int64) × (Nat → Int32) × (Nat → Int32)) (fun (u : Int32 × Int32 × Int32 × Int32 × Int32 × Int32 × Int32 × Int64 × (Nat → Int64) × (Nat → Int32) × (Nat → Int32)) => (0 ≤ u.1.toInt ∧ u.1.toInt ≤ 9) ∧ (0 ≤ u.2.2.1.toInt ∧ u.2.2.1.toInt ≤ 4) ∧ (0 ≤ u.2.2.2.1.toInt ∧ u.2.2.2.1.toInt ≤ 900) ∧ (0 ≤ u.2.2.2.2.1.toInt ∧ u.2.2.2.2.1.toInt ≤ 900) ∧ (0 ≤ u.2.2.2.2.2.1.toInt ∧ u.2.2.2.2.2.1.toInt ≤ 9999) ∧ (0 ≤ u.2.2.2.2.2.2.1.toInt ∧ u.2.2.2.2.2.2.1.toInt ≤ 900) ∧ (zC u.2.2.2.2.2.2.2.2.2.1) ∧ (zRg 10 0 1 u.2.2.2.2.2.2.2.2.2.2) ∧ (zNw u.2.2.2.2.2.2.2.2.2.1 u.2.2.2.2.2.2.2.2.2.2) ∧ (m_behind.toInt ≤ u.2.2.2.2.1.toInt) ∧ (0 < m_bad.toInt → 0 < u.1.toInt) ∧ (u.1.toInt ≤ 0 → u.2.2.1.toInt = 0 ∨ m_behind.toInt < u.2.2.2.2.1.toInt) ∧ (u.1.toInt ≤ 0 → u.2.2.1.toInt = 3 → u.2.2.2.2.2.1.toInt = 59 → zNf u.2.2.2.2.2.2.2.2.2.1)) (fun (u : Int32 × Int32 × Int32 × Int32 × Int32 × Int32 × Int32 × Int64 × (Nat → Int64) × (Nat → Int32) × (Nat → Int32)) => [(h0, .inr (12, [.int m_status, .int m_thrown, .long m_above, .long m_under, .ref a_traySort, .ref a_trayMany, .ref a_numbers, .ref a_tape, .int m_taped, .int m_textEnd, .int m_faultKind, .int m_faultAt, .int u.1, .int u.2.1, .int u.2.2.1, .int u.2.2.2.1, .int u.2.2.2.2.1, .int u.2.2.2.2.2.1, .int u.2.2.2.2.2.2.1, .long u.2.2.2.2.2.2.2.1, .ref a_c, .ref a_words, .int m_markMany, .ref a_there, .ref a_tried, .ref a_best, .ref a_found, .int m_thereMany, .int m_foundMany, .int m_orderHow, .int m_orderRing, .int m_orderMany, .int m_hasBest, .long m_bestTop, .long m_bestBy, .ref a_weights, .ref a_shared, .int m_random, .int m_truePlace, .int m_trueWay, .int m_seconds, .int m_done, .int m_feelings, .int m_tries, .int m_leftOver, .int m_playDoor, .int m_playRing, .int m_isOpen, .int m_isOver, .int m_wasTried, .int m_hasPlayed, .ref a_feltNow, .ref a_last, .ref a_kept, .int m_hasSeconds, .int m_hasTurned, .int m_hasRound, .ref a_hasFeels, .ref a_isOn, .int m_firstAct, .long m_meanTop, .long m_meanBy, .ref a_order, .int m_rowMany, .int m_newSteps])), (a_tape, .inl (cA.1 2, 900, .inl g_tape)), (a_c, .inl (cA.1 0, 1825, .inl u.2.2.2.2.2.2.2.2.2.1)), (a_words, .inl (cA.1 1, 105, .inr (.inl u.2.2.2.2.2.2.2.2.1))), (a_isOn, .inl (cA.1 3, 10, .inl u.2.2.2.2.2.2.2.2.2.2))]) 0 0 := by
  have hk_0 : (0 : Int32).toInt = 0 := by decide +kernel
  have hk_1 : (1 : Int32).toInt = 1 := by decide +kernel
  have hk_2 : (2 : Int32).toInt = 2 := by decide +kernel
  have hk_3 : (3 : Int32).toInt = 3 := by decide +kernel
  have hk_4 : (4 : Int32).toInt = 4 := by decide +kernel
  have hk_8 : (8 : Int32).toInt = 8 := by decide +kernel
  have hk_10 : (10 : Int32).toInt = 10 := by decide +kernel
  have hk_59 : (59 : Int32).toInt = 59 := by decide +kernel
  have hk_1471 : (1471 : Int32).toInt = 1471 := by decide +kernel
  have hk_1525 : (1525 : Int32).toInt = 1525 := by decide +kernel
  have hk_1610 : (1610 : Int32).toInt = 1610 := by decide +kernel
  refine z_start2v (own := RX12) (by decide) (Nat.le_of_ble_eq_true rfl) rfl ?_
  intro p e s m args below meth c A ls Q hx hb hml hts hown hK hE hT hP hD hS hA hl hret
  have hl : lv_has ls 3 [(0, .ref h0)] := hl
  refine lv_aload_n hx hb dX12_readKey_0 rfl (lv_at hl 0 rfl) ?_
  refine lv_iconst (v := 1) hx hb dX12_readKey_1 (by decide) ?_
  refine lv_bipush (v := 10) hx hb dX12_readKey_2 (by decide) ?_
  refine lv_iconst (v := 3) hx hb dX12_readKey_4 (by decide) ?_
  refine z_callVi (As := [.int 1, .int 10, .int 3]) (rest := []) (wr := [(a_isOn, .inl (cA.1 3, 10, .inl g_isOn))]) ⟨hx, hb, hml, hown, hts⟩ hK hE hT hP hD hS hA (r_readNew_1 l G cA h0 m_status m_thrown m_above m_under a_traySort a_trayMany a_numbers a_tape m_taped m_textEnd m_faultKind m_faultAt m_bad m_badAt m_token m_at m_behind m_number m_letters m_word a_c a_words m_markMany a_there a_tried a_best a_found m_thereMany m_foundMany m_orderHow m_orderRing m_orderMany m_hasBest m_bestTop m_bestBy a_weights a_shared m_random m_truePlace m_trueWay m_seconds m_done m_feelings m_tries m_leftOver m_playDoor m_playRing m_isOpen m_isOver m_wasTried m_hasPlayed a_feltNow a_last a_kept m_hasSeconds m_hasTurned m_hasRound a_hasFeels a_isOn m_firstAct m_meanTop m_meanBy a_order m_rowMany m_newSteps g_tape g_c g_words hr_m_textEnd hr_m_at hr_m_behind (z_rgw hr_m_bad (by decide) (by decide)) hr_m_token hr_m_number hr_m_letters hC_g_c) lk_RX12_207 ⟨rfl, rfl⟩ ⟨Nat.le_of_ble_eq_true rfl, Nat.le_of_ble_eq_true rfl⟩ 12 rfl rfl rfl [0, 1, 2, 3] [4] rfl rfl (by decide) rfl hl.1 rfl (lv_room (Nat.le_of_ble_eq_true rfl)) dX12_readKey_5 ⟨Nat.le_of_ble_eq_true rfl, Nat.le_of_ble_eq_true rfl⟩ (fun r_10 u_11 H locs hw hP hD hS => ?_)
  obtain ⟨n_1, n_2, n_3, n_4, n_5, n_6, n_7, n_8, n_9⟩ := u_11
  try dsimp only at hw
  obtain ⟨hr_r_10, hr_n_1, hr_n_3, hr_n_4, hr_n_5, hr_n_6, hr_n_7, hf_12, hf_13, hf_14, hf_15, hf_16⟩ := hw
  refine lv_istore_n (lv' := [(1, .int r_10), (0, .ref h0)]) hx hb dX12_readKey_8 rfl hl (by decide) rfl (fun ls hl => ?_)
  refine lv_iconst (v := 0) hx hb dX12_readKey_9 (by decide) ?_
  refine lv_istore_n (lv' := [(2, .int 0), (1, .int r_10), (0, .ref h0)]) hx hb dX12_readKey_10 rfl hl (by decide) rfl (fun ls hl => ?_)
  have hk60_g_c : 0 ≤ (g_c 1460).toInt ∧ (g_c 1460).toInt ≤ 3 := by have h9 := hC_g_c.1 1460 (by decide); exact ⟨h9.1, h9.2⟩
  have hlp_278 : ∀ (n : Nat) (v_173 : Int32) (v_174 : Int32) (v_175 : Int32) (v_176 : Int32) (v_177 : Int32) (v_178 : Int32) (v_179 : Int64) (g_180 : Nat → Int32) (H : Heap) (locs : List Loc) (ls : Array Slot), (4600 - 5 * v_176.toInt + v_174.toInt - 5 * n_1.toInt).toNat < n → (0 ≤ v_173.toInt ∧ v_173.toInt ≤ 3) → (0 ≤ v_174.toInt ∧ v_174.toInt ≤ 4) → (0 ≤ v_175.toInt ∧ v_175.toInt ≤ 900) → (0 ≤ v_176.toInt ∧ v_176.toInt ≤ 900) → (0 ≤ v_177.toInt ∧ v_177.toInt ≤ 9999) → (0 ≤ v_178.toInt ∧ v_178.toInt ≤ 900) → (zC g_180) → (zNw g_180 g_isOn) → (zNf g_180) → (n_1.toInt ≤ 0 → v_173.toInt ≤ (g_180 1460).toInt) → (n_1.toInt ≤ 0 → (g_180 1461).toInt = r_10.toInt) → (n_1.toInt ≤ 0 → (g_180 1460).toInt ≤ 3) → (m_behind.toInt ≤ v_176.toInt) → (n_1.toInt ≤ 0 → v_174.toInt = 0 ∨ m_behind.toInt < v_176.toInt) → va_P G vwCl [(a_isOn, .inl (cA.1 3, 10, .inl g_isOn)), (h0, .inr (12, [.int m_status, .int m_thrown, .long m_above, .long m_under, .ref a_traySort, .ref a_trayMany, .ref a_numbers, .ref a_tape, .int m_taped, .int m_textEnd, .int m_faultKind, .int m_faultAt, .int n_1, .int n_2, .int v_174, .int v_175, .int v_176, .int v_177, .int v_178, .long v_179, .ref a_c, .ref a_words, .int m_markMany, .ref a_there, .ref a_tried, .ref a_best, .ref a_found, .int m_thereMany, .int m_foundMany, .int m_orderHow, .int m_orderRing, .int m_orderMany, .int m_hasBest, .long m_bestTop, .long m_bestBy, .ref a_weights, .ref a_shared, .int m_random, .int m_truePlace, .int m_trueWay, .int m_seconds, .int m_done, .int m_feelings, .int m_tries, .int m_leftOver, .int m_playDoor, .int m_playRing, .int m_isOpen, .int m_isOver, .int m_wasTried, .int m_hasPlayed, .ref a_feltNow, .ref a_last, .ref a_kept, .int m_hasSeconds, .int m_hasTurned, .int m_hasRound, .ref a_hasFeels, .ref a_isOn, .int m_firstAct, .long m_meanTop, .long m_meanBy, .ref a_order, .int m_rowMany, .int m_newSteps])), (a_tape, .inl (cA.1 2, 900, .inl g_tape)), (a_c, .inl (cA.1 0, 1825, .inl g_180)), (a_words, .inl (cA.1 1, 105, .inr (.inl n_9)))] H → va_D A [(a_isOn, .inl (cA.1 3, 10, .inl g_isOn)), (h0, .inr (12, [.int m_status, .int m_thrown, .long m_above, .long m_under, .ref a_traySort, .ref a_trayMany, .ref a_numbers, .ref a_tape, .int m_taped, .int m_textEnd, .int m_faultKind, .int m_faultAt, .int n_1, .int n_2, .int v_174, .int v_175, .int v_176, .int v_177, .int v_178, .long v_179, .ref a_c, .ref a_words, .int m_markMany, .ref a_there, .ref a_tried, .ref a_best, .ref a_found, .int m_thereMany, .int m_foundMany, .int m_orderHow, .int m_orderRing, .int m_orderMany, .int m_hasBest, .long m_bestTop, .long m_bestBy, .ref a_weights, .ref a_shared, .int m_random, .int m_truePlace, .int m_trueWay, .int m_seconds, .int m_done, .int m_feelings, .int m_tries, .int m_leftOver, .int m_playDoor, .int m_playRing, .int m_isOpen, .int m_isOver, .int m_wasTried, .int m_hasPlayed, .ref a_feltNow, .ref a_last, .ref a_kept, .int m_hasSeconds, .int m_hasTurned, .int m_hasRound, .ref a_hasFeels, .ref a_isOn, .int m_firstAct, .long m_meanTop, .long m_meanBy, .ref a_order, .int m_rowMany, .int m_newSteps])), (a_tape, .inl (cA.1 2, 900, .inl g_tape)), (a_c, .inl (cA.1 0, 1825, .inl g_180)), (a_words, .inl (cA.1 1, 105, .inr (.inl n_9)))] → va_S A s.heap H locs → lv_has ls 3 [(0, .ref h0), (1, .int r_10), (2, .int v_173)] → W p l e ({ frames := 4, cells := 0, slots := 0, locals := 91 }) s m args below meth c H locs 0 0 Q (F0 m 11 ls []) := by
    intro n
    induction n with
    | zero =>
      intro v_173 v_174 v_175 v_176 v_177 v_178 v_179 g_180 H locs ls hmu_hlp_278 hr_v_173 hr_v_174 hr_v_175 hr_v_176 hr_v_177 hr_v_178 hC_g_180 hs_271 hs_272 hi_273 hi_274 hi_275 hi_276 hi_277 hP hD hS hl
      exact absurd hmu_hlp_278 (Nat.not_lt_zero _)
    | succ n ih_279 =>
      intro v_173 v_174 v_175 v_176 v_177 v_178 v_179 g_180 H locs ls hmu_hlp_278 hr_v_173 hr_v_174 hr_v_175 hr_v_176 hr_v_177 hr_v_178 hC_g_180 hs_271 hs_272 hi_273 hi_274 hi_275 hi_276 hi_277 hP hD hS hl
      refine lv_aload_n hx hb dX12_readKey_11 rfl (lv_at hl 0 rfl) ?_
      refine va_get (D := G) (ci := 12) (v := .int n_1) (C := RX12) (T := TX12) (N := 65) hx hb hts inT12 hown hK hP 1 rfl rfl 12 (by decide) (hts _ tw_1897) (fun _ h9 => h9) rfl dX12_readKey_12 ?_
      refine lv_if_ne (tgt := 129) hx hb dX12_readKey_15 (by decide) (fun c_280 => ?_) (fun c_280 => ?_)
      · have b_281 := z_fneT c_280
        refine lv_aload_n hx hb dX12_readKey_129 rfl (lv_at hl 0 rfl) ?_
        refine va_get (D := G) (ci := 12) (v := .int n_1) (C := RX12) (T := TX12) (N := 65) hx hb hts inT12 hown hK hP 1 rfl rfl 12 (by decide) (hts _ tw_1897) (fun _ h9 => h9) rfl dX12_readKey_130 ?_
        refine lv_if_ne (tgt := 167) hx hb dX12_readKey_133 (by decide) (fun c_282 => ?_) (fun h9 => (z_no (by have h8 := z_feqF h9; omega)))
        have b_283 := z_fneT c_282
        refine lv_aload_n hx hb dX12_readKey_167 rfl (lv_at hl 0 rfl) ?_
        refine va_get (D := G) (ci := 12) (v := .int n_1) (C := RX12) (T := TX12) (N := 65) hx hb hts inT12 hown hK hP 1 rfl rfl 12 (by decide) (hts _ tw_1897) (fun _ h9 => h9) rfl dX12_readKey_168 ?_
        refine lv_if_le (tgt := 175) hx hb dX12_readKey_171 (by decide) (fun h9 => (z_no (by have h8 := z_fleT h9; omega))) (fun c_284 => ?_)
        have b_285 := z_fgtF c_284
        have hpost : (0 ≤ n_1.toInt ∧ n_1.toInt ≤ 9) ∧ (0 ≤ v_174.toInt ∧ v_174.toInt ≤ 4) ∧ (0 ≤ v_175.toInt ∧ v_175.toInt ≤ 900) ∧ (0 ≤ v_176.toInt ∧ v_176.toInt ≤ 900) ∧ (0 ≤ v_177.toInt ∧ v_177.toInt ≤ 9999) ∧ (0 ≤ v_178.toInt ∧ v_178.toInt ≤ 900) ∧ (zC g_180) ∧ (zRg 10 0 1 g_isOn) ∧ (zNw g_180 g_isOn) ∧ (m_behind.toInt ≤ v_176.toInt) ∧ (0 < m_bad.toInt → 0 < n_1.toInt) ∧ (n_1.toInt ≤ 0 → v_174.toInt = 0 ∨ m_behind.toInt < v_176.toInt) ∧ (n_1.toInt ≤ 0 → v_174.toInt = 3 → v_177.toInt = 59 → zNf g_180) := ⟨hr_n_1, hr_v_174, hr_v_175, hr_v_176, hr_v_177, hr_v_178, hC_g_180, hC_g_isOn, hs_271, (by omega), (by omega), (by omega), (fun _ _ _ => hs_272)⟩
        exact hret _ _ _ _ _ (n_1, n_2, v_174, v_175, v_176, v_177, v_178, v_179, n_9, g_180, g_isOn) [1, 2, 3, 4, 0] hP hD hS rfl (by decide) dX12_readKey_174 hpost
      · have b_286 := z_feqF c_280
        refine lv_aload_n hx hb dX12_readKey_18 rfl (lv_at hl 0 rfl) ?_
        refine va_get (D := G) (ci := 12) (v := .int v_174) (C := RX12) (T := TX12) (N := 65) hx hb hts inT12 hown hK hP 1 rfl rfl 14 (by decide) (hts _ tw_1899) (fun _ h9 => h9) rfl dX12_readKey_19 ?_
        refine lv_iconst (v := 2) hx hb dX12_readKey_22 (by decide) ?_
        refine lv_icmp_ne (tgt := 129) hx hb dX12_readKey_23 (by decide) (fun c_287 => ?_) (fun c_287 => ?_)
        · have b_288 := z_fneT c_287
          refine lv_aload_n hx hb dX12_readKey_129 rfl (lv_at hl 0 rfl) ?_
          refine va_get (D := G) (ci := 12) (v := .int n_1) (C := RX12) (T := TX12) (N := 65) hx hb hts inT12 hown hK hP 1 rfl rfl 12 (by decide) (hts _ tw_1897) (fun _ h9 => h9) rfl dX12_readKey_130 ?_
          refine lv_if_ne (tgt := 167) hx hb dX12_readKey_133 (by decide) (fun h9 => (z_no (by have h8 := z_fneT h9; omega))) (fun c_289 => ?_)
          have b_290 := z_feqF c_289
          refine lv_aload_n hx hb dX12_readKey_136 rfl (lv_at hl 0 rfl) ?_
          refine lv_bipush (v := 59) hx hb dX12_readKey_137 (by decide) ?_
          refine z_callVi (As := [.int 59]) (rest := []) (wr := [(a_isOn, .inl (cA.1 3, 10, .inl g_isOn)), (a_tape, .inl (cA.1 2, 900, .inl g_tape)), (a_c, .inl (cA.1 0, 1825, .inl g_180)), (a_words, .inl (cA.1 1, 105, .inr (.inl n_9)))]) ⟨hx, hb, hml, hown, hts⟩ hK hE hT hP hD hS hA (r_isSign l G cA h0 m_status m_thrown m_above m_under a_traySort a_trayMany a_numbers a_tape m_taped m_textEnd m_faultKind m_faultAt n_1 n_2 v_174 v_175 v_176 v_177 v_178 v_179 a_c a_words m_markMany a_there a_tried a_best a_found m_thereMany m_foundMany m_orderHow m_orderRing m_orderMany m_hasBest m_bestTop m_bestBy a_weights a_shared m_random m_truePlace m_trueWay m_seconds m_done m_feelings m_tries m_leftOver m_playDoor m_playRing m_isOpen m_isOver m_wasTried m_hasPlayed a_feltNow a_last a_kept m_hasSeconds m_hasTurned m_hasRound a_hasFeels a_isOn m_firstAct m_meanTop m_meanBy a_order m_rowMany m_newSteps 59 hr_v_174 hr_v_177) lk_RX12_220 ⟨rfl, rfl⟩ ⟨Nat.le_of_ble_eq_true rfl, Nat.le_of_ble_eq_true rfl⟩ 12 rfl rfl rfl [1] [0, 2, 3, 4] rfl rfl (by decide) rfl hl.1 rfl (lv_room (Nat.le_of_ble_eq_true rfl)) dX12_readKey_139 ⟨Nat.le_of_ble_eq_true rfl, Nat.le_of_ble_eq_true rfl⟩ (fun r_291 u_292 H locs hw hP hD hS => ?_)
          rcases hw with ⟨rfl, hf_293⟩ | ⟨rfl, hf_294⟩
          · skip
            refine lv_if_eq (tgt := 167) hx hb dX12_readKey_142 (by decide) (fun _ => ?_) (fun h9 => absurd (by decide +kernel) h9)
            refine lv_aload_n hx hb dX12_readKey_167 rfl (lv_at hl 0 rfl) ?_
            refine va_get (D := G) (ci := 12) (v := .int n_1) (C := RX12) (T := TX12) (N := 65) hx hb hts inT12 hown hK hP 4 rfl rfl 12 (by decide) (hts _ tw_1897) (fun _ h9 => h9) rfl dX12_readKey_168 ?_
            refine lv_if_le (tgt := 175) hx hb dX12_readKey_171 (by decide) (fun c_295 => ?_) (fun h9 => (z_no (by have h8 := z_fgtF h9; omega)))
            have b_296 := z_fleT c_295
            refine lv_aload_n hx hb dX12_readKey_175 rfl (lv_at hl 0 rfl) ?_
            refine va_get (D := G) (ci := 12) (v := .ref a_isOn) (C := RX12) (T := TX12) (N := 65) hx hb hts inT12 hown hK hP 4 rfl rfl 58 (by decide) (hts _ tw_1941) (fun _ h9 => h9) rfl dX12_readKey_176 ?_
            refine lv_iload_n hx hb dX12_readKey_179 rfl (lv_at hl 1 rfl) ?_
            refine lv_iconst (v := 0) hx hb dX12_readKey_180 (by decide) ?_
            refine z_zast hx hb hK hP hD hS 0 3 rfl rfl (z_inN (by omega) (by omega)) dX12_readKey_181 (fun g_297 hg_g_297 H locs hP hD hS => ?_)
            have hC_g_297 := z_rgZ hC_g_isOn hg_g_297 (Or.inl rfl)
            have hs_298 : zNw g_180 g_297 := (zNw_on0 hs_271 hC_g_180.1 hg_g_297 (by omega) (by omega))
            refine lv_aload_n hx hb dX12_readKey_182 rfl (lv_at hl 0 rfl) ?_
            refine va_get (D := G) (ci := 12) (v := .ref a_c) (C := RX12) (T := TX12) (N := 65) hx hb hts inT12 hown hK hP 4 rfl rfl 20 (by decide) (hts _ tw_1905) (fun _ h9 => h9) rfl dX12_readKey_183 ?_
            refine lv_sipush (v := 1610) hx hb dX12_readKey_186 (by decide) ?_
            refine lv_iload_n hx hb dX12_readKey_189 rfl (lv_at hl 1 rfl) ?_
            refine lv_iadd hx hb dX12_readKey_190 ?_
            refine lv_topi (fun x_299 he_x_299 => ?_)
            have hq_x_299 := z_addq he_x_299 hk_1610 (rfl : r_10.toInt = _) (by omega) (by omega)
            refine lv_iconst (v := 0) hx hb dX12_readKey_191 (by decide) ?_
            refine z_iast hx hb hK hP hD hS 2 0 rfl rfl (z_inN (by omega) (by omega)) dX12_readKey_192 (fun g_300 hg_g_300 H locs hP hD hS => ?_)
            have hC_g_300 := z_ctU hC_g_180 hg_g_300 (a := 1610) (b := 1619) (lo := (-2147483648)) (hi := 2147483647) (by decide +kernel) (by decide +kernel) (by omega) (by omega) (z_full _)
            have hw_g_300_1460 := z_cwo hg_g_300 (k := 1460) (by omega) (by omega)
            have hw_g_300_1461 := z_cwo hg_g_300 (k := 1461) (by omega) (by omega)
            have hs_301 : zNw g_300 g_297 := (zNw_fr hs_298 hg_g_300 (a := 1610) (b := 1619) (by decide +kernel) (by omega) (by omega))
            have hs_302 : zNf g_300 := (zNf_fr hs_272 hg_g_300 (a := 1610) (b := 1619) (by decide +kernel) (by omega) (by omega))
            refine lv_aload_n hx hb dX12_readKey_193 rfl (lv_at hl 0 rfl) ?_
            refine va_get (D := G) (ci := 12) (v := .ref a_c) (C := RX12) (T := TX12) (N := 65) hx hb hts inT12 hown hK hP 4 rfl rfl 20 (by decide) (hts _ tw_1905) (fun _ h9 => h9) rfl dX12_readKey_194 ?_
            refine lv_sipush (v := 1461) hx hb dX12_readKey_197 (by decide) ?_
            refine lv_dup2_11 hx hb dX12_readKey_200 rfl rfl ?_
            refine va_iald hx hb hK hP 2 0 rfl rfl (z_in (i := 1461) (n := 1825) (by decide +kernel) (by decide +kernel)) dX12_readKey_201 ?_
            refine lv_topi (fun x_303 he_x_303 => ?_)
            have hr_x_303 := z_ctk hC_g_300 he_x_303 (k := 1461) (lo := 0) (hi := 10) (by decide +kernel) (by decide +kernel) (by decide +kernel)
            have hv_x_303 := z_cv he_x_303 (k := 1461) (by decide +kernel)
            refine lv_iconst (v := 1) hx hb dX12_readKey_202 (by decide) ?_
            refine lv_iadd hx hb dX12_readKey_203 ?_
            refine lv_topi (fun x_304 he_x_304 => ?_)
            have hq_x_304 := z_addq he_x_304 (rfl : x_303.toInt = _) hk_1 (by omega) (by omega)
            refine z_iast hx hb hK hP hD hS 2 0 rfl rfl (z_in (i := 1461) (n := 1825) (by decide +kernel) (by decide +kernel)) dX12_readKey_204 (fun g_305 hg_g_305 H locs hP hD hS => ?_)
            have hC_g_305 := z_ctUk hC_g_300 hg_g_305 (k := 1461) (lo := 0) (hi := 10) (by decide +kernel) (by decide +kernel) (by decide +kernel) (by omega)
            have hw_g_305_1460 := z_cwo hg_g_305 (k := 1460) (by decide +kernel) (by decide +kernel)
            have hw_g_305_1461 := z_cwk hg_g_305 (k := 1461) (by decide +kernel)
            have hs_306 : zNw g_305 g_297 := (zNw_ke hs_301 hg_g_305 (by decide +kernel) (by omega))
            have hs_307 : zNf g_305 := (zNf_fr hs_302 hg_g_305 (a := 1461) (b := 1461) (by decide +kernel) (by decide +kernel) (by decide +kernel))
            have hpost : (0 ≤ n_1.toInt ∧ n_1.toInt ≤ 9) ∧ (0 ≤ v_174.toInt ∧ v_174.toInt ≤ 4) ∧ (0 ≤ v_175.toInt ∧ v_175.toInt ≤ 900) ∧ (0 ≤ v_176.toInt ∧ v_176.toInt ≤ 900) ∧ (0 ≤ v_177.toInt ∧ v_177.toInt ≤ 9999) ∧ (0 ≤ v_178.toInt ∧ v_178.toInt ≤ 900) ∧ (zC g_305) ∧ (zRg 10 0 1 g_297) ∧ (zNw g_305 g_297) ∧ (m_behind.toInt ≤ v_176.toInt) ∧ (0 < m_bad.toInt → 0 < n_1.toInt) ∧ (n_1.toInt ≤ 0 → v_174.toInt = 0 ∨ m_behind.toInt < v_176.toInt) ∧ (n_1.toInt ≤ 0 → v_174.toInt = 3 → v_177.toInt = 59 → zNf g_305) := ⟨hr_n_1, hr_v_174, hr_v_175, hr_v_176, hr_v_177, hr_v_178, hC_g_305, hC_g_297, hs_306, (by omega), (by omega), (by omega), (fun _ _ _ => hs_307)⟩
            exact hret _ _ _ _ _ (n_1, n_2, v_174, v_175, v_176, v_177, v_178, v_179, n_9, g_305, g_297) [4, 1, 2, 3, 0] hP hD hS rfl (by decide) dX12_readKey_205 hpost
          · skip
            refine lv_if_eq (tgt := 167) hx hb dX12_readKey_142 (by decide) (fun h9 => absurd h9 (by decide +kernel)) (fun _ => ?_)
            refine lv_iload_n hx hb dX12_readKey_145 rfl (lv_at hl 2 rfl) ?_
            refine lv_aload_n hx hb dX12_readKey_146 rfl (lv_at hl 0 rfl) ?_
            refine va_get (D := G) (ci := 12) (v := .ref a_c) (C := RX12) (T := TX12) (N := 65) hx hb hts inT12 hown hK hP 4 rfl rfl 20 (by decide) (hts _ tw_1905) (fun _ h9 => h9) rfl dX12_readKey_147 ?_
            refine lv_sipush (v := 1460) hx hb dX12_readKey_150 (by decide) ?_
            refine va_iald hx hb hK hP 2 0 rfl rfl (z_in (i := 1460) (n := 1825) (by decide +kernel) (by decide +kernel)) dX12_readKey_153 ?_
            refine lv_topi (fun x_308 he_x_308 => ?_)
            have hr_x_308 := z_ctk hC_g_180 he_x_308 (k := 1460) (lo := 0) (hi := 3) (by decide +kernel) (by decide +kernel) (by decide +kernel)
            have hv_x_308 := z_cv he_x_308 (k := 1460) (by decide +kernel)
            refine lv_icmp_ge (tgt := 167) hx hb dX12_readKey_154 (by decide) (fun c_309 => ?_) (fun c_309 => ?_)
            · have b_310 := z_fgeT c_309
              refine lv_aload_n hx hb dX12_readKey_167 rfl (lv_at hl 0 rfl) ?_
              refine va_get (D := G) (ci := 12) (v := .int n_1) (C := RX12) (T := TX12) (N := 65) hx hb hts inT12 hown hK hP 4 rfl rfl 12 (by decide) (hts _ tw_1897) (fun _ h9 => h9) rfl dX12_readKey_168 ?_
              refine lv_if_le (tgt := 175) hx hb dX12_readKey_171 (by decide) (fun c_311 => ?_) (fun h9 => (z_no (by have h8 := z_fgtF h9; omega)))
              have b_312 := z_fleT c_311
              refine lv_aload_n hx hb dX12_readKey_175 rfl (lv_at hl 0 rfl) ?_
              refine va_get (D := G) (ci := 12) (v := .ref a_isOn) (C := RX12) (T := TX12) (N := 65) hx hb hts inT12 hown hK hP 4 rfl rfl 58 (by decide) (hts _ tw_1941) (fun _ h9 => h9) rfl dX12_readKey_176 ?_
              refine lv_iload_n hx hb dX12_readKey_179 rfl (lv_at hl 1 rfl) ?_
              refine lv_iconst (v := 0) hx hb dX12_readKey_180 (by decide) ?_
              refine z_zast hx hb hK hP hD hS 0 3 rfl rfl (z_inN (by omega) (by omega)) dX12_readKey_181 (fun g_313 hg_g_313 H locs hP hD hS => ?_)
              have hC_g_313 := z_rgZ hC_g_isOn hg_g_313 (Or.inl rfl)
              have hs_314 : zNw g_180 g_313 := (zNw_on0 hs_271 hC_g_180.1 hg_g_313 (by omega) (by omega))
              refine lv_aload_n hx hb dX12_readKey_182 rfl (lv_at hl 0 rfl) ?_
              refine va_get (D := G) (ci := 12) (v := .ref a_c) (C := RX12) (T := TX12) (N := 65) hx hb hts inT12 hown hK hP 4 rfl rfl 20 (by decide) (hts _ tw_1905) (fun _ h9 => h9) rfl dX12_readKey_183 ?_
              refine lv_sipush (v := 1610) hx hb dX12_readKey_186 (by decide) ?_
              refine lv_iload_n hx hb dX12_readKey_189 rfl (lv_at hl 1 rfl) ?_
              refine lv_iadd hx hb dX12_readKey_190 ?_
              refine lv_topi (fun x_315 he_x_315 => ?_)
              have hq_x_315 := z_addq he_x_315 hk_1610 (rfl : r_10.toInt = _) (by omega) (by omega)
              refine lv_iconst (v := 0) hx hb dX12_readKey_191 (by decide) ?_
              refine z_iast hx hb hK hP hD hS 2 0 rfl rfl (z_inN (by omega) (by omega)) dX12_readKey_192 (fun g_316 hg_g_316 H locs hP hD hS => ?_)
              have hC_g_316 := z_ctU hC_g_180 hg_g_316 (a := 1610) (b := 1619) (lo := (-2147483648)) (hi := 2147483647) (by decide +kernel) (by decide +kernel) (by omega) (by omega) (z_full _)
              have hw_g_316_1460 := z_cwo hg_g_316 (k := 1460) (by omega) (by omega)
              have hw_g_316_1461 := z_cwo hg_g_316 (k := 1461) (by omega) (by omega)
              have hs_317 : zNw g_316 g_313 := (zNw_fr hs_314 hg_g_316 (a := 1610) (b := 1619) (by decide +kernel) (by omega) (by omega))
              have hs_318 : zNf g_316 := (zNf_fr hs_272 hg_g_316 (a := 1610) (b := 1619) (by decide +kernel) (by omega) (by omega))
              refine lv_aload_n hx hb dX12_readKey_193 rfl (lv_at hl 0 rfl) ?_
              refine va_get (D := G) (ci := 12) (v := .ref a_c) (C := RX12) (T := TX12) (N := 65) hx hb hts inT12 hown hK hP 4 rfl rfl 20 (by decide) (hts _ tw_1905) (fun _ h9 => h9) rfl dX12_readKey_194 ?_
              refine lv_sipush (v := 1461) hx hb dX12_readKey_197 (by decide) ?_
              refine lv_dup2_11 hx hb dX12_readKey_200 rfl rfl ?_
              refine va_iald hx hb hK hP 2 0 rfl rfl (z_in (i := 1461) (n := 1825) (by decide +kernel) (by decide +kernel)) dX12_readKey_201 ?_
              refine lv_topi (fun x_319 he_x_319 => ?_)
              have hr_x_319 := z_ctk hC_g_316 he_x_319 (k := 1461) (lo := 0) (hi := 10) (by decide +kernel) (by decide +kernel) (by decide +kernel)
              have hv_x_319 := z_cv he_x_319 (k := 1461) (by decide +kernel)
              refine lv_iconst (v := 1) hx hb dX12_readKey_202 (by decide) ?_
              refine lv_iadd hx hb dX12_readKey_203 ?_
              refine lv_topi (fun x_320 he_x_320 => ?_)
              have hq_x_320 := z_addq he_x_320 (rfl : x_319.toInt = _) hk_1 (by omega) (by omega)
              refine z_iast hx hb hK hP hD hS 2 0 rfl rfl (z_in (i := 1461) (n := 1825) (by decide +kernel) (by decide +kernel)) dX12_readKey_204 (fun g_321 hg_g_321 H locs hP hD hS => ?_)
              have hC_g_321 := z_ctUk hC_g_316 hg_g_321 (k := 1461) (lo := 0) (hi := 10) (by decide +kernel) (by decide +kernel) (by decide +kernel) (by omega)
              have hw_g_321_1460 := z_cwo hg_g_321 (k := 1460) (by decide +kernel) (by decide +kernel)
              have hw_g_321_1461 := z_cwk hg_g_321 (k := 1461) (by decide +kernel)
              have hs_322 : zNw g_321 g_313 := (zNw_ke hs_317 hg_g_321 (by decide +kernel) (by omega))
              have hs_323 : zNf g_321 := (zNf_fr hs_318 hg_g_321 (a := 1461) (b := 1461) (by decide +kernel) (by decide +kernel) (by decide +kernel))
              have hpost : (0 ≤ n_1.toInt ∧ n_1.toInt ≤ 9) ∧ (0 ≤ v_174.toInt ∧ v_174.toInt ≤ 4) ∧ (0 ≤ v_175.toInt ∧ v_175.toInt ≤ 900) ∧ (0 ≤ v_176.toInt ∧ v_176.toInt ≤ 900) ∧ (0 ≤ v_177.toInt ∧ v_177.toInt ≤ 9999) ∧ (0 ≤ v_178.toInt ∧ v_178.toInt ≤ 900) ∧ (zC g_321) ∧ (zRg 10 0 1 g_313) ∧ (zNw g_321 g_313) ∧ (m_behind.toInt ≤ v_176.toInt) ∧ (0 < m_bad.toInt → 0 < n_1.toInt) ∧ (n_1.toInt ≤ 0 → v_174.toInt = 0 ∨ m_behind.toInt < v_176.toInt) ∧ (n_1.toInt ≤ 0 → v_174.toInt = 3 → v_177.toInt = 59 → zNf g_321) := ⟨hr_n_1, hr_v_174, hr_v_175, hr_v_176, hr_v_177, hr_v_178, hC_g_321, hC_g_313, hs_322, (by omega), (by omega), (by omega), (fun _ _ _ => hs_323)⟩
              exact hret _ _ _ _ _ (n_1, n_2, v_174, v_175, v_176, v_177, v_178, v_179, n_9, g_321, g_313) [4, 1, 2, 3, 0] hP hD hS rfl (by decide) dX12_readKey_205 hpost
            · have b_324 := z_fltF c_309
              refine lv_aload_n hx hb dX12_readKey_157 rfl (lv_at hl 0 rfl) ?_
              refine lv_bipush (v := 8) hx hb dX12_readKey_158 (by decide) ?_
              refine lv_aload_n hx hb dX12_readKey_160 rfl (lv_at hl 0 rfl) ?_
              refine va_get (D := G) (ci := 12) (v := .int v_175) (C := RX12) (T := TX12) (N := 65) hx hb hts inT12 hown hK hP 4 rfl rfl 15 (by decide) (hts _ tw_1900) (fun _ h9 => h9) rfl dX12_readKey_161 ?_
              refine z_callVv (As := [.int 8, .int v_175]) (rest := []) (wr := [(a_isOn, .inl (cA.1 3, 10, .inl g_isOn)), (a_tape, .inl (cA.1 2, 900, .inl g_tape)), (a_c, .inl (cA.1 0, 1825, .inl g_180)), (a_words, .inl (cA.1 1, 105, .inr (.inl n_9)))]) ⟨hx, hb, hml, hown, hts⟩ hK hE hT hP hD hS hA (r_fail l G cA h0 m_status m_thrown m_above m_under a_traySort a_trayMany a_numbers a_tape m_taped m_textEnd m_faultKind m_faultAt n_1 n_2 v_174 v_175 v_176 v_177 v_178 v_179 a_c a_words m_markMany a_there a_tried a_best a_found m_thereMany m_foundMany m_orderHow m_orderRing m_orderMany m_hasBest m_bestTop m_bestBy a_weights a_shared m_random m_truePlace m_trueWay m_seconds m_done m_feelings m_tries m_leftOver m_playDoor m_playRing m_isOpen m_isOver m_wasTried m_hasPlayed a_feltNow a_last a_kept m_hasSeconds m_hasTurned m_hasRound a_hasFeels a_isOn m_firstAct m_meanTop m_meanBy a_order m_rowMany m_newSteps 8 v_175 (by decide +kernel) hr_n_1) lk_RX12_180 ⟨rfl, rfl⟩ ⟨Nat.le_of_ble_eq_true rfl, Nat.le_of_ble_eq_true rfl⟩ 12 rfl rfl rfl [4] [0, 1, 2, 3] rfl rfl (by decide) rfl hl.1 rfl (lv_room (Nat.le_of_ble_eq_true rfl)) dX12_readKey_164 ⟨Nat.le_of_ble_eq_true rfl, Nat.le_of_ble_eq_true rfl⟩ (fun u_328 H locs hw hP hD hS => ?_)
              obtain ⟨n_325, n_326⟩ := u_328
              try dsimp only at hw
              obtain ⟨hr_n_325, hf_329⟩ := hw
              refine lv_aload_n hx hb dX12_readKey_167 rfl (lv_at hl 0 rfl) ?_
              refine va_get (D := G) (ci := 12) (v := .int n_325) (C := RX12) (T := TX12) (N := 65) hx hb hts inT12 hown hK hP 4 rfl rfl 12 (by decide) (hts _ tw_1897) (fun _ h9 => h9) rfl dX12_readKey_168 ?_
              refine lv_if_le (tgt := 175) hx hb dX12_readKey_171 (by decide) (fun h9 => (z_no (by have h8 := z_fleT h9; omega))) (fun c_330 => ?_)
              have b_331 := z_fgtF c_330
              have hpost : (0 ≤ n_325.toInt ∧ n_325.toInt ≤ 9) ∧ (0 ≤ v_174.toInt ∧ v_174.toInt ≤ 4) ∧ (0 ≤ v_175.toInt ∧ v_175.toInt ≤ 900) ∧ (0 ≤ v_176.toInt ∧ v_176.toInt ≤ 900) ∧ (0 ≤ v_177.toInt ∧ v_177.toInt ≤ 9999) ∧ (0 ≤ v_178.toInt ∧ v_178.toInt ≤ 900) ∧ (zC g_180) ∧ (zRg 10 0 1 g_isOn) ∧ (zNw g_180 g_isOn) ∧ (m_behind.toInt ≤ v_176.toInt) ∧ (0 < m_bad.toInt → 0 < n_325.toInt) ∧ (n_325.toInt ≤ 0 → v_174.toInt = 0 ∨ m_behind.toInt < v_176.toInt) ∧ (n_325.toInt ≤ 0 → v_174.toInt = 3 → v_177.toInt = 59 → zNf g_180) := ⟨(z_rgw hr_n_325 (by decide) (by decide)), hr_v_174, hr_v_175, hr_v_176, hr_v_177, hr_v_178, hC_g_180, hC_g_isOn, hs_271, (by omega), (by omega), (by omega), (fun _ _ _ => hs_272)⟩
              exact hret _ _ _ _ _ (n_325, n_326, v_174, v_175, v_176, v_177, v_178, v_179, n_9, g_180, g_isOn) [4, 1, 2, 3, 0] hP hD hS rfl (by decide) dX12_readKey_174 hpost
        · have b_332 := z_feqF c_287
          refine lv_iload_n hx hb dX12_readKey_26 rfl (lv_at hl 2 rfl) ?_
          refine lv_aload_n hx hb dX12_readKey_27 rfl (lv_at hl 0 rfl) ?_
          refine va_get (D := G) (ci := 12) (v := .ref a_c) (C := RX12) (T := TX12) (N := 65) hx hb hts inT12 hown hK hP 1 rfl rfl 20 (by decide) (hts _ tw_1905) (fun _ h9 => h9) rfl dX12_readKey_28 ?_
          refine lv_sipush (v := 1460) hx hb dX12_readKey_31 (by decide) ?_
          refine va_iald hx hb hK hP 3 0 rfl rfl (z_in (i := 1460) (n := 1825) (by decide +kernel) (by decide +kernel)) dX12_readKey_34 ?_
          refine lv_topi (fun x_333 he_x_333 => ?_)
          have hr_x_333 := z_ctk hC_g_180 he_x_333 (k := 1460) (lo := 0) (hi := 3) (by decide +kernel) (by decide +kernel) (by decide +kernel)
          have hv_x_333 := z_cv he_x_333 (k := 1460) (by decide +kernel)
          refine lv_icmp_ge (tgt := 64) hx hb dX12_readKey_35 (by decide) (fun c_334 => ?_) (fun c_334 => ?_)
          · have b_335 := z_fgeT c_334
            refine lv_aload_n hx hb dX12_readKey_64 rfl (lv_at hl 0 rfl) ?_
            refine va_get (D := G) (ci := 12) (v := .int n_1) (C := RX12) (T := TX12) (N := 65) hx hb hts inT12 hown hK hP 1 rfl rfl 12 (by decide) (hts _ tw_1897) (fun _ h9 => h9) rfl dX12_readKey_65 ?_
            refine lv_if_ne (tgt := 93) hx hb dX12_readKey_68 (by decide) (fun h9 => (z_no (by have h8 := z_fneT h9; omega))) (fun c_336 => ?_)
            have b_337 := z_feqF c_336
            refine lv_iload_n hx hb dX12_readKey_71 rfl (lv_at hl 2 rfl) ?_
            refine lv_aload_n hx hb dX12_readKey_72 rfl (lv_at hl 0 rfl) ?_
            refine va_get (D := G) (ci := 12) (v := .ref a_c) (C := RX12) (T := TX12) (N := 65) hx hb hts inT12 hown hK hP 1 rfl rfl 20 (by decide) (hts _ tw_1905) (fun _ h9 => h9) rfl dX12_readKey_73 ?_
            refine lv_sipush (v := 1460) hx hb dX12_readKey_76 (by decide) ?_
            refine va_iald hx hb hK hP 3 0 rfl rfl (z_in (i := 1460) (n := 1825) (by decide +kernel) (by decide +kernel)) dX12_readKey_79 ?_
            refine lv_topi (fun x_338 he_x_338 => ?_)
            have hr_x_338 := z_ctk hC_g_180 he_x_338 (k := 1460) (lo := 0) (hi := 3) (by decide +kernel) (by decide +kernel) (by decide +kernel)
            have hv_x_338 := z_cv he_x_338 (k := 1460) (by decide +kernel)
            refine lv_icmp_ne (tgt := 93) hx hb dX12_readKey_80 (by decide) (fun c_339 => ?_) (fun c_339 => ?_)
            · have b_340 := z_fneT c_339
              refine lv_aload_n hx hb dX12_readKey_93 rfl (lv_at hl 0 rfl) ?_
              refine va_get (D := G) (ci := 12) (v := .int n_1) (C := RX12) (T := TX12) (N := 65) hx hb hts inT12 hown hK hP 1 rfl rfl 12 (by decide) (hts _ tw_1897) (fun _ h9 => h9) rfl dX12_readKey_94 ?_
              refine lv_if_le (tgt := 101) hx hb dX12_readKey_97 (by decide) (fun c_341 => ?_) (fun h9 => (z_no (by have h8 := z_fgtF h9; omega)))
              have b_342 := z_fleT c_341
              have hn_k_343 : 0 ≤ v_173.toInt ∧ v_173.toInt ≤ 2 := by omega
              refine lv_aload_n hx hb dX12_readKey_101 rfl (lv_at hl 0 rfl) ?_
              refine va_get (D := G) (ci := 12) (v := .ref a_c) (C := RX12) (T := TX12) (N := 65) hx hb hts inT12 hown hK hP 1 rfl rfl 20 (by decide) (hts _ tw_1905) (fun _ h9 => h9) rfl dX12_readKey_102 ?_
              refine lv_sipush (v := 1525) hx hb dX12_readKey_105 (by decide) ?_
              refine lv_iconst (v := 3) hx hb dX12_readKey_108 (by decide) ?_
              refine lv_iload_n hx hb dX12_readKey_109 rfl (lv_at hl 1 rfl) ?_
              refine lv_imul hx hb dX12_readKey_110 ?_
              refine lv_topi (fun x_344 he_x_344 => ?_)
              have hq_x_344 := z_mulq he_x_344 hk_3 (rfl : r_10.toInt = _) (by omega) (by omega)
              refine lv_iadd hx hb dX12_readKey_111 ?_
              refine lv_topi (fun x_345 he_x_345 => ?_)
              have hq_x_345 := z_addq he_x_345 hk_1525 (rfl : x_344.toInt = _) (by omega) (by omega)
              refine lv_iload_n hx hb dX12_readKey_112 rfl (lv_at hl 2 rfl) ?_
              refine lv_iadd hx hb dX12_readKey_113 ?_
              refine lv_topi (fun x_346 he_x_346 => ?_)
              have hq_x_346 := z_addq he_x_346 (rfl : x_345.toInt = _) (rfl : v_173.toInt = _) (by omega) (by omega)
              refine lv_aload_n hx hb dX12_readKey_114 rfl (lv_at hl 0 rfl) ?_
              refine va_get (D := G) (ci := 12) (v := .int v_177) (C := RX12) (T := TX12) (N := 65) hx hb hts inT12 hown hK hP 1 rfl rfl 17 (by decide) (hts _ tw_1902) (fun _ h9 => h9) rfl dX12_readKey_115 ?_
              refine z_iast hx hb hK hP hD hS 3 0 rfl rfl (z_inN (by omega) (by omega)) dX12_readKey_118 (fun g_347 hg_g_347 H locs hP hD hS => ?_)
              have hC_g_347 := z_ctU hC_g_180 hg_g_347 (a := 1525) (b := 1554) (lo := 0) (hi := 3) (by decide +kernel) (by decide +kernel) (by omega) (by omega) (by omega)
              have hw_g_347_1460 := z_cwo hg_g_347 (k := 1460) (by omega) (by omega)
              have hw_g_347_1461 := z_cwo hg_g_347 (k := 1461) (by omega) (by omega)
              have hs_348 : zNw g_347 g_isOn := (z_no (by omega))
              have hs_349 : zNf g_347 := (zNf_fr hs_272 hg_g_347 (a := 1525) (b := 1554) (by decide +kernel) (by omega) (by omega))
              obtain ⟨x_350, he_x_350⟩ : ∃ z : Int32, z = v_173 + 1 := ⟨_, rfl⟩
              have hq_x_350 := z_addq he_x_350 (rfl : v_173.toInt = _) hk_1 (by omega) (by omega)
              refine lv_iinc (v := x_350) (lv' := [(2, .int x_350), (0, .ref h0), (1, .int r_10)]) hx hb dX12_readKey_119 hl (k := 2) rfl ((z_ofi (by decide +kernel)).trans he_x_350.symm) (by decide) rfl (fun ls hl => ?_)
              refine lv_aload_n hx hb dX12_readKey_122 rfl (lv_at hl 1 rfl) ?_
              refine z_callVv (As := []) (rest := []) (wr := [(a_isOn, .inl (cA.1 3, 10, .inl g_isOn)), (a_c, .inl (cA.1 0, 1825, .inl g_347)), (a_words, .inl (cA.1 1, 105, .inr (.inl n_9)))]) ⟨hx, hb, hml, hown, hts⟩ hK hE hT hP hD hS hA (r_next2 l G cA h0 m_status m_thrown m_above m_under a_traySort a_trayMany a_numbers a_tape m_taped m_textEnd m_faultKind m_faultAt n_1 n_2 v_174 v_175 v_176 v_177 v_178 v_179 a_c a_words m_markMany a_there a_tried a_best a_found m_thereMany m_foundMany m_orderHow m_orderRing m_orderMany m_hasBest m_bestTop m_bestBy a_weights a_shared m_random m_truePlace m_trueWay m_seconds m_done m_feelings m_tries m_leftOver m_playDoor m_playRing m_isOpen m_isOver m_wasTried m_hasPlayed a_feltNow a_last a_kept m_hasSeconds m_hasTurned m_hasRound a_hasFeels a_isOn m_firstAct m_meanTop m_meanBy a_order m_rowMany m_newSteps g_tape hr_m_textEnd hr_v_175 hr_v_176 hr_v_174 hr_v_177 hr_v_178) lk_RX12_184 ⟨rfl, rfl⟩ ⟨Nat.le_of_ble_eq_true rfl, Nat.le_of_ble_eq_true rfl⟩ 12 rfl rfl rfl [1, 2] [0, 3, 4] rfl rfl (by decide) rfl hl.1 rfl (lv_room (Nat.le_of_ble_eq_true rfl)) dX12_readKey_123 ⟨Nat.le_of_ble_eq_true rfl, Nat.le_of_ble_eq_true rfl⟩ (fun u_358 H locs hw hP hD hS => ?_)
              obtain ⟨n_351, n_352, n_353, n_354, n_355, n_356⟩ := u_358
              try dsimp only at hw
              obtain ⟨hr_n_351, hr_n_352, hr_n_353, hr_n_354, hr_n_355, hf_359, hf_360⟩ := hw
              refine lv_goto (tgt := 11) hx hb dX12_readKey_126 (by decide) ?_
              have hP := hP.sub (ws' := [(a_isOn, .inl (cA.1 3, 10, .inl g_isOn)), (h0, .inr (12, [.int m_status, .int m_thrown, .long m_above, .long m_under, .ref a_traySort, .ref a_trayMany, .ref a_numbers, .ref a_tape, .int m_taped, .int m_textEnd, .int m_faultKind, .int m_faultAt, .int n_1, .int n_2, .int n_351, .int n_352, .int n_353, .int n_354, .int n_355, .long n_356, .ref a_c, .ref a_words, .int m_markMany, .ref a_there, .ref a_tried, .ref a_best, .ref a_found, .int m_thereMany, .int m_foundMany, .int m_orderHow, .int m_orderRing, .int m_orderMany, .int m_hasBest, .long m_bestTop, .long m_bestBy, .ref a_weights, .ref a_shared, .int m_random, .int m_truePlace, .int m_trueWay, .int m_seconds, .int m_done, .int m_feelings, .int m_tries, .int m_leftOver, .int m_playDoor, .int m_playRing, .int m_isOpen, .int m_isOver, .int m_wasTried, .int m_hasPlayed, .ref a_feltNow, .ref a_last, .ref a_kept, .int m_hasSeconds, .int m_hasTurned, .int m_hasRound, .ref a_hasFeels, .ref a_isOn, .int m_firstAct, .long m_meanTop, .long m_meanBy, .ref a_order, .int m_rowMany, .int m_newSteps])), (a_tape, .inl (cA.1 2, 900, .inl g_tape)), (a_c, .inl (cA.1 0, 1825, .inl g_347)), (a_words, .inl (cA.1 1, 105, .inr (.inl n_9)))]) [0, 3, 4, 1, 2] rfl
              have hD := hD.sub (ws' := [(a_isOn, .inl (cA.1 3, 10, .inl g_isOn)), (h0, .inr (12, [.int m_status, .int m_thrown, .long m_above, .long m_under, .ref a_traySort, .ref a_trayMany, .ref a_numbers, .ref a_tape, .int m_taped, .int m_textEnd, .int m_faultKind, .int m_faultAt, .int n_1, .int n_2, .int n_351, .int n_352, .int n_353, .int n_354, .int n_355, .long n_356, .ref a_c, .ref a_words, .int m_markMany, .ref a_there, .ref a_tried, .ref a_best, .ref a_found, .int m_thereMany, .int m_foundMany, .int m_orderHow, .int m_orderRing, .int m_orderMany, .int m_hasBest, .long m_bestTop, .long m_bestBy, .ref a_weights, .ref a_shared, .int m_random, .int m_truePlace, .int m_trueWay, .int m_seconds, .int m_done, .int m_feelings, .int m_tries, .int m_leftOver, .int m_playDoor, .int m_playRing, .int m_isOpen, .int m_isOver, .int m_wasTried, .int m_hasPlayed, .ref a_feltNow, .ref a_last, .ref a_kept, .int m_hasSeconds, .int m_hasTurned, .int m_hasRound, .ref a_hasFeels, .ref a_isOn, .int m_firstAct, .long m_meanTop, .long m_meanBy, .ref a_order, .int m_rowMany, .int m_newSteps])), (a_tape, .inl (cA.1 2, 900, .inl g_tape)), (a_c, .inl (cA.1 0, 1825, .inl g_347)), (a_words, .inl (cA.1 1, 105, .inr (.inl n_9)))]) [0, 3, 4, 1, 2] (by decide) rfl
              exact ih_279 x_350 n_351 n_352 n_353 n_354 n_355 n_356 g_347 H locs ls (by omega) (by omega) hr_n_351 hr_n_352 hr_n_353 hr_n_354 hr_n_355 hC_g_347 hs_348 hs_349 (by omega) (by omega) (by omega) (by omega) (by omega) hP hD hS (lv_sub hl [1, 2, 0] rfl)
            · have b_361 := z_feqF c_339
              refine lv_aload_n hx hb dX12_readKey_83 rfl (lv_at hl 0 rfl) ?_
              refine lv_bipush (v := 8) hx hb dX12_readKey_84 (by decide) ?_
              refine lv_aload_n hx hb dX12_readKey_86 rfl (lv_at hl 0 rfl) ?_
              refine va_get (D := G) (ci := 12) (v := .int v_175) (C := RX12) (T := TX12) (N := 65) hx hb hts inT12 hown hK hP 1 rfl rfl 15 (by decide) (hts _ tw_1900) (fun _ h9 => h9) rfl dX12_readKey_87 ?_
              refine z_callVv (As := [.int 8, .int v_175]) (rest := []) (wr := [(a_isOn, .inl (cA.1 3, 10, .inl g_isOn)), (a_tape, .inl (cA.1 2, 900, .inl g_tape)), (a_c, .inl (cA.1 0, 1825, .inl g_180)), (a_words, .inl (cA.1 1, 105, .inr (.inl n_9)))]) ⟨hx, hb, hml, hown, hts⟩ hK hE hT hP hD hS hA (r_fail l G cA h0 m_status m_thrown m_above m_under a_traySort a_trayMany a_numbers a_tape m_taped m_textEnd m_faultKind m_faultAt n_1 n_2 v_174 v_175 v_176 v_177 v_178 v_179 a_c a_words m_markMany a_there a_tried a_best a_found m_thereMany m_foundMany m_orderHow m_orderRing m_orderMany m_hasBest m_bestTop m_bestBy a_weights a_shared m_random m_truePlace m_trueWay m_seconds m_done m_feelings m_tries m_leftOver m_playDoor m_playRing m_isOpen m_isOver m_wasTried m_hasPlayed a_feltNow a_last a_kept m_hasSeconds m_hasTurned m_hasRound a_hasFeels a_isOn m_firstAct m_meanTop m_meanBy a_order m_rowMany m_newSteps 8 v_175 (by decide +kernel) hr_n_1) lk_RX12_180 ⟨rfl, rfl⟩ ⟨Nat.le_of_ble_eq_true rfl, Nat.le_of_ble_eq_true rfl⟩ 12 rfl rfl rfl [1] [0, 2, 3, 4] rfl rfl (by decide) rfl hl.1 rfl (lv_room (Nat.le_of_ble_eq_true rfl)) dX12_readKey_90 ⟨Nat.le_of_ble_eq_true rfl, Nat.le_of_ble_eq_true rfl⟩ (fun u_365 H locs hw hP hD hS => ?_)
              obtain ⟨n_362, n_363⟩ := u_365
              try dsimp only at hw
              obtain ⟨hr_n_362, hf_366⟩ := hw
              refine lv_aload_n hx hb dX12_readKey_93 rfl (lv_at hl 0 rfl) ?_
              refine va_get (D := G) (ci := 12) (v := .int n_362) (C := RX12) (T := TX12) (N := 65) hx hb hts inT12 hown hK hP 4 rfl rfl 12 (by decide) (hts _ tw_1897) (fun _ h9 => h9) rfl dX12_readKey_94 ?_
              refine lv_if_le (tgt := 101) hx hb dX12_readKey_97 (by decide) (fun h9 => (z_no (by have h8 := z_fleT h9; omega))) (fun c_367 => ?_)
              have b_368 := z_fgtF c_367
              have hpost : (0 ≤ n_362.toInt ∧ n_362.toInt ≤ 9) ∧ (0 ≤ v_174.toInt ∧ v_174.toInt ≤ 4) ∧ (0 ≤ v_175.toInt ∧ v_175.toInt ≤ 900) ∧ (0 ≤ v_176.toInt ∧ v_176.toInt ≤ 900) ∧ (0 ≤ v_177.toInt ∧ v_177.toInt ≤ 9999) ∧ (0 ≤ v_178.toInt ∧ v_178.toInt ≤ 900) ∧ (zC g_180) ∧ (zRg 10 0 1 g_isOn) ∧ (zNw g_180 g_isOn) ∧ (m_behind.toInt ≤ v_176.toInt) ∧ (0 < m_bad.toInt → 0 < n_362.toInt) ∧ (n_362.toInt ≤ 0 → v_174.toInt = 0 ∨ m_behind.toInt < v_176.toInt) ∧ (n_362.toInt ≤ 0 → v_174.toInt = 3 → v_177.toInt = 59 → zNf g_180) := ⟨(z_rgw hr_n_362 (by decide) (by decide)), hr_v_174, hr_v_175, hr_v_176, hr_v_177, hr_v_178, hC_g_180, hC_g_isOn, hs_271, (by omega), (by omega), (by omega), (fun _ _ _ => hs_272)⟩
              exact hret _ _ _ _ _ (n_362, n_363, v_174, v_175, v_176, v_177, v_178, v_179, n_9, g_180, g_isOn) [4, 1, 2, 3, 0] hP hD hS rfl (by decide) dX12_readKey_100 hpost
          · have b_369 := z_fltF c_334
            refine lv_aload_n hx hb dX12_readKey_38 rfl (lv_at hl 0 rfl) ?_
            refine va_get (D := G) (ci := 12) (v := .int v_177) (C := RX12) (T := TX12) (N := 65) hx hb hts inT12 hown hK hP 1 rfl rfl 17 (by decide) (hts _ tw_1902) (fun _ h9 => h9) rfl dX12_readKey_39 ?_
            refine lv_aload_n hx hb dX12_readKey_42 rfl (lv_at hl 0 rfl) ?_
            refine va_get (D := G) (ci := 12) (v := .ref a_c) (C := RX12) (T := TX12) (N := 65) hx hb hts inT12 hown hK hP 1 rfl rfl 20 (by decide) (hts _ tw_1905) (fun _ h9 => h9) rfl dX12_readKey_43 ?_
            refine lv_sipush (v := 1471) hx hb dX12_readKey_46 (by decide) ?_
            refine lv_iload_n hx hb dX12_readKey_49 rfl (lv_at hl 2 rfl) ?_
            refine lv_iadd hx hb dX12_readKey_50 ?_
            refine lv_topi (fun x_370 he_x_370 => ?_)
            have hq_x_370 := z_addq he_x_370 hk_1471 (rfl : v_173.toInt = _) (by omega) (by omega)
            refine va_iald hx hb hK hP 3 0 rfl rfl (z_inN (by omega) (by omega)) dX12_readKey_51 ?_
            refine lv_topi (fun x_371 he_x_371 => ?_)
            have hr_x_371 := z_ct hC_g_180 he_x_371 (a := 1471) (b := 1473) (lo := 0) (hi := 4) (by decide +kernel) (by decide) (by omega) (by omega)
            refine lv_icmp_lt (tgt := 64) hx hb dX12_readKey_52 (by decide) (fun c_372 => ?_) (fun c_372 => ?_)
            · have b_373 := z_fltT c_372
              refine lv_aload_n hx hb dX12_readKey_64 rfl (lv_at hl 0 rfl) ?_
              refine va_get (D := G) (ci := 12) (v := .int n_1) (C := RX12) (T := TX12) (N := 65) hx hb hts inT12 hown hK hP 1 rfl rfl 12 (by decide) (hts _ tw_1897) (fun _ h9 => h9) rfl dX12_readKey_65 ?_
              refine lv_if_ne (tgt := 93) hx hb dX12_readKey_68 (by decide) (fun h9 => (z_no (by have h8 := z_fneT h9; omega))) (fun c_374 => ?_)
              have b_375 := z_feqF c_374
              refine lv_iload_n hx hb dX12_readKey_71 rfl (lv_at hl 2 rfl) ?_
              refine lv_aload_n hx hb dX12_readKey_72 rfl (lv_at hl 0 rfl) ?_
              refine va_get (D := G) (ci := 12) (v := .ref a_c) (C := RX12) (T := TX12) (N := 65) hx hb hts inT12 hown hK hP 1 rfl rfl 20 (by decide) (hts _ tw_1905) (fun _ h9 => h9) rfl dX12_readKey_73 ?_
              refine lv_sipush (v := 1460) hx hb dX12_readKey_76 (by decide) ?_
              refine va_iald hx hb hK hP 3 0 rfl rfl (z_in (i := 1460) (n := 1825) (by decide +kernel) (by decide +kernel)) dX12_readKey_79 ?_
              refine lv_topi (fun x_376 he_x_376 => ?_)
              have hr_x_376 := z_ctk hC_g_180 he_x_376 (k := 1460) (lo := 0) (hi := 3) (by decide +kernel) (by decide +kernel) (by decide +kernel)
              have hv_x_376 := z_cv he_x_376 (k := 1460) (by decide +kernel)
              refine lv_icmp_ne (tgt := 93) hx hb dX12_readKey_80 (by decide) (fun c_377 => ?_) (fun c_377 => ?_)
              · have b_378 := z_fneT c_377
                refine lv_aload_n hx hb dX12_readKey_93 rfl (lv_at hl 0 rfl) ?_
                refine va_get (D := G) (ci := 12) (v := .int n_1) (C := RX12) (T := TX12) (N := 65) hx hb hts inT12 hown hK hP 1 rfl rfl 12 (by decide) (hts _ tw_1897) (fun _ h9 => h9) rfl dX12_readKey_94 ?_
                refine lv_if_le (tgt := 101) hx hb dX12_readKey_97 (by decide) (fun c_379 => ?_) (fun h9 => (z_no (by have h8 := z_fgtF h9; omega)))
                have b_380 := z_fleT c_379
                have hn_k_381 : 0 ≤ v_173.toInt ∧ v_173.toInt ≤ 2 := by omega
                refine lv_aload_n hx hb dX12_readKey_101 rfl (lv_at hl 0 rfl) ?_
                refine va_get (D := G) (ci := 12) (v := .ref a_c) (C := RX12) (T := TX12) (N := 65) hx hb hts inT12 hown hK hP 1 rfl rfl 20 (by decide) (hts _ tw_1905) (fun _ h9 => h9) rfl dX12_readKey_102 ?_
                refine lv_sipush (v := 1525) hx hb dX12_readKey_105 (by decide) ?_
                refine lv_iconst (v := 3) hx hb dX12_readKey_108 (by decide) ?_
                refine lv_iload_n hx hb dX12_readKey_109 rfl (lv_at hl 1 rfl) ?_
                refine lv_imul hx hb dX12_readKey_110 ?_
                refine lv_topi (fun x_382 he_x_382 => ?_)
                have hq_x_382 := z_mulq he_x_382 hk_3 (rfl : r_10.toInt = _) (by omega) (by omega)
                refine lv_iadd hx hb dX12_readKey_111 ?_
                refine lv_topi (fun x_383 he_x_383 => ?_)
                have hq_x_383 := z_addq he_x_383 hk_1525 (rfl : x_382.toInt = _) (by omega) (by omega)
                refine lv_iload_n hx hb dX12_readKey_112 rfl (lv_at hl 2 rfl) ?_
                refine lv_iadd hx hb dX12_readKey_113 ?_
                refine lv_topi (fun x_384 he_x_384 => ?_)
                have hq_x_384 := z_addq he_x_384 (rfl : x_383.toInt = _) (rfl : v_173.toInt = _) (by omega) (by omega)
                refine lv_aload_n hx hb dX12_readKey_114 rfl (lv_at hl 0 rfl) ?_
                refine va_get (D := G) (ci := 12) (v := .int v_177) (C := RX12) (T := TX12) (N := 65) hx hb hts inT12 hown hK hP 1 rfl rfl 17 (by decide) (hts _ tw_1902) (fun _ h9 => h9) rfl dX12_readKey_115 ?_
                refine z_iast hx hb hK hP hD hS 3 0 rfl rfl (z_inN (by omega) (by omega)) dX12_readKey_118 (fun g_385 hg_g_385 H locs hP hD hS => ?_)
                have hC_g_385 := z_ctU hC_g_180 hg_g_385 (a := 1525) (b := 1554) (lo := 0) (hi := 3) (by decide +kernel) (by decide +kernel) (by omega) (by omega) (by omega)
                have hw_g_385_1460 := z_cwo hg_g_385 (k := 1460) (by omega) (by omega)
                have hw_g_385_1461 := z_cwo hg_g_385 (k := 1461) (by omega) (by omega)
                have hs_386 : zNw g_385 g_isOn := (zNw_ks hs_271 hg_g_385 (k := r_10.toInt) (n := v_173.toInt) (by omega) (by omega) (by omega) (by omega) (by omega) (by omega) (by rw [← z_at he_x_371 (a := 1471 + v_173.toInt.toNat) (by omega)]; omega))
                have hs_387 : zNf g_385 := (zNf_fr hs_272 hg_g_385 (a := 1525) (b := 1554) (by decide +kernel) (by omega) (by omega))
                obtain ⟨x_388, he_x_388⟩ : ∃ z : Int32, z = v_173 + 1 := ⟨_, rfl⟩
                have hq_x_388 := z_addq he_x_388 (rfl : v_173.toInt = _) hk_1 (by omega) (by omega)
                refine lv_iinc (v := x_388) (lv' := [(2, .int x_388), (0, .ref h0), (1, .int r_10)]) hx hb dX12_readKey_119 hl (k := 2) rfl ((z_ofi (by decide +kernel)).trans he_x_388.symm) (by decide) rfl (fun ls hl => ?_)
                refine lv_aload_n hx hb dX12_readKey_122 rfl (lv_at hl 1 rfl) ?_
                refine z_callVv (As := []) (rest := []) (wr := [(a_isOn, .inl (cA.1 3, 10, .inl g_isOn)), (a_c, .inl (cA.1 0, 1825, .inl g_385)), (a_words, .inl (cA.1 1, 105, .inr (.inl n_9)))]) ⟨hx, hb, hml, hown, hts⟩ hK hE hT hP hD hS hA (r_next2 l G cA h0 m_status m_thrown m_above m_under a_traySort a_trayMany a_numbers a_tape m_taped m_textEnd m_faultKind m_faultAt n_1 n_2 v_174 v_175 v_176 v_177 v_178 v_179 a_c a_words m_markMany a_there a_tried a_best a_found m_thereMany m_foundMany m_orderHow m_orderRing m_orderMany m_hasBest m_bestTop m_bestBy a_weights a_shared m_random m_truePlace m_trueWay m_seconds m_done m_feelings m_tries m_leftOver m_playDoor m_playRing m_isOpen m_isOver m_wasTried m_hasPlayed a_feltNow a_last a_kept m_hasSeconds m_hasTurned m_hasRound a_hasFeels a_isOn m_firstAct m_meanTop m_meanBy a_order m_rowMany m_newSteps g_tape hr_m_textEnd hr_v_175 hr_v_176 hr_v_174 hr_v_177 hr_v_178) lk_RX12_184 ⟨rfl, rfl⟩ ⟨Nat.le_of_ble_eq_true rfl, Nat.le_of_ble_eq_true rfl⟩ 12 rfl rfl rfl [1, 2] [0, 3, 4] rfl rfl (by decide) rfl hl.1 rfl (lv_room (Nat.le_of_ble_eq_true rfl)) dX12_readKey_123 ⟨Nat.le_of_ble_eq_true rfl, Nat.le_of_ble_eq_true rfl⟩ (fun u_396 H locs hw hP hD hS => ?_)
                obtain ⟨n_389, n_390, n_391, n_392, n_393, n_394⟩ := u_396
                try dsimp only at hw
                obtain ⟨hr_n_389, hr_n_390, hr_n_391, hr_n_392, hr_n_393, hf_397, hf_398⟩ := hw
                refine lv_goto (tgt := 11) hx hb dX12_readKey_126 (by decide) ?_
                have hP := hP.sub (ws' := [(a_isOn, .inl (cA.1 3, 10, .inl g_isOn)), (h0, .inr (12, [.int m_status, .int m_thrown, .long m_above, .long m_under, .ref a_traySort, .ref a_trayMany, .ref a_numbers, .ref a_tape, .int m_taped, .int m_textEnd, .int m_faultKind, .int m_faultAt, .int n_1, .int n_2, .int n_389, .int n_390, .int n_391, .int n_392, .int n_393, .long n_394, .ref a_c, .ref a_words, .int m_markMany, .ref a_there, .ref a_tried, .ref a_best, .ref a_found, .int m_thereMany, .int m_foundMany, .int m_orderHow, .int m_orderRing, .int m_orderMany, .int m_hasBest, .long m_bestTop, .long m_bestBy, .ref a_weights, .ref a_shared, .int m_random, .int m_truePlace, .int m_trueWay, .int m_seconds, .int m_done, .int m_feelings, .int m_tries, .int m_leftOver, .int m_playDoor, .int m_playRing, .int m_isOpen, .int m_isOver, .int m_wasTried, .int m_hasPlayed, .ref a_feltNow, .ref a_last, .ref a_kept, .int m_hasSeconds, .int m_hasTurned, .int m_hasRound, .ref a_hasFeels, .ref a_isOn, .int m_firstAct, .long m_meanTop, .long m_meanBy, .ref a_order, .int m_rowMany, .int m_newSteps])), (a_tape, .inl (cA.1 2, 900, .inl g_tape)), (a_c, .inl (cA.1 0, 1825, .inl g_385)), (a_words, .inl (cA.1 1, 105, .inr (.inl n_9)))]) [0, 3, 4, 1, 2] rfl
                have hD := hD.sub (ws' := [(a_isOn, .inl (cA.1 3, 10, .inl g_isOn)), (h0, .inr (12, [.int m_status, .int m_thrown, .long m_above, .long m_under, .ref a_traySort, .ref a_trayMany, .ref a_numbers, .ref a_tape, .int m_taped, .int m_textEnd, .int m_faultKind, .int m_faultAt, .int n_1, .int n_2, .int n_389, .int n_390, .int n_391, .int n_392, .int n_393, .long n_394, .ref a_c, .ref a_words, .int m_markMany, .ref a_there, .ref a_tried, .ref a_best, .ref a_found, .int m_thereMany, .int m_foundMany, .int m_orderHow, .int m_orderRing, .int m_orderMany, .int m_hasBest, .long m_bestTop, .long m_bestBy, .ref a_weights, .ref a_shared, .int m_random, .int m_truePlace, .int m_trueWay, .int m_seconds, .int m_done, .int m_feelings, .int m_tries, .int m_leftOver, .int m_playDoor, .int m_playRing, .int m_isOpen, .int m_isOver, .int m_wasTried, .int m_hasPlayed, .ref a_feltNow, .ref a_last, .ref a_kept, .int m_hasSeconds, .int m_hasTurned, .int m_hasRound, .ref a_hasFeels, .ref a_isOn, .int m_firstAct, .long m_meanTop, .long m_meanBy, .ref a_order, .int m_rowMany, .int m_newSteps])), (a_tape, .inl (cA.1 2, 900, .inl g_tape)), (a_c, .inl (cA.1 0, 1825, .inl g_385)), (a_words, .inl (cA.1 1, 105, .inr (.inl n_9)))]) [0, 3, 4, 1, 2] (by decide) rfl
                exact ih_279 x_388 n_389 n_390 n_391 n_392 n_393 n_394 g_385 H locs ls (by omega) (by omega) hr_n_389 hr_n_390 hr_n_391 hr_n_392 hr_n_393 hC_g_385 hs_386 hs_387 (by omega) (by omega) (by omega) (by omega) (by omega) hP hD hS (lv_sub hl [1, 2, 0] rfl)
              · have b_399 := z_feqF c_377
                refine lv_aload_n hx hb dX12_readKey_83 rfl (lv_at hl 0 rfl) ?_
                refine lv_bipush (v := 8) hx hb dX12_readKey_84 (by decide) ?_
                refine lv_aload_n hx hb dX12_readKey_86 rfl (lv_at hl 0 rfl) ?_
                refine va_get (D := G) (ci := 12) (v := .int v_175) (C := RX12) (T := TX12) (N := 65) hx hb hts inT12 hown hK hP 1 rfl rfl 15 (by decide) (hts _ tw_1900) (fun _ h9 => h9) rfl dX12_readKey_87 ?_
                refine z_callVv (As := [.int 8, .int v_175]) (rest := []) (wr := [(a_isOn, .inl (cA.1 3, 10, .inl g_isOn)), (a_tape, .inl (cA.1 2, 900, .inl g_tape)), (a_c, .inl (cA.1 0, 1825, .inl g_180)), (a_words, .inl (cA.1 1, 105, .inr (.inl n_9)))]) ⟨hx, hb, hml, hown, hts⟩ hK hE hT hP hD hS hA (r_fail l G cA h0 m_status m_thrown m_above m_under a_traySort a_trayMany a_numbers a_tape m_taped m_textEnd m_faultKind m_faultAt n_1 n_2 v_174 v_175 v_176 v_177 v_178 v_179 a_c a_words m_markMany a_there a_tried a_best a_found m_thereMany m_foundMany m_orderHow m_orderRing m_orderMany m_hasBest m_bestTop m_bestBy a_weights a_shared m_random m_truePlace m_trueWay m_seconds m_done m_feelings m_tries m_leftOver m_playDoor m_playRing m_isOpen m_isOver m_wasTried m_hasPlayed a_feltNow a_last a_kept m_hasSeconds m_hasTurned m_hasRound a_hasFeels a_isOn m_firstAct m_meanTop m_meanBy a_order m_rowMany m_newSteps 8 v_175 (by decide +kernel) hr_n_1) lk_RX12_180 ⟨rfl, rfl⟩ ⟨Nat.le_of_ble_eq_true rfl, Nat.le_of_ble_eq_true rfl⟩ 12 rfl rfl rfl [1] [0, 2, 3, 4] rfl rfl (by decide) rfl hl.1 rfl (lv_room (Nat.le_of_ble_eq_true rfl)) dX12_readKey_90 ⟨Nat.le_of_ble_eq_true rfl, Nat.le_of_ble_eq_true rfl⟩ (fun u_403 H locs hw hP hD hS => ?_)
                obtain ⟨n_400, n_401⟩ := u_403
                try dsimp only at hw
                obtain ⟨hr_n_400, hf_404⟩ := hw
                refine lv_aload_n hx hb dX12_readKey_93 rfl (lv_at hl 0 rfl) ?_
                refine va_get (D := G) (ci := 12) (v := .int n_400) (C := RX12) (T := TX12) (N := 65) hx hb hts inT12 hown hK hP 4 rfl rfl 12 (by decide) (hts _ tw_1897) (fun _ h9 => h9) rfl dX12_readKey_94 ?_
                refine lv_if_le (tgt := 101) hx hb dX12_readKey_97 (by decide) (fun h9 => (z_no (by have h8 := z_fleT h9; omega))) (fun c_405 => ?_)
                have b_406 := z_fgtF c_405
                have hpost : (0 ≤ n_400.toInt ∧ n_400.toInt ≤ 9) ∧ (0 ≤ v_174.toInt ∧ v_174.toInt ≤ 4) ∧ (0 ≤ v_175.toInt ∧ v_175.toInt ≤ 900) ∧ (0 ≤ v_176.toInt ∧ v_176.toInt ≤ 900) ∧ (0 ≤ v_177.toInt ∧ v_177.toInt ≤ 9999) ∧ (0 ≤ v_178.toInt ∧ v_178.toInt ≤ 900) ∧ (zC g_180) ∧ (zRg 10 0 1 g_isOn) ∧ (zNw g_180 g_isOn) ∧ (m_behind.toInt ≤ v_176.toInt) ∧ (0 < m_bad.toInt → 0 < n_400.toInt) ∧ (n_400.toInt ≤ 0 → v_174.toInt = 0 ∨ m_behind.toInt < v_176.toInt) ∧ (n_400.toInt ≤ 0 → v_174.toInt = 3 → v_177.toInt = 59 → zNf g_180) := ⟨(z_rgw hr_n_400 (by decide) (by decide)), hr_v_174, hr_v_175, hr_v_176, hr_v_177, hr_v_178, hC_g_180, hC_g_isOn, hs_271, (by omega), (by omega), (by omega), (fun _ _ _ => hs_272)⟩
                exact hret _ _ _ _ _ (n_400, n_401, v_174, v_175, v_176, v_177, v_178, v_179, n_9, g_180, g_isOn) [4, 1, 2, 3, 0] hP hD hS rfl (by decide) dX12_readKey_100 hpost
            · have b_407 := z_fgeF c_372
              refine lv_aload_n hx hb dX12_readKey_55 rfl (lv_at hl 0 rfl) ?_
              refine lv_iconst (v := 4) hx hb dX12_readKey_56 (by decide) ?_
              refine lv_aload_n hx hb dX12_readKey_57 rfl (lv_at hl 0 rfl) ?_
              refine va_get (D := G) (ci := 12) (v := .int v_175) (C := RX12) (T := TX12) (N := 65) hx hb hts inT12 hown hK hP 1 rfl rfl 15 (by decide) (hts _ tw_1900) (fun _ h9 => h9) rfl dX12_readKey_58 ?_
              refine z_callVv (As := [.int 4, .int v_175]) (rest := []) (wr := [(a_isOn, .inl (cA.1 3, 10, .inl g_isOn)), (a_tape, .inl (cA.1 2, 900, .inl g_tape)), (a_c, .inl (cA.1 0, 1825, .inl g_180)), (a_words, .inl (cA.1 1, 105, .inr (.inl n_9)))]) ⟨hx, hb, hml, hown, hts⟩ hK hE hT hP hD hS hA (r_fail l G cA h0 m_status m_thrown m_above m_under a_traySort a_trayMany a_numbers a_tape m_taped m_textEnd m_faultKind m_faultAt n_1 n_2 v_174 v_175 v_176 v_177 v_178 v_179 a_c a_words m_markMany a_there a_tried a_best a_found m_thereMany m_foundMany m_orderHow m_orderRing m_orderMany m_hasBest m_bestTop m_bestBy a_weights a_shared m_random m_truePlace m_trueWay m_seconds m_done m_feelings m_tries m_leftOver m_playDoor m_playRing m_isOpen m_isOver m_wasTried m_hasPlayed a_feltNow a_last a_kept m_hasSeconds m_hasTurned m_hasRound a_hasFeels a_isOn m_firstAct m_meanTop m_meanBy a_order m_rowMany m_newSteps 4 v_175 (by decide +kernel) hr_n_1) lk_RX12_180 ⟨rfl, rfl⟩ ⟨Nat.le_of_ble_eq_true rfl, Nat.le_of_ble_eq_true rfl⟩ 12 rfl rfl rfl [1] [0, 2, 3, 4] rfl rfl (by decide) rfl hl.1 rfl (lv_room (Nat.le_of_ble_eq_true rfl)) dX12_readKey_61 ⟨Nat.le_of_ble_eq_true rfl, Nat.le_of_ble_eq_true rfl⟩ (fun u_411 H locs hw hP hD hS => ?_)
              obtain ⟨n_408, n_409⟩ := u_411
              try dsimp only at hw
              obtain ⟨hr_n_408, hf_412⟩ := hw
              refine lv_aload_n hx hb dX12_readKey_64 rfl (lv_at hl 0 rfl) ?_
              refine va_get (D := G) (ci := 12) (v := .int n_408) (C := RX12) (T := TX12) (N := 65) hx hb hts inT12 hown hK hP 4 rfl rfl 12 (by decide) (hts _ tw_1897) (fun _ h9 => h9) rfl dX12_readKey_65 ?_
              refine lv_if_ne (tgt := 93) hx hb dX12_readKey_68 (by decide) (fun c_413 => ?_) (fun h9 => (z_no (by have h8 := z_feqF h9; omega)))
              have b_414 := z_fneT c_413
              refine lv_aload_n hx hb dX12_readKey_93 rfl (lv_at hl 0 rfl) ?_
              refine va_get (D := G) (ci := 12) (v := .int n_408) (C := RX12) (T := TX12) (N := 65) hx hb hts inT12 hown hK hP 4 rfl rfl 12 (by decide) (hts _ tw_1897) (fun _ h9 => h9) rfl dX12_readKey_94 ?_
              refine lv_if_le (tgt := 101) hx hb dX12_readKey_97 (by decide) (fun h9 => (z_no (by have h8 := z_fleT h9; omega))) (fun c_415 => ?_)
              have b_416 := z_fgtF c_415
              have hpost : (0 ≤ n_408.toInt ∧ n_408.toInt ≤ 9) ∧ (0 ≤ v_174.toInt ∧ v_174.toInt ≤ 4) ∧ (0 ≤ v_175.toInt ∧ v_175.toInt ≤ 900) ∧ (0 ≤ v_176.toInt ∧ v_176.toInt ≤ 900) ∧ (0 ≤ v_177.toInt ∧ v_177.toInt ≤ 9999) ∧ (0 ≤ v_178.toInt ∧ v_178.toInt ≤ 900) ∧ (zC g_180) ∧ (zRg 10 0 1 g_isOn) ∧ (zNw g_180 g_isOn) ∧ (m_behind.toInt ≤ v_176.toInt) ∧ (0 < m_bad.toInt → 0 < n_408.toInt) ∧ (n_408.toInt ≤ 0 → v_174.toInt = 0 ∨ m_behind.toInt < v_176.toInt) ∧ (n_408.toInt ≤ 0 → v_174.toInt = 3 → v_177.toInt = 59 → zNf g_180) := ⟨(z_rgw hr_n_408 (by decide) (by decide)), hr_v_174, hr_v_175, hr_v_176, hr_v_177, hr_v_178, hC_g_180, hC_g_isOn, hs_271, (by omega), (by omega), (by omega), (fun _ _ _ => hs_272)⟩
              exact hret _ _ _ _ _ (n_408, n_409, v_174, v_175, v_176, v_177, v_178, v_179, n_9, g_180, g_isOn) [4, 1, 2, 3, 0] hP hD hS rfl (by decide) dX12_readKey_100 hpost
  exact hlp_278 _ 0 n_3 n_4 n_5 n_6 n_7 n_8 g_c _ _ _ (Nat.lt_succ_self _) (by decide +kernel) hr_n_3 hr_n_4 hr_n_5 hr_n_6 hr_n_7 hC_g_c hNW0 hNF0 (by omega) (by omega) (by omega) (by omega) (by omega) hP hD hS (lv_sub hl [2, 1, 0] rfl)
set_option maxHeartbeats 4000000 in
set_option maxRecDepth 100000 in
theorem r_readRing (l : Launch) (G : va_G) (cA : zCA) (h0 : Nat) (m_status : Int32) (m_thrown : Int32) (m_above : Int64) (m_under : Int64) (a_traySort : Nat) (a_trayMany : Nat) (a_numbers : Nat) (a_tape : Nat) (m_taped : Int32) (m_textEnd : Int32) (m_faultKind : Int32) (m_faultAt : Int32) (m_bad : Int32) (m_badAt : Int32) (m_token : Int32) (m_at : Int32) (m_behind : Int32) (m_number : Int32) (m_letters : Int32) (m_word : Int64) (a_c : Nat) (a_words : Nat) (m_markMany : Int32) (a_there : Nat) (a_tried : Nat) (a_best : Nat) (a_found : Nat) (m_thereMany : Int32) (m_foundMany : Int32) (m_orderHow : Int32) (m_orderRing : Int32) (m_orderMany : Int32) (m_hasBest : Int32) (m_bestTop : Int64) (m_bestBy : Int64) (a_weights : Nat) (a_shared : Nat) (m_random : Int32) (m_truePlace : Int32) (m_trueWay : Int32) (m_seconds : Int32) (m_done : Int32) (m_feelings : Int32) (m_tries : Int32) (m_leftOver : Int32) (m_playDoor : Int32) (m_playRing : Int32) (m_isOpen : Int32) (m_isOver : Int32) (m_wasTried : Int32) (m_hasPlayed : Int32) (a_feltNow : Nat) (a_last : Nat) (a_kept : Nat) (m_hasSeconds : Int32) (m_hasTurned : Int32) (m_hasRound : Int32) (a_hasFeels : Nat) (a_isOn : Nat) (m_firstAct : Int32) (m_meanTop : Int64) (m_meanBy : Int64) (a_order : Nat) (m_rowMany : Int32) (m_newSteps : Int32) (g_tape : Nat → Int32) (g_c : Nat → Int32) (g_words : Nat → Int64) (g_isOn : Nat → Int32) (hr_m_textEnd : 0 ≤ m_textEnd.toInt ∧ m_textEnd.toInt ≤ 900) (hr_m_at : 0 ≤ m_at.toInt ∧ m_at.toInt ≤ 900) (hr_m_behind : 0 ≤ m_behind.toInt ∧ m_behind.toInt ≤ 900) (hr_m_bad : 0 ≤ m_bad.toInt ∧ m_bad.toInt ≤ 0) (hr_m_token : 0 ≤ m_token.toInt ∧ m_token.toInt ≤ 4) (hr_m_number : 0 ≤ m_number.toInt ∧ m_number.toInt ≤ 9999) (hr_m_letters : 0 ≤ m_letters.toInt ∧ m_letters.toInt ≤ 900) (hC_g_c : zC g_c) (hC_g_isOn : zRg 10 0 1 g_isOn) (hNW0 : zNw g_c g_isOn) (hNF0 : zNf g_c) : zCv l yX12_readRing cX12_readRing 4 none ({ frames := 4, cells := 0, slots := 0, locals := 91 }) G cA [.ref h0] [(h0, .inr (12, [.int m_status, .int m_thrown, .long m_above, .long m_under, .ref a_traySort, .ref a_trayMany, .ref a_numbers, .ref a_tape, .int m_taped, .int m_textEnd, .int m_faultKind, .int m_faultAt, .int m_bad, .int m_badAt, .int m_token, .int m_at, .int m_behind, .int m_number, .int m_letters, .long m_word, .ref a_c, .ref a_words, .int m_markMany, .ref a_there, .ref a_tried, .ref a_best, .ref a_found, .int m_thereMany, .int m_foundMany, .int m_orderHow, .int m_orderRing, .int m_orderMany, .int m_hasBest, .long m_bestTop, .long m_bestBy, .ref a_weights, .ref a_shared, .int m_random, .int m_truePlace, .int m_trueWay, .int m_seconds, .int m_done, .int m_feelings, .int m_tries, .int m_leftOver, .int m_playDoor, .int m_playRing, .int m_isOpen, .int m_isOver, .int m_wasTried, .int m_hasPlayed, .ref a_feltNow, .ref a_last, .ref a_kept, .int m_hasSeconds, .int m_hasTurned, .int m_hasRound, .ref a_hasFeels, .ref a_isOn, .int m_firstAct, .long m_meanTop, .long m_meanBy, .ref a_order, .int m_rowMany, .int m_newSteps])), (a_tape, .inl (cA.1 2, 900, .inl g_tape)), (a_c, .inl (cA.1 0, 1825, .inl g_c)), (a_words, .inl (cA.1 1, 105, .inr (.inl g_words))), (a_isOn, .inl (cA.1 3, 10, .inl g_isOn))] (S := Int32 × Int32 × Int32 × Int32 × Int32 × Int32 × Int32 × Int64 × (Nat → Int64) × (Nat → Int32) × (Nat → Int32)) (fun (u : Int32 × Int32 × Int32 × Int32 × Int32 × Int32 × Int32 × Int64 × (Nat → Int64) × (Nat → Int32) × (Nat → Int32)) => (0 ≤ u.1.toInt ∧ u.1.toInt ≤ 9) ∧ (0 ≤ u.2.2.1.toInt ∧ u.2.2.1.toInt ≤ 4) ∧ (0 ≤ u.2.2.2.1.toInt ∧ u.2.2.2.1.toInt ≤ 900) ∧ (0 ≤ u.2.2.2.2.1.toInt ∧ u.2.2.2.2.1.toInt ≤ 900) ∧ (0 ≤ u.2.2.2.2.2.1.toInt ∧ u.2.2.2.2.2.1.toInt ≤ 9999) ∧ (0 ≤ u.2.2.2.2.2.2.1.toInt ∧ u.2.2.2.2.2.2.1.toInt ≤ 900) ∧ (zC u.2.2.2.2.2.2.2.2.2.1) ∧ (zRg 10 0 1 u.2.2.2.2.2.2.2.2.2.2) ∧ (zNw u.2.2.2.2.2.2.2.2.2.1 u.2.2.2.2.2.2.2.2.2.2) ∧ (m_behind.toInt ≤ u.2.2.2.2.1.toInt) ∧ (0 < m_bad.toInt → 0 < u.1.toInt) ∧ (u.1.toInt ≤ 0 → u.2.2.1.toInt = 0 ∨ m_behind.toInt < u.2.2.2.2.1.toInt) ∧ (u.1.toInt ≤ 0 → u.2.2.1.toInt = 3 → u.2.2.2.2.2.1.toInt = 59 → zNf u.2.2.2.2.2.2.2.2.2.1)) (fun (u : Int32 × Int32 × Int32 × Int32 × Int32 × Int32 × Int32 × Int64 × (Nat → Int64) × (Nat → Int32) × (Nat → Int32)) => [(h0, .inr (12, [.int m_status, .int m_thrown, .long m_above, .long m_under, .ref a_traySort, .ref a_trayMany, .ref a_numbers, .ref a_tape, .int m_taped, .int m_textEnd, .int m_faultKind, .int m_faultAt, .int u.1, .int u.2.1, .int u.2.2.1, .int u.2.2.2.1, .int u.2.2.2.2.1, .int u.2.2.2.2.2.1, .int u.2.2.2.2.2.2.1, .long u.2.2.2.2.2.2.2.1, .ref a_c, .ref a_words, .int m_markMany, .ref a_there, .ref a_tried, .ref a_best, .ref a_found, .int m_thereMany, .int m_foundMany, .int m_orderHow, .int m_orderRing, .int m_orderMany, .int m_hasBest, .long m_bestTop, .long m_bestBy, .ref a_weights, .ref a_shared, .int m_random, .int m_truePlace, .int m_trueWay, .int m_seconds, .int m_done, .int m_feelings, .int m_tries, .int m_leftOver, .int m_playDoor, .int m_playRing, .int m_isOpen, .int m_isOver, .int m_wasTried, .int m_hasPlayed, .ref a_feltNow, .ref a_last, .ref a_kept, .int m_hasSeconds, .int m_hasTurned, .int m_hasRound, .ref a_hasFeels, .ref a_isOn, .int m_firstAct, .long m_meanTop, .long m_meanBy, .ref a_order, .int m_rowMany, .int m_newSteps])), (a_tape, .inl (cA.1 2, 900, .inl g_tape)), (a_c, .inl (cA.1 0, 1825, .inl u.2.2.2.2.2.2.2.2.2.1)), (a_words, .inl (cA.1 1, 105, .inr (.inl u.2.2.2.2.2.2.2.2.1))), (a_isOn, .inl (cA.1 3, 10, .inl u.2.2.2.2.2.2.2.2.2.2))]) 0 0 := by
  have hk_0 : (0 : Int32).toInt = 0 := by decide +kernel
  have hk_1 : (1 : Int32).toInt = 1 := by decide +kernel
  have hk_2 : (2 : Int32).toInt = 2 := by decide +kernel
  have hk_3 : (3 : Int32).toInt = 3 := by decide +kernel
  have hk_5 : (5 : Int32).toInt = 5 := by decide +kernel
  have hk_10 : (10 : Int32).toInt = 10 := by decide +kernel
  have hk_13 : (13 : Int32).toInt = 13 := by decide +kernel
  have hk_1555 : (1555 : Int32).toInt = 1555 := by decide +kernel
  have hk_1558 : (1558 : Int32).toInt = 1558 := by decide +kernel
  refine z_start2v (own := RX12) (by decide) (Nat.le_of_ble_eq_true rfl) rfl ?_
  intro p e s m args below meth c A ls Q hx hb hml hts hown hK hE hT hP hD hS hA hl hret
  have hl : lv_has ls 4 [(0, .ref h0)] := hl
  refine lv_aload_n hx hb dX12_readRing_0 rfl (lv_at hl 0 rfl) ?_
  refine lv_iconst (v := 2) hx hb dX12_readRing_1 (by decide) ?_
  refine lv_iconst (v := 3) hx hb dX12_readRing_2 (by decide) ?_
  refine lv_bipush (v := 13) hx hb dX12_readRing_3 (by decide) ?_
  refine z_callVi (As := [.int 2, .int 3, .int 13]) (rest := []) (wr := [(a_isOn, .inl (cA.1 3, 10, .inl g_isOn))]) ⟨hx, hb, hml, hown, hts⟩ hK hE hT hP hD hS hA (r_readNew_2 l G cA h0 m_status m_thrown m_above m_under a_traySort a_trayMany a_numbers a_tape m_taped m_textEnd m_faultKind m_faultAt m_bad m_badAt m_token m_at m_behind m_number m_letters m_word a_c a_words m_markMany a_there a_tried a_best a_found m_thereMany m_foundMany m_orderHow m_orderRing m_orderMany m_hasBest m_bestTop m_bestBy a_weights a_shared m_random m_truePlace m_trueWay m_seconds m_done m_feelings m_tries m_leftOver m_playDoor m_playRing m_isOpen m_isOver m_wasTried m_hasPlayed a_feltNow a_last a_kept m_hasSeconds m_hasTurned m_hasRound a_hasFeels a_isOn m_firstAct m_meanTop m_meanBy a_order m_rowMany m_newSteps g_tape g_c g_words hr_m_textEnd hr_m_at hr_m_behind (z_rgw hr_m_bad (by decide) (by decide)) hr_m_token hr_m_number hr_m_letters hC_g_c) lk_RX12_207 ⟨rfl, rfl⟩ ⟨Nat.le_of_ble_eq_true rfl, Nat.le_of_ble_eq_true rfl⟩ 12 rfl rfl rfl [0, 1, 2, 3] [4] rfl rfl (by decide) rfl hl.1 rfl (lv_room (Nat.le_of_ble_eq_true rfl)) dX12_readRing_5 ⟨Nat.le_of_ble_eq_true rfl, Nat.le_of_ble_eq_true rfl⟩ (fun r_10 u_11 H locs hw hP hD hS => ?_)
  obtain ⟨n_1, n_2, n_3, n_4, n_5, n_6, n_7, n_8, n_9⟩ := u_11
  try dsimp only at hw
  obtain ⟨hr_r_10, hr_n_1, hr_n_3, hr_n_4, hr_n_5, hr_n_6, hr_n_7, hf_12, hf_13, hf_14, hf_15, hf_16⟩ := hw
  refine lv_istore_n (lv' := [(1, .int r_10), (0, .ref h0)]) hx hb dX12_readRing_8 rfl hl (by decide) rfl (fun ls hl => ?_)
  refine lv_iconst (v := 0) hx hb dX12_readRing_9 (by decide) ?_
  refine lv_istore_n (lv' := [(2, .int 0), (1, .int r_10), (0, .ref h0)]) hx hb dX12_readRing_10 rfl hl (by decide) rfl (fun ls hl => ?_)
  have hlp_194 : ∀ (n : Nat) (v_127 : Int32) (g_128 : Nat → Int32) (v_129 : Int32) (v_130 : Int32) (v_131 : Int32) (v_132 : Int32) (v_133 : Int32) (v_134 : Int32) (v_135 : Int32) (v_136 : Int64) (g_137 : Nat → Int32) (H : Heap) (locs : List Loc) (ls : Array Slot), (4600 - 5 * v_133.toInt + v_131.toInt - 5 * v_129.toInt).toNat < n → (0 ≤ v_127.toInt ∧ v_127.toInt ≤ 10) → (zRg 10 0 1 g_128) → (0 ≤ v_129.toInt ∧ v_129.toInt ≤ 9) → (0 ≤ v_131.toInt ∧ v_131.toInt ≤ 4) → (0 ≤ v_132.toInt ∧ v_132.toInt ≤ 900) → (0 ≤ v_133.toInt ∧ v_133.toInt ≤ 900) → (0 ≤ v_134.toInt ∧ v_134.toInt ≤ 9999) → (0 ≤ v_135.toInt ∧ v_135.toInt ≤ 900) → (zC g_137) → (zNw g_137 g_128) → (zNf g_137) → (zRr g_137 g_128 r_10.toInt v_127.toInt) → (v_129.toInt ≤ 0 → (g_137 1462).toInt = r_10.toInt) → (m_behind.toInt ≤ v_133.toInt) → (v_129.toInt ≤ 0 → v_131.toInt = 0 ∨ m_behind.toInt < v_133.toInt) → va_P G vwCl [(a_isOn, .inl (cA.1 3, 10, .inl g_128)), (h0, .inr (12, [.int m_status, .int m_thrown, .long m_above, .long m_under, .ref a_traySort, .ref a_trayMany, .ref a_numbers, .ref a_tape, .int m_taped, .int m_textEnd, .int m_faultKind, .int m_faultAt, .int v_129, .int v_130, .int v_131, .int v_132, .int v_133, .int v_134, .int v_135, .long v_136, .ref a_c, .ref a_words, .int m_markMany, .ref a_there, .ref a_tried, .ref a_best, .ref a_found, .int m_thereMany, .int m_foundMany, .int m_orderHow, .int m_orderRing, .int m_orderMany, .int m_hasBest, .long m_bestTop, .long m_bestBy, .ref a_weights, .ref a_shared, .int m_random, .int m_truePlace, .int m_trueWay, .int m_seconds, .int m_done, .int m_feelings, .int m_tries, .int m_leftOver, .int m_playDoor, .int m_playRing, .int m_isOpen, .int m_isOver, .int m_wasTried, .int m_hasPlayed, .ref a_feltNow, .ref a_last, .ref a_kept, .int m_hasSeconds, .int m_hasTurned, .int m_hasRound, .ref a_hasFeels, .ref a_isOn, .int m_firstAct, .long m_meanTop, .long m_meanBy, .ref a_order, .int m_rowMany, .int m_newSteps])), (a_tape, .inl (cA.1 2, 900, .inl g_tape)), (a_c, .inl (cA.1 0, 1825, .inl g_137)), (a_words, .inl (cA.1 1, 105, .inr (.inl n_9)))] H → va_D A [(a_isOn, .inl (cA.1 3, 10, .inl g_128)), (h0, .inr (12, [.int m_status, .int m_thrown, .long m_above, .long m_under, .ref a_traySort, .ref a_trayMany, .ref a_numbers, .ref a_tape, .int m_taped, .int m_textEnd, .int m_faultKind, .int m_faultAt, .int v_129, .int v_130, .int v_131, .int v_132, .int v_133, .int v_134, .int v_135, .long v_136, .ref a_c, .ref a_words, .int m_markMany, .ref a_there, .ref a_tried, .ref a_best, .ref a_found, .int m_thereMany, .int m_foundMany, .int m_orderHow, .int m_orderRing, .int m_orderMany, .int m_hasBest, .long m_bestTop, .long m_bestBy, .ref a_weights, .ref a_shared, .int m_random, .int m_truePlace, .int m_trueWay, .int m_seconds, .int m_done, .int m_feelings, .int m_tries, .int m_leftOver, .int m_playDoor, .int m_playRing, .int m_isOpen, .int m_isOver, .int m_wasTried, .int m_hasPlayed, .ref a_feltNow, .ref a_last, .ref a_kept, .int m_hasSeconds, .int m_hasTurned, .int m_hasRound, .ref a_hasFeels, .ref a_isOn, .int m_firstAct, .long m_meanTop, .long m_meanBy, .ref a_order, .int m_rowMany, .int m_newSteps])), (a_tape, .inl (cA.1 2, 900, .inl g_tape)), (a_c, .inl (cA.1 0, 1825, .inl g_137)), (a_words, .inl (cA.1 1, 105, .inr (.inl n_9)))] → va_S A s.heap H locs → lv_has ls 4 [(0, .ref h0), (1, .int r_10), (2, .int v_127)] → W p l e ({ frames := 4, cells := 0, slots := 0, locals := 91 }) s m args below meth c H locs 0 0 Q (F0 m 11 ls []) := by
    intro n
    induction n with
    | zero =>
      intro v_127 g_128 v_129 v_130 v_131 v_132 v_133 v_134 v_135 v_136 g_137 H locs ls hmu_hlp_194 hr_v_127 hC_g_128 hr_v_129 hr_v_131 hr_v_132 hr_v_133 hr_v_134 hr_v_135 hC_g_137 hs_188 hs_189 hi_190 hi_191 hi_192 hi_193 hP hD hS hl
      exact absurd hmu_hlp_194 (Nat.not_lt_zero _)
    | succ n ih_195 =>
      intro v_127 g_128 v_129 v_130 v_131 v_132 v_133 v_134 v_135 v_136 g_137 H locs ls hmu_hlp_194 hr_v_127 hC_g_128 hr_v_129 hr_v_131 hr_v_132 hr_v_133 hr_v_134 hr_v_135 hC_g_137 hs_188 hs_189 hi_190 hi_191 hi_192 hi_193 hP hD hS hl
      refine lv_aload_n hx hb dX12_readRing_11 rfl (lv_at hl 0 rfl) ?_
      refine va_get (D := G) (ci := 12) (v := .int v_129) (C := RX12) (T := TX12) (N := 65) hx hb hts inT12 hown hK hP 1 rfl rfl 12 (by decide) (hts _ tw_1897) (fun _ h9 => h9) rfl dX12_readRing_12 ?_
      refine lv_if_ne (tgt := 99) hx hb dX12_readRing_15 (by decide) (fun c_196 => ?_) (fun c_196 => ?_)
      · have b_197 := z_fneT c_196
        refine lv_aload_n hx hb dX12_readRing_99 rfl (lv_at hl 0 rfl) ?_
        refine va_get (D := G) (ci := 12) (v := .int v_129) (C := RX12) (T := TX12) (N := 65) hx hb hts inT12 hown hK hP 1 rfl rfl 12 (by decide) (hts _ tw_1897) (fun _ h9 => h9) rfl dX12_readRing_100 ?_
        refine lv_if_le (tgt := 107) hx hb dX12_readRing_103 (by decide) (fun h9 => (z_no (by have h8 := z_fleT h9; omega))) (fun c_198 => ?_)
        have b_199 := z_fgtF c_198
        have hpost : (0 ≤ v_129.toInt ∧ v_129.toInt ≤ 9) ∧ (0 ≤ v_131.toInt ∧ v_131.toInt ≤ 4) ∧ (0 ≤ v_132.toInt ∧ v_132.toInt ≤ 900) ∧ (0 ≤ v_133.toInt ∧ v_133.toInt ≤ 900) ∧ (0 ≤ v_134.toInt ∧ v_134.toInt ≤ 9999) ∧ (0 ≤ v_135.toInt ∧ v_135.toInt ≤ 900) ∧ (zC g_137) ∧ (zRg 10 0 1 g_128) ∧ (zNw g_137 g_128) ∧ (m_behind.toInt ≤ v_133.toInt) ∧ (0 < m_bad.toInt → 0 < v_129.toInt) ∧ (v_129.toInt ≤ 0 → v_131.toInt = 0 ∨ m_behind.toInt < v_133.toInt) ∧ (v_129.toInt ≤ 0 → v_131.toInt = 3 → v_134.toInt = 59 → zNf g_137) := ⟨hr_v_129, hr_v_131, hr_v_132, hr_v_133, hr_v_134, hr_v_135, hC_g_137, hC_g_128, hs_188, (by omega), (by omega), (by omega), (fun _ _ _ => hs_189)⟩
        exact hret _ _ _ _ _ (v_129, v_130, v_131, v_132, v_133, v_134, v_135, v_136, n_9, g_137, g_128) [1, 2, 3, 4, 0] hP hD hS rfl (by decide) dX12_readRing_106 hpost
      · have b_200 := z_feqF c_196
        refine lv_aload_n hx hb dX12_readRing_18 rfl (lv_at hl 0 rfl) ?_
        refine va_get (D := G) (ci := 12) (v := .int v_131) (C := RX12) (T := TX12) (N := 65) hx hb hts inT12 hown hK hP 1 rfl rfl 14 (by decide) (hts _ tw_1899) (fun _ h9 => h9) rfl dX12_readRing_19 ?_
        refine lv_iconst (v := 1) hx hb dX12_readRing_22 (by decide) ?_
        refine lv_icmp_ne (tgt := 99) hx hb dX12_readRing_23 (by decide) (fun c_201 => ?_) (fun c_201 => ?_)
        · have b_202 := z_fneT c_201
          refine lv_aload_n hx hb dX12_readRing_99 rfl (lv_at hl 0 rfl) ?_
          refine va_get (D := G) (ci := 12) (v := .int v_129) (C := RX12) (T := TX12) (N := 65) hx hb hts inT12 hown hK hP 1 rfl rfl 12 (by decide) (hts _ tw_1897) (fun _ h9 => h9) rfl dX12_readRing_100 ?_
          refine lv_if_le (tgt := 107) hx hb dX12_readRing_103 (by decide) (fun c_203 => ?_) (fun h9 => (z_no (by have h8 := z_fgtF h9; omega)))
          have b_204 := z_fleT c_203
          refine lv_aload_n hx hb dX12_readRing_107 rfl (lv_at hl 0 rfl) ?_
          refine va_get (D := G) (ci := 12) (v := .ref a_c) (C := RX12) (T := TX12) (N := 65) hx hb hts inT12 hown hK hP 1 rfl rfl 20 (by decide) (hts _ tw_1905) (fun _ h9 => h9) rfl dX12_readRing_108 ?_
          refine lv_sipush (v := 1555) hx hb dX12_readRing_111 (by decide) ?_
          refine lv_iload_n hx hb dX12_readRing_114 rfl (lv_at hl 1 rfl) ?_
          refine lv_iadd hx hb dX12_readRing_115 ?_
          refine lv_topi (fun x_205 he_x_205 => ?_)
          have hq_x_205 := z_addq he_x_205 hk_1555 (rfl : r_10.toInt = _) (by omega) (by omega)
          refine lv_iload_n hx hb dX12_readRing_116 rfl (lv_at hl 2 rfl) ?_
          refine z_iast hx hb hK hP hD hS 3 0 rfl rfl (z_inN (by omega) (by omega)) dX12_readRing_117 (fun g_206 hg_g_206 H locs hP hD hS => ?_)
          have hC_g_206 := z_ctU hC_g_137 hg_g_206 (a := 1555) (b := 1557) (lo := 0) (hi := 10) (by decide +kernel) (by decide +kernel) (by omega) (by omega) (by omega)
          have hw_g_206_1461 := z_cwo hg_g_206 (k := 1461) (by omega) (by omega)
          have hw_g_206_1462 := z_cwo hg_g_206 (k := 1462) (by omega) (by omega)
          have hs_207 : zNw g_206 g_128 := (zNw_sz hs_188 hg_g_206 (by omega) (by omega) (by omega))
          have hs_208 : zNf g_206 := (zNf_fr hs_189 hg_g_206 (a := 1555) (b := 1557) (by decide +kernel) (by omega) (by omega))
          refine lv_aload_n hx hb dX12_readRing_118 rfl (lv_at hl 0 rfl) ?_
          refine va_get (D := G) (ci := 12) (v := .ref a_c) (C := RX12) (T := TX12) (N := 65) hx hb hts inT12 hown hK hP 1 rfl rfl 20 (by decide) (hts _ tw_1905) (fun _ h9 => h9) rfl dX12_readRing_119 ?_
          refine lv_sipush (v := 1462) hx hb dX12_readRing_122 (by decide) ?_
          refine lv_dup2_11 hx hb dX12_readRing_125 rfl rfl ?_
          refine va_iald hx hb hK hP 3 0 rfl rfl (z_in (i := 1462) (n := 1825) (by decide +kernel) (by decide +kernel)) dX12_readRing_126 ?_
          refine lv_topi (fun x_209 he_x_209 => ?_)
          have hr_x_209 := z_ctk hC_g_206 he_x_209 (k := 1462) (lo := 0) (hi := 3) (by decide +kernel) (by decide +kernel) (by decide +kernel)
          have hv_x_209 := z_cv he_x_209 (k := 1462) (by decide +kernel)
          refine lv_iconst (v := 1) hx hb dX12_readRing_127 (by decide) ?_
          refine lv_iadd hx hb dX12_readRing_128 ?_
          refine lv_topi (fun x_210 he_x_210 => ?_)
          have hq_x_210 := z_addq he_x_210 (rfl : x_209.toInt = _) hk_1 (by omega) (by omega)
          refine z_iast hx hb hK hP hD hS 3 0 rfl rfl (z_in (i := 1462) (n := 1825) (by decide +kernel) (by decide +kernel)) dX12_readRing_129 (fun g_211 hg_g_211 H locs hP hD hS => ?_)
          have hC_g_211 := z_ctUk hC_g_206 hg_g_211 (k := 1462) (lo := 0) (hi := 3) (by decide +kernel) (by decide +kernel) (by decide +kernel) (by omega)
          have hw_g_211_1461 := z_cwo hg_g_211 (k := 1461) (by decide +kernel) (by decide +kernel)
          have hw_g_211_1462 := z_cwk hg_g_211 (k := 1462) (by decide +kernel)
          have hs_212 : zNw g_211 g_128 := (zNw_ri hs_188 hg_g_206 (by omega) rfl hg_g_211 (by decide +kernel) (by omega) (by omega) (by omega) (k := r_10.toInt) (by omega) hi_190)
          have hs_213 : zNf g_211 := (zNf_fr hs_208 hg_g_211 (a := 1462) (b := 1462) (by decide +kernel) (by decide +kernel) (by decide +kernel))
          have hpost : (0 ≤ v_129.toInt ∧ v_129.toInt ≤ 9) ∧ (0 ≤ v_131.toInt ∧ v_131.toInt ≤ 4) ∧ (0 ≤ v_132.toInt ∧ v_132.toInt ≤ 900) ∧ (0 ≤ v_133.toInt ∧ v_133.toInt ≤ 900) ∧ (0 ≤ v_134.toInt ∧ v_134.toInt ≤ 9999) ∧ (0 ≤ v_135.toInt ∧ v_135.toInt ≤ 900) ∧ (zC g_211) ∧ (zRg 10 0 1 g_128) ∧ (zNw g_211 g_128) ∧ (m_behind.toInt ≤ v_133.toInt) ∧ (0 < m_bad.toInt → 0 < v_129.toInt) ∧ (v_129.toInt ≤ 0 → v_131.toInt = 0 ∨ m_behind.toInt < v_133.toInt) ∧ (v_129.toInt ≤ 0 → v_131.toInt = 3 → v_134.toInt = 59 → zNf g_211) := ⟨hr_v_129, hr_v_131, hr_v_132, hr_v_133, hr_v_134, hr_v_135, hC_g_211, hC_g_128, hs_212, (by omega), (by omega), (by omega), (fun _ _ _ => hs_213)⟩
          exact hret _ _ _ _ _ (v_129, v_130, v_131, v_132, v_133, v_134, v_135, v_136, n_9, g_211, g_128) [1, 2, 3, 4, 0] hP hD hS rfl (by decide) dX12_readRing_130 hpost
        · have b_214 := z_feqF c_201
          refine lv_aload_n hx hb dX12_readRing_26 rfl (lv_at hl 0 rfl) ?_
          refine lv_iconst (v := 1) hx hb dX12_readRing_27 (by decide) ?_
          refine lv_iconst (v := 3) hx hb dX12_readRing_28 (by decide) ?_
          refine z_callVi (As := [.int 1, .int 3]) (rest := []) (wr := [(a_isOn, .inl (cA.1 3, 10, .inl g_128)), (a_tape, .inl (cA.1 2, 900, .inl g_tape))]) ⟨hx, hb, hml, hown, hts⟩ hK hE hT hP hD hS hA (r_readOld_1 l G cA h0 m_status m_thrown m_above m_under a_traySort a_trayMany a_numbers a_tape m_taped m_textEnd m_faultKind m_faultAt v_129 v_130 v_131 v_132 v_133 v_134 v_135 v_136 a_c a_words m_markMany a_there a_tried a_best a_found m_thereMany m_foundMany m_orderHow m_orderRing m_orderMany m_hasBest m_bestTop m_bestBy a_weights a_shared m_random m_truePlace m_trueWay m_seconds m_done m_feelings m_tries m_leftOver m_playDoor m_playRing m_isOpen m_isOver m_wasTried m_hasPlayed a_feltNow a_last a_kept m_hasSeconds m_hasTurned m_hasRound a_hasFeels a_isOn m_firstAct m_meanTop m_meanBy a_order m_rowMany m_newSteps g_137 n_9 hr_v_132 hr_v_129 hr_v_131 hr_v_135 hC_g_137) lk_RX12_217 ⟨rfl, rfl⟩ ⟨Nat.le_of_ble_eq_true rfl, Nat.le_of_ble_eq_true rfl⟩ 12 rfl rfl rfl [1, 3, 4] [0, 2] rfl rfl (by decide) rfl hl.1 rfl (lv_room (Nat.le_of_ble_eq_true rfl)) dX12_readRing_29 ⟨Nat.le_of_ble_eq_true rfl, Nat.le_of_ble_eq_true rfl⟩ (fun r_217 u_218 H locs hw hP hD hS => ?_)
          obtain ⟨n_215, n_216⟩ := u_218
          try dsimp only at hw
          obtain ⟨hr_r_217, hr_n_215, hf_219, hf_220, hf_221⟩ := hw
          refine lv_istore_n (lv' := [(3, .int r_217), (0, .ref h0), (1, .int r_10), (2, .int v_127)]) hx hb dX12_readRing_32 rfl hl (by decide) rfl (fun ls hl => ?_)
          refine lv_aload_n hx hb dX12_readRing_33 rfl (lv_at hl 1 rfl) ?_
          refine va_get (D := G) (ci := 12) (v := .int n_215) (C := RX12) (T := TX12) (N := 65) hx hb hts inT12 hown hK hP 2 rfl rfl 12 (by decide) (hts _ tw_1897) (fun _ h9 => h9) rfl dX12_readRing_34 ?_
          refine lv_if_ne (tgt := 58) hx hb dX12_readRing_37 (by decide) (fun c_222 => ?_) (fun c_222 => ?_)
          · have b_223 := z_fneT c_222
            refine lv_aload_n hx hb dX12_readRing_58 rfl (lv_at hl 1 rfl) ?_
            refine va_get (D := G) (ci := 12) (v := .int n_215) (C := RX12) (T := TX12) (N := 65) hx hb hts inT12 hown hK hP 2 rfl rfl 12 (by decide) (hts _ tw_1897) (fun _ h9 => h9) rfl dX12_readRing_59 ?_
            refine lv_if_le (tgt := 66) hx hb dX12_readRing_62 (by decide) (fun h9 => (z_no (by have h8 := z_fleT h9; omega))) (fun c_224 => ?_)
            have b_225 := z_fgtF c_224
            have hpost : (0 ≤ n_215.toInt ∧ n_215.toInt ≤ 9) ∧ (0 ≤ v_131.toInt ∧ v_131.toInt ≤ 4) ∧ (0 ≤ v_132.toInt ∧ v_132.toInt ≤ 900) ∧ (0 ≤ v_133.toInt ∧ v_133.toInt ≤ 900) ∧ (0 ≤ v_134.toInt ∧ v_134.toInt ≤ 9999) ∧ (0 ≤ v_135.toInt ∧ v_135.toInt ≤ 900) ∧ (zC g_137) ∧ (zRg 10 0 1 g_128) ∧ (zNw g_137 g_128) ∧ (m_behind.toInt ≤ v_133.toInt) ∧ (0 < m_bad.toInt → 0 < n_215.toInt) ∧ (n_215.toInt ≤ 0 → v_131.toInt = 0 ∨ m_behind.toInt < v_133.toInt) ∧ (n_215.toInt ≤ 0 → v_131.toInt = 3 → v_134.toInt = 59 → zNf g_137) := ⟨hr_n_215, hr_v_131, hr_v_132, hr_v_133, hr_v_134, hr_v_135, hC_g_137, hC_g_128, hs_188, (by omega), (by omega), (by omega), (fun _ _ _ => hs_189)⟩
            exact hret _ _ _ _ _ (n_215, n_216, v_131, v_132, v_133, v_134, v_135, v_136, n_9, g_137, g_128) [2, 1, 3, 4, 0] hP hD hS rfl (by decide) dX12_readRing_65 hpost
          · have b_226 := z_feqF c_222
            refine lv_aload_n hx hb dX12_readRing_40 rfl (lv_at hl 1 rfl) ?_
            refine va_get (D := G) (ci := 12) (v := .ref a_isOn) (C := RX12) (T := TX12) (N := 65) hx hb hts inT12 hown hK hP 2 rfl rfl 58 (by decide) (hts _ tw_1941) (fun _ h9 => h9) rfl dX12_readRing_41 ?_
            refine lv_iload_n hx hb dX12_readRing_44 rfl (lv_at hl 0 rfl) ?_
            refine va_zald hx hb hK hP 0 3 rfl rfl (z_inN (by omega) (by omega)) dX12_readRing_45 ?_
            refine lv_topi (fun x_227 he_x_227 => ?_)
            have hr_x_227 := z_rg hC_g_128 he_x_227 (by omega) (by omega)
            refine lv_if_eq (tgt := 58) hx hb dX12_readRing_46 (by decide) (fun c_228 => ?_) (fun c_228 => ?_)
            · have b_229 := z_feqT c_228
              refine lv_aload_n hx hb dX12_readRing_58 rfl (lv_at hl 1 rfl) ?_
              refine va_get (D := G) (ci := 12) (v := .int n_215) (C := RX12) (T := TX12) (N := 65) hx hb hts inT12 hown hK hP 2 rfl rfl 12 (by decide) (hts _ tw_1897) (fun _ h9 => h9) rfl dX12_readRing_59 ?_
              refine lv_if_le (tgt := 66) hx hb dX12_readRing_62 (by decide) (fun c_230 => ?_) (fun h9 => (z_no (by have h8 := z_fgtF h9; omega)))
              have b_231 := z_fleT c_230
              have hn9 := zRr_room hi_190 hC_g_137.1 he_x_227 (by omega) (by omega) (by omega) (by omega)
              refine lv_aload_n hx hb dX12_readRing_66 rfl (lv_at hl 1 rfl) ?_
              refine va_get (D := G) (ci := 12) (v := .ref a_isOn) (C := RX12) (T := TX12) (N := 65) hx hb hts inT12 hown hK hP 2 rfl rfl 58 (by decide) (hts _ tw_1941) (fun _ h9 => h9) rfl dX12_readRing_67 ?_
              refine lv_iload_n hx hb dX12_readRing_70 rfl (lv_at hl 0 rfl) ?_
              refine lv_iconst (v := 1) hx hb dX12_readRing_71 (by decide) ?_
              refine z_zast hx hb hK hP hD hS 0 3 rfl rfl (z_inN (by omega) (by omega)) dX12_readRing_72 (fun g_232 hg_g_232 H locs hP hD hS => ?_)
              have hC_g_232 := z_rgZ hC_g_128 hg_g_232 (Or.inr rfl)
              have hs_233 : zNw g_137 g_232 := (zNw_on1 hs_188 hg_g_232)
              refine lv_aload_n hx hb dX12_readRing_73 rfl (lv_at hl 1 rfl) ?_
              refine va_get (D := G) (ci := 12) (v := .ref a_c) (C := RX12) (T := TX12) (N := 65) hx hb hts inT12 hown hK hP 2 rfl rfl 20 (by decide) (hts _ tw_1905) (fun _ h9 => h9) rfl dX12_readRing_74 ?_
              refine lv_sipush (v := 1558) hx hb dX12_readRing_77 (by decide) ?_
              refine lv_bipush (v := 10) hx hb dX12_readRing_80 (by decide) ?_
              refine lv_iload_n hx hb dX12_readRing_82 rfl (lv_at hl 2 rfl) ?_
              refine lv_imul hx hb dX12_readRing_83 ?_
              refine lv_topi (fun x_234 he_x_234 => ?_)
              have hq_x_234 := z_mulq he_x_234 hk_10 (rfl : r_10.toInt = _) (by omega) (by omega)
              refine lv_iadd hx hb dX12_readRing_84 ?_
              refine lv_topi (fun x_235 he_x_235 => ?_)
              have hq_x_235 := z_addq he_x_235 hk_1558 (rfl : x_234.toInt = _) (by omega) (by omega)
              refine lv_iload_n hx hb dX12_readRing_85 rfl (lv_at hl 3 rfl) ?_
              refine lv_iadd hx hb dX12_readRing_86 ?_
              refine lv_topi (fun x_236 he_x_236 => ?_)
              have hq_x_236 := z_addq he_x_236 (rfl : x_235.toInt = _) (rfl : v_127.toInt = _) (by omega) (by omega)
              refine lv_iload_n hx hb dX12_readRing_87 rfl (lv_at hl 0 rfl) ?_
              refine z_iast hx hb hK hP hD hS 3 0 rfl rfl (z_inN (by omega) (by omega)) dX12_readRing_88 (fun g_237 hg_g_237 H locs hP hD hS => ?_)
              have hC_g_237 := z_ctU hC_g_137 hg_g_237 (a := 1558) (b := 1587) (lo := 0) (hi := 9) (by decide +kernel) (by decide +kernel) (by omega) (by omega) (by omega)
              have hw_g_237_1461 := z_cwo hg_g_237 (k := 1461) (by omega) (by omega)
              have hw_g_237_1462 := z_cwo hg_g_237 (k := 1462) (by omega) (by omega)
              have hs_238 : zNw g_237 g_232 := (zNw_w hs_233 hg_g_237 (n := v_127.toInt) (by omega) (by omega) (by omega) (by omega) (by omega))
              have hs_239 : zNf g_237 := (zNf_fr hs_189 hg_g_237 (a := 1558) (b := 1587) (by decide +kernel) (by omega) (by omega))
              obtain ⟨x_240, he_x_240⟩ : ∃ z : Int32, z = v_127 + 1 := ⟨_, rfl⟩
              have hq_x_240 := z_addq he_x_240 (rfl : v_127.toInt = _) hk_1 (by omega) (by omega)
              refine lv_iinc (v := x_240) (lv' := [(2, .int x_240), (3, .int r_217), (0, .ref h0), (1, .int r_10)]) hx hb dX12_readRing_89 hl (k := 3) rfl ((z_ofi (by decide +kernel)).trans he_x_240.symm) (by decide) rfl (fun ls hl => ?_)
              refine lv_aload_n hx hb dX12_readRing_92 rfl (lv_at hl 2 rfl) ?_
              refine z_callVv (As := []) (rest := []) (wr := [(a_isOn, .inl (cA.1 3, 10, .inl g_232)), (a_c, .inl (cA.1 0, 1825, .inl g_237)), (a_words, .inl (cA.1 1, 105, .inr (.inl n_9)))]) ⟨hx, hb, hml, hown, hts⟩ hK hE hT hP hD hS hA (r_next2 l G cA h0 m_status m_thrown m_above m_under a_traySort a_trayMany a_numbers a_tape m_taped m_textEnd m_faultKind m_faultAt n_215 n_216 v_131 v_132 v_133 v_134 v_135 v_136 a_c a_words m_markMany a_there a_tried a_best a_found m_thereMany m_foundMany m_orderHow m_orderRing m_orderMany m_hasBest m_bestTop m_bestBy a_weights a_shared m_random m_truePlace m_trueWay m_seconds m_done m_feelings m_tries m_leftOver m_playDoor m_playRing m_isOpen m_isOver m_wasTried m_hasPlayed a_feltNow a_last a_kept m_hasSeconds m_hasTurned m_hasRound a_hasFeels a_isOn m_firstAct m_meanTop m_meanBy a_order m_rowMany m_newSteps g_tape hr_m_textEnd hr_v_132 hr_v_133 hr_v_131 hr_v_134 hr_v_135) lk_RX12_184 ⟨rfl, rfl⟩ ⟨Nat.le_of_ble_eq_true rfl, Nat.le_of_ble_eq_true rfl⟩ 12 rfl rfl rfl [2, 1] [0, 3, 4] rfl rfl (by decide) rfl hl.1 rfl (lv_room (Nat.le_of_ble_eq_true rfl)) dX12_readRing_93 ⟨Nat.le_of_ble_eq_true rfl, Nat.le_of_ble_eq_true rfl⟩ (fun u_248 H locs hw hP hD hS => ?_)
              obtain ⟨n_241, n_242, n_243, n_244, n_245, n_246⟩ := u_248
              try dsimp only at hw
              obtain ⟨hr_n_241, hr_n_242, hr_n_243, hr_n_244, hr_n_245, hf_249, hf_250⟩ := hw
              refine lv_goto (tgt := 11) hx hb dX12_readRing_96 (by decide) ?_
              have hP := hP.sub (ws' := [(a_isOn, .inl (cA.1 3, 10, .inl g_232)), (h0, .inr (12, [.int m_status, .int m_thrown, .long m_above, .long m_under, .ref a_traySort, .ref a_trayMany, .ref a_numbers, .ref a_tape, .int m_taped, .int m_textEnd, .int m_faultKind, .int m_faultAt, .int n_215, .int n_216, .int n_241, .int n_242, .int n_243, .int n_244, .int n_245, .long n_246, .ref a_c, .ref a_words, .int m_markMany, .ref a_there, .ref a_tried, .ref a_best, .ref a_found, .int m_thereMany, .int m_foundMany, .int m_orderHow, .int m_orderRing, .int m_orderMany, .int m_hasBest, .long m_bestTop, .long m_bestBy, .ref a_weights, .ref a_shared, .int m_random, .int m_truePlace, .int m_trueWay, .int m_seconds, .int m_done, .int m_feelings, .int m_tries, .int m_leftOver, .int m_playDoor, .int m_playRing, .int m_isOpen, .int m_isOver, .int m_wasTried, .int m_hasPlayed, .ref a_feltNow, .ref a_last, .ref a_kept, .int m_hasSeconds, .int m_hasTurned, .int m_hasRound, .ref a_hasFeels, .ref a_isOn, .int m_firstAct, .long m_meanTop, .long m_meanBy, .ref a_order, .int m_rowMany, .int m_newSteps])), (a_tape, .inl (cA.1 2, 900, .inl g_tape)), (a_c, .inl (cA.1 0, 1825, .inl g_237)), (a_words, .inl (cA.1 1, 105, .inr (.inl n_9)))]) [0, 3, 4, 1, 2] rfl
              have hD := hD.sub (ws' := [(a_isOn, .inl (cA.1 3, 10, .inl g_232)), (h0, .inr (12, [.int m_status, .int m_thrown, .long m_above, .long m_under, .ref a_traySort, .ref a_trayMany, .ref a_numbers, .ref a_tape, .int m_taped, .int m_textEnd, .int m_faultKind, .int m_faultAt, .int n_215, .int n_216, .int n_241, .int n_242, .int n_243, .int n_244, .int n_245, .long n_246, .ref a_c, .ref a_words, .int m_markMany, .ref a_there, .ref a_tried, .ref a_best, .ref a_found, .int m_thereMany, .int m_foundMany, .int m_orderHow, .int m_orderRing, .int m_orderMany, .int m_hasBest, .long m_bestTop, .long m_bestBy, .ref a_weights, .ref a_shared, .int m_random, .int m_truePlace, .int m_trueWay, .int m_seconds, .int m_done, .int m_feelings, .int m_tries, .int m_leftOver, .int m_playDoor, .int m_playRing, .int m_isOpen, .int m_isOver, .int m_wasTried, .int m_hasPlayed, .ref a_feltNow, .ref a_last, .ref a_kept, .int m_hasSeconds, .int m_hasTurned, .int m_hasRound, .ref a_hasFeels, .ref a_isOn, .int m_firstAct, .long m_meanTop, .long m_meanBy, .ref a_order, .int m_rowMany, .int m_newSteps])), (a_tape, .inl (cA.1 2, 900, .inl g_tape)), (a_c, .inl (cA.1 0, 1825, .inl g_237)), (a_words, .inl (cA.1 1, 105, .inr (.inl n_9)))]) [0, 3, 4, 1, 2] (by decide) rfl
              exact ih_195 x_240 g_232 n_215 n_216 n_241 n_242 n_243 n_244 n_245 n_246 g_237 H locs ls (by omega) (by omega) hC_g_232 hr_n_215 hr_n_241 hr_n_242 hr_n_243 hr_n_244 hr_n_245 hC_g_237 hs_238 hs_239 (by rw [hq_x_240]; exact zRr_step hi_190 he_x_227 (by omega) (by omega) (by omega) hg_g_232 hg_g_237 (by omega) (by omega) (by omega)) (by omega) (by omega) (by omega) hP hD hS (lv_sub hl [2, 3, 0] rfl)
            · have b_251 := z_fneF c_228
              refine lv_aload_n hx hb dX12_readRing_49 rfl (lv_at hl 1 rfl) ?_
              refine lv_iconst (v := 5) hx hb dX12_readRing_50 (by decide) ?_
              refine lv_aload_n hx hb dX12_readRing_51 rfl (lv_at hl 1 rfl) ?_
              refine va_get (D := G) (ci := 12) (v := .int v_132) (C := RX12) (T := TX12) (N := 65) hx hb hts inT12 hown hK hP 2 rfl rfl 15 (by decide) (hts _ tw_1900) (fun _ h9 => h9) rfl dX12_readRing_52 ?_
              refine z_callVv (As := [.int 5, .int v_132]) (rest := []) (wr := [(a_isOn, .inl (cA.1 3, 10, .inl g_128)), (a_tape, .inl (cA.1 2, 900, .inl g_tape)), (a_c, .inl (cA.1 0, 1825, .inl g_137)), (a_words, .inl (cA.1 1, 105, .inr (.inl n_9)))]) ⟨hx, hb, hml, hown, hts⟩ hK hE hT hP hD hS hA (r_fail l G cA h0 m_status m_thrown m_above m_under a_traySort a_trayMany a_numbers a_tape m_taped m_textEnd m_faultKind m_faultAt n_215 n_216 v_131 v_132 v_133 v_134 v_135 v_136 a_c a_words m_markMany a_there a_tried a_best a_found m_thereMany m_foundMany m_orderHow m_orderRing m_orderMany m_hasBest m_bestTop m_bestBy a_weights a_shared m_random m_truePlace m_trueWay m_seconds m_done m_feelings m_tries m_leftOver m_playDoor m_playRing m_isOpen m_isOver m_wasTried m_hasPlayed a_feltNow a_last a_kept m_hasSeconds m_hasTurned m_hasRound a_hasFeels a_isOn m_firstAct m_meanTop m_meanBy a_order m_rowMany m_newSteps 5 v_132 (by decide +kernel) hr_n_215) lk_RX12_180 ⟨rfl, rfl⟩ ⟨Nat.le_of_ble_eq_true rfl, Nat.le_of_ble_eq_true rfl⟩ 12 rfl rfl rfl [2] [0, 1, 3, 4] rfl rfl (by decide) rfl hl.1 rfl (lv_room (Nat.le_of_ble_eq_true rfl)) dX12_readRing_55 ⟨Nat.le_of_ble_eq_true rfl, Nat.le_of_ble_eq_true rfl⟩ (fun u_255 H locs hw hP hD hS => ?_)
              obtain ⟨n_252, n_253⟩ := u_255
              try dsimp only at hw
              obtain ⟨hr_n_252, hf_256⟩ := hw
              refine lv_aload_n hx hb dX12_readRing_58 rfl (lv_at hl 1 rfl) ?_
              refine va_get (D := G) (ci := 12) (v := .int n_252) (C := RX12) (T := TX12) (N := 65) hx hb hts inT12 hown hK hP 4 rfl rfl 12 (by decide) (hts _ tw_1897) (fun _ h9 => h9) rfl dX12_readRing_59 ?_
              refine lv_if_le (tgt := 66) hx hb dX12_readRing_62 (by decide) (fun h9 => (z_no (by have h8 := z_fleT h9; omega))) (fun c_257 => ?_)
              have b_258 := z_fgtF c_257
              have hpost : (0 ≤ n_252.toInt ∧ n_252.toInt ≤ 9) ∧ (0 ≤ v_131.toInt ∧ v_131.toInt ≤ 4) ∧ (0 ≤ v_132.toInt ∧ v_132.toInt ≤ 900) ∧ (0 ≤ v_133.toInt ∧ v_133.toInt ≤ 900) ∧ (0 ≤ v_134.toInt ∧ v_134.toInt ≤ 9999) ∧ (0 ≤ v_135.toInt ∧ v_135.toInt ≤ 900) ∧ (zC g_137) ∧ (zRg 10 0 1 g_128) ∧ (zNw g_137 g_128) ∧ (m_behind.toInt ≤ v_133.toInt) ∧ (0 < m_bad.toInt → 0 < n_252.toInt) ∧ (n_252.toInt ≤ 0 → v_131.toInt = 0 ∨ m_behind.toInt < v_133.toInt) ∧ (n_252.toInt ≤ 0 → v_131.toInt = 3 → v_134.toInt = 59 → zNf g_137) := ⟨(z_rgw hr_n_252 (by decide) (by decide)), hr_v_131, hr_v_132, hr_v_133, hr_v_134, hr_v_135, hC_g_137, hC_g_128, hs_188, (by omega), (by omega), (by omega), (fun _ _ _ => hs_189)⟩
              exact hret _ _ _ _ _ (n_252, n_253, v_131, v_132, v_133, v_134, v_135, v_136, n_9, g_137, g_128) [4, 1, 2, 3, 0] hP hD hS rfl (by decide) dX12_readRing_65 hpost
  exact hlp_194 _ 0 g_isOn n_1 n_2 n_3 n_4 n_5 n_6 n_7 n_8 g_c _ _ _ (Nat.lt_succ_self _) (by decide +kernel) hC_g_isOn hr_n_1 hr_n_3 hr_n_4 hr_n_5 hr_n_6 hr_n_7 hC_g_c hNW0 hNF0 zRr_0 (by omega) (by omega) (by omega) hP hD hS (lv_sub hl [2, 1, 0] rfl)
set_option maxHeartbeats 4000000 in
set_option maxRecDepth 100000 in
theorem r_readDoor (l : Launch) (G : va_G) (cA : zCA) (h0 : Nat) (m_status : Int32) (m_thrown : Int32) (m_above : Int64) (m_under : Int64) (a_traySort : Nat) (a_trayMany : Nat) (a_numbers : Nat) (a_tape : Nat) (m_taped : Int32) (m_textEnd : Int32) (m_faultKind : Int32) (m_faultAt : Int32) (m_bad : Int32) (m_badAt : Int32) (m_token : Int32) (m_at : Int32) (m_behind : Int32) (m_number : Int32) (m_letters : Int32) (m_word : Int64) (a_c : Nat) (a_words : Nat) (m_markMany : Int32) (a_there : Nat) (a_tried : Nat) (a_best : Nat) (a_found : Nat) (m_thereMany : Int32) (m_foundMany : Int32) (m_orderHow : Int32) (m_orderRing : Int32) (m_orderMany : Int32) (m_hasBest : Int32) (m_bestTop : Int64) (m_bestBy : Int64) (a_weights : Nat) (a_shared : Nat) (m_random : Int32) (m_truePlace : Int32) (m_trueWay : Int32) (m_seconds : Int32) (m_done : Int32) (m_feelings : Int32) (m_tries : Int32) (m_leftOver : Int32) (m_playDoor : Int32) (m_playRing : Int32) (m_isOpen : Int32) (m_isOver : Int32) (m_wasTried : Int32) (m_hasPlayed : Int32) (a_feltNow : Nat) (a_last : Nat) (a_kept : Nat) (m_hasSeconds : Int32) (m_hasTurned : Int32) (m_hasRound : Int32) (a_hasFeels : Nat) (a_isOn : Nat) (m_firstAct : Int32) (m_meanTop : Int64) (m_meanBy : Int64) (a_order : Nat) (m_rowMany : Int32) (m_newSteps : Int32) (g_tape : Nat → Int32) (g_c : Nat → Int32) (g_words : Nat → Int64) (g_isOn : Nat → Int32) (hr_m_textEnd : 0 ≤ m_textEnd.toInt ∧ m_textEnd.toInt ≤ 900) (hr_m_at : 0 ≤ m_at.toInt ∧ m_at.toInt ≤ 900) (hr_m_behind : 0 ≤ m_behind.toInt ∧ m_behind.toInt ≤ 900) (hr_m_bad : 0 ≤ m_bad.toInt ∧ m_bad.toInt ≤ 0) (hr_m_token : 0 ≤ m_token.toInt ∧ m_token.toInt ≤ 4) (hr_m_number : 0 ≤ m_number.toInt ∧ m_number.toInt ≤ 9999) (hr_m_letters : 0 ≤ m_letters.toInt ∧ m_letters.toInt ≤ 900) (hC_g_c : zC g_c) (hC_g_isOn : zRg 10 0 1 g_isOn) (hNW0 : zNw g_c g_isOn) (hNF0 : zNf g_c) : zCv l yX12_readDoor cX12_readDoor 6 none ({ frames := 4, cells := 0, slots := 0, locals := 91 }) G cA [.ref h0] [(h0, .inr (12, [.int m_status, .int m_thrown, .long m_above, .long m_under, .ref a_traySort, .ref a_trayMany, .ref a_numbers, .ref a_tape, .int m_taped, .int m_textEnd, .int m_faultKind, .int m_faultAt, .int m_bad, .int m_badAt, .int m_token, .int m_at, .int m_behind, .int m_number, .int m_letters, .long m_word, .ref a_c, .ref a_words, .int m_markMany, .ref a_there, .ref a_tried, .ref a_best, .ref a_found, .int m_thereMany, .int m_foundMany, .int m_orderHow, .int m_orderRing, .int m_orderMany, .int m_hasBest, .long m_bestTop, .long m_bestBy, .ref a_weights, .ref a_shared, .int m_random, .int m_truePlace, .int m_trueWay, .int m_seconds, .int m_done, .int m_feelings, .int m_tries, .int m_leftOver, .int m_playDoor, .int m_playRing, .int m_isOpen, .int m_isOver, .int m_wasTried, .int m_hasPlayed, .ref a_feltNow, .ref a_last, .ref a_kept, .int m_hasSeconds, .int m_hasTurned, .int m_hasRound, .ref a_hasFeels, .ref a_isOn, .int m_firstAct, .long m_meanTop, .long m_meanBy, .ref a_order, .int m_rowMany, .int m_newSteps])), (a_tape, .inl (cA.1 2, 900, .inl g_tape)), (a_c, .inl (cA.1 0, 1825, .inl g_c)), (a_words, .inl (cA.1 1, 105, .inr (.inl g_words))), (a_isOn, .inl (cA.1 3, 10, .inl g_isOn))] (S := Int32 × Int32 × Int32 × Int32 × Int32 × Int32 × Int32 × Int64 × (Nat → Int64) × (Nat → Int32)) (fun (u : Int32 × Int32 × Int32 × Int32 × Int32 × Int32 × Int32 × Int64 × (Nat → Int64) × (Nat → Int32)) => (0 ≤ u.1.toInt ∧ u.1.toInt ≤ 9) ∧ (0 ≤ u.2.2.1.toInt ∧ u.2.2.1.toInt ≤ 4) ∧ (0 ≤ u.2.2.2.1.toInt ∧ u.2.2.2.1.toInt ≤ 900) ∧ (0 ≤ u.2.2.2.2.1.toInt ∧ u.2.2.2.2.1.toInt ≤ 900) ∧ (0 ≤ u.2.2.2.2.2.1.toInt ∧ u.2.2.2.2.2.1.toInt ≤ 9999) ∧ (0 ≤ u.2.2.2.2.2.2.1.toInt ∧ u.2.2.2.2.2.2.1.toInt ≤ 900) ∧ (zC u.2.2.2.2.2.2.2.2.2) ∧ (zNw u.2.2.2.2.2.2.2.2.2 g_isOn) ∧ (m_behind.toInt ≤ u.2.2.2.2.1.toInt) ∧ (0 < m_bad.toInt → 0 < u.1.toInt) ∧ (u.1.toInt ≤ 0 → u.2.2.1.toInt = 0 ∨ m_behind.toInt < u.2.2.2.2.1.toInt) ∧ (u.1.toInt ≤ 0 → u.2.2.1.toInt = 3 → u.2.2.2.2.2.1.toInt = 59 → zNf u.2.2.2.2.2.2.2.2.2)) (fun (u : Int32 × Int32 × Int32 × Int32 × Int32 × Int32 × Int32 × Int64 × (Nat → Int64) × (Nat → Int32)) => [(h0, .inr (12, [.int m_status, .int m_thrown, .long m_above, .long m_under, .ref a_traySort, .ref a_trayMany, .ref a_numbers, .ref a_tape, .int m_taped, .int m_textEnd, .int m_faultKind, .int m_faultAt, .int u.1, .int u.2.1, .int u.2.2.1, .int u.2.2.2.1, .int u.2.2.2.2.1, .int u.2.2.2.2.2.1, .int u.2.2.2.2.2.2.1, .long u.2.2.2.2.2.2.2.1, .ref a_c, .ref a_words, .int m_markMany, .ref a_there, .ref a_tried, .ref a_best, .ref a_found, .int m_thereMany, .int m_foundMany, .int m_orderHow, .int m_orderRing, .int m_orderMany, .int m_hasBest, .long m_bestTop, .long m_bestBy, .ref a_weights, .ref a_shared, .int m_random, .int m_truePlace, .int m_trueWay, .int m_seconds, .int m_done, .int m_feelings, .int m_tries, .int m_leftOver, .int m_playDoor, .int m_playRing, .int m_isOpen, .int m_isOver, .int m_wasTried, .int m_hasPlayed, .ref a_feltNow, .ref a_last, .ref a_kept, .int m_hasSeconds, .int m_hasTurned, .int m_hasRound, .ref a_hasFeels, .ref a_isOn, .int m_firstAct, .long m_meanTop, .long m_meanBy, .ref a_order, .int m_rowMany, .int m_newSteps])), (a_tape, .inl (cA.1 2, 900, .inl g_tape)), (a_c, .inl (cA.1 0, 1825, .inl u.2.2.2.2.2.2.2.2.2)), (a_words, .inl (cA.1 1, 105, .inr (.inl u.2.2.2.2.2.2.2.2.1))), (a_isOn, .inl (cA.1 3, 10, .inl g_isOn))]) 0 0 := by
  have hk_0 : (0 : Int32).toInt = 0 := by decide +kernel
  have hk_1 : (1 : Int32).toInt = 1 := by decide +kernel
  have hk_3 : (3 : Int32).toInt = 3 := by decide +kernel
  have hk_5 : (5 : Int32).toInt = 5 := by decide +kernel
  have hk_9 : (9 : Int32).toInt = 9 := by decide +kernel
  have hk_10 : (10 : Int32).toInt = 10 := by decide +kernel
  have hk_16 : (16 : Int32).toInt = 16 := by decide +kernel
  have hk_99 : (99 : Int32).toInt = 99 := by decide +kernel
  have hk_1588 : (1588 : Int32).toInt = 1588 := by decide +kernel
  have hk_1593 : (1593 : Int32).toInt = 1593 := by decide +kernel
  refine z_start2v (own := RX12) (by decide) (Nat.le_of_ble_eq_true rfl) rfl ?_
  intro p e s m args below meth c A ls Q hx hb hml hts hown hK hE hT hP hD hS hA hl hret
  have hl : lv_has ls 6 [(0, .ref h0)] := hl
  refine lv_aload_n hx hb dX12_readDoor_0 rfl (lv_at hl 0 rfl) ?_
  refine lv_iconst (v := 3) hx hb dX12_readDoor_1 (by decide) ?_
  refine lv_iconst (v := 5) hx hb dX12_readDoor_2 (by decide) ?_
  refine lv_bipush (v := 16) hx hb dX12_readDoor_3 (by decide) ?_
  refine z_callVi (As := [.int 3, .int 5, .int 16]) (rest := []) (wr := [(a_isOn, .inl (cA.1 3, 10, .inl g_isOn))]) ⟨hx, hb, hml, hown, hts⟩ hK hE hT hP hD hS hA (r_readNew_3 l G cA h0 m_status m_thrown m_above m_under a_traySort a_trayMany a_numbers a_tape m_taped m_textEnd m_faultKind m_faultAt m_bad m_badAt m_token m_at m_behind m_number m_letters m_word a_c a_words m_markMany a_there a_tried a_best a_found m_thereMany m_foundMany m_orderHow m_orderRing m_orderMany m_hasBest m_bestTop m_bestBy a_weights a_shared m_random m_truePlace m_trueWay m_seconds m_done m_feelings m_tries m_leftOver m_playDoor m_playRing m_isOpen m_isOver m_wasTried m_hasPlayed a_feltNow a_last a_kept m_hasSeconds m_hasTurned m_hasRound a_hasFeels a_isOn m_firstAct m_meanTop m_meanBy a_order m_rowMany m_newSteps g_tape g_c g_words hr_m_textEnd hr_m_at hr_m_behind (z_rgw hr_m_bad (by decide) (by decide)) hr_m_token hr_m_number hr_m_letters hC_g_c) lk_RX12_207 ⟨rfl, rfl⟩ ⟨Nat.le_of_ble_eq_true rfl, Nat.le_of_ble_eq_true rfl⟩ 12 rfl rfl rfl [0, 1, 2, 3] [4] rfl rfl (by decide) rfl hl.1 rfl (lv_room (Nat.le_of_ble_eq_true rfl)) dX12_readDoor_5 ⟨Nat.le_of_ble_eq_true rfl, Nat.le_of_ble_eq_true rfl⟩ (fun r_10 u_11 H locs hw hP hD hS => ?_)
  obtain ⟨n_1, n_2, n_3, n_4, n_5, n_6, n_7, n_8, n_9⟩ := u_11
  try dsimp only at hw
  obtain ⟨hr_r_10, hr_n_1, hr_n_3, hr_n_4, hr_n_5, hr_n_6, hr_n_7, hf_12, hf_13, hf_14, hf_15, hf_16⟩ := hw
  refine lv_istore_n (lv' := [(1, .int r_10), (0, .ref h0)]) hx hb dX12_readDoor_8 rfl hl (by decide) rfl (fun ls hl => ?_)
  refine lv_aload_n hx hb dX12_readDoor_9 rfl (lv_at hl 1 rfl) ?_
  refine lv_aload_n hx hb dX12_readDoor_10 rfl (lv_at hl 1 rfl) ?_
  refine z_callVi (As := []) (rest := [.ref h0]) (wr := [(a_isOn, .inl (cA.1 3, 10, .inl g_isOn)), (a_tape, .inl (cA.1 2, 900, .inl g_tape)), (a_c, .inl (cA.1 0, 1825, .inl g_c)), (a_words, .inl (cA.1 1, 105, .inr (.inl n_9)))]) ⟨hx, hb, hml, hown, hts⟩ hK hE hT hP hD hS hA (r_houseWord l G cA h0 m_status m_thrown m_above m_under a_traySort a_trayMany a_numbers a_tape m_taped m_textEnd m_faultKind m_faultAt n_1 n_2 n_3 n_4 n_5 n_6 n_7 n_8 a_c a_words m_markMany a_there a_tried a_best a_found m_thereMany m_foundMany m_orderHow m_orderRing m_orderMany m_hasBest m_bestTop m_bestBy a_weights a_shared m_random m_truePlace m_trueWay m_seconds m_done m_feelings m_tries m_leftOver m_playDoor m_playRing m_isOpen m_isOver m_wasTried m_hasPlayed a_feltNow a_last a_kept m_hasSeconds m_hasTurned m_hasRound a_hasFeels a_isOn m_firstAct m_meanTop m_meanBy a_order m_rowMany m_newSteps hr_n_3) lk_RX12_170 ⟨rfl, rfl⟩ ⟨Nat.le_of_ble_eq_true rfl, Nat.le_of_ble_eq_true rfl⟩ 12 rfl rfl rfl [1] [0, 2, 3, 4] rfl rfl (by decide) rfl hl.1 rfl (lv_room (Nat.le_of_ble_eq_true rfl)) dX12_readDoor_11 ⟨Nat.le_of_ble_eq_true rfl, Nat.le_of_ble_eq_true rfl⟩ (fun r_17 u_18 H locs hw hP hD hS => ?_)
  obtain ⟨hr_r_17, hf_19⟩ := hw
  refine lv_bipush (v := 9) hx hb dX12_readDoor_14 (by decide) ?_
  refine lv_icmp_ne (tgt := 23) hx hb dX12_readDoor_16 (by decide) (fun c_20 => ?_) (fun c_20 => ?_)
  · have b_21 := z_fneT c_20
    refine lv_iconst (v := 0) hx hb dX12_readDoor_23 (by decide) ?_
    refine z_callVv (As := [.int 0]) (rest := []) (wr := [(a_isOn, .inl (cA.1 3, 10, .inl g_isOn)), (a_tape, .inl (cA.1 2, 900, .inl g_tape)), (a_c, .inl (cA.1 0, 1825, .inl g_c)), (a_words, .inl (cA.1 1, 105, .inr (.inl n_9)))]) ⟨hx, hb, hml, hown, hts⟩ hK hE hT hP hD hS hA (r_must_0 l G cA h0 m_status m_thrown m_above m_under a_traySort a_trayMany a_numbers a_tape m_taped m_textEnd m_faultKind m_faultAt n_1 n_2 n_3 n_4 n_5 n_6 n_7 n_8 a_c a_words m_markMany a_there a_tried a_best a_found m_thereMany m_foundMany m_orderHow m_orderRing m_orderMany m_hasBest m_bestTop m_bestBy a_weights a_shared m_random m_truePlace m_trueWay m_seconds m_done m_feelings m_tries m_leftOver m_playDoor m_playRing m_isOpen m_isOver m_wasTried m_hasPlayed a_feltNow a_last a_kept m_hasSeconds m_hasTurned m_hasRound a_hasFeels a_isOn m_firstAct m_meanTop m_meanBy a_order m_rowMany m_newSteps hr_n_4 hr_n_1 hr_n_3) lk_RX12_210 ⟨rfl, rfl⟩ ⟨Nat.le_of_ble_eq_true rfl, Nat.le_of_ble_eq_true rfl⟩ 12 rfl rfl rfl [4] [0, 1, 2, 3] rfl rfl (by decide) rfl hl.1 rfl (lv_room (Nat.le_of_ble_eq_true rfl)) dX12_readDoor_24 ⟨Nat.le_of_ble_eq_true rfl, Nat.le_of_ble_eq_true rfl⟩ (fun u_25 H locs hw hP hD hS => ?_)
    obtain ⟨n_22, n_23⟩ := u_25
    try dsimp only at hw
    have hr_n_22 := hw
    refine lv_aload_n hx hb dX12_readDoor_27 rfl (lv_at hl 1 rfl) ?_
    refine lv_iconst (v := 0) hx hb dX12_readDoor_28 (by decide) ?_
    refine lv_bipush (v := 99) hx hb dX12_readDoor_29 (by decide) ?_
    refine z_callVi (As := [.int 0, .int 99]) (rest := []) (wr := [(a_isOn, .inl (cA.1 3, 10, .inl g_isOn)), (a_c, .inl (cA.1 0, 1825, .inl g_c)), (a_words, .inl (cA.1 1, 105, .inr (.inl n_9)))]) ⟨hx, hb, hml, hown, hts⟩ hK hE hT hP hD hS hA (r_count l G cA h0 m_status m_thrown m_above m_under a_traySort a_trayMany a_numbers a_tape m_taped m_textEnd m_faultKind m_faultAt n_22 n_23 n_3 n_4 n_5 n_6 n_7 n_8 a_c a_words m_markMany a_there a_tried a_best a_found m_thereMany m_foundMany m_orderHow m_orderRing m_orderMany m_hasBest m_bestTop m_bestBy a_weights a_shared m_random m_truePlace m_trueWay m_seconds m_done m_feelings m_tries m_leftOver m_playDoor m_playRing m_isOpen m_isOver m_wasTried m_hasPlayed a_feltNow a_last a_kept m_hasSeconds m_hasTurned m_hasRound a_hasFeels a_isOn m_firstAct m_meanTop m_meanBy a_order m_rowMany m_newSteps g_tape 0 99 (by decide +kernel) (by decide +kernel) hr_m_textEnd hr_n_4 hr_n_5 (z_rgw hr_n_22 (by decide) (by decide)) hr_n_3 hr_n_6 hr_n_7) lk_RX12_214 ⟨rfl, rfl⟩ ⟨Nat.le_of_ble_eq_true rfl, Nat.le_of_ble_eq_true rfl⟩ 12 rfl rfl rfl [4, 1] [0, 2, 3] rfl rfl (by decide) rfl hl.1 rfl (lv_room (Nat.le_of_ble_eq_true rfl)) dX12_readDoor_31 ⟨Nat.le_of_ble_eq_true rfl, Nat.le_of_ble_eq_true rfl⟩ (fun r_34 u_35 H locs hw hP hD hS => ?_)
    obtain ⟨n_26, n_27, n_28, n_29, n_30, n_31, n_32, n_33⟩ := u_35
    try dsimp only at hw
    obtain ⟨hr_r_34, hr_n_26, hr_n_28, hr_n_29, hr_n_30, hr_n_31, hr_n_32, hf_36, hf_37, hf_38, hf_39, hf_40, hf_41⟩ := hw
    refine lv_istore_n (lv' := [(2, .int r_34), (1, .int r_10), (0, .ref h0)]) hx hb dX12_readDoor_34 rfl hl (by decide) rfl (fun ls hl => ?_)
    refine lv_aload_n hx hb dX12_readDoor_35 rfl (lv_at hl 2 rfl) ?_
    refine lv_aload_n hx hb dX12_readDoor_36 rfl (lv_at hl 2 rfl) ?_
    refine z_callVi (As := []) (rest := [.ref h0]) (wr := [(a_isOn, .inl (cA.1 3, 10, .inl g_isOn)), (a_c, .inl (cA.1 0, 1825, .inl g_c)), (a_words, .inl (cA.1 1, 105, .inr (.inl n_9))), (a_tape, .inl (cA.1 2, 900, .inl g_tape))]) ⟨hx, hb, hml, hown, hts⟩ hK hE hT hP hD hS hA (r_houseWord l G cA h0 m_status m_thrown m_above m_under a_traySort a_trayMany a_numbers a_tape m_taped m_textEnd m_faultKind m_faultAt n_26 n_27 n_28 n_29 n_30 n_31 n_32 n_33 a_c a_words m_markMany a_there a_tried a_best a_found m_thereMany m_foundMany m_orderHow m_orderRing m_orderMany m_hasBest m_bestTop m_bestBy a_weights a_shared m_random m_truePlace m_trueWay m_seconds m_done m_feelings m_tries m_leftOver m_playDoor m_playRing m_isOpen m_isOver m_wasTried m_hasPlayed a_feltNow a_last a_kept m_hasSeconds m_hasTurned m_hasRound a_hasFeels a_isOn m_firstAct m_meanTop m_meanBy a_order m_rowMany m_newSteps hr_n_28) lk_RX12_170 ⟨rfl, rfl⟩ ⟨Nat.le_of_ble_eq_true rfl, Nat.le_of_ble_eq_true rfl⟩ 12 rfl rfl rfl [3] [0, 1, 2, 4] rfl rfl (by decide) rfl hl.1 rfl (lv_room (Nat.le_of_ble_eq_true rfl)) dX12_readDoor_37 ⟨Nat.le_of_ble_eq_true rfl, Nat.le_of_ble_eq_true rfl⟩ (fun r_42 u_43 H locs hw hP hD hS => ?_)
    obtain ⟨hr_r_42, hf_44⟩ := hw
    refine lv_bipush (v := 10) hx hb dX12_readDoor_40 (by decide) ?_
    refine lv_icmp_ne (tgt := 49) hx hb dX12_readDoor_42 (by decide) (fun c_45 => ?_) (fun c_45 => ?_)
    · have b_46 := z_fneT c_45
      refine lv_iconst (v := 0) hx hb dX12_readDoor_49 (by decide) ?_
      refine z_callVv (As := [.int 0]) (rest := []) (wr := [(a_isOn, .inl (cA.1 3, 10, .inl g_isOn)), (a_c, .inl (cA.1 0, 1825, .inl g_c)), (a_words, .inl (cA.1 1, 105, .inr (.inl n_9))), (a_tape, .inl (cA.1 2, 900, .inl g_tape))]) ⟨hx, hb, hml, hown, hts⟩ hK hE hT hP hD hS hA (r_must_0 l G cA h0 m_status m_thrown m_above m_under a_traySort a_trayMany a_numbers a_tape m_taped m_textEnd m_faultKind m_faultAt n_26 n_27 n_28 n_29 n_30 n_31 n_32 n_33 a_c a_words m_markMany a_there a_tried a_best a_found m_thereMany m_foundMany m_orderHow m_orderRing m_orderMany m_hasBest m_bestTop m_bestBy a_weights a_shared m_random m_truePlace m_trueWay m_seconds m_done m_feelings m_tries m_leftOver m_playDoor m_playRing m_isOpen m_isOver m_wasTried m_hasPlayed a_feltNow a_last a_kept m_hasSeconds m_hasTurned m_hasRound a_hasFeels a_isOn m_firstAct m_meanTop m_meanBy a_order m_rowMany m_newSteps hr_n_29 hr_n_26 hr_n_28) lk_RX12_210 ⟨rfl, rfl⟩ ⟨Nat.le_of_ble_eq_true rfl, Nat.le_of_ble_eq_true rfl⟩ 12 rfl rfl rfl [4] [0, 1, 2, 3] rfl rfl (by decide) rfl hl.1 rfl (lv_room (Nat.le_of_ble_eq_true rfl)) dX12_readDoor_50 ⟨Nat.le_of_ble_eq_true rfl, Nat.le_of_ble_eq_true rfl⟩ (fun u_50 H locs hw hP hD hS => ?_)
      obtain ⟨n_47, n_48⟩ := u_50
      try dsimp only at hw
      have hr_n_47 := hw
      refine lv_iconst (v := 0) hx hb dX12_readDoor_53 (by decide) ?_
      refine lv_istore_n (lv' := [(3, .int 0), (2, .int r_34), (1, .int r_10), (0, .ref h0)]) hx hb dX12_readDoor_54 rfl hl (by decide) rfl (fun ls hl => ?_)
      refine lv_iconst (v := 1) hx hb dX12_readDoor_55 (by decide) ?_
      refine lv_istore (lv' := [(4, .int 1), (3, .int 0), (2, .int r_34), (1, .int r_10), (0, .ref h0)]) hx hb dX12_readDoor_56 hl (by decide) rfl (fun ls hl => ?_)
      have hlp_58 : ∀ (n : Nat) (H : Heap) (locs : List Loc) (ls : Array Slot), (900 - n_30.toInt + (1 : Int32).toInt).toNat < n → (n_47.toInt ≤ 0 → (g_c 1463).toInt = r_10.toInt) → (m_behind.toInt ≤ n_30.toInt) → (n_47.toInt ≤ 0 → n_28.toInt = 0 ∨ m_behind.toInt < n_30.toInt) → va_P G vwCl [(a_isOn, .inl (cA.1 3, 10, .inl g_isOn)), (a_c, .inl (cA.1 0, 1825, .inl g_c)), (a_words, .inl (cA.1 1, 105, .inr (.inl n_9))), (a_tape, .inl (cA.1 2, 900, .inl g_tape)), (h0, .inr (12, [.int m_status, .int m_thrown, .long m_above, .long m_under, .ref a_traySort, .ref a_trayMany, .ref a_numbers, .ref a_tape, .int m_taped, .int m_textEnd, .int m_faultKind, .int m_faultAt, .int n_47, .int n_48, .int n_28, .int n_29, .int n_30, .int n_31, .int n_32, .long n_33, .ref a_c, .ref a_words, .int m_markMany, .ref a_there, .ref a_tried, .ref a_best, .ref a_found, .int m_thereMany, .int m_foundMany, .int m_orderHow, .int m_orderRing, .int m_orderMany, .int m_hasBest, .long m_bestTop, .long m_bestBy, .ref a_weights, .ref a_shared, .int m_random, .int m_truePlace, .int m_trueWay, .int m_seconds, .int m_done, .int m_feelings, .int m_tries, .int m_leftOver, .int m_playDoor, .int m_playRing, .int m_isOpen, .int m_isOver, .int m_wasTried, .int m_hasPlayed, .ref a_feltNow, .ref a_last, .ref a_kept, .int m_hasSeconds, .int m_hasTurned, .int m_hasRound, .ref a_hasFeels, .ref a_isOn, .int m_firstAct, .long m_meanTop, .long m_meanBy, .ref a_order, .int m_rowMany, .int m_newSteps]))] H → va_D A [(a_isOn, .inl (cA.1 3, 10, .inl g_isOn)), (a_c, .inl (cA.1 0, 1825, .inl g_c)), (a_words, .inl (cA.1 1, 105, .inr (.inl n_9))), (a_tape, .inl (cA.1 2, 900, .inl g_tape)), (h0, .inr (12, [.int m_status, .int m_thrown, .long m_above, .long m_under, .ref a_traySort, .ref a_trayMany, .ref a_numbers, .ref a_tape, .int m_taped, .int m_textEnd, .int m_faultKind, .int m_faultAt, .int n_47, .int n_48, .int n_28, .int n_29, .int n_30, .int n_31, .int n_32, .long n_33, .ref a_c, .ref a_words, .int m_markMany, .ref a_there, .ref a_tried, .ref a_best, .ref a_found, .int m_thereMany, .int m_foundMany, .int m_orderHow, .int m_orderRing, .int m_orderMany, .int m_hasBest, .long m_bestTop, .long m_bestBy, .ref a_weights, .ref a_shared, .int m_random, .int m_truePlace, .int m_trueWay, .int m_seconds, .int m_done, .int m_feelings, .int m_tries, .int m_leftOver, .int m_playDoor, .int m_playRing, .int m_isOpen, .int m_isOver, .int m_wasTried, .int m_hasPlayed, .ref a_feltNow, .ref a_last, .ref a_kept, .int m_hasSeconds, .int m_hasTurned, .int m_hasRound, .ref a_hasFeels, .ref a_isOn, .int m_firstAct, .long m_meanTop, .long m_meanBy, .ref a_order, .int m_rowMany, .int m_newSteps]))] → va_S A s.heap H locs → lv_has ls 6 [(0, .ref h0), (1, .int r_10), (2, .int r_34), (3, .int 0), (4, .int 1)] → W p l e ({ frames := 4, cells := 0, slots := 0, locals := 91 }) s m args below meth c H locs 0 0 Q (F0 m 58 ls []) := by
        intro n
        induction n with
        | zero =>
          intro H locs ls hmu_hlp_58 hi_55 hi_56 hi_57 hP hD hS hl
          exact absurd hmu_hlp_58 (Nat.not_lt_zero _)
        | succ n ih_59 =>
          intro H locs ls hmu_hlp_58 hi_55 hi_56 hi_57 hP hD hS hl
          refine lv_iload hx hb dX12_readDoor_58 (lv_at hl 4 rfl) ?_
          refine lv_if_eq (tgt := 141) hx hb dX12_readDoor_60 (by decide) (fun h9 => absurd h9 (by decide +kernel)) (fun _ => ?_)
          refine lv_aload_n hx hb dX12_readDoor_63 rfl (lv_at hl 0 rfl) ?_
          refine va_get (D := G) (ci := 12) (v := .int n_47) (C := RX12) (T := TX12) (N := 65) hx hb hts inT12 hown hK hP 4 rfl rfl 12 (by decide) (hts _ tw_1897) (fun _ h9 => h9) rfl dX12_readDoor_64 ?_
          refine lv_if_ne (tgt := 141) hx hb dX12_readDoor_67 (by decide) (fun c_60 => ?_) (fun h9 => (z_no (by have h8 := z_feqF h9; omega)))
          have b_61 := z_fneT c_60
          refine lv_aload_n hx hb dX12_readDoor_141 rfl (lv_at hl 0 rfl) ?_
          refine va_get (D := G) (ci := 12) (v := .int n_47) (C := RX12) (T := TX12) (N := 65) hx hb hts inT12 hown hK hP 4 rfl rfl 12 (by decide) (hts _ tw_1897) (fun _ h9 => h9) rfl dX12_readDoor_142 ?_
          refine lv_if_le (tgt := 149) hx hb dX12_readDoor_145 (by decide) (fun h9 => (z_no (by have h8 := z_fleT h9; omega))) (fun c_62 => ?_)
          have b_63 := z_fgtF c_62
          have hpost : (0 ≤ n_47.toInt ∧ n_47.toInt ≤ 9) ∧ (0 ≤ n_28.toInt ∧ n_28.toInt ≤ 4) ∧ (0 ≤ n_29.toInt ∧ n_29.toInt ≤ 900) ∧ (0 ≤ n_30.toInt ∧ n_30.toInt ≤ 900) ∧ (0 ≤ n_31.toInt ∧ n_31.toInt ≤ 9999) ∧ (0 ≤ n_32.toInt ∧ n_32.toInt ≤ 900) ∧ (zC g_c) ∧ (zNw g_c g_isOn) ∧ (m_behind.toInt ≤ n_30.toInt) ∧ (0 < m_bad.toInt → 0 < n_47.toInt) ∧ (n_47.toInt ≤ 0 → n_28.toInt = 0 ∨ m_behind.toInt < n_30.toInt) ∧ (n_47.toInt ≤ 0 → n_28.toInt = 3 → n_31.toInt = 59 → zNf g_c) := ⟨(z_rgw hr_n_47 (by decide) (by decide)), hr_n_28, hr_n_29, hr_n_30, hr_n_31, hr_n_32, hC_g_c, hNW0, (by omega), (by omega), (by omega), (fun _ _ _ => hNF0)⟩
          exact hret _ _ _ _ _ (n_47, n_48, n_28, n_29, n_30, n_31, n_32, n_33, n_9, g_c) [4, 3, 1, 2, 0] hP hD hS rfl (by decide) dX12_readDoor_148 hpost
      exact hlp_58 _ _ _ _ (Nat.lt_succ_self _) (by omega) (by omega) (by omega) hP hD hS (lv_sub hl [4, 3, 2, 1, 0] rfl)
    · have b_64 := z_feqF c_45
      refine lv_iconst (v := 1) hx hb dX12_readDoor_45 (by decide) ?_
      refine lv_goto (tgt := 50) hx hb dX12_readDoor_46 (by decide) ?_
      refine z_callVv (As := [.int 1]) (rest := []) (wr := [(a_isOn, .inl (cA.1 3, 10, .inl g_isOn)), (a_c, .inl (cA.1 0, 1825, .inl g_c)), (a_words, .inl (cA.1 1, 105, .inr (.inl n_9)))]) ⟨hx, hb, hml, hown, hts⟩ hK hE hT hP hD hS hA (r_must_1 l G cA h0 m_status m_thrown m_above m_under a_traySort a_trayMany a_numbers a_tape m_taped m_textEnd m_faultKind m_faultAt n_26 n_27 n_28 n_29 n_30 n_31 n_32 n_33 a_c a_words m_markMany a_there a_tried a_best a_found m_thereMany m_foundMany m_orderHow m_orderRing m_orderMany m_hasBest m_bestTop m_bestBy a_weights a_shared m_random m_truePlace m_trueWay m_seconds m_done m_feelings m_tries m_leftOver m_playDoor m_playRing m_isOpen m_isOver m_wasTried m_hasPlayed a_feltNow a_last a_kept m_hasSeconds m_hasTurned m_hasRound a_hasFeels a_isOn m_firstAct m_meanTop m_meanBy a_order m_rowMany m_newSteps g_tape hr_m_textEnd hr_n_29 hr_n_30 hr_n_26 hr_n_28 hr_n_31 hr_n_32) lk_RX12_210 ⟨rfl, rfl⟩ ⟨Nat.le_of_ble_eq_true rfl, Nat.le_of_ble_eq_true rfl⟩ 12 rfl rfl rfl [4, 3] [0, 1, 2] rfl rfl (by decide) rfl hl.1 rfl (lv_room (Nat.le_of_ble_eq_true rfl)) dX12_readDoor_50 ⟨Nat.le_of_ble_eq_true rfl, Nat.le_of_ble_eq_true rfl⟩ (fun u_72 H locs hw hP hD hS => ?_)
      obtain ⟨n_65, n_66, n_67, n_68, n_69, n_70⟩ := u_72
      try dsimp only at hw
      obtain ⟨hr_n_65, hr_n_66, hr_n_67, hr_n_68, hr_n_69, hf_73, hf_74, hf_75⟩ := hw
      refine lv_iconst (v := 0) hx hb dX12_readDoor_53 (by decide) ?_
      refine lv_istore_n (lv' := [(3, .int 0), (2, .int r_34), (1, .int r_10), (0, .ref h0)]) hx hb dX12_readDoor_54 rfl hl (by decide) rfl (fun ls hl => ?_)
      refine lv_iconst (v := 1) hx hb dX12_readDoor_55 (by decide) ?_
      refine lv_istore (lv' := [(4, .int 1), (3, .int 0), (2, .int r_34), (1, .int r_10), (0, .ref h0)]) hx hb dX12_readDoor_56 hl (by decide) rfl (fun ls hl => ?_)
      have hlp_237 : ∀ (n : Nat) (v_177 : Int32) (v_178 : Int32) (v_179 : Int32) (v_180 : Int32) (v_181 : Int32) (v_182 : Int32) (v_183 : Int32) (v_184 : Int32) (v_185 : Int32) (v_186 : Int64) (H : Heap) (locs : List Loc) (ls : Array Slot), (900 - v_183.toInt + v_178.toInt).toNat < n → (0 ≤ v_178.toInt ∧ v_178.toInt ≤ 1) → (0 ≤ v_179.toInt ∧ v_179.toInt ≤ 9) → (0 ≤ v_181.toInt ∧ v_181.toInt ≤ 4) → (0 ≤ v_182.toInt ∧ v_182.toInt ≤ 900) → (0 ≤ v_183.toInt ∧ v_183.toInt ≤ 900) → (0 ≤ v_184.toInt ∧ v_184.toInt ≤ 9999) → (0 ≤ v_185.toInt ∧ v_185.toInt ≤ 900) → (v_179.toInt ≤ 0 → (g_c 1463).toInt = r_10.toInt) → (m_behind.toInt ≤ v_183.toInt) → (v_179.toInt ≤ 0 → v_181.toInt = 0 ∨ m_behind.toInt < v_183.toInt) → va_P G vwCl [(a_isOn, .inl (cA.1 3, 10, .inl g_isOn)), (a_c, .inl (cA.1 0, 1825, .inl g_c)), (a_words, .inl (cA.1 1, 105, .inr (.inl n_9))), (h0, .inr (12, [.int m_status, .int m_thrown, .long m_above, .long m_under, .ref a_traySort, .ref a_trayMany, .ref a_numbers, .ref a_tape, .int m_taped, .int m_textEnd, .int m_faultKind, .int m_faultAt, .int v_179, .int v_180, .int v_181, .int v_182, .int v_183, .int v_184, .int v_185, .long v_186, .ref a_c, .ref a_words, .int m_markMany, .ref a_there, .ref a_tried, .ref a_best, .ref a_found, .int m_thereMany, .int m_foundMany, .int m_orderHow, .int m_orderRing, .int m_orderMany, .int m_hasBest, .long m_bestTop, .long m_bestBy, .ref a_weights, .ref a_shared, .int m_random, .int m_truePlace, .int m_trueWay, .int m_seconds, .int m_done, .int m_feelings, .int m_tries, .int m_leftOver, .int m_playDoor, .int m_playRing, .int m_isOpen, .int m_isOver, .int m_wasTried, .int m_hasPlayed, .ref a_feltNow, .ref a_last, .ref a_kept, .int m_hasSeconds, .int m_hasTurned, .int m_hasRound, .ref a_hasFeels, .ref a_isOn, .int m_firstAct, .long m_meanTop, .long m_meanBy, .ref a_order, .int m_rowMany, .int m_newSteps])), (a_tape, .inl (cA.1 2, 900, .inl g_tape))] H → va_D A [(a_isOn, .inl (cA.1 3, 10, .inl g_isOn)), (a_c, .inl (cA.1 0, 1825, .inl g_c)), (a_words, .inl (cA.1 1, 105, .inr (.inl n_9))), (h0, .inr (12, [.int m_status, .int m_thrown, .long m_above, .long m_under, .ref a_traySort, .ref a_trayMany, .ref a_numbers, .ref a_tape, .int m_taped, .int m_textEnd, .int m_faultKind, .int m_faultAt, .int v_179, .int v_180, .int v_181, .int v_182, .int v_183, .int v_184, .int v_185, .long v_186, .ref a_c, .ref a_words, .int m_markMany, .ref a_there, .ref a_tried, .ref a_best, .ref a_found, .int m_thereMany, .int m_foundMany, .int m_orderHow, .int m_orderRing, .int m_orderMany, .int m_hasBest, .long m_bestTop, .long m_bestBy, .ref a_weights, .ref a_shared, .int m_random, .int m_truePlace, .int m_trueWay, .int m_seconds, .int m_done, .int m_feelings, .int m_tries, .int m_leftOver, .int m_playDoor, .int m_playRing, .int m_isOpen, .int m_isOver, .int m_wasTried, .int m_hasPlayed, .ref a_feltNow, .ref a_last, .ref a_kept, .int m_hasSeconds, .int m_hasTurned, .int m_hasRound, .ref a_hasFeels, .ref a_isOn, .int m_firstAct, .long m_meanTop, .long m_meanBy, .ref a_order, .int m_rowMany, .int m_newSteps])), (a_tape, .inl (cA.1 2, 900, .inl g_tape))] → va_S A s.heap H locs → lv_has ls 6 [(0, .ref h0), (1, .int r_10), (2, .int r_34), (3, .int v_177), (4, .int v_178)] → W p l e ({ frames := 4, cells := 0, slots := 0, locals := 91 }) s m args below meth c H locs 0 0 Q (F0 m 58 ls []) := by
        intro n
        induction n with
        | zero =>
          intro v_177 v_178 v_179 v_180 v_181 v_182 v_183 v_184 v_185 v_186 H locs ls hmu_hlp_237 hr_v_178 hr_v_179 hr_v_181 hr_v_182 hr_v_183 hr_v_184 hr_v_185 hi_234 hi_235 hi_236 hP hD hS hl
          exact absurd hmu_hlp_237 (Nat.not_lt_zero _)
        | succ n ih_238 =>
          intro v_177 v_178 v_179 v_180 v_181 v_182 v_183 v_184 v_185 v_186 H locs ls hmu_hlp_237 hr_v_178 hr_v_179 hr_v_181 hr_v_182 hr_v_183 hr_v_184 hr_v_185 hi_234 hi_235 hi_236 hP hD hS hl
          refine lv_iload hx hb dX12_readDoor_58 (lv_at hl 4 rfl) ?_
          refine lv_if_eq (tgt := 141) hx hb dX12_readDoor_60 (by decide) (fun c_239 => ?_) (fun c_239 => ?_)
          · have b_240 := z_feqT c_239
            refine lv_aload_n hx hb dX12_readDoor_141 rfl (lv_at hl 0 rfl) ?_
            refine va_get (D := G) (ci := 12) (v := .int v_179) (C := RX12) (T := TX12) (N := 65) hx hb hts inT12 hown hK hP 3 rfl rfl 12 (by decide) (hts _ tw_1897) (fun _ h9 => h9) rfl dX12_readDoor_142 ?_
            refine lv_if_le (tgt := 149) hx hb dX12_readDoor_145 (by decide) (fun c_241 => ?_) (fun c_241 => ?_)
            · have b_242 := z_fleT c_241
              refine lv_aload_n hx hb dX12_readDoor_149 rfl (lv_at hl 0 rfl) ?_
              refine va_get (D := G) (ci := 12) (v := .ref a_c) (C := RX12) (T := TX12) (N := 65) hx hb hts inT12 hown hK hP 3 rfl rfl 20 (by decide) (hts _ tw_1905) (fun _ h9 => h9) rfl dX12_readDoor_150 ?_
              refine lv_sipush (v := 1588) hx hb dX12_readDoor_153 (by decide) ?_
              refine lv_iload_n hx hb dX12_readDoor_156 rfl (lv_at hl 1 rfl) ?_
              refine lv_iadd hx hb dX12_readDoor_157 ?_
              refine lv_topi (fun x_243 he_x_243 => ?_)
              have hq_x_243 := z_addq he_x_243 hk_1588 (rfl : r_10.toInt = _) (by omega) (by omega)
              refine lv_iload_n hx hb dX12_readDoor_158 rfl (lv_at hl 2 rfl) ?_
              refine z_iast hx hb hK hP hD hS 1 0 rfl rfl (z_inN (by omega) (by omega)) dX12_readDoor_159 (fun g_244 hg_g_244 H locs hP hD hS => ?_)
              have hC_g_244 := z_ctU hC_g_c hg_g_244 (a := 1588) (b := 1592) (lo := 0) (hi := 99) (by decide +kernel) (by decide +kernel) (by omega) (by omega) (by omega)
              have hw_g_244_1461 := z_cwo hg_g_244 (k := 1461) (by omega) (by omega)
              have hw_g_244_1463 := z_cwo hg_g_244 (k := 1463) (by omega) (by omega)
              have hs_245 : zNw g_244 g_isOn := (zNw_fr hNW0 hg_g_244 (a := 1588) (b := 1592) (by decide +kernel) (by omega) (by omega))
              have hs_246 : zNf g_244 := (zNf_fr hNF0 hg_g_244 (a := 1588) (b := 1592) (by decide +kernel) (by omega) (by omega))
              refine lv_aload_n hx hb dX12_readDoor_160 rfl (lv_at hl 0 rfl) ?_
              refine va_get (D := G) (ci := 12) (v := .ref a_c) (C := RX12) (T := TX12) (N := 65) hx hb hts inT12 hown hK hP 3 rfl rfl 20 (by decide) (hts _ tw_1905) (fun _ h9 => h9) rfl dX12_readDoor_161 ?_
              refine lv_sipush (v := 1593) hx hb dX12_readDoor_164 (by decide) ?_
              refine lv_iload_n hx hb dX12_readDoor_167 rfl (lv_at hl 1 rfl) ?_
              refine lv_iadd hx hb dX12_readDoor_168 ?_
              refine lv_topi (fun x_247 he_x_247 => ?_)
              have hq_x_247 := z_addq he_x_247 hk_1593 (rfl : r_10.toInt = _) (by omega) (by omega)
              refine lv_iload_n hx hb dX12_readDoor_169 rfl (lv_at hl 3 rfl) ?_
              refine z_iast hx hb hK hP hD hS 1 0 rfl rfl (z_inN (by omega) (by omega)) dX12_readDoor_170 (fun g_248 hg_g_248 H locs hP hD hS => ?_)
              have hC_g_248 := z_ctU hC_g_244 hg_g_248 (a := 1593) (b := 1597) (lo := (-2147483648)) (hi := 2147483647) (by decide +kernel) (by decide +kernel) (by omega) (by omega) (z_full _)
              have hw_g_248_1461 := z_cwo hg_g_248 (k := 1461) (by omega) (by omega)
              have hw_g_248_1463 := z_cwo hg_g_248 (k := 1463) (by omega) (by omega)
              have hs_249 : zNw g_248 g_isOn := (zNw_fr hs_245 hg_g_248 (a := 1593) (b := 1597) (by decide +kernel) (by omega) (by omega))
              have hs_250 : zNf g_248 := (zNf_fr hs_246 hg_g_248 (a := 1593) (b := 1597) (by decide +kernel) (by omega) (by omega))
              refine lv_aload_n hx hb dX12_readDoor_171 rfl (lv_at hl 0 rfl) ?_
              refine va_get (D := G) (ci := 12) (v := .ref a_c) (C := RX12) (T := TX12) (N := 65) hx hb hts inT12 hown hK hP 3 rfl rfl 20 (by decide) (hts _ tw_1905) (fun _ h9 => h9) rfl dX12_readDoor_172 ?_
              refine lv_sipush (v := 1463) hx hb dX12_readDoor_175 (by decide) ?_
              refine lv_dup2_11 hx hb dX12_readDoor_178 rfl rfl ?_
              refine va_iald hx hb hK hP 1 0 rfl rfl (z_in (i := 1463) (n := 1825) (by decide +kernel) (by decide +kernel)) dX12_readDoor_179 ?_
              refine lv_topi (fun x_251 he_x_251 => ?_)
              have hr_x_251 := z_ctk hC_g_248 he_x_251 (k := 1463) (lo := 0) (hi := 5) (by decide +kernel) (by decide +kernel) (by decide +kernel)
              have hv_x_251 := z_cv he_x_251 (k := 1463) (by decide +kernel)
              refine lv_iconst (v := 1) hx hb dX12_readDoor_180 (by decide) ?_
              refine lv_iadd hx hb dX12_readDoor_181 ?_
              refine lv_topi (fun x_252 he_x_252 => ?_)
              have hq_x_252 := z_addq he_x_252 (rfl : x_251.toInt = _) hk_1 (by omega) (by omega)
              refine z_iast hx hb hK hP hD hS 1 0 rfl rfl (z_in (i := 1463) (n := 1825) (by decide +kernel) (by decide +kernel)) dX12_readDoor_182 (fun g_253 hg_g_253 H locs hP hD hS => ?_)
              have hC_g_253 := z_ctUk hC_g_248 hg_g_253 (k := 1463) (lo := 0) (hi := 5) (by decide +kernel) (by decide +kernel) (by decide +kernel) (by omega)
              have hw_g_253_1461 := z_cwo hg_g_253 (k := 1461) (by decide +kernel) (by decide +kernel)
              have hw_g_253_1463 := z_cwk hg_g_253 (k := 1463) (by decide +kernel)
              have hs_254 : zNw g_253 g_isOn := (zNw_fr hs_249 hg_g_253 (a := 1463) (b := 1463) (by decide +kernel) (by decide +kernel) (by decide +kernel))
              have hs_255 : zNf g_253 := (zNf_fr hs_250 hg_g_253 (a := 1463) (b := 1463) (by decide +kernel) (by decide +kernel) (by decide +kernel))
              have hpost : (0 ≤ v_179.toInt ∧ v_179.toInt ≤ 9) ∧ (0 ≤ v_181.toInt ∧ v_181.toInt ≤ 4) ∧ (0 ≤ v_182.toInt ∧ v_182.toInt ≤ 900) ∧ (0 ≤ v_183.toInt ∧ v_183.toInt ≤ 900) ∧ (0 ≤ v_184.toInt ∧ v_184.toInt ≤ 9999) ∧ (0 ≤ v_185.toInt ∧ v_185.toInt ≤ 900) ∧ (zC g_253) ∧ (zNw g_253 g_isOn) ∧ (m_behind.toInt ≤ v_183.toInt) ∧ (0 < m_bad.toInt → 0 < v_179.toInt) ∧ (v_179.toInt ≤ 0 → v_181.toInt = 0 ∨ m_behind.toInt < v_183.toInt) ∧ (v_179.toInt ≤ 0 → v_181.toInt = 3 → v_184.toInt = 59 → zNf g_253) := ⟨hr_v_179, hr_v_181, hr_v_182, hr_v_183, hr_v_184, hr_v_185, hC_g_253, hs_254, (by omega), (by omega), (by omega), (fun _ _ _ => hs_255)⟩
              exact hret _ _ _ _ _ (v_179, v_180, v_181, v_182, v_183, v_184, v_185, v_186, n_9, g_253) [3, 4, 1, 2, 0] hP hD hS rfl (by decide) dX12_readDoor_183 hpost
            · have b_256 := z_fgtF c_241
              have hpost : (0 ≤ v_179.toInt ∧ v_179.toInt ≤ 9) ∧ (0 ≤ v_181.toInt ∧ v_181.toInt ≤ 4) ∧ (0 ≤ v_182.toInt ∧ v_182.toInt ≤ 900) ∧ (0 ≤ v_183.toInt ∧ v_183.toInt ≤ 900) ∧ (0 ≤ v_184.toInt ∧ v_184.toInt ≤ 9999) ∧ (0 ≤ v_185.toInt ∧ v_185.toInt ≤ 900) ∧ (zC g_c) ∧ (zNw g_c g_isOn) ∧ (m_behind.toInt ≤ v_183.toInt) ∧ (0 < m_bad.toInt → 0 < v_179.toInt) ∧ (v_179.toInt ≤ 0 → v_181.toInt = 0 ∨ m_behind.toInt < v_183.toInt) ∧ (v_179.toInt ≤ 0 → v_181.toInt = 3 → v_184.toInt = 59 → zNf g_c) := ⟨hr_v_179, hr_v_181, hr_v_182, hr_v_183, hr_v_184, hr_v_185, hC_g_c, hNW0, (by omega), (by omega), (by omega), (fun _ _ _ => hNF0)⟩
              exact hret _ _ _ _ _ (v_179, v_180, v_181, v_182, v_183, v_184, v_185, v_186, n_9, g_c) [3, 4, 1, 2, 0] hP hD hS rfl (by decide) dX12_readDoor_148 hpost
          · have b_257 := z_fneF c_239
            refine lv_aload_n hx hb dX12_readDoor_63 rfl (lv_at hl 0 rfl) ?_
            refine va_get (D := G) (ci := 12) (v := .int v_179) (C := RX12) (T := TX12) (N := 65) hx hb hts inT12 hown hK hP 3 rfl rfl 12 (by decide) (hts _ tw_1897) (fun _ h9 => h9) rfl dX12_readDoor_64 ?_
            refine lv_if_ne (tgt := 141) hx hb dX12_readDoor_67 (by decide) (fun c_258 => ?_) (fun c_258 => ?_)
            · have b_259 := z_fneT c_258
              refine lv_aload_n hx hb dX12_readDoor_141 rfl (lv_at hl 0 rfl) ?_
              refine va_get (D := G) (ci := 12) (v := .int v_179) (C := RX12) (T := TX12) (N := 65) hx hb hts inT12 hown hK hP 3 rfl rfl 12 (by decide) (hts _ tw_1897) (fun _ h9 => h9) rfl dX12_readDoor_142 ?_
              refine lv_if_le (tgt := 149) hx hb dX12_readDoor_145 (by decide) (fun h9 => (z_no (by have h8 := z_fleT h9; omega))) (fun c_260 => ?_)
              have b_261 := z_fgtF c_260
              have hpost : (0 ≤ v_179.toInt ∧ v_179.toInt ≤ 9) ∧ (0 ≤ v_181.toInt ∧ v_181.toInt ≤ 4) ∧ (0 ≤ v_182.toInt ∧ v_182.toInt ≤ 900) ∧ (0 ≤ v_183.toInt ∧ v_183.toInt ≤ 900) ∧ (0 ≤ v_184.toInt ∧ v_184.toInt ≤ 9999) ∧ (0 ≤ v_185.toInt ∧ v_185.toInt ≤ 900) ∧ (zC g_c) ∧ (zNw g_c g_isOn) ∧ (m_behind.toInt ≤ v_183.toInt) ∧ (0 < m_bad.toInt → 0 < v_179.toInt) ∧ (v_179.toInt ≤ 0 → v_181.toInt = 0 ∨ m_behind.toInt < v_183.toInt) ∧ (v_179.toInt ≤ 0 → v_181.toInt = 3 → v_184.toInt = 59 → zNf g_c) := ⟨hr_v_179, hr_v_181, hr_v_182, hr_v_183, hr_v_184, hr_v_185, hC_g_c, hNW0, (by omega), (by omega), (by omega), (fun _ _ _ => hNF0)⟩
              exact hret _ _ _ _ _ (v_179, v_180, v_181, v_182, v_183, v_184, v_185, v_186, n_9, g_c) [3, 4, 1, 2, 0] hP hD hS rfl (by decide) dX12_readDoor_148 hpost
            · have b_262 := z_feqF c_258
              refine lv_aload_n hx hb dX12_readDoor_70 rfl (lv_at hl 0 rfl) ?_
              refine lv_iconst (v := 1) hx hb dX12_readDoor_71 (by decide) ?_
              refine lv_iconst (v := 3) hx hb dX12_readDoor_72 (by decide) ?_
              refine z_callVi (As := [.int 1, .int 3]) (rest := []) (wr := [(a_isOn, .inl (cA.1 3, 10, .inl g_isOn)), (a_tape, .inl (cA.1 2, 900, .inl g_tape))]) ⟨hx, hb, hml, hown, hts⟩ hK hE hT hP hD hS hA (r_readOld_1 l G cA h0 m_status m_thrown m_above m_under a_traySort a_trayMany a_numbers a_tape m_taped m_textEnd m_faultKind m_faultAt v_179 v_180 v_181 v_182 v_183 v_184 v_185 v_186 a_c a_words m_markMany a_there a_tried a_best a_found m_thereMany m_foundMany m_orderHow m_orderRing m_orderMany m_hasBest m_bestTop m_bestBy a_weights a_shared m_random m_truePlace m_trueWay m_seconds m_done m_feelings m_tries m_leftOver m_playDoor m_playRing m_isOpen m_isOver m_wasTried m_hasPlayed a_feltNow a_last a_kept m_hasSeconds m_hasTurned m_hasRound a_hasFeels a_isOn m_firstAct m_meanTop m_meanBy a_order m_rowMany m_newSteps g_c n_9 hr_v_182 hr_v_179 hr_v_181 hr_v_185 hC_g_c) lk_RX12_217 ⟨rfl, rfl⟩ ⟨Nat.le_of_ble_eq_true rfl, Nat.le_of_ble_eq_true rfl⟩ 12 rfl rfl rfl [3, 1, 2] [0, 4] rfl rfl (by decide) rfl hl.1 rfl (lv_room (Nat.le_of_ble_eq_true rfl)) dX12_readDoor_73 ⟨Nat.le_of_ble_eq_true rfl, Nat.le_of_ble_eq_true rfl⟩ (fun r_265 u_266 H locs hw hP hD hS => ?_)
              obtain ⟨n_263, n_264⟩ := u_266
              try dsimp only at hw
              obtain ⟨hr_r_265, hr_n_263, hf_267, hf_268, hf_269⟩ := hw
              refine lv_istore (lv' := [(5, .int r_265), (0, .ref h0), (1, .int r_10), (2, .int r_34), (3, .int v_177), (4, .int v_178)]) hx hb dX12_readDoor_76 hl (by decide) rfl (fun ls hl => ?_)
              refine lv_aload_n hx hb dX12_readDoor_78 rfl (lv_at hl 1 rfl) ?_
              refine va_get (D := G) (ci := 12) (v := .int n_263) (C := RX12) (T := TX12) (N := 65) hx hb hts inT12 hown hK hP 2 rfl rfl 12 (by decide) (hts _ tw_1897) (fun _ h9 => h9) rfl dX12_readDoor_79 ?_
              refine lv_if_ne (tgt := 104) hx hb dX12_readDoor_82 (by decide) (fun c_270 => ?_) (fun c_270 => ?_)
              · have b_271 := z_fneT c_270
                refine lv_aload_n hx hb dX12_readDoor_104 rfl (lv_at hl 1 rfl) ?_
                refine va_get (D := G) (ci := 12) (v := .int n_263) (C := RX12) (T := TX12) (N := 65) hx hb hts inT12 hown hK hP 2 rfl rfl 12 (by decide) (hts _ tw_1897) (fun _ h9 => h9) rfl dX12_readDoor_105 ?_
                refine lv_if_le (tgt := 112) hx hb dX12_readDoor_108 (by decide) (fun h9 => (z_no (by have h8 := z_fleT h9; omega))) (fun c_272 => ?_)
                have b_273 := z_fgtF c_272
                have hpost : (0 ≤ n_263.toInt ∧ n_263.toInt ≤ 9) ∧ (0 ≤ v_181.toInt ∧ v_181.toInt ≤ 4) ∧ (0 ≤ v_182.toInt ∧ v_182.toInt ≤ 900) ∧ (0 ≤ v_183.toInt ∧ v_183.toInt ≤ 900) ∧ (0 ≤ v_184.toInt ∧ v_184.toInt ≤ 9999) ∧ (0 ≤ v_185.toInt ∧ v_185.toInt ≤ 900) ∧ (zC g_c) ∧ (zNw g_c g_isOn) ∧ (m_behind.toInt ≤ v_183.toInt) ∧ (0 < m_bad.toInt → 0 < n_263.toInt) ∧ (n_263.toInt ≤ 0 → v_181.toInt = 0 ∨ m_behind.toInt < v_183.toInt) ∧ (n_263.toInt ≤ 0 → v_181.toInt = 3 → v_184.toInt = 59 → zNf g_c) := ⟨hr_n_263, hr_v_181, hr_v_182, hr_v_183, hr_v_184, hr_v_185, hC_g_c, hNW0, (by omega), (by omega), (by omega), (fun _ _ _ => hNF0)⟩
                exact hret _ _ _ _ _ (n_263, n_264, v_181, v_182, v_183, v_184, v_185, v_186, n_9, g_c) [2, 1, 3, 4, 0] hP hD hS rfl (by decide) dX12_readDoor_111 hpost
              · have b_274 := z_feqF c_270
                refine lv_iload_n hx hb dX12_readDoor_85 rfl (lv_at hl 4 rfl) ?_
                refine lv_iload hx hb dX12_readDoor_86 (lv_at hl 0 rfl) ?_
                refine lv_ishr hx hb dX12_readDoor_88 ?_
                have hL_v_177 := z_full v_177
                refine lv_topi (fun x_275 he_x_275 => ?_)
                refine lv_iconst (v := 1) hx hb dX12_readDoor_89 (by decide) ?_
                refine lv_iand hx hb dX12_readDoor_90 ?_
                have hL_x_275 := z_full x_275
                refine lv_topi (fun x_276 he_x_276 => ?_)
                have hr_x_276 := z_andr he_x_276 hk_1 (by decide)
                refine lv_iconst (v := 1) hx hb dX12_readDoor_91 (by decide) ?_
                refine lv_icmp_ne (tgt := 104) hx hb dX12_readDoor_92 (by decide) (fun c_277 => ?_) (fun c_277 => ?_)
                · have b_278 := z_fneT c_277
                  refine lv_aload_n hx hb dX12_readDoor_104 rfl (lv_at hl 1 rfl) ?_
                  refine va_get (D := G) (ci := 12) (v := .int n_263) (C := RX12) (T := TX12) (N := 65) hx hb hts inT12 hown hK hP 2 rfl rfl 12 (by decide) (hts _ tw_1897) (fun _ h9 => h9) rfl dX12_readDoor_105 ?_
                  refine lv_if_le (tgt := 112) hx hb dX12_readDoor_108 (by decide) (fun c_279 => ?_) (fun h9 => (z_no (by have h8 := z_fgtF h9; omega)))
                  have b_280 := z_fleT c_279
                  refine lv_iload_n hx hb dX12_readDoor_112 rfl (lv_at hl 4 rfl) ?_
                  refine lv_iconst (v := 1) hx hb dX12_readDoor_113 (by decide) ?_
                  refine lv_iload hx hb dX12_readDoor_114 (lv_at hl 0 rfl) ?_
                  refine lv_ishl hx hb dX12_readDoor_116 ?_
                  refine lv_topi (fun x_281 he_x_281 => ?_)
                  refine lv_ior hx hb dX12_readDoor_117 ?_
                  have hL_x_281 := z_full x_281
                  refine lv_topi (fun x_282 he_x_282 => ?_)
                  refine lv_istore_n (lv' := [(3, .int x_282), (5, .int r_265), (0, .ref h0), (1, .int r_10), (2, .int r_34), (4, .int v_178)]) hx hb dX12_readDoor_118 rfl hl (by decide) rfl (fun ls hl => ?_)
                  refine lv_aload_n hx hb dX12_readDoor_119 rfl (lv_at hl 2 rfl) ?_
                  refine z_callVv (As := []) (rest := []) (wr := [(a_isOn, .inl (cA.1 3, 10, .inl g_isOn)), (a_c, .inl (cA.1 0, 1825, .inl g_c)), (a_words, .inl (cA.1 1, 105, .inr (.inl n_9)))]) ⟨hx, hb, hml, hown, hts⟩ hK hE hT hP hD hS hA (r_next2 l G cA h0 m_status m_thrown m_above m_under a_traySort a_trayMany a_numbers a_tape m_taped m_textEnd m_faultKind m_faultAt n_263 n_264 v_181 v_182 v_183 v_184 v_185 v_186 a_c a_words m_markMany a_there a_tried a_best a_found m_thereMany m_foundMany m_orderHow m_orderRing m_orderMany m_hasBest m_bestTop m_bestBy a_weights a_shared m_random m_truePlace m_trueWay m_seconds m_done m_feelings m_tries m_leftOver m_playDoor m_playRing m_isOpen m_isOver m_wasTried m_hasPlayed a_feltNow a_last a_kept m_hasSeconds m_hasTurned m_hasRound a_hasFeels a_isOn m_firstAct m_meanTop m_meanBy a_order m_rowMany m_newSteps g_tape hr_m_textEnd hr_v_182 hr_v_183 hr_v_181 hr_v_184 hr_v_185) lk_RX12_184 ⟨rfl, rfl⟩ ⟨Nat.le_of_ble_eq_true rfl, Nat.le_of_ble_eq_true rfl⟩ 12 rfl rfl rfl [2, 1] [0, 3, 4] rfl rfl (by decide) rfl hl.1 rfl (lv_room (Nat.le_of_ble_eq_true rfl)) dX12_readDoor_120 ⟨Nat.le_of_ble_eq_true rfl, Nat.le_of_ble_eq_true rfl⟩ (fun u_290 H locs hw hP hD hS => ?_)
                  obtain ⟨n_283, n_284, n_285, n_286, n_287, n_288⟩ := u_290
                  try dsimp only at hw
                  obtain ⟨hr_n_283, hr_n_284, hr_n_285, hr_n_286, hr_n_287, hf_291, hf_292⟩ := hw
                  refine lv_aload_n hx hb dX12_readDoor_123 rfl (lv_at hl 2 rfl) ?_
                  refine va_get (D := G) (ci := 12) (v := .int n_283) (C := RX12) (T := TX12) (N := 65) hx hb hts inT12 hown hK hP 3 rfl rfl 14 (by decide) (hts _ tw_1899) (fun _ h9 => h9) rfl dX12_readDoor_124 ?_
                  refine lv_iconst (v := 1) hx hb dX12_readDoor_127 (by decide) ?_
                  refine lv_icmp_ne (tgt := 135) hx hb dX12_readDoor_128 (by decide) (fun c_293 => ?_) (fun c_293 => ?_)
                  · have b_294 := z_fneT c_293
                    refine lv_iconst (v := 0) hx hb dX12_readDoor_135 (by decide) ?_
                    refine lv_istore (lv' := [(4, .int 0), (3, .int x_282), (5, .int r_265), (0, .ref h0), (1, .int r_10), (2, .int r_34)]) hx hb dX12_readDoor_136 hl (by decide) rfl (fun ls hl => ?_)
                    refine lv_goto (tgt := 58) hx hb dX12_readDoor_138 (by decide) ?_
                    exact ih_238 x_282 0 n_263 n_264 n_283 n_284 n_285 n_286 n_287 n_288 H locs ls (by omega) (by decide +kernel) hr_n_263 hr_n_283 hr_n_284 hr_n_285 hr_n_286 hr_n_287 (by omega) (by omega) (by omega) hP hD hS (lv_sub hl [3, 4, 5, 1, 0] rfl)
                  · have b_295 := z_feqF c_293
                    refine lv_iconst (v := 1) hx hb dX12_readDoor_131 (by decide) ?_
                    refine lv_goto (tgt := 136) hx hb dX12_readDoor_132 (by decide) ?_
                    refine lv_istore (lv' := [(4, .int 1), (3, .int x_282), (5, .int r_265), (0, .ref h0), (1, .int r_10), (2, .int r_34)]) hx hb dX12_readDoor_136 hl (by decide) rfl (fun ls hl => ?_)
                    refine lv_goto (tgt := 58) hx hb dX12_readDoor_138 (by decide) ?_
                    exact ih_238 x_282 1 n_263 n_264 n_283 n_284 n_285 n_286 n_287 n_288 H locs ls (by omega) (by decide +kernel) hr_n_263 hr_n_283 hr_n_284 hr_n_285 hr_n_286 hr_n_287 (by omega) (by omega) (by omega) hP hD hS (lv_sub hl [3, 4, 5, 1, 0] rfl)
                · have b_296 := z_feqF c_277
                  refine lv_aload_n hx hb dX12_readDoor_95 rfl (lv_at hl 1 rfl) ?_
                  refine lv_iconst (v := 5) hx hb dX12_readDoor_96 (by decide) ?_
                  refine lv_aload_n hx hb dX12_readDoor_97 rfl (lv_at hl 1 rfl) ?_
                  refine va_get (D := G) (ci := 12) (v := .int v_182) (C := RX12) (T := TX12) (N := 65) hx hb hts inT12 hown hK hP 2 rfl rfl 15 (by decide) (hts _ tw_1900) (fun _ h9 => h9) rfl dX12_readDoor_98 ?_
                  refine z_callVv (As := [.int 5, .int v_182]) (rest := []) (wr := [(a_isOn, .inl (cA.1 3, 10, .inl g_isOn)), (a_tape, .inl (cA.1 2, 900, .inl g_tape)), (a_c, .inl (cA.1 0, 1825, .inl g_c)), (a_words, .inl (cA.1 1, 105, .inr (.inl n_9)))]) ⟨hx, hb, hml, hown, hts⟩ hK hE hT hP hD hS hA (r_fail l G cA h0 m_status m_thrown m_above m_under a_traySort a_trayMany a_numbers a_tape m_taped m_textEnd m_faultKind m_faultAt n_263 n_264 v_181 v_182 v_183 v_184 v_185 v_186 a_c a_words m_markMany a_there a_tried a_best a_found m_thereMany m_foundMany m_orderHow m_orderRing m_orderMany m_hasBest m_bestTop m_bestBy a_weights a_shared m_random m_truePlace m_trueWay m_seconds m_done m_feelings m_tries m_leftOver m_playDoor m_playRing m_isOpen m_isOver m_wasTried m_hasPlayed a_feltNow a_last a_kept m_hasSeconds m_hasTurned m_hasRound a_hasFeels a_isOn m_firstAct m_meanTop m_meanBy a_order m_rowMany m_newSteps 5 v_182 (by decide +kernel) hr_n_263) lk_RX12_180 ⟨rfl, rfl⟩ ⟨Nat.le_of_ble_eq_true rfl, Nat.le_of_ble_eq_true rfl⟩ 12 rfl rfl rfl [2] [0, 1, 3, 4] rfl rfl (by decide) rfl hl.1 rfl (lv_room (Nat.le_of_ble_eq_true rfl)) dX12_readDoor_101 ⟨Nat.le_of_ble_eq_true rfl, Nat.le_of_ble_eq_true rfl⟩ (fun u_300 H locs hw hP hD hS => ?_)
                  obtain ⟨n_297, n_298⟩ := u_300
                  try dsimp only at hw
                  obtain ⟨hr_n_297, hf_301⟩ := hw
                  refine lv_aload_n hx hb dX12_readDoor_104 rfl (lv_at hl 1 rfl) ?_
                  refine va_get (D := G) (ci := 12) (v := .int n_297) (C := RX12) (T := TX12) (N := 65) hx hb hts inT12 hown hK hP 4 rfl rfl 12 (by decide) (hts _ tw_1897) (fun _ h9 => h9) rfl dX12_readDoor_105 ?_
                  refine lv_if_le (tgt := 112) hx hb dX12_readDoor_108 (by decide) (fun h9 => (z_no (by have h8 := z_fleT h9; omega))) (fun c_302 => ?_)
                  have b_303 := z_fgtF c_302
                  have hpost : (0 ≤ n_297.toInt ∧ n_297.toInt ≤ 9) ∧ (0 ≤ v_181.toInt ∧ v_181.toInt ≤ 4) ∧ (0 ≤ v_182.toInt ∧ v_182.toInt ≤ 900) ∧ (0 ≤ v_183.toInt ∧ v_183.toInt ≤ 900) ∧ (0 ≤ v_184.toInt ∧ v_184.toInt ≤ 9999) ∧ (0 ≤ v_185.toInt ∧ v_185.toInt ≤ 900) ∧ (zC g_c) ∧ (zNw g_c g_isOn) ∧ (m_behind.toInt ≤ v_183.toInt) ∧ (0 < m_bad.toInt → 0 < n_297.toInt) ∧ (n_297.toInt ≤ 0 → v_181.toInt = 0 ∨ m_behind.toInt < v_183.toInt) ∧ (n_297.toInt ≤ 0 → v_181.toInt = 3 → v_184.toInt = 59 → zNf g_c) := ⟨(z_rgw hr_n_297 (by decide) (by decide)), hr_v_181, hr_v_182, hr_v_183, hr_v_184, hr_v_185, hC_g_c, hNW0, (by omega), (by omega), (by omega), (fun _ _ _ => hNF0)⟩
                  exact hret _ _ _ _ _ (n_297, n_298, v_181, v_182, v_183, v_184, v_185, v_186, n_9, g_c) [4, 1, 2, 3, 0] hP hD hS rfl (by decide) dX12_readDoor_111 hpost
      exact hlp_237 _ 0 1 n_26 n_27 n_65 n_66 n_67 n_68 n_69 n_70 _ _ _ (Nat.lt_succ_self _) (by decide +kernel) hr_n_26 hr_n_65 hr_n_66 hr_n_67 hr_n_68 hr_n_69 (by omega) (by omega) (by omega) hP hD hS (lv_sub hl [4, 3, 2, 1, 0] rfl)
  · have b_304 := z_feqF c_20
    refine lv_iconst (v := 1) hx hb dX12_readDoor_19 (by decide) ?_
    refine lv_goto (tgt := 24) hx hb dX12_readDoor_20 (by decide) ?_
    refine z_callVv (As := [.int 1]) (rest := []) (wr := [(a_isOn, .inl (cA.1 3, 10, .inl g_isOn)), (a_c, .inl (cA.1 0, 1825, .inl g_c)), (a_words, .inl (cA.1 1, 105, .inr (.inl n_9)))]) ⟨hx, hb, hml, hown, hts⟩ hK hE hT hP hD hS hA (r_must_1 l G cA h0 m_status m_thrown m_above m_under a_traySort a_trayMany a_numbers a_tape m_taped m_textEnd m_faultKind m_faultAt n_1 n_2 n_3 n_4 n_5 n_6 n_7 n_8 a_c a_words m_markMany a_there a_tried a_best a_found m_thereMany m_foundMany m_orderHow m_orderRing m_orderMany m_hasBest m_bestTop m_bestBy a_weights a_shared m_random m_truePlace m_trueWay m_seconds m_done m_feelings m_tries m_leftOver m_playDoor m_playRing m_isOpen m_isOver m_wasTried m_hasPlayed a_feltNow a_last a_kept m_hasSeconds m_hasTurned m_hasRound a_hasFeels a_isOn m_firstAct m_meanTop m_meanBy a_order m_rowMany m_newSteps g_tape hr_m_textEnd hr_n_4 hr_n_5 hr_n_1 hr_n_3 hr_n_6 hr_n_7) lk_RX12_210 ⟨rfl, rfl⟩ ⟨Nat.le_of_ble_eq_true rfl, Nat.le_of_ble_eq_true rfl⟩ 12 rfl rfl rfl [4, 1] [0, 2, 3] rfl rfl (by decide) rfl hl.1 rfl (lv_room (Nat.le_of_ble_eq_true rfl)) dX12_readDoor_24 ⟨Nat.le_of_ble_eq_true rfl, Nat.le_of_ble_eq_true rfl⟩ (fun u_312 H locs hw hP hD hS => ?_)
    obtain ⟨n_305, n_306, n_307, n_308, n_309, n_310⟩ := u_312
    try dsimp only at hw
    obtain ⟨hr_n_305, hr_n_306, hr_n_307, hr_n_308, hr_n_309, hf_313, hf_314, hf_315⟩ := hw
    refine lv_aload_n hx hb dX12_readDoor_27 rfl (lv_at hl 1 rfl) ?_
    refine lv_iconst (v := 0) hx hb dX12_readDoor_28 (by decide) ?_
    refine lv_bipush (v := 99) hx hb dX12_readDoor_29 (by decide) ?_
    refine z_callVi (As := [.int 0, .int 99]) (rest := []) (wr := [(a_isOn, .inl (cA.1 3, 10, .inl g_isOn)), (a_c, .inl (cA.1 0, 1825, .inl g_c)), (a_words, .inl (cA.1 1, 105, .inr (.inl n_9)))]) ⟨hx, hb, hml, hown, hts⟩ hK hE hT hP hD hS hA (r_count l G cA h0 m_status m_thrown m_above m_under a_traySort a_trayMany a_numbers a_tape m_taped m_textEnd m_faultKind m_faultAt n_1 n_2 n_305 n_306 n_307 n_308 n_309 n_310 a_c a_words m_markMany a_there a_tried a_best a_found m_thereMany m_foundMany m_orderHow m_orderRing m_orderMany m_hasBest m_bestTop m_bestBy a_weights a_shared m_random m_truePlace m_trueWay m_seconds m_done m_feelings m_tries m_leftOver m_playDoor m_playRing m_isOpen m_isOver m_wasTried m_hasPlayed a_feltNow a_last a_kept m_hasSeconds m_hasTurned m_hasRound a_hasFeels a_isOn m_firstAct m_meanTop m_meanBy a_order m_rowMany m_newSteps g_tape 0 99 (by decide +kernel) (by decide +kernel) hr_m_textEnd hr_n_306 hr_n_307 hr_n_1 hr_n_305 hr_n_308 hr_n_309) lk_RX12_214 ⟨rfl, rfl⟩ ⟨Nat.le_of_ble_eq_true rfl, Nat.le_of_ble_eq_true rfl⟩ 12 rfl rfl rfl [3, 4] [0, 1, 2] rfl rfl (by decide) rfl hl.1 rfl (lv_room (Nat.le_of_ble_eq_true rfl)) dX12_readDoor_31 ⟨Nat.le_of_ble_eq_true rfl, Nat.le_of_ble_eq_true rfl⟩ (fun r_324 u_325 H locs hw hP hD hS => ?_)
    obtain ⟨n_316, n_317, n_318, n_319, n_320, n_321, n_322, n_323⟩ := u_325
    try dsimp only at hw
    obtain ⟨hr_r_324, hr_n_316, hr_n_318, hr_n_319, hr_n_320, hr_n_321, hr_n_322, hf_326, hf_327, hf_328, hf_329, hf_330, hf_331⟩ := hw
    refine lv_istore_n (lv' := [(2, .int r_324), (1, .int r_10), (0, .ref h0)]) hx hb dX12_readDoor_34 rfl hl (by decide) rfl (fun ls hl => ?_)
    refine lv_aload_n hx hb dX12_readDoor_35 rfl (lv_at hl 2 rfl) ?_
    refine lv_aload_n hx hb dX12_readDoor_36 rfl (lv_at hl 2 rfl) ?_
    refine z_callVi (As := []) (rest := [.ref h0]) (wr := [(a_isOn, .inl (cA.1 3, 10, .inl g_isOn)), (a_c, .inl (cA.1 0, 1825, .inl g_c)), (a_words, .inl (cA.1 1, 105, .inr (.inl n_9))), (a_tape, .inl (cA.1 2, 900, .inl g_tape))]) ⟨hx, hb, hml, hown, hts⟩ hK hE hT hP hD hS hA (r_houseWord l G cA h0 m_status m_thrown m_above m_under a_traySort a_trayMany a_numbers a_tape m_taped m_textEnd m_faultKind m_faultAt n_316 n_317 n_318 n_319 n_320 n_321 n_322 n_323 a_c a_words m_markMany a_there a_tried a_best a_found m_thereMany m_foundMany m_orderHow m_orderRing m_orderMany m_hasBest m_bestTop m_bestBy a_weights a_shared m_random m_truePlace m_trueWay m_seconds m_done m_feelings m_tries m_leftOver m_playDoor m_playRing m_isOpen m_isOver m_wasTried m_hasPlayed a_feltNow a_last a_kept m_hasSeconds m_hasTurned m_hasRound a_hasFeels a_isOn m_firstAct m_meanTop m_meanBy a_order m_rowMany m_newSteps hr_n_318) lk_RX12_170 ⟨rfl, rfl⟩ ⟨Nat.le_of_ble_eq_true rfl, Nat.le_of_ble_eq_true rfl⟩ 12 rfl rfl rfl [3] [0, 1, 2, 4] rfl rfl (by decide) rfl hl.1 rfl (lv_room (Nat.le_of_ble_eq_true rfl)) dX12_readDoor_37 ⟨Nat.le_of_ble_eq_true rfl, Nat.le_of_ble_eq_true rfl⟩ (fun r_332 u_333 H locs hw hP hD hS => ?_)
    obtain ⟨hr_r_332, hf_334⟩ := hw
    refine lv_bipush (v := 10) hx hb dX12_readDoor_40 (by decide) ?_
    refine lv_icmp_ne (tgt := 49) hx hb dX12_readDoor_42 (by decide) (fun c_335 => ?_) (fun c_335 => ?_)
    · have b_336 := z_fneT c_335
      refine lv_iconst (v := 0) hx hb dX12_readDoor_49 (by decide) ?_
      refine z_callVv (As := [.int 0]) (rest := []) (wr := [(a_isOn, .inl (cA.1 3, 10, .inl g_isOn)), (a_c, .inl (cA.1 0, 1825, .inl g_c)), (a_words, .inl (cA.1 1, 105, .inr (.inl n_9))), (a_tape, .inl (cA.1 2, 900, .inl g_tape))]) ⟨hx, hb, hml, hown, hts⟩ hK hE hT hP hD hS hA (r_must_0 l G cA h0 m_status m_thrown m_above m_under a_traySort a_trayMany a_numbers a_tape m_taped m_textEnd m_faultKind m_faultAt n_316 n_317 n_318 n_319 n_320 n_321 n_322 n_323 a_c a_words m_markMany a_there a_tried a_best a_found m_thereMany m_foundMany m_orderHow m_orderRing m_orderMany m_hasBest m_bestTop m_bestBy a_weights a_shared m_random m_truePlace m_trueWay m_seconds m_done m_feelings m_tries m_leftOver m_playDoor m_playRing m_isOpen m_isOver m_wasTried m_hasPlayed a_feltNow a_last a_kept m_hasSeconds m_hasTurned m_hasRound a_hasFeels a_isOn m_firstAct m_meanTop m_meanBy a_order m_rowMany m_newSteps hr_n_319 hr_n_316 hr_n_318) lk_RX12_210 ⟨rfl, rfl⟩ ⟨Nat.le_of_ble_eq_true rfl, Nat.le_of_ble_eq_true rfl⟩ 12 rfl rfl rfl [4] [0, 1, 2, 3] rfl rfl (by decide) rfl hl.1 rfl (lv_room (Nat.le_of_ble_eq_true rfl)) dX12_readDoor_50 ⟨Nat.le_of_ble_eq_true rfl, Nat.le_of_ble_eq_true rfl⟩ (fun u_340 H locs hw hP hD hS => ?_)
      obtain ⟨n_337, n_338⟩ := u_340
      try dsimp only at hw
      have hr_n_337 := hw
      refine lv_iconst (v := 0) hx hb dX12_readDoor_53 (by decide) ?_
      refine lv_istore_n (lv' := [(3, .int 0), (2, .int r_324), (1, .int r_10), (0, .ref h0)]) hx hb dX12_readDoor_54 rfl hl (by decide) rfl (fun ls hl => ?_)
      refine lv_iconst (v := 1) hx hb dX12_readDoor_55 (by decide) ?_
      refine lv_istore (lv' := [(4, .int 1), (3, .int 0), (2, .int r_324), (1, .int r_10), (0, .ref h0)]) hx hb dX12_readDoor_56 hl (by decide) rfl (fun ls hl => ?_)
      have hlp_348 : ∀ (n : Nat) (H : Heap) (locs : List Loc) (ls : Array Slot), (900 - n_320.toInt + (1 : Int32).toInt).toNat < n → (n_337.toInt ≤ 0 → (g_c 1463).toInt = r_10.toInt) → (m_behind.toInt ≤ n_320.toInt) → (n_337.toInt ≤ 0 → n_318.toInt = 0 ∨ m_behind.toInt < n_320.toInt) → va_P G vwCl [(a_isOn, .inl (cA.1 3, 10, .inl g_isOn)), (a_c, .inl (cA.1 0, 1825, .inl g_c)), (a_words, .inl (cA.1 1, 105, .inr (.inl n_9))), (a_tape, .inl (cA.1 2, 900, .inl g_tape)), (h0, .inr (12, [.int m_status, .int m_thrown, .long m_above, .long m_under, .ref a_traySort, .ref a_trayMany, .ref a_numbers, .ref a_tape, .int m_taped, .int m_textEnd, .int m_faultKind, .int m_faultAt, .int n_337, .int n_338, .int n_318, .int n_319, .int n_320, .int n_321, .int n_322, .long n_323, .ref a_c, .ref a_words, .int m_markMany, .ref a_there, .ref a_tried, .ref a_best, .ref a_found, .int m_thereMany, .int m_foundMany, .int m_orderHow, .int m_orderRing, .int m_orderMany, .int m_hasBest, .long m_bestTop, .long m_bestBy, .ref a_weights, .ref a_shared, .int m_random, .int m_truePlace, .int m_trueWay, .int m_seconds, .int m_done, .int m_feelings, .int m_tries, .int m_leftOver, .int m_playDoor, .int m_playRing, .int m_isOpen, .int m_isOver, .int m_wasTried, .int m_hasPlayed, .ref a_feltNow, .ref a_last, .ref a_kept, .int m_hasSeconds, .int m_hasTurned, .int m_hasRound, .ref a_hasFeels, .ref a_isOn, .int m_firstAct, .long m_meanTop, .long m_meanBy, .ref a_order, .int m_rowMany, .int m_newSteps]))] H → va_D A [(a_isOn, .inl (cA.1 3, 10, .inl g_isOn)), (a_c, .inl (cA.1 0, 1825, .inl g_c)), (a_words, .inl (cA.1 1, 105, .inr (.inl n_9))), (a_tape, .inl (cA.1 2, 900, .inl g_tape)), (h0, .inr (12, [.int m_status, .int m_thrown, .long m_above, .long m_under, .ref a_traySort, .ref a_trayMany, .ref a_numbers, .ref a_tape, .int m_taped, .int m_textEnd, .int m_faultKind, .int m_faultAt, .int n_337, .int n_338, .int n_318, .int n_319, .int n_320, .int n_321, .int n_322, .long n_323, .ref a_c, .ref a_words, .int m_markMany, .ref a_there, .ref a_tried, .ref a_best, .ref a_found, .int m_thereMany, .int m_foundMany, .int m_orderHow, .int m_orderRing, .int m_orderMany, .int m_hasBest, .long m_bestTop, .long m_bestBy, .ref a_weights, .ref a_shared, .int m_random, .int m_truePlace, .int m_trueWay, .int m_seconds, .int m_done, .int m_feelings, .int m_tries, .int m_leftOver, .int m_playDoor, .int m_playRing, .int m_isOpen, .int m_isOver, .int m_wasTried, .int m_hasPlayed, .ref a_feltNow, .ref a_last, .ref a_kept, .int m_hasSeconds, .int m_hasTurned, .int m_hasRound, .ref a_hasFeels, .ref a_isOn, .int m_firstAct, .long m_meanTop, .long m_meanBy, .ref a_order, .int m_rowMany, .int m_newSteps]))] → va_S A s.heap H locs → lv_has ls 6 [(0, .ref h0), (1, .int r_10), (2, .int r_324), (3, .int 0), (4, .int 1)] → W p l e ({ frames := 4, cells := 0, slots := 0, locals := 91 }) s m args below meth c H locs 0 0 Q (F0 m 58 ls []) := by
        intro n
        induction n with
        | zero =>
          intro H locs ls hmu_hlp_348 hi_345 hi_346 hi_347 hP hD hS hl
          exact absurd hmu_hlp_348 (Nat.not_lt_zero _)
        | succ n ih_349 =>
          intro H locs ls hmu_hlp_348 hi_345 hi_346 hi_347 hP hD hS hl
          refine lv_iload hx hb dX12_readDoor_58 (lv_at hl 4 rfl) ?_
          refine lv_if_eq (tgt := 141) hx hb dX12_readDoor_60 (by decide) (fun h9 => absurd h9 (by decide +kernel)) (fun _ => ?_)
          refine lv_aload_n hx hb dX12_readDoor_63 rfl (lv_at hl 0 rfl) ?_
          refine va_get (D := G) (ci := 12) (v := .int n_337) (C := RX12) (T := TX12) (N := 65) hx hb hts inT12 hown hK hP 4 rfl rfl 12 (by decide) (hts _ tw_1897) (fun _ h9 => h9) rfl dX12_readDoor_64 ?_
          refine lv_if_ne (tgt := 141) hx hb dX12_readDoor_67 (by decide) (fun c_350 => ?_) (fun h9 => (z_no (by have h8 := z_feqF h9; omega)))
          have b_351 := z_fneT c_350
          refine lv_aload_n hx hb dX12_readDoor_141 rfl (lv_at hl 0 rfl) ?_
          refine va_get (D := G) (ci := 12) (v := .int n_337) (C := RX12) (T := TX12) (N := 65) hx hb hts inT12 hown hK hP 4 rfl rfl 12 (by decide) (hts _ tw_1897) (fun _ h9 => h9) rfl dX12_readDoor_142 ?_
          refine lv_if_le (tgt := 149) hx hb dX12_readDoor_145 (by decide) (fun h9 => (z_no (by have h8 := z_fleT h9; omega))) (fun c_352 => ?_)
          have b_353 := z_fgtF c_352
          have hpost : (0 ≤ n_337.toInt ∧ n_337.toInt ≤ 9) ∧ (0 ≤ n_318.toInt ∧ n_318.toInt ≤ 4) ∧ (0 ≤ n_319.toInt ∧ n_319.toInt ≤ 900) ∧ (0 ≤ n_320.toInt ∧ n_320.toInt ≤ 900) ∧ (0 ≤ n_321.toInt ∧ n_321.toInt ≤ 9999) ∧ (0 ≤ n_322.toInt ∧ n_322.toInt ≤ 900) ∧ (zC g_c) ∧ (zNw g_c g_isOn) ∧ (m_behind.toInt ≤ n_320.toInt) ∧ (0 < m_bad.toInt → 0 < n_337.toInt) ∧ (n_337.toInt ≤ 0 → n_318.toInt = 0 ∨ m_behind.toInt < n_320.toInt) ∧ (n_337.toInt ≤ 0 → n_318.toInt = 3 → n_321.toInt = 59 → zNf g_c) := ⟨(z_rgw hr_n_337 (by decide) (by decide)), hr_n_318, hr_n_319, hr_n_320, hr_n_321, hr_n_322, hC_g_c, hNW0, (by omega), (by omega), (by omega), (fun _ _ _ => hNF0)⟩
          exact hret _ _ _ _ _ (n_337, n_338, n_318, n_319, n_320, n_321, n_322, n_323, n_9, g_c) [4, 3, 1, 2, 0] hP hD hS rfl (by decide) dX12_readDoor_148 hpost
      exact hlp_348 _ _ _ _ (Nat.lt_succ_self _) (by omega) (by omega) (by omega) hP hD hS (lv_sub hl [4, 3, 2, 1, 0] rfl)
    · have b_354 := z_feqF c_335
      refine lv_iconst (v := 1) hx hb dX12_readDoor_45 (by decide) ?_
      refine lv_goto (tgt := 50) hx hb dX12_readDoor_46 (by decide) ?_
      refine z_callVv (As := [.int 1]) (rest := []) (wr := [(a_isOn, .inl (cA.1 3, 10, .inl g_isOn)), (a_c, .inl (cA.1 0, 1825, .inl g_c)), (a_words, .inl (cA.1 1, 105, .inr (.inl n_9)))]) ⟨hx, hb, hml, hown, hts⟩ hK hE hT hP hD hS hA (r_must_1 l G cA h0 m_status m_thrown m_above m_under a_traySort a_trayMany a_numbers a_tape m_taped m_textEnd m_faultKind m_faultAt n_316 n_317 n_318 n_319 n_320 n_321 n_322 n_323 a_c a_words m_markMany a_there a_tried a_best a_found m_thereMany m_foundMany m_orderHow m_orderRing m_orderMany m_hasBest m_bestTop m_bestBy a_weights a_shared m_random m_truePlace m_trueWay m_seconds m_done m_feelings m_tries m_leftOver m_playDoor m_playRing m_isOpen m_isOver m_wasTried m_hasPlayed a_feltNow a_last a_kept m_hasSeconds m_hasTurned m_hasRound a_hasFeels a_isOn m_firstAct m_meanTop m_meanBy a_order m_rowMany m_newSteps g_tape hr_m_textEnd hr_n_319 hr_n_320 hr_n_316 hr_n_318 hr_n_321 hr_n_322) lk_RX12_210 ⟨rfl, rfl⟩ ⟨Nat.le_of_ble_eq_true rfl, Nat.le_of_ble_eq_true rfl⟩ 12 rfl rfl rfl [4, 3] [0, 1, 2] rfl rfl (by decide) rfl hl.1 rfl (lv_room (Nat.le_of_ble_eq_true rfl)) dX12_readDoor_50 ⟨Nat.le_of_ble_eq_true rfl, Nat.le_of_ble_eq_true rfl⟩ (fun u_362 H locs hw hP hD hS => ?_)
      obtain ⟨n_355, n_356, n_357, n_358, n_359, n_360⟩ := u_362
      try dsimp only at hw
      obtain ⟨hr_n_355, hr_n_356, hr_n_357, hr_n_358, hr_n_359, hf_363, hf_364, hf_365⟩ := hw
      refine lv_iconst (v := 0) hx hb dX12_readDoor_53 (by decide) ?_
      refine lv_istore_n (lv' := [(3, .int 0), (2, .int r_324), (1, .int r_10), (0, .ref h0)]) hx hb dX12_readDoor_54 rfl hl (by decide) rfl (fun ls hl => ?_)
      refine lv_iconst (v := 1) hx hb dX12_readDoor_55 (by decide) ?_
      refine lv_istore (lv' := [(4, .int 1), (3, .int 0), (2, .int r_324), (1, .int r_10), (0, .ref h0)]) hx hb dX12_readDoor_56 hl (by decide) rfl (fun ls hl => ?_)
      have hlp_527 : ∀ (n : Nat) (v_467 : Int32) (v_468 : Int32) (v_469 : Int32) (v_470 : Int32) (v_471 : Int32) (v_472 : Int32) (v_473 : Int32) (v_474 : Int32) (v_475 : Int32) (v_476 : Int64) (H : Heap) (locs : List Loc) (ls : Array Slot), (900 - v_473.toInt + v_468.toInt).toNat < n → (0 ≤ v_468.toInt ∧ v_468.toInt ≤ 1) → (0 ≤ v_469.toInt ∧ v_469.toInt ≤ 9) → (0 ≤ v_471.toInt ∧ v_471.toInt ≤ 4) → (0 ≤ v_472.toInt ∧ v_472.toInt ≤ 900) → (0 ≤ v_473.toInt ∧ v_473.toInt ≤ 900) → (0 ≤ v_474.toInt ∧ v_474.toInt ≤ 9999) → (0 ≤ v_475.toInt ∧ v_475.toInt ≤ 900) → (v_469.toInt ≤ 0 → (g_c 1463).toInt = r_10.toInt) → (m_behind.toInt ≤ v_473.toInt) → (v_469.toInt ≤ 0 → v_471.toInt = 0 ∨ m_behind.toInt < v_473.toInt) → va_P G vwCl [(a_isOn, .inl (cA.1 3, 10, .inl g_isOn)), (a_c, .inl (cA.1 0, 1825, .inl g_c)), (a_words, .inl (cA.1 1, 105, .inr (.inl n_9))), (h0, .inr (12, [.int m_status, .int m_thrown, .long m_above, .long m_under, .ref a_traySort, .ref a_trayMany, .ref a_numbers, .ref a_tape, .int m_taped, .int m_textEnd, .int m_faultKind, .int m_faultAt, .int v_469, .int v_470, .int v_471, .int v_472, .int v_473, .int v_474, .int v_475, .long v_476, .ref a_c, .ref a_words, .int m_markMany, .ref a_there, .ref a_tried, .ref a_best, .ref a_found, .int m_thereMany, .int m_foundMany, .int m_orderHow, .int m_orderRing, .int m_orderMany, .int m_hasBest, .long m_bestTop, .long m_bestBy, .ref a_weights, .ref a_shared, .int m_random, .int m_truePlace, .int m_trueWay, .int m_seconds, .int m_done, .int m_feelings, .int m_tries, .int m_leftOver, .int m_playDoor, .int m_playRing, .int m_isOpen, .int m_isOver, .int m_wasTried, .int m_hasPlayed, .ref a_feltNow, .ref a_last, .ref a_kept, .int m_hasSeconds, .int m_hasTurned, .int m_hasRound, .ref a_hasFeels, .ref a_isOn, .int m_firstAct, .long m_meanTop, .long m_meanBy, .ref a_order, .int m_rowMany, .int m_newSteps])), (a_tape, .inl (cA.1 2, 900, .inl g_tape))] H → va_D A [(a_isOn, .inl (cA.1 3, 10, .inl g_isOn)), (a_c, .inl (cA.1 0, 1825, .inl g_c)), (a_words, .inl (cA.1 1, 105, .inr (.inl n_9))), (h0, .inr (12, [.int m_status, .int m_thrown, .long m_above, .long m_under, .ref a_traySort, .ref a_trayMany, .ref a_numbers, .ref a_tape, .int m_taped, .int m_textEnd, .int m_faultKind, .int m_faultAt, .int v_469, .int v_470, .int v_471, .int v_472, .int v_473, .int v_474, .int v_475, .long v_476, .ref a_c, .ref a_words, .int m_markMany, .ref a_there, .ref a_tried, .ref a_best, .ref a_found, .int m_thereMany, .int m_foundMany, .int m_orderHow, .int m_orderRing, .int m_orderMany, .int m_hasBest, .long m_bestTop, .long m_bestBy, .ref a_weights, .ref a_shared, .int m_random, .int m_truePlace, .int m_trueWay, .int m_seconds, .int m_done, .int m_feelings, .int m_tries, .int m_leftOver, .int m_playDoor, .int m_playRing, .int m_isOpen, .int m_isOver, .int m_wasTried, .int m_hasPlayed, .ref a_feltNow, .ref a_last, .ref a_kept, .int m_hasSeconds, .int m_hasTurned, .int m_hasRound, .ref a_hasFeels, .ref a_isOn, .int m_firstAct, .long m_meanTop, .long m_meanBy, .ref a_order, .int m_rowMany, .int m_newSteps])), (a_tape, .inl (cA.1 2, 900, .inl g_tape))] → va_S A s.heap H locs → lv_has ls 6 [(0, .ref h0), (1, .int r_10), (2, .int r_324), (3, .int v_467), (4, .int v_468)] → W p l e ({ frames := 4, cells := 0, slots := 0, locals := 91 }) s m args below meth c H locs 0 0 Q (F0 m 58 ls []) := by
        intro n
        induction n with
        | zero =>
          intro v_467 v_468 v_469 v_470 v_471 v_472 v_473 v_474 v_475 v_476 H locs ls hmu_hlp_527 hr_v_468 hr_v_469 hr_v_471 hr_v_472 hr_v_473 hr_v_474 hr_v_475 hi_524 hi_525 hi_526 hP hD hS hl
          exact absurd hmu_hlp_527 (Nat.not_lt_zero _)
        | succ n ih_528 =>
          intro v_467 v_468 v_469 v_470 v_471 v_472 v_473 v_474 v_475 v_476 H locs ls hmu_hlp_527 hr_v_468 hr_v_469 hr_v_471 hr_v_472 hr_v_473 hr_v_474 hr_v_475 hi_524 hi_525 hi_526 hP hD hS hl
          refine lv_iload hx hb dX12_readDoor_58 (lv_at hl 4 rfl) ?_
          refine lv_if_eq (tgt := 141) hx hb dX12_readDoor_60 (by decide) (fun c_529 => ?_) (fun c_529 => ?_)
          · have b_530 := z_feqT c_529
            refine lv_aload_n hx hb dX12_readDoor_141 rfl (lv_at hl 0 rfl) ?_
            refine va_get (D := G) (ci := 12) (v := .int v_469) (C := RX12) (T := TX12) (N := 65) hx hb hts inT12 hown hK hP 3 rfl rfl 12 (by decide) (hts _ tw_1897) (fun _ h9 => h9) rfl dX12_readDoor_142 ?_
            refine lv_if_le (tgt := 149) hx hb dX12_readDoor_145 (by decide) (fun c_531 => ?_) (fun c_531 => ?_)
            · have b_532 := z_fleT c_531
              refine lv_aload_n hx hb dX12_readDoor_149 rfl (lv_at hl 0 rfl) ?_
              refine va_get (D := G) (ci := 12) (v := .ref a_c) (C := RX12) (T := TX12) (N := 65) hx hb hts inT12 hown hK hP 3 rfl rfl 20 (by decide) (hts _ tw_1905) (fun _ h9 => h9) rfl dX12_readDoor_150 ?_
              refine lv_sipush (v := 1588) hx hb dX12_readDoor_153 (by decide) ?_
              refine lv_iload_n hx hb dX12_readDoor_156 rfl (lv_at hl 1 rfl) ?_
              refine lv_iadd hx hb dX12_readDoor_157 ?_
              refine lv_topi (fun x_533 he_x_533 => ?_)
              have hq_x_533 := z_addq he_x_533 hk_1588 (rfl : r_10.toInt = _) (by omega) (by omega)
              refine lv_iload_n hx hb dX12_readDoor_158 rfl (lv_at hl 2 rfl) ?_
              refine z_iast hx hb hK hP hD hS 1 0 rfl rfl (z_inN (by omega) (by omega)) dX12_readDoor_159 (fun g_534 hg_g_534 H locs hP hD hS => ?_)
              have hC_g_534 := z_ctU hC_g_c hg_g_534 (a := 1588) (b := 1592) (lo := 0) (hi := 99) (by decide +kernel) (by decide +kernel) (by omega) (by omega) (by omega)
              have hw_g_534_1461 := z_cwo hg_g_534 (k := 1461) (by omega) (by omega)
              have hw_g_534_1463 := z_cwo hg_g_534 (k := 1463) (by omega) (by omega)
              have hs_535 : zNw g_534 g_isOn := (zNw_fr hNW0 hg_g_534 (a := 1588) (b := 1592) (by decide +kernel) (by omega) (by omega))
              have hs_536 : zNf g_534 := (zNf_fr hNF0 hg_g_534 (a := 1588) (b := 1592) (by decide +kernel) (by omega) (by omega))
              refine lv_aload_n hx hb dX12_readDoor_160 rfl (lv_at hl 0 rfl) ?_
              refine va_get (D := G) (ci := 12) (v := .ref a_c) (C := RX12) (T := TX12) (N := 65) hx hb hts inT12 hown hK hP 3 rfl rfl 20 (by decide) (hts _ tw_1905) (fun _ h9 => h9) rfl dX12_readDoor_161 ?_
              refine lv_sipush (v := 1593) hx hb dX12_readDoor_164 (by decide) ?_
              refine lv_iload_n hx hb dX12_readDoor_167 rfl (lv_at hl 1 rfl) ?_
              refine lv_iadd hx hb dX12_readDoor_168 ?_
              refine lv_topi (fun x_537 he_x_537 => ?_)
              have hq_x_537 := z_addq he_x_537 hk_1593 (rfl : r_10.toInt = _) (by omega) (by omega)
              refine lv_iload_n hx hb dX12_readDoor_169 rfl (lv_at hl 3 rfl) ?_
              refine z_iast hx hb hK hP hD hS 1 0 rfl rfl (z_inN (by omega) (by omega)) dX12_readDoor_170 (fun g_538 hg_g_538 H locs hP hD hS => ?_)
              have hC_g_538 := z_ctU hC_g_534 hg_g_538 (a := 1593) (b := 1597) (lo := (-2147483648)) (hi := 2147483647) (by decide +kernel) (by decide +kernel) (by omega) (by omega) (z_full _)
              have hw_g_538_1461 := z_cwo hg_g_538 (k := 1461) (by omega) (by omega)
              have hw_g_538_1463 := z_cwo hg_g_538 (k := 1463) (by omega) (by omega)
              have hs_539 : zNw g_538 g_isOn := (zNw_fr hs_535 hg_g_538 (a := 1593) (b := 1597) (by decide +kernel) (by omega) (by omega))
              have hs_540 : zNf g_538 := (zNf_fr hs_536 hg_g_538 (a := 1593) (b := 1597) (by decide +kernel) (by omega) (by omega))
              refine lv_aload_n hx hb dX12_readDoor_171 rfl (lv_at hl 0 rfl) ?_
              refine va_get (D := G) (ci := 12) (v := .ref a_c) (C := RX12) (T := TX12) (N := 65) hx hb hts inT12 hown hK hP 3 rfl rfl 20 (by decide) (hts _ tw_1905) (fun _ h9 => h9) rfl dX12_readDoor_172 ?_
              refine lv_sipush (v := 1463) hx hb dX12_readDoor_175 (by decide) ?_
              refine lv_dup2_11 hx hb dX12_readDoor_178 rfl rfl ?_
              refine va_iald hx hb hK hP 1 0 rfl rfl (z_in (i := 1463) (n := 1825) (by decide +kernel) (by decide +kernel)) dX12_readDoor_179 ?_
              refine lv_topi (fun x_541 he_x_541 => ?_)
              have hr_x_541 := z_ctk hC_g_538 he_x_541 (k := 1463) (lo := 0) (hi := 5) (by decide +kernel) (by decide +kernel) (by decide +kernel)
              have hv_x_541 := z_cv he_x_541 (k := 1463) (by decide +kernel)
              refine lv_iconst (v := 1) hx hb dX12_readDoor_180 (by decide) ?_
              refine lv_iadd hx hb dX12_readDoor_181 ?_
              refine lv_topi (fun x_542 he_x_542 => ?_)
              have hq_x_542 := z_addq he_x_542 (rfl : x_541.toInt = _) hk_1 (by omega) (by omega)
              refine z_iast hx hb hK hP hD hS 1 0 rfl rfl (z_in (i := 1463) (n := 1825) (by decide +kernel) (by decide +kernel)) dX12_readDoor_182 (fun g_543 hg_g_543 H locs hP hD hS => ?_)
              have hC_g_543 := z_ctUk hC_g_538 hg_g_543 (k := 1463) (lo := 0) (hi := 5) (by decide +kernel) (by decide +kernel) (by decide +kernel) (by omega)
              have hw_g_543_1461 := z_cwo hg_g_543 (k := 1461) (by decide +kernel) (by decide +kernel)
              have hw_g_543_1463 := z_cwk hg_g_543 (k := 1463) (by decide +kernel)
              have hs_544 : zNw g_543 g_isOn := (zNw_fr hs_539 hg_g_543 (a := 1463) (b := 1463) (by decide +kernel) (by decide +kernel) (by decide +kernel))
              have hs_545 : zNf g_543 := (zNf_fr hs_540 hg_g_543 (a := 1463) (b := 1463) (by decide +kernel) (by decide +kernel) (by decide +kernel))
              have hpost : (0 ≤ v_469.toInt ∧ v_469.toInt ≤ 9) ∧ (0 ≤ v_471.toInt ∧ v_471.toInt ≤ 4) ∧ (0 ≤ v_472.toInt ∧ v_472.toInt ≤ 900) ∧ (0 ≤ v_473.toInt ∧ v_473.toInt ≤ 900) ∧ (0 ≤ v_474.toInt ∧ v_474.toInt ≤ 9999) ∧ (0 ≤ v_475.toInt ∧ v_475.toInt ≤ 900) ∧ (zC g_543) ∧ (zNw g_543 g_isOn) ∧ (m_behind.toInt ≤ v_473.toInt) ∧ (0 < m_bad.toInt → 0 < v_469.toInt) ∧ (v_469.toInt ≤ 0 → v_471.toInt = 0 ∨ m_behind.toInt < v_473.toInt) ∧ (v_469.toInt ≤ 0 → v_471.toInt = 3 → v_474.toInt = 59 → zNf g_543) := ⟨hr_v_469, hr_v_471, hr_v_472, hr_v_473, hr_v_474, hr_v_475, hC_g_543, hs_544, (by omega), (by omega), (by omega), (fun _ _ _ => hs_545)⟩
              exact hret _ _ _ _ _ (v_469, v_470, v_471, v_472, v_473, v_474, v_475, v_476, n_9, g_543) [3, 4, 1, 2, 0] hP hD hS rfl (by decide) dX12_readDoor_183 hpost
            · have b_546 := z_fgtF c_531
              have hpost : (0 ≤ v_469.toInt ∧ v_469.toInt ≤ 9) ∧ (0 ≤ v_471.toInt ∧ v_471.toInt ≤ 4) ∧ (0 ≤ v_472.toInt ∧ v_472.toInt ≤ 900) ∧ (0 ≤ v_473.toInt ∧ v_473.toInt ≤ 900) ∧ (0 ≤ v_474.toInt ∧ v_474.toInt ≤ 9999) ∧ (0 ≤ v_475.toInt ∧ v_475.toInt ≤ 900) ∧ (zC g_c) ∧ (zNw g_c g_isOn) ∧ (m_behind.toInt ≤ v_473.toInt) ∧ (0 < m_bad.toInt → 0 < v_469.toInt) ∧ (v_469.toInt ≤ 0 → v_471.toInt = 0 ∨ m_behind.toInt < v_473.toInt) ∧ (v_469.toInt ≤ 0 → v_471.toInt = 3 → v_474.toInt = 59 → zNf g_c) := ⟨hr_v_469, hr_v_471, hr_v_472, hr_v_473, hr_v_474, hr_v_475, hC_g_c, hNW0, (by omega), (by omega), (by omega), (fun _ _ _ => hNF0)⟩
              exact hret _ _ _ _ _ (v_469, v_470, v_471, v_472, v_473, v_474, v_475, v_476, n_9, g_c) [3, 4, 1, 2, 0] hP hD hS rfl (by decide) dX12_readDoor_148 hpost
          · have b_547 := z_fneF c_529
            refine lv_aload_n hx hb dX12_readDoor_63 rfl (lv_at hl 0 rfl) ?_
            refine va_get (D := G) (ci := 12) (v := .int v_469) (C := RX12) (T := TX12) (N := 65) hx hb hts inT12 hown hK hP 3 rfl rfl 12 (by decide) (hts _ tw_1897) (fun _ h9 => h9) rfl dX12_readDoor_64 ?_
            refine lv_if_ne (tgt := 141) hx hb dX12_readDoor_67 (by decide) (fun c_548 => ?_) (fun c_548 => ?_)
            · have b_549 := z_fneT c_548
              refine lv_aload_n hx hb dX12_readDoor_141 rfl (lv_at hl 0 rfl) ?_
              refine va_get (D := G) (ci := 12) (v := .int v_469) (C := RX12) (T := TX12) (N := 65) hx hb hts inT12 hown hK hP 3 rfl rfl 12 (by decide) (hts _ tw_1897) (fun _ h9 => h9) rfl dX12_readDoor_142 ?_
              refine lv_if_le (tgt := 149) hx hb dX12_readDoor_145 (by decide) (fun h9 => (z_no (by have h8 := z_fleT h9; omega))) (fun c_550 => ?_)
              have b_551 := z_fgtF c_550
              have hpost : (0 ≤ v_469.toInt ∧ v_469.toInt ≤ 9) ∧ (0 ≤ v_471.toInt ∧ v_471.toInt ≤ 4) ∧ (0 ≤ v_472.toInt ∧ v_472.toInt ≤ 900) ∧ (0 ≤ v_473.toInt ∧ v_473.toInt ≤ 900) ∧ (0 ≤ v_474.toInt ∧ v_474.toInt ≤ 9999) ∧ (0 ≤ v_475.toInt ∧ v_475.toInt ≤ 900) ∧ (zC g_c) ∧ (zNw g_c g_isOn) ∧ (m_behind.toInt ≤ v_473.toInt) ∧ (0 < m_bad.toInt → 0 < v_469.toInt) ∧ (v_469.toInt ≤ 0 → v_471.toInt = 0 ∨ m_behind.toInt < v_473.toInt) ∧ (v_469.toInt ≤ 0 → v_471.toInt = 3 → v_474.toInt = 59 → zNf g_c) := ⟨hr_v_469, hr_v_471, hr_v_472, hr_v_473, hr_v_474, hr_v_475, hC_g_c, hNW0, (by omega), (by omega), (by omega), (fun _ _ _ => hNF0)⟩
              exact hret _ _ _ _ _ (v_469, v_470, v_471, v_472, v_473, v_474, v_475, v_476, n_9, g_c) [3, 4, 1, 2, 0] hP hD hS rfl (by decide) dX12_readDoor_148 hpost
            · have b_552 := z_feqF c_548
              refine lv_aload_n hx hb dX12_readDoor_70 rfl (lv_at hl 0 rfl) ?_
              refine lv_iconst (v := 1) hx hb dX12_readDoor_71 (by decide) ?_
              refine lv_iconst (v := 3) hx hb dX12_readDoor_72 (by decide) ?_
              refine z_callVi (As := [.int 1, .int 3]) (rest := []) (wr := [(a_isOn, .inl (cA.1 3, 10, .inl g_isOn)), (a_tape, .inl (cA.1 2, 900, .inl g_tape))]) ⟨hx, hb, hml, hown, hts⟩ hK hE hT hP hD hS hA (r_readOld_1 l G cA h0 m_status m_thrown m_above m_under a_traySort a_trayMany a_numbers a_tape m_taped m_textEnd m_faultKind m_faultAt v_469 v_470 v_471 v_472 v_473 v_474 v_475 v_476 a_c a_words m_markMany a_there a_tried a_best a_found m_thereMany m_foundMany m_orderHow m_orderRing m_orderMany m_hasBest m_bestTop m_bestBy a_weights a_shared m_random m_truePlace m_trueWay m_seconds m_done m_feelings m_tries m_leftOver m_playDoor m_playRing m_isOpen m_isOver m_wasTried m_hasPlayed a_feltNow a_last a_kept m_hasSeconds m_hasTurned m_hasRound a_hasFeels a_isOn m_firstAct m_meanTop m_meanBy a_order m_rowMany m_newSteps g_c n_9 hr_v_472 hr_v_469 hr_v_471 hr_v_475 hC_g_c) lk_RX12_217 ⟨rfl, rfl⟩ ⟨Nat.le_of_ble_eq_true rfl, Nat.le_of_ble_eq_true rfl⟩ 12 rfl rfl rfl [3, 1, 2] [0, 4] rfl rfl (by decide) rfl hl.1 rfl (lv_room (Nat.le_of_ble_eq_true rfl)) dX12_readDoor_73 ⟨Nat.le_of_ble_eq_true rfl, Nat.le_of_ble_eq_true rfl⟩ (fun r_555 u_556 H locs hw hP hD hS => ?_)
              obtain ⟨n_553, n_554⟩ := u_556
              try dsimp only at hw
              obtain ⟨hr_r_555, hr_n_553, hf_557, hf_558, hf_559⟩ := hw
              refine lv_istore (lv' := [(5, .int r_555), (0, .ref h0), (1, .int r_10), (2, .int r_324), (3, .int v_467), (4, .int v_468)]) hx hb dX12_readDoor_76 hl (by decide) rfl (fun ls hl => ?_)
              refine lv_aload_n hx hb dX12_readDoor_78 rfl (lv_at hl 1 rfl) ?_
              refine va_get (D := G) (ci := 12) (v := .int n_553) (C := RX12) (T := TX12) (N := 65) hx hb hts inT12 hown hK hP 2 rfl rfl 12 (by decide) (hts _ tw_1897) (fun _ h9 => h9) rfl dX12_readDoor_79 ?_
              refine lv_if_ne (tgt := 104) hx hb dX12_readDoor_82 (by decide) (fun c_560 => ?_) (fun c_560 => ?_)
              · have b_561 := z_fneT c_560
                refine lv_aload_n hx hb dX12_readDoor_104 rfl (lv_at hl 1 rfl) ?_
                refine va_get (D := G) (ci := 12) (v := .int n_553) (C := RX12) (T := TX12) (N := 65) hx hb hts inT12 hown hK hP 2 rfl rfl 12 (by decide) (hts _ tw_1897) (fun _ h9 => h9) rfl dX12_readDoor_105 ?_
                refine lv_if_le (tgt := 112) hx hb dX12_readDoor_108 (by decide) (fun h9 => (z_no (by have h8 := z_fleT h9; omega))) (fun c_562 => ?_)
                have b_563 := z_fgtF c_562
                have hpost : (0 ≤ n_553.toInt ∧ n_553.toInt ≤ 9) ∧ (0 ≤ v_471.toInt ∧ v_471.toInt ≤ 4) ∧ (0 ≤ v_472.toInt ∧ v_472.toInt ≤ 900) ∧ (0 ≤ v_473.toInt ∧ v_473.toInt ≤ 900) ∧ (0 ≤ v_474.toInt ∧ v_474.toInt ≤ 9999) ∧ (0 ≤ v_475.toInt ∧ v_475.toInt ≤ 900) ∧ (zC g_c) ∧ (zNw g_c g_isOn) ∧ (m_behind.toInt ≤ v_473.toInt) ∧ (0 < m_bad.toInt → 0 < n_553.toInt) ∧ (n_553.toInt ≤ 0 → v_471.toInt = 0 ∨ m_behind.toInt < v_473.toInt) ∧ (n_553.toInt ≤ 0 → v_471.toInt = 3 → v_474.toInt = 59 → zNf g_c) := ⟨hr_n_553, hr_v_471, hr_v_472, hr_v_473, hr_v_474, hr_v_475, hC_g_c, hNW0, (by omega), (by omega), (by omega), (fun _ _ _ => hNF0)⟩
                exact hret _ _ _ _ _ (n_553, n_554, v_471, v_472, v_473, v_474, v_475, v_476, n_9, g_c) [2, 1, 3, 4, 0] hP hD hS rfl (by decide) dX12_readDoor_111 hpost
              · have b_564 := z_feqF c_560
                refine lv_iload_n hx hb dX12_readDoor_85 rfl (lv_at hl 4 rfl) ?_
                refine lv_iload hx hb dX12_readDoor_86 (lv_at hl 0 rfl) ?_
                refine lv_ishr hx hb dX12_readDoor_88 ?_
                have hL_v_467 := z_full v_467
                refine lv_topi (fun x_565 he_x_565 => ?_)
                refine lv_iconst (v := 1) hx hb dX12_readDoor_89 (by decide) ?_
                refine lv_iand hx hb dX12_readDoor_90 ?_
                have hL_x_565 := z_full x_565
                refine lv_topi (fun x_566 he_x_566 => ?_)
                have hr_x_566 := z_andr he_x_566 hk_1 (by decide)
                refine lv_iconst (v := 1) hx hb dX12_readDoor_91 (by decide) ?_
                refine lv_icmp_ne (tgt := 104) hx hb dX12_readDoor_92 (by decide) (fun c_567 => ?_) (fun c_567 => ?_)
                · have b_568 := z_fneT c_567
                  refine lv_aload_n hx hb dX12_readDoor_104 rfl (lv_at hl 1 rfl) ?_
                  refine va_get (D := G) (ci := 12) (v := .int n_553) (C := RX12) (T := TX12) (N := 65) hx hb hts inT12 hown hK hP 2 rfl rfl 12 (by decide) (hts _ tw_1897) (fun _ h9 => h9) rfl dX12_readDoor_105 ?_
                  refine lv_if_le (tgt := 112) hx hb dX12_readDoor_108 (by decide) (fun c_569 => ?_) (fun h9 => (z_no (by have h8 := z_fgtF h9; omega)))
                  have b_570 := z_fleT c_569
                  refine lv_iload_n hx hb dX12_readDoor_112 rfl (lv_at hl 4 rfl) ?_
                  refine lv_iconst (v := 1) hx hb dX12_readDoor_113 (by decide) ?_
                  refine lv_iload hx hb dX12_readDoor_114 (lv_at hl 0 rfl) ?_
                  refine lv_ishl hx hb dX12_readDoor_116 ?_
                  refine lv_topi (fun x_571 he_x_571 => ?_)
                  refine lv_ior hx hb dX12_readDoor_117 ?_
                  have hL_x_571 := z_full x_571
                  refine lv_topi (fun x_572 he_x_572 => ?_)
                  refine lv_istore_n (lv' := [(3, .int x_572), (5, .int r_555), (0, .ref h0), (1, .int r_10), (2, .int r_324), (4, .int v_468)]) hx hb dX12_readDoor_118 rfl hl (by decide) rfl (fun ls hl => ?_)
                  refine lv_aload_n hx hb dX12_readDoor_119 rfl (lv_at hl 2 rfl) ?_
                  refine z_callVv (As := []) (rest := []) (wr := [(a_isOn, .inl (cA.1 3, 10, .inl g_isOn)), (a_c, .inl (cA.1 0, 1825, .inl g_c)), (a_words, .inl (cA.1 1, 105, .inr (.inl n_9)))]) ⟨hx, hb, hml, hown, hts⟩ hK hE hT hP hD hS hA (r_next2 l G cA h0 m_status m_thrown m_above m_under a_traySort a_trayMany a_numbers a_tape m_taped m_textEnd m_faultKind m_faultAt n_553 n_554 v_471 v_472 v_473 v_474 v_475 v_476 a_c a_words m_markMany a_there a_tried a_best a_found m_thereMany m_foundMany m_orderHow m_orderRing m_orderMany m_hasBest m_bestTop m_bestBy a_weights a_shared m_random m_truePlace m_trueWay m_seconds m_done m_feelings m_tries m_leftOver m_playDoor m_playRing m_isOpen m_isOver m_wasTried m_hasPlayed a_feltNow a_last a_kept m_hasSeconds m_hasTurned m_hasRound a_hasFeels a_isOn m_firstAct m_meanTop m_meanBy a_order m_rowMany m_newSteps g_tape hr_m_textEnd hr_v_472 hr_v_473 hr_v_471 hr_v_474 hr_v_475) lk_RX12_184 ⟨rfl, rfl⟩ ⟨Nat.le_of_ble_eq_true rfl, Nat.le_of_ble_eq_true rfl⟩ 12 rfl rfl rfl [2, 1] [0, 3, 4] rfl rfl (by decide) rfl hl.1 rfl (lv_room (Nat.le_of_ble_eq_true rfl)) dX12_readDoor_120 ⟨Nat.le_of_ble_eq_true rfl, Nat.le_of_ble_eq_true rfl⟩ (fun u_580 H locs hw hP hD hS => ?_)
                  obtain ⟨n_573, n_574, n_575, n_576, n_577, n_578⟩ := u_580
                  try dsimp only at hw
                  obtain ⟨hr_n_573, hr_n_574, hr_n_575, hr_n_576, hr_n_577, hf_581, hf_582⟩ := hw
                  refine lv_aload_n hx hb dX12_readDoor_123 rfl (lv_at hl 2 rfl) ?_
                  refine va_get (D := G) (ci := 12) (v := .int n_573) (C := RX12) (T := TX12) (N := 65) hx hb hts inT12 hown hK hP 3 rfl rfl 14 (by decide) (hts _ tw_1899) (fun _ h9 => h9) rfl dX12_readDoor_124 ?_
                  refine lv_iconst (v := 1) hx hb dX12_readDoor_127 (by decide) ?_
                  refine lv_icmp_ne (tgt := 135) hx hb dX12_readDoor_128 (by decide) (fun c_583 => ?_) (fun c_583 => ?_)
                  · have b_584 := z_fneT c_583
                    refine lv_iconst (v := 0) hx hb dX12_readDoor_135 (by decide) ?_
                    refine lv_istore (lv' := [(4, .int 0), (3, .int x_572), (5, .int r_555), (0, .ref h0), (1, .int r_10), (2, .int r_324)]) hx hb dX12_readDoor_136 hl (by decide) rfl (fun ls hl => ?_)
                    refine lv_goto (tgt := 58) hx hb dX12_readDoor_138 (by decide) ?_
                    exact ih_528 x_572 0 n_553 n_554 n_573 n_574 n_575 n_576 n_577 n_578 H locs ls (by omega) (by decide +kernel) hr_n_553 hr_n_573 hr_n_574 hr_n_575 hr_n_576 hr_n_577 (by omega) (by omega) (by omega) hP hD hS (lv_sub hl [3, 4, 5, 1, 0] rfl)
                  · have b_585 := z_feqF c_583
                    refine lv_iconst (v := 1) hx hb dX12_readDoor_131 (by decide) ?_
                    refine lv_goto (tgt := 136) hx hb dX12_readDoor_132 (by decide) ?_
                    refine lv_istore (lv' := [(4, .int 1), (3, .int x_572), (5, .int r_555), (0, .ref h0), (1, .int r_10), (2, .int r_324)]) hx hb dX12_readDoor_136 hl (by decide) rfl (fun ls hl => ?_)
                    refine lv_goto (tgt := 58) hx hb dX12_readDoor_138 (by decide) ?_
                    exact ih_528 x_572 1 n_553 n_554 n_573 n_574 n_575 n_576 n_577 n_578 H locs ls (by omega) (by decide +kernel) hr_n_553 hr_n_573 hr_n_574 hr_n_575 hr_n_576 hr_n_577 (by omega) (by omega) (by omega) hP hD hS (lv_sub hl [3, 4, 5, 1, 0] rfl)
                · have b_586 := z_feqF c_567
                  refine lv_aload_n hx hb dX12_readDoor_95 rfl (lv_at hl 1 rfl) ?_
                  refine lv_iconst (v := 5) hx hb dX12_readDoor_96 (by decide) ?_
                  refine lv_aload_n hx hb dX12_readDoor_97 rfl (lv_at hl 1 rfl) ?_
                  refine va_get (D := G) (ci := 12) (v := .int v_472) (C := RX12) (T := TX12) (N := 65) hx hb hts inT12 hown hK hP 2 rfl rfl 15 (by decide) (hts _ tw_1900) (fun _ h9 => h9) rfl dX12_readDoor_98 ?_
                  refine z_callVv (As := [.int 5, .int v_472]) (rest := []) (wr := [(a_isOn, .inl (cA.1 3, 10, .inl g_isOn)), (a_tape, .inl (cA.1 2, 900, .inl g_tape)), (a_c, .inl (cA.1 0, 1825, .inl g_c)), (a_words, .inl (cA.1 1, 105, .inr (.inl n_9)))]) ⟨hx, hb, hml, hown, hts⟩ hK hE hT hP hD hS hA (r_fail l G cA h0 m_status m_thrown m_above m_under a_traySort a_trayMany a_numbers a_tape m_taped m_textEnd m_faultKind m_faultAt n_553 n_554 v_471 v_472 v_473 v_474 v_475 v_476 a_c a_words m_markMany a_there a_tried a_best a_found m_thereMany m_foundMany m_orderHow m_orderRing m_orderMany m_hasBest m_bestTop m_bestBy a_weights a_shared m_random m_truePlace m_trueWay m_seconds m_done m_feelings m_tries m_leftOver m_playDoor m_playRing m_isOpen m_isOver m_wasTried m_hasPlayed a_feltNow a_last a_kept m_hasSeconds m_hasTurned m_hasRound a_hasFeels a_isOn m_firstAct m_meanTop m_meanBy a_order m_rowMany m_newSteps 5 v_472 (by decide +kernel) hr_n_553) lk_RX12_180 ⟨rfl, rfl⟩ ⟨Nat.le_of_ble_eq_true rfl, Nat.le_of_ble_eq_true rfl⟩ 12 rfl rfl rfl [2] [0, 1, 3, 4] rfl rfl (by decide) rfl hl.1 rfl (lv_room (Nat.le_of_ble_eq_true rfl)) dX12_readDoor_101 ⟨Nat.le_of_ble_eq_true rfl, Nat.le_of_ble_eq_true rfl⟩ (fun u_590 H locs hw hP hD hS => ?_)
                  obtain ⟨n_587, n_588⟩ := u_590
                  try dsimp only at hw
                  obtain ⟨hr_n_587, hf_591⟩ := hw
                  refine lv_aload_n hx hb dX12_readDoor_104 rfl (lv_at hl 1 rfl) ?_
                  refine va_get (D := G) (ci := 12) (v := .int n_587) (C := RX12) (T := TX12) (N := 65) hx hb hts inT12 hown hK hP 4 rfl rfl 12 (by decide) (hts _ tw_1897) (fun _ h9 => h9) rfl dX12_readDoor_105 ?_
                  refine lv_if_le (tgt := 112) hx hb dX12_readDoor_108 (by decide) (fun h9 => (z_no (by have h8 := z_fleT h9; omega))) (fun c_592 => ?_)
                  have b_593 := z_fgtF c_592
                  have hpost : (0 ≤ n_587.toInt ∧ n_587.toInt ≤ 9) ∧ (0 ≤ v_471.toInt ∧ v_471.toInt ≤ 4) ∧ (0 ≤ v_472.toInt ∧ v_472.toInt ≤ 900) ∧ (0 ≤ v_473.toInt ∧ v_473.toInt ≤ 900) ∧ (0 ≤ v_474.toInt ∧ v_474.toInt ≤ 9999) ∧ (0 ≤ v_475.toInt ∧ v_475.toInt ≤ 900) ∧ (zC g_c) ∧ (zNw g_c g_isOn) ∧ (m_behind.toInt ≤ v_473.toInt) ∧ (0 < m_bad.toInt → 0 < n_587.toInt) ∧ (n_587.toInt ≤ 0 → v_471.toInt = 0 ∨ m_behind.toInt < v_473.toInt) ∧ (n_587.toInt ≤ 0 → v_471.toInt = 3 → v_474.toInt = 59 → zNf g_c) := ⟨(z_rgw hr_n_587 (by decide) (by decide)), hr_v_471, hr_v_472, hr_v_473, hr_v_474, hr_v_475, hC_g_c, hNW0, (by omega), (by omega), (by omega), (fun _ _ _ => hNF0)⟩
                  exact hret _ _ _ _ _ (n_587, n_588, v_471, v_472, v_473, v_474, v_475, v_476, n_9, g_c) [4, 1, 2, 3, 0] hP hD hS rfl (by decide) dX12_readDoor_111 hpost
      exact hlp_527 _ 0 1 n_316 n_317 n_355 n_356 n_357 n_358 n_359 n_360 _ _ _ (Nat.lt_succ_self _) (by decide +kernel) hr_n_316 hr_n_355 hr_n_356 hr_n_357 hr_n_358 hr_n_359 (by omega) (by omega) (by omega) hP hD hS (lv_sub hl [4, 3, 2, 1, 0] rfl)
set_option maxHeartbeats 4000000 in
set_option maxRecDepth 100000 in
theorem r_readSeconds (l : Launch) (G : va_G) (cA : zCA) (h0 : Nat) (m_status : Int32) (m_thrown : Int32) (m_above : Int64) (m_under : Int64) (a_traySort : Nat) (a_trayMany : Nat) (a_numbers : Nat) (a_tape : Nat) (m_taped : Int32) (m_textEnd : Int32) (m_faultKind : Int32) (m_faultAt : Int32) (m_bad : Int32) (m_badAt : Int32) (m_token : Int32) (m_at : Int32) (m_behind : Int32) (m_number : Int32) (m_letters : Int32) (m_word : Int64) (a_c : Nat) (a_words : Nat) (m_markMany : Int32) (a_there : Nat) (a_tried : Nat) (a_best : Nat) (a_found : Nat) (m_thereMany : Int32) (m_foundMany : Int32) (m_orderHow : Int32) (m_orderRing : Int32) (m_orderMany : Int32) (m_hasBest : Int32) (m_bestTop : Int64) (m_bestBy : Int64) (a_weights : Nat) (a_shared : Nat) (m_random : Int32) (m_truePlace : Int32) (m_trueWay : Int32) (m_seconds : Int32) (m_done : Int32) (m_feelings : Int32) (m_tries : Int32) (m_leftOver : Int32) (m_playDoor : Int32) (m_playRing : Int32) (m_isOpen : Int32) (m_isOver : Int32) (m_wasTried : Int32) (m_hasPlayed : Int32) (a_feltNow : Nat) (a_last : Nat) (a_kept : Nat) (m_hasSeconds : Int32) (m_hasTurned : Int32) (m_hasRound : Int32) (a_hasFeels : Nat) (a_isOn : Nat) (m_firstAct : Int32) (m_meanTop : Int64) (m_meanBy : Int64) (a_order : Nat) (m_rowMany : Int32) (m_newSteps : Int32) (g_tape : Nat → Int32) (g_c : Nat → Int32) (g_isOn : Nat → Int32) (hr_m_textEnd : 0 ≤ m_textEnd.toInt ∧ m_textEnd.toInt ≤ 900) (hr_m_at : 0 ≤ m_at.toInt ∧ m_at.toInt ≤ 900) (hr_m_behind : 0 ≤ m_behind.toInt ∧ m_behind.toInt ≤ 900) (hr_m_bad : 0 ≤ m_bad.toInt ∧ m_bad.toInt ≤ 0) (hr_m_token : 0 ≤ m_token.toInt ∧ m_token.toInt ≤ 4) (hr_m_number : 0 ≤ m_number.toInt ∧ m_number.toInt ≤ 9999) (hr_m_letters : 0 ≤ m_letters.toInt ∧ m_letters.toInt ≤ 900) (hz_m_hasSeconds : m_hasSeconds = 0 ∨ m_hasSeconds = 1) (hC_g_c : zC g_c) (hC_g_isOn : zRg 10 0 1 g_isOn) (hNW0 : zNw g_c g_isOn) (hNF0 : zNf g_c) : zCv l yX12_readSeconds cX12_readSeconds 2 none ({ frames := 3, cells := 0, slots := 0, locals := 65 }) G cA [.ref h0] [(h0, .inr (12, [.int m_status, .int m_thrown, .long m_above, .long m_under, .ref a_traySort, .ref a_trayMany, .ref a_numbers, .ref a_tape, .int m_taped, .int m_textEnd, .int m_faultKind, .int m_faultAt, .int m_bad, .int m_badAt, .int m_token, .int m_at, .int m_behind, .int m_number, .int m_letters, .long m_word, .ref a_c, .ref a_words, .int m_markMany, .ref a_there, .ref a_tried, .ref a_best, .ref a_found, .int m_thereMany, .int m_foundMany, .int m_orderHow, .int m_orderRing, .int m_orderMany, .int m_hasBest, .long m_bestTop, .long m_bestBy, .ref a_weights, .ref a_shared, .int m_random, .int m_truePlace, .int m_trueWay, .int m_seconds, .int m_done, .int m_feelings, .int m_tries, .int m_leftOver, .int m_playDoor, .int m_playRing, .int m_isOpen, .int m_isOver, .int m_wasTried, .int m_hasPlayed, .ref a_feltNow, .ref a_last, .ref a_kept, .int m_hasSeconds, .int m_hasTurned, .int m_hasRound, .ref a_hasFeels, .ref a_isOn, .int m_firstAct, .long m_meanTop, .long m_meanBy, .ref a_order, .int m_rowMany, .int m_newSteps])), (a_tape, .inl (cA.1 2, 900, .inl g_tape)), (a_c, .inl (cA.1 0, 1825, .inl g_c)), (a_isOn, .inl (cA.1 3, 10, .inl g_isOn))] (S := Int32 × Int32 × Int32 × Int32 × Int32 × Int32 × Int32 × Int64 × Int32 × (Nat → Int32)) (fun (u : Int32 × Int32 × Int32 × Int32 × Int32 × Int32 × Int32 × Int64 × Int32 × (Nat → Int32)) => (0 ≤ u.1.toInt ∧ u.1.toInt ≤ 9) ∧ (0 ≤ u.2.2.1.toInt ∧ u.2.2.1.toInt ≤ 4) ∧ (0 ≤ u.2.2.2.1.toInt ∧ u.2.2.2.1.toInt ≤ 900) ∧ (0 ≤ u.2.2.2.2.1.toInt ∧ u.2.2.2.2.1.toInt ≤ 900) ∧ (0 ≤ u.2.2.2.2.2.1.toInt ∧ u.2.2.2.2.2.1.toInt ≤ 9999) ∧ (0 ≤ u.2.2.2.2.2.2.1.toInt ∧ u.2.2.2.2.2.2.1.toInt ≤ 900) ∧ (u.2.2.2.2.2.2.2.2.1 = 0 ∨ u.2.2.2.2.2.2.2.2.1 = 1) ∧ (zC u.2.2.2.2.2.2.2.2.2) ∧ (zNw u.2.2.2.2.2.2.2.2.2 g_isOn) ∧ (m_behind.toInt ≤ u.2.2.2.2.1.toInt) ∧ (0 < m_bad.toInt → 0 < u.1.toInt) ∧ (u.1.toInt ≤ 0 → u.2.2.1.toInt = 0 ∨ m_behind.toInt < u.2.2.2.2.1.toInt) ∧ (u.1.toInt ≤ 0 → u.2.2.1.toInt = 3 → u.2.2.2.2.2.1.toInt = 59 → zNf u.2.2.2.2.2.2.2.2.2)) (fun (u : Int32 × Int32 × Int32 × Int32 × Int32 × Int32 × Int32 × Int64 × Int32 × (Nat → Int32)) => [(h0, .inr (12, [.int m_status, .int m_thrown, .long m_above, .long m_under, .ref a_traySort, .ref a_trayMany, .ref a_numbers, .ref a_tape, .int m_taped, .int m_textEnd, .int m_faultKind, .int m_faultAt, .int u.1, .int u.2.1, .int u.2.2.1, .int u.2.2.2.1, .int u.2.2.2.2.1, .int u.2.2.2.2.2.1, .int u.2.2.2.2.2.2.1, .long u.2.2.2.2.2.2.2.1, .ref a_c, .ref a_words, .int m_markMany, .ref a_there, .ref a_tried, .ref a_best, .ref a_found, .int m_thereMany, .int m_foundMany, .int m_orderHow, .int m_orderRing, .int m_orderMany, .int m_hasBest, .long m_bestTop, .long m_bestBy, .ref a_weights, .ref a_shared, .int m_random, .int m_truePlace, .int m_trueWay, .int m_seconds, .int m_done, .int m_feelings, .int m_tries, .int m_leftOver, .int m_playDoor, .int m_playRing, .int m_isOpen, .int m_isOver, .int m_wasTried, .int m_hasPlayed, .ref a_feltNow, .ref a_last, .ref a_kept, .int u.2.2.2.2.2.2.2.2.1, .int m_hasTurned, .int m_hasRound, .ref a_hasFeels, .ref a_isOn, .int m_firstAct, .long m_meanTop, .long m_meanBy, .ref a_order, .int m_rowMany, .int m_newSteps])), (a_tape, .inl (cA.1 2, 900, .inl g_tape)), (a_c, .inl (cA.1 0, 1825, .inl u.2.2.2.2.2.2.2.2.2)), (a_isOn, .inl (cA.1 3, 10, .inl g_isOn))]) 0 0 := by
  have hk_0 : (0 : Int32).toInt = 0 := by decide +kernel
  have hk_1 : (1 : Int32).toInt = 1 := by decide +kernel
  have hk_4 : (4 : Int32).toInt = 4 := by decide +kernel
  have hk_5 : (5 : Int32).toInt = 5 := by decide +kernel
  have hk_11 : (11 : Int32).toInt = 11 := by decide +kernel
  have hk_99 : (99 : Int32).toInt = 99 := by decide +kernel
  have hk_1465 : (1465 : Int32).toInt = 1465 := by decide +kernel
  refine z_start2v (own := RX12) (by decide) (Nat.le_of_ble_eq_true rfl) rfl ?_
  intro p e s m args below meth c A ls Q hx hb hml hts hown hK hE hT hP hD hS hA hl hret
  have hl : lv_has ls 2 [(0, .ref h0)] := hl
  refine lv_aload_n hx hb dX12_readSeconds_0 rfl (lv_at hl 0 rfl) ?_
  refine va_get (D := G) (ci := 12) (v := .int m_hasSeconds) (C := RX12) (T := TX12) (N := 65) hx hb hts inT12 hown hK hP 0 rfl rfl 54 (by decide) (hts _ tw_1937) (fun _ h9 => h9) rfl dX12_readSeconds_1 ?_
  refine lv_if_eq (tgt := 16) hx hb dX12_readSeconds_4 (by decide) (fun c_1 => ?_) (fun c_1 => ?_)
  · have b_2 := z_feqT c_1
    refine lv_aload_n hx hb dX12_readSeconds_16 rfl (lv_at hl 0 rfl) ?_
    refine va_get (D := G) (ci := 12) (v := .int m_bad) (C := RX12) (T := TX12) (N := 65) hx hb hts inT12 hown hK hP 0 rfl rfl 12 (by decide) (hts _ tw_1897) (fun _ h9 => h9) rfl dX12_readSeconds_17 ?_
    refine lv_if_le (tgt := 24) hx hb dX12_readSeconds_20 (by decide) (fun c_3 => ?_) (fun h9 => (z_no (by have h8 := z_fgtF h9; omega)))
    have b_4 := z_fleT c_3
    refine lv_aload_n hx hb dX12_readSeconds_24 rfl (lv_at hl 0 rfl) ?_
    refine lv_iconst (v := 1) hx hb dX12_readSeconds_25 (by decide) ?_
    refine va_put (D := G) (ci := 12) (v := .int 1) (ty := .boolean) (C := RX12) (T := TX12) (N := 65) hx hb hts inT12 tyX12 tyX12_ok nmX12 hown hK hP hD hS 0 rfl rfl 54 (by decide) (hts _ tw_1937) (fun _ h9 => h9) rfl (tyX12_ok 54 (by decide)) rfl rfl (Nat.le_of_ble_eq_true rfl) dX12_readSeconds_26 (fun H locs hP hD hS => ?_)
    refine lv_aload_n hx hb dX12_readSeconds_29 rfl (lv_at hl 0 rfl) ?_
    refine z_callVv (As := []) (rest := []) (wr := [(a_c, .inl (cA.1 0, 1825, .inl g_c)), (a_isOn, .inl (cA.1 3, 10, .inl g_isOn))]) ⟨hx, hb, hml, hown, hts⟩ hK hE hT hP hD hS hA (r_next2 l G cA h0 m_status m_thrown m_above m_under a_traySort a_trayMany a_numbers a_tape m_taped m_textEnd m_faultKind m_faultAt m_bad m_badAt m_token m_at m_behind m_number m_letters m_word a_c a_words m_markMany a_there a_tried a_best a_found m_thereMany m_foundMany m_orderHow m_orderRing m_orderMany m_hasBest m_bestTop m_bestBy a_weights a_shared m_random m_truePlace m_trueWay m_seconds m_done m_feelings m_tries m_leftOver m_playDoor m_playRing m_isOpen m_isOver m_wasTried m_hasPlayed a_feltNow a_last a_kept 1 m_hasTurned m_hasRound a_hasFeels a_isOn m_firstAct m_meanTop m_meanBy a_order m_rowMany m_newSteps g_tape hr_m_textEnd hr_m_at hr_m_behind hr_m_token hr_m_number hr_m_letters) lk_RX12_184 ⟨rfl, rfl⟩ ⟨Nat.le_of_ble_eq_true rfl, Nat.le_of_ble_eq_true rfl⟩ 12 rfl rfl rfl [0, 1] [2, 3] rfl rfl (by decide) rfl hl.1 rfl (lv_room (Nat.le_of_ble_eq_true rfl)) dX12_readSeconds_30 ⟨Nat.le_of_ble_eq_true rfl, Nat.le_of_ble_eq_true rfl⟩ (fun u_12 H locs hw hP hD hS => ?_)
    obtain ⟨n_5, n_6, n_7, n_8, n_9, n_10⟩ := u_12
    try dsimp only at hw
    obtain ⟨hr_n_5, hr_n_6, hr_n_7, hr_n_8, hr_n_9, hf_13, hf_14⟩ := hw
    refine lv_iconst (v := 0) hx hb dX12_readSeconds_33 (by decide) ?_
    refine lv_istore_n (lv' := [(1, .int 0), (0, .ref h0)]) hx hb dX12_readSeconds_34 rfl hl (by decide) rfl (fun ls hl => ?_)
    have hlp_460 : ∀ (n : Nat) (v_379 : Int32) (g_380 : Nat → Int32) (v_381 : Int32) (v_382 : Int32) (v_383 : Int32) (v_384 : Int32) (v_385 : Int32) (v_386 : Int32) (v_387 : Int32) (v_388 : Int64) (H : Heap) (locs : List Loc) (ls : Array Slot), (2147483647 - v_379.toInt).toNat < n → (0 ≤ v_379.toInt ∧ v_379.toInt ≤ 4) → (zC g_380) → (0 ≤ v_381.toInt ∧ v_381.toInt ≤ 9) → (0 ≤ v_383.toInt ∧ v_383.toInt ≤ 4) → (0 ≤ v_384.toInt ∧ v_384.toInt ≤ 900) → (0 ≤ v_385.toInt ∧ v_385.toInt ≤ 900) → (0 ≤ v_386.toInt ∧ v_386.toInt ≤ 9999) → (0 ≤ v_387.toInt ∧ v_387.toInt ≤ 900) → (zNw g_380 g_isOn) → (zNf g_380) → (m_behind.toInt ≤ v_385.toInt) → (v_381.toInt ≤ 0 → v_383.toInt = 0 ∨ m_behind.toInt < v_385.toInt) → va_P G vwCl [(a_c, .inl (cA.1 0, 1825, .inl g_380)), (a_isOn, .inl (cA.1 3, 10, .inl g_isOn)), (h0, .inr (12, [.int m_status, .int m_thrown, .long m_above, .long m_under, .ref a_traySort, .ref a_trayMany, .ref a_numbers, .ref a_tape, .int m_taped, .int m_textEnd, .int m_faultKind, .int m_faultAt, .int v_381, .int v_382, .int v_383, .int v_384, .int v_385, .int v_386, .int v_387, .long v_388, .ref a_c, .ref a_words, .int m_markMany, .ref a_there, .ref a_tried, .ref a_best, .ref a_found, .int m_thereMany, .int m_foundMany, .int m_orderHow, .int m_orderRing, .int m_orderMany, .int m_hasBest, .long m_bestTop, .long m_bestBy, .ref a_weights, .ref a_shared, .int m_random, .int m_truePlace, .int m_trueWay, .int m_seconds, .int m_done, .int m_feelings, .int m_tries, .int m_leftOver, .int m_playDoor, .int m_playRing, .int m_isOpen, .int m_isOver, .int m_wasTried, .int m_hasPlayed, .ref a_feltNow, .ref a_last, .ref a_kept, .int 1, .int m_hasTurned, .int m_hasRound, .ref a_hasFeels, .ref a_isOn, .int m_firstAct, .long m_meanTop, .long m_meanBy, .ref a_order, .int m_rowMany, .int m_newSteps])), (a_tape, .inl (cA.1 2, 900, .inl g_tape))] H → va_D A [(a_c, .inl (cA.1 0, 1825, .inl g_380)), (a_isOn, .inl (cA.1 3, 10, .inl g_isOn)), (h0, .inr (12, [.int m_status, .int m_thrown, .long m_above, .long m_under, .ref a_traySort, .ref a_trayMany, .ref a_numbers, .ref a_tape, .int m_taped, .int m_textEnd, .int m_faultKind, .int m_faultAt, .int v_381, .int v_382, .int v_383, .int v_384, .int v_385, .int v_386, .int v_387, .long v_388, .ref a_c, .ref a_words, .int m_markMany, .ref a_there, .ref a_tried, .ref a_best, .ref a_found, .int m_thereMany, .int m_foundMany, .int m_orderHow, .int m_orderRing, .int m_orderMany, .int m_hasBest, .long m_bestTop, .long m_bestBy, .ref a_weights, .ref a_shared, .int m_random, .int m_truePlace, .int m_trueWay, .int m_seconds, .int m_done, .int m_feelings, .int m_tries, .int m_leftOver, .int m_playDoor, .int m_playRing, .int m_isOpen, .int m_isOver, .int m_wasTried, .int m_hasPlayed, .ref a_feltNow, .ref a_last, .ref a_kept, .int 1, .int m_hasTurned, .int m_hasRound, .ref a_hasFeels, .ref a_isOn, .int m_firstAct, .long m_meanTop, .long m_meanBy, .ref a_order, .int m_rowMany, .int m_newSteps])), (a_tape, .inl (cA.1 2, 900, .inl g_tape))] → va_S A s.heap H locs → lv_has ls 2 [(0, .ref h0), (1, .int v_379)] → W p l e ({ frames := 3, cells := 0, slots := 0, locals := 65 }) s m args below meth c H locs 0 0 Q (F0 m 35 ls []) := by
      intro n
      induction n with
      | zero =>
        intro v_379 g_380 v_381 v_382 v_383 v_384 v_385 v_386 v_387 v_388 H locs ls hmu_hlp_460 hr_v_379 hC_g_380 hr_v_381 hr_v_383 hr_v_384 hr_v_385 hr_v_386 hr_v_387 hs_456 hs_457 hi_458 hi_459 hP hD hS hl
        exact absurd hmu_hlp_460 (Nat.not_lt_zero _)
      | succ n ih_461 =>
        intro v_379 g_380 v_381 v_382 v_383 v_384 v_385 v_386 v_387 v_388 H locs ls hmu_hlp_460 hr_v_379 hC_g_380 hr_v_381 hr_v_383 hr_v_384 hr_v_385 hr_v_386 hr_v_387 hs_456 hs_457 hi_458 hi_459 hP hD hS hl
        refine lv_iload_n hx hb dX12_readSeconds_35 rfl (lv_at hl 1 rfl) ?_
        refine lv_iconst (v := 4) hx hb dX12_readSeconds_36 (by decide) ?_
        refine lv_icmp_ge (tgt := 83) hx hb dX12_readSeconds_37 (by decide) (fun c_462 => ?_) (fun c_462 => ?_)
        · have b_463 := z_fgeT c_462
          have hpost : (0 ≤ v_381.toInt ∧ v_381.toInt ≤ 9) ∧ (0 ≤ v_383.toInt ∧ v_383.toInt ≤ 4) ∧ (0 ≤ v_384.toInt ∧ v_384.toInt ≤ 900) ∧ (0 ≤ v_385.toInt ∧ v_385.toInt ≤ 900) ∧ (0 ≤ v_386.toInt ∧ v_386.toInt ≤ 9999) ∧ (0 ≤ v_387.toInt ∧ v_387.toInt ≤ 900) ∧ ((1 : Int32) = 0 ∨ (1 : Int32) = 1) ∧ (zC g_380) ∧ (zNw g_380 g_isOn) ∧ (m_behind.toInt ≤ v_385.toInt) ∧ (0 < m_bad.toInt → 0 < v_381.toInt) ∧ (v_381.toInt ≤ 0 → v_383.toInt = 0 ∨ m_behind.toInt < v_385.toInt) ∧ (v_381.toInt ≤ 0 → v_383.toInt = 3 → v_386.toInt = 59 → zNf g_380) := ⟨hr_v_381, hr_v_383, hr_v_384, hr_v_385, hr_v_386, hr_v_387, (Or.inr rfl), hC_g_380, hs_456, (by omega), (by omega), (by omega), (fun _ _ _ => hs_457)⟩
          exact hret _ _ _ _ _ (v_381, v_382, v_383, v_384, v_385, v_386, v_387, v_388, 1, g_380) [2, 3, 0, 1] hP hD hS rfl (by decide) dX12_readSeconds_83 hpost
        · have b_464 := z_fltF c_462
          refine lv_aload_n hx hb dX12_readSeconds_40 rfl (lv_at hl 0 rfl) ?_
          refine lv_aload_n hx hb dX12_readSeconds_41 rfl (lv_at hl 0 rfl) ?_
          refine z_callVi (As := []) (rest := [.ref h0]) (wr := [(a_c, .inl (cA.1 0, 1825, .inl g_380)), (a_isOn, .inl (cA.1 3, 10, .inl g_isOn)), (a_tape, .inl (cA.1 2, 900, .inl g_tape))]) ⟨hx, hb, hml, hown, hts⟩ hK hE hT hP hD hS hA (r_houseWord l G cA h0 m_status m_thrown m_above m_under a_traySort a_trayMany a_numbers a_tape m_taped m_textEnd m_faultKind m_faultAt v_381 v_382 v_383 v_384 v_385 v_386 v_387 v_388 a_c a_words m_markMany a_there a_tried a_best a_found m_thereMany m_foundMany m_orderHow m_orderRing m_orderMany m_hasBest m_bestTop m_bestBy a_weights a_shared m_random m_truePlace m_trueWay m_seconds m_done m_feelings m_tries m_leftOver m_playDoor m_playRing m_isOpen m_isOver m_wasTried m_hasPlayed a_feltNow a_last a_kept 1 m_hasTurned m_hasRound a_hasFeels a_isOn m_firstAct m_meanTop m_meanBy a_order m_rowMany m_newSteps hr_v_383) lk_RX12_170 ⟨rfl, rfl⟩ ⟨Nat.le_of_ble_eq_true rfl, Nat.le_of_ble_eq_true rfl⟩ 12 rfl rfl rfl [2] [0, 1, 3] rfl rfl (by decide) rfl hl.1 rfl (lv_room (Nat.le_of_ble_eq_true rfl)) dX12_readSeconds_42 ⟨Nat.le_of_ble_eq_true rfl, Nat.le_of_ble_eq_true rfl⟩ (fun r_465 u_466 H locs hw hP hD hS => ?_)
          obtain ⟨hr_r_465, hf_467⟩ := hw
          refine lv_bipush (v := 11) hx hb dX12_readSeconds_45 (by decide) ?_
          refine lv_iload_n hx hb dX12_readSeconds_47 rfl (lv_at hl 1 rfl) ?_
          refine lv_iadd hx hb dX12_readSeconds_48 ?_
          refine lv_topi (fun x_468 he_x_468 => ?_)
          have hq_x_468 := z_addq he_x_468 hk_11 (rfl : v_379.toInt = _) (by omega) (by omega)
          refine lv_icmp_ne (tgt := 56) hx hb dX12_readSeconds_49 (by decide) (fun c_469 => ?_) (fun c_469 => ?_)
          · have b_470 := z_fneT c_469
            refine lv_iconst (v := 0) hx hb dX12_readSeconds_56 (by decide) ?_
            refine z_callVv (As := [.int 0]) (rest := []) (wr := [(a_c, .inl (cA.1 0, 1825, .inl g_380)), (a_isOn, .inl (cA.1 3, 10, .inl g_isOn)), (a_tape, .inl (cA.1 2, 900, .inl g_tape))]) ⟨hx, hb, hml, hown, hts⟩ hK hE hT hP hD hS hA (r_must_0 l G cA h0 m_status m_thrown m_above m_under a_traySort a_trayMany a_numbers a_tape m_taped m_textEnd m_faultKind m_faultAt v_381 v_382 v_383 v_384 v_385 v_386 v_387 v_388 a_c a_words m_markMany a_there a_tried a_best a_found m_thereMany m_foundMany m_orderHow m_orderRing m_orderMany m_hasBest m_bestTop m_bestBy a_weights a_shared m_random m_truePlace m_trueWay m_seconds m_done m_feelings m_tries m_leftOver m_playDoor m_playRing m_isOpen m_isOver m_wasTried m_hasPlayed a_feltNow a_last a_kept 1 m_hasTurned m_hasRound a_hasFeels a_isOn m_firstAct m_meanTop m_meanBy a_order m_rowMany m_newSteps hr_v_384 hr_v_381 hr_v_383) lk_RX12_210 ⟨rfl, rfl⟩ ⟨Nat.le_of_ble_eq_true rfl, Nat.le_of_ble_eq_true rfl⟩ 12 rfl rfl rfl [3] [0, 1, 2] rfl rfl (by decide) rfl hl.1 rfl (lv_room (Nat.le_of_ble_eq_true rfl)) dX12_readSeconds_57 ⟨Nat.le_of_ble_eq_true rfl, Nat.le_of_ble_eq_true rfl⟩ (fun u_474 H locs hw hP hD hS => ?_)
            obtain ⟨n_471, n_472⟩ := u_474
            try dsimp only at hw
            have hr_n_471 := hw
            refine lv_aload_n hx hb dX12_readSeconds_60 rfl (lv_at hl 0 rfl) ?_
            refine va_get (D := G) (ci := 12) (v := .ref a_c) (C := RX12) (T := TX12) (N := 65) hx hb hts inT12 hown hK hP 3 rfl rfl 20 (by decide) (hts _ tw_1905) (fun _ h9 => h9) rfl dX12_readSeconds_61 ?_
            refine lv_sipush (v := 1465) hx hb dX12_readSeconds_64 (by decide) ?_
            refine lv_iload_n hx hb dX12_readSeconds_67 rfl (lv_at hl 1 rfl) ?_
            refine lv_iadd hx hb dX12_readSeconds_68 ?_
            refine lv_topi (fun x_475 he_x_475 => ?_)
            have hq_x_475 := z_addq he_x_475 hk_1465 (rfl : v_379.toInt = _) (by omega) (by omega)
            refine lv_aload_n hx hb dX12_readSeconds_69 rfl (lv_at hl 0 rfl) ?_
            refine lv_iconst (v := 1) hx hb dX12_readSeconds_70 (by decide) ?_
            refine lv_bipush (v := 99) hx hb dX12_readSeconds_71 (by decide) ?_
            refine z_callVi (As := [.int 1, .int 99]) (rest := [.int x_475, .ref a_c]) (wr := [(a_c, .inl (cA.1 0, 1825, .inl g_380)), (a_isOn, .inl (cA.1 3, 10, .inl g_isOn))]) ⟨hx, hb, hml, hown, hts⟩ hK hE hT hP hD hS hA (r_count l G cA h0 m_status m_thrown m_above m_under a_traySort a_trayMany a_numbers a_tape m_taped m_textEnd m_faultKind m_faultAt n_471 n_472 v_383 v_384 v_385 v_386 v_387 v_388 a_c a_words m_markMany a_there a_tried a_best a_found m_thereMany m_foundMany m_orderHow m_orderRing m_orderMany m_hasBest m_bestTop m_bestBy a_weights a_shared m_random m_truePlace m_trueWay m_seconds m_done m_feelings m_tries m_leftOver m_playDoor m_playRing m_isOpen m_isOver m_wasTried m_hasPlayed a_feltNow a_last a_kept 1 m_hasTurned m_hasRound a_hasFeels a_isOn m_firstAct m_meanTop m_meanBy a_order m_rowMany m_newSteps g_tape 1 99 (by decide +kernel) (by decide +kernel) hr_m_textEnd hr_v_384 hr_v_385 (z_rgw hr_n_471 (by decide) (by decide)) hr_v_383 hr_v_386 hr_v_387) lk_RX12_214 ⟨rfl, rfl⟩ ⟨Nat.le_of_ble_eq_true rfl, Nat.le_of_ble_eq_true rfl⟩ 12 rfl rfl rfl [3, 2] [0, 1] rfl rfl (by decide) rfl hl.1 rfl (lv_room (Nat.le_of_ble_eq_true rfl)) dX12_readSeconds_73 ⟨Nat.le_of_ble_eq_true rfl, Nat.le_of_ble_eq_true rfl⟩ (fun r_484 u_485 H locs hw hP hD hS => ?_)
            obtain ⟨n_476, n_477, n_478, n_479, n_480, n_481, n_482, n_483⟩ := u_485
            try dsimp only at hw
            obtain ⟨hr_r_484, hr_n_476, hr_n_478, hr_n_479, hr_n_480, hr_n_481, hr_n_482, hf_486, hf_487, hf_488, hf_489, hf_490, hf_491⟩ := hw
            refine z_iast hx hb hK hP hD hS 0 0 rfl rfl (z_inN (by omega) (by omega)) dX12_readSeconds_76 (fun g_492 hg_g_492 H locs hP hD hS => ?_)
            have hC_g_492 := z_ctU hC_g_380 hg_g_492 (a := 1465) (b := 1468) (lo := 0) (hi := 99) (by decide +kernel) (by decide +kernel) (by omega) (by omega) (by omega)
            have hs_493 : zNw g_492 g_isOn := (zNw_fr hs_456 hg_g_492 (a := 1465) (b := 1468) (by decide +kernel) (by omega) (by omega))
            have hs_494 : zNf g_492 := (zNf_fr hs_457 hg_g_492 (a := 1465) (b := 1468) (by decide +kernel) (by omega) (by omega))
            obtain ⟨x_495, he_x_495⟩ : ∃ z : Int32, z = v_379 + 1 := ⟨_, rfl⟩
            have hq_x_495 := z_addq he_x_495 (rfl : v_379.toInt = _) hk_1 (by omega) (by omega)
            refine lv_iinc (v := x_495) (lv' := [(1, .int x_495), (0, .ref h0)]) hx hb dX12_readSeconds_77 hl (k := 1) rfl ((z_ofi (by decide +kernel)).trans he_x_495.symm) (by decide) rfl (fun ls hl => ?_)
            refine lv_goto (tgt := 35) hx hb dX12_readSeconds_80 (by decide) ?_
            exact ih_461 x_495 g_492 n_476 n_477 n_478 n_479 n_480 n_481 n_482 n_483 H locs ls (by omega) (by omega) hC_g_492 hr_n_476 hr_n_478 hr_n_479 hr_n_480 hr_n_481 hr_n_482 hs_493 hs_494 (by omega) (by omega) hP hD hS (lv_sub hl [1, 0] rfl)
          · have b_496 := z_feqF c_469
            refine lv_iconst (v := 1) hx hb dX12_readSeconds_52 (by decide) ?_
            refine lv_goto (tgt := 57) hx hb dX12_readSeconds_53 (by decide) ?_
            refine z_callVv (As := [.int 1]) (rest := []) (wr := [(a_c, .inl (cA.1 0, 1825, .inl g_380)), (a_isOn, .inl (cA.1 3, 10, .inl g_isOn))]) ⟨hx, hb, hml, hown, hts⟩ hK hE hT hP hD hS hA (r_must_1 l G cA h0 m_status m_thrown m_above m_under a_traySort a_trayMany a_numbers a_tape m_taped m_textEnd m_faultKind m_faultAt v_381 v_382 v_383 v_384 v_385 v_386 v_387 v_388 a_c a_words m_markMany a_there a_tried a_best a_found m_thereMany m_foundMany m_orderHow m_orderRing m_orderMany m_hasBest m_bestTop m_bestBy a_weights a_shared m_random m_truePlace m_trueWay m_seconds m_done m_feelings m_tries m_leftOver m_playDoor m_playRing m_isOpen m_isOver m_wasTried m_hasPlayed a_feltNow a_last a_kept 1 m_hasTurned m_hasRound a_hasFeels a_isOn m_firstAct m_meanTop m_meanBy a_order m_rowMany m_newSteps g_tape hr_m_textEnd hr_v_384 hr_v_385 hr_v_381 hr_v_383 hr_v_386 hr_v_387) lk_RX12_210 ⟨rfl, rfl⟩ ⟨Nat.le_of_ble_eq_true rfl, Nat.le_of_ble_eq_true rfl⟩ 12 rfl rfl rfl [3, 2] [0, 1] rfl rfl (by decide) rfl hl.1 rfl (lv_room (Nat.le_of_ble_eq_true rfl)) dX12_readSeconds_57 ⟨Nat.le_of_ble_eq_true rfl, Nat.le_of_ble_eq_true rfl⟩ (fun u_504 H locs hw hP hD hS => ?_)
            obtain ⟨n_497, n_498, n_499, n_500, n_501, n_502⟩ := u_504
            try dsimp only at hw
            obtain ⟨hr_n_497, hr_n_498, hr_n_499, hr_n_500, hr_n_501, hf_505, hf_506, hf_507⟩ := hw
            refine lv_aload_n hx hb dX12_readSeconds_60 rfl (lv_at hl 0 rfl) ?_
            refine va_get (D := G) (ci := 12) (v := .ref a_c) (C := RX12) (T := TX12) (N := 65) hx hb hts inT12 hown hK hP 2 rfl rfl 20 (by decide) (hts _ tw_1905) (fun _ h9 => h9) rfl dX12_readSeconds_61 ?_
            refine lv_sipush (v := 1465) hx hb dX12_readSeconds_64 (by decide) ?_
            refine lv_iload_n hx hb dX12_readSeconds_67 rfl (lv_at hl 1 rfl) ?_
            refine lv_iadd hx hb dX12_readSeconds_68 ?_
            refine lv_topi (fun x_508 he_x_508 => ?_)
            have hq_x_508 := z_addq he_x_508 hk_1465 (rfl : v_379.toInt = _) (by omega) (by omega)
            refine lv_aload_n hx hb dX12_readSeconds_69 rfl (lv_at hl 0 rfl) ?_
            refine lv_iconst (v := 1) hx hb dX12_readSeconds_70 (by decide) ?_
            refine lv_bipush (v := 99) hx hb dX12_readSeconds_71 (by decide) ?_
            refine z_callVi (As := [.int 1, .int 99]) (rest := [.int x_508, .ref a_c]) (wr := [(a_c, .inl (cA.1 0, 1825, .inl g_380)), (a_isOn, .inl (cA.1 3, 10, .inl g_isOn))]) ⟨hx, hb, hml, hown, hts⟩ hK hE hT hP hD hS hA (r_count l G cA h0 m_status m_thrown m_above m_under a_traySort a_trayMany a_numbers a_tape m_taped m_textEnd m_faultKind m_faultAt v_381 v_382 n_497 n_498 n_499 n_500 n_501 n_502 a_c a_words m_markMany a_there a_tried a_best a_found m_thereMany m_foundMany m_orderHow m_orderRing m_orderMany m_hasBest m_bestTop m_bestBy a_weights a_shared m_random m_truePlace m_trueWay m_seconds m_done m_feelings m_tries m_leftOver m_playDoor m_playRing m_isOpen m_isOver m_wasTried m_hasPlayed a_feltNow a_last a_kept 1 m_hasTurned m_hasRound a_hasFeels a_isOn m_firstAct m_meanTop m_meanBy a_order m_rowMany m_newSteps g_tape 1 99 (by decide +kernel) (by decide +kernel) hr_m_textEnd hr_n_498 hr_n_499 hr_v_381 hr_n_497 hr_n_500 hr_n_501) lk_RX12_214 ⟨rfl, rfl⟩ ⟨Nat.le_of_ble_eq_true rfl, Nat.le_of_ble_eq_true rfl⟩ 12 rfl rfl rfl [2, 3] [0, 1] rfl rfl (by decide) rfl hl.1 rfl (lv_room (Nat.le_of_ble_eq_true rfl)) dX12_readSeconds_73 ⟨Nat.le_of_ble_eq_true rfl, Nat.le_of_ble_eq_true rfl⟩ (fun r_517 u_518 H locs hw hP hD hS => ?_)
            obtain ⟨n_509, n_510, n_511, n_512, n_513, n_514, n_515, n_516⟩ := u_518
            try dsimp only at hw
            obtain ⟨hr_r_517, hr_n_509, hr_n_511, hr_n_512, hr_n_513, hr_n_514, hr_n_515, hf_519, hf_520, hf_521, hf_522, hf_523, hf_524⟩ := hw
            refine z_iast hx hb hK hP hD hS 0 0 rfl rfl (z_inN (by omega) (by omega)) dX12_readSeconds_76 (fun g_525 hg_g_525 H locs hP hD hS => ?_)
            have hC_g_525 := z_ctU hC_g_380 hg_g_525 (a := 1465) (b := 1468) (lo := 0) (hi := 99) (by decide +kernel) (by decide +kernel) (by omega) (by omega) (by omega)
            have hs_526 : zNw g_525 g_isOn := (zNw_fr hs_456 hg_g_525 (a := 1465) (b := 1468) (by decide +kernel) (by omega) (by omega))
            have hs_527 : zNf g_525 := (zNf_fr hs_457 hg_g_525 (a := 1465) (b := 1468) (by decide +kernel) (by omega) (by omega))
            obtain ⟨x_528, he_x_528⟩ : ∃ z : Int32, z = v_379 + 1 := ⟨_, rfl⟩
            have hq_x_528 := z_addq he_x_528 (rfl : v_379.toInt = _) hk_1 (by omega) (by omega)
            refine lv_iinc (v := x_528) (lv' := [(1, .int x_528), (0, .ref h0)]) hx hb dX12_readSeconds_77 hl (k := 1) rfl ((z_ofi (by decide +kernel)).trans he_x_528.symm) (by decide) rfl (fun ls hl => ?_)
            refine lv_goto (tgt := 35) hx hb dX12_readSeconds_80 (by decide) ?_
            exact ih_461 x_528 g_525 n_509 n_510 n_511 n_512 n_513 n_514 n_515 n_516 H locs ls (by omega) (by omega) hC_g_525 hr_n_509 hr_n_511 hr_n_512 hr_n_513 hr_n_514 hr_n_515 hs_526 hs_527 (by omega) (by omega) hP hD hS (lv_sub hl [1, 0] rfl)
    exact hlp_460 _ 0 g_c m_bad m_badAt n_5 n_6 n_7 n_8 n_9 n_10 _ _ _ (Nat.lt_succ_self _) (by decide +kernel) hC_g_c (z_rgw hr_m_bad (by decide) (by decide)) hr_n_5 hr_n_6 hr_n_7 hr_n_8 hr_n_9 hNW0 hNF0 (by omega) (by omega) hP hD hS (lv_sub hl [1, 0] rfl)
  · have b_529 := z_fneF c_1
    refine lv_aload_n hx hb dX12_readSeconds_7 rfl (lv_at hl 0 rfl) ?_
    refine lv_iconst (v := 5) hx hb dX12_readSeconds_8 (by decide) ?_
    refine lv_aload_n hx hb dX12_readSeconds_9 rfl (lv_at hl 0 rfl) ?_
    refine va_get (D := G) (ci := 12) (v := .int m_at) (C := RX12) (T := TX12) (N := 65) hx hb hts inT12 hown hK hP 0 rfl rfl 15 (by decide) (hts _ tw_1900) (fun _ h9 => h9) rfl dX12_readSeconds_10 ?_
    refine z_callVv (As := [.int 5, .int m_at]) (rest := []) (wr := [(a_tape, .inl (cA.1 2, 900, .inl g_tape)), (a_c, .inl (cA.1 0, 1825, .inl g_c)), (a_isOn, .inl (cA.1 3, 10, .inl g_isOn))]) ⟨hx, hb, hml, hown, hts⟩ hK hE hT hP hD hS hA (r_fail l G cA h0 m_status m_thrown m_above m_under a_traySort a_trayMany a_numbers a_tape m_taped m_textEnd m_faultKind m_faultAt m_bad m_badAt m_token m_at m_behind m_number m_letters m_word a_c a_words m_markMany a_there a_tried a_best a_found m_thereMany m_foundMany m_orderHow m_orderRing m_orderMany m_hasBest m_bestTop m_bestBy a_weights a_shared m_random m_truePlace m_trueWay m_seconds m_done m_feelings m_tries m_leftOver m_playDoor m_playRing m_isOpen m_isOver m_wasTried m_hasPlayed a_feltNow a_last a_kept m_hasSeconds m_hasTurned m_hasRound a_hasFeels a_isOn m_firstAct m_meanTop m_meanBy a_order m_rowMany m_newSteps 5 m_at (by decide +kernel) (z_rgw hr_m_bad (by decide) (by decide))) lk_RX12_180 ⟨rfl, rfl⟩ ⟨Nat.le_of_ble_eq_true rfl, Nat.le_of_ble_eq_true rfl⟩ 12 rfl rfl rfl [0] [1, 2, 3] rfl rfl (by decide) rfl hl.1 rfl (lv_room (Nat.le_of_ble_eq_true rfl)) dX12_readSeconds_13 ⟨Nat.le_of_ble_eq_true rfl, Nat.le_of_ble_eq_true rfl⟩ (fun u_533 H locs hw hP hD hS => ?_)
    obtain ⟨n_530, n_531⟩ := u_533
    try dsimp only at hw
    obtain ⟨hr_n_530, hf_534⟩ := hw
    refine lv_aload_n hx hb dX12_readSeconds_16 rfl (lv_at hl 0 rfl) ?_
    refine va_get (D := G) (ci := 12) (v := .int n_530) (C := RX12) (T := TX12) (N := 65) hx hb hts inT12 hown hK hP 3 rfl rfl 12 (by decide) (hts _ tw_1897) (fun _ h9 => h9) rfl dX12_readSeconds_17 ?_
    refine lv_if_le (tgt := 24) hx hb dX12_readSeconds_20 (by decide) (fun h9 => (z_no (by have h8 := z_fleT h9; omega))) (fun c_535 => ?_)
    have b_536 := z_fgtF c_535
    have hpost : (0 ≤ n_530.toInt ∧ n_530.toInt ≤ 9) ∧ (0 ≤ m_token.toInt ∧ m_token.toInt ≤ 4) ∧ (0 ≤ m_at.toInt ∧ m_at.toInt ≤ 900) ∧ (0 ≤ m_behind.toInt ∧ m_behind.toInt ≤ 900) ∧ (0 ≤ m_number.toInt ∧ m_number.toInt ≤ 9999) ∧ (0 ≤ m_letters.toInt ∧ m_letters.toInt ≤ 900) ∧ (m_hasSeconds = 0 ∨ m_hasSeconds = 1) ∧ (zC g_c) ∧ (zNw g_c g_isOn) ∧ (m_behind.toInt ≤ m_behind.toInt) ∧ (0 < m_bad.toInt → 0 < n_530.toInt) ∧ (n_530.toInt ≤ 0 → m_token.toInt = 0 ∨ m_behind.toInt < m_behind.toInt) ∧ (n_530.toInt ≤ 0 → m_token.toInt = 3 → m_number.toInt = 59 → zNf g_c) := ⟨(z_rgw hr_n_530 (by decide) (by decide)), hr_m_token, hr_m_at, hr_m_behind, hr_m_number, hr_m_letters, hz_m_hasSeconds, hC_g_c, hNW0, (by omega), (by omega), (by omega), (fun _ _ _ => hNF0)⟩
    exact hret _ _ _ _ _ (n_530, n_531, m_token, m_at, m_behind, m_number, m_letters, m_word, m_hasSeconds, g_c) [3, 0, 1, 2] hP hD hS rfl (by decide) dX12_readSeconds_23 hpost
set_option maxHeartbeats 4000000 in
set_option maxRecDepth 100000 in
theorem r_readTurned (l : Launch) (G : va_G) (cA : zCA) (h0 : Nat) (m_status : Int32) (m_thrown : Int32) (m_above : Int64) (m_under : Int64) (a_traySort : Nat) (a_trayMany : Nat) (a_numbers : Nat) (a_tape : Nat) (m_taped : Int32) (m_textEnd : Int32) (m_faultKind : Int32) (m_faultAt : Int32) (m_bad : Int32) (m_badAt : Int32) (m_token : Int32) (m_at : Int32) (m_behind : Int32) (m_number : Int32) (m_letters : Int32) (m_word : Int64) (a_c : Nat) (a_words : Nat) (m_markMany : Int32) (a_there : Nat) (a_tried : Nat) (a_best : Nat) (a_found : Nat) (m_thereMany : Int32) (m_foundMany : Int32) (m_orderHow : Int32) (m_orderRing : Int32) (m_orderMany : Int32) (m_hasBest : Int32) (m_bestTop : Int64) (m_bestBy : Int64) (a_weights : Nat) (a_shared : Nat) (m_random : Int32) (m_truePlace : Int32) (m_trueWay : Int32) (m_seconds : Int32) (m_done : Int32) (m_feelings : Int32) (m_tries : Int32) (m_leftOver : Int32) (m_playDoor : Int32) (m_playRing : Int32) (m_isOpen : Int32) (m_isOver : Int32) (m_wasTried : Int32) (m_hasPlayed : Int32) (a_feltNow : Nat) (a_last : Nat) (a_kept : Nat) (m_hasSeconds : Int32) (m_hasTurned : Int32) (m_hasRound : Int32) (a_hasFeels : Nat) (a_isOn : Nat) (m_firstAct : Int32) (m_meanTop : Int64) (m_meanBy : Int64) (a_order : Nat) (m_rowMany : Int32) (m_newSteps : Int32) (g_tape : Nat → Int32) (g_c : Nat → Int32) (g_isOn : Nat → Int32) (hr_m_textEnd : 0 ≤ m_textEnd.toInt ∧ m_textEnd.toInt ≤ 900) (hr_m_at : 0 ≤ m_at.toInt ∧ m_at.toInt ≤ 900) (hr_m_behind : 0 ≤ m_behind.toInt ∧ m_behind.toInt ≤ 900) (hr_m_bad : 0 ≤ m_bad.toInt ∧ m_bad.toInt ≤ 0) (hr_m_token : 0 ≤ m_token.toInt ∧ m_token.toInt ≤ 4) (hr_m_number : 0 ≤ m_number.toInt ∧ m_number.toInt ≤ 9999) (hr_m_letters : 0 ≤ m_letters.toInt ∧ m_letters.toInt ≤ 900) (hz_m_hasTurned : m_hasTurned = 0 ∨ m_hasTurned = 1) (hC_g_c : zC g_c) (hC_g_isOn : zRg 10 0 1 g_isOn) (hNW0 : zNw g_c g_isOn) (hNF0 : zNf g_c) : zCv l yX12_readTurned cX12_readTurned 1 none ({ frames := 3, cells := 0, slots := 0, locals := 65 }) G cA [.ref h0] [(h0, .inr (12, [.int m_status, .int m_thrown, .long m_above, .long m_under, .ref a_traySort, .ref a_trayMany, .ref a_numbers, .ref a_tape, .int m_taped, .int m_textEnd, .int m_faultKind, .int m_faultAt, .int m_bad, .int m_badAt, .int m_token, .int m_at, .int m_behind, .int m_number, .int m_letters, .long m_word, .ref a_c, .ref a_words, .int m_markMany, .ref a_there, .ref a_tried, .ref a_best, .ref a_found, .int m_thereMany, .int m_foundMany, .int m_orderHow, .int m_orderRing, .int m_orderMany, .int m_hasBest, .long m_bestTop, .long m_bestBy, .ref a_weights, .ref a_shared, .int m_random, .int m_truePlace, .int m_trueWay, .int m_seconds, .int m_done, .int m_feelings, .int m_tries, .int m_leftOver, .int m_playDoor, .int m_playRing, .int m_isOpen, .int m_isOver, .int m_wasTried, .int m_hasPlayed, .ref a_feltNow, .ref a_last, .ref a_kept, .int m_hasSeconds, .int m_hasTurned, .int m_hasRound, .ref a_hasFeels, .ref a_isOn, .int m_firstAct, .long m_meanTop, .long m_meanBy, .ref a_order, .int m_rowMany, .int m_newSteps])), (a_tape, .inl (cA.1 2, 900, .inl g_tape)), (a_c, .inl (cA.1 0, 1825, .inl g_c)), (a_isOn, .inl (cA.1 3, 10, .inl g_isOn))] (S := Int32 × Int32 × Int32 × Int32 × Int32 × Int32 × Int32 × Int64 × Int32 × (Nat → Int32)) (fun (u : Int32 × Int32 × Int32 × Int32 × Int32 × Int32 × Int32 × Int64 × Int32 × (Nat → Int32)) => (0 ≤ u.1.toInt ∧ u.1.toInt ≤ 9) ∧ (0 ≤ u.2.2.1.toInt ∧ u.2.2.1.toInt ≤ 4) ∧ (0 ≤ u.2.2.2.1.toInt ∧ u.2.2.2.1.toInt ≤ 900) ∧ (0 ≤ u.2.2.2.2.1.toInt ∧ u.2.2.2.2.1.toInt ≤ 900) ∧ (0 ≤ u.2.2.2.2.2.1.toInt ∧ u.2.2.2.2.2.1.toInt ≤ 9999) ∧ (0 ≤ u.2.2.2.2.2.2.1.toInt ∧ u.2.2.2.2.2.2.1.toInt ≤ 900) ∧ (u.2.2.2.2.2.2.2.2.1 = 0 ∨ u.2.2.2.2.2.2.2.2.1 = 1) ∧ (zC u.2.2.2.2.2.2.2.2.2) ∧ (zNw u.2.2.2.2.2.2.2.2.2 g_isOn) ∧ (m_behind.toInt ≤ u.2.2.2.2.1.toInt) ∧ (0 < m_bad.toInt → 0 < u.1.toInt) ∧ (u.1.toInt ≤ 0 → u.2.2.1.toInt = 0 ∨ m_behind.toInt < u.2.2.2.2.1.toInt) ∧ (u.1.toInt ≤ 0 → u.2.2.1.toInt = 3 → u.2.2.2.2.2.1.toInt = 59 → zNf u.2.2.2.2.2.2.2.2.2)) (fun (u : Int32 × Int32 × Int32 × Int32 × Int32 × Int32 × Int32 × Int64 × Int32 × (Nat → Int32)) => [(h0, .inr (12, [.int m_status, .int m_thrown, .long m_above, .long m_under, .ref a_traySort, .ref a_trayMany, .ref a_numbers, .ref a_tape, .int m_taped, .int m_textEnd, .int m_faultKind, .int m_faultAt, .int u.1, .int u.2.1, .int u.2.2.1, .int u.2.2.2.1, .int u.2.2.2.2.1, .int u.2.2.2.2.2.1, .int u.2.2.2.2.2.2.1, .long u.2.2.2.2.2.2.2.1, .ref a_c, .ref a_words, .int m_markMany, .ref a_there, .ref a_tried, .ref a_best, .ref a_found, .int m_thereMany, .int m_foundMany, .int m_orderHow, .int m_orderRing, .int m_orderMany, .int m_hasBest, .long m_bestTop, .long m_bestBy, .ref a_weights, .ref a_shared, .int m_random, .int m_truePlace, .int m_trueWay, .int m_seconds, .int m_done, .int m_feelings, .int m_tries, .int m_leftOver, .int m_playDoor, .int m_playRing, .int m_isOpen, .int m_isOver, .int m_wasTried, .int m_hasPlayed, .ref a_feltNow, .ref a_last, .ref a_kept, .int m_hasSeconds, .int u.2.2.2.2.2.2.2.2.1, .int m_hasRound, .ref a_hasFeels, .ref a_isOn, .int m_firstAct, .long m_meanTop, .long m_meanBy, .ref a_order, .int m_rowMany, .int m_newSteps])), (a_tape, .inl (cA.1 2, 900, .inl g_tape)), (a_c, .inl (cA.1 0, 1825, .inl u.2.2.2.2.2.2.2.2.2)), (a_isOn, .inl (cA.1 3, 10, .inl g_isOn))]) 0 0 := by
  have hk_0 : (0 : Int32).toInt = 0 := by decide +kernel
  have hk_5 : (5 : Int32).toInt = 5 := by decide +kernel
  have hk_16 : (16 : Int32).toInt = 16 := by decide +kernel
  refine z_start2v (own := RX12) (by decide) (Nat.le_of_ble_eq_true rfl) rfl ?_
  intro p e s m args below meth c A ls Q hx hb hml hts hown hK hE hT hP hD hS hA hl hret
  have hl : lv_has ls 1 [(0, .ref h0)] := hl
  refine lv_aload_n hx hb dX12_readTurned_0 rfl (lv_at hl 0 rfl) ?_
  refine va_get (D := G) (ci := 12) (v := .int m_hasTurned) (C := RX12) (T := TX12) (N := 65) hx hb hts inT12 hown hK hP 0 rfl rfl 55 (by decide) (hts _ tw_1938) (fun _ h9 => h9) rfl dX12_readTurned_1 ?_
  refine lv_if_eq (tgt := 16) hx hb dX12_readTurned_4 (by decide) (fun c_1 => ?_) (fun c_1 => ?_)
  · have b_2 := z_feqT c_1
    refine lv_aload_n hx hb dX12_readTurned_16 rfl (lv_at hl 0 rfl) ?_
    refine va_get (D := G) (ci := 12) (v := .int m_bad) (C := RX12) (T := TX12) (N := 65) hx hb hts inT12 hown hK hP 0 rfl rfl 12 (by decide) (hts _ tw_1897) (fun _ h9 => h9) rfl dX12_readTurned_17 ?_
    refine lv_if_le (tgt := 24) hx hb dX12_readTurned_20 (by decide) (fun c_3 => ?_) (fun h9 => (z_no (by have h8 := z_fgtF h9; omega)))
    have b_4 := z_fleT c_3
    refine lv_aload_n hx hb dX12_readTurned_24 rfl (lv_at hl 0 rfl) ?_
    refine lv_iconst (v := 1) hx hb dX12_readTurned_25 (by decide) ?_
    refine va_put (D := G) (ci := 12) (v := .int 1) (ty := .boolean) (C := RX12) (T := TX12) (N := 65) hx hb hts inT12 tyX12 tyX12_ok nmX12 hown hK hP hD hS 0 rfl rfl 55 (by decide) (hts _ tw_1938) (fun _ h9 => h9) rfl (tyX12_ok 55 (by decide)) rfl rfl (Nat.le_of_ble_eq_true rfl) dX12_readTurned_26 (fun H locs hP hD hS => ?_)
    refine lv_aload_n hx hb dX12_readTurned_29 rfl (lv_at hl 0 rfl) ?_
    refine z_callVv (As := []) (rest := []) (wr := [(a_c, .inl (cA.1 0, 1825, .inl g_c)), (a_isOn, .inl (cA.1 3, 10, .inl g_isOn))]) ⟨hx, hb, hml, hown, hts⟩ hK hE hT hP hD hS hA (r_next2 l G cA h0 m_status m_thrown m_above m_under a_traySort a_trayMany a_numbers a_tape m_taped m_textEnd m_faultKind m_faultAt m_bad m_badAt m_token m_at m_behind m_number m_letters m_word a_c a_words m_markMany a_there a_tried a_best a_found m_thereMany m_foundMany m_orderHow m_orderRing m_orderMany m_hasBest m_bestTop m_bestBy a_weights a_shared m_random m_truePlace m_trueWay m_seconds m_done m_feelings m_tries m_leftOver m_playDoor m_playRing m_isOpen m_isOver m_wasTried m_hasPlayed a_feltNow a_last a_kept m_hasSeconds 1 m_hasRound a_hasFeels a_isOn m_firstAct m_meanTop m_meanBy a_order m_rowMany m_newSteps g_tape hr_m_textEnd hr_m_at hr_m_behind hr_m_token hr_m_number hr_m_letters) lk_RX12_184 ⟨rfl, rfl⟩ ⟨Nat.le_of_ble_eq_true rfl, Nat.le_of_ble_eq_true rfl⟩ 12 rfl rfl rfl [0, 1] [2, 3] rfl rfl (by decide) rfl hl.1 rfl (lv_room (Nat.le_of_ble_eq_true rfl)) dX12_readTurned_30 ⟨Nat.le_of_ble_eq_true rfl, Nat.le_of_ble_eq_true rfl⟩ (fun u_12 H locs hw hP hD hS => ?_)
    obtain ⟨n_5, n_6, n_7, n_8, n_9, n_10⟩ := u_12
    try dsimp only at hw
    obtain ⟨hr_n_5, hr_n_6, hr_n_7, hr_n_8, hr_n_9, hf_13, hf_14⟩ := hw
    refine lv_aload_n hx hb dX12_readTurned_33 rfl (lv_at hl 0 rfl) ?_
    refine va_get (D := G) (ci := 12) (v := .ref a_c) (C := RX12) (T := TX12) (N := 65) hx hb hts inT12 hown hK hP 2 rfl rfl 20 (by decide) (hts _ tw_1905) (fun _ h9 => h9) rfl dX12_readTurned_34 ?_
    refine lv_sipush (v := 1469) hx hb dX12_readTurned_37 (by decide) ?_
    refine lv_aload_n hx hb dX12_readTurned_40 rfl (lv_at hl 0 rfl) ?_
    refine lv_iconst (v := 0) hx hb dX12_readTurned_41 (by decide) ?_
    refine lv_bipush (v := 16) hx hb dX12_readTurned_42 (by decide) ?_
    refine z_callVi (As := [.int 0, .int 16]) (rest := [.int 1469, .ref a_c]) (wr := [(a_c, .inl (cA.1 0, 1825, .inl g_c)), (a_isOn, .inl (cA.1 3, 10, .inl g_isOn))]) ⟨hx, hb, hml, hown, hts⟩ hK hE hT hP hD hS hA (r_count l G cA h0 m_status m_thrown m_above m_under a_traySort a_trayMany a_numbers a_tape m_taped m_textEnd m_faultKind m_faultAt m_bad m_badAt n_5 n_6 n_7 n_8 n_9 n_10 a_c a_words m_markMany a_there a_tried a_best a_found m_thereMany m_foundMany m_orderHow m_orderRing m_orderMany m_hasBest m_bestTop m_bestBy a_weights a_shared m_random m_truePlace m_trueWay m_seconds m_done m_feelings m_tries m_leftOver m_playDoor m_playRing m_isOpen m_isOver m_wasTried m_hasPlayed a_feltNow a_last a_kept m_hasSeconds 1 m_hasRound a_hasFeels a_isOn m_firstAct m_meanTop m_meanBy a_order m_rowMany m_newSteps g_tape 0 16 (by decide +kernel) (by decide +kernel) hr_m_textEnd hr_n_6 hr_n_7 (z_rgw hr_m_bad (by decide) (by decide)) hr_n_5 hr_n_8 hr_n_9) lk_RX12_214 ⟨rfl, rfl⟩ ⟨Nat.le_of_ble_eq_true rfl, Nat.le_of_ble_eq_true rfl⟩ 12 rfl rfl rfl [2, 3] [0, 1] rfl rfl (by decide) rfl hl.1 rfl (lv_room (Nat.le_of_ble_eq_true rfl)) dX12_readTurned_44 ⟨Nat.le_of_ble_eq_true rfl, Nat.le_of_ble_eq_true rfl⟩ (fun r_23 u_24 H locs hw hP hD hS => ?_)
    obtain ⟨n_15, n_16, n_17, n_18, n_19, n_20, n_21, n_22⟩ := u_24
    try dsimp only at hw
    obtain ⟨hr_r_23, hr_n_15, hr_n_17, hr_n_18, hr_n_19, hr_n_20, hr_n_21, hf_25, hf_26, hf_27, hf_28, hf_29, hf_30⟩ := hw
    refine z_iast hx hb hK hP hD hS 0 0 rfl rfl (z_in (i := 1469) (n := 1825) (by decide +kernel) (by decide +kernel)) dX12_readTurned_47 (fun g_31 hg_g_31 H locs hP hD hS => ?_)
    have hC_g_31 := z_ctUk hC_g_c hg_g_31 (k := 1469) (lo := (-2147483648)) (hi := 2147483647) (by decide +kernel) (by decide +kernel) (by decide +kernel) (z_full _)
    have hs_32 : zNw g_31 g_isOn := (zNw_fr hNW0 hg_g_31 (a := 1469) (b := 1469) (by decide +kernel) (by decide +kernel) (by decide +kernel))
    have hs_33 : zNf g_31 := (zNf_fr hNF0 hg_g_31 (a := 1469) (b := 1469) (by decide +kernel) (by decide +kernel) (by decide +kernel))
    have hpost : (0 ≤ n_15.toInt ∧ n_15.toInt ≤ 9) ∧ (0 ≤ n_17.toInt ∧ n_17.toInt ≤ 4) ∧ (0 ≤ n_18.toInt ∧ n_18.toInt ≤ 900) ∧ (0 ≤ n_19.toInt ∧ n_19.toInt ≤ 900) ∧ (0 ≤ n_20.toInt ∧ n_20.toInt ≤ 9999) ∧ (0 ≤ n_21.toInt ∧ n_21.toInt ≤ 900) ∧ ((1 : Int32) = 0 ∨ (1 : Int32) = 1) ∧ (zC g_31) ∧ (zNw g_31 g_isOn) ∧ (m_behind.toInt ≤ n_19.toInt) ∧ (0 < m_bad.toInt → 0 < n_15.toInt) ∧ (n_15.toInt ≤ 0 → n_17.toInt = 0 ∨ m_behind.toInt < n_19.toInt) ∧ (n_15.toInt ≤ 0 → n_17.toInt = 3 → n_20.toInt = 59 → zNf g_31) := ⟨hr_n_15, hr_n_17, hr_n_18, hr_n_19, hr_n_20, hr_n_21, (Or.inr rfl), hC_g_31, hs_32, (by omega), (by omega), (by omega), (fun _ _ _ => hs_33)⟩
    exact hret _ _ _ _ _ (n_15, n_16, n_17, n_18, n_19, n_20, n_21, n_22, 1, g_31) [2, 3, 0, 1] hP hD hS rfl (by decide) dX12_readTurned_48 hpost
  · have b_34 := z_fneF c_1
    refine lv_aload_n hx hb dX12_readTurned_7 rfl (lv_at hl 0 rfl) ?_
    refine lv_iconst (v := 5) hx hb dX12_readTurned_8 (by decide) ?_
    refine lv_aload_n hx hb dX12_readTurned_9 rfl (lv_at hl 0 rfl) ?_
    refine va_get (D := G) (ci := 12) (v := .int m_at) (C := RX12) (T := TX12) (N := 65) hx hb hts inT12 hown hK hP 0 rfl rfl 15 (by decide) (hts _ tw_1900) (fun _ h9 => h9) rfl dX12_readTurned_10 ?_
    refine z_callVv (As := [.int 5, .int m_at]) (rest := []) (wr := [(a_tape, .inl (cA.1 2, 900, .inl g_tape)), (a_c, .inl (cA.1 0, 1825, .inl g_c)), (a_isOn, .inl (cA.1 3, 10, .inl g_isOn))]) ⟨hx, hb, hml, hown, hts⟩ hK hE hT hP hD hS hA (r_fail l G cA h0 m_status m_thrown m_above m_under a_traySort a_trayMany a_numbers a_tape m_taped m_textEnd m_faultKind m_faultAt m_bad m_badAt m_token m_at m_behind m_number m_letters m_word a_c a_words m_markMany a_there a_tried a_best a_found m_thereMany m_foundMany m_orderHow m_orderRing m_orderMany m_hasBest m_bestTop m_bestBy a_weights a_shared m_random m_truePlace m_trueWay m_seconds m_done m_feelings m_tries m_leftOver m_playDoor m_playRing m_isOpen m_isOver m_wasTried m_hasPlayed a_feltNow a_last a_kept m_hasSeconds m_hasTurned m_hasRound a_hasFeels a_isOn m_firstAct m_meanTop m_meanBy a_order m_rowMany m_newSteps 5 m_at (by decide +kernel) (z_rgw hr_m_bad (by decide) (by decide))) lk_RX12_180 ⟨rfl, rfl⟩ ⟨Nat.le_of_ble_eq_true rfl, Nat.le_of_ble_eq_true rfl⟩ 12 rfl rfl rfl [0] [1, 2, 3] rfl rfl (by decide) rfl hl.1 rfl (lv_room (Nat.le_of_ble_eq_true rfl)) dX12_readTurned_13 ⟨Nat.le_of_ble_eq_true rfl, Nat.le_of_ble_eq_true rfl⟩ (fun u_38 H locs hw hP hD hS => ?_)
    obtain ⟨n_35, n_36⟩ := u_38
    try dsimp only at hw
    obtain ⟨hr_n_35, hf_39⟩ := hw
    refine lv_aload_n hx hb dX12_readTurned_16 rfl (lv_at hl 0 rfl) ?_
    refine va_get (D := G) (ci := 12) (v := .int n_35) (C := RX12) (T := TX12) (N := 65) hx hb hts inT12 hown hK hP 3 rfl rfl 12 (by decide) (hts _ tw_1897) (fun _ h9 => h9) rfl dX12_readTurned_17 ?_
    refine lv_if_le (tgt := 24) hx hb dX12_readTurned_20 (by decide) (fun h9 => (z_no (by have h8 := z_fleT h9; omega))) (fun c_40 => ?_)
    have b_41 := z_fgtF c_40
    have hpost : (0 ≤ n_35.toInt ∧ n_35.toInt ≤ 9) ∧ (0 ≤ m_token.toInt ∧ m_token.toInt ≤ 4) ∧ (0 ≤ m_at.toInt ∧ m_at.toInt ≤ 900) ∧ (0 ≤ m_behind.toInt ∧ m_behind.toInt ≤ 900) ∧ (0 ≤ m_number.toInt ∧ m_number.toInt ≤ 9999) ∧ (0 ≤ m_letters.toInt ∧ m_letters.toInt ≤ 900) ∧ (m_hasTurned = 0 ∨ m_hasTurned = 1) ∧ (zC g_c) ∧ (zNw g_c g_isOn) ∧ (m_behind.toInt ≤ m_behind.toInt) ∧ (0 < m_bad.toInt → 0 < n_35.toInt) ∧ (n_35.toInt ≤ 0 → m_token.toInt = 0 ∨ m_behind.toInt < m_behind.toInt) ∧ (n_35.toInt ≤ 0 → m_token.toInt = 3 → m_number.toInt = 59 → zNf g_c) := ⟨(z_rgw hr_n_35 (by decide) (by decide)), hr_m_token, hr_m_at, hr_m_behind, hr_m_number, hr_m_letters, hz_m_hasTurned, hC_g_c, hNW0, (by omega), (by omega), (by omega), (fun _ _ _ => hNF0)⟩
    exact hret _ _ _ _ _ (n_35, n_36, m_token, m_at, m_behind, m_number, m_letters, m_word, m_hasTurned, g_c) [3, 0, 1, 2] hP hD hS rfl (by decide) dX12_readTurned_23 hpost
set_option maxHeartbeats 4000000 in
set_option maxRecDepth 100000 in
theorem r_readRound (l : Launch) (G : va_G) (cA : zCA) (h0 : Nat) (m_status : Int32) (m_thrown : Int32) (m_above : Int64) (m_under : Int64) (a_traySort : Nat) (a_trayMany : Nat) (a_numbers : Nat) (a_tape : Nat) (m_taped : Int32) (m_textEnd : Int32) (m_faultKind : Int32) (m_faultAt : Int32) (m_bad : Int32) (m_badAt : Int32) (m_token : Int32) (m_at : Int32) (m_behind : Int32) (m_number : Int32) (m_letters : Int32) (m_word : Int64) (a_c : Nat) (a_words : Nat) (m_markMany : Int32) (a_there : Nat) (a_tried : Nat) (a_best : Nat) (a_found : Nat) (m_thereMany : Int32) (m_foundMany : Int32) (m_orderHow : Int32) (m_orderRing : Int32) (m_orderMany : Int32) (m_hasBest : Int32) (m_bestTop : Int64) (m_bestBy : Int64) (a_weights : Nat) (a_shared : Nat) (m_random : Int32) (m_truePlace : Int32) (m_trueWay : Int32) (m_seconds : Int32) (m_done : Int32) (m_feelings : Int32) (m_tries : Int32) (m_leftOver : Int32) (m_playDoor : Int32) (m_playRing : Int32) (m_isOpen : Int32) (m_isOver : Int32) (m_wasTried : Int32) (m_hasPlayed : Int32) (a_feltNow : Nat) (a_last : Nat) (a_kept : Nat) (m_hasSeconds : Int32) (m_hasTurned : Int32) (m_hasRound : Int32) (a_hasFeels : Nat) (a_isOn : Nat) (m_firstAct : Int32) (m_meanTop : Int64) (m_meanBy : Int64) (a_order : Nat) (m_rowMany : Int32) (m_newSteps : Int32) (g_tape : Nat → Int32) (g_c : Nat → Int32) (g_words : Nat → Int64) (g_isOn : Nat → Int32) (hr_m_textEnd : 0 ≤ m_textEnd.toInt ∧ m_textEnd.toInt ≤ 900) (hr_m_at : 0 ≤ m_at.toInt ∧ m_at.toInt ≤ 900) (hr_m_behind : 0 ≤ m_behind.toInt ∧ m_behind.toInt ≤ 900) (hr_m_bad : 0 ≤ m_bad.toInt ∧ m_bad.toInt ≤ 0) (hr_m_token : 0 ≤ m_token.toInt ∧ m_token.toInt ≤ 4) (hr_m_number : 0 ≤ m_number.toInt ∧ m_number.toInt ≤ 9999) (hr_m_letters : 0 ≤ m_letters.toInt ∧ m_letters.toInt ≤ 900) (hz_m_hasRound : m_hasRound = 0 ∨ m_hasRound = 1) (hC_g_c : zC g_c) (hC_g_isOn : zRg 10 0 1 g_isOn) (hNW0 : zNw g_c g_isOn) (hNF0 : zNf g_c) : zCv l yX12_readRound cX12_readRound 3 none ({ frames := 4, cells := 0, slots := 0, locals := 90 }) G cA [.ref h0] [(h0, .inr (12, [.int m_status, .int m_thrown, .long m_above, .long m_under, .ref a_traySort, .ref a_trayMany, .ref a_numbers, .ref a_tape, .int m_taped, .int m_textEnd, .int m_faultKind, .int m_faultAt, .int m_bad, .int m_badAt, .int m_token, .int m_at, .int m_behind, .int m_number, .int m_letters, .long m_word, .ref a_c, .ref a_words, .int m_markMany, .ref a_there, .ref a_tried, .ref a_best, .ref a_found, .int m_thereMany, .int m_foundMany, .int m_orderHow, .int m_orderRing, .int m_orderMany, .int m_hasBest, .long m_bestTop, .long m_bestBy, .ref a_weights, .ref a_shared, .int m_random, .int m_truePlace, .int m_trueWay, .int m_seconds, .int m_done, .int m_feelings, .int m_tries, .int m_leftOver, .int m_playDoor, .int m_playRing, .int m_isOpen, .int m_isOver, .int m_wasTried, .int m_hasPlayed, .ref a_feltNow, .ref a_last, .ref a_kept, .int m_hasSeconds, .int m_hasTurned, .int m_hasRound, .ref a_hasFeels, .ref a_isOn, .int m_firstAct, .long m_meanTop, .long m_meanBy, .ref a_order, .int m_rowMany, .int m_newSteps])), (a_tape, .inl (cA.1 2, 900, .inl g_tape)), (a_c, .inl (cA.1 0, 1825, .inl g_c)), (a_words, .inl (cA.1 1, 105, .inr (.inl g_words))), (a_isOn, .inl (cA.1 3, 10, .inl g_isOn))] (S := Int32 × Int32 × Int32 × Int32 × Int32 × Int32 × Int32 × Int64 × Int32 × (Nat → Int32)) (fun (u : Int32 × Int32 × Int32 × Int32 × Int32 × Int32 × Int32 × Int64 × Int32 × (Nat → Int32)) => (0 ≤ u.1.toInt ∧ u.1.toInt ≤ 9) ∧ (0 ≤ u.2.2.1.toInt ∧ u.2.2.1.toInt ≤ 4) ∧ (0 ≤ u.2.2.2.1.toInt ∧ u.2.2.2.1.toInt ≤ 900) ∧ (0 ≤ u.2.2.2.2.1.toInt ∧ u.2.2.2.2.1.toInt ≤ 900) ∧ (0 ≤ u.2.2.2.2.2.1.toInt ∧ u.2.2.2.2.2.1.toInt ≤ 9999) ∧ (0 ≤ u.2.2.2.2.2.2.1.toInt ∧ u.2.2.2.2.2.2.1.toInt ≤ 900) ∧ (u.2.2.2.2.2.2.2.2.1 = 0 ∨ u.2.2.2.2.2.2.2.2.1 = 1) ∧ (zC u.2.2.2.2.2.2.2.2.2) ∧ (zNw u.2.2.2.2.2.2.2.2.2 g_isOn) ∧ (m_behind.toInt ≤ u.2.2.2.2.1.toInt) ∧ (0 < m_bad.toInt → 0 < u.1.toInt) ∧ (u.1.toInt ≤ 0 → u.2.2.1.toInt = 0 ∨ m_behind.toInt < u.2.2.2.2.1.toInt) ∧ (u.1.toInt ≤ 0 → u.2.2.1.toInt = 3 → u.2.2.2.2.2.1.toInt = 59 → zNf u.2.2.2.2.2.2.2.2.2)) (fun (u : Int32 × Int32 × Int32 × Int32 × Int32 × Int32 × Int32 × Int64 × Int32 × (Nat → Int32)) => [(h0, .inr (12, [.int m_status, .int m_thrown, .long m_above, .long m_under, .ref a_traySort, .ref a_trayMany, .ref a_numbers, .ref a_tape, .int m_taped, .int m_textEnd, .int m_faultKind, .int m_faultAt, .int u.1, .int u.2.1, .int u.2.2.1, .int u.2.2.2.1, .int u.2.2.2.2.1, .int u.2.2.2.2.2.1, .int u.2.2.2.2.2.2.1, .long u.2.2.2.2.2.2.2.1, .ref a_c, .ref a_words, .int m_markMany, .ref a_there, .ref a_tried, .ref a_best, .ref a_found, .int m_thereMany, .int m_foundMany, .int m_orderHow, .int m_orderRing, .int m_orderMany, .int m_hasBest, .long m_bestTop, .long m_bestBy, .ref a_weights, .ref a_shared, .int m_random, .int m_truePlace, .int m_trueWay, .int m_seconds, .int m_done, .int m_feelings, .int m_tries, .int m_leftOver, .int m_playDoor, .int m_playRing, .int m_isOpen, .int m_isOver, .int m_wasTried, .int m_hasPlayed, .ref a_feltNow, .ref a_last, .ref a_kept, .int m_hasSeconds, .int m_hasTurned, .int u.2.2.2.2.2.2.2.2.1, .ref a_hasFeels, .ref a_isOn, .int m_firstAct, .long m_meanTop, .long m_meanBy, .ref a_order, .int m_rowMany, .int m_newSteps])), (a_tape, .inl (cA.1 2, 900, .inl g_tape)), (a_c, .inl (cA.1 0, 1825, .inl u.2.2.2.2.2.2.2.2.2)), (a_words, .inl (cA.1 1, 105, .inr (.inl g_words))), (a_isOn, .inl (cA.1 3, 10, .inl g_isOn))]) 0 0 := by
  have hk_0 : (0 : Int32).toInt = 0 := by decide +kernel
  have hk_1 : (1 : Int32).toInt = 1 := by decide +kernel
  have hk_3 : (3 : Int32).toInt = 3 := by decide +kernel
  have hk_5 : (5 : Int32).toInt = 5 := by decide +kernel
  have hk_6 : (6 : Int32).toInt = 6 := by decide +kernel
  have hk_12 : (12 : Int32).toInt = 12 := by decide +kernel
  have hk_16 : (16 : Int32).toInt = 16 := by decide +kernel
  have hk_1598 : (1598 : Int32).toInt = 1598 := by decide +kernel
  refine z_start2v (own := RX12) (by decide) (Nat.le_of_ble_eq_true rfl) rfl ?_
  intro p e s m args below meth c A ls Q hx hb hml hts hown hK hE hT hP hD hS hA hl hret
  have hl : lv_has ls 3 [(0, .ref h0)] := hl
  refine lv_aload_n hx hb dX12_readRound_0 rfl (lv_at hl 0 rfl) ?_
  refine va_get (D := G) (ci := 12) (v := .int m_hasRound) (C := RX12) (T := TX12) (N := 65) hx hb hts inT12 hown hK hP 0 rfl rfl 56 (by decide) (hts _ tw_1939) (fun _ h9 => h9) rfl dX12_readRound_1 ?_
  refine lv_if_eq (tgt := 16) hx hb dX12_readRound_4 (by decide) (fun c_1 => ?_) (fun c_1 => ?_)
  · have b_2 := z_feqT c_1
    refine lv_aload_n hx hb dX12_readRound_16 rfl (lv_at hl 0 rfl) ?_
    refine va_get (D := G) (ci := 12) (v := .int m_bad) (C := RX12) (T := TX12) (N := 65) hx hb hts inT12 hown hK hP 0 rfl rfl 12 (by decide) (hts _ tw_1897) (fun _ h9 => h9) rfl dX12_readRound_17 ?_
    refine lv_if_le (tgt := 24) hx hb dX12_readRound_20 (by decide) (fun c_3 => ?_) (fun h9 => (z_no (by have h8 := z_fgtF h9; omega)))
    have b_4 := z_fleT c_3
    refine lv_aload_n hx hb dX12_readRound_24 rfl (lv_at hl 0 rfl) ?_
    refine lv_iconst (v := 1) hx hb dX12_readRound_25 (by decide) ?_
    refine va_put (D := G) (ci := 12) (v := .int 1) (ty := .boolean) (C := RX12) (T := TX12) (N := 65) hx hb hts inT12 tyX12 tyX12_ok nmX12 hown hK hP hD hS 0 rfl rfl 56 (by decide) (hts _ tw_1939) (fun _ h9 => h9) rfl (tyX12_ok 56 (by decide)) rfl rfl (Nat.le_of_ble_eq_true rfl) dX12_readRound_26 (fun H locs hP hD hS => ?_)
    refine lv_aload_n hx hb dX12_readRound_29 rfl (lv_at hl 0 rfl) ?_
    refine z_callVv (As := []) (rest := []) (wr := [(a_c, .inl (cA.1 0, 1825, .inl g_c)), (a_words, .inl (cA.1 1, 105, .inr (.inl g_words))), (a_isOn, .inl (cA.1 3, 10, .inl g_isOn))]) ⟨hx, hb, hml, hown, hts⟩ hK hE hT hP hD hS hA (r_next2 l G cA h0 m_status m_thrown m_above m_under a_traySort a_trayMany a_numbers a_tape m_taped m_textEnd m_faultKind m_faultAt m_bad m_badAt m_token m_at m_behind m_number m_letters m_word a_c a_words m_markMany a_there a_tried a_best a_found m_thereMany m_foundMany m_orderHow m_orderRing m_orderMany m_hasBest m_bestTop m_bestBy a_weights a_shared m_random m_truePlace m_trueWay m_seconds m_done m_feelings m_tries m_leftOver m_playDoor m_playRing m_isOpen m_isOver m_wasTried m_hasPlayed a_feltNow a_last a_kept m_hasSeconds m_hasTurned 1 a_hasFeels a_isOn m_firstAct m_meanTop m_meanBy a_order m_rowMany m_newSteps g_tape hr_m_textEnd hr_m_at hr_m_behind hr_m_token hr_m_number hr_m_letters) lk_RX12_184 ⟨rfl, rfl⟩ ⟨Nat.le_of_ble_eq_true rfl, Nat.le_of_ble_eq_true rfl⟩ 12 rfl rfl rfl [0, 1] [2, 3, 4] rfl rfl (by decide) rfl hl.1 rfl (lv_room (Nat.le_of_ble_eq_true rfl)) dX12_readRound_30 ⟨Nat.le_of_ble_eq_true rfl, Nat.le_of_ble_eq_true rfl⟩ (fun u_12 H locs hw hP hD hS => ?_)
    obtain ⟨n_5, n_6, n_7, n_8, n_9, n_10⟩ := u_12
    try dsimp only at hw
    obtain ⟨hr_n_5, hr_n_6, hr_n_7, hr_n_8, hr_n_9, hf_13, hf_14⟩ := hw
    refine lv_iconst (v := 1) hx hb dX12_readRound_33 (by decide) ?_
    refine lv_istore_n (lv' := [(1, .int 1), (0, .ref h0)]) hx hb dX12_readRound_34 rfl hl (by decide) rfl (fun ls hl => ?_)
    have hlp_195 : ∀ (n : Nat) (v_128 : Int32) (g_129 : Nat → Int32) (v_130 : Int32) (v_131 : Int32) (v_132 : Int32) (v_133 : Int32) (v_134 : Int32) (v_135 : Int32) (v_136 : Int32) (v_137 : Int64) (H : Heap) (locs : List Loc) (ls : Array Slot), (900 - v_134.toInt + v_128.toInt).toNat < n → (0 ≤ v_128.toInt ∧ v_128.toInt ≤ 1) → (zC g_129) → (0 ≤ v_130.toInt ∧ v_130.toInt ≤ 0) → (0 ≤ v_132.toInt ∧ v_132.toInt ≤ 4) → (0 ≤ v_133.toInt ∧ v_133.toInt ≤ 900) → (0 ≤ v_134.toInt ∧ v_134.toInt ≤ 900) → (0 ≤ v_135.toInt ∧ v_135.toInt ≤ 9999) → (0 ≤ v_136.toInt ∧ v_136.toInt ≤ 900) → (zNw g_129 g_isOn) → (zNf g_129) → (m_behind.toInt ≤ v_134.toInt) → (v_130.toInt ≤ 0 → v_132.toInt = 0 ∨ m_behind.toInt < v_134.toInt) → va_P G vwCl [(a_c, .inl (cA.1 0, 1825, .inl g_129)), (a_words, .inl (cA.1 1, 105, .inr (.inl g_words))), (a_isOn, .inl (cA.1 3, 10, .inl g_isOn)), (h0, .inr (12, [.int m_status, .int m_thrown, .long m_above, .long m_under, .ref a_traySort, .ref a_trayMany, .ref a_numbers, .ref a_tape, .int m_taped, .int m_textEnd, .int m_faultKind, .int m_faultAt, .int v_130, .int v_131, .int v_132, .int v_133, .int v_134, .int v_135, .int v_136, .long v_137, .ref a_c, .ref a_words, .int m_markMany, .ref a_there, .ref a_tried, .ref a_best, .ref a_found, .int m_thereMany, .int m_foundMany, .int m_orderHow, .int m_orderRing, .int m_orderMany, .int m_hasBest, .long m_bestTop, .long m_bestBy, .ref a_weights, .ref a_shared, .int m_random, .int m_truePlace, .int m_trueWay, .int m_seconds, .int m_done, .int m_feelings, .int m_tries, .int m_leftOver, .int m_playDoor, .int m_playRing, .int m_isOpen, .int m_isOver, .int m_wasTried, .int m_hasPlayed, .ref a_feltNow, .ref a_last, .ref a_kept, .int m_hasSeconds, .int m_hasTurned, .int 1, .ref a_hasFeels, .ref a_isOn, .int m_firstAct, .long m_meanTop, .long m_meanBy, .ref a_order, .int m_rowMany, .int m_newSteps])), (a_tape, .inl (cA.1 2, 900, .inl g_tape))] H → va_D A [(a_c, .inl (cA.1 0, 1825, .inl g_129)), (a_words, .inl (cA.1 1, 105, .inr (.inl g_words))), (a_isOn, .inl (cA.1 3, 10, .inl g_isOn)), (h0, .inr (12, [.int m_status, .int m_thrown, .long m_above, .long m_under, .ref a_traySort, .ref a_trayMany, .ref a_numbers, .ref a_tape, .int m_taped, .int m_textEnd, .int m_faultKind, .int m_faultAt, .int v_130, .int v_131, .int v_132, .int v_133, .int v_134, .int v_135, .int v_136, .long v_137, .ref a_c, .ref a_words, .int m_markMany, .ref a_there, .ref a_tried, .ref a_best, .ref a_found, .int m_thereMany, .int m_foundMany, .int m_orderHow, .int m_orderRing, .int m_orderMany, .int m_hasBest, .long m_bestTop, .long m_bestBy, .ref a_weights, .ref a_shared, .int m_random, .int m_truePlace, .int m_trueWay, .int m_seconds, .int m_done, .int m_feelings, .int m_tries, .int m_leftOver, .int m_playDoor, .int m_playRing, .int m_isOpen, .int m_isOver, .int m_wasTried, .int m_hasPlayed, .ref a_feltNow, .ref a_last, .ref a_kept, .int m_hasSeconds, .int m_hasTurned, .int 1, .ref a_hasFeels, .ref a_isOn, .int m_firstAct, .long m_meanTop, .long m_meanBy, .ref a_order, .int m_rowMany, .int m_newSteps])), (a_tape, .inl (cA.1 2, 900, .inl g_tape))] → va_S A s.heap H locs → lv_has ls 3 [(0, .ref h0), (1, .int v_128)] → W p l e ({ frames := 4, cells := 0, slots := 0, locals := 90 }) s m args below meth c H locs 0 0 Q (F0 m 35 ls []) := by
      intro n
      induction n with
      | zero =>
        intro v_128 g_129 v_130 v_131 v_132 v_133 v_134 v_135 v_136 v_137 H locs ls hmu_hlp_195 hr_v_128 hC_g_129 hr_v_130 hr_v_132 hr_v_133 hr_v_134 hr_v_135 hr_v_136 hs_191 hs_192 hi_193 hi_194 hP hD hS hl
        exact absurd hmu_hlp_195 (Nat.not_lt_zero _)
      | succ n ih_196 =>
        intro v_128 g_129 v_130 v_131 v_132 v_133 v_134 v_135 v_136 v_137 H locs ls hmu_hlp_195 hr_v_128 hC_g_129 hr_v_130 hr_v_132 hr_v_133 hr_v_134 hr_v_135 hr_v_136 hs_191 hs_192 hi_193 hi_194 hP hD hS hl
        refine lv_iload_n hx hb dX12_readRound_35 rfl (lv_at hl 1 rfl) ?_
        refine lv_if_eq (tgt := 143) hx hb dX12_readRound_36 (by decide) (fun c_197 => ?_) (fun c_197 => ?_)
        · have b_198 := z_feqT c_197
          have hpost : (0 ≤ v_130.toInt ∧ v_130.toInt ≤ 9) ∧ (0 ≤ v_132.toInt ∧ v_132.toInt ≤ 4) ∧ (0 ≤ v_133.toInt ∧ v_133.toInt ≤ 900) ∧ (0 ≤ v_134.toInt ∧ v_134.toInt ≤ 900) ∧ (0 ≤ v_135.toInt ∧ v_135.toInt ≤ 9999) ∧ (0 ≤ v_136.toInt ∧ v_136.toInt ≤ 900) ∧ ((1 : Int32) = 0 ∨ (1 : Int32) = 1) ∧ (zC g_129) ∧ (zNw g_129 g_isOn) ∧ (m_behind.toInt ≤ v_134.toInt) ∧ (0 < m_bad.toInt → 0 < v_130.toInt) ∧ (v_130.toInt ≤ 0 → v_132.toInt = 0 ∨ m_behind.toInt < v_134.toInt) ∧ (v_130.toInt ≤ 0 → v_132.toInt = 3 → v_135.toInt = 59 → zNf g_129) := ⟨(z_rgw hr_v_130 (by decide) (by decide)), hr_v_132, hr_v_133, hr_v_134, hr_v_135, hr_v_136, (Or.inr rfl), hC_g_129, hs_191, (by omega), (by omega), (by omega), (fun _ _ _ => hs_192)⟩
          exact hret _ _ _ _ _ (v_130, v_131, v_132, v_133, v_134, v_135, v_136, v_137, 1, g_129) [3, 4, 0, 1, 2] hP hD hS rfl (by decide) dX12_readRound_143 hpost
        · have b_199 := z_fneF c_197
          refine lv_aload_n hx hb dX12_readRound_39 rfl (lv_at hl 0 rfl) ?_
          refine va_get (D := G) (ci := 12) (v := .int v_130) (C := RX12) (T := TX12) (N := 65) hx hb hts inT12 hown hK hP 3 rfl rfl 12 (by decide) (hts _ tw_1897) (fun _ h9 => h9) rfl dX12_readRound_40 ?_
          refine lv_if_ne (tgt := 143) hx hb dX12_readRound_43 (by decide) (fun h9 => (z_no (by have h8 := z_fneT h9; omega))) (fun c_200 => ?_)
          have b_201 := z_feqF c_200
          refine lv_aload_n hx hb dX12_readRound_46 rfl (lv_at hl 0 rfl) ?_
          refine lv_iconst (v := 3) hx hb dX12_readRound_47 (by decide) ?_
          refine lv_bipush (v := 16) hx hb dX12_readRound_48 (by decide) ?_
          refine z_callVi (As := [.int 3, .int 16]) (rest := []) (wr := [(a_isOn, .inl (cA.1 3, 10, .inl g_isOn)), (a_tape, .inl (cA.1 2, 900, .inl g_tape))]) ⟨hx, hb, hml, hown, hts⟩ hK hE hT hP hD hS hA (r_readOld_3 l G cA h0 m_status m_thrown m_above m_under a_traySort a_trayMany a_numbers a_tape m_taped m_textEnd m_faultKind m_faultAt v_130 v_131 v_132 v_133 v_134 v_135 v_136 v_137 a_c a_words m_markMany a_there a_tried a_best a_found m_thereMany m_foundMany m_orderHow m_orderRing m_orderMany m_hasBest m_bestTop m_bestBy a_weights a_shared m_random m_truePlace m_trueWay m_seconds m_done m_feelings m_tries m_leftOver m_playDoor m_playRing m_isOpen m_isOver m_wasTried m_hasPlayed a_feltNow a_last a_kept m_hasSeconds m_hasTurned 1 a_hasFeels a_isOn m_firstAct m_meanTop m_meanBy a_order m_rowMany m_newSteps g_129 g_words hr_v_133 (z_rgw hr_v_130 (by decide) (by decide)) hr_v_132 hr_v_136 hC_g_129) lk_RX12_217 ⟨rfl, rfl⟩ ⟨Nat.le_of_ble_eq_true rfl, Nat.le_of_ble_eq_true rfl⟩ 12 rfl rfl rfl [3, 0, 1] [2, 4] rfl rfl (by decide) rfl hl.1 rfl (lv_room (Nat.le_of_ble_eq_true rfl)) dX12_readRound_50 ⟨Nat.le_of_ble_eq_true rfl, Nat.le_of_ble_eq_true rfl⟩ (fun r_204 u_205 H locs hw hP hD hS => ?_)
          obtain ⟨n_202, n_203⟩ := u_205
          try dsimp only at hw
          obtain ⟨hr_r_204, hr_n_202, hf_206, hf_207, hf_208⟩ := hw
          refine lv_istore_n (lv' := [(2, .int r_204), (0, .ref h0), (1, .int v_128)]) hx hb dX12_readRound_53 rfl hl (by decide) rfl (fun ls hl => ?_)
          refine lv_aload_n hx hb dX12_readRound_54 rfl (lv_at hl 1 rfl) ?_
          refine va_get (D := G) (ci := 12) (v := .int n_202) (C := RX12) (T := TX12) (N := 65) hx hb hts inT12 hown hK hP 2 rfl rfl 12 (by decide) (hts _ tw_1897) (fun _ h9 => h9) rfl dX12_readRound_55 ?_
          refine lv_if_ne (tgt := 84) hx hb dX12_readRound_58 (by decide) (fun c_209 => ?_) (fun c_209 => ?_)
          · have b_210 := z_fneT c_209
            refine lv_aload_n hx hb dX12_readRound_84 rfl (lv_at hl 1 rfl) ?_
            refine va_get (D := G) (ci := 12) (v := .int n_202) (C := RX12) (T := TX12) (N := 65) hx hb hts inT12 hown hK hP 2 rfl rfl 12 (by decide) (hts _ tw_1897) (fun _ h9 => h9) rfl dX12_readRound_85 ?_
            refine lv_if_le (tgt := 92) hx hb dX12_readRound_88 (by decide) (fun h9 => (z_no (by have h8 := z_fleT h9; omega))) (fun c_211 => ?_)
            have b_212 := z_fgtF c_211
            have hpost : (0 ≤ n_202.toInt ∧ n_202.toInt ≤ 9) ∧ (0 ≤ v_132.toInt ∧ v_132.toInt ≤ 4) ∧ (0 ≤ v_133.toInt ∧ v_133.toInt ≤ 900) ∧ (0 ≤ v_134.toInt ∧ v_134.toInt ≤ 900) ∧ (0 ≤ v_135.toInt ∧ v_135.toInt ≤ 9999) ∧ (0 ≤ v_136.toInt ∧ v_136.toInt ≤ 900) ∧ ((1 : Int32) = 0 ∨ (1 : Int32) = 1) ∧ (zC g_129) ∧ (zNw g_129 g_isOn) ∧ (m_behind.toInt ≤ v_134.toInt) ∧ (0 < m_bad.toInt → 0 < n_202.toInt) ∧ (n_202.toInt ≤ 0 → v_132.toInt = 0 ∨ m_behind.toInt < v_134.toInt) ∧ (n_202.toInt ≤ 0 → v_132.toInt = 3 → v_135.toInt = 59 → zNf g_129) := ⟨hr_n_202, hr_v_132, hr_v_133, hr_v_134, hr_v_135, hr_v_136, (Or.inr rfl), hC_g_129, hs_191, (by omega), (by omega), (by omega), (fun _ _ _ => hs_192)⟩
            exact hret _ _ _ _ _ (n_202, n_203, v_132, v_133, v_134, v_135, v_136, v_137, 1, g_129) [2, 1, 3, 4, 0] hP hD hS rfl (by decide) dX12_readRound_91 hpost
          · have b_213 := z_feqF c_209
            refine lv_aload_n hx hb dX12_readRound_61 rfl (lv_at hl 1 rfl) ?_
            refine va_get (D := G) (ci := 12) (v := .ref a_c) (C := RX12) (T := TX12) (N := 65) hx hb hts inT12 hown hK hP 2 rfl rfl 20 (by decide) (hts _ tw_1905) (fun _ h9 => h9) rfl dX12_readRound_62 ?_
            refine lv_sipush (v := 1464) hx hb dX12_readRound_65 (by decide) ?_
            refine va_iald hx hb hK hP 3 0 rfl rfl (z_in (i := 1464) (n := 1825) (by decide +kernel) (by decide +kernel)) dX12_readRound_68 ?_
            refine lv_topi (fun x_214 he_x_214 => ?_)
            have hr_x_214 := z_ctk hC_g_129 he_x_214 (k := 1464) (lo := 0) (hi := 12) (by decide +kernel) (by decide +kernel) (by decide +kernel)
            have hv_x_214 := z_cv he_x_214 (k := 1464) (by decide +kernel)
            refine lv_bipush (v := 12) hx hb dX12_readRound_69 (by decide) ?_
            refine lv_icmp_ne (tgt := 84) hx hb dX12_readRound_71 (by decide) (fun c_215 => ?_) (fun c_215 => ?_)
            · have b_216 := z_fneT c_215
              refine lv_aload_n hx hb dX12_readRound_84 rfl (lv_at hl 1 rfl) ?_
              refine va_get (D := G) (ci := 12) (v := .int n_202) (C := RX12) (T := TX12) (N := 65) hx hb hts inT12 hown hK hP 2 rfl rfl 12 (by decide) (hts _ tw_1897) (fun _ h9 => h9) rfl dX12_readRound_85 ?_
              refine lv_if_le (tgt := 92) hx hb dX12_readRound_88 (by decide) (fun c_217 => ?_) (fun h9 => (z_no (by have h8 := z_fgtF h9; omega)))
              have b_218 := z_fleT c_217
              refine lv_aload_n hx hb dX12_readRound_92 rfl (lv_at hl 1 rfl) ?_
              refine va_get (D := G) (ci := 12) (v := .ref a_c) (C := RX12) (T := TX12) (N := 65) hx hb hts inT12 hown hK hP 2 rfl rfl 20 (by decide) (hts _ tw_1905) (fun _ h9 => h9) rfl dX12_readRound_93 ?_
              refine lv_sipush (v := 1598) hx hb dX12_readRound_96 (by decide) ?_
              refine lv_aload_n hx hb dX12_readRound_99 rfl (lv_at hl 1 rfl) ?_
              refine va_get (D := G) (ci := 12) (v := .ref a_c) (C := RX12) (T := TX12) (N := 65) hx hb hts inT12 hown hK hP 2 rfl rfl 20 (by decide) (hts _ tw_1905) (fun _ h9 => h9) rfl dX12_readRound_100 ?_
              refine lv_sipush (v := 1464) hx hb dX12_readRound_103 (by decide) ?_
              refine va_iald hx hb hK hP 3 0 rfl rfl (z_in (i := 1464) (n := 1825) (by decide +kernel) (by decide +kernel)) dX12_readRound_106 ?_
              refine lv_topi (fun x_219 he_x_219 => ?_)
              have hr_x_219 := z_ctk hC_g_129 he_x_219 (k := 1464) (lo := 0) (hi := 12) (by decide +kernel) (by decide +kernel) (by decide +kernel)
              have hv_x_219 := z_cv he_x_219 (k := 1464) (by decide +kernel)
              refine lv_iadd hx hb dX12_readRound_107 ?_
              refine lv_topi (fun x_220 he_x_220 => ?_)
              have hq_x_220 := z_addq he_x_220 hk_1598 (rfl : x_219.toInt = _) (by omega) (by omega)
              refine lv_iload_n hx hb dX12_readRound_108 rfl (lv_at hl 0 rfl) ?_
              refine z_iast hx hb hK hP hD hS 3 0 rfl rfl (z_inN (by omega) (by omega)) dX12_readRound_109 (fun g_221 hg_g_221 H locs hP hD hS => ?_)
              have hC_g_221 := z_ctU hC_g_129 hg_g_221 (a := 1598) (b := 1609) (lo := 0) (hi := 4) (by decide +kernel) (by decide +kernel) (by omega) (by omega) (by omega)
              have hw_g_221_1463 := z_cwo hg_g_221 (k := 1463) (by omega) (by omega)
              have hw_g_221_1464 := z_cwo hg_g_221 (k := 1464) (by omega) (by omega)
              have hs_222 : zNw g_221 g_isOn := (zNw_fr hs_191 hg_g_221 (a := 1598) (b := 1609) (by decide +kernel) (by omega) (by omega))
              have hs_223 : zNf g_221 := (zNf_fr hs_192 hg_g_221 (a := 1598) (b := 1609) (by decide +kernel) (by omega) (by omega))
              refine lv_aload_n hx hb dX12_readRound_110 rfl (lv_at hl 1 rfl) ?_
              refine va_get (D := G) (ci := 12) (v := .ref a_c) (C := RX12) (T := TX12) (N := 65) hx hb hts inT12 hown hK hP 2 rfl rfl 20 (by decide) (hts _ tw_1905) (fun _ h9 => h9) rfl dX12_readRound_111 ?_
              refine lv_sipush (v := 1464) hx hb dX12_readRound_114 (by decide) ?_
              refine lv_dup2_11 hx hb dX12_readRound_117 rfl rfl ?_
              refine va_iald hx hb hK hP 3 0 rfl rfl (z_in (i := 1464) (n := 1825) (by decide +kernel) (by decide +kernel)) dX12_readRound_118 ?_
              refine lv_topi (fun x_224 he_x_224 => ?_)
              have hr_x_224 := z_ctk hC_g_221 he_x_224 (k := 1464) (lo := 0) (hi := 12) (by decide +kernel) (by decide +kernel) (by decide +kernel)
              have hv_x_224 := z_cv he_x_224 (k := 1464) (by decide +kernel)
              refine lv_iconst (v := 1) hx hb dX12_readRound_119 (by decide) ?_
              refine lv_iadd hx hb dX12_readRound_120 ?_
              refine lv_topi (fun x_225 he_x_225 => ?_)
              have hq_x_225 := z_addq he_x_225 (rfl : x_224.toInt = _) hk_1 (by omega) (by omega)
              refine z_iast hx hb hK hP hD hS 3 0 rfl rfl (z_in (i := 1464) (n := 1825) (by decide +kernel) (by decide +kernel)) dX12_readRound_121 (fun g_226 hg_g_226 H locs hP hD hS => ?_)
              have hC_g_226 := z_ctUk hC_g_221 hg_g_226 (k := 1464) (lo := 0) (hi := 12) (by decide +kernel) (by decide +kernel) (by decide +kernel) (by omega)
              have hw_g_226_1463 := z_cwo hg_g_226 (k := 1463) (by decide +kernel) (by decide +kernel)
              have hw_g_226_1464 := z_cwk hg_g_226 (k := 1464) (by decide +kernel)
              have hs_227 : zNw g_226 g_isOn := (zNw_fr hs_222 hg_g_226 (a := 1464) (b := 1464) (by decide +kernel) (by decide +kernel) (by decide +kernel))
              have hs_228 : zNf g_226 := (zNf_fr hs_223 hg_g_226 (a := 1464) (b := 1464) (by decide +kernel) (by decide +kernel) (by decide +kernel))
              refine lv_aload_n hx hb dX12_readRound_122 rfl (lv_at hl 1 rfl) ?_
              refine z_callVv (As := []) (rest := []) (wr := [(a_isOn, .inl (cA.1 3, 10, .inl g_isOn)), (a_c, .inl (cA.1 0, 1825, .inl g_226)), (a_words, .inl (cA.1 1, 105, .inr (.inl g_words)))]) ⟨hx, hb, hml, hown, hts⟩ hK hE hT hP hD hS hA (r_next2 l G cA h0 m_status m_thrown m_above m_under a_traySort a_trayMany a_numbers a_tape m_taped m_textEnd m_faultKind m_faultAt n_202 n_203 v_132 v_133 v_134 v_135 v_136 v_137 a_c a_words m_markMany a_there a_tried a_best a_found m_thereMany m_foundMany m_orderHow m_orderRing m_orderMany m_hasBest m_bestTop m_bestBy a_weights a_shared m_random m_truePlace m_trueWay m_seconds m_done m_feelings m_tries m_leftOver m_playDoor m_playRing m_isOpen m_isOver m_wasTried m_hasPlayed a_feltNow a_last a_kept m_hasSeconds m_hasTurned 1 a_hasFeels a_isOn m_firstAct m_meanTop m_meanBy a_order m_rowMany m_newSteps g_tape hr_m_textEnd hr_v_133 hr_v_134 hr_v_132 hr_v_135 hr_v_136) lk_RX12_184 ⟨rfl, rfl⟩ ⟨Nat.le_of_ble_eq_true rfl, Nat.le_of_ble_eq_true rfl⟩ 12 rfl rfl rfl [2, 1] [0, 3, 4] rfl rfl (by decide) rfl hl.1 rfl (lv_room (Nat.le_of_ble_eq_true rfl)) dX12_readRound_123 ⟨Nat.le_of_ble_eq_true rfl, Nat.le_of_ble_eq_true rfl⟩ (fun u_236 H locs hw hP hD hS => ?_)
              obtain ⟨n_229, n_230, n_231, n_232, n_233, n_234⟩ := u_236
              try dsimp only at hw
              obtain ⟨hr_n_229, hr_n_230, hr_n_231, hr_n_232, hr_n_233, hf_237, hf_238⟩ := hw
              refine lv_aload_n hx hb dX12_readRound_126 rfl (lv_at hl 1 rfl) ?_
              refine va_get (D := G) (ci := 12) (v := .int n_229) (C := RX12) (T := TX12) (N := 65) hx hb hts inT12 hown hK hP 3 rfl rfl 14 (by decide) (hts _ tw_1899) (fun _ h9 => h9) rfl dX12_readRound_127 ?_
              refine lv_iconst (v := 1) hx hb dX12_readRound_130 (by decide) ?_
              refine lv_icmp_ne (tgt := 138) hx hb dX12_readRound_131 (by decide) (fun c_239 => ?_) (fun c_239 => ?_)
              · have b_240 := z_fneT c_239
                refine lv_iconst (v := 0) hx hb dX12_readRound_138 (by decide) ?_
                refine lv_istore_n (lv' := [(1, .int 0), (2, .int r_204), (0, .ref h0)]) hx hb dX12_readRound_139 rfl hl (by decide) rfl (fun ls hl => ?_)
                refine lv_goto (tgt := 35) hx hb dX12_readRound_140 (by decide) ?_
                have hP := hP.sub (ws' := [(a_c, .inl (cA.1 0, 1825, .inl g_226)), (a_words, .inl (cA.1 1, 105, .inr (.inl g_words))), (a_isOn, .inl (cA.1 3, 10, .inl g_isOn)), (h0, .inr (12, [.int m_status, .int m_thrown, .long m_above, .long m_under, .ref a_traySort, .ref a_trayMany, .ref a_numbers, .ref a_tape, .int m_taped, .int m_textEnd, .int m_faultKind, .int m_faultAt, .int n_202, .int n_203, .int n_229, .int n_230, .int n_231, .int n_232, .int n_233, .long n_234, .ref a_c, .ref a_words, .int m_markMany, .ref a_there, .ref a_tried, .ref a_best, .ref a_found, .int m_thereMany, .int m_foundMany, .int m_orderHow, .int m_orderRing, .int m_orderMany, .int m_hasBest, .long m_bestTop, .long m_bestBy, .ref a_weights, .ref a_shared, .int m_random, .int m_truePlace, .int m_trueWay, .int m_seconds, .int m_done, .int m_feelings, .int m_tries, .int m_leftOver, .int m_playDoor, .int m_playRing, .int m_isOpen, .int m_isOver, .int m_wasTried, .int m_hasPlayed, .ref a_feltNow, .ref a_last, .ref a_kept, .int m_hasSeconds, .int m_hasTurned, .int 1, .ref a_hasFeels, .ref a_isOn, .int m_firstAct, .long m_meanTop, .long m_meanBy, .ref a_order, .int m_rowMany, .int m_newSteps])), (a_tape, .inl (cA.1 2, 900, .inl g_tape))]) [1, 2, 0, 3, 4] rfl
                have hD := hD.sub (ws' := [(a_c, .inl (cA.1 0, 1825, .inl g_226)), (a_words, .inl (cA.1 1, 105, .inr (.inl g_words))), (a_isOn, .inl (cA.1 3, 10, .inl g_isOn)), (h0, .inr (12, [.int m_status, .int m_thrown, .long m_above, .long m_under, .ref a_traySort, .ref a_trayMany, .ref a_numbers, .ref a_tape, .int m_taped, .int m_textEnd, .int m_faultKind, .int m_faultAt, .int n_202, .int n_203, .int n_229, .int n_230, .int n_231, .int n_232, .int n_233, .long n_234, .ref a_c, .ref a_words, .int m_markMany, .ref a_there, .ref a_tried, .ref a_best, .ref a_found, .int m_thereMany, .int m_foundMany, .int m_orderHow, .int m_orderRing, .int m_orderMany, .int m_hasBest, .long m_bestTop, .long m_bestBy, .ref a_weights, .ref a_shared, .int m_random, .int m_truePlace, .int m_trueWay, .int m_seconds, .int m_done, .int m_feelings, .int m_tries, .int m_leftOver, .int m_playDoor, .int m_playRing, .int m_isOpen, .int m_isOver, .int m_wasTried, .int m_hasPlayed, .ref a_feltNow, .ref a_last, .ref a_kept, .int m_hasSeconds, .int m_hasTurned, .int 1, .ref a_hasFeels, .ref a_isOn, .int m_firstAct, .long m_meanTop, .long m_meanBy, .ref a_order, .int m_rowMany, .int m_newSteps])), (a_tape, .inl (cA.1 2, 900, .inl g_tape))]) [1, 2, 0, 3, 4] (by decide) rfl
                exact ih_196 0 g_226 n_202 n_203 n_229 n_230 n_231 n_232 n_233 n_234 H locs ls (by omega) (by decide +kernel) hC_g_226 (by omega) hr_n_229 hr_n_230 hr_n_231 hr_n_232 hr_n_233 hs_227 hs_228 (by omega) (by omega) hP hD hS (lv_sub hl [2, 0] rfl)
              · have b_241 := z_feqF c_239
                refine lv_iconst (v := 1) hx hb dX12_readRound_134 (by decide) ?_
                refine lv_goto (tgt := 139) hx hb dX12_readRound_135 (by decide) ?_
                refine lv_istore_n (lv' := [(1, .int 1), (2, .int r_204), (0, .ref h0)]) hx hb dX12_readRound_139 rfl hl (by decide) rfl (fun ls hl => ?_)
                refine lv_goto (tgt := 35) hx hb dX12_readRound_140 (by decide) ?_
                have hP := hP.sub (ws' := [(a_c, .inl (cA.1 0, 1825, .inl g_226)), (a_words, .inl (cA.1 1, 105, .inr (.inl g_words))), (a_isOn, .inl (cA.1 3, 10, .inl g_isOn)), (h0, .inr (12, [.int m_status, .int m_thrown, .long m_above, .long m_under, .ref a_traySort, .ref a_trayMany, .ref a_numbers, .ref a_tape, .int m_taped, .int m_textEnd, .int m_faultKind, .int m_faultAt, .int n_202, .int n_203, .int n_229, .int n_230, .int n_231, .int n_232, .int n_233, .long n_234, .ref a_c, .ref a_words, .int m_markMany, .ref a_there, .ref a_tried, .ref a_best, .ref a_found, .int m_thereMany, .int m_foundMany, .int m_orderHow, .int m_orderRing, .int m_orderMany, .int m_hasBest, .long m_bestTop, .long m_bestBy, .ref a_weights, .ref a_shared, .int m_random, .int m_truePlace, .int m_trueWay, .int m_seconds, .int m_done, .int m_feelings, .int m_tries, .int m_leftOver, .int m_playDoor, .int m_playRing, .int m_isOpen, .int m_isOver, .int m_wasTried, .int m_hasPlayed, .ref a_feltNow, .ref a_last, .ref a_kept, .int m_hasSeconds, .int m_hasTurned, .int 1, .ref a_hasFeels, .ref a_isOn, .int m_firstAct, .long m_meanTop, .long m_meanBy, .ref a_order, .int m_rowMany, .int m_newSteps])), (a_tape, .inl (cA.1 2, 900, .inl g_tape))]) [1, 2, 0, 3, 4] rfl
                have hD := hD.sub (ws' := [(a_c, .inl (cA.1 0, 1825, .inl g_226)), (a_words, .inl (cA.1 1, 105, .inr (.inl g_words))), (a_isOn, .inl (cA.1 3, 10, .inl g_isOn)), (h0, .inr (12, [.int m_status, .int m_thrown, .long m_above, .long m_under, .ref a_traySort, .ref a_trayMany, .ref a_numbers, .ref a_tape, .int m_taped, .int m_textEnd, .int m_faultKind, .int m_faultAt, .int n_202, .int n_203, .int n_229, .int n_230, .int n_231, .int n_232, .int n_233, .long n_234, .ref a_c, .ref a_words, .int m_markMany, .ref a_there, .ref a_tried, .ref a_best, .ref a_found, .int m_thereMany, .int m_foundMany, .int m_orderHow, .int m_orderRing, .int m_orderMany, .int m_hasBest, .long m_bestTop, .long m_bestBy, .ref a_weights, .ref a_shared, .int m_random, .int m_truePlace, .int m_trueWay, .int m_seconds, .int m_done, .int m_feelings, .int m_tries, .int m_leftOver, .int m_playDoor, .int m_playRing, .int m_isOpen, .int m_isOver, .int m_wasTried, .int m_hasPlayed, .ref a_feltNow, .ref a_last, .ref a_kept, .int m_hasSeconds, .int m_hasTurned, .int 1, .ref a_hasFeels, .ref a_isOn, .int m_firstAct, .long m_meanTop, .long m_meanBy, .ref a_order, .int m_rowMany, .int m_newSteps])), (a_tape, .inl (cA.1 2, 900, .inl g_tape))]) [1, 2, 0, 3, 4] (by decide) rfl
                exact ih_196 1 g_226 n_202 n_203 n_229 n_230 n_231 n_232 n_233 n_234 H locs ls (by omega) (by decide +kernel) hC_g_226 (by omega) hr_n_229 hr_n_230 hr_n_231 hr_n_232 hr_n_233 hs_227 hs_228 (by omega) (by omega) hP hD hS (lv_sub hl [2, 0] rfl)
            · have b_242 := z_feqF c_215
              refine lv_aload_n hx hb dX12_readRound_74 rfl (lv_at hl 1 rfl) ?_
              refine lv_bipush (v := 6) hx hb dX12_readRound_75 (by decide) ?_
              refine lv_aload_n hx hb dX12_readRound_77 rfl (lv_at hl 1 rfl) ?_
              refine va_get (D := G) (ci := 12) (v := .int v_133) (C := RX12) (T := TX12) (N := 65) hx hb hts inT12 hown hK hP 2 rfl rfl 15 (by decide) (hts _ tw_1900) (fun _ h9 => h9) rfl dX12_readRound_78 ?_
              refine z_callVv (As := [.int 6, .int v_133]) (rest := []) (wr := [(a_isOn, .inl (cA.1 3, 10, .inl g_isOn)), (a_tape, .inl (cA.1 2, 900, .inl g_tape)), (a_c, .inl (cA.1 0, 1825, .inl g_129)), (a_words, .inl (cA.1 1, 105, .inr (.inl g_words)))]) ⟨hx, hb, hml, hown, hts⟩ hK hE hT hP hD hS hA (r_fail l G cA h0 m_status m_thrown m_above m_under a_traySort a_trayMany a_numbers a_tape m_taped m_textEnd m_faultKind m_faultAt n_202 n_203 v_132 v_133 v_134 v_135 v_136 v_137 a_c a_words m_markMany a_there a_tried a_best a_found m_thereMany m_foundMany m_orderHow m_orderRing m_orderMany m_hasBest m_bestTop m_bestBy a_weights a_shared m_random m_truePlace m_trueWay m_seconds m_done m_feelings m_tries m_leftOver m_playDoor m_playRing m_isOpen m_isOver m_wasTried m_hasPlayed a_feltNow a_last a_kept m_hasSeconds m_hasTurned 1 a_hasFeels a_isOn m_firstAct m_meanTop m_meanBy a_order m_rowMany m_newSteps 6 v_133 (by decide +kernel) hr_n_202) lk_RX12_180 ⟨rfl, rfl⟩ ⟨Nat.le_of_ble_eq_true rfl, Nat.le_of_ble_eq_true rfl⟩ 12 rfl rfl rfl [2] [0, 1, 3, 4] rfl rfl (by decide) rfl hl.1 rfl (lv_room (Nat.le_of_ble_eq_true rfl)) dX12_readRound_81 ⟨Nat.le_of_ble_eq_true rfl, Nat.le_of_ble_eq_true rfl⟩ (fun u_246 H locs hw hP hD hS => ?_)
              obtain ⟨n_243, n_244⟩ := u_246
              try dsimp only at hw
              obtain ⟨hr_n_243, hf_247⟩ := hw
              refine lv_aload_n hx hb dX12_readRound_84 rfl (lv_at hl 1 rfl) ?_
              refine va_get (D := G) (ci := 12) (v := .int n_243) (C := RX12) (T := TX12) (N := 65) hx hb hts inT12 hown hK hP 4 rfl rfl 12 (by decide) (hts _ tw_1897) (fun _ h9 => h9) rfl dX12_readRound_85 ?_
              refine lv_if_le (tgt := 92) hx hb dX12_readRound_88 (by decide) (fun h9 => (z_no (by have h8 := z_fleT h9; omega))) (fun c_248 => ?_)
              have b_249 := z_fgtF c_248
              have hpost : (0 ≤ n_243.toInt ∧ n_243.toInt ≤ 9) ∧ (0 ≤ v_132.toInt ∧ v_132.toInt ≤ 4) ∧ (0 ≤ v_133.toInt ∧ v_133.toInt ≤ 900) ∧ (0 ≤ v_134.toInt ∧ v_134.toInt ≤ 900) ∧ (0 ≤ v_135.toInt ∧ v_135.toInt ≤ 9999) ∧ (0 ≤ v_136.toInt ∧ v_136.toInt ≤ 900) ∧ ((1 : Int32) = 0 ∨ (1 : Int32) = 1) ∧ (zC g_129) ∧ (zNw g_129 g_isOn) ∧ (m_behind.toInt ≤ v_134.toInt) ∧ (0 < m_bad.toInt → 0 < n_243.toInt) ∧ (n_243.toInt ≤ 0 → v_132.toInt = 0 ∨ m_behind.toInt < v_134.toInt) ∧ (n_243.toInt ≤ 0 → v_132.toInt = 3 → v_135.toInt = 59 → zNf g_129) := ⟨(z_rgw hr_n_243 (by decide) (by decide)), hr_v_132, hr_v_133, hr_v_134, hr_v_135, hr_v_136, (Or.inr rfl), hC_g_129, hs_191, (by omega), (by omega), (by omega), (fun _ _ _ => hs_192)⟩
              exact hret _ _ _ _ _ (n_243, n_244, v_132, v_133, v_134, v_135, v_136, v_137, 1, g_129) [4, 1, 2, 3, 0] hP hD hS rfl (by decide) dX12_readRound_91 hpost
    exact hlp_195 _ 1 g_c m_bad m_badAt n_5 n_6 n_7 n_8 n_9 n_10 _ _ _ (Nat.lt_succ_self _) (by decide +kernel) hC_g_c hr_m_bad hr_n_5 hr_n_6 hr_n_7 hr_n_8 hr_n_9 hNW0 hNF0 (by omega) (by omega) hP hD hS (lv_sub hl [1, 0] rfl)
  · have b_250 := z_fneF c_1
    refine lv_aload_n hx hb dX12_readRound_7 rfl (lv_at hl 0 rfl) ?_
    refine lv_iconst (v := 5) hx hb dX12_readRound_8 (by decide) ?_
    refine lv_aload_n hx hb dX12_readRound_9 rfl (lv_at hl 0 rfl) ?_
    refine va_get (D := G) (ci := 12) (v := .int m_at) (C := RX12) (T := TX12) (N := 65) hx hb hts inT12 hown hK hP 0 rfl rfl 15 (by decide) (hts _ tw_1900) (fun _ h9 => h9) rfl dX12_readRound_10 ?_
    refine z_callVv (As := [.int 5, .int m_at]) (rest := []) (wr := [(a_tape, .inl (cA.1 2, 900, .inl g_tape)), (a_c, .inl (cA.1 0, 1825, .inl g_c)), (a_words, .inl (cA.1 1, 105, .inr (.inl g_words))), (a_isOn, .inl (cA.1 3, 10, .inl g_isOn))]) ⟨hx, hb, hml, hown, hts⟩ hK hE hT hP hD hS hA (r_fail l G cA h0 m_status m_thrown m_above m_under a_traySort a_trayMany a_numbers a_tape m_taped m_textEnd m_faultKind m_faultAt m_bad m_badAt m_token m_at m_behind m_number m_letters m_word a_c a_words m_markMany a_there a_tried a_best a_found m_thereMany m_foundMany m_orderHow m_orderRing m_orderMany m_hasBest m_bestTop m_bestBy a_weights a_shared m_random m_truePlace m_trueWay m_seconds m_done m_feelings m_tries m_leftOver m_playDoor m_playRing m_isOpen m_isOver m_wasTried m_hasPlayed a_feltNow a_last a_kept m_hasSeconds m_hasTurned m_hasRound a_hasFeels a_isOn m_firstAct m_meanTop m_meanBy a_order m_rowMany m_newSteps 5 m_at (by decide +kernel) (z_rgw hr_m_bad (by decide) (by decide))) lk_RX12_180 ⟨rfl, rfl⟩ ⟨Nat.le_of_ble_eq_true rfl, Nat.le_of_ble_eq_true rfl⟩ 12 rfl rfl rfl [0] [1, 2, 3, 4] rfl rfl (by decide) rfl hl.1 rfl (lv_room (Nat.le_of_ble_eq_true rfl)) dX12_readRound_13 ⟨Nat.le_of_ble_eq_true rfl, Nat.le_of_ble_eq_true rfl⟩ (fun u_254 H locs hw hP hD hS => ?_)
    obtain ⟨n_251, n_252⟩ := u_254
    try dsimp only at hw
    obtain ⟨hr_n_251, hf_255⟩ := hw
    refine lv_aload_n hx hb dX12_readRound_16 rfl (lv_at hl 0 rfl) ?_
    refine va_get (D := G) (ci := 12) (v := .int n_251) (C := RX12) (T := TX12) (N := 65) hx hb hts inT12 hown hK hP 4 rfl rfl 12 (by decide) (hts _ tw_1897) (fun _ h9 => h9) rfl dX12_readRound_17 ?_
    refine lv_if_le (tgt := 24) hx hb dX12_readRound_20 (by decide) (fun h9 => (z_no (by have h8 := z_fleT h9; omega))) (fun c_256 => ?_)
    have b_257 := z_fgtF c_256
    have hpost : (0 ≤ n_251.toInt ∧ n_251.toInt ≤ 9) ∧ (0 ≤ m_token.toInt ∧ m_token.toInt ≤ 4) ∧ (0 ≤ m_at.toInt ∧ m_at.toInt ≤ 900) ∧ (0 ≤ m_behind.toInt ∧ m_behind.toInt ≤ 900) ∧ (0 ≤ m_number.toInt ∧ m_number.toInt ≤ 9999) ∧ (0 ≤ m_letters.toInt ∧ m_letters.toInt ≤ 900) ∧ (m_hasRound = 0 ∨ m_hasRound = 1) ∧ (zC g_c) ∧ (zNw g_c g_isOn) ∧ (m_behind.toInt ≤ m_behind.toInt) ∧ (0 < m_bad.toInt → 0 < n_251.toInt) ∧ (n_251.toInt ≤ 0 → m_token.toInt = 0 ∨ m_behind.toInt < m_behind.toInt) ∧ (n_251.toInt ≤ 0 → m_token.toInt = 3 → m_number.toInt = 59 → zNf g_c) := ⟨(z_rgw hr_n_251 (by decide) (by decide)), hr_m_token, hr_m_at, hr_m_behind, hr_m_number, hr_m_letters, hz_m_hasRound, hC_g_c, hNW0, (by omega), (by omega), (by omega), (fun _ _ _ => hNF0)⟩
    exact hret _ _ _ _ _ (n_251, n_252, m_token, m_at, m_behind, m_number, m_letters, m_word, m_hasRound, g_c) [4, 0, 1, 2, 3] hP hD hS rfl (by decide) dX12_readRound_23 hpost
