set_option maxHeartbeats 4000000 in
set_option maxRecDepth 100000 in
theorem r_isKnown (l : Launch) (G : va_G) (cA : zCA) (h0 : Nat) (m_status : Int32) (m_thrown : Int32) (m_above : Int64) (m_under : Int64) (a_traySort : Nat) (a_trayMany : Nat) (a_numbers : Nat) (a_tape : Nat) (m_taped : Int32) (m_textEnd : Int32) (m_faultKind : Int32) (m_faultAt : Int32) (m_bad : Int32) (m_badAt : Int32) (m_token : Int32) (m_at : Int32) (m_behind : Int32) (m_number : Int32) (m_letters : Int32) (m_word : Int64) (a_c : Nat) (a_words : Nat) (m_markMany : Int32) (a_there : Nat) (a_tried : Nat) (a_best : Nat) (a_found : Nat) (m_thereMany : Int32) (m_foundMany : Int32) (m_orderHow : Int32) (m_orderRing : Int32) (m_orderMany : Int32) (m_hasBest : Int32) (m_bestTop : Int64) (m_bestBy : Int64) (a_weights : Nat) (a_shared : Nat) (m_random : Int32) (m_truePlace : Int32) (m_trueWay : Int32) (m_seconds : Int32) (m_done : Int32) (m_feelings : Int32) (m_tries : Int32) (m_leftOver : Int32) (m_playDoor : Int32) (m_playRing : Int32) (m_isOpen : Int32) (m_isOver : Int32) (m_wasTried : Int32) (m_hasPlayed : Int32) (a_feltNow : Nat) (a_last : Nat) (a_kept : Nat) (m_hasSeconds : Int32) (m_hasTurned : Int32) (m_hasRound : Int32) (a_hasFeels : Nat) (a_isOn : Nat) (m_firstAct : Int32) (m_meanTop : Int64) (m_meanBy : Int64) (a_order : Nat) (m_rowMany : Int32) (m_newSteps : Int32) (g_c : Nat → Int32) (g_there : Nat → Int32) (nn : Int32) (o : Int32) (hr_nn : 0 ≤ nn.toInt ∧ nn.toInt ≤ 10) (hr_o : 0 ≤ o.toInt ∧ o.toInt ≤ 1) (hz_o : o = 0 ∨ o = 1) (hr_m_thereMany : 0 ≤ m_thereMany.toInt ∧ m_thereMany.toInt ≤ 10) (hC_g_c : zC g_c) (hC_g_there : zRg 10 0 9 g_there) (hp_0 : nn.toInt ≤ m_thereMany.toInt) : zCi l yX12_isKnown cX12_isKnown 5 (some .boolean) ({ frames := 3, cells := 0, slots := 0, locals := 76 }) G cA [.ref h0, .int nn, .int o] [(h0, .inr (12, [.int m_status, .int m_thrown, .long m_above, .long m_under, .ref a_traySort, .ref a_trayMany, .ref a_numbers, .ref a_tape, .int m_taped, .int m_textEnd, .int m_faultKind, .int m_faultAt, .int m_bad, .int m_badAt, .int m_token, .int m_at, .int m_behind, .int m_number, .int m_letters, .long m_word, .ref a_c, .ref a_words, .int m_markMany, .ref a_there, .ref a_tried, .ref a_best, .ref a_found, .int m_thereMany, .int m_foundMany, .int m_orderHow, .int m_orderRing, .int m_orderMany, .int m_hasBest, .long m_bestTop, .long m_bestBy, .ref a_weights, .ref a_shared, .int m_random, .int m_truePlace, .int m_trueWay, .int m_seconds, .int m_done, .int m_feelings, .int m_tries, .int m_leftOver, .int m_playDoor, .int m_playRing, .int m_isOpen, .int m_isOver, .int m_wasTried, .int m_hasPlayed, .ref a_feltNow, .ref a_last, .ref a_kept, .int m_hasSeconds, .int m_hasTurned, .int m_hasRound, .ref a_hasFeels, .ref a_isOn, .int m_firstAct, .long m_meanTop, .long m_meanBy, .ref a_order, .int m_rowMany, .int m_newSteps])), (a_c, .inl (cA.1 0, 1825, .inl g_c)), (a_there, .inl (cA.1 0, 10, .inl g_there))] (S := Unit) (fun (r : Int32) (u : Unit) => (r = 0 ∧ True) ∨ (r = 1 ∧ True)) (fun (u : Unit) => [(h0, .inr (12, [.int m_status, .int m_thrown, .long m_above, .long m_under, .ref a_traySort, .ref a_trayMany, .ref a_numbers, .ref a_tape, .int m_taped, .int m_textEnd, .int m_faultKind, .int m_faultAt, .int m_bad, .int m_badAt, .int m_token, .int m_at, .int m_behind, .int m_number, .int m_letters, .long m_word, .ref a_c, .ref a_words, .int m_markMany, .ref a_there, .ref a_tried, .ref a_best, .ref a_found, .int m_thereMany, .int m_foundMany, .int m_orderHow, .int m_orderRing, .int m_orderMany, .int m_hasBest, .long m_bestTop, .long m_bestBy, .ref a_weights, .ref a_shared, .int m_random, .int m_truePlace, .int m_trueWay, .int m_seconds, .int m_done, .int m_feelings, .int m_tries, .int m_leftOver, .int m_playDoor, .int m_playRing, .int m_isOpen, .int m_isOver, .int m_wasTried, .int m_hasPlayed, .ref a_feltNow, .ref a_last, .ref a_kept, .int m_hasSeconds, .int m_hasTurned, .int m_hasRound, .ref a_hasFeels, .ref a_isOn, .int m_firstAct, .long m_meanTop, .long m_meanBy, .ref a_order, .int m_rowMany, .int m_newSteps])), (a_c, .inl (cA.1 0, 1825, .inl g_c)), (a_there, .inl (cA.1 0, 10, .inl g_there))]) 0 0 := by
  have hk_0 : (0 : Int32).toInt = 0 := by decide +kernel
  have hk_1 : (1 : Int32).toInt = 1 := by decide +kernel
  refine z_start2z (own := RX12) (by decide) (Nat.le_of_ble_eq_true rfl) rfl ?_
  intro p e s m args below meth c A ls Q hx hb hml hts hown hK hE hT hP hD hS hA hl hret
  have hl : lv_has ls 5 [(0, .ref h0), (1, .int nn), (2, .int o)] := hl
  refine lv_iconst (v := 0) hx hb dX12_isKnown_0 (by decide) ?_
  refine lv_istore_n (lv' := [(3, .int 0), (0, .ref h0), (1, .int nn), (2, .int o)]) hx hb dX12_isKnown_1 rfl hl (by decide) rfl (fun ls hl => ?_)
  have hlp_3577 : ∀ (n : Nat) (v_3278 : Int32) (H : Heap) (locs : List Loc) (ls : Array Slot), (2147483647 - v_3278.toInt).toNat < n → (0 ≤ v_3278.toInt ∧ v_3278.toInt ≤ 10) → va_P G vwCl [(h0, .inr (12, [.int m_status, .int m_thrown, .long m_above, .long m_under, .ref a_traySort, .ref a_trayMany, .ref a_numbers, .ref a_tape, .int m_taped, .int m_textEnd, .int m_faultKind, .int m_faultAt, .int m_bad, .int m_badAt, .int m_token, .int m_at, .int m_behind, .int m_number, .int m_letters, .long m_word, .ref a_c, .ref a_words, .int m_markMany, .ref a_there, .ref a_tried, .ref a_best, .ref a_found, .int m_thereMany, .int m_foundMany, .int m_orderHow, .int m_orderRing, .int m_orderMany, .int m_hasBest, .long m_bestTop, .long m_bestBy, .ref a_weights, .ref a_shared, .int m_random, .int m_truePlace, .int m_trueWay, .int m_seconds, .int m_done, .int m_feelings, .int m_tries, .int m_leftOver, .int m_playDoor, .int m_playRing, .int m_isOpen, .int m_isOver, .int m_wasTried, .int m_hasPlayed, .ref a_feltNow, .ref a_last, .ref a_kept, .int m_hasSeconds, .int m_hasTurned, .int m_hasRound, .ref a_hasFeels, .ref a_isOn, .int m_firstAct, .long m_meanTop, .long m_meanBy, .ref a_order, .int m_rowMany, .int m_newSteps])), (a_c, .inl (cA.1 0, 1825, .inl g_c)), (a_there, .inl (cA.1 0, 10, .inl g_there))] H → va_D A [(h0, .inr (12, [.int m_status, .int m_thrown, .long m_above, .long m_under, .ref a_traySort, .ref a_trayMany, .ref a_numbers, .ref a_tape, .int m_taped, .int m_textEnd, .int m_faultKind, .int m_faultAt, .int m_bad, .int m_badAt, .int m_token, .int m_at, .int m_behind, .int m_number, .int m_letters, .long m_word, .ref a_c, .ref a_words, .int m_markMany, .ref a_there, .ref a_tried, .ref a_best, .ref a_found, .int m_thereMany, .int m_foundMany, .int m_orderHow, .int m_orderRing, .int m_orderMany, .int m_hasBest, .long m_bestTop, .long m_bestBy, .ref a_weights, .ref a_shared, .int m_random, .int m_truePlace, .int m_trueWay, .int m_seconds, .int m_done, .int m_feelings, .int m_tries, .int m_leftOver, .int m_playDoor, .int m_playRing, .int m_isOpen, .int m_isOver, .int m_wasTried, .int m_hasPlayed, .ref a_feltNow, .ref a_last, .ref a_kept, .int m_hasSeconds, .int m_hasTurned, .int m_hasRound, .ref a_hasFeels, .ref a_isOn, .int m_firstAct, .long m_meanTop, .long m_meanBy, .ref a_order, .int m_rowMany, .int m_newSteps])), (a_c, .inl (cA.1 0, 1825, .inl g_c)), (a_there, .inl (cA.1 0, 10, .inl g_there))] → va_S A s.heap H locs → lv_has ls 5 [(0, .ref h0), (1, .int nn), (2, .int o), (3, .int v_3278)] → W p l e ({ frames := 3, cells := 0, slots := 0, locals := 76 }) s m args below meth c H locs 0 0 Q (F0 m 2 ls []) := by
    intro n
    induction n with
    | zero =>
      intro v_3278 H locs ls hmu_hlp_3577 hr_v_3278 hP hD hS hl
      exact absurd hmu_hlp_3577 (Nat.not_lt_zero _)
    | succ n ih_3578 =>
      intro v_3278 H locs ls hmu_hlp_3577 hr_v_3278 hP hD hS hl
      refine lv_iload_n hx hb dX12_isKnown_2 rfl (lv_at hl 3 rfl) ?_
      refine lv_aload_n hx hb dX12_isKnown_3 rfl (lv_at hl 0 rfl) ?_
      refine va_get (D := G) (ci := 12) (v := .int m_thereMany) (C := RX12) (T := TX12) (N := 65) hx hb hts inT12 hown hK hP 0 rfl rfl 27 (by decide) (hts _ tw_1912) (fun _ h9 => h9) rfl dX12_isKnown_4 ?_
      refine lv_icmp_ge (tgt := 70) hx hb dX12_isKnown_7 (by decide) (fun c_3579 => ?_) (fun c_3579 => ?_)
      · have b_3580 := z_fgeT c_3579
        refine lv_iconst (v := 1) hx hb dX12_isKnown_70 (by decide) ?_
        have hpost : ((1 : Int32) = 0 ∧ True) ∨ ((1 : Int32) = 1 ∧ True) := (Or.inr ⟨rfl, trivial⟩)
        exact hret _ _ _ _ _ _ () [0, 1, 2] hP hD hS rfl (by decide) dX12_isKnown_71 (Or.inr rfl) hpost
      · have b_3581 := z_fltF c_3579
        refine lv_iconst (v := 0) hx hb dX12_isKnown_10 (by decide) ?_
        refine lv_istore (lv' := [(4, .int 0), (0, .ref h0), (1, .int nn), (2, .int o), (3, .int v_3278)]) hx hb dX12_isKnown_11 hl (by decide) rfl (fun ls hl => ?_)
        have hlp_3852 : ∀ (n : Nat) (v_3829 : Int32) (H : Heap) (locs : List Loc) (ls : Array Slot), (2147483647 - v_3829.toInt).toNat < n → (0 ≤ v_3829.toInt ∧ v_3829.toInt ≤ 10) → va_P G vwCl [(h0, .inr (12, [.int m_status, .int m_thrown, .long m_above, .long m_under, .ref a_traySort, .ref a_trayMany, .ref a_numbers, .ref a_tape, .int m_taped, .int m_textEnd, .int m_faultKind, .int m_faultAt, .int m_bad, .int m_badAt, .int m_token, .int m_at, .int m_behind, .int m_number, .int m_letters, .long m_word, .ref a_c, .ref a_words, .int m_markMany, .ref a_there, .ref a_tried, .ref a_best, .ref a_found, .int m_thereMany, .int m_foundMany, .int m_orderHow, .int m_orderRing, .int m_orderMany, .int m_hasBest, .long m_bestTop, .long m_bestBy, .ref a_weights, .ref a_shared, .int m_random, .int m_truePlace, .int m_trueWay, .int m_seconds, .int m_done, .int m_feelings, .int m_tries, .int m_leftOver, .int m_playDoor, .int m_playRing, .int m_isOpen, .int m_isOver, .int m_wasTried, .int m_hasPlayed, .ref a_feltNow, .ref a_last, .ref a_kept, .int m_hasSeconds, .int m_hasTurned, .int m_hasRound, .ref a_hasFeels, .ref a_isOn, .int m_firstAct, .long m_meanTop, .long m_meanBy, .ref a_order, .int m_rowMany, .int m_newSteps])), (a_c, .inl (cA.1 0, 1825, .inl g_c)), (a_there, .inl (cA.1 0, 10, .inl g_there))] H → va_D A [(h0, .inr (12, [.int m_status, .int m_thrown, .long m_above, .long m_under, .ref a_traySort, .ref a_trayMany, .ref a_numbers, .ref a_tape, .int m_taped, .int m_textEnd, .int m_faultKind, .int m_faultAt, .int m_bad, .int m_badAt, .int m_token, .int m_at, .int m_behind, .int m_number, .int m_letters, .long m_word, .ref a_c, .ref a_words, .int m_markMany, .ref a_there, .ref a_tried, .ref a_best, .ref a_found, .int m_thereMany, .int m_foundMany, .int m_orderHow, .int m_orderRing, .int m_orderMany, .int m_hasBest, .long m_bestTop, .long m_bestBy, .ref a_weights, .ref a_shared, .int m_random, .int m_truePlace, .int m_trueWay, .int m_seconds, .int m_done, .int m_feelings, .int m_tries, .int m_leftOver, .int m_playDoor, .int m_playRing, .int m_isOpen, .int m_isOver, .int m_wasTried, .int m_hasPlayed, .ref a_feltNow, .ref a_last, .ref a_kept, .int m_hasSeconds, .int m_hasTurned, .int m_hasRound, .ref a_hasFeels, .ref a_isOn, .int m_firstAct, .long m_meanTop, .long m_meanBy, .ref a_order, .int m_rowMany, .int m_newSteps])), (a_c, .inl (cA.1 0, 1825, .inl g_c)), (a_there, .inl (cA.1 0, 10, .inl g_there))] → va_S A s.heap H locs → lv_has ls 5 [(0, .ref h0), (1, .int nn), (2, .int o), (3, .int v_3278), (4, .int v_3829)] → W p l e ({ frames := 3, cells := 0, slots := 0, locals := 76 }) s m args below meth c H locs 0 0 Q (F0 m 13 ls []) := by
          intro n
          induction n with
          | zero =>
            intro v_3829 H locs ls hmu_hlp_3852 hr_v_3829 hP hD hS hl
            exact absurd hmu_hlp_3852 (Nat.not_lt_zero _)
          | succ n ih_3853 =>
            intro v_3829 H locs ls hmu_hlp_3852 hr_v_3829 hP hD hS hl
            refine lv_iload hx hb dX12_isKnown_13 (lv_at hl 4 rfl) ?_
            refine lv_aload_n hx hb dX12_isKnown_15 rfl (lv_at hl 0 rfl) ?_
            refine va_get (D := G) (ci := 12) (v := .int m_thereMany) (C := RX12) (T := TX12) (N := 65) hx hb hts inT12 hown hK hP 0 rfl rfl 27 (by decide) (hts _ tw_1912) (fun _ h9 => h9) rfl dX12_isKnown_16 ?_
            refine lv_icmp_ge (tgt := 64) hx hb dX12_isKnown_19 (by decide) (fun c_3854 => ?_) (fun c_3854 => ?_)
            · have b_3855 := z_fgeT c_3854
              obtain ⟨x_3856, he_x_3856⟩ : ∃ z : Int32, z = v_3278 + 1 := ⟨_, rfl⟩
              have hq_x_3856 := z_addq he_x_3856 (rfl : v_3278.toInt = _) hk_1 (by omega) (by omega)
              refine lv_iinc (v := x_3856) (lv' := [(3, .int x_3856), (0, .ref h0), (1, .int nn), (2, .int o), (4, .int v_3829)]) hx hb dX12_isKnown_64 hl (k := 3) rfl ((z_ofi (by decide +kernel)).trans he_x_3856.symm) (by decide) rfl (fun ls hl => ?_)
              refine lv_goto (tgt := 2) hx hb dX12_isKnown_67 (by decide) ?_
              exact ih_3578 x_3856 H locs ls (by omega) (by omega) hP hD hS (lv_sub hl [1, 2, 3, 0] rfl)
            · have b_3857 := z_fltF c_3854
              refine lv_iload_n hx hb dX12_isKnown_22 rfl (lv_at hl 3 rfl) ?_
              refine lv_iload hx hb dX12_isKnown_23 (lv_at hl 4 rfl) ?_
              refine lv_icmp_eq (tgt := 40) hx hb dX12_isKnown_25 (by decide) (fun c_3858 => ?_) (fun c_3858 => ?_)
              · have b_3859 := z_feqT c_3858
                refine lv_iload_n hx hb dX12_isKnown_40 rfl (lv_at hl 2 rfl) ?_
                refine lv_if_eq (tgt := 58) hx hb dX12_isKnown_41 (by decide) (fun c_3860 => ?_) (fun c_3860 => ?_)
                · have b_3861 := z_feqT c_3860
                  obtain ⟨x_3862, he_x_3862⟩ : ∃ z : Int32, z = v_3829 + 1 := ⟨_, rfl⟩
                  have hq_x_3862 := z_addq he_x_3862 (rfl : v_3829.toInt = _) hk_1 (by omega) (by omega)
                  refine lv_iinc (v := x_3862) (lv' := [(4, .int x_3862), (0, .ref h0), (1, .int nn), (2, .int o), (3, .int v_3278)]) hx hb dX12_isKnown_58 hl (k := 4) rfl ((z_ofi (by decide +kernel)).trans he_x_3862.symm) (by decide) rfl (fun ls hl => ?_)
                  refine lv_goto (tgt := 13) hx hb dX12_isKnown_61 (by decide) ?_
                  exact ih_3853 x_3862 H locs ls (by omega) (by omega) hP hD hS (lv_sub hl [1, 2, 3, 4, 0] rfl)
                · have b_3863 := z_fneF c_3860
                  refine lv_aload_n hx hb dX12_isKnown_44 rfl (lv_at hl 0 rfl) ?_
                  refine lv_iload_n hx hb dX12_isKnown_45 rfl (lv_at hl 3 rfl) ?_
                  refine lv_iload hx hb dX12_isKnown_46 (lv_at hl 4 rfl) ?_
                  refine lv_iconst (v := 1) hx hb dX12_isKnown_48 (by decide) ?_
                  refine lv_iload_n hx hb dX12_isKnown_49 rfl (lv_at hl 1 rfl) ?_
                  refine z_callVi (As := [.int v_3278, .int v_3829, .int 1, .int nn]) (rest := []) (wr := []) ⟨hx, hb, hml, hown, hts⟩ hK hE hT hP hD hS hA (r_areSame l G cA h0 m_status m_thrown m_above m_under a_traySort a_trayMany a_numbers a_tape m_taped m_textEnd m_faultKind m_faultAt m_bad m_badAt m_token m_at m_behind m_number m_letters m_word a_c a_words m_markMany a_there a_tried a_best a_found m_thereMany m_foundMany m_orderHow m_orderRing m_orderMany m_hasBest m_bestTop m_bestBy a_weights a_shared m_random m_truePlace m_trueWay m_seconds m_done m_feelings m_tries m_leftOver m_playDoor m_playRing m_isOpen m_isOver m_wasTried m_hasPlayed a_feltNow a_last a_kept m_hasSeconds m_hasTurned m_hasRound a_hasFeels a_isOn m_firstAct m_meanTop m_meanBy a_order m_rowMany m_newSteps g_c g_there v_3278 v_3829 1 nn (by omega) (by omega) (by decide +kernel) hr_nn hr_m_thereMany hC_g_c hC_g_there (by omega)) lk_RX12_468 ⟨rfl, rfl⟩ ⟨Nat.le_of_ble_eq_true rfl, Nat.le_of_ble_eq_true rfl⟩ 12 rfl rfl rfl [0, 1, 2] [] rfl rfl (by decide) rfl hl.1 rfl (lv_room (Nat.le_of_ble_eq_true rfl)) dX12_isKnown_50 ⟨Nat.le_of_ble_eq_true rfl, Nat.le_of_ble_eq_true rfl⟩ (fun r_3864 u_3865 H locs hw hP hD hS => ?_)
                  rcases hw with ⟨rfl, -⟩ | ⟨rfl, -⟩
                  · skip
                    refine lv_if_eq (tgt := 58) hx hb dX12_isKnown_53 (by decide) (fun _ => ?_) (fun h9 => absurd (by decide +kernel) h9)
                    obtain ⟨x_3866, he_x_3866⟩ : ∃ z : Int32, z = v_3829 + 1 := ⟨_, rfl⟩
                    have hq_x_3866 := z_addq he_x_3866 (rfl : v_3829.toInt = _) hk_1 (by omega) (by omega)
                    refine lv_iinc (v := x_3866) (lv' := [(4, .int x_3866), (0, .ref h0), (1, .int nn), (2, .int o), (3, .int v_3278)]) hx hb dX12_isKnown_58 hl (k := 4) rfl ((z_ofi (by decide +kernel)).trans he_x_3866.symm) (by decide) rfl (fun ls hl => ?_)
                    refine lv_goto (tgt := 13) hx hb dX12_isKnown_61 (by decide) ?_
                    exact ih_3853 x_3866 H locs ls (by omega) (by omega) hP hD hS (lv_sub hl [1, 2, 3, 4, 0] rfl)
                  · skip
                    refine lv_if_eq (tgt := 58) hx hb dX12_isKnown_53 (by decide) (fun h9 => absurd h9 (by decide +kernel)) (fun _ => ?_)
                    refine lv_iconst (v := 0) hx hb dX12_isKnown_56 (by decide) ?_
                    have hpost : ((0 : Int32) = 0 ∧ True) ∨ ((0 : Int32) = 1 ∧ True) := (Or.inl ⟨rfl, trivial⟩)
                    exact hret _ _ _ _ _ _ () [0, 1, 2] hP hD hS rfl (by decide) dX12_isKnown_57 (Or.inl rfl) hpost
              · have b_3867 := z_fneF c_3858
                refine lv_aload_n hx hb dX12_isKnown_28 rfl (lv_at hl 0 rfl) ?_
                refine lv_iload_n hx hb dX12_isKnown_29 rfl (lv_at hl 3 rfl) ?_
                refine lv_iload hx hb dX12_isKnown_30 (lv_at hl 4 rfl) ?_
                refine lv_iconst (v := 0) hx hb dX12_isKnown_32 (by decide) ?_
                refine lv_iload_n hx hb dX12_isKnown_33 rfl (lv_at hl 1 rfl) ?_
                refine z_callVi (As := [.int v_3278, .int v_3829, .int 0, .int nn]) (rest := []) (wr := []) ⟨hx, hb, hml, hown, hts⟩ hK hE hT hP hD hS hA (r_areSame l G cA h0 m_status m_thrown m_above m_under a_traySort a_trayMany a_numbers a_tape m_taped m_textEnd m_faultKind m_faultAt m_bad m_badAt m_token m_at m_behind m_number m_letters m_word a_c a_words m_markMany a_there a_tried a_best a_found m_thereMany m_foundMany m_orderHow m_orderRing m_orderMany m_hasBest m_bestTop m_bestBy a_weights a_shared m_random m_truePlace m_trueWay m_seconds m_done m_feelings m_tries m_leftOver m_playDoor m_playRing m_isOpen m_isOver m_wasTried m_hasPlayed a_feltNow a_last a_kept m_hasSeconds m_hasTurned m_hasRound a_hasFeels a_isOn m_firstAct m_meanTop m_meanBy a_order m_rowMany m_newSteps g_c g_there v_3278 v_3829 0 nn (by omega) (by omega) (by decide +kernel) hr_nn hr_m_thereMany hC_g_c hC_g_there (by omega)) lk_RX12_468 ⟨rfl, rfl⟩ ⟨Nat.le_of_ble_eq_true rfl, Nat.le_of_ble_eq_true rfl⟩ 12 rfl rfl rfl [0, 1, 2] [] rfl rfl (by decide) rfl hl.1 rfl (lv_room (Nat.le_of_ble_eq_true rfl)) dX12_isKnown_34 ⟨Nat.le_of_ble_eq_true rfl, Nat.le_of_ble_eq_true rfl⟩ (fun r_3868 u_3869 H locs hw hP hD hS => ?_)
                rcases hw with ⟨rfl, -⟩ | ⟨rfl, -⟩
                · skip
                  refine lv_if_ne (tgt := 56) hx hb dX12_isKnown_37 (by decide) (fun h9 => absurd (by decide +kernel) h9) (fun _ => ?_)
                  refine lv_iload_n hx hb dX12_isKnown_40 rfl (lv_at hl 2 rfl) ?_
                  refine lv_if_eq (tgt := 58) hx hb dX12_isKnown_41 (by decide) (fun c_3870 => ?_) (fun c_3870 => ?_)
                  · have b_3871 := z_feqT c_3870
                    obtain ⟨x_3872, he_x_3872⟩ : ∃ z : Int32, z = v_3829 + 1 := ⟨_, rfl⟩
                    have hq_x_3872 := z_addq he_x_3872 (rfl : v_3829.toInt = _) hk_1 (by omega) (by omega)
                    refine lv_iinc (v := x_3872) (lv' := [(4, .int x_3872), (0, .ref h0), (1, .int nn), (2, .int o), (3, .int v_3278)]) hx hb dX12_isKnown_58 hl (k := 4) rfl ((z_ofi (by decide +kernel)).trans he_x_3872.symm) (by decide) rfl (fun ls hl => ?_)
                    refine lv_goto (tgt := 13) hx hb dX12_isKnown_61 (by decide) ?_
                    exact ih_3853 x_3872 H locs ls (by omega) (by omega) hP hD hS (lv_sub hl [1, 2, 3, 4, 0] rfl)
                  · have b_3873 := z_fneF c_3870
                    refine lv_aload_n hx hb dX12_isKnown_44 rfl (lv_at hl 0 rfl) ?_
                    refine lv_iload_n hx hb dX12_isKnown_45 rfl (lv_at hl 3 rfl) ?_
                    refine lv_iload hx hb dX12_isKnown_46 (lv_at hl 4 rfl) ?_
                    refine lv_iconst (v := 1) hx hb dX12_isKnown_48 (by decide) ?_
                    refine lv_iload_n hx hb dX12_isKnown_49 rfl (lv_at hl 1 rfl) ?_
                    refine z_callVi (As := [.int v_3278, .int v_3829, .int 1, .int nn]) (rest := []) (wr := []) ⟨hx, hb, hml, hown, hts⟩ hK hE hT hP hD hS hA (r_areSame l G cA h0 m_status m_thrown m_above m_under a_traySort a_trayMany a_numbers a_tape m_taped m_textEnd m_faultKind m_faultAt m_bad m_badAt m_token m_at m_behind m_number m_letters m_word a_c a_words m_markMany a_there a_tried a_best a_found m_thereMany m_foundMany m_orderHow m_orderRing m_orderMany m_hasBest m_bestTop m_bestBy a_weights a_shared m_random m_truePlace m_trueWay m_seconds m_done m_feelings m_tries m_leftOver m_playDoor m_playRing m_isOpen m_isOver m_wasTried m_hasPlayed a_feltNow a_last a_kept m_hasSeconds m_hasTurned m_hasRound a_hasFeels a_isOn m_firstAct m_meanTop m_meanBy a_order m_rowMany m_newSteps g_c g_there v_3278 v_3829 1 nn (by omega) (by omega) (by decide +kernel) hr_nn hr_m_thereMany hC_g_c hC_g_there (by omega)) lk_RX12_468 ⟨rfl, rfl⟩ ⟨Nat.le_of_ble_eq_true rfl, Nat.le_of_ble_eq_true rfl⟩ 12 rfl rfl rfl [0, 1, 2] [] rfl rfl (by decide) rfl hl.1 rfl (lv_room (Nat.le_of_ble_eq_true rfl)) dX12_isKnown_50 ⟨Nat.le_of_ble_eq_true rfl, Nat.le_of_ble_eq_true rfl⟩ (fun r_3874 u_3875 H locs hw hP hD hS => ?_)
                    rcases hw with ⟨rfl, -⟩ | ⟨rfl, -⟩
                    · skip
                      refine lv_if_eq (tgt := 58) hx hb dX12_isKnown_53 (by decide) (fun _ => ?_) (fun h9 => absurd (by decide +kernel) h9)
                      obtain ⟨x_3876, he_x_3876⟩ : ∃ z : Int32, z = v_3829 + 1 := ⟨_, rfl⟩
                      have hq_x_3876 := z_addq he_x_3876 (rfl : v_3829.toInt = _) hk_1 (by omega) (by omega)
                      refine lv_iinc (v := x_3876) (lv' := [(4, .int x_3876), (0, .ref h0), (1, .int nn), (2, .int o), (3, .int v_3278)]) hx hb dX12_isKnown_58 hl (k := 4) rfl ((z_ofi (by decide +kernel)).trans he_x_3876.symm) (by decide) rfl (fun ls hl => ?_)
                      refine lv_goto (tgt := 13) hx hb dX12_isKnown_61 (by decide) ?_
                      exact ih_3853 x_3876 H locs ls (by omega) (by omega) hP hD hS (lv_sub hl [1, 2, 3, 4, 0] rfl)
                    · skip
                      refine lv_if_eq (tgt := 58) hx hb dX12_isKnown_53 (by decide) (fun h9 => absurd h9 (by decide +kernel)) (fun _ => ?_)
                      refine lv_iconst (v := 0) hx hb dX12_isKnown_56 (by decide) ?_
                      have hpost : ((0 : Int32) = 0 ∧ True) ∨ ((0 : Int32) = 1 ∧ True) := (Or.inl ⟨rfl, trivial⟩)
                      exact hret _ _ _ _ _ _ () [0, 1, 2] hP hD hS rfl (by decide) dX12_isKnown_57 (Or.inl rfl) hpost
                · skip
                  refine lv_if_ne (tgt := 56) hx hb dX12_isKnown_37 (by decide) (fun _ => ?_) (fun h9 => absurd h9 (by decide +kernel))
                  refine lv_iconst (v := 0) hx hb dX12_isKnown_56 (by decide) ?_
                  have hpost : ((0 : Int32) = 0 ∧ True) ∨ ((0 : Int32) = 1 ∧ True) := (Or.inl ⟨rfl, trivial⟩)
                  exact hret _ _ _ _ _ _ () [0, 1, 2] hP hD hS rfl (by decide) dX12_isKnown_57 (Or.inl rfl) hpost
        exact hlp_3852 _ 0 _ _ _ (Nat.lt_succ_self _) (by decide +kernel) hP hD hS (lv_sub hl [1, 2, 3, 4, 0] rfl)
  exact hlp_3577 _ 0 _ _ _ (Nat.lt_succ_self _) (by decide +kernel) hP hD hS (lv_sub hl [1, 2, 3, 0] rfl)
set_option maxHeartbeats 4000000 in
set_option maxRecDepth 100000 in
theorem r_known (l : Launch) (G : va_G) (cA : zCA) (h0 : Nat) (m_status : Int32) (m_thrown : Int32) (m_above : Int64) (m_under : Int64) (a_traySort : Nat) (a_trayMany : Nat) (a_numbers : Nat) (a_tape : Nat) (m_taped : Int32) (m_textEnd : Int32) (m_faultKind : Int32) (m_faultAt : Int32) (m_bad : Int32) (m_badAt : Int32) (m_token : Int32) (m_at : Int32) (m_behind : Int32) (m_number : Int32) (m_letters : Int32) (m_word : Int64) (a_c : Nat) (a_words : Nat) (m_markMany : Int32) (a_there : Nat) (a_tried : Nat) (a_best : Nat) (a_found : Nat) (m_thereMany : Int32) (m_foundMany : Int32) (m_orderHow : Int32) (m_orderRing : Int32) (m_orderMany : Int32) (m_hasBest : Int32) (m_bestTop : Int64) (m_bestBy : Int64) (a_weights : Nat) (a_shared : Nat) (m_random : Int32) (m_truePlace : Int32) (m_trueWay : Int32) (m_seconds : Int32) (m_done : Int32) (m_feelings : Int32) (m_tries : Int32) (m_leftOver : Int32) (m_playDoor : Int32) (m_playRing : Int32) (m_isOpen : Int32) (m_isOver : Int32) (m_wasTried : Int32) (m_hasPlayed : Int32) (a_feltNow : Nat) (a_last : Nat) (a_kept : Nat) (m_hasSeconds : Int32) (m_hasTurned : Int32) (m_hasRound : Int32) (a_hasFeels : Nat) (a_isOn : Nat) (m_firstAct : Int32) (m_meanTop : Int64) (m_meanBy : Int64) (a_order : Nat) (m_rowMany : Int32) (m_newSteps : Int32) (g_c : Nat → Int32) (g_there : Nat → Int32) (r : Int32) (o : Int32) (hr_o : 0 ≤ o.toInt ∧ o.toInt ≤ 1) (hz_o : o = 0 ∨ o = 1) (hr_m_thereMany : 0 ≤ m_thereMany.toInt ∧ m_thereMany.toInt ≤ 10) (hC_g_c : zC g_c) (hC_g_there : zRg 10 0 9 g_there) : zCi l yX12_known cX12_known 4 (some .int) ({ frames := 4, cells := 0, slots := 0, locals := 100 }) G cA [.ref h0, .int r, .int o] [(h0, .inr (12, [.int m_status, .int m_thrown, .long m_above, .long m_under, .ref a_traySort, .ref a_trayMany, .ref a_numbers, .ref a_tape, .int m_taped, .int m_textEnd, .int m_faultKind, .int m_faultAt, .int m_bad, .int m_badAt, .int m_token, .int m_at, .int m_behind, .int m_number, .int m_letters, .long m_word, .ref a_c, .ref a_words, .int m_markMany, .ref a_there, .ref a_tried, .ref a_best, .ref a_found, .int m_thereMany, .int m_foundMany, .int m_orderHow, .int m_orderRing, .int m_orderMany, .int m_hasBest, .long m_bestTop, .long m_bestBy, .ref a_weights, .ref a_shared, .int m_random, .int m_truePlace, .int m_trueWay, .int m_seconds, .int m_done, .int m_feelings, .int m_tries, .int m_leftOver, .int m_playDoor, .int m_playRing, .int m_isOpen, .int m_isOver, .int m_wasTried, .int m_hasPlayed, .ref a_feltNow, .ref a_last, .ref a_kept, .int m_hasSeconds, .int m_hasTurned, .int m_hasRound, .ref a_hasFeels, .ref a_isOn, .int m_firstAct, .long m_meanTop, .long m_meanBy, .ref a_order, .int m_rowMany, .int m_newSteps])), (a_c, .inl (cA.1 0, 1825, .inl g_c)), (a_there, .inl (cA.1 0, 10, .inl g_there))] (S := Int32 × Int32 × Int32 × (Nat → Int32)) (fun (r : Int32) (u : Int32 × Int32 × Int32 × (Nat → Int32)) => ((-1) ≤ r.toInt ∧ r.toInt ≤ 10) ∧ (0 ≤ u.2.1.toInt ∧ u.2.1.toInt ≤ 0) ∧ (0 ≤ u.2.2.1.toInt ∧ u.2.2.1.toInt ≤ 10) ∧ (zRg 10 0 9 u.2.2.2)) (fun (u : Int32 × Int32 × Int32 × (Nat → Int32)) => [(h0, .inr (12, [.int u.1, .int u.2.1, .long m_above, .long m_under, .ref a_traySort, .ref a_trayMany, .ref a_numbers, .ref a_tape, .int m_taped, .int m_textEnd, .int m_faultKind, .int m_faultAt, .int m_bad, .int m_badAt, .int m_token, .int m_at, .int m_behind, .int m_number, .int m_letters, .long m_word, .ref a_c, .ref a_words, .int m_markMany, .ref a_there, .ref a_tried, .ref a_best, .ref a_found, .int u.2.2.1, .int m_foundMany, .int m_orderHow, .int m_orderRing, .int m_orderMany, .int m_hasBest, .long m_bestTop, .long m_bestBy, .ref a_weights, .ref a_shared, .int m_random, .int m_truePlace, .int m_trueWay, .int m_seconds, .int m_done, .int m_feelings, .int m_tries, .int m_leftOver, .int m_playDoor, .int m_playRing, .int m_isOpen, .int m_isOver, .int m_wasTried, .int m_hasPlayed, .ref a_feltNow, .ref a_last, .ref a_kept, .int m_hasSeconds, .int m_hasTurned, .int m_hasRound, .ref a_hasFeels, .ref a_isOn, .int m_firstAct, .long m_meanTop, .long m_meanBy, .ref a_order, .int m_rowMany, .int m_newSteps])), (a_c, .inl (cA.1 0, 1825, .inl g_c)), (a_there, .inl (cA.1 0, 10, .inl u.2.2.2))]) 0 0 := by
  have hk_1 : (1 : Int32).toInt = 1 := by decide +kernel
  have hk_2 : (2 : Int32).toInt = 2 := by decide +kernel
  have hk_8 : (8 : Int32).toInt = 8 := by decide +kernel
  refine z_start2i (own := RX12) (by decide) (Nat.le_of_ble_eq_true rfl) rfl ?_
  intro p e s m args below meth c A ls Q hx hb hml hts hown hK hE hT hP hD hS hA hl hret
  have hl : lv_has ls 4 [(0, .ref h0), (1, .int r), (2, .int o)] := hl
  refine lv_aload_n hx hb dX12_known_0 rfl (lv_at hl 0 rfl) ?_
  refine lv_iconst (v := 0) hx hb dX12_known_1 (by decide) ?_
  refine va_put (D := G) (ci := 12) (v := .int 0) (ty := .int) (C := RX12) (T := TX12) (N := 65) hx hb hts inT12 tyX12 tyX12_ok nmX12 hown hK hP hD hS 0 rfl rfl 1 (by decide) (hts _ tw_1886) (fun _ h9 => h9) rfl (tyX12_ok 1 (by decide)) rfl rfl (Nat.le_of_ble_eq_true rfl) dX12_known_2 (fun H locs hP hD hS => ?_)
  refine lv_aload_n hx hb dX12_known_5 rfl (lv_at hl 0 rfl) ?_
  refine lv_iconst (v := 0) hx hb dX12_known_6 (by decide) ?_
  refine va_put (D := G) (ci := 12) (v := .int 0) (ty := .int) (C := RX12) (T := TX12) (N := 65) hx hb hts inT12 tyX12 tyX12_ok nmX12 hown hK hP hD hS 0 rfl rfl 0 (by decide) (hts _ tw_1885) (fun _ h9 => h9) rfl (tyX12_ok 0 (by decide)) rfl rfl (Nat.le_of_ble_eq_true rfl) dX12_known_7 (fun H locs hP hD hS => ?_)
  refine lv_aload_n hx hb dX12_known_10 rfl (lv_at hl 0 rfl) ?_
  refine lv_iload_n hx hb dX12_known_11 rfl (lv_at hl 1 rfl) ?_
  refine z_callVi (As := [.int r]) (rest := []) (wr := [(a_there, .inl (cA.1 0, 10, .inl g_there))]) ⟨hx, hb, hml, hown, hts⟩ hK hE hT hP hD hS hA (r_isRing l G cA h0 0 0 m_above m_under a_traySort a_trayMany a_numbers a_tape m_taped m_textEnd m_faultKind m_faultAt m_bad m_badAt m_token m_at m_behind m_number m_letters m_word a_c a_words m_markMany a_there a_tried a_best a_found m_thereMany m_foundMany m_orderHow m_orderRing m_orderMany m_hasBest m_bestTop m_bestBy a_weights a_shared m_random m_truePlace m_trueWay m_seconds m_done m_feelings m_tries m_leftOver m_playDoor m_playRing m_isOpen m_isOver m_wasTried m_hasPlayed a_feltNow a_last a_kept m_hasSeconds m_hasTurned m_hasRound a_hasFeels a_isOn m_firstAct m_meanTop m_meanBy a_order m_rowMany m_newSteps g_c r hC_g_c) lk_RX12_289 ⟨rfl, rfl⟩ ⟨Nat.le_of_ble_eq_true rfl, Nat.le_of_ble_eq_true rfl⟩ 12 rfl rfl rfl [0, 1] [2] rfl rfl (by decide) rfl hl.1 rfl (lv_room (Nat.le_of_ble_eq_true rfl)) dX12_known_12 ⟨Nat.le_of_ble_eq_true rfl, Nat.le_of_ble_eq_true rfl⟩ (fun r_1 u_2 H locs hw hP hD hS => ?_)
  obtain ⟨he_r_1, hw⟩ := hw
  rcases hw with ⟨rfl, -⟩ | ⟨rfl, hf_3, hf_4⟩
  · skip
    refine lv_if_ne (tgt := 24) hx hb dX12_known_15 (by decide) (fun h9 => absurd (by decide +kernel) h9) (fun _ => ?_)
    refine lv_aload_n hx hb dX12_known_18 rfl (lv_at hl 0 rfl) ?_
    refine lv_iconst (v := 2) hx hb dX12_known_19 (by decide) ?_
    refine z_callVi (As := [.int 2]) (rest := []) (wr := [(a_there, .inl (cA.1 0, 10, .inl g_there)), (a_c, .inl (cA.1 0, 1825, .inl g_c))]) ⟨hx, hb, hml, hown, hts⟩ hK hE hT hP hD hS hA (r_refuse l G cA h0 0 0 m_above m_under a_traySort a_trayMany a_numbers a_tape m_taped m_textEnd m_faultKind m_faultAt m_bad m_badAt m_token m_at m_behind m_number m_letters m_word a_c a_words m_markMany a_there a_tried a_best a_found m_thereMany m_foundMany m_orderHow m_orderRing m_orderMany m_hasBest m_bestTop m_bestBy a_weights a_shared m_random m_truePlace m_trueWay m_seconds m_done m_feelings m_tries m_leftOver m_playDoor m_playRing m_isOpen m_isOver m_wasTried m_hasPlayed a_feltNow a_last a_kept m_hasSeconds m_hasTurned m_hasRound a_hasFeels a_isOn m_firstAct m_meanTop m_meanBy a_order m_rowMany m_newSteps 2) lk_RX12_269 ⟨rfl, rfl⟩ ⟨Nat.le_of_ble_eq_true rfl, Nat.le_of_ble_eq_true rfl⟩ 12 rfl rfl rfl [1] [0, 2] rfl rfl (by decide) rfl hl.1 rfl (lv_room (Nat.le_of_ble_eq_true rfl)) dX12_known_20 ⟨Nat.le_of_ble_eq_true rfl, Nat.le_of_ble_eq_true rfl⟩ (fun r_6 u_7 H locs hw hP hD hS => ?_)
    obtain ⟨n_5, rfl⟩ : ∃ z, z = u_7 := ⟨_, rfl⟩
    obtain ⟨he_r_6, he_n_5, hw⟩ := hw
    have hr_r_6 := hw
    have hpost : ((-1) ≤ r_6.toInt ∧ r_6.toInt ≤ 10) ∧ (0 ≤ (0 : Int32).toInt ∧ (0 : Int32).toInt ≤ 0) ∧ (0 ≤ m_thereMany.toInt ∧ m_thereMany.toInt ≤ 10) ∧ (zRg 10 0 9 g_there) := ⟨(z_rgw hr_r_6 (by decide) (by decide)), (by decide +kernel), hr_m_thereMany, hC_g_there⟩
    exact hret _ _ _ _ _ _ (n_5, 0, m_thereMany, g_there) [2, 1, 0] hP hD hS rfl (by decide) dX12_known_23 hpost
  · skip
    refine lv_if_ne (tgt := 24) hx hb dX12_known_15 (by decide) (fun _ => ?_) (fun h9 => absurd h9 (by decide +kernel))
    refine lv_aload_n hx hb dX12_known_24 rfl (lv_at hl 0 rfl) ?_
    refine lv_iload_n hx hb dX12_known_25 rfl (lv_at hl 1 rfl) ?_
    refine z_callVv (As := [.int r]) (rest := []) (wr := []) ⟨hx, hb, hml, hown, hts⟩ hK hE hT hP hD hS hA (r_gather l G cA h0 0 0 m_above m_under a_traySort a_trayMany a_numbers a_tape m_taped m_textEnd m_faultKind m_faultAt m_bad m_badAt m_token m_at m_behind m_number m_letters m_word a_c a_words m_markMany a_there a_tried a_best a_found m_thereMany m_foundMany m_orderHow m_orderRing m_orderMany m_hasBest m_bestTop m_bestBy a_weights a_shared m_random m_truePlace m_trueWay m_seconds m_done m_feelings m_tries m_leftOver m_playDoor m_playRing m_isOpen m_isOver m_wasTried m_hasPlayed a_feltNow a_last a_kept m_hasSeconds m_hasTurned m_hasRound a_hasFeels a_isOn m_firstAct m_meanTop m_meanBy a_order m_rowMany m_newSteps g_c g_there r (by omega) hr_m_thereMany hC_g_c hC_g_there) lk_RX12_292 ⟨rfl, rfl⟩ ⟨Nat.le_of_ble_eq_true rfl, Nat.le_of_ble_eq_true rfl⟩ 12 rfl rfl rfl [1, 2, 0] [] rfl rfl (by decide) rfl hl.1 rfl (lv_room (Nat.le_of_ble_eq_true rfl)) dX12_known_26 ⟨Nat.le_of_ble_eq_true rfl, Nat.le_of_ble_eq_true rfl⟩ (fun u_11 H locs hw hP hD hS => ?_)
    obtain ⟨n_8, n_9⟩ := u_11
    try dsimp only at hw
    obtain ⟨he_n_8, he_n_9, hw⟩ := hw
    obtain ⟨hr_n_8, hC_n_9, hf_12, hf_13⟩ := hw
    refine lv_iconst (v := 1) hx hb dX12_known_29 (by decide) ?_
    refine lv_istore_n (lv' := [(3, .int 1), (0, .ref h0), (1, .int r), (2, .int o)]) hx hb dX12_known_30 rfl hl (by decide) rfl (fun ls hl => ?_)
    have hlp_96 : ∀ (n : Nat) (v_89 : Int32) (H : Heap) (locs : List Loc) (ls : Array Slot), (2147483647 - v_89.toInt).toNat < n → (1 ≤ v_89.toInt ∧ v_89.toInt ≤ 11) → va_P G vwCl [(h0, .inr (12, [.int 0, .int 0, .long m_above, .long m_under, .ref a_traySort, .ref a_trayMany, .ref a_numbers, .ref a_tape, .int m_taped, .int m_textEnd, .int m_faultKind, .int m_faultAt, .int m_bad, .int m_badAt, .int m_token, .int m_at, .int m_behind, .int m_number, .int m_letters, .long m_word, .ref a_c, .ref a_words, .int m_markMany, .ref a_there, .ref a_tried, .ref a_best, .ref a_found, .int n_8, .int m_foundMany, .int m_orderHow, .int m_orderRing, .int m_orderMany, .int m_hasBest, .long m_bestTop, .long m_bestBy, .ref a_weights, .ref a_shared, .int m_random, .int m_truePlace, .int m_trueWay, .int m_seconds, .int m_done, .int m_feelings, .int m_tries, .int m_leftOver, .int m_playDoor, .int m_playRing, .int m_isOpen, .int m_isOver, .int m_wasTried, .int m_hasPlayed, .ref a_feltNow, .ref a_last, .ref a_kept, .int m_hasSeconds, .int m_hasTurned, .int m_hasRound, .ref a_hasFeels, .ref a_isOn, .int m_firstAct, .long m_meanTop, .long m_meanBy, .ref a_order, .int m_rowMany, .int m_newSteps])), (a_c, .inl (cA.1 0, 1825, .inl g_c)), (a_there, .inl (cA.1 0, 10, .inl n_9))] H → va_D A [(h0, .inr (12, [.int 0, .int 0, .long m_above, .long m_under, .ref a_traySort, .ref a_trayMany, .ref a_numbers, .ref a_tape, .int m_taped, .int m_textEnd, .int m_faultKind, .int m_faultAt, .int m_bad, .int m_badAt, .int m_token, .int m_at, .int m_behind, .int m_number, .int m_letters, .long m_word, .ref a_c, .ref a_words, .int m_markMany, .ref a_there, .ref a_tried, .ref a_best, .ref a_found, .int n_8, .int m_foundMany, .int m_orderHow, .int m_orderRing, .int m_orderMany, .int m_hasBest, .long m_bestTop, .long m_bestBy, .ref a_weights, .ref a_shared, .int m_random, .int m_truePlace, .int m_trueWay, .int m_seconds, .int m_done, .int m_feelings, .int m_tries, .int m_leftOver, .int m_playDoor, .int m_playRing, .int m_isOpen, .int m_isOver, .int m_wasTried, .int m_hasPlayed, .ref a_feltNow, .ref a_last, .ref a_kept, .int m_hasSeconds, .int m_hasTurned, .int m_hasRound, .ref a_hasFeels, .ref a_isOn, .int m_firstAct, .long m_meanTop, .long m_meanBy, .ref a_order, .int m_rowMany, .int m_newSteps])), (a_c, .inl (cA.1 0, 1825, .inl g_c)), (a_there, .inl (cA.1 0, 10, .inl n_9))] → va_S A s.heap H locs → lv_has ls 4 [(0, .ref h0), (1, .int r), (2, .int o), (3, .int v_89)] → W p l e ({ frames := 4, cells := 0, slots := 0, locals := 100 }) s m args below meth c H locs 0 0 Q (F0 m 31 ls []) := by
      intro n
      induction n with
      | zero =>
        intro v_89 H locs ls hmu_hlp_96 hr_v_89 hP hD hS hl
        exact absurd hmu_hlp_96 (Nat.not_lt_zero _)
      | succ n ih_97 =>
        intro v_89 H locs ls hmu_hlp_96 hr_v_89 hP hD hS hl
        refine lv_iload_n hx hb dX12_known_31 rfl (lv_at hl 3 rfl) ?_
        refine lv_aload_n hx hb dX12_known_32 rfl (lv_at hl 0 rfl) ?_
        refine va_get (D := G) (ci := 12) (v := .int n_8) (C := RX12) (T := TX12) (N := 65) hx hb hts inT12 hown hK hP 0 rfl rfl 27 (by decide) (hts _ tw_1912) (fun _ h9 => h9) rfl dX12_known_33 ?_
        refine lv_icmp_gt (tgt := 56) hx hb dX12_known_36 (by decide) (fun c_98 => ?_) (fun c_98 => ?_)
        · have b_99 := z_fgtT c_98
          refine lv_aload_n hx hb dX12_known_56 rfl (lv_at hl 0 rfl) ?_
          refine lv_bipush (v := 8) hx hb dX12_known_57 (by decide) ?_
          refine z_callVi (As := [.int 8]) (rest := []) (wr := [(a_c, .inl (cA.1 0, 1825, .inl g_c)), (a_there, .inl (cA.1 0, 10, .inl n_9))]) ⟨hx, hb, hml, hown, hts⟩ hK hE hT hP hD hS hA (r_refuse l G cA h0 0 0 m_above m_under a_traySort a_trayMany a_numbers a_tape m_taped m_textEnd m_faultKind m_faultAt m_bad m_badAt m_token m_at m_behind m_number m_letters m_word a_c a_words m_markMany a_there a_tried a_best a_found n_8 m_foundMany m_orderHow m_orderRing m_orderMany m_hasBest m_bestTop m_bestBy a_weights a_shared m_random m_truePlace m_trueWay m_seconds m_done m_feelings m_tries m_leftOver m_playDoor m_playRing m_isOpen m_isOver m_wasTried m_hasPlayed a_feltNow a_last a_kept m_hasSeconds m_hasTurned m_hasRound a_hasFeels a_isOn m_firstAct m_meanTop m_meanBy a_order m_rowMany m_newSteps 8) lk_RX12_269 ⟨rfl, rfl⟩ ⟨Nat.le_of_ble_eq_true rfl, Nat.le_of_ble_eq_true rfl⟩ 12 rfl rfl rfl [0] [1, 2] rfl rfl (by decide) rfl hl.1 rfl (lv_room (Nat.le_of_ble_eq_true rfl)) dX12_known_59 ⟨Nat.le_of_ble_eq_true rfl, Nat.le_of_ble_eq_true rfl⟩ (fun r_101 u_102 H locs hw hP hD hS => ?_)
          obtain ⟨n_100, rfl⟩ : ∃ z, z = u_102 := ⟨_, rfl⟩
          obtain ⟨he_r_101, he_n_100, hw⟩ := hw
          have hr_r_101 := hw
          have hpost : ((-1) ≤ r_101.toInt ∧ r_101.toInt ≤ 10) ∧ (0 ≤ (0 : Int32).toInt ∧ (0 : Int32).toInt ≤ 0) ∧ (0 ≤ n_8.toInt ∧ n_8.toInt ≤ 10) ∧ (zRg 10 0 9 n_9) := ⟨(z_rgw hr_r_101 (by decide) (by decide)), (by decide +kernel), hr_n_8, hC_n_9⟩
          exact hret _ _ _ _ _ _ (n_100, 0, n_8, n_9) [2, 0, 1] hP hD hS rfl (by decide) dX12_known_62 hpost
        · have b_103 := z_fleF c_98
          refine lv_aload_n hx hb dX12_known_39 rfl (lv_at hl 0 rfl) ?_
          refine lv_iload_n hx hb dX12_known_40 rfl (lv_at hl 3 rfl) ?_
          refine lv_iload_n hx hb dX12_known_41 rfl (lv_at hl 2 rfl) ?_
          refine z_callVi (As := [.int v_89, .int o]) (rest := []) (wr := []) ⟨hx, hb, hml, hown, hts⟩ hK hE hT hP hD hS hA (r_isKnown l G cA h0 0 0 m_above m_under a_traySort a_trayMany a_numbers a_tape m_taped m_textEnd m_faultKind m_faultAt m_bad m_badAt m_token m_at m_behind m_number m_letters m_word a_c a_words m_markMany a_there a_tried a_best a_found n_8 m_foundMany m_orderHow m_orderRing m_orderMany m_hasBest m_bestTop m_bestBy a_weights a_shared m_random m_truePlace m_trueWay m_seconds m_done m_feelings m_tries m_leftOver m_playDoor m_playRing m_isOpen m_isOver m_wasTried m_hasPlayed a_feltNow a_last a_kept m_hasSeconds m_hasTurned m_hasRound a_hasFeels a_isOn m_firstAct m_meanTop m_meanBy a_order m_rowMany m_newSteps g_c n_9 v_89 o (by omega) hr_o hz_o hr_n_8 hC_g_c hC_n_9 (by omega)) lk_RX12_472 ⟨rfl, rfl⟩ ⟨Nat.le_of_ble_eq_true rfl, Nat.le_of_ble_eq_true rfl⟩ 12 rfl rfl rfl [0, 1, 2] [] rfl rfl (by decide) rfl hl.1 rfl (lv_room (Nat.le_of_ble_eq_true rfl)) dX12_known_42 ⟨Nat.le_of_ble_eq_true rfl, Nat.le_of_ble_eq_true rfl⟩ (fun r_104 u_105 H locs hw hP hD hS => ?_)
          rcases hw with ⟨rfl, -⟩ | ⟨rfl, -⟩
          · skip
            refine lv_if_eq (tgt := 50) hx hb dX12_known_45 (by decide) (fun _ => ?_) (fun h9 => absurd (by decide +kernel) h9)
            obtain ⟨x_106, he_x_106⟩ : ∃ z : Int32, z = v_89 + 1 := ⟨_, rfl⟩
            have hq_x_106 := z_addq he_x_106 (rfl : v_89.toInt = _) hk_1 (by omega) (by omega)
            refine lv_iinc (v := x_106) (lv' := [(3, .int x_106), (0, .ref h0), (1, .int r), (2, .int o)]) hx hb dX12_known_50 hl (k := 3) rfl ((z_ofi (by decide +kernel)).trans he_x_106.symm) (by decide) rfl (fun ls hl => ?_)
            refine lv_goto (tgt := 31) hx hb dX12_known_53 (by decide) ?_
            exact ih_97 x_106 H locs ls (by omega) (by omega) hP hD hS (lv_sub hl [1, 2, 3, 0] rfl)
          · skip
            refine lv_if_eq (tgt := 50) hx hb dX12_known_45 (by decide) (fun h9 => absurd h9 (by decide +kernel)) (fun _ => ?_)
            refine lv_iload_n hx hb dX12_known_48 rfl (lv_at hl 3 rfl) ?_
            have hpost : ((-1) ≤ v_89.toInt ∧ v_89.toInt ≤ 10) ∧ (0 ≤ (0 : Int32).toInt ∧ (0 : Int32).toInt ≤ 0) ∧ (0 ≤ n_8.toInt ∧ n_8.toInt ≤ 10) ∧ (zRg 10 0 9 n_9) := ⟨(by omega), (by decide +kernel), hr_n_8, hC_n_9⟩
            exact hret _ _ _ _ _ _ (0, 0, n_8, n_9) [0, 1, 2] hP hD hS rfl (by decide) dX12_known_49 hpost
    exact hlp_96 _ 1 _ _ _ (Nat.lt_succ_self _) (by decide +kernel) hP hD hS (lv_sub hl [1, 2, 3, 0] rfl)
set_option maxHeartbeats 40000000 in
set_option maxRecDepth 100000 in
theorem r_isOnly (l : Launch) (G : va_G) (cA : zCA) (h0 : Nat) (m_status : Int32) (m_thrown : Int32) (m_above : Int64) (m_under : Int64) (a_traySort : Nat) (a_trayMany : Nat) (a_numbers : Nat) (a_tape : Nat) (m_taped : Int32) (m_textEnd : Int32) (m_faultKind : Int32) (m_faultAt : Int32) (m_bad : Int32) (m_badAt : Int32) (m_token : Int32) (m_at : Int32) (m_behind : Int32) (m_number : Int32) (m_letters : Int32) (m_word : Int64) (a_c : Nat) (a_words : Nat) (m_markMany : Int32) (a_there : Nat) (a_tried : Nat) (a_best : Nat) (a_found : Nat) (m_thereMany : Int32) (m_foundMany : Int32) (m_orderHow : Int32) (m_orderRing : Int32) (m_orderMany : Int32) (m_hasBest : Int32) (m_bestTop : Int64) (m_bestBy : Int64) (a_weights : Nat) (a_shared : Nat) (m_random : Int32) (m_truePlace : Int32) (m_trueWay : Int32) (m_seconds : Int32) (m_done : Int32) (m_feelings : Int32) (m_tries : Int32) (m_leftOver : Int32) (m_playDoor : Int32) (m_playRing : Int32) (m_isOpen : Int32) (m_isOver : Int32) (m_wasTried : Int32) (m_hasPlayed : Int32) (a_feltNow : Nat) (a_last : Nat) (a_kept : Nat) (m_hasSeconds : Int32) (m_hasTurned : Int32) (m_hasRound : Int32) (a_hasFeels : Nat) (a_isOn : Nat) (m_firstAct : Int32) (m_meanTop : Int64) (m_meanBy : Int64) (a_order : Nat) (m_rowMany : Int32) (m_newSteps : Int32) (g_c : Nat → Int32) (g_there : Nat → Int32) (k : Int32) (d : Int32) (hr_k : 0 ≤ k.toInt ∧ k.toInt ≤ 9) (hr_d : 0 ≤ d.toInt ∧ d.toInt ≤ 4) (hr_m_thereMany : 0 ≤ m_thereMany.toInt ∧ m_thereMany.toInt ≤ 10) (hC_g_c : zC g_c) (hC_g_there : zRg 10 0 9 g_there) : zCi l yX12_isOnly cX12_isOnly 5 (some .boolean) ({ frames := 1, cells := 0, slots := 0, locals := 23 }) G cA [.ref h0, .int k, .int d] [(h0, .inr (12, [.int m_status, .int m_thrown, .long m_above, .long m_under, .ref a_traySort, .ref a_trayMany, .ref a_numbers, .ref a_tape, .int m_taped, .int m_textEnd, .int m_faultKind, .int m_faultAt, .int m_bad, .int m_badAt, .int m_token, .int m_at, .int m_behind, .int m_number, .int m_letters, .long m_word, .ref a_c, .ref a_words, .int m_markMany, .ref a_there, .ref a_tried, .ref a_best, .ref a_found, .int m_thereMany, .int m_foundMany, .int m_orderHow, .int m_orderRing, .int m_orderMany, .int m_hasBest, .long m_bestTop, .long m_bestBy, .ref a_weights, .ref a_shared, .int m_random, .int m_truePlace, .int m_trueWay, .int m_seconds, .int m_done, .int m_feelings, .int m_tries, .int m_leftOver, .int m_playDoor, .int m_playRing, .int m_isOpen, .int m_isOver, .int m_wasTried, .int m_hasPlayed, .ref a_feltNow, .ref a_last, .ref a_kept, .int m_hasSeconds, .int m_hasTurned, .int m_hasRound, .ref a_hasFeels, .ref a_isOn, .int m_firstAct, .long m_meanTop, .long m_meanBy, .ref a_order, .int m_rowMany, .int m_newSteps])), (a_c, .inl (cA.1 0, 1825, .inl g_c)), (a_there, .inl (cA.1 0, 10, .inl g_there))] (S := Int32 × (Nat → Int32)) (fun (r : Int32) (u : Int32 × (Nat → Int32)) => (r = (F_r_isOnly m_thereMany g_c g_there k d).1) ∧ (u.1 = (F_r_isOnly m_thereMany g_c g_there k d).2.1) ∧ (u.2 = (F_r_isOnly m_thereMany g_c g_there k d).2.2) ∧ ((r = 0 ∧ (0 ≤ u.1.toInt ∧ u.1.toInt ≤ 10) ∧ (zRg 10 0 9 u.2)) ∨ (r = 1 ∧ (0 ≤ u.1.toInt ∧ u.1.toInt ≤ 10) ∧ (zRg 10 0 9 u.2) ∧ (zIO g_c k.toInt u.1.toInt)))) (fun (u : Int32 × (Nat → Int32)) => [(h0, .inr (12, [.int m_status, .int m_thrown, .long m_above, .long m_under, .ref a_traySort, .ref a_trayMany, .ref a_numbers, .ref a_tape, .int m_taped, .int m_textEnd, .int m_faultKind, .int m_faultAt, .int m_bad, .int m_badAt, .int m_token, .int m_at, .int m_behind, .int m_number, .int m_letters, .long m_word, .ref a_c, .ref a_words, .int m_markMany, .ref a_there, .ref a_tried, .ref a_best, .ref a_found, .int u.1, .int m_foundMany, .int m_orderHow, .int m_orderRing, .int m_orderMany, .int m_hasBest, .long m_bestTop, .long m_bestBy, .ref a_weights, .ref a_shared, .int m_random, .int m_truePlace, .int m_trueWay, .int m_seconds, .int m_done, .int m_feelings, .int m_tries, .int m_leftOver, .int m_playDoor, .int m_playRing, .int m_isOpen, .int m_isOver, .int m_wasTried, .int m_hasPlayed, .ref a_feltNow, .ref a_last, .ref a_kept, .int m_hasSeconds, .int m_hasTurned, .int m_hasRound, .ref a_hasFeels, .ref a_isOn, .int m_firstAct, .long m_meanTop, .long m_meanBy, .ref a_order, .int m_rowMany, .int m_newSteps])), (a_c, .inl (cA.1 0, 1825, .inl g_c)), (a_there, .inl (cA.1 0, 10, .inl u.2))]) 0 0 := by
  have hk_0 : (0 : Int32).toInt = 0 := by decide +kernel
  have hk_1 : (1 : Int32).toInt = 1 := by decide +kernel
  have hk_150 : (150 : Int32).toInt = 150 := by decide +kernel
  refine z_start2z (own := RX12) (by decide) (Nat.le_of_ble_eq_true rfl) rfl ?_
  intro p e s m args below meth c A ls Q hx hb hml hts hown hK hE hT hP hD hS hA hl hret
  have hl : lv_has ls 5 [(0, .ref h0), (1, .int k), (2, .int d)] := hl
  refine lv_aload_n hx hb dX12_isOnly_0 rfl (lv_at hl 0 rfl) ?_
  refine lv_iload_n hx hb dX12_isOnly_1 rfl (lv_at hl 1 rfl) ?_
  refine z_callVi (As := [.int k]) (rest := []) (wr := [(a_there, .inl (cA.1 0, 10, .inl g_there))]) ⟨hx, hb, hml, hown, hts⟩ hK hE hT hP hD hS hA (r_ringOf l G cA h0 m_status m_thrown m_above m_under a_traySort a_trayMany a_numbers a_tape m_taped m_textEnd m_faultKind m_faultAt m_bad m_badAt m_token m_at m_behind m_number m_letters m_word a_c a_words m_markMany a_there a_tried a_best a_found m_thereMany m_foundMany m_orderHow m_orderRing m_orderMany m_hasBest m_bestTop m_bestBy a_weights a_shared m_random m_truePlace m_trueWay m_seconds m_done m_feelings m_tries m_leftOver m_playDoor m_playRing m_isOpen m_isOver m_wasTried m_hasPlayed a_feltNow a_last a_kept m_hasSeconds m_hasTurned m_hasRound a_hasFeels a_isOn m_firstAct m_meanTop m_meanBy a_order m_rowMany m_newSteps g_c k hr_k hC_g_c) lk_RX12_278 ⟨rfl, rfl⟩ ⟨Nat.le_of_ble_eq_true rfl, Nat.le_of_ble_eq_true rfl⟩ 12 rfl rfl rfl [0, 1] [2] rfl rfl (by decide) rfl hl.1 rfl (lv_room (Nat.le_of_ble_eq_true rfl)) dX12_isOnly_2 ⟨Nat.le_of_ble_eq_true rfl, Nat.le_of_ble_eq_true rfl⟩ (fun r_1 u_2 H locs hw hP hD hS => ?_)
  obtain ⟨he_r_1, hw⟩ := hw
  obtain ⟨hr_r_1, hf_4⟩ := hw
  refine lv_if_lt (tgt := 31) hx hb dX12_isOnly_5 (by decide) (fun c_5 => ?_) (fun c_5 => ?_)
  · have b_6 := z_fltT c_5
    refine lv_iconst (v := 0) hx hb dX12_isOnly_31 (by decide) ?_
    have hpost : ((0 : Int32) = 0 ∧ (0 ≤ m_thereMany.toInt ∧ m_thereMany.toInt ≤ 10) ∧ (zRg 10 0 9 g_there)) ∨ ((0 : Int32) = 1 ∧ (0 ≤ m_thereMany.toInt ∧ m_thereMany.toInt ≤ 10) ∧ (zRg 10 0 9 g_there) ∧ (zIO g_c k.toInt m_thereMany.toInt)) := (Or.inl ⟨rfl, ⟨hr_m_thereMany, hC_g_there⟩⟩)
    have hX_7 : F_r_isOnly m_thereMany g_c g_there k d = (((0 : Int32), m_thereMany, g_there) : Int32 × Int32 × (Nat → Int32)) := by
      refine (F_r_isOnly_s ..).trans ?_
      extract_lets -merge -useContext +onlyGivenNames w9 y9; have e9 : r_1 = w9 := he_r_1; clear_value w9; subst e9
      refine (if_pos c_5).trans ?_
      exact rfl
    exact hret _ _ _ _ _ _ (m_thereMany, g_there) [1, 2, 0] hP hD hS rfl (by decide) dX12_isOnly_32 (Or.inl rfl) ⟨(congrArg (fun z9 => z9.1) hX_7).symm, (congrArg (fun z9 => z9.2.1) hX_7).symm, (congrArg (fun z9 => z9.2.2) hX_7).symm, hpost⟩
  · have b_8 := z_fgeF c_5
    refine lv_aload_n hx hb dX12_isOnly_8 rfl (lv_at hl 0 rfl) ?_
    refine va_get (D := G) (ci := 12) (v := .ref a_c) (C := RX12) (T := TX12) (N := 65) hx hb hts inT12 hown hK hP 1 rfl rfl 20 (by decide) (hts _ tw_1905) (fun _ h9 => h9) rfl dX12_isOnly_9 ?_
    refine lv_sipush (v := 150) hx hb dX12_isOnly_12 (by decide) ?_
    refine lv_iload_n hx hb dX12_isOnly_15 rfl (lv_at hl 1 rfl) ?_
    refine lv_iadd hx hb dX12_isOnly_16 ?_
    refine lv_topi (fun x_9 he_x_9 => ?_)
    have hq_x_9 := z_addq he_x_9 hk_150 (rfl : k.toInt = _) (by omega) (by omega)
    refine va_iald hx hb hK hP 2 0 rfl rfl (z_inN (by omega) (by omega)) dX12_isOnly_17 ?_
    refine lv_topi (fun x_10 he_x_10 => ?_)
    have hr_x_10 := z_ct hC_g_c he_x_10 (a := 150) (b := 159) (lo := 0) (hi := 1) (by decide +kernel) (by decide) (by omega) (by omega)
    refine lv_iconst (v := 1) hx hb dX12_isOnly_18 (by decide) ?_
    refine lv_icmp_eq (tgt := 31) hx hb dX12_isOnly_19 (by decide) (fun c_11 => ?_) (fun c_11 => ?_)
    · have b_12 := z_feqT c_11
      refine lv_iconst (v := 0) hx hb dX12_isOnly_31 (by decide) ?_
      have hpost : ((0 : Int32) = 0 ∧ (0 ≤ m_thereMany.toInt ∧ m_thereMany.toInt ≤ 10) ∧ (zRg 10 0 9 g_there)) ∨ ((0 : Int32) = 1 ∧ (0 ≤ m_thereMany.toInt ∧ m_thereMany.toInt ≤ 10) ∧ (zRg 10 0 9 g_there) ∧ (zIO g_c k.toInt m_thereMany.toInt)) := (Or.inl ⟨rfl, ⟨hr_m_thereMany, hC_g_there⟩⟩)
      have hX_13 : F_r_isOnly m_thereMany g_c g_there k d = (((0 : Int32), m_thereMany, g_there) : Int32 × Int32 × (Nat → Int32)) := by
        refine (F_r_isOnly_s ..).trans ?_
        extract_lets -merge -useContext +onlyGivenNames w9 y9; have e9 : r_1 = w9 := he_r_1; clear_value w9; subst e9
        refine (if_neg c_5).trans ?_
        try (extract_lets -merge -useContext +onlyGivenNames y9; have e9 : x_9 = y9 := (by first | exact he_x_9 | exact he_x_9.symm); clear_value y9; subst e9)
        try (extract_lets -merge -useContext +onlyGivenNames y9; have e9 : x_10 = y9 := (by first | exact he_x_10 | exact he_x_10.symm); clear_value y9; subst e9)
        refine (if_pos c_11).trans ?_
        exact rfl
      exact hret _ _ _ _ _ _ (m_thereMany, g_there) [1, 2, 0] hP hD hS rfl (by decide) dX12_isOnly_32 (Or.inl rfl) ⟨(congrArg (fun z9 => z9.1) hX_13).symm, (congrArg (fun z9 => z9.2.1) hX_13).symm, (congrArg (fun z9 => z9.2.2) hX_13).symm, hpost⟩
    · have b_14 := z_fneF c_11
      refine lv_aload_n hx hb dX12_isOnly_22 rfl (lv_at hl 0 rfl) ?_
      refine lv_iload_n hx hb dX12_isOnly_23 rfl (lv_at hl 1 rfl) ?_
      refine lv_iload_n hx hb dX12_isOnly_24 rfl (lv_at hl 2 rfl) ?_
      refine z_callVi (As := [.int k, .int d]) (rest := []) (wr := [(a_there, .inl (cA.1 0, 10, .inl g_there))]) ⟨hx, hb, hml, hown, hts⟩ hK hE hT hP hD hS hA (r_canOpen l G cA h0 m_status m_thrown m_above m_under a_traySort a_trayMany a_numbers a_tape m_taped m_textEnd m_faultKind m_faultAt m_bad m_badAt m_token m_at m_behind m_number m_letters m_word a_c a_words m_markMany a_there a_tried a_best a_found m_thereMany m_foundMany m_orderHow m_orderRing m_orderMany m_hasBest m_bestTop m_bestBy a_weights a_shared m_random m_truePlace m_trueWay m_seconds m_done m_feelings m_tries m_leftOver m_playDoor m_playRing m_isOpen m_isOver m_wasTried m_hasPlayed a_feltNow a_last a_kept m_hasSeconds m_hasTurned m_hasRound a_hasFeels a_isOn m_firstAct m_meanTop m_meanBy a_order m_rowMany m_newSteps g_c k d hr_k hr_d hC_g_c) lk_RX12_345 ⟨rfl, rfl⟩ ⟨Nat.le_of_ble_eq_true rfl, Nat.le_of_ble_eq_true rfl⟩ 12 rfl rfl rfl [1, 2] [0] rfl rfl (by decide) rfl hl.1 rfl (lv_room (Nat.le_of_ble_eq_true rfl)) dX12_isOnly_25 ⟨Nat.le_of_ble_eq_true rfl, Nat.le_of_ble_eq_true rfl⟩ (fun r_15 u_16 H locs hw hP hD hS => ?_)
      obtain ⟨he_r_15, hw⟩ := hw
      rcases hw with ⟨rfl, hf_18⟩ | ⟨rfl, hf_19⟩
      · skip
        refine lv_if_ne (tgt := 33) hx hb dX12_isOnly_28 (by decide) (fun h9 => absurd (by decide +kernel) h9) (fun _ => ?_)
        refine lv_iconst (v := 0) hx hb dX12_isOnly_31 (by decide) ?_
        have hpost : ((0 : Int32) = 0 ∧ (0 ≤ m_thereMany.toInt ∧ m_thereMany.toInt ≤ 10) ∧ (zRg 10 0 9 g_there)) ∨ ((0 : Int32) = 1 ∧ (0 ≤ m_thereMany.toInt ∧ m_thereMany.toInt ≤ 10) ∧ (zRg 10 0 9 g_there) ∧ (zIO g_c k.toInt m_thereMany.toInt)) := (Or.inl ⟨rfl, ⟨hr_m_thereMany, hC_g_there⟩⟩)
        have hX_20 : F_r_isOnly m_thereMany g_c g_there k d = (((0 : Int32), m_thereMany, g_there) : Int32 × Int32 × (Nat → Int32)) := by
          refine (F_r_isOnly_s ..).trans ?_
          extract_lets -merge -useContext +onlyGivenNames w9 y9; have e9 : r_1 = w9 := he_r_1; clear_value w9; subst e9
          refine (if_neg c_5).trans ?_
          try (extract_lets -merge -useContext +onlyGivenNames y9; have e9 : x_9 = y9 := (by first | exact he_x_9 | exact he_x_9.symm); clear_value y9; subst e9)
          try (extract_lets -merge -useContext +onlyGivenNames y9; have e9 : x_10 = y9 := (by first | exact he_x_10 | exact he_x_10.symm); clear_value y9; subst e9)
          refine (if_neg c_11).trans ?_
          extract_lets -merge -useContext +onlyGivenNames w9 y9; have e9 : (0 : Int32) = w9 := he_r_15; clear_value w9; subst e9
          refine (if_pos rfl).trans ?_
          exact rfl
        exact hret _ _ _ _ _ _ (m_thereMany, g_there) [1, 2, 0] hP hD hS rfl (by decide) dX12_isOnly_32 (Or.inl rfl) ⟨(congrArg (fun z9 => z9.1) hX_20).symm, (congrArg (fun z9 => z9.2.1) hX_20).symm, (congrArg (fun z9 => z9.2.2) hX_20).symm, hpost⟩
      · skip
        refine lv_if_ne (tgt := 33) hx hb dX12_isOnly_28 (by decide) (fun _ => ?_) (fun h9 => absurd h9 (by decide +kernel))
        refine lv_aload_n hx hb dX12_isOnly_33 rfl (lv_at hl 0 rfl) ?_
        refine lv_aload_n hx hb dX12_isOnly_34 rfl (lv_at hl 0 rfl) ?_
        refine lv_iload_n hx hb dX12_isOnly_35 rfl (lv_at hl 1 rfl) ?_
        refine z_callVi (As := [.int k]) (rest := [.ref h0]) (wr := [(a_there, .inl (cA.1 0, 10, .inl g_there))]) ⟨hx, hb, hml, hown, hts⟩ hK hE hT hP hD hS hA (r_ringOf l G cA h0 m_status m_thrown m_above m_under a_traySort a_trayMany a_numbers a_tape m_taped m_textEnd m_faultKind m_faultAt m_bad m_badAt m_token m_at m_behind m_number m_letters m_word a_c a_words m_markMany a_there a_tried a_best a_found m_thereMany m_foundMany m_orderHow m_orderRing m_orderMany m_hasBest m_bestTop m_bestBy a_weights a_shared m_random m_truePlace m_trueWay m_seconds m_done m_feelings m_tries m_leftOver m_playDoor m_playRing m_isOpen m_isOver m_wasTried m_hasPlayed a_feltNow a_last a_kept m_hasSeconds m_hasTurned m_hasRound a_hasFeels a_isOn m_firstAct m_meanTop m_meanBy a_order m_rowMany m_newSteps g_c k hr_k hC_g_c) lk_RX12_278 ⟨rfl, rfl⟩ ⟨Nat.le_of_ble_eq_true rfl, Nat.le_of_ble_eq_true rfl⟩ 12 rfl rfl rfl [1, 2] [0] rfl rfl (by decide) rfl hl.1 rfl (lv_room (Nat.le_of_ble_eq_true rfl)) dX12_isOnly_36 ⟨Nat.le_of_ble_eq_true rfl, Nat.le_of_ble_eq_true rfl⟩ (fun r_21 u_22 H locs hw hP hD hS => ?_)
        obtain ⟨he_r_21, hw⟩ := hw
        obtain ⟨hr_r_21, hf_24⟩ := hw
        have hu_r_21 := zRO_unique hf_24 hf_4
        refine z_callVv (As := [.int r_21]) (rest := []) (wr := []) ⟨hx, hb, hml, hown, hts⟩ hK hE hT hP hD hS hA (r_gather l G cA h0 m_status m_thrown m_above m_under a_traySort a_trayMany a_numbers a_tape m_taped m_textEnd m_faultKind m_faultAt m_bad m_badAt m_token m_at m_behind m_number m_letters m_word a_c a_words m_markMany a_there a_tried a_best a_found m_thereMany m_foundMany m_orderHow m_orderRing m_orderMany m_hasBest m_bestTop m_bestBy a_weights a_shared m_random m_truePlace m_trueWay m_seconds m_done m_feelings m_tries m_leftOver m_playDoor m_playRing m_isOpen m_isOver m_wasTried m_hasPlayed a_feltNow a_last a_kept m_hasSeconds m_hasTurned m_hasRound a_hasFeels a_isOn m_firstAct m_meanTop m_meanBy a_order m_rowMany m_newSteps g_c g_there r_21 (by omega) hr_m_thereMany hC_g_c hC_g_there) lk_RX12_292 ⟨rfl, rfl⟩ ⟨Nat.le_of_ble_eq_true rfl, Nat.le_of_ble_eq_true rfl⟩ 12 rfl rfl rfl [1, 2, 0] [] rfl rfl (by decide) rfl hl.1 rfl (lv_room (Nat.le_of_ble_eq_true rfl)) dX12_isOnly_39 ⟨Nat.le_of_ble_eq_true rfl, Nat.le_of_ble_eq_true rfl⟩ (fun u_28 H locs hw hP hD hS => ?_)
        obtain ⟨n_25, n_26⟩ := u_28
        try dsimp only at hw
        obtain ⟨he_n_25, he_n_26, hw⟩ := hw
        obtain ⟨hr_n_25, hC_n_26, hf_30, hf_31⟩ := hw
        refine lv_iconst (v := 0) hx hb dX12_isOnly_42 (by decide) ?_
        refine lv_istore_n (lv' := [(3, .int 0), (0, .ref h0), (1, .int k), (2, .int d)]) hx hb dX12_isOnly_43 rfl hl (by decide) rfl (fun ls hl => ?_)
        refine lv_iconst (v := 0) hx hb dX12_isOnly_44 (by decide) ?_
        refine lv_istore (lv' := [(4, .int 0), (3, .int 0), (0, .ref h0), (1, .int k), (2, .int d)]) hx hb dX12_isOnly_45 hl (by decide) rfl (fun ls hl => ?_)
        have hlp_224 : ∀ (n_L47a : Nat) (v_191 : Int32) (v_192 : Int32) (H : Heap) (locs : List Loc) (ls : Array Slot), (2147483647 - v_192.toInt).toNat < n_L47a → (0 ≤ v_191.toInt ∧ v_191.toInt ≤ 10) → (0 ≤ v_192.toInt ∧ v_192.toInt ≤ 10) → (v_191.toInt ≤ v_192.toInt) → (v_192.toInt ≤ n_25.toInt) → (F_r_isOnly m_thereMany g_c g_there k d = F_r_isOnly_L47a g_c d n_25 n_26 n_L47a v_191 v_192) → va_P G vwCl [(h0, .inr (12, [.int m_status, .int m_thrown, .long m_above, .long m_under, .ref a_traySort, .ref a_trayMany, .ref a_numbers, .ref a_tape, .int m_taped, .int m_textEnd, .int m_faultKind, .int m_faultAt, .int m_bad, .int m_badAt, .int m_token, .int m_at, .int m_behind, .int m_number, .int m_letters, .long m_word, .ref a_c, .ref a_words, .int m_markMany, .ref a_there, .ref a_tried, .ref a_best, .ref a_found, .int n_25, .int m_foundMany, .int m_orderHow, .int m_orderRing, .int m_orderMany, .int m_hasBest, .long m_bestTop, .long m_bestBy, .ref a_weights, .ref a_shared, .int m_random, .int m_truePlace, .int m_trueWay, .int m_seconds, .int m_done, .int m_feelings, .int m_tries, .int m_leftOver, .int m_playDoor, .int m_playRing, .int m_isOpen, .int m_isOver, .int m_wasTried, .int m_hasPlayed, .ref a_feltNow, .ref a_last, .ref a_kept, .int m_hasSeconds, .int m_hasTurned, .int m_hasRound, .ref a_hasFeels, .ref a_isOn, .int m_firstAct, .long m_meanTop, .long m_meanBy, .ref a_order, .int m_rowMany, .int m_newSteps])), (a_c, .inl (cA.1 0, 1825, .inl g_c)), (a_there, .inl (cA.1 0, 10, .inl n_26))] H → va_D A [(h0, .inr (12, [.int m_status, .int m_thrown, .long m_above, .long m_under, .ref a_traySort, .ref a_trayMany, .ref a_numbers, .ref a_tape, .int m_taped, .int m_textEnd, .int m_faultKind, .int m_faultAt, .int m_bad, .int m_badAt, .int m_token, .int m_at, .int m_behind, .int m_number, .int m_letters, .long m_word, .ref a_c, .ref a_words, .int m_markMany, .ref a_there, .ref a_tried, .ref a_best, .ref a_found, .int n_25, .int m_foundMany, .int m_orderHow, .int m_orderRing, .int m_orderMany, .int m_hasBest, .long m_bestTop, .long m_bestBy, .ref a_weights, .ref a_shared, .int m_random, .int m_truePlace, .int m_trueWay, .int m_seconds, .int m_done, .int m_feelings, .int m_tries, .int m_leftOver, .int m_playDoor, .int m_playRing, .int m_isOpen, .int m_isOver, .int m_wasTried, .int m_hasPlayed, .ref a_feltNow, .ref a_last, .ref a_kept, .int m_hasSeconds, .int m_hasTurned, .int m_hasRound, .ref a_hasFeels, .ref a_isOn, .int m_firstAct, .long m_meanTop, .long m_meanBy, .ref a_order, .int m_rowMany, .int m_newSteps])), (a_c, .inl (cA.1 0, 1825, .inl g_c)), (a_there, .inl (cA.1 0, 10, .inl n_26))] → va_S A s.heap H locs → lv_has ls 5 [(0, .ref h0), (1, .int k), (2, .int d), (3, .int v_191), (4, .int v_192)] → W p l e ({ frames := 1, cells := 0, slots := 0, locals := 23 }) s m args below meth c H locs 0 0 Q (F0 m 47 ls []) := by
          intro n_L47a
          induction n_L47a with
          | zero =>
            intro v_191 v_192 H locs ls hmu_hlp_224 hr_v_191 hr_v_192 hi_206 hi_207 hF_L47a hP hD hS hl
            exact absurd hmu_hlp_224 (Nat.not_lt_zero _)
          | succ n_L47a ih_225 =>
            intro v_191 v_192 H locs ls hmu_hlp_224 hr_v_191 hr_v_192 hi_206 hi_207 hF_L47a hP hD hS hl
            refine lv_iload hx hb dX12_isOnly_47 (lv_at hl 4 rfl) ?_
            refine lv_aload_n hx hb dX12_isOnly_49 rfl (lv_at hl 0 rfl) ?_
            refine va_get (D := G) (ci := 12) (v := .int n_25) (C := RX12) (T := TX12) (N := 65) hx hb hts inT12 hown hK hP 0 rfl rfl 27 (by decide) (hts _ tw_1912) (fun _ h9 => h9) rfl dX12_isOnly_50 ?_
            refine lv_icmp_ge (tgt := 85) hx hb dX12_isOnly_53 (by decide) (fun c_226 => ?_) (fun c_226 => ?_)
            · have b_227 := z_fgeT c_226
              refine lv_iload_n hx hb dX12_isOnly_85 rfl (lv_at hl 3 rfl) ?_
              refine lv_iconst (v := 1) hx hb dX12_isOnly_86 (by decide) ?_
              refine lv_icmp_ne (tgt := 94) hx hb dX12_isOnly_87 (by decide) (fun c_228 => ?_) (fun c_228 => ?_)
              · have b_229 := z_fneT c_228
                refine lv_iconst (v := 0) hx hb dX12_isOnly_94 (by decide) ?_
                have hpost : ((0 : Int32) = 0 ∧ (0 ≤ n_25.toInt ∧ n_25.toInt ≤ 10) ∧ (zRg 10 0 9 n_26)) ∨ ((0 : Int32) = 1 ∧ (0 ≤ n_25.toInt ∧ n_25.toInt ≤ 10) ∧ (zRg 10 0 9 n_26) ∧ (zIO g_c k.toInt n_25.toInt)) := (Or.inl ⟨rfl, ⟨hr_n_25, hC_n_26⟩⟩)
                have hX_230 : F_r_isOnly m_thereMany g_c g_there k d = (((0 : Int32), n_25, n_26) : Int32 × Int32 × (Nat → Int32)) := by
                  refine hF_L47a.trans ?_
                  refine (F_r_isOnly_L47a_s ..).trans ?_
                  refine (if_pos c_226).trans ?_
                  refine (if_neg c_228).trans ?_
                  exact rfl
                exact hret _ _ _ _ _ _ (n_25, n_26) [0, 1, 2] hP hD hS rfl (by decide) dX12_isOnly_95 (Or.inl rfl) ⟨(congrArg (fun z9 => z9.1) hX_230).symm, (congrArg (fun z9 => z9.2.1) hX_230).symm, (congrArg (fun z9 => z9.2.2) hX_230).symm, hpost⟩
              · have b_231 := z_feqF c_228
                refine lv_iconst (v := 1) hx hb dX12_isOnly_90 (by decide) ?_
                refine lv_goto (tgt := 95) hx hb dX12_isOnly_91 (by decide) ?_
                have hpost : ((1 : Int32) = 0 ∧ (0 ≤ n_25.toInt ∧ n_25.toInt ≤ 10) ∧ (zRg 10 0 9 n_26)) ∨ ((1 : Int32) = 1 ∧ (0 ≤ n_25.toInt ∧ n_25.toInt ≤ 10) ∧ (zRg 10 0 9 n_26) ∧ (zIO g_c k.toInt n_25.toInt)) := (Or.inr ⟨rfl, ⟨hr_n_25, hC_n_26, ⟨_, (by omega), (by omega), hf_24, hf_30, (by omega)⟩⟩⟩)
                have hX_232 : F_r_isOnly m_thereMany g_c g_there k d = (((1 : Int32), n_25, n_26) : Int32 × Int32 × (Nat → Int32)) := by
                  refine hF_L47a.trans ?_
                  refine (F_r_isOnly_L47a_s ..).trans ?_
                  refine (if_pos c_226).trans ?_
                  refine (if_pos c_228).trans ?_
                  exact rfl
                exact hret _ _ _ _ _ _ (n_25, n_26) [0, 1, 2] hP hD hS rfl (by decide) dX12_isOnly_95 (Or.inr rfl) ⟨(congrArg (fun z9 => z9.1) hX_232).symm, (congrArg (fun z9 => z9.2.1) hX_232).symm, (congrArg (fun z9 => z9.2.2) hX_232).symm, hpost⟩
            · have b_233 := z_fltF c_226
              refine lv_iload_n hx hb dX12_isOnly_56 rfl (lv_at hl 3 rfl) ?_
              refine lv_aload_n hx hb dX12_isOnly_57 rfl (lv_at hl 0 rfl) ?_
              refine lv_aload_n hx hb dX12_isOnly_58 rfl (lv_at hl 0 rfl) ?_
              refine va_get (D := G) (ci := 12) (v := .ref a_there) (C := RX12) (T := TX12) (N := 65) hx hb hts inT12 hown hK hP 0 rfl rfl 23 (by decide) (hts _ tw_1908) (fun _ h9 => h9) rfl dX12_isOnly_59 ?_
              refine lv_iload hx hb dX12_isOnly_62 (lv_at hl 4 rfl) ?_
              refine va_iald hx hb hK hP 2 0 rfl rfl (z_inN (by omega) (by omega)) dX12_isOnly_64 ?_
              refine lv_topi (fun x_234 he_x_234 => ?_)
              have hr_x_234 := z_rg hC_n_26 he_x_234 (by omega) (by omega)
              refine lv_iload_n hx hb dX12_isOnly_65 rfl (lv_at hl 2 rfl) ?_
              refine z_callVi (As := [.int x_234, .int d]) (rest := [.int v_191]) (wr := [(a_there, .inl (cA.1 0, 10, .inl n_26))]) ⟨hx, hb, hml, hown, hts⟩ hK hE hT hP hD hS hA (r_canOpen l G cA h0 m_status m_thrown m_above m_under a_traySort a_trayMany a_numbers a_tape m_taped m_textEnd m_faultKind m_faultAt m_bad m_badAt m_token m_at m_behind m_number m_letters m_word a_c a_words m_markMany a_there a_tried a_best a_found n_25 m_foundMany m_orderHow m_orderRing m_orderMany m_hasBest m_bestTop m_bestBy a_weights a_shared m_random m_truePlace m_trueWay m_seconds m_done m_feelings m_tries m_leftOver m_playDoor m_playRing m_isOpen m_isOver m_wasTried m_hasPlayed a_feltNow a_last a_kept m_hasSeconds m_hasTurned m_hasRound a_hasFeels a_isOn m_firstAct m_meanTop m_meanBy a_order m_rowMany m_newSteps g_c x_234 d hr_x_234 hr_d hC_g_c) lk_RX12_345 ⟨rfl, rfl⟩ ⟨Nat.le_of_ble_eq_true rfl, Nat.le_of_ble_eq_true rfl⟩ 12 rfl rfl rfl [0, 1] [2] rfl rfl (by decide) rfl hl.1 rfl (lv_room (Nat.le_of_ble_eq_true rfl)) dX12_isOnly_66 ⟨Nat.le_of_ble_eq_true rfl, Nat.le_of_ble_eq_true rfl⟩ (fun r_235 u_236 H locs hw hP hD hS => ?_)
              obtain ⟨he_r_235, hw⟩ := hw
              rcases hw with ⟨rfl, hf_238⟩ | ⟨rfl, hf_239⟩
              · skip
                refine lv_if_eq (tgt := 76) hx hb dX12_isOnly_69 (by decide) (fun _ => ?_) (fun h9 => absurd (by decide +kernel) h9)
                refine lv_iconst (v := 0) hx hb dX12_isOnly_76 (by decide) ?_
                refine lv_iadd hx hb dX12_isOnly_77 ?_
                refine lv_topi (fun x_240 he_x_240 => ?_)
                have hq_x_240 := z_addq he_x_240 (rfl : v_191.toInt = _) hk_0 (by omega) (by omega)
                refine lv_istore_n (lv' := [(3, .int x_240), (0, .ref h0), (1, .int k), (2, .int d), (4, .int v_192)]) hx hb dX12_isOnly_78 rfl hl (by decide) rfl (fun ls hl => ?_)
                obtain ⟨x_241, he_x_241⟩ : ∃ z : Int32, z = v_192 + 1 := ⟨_, rfl⟩
                have hq_x_241 := z_addq he_x_241 (rfl : v_192.toInt = _) hk_1 (by omega) (by omega)
                refine lv_iinc (v := x_241) (lv' := [(4, .int x_241), (3, .int x_240), (0, .ref h0), (1, .int k), (2, .int d)]) hx hb dX12_isOnly_79 hl (k := 4) rfl ((z_ofi (by decide +kernel)).trans he_x_241.symm) (by decide) rfl (fun ls hl => ?_)
                refine lv_goto (tgt := 47) hx hb dX12_isOnly_82 (by decide) ?_
                have hX_242 : F_r_isOnly m_thereMany g_c g_there k d = F_r_isOnly_L47a g_c d n_25 n_26 n_L47a x_240 x_241 := by
                  refine hF_L47a.trans ?_
                  refine (F_r_isOnly_L47a_s ..).trans ?_
                  refine (if_neg c_226).trans ?_
                  try (extract_lets -merge -useContext +onlyGivenNames y9; have e9 : x_234 = y9 := (by first | exact he_x_234 | exact he_x_234.symm); clear_value y9; subst e9)
                  extract_lets -merge -useContext +onlyGivenNames w9 y9; have e9 : (0 : Int32) = w9 := he_r_235; clear_value w9; subst e9
                  refine (if_pos rfl).trans ?_
                  try (extract_lets -merge -useContext +onlyGivenNames y9; have e9 : x_240 = y9 := (by first | exact he_x_240 | exact he_x_240.symm); clear_value y9; subst e9)
                  try (extract_lets -merge -useContext +onlyGivenNames y9; have e9 : x_241 = y9 := (by first | exact he_x_241 | exact he_x_241.symm); clear_value y9; subst e9)
                  exact rfl
                have hP := hP.sub (ws' := [(h0, .inr (12, [.int m_status, .int m_thrown, .long m_above, .long m_under, .ref a_traySort, .ref a_trayMany, .ref a_numbers, .ref a_tape, .int m_taped, .int m_textEnd, .int m_faultKind, .int m_faultAt, .int m_bad, .int m_badAt, .int m_token, .int m_at, .int m_behind, .int m_number, .int m_letters, .long m_word, .ref a_c, .ref a_words, .int m_markMany, .ref a_there, .ref a_tried, .ref a_best, .ref a_found, .int n_25, .int m_foundMany, .int m_orderHow, .int m_orderRing, .int m_orderMany, .int m_hasBest, .long m_bestTop, .long m_bestBy, .ref a_weights, .ref a_shared, .int m_random, .int m_truePlace, .int m_trueWay, .int m_seconds, .int m_done, .int m_feelings, .int m_tries, .int m_leftOver, .int m_playDoor, .int m_playRing, .int m_isOpen, .int m_isOver, .int m_wasTried, .int m_hasPlayed, .ref a_feltNow, .ref a_last, .ref a_kept, .int m_hasSeconds, .int m_hasTurned, .int m_hasRound, .ref a_hasFeels, .ref a_isOn, .int m_firstAct, .long m_meanTop, .long m_meanBy, .ref a_order, .int m_rowMany, .int m_newSteps])), (a_c, .inl (cA.1 0, 1825, .inl g_c)), (a_there, .inl (cA.1 0, 10, .inl n_26))]) [1, 2, 0] rfl
                have hD := hD.sub (ws' := [(h0, .inr (12, [.int m_status, .int m_thrown, .long m_above, .long m_under, .ref a_traySort, .ref a_trayMany, .ref a_numbers, .ref a_tape, .int m_taped, .int m_textEnd, .int m_faultKind, .int m_faultAt, .int m_bad, .int m_badAt, .int m_token, .int m_at, .int m_behind, .int m_number, .int m_letters, .long m_word, .ref a_c, .ref a_words, .int m_markMany, .ref a_there, .ref a_tried, .ref a_best, .ref a_found, .int n_25, .int m_foundMany, .int m_orderHow, .int m_orderRing, .int m_orderMany, .int m_hasBest, .long m_bestTop, .long m_bestBy, .ref a_weights, .ref a_shared, .int m_random, .int m_truePlace, .int m_trueWay, .int m_seconds, .int m_done, .int m_feelings, .int m_tries, .int m_leftOver, .int m_playDoor, .int m_playRing, .int m_isOpen, .int m_isOver, .int m_wasTried, .int m_hasPlayed, .ref a_feltNow, .ref a_last, .ref a_kept, .int m_hasSeconds, .int m_hasTurned, .int m_hasRound, .ref a_hasFeels, .ref a_isOn, .int m_firstAct, .long m_meanTop, .long m_meanBy, .ref a_order, .int m_rowMany, .int m_newSteps])), (a_c, .inl (cA.1 0, 1825, .inl g_c)), (a_there, .inl (cA.1 0, 10, .inl n_26))]) [1, 2, 0] (by decide) rfl
                exact ih_225 x_240 x_241 H locs ls (by omega) (by omega) (by omega) (by omega) (by omega) hX_242 hP hD hS (lv_sub hl [2, 3, 4, 1, 0] rfl)
              · skip
                refine lv_if_eq (tgt := 76) hx hb dX12_isOnly_69 (by decide) (fun h9 => absurd h9 (by decide +kernel)) (fun _ => ?_)
                refine lv_iconst (v := 1) hx hb dX12_isOnly_72 (by decide) ?_
                refine lv_goto (tgt := 77) hx hb dX12_isOnly_73 (by decide) ?_
                refine lv_iadd hx hb dX12_isOnly_77 ?_
                refine lv_topi (fun x_243 he_x_243 => ?_)
                have hq_x_243 := z_addq he_x_243 (rfl : v_191.toInt = _) hk_1 (by omega) (by omega)
                refine lv_istore_n (lv' := [(3, .int x_243), (0, .ref h0), (1, .int k), (2, .int d), (4, .int v_192)]) hx hb dX12_isOnly_78 rfl hl (by decide) rfl (fun ls hl => ?_)
                obtain ⟨x_244, he_x_244⟩ : ∃ z : Int32, z = v_192 + 1 := ⟨_, rfl⟩
                have hq_x_244 := z_addq he_x_244 (rfl : v_192.toInt = _) hk_1 (by omega) (by omega)
                refine lv_iinc (v := x_244) (lv' := [(4, .int x_244), (3, .int x_243), (0, .ref h0), (1, .int k), (2, .int d)]) hx hb dX12_isOnly_79 hl (k := 4) rfl ((z_ofi (by decide +kernel)).trans he_x_244.symm) (by decide) rfl (fun ls hl => ?_)
                refine lv_goto (tgt := 47) hx hb dX12_isOnly_82 (by decide) ?_
                have hX_245 : F_r_isOnly m_thereMany g_c g_there k d = F_r_isOnly_L47a g_c d n_25 n_26 n_L47a x_243 x_244 := by
                  refine hF_L47a.trans ?_
                  refine (F_r_isOnly_L47a_s ..).trans ?_
                  refine (if_neg c_226).trans ?_
                  try (extract_lets -merge -useContext +onlyGivenNames y9; have e9 : x_234 = y9 := (by first | exact he_x_234 | exact he_x_234.symm); clear_value y9; subst e9)
                  extract_lets -merge -useContext +onlyGivenNames w9 y9; have e9 : (1 : Int32) = w9 := he_r_235; clear_value w9; subst e9
                  refine (if_neg (show ¬ (1 : Int32) = 0 by decide)).trans ?_
                  try (extract_lets -merge -useContext +onlyGivenNames y9; have e9 : x_243 = y9 := (by first | exact he_x_243 | exact he_x_243.symm); clear_value y9; subst e9)
                  try (extract_lets -merge -useContext +onlyGivenNames y9; have e9 : x_244 = y9 := (by first | exact he_x_244 | exact he_x_244.symm); clear_value y9; subst e9)
                  exact rfl
                have hP := hP.sub (ws' := [(h0, .inr (12, [.int m_status, .int m_thrown, .long m_above, .long m_under, .ref a_traySort, .ref a_trayMany, .ref a_numbers, .ref a_tape, .int m_taped, .int m_textEnd, .int m_faultKind, .int m_faultAt, .int m_bad, .int m_badAt, .int m_token, .int m_at, .int m_behind, .int m_number, .int m_letters, .long m_word, .ref a_c, .ref a_words, .int m_markMany, .ref a_there, .ref a_tried, .ref a_best, .ref a_found, .int n_25, .int m_foundMany, .int m_orderHow, .int m_orderRing, .int m_orderMany, .int m_hasBest, .long m_bestTop, .long m_bestBy, .ref a_weights, .ref a_shared, .int m_random, .int m_truePlace, .int m_trueWay, .int m_seconds, .int m_done, .int m_feelings, .int m_tries, .int m_leftOver, .int m_playDoor, .int m_playRing, .int m_isOpen, .int m_isOver, .int m_wasTried, .int m_hasPlayed, .ref a_feltNow, .ref a_last, .ref a_kept, .int m_hasSeconds, .int m_hasTurned, .int m_hasRound, .ref a_hasFeels, .ref a_isOn, .int m_firstAct, .long m_meanTop, .long m_meanBy, .ref a_order, .int m_rowMany, .int m_newSteps])), (a_c, .inl (cA.1 0, 1825, .inl g_c)), (a_there, .inl (cA.1 0, 10, .inl n_26))]) [1, 2, 0] rfl
                have hD := hD.sub (ws' := [(h0, .inr (12, [.int m_status, .int m_thrown, .long m_above, .long m_under, .ref a_traySort, .ref a_trayMany, .ref a_numbers, .ref a_tape, .int m_taped, .int m_textEnd, .int m_faultKind, .int m_faultAt, .int m_bad, .int m_badAt, .int m_token, .int m_at, .int m_behind, .int m_number, .int m_letters, .long m_word, .ref a_c, .ref a_words, .int m_markMany, .ref a_there, .ref a_tried, .ref a_best, .ref a_found, .int n_25, .int m_foundMany, .int m_orderHow, .int m_orderRing, .int m_orderMany, .int m_hasBest, .long m_bestTop, .long m_bestBy, .ref a_weights, .ref a_shared, .int m_random, .int m_truePlace, .int m_trueWay, .int m_seconds, .int m_done, .int m_feelings, .int m_tries, .int m_leftOver, .int m_playDoor, .int m_playRing, .int m_isOpen, .int m_isOver, .int m_wasTried, .int m_hasPlayed, .ref a_feltNow, .ref a_last, .ref a_kept, .int m_hasSeconds, .int m_hasTurned, .int m_hasRound, .ref a_hasFeels, .ref a_isOn, .int m_firstAct, .long m_meanTop, .long m_meanBy, .ref a_order, .int m_rowMany, .int m_newSteps])), (a_c, .inl (cA.1 0, 1825, .inl g_c)), (a_there, .inl (cA.1 0, 10, .inl n_26))]) [1, 2, 0] (by decide) rfl
                exact ih_225 x_243 x_244 H locs ls (by omega) (by omega) (by omega) (by omega) (by omega) hX_245 hP hD hS (lv_sub hl [2, 3, 4, 1, 0] rfl)
        have hX_246 : F_r_isOnly m_thereMany g_c g_there k d = F_r_isOnly_L47a g_c d n_25 n_26 ((2147483647 - (0 : Int32).toInt).toNat + 1) (0 : Int32) (0 : Int32) := by
          refine (F_r_isOnly_s ..).trans ?_
          extract_lets -merge -useContext +onlyGivenNames w9 y9; have e9 : r_1 = w9 := he_r_1; clear_value w9; subst e9
          refine (if_neg c_5).trans ?_
          try (extract_lets -merge -useContext +onlyGivenNames y9; have e9 : x_9 = y9 := (by first | exact he_x_9 | exact he_x_9.symm); clear_value y9; subst e9)
          try (extract_lets -merge -useContext +onlyGivenNames y9; have e9 : x_10 = y9 := (by first | exact he_x_10 | exact he_x_10.symm); clear_value y9; subst e9)
          refine (if_neg c_11).trans ?_
          extract_lets -merge -useContext +onlyGivenNames w9 y9; have e9 : (1 : Int32) = w9 := he_r_15; clear_value w9; subst e9
          refine (if_neg (show ¬ (1 : Int32) = 0 by decide)).trans ?_
          extract_lets -merge -useContext +onlyGivenNames w9 y9; have e9 : r_21 = w9 := he_r_21; clear_value w9; subst e9
          extract_lets -merge -useContext +onlyGivenNames w9 y8_0 y8_1; have e9 : (n_25, n_26) = w9 := ((z_tS he_n_25 he_n_26.symm)).symm; clear_value w9; subst e9
          exact rfl
        exact hlp_224 ((2147483647 - (0 : Int32).toInt).toNat + 1) 0 0 _ _ _ (Nat.lt_succ_self _) (by decide +kernel) (by decide +kernel) (by omega) (by omega) hX_246 hP hD hS (lv_sub hl [2, 3, 4, 1, 0] rfl)
set_option maxHeartbeats 40000000 in
set_option maxRecDepth 100000 in
theorem r_besides (l : Launch) (G : va_G) (cA : zCA) (h0 : Nat) (m_status : Int32) (m_thrown : Int32) (m_above : Int64) (m_under : Int64) (a_traySort : Nat) (a_trayMany : Nat) (a_numbers : Nat) (a_tape : Nat) (m_taped : Int32) (m_textEnd : Int32) (m_faultKind : Int32) (m_faultAt : Int32) (m_bad : Int32) (m_badAt : Int32) (m_token : Int32) (m_at : Int32) (m_behind : Int32) (m_number : Int32) (m_letters : Int32) (m_word : Int64) (a_c : Nat) (a_words : Nat) (m_markMany : Int32) (a_there : Nat) (a_tried : Nat) (a_best : Nat) (a_found : Nat) (m_thereMany : Int32) (m_foundMany : Int32) (m_orderHow : Int32) (m_orderRing : Int32) (m_orderMany : Int32) (m_hasBest : Int32) (m_bestTop : Int64) (m_bestBy : Int64) (a_weights : Nat) (a_shared : Nat) (m_random : Int32) (m_truePlace : Int32) (m_trueWay : Int32) (m_seconds : Int32) (m_done : Int32) (m_feelings : Int32) (m_tries : Int32) (m_leftOver : Int32) (m_playDoor : Int32) (m_playRing : Int32) (m_isOpen : Int32) (m_isOver : Int32) (m_wasTried : Int32) (m_hasPlayed : Int32) (a_feltNow : Nat) (a_last : Nat) (a_kept : Nat) (m_hasSeconds : Int32) (m_hasTurned : Int32) (m_hasRound : Int32) (a_hasFeels : Nat) (a_isOn : Nat) (m_firstAct : Int32) (m_meanTop : Int64) (m_meanBy : Int64) (a_order : Nat) (m_rowMany : Int32) (m_newSteps : Int32) (g_c : Nat → Int32) (g_there : Nat → Int32) (k : Int32) (hr_k : 0 ≤ k.toInt ∧ k.toInt ≤ 9) (hr_m_thereMany : 0 ≤ m_thereMany.toInt ∧ m_thereMany.toInt ≤ 10) (hC_g_c : zC g_c) (hC_g_there : zRg 10 0 9 g_there) : zCi l yX12_besides cX12_besides 2 (some .int) ({ frames := 1, cells := 0, slots := 0, locals := 23 }) G cA [.ref h0, .int k] [(h0, .inr (12, [.int m_status, .int m_thrown, .long m_above, .long m_under, .ref a_traySort, .ref a_trayMany, .ref a_numbers, .ref a_tape, .int m_taped, .int m_textEnd, .int m_faultKind, .int m_faultAt, .int m_bad, .int m_badAt, .int m_token, .int m_at, .int m_behind, .int m_number, .int m_letters, .long m_word, .ref a_c, .ref a_words, .int m_markMany, .ref a_there, .ref a_tried, .ref a_best, .ref a_found, .int m_thereMany, .int m_foundMany, .int m_orderHow, .int m_orderRing, .int m_orderMany, .int m_hasBest, .long m_bestTop, .long m_bestBy, .ref a_weights, .ref a_shared, .int m_random, .int m_truePlace, .int m_trueWay, .int m_seconds, .int m_done, .int m_feelings, .int m_tries, .int m_leftOver, .int m_playDoor, .int m_playRing, .int m_isOpen, .int m_isOver, .int m_wasTried, .int m_hasPlayed, .ref a_feltNow, .ref a_last, .ref a_kept, .int m_hasSeconds, .int m_hasTurned, .int m_hasRound, .ref a_hasFeels, .ref a_isOn, .int m_firstAct, .long m_meanTop, .long m_meanBy, .ref a_order, .int m_rowMany, .int m_newSteps])), (a_c, .inl (cA.1 0, 1825, .inl g_c)), (a_there, .inl (cA.1 0, 10, .inl g_there))] (S := Int32 × (Nat → Int32)) (fun (r : Int32) (u : Int32 × (Nat → Int32)) => (r = (F_r_besides m_thereMany g_c g_there k).1) ∧ (u.1 = (F_r_besides m_thereMany g_c g_there k).2.1) ∧ (u.2 = (F_r_besides m_thereMany g_c g_there k).2.2) ∧ ((0 ≤ r.toInt ∧ r.toInt ≤ 2147483647) ∧ (0 ≤ u.1.toInt ∧ u.1.toInt ≤ 10) ∧ (zRg 10 0 9 u.2) ∧ (zBe g_c k.toInt r.toInt))) (fun (u : Int32 × (Nat → Int32)) => [(h0, .inr (12, [.int m_status, .int m_thrown, .long m_above, .long m_under, .ref a_traySort, .ref a_trayMany, .ref a_numbers, .ref a_tape, .int m_taped, .int m_textEnd, .int m_faultKind, .int m_faultAt, .int m_bad, .int m_badAt, .int m_token, .int m_at, .int m_behind, .int m_number, .int m_letters, .long m_word, .ref a_c, .ref a_words, .int m_markMany, .ref a_there, .ref a_tried, .ref a_best, .ref a_found, .int u.1, .int m_foundMany, .int m_orderHow, .int m_orderRing, .int m_orderMany, .int m_hasBest, .long m_bestTop, .long m_bestBy, .ref a_weights, .ref a_shared, .int m_random, .int m_truePlace, .int m_trueWay, .int m_seconds, .int m_done, .int m_feelings, .int m_tries, .int m_leftOver, .int m_playDoor, .int m_playRing, .int m_isOpen, .int m_isOver, .int m_wasTried, .int m_hasPlayed, .ref a_feltNow, .ref a_last, .ref a_kept, .int m_hasSeconds, .int m_hasTurned, .int m_hasRound, .ref a_hasFeels, .ref a_isOn, .int m_firstAct, .long m_meanTop, .long m_meanBy, .ref a_order, .int m_rowMany, .int m_newSteps])), (a_c, .inl (cA.1 0, 1825, .inl g_c)), (a_there, .inl (cA.1 0, 10, .inl u.2))]) 0 0 := by
  have hk_0 : (0 : Int32).toInt = 0 := by decide +kernel
  have hk_2147483647 : (2147483647 : Int32).toInt = 2147483647 := by decide +kernel
  refine z_start2i (own := RX12) (by decide) (Nat.le_of_ble_eq_true rfl) rfl ?_
  intro p e s m args below meth c A ls Q hx hb hml hts hown hK hE hT hP hD hS hA hl hret
  have hl : lv_has ls 2 [(0, .ref h0), (1, .int k)] := hl
  refine lv_aload_n hx hb dX12_besides_0 rfl (lv_at hl 0 rfl) ?_
  refine lv_iload_n hx hb dX12_besides_1 rfl (lv_at hl 1 rfl) ?_
  refine z_callVi (As := [.int k]) (rest := []) (wr := [(a_there, .inl (cA.1 0, 10, .inl g_there))]) ⟨hx, hb, hml, hown, hts⟩ hK hE hT hP hD hS hA (r_ringOf l G cA h0 m_status m_thrown m_above m_under a_traySort a_trayMany a_numbers a_tape m_taped m_textEnd m_faultKind m_faultAt m_bad m_badAt m_token m_at m_behind m_number m_letters m_word a_c a_words m_markMany a_there a_tried a_best a_found m_thereMany m_foundMany m_orderHow m_orderRing m_orderMany m_hasBest m_bestTop m_bestBy a_weights a_shared m_random m_truePlace m_trueWay m_seconds m_done m_feelings m_tries m_leftOver m_playDoor m_playRing m_isOpen m_isOver m_wasTried m_hasPlayed a_feltNow a_last a_kept m_hasSeconds m_hasTurned m_hasRound a_hasFeels a_isOn m_firstAct m_meanTop m_meanBy a_order m_rowMany m_newSteps g_c k hr_k hC_g_c) lk_RX12_278 ⟨rfl, rfl⟩ ⟨Nat.le_of_ble_eq_true rfl, Nat.le_of_ble_eq_true rfl⟩ 12 rfl rfl rfl [0, 1] [2] rfl rfl (by decide) rfl hl.1 rfl (lv_room (Nat.le_of_ble_eq_true rfl)) dX12_besides_2 ⟨Nat.le_of_ble_eq_true rfl, Nat.le_of_ble_eq_true rfl⟩ (fun r_1 u_2 H locs hw hP hD hS => ?_)
  obtain ⟨he_r_1, hw⟩ := hw
  obtain ⟨hr_r_1, hf_4⟩ := hw
  refine lv_if_ge (tgt := 12) hx hb dX12_besides_5 (by decide) (fun c_5 => ?_) (fun c_5 => ?_)
  · have b_6 := z_fgeT c_5
    refine lv_aload_n hx hb dX12_besides_12 rfl (lv_at hl 0 rfl) ?_
    refine lv_aload_n hx hb dX12_besides_13 rfl (lv_at hl 0 rfl) ?_
    refine lv_iload_n hx hb dX12_besides_14 rfl (lv_at hl 1 rfl) ?_
    refine z_callVi (As := [.int k]) (rest := [.ref h0]) (wr := [(a_there, .inl (cA.1 0, 10, .inl g_there))]) ⟨hx, hb, hml, hown, hts⟩ hK hE hT hP hD hS hA (r_ringOf l G cA h0 m_status m_thrown m_above m_under a_traySort a_trayMany a_numbers a_tape m_taped m_textEnd m_faultKind m_faultAt m_bad m_badAt m_token m_at m_behind m_number m_letters m_word a_c a_words m_markMany a_there a_tried a_best a_found m_thereMany m_foundMany m_orderHow m_orderRing m_orderMany m_hasBest m_bestTop m_bestBy a_weights a_shared m_random m_truePlace m_trueWay m_seconds m_done m_feelings m_tries m_leftOver m_playDoor m_playRing m_isOpen m_isOver m_wasTried m_hasPlayed a_feltNow a_last a_kept m_hasSeconds m_hasTurned m_hasRound a_hasFeels a_isOn m_firstAct m_meanTop m_meanBy a_order m_rowMany m_newSteps g_c k hr_k hC_g_c) lk_RX12_278 ⟨rfl, rfl⟩ ⟨Nat.le_of_ble_eq_true rfl, Nat.le_of_ble_eq_true rfl⟩ 12 rfl rfl rfl [1, 2] [0] rfl rfl (by decide) rfl hl.1 rfl (lv_room (Nat.le_of_ble_eq_true rfl)) dX12_besides_15 ⟨Nat.le_of_ble_eq_true rfl, Nat.le_of_ble_eq_true rfl⟩ (fun r_7 u_8 H locs hw hP hD hS => ?_)
    obtain ⟨he_r_7, hw⟩ := hw
    obtain ⟨hr_r_7, hf_10⟩ := hw
    have hu_r_7 := zRO_unique hf_10 hf_4
    refine z_callVv (As := [.int r_7]) (rest := []) (wr := []) ⟨hx, hb, hml, hown, hts⟩ hK hE hT hP hD hS hA (r_gather l G cA h0 m_status m_thrown m_above m_under a_traySort a_trayMany a_numbers a_tape m_taped m_textEnd m_faultKind m_faultAt m_bad m_badAt m_token m_at m_behind m_number m_letters m_word a_c a_words m_markMany a_there a_tried a_best a_found m_thereMany m_foundMany m_orderHow m_orderRing m_orderMany m_hasBest m_bestTop m_bestBy a_weights a_shared m_random m_truePlace m_trueWay m_seconds m_done m_feelings m_tries m_leftOver m_playDoor m_playRing m_isOpen m_isOver m_wasTried m_hasPlayed a_feltNow a_last a_kept m_hasSeconds m_hasTurned m_hasRound a_hasFeels a_isOn m_firstAct m_meanTop m_meanBy a_order m_rowMany m_newSteps g_c g_there r_7 (by omega) hr_m_thereMany hC_g_c hC_g_there) lk_RX12_292 ⟨rfl, rfl⟩ ⟨Nat.le_of_ble_eq_true rfl, Nat.le_of_ble_eq_true rfl⟩ 12 rfl rfl rfl [1, 2, 0] [] rfl rfl (by decide) rfl hl.1 rfl (lv_room (Nat.le_of_ble_eq_true rfl)) dX12_besides_18 ⟨Nat.le_of_ble_eq_true rfl, Nat.le_of_ble_eq_true rfl⟩ (fun u_14 H locs hw hP hD hS => ?_)
    obtain ⟨n_11, n_12⟩ := u_14
    try dsimp only at hw
    obtain ⟨he_n_11, he_n_12, hw⟩ := hw
    obtain ⟨hr_n_11, hC_n_12, hf_16, hf_17⟩ := hw
    refine lv_aload_n hx hb dX12_besides_21 rfl (lv_at hl 0 rfl) ?_
    refine va_get (D := G) (ci := 12) (v := .int n_11) (C := RX12) (T := TX12) (N := 65) hx hb hts inT12 hown hK hP 0 rfl rfl 27 (by decide) (hts _ tw_1912) (fun _ h9 => h9) rfl dX12_besides_22 ?_
    have hpost : (0 ≤ n_11.toInt ∧ n_11.toInt ≤ 2147483647) ∧ (0 ≤ n_11.toInt ∧ n_11.toInt ≤ 10) ∧ (zRg 10 0 9 n_12) ∧ (zBe g_c k.toInt n_11.toInt) := ⟨(z_rgw hr_n_11 (by decide) (by decide)), hr_n_11, hC_n_12, (zBe_some hf_10 (by omega) (by omega) hf_16 (by omega) (by omega))⟩
    have hX_18 : F_r_besides m_thereMany g_c g_there k = ((n_11, n_11, n_12) : Int32 × Int32 × (Nat → Int32)) := by
      refine (F_r_besides_s ..).trans ?_
      extract_lets -merge -useContext +onlyGivenNames w9 y9; have e9 : r_1 = w9 := he_r_1; clear_value w9; subst e9
      refine (if_pos c_5).trans ?_
      extract_lets -merge -useContext +onlyGivenNames w9 y9; have e9 : r_7 = w9 := he_r_7; clear_value w9; subst e9
      extract_lets -merge -useContext +onlyGivenNames w9 y3_0 y3_1; have e9 : (n_11, n_12) = w9 := ((z_tS he_n_11 he_n_12.symm)).symm; clear_value w9; subst e9
      exact rfl
    exact hret _ _ _ _ _ _ (n_11, n_12) [0, 1, 2] hP hD hS rfl (by decide) dX12_besides_25 ⟨(congrArg (fun z9 => z9.1) hX_18).symm, (congrArg (fun z9 => z9.2.1) hX_18).symm, (congrArg (fun z9 => z9.2.2) hX_18).symm, hpost⟩
  · have b_19 := z_fltF c_5
    refine lv_ldcw (v := 2147483647) hx hb hown (hts _ tw_2612) dX12_besides_8 ?_
    have hpost : (0 ≤ (2147483647 : Int32).toInt ∧ (2147483647 : Int32).toInt ≤ 2147483647) ∧ (0 ≤ m_thereMany.toInt ∧ m_thereMany.toInt ≤ 10) ∧ (zRg 10 0 9 g_there) ∧ (zBe g_c k.toInt (2147483647 : Int32).toInt) := ⟨(by decide +kernel), hr_m_thereMany, hC_g_there, (zBe_none hf_4 (by omega))⟩
    have hX_20 : F_r_besides m_thereMany g_c g_there k = (((2147483647 : Int32), m_thereMany, g_there) : Int32 × Int32 × (Nat → Int32)) := by
      refine (F_r_besides_s ..).trans ?_
      extract_lets -merge -useContext +onlyGivenNames w9 y9; have e9 : r_1 = w9 := he_r_1; clear_value w9; subst e9
      refine (if_neg c_5).trans ?_
      exact rfl
    exact hret _ _ _ _ _ _ (m_thereMany, g_there) [1, 2, 0] hP hD hS rfl (by decide) dX12_besides_11 ⟨(congrArg (fun z9 => z9.1) hX_20).symm, (congrArg (fun z9 => z9.2.1) hX_20).symm, (congrArg (fun z9 => z9.2.2) hX_20).symm, hpost⟩
set_option maxHeartbeats 40000000 in
set_option maxRecDepth 100000 in
theorem r_missing (l : Launch) (G : va_G) (cA : zCA) (h0 : Nat) (m_status : Int32) (m_thrown : Int32) (m_above : Int64) (m_under : Int64) (a_traySort : Nat) (a_trayMany : Nat) (a_numbers : Nat) (a_tape : Nat) (m_taped : Int32) (m_textEnd : Int32) (m_faultKind : Int32) (m_faultAt : Int32) (m_bad : Int32) (m_badAt : Int32) (m_token : Int32) (m_at : Int32) (m_behind : Int32) (m_number : Int32) (m_letters : Int32) (m_word : Int64) (a_c : Nat) (a_words : Nat) (m_markMany : Int32) (a_there : Nat) (a_tried : Nat) (a_best : Nat) (a_found : Nat) (m_thereMany : Int32) (m_foundMany : Int32) (m_orderHow : Int32) (m_orderRing : Int32) (m_orderMany : Int32) (m_hasBest : Int32) (m_bestTop : Int64) (m_bestBy : Int64) (a_weights : Nat) (a_shared : Nat) (m_random : Int32) (m_truePlace : Int32) (m_trueWay : Int32) (m_seconds : Int32) (m_done : Int32) (m_feelings : Int32) (m_tries : Int32) (m_leftOver : Int32) (m_playDoor : Int32) (m_playRing : Int32) (m_isOpen : Int32) (m_isOver : Int32) (m_wasTried : Int32) (m_hasPlayed : Int32) (a_feltNow : Nat) (a_last : Nat) (a_kept : Nat) (m_hasSeconds : Int32) (m_hasTurned : Int32) (m_hasRound : Int32) (a_hasFeels : Nat) (a_isOn : Nat) (m_firstAct : Int32) (m_meanTop : Int64) (m_meanBy : Int64) (a_order : Nat) (m_rowMany : Int32) (m_newSteps : Int32) (g_c : Nat → Int32) (g_there : Nat → Int32) (k : Int32) (d : Int32) (lent : Int32) (t : Int32) (hr_m_thereMany : 0 ≤ m_thereMany.toInt ∧ m_thereMany.toInt ≤ 10) (hC_g_c : zC g_c) (hC_g_there : zRg 10 0 9 g_there) : zCi l yX12_missing cX12_missing 6 (some .boolean) ({ frames := 2, cells := 0, slots := 0, locals := 51 }) G cA [.ref h0, .int k, .int d, .int lent, .int t] [(h0, .inr (12, [.int m_status, .int m_thrown, .long m_above, .long m_under, .ref a_traySort, .ref a_trayMany, .ref a_numbers, .ref a_tape, .int m_taped, .int m_textEnd, .int m_faultKind, .int m_faultAt, .int m_bad, .int m_badAt, .int m_token, .int m_at, .int m_behind, .int m_number, .int m_letters, .long m_word, .ref a_c, .ref a_words, .int m_markMany, .ref a_there, .ref a_tried, .ref a_best, .ref a_found, .int m_thereMany, .int m_foundMany, .int m_orderHow, .int m_orderRing, .int m_orderMany, .int m_hasBest, .long m_bestTop, .long m_bestBy, .ref a_weights, .ref a_shared, .int m_random, .int m_truePlace, .int m_trueWay, .int m_seconds, .int m_done, .int m_feelings, .int m_tries, .int m_leftOver, .int m_playDoor, .int m_playRing, .int m_isOpen, .int m_isOver, .int m_wasTried, .int m_hasPlayed, .ref a_feltNow, .ref a_last, .ref a_kept, .int m_hasSeconds, .int m_hasTurned, .int m_hasRound, .ref a_hasFeels, .ref a_isOn, .int m_firstAct, .long m_meanTop, .long m_meanBy, .ref a_order, .int m_rowMany, .int m_newSteps])), (a_c, .inl (cA.1 0, 1825, .inl g_c)), (a_there, .inl (cA.1 0, 10, .inl g_there))] (S := Int32 × Int32 × Int32 × (Nat → Int32) × Int64 × Int64) (fun (r : Int32) (u : Int32 × Int32 × Int32 × (Nat → Int32) × Int64 × Int64) => (r = (F_r_missing m_thereMany g_c g_there k d lent t)) ∧ ((r = 0 ∧ (0 ≤ u.2.1.toInt ∧ u.2.1.toInt ≤ 0) ∧ (0 ≤ u.2.2.1.toInt ∧ u.2.2.1.toInt ≤ 10) ∧ (zRg 10 0 9 u.2.2.2.1)) ∨ (r = 1 ∧ (0 ≤ u.1.toInt ∧ u.1.toInt ≤ 0) ∧ (0 ≤ u.2.1.toInt ∧ u.2.1.toInt ≤ 0) ∧ (0 ≤ u.2.2.1.toInt ∧ u.2.2.1.toInt ≤ 10) ∧ (zRg 10 0 9 u.2.2.2.1)))) (fun (u : Int32 × Int32 × Int32 × (Nat → Int32) × Int64 × Int64) => [(h0, .inr (12, [.int u.1, .int u.2.1, .long u.2.2.2.2.1, .long u.2.2.2.2.2, .ref a_traySort, .ref a_trayMany, .ref a_numbers, .ref a_tape, .int m_taped, .int m_textEnd, .int m_faultKind, .int m_faultAt, .int m_bad, .int m_badAt, .int m_token, .int m_at, .int m_behind, .int m_number, .int m_letters, .long m_word, .ref a_c, .ref a_words, .int m_markMany, .ref a_there, .ref a_tried, .ref a_best, .ref a_found, .int u.2.2.1, .int m_foundMany, .int m_orderHow, .int m_orderRing, .int m_orderMany, .int m_hasBest, .long m_bestTop, .long m_bestBy, .ref a_weights, .ref a_shared, .int m_random, .int m_truePlace, .int m_trueWay, .int m_seconds, .int m_done, .int m_feelings, .int m_tries, .int m_leftOver, .int m_playDoor, .int m_playRing, .int m_isOpen, .int m_isOver, .int m_wasTried, .int m_hasPlayed, .ref a_feltNow, .ref a_last, .ref a_kept, .int m_hasSeconds, .int m_hasTurned, .int m_hasRound, .ref a_hasFeels, .ref a_isOn, .int m_firstAct, .long m_meanTop, .long m_meanBy, .ref a_order, .int m_rowMany, .int m_newSteps])), (a_c, .inl (cA.1 0, 1825, .inl g_c)), (a_there, .inl (cA.1 0, 10, .inl u.2.2.2.1))]) 0 0 := by
  have hk_0 : (0 : Int32).toInt = 0 := by decide +kernel
  have hk_2 : (2 : Int32).toInt = 2 := by decide +kernel
  have hk_5 : (5 : Int32).toInt = 5 := by decide +kernel
  have hk_9 : (9 : Int32).toInt = 9 := by decide +kernel
  have hk_16 : (16 : Int32).toInt = 16 := by decide +kernel
  have hkl_0 : (0 : Int64).toInt = 0 := by decide +kernel
  have hkl_16 : (16 : Int64).toInt = 16 := by decide +kernel
  refine z_start2z (own := RX12) (by decide) (Nat.le_of_ble_eq_true rfl) rfl ?_
  intro p e s m args below meth c A ls Q hx hb hml hts hown hK hE hT hP hD hS hA hl hret
  have hl : lv_has ls 6 [(0, .ref h0), (1, .int k), (2, .int d), (3, .int lent), (4, .int t)] := hl
  refine lv_aload_n hx hb dX12_missing_0 rfl (lv_at hl 0 rfl) ?_
  refine lv_iconst (v := 0) hx hb dX12_missing_1 (by decide) ?_
  refine va_put (D := G) (ci := 12) (v := .int 0) (ty := .int) (C := RX12) (T := TX12) (N := 65) hx hb hts inT12 tyX12 tyX12_ok nmX12 hown hK hP hD hS 0 rfl rfl 1 (by decide) (hts _ tw_1886) (fun _ h9 => h9) rfl (tyX12_ok 1 (by decide)) rfl rfl (Nat.le_of_ble_eq_true rfl) dX12_missing_2 (fun H locs hP hD hS => ?_)
  refine lv_aload_n hx hb dX12_missing_5 rfl (lv_at hl 0 rfl) ?_
  refine lv_iconst (v := 0) hx hb dX12_missing_6 (by decide) ?_
  refine va_put (D := G) (ci := 12) (v := .int 0) (ty := .int) (C := RX12) (T := TX12) (N := 65) hx hb hts inT12 tyX12 tyX12_ok nmX12 hown hK hP hD hS 0 rfl rfl 0 (by decide) (hts _ tw_1885) (fun _ h9 => h9) rfl (tyX12_ok 0 (by decide)) rfl rfl (Nat.le_of_ble_eq_true rfl) dX12_missing_7 (fun H locs hP hD hS => ?_)
  refine lv_aload_n hx hb dX12_missing_10 rfl (lv_at hl 0 rfl) ?_
  refine lv_iload_n hx hb dX12_missing_11 rfl (lv_at hl 1 rfl) ?_
  refine lv_i2l (v := (k).toInt64) hx hb dX12_missing_12 rfl ?_
  refine lv_topl (fun x_1 he_x_1 => ?_)
  have hq_x_1 := z_i2l he_x_1
  have hL_k := z_full k
  refine z_callVi (As := [.long x_1]) (rest := []) (wr := [(a_there, .inl (cA.1 0, 10, .inl g_there))]) ⟨hx, hb, hml, hown, hts⟩ hK hE hT hP hD hS hA (r_isKey l G cA h0 0 0 m_above m_under a_traySort a_trayMany a_numbers a_tape m_taped m_textEnd m_faultKind m_faultAt m_bad m_badAt m_token m_at m_behind m_number m_letters m_word a_c a_words m_markMany a_there a_tried a_best a_found m_thereMany m_foundMany m_orderHow m_orderRing m_orderMany m_hasBest m_bestTop m_bestBy a_weights a_shared m_random m_truePlace m_trueWay m_seconds m_done m_feelings m_tries m_leftOver m_playDoor m_playRing m_isOpen m_isOver m_wasTried m_hasPlayed a_feltNow a_last a_kept m_hasSeconds m_hasTurned m_hasRound a_hasFeels a_isOn m_firstAct m_meanTop m_meanBy a_order m_rowMany m_newSteps g_c x_1 hC_g_c) lk_RX12_275 ⟨rfl, rfl⟩ ⟨Nat.le_of_ble_eq_true rfl, Nat.le_of_ble_eq_true rfl⟩ 12 rfl rfl rfl [0, 1] [2] rfl rfl (by decide) rfl hl.1 rfl (lv_room (Nat.le_of_ble_eq_true rfl)) dX12_missing_13 ⟨Nat.le_of_ble_eq_true rfl, Nat.le_of_ble_eq_true rfl⟩ (fun r_2 u_3 H locs hw hP hD hS => ?_)
  obtain ⟨he_r_2, hw⟩ := hw
  rcases hw with ⟨rfl, -⟩ | ⟨rfl, hf_5, hf_6⟩
  · skip
    refine lv_if_eq (tgt := 27) hx hb dX12_missing_16 (by decide) (fun _ => ?_) (fun h9 => absurd (by decide +kernel) h9)
    refine lv_aload_n hx hb dX12_missing_27 rfl (lv_at hl 0 rfl) ?_
    refine lv_iconst (v := 2) hx hb dX12_missing_28 (by decide) ?_
    refine z_callVi (As := [.int 2]) (rest := []) (wr := [(a_there, .inl (cA.1 0, 10, .inl g_there)), (a_c, .inl (cA.1 0, 1825, .inl g_c))]) ⟨hx, hb, hml, hown, hts⟩ hK hE hT hP hD hS hA (r_no l G cA h0 0 0 m_above m_under a_traySort a_trayMany a_numbers a_tape m_taped m_textEnd m_faultKind m_faultAt m_bad m_badAt m_token m_at m_behind m_number m_letters m_word a_c a_words m_markMany a_there a_tried a_best a_found m_thereMany m_foundMany m_orderHow m_orderRing m_orderMany m_hasBest m_bestTop m_bestBy a_weights a_shared m_random m_truePlace m_trueWay m_seconds m_done m_feelings m_tries m_leftOver m_playDoor m_playRing m_isOpen m_isOver m_wasTried m_hasPlayed a_feltNow a_last a_kept m_hasSeconds m_hasTurned m_hasRound a_hasFeels a_isOn m_firstAct m_meanTop m_meanBy a_order m_rowMany m_newSteps 2) lk_RX12_97 ⟨rfl, rfl⟩ ⟨Nat.le_of_ble_eq_true rfl, Nat.le_of_ble_eq_true rfl⟩ 12 rfl rfl rfl [1] [0, 2] rfl rfl (by decide) rfl hl.1 rfl (lv_room (Nat.le_of_ble_eq_true rfl)) dX12_missing_29 ⟨Nat.le_of_ble_eq_true rfl, Nat.le_of_ble_eq_true rfl⟩ (fun r_8 u_9 H locs hw hP hD hS => ?_)
    obtain ⟨n_7, rfl⟩ : ∃ z, z = u_9 := ⟨_, rfl⟩
    obtain ⟨he_r_8, he_n_7, hw⟩ := hw
    obtain ⟨rfl, -⟩ := hw
    have hpost : ((0 : Int32) = 0 ∧ (0 ≤ (0 : Int32).toInt ∧ (0 : Int32).toInt ≤ 0) ∧ (0 ≤ m_thereMany.toInt ∧ m_thereMany.toInt ≤ 10) ∧ (zRg 10 0 9 g_there)) ∨ ((0 : Int32) = 1 ∧ (0 ≤ n_7.toInt ∧ n_7.toInt ≤ 0) ∧ (0 ≤ (0 : Int32).toInt ∧ (0 : Int32).toInt ≤ 0) ∧ (0 ≤ m_thereMany.toInt ∧ m_thereMany.toInt ≤ 10) ∧ (zRg 10 0 9 g_there)) := (Or.inl ⟨rfl, ⟨(by decide +kernel), hr_m_thereMany, hC_g_there⟩⟩)
    have hX_11 : F_r_missing m_thereMany g_c g_there k d lent t = ((0 : Int32) : Int32) := by
      refine (F_r_missing_s ..).trans ?_
      try (extract_lets -merge -useContext +onlyGivenNames y9; have e9 : x_1 = y9 := (by first | exact he_x_1 | exact he_x_1.symm); clear_value y9; subst e9)
      extract_lets -merge -useContext +onlyGivenNames w9 y9; have e9 : (0 : Int32) = w9 := he_r_2; clear_value w9; subst e9
      refine (if_pos rfl).trans ?_
      extract_lets -merge -useContext +onlyGivenNames w9 y3_0 y3_1; have e9 : ((0 : Int32), n_7) = w9 := ((z_tS he_r_8 he_n_7.symm)).symm; clear_value w9; subst e9
      exact rfl
    exact hret _ _ _ _ _ _ (n_7, 0, m_thereMany, g_there, m_above, m_under) [2, 1, 0] hP hD hS rfl (by decide) dX12_missing_32 (Or.inl rfl) ⟨(congrArg (fun z9 => z9) hX_11).symm, hpost⟩
  · skip
    refine lv_if_eq (tgt := 27) hx hb dX12_missing_16 (by decide) (fun h9 => absurd h9 (by decide +kernel)) (fun _ => ?_)
    refine lv_aload_n hx hb dX12_missing_19 rfl (lv_at hl 0 rfl) ?_
    refine lv_iload_n hx hb dX12_missing_20 rfl (lv_at hl 2 rfl) ?_
    refine z_callVi (As := [.int d]) (rest := []) (wr := [(a_there, .inl (cA.1 0, 10, .inl g_there))]) ⟨hx, hb, hml, hown, hts⟩ hK hE hT hP hD hS hA (r_isDoor l G cA h0 0 0 m_above m_under a_traySort a_trayMany a_numbers a_tape m_taped m_textEnd m_faultKind m_faultAt m_bad m_badAt m_token m_at m_behind m_number m_letters m_word a_c a_words m_markMany a_there a_tried a_best a_found m_thereMany m_foundMany m_orderHow m_orderRing m_orderMany m_hasBest m_bestTop m_bestBy a_weights a_shared m_random m_truePlace m_trueWay m_seconds m_done m_feelings m_tries m_leftOver m_playDoor m_playRing m_isOpen m_isOver m_wasTried m_hasPlayed a_feltNow a_last a_kept m_hasSeconds m_hasTurned m_hasRound a_hasFeels a_isOn m_firstAct m_meanTop m_meanBy a_order m_rowMany m_newSteps g_c d hC_g_c) lk_RX12_295 ⟨rfl, rfl⟩ ⟨Nat.le_of_ble_eq_true rfl, Nat.le_of_ble_eq_true rfl⟩ 12 rfl rfl rfl [1, 2] [0] rfl rfl (by decide) rfl hl.1 rfl (lv_room (Nat.le_of_ble_eq_true rfl)) dX12_missing_21 ⟨Nat.le_of_ble_eq_true rfl, Nat.le_of_ble_eq_true rfl⟩ (fun r_12 u_13 H locs hw hP hD hS => ?_)
    obtain ⟨he_r_12, hw⟩ := hw
    rcases hw with ⟨rfl, -⟩ | ⟨rfl, hf_15, hf_16⟩
    · skip
      refine lv_if_ne (tgt := 33) hx hb dX12_missing_24 (by decide) (fun h9 => absurd (by decide +kernel) h9) (fun _ => ?_)
      refine lv_aload_n hx hb dX12_missing_27 rfl (lv_at hl 0 rfl) ?_
      refine lv_iconst (v := 2) hx hb dX12_missing_28 (by decide) ?_
      refine z_callVi (As := [.int 2]) (rest := []) (wr := [(a_there, .inl (cA.1 0, 10, .inl g_there)), (a_c, .inl (cA.1 0, 1825, .inl g_c))]) ⟨hx, hb, hml, hown, hts⟩ hK hE hT hP hD hS hA (r_no l G cA h0 0 0 m_above m_under a_traySort a_trayMany a_numbers a_tape m_taped m_textEnd m_faultKind m_faultAt m_bad m_badAt m_token m_at m_behind m_number m_letters m_word a_c a_words m_markMany a_there a_tried a_best a_found m_thereMany m_foundMany m_orderHow m_orderRing m_orderMany m_hasBest m_bestTop m_bestBy a_weights a_shared m_random m_truePlace m_trueWay m_seconds m_done m_feelings m_tries m_leftOver m_playDoor m_playRing m_isOpen m_isOver m_wasTried m_hasPlayed a_feltNow a_last a_kept m_hasSeconds m_hasTurned m_hasRound a_hasFeels a_isOn m_firstAct m_meanTop m_meanBy a_order m_rowMany m_newSteps 2) lk_RX12_97 ⟨rfl, rfl⟩ ⟨Nat.le_of_ble_eq_true rfl, Nat.le_of_ble_eq_true rfl⟩ 12 rfl rfl rfl [1] [0, 2] rfl rfl (by decide) rfl hl.1 rfl (lv_room (Nat.le_of_ble_eq_true rfl)) dX12_missing_29 ⟨Nat.le_of_ble_eq_true rfl, Nat.le_of_ble_eq_true rfl⟩ (fun r_18 u_19 H locs hw hP hD hS => ?_)
      obtain ⟨n_17, rfl⟩ : ∃ z, z = u_19 := ⟨_, rfl⟩
      obtain ⟨he_r_18, he_n_17, hw⟩ := hw
      obtain ⟨rfl, -⟩ := hw
      have hpost : ((0 : Int32) = 0 ∧ (0 ≤ (0 : Int32).toInt ∧ (0 : Int32).toInt ≤ 0) ∧ (0 ≤ m_thereMany.toInt ∧ m_thereMany.toInt ≤ 10) ∧ (zRg 10 0 9 g_there)) ∨ ((0 : Int32) = 1 ∧ (0 ≤ n_17.toInt ∧ n_17.toInt ≤ 0) ∧ (0 ≤ (0 : Int32).toInt ∧ (0 : Int32).toInt ≤ 0) ∧ (0 ≤ m_thereMany.toInt ∧ m_thereMany.toInt ≤ 10) ∧ (zRg 10 0 9 g_there)) := (Or.inl ⟨rfl, ⟨(by decide +kernel), hr_m_thereMany, hC_g_there⟩⟩)
      have hX_21 : F_r_missing m_thereMany g_c g_there k d lent t = ((0 : Int32) : Int32) := by
        refine (F_r_missing_s ..).trans ?_
        try (extract_lets -merge -useContext +onlyGivenNames y9; have e9 : x_1 = y9 := (by first | exact he_x_1 | exact he_x_1.symm); clear_value y9; subst e9)
        extract_lets -merge -useContext +onlyGivenNames w9 y9; have e9 : (1 : Int32) = w9 := he_r_2; clear_value w9; subst e9
        refine (if_neg (show ¬ (1 : Int32) = 0 by decide)).trans ?_
        extract_lets -merge -useContext +onlyGivenNames w9 y9; have e9 : (0 : Int32) = w9 := he_r_12; clear_value w9; subst e9
        refine (if_pos rfl).trans ?_
        extract_lets -merge -useContext +onlyGivenNames w9 y5_0 y5_1; have e9 : ((0 : Int32), n_17) = w9 := ((z_tS he_r_18 he_n_17.symm)).symm; clear_value w9; subst e9
        exact rfl
      exact hret _ _ _ _ _ _ (n_17, 0, m_thereMany, g_there, m_above, m_under) [2, 1, 0] hP hD hS rfl (by decide) dX12_missing_32 (Or.inl rfl) ⟨(congrArg (fun z9 => z9) hX_21).symm, hpost⟩
    · skip
      refine lv_if_ne (tgt := 33) hx hb dX12_missing_24 (by decide) (fun _ => ?_) (fun h9 => absurd h9 (by decide +kernel))
      refine lv_aload_n hx hb dX12_missing_33 rfl (lv_at hl 0 rfl) ?_
      refine lv_iload_n hx hb dX12_missing_34 rfl (lv_at hl 1 rfl) ?_
      refine z_callVi (As := [.int k]) (rest := []) (wr := []) ⟨hx, hb, hml, hown, hts⟩ hK hE hT hP hD hS hA (r_besides l G cA h0 0 0 m_above m_under a_traySort a_trayMany a_numbers a_tape m_taped m_textEnd m_faultKind m_faultAt m_bad m_badAt m_token m_at m_behind m_number m_letters m_word a_c a_words m_markMany a_there a_tried a_best a_found m_thereMany m_foundMany m_orderHow m_orderRing m_orderMany m_hasBest m_bestTop m_bestBy a_weights a_shared m_random m_truePlace m_trueWay m_seconds m_done m_feelings m_tries m_leftOver m_playDoor m_playRing m_isOpen m_isOver m_wasTried m_hasPlayed a_feltNow a_last a_kept m_hasSeconds m_hasTurned m_hasRound a_hasFeels a_isOn m_firstAct m_meanTop m_meanBy a_order m_rowMany m_newSteps g_c g_there k (by omega) hr_m_thereMany hC_g_c hC_g_there) lk_RX12_476 ⟨rfl, rfl⟩ ⟨Nat.le_of_ble_eq_true rfl, Nat.le_of_ble_eq_true rfl⟩ 12 rfl rfl rfl [1, 2, 0] [] rfl rfl (by decide) rfl hl.1 rfl (lv_room (Nat.le_of_ble_eq_true rfl)) dX12_missing_35 ⟨Nat.le_of_ble_eq_true rfl, Nat.le_of_ble_eq_true rfl⟩ (fun r_24 u_25 H locs hw hP hD hS => ?_)
      obtain ⟨n_22, n_23⟩ := u_25
      try dsimp only at hw
      obtain ⟨he_r_24, he_n_22, he_n_23, hw⟩ := hw
      obtain ⟨hr_r_24, hr_n_22, hC_n_23, hf_27⟩ := hw
      refine lv_istore (lv' := [(5, .int r_24), (0, .ref h0), (1, .int k), (2, .int d), (3, .int lent), (4, .int t)]) hx hb dX12_missing_38 hl (by decide) rfl (fun ls hl => ?_)
      refine lv_iload_n hx hb dX12_missing_40 rfl (lv_at hl 4 rfl) ?_
      refine lv_i2l (v := (lent).toInt64) hx hb dX12_missing_41 rfl ?_
      refine lv_topl (fun x_28 he_x_28 => ?_)
      have hq_x_28 := z_i2l he_x_28
      have hL_lent := z_full lent
      refine lv_lconst (v := 0) hx hb dX12_missing_42 (by decide) ?_
      refine lv_ldc2 (v := 16) hx hb hown (hts _ tw_2470) dX12_missing_43 ?_
      refine z_callSi (As := [.long x_28, .long 0, .long 16]) (rest := []) (wr := [(h0, .inr (12, [.int 0, .int 0, .long m_above, .long m_under, .ref a_traySort, .ref a_trayMany, .ref a_numbers, .ref a_tape, .int m_taped, .int m_textEnd, .int m_faultKind, .int m_faultAt, .int m_bad, .int m_badAt, .int m_token, .int m_at, .int m_behind, .int m_number, .int m_letters, .long m_word, .ref a_c, .ref a_words, .int m_markMany, .ref a_there, .ref a_tried, .ref a_best, .ref a_found, .int n_22, .int m_foundMany, .int m_orderHow, .int m_orderRing, .int m_orderMany, .int m_hasBest, .long m_bestTop, .long m_bestBy, .ref a_weights, .ref a_shared, .int m_random, .int m_truePlace, .int m_trueWay, .int m_seconds, .int m_done, .int m_feelings, .int m_tries, .int m_leftOver, .int m_playDoor, .int m_playRing, .int m_isOpen, .int m_isOver, .int m_wasTried, .int m_hasPlayed, .ref a_feltNow, .ref a_last, .ref a_kept, .int m_hasSeconds, .int m_hasTurned, .int m_hasRound, .ref a_hasFeels, .ref a_isOn, .int m_firstAct, .long m_meanTop, .long m_meanBy, .ref a_order, .int m_rowMany, .int m_newSteps])), (a_c, .inl (cA.1 0, 1825, .inl g_c)), (a_there, .inl (cA.1 0, 10, .inl n_23))]) ⟨hx, hb, hml, hown, hts⟩ hK hE hT hP hD hS hA (r_isIn l G cA x_28 0 16) lk_RX12_117 ⟨rfl, rfl⟩ ⟨Nat.le_of_ble_eq_true rfl, Nat.le_of_ble_eq_true rfl⟩ [] [0, 1, 2] rfl rfl (by decide) rfl hl.1 rfl (lv_room (Nat.le_of_ble_eq_true rfl)) dX12_missing_46 ⟨Nat.le_of_ble_eq_true rfl, Nat.le_of_ble_eq_true rfl⟩ (fun r_29 u_30 H locs hw hP hD hS => ?_)
      obtain ⟨he_r_29, hw⟩ := hw
      rcases hw with ⟨rfl, hf_32⟩ | ⟨rfl, hf_33⟩
      · skip
        refine lv_if_eq (tgt := 65) hx hb dX12_missing_49 (by decide) (fun _ => ?_) (fun h9 => absurd (by decide +kernel) h9)
        refine lv_aload_n hx hb dX12_missing_65 rfl (lv_at hl 1 rfl) ?_
        refine lv_iconst (v := 5) hx hb dX12_missing_66 (by decide) ?_
        refine z_callVi (As := [.int 5]) (rest := []) (wr := [(a_c, .inl (cA.1 0, 1825, .inl g_c)), (a_there, .inl (cA.1 0, 10, .inl n_23))]) ⟨hx, hb, hml, hown, hts⟩ hK hE hT hP hD hS hA (r_no l G cA h0 0 0 m_above m_under a_traySort a_trayMany a_numbers a_tape m_taped m_textEnd m_faultKind m_faultAt m_bad m_badAt m_token m_at m_behind m_number m_letters m_word a_c a_words m_markMany a_there a_tried a_best a_found n_22 m_foundMany m_orderHow m_orderRing m_orderMany m_hasBest m_bestTop m_bestBy a_weights a_shared m_random m_truePlace m_trueWay m_seconds m_done m_feelings m_tries m_leftOver m_playDoor m_playRing m_isOpen m_isOver m_wasTried m_hasPlayed a_feltNow a_last a_kept m_hasSeconds m_hasTurned m_hasRound a_hasFeels a_isOn m_firstAct m_meanTop m_meanBy a_order m_rowMany m_newSteps 5) lk_RX12_97 ⟨rfl, rfl⟩ ⟨Nat.le_of_ble_eq_true rfl, Nat.le_of_ble_eq_true rfl⟩ 12 rfl rfl rfl [0] [1, 2] rfl rfl (by decide) rfl hl.1 rfl (lv_room (Nat.le_of_ble_eq_true rfl)) dX12_missing_67 ⟨Nat.le_of_ble_eq_true rfl, Nat.le_of_ble_eq_true rfl⟩ (fun r_35 u_36 H locs hw hP hD hS => ?_)
        obtain ⟨n_34, rfl⟩ : ∃ z, z = u_36 := ⟨_, rfl⟩
        obtain ⟨he_r_35, he_n_34, hw⟩ := hw
        obtain ⟨rfl, -⟩ := hw
        have hpost : ((0 : Int32) = 0 ∧ (0 ≤ (0 : Int32).toInt ∧ (0 : Int32).toInt ≤ 0) ∧ (0 ≤ n_22.toInt ∧ n_22.toInt ≤ 10) ∧ (zRg 10 0 9 n_23)) ∨ ((0 : Int32) = 1 ∧ (0 ≤ n_34.toInt ∧ n_34.toInt ≤ 0) ∧ (0 ≤ (0 : Int32).toInt ∧ (0 : Int32).toInt ≤ 0) ∧ (0 ≤ n_22.toInt ∧ n_22.toInt ≤ 10) ∧ (zRg 10 0 9 n_23)) := (Or.inl ⟨rfl, ⟨(by decide +kernel), hr_n_22, hC_n_23⟩⟩)
        have hX_38 : F_r_missing m_thereMany g_c g_there k d lent t = ((0 : Int32) : Int32) := by
          refine (F_r_missing_s ..).trans ?_
          try (extract_lets -merge -useContext +onlyGivenNames y9; have e9 : x_1 = y9 := (by first | exact he_x_1 | exact he_x_1.symm); clear_value y9; subst e9)
          extract_lets -merge -useContext +onlyGivenNames w9 y9; have e9 : (1 : Int32) = w9 := he_r_2; clear_value w9; subst e9
          refine (if_neg (show ¬ (1 : Int32) = 0 by decide)).trans ?_
          extract_lets -merge -useContext +onlyGivenNames w9 y9; have e9 : (1 : Int32) = w9 := he_r_12; clear_value w9; subst e9
          refine (if_neg (show ¬ (1 : Int32) = 0 by decide)).trans ?_
          extract_lets -merge -useContext +onlyGivenNames w9 y5_0 y5_1 y5_2; have e9 : (r_24, n_22, n_23) = w9 := ((z_tS he_r_24 (z_tS he_n_22 he_n_23.symm))).symm; clear_value w9; subst e9
          try (extract_lets -merge -useContext +onlyGivenNames y9; have e9 : x_28 = y9 := (by first | exact he_x_28 | exact he_x_28.symm); clear_value y9; subst e9)
          extract_lets -merge -useContext +onlyGivenNames w9 y9; have e9 : (0 : Int32) = w9 := he_r_29; clear_value w9; subst e9
          refine (if_pos rfl).trans ?_
          extract_lets -merge -useContext +onlyGivenNames w9 y9_0 y9_1; have e9 : ((0 : Int32), n_34) = w9 := ((z_tS he_r_35 he_n_34.symm)).symm; clear_value w9; subst e9
          exact rfl
        exact hret _ _ _ _ _ _ (n_34, 0, n_22, n_23, m_above, m_under) [2, 0, 1] hP hD hS rfl (by decide) dX12_missing_70 (Or.inl rfl) ⟨(congrArg (fun z9 => z9) hX_38).symm, hpost⟩
      · skip
        refine lv_if_eq (tgt := 65) hx hb dX12_missing_49 (by decide) (fun h9 => absurd h9 (by decide +kernel)) (fun _ => ?_)
        refine lv_iload hx hb dX12_missing_52 (lv_at hl 5 rfl) ?_
        refine lv_i2l (v := (t).toInt64) hx hb dX12_missing_54 rfl ?_
        refine lv_topl (fun x_39 he_x_39 => ?_)
        have hq_x_39 := z_i2l he_x_39
        have hL_t := z_full t
        refine lv_lconst (v := 0) hx hb dX12_missing_55 (by decide) ?_
        refine lv_iload hx hb dX12_missing_56 (lv_at hl 0 rfl) ?_
        refine lv_i2l (v := (r_24).toInt64) hx hb dX12_missing_58 rfl ?_
        refine lv_topl (fun x_40 he_x_40 => ?_)
        have hq_x_40 := z_i2l he_x_40
        have hL_r_24 := z_full r_24
        refine z_callSi (As := [.long x_39, .long 0, .long x_40]) (rest := []) (wr := [(h0, .inr (12, [.int 0, .int 0, .long m_above, .long m_under, .ref a_traySort, .ref a_trayMany, .ref a_numbers, .ref a_tape, .int m_taped, .int m_textEnd, .int m_faultKind, .int m_faultAt, .int m_bad, .int m_badAt, .int m_token, .int m_at, .int m_behind, .int m_number, .int m_letters, .long m_word, .ref a_c, .ref a_words, .int m_markMany, .ref a_there, .ref a_tried, .ref a_best, .ref a_found, .int n_22, .int m_foundMany, .int m_orderHow, .int m_orderRing, .int m_orderMany, .int m_hasBest, .long m_bestTop, .long m_bestBy, .ref a_weights, .ref a_shared, .int m_random, .int m_truePlace, .int m_trueWay, .int m_seconds, .int m_done, .int m_feelings, .int m_tries, .int m_leftOver, .int m_playDoor, .int m_playRing, .int m_isOpen, .int m_isOver, .int m_wasTried, .int m_hasPlayed, .ref a_feltNow, .ref a_last, .ref a_kept, .int m_hasSeconds, .int m_hasTurned, .int m_hasRound, .ref a_hasFeels, .ref a_isOn, .int m_firstAct, .long m_meanTop, .long m_meanBy, .ref a_order, .int m_rowMany, .int m_newSteps])), (a_c, .inl (cA.1 0, 1825, .inl g_c)), (a_there, .inl (cA.1 0, 10, .inl n_23))]) ⟨hx, hb, hml, hown, hts⟩ hK hE hT hP hD hS hA (r_isIn l G cA x_39 0 x_40) lk_RX12_117 ⟨rfl, rfl⟩ ⟨Nat.le_of_ble_eq_true rfl, Nat.le_of_ble_eq_true rfl⟩ [] [0, 1, 2] rfl rfl (by decide) rfl hl.1 rfl (lv_room (Nat.le_of_ble_eq_true rfl)) dX12_missing_59 ⟨Nat.le_of_ble_eq_true rfl, Nat.le_of_ble_eq_true rfl⟩ (fun r_41 u_42 H locs hw hP hD hS => ?_)
        obtain ⟨he_r_41, hw⟩ := hw
        rcases hw with ⟨rfl, hf_44⟩ | ⟨rfl, hf_45⟩
        · skip
          refine lv_if_ne (tgt := 71) hx hb dX12_missing_62 (by decide) (fun h9 => absurd (by decide +kernel) h9) (fun _ => ?_)
          refine lv_aload_n hx hb dX12_missing_65 rfl (lv_at hl 1 rfl) ?_
          refine lv_iconst (v := 5) hx hb dX12_missing_66 (by decide) ?_
          refine z_callVi (As := [.int 5]) (rest := []) (wr := [(a_c, .inl (cA.1 0, 1825, .inl g_c)), (a_there, .inl (cA.1 0, 10, .inl n_23))]) ⟨hx, hb, hml, hown, hts⟩ hK hE hT hP hD hS hA (r_no l G cA h0 0 0 m_above m_under a_traySort a_trayMany a_numbers a_tape m_taped m_textEnd m_faultKind m_faultAt m_bad m_badAt m_token m_at m_behind m_number m_letters m_word a_c a_words m_markMany a_there a_tried a_best a_found n_22 m_foundMany m_orderHow m_orderRing m_orderMany m_hasBest m_bestTop m_bestBy a_weights a_shared m_random m_truePlace m_trueWay m_seconds m_done m_feelings m_tries m_leftOver m_playDoor m_playRing m_isOpen m_isOver m_wasTried m_hasPlayed a_feltNow a_last a_kept m_hasSeconds m_hasTurned m_hasRound a_hasFeels a_isOn m_firstAct m_meanTop m_meanBy a_order m_rowMany m_newSteps 5) lk_RX12_97 ⟨rfl, rfl⟩ ⟨Nat.le_of_ble_eq_true rfl, Nat.le_of_ble_eq_true rfl⟩ 12 rfl rfl rfl [0] [1, 2] rfl rfl (by decide) rfl hl.1 rfl (lv_room (Nat.le_of_ble_eq_true rfl)) dX12_missing_67 ⟨Nat.le_of_ble_eq_true rfl, Nat.le_of_ble_eq_true rfl⟩ (fun r_47 u_48 H locs hw hP hD hS => ?_)
          obtain ⟨n_46, rfl⟩ : ∃ z, z = u_48 := ⟨_, rfl⟩
          obtain ⟨he_r_47, he_n_46, hw⟩ := hw
          obtain ⟨rfl, -⟩ := hw
          have hpost : ((0 : Int32) = 0 ∧ (0 ≤ (0 : Int32).toInt ∧ (0 : Int32).toInt ≤ 0) ∧ (0 ≤ n_22.toInt ∧ n_22.toInt ≤ 10) ∧ (zRg 10 0 9 n_23)) ∨ ((0 : Int32) = 1 ∧ (0 ≤ n_46.toInt ∧ n_46.toInt ≤ 0) ∧ (0 ≤ (0 : Int32).toInt ∧ (0 : Int32).toInt ≤ 0) ∧ (0 ≤ n_22.toInt ∧ n_22.toInt ≤ 10) ∧ (zRg 10 0 9 n_23)) := (Or.inl ⟨rfl, ⟨(by decide +kernel), hr_n_22, hC_n_23⟩⟩)
          have hX_50 : F_r_missing m_thereMany g_c g_there k d lent t = ((0 : Int32) : Int32) := by
            refine (F_r_missing_s ..).trans ?_
            try (extract_lets -merge -useContext +onlyGivenNames y9; have e9 : x_1 = y9 := (by first | exact he_x_1 | exact he_x_1.symm); clear_value y9; subst e9)
            extract_lets -merge -useContext +onlyGivenNames w9 y9; have e9 : (1 : Int32) = w9 := he_r_2; clear_value w9; subst e9
            refine (if_neg (show ¬ (1 : Int32) = 0 by decide)).trans ?_
            extract_lets -merge -useContext +onlyGivenNames w9 y9; have e9 : (1 : Int32) = w9 := he_r_12; clear_value w9; subst e9
            refine (if_neg (show ¬ (1 : Int32) = 0 by decide)).trans ?_
            extract_lets -merge -useContext +onlyGivenNames w9 y5_0 y5_1 y5_2; have e9 : (r_24, n_22, n_23) = w9 := ((z_tS he_r_24 (z_tS he_n_22 he_n_23.symm))).symm; clear_value w9; subst e9
            try (extract_lets -merge -useContext +onlyGivenNames y9; have e9 : x_28 = y9 := (by first | exact he_x_28 | exact he_x_28.symm); clear_value y9; subst e9)
            extract_lets -merge -useContext +onlyGivenNames w9 y9; have e9 : (1 : Int32) = w9 := he_r_29; clear_value w9; subst e9
            refine (if_neg (show ¬ (1 : Int32) = 0 by decide)).trans ?_
            try (extract_lets -merge -useContext +onlyGivenNames y9; have e9 : x_39 = y9 := (by first | exact he_x_39 | exact he_x_39.symm); clear_value y9; subst e9)
            try (extract_lets -merge -useContext +onlyGivenNames y9; have e9 : x_40 = y9 := (by first | exact he_x_40 | exact he_x_40.symm); clear_value y9; subst e9)
            extract_lets -merge -useContext +onlyGivenNames w9 y9; have e9 : (0 : Int32) = w9 := he_r_41; clear_value w9; subst e9
            refine (if_pos rfl).trans ?_
            extract_lets -merge -useContext +onlyGivenNames w9 y13_0 y13_1; have e9 : ((0 : Int32), n_46) = w9 := ((z_tS he_r_47 he_n_46.symm)).symm; clear_value w9; subst e9
            exact rfl
          exact hret _ _ _ _ _ _ (n_46, 0, n_22, n_23, m_above, m_under) [2, 0, 1] hP hD hS rfl (by decide) dX12_missing_70 (Or.inl rfl) ⟨(congrArg (fun z9 => z9) hX_50).symm, hpost⟩
        · skip
          refine lv_if_ne (tgt := 71) hx hb dX12_missing_62 (by decide) (fun _ => ?_) (fun h9 => absurd h9 (by decide +kernel))
          refine lv_aload_n hx hb dX12_missing_71 rfl (lv_at hl 1 rfl) ?_
          refine lv_iload_n hx hb dX12_missing_72 rfl (lv_at hl 2 rfl) ?_
          refine lv_iload_n hx hb dX12_missing_73 rfl (lv_at hl 3 rfl) ?_
          refine z_callVi (As := [.int k, .int d]) (rest := []) (wr := []) ⟨hx, hb, hml, hown, hts⟩ hK hE hT hP hD hS hA (r_isOnly l G cA h0 0 0 m_above m_under a_traySort a_trayMany a_numbers a_tape m_taped m_textEnd m_faultKind m_faultAt m_bad m_badAt m_token m_at m_behind m_number m_letters m_word a_c a_words m_markMany a_there a_tried a_best a_found n_22 m_foundMany m_orderHow m_orderRing m_orderMany m_hasBest m_bestTop m_bestBy a_weights a_shared m_random m_truePlace m_trueWay m_seconds m_done m_feelings m_tries m_leftOver m_playDoor m_playRing m_isOpen m_isOver m_wasTried m_hasPlayed a_feltNow a_last a_kept m_hasSeconds m_hasTurned m_hasRound a_hasFeels a_isOn m_firstAct m_meanTop m_meanBy a_order m_rowMany m_newSteps g_c n_23 k d (by omega) (by omega) hr_n_22 hC_g_c hC_n_23) lk_RX12_479 ⟨rfl, rfl⟩ ⟨Nat.le_of_ble_eq_true rfl, Nat.le_of_ble_eq_true rfl⟩ 12 rfl rfl rfl [0, 1, 2] [] rfl rfl (by decide) rfl hl.1 rfl (lv_room (Nat.le_of_ble_eq_true rfl)) dX12_missing_74 ⟨Nat.le_of_ble_eq_true rfl, Nat.le_of_ble_eq_true rfl⟩ (fun r_53 u_54 H locs hw hP hD hS => ?_)
          obtain ⟨n_51, n_52⟩ := u_54
          try dsimp only at hw
          obtain ⟨he_r_53, he_n_51, he_n_52, hw⟩ := hw
          rcases hw with ⟨rfl, hr_n_51, hC_n_52⟩ | ⟨rfl, hr_n_51, hC_n_52, hf_56⟩
          · skip
            refine lv_if_eq (tgt := 91) hx hb dX12_missing_77 (by decide) (fun _ => ?_) (fun h9 => absurd (by decide +kernel) h9)
            refine lv_aload_n hx hb dX12_missing_91 rfl (lv_at hl 1 rfl) ?_
            refine lv_bipush (v := 9) hx hb dX12_missing_92 (by decide) ?_
            refine z_callVi (As := [.int 9]) (rest := []) (wr := [(a_c, .inl (cA.1 0, 1825, .inl g_c)), (a_there, .inl (cA.1 0, 10, .inl n_52))]) ⟨hx, hb, hml, hown, hts⟩ hK hE hT hP hD hS hA (r_no l G cA h0 0 0 m_above m_under a_traySort a_trayMany a_numbers a_tape m_taped m_textEnd m_faultKind m_faultAt m_bad m_badAt m_token m_at m_behind m_number m_letters m_word a_c a_words m_markMany a_there a_tried a_best a_found n_51 m_foundMany m_orderHow m_orderRing m_orderMany m_hasBest m_bestTop m_bestBy a_weights a_shared m_random m_truePlace m_trueWay m_seconds m_done m_feelings m_tries m_leftOver m_playDoor m_playRing m_isOpen m_isOver m_wasTried m_hasPlayed a_feltNow a_last a_kept m_hasSeconds m_hasTurned m_hasRound a_hasFeels a_isOn m_firstAct m_meanTop m_meanBy a_order m_rowMany m_newSteps 9) lk_RX12_97 ⟨rfl, rfl⟩ ⟨Nat.le_of_ble_eq_true rfl, Nat.le_of_ble_eq_true rfl⟩ 12 rfl rfl rfl [0] [1, 2] rfl rfl (by decide) rfl hl.1 rfl (lv_room (Nat.le_of_ble_eq_true rfl)) dX12_missing_94 ⟨Nat.le_of_ble_eq_true rfl, Nat.le_of_ble_eq_true rfl⟩ (fun r_58 u_59 H locs hw hP hD hS => ?_)
            obtain ⟨n_57, rfl⟩ : ∃ z, z = u_59 := ⟨_, rfl⟩
            obtain ⟨he_r_58, he_n_57, hw⟩ := hw
            obtain ⟨rfl, -⟩ := hw
            have hpost : ((0 : Int32) = 0 ∧ (0 ≤ (0 : Int32).toInt ∧ (0 : Int32).toInt ≤ 0) ∧ (0 ≤ n_51.toInt ∧ n_51.toInt ≤ 10) ∧ (zRg 10 0 9 n_52)) ∨ ((0 : Int32) = 1 ∧ (0 ≤ n_57.toInt ∧ n_57.toInt ≤ 0) ∧ (0 ≤ (0 : Int32).toInt ∧ (0 : Int32).toInt ≤ 0) ∧ (0 ≤ n_51.toInt ∧ n_51.toInt ≤ 10) ∧ (zRg 10 0 9 n_52)) := (Or.inl ⟨rfl, ⟨(by decide +kernel), hr_n_51, hC_n_52⟩⟩)
            have hX_61 : F_r_missing m_thereMany g_c g_there k d lent t = ((0 : Int32) : Int32) := by
              refine (F_r_missing_s ..).trans ?_
              try (extract_lets -merge -useContext +onlyGivenNames y9; have e9 : x_1 = y9 := (by first | exact he_x_1 | exact he_x_1.symm); clear_value y9; subst e9)
              extract_lets -merge -useContext +onlyGivenNames w9 y9; have e9 : (1 : Int32) = w9 := he_r_2; clear_value w9; subst e9
              refine (if_neg (show ¬ (1 : Int32) = 0 by decide)).trans ?_
              extract_lets -merge -useContext +onlyGivenNames w9 y9; have e9 : (1 : Int32) = w9 := he_r_12; clear_value w9; subst e9
              refine (if_neg (show ¬ (1 : Int32) = 0 by decide)).trans ?_
              extract_lets -merge -useContext +onlyGivenNames w9 y5_0 y5_1 y5_2; have e9 : (r_24, n_22, n_23) = w9 := ((z_tS he_r_24 (z_tS he_n_22 he_n_23.symm))).symm; clear_value w9; subst e9
              try (extract_lets -merge -useContext +onlyGivenNames y9; have e9 : x_28 = y9 := (by first | exact he_x_28 | exact he_x_28.symm); clear_value y9; subst e9)
              extract_lets -merge -useContext +onlyGivenNames w9 y9; have e9 : (1 : Int32) = w9 := he_r_29; clear_value w9; subst e9
              refine (if_neg (show ¬ (1 : Int32) = 0 by decide)).trans ?_
              try (extract_lets -merge -useContext +onlyGivenNames y9; have e9 : x_39 = y9 := (by first | exact he_x_39 | exact he_x_39.symm); clear_value y9; subst e9)
              try (extract_lets -merge -useContext +onlyGivenNames y9; have e9 : x_40 = y9 := (by first | exact he_x_40 | exact he_x_40.symm); clear_value y9; subst e9)
              extract_lets -merge -useContext +onlyGivenNames w9 y9; have e9 : (1 : Int32) = w9 := he_r_41; clear_value w9; subst e9
              refine (if_neg (show ¬ (1 : Int32) = 0 by decide)).trans ?_
              extract_lets -merge -useContext +onlyGivenNames w9 y13_0 y13_1 y13_2; have e9 : ((0 : Int32), n_51, n_52) = w9 := ((z_tS he_r_53 (z_tS he_n_51 he_n_52.symm))).symm; clear_value w9; subst e9
              refine (if_pos rfl).trans ?_
              extract_lets -merge -useContext +onlyGivenNames w9 y15_0 y15_1; have e9 : ((0 : Int32), n_57) = w9 := ((z_tS he_r_58 he_n_57.symm)).symm; clear_value w9; subst e9
              exact rfl
            exact hret _ _ _ _ _ _ (n_57, 0, n_51, n_52, m_above, m_under) [2, 0, 1] hP hD hS rfl (by decide) dX12_missing_97 (Or.inl rfl) ⟨(congrArg (fun z9 => z9) hX_61).symm, hpost⟩
          · skip
            have hbe_62 := zBe_IO hf_27 hf_56
            have hn_k_63 : 1 ≤ r_24.toInt ∧ r_24.toInt ≤ 10 := by omega
            have hn_k_64 : 0 ≤ t.toInt ∧ t.toInt ≤ 10 := by omega
            refine lv_if_eq (tgt := 91) hx hb dX12_missing_77 (by decide) (fun h9 => absurd h9 (by decide +kernel)) (fun _ => ?_)
            refine lv_iload_n hx hb dX12_missing_80 rfl (lv_at hl 4 rfl) ?_
            refine lv_if_ne (tgt := 98) hx hb dX12_missing_81 (by decide) (fun c_65 => ?_) (fun c_65 => ?_)
            · have b_66 := z_fneT c_65
              refine lv_aload_n hx hb dX12_missing_98 rfl (lv_at hl 1 rfl) ?_
              refine lv_iload_n hx hb dX12_missing_99 rfl (lv_at hl 4 rfl) ?_
              refine lv_i2l (v := (lent).toInt64) hx hb dX12_missing_100 rfl ?_
              refine lv_topl (fun x_67 he_x_67 => ?_)
              have hq_x_67 := z_i2l he_x_67
              refine lv_iload hx hb dX12_missing_101 (lv_at hl 0 rfl) ?_
              refine lv_i2l (v := (r_24).toInt64) hx hb dX12_missing_103 rfl ?_
              refine lv_topl (fun x_68 he_x_68 => ?_)
              have hq_x_68 := z_i2l he_x_68
              refine lv_lmul hx hb dX12_missing_104 ?_
              refine lv_topl (fun x_69 he_x_69 => ?_)
              have hr_x_69 := z_mulrl he_x_69 (M := 16) (N := 10) (by omega) (by omega) (by decide)
              have hm_x_69 := z_mulpl he_x_69 (M := 16) (N := 10) (by omega) (by omega) (by decide)
              refine lv_iload_n hx hb dX12_missing_105 rfl (lv_at hl 4 rfl) ?_
              refine lv_i2l (v := (lent).toInt64) hx hb dX12_missing_106 rfl ?_
              refine lv_topl (fun x_70 he_x_70 => ?_)
              have hq_x_70 := z_i2l he_x_70
              refine lv_iload hx hb dX12_missing_107 (lv_at hl 0 rfl) ?_
              refine lv_i2l (v := (r_24).toInt64) hx hb dX12_missing_109 rfl ?_
              refine lv_topl (fun x_71 he_x_71 => ?_)
              have hq_x_71 := z_i2l he_x_71
              refine lv_lmul hx hb dX12_missing_110 ?_
              refine lv_topl (fun x_72 he_x_72 => ?_)
              have hr_x_72 := z_mulrl he_x_72 (M := 16) (N := 10) (by omega) (by omega) (by decide)
              have hm_x_72 := z_mulpl he_x_72 (M := 16) (N := 10) (by omega) (by omega) (by decide)
              refine lv_bipush (v := 16) hx hb dX12_missing_111 (by decide) ?_
              refine lv_iload_n hx hb dX12_missing_113 rfl (lv_at hl 4 rfl) ?_
              refine lv_isub hx hb dX12_missing_114 ?_
              refine lv_topi (fun x_73 he_x_73 => ?_)
              have hq_x_73 := z_subq he_x_73 hk_16 (rfl : lent.toInt = _) (by omega) (by omega)
              refine lv_iload hx hb dX12_missing_115 (lv_at hl 0 rfl) ?_
              refine lv_iload hx hb dX12_missing_117 (lv_at hl 5 rfl) ?_
              refine lv_isub hx hb dX12_missing_119 ?_
              refine lv_topi (fun x_74 he_x_74 => ?_)
              have hq_x_74 := z_subq he_x_74 (rfl : r_24.toInt = _) (rfl : t.toInt = _) (by omega) (by omega)
              have hn_k_75 : 0 ≤ x_74.toInt ∧ x_74.toInt ≤ 10 := by omega
              refine lv_imul hx hb dX12_missing_120 ?_
              refine lv_topi (fun x_76 he_x_76 => ?_)
              have hr_x_76 := z_mulr he_x_76 (M := 15) (N := 10) (by omega) (by omega) (by decide)
              have hm_x_76 := z_mulp he_x_76 (M := 15) (N := 10) (by omega) (by omega) (by decide)
              refine lv_i2l (v := (x_76).toInt64) hx hb dX12_missing_121 rfl ?_
              refine lv_topl (fun x_77 he_x_77 => ?_)
              have hq_x_77 := z_i2l he_x_77
              refine lv_ladd hx hb dX12_missing_122 ?_
              refine lv_topl (fun x_78 he_x_78 => ?_)
              have hq_x_78 := z_addql he_x_78 (rfl : x_72.toInt = _) (rfl : x_77.toInt = _) (by omega) (by omega)
              refine z_callVi (As := [.long x_69, .long x_78]) (rest := []) (wr := [(a_c, .inl (cA.1 0, 1825, .inl g_c)), (a_there, .inl (cA.1 0, 10, .inl n_52))]) ⟨hx, hb, hml, hown, hts⟩ hK hE hT hP hD hS hA (r_fraction l G cA h0 0 0 m_above m_under a_traySort a_trayMany a_numbers a_tape m_taped m_textEnd m_faultKind m_faultAt m_bad m_badAt m_token m_at m_behind m_number m_letters m_word a_c a_words m_markMany a_there a_tried a_best a_found n_51 m_foundMany m_orderHow m_orderRing m_orderMany m_hasBest m_bestTop m_bestBy a_weights a_shared m_random m_truePlace m_trueWay m_seconds m_done m_feelings m_tries m_leftOver m_playDoor m_playRing m_isOpen m_isOver m_wasTried m_hasPlayed a_feltNow a_last a_kept m_hasSeconds m_hasTurned m_hasRound a_hasFeels a_isOn m_firstAct m_meanTop m_meanBy a_order m_rowMany m_newSteps x_69 x_78 (by omega)) lk_RX12_352 ⟨rfl, rfl⟩ ⟨Nat.le_of_ble_eq_true rfl, Nat.le_of_ble_eq_true rfl⟩ 12 rfl rfl rfl [0] [1, 2] rfl rfl (by decide) rfl hl.1 rfl (lv_room (Nat.le_of_ble_eq_true rfl)) dX12_missing_123 ⟨Nat.le_of_ble_eq_true rfl, Nat.le_of_ble_eq_true rfl⟩ (fun r_81 u_82 H locs hw hP hD hS => ?_)
              obtain ⟨n_79, n_80⟩ := u_82
              try dsimp only at hw
              obtain ⟨rfl, -⟩ := hw
              have hpost : ((1 : Int32) = 0 ∧ (0 ≤ (0 : Int32).toInt ∧ (0 : Int32).toInt ≤ 0) ∧ (0 ≤ n_51.toInt ∧ n_51.toInt ≤ 10) ∧ (zRg 10 0 9 n_52)) ∨ ((1 : Int32) = 1 ∧ (0 ≤ (0 : Int32).toInt ∧ (0 : Int32).toInt ≤ 0) ∧ (0 ≤ (0 : Int32).toInt ∧ (0 : Int32).toInt ≤ 0) ∧ (0 ≤ n_51.toInt ∧ n_51.toInt ≤ 10) ∧ (zRg 10 0 9 n_52)) := (Or.inr ⟨rfl, ⟨(by decide +kernel), (by decide +kernel), hr_n_51, hC_n_52⟩⟩)
              have hX_83 : F_r_missing m_thereMany g_c g_there k d lent t = ((1 : Int32) : Int32) := by
                refine (F_r_missing_s ..).trans ?_
                try (extract_lets -merge -useContext +onlyGivenNames y9; have e9 : x_1 = y9 := (by first | exact he_x_1 | exact he_x_1.symm); clear_value y9; subst e9)
                extract_lets -merge -useContext +onlyGivenNames w9 y9; have e9 : (1 : Int32) = w9 := he_r_2; clear_value w9; subst e9
                refine (if_neg (show ¬ (1 : Int32) = 0 by decide)).trans ?_
                extract_lets -merge -useContext +onlyGivenNames w9 y9; have e9 : (1 : Int32) = w9 := he_r_12; clear_value w9; subst e9
                refine (if_neg (show ¬ (1 : Int32) = 0 by decide)).trans ?_
                extract_lets -merge -useContext +onlyGivenNames w9 y5_0 y5_1 y5_2; have e9 : (r_24, n_22, n_23) = w9 := ((z_tS he_r_24 (z_tS he_n_22 he_n_23.symm))).symm; clear_value w9; subst e9
                try (extract_lets -merge -useContext +onlyGivenNames y9; have e9 : x_28 = y9 := (by first | exact he_x_28 | exact he_x_28.symm); clear_value y9; subst e9)
                extract_lets -merge -useContext +onlyGivenNames w9 y9; have e9 : (1 : Int32) = w9 := he_r_29; clear_value w9; subst e9
                refine (if_neg (show ¬ (1 : Int32) = 0 by decide)).trans ?_
                try (extract_lets -merge -useContext +onlyGivenNames y9; have e9 : x_39 = y9 := (by first | exact he_x_39 | exact he_x_39.symm); clear_value y9; subst e9)
                try (extract_lets -merge -useContext +onlyGivenNames y9; have e9 : x_40 = y9 := (by first | exact he_x_40 | exact he_x_40.symm); clear_value y9; subst e9)
                extract_lets -merge -useContext +onlyGivenNames w9 y9; have e9 : (1 : Int32) = w9 := he_r_41; clear_value w9; subst e9
                refine (if_neg (show ¬ (1 : Int32) = 0 by decide)).trans ?_
                extract_lets -merge -useContext +onlyGivenNames w9 y13_0 y13_1 y13_2; have e9 : ((1 : Int32), n_51, n_52) = w9 := ((z_tS he_r_53 (z_tS he_n_51 he_n_52.symm))).symm; clear_value w9; subst e9
                refine (if_neg (show ¬ (1 : Int32) = 0 by decide)).trans ?_
                refine (if_neg c_65).trans ?_
                try (extract_lets -merge -useContext +onlyGivenNames y9; have e9 : x_67 = y9 := (by first | exact he_x_67 | exact he_x_67.symm); clear_value y9; subst e9)
                try (extract_lets -merge -useContext +onlyGivenNames y9; have e9 : x_68 = y9 := (by first | exact he_x_68 | exact he_x_68.symm); clear_value y9; subst e9)
                try (extract_lets -merge -useContext +onlyGivenNames y9; have e9 : x_69 = y9 := (by first | exact he_x_69 | exact he_x_69.symm); clear_value y9; subst e9)
                try (extract_lets -merge -useContext +onlyGivenNames y9; have e9 : x_70 = y9 := (by first | exact he_x_70 | exact he_x_70.symm); clear_value y9; subst e9)
                try (extract_lets -merge -useContext +onlyGivenNames y9; have e9 : x_71 = y9 := (by first | exact he_x_71 | exact he_x_71.symm); clear_value y9; subst e9)
                try (extract_lets -merge -useContext +onlyGivenNames y9; have e9 : x_72 = y9 := (by first | exact he_x_72 | exact he_x_72.symm); clear_value y9; subst e9)
                try (extract_lets -merge -useContext +onlyGivenNames y9; have e9 : x_73 = y9 := (by first | exact he_x_73 | exact he_x_73.symm); clear_value y9; subst e9)
                try (extract_lets -merge -useContext +onlyGivenNames y9; have e9 : x_74 = y9 := (by first | exact he_x_74 | exact he_x_74.symm); clear_value y9; subst e9)
                try (extract_lets -merge -useContext +onlyGivenNames y9; have e9 : x_76 = y9 := (by first | exact he_x_76 | exact he_x_76.symm); clear_value y9; subst e9)
                try (extract_lets -merge -useContext +onlyGivenNames y9; have e9 : x_77 = y9 := (by first | exact he_x_77 | exact he_x_77.symm); clear_value y9; subst e9)
                try (extract_lets -merge -useContext +onlyGivenNames y9; have e9 : x_78 = y9 := (by first | exact he_x_78 | exact he_x_78.symm); clear_value y9; subst e9)
                exact rfl
              exact hret _ _ _ _ _ _ (0, 0, n_51, n_52, n_79, n_80) [2, 0, 1] hP hD hS rfl (by decide) dX12_missing_126 (Or.inr rfl) ⟨(congrArg (fun z9 => z9) hX_83).symm, hpost⟩
            · have b_84 := z_feqF c_65
              refine lv_iload hx hb dX12_missing_84 (lv_at hl 5 rfl) ?_
              refine lv_iload hx hb dX12_missing_86 (lv_at hl 0 rfl) ?_
              refine lv_icmp_ne (tgt := 98) hx hb dX12_missing_88 (by decide) (fun c_85 => ?_) (fun c_85 => ?_)
              · have b_86 := z_fneT c_85
                refine lv_aload_n hx hb dX12_missing_98 rfl (lv_at hl 1 rfl) ?_
                refine lv_iload_n hx hb dX12_missing_99 rfl (lv_at hl 4 rfl) ?_
                refine lv_i2l (v := (lent).toInt64) hx hb dX12_missing_100 rfl ?_
                refine lv_topl (fun x_87 he_x_87 => ?_)
                have hq_x_87 := z_i2l he_x_87
                refine lv_iload hx hb dX12_missing_101 (lv_at hl 0 rfl) ?_
                refine lv_i2l (v := (r_24).toInt64) hx hb dX12_missing_103 rfl ?_
                refine lv_topl (fun x_88 he_x_88 => ?_)
                have hq_x_88 := z_i2l he_x_88
                refine lv_lmul hx hb dX12_missing_104 ?_
                refine lv_topl (fun x_89 he_x_89 => ?_)
                have hq_x_89 := z_mulql he_x_89 (by omega : x_87.toInt = 0) (rfl : x_88.toInt = _) (by omega) (by omega)
                refine lv_iload_n hx hb dX12_missing_105 rfl (lv_at hl 4 rfl) ?_
                refine lv_i2l (v := (lent).toInt64) hx hb dX12_missing_106 rfl ?_
                refine lv_topl (fun x_90 he_x_90 => ?_)
                have hq_x_90 := z_i2l he_x_90
                refine lv_iload hx hb dX12_missing_107 (lv_at hl 0 rfl) ?_
                refine lv_i2l (v := (r_24).toInt64) hx hb dX12_missing_109 rfl ?_
                refine lv_topl (fun x_91 he_x_91 => ?_)
                have hq_x_91 := z_i2l he_x_91
                refine lv_lmul hx hb dX12_missing_110 ?_
                refine lv_topl (fun x_92 he_x_92 => ?_)
                have hq_x_92 := z_mulql he_x_92 (by omega : x_90.toInt = 0) (rfl : x_91.toInt = _) (by omega) (by omega)
                refine lv_bipush (v := 16) hx hb dX12_missing_111 (by decide) ?_
                refine lv_iload_n hx hb dX12_missing_113 rfl (lv_at hl 4 rfl) ?_
                refine lv_isub hx hb dX12_missing_114 ?_
                refine lv_topi (fun x_93 he_x_93 => ?_)
                have hq_x_93 := z_subq he_x_93 hk_16 (rfl : lent.toInt = _) (by omega) (by omega)
                refine lv_iload hx hb dX12_missing_115 (lv_at hl 0 rfl) ?_
                refine lv_iload hx hb dX12_missing_117 (lv_at hl 5 rfl) ?_
                refine lv_isub hx hb dX12_missing_119 ?_
                refine lv_topi (fun x_94 he_x_94 => ?_)
                have hq_x_94 := z_subq he_x_94 (rfl : r_24.toInt = _) (rfl : t.toInt = _) (by omega) (by omega)
                have hn_k_95 : 0 ≤ x_94.toInt ∧ x_94.toInt ≤ 10 := by omega
                refine lv_imul hx hb dX12_missing_120 ?_
                refine lv_topi (fun x_96 he_x_96 => ?_)
                have hq_x_96 := z_mulq he_x_96 (by omega : x_93.toInt = 16) (rfl : x_94.toInt = _) (by omega) (by omega)
                refine lv_i2l (v := (x_96).toInt64) hx hb dX12_missing_121 rfl ?_
                refine lv_topl (fun x_97 he_x_97 => ?_)
                have hq_x_97 := z_i2l he_x_97
                refine lv_ladd hx hb dX12_missing_122 ?_
                refine lv_topl (fun x_98 he_x_98 => ?_)
                have hq_x_98 := z_addql he_x_98 (rfl : x_92.toInt = _) (rfl : x_97.toInt = _) (by omega) (by omega)
                refine z_callVi (As := [.long x_89, .long x_98]) (rest := []) (wr := [(a_c, .inl (cA.1 0, 1825, .inl g_c)), (a_there, .inl (cA.1 0, 10, .inl n_52))]) ⟨hx, hb, hml, hown, hts⟩ hK hE hT hP hD hS hA (r_fraction l G cA h0 0 0 m_above m_under a_traySort a_trayMany a_numbers a_tape m_taped m_textEnd m_faultKind m_faultAt m_bad m_badAt m_token m_at m_behind m_number m_letters m_word a_c a_words m_markMany a_there a_tried a_best a_found n_51 m_foundMany m_orderHow m_orderRing m_orderMany m_hasBest m_bestTop m_bestBy a_weights a_shared m_random m_truePlace m_trueWay m_seconds m_done m_feelings m_tries m_leftOver m_playDoor m_playRing m_isOpen m_isOver m_wasTried m_hasPlayed a_feltNow a_last a_kept m_hasSeconds m_hasTurned m_hasRound a_hasFeels a_isOn m_firstAct m_meanTop m_meanBy a_order m_rowMany m_newSteps x_89 x_98 (by omega)) lk_RX12_352 ⟨rfl, rfl⟩ ⟨Nat.le_of_ble_eq_true rfl, Nat.le_of_ble_eq_true rfl⟩ 12 rfl rfl rfl [0] [1, 2] rfl rfl (by decide) rfl hl.1 rfl (lv_room (Nat.le_of_ble_eq_true rfl)) dX12_missing_123 ⟨Nat.le_of_ble_eq_true rfl, Nat.le_of_ble_eq_true rfl⟩ (fun r_101 u_102 H locs hw hP hD hS => ?_)
                obtain ⟨n_99, n_100⟩ := u_102
                try dsimp only at hw
                obtain ⟨rfl, -⟩ := hw
                have hpost : ((1 : Int32) = 0 ∧ (0 ≤ (0 : Int32).toInt ∧ (0 : Int32).toInt ≤ 0) ∧ (0 ≤ n_51.toInt ∧ n_51.toInt ≤ 10) ∧ (zRg 10 0 9 n_52)) ∨ ((1 : Int32) = 1 ∧ (0 ≤ (0 : Int32).toInt ∧ (0 : Int32).toInt ≤ 0) ∧ (0 ≤ (0 : Int32).toInt ∧ (0 : Int32).toInt ≤ 0) ∧ (0 ≤ n_51.toInt ∧ n_51.toInt ≤ 10) ∧ (zRg 10 0 9 n_52)) := (Or.inr ⟨rfl, ⟨(by decide +kernel), (by decide +kernel), hr_n_51, hC_n_52⟩⟩)
                have hX_103 : F_r_missing m_thereMany g_c g_there k d lent t = ((1 : Int32) : Int32) := by
                  refine (F_r_missing_s ..).trans ?_
                  try (extract_lets -merge -useContext +onlyGivenNames y9; have e9 : x_1 = y9 := (by first | exact he_x_1 | exact he_x_1.symm); clear_value y9; subst e9)
                  extract_lets -merge -useContext +onlyGivenNames w9 y9; have e9 : (1 : Int32) = w9 := he_r_2; clear_value w9; subst e9
                  refine (if_neg (show ¬ (1 : Int32) = 0 by decide)).trans ?_
                  extract_lets -merge -useContext +onlyGivenNames w9 y9; have e9 : (1 : Int32) = w9 := he_r_12; clear_value w9; subst e9
                  refine (if_neg (show ¬ (1 : Int32) = 0 by decide)).trans ?_
                  extract_lets -merge -useContext +onlyGivenNames w9 y5_0 y5_1 y5_2; have e9 : (r_24, n_22, n_23) = w9 := ((z_tS he_r_24 (z_tS he_n_22 he_n_23.symm))).symm; clear_value w9; subst e9
                  try (extract_lets -merge -useContext +onlyGivenNames y9; have e9 : x_28 = y9 := (by first | exact he_x_28 | exact he_x_28.symm); clear_value y9; subst e9)
                  extract_lets -merge -useContext +onlyGivenNames w9 y9; have e9 : (1 : Int32) = w9 := he_r_29; clear_value w9; subst e9
                  refine (if_neg (show ¬ (1 : Int32) = 0 by decide)).trans ?_
                  try (extract_lets -merge -useContext +onlyGivenNames y9; have e9 : x_39 = y9 := (by first | exact he_x_39 | exact he_x_39.symm); clear_value y9; subst e9)
                  try (extract_lets -merge -useContext +onlyGivenNames y9; have e9 : x_40 = y9 := (by first | exact he_x_40 | exact he_x_40.symm); clear_value y9; subst e9)
                  extract_lets -merge -useContext +onlyGivenNames w9 y9; have e9 : (1 : Int32) = w9 := he_r_41; clear_value w9; subst e9
                  refine (if_neg (show ¬ (1 : Int32) = 0 by decide)).trans ?_
                  extract_lets -merge -useContext +onlyGivenNames w9 y13_0 y13_1 y13_2; have e9 : ((1 : Int32), n_51, n_52) = w9 := ((z_tS he_r_53 (z_tS he_n_51 he_n_52.symm))).symm; clear_value w9; subst e9
                  refine (if_neg (show ¬ (1 : Int32) = 0 by decide)).trans ?_
                  refine (if_pos c_65).trans ?_
                  refine (if_neg c_85).trans ?_
                  try (extract_lets -merge -useContext +onlyGivenNames y9; have e9 : x_87 = y9 := (by first | exact he_x_87 | exact he_x_87.symm); clear_value y9; subst e9)
                  try (extract_lets -merge -useContext +onlyGivenNames y9; have e9 : x_88 = y9 := (by first | exact he_x_88 | exact he_x_88.symm); clear_value y9; subst e9)
                  try (extract_lets -merge -useContext +onlyGivenNames y9; have e9 : x_89 = y9 := (by first | exact he_x_89 | exact he_x_89.symm); clear_value y9; subst e9)
                  try (extract_lets -merge -useContext +onlyGivenNames y9; have e9 : x_90 = y9 := (by first | exact he_x_90 | exact he_x_90.symm); clear_value y9; subst e9)
                  try (extract_lets -merge -useContext +onlyGivenNames y9; have e9 : x_91 = y9 := (by first | exact he_x_91 | exact he_x_91.symm); clear_value y9; subst e9)
                  try (extract_lets -merge -useContext +onlyGivenNames y9; have e9 : x_92 = y9 := (by first | exact he_x_92 | exact he_x_92.symm); clear_value y9; subst e9)
                  try (extract_lets -merge -useContext +onlyGivenNames y9; have e9 : x_93 = y9 := (by first | exact he_x_93 | exact he_x_93.symm); clear_value y9; subst e9)
                  try (extract_lets -merge -useContext +onlyGivenNames y9; have e9 : x_94 = y9 := (by first | exact he_x_94 | exact he_x_94.symm); clear_value y9; subst e9)
                  try (extract_lets -merge -useContext +onlyGivenNames y9; have e9 : x_96 = y9 := (by first | exact he_x_96 | exact he_x_96.symm); clear_value y9; subst e9)
                  try (extract_lets -merge -useContext +onlyGivenNames y9; have e9 : x_97 = y9 := (by first | exact he_x_97 | exact he_x_97.symm); clear_value y9; subst e9)
                  try (extract_lets -merge -useContext +onlyGivenNames y9; have e9 : x_98 = y9 := (by first | exact he_x_98 | exact he_x_98.symm); clear_value y9; subst e9)
                  exact rfl
                exact hret _ _ _ _ _ _ (0, 0, n_51, n_52, n_99, n_100) [2, 0, 1] hP hD hS rfl (by decide) dX12_missing_126 (Or.inr rfl) ⟨(congrArg (fun z9 => z9) hX_103).symm, hpost⟩
              · have b_104 := z_feqF c_85
                refine lv_aload_n hx hb dX12_missing_91 rfl (lv_at hl 1 rfl) ?_
                refine lv_bipush (v := 9) hx hb dX12_missing_92 (by decide) ?_
                refine z_callVi (As := [.int 9]) (rest := []) (wr := [(a_c, .inl (cA.1 0, 1825, .inl g_c)), (a_there, .inl (cA.1 0, 10, .inl n_52))]) ⟨hx, hb, hml, hown, hts⟩ hK hE hT hP hD hS hA (r_no l G cA h0 0 0 m_above m_under a_traySort a_trayMany a_numbers a_tape m_taped m_textEnd m_faultKind m_faultAt m_bad m_badAt m_token m_at m_behind m_number m_letters m_word a_c a_words m_markMany a_there a_tried a_best a_found n_51 m_foundMany m_orderHow m_orderRing m_orderMany m_hasBest m_bestTop m_bestBy a_weights a_shared m_random m_truePlace m_trueWay m_seconds m_done m_feelings m_tries m_leftOver m_playDoor m_playRing m_isOpen m_isOver m_wasTried m_hasPlayed a_feltNow a_last a_kept m_hasSeconds m_hasTurned m_hasRound a_hasFeels a_isOn m_firstAct m_meanTop m_meanBy a_order m_rowMany m_newSteps 9) lk_RX12_97 ⟨rfl, rfl⟩ ⟨Nat.le_of_ble_eq_true rfl, Nat.le_of_ble_eq_true rfl⟩ 12 rfl rfl rfl [0] [1, 2] rfl rfl (by decide) rfl hl.1 rfl (lv_room (Nat.le_of_ble_eq_true rfl)) dX12_missing_94 ⟨Nat.le_of_ble_eq_true rfl, Nat.le_of_ble_eq_true rfl⟩ (fun r_106 u_107 H locs hw hP hD hS => ?_)
                obtain ⟨n_105, rfl⟩ : ∃ z, z = u_107 := ⟨_, rfl⟩
                obtain ⟨he_r_106, he_n_105, hw⟩ := hw
                obtain ⟨rfl, -⟩ := hw
                have hpost : ((0 : Int32) = 0 ∧ (0 ≤ (0 : Int32).toInt ∧ (0 : Int32).toInt ≤ 0) ∧ (0 ≤ n_51.toInt ∧ n_51.toInt ≤ 10) ∧ (zRg 10 0 9 n_52)) ∨ ((0 : Int32) = 1 ∧ (0 ≤ n_105.toInt ∧ n_105.toInt ≤ 0) ∧ (0 ≤ (0 : Int32).toInt ∧ (0 : Int32).toInt ≤ 0) ∧ (0 ≤ n_51.toInt ∧ n_51.toInt ≤ 10) ∧ (zRg 10 0 9 n_52)) := (Or.inl ⟨rfl, ⟨(by decide +kernel), hr_n_51, hC_n_52⟩⟩)
                have hX_109 : F_r_missing m_thereMany g_c g_there k d lent t = ((0 : Int32) : Int32) := by
                  refine (F_r_missing_s ..).trans ?_
                  try (extract_lets -merge -useContext +onlyGivenNames y9; have e9 : x_1 = y9 := (by first | exact he_x_1 | exact he_x_1.symm); clear_value y9; subst e9)
                  extract_lets -merge -useContext +onlyGivenNames w9 y9; have e9 : (1 : Int32) = w9 := he_r_2; clear_value w9; subst e9
                  refine (if_neg (show ¬ (1 : Int32) = 0 by decide)).trans ?_
                  extract_lets -merge -useContext +onlyGivenNames w9 y9; have e9 : (1 : Int32) = w9 := he_r_12; clear_value w9; subst e9
                  refine (if_neg (show ¬ (1 : Int32) = 0 by decide)).trans ?_
                  extract_lets -merge -useContext +onlyGivenNames w9 y5_0 y5_1 y5_2; have e9 : (r_24, n_22, n_23) = w9 := ((z_tS he_r_24 (z_tS he_n_22 he_n_23.symm))).symm; clear_value w9; subst e9
                  try (extract_lets -merge -useContext +onlyGivenNames y9; have e9 : x_28 = y9 := (by first | exact he_x_28 | exact he_x_28.symm); clear_value y9; subst e9)
                  extract_lets -merge -useContext +onlyGivenNames w9 y9; have e9 : (1 : Int32) = w9 := he_r_29; clear_value w9; subst e9
                  refine (if_neg (show ¬ (1 : Int32) = 0 by decide)).trans ?_
                  try (extract_lets -merge -useContext +onlyGivenNames y9; have e9 : x_39 = y9 := (by first | exact he_x_39 | exact he_x_39.symm); clear_value y9; subst e9)
                  try (extract_lets -merge -useContext +onlyGivenNames y9; have e9 : x_40 = y9 := (by first | exact he_x_40 | exact he_x_40.symm); clear_value y9; subst e9)
                  extract_lets -merge -useContext +onlyGivenNames w9 y9; have e9 : (1 : Int32) = w9 := he_r_41; clear_value w9; subst e9
                  refine (if_neg (show ¬ (1 : Int32) = 0 by decide)).trans ?_
                  extract_lets -merge -useContext +onlyGivenNames w9 y13_0 y13_1 y13_2; have e9 : ((1 : Int32), n_51, n_52) = w9 := ((z_tS he_r_53 (z_tS he_n_51 he_n_52.symm))).symm; clear_value w9; subst e9
                  refine (if_neg (show ¬ (1 : Int32) = 0 by decide)).trans ?_
                  refine (if_pos c_65).trans ?_
                  refine (if_pos c_85).trans ?_
                  extract_lets -merge -useContext +onlyGivenNames w9 y17_0 y17_1; have e9 : ((0 : Int32), n_105) = w9 := ((z_tS he_r_106 he_n_105.symm)).symm; clear_value w9; subst e9
                  exact rfl
                exact hret _ _ _ _ _ _ (n_105, 0, n_51, n_52, m_above, m_under) [2, 0, 1] hP hD hS rfl (by decide) dX12_missing_97 (Or.inl rfl) ⟨(congrArg (fun z9 => z9) hX_109).symm, hpost⟩
set_option maxHeartbeats 40000000 in
set_option maxRecDepth 100000 in
theorem r_soon (l : Launch) (G : va_G) (cA : zCA) (h0 : Nat) (m_status : Int32) (m_thrown : Int32) (m_above : Int64) (m_under : Int64) (a_traySort : Nat) (a_trayMany : Nat) (a_numbers : Nat) (a_tape : Nat) (m_taped : Int32) (m_textEnd : Int32) (m_faultKind : Int32) (m_faultAt : Int32) (m_bad : Int32) (m_badAt : Int32) (m_token : Int32) (m_at : Int32) (m_behind : Int32) (m_number : Int32) (m_letters : Int32) (m_word : Int64) (a_c : Nat) (a_words : Nat) (m_markMany : Int32) (a_there : Nat) (a_tried : Nat) (a_best : Nat) (a_found : Nat) (m_thereMany : Int32) (m_foundMany : Int32) (m_orderHow : Int32) (m_orderRing : Int32) (m_orderMany : Int32) (m_hasBest : Int32) (m_bestTop : Int64) (m_bestBy : Int64) (a_weights : Nat) (a_shared : Nat) (m_random : Int32) (m_truePlace : Int32) (m_trueWay : Int32) (m_seconds : Int32) (m_done : Int32) (m_feelings : Int32) (m_tries : Int32) (m_leftOver : Int32) (m_playDoor : Int32) (m_playRing : Int32) (m_isOpen : Int32) (m_isOver : Int32) (m_wasTried : Int32) (m_hasPlayed : Int32) (a_feltNow : Nat) (a_last : Nat) (a_kept : Nat) (m_hasSeconds : Int32) (m_hasTurned : Int32) (m_hasRound : Int32) (a_hasFeels : Nat) (a_isOn : Nat) (m_firstAct : Int32) (m_meanTop : Int64) (m_meanBy : Int64) (a_order : Nat) (m_rowMany : Int32) (m_newSteps : Int32) (g_c : Nat → Int32) (g_there : Nat → Int32) (k : Int32) (d : Int32) (lent : Int32) (sure : Int32) (hr_m_thereMany : 0 ≤ m_thereMany.toInt ∧ m_thereMany.toInt ≤ 10) (hC_g_c : zC g_c) (hC_g_there : zRg 10 0 9 g_there) : zCi l yX12_soon cX12_soon 7 (some .int) ({ frames := 2, cells := 0, slots := 0, locals := 47 }) G cA [.ref h0, .int k, .int d, .int lent, .int sure] [(h0, .inr (12, [.int m_status, .int m_thrown, .long m_above, .long m_under, .ref a_traySort, .ref a_trayMany, .ref a_numbers, .ref a_tape, .int m_taped, .int m_textEnd, .int m_faultKind, .int m_faultAt, .int m_bad, .int m_badAt, .int m_token, .int m_at, .int m_behind, .int m_number, .int m_letters, .long m_word, .ref a_c, .ref a_words, .int m_markMany, .ref a_there, .ref a_tried, .ref a_best, .ref a_found, .int m_thereMany, .int m_foundMany, .int m_orderHow, .int m_orderRing, .int m_orderMany, .int m_hasBest, .long m_bestTop, .long m_bestBy, .ref a_weights, .ref a_shared, .int m_random, .int m_truePlace, .int m_trueWay, .int m_seconds, .int m_done, .int m_feelings, .int m_tries, .int m_leftOver, .int m_playDoor, .int m_playRing, .int m_isOpen, .int m_isOver, .int m_wasTried, .int m_hasPlayed, .ref a_feltNow, .ref a_last, .ref a_kept, .int m_hasSeconds, .int m_hasTurned, .int m_hasRound, .ref a_hasFeels, .ref a_isOn, .int m_firstAct, .long m_meanTop, .long m_meanBy, .ref a_order, .int m_rowMany, .int m_newSteps])), (a_c, .inl (cA.1 0, 1825, .inl g_c)), (a_there, .inl (cA.1 0, 10, .inl g_there))] (S := Int32 × Int32 × Int32 × (Nat → Int32)) (fun (r : Int32) (u : Int32 × Int32 × Int32 × (Nat → Int32)) => (r = (F_r_soon m_thereMany g_c g_there k d lent sure).1) ∧ (u.1 = (F_r_soon m_thereMany g_c g_there k d lent sure).2.1) ∧ (u.2.1 = (F_r_soon m_thereMany g_c g_there k d lent sure).2.2.1) ∧ (u.2.2.1 = (F_r_soon m_thereMany g_c g_there k d lent sure).2.2.2.1) ∧ (u.2.2.2 = (F_r_soon m_thereMany g_c g_there k d lent sure).2.2.2.2) ∧ (((-1) ≤ r.toInt ∧ r.toInt ≤ 10) ∧ (0 ≤ u.2.1.toInt ∧ u.2.1.toInt ≤ 0) ∧ (0 ≤ u.2.2.1.toInt ∧ u.2.2.1.toInt ≤ 10) ∧ (zRg 10 0 9 u.2.2.2))) (fun (u : Int32 × Int32 × Int32 × (Nat → Int32)) => [(h0, .inr (12, [.int u.1, .int u.2.1, .long m_above, .long m_under, .ref a_traySort, .ref a_trayMany, .ref a_numbers, .ref a_tape, .int m_taped, .int m_textEnd, .int m_faultKind, .int m_faultAt, .int m_bad, .int m_badAt, .int m_token, .int m_at, .int m_behind, .int m_number, .int m_letters, .long m_word, .ref a_c, .ref a_words, .int m_markMany, .ref a_there, .ref a_tried, .ref a_best, .ref a_found, .int u.2.2.1, .int m_foundMany, .int m_orderHow, .int m_orderRing, .int m_orderMany, .int m_hasBest, .long m_bestTop, .long m_bestBy, .ref a_weights, .ref a_shared, .int m_random, .int m_truePlace, .int m_trueWay, .int m_seconds, .int m_done, .int m_feelings, .int m_tries, .int m_leftOver, .int m_playDoor, .int m_playRing, .int m_isOpen, .int m_isOver, .int m_wasTried, .int m_hasPlayed, .ref a_feltNow, .ref a_last, .ref a_kept, .int m_hasSeconds, .int m_hasTurned, .int m_hasRound, .ref a_hasFeels, .ref a_isOn, .int m_firstAct, .long m_meanTop, .long m_meanBy, .ref a_order, .int m_rowMany, .int m_newSteps])), (a_c, .inl (cA.1 0, 1825, .inl g_c)), (a_there, .inl (cA.1 0, 10, .inl u.2.2.2))]) 0 0 := by
  have hk_0 : (0 : Int32).toInt = 0 := by decide +kernel
  have hk_1 : (1 : Int32).toInt = 1 := by decide +kernel
  have hk_2 : (2 : Int32).toInt = 2 := by decide +kernel
  have hk_5 : (5 : Int32).toInt = 5 := by decide +kernel
  have hk_8 : (8 : Int32).toInt = 8 := by decide +kernel
  have hk_9 : (9 : Int32).toInt = 9 := by decide +kernel
  have hk_16 : (16 : Int32).toInt = 16 := by decide +kernel
  have hkl_0 : (0 : Int64).toInt = 0 := by decide +kernel
  have hkl_1 : (1 : Int64).toInt = 1 := by decide +kernel
  have hkl_16 : (16 : Int64).toInt = 16 := by decide +kernel
  refine z_start2i (own := RX12) (by decide) (Nat.le_of_ble_eq_true rfl) rfl ?_
  intro p e s m args below meth c A ls Q hx hb hml hts hown hK hE hT hP hD hS hA hl hret
  have hl : lv_has ls 7 [(0, .ref h0), (1, .int k), (2, .int d), (3, .int lent), (4, .int sure)] := hl
  refine lv_aload_n hx hb dX12_soon_0 rfl (lv_at hl 0 rfl) ?_
  refine lv_iconst (v := 0) hx hb dX12_soon_1 (by decide) ?_
  refine va_put (D := G) (ci := 12) (v := .int 0) (ty := .int) (C := RX12) (T := TX12) (N := 65) hx hb hts inT12 tyX12 tyX12_ok nmX12 hown hK hP hD hS 0 rfl rfl 1 (by decide) (hts _ tw_1886) (fun _ h9 => h9) rfl (tyX12_ok 1 (by decide)) rfl rfl (Nat.le_of_ble_eq_true rfl) dX12_soon_2 (fun H locs hP hD hS => ?_)
  refine lv_aload_n hx hb dX12_soon_5 rfl (lv_at hl 0 rfl) ?_
  refine lv_iconst (v := 0) hx hb dX12_soon_6 (by decide) ?_
  refine va_put (D := G) (ci := 12) (v := .int 0) (ty := .int) (C := RX12) (T := TX12) (N := 65) hx hb hts inT12 tyX12 tyX12_ok nmX12 hown hK hP hD hS 0 rfl rfl 0 (by decide) (hts _ tw_1885) (fun _ h9 => h9) rfl (tyX12_ok 0 (by decide)) rfl rfl (Nat.le_of_ble_eq_true rfl) dX12_soon_7 (fun H locs hP hD hS => ?_)
  refine lv_aload_n hx hb dX12_soon_10 rfl (lv_at hl 0 rfl) ?_
  refine lv_iload_n hx hb dX12_soon_11 rfl (lv_at hl 1 rfl) ?_
  refine lv_i2l (v := (k).toInt64) hx hb dX12_soon_12 rfl ?_
  refine lv_topl (fun x_1 he_x_1 => ?_)
  have hq_x_1 := z_i2l he_x_1
  have hL_k := z_full k
  refine z_callVi (As := [.long x_1]) (rest := []) (wr := [(a_there, .inl (cA.1 0, 10, .inl g_there))]) ⟨hx, hb, hml, hown, hts⟩ hK hE hT hP hD hS hA (r_isKey l G cA h0 0 0 m_above m_under a_traySort a_trayMany a_numbers a_tape m_taped m_textEnd m_faultKind m_faultAt m_bad m_badAt m_token m_at m_behind m_number m_letters m_word a_c a_words m_markMany a_there a_tried a_best a_found m_thereMany m_foundMany m_orderHow m_orderRing m_orderMany m_hasBest m_bestTop m_bestBy a_weights a_shared m_random m_truePlace m_trueWay m_seconds m_done m_feelings m_tries m_leftOver m_playDoor m_playRing m_isOpen m_isOver m_wasTried m_hasPlayed a_feltNow a_last a_kept m_hasSeconds m_hasTurned m_hasRound a_hasFeels a_isOn m_firstAct m_meanTop m_meanBy a_order m_rowMany m_newSteps g_c x_1 hC_g_c) lk_RX12_275 ⟨rfl, rfl⟩ ⟨Nat.le_of_ble_eq_true rfl, Nat.le_of_ble_eq_true rfl⟩ 12 rfl rfl rfl [0, 1] [2] rfl rfl (by decide) rfl hl.1 rfl (lv_room (Nat.le_of_ble_eq_true rfl)) dX12_soon_13 ⟨Nat.le_of_ble_eq_true rfl, Nat.le_of_ble_eq_true rfl⟩ (fun r_2 u_3 H locs hw hP hD hS => ?_)
  obtain ⟨he_r_2, hw⟩ := hw
  rcases hw with ⟨rfl, -⟩ | ⟨rfl, hf_5, hf_6⟩
  · skip
    refine lv_if_eq (tgt := 27) hx hb dX12_soon_16 (by decide) (fun _ => ?_) (fun h9 => absurd (by decide +kernel) h9)
    refine lv_aload_n hx hb dX12_soon_27 rfl (lv_at hl 0 rfl) ?_
    refine lv_iconst (v := 2) hx hb dX12_soon_28 (by decide) ?_
    refine z_callVi (As := [.int 2]) (rest := []) (wr := [(a_there, .inl (cA.1 0, 10, .inl g_there)), (a_c, .inl (cA.1 0, 1825, .inl g_c))]) ⟨hx, hb, hml, hown, hts⟩ hK hE hT hP hD hS hA (r_refuse l G cA h0 0 0 m_above m_under a_traySort a_trayMany a_numbers a_tape m_taped m_textEnd m_faultKind m_faultAt m_bad m_badAt m_token m_at m_behind m_number m_letters m_word a_c a_words m_markMany a_there a_tried a_best a_found m_thereMany m_foundMany m_orderHow m_orderRing m_orderMany m_hasBest m_bestTop m_bestBy a_weights a_shared m_random m_truePlace m_trueWay m_seconds m_done m_feelings m_tries m_leftOver m_playDoor m_playRing m_isOpen m_isOver m_wasTried m_hasPlayed a_feltNow a_last a_kept m_hasSeconds m_hasTurned m_hasRound a_hasFeels a_isOn m_firstAct m_meanTop m_meanBy a_order m_rowMany m_newSteps 2) lk_RX12_269 ⟨rfl, rfl⟩ ⟨Nat.le_of_ble_eq_true rfl, Nat.le_of_ble_eq_true rfl⟩ 12 rfl rfl rfl [1] [0, 2] rfl rfl (by decide) rfl hl.1 rfl (lv_room (Nat.le_of_ble_eq_true rfl)) dX12_soon_29 ⟨Nat.le_of_ble_eq_true rfl, Nat.le_of_ble_eq_true rfl⟩ (fun r_8 u_9 H locs hw hP hD hS => ?_)
    obtain ⟨n_7, rfl⟩ : ∃ z, z = u_9 := ⟨_, rfl⟩
    obtain ⟨he_r_8, he_n_7, hw⟩ := hw
    have hr_r_8 := hw
    have hpost : ((-1) ≤ r_8.toInt ∧ r_8.toInt ≤ 10) ∧ (0 ≤ (0 : Int32).toInt ∧ (0 : Int32).toInt ≤ 0) ∧ (0 ≤ m_thereMany.toInt ∧ m_thereMany.toInt ≤ 10) ∧ (zRg 10 0 9 g_there) := ⟨(z_rgw hr_r_8 (by decide) (by decide)), (by decide +kernel), hr_m_thereMany, hC_g_there⟩
    have hX_11 : F_r_soon m_thereMany g_c g_there k d lent sure = ((r_8, n_7, (0 : Int32), m_thereMany, g_there) : Int32 × Int32 × Int32 × Int32 × (Nat → Int32)) := by
      refine (F_r_soon_s ..).trans ?_
      try (extract_lets -merge -useContext +onlyGivenNames y9; have e9 : x_1 = y9 := (by first | exact he_x_1 | exact he_x_1.symm); clear_value y9; subst e9)
      extract_lets -merge -useContext +onlyGivenNames w9 y9; have e9 : (0 : Int32) = w9 := he_r_2; clear_value w9; subst e9
      refine (if_pos rfl).trans ?_
      extract_lets -merge -useContext +onlyGivenNames w9 y3_0 y3_1; have e9 : (r_8, n_7) = w9 := ((z_tS he_r_8 he_n_7.symm)).symm; clear_value w9; subst e9
      exact rfl
    exact hret _ _ _ _ _ _ (n_7, 0, m_thereMany, g_there) [2, 1, 0] hP hD hS rfl (by decide) dX12_soon_32 ⟨(congrArg (fun z9 => z9.1) hX_11).symm, (congrArg (fun z9 => z9.2.1) hX_11).symm, (congrArg (fun z9 => z9.2.2.1) hX_11).symm, (congrArg (fun z9 => z9.2.2.2.1) hX_11).symm, (congrArg (fun z9 => z9.2.2.2.2) hX_11).symm, hpost⟩
  · skip
    refine lv_if_eq (tgt := 27) hx hb dX12_soon_16 (by decide) (fun h9 => absurd h9 (by decide +kernel)) (fun _ => ?_)
    refine lv_aload_n hx hb dX12_soon_19 rfl (lv_at hl 0 rfl) ?_
    refine lv_iload_n hx hb dX12_soon_20 rfl (lv_at hl 2 rfl) ?_
    refine z_callVi (As := [.int d]) (rest := []) (wr := [(a_there, .inl (cA.1 0, 10, .inl g_there))]) ⟨hx, hb, hml, hown, hts⟩ hK hE hT hP hD hS hA (r_isDoor l G cA h0 0 0 m_above m_under a_traySort a_trayMany a_numbers a_tape m_taped m_textEnd m_faultKind m_faultAt m_bad m_badAt m_token m_at m_behind m_number m_letters m_word a_c a_words m_markMany a_there a_tried a_best a_found m_thereMany m_foundMany m_orderHow m_orderRing m_orderMany m_hasBest m_bestTop m_bestBy a_weights a_shared m_random m_truePlace m_trueWay m_seconds m_done m_feelings m_tries m_leftOver m_playDoor m_playRing m_isOpen m_isOver m_wasTried m_hasPlayed a_feltNow a_last a_kept m_hasSeconds m_hasTurned m_hasRound a_hasFeels a_isOn m_firstAct m_meanTop m_meanBy a_order m_rowMany m_newSteps g_c d hC_g_c) lk_RX12_295 ⟨rfl, rfl⟩ ⟨Nat.le_of_ble_eq_true rfl, Nat.le_of_ble_eq_true rfl⟩ 12 rfl rfl rfl [1, 2] [0] rfl rfl (by decide) rfl hl.1 rfl (lv_room (Nat.le_of_ble_eq_true rfl)) dX12_soon_21 ⟨Nat.le_of_ble_eq_true rfl, Nat.le_of_ble_eq_true rfl⟩ (fun r_12 u_13 H locs hw hP hD hS => ?_)
    obtain ⟨he_r_12, hw⟩ := hw
    rcases hw with ⟨rfl, -⟩ | ⟨rfl, hf_15, hf_16⟩
    · skip
      refine lv_if_ne (tgt := 33) hx hb dX12_soon_24 (by decide) (fun h9 => absurd (by decide +kernel) h9) (fun _ => ?_)
      refine lv_aload_n hx hb dX12_soon_27 rfl (lv_at hl 0 rfl) ?_
      refine lv_iconst (v := 2) hx hb dX12_soon_28 (by decide) ?_
      refine z_callVi (As := [.int 2]) (rest := []) (wr := [(a_there, .inl (cA.1 0, 10, .inl g_there)), (a_c, .inl (cA.1 0, 1825, .inl g_c))]) ⟨hx, hb, hml, hown, hts⟩ hK hE hT hP hD hS hA (r_refuse l G cA h0 0 0 m_above m_under a_traySort a_trayMany a_numbers a_tape m_taped m_textEnd m_faultKind m_faultAt m_bad m_badAt m_token m_at m_behind m_number m_letters m_word a_c a_words m_markMany a_there a_tried a_best a_found m_thereMany m_foundMany m_orderHow m_orderRing m_orderMany m_hasBest m_bestTop m_bestBy a_weights a_shared m_random m_truePlace m_trueWay m_seconds m_done m_feelings m_tries m_leftOver m_playDoor m_playRing m_isOpen m_isOver m_wasTried m_hasPlayed a_feltNow a_last a_kept m_hasSeconds m_hasTurned m_hasRound a_hasFeels a_isOn m_firstAct m_meanTop m_meanBy a_order m_rowMany m_newSteps 2) lk_RX12_269 ⟨rfl, rfl⟩ ⟨Nat.le_of_ble_eq_true rfl, Nat.le_of_ble_eq_true rfl⟩ 12 rfl rfl rfl [1] [0, 2] rfl rfl (by decide) rfl hl.1 rfl (lv_room (Nat.le_of_ble_eq_true rfl)) dX12_soon_29 ⟨Nat.le_of_ble_eq_true rfl, Nat.le_of_ble_eq_true rfl⟩ (fun r_18 u_19 H locs hw hP hD hS => ?_)
      obtain ⟨n_17, rfl⟩ : ∃ z, z = u_19 := ⟨_, rfl⟩
      obtain ⟨he_r_18, he_n_17, hw⟩ := hw
      have hr_r_18 := hw
      have hpost : ((-1) ≤ r_18.toInt ∧ r_18.toInt ≤ 10) ∧ (0 ≤ (0 : Int32).toInt ∧ (0 : Int32).toInt ≤ 0) ∧ (0 ≤ m_thereMany.toInt ∧ m_thereMany.toInt ≤ 10) ∧ (zRg 10 0 9 g_there) := ⟨(z_rgw hr_r_18 (by decide) (by decide)), (by decide +kernel), hr_m_thereMany, hC_g_there⟩
      have hX_21 : F_r_soon m_thereMany g_c g_there k d lent sure = ((r_18, n_17, (0 : Int32), m_thereMany, g_there) : Int32 × Int32 × Int32 × Int32 × (Nat → Int32)) := by
        refine (F_r_soon_s ..).trans ?_
        try (extract_lets -merge -useContext +onlyGivenNames y9; have e9 : x_1 = y9 := (by first | exact he_x_1 | exact he_x_1.symm); clear_value y9; subst e9)
        extract_lets -merge -useContext +onlyGivenNames w9 y9; have e9 : (1 : Int32) = w9 := he_r_2; clear_value w9; subst e9
        refine (if_neg (show ¬ (1 : Int32) = 0 by decide)).trans ?_
        extract_lets -merge -useContext +onlyGivenNames w9 y9; have e9 : (0 : Int32) = w9 := he_r_12; clear_value w9; subst e9
        refine (if_pos rfl).trans ?_
        extract_lets -merge -useContext +onlyGivenNames w9 y5_0 y5_1; have e9 : (r_18, n_17) = w9 := ((z_tS he_r_18 he_n_17.symm)).symm; clear_value w9; subst e9
        exact rfl
      exact hret _ _ _ _ _ _ (n_17, 0, m_thereMany, g_there) [2, 1, 0] hP hD hS rfl (by decide) dX12_soon_32 ⟨(congrArg (fun z9 => z9.1) hX_21).symm, (congrArg (fun z9 => z9.2.1) hX_21).symm, (congrArg (fun z9 => z9.2.2.1) hX_21).symm, (congrArg (fun z9 => z9.2.2.2.1) hX_21).symm, (congrArg (fun z9 => z9.2.2.2.2) hX_21).symm, hpost⟩
    · skip
      refine lv_if_ne (tgt := 33) hx hb dX12_soon_24 (by decide) (fun _ => ?_) (fun h9 => absurd h9 (by decide +kernel))
      refine lv_iload_n hx hb dX12_soon_33 rfl (lv_at hl 3 rfl) ?_
      refine lv_i2l (v := (lent).toInt64) hx hb dX12_soon_34 rfl ?_
      refine lv_topl (fun x_22 he_x_22 => ?_)
      have hq_x_22 := z_i2l he_x_22
      have hL_lent := z_full lent
      refine lv_lconst (v := 0) hx hb dX12_soon_35 (by decide) ?_
      refine lv_ldc2 (v := 16) hx hb hown (hts _ tw_2470) dX12_soon_36 ?_
      refine z_callSi (As := [.long x_22, .long 0, .long 16]) (rest := []) (wr := [(a_there, .inl (cA.1 0, 10, .inl g_there)), (h0, .inr (12, [.int 0, .int 0, .long m_above, .long m_under, .ref a_traySort, .ref a_trayMany, .ref a_numbers, .ref a_tape, .int m_taped, .int m_textEnd, .int m_faultKind, .int m_faultAt, .int m_bad, .int m_badAt, .int m_token, .int m_at, .int m_behind, .int m_number, .int m_letters, .long m_word, .ref a_c, .ref a_words, .int m_markMany, .ref a_there, .ref a_tried, .ref a_best, .ref a_found, .int m_thereMany, .int m_foundMany, .int m_orderHow, .int m_orderRing, .int m_orderMany, .int m_hasBest, .long m_bestTop, .long m_bestBy, .ref a_weights, .ref a_shared, .int m_random, .int m_truePlace, .int m_trueWay, .int m_seconds, .int m_done, .int m_feelings, .int m_tries, .int m_leftOver, .int m_playDoor, .int m_playRing, .int m_isOpen, .int m_isOver, .int m_wasTried, .int m_hasPlayed, .ref a_feltNow, .ref a_last, .ref a_kept, .int m_hasSeconds, .int m_hasTurned, .int m_hasRound, .ref a_hasFeels, .ref a_isOn, .int m_firstAct, .long m_meanTop, .long m_meanBy, .ref a_order, .int m_rowMany, .int m_newSteps])), (a_c, .inl (cA.1 0, 1825, .inl g_c))]) ⟨hx, hb, hml, hown, hts⟩ hK hE hT hP hD hS hA (r_isIn l G cA x_22 0 16) lk_RX12_117 ⟨rfl, rfl⟩ ⟨Nat.le_of_ble_eq_true rfl, Nat.le_of_ble_eq_true rfl⟩ [] [0, 1, 2] rfl rfl (by decide) rfl hl.1 rfl (lv_room (Nat.le_of_ble_eq_true rfl)) dX12_soon_39 ⟨Nat.le_of_ble_eq_true rfl, Nat.le_of_ble_eq_true rfl⟩ (fun r_23 u_24 H locs hw hP hD hS => ?_)
      obtain ⟨he_r_23, hw⟩ := hw
      rcases hw with ⟨rfl, hf_26⟩ | ⟨rfl, hf_27⟩
      · skip
        refine lv_if_eq (tgt := 58) hx hb dX12_soon_42 (by decide) (fun _ => ?_) (fun h9 => absurd (by decide +kernel) h9)
        refine lv_aload_n hx hb dX12_soon_58 rfl (lv_at hl 0 rfl) ?_
        refine lv_iconst (v := 5) hx hb dX12_soon_59 (by decide) ?_
        refine z_callVi (As := [.int 5]) (rest := []) (wr := [(a_there, .inl (cA.1 0, 10, .inl g_there)), (a_c, .inl (cA.1 0, 1825, .inl g_c))]) ⟨hx, hb, hml, hown, hts⟩ hK hE hT hP hD hS hA (r_refuse l G cA h0 0 0 m_above m_under a_traySort a_trayMany a_numbers a_tape m_taped m_textEnd m_faultKind m_faultAt m_bad m_badAt m_token m_at m_behind m_number m_letters m_word a_c a_words m_markMany a_there a_tried a_best a_found m_thereMany m_foundMany m_orderHow m_orderRing m_orderMany m_hasBest m_bestTop m_bestBy a_weights a_shared m_random m_truePlace m_trueWay m_seconds m_done m_feelings m_tries m_leftOver m_playDoor m_playRing m_isOpen m_isOver m_wasTried m_hasPlayed a_feltNow a_last a_kept m_hasSeconds m_hasTurned m_hasRound a_hasFeels a_isOn m_firstAct m_meanTop m_meanBy a_order m_rowMany m_newSteps 5) lk_RX12_269 ⟨rfl, rfl⟩ ⟨Nat.le_of_ble_eq_true rfl, Nat.le_of_ble_eq_true rfl⟩ 12 rfl rfl rfl [1] [0, 2] rfl rfl (by decide) rfl hl.1 rfl (lv_room (Nat.le_of_ble_eq_true rfl)) dX12_soon_60 ⟨Nat.le_of_ble_eq_true rfl, Nat.le_of_ble_eq_true rfl⟩ (fun r_29 u_30 H locs hw hP hD hS => ?_)
        obtain ⟨n_28, rfl⟩ : ∃ z, z = u_30 := ⟨_, rfl⟩
        obtain ⟨he_r_29, he_n_28, hw⟩ := hw
        have hr_r_29 := hw
        have hpost : ((-1) ≤ r_29.toInt ∧ r_29.toInt ≤ 10) ∧ (0 ≤ (0 : Int32).toInt ∧ (0 : Int32).toInt ≤ 0) ∧ (0 ≤ m_thereMany.toInt ∧ m_thereMany.toInt ≤ 10) ∧ (zRg 10 0 9 g_there) := ⟨(z_rgw hr_r_29 (by decide) (by decide)), (by decide +kernel), hr_m_thereMany, hC_g_there⟩
        have hX_32 : F_r_soon m_thereMany g_c g_there k d lent sure = ((r_29, n_28, (0 : Int32), m_thereMany, g_there) : Int32 × Int32 × Int32 × Int32 × (Nat → Int32)) := by
          refine (F_r_soon_s ..).trans ?_
          try (extract_lets -merge -useContext +onlyGivenNames y9; have e9 : x_1 = y9 := (by first | exact he_x_1 | exact he_x_1.symm); clear_value y9; subst e9)
          extract_lets -merge -useContext +onlyGivenNames w9 y9; have e9 : (1 : Int32) = w9 := he_r_2; clear_value w9; subst e9
          refine (if_neg (show ¬ (1 : Int32) = 0 by decide)).trans ?_
          extract_lets -merge -useContext +onlyGivenNames w9 y9; have e9 : (1 : Int32) = w9 := he_r_12; clear_value w9; subst e9
          refine (if_neg (show ¬ (1 : Int32) = 0 by decide)).trans ?_
          try (extract_lets -merge -useContext +onlyGivenNames y9; have e9 : x_22 = y9 := (by first | exact he_x_22 | exact he_x_22.symm); clear_value y9; subst e9)
          extract_lets -merge -useContext +onlyGivenNames w9 y9; have e9 : (0 : Int32) = w9 := he_r_23; clear_value w9; subst e9
          refine (if_pos rfl).trans ?_
          extract_lets -merge -useContext +onlyGivenNames w9 y8_0 y8_1; have e9 : (r_29, n_28) = w9 := ((z_tS he_r_29 he_n_28.symm)).symm; clear_value w9; subst e9
          exact rfl
        exact hret _ _ _ _ _ _ (n_28, 0, m_thereMany, g_there) [2, 1, 0] hP hD hS rfl (by decide) dX12_soon_63 ⟨(congrArg (fun z9 => z9.1) hX_32).symm, (congrArg (fun z9 => z9.2.1) hX_32).symm, (congrArg (fun z9 => z9.2.2.1) hX_32).symm, (congrArg (fun z9 => z9.2.2.2.1) hX_32).symm, (congrArg (fun z9 => z9.2.2.2.2) hX_32).symm, hpost⟩
      · skip
        refine lv_if_eq (tgt := 58) hx hb dX12_soon_42 (by decide) (fun h9 => absurd h9 (by decide +kernel)) (fun _ => ?_)
        refine lv_iload hx hb dX12_soon_45 (lv_at hl 4 rfl) ?_
        refine lv_i2l (v := (sure).toInt64) hx hb dX12_soon_47 rfl ?_
        refine lv_topl (fun x_33 he_x_33 => ?_)
        have hq_x_33 := z_i2l he_x_33
        have hL_sure := z_full sure
        refine lv_lconst (v := 1) hx hb dX12_soon_48 (by decide) ?_
        refine lv_ldc2 (v := 16) hx hb hown (hts _ tw_2470) dX12_soon_49 ?_
        refine z_callSi (As := [.long x_33, .long 1, .long 16]) (rest := []) (wr := [(a_there, .inl (cA.1 0, 10, .inl g_there)), (h0, .inr (12, [.int 0, .int 0, .long m_above, .long m_under, .ref a_traySort, .ref a_trayMany, .ref a_numbers, .ref a_tape, .int m_taped, .int m_textEnd, .int m_faultKind, .int m_faultAt, .int m_bad, .int m_badAt, .int m_token, .int m_at, .int m_behind, .int m_number, .int m_letters, .long m_word, .ref a_c, .ref a_words, .int m_markMany, .ref a_there, .ref a_tried, .ref a_best, .ref a_found, .int m_thereMany, .int m_foundMany, .int m_orderHow, .int m_orderRing, .int m_orderMany, .int m_hasBest, .long m_bestTop, .long m_bestBy, .ref a_weights, .ref a_shared, .int m_random, .int m_truePlace, .int m_trueWay, .int m_seconds, .int m_done, .int m_feelings, .int m_tries, .int m_leftOver, .int m_playDoor, .int m_playRing, .int m_isOpen, .int m_isOver, .int m_wasTried, .int m_hasPlayed, .ref a_feltNow, .ref a_last, .ref a_kept, .int m_hasSeconds, .int m_hasTurned, .int m_hasRound, .ref a_hasFeels, .ref a_isOn, .int m_firstAct, .long m_meanTop, .long m_meanBy, .ref a_order, .int m_rowMany, .int m_newSteps])), (a_c, .inl (cA.1 0, 1825, .inl g_c))]) ⟨hx, hb, hml, hown, hts⟩ hK hE hT hP hD hS hA (r_isIn l G cA x_33 1 16) lk_RX12_117 ⟨rfl, rfl⟩ ⟨Nat.le_of_ble_eq_true rfl, Nat.le_of_ble_eq_true rfl⟩ [] [0, 1, 2] rfl rfl (by decide) rfl hl.1 rfl (lv_room (Nat.le_of_ble_eq_true rfl)) dX12_soon_52 ⟨Nat.le_of_ble_eq_true rfl, Nat.le_of_ble_eq_true rfl⟩ (fun r_34 u_35 H locs hw hP hD hS => ?_)
        obtain ⟨he_r_34, hw⟩ := hw
        rcases hw with ⟨rfl, hf_37⟩ | ⟨rfl, hf_38⟩
        · skip
          refine lv_if_ne (tgt := 64) hx hb dX12_soon_55 (by decide) (fun h9 => absurd (by decide +kernel) h9) (fun _ => ?_)
          refine lv_aload_n hx hb dX12_soon_58 rfl (lv_at hl 0 rfl) ?_
          refine lv_iconst (v := 5) hx hb dX12_soon_59 (by decide) ?_
          refine z_callVi (As := [.int 5]) (rest := []) (wr := [(a_there, .inl (cA.1 0, 10, .inl g_there)), (a_c, .inl (cA.1 0, 1825, .inl g_c))]) ⟨hx, hb, hml, hown, hts⟩ hK hE hT hP hD hS hA (r_refuse l G cA h0 0 0 m_above m_under a_traySort a_trayMany a_numbers a_tape m_taped m_textEnd m_faultKind m_faultAt m_bad m_badAt m_token m_at m_behind m_number m_letters m_word a_c a_words m_markMany a_there a_tried a_best a_found m_thereMany m_foundMany m_orderHow m_orderRing m_orderMany m_hasBest m_bestTop m_bestBy a_weights a_shared m_random m_truePlace m_trueWay m_seconds m_done m_feelings m_tries m_leftOver m_playDoor m_playRing m_isOpen m_isOver m_wasTried m_hasPlayed a_feltNow a_last a_kept m_hasSeconds m_hasTurned m_hasRound a_hasFeels a_isOn m_firstAct m_meanTop m_meanBy a_order m_rowMany m_newSteps 5) lk_RX12_269 ⟨rfl, rfl⟩ ⟨Nat.le_of_ble_eq_true rfl, Nat.le_of_ble_eq_true rfl⟩ 12 rfl rfl rfl [1] [0, 2] rfl rfl (by decide) rfl hl.1 rfl (lv_room (Nat.le_of_ble_eq_true rfl)) dX12_soon_60 ⟨Nat.le_of_ble_eq_true rfl, Nat.le_of_ble_eq_true rfl⟩ (fun r_40 u_41 H locs hw hP hD hS => ?_)
          obtain ⟨n_39, rfl⟩ : ∃ z, z = u_41 := ⟨_, rfl⟩
          obtain ⟨he_r_40, he_n_39, hw⟩ := hw
          have hr_r_40 := hw
          have hpost : ((-1) ≤ r_40.toInt ∧ r_40.toInt ≤ 10) ∧ (0 ≤ (0 : Int32).toInt ∧ (0 : Int32).toInt ≤ 0) ∧ (0 ≤ m_thereMany.toInt ∧ m_thereMany.toInt ≤ 10) ∧ (zRg 10 0 9 g_there) := ⟨(z_rgw hr_r_40 (by decide) (by decide)), (by decide +kernel), hr_m_thereMany, hC_g_there⟩
          have hX_43 : F_r_soon m_thereMany g_c g_there k d lent sure = ((r_40, n_39, (0 : Int32), m_thereMany, g_there) : Int32 × Int32 × Int32 × Int32 × (Nat → Int32)) := by
            refine (F_r_soon_s ..).trans ?_
            try (extract_lets -merge -useContext +onlyGivenNames y9; have e9 : x_1 = y9 := (by first | exact he_x_1 | exact he_x_1.symm); clear_value y9; subst e9)
            extract_lets -merge -useContext +onlyGivenNames w9 y9; have e9 : (1 : Int32) = w9 := he_r_2; clear_value w9; subst e9
            refine (if_neg (show ¬ (1 : Int32) = 0 by decide)).trans ?_
            extract_lets -merge -useContext +onlyGivenNames w9 y9; have e9 : (1 : Int32) = w9 := he_r_12; clear_value w9; subst e9
            refine (if_neg (show ¬ (1 : Int32) = 0 by decide)).trans ?_
            try (extract_lets -merge -useContext +onlyGivenNames y9; have e9 : x_22 = y9 := (by first | exact he_x_22 | exact he_x_22.symm); clear_value y9; subst e9)
            extract_lets -merge -useContext +onlyGivenNames w9 y9; have e9 : (1 : Int32) = w9 := he_r_23; clear_value w9; subst e9
            refine (if_neg (show ¬ (1 : Int32) = 0 by decide)).trans ?_
            try (extract_lets -merge -useContext +onlyGivenNames y9; have e9 : x_33 = y9 := (by first | exact he_x_33 | exact he_x_33.symm); clear_value y9; subst e9)
            extract_lets -merge -useContext +onlyGivenNames w9 y9; have e9 : (0 : Int32) = w9 := he_r_34; clear_value w9; subst e9
            refine (if_pos rfl).trans ?_
            extract_lets -merge -useContext +onlyGivenNames w9 y11_0 y11_1; have e9 : (r_40, n_39) = w9 := ((z_tS he_r_40 he_n_39.symm)).symm; clear_value w9; subst e9
            exact rfl
          exact hret _ _ _ _ _ _ (n_39, 0, m_thereMany, g_there) [2, 1, 0] hP hD hS rfl (by decide) dX12_soon_63 ⟨(congrArg (fun z9 => z9.1) hX_43).symm, (congrArg (fun z9 => z9.2.1) hX_43).symm, (congrArg (fun z9 => z9.2.2.1) hX_43).symm, (congrArg (fun z9 => z9.2.2.2.1) hX_43).symm, (congrArg (fun z9 => z9.2.2.2.2) hX_43).symm, hpost⟩
        · skip
          refine lv_if_ne (tgt := 64) hx hb dX12_soon_55 (by decide) (fun _ => ?_) (fun h9 => absurd h9 (by decide +kernel))
          refine lv_aload_n hx hb dX12_soon_64 rfl (lv_at hl 0 rfl) ?_
          refine lv_iload_n hx hb dX12_soon_65 rfl (lv_at hl 1 rfl) ?_
          refine lv_iload_n hx hb dX12_soon_66 rfl (lv_at hl 2 rfl) ?_
          refine z_callVi (As := [.int k, .int d]) (rest := []) (wr := []) ⟨hx, hb, hml, hown, hts⟩ hK hE hT hP hD hS hA (r_isOnly l G cA h0 0 0 m_above m_under a_traySort a_trayMany a_numbers a_tape m_taped m_textEnd m_faultKind m_faultAt m_bad m_badAt m_token m_at m_behind m_number m_letters m_word a_c a_words m_markMany a_there a_tried a_best a_found m_thereMany m_foundMany m_orderHow m_orderRing m_orderMany m_hasBest m_bestTop m_bestBy a_weights a_shared m_random m_truePlace m_trueWay m_seconds m_done m_feelings m_tries m_leftOver m_playDoor m_playRing m_isOpen m_isOver m_wasTried m_hasPlayed a_feltNow a_last a_kept m_hasSeconds m_hasTurned m_hasRound a_hasFeels a_isOn m_firstAct m_meanTop m_meanBy a_order m_rowMany m_newSteps g_c g_there k d (by omega) (by omega) hr_m_thereMany hC_g_c hC_g_there) lk_RX12_479 ⟨rfl, rfl⟩ ⟨Nat.le_of_ble_eq_true rfl, Nat.le_of_ble_eq_true rfl⟩ 12 rfl rfl rfl [1, 2, 0] [] rfl rfl (by decide) rfl hl.1 rfl (lv_room (Nat.le_of_ble_eq_true rfl)) dX12_soon_67 ⟨Nat.le_of_ble_eq_true rfl, Nat.le_of_ble_eq_true rfl⟩ (fun r_46 u_47 H locs hw hP hD hS => ?_)
          obtain ⟨n_44, n_45⟩ := u_47
          try dsimp only at hw
          obtain ⟨he_r_46, he_n_44, he_n_45, hw⟩ := hw
          rcases hw with ⟨rfl, hr_n_44, hC_n_45⟩ | ⟨rfl, hr_n_44, hC_n_45, hf_49⟩
          · skip
            refine lv_if_ne (tgt := 80) hx hb dX12_soon_70 (by decide) (fun h9 => absurd (by decide +kernel) h9) (fun _ => ?_)
            refine lv_aload_n hx hb dX12_soon_73 rfl (lv_at hl 0 rfl) ?_
            refine lv_bipush (v := 9) hx hb dX12_soon_74 (by decide) ?_
            refine z_callVi (As := [.int 9]) (rest := []) (wr := [(a_c, .inl (cA.1 0, 1825, .inl g_c)), (a_there, .inl (cA.1 0, 10, .inl n_45))]) ⟨hx, hb, hml, hown, hts⟩ hK hE hT hP hD hS hA (r_refuse l G cA h0 0 0 m_above m_under a_traySort a_trayMany a_numbers a_tape m_taped m_textEnd m_faultKind m_faultAt m_bad m_badAt m_token m_at m_behind m_number m_letters m_word a_c a_words m_markMany a_there a_tried a_best a_found n_44 m_foundMany m_orderHow m_orderRing m_orderMany m_hasBest m_bestTop m_bestBy a_weights a_shared m_random m_truePlace m_trueWay m_seconds m_done m_feelings m_tries m_leftOver m_playDoor m_playRing m_isOpen m_isOver m_wasTried m_hasPlayed a_feltNow a_last a_kept m_hasSeconds m_hasTurned m_hasRound a_hasFeels a_isOn m_firstAct m_meanTop m_meanBy a_order m_rowMany m_newSteps 9) lk_RX12_269 ⟨rfl, rfl⟩ ⟨Nat.le_of_ble_eq_true rfl, Nat.le_of_ble_eq_true rfl⟩ 12 rfl rfl rfl [0] [1, 2] rfl rfl (by decide) rfl hl.1 rfl (lv_room (Nat.le_of_ble_eq_true rfl)) dX12_soon_76 ⟨Nat.le_of_ble_eq_true rfl, Nat.le_of_ble_eq_true rfl⟩ (fun r_51 u_52 H locs hw hP hD hS => ?_)
            obtain ⟨n_50, rfl⟩ : ∃ z, z = u_52 := ⟨_, rfl⟩
            obtain ⟨he_r_51, he_n_50, hw⟩ := hw
            have hr_r_51 := hw
            have hpost : ((-1) ≤ r_51.toInt ∧ r_51.toInt ≤ 10) ∧ (0 ≤ (0 : Int32).toInt ∧ (0 : Int32).toInt ≤ 0) ∧ (0 ≤ n_44.toInt ∧ n_44.toInt ≤ 10) ∧ (zRg 10 0 9 n_45) := ⟨(z_rgw hr_r_51 (by decide) (by decide)), (by decide +kernel), hr_n_44, hC_n_45⟩
            have hX_54 : F_r_soon m_thereMany g_c g_there k d lent sure = ((r_51, n_50, (0 : Int32), n_44, n_45) : Int32 × Int32 × Int32 × Int32 × (Nat → Int32)) := by
              refine (F_r_soon_s ..).trans ?_
              try (extract_lets -merge -useContext +onlyGivenNames y9; have e9 : x_1 = y9 := (by first | exact he_x_1 | exact he_x_1.symm); clear_value y9; subst e9)
              extract_lets -merge -useContext +onlyGivenNames w9 y9; have e9 : (1 : Int32) = w9 := he_r_2; clear_value w9; subst e9
              refine (if_neg (show ¬ (1 : Int32) = 0 by decide)).trans ?_
              extract_lets -merge -useContext +onlyGivenNames w9 y9; have e9 : (1 : Int32) = w9 := he_r_12; clear_value w9; subst e9
              refine (if_neg (show ¬ (1 : Int32) = 0 by decide)).trans ?_
              try (extract_lets -merge -useContext +onlyGivenNames y9; have e9 : x_22 = y9 := (by first | exact he_x_22 | exact he_x_22.symm); clear_value y9; subst e9)
              extract_lets -merge -useContext +onlyGivenNames w9 y9; have e9 : (1 : Int32) = w9 := he_r_23; clear_value w9; subst e9
              refine (if_neg (show ¬ (1 : Int32) = 0 by decide)).trans ?_
              try (extract_lets -merge -useContext +onlyGivenNames y9; have e9 : x_33 = y9 := (by first | exact he_x_33 | exact he_x_33.symm); clear_value y9; subst e9)
              extract_lets -merge -useContext +onlyGivenNames w9 y9; have e9 : (1 : Int32) = w9 := he_r_34; clear_value w9; subst e9
              refine (if_neg (show ¬ (1 : Int32) = 0 by decide)).trans ?_
              extract_lets -merge -useContext +onlyGivenNames w9 y11_0 y11_1 y11_2; have e9 : ((0 : Int32), n_44, n_45) = w9 := ((z_tS he_r_46 (z_tS he_n_44 he_n_45.symm))).symm; clear_value w9; subst e9
              refine (if_pos rfl).trans ?_
              extract_lets -merge -useContext +onlyGivenNames w9 y13_0 y13_1; have e9 : (r_51, n_50) = w9 := ((z_tS he_r_51 he_n_50.symm)).symm; clear_value w9; subst e9
              exact rfl
            exact hret _ _ _ _ _ _ (n_50, 0, n_44, n_45) [2, 0, 1] hP hD hS rfl (by decide) dX12_soon_79 ⟨(congrArg (fun z9 => z9.1) hX_54).symm, (congrArg (fun z9 => z9.2.1) hX_54).symm, (congrArg (fun z9 => z9.2.2.1) hX_54).symm, (congrArg (fun z9 => z9.2.2.2.1) hX_54).symm, (congrArg (fun z9 => z9.2.2.2.2) hX_54).symm, hpost⟩
          · skip
            refine lv_if_ne (tgt := 80) hx hb dX12_soon_70 (by decide) (fun _ => ?_) (fun h9 => absurd h9 (by decide +kernel))
            refine lv_iload_n hx hb dX12_soon_80 rfl (lv_at hl 3 rfl) ?_
            refine lv_if_ne (tgt := 91) hx hb dX12_soon_81 (by decide) (fun c_55 => ?_) (fun c_55 => ?_)
            · have b_56 := z_fneT c_55
              refine lv_aload_n hx hb dX12_soon_91 rfl (lv_at hl 0 rfl) ?_
              refine va_get (D := G) (ci := 12) (v := .int n_44) (C := RX12) (T := TX12) (N := 65) hx hb hts inT12 hown hK hP 0 rfl rfl 27 (by decide) (hts _ tw_1912) (fun _ h9 => h9) rfl dX12_soon_92 ?_
              refine lv_istore (lv' := [(5, .int n_44), (0, .ref h0), (1, .int k), (2, .int d), (3, .int lent), (4, .int sure)]) hx hb dX12_soon_95 hl (by decide) rfl (fun ls hl => ?_)
              refine lv_iconst (v := 0) hx hb dX12_soon_97 (by decide) ?_
              refine lv_istore (lv' := [(6, .int 0), (5, .int n_44), (0, .ref h0), (1, .int k), (2, .int d), (3, .int lent), (4, .int sure)]) hx hb dX12_soon_98 hl (by decide) rfl (fun ls hl => ?_)
              have hlp_340 : ∀ (n_L100a : Nat) (v_297 : Int32) (H : Heap) (locs : List Loc) (ls : Array Slot), (2147483647 - v_297.toInt).toNat < n_L100a → (0 ≤ v_297.toInt ∧ v_297.toInt ≤ 10) → (F_r_soon m_thereMany g_c g_there k d lent sure = F_r_soon_L100a lent sure n_44 n_45 n_L100a v_297) → va_P G vwCl [(h0, .inr (12, [.int 0, .int 0, .long m_above, .long m_under, .ref a_traySort, .ref a_trayMany, .ref a_numbers, .ref a_tape, .int m_taped, .int m_textEnd, .int m_faultKind, .int m_faultAt, .int m_bad, .int m_badAt, .int m_token, .int m_at, .int m_behind, .int m_number, .int m_letters, .long m_word, .ref a_c, .ref a_words, .int m_markMany, .ref a_there, .ref a_tried, .ref a_best, .ref a_found, .int n_44, .int m_foundMany, .int m_orderHow, .int m_orderRing, .int m_orderMany, .int m_hasBest, .long m_bestTop, .long m_bestBy, .ref a_weights, .ref a_shared, .int m_random, .int m_truePlace, .int m_trueWay, .int m_seconds, .int m_done, .int m_feelings, .int m_tries, .int m_leftOver, .int m_playDoor, .int m_playRing, .int m_isOpen, .int m_isOver, .int m_wasTried, .int m_hasPlayed, .ref a_feltNow, .ref a_last, .ref a_kept, .int m_hasSeconds, .int m_hasTurned, .int m_hasRound, .ref a_hasFeels, .ref a_isOn, .int m_firstAct, .long m_meanTop, .long m_meanBy, .ref a_order, .int m_rowMany, .int m_newSteps])), (a_c, .inl (cA.1 0, 1825, .inl g_c)), (a_there, .inl (cA.1 0, 10, .inl n_45))] H → va_D A [(h0, .inr (12, [.int 0, .int 0, .long m_above, .long m_under, .ref a_traySort, .ref a_trayMany, .ref a_numbers, .ref a_tape, .int m_taped, .int m_textEnd, .int m_faultKind, .int m_faultAt, .int m_bad, .int m_badAt, .int m_token, .int m_at, .int m_behind, .int m_number, .int m_letters, .long m_word, .ref a_c, .ref a_words, .int m_markMany, .ref a_there, .ref a_tried, .ref a_best, .ref a_found, .int n_44, .int m_foundMany, .int m_orderHow, .int m_orderRing, .int m_orderMany, .int m_hasBest, .long m_bestTop, .long m_bestBy, .ref a_weights, .ref a_shared, .int m_random, .int m_truePlace, .int m_trueWay, .int m_seconds, .int m_done, .int m_feelings, .int m_tries, .int m_leftOver, .int m_playDoor, .int m_playRing, .int m_isOpen, .int m_isOver, .int m_wasTried, .int m_hasPlayed, .ref a_feltNow, .ref a_last, .ref a_kept, .int m_hasSeconds, .int m_hasTurned, .int m_hasRound, .ref a_hasFeels, .ref a_isOn, .int m_firstAct, .long m_meanTop, .long m_meanBy, .ref a_order, .int m_rowMany, .int m_newSteps])), (a_c, .inl (cA.1 0, 1825, .inl g_c)), (a_there, .inl (cA.1 0, 10, .inl n_45))] → va_S A s.heap H locs → lv_has ls 7 [(0, .ref h0), (1, .int k), (2, .int d), (3, .int lent), (4, .int sure), (5, .int n_44), (6, .int v_297)] → W p l e ({ frames := 2, cells := 0, slots := 0, locals := 47 }) s m args below meth c H locs 0 0 Q (F0 m 100 ls []) := by
                intro n_L100a
                induction n_L100a with
                | zero =>
                  intro v_297 H locs ls hmu_hlp_340 hr_v_297 hF_L100a hP hD hS hl
                  exact absurd hmu_hlp_340 (Nat.not_lt_zero _)
                | succ n_L100a ih_341 =>
                  intro v_297 H locs ls hmu_hlp_340 hr_v_297 hF_L100a hP hD hS hl
                  refine lv_iload hx hb dX12_soon_100 (lv_at hl 6 rfl) ?_
                  refine lv_iload hx hb dX12_soon_102 (lv_at hl 5 rfl) ?_
                  refine lv_icmp_ge (tgt := 152) hx hb dX12_soon_104 (by decide) (fun c_342 => ?_) (fun c_342 => ?_)
                  · have b_343 := z_fgeT c_342
                    refine lv_iload hx hb dX12_soon_152 (lv_at hl 5 rfl) ?_
                    have hpost : ((-1) ≤ n_44.toInt ∧ n_44.toInt ≤ 10) ∧ (0 ≤ (0 : Int32).toInt ∧ (0 : Int32).toInt ≤ 0) ∧ (0 ≤ n_44.toInt ∧ n_44.toInt ≤ 10) ∧ (zRg 10 0 9 n_45) := ⟨(z_rgw hr_n_44 (by decide) (by decide)), (by decide +kernel), hr_n_44, hC_n_45⟩
                    have hX_344 : F_r_soon m_thereMany g_c g_there k d lent sure = ((n_44, (0 : Int32), (0 : Int32), n_44, n_45) : Int32 × Int32 × Int32 × Int32 × (Nat → Int32)) := by
                      refine hF_L100a.trans ?_
                      refine (F_r_soon_L100a_s ..).trans ?_
                      refine (if_pos c_342).trans ?_
                      exact rfl
                    exact hret _ _ _ _ _ _ (0, 0, n_44, n_45) [0, 1, 2] hP hD hS rfl (by decide) dX12_soon_154 ⟨(congrArg (fun z9 => z9.1) hX_344).symm, (congrArg (fun z9 => z9.2.1) hX_344).symm, (congrArg (fun z9 => z9.2.2.1) hX_344).symm, (congrArg (fun z9 => z9.2.2.2.1) hX_344).symm, (congrArg (fun z9 => z9.2.2.2.2) hX_344).symm, hpost⟩
                  · have b_345 := z_fltF c_342
                    refine lv_ldc2 (v := 16) hx hb hown (hts _ tw_2470) dX12_soon_107 ?_
                    refine lv_iload_n hx hb dX12_soon_110 rfl (lv_at hl 3 rfl) ?_
                    refine lv_i2l (v := (lent).toInt64) hx hb dX12_soon_111 rfl ?_
                    refine lv_topl (fun x_346 he_x_346 => ?_)
                    have hq_x_346 := z_i2l he_x_346
                    refine lv_lmul hx hb dX12_soon_112 ?_
                    refine lv_topl (fun x_347 he_x_347 => ?_)
                    have hq_x_347 := z_mulql he_x_347 hkl_16 (rfl : x_346.toInt = _) (by omega) (by omega)
                    refine lv_iload hx hb dX12_soon_113 (lv_at hl 5 rfl) ?_
                    refine lv_i2l (v := (n_44).toInt64) hx hb dX12_soon_115 rfl ?_
                    refine lv_topl (fun x_348 he_x_348 => ?_)
                    have hq_x_348 := z_i2l he_x_348
                    refine lv_lmul hx hb dX12_soon_116 ?_
                    refine lv_topl (fun x_349 he_x_349 => ?_)
                    have hr_x_349 := z_mulrl he_x_349 (M := 256) (N := 10) (by omega) (by omega) (by decide)
                    have hm_x_349 := z_mulpl he_x_349 (M := 256) (N := 10) (by omega) (by omega) (by decide)
                    refine lv_iload hx hb dX12_soon_117 (lv_at hl 4 rfl) ?_
                    refine lv_i2l (v := (sure).toInt64) hx hb dX12_soon_119 rfl ?_
                    refine lv_topl (fun x_350 he_x_350 => ?_)
                    have hq_x_350 := z_i2l he_x_350
                    refine lv_iload_n hx hb dX12_soon_120 rfl (lv_at hl 3 rfl) ?_
                    refine lv_i2l (v := (lent).toInt64) hx hb dX12_soon_121 rfl ?_
                    refine lv_topl (fun x_351 he_x_351 => ?_)
                    have hq_x_351 := z_i2l he_x_351
                    refine lv_iload hx hb dX12_soon_122 (lv_at hl 5 rfl) ?_
                    refine lv_i2l (v := (n_44).toInt64) hx hb dX12_soon_124 rfl ?_
                    refine lv_topl (fun x_352 he_x_352 => ?_)
                    have hq_x_352 := z_i2l he_x_352
                    refine lv_lmul hx hb dX12_soon_125 ?_
                    refine lv_topl (fun x_353 he_x_353 => ?_)
                    have hr_x_353 := z_mulrl he_x_353 (M := 16) (N := 10) (by omega) (by omega) (by decide)
                    have hm_x_353 := z_mulpl he_x_353 (M := 16) (N := 10) (by omega) (by omega) (by decide)
                    refine lv_bipush (v := 16) hx hb dX12_soon_126 (by decide) ?_
                    refine lv_iload_n hx hb dX12_soon_128 rfl (lv_at hl 3 rfl) ?_
                    refine lv_isub hx hb dX12_soon_129 ?_
                    refine lv_topi (fun x_354 he_x_354 => ?_)
                    have hq_x_354 := z_subq he_x_354 hk_16 (rfl : lent.toInt = _) (by omega) (by omega)
                    refine lv_iload hx hb dX12_soon_130 (lv_at hl 5 rfl) ?_
                    refine lv_iload hx hb dX12_soon_132 (lv_at hl 6 rfl) ?_
                    refine lv_isub hx hb dX12_soon_134 ?_
                    refine lv_topi (fun x_355 he_x_355 => ?_)
                    have hq_x_355 := z_subq he_x_355 (rfl : n_44.toInt = _) (rfl : v_297.toInt = _) (by omega) (by omega)
                    refine lv_imul hx hb dX12_soon_135 ?_
                    refine lv_topi (fun x_356 he_x_356 => ?_)
                    refine lv_i2l (v := (x_356).toInt64) hx hb dX12_soon_136 rfl ?_
                    refine lv_topl (fun x_357 he_x_357 => ?_)
                    have hq_x_357 := z_i2l he_x_357
                    have hL_x_356 := z_full x_356
                    refine lv_ladd hx hb dX12_soon_137 ?_
                    refine lv_topl (fun x_358 he_x_358 => ?_)
                    have hq_x_358 := z_addql he_x_358 (rfl : x_353.toInt = _) (rfl : x_357.toInt = _) (by omega) (by omega)
                    refine lv_lmul hx hb dX12_soon_138 ?_
                    refine lv_topl (fun x_359 he_x_359 => ?_)
                    refine W.lcmp hx hb dX12_soon_139 ?_
                    refine lv_if_lt (tgt := 146) hx hb dX12_soon_140 (by decide) (fun c_360 => ?_) (fun c_360 => ?_)
                    · have b_361 := z_fltTl c_360
                      obtain ⟨x_362, he_x_362⟩ : ∃ z : Int32, z = v_297 + 1 := ⟨_, rfl⟩
                      have hq_x_362 := z_addq he_x_362 (rfl : v_297.toInt = _) hk_1 (by omega) (by omega)
                      refine lv_iinc (v := x_362) (lv' := [(6, .int x_362), (0, .ref h0), (1, .int k), (2, .int d), (3, .int lent), (4, .int sure), (5, .int n_44)]) hx hb dX12_soon_146 hl (k := 6) rfl ((z_ofi (by decide +kernel)).trans he_x_362.symm) (by decide) rfl (fun ls hl => ?_)
                      refine lv_goto (tgt := 100) hx hb dX12_soon_149 (by decide) ?_
                      have hX_363 : F_r_soon m_thereMany g_c g_there k d lent sure = F_r_soon_L100a lent sure n_44 n_45 n_L100a x_362 := by
                        refine hF_L100a.trans ?_
                        refine (F_r_soon_L100a_s ..).trans ?_
                        refine (if_neg c_342).trans ?_
                        try (extract_lets -merge -useContext +onlyGivenNames y9; have e9 : x_346 = y9 := (by first | exact he_x_346 | exact he_x_346.symm); clear_value y9; subst e9)
                        try (extract_lets -merge -useContext +onlyGivenNames y9; have e9 : x_347 = y9 := (by first | exact he_x_347 | exact he_x_347.symm); clear_value y9; subst e9)
                        try (extract_lets -merge -useContext +onlyGivenNames y9; have e9 : x_348 = y9 := (by first | exact he_x_348 | exact he_x_348.symm); clear_value y9; subst e9)
                        try (extract_lets -merge -useContext +onlyGivenNames y9; have e9 : x_349 = y9 := (by first | exact he_x_349 | exact he_x_349.symm); clear_value y9; subst e9)
                        try (extract_lets -merge -useContext +onlyGivenNames y9; have e9 : x_350 = y9 := (by first | exact he_x_350 | exact he_x_350.symm); clear_value y9; subst e9)
                        try (extract_lets -merge -useContext +onlyGivenNames y9; have e9 : x_351 = y9 := (by first | exact he_x_351 | exact he_x_351.symm); clear_value y9; subst e9)
                        try (extract_lets -merge -useContext +onlyGivenNames y9; have e9 : x_352 = y9 := (by first | exact he_x_352 | exact he_x_352.symm); clear_value y9; subst e9)
                        try (extract_lets -merge -useContext +onlyGivenNames y9; have e9 : x_353 = y9 := (by first | exact he_x_353 | exact he_x_353.symm); clear_value y9; subst e9)
                        try (extract_lets -merge -useContext +onlyGivenNames y9; have e9 : x_354 = y9 := (by first | exact he_x_354 | exact he_x_354.symm); clear_value y9; subst e9)
                        try (extract_lets -merge -useContext +onlyGivenNames y9; have e9 : x_355 = y9 := (by first | exact he_x_355 | exact he_x_355.symm); clear_value y9; subst e9)
                        try (extract_lets -merge -useContext +onlyGivenNames y9; have e9 : x_356 = y9 := (by first | exact he_x_356 | exact he_x_356.symm); clear_value y9; subst e9)
                        try (extract_lets -merge -useContext +onlyGivenNames y9; have e9 : x_357 = y9 := (by first | exact he_x_357 | exact he_x_357.symm); clear_value y9; subst e9)
                        try (extract_lets -merge -useContext +onlyGivenNames y9; have e9 : x_358 = y9 := (by first | exact he_x_358 | exact he_x_358.symm); clear_value y9; subst e9)
                        try (extract_lets -merge -useContext +onlyGivenNames y9; have e9 : x_359 = y9 := (by first | exact he_x_359 | exact he_x_359.symm); clear_value y9; subst e9)
                        refine (if_pos c_360).trans ?_
                        try (extract_lets -merge -useContext +onlyGivenNames y9; have e9 : x_362 = y9 := (by first | exact he_x_362 | exact he_x_362.symm); clear_value y9; subst e9)
                        exact rfl
                      exact ih_341 x_362 H locs ls (by omega) (by omega) hX_363 hP hD hS (lv_sub hl [1, 2, 3, 4, 5, 6, 0] rfl)
                    · have b_364 := z_fgeFl c_360
                      refine lv_iload hx hb dX12_soon_143 (lv_at hl 6 rfl) ?_
                      have hpost : ((-1) ≤ v_297.toInt ∧ v_297.toInt ≤ 10) ∧ (0 ≤ (0 : Int32).toInt ∧ (0 : Int32).toInt ≤ 0) ∧ (0 ≤ n_44.toInt ∧ n_44.toInt ≤ 10) ∧ (zRg 10 0 9 n_45) := ⟨(z_rgw hr_v_297 (by decide) (by decide)), (by decide +kernel), hr_n_44, hC_n_45⟩
                      have hX_365 : F_r_soon m_thereMany g_c g_there k d lent sure = ((v_297, (0 : Int32), (0 : Int32), n_44, n_45) : Int32 × Int32 × Int32 × Int32 × (Nat → Int32)) := by
                        refine hF_L100a.trans ?_
                        refine (F_r_soon_L100a_s ..).trans ?_
                        refine (if_neg c_342).trans ?_
                        try (extract_lets -merge -useContext +onlyGivenNames y9; have e9 : x_346 = y9 := (by first | exact he_x_346 | exact he_x_346.symm); clear_value y9; subst e9)
                        try (extract_lets -merge -useContext +onlyGivenNames y9; have e9 : x_347 = y9 := (by first | exact he_x_347 | exact he_x_347.symm); clear_value y9; subst e9)
                        try (extract_lets -merge -useContext +onlyGivenNames y9; have e9 : x_348 = y9 := (by first | exact he_x_348 | exact he_x_348.symm); clear_value y9; subst e9)
                        try (extract_lets -merge -useContext +onlyGivenNames y9; have e9 : x_349 = y9 := (by first | exact he_x_349 | exact he_x_349.symm); clear_value y9; subst e9)
                        try (extract_lets -merge -useContext +onlyGivenNames y9; have e9 : x_350 = y9 := (by first | exact he_x_350 | exact he_x_350.symm); clear_value y9; subst e9)
                        try (extract_lets -merge -useContext +onlyGivenNames y9; have e9 : x_351 = y9 := (by first | exact he_x_351 | exact he_x_351.symm); clear_value y9; subst e9)
                        try (extract_lets -merge -useContext +onlyGivenNames y9; have e9 : x_352 = y9 := (by first | exact he_x_352 | exact he_x_352.symm); clear_value y9; subst e9)
                        try (extract_lets -merge -useContext +onlyGivenNames y9; have e9 : x_353 = y9 := (by first | exact he_x_353 | exact he_x_353.symm); clear_value y9; subst e9)
                        try (extract_lets -merge -useContext +onlyGivenNames y9; have e9 : x_354 = y9 := (by first | exact he_x_354 | exact he_x_354.symm); clear_value y9; subst e9)
                        try (extract_lets -merge -useContext +onlyGivenNames y9; have e9 : x_355 = y9 := (by first | exact he_x_355 | exact he_x_355.symm); clear_value y9; subst e9)
                        try (extract_lets -merge -useContext +onlyGivenNames y9; have e9 : x_356 = y9 := (by first | exact he_x_356 | exact he_x_356.symm); clear_value y9; subst e9)
                        try (extract_lets -merge -useContext +onlyGivenNames y9; have e9 : x_357 = y9 := (by first | exact he_x_357 | exact he_x_357.symm); clear_value y9; subst e9)
                        try (extract_lets -merge -useContext +onlyGivenNames y9; have e9 : x_358 = y9 := (by first | exact he_x_358 | exact he_x_358.symm); clear_value y9; subst e9)
                        try (extract_lets -merge -useContext +onlyGivenNames y9; have e9 : x_359 = y9 := (by first | exact he_x_359 | exact he_x_359.symm); clear_value y9; subst e9)
                        refine (if_neg c_360).trans ?_
                        exact rfl
                      exact hret _ _ _ _ _ _ (0, 0, n_44, n_45) [0, 1, 2] hP hD hS rfl (by decide) dX12_soon_145 ⟨(congrArg (fun z9 => z9.1) hX_365).symm, (congrArg (fun z9 => z9.2.1) hX_365).symm, (congrArg (fun z9 => z9.2.2.1) hX_365).symm, (congrArg (fun z9 => z9.2.2.2.1) hX_365).symm, (congrArg (fun z9 => z9.2.2.2.2) hX_365).symm, hpost⟩
              have hX_366 : F_r_soon m_thereMany g_c g_there k d lent sure = F_r_soon_L100a lent sure n_44 n_45 ((2147483647 - (0 : Int32).toInt).toNat + 1) (0 : Int32) := by
                refine (F_r_soon_s ..).trans ?_
                try (extract_lets -merge -useContext +onlyGivenNames y9; have e9 : x_1 = y9 := (by first | exact he_x_1 | exact he_x_1.symm); clear_value y9; subst e9)
                extract_lets -merge -useContext +onlyGivenNames w9 y9; have e9 : (1 : Int32) = w9 := he_r_2; clear_value w9; subst e9
                refine (if_neg (show ¬ (1 : Int32) = 0 by decide)).trans ?_
                extract_lets -merge -useContext +onlyGivenNames w9 y9; have e9 : (1 : Int32) = w9 := he_r_12; clear_value w9; subst e9
                refine (if_neg (show ¬ (1 : Int32) = 0 by decide)).trans ?_
                try (extract_lets -merge -useContext +onlyGivenNames y9; have e9 : x_22 = y9 := (by first | exact he_x_22 | exact he_x_22.symm); clear_value y9; subst e9)
                extract_lets -merge -useContext +onlyGivenNames w9 y9; have e9 : (1 : Int32) = w9 := he_r_23; clear_value w9; subst e9
                refine (if_neg (show ¬ (1 : Int32) = 0 by decide)).trans ?_
                try (extract_lets -merge -useContext +onlyGivenNames y9; have e9 : x_33 = y9 := (by first | exact he_x_33 | exact he_x_33.symm); clear_value y9; subst e9)
                extract_lets -merge -useContext +onlyGivenNames w9 y9; have e9 : (1 : Int32) = w9 := he_r_34; clear_value w9; subst e9
                refine (if_neg (show ¬ (1 : Int32) = 0 by decide)).trans ?_
                extract_lets -merge -useContext +onlyGivenNames w9 y11_0 y11_1 y11_2; have e9 : ((1 : Int32), n_44, n_45) = w9 := ((z_tS he_r_46 (z_tS he_n_44 he_n_45.symm))).symm; clear_value w9; subst e9
                refine (if_neg (show ¬ (1 : Int32) = 0 by decide)).trans ?_
                refine (if_neg c_55).trans ?_
                exact rfl
              exact hlp_340 ((2147483647 - (0 : Int32).toInt).toNat + 1) 0 _ _ _ (Nat.lt_succ_self _) (by decide +kernel) hX_366 hP hD hS (lv_sub hl [2, 3, 4, 5, 6, 1, 0] rfl)
            · have b_367 := z_feqF c_55
              refine lv_aload_n hx hb dX12_soon_84 rfl (lv_at hl 0 rfl) ?_
              refine lv_bipush (v := 8) hx hb dX12_soon_85 (by decide) ?_
              refine z_callVi (As := [.int 8]) (rest := []) (wr := [(a_c, .inl (cA.1 0, 1825, .inl g_c)), (a_there, .inl (cA.1 0, 10, .inl n_45))]) ⟨hx, hb, hml, hown, hts⟩ hK hE hT hP hD hS hA (r_refuse l G cA h0 0 0 m_above m_under a_traySort a_trayMany a_numbers a_tape m_taped m_textEnd m_faultKind m_faultAt m_bad m_badAt m_token m_at m_behind m_number m_letters m_word a_c a_words m_markMany a_there a_tried a_best a_found n_44 m_foundMany m_orderHow m_orderRing m_orderMany m_hasBest m_bestTop m_bestBy a_weights a_shared m_random m_truePlace m_trueWay m_seconds m_done m_feelings m_tries m_leftOver m_playDoor m_playRing m_isOpen m_isOver m_wasTried m_hasPlayed a_feltNow a_last a_kept m_hasSeconds m_hasTurned m_hasRound a_hasFeels a_isOn m_firstAct m_meanTop m_meanBy a_order m_rowMany m_newSteps 8) lk_RX12_269 ⟨rfl, rfl⟩ ⟨Nat.le_of_ble_eq_true rfl, Nat.le_of_ble_eq_true rfl⟩ 12 rfl rfl rfl [0] [1, 2] rfl rfl (by decide) rfl hl.1 rfl (lv_room (Nat.le_of_ble_eq_true rfl)) dX12_soon_87 ⟨Nat.le_of_ble_eq_true rfl, Nat.le_of_ble_eq_true rfl⟩ (fun r_369 u_370 H locs hw hP hD hS => ?_)
              obtain ⟨n_368, rfl⟩ : ∃ z, z = u_370 := ⟨_, rfl⟩
              obtain ⟨he_r_369, he_n_368, hw⟩ := hw
              have hr_r_369 := hw
              have hpost : ((-1) ≤ r_369.toInt ∧ r_369.toInt ≤ 10) ∧ (0 ≤ (0 : Int32).toInt ∧ (0 : Int32).toInt ≤ 0) ∧ (0 ≤ n_44.toInt ∧ n_44.toInt ≤ 10) ∧ (zRg 10 0 9 n_45) := ⟨(z_rgw hr_r_369 (by decide) (by decide)), (by decide +kernel), hr_n_44, hC_n_45⟩
              have hX_372 : F_r_soon m_thereMany g_c g_there k d lent sure = ((r_369, n_368, (0 : Int32), n_44, n_45) : Int32 × Int32 × Int32 × Int32 × (Nat → Int32)) := by
                refine (F_r_soon_s ..).trans ?_
                try (extract_lets -merge -useContext +onlyGivenNames y9; have e9 : x_1 = y9 := (by first | exact he_x_1 | exact he_x_1.symm); clear_value y9; subst e9)
                extract_lets -merge -useContext +onlyGivenNames w9 y9; have e9 : (1 : Int32) = w9 := he_r_2; clear_value w9; subst e9
                refine (if_neg (show ¬ (1 : Int32) = 0 by decide)).trans ?_
                extract_lets -merge -useContext +onlyGivenNames w9 y9; have e9 : (1 : Int32) = w9 := he_r_12; clear_value w9; subst e9
                refine (if_neg (show ¬ (1 : Int32) = 0 by decide)).trans ?_
                try (extract_lets -merge -useContext +onlyGivenNames y9; have e9 : x_22 = y9 := (by first | exact he_x_22 | exact he_x_22.symm); clear_value y9; subst e9)
                extract_lets -merge -useContext +onlyGivenNames w9 y9; have e9 : (1 : Int32) = w9 := he_r_23; clear_value w9; subst e9
                refine (if_neg (show ¬ (1 : Int32) = 0 by decide)).trans ?_
                try (extract_lets -merge -useContext +onlyGivenNames y9; have e9 : x_33 = y9 := (by first | exact he_x_33 | exact he_x_33.symm); clear_value y9; subst e9)
                extract_lets -merge -useContext +onlyGivenNames w9 y9; have e9 : (1 : Int32) = w9 := he_r_34; clear_value w9; subst e9
                refine (if_neg (show ¬ (1 : Int32) = 0 by decide)).trans ?_
                extract_lets -merge -useContext +onlyGivenNames w9 y11_0 y11_1 y11_2; have e9 : ((1 : Int32), n_44, n_45) = w9 := ((z_tS he_r_46 (z_tS he_n_44 he_n_45.symm))).symm; clear_value w9; subst e9
                refine (if_neg (show ¬ (1 : Int32) = 0 by decide)).trans ?_
                refine (if_pos c_55).trans ?_
                extract_lets -merge -useContext +onlyGivenNames w9 y14_0 y14_1; have e9 : (r_369, n_368) = w9 := ((z_tS he_r_369 he_n_368.symm)).symm; clear_value w9; subst e9
                exact rfl
              exact hret _ _ _ _ _ _ (n_368, 0, n_44, n_45) [2, 0, 1] hP hD hS rfl (by decide) dX12_soon_90 ⟨(congrArg (fun z9 => z9.1) hX_372).symm, (congrArg (fun z9 => z9.2.1) hX_372).symm, (congrArg (fun z9 => z9.2.2.1) hX_372).symm, (congrArg (fun z9 => z9.2.2.2.1) hX_372).symm, (congrArg (fun z9 => z9.2.2.2.2) hX_372).symm, hpost⟩
set_option maxHeartbeats 40000000 in
set_option maxRecDepth 100000 in
theorem r_insert (l : Launch) (G : va_G) (cA : zCA) (h0 : Nat) (m_status : Int32) (m_thrown : Int32) (m_above : Int64) (m_under : Int64) (a_traySort : Nat) (a_trayMany : Nat) (a_numbers : Nat) (a_tape : Nat) (m_taped : Int32) (m_textEnd : Int32) (m_faultKind : Int32) (m_faultAt : Int32) (m_bad : Int32) (m_badAt : Int32) (m_token : Int32) (m_at : Int32) (m_behind : Int32) (m_number : Int32) (m_letters : Int32) (m_word : Int64) (a_c : Nat) (a_words : Nat) (m_markMany : Int32) (a_there : Nat) (a_tried : Nat) (a_best : Nat) (a_found : Nat) (m_thereMany : Int32) (m_foundMany : Int32) (m_orderHow : Int32) (m_orderRing : Int32) (m_orderMany : Int32) (m_hasBest : Int32) (m_bestTop : Int64) (m_bestBy : Int64) (a_weights : Nat) (a_shared : Nat) (m_random : Int32) (m_truePlace : Int32) (m_trueWay : Int32) (m_seconds : Int32) (m_done : Int32) (m_feelings : Int32) (m_tries : Int32) (m_leftOver : Int32) (m_playDoor : Int32) (m_playRing : Int32) (m_isOpen : Int32) (m_isOver : Int32) (m_wasTried : Int32) (m_hasPlayed : Int32) (a_feltNow : Nat) (a_last : Nat) (a_kept : Nat) (m_hasSeconds : Int32) (m_hasTurned : Int32) (m_hasRound : Int32) (a_hasFeels : Nat) (a_isOn : Nat) (m_firstAct : Int32) (m_meanTop : Int64) (m_meanBy : Int64) (a_order : Nat) (m_rowMany : Int32) (m_newSteps : Int32) (g_c : Nat → Int32) (k : Int32) (r : Int32) (pp : Int32) (hr_k : 0 ≤ k.toInt ∧ k.toInt ≤ 9) (hr_r : 0 ≤ r.toInt ∧ r.toInt ≤ 2) (hr_pp : 0 ≤ pp.toInt ∧ pp.toInt ≤ 10) (hZ_g_c : zC g_c) (hp_0 : r.toInt < (g_c 2).toInt) (hp_1 : k.toInt < (g_c 1).toInt) (hp_2 : pp.toInt ≤ (g_c (95 + r.toInt.toNat)).toInt) (hp_3 : zRO g_c k.toInt (-1)) : zCv l yX12_insert cX12_insert 5 none ({ frames := 0, cells := 0, slots := 0, locals := 0 }) G cA [.ref h0, .int k, .int r, .int pp] [(h0, .inr (12, [.int m_status, .int m_thrown, .long m_above, .long m_under, .ref a_traySort, .ref a_trayMany, .ref a_numbers, .ref a_tape, .int m_taped, .int m_textEnd, .int m_faultKind, .int m_faultAt, .int m_bad, .int m_badAt, .int m_token, .int m_at, .int m_behind, .int m_number, .int m_letters, .long m_word, .ref a_c, .ref a_words, .int m_markMany, .ref a_there, .ref a_tried, .ref a_best, .ref a_found, .int m_thereMany, .int m_foundMany, .int m_orderHow, .int m_orderRing, .int m_orderMany, .int m_hasBest, .long m_bestTop, .long m_bestBy, .ref a_weights, .ref a_shared, .int m_random, .int m_truePlace, .int m_trueWay, .int m_seconds, .int m_done, .int m_feelings, .int m_tries, .int m_leftOver, .int m_playDoor, .int m_playRing, .int m_isOpen, .int m_isOver, .int m_wasTried, .int m_hasPlayed, .ref a_feltNow, .ref a_last, .ref a_kept, .int m_hasSeconds, .int m_hasTurned, .int m_hasRound, .ref a_hasFeels, .ref a_isOn, .int m_firstAct, .long m_meanTop, .long m_meanBy, .ref a_order, .int m_rowMany, .int m_newSteps])), (a_c, .inl (cA.1 0, 1825, .inl g_c))] (S := (Nat → Int32)) (fun (u : (Nat → Int32)) => (u = (F_r_insert g_c k r pp)) ∧ ((zC u) ∧ (zHF g_c u) ∧ (zInP g_c u r.toInt pp.toInt k.toInt))) (fun (u : (Nat → Int32)) => [(h0, .inr (12, [.int m_status, .int m_thrown, .long m_above, .long m_under, .ref a_traySort, .ref a_trayMany, .ref a_numbers, .ref a_tape, .int m_taped, .int m_textEnd, .int m_faultKind, .int m_faultAt, .int m_bad, .int m_badAt, .int m_token, .int m_at, .int m_behind, .int m_number, .int m_letters, .long m_word, .ref a_c, .ref a_words, .int m_markMany, .ref a_there, .ref a_tried, .ref a_best, .ref a_found, .int m_thereMany, .int m_foundMany, .int m_orderHow, .int m_orderRing, .int m_orderMany, .int m_hasBest, .long m_bestTop, .long m_bestBy, .ref a_weights, .ref a_shared, .int m_random, .int m_truePlace, .int m_trueWay, .int m_seconds, .int m_done, .int m_feelings, .int m_tries, .int m_leftOver, .int m_playDoor, .int m_playRing, .int m_isOpen, .int m_isOver, .int m_wasTried, .int m_hasPlayed, .ref a_feltNow, .ref a_last, .ref a_kept, .int m_hasSeconds, .int m_hasTurned, .int m_hasRound, .ref a_hasFeels, .ref a_isOn, .int m_firstAct, .long m_meanTop, .long m_meanBy, .ref a_order, .int m_rowMany, .int m_newSteps])), (a_c, .inl (cA.1 0, 1825, .inl u))]) 0 0 := by
  have hk_m1 : ((-1) : Int32).toInt = (-1) := by decide +kernel
  have hk_1 : (1 : Int32).toInt = 1 := by decide +kernel
  have hk_10 : (10 : Int32).toInt = 10 := by decide +kernel
  have hk_95 : (95 : Int32).toInt = 95 := by decide +kernel
  have hk_98 : (98 : Int32).toInt = 98 := by decide +kernel
  have hC_g_c : zCt g_c := hZ_g_c.1
  refine z_start2v (own := RX12) (by decide) (Nat.le_of_ble_eq_true rfl) rfl ?_
  intro p e s m args below meth c A ls Q hx hb hml hts hown hK hE hT hP hD hS hA hl hret
  have hl : lv_has ls 5 [(0, .ref h0), (1, .int k), (2, .int r), (3, .int pp)] := hl
  refine lv_aload_n hx hb dX12_insert_0 rfl (lv_at hl 0 rfl) ?_
  refine va_get (D := G) (ci := 12) (v := .ref a_c) (C := RX12) (T := TX12) (N := 65) hx hb hts inT12 hown hK hP 0 rfl rfl 20 (by decide) (hts _ tw_1905) (fun _ h9 => h9) rfl dX12_insert_1 ?_
  refine lv_bipush (v := 95) hx hb dX12_insert_4 (by decide) ?_
  refine lv_iload_n hx hb dX12_insert_6 rfl (lv_at hl 2 rfl) ?_
  refine lv_iadd hx hb dX12_insert_7 ?_
  refine lv_topi (fun x_1 he_x_1 => ?_)
  have hq_x_1 := z_addq he_x_1 hk_95 (rfl : r.toInt = _) (by omega) (by omega)
  refine va_iald hx hb hK hP 1 0 rfl rfl (z_inN (by omega) (by omega)) dX12_insert_8 ?_
  refine lv_topi (fun x_2 he_x_2 => ?_)
  have hr_x_2 := z_ctt hC_g_c he_x_2 (a := 95) (b := 97) (lo := 0) (hi := 10) (by decide +kernel) (by decide) (by omega) (by omega)
  have hsz_x_2 := z_sz (r := r.toInt) he_x_2 (by omega) (by omega)
  have hS9 : (g_c (95 + r.toInt.toNat)).toInt ≤ 9 := zRoom hZ_g_c (by omega) (by omega) hp_0 (by omega) hp_1 (zRO_noring hp_3 (by omega) hp_0)
  have hy9 : 0 ≤ x_2.toInt ∧ x_2.toInt ≤ 9 := by omega
  refine lv_istore (lv' := [(4, .int x_2), (0, .ref h0), (1, .int k), (2, .int r), (3, .int pp)]) hx hb dX12_insert_9 hl (by decide) rfl (fun ls hl => ?_)
  have hlp_78 : ∀ (n_L11a : Nat) (v_33 : Int32) (g_34 : Nat → Int32) (H : Heap) (locs : List Loc) (ls : Array Slot), (v_33.toInt + 2147483648).toNat < n_L11a → (0 ≤ v_33.toInt ∧ v_33.toInt ≤ 9) → (zCt g_34) → (zHF g_c g_34) → (pp.toInt ≤ v_33.toInt) → (v_33.toInt ≤ (g_c (95 + r.toInt.toNat)).toInt) → (zShI g_c g_34 (98 + 10 * r.toInt) v_33.toInt (g_c (95 + r.toInt.toNat)).toInt) → (F_r_insert g_c k r pp = F_r_insert_L11a k r pp n_L11a v_33 g_34) → va_P G vwCl [(h0, .inr (12, [.int m_status, .int m_thrown, .long m_above, .long m_under, .ref a_traySort, .ref a_trayMany, .ref a_numbers, .ref a_tape, .int m_taped, .int m_textEnd, .int m_faultKind, .int m_faultAt, .int m_bad, .int m_badAt, .int m_token, .int m_at, .int m_behind, .int m_number, .int m_letters, .long m_word, .ref a_c, .ref a_words, .int m_markMany, .ref a_there, .ref a_tried, .ref a_best, .ref a_found, .int m_thereMany, .int m_foundMany, .int m_orderHow, .int m_orderRing, .int m_orderMany, .int m_hasBest, .long m_bestTop, .long m_bestBy, .ref a_weights, .ref a_shared, .int m_random, .int m_truePlace, .int m_trueWay, .int m_seconds, .int m_done, .int m_feelings, .int m_tries, .int m_leftOver, .int m_playDoor, .int m_playRing, .int m_isOpen, .int m_isOver, .int m_wasTried, .int m_hasPlayed, .ref a_feltNow, .ref a_last, .ref a_kept, .int m_hasSeconds, .int m_hasTurned, .int m_hasRound, .ref a_hasFeels, .ref a_isOn, .int m_firstAct, .long m_meanTop, .long m_meanBy, .ref a_order, .int m_rowMany, .int m_newSteps])), (a_c, .inl (cA.1 0, 1825, .inl g_34))] H → va_D A [(h0, .inr (12, [.int m_status, .int m_thrown, .long m_above, .long m_under, .ref a_traySort, .ref a_trayMany, .ref a_numbers, .ref a_tape, .int m_taped, .int m_textEnd, .int m_faultKind, .int m_faultAt, .int m_bad, .int m_badAt, .int m_token, .int m_at, .int m_behind, .int m_number, .int m_letters, .long m_word, .ref a_c, .ref a_words, .int m_markMany, .ref a_there, .ref a_tried, .ref a_best, .ref a_found, .int m_thereMany, .int m_foundMany, .int m_orderHow, .int m_orderRing, .int m_orderMany, .int m_hasBest, .long m_bestTop, .long m_bestBy, .ref a_weights, .ref a_shared, .int m_random, .int m_truePlace, .int m_trueWay, .int m_seconds, .int m_done, .int m_feelings, .int m_tries, .int m_leftOver, .int m_playDoor, .int m_playRing, .int m_isOpen, .int m_isOver, .int m_wasTried, .int m_hasPlayed, .ref a_feltNow, .ref a_last, .ref a_kept, .int m_hasSeconds, .int m_hasTurned, .int m_hasRound, .ref a_hasFeels, .ref a_isOn, .int m_firstAct, .long m_meanTop, .long m_meanBy, .ref a_order, .int m_rowMany, .int m_newSteps])), (a_c, .inl (cA.1 0, 1825, .inl g_34))] → va_S A s.heap H locs → lv_has ls 5 [(0, .ref h0), (1, .int k), (2, .int r), (3, .int pp), (4, .int v_33)] → W p l e ({ frames := 0, cells := 0, slots := 0, locals := 0 }) s m args below meth c H locs 0 0 Q (F0 m 11 ls []) := by
    intro n_L11a
    induction n_L11a with
    | zero =>
      intro v_33 g_34 H locs ls hmu_hlp_78 hr_v_33 hC_g_34 hs_49 hi_50 hi_51 hi_52 hF_L11a hP hD hS hl
      exact absurd hmu_hlp_78 (Nat.not_lt_zero _)
    | succ n_L11a ih_79 =>
      intro v_33 g_34 H locs ls hmu_hlp_78 hr_v_33 hC_g_34 hs_49 hi_50 hi_51 hi_52 hF_L11a hP hD hS hl
      refine lv_iload hx hb dX12_insert_11 (lv_at hl 4 rfl) ?_
      refine lv_iload_n hx hb dX12_insert_13 rfl (lv_at hl 3 rfl) ?_
      refine lv_icmp_le (tgt := 55) hx hb dX12_insert_14 (by decide) (fun c_80 => ?_) (fun c_80 => ?_)
      · have b_81 := z_fleT c_80
        refine lv_aload_n hx hb dX12_insert_55 rfl (lv_at hl 0 rfl) ?_
        have hn_k_82 : 0 ≤ pp.toInt ∧ pp.toInt ≤ 9 := by omega
        refine va_get (D := G) (ci := 12) (v := .ref a_c) (C := RX12) (T := TX12) (N := 65) hx hb hts inT12 hown hK hP 0 rfl rfl 20 (by decide) (hts _ tw_1905) (fun _ h9 => h9) rfl dX12_insert_56 ?_
        refine lv_bipush (v := 98) hx hb dX12_insert_59 (by decide) ?_
        refine lv_bipush (v := 10) hx hb dX12_insert_61 (by decide) ?_
        refine lv_iload_n hx hb dX12_insert_63 rfl (lv_at hl 2 rfl) ?_
        refine lv_imul hx hb dX12_insert_64 ?_
        refine lv_topi (fun x_83 he_x_83 => ?_)
        have hq_x_83 := z_mulq he_x_83 hk_10 (rfl : r.toInt = _) (by omega) (by omega)
        refine lv_iadd hx hb dX12_insert_65 ?_
        refine lv_topi (fun x_84 he_x_84 => ?_)
        have hq_x_84 := z_addq he_x_84 hk_98 (rfl : x_83.toInt = _) (by omega) (by omega)
        refine lv_iload_n hx hb dX12_insert_66 rfl (lv_at hl 3 rfl) ?_
        refine lv_iadd hx hb dX12_insert_67 ?_
        refine lv_topi (fun x_85 he_x_85 => ?_)
        have hq_x_85 := z_addq he_x_85 (rfl : x_84.toInt = _) (rfl : pp.toInt = _) (by omega) (by omega)
        refine lv_iload_n hx hb dX12_insert_68 rfl (lv_at hl 1 rfl) ?_
        refine z_iast hx hb hK hP hD hS 1 0 rfl rfl (z_inN (by omega) (by omega)) dX12_insert_69 (fun g_86 hg_g_86 H locs hP hD hS => ?_)
        have hC_g_86 := z_ctUt hC_g_34 hg_g_86 (a := 98) (b := 127) (lo := 0) (hi := 9) (by decide +kernel) (by omega) (by omega) (by omega)
        have hs_87 : zHF g_c g_86 := (zHF_upd hs_49 hg_g_86 (a := 98) (b := 127) (by decide) (by omega) (by omega))
        refine lv_aload_n hx hb dX12_insert_70 rfl (lv_at hl 0 rfl) ?_
        refine va_get (D := G) (ci := 12) (v := .ref a_c) (C := RX12) (T := TX12) (N := 65) hx hb hts inT12 hown hK hP 0 rfl rfl 20 (by decide) (hts _ tw_1905) (fun _ h9 => h9) rfl dX12_insert_71 ?_
        refine lv_bipush (v := 95) hx hb dX12_insert_74 (by decide) ?_
        refine lv_iload_n hx hb dX12_insert_76 rfl (lv_at hl 2 rfl) ?_
        refine lv_iadd hx hb dX12_insert_77 ?_
        refine lv_topi (fun x_88 he_x_88 => ?_)
        have hq_x_88 := z_addq he_x_88 hk_95 (rfl : r.toInt = _) (by omega) (by omega)
        refine lv_dup2_11 hx hb dX12_insert_78 rfl rfl ?_
        refine va_iald hx hb hK hP 1 0 rfl rfl (z_inN (by omega) (by omega)) dX12_insert_79 ?_
        refine lv_topi (fun x_89 he_x_89 => ?_)
        have hr_x_89 := z_ctt hC_g_86 he_x_89 (a := 95) (b := 97) (lo := 0) (hi := 10) (by decide +kernel) (by decide) (by omega) (by omega)
        have hxS_x_89 := zInX hi_52 (by omega) (by omega) (by omega) hg_g_86 (by omega) he_x_89 (by omega)
        refine lv_iconst (v := 1) hx hb dX12_insert_80 (by decide) ?_
        refine lv_iadd hx hb dX12_insert_81 ?_
        refine lv_topi (fun x_90 he_x_90 => ?_)
        have hq_x_90 := z_addq he_x_90 (rfl : x_89.toInt = _) hk_1 (by omega) (by omega)
        refine z_iast hx hb hK hP hD hS 1 0 rfl rfl (z_inN (by omega) (by omega)) dX12_insert_82 (fun g_91 hg_g_91 H locs hP hD hS => ?_)
        have hC_g_91 := z_ctUt hC_g_86 hg_g_91 (a := 95) (b := 97) (lo := 0) (hi := 10) (by decide +kernel) (by omega) (by omega) (by omega)
        have hs_92 : zHF g_c g_91 := (zHF_upd hs_87 hg_g_91 (a := 95) (b := 97) (by decide) (by omega) (by omega))
        have hin : zInP g_c g_91 r.toInt pp.toInt k.toInt := zInP_of hi_52 (by omega) (by omega) (by omega) (by omega) (by omega) hg_g_86 (by omega) he_x_89 (by omega) hg_g_91 (by omega) (by omega)
        have hpost : (zC g_91) ∧ (zHF g_c g_91) ∧ (zInP g_c g_91 r.toInt pp.toInt k.toInt) := ⟨(zInP_zC hZ_g_c hC_g_91 hin (by omega) (by omega) (by omega) (by omega) hp_1 (zRO_noring hp_3 (by omega) hp_0) hS9), hs_92, hin⟩
        have hX_93 : F_r_insert g_c k r pp = (g_91 : (Nat → Int32)) := by
          refine hF_L11a.trans ?_
          refine (F_r_insert_L11a_s ..).trans ?_
          refine (if_pos c_80).trans ?_
          try (extract_lets -merge -useContext +onlyGivenNames y9; have e9 : x_83 = y9 := (by first | exact he_x_83 | exact he_x_83.symm); clear_value y9; subst e9)
          try (extract_lets -merge -useContext +onlyGivenNames y9; have e9 : x_84 = y9 := (by first | exact he_x_84 | exact he_x_84.symm); clear_value y9; subst e9)
          try (extract_lets -merge -useContext +onlyGivenNames y9; have e9 : x_85 = y9 := (by first | exact he_x_85 | exact he_x_85.symm); clear_value y9; subst e9)
          try (extract_lets -merge -useContext +onlyGivenNames y9; have e9 : g_86 = y9 := (by first | exact hg_g_86 | exact hg_g_86.symm); clear_value y9; subst e9)
          try (extract_lets -merge -useContext +onlyGivenNames y9; have e9 : x_88 = y9 := (by first | exact he_x_88 | exact he_x_88.symm); clear_value y9; subst e9)
          try (extract_lets -merge -useContext +onlyGivenNames y9; have e9 : x_89 = y9 := (by first | exact he_x_89 | exact he_x_89.symm); clear_value y9; subst e9)
          try (extract_lets -merge -useContext +onlyGivenNames y9; have e9 : x_90 = y9 := (by first | exact he_x_90 | exact he_x_90.symm); clear_value y9; subst e9)
          try (extract_lets -merge -useContext +onlyGivenNames y9; have e9 : g_91 = y9 := (by first | exact hg_g_91 | exact hg_g_91.symm); clear_value y9; subst e9)
          exact rfl
        exact hret _ _ _ _ _ g_91 [0, 1] hP hD hS rfl (by decide) dX12_insert_83 ⟨(congrArg (fun z9 => z9) hX_93).symm, hpost⟩
      · have b_94 := z_fgtF c_80
        refine lv_aload_n hx hb dX12_insert_17 rfl (lv_at hl 0 rfl) ?_
        refine va_get (D := G) (ci := 12) (v := .ref a_c) (C := RX12) (T := TX12) (N := 65) hx hb hts inT12 hown hK hP 0 rfl rfl 20 (by decide) (hts _ tw_1905) (fun _ h9 => h9) rfl dX12_insert_18 ?_
        refine lv_bipush (v := 98) hx hb dX12_insert_21 (by decide) ?_
        refine lv_bipush (v := 10) hx hb dX12_insert_23 (by decide) ?_
        refine lv_iload_n hx hb dX12_insert_25 rfl (lv_at hl 2 rfl) ?_
        refine lv_imul hx hb dX12_insert_26 ?_
        refine lv_topi (fun x_95 he_x_95 => ?_)
        have hq_x_95 := z_mulq he_x_95 hk_10 (rfl : r.toInt = _) (by omega) (by omega)
        refine lv_iadd hx hb dX12_insert_27 ?_
        refine lv_topi (fun x_96 he_x_96 => ?_)
        have hq_x_96 := z_addq he_x_96 hk_98 (rfl : x_95.toInt = _) (by omega) (by omega)
        refine lv_iload hx hb dX12_insert_28 (lv_at hl 4 rfl) ?_
        refine lv_iadd hx hb dX12_insert_30 ?_
        refine lv_topi (fun x_97 he_x_97 => ?_)
        have hq_x_97 := z_addq he_x_97 (rfl : x_96.toInt = _) (rfl : v_33.toInt = _) (by omega) (by omega)
        refine lv_aload_n hx hb dX12_insert_31 rfl (lv_at hl 0 rfl) ?_
        refine va_get (D := G) (ci := 12) (v := .ref a_c) (C := RX12) (T := TX12) (N := 65) hx hb hts inT12 hown hK hP 0 rfl rfl 20 (by decide) (hts _ tw_1905) (fun _ h9 => h9) rfl dX12_insert_32 ?_
        refine lv_bipush (v := 98) hx hb dX12_insert_35 (by decide) ?_
        refine lv_bipush (v := 10) hx hb dX12_insert_37 (by decide) ?_
        refine lv_iload_n hx hb dX12_insert_39 rfl (lv_at hl 2 rfl) ?_
        refine lv_imul hx hb dX12_insert_40 ?_
        refine lv_topi (fun x_98 he_x_98 => ?_)
        have hq_x_98 := z_mulq he_x_98 hk_10 (rfl : r.toInt = _) (by omega) (by omega)
        refine lv_iadd hx hb dX12_insert_41 ?_
        refine lv_topi (fun x_99 he_x_99 => ?_)
        have hq_x_99 := z_addq he_x_99 hk_98 (rfl : x_98.toInt = _) (by omega) (by omega)
        refine lv_iload hx hb dX12_insert_42 (lv_at hl 4 rfl) ?_
        refine lv_iadd hx hb dX12_insert_44 ?_
        refine lv_topi (fun x_100 he_x_100 => ?_)
        have hq_x_100 := z_addq he_x_100 (rfl : x_99.toInt = _) (rfl : v_33.toInt = _) (by omega) (by omega)
        refine lv_iconst (v := 1) hx hb dX12_insert_45 (by decide) ?_
        refine lv_isub hx hb dX12_insert_46 ?_
        refine lv_topi (fun x_101 he_x_101 => ?_)
        have hq_x_101 := z_subq he_x_101 (rfl : x_100.toInt = _) hk_1 (by omega) (by omega)
        refine va_iald hx hb hK hP 1 0 rfl rfl (z_inN (by omega) (by omega)) dX12_insert_47 ?_
        refine lv_topi (fun x_102 he_x_102 => ?_)
        have hr_x_102 := z_ctt hC_g_34 he_x_102 (a := 98) (b := 126) (lo := 0) (hi := 9) (by decide +kernel) (by decide) (by omega) (by omega)
        refine z_iast hx hb hK hP hD hS 1 0 rfl rfl (z_inN (by omega) (by omega)) dX12_insert_48 (fun g_103 hg_g_103 H locs hP hD hS => ?_)
        have hC_g_103 := z_ctUt hC_g_34 hg_g_103 (a := 99) (b := 127) (lo := 0) (hi := 9) (by decide +kernel) (by omega) (by omega) (by omega)
        have hs_104 : zHF g_c g_103 := (zHF_upd hs_49 hg_g_103 (a := 99) (b := 127) (by decide) (by omega) (by omega))
        obtain ⟨x_105, he_x_105⟩ : ∃ z : Int32, z = v_33 + (-1) := ⟨_, rfl⟩
        have hq_x_105 := z_addq he_x_105 (rfl : v_33.toInt = _) hk_m1 (by omega) (by omega)
        refine lv_iinc (v := x_105) (lv' := [(4, .int x_105), (0, .ref h0), (1, .int k), (2, .int r), (3, .int pp)]) hx hb dX12_insert_49 hl (k := 4) rfl ((z_ofi (by decide +kernel)).trans he_x_105.symm) (by decide) rfl (fun ls hl => ?_)
        refine lv_goto (tgt := 11) hx hb dX12_insert_52 (by decide) ?_
        have hX_106 : F_r_insert g_c k r pp = F_r_insert_L11a k r pp n_L11a x_105 g_103 := by
          refine hF_L11a.trans ?_
          refine (F_r_insert_L11a_s ..).trans ?_
          refine (if_neg c_80).trans ?_
          try (extract_lets -merge -useContext +onlyGivenNames y9; have e9 : x_95 = y9 := (by first | exact he_x_95 | exact he_x_95.symm); clear_value y9; subst e9)
          try (extract_lets -merge -useContext +onlyGivenNames y9; have e9 : x_96 = y9 := (by first | exact he_x_96 | exact he_x_96.symm); clear_value y9; subst e9)
          try (extract_lets -merge -useContext +onlyGivenNames y9; have e9 : x_97 = y9 := (by first | exact he_x_97 | exact he_x_97.symm); clear_value y9; subst e9)
          try (extract_lets -merge -useContext +onlyGivenNames y9; have e9 : x_98 = y9 := (by first | exact he_x_98 | exact he_x_98.symm); clear_value y9; subst e9)
          try (extract_lets -merge -useContext +onlyGivenNames y9; have e9 : x_99 = y9 := (by first | exact he_x_99 | exact he_x_99.symm); clear_value y9; subst e9)
          try (extract_lets -merge -useContext +onlyGivenNames y9; have e9 : x_100 = y9 := (by first | exact he_x_100 | exact he_x_100.symm); clear_value y9; subst e9)
          try (extract_lets -merge -useContext +onlyGivenNames y9; have e9 : x_101 = y9 := (by first | exact he_x_101 | exact he_x_101.symm); clear_value y9; subst e9)
          try (extract_lets -merge -useContext +onlyGivenNames y9; have e9 : x_102 = y9 := (by first | exact he_x_102 | exact he_x_102.symm); clear_value y9; subst e9)
          try (extract_lets -merge -useContext +onlyGivenNames y9; have e9 : g_103 = y9 := (by first | exact hg_g_103 | exact hg_g_103.symm); clear_value y9; subst e9)
          try (extract_lets -merge -useContext +onlyGivenNames y9; have e9 : x_105 = y9 := (by first | exact he_x_105 | exact he_x_105.symm); clear_value y9; subst e9)
          exact rfl
        exact ih_79 x_105 g_103 H locs ls (by omega) (by omega) hC_g_103 hs_104 (by omega) (by omega) (by rw [show x_105.toInt = v_33.toInt - 1 by omega]; exact zShI_step hi_52 hg_g_103 he_x_102 (by omega) (by omega) (by omega) (by omega)) hX_106 hP hD hS (lv_sub hl [1, 2, 3, 4, 0] rfl)
  have hX_107 : F_r_insert g_c k r pp = F_r_insert_L11a k r pp ((x_2.toInt + 2147483648).toNat + 1) x_2 g_c := by
    refine (F_r_insert_s ..).trans ?_
    try (extract_lets -merge -useContext +onlyGivenNames y9; have e9 : x_1 = y9 := (by first | exact he_x_1 | exact he_x_1.symm); clear_value y9; subst e9)
    try (extract_lets -merge -useContext +onlyGivenNames y9; have e9 : x_2 = y9 := (by first | exact he_x_2 | exact he_x_2.symm); clear_value y9; subst e9)
    exact rfl
  exact hlp_78 ((x_2.toInt + 2147483648).toNat + 1) x_2 g_c _ _ _ (Nat.lt_succ_self _) (by omega) hC_g_c (zHF_refl g_c) (by omega) (by omega) (by rw [hsz_x_2]; exact zShI_0) hX_107 hP hD hS (lv_sub hl [1, 2, 3, 4, 0] rfl)
set_option maxHeartbeats 40000000 in
set_option maxRecDepth 100000 in
theorem r_take2 (l : Launch) (G : va_G) (cA : zCA) (h0 : Nat) (m_status : Int32) (m_thrown : Int32) (m_above : Int64) (m_under : Int64) (a_traySort : Nat) (a_trayMany : Nat) (a_numbers : Nat) (a_tape : Nat) (m_taped : Int32) (m_textEnd : Int32) (m_faultKind : Int32) (m_faultAt : Int32) (m_bad : Int32) (m_badAt : Int32) (m_token : Int32) (m_at : Int32) (m_behind : Int32) (m_number : Int32) (m_letters : Int32) (m_word : Int64) (a_c : Nat) (a_words : Nat) (m_markMany : Int32) (a_there : Nat) (a_tried : Nat) (a_best : Nat) (a_found : Nat) (m_thereMany : Int32) (m_foundMany : Int32) (m_orderHow : Int32) (m_orderRing : Int32) (m_orderMany : Int32) (m_hasBest : Int32) (m_bestTop : Int64) (m_bestBy : Int64) (a_weights : Nat) (a_shared : Nat) (m_random : Int32) (m_truePlace : Int32) (m_trueWay : Int32) (m_seconds : Int32) (m_done : Int32) (m_feelings : Int32) (m_tries : Int32) (m_leftOver : Int32) (m_playDoor : Int32) (m_playRing : Int32) (m_isOpen : Int32) (m_isOver : Int32) (m_wasTried : Int32) (m_hasPlayed : Int32) (a_feltNow : Nat) (a_last : Nat) (a_kept : Nat) (m_hasSeconds : Int32) (m_hasTurned : Int32) (m_hasRound : Int32) (a_hasFeels : Nat) (a_isOn : Nat) (m_firstAct : Int32) (m_meanTop : Int64) (m_meanBy : Int64) (a_order : Nat) (m_rowMany : Int32) (m_newSteps : Int32) (g_c : Nat → Int32) (k : Int32) (hr_k : 0 ≤ k.toInt ∧ k.toInt ≤ 9) (hZ_g_c : zC g_c) (hp_0 : zOn g_c k.toInt) : zCv l yX12_take2 cX12_take2 4 none ({ frames := 2, cells := 0, slots := 0, locals := 46 }) G cA [.ref h0, .int k] [(h0, .inr (12, [.int m_status, .int m_thrown, .long m_above, .long m_under, .ref a_traySort, .ref a_trayMany, .ref a_numbers, .ref a_tape, .int m_taped, .int m_textEnd, .int m_faultKind, .int m_faultAt, .int m_bad, .int m_badAt, .int m_token, .int m_at, .int m_behind, .int m_number, .int m_letters, .long m_word, .ref a_c, .ref a_words, .int m_markMany, .ref a_there, .ref a_tried, .ref a_best, .ref a_found, .int m_thereMany, .int m_foundMany, .int m_orderHow, .int m_orderRing, .int m_orderMany, .int m_hasBest, .long m_bestTop, .long m_bestBy, .ref a_weights, .ref a_shared, .int m_random, .int m_truePlace, .int m_trueWay, .int m_seconds, .int m_done, .int m_feelings, .int m_tries, .int m_leftOver, .int m_playDoor, .int m_playRing, .int m_isOpen, .int m_isOver, .int m_wasTried, .int m_hasPlayed, .ref a_feltNow, .ref a_last, .ref a_kept, .int m_hasSeconds, .int m_hasTurned, .int m_hasRound, .ref a_hasFeels, .ref a_isOn, .int m_firstAct, .long m_meanTop, .long m_meanBy, .ref a_order, .int m_rowMany, .int m_newSteps])), (a_c, .inl (cA.1 0, 1825, .inl g_c))] (S := (Nat → Int32)) (fun (u : (Nat → Int32)) => (u = (F_r_take2 g_c k)) ∧ ((zC u) ∧ (zHF g_c u) ∧ (zTaken g_c u k.toInt))) (fun (u : (Nat → Int32)) => [(h0, .inr (12, [.int m_status, .int m_thrown, .long m_above, .long m_under, .ref a_traySort, .ref a_trayMany, .ref a_numbers, .ref a_tape, .int m_taped, .int m_textEnd, .int m_faultKind, .int m_faultAt, .int m_bad, .int m_badAt, .int m_token, .int m_at, .int m_behind, .int m_number, .int m_letters, .long m_word, .ref a_c, .ref a_words, .int m_markMany, .ref a_there, .ref a_tried, .ref a_best, .ref a_found, .int m_thereMany, .int m_foundMany, .int m_orderHow, .int m_orderRing, .int m_orderMany, .int m_hasBest, .long m_bestTop, .long m_bestBy, .ref a_weights, .ref a_shared, .int m_random, .int m_truePlace, .int m_trueWay, .int m_seconds, .int m_done, .int m_feelings, .int m_tries, .int m_leftOver, .int m_playDoor, .int m_playRing, .int m_isOpen, .int m_isOver, .int m_wasTried, .int m_hasPlayed, .ref a_feltNow, .ref a_last, .ref a_kept, .int m_hasSeconds, .int m_hasTurned, .int m_hasRound, .ref a_hasFeels, .ref a_isOn, .int m_firstAct, .long m_meanTop, .long m_meanBy, .ref a_order, .int m_rowMany, .int m_newSteps])), (a_c, .inl (cA.1 0, 1825, .inl u))]) 0 0 := by
  have hk_1 : (1 : Int32).toInt = 1 := by decide +kernel
  have hk_10 : (10 : Int32).toInt = 10 := by decide +kernel
  have hk_95 : (95 : Int32).toInt = 95 := by decide +kernel
  have hk_98 : (98 : Int32).toInt = 98 := by decide +kernel
  have hC_g_c : zCt g_c := hZ_g_c.1
  refine z_start2v (own := RX12) (by decide) (Nat.le_of_ble_eq_true rfl) rfl ?_
  intro p e s m args below meth c A ls Q hx hb hml hts hown hK hE hT hP hD hS hA hl hret
  have hl : lv_has ls 4 [(0, .ref h0), (1, .int k)] := hl
  refine lv_aload_n hx hb dX12_take2_0 rfl (lv_at hl 0 rfl) ?_
  refine lv_iload_n hx hb dX12_take2_1 rfl (lv_at hl 1 rfl) ?_
  refine z_callVi (As := [.int k]) (rest := []) (wr := []) ⟨hx, hb, hml, hown, hts⟩ hK hE hT hP hD hS hA (r_ringOf l G cA h0 m_status m_thrown m_above m_under a_traySort a_trayMany a_numbers a_tape m_taped m_textEnd m_faultKind m_faultAt m_bad m_badAt m_token m_at m_behind m_number m_letters m_word a_c a_words m_markMany a_there a_tried a_best a_found m_thereMany m_foundMany m_orderHow m_orderRing m_orderMany m_hasBest m_bestTop m_bestBy a_weights a_shared m_random m_truePlace m_trueWay m_seconds m_done m_feelings m_tries m_leftOver m_playDoor m_playRing m_isOpen m_isOver m_wasTried m_hasPlayed a_feltNow a_last a_kept m_hasSeconds m_hasTurned m_hasRound a_hasFeels a_isOn m_firstAct m_meanTop m_meanBy a_order m_rowMany m_newSteps g_c k hr_k hZ_g_c) lk_RX12_278 ⟨rfl, rfl⟩ ⟨Nat.le_of_ble_eq_true rfl, Nat.le_of_ble_eq_true rfl⟩ 12 rfl rfl rfl [0, 1] [] rfl rfl (by decide) rfl hl.1 rfl (lv_room (Nat.le_of_ble_eq_true rfl)) dX12_take2_2 ⟨Nat.le_of_ble_eq_true rfl, Nat.le_of_ble_eq_true rfl⟩ (fun r_1 u_2 H locs hw hP hD hS => ?_)
  obtain ⟨he_r_1, hw⟩ := hw
  obtain ⟨hr_r_1, hf_4⟩ := hw
  have hr0_r_1 := zOn_r hp_0 hf_4
  refine lv_istore_n (lv' := [(2, .int r_1), (0, .ref h0), (1, .int k)]) hx hb dX12_take2_5 rfl hl (by decide) rfl (fun ls hl => ?_)
  refine lv_aload_n hx hb dX12_take2_6 rfl (lv_at hl 1 rfl) ?_
  refine lv_iload_n hx hb dX12_take2_7 rfl (lv_at hl 2 rfl) ?_
  refine z_callVi (As := [.int k]) (rest := []) (wr := []) ⟨hx, hb, hml, hown, hts⟩ hK hE hT hP hD hS hA (r_placeOf l G cA h0 m_status m_thrown m_above m_under a_traySort a_trayMany a_numbers a_tape m_taped m_textEnd m_faultKind m_faultAt m_bad m_badAt m_token m_at m_behind m_number m_letters m_word a_c a_words m_markMany a_there a_tried a_best a_found m_thereMany m_foundMany m_orderHow m_orderRing m_orderMany m_hasBest m_bestTop m_bestBy a_weights a_shared m_random m_truePlace m_trueWay m_seconds m_done m_feelings m_tries m_leftOver m_playDoor m_playRing m_isOpen m_isOver m_wasTried m_hasPlayed a_feltNow a_last a_kept m_hasSeconds m_hasTurned m_hasRound a_hasFeels a_isOn m_firstAct m_meanTop m_meanBy a_order m_rowMany m_newSteps g_c k hr_k hZ_g_c) lk_RX12_283 ⟨rfl, rfl⟩ ⟨Nat.le_of_ble_eq_true rfl, Nat.le_of_ble_eq_true rfl⟩ 12 rfl rfl rfl [0, 1] [] rfl rfl (by decide) rfl hl.1 rfl (lv_room (Nat.le_of_ble_eq_true rfl)) dX12_take2_8 ⟨Nat.le_of_ble_eq_true rfl, Nat.le_of_ble_eq_true rfl⟩ (fun r_5 u_6 H locs hw hP hD hS => ?_)
  obtain ⟨he_r_5, hw⟩ := hw
  obtain ⟨hr_r_5, hf_8⟩ := hw
  have hpo := zPO_r hf_8 hf_4 (by omega)
  have hzs := zC_size hZ_g_c.1 (r := r_1.toInt.toNat) (by omega)
  have hi0_r_5 : 0 ≤ r_5.toInt ∧ r_5.toInt ≤ 9 := by omega
  refine lv_istore_n (lv' := [(3, .int r_5), (2, .int r_1), (0, .ref h0), (1, .int k)]) hx hb dX12_take2_11 rfl hl (by decide) rfl (fun ls hl => ?_)
  have hlp_91 : ∀ (n_L12a : Nat) (v_45 : Int32) (g_46 : Nat → Int32) (H : Heap) (locs : List Loc) (ls : Array Slot), (2147483647 - v_45.toInt).toNat < n_L12a → (0 ≤ v_45.toInt ∧ v_45.toInt ≤ 9) → (zCt g_46) → (zHF g_c g_46) → (zShT g_c g_46 (98 + 10 * r_1.toInt) r_5.toInt v_45.toInt) → (r_5.toInt ≤ v_45.toInt) → (v_45.toInt + 1 ≤ (g_c (95 + r_1.toInt.toNat)).toInt) → (F_r_take2 g_c k = F_r_take2_L12a r_1 n_L12a v_45 g_46) → va_P G vwCl [(h0, .inr (12, [.int m_status, .int m_thrown, .long m_above, .long m_under, .ref a_traySort, .ref a_trayMany, .ref a_numbers, .ref a_tape, .int m_taped, .int m_textEnd, .int m_faultKind, .int m_faultAt, .int m_bad, .int m_badAt, .int m_token, .int m_at, .int m_behind, .int m_number, .int m_letters, .long m_word, .ref a_c, .ref a_words, .int m_markMany, .ref a_there, .ref a_tried, .ref a_best, .ref a_found, .int m_thereMany, .int m_foundMany, .int m_orderHow, .int m_orderRing, .int m_orderMany, .int m_hasBest, .long m_bestTop, .long m_bestBy, .ref a_weights, .ref a_shared, .int m_random, .int m_truePlace, .int m_trueWay, .int m_seconds, .int m_done, .int m_feelings, .int m_tries, .int m_leftOver, .int m_playDoor, .int m_playRing, .int m_isOpen, .int m_isOver, .int m_wasTried, .int m_hasPlayed, .ref a_feltNow, .ref a_last, .ref a_kept, .int m_hasSeconds, .int m_hasTurned, .int m_hasRound, .ref a_hasFeels, .ref a_isOn, .int m_firstAct, .long m_meanTop, .long m_meanBy, .ref a_order, .int m_rowMany, .int m_newSteps])), (a_c, .inl (cA.1 0, 1825, .inl g_46))] H → va_D A [(h0, .inr (12, [.int m_status, .int m_thrown, .long m_above, .long m_under, .ref a_traySort, .ref a_trayMany, .ref a_numbers, .ref a_tape, .int m_taped, .int m_textEnd, .int m_faultKind, .int m_faultAt, .int m_bad, .int m_badAt, .int m_token, .int m_at, .int m_behind, .int m_number, .int m_letters, .long m_word, .ref a_c, .ref a_words, .int m_markMany, .ref a_there, .ref a_tried, .ref a_best, .ref a_found, .int m_thereMany, .int m_foundMany, .int m_orderHow, .int m_orderRing, .int m_orderMany, .int m_hasBest, .long m_bestTop, .long m_bestBy, .ref a_weights, .ref a_shared, .int m_random, .int m_truePlace, .int m_trueWay, .int m_seconds, .int m_done, .int m_feelings, .int m_tries, .int m_leftOver, .int m_playDoor, .int m_playRing, .int m_isOpen, .int m_isOver, .int m_wasTried, .int m_hasPlayed, .ref a_feltNow, .ref a_last, .ref a_kept, .int m_hasSeconds, .int m_hasTurned, .int m_hasRound, .ref a_hasFeels, .ref a_isOn, .int m_firstAct, .long m_meanTop, .long m_meanBy, .ref a_order, .int m_rowMany, .int m_newSteps])), (a_c, .inl (cA.1 0, 1825, .inl g_46))] → va_S A s.heap H locs → lv_has ls 4 [(0, .ref h0), (1, .int k), (2, .int r_1), (3, .int v_45)] → W p l e ({ frames := 2, cells := 0, slots := 0, locals := 46 }) s m args below meth c H locs 0 0 Q (F0 m 12 ls []) := by
    intro n_L12a
    induction n_L12a with
    | zero =>
      intro v_45 g_46 H locs ls hmu_hlp_91 hr_v_45 hC_g_46 hs_64 hi_65 hi_66 hi_67 hF_L12a hP hD hS hl
      exact absurd hmu_hlp_91 (Nat.not_lt_zero _)
    | succ n_L12a ih_92 =>
      intro v_45 g_46 H locs ls hmu_hlp_91 hr_v_45 hC_g_46 hs_64 hi_65 hi_66 hi_67 hF_L12a hP hD hS hl
      refine lv_iload_n hx hb dX12_take2_12 rfl (lv_at hl 3 rfl) ?_
      refine lv_iconst (v := 1) hx hb dX12_take2_13 (by decide) ?_
      refine lv_iadd hx hb dX12_take2_14 ?_
      refine lv_topi (fun x_93 he_x_93 => ?_)
      have hq_x_93 := z_addq he_x_93 (rfl : v_45.toInt = _) hk_1 (by omega) (by omega)
      refine lv_aload_n hx hb dX12_take2_15 rfl (lv_at hl 0 rfl) ?_
      refine va_get (D := G) (ci := 12) (v := .ref a_c) (C := RX12) (T := TX12) (N := 65) hx hb hts inT12 hown hK hP 0 rfl rfl 20 (by decide) (hts _ tw_1905) (fun _ h9 => h9) rfl dX12_take2_16 ?_
      refine lv_bipush (v := 95) hx hb dX12_take2_19 (by decide) ?_
      refine lv_iload_n hx hb dX12_take2_21 rfl (lv_at hl 2 rfl) ?_
      refine lv_iadd hx hb dX12_take2_22 ?_
      refine lv_topi (fun x_94 he_x_94 => ?_)
      have hq_x_94 := z_addq he_x_94 hk_95 (rfl : r_1.toInt = _) (by omega) (by omega)
      refine va_iald hx hb hK hP 1 0 rfl rfl (z_inN (by omega) (by omega)) dX12_take2_23 ?_
      refine lv_topi (fun x_95 he_x_95 => ?_)
      have hr_x_95 := z_ctt hC_g_46 he_x_95 (a := 95) (b := 97) (lo := 0) (hi := 10) (by decide +kernel) (by decide) (by omega) (by omega)
      have hyS_x_95 := zShT_sz hi_65 (by omega) (by omega) (by omega) he_x_95 (by omega)
      refine lv_icmp_ge (tgt := 63) hx hb dX12_take2_24 (by decide) (fun c_96 => ?_) (fun c_96 => ?_)
      · have b_97 := z_fgeT c_96
        refine lv_aload_n hx hb dX12_take2_63 rfl (lv_at hl 0 rfl) ?_
        refine va_get (D := G) (ci := 12) (v := .ref a_c) (C := RX12) (T := TX12) (N := 65) hx hb hts inT12 hown hK hP 0 rfl rfl 20 (by decide) (hts _ tw_1905) (fun _ h9 => h9) rfl dX12_take2_64 ?_
        refine lv_bipush (v := 95) hx hb dX12_take2_67 (by decide) ?_
        refine lv_iload_n hx hb dX12_take2_69 rfl (lv_at hl 2 rfl) ?_
        refine lv_iadd hx hb dX12_take2_70 ?_
        refine lv_topi (fun x_98 he_x_98 => ?_)
        have hq_x_98 := z_addq he_x_98 hk_95 (rfl : r_1.toInt = _) (by omega) (by omega)
        refine lv_dup2_11 hx hb dX12_take2_71 rfl rfl ?_
        refine va_iald hx hb hK hP 1 0 rfl rfl (z_inN (by omega) (by omega)) dX12_take2_72 ?_
        refine lv_topi (fun x_99 he_x_99 => ?_)
        have hr_x_99 := z_ctt hC_g_46 he_x_99 (a := 95) (b := 97) (lo := 0) (hi := 10) (by decide +kernel) (by decide) (by omega) (by omega)
        have hyS_x_99 := zShT_sz hi_65 (by omega) (by omega) (by omega) he_x_99 (by omega)
        have hn_k_100 : 1 ≤ x_99.toInt ∧ x_99.toInt ≤ 10 := by omega
        refine lv_iconst (v := 1) hx hb dX12_take2_73 (by decide) ?_
        refine lv_isub hx hb dX12_take2_74 ?_
        refine lv_topi (fun x_101 he_x_101 => ?_)
        have hq_x_101 := z_subq he_x_101 (rfl : x_99.toInt = _) hk_1 (by omega) (by omega)
        refine z_iast hx hb hK hP hD hS 1 0 rfl rfl (z_inN (by omega) (by omega)) dX12_take2_75 (fun g_102 hg_g_102 H locs hP hD hS => ?_)
        have hC_g_102 := z_ctUt hC_g_46 hg_g_102 (a := 95) (b := 97) (lo := 0) (hi := 10) (by decide +kernel) (by omega) (by omega) (by omega)
        have hs_103 : zHF g_c g_102 := (zHF_upd hs_64 hg_g_102 (a := 95) (b := 97) (by decide) (by omega) (by omega))
        have htk : zTkP g_c g_102 r_1.toInt r_5.toInt := zTkP_of hi_65 (by omega) (by omega) (by omega) (by omega) he_x_99 (by omega) hg_g_102 (by omega) (by omega)
        have hpost : (zC g_102) ∧ (zHF g_c g_102) ∧ (zTaken g_c g_102 k.toInt) := ⟨(zTkP_zC hZ_g_c hC_g_102 htk (by omega) (by omega) (by omega) (by omega)), hs_103, ⟨r_1.toInt, r_5.toInt, by omega, by omega, by omega, hf_4, by omega, hpo.2.2, htk⟩⟩
        have hX_104 : F_r_take2 g_c k = (g_102 : (Nat → Int32)) := by
          refine hF_L12a.trans ?_
          refine (F_r_take2_L12a_s ..).trans ?_
          try (extract_lets -merge -useContext +onlyGivenNames y9; have e9 : x_93 = y9 := (by first | exact he_x_93 | exact he_x_93.symm); clear_value y9; subst e9)
          try (extract_lets -merge -useContext +onlyGivenNames y9; have e9 : x_94 = y9 := (by first | exact he_x_94 | exact he_x_94.symm); clear_value y9; subst e9)
          try (extract_lets -merge -useContext +onlyGivenNames y9; have e9 : x_95 = y9 := (by first | exact he_x_95 | exact he_x_95.symm); clear_value y9; subst e9)
          refine (if_pos c_96).trans ?_
          try (extract_lets -merge -useContext +onlyGivenNames y9; have e9 : x_98 = y9 := (by first | exact he_x_98 | exact he_x_98.symm); clear_value y9; subst e9)
          try (extract_lets -merge -useContext +onlyGivenNames y9; have e9 : x_99 = y9 := (by first | exact he_x_99 | exact he_x_99.symm); clear_value y9; subst e9)
          try (extract_lets -merge -useContext +onlyGivenNames y9; have e9 : x_101 = y9 := (by first | exact he_x_101 | exact he_x_101.symm); clear_value y9; subst e9)
          try (extract_lets -merge -useContext +onlyGivenNames y9; have e9 : g_102 = y9 := (by first | exact hg_g_102 | exact hg_g_102.symm); clear_value y9; subst e9)
          exact rfl
        exact hret _ _ _ _ _ g_102 [0, 1] hP hD hS rfl (by decide) dX12_take2_76 ⟨(congrArg (fun z9 => z9) hX_104).symm, hpost⟩
      · have b_105 := z_fltF c_96
        refine lv_aload_n hx hb dX12_take2_27 rfl (lv_at hl 0 rfl) ?_
        refine va_get (D := G) (ci := 12) (v := .ref a_c) (C := RX12) (T := TX12) (N := 65) hx hb hts inT12 hown hK hP 0 rfl rfl 20 (by decide) (hts _ tw_1905) (fun _ h9 => h9) rfl dX12_take2_28 ?_
        refine lv_bipush (v := 98) hx hb dX12_take2_31 (by decide) ?_
        refine lv_bipush (v := 10) hx hb dX12_take2_33 (by decide) ?_
        refine lv_iload_n hx hb dX12_take2_35 rfl (lv_at hl 2 rfl) ?_
        refine lv_imul hx hb dX12_take2_36 ?_
        refine lv_topi (fun x_106 he_x_106 => ?_)
        have hq_x_106 := z_mulq he_x_106 hk_10 (rfl : r_1.toInt = _) (by omega) (by omega)
        refine lv_iadd hx hb dX12_take2_37 ?_
        refine lv_topi (fun x_107 he_x_107 => ?_)
        have hq_x_107 := z_addq he_x_107 hk_98 (rfl : x_106.toInt = _) (by omega) (by omega)
        refine lv_iload_n hx hb dX12_take2_38 rfl (lv_at hl 3 rfl) ?_
        refine lv_iadd hx hb dX12_take2_39 ?_
        refine lv_topi (fun x_108 he_x_108 => ?_)
        have hq_x_108 := z_addq he_x_108 (rfl : x_107.toInt = _) (rfl : v_45.toInt = _) (by omega) (by omega)
        refine lv_aload_n hx hb dX12_take2_40 rfl (lv_at hl 0 rfl) ?_
        refine va_get (D := G) (ci := 12) (v := .ref a_c) (C := RX12) (T := TX12) (N := 65) hx hb hts inT12 hown hK hP 0 rfl rfl 20 (by decide) (hts _ tw_1905) (fun _ h9 => h9) rfl dX12_take2_41 ?_
        refine lv_bipush (v := 98) hx hb dX12_take2_44 (by decide) ?_
        refine lv_bipush (v := 10) hx hb dX12_take2_46 (by decide) ?_
        refine lv_iload_n hx hb dX12_take2_48 rfl (lv_at hl 2 rfl) ?_
        refine lv_imul hx hb dX12_take2_49 ?_
        refine lv_topi (fun x_109 he_x_109 => ?_)
        have hq_x_109 := z_mulq he_x_109 hk_10 (rfl : r_1.toInt = _) (by omega) (by omega)
        refine lv_iadd hx hb dX12_take2_50 ?_
        refine lv_topi (fun x_110 he_x_110 => ?_)
        have hq_x_110 := z_addq he_x_110 hk_98 (rfl : x_109.toInt = _) (by omega) (by omega)
        refine lv_iload_n hx hb dX12_take2_51 rfl (lv_at hl 3 rfl) ?_
        refine lv_iadd hx hb dX12_take2_52 ?_
        refine lv_topi (fun x_111 he_x_111 => ?_)
        have hq_x_111 := z_addq he_x_111 (rfl : x_110.toInt = _) (rfl : v_45.toInt = _) (by omega) (by omega)
        refine lv_iconst (v := 1) hx hb dX12_take2_53 (by decide) ?_
        refine lv_iadd hx hb dX12_take2_54 ?_
        refine lv_topi (fun x_112 he_x_112 => ?_)
        have hq_x_112 := z_addq he_x_112 (rfl : x_111.toInt = _) hk_1 (by omega) (by omega)
        refine va_iald hx hb hK hP 1 0 rfl rfl (z_inN (by omega) (by omega)) dX12_take2_55 ?_
        refine lv_topi (fun x_113 he_x_113 => ?_)
        have hr_x_113 := z_ctt hC_g_46 he_x_113 (a := 99) (b := 127) (lo := 0) (hi := 9) (by decide +kernel) (by decide) (by omega) (by omega)
        refine z_iast hx hb hK hP hD hS 1 0 rfl rfl (z_inN (by omega) (by omega)) dX12_take2_56 (fun g_114 hg_g_114 H locs hP hD hS => ?_)
        have hC_g_114 := z_ctUt hC_g_46 hg_g_114 (a := 98) (b := 126) (lo := 0) (hi := 9) (by decide +kernel) (by omega) (by omega) (by omega)
        have hs_115 : zHF g_c g_114 := (zHF_upd hs_64 hg_g_114 (a := 98) (b := 126) (by decide) (by omega) (by omega))
        obtain ⟨x_116, he_x_116⟩ : ∃ z : Int32, z = v_45 + 1 := ⟨_, rfl⟩
        have hq_x_116 := z_addq he_x_116 (rfl : v_45.toInt = _) hk_1 (by omega) (by omega)
        refine lv_iinc (v := x_116) (lv' := [(3, .int x_116), (0, .ref h0), (1, .int k), (2, .int r_1)]) hx hb dX12_take2_57 hl (k := 3) rfl ((z_ofi (by decide +kernel)).trans he_x_116.symm) (by decide) rfl (fun ls hl => ?_)
        refine lv_goto (tgt := 12) hx hb dX12_take2_60 (by decide) ?_
        have hX_117 : F_r_take2 g_c k = F_r_take2_L12a r_1 n_L12a x_116 g_114 := by
          refine hF_L12a.trans ?_
          refine (F_r_take2_L12a_s ..).trans ?_
          try (extract_lets -merge -useContext +onlyGivenNames y9; have e9 : x_93 = y9 := (by first | exact he_x_93 | exact he_x_93.symm); clear_value y9; subst e9)
          try (extract_lets -merge -useContext +onlyGivenNames y9; have e9 : x_94 = y9 := (by first | exact he_x_94 | exact he_x_94.symm); clear_value y9; subst e9)
          try (extract_lets -merge -useContext +onlyGivenNames y9; have e9 : x_95 = y9 := (by first | exact he_x_95 | exact he_x_95.symm); clear_value y9; subst e9)
          refine (if_neg c_96).trans ?_
          try (extract_lets -merge -useContext +onlyGivenNames y9; have e9 : x_106 = y9 := (by first | exact he_x_106 | exact he_x_106.symm); clear_value y9; subst e9)
          try (extract_lets -merge -useContext +onlyGivenNames y9; have e9 : x_107 = y9 := (by first | exact he_x_107 | exact he_x_107.symm); clear_value y9; subst e9)
          try (extract_lets -merge -useContext +onlyGivenNames y9; have e9 : x_108 = y9 := (by first | exact he_x_108 | exact he_x_108.symm); clear_value y9; subst e9)
          try (extract_lets -merge -useContext +onlyGivenNames y9; have e9 : x_109 = y9 := (by first | exact he_x_109 | exact he_x_109.symm); clear_value y9; subst e9)
          try (extract_lets -merge -useContext +onlyGivenNames y9; have e9 : x_110 = y9 := (by first | exact he_x_110 | exact he_x_110.symm); clear_value y9; subst e9)
          try (extract_lets -merge -useContext +onlyGivenNames y9; have e9 : x_111 = y9 := (by first | exact he_x_111 | exact he_x_111.symm); clear_value y9; subst e9)
          try (extract_lets -merge -useContext +onlyGivenNames y9; have e9 : x_112 = y9 := (by first | exact he_x_112 | exact he_x_112.symm); clear_value y9; subst e9)
          try (extract_lets -merge -useContext +onlyGivenNames y9; have e9 : x_113 = y9 := (by first | exact he_x_113 | exact he_x_113.symm); clear_value y9; subst e9)
          try (extract_lets -merge -useContext +onlyGivenNames y9; have e9 : g_114 = y9 := (by first | exact hg_g_114 | exact hg_g_114.symm); clear_value y9; subst e9)
          try (extract_lets -merge -useContext +onlyGivenNames y9; have e9 : x_116 = y9 := (by first | exact he_x_116 | exact he_x_116.symm); clear_value y9; subst e9)
          exact rfl
        exact ih_92 x_116 g_114 H locs ls (by omega) (by omega) hC_g_114 hs_115 (by rw [show x_116.toInt = v_45.toInt + 1 by omega]; exact zShT_step hi_65 hg_g_114 he_x_113 (by omega) (by omega) (by omega) (by omega)) (by omega) (by omega) hX_117 hP hD hS (lv_sub hl [1, 2, 3, 0] rfl)
  have hX_118 : F_r_take2 g_c k = F_r_take2_L12a r_1 ((2147483647 - r_5.toInt).toNat + 1) r_5 g_c := by
    refine (F_r_take2_s ..).trans ?_
    extract_lets -merge -useContext +onlyGivenNames w9 y9; have e9 : r_1 = w9 := he_r_1; clear_value w9; subst e9
    extract_lets -merge -useContext +onlyGivenNames w9 y9; have e9 : r_5 = w9 := he_r_5; clear_value w9; subst e9
    exact rfl
  exact hlp_91 ((2147483647 - r_5.toInt).toNat + 1) r_5 g_c _ _ _ (Nat.lt_succ_self _) (by omega) hC_g_c (zHF_refl g_c) zShT_0 (by omega) (by omega) hX_118 hP hD hS (lv_sub hl [2, 3, 1, 0] rfl)
set_option maxHeartbeats 40000000 in
set_option maxRecDepth 100000 in
theorem r_put (l : Launch) (G : va_G) (cA : zCA) (h0 : Nat) (m_status : Int32) (m_thrown : Int32) (m_above : Int64) (m_under : Int64) (a_traySort : Nat) (a_trayMany : Nat) (a_numbers : Nat) (a_tape : Nat) (m_taped : Int32) (m_textEnd : Int32) (m_faultKind : Int32) (m_faultAt : Int32) (m_bad : Int32) (m_badAt : Int32) (m_token : Int32) (m_at : Int32) (m_behind : Int32) (m_number : Int32) (m_letters : Int32) (m_word : Int64) (a_c : Nat) (a_words : Nat) (m_markMany : Int32) (a_there : Nat) (a_tried : Nat) (a_best : Nat) (a_found : Nat) (m_thereMany : Int32) (m_foundMany : Int32) (m_orderHow : Int32) (m_orderRing : Int32) (m_orderMany : Int32) (m_hasBest : Int32) (m_bestTop : Int64) (m_bestBy : Int64) (a_weights : Nat) (a_shared : Nat) (m_random : Int32) (m_truePlace : Int32) (m_trueWay : Int32) (m_seconds : Int32) (m_done : Int32) (m_feelings : Int32) (m_tries : Int32) (m_leftOver : Int32) (m_playDoor : Int32) (m_playRing : Int32) (m_isOpen : Int32) (m_isOver : Int32) (m_wasTried : Int32) (m_hasPlayed : Int32) (a_feltNow : Nat) (a_last : Nat) (a_kept : Nat) (m_hasSeconds : Int32) (m_hasTurned : Int32) (m_hasRound : Int32) (a_hasFeels : Nat) (a_isOn : Nat) (m_firstAct : Int32) (m_meanTop : Int64) (m_meanBy : Int64) (a_order : Nat) (m_rowMany : Int32) (m_newSteps : Int32) (g_c : Nat → Int32) (k : Int32) (r : Int32) (pp : Int32) (hC_g_c : zC g_c) : zCi l yX12_put cX12_put 4 (some .boolean) ({ frames := 2, cells := 0, slots := 0, locals := 47 }) G cA [.ref h0, .int k, .int r, .int pp] [(h0, .inr (12, [.int m_status, .int m_thrown, .long m_above, .long m_under, .ref a_traySort, .ref a_trayMany, .ref a_numbers, .ref a_tape, .int m_taped, .int m_textEnd, .int m_faultKind, .int m_faultAt, .int m_bad, .int m_badAt, .int m_token, .int m_at, .int m_behind, .int m_number, .int m_letters, .long m_word, .ref a_c, .ref a_words, .int m_markMany, .ref a_there, .ref a_tried, .ref a_best, .ref a_found, .int m_thereMany, .int m_foundMany, .int m_orderHow, .int m_orderRing, .int m_orderMany, .int m_hasBest, .long m_bestTop, .long m_bestBy, .ref a_weights, .ref a_shared, .int m_random, .int m_truePlace, .int m_trueWay, .int m_seconds, .int m_done, .int m_feelings, .int m_tries, .int m_leftOver, .int m_playDoor, .int m_playRing, .int m_isOpen, .int m_isOver, .int m_wasTried, .int m_hasPlayed, .ref a_feltNow, .ref a_last, .ref a_kept, .int m_hasSeconds, .int m_hasTurned, .int m_hasRound, .ref a_hasFeels, .ref a_isOn, .int m_firstAct, .long m_meanTop, .long m_meanBy, .ref a_order, .int m_rowMany, .int m_newSteps])), (a_c, .inl (cA.1 0, 1825, .inl g_c))] (S := Int32 × Int32 × (Nat → Int32)) (fun (r_0 : Int32) (u : Int32 × Int32 × (Nat → Int32)) => (r_0 = (F_r_put g_c k r pp).1) ∧ (u.1 = (F_r_put g_c k r pp).2.1) ∧ (u.2.1 = (F_r_put g_c k r pp).2.2.1) ∧ (u.2.2 = (F_r_put g_c k r pp).2.2.2) ∧ ((r_0 = 0 ∧ (0 ≤ u.2.1.toInt ∧ u.2.1.toInt ≤ 0) ∧ (zC u.2.2) ∧ (zHF g_c u.2.2)) ∨ (r_0 = 1 ∧ (0 ≤ u.1.toInt ∧ u.1.toInt ≤ 0) ∧ (0 ≤ u.2.1.toInt ∧ u.2.1.toInt ≤ 0) ∧ (zC u.2.2) ∧ (zHF g_c u.2.2)))) (fun (u : Int32 × Int32 × (Nat → Int32)) => [(h0, .inr (12, [.int u.1, .int u.2.1, .long m_above, .long m_under, .ref a_traySort, .ref a_trayMany, .ref a_numbers, .ref a_tape, .int m_taped, .int m_textEnd, .int m_faultKind, .int m_faultAt, .int m_bad, .int m_badAt, .int m_token, .int m_at, .int m_behind, .int m_number, .int m_letters, .long m_word, .ref a_c, .ref a_words, .int m_markMany, .ref a_there, .ref a_tried, .ref a_best, .ref a_found, .int m_thereMany, .int m_foundMany, .int m_orderHow, .int m_orderRing, .int m_orderMany, .int m_hasBest, .long m_bestTop, .long m_bestBy, .ref a_weights, .ref a_shared, .int m_random, .int m_truePlace, .int m_trueWay, .int m_seconds, .int m_done, .int m_feelings, .int m_tries, .int m_leftOver, .int m_playDoor, .int m_playRing, .int m_isOpen, .int m_isOver, .int m_wasTried, .int m_hasPlayed, .ref a_feltNow, .ref a_last, .ref a_kept, .int m_hasSeconds, .int m_hasTurned, .int m_hasRound, .ref a_hasFeels, .ref a_isOn, .int m_firstAct, .long m_meanTop, .long m_meanBy, .ref a_order, .int m_rowMany, .int m_newSteps])), (a_c, .inl (cA.1 0, 1825, .inl u.2.2))]) 0 0 := by
  have hk_0 : (0 : Int32).toInt = 0 := by decide +kernel
  have hk_1 : (1 : Int32).toInt = 1 := by decide +kernel
  have hk_2 : (2 : Int32).toInt = 2 := by decide +kernel
  have hk_5 : (5 : Int32).toInt = 5 := by decide +kernel
  have hk_9 : (9 : Int32).toInt = 9 := by decide +kernel
  have hk_95 : (95 : Int32).toInt = 95 := by decide +kernel
  have hkl_0 : (0 : Int64).toInt = 0 := by decide +kernel
  refine z_start2z (own := RX12) (by decide) (Nat.le_of_ble_eq_true rfl) rfl ?_
  intro p e s m args below meth c A ls Q hx hb hml hts hown hK hE hT hP hD hS hA hl hret
  have hl : lv_has ls 4 [(0, .ref h0), (1, .int k), (2, .int r), (3, .int pp)] := hl
  refine lv_aload_n hx hb dX12_put_0 rfl (lv_at hl 0 rfl) ?_
  refine lv_iconst (v := 0) hx hb dX12_put_1 (by decide) ?_
  refine va_put (D := G) (ci := 12) (v := .int 0) (ty := .int) (C := RX12) (T := TX12) (N := 65) hx hb hts inT12 tyX12 tyX12_ok nmX12 hown hK hP hD hS 0 rfl rfl 1 (by decide) (hts _ tw_1886) (fun _ h9 => h9) rfl (tyX12_ok 1 (by decide)) rfl rfl (Nat.le_of_ble_eq_true rfl) dX12_put_2 (fun H locs hP hD hS => ?_)
  refine lv_aload_n hx hb dX12_put_5 rfl (lv_at hl 0 rfl) ?_
  refine lv_iconst (v := 0) hx hb dX12_put_6 (by decide) ?_
  refine va_put (D := G) (ci := 12) (v := .int 0) (ty := .int) (C := RX12) (T := TX12) (N := 65) hx hb hts inT12 tyX12 tyX12_ok nmX12 hown hK hP hD hS 0 rfl rfl 0 (by decide) (hts _ tw_1885) (fun _ h9 => h9) rfl (tyX12_ok 0 (by decide)) rfl rfl (Nat.le_of_ble_eq_true rfl) dX12_put_7 (fun H locs hP hD hS => ?_)
  refine lv_aload_n hx hb dX12_put_10 rfl (lv_at hl 0 rfl) ?_
  refine lv_iload_n hx hb dX12_put_11 rfl (lv_at hl 1 rfl) ?_
  refine lv_i2l (v := (k).toInt64) hx hb dX12_put_12 rfl ?_
  refine lv_topl (fun x_1 he_x_1 => ?_)
  have hq_x_1 := z_i2l he_x_1
  have hL_k := z_full k
  refine z_callVi (As := [.long x_1]) (rest := []) (wr := []) ⟨hx, hb, hml, hown, hts⟩ hK hE hT hP hD hS hA (r_isKey l G cA h0 0 0 m_above m_under a_traySort a_trayMany a_numbers a_tape m_taped m_textEnd m_faultKind m_faultAt m_bad m_badAt m_token m_at m_behind m_number m_letters m_word a_c a_words m_markMany a_there a_tried a_best a_found m_thereMany m_foundMany m_orderHow m_orderRing m_orderMany m_hasBest m_bestTop m_bestBy a_weights a_shared m_random m_truePlace m_trueWay m_seconds m_done m_feelings m_tries m_leftOver m_playDoor m_playRing m_isOpen m_isOver m_wasTried m_hasPlayed a_feltNow a_last a_kept m_hasSeconds m_hasTurned m_hasRound a_hasFeels a_isOn m_firstAct m_meanTop m_meanBy a_order m_rowMany m_newSteps g_c x_1 hC_g_c) lk_RX12_275 ⟨rfl, rfl⟩ ⟨Nat.le_of_ble_eq_true rfl, Nat.le_of_ble_eq_true rfl⟩ 12 rfl rfl rfl [0, 1] [] rfl rfl (by decide) rfl hl.1 rfl (lv_room (Nat.le_of_ble_eq_true rfl)) dX12_put_13 ⟨Nat.le_of_ble_eq_true rfl, Nat.le_of_ble_eq_true rfl⟩ (fun r_2 u_3 H locs hw hP hD hS => ?_)
  obtain ⟨he_r_2, hw⟩ := hw
  rcases hw with ⟨rfl, -⟩ | ⟨rfl, hf_5, hf_6⟩
  · skip
    refine lv_if_eq (tgt := 27) hx hb dX12_put_16 (by decide) (fun _ => ?_) (fun h9 => absurd (by decide +kernel) h9)
    refine lv_aload_n hx hb dX12_put_27 rfl (lv_at hl 0 rfl) ?_
    refine lv_iconst (v := 2) hx hb dX12_put_28 (by decide) ?_
    refine z_callVi (As := [.int 2]) (rest := []) (wr := [(a_c, .inl (cA.1 0, 1825, .inl g_c))]) ⟨hx, hb, hml, hown, hts⟩ hK hE hT hP hD hS hA (r_no l G cA h0 0 0 m_above m_under a_traySort a_trayMany a_numbers a_tape m_taped m_textEnd m_faultKind m_faultAt m_bad m_badAt m_token m_at m_behind m_number m_letters m_word a_c a_words m_markMany a_there a_tried a_best a_found m_thereMany m_foundMany m_orderHow m_orderRing m_orderMany m_hasBest m_bestTop m_bestBy a_weights a_shared m_random m_truePlace m_trueWay m_seconds m_done m_feelings m_tries m_leftOver m_playDoor m_playRing m_isOpen m_isOver m_wasTried m_hasPlayed a_feltNow a_last a_kept m_hasSeconds m_hasTurned m_hasRound a_hasFeels a_isOn m_firstAct m_meanTop m_meanBy a_order m_rowMany m_newSteps 2) lk_RX12_97 ⟨rfl, rfl⟩ ⟨Nat.le_of_ble_eq_true rfl, Nat.le_of_ble_eq_true rfl⟩ 12 rfl rfl rfl [0] [1] rfl rfl (by decide) rfl hl.1 rfl (lv_room (Nat.le_of_ble_eq_true rfl)) dX12_put_29 ⟨Nat.le_of_ble_eq_true rfl, Nat.le_of_ble_eq_true rfl⟩ (fun r_8 u_9 H locs hw hP hD hS => ?_)
    obtain ⟨n_7, rfl⟩ : ∃ z, z = u_9 := ⟨_, rfl⟩
    obtain ⟨he_r_8, he_n_7, hw⟩ := hw
    obtain ⟨rfl, -⟩ := hw
    have hpost : ((0 : Int32) = 0 ∧ (0 ≤ (0 : Int32).toInt ∧ (0 : Int32).toInt ≤ 0) ∧ (zC g_c) ∧ (zHF g_c g_c)) ∨ ((0 : Int32) = 1 ∧ (0 ≤ n_7.toInt ∧ n_7.toInt ≤ 0) ∧ (0 ≤ (0 : Int32).toInt ∧ (0 : Int32).toInt ≤ 0) ∧ (zC g_c) ∧ (zHF g_c g_c)) := (Or.inl ⟨rfl, ⟨(by decide +kernel), hC_g_c, (zHF_refl g_c)⟩⟩)
    have hX_11 : F_r_put g_c k r pp = (((0 : Int32), n_7, (0 : Int32), g_c) : Int32 × Int32 × Int32 × (Nat → Int32)) := by
      refine (F_r_put_s ..).trans ?_
      try (extract_lets -merge -useContext +onlyGivenNames y9; have e9 : x_1 = y9 := (by first | exact he_x_1 | exact he_x_1.symm); clear_value y9; subst e9)
      extract_lets -merge -useContext +onlyGivenNames w9 y9; have e9 : (0 : Int32) = w9 := he_r_2; clear_value w9; subst e9
      refine (if_pos rfl).trans ?_
      extract_lets -merge -useContext +onlyGivenNames w9 y3_0 y3_1; have e9 : ((0 : Int32), n_7) = w9 := ((z_tS he_r_8 he_n_7.symm)).symm; clear_value w9; subst e9
      exact rfl
    exact hret _ _ _ _ _ _ (n_7, 0, g_c) [1, 0] hP hD hS rfl (by decide) dX12_put_32 (Or.inl rfl) ⟨(congrArg (fun z9 => z9.1) hX_11).symm, (congrArg (fun z9 => z9.2.1) hX_11).symm, (congrArg (fun z9 => z9.2.2.1) hX_11).symm, (congrArg (fun z9 => z9.2.2.2) hX_11).symm, hpost⟩
  · skip
    refine lv_if_eq (tgt := 27) hx hb dX12_put_16 (by decide) (fun h9 => absurd h9 (by decide +kernel)) (fun _ => ?_)
    refine lv_aload_n hx hb dX12_put_19 rfl (lv_at hl 0 rfl) ?_
    refine lv_iload_n hx hb dX12_put_20 rfl (lv_at hl 2 rfl) ?_
    refine z_callVi (As := [.int r]) (rest := []) (wr := []) ⟨hx, hb, hml, hown, hts⟩ hK hE hT hP hD hS hA (r_isRing l G cA h0 0 0 m_above m_under a_traySort a_trayMany a_numbers a_tape m_taped m_textEnd m_faultKind m_faultAt m_bad m_badAt m_token m_at m_behind m_number m_letters m_word a_c a_words m_markMany a_there a_tried a_best a_found m_thereMany m_foundMany m_orderHow m_orderRing m_orderMany m_hasBest m_bestTop m_bestBy a_weights a_shared m_random m_truePlace m_trueWay m_seconds m_done m_feelings m_tries m_leftOver m_playDoor m_playRing m_isOpen m_isOver m_wasTried m_hasPlayed a_feltNow a_last a_kept m_hasSeconds m_hasTurned m_hasRound a_hasFeels a_isOn m_firstAct m_meanTop m_meanBy a_order m_rowMany m_newSteps g_c r hC_g_c) lk_RX12_289 ⟨rfl, rfl⟩ ⟨Nat.le_of_ble_eq_true rfl, Nat.le_of_ble_eq_true rfl⟩ 12 rfl rfl rfl [0, 1] [] rfl rfl (by decide) rfl hl.1 rfl (lv_room (Nat.le_of_ble_eq_true rfl)) dX12_put_21 ⟨Nat.le_of_ble_eq_true rfl, Nat.le_of_ble_eq_true rfl⟩ (fun r_12 u_13 H locs hw hP hD hS => ?_)
    obtain ⟨he_r_12, hw⟩ := hw
    rcases hw with ⟨rfl, -⟩ | ⟨rfl, hf_15, hf_16⟩
    · skip
      refine lv_if_ne (tgt := 33) hx hb dX12_put_24 (by decide) (fun h9 => absurd (by decide +kernel) h9) (fun _ => ?_)
      refine lv_aload_n hx hb dX12_put_27 rfl (lv_at hl 0 rfl) ?_
      refine lv_iconst (v := 2) hx hb dX12_put_28 (by decide) ?_
      refine z_callVi (As := [.int 2]) (rest := []) (wr := [(a_c, .inl (cA.1 0, 1825, .inl g_c))]) ⟨hx, hb, hml, hown, hts⟩ hK hE hT hP hD hS hA (r_no l G cA h0 0 0 m_above m_under a_traySort a_trayMany a_numbers a_tape m_taped m_textEnd m_faultKind m_faultAt m_bad m_badAt m_token m_at m_behind m_number m_letters m_word a_c a_words m_markMany a_there a_tried a_best a_found m_thereMany m_foundMany m_orderHow m_orderRing m_orderMany m_hasBest m_bestTop m_bestBy a_weights a_shared m_random m_truePlace m_trueWay m_seconds m_done m_feelings m_tries m_leftOver m_playDoor m_playRing m_isOpen m_isOver m_wasTried m_hasPlayed a_feltNow a_last a_kept m_hasSeconds m_hasTurned m_hasRound a_hasFeels a_isOn m_firstAct m_meanTop m_meanBy a_order m_rowMany m_newSteps 2) lk_RX12_97 ⟨rfl, rfl⟩ ⟨Nat.le_of_ble_eq_true rfl, Nat.le_of_ble_eq_true rfl⟩ 12 rfl rfl rfl [0] [1] rfl rfl (by decide) rfl hl.1 rfl (lv_room (Nat.le_of_ble_eq_true rfl)) dX12_put_29 ⟨Nat.le_of_ble_eq_true rfl, Nat.le_of_ble_eq_true rfl⟩ (fun r_18 u_19 H locs hw hP hD hS => ?_)
      obtain ⟨n_17, rfl⟩ : ∃ z, z = u_19 := ⟨_, rfl⟩
      obtain ⟨he_r_18, he_n_17, hw⟩ := hw
      obtain ⟨rfl, -⟩ := hw
      have hpost : ((0 : Int32) = 0 ∧ (0 ≤ (0 : Int32).toInt ∧ (0 : Int32).toInt ≤ 0) ∧ (zC g_c) ∧ (zHF g_c g_c)) ∨ ((0 : Int32) = 1 ∧ (0 ≤ n_17.toInt ∧ n_17.toInt ≤ 0) ∧ (0 ≤ (0 : Int32).toInt ∧ (0 : Int32).toInt ≤ 0) ∧ (zC g_c) ∧ (zHF g_c g_c)) := (Or.inl ⟨rfl, ⟨(by decide +kernel), hC_g_c, (zHF_refl g_c)⟩⟩)
      have hX_21 : F_r_put g_c k r pp = (((0 : Int32), n_17, (0 : Int32), g_c) : Int32 × Int32 × Int32 × (Nat → Int32)) := by
        refine (F_r_put_s ..).trans ?_
        try (extract_lets -merge -useContext +onlyGivenNames y9; have e9 : x_1 = y9 := (by first | exact he_x_1 | exact he_x_1.symm); clear_value y9; subst e9)
        extract_lets -merge -useContext +onlyGivenNames w9 y9; have e9 : (1 : Int32) = w9 := he_r_2; clear_value w9; subst e9
        refine (if_neg (show ¬ (1 : Int32) = 0 by decide)).trans ?_
        extract_lets -merge -useContext +onlyGivenNames w9 y9; have e9 : (0 : Int32) = w9 := he_r_12; clear_value w9; subst e9
        refine (if_pos rfl).trans ?_
        extract_lets -merge -useContext +onlyGivenNames w9 y5_0 y5_1; have e9 : ((0 : Int32), n_17) = w9 := ((z_tS he_r_18 he_n_17.symm)).symm; clear_value w9; subst e9
        exact rfl
      exact hret _ _ _ _ _ _ (n_17, 0, g_c) [1, 0] hP hD hS rfl (by decide) dX12_put_32 (Or.inl rfl) ⟨(congrArg (fun z9 => z9.1) hX_21).symm, (congrArg (fun z9 => z9.2.1) hX_21).symm, (congrArg (fun z9 => z9.2.2.1) hX_21).symm, (congrArg (fun z9 => z9.2.2.2) hX_21).symm, hpost⟩
    · skip
      refine lv_if_ne (tgt := 33) hx hb dX12_put_24 (by decide) (fun _ => ?_) (fun h9 => absurd h9 (by decide +kernel))
      refine lv_iload_n hx hb dX12_put_33 rfl (lv_at hl 3 rfl) ?_
      refine lv_i2l (v := (pp).toInt64) hx hb dX12_put_34 rfl ?_
      refine lv_topl (fun x_22 he_x_22 => ?_)
      have hq_x_22 := z_i2l he_x_22
      have hL_pp := z_full pp
      refine lv_lconst (v := 0) hx hb dX12_put_35 (by decide) ?_
      refine lv_aload_n hx hb dX12_put_36 rfl (lv_at hl 0 rfl) ?_
      refine va_get (D := G) (ci := 12) (v := .ref a_c) (C := RX12) (T := TX12) (N := 65) hx hb hts inT12 hown hK hP 0 rfl rfl 20 (by decide) (hts _ tw_1905) (fun _ h9 => h9) rfl dX12_put_37 ?_
      refine lv_bipush (v := 95) hx hb dX12_put_40 (by decide) ?_
      refine lv_iload_n hx hb dX12_put_42 rfl (lv_at hl 2 rfl) ?_
      refine lv_iadd hx hb dX12_put_43 ?_
      refine lv_topi (fun x_23 he_x_23 => ?_)
      have hq_x_23 := z_addq he_x_23 hk_95 (rfl : r.toInt = _) (by omega) (by omega)
      refine va_iald hx hb hK hP 1 0 rfl rfl (z_inN (by omega) (by omega)) dX12_put_44 ?_
      refine lv_topi (fun x_24 he_x_24 => ?_)
      have hr_x_24 := z_ct hC_g_c he_x_24 (a := 95) (b := 97) (lo := 0) (hi := 10) (by decide +kernel) (by decide) (by omega) (by omega)
      have hsz_x_24 := z_sz (r := r.toInt) he_x_24 (by omega) (by omega)
      refine lv_i2l (v := (x_24).toInt64) hx hb dX12_put_45 rfl ?_
      refine lv_topl (fun x_25 he_x_25 => ?_)
      have hq_x_25 := z_i2l he_x_25
      refine z_callSi (As := [.long x_22, .long 0, .long x_25]) (rest := []) (wr := [(h0, .inr (12, [.int 0, .int 0, .long m_above, .long m_under, .ref a_traySort, .ref a_trayMany, .ref a_numbers, .ref a_tape, .int m_taped, .int m_textEnd, .int m_faultKind, .int m_faultAt, .int m_bad, .int m_badAt, .int m_token, .int m_at, .int m_behind, .int m_number, .int m_letters, .long m_word, .ref a_c, .ref a_words, .int m_markMany, .ref a_there, .ref a_tried, .ref a_best, .ref a_found, .int m_thereMany, .int m_foundMany, .int m_orderHow, .int m_orderRing, .int m_orderMany, .int m_hasBest, .long m_bestTop, .long m_bestBy, .ref a_weights, .ref a_shared, .int m_random, .int m_truePlace, .int m_trueWay, .int m_seconds, .int m_done, .int m_feelings, .int m_tries, .int m_leftOver, .int m_playDoor, .int m_playRing, .int m_isOpen, .int m_isOver, .int m_wasTried, .int m_hasPlayed, .ref a_feltNow, .ref a_last, .ref a_kept, .int m_hasSeconds, .int m_hasTurned, .int m_hasRound, .ref a_hasFeels, .ref a_isOn, .int m_firstAct, .long m_meanTop, .long m_meanBy, .ref a_order, .int m_rowMany, .int m_newSteps])), (a_c, .inl (cA.1 0, 1825, .inl g_c))]) ⟨hx, hb, hml, hown, hts⟩ hK hE hT hP hD hS hA (r_isIn l G cA x_22 0 x_25) lk_RX12_117 ⟨rfl, rfl⟩ ⟨Nat.le_of_ble_eq_true rfl, Nat.le_of_ble_eq_true rfl⟩ [] [0, 1] rfl rfl (by decide) rfl hl.1 rfl (lv_room (Nat.le_of_ble_eq_true rfl)) dX12_put_46 ⟨Nat.le_of_ble_eq_true rfl, Nat.le_of_ble_eq_true rfl⟩ (fun r_26 u_27 H locs hw hP hD hS => ?_)
      obtain ⟨he_r_26, hw⟩ := hw
      rcases hw with ⟨rfl, hf_29⟩ | ⟨rfl, hf_30⟩
      · skip
        refine lv_if_ne (tgt := 58) hx hb dX12_put_49 (by decide) (fun h9 => absurd (by decide +kernel) h9) (fun _ => ?_)
        refine lv_aload_n hx hb dX12_put_52 rfl (lv_at hl 0 rfl) ?_
        refine lv_iconst (v := 5) hx hb dX12_put_53 (by decide) ?_
        refine z_callVi (As := [.int 5]) (rest := []) (wr := [(a_c, .inl (cA.1 0, 1825, .inl g_c))]) ⟨hx, hb, hml, hown, hts⟩ hK hE hT hP hD hS hA (r_no l G cA h0 0 0 m_above m_under a_traySort a_trayMany a_numbers a_tape m_taped m_textEnd m_faultKind m_faultAt m_bad m_badAt m_token m_at m_behind m_number m_letters m_word a_c a_words m_markMany a_there a_tried a_best a_found m_thereMany m_foundMany m_orderHow m_orderRing m_orderMany m_hasBest m_bestTop m_bestBy a_weights a_shared m_random m_truePlace m_trueWay m_seconds m_done m_feelings m_tries m_leftOver m_playDoor m_playRing m_isOpen m_isOver m_wasTried m_hasPlayed a_feltNow a_last a_kept m_hasSeconds m_hasTurned m_hasRound a_hasFeels a_isOn m_firstAct m_meanTop m_meanBy a_order m_rowMany m_newSteps 5) lk_RX12_97 ⟨rfl, rfl⟩ ⟨Nat.le_of_ble_eq_true rfl, Nat.le_of_ble_eq_true rfl⟩ 12 rfl rfl rfl [0] [1] rfl rfl (by decide) rfl hl.1 rfl (lv_room (Nat.le_of_ble_eq_true rfl)) dX12_put_54 ⟨Nat.le_of_ble_eq_true rfl, Nat.le_of_ble_eq_true rfl⟩ (fun r_32 u_33 H locs hw hP hD hS => ?_)
        obtain ⟨n_31, rfl⟩ : ∃ z, z = u_33 := ⟨_, rfl⟩
        obtain ⟨he_r_32, he_n_31, hw⟩ := hw
        obtain ⟨rfl, -⟩ := hw
        have hpost : ((0 : Int32) = 0 ∧ (0 ≤ (0 : Int32).toInt ∧ (0 : Int32).toInt ≤ 0) ∧ (zC g_c) ∧ (zHF g_c g_c)) ∨ ((0 : Int32) = 1 ∧ (0 ≤ n_31.toInt ∧ n_31.toInt ≤ 0) ∧ (0 ≤ (0 : Int32).toInt ∧ (0 : Int32).toInt ≤ 0) ∧ (zC g_c) ∧ (zHF g_c g_c)) := (Or.inl ⟨rfl, ⟨(by decide +kernel), hC_g_c, (zHF_refl g_c)⟩⟩)
        have hX_35 : F_r_put g_c k r pp = (((0 : Int32), n_31, (0 : Int32), g_c) : Int32 × Int32 × Int32 × (Nat → Int32)) := by
          refine (F_r_put_s ..).trans ?_
          try (extract_lets -merge -useContext +onlyGivenNames y9; have e9 : x_1 = y9 := (by first | exact he_x_1 | exact he_x_1.symm); clear_value y9; subst e9)
          extract_lets -merge -useContext +onlyGivenNames w9 y9; have e9 : (1 : Int32) = w9 := he_r_2; clear_value w9; subst e9
          refine (if_neg (show ¬ (1 : Int32) = 0 by decide)).trans ?_
          extract_lets -merge -useContext +onlyGivenNames w9 y9; have e9 : (1 : Int32) = w9 := he_r_12; clear_value w9; subst e9
          refine (if_neg (show ¬ (1 : Int32) = 0 by decide)).trans ?_
          try (extract_lets -merge -useContext +onlyGivenNames y9; have e9 : x_22 = y9 := (by first | exact he_x_22 | exact he_x_22.symm); clear_value y9; subst e9)
          try (extract_lets -merge -useContext +onlyGivenNames y9; have e9 : x_23 = y9 := (by first | exact he_x_23 | exact he_x_23.symm); clear_value y9; subst e9)
          try (extract_lets -merge -useContext +onlyGivenNames y9; have e9 : x_24 = y9 := (by first | exact he_x_24 | exact he_x_24.symm); clear_value y9; subst e9)
          try (extract_lets -merge -useContext +onlyGivenNames y9; have e9 : x_25 = y9 := (by first | exact he_x_25 | exact he_x_25.symm); clear_value y9; subst e9)
          extract_lets -merge -useContext +onlyGivenNames w9 y9; have e9 : (0 : Int32) = w9 := he_r_26; clear_value w9; subst e9
          refine (if_pos rfl).trans ?_
          extract_lets -merge -useContext +onlyGivenNames w9 y11_0 y11_1; have e9 : ((0 : Int32), n_31) = w9 := ((z_tS he_r_32 he_n_31.symm)).symm; clear_value w9; subst e9
          exact rfl
        exact hret _ _ _ _ _ _ (n_31, 0, g_c) [1, 0] hP hD hS rfl (by decide) dX12_put_57 (Or.inl rfl) ⟨(congrArg (fun z9 => z9.1) hX_35).symm, (congrArg (fun z9 => z9.2.1) hX_35).symm, (congrArg (fun z9 => z9.2.2.1) hX_35).symm, (congrArg (fun z9 => z9.2.2.2) hX_35).symm, hpost⟩
      · skip
        refine lv_if_ne (tgt := 58) hx hb dX12_put_49 (by decide) (fun _ => ?_) (fun h9 => absurd h9 (by decide +kernel))
        refine lv_aload_n hx hb dX12_put_58 rfl (lv_at hl 0 rfl) ?_
        refine lv_iload_n hx hb dX12_put_59 rfl (lv_at hl 1 rfl) ?_
        refine z_callVi (As := [.int k]) (rest := []) (wr := []) ⟨hx, hb, hml, hown, hts⟩ hK hE hT hP hD hS hA (r_ringOf l G cA h0 0 0 m_above m_under a_traySort a_trayMany a_numbers a_tape m_taped m_textEnd m_faultKind m_faultAt m_bad m_badAt m_token m_at m_behind m_number m_letters m_word a_c a_words m_markMany a_there a_tried a_best a_found m_thereMany m_foundMany m_orderHow m_orderRing m_orderMany m_hasBest m_bestTop m_bestBy a_weights a_shared m_random m_truePlace m_trueWay m_seconds m_done m_feelings m_tries m_leftOver m_playDoor m_playRing m_isOpen m_isOver m_wasTried m_hasPlayed a_feltNow a_last a_kept m_hasSeconds m_hasTurned m_hasRound a_hasFeels a_isOn m_firstAct m_meanTop m_meanBy a_order m_rowMany m_newSteps g_c k (by omega) hC_g_c) lk_RX12_278 ⟨rfl, rfl⟩ ⟨Nat.le_of_ble_eq_true rfl, Nat.le_of_ble_eq_true rfl⟩ 12 rfl rfl rfl [0, 1] [] rfl rfl (by decide) rfl hl.1 rfl (lv_room (Nat.le_of_ble_eq_true rfl)) dX12_put_60 ⟨Nat.le_of_ble_eq_true rfl, Nat.le_of_ble_eq_true rfl⟩ (fun r_36 u_37 H locs hw hP hD hS => ?_)
        obtain ⟨he_r_36, hw⟩ := hw
        obtain ⟨hr_r_36, hf_39⟩ := hw
        refine lv_if_lt (tgt := 73) hx hb dX12_put_63 (by decide) (fun c_40 => ?_) (fun c_40 => ?_)
        · have b_41 := z_fltT c_40
          refine lv_aload_n hx hb dX12_put_73 rfl (lv_at hl 0 rfl) ?_
          have hn_k_42 : 0 ≤ pp.toInt ∧ pp.toInt ≤ 10 := by omega
          refine lv_iload_n hx hb dX12_put_74 rfl (lv_at hl 1 rfl) ?_
          refine lv_iload_n hx hb dX12_put_75 rfl (lv_at hl 2 rfl) ?_
          refine lv_iload_n hx hb dX12_put_76 rfl (lv_at hl 3 rfl) ?_
          refine z_callVv (As := [.int k, .int r, .int pp]) (rest := []) (wr := []) ⟨hx, hb, hml, hown, hts⟩ hK hE hT hP hD hS hA (r_insert l G cA h0 0 0 m_above m_under a_traySort a_trayMany a_numbers a_tape m_taped m_textEnd m_faultKind m_faultAt m_bad m_badAt m_token m_at m_behind m_number m_letters m_word a_c a_words m_markMany a_there a_tried a_best a_found m_thereMany m_foundMany m_orderHow m_orderRing m_orderMany m_hasBest m_bestTop m_bestBy a_weights a_shared m_random m_truePlace m_trueWay m_seconds m_done m_feelings m_tries m_leftOver m_playDoor m_playRing m_isOpen m_isOver m_wasTried m_hasPlayed a_feltNow a_last a_kept m_hasSeconds m_hasTurned m_hasRound a_hasFeels a_isOn m_firstAct m_meanTop m_meanBy a_order m_rowMany m_newSteps g_c k r pp (by omega) (by omega) (by omega) hC_g_c (by omega) (by omega) (by omega) (zRO_neg hf_39 (by omega))) lk_RX12_308 ⟨rfl, rfl⟩ ⟨Nat.le_of_ble_eq_true rfl, Nat.le_of_ble_eq_true rfl⟩ 12 rfl rfl rfl [0, 1] [] rfl rfl (by decide) rfl hl.1 rfl (lv_room (Nat.le_of_ble_eq_true rfl)) dX12_put_77 ⟨Nat.le_of_ble_eq_true rfl, Nat.le_of_ble_eq_true rfl⟩ (fun u_45 H locs hw hP hD hS => ?_)
          obtain ⟨n_43, rfl⟩ : ∃ z, z = u_45 := ⟨_, rfl⟩
          obtain ⟨he_n_43, hw⟩ := hw
          obtain ⟨hC_n_43, hf_47, hf_48⟩ := hw
          have hs_49 : zHF g_c n_43 := (zHF_trans (zHF_refl g_c) hf_47)
          refine lv_aload_n hx hb dX12_put_80 rfl (lv_at hl 0 rfl) ?_
          refine lv_iload_n hx hb dX12_put_81 rfl (lv_at hl 2 rfl) ?_
          refine z_callVv (As := [.int r]) (rest := []) (wr := []) ⟨hx, hb, hml, hown, hts⟩ hK hE hT hP hD hS hA (r_letGo l G cA h0 0 0 m_above m_under a_traySort a_trayMany a_numbers a_tape m_taped m_textEnd m_faultKind m_faultAt m_bad m_badAt m_token m_at m_behind m_number m_letters m_word a_c a_words m_markMany a_there a_tried a_best a_found m_thereMany m_foundMany m_orderHow m_orderRing m_orderMany m_hasBest m_bestTop m_bestBy a_weights a_shared m_random m_truePlace m_trueWay m_seconds m_done m_feelings m_tries m_leftOver m_playDoor m_playRing m_isOpen m_isOver m_wasTried m_hasPlayed a_feltNow a_last a_kept m_hasSeconds m_hasTurned m_hasRound a_hasFeels a_isOn m_firstAct m_meanTop m_meanBy a_order m_rowMany m_newSteps n_43 r hC_n_43) lk_RX12_305 ⟨rfl, rfl⟩ ⟨Nat.le_of_ble_eq_true rfl, Nat.le_of_ble_eq_true rfl⟩ 12 rfl rfl rfl [0, 1] [] rfl rfl (by decide) rfl hl.1 rfl (lv_room (Nat.le_of_ble_eq_true rfl)) dX12_put_82 ⟨Nat.le_of_ble_eq_true rfl, Nat.le_of_ble_eq_true rfl⟩ (fun u_52 H locs hw hP hD hS => ?_)
          obtain ⟨n_50, rfl⟩ : ∃ z, z = u_52 := ⟨_, rfl⟩
          obtain ⟨he_n_50, hw⟩ := hw
          obtain ⟨hC_n_50, hf_54⟩ := hw
          have hs_55 : zHF g_c n_50 := (zHF_trans hs_49 (zHF_10 hf_54))
          refine lv_iconst (v := 1) hx hb dX12_put_85 (by decide) ?_
          have hpost : ((1 : Int32) = 0 ∧ (0 ≤ (0 : Int32).toInt ∧ (0 : Int32).toInt ≤ 0) ∧ (zC n_50) ∧ (zHF g_c n_50)) ∨ ((1 : Int32) = 1 ∧ (0 ≤ (0 : Int32).toInt ∧ (0 : Int32).toInt ≤ 0) ∧ (0 ≤ (0 : Int32).toInt ∧ (0 : Int32).toInt ≤ 0) ∧ (zC n_50) ∧ (zHF g_c n_50)) := (Or.inr ⟨rfl, ⟨(by decide +kernel), (by decide +kernel), hC_n_50, hs_55⟩⟩)
          have hX_56 : F_r_put g_c k r pp = (((1 : Int32), (0 : Int32), (0 : Int32), n_50) : Int32 × Int32 × Int32 × (Nat → Int32)) := by
            refine (F_r_put_s ..).trans ?_
            try (extract_lets -merge -useContext +onlyGivenNames y9; have e9 : x_1 = y9 := (by first | exact he_x_1 | exact he_x_1.symm); clear_value y9; subst e9)
            extract_lets -merge -useContext +onlyGivenNames w9 y9; have e9 : (1 : Int32) = w9 := he_r_2; clear_value w9; subst e9
            refine (if_neg (show ¬ (1 : Int32) = 0 by decide)).trans ?_
            extract_lets -merge -useContext +onlyGivenNames w9 y9; have e9 : (1 : Int32) = w9 := he_r_12; clear_value w9; subst e9
            refine (if_neg (show ¬ (1 : Int32) = 0 by decide)).trans ?_
            try (extract_lets -merge -useContext +onlyGivenNames y9; have e9 : x_22 = y9 := (by first | exact he_x_22 | exact he_x_22.symm); clear_value y9; subst e9)
            try (extract_lets -merge -useContext +onlyGivenNames y9; have e9 : x_23 = y9 := (by first | exact he_x_23 | exact he_x_23.symm); clear_value y9; subst e9)
            try (extract_lets -merge -useContext +onlyGivenNames y9; have e9 : x_24 = y9 := (by first | exact he_x_24 | exact he_x_24.symm); clear_value y9; subst e9)
            try (extract_lets -merge -useContext +onlyGivenNames y9; have e9 : x_25 = y9 := (by first | exact he_x_25 | exact he_x_25.symm); clear_value y9; subst e9)
            extract_lets -merge -useContext +onlyGivenNames w9 y9; have e9 : (1 : Int32) = w9 := he_r_26; clear_value w9; subst e9
            refine (if_neg (show ¬ (1 : Int32) = 0 by decide)).trans ?_
            extract_lets -merge -useContext +onlyGivenNames w9 y9; have e9 : r_36 = w9 := he_r_36; clear_value w9; subst e9
            refine (if_pos c_40).trans ?_
            extract_lets -merge -useContext +onlyGivenNames w9 y9; have e9 : n_43 = w9 := he_n_43; clear_value w9; subst e9
            extract_lets -merge -useContext +onlyGivenNames w9 y9; have e9 : n_50 = w9 := he_n_50; clear_value w9; subst e9
            exact rfl
          exact hret _ _ _ _ _ _ (0, 0, n_50) [0, 1] hP hD hS rfl (by decide) dX12_put_86 (Or.inr rfl) ⟨(congrArg (fun z9 => z9.1) hX_56).symm, (congrArg (fun z9 => z9.2.1) hX_56).symm, (congrArg (fun z9 => z9.2.2.1) hX_56).symm, (congrArg (fun z9 => z9.2.2.2) hX_56).symm, hpost⟩
        · have b_57 := z_fgeF c_40
          refine lv_aload_n hx hb dX12_put_66 rfl (lv_at hl 0 rfl) ?_
          refine lv_bipush (v := 9) hx hb dX12_put_67 (by decide) ?_
          refine z_callVi (As := [.int 9]) (rest := []) (wr := [(a_c, .inl (cA.1 0, 1825, .inl g_c))]) ⟨hx, hb, hml, hown, hts⟩ hK hE hT hP hD hS hA (r_no l G cA h0 0 0 m_above m_under a_traySort a_trayMany a_numbers a_tape m_taped m_textEnd m_faultKind m_faultAt m_bad m_badAt m_token m_at m_behind m_number m_letters m_word a_c a_words m_markMany a_there a_tried a_best a_found m_thereMany m_foundMany m_orderHow m_orderRing m_orderMany m_hasBest m_bestTop m_bestBy a_weights a_shared m_random m_truePlace m_trueWay m_seconds m_done m_feelings m_tries m_leftOver m_playDoor m_playRing m_isOpen m_isOver m_wasTried m_hasPlayed a_feltNow a_last a_kept m_hasSeconds m_hasTurned m_hasRound a_hasFeels a_isOn m_firstAct m_meanTop m_meanBy a_order m_rowMany m_newSteps 9) lk_RX12_97 ⟨rfl, rfl⟩ ⟨Nat.le_of_ble_eq_true rfl, Nat.le_of_ble_eq_true rfl⟩ 12 rfl rfl rfl [0] [1] rfl rfl (by decide) rfl hl.1 rfl (lv_room (Nat.le_of_ble_eq_true rfl)) dX12_put_69 ⟨Nat.le_of_ble_eq_true rfl, Nat.le_of_ble_eq_true rfl⟩ (fun r_59 u_60 H locs hw hP hD hS => ?_)
          obtain ⟨n_58, rfl⟩ : ∃ z, z = u_60 := ⟨_, rfl⟩
          obtain ⟨he_r_59, he_n_58, hw⟩ := hw
          obtain ⟨rfl, -⟩ := hw
          have hpost : ((0 : Int32) = 0 ∧ (0 ≤ (0 : Int32).toInt ∧ (0 : Int32).toInt ≤ 0) ∧ (zC g_c) ∧ (zHF g_c g_c)) ∨ ((0 : Int32) = 1 ∧ (0 ≤ n_58.toInt ∧ n_58.toInt ≤ 0) ∧ (0 ≤ (0 : Int32).toInt ∧ (0 : Int32).toInt ≤ 0) ∧ (zC g_c) ∧ (zHF g_c g_c)) := (Or.inl ⟨rfl, ⟨(by decide +kernel), hC_g_c, (zHF_refl g_c)⟩⟩)
          have hX_62 : F_r_put g_c k r pp = (((0 : Int32), n_58, (0 : Int32), g_c) : Int32 × Int32 × Int32 × (Nat → Int32)) := by
            refine (F_r_put_s ..).trans ?_
            try (extract_lets -merge -useContext +onlyGivenNames y9; have e9 : x_1 = y9 := (by first | exact he_x_1 | exact he_x_1.symm); clear_value y9; subst e9)
            extract_lets -merge -useContext +onlyGivenNames w9 y9; have e9 : (1 : Int32) = w9 := he_r_2; clear_value w9; subst e9
            refine (if_neg (show ¬ (1 : Int32) = 0 by decide)).trans ?_
            extract_lets -merge -useContext +onlyGivenNames w9 y9; have e9 : (1 : Int32) = w9 := he_r_12; clear_value w9; subst e9
            refine (if_neg (show ¬ (1 : Int32) = 0 by decide)).trans ?_
            try (extract_lets -merge -useContext +onlyGivenNames y9; have e9 : x_22 = y9 := (by first | exact he_x_22 | exact he_x_22.symm); clear_value y9; subst e9)
            try (extract_lets -merge -useContext +onlyGivenNames y9; have e9 : x_23 = y9 := (by first | exact he_x_23 | exact he_x_23.symm); clear_value y9; subst e9)
            try (extract_lets -merge -useContext +onlyGivenNames y9; have e9 : x_24 = y9 := (by first | exact he_x_24 | exact he_x_24.symm); clear_value y9; subst e9)
            try (extract_lets -merge -useContext +onlyGivenNames y9; have e9 : x_25 = y9 := (by first | exact he_x_25 | exact he_x_25.symm); clear_value y9; subst e9)
            extract_lets -merge -useContext +onlyGivenNames w9 y9; have e9 : (1 : Int32) = w9 := he_r_26; clear_value w9; subst e9
            refine (if_neg (show ¬ (1 : Int32) = 0 by decide)).trans ?_
            extract_lets -merge -useContext +onlyGivenNames w9 y9; have e9 : r_36 = w9 := he_r_36; clear_value w9; subst e9
            refine (if_neg c_40).trans ?_
            extract_lets -merge -useContext +onlyGivenNames w9 y13_0 y13_1; have e9 : ((0 : Int32), n_58) = w9 := ((z_tS he_r_59 he_n_58.symm)).symm; clear_value w9; subst e9
            exact rfl
          exact hret _ _ _ _ _ _ (n_58, 0, g_c) [1, 0] hP hD hS rfl (by decide) dX12_put_72 (Or.inl rfl) ⟨(congrArg (fun z9 => z9.1) hX_62).symm, (congrArg (fun z9 => z9.2.1) hX_62).symm, (congrArg (fun z9 => z9.2.2.1) hX_62).symm, (congrArg (fun z9 => z9.2.2.2) hX_62).symm, hpost⟩
