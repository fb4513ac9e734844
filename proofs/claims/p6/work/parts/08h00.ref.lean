set_option maxHeartbeats 4000000 in
set_option maxRecDepth 100000 in
theorem r_status (l : Launch) (G : va_G) (cA : zCA) (h0 : Nat) (m_status : Int32) (m_thrown : Int32) (m_above : Int64) (m_under : Int64) (a_traySort : Nat) (a_trayMany : Nat) (a_numbers : Nat) (a_tape : Nat) (m_taped : Int32) (m_textEnd : Int32) (m_faultKind : Int32) (m_faultAt : Int32) (m_bad : Int32) (m_badAt : Int32) (m_token : Int32) (m_at : Int32) (m_behind : Int32) (m_number : Int32) (m_letters : Int32) (m_word : Int64) (a_c : Nat) (a_words : Nat) (m_markMany : Int32) (a_there : Nat) (a_tried : Nat) (a_best : Nat) (a_found : Nat) (m_thereMany : Int32) (m_foundMany : Int32) (m_orderHow : Int32) (m_orderRing : Int32) (m_orderMany : Int32) (m_hasBest : Int32) (m_bestTop : Int64) (m_bestBy : Int64) (a_weights : Nat) (a_shared : Nat) (m_random : Int32) (m_truePlace : Int32) (m_trueWay : Int32) (m_seconds : Int32) (m_done : Int32) (m_feelings : Int32) (m_tries : Int32) (m_leftOver : Int32) (m_playDoor : Int32) (m_playRing : Int32) (m_isOpen : Int32) (m_isOver : Int32) (m_wasTried : Int32) (m_hasPlayed : Int32) (a_feltNow : Nat) (a_last : Nat) (a_kept : Nat) (m_hasSeconds : Int32) (m_hasTurned : Int32) (m_hasRound : Int32) (a_hasFeels : Nat) (a_isOn : Nat) (m_firstAct : Int32) (m_meanTop : Int64) (m_meanBy : Int64) (a_order : Nat) (m_rowMany : Int32) (m_newSteps : Int32) : zCi l yX12_status cX12_status 1 (some .int) ({ frames := 0, cells := 0, slots := 0, locals := 0 }) G cA [.ref h0] [(h0, .inr (12, [.int m_status, .int m_thrown, .long m_above, .long m_under, .ref a_traySort, .ref a_trayMany, .ref a_numbers, .ref a_tape, .int m_taped, .int m_textEnd, .int m_faultKind, .int m_faultAt, .int m_bad, .int m_badAt, .int m_token, .int m_at, .int m_behind, .int m_number, .int m_letters, .long m_word, .ref a_c, .ref a_words, .int m_markMany, .ref a_there, .ref a_tried, .ref a_best, .ref a_found, .int m_thereMany, .int m_foundMany, .int m_orderHow, .int m_orderRing, .int m_orderMany, .int m_hasBest, .long m_bestTop, .long m_bestBy, .ref a_weights, .ref a_shared, .int m_random, .int m_truePlace, .int m_trueWay, .int m_seconds, .int m_done, .int m_feelings, .int m_tries, .int m_leftOver, .int m_playDoor, .int m_playRing, .int m_isOpen, .int m_isOver, .int m_wasTried, .int m_hasPlayed, .ref a_feltNow, .ref a_last, .ref a_kept, .int m_hasSeconds, .int m_hasTurned, .int m_hasRound, .ref a_hasFeels, .ref a_isOn, .int m_firstAct, .long m_meanTop, .long m_meanBy, .ref a_order, .int m_rowMany, .int m_newSteps]))] (S := Int32) (fun (r : Int32) (u : Int32) => (0 ≤ u.toInt ∧ u.toInt ≤ 0)) (fun (u : Int32) => [(h0, .inr (12, [.int m_status, .int u, .long m_above, .long m_under, .ref a_traySort, .ref a_trayMany, .ref a_numbers, .ref a_tape, .int m_taped, .int m_textEnd, .int m_faultKind, .int m_faultAt, .int m_bad, .int m_badAt, .int m_token, .int m_at, .int m_behind, .int m_number, .int m_letters, .long m_word, .ref a_c, .ref a_words, .int m_markMany, .ref a_there, .ref a_tried, .ref a_best, .ref a_found, .int m_thereMany, .int m_foundMany, .int m_orderHow, .int m_orderRing, .int m_orderMany, .int m_hasBest, .long m_bestTop, .long m_bestBy, .ref a_weights, .ref a_shared, .int m_random, .int m_truePlace, .int m_trueWay, .int m_seconds, .int m_done, .int m_feelings, .int m_tries, .int m_leftOver, .int m_playDoor, .int m_playRing, .int m_isOpen, .int m_isOver, .int m_wasTried, .int m_hasPlayed, .ref a_feltNow, .ref a_last, .ref a_kept, .int m_hasSeconds, .int m_hasTurned, .int m_hasRound, .ref a_hasFeels, .ref a_isOn, .int m_firstAct, .long m_meanTop, .long m_meanBy, .ref a_order, .int m_rowMany, .int m_newSteps]))]) 0 0 := by
  refine z_start2i (own := RX12) (by decide) (Nat.le_of_ble_eq_true rfl) rfl ?_
  intro p e s m args below meth c A ls Q hx hb hml hts hown hK hE hT hP hD hS hA hl hret
  have hl : lv_has ls 1 [(0, .ref h0)] := hl
  refine lv_aload_n hx hb dX12_status_0 rfl (lv_at hl 0 rfl) ?_
  refine lv_iconst (v := 0) hx hb dX12_status_1 (by decide) ?_
  refine va_put (D := G) (ci := 12) (v := .int 0) (ty := .int) (C := RX12) (T := TX12) (N := 65) hx hb hts inT12 tyX12 tyX12_ok nmX12 hown hK hP hD hS 0 rfl rfl 1 (by decide) (hts _ tw_1886) (fun _ h9 => h9) rfl (tyX12_ok 1 (by decide)) rfl rfl (Nat.le_of_ble_eq_true rfl) dX12_status_2 (fun H locs hP hD hS => ?_)
  refine lv_aload_n hx hb dX12_status_5 rfl (lv_at hl 0 rfl) ?_
  refine va_get (D := G) (ci := 12) (v := .int m_status) (C := RX12) (T := TX12) (N := 65) hx hb hts inT12 hown hK hP 0 rfl rfl 0 (by decide) (hts _ tw_1885) (fun _ h9 => h9) rfl dX12_status_6 ?_
  have hpost : (0 ≤ (0 : Int32).toInt ∧ (0 : Int32).toInt ≤ 0) := (by decide +kernel)
  exact hret _ _ _ _ _ _ 0 [0] hP hD hS rfl (by decide) dX12_status_9 hpost
set_option maxHeartbeats 4000000 in
set_option maxRecDepth 100000 in
theorem r_top (l : Launch) (G : va_G) (cA : zCA) (h0 : Nat) (m_status : Int32) (m_thrown : Int32) (m_above : Int64) (m_under : Int64) (a_traySort : Nat) (a_trayMany : Nat) (a_numbers : Nat) (a_tape : Nat) (m_taped : Int32) (m_textEnd : Int32) (m_faultKind : Int32) (m_faultAt : Int32) (m_bad : Int32) (m_badAt : Int32) (m_token : Int32) (m_at : Int32) (m_behind : Int32) (m_number : Int32) (m_letters : Int32) (m_word : Int64) (a_c : Nat) (a_words : Nat) (m_markMany : Int32) (a_there : Nat) (a_tried : Nat) (a_best : Nat) (a_found : Nat) (m_thereMany : Int32) (m_foundMany : Int32) (m_orderHow : Int32) (m_orderRing : Int32) (m_orderMany : Int32) (m_hasBest : Int32) (m_bestTop : Int64) (m_bestBy : Int64) (a_weights : Nat) (a_shared : Nat) (m_random : Int32) (m_truePlace : Int32) (m_trueWay : Int32) (m_seconds : Int32) (m_done : Int32) (m_feelings : Int32) (m_tries : Int32) (m_leftOver : Int32) (m_playDoor : Int32) (m_playRing : Int32) (m_isOpen : Int32) (m_isOver : Int32) (m_wasTried : Int32) (m_hasPlayed : Int32) (a_feltNow : Nat) (a_last : Nat) (a_kept : Nat) (m_hasSeconds : Int32) (m_hasTurned : Int32) (m_hasRound : Int32) (a_hasFeels : Nat) (a_isOn : Nat) (m_firstAct : Int32) (m_meanTop : Int64) (m_meanBy : Int64) (a_order : Nat) (m_rowMany : Int32) (m_newSteps : Int32) : zCl l yX12_top cX12_top 1 (some .long) ({ frames := 0, cells := 0, slots := 0, locals := 0 }) G cA [.ref h0] [(h0, .inr (12, [.int m_status, .int m_thrown, .long m_above, .long m_under, .ref a_traySort, .ref a_trayMany, .ref a_numbers, .ref a_tape, .int m_taped, .int m_textEnd, .int m_faultKind, .int m_faultAt, .int m_bad, .int m_badAt, .int m_token, .int m_at, .int m_behind, .int m_number, .int m_letters, .long m_word, .ref a_c, .ref a_words, .int m_markMany, .ref a_there, .ref a_tried, .ref a_best, .ref a_found, .int m_thereMany, .int m_foundMany, .int m_orderHow, .int m_orderRing, .int m_orderMany, .int m_hasBest, .long m_bestTop, .long m_bestBy, .ref a_weights, .ref a_shared, .int m_random, .int m_truePlace, .int m_trueWay, .int m_seconds, .int m_done, .int m_feelings, .int m_tries, .int m_leftOver, .int m_playDoor, .int m_playRing, .int m_isOpen, .int m_isOver, .int m_wasTried, .int m_hasPlayed, .ref a_feltNow, .ref a_last, .ref a_kept, .int m_hasSeconds, .int m_hasTurned, .int m_hasRound, .ref a_hasFeels, .ref a_isOn, .int m_firstAct, .long m_meanTop, .long m_meanBy, .ref a_order, .int m_rowMany, .int m_newSteps]))] (S := Int32) (fun (r : Int64) (u : Int32) => (0 ≤ u.toInt ∧ u.toInt ≤ 0)) (fun (u : Int32) => [(h0, .inr (12, [.int m_status, .int u, .long m_above, .long m_under, .ref a_traySort, .ref a_trayMany, .ref a_numbers, .ref a_tape, .int m_taped, .int m_textEnd, .int m_faultKind, .int m_faultAt, .int m_bad, .int m_badAt, .int m_token, .int m_at, .int m_behind, .int m_number, .int m_letters, .long m_word, .ref a_c, .ref a_words, .int m_markMany, .ref a_there, .ref a_tried, .ref a_best, .ref a_found, .int m_thereMany, .int m_foundMany, .int m_orderHow, .int m_orderRing, .int m_orderMany, .int m_hasBest, .long m_bestTop, .long m_bestBy, .ref a_weights, .ref a_shared, .int m_random, .int m_truePlace, .int m_trueWay, .int m_seconds, .int m_done, .int m_feelings, .int m_tries, .int m_leftOver, .int m_playDoor, .int m_playRing, .int m_isOpen, .int m_isOver, .int m_wasTried, .int m_hasPlayed, .ref a_feltNow, .ref a_last, .ref a_kept, .int m_hasSeconds, .int m_hasTurned, .int m_hasRound, .ref a_hasFeels, .ref a_isOn, .int m_firstAct, .long m_meanTop, .long m_meanBy, .ref a_order, .int m_rowMany, .int m_newSteps]))]) 0 0 := by
  refine z_start2l (own := RX12) (by decide) (Nat.le_of_ble_eq_true rfl) rfl ?_
  intro p e s m args below meth c A ls Q hx hb hml hts hown hK hE hT hP hD hS hA hl hret
  have hl : lv_has ls 1 [(0, .ref h0)] := hl
  refine lv_aload_n hx hb dX12_top_0 rfl (lv_at hl 0 rfl) ?_
  refine lv_iconst (v := 0) hx hb dX12_top_1 (by decide) ?_
  refine va_put (D := G) (ci := 12) (v := .int 0) (ty := .int) (C := RX12) (T := TX12) (N := 65) hx hb hts inT12 tyX12 tyX12_ok nmX12 hown hK hP hD hS 0 rfl rfl 1 (by decide) (hts _ tw_1886) (fun _ h9 => h9) rfl (tyX12_ok 1 (by decide)) rfl rfl (Nat.le_of_ble_eq_true rfl) dX12_top_2 (fun H locs hP hD hS => ?_)
  refine lv_aload_n hx hb dX12_top_5 rfl (lv_at hl 0 rfl) ?_
  refine va_get (D := G) (ci := 12) (v := .long m_above) (C := RX12) (T := TX12) (N := 65) hx hb hts inT12 hown hK hP 0 rfl rfl 2 (by decide) (hts _ tw_1887) (fun _ h9 => h9) rfl dX12_top_6 ?_
  have hpost : (0 ≤ (0 : Int32).toInt ∧ (0 : Int32).toInt ≤ 0) := (by decide +kernel)
  exact hret _ _ _ _ _ _ 0 [0] hP hD hS rfl (by decide) dX12_top_9 hpost
set_option maxHeartbeats 4000000 in
set_option maxRecDepth 100000 in
theorem r_bottom (l : Launch) (G : va_G) (cA : zCA) (h0 : Nat) (m_status : Int32) (m_thrown : Int32) (m_above : Int64) (m_under : Int64) (a_traySort : Nat) (a_trayMany : Nat) (a_numbers : Nat) (a_tape : Nat) (m_taped : Int32) (m_textEnd : Int32) (m_faultKind : Int32) (m_faultAt : Int32) (m_bad : Int32) (m_badAt : Int32) (m_token : Int32) (m_at : Int32) (m_behind : Int32) (m_number : Int32) (m_letters : Int32) (m_word : Int64) (a_c : Nat) (a_words : Nat) (m_markMany : Int32) (a_there : Nat) (a_tried : Nat) (a_best : Nat) (a_found : Nat) (m_thereMany : Int32) (m_foundMany : Int32) (m_orderHow : Int32) (m_orderRing : Int32) (m_orderMany : Int32) (m_hasBest : Int32) (m_bestTop : Int64) (m_bestBy : Int64) (a_weights : Nat) (a_shared : Nat) (m_random : Int32) (m_truePlace : Int32) (m_trueWay : Int32) (m_seconds : Int32) (m_done : Int32) (m_feelings : Int32) (m_tries : Int32) (m_leftOver : Int32) (m_playDoor : Int32) (m_playRing : Int32) (m_isOpen : Int32) (m_isOver : Int32) (m_wasTried : Int32) (m_hasPlayed : Int32) (a_feltNow : Nat) (a_last : Nat) (a_kept : Nat) (m_hasSeconds : Int32) (m_hasTurned : Int32) (m_hasRound : Int32) (a_hasFeels : Nat) (a_isOn : Nat) (m_firstAct : Int32) (m_meanTop : Int64) (m_meanBy : Int64) (a_order : Nat) (m_rowMany : Int32) (m_newSteps : Int32) : zCl l yX12_bottom cX12_bottom 1 (some .long) ({ frames := 0, cells := 0, slots := 0, locals := 0 }) G cA [.ref h0] [(h0, .inr (12, [.int m_status, .int m_thrown, .long m_above, .long m_under, .ref a_traySort, .ref a_trayMany, .ref a_numbers, .ref a_tape, .int m_taped, .int m_textEnd, .int m_faultKind, .int m_faultAt, .int m_bad, .int m_badAt, .int m_token, .int m_at, .int m_behind, .int m_number, .int m_letters, .long m_word, .ref a_c, .ref a_words, .int m_markMany, .ref a_there, .ref a_tried, .ref a_best, .ref a_found, .int m_thereMany, .int m_foundMany, .int m_orderHow, .int m_orderRing, .int m_orderMany, .int m_hasBest, .long m_bestTop, .long m_bestBy, .ref a_weights, .ref a_shared, .int m_random, .int m_truePlace, .int m_trueWay, .int m_seconds, .int m_done, .int m_feelings, .int m_tries, .int m_leftOver, .int m_playDoor, .int m_playRing, .int m_isOpen, .int m_isOver, .int m_wasTried, .int m_hasPlayed, .ref a_feltNow, .ref a_last, .ref a_kept, .int m_hasSeconds, .int m_hasTurned, .int m_hasRound, .ref a_hasFeels, .ref a_isOn, .int m_firstAct, .long m_meanTop, .long m_meanBy, .ref a_order, .int m_rowMany, .int m_newSteps]))] (S := Int32) (fun (r : Int64) (u : Int32) => (0 ≤ u.toInt ∧ u.toInt ≤ 0)) (fun (u : Int32) => [(h0, .inr (12, [.int m_status, .int u, .long m_above, .long m_under, .ref a_traySort, .ref a_trayMany, .ref a_numbers, .ref a_tape, .int m_taped, .int m_textEnd, .int m_faultKind, .int m_faultAt, .int m_bad, .int m_badAt, .int m_token, .int m_at, .int m_behind, .int m_number, .int m_letters, .long m_word, .ref a_c, .ref a_words, .int m_markMany, .ref a_there, .ref a_tried, .ref a_best, .ref a_found, .int m_thereMany, .int m_foundMany, .int m_orderHow, .int m_orderRing, .int m_orderMany, .int m_hasBest, .long m_bestTop, .long m_bestBy, .ref a_weights, .ref a_shared, .int m_random, .int m_truePlace, .int m_trueWay, .int m_seconds, .int m_done, .int m_feelings, .int m_tries, .int m_leftOver, .int m_playDoor, .int m_playRing, .int m_isOpen, .int m_isOver, .int m_wasTried, .int m_hasPlayed, .ref a_feltNow, .ref a_last, .ref a_kept, .int m_hasSeconds, .int m_hasTurned, .int m_hasRound, .ref a_hasFeels, .ref a_isOn, .int m_firstAct, .long m_meanTop, .long m_meanBy, .ref a_order, .int m_rowMany, .int m_newSteps]))]) 0 0 := by
  refine z_start2l (own := RX12) (by decide) (Nat.le_of_ble_eq_true rfl) rfl ?_
  intro p e s m args below meth c A ls Q hx hb hml hts hown hK hE hT hP hD hS hA hl hret
  have hl : lv_has ls 1 [(0, .ref h0)] := hl
  refine lv_aload_n hx hb dX12_bottom_0 rfl (lv_at hl 0 rfl) ?_
  refine lv_iconst (v := 0) hx hb dX12_bottom_1 (by decide) ?_
  refine va_put (D := G) (ci := 12) (v := .int 0) (ty := .int) (C := RX12) (T := TX12) (N := 65) hx hb hts inT12 tyX12 tyX12_ok nmX12 hown hK hP hD hS 0 rfl rfl 1 (by decide) (hts _ tw_1886) (fun _ h9 => h9) rfl (tyX12_ok 1 (by decide)) rfl rfl (Nat.le_of_ble_eq_true rfl) dX12_bottom_2 (fun H locs hP hD hS => ?_)
  refine lv_aload_n hx hb dX12_bottom_5 rfl (lv_at hl 0 rfl) ?_
  refine va_get (D := G) (ci := 12) (v := .long m_under) (C := RX12) (T := TX12) (N := 65) hx hb hts inT12 hown hK hP 0 rfl rfl 3 (by decide) (hts _ tw_1888) (fun _ h9 => h9) rfl dX12_bottom_6 ?_
  have hpost : (0 ≤ (0 : Int32).toInt ∧ (0 : Int32).toInt ≤ 0) := (by decide +kernel)
  exact hret _ _ _ _ _ _ 0 [0] hP hD hS rfl (by decide) dX12_bottom_9 hpost
set_option maxHeartbeats 4000000 in
set_option maxRecDepth 100000 in
theorem r_refuse (l : Launch) (G : va_G) (cA : zCA) (h0 : Nat) (m_status : Int32) (m_thrown : Int32) (m_above : Int64) (m_under : Int64) (a_traySort : Nat) (a_trayMany : Nat) (a_numbers : Nat) (a_tape : Nat) (m_taped : Int32) (m_textEnd : Int32) (m_faultKind : Int32) (m_faultAt : Int32) (m_bad : Int32) (m_badAt : Int32) (m_token : Int32) (m_at : Int32) (m_behind : Int32) (m_number : Int32) (m_letters : Int32) (m_word : Int64) (a_c : Nat) (a_words : Nat) (m_markMany : Int32) (a_there : Nat) (a_tried : Nat) (a_best : Nat) (a_found : Nat) (m_thereMany : Int32) (m_foundMany : Int32) (m_orderHow : Int32) (m_orderRing : Int32) (m_orderMany : Int32) (m_hasBest : Int32) (m_bestTop : Int64) (m_bestBy : Int64) (a_weights : Nat) (a_shared : Nat) (m_random : Int32) (m_truePlace : Int32) (m_trueWay : Int32) (m_seconds : Int32) (m_done : Int32) (m_feelings : Int32) (m_tries : Int32) (m_leftOver : Int32) (m_playDoor : Int32) (m_playRing : Int32) (m_isOpen : Int32) (m_isOver : Int32) (m_wasTried : Int32) (m_hasPlayed : Int32) (a_feltNow : Nat) (a_last : Nat) (a_kept : Nat) (m_hasSeconds : Int32) (m_hasTurned : Int32) (m_hasRound : Int32) (a_hasFeels : Nat) (a_isOn : Nat) (m_firstAct : Int32) (m_meanTop : Int64) (m_meanBy : Int64) (a_order : Nat) (m_rowMany : Int32) (m_newSteps : Int32) (k : Int32) : zCi l yX12_refuse cX12_refuse 2 (some .int) ({ frames := 0, cells := 0, slots := 0, locals := 0 }) G cA [.ref h0, .int k] [(h0, .inr (12, [.int m_status, .int m_thrown, .long m_above, .long m_under, .ref a_traySort, .ref a_trayMany, .ref a_numbers, .ref a_tape, .int m_taped, .int m_textEnd, .int m_faultKind, .int m_faultAt, .int m_bad, .int m_badAt, .int m_token, .int m_at, .int m_behind, .int m_number, .int m_letters, .long m_word, .ref a_c, .ref a_words, .int m_markMany, .ref a_there, .ref a_tried, .ref a_best, .ref a_found, .int m_thereMany, .int m_foundMany, .int m_orderHow, .int m_orderRing, .int m_orderMany, .int m_hasBest, .long m_bestTop, .long m_bestBy, .ref a_weights, .ref a_shared, .int m_random, .int m_truePlace, .int m_trueWay, .int m_seconds, .int m_done, .int m_feelings, .int m_tries, .int m_leftOver, .int m_playDoor, .int m_playRing, .int m_isOpen, .int m_isOver, .int m_wasTried, .int m_hasPlayed, .ref a_feltNow, .ref a_last, .ref a_kept, .int m_hasSeconds, .int m_hasTurned, .int m_hasRound, .ref a_hasFeels, .ref a_isOn, .int m_firstAct, .long m_meanTop, .long m_meanBy, .ref a_order, .int m_rowMany, .int m_newSteps]))] (S := Int32) (fun (r : Int32) (u : Int32) => ((-1) ≤ r.toInt ∧ r.toInt ≤ (-1))) (fun (u : Int32) => [(h0, .inr (12, [.int u, .int m_thrown, .long m_above, .long m_under, .ref a_traySort, .ref a_trayMany, .ref a_numbers, .ref a_tape, .int m_taped, .int m_textEnd, .int m_faultKind, .int m_faultAt, .int m_bad, .int m_badAt, .int m_token, .int m_at, .int m_behind, .int m_number, .int m_letters, .long m_word, .ref a_c, .ref a_words, .int m_markMany, .ref a_there, .ref a_tried, .ref a_best, .ref a_found, .int m_thereMany, .int m_foundMany, .int m_orderHow, .int m_orderRing, .int m_orderMany, .int m_hasBest, .long m_bestTop, .long m_bestBy, .ref a_weights, .ref a_shared, .int m_random, .int m_truePlace, .int m_trueWay, .int m_seconds, .int m_done, .int m_feelings, .int m_tries, .int m_leftOver, .int m_playDoor, .int m_playRing, .int m_isOpen, .int m_isOver, .int m_wasTried, .int m_hasPlayed, .ref a_feltNow, .ref a_last, .ref a_kept, .int m_hasSeconds, .int m_hasTurned, .int m_hasRound, .ref a_hasFeels, .ref a_isOn, .int m_firstAct, .long m_meanTop, .long m_meanBy, .ref a_order, .int m_rowMany, .int m_newSteps]))]) 0 0 := by
  refine z_start2i (own := RX12) (by decide) (Nat.le_of_ble_eq_true rfl) rfl ?_
  intro p e s m args below meth c A ls Q hx hb hml hts hown hK hE hT hP hD hS hA hl hret
  have hl : lv_has ls 2 [(0, .ref h0), (1, .int k)] := hl
  refine lv_aload_n hx hb dX12_refuse_0 rfl (lv_at hl 0 rfl) ?_
  refine lv_iload_n hx hb dX12_refuse_1 rfl (lv_at hl 1 rfl) ?_
  refine va_put (D := G) (ci := 12) (v := .int k) (ty := .int) (C := RX12) (T := TX12) (N := 65) hx hb hts inT12 tyX12 tyX12_ok nmX12 hown hK hP hD hS 0 rfl rfl 0 (by decide) (hts _ tw_1885) (fun _ h9 => h9) rfl (tyX12_ok 0 (by decide)) rfl rfl (Nat.le_of_ble_eq_true rfl) dX12_refuse_2 (fun H locs hP hD hS => ?_)
  refine lv_iconst (v := (-1)) hx hb dX12_refuse_5 (by decide) ?_
  have hpost : ((-1) ≤ ((-1) : Int32).toInt ∧ ((-1) : Int32).toInt ≤ (-1)) := (by decide +kernel)
  exact hret _ _ _ _ _ _ k [0] hP hD hS rfl (by decide) dX12_refuse_6 hpost
set_option maxHeartbeats 4000000 in
set_option maxRecDepth 100000 in
theorem r_no (l : Launch) (G : va_G) (cA : zCA) (h0 : Nat) (m_status : Int32) (m_thrown : Int32) (m_above : Int64) (m_under : Int64) (a_traySort : Nat) (a_trayMany : Nat) (a_numbers : Nat) (a_tape : Nat) (m_taped : Int32) (m_textEnd : Int32) (m_faultKind : Int32) (m_faultAt : Int32) (m_bad : Int32) (m_badAt : Int32) (m_token : Int32) (m_at : Int32) (m_behind : Int32) (m_number : Int32) (m_letters : Int32) (m_word : Int64) (a_c : Nat) (a_words : Nat) (m_markMany : Int32) (a_there : Nat) (a_tried : Nat) (a_best : Nat) (a_found : Nat) (m_thereMany : Int32) (m_foundMany : Int32) (m_orderHow : Int32) (m_orderRing : Int32) (m_orderMany : Int32) (m_hasBest : Int32) (m_bestTop : Int64) (m_bestBy : Int64) (a_weights : Nat) (a_shared : Nat) (m_random : Int32) (m_truePlace : Int32) (m_trueWay : Int32) (m_seconds : Int32) (m_done : Int32) (m_feelings : Int32) (m_tries : Int32) (m_leftOver : Int32) (m_playDoor : Int32) (m_playRing : Int32) (m_isOpen : Int32) (m_isOver : Int32) (m_wasTried : Int32) (m_hasPlayed : Int32) (a_feltNow : Nat) (a_last : Nat) (a_kept : Nat) (m_hasSeconds : Int32) (m_hasTurned : Int32) (m_hasRound : Int32) (a_hasFeels : Nat) (a_isOn : Nat) (m_firstAct : Int32) (m_meanTop : Int64) (m_meanBy : Int64) (a_order : Nat) (m_rowMany : Int32) (m_newSteps : Int32) (k : Int32) : zCi l yX12_no cX12_no 2 (some .boolean) ({ frames := 0, cells := 0, slots := 0, locals := 0 }) G cA [.ref h0, .int k] [(h0, .inr (12, [.int m_status, .int m_thrown, .long m_above, .long m_under, .ref a_traySort, .ref a_trayMany, .ref a_numbers, .ref a_tape, .int m_taped, .int m_textEnd, .int m_faultKind, .int m_faultAt, .int m_bad, .int m_badAt, .int m_token, .int m_at, .int m_behind, .int m_number, .int m_letters, .long m_word, .ref a_c, .ref a_words, .int m_markMany, .ref a_there, .ref a_tried, .ref a_best, .ref a_found, .int m_thereMany, .int m_foundMany, .int m_orderHow, .int m_orderRing, .int m_orderMany, .int m_hasBest, .long m_bestTop, .long m_bestBy, .ref a_weights, .ref a_shared, .int m_random, .int m_truePlace, .int m_trueWay, .int m_seconds, .int m_done, .int m_feelings, .int m_tries, .int m_leftOver, .int m_playDoor, .int m_playRing, .int m_isOpen, .int m_isOver, .int m_wasTried, .int m_hasPlayed, .ref a_feltNow, .ref a_last, .ref a_kept, .int m_hasSeconds, .int m_hasTurned, .int m_hasRound, .ref a_hasFeels, .ref a_isOn, .int m_firstAct, .long m_meanTop, .long m_meanBy, .ref a_order, .int m_rowMany, .int m_newSteps]))] (S := Int32) (fun (r : Int32) (u : Int32) => (r = 0 ∧ True)) (fun (u : Int32) => [(h0, .inr (12, [.int u, .int m_thrown, .long m_above, .long m_under, .ref a_traySort, .ref a_trayMany, .ref a_numbers, .ref a_tape, .int m_taped, .int m_textEnd, .int m_faultKind, .int m_faultAt, .int m_bad, .int m_badAt, .int m_token, .int m_at, .int m_behind, .int m_number, .int m_letters, .long m_word, .ref a_c, .ref a_words, .int m_markMany, .ref a_there, .ref a_tried, .ref a_best, .ref a_found, .int m_thereMany, .int m_foundMany, .int m_orderHow, .int m_orderRing, .int m_orderMany, .int m_hasBest, .long m_bestTop, .long m_bestBy, .ref a_weights, .ref a_shared, .int m_random, .int m_truePlace, .int m_trueWay, .int m_seconds, .int m_done, .int m_feelings, .int m_tries, .int m_leftOver, .int m_playDoor, .int m_playRing, .int m_isOpen, .int m_isOver, .int m_wasTried, .int m_hasPlayed, .ref a_feltNow, .ref a_last, .ref a_kept, .int m_hasSeconds, .int m_hasTurned, .int m_hasRound, .ref a_hasFeels, .ref a_isOn, .int m_firstAct, .long m_meanTop, .long m_meanBy, .ref a_order, .int m_rowMany, .int m_newSteps]))]) 0 0 := by
  refine z_start2z (own := RX12) (by decide) (Nat.le_of_ble_eq_true rfl) rfl ?_
  intro p e s m args below meth c A ls Q hx hb hml hts hown hK hE hT hP hD hS hA hl hret
  have hl : lv_has ls 2 [(0, .ref h0), (1, .int k)] := hl
  refine lv_aload_n hx hb dX12_no_0 rfl (lv_at hl 0 rfl) ?_
  refine lv_iload_n hx hb dX12_no_1 rfl (lv_at hl 1 rfl) ?_
  refine va_put (D := G) (ci := 12) (v := .int k) (ty := .int) (C := RX12) (T := TX12) (N := 65) hx hb hts inT12 tyX12 tyX12_ok nmX12 hown hK hP hD hS 0 rfl rfl 0 (by decide) (hts _ tw_1885) (fun _ h9 => h9) rfl (tyX12_ok 0 (by decide)) rfl rfl (Nat.le_of_ble_eq_true rfl) dX12_no_2 (fun H locs hP hD hS => ?_)
  refine lv_iconst (v := 0) hx hb dX12_no_5 (by decide) ?_
  have hpost : ((0 : Int32) = 0 ∧ True) := ⟨rfl, trivial⟩
  exact hret _ _ _ _ _ _ k [0] hP hD hS rfl (by decide) dX12_no_6 (Or.inl rfl) hpost
set_option maxHeartbeats 4000000 in
set_option maxRecDepth 100000 in
theorem r_isIn (l : Launch) (G : va_G) (cA : zCA) (x : Int64) (lo : Int64) (hi : Int64) : zCi l yX12_isIn cX12_isIn 6 (some .boolean) ({ frames := 0, cells := 0, slots := 0, locals := 0 }) G cA [.long x, .long lo, .long hi] [] (S := Unit) (fun (r : Int32) (u : Unit) => (r = 0 ∧ (x.toInt < lo.toInt ∨ hi.toInt < x.toInt)) ∨ (r = 1 ∧ (lo.toInt ≤ x.toInt ∧ x.toInt ≤ hi.toInt))) (fun (u : Unit) => []) 0 0 := by
  refine z_start2z (own := RX12) (by decide) (Nat.le_of_ble_eq_true rfl) rfl ?_
  intro p e s m args below meth c A ls Q hx hb hml hts hown hK hE hT hP hD hS hA hl hret
  have hl : lv_has ls 6 [(0, .long x), (2, .long lo), (4, .long hi)] := hl
  refine lv_lload_n hx hb dX12_isIn_0 rfl (lv_at hl 0 rfl) ?_
  refine lv_lload_n hx hb dX12_isIn_1 rfl (lv_at hl 1 rfl) ?_
  refine W.lcmp hx hb dX12_isIn_2 ?_
  refine lv_if_lt (tgt := 17) hx hb dX12_isIn_3 (by decide) (fun c_1 => ?_) (fun c_1 => ?_)
  · have b_2 := z_fltTl c_1
    refine lv_iconst (v := 0) hx hb dX12_isIn_17 (by decide) ?_
    have hpost : ((0 : Int32) = 0 ∧ (x.toInt < lo.toInt ∨ hi.toInt < x.toInt)) ∨ ((0 : Int32) = 1 ∧ (lo.toInt ≤ x.toInt ∧ x.toInt ≤ hi.toInt)) := (Or.inl ⟨rfl, (by omega)⟩)
    exact hret _ _ _ _ _ _ () [] hP hD hS rfl (by decide) dX12_isIn_18 (Or.inl rfl) hpost
  · have b_3 := z_fgeFl c_1
    refine lv_lload_n hx hb dX12_isIn_6 rfl (lv_at hl 0 rfl) ?_
    refine lv_lload hx hb dX12_isIn_7 (lv_at hl 2 rfl) ?_
    refine W.lcmp hx hb dX12_isIn_9 ?_
    refine lv_if_gt (tgt := 17) hx hb dX12_isIn_10 (by decide) (fun c_4 => ?_) (fun c_4 => ?_)
    · have b_5 := z_fgtTl c_4
      refine lv_iconst (v := 0) hx hb dX12_isIn_17 (by decide) ?_
      have hpost : ((0 : Int32) = 0 ∧ (x.toInt < lo.toInt ∨ hi.toInt < x.toInt)) ∨ ((0 : Int32) = 1 ∧ (lo.toInt ≤ x.toInt ∧ x.toInt ≤ hi.toInt)) := (Or.inl ⟨rfl, (by omega)⟩)
      exact hret _ _ _ _ _ _ () [] hP hD hS rfl (by decide) dX12_isIn_18 (Or.inl rfl) hpost
    · have b_6 := z_fleFl c_4
      refine lv_iconst (v := 1) hx hb dX12_isIn_13 (by decide) ?_
      refine lv_goto (tgt := 18) hx hb dX12_isIn_14 (by decide) ?_
      have hpost : ((1 : Int32) = 0 ∧ (x.toInt < lo.toInt ∨ hi.toInt < x.toInt)) ∨ ((1 : Int32) = 1 ∧ (lo.toInt ≤ x.toInt ∧ x.toInt ≤ hi.toInt)) := (Or.inr ⟨rfl, (by omega)⟩)
      exact hret _ _ _ _ _ _ () [] hP hD hS rfl (by decide) dX12_isIn_18 (Or.inr rfl) hpost
set_option maxHeartbeats 4000000 in
set_option maxRecDepth 100000 in
theorem r_isLetter (l : Launch) (G : va_G) (cA : zCA) (x : Int32) : zCi l yX12_isLetter cX12_isLetter 1 (some .boolean) ({ frames := 0, cells := 0, slots := 0, locals := 0 }) G cA [.int x] [] (S := Unit) (fun (r : Int32) (u : Unit) => (r = 0 ∧ (x.toInt < 97 ∨ 122 < x.toInt)) ∨ (r = 1 ∧ (97 ≤ x.toInt ∧ x.toInt ≤ 122))) (fun (u : Unit) => []) 0 0 := by
  have hk_97 : (97 : Int32).toInt = 97 := by decide +kernel
  have hk_122 : (122 : Int32).toInt = 122 := by decide +kernel
  refine z_start2z (own := RX12) (by decide) (Nat.le_of_ble_eq_true rfl) rfl ?_
  intro p e s m args below meth c A ls Q hx hb hml hts hown hK hE hT hP hD hS hA hl hret
  have hl : lv_has ls 1 [(0, .int x)] := hl
  refine lv_iload_n hx hb dX12_isLetter_0 rfl (lv_at hl 0 rfl) ?_
  refine lv_bipush (v := 97) hx hb dX12_isLetter_1 (by decide) ?_
  refine lv_icmp_lt (tgt := 16) hx hb dX12_isLetter_3 (by decide) (fun c_1 => ?_) (fun c_1 => ?_)
  · have b_2 := z_fltT c_1
    refine lv_iconst (v := 0) hx hb dX12_isLetter_16 (by decide) ?_
    have hpost : ((0 : Int32) = 0 ∧ (x.toInt < 97 ∨ 122 < x.toInt)) ∨ ((0 : Int32) = 1 ∧ (97 ≤ x.toInt ∧ x.toInt ≤ 122)) := (Or.inl ⟨rfl, (by omega)⟩)
    exact hret _ _ _ _ _ _ () [] hP hD hS rfl (by decide) dX12_isLetter_17 (Or.inl rfl) hpost
  · have b_3 := z_fgeF c_1
    refine lv_iload_n hx hb dX12_isLetter_6 rfl (lv_at hl 0 rfl) ?_
    refine lv_bipush (v := 122) hx hb dX12_isLetter_7 (by decide) ?_
    refine lv_icmp_gt (tgt := 16) hx hb dX12_isLetter_9 (by decide) (fun c_4 => ?_) (fun c_4 => ?_)
    · have b_5 := z_fgtT c_4
      refine lv_iconst (v := 0) hx hb dX12_isLetter_16 (by decide) ?_
      have hpost : ((0 : Int32) = 0 ∧ (x.toInt < 97 ∨ 122 < x.toInt)) ∨ ((0 : Int32) = 1 ∧ (97 ≤ x.toInt ∧ x.toInt ≤ 122)) := (Or.inl ⟨rfl, (by omega)⟩)
      exact hret _ _ _ _ _ _ () [] hP hD hS rfl (by decide) dX12_isLetter_17 (Or.inl rfl) hpost
    · have b_6 := z_fleF c_4
      refine lv_iconst (v := 1) hx hb dX12_isLetter_12 (by decide) ?_
      refine lv_goto (tgt := 17) hx hb dX12_isLetter_13 (by decide) ?_
      have hpost : ((1 : Int32) = 0 ∧ (x.toInt < 97 ∨ 122 < x.toInt)) ∨ ((1 : Int32) = 1 ∧ (97 ≤ x.toInt ∧ x.toInt ≤ 122)) := (Or.inr ⟨rfl, (by omega)⟩)
      exact hret _ _ _ _ _ _ () [] hP hD hS rfl (by decide) dX12_isLetter_17 (Or.inr rfl) hpost
set_option maxHeartbeats 4000000 in
set_option maxRecDepth 100000 in
theorem r_isDigit (l : Launch) (G : va_G) (cA : zCA) (x : Int32) : zCi l yX12_isDigit cX12_isDigit 1 (some .boolean) ({ frames := 0, cells := 0, slots := 0, locals := 0 }) G cA [.int x] [] (S := Unit) (fun (r : Int32) (u : Unit) => (r = 0 ∧ (x.toInt < 48 ∨ 57 < x.toInt)) ∨ (r = 1 ∧ (48 ≤ x.toInt ∧ x.toInt ≤ 57))) (fun (u : Unit) => []) 0 0 := by
  have hk_48 : (48 : Int32).toInt = 48 := by decide +kernel
  have hk_57 : (57 : Int32).toInt = 57 := by decide +kernel
  refine z_start2z (own := RX12) (by decide) (Nat.le_of_ble_eq_true rfl) rfl ?_
  intro p e s m args below meth c A ls Q hx hb hml hts hown hK hE hT hP hD hS hA hl hret
  have hl : lv_has ls 1 [(0, .int x)] := hl
  refine lv_iload_n hx hb dX12_isDigit_0 rfl (lv_at hl 0 rfl) ?_
  refine lv_bipush (v := 48) hx hb dX12_isDigit_1 (by decide) ?_
  refine lv_icmp_lt (tgt := 16) hx hb dX12_isDigit_3 (by decide) (fun c_1 => ?_) (fun c_1 => ?_)
  · have b_2 := z_fltT c_1
    refine lv_iconst (v := 0) hx hb dX12_isDigit_16 (by decide) ?_
    have hpost : ((0 : Int32) = 0 ∧ (x.toInt < 48 ∨ 57 < x.toInt)) ∨ ((0 : Int32) = 1 ∧ (48 ≤ x.toInt ∧ x.toInt ≤ 57)) := (Or.inl ⟨rfl, (by omega)⟩)
    exact hret _ _ _ _ _ _ () [] hP hD hS rfl (by decide) dX12_isDigit_17 (Or.inl rfl) hpost
  · have b_3 := z_fgeF c_1
    refine lv_iload_n hx hb dX12_isDigit_6 rfl (lv_at hl 0 rfl) ?_
    refine lv_bipush (v := 57) hx hb dX12_isDigit_7 (by decide) ?_
    refine lv_icmp_gt (tgt := 16) hx hb dX12_isDigit_9 (by decide) (fun c_4 => ?_) (fun c_4 => ?_)
    · have b_5 := z_fgtT c_4
      refine lv_iconst (v := 0) hx hb dX12_isDigit_16 (by decide) ?_
      have hpost : ((0 : Int32) = 0 ∧ (x.toInt < 48 ∨ 57 < x.toInt)) ∨ ((0 : Int32) = 1 ∧ (48 ≤ x.toInt ∧ x.toInt ≤ 57)) := (Or.inl ⟨rfl, (by omega)⟩)
      exact hret _ _ _ _ _ _ () [] hP hD hS rfl (by decide) dX12_isDigit_17 (Or.inl rfl) hpost
    · have b_6 := z_fleF c_4
      refine lv_iconst (v := 1) hx hb dX12_isDigit_12 (by decide) ?_
      refine lv_goto (tgt := 17) hx hb dX12_isDigit_13 (by decide) ?_
      have hpost : ((1 : Int32) = 0 ∧ (x.toInt < 48 ∨ 57 < x.toInt)) ∨ ((1 : Int32) = 1 ∧ (48 ≤ x.toInt ∧ x.toInt ≤ 57)) := (Or.inr ⟨rfl, (by omega)⟩)
      exact hret _ _ _ _ _ _ () [] hP hD hS rfl (by decide) dX12_isDigit_17 (Or.inr rfl) hpost
set_option maxHeartbeats 4000000 in
set_option maxRecDepth 100000 in
theorem r_isSignByte (l : Launch) (G : va_G) (cA : zCA) (h0 : Nat) (m_status : Int32) (m_thrown : Int32) (m_above : Int64) (m_under : Int64) (a_traySort : Nat) (a_trayMany : Nat) (a_numbers : Nat) (a_tape : Nat) (m_taped : Int32) (m_textEnd : Int32) (m_faultKind : Int32) (m_faultAt : Int32) (m_bad : Int32) (m_badAt : Int32) (m_token : Int32) (m_at : Int32) (m_behind : Int32) (m_number : Int32) (m_letters : Int32) (m_word : Int64) (a_c : Nat) (a_words : Nat) (m_markMany : Int32) (a_there : Nat) (a_tried : Nat) (a_best : Nat) (a_found : Nat) (m_thereMany : Int32) (m_foundMany : Int32) (m_orderHow : Int32) (m_orderRing : Int32) (m_orderMany : Int32) (m_hasBest : Int32) (m_bestTop : Int64) (m_bestBy : Int64) (a_weights : Nat) (a_shared : Nat) (m_random : Int32) (m_truePlace : Int32) (m_trueWay : Int32) (m_seconds : Int32) (m_done : Int32) (m_feelings : Int32) (m_tries : Int32) (m_leftOver : Int32) (m_playDoor : Int32) (m_playRing : Int32) (m_isOpen : Int32) (m_isOver : Int32) (m_wasTried : Int32) (m_hasPlayed : Int32) (a_feltNow : Nat) (a_last : Nat) (a_kept : Nat) (m_hasSeconds : Int32) (m_hasTurned : Int32) (m_hasRound : Int32) (a_hasFeels : Nat) (a_isOn : Nat) (m_firstAct : Int32) (m_meanTop : Int64) (m_meanBy : Int64) (a_order : Nat) (m_rowMany : Int32) (m_newSteps : Int32) (x : Int32) : zCi l yX12_isSignByte cX12_isSignByte 2 (some .boolean) ({ frames := 0, cells := 0, slots := 0, locals := 0 }) G cA [.ref h0, .int x] [(h0, .inr (12, [.int m_status, .int m_thrown, .long m_above, .long m_under, .ref a_traySort, .ref a_trayMany, .ref a_numbers, .ref a_tape, .int m_taped, .int m_textEnd, .int m_faultKind, .int m_faultAt, .int m_bad, .int m_badAt, .int m_token, .int m_at, .int m_behind, .int m_number, .int m_letters, .long m_word, .ref a_c, .ref a_words, .int m_markMany, .ref a_there, .ref a_tried, .ref a_best, .ref a_found, .int m_thereMany, .int m_foundMany, .int m_orderHow, .int m_orderRing, .int m_orderMany, .int m_hasBest, .long m_bestTop, .long m_bestBy, .ref a_weights, .ref a_shared, .int m_random, .int m_truePlace, .int m_trueWay, .int m_seconds, .int m_done, .int m_feelings, .int m_tries, .int m_leftOver, .int m_playDoor, .int m_playRing, .int m_isOpen, .int m_isOver, .int m_wasTried, .int m_hasPlayed, .ref a_feltNow, .ref a_last, .ref a_kept, .int m_hasSeconds, .int m_hasTurned, .int m_hasRound, .ref a_hasFeels, .ref a_isOn, .int m_firstAct, .long m_meanTop, .long m_meanBy, .ref a_order, .int m_rowMany, .int m_newSteps]))] (S := Unit) (fun (r : Int32) (u : Unit) => (r = 0 ∧ True) ∨ (r = 1 ∧ True)) (fun (u : Unit) => [(h0, .inr (12, [.int m_status, .int m_thrown, .long m_above, .long m_under, .ref a_traySort, .ref a_trayMany, .ref a_numbers, .ref a_tape, .int m_taped, .int m_textEnd, .int m_faultKind, .int m_faultAt, .int m_bad, .int m_badAt, .int m_token, .int m_at, .int m_behind, .int m_number, .int m_letters, .long m_word, .ref a_c, .ref a_words, .int m_markMany, .ref a_there, .ref a_tried, .ref a_best, .ref a_found, .int m_thereMany, .int m_foundMany, .int m_orderHow, .int m_orderRing, .int m_orderMany, .int m_hasBest, .long m_bestTop, .long m_bestBy, .ref a_weights, .ref a_shared, .int m_random, .int m_truePlace, .int m_trueWay, .int m_seconds, .int m_done, .int m_feelings, .int m_tries, .int m_leftOver, .int m_playDoor, .int m_playRing, .int m_isOpen, .int m_isOver, .int m_wasTried, .int m_hasPlayed, .ref a_feltNow, .ref a_last, .ref a_kept, .int m_hasSeconds, .int m_hasTurned, .int m_hasRound, .ref a_hasFeels, .ref a_isOn, .int m_firstAct, .long m_meanTop, .long m_meanBy, .ref a_order, .int m_rowMany, .int m_newSteps]))]) 0 0 := by
  have hk_59 : (59 : Int32).toInt = 59 := by decide +kernel
  have hk_60 : (60 : Int32).toInt = 60 := by decide +kernel
  have hk_61 : (61 : Int32).toInt = 61 := by decide +kernel
  have hk_62 : (62 : Int32).toInt = 62 := by decide +kernel
  refine z_start2z (own := RX12) (by decide) (Nat.le_of_ble_eq_true rfl) rfl ?_
  intro p e s m args below meth c A ls Q hx hb hml hts hown hK hE hT hP hD hS hA hl hret
  have hl : lv_has ls 2 [(0, .ref h0), (1, .int x)] := hl
  refine lv_iload_n hx hb dX12_isSignByte_0 rfl (lv_at hl 1 rfl) ?_
  refine lv_bipush (v := 59) hx hb dX12_isSignByte_1 (by decide) ?_
  refine lv_icmp_eq (tgt := 24) hx hb dX12_isSignByte_3 (by decide) (fun c_1 => ?_) (fun c_1 => ?_)
  · have b_2 := z_feqT c_1
    refine lv_iconst (v := 1) hx hb dX12_isSignByte_24 (by decide) ?_
    refine lv_goto (tgt := 29) hx hb dX12_isSignByte_25 (by decide) ?_
    have hpost : ((1 : Int32) = 0 ∧ True) ∨ ((1 : Int32) = 1 ∧ True) := (Or.inr ⟨rfl, trivial⟩)
    exact hret _ _ _ _ _ _ () [0] hP hD hS rfl (by decide) dX12_isSignByte_29 (Or.inr rfl) hpost
  · have b_3 := z_fneF c_1
    refine lv_iload_n hx hb dX12_isSignByte_6 rfl (lv_at hl 1 rfl) ?_
    refine lv_bipush (v := 60) hx hb dX12_isSignByte_7 (by decide) ?_
    refine lv_icmp_eq (tgt := 24) hx hb dX12_isSignByte_9 (by decide) (fun c_4 => ?_) (fun c_4 => ?_)
    · have b_5 := z_feqT c_4
      refine lv_iconst (v := 1) hx hb dX12_isSignByte_24 (by decide) ?_
      refine lv_goto (tgt := 29) hx hb dX12_isSignByte_25 (by decide) ?_
      have hpost : ((1 : Int32) = 0 ∧ True) ∨ ((1 : Int32) = 1 ∧ True) := (Or.inr ⟨rfl, trivial⟩)
      exact hret _ _ _ _ _ _ () [0] hP hD hS rfl (by decide) dX12_isSignByte_29 (Or.inr rfl) hpost
    · have b_6 := z_fneF c_4
      refine lv_iload_n hx hb dX12_isSignByte_12 rfl (lv_at hl 1 rfl) ?_
      refine lv_bipush (v := 62) hx hb dX12_isSignByte_13 (by decide) ?_
      refine lv_icmp_eq (tgt := 24) hx hb dX12_isSignByte_15 (by decide) (fun c_7 => ?_) (fun c_7 => ?_)
      · have b_8 := z_feqT c_7
        refine lv_iconst (v := 1) hx hb dX12_isSignByte_24 (by decide) ?_
        refine lv_goto (tgt := 29) hx hb dX12_isSignByte_25 (by decide) ?_
        have hpost : ((1 : Int32) = 0 ∧ True) ∨ ((1 : Int32) = 1 ∧ True) := (Or.inr ⟨rfl, trivial⟩)
        exact hret _ _ _ _ _ _ () [0] hP hD hS rfl (by decide) dX12_isSignByte_29 (Or.inr rfl) hpost
      · have b_9 := z_fneF c_7
        refine lv_iload_n hx hb dX12_isSignByte_18 rfl (lv_at hl 1 rfl) ?_
        refine lv_bipush (v := 61) hx hb dX12_isSignByte_19 (by decide) ?_
        refine lv_icmp_ne (tgt := 28) hx hb dX12_isSignByte_21 (by decide) (fun c_10 => ?_) (fun c_10 => ?_)
        · have b_11 := z_fneT c_10
          refine lv_iconst (v := 0) hx hb dX12_isSignByte_28 (by decide) ?_
          have hpost : ((0 : Int32) = 0 ∧ True) ∨ ((0 : Int32) = 1 ∧ True) := (Or.inl ⟨rfl, trivial⟩)
          exact hret _ _ _ _ _ _ () [0] hP hD hS rfl (by decide) dX12_isSignByte_29 (Or.inl rfl) hpost
        · have b_12 := z_feqF c_10
          refine lv_iconst (v := 1) hx hb dX12_isSignByte_24 (by decide) ?_
          refine lv_goto (tgt := 29) hx hb dX12_isSignByte_25 (by decide) ?_
          have hpost : ((1 : Int32) = 0 ∧ True) ∨ ((1 : Int32) = 1 ∧ True) := (Or.inr ⟨rfl, trivial⟩)
          exact hret _ _ _ _ _ _ () [0] hP hD hS rfl (by decide) dX12_isSignByte_29 (Or.inr rfl) hpost
set_option maxHeartbeats 4000000 in
set_option maxRecDepth 100000 in
theorem r_cut (l : Launch) (G : va_G) (cA : zCA) (ss : Int32) (v : Int64) : zCl l yX12_cut cX12_cut 3 (some .long) ({ frames := 0, cells := 0, slots := 0, locals := 0 }) G cA [.int ss, .long v] [] (S := Unit) (fun (r : Int64) (u : Unit) => True) (fun (u : Unit) => []) 0 0 := by
  have hk_0 : (0 : Int32).toInt = 0 := by decide +kernel
  have hk_1 : (1 : Int32).toInt = 1 := by decide +kernel
  have hk_2 : (2 : Int32).toInt = 2 := by decide +kernel
  refine z_start2l (own := RX12) (by decide) (Nat.le_of_ble_eq_true rfl) rfl ?_
  intro p e s m args below meth c A ls Q hx hb hml hts hown hK hE hT hP hD hS hA hl hret
  have hl : lv_has ls 3 [(0, .int ss), (1, .long v)] := hl
  refine lv_iload_n hx hb dX12_cut_0 rfl (lv_at hl 0 rfl) ?_
  refine lv_if_ne (tgt := 11) hx hb dX12_cut_1 (by decide) (fun c_1 => ?_) (fun c_1 => ?_)
  · have b_2 := z_fneT c_1
    refine lv_iload_n hx hb dX12_cut_11 rfl (lv_at hl 0 rfl) ?_
    refine lv_iconst (v := 1) hx hb dX12_cut_12 (by decide) ?_
    refine lv_icmp_ne (tgt := 23) hx hb dX12_cut_13 (by decide) (fun c_3 => ?_) (fun c_3 => ?_)
    · have b_4 := z_fneT c_3
      refine lv_iload_n hx hb dX12_cut_23 rfl (lv_at hl 0 rfl) ?_
      refine lv_iconst (v := 2) hx hb dX12_cut_24 (by decide) ?_
      refine lv_icmp_ne (tgt := 34) hx hb dX12_cut_25 (by decide) (fun c_5 => ?_) (fun c_5 => ?_)
      · have b_6 := z_fneT c_5
        refine lv_lload_n hx hb dX12_cut_34 rfl (lv_at hl 1 rfl) ?_
        exact hret _ _ _ _ _ _ () [] hP hD hS rfl (by decide) dX12_cut_35 trivial
      · have b_7 := z_feqF c_5
        refine lv_lload_n hx hb dX12_cut_28 rfl (lv_at hl 1 rfl) ?_
        refine lv_l2i (v := (v).toInt32) hx hb dX12_cut_29 rfl ?_
        refine lv_topi (fun x_8 he_x_8 => ?_)
        refine lv_i2l (v := (x_8).toInt64) hx hb dX12_cut_30 rfl ?_
        refine lv_topl (fun x_9 he_x_9 => ?_)
        have hq_x_9 := z_i2l he_x_9
        have hL_x_8 := z_full x_8
        refine lv_goto (tgt := 35) hx hb dX12_cut_31 (by decide) ?_
        exact hret _ _ _ _ _ _ () [] hP hD hS rfl (by decide) dX12_cut_35 trivial
    · have b_10 := z_feqF c_3
      refine lv_lload_n hx hb dX12_cut_16 rfl (lv_at hl 1 rfl) ?_
      refine lv_l2i (v := (v).toInt32) hx hb dX12_cut_17 rfl ?_
      refine lv_topi (fun x_11 he_x_11 => ?_)
      refine lv_i2s (v := (x_11).toInt16.toInt32) hx hb dX12_cut_18 rfl ?_
      refine lv_topi (fun x_12 he_x_12 => ?_)
      refine lv_i2l (v := (x_12).toInt64) hx hb dX12_cut_19 rfl ?_
      refine lv_topl (fun x_13 he_x_13 => ?_)
      have hq_x_13 := z_i2l he_x_13
      have hL_x_12 := z_full x_12
      refine lv_goto (tgt := 35) hx hb dX12_cut_20 (by decide) ?_
      exact hret _ _ _ _ _ _ () [] hP hD hS rfl (by decide) dX12_cut_35 trivial
  · have b_14 := z_feqF c_1
    refine lv_lload_n hx hb dX12_cut_4 rfl (lv_at hl 1 rfl) ?_
    refine lv_l2i (v := (v).toInt32) hx hb dX12_cut_5 rfl ?_
    refine lv_topi (fun x_15 he_x_15 => ?_)
    refine lv_i2b (v := (x_15).toInt8.toInt32) hx hb dX12_cut_6 rfl ?_
    refine lv_topi (fun x_16 he_x_16 => ?_)
    refine lv_i2l (v := (x_16).toInt64) hx hb dX12_cut_7 rfl ?_
    refine lv_topl (fun x_17 he_x_17 => ?_)
    have hq_x_17 := z_i2l he_x_17
    have hL_x_16 := z_full x_16
    refine lv_goto (tgt := 35) hx hb dX12_cut_8 (by decide) ?_
    exact hret _ _ _ _ _ _ () [] hP hD hS rfl (by decide) dX12_cut_35 trivial
set_option maxHeartbeats 4000000 in
set_option maxRecDepth 100000 in
theorem r_spelled (l : Launch) (G : va_G) (cA : zCA) (x0 : Int32) (x1 : Int32) (x2 : Int32) (x3 : Int32) (x4 : Int32) (x5 : Int32) (hr_x0 : 0 ≤ x0.toInt ∧ x0.toInt ≤ 255) (hr_x1 : 0 ≤ x1.toInt ∧ x1.toInt ≤ 255) (hr_x2 : 0 ≤ x2.toInt ∧ x2.toInt ≤ 255) (hr_x3 : 0 ≤ x3.toInt ∧ x3.toInt ≤ 255) (hr_x4 : 0 ≤ x4.toInt ∧ x4.toInt ≤ 255) (hr_x5 : 0 ≤ x5.toInt ∧ x5.toInt ≤ 255) : zCl l yX12_spelled cX12_spelled 8 (some .long) ({ frames := 0, cells := 0, slots := 0, locals := 0 }) G cA [.int x0, .int x1, .int x2, .int x3, .int x4, .int x5] [] (S := Unit) (fun (r : Int64) (u : Unit) => ((-3325102143) ≤ r.toInt ∧ r.toInt ≤ 5507256447)) (fun (u : Unit) => []) 0 0 := by
  have hk_0 : (0 : Int32).toInt = 0 := by decide +kernel
  have hkl_32 : (32 : Int64).toInt = 32 := by decide +kernel
  have hkl_96 : (96 : Int64).toInt = 96 := by decide +kernel
  refine z_start2l (own := RX12) (by decide) (Nat.le_of_ble_eq_true rfl) rfl ?_
  intro p e s m args below meth c A ls Q hx hb hml hts hown hK hE hT hP hD hS hA hl hret
  have hl : lv_has ls 8 [(0, .int x0), (1, .int x1), (2, .int x2), (3, .int x3), (4, .int x4), (5, .int x5)] := hl
  refine lv_iload_n hx hb dX12_spelled_0 rfl (lv_at hl 0 rfl) ?_
  refine lv_i2l (v := (x0).toInt64) hx hb dX12_spelled_1 rfl ?_
  refine lv_topl (fun x_1 he_x_1 => ?_)
  have hq_x_1 := z_i2l he_x_1
  refine lv_ldc2 (v := 96) hx hb hown (hts _ tw_2155) dX12_spelled_2 ?_
  refine lv_lsub hx hb dX12_spelled_5 ?_
  refine lv_topl (fun x_2 he_x_2 => ?_)
  have hq_x_2 := z_subql he_x_2 (rfl : x_1.toInt = _) hkl_96 (by omega) (by omega)
  refine lv_ldc2 (v := 32) hx hb hown (hts _ tw_2154) dX12_spelled_6 ?_
  refine lv_lmul hx hb dX12_spelled_9 ?_
  refine lv_topl (fun x_3 he_x_3 => ?_)
  have hq_x_3 := z_mulql he_x_3 (rfl : x_2.toInt = _) hkl_32 (by omega) (by omega)
  refine lv_iload_n hx hb dX12_spelled_10 rfl (lv_at hl 1 rfl) ?_
  refine lv_i2l (v := (x1).toInt64) hx hb dX12_spelled_11 rfl ?_
  refine lv_topl (fun x_4 he_x_4 => ?_)
  have hq_x_4 := z_i2l he_x_4
  refine lv_ladd hx hb dX12_spelled_12 ?_
  refine lv_topl (fun x_5 he_x_5 => ?_)
  have hq_x_5 := z_addql he_x_5 (rfl : x_3.toInt = _) (rfl : x_4.toInt = _) (by omega) (by omega)
  refine lv_ldc2 (v := 96) hx hb hown (hts _ tw_2155) dX12_spelled_13 ?_
  refine lv_lsub hx hb dX12_spelled_16 ?_
  refine lv_topl (fun x_6 he_x_6 => ?_)
  have hq_x_6 := z_subql he_x_6 (rfl : x_5.toInt = _) hkl_96 (by omega) (by omega)
  refine lv_lstore (lv' := [(6, .long x_6), (0, .int x0), (1, .int x1), (2, .int x2), (3, .int x3), (4, .int x4), (5, .int x5)]) hx hb dX12_spelled_17 hl (by decide) rfl (fun ls hl => ?_)
  refine lv_iload_n hx hb dX12_spelled_19 rfl (lv_at hl 3 rfl) ?_
  refine lv_if_le (tgt := 39) hx hb dX12_spelled_20 (by decide) (fun c_7 => ?_) (fun c_7 => ?_)
  · have b_8 := z_fleT c_7
    refine lv_lload hx hb dX12_spelled_39 (lv_at hl 0 rfl) ?_
    refine lv_lstore (lv' := [(6, .long x_6), (0, .int x0), (1, .int x1), (2, .int x2), (3, .int x3), (4, .int x4), (5, .int x5)]) hx hb dX12_spelled_41 hl (by decide) rfl (fun ls hl => ?_)
    refine lv_iload_n hx hb dX12_spelled_43 rfl (lv_at hl 4 rfl) ?_
    refine lv_if_le (tgt := 63) hx hb dX12_spelled_44 (by decide) (fun c_9 => ?_) (fun c_9 => ?_)
    · have b_10 := z_fleT c_9
      refine lv_lload hx hb dX12_spelled_63 (lv_at hl 0 rfl) ?_
      refine lv_lstore (lv' := [(6, .long x_6), (0, .int x0), (1, .int x1), (2, .int x2), (3, .int x3), (4, .int x4), (5, .int x5)]) hx hb dX12_spelled_65 hl (by decide) rfl (fun ls hl => ?_)
      refine lv_iload hx hb dX12_spelled_67 (lv_at hl 5 rfl) ?_
      refine lv_if_le (tgt := 89) hx hb dX12_spelled_69 (by decide) (fun c_11 => ?_) (fun c_11 => ?_)
      · have b_12 := z_fleT c_11
        refine lv_lload hx hb dX12_spelled_89 (lv_at hl 0 rfl) ?_
        refine lv_lstore (lv' := [(6, .long x_6), (0, .int x0), (1, .int x1), (2, .int x2), (3, .int x3), (4, .int x4), (5, .int x5)]) hx hb dX12_spelled_91 hl (by decide) rfl (fun ls hl => ?_)
        refine lv_iload hx hb dX12_spelled_93 (lv_at hl 6 rfl) ?_
        refine lv_if_le (tgt := 115) hx hb dX12_spelled_95 (by decide) (fun c_13 => ?_) (fun c_13 => ?_)
        · have b_14 := z_fleT c_13
          refine lv_lload hx hb dX12_spelled_115 (lv_at hl 0 rfl) ?_
          have hpost : ((-3325102143) ≤ x_6.toInt ∧ x_6.toInt ≤ 5507256447) := (by omega)
          exact hret _ _ _ _ _ _ () [] hP hD hS rfl (by decide) dX12_spelled_117 hpost
        · have b_15 := z_fgtF c_13
          refine lv_lload hx hb dX12_spelled_98 (lv_at hl 0 rfl) ?_
          refine lv_ldc2 (v := 32) hx hb hown (hts _ tw_2154) dX12_spelled_100 ?_
          refine lv_lmul hx hb dX12_spelled_103 ?_
          refine lv_topl (fun x_16 he_x_16 => ?_)
          have hq_x_16 := z_mulql he_x_16 (rfl : x_6.toInt = _) hkl_32 (by omega) (by omega)
          refine lv_iload hx hb dX12_spelled_104 (lv_at hl 6 rfl) ?_
          refine lv_i2l (v := (x5).toInt64) hx hb dX12_spelled_106 rfl ?_
          refine lv_topl (fun x_17 he_x_17 => ?_)
          have hq_x_17 := z_i2l he_x_17
          refine lv_ladd hx hb dX12_spelled_107 ?_
          refine lv_topl (fun x_18 he_x_18 => ?_)
          have hq_x_18 := z_addql he_x_18 (rfl : x_16.toInt = _) (rfl : x_17.toInt = _) (by omega) (by omega)
          refine lv_ldc2 (v := 96) hx hb hown (hts _ tw_2155) dX12_spelled_108 ?_
          refine lv_lsub hx hb dX12_spelled_111 ?_
          refine lv_topl (fun x_19 he_x_19 => ?_)
          have hq_x_19 := z_subql he_x_19 (rfl : x_18.toInt = _) hkl_96 (by omega) (by omega)
          refine lv_goto (tgt := 117) hx hb dX12_spelled_112 (by decide) ?_
          have hpost : ((-3325102143) ≤ x_19.toInt ∧ x_19.toInt ≤ 5507256447) := (by omega)
          exact hret _ _ _ _ _ _ () [] hP hD hS rfl (by decide) dX12_spelled_117 hpost
      · have b_20 := z_fgtF c_11
        refine lv_lload hx hb dX12_spelled_72 (lv_at hl 0 rfl) ?_
        refine lv_ldc2 (v := 32) hx hb hown (hts _ tw_2154) dX12_spelled_74 ?_
        refine lv_lmul hx hb dX12_spelled_77 ?_
        refine lv_topl (fun x_21 he_x_21 => ?_)
        have hq_x_21 := z_mulql he_x_21 (rfl : x_6.toInt = _) hkl_32 (by omega) (by omega)
        refine lv_iload hx hb dX12_spelled_78 (lv_at hl 5 rfl) ?_
        refine lv_i2l (v := (x4).toInt64) hx hb dX12_spelled_80 rfl ?_
        refine lv_topl (fun x_22 he_x_22 => ?_)
        have hq_x_22 := z_i2l he_x_22
        refine lv_ladd hx hb dX12_spelled_81 ?_
        refine lv_topl (fun x_23 he_x_23 => ?_)
        have hq_x_23 := z_addql he_x_23 (rfl : x_21.toInt = _) (rfl : x_22.toInt = _) (by omega) (by omega)
        refine lv_ldc2 (v := 96) hx hb hown (hts _ tw_2155) dX12_spelled_82 ?_
        refine lv_lsub hx hb dX12_spelled_85 ?_
        refine lv_topl (fun x_24 he_x_24 => ?_)
        have hq_x_24 := z_subql he_x_24 (rfl : x_23.toInt = _) hkl_96 (by omega) (by omega)
        refine lv_goto (tgt := 91) hx hb dX12_spelled_86 (by decide) ?_
        refine lv_lstore (lv' := [(6, .long x_24), (0, .int x0), (1, .int x1), (2, .int x2), (3, .int x3), (4, .int x4), (5, .int x5)]) hx hb dX12_spelled_91 hl (by decide) rfl (fun ls hl => ?_)
        refine lv_iload hx hb dX12_spelled_93 (lv_at hl 6 rfl) ?_
        refine lv_if_le (tgt := 115) hx hb dX12_spelled_95 (by decide) (fun c_25 => ?_) (fun c_25 => ?_)
        · have b_26 := z_fleT c_25
          refine lv_lload hx hb dX12_spelled_115 (lv_at hl 0 rfl) ?_
          have hpost : ((-3325102143) ≤ x_24.toInt ∧ x_24.toInt ≤ 5507256447) := (by omega)
          exact hret _ _ _ _ _ _ () [] hP hD hS rfl (by decide) dX12_spelled_117 hpost
        · have b_27 := z_fgtF c_25
          refine lv_lload hx hb dX12_spelled_98 (lv_at hl 0 rfl) ?_
          refine lv_ldc2 (v := 32) hx hb hown (hts _ tw_2154) dX12_spelled_100 ?_
          refine lv_lmul hx hb dX12_spelled_103 ?_
          refine lv_topl (fun x_28 he_x_28 => ?_)
          have hq_x_28 := z_mulql he_x_28 (rfl : x_24.toInt = _) hkl_32 (by omega) (by omega)
          refine lv_iload hx hb dX12_spelled_104 (lv_at hl 6 rfl) ?_
          refine lv_i2l (v := (x5).toInt64) hx hb dX12_spelled_106 rfl ?_
          refine lv_topl (fun x_29 he_x_29 => ?_)
          have hq_x_29 := z_i2l he_x_29
          refine lv_ladd hx hb dX12_spelled_107 ?_
          refine lv_topl (fun x_30 he_x_30 => ?_)
          have hq_x_30 := z_addql he_x_30 (rfl : x_28.toInt = _) (rfl : x_29.toInt = _) (by omega) (by omega)
          refine lv_ldc2 (v := 96) hx hb hown (hts _ tw_2155) dX12_spelled_108 ?_
          refine lv_lsub hx hb dX12_spelled_111 ?_
          refine lv_topl (fun x_31 he_x_31 => ?_)
          have hq_x_31 := z_subql he_x_31 (rfl : x_30.toInt = _) hkl_96 (by omega) (by omega)
          refine lv_goto (tgt := 117) hx hb dX12_spelled_112 (by decide) ?_
          have hpost : ((-3325102143) ≤ x_31.toInt ∧ x_31.toInt ≤ 5507256447) := (by omega)
          exact hret _ _ _ _ _ _ () [] hP hD hS rfl (by decide) dX12_spelled_117 hpost
    · have b_32 := z_fgtF c_9
      refine lv_lload hx hb dX12_spelled_47 (lv_at hl 0 rfl) ?_
      refine lv_ldc2 (v := 32) hx hb hown (hts _ tw_2154) dX12_spelled_49 ?_
      refine lv_lmul hx hb dX12_spelled_52 ?_
      refine lv_topl (fun x_33 he_x_33 => ?_)
      have hq_x_33 := z_mulql he_x_33 (rfl : x_6.toInt = _) hkl_32 (by omega) (by omega)
      refine lv_iload_n hx hb dX12_spelled_53 rfl (lv_at hl 4 rfl) ?_
      refine lv_i2l (v := (x3).toInt64) hx hb dX12_spelled_54 rfl ?_
      refine lv_topl (fun x_34 he_x_34 => ?_)
      have hq_x_34 := z_i2l he_x_34
      refine lv_ladd hx hb dX12_spelled_55 ?_
      refine lv_topl (fun x_35 he_x_35 => ?_)
      have hq_x_35 := z_addql he_x_35 (rfl : x_33.toInt = _) (rfl : x_34.toInt = _) (by omega) (by omega)
      refine lv_ldc2 (v := 96) hx hb hown (hts _ tw_2155) dX12_spelled_56 ?_
      refine lv_lsub hx hb dX12_spelled_59 ?_
      refine lv_topl (fun x_36 he_x_36 => ?_)
      have hq_x_36 := z_subql he_x_36 (rfl : x_35.toInt = _) hkl_96 (by omega) (by omega)
      refine lv_goto (tgt := 65) hx hb dX12_spelled_60 (by decide) ?_
      refine lv_lstore (lv' := [(6, .long x_36), (0, .int x0), (1, .int x1), (2, .int x2), (3, .int x3), (4, .int x4), (5, .int x5)]) hx hb dX12_spelled_65 hl (by decide) rfl (fun ls hl => ?_)
      refine lv_iload hx hb dX12_spelled_67 (lv_at hl 5 rfl) ?_
      refine lv_if_le (tgt := 89) hx hb dX12_spelled_69 (by decide) (fun c_37 => ?_) (fun c_37 => ?_)
      · have b_38 := z_fleT c_37
        refine lv_lload hx hb dX12_spelled_89 (lv_at hl 0 rfl) ?_
        refine lv_lstore (lv' := [(6, .long x_36), (0, .int x0), (1, .int x1), (2, .int x2), (3, .int x3), (4, .int x4), (5, .int x5)]) hx hb dX12_spelled_91 hl (by decide) rfl (fun ls hl => ?_)
        refine lv_iload hx hb dX12_spelled_93 (lv_at hl 6 rfl) ?_
        refine lv_if_le (tgt := 115) hx hb dX12_spelled_95 (by decide) (fun c_39 => ?_) (fun c_39 => ?_)
        · have b_40 := z_fleT c_39
          refine lv_lload hx hb dX12_spelled_115 (lv_at hl 0 rfl) ?_
          have hpost : ((-3325102143) ≤ x_36.toInt ∧ x_36.toInt ≤ 5507256447) := (by omega)
          exact hret _ _ _ _ _ _ () [] hP hD hS rfl (by decide) dX12_spelled_117 hpost
        · have b_41 := z_fgtF c_39
          refine lv_lload hx hb dX12_spelled_98 (lv_at hl 0 rfl) ?_
          refine lv_ldc2 (v := 32) hx hb hown (hts _ tw_2154) dX12_spelled_100 ?_
          refine lv_lmul hx hb dX12_spelled_103 ?_
          refine lv_topl (fun x_42 he_x_42 => ?_)
          have hq_x_42 := z_mulql he_x_42 (rfl : x_36.toInt = _) hkl_32 (by omega) (by omega)
          refine lv_iload hx hb dX12_spelled_104 (lv_at hl 6 rfl) ?_
          refine lv_i2l (v := (x5).toInt64) hx hb dX12_spelled_106 rfl ?_
          refine lv_topl (fun x_43 he_x_43 => ?_)
          have hq_x_43 := z_i2l he_x_43
          refine lv_ladd hx hb dX12_spelled_107 ?_
          refine lv_topl (fun x_44 he_x_44 => ?_)
          have hq_x_44 := z_addql he_x_44 (rfl : x_42.toInt = _) (rfl : x_43.toInt = _) (by omega) (by omega)
          refine lv_ldc2 (v := 96) hx hb hown (hts _ tw_2155) dX12_spelled_108 ?_
          refine lv_lsub hx hb dX12_spelled_111 ?_
          refine lv_topl (fun x_45 he_x_45 => ?_)
          have hq_x_45 := z_subql he_x_45 (rfl : x_44.toInt = _) hkl_96 (by omega) (by omega)
          refine lv_goto (tgt := 117) hx hb dX12_spelled_112 (by decide) ?_
          have hpost : ((-3325102143) ≤ x_45.toInt ∧ x_45.toInt ≤ 5507256447) := (by omega)
          exact hret _ _ _ _ _ _ () [] hP hD hS rfl (by decide) dX12_spelled_117 hpost
      · have b_46 := z_fgtF c_37
        refine lv_lload hx hb dX12_spelled_72 (lv_at hl 0 rfl) ?_
        refine lv_ldc2 (v := 32) hx hb hown (hts _ tw_2154) dX12_spelled_74 ?_
        refine lv_lmul hx hb dX12_spelled_77 ?_
        refine lv_topl (fun x_47 he_x_47 => ?_)
        have hq_x_47 := z_mulql he_x_47 (rfl : x_36.toInt = _) hkl_32 (by omega) (by omega)
        refine lv_iload hx hb dX12_spelled_78 (lv_at hl 5 rfl) ?_
        refine lv_i2l (v := (x4).toInt64) hx hb dX12_spelled_80 rfl ?_
        refine lv_topl (fun x_48 he_x_48 => ?_)
        have hq_x_48 := z_i2l he_x_48
        refine lv_ladd hx hb dX12_spelled_81 ?_
        refine lv_topl (fun x_49 he_x_49 => ?_)
        have hq_x_49 := z_addql he_x_49 (rfl : x_47.toInt = _) (rfl : x_48.toInt = _) (by omega) (by omega)
        refine lv_ldc2 (v := 96) hx hb hown (hts _ tw_2155) dX12_spelled_82 ?_
        refine lv_lsub hx hb dX12_spelled_85 ?_
        refine lv_topl (fun x_50 he_x_50 => ?_)
        have hq_x_50 := z_subql he_x_50 (rfl : x_49.toInt = _) hkl_96 (by omega) (by omega)
        refine lv_goto (tgt := 91) hx hb dX12_spelled_86 (by decide) ?_
        refine lv_lstore (lv' := [(6, .long x_50), (0, .int x0), (1, .int x1), (2, .int x2), (3, .int x3), (4, .int x4), (5, .int x5)]) hx hb dX12_spelled_91 hl (by decide) rfl (fun ls hl => ?_)
        refine lv_iload hx hb dX12_spelled_93 (lv_at hl 6 rfl) ?_
        refine lv_if_le (tgt := 115) hx hb dX12_spelled_95 (by decide) (fun c_51 => ?_) (fun c_51 => ?_)
        · have b_52 := z_fleT c_51
          refine lv_lload hx hb dX12_spelled_115 (lv_at hl 0 rfl) ?_
          have hpost : ((-3325102143) ≤ x_50.toInt ∧ x_50.toInt ≤ 5507256447) := (by omega)
          exact hret _ _ _ _ _ _ () [] hP hD hS rfl (by decide) dX12_spelled_117 hpost
        · have b_53 := z_fgtF c_51
          refine lv_lload hx hb dX12_spelled_98 (lv_at hl 0 rfl) ?_
          refine lv_ldc2 (v := 32) hx hb hown (hts _ tw_2154) dX12_spelled_100 ?_
          refine lv_lmul hx hb dX12_spelled_103 ?_
          refine lv_topl (fun x_54 he_x_54 => ?_)
          have hq_x_54 := z_mulql he_x_54 (rfl : x_50.toInt = _) hkl_32 (by omega) (by omega)
          refine lv_iload hx hb dX12_spelled_104 (lv_at hl 6 rfl) ?_
          refine lv_i2l (v := (x5).toInt64) hx hb dX12_spelled_106 rfl ?_
          refine lv_topl (fun x_55 he_x_55 => ?_)
          have hq_x_55 := z_i2l he_x_55
          refine lv_ladd hx hb dX12_spelled_107 ?_
          refine lv_topl (fun x_56 he_x_56 => ?_)
          have hq_x_56 := z_addql he_x_56 (rfl : x_54.toInt = _) (rfl : x_55.toInt = _) (by omega) (by omega)
          refine lv_ldc2 (v := 96) hx hb hown (hts _ tw_2155) dX12_spelled_108 ?_
          refine lv_lsub hx hb dX12_spelled_111 ?_
          refine lv_topl (fun x_57 he_x_57 => ?_)
          have hq_x_57 := z_subql he_x_57 (rfl : x_56.toInt = _) hkl_96 (by omega) (by omega)
          refine lv_goto (tgt := 117) hx hb dX12_spelled_112 (by decide) ?_
          have hpost : ((-3325102143) ≤ x_57.toInt ∧ x_57.toInt ≤ 5507256447) := (by omega)
          exact hret _ _ _ _ _ _ () [] hP hD hS rfl (by decide) dX12_spelled_117 hpost
  · have b_58 := z_fgtF c_7
    refine lv_lload hx hb dX12_spelled_23 (lv_at hl 0 rfl) ?_
    refine lv_ldc2 (v := 32) hx hb hown (hts _ tw_2154) dX12_spelled_25 ?_
    refine lv_lmul hx hb dX12_spelled_28 ?_
    refine lv_topl (fun x_59 he_x_59 => ?_)
    have hq_x_59 := z_mulql he_x_59 (rfl : x_6.toInt = _) hkl_32 (by omega) (by omega)
    refine lv_iload_n hx hb dX12_spelled_29 rfl (lv_at hl 3 rfl) ?_
    refine lv_i2l (v := (x2).toInt64) hx hb dX12_spelled_30 rfl ?_
    refine lv_topl (fun x_60 he_x_60 => ?_)
    have hq_x_60 := z_i2l he_x_60
    refine lv_ladd hx hb dX12_spelled_31 ?_
    refine lv_topl (fun x_61 he_x_61 => ?_)
    have hq_x_61 := z_addql he_x_61 (rfl : x_59.toInt = _) (rfl : x_60.toInt = _) (by omega) (by omega)
    refine lv_ldc2 (v := 96) hx hb hown (hts _ tw_2155) dX12_spelled_32 ?_
    refine lv_lsub hx hb dX12_spelled_35 ?_
    refine lv_topl (fun x_62 he_x_62 => ?_)
    have hq_x_62 := z_subql he_x_62 (rfl : x_61.toInt = _) hkl_96 (by omega) (by omega)
    refine lv_goto (tgt := 41) hx hb dX12_spelled_36 (by decide) ?_
    refine lv_lstore (lv' := [(6, .long x_62), (0, .int x0), (1, .int x1), (2, .int x2), (3, .int x3), (4, .int x4), (5, .int x5)]) hx hb dX12_spelled_41 hl (by decide) rfl (fun ls hl => ?_)
    refine lv_iload_n hx hb dX12_spelled_43 rfl (lv_at hl 4 rfl) ?_
    refine lv_if_le (tgt := 63) hx hb dX12_spelled_44 (by decide) (fun c_63 => ?_) (fun c_63 => ?_)
    · have b_64 := z_fleT c_63
      refine lv_lload hx hb dX12_spelled_63 (lv_at hl 0 rfl) ?_
      refine lv_lstore (lv' := [(6, .long x_62), (0, .int x0), (1, .int x1), (2, .int x2), (3, .int x3), (4, .int x4), (5, .int x5)]) hx hb dX12_spelled_65 hl (by decide) rfl (fun ls hl => ?_)
      refine lv_iload hx hb dX12_spelled_67 (lv_at hl 5 rfl) ?_
      refine lv_if_le (tgt := 89) hx hb dX12_spelled_69 (by decide) (fun c_65 => ?_) (fun c_65 => ?_)
      · have b_66 := z_fleT c_65
        refine lv_lload hx hb dX12_spelled_89 (lv_at hl 0 rfl) ?_
        refine lv_lstore (lv' := [(6, .long x_62), (0, .int x0), (1, .int x1), (2, .int x2), (3, .int x3), (4, .int x4), (5, .int x5)]) hx hb dX12_spelled_91 hl (by decide) rfl (fun ls hl => ?_)
        refine lv_iload hx hb dX12_spelled_93 (lv_at hl 6 rfl) ?_
        refine lv_if_le (tgt := 115) hx hb dX12_spelled_95 (by decide) (fun c_67 => ?_) (fun c_67 => ?_)
        · have b_68 := z_fleT c_67
          refine lv_lload hx hb dX12_spelled_115 (lv_at hl 0 rfl) ?_
          have hpost : ((-3325102143) ≤ x_62.toInt ∧ x_62.toInt ≤ 5507256447) := (by omega)
          exact hret _ _ _ _ _ _ () [] hP hD hS rfl (by decide) dX12_spelled_117 hpost
        · have b_69 := z_fgtF c_67
          refine lv_lload hx hb dX12_spelled_98 (lv_at hl 0 rfl) ?_
          refine lv_ldc2 (v := 32) hx hb hown (hts _ tw_2154) dX12_spelled_100 ?_
          refine lv_lmul hx hb dX12_spelled_103 ?_
          refine lv_topl (fun x_70 he_x_70 => ?_)
          have hq_x_70 := z_mulql he_x_70 (rfl : x_62.toInt = _) hkl_32 (by omega) (by omega)
          refine lv_iload hx hb dX12_spelled_104 (lv_at hl 6 rfl) ?_
          refine lv_i2l (v := (x5).toInt64) hx hb dX12_spelled_106 rfl ?_
          refine lv_topl (fun x_71 he_x_71 => ?_)
          have hq_x_71 := z_i2l he_x_71
          refine lv_ladd hx hb dX12_spelled_107 ?_
          refine lv_topl (fun x_72 he_x_72 => ?_)
          have hq_x_72 := z_addql he_x_72 (rfl : x_70.toInt = _) (rfl : x_71.toInt = _) (by omega) (by omega)
          refine lv_ldc2 (v := 96) hx hb hown (hts _ tw_2155) dX12_spelled_108 ?_
          refine lv_lsub hx hb dX12_spelled_111 ?_
          refine lv_topl (fun x_73 he_x_73 => ?_)
          have hq_x_73 := z_subql he_x_73 (rfl : x_72.toInt = _) hkl_96 (by omega) (by omega)
          refine lv_goto (tgt := 117) hx hb dX12_spelled_112 (by decide) ?_
          have hpost : ((-3325102143) ≤ x_73.toInt ∧ x_73.toInt ≤ 5507256447) := (by omega)
          exact hret _ _ _ _ _ _ () [] hP hD hS rfl (by decide) dX12_spelled_117 hpost
      · have b_74 := z_fgtF c_65
        refine lv_lload hx hb dX12_spelled_72 (lv_at hl 0 rfl) ?_
        refine lv_ldc2 (v := 32) hx hb hown (hts _ tw_2154) dX12_spelled_74 ?_
        refine lv_lmul hx hb dX12_spelled_77 ?_
        refine lv_topl (fun x_75 he_x_75 => ?_)
        have hq_x_75 := z_mulql he_x_75 (rfl : x_62.toInt = _) hkl_32 (by omega) (by omega)
        refine lv_iload hx hb dX12_spelled_78 (lv_at hl 5 rfl) ?_
        refine lv_i2l (v := (x4).toInt64) hx hb dX12_spelled_80 rfl ?_
        refine lv_topl (fun x_76 he_x_76 => ?_)
        have hq_x_76 := z_i2l he_x_76
        refine lv_ladd hx hb dX12_spelled_81 ?_
        refine lv_topl (fun x_77 he_x_77 => ?_)
        have hq_x_77 := z_addql he_x_77 (rfl : x_75.toInt = _) (rfl : x_76.toInt = _) (by omega) (by omega)
        refine lv_ldc2 (v := 96) hx hb hown (hts _ tw_2155) dX12_spelled_82 ?_
        refine lv_lsub hx hb dX12_spelled_85 ?_
        refine lv_topl (fun x_78 he_x_78 => ?_)
        have hq_x_78 := z_subql he_x_78 (rfl : x_77.toInt = _) hkl_96 (by omega) (by omega)
        refine lv_goto (tgt := 91) hx hb dX12_spelled_86 (by decide) ?_
        refine lv_lstore (lv' := [(6, .long x_78), (0, .int x0), (1, .int x1), (2, .int x2), (3, .int x3), (4, .int x4), (5, .int x5)]) hx hb dX12_spelled_91 hl (by decide) rfl (fun ls hl => ?_)
        refine lv_iload hx hb dX12_spelled_93 (lv_at hl 6 rfl) ?_
        refine lv_if_le (tgt := 115) hx hb dX12_spelled_95 (by decide) (fun c_79 => ?_) (fun c_79 => ?_)
        · have b_80 := z_fleT c_79
          refine lv_lload hx hb dX12_spelled_115 (lv_at hl 0 rfl) ?_
          have hpost : ((-3325102143) ≤ x_78.toInt ∧ x_78.toInt ≤ 5507256447) := (by omega)
          exact hret _ _ _ _ _ _ () [] hP hD hS rfl (by decide) dX12_spelled_117 hpost
        · have b_81 := z_fgtF c_79
          refine lv_lload hx hb dX12_spelled_98 (lv_at hl 0 rfl) ?_
          refine lv_ldc2 (v := 32) hx hb hown (hts _ tw_2154) dX12_spelled_100 ?_
          refine lv_lmul hx hb dX12_spelled_103 ?_
          refine lv_topl (fun x_82 he_x_82 => ?_)
          have hq_x_82 := z_mulql he_x_82 (rfl : x_78.toInt = _) hkl_32 (by omega) (by omega)
          refine lv_iload hx hb dX12_spelled_104 (lv_at hl 6 rfl) ?_
          refine lv_i2l (v := (x5).toInt64) hx hb dX12_spelled_106 rfl ?_
          refine lv_topl (fun x_83 he_x_83 => ?_)
          have hq_x_83 := z_i2l he_x_83
          refine lv_ladd hx hb dX12_spelled_107 ?_
          refine lv_topl (fun x_84 he_x_84 => ?_)
          have hq_x_84 := z_addql he_x_84 (rfl : x_82.toInt = _) (rfl : x_83.toInt = _) (by omega) (by omega)
          refine lv_ldc2 (v := 96) hx hb hown (hts _ tw_2155) dX12_spelled_108 ?_
          refine lv_lsub hx hb dX12_spelled_111 ?_
          refine lv_topl (fun x_85 he_x_85 => ?_)
          have hq_x_85 := z_subql he_x_85 (rfl : x_84.toInt = _) hkl_96 (by omega) (by omega)
          refine lv_goto (tgt := 117) hx hb dX12_spelled_112 (by decide) ?_
          have hpost : ((-3325102143) ≤ x_85.toInt ∧ x_85.toInt ≤ 5507256447) := (by omega)
          exact hret _ _ _ _ _ _ () [] hP hD hS rfl (by decide) dX12_spelled_117 hpost
    · have b_86 := z_fgtF c_63
      refine lv_lload hx hb dX12_spelled_47 (lv_at hl 0 rfl) ?_
      refine lv_ldc2 (v := 32) hx hb hown (hts _ tw_2154) dX12_spelled_49 ?_
      refine lv_lmul hx hb dX12_spelled_52 ?_
      refine lv_topl (fun x_87 he_x_87 => ?_)
      have hq_x_87 := z_mulql he_x_87 (rfl : x_62.toInt = _) hkl_32 (by omega) (by omega)
      refine lv_iload_n hx hb dX12_spelled_53 rfl (lv_at hl 4 rfl) ?_
      refine lv_i2l (v := (x3).toInt64) hx hb dX12_spelled_54 rfl ?_
      refine lv_topl (fun x_88 he_x_88 => ?_)
      have hq_x_88 := z_i2l he_x_88
      refine lv_ladd hx hb dX12_spelled_55 ?_
      refine lv_topl (fun x_89 he_x_89 => ?_)
      have hq_x_89 := z_addql he_x_89 (rfl : x_87.toInt = _) (rfl : x_88.toInt = _) (by omega) (by omega)
      refine lv_ldc2 (v := 96) hx hb hown (hts _ tw_2155) dX12_spelled_56 ?_
      refine lv_lsub hx hb dX12_spelled_59 ?_
      refine lv_topl (fun x_90 he_x_90 => ?_)
      have hq_x_90 := z_subql he_x_90 (rfl : x_89.toInt = _) hkl_96 (by omega) (by omega)
      refine lv_goto (tgt := 65) hx hb dX12_spelled_60 (by decide) ?_
      refine lv_lstore (lv' := [(6, .long x_90), (0, .int x0), (1, .int x1), (2, .int x2), (3, .int x3), (4, .int x4), (5, .int x5)]) hx hb dX12_spelled_65 hl (by decide) rfl (fun ls hl => ?_)
      refine lv_iload hx hb dX12_spelled_67 (lv_at hl 5 rfl) ?_
      refine lv_if_le (tgt := 89) hx hb dX12_spelled_69 (by decide) (fun c_91 => ?_) (fun c_91 => ?_)
      · have b_92 := z_fleT c_91
        refine lv_lload hx hb dX12_spelled_89 (lv_at hl 0 rfl) ?_
        refine lv_lstore (lv' := [(6, .long x_90), (0, .int x0), (1, .int x1), (2, .int x2), (3, .int x3), (4, .int x4), (5, .int x5)]) hx hb dX12_spelled_91 hl (by decide) rfl (fun ls hl => ?_)
        refine lv_iload hx hb dX12_spelled_93 (lv_at hl 6 rfl) ?_
        refine lv_if_le (tgt := 115) hx hb dX12_spelled_95 (by decide) (fun c_93 => ?_) (fun c_93 => ?_)
        · have b_94 := z_fleT c_93
          refine lv_lload hx hb dX12_spelled_115 (lv_at hl 0 rfl) ?_
          have hpost : ((-3325102143) ≤ x_90.toInt ∧ x_90.toInt ≤ 5507256447) := (by omega)
          exact hret _ _ _ _ _ _ () [] hP hD hS rfl (by decide) dX12_spelled_117 hpost
        · have b_95 := z_fgtF c_93
          refine lv_lload hx hb dX12_spelled_98 (lv_at hl 0 rfl) ?_
          refine lv_ldc2 (v := 32) hx hb hown (hts _ tw_2154) dX12_spelled_100 ?_
          refine lv_lmul hx hb dX12_spelled_103 ?_
          refine lv_topl (fun x_96 he_x_96 => ?_)
          have hq_x_96 := z_mulql he_x_96 (rfl : x_90.toInt = _) hkl_32 (by omega) (by omega)
          refine lv_iload hx hb dX12_spelled_104 (lv_at hl 6 rfl) ?_
          refine lv_i2l (v := (x5).toInt64) hx hb dX12_spelled_106 rfl ?_
          refine lv_topl (fun x_97 he_x_97 => ?_)
          have hq_x_97 := z_i2l he_x_97
          refine lv_ladd hx hb dX12_spelled_107 ?_
          refine lv_topl (fun x_98 he_x_98 => ?_)
          have hq_x_98 := z_addql he_x_98 (rfl : x_96.toInt = _) (rfl : x_97.toInt = _) (by omega) (by omega)
          refine lv_ldc2 (v := 96) hx hb hown (hts _ tw_2155) dX12_spelled_108 ?_
          refine lv_lsub hx hb dX12_spelled_111 ?_
          refine lv_topl (fun x_99 he_x_99 => ?_)
          have hq_x_99 := z_subql he_x_99 (rfl : x_98.toInt = _) hkl_96 (by omega) (by omega)
          refine lv_goto (tgt := 117) hx hb dX12_spelled_112 (by decide) ?_
          have hpost : ((-3325102143) ≤ x_99.toInt ∧ x_99.toInt ≤ 5507256447) := (by omega)
          exact hret _ _ _ _ _ _ () [] hP hD hS rfl (by decide) dX12_spelled_117 hpost
      · have b_100 := z_fgtF c_91
        refine lv_lload hx hb dX12_spelled_72 (lv_at hl 0 rfl) ?_
        refine lv_ldc2 (v := 32) hx hb hown (hts _ tw_2154) dX12_spelled_74 ?_
        refine lv_lmul hx hb dX12_spelled_77 ?_
        refine lv_topl (fun x_101 he_x_101 => ?_)
        have hq_x_101 := z_mulql he_x_101 (rfl : x_90.toInt = _) hkl_32 (by omega) (by omega)
        refine lv_iload hx hb dX12_spelled_78 (lv_at hl 5 rfl) ?_
        refine lv_i2l (v := (x4).toInt64) hx hb dX12_spelled_80 rfl ?_
        refine lv_topl (fun x_102 he_x_102 => ?_)
        have hq_x_102 := z_i2l he_x_102
        refine lv_ladd hx hb dX12_spelled_81 ?_
        refine lv_topl (fun x_103 he_x_103 => ?_)
        have hq_x_103 := z_addql he_x_103 (rfl : x_101.toInt = _) (rfl : x_102.toInt = _) (by omega) (by omega)
        refine lv_ldc2 (v := 96) hx hb hown (hts _ tw_2155) dX12_spelled_82 ?_
        refine lv_lsub hx hb dX12_spelled_85 ?_
        refine lv_topl (fun x_104 he_x_104 => ?_)
        have hq_x_104 := z_subql he_x_104 (rfl : x_103.toInt = _) hkl_96 (by omega) (by omega)
        refine lv_goto (tgt := 91) hx hb dX12_spelled_86 (by decide) ?_
        refine lv_lstore (lv' := [(6, .long x_104), (0, .int x0), (1, .int x1), (2, .int x2), (3, .int x3), (4, .int x4), (5, .int x5)]) hx hb dX12_spelled_91 hl (by decide) rfl (fun ls hl => ?_)
        refine lv_iload hx hb dX12_spelled_93 (lv_at hl 6 rfl) ?_
        refine lv_if_le (tgt := 115) hx hb dX12_spelled_95 (by decide) (fun c_105 => ?_) (fun c_105 => ?_)
        · have b_106 := z_fleT c_105
          refine lv_lload hx hb dX12_spelled_115 (lv_at hl 0 rfl) ?_
          have hpost : ((-3325102143) ≤ x_104.toInt ∧ x_104.toInt ≤ 5507256447) := (by omega)
          exact hret _ _ _ _ _ _ () [] hP hD hS rfl (by decide) dX12_spelled_117 hpost
        · have b_107 := z_fgtF c_105
          refine lv_lload hx hb dX12_spelled_98 (lv_at hl 0 rfl) ?_
          refine lv_ldc2 (v := 32) hx hb hown (hts _ tw_2154) dX12_spelled_100 ?_
          refine lv_lmul hx hb dX12_spelled_103 ?_
          refine lv_topl (fun x_108 he_x_108 => ?_)
          have hq_x_108 := z_mulql he_x_108 (rfl : x_104.toInt = _) hkl_32 (by omega) (by omega)
          refine lv_iload hx hb dX12_spelled_104 (lv_at hl 6 rfl) ?_
          refine lv_i2l (v := (x5).toInt64) hx hb dX12_spelled_106 rfl ?_
          refine lv_topl (fun x_109 he_x_109 => ?_)
          have hq_x_109 := z_i2l he_x_109
          refine lv_ladd hx hb dX12_spelled_107 ?_
          refine lv_topl (fun x_110 he_x_110 => ?_)
          have hq_x_110 := z_addql he_x_110 (rfl : x_108.toInt = _) (rfl : x_109.toInt = _) (by omega) (by omega)
          refine lv_ldc2 (v := 96) hx hb hown (hts _ tw_2155) dX12_spelled_108 ?_
          refine lv_lsub hx hb dX12_spelled_111 ?_
          refine lv_topl (fun x_111 he_x_111 => ?_)
          have hq_x_111 := z_subql he_x_111 (rfl : x_110.toInt = _) hkl_96 (by omega) (by omega)
          refine lv_goto (tgt := 117) hx hb dX12_spelled_112 (by decide) ?_
          have hpost : ((-3325102143) ≤ x_111.toInt ∧ x_111.toInt ≤ 5507256447) := (by omega)
          exact hret _ _ _ _ _ _ () [] hP hD hS rfl (by decide) dX12_spelled_117 hpost
set_option maxHeartbeats 4000000 in
set_option maxRecDepth 100000 in
theorem r_power (l : Launch) (G : va_G) (cA : zCA) (nn : Int32) (hr_nn : 0 ≤ nn.toInt ∧ nn.toInt ≤ 4) : zCl l yX12_power cX12_power 4 (some .long) ({ frames := 0, cells := 0, slots := 0, locals := 0 }) G cA [.int nn] [] (S := Unit) (fun (r : Int64) (u : Unit) => True) (fun (u : Unit) => []) 0 0 := by
  have hk_0 : (0 : Int32).toInt = 0 := by decide +kernel
  have hk_1 : (1 : Int32).toInt = 1 := by decide +kernel
  have hkl_16 : (16 : Int64).toInt = 16 := by decide +kernel
  refine z_start2l (own := RX12) (by decide) (Nat.le_of_ble_eq_true rfl) rfl ?_
  intro p e s m args below meth c A ls Q hx hb hml hts hown hK hE hT hP hD hS hA hl hret
  have hl : lv_has ls 4 [(0, .int nn)] := hl
  refine lv_lconst (v := 1) hx hb dX12_power_0 (by decide) ?_
  refine lv_lstore_n (lv' := [(1, .long 1), (0, .int nn)]) hx hb dX12_power_1 rfl hl (by decide) rfl (fun ls hl => ?_)
  refine lv_iconst (v := 0) hx hb dX12_power_2 (by decide) ?_
  refine lv_istore_n (lv' := [(3, .int 0), (1, .long 1), (0, .int nn)]) hx hb dX12_power_3 rfl hl (by decide) rfl (fun ls hl => ?_)
  have hlp_60 : ∀ (n : Nat) (v_53 : Int64) (v_54 : Int32) (H : Heap) (locs : List Loc) (ls : Array Slot), (2147483647 - v_54.toInt).toNat < n → (0 ≤ v_54.toInt ∧ v_54.toInt ≤ 4) → va_P G vwCl [] H → va_D A [] → va_S A s.heap H locs → lv_has ls 4 [(0, .int nn), (1, .long v_53), (3, .int v_54)] → W p l e ({ frames := 0, cells := 0, slots := 0, locals := 0 }) s m args below meth c H locs 0 0 Q (F0 m 4 ls []) := by
    intro n
    induction n with
    | zero =>
      intro v_53 v_54 H locs ls hmu_hlp_60 hr_v_54 hP hD hS hl
      exact absurd hmu_hlp_60 (Nat.not_lt_zero _)
    | succ n ih_61 =>
      intro v_53 v_54 H locs ls hmu_hlp_60 hr_v_54 hP hD hS hl
      refine lv_iload_n hx hb dX12_power_4 rfl (lv_at hl 2 rfl) ?_
      refine lv_iload_n hx hb dX12_power_5 rfl (lv_at hl 0 rfl) ?_
      refine lv_icmp_ge (tgt := 21) hx hb dX12_power_6 (by decide) (fun c_62 => ?_) (fun c_62 => ?_)
      · have b_63 := z_fgeT c_62
        refine lv_lload_n hx hb dX12_power_21 rfl (lv_at hl 1 rfl) ?_
        exact hret _ _ _ _ _ _ () [] hP hD hS rfl (by decide) dX12_power_22 trivial
      · have b_64 := z_fltF c_62
        refine lv_lload_n hx hb dX12_power_9 rfl (lv_at hl 1 rfl) ?_
        refine lv_ldc2 (v := 16) hx hb hown (hts _ tw_2470) dX12_power_10 ?_
        refine lv_lmul hx hb dX12_power_13 ?_
        have hL_v_53 := z_fulll v_53
        refine lv_topl (fun x_65 he_x_65 => ?_)
        refine lv_lstore_n (lv' := [(1, .long x_65), (0, .int nn), (3, .int v_54)]) hx hb dX12_power_14 rfl hl (by decide) rfl (fun ls hl => ?_)
        obtain ⟨x_66, he_x_66⟩ : ∃ z : Int32, z = v_54 + 1 := ⟨_, rfl⟩
        have hq_x_66 := z_addq he_x_66 (rfl : v_54.toInt = _) hk_1 (by omega) (by omega)
        refine lv_iinc (v := x_66) (lv' := [(3, .int x_66), (1, .long x_65), (0, .int nn)]) hx hb dX12_power_15 hl (k := 2) rfl ((z_ofi (by decide +kernel)).trans he_x_66.symm) (by decide) rfl (fun ls hl => ?_)
        refine lv_goto (tgt := 4) hx hb dX12_power_18 (by decide) ?_
        exact ih_61 x_65 x_66 H locs ls (by omega) (by omega) hP hD hS (lv_sub hl [2, 1, 0] rfl)
  exact hlp_60 _ 1 0 _ _ _ (Nat.lt_succ_self _) (by decide +kernel) hP hD hS (lv_sub hl [2, 1, 0] rfl)
set_option maxHeartbeats 4000000 in
set_option maxRecDepth 100000 in
theorem r_bits (l : Launch) (G : va_G) (cA : zCA) (x : Int32) : zCi l yX12_bits cX12_bits 1 (some .int) ({ frames := 0, cells := 0, slots := 0, locals := 0 }) G cA [.int x] [] (S := Unit) (fun (r : Int32) (u : Unit) => (0 ≤ r.toInt ∧ r.toInt ≤ 3)) (fun (u : Unit) => []) 0 0 := by
  have hk_1 : (1 : Int32).toInt = 1 := by decide +kernel
  refine z_start2i (own := RX12) (by decide) (Nat.le_of_ble_eq_true rfl) rfl ?_
  intro p e s m args below meth c A ls Q hx hb hml hts hown hK hE hT hP hD hS hA hl hret
  have hl : lv_has ls 1 [(0, .int x)] := hl
  refine lv_iload_n hx hb dX12_bits_0 rfl (lv_at hl 0 rfl) ?_
  refine lv_iconst (v := 1) hx hb dX12_bits_1 (by decide) ?_
  refine lv_iand hx hb dX12_bits_2 ?_
  have hL_x := z_full x
  refine lv_topi (fun x_1 he_x_1 => ?_)
  have hr_x_1 := z_andr he_x_1 hk_1 (by decide)
  refine lv_iload_n hx hb dX12_bits_3 rfl (lv_at hl 0 rfl) ?_
  refine lv_iconst (v := 1) hx hb dX12_bits_4 (by decide) ?_
  refine lv_ishr hx hb dX12_bits_5 ?_
  refine lv_topi (fun x_2 he_x_2 => ?_)
  refine lv_iconst (v := 1) hx hb dX12_bits_6 (by decide) ?_
  refine lv_iand hx hb dX12_bits_7 ?_
  have hL_x_2 := z_full x_2
  refine lv_topi (fun x_3 he_x_3 => ?_)
  have hr_x_3 := z_andr he_x_3 hk_1 (by decide)
  refine lv_iadd hx hb dX12_bits_8 ?_
  refine lv_topi (fun x_4 he_x_4 => ?_)
  have hq_x_4 := z_addq he_x_4 (rfl : x_1.toInt = _) (rfl : x_3.toInt = _) (by omega) (by omega)
  refine lv_iload_n hx hb dX12_bits_9 rfl (lv_at hl 0 rfl) ?_
  refine lv_iconst (v := 2) hx hb dX12_bits_10 (by decide) ?_
  refine lv_ishr hx hb dX12_bits_11 ?_
  refine lv_topi (fun x_5 he_x_5 => ?_)
  refine lv_iconst (v := 1) hx hb dX12_bits_12 (by decide) ?_
  refine lv_iand hx hb dX12_bits_13 ?_
  have hL_x_5 := z_full x_5
  refine lv_topi (fun x_6 he_x_6 => ?_)
  have hr_x_6 := z_andr he_x_6 hk_1 (by decide)
  refine lv_iadd hx hb dX12_bits_14 ?_
  refine lv_topi (fun x_7 he_x_7 => ?_)
  have hq_x_7 := z_addq he_x_7 (rfl : x_4.toInt = _) (rfl : x_6.toInt = _) (by omega) (by omega)
  have hpost : (0 ≤ x_7.toInt ∧ x_7.toInt ≤ 3) := (by omega)
  exact hret _ _ _ _ _ _ () [] hP hD hS rfl (by decide) dX12_bits_15 hpost
set_option maxHeartbeats 4000000 in
set_option maxRecDepth 100000 in
theorem r_look2 (l : Launch) (G : va_G) (cA : zCA) (h0 : Nat) (m_status : Int32) (m_thrown : Int32) (m_above : Int64) (m_under : Int64) (a_traySort : Nat) (a_trayMany : Nat) (a_numbers : Nat) (a_tape : Nat) (m_taped : Int32) (m_textEnd : Int32) (m_faultKind : Int32) (m_faultAt : Int32) (m_bad : Int32) (m_badAt : Int32) (m_token : Int32) (m_at : Int32) (m_behind : Int32) (m_number : Int32) (m_letters : Int32) (m_word : Int64) (a_c : Nat) (a_words : Nat) (m_markMany : Int32) (a_there : Nat) (a_tried : Nat) (a_best : Nat) (a_found : Nat) (m_thereMany : Int32) (m_foundMany : Int32) (m_orderHow : Int32) (m_orderRing : Int32) (m_orderMany : Int32) (m_hasBest : Int32) (m_bestTop : Int64) (m_bestBy : Int64) (a_weights : Nat) (a_shared : Nat) (m_random : Int32) (m_truePlace : Int32) (m_trueWay : Int32) (m_seconds : Int32) (m_done : Int32) (m_feelings : Int32) (m_tries : Int32) (m_leftOver : Int32) (m_playDoor : Int32) (m_playRing : Int32) (m_isOpen : Int32) (m_isOver : Int32) (m_wasTried : Int32) (m_hasPlayed : Int32) (a_feltNow : Nat) (a_last : Nat) (a_kept : Nat) (m_hasSeconds : Int32) (m_hasTurned : Int32) (m_hasRound : Int32) (a_hasFeels : Nat) (a_isOn : Nat) (m_firstAct : Int32) (m_meanTop : Int64) (m_meanBy : Int64) (a_order : Nat) (m_rowMany : Int32) (m_newSteps : Int32) (g_tape : Nat → Int32) (pp : Int32) (hr_pp : 0 ≤ pp.toInt ∧ pp.toInt ≤ 900) (hr_m_textEnd : 0 ≤ m_textEnd.toInt ∧ m_textEnd.toInt ≤ 900) : zCi l yX12_look2 cX12_look2 2 (some .int) ({ frames := 0, cells := 0, slots := 0, locals := 0 }) G cA [.ref h0, .int pp] [(h0, .inr (12, [.int m_status, .int m_thrown, .long m_above, .long m_under, .ref a_traySort, .ref a_trayMany, .ref a_numbers, .ref a_tape, .int m_taped, .int m_textEnd, .int m_faultKind, .int m_faultAt, .int m_bad, .int m_badAt, .int m_token, .int m_at, .int m_behind, .int m_number, .int m_letters, .long m_word, .ref a_c, .ref a_words, .int m_markMany, .ref a_there, .ref a_tried, .ref a_best, .ref a_found, .int m_thereMany, .int m_foundMany, .int m_orderHow, .int m_orderRing, .int m_orderMany, .int m_hasBest, .long m_bestTop, .long m_bestBy, .ref a_weights, .ref a_shared, .int m_random, .int m_truePlace, .int m_trueWay, .int m_seconds, .int m_done, .int m_feelings, .int m_tries, .int m_leftOver, .int m_playDoor, .int m_playRing, .int m_isOpen, .int m_isOver, .int m_wasTried, .int m_hasPlayed, .ref a_feltNow, .ref a_last, .ref a_kept, .int m_hasSeconds, .int m_hasTurned, .int m_hasRound, .ref a_hasFeels, .ref a_isOn, .int m_firstAct, .long m_meanTop, .long m_meanBy, .ref a_order, .int m_rowMany, .int m_newSteps])), (a_tape, .inl (cA.1 2, 900, .inl g_tape))] (S := Unit) (fun (r : Int32) (u : Unit) => (0 ≤ r.toInt ∧ r.toInt ≤ 255) ∧ (r.toInt = 0 ∨ pp.toInt < m_textEnd.toInt) ∧ (r.toInt = zlk g_tape m_textEnd.toInt pp.toInt)) (fun (u : Unit) => [(h0, .inr (12, [.int m_status, .int m_thrown, .long m_above, .long m_under, .ref a_traySort, .ref a_trayMany, .ref a_numbers, .ref a_tape, .int m_taped, .int m_textEnd, .int m_faultKind, .int m_faultAt, .int m_bad, .int m_badAt, .int m_token, .int m_at, .int m_behind, .int m_number, .int m_letters, .long m_word, .ref a_c, .ref a_words, .int m_markMany, .ref a_there, .ref a_tried, .ref a_best, .ref a_found, .int m_thereMany, .int m_foundMany, .int m_orderHow, .int m_orderRing, .int m_orderMany, .int m_hasBest, .long m_bestTop, .long m_bestBy, .ref a_weights, .ref a_shared, .int m_random, .int m_truePlace, .int m_trueWay, .int m_seconds, .int m_done, .int m_feelings, .int m_tries, .int m_leftOver, .int m_playDoor, .int m_playRing, .int m_isOpen, .int m_isOver, .int m_wasTried, .int m_hasPlayed, .ref a_feltNow, .ref a_last, .ref a_kept, .int m_hasSeconds, .int m_hasTurned, .int m_hasRound, .ref a_hasFeels, .ref a_isOn, .int m_firstAct, .long m_meanTop, .long m_meanBy, .ref a_order, .int m_rowMany, .int m_newSteps])), (a_tape, .inl (cA.1 2, 900, .inl g_tape))]) 0 0 := by
  have hk_0 : (0 : Int32).toInt = 0 := by decide +kernel
  have hk_255 : (255 : Int32).toInt = 255 := by decide +kernel
  refine z_start2i (own := RX12) (by decide) (Nat.le_of_ble_eq_true rfl) rfl ?_
  intro p e s m args below meth c A ls Q hx hb hml hts hown hK hE hT hP hD hS hA hl hret
  have hl : lv_has ls 2 [(0, .ref h0), (1, .int pp)] := hl
  refine lv_iload_n hx hb dX12_look2_0 rfl (lv_at hl 1 rfl) ?_
  refine lv_aload_n hx hb dX12_look2_1 rfl (lv_at hl 0 rfl) ?_
  refine va_get (D := G) (ci := 12) (v := .int m_textEnd) (C := RX12) (T := TX12) (N := 65) hx hb hts inT12 hown hK hP 0 rfl rfl 9 (by decide) (hts _ tw_1894) (fun _ h9 => h9) rfl dX12_look2_2 ?_
  refine lv_icmp_ge (tgt := 21) hx hb dX12_look2_5 (by decide) (fun c_1 => ?_) (fun c_1 => ?_)
  · have b_2 := z_fgeT c_1
    refine lv_iconst (v := 0) hx hb dX12_look2_21 (by decide) ?_
    have hpost : (0 ≤ (0 : Int32).toInt ∧ (0 : Int32).toInt ≤ 255) ∧ ((0 : Int32).toInt = 0 ∨ pp.toInt < m_textEnd.toInt) ∧ ((0 : Int32).toInt = zlk g_tape m_textEnd.toInt pp.toInt) := ⟨(by decide +kernel), (by omega), (z_lk0 (by omega))⟩
    exact hret _ _ _ _ _ _ () [0, 1] hP hD hS rfl (by decide) dX12_look2_22 hpost
  · have b_3 := z_fltF c_1
    refine lv_aload_n hx hb dX12_look2_8 rfl (lv_at hl 0 rfl) ?_
    refine va_get (D := G) (ci := 12) (v := .ref a_tape) (C := RX12) (T := TX12) (N := 65) hx hb hts inT12 hown hK hP 0 rfl rfl 7 (by decide) (hts _ tw_1892) (fun _ h9 => h9) rfl dX12_look2_9 ?_
    refine lv_iload_n hx hb dX12_look2_12 rfl (lv_at hl 1 rfl) ?_
    refine va_bald hx hb hK hP 1 2 rfl rfl (z_inN (by omega) (by omega)) dX12_look2_13 ?_
    refine lv_topi (fun x_4 he_x_4 => ?_)
    refine lv_sipush (v := 255) hx hb dX12_look2_14 (by decide) ?_
    refine lv_iand hx hb dX12_look2_17 ?_
    have hL_x_4 := z_full x_4
    refine lv_topi (fun x_5 he_x_5 => ?_)
    have hr_x_5 := z_andr he_x_5 hk_255 (by decide)
    refine lv_goto (tgt := 22) hx hb dX12_look2_18 (by decide) ?_
    have hpost : (0 ≤ x_5.toInt ∧ x_5.toInt ≤ 255) ∧ (x_5.toInt = 0 ∨ pp.toInt < m_textEnd.toInt) ∧ (x_5.toInt = zlk g_tape m_textEnd.toInt pp.toInt) := ⟨(by omega), (by omega), (z_lk1 he_x_5 he_x_4 (by omega) (by omega))⟩
    exact hret _ _ _ _ _ _ () [0, 1] hP hD hS rfl (by decide) dX12_look2_22 hpost
set_option maxHeartbeats 4000000 in
set_option maxRecDepth 100000 in
theorem r_isWord (l : Launch) (G : va_G) (cA : zCA) (h0 : Nat) (m_status : Int32) (m_thrown : Int32) (m_above : Int64) (m_under : Int64) (a_traySort : Nat) (a_trayMany : Nat) (a_numbers : Nat) (a_tape : Nat) (m_taped : Int32) (m_textEnd : Int32) (m_faultKind : Int32) (m_faultAt : Int32) (m_bad : Int32) (m_badAt : Int32) (m_token : Int32) (m_at : Int32) (m_behind : Int32) (m_number : Int32) (m_letters : Int32) (m_word : Int64) (a_c : Nat) (a_words : Nat) (m_markMany : Int32) (a_there : Nat) (a_tried : Nat) (a_best : Nat) (a_found : Nat) (m_thereMany : Int32) (m_foundMany : Int32) (m_orderHow : Int32) (m_orderRing : Int32) (m_orderMany : Int32) (m_hasBest : Int32) (m_bestTop : Int64) (m_bestBy : Int64) (a_weights : Nat) (a_shared : Nat) (m_random : Int32) (m_truePlace : Int32) (m_trueWay : Int32) (m_seconds : Int32) (m_done : Int32) (m_feelings : Int32) (m_tries : Int32) (m_leftOver : Int32) (m_playDoor : Int32) (m_playRing : Int32) (m_isOpen : Int32) (m_isOver : Int32) (m_wasTried : Int32) (m_hasPlayed : Int32) (a_feltNow : Nat) (a_last : Nat) (a_kept : Nat) (m_hasSeconds : Int32) (m_hasTurned : Int32) (m_hasRound : Int32) (a_hasFeels : Nat) (a_isOn : Nat) (m_firstAct : Int32) (m_meanTop : Int64) (m_meanBy : Int64) (a_order : Nat) (m_rowMany : Int32) (m_newSteps : Int32) (w : Int64) (hr_m_token : 0 ≤ m_token.toInt ∧ m_token.toInt ≤ 4) : zCi l yX12_isWord cX12_isWord 3 (some .boolean) ({ frames := 0, cells := 0, slots := 0, locals := 0 }) G cA [.ref h0, .long w] [(h0, .inr (12, [.int m_status, .int m_thrown, .long m_above, .long m_under, .ref a_traySort, .ref a_trayMany, .ref a_numbers, .ref a_tape, .int m_taped, .int m_textEnd, .int m_faultKind, .int m_faultAt, .int m_bad, .int m_badAt, .int m_token, .int m_at, .int m_behind, .int m_number, .int m_letters, .long m_word, .ref a_c, .ref a_words, .int m_markMany, .ref a_there, .ref a_tried, .ref a_best, .ref a_found, .int m_thereMany, .int m_foundMany, .int m_orderHow, .int m_orderRing, .int m_orderMany, .int m_hasBest, .long m_bestTop, .long m_bestBy, .ref a_weights, .ref a_shared, .int m_random, .int m_truePlace, .int m_trueWay, .int m_seconds, .int m_done, .int m_feelings, .int m_tries, .int m_leftOver, .int m_playDoor, .int m_playRing, .int m_isOpen, .int m_isOver, .int m_wasTried, .int m_hasPlayed, .ref a_feltNow, .ref a_last, .ref a_kept, .int m_hasSeconds, .int m_hasTurned, .int m_hasRound, .ref a_hasFeels, .ref a_isOn, .int m_firstAct, .long m_meanTop, .long m_meanBy, .ref a_order, .int m_rowMany, .int m_newSteps]))] (S := Unit) (fun (r : Int32) (u : Unit) => (r = 0 ∧ True) ∨ (r = 1 ∧ (m_token.toInt = 1))) (fun (u : Unit) => [(h0, .inr (12, [.int m_status, .int m_thrown, .long m_above, .long m_under, .ref a_traySort, .ref a_trayMany, .ref a_numbers, .ref a_tape, .int m_taped, .int m_textEnd, .int m_faultKind, .int m_faultAt, .int m_bad, .int m_badAt, .int m_token, .int m_at, .int m_behind, .int m_number, .int m_letters, .long m_word, .ref a_c, .ref a_words, .int m_markMany, .ref a_there, .ref a_tried, .ref a_best, .ref a_found, .int m_thereMany, .int m_foundMany, .int m_orderHow, .int m_orderRing, .int m_orderMany, .int m_hasBest, .long m_bestTop, .long m_bestBy, .ref a_weights, .ref a_shared, .int m_random, .int m_truePlace, .int m_trueWay, .int m_seconds, .int m_done, .int m_feelings, .int m_tries, .int m_leftOver, .int m_playDoor, .int m_playRing, .int m_isOpen, .int m_isOver, .int m_wasTried, .int m_hasPlayed, .ref a_feltNow, .ref a_last, .ref a_kept, .int m_hasSeconds, .int m_hasTurned, .int m_hasRound, .ref a_hasFeels, .ref a_isOn, .int m_firstAct, .long m_meanTop, .long m_meanBy, .ref a_order, .int m_rowMany, .int m_newSteps]))]) 0 0 := by
  have hk_1 : (1 : Int32).toInt = 1 := by decide +kernel
  refine z_start2z (own := RX12) (by decide) (Nat.le_of_ble_eq_true rfl) rfl ?_
  intro p e s m args below meth c A ls Q hx hb hml hts hown hK hE hT hP hD hS hA hl hret
  have hl : lv_has ls 3 [(0, .ref h0), (1, .long w)] := hl
  refine lv_aload_n hx hb dX12_isWord_0 rfl (lv_at hl 0 rfl) ?_
  refine va_get (D := G) (ci := 12) (v := .int m_token) (C := RX12) (T := TX12) (N := 65) hx hb hts inT12 hown hK hP 0 rfl rfl 14 (by decide) (hts _ tw_1899) (fun _ h9 => h9) rfl dX12_isWord_1 ?_
  refine lv_iconst (v := 1) hx hb dX12_isWord_4 (by decide) ?_
  refine lv_icmp_ne (tgt := 21) hx hb dX12_isWord_5 (by decide) (fun c_1 => ?_) (fun c_1 => ?_)
  · have b_2 := z_fneT c_1
    refine lv_iconst (v := 0) hx hb dX12_isWord_21 (by decide) ?_
    have hpost : ((0 : Int32) = 0 ∧ True) ∨ ((0 : Int32) = 1 ∧ (m_token.toInt = 1)) := (Or.inl ⟨rfl, trivial⟩)
    exact hret _ _ _ _ _ _ () [0] hP hD hS rfl (by decide) dX12_isWord_22 (Or.inl rfl) hpost
  · have b_3 := z_feqF c_1
    refine lv_aload_n hx hb dX12_isWord_8 rfl (lv_at hl 0 rfl) ?_
    refine va_get (D := G) (ci := 12) (v := .long m_word) (C := RX12) (T := TX12) (N := 65) hx hb hts inT12 hown hK hP 0 rfl rfl 19 (by decide) (hts _ tw_1904) (fun _ h9 => h9) rfl dX12_isWord_9 ?_
    refine lv_lload_n hx hb dX12_isWord_12 rfl (lv_at hl 1 rfl) ?_
    refine W.lcmp hx hb dX12_isWord_13 ?_
    refine lv_if_ne (tgt := 21) hx hb dX12_isWord_14 (by decide) (fun c_4 => ?_) (fun c_4 => ?_)
    · have b_5 := z_fneTl c_4
      refine lv_iconst (v := 0) hx hb dX12_isWord_21 (by decide) ?_
      have hpost : ((0 : Int32) = 0 ∧ True) ∨ ((0 : Int32) = 1 ∧ (m_token.toInt = 1)) := (Or.inl ⟨rfl, trivial⟩)
      exact hret _ _ _ _ _ _ () [0] hP hD hS rfl (by decide) dX12_isWord_22 (Or.inl rfl) hpost
    · have b_6 := z_feqFl c_4
      refine lv_iconst (v := 1) hx hb dX12_isWord_17 (by decide) ?_
      refine lv_goto (tgt := 22) hx hb dX12_isWord_18 (by decide) ?_
      have hpost : ((1 : Int32) = 0 ∧ True) ∨ ((1 : Int32) = 1 ∧ (m_token.toInt = 1)) := (Or.inr ⟨rfl, (by omega)⟩)
      exact hret _ _ _ _ _ _ () [0] hP hD hS rfl (by decide) dX12_isWord_22 (Or.inr rfl) hpost
set_option maxHeartbeats 4000000 in
set_option maxRecDepth 100000 in
theorem r_isSign (l : Launch) (G : va_G) (cA : zCA) (h0 : Nat) (m_status : Int32) (m_thrown : Int32) (m_above : Int64) (m_under : Int64) (a_traySort : Nat) (a_trayMany : Nat) (a_numbers : Nat) (a_tape : Nat) (m_taped : Int32) (m_textEnd : Int32) (m_faultKind : Int32) (m_faultAt : Int32) (m_bad : Int32) (m_badAt : Int32) (m_token : Int32) (m_at : Int32) (m_behind : Int32) (m_number : Int32) (m_letters : Int32) (m_word : Int64) (a_c : Nat) (a_words : Nat) (m_markMany : Int32) (a_there : Nat) (a_tried : Nat) (a_best : Nat) (a_found : Nat) (m_thereMany : Int32) (m_foundMany : Int32) (m_orderHow : Int32) (m_orderRing : Int32) (m_orderMany : Int32) (m_hasBest : Int32) (m_bestTop : Int64) (m_bestBy : Int64) (a_weights : Nat) (a_shared : Nat) (m_random : Int32) (m_truePlace : Int32) (m_trueWay : Int32) (m_seconds : Int32) (m_done : Int32) (m_feelings : Int32) (m_tries : Int32) (m_leftOver : Int32) (m_playDoor : Int32) (m_playRing : Int32) (m_isOpen : Int32) (m_isOver : Int32) (m_wasTried : Int32) (m_hasPlayed : Int32) (a_feltNow : Nat) (a_last : Nat) (a_kept : Nat) (m_hasSeconds : Int32) (m_hasTurned : Int32) (m_hasRound : Int32) (a_hasFeels : Nat) (a_isOn : Nat) (m_firstAct : Int32) (m_meanTop : Int64) (m_meanBy : Int64) (a_order : Nat) (m_rowMany : Int32) (m_newSteps : Int32) (x : Int32) (hr_m_token : 0 ≤ m_token.toInt ∧ m_token.toInt ≤ 4) (hr_m_number : 0 ≤ m_number.toInt ∧ m_number.toInt ≤ 9999) : zCi l yX12_isSign cX12_isSign 2 (some .boolean) ({ frames := 0, cells := 0, slots := 0, locals := 0 }) G cA [.ref h0, .int x] [(h0, .inr (12, [.int m_status, .int m_thrown, .long m_above, .long m_under, .ref a_traySort, .ref a_trayMany, .ref a_numbers, .ref a_tape, .int m_taped, .int m_textEnd, .int m_faultKind, .int m_faultAt, .int m_bad, .int m_badAt, .int m_token, .int m_at, .int m_behind, .int m_number, .int m_letters, .long m_word, .ref a_c, .ref a_words, .int m_markMany, .ref a_there, .ref a_tried, .ref a_best, .ref a_found, .int m_thereMany, .int m_foundMany, .int m_orderHow, .int m_orderRing, .int m_orderMany, .int m_hasBest, .long m_bestTop, .long m_bestBy, .ref a_weights, .ref a_shared, .int m_random, .int m_truePlace, .int m_trueWay, .int m_seconds, .int m_done, .int m_feelings, .int m_tries, .int m_leftOver, .int m_playDoor, .int m_playRing, .int m_isOpen, .int m_isOver, .int m_wasTried, .int m_hasPlayed, .ref a_feltNow, .ref a_last, .ref a_kept, .int m_hasSeconds, .int m_hasTurned, .int m_hasRound, .ref a_hasFeels, .ref a_isOn, .int m_firstAct, .long m_meanTop, .long m_meanBy, .ref a_order, .int m_rowMany, .int m_newSteps]))] (S := Unit) (fun (r : Int32) (u : Unit) => (r = 0 ∧ (m_token.toInt ≠ 3 ∨ m_number.toInt ≠ x.toInt)) ∨ (r = 1 ∧ (m_token.toInt = 3 ∧ m_number.toInt = x.toInt))) (fun (u : Unit) => [(h0, .inr (12, [.int m_status, .int m_thrown, .long m_above, .long m_under, .ref a_traySort, .ref a_trayMany, .ref a_numbers, .ref a_tape, .int m_taped, .int m_textEnd, .int m_faultKind, .int m_faultAt, .int m_bad, .int m_badAt, .int m_token, .int m_at, .int m_behind, .int m_number, .int m_letters, .long m_word, .ref a_c, .ref a_words, .int m_markMany, .ref a_there, .ref a_tried, .ref a_best, .ref a_found, .int m_thereMany, .int m_foundMany, .int m_orderHow, .int m_orderRing, .int m_orderMany, .int m_hasBest, .long m_bestTop, .long m_bestBy, .ref a_weights, .ref a_shared, .int m_random, .int m_truePlace, .int m_trueWay, .int m_seconds, .int m_done, .int m_feelings, .int m_tries, .int m_leftOver, .int m_playDoor, .int m_playRing, .int m_isOpen, .int m_isOver, .int m_wasTried, .int m_hasPlayed, .ref a_feltNow, .ref a_last, .ref a_kept, .int m_hasSeconds, .int m_hasTurned, .int m_hasRound, .ref a_hasFeels, .ref a_isOn, .int m_firstAct, .long m_meanTop, .long m_meanBy, .ref a_order, .int m_rowMany, .int m_newSteps]))]) 0 0 := by
  have hk_3 : (3 : Int32).toInt = 3 := by decide +kernel
  refine z_start2z (own := RX12) (by decide) (Nat.le_of_ble_eq_true rfl) rfl ?_
  intro p e s m args below meth c A ls Q hx hb hml hts hown hK hE hT hP hD hS hA hl hret
  have hl : lv_has ls 2 [(0, .ref h0), (1, .int x)] := hl
  refine lv_aload_n hx hb dX12_isSign_0 rfl (lv_at hl 0 rfl) ?_
  refine va_get (D := G) (ci := 12) (v := .int m_token) (C := RX12) (T := TX12) (N := 65) hx hb hts inT12 hown hK hP 0 rfl rfl 14 (by decide) (hts _ tw_1899) (fun _ h9 => h9) rfl dX12_isSign_1 ?_
  refine lv_iconst (v := 3) hx hb dX12_isSign_4 (by decide) ?_
  refine lv_icmp_ne (tgt := 20) hx hb dX12_isSign_5 (by decide) (fun c_1 => ?_) (fun c_1 => ?_)
  · have b_2 := z_fneT c_1
    refine lv_iconst (v := 0) hx hb dX12_isSign_20 (by decide) ?_
    have hpost : ((0 : Int32) = 0 ∧ (m_token.toInt ≠ 3 ∨ m_number.toInt ≠ x.toInt)) ∨ ((0 : Int32) = 1 ∧ (m_token.toInt = 3 ∧ m_number.toInt = x.toInt)) := (Or.inl ⟨rfl, (by omega)⟩)
    exact hret _ _ _ _ _ _ () [0] hP hD hS rfl (by decide) dX12_isSign_21 (Or.inl rfl) hpost
  · have b_3 := z_feqF c_1
    refine lv_aload_n hx hb dX12_isSign_8 rfl (lv_at hl 0 rfl) ?_
    refine va_get (D := G) (ci := 12) (v := .int m_number) (C := RX12) (T := TX12) (N := 65) hx hb hts inT12 hown hK hP 0 rfl rfl 17 (by decide) (hts _ tw_1902) (fun _ h9 => h9) rfl dX12_isSign_9 ?_
    refine lv_iload_n hx hb dX12_isSign_12 rfl (lv_at hl 1 rfl) ?_
    refine lv_icmp_ne (tgt := 20) hx hb dX12_isSign_13 (by decide) (fun c_4 => ?_) (fun c_4 => ?_)
    · have b_5 := z_fneT c_4
      refine lv_iconst (v := 0) hx hb dX12_isSign_20 (by decide) ?_
      have hpost : ((0 : Int32) = 0 ∧ (m_token.toInt ≠ 3 ∨ m_number.toInt ≠ x.toInt)) ∨ ((0 : Int32) = 1 ∧ (m_token.toInt = 3 ∧ m_number.toInt = x.toInt)) := (Or.inl ⟨rfl, (by omega)⟩)
      exact hret _ _ _ _ _ _ () [0] hP hD hS rfl (by decide) dX12_isSign_21 (Or.inl rfl) hpost
    · have b_6 := z_feqF c_4
      refine lv_iconst (v := 1) hx hb dX12_isSign_16 (by decide) ?_
      refine lv_goto (tgt := 21) hx hb dX12_isSign_17 (by decide) ?_
      have hpost : ((1 : Int32) = 0 ∧ (m_token.toInt ≠ 3 ∨ m_number.toInt ≠ x.toInt)) ∨ ((1 : Int32) = 1 ∧ (m_token.toInt = 3 ∧ m_number.toInt = x.toInt)) := (Or.inr ⟨rfl, (by omega)⟩)
      exact hret _ _ _ _ _ _ () [0] hP hD hS rfl (by decide) dX12_isSign_21 (Or.inr rfl) hpost
set_option maxHeartbeats 4000000 in
set_option maxRecDepth 100000 in
theorem r_isTray (l : Launch) (G : va_G) (cA : zCA) (h0 : Nat) (m_status : Int32) (m_thrown : Int32) (m_above : Int64) (m_under : Int64) (a_traySort : Nat) (a_trayMany : Nat) (a_numbers : Nat) (a_tape : Nat) (m_taped : Int32) (m_textEnd : Int32) (m_faultKind : Int32) (m_faultAt : Int32) (m_bad : Int32) (m_badAt : Int32) (m_token : Int32) (m_at : Int32) (m_behind : Int32) (m_number : Int32) (m_letters : Int32) (m_word : Int64) (a_c : Nat) (a_words : Nat) (m_markMany : Int32) (a_there : Nat) (a_tried : Nat) (a_best : Nat) (a_found : Nat) (m_thereMany : Int32) (m_foundMany : Int32) (m_orderHow : Int32) (m_orderRing : Int32) (m_orderMany : Int32) (m_hasBest : Int32) (m_bestTop : Int64) (m_bestBy : Int64) (a_weights : Nat) (a_shared : Nat) (m_random : Int32) (m_truePlace : Int32) (m_trueWay : Int32) (m_seconds : Int32) (m_done : Int32) (m_feelings : Int32) (m_tries : Int32) (m_leftOver : Int32) (m_playDoor : Int32) (m_playRing : Int32) (m_isOpen : Int32) (m_isOver : Int32) (m_wasTried : Int32) (m_hasPlayed : Int32) (a_feltNow : Nat) (a_last : Nat) (a_kept : Nat) (m_hasSeconds : Int32) (m_hasTurned : Int32) (m_hasRound : Int32) (a_hasFeels : Nat) (a_isOn : Nat) (m_firstAct : Int32) (m_meanTop : Int64) (m_meanBy : Int64) (a_order : Nat) (m_rowMany : Int32) (m_newSteps : Int32) (t : Int32) : zCi l yX12_isTray cX12_isTray 2 (some .boolean) ({ frames := 1, cells := 0, slots := 0, locals := 25 }) G cA [.ref h0, .int t] [(h0, .inr (12, [.int m_status, .int m_thrown, .long m_above, .long m_under, .ref a_traySort, .ref a_trayMany, .ref a_numbers, .ref a_tape, .int m_taped, .int m_textEnd, .int m_faultKind, .int m_faultAt, .int m_bad, .int m_badAt, .int m_token, .int m_at, .int m_behind, .int m_number, .int m_letters, .long m_word, .ref a_c, .ref a_words, .int m_markMany, .ref a_there, .ref a_tried, .ref a_best, .ref a_found, .int m_thereMany, .int m_foundMany, .int m_orderHow, .int m_orderRing, .int m_orderMany, .int m_hasBest, .long m_bestTop, .long m_bestBy, .ref a_weights, .ref a_shared, .int m_random, .int m_truePlace, .int m_trueWay, .int m_seconds, .int m_done, .int m_feelings, .int m_tries, .int m_leftOver, .int m_playDoor, .int m_playRing, .int m_isOpen, .int m_isOver, .int m_wasTried, .int m_hasPlayed, .ref a_feltNow, .ref a_last, .ref a_kept, .int m_hasSeconds, .int m_hasTurned, .int m_hasRound, .ref a_hasFeels, .ref a_isOn, .int m_firstAct, .long m_meanTop, .long m_meanBy, .ref a_order, .int m_rowMany, .int m_newSteps]))] (S := Unit) (fun (r : Int32) (u : Unit) => (r = 0 ∧ True) ∨ (r = 1 ∧ (0 ≤ t.toInt ∧ t.toInt ≤ 3))) (fun (u : Unit) => [(h0, .inr (12, [.int m_status, .int m_thrown, .long m_above, .long m_under, .ref a_traySort, .ref a_trayMany, .ref a_numbers, .ref a_tape, .int m_taped, .int m_textEnd, .int m_faultKind, .int m_faultAt, .int m_bad, .int m_badAt, .int m_token, .int m_at, .int m_behind, .int m_number, .int m_letters, .long m_word, .ref a_c, .ref a_words, .int m_markMany, .ref a_there, .ref a_tried, .ref a_best, .ref a_found, .int m_thereMany, .int m_foundMany, .int m_orderHow, .int m_orderRing, .int m_orderMany, .int m_hasBest, .long m_bestTop, .long m_bestBy, .ref a_weights, .ref a_shared, .int m_random, .int m_truePlace, .int m_trueWay, .int m_seconds, .int m_done, .int m_feelings, .int m_tries, .int m_leftOver, .int m_playDoor, .int m_playRing, .int m_isOpen, .int m_isOver, .int m_wasTried, .int m_hasPlayed, .ref a_feltNow, .ref a_last, .ref a_kept, .int m_hasSeconds, .int m_hasTurned, .int m_hasRound, .ref a_hasFeels, .ref a_isOn, .int m_firstAct, .long m_meanTop, .long m_meanBy, .ref a_order, .int m_rowMany, .int m_newSteps]))]) 0 0 := by
  have hkl_0 : (0 : Int64).toInt = 0 := by decide +kernel
  have hkl_3 : (3 : Int64).toInt = 3 := by decide +kernel
  refine z_start2z (own := RX12) (by decide) (Nat.le_of_ble_eq_true rfl) rfl ?_
  intro p e s m args below meth c A ls Q hx hb hml hts hown hK hE hT hP hD hS hA hl hret
  have hl : lv_has ls 2 [(0, .ref h0), (1, .int t)] := hl
  refine lv_iload_n hx hb dX12_isTray_0 rfl (lv_at hl 1 rfl) ?_
  refine lv_i2l (v := (t).toInt64) hx hb dX12_isTray_1 rfl ?_
  refine lv_topl (fun x_1 he_x_1 => ?_)
  have hq_x_1 := z_i2l he_x_1
  have hL_t := z_full t
  refine lv_lconst (v := 0) hx hb dX12_isTray_2 (by decide) ?_
  refine lv_ldc2 (v := 3) hx hb hown (hts _ tw_2333) dX12_isTray_3 ?_
  refine z_callSi (As := [.long x_1, .long 0, .long 3]) (rest := []) (wr := [(h0, .inr (12, [.int m_status, .int m_thrown, .long m_above, .long m_under, .ref a_traySort, .ref a_trayMany, .ref a_numbers, .ref a_tape, .int m_taped, .int m_textEnd, .int m_faultKind, .int m_faultAt, .int m_bad, .int m_badAt, .int m_token, .int m_at, .int m_behind, .int m_number, .int m_letters, .long m_word, .ref a_c, .ref a_words, .int m_markMany, .ref a_there, .ref a_tried, .ref a_best, .ref a_found, .int m_thereMany, .int m_foundMany, .int m_orderHow, .int m_orderRing, .int m_orderMany, .int m_hasBest, .long m_bestTop, .long m_bestBy, .ref a_weights, .ref a_shared, .int m_random, .int m_truePlace, .int m_trueWay, .int m_seconds, .int m_done, .int m_feelings, .int m_tries, .int m_leftOver, .int m_playDoor, .int m_playRing, .int m_isOpen, .int m_isOver, .int m_wasTried, .int m_hasPlayed, .ref a_feltNow, .ref a_last, .ref a_kept, .int m_hasSeconds, .int m_hasTurned, .int m_hasRound, .ref a_hasFeels, .ref a_isOn, .int m_firstAct, .long m_meanTop, .long m_meanBy, .ref a_order, .int m_rowMany, .int m_newSteps]))]) ⟨hx, hb, hml, hown, hts⟩ hK hE hT hP hD hS hA (r_isIn l G cA x_1 0 3) lk_RX12_117 ⟨rfl, rfl⟩ ⟨Nat.le_of_ble_eq_true rfl, Nat.le_of_ble_eq_true rfl⟩ [] [0] rfl rfl (by decide) rfl hl.1 rfl (lv_room (Nat.le_of_ble_eq_true rfl)) dX12_isTray_6 ⟨Nat.le_of_ble_eq_true rfl, Nat.le_of_ble_eq_true rfl⟩ (fun r_2 u_3 H locs hw hP hD hS => ?_)
  rcases hw with ⟨rfl, hf_4⟩ | ⟨rfl, hf_5⟩
  · skip
    have hpost : ((0 : Int32) = 0 ∧ True) ∨ ((0 : Int32) = 1 ∧ (0 ≤ t.toInt ∧ t.toInt ≤ 3)) := (Or.inl ⟨rfl, trivial⟩)
    exact hret _ _ _ _ _ _ () [0] hP hD hS rfl (by decide) dX12_isTray_9 (Or.inl rfl) hpost
  · skip
    have hpost : ((1 : Int32) = 0 ∧ True) ∨ ((1 : Int32) = 1 ∧ (0 ≤ t.toInt ∧ t.toInt ≤ 3)) := (Or.inr ⟨rfl, (by omega)⟩)
    exact hret _ _ _ _ _ _ () [0] hP hD hS rfl (by decide) dX12_isTray_9 (Or.inr rfl) hpost
def zTy (i : Nat) (t ss nn a b a1 b1 : Int32) : Prop := (trOK t ss nn ∧ t.toInt = (i : Int) ∧ a1 = ss ∧ b1 = nn) ∨ (¬ (trOK t ss nn ∧ t.toInt = (i : Int)) ∧ a1 = a ∧ b1 = b)
theorem zTy_n {i : Nat} {t ss nn a b : Int32} (h : ¬ (trOK t ss nn ∧ t.toInt = (i : Int))) : zTy i t ss nn a b a b := Or.inr ⟨h, rfl, rfl⟩
theorem zTy_y {i : Nat} {t ss nn a b a1 b1 : Int32} (h : trOK t ss nn) (h1 : t.toInt = (i : Int)) (h2 : a1 = ss) (h3 : b1 = nn) : zTy i t ss nn a b a1 b1 := Or.inl ⟨h, h1, h2, h3⟩
theorem zTy_fn {i : Nat} {t ss nn a b a' b' a1 b1 a2 b2 : Int32} (ea : a = a') (eb : b = b') (h : zTy i t ss nn a b a1 b1) (h2 : zTy i t ss nn a' b' a2 b2) : a1 = a2 ∧ b1 = b2 := by
  subst ea
  subst eb
  rcases h with ⟨h, h1, e1, e2⟩ | ⟨h, e1, e2⟩ <;> rcases h2 with ⟨g, g1, f1, f2⟩ | ⟨g, f1, f2⟩
  · exact ⟨e1.trans f1.symm, e2.trans f2.symm⟩
  · exact absurd ⟨h, h1⟩ g
  · exact absurd ⟨g, g1⟩ h
  · exact ⟨e1.trans f1.symm, e2.trans f2.symm⟩
def zTyA (t ss nn : Int32) (gs gm gs1 gm1 : Nat → Int32) : Prop := ∀ i : Nat, i < 4 → zTy i t ss nn (gs i) (gm i) (gs1 i) (gm1 i)
theorem zTyA_n {t ss nn : Int32} {gs gm : Nat → Int32} (h : ¬ trOK t ss nn) : zTyA t ss nn gs gm gs gm := fun _ _ => zTy_n (fun h1 => h h1.1)
theorem zTyA_y {t ss nn : Int32} {gs gm gs1 gm1 : Nat → Int32} (h : trOK t ss nn) (hs : gs1 = upd gs t.toNatClampNeg ss) (hm : gm1 = upd gm t.toNatClampNeg nn) : zTyA t ss nn gs gm gs1 gm1 := by
  intro i hi
  subst hs
  subst hm
  by_cases e : t.toInt = (i : Int)
  · have e2 : i = t.toNatClampNeg := by
      show i = t.toInt.toNat
      omega
    refine zTy_y h e ?_ ?_
    · subst e2; exact if_pos rfl
    · subst e2; exact if_pos rfl
  · have e2 : ¬ i = t.toNatClampNeg := by
      show ¬ i = t.toInt.toNat
      have := h.1
      omega
    exact Or.inr ⟨fun h1 => e h1.2, if_neg e2, if_neg e2⟩
def zTd (g : Nat → Int32) (t r : Int32) : Prop := (r.toInt = 0 ∧ 0 ≤ t.toInt ∧ t.toInt ≤ 3 ∧ 0 ≤ (g t.toInt.toNat).toInt) ∨ (0 < r.toInt ∧ ¬ (0 ≤ t.toInt ∧ t.toInt ≤ 3 ∧ 0 ≤ (g t.toInt.toNat).toInt))
theorem zTd_o {g : Nat → Int32} {t r : Int32} (h : zTd g t r) : (r.toInt = 0 ∧ 0 ≤ t.toInt ∧ t.toInt ≤ 3 ∧ 0 ≤ (g t.toInt.toNat).toInt) ∨ (0 < r.toInt ∧ ¬ (0 ≤ t.toInt ∧ t.toInt ≤ 3 ∧ 0 ≤ (g t.toInt.toNat).toInt)) := h
def zPd (g : Nat → Int32) (t k r : Int32) : Prop := (r.toInt = 0 ∧ 0 ≤ t.toInt ∧ t.toInt ≤ 3 ∧ 0 ≤ k.toInt ∧ k.toInt < (g t.toInt.toNat).toInt) ∨ (0 < r.toInt ∧ ¬ (0 ≤ t.toInt ∧ t.toInt ≤ 3 ∧ 0 ≤ k.toInt ∧ k.toInt < (g t.toInt.toNat).toInt))
theorem zPd_o {g : Nat → Int32} {t k r : Int32} (h : zPd g t k r) : (r.toInt = 0 ∧ 0 ≤ t.toInt ∧ t.toInt ≤ 3 ∧ 0 ≤ k.toInt ∧ k.toInt < (g t.toInt.toNat).toInt) ∨ (0 < r.toInt ∧ ¬ (0 ≤ t.toInt ∧ t.toInt ≤ 3 ∧ 0 ≤ k.toInt ∧ k.toInt < (g t.toInt.toNat).toInt)) := h
def zOk1 (t k m0 m1 m2 m3 : Int32) : Prop := 0 ≤ k.toInt ∧ ((t.toInt = 0 ∧ k.toInt < m0.toInt) ∨ (t.toInt = 1 ∧ k.toInt < m1.toInt) ∨ (t.toInt = 2 ∧ k.toInt < m2.toInt) ∨ (t.toInt = 3 ∧ k.toInt < m3.toInt))
theorem zg_at {g : Nat → Int32} {t : Int32} {i : Nat} (h : t.toInt = (i : Int)) : g t.toInt.toNat = g i := by rw [h]; rfl
theorem zOk1_g {g : Nat → Int32} {t k : Int32} : (0 ≤ t.toInt ∧ t.toInt ≤ 3 ∧ 0 ≤ k.toInt ∧ k.toInt < (g t.toInt.toNat).toInt) ↔ zOk1 t k (g 0) (g 1) (g 2) (g 3) := by
  unfold zOk1
  constructor
  · rintro ⟨h1, h2, h3, h4⟩
    refine ⟨h3, ?_⟩
    rcases (show t.toInt = ((0 : Nat) : Int) ∨ t.toInt = ((1 : Nat) : Int) ∨ t.toInt = ((2 : Nat) : Int) ∨ t.toInt = ((3 : Nat) : Int) by omega) with e | e | e | e
    · rw [zg_at (g := g) e] at h4; exact Or.inl ⟨e, h4⟩
    · rw [zg_at (g := g) e] at h4; exact Or.inr (Or.inl ⟨e, h4⟩)
    · rw [zg_at (g := g) e] at h4; exact Or.inr (Or.inr (Or.inl ⟨e, h4⟩))
    · rw [zg_at (g := g) e] at h4; exact Or.inr (Or.inr (Or.inr ⟨e, h4⟩))
  · rintro ⟨h3, ⟨e, h4⟩ | ⟨e, h4⟩ | ⟨e, h4⟩ | ⟨e, h4⟩⟩
    · rw [zg_at (g := g) (i := 0) e]; exact ⟨by omega, by omega, h3, h4⟩
    · rw [zg_at (g := g) (i := 1) e]; exact ⟨by omega, by omega, h3, h4⟩
    · rw [zg_at (g := g) (i := 2) e]; exact ⟨by omega, by omega, h3, h4⟩
    · rw [zg_at (g := g) (i := 3) e]; exact ⟨by omega, by omega, h3, h4⟩
theorem zPd_y {g : Nat → Int32} {t k r : Int32} (h : zPd g t k r) (hr : r.toInt ≤ 0) : zOk1 t k (g 0) (g 1) (g 2) (g 3) := zOk1_g.mp (by
  rcases h with h | h
  · exact h.2
  · exact absurd h.1 (by omega))
theorem zPd_n {g : Nat → Int32} {t k r : Int32} (h : zPd g t k r) (hr : 0 < r.toInt) : ¬ zOk1 t k (g 0) (g 1) (g 2) (g 3) := fun h9 => by
  rcases h with h | h
  · exact absurd h.1 (by omega)
  · exact h.2 (zOk1_g.mpr h9)
theorem zOk1_tr {t k m0 m1 m2 m3 n0 n1 n2 n3 : Int32} (e0 : m0 = n0) (e1 : m1 = n1) (e2 : m2 = n2) (e3 : m3 = n3) : zOk1 t k m0 m1 m2 m3 = zOk1 t k n0 n1 n2 n3 := by subst e0 e1 e2 e3; rfl
def zSo (s0 s1 s2 s3 : Int32) (t : Int) : Int := if t = 0 then s0.toInt else if t = 1 then s1.toInt else if t = 2 then s2.toInt else s3.toInt
def zOk5 (t i u j n s0 s1 s2 s3 m0 m1 m2 m3 : Int32) : Prop := 0 ≤ t.toInt ∧ t.toInt ≤ 3 ∧ 0 ≤ u.toInt ∧ u.toInt ≤ 3 ∧ 0 ≤ i.toInt ∧ 0 ≤ j.toInt ∧ 0 ≤ n.toInt ∧ zSo s0 s1 s2 s3 t.toInt = zSo s0 s1 s2 s3 u.toInt ∧ i.toInt + n.toInt ≤ zSo m0 m1 m2 m3 t.toInt ∧ j.toInt + n.toInt ≤ zSo m0 m1 m2 m3 u.toInt
theorem zSo_g {g : Nat → Int32} {t : Int32} (h1 : 0 ≤ t.toInt) (h2 : t.toInt ≤ 3) : zSo (g 0) (g 1) (g 2) (g 3) t.toInt = (g t.toInt.toNat).toInt := by
  unfold zSo
  rcases (show t.toInt = ((0 : Nat) : Int) ∨ t.toInt = ((1 : Nat) : Int) ∨ t.toInt = ((2 : Nat) : Int) ∨ t.toInt = ((3 : Nat) : Int) by omega) with e | e | e | e <;> rw [e] <;> rfl
theorem zOk5_tr {t i u j n s0 s1 s2 s3 m0 m1 m2 m3 a0 a1 a2 a3 b0 b1 b2 b3 : Int32} (e0 : s0 = a0) (e1 : s1 = a1) (e2 : s2 = a2) (e3 : s3 = a3) (f0 : m0 = b0) (f1 : m1 = b1) (f2 : m2 = b2) (f3 : m3 = b3) : zOk5 t i u j n s0 s1 s2 s3 m0 m1 m2 m3 = zOk5 t i u j n a0 a1 a2 a3 b0 b1 b2 b3 := by subst e0 e1 e2 e3 f0 f1 f2 f3; rfl
set_option maxHeartbeats 4000000 in
set_option maxRecDepth 100000 in
theorem r_trayed (l : Launch) (G : va_G) (cA : zCA) (h0 : Nat) (m_status : Int32) (m_thrown : Int32) (m_above : Int64) (m_under : Int64) (a_traySort : Nat) (a_trayMany : Nat) (a_numbers : Nat) (a_tape : Nat) (m_taped : Int32) (m_textEnd : Int32) (m_faultKind : Int32) (m_faultAt : Int32) (m_bad : Int32) (m_badAt : Int32) (m_token : Int32) (m_at : Int32) (m_behind : Int32) (m_number : Int32) (m_letters : Int32) (m_word : Int64) (a_c : Nat) (a_words : Nat) (m_markMany : Int32) (a_there : Nat) (a_tried : Nat) (a_best : Nat) (a_found : Nat) (m_thereMany : Int32) (m_foundMany : Int32) (m_orderHow : Int32) (m_orderRing : Int32) (m_orderMany : Int32) (m_hasBest : Int32) (m_bestTop : Int64) (m_bestBy : Int64) (a_weights : Nat) (a_shared : Nat) (m_random : Int32) (m_truePlace : Int32) (m_trueWay : Int32) (m_seconds : Int32) (m_done : Int32) (m_feelings : Int32) (m_tries : Int32) (m_leftOver : Int32) (m_playDoor : Int32) (m_playRing : Int32) (m_isOpen : Int32) (m_isOver : Int32) (m_wasTried : Int32) (m_hasPlayed : Int32) (a_feltNow : Nat) (a_last : Nat) (a_kept : Nat) (m_hasSeconds : Int32) (m_hasTurned : Int32) (m_hasRound : Int32) (a_hasFeels : Nat) (a_isOn : Nat) (m_firstAct : Int32) (m_meanTop : Int64) (m_meanBy : Int64) (a_order : Nat) (m_rowMany : Int32) (m_newSteps : Int32) (g_trayMany : Nat → Int32) (t : Int32) (hC_g_trayMany : zRg 4 (-1) 60 g_trayMany) : zCi l yX12_trayed cX12_trayed 2 (some .int) ({ frames := 0, cells := 0, slots := 0, locals := 0 }) G cA [.ref h0, .int t] [(h0, .inr (12, [.int m_status, .int m_thrown, .long m_above, .long m_under, .ref a_traySort, .ref a_trayMany, .ref a_numbers, .ref a_tape, .int m_taped, .int m_textEnd, .int m_faultKind, .int m_faultAt, .int m_bad, .int m_badAt, .int m_token, .int m_at, .int m_behind, .int m_number, .int m_letters, .long m_word, .ref a_c, .ref a_words, .int m_markMany, .ref a_there, .ref a_tried, .ref a_best, .ref a_found, .int m_thereMany, .int m_foundMany, .int m_orderHow, .int m_orderRing, .int m_orderMany, .int m_hasBest, .long m_bestTop, .long m_bestBy, .ref a_weights, .ref a_shared, .int m_random, .int m_truePlace, .int m_trueWay, .int m_seconds, .int m_done, .int m_feelings, .int m_tries, .int m_leftOver, .int m_playDoor, .int m_playRing, .int m_isOpen, .int m_isOver, .int m_wasTried, .int m_hasPlayed, .ref a_feltNow, .ref a_last, .ref a_kept, .int m_hasSeconds, .int m_hasTurned, .int m_hasRound, .ref a_hasFeels, .ref a_isOn, .int m_firstAct, .long m_meanTop, .long m_meanBy, .ref a_order, .int m_rowMany, .int m_newSteps])), (a_trayMany, .inl (cA.1 0, 4, .inl g_trayMany))] (S := Unit) (fun (r : Int32) (u : Unit) => (0 ≤ r.toInt ∧ r.toInt ≤ 3) ∧ (r.toInt = 0 → 0 ≤ t.toInt ∧ t.toInt ≤ 3) ∧ (zTd g_trayMany t r)) (fun (u : Unit) => [(h0, .inr (12, [.int m_status, .int m_thrown, .long m_above, .long m_under, .ref a_traySort, .ref a_trayMany, .ref a_numbers, .ref a_tape, .int m_taped, .int m_textEnd, .int m_faultKind, .int m_faultAt, .int m_bad, .int m_badAt, .int m_token, .int m_at, .int m_behind, .int m_number, .int m_letters, .long m_word, .ref a_c, .ref a_words, .int m_markMany, .ref a_there, .ref a_tried, .ref a_best, .ref a_found, .int m_thereMany, .int m_foundMany, .int m_orderHow, .int m_orderRing, .int m_orderMany, .int m_hasBest, .long m_bestTop, .long m_bestBy, .ref a_weights, .ref a_shared, .int m_random, .int m_truePlace, .int m_trueWay, .int m_seconds, .int m_done, .int m_feelings, .int m_tries, .int m_leftOver, .int m_playDoor, .int m_playRing, .int m_isOpen, .int m_isOver, .int m_wasTried, .int m_hasPlayed, .ref a_feltNow, .ref a_last, .ref a_kept, .int m_hasSeconds, .int m_hasTurned, .int m_hasRound, .ref a_hasFeels, .ref a_isOn, .int m_firstAct, .long m_meanTop, .long m_meanBy, .ref a_order, .int m_rowMany, .int m_newSteps])), (a_trayMany, .inl (cA.1 0, 4, .inl g_trayMany))]) 0 0 := by
  have hk_0 : (0 : Int32).toInt = 0 := by decide +kernel
  have hk_1 : (1 : Int32).toInt = 1 := by decide +kernel
  have hk_3 : (3 : Int32).toInt = 3 := by decide +kernel
  have hk_4 : (4 : Int32).toInt = 4 := by decide +kernel
  refine z_start2i (own := RX12) (by decide) (Nat.le_of_ble_eq_true rfl) rfl ?_
  intro p e s m args below meth c A ls Q hx hb hml hts hown hK hE hT hP hD hS hA hl hret
  have hl : lv_has ls 2 [(0, .ref h0), (1, .int t)] := hl
  refine lv_iload_n hx hb dX12_trayed_0 rfl (lv_at hl 1 rfl) ?_
  refine lv_if_lt (tgt := 9) hx hb dX12_trayed_1 (by decide) (fun c_1 => ?_) (fun c_1 => ?_)
  · have b_2 := z_fltT c_1
    refine lv_iconst (v := 1) hx hb dX12_trayed_9 (by decide) ?_
    refine lv_goto (tgt := 27) hx hb dX12_trayed_10 (by decide) ?_
    have hpost : (0 ≤ (1 : Int32).toInt ∧ (1 : Int32).toInt ≤ 3) ∧ ((1 : Int32).toInt = 0 → 0 ≤ t.toInt ∧ t.toInt ≤ 3) ∧ (zTd g_trayMany t (1 : Int32)) := ⟨(by decide +kernel), (by omega), (by unfold zTd; omega)⟩
    exact hret _ _ _ _ _ _ () [0, 1] hP hD hS rfl (by decide) dX12_trayed_27 hpost
  · have b_3 := z_fgeF c_1
    refine lv_iload_n hx hb dX12_trayed_4 rfl (lv_at hl 1 rfl) ?_
    refine lv_iconst (v := 4) hx hb dX12_trayed_5 (by decide) ?_
    refine lv_icmp_lt (tgt := 13) hx hb dX12_trayed_6 (by decide) (fun c_4 => ?_) (fun c_4 => ?_)
    · have b_5 := z_fltT c_4
      refine lv_aload_n hx hb dX12_trayed_13 rfl (lv_at hl 0 rfl) ?_
      refine va_get (D := G) (ci := 12) (v := .ref a_trayMany) (C := RX12) (T := TX12) (N := 65) hx hb hts inT12 hown hK hP 0 rfl rfl 5 (by decide) (hts _ tw_1890) (fun _ h9 => h9) rfl dX12_trayed_14 ?_
      refine lv_iload_n hx hb dX12_trayed_17 rfl (lv_at hl 1 rfl) ?_
      refine va_iald hx hb hK hP 1 0 rfl rfl (z_inN (by omega) (by omega)) dX12_trayed_18 ?_
      refine lv_topi (fun x_6 he_x_6 => ?_)
      have hr_x_6 := z_rg hC_g_trayMany he_x_6 (by omega) (by omega)
      have hg9_x_6 : x_6.toInt = (g_trayMany t.toInt.toNat).toInt := by rw [he_x_6]; rfl
      refine lv_if_ge (tgt := 26) hx hb dX12_trayed_19 (by decide) (fun c_7 => ?_) (fun c_7 => ?_)
      · have b_8 := z_fgeT c_7
        refine lv_iconst (v := 0) hx hb dX12_trayed_26 (by decide) ?_
        have hpost : (0 ≤ (0 : Int32).toInt ∧ (0 : Int32).toInt ≤ 3) ∧ ((0 : Int32).toInt = 0 → 0 ≤ t.toInt ∧ t.toInt ≤ 3) ∧ (zTd g_trayMany t (0 : Int32)) := ⟨(by decide +kernel), (by omega), (by unfold zTd; omega)⟩
        exact hret _ _ _ _ _ _ () [0, 1] hP hD hS rfl (by decide) dX12_trayed_27 hpost
      · have b_9 := z_fltF c_7
        refine lv_iconst (v := 3) hx hb dX12_trayed_22 (by decide) ?_
        refine lv_goto (tgt := 27) hx hb dX12_trayed_23 (by decide) ?_
        have hpost : (0 ≤ (3 : Int32).toInt ∧ (3 : Int32).toInt ≤ 3) ∧ ((3 : Int32).toInt = 0 → 0 ≤ t.toInt ∧ t.toInt ≤ 3) ∧ (zTd g_trayMany t (3 : Int32)) := ⟨(by decide +kernel), (by omega), (by unfold zTd; omega)⟩
        exact hret _ _ _ _ _ _ () [0, 1] hP hD hS rfl (by decide) dX12_trayed_27 hpost
    · have b_10 := z_fgeF c_4
      refine lv_iconst (v := 1) hx hb dX12_trayed_9 (by decide) ?_
      refine lv_goto (tgt := 27) hx hb dX12_trayed_10 (by decide) ?_
      have hpost : (0 ≤ (1 : Int32).toInt ∧ (1 : Int32).toInt ≤ 3) ∧ ((1 : Int32).toInt = 0 → 0 ≤ t.toInt ∧ t.toInt ≤ 3) ∧ (zTd g_trayMany t (1 : Int32)) := ⟨(by decide +kernel), (by omega), (by unfold zTd; omega)⟩
      exact hret _ _ _ _ _ _ () [0, 1] hP hD hS rfl (by decide) dX12_trayed_27 hpost
set_option maxHeartbeats 4000000 in
set_option maxRecDepth 100000 in
theorem r_placed (l : Launch) (G : va_G) (cA : zCA) (h0 : Nat) (m_status : Int32) (m_thrown : Int32) (m_above : Int64) (m_under : Int64) (a_traySort : Nat) (a_trayMany : Nat) (a_numbers : Nat) (a_tape : Nat) (m_taped : Int32) (m_textEnd : Int32) (m_faultKind : Int32) (m_faultAt : Int32) (m_bad : Int32) (m_badAt : Int32) (m_token : Int32) (m_at : Int32) (m_behind : Int32) (m_number : Int32) (m_letters : Int32) (m_word : Int64) (a_c : Nat) (a_words : Nat) (m_markMany : Int32) (a_there : Nat) (a_tried : Nat) (a_best : Nat) (a_found : Nat) (m_thereMany : Int32) (m_foundMany : Int32) (m_orderHow : Int32) (m_orderRing : Int32) (m_orderMany : Int32) (m_hasBest : Int32) (m_bestTop : Int64) (m_bestBy : Int64) (a_weights : Nat) (a_shared : Nat) (m_random : Int32) (m_truePlace : Int32) (m_trueWay : Int32) (m_seconds : Int32) (m_done : Int32) (m_feelings : Int32) (m_tries : Int32) (m_leftOver : Int32) (m_playDoor : Int32) (m_playRing : Int32) (m_isOpen : Int32) (m_isOver : Int32) (m_wasTried : Int32) (m_hasPlayed : Int32) (a_feltNow : Nat) (a_last : Nat) (a_kept : Nat) (m_hasSeconds : Int32) (m_hasTurned : Int32) (m_hasRound : Int32) (a_hasFeels : Nat) (a_isOn : Nat) (m_firstAct : Int32) (m_meanTop : Int64) (m_meanBy : Int64) (a_order : Nat) (m_rowMany : Int32) (m_newSteps : Int32) (g_trayMany : Nat → Int32) (t : Int32) (k : Int32) (hC_g_trayMany : zRg 4 (-1) 60 g_trayMany) : zCi l yX12_placed cX12_placed 4 (some .int) ({ frames := 1, cells := 0, slots := 0, locals := 21 }) G cA [.ref h0, .int t, .int k] [(h0, .inr (12, [.int m_status, .int m_thrown, .long m_above, .long m_under, .ref a_traySort, .ref a_trayMany, .ref a_numbers, .ref a_tape, .int m_taped, .int m_textEnd, .int m_faultKind, .int m_faultAt, .int m_bad, .int m_badAt, .int m_token, .int m_at, .int m_behind, .int m_number, .int m_letters, .long m_word, .ref a_c, .ref a_words, .int m_markMany, .ref a_there, .ref a_tried, .ref a_best, .ref a_found, .int m_thereMany, .int m_foundMany, .int m_orderHow, .int m_orderRing, .int m_orderMany, .int m_hasBest, .long m_bestTop, .long m_bestBy, .ref a_weights, .ref a_shared, .int m_random, .int m_truePlace, .int m_trueWay, .int m_seconds, .int m_done, .int m_feelings, .int m_tries, .int m_leftOver, .int m_playDoor, .int m_playRing, .int m_isOpen, .int m_isOver, .int m_wasTried, .int m_hasPlayed, .ref a_feltNow, .ref a_last, .ref a_kept, .int m_hasSeconds, .int m_hasTurned, .int m_hasRound, .ref a_hasFeels, .ref a_isOn, .int m_firstAct, .long m_meanTop, .long m_meanBy, .ref a_order, .int m_rowMany, .int m_newSteps])), (a_trayMany, .inl (cA.1 0, 4, .inl g_trayMany))] (S := Unit) (fun (r : Int32) (u : Unit) => (0 ≤ r.toInt ∧ r.toInt ≤ 4) ∧ (r.toInt = 0 → 0 ≤ t.toInt ∧ t.toInt ≤ 3 ∧ 0 ≤ k.toInt ∧ k.toInt ≤ 59) ∧ (zPd g_trayMany t k r)) (fun (u : Unit) => [(h0, .inr (12, [.int m_status, .int m_thrown, .long m_above, .long m_under, .ref a_traySort, .ref a_trayMany, .ref a_numbers, .ref a_tape, .int m_taped, .int m_textEnd, .int m_faultKind, .int m_faultAt, .int m_bad, .int m_badAt, .int m_token, .int m_at, .int m_behind, .int m_number, .int m_letters, .long m_word, .ref a_c, .ref a_words, .int m_markMany, .ref a_there, .ref a_tried, .ref a_best, .ref a_found, .int m_thereMany, .int m_foundMany, .int m_orderHow, .int m_orderRing, .int m_orderMany, .int m_hasBest, .long m_bestTop, .long m_bestBy, .ref a_weights, .ref a_shared, .int m_random, .int m_truePlace, .int m_trueWay, .int m_seconds, .int m_done, .int m_feelings, .int m_tries, .int m_leftOver, .int m_playDoor, .int m_playRing, .int m_isOpen, .int m_isOver, .int m_wasTried, .int m_hasPlayed, .ref a_feltNow, .ref a_last, .ref a_kept, .int m_hasSeconds, .int m_hasTurned, .int m_hasRound, .ref a_hasFeels, .ref a_isOn, .int m_firstAct, .long m_meanTop, .long m_meanBy, .ref a_order, .int m_rowMany, .int m_newSteps])), (a_trayMany, .inl (cA.1 0, 4, .inl g_trayMany))]) 0 0 := by
  have hk_0 : (0 : Int32).toInt = 0 := by decide +kernel
  have hk_4 : (4 : Int32).toInt = 4 := by decide +kernel
  refine z_start2i (own := RX12) (by decide) (Nat.le_of_ble_eq_true rfl) rfl ?_
  intro p e s m args below meth c A ls Q hx hb hml hts hown hK hE hT hP hD hS hA hl hret
  have hl : lv_has ls 4 [(0, .ref h0), (1, .int t), (2, .int k)] := hl
  refine lv_aload_n hx hb dX12_placed_0 rfl (lv_at hl 0 rfl) ?_
  refine lv_iload_n hx hb dX12_placed_1 rfl (lv_at hl 1 rfl) ?_
  refine z_callVi (As := [.int t]) (rest := []) (wr := []) ⟨hx, hb, hml, hown, hts⟩ hK hE hT hP hD hS hA (r_trayed l G cA h0 m_status m_thrown m_above m_under a_traySort a_trayMany a_numbers a_tape m_taped m_textEnd m_faultKind m_faultAt m_bad m_badAt m_token m_at m_behind m_number m_letters m_word a_c a_words m_markMany a_there a_tried a_best a_found m_thereMany m_foundMany m_orderHow m_orderRing m_orderMany m_hasBest m_bestTop m_bestBy a_weights a_shared m_random m_truePlace m_trueWay m_seconds m_done m_feelings m_tries m_leftOver m_playDoor m_playRing m_isOpen m_isOver m_wasTried m_hasPlayed a_feltNow a_last a_kept m_hasSeconds m_hasTurned m_hasRound a_hasFeels a_isOn m_firstAct m_meanTop m_meanBy a_order m_rowMany m_newSteps g_trayMany t hC_g_trayMany) lk_RX12_101 ⟨rfl, rfl⟩ ⟨Nat.le_of_ble_eq_true rfl, Nat.le_of_ble_eq_true rfl⟩ 12 rfl rfl rfl [0, 1] [] rfl rfl (by decide) rfl hl.1 rfl (lv_room (Nat.le_of_ble_eq_true rfl)) dX12_placed_2 ⟨Nat.le_of_ble_eq_true rfl, Nat.le_of_ble_eq_true rfl⟩ (fun r_1 u_2 H locs hw hP hD hS => ?_)
  obtain ⟨hr_r_1, hf_3, hf_4⟩ := hw
  have hu_r_1 := zTd_o hf_4
  refine lv_istore_n (lv' := [(3, .int r_1), (0, .ref h0), (1, .int t), (2, .int k)]) hx hb dX12_placed_5 rfl hl (by decide) rfl (fun ls hl => ?_)
  refine lv_iload_n hx hb dX12_placed_6 rfl (lv_at hl 0 rfl) ?_
  refine lv_if_le (tgt := 14) hx hb dX12_placed_7 (by decide) (fun c_5 => ?_) (fun c_5 => ?_)
  · have b_6 := z_fleT c_5
    refine lv_iload_n hx hb dX12_placed_14 rfl (lv_at hl 3 rfl) ?_
    refine lv_if_lt (tgt := 28) hx hb dX12_placed_15 (by decide) (fun c_7 => ?_) (fun c_7 => ?_)
    · have b_8 := z_fltT c_7
      refine lv_iconst (v := 4) hx hb dX12_placed_28 (by decide) ?_
      refine lv_goto (tgt := 33) hx hb dX12_placed_29 (by decide) ?_
      have hpost : (0 ≤ (4 : Int32).toInt ∧ (4 : Int32).toInt ≤ 4) ∧ ((4 : Int32).toInt = 0 → 0 ≤ t.toInt ∧ t.toInt ≤ 3 ∧ 0 ≤ k.toInt ∧ k.toInt ≤ 59) ∧ (zPd g_trayMany t k (4 : Int32)) := ⟨(by decide +kernel), (by omega), (by unfold zPd; omega)⟩
      exact hret _ _ _ _ _ _ () [0, 1] hP hD hS rfl (by decide) dX12_placed_33 hpost
    · have b_9 := z_fgeF c_7
      refine lv_iload_n hx hb dX12_placed_18 rfl (lv_at hl 3 rfl) ?_
      refine lv_aload_n hx hb dX12_placed_19 rfl (lv_at hl 1 rfl) ?_
      refine va_get (D := G) (ci := 12) (v := .ref a_trayMany) (C := RX12) (T := TX12) (N := 65) hx hb hts inT12 hown hK hP 0 rfl rfl 5 (by decide) (hts _ tw_1890) (fun _ h9 => h9) rfl dX12_placed_20 ?_
      refine lv_iload_n hx hb dX12_placed_23 rfl (lv_at hl 2 rfl) ?_
      refine va_iald hx hb hK hP 1 0 rfl rfl (z_inN (by omega) (by omega)) dX12_placed_24 ?_
      refine lv_topi (fun x_10 he_x_10 => ?_)
      have hr_x_10 := z_rg hC_g_trayMany he_x_10 (by omega) (by omega)
      have hg9_x_10 : x_10.toInt = (g_trayMany t.toInt.toNat).toInt := by rw [he_x_10]; rfl
      refine lv_icmp_lt (tgt := 32) hx hb dX12_placed_25 (by decide) (fun c_11 => ?_) (fun c_11 => ?_)
      · have b_12 := z_fltT c_11
        refine lv_iconst (v := 0) hx hb dX12_placed_32 (by decide) ?_
        have hpost : (0 ≤ (0 : Int32).toInt ∧ (0 : Int32).toInt ≤ 4) ∧ ((0 : Int32).toInt = 0 → 0 ≤ t.toInt ∧ t.toInt ≤ 3 ∧ 0 ≤ k.toInt ∧ k.toInt ≤ 59) ∧ (zPd g_trayMany t k (0 : Int32)) := ⟨(by decide +kernel), (by omega), (by unfold zPd; omega)⟩
        exact hret _ _ _ _ _ _ () [0, 1] hP hD hS rfl (by decide) dX12_placed_33 hpost
      · have b_13 := z_fgeF c_11
        refine lv_iconst (v := 4) hx hb dX12_placed_28 (by decide) ?_
        refine lv_goto (tgt := 33) hx hb dX12_placed_29 (by decide) ?_
        have hpost : (0 ≤ (4 : Int32).toInt ∧ (4 : Int32).toInt ≤ 4) ∧ ((4 : Int32).toInt = 0 → 0 ≤ t.toInt ∧ t.toInt ≤ 3 ∧ 0 ≤ k.toInt ∧ k.toInt ≤ 59) ∧ (zPd g_trayMany t k (4 : Int32)) := ⟨(by decide +kernel), (by omega), (by unfold zPd; omega)⟩
        exact hret _ _ _ _ _ _ () [0, 1] hP hD hS rfl (by decide) dX12_placed_33 hpost
  · have b_14 := z_fgtF c_5
    refine lv_iload_n hx hb dX12_placed_10 rfl (lv_at hl 0 rfl) ?_
    refine lv_goto (tgt := 33) hx hb dX12_placed_11 (by decide) ?_
    have hpost : (0 ≤ r_1.toInt ∧ r_1.toInt ≤ 4) ∧ (r_1.toInt = 0 → 0 ≤ t.toInt ∧ t.toInt ≤ 3 ∧ 0 ≤ k.toInt ∧ k.toInt ≤ 59) ∧ (zPd g_trayMany t k r_1) := ⟨(z_rgw hr_r_1 (by decide) (by decide)), (by omega), (by unfold zPd; omega)⟩
    exact hret _ _ _ _ _ _ () [0, 1] hP hD hS rfl (by decide) dX12_placed_33 hpost
set_option maxHeartbeats 4000000 in
set_option maxRecDepth 100000 in
theorem r_tray (l : Launch) (G : va_G) (cA : zCA) (h0 : Nat) (m_status : Int32) (m_thrown : Int32) (m_above : Int64) (m_under : Int64) (a_traySort : Nat) (a_trayMany : Nat) (a_numbers : Nat) (a_tape : Nat) (m_taped : Int32) (m_textEnd : Int32) (m_faultKind : Int32) (m_faultAt : Int32) (m_bad : Int32) (m_badAt : Int32) (m_token : Int32) (m_at : Int32) (m_behind : Int32) (m_number : Int32) (m_letters : Int32) (m_word : Int64) (a_c : Nat) (a_words : Nat) (m_markMany : Int32) (a_there : Nat) (a_tried : Nat) (a_best : Nat) (a_found : Nat) (m_thereMany : Int32) (m_foundMany : Int32) (m_orderHow : Int32) (m_orderRing : Int32) (m_orderMany : Int32) (m_hasBest : Int32) (m_bestTop : Int64) (m_bestBy : Int64) (a_weights : Nat) (a_shared : Nat) (m_random : Int32) (m_truePlace : Int32) (m_trueWay : Int32) (m_seconds : Int32) (m_done : Int32) (m_feelings : Int32) (m_tries : Int32) (m_leftOver : Int32) (m_playDoor : Int32) (m_playRing : Int32) (m_isOpen : Int32) (m_isOver : Int32) (m_wasTried : Int32) (m_hasPlayed : Int32) (a_feltNow : Nat) (a_last : Nat) (a_kept : Nat) (m_hasSeconds : Int32) (m_hasTurned : Int32) (m_hasRound : Int32) (a_hasFeels : Nat) (a_isOn : Nat) (m_firstAct : Int32) (m_meanTop : Int64) (m_meanBy : Int64) (a_order : Nat) (m_rowMany : Int32) (m_newSteps : Int32) (g_traySort : Nat → Int32) (g_trayMany : Nat → Int32) (g_numbers : Nat → Int64) (t : Int32) (ss : Int32) (nn : Int32) (hC_g_trayMany : zRg 4 (-1) 60 g_trayMany) : zCi l yX12_tray cX12_tray 5 (some .boolean) ({ frames := 1, cells := 0, slots := 0, locals := 21 }) G cA [.ref h0, .int t, .int ss, .int nn] [(h0, .inr (12, [.int m_status, .int m_thrown, .long m_above, .long m_under, .ref a_traySort, .ref a_trayMany, .ref a_numbers, .ref a_tape, .int m_taped, .int m_textEnd, .int m_faultKind, .int m_faultAt, .int m_bad, .int m_badAt, .int m_token, .int m_at, .int m_behind, .int m_number, .int m_letters, .long m_word, .ref a_c, .ref a_words, .int m_markMany, .ref a_there, .ref a_tried, .ref a_best, .ref a_found, .int m_thereMany, .int m_foundMany, .int m_orderHow, .int m_orderRing, .int m_orderMany, .int m_hasBest, .long m_bestTop, .long m_bestBy, .ref a_weights, .ref a_shared, .int m_random, .int m_truePlace, .int m_trueWay, .int m_seconds, .int m_done, .int m_feelings, .int m_tries, .int m_leftOver, .int m_playDoor, .int m_playRing, .int m_isOpen, .int m_isOver, .int m_wasTried, .int m_hasPlayed, .ref a_feltNow, .ref a_last, .ref a_kept, .int m_hasSeconds, .int m_hasTurned, .int m_hasRound, .ref a_hasFeels, .ref a_isOn, .int m_firstAct, .long m_meanTop, .long m_meanBy, .ref a_order, .int m_rowMany, .int m_newSteps])), (a_traySort, .inl (cA.1 0, 4, .inl g_traySort)), (a_trayMany, .inl (cA.1 0, 4, .inl g_trayMany)), (a_numbers, .inl (cA.1 1, 240, .inr (.inl g_numbers)))] (S := Int32 × Int32 × (Nat → Int32) × (Nat → Int32) × (Nat → Int64)) (fun (r : Int32) (u : Int32 × Int32 × (Nat → Int32) × (Nat → Int32) × (Nat → Int64)) => (r = 0 ∧ (0 ≤ u.2.1.toInt ∧ u.2.1.toInt ≤ 0) ∧ (zRg 4 (-1) 60 u.2.2.2.1) ∧ (¬ trOK t ss nn) ∧ (zTyA t ss nn g_traySort g_trayMany u.2.2.1 u.2.2.2.1)) ∨ (r = 1 ∧ (0 ≤ u.1.toInt ∧ u.1.toInt ≤ 0) ∧ (0 ≤ u.2.1.toInt ∧ u.2.1.toInt ≤ 0) ∧ (zRg 4 (-1) 60 u.2.2.2.1) ∧ (trOK t ss nn) ∧ (zTyA t ss nn g_traySort g_trayMany u.2.2.1 u.2.2.2.1))) (fun (u : Int32 × Int32 × (Nat → Int32) × (Nat → Int32) × (Nat → Int64)) => [(h0, .inr (12, [.int u.1, .int u.2.1, .long m_above, .long m_under, .ref a_traySort, .ref a_trayMany, .ref a_numbers, .ref a_tape, .int m_taped, .int m_textEnd, .int m_faultKind, .int m_faultAt, .int m_bad, .int m_badAt, .int m_token, .int m_at, .int m_behind, .int m_number, .int m_letters, .long m_word, .ref a_c, .ref a_words, .int m_markMany, .ref a_there, .ref a_tried, .ref a_best, .ref a_found, .int m_thereMany, .int m_foundMany, .int m_orderHow, .int m_orderRing, .int m_orderMany, .int m_hasBest, .long m_bestTop, .long m_bestBy, .ref a_weights, .ref a_shared, .int m_random, .int m_truePlace, .int m_trueWay, .int m_seconds, .int m_done, .int m_feelings, .int m_tries, .int m_leftOver, .int m_playDoor, .int m_playRing, .int m_isOpen, .int m_isOver, .int m_wasTried, .int m_hasPlayed, .ref a_feltNow, .ref a_last, .ref a_kept, .int m_hasSeconds, .int m_hasTurned, .int m_hasRound, .ref a_hasFeels, .ref a_isOn, .int m_firstAct, .long m_meanTop, .long m_meanBy, .ref a_order, .int m_rowMany, .int m_newSteps])), (a_traySort, .inl (cA.1 0, 4, .inl u.2.2.1)), (a_trayMany, .inl (cA.1 0, 4, .inl u.2.2.2.1)), (a_numbers, .inl (cA.1 1, 240, .inr (.inl u.2.2.2.2)))]) 0 0 := by
  have hk_0 : (0 : Int32).toInt = 0 := by decide +kernel
  have hk_1 : (1 : Int32).toInt = 1 := by decide +kernel
  have hk_3 : (3 : Int32).toInt = 3 := by decide +kernel
  have hk_4 : (4 : Int32).toInt = 4 := by decide +kernel
  have hk_5 : (5 : Int32).toInt = 5 := by decide +kernel
  have hk_6 : (6 : Int32).toInt = 6 := by decide +kernel
  have hk_60 : (60 : Int32).toInt = 60 := by decide +kernel
  refine z_start2z (own := RX12) (by decide) (Nat.le_of_ble_eq_true rfl) rfl ?_
  intro p e s m args below meth c A ls Q hx hb hml hts hown hK hE hT hP hD hS hA hl hret
  have hl : lv_has ls 5 [(0, .ref h0), (1, .int t), (2, .int ss), (3, .int nn)] := hl
  refine lv_aload_n hx hb dX12_tray_0 rfl (lv_at hl 0 rfl) ?_
  refine lv_iconst (v := 0) hx hb dX12_tray_1 (by decide) ?_
  refine va_put (D := G) (ci := 12) (v := .int 0) (ty := .int) (C := RX12) (T := TX12) (N := 65) hx hb hts inT12 tyX12 tyX12_ok nmX12 hown hK hP hD hS 0 rfl rfl 1 (by decide) (hts _ tw_1886) (fun _ h9 => h9) rfl (tyX12_ok 1 (by decide)) rfl rfl (Nat.le_of_ble_eq_true rfl) dX12_tray_2 (fun H locs hP hD hS => ?_)
  refine lv_aload_n hx hb dX12_tray_5 rfl (lv_at hl 0 rfl) ?_
  refine lv_iconst (v := 0) hx hb dX12_tray_6 (by decide) ?_
  refine va_put (D := G) (ci := 12) (v := .int 0) (ty := .int) (C := RX12) (T := TX12) (N := 65) hx hb hts inT12 tyX12 tyX12_ok nmX12 hown hK hP hD hS 0 rfl rfl 0 (by decide) (hts _ tw_1885) (fun _ h9 => h9) rfl (tyX12_ok 0 (by decide)) rfl rfl (Nat.le_of_ble_eq_true rfl) dX12_tray_7 (fun H locs hP hD hS => ?_)
  refine lv_iload_n hx hb dX12_tray_10 rfl (lv_at hl 1 rfl) ?_
  refine lv_if_lt (tgt := 28) hx hb dX12_tray_11 (by decide) (fun c_1 => ?_) (fun c_1 => ?_)
  · have b_2 := z_fltT c_1
    refine lv_aload_n hx hb dX12_tray_28 rfl (lv_at hl 0 rfl) ?_
    refine lv_iconst (v := 1) hx hb dX12_tray_29 (by decide) ?_
    refine z_callVi (As := [.int 1]) (rest := []) (wr := [(a_traySort, .inl (cA.1 0, 4, .inl g_traySort)), (a_trayMany, .inl (cA.1 0, 4, .inl g_trayMany)), (a_numbers, .inl (cA.1 1, 240, .inr (.inl g_numbers)))]) ⟨hx, hb, hml, hown, hts⟩ hK hE hT hP hD hS hA (r_no l G cA h0 0 0 m_above m_under a_traySort a_trayMany a_numbers a_tape m_taped m_textEnd m_faultKind m_faultAt m_bad m_badAt m_token m_at m_behind m_number m_letters m_word a_c a_words m_markMany a_there a_tried a_best a_found m_thereMany m_foundMany m_orderHow m_orderRing m_orderMany m_hasBest m_bestTop m_bestBy a_weights a_shared m_random m_truePlace m_trueWay m_seconds m_done m_feelings m_tries m_leftOver m_playDoor m_playRing m_isOpen m_isOver m_wasTried m_hasPlayed a_feltNow a_last a_kept m_hasSeconds m_hasTurned m_hasRound a_hasFeels a_isOn m_firstAct m_meanTop m_meanBy a_order m_rowMany m_newSteps 1) lk_RX12_97 ⟨rfl, rfl⟩ ⟨Nat.le_of_ble_eq_true rfl, Nat.le_of_ble_eq_true rfl⟩ 12 rfl rfl rfl [0] [1, 2, 3] rfl rfl (by decide) rfl hl.1 rfl (lv_room (Nat.le_of_ble_eq_true rfl)) dX12_tray_30 ⟨Nat.le_of_ble_eq_true rfl, Nat.le_of_ble_eq_true rfl⟩ (fun r_4 u_5 H locs hw hP hD hS => ?_)
    obtain ⟨n_3, rfl⟩ : ∃ z, z = u_5 := ⟨_, rfl⟩
    obtain ⟨rfl, -⟩ := hw
    have hpost : ((0 : Int32) = 0 ∧ (0 ≤ (0 : Int32).toInt ∧ (0 : Int32).toInt ≤ 0) ∧ (zRg 4 (-1) 60 g_trayMany) ∧ (¬ trOK t ss nn) ∧ (zTyA t ss nn g_traySort g_trayMany g_traySort g_trayMany)) ∨ ((0 : Int32) = 1 ∧ (0 ≤ n_3.toInt ∧ n_3.toInt ≤ 0) ∧ (0 ≤ (0 : Int32).toInt ∧ (0 : Int32).toInt ≤ 0) ∧ (zRg 4 (-1) 60 g_trayMany) ∧ (trOK t ss nn) ∧ (zTyA t ss nn g_traySort g_trayMany g_traySort g_trayMany)) := (Or.inl ⟨rfl, ⟨(by decide +kernel), hC_g_trayMany, (by unfold trOK; omega), (zTyA_n (by unfold trOK; omega))⟩⟩)
    exact hret _ _ _ _ _ _ (n_3, 0, g_traySort, g_trayMany, g_numbers) [3, 0, 1, 2] hP hD hS rfl (by decide) dX12_tray_33 (Or.inl rfl) hpost
  · have b_6 := z_fgeF c_1
    refine lv_iload_n hx hb dX12_tray_14 rfl (lv_at hl 1 rfl) ?_
    refine lv_iconst (v := 4) hx hb dX12_tray_15 (by decide) ?_
    refine lv_icmp_ge (tgt := 28) hx hb dX12_tray_16 (by decide) (fun c_7 => ?_) (fun c_7 => ?_)
    · have b_8 := z_fgeT c_7
      refine lv_aload_n hx hb dX12_tray_28 rfl (lv_at hl 0 rfl) ?_
      refine lv_iconst (v := 1) hx hb dX12_tray_29 (by decide) ?_
      refine z_callVi (As := [.int 1]) (rest := []) (wr := [(a_traySort, .inl (cA.1 0, 4, .inl g_traySort)), (a_trayMany, .inl (cA.1 0, 4, .inl g_trayMany)), (a_numbers, .inl (cA.1 1, 240, .inr (.inl g_numbers)))]) ⟨hx, hb, hml, hown, hts⟩ hK hE hT hP hD hS hA (r_no l G cA h0 0 0 m_above m_under a_traySort a_trayMany a_numbers a_tape m_taped m_textEnd m_faultKind m_faultAt m_bad m_badAt m_token m_at m_behind m_number m_letters m_word a_c a_words m_markMany a_there a_tried a_best a_found m_thereMany m_foundMany m_orderHow m_orderRing m_orderMany m_hasBest m_bestTop m_bestBy a_weights a_shared m_random m_truePlace m_trueWay m_seconds m_done m_feelings m_tries m_leftOver m_playDoor m_playRing m_isOpen m_isOver m_wasTried m_hasPlayed a_feltNow a_last a_kept m_hasSeconds m_hasTurned m_hasRound a_hasFeels a_isOn m_firstAct m_meanTop m_meanBy a_order m_rowMany m_newSteps 1) lk_RX12_97 ⟨rfl, rfl⟩ ⟨Nat.le_of_ble_eq_true rfl, Nat.le_of_ble_eq_true rfl⟩ 12 rfl rfl rfl [0] [1, 2, 3] rfl rfl (by decide) rfl hl.1 rfl (lv_room (Nat.le_of_ble_eq_true rfl)) dX12_tray_30 ⟨Nat.le_of_ble_eq_true rfl, Nat.le_of_ble_eq_true rfl⟩ (fun r_10 u_11 H locs hw hP hD hS => ?_)
      obtain ⟨n_9, rfl⟩ : ∃ z, z = u_11 := ⟨_, rfl⟩
      obtain ⟨rfl, -⟩ := hw
      have hpost : ((0 : Int32) = 0 ∧ (0 ≤ (0 : Int32).toInt ∧ (0 : Int32).toInt ≤ 0) ∧ (zRg 4 (-1) 60 g_trayMany) ∧ (¬ trOK t ss nn) ∧ (zTyA t ss nn g_traySort g_trayMany g_traySort g_trayMany)) ∨ ((0 : Int32) = 1 ∧ (0 ≤ n_9.toInt ∧ n_9.toInt ≤ 0) ∧ (0 ≤ (0 : Int32).toInt ∧ (0 : Int32).toInt ≤ 0) ∧ (zRg 4 (-1) 60 g_trayMany) ∧ (trOK t ss nn) ∧ (zTyA t ss nn g_traySort g_trayMany g_traySort g_trayMany)) := (Or.inl ⟨rfl, ⟨(by decide +kernel), hC_g_trayMany, (by unfold trOK; omega), (zTyA_n (by unfold trOK; omega))⟩⟩)
      exact hret _ _ _ _ _ _ (n_9, 0, g_traySort, g_trayMany, g_numbers) [3, 0, 1, 2] hP hD hS rfl (by decide) dX12_tray_33 (Or.inl rfl) hpost
    · have b_12 := z_fltF c_7
      refine lv_iload_n hx hb dX12_tray_19 rfl (lv_at hl 2 rfl) ?_
      refine lv_if_lt (tgt := 28) hx hb dX12_tray_20 (by decide) (fun c_13 => ?_) (fun c_13 => ?_)
      · have b_14 := z_fltT c_13
        refine lv_aload_n hx hb dX12_tray_28 rfl (lv_at hl 0 rfl) ?_
        refine lv_iconst (v := 1) hx hb dX12_tray_29 (by decide) ?_
        refine z_callVi (As := [.int 1]) (rest := []) (wr := [(a_traySort, .inl (cA.1 0, 4, .inl g_traySort)), (a_trayMany, .inl (cA.1 0, 4, .inl g_trayMany)), (a_numbers, .inl (cA.1 1, 240, .inr (.inl g_numbers)))]) ⟨hx, hb, hml, hown, hts⟩ hK hE hT hP hD hS hA (r_no l G cA h0 0 0 m_above m_under a_traySort a_trayMany a_numbers a_tape m_taped m_textEnd m_faultKind m_faultAt m_bad m_badAt m_token m_at m_behind m_number m_letters m_word a_c a_words m_markMany a_there a_tried a_best a_found m_thereMany m_foundMany m_orderHow m_orderRing m_orderMany m_hasBest m_bestTop m_bestBy a_weights a_shared m_random m_truePlace m_trueWay m_seconds m_done m_feelings m_tries m_leftOver m_playDoor m_playRing m_isOpen m_isOver m_wasTried m_hasPlayed a_feltNow a_last a_kept m_hasSeconds m_hasTurned m_hasRound a_hasFeels a_isOn m_firstAct m_meanTop m_meanBy a_order m_rowMany m_newSteps 1) lk_RX12_97 ⟨rfl, rfl⟩ ⟨Nat.le_of_ble_eq_true rfl, Nat.le_of_ble_eq_true rfl⟩ 12 rfl rfl rfl [0] [1, 2, 3] rfl rfl (by decide) rfl hl.1 rfl (lv_room (Nat.le_of_ble_eq_true rfl)) dX12_tray_30 ⟨Nat.le_of_ble_eq_true rfl, Nat.le_of_ble_eq_true rfl⟩ (fun r_16 u_17 H locs hw hP hD hS => ?_)
        obtain ⟨n_15, rfl⟩ : ∃ z, z = u_17 := ⟨_, rfl⟩
        obtain ⟨rfl, -⟩ := hw
        have hpost : ((0 : Int32) = 0 ∧ (0 ≤ (0 : Int32).toInt ∧ (0 : Int32).toInt ≤ 0) ∧ (zRg 4 (-1) 60 g_trayMany) ∧ (¬ trOK t ss nn) ∧ (zTyA t ss nn g_traySort g_trayMany g_traySort g_trayMany)) ∨ ((0 : Int32) = 1 ∧ (0 ≤ n_15.toInt ∧ n_15.toInt ≤ 0) ∧ (0 ≤ (0 : Int32).toInt ∧ (0 : Int32).toInt ≤ 0) ∧ (zRg 4 (-1) 60 g_trayMany) ∧ (trOK t ss nn) ∧ (zTyA t ss nn g_traySort g_trayMany g_traySort g_trayMany)) := (Or.inl ⟨rfl, ⟨(by decide +kernel), hC_g_trayMany, (by unfold trOK; omega), (zTyA_n (by unfold trOK; omega))⟩⟩)
        exact hret _ _ _ _ _ _ (n_15, 0, g_traySort, g_trayMany, g_numbers) [3, 0, 1, 2] hP hD hS rfl (by decide) dX12_tray_33 (Or.inl rfl) hpost
      · have b_18 := z_fgeF c_13
        refine lv_iload_n hx hb dX12_tray_23 rfl (lv_at hl 2 rfl) ?_
        refine lv_iconst (v := 3) hx hb dX12_tray_24 (by decide) ?_
        refine lv_icmp_le (tgt := 34) hx hb dX12_tray_25 (by decide) (fun c_19 => ?_) (fun c_19 => ?_)
        · have b_20 := z_fleT c_19
          refine lv_iload_n hx hb dX12_tray_34 rfl (lv_at hl 3 rfl) ?_
          refine lv_bipush (v := 60) hx hb dX12_tray_35 (by decide) ?_
          refine lv_icmp_le (tgt := 46) hx hb dX12_tray_37 (by decide) (fun c_21 => ?_) (fun c_21 => ?_)
          · have b_22 := z_fleT c_21
            refine lv_iload_n hx hb dX12_tray_46 rfl (lv_at hl 3 rfl) ?_
            refine lv_if_ge (tgt := 57) hx hb dX12_tray_47 (by decide) (fun c_23 => ?_) (fun c_23 => ?_)
            · have b_24 := z_fgeT c_23
              refine lv_aload_n hx hb dX12_tray_57 rfl (lv_at hl 0 rfl) ?_
              refine va_get (D := G) (ci := 12) (v := .ref a_traySort) (C := RX12) (T := TX12) (N := 65) hx hb hts inT12 hown hK hP 0 rfl rfl 4 (by decide) (hts _ tw_1889) (fun _ h9 => h9) rfl dX12_tray_58 ?_
              refine lv_iload_n hx hb dX12_tray_61 rfl (lv_at hl 1 rfl) ?_
              refine lv_iload_n hx hb dX12_tray_62 rfl (lv_at hl 2 rfl) ?_
              refine z_iast hx hb hK hP hD hS 1 0 rfl rfl (z_inN (by omega) (by omega)) dX12_tray_63 (fun g_25 hg_g_25 H locs hP hD hS => ?_)
              refine lv_aload_n hx hb dX12_tray_64 rfl (lv_at hl 0 rfl) ?_
              refine va_get (D := G) (ci := 12) (v := .ref a_trayMany) (C := RX12) (T := TX12) (N := 65) hx hb hts inT12 hown hK hP 0 rfl rfl 5 (by decide) (hts _ tw_1890) (fun _ h9 => h9) rfl dX12_tray_65 ?_
              refine lv_iload_n hx hb dX12_tray_68 rfl (lv_at hl 1 rfl) ?_
              refine lv_iload_n hx hb dX12_tray_69 rfl (lv_at hl 3 rfl) ?_
              refine z_iast hx hb hK hP hD hS 2 0 rfl rfl (z_inN (by omega) (by omega)) dX12_tray_70 (fun g_26 hg_g_26 H locs hP hD hS => ?_)
              have hC_g_26 := z_rgU hC_g_trayMany hg_g_26 (by omega)
              refine lv_iconst (v := 0) hx hb dX12_tray_71 (by decide) ?_
              refine lv_istore (lv' := [(4, .int 0), (0, .ref h0), (1, .int t), (2, .int ss), (3, .int nn)]) hx hb dX12_tray_72 hl (by decide) rfl (fun ls hl => ?_)
              have hlp_258 : ∀ (n : Nat) (v_249 : Int32) (g_250 : Nat → Int64) (H : Heap) (locs : List Loc) (ls : Array Slot), (2147483647 - v_249.toInt).toNat < n → (0 ≤ v_249.toInt ∧ v_249.toInt ≤ 60) → va_P G vwCl [(h0, .inr (12, [.int 0, .int 0, .long m_above, .long m_under, .ref a_traySort, .ref a_trayMany, .ref a_numbers, .ref a_tape, .int m_taped, .int m_textEnd, .int m_faultKind, .int m_faultAt, .int m_bad, .int m_badAt, .int m_token, .int m_at, .int m_behind, .int m_number, .int m_letters, .long m_word, .ref a_c, .ref a_words, .int m_markMany, .ref a_there, .ref a_tried, .ref a_best, .ref a_found, .int m_thereMany, .int m_foundMany, .int m_orderHow, .int m_orderRing, .int m_orderMany, .int m_hasBest, .long m_bestTop, .long m_bestBy, .ref a_weights, .ref a_shared, .int m_random, .int m_truePlace, .int m_trueWay, .int m_seconds, .int m_done, .int m_feelings, .int m_tries, .int m_leftOver, .int m_playDoor, .int m_playRing, .int m_isOpen, .int m_isOver, .int m_wasTried, .int m_hasPlayed, .ref a_feltNow, .ref a_last, .ref a_kept, .int m_hasSeconds, .int m_hasTurned, .int m_hasRound, .ref a_hasFeels, .ref a_isOn, .int m_firstAct, .long m_meanTop, .long m_meanBy, .ref a_order, .int m_rowMany, .int m_newSteps])), (a_traySort, .inl (cA.1 0, 4, .inl g_25)), (a_trayMany, .inl (cA.1 0, 4, .inl g_26)), (a_numbers, .inl (cA.1 1, 240, .inr (.inl g_250)))] H → va_D A [(h0, .inr (12, [.int 0, .int 0, .long m_above, .long m_under, .ref a_traySort, .ref a_trayMany, .ref a_numbers, .ref a_tape, .int m_taped, .int m_textEnd, .int m_faultKind, .int m_faultAt, .int m_bad, .int m_badAt, .int m_token, .int m_at, .int m_behind, .int m_number, .int m_letters, .long m_word, .ref a_c, .ref a_words, .int m_markMany, .ref a_there, .ref a_tried, .ref a_best, .ref a_found, .int m_thereMany, .int m_foundMany, .int m_orderHow, .int m_orderRing, .int m_orderMany, .int m_hasBest, .long m_bestTop, .long m_bestBy, .ref a_weights, .ref a_shared, .int m_random, .int m_truePlace, .int m_trueWay, .int m_seconds, .int m_done, .int m_feelings, .int m_tries, .int m_leftOver, .int m_playDoor, .int m_playRing, .int m_isOpen, .int m_isOver, .int m_wasTried, .int m_hasPlayed, .ref a_feltNow, .ref a_last, .ref a_kept, .int m_hasSeconds, .int m_hasTurned, .int m_hasRound, .ref a_hasFeels, .ref a_isOn, .int m_firstAct, .long m_meanTop, .long m_meanBy, .ref a_order, .int m_rowMany, .int m_newSteps])), (a_traySort, .inl (cA.1 0, 4, .inl g_25)), (a_trayMany, .inl (cA.1 0, 4, .inl g_26)), (a_numbers, .inl (cA.1 1, 240, .inr (.inl g_250)))] → va_S A s.heap H locs → lv_has ls 5 [(0, .ref h0), (1, .int t), (2, .int ss), (3, .int nn), (4, .int v_249)] → W p l e ({ frames := 1, cells := 0, slots := 0, locals := 21 }) s m args below meth c H locs 0 0 Q (F0 m 74 ls []) := by
                intro n
                induction n with
                | zero =>
                  intro v_249 g_250 H locs ls hmu_hlp_258 hr_v_249 hP hD hS hl
                  exact absurd hmu_hlp_258 (Nat.not_lt_zero _)
                | succ n ih_259 =>
                  intro v_249 g_250 H locs ls hmu_hlp_258 hr_v_249 hP hD hS hl
                  refine lv_iload hx hb dX12_tray_74 (lv_at hl 4 rfl) ?_
                  refine lv_iload_n hx hb dX12_tray_76 rfl (lv_at hl 3 rfl) ?_
                  refine lv_icmp_ge (tgt := 99) hx hb dX12_tray_77 (by decide) (fun c_260 => ?_) (fun c_260 => ?_)
                  · have b_261 := z_fgeT c_260
                    refine lv_iconst (v := 1) hx hb dX12_tray_99 (by decide) ?_
                    have hpost : ((1 : Int32) = 0 ∧ (0 ≤ (0 : Int32).toInt ∧ (0 : Int32).toInt ≤ 0) ∧ (zRg 4 (-1) 60 g_26) ∧ (¬ trOK t ss nn) ∧ (zTyA t ss nn g_traySort g_trayMany g_25 g_26)) ∨ ((1 : Int32) = 1 ∧ (0 ≤ (0 : Int32).toInt ∧ (0 : Int32).toInt ≤ 0) ∧ (0 ≤ (0 : Int32).toInt ∧ (0 : Int32).toInt ≤ 0) ∧ (zRg 4 (-1) 60 g_26) ∧ (trOK t ss nn) ∧ (zTyA t ss nn g_traySort g_trayMany g_25 g_26)) := (Or.inr ⟨rfl, ⟨(by decide +kernel), (by decide +kernel), hC_g_26, (by unfold trOK; omega), (zTyA_y (by unfold trOK; omega) hg_g_25 hg_g_26)⟩⟩)
                    exact hret _ _ _ _ _ _ (0, 0, g_25, g_26, g_250) [0, 1, 2, 3] hP hD hS rfl (by decide) dX12_tray_100 (Or.inr rfl) hpost
                  · have b_262 := z_fltF c_260
                    refine lv_aload_n hx hb dX12_tray_80 rfl (lv_at hl 0 rfl) ?_
                    refine va_get (D := G) (ci := 12) (v := .ref a_numbers) (C := RX12) (T := TX12) (N := 65) hx hb hts inT12 hown hK hP 0 rfl rfl 6 (by decide) (hts _ tw_1891) (fun _ h9 => h9) rfl dX12_tray_81 ?_
                    refine lv_bipush (v := 60) hx hb dX12_tray_84 (by decide) ?_
                    refine lv_iload_n hx hb dX12_tray_86 rfl (lv_at hl 1 rfl) ?_
                    refine lv_imul hx hb dX12_tray_87 ?_
                    refine lv_topi (fun x_263 he_x_263 => ?_)
                    have hq_x_263 := z_mulq he_x_263 hk_60 (rfl : t.toInt = _) (by omega) (by omega)
                    refine lv_iload hx hb dX12_tray_88 (lv_at hl 4 rfl) ?_
                    refine lv_iadd hx hb dX12_tray_90 ?_
                    refine lv_topi (fun x_264 he_x_264 => ?_)
                    have hq_x_264 := z_addq he_x_264 (rfl : x_263.toInt = _) (rfl : v_249.toInt = _) (by omega) (by omega)
                    refine lv_lconst (v := 0) hx hb dX12_tray_91 (by decide) ?_
                    refine z_last hx hb hK hP hD hS 3 1 rfl rfl (z_inN (by omega) (by omega)) dX12_tray_92 (fun g_265 hg_g_265 H locs hP hD hS => ?_)
                    obtain ⟨x_266, he_x_266⟩ : ∃ z : Int32, z = v_249 + 1 := ⟨_, rfl⟩
                    have hq_x_266 := z_addq he_x_266 (rfl : v_249.toInt = _) hk_1 (by omega) (by omega)
                    refine lv_iinc (v := x_266) (lv' := [(4, .int x_266), (0, .ref h0), (1, .int t), (2, .int ss), (3, .int nn)]) hx hb dX12_tray_93 hl (k := 4) rfl ((z_ofi (by decide +kernel)).trans he_x_266.symm) (by decide) rfl (fun ls hl => ?_)
                    refine lv_goto (tgt := 74) hx hb dX12_tray_96 (by decide) ?_
                    exact ih_259 x_266 g_265 H locs ls (by omega) (by omega) hP hD hS (lv_sub hl [1, 2, 3, 4, 0] rfl)
              exact hlp_258 _ 0 g_numbers _ _ _ (Nat.lt_succ_self _) (by decide +kernel) hP hD hS (lv_sub hl [1, 2, 3, 4, 0] rfl)
            · have b_267 := z_fltF c_23
              refine lv_aload_n hx hb dX12_tray_50 rfl (lv_at hl 0 rfl) ?_
              refine lv_bipush (v := 6) hx hb dX12_tray_51 (by decide) ?_
              refine z_callVi (As := [.int 6]) (rest := []) (wr := [(a_traySort, .inl (cA.1 0, 4, .inl g_traySort)), (a_trayMany, .inl (cA.1 0, 4, .inl g_trayMany)), (a_numbers, .inl (cA.1 1, 240, .inr (.inl g_numbers)))]) ⟨hx, hb, hml, hown, hts⟩ hK hE hT hP hD hS hA (r_no l G cA h0 0 0 m_above m_under a_traySort a_trayMany a_numbers a_tape m_taped m_textEnd m_faultKind m_faultAt m_bad m_badAt m_token m_at m_behind m_number m_letters m_word a_c a_words m_markMany a_there a_tried a_best a_found m_thereMany m_foundMany m_orderHow m_orderRing m_orderMany m_hasBest m_bestTop m_bestBy a_weights a_shared m_random m_truePlace m_trueWay m_seconds m_done m_feelings m_tries m_leftOver m_playDoor m_playRing m_isOpen m_isOver m_wasTried m_hasPlayed a_feltNow a_last a_kept m_hasSeconds m_hasTurned m_hasRound a_hasFeels a_isOn m_firstAct m_meanTop m_meanBy a_order m_rowMany m_newSteps 6) lk_RX12_97 ⟨rfl, rfl⟩ ⟨Nat.le_of_ble_eq_true rfl, Nat.le_of_ble_eq_true rfl⟩ 12 rfl rfl rfl [0] [1, 2, 3] rfl rfl (by decide) rfl hl.1 rfl (lv_room (Nat.le_of_ble_eq_true rfl)) dX12_tray_53 ⟨Nat.le_of_ble_eq_true rfl, Nat.le_of_ble_eq_true rfl⟩ (fun r_269 u_270 H locs hw hP hD hS => ?_)
              obtain ⟨n_268, rfl⟩ : ∃ z, z = u_270 := ⟨_, rfl⟩
              obtain ⟨rfl, -⟩ := hw
              have hpost : ((0 : Int32) = 0 ∧ (0 ≤ (0 : Int32).toInt ∧ (0 : Int32).toInt ≤ 0) ∧ (zRg 4 (-1) 60 g_trayMany) ∧ (¬ trOK t ss nn) ∧ (zTyA t ss nn g_traySort g_trayMany g_traySort g_trayMany)) ∨ ((0 : Int32) = 1 ∧ (0 ≤ n_268.toInt ∧ n_268.toInt ≤ 0) ∧ (0 ≤ (0 : Int32).toInt ∧ (0 : Int32).toInt ≤ 0) ∧ (zRg 4 (-1) 60 g_trayMany) ∧ (trOK t ss nn) ∧ (zTyA t ss nn g_traySort g_trayMany g_traySort g_trayMany)) := (Or.inl ⟨rfl, ⟨(by decide +kernel), hC_g_trayMany, (by unfold trOK; omega), (zTyA_n (by unfold trOK; omega))⟩⟩)
              exact hret _ _ _ _ _ _ (n_268, 0, g_traySort, g_trayMany, g_numbers) [3, 0, 1, 2] hP hD hS rfl (by decide) dX12_tray_56 (Or.inl rfl) hpost
          · have b_271 := z_fgtF c_21
            refine lv_aload_n hx hb dX12_tray_40 rfl (lv_at hl 0 rfl) ?_
            refine lv_iconst (v := 5) hx hb dX12_tray_41 (by decide) ?_
            refine z_callVi (As := [.int 5]) (rest := []) (wr := [(a_traySort, .inl (cA.1 0, 4, .inl g_traySort)), (a_trayMany, .inl (cA.1 0, 4, .inl g_trayMany)), (a_numbers, .inl (cA.1 1, 240, .inr (.inl g_numbers)))]) ⟨hx, hb, hml, hown, hts⟩ hK hE hT hP hD hS hA (r_no l G cA h0 0 0 m_above m_under a_traySort a_trayMany a_numbers a_tape m_taped m_textEnd m_faultKind m_faultAt m_bad m_badAt m_token m_at m_behind m_number m_letters m_word a_c a_words m_markMany a_there a_tried a_best a_found m_thereMany m_foundMany m_orderHow m_orderRing m_orderMany m_hasBest m_bestTop m_bestBy a_weights a_shared m_random m_truePlace m_trueWay m_seconds m_done m_feelings m_tries m_leftOver m_playDoor m_playRing m_isOpen m_isOver m_wasTried m_hasPlayed a_feltNow a_last a_kept m_hasSeconds m_hasTurned m_hasRound a_hasFeels a_isOn m_firstAct m_meanTop m_meanBy a_order m_rowMany m_newSteps 5) lk_RX12_97 ⟨rfl, rfl⟩ ⟨Nat.le_of_ble_eq_true rfl, Nat.le_of_ble_eq_true rfl⟩ 12 rfl rfl rfl [0] [1, 2, 3] rfl rfl (by decide) rfl hl.1 rfl (lv_room (Nat.le_of_ble_eq_true rfl)) dX12_tray_42 ⟨Nat.le_of_ble_eq_true rfl, Nat.le_of_ble_eq_true rfl⟩ (fun r_273 u_274 H locs hw hP hD hS => ?_)
            obtain ⟨n_272, rfl⟩ : ∃ z, z = u_274 := ⟨_, rfl⟩
            obtain ⟨rfl, -⟩ := hw
            have hpost : ((0 : Int32) = 0 ∧ (0 ≤ (0 : Int32).toInt ∧ (0 : Int32).toInt ≤ 0) ∧ (zRg 4 (-1) 60 g_trayMany) ∧ (¬ trOK t ss nn) ∧ (zTyA t ss nn g_traySort g_trayMany g_traySort g_trayMany)) ∨ ((0 : Int32) = 1 ∧ (0 ≤ n_272.toInt ∧ n_272.toInt ≤ 0) ∧ (0 ≤ (0 : Int32).toInt ∧ (0 : Int32).toInt ≤ 0) ∧ (zRg 4 (-1) 60 g_trayMany) ∧ (trOK t ss nn) ∧ (zTyA t ss nn g_traySort g_trayMany g_traySort g_trayMany)) := (Or.inl ⟨rfl, ⟨(by decide +kernel), hC_g_trayMany, (by unfold trOK; omega), (zTyA_n (by unfold trOK; omega))⟩⟩)
            exact hret _ _ _ _ _ _ (n_272, 0, g_traySort, g_trayMany, g_numbers) [3, 0, 1, 2] hP hD hS rfl (by decide) dX12_tray_45 (Or.inl rfl) hpost
        · have b_275 := z_fgtF c_19
          refine lv_aload_n hx hb dX12_tray_28 rfl (lv_at hl 0 rfl) ?_
          refine lv_iconst (v := 1) hx hb dX12_tray_29 (by decide) ?_
          refine z_callVi (As := [.int 1]) (rest := []) (wr := [(a_traySort, .inl (cA.1 0, 4, .inl g_traySort)), (a_trayMany, .inl (cA.1 0, 4, .inl g_trayMany)), (a_numbers, .inl (cA.1 1, 240, .inr (.inl g_numbers)))]) ⟨hx, hb, hml, hown, hts⟩ hK hE hT hP hD hS hA (r_no l G cA h0 0 0 m_above m_under a_traySort a_trayMany a_numbers a_tape m_taped m_textEnd m_faultKind m_faultAt m_bad m_badAt m_token m_at m_behind m_number m_letters m_word a_c a_words m_markMany a_there a_tried a_best a_found m_thereMany m_foundMany m_orderHow m_orderRing m_orderMany m_hasBest m_bestTop m_bestBy a_weights a_shared m_random m_truePlace m_trueWay m_seconds m_done m_feelings m_tries m_leftOver m_playDoor m_playRing m_isOpen m_isOver m_wasTried m_hasPlayed a_feltNow a_last a_kept m_hasSeconds m_hasTurned m_hasRound a_hasFeels a_isOn m_firstAct m_meanTop m_meanBy a_order m_rowMany m_newSteps 1) lk_RX12_97 ⟨rfl, rfl⟩ ⟨Nat.le_of_ble_eq_true rfl, Nat.le_of_ble_eq_true rfl⟩ 12 rfl rfl rfl [0] [1, 2, 3] rfl rfl (by decide) rfl hl.1 rfl (lv_room (Nat.le_of_ble_eq_true rfl)) dX12_tray_30 ⟨Nat.le_of_ble_eq_true rfl, Nat.le_of_ble_eq_true rfl⟩ (fun r_277 u_278 H locs hw hP hD hS => ?_)
          obtain ⟨n_276, rfl⟩ : ∃ z, z = u_278 := ⟨_, rfl⟩
          obtain ⟨rfl, -⟩ := hw
          have hpost : ((0 : Int32) = 0 ∧ (0 ≤ (0 : Int32).toInt ∧ (0 : Int32).toInt ≤ 0) ∧ (zRg 4 (-1) 60 g_trayMany) ∧ (¬ trOK t ss nn) ∧ (zTyA t ss nn g_traySort g_trayMany g_traySort g_trayMany)) ∨ ((0 : Int32) = 1 ∧ (0 ≤ n_276.toInt ∧ n_276.toInt ≤ 0) ∧ (0 ≤ (0 : Int32).toInt ∧ (0 : Int32).toInt ≤ 0) ∧ (zRg 4 (-1) 60 g_trayMany) ∧ (trOK t ss nn) ∧ (zTyA t ss nn g_traySort g_trayMany g_traySort g_trayMany)) := (Or.inl ⟨rfl, ⟨(by decide +kernel), hC_g_trayMany, (by unfold trOK; omega), (zTyA_n (by unfold trOK; omega))⟩⟩)
          exact hret _ _ _ _ _ _ (n_276, 0, g_traySort, g_trayMany, g_numbers) [3, 0, 1, 2] hP hD hS rfl (by decide) dX12_tray_33 (Or.inl rfl) hpost
set_option maxHeartbeats 4000000 in
set_option maxRecDepth 100000 in
theorem r_numberOf (l : Launch) (G : va_G) (cA : zCA) (h0 : Nat) (m_status : Int32) (m_thrown : Int32) (m_above : Int64) (m_under : Int64) (a_traySort : Nat) (a_trayMany : Nat) (a_numbers : Nat) (a_tape : Nat) (m_taped : Int32) (m_textEnd : Int32) (m_faultKind : Int32) (m_faultAt : Int32) (m_bad : Int32) (m_badAt : Int32) (m_token : Int32) (m_at : Int32) (m_behind : Int32) (m_number : Int32) (m_letters : Int32) (m_word : Int64) (a_c : Nat) (a_words : Nat) (m_markMany : Int32) (a_there : Nat) (a_tried : Nat) (a_best : Nat) (a_found : Nat) (m_thereMany : Int32) (m_foundMany : Int32) (m_orderHow : Int32) (m_orderRing : Int32) (m_orderMany : Int32) (m_hasBest : Int32) (m_bestTop : Int64) (m_bestBy : Int64) (a_weights : Nat) (a_shared : Nat) (m_random : Int32) (m_truePlace : Int32) (m_trueWay : Int32) (m_seconds : Int32) (m_done : Int32) (m_feelings : Int32) (m_tries : Int32) (m_leftOver : Int32) (m_playDoor : Int32) (m_playRing : Int32) (m_isOpen : Int32) (m_isOver : Int32) (m_wasTried : Int32) (m_hasPlayed : Int32) (a_feltNow : Nat) (a_last : Nat) (a_kept : Nat) (m_hasSeconds : Int32) (m_hasTurned : Int32) (m_hasRound : Int32) (a_hasFeels : Nat) (a_isOn : Nat) (m_firstAct : Int32) (m_meanTop : Int64) (m_meanBy : Int64) (a_order : Nat) (m_rowMany : Int32) (m_newSteps : Int32) (g_numbers : Nat → Int64) (t : Int32) (k : Int32) (hr_t : 0 ≤ t.toInt ∧ t.toInt ≤ 3) (hr_k : 0 ≤ k.toInt ∧ k.toInt ≤ 59) : zCl l yX12_numberOf cX12_numberOf 3 (some .long) ({ frames := 0, cells := 0, slots := 0, locals := 0 }) G cA [.ref h0, .int t, .int k] [(h0, .inr (12, [.int m_status, .int m_thrown, .long m_above, .long m_under, .ref a_traySort, .ref a_trayMany, .ref a_numbers, .ref a_tape, .int m_taped, .int m_textEnd, .int m_faultKind, .int m_faultAt, .int m_bad, .int m_badAt, .int m_token, .int m_at, .int m_behind, .int m_number, .int m_letters, .long m_word, .ref a_c, .ref a_words, .int m_markMany, .ref a_there, .ref a_tried, .ref a_best, .ref a_found, .int m_thereMany, .int m_foundMany, .int m_orderHow, .int m_orderRing, .int m_orderMany, .int m_hasBest, .long m_bestTop, .long m_bestBy, .ref a_weights, .ref a_shared, .int m_random, .int m_truePlace, .int m_trueWay, .int m_seconds, .int m_done, .int m_feelings, .int m_tries, .int m_leftOver, .int m_playDoor, .int m_playRing, .int m_isOpen, .int m_isOver, .int m_wasTried, .int m_hasPlayed, .ref a_feltNow, .ref a_last, .ref a_kept, .int m_hasSeconds, .int m_hasTurned, .int m_hasRound, .ref a_hasFeels, .ref a_isOn, .int m_firstAct, .long m_meanTop, .long m_meanBy, .ref a_order, .int m_rowMany, .int m_newSteps])), (a_numbers, .inl (cA.1 1, 240, .inr (.inl g_numbers)))] (S := Unit) (fun (r : Int64) (u : Unit) => (r = g_numbers (60 * t.toInt.toNat + k.toInt.toNat))) (fun (u : Unit) => [(h0, .inr (12, [.int m_status, .int m_thrown, .long m_above, .long m_under, .ref a_traySort, .ref a_trayMany, .ref a_numbers, .ref a_tape, .int m_taped, .int m_textEnd, .int m_faultKind, .int m_faultAt, .int m_bad, .int m_badAt, .int m_token, .int m_at, .int m_behind, .int m_number, .int m_letters, .long m_word, .ref a_c, .ref a_words, .int m_markMany, .ref a_there, .ref a_tried, .ref a_best, .ref a_found, .int m_thereMany, .int m_foundMany, .int m_orderHow, .int m_orderRing, .int m_orderMany, .int m_hasBest, .long m_bestTop, .long m_bestBy, .ref a_weights, .ref a_shared, .int m_random, .int m_truePlace, .int m_trueWay, .int m_seconds, .int m_done, .int m_feelings, .int m_tries, .int m_leftOver, .int m_playDoor, .int m_playRing, .int m_isOpen, .int m_isOver, .int m_wasTried, .int m_hasPlayed, .ref a_feltNow, .ref a_last, .ref a_kept, .int m_hasSeconds, .int m_hasTurned, .int m_hasRound, .ref a_hasFeels, .ref a_isOn, .int m_firstAct, .long m_meanTop, .long m_meanBy, .ref a_order, .int m_rowMany, .int m_newSteps])), (a_numbers, .inl (cA.1 1, 240, .inr (.inl g_numbers)))]) 0 0 := by
  have hk_60 : (60 : Int32).toInt = 60 := by decide +kernel
  refine z_start2l (own := RX12) (by decide) (Nat.le_of_ble_eq_true rfl) rfl ?_
  intro p e s m args below meth c A ls Q hx hb hml hts hown hK hE hT hP hD hS hA hl hret
  have hl : lv_has ls 3 [(0, .ref h0), (1, .int t), (2, .int k)] := hl
  refine lv_aload_n hx hb dX12_numberOf_0 rfl (lv_at hl 0 rfl) ?_
  refine va_get (D := G) (ci := 12) (v := .ref a_numbers) (C := RX12) (T := TX12) (N := 65) hx hb hts inT12 hown hK hP 0 rfl rfl 6 (by decide) (hts _ tw_1891) (fun _ h9 => h9) rfl dX12_numberOf_1 ?_
  refine lv_bipush (v := 60) hx hb dX12_numberOf_4 (by decide) ?_
  refine lv_iload_n hx hb dX12_numberOf_6 rfl (lv_at hl 1 rfl) ?_
  refine lv_imul hx hb dX12_numberOf_7 ?_
  refine lv_topi (fun x_1 he_x_1 => ?_)
  have hq_x_1 := z_mulq he_x_1 hk_60 (rfl : t.toInt = _) (by omega) (by omega)
  refine lv_iload_n hx hb dX12_numberOf_8 rfl (lv_at hl 2 rfl) ?_
  refine lv_iadd hx hb dX12_numberOf_9 ?_
  refine lv_topi (fun x_2 he_x_2 => ?_)
  have hq_x_2 := z_addq he_x_2 (rfl : x_1.toInt = _) (rfl : k.toInt = _) (by omega) (by omega)
  refine va_lald hx hb hK hP 1 1 rfl rfl (z_inN (by omega) (by omega)) dX12_numberOf_10 ?_
  refine lv_topl (fun x_3 he_x_3 => ?_)
  have hpost : (x_3 = g_numbers (60 * t.toInt.toNat + k.toInt.toNat)) := (z_atl he_x_3 (by omega))
  exact hret _ _ _ _ _ _ () [0, 1] hP hD hS rfl (by decide) dX12_numberOf_11 hpost
set_option maxHeartbeats 4000000 in
set_option maxRecDepth 100000 in
theorem r_write (l : Launch) (G : va_G) (cA : zCA) (h0 : Nat) (m_status : Int32) (m_thrown : Int32) (m_above : Int64) (m_under : Int64) (a_traySort : Nat) (a_trayMany : Nat) (a_numbers : Nat) (a_tape : Nat) (m_taped : Int32) (m_textEnd : Int32) (m_faultKind : Int32) (m_faultAt : Int32) (m_bad : Int32) (m_badAt : Int32) (m_token : Int32) (m_at : Int32) (m_behind : Int32) (m_number : Int32) (m_letters : Int32) (m_word : Int64) (a_c : Nat) (a_words : Nat) (m_markMany : Int32) (a_there : Nat) (a_tried : Nat) (a_best : Nat) (a_found : Nat) (m_thereMany : Int32) (m_foundMany : Int32) (m_orderHow : Int32) (m_orderRing : Int32) (m_orderMany : Int32) (m_hasBest : Int32) (m_bestTop : Int64) (m_bestBy : Int64) (a_weights : Nat) (a_shared : Nat) (m_random : Int32) (m_truePlace : Int32) (m_trueWay : Int32) (m_seconds : Int32) (m_done : Int32) (m_feelings : Int32) (m_tries : Int32) (m_leftOver : Int32) (m_playDoor : Int32) (m_playRing : Int32) (m_isOpen : Int32) (m_isOver : Int32) (m_wasTried : Int32) (m_hasPlayed : Int32) (a_feltNow : Nat) (a_last : Nat) (a_kept : Nat) (m_hasSeconds : Int32) (m_hasTurned : Int32) (m_hasRound : Int32) (a_hasFeels : Nat) (a_isOn : Nat) (m_firstAct : Int32) (m_meanTop : Int64) (m_meanBy : Int64) (a_order : Nat) (m_rowMany : Int32) (m_newSteps : Int32) (g_traySort : Nat → Int32) (g_trayMany : Nat → Int32) (g_numbers : Nat → Int64) (t : Int32) (k : Int32) (v : Int64) (hC_g_trayMany : zRg 4 (-1) 60 g_trayMany) : zCi l yX12_write cX12_write 5 (some .boolean) ({ frames := 2, cells := 0, slots := 0, locals := 44 }) G cA [.ref h0, .int t, .int k, .long v] [(h0, .inr (12, [.int m_status, .int m_thrown, .long m_above, .long m_under, .ref a_traySort, .ref a_trayMany, .ref a_numbers, .ref a_tape, .int m_taped, .int m_textEnd, .int m_faultKind, .int m_faultAt, .int m_bad, .int m_badAt, .int m_token, .int m_at, .int m_behind, .int m_number, .int m_letters, .long m_word, .ref a_c, .ref a_words, .int m_markMany, .ref a_there, .ref a_tried, .ref a_best, .ref a_found, .int m_thereMany, .int m_foundMany, .int m_orderHow, .int m_orderRing, .int m_orderMany, .int m_hasBest, .long m_bestTop, .long m_bestBy, .ref a_weights, .ref a_shared, .int m_random, .int m_truePlace, .int m_trueWay, .int m_seconds, .int m_done, .int m_feelings, .int m_tries, .int m_leftOver, .int m_playDoor, .int m_playRing, .int m_isOpen, .int m_isOver, .int m_wasTried, .int m_hasPlayed, .ref a_feltNow, .ref a_last, .ref a_kept, .int m_hasSeconds, .int m_hasTurned, .int m_hasRound, .ref a_hasFeels, .ref a_isOn, .int m_firstAct, .long m_meanTop, .long m_meanBy, .ref a_order, .int m_rowMany, .int m_newSteps])), (a_traySort, .inl (cA.1 0, 4, .inl g_traySort)), (a_trayMany, .inl (cA.1 0, 4, .inl g_trayMany)), (a_numbers, .inl (cA.1 1, 240, .inr (.inl g_numbers)))] (S := Int32 × Int32 × (Nat → Int64)) (fun (r : Int32) (u : Int32 × Int32 × (Nat → Int64)) => (r = 0 ∧ (1 ≤ u.1.toInt ∧ u.1.toInt ≤ 4) ∧ (0 ≤ u.2.1.toInt ∧ u.2.1.toInt ≤ 0) ∧ (¬ zOk1 t k (g_trayMany 0) (g_trayMany 1) (g_trayMany 2) (g_trayMany 3))) ∨ (r = 1 ∧ (0 ≤ u.1.toInt ∧ u.1.toInt ≤ 0) ∧ (0 ≤ u.2.1.toInt ∧ u.2.1.toInt ≤ 0) ∧ (zOk1 t k (g_trayMany 0) (g_trayMany 1) (g_trayMany 2) (g_trayMany 3)))) (fun (u : Int32 × Int32 × (Nat → Int64)) => [(h0, .inr (12, [.int u.1, .int u.2.1, .long m_above, .long m_under, .ref a_traySort, .ref a_trayMany, .ref a_numbers, .ref a_tape, .int m_taped, .int m_textEnd, .int m_faultKind, .int m_faultAt, .int m_bad, .int m_badAt, .int m_token, .int m_at, .int m_behind, .int m_number, .int m_letters, .long m_word, .ref a_c, .ref a_words, .int m_markMany, .ref a_there, .ref a_tried, .ref a_best, .ref a_found, .int m_thereMany, .int m_foundMany, .int m_orderHow, .int m_orderRing, .int m_orderMany, .int m_hasBest, .long m_bestTop, .long m_bestBy, .ref a_weights, .ref a_shared, .int m_random, .int m_truePlace, .int m_trueWay, .int m_seconds, .int m_done, .int m_feelings, .int m_tries, .int m_leftOver, .int m_playDoor, .int m_playRing, .int m_isOpen, .int m_isOver, .int m_wasTried, .int m_hasPlayed, .ref a_feltNow, .ref a_last, .ref a_kept, .int m_hasSeconds, .int m_hasTurned, .int m_hasRound, .ref a_hasFeels, .ref a_isOn, .int m_firstAct, .long m_meanTop, .long m_meanBy, .ref a_order, .int m_rowMany, .int m_newSteps])), (a_traySort, .inl (cA.1 0, 4, .inl g_traySort)), (a_trayMany, .inl (cA.1 0, 4, .inl g_trayMany)), (a_numbers, .inl (cA.1 1, 240, .inr (.inl u.2.2)))]) 0 0 := by
  have hk_0 : (0 : Int32).toInt = 0 := by decide +kernel
  have hk_60 : (60 : Int32).toInt = 60 := by decide +kernel
  refine z_start2z (own := RX12) (by decide) (Nat.le_of_ble_eq_true rfl) rfl ?_
  intro p e s m args below meth c A ls Q hx hb hml hts hown hK hE hT hP hD hS hA hl hret
  have hl : lv_has ls 5 [(0, .ref h0), (1, .int t), (2, .int k), (3, .long v)] := hl
  refine lv_aload_n hx hb dX12_write_0 rfl (lv_at hl 0 rfl) ?_
  refine lv_iconst (v := 0) hx hb dX12_write_1 (by decide) ?_
  refine va_put (D := G) (ci := 12) (v := .int 0) (ty := .int) (C := RX12) (T := TX12) (N := 65) hx hb hts inT12 tyX12 tyX12_ok nmX12 hown hK hP hD hS 0 rfl rfl 1 (by decide) (hts _ tw_1886) (fun _ h9 => h9) rfl (tyX12_ok 1 (by decide)) rfl rfl (Nat.le_of_ble_eq_true rfl) dX12_write_2 (fun H locs hP hD hS => ?_)
  refine lv_aload_n hx hb dX12_write_5 rfl (lv_at hl 0 rfl) ?_
  refine lv_aload_n hx hb dX12_write_6 rfl (lv_at hl 0 rfl) ?_
  refine lv_iload_n hx hb dX12_write_7 rfl (lv_at hl 1 rfl) ?_
  refine lv_iload_n hx hb dX12_write_8 rfl (lv_at hl 2 rfl) ?_
  refine z_callVi (As := [.int t, .int k]) (rest := [.ref h0]) (wr := [(a_traySort, .inl (cA.1 0, 4, .inl g_traySort)), (a_numbers, .inl (cA.1 1, 240, .inr (.inl g_numbers)))]) ⟨hx, hb, hml, hown, hts⟩ hK hE hT hP hD hS hA (r_placed l G cA h0 m_status 0 m_above m_under a_traySort a_trayMany a_numbers a_tape m_taped m_textEnd m_faultKind m_faultAt m_bad m_badAt m_token m_at m_behind m_number m_letters m_word a_c a_words m_markMany a_there a_tried a_best a_found m_thereMany m_foundMany m_orderHow m_orderRing m_orderMany m_hasBest m_bestTop m_bestBy a_weights a_shared m_random m_truePlace m_trueWay m_seconds m_done m_feelings m_tries m_leftOver m_playDoor m_playRing m_isOpen m_isOver m_wasTried m_hasPlayed a_feltNow a_last a_kept m_hasSeconds m_hasTurned m_hasRound a_hasFeels a_isOn m_firstAct m_meanTop m_meanBy a_order m_rowMany m_newSteps g_trayMany t k hC_g_trayMany) lk_RX12_105 ⟨rfl, rfl⟩ ⟨Nat.le_of_ble_eq_true rfl, Nat.le_of_ble_eq_true rfl⟩ 12 rfl rfl rfl [0, 2] [1, 3] rfl rfl (by decide) rfl hl.1 rfl (lv_room (Nat.le_of_ble_eq_true rfl)) dX12_write_9 ⟨Nat.le_of_ble_eq_true rfl, Nat.le_of_ble_eq_true rfl⟩ (fun r_1 u_2 H locs hw hP hD hS => ?_)
  obtain ⟨hr_r_1, hf_3, hf_4⟩ := hw
  have hu_r_1 := zPd_o hf_4
  refine va_put (D := G) (ci := 12) (v := .int r_1) (ty := .int) (C := RX12) (T := TX12) (N := 65) hx hb hts inT12 tyX12 tyX12_ok nmX12 hown hK hP hD hS 2 rfl rfl 0 (by decide) (hts _ tw_1885) (fun _ h9 => h9) rfl (tyX12_ok 0 (by decide)) rfl rfl (Nat.le_of_ble_eq_true rfl) dX12_write_12 (fun H locs hP hD hS => ?_)
  refine lv_aload_n hx hb dX12_write_15 rfl (lv_at hl 0 rfl) ?_
  refine va_get (D := G) (ci := 12) (v := .int r_1) (C := RX12) (T := TX12) (N := 65) hx hb hts inT12 hown hK hP 2 rfl rfl 0 (by decide) (hts _ tw_1885) (fun _ h9 => h9) rfl dX12_write_16 ?_
  refine lv_if_le (tgt := 24) hx hb dX12_write_19 (by decide) (fun c_5 => ?_) (fun c_5 => ?_)
  · have b_6 := z_fleT c_5
    have hn_k_7 : 0 ≤ t.toInt ∧ t.toInt ≤ 3 := by omega
    have hn_k_8 : 0 ≤ k.toInt ∧ k.toInt ≤ 59 := by omega
    refine lv_aload_n hx hb dX12_write_24 rfl (lv_at hl 0 rfl) ?_
    refine va_get (D := G) (ci := 12) (v := .ref a_numbers) (C := RX12) (T := TX12) (N := 65) hx hb hts inT12 hown hK hP 2 rfl rfl 6 (by decide) (hts _ tw_1891) (fun _ h9 => h9) rfl dX12_write_25 ?_
    refine lv_bipush (v := 60) hx hb dX12_write_28 (by decide) ?_
    refine lv_iload_n hx hb dX12_write_30 rfl (lv_at hl 1 rfl) ?_
    refine lv_imul hx hb dX12_write_31 ?_
    refine lv_topi (fun x_9 he_x_9 => ?_)
    have hq_x_9 := z_mulq he_x_9 hk_60 (rfl : t.toInt = _) (by omega) (by omega)
    refine lv_iload_n hx hb dX12_write_32 rfl (lv_at hl 2 rfl) ?_
    refine lv_iadd hx hb dX12_write_33 ?_
    refine lv_topi (fun x_10 he_x_10 => ?_)
    have hq_x_10 := z_addq he_x_10 (rfl : x_9.toInt = _) (rfl : k.toInt = _) (by omega) (by omega)
    refine lv_aload_n hx hb dX12_write_34 rfl (lv_at hl 0 rfl) ?_
    refine va_get (D := G) (ci := 12) (v := .ref a_traySort) (C := RX12) (T := TX12) (N := 65) hx hb hts inT12 hown hK hP 2 rfl rfl 4 (by decide) (hts _ tw_1889) (fun _ h9 => h9) rfl dX12_write_35 ?_
    refine lv_iload_n hx hb dX12_write_38 rfl (lv_at hl 1 rfl) ?_
    refine va_iald hx hb hK hP 0 0 rfl rfl (z_inN (by omega) (by omega)) dX12_write_39 ?_
    refine lv_topi (fun x_11 he_x_11 => ?_)
    refine lv_lload_n hx hb dX12_write_40 rfl (lv_at hl 3 rfl) ?_
    refine z_callSl (As := [.int x_11, .long v]) (rest := [.int x_10, .ref a_numbers]) (wr := [(a_traySort, .inl (cA.1 0, 4, .inl g_traySort)), (a_numbers, .inl (cA.1 1, 240, .inr (.inl g_numbers))), (h0, .inr (12, [.int r_1, .int 0, .long m_above, .long m_under, .ref a_traySort, .ref a_trayMany, .ref a_numbers, .ref a_tape, .int m_taped, .int m_textEnd, .int m_faultKind, .int m_faultAt, .int m_bad, .int m_badAt, .int m_token, .int m_at, .int m_behind, .int m_number, .int m_letters, .long m_word, .ref a_c, .ref a_words, .int m_markMany, .ref a_there, .ref a_tried, .ref a_best, .ref a_found, .int m_thereMany, .int m_foundMany, .int m_orderHow, .int m_orderRing, .int m_orderMany, .int m_hasBest, .long m_bestTop, .long m_bestBy, .ref a_weights, .ref a_shared, .int m_random, .int m_truePlace, .int m_trueWay, .int m_seconds, .int m_done, .int m_feelings, .int m_tries, .int m_leftOver, .int m_playDoor, .int m_playRing, .int m_isOpen, .int m_isOver, .int m_wasTried, .int m_hasPlayed, .ref a_feltNow, .ref a_last, .ref a_kept, .int m_hasSeconds, .int m_hasTurned, .int m_hasRound, .ref a_hasFeels, .ref a_isOn, .int m_firstAct, .long m_meanTop, .long m_meanBy, .ref a_order, .int m_rowMany, .int m_newSteps])), (a_trayMany, .inl (cA.1 0, 4, .inl g_trayMany))]) ⟨hx, hb, hml, hown, hts⟩ hK hE hT hP hD hS hA (r_cut l G cA x_11 v) lk_RX12_109 ⟨rfl, rfl⟩ ⟨Nat.le_of_ble_eq_true rfl, Nat.le_of_ble_eq_true rfl⟩ [] [0, 1, 2, 3] rfl rfl (by decide) rfl hl.1 rfl (lv_room (Nat.le_of_ble_eq_true rfl)) dX12_write_41 ⟨Nat.le_of_ble_eq_true rfl, Nat.le_of_ble_eq_true rfl⟩ (fun r_12 u_13 H locs hw hP hD hS => ?_)
    refine z_last hx hb hK hP hD hS 1 1 rfl rfl (z_inN (by omega) (by omega)) dX12_write_44 (fun g_14 hg_g_14 H locs hP hD hS => ?_)
    refine lv_iconst (v := 1) hx hb dX12_write_45 (by decide) ?_
    have hpost : ((1 : Int32) = 0 ∧ (1 ≤ r_1.toInt ∧ r_1.toInt ≤ 4) ∧ (0 ≤ (0 : Int32).toInt ∧ (0 : Int32).toInt ≤ 0) ∧ (¬ zOk1 t k (g_trayMany 0) (g_trayMany 1) (g_trayMany 2) (g_trayMany 3))) ∨ ((1 : Int32) = 1 ∧ (0 ≤ r_1.toInt ∧ r_1.toInt ≤ 0) ∧ (0 ≤ (0 : Int32).toInt ∧ (0 : Int32).toInt ≤ 0) ∧ (zOk1 t k (g_trayMany 0) (g_trayMany 1) (g_trayMany 2) (g_trayMany 3))) := (Or.inr ⟨rfl, ⟨(by omega), (by decide +kernel), (zPd_y hf_4 (by omega))⟩⟩)
    exact hret _ _ _ _ _ _ (r_1, 0, g_14) [2, 0, 3, 1] hP hD hS rfl (by decide) dX12_write_46 (Or.inr rfl) hpost
  · have b_15 := z_fgtF c_5
    refine lv_iconst (v := 0) hx hb dX12_write_22 (by decide) ?_
    have hpost : ((0 : Int32) = 0 ∧ (1 ≤ r_1.toInt ∧ r_1.toInt ≤ 4) ∧ (0 ≤ (0 : Int32).toInt ∧ (0 : Int32).toInt ≤ 0) ∧ (¬ zOk1 t k (g_trayMany 0) (g_trayMany 1) (g_trayMany 2) (g_trayMany 3))) ∨ ((0 : Int32) = 1 ∧ (0 ≤ r_1.toInt ∧ r_1.toInt ≤ 0) ∧ (0 ≤ (0 : Int32).toInt ∧ (0 : Int32).toInt ≤ 0) ∧ (zOk1 t k (g_trayMany 0) (g_trayMany 1) (g_trayMany 2) (g_trayMany 3))) := (Or.inl ⟨rfl, ⟨(by omega), (by decide +kernel), (zPd_n hf_4 (by omega))⟩⟩)
    exact hret _ _ _ _ _ _ (r_1, 0, g_numbers) [2, 0, 3, 1] hP hD hS rfl (by decide) dX12_write_23 (Or.inl rfl) hpost
set_option maxHeartbeats 4000000 in
set_option maxRecDepth 100000 in
theorem r_read (l : Launch) (G : va_G) (cA : zCA) (h0 : Nat) (m_status : Int32) (m_thrown : Int32) (m_above : Int64) (m_under : Int64) (a_traySort : Nat) (a_trayMany : Nat) (a_numbers : Nat) (a_tape : Nat) (m_taped : Int32) (m_textEnd : Int32) (m_faultKind : Int32) (m_faultAt : Int32) (m_bad : Int32) (m_badAt : Int32) (m_token : Int32) (m_at : Int32) (m_behind : Int32) (m_number : Int32) (m_letters : Int32) (m_word : Int64) (a_c : Nat) (a_words : Nat) (m_markMany : Int32) (a_there : Nat) (a_tried : Nat) (a_best : Nat) (a_found : Nat) (m_thereMany : Int32) (m_foundMany : Int32) (m_orderHow : Int32) (m_orderRing : Int32) (m_orderMany : Int32) (m_hasBest : Int32) (m_bestTop : Int64) (m_bestBy : Int64) (a_weights : Nat) (a_shared : Nat) (m_random : Int32) (m_truePlace : Int32) (m_trueWay : Int32) (m_seconds : Int32) (m_done : Int32) (m_feelings : Int32) (m_tries : Int32) (m_leftOver : Int32) (m_playDoor : Int32) (m_playRing : Int32) (m_isOpen : Int32) (m_isOver : Int32) (m_wasTried : Int32) (m_hasPlayed : Int32) (a_feltNow : Nat) (a_last : Nat) (a_kept : Nat) (m_hasSeconds : Int32) (m_hasTurned : Int32) (m_hasRound : Int32) (a_hasFeels : Nat) (a_isOn : Nat) (m_firstAct : Int32) (m_meanTop : Int64) (m_meanBy : Int64) (a_order : Nat) (m_rowMany : Int32) (m_newSteps : Int32) (g_trayMany : Nat → Int32) (g_numbers : Nat → Int64) (t : Int32) (k : Int32) (hC_g_trayMany : zRg 4 (-1) 60 g_trayMany) : zCl l yX12_read cX12_read 3 (some .long) ({ frames := 2, cells := 0, slots := 0, locals := 44 }) G cA [.ref h0, .int t, .int k] [(h0, .inr (12, [.int m_status, .int m_thrown, .long m_above, .long m_under, .ref a_traySort, .ref a_trayMany, .ref a_numbers, .ref a_tape, .int m_taped, .int m_textEnd, .int m_faultKind, .int m_faultAt, .int m_bad, .int m_badAt, .int m_token, .int m_at, .int m_behind, .int m_number, .int m_letters, .long m_word, .ref a_c, .ref a_words, .int m_markMany, .ref a_there, .ref a_tried, .ref a_best, .ref a_found, .int m_thereMany, .int m_foundMany, .int m_orderHow, .int m_orderRing, .int m_orderMany, .int m_hasBest, .long m_bestTop, .long m_bestBy, .ref a_weights, .ref a_shared, .int m_random, .int m_truePlace, .int m_trueWay, .int m_seconds, .int m_done, .int m_feelings, .int m_tries, .int m_leftOver, .int m_playDoor, .int m_playRing, .int m_isOpen, .int m_isOver, .int m_wasTried, .int m_hasPlayed, .ref a_feltNow, .ref a_last, .ref a_kept, .int m_hasSeconds, .int m_hasTurned, .int m_hasRound, .ref a_hasFeels, .ref a_isOn, .int m_firstAct, .long m_meanTop, .long m_meanBy, .ref a_order, .int m_rowMany, .int m_newSteps])), (a_trayMany, .inl (cA.1 0, 4, .inl g_trayMany)), (a_numbers, .inl (cA.1 1, 240, .inr (.inl g_numbers)))] (S := Int32 × Int32) (fun (r : Int64) (u : Int32 × Int32) => (0 ≤ u.1.toInt ∧ u.1.toInt ≤ 4) ∧ (0 ≤ u.2.toInt ∧ u.2.toInt ≤ 0)) (fun (u : Int32 × Int32) => [(h0, .inr (12, [.int u.1, .int u.2, .long m_above, .long m_under, .ref a_traySort, .ref a_trayMany, .ref a_numbers, .ref a_tape, .int m_taped, .int m_textEnd, .int m_faultKind, .int m_faultAt, .int m_bad, .int m_badAt, .int m_token, .int m_at, .int m_behind, .int m_number, .int m_letters, .long m_word, .ref a_c, .ref a_words, .int m_markMany, .ref a_there, .ref a_tried, .ref a_best, .ref a_found, .int m_thereMany, .int m_foundMany, .int m_orderHow, .int m_orderRing, .int m_orderMany, .int m_hasBest, .long m_bestTop, .long m_bestBy, .ref a_weights, .ref a_shared, .int m_random, .int m_truePlace, .int m_trueWay, .int m_seconds, .int m_done, .int m_feelings, .int m_tries, .int m_leftOver, .int m_playDoor, .int m_playRing, .int m_isOpen, .int m_isOver, .int m_wasTried, .int m_hasPlayed, .ref a_feltNow, .ref a_last, .ref a_kept, .int m_hasSeconds, .int m_hasTurned, .int m_hasRound, .ref a_hasFeels, .ref a_isOn, .int m_firstAct, .long m_meanTop, .long m_meanBy, .ref a_order, .int m_rowMany, .int m_newSteps])), (a_trayMany, .inl (cA.1 0, 4, .inl g_trayMany)), (a_numbers, .inl (cA.1 1, 240, .inr (.inl g_numbers)))]) 0 0 := by
  have hk_0 : (0 : Int32).toInt = 0 := by decide +kernel
  have hk_60 : (60 : Int32).toInt = 60 := by decide +kernel
  refine z_start2l (own := RX12) (by decide) (Nat.le_of_ble_eq_true rfl) rfl ?_
  intro p e s m args below meth c A ls Q hx hb hml hts hown hK hE hT hP hD hS hA hl hret
  have hl : lv_has ls 3 [(0, .ref h0), (1, .int t), (2, .int k)] := hl
  refine lv_aload_n hx hb dX12_read_0 rfl (lv_at hl 0 rfl) ?_
  refine lv_iconst (v := 0) hx hb dX12_read_1 (by decide) ?_
  refine va_put (D := G) (ci := 12) (v := .int 0) (ty := .int) (C := RX12) (T := TX12) (N := 65) hx hb hts inT12 tyX12 tyX12_ok nmX12 hown hK hP hD hS 0 rfl rfl 1 (by decide) (hts _ tw_1886) (fun _ h9 => h9) rfl (tyX12_ok 1 (by decide)) rfl rfl (Nat.le_of_ble_eq_true rfl) dX12_read_2 (fun H locs hP hD hS => ?_)
  refine lv_aload_n hx hb dX12_read_5 rfl (lv_at hl 0 rfl) ?_
  refine lv_aload_n hx hb dX12_read_6 rfl (lv_at hl 0 rfl) ?_
  refine lv_iload_n hx hb dX12_read_7 rfl (lv_at hl 1 rfl) ?_
  refine lv_iload_n hx hb dX12_read_8 rfl (lv_at hl 2 rfl) ?_
  refine z_callVi (As := [.int t, .int k]) (rest := [.ref h0]) (wr := [(a_numbers, .inl (cA.1 1, 240, .inr (.inl g_numbers)))]) ⟨hx, hb, hml, hown, hts⟩ hK hE hT hP hD hS hA (r_placed l G cA h0 m_status 0 m_above m_under a_traySort a_trayMany a_numbers a_tape m_taped m_textEnd m_faultKind m_faultAt m_bad m_badAt m_token m_at m_behind m_number m_letters m_word a_c a_words m_markMany a_there a_tried a_best a_found m_thereMany m_foundMany m_orderHow m_orderRing m_orderMany m_hasBest m_bestTop m_bestBy a_weights a_shared m_random m_truePlace m_trueWay m_seconds m_done m_feelings m_tries m_leftOver m_playDoor m_playRing m_isOpen m_isOver m_wasTried m_hasPlayed a_feltNow a_last a_kept m_hasSeconds m_hasTurned m_hasRound a_hasFeels a_isOn m_firstAct m_meanTop m_meanBy a_order m_rowMany m_newSteps g_trayMany t k hC_g_trayMany) lk_RX12_105 ⟨rfl, rfl⟩ ⟨Nat.le_of_ble_eq_true rfl, Nat.le_of_ble_eq_true rfl⟩ 12 rfl rfl rfl [0, 1] [2] rfl rfl (by decide) rfl hl.1 rfl (lv_room (Nat.le_of_ble_eq_true rfl)) dX12_read_9 ⟨Nat.le_of_ble_eq_true rfl, Nat.le_of_ble_eq_true rfl⟩ (fun r_1 u_2 H locs hw hP hD hS => ?_)
  obtain ⟨hr_r_1, hf_3, hf_4⟩ := hw
  refine va_put (D := G) (ci := 12) (v := .int r_1) (ty := .int) (C := RX12) (T := TX12) (N := 65) hx hb hts inT12 tyX12 tyX12_ok nmX12 hown hK hP hD hS 1 rfl rfl 0 (by decide) (hts _ tw_1885) (fun _ h9 => h9) rfl (tyX12_ok 0 (by decide)) rfl rfl (Nat.le_of_ble_eq_true rfl) dX12_read_12 (fun H locs hP hD hS => ?_)
  refine lv_aload_n hx hb dX12_read_15 rfl (lv_at hl 0 rfl) ?_
  refine va_get (D := G) (ci := 12) (v := .int r_1) (C := RX12) (T := TX12) (N := 65) hx hb hts inT12 hown hK hP 1 rfl rfl 0 (by decide) (hts _ tw_1885) (fun _ h9 => h9) rfl dX12_read_16 ?_
  refine lv_if_le (tgt := 28) hx hb dX12_read_19 (by decide) (fun c_5 => ?_) (fun c_5 => ?_)
  · have b_6 := z_fleT c_5
    have hn_k_7 : 0 ≤ t.toInt ∧ t.toInt ≤ 3 := by omega
    have hn_k_8 : 0 ≤ k.toInt ∧ k.toInt ≤ 59 := by omega
    refine lv_aload_n hx hb dX12_read_28 rfl (lv_at hl 0 rfl) ?_
    refine va_get (D := G) (ci := 12) (v := .ref a_numbers) (C := RX12) (T := TX12) (N := 65) hx hb hts inT12 hown hK hP 1 rfl rfl 6 (by decide) (hts _ tw_1891) (fun _ h9 => h9) rfl dX12_read_29 ?_
    refine lv_bipush (v := 60) hx hb dX12_read_32 (by decide) ?_
    refine lv_iload_n hx hb dX12_read_34 rfl (lv_at hl 1 rfl) ?_
    refine lv_imul hx hb dX12_read_35 ?_
    refine lv_topi (fun x_9 he_x_9 => ?_)
    have hq_x_9 := z_mulq he_x_9 hk_60 (rfl : t.toInt = _) (by omega) (by omega)
    refine lv_iload_n hx hb dX12_read_36 rfl (lv_at hl 2 rfl) ?_
    refine lv_iadd hx hb dX12_read_37 ?_
    refine lv_topi (fun x_10 he_x_10 => ?_)
    have hq_x_10 := z_addq he_x_10 (rfl : x_9.toInt = _) (rfl : k.toInt = _) (by omega) (by omega)
    refine va_lald hx hb hK hP 0 1 rfl rfl (z_inN (by omega) (by omega)) dX12_read_38 ?_
    refine lv_topl (fun x_11 he_x_11 => ?_)
    have hpost : (0 ≤ r_1.toInt ∧ r_1.toInt ≤ 4) ∧ (0 ≤ (0 : Int32).toInt ∧ (0 : Int32).toInt ≤ 0) := ⟨hr_r_1, (by decide +kernel)⟩
    exact hret _ _ _ _ _ _ (r_1, 0) [1, 2, 0] hP hD hS rfl (by decide) dX12_read_39 hpost
  · have b_12 := z_fgtF c_5
    refine lv_ldc2 (v := (-1)) hx hb hown (hts _ tw_2118) dX12_read_22 ?_
    refine lv_goto (tgt := 39) hx hb dX12_read_25 (by decide) ?_
    have hpost : (0 ≤ r_1.toInt ∧ r_1.toInt ≤ 4) ∧ (0 ≤ (0 : Int32).toInt ∧ (0 : Int32).toInt ≤ 0) := ⟨hr_r_1, (by decide +kernel)⟩
    exact hret _ _ _ _ _ _ (r_1, 0) [1, 2, 0] hP hD hS rfl (by decide) dX12_read_39 hpost
set_option maxHeartbeats 4000000 in
set_option maxRecDepth 100000 in
theorem r_pour (l : Launch) (G : va_G) (cA : zCA) (h0 : Nat) (m_status : Int32) (m_thrown : Int32) (m_above : Int64) (m_under : Int64) (a_traySort : Nat) (a_trayMany : Nat) (a_numbers : Nat) (a_tape : Nat) (m_taped : Int32) (m_textEnd : Int32) (m_faultKind : Int32) (m_faultAt : Int32) (m_bad : Int32) (m_badAt : Int32) (m_token : Int32) (m_at : Int32) (m_behind : Int32) (m_number : Int32) (m_letters : Int32) (m_word : Int64) (a_c : Nat) (a_words : Nat) (m_markMany : Int32) (a_there : Nat) (a_tried : Nat) (a_best : Nat) (a_found : Nat) (m_thereMany : Int32) (m_foundMany : Int32) (m_orderHow : Int32) (m_orderRing : Int32) (m_orderMany : Int32) (m_hasBest : Int32) (m_bestTop : Int64) (m_bestBy : Int64) (a_weights : Nat) (a_shared : Nat) (m_random : Int32) (m_truePlace : Int32) (m_trueWay : Int32) (m_seconds : Int32) (m_done : Int32) (m_feelings : Int32) (m_tries : Int32) (m_leftOver : Int32) (m_playDoor : Int32) (m_playRing : Int32) (m_isOpen : Int32) (m_isOver : Int32) (m_wasTried : Int32) (m_hasPlayed : Int32) (a_feltNow : Nat) (a_last : Nat) (a_kept : Nat) (m_hasSeconds : Int32) (m_hasTurned : Int32) (m_hasRound : Int32) (a_hasFeels : Nat) (a_isOn : Nat) (m_firstAct : Int32) (m_meanTop : Int64) (m_meanBy : Int64) (a_order : Nat) (m_rowMany : Int32) (m_newSteps : Int32) (g_traySort : Nat → Int32) (g_trayMany : Nat → Int32) (g_numbers : Nat → Int64) (t : Int32) (i : Int32) (to : Int32) (j : Int32) (nn : Int32) (hC_g_trayMany : zRg 4 (-1) 60 g_trayMany) : zCi l yX12_pour cX12_pour 9 (some .boolean) ({ frames := 1, cells := 0, slots := 0, locals := 21 }) G cA [.ref h0, .int t, .int i, .int to, .int j, .int nn] [(h0, .inr (12, [.int m_status, .int m_thrown, .long m_above, .long m_under, .ref a_traySort, .ref a_trayMany, .ref a_numbers, .ref a_tape, .int m_taped, .int m_textEnd, .int m_faultKind, .int m_faultAt, .int m_bad, .int m_badAt, .int m_token, .int m_at, .int m_behind, .int m_number, .int m_letters, .long m_word, .ref a_c, .ref a_words, .int m_markMany, .ref a_there, .ref a_tried, .ref a_best, .ref a_found, .int m_thereMany, .int m_foundMany, .int m_orderHow, .int m_orderRing, .int m_orderMany, .int m_hasBest, .long m_bestTop, .long m_bestBy, .ref a_weights, .ref a_shared, .int m_random, .int m_truePlace, .int m_trueWay, .int m_seconds, .int m_done, .int m_feelings, .int m_tries, .int m_leftOver, .int m_playDoor, .int m_playRing, .int m_isOpen, .int m_isOver, .int m_wasTried, .int m_hasPlayed, .ref a_feltNow, .ref a_last, .ref a_kept, .int m_hasSeconds, .int m_hasTurned, .int m_hasRound, .ref a_hasFeels, .ref a_isOn, .int m_firstAct, .long m_meanTop, .long m_meanBy, .ref a_order, .int m_rowMany, .int m_newSteps])), (a_traySort, .inl (cA.1 0, 4, .inl g_traySort)), (a_trayMany, .inl (cA.1 0, 4, .inl g_trayMany)), (a_numbers, .inl (cA.1 1, 240, .inr (.inl g_numbers)))] (S := Int32 × Int32 × (Nat → Int64)) (fun (r : Int32) (u : Int32 × Int32 × (Nat → Int64)) => (r = 0 ∧ (0 ≤ u.2.1.toInt ∧ u.2.1.toInt ≤ 0) ∧ (¬ zOk5 t i to j nn (g_traySort 0) (g_traySort 1) (g_traySort 2) (g_traySort 3) (g_trayMany 0) (g_trayMany 1) (g_trayMany 2) (g_trayMany 3))) ∨ (r = 1 ∧ (0 ≤ u.1.toInt ∧ u.1.toInt ≤ 0) ∧ (0 ≤ u.2.1.toInt ∧ u.2.1.toInt ≤ 0) ∧ (zOk5 t i to j nn (g_traySort 0) (g_traySort 1) (g_traySort 2) (g_traySort 3) (g_trayMany 0) (g_trayMany 1) (g_trayMany 2) (g_trayMany 3)))) (fun (u : Int32 × Int32 × (Nat → Int64)) => [(h0, .inr (12, [.int u.1, .int u.2.1, .long m_above, .long m_under, .ref a_traySort, .ref a_trayMany, .ref a_numbers, .ref a_tape, .int m_taped, .int m_textEnd, .int m_faultKind, .int m_faultAt, .int m_bad, .int m_badAt, .int m_token, .int m_at, .int m_behind, .int m_number, .int m_letters, .long m_word, .ref a_c, .ref a_words, .int m_markMany, .ref a_there, .ref a_tried, .ref a_best, .ref a_found, .int m_thereMany, .int m_foundMany, .int m_orderHow, .int m_orderRing, .int m_orderMany, .int m_hasBest, .long m_bestTop, .long m_bestBy, .ref a_weights, .ref a_shared, .int m_random, .int m_truePlace, .int m_trueWay, .int m_seconds, .int m_done, .int m_feelings, .int m_tries, .int m_leftOver, .int m_playDoor, .int m_playRing, .int m_isOpen, .int m_isOver, .int m_wasTried, .int m_hasPlayed, .ref a_feltNow, .ref a_last, .ref a_kept, .int m_hasSeconds, .int m_hasTurned, .int m_hasRound, .ref a_hasFeels, .ref a_isOn, .int m_firstAct, .long m_meanTop, .long m_meanBy, .ref a_order, .int m_rowMany, .int m_newSteps])), (a_traySort, .inl (cA.1 0, 4, .inl g_traySort)), (a_trayMany, .inl (cA.1 0, 4, .inl g_trayMany)), (a_numbers, .inl (cA.1 1, 240, .inr (.inl u.2.2)))]) 0 0 := by
  have hk_0 : (0 : Int32).toInt = 0 := by decide +kernel
  have hk_1 : (1 : Int32).toInt = 1 := by decide +kernel
  have hk_3 : (3 : Int32).toInt = 3 := by decide +kernel
  have hk_4 : (4 : Int32).toInt = 4 := by decide +kernel
  have hk_6 : (6 : Int32).toInt = 6 := by decide +kernel
  have hk_11 : (11 : Int32).toInt = 11 := by decide +kernel
  have hk_60 : (60 : Int32).toInt = 60 := by decide +kernel
  refine z_start2z (own := RX12) (by decide) (Nat.le_of_ble_eq_true rfl) rfl ?_
  intro p e s m args below meth c A ls Q hx hb hml hts hown hK hE hT hP hD hS hA hl hret
  have hl : lv_has ls 9 [(0, .ref h0), (1, .int t), (2, .int i), (3, .int to), (4, .int j), (5, .int nn)] := hl
  refine lv_aload_n hx hb dX12_pour_0 rfl (lv_at hl 0 rfl) ?_
  refine lv_iconst (v := 0) hx hb dX12_pour_1 (by decide) ?_
  refine va_put (D := G) (ci := 12) (v := .int 0) (ty := .int) (C := RX12) (T := TX12) (N := 65) hx hb hts inT12 tyX12 tyX12_ok nmX12 hown hK hP hD hS 0 rfl rfl 1 (by decide) (hts _ tw_1886) (fun _ h9 => h9) rfl (tyX12_ok 1 (by decide)) rfl rfl (Nat.le_of_ble_eq_true rfl) dX12_pour_2 (fun H locs hP hD hS => ?_)
  refine lv_aload_n hx hb dX12_pour_5 rfl (lv_at hl 0 rfl) ?_
  refine lv_iconst (v := 0) hx hb dX12_pour_6 (by decide) ?_
  refine va_put (D := G) (ci := 12) (v := .int 0) (ty := .int) (C := RX12) (T := TX12) (N := 65) hx hb hts inT12 tyX12 tyX12_ok nmX12 hown hK hP hD hS 0 rfl rfl 0 (by decide) (hts _ tw_1885) (fun _ h9 => h9) rfl (tyX12_ok 0 (by decide)) rfl rfl (Nat.le_of_ble_eq_true rfl) dX12_pour_7 (fun H locs hP hD hS => ?_)
  refine lv_iload_n hx hb dX12_pour_10 rfl (lv_at hl 1 rfl) ?_
  refine lv_if_lt (tgt := 28) hx hb dX12_pour_11 (by decide) (fun c_1 => ?_) (fun c_1 => ?_)
  · have b_2 := z_fltT c_1
    refine lv_aload_n hx hb dX12_pour_28 rfl (lv_at hl 0 rfl) ?_
    refine lv_iconst (v := 1) hx hb dX12_pour_29 (by decide) ?_
    refine z_callVi (As := [.int 1]) (rest := []) (wr := [(a_traySort, .inl (cA.1 0, 4, .inl g_traySort)), (a_trayMany, .inl (cA.1 0, 4, .inl g_trayMany)), (a_numbers, .inl (cA.1 1, 240, .inr (.inl g_numbers)))]) ⟨hx, hb, hml, hown, hts⟩ hK hE hT hP hD hS hA (r_no l G cA h0 0 0 m_above m_under a_traySort a_trayMany a_numbers a_tape m_taped m_textEnd m_faultKind m_faultAt m_bad m_badAt m_token m_at m_behind m_number m_letters m_word a_c a_words m_markMany a_there a_tried a_best a_found m_thereMany m_foundMany m_orderHow m_orderRing m_orderMany m_hasBest m_bestTop m_bestBy a_weights a_shared m_random m_truePlace m_trueWay m_seconds m_done m_feelings m_tries m_leftOver m_playDoor m_playRing m_isOpen m_isOver m_wasTried m_hasPlayed a_feltNow a_last a_kept m_hasSeconds m_hasTurned m_hasRound a_hasFeels a_isOn m_firstAct m_meanTop m_meanBy a_order m_rowMany m_newSteps 1) lk_RX12_97 ⟨rfl, rfl⟩ ⟨Nat.le_of_ble_eq_true rfl, Nat.le_of_ble_eq_true rfl⟩ 12 rfl rfl rfl [0] [1, 2, 3] rfl rfl (by decide) rfl hl.1 rfl (lv_room (Nat.le_of_ble_eq_true rfl)) dX12_pour_30 ⟨Nat.le_of_ble_eq_true rfl, Nat.le_of_ble_eq_true rfl⟩ (fun r_4 u_5 H locs hw hP hD hS => ?_)
    obtain ⟨n_3, rfl⟩ : ∃ z, z = u_5 := ⟨_, rfl⟩
    obtain ⟨rfl, -⟩ := hw
    have hpost : ((0 : Int32) = 0 ∧ (0 ≤ (0 : Int32).toInt ∧ (0 : Int32).toInt ≤ 0) ∧ (¬ zOk5 t i to j nn (g_traySort 0) (g_traySort 1) (g_traySort 2) (g_traySort 3) (g_trayMany 0) (g_trayMany 1) (g_trayMany 2) (g_trayMany 3))) ∨ ((0 : Int32) = 1 ∧ (0 ≤ n_3.toInt ∧ n_3.toInt ≤ 0) ∧ (0 ≤ (0 : Int32).toInt ∧ (0 : Int32).toInt ≤ 0) ∧ (zOk5 t i to j nn (g_traySort 0) (g_traySort 1) (g_traySort 2) (g_traySort 3) (g_trayMany 0) (g_trayMany 1) (g_trayMany 2) (g_trayMany 3))) := (Or.inl ⟨rfl, ⟨(by decide +kernel), (by have q1 := fun h1 h2 => zSo_g (g := g_traySort) (t := t) h1 h2; have q2 := fun h1 h2 => zSo_g (g := g_traySort) (t := to) h1 h2; have q3 := fun h1 h2 => zSo_g (g := g_trayMany) (t := t) h1 h2; have q4 := fun h1 h2 => zSo_g (g := g_trayMany) (t := to) h1 h2; unfold zOk5; omega)⟩⟩)
    exact hret _ _ _ _ _ _ (n_3, 0, g_numbers) [3, 0, 1, 2] hP hD hS rfl (by decide) dX12_pour_33 (Or.inl rfl) hpost
  · have b_6 := z_fgeF c_1
    refine lv_iload_n hx hb dX12_pour_14 rfl (lv_at hl 1 rfl) ?_
    refine lv_iconst (v := 4) hx hb dX12_pour_15 (by decide) ?_
    refine lv_icmp_ge (tgt := 28) hx hb dX12_pour_16 (by decide) (fun c_7 => ?_) (fun c_7 => ?_)
    · have b_8 := z_fgeT c_7
      refine lv_aload_n hx hb dX12_pour_28 rfl (lv_at hl 0 rfl) ?_
      refine lv_iconst (v := 1) hx hb dX12_pour_29 (by decide) ?_
      refine z_callVi (As := [.int 1]) (rest := []) (wr := [(a_traySort, .inl (cA.1 0, 4, .inl g_traySort)), (a_trayMany, .inl (cA.1 0, 4, .inl g_trayMany)), (a_numbers, .inl (cA.1 1, 240, .inr (.inl g_numbers)))]) ⟨hx, hb, hml, hown, hts⟩ hK hE hT hP hD hS hA (r_no l G cA h0 0 0 m_above m_under a_traySort a_trayMany a_numbers a_tape m_taped m_textEnd m_faultKind m_faultAt m_bad m_badAt m_token m_at m_behind m_number m_letters m_word a_c a_words m_markMany a_there a_tried a_best a_found m_thereMany m_foundMany m_orderHow m_orderRing m_orderMany m_hasBest m_bestTop m_bestBy a_weights a_shared m_random m_truePlace m_trueWay m_seconds m_done m_feelings m_tries m_leftOver m_playDoor m_playRing m_isOpen m_isOver m_wasTried m_hasPlayed a_feltNow a_last a_kept m_hasSeconds m_hasTurned m_hasRound a_hasFeels a_isOn m_firstAct m_meanTop m_meanBy a_order m_rowMany m_newSteps 1) lk_RX12_97 ⟨rfl, rfl⟩ ⟨Nat.le_of_ble_eq_true rfl, Nat.le_of_ble_eq_true rfl⟩ 12 rfl rfl rfl [0] [1, 2, 3] rfl rfl (by decide) rfl hl.1 rfl (lv_room (Nat.le_of_ble_eq_true rfl)) dX12_pour_30 ⟨Nat.le_of_ble_eq_true rfl, Nat.le_of_ble_eq_true rfl⟩ (fun r_10 u_11 H locs hw hP hD hS => ?_)
      obtain ⟨n_9, rfl⟩ : ∃ z, z = u_11 := ⟨_, rfl⟩
      obtain ⟨rfl, -⟩ := hw
      have hpost : ((0 : Int32) = 0 ∧ (0 ≤ (0 : Int32).toInt ∧ (0 : Int32).toInt ≤ 0) ∧ (¬ zOk5 t i to j nn (g_traySort 0) (g_traySort 1) (g_traySort 2) (g_traySort 3) (g_trayMany 0) (g_trayMany 1) (g_trayMany 2) (g_trayMany 3))) ∨ ((0 : Int32) = 1 ∧ (0 ≤ n_9.toInt ∧ n_9.toInt ≤ 0) ∧ (0 ≤ (0 : Int32).toInt ∧ (0 : Int32).toInt ≤ 0) ∧ (zOk5 t i to j nn (g_traySort 0) (g_traySort 1) (g_traySort 2) (g_traySort 3) (g_trayMany 0) (g_trayMany 1) (g_trayMany 2) (g_trayMany 3))) := (Or.inl ⟨rfl, ⟨(by decide +kernel), (by have q1 := fun h1 h2 => zSo_g (g := g_traySort) (t := t) h1 h2; have q2 := fun h1 h2 => zSo_g (g := g_traySort) (t := to) h1 h2; have q3 := fun h1 h2 => zSo_g (g := g_trayMany) (t := t) h1 h2; have q4 := fun h1 h2 => zSo_g (g := g_trayMany) (t := to) h1 h2; unfold zOk5; omega)⟩⟩)
      exact hret _ _ _ _ _ _ (n_9, 0, g_numbers) [3, 0, 1, 2] hP hD hS rfl (by decide) dX12_pour_33 (Or.inl rfl) hpost
    · have b_12 := z_fltF c_7
      refine lv_iload_n hx hb dX12_pour_19 rfl (lv_at hl 3 rfl) ?_
      refine lv_if_lt (tgt := 28) hx hb dX12_pour_20 (by decide) (fun c_13 => ?_) (fun c_13 => ?_)
      · have b_14 := z_fltT c_13
        refine lv_aload_n hx hb dX12_pour_28 rfl (lv_at hl 0 rfl) ?_
        refine lv_iconst (v := 1) hx hb dX12_pour_29 (by decide) ?_
        refine z_callVi (As := [.int 1]) (rest := []) (wr := [(a_traySort, .inl (cA.1 0, 4, .inl g_traySort)), (a_trayMany, .inl (cA.1 0, 4, .inl g_trayMany)), (a_numbers, .inl (cA.1 1, 240, .inr (.inl g_numbers)))]) ⟨hx, hb, hml, hown, hts⟩ hK hE hT hP hD hS hA (r_no l G cA h0 0 0 m_above m_under a_traySort a_trayMany a_numbers a_tape m_taped m_textEnd m_faultKind m_faultAt m_bad m_badAt m_token m_at m_behind m_number m_letters m_word a_c a_words m_markMany a_there a_tried a_best a_found m_thereMany m_foundMany m_orderHow m_orderRing m_orderMany m_hasBest m_bestTop m_bestBy a_weights a_shared m_random m_truePlace m_trueWay m_seconds m_done m_feelings m_tries m_leftOver m_playDoor m_playRing m_isOpen m_isOver m_wasTried m_hasPlayed a_feltNow a_last a_kept m_hasSeconds m_hasTurned m_hasRound a_hasFeels a_isOn m_firstAct m_meanTop m_meanBy a_order m_rowMany m_newSteps 1) lk_RX12_97 ⟨rfl, rfl⟩ ⟨Nat.le_of_ble_eq_true rfl, Nat.le_of_ble_eq_true rfl⟩ 12 rfl rfl rfl [0] [1, 2, 3] rfl rfl (by decide) rfl hl.1 rfl (lv_room (Nat.le_of_ble_eq_true rfl)) dX12_pour_30 ⟨Nat.le_of_ble_eq_true rfl, Nat.le_of_ble_eq_true rfl⟩ (fun r_16 u_17 H locs hw hP hD hS => ?_)
        obtain ⟨n_15, rfl⟩ : ∃ z, z = u_17 := ⟨_, rfl⟩
        obtain ⟨rfl, -⟩ := hw
        have hpost : ((0 : Int32) = 0 ∧ (0 ≤ (0 : Int32).toInt ∧ (0 : Int32).toInt ≤ 0) ∧ (¬ zOk5 t i to j nn (g_traySort 0) (g_traySort 1) (g_traySort 2) (g_traySort 3) (g_trayMany 0) (g_trayMany 1) (g_trayMany 2) (g_trayMany 3))) ∨ ((0 : Int32) = 1 ∧ (0 ≤ n_15.toInt ∧ n_15.toInt ≤ 0) ∧ (0 ≤ (0 : Int32).toInt ∧ (0 : Int32).toInt ≤ 0) ∧ (zOk5 t i to j nn (g_traySort 0) (g_traySort 1) (g_traySort 2) (g_traySort 3) (g_trayMany 0) (g_trayMany 1) (g_trayMany 2) (g_trayMany 3))) := (Or.inl ⟨rfl, ⟨(by decide +kernel), (by have q1 := fun h1 h2 => zSo_g (g := g_traySort) (t := t) h1 h2; have q2 := fun h1 h2 => zSo_g (g := g_traySort) (t := to) h1 h2; have q3 := fun h1 h2 => zSo_g (g := g_trayMany) (t := t) h1 h2; have q4 := fun h1 h2 => zSo_g (g := g_trayMany) (t := to) h1 h2; unfold zOk5; omega)⟩⟩)
        exact hret _ _ _ _ _ _ (n_15, 0, g_numbers) [3, 0, 1, 2] hP hD hS rfl (by decide) dX12_pour_33 (Or.inl rfl) hpost
      · have b_18 := z_fgeF c_13
        refine lv_iload_n hx hb dX12_pour_23 rfl (lv_at hl 3 rfl) ?_
        refine lv_iconst (v := 4) hx hb dX12_pour_24 (by decide) ?_
        refine lv_icmp_lt (tgt := 34) hx hb dX12_pour_25 (by decide) (fun c_19 => ?_) (fun c_19 => ?_)
        · have b_20 := z_fltT c_19
          refine lv_aload_n hx hb dX12_pour_34 rfl (lv_at hl 0 rfl) ?_
          refine va_get (D := G) (ci := 12) (v := .ref a_trayMany) (C := RX12) (T := TX12) (N := 65) hx hb hts inT12 hown hK hP 0 rfl rfl 5 (by decide) (hts _ tw_1890) (fun _ h9 => h9) rfl dX12_pour_35 ?_
          refine lv_iload_n hx hb dX12_pour_38 rfl (lv_at hl 1 rfl) ?_
          refine va_iald hx hb hK hP 2 0 rfl rfl (z_inN (by omega) (by omega)) dX12_pour_39 ?_
          refine lv_topi (fun x_21 he_x_21 => ?_)
          have hr_x_21 := z_rg hC_g_trayMany he_x_21 (by omega) (by omega)
          have hg9_x_21 : x_21.toInt = (g_trayMany t.toInt.toNat).toInt := by rw [he_x_21]; rfl
          refine lv_if_lt (tgt := 52) hx hb dX12_pour_40 (by decide) (fun c_22 => ?_) (fun c_22 => ?_)
          · have b_23 := z_fltT c_22
            refine lv_aload_n hx hb dX12_pour_52 rfl (lv_at hl 0 rfl) ?_
            refine lv_iconst (v := 3) hx hb dX12_pour_53 (by decide) ?_
            refine z_callVi (As := [.int 3]) (rest := []) (wr := [(a_traySort, .inl (cA.1 0, 4, .inl g_traySort)), (a_trayMany, .inl (cA.1 0, 4, .inl g_trayMany)), (a_numbers, .inl (cA.1 1, 240, .inr (.inl g_numbers)))]) ⟨hx, hb, hml, hown, hts⟩ hK hE hT hP hD hS hA (r_no l G cA h0 0 0 m_above m_under a_traySort a_trayMany a_numbers a_tape m_taped m_textEnd m_faultKind m_faultAt m_bad m_badAt m_token m_at m_behind m_number m_letters m_word a_c a_words m_markMany a_there a_tried a_best a_found m_thereMany m_foundMany m_orderHow m_orderRing m_orderMany m_hasBest m_bestTop m_bestBy a_weights a_shared m_random m_truePlace m_trueWay m_seconds m_done m_feelings m_tries m_leftOver m_playDoor m_playRing m_isOpen m_isOver m_wasTried m_hasPlayed a_feltNow a_last a_kept m_hasSeconds m_hasTurned m_hasRound a_hasFeels a_isOn m_firstAct m_meanTop m_meanBy a_order m_rowMany m_newSteps 3) lk_RX12_97 ⟨rfl, rfl⟩ ⟨Nat.le_of_ble_eq_true rfl, Nat.le_of_ble_eq_true rfl⟩ 12 rfl rfl rfl [0] [1, 2, 3] rfl rfl (by decide) rfl hl.1 rfl (lv_room (Nat.le_of_ble_eq_true rfl)) dX12_pour_54 ⟨Nat.le_of_ble_eq_true rfl, Nat.le_of_ble_eq_true rfl⟩ (fun r_25 u_26 H locs hw hP hD hS => ?_)
            obtain ⟨n_24, rfl⟩ : ∃ z, z = u_26 := ⟨_, rfl⟩
            obtain ⟨rfl, -⟩ := hw
            have hpost : ((0 : Int32) = 0 ∧ (0 ≤ (0 : Int32).toInt ∧ (0 : Int32).toInt ≤ 0) ∧ (¬ zOk5 t i to j nn (g_traySort 0) (g_traySort 1) (g_traySort 2) (g_traySort 3) (g_trayMany 0) (g_trayMany 1) (g_trayMany 2) (g_trayMany 3))) ∨ ((0 : Int32) = 1 ∧ (0 ≤ n_24.toInt ∧ n_24.toInt ≤ 0) ∧ (0 ≤ (0 : Int32).toInt ∧ (0 : Int32).toInt ≤ 0) ∧ (zOk5 t i to j nn (g_traySort 0) (g_traySort 1) (g_traySort 2) (g_traySort 3) (g_trayMany 0) (g_trayMany 1) (g_trayMany 2) (g_trayMany 3))) := (Or.inl ⟨rfl, ⟨(by decide +kernel), (by have q1 := fun h1 h2 => zSo_g (g := g_traySort) (t := t) h1 h2; have q2 := fun h1 h2 => zSo_g (g := g_traySort) (t := to) h1 h2; have q3 := fun h1 h2 => zSo_g (g := g_trayMany) (t := t) h1 h2; have q4 := fun h1 h2 => zSo_g (g := g_trayMany) (t := to) h1 h2; unfold zOk5; omega)⟩⟩)
            exact hret _ _ _ _ _ _ (n_24, 0, g_numbers) [3, 0, 1, 2] hP hD hS rfl (by decide) dX12_pour_57 (Or.inl rfl) hpost
          · have b_27 := z_fgeF c_22
            refine lv_aload_n hx hb dX12_pour_43 rfl (lv_at hl 0 rfl) ?_
            refine va_get (D := G) (ci := 12) (v := .ref a_trayMany) (C := RX12) (T := TX12) (N := 65) hx hb hts inT12 hown hK hP 0 rfl rfl 5 (by decide) (hts _ tw_1890) (fun _ h9 => h9) rfl dX12_pour_44 ?_
            refine lv_iload_n hx hb dX12_pour_47 rfl (lv_at hl 3 rfl) ?_
            refine va_iald hx hb hK hP 2 0 rfl rfl (z_inN (by omega) (by omega)) dX12_pour_48 ?_
            refine lv_topi (fun x_28 he_x_28 => ?_)
            have hr_x_28 := z_rg hC_g_trayMany he_x_28 (by omega) (by omega)
            have hg9_x_28 : x_28.toInt = (g_trayMany to.toInt.toNat).toInt := by rw [he_x_28]; rfl
            refine lv_if_ge (tgt := 58) hx hb dX12_pour_49 (by decide) (fun c_29 => ?_) (fun c_29 => ?_)
            · have b_30 := z_fgeT c_29
              refine lv_aload_n hx hb dX12_pour_58 rfl (lv_at hl 0 rfl) ?_
              refine va_get (D := G) (ci := 12) (v := .ref a_traySort) (C := RX12) (T := TX12) (N := 65) hx hb hts inT12 hown hK hP 0 rfl rfl 4 (by decide) (hts _ tw_1889) (fun _ h9 => h9) rfl dX12_pour_59 ?_
              refine lv_iload_n hx hb dX12_pour_62 rfl (lv_at hl 1 rfl) ?_
              refine va_iald hx hb hK hP 1 0 rfl rfl (z_inN (by omega) (by omega)) dX12_pour_63 ?_
              refine lv_topi (fun x_31 he_x_31 => ?_)
              have hg9_x_31 : x_31.toInt = (g_traySort t.toInt.toNat).toInt := by rw [he_x_31]; rfl
              refine lv_aload_n hx hb dX12_pour_64 rfl (lv_at hl 0 rfl) ?_
              refine va_get (D := G) (ci := 12) (v := .ref a_traySort) (C := RX12) (T := TX12) (N := 65) hx hb hts inT12 hown hK hP 0 rfl rfl 4 (by decide) (hts _ tw_1889) (fun _ h9 => h9) rfl dX12_pour_65 ?_
              refine lv_iload_n hx hb dX12_pour_68 rfl (lv_at hl 3 rfl) ?_
              refine va_iald hx hb hK hP 1 0 rfl rfl (z_inN (by omega) (by omega)) dX12_pour_69 ?_
              refine lv_topi (fun x_32 he_x_32 => ?_)
              have hg9_x_32 : x_32.toInt = (g_traySort to.toInt.toNat).toInt := by rw [he_x_32]; rfl
              refine lv_icmp_eq (tgt := 80) hx hb dX12_pour_70 (by decide) (fun c_33 => ?_) (fun c_33 => ?_)
              · have b_34 := z_feqT c_33
                refine lv_iload hx hb dX12_pour_80 (lv_at hl 5 rfl) ?_
                refine lv_if_ge (tgt := 92) hx hb dX12_pour_82 (by decide) (fun c_35 => ?_) (fun c_35 => ?_)
                · have b_36 := z_fgeT c_35
                  refine lv_iload_n hx hb dX12_pour_92 rfl (lv_at hl 2 rfl) ?_
                  refine lv_if_lt (tgt := 136) hx hb dX12_pour_93 (by decide) (fun c_37 => ?_) (fun c_37 => ?_)
                  · have b_38 := z_fltT c_37
                    refine lv_aload_n hx hb dX12_pour_136 rfl (lv_at hl 0 rfl) ?_
                    refine lv_iconst (v := 4) hx hb dX12_pour_137 (by decide) ?_
                    refine z_callVi (As := [.int 4]) (rest := []) (wr := [(a_traySort, .inl (cA.1 0, 4, .inl g_traySort)), (a_trayMany, .inl (cA.1 0, 4, .inl g_trayMany)), (a_numbers, .inl (cA.1 1, 240, .inr (.inl g_numbers)))]) ⟨hx, hb, hml, hown, hts⟩ hK hE hT hP hD hS hA (r_no l G cA h0 0 0 m_above m_under a_traySort a_trayMany a_numbers a_tape m_taped m_textEnd m_faultKind m_faultAt m_bad m_badAt m_token m_at m_behind m_number m_letters m_word a_c a_words m_markMany a_there a_tried a_best a_found m_thereMany m_foundMany m_orderHow m_orderRing m_orderMany m_hasBest m_bestTop m_bestBy a_weights a_shared m_random m_truePlace m_trueWay m_seconds m_done m_feelings m_tries m_leftOver m_playDoor m_playRing m_isOpen m_isOver m_wasTried m_hasPlayed a_feltNow a_last a_kept m_hasSeconds m_hasTurned m_hasRound a_hasFeels a_isOn m_firstAct m_meanTop m_meanBy a_order m_rowMany m_newSteps 4) lk_RX12_97 ⟨rfl, rfl⟩ ⟨Nat.le_of_ble_eq_true rfl, Nat.le_of_ble_eq_true rfl⟩ 12 rfl rfl rfl [0] [1, 2, 3] rfl rfl (by decide) rfl hl.1 rfl (lv_room (Nat.le_of_ble_eq_true rfl)) dX12_pour_138 ⟨Nat.le_of_ble_eq_true rfl, Nat.le_of_ble_eq_true rfl⟩ (fun r_40 u_41 H locs hw hP hD hS => ?_)
                    obtain ⟨n_39, rfl⟩ : ∃ z, z = u_41 := ⟨_, rfl⟩
                    obtain ⟨rfl, -⟩ := hw
                    have hpost : ((0 : Int32) = 0 ∧ (0 ≤ (0 : Int32).toInt ∧ (0 : Int32).toInt ≤ 0) ∧ (¬ zOk5 t i to j nn (g_traySort 0) (g_traySort 1) (g_traySort 2) (g_traySort 3) (g_trayMany 0) (g_trayMany 1) (g_trayMany 2) (g_trayMany 3))) ∨ ((0 : Int32) = 1 ∧ (0 ≤ n_39.toInt ∧ n_39.toInt ≤ 0) ∧ (0 ≤ (0 : Int32).toInt ∧ (0 : Int32).toInt ≤ 0) ∧ (zOk5 t i to j nn (g_traySort 0) (g_traySort 1) (g_traySort 2) (g_traySort 3) (g_trayMany 0) (g_trayMany 1) (g_trayMany 2) (g_trayMany 3))) := (Or.inl ⟨rfl, ⟨(by decide +kernel), (by have q1 := fun h1 h2 => zSo_g (g := g_traySort) (t := t) h1 h2; have q2 := fun h1 h2 => zSo_g (g := g_traySort) (t := to) h1 h2; have q3 := fun h1 h2 => zSo_g (g := g_trayMany) (t := t) h1 h2; have q4 := fun h1 h2 => zSo_g (g := g_trayMany) (t := to) h1 h2; unfold zOk5; omega)⟩⟩)
                    exact hret _ _ _ _ _ _ (n_39, 0, g_numbers) [3, 0, 1, 2] hP hD hS rfl (by decide) dX12_pour_141 (Or.inl rfl) hpost
                  · have b_42 := z_fgeF c_37
                    refine lv_iload hx hb dX12_pour_96 (lv_at hl 4 rfl) ?_
                    refine lv_if_lt (tgt := 136) hx hb dX12_pour_98 (by decide) (fun c_43 => ?_) (fun c_43 => ?_)
                    · have b_44 := z_fltT c_43
                      refine lv_aload_n hx hb dX12_pour_136 rfl (lv_at hl 0 rfl) ?_
                      refine lv_iconst (v := 4) hx hb dX12_pour_137 (by decide) ?_
                      refine z_callVi (As := [.int 4]) (rest := []) (wr := [(a_traySort, .inl (cA.1 0, 4, .inl g_traySort)), (a_trayMany, .inl (cA.1 0, 4, .inl g_trayMany)), (a_numbers, .inl (cA.1 1, 240, .inr (.inl g_numbers)))]) ⟨hx, hb, hml, hown, hts⟩ hK hE hT hP hD hS hA (r_no l G cA h0 0 0 m_above m_under a_traySort a_trayMany a_numbers a_tape m_taped m_textEnd m_faultKind m_faultAt m_bad m_badAt m_token m_at m_behind m_number m_letters m_word a_c a_words m_markMany a_there a_tried a_best a_found m_thereMany m_foundMany m_orderHow m_orderRing m_orderMany m_hasBest m_bestTop m_bestBy a_weights a_shared m_random m_truePlace m_trueWay m_seconds m_done m_feelings m_tries m_leftOver m_playDoor m_playRing m_isOpen m_isOver m_wasTried m_hasPlayed a_feltNow a_last a_kept m_hasSeconds m_hasTurned m_hasRound a_hasFeels a_isOn m_firstAct m_meanTop m_meanBy a_order m_rowMany m_newSteps 4) lk_RX12_97 ⟨rfl, rfl⟩ ⟨Nat.le_of_ble_eq_true rfl, Nat.le_of_ble_eq_true rfl⟩ 12 rfl rfl rfl [0] [1, 2, 3] rfl rfl (by decide) rfl hl.1 rfl (lv_room (Nat.le_of_ble_eq_true rfl)) dX12_pour_138 ⟨Nat.le_of_ble_eq_true rfl, Nat.le_of_ble_eq_true rfl⟩ (fun r_46 u_47 H locs hw hP hD hS => ?_)
                      obtain ⟨n_45, rfl⟩ : ∃ z, z = u_47 := ⟨_, rfl⟩
                      obtain ⟨rfl, -⟩ := hw
                      have hpost : ((0 : Int32) = 0 ∧ (0 ≤ (0 : Int32).toInt ∧ (0 : Int32).toInt ≤ 0) ∧ (¬ zOk5 t i to j nn (g_traySort 0) (g_traySort 1) (g_traySort 2) (g_traySort 3) (g_trayMany 0) (g_trayMany 1) (g_trayMany 2) (g_trayMany 3))) ∨ ((0 : Int32) = 1 ∧ (0 ≤ n_45.toInt ∧ n_45.toInt ≤ 0) ∧ (0 ≤ (0 : Int32).toInt ∧ (0 : Int32).toInt ≤ 0) ∧ (zOk5 t i to j nn (g_traySort 0) (g_traySort 1) (g_traySort 2) (g_traySort 3) (g_trayMany 0) (g_trayMany 1) (g_trayMany 2) (g_trayMany 3))) := (Or.inl ⟨rfl, ⟨(by decide +kernel), (by have q1 := fun h1 h2 => zSo_g (g := g_traySort) (t := t) h1 h2; have q2 := fun h1 h2 => zSo_g (g := g_traySort) (t := to) h1 h2; have q3 := fun h1 h2 => zSo_g (g := g_trayMany) (t := t) h1 h2; have q4 := fun h1 h2 => zSo_g (g := g_trayMany) (t := to) h1 h2; unfold zOk5; omega)⟩⟩)
                      exact hret _ _ _ _ _ _ (n_45, 0, g_numbers) [3, 0, 1, 2] hP hD hS rfl (by decide) dX12_pour_141 (Or.inl rfl) hpost
                    · have b_48 := z_fgeF c_43
                      refine lv_iload_n hx hb dX12_pour_101 rfl (lv_at hl 2 rfl) ?_
                      refine lv_i2l (v := (i).toInt64) hx hb dX12_pour_102 rfl ?_
                      refine lv_topl (fun x_49 he_x_49 => ?_)
                      have hq_x_49 := z_i2l he_x_49
                      have hL_i := z_full i
                      refine lv_iload hx hb dX12_pour_103 (lv_at hl 5 rfl) ?_
                      refine lv_i2l (v := (nn).toInt64) hx hb dX12_pour_105 rfl ?_
                      refine lv_topl (fun x_50 he_x_50 => ?_)
                      have hq_x_50 := z_i2l he_x_50
                      have hL_nn := z_full nn
                      refine lv_ladd hx hb dX12_pour_106 ?_
                      refine lv_topl (fun x_51 he_x_51 => ?_)
                      have hq_x_51 := z_addql he_x_51 (rfl : x_49.toInt = _) (rfl : x_50.toInt = _) (by omega) (by omega)
                      refine lv_aload_n hx hb dX12_pour_107 rfl (lv_at hl 0 rfl) ?_
                      refine va_get (D := G) (ci := 12) (v := .ref a_trayMany) (C := RX12) (T := TX12) (N := 65) hx hb hts inT12 hown hK hP 0 rfl rfl 5 (by decide) (hts _ tw_1890) (fun _ h9 => h9) rfl dX12_pour_108 ?_
                      refine lv_iload_n hx hb dX12_pour_111 rfl (lv_at hl 1 rfl) ?_
                      refine va_iald hx hb hK hP 2 0 rfl rfl (z_inN (by omega) (by omega)) dX12_pour_112 ?_
                      refine lv_topi (fun x_52 he_x_52 => ?_)
                      have hr_x_52 := z_rg hC_g_trayMany he_x_52 (by omega) (by omega)
                      have hg9_x_52 : x_52.toInt = (g_trayMany t.toInt.toNat).toInt := by rw [he_x_52]; rfl
                      refine lv_i2l (v := (x_52).toInt64) hx hb dX12_pour_113 rfl ?_
                      refine lv_topl (fun x_53 he_x_53 => ?_)
                      have hq_x_53 := z_i2l he_x_53
                      refine W.lcmp hx hb dX12_pour_114 ?_
                      refine lv_if_gt (tgt := 136) hx hb dX12_pour_115 (by decide) (fun c_54 => ?_) (fun c_54 => ?_)
                      · have b_55 := z_fgtTl c_54
                        refine lv_aload_n hx hb dX12_pour_136 rfl (lv_at hl 0 rfl) ?_
                        refine lv_iconst (v := 4) hx hb dX12_pour_137 (by decide) ?_
                        refine z_callVi (As := [.int 4]) (rest := []) (wr := [(a_traySort, .inl (cA.1 0, 4, .inl g_traySort)), (a_trayMany, .inl (cA.1 0, 4, .inl g_trayMany)), (a_numbers, .inl (cA.1 1, 240, .inr (.inl g_numbers)))]) ⟨hx, hb, hml, hown, hts⟩ hK hE hT hP hD hS hA (r_no l G cA h0 0 0 m_above m_under a_traySort a_trayMany a_numbers a_tape m_taped m_textEnd m_faultKind m_faultAt m_bad m_badAt m_token m_at m_behind m_number m_letters m_word a_c a_words m_markMany a_there a_tried a_best a_found m_thereMany m_foundMany m_orderHow m_orderRing m_orderMany m_hasBest m_bestTop m_bestBy a_weights a_shared m_random m_truePlace m_trueWay m_seconds m_done m_feelings m_tries m_leftOver m_playDoor m_playRing m_isOpen m_isOver m_wasTried m_hasPlayed a_feltNow a_last a_kept m_hasSeconds m_hasTurned m_hasRound a_hasFeels a_isOn m_firstAct m_meanTop m_meanBy a_order m_rowMany m_newSteps 4) lk_RX12_97 ⟨rfl, rfl⟩ ⟨Nat.le_of_ble_eq_true rfl, Nat.le_of_ble_eq_true rfl⟩ 12 rfl rfl rfl [0] [1, 2, 3] rfl rfl (by decide) rfl hl.1 rfl (lv_room (Nat.le_of_ble_eq_true rfl)) dX12_pour_138 ⟨Nat.le_of_ble_eq_true rfl, Nat.le_of_ble_eq_true rfl⟩ (fun r_57 u_58 H locs hw hP hD hS => ?_)
                        obtain ⟨n_56, rfl⟩ : ∃ z, z = u_58 := ⟨_, rfl⟩
                        obtain ⟨rfl, -⟩ := hw
                        have hpost : ((0 : Int32) = 0 ∧ (0 ≤ (0 : Int32).toInt ∧ (0 : Int32).toInt ≤ 0) ∧ (¬ zOk5 t i to j nn (g_traySort 0) (g_traySort 1) (g_traySort 2) (g_traySort 3) (g_trayMany 0) (g_trayMany 1) (g_trayMany 2) (g_trayMany 3))) ∨ ((0 : Int32) = 1 ∧ (0 ≤ n_56.toInt ∧ n_56.toInt ≤ 0) ∧ (0 ≤ (0 : Int32).toInt ∧ (0 : Int32).toInt ≤ 0) ∧ (zOk5 t i to j nn (g_traySort 0) (g_traySort 1) (g_traySort 2) (g_traySort 3) (g_trayMany 0) (g_trayMany 1) (g_trayMany 2) (g_trayMany 3))) := (Or.inl ⟨rfl, ⟨(by decide +kernel), (by have q1 := fun h1 h2 => zSo_g (g := g_traySort) (t := t) h1 h2; have q2 := fun h1 h2 => zSo_g (g := g_traySort) (t := to) h1 h2; have q3 := fun h1 h2 => zSo_g (g := g_trayMany) (t := t) h1 h2; have q4 := fun h1 h2 => zSo_g (g := g_trayMany) (t := to) h1 h2; unfold zOk5; omega)⟩⟩)
                        exact hret _ _ _ _ _ _ (n_56, 0, g_numbers) [3, 0, 1, 2] hP hD hS rfl (by decide) dX12_pour_141 (Or.inl rfl) hpost
                      · have b_59 := z_fleFl c_54
                        refine lv_iload hx hb dX12_pour_118 (lv_at hl 4 rfl) ?_
                        refine lv_i2l (v := (j).toInt64) hx hb dX12_pour_120 rfl ?_
                        refine lv_topl (fun x_60 he_x_60 => ?_)
                        have hq_x_60 := z_i2l he_x_60
                        have hL_j := z_full j
                        refine lv_iload hx hb dX12_pour_121 (lv_at hl 5 rfl) ?_
                        refine lv_i2l (v := (nn).toInt64) hx hb dX12_pour_123 rfl ?_
                        refine lv_topl (fun x_61 he_x_61 => ?_)
                        have hq_x_61 := z_i2l he_x_61
                        refine lv_ladd hx hb dX12_pour_124 ?_
                        refine lv_topl (fun x_62 he_x_62 => ?_)
                        have hq_x_62 := z_addql he_x_62 (rfl : x_60.toInt = _) (rfl : x_61.toInt = _) (by omega) (by omega)
                        refine lv_aload_n hx hb dX12_pour_125 rfl (lv_at hl 0 rfl) ?_
                        refine va_get (D := G) (ci := 12) (v := .ref a_trayMany) (C := RX12) (T := TX12) (N := 65) hx hb hts inT12 hown hK hP 0 rfl rfl 5 (by decide) (hts _ tw_1890) (fun _ h9 => h9) rfl dX12_pour_126 ?_
                        refine lv_iload_n hx hb dX12_pour_129 rfl (lv_at hl 3 rfl) ?_
                        refine va_iald hx hb hK hP 2 0 rfl rfl (z_inN (by omega) (by omega)) dX12_pour_130 ?_
                        refine lv_topi (fun x_63 he_x_63 => ?_)
                        have hr_x_63 := z_rg hC_g_trayMany he_x_63 (by omega) (by omega)
                        have hg9_x_63 : x_63.toInt = (g_trayMany to.toInt.toNat).toInt := by rw [he_x_63]; rfl
                        refine lv_i2l (v := (x_63).toInt64) hx hb dX12_pour_131 rfl ?_
                        refine lv_topl (fun x_64 he_x_64 => ?_)
                        have hq_x_64 := z_i2l he_x_64
                        refine W.lcmp hx hb dX12_pour_132 ?_
                        refine lv_if_le (tgt := 142) hx hb dX12_pour_133 (by decide) (fun c_65 => ?_) (fun c_65 => ?_)
                        · have b_66 := z_fleTl c_65
                          have hn_k_67 : 0 ≤ i.toInt ∧ i.toInt ≤ 60 := by omega
                          have hn_k_68 : 0 ≤ j.toInt ∧ j.toInt ≤ 60 := by omega
                          have hn_k_69 : 0 ≤ nn.toInt ∧ nn.toInt ≤ 60 := by omega
                          refine lv_iload_n hx hb dX12_pour_142 rfl (lv_at hl 2 rfl) ?_
                          refine lv_iload hx hb dX12_pour_143 (lv_at hl 4 rfl) ?_
                          refine lv_icmp_ge (tgt := 152) hx hb dX12_pour_145 (by decide) (fun c_70 => ?_) (fun c_70 => ?_)
                          · have b_71 := z_fgeT c_70
                            refine lv_iconst (v := 0) hx hb dX12_pour_152 (by decide) ?_
                            refine lv_istore (lv' := [(6, .int 0), (0, .ref h0), (1, .int t), (2, .int i), (3, .int to), (4, .int j), (5, .int nn)]) hx hb dX12_pour_153 hl (by decide) rfl (fun ls hl => ?_)
                            refine lv_iconst (v := 0) hx hb dX12_pour_155 (by decide) ?_
                            refine lv_istore (lv' := [(7, .int 0), (6, .int 0), (0, .ref h0), (1, .int t), (2, .int i), (3, .int to), (4, .int j), (5, .int nn)]) hx hb dX12_pour_156 hl (by decide) rfl (fun ls hl => ?_)
                            have hlp_433 : ∀ (n : Nat) (v_419 : Int32) (g_420 : Nat → Int64) (H : Heap) (locs : List Loc) (ls : Array Slot), (2147483647 - v_419.toInt).toNat < n → (0 ≤ v_419.toInt ∧ v_419.toInt ≤ 60) → va_P G vwCl [(h0, .inr (12, [.int 0, .int 0, .long m_above, .long m_under, .ref a_traySort, .ref a_trayMany, .ref a_numbers, .ref a_tape, .int m_taped, .int m_textEnd, .int m_faultKind, .int m_faultAt, .int m_bad, .int m_badAt, .int m_token, .int m_at, .int m_behind, .int m_number, .int m_letters, .long m_word, .ref a_c, .ref a_words, .int m_markMany, .ref a_there, .ref a_tried, .ref a_best, .ref a_found, .int m_thereMany, .int m_foundMany, .int m_orderHow, .int m_orderRing, .int m_orderMany, .int m_hasBest, .long m_bestTop, .long m_bestBy, .ref a_weights, .ref a_shared, .int m_random, .int m_truePlace, .int m_trueWay, .int m_seconds, .int m_done, .int m_feelings, .int m_tries, .int m_leftOver, .int m_playDoor, .int m_playRing, .int m_isOpen, .int m_isOver, .int m_wasTried, .int m_hasPlayed, .ref a_feltNow, .ref a_last, .ref a_kept, .int m_hasSeconds, .int m_hasTurned, .int m_hasRound, .ref a_hasFeels, .ref a_isOn, .int m_firstAct, .long m_meanTop, .long m_meanBy, .ref a_order, .int m_rowMany, .int m_newSteps])), (a_traySort, .inl (cA.1 0, 4, .inl g_traySort)), (a_trayMany, .inl (cA.1 0, 4, .inl g_trayMany)), (a_numbers, .inl (cA.1 1, 240, .inr (.inl g_420)))] H → va_D A [(h0, .inr (12, [.int 0, .int 0, .long m_above, .long m_under, .ref a_traySort, .ref a_trayMany, .ref a_numbers, .ref a_tape, .int m_taped, .int m_textEnd, .int m_faultKind, .int m_faultAt, .int m_bad, .int m_badAt, .int m_token, .int m_at, .int m_behind, .int m_number, .int m_letters, .long m_word, .ref a_c, .ref a_words, .int m_markMany, .ref a_there, .ref a_tried, .ref a_best, .ref a_found, .int m_thereMany, .int m_foundMany, .int m_orderHow, .int m_orderRing, .int m_orderMany, .int m_hasBest, .long m_bestTop, .long m_bestBy, .ref a_weights, .ref a_shared, .int m_random, .int m_truePlace, .int m_trueWay, .int m_seconds, .int m_done, .int m_feelings, .int m_tries, .int m_leftOver, .int m_playDoor, .int m_playRing, .int m_isOpen, .int m_isOver, .int m_wasTried, .int m_hasPlayed, .ref a_feltNow, .ref a_last, .ref a_kept, .int m_hasSeconds, .int m_hasTurned, .int m_hasRound, .ref a_hasFeels, .ref a_isOn, .int m_firstAct, .long m_meanTop, .long m_meanBy, .ref a_order, .int m_rowMany, .int m_newSteps])), (a_traySort, .inl (cA.1 0, 4, .inl g_traySort)), (a_trayMany, .inl (cA.1 0, 4, .inl g_trayMany)), (a_numbers, .inl (cA.1 1, 240, .inr (.inl g_420)))] → va_S A s.heap H locs → lv_has ls 9 [(0, .ref h0), (1, .int t), (2, .int i), (3, .int to), (4, .int j), (5, .int nn), (6, .int 0), (7, .int v_419)] → W p l e ({ frames := 1, cells := 0, slots := 0, locals := 21 }) s m args below meth c H locs 0 0 Q (F0 m 158 ls []) := by
                              intro n
                              induction n with
                              | zero =>
                                intro v_419 g_420 H locs ls hmu_hlp_433 hr_v_419 hP hD hS hl
                                exact absurd hmu_hlp_433 (Nat.not_lt_zero _)
                              | succ n ih_434 =>
                                intro v_419 g_420 H locs ls hmu_hlp_433 hr_v_419 hP hD hS hl
                                refine lv_iload hx hb dX12_pour_158 (lv_at hl 7 rfl) ?_
                                refine lv_iload hx hb dX12_pour_160 (lv_at hl 5 rfl) ?_
                                refine lv_icmp_ge (tgt := 219) hx hb dX12_pour_162 (by decide) (fun c_435 => ?_) (fun c_435 => ?_)
                                · have b_436 := z_fgeT c_435
                                  refine lv_iconst (v := 1) hx hb dX12_pour_219 (by decide) ?_
                                  have hpost : ((1 : Int32) = 0 ∧ (0 ≤ (0 : Int32).toInt ∧ (0 : Int32).toInt ≤ 0) ∧ (¬ zOk5 t i to j nn (g_traySort 0) (g_traySort 1) (g_traySort 2) (g_traySort 3) (g_trayMany 0) (g_trayMany 1) (g_trayMany 2) (g_trayMany 3))) ∨ ((1 : Int32) = 1 ∧ (0 ≤ (0 : Int32).toInt ∧ (0 : Int32).toInt ≤ 0) ∧ (0 ≤ (0 : Int32).toInt ∧ (0 : Int32).toInt ≤ 0) ∧ (zOk5 t i to j nn (g_traySort 0) (g_traySort 1) (g_traySort 2) (g_traySort 3) (g_trayMany 0) (g_trayMany 1) (g_trayMany 2) (g_trayMany 3))) := (Or.inr ⟨rfl, ⟨(by decide +kernel), (by decide +kernel), (by have q1 := fun h1 h2 => zSo_g (g := g_traySort) (t := t) h1 h2; have q2 := fun h1 h2 => zSo_g (g := g_traySort) (t := to) h1 h2; have q3 := fun h1 h2 => zSo_g (g := g_trayMany) (t := t) h1 h2; have q4 := fun h1 h2 => zSo_g (g := g_trayMany) (t := to) h1 h2; unfold zOk5; omega)⟩⟩)
                                  exact hret _ _ _ _ _ _ (0, 0, g_420) [0, 1, 2, 3] hP hD hS rfl (by decide) dX12_pour_220 (Or.inr rfl) hpost
                                · have b_437 := z_fltF c_435
                                  refine lv_iload hx hb dX12_pour_165 (lv_at hl 6 rfl) ?_
                                  refine lv_if_eq (tgt := 180) hx hb dX12_pour_167 (by decide) (fun _ => ?_) (fun h9 => absurd (by decide +kernel) h9)
                                  refine lv_iload hx hb dX12_pour_180 (lv_at hl 7 rfl) ?_
                                  refine lv_istore (lv' := [(8, .int v_419), (0, .ref h0), (1, .int t), (2, .int i), (3, .int to), (4, .int j), (5, .int nn), (6, .int 0), (7, .int v_419)]) hx hb dX12_pour_182 hl (by decide) rfl (fun ls hl => ?_)
                                  refine lv_aload_n hx hb dX12_pour_184 rfl (lv_at hl 1 rfl) ?_
                                  refine va_get (D := G) (ci := 12) (v := .ref a_numbers) (C := RX12) (T := TX12) (N := 65) hx hb hts inT12 hown hK hP 0 rfl rfl 6 (by decide) (hts _ tw_1891) (fun _ h9 => h9) rfl dX12_pour_185 ?_
                                  refine lv_bipush (v := 60) hx hb dX12_pour_188 (by decide) ?_
                                  refine lv_iload_n hx hb dX12_pour_190 rfl (lv_at hl 4 rfl) ?_
                                  refine lv_imul hx hb dX12_pour_191 ?_
                                  refine lv_topi (fun x_438 he_x_438 => ?_)
                                  have hq_x_438 := z_mulq he_x_438 hk_60 (rfl : to.toInt = _) (by omega) (by omega)
                                  refine lv_iload hx hb dX12_pour_192 (lv_at hl 5 rfl) ?_
                                  refine lv_iadd hx hb dX12_pour_194 ?_
                                  refine lv_topi (fun x_439 he_x_439 => ?_)
                                  have hq_x_439 := z_addq he_x_439 (rfl : x_438.toInt = _) (rfl : j.toInt = _) (by omega) (by omega)
                                  refine lv_iload hx hb dX12_pour_195 (lv_at hl 0 rfl) ?_
                                  refine lv_iadd hx hb dX12_pour_197 ?_
                                  refine lv_topi (fun x_440 he_x_440 => ?_)
                                  have hq_x_440 := z_addq he_x_440 (rfl : x_439.toInt = _) (rfl : v_419.toInt = _) (by omega) (by omega)
                                  refine lv_aload_n hx hb dX12_pour_198 rfl (lv_at hl 1 rfl) ?_
                                  refine va_get (D := G) (ci := 12) (v := .ref a_numbers) (C := RX12) (T := TX12) (N := 65) hx hb hts inT12 hown hK hP 0 rfl rfl 6 (by decide) (hts _ tw_1891) (fun _ h9 => h9) rfl dX12_pour_199 ?_
                                  refine lv_bipush (v := 60) hx hb dX12_pour_202 (by decide) ?_
                                  refine lv_iload_n hx hb dX12_pour_204 rfl (lv_at hl 2 rfl) ?_
                                  refine lv_imul hx hb dX12_pour_205 ?_
                                  refine lv_topi (fun x_441 he_x_441 => ?_)
                                  have hq_x_441 := z_mulq he_x_441 hk_60 (rfl : t.toInt = _) (by omega) (by omega)
                                  refine lv_iload_n hx hb dX12_pour_206 rfl (lv_at hl 3 rfl) ?_
                                  refine lv_iadd hx hb dX12_pour_207 ?_
                                  refine lv_topi (fun x_442 he_x_442 => ?_)
                                  have hq_x_442 := z_addq he_x_442 (rfl : x_441.toInt = _) (rfl : i.toInt = _) (by omega) (by omega)
                                  refine lv_iload hx hb dX12_pour_208 (lv_at hl 0 rfl) ?_
                                  refine lv_iadd hx hb dX12_pour_210 ?_
                                  refine lv_topi (fun x_443 he_x_443 => ?_)
                                  have hq_x_443 := z_addq he_x_443 (rfl : x_442.toInt = _) (rfl : v_419.toInt = _) (by omega) (by omega)
                                  refine va_lald hx hb hK hP 3 1 rfl rfl (z_inN (by omega) (by omega)) dX12_pour_211 ?_
                                  refine lv_topl (fun x_444 he_x_444 => ?_)
                                  refine z_last hx hb hK hP hD hS 3 1 rfl rfl (z_inN (by omega) (by omega)) dX12_pour_212 (fun g_445 hg_g_445 H locs hP hD hS => ?_)
                                  obtain ⟨x_446, he_x_446⟩ : ∃ z : Int32, z = v_419 + 1 := ⟨_, rfl⟩
                                  have hq_x_446 := z_addq he_x_446 (rfl : v_419.toInt = _) hk_1 (by omega) (by omega)
                                  refine lv_iinc (v := x_446) (lv' := [(7, .int x_446), (8, .int v_419), (0, .ref h0), (1, .int t), (2, .int i), (3, .int to), (4, .int j), (5, .int nn), (6, .int 0)]) hx hb dX12_pour_213 hl (k := 8) rfl ((z_ofi (by decide +kernel)).trans he_x_446.symm) (by decide) rfl (fun ls hl => ?_)
                                  refine lv_goto (tgt := 158) hx hb dX12_pour_216 (by decide) ?_
                                  exact ih_434 x_446 g_445 H locs ls (by omega) (by omega) hP hD hS (lv_sub hl [2, 3, 4, 5, 6, 7, 8, 0] rfl)
                            exact hlp_433 _ 0 g_numbers _ _ _ (Nat.lt_succ_self _) (by decide +kernel) hP hD hS (lv_sub hl [2, 3, 4, 5, 6, 7, 1, 0] rfl)
                          · have b_447 := z_fltF c_70
                            refine lv_iconst (v := 1) hx hb dX12_pour_148 (by decide) ?_
                            refine lv_goto (tgt := 153) hx hb dX12_pour_149 (by decide) ?_
                            refine lv_istore (lv' := [(6, .int 1), (0, .ref h0), (1, .int t), (2, .int i), (3, .int to), (4, .int j), (5, .int nn)]) hx hb dX12_pour_153 hl (by decide) rfl (fun ls hl => ?_)
                            refine lv_iconst (v := 0) hx hb dX12_pour_155 (by decide) ?_
                            refine lv_istore (lv' := [(7, .int 0), (6, .int 1), (0, .ref h0), (1, .int t), (2, .int i), (3, .int to), (4, .int j), (5, .int nn)]) hx hb dX12_pour_156 hl (by decide) rfl (fun ls hl => ?_)
                            have hlp_861 : ∀ (n : Nat) (v_845 : Int32) (g_846 : Nat → Int64) (H : Heap) (locs : List Loc) (ls : Array Slot), (2147483647 - v_845.toInt).toNat < n → (0 ≤ v_845.toInt ∧ v_845.toInt ≤ 60) → va_P G vwCl [(h0, .inr (12, [.int 0, .int 0, .long m_above, .long m_under, .ref a_traySort, .ref a_trayMany, .ref a_numbers, .ref a_tape, .int m_taped, .int m_textEnd, .int m_faultKind, .int m_faultAt, .int m_bad, .int m_badAt, .int m_token, .int m_at, .int m_behind, .int m_number, .int m_letters, .long m_word, .ref a_c, .ref a_words, .int m_markMany, .ref a_there, .ref a_tried, .ref a_best, .ref a_found, .int m_thereMany, .int m_foundMany, .int m_orderHow, .int m_orderRing, .int m_orderMany, .int m_hasBest, .long m_bestTop, .long m_bestBy, .ref a_weights, .ref a_shared, .int m_random, .int m_truePlace, .int m_trueWay, .int m_seconds, .int m_done, .int m_feelings, .int m_tries, .int m_leftOver, .int m_playDoor, .int m_playRing, .int m_isOpen, .int m_isOver, .int m_wasTried, .int m_hasPlayed, .ref a_feltNow, .ref a_last, .ref a_kept, .int m_hasSeconds, .int m_hasTurned, .int m_hasRound, .ref a_hasFeels, .ref a_isOn, .int m_firstAct, .long m_meanTop, .long m_meanBy, .ref a_order, .int m_rowMany, .int m_newSteps])), (a_traySort, .inl (cA.1 0, 4, .inl g_traySort)), (a_trayMany, .inl (cA.1 0, 4, .inl g_trayMany)), (a_numbers, .inl (cA.1 1, 240, .inr (.inl g_846)))] H → va_D A [(h0, .inr (12, [.int 0, .int 0, .long m_above, .long m_under, .ref a_traySort, .ref a_trayMany, .ref a_numbers, .ref a_tape, .int m_taped, .int m_textEnd, .int m_faultKind, .int m_faultAt, .int m_bad, .int m_badAt, .int m_token, .int m_at, .int m_behind, .int m_number, .int m_letters, .long m_word, .ref a_c, .ref a_words, .int m_markMany, .ref a_there, .ref a_tried, .ref a_best, .ref a_found, .int m_thereMany, .int m_foundMany, .int m_orderHow, .int m_orderRing, .int m_orderMany, .int m_hasBest, .long m_bestTop, .long m_bestBy, .ref a_weights, .ref a_shared, .int m_random, .int m_truePlace, .int m_trueWay, .int m_seconds, .int m_done, .int m_feelings, .int m_tries, .int m_leftOver, .int m_playDoor, .int m_playRing, .int m_isOpen, .int m_isOver, .int m_wasTried, .int m_hasPlayed, .ref a_feltNow, .ref a_last, .ref a_kept, .int m_hasSeconds, .int m_hasTurned, .int m_hasRound, .ref a_hasFeels, .ref a_isOn, .int m_firstAct, .long m_meanTop, .long m_meanBy, .ref a_order, .int m_rowMany, .int m_newSteps])), (a_traySort, .inl (cA.1 0, 4, .inl g_traySort)), (a_trayMany, .inl (cA.1 0, 4, .inl g_trayMany)), (a_numbers, .inl (cA.1 1, 240, .inr (.inl g_846)))] → va_S A s.heap H locs → lv_has ls 9 [(0, .ref h0), (1, .int t), (2, .int i), (3, .int to), (4, .int j), (5, .int nn), (6, .int 1), (7, .int v_845)] → W p l e ({ frames := 1, cells := 0, slots := 0, locals := 21 }) s m args below meth c H locs 0 0 Q (F0 m 158 ls []) := by
                              intro n
                              induction n with
                              | zero =>
                                intro v_845 g_846 H locs ls hmu_hlp_861 hr_v_845 hP hD hS hl
                                exact absurd hmu_hlp_861 (Nat.not_lt_zero _)
                              | succ n ih_862 =>
                                intro v_845 g_846 H locs ls hmu_hlp_861 hr_v_845 hP hD hS hl
                                refine lv_iload hx hb dX12_pour_158 (lv_at hl 7 rfl) ?_
                                refine lv_iload hx hb dX12_pour_160 (lv_at hl 5 rfl) ?_
                                refine lv_icmp_ge (tgt := 219) hx hb dX12_pour_162 (by decide) (fun c_863 => ?_) (fun c_863 => ?_)
                                · have b_864 := z_fgeT c_863
                                  refine lv_iconst (v := 1) hx hb dX12_pour_219 (by decide) ?_
                                  have hpost : ((1 : Int32) = 0 ∧ (0 ≤ (0 : Int32).toInt ∧ (0 : Int32).toInt ≤ 0) ∧ (¬ zOk5 t i to j nn (g_traySort 0) (g_traySort 1) (g_traySort 2) (g_traySort 3) (g_trayMany 0) (g_trayMany 1) (g_trayMany 2) (g_trayMany 3))) ∨ ((1 : Int32) = 1 ∧ (0 ≤ (0 : Int32).toInt ∧ (0 : Int32).toInt ≤ 0) ∧ (0 ≤ (0 : Int32).toInt ∧ (0 : Int32).toInt ≤ 0) ∧ (zOk5 t i to j nn (g_traySort 0) (g_traySort 1) (g_traySort 2) (g_traySort 3) (g_trayMany 0) (g_trayMany 1) (g_trayMany 2) (g_trayMany 3))) := (Or.inr ⟨rfl, ⟨(by decide +kernel), (by decide +kernel), (by have q1 := fun h1 h2 => zSo_g (g := g_traySort) (t := t) h1 h2; have q2 := fun h1 h2 => zSo_g (g := g_traySort) (t := to) h1 h2; have q3 := fun h1 h2 => zSo_g (g := g_trayMany) (t := t) h1 h2; have q4 := fun h1 h2 => zSo_g (g := g_trayMany) (t := to) h1 h2; unfold zOk5; omega)⟩⟩)
                                  exact hret _ _ _ _ _ _ (0, 0, g_846) [0, 1, 2, 3] hP hD hS rfl (by decide) dX12_pour_220 (Or.inr rfl) hpost
                                · have b_865 := z_fltF c_863
                                  refine lv_iload hx hb dX12_pour_165 (lv_at hl 6 rfl) ?_
                                  refine lv_if_eq (tgt := 180) hx hb dX12_pour_167 (by decide) (fun h9 => absurd h9 (by decide +kernel)) (fun _ => ?_)
                                  refine lv_iload hx hb dX12_pour_170 (lv_at hl 5 rfl) ?_
                                  refine lv_iconst (v := 1) hx hb dX12_pour_172 (by decide) ?_
                                  refine lv_isub hx hb dX12_pour_173 ?_
                                  refine lv_topi (fun x_866 he_x_866 => ?_)
                                  have hq_x_866 := z_subq he_x_866 (rfl : nn.toInt = _) hk_1 (by omega) (by omega)
                                  refine lv_iload hx hb dX12_pour_174 (lv_at hl 7 rfl) ?_
                                  refine lv_isub hx hb dX12_pour_176 ?_
                                  refine lv_topi (fun x_867 he_x_867 => ?_)
                                  have hq_x_867 := z_subq he_x_867 (rfl : x_866.toInt = _) (rfl : v_845.toInt = _) (by omega) (by omega)
                                  refine lv_goto (tgt := 182) hx hb dX12_pour_177 (by decide) ?_
                                  refine lv_istore (lv' := [(8, .int x_867), (0, .ref h0), (1, .int t), (2, .int i), (3, .int to), (4, .int j), (5, .int nn), (6, .int 1), (7, .int v_845)]) hx hb dX12_pour_182 hl (by decide) rfl (fun ls hl => ?_)
                                  refine lv_aload_n hx hb dX12_pour_184 rfl (lv_at hl 1 rfl) ?_
                                  refine va_get (D := G) (ci := 12) (v := .ref a_numbers) (C := RX12) (T := TX12) (N := 65) hx hb hts inT12 hown hK hP 0 rfl rfl 6 (by decide) (hts _ tw_1891) (fun _ h9 => h9) rfl dX12_pour_185 ?_
                                  refine lv_bipush (v := 60) hx hb dX12_pour_188 (by decide) ?_
                                  refine lv_iload_n hx hb dX12_pour_190 rfl (lv_at hl 4 rfl) ?_
                                  refine lv_imul hx hb dX12_pour_191 ?_
                                  refine lv_topi (fun x_868 he_x_868 => ?_)
                                  have hq_x_868 := z_mulq he_x_868 hk_60 (rfl : to.toInt = _) (by omega) (by omega)
                                  refine lv_iload hx hb dX12_pour_192 (lv_at hl 5 rfl) ?_
                                  refine lv_iadd hx hb dX12_pour_194 ?_
                                  refine lv_topi (fun x_869 he_x_869 => ?_)
                                  have hq_x_869 := z_addq he_x_869 (rfl : x_868.toInt = _) (rfl : j.toInt = _) (by omega) (by omega)
                                  refine lv_iload hx hb dX12_pour_195 (lv_at hl 0 rfl) ?_
                                  refine lv_iadd hx hb dX12_pour_197 ?_
                                  refine lv_topi (fun x_870 he_x_870 => ?_)
                                  have hq_x_870 := z_addq he_x_870 (rfl : x_869.toInt = _) (rfl : x_867.toInt = _) (by omega) (by omega)
                                  refine lv_aload_n hx hb dX12_pour_198 rfl (lv_at hl 1 rfl) ?_
                                  refine va_get (D := G) (ci := 12) (v := .ref a_numbers) (C := RX12) (T := TX12) (N := 65) hx hb hts inT12 hown hK hP 0 rfl rfl 6 (by decide) (hts _ tw_1891) (fun _ h9 => h9) rfl dX12_pour_199 ?_
                                  refine lv_bipush (v := 60) hx hb dX12_pour_202 (by decide) ?_
                                  refine lv_iload_n hx hb dX12_pour_204 rfl (lv_at hl 2 rfl) ?_
                                  refine lv_imul hx hb dX12_pour_205 ?_
                                  refine lv_topi (fun x_871 he_x_871 => ?_)
                                  have hq_x_871 := z_mulq he_x_871 hk_60 (rfl : t.toInt = _) (by omega) (by omega)
                                  refine lv_iload_n hx hb dX12_pour_206 rfl (lv_at hl 3 rfl) ?_
                                  refine lv_iadd hx hb dX12_pour_207 ?_
                                  refine lv_topi (fun x_872 he_x_872 => ?_)
                                  have hq_x_872 := z_addq he_x_872 (rfl : x_871.toInt = _) (rfl : i.toInt = _) (by omega) (by omega)
                                  refine lv_iload hx hb dX12_pour_208 (lv_at hl 0 rfl) ?_
                                  refine lv_iadd hx hb dX12_pour_210 ?_
                                  refine lv_topi (fun x_873 he_x_873 => ?_)
                                  have hq_x_873 := z_addq he_x_873 (rfl : x_872.toInt = _) (rfl : x_867.toInt = _) (by omega) (by omega)
                                  refine va_lald hx hb hK hP 3 1 rfl rfl (z_inN (by omega) (by omega)) dX12_pour_211 ?_
                                  refine lv_topl (fun x_874 he_x_874 => ?_)
                                  refine z_last hx hb hK hP hD hS 3 1 rfl rfl (z_inN (by omega) (by omega)) dX12_pour_212 (fun g_875 hg_g_875 H locs hP hD hS => ?_)
                                  obtain ⟨x_876, he_x_876⟩ : ∃ z : Int32, z = v_845 + 1 := ⟨_, rfl⟩
                                  have hq_x_876 := z_addq he_x_876 (rfl : v_845.toInt = _) hk_1 (by omega) (by omega)
                                  refine lv_iinc (v := x_876) (lv' := [(7, .int x_876), (8, .int x_867), (0, .ref h0), (1, .int t), (2, .int i), (3, .int to), (4, .int j), (5, .int nn), (6, .int 1)]) hx hb dX12_pour_213 hl (k := 8) rfl ((z_ofi (by decide +kernel)).trans he_x_876.symm) (by decide) rfl (fun ls hl => ?_)
                                  refine lv_goto (tgt := 158) hx hb dX12_pour_216 (by decide) ?_
                                  exact ih_862 x_876 g_875 H locs ls (by omega) (by omega) hP hD hS (lv_sub hl [2, 3, 4, 5, 6, 7, 8, 0] rfl)
                            exact hlp_861 _ 0 g_numbers _ _ _ (Nat.lt_succ_self _) (by decide +kernel) hP hD hS (lv_sub hl [2, 3, 4, 5, 6, 7, 1, 0] rfl)
                        · have b_877 := z_fgtFl c_65
                          refine lv_aload_n hx hb dX12_pour_136 rfl (lv_at hl 0 rfl) ?_
                          refine lv_iconst (v := 4) hx hb dX12_pour_137 (by decide) ?_
                          refine z_callVi (As := [.int 4]) (rest := []) (wr := [(a_traySort, .inl (cA.1 0, 4, .inl g_traySort)), (a_trayMany, .inl (cA.1 0, 4, .inl g_trayMany)), (a_numbers, .inl (cA.1 1, 240, .inr (.inl g_numbers)))]) ⟨hx, hb, hml, hown, hts⟩ hK hE hT hP hD hS hA (r_no l G cA h0 0 0 m_above m_under a_traySort a_trayMany a_numbers a_tape m_taped m_textEnd m_faultKind m_faultAt m_bad m_badAt m_token m_at m_behind m_number m_letters m_word a_c a_words m_markMany a_there a_tried a_best a_found m_thereMany m_foundMany m_orderHow m_orderRing m_orderMany m_hasBest m_bestTop m_bestBy a_weights a_shared m_random m_truePlace m_trueWay m_seconds m_done m_feelings m_tries m_leftOver m_playDoor m_playRing m_isOpen m_isOver m_wasTried m_hasPlayed a_feltNow a_last a_kept m_hasSeconds m_hasTurned m_hasRound a_hasFeels a_isOn m_firstAct m_meanTop m_meanBy a_order m_rowMany m_newSteps 4) lk_RX12_97 ⟨rfl, rfl⟩ ⟨Nat.le_of_ble_eq_true rfl, Nat.le_of_ble_eq_true rfl⟩ 12 rfl rfl rfl [0] [1, 2, 3] rfl rfl (by decide) rfl hl.1 rfl (lv_room (Nat.le_of_ble_eq_true rfl)) dX12_pour_138 ⟨Nat.le_of_ble_eq_true rfl, Nat.le_of_ble_eq_true rfl⟩ (fun r_879 u_880 H locs hw hP hD hS => ?_)
                          obtain ⟨n_878, rfl⟩ : ∃ z, z = u_880 := ⟨_, rfl⟩
                          obtain ⟨rfl, -⟩ := hw
                          have hpost : ((0 : Int32) = 0 ∧ (0 ≤ (0 : Int32).toInt ∧ (0 : Int32).toInt ≤ 0) ∧ (¬ zOk5 t i to j nn (g_traySort 0) (g_traySort 1) (g_traySort 2) (g_traySort 3) (g_trayMany 0) (g_trayMany 1) (g_trayMany 2) (g_trayMany 3))) ∨ ((0 : Int32) = 1 ∧ (0 ≤ n_878.toInt ∧ n_878.toInt ≤ 0) ∧ (0 ≤ (0 : Int32).toInt ∧ (0 : Int32).toInt ≤ 0) ∧ (zOk5 t i to j nn (g_traySort 0) (g_traySort 1) (g_traySort 2) (g_traySort 3) (g_trayMany 0) (g_trayMany 1) (g_trayMany 2) (g_trayMany 3))) := (Or.inl ⟨rfl, ⟨(by decide +kernel), (by have q1 := fun h1 h2 => zSo_g (g := g_traySort) (t := t) h1 h2; have q2 := fun h1 h2 => zSo_g (g := g_traySort) (t := to) h1 h2; have q3 := fun h1 h2 => zSo_g (g := g_trayMany) (t := t) h1 h2; have q4 := fun h1 h2 => zSo_g (g := g_trayMany) (t := to) h1 h2; unfold zOk5; omega)⟩⟩)
                          exact hret _ _ _ _ _ _ (n_878, 0, g_numbers) [3, 0, 1, 2] hP hD hS rfl (by decide) dX12_pour_141 (Or.inl rfl) hpost
                · have b_881 := z_fltF c_35
                  refine lv_aload_n hx hb dX12_pour_85 rfl (lv_at hl 0 rfl) ?_
                  refine lv_bipush (v := 6) hx hb dX12_pour_86 (by decide) ?_
                  refine z_callVi (As := [.int 6]) (rest := []) (wr := [(a_traySort, .inl (cA.1 0, 4, .inl g_traySort)), (a_trayMany, .inl (cA.1 0, 4, .inl g_trayMany)), (a_numbers, .inl (cA.1 1, 240, .inr (.inl g_numbers)))]) ⟨hx, hb, hml, hown, hts⟩ hK hE hT hP hD hS hA (r_no l G cA h0 0 0 m_above m_under a_traySort a_trayMany a_numbers a_tape m_taped m_textEnd m_faultKind m_faultAt m_bad m_badAt m_token m_at m_behind m_number m_letters m_word a_c a_words m_markMany a_there a_tried a_best a_found m_thereMany m_foundMany m_orderHow m_orderRing m_orderMany m_hasBest m_bestTop m_bestBy a_weights a_shared m_random m_truePlace m_trueWay m_seconds m_done m_feelings m_tries m_leftOver m_playDoor m_playRing m_isOpen m_isOver m_wasTried m_hasPlayed a_feltNow a_last a_kept m_hasSeconds m_hasTurned m_hasRound a_hasFeels a_isOn m_firstAct m_meanTop m_meanBy a_order m_rowMany m_newSteps 6) lk_RX12_97 ⟨rfl, rfl⟩ ⟨Nat.le_of_ble_eq_true rfl, Nat.le_of_ble_eq_true rfl⟩ 12 rfl rfl rfl [0] [1, 2, 3] rfl rfl (by decide) rfl hl.1 rfl (lv_room (Nat.le_of_ble_eq_true rfl)) dX12_pour_88 ⟨Nat.le_of_ble_eq_true rfl, Nat.le_of_ble_eq_true rfl⟩ (fun r_883 u_884 H locs hw hP hD hS => ?_)
                  obtain ⟨n_882, rfl⟩ : ∃ z, z = u_884 := ⟨_, rfl⟩
                  obtain ⟨rfl, -⟩ := hw
                  have hpost : ((0 : Int32) = 0 ∧ (0 ≤ (0 : Int32).toInt ∧ (0 : Int32).toInt ≤ 0) ∧ (¬ zOk5 t i to j nn (g_traySort 0) (g_traySort 1) (g_traySort 2) (g_traySort 3) (g_trayMany 0) (g_trayMany 1) (g_trayMany 2) (g_trayMany 3))) ∨ ((0 : Int32) = 1 ∧ (0 ≤ n_882.toInt ∧ n_882.toInt ≤ 0) ∧ (0 ≤ (0 : Int32).toInt ∧ (0 : Int32).toInt ≤ 0) ∧ (zOk5 t i to j nn (g_traySort 0) (g_traySort 1) (g_traySort 2) (g_traySort 3) (g_trayMany 0) (g_trayMany 1) (g_trayMany 2) (g_trayMany 3))) := (Or.inl ⟨rfl, ⟨(by decide +kernel), (by have q1 := fun h1 h2 => zSo_g (g := g_traySort) (t := t) h1 h2; have q2 := fun h1 h2 => zSo_g (g := g_traySort) (t := to) h1 h2; have q3 := fun h1 h2 => zSo_g (g := g_trayMany) (t := t) h1 h2; have q4 := fun h1 h2 => zSo_g (g := g_trayMany) (t := to) h1 h2; unfold zOk5; omega)⟩⟩)
                  exact hret _ _ _ _ _ _ (n_882, 0, g_numbers) [3, 0, 1, 2] hP hD hS rfl (by decide) dX12_pour_91 (Or.inl rfl) hpost
              · have b_885 := z_fneF c_33
                refine lv_aload_n hx hb dX12_pour_73 rfl (lv_at hl 0 rfl) ?_
                refine lv_bipush (v := 11) hx hb dX12_pour_74 (by decide) ?_
                refine z_callVi (As := [.int 11]) (rest := []) (wr := [(a_traySort, .inl (cA.1 0, 4, .inl g_traySort)), (a_trayMany, .inl (cA.1 0, 4, .inl g_trayMany)), (a_numbers, .inl (cA.1 1, 240, .inr (.inl g_numbers)))]) ⟨hx, hb, hml, hown, hts⟩ hK hE hT hP hD hS hA (r_no l G cA h0 0 0 m_above m_under a_traySort a_trayMany a_numbers a_tape m_taped m_textEnd m_faultKind m_faultAt m_bad m_badAt m_token m_at m_behind m_number m_letters m_word a_c a_words m_markMany a_there a_tried a_best a_found m_thereMany m_foundMany m_orderHow m_orderRing m_orderMany m_hasBest m_bestTop m_bestBy a_weights a_shared m_random m_truePlace m_trueWay m_seconds m_done m_feelings m_tries m_leftOver m_playDoor m_playRing m_isOpen m_isOver m_wasTried m_hasPlayed a_feltNow a_last a_kept m_hasSeconds m_hasTurned m_hasRound a_hasFeels a_isOn m_firstAct m_meanTop m_meanBy a_order m_rowMany m_newSteps 11) lk_RX12_97 ⟨rfl, rfl⟩ ⟨Nat.le_of_ble_eq_true rfl, Nat.le_of_ble_eq_true rfl⟩ 12 rfl rfl rfl [0] [1, 2, 3] rfl rfl (by decide) rfl hl.1 rfl (lv_room (Nat.le_of_ble_eq_true rfl)) dX12_pour_76 ⟨Nat.le_of_ble_eq_true rfl, Nat.le_of_ble_eq_true rfl⟩ (fun r_887 u_888 H locs hw hP hD hS => ?_)
                obtain ⟨n_886, rfl⟩ : ∃ z, z = u_888 := ⟨_, rfl⟩
                obtain ⟨rfl, -⟩ := hw
                have hpost : ((0 : Int32) = 0 ∧ (0 ≤ (0 : Int32).toInt ∧ (0 : Int32).toInt ≤ 0) ∧ (¬ zOk5 t i to j nn (g_traySort 0) (g_traySort 1) (g_traySort 2) (g_traySort 3) (g_trayMany 0) (g_trayMany 1) (g_trayMany 2) (g_trayMany 3))) ∨ ((0 : Int32) = 1 ∧ (0 ≤ n_886.toInt ∧ n_886.toInt ≤ 0) ∧ (0 ≤ (0 : Int32).toInt ∧ (0 : Int32).toInt ≤ 0) ∧ (zOk5 t i to j nn (g_traySort 0) (g_traySort 1) (g_traySort 2) (g_traySort 3) (g_trayMany 0) (g_trayMany 1) (g_trayMany 2) (g_trayMany 3))) := (Or.inl ⟨rfl, ⟨(by decide +kernel), (by have q1 := fun h1 h2 => zSo_g (g := g_traySort) (t := t) h1 h2; have q2 := fun h1 h2 => zSo_g (g := g_traySort) (t := to) h1 h2; have q3 := fun h1 h2 => zSo_g (g := g_trayMany) (t := t) h1 h2; have q4 := fun h1 h2 => zSo_g (g := g_trayMany) (t := to) h1 h2; unfold zOk5; omega)⟩⟩)
                exact hret _ _ _ _ _ _ (n_886, 0, g_numbers) [3, 0, 1, 2] hP hD hS rfl (by decide) dX12_pour_79 (Or.inl rfl) hpost
            · have b_889 := z_fltF c_29
              refine lv_aload_n hx hb dX12_pour_52 rfl (lv_at hl 0 rfl) ?_
              refine lv_iconst (v := 3) hx hb dX12_pour_53 (by decide) ?_
              refine z_callVi (As := [.int 3]) (rest := []) (wr := [(a_traySort, .inl (cA.1 0, 4, .inl g_traySort)), (a_trayMany, .inl (cA.1 0, 4, .inl g_trayMany)), (a_numbers, .inl (cA.1 1, 240, .inr (.inl g_numbers)))]) ⟨hx, hb, hml, hown, hts⟩ hK hE hT hP hD hS hA (r_no l G cA h0 0 0 m_above m_under a_traySort a_trayMany a_numbers a_tape m_taped m_textEnd m_faultKind m_faultAt m_bad m_badAt m_token m_at m_behind m_number m_letters m_word a_c a_words m_markMany a_there a_tried a_best a_found m_thereMany m_foundMany m_orderHow m_orderRing m_orderMany m_hasBest m_bestTop m_bestBy a_weights a_shared m_random m_truePlace m_trueWay m_seconds m_done m_feelings m_tries m_leftOver m_playDoor m_playRing m_isOpen m_isOver m_wasTried m_hasPlayed a_feltNow a_last a_kept m_hasSeconds m_hasTurned m_hasRound a_hasFeels a_isOn m_firstAct m_meanTop m_meanBy a_order m_rowMany m_newSteps 3) lk_RX12_97 ⟨rfl, rfl⟩ ⟨Nat.le_of_ble_eq_true rfl, Nat.le_of_ble_eq_true rfl⟩ 12 rfl rfl rfl [0] [1, 2, 3] rfl rfl (by decide) rfl hl.1 rfl (lv_room (Nat.le_of_ble_eq_true rfl)) dX12_pour_54 ⟨Nat.le_of_ble_eq_true rfl, Nat.le_of_ble_eq_true rfl⟩ (fun r_891 u_892 H locs hw hP hD hS => ?_)
              obtain ⟨n_890, rfl⟩ : ∃ z, z = u_892 := ⟨_, rfl⟩
              obtain ⟨rfl, -⟩ := hw
              have hpost : ((0 : Int32) = 0 ∧ (0 ≤ (0 : Int32).toInt ∧ (0 : Int32).toInt ≤ 0) ∧ (¬ zOk5 t i to j nn (g_traySort 0) (g_traySort 1) (g_traySort 2) (g_traySort 3) (g_trayMany 0) (g_trayMany 1) (g_trayMany 2) (g_trayMany 3))) ∨ ((0 : Int32) = 1 ∧ (0 ≤ n_890.toInt ∧ n_890.toInt ≤ 0) ∧ (0 ≤ (0 : Int32).toInt ∧ (0 : Int32).toInt ≤ 0) ∧ (zOk5 t i to j nn (g_traySort 0) (g_traySort 1) (g_traySort 2) (g_traySort 3) (g_trayMany 0) (g_trayMany 1) (g_trayMany 2) (g_trayMany 3))) := (Or.inl ⟨rfl, ⟨(by decide +kernel), (by have q1 := fun h1 h2 => zSo_g (g := g_traySort) (t := t) h1 h2; have q2 := fun h1 h2 => zSo_g (g := g_traySort) (t := to) h1 h2; have q3 := fun h1 h2 => zSo_g (g := g_trayMany) (t := t) h1 h2; have q4 := fun h1 h2 => zSo_g (g := g_trayMany) (t := to) h1 h2; unfold zOk5; omega)⟩⟩)
              exact hret _ _ _ _ _ _ (n_890, 0, g_numbers) [3, 0, 1, 2] hP hD hS rfl (by decide) dX12_pour_57 (Or.inl rfl) hpost
        · have b_893 := z_fgeF c_19
          refine lv_aload_n hx hb dX12_pour_28 rfl (lv_at hl 0 rfl) ?_
          refine lv_iconst (v := 1) hx hb dX12_pour_29 (by decide) ?_
          refine z_callVi (As := [.int 1]) (rest := []) (wr := [(a_traySort, .inl (cA.1 0, 4, .inl g_traySort)), (a_trayMany, .inl (cA.1 0, 4, .inl g_trayMany)), (a_numbers, .inl (cA.1 1, 240, .inr (.inl g_numbers)))]) ⟨hx, hb, hml, hown, hts⟩ hK hE hT hP hD hS hA (r_no l G cA h0 0 0 m_above m_under a_traySort a_trayMany a_numbers a_tape m_taped m_textEnd m_faultKind m_faultAt m_bad m_badAt m_token m_at m_behind m_number m_letters m_word a_c a_words m_markMany a_there a_tried a_best a_found m_thereMany m_foundMany m_orderHow m_orderRing m_orderMany m_hasBest m_bestTop m_bestBy a_weights a_shared m_random m_truePlace m_trueWay m_seconds m_done m_feelings m_tries m_leftOver m_playDoor m_playRing m_isOpen m_isOver m_wasTried m_hasPlayed a_feltNow a_last a_kept m_hasSeconds m_hasTurned m_hasRound a_hasFeels a_isOn m_firstAct m_meanTop m_meanBy a_order m_rowMany m_newSteps 1) lk_RX12_97 ⟨rfl, rfl⟩ ⟨Nat.le_of_ble_eq_true rfl, Nat.le_of_ble_eq_true rfl⟩ 12 rfl rfl rfl [0] [1, 2, 3] rfl rfl (by decide) rfl hl.1 rfl (lv_room (Nat.le_of_ble_eq_true rfl)) dX12_pour_30 ⟨Nat.le_of_ble_eq_true rfl, Nat.le_of_ble_eq_true rfl⟩ (fun r_895 u_896 H locs hw hP hD hS => ?_)
          obtain ⟨n_894, rfl⟩ : ∃ z, z = u_896 := ⟨_, rfl⟩
          obtain ⟨rfl, -⟩ := hw
          have hpost : ((0 : Int32) = 0 ∧ (0 ≤ (0 : Int32).toInt ∧ (0 : Int32).toInt ≤ 0) ∧ (¬ zOk5 t i to j nn (g_traySort 0) (g_traySort 1) (g_traySort 2) (g_traySort 3) (g_trayMany 0) (g_trayMany 1) (g_trayMany 2) (g_trayMany 3))) ∨ ((0 : Int32) = 1 ∧ (0 ≤ n_894.toInt ∧ n_894.toInt ≤ 0) ∧ (0 ≤ (0 : Int32).toInt ∧ (0 : Int32).toInt ≤ 0) ∧ (zOk5 t i to j nn (g_traySort 0) (g_traySort 1) (g_traySort 2) (g_traySort 3) (g_trayMany 0) (g_trayMany 1) (g_trayMany 2) (g_trayMany 3))) := (Or.inl ⟨rfl, ⟨(by decide +kernel), (by have q1 := fun h1 h2 => zSo_g (g := g_traySort) (t := t) h1 h2; have q2 := fun h1 h2 => zSo_g (g := g_traySort) (t := to) h1 h2; have q3 := fun h1 h2 => zSo_g (g := g_trayMany) (t := t) h1 h2; have q4 := fun h1 h2 => zSo_g (g := g_trayMany) (t := to) h1 h2; unfold zOk5; omega)⟩⟩)
          exact hret _ _ _ _ _ _ (n_894, 0, g_numbers) [3, 0, 1, 2] hP hD hS rfl (by decide) dX12_pour_33 (Or.inl rfl) hpost
set_option maxHeartbeats 4000000 in
set_option maxRecDepth 100000 in
theorem r_next2 (l : Launch) (G : va_G) (cA : zCA) (h0 : Nat) (m_status : Int32) (m_thrown : Int32) (m_above : Int64) (m_under : Int64) (a_traySort : Nat) (a_trayMany : Nat) (a_numbers : Nat) (a_tape : Nat) (m_taped : Int32) (m_textEnd : Int32) (m_faultKind : Int32) (m_faultAt : Int32) (m_bad : Int32) (m_badAt : Int32) (m_token : Int32) (m_at : Int32) (m_behind : Int32) (m_number : Int32) (m_letters : Int32) (m_word : Int64) (a_c : Nat) (a_words : Nat) (m_markMany : Int32) (a_there : Nat) (a_tried : Nat) (a_best : Nat) (a_found : Nat) (m_thereMany : Int32) (m_foundMany : Int32) (m_orderHow : Int32) (m_orderRing : Int32) (m_orderMany : Int32) (m_hasBest : Int32) (m_bestTop : Int64) (m_bestBy : Int64) (a_weights : Nat) (a_shared : Nat) (m_random : Int32) (m_truePlace : Int32) (m_trueWay : Int32) (m_seconds : Int32) (m_done : Int32) (m_feelings : Int32) (m_tries : Int32) (m_leftOver : Int32) (m_playDoor : Int32) (m_playRing : Int32) (m_isOpen : Int32) (m_isOver : Int32) (m_wasTried : Int32) (m_hasPlayed : Int32) (a_feltNow : Nat) (a_last : Nat) (a_kept : Nat) (m_hasSeconds : Int32) (m_hasTurned : Int32) (m_hasRound : Int32) (a_hasFeels : Nat) (a_isOn : Nat) (m_firstAct : Int32) (m_meanTop : Int64) (m_meanBy : Int64) (a_order : Nat) (m_rowMany : Int32) (m_newSteps : Int32) (g_tape : Nat → Int32) (hr_m_textEnd : 0 ≤ m_textEnd.toInt ∧ m_textEnd.toInt ≤ 900) (hr_m_at : 0 ≤ m_at.toInt ∧ m_at.toInt ≤ 900) (hr_m_behind : 0 ≤ m_behind.toInt ∧ m_behind.toInt ≤ 900) (hr_m_token : 0 ≤ m_token.toInt ∧ m_token.toInt ≤ 4) (hr_m_number : 0 ≤ m_number.toInt ∧ m_number.toInt ≤ 9999) (hr_m_letters : 0 ≤ m_letters.toInt ∧ m_letters.toInt ≤ 900) : zCv l yX12_next2 cX12_next2 2 none ({ frames := 1, cells := 0, slots := 0, locals := 21 }) G cA [.ref h0] [(h0, .inr (12, [.int m_status, .int m_thrown, .long m_above, .long m_under, .ref a_traySort, .ref a_trayMany, .ref a_numbers, .ref a_tape, .int m_taped, .int m_textEnd, .int m_faultKind, .int m_faultAt, .int m_bad, .int m_badAt, .int m_token, .int m_at, .int m_behind, .int m_number, .int m_letters, .long m_word, .ref a_c, .ref a_words, .int m_markMany, .ref a_there, .ref a_tried, .ref a_best, .ref a_found, .int m_thereMany, .int m_foundMany, .int m_orderHow, .int m_orderRing, .int m_orderMany, .int m_hasBest, .long m_bestTop, .long m_bestBy, .ref a_weights, .ref a_shared, .int m_random, .int m_truePlace, .int m_trueWay, .int m_seconds, .int m_done, .int m_feelings, .int m_tries, .int m_leftOver, .int m_playDoor, .int m_playRing, .int m_isOpen, .int m_isOver, .int m_wasTried, .int m_hasPlayed, .ref a_feltNow, .ref a_last, .ref a_kept, .int m_hasSeconds, .int m_hasTurned, .int m_hasRound, .ref a_hasFeels, .ref a_isOn, .int m_firstAct, .long m_meanTop, .long m_meanBy, .ref a_order, .int m_rowMany, .int m_newSteps])), (a_tape, .inl (cA.1 2, 900, .inl g_tape))] (S := Int32 × Int32 × Int32 × Int32 × Int32 × Int64) (fun (u : Int32 × Int32 × Int32 × Int32 × Int32 × Int64) => (0 ≤ u.1.toInt ∧ u.1.toInt ≤ 4) ∧ (0 ≤ u.2.1.toInt ∧ u.2.1.toInt ≤ 900) ∧ (0 ≤ u.2.2.1.toInt ∧ u.2.2.1.toInt ≤ 900) ∧ (0 ≤ u.2.2.2.1.toInt ∧ u.2.2.2.1.toInt ≤ 9999) ∧ (0 ≤ u.2.2.2.2.1.toInt ∧ u.2.2.2.2.1.toInt ≤ 900) ∧ (m_behind.toInt ≤ u.2.2.1.toInt) ∧ (u.1.toInt = 0 ∨ m_behind.toInt < u.2.2.1.toInt)) (fun (u : Int32 × Int32 × Int32 × Int32 × Int32 × Int64) => [(h0, .inr (12, [.int m_status, .int m_thrown, .long m_above, .long m_under, .ref a_traySort, .ref a_trayMany, .ref a_numbers, .ref a_tape, .int m_taped, .int m_textEnd, .int m_faultKind, .int m_faultAt, .int m_bad, .int m_badAt, .int u.1, .int u.2.1, .int u.2.2.1, .int u.2.2.2.1, .int u.2.2.2.2.1, .long u.2.2.2.2.2, .ref a_c, .ref a_words, .int m_markMany, .ref a_there, .ref a_tried, .ref a_best, .ref a_found, .int m_thereMany, .int m_foundMany, .int m_orderHow, .int m_orderRing, .int m_orderMany, .int m_hasBest, .long m_bestTop, .long m_bestBy, .ref a_weights, .ref a_shared, .int m_random, .int m_truePlace, .int m_trueWay, .int m_seconds, .int m_done, .int m_feelings, .int m_tries, .int m_leftOver, .int m_playDoor, .int m_playRing, .int m_isOpen, .int m_isOver, .int m_wasTried, .int m_hasPlayed, .ref a_feltNow, .ref a_last, .ref a_kept, .int m_hasSeconds, .int m_hasTurned, .int m_hasRound, .ref a_hasFeels, .ref a_isOn, .int m_firstAct, .long m_meanTop, .long m_meanBy, .ref a_order, .int m_rowMany, .int m_newSteps])), (a_tape, .inl (cA.1 2, 900, .inl g_tape))]) 0 0 := by
  have hk_0 : (0 : Int32).toInt = 0 := by decide +kernel
  have hk_1 : (1 : Int32).toInt = 1 := by decide +kernel
  have hk_2 : (2 : Int32).toInt = 2 := by decide +kernel
  have hk_3 : (3 : Int32).toInt = 3 := by decide +kernel
  have hk_4 : (4 : Int32).toInt = 4 := by decide +kernel
  have hk_8 : (8 : Int32).toInt = 8 := by decide +kernel
  have hk_10 : (10 : Int32).toInt = 10 := by decide +kernel
  have hk_32 : (32 : Int32).toInt = 32 := by decide +kernel
  have hk_48 : (48 : Int32).toInt = 48 := by decide +kernel
  have hkl_0 : (0 : Int64).toInt = 0 := by decide +kernel
  have hkl_32 : (32 : Int64).toInt = 32 := by decide +kernel
  have hkl_96 : (96 : Int64).toInt = 96 := by decide +kernel
  refine z_start2v (own := RX12) (by decide) (Nat.le_of_ble_eq_true rfl) rfl ?_
  intro p e s m args below meth c A ls Q hx hb hml hts hown hK hE hT hP hD hS hA hl hret
  have hl : lv_has ls 2 [(0, .ref h0)] := hl
  refine lv_aload_n hx hb dX12_next2_0 rfl (lv_at hl 0 rfl) ?_
  refine lv_aload_n hx hb dX12_next2_1 rfl (lv_at hl 0 rfl) ?_
  refine va_get (D := G) (ci := 12) (v := .int m_behind) (C := RX12) (T := TX12) (N := 65) hx hb hts inT12 hown hK hP 0 rfl rfl 16 (by decide) (hts _ tw_1901) (fun _ h9 => h9) rfl dX12_next2_2 ?_
  refine va_put (D := G) (ci := 12) (v := .int m_behind) (ty := .int) (C := RX12) (T := TX12) (N := 65) hx hb hts inT12 tyX12 tyX12_ok nmX12 hown hK hP hD hS 0 rfl rfl 15 (by decide) (hts _ tw_1900) (fun _ h9 => h9) rfl (tyX12_ok 15 (by decide)) rfl rfl (Nat.le_of_ble_eq_true rfl) dX12_next2_5 (fun H locs hP hD hS => ?_)
  have hlp_61 : ∀ (n : Nat) (v_40 : Int32) (H : Heap) (locs : List Loc) (ls : Array Slot), (2147483647 - v_40.toInt).toNat < n → (0 ≤ v_40.toInt ∧ v_40.toInt ≤ 900) → (m_behind.toInt ≤ v_40.toInt) → va_P G vwCl [(h0, .inr (12, [.int m_status, .int m_thrown, .long m_above, .long m_under, .ref a_traySort, .ref a_trayMany, .ref a_numbers, .ref a_tape, .int m_taped, .int m_textEnd, .int m_faultKind, .int m_faultAt, .int m_bad, .int m_badAt, .int m_token, .int v_40, .int m_behind, .int m_number, .int m_letters, .long m_word, .ref a_c, .ref a_words, .int m_markMany, .ref a_there, .ref a_tried, .ref a_best, .ref a_found, .int m_thereMany, .int m_foundMany, .int m_orderHow, .int m_orderRing, .int m_orderMany, .int m_hasBest, .long m_bestTop, .long m_bestBy, .ref a_weights, .ref a_shared, .int m_random, .int m_truePlace, .int m_trueWay, .int m_seconds, .int m_done, .int m_feelings, .int m_tries, .int m_leftOver, .int m_playDoor, .int m_playRing, .int m_isOpen, .int m_isOver, .int m_wasTried, .int m_hasPlayed, .ref a_feltNow, .ref a_last, .ref a_kept, .int m_hasSeconds, .int m_hasTurned, .int m_hasRound, .ref a_hasFeels, .ref a_isOn, .int m_firstAct, .long m_meanTop, .long m_meanBy, .ref a_order, .int m_rowMany, .int m_newSteps])), (a_tape, .inl (cA.1 2, 900, .inl g_tape))] H → va_D A [(h0, .inr (12, [.int m_status, .int m_thrown, .long m_above, .long m_under, .ref a_traySort, .ref a_trayMany, .ref a_numbers, .ref a_tape, .int m_taped, .int m_textEnd, .int m_faultKind, .int m_faultAt, .int m_bad, .int m_badAt, .int m_token, .int v_40, .int m_behind, .int m_number, .int m_letters, .long m_word, .ref a_c, .ref a_words, .int m_markMany, .ref a_there, .ref a_tried, .ref a_best, .ref a_found, .int m_thereMany, .int m_foundMany, .int m_orderHow, .int m_orderRing, .int m_orderMany, .int m_hasBest, .long m_bestTop, .long m_bestBy, .ref a_weights, .ref a_shared, .int m_random, .int m_truePlace, .int m_trueWay, .int m_seconds, .int m_done, .int m_feelings, .int m_tries, .int m_leftOver, .int m_playDoor, .int m_playRing, .int m_isOpen, .int m_isOver, .int m_wasTried, .int m_hasPlayed, .ref a_feltNow, .ref a_last, .ref a_kept, .int m_hasSeconds, .int m_hasTurned, .int m_hasRound, .ref a_hasFeels, .ref a_isOn, .int m_firstAct, .long m_meanTop, .long m_meanBy, .ref a_order, .int m_rowMany, .int m_newSteps])), (a_tape, .inl (cA.1 2, 900, .inl g_tape))] → va_S A s.heap H locs → lv_has ls 2 [(0, .ref h0)] → W p l e ({ frames := 1, cells := 0, slots := 0, locals := 21 }) s m args below meth c H locs 0 0 Q (F0 m 8 ls []) := by
    intro n
    induction n with
    | zero =>
      intro v_40 H locs ls hmu_hlp_61 hr_v_40 hi_60 hP hD hS hl
      exact absurd hmu_hlp_61 (Nat.not_lt_zero _)
    | succ n ih_62 =>
      intro v_40 H locs ls hmu_hlp_61 hr_v_40 hi_60 hP hD hS hl
      refine lv_aload_n hx hb dX12_next2_8 rfl (lv_at hl 0 rfl) ?_
      refine va_get (D := G) (ci := 12) (v := .int v_40) (C := RX12) (T := TX12) (N := 65) hx hb hts inT12 hown hK hP 0 rfl rfl 15 (by decide) (hts _ tw_1900) (fun _ h9 => h9) rfl dX12_next2_9 ?_
      refine lv_aload_n hx hb dX12_next2_12 rfl (lv_at hl 0 rfl) ?_
      refine va_get (D := G) (ci := 12) (v := .int m_textEnd) (C := RX12) (T := TX12) (N := 65) hx hb hts inT12 hown hK hP 0 rfl rfl 9 (by decide) (hts _ tw_1894) (fun _ h9 => h9) rfl dX12_next2_13 ?_
      refine lv_icmp_ge (tgt := 58) hx hb dX12_next2_16 (by decide) (fun c_63 => ?_) (fun c_63 => ?_)
      · have b_64 := z_fgeT c_63
        refine lv_aload_n hx hb dX12_next2_58 rfl (lv_at hl 0 rfl) ?_
        refine lv_aload_n hx hb dX12_next2_59 rfl (lv_at hl 0 rfl) ?_
        refine va_get (D := G) (ci := 12) (v := .int v_40) (C := RX12) (T := TX12) (N := 65) hx hb hts inT12 hown hK hP 0 rfl rfl 15 (by decide) (hts _ tw_1900) (fun _ h9 => h9) rfl dX12_next2_60 ?_
        refine va_put (D := G) (ci := 12) (v := .int v_40) (ty := .int) (C := RX12) (T := TX12) (N := 65) hx hb hts inT12 tyX12 tyX12_ok nmX12 hown hK hP hD hS 0 rfl rfl 16 (by decide) (hts _ tw_1901) (fun _ h9 => h9) rfl (tyX12_ok 16 (by decide)) rfl rfl (Nat.le_of_ble_eq_true rfl) dX12_next2_63 (fun H locs hP hD hS => ?_)
        refine lv_aload_n hx hb dX12_next2_66 rfl (lv_at hl 0 rfl) ?_
        refine va_get (D := G) (ci := 12) (v := .int v_40) (C := RX12) (T := TX12) (N := 65) hx hb hts inT12 hown hK hP 0 rfl rfl 15 (by decide) (hts _ tw_1900) (fun _ h9 => h9) rfl dX12_next2_67 ?_
        refine lv_aload_n hx hb dX12_next2_70 rfl (lv_at hl 0 rfl) ?_
        refine va_get (D := G) (ci := 12) (v := .int m_textEnd) (C := RX12) (T := TX12) (N := 65) hx hb hts inT12 hown hK hP 0 rfl rfl 9 (by decide) (hts _ tw_1894) (fun _ h9 => h9) rfl dX12_next2_71 ?_
        refine lv_icmp_lt (tgt := 83) hx hb dX12_next2_74 (by decide) (fun c_65 => ?_) (fun c_65 => ?_)
        · have b_66 := z_fltT c_65
          refine lv_aload_n hx hb dX12_next2_83 rfl (lv_at hl 0 rfl) ?_
          refine lv_aload_n hx hb dX12_next2_84 rfl (lv_at hl 0 rfl) ?_
          refine va_get (D := G) (ci := 12) (v := .int v_40) (C := RX12) (T := TX12) (N := 65) hx hb hts inT12 hown hK hP 0 rfl rfl 15 (by decide) (hts _ tw_1900) (fun _ h9 => h9) rfl dX12_next2_85 ?_
          refine z_callVi (As := [.int v_40]) (rest := []) (wr := []) ⟨hx, hb, hml, hown, hts⟩ hK hE hT hP hD hS hA (r_look2 l G cA h0 m_status m_thrown m_above m_under a_traySort a_trayMany a_numbers a_tape m_taped m_textEnd m_faultKind m_faultAt m_bad m_badAt m_token v_40 v_40 m_number m_letters m_word a_c a_words m_markMany a_there a_tried a_best a_found m_thereMany m_foundMany m_orderHow m_orderRing m_orderMany m_hasBest m_bestTop m_bestBy a_weights a_shared m_random m_truePlace m_trueWay m_seconds m_done m_feelings m_tries m_leftOver m_playDoor m_playRing m_isOpen m_isOver m_wasTried m_hasPlayed a_feltNow a_last a_kept m_hasSeconds m_hasTurned m_hasRound a_hasFeels a_isOn m_firstAct m_meanTop m_meanBy a_order m_rowMany m_newSteps g_tape v_40 hr_v_40 hr_m_textEnd) lk_RX12_130 ⟨rfl, rfl⟩ ⟨Nat.le_of_ble_eq_true rfl, Nat.le_of_ble_eq_true rfl⟩ 12 rfl rfl rfl [0, 1] [] rfl rfl (by decide) rfl hl.1 rfl (lv_room (Nat.le_of_ble_eq_true rfl)) dX12_next2_88 ⟨Nat.le_of_ble_eq_true rfl, Nat.le_of_ble_eq_true rfl⟩ (fun r_67 u_68 H locs hw hP hD hS => ?_)
          obtain ⟨hr_r_67, hf_69, hf_70⟩ := hw
          have hlk_r_67 := hf_70
          refine lv_istore_n (lv' := [(1, .int r_67), (0, .ref h0)]) hx hb dX12_next2_91 rfl hl (by decide) rfl (fun ls hl => ?_)
          refine lv_iload_n hx hb dX12_next2_92 rfl (lv_at hl 0 rfl) ?_
          refine z_callSi (As := [.int r_67]) (rest := []) (wr := [(h0, .inr (12, [.int m_status, .int m_thrown, .long m_above, .long m_under, .ref a_traySort, .ref a_trayMany, .ref a_numbers, .ref a_tape, .int m_taped, .int m_textEnd, .int m_faultKind, .int m_faultAt, .int m_bad, .int m_badAt, .int m_token, .int v_40, .int v_40, .int m_number, .int m_letters, .long m_word, .ref a_c, .ref a_words, .int m_markMany, .ref a_there, .ref a_tried, .ref a_best, .ref a_found, .int m_thereMany, .int m_foundMany, .int m_orderHow, .int m_orderRing, .int m_orderMany, .int m_hasBest, .long m_bestTop, .long m_bestBy, .ref a_weights, .ref a_shared, .int m_random, .int m_truePlace, .int m_trueWay, .int m_seconds, .int m_done, .int m_feelings, .int m_tries, .int m_leftOver, .int m_playDoor, .int m_playRing, .int m_isOpen, .int m_isOver, .int m_wasTried, .int m_hasPlayed, .ref a_feltNow, .ref a_last, .ref a_kept, .int m_hasSeconds, .int m_hasTurned, .int m_hasRound, .ref a_hasFeels, .ref a_isOn, .int m_firstAct, .long m_meanTop, .long m_meanBy, .ref a_order, .int m_rowMany, .int m_newSteps])), (a_tape, .inl (cA.1 2, 900, .inl g_tape))]) ⟨hx, hb, hml, hown, hts⟩ hK hE hT hP hD hS hA (r_isLetter l G cA r_67) lk_RX12_136 ⟨rfl, rfl⟩ ⟨Nat.le_of_ble_eq_true rfl, Nat.le_of_ble_eq_true rfl⟩ [] [0, 1] rfl rfl (by decide) rfl hl.1 rfl (lv_room (Nat.le_of_ble_eq_true rfl)) dX12_next2_93 ⟨Nat.le_of_ble_eq_true rfl, Nat.le_of_ble_eq_true rfl⟩ (fun r_71 u_72 H locs hw hP hD hS => ?_)
          rcases hw with ⟨rfl, hf_73⟩ | ⟨rfl, hf_74⟩
          · skip
            refine lv_if_eq (tgt := 198) hx hb dX12_next2_96 (by decide) (fun _ => ?_) (fun h9 => absurd (by decide +kernel) h9)
            refine lv_iload_n hx hb dX12_next2_198 rfl (lv_at hl 0 rfl) ?_
            refine z_callSi (As := [.int r_67]) (rest := []) (wr := [(h0, .inr (12, [.int m_status, .int m_thrown, .long m_above, .long m_under, .ref a_traySort, .ref a_trayMany, .ref a_numbers, .ref a_tape, .int m_taped, .int m_textEnd, .int m_faultKind, .int m_faultAt, .int m_bad, .int m_badAt, .int m_token, .int v_40, .int v_40, .int m_number, .int m_letters, .long m_word, .ref a_c, .ref a_words, .int m_markMany, .ref a_there, .ref a_tried, .ref a_best, .ref a_found, .int m_thereMany, .int m_foundMany, .int m_orderHow, .int m_orderRing, .int m_orderMany, .int m_hasBest, .long m_bestTop, .long m_bestBy, .ref a_weights, .ref a_shared, .int m_random, .int m_truePlace, .int m_trueWay, .int m_seconds, .int m_done, .int m_feelings, .int m_tries, .int m_leftOver, .int m_playDoor, .int m_playRing, .int m_isOpen, .int m_isOver, .int m_wasTried, .int m_hasPlayed, .ref a_feltNow, .ref a_last, .ref a_kept, .int m_hasSeconds, .int m_hasTurned, .int m_hasRound, .ref a_hasFeels, .ref a_isOn, .int m_firstAct, .long m_meanTop, .long m_meanBy, .ref a_order, .int m_rowMany, .int m_newSteps])), (a_tape, .inl (cA.1 2, 900, .inl g_tape))]) ⟨hx, hb, hml, hown, hts⟩ hK hE hT hP hD hS hA (r_isDigit l G cA r_67) lk_RX12_149 ⟨rfl, rfl⟩ ⟨Nat.le_of_ble_eq_true rfl, Nat.le_of_ble_eq_true rfl⟩ [] [0, 1] rfl rfl (by decide) rfl hl.1 rfl (lv_room (Nat.le_of_ble_eq_true rfl)) dX12_next2_199 ⟨Nat.le_of_ble_eq_true rfl, Nat.le_of_ble_eq_true rfl⟩ (fun r_75 u_76 H locs hw hP hD hS => ?_)
            rcases hw with ⟨rfl, hf_77⟩ | ⟨rfl, hf_78⟩
            · skip
              refine lv_if_eq (tgt := 298) hx hb dX12_next2_202 (by decide) (fun _ => ?_) (fun h9 => absurd (by decide +kernel) h9)
              refine lv_aload_n hx hb dX12_next2_298 rfl (lv_at hl 1 rfl) ?_
              refine lv_aload_n hx hb dX12_next2_299 rfl (lv_at hl 1 rfl) ?_
              refine va_get (D := G) (ci := 12) (v := .int v_40) (C := RX12) (T := TX12) (N := 65) hx hb hts inT12 hown hK hP 0 rfl rfl 15 (by decide) (hts _ tw_1900) (fun _ h9 => h9) rfl dX12_next2_300 ?_
              refine lv_iconst (v := 1) hx hb dX12_next2_303 (by decide) ?_
              refine lv_iadd hx hb dX12_next2_304 ?_
              refine lv_topi (fun x_79 he_x_79 => ?_)
              have hq_x_79 := z_addq he_x_79 (rfl : v_40.toInt = _) hk_1 (by omega) (by omega)
              refine va_put (D := G) (ci := 12) (v := .int x_79) (ty := .int) (C := RX12) (T := TX12) (N := 65) hx hb hts inT12 tyX12 tyX12_ok nmX12 hown hK hP hD hS 0 rfl rfl 16 (by decide) (hts _ tw_1901) (fun _ h9 => h9) rfl (tyX12_ok 16 (by decide)) rfl rfl (Nat.le_of_ble_eq_true rfl) dX12_next2_305 (fun H locs hP hD hS => ?_)
              refine lv_aload_n hx hb dX12_next2_308 rfl (lv_at hl 1 rfl) ?_
              refine lv_iload_n hx hb dX12_next2_309 rfl (lv_at hl 0 rfl) ?_
              refine va_put (D := G) (ci := 12) (v := .int r_67) (ty := .int) (C := RX12) (T := TX12) (N := 65) hx hb hts inT12 tyX12 tyX12_ok nmX12 hown hK hP hD hS 0 rfl rfl 17 (by decide) (hts _ tw_1902) (fun _ h9 => h9) rfl (tyX12_ok 17 (by decide)) rfl rfl (Nat.le_of_ble_eq_true rfl) dX12_next2_310 (fun H locs hP hD hS => ?_)
              refine lv_aload_n hx hb dX12_next2_313 rfl (lv_at hl 1 rfl) ?_
              refine lv_aload_n hx hb dX12_next2_314 rfl (lv_at hl 1 rfl) ?_
              refine lv_iload_n hx hb dX12_next2_315 rfl (lv_at hl 0 rfl) ?_
              refine z_callVi (As := [.int r_67]) (rest := [.ref h0]) (wr := [(a_tape, .inl (cA.1 2, 900, .inl g_tape))]) ⟨hx, hb, hml, hown, hts⟩ hK hE hT hP hD hS hA (r_isSignByte l G cA h0 m_status m_thrown m_above m_under a_traySort a_trayMany a_numbers a_tape m_taped m_textEnd m_faultKind m_faultAt m_bad m_badAt m_token v_40 x_79 r_67 m_letters m_word a_c a_words m_markMany a_there a_tried a_best a_found m_thereMany m_foundMany m_orderHow m_orderRing m_orderMany m_hasBest m_bestTop m_bestBy a_weights a_shared m_random m_truePlace m_trueWay m_seconds m_done m_feelings m_tries m_leftOver m_playDoor m_playRing m_isOpen m_isOver m_wasTried m_hasPlayed a_feltNow a_last a_kept m_hasSeconds m_hasTurned m_hasRound a_hasFeels a_isOn m_firstAct m_meanTop m_meanBy a_order m_rowMany m_newSteps r_67) lk_RX12_155 ⟨rfl, rfl⟩ ⟨Nat.le_of_ble_eq_true rfl, Nat.le_of_ble_eq_true rfl⟩ 12 rfl rfl rfl [0] [1] rfl rfl (by decide) rfl hl.1 rfl (lv_room (Nat.le_of_ble_eq_true rfl)) dX12_next2_316 ⟨Nat.le_of_ble_eq_true rfl, Nat.le_of_ble_eq_true rfl⟩ (fun r_80 u_81 H locs hw hP hD hS => ?_)
              rcases hw with ⟨rfl, -⟩ | ⟨rfl, -⟩
              · skip
                refine lv_if_eq (tgt := 326) hx hb dX12_next2_319 (by decide) (fun _ => ?_) (fun h9 => absurd (by decide +kernel) h9)
                refine lv_iconst (v := 4) hx hb dX12_next2_326 (by decide) ?_
                refine va_put (D := G) (ci := 12) (v := .int 4) (ty := .int) (C := RX12) (T := TX12) (N := 65) hx hb hts inT12 tyX12 tyX12_ok nmX12 hown hK hP hD hS 1 rfl rfl 14 (by decide) (hts _ tw_1899) (fun _ h9 => h9) rfl (tyX12_ok 14 (by decide)) rfl rfl (Nat.le_of_ble_eq_true rfl) dX12_next2_327 (fun H locs hP hD hS => ?_)
                have hpost : (0 ≤ (4 : Int32).toInt ∧ (4 : Int32).toInt ≤ 4) ∧ (0 ≤ v_40.toInt ∧ v_40.toInt ≤ 900) ∧ (0 ≤ x_79.toInt ∧ x_79.toInt ≤ 900) ∧ (0 ≤ r_67.toInt ∧ r_67.toInt ≤ 9999) ∧ (0 ≤ m_letters.toInt ∧ m_letters.toInt ≤ 900) ∧ (m_behind.toInt ≤ x_79.toInt) ∧ ((4 : Int32).toInt = 0 ∨ m_behind.toInt < x_79.toInt) := ⟨(by decide +kernel), hr_v_40, (by omega), (z_rgw hr_r_67 (by decide) (by decide)), hr_m_letters, (by omega), (by omega)⟩
                exact hret _ _ _ _ _ (4, v_40, x_79, r_67, m_letters, m_word) [1, 0] hP hD hS rfl (by decide) dX12_next2_330 hpost
              · skip
                refine lv_if_eq (tgt := 326) hx hb dX12_next2_319 (by decide) (fun h9 => absurd h9 (by decide +kernel)) (fun _ => ?_)
                refine lv_iconst (v := 3) hx hb dX12_next2_322 (by decide) ?_
                refine lv_goto (tgt := 327) hx hb dX12_next2_323 (by decide) ?_
                refine va_put (D := G) (ci := 12) (v := .int 3) (ty := .int) (C := RX12) (T := TX12) (N := 65) hx hb hts inT12 tyX12 tyX12_ok nmX12 hown hK hP hD hS 1 rfl rfl 14 (by decide) (hts _ tw_1899) (fun _ h9 => h9) rfl (tyX12_ok 14 (by decide)) rfl rfl (Nat.le_of_ble_eq_true rfl) dX12_next2_327 (fun H locs hP hD hS => ?_)
                have hpost : (0 ≤ (3 : Int32).toInt ∧ (3 : Int32).toInt ≤ 4) ∧ (0 ≤ v_40.toInt ∧ v_40.toInt ≤ 900) ∧ (0 ≤ x_79.toInt ∧ x_79.toInt ≤ 900) ∧ (0 ≤ r_67.toInt ∧ r_67.toInt ≤ 9999) ∧ (0 ≤ m_letters.toInt ∧ m_letters.toInt ≤ 900) ∧ (m_behind.toInt ≤ x_79.toInt) ∧ ((3 : Int32).toInt = 0 ∨ m_behind.toInt < x_79.toInt) := ⟨(by decide +kernel), hr_v_40, (by omega), (z_rgw hr_r_67 (by decide) (by decide)), hr_m_letters, (by omega), (by omega)⟩
                exact hret _ _ _ _ _ (3, v_40, x_79, r_67, m_letters, m_word) [1, 0] hP hD hS rfl (by decide) dX12_next2_330 hpost
            · skip
              refine lv_if_eq (tgt := 298) hx hb dX12_next2_202 (by decide) (fun h9 => absurd h9 (by decide +kernel)) (fun _ => ?_)
              refine lv_aload_n hx hb dX12_next2_205 rfl (lv_at hl 1 rfl) ?_
              refine lv_iconst (v := 0) hx hb dX12_next2_206 (by decide) ?_
              refine va_put (D := G) (ci := 12) (v := .int 0) (ty := .int) (C := RX12) (T := TX12) (N := 65) hx hb hts inT12 tyX12 tyX12_ok nmX12 hown hK hP hD hS 0 rfl rfl 17 (by decide) (hts _ tw_1902) (fun _ h9 => h9) rfl (tyX12_ok 17 (by decide)) rfl rfl (Nat.le_of_ble_eq_true rfl) dX12_next2_207 (fun H locs hP hD hS => ?_)
              have hlp_159 : ∀ (n : Nat) (v_131 : Int32) (v_132 : Int32) (H : Heap) (locs : List Loc) (ls : Array Slot), (2147483647 - v_131.toInt).toNat < n → (0 ≤ v_131.toInt ∧ v_131.toInt ≤ 900) → (0 ≤ v_132.toInt ∧ v_132.toInt ≤ 9999) → (v_40.toInt ≤ v_131.toInt) → ((v_131.toInt - v_40.toInt ≤ 0 → v_132.toInt ≤ 0) ∧ (v_131.toInt - v_40.toInt ≤ 1 → v_132.toInt ≤ 9) ∧ (v_131.toInt - v_40.toInt ≤ 2 → v_132.toInt ≤ 99) ∧ (v_131.toInt - v_40.toInt ≤ 3 → v_132.toInt ≤ 999)) → va_P G vwCl [(h0, .inr (12, [.int m_status, .int m_thrown, .long m_above, .long m_under, .ref a_traySort, .ref a_trayMany, .ref a_numbers, .ref a_tape, .int m_taped, .int m_textEnd, .int m_faultKind, .int m_faultAt, .int m_bad, .int m_badAt, .int m_token, .int v_40, .int v_131, .int v_132, .int m_letters, .long m_word, .ref a_c, .ref a_words, .int m_markMany, .ref a_there, .ref a_tried, .ref a_best, .ref a_found, .int m_thereMany, .int m_foundMany, .int m_orderHow, .int m_orderRing, .int m_orderMany, .int m_hasBest, .long m_bestTop, .long m_bestBy, .ref a_weights, .ref a_shared, .int m_random, .int m_truePlace, .int m_trueWay, .int m_seconds, .int m_done, .int m_feelings, .int m_tries, .int m_leftOver, .int m_playDoor, .int m_playRing, .int m_isOpen, .int m_isOver, .int m_wasTried, .int m_hasPlayed, .ref a_feltNow, .ref a_last, .ref a_kept, .int m_hasSeconds, .int m_hasTurned, .int m_hasRound, .ref a_hasFeels, .ref a_isOn, .int m_firstAct, .long m_meanTop, .long m_meanBy, .ref a_order, .int m_rowMany, .int m_newSteps])), (a_tape, .inl (cA.1 2, 900, .inl g_tape))] H → va_D A [(h0, .inr (12, [.int m_status, .int m_thrown, .long m_above, .long m_under, .ref a_traySort, .ref a_trayMany, .ref a_numbers, .ref a_tape, .int m_taped, .int m_textEnd, .int m_faultKind, .int m_faultAt, .int m_bad, .int m_badAt, .int m_token, .int v_40, .int v_131, .int v_132, .int m_letters, .long m_word, .ref a_c, .ref a_words, .int m_markMany, .ref a_there, .ref a_tried, .ref a_best, .ref a_found, .int m_thereMany, .int m_foundMany, .int m_orderHow, .int m_orderRing, .int m_orderMany, .int m_hasBest, .long m_bestTop, .long m_bestBy, .ref a_weights, .ref a_shared, .int m_random, .int m_truePlace, .int m_trueWay, .int m_seconds, .int m_done, .int m_feelings, .int m_tries, .int m_leftOver, .int m_playDoor, .int m_playRing, .int m_isOpen, .int m_isOver, .int m_wasTried, .int m_hasPlayed, .ref a_feltNow, .ref a_last, .ref a_kept, .int m_hasSeconds, .int m_hasTurned, .int m_hasRound, .ref a_hasFeels, .ref a_isOn, .int m_firstAct, .long m_meanTop, .long m_meanBy, .ref a_order, .int m_rowMany, .int m_newSteps])), (a_tape, .inl (cA.1 2, 900, .inl g_tape))] → va_S A s.heap H locs → lv_has ls 2 [(0, .ref h0), (1, .int r_67)] → W p l e ({ frames := 1, cells := 0, slots := 0, locals := 21 }) s m args below meth c H locs 0 0 Q (F0 m 210 ls []) := by
                intro n
                induction n with
                | zero =>
                  intro v_131 v_132 H locs ls hmu_hlp_159 hr_v_131 hr_v_132 hi_157 hi_158 hP hD hS hl
                  exact absurd hmu_hlp_159 (Nat.not_lt_zero _)
                | succ n ih_160 =>
                  intro v_131 v_132 H locs ls hmu_hlp_159 hr_v_131 hr_v_132 hi_157 hi_158 hP hD hS hl
                  refine lv_aload_n hx hb dX12_next2_210 rfl (lv_at hl 0 rfl) ?_
                  refine lv_aload_n hx hb dX12_next2_211 rfl (lv_at hl 0 rfl) ?_
                  refine va_get (D := G) (ci := 12) (v := .int v_131) (C := RX12) (T := TX12) (N := 65) hx hb hts inT12 hown hK hP 0 rfl rfl 16 (by decide) (hts _ tw_1901) (fun _ h9 => h9) rfl dX12_next2_212 ?_
                  refine z_callVi (As := [.int v_131]) (rest := []) (wr := []) ⟨hx, hb, hml, hown, hts⟩ hK hE hT hP hD hS hA (r_look2 l G cA h0 m_status m_thrown m_above m_under a_traySort a_trayMany a_numbers a_tape m_taped m_textEnd m_faultKind m_faultAt m_bad m_badAt m_token v_40 v_131 v_132 m_letters m_word a_c a_words m_markMany a_there a_tried a_best a_found m_thereMany m_foundMany m_orderHow m_orderRing m_orderMany m_hasBest m_bestTop m_bestBy a_weights a_shared m_random m_truePlace m_trueWay m_seconds m_done m_feelings m_tries m_leftOver m_playDoor m_playRing m_isOpen m_isOver m_wasTried m_hasPlayed a_feltNow a_last a_kept m_hasSeconds m_hasTurned m_hasRound a_hasFeels a_isOn m_firstAct m_meanTop m_meanBy a_order m_rowMany m_newSteps g_tape v_131 hr_v_131 hr_m_textEnd) lk_RX12_130 ⟨rfl, rfl⟩ ⟨Nat.le_of_ble_eq_true rfl, Nat.le_of_ble_eq_true rfl⟩ 12 rfl rfl rfl [0, 1] [] rfl rfl (by decide) rfl hl.1 rfl (lv_room (Nat.le_of_ble_eq_true rfl)) dX12_next2_215 ⟨Nat.le_of_ble_eq_true rfl, Nat.le_of_ble_eq_true rfl⟩ (fun r_161 u_162 H locs hw hP hD hS => ?_)
                  obtain ⟨hr_r_161, hf_163, hf_164⟩ := hw
                  have hz_r_161 := z_lksame (hlk_r_67) hf_164 (Z := v_131.toInt) (Y := v_40.toInt)
                  refine z_callSi (As := [.int r_161]) (rest := []) (wr := [(h0, .inr (12, [.int m_status, .int m_thrown, .long m_above, .long m_under, .ref a_traySort, .ref a_trayMany, .ref a_numbers, .ref a_tape, .int m_taped, .int m_textEnd, .int m_faultKind, .int m_faultAt, .int m_bad, .int m_badAt, .int m_token, .int v_40, .int v_131, .int v_132, .int m_letters, .long m_word, .ref a_c, .ref a_words, .int m_markMany, .ref a_there, .ref a_tried, .ref a_best, .ref a_found, .int m_thereMany, .int m_foundMany, .int m_orderHow, .int m_orderRing, .int m_orderMany, .int m_hasBest, .long m_bestTop, .long m_bestBy, .ref a_weights, .ref a_shared, .int m_random, .int m_truePlace, .int m_trueWay, .int m_seconds, .int m_done, .int m_feelings, .int m_tries, .int m_leftOver, .int m_playDoor, .int m_playRing, .int m_isOpen, .int m_isOver, .int m_wasTried, .int m_hasPlayed, .ref a_feltNow, .ref a_last, .ref a_kept, .int m_hasSeconds, .int m_hasTurned, .int m_hasRound, .ref a_hasFeels, .ref a_isOn, .int m_firstAct, .long m_meanTop, .long m_meanBy, .ref a_order, .int m_rowMany, .int m_newSteps])), (a_tape, .inl (cA.1 2, 900, .inl g_tape))]) ⟨hx, hb, hml, hown, hts⟩ hK hE hT hP hD hS hA (r_isDigit l G cA r_161) lk_RX12_149 ⟨rfl, rfl⟩ ⟨Nat.le_of_ble_eq_true rfl, Nat.le_of_ble_eq_true rfl⟩ [] [0, 1] rfl rfl (by decide) rfl hl.1 rfl (lv_room (Nat.le_of_ble_eq_true rfl)) dX12_next2_218 ⟨Nat.le_of_ble_eq_true rfl, Nat.le_of_ble_eq_true rfl⟩ (fun r_165 u_166 H locs hw hP hD hS => ?_)
                  rcases hw with ⟨rfl, hf_167⟩ | ⟨rfl, hf_168⟩
                  · skip
                    refine lv_if_eq (tgt := 273) hx hb dX12_next2_221 (by decide) (fun _ => ?_) (fun h9 => absurd (by decide +kernel) h9)
                    refine lv_aload_n hx hb dX12_next2_273 rfl (lv_at hl 0 rfl) ?_
                    refine lv_aload_n hx hb dX12_next2_274 rfl (lv_at hl 0 rfl) ?_
                    refine va_get (D := G) (ci := 12) (v := .int v_131) (C := RX12) (T := TX12) (N := 65) hx hb hts inT12 hown hK hP 0 rfl rfl 16 (by decide) (hts _ tw_1901) (fun _ h9 => h9) rfl dX12_next2_275 ?_
                    refine lv_aload_n hx hb dX12_next2_278 rfl (lv_at hl 0 rfl) ?_
                    refine va_get (D := G) (ci := 12) (v := .int v_40) (C := RX12) (T := TX12) (N := 65) hx hb hts inT12 hown hK hP 0 rfl rfl 15 (by decide) (hts _ tw_1900) (fun _ h9 => h9) rfl dX12_next2_279 ?_
                    refine lv_isub hx hb dX12_next2_282 ?_
                    refine lv_topi (fun x_169 he_x_169 => ?_)
                    have hq_x_169 := z_subq he_x_169 (rfl : v_131.toInt = _) (rfl : v_40.toInt = _) (by omega) (by omega)
                    refine lv_iconst (v := 4) hx hb dX12_next2_283 (by decide) ?_
                    refine lv_icmp_le (tgt := 291) hx hb dX12_next2_284 (by decide) (fun c_170 => ?_) (fun c_170 => ?_)
                    · have b_171 := z_fleT c_170
                      refine lv_iconst (v := 2) hx hb dX12_next2_291 (by decide) ?_
                      refine va_put (D := G) (ci := 12) (v := .int 2) (ty := .int) (C := RX12) (T := TX12) (N := 65) hx hb hts inT12 tyX12 tyX12_ok nmX12 hown hK hP hD hS 0 rfl rfl 14 (by decide) (hts _ tw_1899) (fun _ h9 => h9) rfl (tyX12_ok 14 (by decide)) rfl rfl (Nat.le_of_ble_eq_true rfl) dX12_next2_292 (fun H locs hP hD hS => ?_)
                      refine lv_goto (tgt := 330) hx hb dX12_next2_295 (by decide) ?_
                      have hpost : (0 ≤ (2 : Int32).toInt ∧ (2 : Int32).toInt ≤ 4) ∧ (0 ≤ v_40.toInt ∧ v_40.toInt ≤ 900) ∧ (0 ≤ v_131.toInt ∧ v_131.toInt ≤ 900) ∧ (0 ≤ v_132.toInt ∧ v_132.toInt ≤ 9999) ∧ (0 ≤ m_letters.toInt ∧ m_letters.toInt ≤ 900) ∧ (m_behind.toInt ≤ v_131.toInt) ∧ ((2 : Int32).toInt = 0 ∨ m_behind.toInt < v_131.toInt) := ⟨(by decide +kernel), hr_v_40, hr_v_131, hr_v_132, hr_m_letters, (by omega), (by omega)⟩
                      exact hret _ _ _ _ _ (2, v_40, v_131, v_132, m_letters, m_word) [0, 1] hP hD hS rfl (by decide) dX12_next2_330 hpost
                    · have b_172 := z_fgtF c_170
                      refine lv_iconst (v := 4) hx hb dX12_next2_287 (by decide) ?_
                      refine lv_goto (tgt := 292) hx hb dX12_next2_288 (by decide) ?_
                      refine va_put (D := G) (ci := 12) (v := .int 4) (ty := .int) (C := RX12) (T := TX12) (N := 65) hx hb hts inT12 tyX12 tyX12_ok nmX12 hown hK hP hD hS 0 rfl rfl 14 (by decide) (hts _ tw_1899) (fun _ h9 => h9) rfl (tyX12_ok 14 (by decide)) rfl rfl (Nat.le_of_ble_eq_true rfl) dX12_next2_292 (fun H locs hP hD hS => ?_)
                      refine lv_goto (tgt := 330) hx hb dX12_next2_295 (by decide) ?_
                      have hpost : (0 ≤ (4 : Int32).toInt ∧ (4 : Int32).toInt ≤ 4) ∧ (0 ≤ v_40.toInt ∧ v_40.toInt ≤ 900) ∧ (0 ≤ v_131.toInt ∧ v_131.toInt ≤ 900) ∧ (0 ≤ v_132.toInt ∧ v_132.toInt ≤ 9999) ∧ (0 ≤ m_letters.toInt ∧ m_letters.toInt ≤ 900) ∧ (m_behind.toInt ≤ v_131.toInt) ∧ ((4 : Int32).toInt = 0 ∨ m_behind.toInt < v_131.toInt) := ⟨(by decide +kernel), hr_v_40, hr_v_131, hr_v_132, hr_m_letters, (by omega), (by omega)⟩
                      exact hret _ _ _ _ _ (4, v_40, v_131, v_132, m_letters, m_word) [0, 1] hP hD hS rfl (by decide) dX12_next2_330 hpost
                  · skip
                    refine lv_if_eq (tgt := 273) hx hb dX12_next2_221 (by decide) (fun h9 => absurd h9 (by decide +kernel)) (fun _ => ?_)
                    refine lv_aload_n hx hb dX12_next2_224 rfl (lv_at hl 0 rfl) ?_
                    refine va_get (D := G) (ci := 12) (v := .int v_131) (C := RX12) (T := TX12) (N := 65) hx hb hts inT12 hown hK hP 0 rfl rfl 16 (by decide) (hts _ tw_1901) (fun _ h9 => h9) rfl dX12_next2_225 ?_
                    refine lv_aload_n hx hb dX12_next2_228 rfl (lv_at hl 0 rfl) ?_
                    refine va_get (D := G) (ci := 12) (v := .int v_40) (C := RX12) (T := TX12) (N := 65) hx hb hts inT12 hown hK hP 0 rfl rfl 15 (by decide) (hts _ tw_1900) (fun _ h9 => h9) rfl dX12_next2_229 ?_
                    refine lv_isub hx hb dX12_next2_232 ?_
                    refine lv_topi (fun x_173 he_x_173 => ?_)
                    have hq_x_173 := z_subq he_x_173 (rfl : v_131.toInt = _) (rfl : v_40.toInt = _) (by omega) (by omega)
                    refine lv_iconst (v := 4) hx hb dX12_next2_233 (by decide) ?_
                    refine lv_icmp_ge (tgt := 260) hx hb dX12_next2_234 (by decide) (fun c_174 => ?_) (fun c_174 => ?_)
                    · have b_175 := z_fgeT c_174
                      refine lv_aload_n hx hb dX12_next2_260 rfl (lv_at hl 0 rfl) ?_
                      refine lv_dup hx hb dX12_next2_261 rfl ?_
                      refine va_get (D := G) (ci := 12) (v := .int v_131) (C := RX12) (T := TX12) (N := 65) hx hb hts inT12 hown hK hP 0 rfl rfl 16 (by decide) (hts _ tw_1901) (fun _ h9 => h9) rfl dX12_next2_262 ?_
                      refine lv_iconst (v := 1) hx hb dX12_next2_265 (by decide) ?_
                      refine lv_iadd hx hb dX12_next2_266 ?_
                      refine lv_topi (fun x_176 he_x_176 => ?_)
                      have hq_x_176 := z_addq he_x_176 (rfl : v_131.toInt = _) hk_1 (by omega) (by omega)
                      have hn_k_177 : 0 ≤ x_176.toInt ∧ x_176.toInt ≤ 900 := by omega
                      refine va_put (D := G) (ci := 12) (v := .int x_176) (ty := .int) (C := RX12) (T := TX12) (N := 65) hx hb hts inT12 tyX12 tyX12_ok nmX12 hown hK hP hD hS 0 rfl rfl 16 (by decide) (hts _ tw_1901) (fun _ h9 => h9) rfl (tyX12_ok 16 (by decide)) rfl rfl (Nat.le_of_ble_eq_true rfl) dX12_next2_267 (fun H locs hP hD hS => ?_)
                      refine lv_goto (tgt := 210) hx hb dX12_next2_270 (by decide) ?_
                      exact ih_160 x_176 v_132 H locs ls (by omega) (by omega) hr_v_132 (by omega) (by omega) hP hD hS (lv_sub hl [0, 1] rfl)
                    · have b_178 := z_fltF c_174
                      refine lv_aload_n hx hb dX12_next2_237 rfl (lv_at hl 0 rfl) ?_
                      refine lv_bipush (v := 10) hx hb dX12_next2_238 (by decide) ?_
                      refine lv_aload_n hx hb dX12_next2_240 rfl (lv_at hl 0 rfl) ?_
                      refine va_get (D := G) (ci := 12) (v := .int v_132) (C := RX12) (T := TX12) (N := 65) hx hb hts inT12 hown hK hP 0 rfl rfl 17 (by decide) (hts _ tw_1902) (fun _ h9 => h9) rfl dX12_next2_241 ?_
                      refine lv_imul hx hb dX12_next2_244 ?_
                      refine lv_topi (fun x_179 he_x_179 => ?_)
                      have hq_x_179 := z_mulq he_x_179 hk_10 (rfl : v_132.toInt = _) (by omega) (by omega)
                      refine lv_aload_n hx hb dX12_next2_245 rfl (lv_at hl 0 rfl) ?_
                      refine lv_aload_n hx hb dX12_next2_246 rfl (lv_at hl 0 rfl) ?_
                      refine va_get (D := G) (ci := 12) (v := .int v_131) (C := RX12) (T := TX12) (N := 65) hx hb hts inT12 hown hK hP 0 rfl rfl 16 (by decide) (hts _ tw_1901) (fun _ h9 => h9) rfl dX12_next2_247 ?_
                      refine z_callVi (As := [.int v_131]) (rest := [.int x_179, .ref h0]) (wr := []) ⟨hx, hb, hml, hown, hts⟩ hK hE hT hP hD hS hA (r_look2 l G cA h0 m_status m_thrown m_above m_under a_traySort a_trayMany a_numbers a_tape m_taped m_textEnd m_faultKind m_faultAt m_bad m_badAt m_token v_40 v_131 v_132 m_letters m_word a_c a_words m_markMany a_there a_tried a_best a_found m_thereMany m_foundMany m_orderHow m_orderRing m_orderMany m_hasBest m_bestTop m_bestBy a_weights a_shared m_random m_truePlace m_trueWay m_seconds m_done m_feelings m_tries m_leftOver m_playDoor m_playRing m_isOpen m_isOver m_wasTried m_hasPlayed a_feltNow a_last a_kept m_hasSeconds m_hasTurned m_hasRound a_hasFeels a_isOn m_firstAct m_meanTop m_meanBy a_order m_rowMany m_newSteps g_tape v_131 hr_v_131 hr_m_textEnd) lk_RX12_130 ⟨rfl, rfl⟩ ⟨Nat.le_of_ble_eq_true rfl, Nat.le_of_ble_eq_true rfl⟩ 12 rfl rfl rfl [0, 1] [] rfl rfl (by decide) rfl hl.1 rfl (lv_room (Nat.le_of_ble_eq_true rfl)) dX12_next2_250 ⟨Nat.le_of_ble_eq_true rfl, Nat.le_of_ble_eq_true rfl⟩ (fun r_180 u_181 H locs hw hP hD hS => ?_)
                      obtain ⟨hr_r_180, hf_182, hf_183⟩ := hw
                      refine lv_iadd hx hb dX12_next2_253 ?_
                      refine lv_topi (fun x_184 he_x_184 => ?_)
                      have hq_x_184 := z_addq he_x_184 (rfl : x_179.toInt = _) (rfl : r_180.toInt = _) (by omega) (by omega)
                      refine lv_bipush (v := 48) hx hb dX12_next2_254 (by decide) ?_
                      refine lv_isub hx hb dX12_next2_256 ?_
                      refine lv_topi (fun x_185 he_x_185 => ?_)
                      have hq_x_185 := z_subq he_x_185 (rfl : x_184.toInt = _) hk_48 (by omega) (by omega)
                      have hn_k_186 : 0 ≤ x_185.toInt ∧ x_185.toInt ≤ 9999 := by omega
                      refine va_put (D := G) (ci := 12) (v := .int x_185) (ty := .int) (C := RX12) (T := TX12) (N := 65) hx hb hts inT12 tyX12 tyX12_ok nmX12 hown hK hP hD hS 0 rfl rfl 17 (by decide) (hts _ tw_1902) (fun _ h9 => h9) rfl (tyX12_ok 17 (by decide)) rfl rfl (Nat.le_of_ble_eq_true rfl) dX12_next2_257 (fun H locs hP hD hS => ?_)
                      refine lv_aload_n hx hb dX12_next2_260 rfl (lv_at hl 0 rfl) ?_
                      refine lv_dup hx hb dX12_next2_261 rfl ?_
                      refine va_get (D := G) (ci := 12) (v := .int v_131) (C := RX12) (T := TX12) (N := 65) hx hb hts inT12 hown hK hP 0 rfl rfl 16 (by decide) (hts _ tw_1901) (fun _ h9 => h9) rfl dX12_next2_262 ?_
                      refine lv_iconst (v := 1) hx hb dX12_next2_265 (by decide) ?_
                      refine lv_iadd hx hb dX12_next2_266 ?_
                      refine lv_topi (fun x_187 he_x_187 => ?_)
                      have hq_x_187 := z_addq he_x_187 (rfl : v_131.toInt = _) hk_1 (by omega) (by omega)
                      have hn_k_188 : 0 ≤ x_187.toInt ∧ x_187.toInt ≤ 900 := by omega
                      refine va_put (D := G) (ci := 12) (v := .int x_187) (ty := .int) (C := RX12) (T := TX12) (N := 65) hx hb hts inT12 tyX12 tyX12_ok nmX12 hown hK hP hD hS 0 rfl rfl 16 (by decide) (hts _ tw_1901) (fun _ h9 => h9) rfl (tyX12_ok 16 (by decide)) rfl rfl (Nat.le_of_ble_eq_true rfl) dX12_next2_267 (fun H locs hP hD hS => ?_)
                      refine lv_goto (tgt := 210) hx hb dX12_next2_270 (by decide) ?_
                      exact ih_160 x_187 x_185 H locs ls (by omega) (by omega) (by omega) (by omega) (by omega) hP hD hS (lv_sub hl [0, 1] rfl)
              exact hlp_159 _ v_40 0 _ _ _ (Nat.lt_succ_self _) hr_v_40 (by decide +kernel) (by omega) (by omega) hP hD hS (lv_sub hl [1, 0] rfl)
          · skip
            refine lv_if_eq (tgt := 198) hx hb dX12_next2_96 (by decide) (fun h9 => absurd h9 (by decide +kernel)) (fun _ => ?_)
            refine lv_aload_n hx hb dX12_next2_99 rfl (lv_at hl 1 rfl) ?_
            refine lv_iconst (v := 1) hx hb dX12_next2_100 (by decide) ?_
            refine va_put (D := G) (ci := 12) (v := .int 1) (ty := .int) (C := RX12) (T := TX12) (N := 65) hx hb hts inT12 tyX12 tyX12_ok nmX12 hown hK hP hD hS 0 rfl rfl 14 (by decide) (hts _ tw_1899) (fun _ h9 => h9) rfl (tyX12_ok 14 (by decide)) rfl rfl (Nat.le_of_ble_eq_true rfl) dX12_next2_101 (fun H locs hP hD hS => ?_)
            refine lv_aload_n hx hb dX12_next2_104 rfl (lv_at hl 1 rfl) ?_
            refine lv_lconst (v := 0) hx hb dX12_next2_105 (by decide) ?_
            refine va_put (D := G) (ci := 12) (v := .long 0) (ty := .long) (C := RX12) (T := TX12) (N := 65) hx hb hts inT12 tyX12 tyX12_ok nmX12 hown hK hP hD hS 0 rfl rfl 19 (by decide) (hts _ tw_1904) (fun _ h9 => h9) rfl (tyX12_ok 19 (by decide)) rfl rfl (Nat.le_of_ble_eq_true rfl) dX12_next2_106 (fun H locs hP hD hS => ?_)
            have hlp_369 : ∀ (n : Nat) (v_342 : Int32) (v_343 : Int64) (H : Heap) (locs : List Loc) (ls : Array Slot), (2147483647 - v_342.toInt).toNat < n → (0 ≤ v_342.toInt ∧ v_342.toInt ≤ 900) → (v_40.toInt ≤ v_342.toInt) → va_P G vwCl [(h0, .inr (12, [.int m_status, .int m_thrown, .long m_above, .long m_under, .ref a_traySort, .ref a_trayMany, .ref a_numbers, .ref a_tape, .int m_taped, .int m_textEnd, .int m_faultKind, .int m_faultAt, .int m_bad, .int m_badAt, .int 1, .int v_40, .int v_342, .int m_number, .int m_letters, .long v_343, .ref a_c, .ref a_words, .int m_markMany, .ref a_there, .ref a_tried, .ref a_best, .ref a_found, .int m_thereMany, .int m_foundMany, .int m_orderHow, .int m_orderRing, .int m_orderMany, .int m_hasBest, .long m_bestTop, .long m_bestBy, .ref a_weights, .ref a_shared, .int m_random, .int m_truePlace, .int m_trueWay, .int m_seconds, .int m_done, .int m_feelings, .int m_tries, .int m_leftOver, .int m_playDoor, .int m_playRing, .int m_isOpen, .int m_isOver, .int m_wasTried, .int m_hasPlayed, .ref a_feltNow, .ref a_last, .ref a_kept, .int m_hasSeconds, .int m_hasTurned, .int m_hasRound, .ref a_hasFeels, .ref a_isOn, .int m_firstAct, .long m_meanTop, .long m_meanBy, .ref a_order, .int m_rowMany, .int m_newSteps])), (a_tape, .inl (cA.1 2, 900, .inl g_tape))] H → va_D A [(h0, .inr (12, [.int m_status, .int m_thrown, .long m_above, .long m_under, .ref a_traySort, .ref a_trayMany, .ref a_numbers, .ref a_tape, .int m_taped, .int m_textEnd, .int m_faultKind, .int m_faultAt, .int m_bad, .int m_badAt, .int 1, .int v_40, .int v_342, .int m_number, .int m_letters, .long v_343, .ref a_c, .ref a_words, .int m_markMany, .ref a_there, .ref a_tried, .ref a_best, .ref a_found, .int m_thereMany, .int m_foundMany, .int m_orderHow, .int m_orderRing, .int m_orderMany, .int m_hasBest, .long m_bestTop, .long m_bestBy, .ref a_weights, .ref a_shared, .int m_random, .int m_truePlace, .int m_trueWay, .int m_seconds, .int m_done, .int m_feelings, .int m_tries, .int m_leftOver, .int m_playDoor, .int m_playRing, .int m_isOpen, .int m_isOver, .int m_wasTried, .int m_hasPlayed, .ref a_feltNow, .ref a_last, .ref a_kept, .int m_hasSeconds, .int m_hasTurned, .int m_hasRound, .ref a_hasFeels, .ref a_isOn, .int m_firstAct, .long m_meanTop, .long m_meanBy, .ref a_order, .int m_rowMany, .int m_newSteps])), (a_tape, .inl (cA.1 2, 900, .inl g_tape))] → va_S A s.heap H locs → lv_has ls 2 [(0, .ref h0), (1, .int r_67)] → W p l e ({ frames := 1, cells := 0, slots := 0, locals := 21 }) s m args below meth c H locs 0 0 Q (F0 m 109 ls []) := by
              intro n
              induction n with
              | zero =>
                intro v_342 v_343 H locs ls hmu_hlp_369 hr_v_342 hi_368 hP hD hS hl
                exact absurd hmu_hlp_369 (Nat.not_lt_zero _)
              | succ n ih_370 =>
                intro v_342 v_343 H locs ls hmu_hlp_369 hr_v_342 hi_368 hP hD hS hl
                refine lv_aload_n hx hb dX12_next2_109 rfl (lv_at hl 0 rfl) ?_
                refine lv_aload_n hx hb dX12_next2_110 rfl (lv_at hl 0 rfl) ?_
                refine va_get (D := G) (ci := 12) (v := .int v_342) (C := RX12) (T := TX12) (N := 65) hx hb hts inT12 hown hK hP 0 rfl rfl 16 (by decide) (hts _ tw_1901) (fun _ h9 => h9) rfl dX12_next2_111 ?_
                refine z_callVi (As := [.int v_342]) (rest := []) (wr := []) ⟨hx, hb, hml, hown, hts⟩ hK hE hT hP hD hS hA (r_look2 l G cA h0 m_status m_thrown m_above m_under a_traySort a_trayMany a_numbers a_tape m_taped m_textEnd m_faultKind m_faultAt m_bad m_badAt 1 v_40 v_342 m_number m_letters v_343 a_c a_words m_markMany a_there a_tried a_best a_found m_thereMany m_foundMany m_orderHow m_orderRing m_orderMany m_hasBest m_bestTop m_bestBy a_weights a_shared m_random m_truePlace m_trueWay m_seconds m_done m_feelings m_tries m_leftOver m_playDoor m_playRing m_isOpen m_isOver m_wasTried m_hasPlayed a_feltNow a_last a_kept m_hasSeconds m_hasTurned m_hasRound a_hasFeels a_isOn m_firstAct m_meanTop m_meanBy a_order m_rowMany m_newSteps g_tape v_342 hr_v_342 hr_m_textEnd) lk_RX12_130 ⟨rfl, rfl⟩ ⟨Nat.le_of_ble_eq_true rfl, Nat.le_of_ble_eq_true rfl⟩ 12 rfl rfl rfl [0, 1] [] rfl rfl (by decide) rfl hl.1 rfl (lv_room (Nat.le_of_ble_eq_true rfl)) dX12_next2_114 ⟨Nat.le_of_ble_eq_true rfl, Nat.le_of_ble_eq_true rfl⟩ (fun r_371 u_372 H locs hw hP hD hS => ?_)
                obtain ⟨hr_r_371, hf_373, hf_374⟩ := hw
                have hz_r_371 := z_lksame (hlk_r_67) hf_374 (Z := v_342.toInt) (Y := v_40.toInt)
                refine z_callSi (As := [.int r_371]) (rest := []) (wr := [(h0, .inr (12, [.int m_status, .int m_thrown, .long m_above, .long m_under, .ref a_traySort, .ref a_trayMany, .ref a_numbers, .ref a_tape, .int m_taped, .int m_textEnd, .int m_faultKind, .int m_faultAt, .int m_bad, .int m_badAt, .int 1, .int v_40, .int v_342, .int m_number, .int m_letters, .long v_343, .ref a_c, .ref a_words, .int m_markMany, .ref a_there, .ref a_tried, .ref a_best, .ref a_found, .int m_thereMany, .int m_foundMany, .int m_orderHow, .int m_orderRing, .int m_orderMany, .int m_hasBest, .long m_bestTop, .long m_bestBy, .ref a_weights, .ref a_shared, .int m_random, .int m_truePlace, .int m_trueWay, .int m_seconds, .int m_done, .int m_feelings, .int m_tries, .int m_leftOver, .int m_playDoor, .int m_playRing, .int m_isOpen, .int m_isOver, .int m_wasTried, .int m_hasPlayed, .ref a_feltNow, .ref a_last, .ref a_kept, .int m_hasSeconds, .int m_hasTurned, .int m_hasRound, .ref a_hasFeels, .ref a_isOn, .int m_firstAct, .long m_meanTop, .long m_meanBy, .ref a_order, .int m_rowMany, .int m_newSteps])), (a_tape, .inl (cA.1 2, 900, .inl g_tape))]) ⟨hx, hb, hml, hown, hts⟩ hK hE hT hP hD hS hA (r_isLetter l G cA r_371) lk_RX12_136 ⟨rfl, rfl⟩ ⟨Nat.le_of_ble_eq_true rfl, Nat.le_of_ble_eq_true rfl⟩ [] [0, 1] rfl rfl (by decide) rfl hl.1 rfl (lv_room (Nat.le_of_ble_eq_true rfl)) dX12_next2_117 ⟨Nat.le_of_ble_eq_true rfl, Nat.le_of_ble_eq_true rfl⟩ (fun r_375 u_376 H locs hw hP hD hS => ?_)
                rcases hw with ⟨rfl, hf_377⟩ | ⟨rfl, hf_378⟩
                · skip
                  refine lv_if_eq (tgt := 182) hx hb dX12_next2_120 (by decide) (fun _ => ?_) (fun h9 => absurd (by decide +kernel) h9)
                  refine lv_aload_n hx hb dX12_next2_182 rfl (lv_at hl 0 rfl) ?_
                  refine lv_aload_n hx hb dX12_next2_183 rfl (lv_at hl 0 rfl) ?_
                  refine va_get (D := G) (ci := 12) (v := .int v_342) (C := RX12) (T := TX12) (N := 65) hx hb hts inT12 hown hK hP 0 rfl rfl 16 (by decide) (hts _ tw_1901) (fun _ h9 => h9) rfl dX12_next2_184 ?_
                  refine lv_aload_n hx hb dX12_next2_187 rfl (lv_at hl 0 rfl) ?_
                  refine va_get (D := G) (ci := 12) (v := .int v_40) (C := RX12) (T := TX12) (N := 65) hx hb hts inT12 hown hK hP 0 rfl rfl 15 (by decide) (hts _ tw_1900) (fun _ h9 => h9) rfl dX12_next2_188 ?_
                  refine lv_isub hx hb dX12_next2_191 ?_
                  refine lv_topi (fun x_379 he_x_379 => ?_)
                  have hq_x_379 := z_subq he_x_379 (rfl : v_342.toInt = _) (rfl : v_40.toInt = _) (by omega) (by omega)
                  have hn_k_380 : 0 ≤ x_379.toInt ∧ x_379.toInt ≤ 900 := by omega
                  refine va_put (D := G) (ci := 12) (v := .int x_379) (ty := .int) (C := RX12) (T := TX12) (N := 65) hx hb hts inT12 tyX12 tyX12_ok nmX12 hown hK hP hD hS 0 rfl rfl 18 (by decide) (hts _ tw_1903) (fun _ h9 => h9) rfl (tyX12_ok 18 (by decide)) rfl rfl (Nat.le_of_ble_eq_true rfl) dX12_next2_192 (fun H locs hP hD hS => ?_)
                  refine lv_goto (tgt := 330) hx hb dX12_next2_195 (by decide) ?_
                  have hpost : (0 ≤ (1 : Int32).toInt ∧ (1 : Int32).toInt ≤ 4) ∧ (0 ≤ v_40.toInt ∧ v_40.toInt ≤ 900) ∧ (0 ≤ v_342.toInt ∧ v_342.toInt ≤ 900) ∧ (0 ≤ m_number.toInt ∧ m_number.toInt ≤ 9999) ∧ (0 ≤ x_379.toInt ∧ x_379.toInt ≤ 900) ∧ (m_behind.toInt ≤ v_342.toInt) ∧ ((1 : Int32).toInt = 0 ∨ m_behind.toInt < v_342.toInt) := ⟨(by decide +kernel), hr_v_40, hr_v_342, hr_m_number, (by omega), (by omega), (by omega)⟩
                  exact hret _ _ _ _ _ (1, v_40, v_342, m_number, x_379, v_343) [0, 1] hP hD hS rfl (by decide) dX12_next2_330 hpost
                · skip
                  refine lv_if_eq (tgt := 182) hx hb dX12_next2_120 (by decide) (fun h9 => absurd h9 (by decide +kernel)) (fun _ => ?_)
                  refine lv_aload_n hx hb dX12_next2_123 rfl (lv_at hl 0 rfl) ?_
                  refine lv_aload_n hx hb dX12_next2_124 rfl (lv_at hl 0 rfl) ?_
                  refine va_get (D := G) (ci := 12) (v := .int v_342) (C := RX12) (T := TX12) (N := 65) hx hb hts inT12 hown hK hP 0 rfl rfl 16 (by decide) (hts _ tw_1901) (fun _ h9 => h9) rfl dX12_next2_125 ?_
                  refine lv_aload_n hx hb dX12_next2_128 rfl (lv_at hl 0 rfl) ?_
                  refine va_get (D := G) (ci := 12) (v := .int v_40) (C := RX12) (T := TX12) (N := 65) hx hb hts inT12 hown hK hP 0 rfl rfl 15 (by decide) (hts _ tw_1900) (fun _ h9 => h9) rfl dX12_next2_129 ?_
                  refine lv_isub hx hb dX12_next2_132 ?_
                  refine lv_topi (fun x_381 he_x_381 => ?_)
                  have hq_x_381 := z_subq he_x_381 (rfl : v_342.toInt = _) (rfl : v_40.toInt = _) (by omega) (by omega)
                  refine lv_bipush (v := 8) hx hb dX12_next2_133 (by decide) ?_
                  refine lv_icmp_ge (tgt := 163) hx hb dX12_next2_135 (by decide) (fun c_382 => ?_) (fun c_382 => ?_)
                  · have b_383 := z_fgeT c_382
                    refine lv_ldc2 (v := (-1)) hx hb hown (hts _ tw_2118) dX12_next2_163 ?_
                    refine va_put (D := G) (ci := 12) (v := .long (-1)) (ty := .long) (C := RX12) (T := TX12) (N := 65) hx hb hts inT12 tyX12 tyX12_ok nmX12 hown hK hP hD hS 0 rfl rfl 19 (by decide) (hts _ tw_1904) (fun _ h9 => h9) rfl (tyX12_ok 19 (by decide)) rfl rfl (Nat.le_of_ble_eq_true rfl) dX12_next2_166 (fun H locs hP hD hS => ?_)
                    refine lv_aload_n hx hb dX12_next2_169 rfl (lv_at hl 0 rfl) ?_
                    refine lv_dup hx hb dX12_next2_170 rfl ?_
                    refine va_get (D := G) (ci := 12) (v := .int v_342) (C := RX12) (T := TX12) (N := 65) hx hb hts inT12 hown hK hP 0 rfl rfl 16 (by decide) (hts _ tw_1901) (fun _ h9 => h9) rfl dX12_next2_171 ?_
                    refine lv_iconst (v := 1) hx hb dX12_next2_174 (by decide) ?_
                    refine lv_iadd hx hb dX12_next2_175 ?_
                    refine lv_topi (fun x_384 he_x_384 => ?_)
                    have hq_x_384 := z_addq he_x_384 (rfl : v_342.toInt = _) hk_1 (by omega) (by omega)
                    have hn_k_385 : 0 ≤ x_384.toInt ∧ x_384.toInt ≤ 900 := by omega
                    refine va_put (D := G) (ci := 12) (v := .int x_384) (ty := .int) (C := RX12) (T := TX12) (N := 65) hx hb hts inT12 tyX12 tyX12_ok nmX12 hown hK hP hD hS 0 rfl rfl 16 (by decide) (hts _ tw_1901) (fun _ h9 => h9) rfl (tyX12_ok 16 (by decide)) rfl rfl (Nat.le_of_ble_eq_true rfl) dX12_next2_176 (fun H locs hP hD hS => ?_)
                    refine lv_goto (tgt := 109) hx hb dX12_next2_179 (by decide) ?_
                    exact ih_370 x_384 (-1) H locs ls (by omega) (by omega) (by omega) hP hD hS (lv_sub hl [0, 1] rfl)
                  · have b_386 := z_fltF c_382
                    refine lv_aload_n hx hb dX12_next2_138 rfl (lv_at hl 0 rfl) ?_
                    refine va_get (D := G) (ci := 12) (v := .long v_343) (C := RX12) (T := TX12) (N := 65) hx hb hts inT12 hown hK hP 0 rfl rfl 19 (by decide) (hts _ tw_1904) (fun _ h9 => h9) rfl dX12_next2_139 ?_
                    refine lv_ldc2 (v := 32) hx hb hown (hts _ tw_2154) dX12_next2_142 ?_
                    refine lv_lmul hx hb dX12_next2_145 ?_
                    have hL_v_343 := z_fulll v_343
                    refine lv_topl (fun x_387 he_x_387 => ?_)
                    refine lv_aload_n hx hb dX12_next2_146 rfl (lv_at hl 0 rfl) ?_
                    refine lv_aload_n hx hb dX12_next2_147 rfl (lv_at hl 0 rfl) ?_
                    refine va_get (D := G) (ci := 12) (v := .int v_342) (C := RX12) (T := TX12) (N := 65) hx hb hts inT12 hown hK hP 0 rfl rfl 16 (by decide) (hts _ tw_1901) (fun _ h9 => h9) rfl dX12_next2_148 ?_
                    refine z_callVi (As := [.int v_342]) (rest := [.long x_387, .ref h0]) (wr := []) ⟨hx, hb, hml, hown, hts⟩ hK hE hT hP hD hS hA (r_look2 l G cA h0 m_status m_thrown m_above m_under a_traySort a_trayMany a_numbers a_tape m_taped m_textEnd m_faultKind m_faultAt m_bad m_badAt 1 v_40 v_342 m_number m_letters v_343 a_c a_words m_markMany a_there a_tried a_best a_found m_thereMany m_foundMany m_orderHow m_orderRing m_orderMany m_hasBest m_bestTop m_bestBy a_weights a_shared m_random m_truePlace m_trueWay m_seconds m_done m_feelings m_tries m_leftOver m_playDoor m_playRing m_isOpen m_isOver m_wasTried m_hasPlayed a_feltNow a_last a_kept m_hasSeconds m_hasTurned m_hasRound a_hasFeels a_isOn m_firstAct m_meanTop m_meanBy a_order m_rowMany m_newSteps g_tape v_342 hr_v_342 hr_m_textEnd) lk_RX12_130 ⟨rfl, rfl⟩ ⟨Nat.le_of_ble_eq_true rfl, Nat.le_of_ble_eq_true rfl⟩ 12 rfl rfl rfl [0, 1] [] rfl rfl (by decide) rfl hl.1 rfl (lv_room (Nat.le_of_ble_eq_true rfl)) dX12_next2_151 ⟨Nat.le_of_ble_eq_true rfl, Nat.le_of_ble_eq_true rfl⟩ (fun r_388 u_389 H locs hw hP hD hS => ?_)
                    obtain ⟨hr_r_388, hf_390, hf_391⟩ := hw
                    refine lv_i2l (v := (r_388).toInt64) hx hb dX12_next2_154 rfl ?_
                    refine lv_topl (fun x_392 he_x_392 => ?_)
                    have hq_x_392 := z_i2l he_x_392
                    refine lv_ladd hx hb dX12_next2_155 ?_
                    have hL_x_387 := z_fulll x_387
                    refine lv_topl (fun x_393 he_x_393 => ?_)
                    refine lv_ldc2 (v := 96) hx hb hown (hts _ tw_2155) dX12_next2_156 ?_
                    refine lv_lsub hx hb dX12_next2_159 ?_
                    have hL_x_393 := z_fulll x_393
                    refine lv_topl (fun x_394 he_x_394 => ?_)
                    refine lv_goto (tgt := 166) hx hb dX12_next2_160 (by decide) ?_
                    refine va_put (D := G) (ci := 12) (v := .long x_394) (ty := .long) (C := RX12) (T := TX12) (N := 65) hx hb hts inT12 tyX12 tyX12_ok nmX12 hown hK hP hD hS 0 rfl rfl 19 (by decide) (hts _ tw_1904) (fun _ h9 => h9) rfl (tyX12_ok 19 (by decide)) rfl rfl (Nat.le_of_ble_eq_true rfl) dX12_next2_166 (fun H locs hP hD hS => ?_)
                    refine lv_aload_n hx hb dX12_next2_169 rfl (lv_at hl 0 rfl) ?_
                    refine lv_dup hx hb dX12_next2_170 rfl ?_
                    refine va_get (D := G) (ci := 12) (v := .int v_342) (C := RX12) (T := TX12) (N := 65) hx hb hts inT12 hown hK hP 0 rfl rfl 16 (by decide) (hts _ tw_1901) (fun _ h9 => h9) rfl dX12_next2_171 ?_
                    refine lv_iconst (v := 1) hx hb dX12_next2_174 (by decide) ?_
                    refine lv_iadd hx hb dX12_next2_175 ?_
                    refine lv_topi (fun x_395 he_x_395 => ?_)
                    have hq_x_395 := z_addq he_x_395 (rfl : v_342.toInt = _) hk_1 (by omega) (by omega)
                    have hn_k_396 : 0 ≤ x_395.toInt ∧ x_395.toInt ≤ 900 := by omega
                    refine va_put (D := G) (ci := 12) (v := .int x_395) (ty := .int) (C := RX12) (T := TX12) (N := 65) hx hb hts inT12 tyX12 tyX12_ok nmX12 hown hK hP hD hS 0 rfl rfl 16 (by decide) (hts _ tw_1901) (fun _ h9 => h9) rfl (tyX12_ok 16 (by decide)) rfl rfl (Nat.le_of_ble_eq_true rfl) dX12_next2_176 (fun H locs hP hD hS => ?_)
                    refine lv_goto (tgt := 109) hx hb dX12_next2_179 (by decide) ?_
                    exact ih_370 x_395 x_394 H locs ls (by omega) (by omega) (by omega) hP hD hS (lv_sub hl [0, 1] rfl)
            exact hlp_369 _ v_40 0 _ _ _ (Nat.lt_succ_self _) hr_v_40 (by omega) hP hD hS (lv_sub hl [1, 0] rfl)
        · have b_397 := z_fgeF c_65
          refine lv_aload_n hx hb dX12_next2_77 rfl (lv_at hl 0 rfl) ?_
          refine lv_iconst (v := 0) hx hb dX12_next2_78 (by decide) ?_
          refine va_put (D := G) (ci := 12) (v := .int 0) (ty := .int) (C := RX12) (T := TX12) (N := 65) hx hb hts inT12 tyX12 tyX12_ok nmX12 hown hK hP hD hS 0 rfl rfl 14 (by decide) (hts _ tw_1899) (fun _ h9 => h9) rfl (tyX12_ok 14 (by decide)) rfl rfl (Nat.le_of_ble_eq_true rfl) dX12_next2_79 (fun H locs hP hD hS => ?_)
          have hpost : (0 ≤ (0 : Int32).toInt ∧ (0 : Int32).toInt ≤ 4) ∧ (0 ≤ v_40.toInt ∧ v_40.toInt ≤ 900) ∧ (0 ≤ v_40.toInt ∧ v_40.toInt ≤ 900) ∧ (0 ≤ m_number.toInt ∧ m_number.toInt ≤ 9999) ∧ (0 ≤ m_letters.toInt ∧ m_letters.toInt ≤ 900) ∧ (m_behind.toInt ≤ v_40.toInt) ∧ ((0 : Int32).toInt = 0 ∨ m_behind.toInt < v_40.toInt) := ⟨(by decide +kernel), hr_v_40, hr_v_40, hr_m_number, hr_m_letters, (by omega), (by omega)⟩
          exact hret _ _ _ _ _ (0, v_40, v_40, m_number, m_letters, m_word) [0, 1] hP hD hS rfl (by decide) dX12_next2_82 hpost
      · have b_398 := z_fltF c_63
        refine lv_aload_n hx hb dX12_next2_19 rfl (lv_at hl 0 rfl) ?_
        refine lv_aload_n hx hb dX12_next2_20 rfl (lv_at hl 0 rfl) ?_
        refine va_get (D := G) (ci := 12) (v := .int v_40) (C := RX12) (T := TX12) (N := 65) hx hb hts inT12 hown hK hP 0 rfl rfl 15 (by decide) (hts _ tw_1900) (fun _ h9 => h9) rfl dX12_next2_21 ?_
        refine z_callVi (As := [.int v_40]) (rest := []) (wr := []) ⟨hx, hb, hml, hown, hts⟩ hK hE hT hP hD hS hA (r_look2 l G cA h0 m_status m_thrown m_above m_under a_traySort a_trayMany a_numbers a_tape m_taped m_textEnd m_faultKind m_faultAt m_bad m_badAt m_token v_40 m_behind m_number m_letters m_word a_c a_words m_markMany a_there a_tried a_best a_found m_thereMany m_foundMany m_orderHow m_orderRing m_orderMany m_hasBest m_bestTop m_bestBy a_weights a_shared m_random m_truePlace m_trueWay m_seconds m_done m_feelings m_tries m_leftOver m_playDoor m_playRing m_isOpen m_isOver m_wasTried m_hasPlayed a_feltNow a_last a_kept m_hasSeconds m_hasTurned m_hasRound a_hasFeels a_isOn m_firstAct m_meanTop m_meanBy a_order m_rowMany m_newSteps g_tape v_40 hr_v_40 hr_m_textEnd) lk_RX12_130 ⟨rfl, rfl⟩ ⟨Nat.le_of_ble_eq_true rfl, Nat.le_of_ble_eq_true rfl⟩ 12 rfl rfl rfl [0, 1] [] rfl rfl (by decide) rfl hl.1 rfl (lv_room (Nat.le_of_ble_eq_true rfl)) dX12_next2_24 ⟨Nat.le_of_ble_eq_true rfl, Nat.le_of_ble_eq_true rfl⟩ (fun r_399 u_400 H locs hw hP hD hS => ?_)
        obtain ⟨hr_r_399, hf_401, hf_402⟩ := hw
        refine lv_bipush (v := 10) hx hb dX12_next2_27 (by decide) ?_
        refine lv_icmp_eq (tgt := 45) hx hb dX12_next2_29 (by decide) (fun c_403 => ?_) (fun c_403 => ?_)
        · have b_404 := z_feqT c_403
          refine lv_aload_n hx hb dX12_next2_45 rfl (lv_at hl 0 rfl) ?_
          refine lv_dup hx hb dX12_next2_46 rfl ?_
          refine va_get (D := G) (ci := 12) (v := .int v_40) (C := RX12) (T := TX12) (N := 65) hx hb hts inT12 hown hK hP 0 rfl rfl 15 (by decide) (hts _ tw_1900) (fun _ h9 => h9) rfl dX12_next2_47 ?_
          refine lv_iconst (v := 1) hx hb dX12_next2_50 (by decide) ?_
          refine lv_iadd hx hb dX12_next2_51 ?_
          refine lv_topi (fun x_405 he_x_405 => ?_)
          have hq_x_405 := z_addq he_x_405 (rfl : v_40.toInt = _) hk_1 (by omega) (by omega)
          refine va_put (D := G) (ci := 12) (v := .int x_405) (ty := .int) (C := RX12) (T := TX12) (N := 65) hx hb hts inT12 tyX12 tyX12_ok nmX12 hown hK hP hD hS 0 rfl rfl 15 (by decide) (hts _ tw_1900) (fun _ h9 => h9) rfl (tyX12_ok 15 (by decide)) rfl rfl (Nat.le_of_ble_eq_true rfl) dX12_next2_52 (fun H locs hP hD hS => ?_)
          refine lv_goto (tgt := 8) hx hb dX12_next2_55 (by decide) ?_
          exact ih_62 x_405 H locs ls (by omega) (by omega) (by omega) hP hD hS (lv_sub hl [0] rfl)
        · have b_406 := z_fneF c_403
          refine lv_aload_n hx hb dX12_next2_32 rfl (lv_at hl 0 rfl) ?_
          refine lv_aload_n hx hb dX12_next2_33 rfl (lv_at hl 0 rfl) ?_
          refine va_get (D := G) (ci := 12) (v := .int v_40) (C := RX12) (T := TX12) (N := 65) hx hb hts inT12 hown hK hP 0 rfl rfl 15 (by decide) (hts _ tw_1900) (fun _ h9 => h9) rfl dX12_next2_34 ?_
          refine z_callVi (As := [.int v_40]) (rest := []) (wr := []) ⟨hx, hb, hml, hown, hts⟩ hK hE hT hP hD hS hA (r_look2 l G cA h0 m_status m_thrown m_above m_under a_traySort a_trayMany a_numbers a_tape m_taped m_textEnd m_faultKind m_faultAt m_bad m_badAt m_token v_40 m_behind m_number m_letters m_word a_c a_words m_markMany a_there a_tried a_best a_found m_thereMany m_foundMany m_orderHow m_orderRing m_orderMany m_hasBest m_bestTop m_bestBy a_weights a_shared m_random m_truePlace m_trueWay m_seconds m_done m_feelings m_tries m_leftOver m_playDoor m_playRing m_isOpen m_isOver m_wasTried m_hasPlayed a_feltNow a_last a_kept m_hasSeconds m_hasTurned m_hasRound a_hasFeels a_isOn m_firstAct m_meanTop m_meanBy a_order m_rowMany m_newSteps g_tape v_40 hr_v_40 hr_m_textEnd) lk_RX12_130 ⟨rfl, rfl⟩ ⟨Nat.le_of_ble_eq_true rfl, Nat.le_of_ble_eq_true rfl⟩ 12 rfl rfl rfl [0, 1] [] rfl rfl (by decide) rfl hl.1 rfl (lv_room (Nat.le_of_ble_eq_true rfl)) dX12_next2_37 ⟨Nat.le_of_ble_eq_true rfl, Nat.le_of_ble_eq_true rfl⟩ (fun r_407 u_408 H locs hw hP hD hS => ?_)
          obtain ⟨hr_r_407, hf_409, hf_410⟩ := hw
          refine lv_bipush (v := 32) hx hb dX12_next2_40 (by decide) ?_
          refine lv_icmp_ne (tgt := 58) hx hb dX12_next2_42 (by decide) (fun c_411 => ?_) (fun c_411 => ?_)
          · have b_412 := z_fneT c_411
            refine lv_aload_n hx hb dX12_next2_58 rfl (lv_at hl 0 rfl) ?_
            refine lv_aload_n hx hb dX12_next2_59 rfl (lv_at hl 0 rfl) ?_
            refine va_get (D := G) (ci := 12) (v := .int v_40) (C := RX12) (T := TX12) (N := 65) hx hb hts inT12 hown hK hP 0 rfl rfl 15 (by decide) (hts _ tw_1900) (fun _ h9 => h9) rfl dX12_next2_60 ?_
            refine va_put (D := G) (ci := 12) (v := .int v_40) (ty := .int) (C := RX12) (T := TX12) (N := 65) hx hb hts inT12 tyX12 tyX12_ok nmX12 hown hK hP hD hS 0 rfl rfl 16 (by decide) (hts _ tw_1901) (fun _ h9 => h9) rfl (tyX12_ok 16 (by decide)) rfl rfl (Nat.le_of_ble_eq_true rfl) dX12_next2_63 (fun H locs hP hD hS => ?_)
            refine lv_aload_n hx hb dX12_next2_66 rfl (lv_at hl 0 rfl) ?_
            refine va_get (D := G) (ci := 12) (v := .int v_40) (C := RX12) (T := TX12) (N := 65) hx hb hts inT12 hown hK hP 0 rfl rfl 15 (by decide) (hts _ tw_1900) (fun _ h9 => h9) rfl dX12_next2_67 ?_
            refine lv_aload_n hx hb dX12_next2_70 rfl (lv_at hl 0 rfl) ?_
            refine va_get (D := G) (ci := 12) (v := .int m_textEnd) (C := RX12) (T := TX12) (N := 65) hx hb hts inT12 hown hK hP 0 rfl rfl 9 (by decide) (hts _ tw_1894) (fun _ h9 => h9) rfl dX12_next2_71 ?_
            refine lv_icmp_lt (tgt := 83) hx hb dX12_next2_74 (by decide) (fun c_413 => ?_) (fun c_413 => ?_)
            · have b_414 := z_fltT c_413
              refine lv_aload_n hx hb dX12_next2_83 rfl (lv_at hl 0 rfl) ?_
              refine lv_aload_n hx hb dX12_next2_84 rfl (lv_at hl 0 rfl) ?_
              refine va_get (D := G) (ci := 12) (v := .int v_40) (C := RX12) (T := TX12) (N := 65) hx hb hts inT12 hown hK hP 0 rfl rfl 15 (by decide) (hts _ tw_1900) (fun _ h9 => h9) rfl dX12_next2_85 ?_
              refine z_callVi (As := [.int v_40]) (rest := []) (wr := []) ⟨hx, hb, hml, hown, hts⟩ hK hE hT hP hD hS hA (r_look2 l G cA h0 m_status m_thrown m_above m_under a_traySort a_trayMany a_numbers a_tape m_taped m_textEnd m_faultKind m_faultAt m_bad m_badAt m_token v_40 v_40 m_number m_letters m_word a_c a_words m_markMany a_there a_tried a_best a_found m_thereMany m_foundMany m_orderHow m_orderRing m_orderMany m_hasBest m_bestTop m_bestBy a_weights a_shared m_random m_truePlace m_trueWay m_seconds m_done m_feelings m_tries m_leftOver m_playDoor m_playRing m_isOpen m_isOver m_wasTried m_hasPlayed a_feltNow a_last a_kept m_hasSeconds m_hasTurned m_hasRound a_hasFeels a_isOn m_firstAct m_meanTop m_meanBy a_order m_rowMany m_newSteps g_tape v_40 hr_v_40 hr_m_textEnd) lk_RX12_130 ⟨rfl, rfl⟩ ⟨Nat.le_of_ble_eq_true rfl, Nat.le_of_ble_eq_true rfl⟩ 12 rfl rfl rfl [0, 1] [] rfl rfl (by decide) rfl hl.1 rfl (lv_room (Nat.le_of_ble_eq_true rfl)) dX12_next2_88 ⟨Nat.le_of_ble_eq_true rfl, Nat.le_of_ble_eq_true rfl⟩ (fun r_415 u_416 H locs hw hP hD hS => ?_)
              obtain ⟨hr_r_415, hf_417, hf_418⟩ := hw
              have hlk_r_415 := hf_418
              refine lv_istore_n (lv' := [(1, .int r_415), (0, .ref h0)]) hx hb dX12_next2_91 rfl hl (by decide) rfl (fun ls hl => ?_)
              refine lv_iload_n hx hb dX12_next2_92 rfl (lv_at hl 0 rfl) ?_
              refine z_callSi (As := [.int r_415]) (rest := []) (wr := [(h0, .inr (12, [.int m_status, .int m_thrown, .long m_above, .long m_under, .ref a_traySort, .ref a_trayMany, .ref a_numbers, .ref a_tape, .int m_taped, .int m_textEnd, .int m_faultKind, .int m_faultAt, .int m_bad, .int m_badAt, .int m_token, .int v_40, .int v_40, .int m_number, .int m_letters, .long m_word, .ref a_c, .ref a_words, .int m_markMany, .ref a_there, .ref a_tried, .ref a_best, .ref a_found, .int m_thereMany, .int m_foundMany, .int m_orderHow, .int m_orderRing, .int m_orderMany, .int m_hasBest, .long m_bestTop, .long m_bestBy, .ref a_weights, .ref a_shared, .int m_random, .int m_truePlace, .int m_trueWay, .int m_seconds, .int m_done, .int m_feelings, .int m_tries, .int m_leftOver, .int m_playDoor, .int m_playRing, .int m_isOpen, .int m_isOver, .int m_wasTried, .int m_hasPlayed, .ref a_feltNow, .ref a_last, .ref a_kept, .int m_hasSeconds, .int m_hasTurned, .int m_hasRound, .ref a_hasFeels, .ref a_isOn, .int m_firstAct, .long m_meanTop, .long m_meanBy, .ref a_order, .int m_rowMany, .int m_newSteps])), (a_tape, .inl (cA.1 2, 900, .inl g_tape))]) ⟨hx, hb, hml, hown, hts⟩ hK hE hT hP hD hS hA (r_isLetter l G cA r_415) lk_RX12_136 ⟨rfl, rfl⟩ ⟨Nat.le_of_ble_eq_true rfl, Nat.le_of_ble_eq_true rfl⟩ [] [0, 1] rfl rfl (by decide) rfl hl.1 rfl (lv_room (Nat.le_of_ble_eq_true rfl)) dX12_next2_93 ⟨Nat.le_of_ble_eq_true rfl, Nat.le_of_ble_eq_true rfl⟩ (fun r_419 u_420 H locs hw hP hD hS => ?_)
              rcases hw with ⟨rfl, hf_421⟩ | ⟨rfl, hf_422⟩
              · skip
                refine lv_if_eq (tgt := 198) hx hb dX12_next2_96 (by decide) (fun _ => ?_) (fun h9 => absurd (by decide +kernel) h9)
                refine lv_iload_n hx hb dX12_next2_198 rfl (lv_at hl 0 rfl) ?_
                refine z_callSi (As := [.int r_415]) (rest := []) (wr := [(h0, .inr (12, [.int m_status, .int m_thrown, .long m_above, .long m_under, .ref a_traySort, .ref a_trayMany, .ref a_numbers, .ref a_tape, .int m_taped, .int m_textEnd, .int m_faultKind, .int m_faultAt, .int m_bad, .int m_badAt, .int m_token, .int v_40, .int v_40, .int m_number, .int m_letters, .long m_word, .ref a_c, .ref a_words, .int m_markMany, .ref a_there, .ref a_tried, .ref a_best, .ref a_found, .int m_thereMany, .int m_foundMany, .int m_orderHow, .int m_orderRing, .int m_orderMany, .int m_hasBest, .long m_bestTop, .long m_bestBy, .ref a_weights, .ref a_shared, .int m_random, .int m_truePlace, .int m_trueWay, .int m_seconds, .int m_done, .int m_feelings, .int m_tries, .int m_leftOver, .int m_playDoor, .int m_playRing, .int m_isOpen, .int m_isOver, .int m_wasTried, .int m_hasPlayed, .ref a_feltNow, .ref a_last, .ref a_kept, .int m_hasSeconds, .int m_hasTurned, .int m_hasRound, .ref a_hasFeels, .ref a_isOn, .int m_firstAct, .long m_meanTop, .long m_meanBy, .ref a_order, .int m_rowMany, .int m_newSteps])), (a_tape, .inl (cA.1 2, 900, .inl g_tape))]) ⟨hx, hb, hml, hown, hts⟩ hK hE hT hP hD hS hA (r_isDigit l G cA r_415) lk_RX12_149 ⟨rfl, rfl⟩ ⟨Nat.le_of_ble_eq_true rfl, Nat.le_of_ble_eq_true rfl⟩ [] [0, 1] rfl rfl (by decide) rfl hl.1 rfl (lv_room (Nat.le_of_ble_eq_true rfl)) dX12_next2_199 ⟨Nat.le_of_ble_eq_true rfl, Nat.le_of_ble_eq_true rfl⟩ (fun r_423 u_424 H locs hw hP hD hS => ?_)
                rcases hw with ⟨rfl, hf_425⟩ | ⟨rfl, hf_426⟩
                · skip
                  refine lv_if_eq (tgt := 298) hx hb dX12_next2_202 (by decide) (fun _ => ?_) (fun h9 => absurd (by decide +kernel) h9)
                  refine lv_aload_n hx hb dX12_next2_298 rfl (lv_at hl 1 rfl) ?_
                  refine lv_aload_n hx hb dX12_next2_299 rfl (lv_at hl 1 rfl) ?_
                  refine va_get (D := G) (ci := 12) (v := .int v_40) (C := RX12) (T := TX12) (N := 65) hx hb hts inT12 hown hK hP 0 rfl rfl 15 (by decide) (hts _ tw_1900) (fun _ h9 => h9) rfl dX12_next2_300 ?_
                  refine lv_iconst (v := 1) hx hb dX12_next2_303 (by decide) ?_
                  refine lv_iadd hx hb dX12_next2_304 ?_
                  refine lv_topi (fun x_427 he_x_427 => ?_)
                  have hq_x_427 := z_addq he_x_427 (rfl : v_40.toInt = _) hk_1 (by omega) (by omega)
                  refine va_put (D := G) (ci := 12) (v := .int x_427) (ty := .int) (C := RX12) (T := TX12) (N := 65) hx hb hts inT12 tyX12 tyX12_ok nmX12 hown hK hP hD hS 0 rfl rfl 16 (by decide) (hts _ tw_1901) (fun _ h9 => h9) rfl (tyX12_ok 16 (by decide)) rfl rfl (Nat.le_of_ble_eq_true rfl) dX12_next2_305 (fun H locs hP hD hS => ?_)
                  refine lv_aload_n hx hb dX12_next2_308 rfl (lv_at hl 1 rfl) ?_
                  refine lv_iload_n hx hb dX12_next2_309 rfl (lv_at hl 0 rfl) ?_
                  refine va_put (D := G) (ci := 12) (v := .int r_415) (ty := .int) (C := RX12) (T := TX12) (N := 65) hx hb hts inT12 tyX12 tyX12_ok nmX12 hown hK hP hD hS 0 rfl rfl 17 (by decide) (hts _ tw_1902) (fun _ h9 => h9) rfl (tyX12_ok 17 (by decide)) rfl rfl (Nat.le_of_ble_eq_true rfl) dX12_next2_310 (fun H locs hP hD hS => ?_)
                  refine lv_aload_n hx hb dX12_next2_313 rfl (lv_at hl 1 rfl) ?_
                  refine lv_aload_n hx hb dX12_next2_314 rfl (lv_at hl 1 rfl) ?_
                  refine lv_iload_n hx hb dX12_next2_315 rfl (lv_at hl 0 rfl) ?_
                  refine z_callVi (As := [.int r_415]) (rest := [.ref h0]) (wr := [(a_tape, .inl (cA.1 2, 900, .inl g_tape))]) ⟨hx, hb, hml, hown, hts⟩ hK hE hT hP hD hS hA (r_isSignByte l G cA h0 m_status m_thrown m_above m_under a_traySort a_trayMany a_numbers a_tape m_taped m_textEnd m_faultKind m_faultAt m_bad m_badAt m_token v_40 x_427 r_415 m_letters m_word a_c a_words m_markMany a_there a_tried a_best a_found m_thereMany m_foundMany m_orderHow m_orderRing m_orderMany m_hasBest m_bestTop m_bestBy a_weights a_shared m_random m_truePlace m_trueWay m_seconds m_done m_feelings m_tries m_leftOver m_playDoor m_playRing m_isOpen m_isOver m_wasTried m_hasPlayed a_feltNow a_last a_kept m_hasSeconds m_hasTurned m_hasRound a_hasFeels a_isOn m_firstAct m_meanTop m_meanBy a_order m_rowMany m_newSteps r_415) lk_RX12_155 ⟨rfl, rfl⟩ ⟨Nat.le_of_ble_eq_true rfl, Nat.le_of_ble_eq_true rfl⟩ 12 rfl rfl rfl [0] [1] rfl rfl (by decide) rfl hl.1 rfl (lv_room (Nat.le_of_ble_eq_true rfl)) dX12_next2_316 ⟨Nat.le_of_ble_eq_true rfl, Nat.le_of_ble_eq_true rfl⟩ (fun r_428 u_429 H locs hw hP hD hS => ?_)
                  rcases hw with ⟨rfl, -⟩ | ⟨rfl, -⟩
                  · skip
                    refine lv_if_eq (tgt := 326) hx hb dX12_next2_319 (by decide) (fun _ => ?_) (fun h9 => absurd (by decide +kernel) h9)
                    refine lv_iconst (v := 4) hx hb dX12_next2_326 (by decide) ?_
                    refine va_put (D := G) (ci := 12) (v := .int 4) (ty := .int) (C := RX12) (T := TX12) (N := 65) hx hb hts inT12 tyX12 tyX12_ok nmX12 hown hK hP hD hS 1 rfl rfl 14 (by decide) (hts _ tw_1899) (fun _ h9 => h9) rfl (tyX12_ok 14 (by decide)) rfl rfl (Nat.le_of_ble_eq_true rfl) dX12_next2_327 (fun H locs hP hD hS => ?_)
                    have hpost : (0 ≤ (4 : Int32).toInt ∧ (4 : Int32).toInt ≤ 4) ∧ (0 ≤ v_40.toInt ∧ v_40.toInt ≤ 900) ∧ (0 ≤ x_427.toInt ∧ x_427.toInt ≤ 900) ∧ (0 ≤ r_415.toInt ∧ r_415.toInt ≤ 9999) ∧ (0 ≤ m_letters.toInt ∧ m_letters.toInt ≤ 900) ∧ (m_behind.toInt ≤ x_427.toInt) ∧ ((4 : Int32).toInt = 0 ∨ m_behind.toInt < x_427.toInt) := ⟨(by decide +kernel), hr_v_40, (by omega), (z_rgw hr_r_415 (by decide) (by decide)), hr_m_letters, (by omega), (by omega)⟩
                    exact hret _ _ _ _ _ (4, v_40, x_427, r_415, m_letters, m_word) [1, 0] hP hD hS rfl (by decide) dX12_next2_330 hpost
                  · skip
                    refine lv_if_eq (tgt := 326) hx hb dX12_next2_319 (by decide) (fun h9 => absurd h9 (by decide +kernel)) (fun _ => ?_)
                    refine lv_iconst (v := 3) hx hb dX12_next2_322 (by decide) ?_
                    refine lv_goto (tgt := 327) hx hb dX12_next2_323 (by decide) ?_
                    refine va_put (D := G) (ci := 12) (v := .int 3) (ty := .int) (C := RX12) (T := TX12) (N := 65) hx hb hts inT12 tyX12 tyX12_ok nmX12 hown hK hP hD hS 1 rfl rfl 14 (by decide) (hts _ tw_1899) (fun _ h9 => h9) rfl (tyX12_ok 14 (by decide)) rfl rfl (Nat.le_of_ble_eq_true rfl) dX12_next2_327 (fun H locs hP hD hS => ?_)
                    have hpost : (0 ≤ (3 : Int32).toInt ∧ (3 : Int32).toInt ≤ 4) ∧ (0 ≤ v_40.toInt ∧ v_40.toInt ≤ 900) ∧ (0 ≤ x_427.toInt ∧ x_427.toInt ≤ 900) ∧ (0 ≤ r_415.toInt ∧ r_415.toInt ≤ 9999) ∧ (0 ≤ m_letters.toInt ∧ m_letters.toInt ≤ 900) ∧ (m_behind.toInt ≤ x_427.toInt) ∧ ((3 : Int32).toInt = 0 ∨ m_behind.toInt < x_427.toInt) := ⟨(by decide +kernel), hr_v_40, (by omega), (z_rgw hr_r_415 (by decide) (by decide)), hr_m_letters, (by omega), (by omega)⟩
                    exact hret _ _ _ _ _ (3, v_40, x_427, r_415, m_letters, m_word) [1, 0] hP hD hS rfl (by decide) dX12_next2_330 hpost
                · skip
                  refine lv_if_eq (tgt := 298) hx hb dX12_next2_202 (by decide) (fun h9 => absurd h9 (by decide +kernel)) (fun _ => ?_)
                  refine lv_aload_n hx hb dX12_next2_205 rfl (lv_at hl 1 rfl) ?_
                  refine lv_iconst (v := 0) hx hb dX12_next2_206 (by decide) ?_
                  refine va_put (D := G) (ci := 12) (v := .int 0) (ty := .int) (C := RX12) (T := TX12) (N := 65) hx hb hts inT12 tyX12 tyX12_ok nmX12 hown hK hP hD hS 0 rfl rfl 17 (by decide) (hts _ tw_1902) (fun _ h9 => h9) rfl (tyX12_ok 17 (by decide)) rfl rfl (Nat.le_of_ble_eq_true rfl) dX12_next2_207 (fun H locs hP hD hS => ?_)
                  have hlp_507 : ∀ (n : Nat) (v_479 : Int32) (v_480 : Int32) (H : Heap) (locs : List Loc) (ls : Array Slot), (2147483647 - v_479.toInt).toNat < n → (0 ≤ v_479.toInt ∧ v_479.toInt ≤ 900) → (0 ≤ v_480.toInt ∧ v_480.toInt ≤ 9999) → (v_40.toInt ≤ v_479.toInt) → ((v_479.toInt - v_40.toInt ≤ 0 → v_480.toInt ≤ 0) ∧ (v_479.toInt - v_40.toInt ≤ 1 → v_480.toInt ≤ 9) ∧ (v_479.toInt - v_40.toInt ≤ 2 → v_480.toInt ≤ 99) ∧ (v_479.toInt - v_40.toInt ≤ 3 → v_480.toInt ≤ 999)) → va_P G vwCl [(h0, .inr (12, [.int m_status, .int m_thrown, .long m_above, .long m_under, .ref a_traySort, .ref a_trayMany, .ref a_numbers, .ref a_tape, .int m_taped, .int m_textEnd, .int m_faultKind, .int m_faultAt, .int m_bad, .int m_badAt, .int m_token, .int v_40, .int v_479, .int v_480, .int m_letters, .long m_word, .ref a_c, .ref a_words, .int m_markMany, .ref a_there, .ref a_tried, .ref a_best, .ref a_found, .int m_thereMany, .int m_foundMany, .int m_orderHow, .int m_orderRing, .int m_orderMany, .int m_hasBest, .long m_bestTop, .long m_bestBy, .ref a_weights, .ref a_shared, .int m_random, .int m_truePlace, .int m_trueWay, .int m_seconds, .int m_done, .int m_feelings, .int m_tries, .int m_leftOver, .int m_playDoor, .int m_playRing, .int m_isOpen, .int m_isOver, .int m_wasTried, .int m_hasPlayed, .ref a_feltNow, .ref a_last, .ref a_kept, .int m_hasSeconds, .int m_hasTurned, .int m_hasRound, .ref a_hasFeels, .ref a_isOn, .int m_firstAct, .long m_meanTop, .long m_meanBy, .ref a_order, .int m_rowMany, .int m_newSteps])), (a_tape, .inl (cA.1 2, 900, .inl g_tape))] H → va_D A [(h0, .inr (12, [.int m_status, .int m_thrown, .long m_above, .long m_under, .ref a_traySort, .ref a_trayMany, .ref a_numbers, .ref a_tape, .int m_taped, .int m_textEnd, .int m_faultKind, .int m_faultAt, .int m_bad, .int m_badAt, .int m_token, .int v_40, .int v_479, .int v_480, .int m_letters, .long m_word, .ref a_c, .ref a_words, .int m_markMany, .ref a_there, .ref a_tried, .ref a_best, .ref a_found, .int m_thereMany, .int m_foundMany, .int m_orderHow, .int m_orderRing, .int m_orderMany, .int m_hasBest, .long m_bestTop, .long m_bestBy, .ref a_weights, .ref a_shared, .int m_random, .int m_truePlace, .int m_trueWay, .int m_seconds, .int m_done, .int m_feelings, .int m_tries, .int m_leftOver, .int m_playDoor, .int m_playRing, .int m_isOpen, .int m_isOver, .int m_wasTried, .int m_hasPlayed, .ref a_feltNow, .ref a_last, .ref a_kept, .int m_hasSeconds, .int m_hasTurned, .int m_hasRound, .ref a_hasFeels, .ref a_isOn, .int m_firstAct, .long m_meanTop, .long m_meanBy, .ref a_order, .int m_rowMany, .int m_newSteps])), (a_tape, .inl (cA.1 2, 900, .inl g_tape))] → va_S A s.heap H locs → lv_has ls 2 [(0, .ref h0), (1, .int r_415)] → W p l e ({ frames := 1, cells := 0, slots := 0, locals := 21 }) s m args below meth c H locs 0 0 Q (F0 m 210 ls []) := by
                    intro n
                    induction n with
                    | zero =>
                      intro v_479 v_480 H locs ls hmu_hlp_507 hr_v_479 hr_v_480 hi_505 hi_506 hP hD hS hl
                      exact absurd hmu_hlp_507 (Nat.not_lt_zero _)
                    | succ n ih_508 =>
                      intro v_479 v_480 H locs ls hmu_hlp_507 hr_v_479 hr_v_480 hi_505 hi_506 hP hD hS hl
                      refine lv_aload_n hx hb dX12_next2_210 rfl (lv_at hl 0 rfl) ?_
                      refine lv_aload_n hx hb dX12_next2_211 rfl (lv_at hl 0 rfl) ?_
                      refine va_get (D := G) (ci := 12) (v := .int v_479) (C := RX12) (T := TX12) (N := 65) hx hb hts inT12 hown hK hP 0 rfl rfl 16 (by decide) (hts _ tw_1901) (fun _ h9 => h9) rfl dX12_next2_212 ?_
                      refine z_callVi (As := [.int v_479]) (rest := []) (wr := []) ⟨hx, hb, hml, hown, hts⟩ hK hE hT hP hD hS hA (r_look2 l G cA h0 m_status m_thrown m_above m_under a_traySort a_trayMany a_numbers a_tape m_taped m_textEnd m_faultKind m_faultAt m_bad m_badAt m_token v_40 v_479 v_480 m_letters m_word a_c a_words m_markMany a_there a_tried a_best a_found m_thereMany m_foundMany m_orderHow m_orderRing m_orderMany m_hasBest m_bestTop m_bestBy a_weights a_shared m_random m_truePlace m_trueWay m_seconds m_done m_feelings m_tries m_leftOver m_playDoor m_playRing m_isOpen m_isOver m_wasTried m_hasPlayed a_feltNow a_last a_kept m_hasSeconds m_hasTurned m_hasRound a_hasFeels a_isOn m_firstAct m_meanTop m_meanBy a_order m_rowMany m_newSteps g_tape v_479 hr_v_479 hr_m_textEnd) lk_RX12_130 ⟨rfl, rfl⟩ ⟨Nat.le_of_ble_eq_true rfl, Nat.le_of_ble_eq_true rfl⟩ 12 rfl rfl rfl [0, 1] [] rfl rfl (by decide) rfl hl.1 rfl (lv_room (Nat.le_of_ble_eq_true rfl)) dX12_next2_215 ⟨Nat.le_of_ble_eq_true rfl, Nat.le_of_ble_eq_true rfl⟩ (fun r_509 u_510 H locs hw hP hD hS => ?_)
                      obtain ⟨hr_r_509, hf_511, hf_512⟩ := hw
                      have hz_r_509 := z_lksame (hlk_r_415) hf_512 (Z := v_479.toInt) (Y := v_40.toInt)
                      refine z_callSi (As := [.int r_509]) (rest := []) (wr := [(h0, .inr (12, [.int m_status, .int m_thrown, .long m_above, .long m_under, .ref a_traySort, .ref a_trayMany, .ref a_numbers, .ref a_tape, .int m_taped, .int m_textEnd, .int m_faultKind, .int m_faultAt, .int m_bad, .int m_badAt, .int m_token, .int v_40, .int v_479, .int v_480, .int m_letters, .long m_word, .ref a_c, .ref a_words, .int m_markMany, .ref a_there, .ref a_tried, .ref a_best, .ref a_found, .int m_thereMany, .int m_foundMany, .int m_orderHow, .int m_orderRing, .int m_orderMany, .int m_hasBest, .long m_bestTop, .long m_bestBy, .ref a_weights, .ref a_shared, .int m_random, .int m_truePlace, .int m_trueWay, .int m_seconds, .int m_done, .int m_feelings, .int m_tries, .int m_leftOver, .int m_playDoor, .int m_playRing, .int m_isOpen, .int m_isOver, .int m_wasTried, .int m_hasPlayed, .ref a_feltNow, .ref a_last, .ref a_kept, .int m_hasSeconds, .int m_hasTurned, .int m_hasRound, .ref a_hasFeels, .ref a_isOn, .int m_firstAct, .long m_meanTop, .long m_meanBy, .ref a_order, .int m_rowMany, .int m_newSteps])), (a_tape, .inl (cA.1 2, 900, .inl g_tape))]) ⟨hx, hb, hml, hown, hts⟩ hK hE hT hP hD hS hA (r_isDigit l G cA r_509) lk_RX12_149 ⟨rfl, rfl⟩ ⟨Nat.le_of_ble_eq_true rfl, Nat.le_of_ble_eq_true rfl⟩ [] [0, 1] rfl rfl (by decide) rfl hl.1 rfl (lv_room (Nat.le_of_ble_eq_true rfl)) dX12_next2_218 ⟨Nat.le_of_ble_eq_true rfl, Nat.le_of_ble_eq_true rfl⟩ (fun r_513 u_514 H locs hw hP hD hS => ?_)
                      rcases hw with ⟨rfl, hf_515⟩ | ⟨rfl, hf_516⟩
                      · skip
                        refine lv_if_eq (tgt := 273) hx hb dX12_next2_221 (by decide) (fun _ => ?_) (fun h9 => absurd (by decide +kernel) h9)
                        refine lv_aload_n hx hb dX12_next2_273 rfl (lv_at hl 0 rfl) ?_
                        refine lv_aload_n hx hb dX12_next2_274 rfl (lv_at hl 0 rfl) ?_
                        refine va_get (D := G) (ci := 12) (v := .int v_479) (C := RX12) (T := TX12) (N := 65) hx hb hts inT12 hown hK hP 0 rfl rfl 16 (by decide) (hts _ tw_1901) (fun _ h9 => h9) rfl dX12_next2_275 ?_
                        refine lv_aload_n hx hb dX12_next2_278 rfl (lv_at hl 0 rfl) ?_
                        refine va_get (D := G) (ci := 12) (v := .int v_40) (C := RX12) (T := TX12) (N := 65) hx hb hts inT12 hown hK hP 0 rfl rfl 15 (by decide) (hts _ tw_1900) (fun _ h9 => h9) rfl dX12_next2_279 ?_
                        refine lv_isub hx hb dX12_next2_282 ?_
                        refine lv_topi (fun x_517 he_x_517 => ?_)
                        have hq_x_517 := z_subq he_x_517 (rfl : v_479.toInt = _) (rfl : v_40.toInt = _) (by omega) (by omega)
                        refine lv_iconst (v := 4) hx hb dX12_next2_283 (by decide) ?_
                        refine lv_icmp_le (tgt := 291) hx hb dX12_next2_284 (by decide) (fun c_518 => ?_) (fun c_518 => ?_)
                        · have b_519 := z_fleT c_518
                          refine lv_iconst (v := 2) hx hb dX12_next2_291 (by decide) ?_
                          refine va_put (D := G) (ci := 12) (v := .int 2) (ty := .int) (C := RX12) (T := TX12) (N := 65) hx hb hts inT12 tyX12 tyX12_ok nmX12 hown hK hP hD hS 0 rfl rfl 14 (by decide) (hts _ tw_1899) (fun _ h9 => h9) rfl (tyX12_ok 14 (by decide)) rfl rfl (Nat.le_of_ble_eq_true rfl) dX12_next2_292 (fun H locs hP hD hS => ?_)
                          refine lv_goto (tgt := 330) hx hb dX12_next2_295 (by decide) ?_
                          have hpost : (0 ≤ (2 : Int32).toInt ∧ (2 : Int32).toInt ≤ 4) ∧ (0 ≤ v_40.toInt ∧ v_40.toInt ≤ 900) ∧ (0 ≤ v_479.toInt ∧ v_479.toInt ≤ 900) ∧ (0 ≤ v_480.toInt ∧ v_480.toInt ≤ 9999) ∧ (0 ≤ m_letters.toInt ∧ m_letters.toInt ≤ 900) ∧ (m_behind.toInt ≤ v_479.toInt) ∧ ((2 : Int32).toInt = 0 ∨ m_behind.toInt < v_479.toInt) := ⟨(by decide +kernel), hr_v_40, hr_v_479, hr_v_480, hr_m_letters, (by omega), (by omega)⟩
                          exact hret _ _ _ _ _ (2, v_40, v_479, v_480, m_letters, m_word) [0, 1] hP hD hS rfl (by decide) dX12_next2_330 hpost
                        · have b_520 := z_fgtF c_518
                          refine lv_iconst (v := 4) hx hb dX12_next2_287 (by decide) ?_
                          refine lv_goto (tgt := 292) hx hb dX12_next2_288 (by decide) ?_
                          refine va_put (D := G) (ci := 12) (v := .int 4) (ty := .int) (C := RX12) (T := TX12) (N := 65) hx hb hts inT12 tyX12 tyX12_ok nmX12 hown hK hP hD hS 0 rfl rfl 14 (by decide) (hts _ tw_1899) (fun _ h9 => h9) rfl (tyX12_ok 14 (by decide)) rfl rfl (Nat.le_of_ble_eq_true rfl) dX12_next2_292 (fun H locs hP hD hS => ?_)
                          refine lv_goto (tgt := 330) hx hb dX12_next2_295 (by decide) ?_
                          have hpost : (0 ≤ (4 : Int32).toInt ∧ (4 : Int32).toInt ≤ 4) ∧ (0 ≤ v_40.toInt ∧ v_40.toInt ≤ 900) ∧ (0 ≤ v_479.toInt ∧ v_479.toInt ≤ 900) ∧ (0 ≤ v_480.toInt ∧ v_480.toInt ≤ 9999) ∧ (0 ≤ m_letters.toInt ∧ m_letters.toInt ≤ 900) ∧ (m_behind.toInt ≤ v_479.toInt) ∧ ((4 : Int32).toInt = 0 ∨ m_behind.toInt < v_479.toInt) := ⟨(by decide +kernel), hr_v_40, hr_v_479, hr_v_480, hr_m_letters, (by omega), (by omega)⟩
                          exact hret _ _ _ _ _ (4, v_40, v_479, v_480, m_letters, m_word) [0, 1] hP hD hS rfl (by decide) dX12_next2_330 hpost
                      · skip
                        refine lv_if_eq (tgt := 273) hx hb dX12_next2_221 (by decide) (fun h9 => absurd h9 (by decide +kernel)) (fun _ => ?_)
                        refine lv_aload_n hx hb dX12_next2_224 rfl (lv_at hl 0 rfl) ?_
                        refine va_get (D := G) (ci := 12) (v := .int v_479) (C := RX12) (T := TX12) (N := 65) hx hb hts inT12 hown hK hP 0 rfl rfl 16 (by decide) (hts _ tw_1901) (fun _ h9 => h9) rfl dX12_next2_225 ?_
                        refine lv_aload_n hx hb dX12_next2_228 rfl (lv_at hl 0 rfl) ?_
                        refine va_get (D := G) (ci := 12) (v := .int v_40) (C := RX12) (T := TX12) (N := 65) hx hb hts inT12 hown hK hP 0 rfl rfl 15 (by decide) (hts _ tw_1900) (fun _ h9 => h9) rfl dX12_next2_229 ?_
                        refine lv_isub hx hb dX12_next2_232 ?_
                        refine lv_topi (fun x_521 he_x_521 => ?_)
                        have hq_x_521 := z_subq he_x_521 (rfl : v_479.toInt = _) (rfl : v_40.toInt = _) (by omega) (by omega)
                        refine lv_iconst (v := 4) hx hb dX12_next2_233 (by decide) ?_
                        refine lv_icmp_ge (tgt := 260) hx hb dX12_next2_234 (by decide) (fun c_522 => ?_) (fun c_522 => ?_)
                        · have b_523 := z_fgeT c_522
                          refine lv_aload_n hx hb dX12_next2_260 rfl (lv_at hl 0 rfl) ?_
                          refine lv_dup hx hb dX12_next2_261 rfl ?_
                          refine va_get (D := G) (ci := 12) (v := .int v_479) (C := RX12) (T := TX12) (N := 65) hx hb hts inT12 hown hK hP 0 rfl rfl 16 (by decide) (hts _ tw_1901) (fun _ h9 => h9) rfl dX12_next2_262 ?_
                          refine lv_iconst (v := 1) hx hb dX12_next2_265 (by decide) ?_
                          refine lv_iadd hx hb dX12_next2_266 ?_
                          refine lv_topi (fun x_524 he_x_524 => ?_)
                          have hq_x_524 := z_addq he_x_524 (rfl : v_479.toInt = _) hk_1 (by omega) (by omega)
                          have hn_k_525 : 0 ≤ x_524.toInt ∧ x_524.toInt ≤ 900 := by omega
                          refine va_put (D := G) (ci := 12) (v := .int x_524) (ty := .int) (C := RX12) (T := TX12) (N := 65) hx hb hts inT12 tyX12 tyX12_ok nmX12 hown hK hP hD hS 0 rfl rfl 16 (by decide) (hts _ tw_1901) (fun _ h9 => h9) rfl (tyX12_ok 16 (by decide)) rfl rfl (Nat.le_of_ble_eq_true rfl) dX12_next2_267 (fun H locs hP hD hS => ?_)
                          refine lv_goto (tgt := 210) hx hb dX12_next2_270 (by decide) ?_
                          exact ih_508 x_524 v_480 H locs ls (by omega) (by omega) hr_v_480 (by omega) (by omega) hP hD hS (lv_sub hl [0, 1] rfl)
                        · have b_526 := z_fltF c_522
                          refine lv_aload_n hx hb dX12_next2_237 rfl (lv_at hl 0 rfl) ?_
                          refine lv_bipush (v := 10) hx hb dX12_next2_238 (by decide) ?_
                          refine lv_aload_n hx hb dX12_next2_240 rfl (lv_at hl 0 rfl) ?_
                          refine va_get (D := G) (ci := 12) (v := .int v_480) (C := RX12) (T := TX12) (N := 65) hx hb hts inT12 hown hK hP 0 rfl rfl 17 (by decide) (hts _ tw_1902) (fun _ h9 => h9) rfl dX12_next2_241 ?_
                          refine lv_imul hx hb dX12_next2_244 ?_
                          refine lv_topi (fun x_527 he_x_527 => ?_)
                          have hq_x_527 := z_mulq he_x_527 hk_10 (rfl : v_480.toInt = _) (by omega) (by omega)
                          refine lv_aload_n hx hb dX12_next2_245 rfl (lv_at hl 0 rfl) ?_
                          refine lv_aload_n hx hb dX12_next2_246 rfl (lv_at hl 0 rfl) ?_
                          refine va_get (D := G) (ci := 12) (v := .int v_479) (C := RX12) (T := TX12) (N := 65) hx hb hts inT12 hown hK hP 0 rfl rfl 16 (by decide) (hts _ tw_1901) (fun _ h9 => h9) rfl dX12_next2_247 ?_
                          refine z_callVi (As := [.int v_479]) (rest := [.int x_527, .ref h0]) (wr := []) ⟨hx, hb, hml, hown, hts⟩ hK hE hT hP hD hS hA (r_look2 l G cA h0 m_status m_thrown m_above m_under a_traySort a_trayMany a_numbers a_tape m_taped m_textEnd m_faultKind m_faultAt m_bad m_badAt m_token v_40 v_479 v_480 m_letters m_word a_c a_words m_markMany a_there a_tried a_best a_found m_thereMany m_foundMany m_orderHow m_orderRing m_orderMany m_hasBest m_bestTop m_bestBy a_weights a_shared m_random m_truePlace m_trueWay m_seconds m_done m_feelings m_tries m_leftOver m_playDoor m_playRing m_isOpen m_isOver m_wasTried m_hasPlayed a_feltNow a_last a_kept m_hasSeconds m_hasTurned m_hasRound a_hasFeels a_isOn m_firstAct m_meanTop m_meanBy a_order m_rowMany m_newSteps g_tape v_479 hr_v_479 hr_m_textEnd) lk_RX12_130 ⟨rfl, rfl⟩ ⟨Nat.le_of_ble_eq_true rfl, Nat.le_of_ble_eq_true rfl⟩ 12 rfl rfl rfl [0, 1] [] rfl rfl (by decide) rfl hl.1 rfl (lv_room (Nat.le_of_ble_eq_true rfl)) dX12_next2_250 ⟨Nat.le_of_ble_eq_true rfl, Nat.le_of_ble_eq_true rfl⟩ (fun r_528 u_529 H locs hw hP hD hS => ?_)
                          obtain ⟨hr_r_528, hf_530, hf_531⟩ := hw
                          refine lv_iadd hx hb dX12_next2_253 ?_
                          refine lv_topi (fun x_532 he_x_532 => ?_)
                          have hq_x_532 := z_addq he_x_532 (rfl : x_527.toInt = _) (rfl : r_528.toInt = _) (by omega) (by omega)
                          refine lv_bipush (v := 48) hx hb dX12_next2_254 (by decide) ?_
                          refine lv_isub hx hb dX12_next2_256 ?_
                          refine lv_topi (fun x_533 he_x_533 => ?_)
                          have hq_x_533 := z_subq he_x_533 (rfl : x_532.toInt = _) hk_48 (by omega) (by omega)
                          have hn_k_534 : 0 ≤ x_533.toInt ∧ x_533.toInt ≤ 9999 := by omega
                          refine va_put (D := G) (ci := 12) (v := .int x_533) (ty := .int) (C := RX12) (T := TX12) (N := 65) hx hb hts inT12 tyX12 tyX12_ok nmX12 hown hK hP hD hS 0 rfl rfl 17 (by decide) (hts _ tw_1902) (fun _ h9 => h9) rfl (tyX12_ok 17 (by decide)) rfl rfl (Nat.le_of_ble_eq_true rfl) dX12_next2_257 (fun H locs hP hD hS => ?_)
                          refine lv_aload_n hx hb dX12_next2_260 rfl (lv_at hl 0 rfl) ?_
                          refine lv_dup hx hb dX12_next2_261 rfl ?_
                          refine va_get (D := G) (ci := 12) (v := .int v_479) (C := RX12) (T := TX12) (N := 65) hx hb hts inT12 hown hK hP 0 rfl rfl 16 (by decide) (hts _ tw_1901) (fun _ h9 => h9) rfl dX12_next2_262 ?_
                          refine lv_iconst (v := 1) hx hb dX12_next2_265 (by decide) ?_
                          refine lv_iadd hx hb dX12_next2_266 ?_
                          refine lv_topi (fun x_535 he_x_535 => ?_)
                          have hq_x_535 := z_addq he_x_535 (rfl : v_479.toInt = _) hk_1 (by omega) (by omega)
                          have hn_k_536 : 0 ≤ x_535.toInt ∧ x_535.toInt ≤ 900 := by omega
                          refine va_put (D := G) (ci := 12) (v := .int x_535) (ty := .int) (C := RX12) (T := TX12) (N := 65) hx hb hts inT12 tyX12 tyX12_ok nmX12 hown hK hP hD hS 0 rfl rfl 16 (by decide) (hts _ tw_1901) (fun _ h9 => h9) rfl (tyX12_ok 16 (by decide)) rfl rfl (Nat.le_of_ble_eq_true rfl) dX12_next2_267 (fun H locs hP hD hS => ?_)
                          refine lv_goto (tgt := 210) hx hb dX12_next2_270 (by decide) ?_
                          exact ih_508 x_535 x_533 H locs ls (by omega) (by omega) (by omega) (by omega) (by omega) hP hD hS (lv_sub hl [0, 1] rfl)
                  exact hlp_507 _ v_40 0 _ _ _ (Nat.lt_succ_self _) hr_v_40 (by decide +kernel) (by omega) (by omega) hP hD hS (lv_sub hl [1, 0] rfl)
              · skip
                refine lv_if_eq (tgt := 198) hx hb dX12_next2_96 (by decide) (fun h9 => absurd h9 (by decide +kernel)) (fun _ => ?_)
                refine lv_aload_n hx hb dX12_next2_99 rfl (lv_at hl 1 rfl) ?_
                refine lv_iconst (v := 1) hx hb dX12_next2_100 (by decide) ?_
                refine va_put (D := G) (ci := 12) (v := .int 1) (ty := .int) (C := RX12) (T := TX12) (N := 65) hx hb hts inT12 tyX12 tyX12_ok nmX12 hown hK hP hD hS 0 rfl rfl 14 (by decide) (hts _ tw_1899) (fun _ h9 => h9) rfl (tyX12_ok 14 (by decide)) rfl rfl (Nat.le_of_ble_eq_true rfl) dX12_next2_101 (fun H locs hP hD hS => ?_)
                refine lv_aload_n hx hb dX12_next2_104 rfl (lv_at hl 1 rfl) ?_
                refine lv_lconst (v := 0) hx hb dX12_next2_105 (by decide) ?_
                refine va_put (D := G) (ci := 12) (v := .long 0) (ty := .long) (C := RX12) (T := TX12) (N := 65) hx hb hts inT12 tyX12 tyX12_ok nmX12 hown hK hP hD hS 0 rfl rfl 19 (by decide) (hts _ tw_1904) (fun _ h9 => h9) rfl (tyX12_ok 19 (by decide)) rfl rfl (Nat.le_of_ble_eq_true rfl) dX12_next2_106 (fun H locs hP hD hS => ?_)
                have hlp_717 : ∀ (n : Nat) (v_690 : Int32) (v_691 : Int64) (H : Heap) (locs : List Loc) (ls : Array Slot), (2147483647 - v_690.toInt).toNat < n → (0 ≤ v_690.toInt ∧ v_690.toInt ≤ 900) → (v_40.toInt ≤ v_690.toInt) → va_P G vwCl [(h0, .inr (12, [.int m_status, .int m_thrown, .long m_above, .long m_under, .ref a_traySort, .ref a_trayMany, .ref a_numbers, .ref a_tape, .int m_taped, .int m_textEnd, .int m_faultKind, .int m_faultAt, .int m_bad, .int m_badAt, .int 1, .int v_40, .int v_690, .int m_number, .int m_letters, .long v_691, .ref a_c, .ref a_words, .int m_markMany, .ref a_there, .ref a_tried, .ref a_best, .ref a_found, .int m_thereMany, .int m_foundMany, .int m_orderHow, .int m_orderRing, .int m_orderMany, .int m_hasBest, .long m_bestTop, .long m_bestBy, .ref a_weights, .ref a_shared, .int m_random, .int m_truePlace, .int m_trueWay, .int m_seconds, .int m_done, .int m_feelings, .int m_tries, .int m_leftOver, .int m_playDoor, .int m_playRing, .int m_isOpen, .int m_isOver, .int m_wasTried, .int m_hasPlayed, .ref a_feltNow, .ref a_last, .ref a_kept, .int m_hasSeconds, .int m_hasTurned, .int m_hasRound, .ref a_hasFeels, .ref a_isOn, .int m_firstAct, .long m_meanTop, .long m_meanBy, .ref a_order, .int m_rowMany, .int m_newSteps])), (a_tape, .inl (cA.1 2, 900, .inl g_tape))] H → va_D A [(h0, .inr (12, [.int m_status, .int m_thrown, .long m_above, .long m_under, .ref a_traySort, .ref a_trayMany, .ref a_numbers, .ref a_tape, .int m_taped, .int m_textEnd, .int m_faultKind, .int m_faultAt, .int m_bad, .int m_badAt, .int 1, .int v_40, .int v_690, .int m_number, .int m_letters, .long v_691, .ref a_c, .ref a_words, .int m_markMany, .ref a_there, .ref a_tried, .ref a_best, .ref a_found, .int m_thereMany, .int m_foundMany, .int m_orderHow, .int m_orderRing, .int m_orderMany, .int m_hasBest, .long m_bestTop, .long m_bestBy, .ref a_weights, .ref a_shared, .int m_random, .int m_truePlace, .int m_trueWay, .int m_seconds, .int m_done, .int m_feelings, .int m_tries, .int m_leftOver, .int m_playDoor, .int m_playRing, .int m_isOpen, .int m_isOver, .int m_wasTried, .int m_hasPlayed, .ref a_feltNow, .ref a_last, .ref a_kept, .int m_hasSeconds, .int m_hasTurned, .int m_hasRound, .ref a_hasFeels, .ref a_isOn, .int m_firstAct, .long m_meanTop, .long m_meanBy, .ref a_order, .int m_rowMany, .int m_newSteps])), (a_tape, .inl (cA.1 2, 900, .inl g_tape))] → va_S A s.heap H locs → lv_has ls 2 [(0, .ref h0), (1, .int r_415)] → W p l e ({ frames := 1, cells := 0, slots := 0, locals := 21 }) s m args below meth c H locs 0 0 Q (F0 m 109 ls []) := by
                  intro n
                  induction n with
                  | zero =>
                    intro v_690 v_691 H locs ls hmu_hlp_717 hr_v_690 hi_716 hP hD hS hl
                    exact absurd hmu_hlp_717 (Nat.not_lt_zero _)
                  | succ n ih_718 =>
                    intro v_690 v_691 H locs ls hmu_hlp_717 hr_v_690 hi_716 hP hD hS hl
                    refine lv_aload_n hx hb dX12_next2_109 rfl (lv_at hl 0 rfl) ?_
                    refine lv_aload_n hx hb dX12_next2_110 rfl (lv_at hl 0 rfl) ?_
                    refine va_get (D := G) (ci := 12) (v := .int v_690) (C := RX12) (T := TX12) (N := 65) hx hb hts inT12 hown hK hP 0 rfl rfl 16 (by decide) (hts _ tw_1901) (fun _ h9 => h9) rfl dX12_next2_111 ?_
                    refine z_callVi (As := [.int v_690]) (rest := []) (wr := []) ⟨hx, hb, hml, hown, hts⟩ hK hE hT hP hD hS hA (r_look2 l G cA h0 m_status m_thrown m_above m_under a_traySort a_trayMany a_numbers a_tape m_taped m_textEnd m_faultKind m_faultAt m_bad m_badAt 1 v_40 v_690 m_number m_letters v_691 a_c a_words m_markMany a_there a_tried a_best a_found m_thereMany m_foundMany m_orderHow m_orderRing m_orderMany m_hasBest m_bestTop m_bestBy a_weights a_shared m_random m_truePlace m_trueWay m_seconds m_done m_feelings m_tries m_leftOver m_playDoor m_playRing m_isOpen m_isOver m_wasTried m_hasPlayed a_feltNow a_last a_kept m_hasSeconds m_hasTurned m_hasRound a_hasFeels a_isOn m_firstAct m_meanTop m_meanBy a_order m_rowMany m_newSteps g_tape v_690 hr_v_690 hr_m_textEnd) lk_RX12_130 ⟨rfl, rfl⟩ ⟨Nat.le_of_ble_eq_true rfl, Nat.le_of_ble_eq_true rfl⟩ 12 rfl rfl rfl [0, 1] [] rfl rfl (by decide) rfl hl.1 rfl (lv_room (Nat.le_of_ble_eq_true rfl)) dX12_next2_114 ⟨Nat.le_of_ble_eq_true rfl, Nat.le_of_ble_eq_true rfl⟩ (fun r_719 u_720 H locs hw hP hD hS => ?_)
                    obtain ⟨hr_r_719, hf_721, hf_722⟩ := hw
                    have hz_r_719 := z_lksame (hlk_r_415) hf_722 (Z := v_690.toInt) (Y := v_40.toInt)
                    refine z_callSi (As := [.int r_719]) (rest := []) (wr := [(h0, .inr (12, [.int m_status, .int m_thrown, .long m_above, .long m_under, .ref a_traySort, .ref a_trayMany, .ref a_numbers, .ref a_tape, .int m_taped, .int m_textEnd, .int m_faultKind, .int m_faultAt, .int m_bad, .int m_badAt, .int 1, .int v_40, .int v_690, .int m_number, .int m_letters, .long v_691, .ref a_c, .ref a_words, .int m_markMany, .ref a_there, .ref a_tried, .ref a_best, .ref a_found, .int m_thereMany, .int m_foundMany, .int m_orderHow, .int m_orderRing, .int m_orderMany, .int m_hasBest, .long m_bestTop, .long m_bestBy, .ref a_weights, .ref a_shared, .int m_random, .int m_truePlace, .int m_trueWay, .int m_seconds, .int m_done, .int m_feelings, .int m_tries, .int m_leftOver, .int m_playDoor, .int m_playRing, .int m_isOpen, .int m_isOver, .int m_wasTried, .int m_hasPlayed, .ref a_feltNow, .ref a_last, .ref a_kept, .int m_hasSeconds, .int m_hasTurned, .int m_hasRound, .ref a_hasFeels, .ref a_isOn, .int m_firstAct, .long m_meanTop, .long m_meanBy, .ref a_order, .int m_rowMany, .int m_newSteps])), (a_tape, .inl (cA.1 2, 900, .inl g_tape))]) ⟨hx, hb, hml, hown, hts⟩ hK hE hT hP hD hS hA (r_isLetter l G cA r_719) lk_RX12_136 ⟨rfl, rfl⟩ ⟨Nat.le_of_ble_eq_true rfl, Nat.le_of_ble_eq_true rfl⟩ [] [0, 1] rfl rfl (by decide) rfl hl.1 rfl (lv_room (Nat.le_of_ble_eq_true rfl)) dX12_next2_117 ⟨Nat.le_of_ble_eq_true rfl, Nat.le_of_ble_eq_true rfl⟩ (fun r_723 u_724 H locs hw hP hD hS => ?_)
                    rcases hw with ⟨rfl, hf_725⟩ | ⟨rfl, hf_726⟩
                    · skip
                      refine lv_if_eq (tgt := 182) hx hb dX12_next2_120 (by decide) (fun _ => ?_) (fun h9 => absurd (by decide +kernel) h9)
                      refine lv_aload_n hx hb dX12_next2_182 rfl (lv_at hl 0 rfl) ?_
                      refine lv_aload_n hx hb dX12_next2_183 rfl (lv_at hl 0 rfl) ?_
                      refine va_get (D := G) (ci := 12) (v := .int v_690) (C := RX12) (T := TX12) (N := 65) hx hb hts inT12 hown hK hP 0 rfl rfl 16 (by decide) (hts _ tw_1901) (fun _ h9 => h9) rfl dX12_next2_184 ?_
                      refine lv_aload_n hx hb dX12_next2_187 rfl (lv_at hl 0 rfl) ?_
                      refine va_get (D := G) (ci := 12) (v := .int v_40) (C := RX12) (T := TX12) (N := 65) hx hb hts inT12 hown hK hP 0 rfl rfl 15 (by decide) (hts _ tw_1900) (fun _ h9 => h9) rfl dX12_next2_188 ?_
                      refine lv_isub hx hb dX12_next2_191 ?_
                      refine lv_topi (fun x_727 he_x_727 => ?_)
                      have hq_x_727 := z_subq he_x_727 (rfl : v_690.toInt = _) (rfl : v_40.toInt = _) (by omega) (by omega)
                      have hn_k_728 : 0 ≤ x_727.toInt ∧ x_727.toInt ≤ 900 := by omega
                      refine va_put (D := G) (ci := 12) (v := .int x_727) (ty := .int) (C := RX12) (T := TX12) (N := 65) hx hb hts inT12 tyX12 tyX12_ok nmX12 hown hK hP hD hS 0 rfl rfl 18 (by decide) (hts _ tw_1903) (fun _ h9 => h9) rfl (tyX12_ok 18 (by decide)) rfl rfl (Nat.le_of_ble_eq_true rfl) dX12_next2_192 (fun H locs hP hD hS => ?_)
                      refine lv_goto (tgt := 330) hx hb dX12_next2_195 (by decide) ?_
                      have hpost : (0 ≤ (1 : Int32).toInt ∧ (1 : Int32).toInt ≤ 4) ∧ (0 ≤ v_40.toInt ∧ v_40.toInt ≤ 900) ∧ (0 ≤ v_690.toInt ∧ v_690.toInt ≤ 900) ∧ (0 ≤ m_number.toInt ∧ m_number.toInt ≤ 9999) ∧ (0 ≤ x_727.toInt ∧ x_727.toInt ≤ 900) ∧ (m_behind.toInt ≤ v_690.toInt) ∧ ((1 : Int32).toInt = 0 ∨ m_behind.toInt < v_690.toInt) := ⟨(by decide +kernel), hr_v_40, hr_v_690, hr_m_number, (by omega), (by omega), (by omega)⟩
                      exact hret _ _ _ _ _ (1, v_40, v_690, m_number, x_727, v_691) [0, 1] hP hD hS rfl (by decide) dX12_next2_330 hpost
                    · skip
                      refine lv_if_eq (tgt := 182) hx hb dX12_next2_120 (by decide) (fun h9 => absurd h9 (by decide +kernel)) (fun _ => ?_)
                      refine lv_aload_n hx hb dX12_next2_123 rfl (lv_at hl 0 rfl) ?_
                      refine lv_aload_n hx hb dX12_next2_124 rfl (lv_at hl 0 rfl) ?_
                      refine va_get (D := G) (ci := 12) (v := .int v_690) (C := RX12) (T := TX12) (N := 65) hx hb hts inT12 hown hK hP 0 rfl rfl 16 (by decide) (hts _ tw_1901) (fun _ h9 => h9) rfl dX12_next2_125 ?_
                      refine lv_aload_n hx hb dX12_next2_128 rfl (lv_at hl 0 rfl) ?_
                      refine va_get (D := G) (ci := 12) (v := .int v_40) (C := RX12) (T := TX12) (N := 65) hx hb hts inT12 hown hK hP 0 rfl rfl 15 (by decide) (hts _ tw_1900) (fun _ h9 => h9) rfl dX12_next2_129 ?_
                      refine lv_isub hx hb dX12_next2_132 ?_
                      refine lv_topi (fun x_729 he_x_729 => ?_)
                      have hq_x_729 := z_subq he_x_729 (rfl : v_690.toInt = _) (rfl : v_40.toInt = _) (by omega) (by omega)
                      refine lv_bipush (v := 8) hx hb dX12_next2_133 (by decide) ?_
                      refine lv_icmp_ge (tgt := 163) hx hb dX12_next2_135 (by decide) (fun c_730 => ?_) (fun c_730 => ?_)
                      · have b_731 := z_fgeT c_730
                        refine lv_ldc2 (v := (-1)) hx hb hown (hts _ tw_2118) dX12_next2_163 ?_
                        refine va_put (D := G) (ci := 12) (v := .long (-1)) (ty := .long) (C := RX12) (T := TX12) (N := 65) hx hb hts inT12 tyX12 tyX12_ok nmX12 hown hK hP hD hS 0 rfl rfl 19 (by decide) (hts _ tw_1904) (fun _ h9 => h9) rfl (tyX12_ok 19 (by decide)) rfl rfl (Nat.le_of_ble_eq_true rfl) dX12_next2_166 (fun H locs hP hD hS => ?_)
                        refine lv_aload_n hx hb dX12_next2_169 rfl (lv_at hl 0 rfl) ?_
                        refine lv_dup hx hb dX12_next2_170 rfl ?_
                        refine va_get (D := G) (ci := 12) (v := .int v_690) (C := RX12) (T := TX12) (N := 65) hx hb hts inT12 hown hK hP 0 rfl rfl 16 (by decide) (hts _ tw_1901) (fun _ h9 => h9) rfl dX12_next2_171 ?_
                        refine lv_iconst (v := 1) hx hb dX12_next2_174 (by decide) ?_
                        refine lv_iadd hx hb dX12_next2_175 ?_
                        refine lv_topi (fun x_732 he_x_732 => ?_)
                        have hq_x_732 := z_addq he_x_732 (rfl : v_690.toInt = _) hk_1 (by omega) (by omega)
                        have hn_k_733 : 0 ≤ x_732.toInt ∧ x_732.toInt ≤ 900 := by omega
                        refine va_put (D := G) (ci := 12) (v := .int x_732) (ty := .int) (C := RX12) (T := TX12) (N := 65) hx hb hts inT12 tyX12 tyX12_ok nmX12 hown hK hP hD hS 0 rfl rfl 16 (by decide) (hts _ tw_1901) (fun _ h9 => h9) rfl (tyX12_ok 16 (by decide)) rfl rfl (Nat.le_of_ble_eq_true rfl) dX12_next2_176 (fun H locs hP hD hS => ?_)
                        refine lv_goto (tgt := 109) hx hb dX12_next2_179 (by decide) ?_
                        exact ih_718 x_732 (-1) H locs ls (by omega) (by omega) (by omega) hP hD hS (lv_sub hl [0, 1] rfl)
                      · have b_734 := z_fltF c_730
                        refine lv_aload_n hx hb dX12_next2_138 rfl (lv_at hl 0 rfl) ?_
                        refine va_get (D := G) (ci := 12) (v := .long v_691) (C := RX12) (T := TX12) (N := 65) hx hb hts inT12 hown hK hP 0 rfl rfl 19 (by decide) (hts _ tw_1904) (fun _ h9 => h9) rfl dX12_next2_139 ?_
                        refine lv_ldc2 (v := 32) hx hb hown (hts _ tw_2154) dX12_next2_142 ?_
                        refine lv_lmul hx hb dX12_next2_145 ?_
                        have hL_v_691 := z_fulll v_691
                        refine lv_topl (fun x_735 he_x_735 => ?_)
                        refine lv_aload_n hx hb dX12_next2_146 rfl (lv_at hl 0 rfl) ?_
                        refine lv_aload_n hx hb dX12_next2_147 rfl (lv_at hl 0 rfl) ?_
                        refine va_get (D := G) (ci := 12) (v := .int v_690) (C := RX12) (T := TX12) (N := 65) hx hb hts inT12 hown hK hP 0 rfl rfl 16 (by decide) (hts _ tw_1901) (fun _ h9 => h9) rfl dX12_next2_148 ?_
                        refine z_callVi (As := [.int v_690]) (rest := [.long x_735, .ref h0]) (wr := []) ⟨hx, hb, hml, hown, hts⟩ hK hE hT hP hD hS hA (r_look2 l G cA h0 m_status m_thrown m_above m_under a_traySort a_trayMany a_numbers a_tape m_taped m_textEnd m_faultKind m_faultAt m_bad m_badAt 1 v_40 v_690 m_number m_letters v_691 a_c a_words m_markMany a_there a_tried a_best a_found m_thereMany m_foundMany m_orderHow m_orderRing m_orderMany m_hasBest m_bestTop m_bestBy a_weights a_shared m_random m_truePlace m_trueWay m_seconds m_done m_feelings m_tries m_leftOver m_playDoor m_playRing m_isOpen m_isOver m_wasTried m_hasPlayed a_feltNow a_last a_kept m_hasSeconds m_hasTurned m_hasRound a_hasFeels a_isOn m_firstAct m_meanTop m_meanBy a_order m_rowMany m_newSteps g_tape v_690 hr_v_690 hr_m_textEnd) lk_RX12_130 ⟨rfl, rfl⟩ ⟨Nat.le_of_ble_eq_true rfl, Nat.le_of_ble_eq_true rfl⟩ 12 rfl rfl rfl [0, 1] [] rfl rfl (by decide) rfl hl.1 rfl (lv_room (Nat.le_of_ble_eq_true rfl)) dX12_next2_151 ⟨Nat.le_of_ble_eq_true rfl, Nat.le_of_ble_eq_true rfl⟩ (fun r_736 u_737 H locs hw hP hD hS => ?_)
                        obtain ⟨hr_r_736, hf_738, hf_739⟩ := hw
                        refine lv_i2l (v := (r_736).toInt64) hx hb dX12_next2_154 rfl ?_
                        refine lv_topl (fun x_740 he_x_740 => ?_)
                        have hq_x_740 := z_i2l he_x_740
                        refine lv_ladd hx hb dX12_next2_155 ?_
                        have hL_x_735 := z_fulll x_735
                        refine lv_topl (fun x_741 he_x_741 => ?_)
                        refine lv_ldc2 (v := 96) hx hb hown (hts _ tw_2155) dX12_next2_156 ?_
                        refine lv_lsub hx hb dX12_next2_159 ?_
                        have hL_x_741 := z_fulll x_741
                        refine lv_topl (fun x_742 he_x_742 => ?_)
                        refine lv_goto (tgt := 166) hx hb dX12_next2_160 (by decide) ?_
                        refine va_put (D := G) (ci := 12) (v := .long x_742) (ty := .long) (C := RX12) (T := TX12) (N := 65) hx hb hts inT12 tyX12 tyX12_ok nmX12 hown hK hP hD hS 0 rfl rfl 19 (by decide) (hts _ tw_1904) (fun _ h9 => h9) rfl (tyX12_ok 19 (by decide)) rfl rfl (Nat.le_of_ble_eq_true rfl) dX12_next2_166 (fun H locs hP hD hS => ?_)
                        refine lv_aload_n hx hb dX12_next2_169 rfl (lv_at hl 0 rfl) ?_
                        refine lv_dup hx hb dX12_next2_170 rfl ?_
                        refine va_get (D := G) (ci := 12) (v := .int v_690) (C := RX12) (T := TX12) (N := 65) hx hb hts inT12 hown hK hP 0 rfl rfl 16 (by decide) (hts _ tw_1901) (fun _ h9 => h9) rfl dX12_next2_171 ?_
                        refine lv_iconst (v := 1) hx hb dX12_next2_174 (by decide) ?_
                        refine lv_iadd hx hb dX12_next2_175 ?_
                        refine lv_topi (fun x_743 he_x_743 => ?_)
                        have hq_x_743 := z_addq he_x_743 (rfl : v_690.toInt = _) hk_1 (by omega) (by omega)
                        have hn_k_744 : 0 ≤ x_743.toInt ∧ x_743.toInt ≤ 900 := by omega
                        refine va_put (D := G) (ci := 12) (v := .int x_743) (ty := .int) (C := RX12) (T := TX12) (N := 65) hx hb hts inT12 tyX12 tyX12_ok nmX12 hown hK hP hD hS 0 rfl rfl 16 (by decide) (hts _ tw_1901) (fun _ h9 => h9) rfl (tyX12_ok 16 (by decide)) rfl rfl (Nat.le_of_ble_eq_true rfl) dX12_next2_176 (fun H locs hP hD hS => ?_)
                        refine lv_goto (tgt := 109) hx hb dX12_next2_179 (by decide) ?_
                        exact ih_718 x_743 x_742 H locs ls (by omega) (by omega) (by omega) hP hD hS (lv_sub hl [0, 1] rfl)
                exact hlp_717 _ v_40 0 _ _ _ (Nat.lt_succ_self _) hr_v_40 (by omega) hP hD hS (lv_sub hl [1, 0] rfl)
            · have b_745 := z_fgeF c_413
              refine lv_aload_n hx hb dX12_next2_77 rfl (lv_at hl 0 rfl) ?_
              refine lv_iconst (v := 0) hx hb dX12_next2_78 (by decide) ?_
              refine va_put (D := G) (ci := 12) (v := .int 0) (ty := .int) (C := RX12) (T := TX12) (N := 65) hx hb hts inT12 tyX12 tyX12_ok nmX12 hown hK hP hD hS 0 rfl rfl 14 (by decide) (hts _ tw_1899) (fun _ h9 => h9) rfl (tyX12_ok 14 (by decide)) rfl rfl (Nat.le_of_ble_eq_true rfl) dX12_next2_79 (fun H locs hP hD hS => ?_)
              have hpost : (0 ≤ (0 : Int32).toInt ∧ (0 : Int32).toInt ≤ 4) ∧ (0 ≤ v_40.toInt ∧ v_40.toInt ≤ 900) ∧ (0 ≤ v_40.toInt ∧ v_40.toInt ≤ 900) ∧ (0 ≤ m_number.toInt ∧ m_number.toInt ≤ 9999) ∧ (0 ≤ m_letters.toInt ∧ m_letters.toInt ≤ 900) ∧ (m_behind.toInt ≤ v_40.toInt) ∧ ((0 : Int32).toInt = 0 ∨ m_behind.toInt < v_40.toInt) := ⟨(by decide +kernel), hr_v_40, hr_v_40, hr_m_number, hr_m_letters, (by omega), (by omega)⟩
              exact hret _ _ _ _ _ (0, v_40, v_40, m_number, m_letters, m_word) [0, 1] hP hD hS rfl (by decide) dX12_next2_82 hpost
          · have b_746 := z_feqF c_411
            refine lv_aload_n hx hb dX12_next2_45 rfl (lv_at hl 0 rfl) ?_
            refine lv_dup hx hb dX12_next2_46 rfl ?_
            refine va_get (D := G) (ci := 12) (v := .int v_40) (C := RX12) (T := TX12) (N := 65) hx hb hts inT12 hown hK hP 0 rfl rfl 15 (by decide) (hts _ tw_1900) (fun _ h9 => h9) rfl dX12_next2_47 ?_
            refine lv_iconst (v := 1) hx hb dX12_next2_50 (by decide) ?_
            refine lv_iadd hx hb dX12_next2_51 ?_
            refine lv_topi (fun x_747 he_x_747 => ?_)
            have hq_x_747 := z_addq he_x_747 (rfl : v_40.toInt = _) hk_1 (by omega) (by omega)
            refine va_put (D := G) (ci := 12) (v := .int x_747) (ty := .int) (C := RX12) (T := TX12) (N := 65) hx hb hts inT12 tyX12 tyX12_ok nmX12 hown hK hP hD hS 0 rfl rfl 15 (by decide) (hts _ tw_1900) (fun _ h9 => h9) rfl (tyX12_ok 15 (by decide)) rfl rfl (Nat.le_of_ble_eq_true rfl) dX12_next2_52 (fun H locs hP hD hS => ?_)
            refine lv_goto (tgt := 8) hx hb dX12_next2_55 (by decide) ?_
            exact ih_62 x_747 H locs ls (by omega) (by omega) (by omega) hP hD hS (lv_sub hl [0] rfl)
  exact hlp_61 _ m_behind _ _ _ (Nat.lt_succ_self _) hr_m_behind (by omega) hP hD hS (lv_sub hl [0] rfl)
