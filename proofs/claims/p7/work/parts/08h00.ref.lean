set_option maxHeartbeats 4000000 in
set_option maxRecDepth 100000 in
theorem r_status (l : Launch) (G : va_G) (cA : zCA) (h0 : Nat) (m_status : Int32) (m_thrown : Int32) (m_above : Int64) (m_under : Int64) (a_traySort : Nat) (a_trayMany : Nat) (a_numbers : Nat) (a_tape : Nat) (m_taped : Int32) (m_textEnd : Int32) (m_faultKind : Int32) (m_faultAt : Int32) (m_bad : Int32) (m_badAt : Int32) (m_token : Int32) (m_at : Int32) (m_behind : Int32) (m_number : Int32) (m_letters : Int32) (m_word : Int64) (a_c : Nat) (a_words : Nat) (m_markMany : Int32) (a_there : Nat) (a_tried : Nat) (a_best : Nat) (a_found : Nat) (m_thereMany : Int32) (m_foundMany : Int32) (m_orderHow : Int32) (m_orderRing : Int32) (m_orderMany : Int32) (m_hasBest : Int32) (m_bestTop : Int64) (m_bestBy : Int64) (a_weights : Nat) (a_shared : Nat) (m_random : Int32) (m_truePlace : Int32) (m_trueWay : Int32) (m_seconds : Int32) (m_done : Int32) (m_feelings : Int32) (m_tries : Int32) (m_leftOver : Int32) (m_playDoor : Int32) (m_playRing : Int32) (m_isOpen : Int32) (m_isOver : Int32) (m_wasTried : Int32) (m_hasPlayed : Int32) (a_feltNow : Nat) (a_last : Nat) (a_kept : Nat) (m_hasSeconds : Int32) (m_hasTurned : Int32) (m_hasRound : Int32) (a_hasFeels : Nat) (a_isOn : Nat) (m_firstAct : Int32) (m_meanTop : Int64) (m_meanBy : Int64) (a_order : Nat) (m_rowMany : Int32) (m_newSteps : Int32) : zCi l yX12_status cX12_status 1 (some .int) ({ frames := 0, cells := 0, slots := 0, locals := 0 }) G cA [.ref h0] [(h0, .inr (12, [.int m_status, .int m_thrown, .long m_above, .long m_under, .ref a_traySort, .ref a_trayMany, .ref a_numbers, .ref a_tape, .int m_taped, .int m_textEnd, .int m_faultKind, .int m_faultAt, .int m_bad, .int m_badAt, .int m_token, .int m_at, .int m_behind, .int m_number, .int m_letters, .long m_word, .ref a_c, .ref a_words, .int m_markMany, .ref a_there, .ref a_tried, .ref a_best, .ref a_found, .int m_thereMany, .int m_foundMany, .int m_orderHow, .int m_orderRing, .int m_orderMany, .int m_hasBest, .long m_bestTop, .long m_bestBy, .ref a_weights, .ref a_shared, .int m_random, .int m_truePlace, .int m_trueWay, .int m_seconds, .int m_done, .int m_feelings, .int m_tries, .int m_leftOver, .int m_playDoor, .int m_playRing, .int m_isOpen, .int m_isOver, .int m_wasTried, .int m_hasPlayed, .ref a_feltNow, .ref a_last, .ref a_kept, .int m_hasSeconds, .int m_hasTurned, .int m_hasRound, .ref a_hasFeels, .ref a_isOn, .int m_firstAct, .long m_meanTop, .long m_meanBy, .ref a_order, .int m_rowMany, .int m_newSteps]))] (S := Int32) (fun (r : Int32) (u : Int32) => (0 ≤ u.toInt ∧ u.toInt ≤ 0)) (fun (u : Int32) => [(h0, .inr (12, [.int m_status, .int u, .long m_above, .long m_under, .ref a_traySort, .ref a_trayMany, .ref a_numbers, .ref a_tape, .int m_taped, .int m_textEnd, .int m_faultKind, .int m_faultAt, .int m_bad, .int m_badAt, .int m_token, .int m_at, .int m_behind, .int m_number, .int m_letters, .long m_word, .ref a_c, .ref a_words, .int m_markMany, .ref a_there, .ref a_tried, .ref a_best, .ref a_found, .int m_thereMany, .int m_foundMany, .int m_orderHow, .int m_orderRing, .int m_orderMany, .int m_hasBest, .long m_bestTop, .long m_bestBy, .ref a_weights, .ref a_shared, .int m_random, .int m_truePlace, .int m_trueWay, .int m_seconds, .int m_done, .int m_feelings, .int m_tries, .int m_leftOver, .int m_playDoor, .int m_playRing, .int m_isOpen, .int m_isOver, .int m_wasTried, .int m_hasPlayed, .ref a_feltNow, .ref a_last, .ref a_kept, .int m_hasSeconds, .int m_hasTurned, .int m_hasRound, .ref a_hasFeels, .ref a_isOn, .int m_firstAct, .long m_meanTop, .long m_meanBy, .ref a_order, .int m_rowMany, .int m_newSteps]))]) 0 0 := by
  refine z_start2i (own := RX12) (by decide) (Nat.le_of_ble_eq_true rfl) rfl ?_
  intro p e s m args below meth c A ls Q hx hb hml hts hown hK hE hT hP hD hS hA hl hret
  have hl : lv_has ls 1 [(0, .ref h0)] := hl
  refine lv_aload_n hx hb dX12_status_0 rfl (lv_at hl 0 rfl) ?_
  refine lv_iconst (v := 0) hx hb dX12_status_1 (by decide) ?_
  refine va_put (D := G) (ci := 12) (v := .int 0) (ty := .int) (C := RX12) (T := TX12) (N := 65) hx hb hts inT12 tyX12 tyX12_ok nmX12 hown hK hP hD hS 0 rfl rfl 1 (by decide) (hts _ tw_1886) (fun _ h9 => h9) rfl (tyX12_ok 1 (by decide)) rfl rfl (Nat.le_of_ble_eq_true rfl) dX12_status_2 (fun H locs hP hD hS => ?_)
  refine lv_aload_n hx hb dX12_status_5 rfl (lv_at hl 0 rfl) ?_
  refine va_get (D := G) (ci := 12) (v := .int m_status) (C := RX12) (T := TX12) (N := 65) hx hb hts inT12 hown hK hP 0 rfl rfl 0 (by decide) (hts _ tw_1885) (fun _ h9 => h9) rfl dX12_status_6 ?_
  have hpost : (0 ≤ (0 : Int32).toInt ∧ (0 : Int32).toInt ≤ 0) := (by decide +kernel)
  exact hret _ _ _ _ _ _ 0 [0] hP hD hS rfl (by decide) dX12_status_9 hpost
set_option maxHeartbeats 4000000 in
set_option maxRecDepth 100000 in
theorem r_top (l : Launch) (G : va_G) (cA : zCA) (h0 : Nat) (m_status : Int32) (m_thrown : Int32) (m_above : Int64) (m_under : Int64) (a_traySort : Nat) (a_trayMany : Nat) (a_numbers : Nat) (a_tape : Nat) (m_taped : Int32) (m_textEnd : Int32) (m_faultKind : Int32) (m_faultAt : Int32) (m_bad : Int32) (m_badAt : Int32) (m_token : Int32) (m_at : Int32) (m_behind : Int32) (m_number : Int32) (m_letters : Int32) (m_word : Int64) (a_c : Nat) (a_words : Nat) (m_markMany : Int32) (a_there : Nat) (a_tried : Nat) (a_best : Nat) (a_found : Nat) (m_thereMany : Int32) (m_foundMany : Int32) (m_orderHow : Int32) (m_orderRing : Int32) (m_orderMany : Int32) (m_hasBest : Int32) (m_bestTop : Int64) (m_bestBy : Int64) (a_weights : Nat) (a_shared : Nat) (m_random : Int32) (m_truePlace : Int32) (m_trueWay : Int32) (m_seconds : Int32) (m_done : Int32) (m_feelings : Int32) (m_tries : Int32) (m_leftOver : Int32) (m_playDoor : Int32) (m_playRing : Int32) (m_isOpen : Int32) (m_isOver : Int32) (m_wasTried : Int32) (m_hasPlayed : Int32) (a_feltNow : Nat) (a_last : Nat) (a_kept : Nat) (m_hasSeconds : Int32) (m_hasTurned : Int32) (m_hasRound : Int32) (a_hasFeels : Nat) (a_isOn : Nat) (m_firstAct : Int32) (m_meanTop : Int64) (m_meanBy : Int64) (a_order : Nat) (m_rowMany : Int32) (m_newSteps : Int32) : zCl l yX12_top cX12_top 1 (some .long) ({ frames := 0, cells := 0, slots := 0, locals := 0 }) G cA [.ref h0] [(h0, .inr (12, [.int m_status, .int m_thrown, .long m_above, .long m_under, .ref a_traySort, .ref a_trayMany, .ref a_numbers, .ref a_tape, .int m_taped, .int m_textEnd, .int m_faultKind, .int m_faultAt, .int m_bad, .int m_badAt, .int m_token, .int m_at, .int m_behind, .int m_number, .int m_letters, .long m_word, .ref a_c, .ref a_words, .int m_markMany, .ref a_there, .ref a_tried, .ref a_best, .ref a_found, .int m_thereMany, .int m_foundMany, .int m_orderHow, .int m_orderRing, .int m_orderMany, .int m_hasBest, .long m_bestTop, .long m_bestBy, .ref a_weights, .ref a_shared, .int m_random, .int m_truePlace, .int m_trueWay, .int m_seconds, .int m_done, .int m_feelings, .int m_tries, .int m_leftOver, .int m_playDoor, .int m_playRing, .int m_isOpen, .int m_isOver, .int m_wasTried, .int m_hasPlayed, .ref a_feltNow, .ref a_last, .ref a_kept, .int m_hasSeconds, .int m_hasTurned, .int m_hasRound, .ref a_hasFeels, .ref a_isOn, .int m_firstAct, .long m_meanTop, .long m_meanBy, .ref a_order, .int m_rowMany, .int m_newSteps]))] (S := Int32) (fun (r : Int64) (u : Int32) => (0 ≤ u.toInt ∧ u.toInt ≤ 0)) (fun (u : Int32) => [(h0, .inr (12, [.int m_status, .int u, .long m_above, .long m_under, .ref a_traySort, .ref a_trayMany, .ref a_numbers, .ref a_tape, .int m_taped, .int m_textEnd, .int m_faultKind, .int m_faultAt, .int m_bad, .int m_badAt, .int m_token, .int m_at, .int m_behind, .int m_number, .int m_letters, .long m_word, .ref a_c, .ref a_words, .int m_markMany, .ref a_there, .ref a_tried, .ref a_best, .ref a_found, .int m_thereMany, .int m_foundMany, .int m_orderHow, .int m_orderRing, .int m_orderMany, .int m_hasBest, .long m_bestTop, .long m_bestBy, .ref a_weights, .ref a_shared, .int m_random, .int m_truePlace, .int m_trueWay, .int m_seconds, .int m_done, .int m_feelings, .int m_tries, .int m_leftOver, .int m_playDoor, .int m_playRing, .int m_isOpen, .int m_isOver, .int m_wasTried, .int m_hasPlayed, .ref a_feltNow, .ref a_last, .ref a_kept, .int m_hasSeconds, .int m_hasTurned, .int m_hasRound, .ref a_hasFeels, .ref a_isOn, .int m_firstAct, .long m_meanTop, .long m_meanBy, .ref a_order, .int m_rowMany, .int m_newSteps]))]) 0 0 := by
  refine z_start2l (own := RX12) (by decide) (Nat.le_of_ble_eq_true rfl) rfl ?_
  intro p e s m args below meth c A ls Q hx hb hml hts hown hK hE hT hP hD hS hA hl hret
  have hl : lv_has ls 1 [(0, .ref h0)] := hl
  refine lv_aload_n hx hb dX12_top_0 rfl (lv_at hl 0 rfl) ?_
  refine lv_iconst (v := 0) hx hb dX12_top_1 (by decide) ?_
  refine va_put (D := G) (ci := 12) (v := .int 0) (ty := .int) (C := RX12) (T := TX12) (N := 65) hx hb hts inT12 tyX12 tyX12_ok nmX12 hown hK hP hD hS 0 rfl rfl 1 (by decide) (hts _ tw_1886) (fun _ h9 => h9) rfl (tyX12_ok 1 (by decide)) rfl rfl (Nat.le_of_ble_eq_true rfl) dX12_top_2 (fun H locs hP hD hS => ?_)
  refine lv_aload_n hx hb dX12_top_5 rfl (lv_at hl 0 rfl) ?_
  refine va_get (D := G) (ci := 12) (v := .long m_above) (C := RX12) (T := TX12) (N := 65) hx hb hts inT12 hown hK hP 0 rfl rfl 2 (by decide) (hts _ tw_1887) (fun _ h9 => h9) rfl dX12_top_6 ?_
  have hpost : (0 ≤ (0 : Int32).toInt ∧ (0 : Int32).toInt ≤ 0) := (by decide +kernel)
  exact hret _ _ _ _ _ _ 0 [0] hP hD hS rfl (by decide) dX12_top_9 hpost
set_option maxHeartbeats 4000000 in
set_option maxRecDepth 100000 in
theorem r_bottom (l : Launch) (G : va_G) (cA : zCA) (h0 : Nat) (m_status : Int32) (m_thrown : Int32) (m_above : Int64) (m_under : Int64) (a_traySort : Nat) (a_trayMany : Nat) (a_numbers : Nat) (a_tape : Nat) (m_taped : Int32) (m_textEnd : Int32) (m_faultKind : Int32) (m_faultAt : Int32) (m_bad : Int32) (m_badAt : Int32) (m_token : Int32) (m_at : Int32) (m_behind : Int32) (m_number : Int32) (m_letters : Int32) (m_word : Int64) (a_c : Nat) (a_words : Nat) (m_markMany : Int32) (a_there : Nat) (a_tried : Nat) (a_best : Nat) (a_found : Nat) (m_thereMany : Int32) (m_foundMany : Int32) (m_orderHow : Int32) (m_orderRing : Int32) (m_orderMany : Int32) (m_hasBest : Int32) (m_bestTop : Int64) (m_bestBy : Int64) (a_weights : Nat) (a_shared : Nat) (m_random : Int32) (m_truePlace : Int32) (m_trueWay : Int32) (m_seconds : Int32) (m_done : Int32) (m_feelings : Int32) (m_tries : Int32) (m_leftOver : Int32) (m_playDoor : Int32) (m_playRing : Int32) (m_isOpen : Int32) (m_isOver : Int32) (m_wasTried : Int32) (m_hasPlayed : Int32) (a_feltNow : Nat) (a_last : Nat) (a_kept : Nat) (m_hasSeconds : Int32) (m_hasTurned : Int32) (m_hasRound : Int32) (a_hasFeels : Nat) (a_isOn : Nat) (m_firstAct : Int32) (m_meanTop : Int64) (m_meanBy : Int64) (a_order : Nat) (m_rowMany : Int32) (m_newSteps : Int32) : zCl l yX12_bottom cX12_bottom 1 (some .long) ({ frames := 0, cells := 0, slots := 0, locals := 0 }) G cA [.ref h0] [(h0, .inr (12, [.int m_status, .int m_thrown, .long m_above, .long m_under, .ref a_traySort, .ref a_trayMany, .ref a_numbers, .ref a_tape, .int m_taped, .int m_textEnd, .int m_faultKind, .int m_faultAt, .int m_bad, .int m_badAt, .int m_token, .int m_at, .int m_behind, .int m_number, .int m_letters, .long m_word, .ref a_c, .ref a_words, .int m_markMany, .ref a_there, .ref a_tried, .ref a_best, .ref a_found, .int m_thereMany, .int m_foundMany, .int m_orderHow, .int m_orderRing, .int m_orderMany, .int m_hasBest, .long m_bestTop, .long m_bestBy, .ref a_weights, .ref a_shared, .int m_random, .int m_truePlace, .int m_trueWay, .int m_seconds, .int m_done, .int m_feelings, .int m_tries, .int m_leftOver, .int m_playDoor, .int m_playRing, .int m_isOpen, .int m_isOver, .int m_wasTried, .int m_hasPlayed, .ref a_feltNow, .ref a_last, .ref a_kept, .int m_hasSeconds, .int m_hasTurned, .int m_hasRound, .ref a_hasFeels, .ref a_isOn, .int m_firstAct, .long m_meanTop, .long m_meanBy, .ref a_order, .int m_rowMany, .int m_newSteps]))] (S := Int32) (fun (r : Int64) (u : Int32) => (0 ≤ u.toInt ∧ u.toInt ≤ 0)) (fun (u : Int32) => [(h0, .inr (12, [.int m_status, .int u, .long m_above, .long m_under, .ref a_traySort, .ref a_trayMany, .ref a_numbers, .ref a_tape, .int m_taped, .int m_textEnd, .int m_faultKind, .int m_faultAt, .int m_bad, .int m_badAt, .int m_token, .int m_at, .int m_behind, .int m_number, .int m_letters, .long m_word, .ref a_c, .ref a_words, .int m_markMany, .ref a_there, .ref a_tried, .ref a_best, .ref a_found, .int m_thereMany, .int m_foundMany, .int m_orderHow, .int m_orderRing, .int m_orderMany, .int m_hasBest, .long m_bestTop, .long m_bestBy, .ref a_weights, .ref a_shared, .int m_random, .int m_truePlace, .int m_trueWay, .int m_seconds, .int m_done, .int m_feelings, .int m_tries, .int m_leftOver, .int m_playDoor, .int m_playRing, .int m_isOpen, .int m_isOver, .int m_wasTried, .int m_hasPlayed, .ref a_feltNow, .ref a_last, .ref a_kept, .int m_hasSeconds, .int m_hasTurned, .int m_hasRound, .ref a_hasFeels, .ref a_isOn, .int m_firstAct, .long m_meanTop, .long m_meanBy, .ref a_order, .int m_rowMany, .int m_newSteps]))]) 0 0 := by
  refine z_start2l (own := RX12) (by decide) (Nat.le_of_ble_eq_true rfl) rfl ?_
  intro p e s m args below meth c A ls Q hx hb hml hts hown hK hE hT hP hD hS hA hl hret
  have hl : lv_has ls 1 [(0, .ref h0)] := hl
  refine lv_aload_n hx hb dX12_bottom_0 rfl (lv_at hl 0 rfl) ?_
  refine lv_iconst (v := 0) hx hb dX12_bottom_1 (by decide) ?_
  refine va_put (D := G) (ci := 12) (v := .int 0) (ty := .int) (C := RX12) (T := TX12) (N := 65) hx hb hts inT12 tyX12 tyX12_ok nmX12 hown hK hP hD hS 0 rfl rfl 1 (by decide) (hts _ tw_1886) (fun _ h9 => h9) rfl (tyX12_ok 1 (by decide)) rfl rfl (Nat.le_of_ble_eq_true rfl) dX12_bottom_2 (fun H locs hP hD hS => ?_)
  refine lv_aload_n hx hb dX12_bottom_5 rfl (lv_at hl 0 rfl) ?_
  refine va_get (D := G) (ci := 12) (v := .long m_under) (C := RX12) (T := TX12) (N := 65) hx hb hts inT12 hown hK hP 0 rfl rfl 3 (by decide) (hts _ tw_1888) (fun _ h9 => h9) rfl dX12_bottom_6 ?_
  have hpost : (0 ≤ (0 : Int32).toInt ∧ (0 : Int32).toInt ≤ 0) := (by decide +kernel)
  exact hret _ _ _ _ _ _ 0 [0] hP hD hS rfl (by decide) dX12_bottom_9 hpost
set_option maxHeartbeats 4000000 in
set_option maxRecDepth 100000 in
theorem r_refuse (l : Launch) (G : va_G) (cA : zCA) (h0 : Nat) (m_status : Int32) (m_thrown : Int32) (m_above : Int64) (m_under : Int64) (a_traySort : Nat) (a_trayMany : Nat) (a_numbers : Nat) (a_tape : Nat) (m_taped : Int32) (m_textEnd : Int32) (m_faultKind : Int32) (m_faultAt : Int32) (m_bad : Int32) (m_badAt : Int32) (m_token : Int32) (m_at : Int32) (m_behind : Int32) (m_number : Int32) (m_letters : Int32) (m_word : Int64) (a_c : Nat) (a_words : Nat) (m_markMany : Int32) (a_there : Nat) (a_tried : Nat) (a_best : Nat) (a_found : Nat) (m_thereMany : Int32) (m_foundMany : Int32) (m_orderHow : Int32) (m_orderRing : Int32) (m_orderMany : Int32) (m_hasBest : Int32) (m_bestTop : Int64) (m_bestBy : Int64) (a_weights : Nat) (a_shared : Nat) (m_random : Int32) (m_truePlace : Int32) (m_trueWay : Int32) (m_seconds : Int32) (m_done : Int32) (m_feelings : Int32) (m_tries : Int32) (m_leftOver : Int32) (m_playDoor : Int32) (m_playRing : Int32) (m_isOpen : Int32) (m_isOver : Int32) (m_wasTried : Int32) (m_hasPlayed : Int32) (a_feltNow : Nat) (a_last : Nat) (a_kept : Nat) (m_hasSeconds : Int32) (m_hasTurned : Int32) (m_hasRound : Int32) (a_hasFeels : Nat) (a_isOn : Nat) (m_firstAct : Int32) (m_meanTop : Int64) (m_meanBy : Int64) (a_order : Nat) (m_rowMany : Int32) (m_newSteps : Int32) (k : Int32) : zCi l yX12_refuse cX12_refuse 2 (some .int) ({ frames := 0, cells := 0, slots := 0, locals := 0 }) G cA [.ref h0, .int k] [(h0, .inr (12, [.int m_status, .int m_thrown, .long m_above, .long m_under, .ref a_traySort, .ref a_trayMany, .ref a_numbers, .ref a_tape, .int m_taped, .int m_textEnd, .int m_faultKind, .int m_faultAt, .int m_bad, .int m_badAt, .int m_token, .int m_at, .int m_behind, .int m_number, .int m_letters, .long m_word, .ref a_c, .ref a_words, .int m_markMany, .ref a_there, .ref a_tried, .ref a_best, .ref a_found, .int m_thereMany, .int m_foundMany, .int m_orderHow, .int m_orderRing, .int m_orderMany, .int m_hasBest, .long m_bestTop, .long m_bestBy, .ref a_weights, .ref a_shared, .int m_random, .int m_truePlace, .int m_trueWay, .int m_seconds, .int m_done, .int m_feelings, .int m_tries, .int m_leftOver, .int m_playDoor, .int m_playRing, .int m_isOpen, .int m_isOver, .int m_wasTried, .int m_hasPlayed, .ref a_feltNow, .ref a_last, .ref a_kept, .int m_hasSeconds, .int m_hasTurned, .int m_hasRound, .ref a_hasFeels, .ref a_isOn, .int m_firstAct, .long m_meanTop, .long m_meanBy, .ref a_order, .int m_rowMany, .int m_newSteps]))] (S := Int32) (fun (r : Int32) (u : Int32) => ((-1) ≤ r.toInt ∧ r.toInt ≤ (-1))) (fun (u : Int32) => [(h0, .inr (12, [.int u, .int m_thrown, .long m_above, .long m_under, .ref a_traySort, .ref a_trayMany, .ref a_numbers, .ref a_tape, .int m_taped, .int m_textEnd, .int m_faultKind, .int m_faultAt, .int m_bad, .int m_badAt, .int m_token, .int m_at, .int m_behind, .int m_number, .int m_letters, .long m_word, .ref a_c, .ref a_words, .int m_markMany, .ref a_there, .ref a_tried, .ref a_best, .ref a_found, .int m_thereMany, .int m_foundMany, .int m_orderHow, .int m_orderRing, .int m_orderMany, .int m_hasBest, .long m_bestTop, .long m_bestBy, .ref a_weights, .ref a_shared, .int m_random, .int m_truePlace, .int m_trueWay, .int m_seconds, .int m_done, .int m_feelings, .int m_tries, .int m_leftOver, .int m_playDoor, .int m_playRing, .int m_isOpen, .int m_isOver, .int m_wasTried, .int m_hasPlayed, .ref a_feltNow, .ref a_last, .ref a_kept, .int m_hasSeconds, .int m_hasTurned, .int m_hasRound, .ref a_hasFeels, .ref a_isOn, .int m_firstAct, .long m_meanTop, .long m_meanBy, .ref a_order, .int m_rowMany, .int m_newSteps]))]) 0 0 := by
  refine z_start2i (own := RX12) (by decide) (Nat.le_of_ble_eq_true rfl) rfl ?_
  intro p e s m args below meth c A ls Q hx hb hml hts hown hK hE hT hP hD hS hA hl hret
  have hl : lv_has ls 2 [(0, .ref h0), (1, .int k)] := hl
  refine lv_aload_n hx hb dX12_refuse_0 rfl (lv_at hl 0 rfl) ?_
  refine lv_iload_n hx hb dX12_refuse_1 rfl (lv_at hl 1 rfl) ?_
  refine va_put (D := G) (ci := 12) (v := .int k) (ty := .int) (C := RX12) (T := TX12) (N := 65) hx hb hts inT12 tyX12 tyX12_ok nmX12 hown hK hP hD hS 0 rfl rfl 0 (by decide) (hts _ tw_1885) (fun _ h9 => h9) rfl (tyX12_ok 0 (by decide)) rfl rfl (Nat.le_of_ble_eq_true rfl) dX12_refuse_2 (fun H locs hP hD hS => ?_)
  refine lv_iconst (v := (-1)) hx hb dX12_refuse_5 (by decide) ?_
  have hpost : ((-1) ≤ ((-1) : Int32).toInt ∧ ((-1) : Int32).toInt ≤ (-1)) := (by decide +kernel)
  exact hret _ _ _ _ _ _ k [0] hP hD hS rfl (by decide) dX12_refuse_6 hpost
set_option maxHeartbeats 40000000 in
set_option maxRecDepth 100000 in
theorem r_no (l : Launch) (G : va_G) (cA : zCA) (h0 : Nat) (m_status : Int32) (m_thrown : Int32) (m_above : Int64) (m_under : Int64) (a_traySort : Nat) (a_trayMany : Nat) (a_numbers : Nat) (a_tape : Nat) (m_taped : Int32) (m_textEnd : Int32) (m_faultKind : Int32) (m_faultAt : Int32) (m_bad : Int32) (m_badAt : Int32) (m_token : Int32) (m_at : Int32) (m_behind : Int32) (m_number : Int32) (m_letters : Int32) (m_word : Int64) (a_c : Nat) (a_words : Nat) (m_markMany : Int32) (a_there : Nat) (a_tried : Nat) (a_best : Nat) (a_found : Nat) (m_thereMany : Int32) (m_foundMany : Int32) (m_orderHow : Int32) (m_orderRing : Int32) (m_orderMany : Int32) (m_hasBest : Int32) (m_bestTop : Int64) (m_bestBy : Int64) (a_weights : Nat) (a_shared : Nat) (m_random : Int32) (m_truePlace : Int32) (m_trueWay : Int32) (m_seconds : Int32) (m_done : Int32) (m_feelings : Int32) (m_tries : Int32) (m_leftOver : Int32) (m_playDoor : Int32) (m_playRing : Int32) (m_isOpen : Int32) (m_isOver : Int32) (m_wasTried : Int32) (m_hasPlayed : Int32) (a_feltNow : Nat) (a_last : Nat) (a_kept : Nat) (m_hasSeconds : Int32) (m_hasTurned : Int32) (m_hasRound : Int32) (a_hasFeels : Nat) (a_isOn : Nat) (m_firstAct : Int32) (m_meanTop : Int64) (m_meanBy : Int64) (a_order : Nat) (m_rowMany : Int32) (m_newSteps : Int32) (k : Int32) : zCi l yX12_no cX12_no 2 (some .boolean) ({ frames := 0, cells := 0, slots := 0, locals := 0 }) G cA [.ref h0, .int k] [(h0, .inr (12, [.int m_status, .int m_thrown, .long m_above, .long m_under, .ref a_traySort, .ref a_trayMany, .ref a_numbers, .ref a_tape, .int m_taped, .int m_textEnd, .int m_faultKind, .int m_faultAt, .int m_bad, .int m_badAt, .int m_token, .int m_at, .int m_behind, .int m_number, .int m_letters, .long m_word, .ref a_c, .ref a_words, .int m_markMany, .ref a_there, .ref a_tried, .ref a_best, .ref a_found, .int m_thereMany, .int m_foundMany, .int m_orderHow, .int m_orderRing, .int m_orderMany, .int m_hasBest, .long m_bestTop, .long m_bestBy, .ref a_weights, .ref a_shared, .int m_random, .int m_truePlace, .int m_trueWay, .int m_seconds, .int m_done, .int m_feelings, .int m_tries, .int m_leftOver, .int m_playDoor, .int m_playRing, .int m_isOpen, .int m_isOver, .int m_wasTried, .int m_hasPlayed, .ref a_feltNow, .ref a_last, .ref a_kept, .int m_hasSeconds, .int m_hasTurned, .int m_hasRound, .ref a_hasFeels, .ref a_isOn, .int m_firstAct, .long m_meanTop, .long m_meanBy, .ref a_order, .int m_rowMany, .int m_newSteps]))] (S := Int32) (fun (r : Int32) (u : Int32) => (r = (F_r_no k).1) ∧ (u = (F_r_no k).2) ∧ ((r = 0 ∧ True))) (fun (u : Int32) => [(h0, .inr (12, [.int u, .int m_thrown, .long m_above, .long m_under, .ref a_traySort, .ref a_trayMany, .ref a_numbers, .ref a_tape, .int m_taped, .int m_textEnd, .int m_faultKind, .int m_faultAt, .int m_bad, .int m_badAt, .int m_token, .int m_at, .int m_behind, .int m_number, .int m_letters, .long m_word, .ref a_c, .ref a_words, .int m_markMany, .ref a_there, .ref a_tried, .ref a_best, .ref a_found, .int m_thereMany, .int m_foundMany, .int m_orderHow, .int m_orderRing, .int m_orderMany, .int m_hasBest, .long m_bestTop, .long m_bestBy, .ref a_weights, .ref a_shared, .int m_random, .int m_truePlace, .int m_trueWay, .int m_seconds, .int m_done, .int m_feelings, .int m_tries, .int m_leftOver, .int m_playDoor, .int m_playRing, .int m_isOpen, .int m_isOver, .int m_wasTried, .int m_hasPlayed, .ref a_feltNow, .ref a_last, .ref a_kept, .int m_hasSeconds, .int m_hasTurned, .int m_hasRound, .ref a_hasFeels, .ref a_isOn, .int m_firstAct, .long m_meanTop, .long m_meanBy, .ref a_order, .int m_rowMany, .int m_newSteps]))]) 0 0 := by
  refine z_start2z (own := RX12) (by decide) (Nat.le_of_ble_eq_true rfl) rfl ?_
  intro p e s m args below meth c A ls Q hx hb hml hts hown hK hE hT hP hD hS hA hl hret
  have hl : lv_has ls 2 [(0, .ref h0), (1, .int k)] := hl
  refine lv_aload_n hx hb dX12_no_0 rfl (lv_at hl 0 rfl) ?_
  refine lv_iload_n hx hb dX12_no_1 rfl (lv_at hl 1 rfl) ?_
  refine va_put (D := G) (ci := 12) (v := .int k) (ty := .int) (C := RX12) (T := TX12) (N := 65) hx hb hts inT12 tyX12 tyX12_ok nmX12 hown hK hP hD hS 0 rfl rfl 0 (by decide) (hts _ tw_1885) (fun _ h9 => h9) rfl (tyX12_ok 0 (by decide)) rfl rfl (Nat.le_of_ble_eq_true rfl) dX12_no_2 (fun H locs hP hD hS => ?_)
  refine lv_iconst (v := 0) hx hb dX12_no_5 (by decide) ?_
  have hpost : ((0 : Int32) = 0 ∧ True) := ⟨rfl, trivial⟩
  have hX_1 : F_r_no k = (((0 : Int32), k) : Int32 × Int32) := by
    refine (F_r_no_s ..).trans ?_
    exact rfl
  exact hret _ _ _ _ _ _ k [0] hP hD hS rfl (by decide) dX12_no_6 (Or.inl rfl) ⟨(congrArg (fun z9 => z9.1) hX_1).symm, (congrArg (fun z9 => z9.2) hX_1).symm, hpost⟩
set_option maxHeartbeats 4000000 in
set_option maxRecDepth 100000 in
theorem r_isIn (l : Launch) (G : va_G) (cA : zCA) (x : Int64) (lo : Int64) (hi : Int64) : zCi l yX12_isIn cX12_isIn 6 (some .boolean) ({ frames := 0, cells := 0, slots := 0, locals := 0 }) G cA [.long x, .long lo, .long hi] [] (S := Unit) (fun (r : Int32) (u : Unit) => (r = 0 ∧ (x.toInt < lo.toInt ∨ hi.toInt < x.toInt)) ∨ (r = 1 ∧ (lo.toInt ≤ x.toInt ∧ x.toInt ≤ hi.toInt))) (fun (u : Unit) => []) 0 0 := by
  refine z_start2z (own := RX12) (by decide) (Nat.le_of_ble_eq_true rfl) rfl ?_
  intro p e s m args below meth c A ls Q hx hb hml hts hown hK hE hT hP hD hS hA hl hret
  have hl : lv_has ls 6 [(0, .long x), (2, .long lo), (4, .long hi)] := hl
  refine lv_lload_n hx hb dX12_isIn_0 rfl (lv_at hl 0 rfl) ?_
  refine lv_lload_n hx hb dX12_isIn_1 rfl (lv_at hl 1 rfl) ?_
  refine W.lcmp hx hb dX12_isIn_2 ?_
  refine lv_if_lt (tgt := 17) hx hb dX12_isIn_3 (by decide) (fun c_1 => ?_) (fun c_1 => ?_)
  · have b_2 := z_fltTl c_1
    refine lv_iconst (v := 0) hx hb dX12_isIn_17 (by decide) ?_
    have hpost : ((0 : Int32) = 0 ∧ (x.toInt < lo.toInt ∨ hi.toInt < x.toInt)) ∨ ((0 : Int32) = 1 ∧ (lo.toInt ≤ x.toInt ∧ x.toInt ≤ hi.toInt)) := (Or.inl ⟨rfl, (by omega)⟩)
    exact hret _ _ _ _ _ _ () [] hP hD hS rfl (by decide) dX12_isIn_18 (Or.inl rfl) hpost
  · have b_3 := z_fgeFl c_1
    refine lv_lload_n hx hb dX12_isIn_6 rfl (lv_at hl 0 rfl) ?_
    refine lv_lload hx hb dX12_isIn_7 (lv_at hl 2 rfl) ?_
    refine W.lcmp hx hb dX12_isIn_9 ?_
    refine lv_if_gt (tgt := 17) hx hb dX12_isIn_10 (by decide) (fun c_4 => ?_) (fun c_4 => ?_)
    · have b_5 := z_fgtTl c_4
      refine lv_iconst (v := 0) hx hb dX12_isIn_17 (by decide) ?_
      have hpost : ((0 : Int32) = 0 ∧ (x.toInt < lo.toInt ∨ hi.toInt < x.toInt)) ∨ ((0 : Int32) = 1 ∧ (lo.toInt ≤ x.toInt ∧ x.toInt ≤ hi.toInt)) := (Or.inl ⟨rfl, (by omega)⟩)
      exact hret _ _ _ _ _ _ () [] hP hD hS rfl (by decide) dX12_isIn_18 (Or.inl rfl) hpost
    · have b_6 := z_fleFl c_4
      refine lv_iconst (v := 1) hx hb dX12_isIn_13 (by decide) ?_
      refine lv_goto (tgt := 18) hx hb dX12_isIn_14 (by decide) ?_
      have hpost : ((1 : Int32) = 0 ∧ (x.toInt < lo.toInt ∨ hi.toInt < x.toInt)) ∨ ((1 : Int32) = 1 ∧ (lo.toInt ≤ x.toInt ∧ x.toInt ≤ hi.toInt)) := (Or.inr ⟨rfl, (by omega)⟩)
      exact hret _ _ _ _ _ _ () [] hP hD hS rfl (by decide) dX12_isIn_18 (Or.inr rfl) hpost
set_option maxHeartbeats 4000000 in
set_option maxRecDepth 100000 in
theorem r_isLetter (l : Launch) (G : va_G) (cA : zCA) (x : Int32) : zCi l yX12_isLetter cX12_isLetter 1 (some .boolean) ({ frames := 0, cells := 0, slots := 0, locals := 0 }) G cA [.int x] [] (S := Unit) (fun (r : Int32) (u : Unit) => (r = 0 ∧ (x.toInt < 97 ∨ 122 < x.toInt)) ∨ (r = 1 ∧ (97 ≤ x.toInt ∧ x.toInt ≤ 122))) (fun (u : Unit) => []) 0 0 := by
  have hk_97 : (97 : Int32).toInt = 97 := by decide +kernel
  have hk_122 : (122 : Int32).toInt = 122 := by decide +kernel
  refine z_start2z (own := RX12) (by decide) (Nat.le_of_ble_eq_true rfl) rfl ?_
  intro p e s m args below meth c A ls Q hx hb hml hts hown hK hE hT hP hD hS hA hl hret
  have hl : lv_has ls 1 [(0, .int x)] := hl
  refine lv_iload_n hx hb dX12_isLetter_0 rfl (lv_at hl 0 rfl) ?_
  refine lv_bipush (v := 97) hx hb dX12_isLetter_1 (by decide) ?_
  refine lv_icmp_lt (tgt := 16) hx hb dX12_isLetter_3 (by decide) (fun c_1 => ?_) (fun c_1 => ?_)
  · have b_2 := z_fltT c_1
    refine lv_iconst (v := 0) hx hb dX12_isLetter_16 (by decide) ?_
    have hpost : ((0 : Int32) = 0 ∧ (x.toInt < 97 ∨ 122 < x.toInt)) ∨ ((0 : Int32) = 1 ∧ (97 ≤ x.toInt ∧ x.toInt ≤ 122)) := (Or.inl ⟨rfl, (by omega)⟩)
    exact hret _ _ _ _ _ _ () [] hP hD hS rfl (by decide) dX12_isLetter_17 (Or.inl rfl) hpost
  · have b_3 := z_fgeF c_1
    refine lv_iload_n hx hb dX12_isLetter_6 rfl (lv_at hl 0 rfl) ?_
    refine lv_bipush (v := 122) hx hb dX12_isLetter_7 (by decide) ?_
    refine lv_icmp_gt (tgt := 16) hx hb dX12_isLetter_9 (by decide) (fun c_4 => ?_) (fun c_4 => ?_)
    · have b_5 := z_fgtT c_4
      refine lv_iconst (v := 0) hx hb dX12_isLetter_16 (by decide) ?_
      have hpost : ((0 : Int32) = 0 ∧ (x.toInt < 97 ∨ 122 < x.toInt)) ∨ ((0 : Int32) = 1 ∧ (97 ≤ x.toInt ∧ x.toInt ≤ 122)) := (Or.inl ⟨rfl, (by omega)⟩)
      exact hret _ _ _ _ _ _ () [] hP hD hS rfl (by decide) dX12_isLetter_17 (Or.inl rfl) hpost
    · have b_6 := z_fleF c_4
      refine lv_iconst (v := 1) hx hb dX12_isLetter_12 (by decide) ?_
      refine lv_goto (tgt := 17) hx hb dX12_isLetter_13 (by decide) ?_
      have hpost : ((1 : Int32) = 0 ∧ (x.toInt < 97 ∨ 122 < x.toInt)) ∨ ((1 : Int32) = 1 ∧ (97 ≤ x.toInt ∧ x.toInt ≤ 122)) := (Or.inr ⟨rfl, (by omega)⟩)
      exact hret _ _ _ _ _ _ () [] hP hD hS rfl (by decide) dX12_isLetter_17 (Or.inr rfl) hpost
set_option maxHeartbeats 4000000 in
set_option maxRecDepth 100000 in
theorem r_isDigit (l : Launch) (G : va_G) (cA : zCA) (x : Int32) : zCi l yX12_isDigit cX12_isDigit 1 (some .boolean) ({ frames := 0, cells := 0, slots := 0, locals := 0 }) G cA [.int x] [] (S := Unit) (fun (r : Int32) (u : Unit) => (r = 0 ∧ (x.toInt < 48 ∨ 57 < x.toInt)) ∨ (r = 1 ∧ (48 ≤ x.toInt ∧ x.toInt ≤ 57))) (fun (u : Unit) => []) 0 0 := by
  have hk_48 : (48 : Int32).toInt = 48 := by decide +kernel
  have hk_57 : (57 : Int32).toInt = 57 := by decide +kernel
  refine z_start2z (own := RX12) (by decide) (Nat.le_of_ble_eq_true rfl) rfl ?_
  intro p e s m args below meth c A ls Q hx hb hml hts hown hK hE hT hP hD hS hA hl hret
  have hl : lv_has ls 1 [(0, .int x)] := hl
  refine lv_iload_n hx hb dX12_isDigit_0 rfl (lv_at hl 0 rfl) ?_
  refine lv_bipush (v := 48) hx hb dX12_isDigit_1 (by decide) ?_
  refine lv_icmp_lt (tgt := 16) hx hb dX12_isDigit_3 (by decide) (fun c_1 => ?_) (fun c_1 => ?_)
  · have b_2 := z_fltT c_1
    refine lv_iconst (v := 0) hx hb dX12_isDigit_16 (by decide) ?_
    have hpost : ((0 : Int32) = 0 ∧ (x.toInt < 48 ∨ 57 < x.toInt)) ∨ ((0 : Int32) = 1 ∧ (48 ≤ x.toInt ∧ x.toInt ≤ 57)) := (Or.inl ⟨rfl, (by omega)⟩)
    exact hret _ _ _ _ _ _ () [] hP hD hS rfl (by decide) dX12_isDigit_17 (Or.inl rfl) hpost
  · have b_3 := z_fgeF c_1
    refine lv_iload_n hx hb dX12_isDigit_6 rfl (lv_at hl 0 rfl) ?_
    refine lv_bipush (v := 57) hx hb dX12_isDigit_7 (by decide) ?_
    refine lv_icmp_gt (tgt := 16) hx hb dX12_isDigit_9 (by decide) (fun c_4 => ?_) (fun c_4 => ?_)
    · have b_5 := z_fgtT c_4
      refine lv_iconst (v := 0) hx hb dX12_isDigit_16 (by decide) ?_
      have hpost : ((0 : Int32) = 0 ∧ (x.toInt < 48 ∨ 57 < x.toInt)) ∨ ((0 : Int32) = 1 ∧ (48 ≤ x.toInt ∧ x.toInt ≤ 57)) := (Or.inl ⟨rfl, (by omega)⟩)
      exact hret _ _ _ _ _ _ () [] hP hD hS rfl (by decide) dX12_isDigit_17 (Or.inl rfl) hpost
    · have b_6 := z_fleF c_4
      refine lv_iconst (v := 1) hx hb dX12_isDigit_12 (by decide) ?_
      refine lv_goto (tgt := 17) hx hb dX12_isDigit_13 (by decide) ?_
      have hpost : ((1 : Int32) = 0 ∧ (x.toInt < 48 ∨ 57 < x.toInt)) ∨ ((1 : Int32) = 1 ∧ (48 ≤ x.toInt ∧ x.toInt ≤ 57)) := (Or.inr ⟨rfl, (by omega)⟩)
      exact hret _ _ _ _ _ _ () [] hP hD hS rfl (by decide) dX12_isDigit_17 (Or.inr rfl) hpost
set_option maxHeartbeats 4000000 in
set_option maxRecDepth 100000 in
theorem r_isSignByte (l : Launch) (G : va_G) (cA : zCA) (h0 : Nat) (m_status : Int32) (m_thrown : Int32) (m_above : Int64) (m_under : Int64) (a_traySort : Nat) (a_trayMany : Nat) (a_numbers : Nat) (a_tape : Nat) (m_taped : Int32) (m_textEnd : Int32) (m_faultKind : Int32) (m_faultAt : Int32) (m_bad : Int32) (m_badAt : Int32) (m_token : Int32) (m_at : Int32) (m_behind : Int32) (m_number : Int32) (m_letters : Int32) (m_word : Int64) (a_c : Nat) (a_words : Nat) (m_markMany : Int32) (a_there : Nat) (a_tried : Nat) (a_best : Nat) (a_found : Nat) (m_thereMany : Int32) (m_foundMany : Int32) (m_orderHow : Int32) (m_orderRing : Int32) (m_orderMany : Int32) (m_hasBest : Int32) (m_bestTop : Int64) (m_bestBy : Int64) (a_weights : Nat) (a_shared : Nat) (m_random : Int32) (m_truePlace : Int32) (m_trueWay : Int32) (m_seconds : Int32) (m_done : Int32) (m_feelings : Int32) (m_tries : Int32) (m_leftOver : Int32) (m_playDoor : Int32) (m_playRing : Int32) (m_isOpen : Int32) (m_isOver : Int32) (m_wasTried : Int32) (m_hasPlayed : Int32) (a_feltNow : Nat) (a_last : Nat) (a_kept : Nat) (m_hasSeconds : Int32) (m_hasTurned : Int32) (m_hasRound : Int32) (a_hasFeels : Nat) (a_isOn : Nat) (m_firstAct : Int32) (m_meanTop : Int64) (m_meanBy : Int64) (a_order : Nat) (m_rowMany : Int32) (m_newSteps : Int32) (x : Int32) : zCi l yX12_isSignByte cX12_isSignByte 2 (some .boolean) ({ frames := 0, cells := 0, slots := 0, locals := 0 }) G cA [.ref h0, .int x] [(h0, .inr (12, [.int m_status, .int m_thrown, .long m_above, .long m_under, .ref a_traySort, .ref a_trayMany, .ref a_numbers, .ref a_tape, .int m_taped, .int m_textEnd, .int m_faultKind, .int m_faultAt, .int m_bad, .int m_badAt, .int m_token, .int m_at, .int m_behind, .int m_number, .int m_letters, .long m_word, .ref a_c, .ref a_words, .int m_markMany, .ref a_there, .ref a_tried, .ref a_best, .ref a_found, .int m_thereMany, .int m_foundMany, .int m_orderHow, .int m_orderRing, .int m_orderMany, .int m_hasBest, .long m_bestTop, .long m_bestBy, .ref a_weights, .ref a_shared, .int m_random, .int m_truePlace, .int m_trueWay, .int m_seconds, .int m_done, .int m_feelings, .int m_tries, .int m_leftOver, .int m_playDoor, .int m_playRing, .int m_isOpen, .int m_isOver, .int m_wasTried, .int m_hasPlayed, .ref a_feltNow, .ref a_last, .ref a_kept, .int m_hasSeconds, .int m_hasTurned, .int m_hasRound, .ref a_hasFeels, .ref a_isOn, .int m_firstAct, .long m_meanTop, .long m_meanBy, .ref a_order, .int m_rowMany, .int m_newSteps]))] (S := Unit) (fun (r : Int32) (u : Unit) => (r = 0 ∧ True) ∨ (r = 1 ∧ True)) (fun (u : Unit) => [(h0, .inr (12, [.int m_status, .int m_thrown, .long m_above, .long m_under, .ref a_traySort, .ref a_trayMany, .ref a_numbers, .ref a_tape, .int m_taped, .int m_textEnd, .int m_faultKind, .int m_faultAt, .int m_bad, .int m_badAt, .int m_token, .int m_at, .int m_behind, .int m_number, .int m_letters, .long m_word, .ref a_c, .ref a_words, .int m_markMany, .ref a_there, .ref a_tried, .ref a_best, .ref a_found, .int m_thereMany, .int m_foundMany, .int m_orderHow, .int m_orderRing, .int m_orderMany, .int m_hasBest, .long m_bestTop, .long m_bestBy, .ref a_weights, .ref a_shared, .int m_random, .int m_truePlace, .int m_trueWay, .int m_seconds, .int m_done, .int m_feelings, .int m_tries, .int m_leftOver, .int m_playDoor, .int m_playRing, .int m_isOpen, .int m_isOver, .int m_wasTried, .int m_hasPlayed, .ref a_feltNow, .ref a_last, .ref a_kept, .int m_hasSeconds, .int m_hasTurned, .int m_hasRound, .ref a_hasFeels, .ref a_isOn, .int m_firstAct, .long m_meanTop, .long m_meanBy, .ref a_order, .int m_rowMany, .int m_newSteps]))]) 0 0 := by
  have hk_59 : (59 : Int32).toInt = 59 := by decide +kernel
  have hk_60 : (60 : Int32).toInt = 60 := by decide +kernel
  have hk_61 : (61 : Int32).toInt = 61 := by decide +kernel
  have hk_62 : (62 : Int32).toInt = 62 := by decide +kernel
  refine z_start2z (own := RX12) (by decide) (Nat.le_of_ble_eq_true rfl) rfl ?_
  intro p e s m args below meth c A ls Q hx hb hml hts hown hK hE hT hP hD hS hA hl hret
  have hl : lv_has ls 2 [(0, .ref h0), (1, .int x)] := hl
  refine lv_iload_n hx hb dX12_isSignByte_0 rfl (lv_at hl 1 rfl) ?_
  refine lv_bipush (v := 59) hx hb dX12_isSignByte_1 (by decide) ?_
  refine lv_icmp_eq (tgt := 24) hx hb dX12_isSignByte_3 (by decide) (fun c_1 => ?_) (fun c_1 => ?_)
  · have b_2 := z_feqT c_1
    refine lv_iconst (v := 1) hx hb dX12_isSignByte_24 (by decide) ?_
    refine lv_goto (tgt := 29) hx hb dX12_isSignByte_25 (by decide) ?_
    have hpost : ((1 : Int32) = 0 ∧ True) ∨ ((1 : Int32) = 1 ∧ True) := (Or.inr ⟨rfl, trivial⟩)
    exact hret _ _ _ _ _ _ () [0] hP hD hS rfl (by decide) dX12_isSignByte_29 (Or.inr rfl) hpost
  · have b_3 := z_fneF c_1
    refine lv_iload_n hx hb dX12_isSignByte_6 rfl (lv_at hl 1 rfl) ?_
    refine lv_bipush (v := 60) hx hb dX12_isSignByte_7 (by decide) ?_
    refine lv_icmp_eq (tgt := 24) hx hb dX12_isSignByte_9 (by decide) (fun c_4 => ?_) (fun c_4 => ?_)
    · have b_5 := z_feqT c_4
      refine lv_iconst (v := 1) hx hb dX12_isSignByte_24 (by decide) ?_
      refine lv_goto (tgt := 29) hx hb dX12_isSignByte_25 (by decide) ?_
      have hpost : ((1 : Int32) = 0 ∧ True) ∨ ((1 : Int32) = 1 ∧ True) := (Or.inr ⟨rfl, trivial⟩)
      exact hret _ _ _ _ _ _ () [0] hP hD hS rfl (by decide) dX12_isSignByte_29 (Or.inr rfl) hpost
    · have b_6 := z_fneF c_4
      refine lv_iload_n hx hb dX12_isSignByte_12 rfl (lv_at hl 1 rfl) ?_
      refine lv_bipush (v := 62) hx hb dX12_isSignByte_13 (by decide) ?_
      refine lv_icmp_eq (tgt := 24) hx hb dX12_isSignByte_15 (by decide) (fun c_7 => ?_) (fun c_7 => ?_)
      · have b_8 := z_feqT c_7
        refine lv_iconst (v := 1) hx hb dX12_isSignByte_24 (by decide) ?_
        refine lv_goto (tgt := 29) hx hb dX12_isSignByte_25 (by decide) ?_
        have hpost : ((1 : Int32) = 0 ∧ True) ∨ ((1 : Int32) = 1 ∧ True) := (Or.inr ⟨rfl, trivial⟩)
        exact hret _ _ _ _ _ _ () [0] hP hD hS rfl (by decide) dX12_isSignByte_29 (Or.inr rfl) hpost
      · have b_9 := z_fneF c_7
        refine lv_iload_n hx hb dX12_isSignByte_18 rfl (lv_at hl 1 rfl) ?_
        refine lv_bipush (v := 61) hx hb dX12_isSignByte_19 (by decide) ?_
        refine lv_icmp_ne (tgt := 28) hx hb dX12_isSignByte_21 (by decide) (fun c_10 => ?_) (fun c_10 => ?_)
        · have b_11 := z_fneT c_10
          refine lv_iconst (v := 0) hx hb dX12_isSignByte_28 (by decide) ?_
          have hpost : ((0 : Int32) = 0 ∧ True) ∨ ((0 : Int32) = 1 ∧ True) := (Or.inl ⟨rfl, trivial⟩)
          exact hret _ _ _ _ _ _ () [0] hP hD hS rfl (by decide) dX12_isSignByte_29 (Or.inl rfl) hpost
        · have b_12 := z_feqF c_10
          refine lv_iconst (v := 1) hx hb dX12_isSignByte_24 (by decide) ?_
          refine lv_goto (tgt := 29) hx hb dX12_isSignByte_25 (by decide) ?_
          have hpost : ((1 : Int32) = 0 ∧ True) ∨ ((1 : Int32) = 1 ∧ True) := (Or.inr ⟨rfl, trivial⟩)
          exact hret _ _ _ _ _ _ () [0] hP hD hS rfl (by decide) dX12_isSignByte_29 (Or.inr rfl) hpost
set_option maxHeartbeats 40000000 in
set_option maxRecDepth 100000 in
theorem r_cut (l : Launch) (G : va_G) (cA : zCA) (ss : Int32) (v : Int64) : zCl l yX12_cut cX12_cut 3 (some .long) ({ frames := 0, cells := 0, slots := 0, locals := 0 }) G cA [.int ss, .long v] [] (S := Unit) (fun (r : Int64) (u : Unit) => (r = (F_r_cut ss v)) ∧ (True)) (fun (u : Unit) => []) 0 0 := by
  have hk_0 : (0 : Int32).toInt = 0 := by decide +kernel
  have hk_1 : (1 : Int32).toInt = 1 := by decide +kernel
  have hk_2 : (2 : Int32).toInt = 2 := by decide +kernel
  refine z_start2l (own := RX12) (by decide) (Nat.le_of_ble_eq_true rfl) rfl ?_
  intro p e s m args below meth c A ls Q hx hb hml hts hown hK hE hT hP hD hS hA hl hret
  have hl : lv_has ls 3 [(0, .int ss), (1, .long v)] := hl
  refine lv_iload_n hx hb dX12_cut_0 rfl (lv_at hl 0 rfl) ?_
  refine lv_if_ne (tgt := 11) hx hb dX12_cut_1 (by decide) (fun c_1 => ?_) (fun c_1 => ?_)
  · have b_2 := z_fneT c_1
    refine lv_iload_n hx hb dX12_cut_11 rfl (lv_at hl 0 rfl) ?_
    refine lv_iconst (v := 1) hx hb dX12_cut_12 (by decide) ?_
    refine lv_icmp_ne (tgt := 23) hx hb dX12_cut_13 (by decide) (fun c_3 => ?_) (fun c_3 => ?_)
    · have b_4 := z_fneT c_3
      refine lv_iload_n hx hb dX12_cut_23 rfl (lv_at hl 0 rfl) ?_
      refine lv_iconst (v := 2) hx hb dX12_cut_24 (by decide) ?_
      refine lv_icmp_ne (tgt := 34) hx hb dX12_cut_25 (by decide) (fun c_5 => ?_) (fun c_5 => ?_)
      · have b_6 := z_fneT c_5
        refine lv_lload_n hx hb dX12_cut_34 rfl (lv_at hl 1 rfl) ?_
        have hX_7 : F_r_cut ss v = (v : Int64) := by
          refine (F_r_cut_s ..).trans ?_
          refine (if_neg c_1).trans ?_
          refine (if_neg c_3).trans ?_
          refine (if_neg c_5).trans ?_
          exact rfl
        exact hret _ _ _ _ _ _ () [] hP hD hS rfl (by decide) dX12_cut_35 ⟨(congrArg (fun z9 => z9) hX_7).symm, trivial⟩
      · have b_8 := z_feqF c_5
        refine lv_lload_n hx hb dX12_cut_28 rfl (lv_at hl 1 rfl) ?_
        refine lv_l2i (v := (v).toInt32) hx hb dX12_cut_29 rfl ?_
        refine lv_topi (fun x_9 he_x_9 => ?_)
        refine lv_i2l (v := (x_9).toInt64) hx hb dX12_cut_30 rfl ?_
        refine lv_topl (fun x_10 he_x_10 => ?_)
        have hq_x_10 := z_i2l he_x_10
        have hL_x_9 := z_full x_9
        refine lv_goto (tgt := 35) hx hb dX12_cut_31 (by decide) ?_
        have hX_11 : F_r_cut ss v = (x_10 : Int64) := by
          refine (F_r_cut_s ..).trans ?_
          refine (if_neg c_1).trans ?_
          refine (if_neg c_3).trans ?_
          refine (if_pos c_5).trans ?_
          try (extract_lets -merge -useContext +onlyGivenNames y9; have e9 : x_9 = y9 := (by first | exact he_x_9 | exact he_x_9.symm); clear_value y9; subst e9)
          try (extract_lets -merge -useContext +onlyGivenNames y9; have e9 : x_10 = y9 := (by first | exact he_x_10 | exact he_x_10.symm); clear_value y9; subst e9)
          exact rfl
        exact hret _ _ _ _ _ _ () [] hP hD hS rfl (by decide) dX12_cut_35 ⟨(congrArg (fun z9 => z9) hX_11).symm, trivial⟩
    · have b_12 := z_feqF c_3
      refine lv_lload_n hx hb dX12_cut_16 rfl (lv_at hl 1 rfl) ?_
      refine lv_l2i (v := (v).toInt32) hx hb dX12_cut_17 rfl ?_
      refine lv_topi (fun x_13 he_x_13 => ?_)
      refine lv_i2s (v := (x_13).toInt16.toInt32) hx hb dX12_cut_18 rfl ?_
      refine lv_topi (fun x_14 he_x_14 => ?_)
      refine lv_i2l (v := (x_14).toInt64) hx hb dX12_cut_19 rfl ?_
      refine lv_topl (fun x_15 he_x_15 => ?_)
      have hq_x_15 := z_i2l he_x_15
      have hL_x_14 := z_full x_14
      refine lv_goto (tgt := 35) hx hb dX12_cut_20 (by decide) ?_
      have hX_16 : F_r_cut ss v = (x_15 : Int64) := by
        refine (F_r_cut_s ..).trans ?_
        refine (if_neg c_1).trans ?_
        refine (if_pos c_3).trans ?_
        try (extract_lets -merge -useContext +onlyGivenNames y9; have e9 : x_13 = y9 := (by first | exact he_x_13 | exact he_x_13.symm); clear_value y9; subst e9)
        try (extract_lets -merge -useContext +onlyGivenNames y9; have e9 : x_14 = y9 := (by first | exact he_x_14 | exact he_x_14.symm); clear_value y9; subst e9)
        try (extract_lets -merge -useContext +onlyGivenNames y9; have e9 : x_15 = y9 := (by first | exact he_x_15 | exact he_x_15.symm); clear_value y9; subst e9)
        exact rfl
      exact hret _ _ _ _ _ _ () [] hP hD hS rfl (by decide) dX12_cut_35 ⟨(congrArg (fun z9 => z9) hX_16).symm, trivial⟩
  · have b_17 := z_feqF c_1
    refine lv_lload_n hx hb dX12_cut_4 rfl (lv_at hl 1 rfl) ?_
    refine lv_l2i (v := (v).toInt32) hx hb dX12_cut_5 rfl ?_
    refine lv_topi (fun x_18 he_x_18 => ?_)
    refine lv_i2b (v := (x_18).toInt8.toInt32) hx hb dX12_cut_6 rfl ?_
    refine lv_topi (fun x_19 he_x_19 => ?_)
    refine lv_i2l (v := (x_19).toInt64) hx hb dX12_cut_7 rfl ?_
    refine lv_topl (fun x_20 he_x_20 => ?_)
    have hq_x_20 := z_i2l he_x_20
    have hL_x_19 := z_full x_19
    refine lv_goto (tgt := 35) hx hb dX12_cut_8 (by decide) ?_
    have hX_21 : F_r_cut ss v = (x_20 : Int64) := by
      refine (F_r_cut_s ..).trans ?_
      refine (if_pos c_1).trans ?_
      try (extract_lets -merge -useContext +onlyGivenNames y9; have e9 : x_18 = y9 := (by first | exact he_x_18 | exact he_x_18.symm); clear_value y9; subst e9)
      try (extract_lets -merge -useContext +onlyGivenNames y9; have e9 : x_19 = y9 := (by first | exact he_x_19 | exact he_x_19.symm); clear_value y9; subst e9)
      try (extract_lets -merge -useContext +onlyGivenNames y9; have e9 : x_20 = y9 := (by first | exact he_x_20 | exact he_x_20.symm); clear_value y9; subst e9)
      exact rfl
    exact hret _ _ _ _ _ _ () [] hP hD hS rfl (by decide) dX12_cut_35 ⟨(congrArg (fun z9 => z9) hX_21).symm, trivial⟩
set_option maxHeartbeats 4000000 in
set_option maxRecDepth 100000 in
theorem r_spelled (l : Launch) (G : va_G) (cA : zCA) (x0 : Int32) (x1 : Int32) (x2 : Int32) (x3 : Int32) (x4 : Int32) (x5 : Int32) (hr_x0 : 0 ≤ x0.toInt ∧ x0.toInt ≤ 255) (hr_x1 : 0 ≤ x1.toInt ∧ x1.toInt ≤ 255) (hr_x2 : 0 ≤ x2.toInt ∧ x2.toInt ≤ 255) (hr_x3 : 0 ≤ x3.toInt ∧ x3.toInt ≤ 255) (hr_x4 : 0 ≤ x4.toInt ∧ x4.toInt ≤ 255) (hr_x5 : 0 ≤ x5.toInt ∧ x5.toInt ≤ 255) : zCl l yX12_spelled cX12_spelled 8 (some .long) ({ frames := 0, cells := 0, slots := 0, locals := 0 }) G cA [.int x0, .int x1, .int x2, .int x3, .int x4, .int x5] [] (S := Unit) (fun (r : Int64) (u : Unit) => ((-3325102143) ≤ r.toInt ∧ r.toInt ≤ 5507256447)) (fun (u : Unit) => []) 0 0 := by
  have hk_0 : (0 : Int32).toInt = 0 := by decide +kernel
  have hkl_32 : (32 : Int64).toInt = 32 := by decide +kernel
  have hkl_96 : (96 : Int64).toInt = 96 := by decide +kernel
  refine z_start2l (own := RX12) (by decide) (Nat.le_of_ble_eq_true rfl) rfl ?_
  intro p e s m args below meth c A ls Q hx hb hml hts hown hK hE hT hP hD hS hA hl hret
  have hl : lv_has ls 8 [(0, .int x0), (1, .int x1), (2, .int x2), (3, .int x3), (4, .int x4), (5, .int x5)] := hl
  refine lv_iload_n hx hb dX12_spelled_0 rfl (lv_at hl 0 rfl) ?_
  refine lv_i2l (v := (x0).toInt64) hx hb dX12_spelled_1 rfl ?_
  refine lv_topl (fun x_1 he_x_1 => ?_)
  have hq_x_1 := z_i2l he_x_1
  refine lv_ldc2 (v := 96) hx hb hown (hts _ tw_2155) dX12_spelled_2 ?_
  refine lv_lsub hx hb dX12_spelled_5 ?_
  refine lv_topl (fun x_2 he_x_2 => ?_)
  have hq_x_2 := z_subql he_x_2 (rfl : x_1.toInt = _) hkl_96 (by omega) (by omega)
  refine lv_ldc2 (v := 32) hx hb hown (hts _ tw_2154) dX12_spelled_6 ?_
  refine lv_lmul hx hb dX12_spelled_9 ?_
  refine lv_topl (fun x_3 he_x_3 => ?_)
  have hq_x_3 := z_mulql he_x_3 (rfl : x_2.toInt = _) hkl_32 (by omega) (by omega)
  refine lv_iload_n hx hb dX12_spelled_10 rfl (lv_at hl 1 rfl) ?_
  refine lv_i2l (v := (x1).toInt64) hx hb dX12_spelled_11 rfl ?_
  refine lv_topl (fun x_4 he_x_4 => ?_)
  have hq_x_4 := z_i2l he_x_4
  refine lv_ladd hx hb dX12_spelled_12 ?_
  refine lv_topl (fun x_5 he_x_5 => ?_)
  have hq_x_5 := z_addql he_x_5 (rfl : x_3.toInt = _) (rfl : x_4.toInt = _) (by omega) (by omega)
  refine lv_ldc2 (v := 96) hx hb hown (hts _ tw_2155) dX12_spelled_13 ?_
  refine lv_lsub hx hb dX12_spelled_16 ?_
  refine lv_topl (fun x_6 he_x_6 => ?_)
  have hq_x_6 := z_subql he_x_6 (rfl : x_5.toInt = _) hkl_96 (by omega) (by omega)
  refine lv_lstore (lv' := [(6, .long x_6), (0, .int x0), (1, .int x1), (2, .int x2), (3, .int x3), (4, .int x4), (5, .int x5)]) hx hb dX12_spelled_17 hl (by decide) rfl (fun ls hl => ?_)
  refine lv_iload_n hx hb dX12_spelled_19 rfl (lv_at hl 3 rfl) ?_
  refine lv_if_le (tgt := 39) hx hb dX12_spelled_20 (by decide) (fun c_7 => ?_) (fun c_7 => ?_)
  · have b_8 := z_fleT c_7
    refine lv_lload hx hb dX12_spelled_39 (lv_at hl 0 rfl) ?_
    refine lv_lstore (lv' := [(6, .long x_6), (0, .int x0), (1, .int x1), (2, .int x2), (3, .int x3), (4, .int x4), (5, .int x5)]) hx hb dX12_spelled_41 hl (by decide) rfl (fun ls hl => ?_)
    refine lv_iload_n hx hb dX12_spelled_43 rfl (lv_at hl 4 rfl) ?_
    refine lv_if_le (tgt := 63) hx hb dX12_spelled_44 (by decide) (fun c_9 => ?_) (fun c_9 => ?_)
    · have b_10 := z_fleT c_9
      refine lv_lload hx hb dX12_spelled_63 (lv_at hl 0 rfl) ?_
      refine lv_lstore (lv' := [(6, .long x_6), (0, .int x0), (1, .int x1), (2, .int x2), (3, .int x3), (4, .int x4), (5, .int x5)]) hx hb dX12_spelled_65 hl (by decide) rfl (fun ls hl => ?_)
      refine lv_iload hx hb dX12_spelled_67 (lv_at hl 5 rfl) ?_
      refine lv_if_le (tgt := 89) hx hb dX12_spelled_69 (by decide) (fun c_11 => ?_) (fun c_11 => ?_)
      · have b_12 := z_fleT c_11
        refine lv_lload hx hb dX12_spelled_89 (lv_at hl 0 rfl) ?_
        refine lv_lstore (lv' := [(6, .long x_6), (0, .int x0), (1, .int x1), (2, .int x2), (3, .int x3), (4, .int x4), (5, .int x5)]) hx hb dX12_spelled_91 hl (by decide) rfl (fun ls hl => ?_)
        refine lv_iload hx hb dX12_spelled_93 (lv_at hl 6 rfl) ?_
        refine lv_if_le (tgt := 115) hx hb dX12_spelled_95 (by decide) (fun c_13 => ?_) (fun c_13 => ?_)
        · have b_14 := z_fleT c_13
          refine lv_lload hx hb dX12_spelled_115 (lv_at hl 0 rfl) ?_
          have hpost : ((-3325102143) ≤ x_6.toInt ∧ x_6.toInt ≤ 5507256447) := (by omega)
          exact hret _ _ _ _ _ _ () [] hP hD hS rfl (by decide) dX12_spelled_117 hpost
        · have b_15 := z_fgtF c_13
          refine lv_lload hx hb dX12_spelled_98 (lv_at hl 0 rfl) ?_
          refine lv_ldc2 (v := 32) hx hb hown (hts _ tw_2154) dX12_spelled_100 ?_
          refine lv_lmul hx hb dX12_spelled_103 ?_
          refine lv_topl (fun x_16 he_x_16 => ?_)
          have hq_x_16 := z_mulql he_x_16 (rfl : x_6.toInt = _) hkl_32 (by omega) (by omega)
          refine lv_iload hx hb dX12_spelled_104 (lv_at hl 6 rfl) ?_
          refine lv_i2l (v := (x5).toInt64) hx hb dX12_spelled_106 rfl ?_
          refine lv_topl (fun x_17 he_x_17 => ?_)
          have hq_x_17 := z_i2l he_x_17
          refine lv_ladd hx hb dX12_spelled_107 ?_
          refine lv_topl (fun x_18 he_x_18 => ?_)
          have hq_x_18 := z_addql he_x_18 (rfl : x_16.toInt = _) (rfl : x_17.toInt = _) (by omega) (by omega)
          refine lv_ldc2 (v := 96) hx hb hown (hts _ tw_2155) dX12_spelled_108 ?_
          refine lv_lsub hx hb dX12_spelled_111 ?_
          refine lv_topl (fun x_19 he_x_19 => ?_)
          have hq_x_19 := z_subql he_x_19 (rfl : x_18.toInt = _) hkl_96 (by omega) (by omega)
          refine lv_goto (tgt := 117) hx hb dX12_spelled_112 (by decide) ?_
          have hpost : ((-3325102143) ≤ x_19.toInt ∧ x_19.toInt ≤ 5507256447) := (by omega)
          exact hret _ _ _ _ _ _ () [] hP hD hS rfl (by decide) dX12_spelled_117 hpost
      · have b_20 := z_fgtF c_11
        refine lv_lload hx hb dX12_spelled_72 (lv_at hl 0 rfl) ?_
        refine lv_ldc2 (v := 32) hx hb hown (hts _ tw_2154) dX12_spelled_74 ?_
        refine lv_lmul hx hb dX12_spelled_77 ?_
        refine lv_topl (fun x_21 he_x_21 => ?_)
        have hq_x_21 := z_mulql he_x_21 (rfl : x_6.toInt = _) hkl_32 (by omega) (by omega)
        refine lv_iload hx hb dX12_spelled_78 (lv_at hl 5 rfl) ?_
        refine lv_i2l (v := (x4).toInt64) hx hb dX12_spelled_80 rfl ?_
        refine lv_topl (fun x_22 he_x_22 => ?_)
        have hq_x_22 := z_i2l he_x_22
        refine lv_ladd hx hb dX12_spelled_81 ?_
        refine lv_topl (fun x_23 he_x_23 => ?_)
        have hq_x_23 := z_addql he_x_23 (rfl : x_21.toInt = _) (rfl : x_22.toInt = _) (by omega) (by omega)
        refine lv_ldc2 (v := 96) hx hb hown (hts _ tw_2155) dX12_spelled_82 ?_
        refine lv_lsub hx hb dX12_spelled_85 ?_
        refine lv_topl (fun x_24 he_x_24 => ?_)
        have hq_x_24 := z_subql he_x_24 (rfl : x_23.toInt = _) hkl_96 (by omega) (by omega)
        refine lv_goto (tgt := 91) hx hb dX12_spelled_86 (by decide) ?_
        refine lv_lstore (lv' := [(6, .long x_24), (0, .int x0), (1, .int x1), (2, .int x2), (3, .int x3), (4, .int x4), (5, .int x5)]) hx hb dX12_spelled_91 hl (by decide) rfl (fun ls hl => ?_)
        refine lv_iload hx hb dX12_spelled_93 (lv_at hl 6 rfl) ?_
        refine lv_if_le (tgt := 115) hx hb dX12_spelled_95 (by decide) (fun c_25 => ?_) (fun c_25 => ?_)
        · have b_26 := z_fleT c_25
          refine lv_lload hx hb dX12_spelled_115 (lv_at hl 0 rfl) ?_
          have hpost : ((-3325102143) ≤ x_24.toInt ∧ x_24.toInt ≤ 5507256447) := (by omega)
          exact hret _ _ _ _ _ _ () [] hP hD hS rfl (by decide) dX12_spelled_117 hpost
        · have b_27 := z_fgtF c_25
          refine lv_lload hx hb dX12_spelled_98 (lv_at hl 0 rfl) ?_
          refine lv_ldc2 (v := 32) hx hb hown (hts _ tw_2154) dX12_spelled_100 ?_
          refine lv_lmul hx hb dX12_spelled_103 ?_
          refine lv_topl (fun x_28 he_x_28 => ?_)
          have hq_x_28 := z_mulql he_x_28 (rfl : x_24.toInt = _) hkl_32 (by omega) (by omega)
          refine lv_iload hx hb dX12_spelled_104 (lv_at hl 6 rfl) ?_
          refine lv_i2l (v := (x5).toInt64) hx hb dX12_spelled_106 rfl ?_
          refine lv_topl (fun x_29 he_x_29 => ?_)
          have hq_x_29 := z_i2l he_x_29
          refine lv_ladd hx hb dX12_spelled_107 ?_
          refine lv_topl (fun x_30 he_x_30 => ?_)
          have hq_x_30 := z_addql he_x_30 (rfl : x_28.toInt = _) (rfl : x_29.toInt = _) (by omega) (by omega)
          refine lv_ldc2 (v := 96) hx hb hown (hts _ tw_2155) dX12_spelled_108 ?_
          refine lv_lsub hx hb dX12_spelled_111 ?_
          refine lv_topl (fun x_31 he_x_31 => ?_)
          have hq_x_31 := z_subql he_x_31 (rfl : x_30.toInt = _) hkl_96 (by omega) (by omega)
          refine lv_goto (tgt := 117) hx hb dX12_spelled_112 (by decide) ?_
          have hpost : ((-3325102143) ≤ x_31.toInt ∧ x_31.toInt ≤ 5507256447) := (by omega)
          exact hret _ _ _ _ _ _ () [] hP hD hS rfl (by decide) dX12_spelled_117 hpost
    · have b_32 := z_fgtF c_9
      refine lv_lload hx hb dX12_spelled_47 (lv_at hl 0 rfl) ?_
      refine lv_ldc2 (v := 32) hx hb hown (hts _ tw_2154) dX12_spelled_49 ?_
      refine lv_lmul hx hb dX12_spelled_52 ?_
      refine lv_topl (fun x_33 he_x_33 => ?_)
      have hq_x_33 := z_mulql he_x_33 (rfl : x_6.toInt = _) hkl_32 (by omega) (by omega)
      refine lv_iload_n hx hb dX12_spelled_53 rfl (lv_at hl 4 rfl) ?_
      refine lv_i2l (v := (x3).toInt64) hx hb dX12_spelled_54 rfl ?_
      refine lv_topl (fun x_34 he_x_34 => ?_)
      have hq_x_34 := z_i2l he_x_34
      refine lv_ladd hx hb dX12_spelled_55 ?_
      refine lv_topl (fun x_35 he_x_35 => ?_)
      have hq_x_35 := z_addql he_x_35 (rfl : x_33.toInt = _) (rfl : x_34.toInt = _) (by omega) (by omega)
      refine lv_ldc2 (v := 96) hx hb hown (hts _ tw_2155) dX12_spelled_56 ?_
      refine lv_lsub hx hb dX12_spelled_59 ?_
      refine lv_topl (fun x_36 he_x_36 => ?_)
      have hq_x_36 := z_subql he_x_36 (rfl : x_35.toInt = _) hkl_96 (by omega) (by omega)
      refine lv_goto (tgt := 65) hx hb dX12_spelled_60 (by decide) ?_
      refine lv_lstore (lv' := [(6, .long x_36), (0, .int x0), (1, .int x1), (2, .int x2), (3, .int x3), (4, .int x4), (5, .int x5)]) hx hb dX12_spelled_65 hl (by decide) rfl (fun ls hl => ?_)
      refine lv_iload hx hb dX12_spelled_67 (lv_at hl 5 rfl) ?_
      refine lv_if_le (tgt := 89) hx hb dX12_spelled_69 (by decide) (fun c_37 => ?_) (fun c_37 => ?_)
      · have b_38 := z_fleT c_37
        refine lv_lload hx hb dX12_spelled_89 (lv_at hl 0 rfl) ?_
        refine lv_lstore (lv' := [(6, .long x_36), (0, .int x0), (1, .int x1), (2, .int x2), (3, .int x3), (4, .int x4), (5, .int x5)]) hx hb dX12_spelled_91 hl (by decide) rfl (fun ls hl => ?_)
        refine lv_iload hx hb dX12_spelled_93 (lv_at hl 6 rfl) ?_
        refine lv_if_le (tgt := 115) hx hb dX12_spelled_95 (by decide) (fun c_39 => ?_) (fun c_39 => ?_)
        · have b_40 := z_fleT c_39
          refine lv_lload hx hb dX12_spelled_115 (lv_at hl 0 rfl) ?_
          have hpost : ((-3325102143) ≤ x_36.toInt ∧ x_36.toInt ≤ 5507256447) := (by omega)
          exact hret _ _ _ _ _ _ () [] hP hD hS rfl (by decide) dX12_spelled_117 hpost
        · have b_41 := z_fgtF c_39
          refine lv_lload hx hb dX12_spelled_98 (lv_at hl 0 rfl) ?_
          refine lv_ldc2 (v := 32) hx hb hown (hts _ tw_2154) dX12_spelled_100 ?_
          refine lv_lmul hx hb dX12_spelled_103 ?_
          refine lv_topl (fun x_42 he_x_42 => ?_)
          have hq_x_42 := z_mulql he_x_42 (rfl : x_36.toInt = _) hkl_32 (by omega) (by omega)
          refine lv_iload hx hb dX12_spelled_104 (lv_at hl 6 rfl) ?_
          refine lv_i2l (v := (x5).toInt64) hx hb dX12_spelled_106 rfl ?_
          refine lv_topl (fun x_43 he_x_43 => ?_)
          have hq_x_43 := z_i2l he_x_43
          refine lv_ladd hx hb dX12_spelled_107 ?_
          refine lv_topl (fun x_44 he_x_44 => ?_)
          have hq_x_44 := z_addql he_x_44 (rfl : x_42.toInt = _) (rfl : x_43.toInt = _) (by omega) (by omega)
          refine lv_ldc2 (v := 96) hx hb hown (hts _ tw_2155) dX12_spelled_108 ?_
          refine lv_lsub hx hb dX12_spelled_111 ?_
          refine lv_topl (fun x_45 he_x_45 => ?_)
          have hq_x_45 := z_subql he_x_45 (rfl : x_44.toInt = _) hkl_96 (by omega) (by omega)
          refine lv_goto (tgt := 117) hx hb dX12_spelled_112 (by decide) ?_
          have hpost : ((-3325102143) ≤ x_45.toInt ∧ x_45.toInt ≤ 5507256447) := (by omega)
          exact hret _ _ _ _ _ _ () [] hP hD hS rfl (by decide) dX12_spelled_117 hpost
      · have b_46 := z_fgtF c_37
        refine lv_lload hx hb dX12_spelled_72 (lv_at hl 0 rfl) ?_
        refine lv_ldc2 (v := 32) hx hb hown (hts _ tw_2154) dX12_spelled_74 ?_
        refine lv_lmul hx hb dX12_spelled_77 ?_
        refine lv_topl (fun x_47 he_x_47 => ?_)
        have hq_x_47 := z_mulql he_x_47 (rfl : x_36.toInt = _) hkl_32 (by omega) (by omega)
        refine lv_iload hx hb dX12_spelled_78 (lv_at hl 5 rfl) ?_
        refine lv_i2l (v := (x4).toInt64) hx hb dX12_spelled_80 rfl ?_
        refine lv_topl (fun x_48 he_x_48 => ?_)
        have hq_x_48 := z_i2l he_x_48
        refine lv_ladd hx hb dX12_spelled_81 ?_
        refine lv_topl (fun x_49 he_x_49 => ?_)
        have hq_x_49 := z_addql he_x_49 (rfl : x_47.toInt = _) (rfl : x_48.toInt = _) (by omega) (by omega)
        refine lv_ldc2 (v := 96) hx hb hown (hts _ tw_2155) dX12_spelled_82 ?_
        refine lv_lsub hx hb dX12_spelled_85 ?_
        refine lv_topl (fun x_50 he_x_50 => ?_)
        have hq_x_50 := z_subql he_x_50 (rfl : x_49.toInt = _) hkl_96 (by omega) (by omega)
        refine lv_goto (tgt := 91) hx hb dX12_spelled_86 (by decide) ?_
        refine lv_lstore (lv' := [(6, .long x_50), (0, .int x0), (1, .int x1), (2, .int x2), (3, .int x3), (4, .int x4), (5, .int x5)]) hx hb dX12_spelled_91 hl (by decide) rfl (fun ls hl => ?_)
        refine lv_iload hx hb dX12_spelled_93 (lv_at hl 6 rfl) ?_
        refine lv_if_le (tgt := 115) hx hb dX12_spelled_95 (by decide) (fun c_51 => ?_) (fun c_51 => ?_)
        · have b_52 := z_fleT c_51
          refine lv_lload hx hb dX12_spelled_115 (lv_at hl 0 rfl) ?_
          have hpost : ((-3325102143) ≤ x_50.toInt ∧ x_50.toInt ≤ 5507256447) := (by omega)
          exact hret _ _ _ _ _ _ () [] hP hD hS rfl (by decide) dX12_spelled_117 hpost
        · have b_53 := z_fgtF c_51
          refine lv_lload hx hb dX12_spelled_98 (lv_at hl 0 rfl) ?_
          refine lv_ldc2 (v := 32) hx hb hown (hts _ tw_2154) dX12_spelled_100 ?_
          refine lv_lmul hx hb dX12_spelled_103 ?_
          refine lv_topl (fun x_54 he_x_54 => ?_)
          have hq_x_54 := z_mulql he_x_54 (rfl : x_50.toInt = _) hkl_32 (by omega) (by omega)
          refine lv_iload hx hb dX12_spelled_104 (lv_at hl 6 rfl) ?_
          refine lv_i2l (v := (x5).toInt64) hx hb dX12_spelled_106 rfl ?_
          refine lv_topl (fun x_55 he_x_55 => ?_)
          have hq_x_55 := z_i2l he_x_55
          refine lv_ladd hx hb dX12_spelled_107 ?_
          refine lv_topl (fun x_56 he_x_56 => ?_)
          have hq_x_56 := z_addql he_x_56 (rfl : x_54.toInt = _) (rfl : x_55.toInt = _) (by omega) (by omega)
          refine lv_ldc2 (v := 96) hx hb hown (hts _ tw_2155) dX12_spelled_108 ?_
          refine lv_lsub hx hb dX12_spelled_111 ?_
          refine lv_topl (fun x_57 he_x_57 => ?_)
          have hq_x_57 := z_subql he_x_57 (rfl : x_56.toInt = _) hkl_96 (by omega) (by omega)
          refine lv_goto (tgt := 117) hx hb dX12_spelled_112 (by decide) ?_
          have hpost : ((-3325102143) ≤ x_57.toInt ∧ x_57.toInt ≤ 5507256447) := (by omega)
          exact hret _ _ _ _ _ _ () [] hP hD hS rfl (by decide) dX12_spelled_117 hpost
  · have b_58 := z_fgtF c_7
    refine lv_lload hx hb dX12_spelled_23 (lv_at hl 0 rfl) ?_
    refine lv_ldc2 (v := 32) hx hb hown (hts _ tw_2154) dX12_spelled_25 ?_
    refine lv_lmul hx hb dX12_spelled_28 ?_
    refine lv_topl (fun x_59 he_x_59 => ?_)
    have hq_x_59 := z_mulql he_x_59 (rfl : x_6.toInt = _) hkl_32 (by omega) (by omega)
    refine lv_iload_n hx hb dX12_spelled_29 rfl (lv_at hl 3 rfl) ?_
    refine lv_i2l (v := (x2).toInt64) hx hb dX12_spelled_30 rfl ?_
    refine lv_topl (fun x_60 he_x_60 => ?_)
    have hq_x_60 := z_i2l he_x_60
    refine lv_ladd hx hb dX12_spelled_31 ?_
    refine lv_topl (fun x_61 he_x_61 => ?_)
    have hq_x_61 := z_addql he_x_61 (rfl : x_59.toInt = _) (rfl : x_60.toInt = _) (by omega) (by omega)
    refine lv_ldc2 (v := 96) hx hb hown (hts _ tw_2155) dX12_spelled_32 ?_
    refine lv_lsub hx hb dX12_spelled_35 ?_
    refine lv_topl (fun x_62 he_x_62 => ?_)
    have hq_x_62 := z_subql he_x_62 (rfl : x_61.toInt = _) hkl_96 (by omega) (by omega)
    refine lv_goto (tgt := 41) hx hb dX12_spelled_36 (by decide) ?_
    refine lv_lstore (lv' := [(6, .long x_62), (0, .int x0), (1, .int x1), (2, .int x2), (3, .int x3), (4, .int x4), (5, .int x5)]) hx hb dX12_spelled_41 hl (by decide) rfl (fun ls hl => ?_)
    refine lv_iload_n hx hb dX12_spelled_43 rfl (lv_at hl 4 rfl) ?_
    refine lv_if_le (tgt := 63) hx hb dX12_spelled_44 (by decide) (fun c_63 => ?_) (fun c_63 => ?_)
    · have b_64 := z_fleT c_63
      refine lv_lload hx hb dX12_spelled_63 (lv_at hl 0 rfl) ?_
      refine lv_lstore (lv' := [(6, .long x_62), (0, .int x0), (1, .int x1), (2, .int x2), (3, .int x3), (4, .int x4), (5, .int x5)]) hx hb dX12_spelled_65 hl (by decide) rfl (fun ls hl => ?_)
      refine lv_iload hx hb dX12_spelled_67 (lv_at hl 5 rfl) ?_
      refine lv_if_le (tgt := 89) hx hb dX12_spelled_69 (by decide) (fun c_65 => ?_) (fun c_65 => ?_)
      · have b_66 := z_fleT c_65
        refine lv_lload hx hb dX12_spelled_89 (lv_at hl 0 rfl) ?_
        refine lv_lstore (lv' := [(6, .long x_62), (0, .int x0), (1, .int x1), (2, .int x2), (3, .int x3), (4, .int x4), (5, .int x5)]) hx hb dX12_spelled_91 hl (by decide) rfl (fun ls hl => ?_)
        refine lv_iload hx hb dX12_spelled_93 (lv_at hl 6 rfl) ?_
        refine lv_if_le (tgt := 115) hx hb dX12_spelled_95 (by decide) (fun c_67 => ?_) (fun c_67 => ?_)
        · have b_68 := z_fleT c_67
          refine lv_lload hx hb dX12_spelled_115 (lv_at hl 0 rfl) ?_
          have hpost : ((-3325102143) ≤ x_62.toInt ∧ x_62.toInt ≤ 5507256447) := (by omega)
          exact hret _ _ _ _ _ _ () [] hP hD hS rfl (by decide) dX12_spelled_117 hpost
        · have b_69 := z_fgtF c_67
          refine lv_lload hx hb dX12_spelled_98 (lv_at hl 0 rfl) ?_
          refine lv_ldc2 (v := 32) hx hb hown (hts _ tw_2154) dX12_spelled_100 ?_
          refine lv_lmul hx hb dX12_spelled_103 ?_
          refine lv_topl (fun x_70 he_x_70 => ?_)
          have hq_x_70 := z_mulql he_x_70 (rfl : x_62.toInt = _) hkl_32 (by omega) (by omega)
          refine lv_iload hx hb dX12_spelled_104 (lv_at hl 6 rfl) ?_
          refine lv_i2l (v := (x5).toInt64) hx hb dX12_spelled_106 rfl ?_
          refine lv_topl (fun x_71 he_x_71 => ?_)
          have hq_x_71 := z_i2l he_x_71
          refine lv_ladd hx hb dX12_spelled_107 ?_
          refine lv_topl (fun x_72 he_x_72 => ?_)
          have hq_x_72 := z_addql he_x_72 (rfl : x_70.toInt = _) (rfl : x_71.toInt = _) (by omega) (by omega)
          refine lv_ldc2 (v := 96) hx hb hown (hts _ tw_2155) dX12_spelled_108 ?_
          refine lv_lsub hx hb dX12_spelled_111 ?_
          refine lv_topl (fun x_73 he_x_73 => ?_)
          have hq_x_73 := z_subql he_x_73 (rfl : x_72.toInt = _) hkl_96 (by omega) (by omega)
          refine lv_goto (tgt := 117) hx hb dX12_spelled_112 (by decide) ?_
          have hpost : ((-3325102143) ≤ x_73.toInt ∧ x_73.toInt ≤ 5507256447) := (by omega)
          exact hret _ _ _ _ _ _ () [] hP hD hS rfl (by decide) dX12_spelled_117 hpost
      · have b_74 := z_fgtF c_65
        refine lv_lload hx hb dX12_spelled_72 (lv_at hl 0 rfl) ?_
        refine lv_ldc2 (v := 32) hx hb hown (hts _ tw_2154) dX12_spelled_74 ?_
        refine lv_lmul hx hb dX12_spelled_77 ?_
        refine lv_topl (fun x_75 he_x_75 => ?_)
        have hq_x_75 := z_mulql he_x_75 (rfl : x_62.toInt = _) hkl_32 (by omega) (by omega)
        refine lv_iload hx hb dX12_spelled_78 (lv_at hl 5 rfl) ?_
        refine lv_i2l (v := (x4).toInt64) hx hb dX12_spelled_80 rfl ?_
        refine lv_topl (fun x_76 he_x_76 => ?_)
        have hq_x_76 := z_i2l he_x_76
        refine lv_ladd hx hb dX12_spelled_81 ?_
        refine lv_topl (fun x_77 he_x_77 => ?_)
        have hq_x_77 := z_addql he_x_77 (rfl : x_75.toInt = _) (rfl : x_76.toInt = _) (by omega) (by omega)
        refine lv_ldc2 (v := 96) hx hb hown (hts _ tw_2155) dX12_spelled_82 ?_
        refine lv_lsub hx hb dX12_spelled_85 ?_
        refine lv_topl (fun x_78 he_x_78 => ?_)
        have hq_x_78 := z_subql he_x_78 (rfl : x_77.toInt = _) hkl_96 (by omega) (by omega)
        refine lv_goto (tgt := 91) hx hb dX12_spelled_86 (by decide) ?_
        refine lv_lstore (lv' := [(6, .long x_78), (0, .int x0), (1, .int x1), (2, .int x2), (3, .int x3), (4, .int x4), (5, .int x5)]) hx hb dX12_spelled_91 hl (by decide) rfl (fun ls hl => ?_)
        refine lv_iload hx hb dX12_spelled_93 (lv_at hl 6 rfl) ?_
        refine lv_if_le (tgt := 115) hx hb dX12_spelled_95 (by decide) (fun c_79 => ?_) (fun c_79 => ?_)
        · have b_80 := z_fleT c_79
          refine lv_lload hx hb dX12_spelled_115 (lv_at hl 0 rfl) ?_
          have hpost : ((-3325102143) ≤ x_78.toInt ∧ x_78.toInt ≤ 5507256447) := (by omega)
          exact hret _ _ _ _ _ _ () [] hP hD hS rfl (by decide) dX12_spelled_117 hpost
        · have b_81 := z_fgtF c_79
          refine lv_lload hx hb dX12_spelled_98 (lv_at hl 0 rfl) ?_
          refine lv_ldc2 (v := 32) hx hb hown (hts _ tw_2154) dX12_spelled_100 ?_
          refine lv_lmul hx hb dX12_spelled_103 ?_
          refine lv_topl (fun x_82 he_x_82 => ?_)
          have hq_x_82 := z_mulql he_x_82 (rfl : x_78.toInt = _) hkl_32 (by omega) (by omega)
          refine lv_iload hx hb dX12_spelled_104 (lv_at hl 6 rfl) ?_
          refine lv_i2l (v := (x5).toInt64) hx hb dX12_spelled_106 rfl ?_
          refine lv_topl (fun x_83 he_x_83 => ?_)
          have hq_x_83 := z_i2l he_x_83
          refine lv_ladd hx hb dX12_spelled_107 ?_
          refine lv_topl (fun x_84 he_x_84 => ?_)
          have hq_x_84 := z_addql he_x_84 (rfl : x_82.toInt = _) (rfl : x_83.toInt = _) (by omega) (by omega)
          refine lv_ldc2 (v := 96) hx hb hown (hts _ tw_2155) dX12_spelled_108 ?_
          refine lv_lsub hx hb dX12_spelled_111 ?_
          refine lv_topl (fun x_85 he_x_85 => ?_)
          have hq_x_85 := z_subql he_x_85 (rfl : x_84.toInt = _) hkl_96 (by omega) (by omega)
          refine lv_goto (tgt := 117) hx hb dX12_spelled_112 (by decide) ?_
          have hpost : ((-3325102143) ≤ x_85.toInt ∧ x_85.toInt ≤ 5507256447) := (by omega)
          exact hret _ _ _ _ _ _ () [] hP hD hS rfl (by decide) dX12_spelled_117 hpost
    · have b_86 := z_fgtF c_63
      refine lv_lload hx hb dX12_spelled_47 (lv_at hl 0 rfl) ?_
      refine lv_ldc2 (v := 32) hx hb hown (hts _ tw_2154) dX12_spelled_49 ?_
      refine lv_lmul hx hb dX12_spelled_52 ?_
      refine lv_topl (fun x_87 he_x_87 => ?_)
      have hq_x_87 := z_mulql he_x_87 (rfl : x_62.toInt = _) hkl_32 (by omega) (by omega)
      refine lv_iload_n hx hb dX12_spelled_53 rfl (lv_at hl 4 rfl) ?_
      refine lv_i2l (v := (x3).toInt64) hx hb dX12_spelled_54 rfl ?_
      refine lv_topl (fun x_88 he_x_88 => ?_)
      have hq_x_88 := z_i2l he_x_88
      refine lv_ladd hx hb dX12_spelled_55 ?_
      refine lv_topl (fun x_89 he_x_89 => ?_)
      have hq_x_89 := z_addql he_x_89 (rfl : x_87.toInt = _) (rfl : x_88.toInt = _) (by omega) (by omega)
      refine lv_ldc2 (v := 96) hx hb hown (hts _ tw_2155) dX12_spelled_56 ?_
      refine lv_lsub hx hb dX12_spelled_59 ?_
      refine lv_topl (fun x_90 he_x_90 => ?_)
      have hq_x_90 := z_subql he_x_90 (rfl : x_89.toInt = _) hkl_96 (by omega) (by omega)
      refine lv_goto (tgt := 65) hx hb dX12_spelled_60 (by decide) ?_
      refine lv_lstore (lv' := [(6, .long x_90), (0, .int x0), (1, .int x1), (2, .int x2), (3, .int x3), (4, .int x4), (5, .int x5)]) hx hb dX12_spelled_65 hl (by decide) rfl (fun ls hl => ?_)
      refine lv_iload hx hb dX12_spelled_67 (lv_at hl 5 rfl) ?_
      refine lv_if_le (tgt := 89) hx hb dX12_spelled_69 (by decide) (fun c_91 => ?_) (fun c_91 => ?_)
      · have b_92 := z_fleT c_91
        refine lv_lload hx hb dX12_spelled_89 (lv_at hl 0 rfl) ?_
        refine lv_lstore (lv' := [(6, .long x_90), (0, .int x0), (1, .int x1), (2, .int x2), (3, .int x3), (4, .int x4), (5, .int x5)]) hx hb dX12_spelled_91 hl (by decide) rfl (fun ls hl => ?_)
        refine lv_iload hx hb dX12_spelled_93 (lv_at hl 6 rfl) ?_
        refine lv_if_le (tgt := 115) hx hb dX12_spelled_95 (by decide) (fun c_93 => ?_) (fun c_93 => ?_)
        · have b_94 := z_fleT c_93
          refine lv_lload hx hb dX12_spelled_115 (lv_at hl 0 rfl) ?_
          have hpost : ((-3325102143) ≤ x_90.toInt ∧ x_90.toInt ≤ 5507256447) := (by omega)
          exact hret _ _ _ _ _ _ () [] hP hD hS rfl (by decide) dX12_spelled_117 hpost
        · have b_95 := z_fgtF c_93
          refine lv_lload hx hb dX12_spelled_98 (lv_at hl 0 rfl) ?_
          refine lv_ldc2 (v := 32) hx hb hown (hts _ tw_2154) dX12_spelled_100 ?_
          refine lv_lmul hx hb dX12_spelled_103 ?_
          refine lv_topl (fun x_96 he_x_96 => ?_)
          have hq_x_96 := z_mulql he_x_96 (rfl : x_90.toInt = _) hkl_32 (by omega) (by omega)
          refine lv_iload hx hb dX12_spelled_104 (lv_at hl 6 rfl) ?_
          refine lv_i2l (v := (x5).toInt64) hx hb dX12_spelled_106 rfl ?_
          refine lv_topl (fun x_97 he_x_97 => ?_)
          have hq_x_97 := z_i2l he_x_97
          refine lv_ladd hx hb dX12_spelled_107 ?_
          refine lv_topl (fun x_98 he_x_98 => ?_)
          have hq_x_98 := z_addql he_x_98 (rfl : x_96.toInt = _) (rfl : x_97.toInt = _) (by omega) (by omega)
          refine lv_ldc2 (v := 96) hx hb hown (hts _ tw_2155) dX12_spelled_108 ?_
          refine lv_lsub hx hb dX12_spelled_111 ?_
          refine lv_topl (fun x_99 he_x_99 => ?_)
          have hq_x_99 := z_subql he_x_99 (rfl : x_98.toInt = _) hkl_96 (by omega) (by omega)
          refine lv_goto (tgt := 117) hx hb dX12_spelled_112 (by decide) ?_
          have hpost : ((-3325102143) ≤ x_99.toInt ∧ x_99.toInt ≤ 5507256447) := (by omega)
          exact hret _ _ _ _ _ _ () [] hP hD hS rfl (by decide) dX12_spelled_117 hpost
      · have b_100 := z_fgtF c_91
        refine lv_lload hx hb dX12_spelled_72 (lv_at hl 0 rfl) ?_
        refine lv_ldc2 (v := 32) hx hb hown (hts _ tw_2154) dX12_spelled_74 ?_
        refine lv_lmul hx hb dX12_spelled_77 ?_
        refine lv_topl (fun x_101 he_x_101 => ?_)
        have hq_x_101 := z_mulql he_x_101 (rfl : x_90.toInt = _) hkl_32 (by omega) (by omega)
        refine lv_iload hx hb dX12_spelled_78 (lv_at hl 5 rfl) ?_
        refine lv_i2l (v := (x4).toInt64) hx hb dX12_spelled_80 rfl ?_
        refine lv_topl (fun x_102 he_x_102 => ?_)
        have hq_x_102 := z_i2l he_x_102
        refine lv_ladd hx hb dX12_spelled_81 ?_
        refine lv_topl (fun x_103 he_x_103 => ?_)
        have hq_x_103 := z_addql he_x_103 (rfl : x_101.toInt = _) (rfl : x_102.toInt = _) (by omega) (by omega)
        refine lv_ldc2 (v := 96) hx hb hown (hts _ tw_2155) dX12_spelled_82 ?_
        refine lv_lsub hx hb dX12_spelled_85 ?_
        refine lv_topl (fun x_104 he_x_104 => ?_)
        have hq_x_104 := z_subql he_x_104 (rfl : x_103.toInt = _) hkl_96 (by omega) (by omega)
        refine lv_goto (tgt := 91) hx hb dX12_spelled_86 (by decide) ?_
        refine lv_lstore (lv' := [(6, .long x_104), (0, .int x0), (1, .int x1), (2, .int x2), (3, .int x3), (4, .int x4), (5, .int x5)]) hx hb dX12_spelled_91 hl (by decide) rfl (fun ls hl => ?_)
        refine lv_iload hx hb dX12_spelled_93 (lv_at hl 6 rfl) ?_
        refine lv_if_le (tgt := 115) hx hb dX12_spelled_95 (by decide) (fun c_105 => ?_) (fun c_105 => ?_)
        · have b_106 := z_fleT c_105
          refine lv_lload hx hb dX12_spelled_115 (lv_at hl 0 rfl) ?_
          have hpost : ((-3325102143) ≤ x_104.toInt ∧ x_104.toInt ≤ 5507256447) := (by omega)
          exact hret _ _ _ _ _ _ () [] hP hD hS rfl (by decide) dX12_spelled_117 hpost
        · have b_107 := z_fgtF c_105
          refine lv_lload hx hb dX12_spelled_98 (lv_at hl 0 rfl) ?_
          refine lv_ldc2 (v := 32) hx hb hown (hts _ tw_2154) dX12_spelled_100 ?_
          refine lv_lmul hx hb dX12_spelled_103 ?_
          refine lv_topl (fun x_108 he_x_108 => ?_)
          have hq_x_108 := z_mulql he_x_108 (rfl : x_104.toInt = _) hkl_32 (by omega) (by omega)
          refine lv_iload hx hb dX12_spelled_104 (lv_at hl 6 rfl) ?_
          refine lv_i2l (v := (x5).toInt64) hx hb dX12_spelled_106 rfl ?_
          refine lv_topl (fun x_109 he_x_109 => ?_)
          have hq_x_109 := z_i2l he_x_109
          refine lv_ladd hx hb dX12_spelled_107 ?_
          refine lv_topl (fun x_110 he_x_110 => ?_)
          have hq_x_110 := z_addql he_x_110 (rfl : x_108.toInt = _) (rfl : x_109.toInt = _) (by omega) (by omega)
          refine lv_ldc2 (v := 96) hx hb hown (hts _ tw_2155) dX12_spelled_108 ?_
          refine lv_lsub hx hb dX12_spelled_111 ?_
          refine lv_topl (fun x_111 he_x_111 => ?_)
          have hq_x_111 := z_subql he_x_111 (rfl : x_110.toInt = _) hkl_96 (by omega) (by omega)
          refine lv_goto (tgt := 117) hx hb dX12_spelled_112 (by decide) ?_
          have hpost : ((-3325102143) ≤ x_111.toInt ∧ x_111.toInt ≤ 5507256447) := (by omega)
          exact hret _ _ _ _ _ _ () [] hP hD hS rfl (by decide) dX12_spelled_117 hpost
set_option maxHeartbeats 4000000 in
set_option maxRecDepth 100000 in
theorem r_power (l : Launch) (G : va_G) (cA : zCA) (nn : Int32) (hr_nn : 0 ≤ nn.toInt ∧ nn.toInt ≤ 4) : zCl l yX12_power cX12_power 4 (some .long) ({ frames := 0, cells := 0, slots := 0, locals := 0 }) G cA [.int nn] [] (S := Unit) (fun (r : Int64) (u : Unit) => True) (fun (u : Unit) => []) 0 0 := by
  have hk_0 : (0 : Int32).toInt = 0 := by decide +kernel
  have hk_1 : (1 : Int32).toInt = 1 := by decide +kernel
  have hkl_16 : (16 : Int64).toInt = 16 := by decide +kernel
  refine z_start2l (own := RX12) (by decide) (Nat.le_of_ble_eq_true rfl) rfl ?_
  intro p e s m args below meth c A ls Q hx hb hml hts hown hK hE hT hP hD hS hA hl hret
  have hl : lv_has ls 4 [(0, .int nn)] := hl
  refine lv_lconst (v := 1) hx hb dX12_power_0 (by decide) ?_
  refine lv_lstore_n (lv' := [(1, .long 1), (0, .int nn)]) hx hb dX12_power_1 rfl hl (by decide) rfl (fun ls hl => ?_)
  refine lv_iconst (v := 0) hx hb dX12_power_2 (by decide) ?_
  refine lv_istore_n (lv' := [(3, .int 0), (1, .long 1), (0, .int nn)]) hx hb dX12_power_3 rfl hl (by decide) rfl (fun ls hl => ?_)
  have hlp_60 : ∀ (n : Nat) (v_53 : Int64) (v_54 : Int32) (H : Heap) (locs : List Loc) (ls : Array Slot), (2147483647 - v_54.toInt).toNat < n → (0 ≤ v_54.toInt ∧ v_54.toInt ≤ 4) → va_P G vwCl [] H → va_D A [] → va_S A s.heap H locs → lv_has ls 4 [(0, .int nn), (1, .long v_53), (3, .int v_54)] → W p l e ({ frames := 0, cells := 0, slots := 0, locals := 0 }) s m args below meth c H locs 0 0 Q (F0 m 4 ls []) := by
    intro n
    induction n with
    | zero =>
      intro v_53 v_54 H locs ls hmu_hlp_60 hr_v_54 hP hD hS hl
      exact absurd hmu_hlp_60 (Nat.not_lt_zero _)
    | succ n ih_61 =>
      intro v_53 v_54 H locs ls hmu_hlp_60 hr_v_54 hP hD hS hl
      refine lv_iload_n hx hb dX12_power_4 rfl (lv_at hl 2 rfl) ?_
      refine lv_iload_n hx hb dX12_power_5 rfl (lv_at hl 0 rfl) ?_
      refine lv_icmp_ge (tgt := 21) hx hb dX12_power_6 (by decide) (fun c_62 => ?_) (fun c_62 => ?_)
      · have b_63 := z_fgeT c_62
        refine lv_lload_n hx hb dX12_power_21 rfl (lv_at hl 1 rfl) ?_
        exact hret _ _ _ _ _ _ () [] hP hD hS rfl (by decide) dX12_power_22 trivial
      · have b_64 := z_fltF c_62
        refine lv_lload_n hx hb dX12_power_9 rfl (lv_at hl 1 rfl) ?_
        refine lv_ldc2 (v := 16) hx hb hown (hts _ tw_2470) dX12_power_10 ?_
        refine lv_lmul hx hb dX12_power_13 ?_
        have hL_v_53 := z_fulll v_53
        refine lv_topl (fun x_65 he_x_65 => ?_)
        refine lv_lstore_n (lv' := [(1, .long x_65), (0, .int nn), (3, .int v_54)]) hx hb dX12_power_14 rfl hl (by decide) rfl (fun ls hl => ?_)
        obtain ⟨x_66, he_x_66⟩ : ∃ z : Int32, z = v_54 + 1 := ⟨_, rfl⟩
        have hq_x_66 := z_addq he_x_66 (rfl : v_54.toInt = _) hk_1 (by omega) (by omega)
        refine lv_iinc (v := x_66) (lv' := [(3, .int x_66), (1, .long x_65), (0, .int nn)]) hx hb dX12_power_15 hl (k := 2) rfl ((z_ofi (by decide +kernel)).trans he_x_66.symm) (by decide) rfl (fun ls hl => ?_)
        refine lv_goto (tgt := 4) hx hb dX12_power_18 (by decide) ?_
        exact ih_61 x_65 x_66 H locs ls (by omega) (by omega) hP hD hS (lv_sub hl [2, 1, 0] rfl)
  exact hlp_60 _ 1 0 _ _ _ (Nat.lt_succ_self _) (by decide +kernel) hP hD hS (lv_sub hl [2, 1, 0] rfl)
set_option maxHeartbeats 4000000 in
set_option maxRecDepth 100000 in
theorem r_bits (l : Launch) (G : va_G) (cA : zCA) (x : Int32) : zCi l yX12_bits cX12_bits 1 (some .int) ({ frames := 0, cells := 0, slots := 0, locals := 0 }) G cA [.int x] [] (S := Unit) (fun (r : Int32) (u : Unit) => (0 ≤ r.toInt ∧ r.toInt ≤ 3)) (fun (u : Unit) => []) 0 0 := by
  have hk_1 : (1 : Int32).toInt = 1 := by decide +kernel
  refine z_start2i (own := RX12) (by decide) (Nat.le_of_ble_eq_true rfl) rfl ?_
  intro p e s m args below meth c A ls Q hx hb hml hts hown hK hE hT hP hD hS hA hl hret
  have hl : lv_has ls 1 [(0, .int x)] := hl
  refine lv_iload_n hx hb dX12_bits_0 rfl (lv_at hl 0 rfl) ?_
  refine lv_iconst (v := 1) hx hb dX12_bits_1 (by decide) ?_
  refine lv_iand hx hb dX12_bits_2 ?_
  have hL_x := z_full x
  refine lv_topi (fun x_1 he_x_1 => ?_)
  have hr_x_1 := z_andr he_x_1 hk_1 (by decide)
  refine lv_iload_n hx hb dX12_bits_3 rfl (lv_at hl 0 rfl) ?_
  refine lv_iconst (v := 1) hx hb dX12_bits_4 (by decide) ?_
  refine lv_ishr hx hb dX12_bits_5 ?_
  refine lv_topi (fun x_2 he_x_2 => ?_)
  refine lv_iconst (v := 1) hx hb dX12_bits_6 (by decide) ?_
  refine lv_iand hx hb dX12_bits_7 ?_
  have hL_x_2 := z_full x_2
  refine lv_topi (fun x_3 he_x_3 => ?_)
  have hr_x_3 := z_andr he_x_3 hk_1 (by decide)
  refine lv_iadd hx hb dX12_bits_8 ?_
  refine lv_topi (fun x_4 he_x_4 => ?_)
  have hq_x_4 := z_addq he_x_4 (rfl : x_1.toInt = _) (rfl : x_3.toInt = _) (by omega) (by omega)
  refine lv_iload_n hx hb dX12_bits_9 rfl (lv_at hl 0 rfl) ?_
  refine lv_iconst (v := 2) hx hb dX12_bits_10 (by decide) ?_
  refine lv_ishr hx hb dX12_bits_11 ?_
  refine lv_topi (fun x_5 he_x_5 => ?_)
  refine lv_iconst (v := 1) hx hb dX12_bits_12 (by decide) ?_
  refine lv_iand hx hb dX12_bits_13 ?_
  have hL_x_5 := z_full x_5
  refine lv_topi (fun x_6 he_x_6 => ?_)
  have hr_x_6 := z_andr he_x_6 hk_1 (by decide)
  refine lv_iadd hx hb dX12_bits_14 ?_
  refine lv_topi (fun x_7 he_x_7 => ?_)
  have hq_x_7 := z_addq he_x_7 (rfl : x_4.toInt = _) (rfl : x_6.toInt = _) (by omega) (by omega)
  have hpost : (0 ≤ x_7.toInt ∧ x_7.toInt ≤ 3) := (by omega)
  exact hret _ _ _ _ _ _ () [] hP hD hS rfl (by decide) dX12_bits_15 hpost
set_option maxHeartbeats 4000000 in
set_option maxRecDepth 100000 in
theorem r_look2 (l : Launch) (G : va_G) (cA : zCA) (h0 : Nat) (m_status : Int32) (m_thrown : Int32) (m_above : Int64) (m_under : Int64) (a_traySort : Nat) (a_trayMany : Nat) (a_numbers : Nat) (a_tape : Nat) (m_taped : Int32) (m_textEnd : Int32) (m_faultKind : Int32) (m_faultAt : Int32) (m_bad : Int32) (m_badAt : Int32) (m_token : Int32) (m_at : Int32) (m_behind : Int32) (m_number : Int32) (m_letters : Int32) (m_word : Int64) (a_c : Nat) (a_words : Nat) (m_markMany : Int32) (a_there : Nat) (a_tried : Nat) (a_best : Nat) (a_found : Nat) (m_thereMany : Int32) (m_foundMany : Int32) (m_orderHow : Int32) (m_orderRing : Int32) (m_orderMany : Int32) (m_hasBest : Int32) (m_bestTop : Int64) (m_bestBy : Int64) (a_weights : Nat) (a_shared : Nat) (m_random : Int32) (m_truePlace : Int32) (m_trueWay : Int32) (m_seconds : Int32) (m_done : Int32) (m_feelings : Int32) (m_tries : Int32) (m_leftOver : Int32) (m_playDoor : Int32) (m_playRing : Int32) (m_isOpen : Int32) (m_isOver : Int32) (m_wasTried : Int32) (m_hasPlayed : Int32) (a_feltNow : Nat) (a_last : Nat) (a_kept : Nat) (m_hasSeconds : Int32) (m_hasTurned : Int32) (m_hasRound : Int32) (a_hasFeels : Nat) (a_isOn : Nat) (m_firstAct : Int32) (m_meanTop : Int64) (m_meanBy : Int64) (a_order : Nat) (m_rowMany : Int32) (m_newSteps : Int32) (g_tape : Nat → Int32) (pp : Int32) (hr_pp : 0 ≤ pp.toInt ∧ pp.toInt ≤ 900) (hr_m_textEnd : 0 ≤ m_textEnd.toInt ∧ m_textEnd.toInt ≤ 900) : zCi l yX12_look2 cX12_look2 2 (some .int) ({ frames := 0, cells := 0, slots := 0, locals := 0 }) G cA [.ref h0, .int pp] [(h0, .inr (12, [.int m_status, .int m_thrown, .long m_above, .long m_under, .ref a_traySort, .ref a_trayMany, .ref a_numbers, .ref a_tape, .int m_taped, .int m_textEnd, .int m_faultKind, .int m_faultAt, .int m_bad, .int m_badAt, .int m_token, .int m_at, .int m_behind, .int m_number, .int m_letters, .long m_word, .ref a_c, .ref a_words, .int m_markMany, .ref a_there, .ref a_tried, .ref a_best, .ref a_found, .int m_thereMany, .int m_foundMany, .int m_orderHow, .int m_orderRing, .int m_orderMany, .int m_hasBest, .long m_bestTop, .long m_bestBy, .ref a_weights, .ref a_shared, .int m_random, .int m_truePlace, .int m_trueWay, .int m_seconds, .int m_done, .int m_feelings, .int m_tries, .int m_leftOver, .int m_playDoor, .int m_playRing, .int m_isOpen, .int m_isOver, .int m_wasTried, .int m_hasPlayed, .ref a_feltNow, .ref a_last, .ref a_kept, .int m_hasSeconds, .int m_hasTurned, .int m_hasRound, .ref a_hasFeels, .ref a_isOn, .int m_firstAct, .long m_meanTop, .long m_meanBy, .ref a_order, .int m_rowMany, .int m_newSteps])), (a_tape, .inl (cA.1 2, 900, .inl g_tape))] (S := Unit) (fun (r : Int32) (u : Unit) => (0 ≤ r.toInt ∧ r.toInt ≤ 255) ∧ (r.toInt = 0 ∨ pp.toInt < m_textEnd.toInt) ∧ (r.toInt = zlk g_tape m_textEnd.toInt pp.toInt)) (fun (u : Unit) => [(h0, .inr (12, [.int m_status, .int m_thrown, .long m_above, .long m_under, .ref a_traySort, .ref a_trayMany, .ref a_numbers, .ref a_tape, .int m_taped, .int m_textEnd, .int m_faultKind, .int m_faultAt, .int m_bad, .int m_badAt, .int m_token, .int m_at, .int m_behind, .int m_number, .int m_letters, .long m_word, .ref a_c, .ref a_words, .int m_markMany, .ref a_there, .ref a_tried, .ref a_best, .ref a_found, .int m_thereMany, .int m_foundMany, .int m_orderHow, .int m_orderRing, .int m_orderMany, .int m_hasBest, .long m_bestTop, .long m_bestBy, .ref a_weights, .ref a_shared, .int m_random, .int m_truePlace, .int m_trueWay, .int m_seconds, .int m_done, .int m_feelings, .int m_tries, .int m_leftOver, .int m_playDoor, .int m_playRing, .int m_isOpen, .int m_isOver, .int m_wasTried, .int m_hasPlayed, .ref a_feltNow, .ref a_last, .ref a_kept, .int m_hasSeconds, .int m_hasTurned, .int m_hasRound, .ref a_hasFeels, .ref a_isOn, .int m_firstAct, .long m_meanTop, .long m_meanBy, .ref a_order, .int m_rowMany, .int m_newSteps])), (a_tape, .inl (cA.1 2, 900, .inl g_tape))]) 0 0 := by
  have hk_0 : (0 : Int32).toInt = 0 := by decide +kernel
  have hk_255 : (255 : Int32).toInt = 255 := by decide +kernel
  refine z_start2i (own := RX12) (by decide) (Nat.le_of_ble_eq_true rfl) rfl ?_
  intro p e s m args below meth c A ls Q hx hb hml hts hown hK hE hT hP hD hS hA hl hret
  have hl : lv_has ls 2 [(0, .ref h0), (1, .int pp)] := hl
  refine lv_iload_n hx hb dX12_look2_0 rfl (lv_at hl 1 rfl) ?_
  refine lv_aload_n hx hb dX12_look2_1 rfl (lv_at hl 0 rfl) ?_
  refine va_get (D := G) (ci := 12) (v := .int m_textEnd) (C := RX12) (T := TX12) (N := 65) hx hb hts inT12 hown hK hP 0 rfl rfl 9 (by decide) (hts _ tw_1894) (fun _ h9 => h9) rfl dX12_look2_2 ?_
  refine lv_icmp_ge (tgt := 21) hx hb dX12_look2_5 (by decide) (fun c_1 => ?_) (fun c_1 => ?_)
  · have b_2 := z_fgeT c_1
    refine lv_iconst (v := 0) hx hb dX12_look2_21 (by decide) ?_
    have hpost : (0 ≤ (0 : Int32).toInt ∧ (0 : Int32).toInt ≤ 255) ∧ ((0 : Int32).toInt = 0 ∨ pp.toInt < m_textEnd.toInt) ∧ ((0 : Int32).toInt = zlk g_tape m_textEnd.toInt pp.toInt) := ⟨(by decide +kernel), (by omega), (z_lk0 (by omega))⟩
    exact hret _ _ _ _ _ _ () [0, 1] hP hD hS rfl (by decide) dX12_look2_22 hpost
  · have b_3 := z_fltF c_1
    refine lv_aload_n hx hb dX12_look2_8 rfl (lv_at hl 0 rfl) ?_
    refine va_get (D := G) (ci := 12) (v := .ref a_tape) (C := RX12) (T := TX12) (N := 65) hx hb hts inT12 hown hK hP 0 rfl rfl 7 (by decide) (hts _ tw_1892) (fun _ h9 => h9) rfl dX12_look2_9 ?_
    refine lv_iload_n hx hb dX12_look2_12 rfl (lv_at hl 1 rfl) ?_
    refine va_bald hx hb hK hP 1 2 rfl rfl (z_inN (by omega) (by omega)) dX12_look2_13 ?_
    refine lv_topi (fun x_4 he_x_4 => ?_)
    refine lv_sipush (v := 255) hx hb dX12_look2_14 (by decide) ?_
    refine lv_iand hx hb dX12_look2_17 ?_
    have hL_x_4 := z_full x_4
    refine lv_topi (fun x_5 he_x_5 => ?_)
    have hr_x_5 := z_andr he_x_5 hk_255 (by decide)
    refine lv_goto (tgt := 22) hx hb dX12_look2_18 (by decide) ?_
    have hpost : (0 ≤ x_5.toInt ∧ x_5.toInt ≤ 255) ∧ (x_5.toInt = 0 ∨ pp.toInt < m_textEnd.toInt) ∧ (x_5.toInt = zlk g_tape m_textEnd.toInt pp.toInt) := ⟨(by omega), (by omega), (z_lk1 he_x_5 he_x_4 (by omega) (by omega))⟩
    exact hret _ _ _ _ _ _ () [0, 1] hP hD hS rfl (by decide) dX12_look2_22 hpost
set_option maxHeartbeats 4000000 in
set_option maxRecDepth 100000 in
theorem r_isWord (l : Launch) (G : va_G) (cA : zCA) (h0 : Nat) (m_status : Int32) (m_thrown : Int32) (m_above : Int64) (m_under : Int64) (a_traySort : Nat) (a_trayMany : Nat) (a_numbers : Nat) (a_tape : Nat) (m_taped : Int32) (m_textEnd : Int32) (m_faultKind : Int32) (m_faultAt : Int32) (m_bad : Int32) (m_badAt : Int32) (m_token : Int32) (m_at : Int32) (m_behind : Int32) (m_number : Int32) (m_letters : Int32) (m_word : Int64) (a_c : Nat) (a_words : Nat) (m_markMany : Int32) (a_there : Nat) (a_tried : Nat) (a_best : Nat) (a_found : Nat) (m_thereMany : Int32) (m_foundMany : Int32) (m_orderHow : Int32) (m_orderRing : Int32) (m_orderMany : Int32) (m_hasBest : Int32) (m_bestTop : Int64) (m_bestBy : Int64) (a_weights : Nat) (a_shared : Nat) (m_random : Int32) (m_truePlace : Int32) (m_trueWay : Int32) (m_seconds : Int32) (m_done : Int32) (m_feelings : Int32) (m_tries : Int32) (m_leftOver : Int32) (m_playDoor : Int32) (m_playRing : Int32) (m_isOpen : Int32) (m_isOver : Int32) (m_wasTried : Int32) (m_hasPlayed : Int32) (a_feltNow : Nat) (a_last : Nat) (a_kept : Nat) (m_hasSeconds : Int32) (m_hasTurned : Int32) (m_hasRound : Int32) (a_hasFeels : Nat) (a_isOn : Nat) (m_firstAct : Int32) (m_meanTop : Int64) (m_meanBy : Int64) (a_order : Nat) (m_rowMany : Int32) (m_newSteps : Int32) (w : Int64) (hr_m_token : 0 ≤ m_token.toInt ∧ m_token.toInt ≤ 4) : zCi l yX12_isWord cX12_isWord 3 (some .boolean) ({ frames := 0, cells := 0, slots := 0, locals := 0 }) G cA [.ref h0, .long w] [(h0, .inr (12, [.int m_status, .int m_thrown, .long m_above, .long m_under, .ref a_traySort, .ref a_trayMany, .ref a_numbers, .ref a_tape, .int m_taped, .int m_textEnd, .int m_faultKind, .int m_faultAt, .int m_bad, .int m_badAt, .int m_token, .int m_at, .int m_behind, .int m_number, .int m_letters, .long m_word, .ref a_c, .ref a_words, .int m_markMany, .ref a_there, .ref a_tried, .ref a_best, .ref a_found, .int m_thereMany, .int m_foundMany, .int m_orderHow, .int m_orderRing, .int m_orderMany, .int m_hasBest, .long m_bestTop, .long m_bestBy, .ref a_weights, .ref a_shared, .int m_random, .int m_truePlace, .int m_trueWay, .int m_seconds, .int m_done, .int m_feelings, .int m_tries, .int m_leftOver, .int m_playDoor, .int m_playRing, .int m_isOpen, .int m_isOver, .int m_wasTried, .int m_hasPlayed, .ref a_feltNow, .ref a_last, .ref a_kept, .int m_hasSeconds, .int m_hasTurned, .int m_hasRound, .ref a_hasFeels, .ref a_isOn, .int m_firstAct, .long m_meanTop, .long m_meanBy, .ref a_order, .int m_rowMany, .int m_newSteps]))] (S := Unit) (fun (r : Int32) (u : Unit) => (r = 0 ∧ True) ∨ (r = 1 ∧ (m_token.toInt = 1))) (fun (u : Unit) => [(h0, .inr (12, [.int m_status, .int m_thrown, .long m_above, .long m_under, .ref a_traySort, .ref a_trayMany, .ref a_numbers, .ref a_tape, .int m_taped, .int m_textEnd, .int m_faultKind, .int m_faultAt, .int m_bad, .int m_badAt, .int m_token, .int m_at, .int m_behind, .int m_number, .int m_letters, .long m_word, .ref a_c, .ref a_words, .int m_markMany, .ref a_there, .ref a_tried, .ref a_best, .ref a_found, .int m_thereMany, .int m_foundMany, .int m_orderHow, .int m_orderRing, .int m_orderMany, .int m_hasBest, .long m_bestTop, .long m_bestBy, .ref a_weights, .ref a_shared, .int m_random, .int m_truePlace, .int m_trueWay, .int m_seconds, .int m_done, .int m_feelings, .int m_tries, .int m_leftOver, .int m_playDoor, .int m_playRing, .int m_isOpen, .int m_isOver, .int m_wasTried, .int m_hasPlayed, .ref a_feltNow, .ref a_last, .ref a_kept, .int m_hasSeconds, .int m_hasTurned, .int m_hasRound, .ref a_hasFeels, .ref a_isOn, .int m_firstAct, .long m_meanTop, .long m_meanBy, .ref a_order, .int m_rowMany, .int m_newSteps]))]) 0 0 := by
  have hk_1 : (1 : Int32).toInt = 1 := by decide +kernel
  refine z_start2z (own := RX12) (by decide) (Nat.le_of_ble_eq_true rfl) rfl ?_
  intro p e s m args below meth c A ls Q hx hb hml hts hown hK hE hT hP hD hS hA hl hret
  have hl : lv_has ls 3 [(0, .ref h0), (1, .long w)] := hl
  refine lv_aload_n hx hb dX12_isWord_0 rfl (lv_at hl 0 rfl) ?_
  refine va_get (D := G) (ci := 12) (v := .int m_token) (C := RX12) (T := TX12) (N := 65) hx hb hts inT12 hown hK hP 0 rfl rfl 14 (by decide) (hts _ tw_1899) (fun _ h9 => h9) rfl dX12_isWord_1 ?_
  refine lv_iconst (v := 1) hx hb dX12_isWord_4 (by decide) ?_
  refine lv_icmp_ne (tgt := 21) hx hb dX12_isWord_5 (by decide) (fun c_1 => ?_) (fun c_1 => ?_)
  · have b_2 := z_fneT c_1
    refine lv_iconst (v := 0) hx hb dX12_isWord_21 (by decide) ?_
    have hpost : ((0 : Int32) = 0 ∧ True) ∨ ((0 : Int32) = 1 ∧ (m_token.toInt = 1)) := (Or.inl ⟨rfl, trivial⟩)
    exact hret _ _ _ _ _ _ () [0] hP hD hS rfl (by decide) dX12_isWord_22 (Or.inl rfl) hpost
  · have b_3 := z_feqF c_1
    refine lv_aload_n hx hb dX12_isWord_8 rfl (lv_at hl 0 rfl) ?_
    refine va_get (D := G) (ci := 12) (v := .long m_word) (C := RX12) (T := TX12) (N := 65) hx hb hts inT12 hown hK hP 0 rfl rfl 19 (by decide) (hts _ tw_1904) (fun _ h9 => h9) rfl dX12_isWord_9 ?_
    refine lv_lload_n hx hb dX12_isWord_12 rfl (lv_at hl 1 rfl) ?_
    refine W.lcmp hx hb dX12_isWord_13 ?_
    refine lv_if_ne (tgt := 21) hx hb dX12_isWord_14 (by decide) (fun c_4 => ?_) (fun c_4 => ?_)
    · have b_5 := z_fneTl c_4
      refine lv_iconst (v := 0) hx hb dX12_isWord_21 (by decide) ?_
      have hpost : ((0 : Int32) = 0 ∧ True) ∨ ((0 : Int32) = 1 ∧ (m_token.toInt = 1)) := (Or.inl ⟨rfl, trivial⟩)
      exact hret _ _ _ _ _ _ () [0] hP hD hS rfl (by decide) dX12_isWord_22 (Or.inl rfl) hpost
    · have b_6 := z_feqFl c_4
      refine lv_iconst (v := 1) hx hb dX12_isWord_17 (by decide) ?_
      refine lv_goto (tgt := 22) hx hb dX12_isWord_18 (by decide) ?_
      have hpost : ((1 : Int32) = 0 ∧ True) ∨ ((1 : Int32) = 1 ∧ (m_token.toInt = 1)) := (Or.inr ⟨rfl, (by omega)⟩)
      exact hret _ _ _ _ _ _ () [0] hP hD hS rfl (by decide) dX12_isWord_22 (Or.inr rfl) hpost
set_option maxHeartbeats 4000000 in
set_option maxRecDepth 100000 in
theorem r_isSign (l : Launch) (G : va_G) (cA : zCA) (h0 : Nat) (m_status : Int32) (m_thrown : Int32) (m_above : Int64) (m_under : Int64) (a_traySort : Nat) (a_trayMany : Nat) (a_numbers : Nat) (a_tape : Nat) (m_taped : Int32) (m_textEnd : Int32) (m_faultKind : Int32) (m_faultAt : Int32) (m_bad : Int32) (m_badAt : Int32) (m_token : Int32) (m_at : Int32) (m_behind : Int32) (m_number : Int32) (m_letters : Int32) (m_word : Int64) (a_c : Nat) (a_words : Nat) (m_markMany : Int32) (a_there : Nat) (a_tried : Nat) (a_best : Nat) (a_found : Nat) (m_thereMany : Int32) (m_foundMany : Int32) (m_orderHow : Int32) (m_orderRing : Int32) (m_orderMany : Int32) (m_hasBest : Int32) (m_bestTop : Int64) (m_bestBy : Int64) (a_weights : Nat) (a_shared : Nat) (m_random : Int32) (m_truePlace : Int32) (m_trueWay : Int32) (m_seconds : Int32) (m_done : Int32) (m_feelings : Int32) (m_tries : Int32) (m_leftOver : Int32) (m_playDoor : Int32) (m_playRing : Int32) (m_isOpen : Int32) (m_isOver : Int32) (m_wasTried : Int32) (m_hasPlayed : Int32) (a_feltNow : Nat) (a_last : Nat) (a_kept : Nat) (m_hasSeconds : Int32) (m_hasTurned : Int32) (m_hasRound : Int32) (a_hasFeels : Nat) (a_isOn : Nat) (m_firstAct : Int32) (m_meanTop : Int64) (m_meanBy : Int64) (a_order : Nat) (m_rowMany : Int32) (m_newSteps : Int32) (x : Int32) (hr_m_token : 0 ≤ m_token.toInt ∧ m_token.toInt ≤ 4) (hr_m_number : 0 ≤ m_number.toInt ∧ m_number.toInt ≤ 9999) : zCi l yX12_isSign cX12_isSign 2 (some .boolean) ({ frames := 0, cells := 0, slots := 0, locals := 0 }) G cA [.ref h0, .int x] [(h0, .inr (12, [.int m_status, .int m_thrown, .long m_above, .long m_under, .ref a_traySort, .ref a_trayMany, .ref a_numbers, .ref a_tape, .int m_taped, .int m_textEnd, .int m_faultKind, .int m_faultAt, .int m_bad, .int m_badAt, .int m_token, .int m_at, .int m_behind, .int m_number, .int m_letters, .long m_word, .ref a_c, .ref a_words, .int m_markMany, .ref a_there, .ref a_tried, .ref a_best, .ref a_found, .int m_thereMany, .int m_foundMany, .int m_orderHow, .int m_orderRing, .int m_orderMany, .int m_hasBest, .long m_bestTop, .long m_bestBy, .ref a_weights, .ref a_shared, .int m_random, .int m_truePlace, .int m_trueWay, .int m_seconds, .int m_done, .int m_feelings, .int m_tries, .int m_leftOver, .int m_playDoor, .int m_playRing, .int m_isOpen, .int m_isOver, .int m_wasTried, .int m_hasPlayed, .ref a_feltNow, .ref a_last, .ref a_kept, .int m_hasSeconds, .int m_hasTurned, .int m_hasRound, .ref a_hasFeels, .ref a_isOn, .int m_firstAct, .long m_meanTop, .long m_meanBy, .ref a_order, .int m_rowMany, .int m_newSteps]))] (S := Unit) (fun (r : Int32) (u : Unit) => (r = 0 ∧ (m_token.toInt ≠ 3 ∨ m_number.toInt ≠ x.toInt)) ∨ (r = 1 ∧ (m_token.toInt = 3 ∧ m_number.toInt = x.toInt))) (fun (u : Unit) => [(h0, .inr (12, [.int m_status, .int m_thrown, .long m_above, .long m_under, .ref a_traySort, .ref a_trayMany, .ref a_numbers, .ref a_tape, .int m_taped, .int m_textEnd, .int m_faultKind, .int m_faultAt, .int m_bad, .int m_badAt, .int m_token, .int m_at, .int m_behind, .int m_number, .int m_letters, .long m_word, .ref a_c, .ref a_words, .int m_markMany, .ref a_there, .ref a_tried, .ref a_best, .ref a_found, .int m_thereMany, .int m_foundMany, .int m_orderHow, .int m_orderRing, .int m_orderMany, .int m_hasBest, .long m_bestTop, .long m_bestBy, .ref a_weights, .ref a_shared, .int m_random, .int m_truePlace, .int m_trueWay, .int m_seconds, .int m_done, .int m_feelings, .int m_tries, .int m_leftOver, .int m_playDoor, .int m_playRing, .int m_isOpen, .int m_isOver, .int m_wasTried, .int m_hasPlayed, .ref a_feltNow, .ref a_last, .ref a_kept, .int m_hasSeconds, .int m_hasTurned, .int m_hasRound, .ref a_hasFeels, .ref a_isOn, .int m_firstAct, .long m_meanTop, .long m_meanBy, .ref a_order, .int m_rowMany, .int m_newSteps]))]) 0 0 := by
  have hk_3 : (3 : Int32).toInt = 3 := by decide +kernel
  refine z_start2z (own := RX12) (by decide) (Nat.le_of_ble_eq_true rfl) rfl ?_
  intro p e s m args below meth c A ls Q hx hb hml hts hown hK hE hT hP hD hS hA hl hret
  have hl : lv_has ls 2 [(0, .ref h0), (1, .int x)] := hl
  refine lv_aload_n hx hb dX12_isSign_0 rfl (lv_at hl 0 rfl) ?_
  refine va_get (D := G) (ci := 12) (v := .int m_token) (C := RX12) (T := TX12) (N := 65) hx hb hts inT12 hown hK hP 0 rfl rfl 14 (by decide) (hts _ tw_1899) (fun _ h9 => h9) rfl dX12_isSign_1 ?_
  refine lv_iconst (v := 3) hx hb dX12_isSign_4 (by decide) ?_
  refine lv_icmp_ne (tgt := 20) hx hb dX12_isSign_5 (by decide) (fun c_1 => ?_) (fun c_1 => ?_)
  · have b_2 := z_fneT c_1
    refine lv_iconst (v := 0) hx hb dX12_isSign_20 (by decide) ?_
    have hpost : ((0 : Int32) = 0 ∧ (m_token.toInt ≠ 3 ∨ m_number.toInt ≠ x.toInt)) ∨ ((0 : Int32) = 1 ∧ (m_token.toInt = 3 ∧ m_number.toInt = x.toInt)) := (Or.inl ⟨rfl, (by omega)⟩)
    exact hret _ _ _ _ _ _ () [0] hP hD hS rfl (by decide) dX12_isSign_21 (Or.inl rfl) hpost
  · have b_3 := z_feqF c_1
    refine lv_aload_n hx hb dX12_isSign_8 rfl (lv_at hl 0 rfl) ?_
    refine va_get (D := G) (ci := 12) (v := .int m_number) (C := RX12) (T := TX12) (N := 65) hx hb hts inT12 hown hK hP 0 rfl rfl 17 (by decide) (hts _ tw_1902) (fun _ h9 => h9) rfl dX12_isSign_9 ?_
    refine lv_iload_n hx hb dX12_isSign_12 rfl (lv_at hl 1 rfl) ?_
    refine lv_icmp_ne (tgt := 20) hx hb dX12_isSign_13 (by decide) (fun c_4 => ?_) (fun c_4 => ?_)
    · have b_5 := z_fneT c_4
      refine lv_iconst (v := 0) hx hb dX12_isSign_20 (by decide) ?_
      have hpost : ((0 : Int32) = 0 ∧ (m_token.toInt ≠ 3 ∨ m_number.toInt ≠ x.toInt)) ∨ ((0 : Int32) = 1 ∧ (m_token.toInt = 3 ∧ m_number.toInt = x.toInt)) := (Or.inl ⟨rfl, (by omega)⟩)
      exact hret _ _ _ _ _ _ () [0] hP hD hS rfl (by decide) dX12_isSign_21 (Or.inl rfl) hpost
    · have b_6 := z_feqF c_4
      refine lv_iconst (v := 1) hx hb dX12_isSign_16 (by decide) ?_
      refine lv_goto (tgt := 21) hx hb dX12_isSign_17 (by decide) ?_
      have hpost : ((1 : Int32) = 0 ∧ (m_token.toInt ≠ 3 ∨ m_number.toInt ≠ x.toInt)) ∨ ((1 : Int32) = 1 ∧ (m_token.toInt = 3 ∧ m_number.toInt = x.toInt)) := (Or.inr ⟨rfl, (by omega)⟩)
      exact hret _ _ _ _ _ _ () [0] hP hD hS rfl (by decide) dX12_isSign_21 (Or.inr rfl) hpost
set_option maxHeartbeats 4000000 in
set_option maxRecDepth 100000 in
theorem r_isTray (l : Launch) (G : va_G) (cA : zCA) (h0 : Nat) (m_status : Int32) (m_thrown : Int32) (m_above : Int64) (m_under : Int64) (a_traySort : Nat) (a_trayMany : Nat) (a_numbers : Nat) (a_tape : Nat) (m_taped : Int32) (m_textEnd : Int32) (m_faultKind : Int32) (m_faultAt : Int32) (m_bad : Int32) (m_badAt : Int32) (m_token : Int32) (m_at : Int32) (m_behind : Int32) (m_number : Int32) (m_letters : Int32) (m_word : Int64) (a_c : Nat) (a_words : Nat) (m_markMany : Int32) (a_there : Nat) (a_tried : Nat) (a_best : Nat) (a_found : Nat) (m_thereMany : Int32) (m_foundMany : Int32) (m_orderHow : Int32) (m_orderRing : Int32) (m_orderMany : Int32) (m_hasBest : Int32) (m_bestTop : Int64) (m_bestBy : Int64) (a_weights : Nat) (a_shared : Nat) (m_random : Int32) (m_truePlace : Int32) (m_trueWay : Int32) (m_seconds : Int32) (m_done : Int32) (m_feelings : Int32) (m_tries : Int32) (m_leftOver : Int32) (m_playDoor : Int32) (m_playRing : Int32) (m_isOpen : Int32) (m_isOver : Int32) (m_wasTried : Int32) (m_hasPlayed : Int32) (a_feltNow : Nat) (a_last : Nat) (a_kept : Nat) (m_hasSeconds : Int32) (m_hasTurned : Int32) (m_hasRound : Int32) (a_hasFeels : Nat) (a_isOn : Nat) (m_firstAct : Int32) (m_meanTop : Int64) (m_meanBy : Int64) (a_order : Nat) (m_rowMany : Int32) (m_newSteps : Int32) (t : Int32) : zCi l yX12_isTray cX12_isTray 2 (some .boolean) ({ frames := 1, cells := 0, slots := 0, locals := 25 }) G cA [.ref h0, .int t] [(h0, .inr (12, [.int m_status, .int m_thrown, .long m_above, .long m_under, .ref a_traySort, .ref a_trayMany, .ref a_numbers, .ref a_tape, .int m_taped, .int m_textEnd, .int m_faultKind, .int m_faultAt, .int m_bad, .int m_badAt, .int m_token, .int m_at, .int m_behind, .int m_number, .int m_letters, .long m_word, .ref a_c, .ref a_words, .int m_markMany, .ref a_there, .ref a_tried, .ref a_best, .ref a_found, .int m_thereMany, .int m_foundMany, .int m_orderHow, .int m_orderRing, .int m_orderMany, .int m_hasBest, .long m_bestTop, .long m_bestBy, .ref a_weights, .ref a_shared, .int m_random, .int m_truePlace, .int m_trueWay, .int m_seconds, .int m_done, .int m_feelings, .int m_tries, .int m_leftOver, .int m_playDoor, .int m_playRing, .int m_isOpen, .int m_isOver, .int m_wasTried, .int m_hasPlayed, .ref a_feltNow, .ref a_last, .ref a_kept, .int m_hasSeconds, .int m_hasTurned, .int m_hasRound, .ref a_hasFeels, .ref a_isOn, .int m_firstAct, .long m_meanTop, .long m_meanBy, .ref a_order, .int m_rowMany, .int m_newSteps]))] (S := Unit) (fun (r : Int32) (u : Unit) => (r = 0 ∧ True) ∨ (r = 1 ∧ (0 ≤ t.toInt ∧ t.toInt ≤ 3))) (fun (u : Unit) => [(h0, .inr (12, [.int m_status, .int m_thrown, .long m_above, .long m_under, .ref a_traySort, .ref a_trayMany, .ref a_numbers, .ref a_tape, .int m_taped, .int m_textEnd, .int m_faultKind, .int m_faultAt, .int m_bad, .int m_badAt, .int m_token, .int m_at, .int m_behind, .int m_number, .int m_letters, .long m_word, .ref a_c, .ref a_words, .int m_markMany, .ref a_there, .ref a_tried, .ref a_best, .ref a_found, .int m_thereMany, .int m_foundMany, .int m_orderHow, .int m_orderRing, .int m_orderMany, .int m_hasBest, .long m_bestTop, .long m_bestBy, .ref a_weights, .ref a_shared, .int m_random, .int m_truePlace, .int m_trueWay, .int m_seconds, .int m_done, .int m_feelings, .int m_tries, .int m_leftOver, .int m_playDoor, .int m_playRing, .int m_isOpen, .int m_isOver, .int m_wasTried, .int m_hasPlayed, .ref a_feltNow, .ref a_last, .ref a_kept, .int m_hasSeconds, .int m_hasTurned, .int m_hasRound, .ref a_hasFeels, .ref a_isOn, .int m_firstAct, .long m_meanTop, .long m_meanBy, .ref a_order, .int m_rowMany, .int m_newSteps]))]) 0 0 := by
  have hkl_0 : (0 : Int64).toInt = 0 := by decide +kernel
  have hkl_3 : (3 : Int64).toInt = 3 := by decide +kernel
  refine z_start2z (own := RX12) (by decide) (Nat.le_of_ble_eq_true rfl) rfl ?_
  intro p e s m args below meth c A ls Q hx hb hml hts hown hK hE hT hP hD hS hA hl hret
  have hl : lv_has ls 2 [(0, .ref h0), (1, .int t)] := hl
  refine lv_iload_n hx hb dX12_isTray_0 rfl (lv_at hl 1 rfl) ?_
  refine lv_i2l (v := (t).toInt64) hx hb dX12_isTray_1 rfl ?_
  refine lv_topl (fun x_1 he_x_1 => ?_)
  have hq_x_1 := z_i2l he_x_1
  have hL_t := z_full t
  refine lv_lconst (v := 0) hx hb dX12_isTray_2 (by decide) ?_
  refine lv_ldc2 (v := 3) hx hb hown (hts _ tw_2333) dX12_isTray_3 ?_
  refine z_callSi (As := [.long x_1, .long 0, .long 3]) (rest := []) (wr := [(h0, .inr (12, [.int m_status, .int m_thrown, .long m_above, .long m_under, .ref a_traySort, .ref a_trayMany, .ref a_numbers, .ref a_tape, .int m_taped, .int m_textEnd, .int m_faultKind, .int m_faultAt, .int m_bad, .int m_badAt, .int m_token, .int m_at, .int m_behind, .int m_number, .int m_letters, .long m_word, .ref a_c, .ref a_words, .int m_markMany, .ref a_there, .ref a_tried, .ref a_best, .ref a_found, .int m_thereMany, .int m_foundMany, .int m_orderHow, .int m_orderRing, .int m_orderMany, .int m_hasBest, .long m_bestTop, .long m_bestBy, .ref a_weights, .ref a_shared, .int m_random, .int m_truePlace, .int m_trueWay, .int m_seconds, .int m_done, .int m_feelings, .int m_tries, .int m_leftOver, .int m_playDoor, .int m_playRing, .int m_isOpen, .int m_isOver, .int m_wasTried, .int m_hasPlayed, .ref a_feltNow, .ref a_last, .ref a_kept, .int m_hasSeconds, .int m_hasTurned, .int m_hasRound, .ref a_hasFeels, .ref a_isOn, .int m_firstAct, .long m_meanTop, .long m_meanBy, .ref a_order, .int m_rowMany, .int m_newSteps]))]) ⟨hx, hb, hml, hown, hts⟩ hK hE hT hP hD hS hA (r_isIn l G cA x_1 0 3) lk_RX12_117 ⟨rfl, rfl⟩ ⟨Nat.le_of_ble_eq_true rfl, Nat.le_of_ble_eq_true rfl⟩ [] [0] rfl rfl (by decide) rfl hl.1 rfl (lv_room (Nat.le_of_ble_eq_true rfl)) dX12_isTray_6 ⟨Nat.le_of_ble_eq_true rfl, Nat.le_of_ble_eq_true rfl⟩ (fun r_2 u_3 H locs hw hP hD hS => ?_)
  rcases hw with ⟨rfl, hf_4⟩ | ⟨rfl, hf_5⟩
  · skip
    have hpost : ((0 : Int32) = 0 ∧ True) ∨ ((0 : Int32) = 1 ∧ (0 ≤ t.toInt ∧ t.toInt ≤ 3)) := (Or.inl ⟨rfl, trivial⟩)
    exact hret _ _ _ _ _ _ () [0] hP hD hS rfl (by decide) dX12_isTray_9 (Or.inl rfl) hpost
  · skip
    have hpost : ((1 : Int32) = 0 ∧ True) ∨ ((1 : Int32) = 1 ∧ (0 ≤ t.toInt ∧ t.toInt ≤ 3)) := (Or.inr ⟨rfl, (by omega)⟩)
    exact hret _ _ _ _ _ _ () [0] hP hD hS rfl (by decide) dX12_isTray_9 (Or.inr rfl) hpost
set_option maxHeartbeats 40000000 in
set_option maxRecDepth 100000 in
theorem r_trayed (l : Launch) (G : va_G) (cA : zCA) (h0 : Nat) (m_status : Int32) (m_thrown : Int32) (m_above : Int64) (m_under : Int64) (a_traySort : Nat) (a_trayMany : Nat) (a_numbers : Nat) (a_tape : Nat) (m_taped : Int32) (m_textEnd : Int32) (m_faultKind : Int32) (m_faultAt : Int32) (m_bad : Int32) (m_badAt : Int32) (m_token : Int32) (m_at : Int32) (m_behind : Int32) (m_number : Int32) (m_letters : Int32) (m_word : Int64) (a_c : Nat) (a_words : Nat) (m_markMany : Int32) (a_there : Nat) (a_tried : Nat) (a_best : Nat) (a_found : Nat) (m_thereMany : Int32) (m_foundMany : Int32) (m_orderHow : Int32) (m_orderRing : Int32) (m_orderMany : Int32) (m_hasBest : Int32) (m_bestTop : Int64) (m_bestBy : Int64) (a_weights : Nat) (a_shared : Nat) (m_random : Int32) (m_truePlace : Int32) (m_trueWay : Int32) (m_seconds : Int32) (m_done : Int32) (m_feelings : Int32) (m_tries : Int32) (m_leftOver : Int32) (m_playDoor : Int32) (m_playRing : Int32) (m_isOpen : Int32) (m_isOver : Int32) (m_wasTried : Int32) (m_hasPlayed : Int32) (a_feltNow : Nat) (a_last : Nat) (a_kept : Nat) (m_hasSeconds : Int32) (m_hasTurned : Int32) (m_hasRound : Int32) (a_hasFeels : Nat) (a_isOn : Nat) (m_firstAct : Int32) (m_meanTop : Int64) (m_meanBy : Int64) (a_order : Nat) (m_rowMany : Int32) (m_newSteps : Int32) (g_trayMany : Nat → Int32) (t : Int32) (hC_g_trayMany : zRg 4 (-1) 60 g_trayMany) : zCi l yX12_trayed cX12_trayed 2 (some .int) ({ frames := 0, cells := 0, slots := 0, locals := 0 }) G cA [.ref h0, .int t] [(h0, .inr (12, [.int m_status, .int m_thrown, .long m_above, .long m_under, .ref a_traySort, .ref a_trayMany, .ref a_numbers, .ref a_tape, .int m_taped, .int m_textEnd, .int m_faultKind, .int m_faultAt, .int m_bad, .int m_badAt, .int m_token, .int m_at, .int m_behind, .int m_number, .int m_letters, .long m_word, .ref a_c, .ref a_words, .int m_markMany, .ref a_there, .ref a_tried, .ref a_best, .ref a_found, .int m_thereMany, .int m_foundMany, .int m_orderHow, .int m_orderRing, .int m_orderMany, .int m_hasBest, .long m_bestTop, .long m_bestBy, .ref a_weights, .ref a_shared, .int m_random, .int m_truePlace, .int m_trueWay, .int m_seconds, .int m_done, .int m_feelings, .int m_tries, .int m_leftOver, .int m_playDoor, .int m_playRing, .int m_isOpen, .int m_isOver, .int m_wasTried, .int m_hasPlayed, .ref a_feltNow, .ref a_last, .ref a_kept, .int m_hasSeconds, .int m_hasTurned, .int m_hasRound, .ref a_hasFeels, .ref a_isOn, .int m_firstAct, .long m_meanTop, .long m_meanBy, .ref a_order, .int m_rowMany, .int m_newSteps])), (a_trayMany, .inl (cA.1 0, 4, .inl g_trayMany))] (S := Unit) (fun (r : Int32) (u : Unit) => (r = (F_r_trayed g_trayMany t)) ∧ ((0 ≤ r.toInt ∧ r.toInt ≤ 3) ∧ (r.toInt = 0 → 0 ≤ t.toInt ∧ t.toInt ≤ 3))) (fun (u : Unit) => [(h0, .inr (12, [.int m_status, .int m_thrown, .long m_above, .long m_under, .ref a_traySort, .ref a_trayMany, .ref a_numbers, .ref a_tape, .int m_taped, .int m_textEnd, .int m_faultKind, .int m_faultAt, .int m_bad, .int m_badAt, .int m_token, .int m_at, .int m_behind, .int m_number, .int m_letters, .long m_word, .ref a_c, .ref a_words, .int m_markMany, .ref a_there, .ref a_tried, .ref a_best, .ref a_found, .int m_thereMany, .int m_foundMany, .int m_orderHow, .int m_orderRing, .int m_orderMany, .int m_hasBest, .long m_bestTop, .long m_bestBy, .ref a_weights, .ref a_shared, .int m_random, .int m_truePlace, .int m_trueWay, .int m_seconds, .int m_done, .int m_feelings, .int m_tries, .int m_leftOver, .int m_playDoor, .int m_playRing, .int m_isOpen, .int m_isOver, .int m_wasTried, .int m_hasPlayed, .ref a_feltNow, .ref a_last, .ref a_kept, .int m_hasSeconds, .int m_hasTurned, .int m_hasRound, .ref a_hasFeels, .ref a_isOn, .int m_firstAct, .long m_meanTop, .long m_meanBy, .ref a_order, .int m_rowMany, .int m_newSteps])), (a_trayMany, .inl (cA.1 0, 4, .inl g_trayMany))]) 0 0 := by
  have hk_0 : (0 : Int32).toInt = 0 := by decide +kernel
  have hk_1 : (1 : Int32).toInt = 1 := by decide +kernel
  have hk_3 : (3 : Int32).toInt = 3 := by decide +kernel
  have hk_4 : (4 : Int32).toInt = 4 := by decide +kernel
  refine z_start2i (own := RX12) (by decide) (Nat.le_of_ble_eq_true rfl) rfl ?_
  intro p e s m args below meth c A ls Q hx hb hml hts hown hK hE hT hP hD hS hA hl hret
  have hl : lv_has ls 2 [(0, .ref h0), (1, .int t)] := hl
  refine lv_iload_n hx hb dX12_trayed_0 rfl (lv_at hl 1 rfl) ?_
  refine lv_if_lt (tgt := 9) hx hb dX12_trayed_1 (by decide) (fun c_1 => ?_) (fun c_1 => ?_)
  · have b_2 := z_fltT c_1
    refine lv_iconst (v := 1) hx hb dX12_trayed_9 (by decide) ?_
    refine lv_goto (tgt := 27) hx hb dX12_trayed_10 (by decide) ?_
    have hpost : (0 ≤ (1 : Int32).toInt ∧ (1 : Int32).toInt ≤ 3) ∧ ((1 : Int32).toInt = 0 → 0 ≤ t.toInt ∧ t.toInt ≤ 3) := ⟨(by decide +kernel), (by omega)⟩
    have hX_3 : F_r_trayed g_trayMany t = ((1 : Int32) : Int32) := by
      refine (F_r_trayed_s ..).trans ?_
      refine (if_pos c_1).trans ?_
      exact rfl
    exact hret _ _ _ _ _ _ () [0, 1] hP hD hS rfl (by decide) dX12_trayed_27 ⟨(congrArg (fun z9 => z9) hX_3).symm, hpost⟩
  · have b_4 := z_fgeF c_1
    refine lv_iload_n hx hb dX12_trayed_4 rfl (lv_at hl 1 rfl) ?_
    refine lv_iconst (v := 4) hx hb dX12_trayed_5 (by decide) ?_
    refine lv_icmp_lt (tgt := 13) hx hb dX12_trayed_6 (by decide) (fun c_5 => ?_) (fun c_5 => ?_)
    · have b_6 := z_fltT c_5
      refine lv_aload_n hx hb dX12_trayed_13 rfl (lv_at hl 0 rfl) ?_
      refine va_get (D := G) (ci := 12) (v := .ref a_trayMany) (C := RX12) (T := TX12) (N := 65) hx hb hts inT12 hown hK hP 0 rfl rfl 5 (by decide) (hts _ tw_1890) (fun _ h9 => h9) rfl dX12_trayed_14 ?_
      refine lv_iload_n hx hb dX12_trayed_17 rfl (lv_at hl 1 rfl) ?_
      refine va_iald hx hb hK hP 1 0 rfl rfl (z_inN (by omega) (by omega)) dX12_trayed_18 ?_
      refine lv_topi (fun x_7 he_x_7 => ?_)
      have hr_x_7 := z_rg hC_g_trayMany he_x_7 (by omega) (by omega)
      refine lv_if_ge (tgt := 26) hx hb dX12_trayed_19 (by decide) (fun c_8 => ?_) (fun c_8 => ?_)
      · have b_9 := z_fgeT c_8
        refine lv_iconst (v := 0) hx hb dX12_trayed_26 (by decide) ?_
        have hpost : (0 ≤ (0 : Int32).toInt ∧ (0 : Int32).toInt ≤ 3) ∧ ((0 : Int32).toInt = 0 → 0 ≤ t.toInt ∧ t.toInt ≤ 3) := ⟨(by decide +kernel), (by omega)⟩
        have hX_10 : F_r_trayed g_trayMany t = ((0 : Int32) : Int32) := by
          refine (F_r_trayed_s ..).trans ?_
          refine (if_neg c_1).trans ?_
          refine (if_pos c_5).trans ?_
          try (extract_lets -merge -useContext +onlyGivenNames y9; have e9 : x_7 = y9 := (by first | exact he_x_7 | exact he_x_7.symm); clear_value y9; subst e9)
          refine (if_pos c_8).trans ?_
          exact rfl
        exact hret _ _ _ _ _ _ () [0, 1] hP hD hS rfl (by decide) dX12_trayed_27 ⟨(congrArg (fun z9 => z9) hX_10).symm, hpost⟩
      · have b_11 := z_fltF c_8
        refine lv_iconst (v := 3) hx hb dX12_trayed_22 (by decide) ?_
        refine lv_goto (tgt := 27) hx hb dX12_trayed_23 (by decide) ?_
        have hpost : (0 ≤ (3 : Int32).toInt ∧ (3 : Int32).toInt ≤ 3) ∧ ((3 : Int32).toInt = 0 → 0 ≤ t.toInt ∧ t.toInt ≤ 3) := ⟨(by decide +kernel), (by omega)⟩
        have hX_12 : F_r_trayed g_trayMany t = ((3 : Int32) : Int32) := by
          refine (F_r_trayed_s ..).trans ?_
          refine (if_neg c_1).trans ?_
          refine (if_pos c_5).trans ?_
          try (extract_lets -merge -useContext +onlyGivenNames y9; have e9 : x_7 = y9 := (by first | exact he_x_7 | exact he_x_7.symm); clear_value y9; subst e9)
          refine (if_neg c_8).trans ?_
          exact rfl
        exact hret _ _ _ _ _ _ () [0, 1] hP hD hS rfl (by decide) dX12_trayed_27 ⟨(congrArg (fun z9 => z9) hX_12).symm, hpost⟩
    · have b_13 := z_fgeF c_5
      refine lv_iconst (v := 1) hx hb dX12_trayed_9 (by decide) ?_
      refine lv_goto (tgt := 27) hx hb dX12_trayed_10 (by decide) ?_
      have hpost : (0 ≤ (1 : Int32).toInt ∧ (1 : Int32).toInt ≤ 3) ∧ ((1 : Int32).toInt = 0 → 0 ≤ t.toInt ∧ t.toInt ≤ 3) := ⟨(by decide +kernel), (by omega)⟩
      have hX_14 : F_r_trayed g_trayMany t = ((1 : Int32) : Int32) := by
        refine (F_r_trayed_s ..).trans ?_
        refine (if_neg c_1).trans ?_
        refine (if_neg c_5).trans ?_
        exact rfl
      exact hret _ _ _ _ _ _ () [0, 1] hP hD hS rfl (by decide) dX12_trayed_27 ⟨(congrArg (fun z9 => z9) hX_14).symm, hpost⟩
set_option maxHeartbeats 40000000 in
set_option maxRecDepth 100000 in
theorem r_placed (l : Launch) (G : va_G) (cA : zCA) (h0 : Nat) (m_status : Int32) (m_thrown : Int32) (m_above : Int64) (m_under : Int64) (a_traySort : Nat) (a_trayMany : Nat) (a_numbers : Nat) (a_tape : Nat) (m_taped : Int32) (m_textEnd : Int32) (m_faultKind : Int32) (m_faultAt : Int32) (m_bad : Int32) (m_badAt : Int32) (m_token : Int32) (m_at : Int32) (m_behind : Int32) (m_number : Int32) (m_letters : Int32) (m_word : Int64) (a_c : Nat) (a_words : Nat) (m_markMany : Int32) (a_there : Nat) (a_tried : Nat) (a_best : Nat) (a_found : Nat) (m_thereMany : Int32) (m_foundMany : Int32) (m_orderHow : Int32) (m_orderRing : Int32) (m_orderMany : Int32) (m_hasBest : Int32) (m_bestTop : Int64) (m_bestBy : Int64) (a_weights : Nat) (a_shared : Nat) (m_random : Int32) (m_truePlace : Int32) (m_trueWay : Int32) (m_seconds : Int32) (m_done : Int32) (m_feelings : Int32) (m_tries : Int32) (m_leftOver : Int32) (m_playDoor : Int32) (m_playRing : Int32) (m_isOpen : Int32) (m_isOver : Int32) (m_wasTried : Int32) (m_hasPlayed : Int32) (a_feltNow : Nat) (a_last : Nat) (a_kept : Nat) (m_hasSeconds : Int32) (m_hasTurned : Int32) (m_hasRound : Int32) (a_hasFeels : Nat) (a_isOn : Nat) (m_firstAct : Int32) (m_meanTop : Int64) (m_meanBy : Int64) (a_order : Nat) (m_rowMany : Int32) (m_newSteps : Int32) (g_trayMany : Nat → Int32) (t : Int32) (k : Int32) (hC_g_trayMany : zRg 4 (-1) 60 g_trayMany) : zCi l yX12_placed cX12_placed 4 (some .int) ({ frames := 1, cells := 0, slots := 0, locals := 21 }) G cA [.ref h0, .int t, .int k] [(h0, .inr (12, [.int m_status, .int m_thrown, .long m_above, .long m_under, .ref a_traySort, .ref a_trayMany, .ref a_numbers, .ref a_tape, .int m_taped, .int m_textEnd, .int m_faultKind, .int m_faultAt, .int m_bad, .int m_badAt, .int m_token, .int m_at, .int m_behind, .int m_number, .int m_letters, .long m_word, .ref a_c, .ref a_words, .int m_markMany, .ref a_there, .ref a_tried, .ref a_best, .ref a_found, .int m_thereMany, .int m_foundMany, .int m_orderHow, .int m_orderRing, .int m_orderMany, .int m_hasBest, .long m_bestTop, .long m_bestBy, .ref a_weights, .ref a_shared, .int m_random, .int m_truePlace, .int m_trueWay, .int m_seconds, .int m_done, .int m_feelings, .int m_tries, .int m_leftOver, .int m_playDoor, .int m_playRing, .int m_isOpen, .int m_isOver, .int m_wasTried, .int m_hasPlayed, .ref a_feltNow, .ref a_last, .ref a_kept, .int m_hasSeconds, .int m_hasTurned, .int m_hasRound, .ref a_hasFeels, .ref a_isOn, .int m_firstAct, .long m_meanTop, .long m_meanBy, .ref a_order, .int m_rowMany, .int m_newSteps])), (a_trayMany, .inl (cA.1 0, 4, .inl g_trayMany))] (S := Unit) (fun (r : Int32) (u : Unit) => (r = (F_r_placed g_trayMany t k)) ∧ ((0 ≤ r.toInt ∧ r.toInt ≤ 4) ∧ (r.toInt = 0 → 0 ≤ t.toInt ∧ t.toInt ≤ 3 ∧ 0 ≤ k.toInt ∧ k.toInt ≤ 59))) (fun (u : Unit) => [(h0, .inr (12, [.int m_status, .int m_thrown, .long m_above, .long m_under, .ref a_traySort, .ref a_trayMany, .ref a_numbers, .ref a_tape, .int m_taped, .int m_textEnd, .int m_faultKind, .int m_faultAt, .int m_bad, .int m_badAt, .int m_token, .int m_at, .int m_behind, .int m_number, .int m_letters, .long m_word, .ref a_c, .ref a_words, .int m_markMany, .ref a_there, .ref a_tried, .ref a_best, .ref a_found, .int m_thereMany, .int m_foundMany, .int m_orderHow, .int m_orderRing, .int m_orderMany, .int m_hasBest, .long m_bestTop, .long m_bestBy, .ref a_weights, .ref a_shared, .int m_random, .int m_truePlace, .int m_trueWay, .int m_seconds, .int m_done, .int m_feelings, .int m_tries, .int m_leftOver, .int m_playDoor, .int m_playRing, .int m_isOpen, .int m_isOver, .int m_wasTried, .int m_hasPlayed, .ref a_feltNow, .ref a_last, .ref a_kept, .int m_hasSeconds, .int m_hasTurned, .int m_hasRound, .ref a_hasFeels, .ref a_isOn, .int m_firstAct, .long m_meanTop, .long m_meanBy, .ref a_order, .int m_rowMany, .int m_newSteps])), (a_trayMany, .inl (cA.1 0, 4, .inl g_trayMany))]) 0 0 := by
  have hk_0 : (0 : Int32).toInt = 0 := by decide +kernel
  have hk_4 : (4 : Int32).toInt = 4 := by decide +kernel
  refine z_start2i (own := RX12) (by decide) (Nat.le_of_ble_eq_true rfl) rfl ?_
  intro p e s m args below meth c A ls Q hx hb hml hts hown hK hE hT hP hD hS hA hl hret
  have hl : lv_has ls 4 [(0, .ref h0), (1, .int t), (2, .int k)] := hl
  refine lv_aload_n hx hb dX12_placed_0 rfl (lv_at hl 0 rfl) ?_
  refine lv_iload_n hx hb dX12_placed_1 rfl (lv_at hl 1 rfl) ?_
  refine z_callVi (As := [.int t]) (rest := []) (wr := []) ⟨hx, hb, hml, hown, hts⟩ hK hE hT hP hD hS hA (r_trayed l G cA h0 m_status m_thrown m_above m_under a_traySort a_trayMany a_numbers a_tape m_taped m_textEnd m_faultKind m_faultAt m_bad m_badAt m_token m_at m_behind m_number m_letters m_word a_c a_words m_markMany a_there a_tried a_best a_found m_thereMany m_foundMany m_orderHow m_orderRing m_orderMany m_hasBest m_bestTop m_bestBy a_weights a_shared m_random m_truePlace m_trueWay m_seconds m_done m_feelings m_tries m_leftOver m_playDoor m_playRing m_isOpen m_isOver m_wasTried m_hasPlayed a_feltNow a_last a_kept m_hasSeconds m_hasTurned m_hasRound a_hasFeels a_isOn m_firstAct m_meanTop m_meanBy a_order m_rowMany m_newSteps g_trayMany t hC_g_trayMany) lk_RX12_101 ⟨rfl, rfl⟩ ⟨Nat.le_of_ble_eq_true rfl, Nat.le_of_ble_eq_true rfl⟩ 12 rfl rfl rfl [0, 1] [] rfl rfl (by decide) rfl hl.1 rfl (lv_room (Nat.le_of_ble_eq_true rfl)) dX12_placed_2 ⟨Nat.le_of_ble_eq_true rfl, Nat.le_of_ble_eq_true rfl⟩ (fun r_1 u_2 H locs hw hP hD hS => ?_)
  obtain ⟨he_r_1, hw⟩ := hw
  obtain ⟨hr_r_1, hf_4⟩ := hw
  refine lv_istore_n (lv' := [(3, .int r_1), (0, .ref h0), (1, .int t), (2, .int k)]) hx hb dX12_placed_5 rfl hl (by decide) rfl (fun ls hl => ?_)
  refine lv_iload_n hx hb dX12_placed_6 rfl (lv_at hl 0 rfl) ?_
  refine lv_if_le (tgt := 14) hx hb dX12_placed_7 (by decide) (fun c_5 => ?_) (fun c_5 => ?_)
  · have b_6 := z_fleT c_5
    refine lv_iload_n hx hb dX12_placed_14 rfl (lv_at hl 3 rfl) ?_
    refine lv_if_lt (tgt := 28) hx hb dX12_placed_15 (by decide) (fun c_7 => ?_) (fun c_7 => ?_)
    · have b_8 := z_fltT c_7
      refine lv_iconst (v := 4) hx hb dX12_placed_28 (by decide) ?_
      refine lv_goto (tgt := 33) hx hb dX12_placed_29 (by decide) ?_
      have hpost : (0 ≤ (4 : Int32).toInt ∧ (4 : Int32).toInt ≤ 4) ∧ ((4 : Int32).toInt = 0 → 0 ≤ t.toInt ∧ t.toInt ≤ 3 ∧ 0 ≤ k.toInt ∧ k.toInt ≤ 59) := ⟨(by decide +kernel), (by omega)⟩
      have hX_9 : F_r_placed g_trayMany t k = ((4 : Int32) : Int32) := by
        refine (F_r_placed_s ..).trans ?_
        extract_lets -merge -useContext +onlyGivenNames w9 y9; have e9 : r_1 = w9 := he_r_1; clear_value w9; subst e9
        refine (if_pos c_5).trans ?_
        refine (if_pos c_7).trans ?_
        exact rfl
      exact hret _ _ _ _ _ _ () [0, 1] hP hD hS rfl (by decide) dX12_placed_33 ⟨(congrArg (fun z9 => z9) hX_9).symm, hpost⟩
    · have b_10 := z_fgeF c_7
      refine lv_iload_n hx hb dX12_placed_18 rfl (lv_at hl 3 rfl) ?_
      refine lv_aload_n hx hb dX12_placed_19 rfl (lv_at hl 1 rfl) ?_
      refine va_get (D := G) (ci := 12) (v := .ref a_trayMany) (C := RX12) (T := TX12) (N := 65) hx hb hts inT12 hown hK hP 0 rfl rfl 5 (by decide) (hts _ tw_1890) (fun _ h9 => h9) rfl dX12_placed_20 ?_
      refine lv_iload_n hx hb dX12_placed_23 rfl (lv_at hl 2 rfl) ?_
      refine va_iald hx hb hK hP 1 0 rfl rfl (z_inN (by omega) (by omega)) dX12_placed_24 ?_
      refine lv_topi (fun x_11 he_x_11 => ?_)
      have hr_x_11 := z_rg hC_g_trayMany he_x_11 (by omega) (by omega)
      refine lv_icmp_lt (tgt := 32) hx hb dX12_placed_25 (by decide) (fun c_12 => ?_) (fun c_12 => ?_)
      · have b_13 := z_fltT c_12
        refine lv_iconst (v := 0) hx hb dX12_placed_32 (by decide) ?_
        have hpost : (0 ≤ (0 : Int32).toInt ∧ (0 : Int32).toInt ≤ 4) ∧ ((0 : Int32).toInt = 0 → 0 ≤ t.toInt ∧ t.toInt ≤ 3 ∧ 0 ≤ k.toInt ∧ k.toInt ≤ 59) := ⟨(by decide +kernel), (by omega)⟩
        have hX_14 : F_r_placed g_trayMany t k = ((0 : Int32) : Int32) := by
          refine (F_r_placed_s ..).trans ?_
          extract_lets -merge -useContext +onlyGivenNames w9 y9; have e9 : r_1 = w9 := he_r_1; clear_value w9; subst e9
          refine (if_pos c_5).trans ?_
          refine (if_neg c_7).trans ?_
          try (extract_lets -merge -useContext +onlyGivenNames y9; have e9 : x_11 = y9 := (by first | exact he_x_11 | exact he_x_11.symm); clear_value y9; subst e9)
          refine (if_pos c_12).trans ?_
          exact rfl
        exact hret _ _ _ _ _ _ () [0, 1] hP hD hS rfl (by decide) dX12_placed_33 ⟨(congrArg (fun z9 => z9) hX_14).symm, hpost⟩
      · have b_15 := z_fgeF c_12
        refine lv_iconst (v := 4) hx hb dX12_placed_28 (by decide) ?_
        refine lv_goto (tgt := 33) hx hb dX12_placed_29 (by decide) ?_
        have hpost : (0 ≤ (4 : Int32).toInt ∧ (4 : Int32).toInt ≤ 4) ∧ ((4 : Int32).toInt = 0 → 0 ≤ t.toInt ∧ t.toInt ≤ 3 ∧ 0 ≤ k.toInt ∧ k.toInt ≤ 59) := ⟨(by decide +kernel), (by omega)⟩
        have hX_16 : F_r_placed g_trayMany t k = ((4 : Int32) : Int32) := by
          refine (F_r_placed_s ..).trans ?_
          extract_lets -merge -useContext +onlyGivenNames w9 y9; have e9 : r_1 = w9 := he_r_1; clear_value w9; subst e9
          refine (if_pos c_5).trans ?_
          refine (if_neg c_7).trans ?_
          try (extract_lets -merge -useContext +onlyGivenNames y9; have e9 : x_11 = y9 := (by first | exact he_x_11 | exact he_x_11.symm); clear_value y9; subst e9)
          refine (if_neg c_12).trans ?_
          exact rfl
        exact hret _ _ _ _ _ _ () [0, 1] hP hD hS rfl (by decide) dX12_placed_33 ⟨(congrArg (fun z9 => z9) hX_16).symm, hpost⟩
  · have b_17 := z_fgtF c_5
    refine lv_iload_n hx hb dX12_placed_10 rfl (lv_at hl 0 rfl) ?_
    refine lv_goto (tgt := 33) hx hb dX12_placed_11 (by decide) ?_
    have hpost : (0 ≤ r_1.toInt ∧ r_1.toInt ≤ 4) ∧ (r_1.toInt = 0 → 0 ≤ t.toInt ∧ t.toInt ≤ 3 ∧ 0 ≤ k.toInt ∧ k.toInt ≤ 59) := ⟨(z_rgw hr_r_1 (by decide) (by decide)), (by omega)⟩
    have hX_18 : F_r_placed g_trayMany t k = (r_1 : Int32) := by
      refine (F_r_placed_s ..).trans ?_
      extract_lets -merge -useContext +onlyGivenNames w9 y9; have e9 : r_1 = w9 := he_r_1; clear_value w9; subst e9
      refine (if_neg c_5).trans ?_
      exact rfl
    exact hret _ _ _ _ _ _ () [0, 1] hP hD hS rfl (by decide) dX12_placed_33 ⟨(congrArg (fun z9 => z9) hX_18).symm, hpost⟩
set_option maxHeartbeats 40000000 in
set_option maxRecDepth 100000 in
theorem r_tray (l : Launch) (G : va_G) (cA : zCA) (h0 : Nat) (m_status : Int32) (m_thrown : Int32) (m_above : Int64) (m_under : Int64) (a_traySort : Nat) (a_trayMany : Nat) (a_numbers : Nat) (a_tape : Nat) (m_taped : Int32) (m_textEnd : Int32) (m_faultKind : Int32) (m_faultAt : Int32) (m_bad : Int32) (m_badAt : Int32) (m_token : Int32) (m_at : Int32) (m_behind : Int32) (m_number : Int32) (m_letters : Int32) (m_word : Int64) (a_c : Nat) (a_words : Nat) (m_markMany : Int32) (a_there : Nat) (a_tried : Nat) (a_best : Nat) (a_found : Nat) (m_thereMany : Int32) (m_foundMany : Int32) (m_orderHow : Int32) (m_orderRing : Int32) (m_orderMany : Int32) (m_hasBest : Int32) (m_bestTop : Int64) (m_bestBy : Int64) (a_weights : Nat) (a_shared : Nat) (m_random : Int32) (m_truePlace : Int32) (m_trueWay : Int32) (m_seconds : Int32) (m_done : Int32) (m_feelings : Int32) (m_tries : Int32) (m_leftOver : Int32) (m_playDoor : Int32) (m_playRing : Int32) (m_isOpen : Int32) (m_isOver : Int32) (m_wasTried : Int32) (m_hasPlayed : Int32) (a_feltNow : Nat) (a_last : Nat) (a_kept : Nat) (m_hasSeconds : Int32) (m_hasTurned : Int32) (m_hasRound : Int32) (a_hasFeels : Nat) (a_isOn : Nat) (m_firstAct : Int32) (m_meanTop : Int64) (m_meanBy : Int64) (a_order : Nat) (m_rowMany : Int32) (m_newSteps : Int32) (g_traySort : Nat → Int32) (g_trayMany : Nat → Int32) (g_numbers : Nat → Int64) (t : Int32) (ss : Int32) (nn : Int32) (hC_g_trayMany : zRg 4 (-1) 60 g_trayMany) : zCi l yX12_tray cX12_tray 5 (some .boolean) ({ frames := 1, cells := 0, slots := 0, locals := 21 }) G cA [.ref h0, .int t, .int ss, .int nn] [(h0, .inr (12, [.int m_status, .int m_thrown, .long m_above, .long m_under, .ref a_traySort, .ref a_trayMany, .ref a_numbers, .ref a_tape, .int m_taped, .int m_textEnd, .int m_faultKind, .int m_faultAt, .int m_bad, .int m_badAt, .int m_token, .int m_at, .int m_behind, .int m_number, .int m_letters, .long m_word, .ref a_c, .ref a_words, .int m_markMany, .ref a_there, .ref a_tried, .ref a_best, .ref a_found, .int m_thereMany, .int m_foundMany, .int m_orderHow, .int m_orderRing, .int m_orderMany, .int m_hasBest, .long m_bestTop, .long m_bestBy, .ref a_weights, .ref a_shared, .int m_random, .int m_truePlace, .int m_trueWay, .int m_seconds, .int m_done, .int m_feelings, .int m_tries, .int m_leftOver, .int m_playDoor, .int m_playRing, .int m_isOpen, .int m_isOver, .int m_wasTried, .int m_hasPlayed, .ref a_feltNow, .ref a_last, .ref a_kept, .int m_hasSeconds, .int m_hasTurned, .int m_hasRound, .ref a_hasFeels, .ref a_isOn, .int m_firstAct, .long m_meanTop, .long m_meanBy, .ref a_order, .int m_rowMany, .int m_newSteps])), (a_traySort, .inl (cA.1 0, 4, .inl g_traySort)), (a_trayMany, .inl (cA.1 0, 4, .inl g_trayMany)), (a_numbers, .inl (cA.1 1, 240, .inr (.inl g_numbers)))] (S := Int32 × Int32 × (Nat → Int32) × (Nat → Int32) × (Nat → Int64)) (fun (r : Int32) (u : Int32 × Int32 × (Nat → Int32) × (Nat → Int32) × (Nat → Int64)) => (r = (F_r_tray g_traySort g_trayMany g_numbers t ss nn).1) ∧ (u.2.2.1 = (F_r_tray g_traySort g_trayMany g_numbers t ss nn).2.1) ∧ (u.2.2.2.1 = (F_r_tray g_traySort g_trayMany g_numbers t ss nn).2.2.1) ∧ (u.2.2.2.2 = (F_r_tray g_traySort g_trayMany g_numbers t ss nn).2.2.2) ∧ ((r = 0 ∧ (0 ≤ u.2.1.toInt ∧ u.2.1.toInt ≤ 0) ∧ (zRg 4 (-1) 60 u.2.2.2.1)) ∨ (r = 1 ∧ (0 ≤ u.1.toInt ∧ u.1.toInt ≤ 0) ∧ (0 ≤ u.2.1.toInt ∧ u.2.1.toInt ≤ 0) ∧ (zRg 4 (-1) 60 u.2.2.2.1)))) (fun (u : Int32 × Int32 × (Nat → Int32) × (Nat → Int32) × (Nat → Int64)) => [(h0, .inr (12, [.int u.1, .int u.2.1, .long m_above, .long m_under, .ref a_traySort, .ref a_trayMany, .ref a_numbers, .ref a_tape, .int m_taped, .int m_textEnd, .int m_faultKind, .int m_faultAt, .int m_bad, .int m_badAt, .int m_token, .int m_at, .int m_behind, .int m_number, .int m_letters, .long m_word, .ref a_c, .ref a_words, .int m_markMany, .ref a_there, .ref a_tried, .ref a_best, .ref a_found, .int m_thereMany, .int m_foundMany, .int m_orderHow, .int m_orderRing, .int m_orderMany, .int m_hasBest, .long m_bestTop, .long m_bestBy, .ref a_weights, .ref a_shared, .int m_random, .int m_truePlace, .int m_trueWay, .int m_seconds, .int m_done, .int m_feelings, .int m_tries, .int m_leftOver, .int m_playDoor, .int m_playRing, .int m_isOpen, .int m_isOver, .int m_wasTried, .int m_hasPlayed, .ref a_feltNow, .ref a_last, .ref a_kept, .int m_hasSeconds, .int m_hasTurned, .int m_hasRound, .ref a_hasFeels, .ref a_isOn, .int m_firstAct, .long m_meanTop, .long m_meanBy, .ref a_order, .int m_rowMany, .int m_newSteps])), (a_traySort, .inl (cA.1 0, 4, .inl u.2.2.1)), (a_trayMany, .inl (cA.1 0, 4, .inl u.2.2.2.1)), (a_numbers, .inl (cA.1 1, 240, .inr (.inl u.2.2.2.2)))]) 0 0 := by
  have hk_0 : (0 : Int32).toInt = 0 := by decide +kernel
  have hk_1 : (1 : Int32).toInt = 1 := by decide +kernel
  have hk_3 : (3 : Int32).toInt = 3 := by decide +kernel
  have hk_4 : (4 : Int32).toInt = 4 := by decide +kernel
  have hk_5 : (5 : Int32).toInt = 5 := by decide +kernel
  have hk_6 : (6 : Int32).toInt = 6 := by decide +kernel
  have hk_60 : (60 : Int32).toInt = 60 := by decide +kernel
  refine z_start2z (own := RX12) (by decide) (Nat.le_of_ble_eq_true rfl) rfl ?_
  intro p e s m args below meth c A ls Q hx hb hml hts hown hK hE hT hP hD hS hA hl hret
  have hl : lv_has ls 5 [(0, .ref h0), (1, .int t), (2, .int ss), (3, .int nn)] := hl
  refine lv_aload_n hx hb dX12_tray_0 rfl (lv_at hl 0 rfl) ?_
  refine lv_iconst (v := 0) hx hb dX12_tray_1 (by decide) ?_
  refine va_put (D := G) (ci := 12) (v := .int 0) (ty := .int) (C := RX12) (T := TX12) (N := 65) hx hb hts inT12 tyX12 tyX12_ok nmX12 hown hK hP hD hS 0 rfl rfl 1 (by decide) (hts _ tw_1886) (fun _ h9 => h9) rfl (tyX12_ok 1 (by decide)) rfl rfl (Nat.le_of_ble_eq_true rfl) dX12_tray_2 (fun H locs hP hD hS => ?_)
  refine lv_aload_n hx hb dX12_tray_5 rfl (lv_at hl 0 rfl) ?_
  refine lv_iconst (v := 0) hx hb dX12_tray_6 (by decide) ?_
  refine va_put (D := G) (ci := 12) (v := .int 0) (ty := .int) (C := RX12) (T := TX12) (N := 65) hx hb hts inT12 tyX12 tyX12_ok nmX12 hown hK hP hD hS 0 rfl rfl 0 (by decide) (hts _ tw_1885) (fun _ h9 => h9) rfl (tyX12_ok 0 (by decide)) rfl rfl (Nat.le_of_ble_eq_true rfl) dX12_tray_7 (fun H locs hP hD hS => ?_)
  refine lv_iload_n hx hb dX12_tray_10 rfl (lv_at hl 1 rfl) ?_
  refine lv_if_lt (tgt := 28) hx hb dX12_tray_11 (by decide) (fun c_1 => ?_) (fun c_1 => ?_)
  · have b_2 := z_fltT c_1
    refine lv_aload_n hx hb dX12_tray_28 rfl (lv_at hl 0 rfl) ?_
    refine lv_iconst (v := 1) hx hb dX12_tray_29 (by decide) ?_
    refine z_callVi (As := [.int 1]) (rest := []) (wr := [(a_traySort, .inl (cA.1 0, 4, .inl g_traySort)), (a_trayMany, .inl (cA.1 0, 4, .inl g_trayMany)), (a_numbers, .inl (cA.1 1, 240, .inr (.inl g_numbers)))]) ⟨hx, hb, hml, hown, hts⟩ hK hE hT hP hD hS hA (r_no l G cA h0 0 0 m_above m_under a_traySort a_trayMany a_numbers a_tape m_taped m_textEnd m_faultKind m_faultAt m_bad m_badAt m_token m_at m_behind m_number m_letters m_word a_c a_words m_markMany a_there a_tried a_best a_found m_thereMany m_foundMany m_orderHow m_orderRing m_orderMany m_hasBest m_bestTop m_bestBy a_weights a_shared m_random m_truePlace m_trueWay m_seconds m_done m_feelings m_tries m_leftOver m_playDoor m_playRing m_isOpen m_isOver m_wasTried m_hasPlayed a_feltNow a_last a_kept m_hasSeconds m_hasTurned m_hasRound a_hasFeels a_isOn m_firstAct m_meanTop m_meanBy a_order m_rowMany m_newSteps 1) lk_RX12_97 ⟨rfl, rfl⟩ ⟨Nat.le_of_ble_eq_true rfl, Nat.le_of_ble_eq_true rfl⟩ 12 rfl rfl rfl [0] [1, 2, 3] rfl rfl (by decide) rfl hl.1 rfl (lv_room (Nat.le_of_ble_eq_true rfl)) dX12_tray_30 ⟨Nat.le_of_ble_eq_true rfl, Nat.le_of_ble_eq_true rfl⟩ (fun r_4 u_5 H locs hw hP hD hS => ?_)
    obtain ⟨n_3, rfl⟩ : ∃ z, z = u_5 := ⟨_, rfl⟩
    obtain ⟨he_r_4, he_n_3, hw⟩ := hw
    obtain ⟨rfl, -⟩ := hw
    have hpost : ((0 : Int32) = 0 ∧ (0 ≤ (0 : Int32).toInt ∧ (0 : Int32).toInt ≤ 0) ∧ (zRg 4 (-1) 60 g_trayMany)) ∨ ((0 : Int32) = 1 ∧ (0 ≤ n_3.toInt ∧ n_3.toInt ≤ 0) ∧ (0 ≤ (0 : Int32).toInt ∧ (0 : Int32).toInt ≤ 0) ∧ (zRg 4 (-1) 60 g_trayMany)) := (Or.inl ⟨rfl, ⟨(by decide +kernel), hC_g_trayMany⟩⟩)
    have hX_7 : F_r_tray g_traySort g_trayMany g_numbers t ss nn = (((0 : Int32), g_traySort, g_trayMany, g_numbers) : Int32 × (Nat → Int32) × (Nat → Int32) × (Nat → Int64)) := by
      refine (F_r_tray_s ..).trans ?_
      refine (if_pos c_1).trans ?_
      extract_lets -merge -useContext +onlyGivenNames w9 y1_0 y1_1; have e9 : ((0 : Int32), n_3) = w9 := ((z_tS he_r_4 he_n_3.symm)).symm; clear_value w9; subst e9
      exact rfl
    exact hret _ _ _ _ _ _ (n_3, 0, g_traySort, g_trayMany, g_numbers) [3, 0, 1, 2] hP hD hS rfl (by decide) dX12_tray_33 (Or.inl rfl) ⟨(congrArg (fun z9 => z9.1) hX_7).symm, (congrArg (fun z9 => z9.2.1) hX_7).symm, (congrArg (fun z9 => z9.2.2.1) hX_7).symm, (congrArg (fun z9 => z9.2.2.2) hX_7).symm, hpost⟩
  · have b_8 := z_fgeF c_1
    refine lv_iload_n hx hb dX12_tray_14 rfl (lv_at hl 1 rfl) ?_
    refine lv_iconst (v := 4) hx hb dX12_tray_15 (by decide) ?_
    refine lv_icmp_ge (tgt := 28) hx hb dX12_tray_16 (by decide) (fun c_9 => ?_) (fun c_9 => ?_)
    · have b_10 := z_fgeT c_9
      refine lv_aload_n hx hb dX12_tray_28 rfl (lv_at hl 0 rfl) ?_
      refine lv_iconst (v := 1) hx hb dX12_tray_29 (by decide) ?_
      refine z_callVi (As := [.int 1]) (rest := []) (wr := [(a_traySort, .inl (cA.1 0, 4, .inl g_traySort)), (a_trayMany, .inl (cA.1 0, 4, .inl g_trayMany)), (a_numbers, .inl (cA.1 1, 240, .inr (.inl g_numbers)))]) ⟨hx, hb, hml, hown, hts⟩ hK hE hT hP hD hS hA (r_no l G cA h0 0 0 m_above m_under a_traySort a_trayMany a_numbers a_tape m_taped m_textEnd m_faultKind m_faultAt m_bad m_badAt m_token m_at m_behind m_number m_letters m_word a_c a_words m_markMany a_there a_tried a_best a_found m_thereMany m_foundMany m_orderHow m_orderRing m_orderMany m_hasBest m_bestTop m_bestBy a_weights a_shared m_random m_truePlace m_trueWay m_seconds m_done m_feelings m_tries m_leftOver m_playDoor m_playRing m_isOpen m_isOver m_wasTried m_hasPlayed a_feltNow a_last a_kept m_hasSeconds m_hasTurned m_hasRound a_hasFeels a_isOn m_firstAct m_meanTop m_meanBy a_order m_rowMany m_newSteps 1) lk_RX12_97 ⟨rfl, rfl⟩ ⟨Nat.le_of_ble_eq_true rfl, Nat.le_of_ble_eq_true rfl⟩ 12 rfl rfl rfl [0] [1, 2, 3] rfl rfl (by decide) rfl hl.1 rfl (lv_room (Nat.le_of_ble_eq_true rfl)) dX12_tray_30 ⟨Nat.le_of_ble_eq_true rfl, Nat.le_of_ble_eq_true rfl⟩ (fun r_12 u_13 H locs hw hP hD hS => ?_)
      obtain ⟨n_11, rfl⟩ : ∃ z, z = u_13 := ⟨_, rfl⟩
      obtain ⟨he_r_12, he_n_11, hw⟩ := hw
      obtain ⟨rfl, -⟩ := hw
      have hpost : ((0 : Int32) = 0 ∧ (0 ≤ (0 : Int32).toInt ∧ (0 : Int32).toInt ≤ 0) ∧ (zRg 4 (-1) 60 g_trayMany)) ∨ ((0 : Int32) = 1 ∧ (0 ≤ n_11.toInt ∧ n_11.toInt ≤ 0) ∧ (0 ≤ (0 : Int32).toInt ∧ (0 : Int32).toInt ≤ 0) ∧ (zRg 4 (-1) 60 g_trayMany)) := (Or.inl ⟨rfl, ⟨(by decide +kernel), hC_g_trayMany⟩⟩)
      have hX_15 : F_r_tray g_traySort g_trayMany g_numbers t ss nn = (((0 : Int32), g_traySort, g_trayMany, g_numbers) : Int32 × (Nat → Int32) × (Nat → Int32) × (Nat → Int64)) := by
        refine (F_r_tray_s ..).trans ?_
        refine (if_neg c_1).trans ?_
        refine (if_pos c_9).trans ?_
        extract_lets -merge -useContext +onlyGivenNames w9 y2_0 y2_1; have e9 : ((0 : Int32), n_11) = w9 := ((z_tS he_r_12 he_n_11.symm)).symm; clear_value w9; subst e9
        exact rfl
      exact hret _ _ _ _ _ _ (n_11, 0, g_traySort, g_trayMany, g_numbers) [3, 0, 1, 2] hP hD hS rfl (by decide) dX12_tray_33 (Or.inl rfl) ⟨(congrArg (fun z9 => z9.1) hX_15).symm, (congrArg (fun z9 => z9.2.1) hX_15).symm, (congrArg (fun z9 => z9.2.2.1) hX_15).symm, (congrArg (fun z9 => z9.2.2.2) hX_15).symm, hpost⟩
    · have b_16 := z_fltF c_9
      refine lv_iload_n hx hb dX12_tray_19 rfl (lv_at hl 2 rfl) ?_
      refine lv_if_lt (tgt := 28) hx hb dX12_tray_20 (by decide) (fun c_17 => ?_) (fun c_17 => ?_)
      · have b_18 := z_fltT c_17
        refine lv_aload_n hx hb dX12_tray_28 rfl (lv_at hl 0 rfl) ?_
        refine lv_iconst (v := 1) hx hb dX12_tray_29 (by decide) ?_
        refine z_callVi (As := [.int 1]) (rest := []) (wr := [(a_traySort, .inl (cA.1 0, 4, .inl g_traySort)), (a_trayMany, .inl (cA.1 0, 4, .inl g_trayMany)), (a_numbers, .inl (cA.1 1, 240, .inr (.inl g_numbers)))]) ⟨hx, hb, hml, hown, hts⟩ hK hE hT hP hD hS hA (r_no l G cA h0 0 0 m_above m_under a_traySort a_trayMany a_numbers a_tape m_taped m_textEnd m_faultKind m_faultAt m_bad m_badAt m_token m_at m_behind m_number m_letters m_word a_c a_words m_markMany a_there a_tried a_best a_found m_thereMany m_foundMany m_orderHow m_orderRing m_orderMany m_hasBest m_bestTop m_bestBy a_weights a_shared m_random m_truePlace m_trueWay m_seconds m_done m_feelings m_tries m_leftOver m_playDoor m_playRing m_isOpen m_isOver m_wasTried m_hasPlayed a_feltNow a_last a_kept m_hasSeconds m_hasTurned m_hasRound a_hasFeels a_isOn m_firstAct m_meanTop m_meanBy a_order m_rowMany m_newSteps 1) lk_RX12_97 ⟨rfl, rfl⟩ ⟨Nat.le_of_ble_eq_true rfl, Nat.le_of_ble_eq_true rfl⟩ 12 rfl rfl rfl [0] [1, 2, 3] rfl rfl (by decide) rfl hl.1 rfl (lv_room (Nat.le_of_ble_eq_true rfl)) dX12_tray_30 ⟨Nat.le_of_ble_eq_true rfl, Nat.le_of_ble_eq_true rfl⟩ (fun r_20 u_21 H locs hw hP hD hS => ?_)
        obtain ⟨n_19, rfl⟩ : ∃ z, z = u_21 := ⟨_, rfl⟩
        obtain ⟨he_r_20, he_n_19, hw⟩ := hw
        obtain ⟨rfl, -⟩ := hw
        have hpost : ((0 : Int32) = 0 ∧ (0 ≤ (0 : Int32).toInt ∧ (0 : Int32).toInt ≤ 0) ∧ (zRg 4 (-1) 60 g_trayMany)) ∨ ((0 : Int32) = 1 ∧ (0 ≤ n_19.toInt ∧ n_19.toInt ≤ 0) ∧ (0 ≤ (0 : Int32).toInt ∧ (0 : Int32).toInt ≤ 0) ∧ (zRg 4 (-1) 60 g_trayMany)) := (Or.inl ⟨rfl, ⟨(by decide +kernel), hC_g_trayMany⟩⟩)
        have hX_23 : F_r_tray g_traySort g_trayMany g_numbers t ss nn = (((0 : Int32), g_traySort, g_trayMany, g_numbers) : Int32 × (Nat → Int32) × (Nat → Int32) × (Nat → Int64)) := by
          refine (F_r_tray_s ..).trans ?_
          refine (if_neg c_1).trans ?_
          refine (if_neg c_9).trans ?_
          refine (if_pos c_17).trans ?_
          extract_lets -merge -useContext +onlyGivenNames w9 y3_0 y3_1; have e9 : ((0 : Int32), n_19) = w9 := ((z_tS he_r_20 he_n_19.symm)).symm; clear_value w9; subst e9
          exact rfl
        exact hret _ _ _ _ _ _ (n_19, 0, g_traySort, g_trayMany, g_numbers) [3, 0, 1, 2] hP hD hS rfl (by decide) dX12_tray_33 (Or.inl rfl) ⟨(congrArg (fun z9 => z9.1) hX_23).symm, (congrArg (fun z9 => z9.2.1) hX_23).symm, (congrArg (fun z9 => z9.2.2.1) hX_23).symm, (congrArg (fun z9 => z9.2.2.2) hX_23).symm, hpost⟩
      · have b_24 := z_fgeF c_17
        refine lv_iload_n hx hb dX12_tray_23 rfl (lv_at hl 2 rfl) ?_
        refine lv_iconst (v := 3) hx hb dX12_tray_24 (by decide) ?_
        refine lv_icmp_le (tgt := 34) hx hb dX12_tray_25 (by decide) (fun c_25 => ?_) (fun c_25 => ?_)
        · have b_26 := z_fleT c_25
          refine lv_iload_n hx hb dX12_tray_34 rfl (lv_at hl 3 rfl) ?_
          refine lv_bipush (v := 60) hx hb dX12_tray_35 (by decide) ?_
          refine lv_icmp_le (tgt := 46) hx hb dX12_tray_37 (by decide) (fun c_27 => ?_) (fun c_27 => ?_)
          · have b_28 := z_fleT c_27
            refine lv_iload_n hx hb dX12_tray_46 rfl (lv_at hl 3 rfl) ?_
            refine lv_if_ge (tgt := 57) hx hb dX12_tray_47 (by decide) (fun c_29 => ?_) (fun c_29 => ?_)
            · have b_30 := z_fgeT c_29
              refine lv_aload_n hx hb dX12_tray_57 rfl (lv_at hl 0 rfl) ?_
              refine va_get (D := G) (ci := 12) (v := .ref a_traySort) (C := RX12) (T := TX12) (N := 65) hx hb hts inT12 hown hK hP 0 rfl rfl 4 (by decide) (hts _ tw_1889) (fun _ h9 => h9) rfl dX12_tray_58 ?_
              refine lv_iload_n hx hb dX12_tray_61 rfl (lv_at hl 1 rfl) ?_
              refine lv_iload_n hx hb dX12_tray_62 rfl (lv_at hl 2 rfl) ?_
              refine z_iast hx hb hK hP hD hS 1 0 rfl rfl (z_inN (by omega) (by omega)) dX12_tray_63 (fun g_31 hg_g_31 H locs hP hD hS => ?_)
              refine lv_aload_n hx hb dX12_tray_64 rfl (lv_at hl 0 rfl) ?_
              refine va_get (D := G) (ci := 12) (v := .ref a_trayMany) (C := RX12) (T := TX12) (N := 65) hx hb hts inT12 hown hK hP 0 rfl rfl 5 (by decide) (hts _ tw_1890) (fun _ h9 => h9) rfl dX12_tray_65 ?_
              refine lv_iload_n hx hb dX12_tray_68 rfl (lv_at hl 1 rfl) ?_
              refine lv_iload_n hx hb dX12_tray_69 rfl (lv_at hl 3 rfl) ?_
              refine z_iast hx hb hK hP hD hS 2 0 rfl rfl (z_inN (by omega) (by omega)) dX12_tray_70 (fun g_32 hg_g_32 H locs hP hD hS => ?_)
              have hC_g_32 := z_rgU hC_g_trayMany hg_g_32 (by omega)
              refine lv_iconst (v := 0) hx hb dX12_tray_71 (by decide) ?_
              refine lv_istore (lv' := [(4, .int 0), (0, .ref h0), (1, .int t), (2, .int ss), (3, .int nn)]) hx hb dX12_tray_72 hl (by decide) rfl (fun ls hl => ?_)
              have hlp_271 : ∀ (n_L74a : Nat) (v_255 : Int32) (g_256 : Nat → Int64) (H : Heap) (locs : List Loc) (ls : Array Slot), (2147483647 - v_255.toInt).toNat < n_L74a → (0 ≤ v_255.toInt ∧ v_255.toInt ≤ 60) → (F_r_tray g_traySort g_trayMany g_numbers t ss nn = F_r_tray_L74a t nn g_31 g_32 n_L74a v_255 g_256) → va_P G vwCl [(h0, .inr (12, [.int 0, .int 0, .long m_above, .long m_under, .ref a_traySort, .ref a_trayMany, .ref a_numbers, .ref a_tape, .int m_taped, .int m_textEnd, .int m_faultKind, .int m_faultAt, .int m_bad, .int m_badAt, .int m_token, .int m_at, .int m_behind, .int m_number, .int m_letters, .long m_word, .ref a_c, .ref a_words, .int m_markMany, .ref a_there, .ref a_tried, .ref a_best, .ref a_found, .int m_thereMany, .int m_foundMany, .int m_orderHow, .int m_orderRing, .int m_orderMany, .int m_hasBest, .long m_bestTop, .long m_bestBy, .ref a_weights, .ref a_shared, .int m_random, .int m_truePlace, .int m_trueWay, .int m_seconds, .int m_done, .int m_feelings, .int m_tries, .int m_leftOver, .int m_playDoor, .int m_playRing, .int m_isOpen, .int m_isOver, .int m_wasTried, .int m_hasPlayed, .ref a_feltNow, .ref a_last, .ref a_kept, .int m_hasSeconds, .int m_hasTurned, .int m_hasRound, .ref a_hasFeels, .ref a_isOn, .int m_firstAct, .long m_meanTop, .long m_meanBy, .ref a_order, .int m_rowMany, .int m_newSteps])), (a_traySort, .inl (cA.1 0, 4, .inl g_31)), (a_trayMany, .inl (cA.1 0, 4, .inl g_32)), (a_numbers, .inl (cA.1 1, 240, .inr (.inl g_256)))] H → va_D A [(h0, .inr (12, [.int 0, .int 0, .long m_above, .long m_under, .ref a_traySort, .ref a_trayMany, .ref a_numbers, .ref a_tape, .int m_taped, .int m_textEnd, .int m_faultKind, .int m_faultAt, .int m_bad, .int m_badAt, .int m_token, .int m_at, .int m_behind, .int m_number, .int m_letters, .long m_word, .ref a_c, .ref a_words, .int m_markMany, .ref a_there, .ref a_tried, .ref a_best, .ref a_found, .int m_thereMany, .int m_foundMany, .int m_orderHow, .int m_orderRing, .int m_orderMany, .int m_hasBest, .long m_bestTop, .long m_bestBy, .ref a_weights, .ref a_shared, .int m_random, .int m_truePlace, .int m_trueWay, .int m_seconds, .int m_done, .int m_feelings, .int m_tries, .int m_leftOver, .int m_playDoor, .int m_playRing, .int m_isOpen, .int m_isOver, .int m_wasTried, .int m_hasPlayed, .ref a_feltNow, .ref a_last, .ref a_kept, .int m_hasSeconds, .int m_hasTurned, .int m_hasRound, .ref a_hasFeels, .ref a_isOn, .int m_firstAct, .long m_meanTop, .long m_meanBy, .ref a_order, .int m_rowMany, .int m_newSteps])), (a_traySort, .inl (cA.1 0, 4, .inl g_31)), (a_trayMany, .inl (cA.1 0, 4, .inl g_32)), (a_numbers, .inl (cA.1 1, 240, .inr (.inl g_256)))] → va_S A s.heap H locs → lv_has ls 5 [(0, .ref h0), (1, .int t), (2, .int ss), (3, .int nn), (4, .int v_255)] → W p l e ({ frames := 1, cells := 0, slots := 0, locals := 21 }) s m args below meth c H locs 0 0 Q (F0 m 74 ls []) := by
                intro n_L74a
                induction n_L74a with
                | zero =>
                  intro v_255 g_256 H locs ls hmu_hlp_271 hr_v_255 hF_L74a hP hD hS hl
                  exact absurd hmu_hlp_271 (Nat.not_lt_zero _)
                | succ n_L74a ih_272 =>
                  intro v_255 g_256 H locs ls hmu_hlp_271 hr_v_255 hF_L74a hP hD hS hl
                  refine lv_iload hx hb dX12_tray_74 (lv_at hl 4 rfl) ?_
                  refine lv_iload_n hx hb dX12_tray_76 rfl (lv_at hl 3 rfl) ?_
                  refine lv_icmp_ge (tgt := 99) hx hb dX12_tray_77 (by decide) (fun c_273 => ?_) (fun c_273 => ?_)
                  · have b_274 := z_fgeT c_273
                    refine lv_iconst (v := 1) hx hb dX12_tray_99 (by decide) ?_
                    have hpost : ((1 : Int32) = 0 ∧ (0 ≤ (0 : Int32).toInt ∧ (0 : Int32).toInt ≤ 0) ∧ (zRg 4 (-1) 60 g_32)) ∨ ((1 : Int32) = 1 ∧ (0 ≤ (0 : Int32).toInt ∧ (0 : Int32).toInt ≤ 0) ∧ (0 ≤ (0 : Int32).toInt ∧ (0 : Int32).toInt ≤ 0) ∧ (zRg 4 (-1) 60 g_32)) := (Or.inr ⟨rfl, ⟨(by decide +kernel), (by decide +kernel), hC_g_32⟩⟩)
                    have hX_275 : F_r_tray g_traySort g_trayMany g_numbers t ss nn = (((1 : Int32), g_31, g_32, g_256) : Int32 × (Nat → Int32) × (Nat → Int32) × (Nat → Int64)) := by
                      refine hF_L74a.trans ?_
                      refine (F_r_tray_L74a_s ..).trans ?_
                      refine (if_pos c_273).trans ?_
                      exact rfl
                    exact hret _ _ _ _ _ _ (0, 0, g_31, g_32, g_256) [0, 1, 2, 3] hP hD hS rfl (by decide) dX12_tray_100 (Or.inr rfl) ⟨(congrArg (fun z9 => z9.1) hX_275).symm, (congrArg (fun z9 => z9.2.1) hX_275).symm, (congrArg (fun z9 => z9.2.2.1) hX_275).symm, (congrArg (fun z9 => z9.2.2.2) hX_275).symm, hpost⟩
                  · have b_276 := z_fltF c_273
                    refine lv_aload_n hx hb dX12_tray_80 rfl (lv_at hl 0 rfl) ?_
                    refine va_get (D := G) (ci := 12) (v := .ref a_numbers) (C := RX12) (T := TX12) (N := 65) hx hb hts inT12 hown hK hP 0 rfl rfl 6 (by decide) (hts _ tw_1891) (fun _ h9 => h9) rfl dX12_tray_81 ?_
                    refine lv_bipush (v := 60) hx hb dX12_tray_84 (by decide) ?_
                    refine lv_iload_n hx hb dX12_tray_86 rfl (lv_at hl 1 rfl) ?_
                    refine lv_imul hx hb dX12_tray_87 ?_
                    refine lv_topi (fun x_277 he_x_277 => ?_)
                    have hq_x_277 := z_mulq he_x_277 hk_60 (rfl : t.toInt = _) (by omega) (by omega)
                    refine lv_iload hx hb dX12_tray_88 (lv_at hl 4 rfl) ?_
                    refine lv_iadd hx hb dX12_tray_90 ?_
                    refine lv_topi (fun x_278 he_x_278 => ?_)
                    have hq_x_278 := z_addq he_x_278 (rfl : x_277.toInt = _) (rfl : v_255.toInt = _) (by omega) (by omega)
                    refine lv_lconst (v := 0) hx hb dX12_tray_91 (by decide) ?_
                    refine z_last hx hb hK hP hD hS 3 1 rfl rfl (z_inN (by omega) (by omega)) dX12_tray_92 (fun g_279 hg_g_279 H locs hP hD hS => ?_)
                    obtain ⟨x_280, he_x_280⟩ : ∃ z : Int32, z = v_255 + 1 := ⟨_, rfl⟩
                    have hq_x_280 := z_addq he_x_280 (rfl : v_255.toInt = _) hk_1 (by omega) (by omega)
                    refine lv_iinc (v := x_280) (lv' := [(4, .int x_280), (0, .ref h0), (1, .int t), (2, .int ss), (3, .int nn)]) hx hb dX12_tray_93 hl (k := 4) rfl ((z_ofi (by decide +kernel)).trans he_x_280.symm) (by decide) rfl (fun ls hl => ?_)
                    refine lv_goto (tgt := 74) hx hb dX12_tray_96 (by decide) ?_
                    have hX_281 : F_r_tray g_traySort g_trayMany g_numbers t ss nn = F_r_tray_L74a t nn g_31 g_32 n_L74a x_280 g_279 := by
                      refine hF_L74a.trans ?_
                      refine (F_r_tray_L74a_s ..).trans ?_
                      refine (if_neg c_273).trans ?_
                      try (extract_lets -merge -useContext +onlyGivenNames y9; have e9 : x_277 = y9 := (by first | exact he_x_277 | exact he_x_277.symm); clear_value y9; subst e9)
                      try (extract_lets -merge -useContext +onlyGivenNames y9; have e9 : x_278 = y9 := (by first | exact he_x_278 | exact he_x_278.symm); clear_value y9; subst e9)
                      try (extract_lets -merge -useContext +onlyGivenNames y9; have e9 : g_279 = y9 := (by first | exact hg_g_279 | exact hg_g_279.symm); clear_value y9; subst e9)
                      try (extract_lets -merge -useContext +onlyGivenNames y9; have e9 : x_280 = y9 := (by first | exact he_x_280 | exact he_x_280.symm); clear_value y9; subst e9)
                      exact rfl
                    exact ih_272 x_280 g_279 H locs ls (by omega) (by omega) hX_281 hP hD hS (lv_sub hl [1, 2, 3, 4, 0] rfl)
              have hX_282 : F_r_tray g_traySort g_trayMany g_numbers t ss nn = F_r_tray_L74a t nn g_31 g_32 ((2147483647 - (0 : Int32).toInt).toNat + 1) (0 : Int32) g_numbers := by
                refine (F_r_tray_s ..).trans ?_
                refine (if_neg c_1).trans ?_
                refine (if_neg c_9).trans ?_
                refine (if_neg c_17).trans ?_
                refine (if_pos c_25).trans ?_
                refine (if_pos c_27).trans ?_
                refine (if_pos c_29).trans ?_
                try (extract_lets -merge -useContext +onlyGivenNames y9; have e9 : g_31 = y9 := (by first | exact hg_g_31 | exact hg_g_31.symm); clear_value y9; subst e9)
                try (extract_lets -merge -useContext +onlyGivenNames y9; have e9 : g_32 = y9 := (by first | exact hg_g_32 | exact hg_g_32.symm); clear_value y9; subst e9)
                exact rfl
              exact hlp_271 ((2147483647 - (0 : Int32).toInt).toNat + 1) 0 g_numbers _ _ _ (Nat.lt_succ_self _) (by decide +kernel) hX_282 hP hD hS (lv_sub hl [1, 2, 3, 4, 0] rfl)
            · have b_283 := z_fltF c_29
              refine lv_aload_n hx hb dX12_tray_50 rfl (lv_at hl 0 rfl) ?_
              refine lv_bipush (v := 6) hx hb dX12_tray_51 (by decide) ?_
              refine z_callVi (As := [.int 6]) (rest := []) (wr := [(a_traySort, .inl (cA.1 0, 4, .inl g_traySort)), (a_trayMany, .inl (cA.1 0, 4, .inl g_trayMany)), (a_numbers, .inl (cA.1 1, 240, .inr (.inl g_numbers)))]) ⟨hx, hb, hml, hown, hts⟩ hK hE hT hP hD hS hA (r_no l G cA h0 0 0 m_above m_under a_traySort a_trayMany a_numbers a_tape m_taped m_textEnd m_faultKind m_faultAt m_bad m_badAt m_token m_at m_behind m_number m_letters m_word a_c a_words m_markMany a_there a_tried a_best a_found m_thereMany m_foundMany m_orderHow m_orderRing m_orderMany m_hasBest m_bestTop m_bestBy a_weights a_shared m_random m_truePlace m_trueWay m_seconds m_done m_feelings m_tries m_leftOver m_playDoor m_playRing m_isOpen m_isOver m_wasTried m_hasPlayed a_feltNow a_last a_kept m_hasSeconds m_hasTurned m_hasRound a_hasFeels a_isOn m_firstAct m_meanTop m_meanBy a_order m_rowMany m_newSteps 6) lk_RX12_97 ⟨rfl, rfl⟩ ⟨Nat.le_of_ble_eq_true rfl, Nat.le_of_ble_eq_true rfl⟩ 12 rfl rfl rfl [0] [1, 2, 3] rfl rfl (by decide) rfl hl.1 rfl (lv_room (Nat.le_of_ble_eq_true rfl)) dX12_tray_53 ⟨Nat.le_of_ble_eq_true rfl, Nat.le_of_ble_eq_true rfl⟩ (fun r_285 u_286 H locs hw hP hD hS => ?_)
              obtain ⟨n_284, rfl⟩ : ∃ z, z = u_286 := ⟨_, rfl⟩
              obtain ⟨he_r_285, he_n_284, hw⟩ := hw
              obtain ⟨rfl, -⟩ := hw
              have hpost : ((0 : Int32) = 0 ∧ (0 ≤ (0 : Int32).toInt ∧ (0 : Int32).toInt ≤ 0) ∧ (zRg 4 (-1) 60 g_trayMany)) ∨ ((0 : Int32) = 1 ∧ (0 ≤ n_284.toInt ∧ n_284.toInt ≤ 0) ∧ (0 ≤ (0 : Int32).toInt ∧ (0 : Int32).toInt ≤ 0) ∧ (zRg 4 (-1) 60 g_trayMany)) := (Or.inl ⟨rfl, ⟨(by decide +kernel), hC_g_trayMany⟩⟩)
              have hX_288 : F_r_tray g_traySort g_trayMany g_numbers t ss nn = (((0 : Int32), g_traySort, g_trayMany, g_numbers) : Int32 × (Nat → Int32) × (Nat → Int32) × (Nat → Int64)) := by
                refine (F_r_tray_s ..).trans ?_
                refine (if_neg c_1).trans ?_
                refine (if_neg c_9).trans ?_
                refine (if_neg c_17).trans ?_
                refine (if_pos c_25).trans ?_
                refine (if_pos c_27).trans ?_
                refine (if_neg c_29).trans ?_
                extract_lets -merge -useContext +onlyGivenNames w9 y6_0 y6_1; have e9 : ((0 : Int32), n_284) = w9 := ((z_tS he_r_285 he_n_284.symm)).symm; clear_value w9; subst e9
                exact rfl
              exact hret _ _ _ _ _ _ (n_284, 0, g_traySort, g_trayMany, g_numbers) [3, 0, 1, 2] hP hD hS rfl (by decide) dX12_tray_56 (Or.inl rfl) ⟨(congrArg (fun z9 => z9.1) hX_288).symm, (congrArg (fun z9 => z9.2.1) hX_288).symm, (congrArg (fun z9 => z9.2.2.1) hX_288).symm, (congrArg (fun z9 => z9.2.2.2) hX_288).symm, hpost⟩
          · have b_289 := z_fgtF c_27
            refine lv_aload_n hx hb dX12_tray_40 rfl (lv_at hl 0 rfl) ?_
            refine lv_iconst (v := 5) hx hb dX12_tray_41 (by decide) ?_
            refine z_callVi (As := [.int 5]) (rest := []) (wr := [(a_traySort, .inl (cA.1 0, 4, .inl g_traySort)), (a_trayMany, .inl (cA.1 0, 4, .inl g_trayMany)), (a_numbers, .inl (cA.1 1, 240, .inr (.inl g_numbers)))]) ⟨hx, hb, hml, hown, hts⟩ hK hE hT hP hD hS hA (r_no l G cA h0 0 0 m_above m_under a_traySort a_trayMany a_numbers a_tape m_taped m_textEnd m_faultKind m_faultAt m_bad m_badAt m_token m_at m_behind m_number m_letters m_word a_c a_words m_markMany a_there a_tried a_best a_found m_thereMany m_foundMany m_orderHow m_orderRing m_orderMany m_hasBest m_bestTop m_bestBy a_weights a_shared m_random m_truePlace m_trueWay m_seconds m_done m_feelings m_tries m_leftOver m_playDoor m_playRing m_isOpen m_isOver m_wasTried m_hasPlayed a_feltNow a_last a_kept m_hasSeconds m_hasTurned m_hasRound a_hasFeels a_isOn m_firstAct m_meanTop m_meanBy a_order m_rowMany m_newSteps 5) lk_RX12_97 ⟨rfl, rfl⟩ ⟨Nat.le_of_ble_eq_true rfl, Nat.le_of_ble_eq_true rfl⟩ 12 rfl rfl rfl [0] [1, 2, 3] rfl rfl (by decide) rfl hl.1 rfl (lv_room (Nat.le_of_ble_eq_true rfl)) dX12_tray_42 ⟨Nat.le_of_ble_eq_true rfl, Nat.le_of_ble_eq_true rfl⟩ (fun r_291 u_292 H locs hw hP hD hS => ?_)
            obtain ⟨n_290, rfl⟩ : ∃ z, z = u_292 := ⟨_, rfl⟩
            obtain ⟨he_r_291, he_n_290, hw⟩ := hw
            obtain ⟨rfl, -⟩ := hw
            have hpost : ((0 : Int32) = 0 ∧ (0 ≤ (0 : Int32).toInt ∧ (0 : Int32).toInt ≤ 0) ∧ (zRg 4 (-1) 60 g_trayMany)) ∨ ((0 : Int32) = 1 ∧ (0 ≤ n_290.toInt ∧ n_290.toInt ≤ 0) ∧ (0 ≤ (0 : Int32).toInt ∧ (0 : Int32).toInt ≤ 0) ∧ (zRg 4 (-1) 60 g_trayMany)) := (Or.inl ⟨rfl, ⟨(by decide +kernel), hC_g_trayMany⟩⟩)
            have hX_294 : F_r_tray g_traySort g_trayMany g_numbers t ss nn = (((0 : Int32), g_traySort, g_trayMany, g_numbers) : Int32 × (Nat → Int32) × (Nat → Int32) × (Nat → Int64)) := by
              refine (F_r_tray_s ..).trans ?_
              refine (if_neg c_1).trans ?_
              refine (if_neg c_9).trans ?_
              refine (if_neg c_17).trans ?_
              refine (if_pos c_25).trans ?_
              refine (if_neg c_27).trans ?_
              extract_lets -merge -useContext +onlyGivenNames w9 y5_0 y5_1; have e9 : ((0 : Int32), n_290) = w9 := ((z_tS he_r_291 he_n_290.symm)).symm; clear_value w9; subst e9
              exact rfl
            exact hret _ _ _ _ _ _ (n_290, 0, g_traySort, g_trayMany, g_numbers) [3, 0, 1, 2] hP hD hS rfl (by decide) dX12_tray_45 (Or.inl rfl) ⟨(congrArg (fun z9 => z9.1) hX_294).symm, (congrArg (fun z9 => z9.2.1) hX_294).symm, (congrArg (fun z9 => z9.2.2.1) hX_294).symm, (congrArg (fun z9 => z9.2.2.2) hX_294).symm, hpost⟩
        · have b_295 := z_fgtF c_25
          refine lv_aload_n hx hb dX12_tray_28 rfl (lv_at hl 0 rfl) ?_
          refine lv_iconst (v := 1) hx hb dX12_tray_29 (by decide) ?_
          refine z_callVi (As := [.int 1]) (rest := []) (wr := [(a_traySort, .inl (cA.1 0, 4, .inl g_traySort)), (a_trayMany, .inl (cA.1 0, 4, .inl g_trayMany)), (a_numbers, .inl (cA.1 1, 240, .inr (.inl g_numbers)))]) ⟨hx, hb, hml, hown, hts⟩ hK hE hT hP hD hS hA (r_no l G cA h0 0 0 m_above m_under a_traySort a_trayMany a_numbers a_tape m_taped m_textEnd m_faultKind m_faultAt m_bad m_badAt m_token m_at m_behind m_number m_letters m_word a_c a_words m_markMany a_there a_tried a_best a_found m_thereMany m_foundMany m_orderHow m_orderRing m_orderMany m_hasBest m_bestTop m_bestBy a_weights a_shared m_random m_truePlace m_trueWay m_seconds m_done m_feelings m_tries m_leftOver m_playDoor m_playRing m_isOpen m_isOver m_wasTried m_hasPlayed a_feltNow a_last a_kept m_hasSeconds m_hasTurned m_hasRound a_hasFeels a_isOn m_firstAct m_meanTop m_meanBy a_order m_rowMany m_newSteps 1) lk_RX12_97 ⟨rfl, rfl⟩ ⟨Nat.le_of_ble_eq_true rfl, Nat.le_of_ble_eq_true rfl⟩ 12 rfl rfl rfl [0] [1, 2, 3] rfl rfl (by decide) rfl hl.1 rfl (lv_room (Nat.le_of_ble_eq_true rfl)) dX12_tray_30 ⟨Nat.le_of_ble_eq_true rfl, Nat.le_of_ble_eq_true rfl⟩ (fun r_297 u_298 H locs hw hP hD hS => ?_)
          obtain ⟨n_296, rfl⟩ : ∃ z, z = u_298 := ⟨_, rfl⟩
          obtain ⟨he_r_297, he_n_296, hw⟩ := hw
          obtain ⟨rfl, -⟩ := hw
          have hpost : ((0 : Int32) = 0 ∧ (0 ≤ (0 : Int32).toInt ∧ (0 : Int32).toInt ≤ 0) ∧ (zRg 4 (-1) 60 g_trayMany)) ∨ ((0 : Int32) = 1 ∧ (0 ≤ n_296.toInt ∧ n_296.toInt ≤ 0) ∧ (0 ≤ (0 : Int32).toInt ∧ (0 : Int32).toInt ≤ 0) ∧ (zRg 4 (-1) 60 g_trayMany)) := (Or.inl ⟨rfl, ⟨(by decide +kernel), hC_g_trayMany⟩⟩)
          have hX_300 : F_r_tray g_traySort g_trayMany g_numbers t ss nn = (((0 : Int32), g_traySort, g_trayMany, g_numbers) : Int32 × (Nat → Int32) × (Nat → Int32) × (Nat → Int64)) := by
            refine (F_r_tray_s ..).trans ?_
            refine (if_neg c_1).trans ?_
            refine (if_neg c_9).trans ?_
            refine (if_neg c_17).trans ?_
            refine (if_neg c_25).trans ?_
            extract_lets -merge -useContext +onlyGivenNames w9 y4_0 y4_1; have e9 : ((0 : Int32), n_296) = w9 := ((z_tS he_r_297 he_n_296.symm)).symm; clear_value w9; subst e9
            exact rfl
          exact hret _ _ _ _ _ _ (n_296, 0, g_traySort, g_trayMany, g_numbers) [3, 0, 1, 2] hP hD hS rfl (by decide) dX12_tray_33 (Or.inl rfl) ⟨(congrArg (fun z9 => z9.1) hX_300).symm, (congrArg (fun z9 => z9.2.1) hX_300).symm, (congrArg (fun z9 => z9.2.2.1) hX_300).symm, (congrArg (fun z9 => z9.2.2.2) hX_300).symm, hpost⟩
set_option maxHeartbeats 4000000 in
set_option maxRecDepth 100000 in
theorem r_numberOf (l : Launch) (G : va_G) (cA : zCA) (h0 : Nat) (m_status : Int32) (m_thrown : Int32) (m_above : Int64) (m_under : Int64) (a_traySort : Nat) (a_trayMany : Nat) (a_numbers : Nat) (a_tape : Nat) (m_taped : Int32) (m_textEnd : Int32) (m_faultKind : Int32) (m_faultAt : Int32) (m_bad : Int32) (m_badAt : Int32) (m_token : Int32) (m_at : Int32) (m_behind : Int32) (m_number : Int32) (m_letters : Int32) (m_word : Int64) (a_c : Nat) (a_words : Nat) (m_markMany : Int32) (a_there : Nat) (a_tried : Nat) (a_best : Nat) (a_found : Nat) (m_thereMany : Int32) (m_foundMany : Int32) (m_orderHow : Int32) (m_orderRing : Int32) (m_orderMany : Int32) (m_hasBest : Int32) (m_bestTop : Int64) (m_bestBy : Int64) (a_weights : Nat) (a_shared : Nat) (m_random : Int32) (m_truePlace : Int32) (m_trueWay : Int32) (m_seconds : Int32) (m_done : Int32) (m_feelings : Int32) (m_tries : Int32) (m_leftOver : Int32) (m_playDoor : Int32) (m_playRing : Int32) (m_isOpen : Int32) (m_isOver : Int32) (m_wasTried : Int32) (m_hasPlayed : Int32) (a_feltNow : Nat) (a_last : Nat) (a_kept : Nat) (m_hasSeconds : Int32) (m_hasTurned : Int32) (m_hasRound : Int32) (a_hasFeels : Nat) (a_isOn : Nat) (m_firstAct : Int32) (m_meanTop : Int64) (m_meanBy : Int64) (a_order : Nat) (m_rowMany : Int32) (m_newSteps : Int32) (g_numbers : Nat → Int64) (t : Int32) (k : Int32) (hr_t : 0 ≤ t.toInt ∧ t.toInt ≤ 3) (hr_k : 0 ≤ k.toInt ∧ k.toInt ≤ 59) : zCl l yX12_numberOf cX12_numberOf 3 (some .long) ({ frames := 0, cells := 0, slots := 0, locals := 0 }) G cA [.ref h0, .int t, .int k] [(h0, .inr (12, [.int m_status, .int m_thrown, .long m_above, .long m_under, .ref a_traySort, .ref a_trayMany, .ref a_numbers, .ref a_tape, .int m_taped, .int m_textEnd, .int m_faultKind, .int m_faultAt, .int m_bad, .int m_badAt, .int m_token, .int m_at, .int m_behind, .int m_number, .int m_letters, .long m_word, .ref a_c, .ref a_words, .int m_markMany, .ref a_there, .ref a_tried, .ref a_best, .ref a_found, .int m_thereMany, .int m_foundMany, .int m_orderHow, .int m_orderRing, .int m_orderMany, .int m_hasBest, .long m_bestTop, .long m_bestBy, .ref a_weights, .ref a_shared, .int m_random, .int m_truePlace, .int m_trueWay, .int m_seconds, .int m_done, .int m_feelings, .int m_tries, .int m_leftOver, .int m_playDoor, .int m_playRing, .int m_isOpen, .int m_isOver, .int m_wasTried, .int m_hasPlayed, .ref a_feltNow, .ref a_last, .ref a_kept, .int m_hasSeconds, .int m_hasTurned, .int m_hasRound, .ref a_hasFeels, .ref a_isOn, .int m_firstAct, .long m_meanTop, .long m_meanBy, .ref a_order, .int m_rowMany, .int m_newSteps])), (a_numbers, .inl (cA.1 1, 240, .inr (.inl g_numbers)))] (S := Unit) (fun (r : Int64) (u : Unit) => (r = g_numbers (60 * t.toInt.toNat + k.toInt.toNat))) (fun (u : Unit) => [(h0, .inr (12, [.int m_status, .int m_thrown, .long m_above, .long m_under, .ref a_traySort, .ref a_trayMany, .ref a_numbers, .ref a_tape, .int m_taped, .int m_textEnd, .int m_faultKind, .int m_faultAt, .int m_bad, .int m_badAt, .int m_token, .int m_at, .int m_behind, .int m_number, .int m_letters, .long m_word, .ref a_c, .ref a_words, .int m_markMany, .ref a_there, .ref a_tried, .ref a_best, .ref a_found, .int m_thereMany, .int m_foundMany, .int m_orderHow, .int m_orderRing, .int m_orderMany, .int m_hasBest, .long m_bestTop, .long m_bestBy, .ref a_weights, .ref a_shared, .int m_random, .int m_truePlace, .int m_trueWay, .int m_seconds, .int m_done, .int m_feelings, .int m_tries, .int m_leftOver, .int m_playDoor, .int m_playRing, .int m_isOpen, .int m_isOver, .int m_wasTried, .int m_hasPlayed, .ref a_feltNow, .ref a_last, .ref a_kept, .int m_hasSeconds, .int m_hasTurned, .int m_hasRound, .ref a_hasFeels, .ref a_isOn, .int m_firstAct, .long m_meanTop, .long m_meanBy, .ref a_order, .int m_rowMany, .int m_newSteps])), (a_numbers, .inl (cA.1 1, 240, .inr (.inl g_numbers)))]) 0 0 := by
  have hk_60 : (60 : Int32).toInt = 60 := by decide +kernel
  refine z_start2l (own := RX12) (by decide) (Nat.le_of_ble_eq_true rfl) rfl ?_
  intro p e s m args below meth c A ls Q hx hb hml hts hown hK hE hT hP hD hS hA hl hret
  have hl : lv_has ls 3 [(0, .ref h0), (1, .int t), (2, .int k)] := hl
  refine lv_aload_n hx hb dX12_numberOf_0 rfl (lv_at hl 0 rfl) ?_
  refine va_get (D := G) (ci := 12) (v := .ref a_numbers) (C := RX12) (T := TX12) (N := 65) hx hb hts inT12 hown hK hP 0 rfl rfl 6 (by decide) (hts _ tw_1891) (fun _ h9 => h9) rfl dX12_numberOf_1 ?_
  refine lv_bipush (v := 60) hx hb dX12_numberOf_4 (by decide) ?_
  refine lv_iload_n hx hb dX12_numberOf_6 rfl (lv_at hl 1 rfl) ?_
  refine lv_imul hx hb dX12_numberOf_7 ?_
  refine lv_topi (fun x_1 he_x_1 => ?_)
  have hq_x_1 := z_mulq he_x_1 hk_60 (rfl : t.toInt = _) (by omega) (by omega)
  refine lv_iload_n hx hb dX12_numberOf_8 rfl (lv_at hl 2 rfl) ?_
  refine lv_iadd hx hb dX12_numberOf_9 ?_
  refine lv_topi (fun x_2 he_x_2 => ?_)
  have hq_x_2 := z_addq he_x_2 (rfl : x_1.toInt = _) (rfl : k.toInt = _) (by omega) (by omega)
  refine va_lald hx hb hK hP 1 1 rfl rfl (z_inN (by omega) (by omega)) dX12_numberOf_10 ?_
  refine lv_topl (fun x_3 he_x_3 => ?_)
  have hpost : (x_3 = g_numbers (60 * t.toInt.toNat + k.toInt.toNat)) := (z_atl he_x_3 (by omega))
  exact hret _ _ _ _ _ _ () [0, 1] hP hD hS rfl (by decide) dX12_numberOf_11 hpost
set_option maxHeartbeats 40000000 in
set_option maxRecDepth 100000 in
theorem r_write (l : Launch) (G : va_G) (cA : zCA) (h0 : Nat) (m_status : Int32) (m_thrown : Int32) (m_above : Int64) (m_under : Int64) (a_traySort : Nat) (a_trayMany : Nat) (a_numbers : Nat) (a_tape : Nat) (m_taped : Int32) (m_textEnd : Int32) (m_faultKind : Int32) (m_faultAt : Int32) (m_bad : Int32) (m_badAt : Int32) (m_token : Int32) (m_at : Int32) (m_behind : Int32) (m_number : Int32) (m_letters : Int32) (m_word : Int64) (a_c : Nat) (a_words : Nat) (m_markMany : Int32) (a_there : Nat) (a_tried : Nat) (a_best : Nat) (a_found : Nat) (m_thereMany : Int32) (m_foundMany : Int32) (m_orderHow : Int32) (m_orderRing : Int32) (m_orderMany : Int32) (m_hasBest : Int32) (m_bestTop : Int64) (m_bestBy : Int64) (a_weights : Nat) (a_shared : Nat) (m_random : Int32) (m_truePlace : Int32) (m_trueWay : Int32) (m_seconds : Int32) (m_done : Int32) (m_feelings : Int32) (m_tries : Int32) (m_leftOver : Int32) (m_playDoor : Int32) (m_playRing : Int32) (m_isOpen : Int32) (m_isOver : Int32) (m_wasTried : Int32) (m_hasPlayed : Int32) (a_feltNow : Nat) (a_last : Nat) (a_kept : Nat) (m_hasSeconds : Int32) (m_hasTurned : Int32) (m_hasRound : Int32) (a_hasFeels : Nat) (a_isOn : Nat) (m_firstAct : Int32) (m_meanTop : Int64) (m_meanBy : Int64) (a_order : Nat) (m_rowMany : Int32) (m_newSteps : Int32) (g_traySort : Nat → Int32) (g_trayMany : Nat → Int32) (g_numbers : Nat → Int64) (t : Int32) (k : Int32) (v : Int64) (hC_g_trayMany : zRg 4 (-1) 60 g_trayMany) : zCi l yX12_write cX12_write 5 (some .boolean) ({ frames := 2, cells := 0, slots := 0, locals := 44 }) G cA [.ref h0, .int t, .int k, .long v] [(h0, .inr (12, [.int m_status, .int m_thrown, .long m_above, .long m_under, .ref a_traySort, .ref a_trayMany, .ref a_numbers, .ref a_tape, .int m_taped, .int m_textEnd, .int m_faultKind, .int m_faultAt, .int m_bad, .int m_badAt, .int m_token, .int m_at, .int m_behind, .int m_number, .int m_letters, .long m_word, .ref a_c, .ref a_words, .int m_markMany, .ref a_there, .ref a_tried, .ref a_best, .ref a_found, .int m_thereMany, .int m_foundMany, .int m_orderHow, .int m_orderRing, .int m_orderMany, .int m_hasBest, .long m_bestTop, .long m_bestBy, .ref a_weights, .ref a_shared, .int m_random, .int m_truePlace, .int m_trueWay, .int m_seconds, .int m_done, .int m_feelings, .int m_tries, .int m_leftOver, .int m_playDoor, .int m_playRing, .int m_isOpen, .int m_isOver, .int m_wasTried, .int m_hasPlayed, .ref a_feltNow, .ref a_last, .ref a_kept, .int m_hasSeconds, .int m_hasTurned, .int m_hasRound, .ref a_hasFeels, .ref a_isOn, .int m_firstAct, .long m_meanTop, .long m_meanBy, .ref a_order, .int m_rowMany, .int m_newSteps])), (a_traySort, .inl (cA.1 0, 4, .inl g_traySort)), (a_trayMany, .inl (cA.1 0, 4, .inl g_trayMany)), (a_numbers, .inl (cA.1 1, 240, .inr (.inl g_numbers)))] (S := Int32 × Int32 × (Nat → Int64)) (fun (r : Int32) (u : Int32 × Int32 × (Nat → Int64)) => (r = (F_r_write g_traySort g_trayMany g_numbers t k v).1) ∧ (u.2.2 = (F_r_write g_traySort g_trayMany g_numbers t k v).2) ∧ ((r = 0 ∧ (1 ≤ u.1.toInt ∧ u.1.toInt ≤ 4) ∧ (0 ≤ u.2.1.toInt ∧ u.2.1.toInt ≤ 0)) ∨ (r = 1 ∧ (0 ≤ u.1.toInt ∧ u.1.toInt ≤ 0) ∧ (0 ≤ u.2.1.toInt ∧ u.2.1.toInt ≤ 0)))) (fun (u : Int32 × Int32 × (Nat → Int64)) => [(h0, .inr (12, [.int u.1, .int u.2.1, .long m_above, .long m_under, .ref a_traySort, .ref a_trayMany, .ref a_numbers, .ref a_tape, .int m_taped, .int m_textEnd, .int m_faultKind, .int m_faultAt, .int m_bad, .int m_badAt, .int m_token, .int m_at, .int m_behind, .int m_number, .int m_letters, .long m_word, .ref a_c, .ref a_words, .int m_markMany, .ref a_there, .ref a_tried, .ref a_best, .ref a_found, .int m_thereMany, .int m_foundMany, .int m_orderHow, .int m_orderRing, .int m_orderMany, .int m_hasBest, .long m_bestTop, .long m_bestBy, .ref a_weights, .ref a_shared, .int m_random, .int m_truePlace, .int m_trueWay, .int m_seconds, .int m_done, .int m_feelings, .int m_tries, .int m_leftOver, .int m_playDoor, .int m_playRing, .int m_isOpen, .int m_isOver, .int m_wasTried, .int m_hasPlayed, .ref a_feltNow, .ref a_last, .ref a_kept, .int m_hasSeconds, .int m_hasTurned, .int m_hasRound, .ref a_hasFeels, .ref a_isOn, .int m_firstAct, .long m_meanTop, .long m_meanBy, .ref a_order, .int m_rowMany, .int m_newSteps])), (a_traySort, .inl (cA.1 0, 4, .inl g_traySort)), (a_trayMany, .inl (cA.1 0, 4, .inl g_trayMany)), (a_numbers, .inl (cA.1 1, 240, .inr (.inl u.2.2)))]) 0 0 := by
  have hk_0 : (0 : Int32).toInt = 0 := by decide +kernel
  have hk_60 : (60 : Int32).toInt = 60 := by decide +kernel
  refine z_start2z (own := RX12) (by decide) (Nat.le_of_ble_eq_true rfl) rfl ?_
  intro p e s m args below meth c A ls Q hx hb hml hts hown hK hE hT hP hD hS hA hl hret
  have hl : lv_has ls 5 [(0, .ref h0), (1, .int t), (2, .int k), (3, .long v)] := hl
  refine lv_aload_n hx hb dX12_write_0 rfl (lv_at hl 0 rfl) ?_
  refine lv_iconst (v := 0) hx hb dX12_write_1 (by decide) ?_
  refine va_put (D := G) (ci := 12) (v := .int 0) (ty := .int) (C := RX12) (T := TX12) (N := 65) hx hb hts inT12 tyX12 tyX12_ok nmX12 hown hK hP hD hS 0 rfl rfl 1 (by decide) (hts _ tw_1886) (fun _ h9 => h9) rfl (tyX12_ok 1 (by decide)) rfl rfl (Nat.le_of_ble_eq_true rfl) dX12_write_2 (fun H locs hP hD hS => ?_)
  refine lv_aload_n hx hb dX12_write_5 rfl (lv_at hl 0 rfl) ?_
  refine lv_aload_n hx hb dX12_write_6 rfl (lv_at hl 0 rfl) ?_
  refine lv_iload_n hx hb dX12_write_7 rfl (lv_at hl 1 rfl) ?_
  refine lv_iload_n hx hb dX12_write_8 rfl (lv_at hl 2 rfl) ?_
  refine z_callVi (As := [.int t, .int k]) (rest := [.ref h0]) (wr := [(a_traySort, .inl (cA.1 0, 4, .inl g_traySort)), (a_numbers, .inl (cA.1 1, 240, .inr (.inl g_numbers)))]) ⟨hx, hb, hml, hown, hts⟩ hK hE hT hP hD hS hA (r_placed l G cA h0 m_status 0 m_above m_under a_traySort a_trayMany a_numbers a_tape m_taped m_textEnd m_faultKind m_faultAt m_bad m_badAt m_token m_at m_behind m_number m_letters m_word a_c a_words m_markMany a_there a_tried a_best a_found m_thereMany m_foundMany m_orderHow m_orderRing m_orderMany m_hasBest m_bestTop m_bestBy a_weights a_shared m_random m_truePlace m_trueWay m_seconds m_done m_feelings m_tries m_leftOver m_playDoor m_playRing m_isOpen m_isOver m_wasTried m_hasPlayed a_feltNow a_last a_kept m_hasSeconds m_hasTurned m_hasRound a_hasFeels a_isOn m_firstAct m_meanTop m_meanBy a_order m_rowMany m_newSteps g_trayMany t k hC_g_trayMany) lk_RX12_105 ⟨rfl, rfl⟩ ⟨Nat.le_of_ble_eq_true rfl, Nat.le_of_ble_eq_true rfl⟩ 12 rfl rfl rfl [0, 2] [1, 3] rfl rfl (by decide) rfl hl.1 rfl (lv_room (Nat.le_of_ble_eq_true rfl)) dX12_write_9 ⟨Nat.le_of_ble_eq_true rfl, Nat.le_of_ble_eq_true rfl⟩ (fun r_1 u_2 H locs hw hP hD hS => ?_)
  obtain ⟨he_r_1, hw⟩ := hw
  obtain ⟨hr_r_1, hf_4⟩ := hw
  refine va_put (D := G) (ci := 12) (v := .int r_1) (ty := .int) (C := RX12) (T := TX12) (N := 65) hx hb hts inT12 tyX12 tyX12_ok nmX12 hown hK hP hD hS 2 rfl rfl 0 (by decide) (hts _ tw_1885) (fun _ h9 => h9) rfl (tyX12_ok 0 (by decide)) rfl rfl (Nat.le_of_ble_eq_true rfl) dX12_write_12 (fun H locs hP hD hS => ?_)
  refine lv_aload_n hx hb dX12_write_15 rfl (lv_at hl 0 rfl) ?_
  refine va_get (D := G) (ci := 12) (v := .int r_1) (C := RX12) (T := TX12) (N := 65) hx hb hts inT12 hown hK hP 2 rfl rfl 0 (by decide) (hts _ tw_1885) (fun _ h9 => h9) rfl dX12_write_16 ?_
  refine lv_if_le (tgt := 24) hx hb dX12_write_19 (by decide) (fun c_5 => ?_) (fun c_5 => ?_)
  · have b_6 := z_fleT c_5
    have hn_k_7 : 0 ≤ t.toInt ∧ t.toInt ≤ 3 := by omega
    have hn_k_8 : 0 ≤ k.toInt ∧ k.toInt ≤ 59 := by omega
    refine lv_aload_n hx hb dX12_write_24 rfl (lv_at hl 0 rfl) ?_
    refine va_get (D := G) (ci := 12) (v := .ref a_numbers) (C := RX12) (T := TX12) (N := 65) hx hb hts inT12 hown hK hP 2 rfl rfl 6 (by decide) (hts _ tw_1891) (fun _ h9 => h9) rfl dX12_write_25 ?_
    refine lv_bipush (v := 60) hx hb dX12_write_28 (by decide) ?_
    refine lv_iload_n hx hb dX12_write_30 rfl (lv_at hl 1 rfl) ?_
    refine lv_imul hx hb dX12_write_31 ?_
    refine lv_topi (fun x_9 he_x_9 => ?_)
    have hq_x_9 := z_mulq he_x_9 hk_60 (rfl : t.toInt = _) (by omega) (by omega)
    refine lv_iload_n hx hb dX12_write_32 rfl (lv_at hl 2 rfl) ?_
    refine lv_iadd hx hb dX12_write_33 ?_
    refine lv_topi (fun x_10 he_x_10 => ?_)
    have hq_x_10 := z_addq he_x_10 (rfl : x_9.toInt = _) (rfl : k.toInt = _) (by omega) (by omega)
    refine lv_aload_n hx hb dX12_write_34 rfl (lv_at hl 0 rfl) ?_
    refine va_get (D := G) (ci := 12) (v := .ref a_traySort) (C := RX12) (T := TX12) (N := 65) hx hb hts inT12 hown hK hP 2 rfl rfl 4 (by decide) (hts _ tw_1889) (fun _ h9 => h9) rfl dX12_write_35 ?_
    refine lv_iload_n hx hb dX12_write_38 rfl (lv_at hl 1 rfl) ?_
    refine va_iald hx hb hK hP 0 0 rfl rfl (z_inN (by omega) (by omega)) dX12_write_39 ?_
    refine lv_topi (fun x_11 he_x_11 => ?_)
    refine lv_lload_n hx hb dX12_write_40 rfl (lv_at hl 3 rfl) ?_
    refine z_callSl (As := [.int x_11, .long v]) (rest := [.int x_10, .ref a_numbers]) (wr := [(a_traySort, .inl (cA.1 0, 4, .inl g_traySort)), (a_numbers, .inl (cA.1 1, 240, .inr (.inl g_numbers))), (h0, .inr (12, [.int r_1, .int 0, .long m_above, .long m_under, .ref a_traySort, .ref a_trayMany, .ref a_numbers, .ref a_tape, .int m_taped, .int m_textEnd, .int m_faultKind, .int m_faultAt, .int m_bad, .int m_badAt, .int m_token, .int m_at, .int m_behind, .int m_number, .int m_letters, .long m_word, .ref a_c, .ref a_words, .int m_markMany, .ref a_there, .ref a_tried, .ref a_best, .ref a_found, .int m_thereMany, .int m_foundMany, .int m_orderHow, .int m_orderRing, .int m_orderMany, .int m_hasBest, .long m_bestTop, .long m_bestBy, .ref a_weights, .ref a_shared, .int m_random, .int m_truePlace, .int m_trueWay, .int m_seconds, .int m_done, .int m_feelings, .int m_tries, .int m_leftOver, .int m_playDoor, .int m_playRing, .int m_isOpen, .int m_isOver, .int m_wasTried, .int m_hasPlayed, .ref a_feltNow, .ref a_last, .ref a_kept, .int m_hasSeconds, .int m_hasTurned, .int m_hasRound, .ref a_hasFeels, .ref a_isOn, .int m_firstAct, .long m_meanTop, .long m_meanBy, .ref a_order, .int m_rowMany, .int m_newSteps])), (a_trayMany, .inl (cA.1 0, 4, .inl g_trayMany))]) ⟨hx, hb, hml, hown, hts⟩ hK hE hT hP hD hS hA (r_cut l G cA x_11 v) lk_RX12_109 ⟨rfl, rfl⟩ ⟨Nat.le_of_ble_eq_true rfl, Nat.le_of_ble_eq_true rfl⟩ [] [0, 1, 2, 3] rfl rfl (by decide) rfl hl.1 rfl (lv_room (Nat.le_of_ble_eq_true rfl)) dX12_write_41 ⟨Nat.le_of_ble_eq_true rfl, Nat.le_of_ble_eq_true rfl⟩ (fun r_12 u_13 H locs hw hP hD hS => ?_)
    obtain ⟨he_r_12, hw⟩ := hw
    refine z_last hx hb hK hP hD hS 1 1 rfl rfl (z_inN (by omega) (by omega)) dX12_write_44 (fun g_15 hg_g_15 H locs hP hD hS => ?_)
    refine lv_iconst (v := 1) hx hb dX12_write_45 (by decide) ?_
    have hpost : ((1 : Int32) = 0 ∧ (1 ≤ r_1.toInt ∧ r_1.toInt ≤ 4) ∧ (0 ≤ (0 : Int32).toInt ∧ (0 : Int32).toInt ≤ 0)) ∨ ((1 : Int32) = 1 ∧ (0 ≤ r_1.toInt ∧ r_1.toInt ≤ 0) ∧ (0 ≤ (0 : Int32).toInt ∧ (0 : Int32).toInt ≤ 0)) := (Or.inr ⟨rfl, ⟨(by omega), (by decide +kernel)⟩⟩)
    have hX_16 : F_r_write g_traySort g_trayMany g_numbers t k v = (((1 : Int32), g_15) : Int32 × (Nat → Int64)) := by
      refine (F_r_write_s ..).trans ?_
      extract_lets -merge -useContext +onlyGivenNames w9 y9; have e9 : r_1 = w9 := he_r_1; clear_value w9; subst e9
      refine (if_pos c_5).trans ?_
      try (extract_lets -merge -useContext +onlyGivenNames y9; have e9 : x_9 = y9 := (by first | exact he_x_9 | exact he_x_9.symm); clear_value y9; subst e9)
      try (extract_lets -merge -useContext +onlyGivenNames y9; have e9 : x_10 = y9 := (by first | exact he_x_10 | exact he_x_10.symm); clear_value y9; subst e9)
      try (extract_lets -merge -useContext +onlyGivenNames y9; have e9 : x_11 = y9 := (by first | exact he_x_11 | exact he_x_11.symm); clear_value y9; subst e9)
      extract_lets -merge -useContext +onlyGivenNames w9 y9; have e9 : r_12 = w9 := he_r_12; clear_value w9; subst e9
      try (extract_lets -merge -useContext +onlyGivenNames y9; have e9 : g_15 = y9 := (by first | exact hg_g_15 | exact hg_g_15.symm); clear_value y9; subst e9)
      exact rfl
    exact hret _ _ _ _ _ _ (r_1, 0, g_15) [2, 0, 3, 1] hP hD hS rfl (by decide) dX12_write_46 (Or.inr rfl) ⟨(congrArg (fun z9 => z9.1) hX_16).symm, (congrArg (fun z9 => z9.2) hX_16).symm, hpost⟩
  · have b_17 := z_fgtF c_5
    refine lv_iconst (v := 0) hx hb dX12_write_22 (by decide) ?_
    have hpost : ((0 : Int32) = 0 ∧ (1 ≤ r_1.toInt ∧ r_1.toInt ≤ 4) ∧ (0 ≤ (0 : Int32).toInt ∧ (0 : Int32).toInt ≤ 0)) ∨ ((0 : Int32) = 1 ∧ (0 ≤ r_1.toInt ∧ r_1.toInt ≤ 0) ∧ (0 ≤ (0 : Int32).toInt ∧ (0 : Int32).toInt ≤ 0)) := (Or.inl ⟨rfl, ⟨(by omega), (by decide +kernel)⟩⟩)
    have hX_18 : F_r_write g_traySort g_trayMany g_numbers t k v = (((0 : Int32), g_numbers) : Int32 × (Nat → Int64)) := by
      refine (F_r_write_s ..).trans ?_
      extract_lets -merge -useContext +onlyGivenNames w9 y9; have e9 : r_1 = w9 := he_r_1; clear_value w9; subst e9
      refine (if_neg c_5).trans ?_
      exact rfl
    exact hret _ _ _ _ _ _ (r_1, 0, g_numbers) [2, 0, 3, 1] hP hD hS rfl (by decide) dX12_write_23 (Or.inl rfl) ⟨(congrArg (fun z9 => z9.1) hX_18).symm, (congrArg (fun z9 => z9.2) hX_18).symm, hpost⟩
set_option maxHeartbeats 40000000 in
set_option maxRecDepth 100000 in
theorem r_read (l : Launch) (G : va_G) (cA : zCA) (h0 : Nat) (m_status : Int32) (m_thrown : Int32) (m_above : Int64) (m_under : Int64) (a_traySort : Nat) (a_trayMany : Nat) (a_numbers : Nat) (a_tape : Nat) (m_taped : Int32) (m_textEnd : Int32) (m_faultKind : Int32) (m_faultAt : Int32) (m_bad : Int32) (m_badAt : Int32) (m_token : Int32) (m_at : Int32) (m_behind : Int32) (m_number : Int32) (m_letters : Int32) (m_word : Int64) (a_c : Nat) (a_words : Nat) (m_markMany : Int32) (a_there : Nat) (a_tried : Nat) (a_best : Nat) (a_found : Nat) (m_thereMany : Int32) (m_foundMany : Int32) (m_orderHow : Int32) (m_orderRing : Int32) (m_orderMany : Int32) (m_hasBest : Int32) (m_bestTop : Int64) (m_bestBy : Int64) (a_weights : Nat) (a_shared : Nat) (m_random : Int32) (m_truePlace : Int32) (m_trueWay : Int32) (m_seconds : Int32) (m_done : Int32) (m_feelings : Int32) (m_tries : Int32) (m_leftOver : Int32) (m_playDoor : Int32) (m_playRing : Int32) (m_isOpen : Int32) (m_isOver : Int32) (m_wasTried : Int32) (m_hasPlayed : Int32) (a_feltNow : Nat) (a_last : Nat) (a_kept : Nat) (m_hasSeconds : Int32) (m_hasTurned : Int32) (m_hasRound : Int32) (a_hasFeels : Nat) (a_isOn : Nat) (m_firstAct : Int32) (m_meanTop : Int64) (m_meanBy : Int64) (a_order : Nat) (m_rowMany : Int32) (m_newSteps : Int32) (g_trayMany : Nat → Int32) (g_numbers : Nat → Int64) (t : Int32) (k : Int32) (hC_g_trayMany : zRg 4 (-1) 60 g_trayMany) : zCl l yX12_read cX12_read 3 (some .long) ({ frames := 2, cells := 0, slots := 0, locals := 44 }) G cA [.ref h0, .int t, .int k] [(h0, .inr (12, [.int m_status, .int m_thrown, .long m_above, .long m_under, .ref a_traySort, .ref a_trayMany, .ref a_numbers, .ref a_tape, .int m_taped, .int m_textEnd, .int m_faultKind, .int m_faultAt, .int m_bad, .int m_badAt, .int m_token, .int m_at, .int m_behind, .int m_number, .int m_letters, .long m_word, .ref a_c, .ref a_words, .int m_markMany, .ref a_there, .ref a_tried, .ref a_best, .ref a_found, .int m_thereMany, .int m_foundMany, .int m_orderHow, .int m_orderRing, .int m_orderMany, .int m_hasBest, .long m_bestTop, .long m_bestBy, .ref a_weights, .ref a_shared, .int m_random, .int m_truePlace, .int m_trueWay, .int m_seconds, .int m_done, .int m_feelings, .int m_tries, .int m_leftOver, .int m_playDoor, .int m_playRing, .int m_isOpen, .int m_isOver, .int m_wasTried, .int m_hasPlayed, .ref a_feltNow, .ref a_last, .ref a_kept, .int m_hasSeconds, .int m_hasTurned, .int m_hasRound, .ref a_hasFeels, .ref a_isOn, .int m_firstAct, .long m_meanTop, .long m_meanBy, .ref a_order, .int m_rowMany, .int m_newSteps])), (a_trayMany, .inl (cA.1 0, 4, .inl g_trayMany)), (a_numbers, .inl (cA.1 1, 240, .inr (.inl g_numbers)))] (S := Int32 × Int32) (fun (r : Int64) (u : Int32 × Int32) => (r = (F_r_read g_trayMany g_numbers t k)) ∧ ((0 ≤ u.1.toInt ∧ u.1.toInt ≤ 4) ∧ (0 ≤ u.2.toInt ∧ u.2.toInt ≤ 0))) (fun (u : Int32 × Int32) => [(h0, .inr (12, [.int u.1, .int u.2, .long m_above, .long m_under, .ref a_traySort, .ref a_trayMany, .ref a_numbers, .ref a_tape, .int m_taped, .int m_textEnd, .int m_faultKind, .int m_faultAt, .int m_bad, .int m_badAt, .int m_token, .int m_at, .int m_behind, .int m_number, .int m_letters, .long m_word, .ref a_c, .ref a_words, .int m_markMany, .ref a_there, .ref a_tried, .ref a_best, .ref a_found, .int m_thereMany, .int m_foundMany, .int m_orderHow, .int m_orderRing, .int m_orderMany, .int m_hasBest, .long m_bestTop, .long m_bestBy, .ref a_weights, .ref a_shared, .int m_random, .int m_truePlace, .int m_trueWay, .int m_seconds, .int m_done, .int m_feelings, .int m_tries, .int m_leftOver, .int m_playDoor, .int m_playRing, .int m_isOpen, .int m_isOver, .int m_wasTried, .int m_hasPlayed, .ref a_feltNow, .ref a_last, .ref a_kept, .int m_hasSeconds, .int m_hasTurned, .int m_hasRound, .ref a_hasFeels, .ref a_isOn, .int m_firstAct, .long m_meanTop, .long m_meanBy, .ref a_order, .int m_rowMany, .int m_newSteps])), (a_trayMany, .inl (cA.1 0, 4, .inl g_trayMany)), (a_numbers, .inl (cA.1 1, 240, .inr (.inl g_numbers)))]) 0 0 := by
  have hk_0 : (0 : Int32).toInt = 0 := by decide +kernel
  have hk_60 : (60 : Int32).toInt = 60 := by decide +kernel
  refine z_start2l (own := RX12) (by decide) (Nat.le_of_ble_eq_true rfl) rfl ?_
  intro p e s m args below meth c A ls Q hx hb hml hts hown hK hE hT hP hD hS hA hl hret
  have hl : lv_has ls 3 [(0, .ref h0), (1, .int t), (2, .int k)] := hl
  refine lv_aload_n hx hb dX12_read_0 rfl (lv_at hl 0 rfl) ?_
  refine lv_iconst (v := 0) hx hb dX12_read_1 (by decide) ?_
  refine va_put (D := G) (ci := 12) (v := .int 0) (ty := .int) (C := RX12) (T := TX12) (N := 65) hx hb hts inT12 tyX12 tyX12_ok nmX12 hown hK hP hD hS 0 rfl rfl 1 (by decide) (hts _ tw_1886) (fun _ h9 => h9) rfl (tyX12_ok 1 (by decide)) rfl rfl (Nat.le_of_ble_eq_true rfl) dX12_read_2 (fun H locs hP hD hS => ?_)
  refine lv_aload_n hx hb dX12_read_5 rfl (lv_at hl 0 rfl) ?_
  refine lv_aload_n hx hb dX12_read_6 rfl (lv_at hl 0 rfl) ?_
  refine lv_iload_n hx hb dX12_read_7 rfl (lv_at hl 1 rfl) ?_
  refine lv_iload_n hx hb dX12_read_8 rfl (lv_at hl 2 rfl) ?_
  refine z_callVi (As := [.int t, .int k]) (rest := [.ref h0]) (wr := [(a_numbers, .inl (cA.1 1, 240, .inr (.inl g_numbers)))]) ⟨hx, hb, hml, hown, hts⟩ hK hE hT hP hD hS hA (r_placed l G cA h0 m_status 0 m_above m_under a_traySort a_trayMany a_numbers a_tape m_taped m_textEnd m_faultKind m_faultAt m_bad m_badAt m_token m_at m_behind m_number m_letters m_word a_c a_words m_markMany a_there a_tried a_best a_found m_thereMany m_foundMany m_orderHow m_orderRing m_orderMany m_hasBest m_bestTop m_bestBy a_weights a_shared m_random m_truePlace m_trueWay m_seconds m_done m_feelings m_tries m_leftOver m_playDoor m_playRing m_isOpen m_isOver m_wasTried m_hasPlayed a_feltNow a_last a_kept m_hasSeconds m_hasTurned m_hasRound a_hasFeels a_isOn m_firstAct m_meanTop m_meanBy a_order m_rowMany m_newSteps g_trayMany t k hC_g_trayMany) lk_RX12_105 ⟨rfl, rfl⟩ ⟨Nat.le_of_ble_eq_true rfl, Nat.le_of_ble_eq_true rfl⟩ 12 rfl rfl rfl [0, 1] [2] rfl rfl (by decide) rfl hl.1 rfl (lv_room (Nat.le_of_ble_eq_true rfl)) dX12_read_9 ⟨Nat.le_of_ble_eq_true rfl, Nat.le_of_ble_eq_true rfl⟩ (fun r_1 u_2 H locs hw hP hD hS => ?_)
  obtain ⟨he_r_1, hw⟩ := hw
  obtain ⟨hr_r_1, hf_4⟩ := hw
  refine va_put (D := G) (ci := 12) (v := .int r_1) (ty := .int) (C := RX12) (T := TX12) (N := 65) hx hb hts inT12 tyX12 tyX12_ok nmX12 hown hK hP hD hS 1 rfl rfl 0 (by decide) (hts _ tw_1885) (fun _ h9 => h9) rfl (tyX12_ok 0 (by decide)) rfl rfl (Nat.le_of_ble_eq_true rfl) dX12_read_12 (fun H locs hP hD hS => ?_)
  refine lv_aload_n hx hb dX12_read_15 rfl (lv_at hl 0 rfl) ?_
  refine va_get (D := G) (ci := 12) (v := .int r_1) (C := RX12) (T := TX12) (N := 65) hx hb hts inT12 hown hK hP 1 rfl rfl 0 (by decide) (hts _ tw_1885) (fun _ h9 => h9) rfl dX12_read_16 ?_
  refine lv_if_le (tgt := 28) hx hb dX12_read_19 (by decide) (fun c_5 => ?_) (fun c_5 => ?_)
  · have b_6 := z_fleT c_5
    have hn_k_7 : 0 ≤ t.toInt ∧ t.toInt ≤ 3 := by omega
    have hn_k_8 : 0 ≤ k.toInt ∧ k.toInt ≤ 59 := by omega
    refine lv_aload_n hx hb dX12_read_28 rfl (lv_at hl 0 rfl) ?_
    refine va_get (D := G) (ci := 12) (v := .ref a_numbers) (C := RX12) (T := TX12) (N := 65) hx hb hts inT12 hown hK hP 1 rfl rfl 6 (by decide) (hts _ tw_1891) (fun _ h9 => h9) rfl dX12_read_29 ?_
    refine lv_bipush (v := 60) hx hb dX12_read_32 (by decide) ?_
    refine lv_iload_n hx hb dX12_read_34 rfl (lv_at hl 1 rfl) ?_
    refine lv_imul hx hb dX12_read_35 ?_
    refine lv_topi (fun x_9 he_x_9 => ?_)
    have hq_x_9 := z_mulq he_x_9 hk_60 (rfl : t.toInt = _) (by omega) (by omega)
    refine lv_iload_n hx hb dX12_read_36 rfl (lv_at hl 2 rfl) ?_
    refine lv_iadd hx hb dX12_read_37 ?_
    refine lv_topi (fun x_10 he_x_10 => ?_)
    have hq_x_10 := z_addq he_x_10 (rfl : x_9.toInt = _) (rfl : k.toInt = _) (by omega) (by omega)
    refine va_lald hx hb hK hP 0 1 rfl rfl (z_inN (by omega) (by omega)) dX12_read_38 ?_
    refine lv_topl (fun x_11 he_x_11 => ?_)
    have hpost : (0 ≤ r_1.toInt ∧ r_1.toInt ≤ 4) ∧ (0 ≤ (0 : Int32).toInt ∧ (0 : Int32).toInt ≤ 0) := ⟨hr_r_1, (by decide +kernel)⟩
    have hX_12 : F_r_read g_trayMany g_numbers t k = (x_11 : Int64) := by
      refine (F_r_read_s ..).trans ?_
      extract_lets -merge -useContext +onlyGivenNames w9 y9; have e9 : r_1 = w9 := he_r_1; clear_value w9; subst e9
      refine (if_pos c_5).trans ?_
      try (extract_lets -merge -useContext +onlyGivenNames y9; have e9 : x_9 = y9 := (by first | exact he_x_9 | exact he_x_9.symm); clear_value y9; subst e9)
      try (extract_lets -merge -useContext +onlyGivenNames y9; have e9 : x_10 = y9 := (by first | exact he_x_10 | exact he_x_10.symm); clear_value y9; subst e9)
      try (extract_lets -merge -useContext +onlyGivenNames y9; have e9 : x_11 = y9 := (by first | exact he_x_11 | exact he_x_11.symm); clear_value y9; subst e9)
      exact rfl
    exact hret _ _ _ _ _ _ (r_1, 0) [1, 2, 0] hP hD hS rfl (by decide) dX12_read_39 ⟨(congrArg (fun z9 => z9) hX_12).symm, hpost⟩
  · have b_13 := z_fgtF c_5
    refine lv_ldc2 (v := (-1)) hx hb hown (hts _ tw_2118) dX12_read_22 ?_
    refine lv_goto (tgt := 39) hx hb dX12_read_25 (by decide) ?_
    have hpost : (0 ≤ r_1.toInt ∧ r_1.toInt ≤ 4) ∧ (0 ≤ (0 : Int32).toInt ∧ (0 : Int32).toInt ≤ 0) := ⟨hr_r_1, (by decide +kernel)⟩
    have hX_14 : F_r_read g_trayMany g_numbers t k = ((-1 : Int64) : Int64) := by
      refine (F_r_read_s ..).trans ?_
      extract_lets -merge -useContext +onlyGivenNames w9 y9; have e9 : r_1 = w9 := he_r_1; clear_value w9; subst e9
      refine (if_neg c_5).trans ?_
      exact rfl
    exact hret _ _ _ _ _ _ (r_1, 0) [1, 2, 0] hP hD hS rfl (by decide) dX12_read_39 ⟨(congrArg (fun z9 => z9) hX_14).symm, hpost⟩
set_option maxHeartbeats 40000000 in
set_option maxRecDepth 100000 in
theorem r_pour (l : Launch) (G : va_G) (cA : zCA) (h0 : Nat) (m_status : Int32) (m_thrown : Int32) (m_above : Int64) (m_under : Int64) (a_traySort : Nat) (a_trayMany : Nat) (a_numbers : Nat) (a_tape : Nat) (m_taped : Int32) (m_textEnd : Int32) (m_faultKind : Int32) (m_faultAt : Int32) (m_bad : Int32) (m_badAt : Int32) (m_token : Int32) (m_at : Int32) (m_behind : Int32) (m_number : Int32) (m_letters : Int32) (m_word : Int64) (a_c : Nat) (a_words : Nat) (m_markMany : Int32) (a_there : Nat) (a_tried : Nat) (a_best : Nat) (a_found : Nat) (m_thereMany : Int32) (m_foundMany : Int32) (m_orderHow : Int32) (m_orderRing : Int32) (m_orderMany : Int32) (m_hasBest : Int32) (m_bestTop : Int64) (m_bestBy : Int64) (a_weights : Nat) (a_shared : Nat) (m_random : Int32) (m_truePlace : Int32) (m_trueWay : Int32) (m_seconds : Int32) (m_done : Int32) (m_feelings : Int32) (m_tries : Int32) (m_leftOver : Int32) (m_playDoor : Int32) (m_playRing : Int32) (m_isOpen : Int32) (m_isOver : Int32) (m_wasTried : Int32) (m_hasPlayed : Int32) (a_feltNow : Nat) (a_last : Nat) (a_kept : Nat) (m_hasSeconds : Int32) (m_hasTurned : Int32) (m_hasRound : Int32) (a_hasFeels : Nat) (a_isOn : Nat) (m_firstAct : Int32) (m_meanTop : Int64) (m_meanBy : Int64) (a_order : Nat) (m_rowMany : Int32) (m_newSteps : Int32) (g_traySort : Nat → Int32) (g_trayMany : Nat → Int32) (g_numbers : Nat → Int64) (t : Int32) (i : Int32) (to : Int32) (j : Int32) (nn : Int32) (hC_g_trayMany : zRg 4 (-1) 60 g_trayMany) : zCi l yX12_pour cX12_pour 9 (some .boolean) ({ frames := 1, cells := 0, slots := 0, locals := 21 }) G cA [.ref h0, .int t, .int i, .int to, .int j, .int nn] [(h0, .inr (12, [.int m_status, .int m_thrown, .long m_above, .long m_under, .ref a_traySort, .ref a_trayMany, .ref a_numbers, .ref a_tape, .int m_taped, .int m_textEnd, .int m_faultKind, .int m_faultAt, .int m_bad, .int m_badAt, .int m_token, .int m_at, .int m_behind, .int m_number, .int m_letters, .long m_word, .ref a_c, .ref a_words, .int m_markMany, .ref a_there, .ref a_tried, .ref a_best, .ref a_found, .int m_thereMany, .int m_foundMany, .int m_orderHow, .int m_orderRing, .int m_orderMany, .int m_hasBest, .long m_bestTop, .long m_bestBy, .ref a_weights, .ref a_shared, .int m_random, .int m_truePlace, .int m_trueWay, .int m_seconds, .int m_done, .int m_feelings, .int m_tries, .int m_leftOver, .int m_playDoor, .int m_playRing, .int m_isOpen, .int m_isOver, .int m_wasTried, .int m_hasPlayed, .ref a_feltNow, .ref a_last, .ref a_kept, .int m_hasSeconds, .int m_hasTurned, .int m_hasRound, .ref a_hasFeels, .ref a_isOn, .int m_firstAct, .long m_meanTop, .long m_meanBy, .ref a_order, .int m_rowMany, .int m_newSteps])), (a_traySort, .inl (cA.1 0, 4, .inl g_traySort)), (a_trayMany, .inl (cA.1 0, 4, .inl g_trayMany)), (a_numbers, .inl (cA.1 1, 240, .inr (.inl g_numbers)))] (S := Int32 × Int32 × (Nat → Int64)) (fun (r : Int32) (u : Int32 × Int32 × (Nat → Int64)) => (r = (F_r_pour g_traySort g_trayMany g_numbers t i to j nn).1) ∧ (u.2.2 = (F_r_pour g_traySort g_trayMany g_numbers t i to j nn).2) ∧ ((r = 0 ∧ (0 ≤ u.2.1.toInt ∧ u.2.1.toInt ≤ 0)) ∨ (r = 1 ∧ (0 ≤ u.1.toInt ∧ u.1.toInt ≤ 0) ∧ (0 ≤ u.2.1.toInt ∧ u.2.1.toInt ≤ 0)))) (fun (u : Int32 × Int32 × (Nat → Int64)) => [(h0, .inr (12, [.int u.1, .int u.2.1, .long m_above, .long m_under, .ref a_traySort, .ref a_trayMany, .ref a_numbers, .ref a_tape, .int m_taped, .int m_textEnd, .int m_faultKind, .int m_faultAt, .int m_bad, .int m_badAt, .int m_token, .int m_at, .int m_behind, .int m_number, .int m_letters, .long m_word, .ref a_c, .ref a_words, .int m_markMany, .ref a_there, .ref a_tried, .ref a_best, .ref a_found, .int m_thereMany, .int m_foundMany, .int m_orderHow, .int m_orderRing, .int m_orderMany, .int m_hasBest, .long m_bestTop, .long m_bestBy, .ref a_weights, .ref a_shared, .int m_random, .int m_truePlace, .int m_trueWay, .int m_seconds, .int m_done, .int m_feelings, .int m_tries, .int m_leftOver, .int m_playDoor, .int m_playRing, .int m_isOpen, .int m_isOver, .int m_wasTried, .int m_hasPlayed, .ref a_feltNow, .ref a_last, .ref a_kept, .int m_hasSeconds, .int m_hasTurned, .int m_hasRound, .ref a_hasFeels, .ref a_isOn, .int m_firstAct, .long m_meanTop, .long m_meanBy, .ref a_order, .int m_rowMany, .int m_newSteps])), (a_traySort, .inl (cA.1 0, 4, .inl g_traySort)), (a_trayMany, .inl (cA.1 0, 4, .inl g_trayMany)), (a_numbers, .inl (cA.1 1, 240, .inr (.inl u.2.2)))]) 0 0 := by
  have hk_0 : (0 : Int32).toInt = 0 := by decide +kernel
  have hk_1 : (1 : Int32).toInt = 1 := by decide +kernel
  have hk_3 : (3 : Int32).toInt = 3 := by decide +kernel
  have hk_4 : (4 : Int32).toInt = 4 := by decide +kernel
  have hk_6 : (6 : Int32).toInt = 6 := by decide +kernel
  have hk_11 : (11 : Int32).toInt = 11 := by decide +kernel
  have hk_60 : (60 : Int32).toInt = 60 := by decide +kernel
  refine z_start2z (own := RX12) (by decide) (Nat.le_of_ble_eq_true rfl) rfl ?_
  intro p e s m args below meth c A ls Q hx hb hml hts hown hK hE hT hP hD hS hA hl hret
  have hl : lv_has ls 9 [(0, .ref h0), (1, .int t), (2, .int i), (3, .int to), (4, .int j), (5, .int nn)] := hl
  refine lv_aload_n hx hb dX12_pour_0 rfl (lv_at hl 0 rfl) ?_
  refine lv_iconst (v := 0) hx hb dX12_pour_1 (by decide) ?_
  refine va_put (D := G) (ci := 12) (v := .int 0) (ty := .int) (C := RX12) (T := TX12) (N := 65) hx hb hts inT12 tyX12 tyX12_ok nmX12 hown hK hP hD hS 0 rfl rfl 1 (by decide) (hts _ tw_1886) (fun _ h9 => h9) rfl (tyX12_ok 1 (by decide)) rfl rfl (Nat.le_of_ble_eq_true rfl) dX12_pour_2 (fun H locs hP hD hS => ?_)
  refine lv_aload_n hx hb dX12_pour_5 rfl (lv_at hl 0 rfl) ?_
  refine lv_iconst (v := 0) hx hb dX12_pour_6 (by decide) ?_
  refine va_put (D := G) (ci := 12) (v := .int 0) (ty := .int) (C := RX12) (T := TX12) (N := 65) hx hb hts inT12 tyX12 tyX12_ok nmX12 hown hK hP hD hS 0 rfl rfl 0 (by decide) (hts _ tw_1885) (fun _ h9 => h9) rfl (tyX12_ok 0 (by decide)) rfl rfl (Nat.le_of_ble_eq_true rfl) dX12_pour_7 (fun H locs hP hD hS => ?_)
  refine lv_iload_n hx hb dX12_pour_10 rfl (lv_at hl 1 rfl) ?_
  refine lv_if_lt (tgt := 28) hx hb dX12_pour_11 (by decide) (fun c_1 => ?_) (fun c_1 => ?_)
  · have b_2 := z_fltT c_1
    refine lv_aload_n hx hb dX12_pour_28 rfl (lv_at hl 0 rfl) ?_
    refine lv_iconst (v := 1) hx hb dX12_pour_29 (by decide) ?_
    refine z_callVi (As := [.int 1]) (rest := []) (wr := [(a_traySort, .inl (cA.1 0, 4, .inl g_traySort)), (a_trayMany, .inl (cA.1 0, 4, .inl g_trayMany)), (a_numbers, .inl (cA.1 1, 240, .inr (.inl g_numbers)))]) ⟨hx, hb, hml, hown, hts⟩ hK hE hT hP hD hS hA (r_no l G cA h0 0 0 m_above m_under a_traySort a_trayMany a_numbers a_tape m_taped m_textEnd m_faultKind m_faultAt m_bad m_badAt m_token m_at m_behind m_number m_letters m_word a_c a_words m_markMany a_there a_tried a_best a_found m_thereMany m_foundMany m_orderHow m_orderRing m_orderMany m_hasBest m_bestTop m_bestBy a_weights a_shared m_random m_truePlace m_trueWay m_seconds m_done m_feelings m_tries m_leftOver m_playDoor m_playRing m_isOpen m_isOver m_wasTried m_hasPlayed a_feltNow a_last a_kept m_hasSeconds m_hasTurned m_hasRound a_hasFeels a_isOn m_firstAct m_meanTop m_meanBy a_order m_rowMany m_newSteps 1) lk_RX12_97 ⟨rfl, rfl⟩ ⟨Nat.le_of_ble_eq_true rfl, Nat.le_of_ble_eq_true rfl⟩ 12 rfl rfl rfl [0] [1, 2, 3] rfl rfl (by decide) rfl hl.1 rfl (lv_room (Nat.le_of_ble_eq_true rfl)) dX12_pour_30 ⟨Nat.le_of_ble_eq_true rfl, Nat.le_of_ble_eq_true rfl⟩ (fun r_4 u_5 H locs hw hP hD hS => ?_)
    obtain ⟨n_3, rfl⟩ : ∃ z, z = u_5 := ⟨_, rfl⟩
    obtain ⟨he_r_4, he_n_3, hw⟩ := hw
    obtain ⟨rfl, -⟩ := hw
    have hpost : ((0 : Int32) = 0 ∧ (0 ≤ (0 : Int32).toInt ∧ (0 : Int32).toInt ≤ 0)) ∨ ((0 : Int32) = 1 ∧ (0 ≤ n_3.toInt ∧ n_3.toInt ≤ 0) ∧ (0 ≤ (0 : Int32).toInt ∧ (0 : Int32).toInt ≤ 0)) := (Or.inl ⟨rfl, (by decide +kernel)⟩)
    have hX_7 : F_r_pour g_traySort g_trayMany g_numbers t i to j nn = (((0 : Int32), g_numbers) : Int32 × (Nat → Int64)) := by
      refine (F_r_pour_s ..).trans ?_
      refine (if_pos c_1).trans ?_
      extract_lets -merge -useContext +onlyGivenNames w9 y1_0 y1_1; have e9 : ((0 : Int32), n_3) = w9 := ((z_tS he_r_4 he_n_3.symm)).symm; clear_value w9; subst e9
      exact rfl
    exact hret _ _ _ _ _ _ (n_3, 0, g_numbers) [3, 0, 1, 2] hP hD hS rfl (by decide) dX12_pour_33 (Or.inl rfl) ⟨(congrArg (fun z9 => z9.1) hX_7).symm, (congrArg (fun z9 => z9.2) hX_7).symm, hpost⟩
  · have b_8 := z_fgeF c_1
    refine lv_iload_n hx hb dX12_pour_14 rfl (lv_at hl 1 rfl) ?_
    refine lv_iconst (v := 4) hx hb dX12_pour_15 (by decide) ?_
    refine lv_icmp_ge (tgt := 28) hx hb dX12_pour_16 (by decide) (fun c_9 => ?_) (fun c_9 => ?_)
    · have b_10 := z_fgeT c_9
      refine lv_aload_n hx hb dX12_pour_28 rfl (lv_at hl 0 rfl) ?_
      refine lv_iconst (v := 1) hx hb dX12_pour_29 (by decide) ?_
      refine z_callVi (As := [.int 1]) (rest := []) (wr := [(a_traySort, .inl (cA.1 0, 4, .inl g_traySort)), (a_trayMany, .inl (cA.1 0, 4, .inl g_trayMany)), (a_numbers, .inl (cA.1 1, 240, .inr (.inl g_numbers)))]) ⟨hx, hb, hml, hown, hts⟩ hK hE hT hP hD hS hA (r_no l G cA h0 0 0 m_above m_under a_traySort a_trayMany a_numbers a_tape m_taped m_textEnd m_faultKind m_faultAt m_bad m_badAt m_token m_at m_behind m_number m_letters m_word a_c a_words m_markMany a_there a_tried a_best a_found m_thereMany m_foundMany m_orderHow m_orderRing m_orderMany m_hasBest m_bestTop m_bestBy a_weights a_shared m_random m_truePlace m_trueWay m_seconds m_done m_feelings m_tries m_leftOver m_playDoor m_playRing m_isOpen m_isOver m_wasTried m_hasPlayed a_feltNow a_last a_kept m_hasSeconds m_hasTurned m_hasRound a_hasFeels a_isOn m_firstAct m_meanTop m_meanBy a_order m_rowMany m_newSteps 1) lk_RX12_97 ⟨rfl, rfl⟩ ⟨Nat.le_of_ble_eq_true rfl, Nat.le_of_ble_eq_true rfl⟩ 12 rfl rfl rfl [0] [1, 2, 3] rfl rfl (by decide) rfl hl.1 rfl (lv_room (Nat.le_of_ble_eq_true rfl)) dX12_pour_30 ⟨Nat.le_of_ble_eq_true rfl, Nat.le_of_ble_eq_true rfl⟩ (fun r_12 u_13 H locs hw hP hD hS => ?_)
      obtain ⟨n_11, rfl⟩ : ∃ z, z = u_13 := ⟨_, rfl⟩
      obtain ⟨he_r_12, he_n_11, hw⟩ := hw
      obtain ⟨rfl, -⟩ := hw
      have hpost : ((0 : Int32) = 0 ∧ (0 ≤ (0 : Int32).toInt ∧ (0 : Int32).toInt ≤ 0)) ∨ ((0 : Int32) = 1 ∧ (0 ≤ n_11.toInt ∧ n_11.toInt ≤ 0) ∧ (0 ≤ (0 : Int32).toInt ∧ (0 : Int32).toInt ≤ 0)) := (Or.inl ⟨rfl, (by decide +kernel)⟩)
      have hX_15 : F_r_pour g_traySort g_trayMany g_numbers t i to j nn = (((0 : Int32), g_numbers) : Int32 × (Nat → Int64)) := by
        refine (F_r_pour_s ..).trans ?_
        refine (if_neg c_1).trans ?_
        refine (if_pos c_9).trans ?_
        extract_lets -merge -useContext +onlyGivenNames w9 y2_0 y2_1; have e9 : ((0 : Int32), n_11) = w9 := ((z_tS he_r_12 he_n_11.symm)).symm; clear_value w9; subst e9
        exact rfl
      exact hret _ _ _ _ _ _ (n_11, 0, g_numbers) [3, 0, 1, 2] hP hD hS rfl (by decide) dX12_pour_33 (Or.inl rfl) ⟨(congrArg (fun z9 => z9.1) hX_15).symm, (congrArg (fun z9 => z9.2) hX_15).symm, hpost⟩
    · have b_16 := z_fltF c_9
      refine lv_iload_n hx hb dX12_pour_19 rfl (lv_at hl 3 rfl) ?_
      refine lv_if_lt (tgt := 28) hx hb dX12_pour_20 (by decide) (fun c_17 => ?_) (fun c_17 => ?_)
      · have b_18 := z_fltT c_17
        refine lv_aload_n hx hb dX12_pour_28 rfl (lv_at hl 0 rfl) ?_
        refine lv_iconst (v := 1) hx hb dX12_pour_29 (by decide) ?_
        refine z_callVi (As := [.int 1]) (rest := []) (wr := [(a_traySort, .inl (cA.1 0, 4, .inl g_traySort)), (a_trayMany, .inl (cA.1 0, 4, .inl g_trayMany)), (a_numbers, .inl (cA.1 1, 240, .inr (.inl g_numbers)))]) ⟨hx, hb, hml, hown, hts⟩ hK hE hT hP hD hS hA (r_no l G cA h0 0 0 m_above m_under a_traySort a_trayMany a_numbers a_tape m_taped m_textEnd m_faultKind m_faultAt m_bad m_badAt m_token m_at m_behind m_number m_letters m_word a_c a_words m_markMany a_there a_tried a_best a_found m_thereMany m_foundMany m_orderHow m_orderRing m_orderMany m_hasBest m_bestTop m_bestBy a_weights a_shared m_random m_truePlace m_trueWay m_seconds m_done m_feelings m_tries m_leftOver m_playDoor m_playRing m_isOpen m_isOver m_wasTried m_hasPlayed a_feltNow a_last a_kept m_hasSeconds m_hasTurned m_hasRound a_hasFeels a_isOn m_firstAct m_meanTop m_meanBy a_order m_rowMany m_newSteps 1) lk_RX12_97 ⟨rfl, rfl⟩ ⟨Nat.le_of_ble_eq_true rfl, Nat.le_of_ble_eq_true rfl⟩ 12 rfl rfl rfl [0] [1, 2, 3] rfl rfl (by decide) rfl hl.1 rfl (lv_room (Nat.le_of_ble_eq_true rfl)) dX12_pour_30 ⟨Nat.le_of_ble_eq_true rfl, Nat.le_of_ble_eq_true rfl⟩ (fun r_20 u_21 H locs hw hP hD hS => ?_)
        obtain ⟨n_19, rfl⟩ : ∃ z, z = u_21 := ⟨_, rfl⟩
        obtain ⟨he_r_20, he_n_19, hw⟩ := hw
        obtain ⟨rfl, -⟩ := hw
        have hpost : ((0 : Int32) = 0 ∧ (0 ≤ (0 : Int32).toInt ∧ (0 : Int32).toInt ≤ 0)) ∨ ((0 : Int32) = 1 ∧ (0 ≤ n_19.toInt ∧ n_19.toInt ≤ 0) ∧ (0 ≤ (0 : Int32).toInt ∧ (0 : Int32).toInt ≤ 0)) := (Or.inl ⟨rfl, (by decide +kernel)⟩)
        have hX_23 : F_r_pour g_traySort g_trayMany g_numbers t i to j nn = (((0 : Int32), g_numbers) : Int32 × (Nat → Int64)) := by
          refine (F_r_pour_s ..).trans ?_
          refine (if_neg c_1).trans ?_
          refine (if_neg c_9).trans ?_
          refine (if_pos c_17).trans ?_
          extract_lets -merge -useContext +onlyGivenNames w9 y3_0 y3_1; have e9 : ((0 : Int32), n_19) = w9 := ((z_tS he_r_20 he_n_19.symm)).symm; clear_value w9; subst e9
          exact rfl
        exact hret _ _ _ _ _ _ (n_19, 0, g_numbers) [3, 0, 1, 2] hP hD hS rfl (by decide) dX12_pour_33 (Or.inl rfl) ⟨(congrArg (fun z9 => z9.1) hX_23).symm, (congrArg (fun z9 => z9.2) hX_23).symm, hpost⟩
      · have b_24 := z_fgeF c_17
        refine lv_iload_n hx hb dX12_pour_23 rfl (lv_at hl 3 rfl) ?_
        refine lv_iconst (v := 4) hx hb dX12_pour_24 (by decide) ?_
        refine lv_icmp_lt (tgt := 34) hx hb dX12_pour_25 (by decide) (fun c_25 => ?_) (fun c_25 => ?_)
        · have b_26 := z_fltT c_25
          refine lv_aload_n hx hb dX12_pour_34 rfl (lv_at hl 0 rfl) ?_
          refine va_get (D := G) (ci := 12) (v := .ref a_trayMany) (C := RX12) (T := TX12) (N := 65) hx hb hts inT12 hown hK hP 0 rfl rfl 5 (by decide) (hts _ tw_1890) (fun _ h9 => h9) rfl dX12_pour_35 ?_
          refine lv_iload_n hx hb dX12_pour_38 rfl (lv_at hl 1 rfl) ?_
          refine va_iald hx hb hK hP 2 0 rfl rfl (z_inN (by omega) (by omega)) dX12_pour_39 ?_
          refine lv_topi (fun x_27 he_x_27 => ?_)
          have hr_x_27 := z_rg hC_g_trayMany he_x_27 (by omega) (by omega)
          refine lv_if_lt (tgt := 52) hx hb dX12_pour_40 (by decide) (fun c_28 => ?_) (fun c_28 => ?_)
          · have b_29 := z_fltT c_28
            refine lv_aload_n hx hb dX12_pour_52 rfl (lv_at hl 0 rfl) ?_
            refine lv_iconst (v := 3) hx hb dX12_pour_53 (by decide) ?_
            refine z_callVi (As := [.int 3]) (rest := []) (wr := [(a_traySort, .inl (cA.1 0, 4, .inl g_traySort)), (a_trayMany, .inl (cA.1 0, 4, .inl g_trayMany)), (a_numbers, .inl (cA.1 1, 240, .inr (.inl g_numbers)))]) ⟨hx, hb, hml, hown, hts⟩ hK hE hT hP hD hS hA (r_no l G cA h0 0 0 m_above m_under a_traySort a_trayMany a_numbers a_tape m_taped m_textEnd m_faultKind m_faultAt m_bad m_badAt m_token m_at m_behind m_number m_letters m_word a_c a_words m_markMany a_there a_tried a_best a_found m_thereMany m_foundMany m_orderHow m_orderRing m_orderMany m_hasBest m_bestTop m_bestBy a_weights a_shared m_random m_truePlace m_trueWay m_seconds m_done m_feelings m_tries m_leftOver m_playDoor m_playRing m_isOpen m_isOver m_wasTried m_hasPlayed a_feltNow a_last a_kept m_hasSeconds m_hasTurned m_hasRound a_hasFeels a_isOn m_firstAct m_meanTop m_meanBy a_order m_rowMany m_newSteps 3) lk_RX12_97 ⟨rfl, rfl⟩ ⟨Nat.le_of_ble_eq_true rfl, Nat.le_of_ble_eq_true rfl⟩ 12 rfl rfl rfl [0] [1, 2, 3] rfl rfl (by decide) rfl hl.1 rfl (lv_room (Nat.le_of_ble_eq_true rfl)) dX12_pour_54 ⟨Nat.le_of_ble_eq_true rfl, Nat.le_of_ble_eq_true rfl⟩ (fun r_31 u_32 H locs hw hP hD hS => ?_)
            obtain ⟨n_30, rfl⟩ : ∃ z, z = u_32 := ⟨_, rfl⟩
            obtain ⟨he_r_31, he_n_30, hw⟩ := hw
            obtain ⟨rfl, -⟩ := hw
            have hpost : ((0 : Int32) = 0 ∧ (0 ≤ (0 : Int32).toInt ∧ (0 : Int32).toInt ≤ 0)) ∨ ((0 : Int32) = 1 ∧ (0 ≤ n_30.toInt ∧ n_30.toInt ≤ 0) ∧ (0 ≤ (0 : Int32).toInt ∧ (0 : Int32).toInt ≤ 0)) := (Or.inl ⟨rfl, (by decide +kernel)⟩)
            have hX_34 : F_r_pour g_traySort g_trayMany g_numbers t i to j nn = (((0 : Int32), g_numbers) : Int32 × (Nat → Int64)) := by
              refine (F_r_pour_s ..).trans ?_
              refine (if_neg c_1).trans ?_
              refine (if_neg c_9).trans ?_
              refine (if_neg c_17).trans ?_
              refine (if_pos c_25).trans ?_
              try (extract_lets -merge -useContext +onlyGivenNames y9; have e9 : x_27 = y9 := (by first | exact he_x_27 | exact he_x_27.symm); clear_value y9; subst e9)
              refine (if_pos c_28).trans ?_
              extract_lets -merge -useContext +onlyGivenNames w9 y6_0 y6_1; have e9 : ((0 : Int32), n_30) = w9 := ((z_tS he_r_31 he_n_30.symm)).symm; clear_value w9; subst e9
              exact rfl
            exact hret _ _ _ _ _ _ (n_30, 0, g_numbers) [3, 0, 1, 2] hP hD hS rfl (by decide) dX12_pour_57 (Or.inl rfl) ⟨(congrArg (fun z9 => z9.1) hX_34).symm, (congrArg (fun z9 => z9.2) hX_34).symm, hpost⟩
          · have b_35 := z_fgeF c_28
            refine lv_aload_n hx hb dX12_pour_43 rfl (lv_at hl 0 rfl) ?_
            refine va_get (D := G) (ci := 12) (v := .ref a_trayMany) (C := RX12) (T := TX12) (N := 65) hx hb hts inT12 hown hK hP 0 rfl rfl 5 (by decide) (hts _ tw_1890) (fun _ h9 => h9) rfl dX12_pour_44 ?_
            refine lv_iload_n hx hb dX12_pour_47 rfl (lv_at hl 3 rfl) ?_
            refine va_iald hx hb hK hP 2 0 rfl rfl (z_inN (by omega) (by omega)) dX12_pour_48 ?_
            refine lv_topi (fun x_36 he_x_36 => ?_)
            have hr_x_36 := z_rg hC_g_trayMany he_x_36 (by omega) (by omega)
            refine lv_if_ge (tgt := 58) hx hb dX12_pour_49 (by decide) (fun c_37 => ?_) (fun c_37 => ?_)
            · have b_38 := z_fgeT c_37
              refine lv_aload_n hx hb dX12_pour_58 rfl (lv_at hl 0 rfl) ?_
              refine va_get (D := G) (ci := 12) (v := .ref a_traySort) (C := RX12) (T := TX12) (N := 65) hx hb hts inT12 hown hK hP 0 rfl rfl 4 (by decide) (hts _ tw_1889) (fun _ h9 => h9) rfl dX12_pour_59 ?_
              refine lv_iload_n hx hb dX12_pour_62 rfl (lv_at hl 1 rfl) ?_
              refine va_iald hx hb hK hP 1 0 rfl rfl (z_inN (by omega) (by omega)) dX12_pour_63 ?_
              refine lv_topi (fun x_39 he_x_39 => ?_)
              refine lv_aload_n hx hb dX12_pour_64 rfl (lv_at hl 0 rfl) ?_
              refine va_get (D := G) (ci := 12) (v := .ref a_traySort) (C := RX12) (T := TX12) (N := 65) hx hb hts inT12 hown hK hP 0 rfl rfl 4 (by decide) (hts _ tw_1889) (fun _ h9 => h9) rfl dX12_pour_65 ?_
              refine lv_iload_n hx hb dX12_pour_68 rfl (lv_at hl 3 rfl) ?_
              refine va_iald hx hb hK hP 1 0 rfl rfl (z_inN (by omega) (by omega)) dX12_pour_69 ?_
              refine lv_topi (fun x_40 he_x_40 => ?_)
              refine lv_icmp_eq (tgt := 80) hx hb dX12_pour_70 (by decide) (fun c_41 => ?_) (fun c_41 => ?_)
              · have b_42 := z_feqT c_41
                refine lv_iload hx hb dX12_pour_80 (lv_at hl 5 rfl) ?_
                refine lv_if_ge (tgt := 92) hx hb dX12_pour_82 (by decide) (fun c_43 => ?_) (fun c_43 => ?_)
                · have b_44 := z_fgeT c_43
                  refine lv_iload_n hx hb dX12_pour_92 rfl (lv_at hl 2 rfl) ?_
                  refine lv_if_lt (tgt := 136) hx hb dX12_pour_93 (by decide) (fun c_45 => ?_) (fun c_45 => ?_)
                  · have b_46 := z_fltT c_45
                    refine lv_aload_n hx hb dX12_pour_136 rfl (lv_at hl 0 rfl) ?_
                    refine lv_iconst (v := 4) hx hb dX12_pour_137 (by decide) ?_
                    refine z_callVi (As := [.int 4]) (rest := []) (wr := [(a_traySort, .inl (cA.1 0, 4, .inl g_traySort)), (a_trayMany, .inl (cA.1 0, 4, .inl g_trayMany)), (a_numbers, .inl (cA.1 1, 240, .inr (.inl g_numbers)))]) ⟨hx, hb, hml, hown, hts⟩ hK hE hT hP hD hS hA (r_no l G cA h0 0 0 m_above m_under a_traySort a_trayMany a_numbers a_tape m_taped m_textEnd m_faultKind m_faultAt m_bad m_badAt m_token m_at m_behind m_number m_letters m_word a_c a_words m_markMany a_there a_tried a_best a_found m_thereMany m_foundMany m_orderHow m_orderRing m_orderMany m_hasBest m_bestTop m_bestBy a_weights a_shared m_random m_truePlace m_trueWay m_seconds m_done m_feelings m_tries m_leftOver m_playDoor m_playRing m_isOpen m_isOver m_wasTried m_hasPlayed a_feltNow a_last a_kept m_hasSeconds m_hasTurned m_hasRound a_hasFeels a_isOn m_firstAct m_meanTop m_meanBy a_order m_rowMany m_newSteps 4) lk_RX12_97 ⟨rfl, rfl⟩ ⟨Nat.le_of_ble_eq_true rfl, Nat.le_of_ble_eq_true rfl⟩ 12 rfl rfl rfl [0] [1, 2, 3] rfl rfl (by decide) rfl hl.1 rfl (lv_room (Nat.le_of_ble_eq_true rfl)) dX12_pour_138 ⟨Nat.le_of_ble_eq_true rfl, Nat.le_of_ble_eq_true rfl⟩ (fun r_48 u_49 H locs hw hP hD hS => ?_)
                    obtain ⟨n_47, rfl⟩ : ∃ z, z = u_49 := ⟨_, rfl⟩
                    obtain ⟨he_r_48, he_n_47, hw⟩ := hw
                    obtain ⟨rfl, -⟩ := hw
                    have hpost : ((0 : Int32) = 0 ∧ (0 ≤ (0 : Int32).toInt ∧ (0 : Int32).toInt ≤ 0)) ∨ ((0 : Int32) = 1 ∧ (0 ≤ n_47.toInt ∧ n_47.toInt ≤ 0) ∧ (0 ≤ (0 : Int32).toInt ∧ (0 : Int32).toInt ≤ 0)) := (Or.inl ⟨rfl, (by decide +kernel)⟩)
                    have hX_51 : F_r_pour g_traySort g_trayMany g_numbers t i to j nn = (((0 : Int32), g_numbers) : Int32 × (Nat → Int64)) := by
                      refine (F_r_pour_s ..).trans ?_
                      refine (if_neg c_1).trans ?_
                      refine (if_neg c_9).trans ?_
                      refine (if_neg c_17).trans ?_
                      refine (if_pos c_25).trans ?_
                      try (extract_lets -merge -useContext +onlyGivenNames y9; have e9 : x_27 = y9 := (by first | exact he_x_27 | exact he_x_27.symm); clear_value y9; subst e9)
                      refine (if_neg c_28).trans ?_
                      try (extract_lets -merge -useContext +onlyGivenNames y9; have e9 : x_36 = y9 := (by first | exact he_x_36 | exact he_x_36.symm); clear_value y9; subst e9)
                      refine (if_pos c_37).trans ?_
                      try (extract_lets -merge -useContext +onlyGivenNames y9; have e9 : x_39 = y9 := (by first | exact he_x_39 | exact he_x_39.symm); clear_value y9; subst e9)
                      try (extract_lets -merge -useContext +onlyGivenNames y9; have e9 : x_40 = y9 := (by first | exact he_x_40 | exact he_x_40.symm); clear_value y9; subst e9)
                      refine (if_pos c_41).trans ?_
                      refine (if_pos c_43).trans ?_
                      refine (if_pos c_45).trans ?_
                      extract_lets -merge -useContext +onlyGivenNames w9 y13_0 y13_1; have e9 : ((0 : Int32), n_47) = w9 := ((z_tS he_r_48 he_n_47.symm)).symm; clear_value w9; subst e9
                      exact rfl
                    exact hret _ _ _ _ _ _ (n_47, 0, g_numbers) [3, 0, 1, 2] hP hD hS rfl (by decide) dX12_pour_141 (Or.inl rfl) ⟨(congrArg (fun z9 => z9.1) hX_51).symm, (congrArg (fun z9 => z9.2) hX_51).symm, hpost⟩
                  · have b_52 := z_fgeF c_45
                    refine lv_iload hx hb dX12_pour_96 (lv_at hl 4 rfl) ?_
                    refine lv_if_lt (tgt := 136) hx hb dX12_pour_98 (by decide) (fun c_53 => ?_) (fun c_53 => ?_)
                    · have b_54 := z_fltT c_53
                      refine lv_aload_n hx hb dX12_pour_136 rfl (lv_at hl 0 rfl) ?_
                      refine lv_iconst (v := 4) hx hb dX12_pour_137 (by decide) ?_
                      refine z_callVi (As := [.int 4]) (rest := []) (wr := [(a_traySort, .inl (cA.1 0, 4, .inl g_traySort)), (a_trayMany, .inl (cA.1 0, 4, .inl g_trayMany)), (a_numbers, .inl (cA.1 1, 240, .inr (.inl g_numbers)))]) ⟨hx, hb, hml, hown, hts⟩ hK hE hT hP hD hS hA (r_no l G cA h0 0 0 m_above m_under a_traySort a_trayMany a_numbers a_tape m_taped m_textEnd m_faultKind m_faultAt m_bad m_badAt m_token m_at m_behind m_number m_letters m_word a_c a_words m_markMany a_there a_tried a_best a_found m_thereMany m_foundMany m_orderHow m_orderRing m_orderMany m_hasBest m_bestTop m_bestBy a_weights a_shared m_random m_truePlace m_trueWay m_seconds m_done m_feelings m_tries m_leftOver m_playDoor m_playRing m_isOpen m_isOver m_wasTried m_hasPlayed a_feltNow a_last a_kept m_hasSeconds m_hasTurned m_hasRound a_hasFeels a_isOn m_firstAct m_meanTop m_meanBy a_order m_rowMany m_newSteps 4) lk_RX12_97 ⟨rfl, rfl⟩ ⟨Nat.le_of_ble_eq_true rfl, Nat.le_of_ble_eq_true rfl⟩ 12 rfl rfl rfl [0] [1, 2, 3] rfl rfl (by decide) rfl hl.1 rfl (lv_room (Nat.le_of_ble_eq_true rfl)) dX12_pour_138 ⟨Nat.le_of_ble_eq_true rfl, Nat.le_of_ble_eq_true rfl⟩ (fun r_56 u_57 H locs hw hP hD hS => ?_)
                      obtain ⟨n_55, rfl⟩ : ∃ z, z = u_57 := ⟨_, rfl⟩
                      obtain ⟨he_r_56, he_n_55, hw⟩ := hw
                      obtain ⟨rfl, -⟩ := hw
                      have hpost : ((0 : Int32) = 0 ∧ (0 ≤ (0 : Int32).toInt ∧ (0 : Int32).toInt ≤ 0)) ∨ ((0 : Int32) = 1 ∧ (0 ≤ n_55.toInt ∧ n_55.toInt ≤ 0) ∧ (0 ≤ (0 : Int32).toInt ∧ (0 : Int32).toInt ≤ 0)) := (Or.inl ⟨rfl, (by decide +kernel)⟩)
                      have hX_59 : F_r_pour g_traySort g_trayMany g_numbers t i to j nn = (((0 : Int32), g_numbers) : Int32 × (Nat → Int64)) := by
                        refine (F_r_pour_s ..).trans ?_
                        refine (if_neg c_1).trans ?_
                        refine (if_neg c_9).trans ?_
                        refine (if_neg c_17).trans ?_
                        refine (if_pos c_25).trans ?_
                        try (extract_lets -merge -useContext +onlyGivenNames y9; have e9 : x_27 = y9 := (by first | exact he_x_27 | exact he_x_27.symm); clear_value y9; subst e9)
                        refine (if_neg c_28).trans ?_
                        try (extract_lets -merge -useContext +onlyGivenNames y9; have e9 : x_36 = y9 := (by first | exact he_x_36 | exact he_x_36.symm); clear_value y9; subst e9)
                        refine (if_pos c_37).trans ?_
                        try (extract_lets -merge -useContext +onlyGivenNames y9; have e9 : x_39 = y9 := (by first | exact he_x_39 | exact he_x_39.symm); clear_value y9; subst e9)
                        try (extract_lets -merge -useContext +onlyGivenNames y9; have e9 : x_40 = y9 := (by first | exact he_x_40 | exact he_x_40.symm); clear_value y9; subst e9)
                        refine (if_pos c_41).trans ?_
                        refine (if_pos c_43).trans ?_
                        refine (if_neg c_45).trans ?_
                        refine (if_pos c_53).trans ?_
                        extract_lets -merge -useContext +onlyGivenNames w9 y14_0 y14_1; have e9 : ((0 : Int32), n_55) = w9 := ((z_tS he_r_56 he_n_55.symm)).symm; clear_value w9; subst e9
                        exact rfl
                      exact hret _ _ _ _ _ _ (n_55, 0, g_numbers) [3, 0, 1, 2] hP hD hS rfl (by decide) dX12_pour_141 (Or.inl rfl) ⟨(congrArg (fun z9 => z9.1) hX_59).symm, (congrArg (fun z9 => z9.2) hX_59).symm, hpost⟩
                    · have b_60 := z_fgeF c_53
                      refine lv_iload_n hx hb dX12_pour_101 rfl (lv_at hl 2 rfl) ?_
                      refine lv_i2l (v := (i).toInt64) hx hb dX12_pour_102 rfl ?_
                      refine lv_topl (fun x_61 he_x_61 => ?_)
                      have hq_x_61 := z_i2l he_x_61
                      have hL_i := z_full i
                      refine lv_iload hx hb dX12_pour_103 (lv_at hl 5 rfl) ?_
                      refine lv_i2l (v := (nn).toInt64) hx hb dX12_pour_105 rfl ?_
                      refine lv_topl (fun x_62 he_x_62 => ?_)
                      have hq_x_62 := z_i2l he_x_62
                      have hL_nn := z_full nn
                      refine lv_ladd hx hb dX12_pour_106 ?_
                      refine lv_topl (fun x_63 he_x_63 => ?_)
                      have hq_x_63 := z_addql he_x_63 (rfl : x_61.toInt = _) (rfl : x_62.toInt = _) (by omega) (by omega)
                      refine lv_aload_n hx hb dX12_pour_107 rfl (lv_at hl 0 rfl) ?_
                      refine va_get (D := G) (ci := 12) (v := .ref a_trayMany) (C := RX12) (T := TX12) (N := 65) hx hb hts inT12 hown hK hP 0 rfl rfl 5 (by decide) (hts _ tw_1890) (fun _ h9 => h9) rfl dX12_pour_108 ?_
                      refine lv_iload_n hx hb dX12_pour_111 rfl (lv_at hl 1 rfl) ?_
                      refine va_iald hx hb hK hP 2 0 rfl rfl (z_inN (by omega) (by omega)) dX12_pour_112 ?_
                      refine lv_topi (fun x_64 he_x_64 => ?_)
                      have hr_x_64 := z_rg hC_g_trayMany he_x_64 (by omega) (by omega)
                      refine lv_i2l (v := (x_64).toInt64) hx hb dX12_pour_113 rfl ?_
                      refine lv_topl (fun x_65 he_x_65 => ?_)
                      have hq_x_65 := z_i2l he_x_65
                      refine W.lcmp hx hb dX12_pour_114 ?_
                      refine lv_if_gt (tgt := 136) hx hb dX12_pour_115 (by decide) (fun c_66 => ?_) (fun c_66 => ?_)
                      · have b_67 := z_fgtTl c_66
                        refine lv_aload_n hx hb dX12_pour_136 rfl (lv_at hl 0 rfl) ?_
                        refine lv_iconst (v := 4) hx hb dX12_pour_137 (by decide) ?_
                        refine z_callVi (As := [.int 4]) (rest := []) (wr := [(a_traySort, .inl (cA.1 0, 4, .inl g_traySort)), (a_trayMany, .inl (cA.1 0, 4, .inl g_trayMany)), (a_numbers, .inl (cA.1 1, 240, .inr (.inl g_numbers)))]) ⟨hx, hb, hml, hown, hts⟩ hK hE hT hP hD hS hA (r_no l G cA h0 0 0 m_above m_under a_traySort a_trayMany a_numbers a_tape m_taped m_textEnd m_faultKind m_faultAt m_bad m_badAt m_token m_at m_behind m_number m_letters m_word a_c a_words m_markMany a_there a_tried a_best a_found m_thereMany m_foundMany m_orderHow m_orderRing m_orderMany m_hasBest m_bestTop m_bestBy a_weights a_shared m_random m_truePlace m_trueWay m_seconds m_done m_feelings m_tries m_leftOver m_playDoor m_playRing m_isOpen m_isOver m_wasTried m_hasPlayed a_feltNow a_last a_kept m_hasSeconds m_hasTurned m_hasRound a_hasFeels a_isOn m_firstAct m_meanTop m_meanBy a_order m_rowMany m_newSteps 4) lk_RX12_97 ⟨rfl, rfl⟩ ⟨Nat.le_of_ble_eq_true rfl, Nat.le_of_ble_eq_true rfl⟩ 12 rfl rfl rfl [0] [1, 2, 3] rfl rfl (by decide) rfl hl.1 rfl (lv_room (Nat.le_of_ble_eq_true rfl)) dX12_pour_138 ⟨Nat.le_of_ble_eq_true rfl, Nat.le_of_ble_eq_true rfl⟩ (fun r_69 u_70 H locs hw hP hD hS => ?_)
                        obtain ⟨n_68, rfl⟩ : ∃ z, z = u_70 := ⟨_, rfl⟩
                        obtain ⟨he_r_69, he_n_68, hw⟩ := hw
                        obtain ⟨rfl, -⟩ := hw
                        have hpost : ((0 : Int32) = 0 ∧ (0 ≤ (0 : Int32).toInt ∧ (0 : Int32).toInt ≤ 0)) ∨ ((0 : Int32) = 1 ∧ (0 ≤ n_68.toInt ∧ n_68.toInt ≤ 0) ∧ (0 ≤ (0 : Int32).toInt ∧ (0 : Int32).toInt ≤ 0)) := (Or.inl ⟨rfl, (by decide +kernel)⟩)
                        have hX_72 : F_r_pour g_traySort g_trayMany g_numbers t i to j nn = (((0 : Int32), g_numbers) : Int32 × (Nat → Int64)) := by
                          refine (F_r_pour_s ..).trans ?_
                          refine (if_neg c_1).trans ?_
                          refine (if_neg c_9).trans ?_
                          refine (if_neg c_17).trans ?_
                          refine (if_pos c_25).trans ?_
                          try (extract_lets -merge -useContext +onlyGivenNames y9; have e9 : x_27 = y9 := (by first | exact he_x_27 | exact he_x_27.symm); clear_value y9; subst e9)
                          refine (if_neg c_28).trans ?_
                          try (extract_lets -merge -useContext +onlyGivenNames y9; have e9 : x_36 = y9 := (by first | exact he_x_36 | exact he_x_36.symm); clear_value y9; subst e9)
                          refine (if_pos c_37).trans ?_
                          try (extract_lets -merge -useContext +onlyGivenNames y9; have e9 : x_39 = y9 := (by first | exact he_x_39 | exact he_x_39.symm); clear_value y9; subst e9)
                          try (extract_lets -merge -useContext +onlyGivenNames y9; have e9 : x_40 = y9 := (by first | exact he_x_40 | exact he_x_40.symm); clear_value y9; subst e9)
                          refine (if_pos c_41).trans ?_
                          refine (if_pos c_43).trans ?_
                          refine (if_neg c_45).trans ?_
                          refine (if_neg c_53).trans ?_
                          try (extract_lets -merge -useContext +onlyGivenNames y9; have e9 : x_61 = y9 := (by first | exact he_x_61 | exact he_x_61.symm); clear_value y9; subst e9)
                          try (extract_lets -merge -useContext +onlyGivenNames y9; have e9 : x_62 = y9 := (by first | exact he_x_62 | exact he_x_62.symm); clear_value y9; subst e9)
                          try (extract_lets -merge -useContext +onlyGivenNames y9; have e9 : x_63 = y9 := (by first | exact he_x_63 | exact he_x_63.symm); clear_value y9; subst e9)
                          try (extract_lets -merge -useContext +onlyGivenNames y9; have e9 : x_64 = y9 := (by first | exact he_x_64 | exact he_x_64.symm); clear_value y9; subst e9)
                          try (extract_lets -merge -useContext +onlyGivenNames y9; have e9 : x_65 = y9 := (by first | exact he_x_65 | exact he_x_65.symm); clear_value y9; subst e9)
                          refine (if_pos c_66).trans ?_
                          extract_lets -merge -useContext +onlyGivenNames w9 y20_0 y20_1; have e9 : ((0 : Int32), n_68) = w9 := ((z_tS he_r_69 he_n_68.symm)).symm; clear_value w9; subst e9
                          exact rfl
                        exact hret _ _ _ _ _ _ (n_68, 0, g_numbers) [3, 0, 1, 2] hP hD hS rfl (by decide) dX12_pour_141 (Or.inl rfl) ⟨(congrArg (fun z9 => z9.1) hX_72).symm, (congrArg (fun z9 => z9.2) hX_72).symm, hpost⟩
                      · have b_73 := z_fleFl c_66
                        refine lv_iload hx hb dX12_pour_118 (lv_at hl 4 rfl) ?_
                        refine lv_i2l (v := (j).toInt64) hx hb dX12_pour_120 rfl ?_
                        refine lv_topl (fun x_74 he_x_74 => ?_)
                        have hq_x_74 := z_i2l he_x_74
                        have hL_j := z_full j
                        refine lv_iload hx hb dX12_pour_121 (lv_at hl 5 rfl) ?_
                        refine lv_i2l (v := (nn).toInt64) hx hb dX12_pour_123 rfl ?_
                        refine lv_topl (fun x_75 he_x_75 => ?_)
                        have hq_x_75 := z_i2l he_x_75
                        refine lv_ladd hx hb dX12_pour_124 ?_
                        refine lv_topl (fun x_76 he_x_76 => ?_)
                        have hq_x_76 := z_addql he_x_76 (rfl : x_74.toInt = _) (rfl : x_75.toInt = _) (by omega) (by omega)
                        refine lv_aload_n hx hb dX12_pour_125 rfl (lv_at hl 0 rfl) ?_
                        refine va_get (D := G) (ci := 12) (v := .ref a_trayMany) (C := RX12) (T := TX12) (N := 65) hx hb hts inT12 hown hK hP 0 rfl rfl 5 (by decide) (hts _ tw_1890) (fun _ h9 => h9) rfl dX12_pour_126 ?_
                        refine lv_iload_n hx hb dX12_pour_129 rfl (lv_at hl 3 rfl) ?_
                        refine va_iald hx hb hK hP 2 0 rfl rfl (z_inN (by omega) (by omega)) dX12_pour_130 ?_
                        refine lv_topi (fun x_77 he_x_77 => ?_)
                        have hr_x_77 := z_rg hC_g_trayMany he_x_77 (by omega) (by omega)
                        refine lv_i2l (v := (x_77).toInt64) hx hb dX12_pour_131 rfl ?_
                        refine lv_topl (fun x_78 he_x_78 => ?_)
                        have hq_x_78 := z_i2l he_x_78
                        refine W.lcmp hx hb dX12_pour_132 ?_
                        refine lv_if_le (tgt := 142) hx hb dX12_pour_133 (by decide) (fun c_79 => ?_) (fun c_79 => ?_)
                        · have b_80 := z_fleTl c_79
                          have hn_k_81 : 0 ≤ i.toInt ∧ i.toInt ≤ 60 := by omega
                          have hn_k_82 : 0 ≤ j.toInt ∧ j.toInt ≤ 60 := by omega
                          have hn_k_83 : 0 ≤ nn.toInt ∧ nn.toInt ≤ 60 := by omega
                          refine lv_iload_n hx hb dX12_pour_142 rfl (lv_at hl 2 rfl) ?_
                          refine lv_iload hx hb dX12_pour_143 (lv_at hl 4 rfl) ?_
                          refine lv_icmp_ge (tgt := 152) hx hb dX12_pour_145 (by decide) (fun c_84 => ?_) (fun c_84 => ?_)
                          · have b_85 := z_fgeT c_84
                            refine lv_iconst (v := 0) hx hb dX12_pour_152 (by decide) ?_
                            refine lv_istore (lv' := [(6, .int 0), (0, .ref h0), (1, .int t), (2, .int i), (3, .int to), (4, .int j), (5, .int nn)]) hx hb dX12_pour_153 hl (by decide) rfl (fun ls hl => ?_)
                            refine lv_iconst (v := 0) hx hb dX12_pour_155 (by decide) ?_
                            refine lv_istore (lv' := [(7, .int 0), (6, .int 0), (0, .ref h0), (1, .int t), (2, .int i), (3, .int to), (4, .int j), (5, .int nn)]) hx hb dX12_pour_156 hl (by decide) rfl (fun ls hl => ?_)
                            have hlp_459 : ∀ (n_L158a : Nat) (v_433 : Int32) (g_434 : Nat → Int64) (H : Heap) (locs : List Loc) (ls : Array Slot), (2147483647 - v_433.toInt).toNat < n_L158a → (0 ≤ v_433.toInt ∧ v_433.toInt ≤ 60) → (F_r_pour g_traySort g_trayMany g_numbers t i to j nn = F_r_pour_L158a t i to j nn n_L158a v_433 g_434) → va_P G vwCl [(h0, .inr (12, [.int 0, .int 0, .long m_above, .long m_under, .ref a_traySort, .ref a_trayMany, .ref a_numbers, .ref a_tape, .int m_taped, .int m_textEnd, .int m_faultKind, .int m_faultAt, .int m_bad, .int m_badAt, .int m_token, .int m_at, .int m_behind, .int m_number, .int m_letters, .long m_word, .ref a_c, .ref a_words, .int m_markMany, .ref a_there, .ref a_tried, .ref a_best, .ref a_found, .int m_thereMany, .int m_foundMany, .int m_orderHow, .int m_orderRing, .int m_orderMany, .int m_hasBest, .long m_bestTop, .long m_bestBy, .ref a_weights, .ref a_shared, .int m_random, .int m_truePlace, .int m_trueWay, .int m_seconds, .int m_done, .int m_feelings, .int m_tries, .int m_leftOver, .int m_playDoor, .int m_playRing, .int m_isOpen, .int m_isOver, .int m_wasTried, .int m_hasPlayed, .ref a_feltNow, .ref a_last, .ref a_kept, .int m_hasSeconds, .int m_hasTurned, .int m_hasRound, .ref a_hasFeels, .ref a_isOn, .int m_firstAct, .long m_meanTop, .long m_meanBy, .ref a_order, .int m_rowMany, .int m_newSteps])), (a_traySort, .inl (cA.1 0, 4, .inl g_traySort)), (a_trayMany, .inl (cA.1 0, 4, .inl g_trayMany)), (a_numbers, .inl (cA.1 1, 240, .inr (.inl g_434)))] H → va_D A [(h0, .inr (12, [.int 0, .int 0, .long m_above, .long m_under, .ref a_traySort, .ref a_trayMany, .ref a_numbers, .ref a_tape, .int m_taped, .int m_textEnd, .int m_faultKind, .int m_faultAt, .int m_bad, .int m_badAt, .int m_token, .int m_at, .int m_behind, .int m_number, .int m_letters, .long m_word, .ref a_c, .ref a_words, .int m_markMany, .ref a_there, .ref a_tried, .ref a_best, .ref a_found, .int m_thereMany, .int m_foundMany, .int m_orderHow, .int m_orderRing, .int m_orderMany, .int m_hasBest, .long m_bestTop, .long m_bestBy, .ref a_weights, .ref a_shared, .int m_random, .int m_truePlace, .int m_trueWay, .int m_seconds, .int m_done, .int m_feelings, .int m_tries, .int m_leftOver, .int m_playDoor, .int m_playRing, .int m_isOpen, .int m_isOver, .int m_wasTried, .int m_hasPlayed, .ref a_feltNow, .ref a_last, .ref a_kept, .int m_hasSeconds, .int m_hasTurned, .int m_hasRound, .ref a_hasFeels, .ref a_isOn, .int m_firstAct, .long m_meanTop, .long m_meanBy, .ref a_order, .int m_rowMany, .int m_newSteps])), (a_traySort, .inl (cA.1 0, 4, .inl g_traySort)), (a_trayMany, .inl (cA.1 0, 4, .inl g_trayMany)), (a_numbers, .inl (cA.1 1, 240, .inr (.inl g_434)))] → va_S A s.heap H locs → lv_has ls 9 [(0, .ref h0), (1, .int t), (2, .int i), (3, .int to), (4, .int j), (5, .int nn), (6, .int 0), (7, .int v_433)] → W p l e ({ frames := 1, cells := 0, slots := 0, locals := 21 }) s m args below meth c H locs 0 0 Q (F0 m 158 ls []) := by
                              intro n_L158a
                              induction n_L158a with
                              | zero =>
                                intro v_433 g_434 H locs ls hmu_hlp_459 hr_v_433 hF_L158a hP hD hS hl
                                exact absurd hmu_hlp_459 (Nat.not_lt_zero _)
                              | succ n_L158a ih_460 =>
                                intro v_433 g_434 H locs ls hmu_hlp_459 hr_v_433 hF_L158a hP hD hS hl
                                refine lv_iload hx hb dX12_pour_158 (lv_at hl 7 rfl) ?_
                                refine lv_iload hx hb dX12_pour_160 (lv_at hl 5 rfl) ?_
                                refine lv_icmp_ge (tgt := 219) hx hb dX12_pour_162 (by decide) (fun c_461 => ?_) (fun c_461 => ?_)
                                · have b_462 := z_fgeT c_461
                                  refine lv_iconst (v := 1) hx hb dX12_pour_219 (by decide) ?_
                                  have hpost : ((1 : Int32) = 0 ∧ (0 ≤ (0 : Int32).toInt ∧ (0 : Int32).toInt ≤ 0)) ∨ ((1 : Int32) = 1 ∧ (0 ≤ (0 : Int32).toInt ∧ (0 : Int32).toInt ≤ 0) ∧ (0 ≤ (0 : Int32).toInt ∧ (0 : Int32).toInt ≤ 0)) := (Or.inr ⟨rfl, ⟨(by decide +kernel), (by decide +kernel)⟩⟩)
                                  have hX_463 : F_r_pour g_traySort g_trayMany g_numbers t i to j nn = (((1 : Int32), g_434) : Int32 × (Nat → Int64)) := by
                                    refine hF_L158a.trans ?_
                                    refine (F_r_pour_L158a_s ..).trans ?_
                                    refine (if_pos c_461).trans ?_
                                    exact rfl
                                  exact hret _ _ _ _ _ _ (0, 0, g_434) [0, 1, 2, 3] hP hD hS rfl (by decide) dX12_pour_220 (Or.inr rfl) ⟨(congrArg (fun z9 => z9.1) hX_463).symm, (congrArg (fun z9 => z9.2) hX_463).symm, hpost⟩
                                · have b_464 := z_fltF c_461
                                  refine lv_iload hx hb dX12_pour_165 (lv_at hl 6 rfl) ?_
                                  refine lv_if_eq (tgt := 180) hx hb dX12_pour_167 (by decide) (fun _ => ?_) (fun h9 => absurd (by decide +kernel) h9)
                                  refine lv_iload hx hb dX12_pour_180 (lv_at hl 7 rfl) ?_
                                  refine lv_istore (lv' := [(8, .int v_433), (0, .ref h0), (1, .int t), (2, .int i), (3, .int to), (4, .int j), (5, .int nn), (6, .int 0), (7, .int v_433)]) hx hb dX12_pour_182 hl (by decide) rfl (fun ls hl => ?_)
                                  refine lv_aload_n hx hb dX12_pour_184 rfl (lv_at hl 1 rfl) ?_
                                  refine va_get (D := G) (ci := 12) (v := .ref a_numbers) (C := RX12) (T := TX12) (N := 65) hx hb hts inT12 hown hK hP 0 rfl rfl 6 (by decide) (hts _ tw_1891) (fun _ h9 => h9) rfl dX12_pour_185 ?_
                                  refine lv_bipush (v := 60) hx hb dX12_pour_188 (by decide) ?_
                                  refine lv_iload_n hx hb dX12_pour_190 rfl (lv_at hl 4 rfl) ?_
                                  refine lv_imul hx hb dX12_pour_191 ?_
                                  refine lv_topi (fun x_465 he_x_465 => ?_)
                                  have hq_x_465 := z_mulq he_x_465 hk_60 (rfl : to.toInt = _) (by omega) (by omega)
                                  refine lv_iload hx hb dX12_pour_192 (lv_at hl 5 rfl) ?_
                                  refine lv_iadd hx hb dX12_pour_194 ?_
                                  refine lv_topi (fun x_466 he_x_466 => ?_)
                                  have hq_x_466 := z_addq he_x_466 (rfl : x_465.toInt = _) (rfl : j.toInt = _) (by omega) (by omega)
                                  refine lv_iload hx hb dX12_pour_195 (lv_at hl 0 rfl) ?_
                                  refine lv_iadd hx hb dX12_pour_197 ?_
                                  refine lv_topi (fun x_467 he_x_467 => ?_)
                                  have hq_x_467 := z_addq he_x_467 (rfl : x_466.toInt = _) (rfl : v_433.toInt = _) (by omega) (by omega)
                                  refine lv_aload_n hx hb dX12_pour_198 rfl (lv_at hl 1 rfl) ?_
                                  refine va_get (D := G) (ci := 12) (v := .ref a_numbers) (C := RX12) (T := TX12) (N := 65) hx hb hts inT12 hown hK hP 0 rfl rfl 6 (by decide) (hts _ tw_1891) (fun _ h9 => h9) rfl dX12_pour_199 ?_
                                  refine lv_bipush (v := 60) hx hb dX12_pour_202 (by decide) ?_
                                  refine lv_iload_n hx hb dX12_pour_204 rfl (lv_at hl 2 rfl) ?_
                                  refine lv_imul hx hb dX12_pour_205 ?_
                                  refine lv_topi (fun x_468 he_x_468 => ?_)
                                  have hq_x_468 := z_mulq he_x_468 hk_60 (rfl : t.toInt = _) (by omega) (by omega)
                                  refine lv_iload_n hx hb dX12_pour_206 rfl (lv_at hl 3 rfl) ?_
                                  refine lv_iadd hx hb dX12_pour_207 ?_
                                  refine lv_topi (fun x_469 he_x_469 => ?_)
                                  have hq_x_469 := z_addq he_x_469 (rfl : x_468.toInt = _) (rfl : i.toInt = _) (by omega) (by omega)
                                  refine lv_iload hx hb dX12_pour_208 (lv_at hl 0 rfl) ?_
                                  refine lv_iadd hx hb dX12_pour_210 ?_
                                  refine lv_topi (fun x_470 he_x_470 => ?_)
                                  have hq_x_470 := z_addq he_x_470 (rfl : x_469.toInt = _) (rfl : v_433.toInt = _) (by omega) (by omega)
                                  refine va_lald hx hb hK hP 3 1 rfl rfl (z_inN (by omega) (by omega)) dX12_pour_211 ?_
                                  refine lv_topl (fun x_471 he_x_471 => ?_)
                                  refine z_last hx hb hK hP hD hS 3 1 rfl rfl (z_inN (by omega) (by omega)) dX12_pour_212 (fun g_472 hg_g_472 H locs hP hD hS => ?_)
                                  obtain ⟨x_473, he_x_473⟩ : ∃ z : Int32, z = v_433 + 1 := ⟨_, rfl⟩
                                  have hq_x_473 := z_addq he_x_473 (rfl : v_433.toInt = _) hk_1 (by omega) (by omega)
                                  refine lv_iinc (v := x_473) (lv' := [(7, .int x_473), (8, .int v_433), (0, .ref h0), (1, .int t), (2, .int i), (3, .int to), (4, .int j), (5, .int nn), (6, .int 0)]) hx hb dX12_pour_213 hl (k := 8) rfl ((z_ofi (by decide +kernel)).trans he_x_473.symm) (by decide) rfl (fun ls hl => ?_)
                                  refine lv_goto (tgt := 158) hx hb dX12_pour_216 (by decide) ?_
                                  have hX_474 : F_r_pour g_traySort g_trayMany g_numbers t i to j nn = F_r_pour_L158a t i to j nn n_L158a x_473 g_472 := by
                                    refine hF_L158a.trans ?_
                                    refine (F_r_pour_L158a_s ..).trans ?_
                                    refine (if_neg c_461).trans ?_
                                    try (extract_lets -merge -useContext +onlyGivenNames y9; have e9 : x_465 = y9 := (by first | exact he_x_465 | exact he_x_465.symm); clear_value y9; subst e9)
                                    try (extract_lets -merge -useContext +onlyGivenNames y9; have e9 : x_466 = y9 := (by first | exact he_x_466 | exact he_x_466.symm); clear_value y9; subst e9)
                                    try (extract_lets -merge -useContext +onlyGivenNames y9; have e9 : x_467 = y9 := (by first | exact he_x_467 | exact he_x_467.symm); clear_value y9; subst e9)
                                    try (extract_lets -merge -useContext +onlyGivenNames y9; have e9 : x_468 = y9 := (by first | exact he_x_468 | exact he_x_468.symm); clear_value y9; subst e9)
                                    try (extract_lets -merge -useContext +onlyGivenNames y9; have e9 : x_469 = y9 := (by first | exact he_x_469 | exact he_x_469.symm); clear_value y9; subst e9)
                                    try (extract_lets -merge -useContext +onlyGivenNames y9; have e9 : x_470 = y9 := (by first | exact he_x_470 | exact he_x_470.symm); clear_value y9; subst e9)
                                    try (extract_lets -merge -useContext +onlyGivenNames y9; have e9 : x_471 = y9 := (by first | exact he_x_471 | exact he_x_471.symm); clear_value y9; subst e9)
                                    try (extract_lets -merge -useContext +onlyGivenNames y9; have e9 : g_472 = y9 := (by first | exact hg_g_472 | exact hg_g_472.symm); clear_value y9; subst e9)
                                    try (extract_lets -merge -useContext +onlyGivenNames y9; have e9 : x_473 = y9 := (by first | exact he_x_473 | exact he_x_473.symm); clear_value y9; subst e9)
                                    exact rfl
                                  exact ih_460 x_473 g_472 H locs ls (by omega) (by omega) hX_474 hP hD hS (lv_sub hl [2, 3, 4, 5, 6, 7, 8, 0] rfl)
                            have hX_475 : F_r_pour g_traySort g_trayMany g_numbers t i to j nn = F_r_pour_L158a t i to j nn ((2147483647 - (0 : Int32).toInt).toNat + 1) (0 : Int32) g_numbers := by
                              refine (F_r_pour_s ..).trans ?_
                              refine (if_neg c_1).trans ?_
                              refine (if_neg c_9).trans ?_
                              refine (if_neg c_17).trans ?_
                              refine (if_pos c_25).trans ?_
                              try (extract_lets -merge -useContext +onlyGivenNames y9; have e9 : x_27 = y9 := (by first | exact he_x_27 | exact he_x_27.symm); clear_value y9; subst e9)
                              refine (if_neg c_28).trans ?_
                              try (extract_lets -merge -useContext +onlyGivenNames y9; have e9 : x_36 = y9 := (by first | exact he_x_36 | exact he_x_36.symm); clear_value y9; subst e9)
                              refine (if_pos c_37).trans ?_
                              try (extract_lets -merge -useContext +onlyGivenNames y9; have e9 : x_39 = y9 := (by first | exact he_x_39 | exact he_x_39.symm); clear_value y9; subst e9)
                              try (extract_lets -merge -useContext +onlyGivenNames y9; have e9 : x_40 = y9 := (by first | exact he_x_40 | exact he_x_40.symm); clear_value y9; subst e9)
                              refine (if_pos c_41).trans ?_
                              refine (if_pos c_43).trans ?_
                              refine (if_neg c_45).trans ?_
                              refine (if_neg c_53).trans ?_
                              try (extract_lets -merge -useContext +onlyGivenNames y9; have e9 : x_61 = y9 := (by first | exact he_x_61 | exact he_x_61.symm); clear_value y9; subst e9)
                              try (extract_lets -merge -useContext +onlyGivenNames y9; have e9 : x_62 = y9 := (by first | exact he_x_62 | exact he_x_62.symm); clear_value y9; subst e9)
                              try (extract_lets -merge -useContext +onlyGivenNames y9; have e9 : x_63 = y9 := (by first | exact he_x_63 | exact he_x_63.symm); clear_value y9; subst e9)
                              try (extract_lets -merge -useContext +onlyGivenNames y9; have e9 : x_64 = y9 := (by first | exact he_x_64 | exact he_x_64.symm); clear_value y9; subst e9)
                              try (extract_lets -merge -useContext +onlyGivenNames y9; have e9 : x_65 = y9 := (by first | exact he_x_65 | exact he_x_65.symm); clear_value y9; subst e9)
                              refine (if_neg c_66).trans ?_
                              try (extract_lets -merge -useContext +onlyGivenNames y9; have e9 : x_74 = y9 := (by first | exact he_x_74 | exact he_x_74.symm); clear_value y9; subst e9)
                              try (extract_lets -merge -useContext +onlyGivenNames y9; have e9 : x_75 = y9 := (by first | exact he_x_75 | exact he_x_75.symm); clear_value y9; subst e9)
                              try (extract_lets -merge -useContext +onlyGivenNames y9; have e9 : x_76 = y9 := (by first | exact he_x_76 | exact he_x_76.symm); clear_value y9; subst e9)
                              try (extract_lets -merge -useContext +onlyGivenNames y9; have e9 : x_77 = y9 := (by first | exact he_x_77 | exact he_x_77.symm); clear_value y9; subst e9)
                              try (extract_lets -merge -useContext +onlyGivenNames y9; have e9 : x_78 = y9 := (by first | exact he_x_78 | exact he_x_78.symm); clear_value y9; subst e9)
                              refine (if_pos c_79).trans ?_
                              refine (if_pos c_84).trans ?_
                              exact rfl
                            exact hlp_459 ((2147483647 - (0 : Int32).toInt).toNat + 1) 0 g_numbers _ _ _ (Nat.lt_succ_self _) (by decide +kernel) hX_475 hP hD hS (lv_sub hl [2, 3, 4, 5, 6, 7, 1, 0] rfl)
                          · have b_476 := z_fltF c_84
                            refine lv_iconst (v := 1) hx hb dX12_pour_148 (by decide) ?_
                            refine lv_goto (tgt := 153) hx hb dX12_pour_149 (by decide) ?_
                            refine lv_istore (lv' := [(6, .int 1), (0, .ref h0), (1, .int t), (2, .int i), (3, .int to), (4, .int j), (5, .int nn)]) hx hb dX12_pour_153 hl (by decide) rfl (fun ls hl => ?_)
                            refine lv_iconst (v := 0) hx hb dX12_pour_155 (by decide) ?_
                            refine lv_istore (lv' := [(7, .int 0), (6, .int 1), (0, .ref h0), (1, .int t), (2, .int i), (3, .int to), (4, .int j), (5, .int nn)]) hx hb dX12_pour_156 hl (by decide) rfl (fun ls hl => ?_)
                            have hlp_904 : ∀ (n_L158b : Nat) (v_874 : Int32) (g_875 : Nat → Int64) (H : Heap) (locs : List Loc) (ls : Array Slot), (2147483647 - v_874.toInt).toNat < n_L158b → (0 ≤ v_874.toInt ∧ v_874.toInt ≤ 60) → (F_r_pour g_traySort g_trayMany g_numbers t i to j nn = F_r_pour_L158b t i to j nn n_L158b v_874 g_875) → va_P G vwCl [(h0, .inr (12, [.int 0, .int 0, .long m_above, .long m_under, .ref a_traySort, .ref a_trayMany, .ref a_numbers, .ref a_tape, .int m_taped, .int m_textEnd, .int m_faultKind, .int m_faultAt, .int m_bad, .int m_badAt, .int m_token, .int m_at, .int m_behind, .int m_number, .int m_letters, .long m_word, .ref a_c, .ref a_words, .int m_markMany, .ref a_there, .ref a_tried, .ref a_best, .ref a_found, .int m_thereMany, .int m_foundMany, .int m_orderHow, .int m_orderRing, .int m_orderMany, .int m_hasBest, .long m_bestTop, .long m_bestBy, .ref a_weights, .ref a_shared, .int m_random, .int m_truePlace, .int m_trueWay, .int m_seconds, .int m_done, .int m_feelings, .int m_tries, .int m_leftOver, .int m_playDoor, .int m_playRing, .int m_isOpen, .int m_isOver, .int m_wasTried, .int m_hasPlayed, .ref a_feltNow, .ref a_last, .ref a_kept, .int m_hasSeconds, .int m_hasTurned, .int m_hasRound, .ref a_hasFeels, .ref a_isOn, .int m_firstAct, .long m_meanTop, .long m_meanBy, .ref a_order, .int m_rowMany, .int m_newSteps])), (a_traySort, .inl (cA.1 0, 4, .inl g_traySort)), (a_trayMany, .inl (cA.1 0, 4, .inl g_trayMany)), (a_numbers, .inl (cA.1 1, 240, .inr (.inl g_875)))] H → va_D A [(h0, .inr (12, [.int 0, .int 0, .long m_above, .long m_under, .ref a_traySort, .ref a_trayMany, .ref a_numbers, .ref a_tape, .int m_taped, .int m_textEnd, .int m_faultKind, .int m_faultAt, .int m_bad, .int m_badAt, .int m_token, .int m_at, .int m_behind, .int m_number, .int m_letters, .long m_word, .ref a_c, .ref a_words, .int m_markMany, .ref a_there, .ref a_tried, .ref a_best, .ref a_found, .int m_thereMany, .int m_foundMany, .int m_orderHow, .int m_orderRing, .int m_orderMany, .int m_hasBest, .long m_bestTop, .long m_bestBy, .ref a_weights, .ref a_shared, .int m_random, .int m_truePlace, .int m_trueWay, .int m_seconds, .int m_done, .int m_feelings, .int m_tries, .int m_leftOver, .int m_playDoor, .int m_playRing, .int m_isOpen, .int m_isOver, .int m_wasTried, .int m_hasPlayed, .ref a_feltNow, .ref a_last, .ref a_kept, .int m_hasSeconds, .int m_hasTurned, .int m_hasRound, .ref a_hasFeels, .ref a_isOn, .int m_firstAct, .long m_meanTop, .long m_meanBy, .ref a_order, .int m_rowMany, .int m_newSteps])), (a_traySort, .inl (cA.1 0, 4, .inl g_traySort)), (a_trayMany, .inl (cA.1 0, 4, .inl g_trayMany)), (a_numbers, .inl (cA.1 1, 240, .inr (.inl g_875)))] → va_S A s.heap H locs → lv_has ls 9 [(0, .ref h0), (1, .int t), (2, .int i), (3, .int to), (4, .int j), (5, .int nn), (6, .int 1), (7, .int v_874)] → W p l e ({ frames := 1, cells := 0, slots := 0, locals := 21 }) s m args below meth c H locs 0 0 Q (F0 m 158 ls []) := by
                              intro n_L158b
                              induction n_L158b with
                              | zero =>
                                intro v_874 g_875 H locs ls hmu_hlp_904 hr_v_874 hF_L158b hP hD hS hl
                                exact absurd hmu_hlp_904 (Nat.not_lt_zero _)
                              | succ n_L158b ih_905 =>
                                intro v_874 g_875 H locs ls hmu_hlp_904 hr_v_874 hF_L158b hP hD hS hl
                                refine lv_iload hx hb dX12_pour_158 (lv_at hl 7 rfl) ?_
                                refine lv_iload hx hb dX12_pour_160 (lv_at hl 5 rfl) ?_
                                refine lv_icmp_ge (tgt := 219) hx hb dX12_pour_162 (by decide) (fun c_906 => ?_) (fun c_906 => ?_)
                                · have b_907 := z_fgeT c_906
                                  refine lv_iconst (v := 1) hx hb dX12_pour_219 (by decide) ?_
                                  have hpost : ((1 : Int32) = 0 ∧ (0 ≤ (0 : Int32).toInt ∧ (0 : Int32).toInt ≤ 0)) ∨ ((1 : Int32) = 1 ∧ (0 ≤ (0 : Int32).toInt ∧ (0 : Int32).toInt ≤ 0) ∧ (0 ≤ (0 : Int32).toInt ∧ (0 : Int32).toInt ≤ 0)) := (Or.inr ⟨rfl, ⟨(by decide +kernel), (by decide +kernel)⟩⟩)
                                  have hX_908 : F_r_pour g_traySort g_trayMany g_numbers t i to j nn = (((1 : Int32), g_875) : Int32 × (Nat → Int64)) := by
                                    refine hF_L158b.trans ?_
                                    refine (F_r_pour_L158b_s ..).trans ?_
                                    refine (if_pos c_906).trans ?_
                                    exact rfl
                                  exact hret _ _ _ _ _ _ (0, 0, g_875) [0, 1, 2, 3] hP hD hS rfl (by decide) dX12_pour_220 (Or.inr rfl) ⟨(congrArg (fun z9 => z9.1) hX_908).symm, (congrArg (fun z9 => z9.2) hX_908).symm, hpost⟩
                                · have b_909 := z_fltF c_906
                                  refine lv_iload hx hb dX12_pour_165 (lv_at hl 6 rfl) ?_
                                  refine lv_if_eq (tgt := 180) hx hb dX12_pour_167 (by decide) (fun h9 => absurd h9 (by decide +kernel)) (fun _ => ?_)
                                  refine lv_iload hx hb dX12_pour_170 (lv_at hl 5 rfl) ?_
                                  refine lv_iconst (v := 1) hx hb dX12_pour_172 (by decide) ?_
                                  refine lv_isub hx hb dX12_pour_173 ?_
                                  refine lv_topi (fun x_910 he_x_910 => ?_)
                                  have hq_x_910 := z_subq he_x_910 (rfl : nn.toInt = _) hk_1 (by omega) (by omega)
                                  refine lv_iload hx hb dX12_pour_174 (lv_at hl 7 rfl) ?_
                                  refine lv_isub hx hb dX12_pour_176 ?_
                                  refine lv_topi (fun x_911 he_x_911 => ?_)
                                  have hq_x_911 := z_subq he_x_911 (rfl : x_910.toInt = _) (rfl : v_874.toInt = _) (by omega) (by omega)
                                  refine lv_goto (tgt := 182) hx hb dX12_pour_177 (by decide) ?_
                                  refine lv_istore (lv' := [(8, .int x_911), (0, .ref h0), (1, .int t), (2, .int i), (3, .int to), (4, .int j), (5, .int nn), (6, .int 1), (7, .int v_874)]) hx hb dX12_pour_182 hl (by decide) rfl (fun ls hl => ?_)
                                  refine lv_aload_n hx hb dX12_pour_184 rfl (lv_at hl 1 rfl) ?_
                                  refine va_get (D := G) (ci := 12) (v := .ref a_numbers) (C := RX12) (T := TX12) (N := 65) hx hb hts inT12 hown hK hP 0 rfl rfl 6 (by decide) (hts _ tw_1891) (fun _ h9 => h9) rfl dX12_pour_185 ?_
                                  refine lv_bipush (v := 60) hx hb dX12_pour_188 (by decide) ?_
                                  refine lv_iload_n hx hb dX12_pour_190 rfl (lv_at hl 4 rfl) ?_
                                  refine lv_imul hx hb dX12_pour_191 ?_
                                  refine lv_topi (fun x_912 he_x_912 => ?_)
                                  have hq_x_912 := z_mulq he_x_912 hk_60 (rfl : to.toInt = _) (by omega) (by omega)
                                  refine lv_iload hx hb dX12_pour_192 (lv_at hl 5 rfl) ?_
                                  refine lv_iadd hx hb dX12_pour_194 ?_
                                  refine lv_topi (fun x_913 he_x_913 => ?_)
                                  have hq_x_913 := z_addq he_x_913 (rfl : x_912.toInt = _) (rfl : j.toInt = _) (by omega) (by omega)
                                  refine lv_iload hx hb dX12_pour_195 (lv_at hl 0 rfl) ?_
                                  refine lv_iadd hx hb dX12_pour_197 ?_
                                  refine lv_topi (fun x_914 he_x_914 => ?_)
                                  have hq_x_914 := z_addq he_x_914 (rfl : x_913.toInt = _) (rfl : x_911.toInt = _) (by omega) (by omega)
                                  refine lv_aload_n hx hb dX12_pour_198 rfl (lv_at hl 1 rfl) ?_
                                  refine va_get (D := G) (ci := 12) (v := .ref a_numbers) (C := RX12) (T := TX12) (N := 65) hx hb hts inT12 hown hK hP 0 rfl rfl 6 (by decide) (hts _ tw_1891) (fun _ h9 => h9) rfl dX12_pour_199 ?_
                                  refine lv_bipush (v := 60) hx hb dX12_pour_202 (by decide) ?_
                                  refine lv_iload_n hx hb dX12_pour_204 rfl (lv_at hl 2 rfl) ?_
                                  refine lv_imul hx hb dX12_pour_205 ?_
                                  refine lv_topi (fun x_915 he_x_915 => ?_)
                                  have hq_x_915 := z_mulq he_x_915 hk_60 (rfl : t.toInt = _) (by omega) (by omega)
                                  refine lv_iload_n hx hb dX12_pour_206 rfl (lv_at hl 3 rfl) ?_
                                  refine lv_iadd hx hb dX12_pour_207 ?_
                                  refine lv_topi (fun x_916 he_x_916 => ?_)
                                  have hq_x_916 := z_addq he_x_916 (rfl : x_915.toInt = _) (rfl : i.toInt = _) (by omega) (by omega)
                                  refine lv_iload hx hb dX12_pour_208 (lv_at hl 0 rfl) ?_
                                  refine lv_iadd hx hb dX12_pour_210 ?_
                                  refine lv_topi (fun x_917 he_x_917 => ?_)
                                  have hq_x_917 := z_addq he_x_917 (rfl : x_916.toInt = _) (rfl : x_911.toInt = _) (by omega) (by omega)
                                  refine va_lald hx hb hK hP 3 1 rfl rfl (z_inN (by omega) (by omega)) dX12_pour_211 ?_
                                  refine lv_topl (fun x_918 he_x_918 => ?_)
                                  refine z_last hx hb hK hP hD hS 3 1 rfl rfl (z_inN (by omega) (by omega)) dX12_pour_212 (fun g_919 hg_g_919 H locs hP hD hS => ?_)
                                  obtain ⟨x_920, he_x_920⟩ : ∃ z : Int32, z = v_874 + 1 := ⟨_, rfl⟩
                                  have hq_x_920 := z_addq he_x_920 (rfl : v_874.toInt = _) hk_1 (by omega) (by omega)
                                  refine lv_iinc (v := x_920) (lv' := [(7, .int x_920), (8, .int x_911), (0, .ref h0), (1, .int t), (2, .int i), (3, .int to), (4, .int j), (5, .int nn), (6, .int 1)]) hx hb dX12_pour_213 hl (k := 8) rfl ((z_ofi (by decide +kernel)).trans he_x_920.symm) (by decide) rfl (fun ls hl => ?_)
                                  refine lv_goto (tgt := 158) hx hb dX12_pour_216 (by decide) ?_
                                  have hX_921 : F_r_pour g_traySort g_trayMany g_numbers t i to j nn = F_r_pour_L158b t i to j nn n_L158b x_920 g_919 := by
                                    refine hF_L158b.trans ?_
                                    refine (F_r_pour_L158b_s ..).trans ?_
                                    refine (if_neg c_906).trans ?_
                                    try (extract_lets -merge -useContext +onlyGivenNames y9; have e9 : x_910 = y9 := (by first | exact he_x_910 | exact he_x_910.symm); clear_value y9; subst e9)
                                    try (extract_lets -merge -useContext +onlyGivenNames y9; have e9 : x_911 = y9 := (by first | exact he_x_911 | exact he_x_911.symm); clear_value y9; subst e9)
                                    try (extract_lets -merge -useContext +onlyGivenNames y9; have e9 : x_912 = y9 := (by first | exact he_x_912 | exact he_x_912.symm); clear_value y9; subst e9)
                                    try (extract_lets -merge -useContext +onlyGivenNames y9; have e9 : x_913 = y9 := (by first | exact he_x_913 | exact he_x_913.symm); clear_value y9; subst e9)
                                    try (extract_lets -merge -useContext +onlyGivenNames y9; have e9 : x_914 = y9 := (by first | exact he_x_914 | exact he_x_914.symm); clear_value y9; subst e9)
                                    try (extract_lets -merge -useContext +onlyGivenNames y9; have e9 : x_915 = y9 := (by first | exact he_x_915 | exact he_x_915.symm); clear_value y9; subst e9)
                                    try (extract_lets -merge -useContext +onlyGivenNames y9; have e9 : x_916 = y9 := (by first | exact he_x_916 | exact he_x_916.symm); clear_value y9; subst e9)
                                    try (extract_lets -merge -useContext +onlyGivenNames y9; have e9 : x_917 = y9 := (by first | exact he_x_917 | exact he_x_917.symm); clear_value y9; subst e9)
                                    try (extract_lets -merge -useContext +onlyGivenNames y9; have e9 : x_918 = y9 := (by first | exact he_x_918 | exact he_x_918.symm); clear_value y9; subst e9)
                                    try (extract_lets -merge -useContext +onlyGivenNames y9; have e9 : g_919 = y9 := (by first | exact hg_g_919 | exact hg_g_919.symm); clear_value y9; subst e9)
                                    try (extract_lets -merge -useContext +onlyGivenNames y9; have e9 : x_920 = y9 := (by first | exact he_x_920 | exact he_x_920.symm); clear_value y9; subst e9)
                                    exact rfl
                                  exact ih_905 x_920 g_919 H locs ls (by omega) (by omega) hX_921 hP hD hS (lv_sub hl [2, 3, 4, 5, 6, 7, 8, 0] rfl)
                            have hX_922 : F_r_pour g_traySort g_trayMany g_numbers t i to j nn = F_r_pour_L158b t i to j nn ((2147483647 - (0 : Int32).toInt).toNat + 1) (0 : Int32) g_numbers := by
                              refine (F_r_pour_s ..).trans ?_
                              refine (if_neg c_1).trans ?_
                              refine (if_neg c_9).trans ?_
                              refine (if_neg c_17).trans ?_
                              refine (if_pos c_25).trans ?_
                              try (extract_lets -merge -useContext +onlyGivenNames y9; have e9 : x_27 = y9 := (by first | exact he_x_27 | exact he_x_27.symm); clear_value y9; subst e9)
                              refine (if_neg c_28).trans ?_
                              try (extract_lets -merge -useContext +onlyGivenNames y9; have e9 : x_36 = y9 := (by first | exact he_x_36 | exact he_x_36.symm); clear_value y9; subst e9)
                              refine (if_pos c_37).trans ?_
                              try (extract_lets -merge -useContext +onlyGivenNames y9; have e9 : x_39 = y9 := (by first | exact he_x_39 | exact he_x_39.symm); clear_value y9; subst e9)
                              try (extract_lets -merge -useContext +onlyGivenNames y9; have e9 : x_40 = y9 := (by first | exact he_x_40 | exact he_x_40.symm); clear_value y9; subst e9)
                              refine (if_pos c_41).trans ?_
                              refine (if_pos c_43).trans ?_
                              refine (if_neg c_45).trans ?_
                              refine (if_neg c_53).trans ?_
                              try (extract_lets -merge -useContext +onlyGivenNames y9; have e9 : x_61 = y9 := (by first | exact he_x_61 | exact he_x_61.symm); clear_value y9; subst e9)
                              try (extract_lets -merge -useContext +onlyGivenNames y9; have e9 : x_62 = y9 := (by first | exact he_x_62 | exact he_x_62.symm); clear_value y9; subst e9)
                              try (extract_lets -merge -useContext +onlyGivenNames y9; have e9 : x_63 = y9 := (by first | exact he_x_63 | exact he_x_63.symm); clear_value y9; subst e9)
                              try (extract_lets -merge -useContext +onlyGivenNames y9; have e9 : x_64 = y9 := (by first | exact he_x_64 | exact he_x_64.symm); clear_value y9; subst e9)
                              try (extract_lets -merge -useContext +onlyGivenNames y9; have e9 : x_65 = y9 := (by first | exact he_x_65 | exact he_x_65.symm); clear_value y9; subst e9)
                              refine (if_neg c_66).trans ?_
                              try (extract_lets -merge -useContext +onlyGivenNames y9; have e9 : x_74 = y9 := (by first | exact he_x_74 | exact he_x_74.symm); clear_value y9; subst e9)
                              try (extract_lets -merge -useContext +onlyGivenNames y9; have e9 : x_75 = y9 := (by first | exact he_x_75 | exact he_x_75.symm); clear_value y9; subst e9)
                              try (extract_lets -merge -useContext +onlyGivenNames y9; have e9 : x_76 = y9 := (by first | exact he_x_76 | exact he_x_76.symm); clear_value y9; subst e9)
                              try (extract_lets -merge -useContext +onlyGivenNames y9; have e9 : x_77 = y9 := (by first | exact he_x_77 | exact he_x_77.symm); clear_value y9; subst e9)
                              try (extract_lets -merge -useContext +onlyGivenNames y9; have e9 : x_78 = y9 := (by first | exact he_x_78 | exact he_x_78.symm); clear_value y9; subst e9)
                              refine (if_pos c_79).trans ?_
                              refine (if_neg c_84).trans ?_
                              exact rfl
                            exact hlp_904 ((2147483647 - (0 : Int32).toInt).toNat + 1) 0 g_numbers _ _ _ (Nat.lt_succ_self _) (by decide +kernel) hX_922 hP hD hS (lv_sub hl [2, 3, 4, 5, 6, 7, 1, 0] rfl)
                        · have b_923 := z_fgtFl c_79
                          refine lv_aload_n hx hb dX12_pour_136 rfl (lv_at hl 0 rfl) ?_
                          refine lv_iconst (v := 4) hx hb dX12_pour_137 (by decide) ?_
                          refine z_callVi (As := [.int 4]) (rest := []) (wr := [(a_traySort, .inl (cA.1 0, 4, .inl g_traySort)), (a_trayMany, .inl (cA.1 0, 4, .inl g_trayMany)), (a_numbers, .inl (cA.1 1, 240, .inr (.inl g_numbers)))]) ⟨hx, hb, hml, hown, hts⟩ hK hE hT hP hD hS hA (r_no l G cA h0 0 0 m_above m_under a_traySort a_trayMany a_numbers a_tape m_taped m_textEnd m_faultKind m_faultAt m_bad m_badAt m_token m_at m_behind m_number m_letters m_word a_c a_words m_markMany a_there a_tried a_best a_found m_thereMany m_foundMany m_orderHow m_orderRing m_orderMany m_hasBest m_bestTop m_bestBy a_weights a_shared m_random m_truePlace m_trueWay m_seconds m_done m_feelings m_tries m_leftOver m_playDoor m_playRing m_isOpen m_isOver m_wasTried m_hasPlayed a_feltNow a_last a_kept m_hasSeconds m_hasTurned m_hasRound a_hasFeels a_isOn m_firstAct m_meanTop m_meanBy a_order m_rowMany m_newSteps 4) lk_RX12_97 ⟨rfl, rfl⟩ ⟨Nat.le_of_ble_eq_true rfl, Nat.le_of_ble_eq_true rfl⟩ 12 rfl rfl rfl [0] [1, 2, 3] rfl rfl (by decide) rfl hl.1 rfl (lv_room (Nat.le_of_ble_eq_true rfl)) dX12_pour_138 ⟨Nat.le_of_ble_eq_true rfl, Nat.le_of_ble_eq_true rfl⟩ (fun r_925 u_926 H locs hw hP hD hS => ?_)
                          obtain ⟨n_924, rfl⟩ : ∃ z, z = u_926 := ⟨_, rfl⟩
                          obtain ⟨he_r_925, he_n_924, hw⟩ := hw
                          obtain ⟨rfl, -⟩ := hw
                          have hpost : ((0 : Int32) = 0 ∧ (0 ≤ (0 : Int32).toInt ∧ (0 : Int32).toInt ≤ 0)) ∨ ((0 : Int32) = 1 ∧ (0 ≤ n_924.toInt ∧ n_924.toInt ≤ 0) ∧ (0 ≤ (0 : Int32).toInt ∧ (0 : Int32).toInt ≤ 0)) := (Or.inl ⟨rfl, (by decide +kernel)⟩)
                          have hX_928 : F_r_pour g_traySort g_trayMany g_numbers t i to j nn = (((0 : Int32), g_numbers) : Int32 × (Nat → Int64)) := by
                            refine (F_r_pour_s ..).trans ?_
                            refine (if_neg c_1).trans ?_
                            refine (if_neg c_9).trans ?_
                            refine (if_neg c_17).trans ?_
                            refine (if_pos c_25).trans ?_
                            try (extract_lets -merge -useContext +onlyGivenNames y9; have e9 : x_27 = y9 := (by first | exact he_x_27 | exact he_x_27.symm); clear_value y9; subst e9)
                            refine (if_neg c_28).trans ?_
                            try (extract_lets -merge -useContext +onlyGivenNames y9; have e9 : x_36 = y9 := (by first | exact he_x_36 | exact he_x_36.symm); clear_value y9; subst e9)
                            refine (if_pos c_37).trans ?_
                            try (extract_lets -merge -useContext +onlyGivenNames y9; have e9 : x_39 = y9 := (by first | exact he_x_39 | exact he_x_39.symm); clear_value y9; subst e9)
                            try (extract_lets -merge -useContext +onlyGivenNames y9; have e9 : x_40 = y9 := (by first | exact he_x_40 | exact he_x_40.symm); clear_value y9; subst e9)
                            refine (if_pos c_41).trans ?_
                            refine (if_pos c_43).trans ?_
                            refine (if_neg c_45).trans ?_
                            refine (if_neg c_53).trans ?_
                            try (extract_lets -merge -useContext +onlyGivenNames y9; have e9 : x_61 = y9 := (by first | exact he_x_61 | exact he_x_61.symm); clear_value y9; subst e9)
                            try (extract_lets -merge -useContext +onlyGivenNames y9; have e9 : x_62 = y9 := (by first | exact he_x_62 | exact he_x_62.symm); clear_value y9; subst e9)
                            try (extract_lets -merge -useContext +onlyGivenNames y9; have e9 : x_63 = y9 := (by first | exact he_x_63 | exact he_x_63.symm); clear_value y9; subst e9)
                            try (extract_lets -merge -useContext +onlyGivenNames y9; have e9 : x_64 = y9 := (by first | exact he_x_64 | exact he_x_64.symm); clear_value y9; subst e9)
                            try (extract_lets -merge -useContext +onlyGivenNames y9; have e9 : x_65 = y9 := (by first | exact he_x_65 | exact he_x_65.symm); clear_value y9; subst e9)
                            refine (if_neg c_66).trans ?_
                            try (extract_lets -merge -useContext +onlyGivenNames y9; have e9 : x_74 = y9 := (by first | exact he_x_74 | exact he_x_74.symm); clear_value y9; subst e9)
                            try (extract_lets -merge -useContext +onlyGivenNames y9; have e9 : x_75 = y9 := (by first | exact he_x_75 | exact he_x_75.symm); clear_value y9; subst e9)
                            try (extract_lets -merge -useContext +onlyGivenNames y9; have e9 : x_76 = y9 := (by first | exact he_x_76 | exact he_x_76.symm); clear_value y9; subst e9)
                            try (extract_lets -merge -useContext +onlyGivenNames y9; have e9 : x_77 = y9 := (by first | exact he_x_77 | exact he_x_77.symm); clear_value y9; subst e9)
                            try (extract_lets -merge -useContext +onlyGivenNames y9; have e9 : x_78 = y9 := (by first | exact he_x_78 | exact he_x_78.symm); clear_value y9; subst e9)
                            refine (if_neg c_79).trans ?_
                            extract_lets -merge -useContext +onlyGivenNames w9 y26_0 y26_1; have e9 : ((0 : Int32), n_924) = w9 := ((z_tS he_r_925 he_n_924.symm)).symm; clear_value w9; subst e9
                            exact rfl
                          exact hret _ _ _ _ _ _ (n_924, 0, g_numbers) [3, 0, 1, 2] hP hD hS rfl (by decide) dX12_pour_141 (Or.inl rfl) ⟨(congrArg (fun z9 => z9.1) hX_928).symm, (congrArg (fun z9 => z9.2) hX_928).symm, hpost⟩
                · have b_929 := z_fltF c_43
                  refine lv_aload_n hx hb dX12_pour_85 rfl (lv_at hl 0 rfl) ?_
                  refine lv_bipush (v := 6) hx hb dX12_pour_86 (by decide) ?_
                  refine z_callVi (As := [.int 6]) (rest := []) (wr := [(a_traySort, .inl (cA.1 0, 4, .inl g_traySort)), (a_trayMany, .inl (cA.1 0, 4, .inl g_trayMany)), (a_numbers, .inl (cA.1 1, 240, .inr (.inl g_numbers)))]) ⟨hx, hb, hml, hown, hts⟩ hK hE hT hP hD hS hA (r_no l G cA h0 0 0 m_above m_under a_traySort a_trayMany a_numbers a_tape m_taped m_textEnd m_faultKind m_faultAt m_bad m_badAt m_token m_at m_behind m_number m_letters m_word a_c a_words m_markMany a_there a_tried a_best a_found m_thereMany m_foundMany m_orderHow m_orderRing m_orderMany m_hasBest m_bestTop m_bestBy a_weights a_shared m_random m_truePlace m_trueWay m_seconds m_done m_feelings m_tries m_leftOver m_playDoor m_playRing m_isOpen m_isOver m_wasTried m_hasPlayed a_feltNow a_last a_kept m_hasSeconds m_hasTurned m_hasRound a_hasFeels a_isOn m_firstAct m_meanTop m_meanBy a_order m_rowMany m_newSteps 6) lk_RX12_97 ⟨rfl, rfl⟩ ⟨Nat.le_of_ble_eq_true rfl, Nat.le_of_ble_eq_true rfl⟩ 12 rfl rfl rfl [0] [1, 2, 3] rfl rfl (by decide) rfl hl.1 rfl (lv_room (Nat.le_of_ble_eq_true rfl)) dX12_pour_88 ⟨Nat.le_of_ble_eq_true rfl, Nat.le_of_ble_eq_true rfl⟩ (fun r_931 u_932 H locs hw hP hD hS => ?_)
                  obtain ⟨n_930, rfl⟩ : ∃ z, z = u_932 := ⟨_, rfl⟩
                  obtain ⟨he_r_931, he_n_930, hw⟩ := hw
                  obtain ⟨rfl, -⟩ := hw
                  have hpost : ((0 : Int32) = 0 ∧ (0 ≤ (0 : Int32).toInt ∧ (0 : Int32).toInt ≤ 0)) ∨ ((0 : Int32) = 1 ∧ (0 ≤ n_930.toInt ∧ n_930.toInt ≤ 0) ∧ (0 ≤ (0 : Int32).toInt ∧ (0 : Int32).toInt ≤ 0)) := (Or.inl ⟨rfl, (by decide +kernel)⟩)
                  have hX_934 : F_r_pour g_traySort g_trayMany g_numbers t i to j nn = (((0 : Int32), g_numbers) : Int32 × (Nat → Int64)) := by
                    refine (F_r_pour_s ..).trans ?_
                    refine (if_neg c_1).trans ?_
                    refine (if_neg c_9).trans ?_
                    refine (if_neg c_17).trans ?_
                    refine (if_pos c_25).trans ?_
                    try (extract_lets -merge -useContext +onlyGivenNames y9; have e9 : x_27 = y9 := (by first | exact he_x_27 | exact he_x_27.symm); clear_value y9; subst e9)
                    refine (if_neg c_28).trans ?_
                    try (extract_lets -merge -useContext +onlyGivenNames y9; have e9 : x_36 = y9 := (by first | exact he_x_36 | exact he_x_36.symm); clear_value y9; subst e9)
                    refine (if_pos c_37).trans ?_
                    try (extract_lets -merge -useContext +onlyGivenNames y9; have e9 : x_39 = y9 := (by first | exact he_x_39 | exact he_x_39.symm); clear_value y9; subst e9)
                    try (extract_lets -merge -useContext +onlyGivenNames y9; have e9 : x_40 = y9 := (by first | exact he_x_40 | exact he_x_40.symm); clear_value y9; subst e9)
                    refine (if_pos c_41).trans ?_
                    refine (if_neg c_43).trans ?_
                    extract_lets -merge -useContext +onlyGivenNames w9 y12_0 y12_1; have e9 : ((0 : Int32), n_930) = w9 := ((z_tS he_r_931 he_n_930.symm)).symm; clear_value w9; subst e9
                    exact rfl
                  exact hret _ _ _ _ _ _ (n_930, 0, g_numbers) [3, 0, 1, 2] hP hD hS rfl (by decide) dX12_pour_91 (Or.inl rfl) ⟨(congrArg (fun z9 => z9.1) hX_934).symm, (congrArg (fun z9 => z9.2) hX_934).symm, hpost⟩
              · have b_935 := z_fneF c_41
                refine lv_aload_n hx hb dX12_pour_73 rfl (lv_at hl 0 rfl) ?_
                refine lv_bipush (v := 11) hx hb dX12_pour_74 (by decide) ?_
                refine z_callVi (As := [.int 11]) (rest := []) (wr := [(a_traySort, .inl (cA.1 0, 4, .inl g_traySort)), (a_trayMany, .inl (cA.1 0, 4, .inl g_trayMany)), (a_numbers, .inl (cA.1 1, 240, .inr (.inl g_numbers)))]) ⟨hx, hb, hml, hown, hts⟩ hK hE hT hP hD hS hA (r_no l G cA h0 0 0 m_above m_under a_traySort a_trayMany a_numbers a_tape m_taped m_textEnd m_faultKind m_faultAt m_bad m_badAt m_token m_at m_behind m_number m_letters m_word a_c a_words m_markMany a_there a_tried a_best a_found m_thereMany m_foundMany m_orderHow m_orderRing m_orderMany m_hasBest m_bestTop m_bestBy a_weights a_shared m_random m_truePlace m_trueWay m_seconds m_done m_feelings m_tries m_leftOver m_playDoor m_playRing m_isOpen m_isOver m_wasTried m_hasPlayed a_feltNow a_last a_kept m_hasSeconds m_hasTurned m_hasRound a_hasFeels a_isOn m_firstAct m_meanTop m_meanBy a_order m_rowMany m_newSteps 11) lk_RX12_97 ⟨rfl, rfl⟩ ⟨Nat.le_of_ble_eq_true rfl, Nat.le_of_ble_eq_true rfl⟩ 12 rfl rfl rfl [0] [1, 2, 3] rfl rfl (by decide) rfl hl.1 rfl (lv_room (Nat.le_of_ble_eq_true rfl)) dX12_pour_76 ⟨Nat.le_of_ble_eq_true rfl, Nat.le_of_ble_eq_true rfl⟩ (fun r_937 u_938 H locs hw hP hD hS => ?_)
                obtain ⟨n_936, rfl⟩ : ∃ z, z = u_938 := ⟨_, rfl⟩
                obtain ⟨he_r_937, he_n_936, hw⟩ := hw
                obtain ⟨rfl, -⟩ := hw
                have hpost : ((0 : Int32) = 0 ∧ (0 ≤ (0 : Int32).toInt ∧ (0 : Int32).toInt ≤ 0)) ∨ ((0 : Int32) = 1 ∧ (0 ≤ n_936.toInt ∧ n_936.toInt ≤ 0) ∧ (0 ≤ (0 : Int32).toInt ∧ (0 : Int32).toInt ≤ 0)) := (Or.inl ⟨rfl, (by decide +kernel)⟩)
                have hX_940 : F_r_pour g_traySort g_trayMany g_numbers t i to j nn = (((0 : Int32), g_numbers) : Int32 × (Nat → Int64)) := by
                  refine (F_r_pour_s ..).trans ?_
                  refine (if_neg c_1).trans ?_
                  refine (if_neg c_9).trans ?_
                  refine (if_neg c_17).trans ?_
                  refine (if_pos c_25).trans ?_
                  try (extract_lets -merge -useContext +onlyGivenNames y9; have e9 : x_27 = y9 := (by first | exact he_x_27 | exact he_x_27.symm); clear_value y9; subst e9)
                  refine (if_neg c_28).trans ?_
                  try (extract_lets -merge -useContext +onlyGivenNames y9; have e9 : x_36 = y9 := (by first | exact he_x_36 | exact he_x_36.symm); clear_value y9; subst e9)
                  refine (if_pos c_37).trans ?_
                  try (extract_lets -merge -useContext +onlyGivenNames y9; have e9 : x_39 = y9 := (by first | exact he_x_39 | exact he_x_39.symm); clear_value y9; subst e9)
                  try (extract_lets -merge -useContext +onlyGivenNames y9; have e9 : x_40 = y9 := (by first | exact he_x_40 | exact he_x_40.symm); clear_value y9; subst e9)
                  refine (if_neg c_41).trans ?_
                  extract_lets -merge -useContext +onlyGivenNames w9 y11_0 y11_1; have e9 : ((0 : Int32), n_936) = w9 := ((z_tS he_r_937 he_n_936.symm)).symm; clear_value w9; subst e9
                  exact rfl
                exact hret _ _ _ _ _ _ (n_936, 0, g_numbers) [3, 0, 1, 2] hP hD hS rfl (by decide) dX12_pour_79 (Or.inl rfl) ⟨(congrArg (fun z9 => z9.1) hX_940).symm, (congrArg (fun z9 => z9.2) hX_940).symm, hpost⟩
            · have b_941 := z_fltF c_37
              refine lv_aload_n hx hb dX12_pour_52 rfl (lv_at hl 0 rfl) ?_
              refine lv_iconst (v := 3) hx hb dX12_pour_53 (by decide) ?_
              refine z_callVi (As := [.int 3]) (rest := []) (wr := [(a_traySort, .inl (cA.1 0, 4, .inl g_traySort)), (a_trayMany, .inl (cA.1 0, 4, .inl g_trayMany)), (a_numbers, .inl (cA.1 1, 240, .inr (.inl g_numbers)))]) ⟨hx, hb, hml, hown, hts⟩ hK hE hT hP hD hS hA (r_no l G cA h0 0 0 m_above m_under a_traySort a_trayMany a_numbers a_tape m_taped m_textEnd m_faultKind m_faultAt m_bad m_badAt m_token m_at m_behind m_number m_letters m_word a_c a_words m_markMany a_there a_tried a_best a_found m_thereMany m_foundMany m_orderHow m_orderRing m_orderMany m_hasBest m_bestTop m_bestBy a_weights a_shared m_random m_truePlace m_trueWay m_seconds m_done m_feelings m_tries m_leftOver m_playDoor m_playRing m_isOpen m_isOver m_wasTried m_hasPlayed a_feltNow a_last a_kept m_hasSeconds m_hasTurned m_hasRound a_hasFeels a_isOn m_firstAct m_meanTop m_meanBy a_order m_rowMany m_newSteps 3) lk_RX12_97 ⟨rfl, rfl⟩ ⟨Nat.le_of_ble_eq_true rfl, Nat.le_of_ble_eq_true rfl⟩ 12 rfl rfl rfl [0] [1, 2, 3] rfl rfl (by decide) rfl hl.1 rfl (lv_room (Nat.le_of_ble_eq_true rfl)) dX12_pour_54 ⟨Nat.le_of_ble_eq_true rfl, Nat.le_of_ble_eq_true rfl⟩ (fun r_943 u_944 H locs hw hP hD hS => ?_)
              obtain ⟨n_942, rfl⟩ : ∃ z, z = u_944 := ⟨_, rfl⟩
              obtain ⟨he_r_943, he_n_942, hw⟩ := hw
              obtain ⟨rfl, -⟩ := hw
              have hpost : ((0 : Int32) = 0 ∧ (0 ≤ (0 : Int32).toInt ∧ (0 : Int32).toInt ≤ 0)) ∨ ((0 : Int32) = 1 ∧ (0 ≤ n_942.toInt ∧ n_942.toInt ≤ 0) ∧ (0 ≤ (0 : Int32).toInt ∧ (0 : Int32).toInt ≤ 0)) := (Or.inl ⟨rfl, (by decide +kernel)⟩)
              have hX_946 : F_r_pour g_traySort g_trayMany g_numbers t i to j nn = (((0 : Int32), g_numbers) : Int32 × (Nat → Int64)) := by
                refine (F_r_pour_s ..).trans ?_
                refine (if_neg c_1).trans ?_
                refine (if_neg c_9).trans ?_
                refine (if_neg c_17).trans ?_
                refine (if_pos c_25).trans ?_
                try (extract_lets -merge -useContext +onlyGivenNames y9; have e9 : x_27 = y9 := (by first | exact he_x_27 | exact he_x_27.symm); clear_value y9; subst e9)
                refine (if_neg c_28).trans ?_
                try (extract_lets -merge -useContext +onlyGivenNames y9; have e9 : x_36 = y9 := (by first | exact he_x_36 | exact he_x_36.symm); clear_value y9; subst e9)
                refine (if_neg c_37).trans ?_
                extract_lets -merge -useContext +onlyGivenNames w9 y8_0 y8_1; have e9 : ((0 : Int32), n_942) = w9 := ((z_tS he_r_943 he_n_942.symm)).symm; clear_value w9; subst e9
                exact rfl
              exact hret _ _ _ _ _ _ (n_942, 0, g_numbers) [3, 0, 1, 2] hP hD hS rfl (by decide) dX12_pour_57 (Or.inl rfl) ⟨(congrArg (fun z9 => z9.1) hX_946).symm, (congrArg (fun z9 => z9.2) hX_946).symm, hpost⟩
        · have b_947 := z_fgeF c_25
          refine lv_aload_n hx hb dX12_pour_28 rfl (lv_at hl 0 rfl) ?_
          refine lv_iconst (v := 1) hx hb dX12_pour_29 (by decide) ?_
          refine z_callVi (As := [.int 1]) (rest := []) (wr := [(a_traySort, .inl (cA.1 0, 4, .inl g_traySort)), (a_trayMany, .inl (cA.1 0, 4, .inl g_trayMany)), (a_numbers, .inl (cA.1 1, 240, .inr (.inl g_numbers)))]) ⟨hx, hb, hml, hown, hts⟩ hK hE hT hP hD hS hA (r_no l G cA h0 0 0 m_above m_under a_traySort a_trayMany a_numbers a_tape m_taped m_textEnd m_faultKind m_faultAt m_bad m_badAt m_token m_at m_behind m_number m_letters m_word a_c a_words m_markMany a_there a_tried a_best a_found m_thereMany m_foundMany m_orderHow m_orderRing m_orderMany m_hasBest m_bestTop m_bestBy a_weights a_shared m_random m_truePlace m_trueWay m_seconds m_done m_feelings m_tries m_leftOver m_playDoor m_playRing m_isOpen m_isOver m_wasTried m_hasPlayed a_feltNow a_last a_kept m_hasSeconds m_hasTurned m_hasRound a_hasFeels a_isOn m_firstAct m_meanTop m_meanBy a_order m_rowMany m_newSteps 1) lk_RX12_97 ⟨rfl, rfl⟩ ⟨Nat.le_of_ble_eq_true rfl, Nat.le_of_ble_eq_true rfl⟩ 12 rfl rfl rfl [0] [1, 2, 3] rfl rfl (by decide) rfl hl.1 rfl (lv_room (Nat.le_of_ble_eq_true rfl)) dX12_pour_30 ⟨Nat.le_of_ble_eq_true rfl, Nat.le_of_ble_eq_true rfl⟩ (fun r_949 u_950 H locs hw hP hD hS => ?_)
          obtain ⟨n_948, rfl⟩ : ∃ z, z = u_950 := ⟨_, rfl⟩
          obtain ⟨he_r_949, he_n_948, hw⟩ := hw
          obtain ⟨rfl, -⟩ := hw
          have hpost : ((0 : Int32) = 0 ∧ (0 ≤ (0 : Int32).toInt ∧ (0 : Int32).toInt ≤ 0)) ∨ ((0 : Int32) = 1 ∧ (0 ≤ n_948.toInt ∧ n_948.toInt ≤ 0) ∧ (0 ≤ (0 : Int32).toInt ∧ (0 : Int32).toInt ≤ 0)) := (Or.inl ⟨rfl, (by decide +kernel)⟩)
          have hX_952 : F_r_pour g_traySort g_trayMany g_numbers t i to j nn = (((0 : Int32), g_numbers) : Int32 × (Nat → Int64)) := by
            refine (F_r_pour_s ..).trans ?_
            refine (if_neg c_1).trans ?_
            refine (if_neg c_9).trans ?_
            refine (if_neg c_17).trans ?_
            refine (if_neg c_25).trans ?_
            extract_lets -merge -useContext +onlyGivenNames w9 y4_0 y4_1; have e9 : ((0 : Int32), n_948) = w9 := ((z_tS he_r_949 he_n_948.symm)).symm; clear_value w9; subst e9
            exact rfl
          exact hret _ _ _ _ _ _ (n_948, 0, g_numbers) [3, 0, 1, 2] hP hD hS rfl (by decide) dX12_pour_33 (Or.inl rfl) ⟨(congrArg (fun z9 => z9.1) hX_952).symm, (congrArg (fun z9 => z9.2) hX_952).symm, hpost⟩
