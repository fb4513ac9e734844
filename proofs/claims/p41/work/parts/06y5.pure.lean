theorem qG_0 : qGood 0 6611949125 := by unfold qGood; decide +kernel
theorem qG_1 : qGood 1 6611949125 := by unfold qGood; decide +kernel
theorem qG_2 : qGood 2 20583955 := by unfold qGood; decide +kernel
theorem qG_3 : qGood 3 693713060 := by unfold qGood; decide +kernel
theorem qG_4 : qGood 4 6460819 := by unfold qGood; decide +kernel
theorem qG_5 : qGood 5 11449 := by unfold qGood; decide +kernel
theorem qG_6 : qGood 6 599495 := by unfold qGood; decide +kernel
theorem qG_7 : qGood 7 146930 := by unfold qGood; decide +kernel
theorem qG_8 : qGood 8 773279908 := by unfold qGood; decide +kernel
theorem qG_9 : qGood 9 89 := by unfold qGood; decide +kernel
theorem qG_10 : qGood 10 20572518547 := by unfold qGood; decide +kernel
theorem qG_11 : qGood 11 201900 := by unfold qGood; decide +kernel
theorem qG_12 : qGood 12 21081 := by unfold qGood; decide +kernel
theorem qG_13 : qGood 13 239 := by unfold qGood; decide +kernel
theorem qG_14 : qGood 14 150000 := by unfold qGood; decide +kernel
theorem qG_15 : qGood 15 19387844 := by unfold qGood; decide +kernel
theorem qG_16 : qGood 16 20583955 := by unfold qGood; decide +kernel
theorem qG_17 : qGood 17 693713060 := by unfold qGood; decide +kernel
theorem qG_18 : qGood 18 6460819 := by unfold qGood; decide +kernel
theorem qG_19 : qGood 19 11449 := by unfold qGood; decide +kernel
theorem qG_20 : qGood 20 599495 := by unfold qGood; decide +kernel
theorem qG_21 : qGood 21 146930 := by unfold qGood; decide +kernel
theorem qG_22 : qGood 22 773279908 := by unfold qGood; decide +kernel
theorem qG_23 : qGood 23 89 := by unfold qGood; decide +kernel
theorem qG_24 : qGood 24 20572518547 := by unfold qGood; decide +kernel
theorem qG_25 : qGood 25 201900 := by unfold qGood; decide +kernel
theorem qG_26 : qGood 26 21081 := by unfold qGood; decide +kernel
theorem qG_27 : qGood 27 239 := by unfold qGood; decide +kernel
theorem qG_28 : qGood 28 150000 := by unfold qGood; decide +kernel
theorem qG_29 : qGood 29 19387844 := by unfold qGood; decide +kernel
theorem qG_30 : qGood 30 5572 := by unfold qGood; decide +kernel
theorem qG_31 : qGood 31 409072 := by unfold qGood; decide +kernel
theorem qG_32 : qGood 32 762030 := by unfold qGood; decide +kernel
theorem qG_33 : qGood 33 201900 := by unfold qGood; decide +kernel
theorem qG_34 : qGood 34 21081 := by unfold qGood; decide +kernel
theorem qG_35 : qGood 35 239 := by unfold qGood; decide +kernel
theorem qG_36 : qGood 36 677454 := by unfold qGood; decide +kernel
theorem qG_37 : qGood 37 150000 := by unfold qGood; decide +kernel
theorem qG_38 : qGood 38 643568 := by unfold qGood; decide +kernel
theorem qG_39 : qGood 39 202132 := by unfold qGood; decide +kernel
theorem qG_40 : qGood 40 21570724 := by unfold qGood; decide +kernel
theorem qG_41 : qGood 41 644677 := by unfold qGood; decide +kernel
theorem qS_feature : F_r_spelled 102 101 97 116 117 114 = 206623410 := by decide +kernel
theorem qS_feels : F_r_spelled 102 101 101 108 115 0 = 6460819 := by decide +kernel
theorem qS_key : F_r_spelled 107 101 121 0 0 0 = 11449 := by decide +kernel
theorem qS_ring : F_r_spelled 114 105 110 103 0 0 = 599495 := by decide +kernel
theorem qS_door : F_r_spelled 100 111 111 114 0 0 = 146930 := by decide +kernel
theorem qS_seconds : F_r_spelled 115 101 99 111 110 100 = 642891204 := by decide +kernel
theorem qS_turned : F_r_spelled 116 117 114 110 101 100 = 693713060 := by decide +kernel
theorem qS_round : F_r_spelled 114 111 117 110 100 0 = 19387844 := by decide +kernel
theorem qS_steps : F_r_spelled 115 116 101 112 115 0 = 20583955 := by decide +kernel
theorem qS_wanted : F_r_spelled 119 97 110 116 101 100 = 773279908 := by decide +kernel
theorem qS_by : F_r_spelled 98 121 0 0 0 0 = 89 := by decide +kernel
theorem qS_feel : F_r_spelled 102 101 101 108 0 0 = 201900 := by decide +kernel
theorem qS_try : F_r_spelled 116 114 121 0 0 0 = 21081 := by decide +kernel
theorem qS_go : F_r_spelled 103 111 0 0 0 0 = 239 := by decide +kernel
theorem qS_drop : F_r_spelled 100 114 111 112 0 0 = 150000 := by decide +kernel
theorem qS_turn : F_r_spelled 116 117 114 110 0 0 = 677454 := by decide +kernel
theorem qS_stop : F_r_spelled 115 116 111 112 0 0 = 643568 := by decide +kernel
theorem qS_when : F_r_spelled 119 104 101 110 0 0 = 762030 := by decide +kernel
theorem qS_loop : F_r_spelled 108 111 111 112 0 0 = 409072 := by decide +kernel
theorem qS_end : F_r_spelled 101 110 100 0 0 0 = 5572 := by decide +kernel
theorem qS_felt : F_r_spelled 102 101 108 116 0 0 = 202132 := by decide +kernel
theorem qS_sure : F_r_spelled 115 117 114 101 0 0 = 644677 := by decide +kernel
theorem qS_tried : F_r_spelled 116 114 105 101 100 0 = 21570724 := by decide +kernel
theorem qw_n {tok : Int32} {wd c : Int64} (h : ¬ tok = 1) : F_r_isWord tok wd c = 0 := by
  unfold F_r_isWord
  exact if_neg h
theorem qw_y {wd c : Int64} : F_r_isWord 1 wd c = if wd = c then 1 else 0 := by
  unfold F_r_isWord
  rw [if_pos rfl]
  by_cases h : wd = c
  · rw [if_pos h, if_pos ((lg_cmp_eq _ _).mpr h)]
  · rw [if_neg h, if_neg (fun h9 => h ((lg_cmp_eq _ _).mp h9))]
theorem qh_n {tok : Int32} {wd : Int64} (h : ¬ tok = 1) : F_r_houseWord tok wd = -1 := by
  rw [F_r_houseWord_s]
  simp only [qw_n h, ↓reduceIte]
theorem qh_0 : F_r_houseWord 1 6611949125 = 0 := by decide +kernel
theorem qh_1 : F_r_houseWord 1 6460819 = 1 := by decide +kernel
theorem qh_2 : F_r_houseWord 1 11449 = 2 := by decide +kernel
theorem qh_3 : F_r_houseWord 1 599495 = 3 := by decide +kernel
theorem qh_4 : F_r_houseWord 1 146930 = 4 := by decide +kernel
theorem qh_5 : F_r_houseWord 1 20572518547 = 5 := by decide +kernel
theorem qh_6 : F_r_houseWord 1 693713060 = 6 := by decide +kernel
theorem qh_7 : F_r_houseWord 1 19387844 = 7 := by decide +kernel
theorem qh_8 : F_r_houseWord 1 20583955 = 8 := by decide +kernel
theorem qh_9 : F_r_houseWord 1 773279908 = 9 := by decide +kernel
theorem qh_10 : F_r_houseWord 1 89 = 10 := by decide +kernel
theorem qh_11 : F_r_houseWord 1 201900 = 11 := by decide +kernel
theorem qh_12 : F_r_houseWord 1 21081 = 12 := by decide +kernel
theorem qh_13 : F_r_houseWord 1 239 = 13 := by decide +kernel
theorem qh_14 : F_r_houseWord 1 150000 = 14 := by decide +kernel
theorem qh_x {wd : Int64} (h0 : ¬ wd = 6611949125) (h1 : ¬ wd = 6460819) (h2 : ¬ wd = 11449) (h3 : ¬ wd = 599495) (h4 : ¬ wd = 146930) (h5 : ¬ wd = 20572518547) (h6 : ¬ wd = 693713060) (h7 : ¬ wd = 19387844) (h8 : ¬ wd = 20583955) (h9 : ¬ wd = 773279908) (h10 : ¬ wd = 89) (h11 : ¬ wd = 201900) (h12 : ¬ wd = 21081) (h13 : ¬ wd = 239) (h14 : ¬ wd = 150000) : F_r_houseWord 1 wd = -1 := by
  rw [F_r_houseWord_s]
  have e0 : ((206623410 : Int64) * 32 + 101 - 96) = 6611949125 := by decide +kernel
  have e5 : ((642891204 : Int64) * 32 + 115 - 96) = 20572518547 := by decide +kernel
  simp only [qS_feature, qS_feels, qS_key, qS_ring, qS_door, qS_seconds, qS_turned, qS_round, qS_steps, qS_wanted, qS_by, qS_feel, qS_try, qS_go, qS_drop, e0, e5, qw_y, h0, h1, h2, h3, h4, h5, h6, h7, h8, h9, h10, h11, h12, h13, h14, ↓reduceIte]
theorem qh (tok : Int32) (wd : Int64) : (tok = 1 ∧ wd = 6611949125 ∧ F_r_houseWord tok wd = 0) ∨ (tok = 1 ∧ wd = 6460819 ∧ F_r_houseWord tok wd = 1) ∨ (tok = 1 ∧ wd = 11449 ∧ F_r_houseWord tok wd = 2) ∨ (tok = 1 ∧ wd = 599495 ∧ F_r_houseWord tok wd = 3) ∨ (tok = 1 ∧ wd = 146930 ∧ F_r_houseWord tok wd = 4) ∨ (tok = 1 ∧ wd = 20572518547 ∧ F_r_houseWord tok wd = 5) ∨ (tok = 1 ∧ wd = 693713060 ∧ F_r_houseWord tok wd = 6) ∨ (tok = 1 ∧ wd = 19387844 ∧ F_r_houseWord tok wd = 7) ∨ (tok = 1 ∧ wd = 20583955 ∧ F_r_houseWord tok wd = 8) ∨ (tok = 1 ∧ wd = 773279908 ∧ F_r_houseWord tok wd = 9) ∨ (tok = 1 ∧ wd = 89 ∧ F_r_houseWord tok wd = 10) ∨ (tok = 1 ∧ wd = 201900 ∧ F_r_houseWord tok wd = 11) ∨ (tok = 1 ∧ wd = 21081 ∧ F_r_houseWord tok wd = 12) ∨ (tok = 1 ∧ wd = 239 ∧ F_r_houseWord tok wd = 13) ∨ (tok = 1 ∧ wd = 150000 ∧ F_r_houseWord tok wd = 14) ∨ ((tok = 1 ∧ ¬ wd = 6611949125 ∧ ¬ wd = 6460819 ∧ ¬ wd = 11449 ∧ ¬ wd = 599495 ∧ ¬ wd = 146930 ∧ ¬ wd = 20572518547 ∧ ¬ wd = 693713060 ∧ ¬ wd = 19387844 ∧ ¬ wd = 20583955 ∧ ¬ wd = 773279908 ∧ ¬ wd = 89 ∧ ¬ wd = 201900 ∧ ¬ wd = 21081 ∧ ¬ wd = 239 ∧ ¬ wd = 150000) ∧ F_r_houseWord tok wd = -1) ∨ (¬ tok = 1 ∧ F_r_houseWord tok wd = -1) := by
  by_cases ht : tok = 1
  · subst ht
    by_cases h0 : wd = 6611949125
    · subst h0; exact (Or.inl ⟨rfl, rfl, qh_0⟩)
    by_cases h1 : wd = 6460819
    · subst h1; exact (Or.inr (Or.inl ⟨rfl, rfl, qh_1⟩))
    by_cases h2 : wd = 11449
    · subst h2; exact (Or.inr (Or.inr (Or.inl ⟨rfl, rfl, qh_2⟩)))
    by_cases h3 : wd = 599495
    · subst h3; exact (Or.inr (Or.inr (Or.inr (Or.inl ⟨rfl, rfl, qh_3⟩))))
    by_cases h4 : wd = 146930
    · subst h4; exact (Or.inr (Or.inr (Or.inr (Or.inr (Or.inl ⟨rfl, rfl, qh_4⟩)))))
    by_cases h5 : wd = 20572518547
    · subst h5; exact (Or.inr (Or.inr (Or.inr (Or.inr (Or.inr (Or.inl ⟨rfl, rfl, qh_5⟩))))))
    by_cases h6 : wd = 693713060
    · subst h6; exact (Or.inr (Or.inr (Or.inr (Or.inr (Or.inr (Or.inr (Or.inl ⟨rfl, rfl, qh_6⟩)))))))
    by_cases h7 : wd = 19387844
    · subst h7; exact (Or.inr (Or.inr (Or.inr (Or.inr (Or.inr (Or.inr (Or.inr (Or.inl ⟨rfl, rfl, qh_7⟩))))))))
    by_cases h8 : wd = 20583955
    · subst h8; exact (Or.inr (Or.inr (Or.inr (Or.inr (Or.inr (Or.inr (Or.inr (Or.inr (Or.inl ⟨rfl, rfl, qh_8⟩)))))))))
    by_cases h9 : wd = 773279908
    · subst h9; exact (Or.inr (Or.inr (Or.inr (Or.inr (Or.inr (Or.inr (Or.inr (Or.inr (Or.inr (Or.inl ⟨rfl, rfl, qh_9⟩))))))))))
    by_cases h10 : wd = 89
    · subst h10; exact (Or.inr (Or.inr (Or.inr (Or.inr (Or.inr (Or.inr (Or.inr (Or.inr (Or.inr (Or.inr (Or.inl ⟨rfl, rfl, qh_10⟩)))))))))))
    by_cases h11 : wd = 201900
    · subst h11; exact (Or.inr (Or.inr (Or.inr (Or.inr (Or.inr (Or.inr (Or.inr (Or.inr (Or.inr (Or.inr (Or.inr (Or.inl ⟨rfl, rfl, qh_11⟩))))))))))))
    by_cases h12 : wd = 21081
    · subst h12; exact (Or.inr (Or.inr (Or.inr (Or.inr (Or.inr (Or.inr (Or.inr (Or.inr (Or.inr (Or.inr (Or.inr (Or.inr (Or.inl ⟨rfl, rfl, qh_12⟩)))))))))))))
    by_cases h13 : wd = 239
    · subst h13; exact (Or.inr (Or.inr (Or.inr (Or.inr (Or.inr (Or.inr (Or.inr (Or.inr (Or.inr (Or.inr (Or.inr (Or.inr (Or.inr (Or.inl ⟨rfl, rfl, qh_13⟩))))))))))))))
    by_cases h14 : wd = 150000
    · subst h14; exact (Or.inr (Or.inr (Or.inr (Or.inr (Or.inr (Or.inr (Or.inr (Or.inr (Or.inr (Or.inr (Or.inr (Or.inr (Or.inr (Or.inr (Or.inl ⟨rfl, rfl, qh_14⟩)))))))))))))))
    exact (Or.inr (Or.inr (Or.inr (Or.inr (Or.inr (Or.inr (Or.inr (Or.inr (Or.inr (Or.inr (Or.inr (Or.inr (Or.inr (Or.inr (Or.inr (Or.inl ⟨⟨rfl, h0, h1, h2, h3, h4, h5, h6, h7, h8, h9, h10, h11, h12, h13, h14⟩, qh_x h0 h1 h2 h3 h4 h5 h6 h7 h8 h9 h10 h11 h12 h13 h14⟩))))))))))))))))
  · exact (Or.inr (Or.inr (Or.inr (Or.inr (Or.inr (Or.inr (Or.inr (Or.inr (Or.inr (Or.inr (Or.inr (Or.inr (Or.inr (Or.inr (Or.inr (Or.inr ⟨ht, qh_n ht⟩))))))))))))))))
theorem qk_0 (tok : Int32) (wd : Int64) : F_r_isWord tok wd 6611949125 = if F_r_houseWord tok wd = 0 then 1 else 0 := by
  rcases qh tok wd with ⟨ht, hd, hw⟩ | ⟨ht, hd, hw⟩ | ⟨ht, hd, hw⟩ | ⟨ht, hd, hw⟩ | ⟨ht, hd, hw⟩ | ⟨ht, hd, hw⟩ | ⟨ht, hd, hw⟩ | ⟨ht, hd, hw⟩ | ⟨ht, hd, hw⟩ | ⟨ht, hd, hw⟩ | ⟨ht, hd, hw⟩ | ⟨ht, hd, hw⟩ | ⟨ht, hd, hw⟩ | ⟨ht, hd, hw⟩ | ⟨ht, hd, hw⟩ | ⟨⟨ht, hx⟩, hw⟩ | ⟨ht, hw⟩
  · rw [hw, ht, hd, qw_y, if_pos rfl, if_pos rfl]
  · rw [hw, ht, hd, qw_y, if_neg (by decide), if_neg (by decide)]
  · rw [hw, ht, hd, qw_y, if_neg (by decide), if_neg (by decide)]
  · rw [hw, ht, hd, qw_y, if_neg (by decide), if_neg (by decide)]
  · rw [hw, ht, hd, qw_y, if_neg (by decide), if_neg (by decide)]
  · rw [hw, ht, hd, qw_y, if_neg (by decide), if_neg (by decide)]
  · rw [hw, ht, hd, qw_y, if_neg (by decide), if_neg (by decide)]
  · rw [hw, ht, hd, qw_y, if_neg (by decide), if_neg (by decide)]
  · rw [hw, ht, hd, qw_y, if_neg (by decide), if_neg (by decide)]
  · rw [hw, ht, hd, qw_y, if_neg (by decide), if_neg (by decide)]
  · rw [hw, ht, hd, qw_y, if_neg (by decide), if_neg (by decide)]
  · rw [hw, ht, hd, qw_y, if_neg (by decide), if_neg (by decide)]
  · rw [hw, ht, hd, qw_y, if_neg (by decide), if_neg (by decide)]
  · rw [hw, ht, hd, qw_y, if_neg (by decide), if_neg (by decide)]
  · rw [hw, ht, hd, qw_y, if_neg (by decide), if_neg (by decide)]
  · rw [hw, ht, qw_y, if_neg hx.1, if_neg (by decide)]
  · rw [hw, qw_n ht, if_neg (by decide)]
theorem qk_1 (tok : Int32) (wd : Int64) : F_r_isWord tok wd 6460819 = if F_r_houseWord tok wd = 1 then 1 else 0 := by
  rcases qh tok wd with ⟨ht, hd, hw⟩ | ⟨ht, hd, hw⟩ | ⟨ht, hd, hw⟩ | ⟨ht, hd, hw⟩ | ⟨ht, hd, hw⟩ | ⟨ht, hd, hw⟩ | ⟨ht, hd, hw⟩ | ⟨ht, hd, hw⟩ | ⟨ht, hd, hw⟩ | ⟨ht, hd, hw⟩ | ⟨ht, hd, hw⟩ | ⟨ht, hd, hw⟩ | ⟨ht, hd, hw⟩ | ⟨ht, hd, hw⟩ | ⟨ht, hd, hw⟩ | ⟨⟨ht, hx⟩, hw⟩ | ⟨ht, hw⟩
  · rw [hw, ht, hd, qw_y, if_neg (by decide), if_neg (by decide)]
  · rw [hw, ht, hd, qw_y, if_pos rfl, if_pos rfl]
  · rw [hw, ht, hd, qw_y, if_neg (by decide), if_neg (by decide)]
  · rw [hw, ht, hd, qw_y, if_neg (by decide), if_neg (by decide)]
  · rw [hw, ht, hd, qw_y, if_neg (by decide), if_neg (by decide)]
  · rw [hw, ht, hd, qw_y, if_neg (by decide), if_neg (by decide)]
  · rw [hw, ht, hd, qw_y, if_neg (by decide), if_neg (by decide)]
  · rw [hw, ht, hd, qw_y, if_neg (by decide), if_neg (by decide)]
  · rw [hw, ht, hd, qw_y, if_neg (by decide), if_neg (by decide)]
  · rw [hw, ht, hd, qw_y, if_neg (by decide), if_neg (by decide)]
  · rw [hw, ht, hd, qw_y, if_neg (by decide), if_neg (by decide)]
  · rw [hw, ht, hd, qw_y, if_neg (by decide), if_neg (by decide)]
  · rw [hw, ht, hd, qw_y, if_neg (by decide), if_neg (by decide)]
  · rw [hw, ht, hd, qw_y, if_neg (by decide), if_neg (by decide)]
  · rw [hw, ht, hd, qw_y, if_neg (by decide), if_neg (by decide)]
  · rw [hw, ht, qw_y, if_neg hx.2.1, if_neg (by decide)]
  · rw [hw, qw_n ht, if_neg (by decide)]
theorem qk_2 (tok : Int32) (wd : Int64) : F_r_isWord tok wd 11449 = if F_r_houseWord tok wd = 2 then 1 else 0 := by
  rcases qh tok wd with ⟨ht, hd, hw⟩ | ⟨ht, hd, hw⟩ | ⟨ht, hd, hw⟩ | ⟨ht, hd, hw⟩ | ⟨ht, hd, hw⟩ | ⟨ht, hd, hw⟩ | ⟨ht, hd, hw⟩ | ⟨ht, hd, hw⟩ | ⟨ht, hd, hw⟩ | ⟨ht, hd, hw⟩ | ⟨ht, hd, hw⟩ | ⟨ht, hd, hw⟩ | ⟨ht, hd, hw⟩ | ⟨ht, hd, hw⟩ | ⟨ht, hd, hw⟩ | ⟨⟨ht, hx⟩, hw⟩ | ⟨ht, hw⟩
  · rw [hw, ht, hd, qw_y, if_neg (by decide), if_neg (by decide)]
  · rw [hw, ht, hd, qw_y, if_neg (by decide), if_neg (by decide)]
  · rw [hw, ht, hd, qw_y, if_pos rfl, if_pos rfl]
  · rw [hw, ht, hd, qw_y, if_neg (by decide), if_neg (by decide)]
  · rw [hw, ht, hd, qw_y, if_neg (by decide), if_neg (by decide)]
  · rw [hw, ht, hd, qw_y, if_neg (by decide), if_neg (by decide)]
  · rw [hw, ht, hd, qw_y, if_neg (by decide), if_neg (by decide)]
  · rw [hw, ht, hd, qw_y, if_neg (by decide), if_neg (by decide)]
  · rw [hw, ht, hd, qw_y, if_neg (by decide), if_neg (by decide)]
  · rw [hw, ht, hd, qw_y, if_neg (by decide), if_neg (by decide)]
  · rw [hw, ht, hd, qw_y, if_neg (by decide), if_neg (by decide)]
  · rw [hw, ht, hd, qw_y, if_neg (by decide), if_neg (by decide)]
  · rw [hw, ht, hd, qw_y, if_neg (by decide), if_neg (by decide)]
  · rw [hw, ht, hd, qw_y, if_neg (by decide), if_neg (by decide)]
  · rw [hw, ht, hd, qw_y, if_neg (by decide), if_neg (by decide)]
  · rw [hw, ht, qw_y, if_neg hx.2.2.1, if_neg (by decide)]
  · rw [hw, qw_n ht, if_neg (by decide)]
theorem qk_3 (tok : Int32) (wd : Int64) : F_r_isWord tok wd 599495 = if F_r_houseWord tok wd = 3 then 1 else 0 := by
  rcases qh tok wd with ⟨ht, hd, hw⟩ | ⟨ht, hd, hw⟩ | ⟨ht, hd, hw⟩ | ⟨ht, hd, hw⟩ | ⟨ht, hd, hw⟩ | ⟨ht, hd, hw⟩ | ⟨ht, hd, hw⟩ | ⟨ht, hd, hw⟩ | ⟨ht, hd, hw⟩ | ⟨ht, hd, hw⟩ | ⟨ht, hd, hw⟩ | ⟨ht, hd, hw⟩ | ⟨ht, hd, hw⟩ | ⟨ht, hd, hw⟩ | ⟨ht, hd, hw⟩ | ⟨⟨ht, hx⟩, hw⟩ | ⟨ht, hw⟩
  · rw [hw, ht, hd, qw_y, if_neg (by decide), if_neg (by decide)]
  · rw [hw, ht, hd, qw_y, if_neg (by decide), if_neg (by decide)]
  · rw [hw, ht, hd, qw_y, if_neg (by decide), if_neg (by decide)]
  · rw [hw, ht, hd, qw_y, if_pos rfl, if_pos rfl]
  · rw [hw, ht, hd, qw_y, if_neg (by decide), if_neg (by decide)]
  · rw [hw, ht, hd, qw_y, if_neg (by decide), if_neg (by decide)]
  · rw [hw, ht, hd, qw_y, if_neg (by decide), if_neg (by decide)]
  · rw [hw, ht, hd, qw_y, if_neg (by decide), if_neg (by decide)]
  · rw [hw, ht, hd, qw_y, if_neg (by decide), if_neg (by decide)]
  · rw [hw, ht, hd, qw_y, if_neg (by decide), if_neg (by decide)]
  · rw [hw, ht, hd, qw_y, if_neg (by decide), if_neg (by decide)]
  · rw [hw, ht, hd, qw_y, if_neg (by decide), if_neg (by decide)]
  · rw [hw, ht, hd, qw_y, if_neg (by decide), if_neg (by decide)]
  · rw [hw, ht, hd, qw_y, if_neg (by decide), if_neg (by decide)]
  · rw [hw, ht, hd, qw_y, if_neg (by decide), if_neg (by decide)]
  · rw [hw, ht, qw_y, if_neg hx.2.2.2.1, if_neg (by decide)]
  · rw [hw, qw_n ht, if_neg (by decide)]
theorem qk_4 (tok : Int32) (wd : Int64) : F_r_isWord tok wd 146930 = if F_r_houseWord tok wd = 4 then 1 else 0 := by
  rcases qh tok wd with ⟨ht, hd, hw⟩ | ⟨ht, hd, hw⟩ | ⟨ht, hd, hw⟩ | ⟨ht, hd, hw⟩ | ⟨ht, hd, hw⟩ | ⟨ht, hd, hw⟩ | ⟨ht, hd, hw⟩ | ⟨ht, hd, hw⟩ | ⟨ht, hd, hw⟩ | ⟨ht, hd, hw⟩ | ⟨ht, hd, hw⟩ | ⟨ht, hd, hw⟩ | ⟨ht, hd, hw⟩ | ⟨ht, hd, hw⟩ | ⟨ht, hd, hw⟩ | ⟨⟨ht, hx⟩, hw⟩ | ⟨ht, hw⟩
  · rw [hw, ht, hd, qw_y, if_neg (by decide), if_neg (by decide)]
  · rw [hw, ht, hd, qw_y, if_neg (by decide), if_neg (by decide)]
  · rw [hw, ht, hd, qw_y, if_neg (by decide), if_neg (by decide)]
  · rw [hw, ht, hd, qw_y, if_neg (by decide), if_neg (by decide)]
  · rw [hw, ht, hd, qw_y, if_pos rfl, if_pos rfl]
  · rw [hw, ht, hd, qw_y, if_neg (by decide), if_neg (by decide)]
  · rw [hw, ht, hd, qw_y, if_neg (by decide), if_neg (by decide)]
  · rw [hw, ht, hd, qw_y, if_neg (by decide), if_neg (by decide)]
  · rw [hw, ht, hd, qw_y, if_neg (by decide), if_neg (by decide)]
  · rw [hw, ht, hd, qw_y, if_neg (by decide), if_neg (by decide)]
  · rw [hw, ht, hd, qw_y, if_neg (by decide), if_neg (by decide)]
  · rw [hw, ht, hd, qw_y, if_neg (by decide), if_neg (by decide)]
  · rw [hw, ht, hd, qw_y, if_neg (by decide), if_neg (by decide)]
  · rw [hw, ht, hd, qw_y, if_neg (by decide), if_neg (by decide)]
  · rw [hw, ht, hd, qw_y, if_neg (by decide), if_neg (by decide)]
  · rw [hw, ht, qw_y, if_neg hx.2.2.2.2.1, if_neg (by decide)]
  · rw [hw, qw_n ht, if_neg (by decide)]
theorem qk_5 (tok : Int32) (wd : Int64) : F_r_isWord tok wd 20572518547 = if F_r_houseWord tok wd = 5 then 1 else 0 := by
  rcases qh tok wd with ⟨ht, hd, hw⟩ | ⟨ht, hd, hw⟩ | ⟨ht, hd, hw⟩ | ⟨ht, hd, hw⟩ | ⟨ht, hd, hw⟩ | ⟨ht, hd, hw⟩ | ⟨ht, hd, hw⟩ | ⟨ht, hd, hw⟩ | ⟨ht, hd, hw⟩ | ⟨ht, hd, hw⟩ | ⟨ht, hd, hw⟩ | ⟨ht, hd, hw⟩ | ⟨ht, hd, hw⟩ | ⟨ht, hd, hw⟩ | ⟨ht, hd, hw⟩ | ⟨⟨ht, hx⟩, hw⟩ | ⟨ht, hw⟩
  · rw [hw, ht, hd, qw_y, if_neg (by decide), if_neg (by decide)]
  · rw [hw, ht, hd, qw_y, if_neg (by decide), if_neg (by decide)]
  · rw [hw, ht, hd, qw_y, if_neg (by decide), if_neg (by decide)]
  · rw [hw, ht, hd, qw_y, if_neg (by decide), if_neg (by decide)]
  · rw [hw, ht, hd, qw_y, if_neg (by decide), if_neg (by decide)]
  · rw [hw, ht, hd, qw_y, if_pos rfl, if_pos rfl]
  · rw [hw, ht, hd, qw_y, if_neg (by decide), if_neg (by decide)]
  · rw [hw, ht, hd, qw_y, if_neg (by decide), if_neg (by decide)]
  · rw [hw, ht, hd, qw_y, if_neg (by decide), if_neg (by decide)]
  · rw [hw, ht, hd, qw_y, if_neg (by decide), if_neg (by decide)]
  · rw [hw, ht, hd, qw_y, if_neg (by decide), if_neg (by decide)]
  · rw [hw, ht, hd, qw_y, if_neg (by decide), if_neg (by decide)]
  · rw [hw, ht, hd, qw_y, if_neg (by decide), if_neg (by decide)]
  · rw [hw, ht, hd, qw_y, if_neg (by decide), if_neg (by decide)]
  · rw [hw, ht, hd, qw_y, if_neg (by decide), if_neg (by decide)]
  · rw [hw, ht, qw_y, if_neg hx.2.2.2.2.2.1, if_neg (by decide)]
  · rw [hw, qw_n ht, if_neg (by decide)]
theorem qk_6 (tok : Int32) (wd : Int64) : F_r_isWord tok wd 693713060 = if F_r_houseWord tok wd = 6 then 1 else 0 := by
  rcases qh tok wd with ⟨ht, hd, hw⟩ | ⟨ht, hd, hw⟩ | ⟨ht, hd, hw⟩ | ⟨ht, hd, hw⟩ | ⟨ht, hd, hw⟩ | ⟨ht, hd, hw⟩ | ⟨ht, hd, hw⟩ | ⟨ht, hd, hw⟩ | ⟨ht, hd, hw⟩ | ⟨ht, hd, hw⟩ | ⟨ht, hd, hw⟩ | ⟨ht, hd, hw⟩ | ⟨ht, hd, hw⟩ | ⟨ht, hd, hw⟩ | ⟨ht, hd, hw⟩ | ⟨⟨ht, hx⟩, hw⟩ | ⟨ht, hw⟩
  · rw [hw, ht, hd, qw_y, if_neg (by decide), if_neg (by decide)]
  · rw [hw, ht, hd, qw_y, if_neg (by decide), if_neg (by decide)]
  · rw [hw, ht, hd, qw_y, if_neg (by decide), if_neg (by decide)]
  · rw [hw, ht, hd, qw_y, if_neg (by decide), if_neg (by decide)]
  · rw [hw, ht, hd, qw_y, if_neg (by decide), if_neg (by decide)]
  · rw [hw, ht, hd, qw_y, if_neg (by decide), if_neg (by decide)]
  · rw [hw, ht, hd, qw_y, if_pos rfl, if_pos rfl]
  · rw [hw, ht, hd, qw_y, if_neg (by decide), if_neg (by decide)]
  · rw [hw, ht, hd, qw_y, if_neg (by decide), if_neg (by decide)]
  · rw [hw, ht, hd, qw_y, if_neg (by decide), if_neg (by decide)]
  · rw [hw, ht, hd, qw_y, if_neg (by decide), if_neg (by decide)]
  · rw [hw, ht, hd, qw_y, if_neg (by decide), if_neg (by decide)]
  · rw [hw, ht, hd, qw_y, if_neg (by decide), if_neg (by decide)]
  · rw [hw, ht, hd, qw_y, if_neg (by decide), if_neg (by decide)]
  · rw [hw, ht, hd, qw_y, if_neg (by decide), if_neg (by decide)]
  · rw [hw, ht, qw_y, if_neg hx.2.2.2.2.2.2.1, if_neg (by decide)]
  · rw [hw, qw_n ht, if_neg (by decide)]
theorem qk_7 (tok : Int32) (wd : Int64) : F_r_isWord tok wd 19387844 = if F_r_houseWord tok wd = 7 then 1 else 0 := by
  rcases qh tok wd with ⟨ht, hd, hw⟩ | ⟨ht, hd, hw⟩ | ⟨ht, hd, hw⟩ | ⟨ht, hd, hw⟩ | ⟨ht, hd, hw⟩ | ⟨ht, hd, hw⟩ | ⟨ht, hd, hw⟩ | ⟨ht, hd, hw⟩ | ⟨ht, hd, hw⟩ | ⟨ht, hd, hw⟩ | ⟨ht, hd, hw⟩ | ⟨ht, hd, hw⟩ | ⟨ht, hd, hw⟩ | ⟨ht, hd, hw⟩ | ⟨ht, hd, hw⟩ | ⟨⟨ht, hx⟩, hw⟩ | ⟨ht, hw⟩
  · rw [hw, ht, hd, qw_y, if_neg (by decide), if_neg (by decide)]
  · rw [hw, ht, hd, qw_y, if_neg (by decide), if_neg (by decide)]
  · rw [hw, ht, hd, qw_y, if_neg (by decide), if_neg (by decide)]
  · rw [hw, ht, hd, qw_y, if_neg (by decide), if_neg (by decide)]
  · rw [hw, ht, hd, qw_y, if_neg (by decide), if_neg (by decide)]
  · rw [hw, ht, hd, qw_y, if_neg (by decide), if_neg (by decide)]
  · rw [hw, ht, hd, qw_y, if_neg (by decide), if_neg (by decide)]
  · rw [hw, ht, hd, qw_y, if_pos rfl, if_pos rfl]
  · rw [hw, ht, hd, qw_y, if_neg (by decide), if_neg (by decide)]
  · rw [hw, ht, hd, qw_y, if_neg (by decide), if_neg (by decide)]
  · rw [hw, ht, hd, qw_y, if_neg (by decide), if_neg (by decide)]
  · rw [hw, ht, hd, qw_y, if_neg (by decide), if_neg (by decide)]
  · rw [hw, ht, hd, qw_y, if_neg (by decide), if_neg (by decide)]
  · rw [hw, ht, hd, qw_y, if_neg (by decide), if_neg (by decide)]
  · rw [hw, ht, hd, qw_y, if_neg (by decide), if_neg (by decide)]
  · rw [hw, ht, qw_y, if_neg hx.2.2.2.2.2.2.2.1, if_neg (by decide)]
  · rw [hw, qw_n ht, if_neg (by decide)]
theorem qk_8 (tok : Int32) (wd : Int64) : F_r_isWord tok wd 20583955 = if F_r_houseWord tok wd = 8 then 1 else 0 := by
  rcases qh tok wd with ⟨ht, hd, hw⟩ | ⟨ht, hd, hw⟩ | ⟨ht, hd, hw⟩ | ⟨ht, hd, hw⟩ | ⟨ht, hd, hw⟩ | ⟨ht, hd, hw⟩ | ⟨ht, hd, hw⟩ | ⟨ht, hd, hw⟩ | ⟨ht, hd, hw⟩ | ⟨ht, hd, hw⟩ | ⟨ht, hd, hw⟩ | ⟨ht, hd, hw⟩ | ⟨ht, hd, hw⟩ | ⟨ht, hd, hw⟩ | ⟨ht, hd, hw⟩ | ⟨⟨ht, hx⟩, hw⟩ | ⟨ht, hw⟩
  · rw [hw, ht, hd, qw_y, if_neg (by decide), if_neg (by decide)]
  · rw [hw, ht, hd, qw_y, if_neg (by decide), if_neg (by decide)]
  · rw [hw, ht, hd, qw_y, if_neg (by decide), if_neg (by decide)]
  · rw [hw, ht, hd, qw_y, if_neg (by decide), if_neg (by decide)]
  · rw [hw, ht, hd, qw_y, if_neg (by decide), if_neg (by decide)]
  · rw [hw, ht, hd, qw_y, if_neg (by decide), if_neg (by decide)]
  · rw [hw, ht, hd, qw_y, if_neg (by decide), if_neg (by decide)]
  · rw [hw, ht, hd, qw_y, if_neg (by decide), if_neg (by decide)]
  · rw [hw, ht, hd, qw_y, if_pos rfl, if_pos rfl]
  · rw [hw, ht, hd, qw_y, if_neg (by decide), if_neg (by decide)]
  · rw [hw, ht, hd, qw_y, if_neg (by decide), if_neg (by decide)]
  · rw [hw, ht, hd, qw_y, if_neg (by decide), if_neg (by decide)]
  · rw [hw, ht, hd, qw_y, if_neg (by decide), if_neg (by decide)]
  · rw [hw, ht, hd, qw_y, if_neg (by decide), if_neg (by decide)]
  · rw [hw, ht, hd, qw_y, if_neg (by decide), if_neg (by decide)]
  · rw [hw, ht, qw_y, if_neg hx.2.2.2.2.2.2.2.2.1, if_neg (by decide)]
  · rw [hw, qw_n ht, if_neg (by decide)]
theorem qk_9 (tok : Int32) (wd : Int64) : F_r_isWord tok wd 773279908 = if F_r_houseWord tok wd = 9 then 1 else 0 := by
  rcases qh tok wd with ⟨ht, hd, hw⟩ | ⟨ht, hd, hw⟩ | ⟨ht, hd, hw⟩ | ⟨ht, hd, hw⟩ | ⟨ht, hd, hw⟩ | ⟨ht, hd, hw⟩ | ⟨ht, hd, hw⟩ | ⟨ht, hd, hw⟩ | ⟨ht, hd, hw⟩ | ⟨ht, hd, hw⟩ | ⟨ht, hd, hw⟩ | ⟨ht, hd, hw⟩ | ⟨ht, hd, hw⟩ | ⟨ht, hd, hw⟩ | ⟨ht, hd, hw⟩ | ⟨⟨ht, hx⟩, hw⟩ | ⟨ht, hw⟩
  · rw [hw, ht, hd, qw_y, if_neg (by decide), if_neg (by decide)]
  · rw [hw, ht, hd, qw_y, if_neg (by decide), if_neg (by decide)]
  · rw [hw, ht, hd, qw_y, if_neg (by decide), if_neg (by decide)]
  · rw [hw, ht, hd, qw_y, if_neg (by decide), if_neg (by decide)]
  · rw [hw, ht, hd, qw_y, if_neg (by decide), if_neg (by decide)]
  · rw [hw, ht, hd, qw_y, if_neg (by decide), if_neg (by decide)]
  · rw [hw, ht, hd, qw_y, if_neg (by decide), if_neg (by decide)]
  · rw [hw, ht, hd, qw_y, if_neg (by decide), if_neg (by decide)]
  · rw [hw, ht, hd, qw_y, if_neg (by decide), if_neg (by decide)]
  · rw [hw, ht, hd, qw_y, if_pos rfl, if_pos rfl]
  · rw [hw, ht, hd, qw_y, if_neg (by decide), if_neg (by decide)]
  · rw [hw, ht, hd, qw_y, if_neg (by decide), if_neg (by decide)]
  · rw [hw, ht, hd, qw_y, if_neg (by decide), if_neg (by decide)]
  · rw [hw, ht, hd, qw_y, if_neg (by decide), if_neg (by decide)]
  · rw [hw, ht, hd, qw_y, if_neg (by decide), if_neg (by decide)]
  · rw [hw, ht, qw_y, if_neg hx.2.2.2.2.2.2.2.2.2.1, if_neg (by decide)]
  · rw [hw, qw_n ht, if_neg (by decide)]
theorem qk_10 (tok : Int32) (wd : Int64) : F_r_isWord tok wd 89 = if F_r_houseWord tok wd = 10 then 1 else 0 := by
  rcases qh tok wd with ⟨ht, hd, hw⟩ | ⟨ht, hd, hw⟩ | ⟨ht, hd, hw⟩ | ⟨ht, hd, hw⟩ | ⟨ht, hd, hw⟩ | ⟨ht, hd, hw⟩ | ⟨ht, hd, hw⟩ | ⟨ht, hd, hw⟩ | ⟨ht, hd, hw⟩ | ⟨ht, hd, hw⟩ | ⟨ht, hd, hw⟩ | ⟨ht, hd, hw⟩ | ⟨ht, hd, hw⟩ | ⟨ht, hd, hw⟩ | ⟨ht, hd, hw⟩ | ⟨⟨ht, hx⟩, hw⟩ | ⟨ht, hw⟩
  · rw [hw, ht, hd, qw_y, if_neg (by decide), if_neg (by decide)]
  · rw [hw, ht, hd, qw_y, if_neg (by decide), if_neg (by decide)]
  · rw [hw, ht, hd, qw_y, if_neg (by decide), if_neg (by decide)]
  · rw [hw, ht, hd, qw_y, if_neg (by decide), if_neg (by decide)]
  · rw [hw, ht, hd, qw_y, if_neg (by decide), if_neg (by decide)]
  · rw [hw, ht, hd, qw_y, if_neg (by decide), if_neg (by decide)]
  · rw [hw, ht, hd, qw_y, if_neg (by decide), if_neg (by decide)]
  · rw [hw, ht, hd, qw_y, if_neg (by decide), if_neg (by decide)]
  · rw [hw, ht, hd, qw_y, if_neg (by decide), if_neg (by decide)]
  · rw [hw, ht, hd, qw_y, if_neg (by decide), if_neg (by decide)]
  · rw [hw, ht, hd, qw_y, if_pos rfl, if_pos rfl]
  · rw [hw, ht, hd, qw_y, if_neg (by decide), if_neg (by decide)]
  · rw [hw, ht, hd, qw_y, if_neg (by decide), if_neg (by decide)]
  · rw [hw, ht, hd, qw_y, if_neg (by decide), if_neg (by decide)]
  · rw [hw, ht, hd, qw_y, if_neg (by decide), if_neg (by decide)]
  · rw [hw, ht, qw_y, if_neg hx.2.2.2.2.2.2.2.2.2.2.1, if_neg (by decide)]
  · rw [hw, qw_n ht, if_neg (by decide)]
theorem qk_11 (tok : Int32) (wd : Int64) : F_r_isWord tok wd 201900 = if F_r_houseWord tok wd = 11 then 1 else 0 := by
  rcases qh tok wd with ⟨ht, hd, hw⟩ | ⟨ht, hd, hw⟩ | ⟨ht, hd, hw⟩ | ⟨ht, hd, hw⟩ | ⟨ht, hd, hw⟩ | ⟨ht, hd, hw⟩ | ⟨ht, hd, hw⟩ | ⟨ht, hd, hw⟩ | ⟨ht, hd, hw⟩ | ⟨ht, hd, hw⟩ | ⟨ht, hd, hw⟩ | ⟨ht, hd, hw⟩ | ⟨ht, hd, hw⟩ | ⟨ht, hd, hw⟩ | ⟨ht, hd, hw⟩ | ⟨⟨ht, hx⟩, hw⟩ | ⟨ht, hw⟩
  · rw [hw, ht, hd, qw_y, if_neg (by decide), if_neg (by decide)]
  · rw [hw, ht, hd, qw_y, if_neg (by decide), if_neg (by decide)]
  · rw [hw, ht, hd, qw_y, if_neg (by decide), if_neg (by decide)]
  · rw [hw, ht, hd, qw_y, if_neg (by decide), if_neg (by decide)]
  · rw [hw, ht, hd, qw_y, if_neg (by decide), if_neg (by decide)]
  · rw [hw, ht, hd, qw_y, if_neg (by decide), if_neg (by decide)]
  · rw [hw, ht, hd, qw_y, if_neg (by decide), if_neg (by decide)]
  · rw [hw, ht, hd, qw_y, if_neg (by decide), if_neg (by decide)]
  · rw [hw, ht, hd, qw_y, if_neg (by decide), if_neg (by decide)]
  · rw [hw, ht, hd, qw_y, if_neg (by decide), if_neg (by decide)]
  · rw [hw, ht, hd, qw_y, if_neg (by decide), if_neg (by decide)]
  · rw [hw, ht, hd, qw_y, if_pos rfl, if_pos rfl]
  · rw [hw, ht, hd, qw_y, if_neg (by decide), if_neg (by decide)]
  · rw [hw, ht, hd, qw_y, if_neg (by decide), if_neg (by decide)]
  · rw [hw, ht, hd, qw_y, if_neg (by decide), if_neg (by decide)]
  · rw [hw, ht, qw_y, if_neg hx.2.2.2.2.2.2.2.2.2.2.2.1, if_neg (by decide)]
  · rw [hw, qw_n ht, if_neg (by decide)]
theorem qk_12 (tok : Int32) (wd : Int64) : F_r_isWord tok wd 21081 = if F_r_houseWord tok wd = 12 then 1 else 0 := by
  rcases qh tok wd with ⟨ht, hd, hw⟩ | ⟨ht, hd, hw⟩ | ⟨ht, hd, hw⟩ | ⟨ht, hd, hw⟩ | ⟨ht, hd, hw⟩ | ⟨ht, hd, hw⟩ | ⟨ht, hd, hw⟩ | ⟨ht, hd, hw⟩ | ⟨ht, hd, hw⟩ | ⟨ht, hd, hw⟩ | ⟨ht, hd, hw⟩ | ⟨ht, hd, hw⟩ | ⟨ht, hd, hw⟩ | ⟨ht, hd, hw⟩ | ⟨ht, hd, hw⟩ | ⟨⟨ht, hx⟩, hw⟩ | ⟨ht, hw⟩
  · rw [hw, ht, hd, qw_y, if_neg (by decide), if_neg (by decide)]
  · rw [hw, ht, hd, qw_y, if_neg (by decide), if_neg (by decide)]
  · rw [hw, ht, hd, qw_y, if_neg (by decide), if_neg (by decide)]
  · rw [hw, ht, hd, qw_y, if_neg (by decide), if_neg (by decide)]
  · rw [hw, ht, hd, qw_y, if_neg (by decide), if_neg (by decide)]
  · rw [hw, ht, hd, qw_y, if_neg (by decide), if_neg (by decide)]
  · rw [hw, ht, hd, qw_y, if_neg (by decide), if_neg (by decide)]
  · rw [hw, ht, hd, qw_y, if_neg (by decide), if_neg (by decide)]
  · rw [hw, ht, hd, qw_y, if_neg (by decide), if_neg (by decide)]
  · rw [hw, ht, hd, qw_y, if_neg (by decide), if_neg (by decide)]
  · rw [hw, ht, hd, qw_y, if_neg (by decide), if_neg (by decide)]
  · rw [hw, ht, hd, qw_y, if_neg (by decide), if_neg (by decide)]
  · rw [hw, ht, hd, qw_y, if_pos rfl, if_pos rfl]
  · rw [hw, ht, hd, qw_y, if_neg (by decide), if_neg (by decide)]
  · rw [hw, ht, hd, qw_y, if_neg (by decide), if_neg (by decide)]
  · rw [hw, ht, qw_y, if_neg hx.2.2.2.2.2.2.2.2.2.2.2.2.1, if_neg (by decide)]
  · rw [hw, qw_n ht, if_neg (by decide)]
theorem qk_13 (tok : Int32) (wd : Int64) : F_r_isWord tok wd 239 = if F_r_houseWord tok wd = 13 then 1 else 0 := by
  rcases qh tok wd with ⟨ht, hd, hw⟩ | ⟨ht, hd, hw⟩ | ⟨ht, hd, hw⟩ | ⟨ht, hd, hw⟩ | ⟨ht, hd, hw⟩ | ⟨ht, hd, hw⟩ | ⟨ht, hd, hw⟩ | ⟨ht, hd, hw⟩ | ⟨ht, hd, hw⟩ | ⟨ht, hd, hw⟩ | ⟨ht, hd, hw⟩ | ⟨ht, hd, hw⟩ | ⟨ht, hd, hw⟩ | ⟨ht, hd, hw⟩ | ⟨ht, hd, hw⟩ | ⟨⟨ht, hx⟩, hw⟩ | ⟨ht, hw⟩
  · rw [hw, ht, hd, qw_y, if_neg (by decide), if_neg (by decide)]
  · rw [hw, ht, hd, qw_y, if_neg (by decide), if_neg (by decide)]
  · rw [hw, ht, hd, qw_y, if_neg (by decide), if_neg (by decide)]
  · rw [hw, ht, hd, qw_y, if_neg (by decide), if_neg (by decide)]
  · rw [hw, ht, hd, qw_y, if_neg (by decide), if_neg (by decide)]
  · rw [hw, ht, hd, qw_y, if_neg (by decide), if_neg (by decide)]
  · rw [hw, ht, hd, qw_y, if_neg (by decide), if_neg (by decide)]
  · rw [hw, ht, hd, qw_y, if_neg (by decide), if_neg (by decide)]
  · rw [hw, ht, hd, qw_y, if_neg (by decide), if_neg (by decide)]
  · rw [hw, ht, hd, qw_y, if_neg (by decide), if_neg (by decide)]
  · rw [hw, ht, hd, qw_y, if_neg (by decide), if_neg (by decide)]
  · rw [hw, ht, hd, qw_y, if_neg (by decide), if_neg (by decide)]
  · rw [hw, ht, hd, qw_y, if_neg (by decide), if_neg (by decide)]
  · rw [hw, ht, hd, qw_y, if_pos rfl, if_pos rfl]
  · rw [hw, ht, hd, qw_y, if_neg (by decide), if_neg (by decide)]
  · rw [hw, ht, qw_y, if_neg hx.2.2.2.2.2.2.2.2.2.2.2.2.2.1, if_neg (by decide)]
  · rw [hw, qw_n ht, if_neg (by decide)]
theorem qk_14 (tok : Int32) (wd : Int64) : F_r_isWord tok wd 150000 = if F_r_houseWord tok wd = 14 then 1 else 0 := by
  rcases qh tok wd with ⟨ht, hd, hw⟩ | ⟨ht, hd, hw⟩ | ⟨ht, hd, hw⟩ | ⟨ht, hd, hw⟩ | ⟨ht, hd, hw⟩ | ⟨ht, hd, hw⟩ | ⟨ht, hd, hw⟩ | ⟨ht, hd, hw⟩ | ⟨ht, hd, hw⟩ | ⟨ht, hd, hw⟩ | ⟨ht, hd, hw⟩ | ⟨ht, hd, hw⟩ | ⟨ht, hd, hw⟩ | ⟨ht, hd, hw⟩ | ⟨ht, hd, hw⟩ | ⟨⟨ht, hx⟩, hw⟩ | ⟨ht, hw⟩
  · rw [hw, ht, hd, qw_y, if_neg (by decide), if_neg (by decide)]
  · rw [hw, ht, hd, qw_y, if_neg (by decide), if_neg (by decide)]
  · rw [hw, ht, hd, qw_y, if_neg (by decide), if_neg (by decide)]
  · rw [hw, ht, hd, qw_y, if_neg (by decide), if_neg (by decide)]
  · rw [hw, ht, hd, qw_y, if_neg (by decide), if_neg (by decide)]
  · rw [hw, ht, hd, qw_y, if_neg (by decide), if_neg (by decide)]
  · rw [hw, ht, hd, qw_y, if_neg (by decide), if_neg (by decide)]
  · rw [hw, ht, hd, qw_y, if_neg (by decide), if_neg (by decide)]
  · rw [hw, ht, hd, qw_y, if_neg (by decide), if_neg (by decide)]
  · rw [hw, ht, hd, qw_y, if_neg (by decide), if_neg (by decide)]
  · rw [hw, ht, hd, qw_y, if_neg (by decide), if_neg (by decide)]
  · rw [hw, ht, hd, qw_y, if_neg (by decide), if_neg (by decide)]
  · rw [hw, ht, hd, qw_y, if_neg (by decide), if_neg (by decide)]
  · rw [hw, ht, hd, qw_y, if_neg (by decide), if_neg (by decide)]
  · rw [hw, ht, hd, qw_y, if_pos rfl, if_pos rfl]
  · rw [hw, ht, qw_y, if_neg hx.2.2.2.2.2.2.2.2.2.2.2.2.2.2, if_neg (by decide)]
  · rw [hw, qw_n ht, if_neg (by decide)]
theorem qh_r (tok : Int32) (wd : Int64) : -1 ≤ (F_r_houseWord tok wd).toInt ∧ (F_r_houseWord tok wd).toInt ≤ 14 := by
  rcases qh tok wd with ⟨-, -, hw⟩ | ⟨-, -, hw⟩ | ⟨-, -, hw⟩ | ⟨-, -, hw⟩ | ⟨-, -, hw⟩ | ⟨-, -, hw⟩ | ⟨-, -, hw⟩ | ⟨-, -, hw⟩ | ⟨-, -, hw⟩ | ⟨-, -, hw⟩ | ⟨-, -, hw⟩ | ⟨-, -, hw⟩ | ⟨-, -, hw⟩ | ⟨-, -, hw⟩ | ⟨-, -, hw⟩ | ⟨-, hw⟩ | ⟨-, hw⟩ <;> rw [hw] <;> decide +kernel
theorem qh_t {tok : Int32} {wd : Int64} (h : ¬ F_r_houseWord tok wd = -1) : tok = 1 := by
  rcases qh tok wd with ⟨ht, -, hw⟩ | ⟨ht, -, hw⟩ | ⟨ht, -, hw⟩ | ⟨ht, -, hw⟩ | ⟨ht, -, hw⟩ | ⟨ht, -, hw⟩ | ⟨ht, -, hw⟩ | ⟨ht, -, hw⟩ | ⟨ht, -, hw⟩ | ⟨ht, -, hw⟩ | ⟨ht, -, hw⟩ | ⟨ht, -, hw⟩ | ⟨ht, -, hw⟩ | ⟨ht, -, hw⟩ | ⟨ht, -, hw⟩ | ⟨ht, hw⟩ | ⟨ht, hw⟩
  · exact ht
  · exact ht
  · exact ht
  · exact ht
  · exact ht
  · exact ht
  · exact ht
  · exact ht
  · exact ht
  · exact ht
  · exact ht
  · exact ht
  · exact ht
  · exact ht
  · exact ht
  · exact ht.1
  · exact absurd hw h
theorem qi_0 {n : Int32} {T : Nat → Int32} {tok a b num lt : Int32} {wd : Int64} {cs cn : Int32} {cl : Int64} (hn : n.toInt ≤ 900) (h : qTk n T tok a b num lt wd cs cn cl) : F_Te_is n tok a b T 0 = if F_r_houseWord tok wd = 0 then 1 else 0 := by
  rw [q_isw qG_0 hn h, qk_0]
theorem qi_1 {n : Int32} {T : Nat → Int32} {tok a b num lt : Int32} {wd : Int64} {cs cn : Int32} {cl : Int64} (hn : n.toInt ≤ 900) (h : qTk n T tok a b num lt wd cs cn cl) : F_Te_is n tok a b T 1 = if F_r_houseWord tok wd = 0 then 1 else 0 := by
  rw [q_isw qG_1 hn h, qk_0]
theorem qi_2 {n : Int32} {T : Nat → Int32} {tok a b num lt : Int32} {wd : Int64} {cs cn : Int32} {cl : Int64} (hn : n.toInt ≤ 900) (h : qTk n T tok a b num lt wd cs cn cl) : F_Te_is n tok a b T 2 = if F_r_houseWord tok wd = 8 then 1 else 0 := by
  rw [q_isw qG_2 hn h, qk_8]
theorem qi_3 {n : Int32} {T : Nat → Int32} {tok a b num lt : Int32} {wd : Int64} {cs cn : Int32} {cl : Int64} (hn : n.toInt ≤ 900) (h : qTk n T tok a b num lt wd cs cn cl) : F_Te_is n tok a b T 3 = if F_r_houseWord tok wd = 6 then 1 else 0 := by
  rw [q_isw qG_3 hn h, qk_6]
theorem qi_4 {n : Int32} {T : Nat → Int32} {tok a b num lt : Int32} {wd : Int64} {cs cn : Int32} {cl : Int64} (hn : n.toInt ≤ 900) (h : qTk n T tok a b num lt wd cs cn cl) : F_Te_is n tok a b T 4 = if F_r_houseWord tok wd = 1 then 1 else 0 := by
  rw [q_isw qG_4 hn h, qk_1]
theorem qi_5 {n : Int32} {T : Nat → Int32} {tok a b num lt : Int32} {wd : Int64} {cs cn : Int32} {cl : Int64} (hn : n.toInt ≤ 900) (h : qTk n T tok a b num lt wd cs cn cl) : F_Te_is n tok a b T 5 = if F_r_houseWord tok wd = 2 then 1 else 0 := by
  rw [q_isw qG_5 hn h, qk_2]
theorem qi_6 {n : Int32} {T : Nat → Int32} {tok a b num lt : Int32} {wd : Int64} {cs cn : Int32} {cl : Int64} (hn : n.toInt ≤ 900) (h : qTk n T tok a b num lt wd cs cn cl) : F_Te_is n tok a b T 6 = if F_r_houseWord tok wd = 3 then 1 else 0 := by
  rw [q_isw qG_6 hn h, qk_3]
theorem qi_7 {n : Int32} {T : Nat → Int32} {tok a b num lt : Int32} {wd : Int64} {cs cn : Int32} {cl : Int64} (hn : n.toInt ≤ 900) (h : qTk n T tok a b num lt wd cs cn cl) : F_Te_is n tok a b T 7 = if F_r_houseWord tok wd = 4 then 1 else 0 := by
  rw [q_isw qG_7 hn h, qk_4]
theorem qi_8 {n : Int32} {T : Nat → Int32} {tok a b num lt : Int32} {wd : Int64} {cs cn : Int32} {cl : Int64} (hn : n.toInt ≤ 900) (h : qTk n T tok a b num lt wd cs cn cl) : F_Te_is n tok a b T 8 = if F_r_houseWord tok wd = 9 then 1 else 0 := by
  rw [q_isw qG_8 hn h, qk_9]
theorem qi_9 {n : Int32} {T : Nat → Int32} {tok a b num lt : Int32} {wd : Int64} {cs cn : Int32} {cl : Int64} (hn : n.toInt ≤ 900) (h : qTk n T tok a b num lt wd cs cn cl) : F_Te_is n tok a b T 9 = if F_r_houseWord tok wd = 10 then 1 else 0 := by
  rw [q_isw qG_9 hn h, qk_10]
theorem qi_10 {n : Int32} {T : Nat → Int32} {tok a b num lt : Int32} {wd : Int64} {cs cn : Int32} {cl : Int64} (hn : n.toInt ≤ 900) (h : qTk n T tok a b num lt wd cs cn cl) : F_Te_is n tok a b T 10 = if F_r_houseWord tok wd = 5 then 1 else 0 := by
  rw [q_isw qG_10 hn h, qk_5]
theorem qi_11 {n : Int32} {T : Nat → Int32} {tok a b num lt : Int32} {wd : Int64} {cs cn : Int32} {cl : Int64} (hn : n.toInt ≤ 900) (h : qTk n T tok a b num lt wd cs cn cl) : F_Te_is n tok a b T 11 = if F_r_houseWord tok wd = 11 then 1 else 0 := by
  rw [q_isw qG_11 hn h, qk_11]
theorem qi_12 {n : Int32} {T : Nat → Int32} {tok a b num lt : Int32} {wd : Int64} {cs cn : Int32} {cl : Int64} (hn : n.toInt ≤ 900) (h : qTk n T tok a b num lt wd cs cn cl) : F_Te_is n tok a b T 12 = if F_r_houseWord tok wd = 12 then 1 else 0 := by
  rw [q_isw qG_12 hn h, qk_12]
theorem qi_13 {n : Int32} {T : Nat → Int32} {tok a b num lt : Int32} {wd : Int64} {cs cn : Int32} {cl : Int64} (hn : n.toInt ≤ 900) (h : qTk n T tok a b num lt wd cs cn cl) : F_Te_is n tok a b T 13 = if F_r_houseWord tok wd = 13 then 1 else 0 := by
  rw [q_isw qG_13 hn h, qk_13]
theorem qi_14 {n : Int32} {T : Nat → Int32} {tok a b num lt : Int32} {wd : Int64} {cs cn : Int32} {cl : Int64} (hn : n.toInt ≤ 900) (h : qTk n T tok a b num lt wd cs cn cl) : F_Te_is n tok a b T 14 = if F_r_houseWord tok wd = 14 then 1 else 0 := by
  rw [q_isw qG_14 hn h, qk_14]
theorem qi_15 {n : Int32} {T : Nat → Int32} {tok a b num lt : Int32} {wd : Int64} {cs cn : Int32} {cl : Int64} (hn : n.toInt ≤ 900) (h : qTk n T tok a b num lt wd cs cn cl) : F_Te_is n tok a b T 15 = if F_r_houseWord tok wd = 7 then 1 else 0 := by
  rw [q_isw qG_15 hn h, qk_7]
theorem qi_16 {n : Int32} {T : Nat → Int32} {tok a b num lt : Int32} {wd : Int64} {cs cn : Int32} {cl : Int64} (hn : n.toInt ≤ 900) (h : qTk n T tok a b num lt wd cs cn cl) : F_Te_is n tok a b T 16 = if F_r_houseWord tok wd = 8 then 1 else 0 := by
  rw [q_isw qG_16 hn h, qk_8]
theorem qi_17 {n : Int32} {T : Nat → Int32} {tok a b num lt : Int32} {wd : Int64} {cs cn : Int32} {cl : Int64} (hn : n.toInt ≤ 900) (h : qTk n T tok a b num lt wd cs cn cl) : F_Te_is n tok a b T 17 = if F_r_houseWord tok wd = 6 then 1 else 0 := by
  rw [q_isw qG_17 hn h, qk_6]
theorem qi_18 {n : Int32} {T : Nat → Int32} {tok a b num lt : Int32} {wd : Int64} {cs cn : Int32} {cl : Int64} (hn : n.toInt ≤ 900) (h : qTk n T tok a b num lt wd cs cn cl) : F_Te_is n tok a b T 18 = if F_r_houseWord tok wd = 1 then 1 else 0 := by
  rw [q_isw qG_18 hn h, qk_1]
theorem qi_19 {n : Int32} {T : Nat → Int32} {tok a b num lt : Int32} {wd : Int64} {cs cn : Int32} {cl : Int64} (hn : n.toInt ≤ 900) (h : qTk n T tok a b num lt wd cs cn cl) : F_Te_is n tok a b T 19 = if F_r_houseWord tok wd = 2 then 1 else 0 := by
  rw [q_isw qG_19 hn h, qk_2]
theorem qi_20 {n : Int32} {T : Nat → Int32} {tok a b num lt : Int32} {wd : Int64} {cs cn : Int32} {cl : Int64} (hn : n.toInt ≤ 900) (h : qTk n T tok a b num lt wd cs cn cl) : F_Te_is n tok a b T 20 = if F_r_houseWord tok wd = 3 then 1 else 0 := by
  rw [q_isw qG_20 hn h, qk_3]
theorem qi_21 {n : Int32} {T : Nat → Int32} {tok a b num lt : Int32} {wd : Int64} {cs cn : Int32} {cl : Int64} (hn : n.toInt ≤ 900) (h : qTk n T tok a b num lt wd cs cn cl) : F_Te_is n tok a b T 21 = if F_r_houseWord tok wd = 4 then 1 else 0 := by
  rw [q_isw qG_21 hn h, qk_4]
theorem qi_22 {n : Int32} {T : Nat → Int32} {tok a b num lt : Int32} {wd : Int64} {cs cn : Int32} {cl : Int64} (hn : n.toInt ≤ 900) (h : qTk n T tok a b num lt wd cs cn cl) : F_Te_is n tok a b T 22 = if F_r_houseWord tok wd = 9 then 1 else 0 := by
  rw [q_isw qG_22 hn h, qk_9]
theorem qi_23 {n : Int32} {T : Nat → Int32} {tok a b num lt : Int32} {wd : Int64} {cs cn : Int32} {cl : Int64} (hn : n.toInt ≤ 900) (h : qTk n T tok a b num lt wd cs cn cl) : F_Te_is n tok a b T 23 = if F_r_houseWord tok wd = 10 then 1 else 0 := by
  rw [q_isw qG_23 hn h, qk_10]
theorem qi_24 {n : Int32} {T : Nat → Int32} {tok a b num lt : Int32} {wd : Int64} {cs cn : Int32} {cl : Int64} (hn : n.toInt ≤ 900) (h : qTk n T tok a b num lt wd cs cn cl) : F_Te_is n tok a b T 24 = if F_r_houseWord tok wd = 5 then 1 else 0 := by
  rw [q_isw qG_24 hn h, qk_5]
theorem qi_25 {n : Int32} {T : Nat → Int32} {tok a b num lt : Int32} {wd : Int64} {cs cn : Int32} {cl : Int64} (hn : n.toInt ≤ 900) (h : qTk n T tok a b num lt wd cs cn cl) : F_Te_is n tok a b T 25 = if F_r_houseWord tok wd = 11 then 1 else 0 := by
  rw [q_isw qG_25 hn h, qk_11]
theorem qi_26 {n : Int32} {T : Nat → Int32} {tok a b num lt : Int32} {wd : Int64} {cs cn : Int32} {cl : Int64} (hn : n.toInt ≤ 900) (h : qTk n T tok a b num lt wd cs cn cl) : F_Te_is n tok a b T 26 = if F_r_houseWord tok wd = 12 then 1 else 0 := by
  rw [q_isw qG_26 hn h, qk_12]
theorem qi_27 {n : Int32} {T : Nat → Int32} {tok a b num lt : Int32} {wd : Int64} {cs cn : Int32} {cl : Int64} (hn : n.toInt ≤ 900) (h : qTk n T tok a b num lt wd cs cn cl) : F_Te_is n tok a b T 27 = if F_r_houseWord tok wd = 13 then 1 else 0 := by
  rw [q_isw qG_27 hn h, qk_13]
theorem qi_28 {n : Int32} {T : Nat → Int32} {tok a b num lt : Int32} {wd : Int64} {cs cn : Int32} {cl : Int64} (hn : n.toInt ≤ 900) (h : qTk n T tok a b num lt wd cs cn cl) : F_Te_is n tok a b T 28 = if F_r_houseWord tok wd = 14 then 1 else 0 := by
  rw [q_isw qG_28 hn h, qk_14]
theorem qi_29 {n : Int32} {T : Nat → Int32} {tok a b num lt : Int32} {wd : Int64} {cs cn : Int32} {cl : Int64} (hn : n.toInt ≤ 900) (h : qTk n T tok a b num lt wd cs cn cl) : F_Te_is n tok a b T 29 = if F_r_houseWord tok wd = 7 then 1 else 0 := by
  rw [q_isw qG_29 hn h, qk_7]
theorem qi_33 {n : Int32} {T : Nat → Int32} {tok a b num lt : Int32} {wd : Int64} {cs cn : Int32} {cl : Int64} (hn : n.toInt ≤ 900) (h : qTk n T tok a b num lt wd cs cn cl) : F_Te_is n tok a b T 33 = if F_r_houseWord tok wd = 11 then 1 else 0 := by
  rw [q_isw qG_33 hn h, qk_11]
theorem qi_34 {n : Int32} {T : Nat → Int32} {tok a b num lt : Int32} {wd : Int64} {cs cn : Int32} {cl : Int64} (hn : n.toInt ≤ 900) (h : qTk n T tok a b num lt wd cs cn cl) : F_Te_is n tok a b T 34 = if F_r_houseWord tok wd = 12 then 1 else 0 := by
  rw [q_isw qG_34 hn h, qk_12]
theorem qi_35 {n : Int32} {T : Nat → Int32} {tok a b num lt : Int32} {wd : Int64} {cs cn : Int32} {cl : Int64} (hn : n.toInt ≤ 900) (h : qTk n T tok a b num lt wd cs cn cl) : F_Te_is n tok a b T 35 = if F_r_houseWord tok wd = 13 then 1 else 0 := by
  rw [q_isw qG_35 hn h, qk_13]
theorem qi_37 {n : Int32} {T : Nat → Int32} {tok a b num lt : Int32} {wd : Int64} {cs cn : Int32} {cl : Int64} (hn : n.toInt ≤ 900) (h : qTk n T tok a b num lt wd cs cn cl) : F_Te_is n tok a b T 37 = if F_r_houseWord tok wd = 14 then 1 else 0 := by
  rw [q_isw qG_37 hn h, qk_14]
theorem qw_01 (tok : Int32) (wd c : Int64) : F_r_isWord tok wd c = 0 ∨ F_r_isWord tok wd c = 1 := by
  by_cases ht : tok = 1
  · rw [ht, qw_y]
    by_cases h : wd = c
    · rw [if_pos h]; exact Or.inr rfl
    · rw [if_neg h]; exact Or.inl rfl
  · exact Or.inl (qw_n ht)
theorem qr_turn (tok : Int32) (wd : Int64) : F_r_isTurn tok wd = F_r_isWord tok wd 677454 := by
  rw [F_r_isTurn_s]
  simp only [qS_turn]
  rcases qw_01 tok wd 677454 with h | h
  · rw [if_pos h, h]
  · rw [if_neg (by rw [h]; decide), h]
theorem qr_stop (tok : Int32) (wd : Int64) : F_r_isStop tok wd = F_r_isWord tok wd 643568 := by
  rw [F_r_isStop_s]
  simp only [qS_stop]
  rcases qw_01 tok wd 643568 with h | h
  · rw [if_pos h, h]
  · rw [if_neg (by rw [h]; decide), h]
theorem qr_when (tok : Int32) (wd : Int64) : F_r_isWhen tok wd = F_r_isWord tok wd 762030 := by
  rw [F_r_isWhen_s]
  simp only [qS_when]
  rcases qw_01 tok wd 762030 with h | h
  · rw [if_pos h, h]
  · rw [if_neg (by rw [h]; decide), h]
theorem qr_loop (tok : Int32) (wd : Int64) : F_r_isLoop tok wd = F_r_isWord tok wd 409072 := by
  rw [F_r_isLoop_s]
  simp only [qS_loop]
  rcases qw_01 tok wd 409072 with h | h
  · rw [if_pos h, h]
  · rw [if_neg (by rw [h]; decide), h]
theorem qr_end (tok : Int32) (wd : Int64) : F_r_isEnd tok wd = F_r_isWord tok wd 5572 := by
  rw [F_r_isEnd_s]
  simp only [qS_end]
  rcases qw_01 tok wd 5572 with h | h
  · rw [if_pos h, h]
  · rw [if_neg (by rw [h]; decide), h]
theorem qr_felt (tok : Int32) (wd : Int64) : F_r_isFelt tok wd = F_r_isWord tok wd 202132 := by
  rw [F_r_isFelt_s]
  simp only [qS_felt]
  rcases qw_01 tok wd 202132 with h | h
  · rw [if_pos h, h]
  · rw [if_neg (by rw [h]; decide), h]
theorem qr_sure (tok : Int32) (wd : Int64) : F_r_isSure tok wd = F_r_isWord tok wd 644677 := by
  rw [F_r_isSure_s]
  simp only [qS_sure]
  rcases qw_01 tok wd 644677 with h | h
  · rw [if_pos h, h]
  · rw [if_neg (by rw [h]; decide), h]
theorem qr_tried (tok : Int32) (wd : Int64) : F_r_isTried tok wd = F_r_isWord tok wd 21570724 := by
  rw [F_r_isTried_s]
  simp only [qS_tried]
  rcases qw_01 tok wd 21570724 with h | h
  · rw [if_pos h, h]
  · rw [if_neg (by rw [h]; decide), h]
theorem qi_30 {n : Int32} {T : Nat → Int32} {tok a b num lt : Int32} {wd : Int64} {cs cn : Int32} {cl : Int64} (hn : n.toInt ≤ 900) (h : qTk n T tok a b num lt wd cs cn cl) : F_Te_is n tok a b T 30 = F_r_isEnd tok wd := by
  rw [q_isw qG_30 hn h, qr_end]
theorem qi_31 {n : Int32} {T : Nat → Int32} {tok a b num lt : Int32} {wd : Int64} {cs cn : Int32} {cl : Int64} (hn : n.toInt ≤ 900) (h : qTk n T tok a b num lt wd cs cn cl) : F_Te_is n tok a b T 31 = F_r_isLoop tok wd := by
  rw [q_isw qG_31 hn h, qr_loop]
theorem qi_32 {n : Int32} {T : Nat → Int32} {tok a b num lt : Int32} {wd : Int64} {cs cn : Int32} {cl : Int64} (hn : n.toInt ≤ 900) (h : qTk n T tok a b num lt wd cs cn cl) : F_Te_is n tok a b T 32 = F_r_isWhen tok wd := by
  rw [q_isw qG_32 hn h, qr_when]
theorem qi_36 {n : Int32} {T : Nat → Int32} {tok a b num lt : Int32} {wd : Int64} {cs cn : Int32} {cl : Int64} (hn : n.toInt ≤ 900) (h : qTk n T tok a b num lt wd cs cn cl) : F_Te_is n tok a b T 36 = F_r_isTurn tok wd := by
  rw [q_isw qG_36 hn h, qr_turn]
theorem qi_38 {n : Int32} {T : Nat → Int32} {tok a b num lt : Int32} {wd : Int64} {cs cn : Int32} {cl : Int64} (hn : n.toInt ≤ 900) (h : qTk n T tok a b num lt wd cs cn cl) : F_Te_is n tok a b T 38 = F_r_isStop tok wd := by
  rw [q_isw qG_38 hn h, qr_stop]
theorem qi_39 {n : Int32} {T : Nat → Int32} {tok a b num lt : Int32} {wd : Int64} {cs cn : Int32} {cl : Int64} (hn : n.toInt ≤ 900) (h : qTk n T tok a b num lt wd cs cn cl) : F_Te_is n tok a b T 39 = F_r_isFelt tok wd := by
  rw [q_isw qG_39 hn h, qr_felt]
theorem qi_40 {n : Int32} {T : Nat → Int32} {tok a b num lt : Int32} {wd : Int64} {cs cn : Int32} {cl : Int64} (hn : n.toInt ≤ 900) (h : qTk n T tok a b num lt wd cs cn cl) : F_Te_is n tok a b T 40 = F_r_isTried tok wd := by
  rw [q_isw qG_40 hn h, qr_tried]
theorem qi_41 {n : Int32} {T : Nat → Int32} {tok a b num lt : Int32} {wd : Int64} {cs cn : Int32} {cl : Int64} (hn : n.toInt ≤ 900) (h : qTk n T tok a b num lt wd cs cn cl) : F_Te_is n tok a b T 41 = F_r_isSure tok wd := by
  rw [q_isw qG_41 hn h, qr_sure]
theorem q_name {n : Int32} {T : Nat → Int32} {tok a b num lt : Int32} {wd : Int64} {cs cn : Int32} {cl : Int64} (hn : n.toInt ≤ 900) (h : qTk n T tok a b num lt wd cs cn cl) : F_Te_isName n tok a b cl T = F_r_isHouseName tok lt wd := by
  rw [F_Te_isName_s, F_r_isHouseName_s]
  by_cases ht : tok = 1
  · have hc : lg_cmp cl 0 = 0 ↔ 8 < lt := by
      rw [lg_cmp_eq, q_lt, q8]
      obtain ⟨h1, h2, h3, h4⟩ := h.2.2.2.2.2.2.2.2 ht
      rcases h4 with ⟨h5, h6, h7⟩ | ⟨h5, h6, h7⟩
      · have h8 := (qe_b _ h3).2.2 (by omega)
        refine ⟨fun h9 => ?_, fun h9 => absurd h9 (by omega)⟩
        rw [← h6, h9, show (0 : Int64).toInt = 0 by decide +kernel] at h7
        omega
      · exact ⟨fun _ => h5, fun _ => h6⟩
    simp only [qi_1 hn h, qi_2 hn h, qi_3 hn h, qi_4 hn h, qi_5 hn h, qi_6 hn h, qi_7 hn h, qi_8 hn h, qi_9 hn h, qi_10 hn h, qi_11 hn h, qi_12 hn h, qi_13 hn h, qi_14 hn h, qi_15 hn h, hc]
    simp only [ht, ↓reduceIte]
    by_cases h8 : 8 < lt
    · simp only [h8, ↓reduceIte]
    · simp only [h8, ↓reduceIte]
      have hr := qh_r 1 wd
      rcases qh 1 wd with ⟨-, -, hw⟩ | ⟨-, -, hw⟩ | ⟨-, -, hw⟩ | ⟨-, -, hw⟩ | ⟨-, -, hw⟩ | ⟨-, -, hw⟩ | ⟨-, -, hw⟩ | ⟨-, -, hw⟩ | ⟨-, -, hw⟩ | ⟨-, -, hw⟩ | ⟨-, -, hw⟩ | ⟨-, -, hw⟩ | ⟨-, -, hw⟩ | ⟨-, -, hw⟩ | ⟨-, -, hw⟩ | ⟨-, hw⟩ | ⟨-, hw⟩ <;> rw [hw] <;> decide +kernel
  · simp only [ht, ↓reduceIte]
