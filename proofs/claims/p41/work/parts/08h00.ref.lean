def zHF (g g' : Nat → Int32) : Prop := ∀ j : Nat, j < 1460 → ¬ (j = 10 ∨ (95 ≤ j ∧ j < 128) ∨ (150 ≤ j ∧ j < 365)) → g' j = g j
theorem zHF_refl (g : Nat → Int32) : zHF g g := fun _ _ _ => rfl
theorem zHF_trans {g g1 g2 : Nat → Int32} (h : zHF g g1) (h' : zHF g1 g2) : zHF g g2 := fun j hj hk => (h' j hj hk).trans (h j hj hk)
theorem zHF_PF {g g1 : Nat → Int32} (h : zPF g g1) : zHF g g1 := fun j hj hk => h j (by omega)
theorem zHF_10 {g g1 : Nat → Int32} (h : ∀ j, j ≠ 10 → g1 j = g j) : zHF g g1 := fun j hj hk => h j (by omega)
theorem zHF_upd {g g1 g2 : Nat → Int32} (h : zHF g g1) {i v : Int32} (he : g2 = upd g1 i.toNatClampNeg v) {a b : Int} (hd : (10 ≤ a ∧ b ≤ 10) ∨ (95 ≤ a ∧ b ≤ 127) ∨ (150 ≤ a ∧ b ≤ 364) ∨ 1460 ≤ a) (h1 : a ≤ i.toInt) (h2 : i.toInt ≤ b) : zHF g g2 := fun j hj hk => by
  have hc : (i.toNatClampNeg : Int) = i.toInt := by rw [Int32.toNatClampNeg, Int.toNat_of_nonneg (by omega)]
  rw [he]; unfold upd; rw [if_neg (by omega)]; exact h j hj hk
def zHG (g g' : Nat → Int32) : Prop := ∀ j : Nat, j < 1460 → ¬ (j = 10 ∨ (160 ≤ j ∧ j < 365)) → g' j = g j
theorem zHG_refl (g : Nat → Int32) : zHG g g := fun _ _ _ => rfl
theorem zHG_trans {g g1 g2 : Nat → Int32} (h : zHG g g1) (h' : zHG g1 g2) : zHG g g2 := fun j hj hk => (h' j hj hk).trans (h j hj hk)
theorem zHG_PF {g g1 : Nat → Int32} (h : zPF g g1) : zHG g g1 := fun j hj hk => h j (by omega)
theorem zHG_10 {g g1 : Nat → Int32} (h : ∀ j, j ≠ 10 → g1 j = g j) : zHG g g1 := fun j hj hk => h j (by omega)
theorem zHF_HG {g g1 : Nat → Int32} (h : zHG g g1) : zHF g g1 := fun j hj hk => h j hj (by omega)
theorem zHG_upd {g g1 g2 : Nat → Int32} (h : zHG g g1) {i v : Int32} (he : g2 = upd g1 i.toNatClampNeg v) {a b : Int} (hd : (10 ≤ a ∧ b ≤ 10) ∨ (160 ≤ a ∧ b ≤ 364) ∨ 1460 ≤ a) (h1 : a ≤ i.toInt) (h2 : i.toInt ≤ b) : zHG g g2 := fun j hj hk => by
  have hc : (i.toNatClampNeg : Int) = i.toInt := by rw [Int32.toNatClampNeg, Int.toNat_of_nonneg (by omega)]
  rw [he]; unfold upd; rw [if_neg (by omega)]; exact h j hj hk
/-- the same KEYS on each RING, perhaps in another order; the same are LENT -/
def zPm (o g : Nat → Int32) : Prop := (∀ j : Nat, j < 3 → g (95 + j) = o (95 + j)) ∧ (∀ k : Nat, k < 10 → g (150 + k) = o (150 + k)) ∧ ∀ q v : Nat, q < 3 → v ≤ 10 → o (95 + q) = nI v → List.Perm (qRw v g (98 + 10 * q)) (qRw v o (98 + 10 * q))
theorem zPm_refl (g : Nat → Int32) : zPm g g := ⟨fun _ _ => rfl, fun _ _ => rfl, fun _ _ _ _ _ => List.Perm.refl _⟩
theorem zPm_same {o g : Nat → Int32} (h : ∀ j : Nat, 95 ≤ j → j < 160 → g j = o j) : zPm o g := ⟨fun j hj => h _ (by omega) (by omega), fun j hj => h _ (by omega) (by omega), fun q v h1 h2 _ => by
  rw [qRw_c (v := v) (on := o) (on2 := g) (b := 98 + 10 * q) (b2 := 98 + 10 * q) (fun i hi => h _ (by omega) (by omega))]⟩
theorem zPm_like {o g : Nat → Int32} {r : Int} (h : zLike o g r) (h0 : 0 ≤ r) (h2 : r ≤ 2) (hT : zCt o) : zPm o g := by
  have hs := hT (95 + r.toNat) (by omega)
  have hz := zC_size hT (r := r.toNat) (by omega)
  refine ⟨fun j hj => h _ (by omega), fun j hj => h _ (by omega), fun q v h1 h3 hv => ?_⟩
  rw [qRw_c (v := v) (on := o) (on2 := g) (b := 98 + 10 * q) (b2 := 98 + 10 * q) (fun i hi => h _ (fun hk => ?_))]
  by_cases e : q = r.toNat
  · rw [← e, hv, nI_toInt (by omega)] at hk
    omega
  · omega
theorem q_subP {T : Type} [DecidableEq T] : ∀ (B A : List T), B.Nodup → (∀ x, x ∈ B → x ∈ A) → A.length ≤ B.length → List.Perm B A := by
  intro B
  induction B with
  | nil => intro A _ _ h3; rw [List.length_eq_zero_iff.mp (Nat.le_zero.mp h3)]
  | cons b B ih =>
    intro A h1 h2 h3
    obtain ⟨n1, n2⟩ := List.nodup_cons.mp h1
    have hb : b ∈ A := h2 b List.mem_cons_self
    have hp := List.perm_cons_erase hb
    refine List.Perm.trans (List.Perm.cons b (ih (A.erase b) n2 (fun x hx => ?_) ?_)) hp.symm
    · exact (List.mem_erase_of_ne (fun e => n1 (by rw [← e]; exact hx))).mpr (h2 x (List.mem_cons_of_mem _ hx))
    · rw [List.length_erase_of_mem hb]
      rw [List.length_cons] at h3
      omega
theorem qRw_nd {v : Nat} {on : Nat → Int32} {b : Nat} (h : ∀ i j : Nat, i < j → j < v → on (b + i) ≠ on (b + j)) : (qRw v on b).Nodup := List.pairwise_map.mpr (List.Pairwise.imp_of_mem (fun _ hj hij => h _ _ hij (List.mem_range.mp hj)) List.pairwise_lt_range)
def zLm (o : Nat → Int32) (N : Nat → Int64) (r t i : Int) : Prop := ∀ j : Nat, (j : Int) < i → ∃ q : Nat, (q : Int) < (o (95 + r.toNat)).toInt ∧ (o (98 + 10 * r.toNat + q)).toInt = (N (60 * t.toNat + j)).toInt
theorem zLm_0 {o : Nat → Int32} {N : Nat → Int64} {r t : Int} : zLm o N r t (0 : Int32).toInt := by
  have e : (0 : Int32).toInt = 0 := by decide +kernel
  intro j hj
  omega
theorem zLm_step {o : Nat → Int32} {N : Nat → Int64} {r t i k q : Int} (h : zLm o N r t i) {x : Int64} {a : Nat} (hx : x = N a) (ha : (a : Int) = 60 * t + i) (h0 : 0 ≤ t) (h1 : 0 ≤ i) (hro : zRO o k q) (hk : k = x.toInt) (hq : q = r) (hr : 0 ≤ r) : zLm o N r t (i + 1) := by
  intro j hj
  by_cases c : (j : Int) < i
  · exact h j c
  · subst hq
    rcases hro with ⟨h3, -⟩ | ⟨-, -, p, h4, h5, -⟩
    · omega
    · refine ⟨p, h4, ?_⟩
      rw [h5, hk, hx, show 60 * t.toNat + j = a by omega]
theorem zPm_lay {o g g' : Nat → Int32} {N : Nat → Int64} {K r t n : Int} (hZ : zC o) (hlw : zLw o g N r t n) (hly : zLy N K t n) (hlm : zLm o N r t n) (hn : n = (o (95 + r.toNat)).toInt) (h0 : 0 ≤ r) (h2 : r ≤ 2) (hg : ∀ j, j ≠ 10 → g' j = g j) : zPm o g' := by
  have hz := hZ.1 (95 + r.toNat) (by omega)
  have ht := zck_at (a := 95) (b := 97) (lo := 0) (hi := 10) (by decide +kernel) (j := 95 + r.toNat) (by omega) (by omega)
  have h10 : n ≤ 10 := by omega
  have hsm : ∀ j : Nat, ¬ (98 + 10 * r ≤ (j : Int) ∧ (j : Int) < 98 + 10 * r + n) → ¬ j = 10 → g' j = o j := fun j h1 h3 => (hg j h3).trans (hlw.2 j h1)
  refine ⟨fun j hj => hsm _ (by omega) (by omega), fun k hk => hsm _ (fun h9 => ?_) (by omega), fun q v h1 h3 hv => ?_⟩
  · have hv9 : n ≤ 10 ∨ 10 < n := by omega
    rcases hv9 with h8 | h8
    · omega
    · omega
  · by_cases e : q = r.toNat
    · rw [← e, hv, nI_toInt (by omega)] at hn
      have hr : r = (q : Int) := by omega
      subst hr
      subst hn
      have key : ∀ i : Nat, i < v → (g' (98 + 10 * q + i)).toInt = (N (60 * t.toNat + i)).toInt := fun i hi => by
        rw [hg _ (by omega)]
        exact hlw.1 i (by omega)
      refine q_subP _ _ (qRw_nd (fun i j h4 h5 h6 => ?_)) (fun x hx => ?_) (by rw [qRw_len, qRw_len]; omega)
      · exact hly.2 i j h4 (by omega) (by rw [← key i (by omega), ← key j h5, h6])
      · obtain ⟨i, h4, h5⟩ := qRw_mem.mp hx
        obtain ⟨p, h6, h7⟩ := hlm i (by omega)
        rw [show ((q : Int)).toNat = q by omega] at h6 h7
        rw [hv, nI_toInt (by omega)] at h6
        exact qRw_mem.mpr ⟨p, by omega, by rw [← h5]; exact Int32.toInt_inj.mp (h7.trans (key i h4).symm)⟩
    · rw [qRw_c (v := v) (on := o) (on2 := g') (b := 98 + 10 * q) (b2 := 98 + 10 * q) (fun i hi => hsm _ (fun h9 => ?_) (by omega))]
      omega
set_option maxHeartbeats 4000000 in
set_option maxRecDepth 100000 in
theorem r_status (l : Launch) (G : va_G) (cA : zCA) (h0 : Nat) (m_status : Int32) (m_thrown : Int32) (m_above : Int64) (m_under : Int64) (a_traySort : Nat) (a_trayMany : Nat) (a_numbers : Nat) (a_tape : Nat) (m_taped : Int32) (m_textEnd : Int32) (m_faultKind : Int32) (m_faultAt : Int32) (m_bad : Int32) (m_badAt : Int32) (m_token : Int32) (m_at : Int32) (m_behind : Int32) (m_number : Int32) (m_letters : Int32) (m_word : Int64) (a_c : Nat) (a_words : Nat) (m_markMany : Int32) (a_there : Nat) (a_tried : Nat) (a_best : Nat) (a_found : Nat) (m_thereMany : Int32) (m_foundMany : Int32) (m_orderHow : Int32) (m_orderRing : Int32) (m_orderMany : Int32) (m_hasBest : Int32) (m_bestTop : Int64) (m_bestBy : Int64) (a_weights : Nat) (a_shared : Nat) (m_random : Int32) (m_truePlace : Int32) (m_trueWay : Int32) (m_seconds : Int32) (m_done : Int32) (m_feelings : Int32) (m_tries : Int32) (m_leftOver : Int32) (m_playDoor : Int32) (m_playRing : Int32) (m_isOpen : Int32) (m_isOver : Int32) (m_wasTried : Int32) (m_hasPlayed : Int32) (a_feltNow : Nat) (a_last : Nat) (a_kept : Nat) (m_hasSeconds : Int32) (m_hasTurned : Int32) (m_hasRound : Int32) (a_hasFeels : Nat) (a_isOn : Nat) (m_firstAct : Int32) (m_meanTop : Int64) (m_meanBy : Int64) (a_order : Nat) (m_rowMany : Int32) (m_newSteps : Int32) : zCi l yX12_status cX12_status 1 (some .int) ({ frames := 0, cells := 0, slots := 0, locals := 0 }) G cA [.ref h0] [(h0, .inr (12, [.int m_status, .int m_thrown, .long m_above, .long m_under, .ref a_traySort, .ref a_trayMany, .ref a_numbers, .ref a_tape, .int m_taped, .int m_textEnd, .int m_faultKind, .int m_faultAt, .int m_bad, .int m_badAt, .int m_token, .int m_at, .int m_behind, .int m_number, .int m_letters, .long m_word, .ref a_c, .ref a_words, .int m_markMany, .ref a_there, .ref a_tried, .ref a_best, .ref a_found, .int m_thereMany, .int m_foundMany, .int m_orderHow, .int m_orderRing, .int m_orderMany, .int m_hasBest, .long m_bestTop, .long m_bestBy, .ref a_weights, .ref a_shared, .int m_random, .int m_truePlace, .int m_trueWay, .int m_seconds, .int m_done, .int m_feelings, .int m_tries, .int m_leftOver, .int m_playDoor, .int m_playRing, .int m_isOpen, .int m_isOver, .int m_wasTried, .int m_hasPlayed, .ref a_feltNow, .ref a_last, .ref a_kept, .int m_hasSeconds, .int m_hasTurned, .int m_hasRound, .ref a_hasFeels, .ref a_isOn, .int m_firstAct, .long m_meanTop, .long m_meanBy, .ref a_order, .int m_rowMany, .int m_newSteps]))] (S := Int32) (fun (r : Int32) (u : Int32) => (0 ≤ u.toInt ∧ u.toInt ≤ 0)) (fun (u : Int32) => [(h0, .inr (12, [.int m_status, .int u, .long m_above, .long m_under, .ref a_traySort, .ref a_trayMany, .ref a_numbers, .ref a_tape, .int m_taped, .int m_textEnd, .int m_faultKind, .int m_faultAt, .int m_bad, .int m_badAt, .int m_token, .int m_at, .int m_behind, .int m_number, .int m_letters, .long m_word, .ref a_c, .ref a_words, .int m_markMany, .ref a_there, .ref a_tried, .ref a_best, .ref a_found, .int m_thereMany, .int m_foundMany, .int m_orderHow, .int m_orderRing, .int m_orderMany, .int m_hasBest, .long m_bestTop, .long m_bestBy, .ref a_weights, .ref a_shared, .int m_random, .int m_truePlace, .int m_trueWay, .int m_seconds, .int m_done, .int m_feelings, .int m_tries, .int m_leftOver, .int m_playDoor, .int m_playRing, .int m_isOpen, .int m_isOver, .int m_wasTried, .int m_hasPlayed, .ref a_feltNow, .ref a_last, .ref a_kept, .int m_hasSeconds, .int m_hasTurned, .int m_hasRound, .ref a_hasFeels, .ref a_isOn, .int m_firstAct, .long m_meanTop, .long m_meanBy, .ref a_order, .int m_rowMany, .int m_newSteps]))]) 0 0 := by
  refine z_start2i (own := RX12) (by decide) (Nat.le_of_ble_eq_true rfl) rfl ?_
  intro p e s m args below meth c A ls Q hx hb hml hts hown hK hE hT hP hD hS hA hl hret
  have hl : lv_has ls 1 [(0, .ref h0)] := hl
  refine lv_aload_n hx hb dX12_status_0 rfl (lv_at hl 0 rfl) ?_
  refine lv_iconst (v := 0) hx hb dX12_status_1 (by decide) ?_
  refine va_put (D := G) (ci := 12) (v := .int 0) (ty := .int) (C := RX12) (T := TX12) (N := 65) hx hb hts inT12 tyX12 tyX12_ok nmX12 hown hK hP hD hS 0 rfl rfl 1 (by decide) (hts _ tw_1886) (fun _ h9 => h9) rfl (tyX12_ok 1 (by decide)) rfl rfl (Nat.le_of_ble_eq_true rfl) dX12_status_2 (fun H locs hP hD hS => ?_)
  refine lv_aload_n hx hb dX12_status_5 rfl (lv_at hl 0 rfl) ?_
  refine va_get (D := G) (ci := 12) (v := .int m_status) (C := RX12) (T := TX12) (N := 65) hx hb hts inT12 hown hK hP 0 rfl rfl 0 (by decide) (hts _ tw_1885) (fun _ h9 => h9) rfl dX12_status_6 ?_
  have hpost : (0 ≤ (0 : Int32).toInt ∧ (0 : Int32).toInt ≤ 0) := (by decide +kernel)
  exact hret _ _ _ _ _ _ 0 [0] hP hD hS rfl (by decide) dX12_status_9 hpost
set_option maxHeartbeats 4000000 in
set_option maxRecDepth 100000 in
theorem r_top (l : Launch) (G : va_G) (cA : zCA) (h0 : Nat) (m_status : Int32) (m_thrown : Int32) (m_above : Int64) (m_under : Int64) (a_traySort : Nat) (a_trayMany : Nat) (a_numbers : Nat) (a_tape : Nat) (m_taped : Int32) (m_textEnd : Int32) (m_faultKind : Int32) (m_faultAt : Int32) (m_bad : Int32) (m_badAt : Int32) (m_token : Int32) (m_at : Int32) (m_behind : Int32) (m_number : Int32) (m_letters : Int32) (m_word : Int64) (a_c : Nat) (a_words : Nat) (m_markMany : Int32) (a_there : Nat) (a_tried : Nat) (a_best : Nat) (a_found : Nat) (m_thereMany : Int32) (m_foundMany : Int32) (m_orderHow : Int32) (m_orderRing : Int32) (m_orderMany : Int32) (m_hasBest : Int32) (m_bestTop : Int64) (m_bestBy : Int64) (a_weights : Nat) (a_shared : Nat) (m_random : Int32) (m_truePlace : Int32) (m_trueWay : Int32) (m_seconds : Int32) (m_done : Int32) (m_feelings : Int32) (m_tries : Int32) (m_leftOver : Int32) (m_playDoor : Int32) (m_playRing : Int32) (m_isOpen : Int32) (m_isOver : Int32) (m_wasTried : Int32) (m_hasPlayed : Int32) (a_feltNow : Nat) (a_last : Nat) (a_kept : Nat) (m_hasSeconds : Int32) (m_hasTurned : Int32) (m_hasRound : Int32) (a_hasFeels : Nat) (a_isOn : Nat) (m_firstAct : Int32) (m_meanTop : Int64) (m_meanBy : Int64) (a_order : Nat) (m_rowMany : Int32) (m_newSteps : Int32) : zCl l yX12_top cX12_top 1 (some .long) ({ frames := 0, cells := 0, slots := 0, locals := 0 }) G cA [.ref h0] [(h0, .inr (12, [.int m_status, .int m_thrown, .long m_above, .long m_under, .ref a_traySort, .ref a_trayMany, .ref a_numbers, .ref a_tape, .int m_taped, .int m_textEnd, .int m_faultKind, .int m_faultAt, .int m_bad, .int m_badAt, .int m_token, .int m_at, .int m_behind, .int m_number, .int m_letters, .long m_word, .ref a_c, .ref a_words, .int m_markMany, .ref a_there, .ref a_tried, .ref a_best, .ref a_found, .int m_thereMany, .int m_foundMany, .int m_orderHow, .int m_orderRing, .int m_orderMany, .int m_hasBest, .long m_bestTop, .long m_bestBy, .ref a_weights, .ref a_shared, .int m_random, .int m_truePlace, .int m_trueWay, .int m_seconds, .int m_done, .int m_feelings, .int m_tries, .int m_leftOver, .int m_playDoor, .int m_playRing, .int m_isOpen, .int m_isOver, .int m_wasTried, .int m_hasPlayed, .ref a_feltNow, .ref a_last, .ref a_kept, .int m_hasSeconds, .int m_hasTurned, .int m_hasRound, .ref a_hasFeels, .ref a_isOn, .int m_firstAct, .long m_meanTop, .long m_meanBy, .ref a_order, .int m_rowMany, .int m_newSteps]))] (S := Int32) (fun (r : Int64) (u : Int32) => (0 ≤ u.toInt ∧ u.toInt ≤ 0)) (fun (u : Int32) => [(h0, .inr (12, [.int m_status, .int u, .long m_above, .long m_under, .ref a_traySort, .ref a_trayMany, .ref a_numbers, .ref a_tape, .int m_taped, .int m_textEnd, .int m_faultKind, .int m_faultAt, .int m_bad, .int m_badAt, .int m_token, .int m_at, .int m_behind, .int m_number, .int m_letters, .long m_word, .ref a_c, .ref a_words, .int m_markMany, .ref a_there, .ref a_tried, .ref a_best, .ref a_found, .int m_thereMany, .int m_foundMany, .int m_orderHow, .int m_orderRing, .int m_orderMany, .int m_hasBest, .long m_bestTop, .long m_bestBy, .ref a_weights, .ref a_shared, .int m_random, .int m_truePlace, .int m_trueWay, .int m_seconds, .int m_done, .int m_feelings, .int m_tries, .int m_leftOver, .int m_playDoor, .int m_playRing, .int m_isOpen, .int m_isOver, .int m_wasTried, .int m_hasPlayed, .ref a_feltNow, .ref a_last, .ref a_kept, .int m_hasSeconds, .int m_hasTurned, .int m_hasRound, .ref a_hasFeels, .ref a_isOn, .int m_firstAct, .long m_meanTop, .long m_meanBy, .ref a_order, .int m_rowMany, .int m_newSteps]))]) 0 0 := by
  refine z_start2l (own := RX12) (by decide) (Nat.le_of_ble_eq_true rfl) rfl ?_
  intro p e s m args below meth c A ls Q hx hb hml hts hown hK hE hT hP hD hS hA hl hret
  have hl : lv_has ls 1 [(0, .ref h0)] := hl
  refine lv_aload_n hx hb dX12_top_0 rfl (lv_at hl 0 rfl) ?_
  refine lv_iconst (v := 0) hx hb dX12_top_1 (by decide) ?_
  refine va_put (D := G) (ci := 12) (v := .int 0) (ty := .int) (C := RX12) (T := TX12) (N := 65) hx hb hts inT12 tyX12 tyX12_ok nmX12 hown hK hP hD hS 0 rfl rfl 1 (by decide) (hts _ tw_1886) (fun _ h9 => h9) rfl (tyX12_ok 1 (by decide)) rfl rfl (Nat.le_of_ble_eq_true rfl) dX12_top_2 (fun H locs hP hD hS => ?_)
  refine lv_aload_n hx hb dX12_top_5 rfl (lv_at hl 0 rfl) ?_
  refine va_get (D := G) (ci := 12) (v := .long m_above) (C := RX12) (T := TX12) (N := 65) hx hb hts inT12 hown hK hP 0 rfl rfl 2 (by decide) (hts _ tw_1887) (fun _ h9 => h9) rfl dX12_top_6 ?_
  have hpost : (0 ≤ (0 : Int32).toInt ∧ (0 : Int32).toInt ≤ 0) := (by decide +kernel)
  exact hret _ _ _ _ _ _ 0 [0] hP hD hS rfl (by decide) dX12_top_9 hpost
set_option maxHeartbeats 4000000 in
set_option maxRecDepth 100000 in
theorem r_bottom (l : Launch) (G : va_G) (cA : zCA) (h0 : Nat) (m_status : Int32) (m_thrown : Int32) (m_above : Int64) (m_under : Int64) (a_traySort : Nat) (a_trayMany : Nat) (a_numbers : Nat) (a_tape : Nat) (m_taped : Int32) (m_textEnd : Int32) (m_faultKind : Int32) (m_faultAt : Int32) (m_bad : Int32) (m_badAt : Int32) (m_token : Int32) (m_at : Int32) (m_behind : Int32) (m_number : Int32) (m_letters : Int32) (m_word : Int64) (a_c : Nat) (a_words : Nat) (m_markMany : Int32) (a_there : Nat) (a_tried : Nat) (a_best : Nat) (a_found : Nat) (m_thereMany : Int32) (m_foundMany : Int32) (m_orderHow : Int32) (m_orderRing : Int32) (m_orderMany : Int32) (m_hasBest : Int32) (m_bestTop : Int64) (m_bestBy : Int64) (a_weights : Nat) (a_shared : Nat) (m_random : Int32) (m_truePlace : Int32) (m_trueWay : Int32) (m_seconds : Int32) (m_done : Int32) (m_feelings : Int32) (m_tries : Int32) (m_leftOver : Int32) (m_playDoor : Int32) (m_playRing : Int32) (m_isOpen : Int32) (m_isOver : Int32) (m_wasTried : Int32) (m_hasPlayed : Int32) (a_feltNow : Nat) (a_last : Nat) (a_kept : Nat) (m_hasSeconds : Int32) (m_hasTurned : Int32) (m_hasRound : Int32) (a_hasFeels : Nat) (a_isOn : Nat) (m_firstAct : Int32) (m_meanTop : Int64) (m_meanBy : Int64) (a_order : Nat) (m_rowMany : Int32) (m_newSteps : Int32) : zCl l yX12_bottom cX12_bottom 1 (some .long) ({ frames := 0, cells := 0, slots := 0, locals := 0 }) G cA [.ref h0] [(h0, .inr (12, [.int m_status, .int m_thrown, .long m_above, .long m_under, .ref a_traySort, .ref a_trayMany, .ref a_numbers, .ref a_tape, .int m_taped, .int m_textEnd, .int m_faultKind, .int m_faultAt, .int m_bad, .int m_badAt, .int m_token, .int m_at, .int m_behind, .int m_number, .int m_letters, .long m_word, .ref a_c, .ref a_words, .int m_markMany, .ref a_there, .ref a_tried, .ref a_best, .ref a_found, .int m_thereMany, .int m_foundMany, .int m_orderHow, .int m_orderRing, .int m_orderMany, .int m_hasBest, .long m_bestTop, .long m_bestBy, .ref a_weights, .ref a_shared, .int m_random, .int m_truePlace, .int m_trueWay, .int m_seconds, .int m_done, .int m_feelings, .int m_tries, .int m_leftOver, .int m_playDoor, .int m_playRing, .int m_isOpen, .int m_isOver, .int m_wasTried, .int m_hasPlayed, .ref a_feltNow, .ref a_last, .ref a_kept, .int m_hasSeconds, .int m_hasTurned, .int m_hasRound, .ref a_hasFeels, .ref a_isOn, .int m_firstAct, .long m_meanTop, .long m_meanBy, .ref a_order, .int m_rowMany, .int m_newSteps]))] (S := Int32) (fun (r : Int64) (u : Int32) => (0 ≤ u.toInt ∧ u.toInt ≤ 0)) (fun (u : Int32) => [(h0, .inr (12, [.int m_status, .int u, .long m_above, .long m_under, .ref a_traySort, .ref a_trayMany, .ref a_numbers, .ref a_tape, .int m_taped, .int m_textEnd, .int m_faultKind, .int m_faultAt, .int m_bad, .int m_badAt, .int m_token, .int m_at, .int m_behind, .int m_number, .int m_letters, .long m_word, .ref a_c, .ref a_words, .int m_markMany, .ref a_there, .ref a_tried, .ref a_best, .ref a_found, .int m_thereMany, .int m_foundMany, .int m_orderHow, .int m_orderRing, .int m_orderMany, .int m_hasBest, .long m_bestTop, .long m_bestBy, .ref a_weights, .ref a_shared, .int m_random, .int m_truePlace, .int m_trueWay, .int m_seconds, .int m_done, .int m_feelings, .int m_tries, .int m_leftOver, .int m_playDoor, .int m_playRing, .int m_isOpen, .int m_isOver, .int m_wasTried, .int m_hasPlayed, .ref a_feltNow, .ref a_last, .ref a_kept, .int m_hasSeconds, .int m_hasTurned, .int m_hasRound, .ref a_hasFeels, .ref a_isOn, .int m_firstAct, .long m_meanTop, .long m_meanBy, .ref a_order, .int m_rowMany, .int m_newSteps]))]) 0 0 := by
  refine z_start2l (own := RX12) (by decide) (Nat.le_of_ble_eq_true rfl) rfl ?_
  intro p e s m args below meth c A ls Q hx hb hml hts hown hK hE hT hP hD hS hA hl hret
  have hl : lv_has ls 1 [(0, .ref h0)] := hl
  refine lv_aload_n hx hb dX12_bottom_0 rfl (lv_at hl 0 rfl) ?_
  refine lv_iconst (v := 0) hx hb dX12_bottom_1 (by decide) ?_
  refine va_put (D := G) (ci := 12) (v := .int 0) (ty := .int) (C := RX12) (T := TX12) (N := 65) hx hb hts inT12 tyX12 tyX12_ok nmX12 hown hK hP hD hS 0 rfl rfl 1 (by decide) (hts _ tw_1886) (fun _ h9 => h9) rfl (tyX12_ok 1 (by decide)) rfl rfl (Nat.le_of_ble_eq_true rfl) dX12_bottom_2 (fun H locs hP hD hS => ?_)
  refine lv_aload_n hx hb dX12_bottom_5 rfl (lv_at hl 0 rfl) ?_
  refine va_get (D := G) (ci := 12) (v := .long m_under) (C := RX12) (T := TX12) (N := 65) hx hb hts inT12 hown hK hP 0 rfl rfl 3 (by decide) (hts _ tw_1888) (fun _ h9 => h9) rfl dX12_bottom_6 ?_
  have hpost : (0 ≤ (0 : Int32).toInt ∧ (0 : Int32).toInt ≤ 0) := (by decide +kernel)
  exact hret _ _ _ _ _ _ 0 [0] hP hD hS rfl (by decide) dX12_bottom_9 hpost
set_option maxHeartbeats 40000000 in
set_option maxRecDepth 100000 in
theorem r_refuse (l : Launch) (G : va_G) (cA : zCA) (h0 : Nat) (m_status : Int32) (m_thrown : Int32) (m_above : Int64) (m_under : Int64) (a_traySort : Nat) (a_trayMany : Nat) (a_numbers : Nat) (a_tape : Nat) (m_taped : Int32) (m_textEnd : Int32) (m_faultKind : Int32) (m_faultAt : Int32) (m_bad : Int32) (m_badAt : Int32) (m_token : Int32) (m_at : Int32) (m_behind : Int32) (m_number : Int32) (m_letters : Int32) (m_word : Int64) (a_c : Nat) (a_words : Nat) (m_markMany : Int32) (a_there : Nat) (a_tried : Nat) (a_best : Nat) (a_found : Nat) (m_thereMany : Int32) (m_foundMany : Int32) (m_orderHow : Int32) (m_orderRing : Int32) (m_orderMany : Int32) (m_hasBest : Int32) (m_bestTop : Int64) (m_bestBy : Int64) (a_weights : Nat) (a_shared : Nat) (m_random : Int32) (m_truePlace : Int32) (m_trueWay : Int32) (m_seconds : Int32) (m_done : Int32) (m_feelings : Int32) (m_tries : Int32) (m_leftOver : Int32) (m_playDoor : Int32) (m_playRing : Int32) (m_isOpen : Int32) (m_isOver : Int32) (m_wasTried : Int32) (m_hasPlayed : Int32) (a_feltNow : Nat) (a_last : Nat) (a_kept : Nat) (m_hasSeconds : Int32) (m_hasTurned : Int32) (m_hasRound : Int32) (a_hasFeels : Nat) (a_isOn : Nat) (m_firstAct : Int32) (m_meanTop : Int64) (m_meanBy : Int64) (a_order : Nat) (m_rowMany : Int32) (m_newSteps : Int32) (k : Int32) : zCi l yX12_refuse cX12_refuse 2 (some .int) ({ frames := 0, cells := 0, slots := 0, locals := 0 }) G cA [.ref h0, .int k] [(h0, .inr (12, [.int m_status, .int m_thrown, .long m_above, .long m_under, .ref a_traySort, .ref a_trayMany, .ref a_numbers, .ref a_tape, .int m_taped, .int m_textEnd, .int m_faultKind, .int m_faultAt, .int m_bad, .int m_badAt, .int m_token, .int m_at, .int m_behind, .int m_number, .int m_letters, .long m_word, .ref a_c, .ref a_words, .int m_markMany, .ref a_there, .ref a_tried, .ref a_best, .ref a_found, .int m_thereMany, .int m_foundMany, .int m_orderHow, .int m_orderRing, .int m_orderMany, .int m_hasBest, .long m_bestTop, .long m_bestBy, .ref a_weights, .ref a_shared, .int m_random, .int m_truePlace, .int m_trueWay, .int m_seconds, .int m_done, .int m_feelings, .int m_tries, .int m_leftOver, .int m_playDoor, .int m_playRing, .int m_isOpen, .int m_isOver, .int m_wasTried, .int m_hasPlayed, .ref a_feltNow, .ref a_last, .ref a_kept, .int m_hasSeconds, .int m_hasTurned, .int m_hasRound, .ref a_hasFeels, .ref a_isOn, .int m_firstAct, .long m_meanTop, .long m_meanBy, .ref a_order, .int m_rowMany, .int m_newSteps]))] (S := Int32) (fun (r : Int32) (u : Int32) => (r = (F_r_refuse k).1) ∧ (u = (F_r_refuse k).2) ∧ (((-1) ≤ r.toInt ∧ r.toInt ≤ (-1)))) (fun (u : Int32) => [(h0, .inr (12, [.int u, .int m_thrown, .long m_above, .long m_under, .ref a_traySort, .ref a_trayMany, .ref a_numbers, .ref a_tape, .int m_taped, .int m_textEnd, .int m_faultKind, .int m_faultAt, .int m_bad, .int m_badAt, .int m_token, .int m_at, .int m_behind, .int m_number, .int m_letters, .long m_word, .ref a_c, .ref a_words, .int m_markMany, .ref a_there, .ref a_tried, .ref a_best, .ref a_found, .int m_thereMany, .int m_foundMany, .int m_orderHow, .int m_orderRing, .int m_orderMany, .int m_hasBest, .long m_bestTop, .long m_bestBy, .ref a_weights, .ref a_shared, .int m_random, .int m_truePlace, .int m_trueWay, .int m_seconds, .int m_done, .int m_feelings, .int m_tries, .int m_leftOver, .int m_playDoor, .int m_playRing, .int m_isOpen, .int m_isOver, .int m_wasTried, .int m_hasPlayed, .ref a_feltNow, .ref a_last, .ref a_kept, .int m_hasSeconds, .int m_hasTurned, .int m_hasRound, .ref a_hasFeels, .ref a_isOn, .int m_firstAct, .long m_meanTop, .long m_meanBy, .ref a_order, .int m_rowMany, .int m_newSteps]))]) 0 0 := by
  refine z_start2i (own := RX12) (by decide) (Nat.le_of_ble_eq_true rfl) rfl ?_
  intro p e s m args below meth c A ls Q hx hb hml hts hown hK hE hT hP hD hS hA hl hret
  have hl : lv_has ls 2 [(0, .ref h0), (1, .int k)] := hl
  refine lv_aload_n hx hb dX12_refuse_0 rfl (lv_at hl 0 rfl) ?_
  refine lv_iload_n hx hb dX12_refuse_1 rfl (lv_at hl 1 rfl) ?_
  refine va_put (D := G) (ci := 12) (v := .int k) (ty := .int) (C := RX12) (T := TX12) (N := 65) hx hb hts inT12 tyX12 tyX12_ok nmX12 hown hK hP hD hS 0 rfl rfl 0 (by decide) (hts _ tw_1885) (fun _ h9 => h9) rfl (tyX12_ok 0 (by decide)) rfl rfl (Nat.le_of_ble_eq_true rfl) dX12_refuse_2 (fun H locs hP hD hS => ?_)
  refine lv_iconst (v := (-1)) hx hb dX12_refuse_5 (by decide) ?_
  have hpost : ((-1) ≤ ((-1) : Int32).toInt ∧ ((-1) : Int32).toInt ≤ (-1)) := (by decide +kernel)
  have hX_1 : F_r_refuse k = (((-1 : Int32), k) : Int32 × Int32) := by
    refine (F_r_refuse_s ..).trans ?_
    exact rfl
  exact hret _ _ _ _ _ _ k [0] hP hD hS rfl (by decide) dX12_refuse_6 ⟨(congrArg (fun z9 => z9.1) hX_1).symm, (congrArg (fun z9 => z9.2) hX_1).symm, hpost⟩
set_option maxHeartbeats 40000000 in
set_option maxRecDepth 100000 in
theorem r_no (l : Launch) (G : va_G) (cA : zCA) (h0 : Nat) (m_status : Int32) (m_thrown : Int32) (m_above : Int64) (m_under : Int64) (a_traySort : Nat) (a_trayMany : Nat) (a_numbers : Nat) (a_tape : Nat) (m_taped : Int32) (m_textEnd : Int32) (m_faultKind : Int32) (m_faultAt : Int32) (m_bad : Int32) (m_badAt : Int32) (m_token : Int32) (m_at : Int32) (m_behind : Int32) (m_number : Int32) (m_letters : Int32) (m_word : Int64) (a_c : Nat) (a_words : Nat) (m_markMany : Int32) (a_there : Nat) (a_tried : Nat) (a_best : Nat) (a_found : Nat) (m_thereMany : Int32) (m_foundMany : Int32) (m_orderHow : Int32) (m_orderRing : Int32) (m_orderMany : Int32) (m_hasBest : Int32) (m_bestTop : Int64) (m_bestBy : Int64) (a_weights : Nat) (a_shared : Nat) (m_random : Int32) (m_truePlace : Int32) (m_trueWay : Int32) (m_seconds : Int32) (m_done : Int32) (m_feelings : Int32) (m_tries : Int32) (m_leftOver : Int32) (m_playDoor : Int32) (m_playRing : Int32) (m_isOpen : Int32) (m_isOver : Int32) (m_wasTried : Int32) (m_hasPlayed : Int32) (a_feltNow : Nat) (a_last : Nat) (a_kept : Nat) (m_hasSeconds : Int32) (m_hasTurned : Int32) (m_hasRound : Int32) (a_hasFeels : Nat) (a_isOn : Nat) (m_firstAct : Int32) (m_meanTop : Int64) (m_meanBy : Int64) (a_order : Nat) (m_rowMany : Int32) (m_newSteps : Int32) (k : Int32) : zCi l yX12_no cX12_no 2 (some .boolean) ({ frames := 0, cells := 0, slots := 0, locals := 0 }) G cA [.ref h0, .int k] [(h0, .inr (12, [.int m_status, .int m_thrown, .long m_above, .long m_under, .ref a_traySort, .ref a_trayMany, .ref a_numbers, .ref a_tape, .int m_taped, .int m_textEnd, .int m_faultKind, .int m_faultAt, .int m_bad, .int m_badAt, .int m_token, .int m_at, .int m_behind, .int m_number, .int m_letters, .long m_word, .ref a_c, .ref a_words, .int m_markMany, .ref a_there, .ref a_tried, .ref a_best, .ref a_found, .int m_thereMany, .int m_foundMany, .int m_orderHow, .int m_orderRing, .int m_orderMany, .int m_hasBest, .long m_bestTop, .long m_bestBy, .ref a_weights, .ref a_shared, .int m_random, .int m_truePlace, .int m_trueWay, .int m_seconds, .int m_done, .int m_feelings, .int m_tries, .int m_leftOver, .int m_playDoor, .int m_playRing, .int m_isOpen, .int m_isOver, .int m_wasTried, .int m_hasPlayed, .ref a_feltNow, .ref a_last, .ref a_kept, .int m_hasSeconds, .int m_hasTurned, .int m_hasRound, .ref a_hasFeels, .ref a_isOn, .int m_firstAct, .long m_meanTop, .long m_meanBy, .ref a_order, .int m_rowMany, .int m_newSteps]))] (S := Int32) (fun (r : Int32) (u : Int32) => (r = (F_r_no k).1) ∧ (u = (F_r_no k).2) ∧ ((r = 0 ∧ True))) (fun (u : Int32) => [(h0, .inr (12, [.int u, .int m_thrown, .long m_above, .long m_under, .ref a_traySort, .ref a_trayMany, .ref a_numbers, .ref a_tape, .int m_taped, .int m_textEnd, .int m_faultKind, .int m_faultAt, .int m_bad, .int m_badAt, .int m_token, .int m_at, .int m_behind, .int m_number, .int m_letters, .long m_word, .ref a_c, .ref a_words, .int m_markMany, .ref a_there, .ref a_tried, .ref a_best, .ref a_found, .int m_thereMany, .int m_foundMany, .int m_orderHow, .int m_orderRing, .int m_orderMany, .int m_hasBest, .long m_bestTop, .long m_bestBy, .ref a_weights, .ref a_shared, .int m_random, .int m_truePlace, .int m_trueWay, .int m_seconds, .int m_done, .int m_feelings, .int m_tries, .int m_leftOver, .int m_playDoor, .int m_playRing, .int m_isOpen, .int m_isOver, .int m_wasTried, .int m_hasPlayed, .ref a_feltNow, .ref a_last, .ref a_kept, .int m_hasSeconds, .int m_hasTurned, .int m_hasRound, .ref a_hasFeels, .ref a_isOn, .int m_firstAct, .long m_meanTop, .long m_meanBy, .ref a_order, .int m_rowMany, .int m_newSteps]))]) 0 0 := by
  refine z_start2z (own := RX12) (by decide) (Nat.le_of_ble_eq_true rfl) rfl ?_
  intro p e s m args below meth c A ls Q hx hb hml hts hown hK hE hT hP hD hS hA hl hret
  have hl : lv_has ls 2 [(0, .ref h0), (1, .int k)] := hl
  refine lv_aload_n hx hb dX12_no_0 rfl (lv_at hl 0 rfl) ?_
  refine lv_iload_n hx hb dX12_no_1 rfl (lv_at hl 1 rfl) ?_
  refine va_put (D := G) (ci := 12) (v := .int k) (ty := .int) (C := RX12) (T := TX12) (N := 65) hx hb hts inT12 tyX12 tyX12_ok nmX12 hown hK hP hD hS 0 rfl rfl 0 (by decide) (hts _ tw_1885) (fun _ h9 => h9) rfl (tyX12_ok 0 (by decide)) rfl rfl (Nat.le_of_ble_eq_true rfl) dX12_no_2 (fun H locs hP hD hS => ?_)
  refine lv_iconst (v := 0) hx hb dX12_no_5 (by decide) ?_
  have hpost : ((0 : Int32) = 0 ∧ True) := ⟨rfl, trivial⟩
  have hX_1 : F_r_no k = (((0 : Int32), k) : Int32 × Int32) := by
    refine (F_r_no_s ..).trans ?_
    exact rfl
  exact hret _ _ _ _ _ _ k [0] hP hD hS rfl (by decide) dX12_no_6 (Or.inl rfl) ⟨(congrArg (fun z9 => z9.1) hX_1).symm, (congrArg (fun z9 => z9.2) hX_1).symm, hpost⟩
set_option maxHeartbeats 40000000 in
set_option maxRecDepth 100000 in
theorem r_isIn (l : Launch) (G : va_G) (cA : zCA) (x : Int64) (lo : Int64) (hi : Int64) : zCi l yX12_isIn cX12_isIn 6 (some .boolean) ({ frames := 0, cells := 0, slots := 0, locals := 0 }) G cA [.long x, .long lo, .long hi] [] (S := Unit) (fun (r : Int32) (u : Unit) => (r = (F_r_isIn x lo hi)) ∧ ((r = 0 ∧ (x.toInt < lo.toInt ∨ hi.toInt < x.toInt)) ∨ (r = 1 ∧ (lo.toInt ≤ x.toInt ∧ x.toInt ≤ hi.toInt)))) (fun (u : Unit) => []) 0 0 := by
  refine z_start2z (own := RX12) (by decide) (Nat.le_of_ble_eq_true rfl) rfl ?_
  intro p e s m args below meth c A ls Q hx hb hml hts hown hK hE hT hP hD hS hA hl hret
  have hl : lv_has ls 6 [(0, .long x), (2, .long lo), (4, .long hi)] := hl
  refine lv_lload_n hx hb dX12_isIn_0 rfl (lv_at hl 0 rfl) ?_
  refine lv_lload_n hx hb dX12_isIn_1 rfl (lv_at hl 1 rfl) ?_
  refine W.lcmp hx hb dX12_isIn_2 ?_
  refine lv_if_lt (tgt := 17) hx hb dX12_isIn_3 (by decide) (fun c_1 => ?_) (fun c_1 => ?_)
  · have b_2 := z_fltTl c_1
    refine lv_iconst (v := 0) hx hb dX12_isIn_17 (by decide) ?_
    have hpost : ((0 : Int32) = 0 ∧ (x.toInt < lo.toInt ∨ hi.toInt < x.toInt)) ∨ ((0 : Int32) = 1 ∧ (lo.toInt ≤ x.toInt ∧ x.toInt ≤ hi.toInt)) := (Or.inl ⟨rfl, (by omega)⟩)
    have hX_3 : F_r_isIn x lo hi = ((0 : Int32) : Int32) := by
      refine (F_r_isIn_s ..).trans ?_
      refine (if_pos c_1).trans ?_
      exact rfl
    exact hret _ _ _ _ _ _ () [] hP hD hS rfl (by decide) dX12_isIn_18 (Or.inl rfl) ⟨(congrArg (fun z9 => z9) hX_3).symm, hpost⟩
  · have b_4 := z_fgeFl c_1
    refine lv_lload_n hx hb dX12_isIn_6 rfl (lv_at hl 0 rfl) ?_
    refine lv_lload hx hb dX12_isIn_7 (lv_at hl 2 rfl) ?_
    refine W.lcmp hx hb dX12_isIn_9 ?_
    refine lv_if_gt (tgt := 17) hx hb dX12_isIn_10 (by decide) (fun c_5 => ?_) (fun c_5 => ?_)
    · have b_6 := z_fgtTl c_5
      refine lv_iconst (v := 0) hx hb dX12_isIn_17 (by decide) ?_
      have hpost : ((0 : Int32) = 0 ∧ (x.toInt < lo.toInt ∨ hi.toInt < x.toInt)) ∨ ((0 : Int32) = 1 ∧ (lo.toInt ≤ x.toInt ∧ x.toInt ≤ hi.toInt)) := (Or.inl ⟨rfl, (by omega)⟩)
      have hX_7 : F_r_isIn x lo hi = ((0 : Int32) : Int32) := by
        refine (F_r_isIn_s ..).trans ?_
        refine (if_neg c_1).trans ?_
        refine (if_pos c_5).trans ?_
        exact rfl
      exact hret _ _ _ _ _ _ () [] hP hD hS rfl (by decide) dX12_isIn_18 (Or.inl rfl) ⟨(congrArg (fun z9 => z9) hX_7).symm, hpost⟩
    · have b_8 := z_fleFl c_5
      refine lv_iconst (v := 1) hx hb dX12_isIn_13 (by decide) ?_
      refine lv_goto (tgt := 18) hx hb dX12_isIn_14 (by decide) ?_
      have hpost : ((1 : Int32) = 0 ∧ (x.toInt < lo.toInt ∨ hi.toInt < x.toInt)) ∨ ((1 : Int32) = 1 ∧ (lo.toInt ≤ x.toInt ∧ x.toInt ≤ hi.toInt)) := (Or.inr ⟨rfl, (by omega)⟩)
      have hX_9 : F_r_isIn x lo hi = ((1 : Int32) : Int32) := by
        refine (F_r_isIn_s ..).trans ?_
        refine (if_neg c_1).trans ?_
        refine (if_neg c_5).trans ?_
        exact rfl
      exact hret _ _ _ _ _ _ () [] hP hD hS rfl (by decide) dX12_isIn_18 (Or.inr rfl) ⟨(congrArg (fun z9 => z9) hX_9).symm, hpost⟩
set_option maxHeartbeats 40000000 in
set_option maxRecDepth 100000 in
theorem r_isLetter (l : Launch) (G : va_G) (cA : zCA) (x : Int32) : zCi l yX12_isLetter cX12_isLetter 1 (some .boolean) ({ frames := 0, cells := 0, slots := 0, locals := 0 }) G cA [.int x] [] (S := Unit) (fun (r : Int32) (u : Unit) => (r = (F_r_isLetter x)) ∧ ((r = 0 ∧ (x.toInt < 97 ∨ 122 < x.toInt)) ∨ (r = 1 ∧ (97 ≤ x.toInt ∧ x.toInt ≤ 122)))) (fun (u : Unit) => []) 0 0 := by
  have hk_97 : (97 : Int32).toInt = 97 := by decide +kernel
  have hk_122 : (122 : Int32).toInt = 122 := by decide +kernel
  refine z_start2z (own := RX12) (by decide) (Nat.le_of_ble_eq_true rfl) rfl ?_
  intro p e s m args below meth c A ls Q hx hb hml hts hown hK hE hT hP hD hS hA hl hret
  have hl : lv_has ls 1 [(0, .int x)] := hl
  refine lv_iload_n hx hb dX12_isLetter_0 rfl (lv_at hl 0 rfl) ?_
  refine lv_bipush (v := 97) hx hb dX12_isLetter_1 (by decide) ?_
  refine lv_icmp_lt (tgt := 16) hx hb dX12_isLetter_3 (by decide) (fun c_1 => ?_) (fun c_1 => ?_)
  · have b_2 := z_fltT c_1
    refine lv_iconst (v := 0) hx hb dX12_isLetter_16 (by decide) ?_
    have hpost : ((0 : Int32) = 0 ∧ (x.toInt < 97 ∨ 122 < x.toInt)) ∨ ((0 : Int32) = 1 ∧ (97 ≤ x.toInt ∧ x.toInt ≤ 122)) := (Or.inl ⟨rfl, (by omega)⟩)
    have hX_3 : F_r_isLetter x = ((0 : Int32) : Int32) := by
      refine (F_r_isLetter_s ..).trans ?_
      refine (if_pos c_1).trans ?_
      exact rfl
    exact hret _ _ _ _ _ _ () [] hP hD hS rfl (by decide) dX12_isLetter_17 (Or.inl rfl) ⟨(congrArg (fun z9 => z9) hX_3).symm, hpost⟩
  · have b_4 := z_fgeF c_1
    refine lv_iload_n hx hb dX12_isLetter_6 rfl (lv_at hl 0 rfl) ?_
    refine lv_bipush (v := 122) hx hb dX12_isLetter_7 (by decide) ?_
    refine lv_icmp_gt (tgt := 16) hx hb dX12_isLetter_9 (by decide) (fun c_5 => ?_) (fun c_5 => ?_)
    · have b_6 := z_fgtT c_5
      refine lv_iconst (v := 0) hx hb dX12_isLetter_16 (by decide) ?_
      have hpost : ((0 : Int32) = 0 ∧ (x.toInt < 97 ∨ 122 < x.toInt)) ∨ ((0 : Int32) = 1 ∧ (97 ≤ x.toInt ∧ x.toInt ≤ 122)) := (Or.inl ⟨rfl, (by omega)⟩)
      have hX_7 : F_r_isLetter x = ((0 : Int32) : Int32) := by
        refine (F_r_isLetter_s ..).trans ?_
        refine (if_neg c_1).trans ?_
        refine (if_pos c_5).trans ?_
        exact rfl
      exact hret _ _ _ _ _ _ () [] hP hD hS rfl (by decide) dX12_isLetter_17 (Or.inl rfl) ⟨(congrArg (fun z9 => z9) hX_7).symm, hpost⟩
    · have b_8 := z_fleF c_5
      refine lv_iconst (v := 1) hx hb dX12_isLetter_12 (by decide) ?_
      refine lv_goto (tgt := 17) hx hb dX12_isLetter_13 (by decide) ?_
      have hpost : ((1 : Int32) = 0 ∧ (x.toInt < 97 ∨ 122 < x.toInt)) ∨ ((1 : Int32) = 1 ∧ (97 ≤ x.toInt ∧ x.toInt ≤ 122)) := (Or.inr ⟨rfl, (by omega)⟩)
      have hX_9 : F_r_isLetter x = ((1 : Int32) : Int32) := by
        refine (F_r_isLetter_s ..).trans ?_
        refine (if_neg c_1).trans ?_
        refine (if_neg c_5).trans ?_
        exact rfl
      exact hret _ _ _ _ _ _ () [] hP hD hS rfl (by decide) dX12_isLetter_17 (Or.inr rfl) ⟨(congrArg (fun z9 => z9) hX_9).symm, hpost⟩
set_option maxHeartbeats 40000000 in
set_option maxRecDepth 100000 in
theorem r_isDigit (l : Launch) (G : va_G) (cA : zCA) (x : Int32) : zCi l yX12_isDigit cX12_isDigit 1 (some .boolean) ({ frames := 0, cells := 0, slots := 0, locals := 0 }) G cA [.int x] [] (S := Unit) (fun (r : Int32) (u : Unit) => (r = (F_r_isDigit x)) ∧ ((r = 0 ∧ (x.toInt < 48 ∨ 57 < x.toInt)) ∨ (r = 1 ∧ (48 ≤ x.toInt ∧ x.toInt ≤ 57)))) (fun (u : Unit) => []) 0 0 := by
  have hk_48 : (48 : Int32).toInt = 48 := by decide +kernel
  have hk_57 : (57 : Int32).toInt = 57 := by decide +kernel
  refine z_start2z (own := RX12) (by decide) (Nat.le_of_ble_eq_true rfl) rfl ?_
  intro p e s m args below meth c A ls Q hx hb hml hts hown hK hE hT hP hD hS hA hl hret
  have hl : lv_has ls 1 [(0, .int x)] := hl
  refine lv_iload_n hx hb dX12_isDigit_0 rfl (lv_at hl 0 rfl) ?_
  refine lv_bipush (v := 48) hx hb dX12_isDigit_1 (by decide) ?_
  refine lv_icmp_lt (tgt := 16) hx hb dX12_isDigit_3 (by decide) (fun c_1 => ?_) (fun c_1 => ?_)
  · have b_2 := z_fltT c_1
    refine lv_iconst (v := 0) hx hb dX12_isDigit_16 (by decide) ?_
    have hpost : ((0 : Int32) = 0 ∧ (x.toInt < 48 ∨ 57 < x.toInt)) ∨ ((0 : Int32) = 1 ∧ (48 ≤ x.toInt ∧ x.toInt ≤ 57)) := (Or.inl ⟨rfl, (by omega)⟩)
    have hX_3 : F_r_isDigit x = ((0 : Int32) : Int32) := by
      refine (F_r_isDigit_s ..).trans ?_
      refine (if_pos c_1).trans ?_
      exact rfl
    exact hret _ _ _ _ _ _ () [] hP hD hS rfl (by decide) dX12_isDigit_17 (Or.inl rfl) ⟨(congrArg (fun z9 => z9) hX_3).symm, hpost⟩
  · have b_4 := z_fgeF c_1
    refine lv_iload_n hx hb dX12_isDigit_6 rfl (lv_at hl 0 rfl) ?_
    refine lv_bipush (v := 57) hx hb dX12_isDigit_7 (by decide) ?_
    refine lv_icmp_gt (tgt := 16) hx hb dX12_isDigit_9 (by decide) (fun c_5 => ?_) (fun c_5 => ?_)
    · have b_6 := z_fgtT c_5
      refine lv_iconst (v := 0) hx hb dX12_isDigit_16 (by decide) ?_
      have hpost : ((0 : Int32) = 0 ∧ (x.toInt < 48 ∨ 57 < x.toInt)) ∨ ((0 : Int32) = 1 ∧ (48 ≤ x.toInt ∧ x.toInt ≤ 57)) := (Or.inl ⟨rfl, (by omega)⟩)
      have hX_7 : F_r_isDigit x = ((0 : Int32) : Int32) := by
        refine (F_r_isDigit_s ..).trans ?_
        refine (if_neg c_1).trans ?_
        refine (if_pos c_5).trans ?_
        exact rfl
      exact hret _ _ _ _ _ _ () [] hP hD hS rfl (by decide) dX12_isDigit_17 (Or.inl rfl) ⟨(congrArg (fun z9 => z9) hX_7).symm, hpost⟩
    · have b_8 := z_fleF c_5
      refine lv_iconst (v := 1) hx hb dX12_isDigit_12 (by decide) ?_
      refine lv_goto (tgt := 17) hx hb dX12_isDigit_13 (by decide) ?_
      have hpost : ((1 : Int32) = 0 ∧ (x.toInt < 48 ∨ 57 < x.toInt)) ∨ ((1 : Int32) = 1 ∧ (48 ≤ x.toInt ∧ x.toInt ≤ 57)) := (Or.inr ⟨rfl, (by omega)⟩)
      have hX_9 : F_r_isDigit x = ((1 : Int32) : Int32) := by
        refine (F_r_isDigit_s ..).trans ?_
        refine (if_neg c_1).trans ?_
        refine (if_neg c_5).trans ?_
        exact rfl
      exact hret _ _ _ _ _ _ () [] hP hD hS rfl (by decide) dX12_isDigit_17 (Or.inr rfl) ⟨(congrArg (fun z9 => z9) hX_9).symm, hpost⟩
set_option maxHeartbeats 40000000 in
set_option maxRecDepth 100000 in
theorem r_isSignByte (l : Launch) (G : va_G) (cA : zCA) (h0 : Nat) (m_status : Int32) (m_thrown : Int32) (m_above : Int64) (m_under : Int64) (a_traySort : Nat) (a_trayMany : Nat) (a_numbers : Nat) (a_tape : Nat) (m_taped : Int32) (m_textEnd : Int32) (m_faultKind : Int32) (m_faultAt : Int32) (m_bad : Int32) (m_badAt : Int32) (m_token : Int32) (m_at : Int32) (m_behind : Int32) (m_number : Int32) (m_letters : Int32) (m_word : Int64) (a_c : Nat) (a_words : Nat) (m_markMany : Int32) (a_there : Nat) (a_tried : Nat) (a_best : Nat) (a_found : Nat) (m_thereMany : Int32) (m_foundMany : Int32) (m_orderHow : Int32) (m_orderRing : Int32) (m_orderMany : Int32) (m_hasBest : Int32) (m_bestTop : Int64) (m_bestBy : Int64) (a_weights : Nat) (a_shared : Nat) (m_random : Int32) (m_truePlace : Int32) (m_trueWay : Int32) (m_seconds : Int32) (m_done : Int32) (m_feelings : Int32) (m_tries : Int32) (m_leftOver : Int32) (m_playDoor : Int32) (m_playRing : Int32) (m_isOpen : Int32) (m_isOver : Int32) (m_wasTried : Int32) (m_hasPlayed : Int32) (a_feltNow : Nat) (a_last : Nat) (a_kept : Nat) (m_hasSeconds : Int32) (m_hasTurned : Int32) (m_hasRound : Int32) (a_hasFeels : Nat) (a_isOn : Nat) (m_firstAct : Int32) (m_meanTop : Int64) (m_meanBy : Int64) (a_order : Nat) (m_rowMany : Int32) (m_newSteps : Int32) (x : Int32) : zCi l yX12_isSignByte cX12_isSignByte 2 (some .boolean) ({ frames := 0, cells := 0, slots := 0, locals := 0 }) G cA [.ref h0, .int x] [(h0, .inr (12, [.int m_status, .int m_thrown, .long m_above, .long m_under, .ref a_traySort, .ref a_trayMany, .ref a_numbers, .ref a_tape, .int m_taped, .int m_textEnd, .int m_faultKind, .int m_faultAt, .int m_bad, .int m_badAt, .int m_token, .int m_at, .int m_behind, .int m_number, .int m_letters, .long m_word, .ref a_c, .ref a_words, .int m_markMany, .ref a_there, .ref a_tried, .ref a_best, .ref a_found, .int m_thereMany, .int m_foundMany, .int m_orderHow, .int m_orderRing, .int m_orderMany, .int m_hasBest, .long m_bestTop, .long m_bestBy, .ref a_weights, .ref a_shared, .int m_random, .int m_truePlace, .int m_trueWay, .int m_seconds, .int m_done, .int m_feelings, .int m_tries, .int m_leftOver, .int m_playDoor, .int m_playRing, .int m_isOpen, .int m_isOver, .int m_wasTried, .int m_hasPlayed, .ref a_feltNow, .ref a_last, .ref a_kept, .int m_hasSeconds, .int m_hasTurned, .int m_hasRound, .ref a_hasFeels, .ref a_isOn, .int m_firstAct, .long m_meanTop, .long m_meanBy, .ref a_order, .int m_rowMany, .int m_newSteps]))] (S := Unit) (fun (r : Int32) (u : Unit) => (r = (F_r_isSignByte x)) ∧ ((r = 0 ∧ True) ∨ (r = 1 ∧ True))) (fun (u : Unit) => [(h0, .inr (12, [.int m_status, .int m_thrown, .long m_above, .long m_under, .ref a_traySort, .ref a_trayMany, .ref a_numbers, .ref a_tape, .int m_taped, .int m_textEnd, .int m_faultKind, .int m_faultAt, .int m_bad, .int m_badAt, .int m_token, .int m_at, .int m_behind, .int m_number, .int m_letters, .long m_word, .ref a_c, .ref a_words, .int m_markMany, .ref a_there, .ref a_tried, .ref a_best, .ref a_found, .int m_thereMany, .int m_foundMany, .int m_orderHow, .int m_orderRing, .int m_orderMany, .int m_hasBest, .long m_bestTop, .long m_bestBy, .ref a_weights, .ref a_shared, .int m_random, .int m_truePlace, .int m_trueWay, .int m_seconds, .int m_done, .int m_feelings, .int m_tries, .int m_leftOver, .int m_playDoor, .int m_playRing, .int m_isOpen, .int m_isOver, .int m_wasTried, .int m_hasPlayed, .ref a_feltNow, .ref a_last, .ref a_kept, .int m_hasSeconds, .int m_hasTurned, .int m_hasRound, .ref a_hasFeels, .ref a_isOn, .int m_firstAct, .long m_meanTop, .long m_meanBy, .ref a_order, .int m_rowMany, .int m_newSteps]))]) 0 0 := by
  have hk_59 : (59 : Int32).toInt = 59 := by decide +kernel
  have hk_60 : (60 : Int32).toInt = 60 := by decide +kernel
  have hk_61 : (61 : Int32).toInt = 61 := by decide +kernel
  have hk_62 : (62 : Int32).toInt = 62 := by decide +kernel
  refine z_start2z (own := RX12) (by decide) (Nat.le_of_ble_eq_true rfl) rfl ?_
  intro p e s m args below meth c A ls Q hx hb hml hts hown hK hE hT hP hD hS hA hl hret
  have hl : lv_has ls 2 [(0, .ref h0), (1, .int x)] := hl
  refine lv_iload_n hx hb dX12_isSignByte_0 rfl (lv_at hl 1 rfl) ?_
  refine lv_bipush (v := 59) hx hb dX12_isSignByte_1 (by decide) ?_
  refine lv_icmp_eq (tgt := 24) hx hb dX12_isSignByte_3 (by decide) (fun c_1 => ?_) (fun c_1 => ?_)
  · have b_2 := z_feqT c_1
    refine lv_iconst (v := 1) hx hb dX12_isSignByte_24 (by decide) ?_
    refine lv_goto (tgt := 29) hx hb dX12_isSignByte_25 (by decide) ?_
    have hpost : ((1 : Int32) = 0 ∧ True) ∨ ((1 : Int32) = 1 ∧ True) := (Or.inr ⟨rfl, trivial⟩)
    have hX_3 : F_r_isSignByte x = ((1 : Int32) : Int32) := by
      refine (F_r_isSignByte_s ..).trans ?_
      refine (if_pos c_1).trans ?_
      exact rfl
    exact hret _ _ _ _ _ _ () [0] hP hD hS rfl (by decide) dX12_isSignByte_29 (Or.inr rfl) ⟨(congrArg (fun z9 => z9) hX_3).symm, hpost⟩
  · have b_4 := z_fneF c_1
    refine lv_iload_n hx hb dX12_isSignByte_6 rfl (lv_at hl 1 rfl) ?_
    refine lv_bipush (v := 60) hx hb dX12_isSignByte_7 (by decide) ?_
    refine lv_icmp_eq (tgt := 24) hx hb dX12_isSignByte_9 (by decide) (fun c_5 => ?_) (fun c_5 => ?_)
    · have b_6 := z_feqT c_5
      refine lv_iconst (v := 1) hx hb dX12_isSignByte_24 (by decide) ?_
      refine lv_goto (tgt := 29) hx hb dX12_isSignByte_25 (by decide) ?_
      have hpost : ((1 : Int32) = 0 ∧ True) ∨ ((1 : Int32) = 1 ∧ True) := (Or.inr ⟨rfl, trivial⟩)
      have hX_7 : F_r_isSignByte x = ((1 : Int32) : Int32) := by
        refine (F_r_isSignByte_s ..).trans ?_
        refine (if_neg c_1).trans ?_
        refine (if_pos c_5).trans ?_
        exact rfl
      exact hret _ _ _ _ _ _ () [0] hP hD hS rfl (by decide) dX12_isSignByte_29 (Or.inr rfl) ⟨(congrArg (fun z9 => z9) hX_7).symm, hpost⟩
    · have b_8 := z_fneF c_5
      refine lv_iload_n hx hb dX12_isSignByte_12 rfl (lv_at hl 1 rfl) ?_
      refine lv_bipush (v := 62) hx hb dX12_isSignByte_13 (by decide) ?_
      refine lv_icmp_eq (tgt := 24) hx hb dX12_isSignByte_15 (by decide) (fun c_9 => ?_) (fun c_9 => ?_)
      · have b_10 := z_feqT c_9
        refine lv_iconst (v := 1) hx hb dX12_isSignByte_24 (by decide) ?_
        refine lv_goto (tgt := 29) hx hb dX12_isSignByte_25 (by decide) ?_
        have hpost : ((1 : Int32) = 0 ∧ True) ∨ ((1 : Int32) = 1 ∧ True) := (Or.inr ⟨rfl, trivial⟩)
        have hX_11 : F_r_isSignByte x = ((1 : Int32) : Int32) := by
          refine (F_r_isSignByte_s ..).trans ?_
          refine (if_neg c_1).trans ?_
          refine (if_neg c_5).trans ?_
          refine (if_pos c_9).trans ?_
          exact rfl
        exact hret _ _ _ _ _ _ () [0] hP hD hS rfl (by decide) dX12_isSignByte_29 (Or.inr rfl) ⟨(congrArg (fun z9 => z9) hX_11).symm, hpost⟩
      · have b_12 := z_fneF c_9
        refine lv_iload_n hx hb dX12_isSignByte_18 rfl (lv_at hl 1 rfl) ?_
        refine lv_bipush (v := 61) hx hb dX12_isSignByte_19 (by decide) ?_
        refine lv_icmp_ne (tgt := 28) hx hb dX12_isSignByte_21 (by decide) (fun c_13 => ?_) (fun c_13 => ?_)
        · have b_14 := z_fneT c_13
          refine lv_iconst (v := 0) hx hb dX12_isSignByte_28 (by decide) ?_
          have hpost : ((0 : Int32) = 0 ∧ True) ∨ ((0 : Int32) = 1 ∧ True) := (Or.inl ⟨rfl, trivial⟩)
          have hX_15 : F_r_isSignByte x = ((0 : Int32) : Int32) := by
            refine (F_r_isSignByte_s ..).trans ?_
            refine (if_neg c_1).trans ?_
            refine (if_neg c_5).trans ?_
            refine (if_neg c_9).trans ?_
            refine (if_neg c_13).trans ?_
            exact rfl
          exact hret _ _ _ _ _ _ () [0] hP hD hS rfl (by decide) dX12_isSignByte_29 (Or.inl rfl) ⟨(congrArg (fun z9 => z9) hX_15).symm, hpost⟩
        · have b_16 := z_feqF c_13
          refine lv_iconst (v := 1) hx hb dX12_isSignByte_24 (by decide) ?_
          refine lv_goto (tgt := 29) hx hb dX12_isSignByte_25 (by decide) ?_
          have hpost : ((1 : Int32) = 0 ∧ True) ∨ ((1 : Int32) = 1 ∧ True) := (Or.inr ⟨rfl, trivial⟩)
          have hX_17 : F_r_isSignByte x = ((1 : Int32) : Int32) := by
            refine (F_r_isSignByte_s ..).trans ?_
            refine (if_neg c_1).trans ?_
            refine (if_neg c_5).trans ?_
            refine (if_neg c_9).trans ?_
            refine (if_pos c_13).trans ?_
            exact rfl
          exact hret _ _ _ _ _ _ () [0] hP hD hS rfl (by decide) dX12_isSignByte_29 (Or.inr rfl) ⟨(congrArg (fun z9 => z9) hX_17).symm, hpost⟩
set_option maxHeartbeats 4000000 in
set_option maxRecDepth 100000 in
theorem r_cut (l : Launch) (G : va_G) (cA : zCA) (ss : Int32) (v : Int64) : zCl l yX12_cut cX12_cut 3 (some .long) ({ frames := 0, cells := 0, slots := 0, locals := 0 }) G cA [.int ss, .long v] [] (S := Unit) (fun (r : Int64) (u : Unit) => True) (fun (u : Unit) => []) 0 0 := by
  have hk_0 : (0 : Int32).toInt = 0 := by decide +kernel
  have hk_1 : (1 : Int32).toInt = 1 := by decide +kernel
  have hk_2 : (2 : Int32).toInt = 2 := by decide +kernel
  refine z_start2l (own := RX12) (by decide) (Nat.le_of_ble_eq_true rfl) rfl ?_
  intro p e s m args below meth c A ls Q hx hb hml hts hown hK hE hT hP hD hS hA hl hret
  have hl : lv_has ls 3 [(0, .int ss), (1, .long v)] := hl
  refine lv_iload_n hx hb dX12_cut_0 rfl (lv_at hl 0 rfl) ?_
  refine lv_if_ne (tgt := 11) hx hb dX12_cut_1 (by decide) (fun c_1 => ?_) (fun c_1 => ?_)
  · have b_2 := z_fneT c_1
    refine lv_iload_n hx hb dX12_cut_11 rfl (lv_at hl 0 rfl) ?_
    refine lv_iconst (v := 1) hx hb dX12_cut_12 (by decide) ?_
    refine lv_icmp_ne (tgt := 23) hx hb dX12_cut_13 (by decide) (fun c_3 => ?_) (fun c_3 => ?_)
    · have b_4 := z_fneT c_3
      refine lv_iload_n hx hb dX12_cut_23 rfl (lv_at hl 0 rfl) ?_
      refine lv_iconst (v := 2) hx hb dX12_cut_24 (by decide) ?_
      refine lv_icmp_ne (tgt := 34) hx hb dX12_cut_25 (by decide) (fun c_5 => ?_) (fun c_5 => ?_)
      · have b_6 := z_fneT c_5
        refine lv_lload_n hx hb dX12_cut_34 rfl (lv_at hl 1 rfl) ?_
        exact hret _ _ _ _ _ _ () [] hP hD hS rfl (by decide) dX12_cut_35 trivial
      · have b_7 := z_feqF c_5
        refine lv_lload_n hx hb dX12_cut_28 rfl (lv_at hl 1 rfl) ?_
        refine lv_l2i (v := (v).toInt32) hx hb dX12_cut_29 rfl ?_
        refine lv_topi (fun x_8 he_x_8 => ?_)
        refine lv_i2l (v := (x_8).toInt64) hx hb dX12_cut_30 rfl ?_
        refine lv_topl (fun x_9 he_x_9 => ?_)
        have hq_x_9 := z_i2l he_x_9
        have hL_x_8 := z_full x_8
        refine lv_goto (tgt := 35) hx hb dX12_cut_31 (by decide) ?_
        exact hret _ _ _ _ _ _ () [] hP hD hS rfl (by decide) dX12_cut_35 trivial
    · have b_10 := z_feqF c_3
      refine lv_lload_n hx hb dX12_cut_16 rfl (lv_at hl 1 rfl) ?_
      refine lv_l2i (v := (v).toInt32) hx hb dX12_cut_17 rfl ?_
      refine lv_topi (fun x_11 he_x_11 => ?_)
      refine lv_i2s (v := (x_11).toInt16.toInt32) hx hb dX12_cut_18 rfl ?_
      refine lv_topi (fun x_12 he_x_12 => ?_)
      refine lv_i2l (v := (x_12).toInt64) hx hb dX12_cut_19 rfl ?_
      refine lv_topl (fun x_13 he_x_13 => ?_)
      have hq_x_13 := z_i2l he_x_13
      have hL_x_12 := z_full x_12
      refine lv_goto (tgt := 35) hx hb dX12_cut_20 (by decide) ?_
      exact hret _ _ _ _ _ _ () [] hP hD hS rfl (by decide) dX12_cut_35 trivial
  · have b_14 := z_feqF c_1
    refine lv_lload_n hx hb dX12_cut_4 rfl (lv_at hl 1 rfl) ?_
    refine lv_l2i (v := (v).toInt32) hx hb dX12_cut_5 rfl ?_
    refine lv_topi (fun x_15 he_x_15 => ?_)
    refine lv_i2b (v := (x_15).toInt8.toInt32) hx hb dX12_cut_6 rfl ?_
    refine lv_topi (fun x_16 he_x_16 => ?_)
    refine lv_i2l (v := (x_16).toInt64) hx hb dX12_cut_7 rfl ?_
    refine lv_topl (fun x_17 he_x_17 => ?_)
    have hq_x_17 := z_i2l he_x_17
    have hL_x_16 := z_full x_16
    refine lv_goto (tgt := 35) hx hb dX12_cut_8 (by decide) ?_
    exact hret _ _ _ _ _ _ () [] hP hD hS rfl (by decide) dX12_cut_35 trivial
set_option maxHeartbeats 40000000 in
set_option maxRecDepth 100000 in
theorem r_spelled (l : Launch) (G : va_G) (cA : zCA) (x0 : Int32) (x1 : Int32) (x2 : Int32) (x3 : Int32) (x4 : Int32) (x5 : Int32) (hr_x0 : 0 ≤ x0.toInt ∧ x0.toInt ≤ 255) (hr_x1 : 0 ≤ x1.toInt ∧ x1.toInt ≤ 255) (hr_x2 : 0 ≤ x2.toInt ∧ x2.toInt ≤ 255) (hr_x3 : 0 ≤ x3.toInt ∧ x3.toInt ≤ 255) (hr_x4 : 0 ≤ x4.toInt ∧ x4.toInt ≤ 255) (hr_x5 : 0 ≤ x5.toInt ∧ x5.toInt ≤ 255) : zCl l yX12_spelled cX12_spelled 8 (some .long) ({ frames := 0, cells := 0, slots := 0, locals := 0 }) G cA [.int x0, .int x1, .int x2, .int x3, .int x4, .int x5] [] (S := Unit) (fun (r : Int64) (u : Unit) => (r = (F_r_spelled x0 x1 x2 x3 x4 x5)) ∧ (((-3325102143) ≤ r.toInt ∧ r.toInt ≤ 5507256447))) (fun (u : Unit) => []) 0 0 := by
  have hk_0 : (0 : Int32).toInt = 0 := by decide +kernel
  have hkl_32 : (32 : Int64).toInt = 32 := by decide +kernel
  have hkl_96 : (96 : Int64).toInt = 96 := by decide +kernel
  refine z_start2l (own := RX12) (by decide) (Nat.le_of_ble_eq_true rfl) rfl ?_
  intro p e s m args below meth c A ls Q hx hb hml hts hown hK hE hT hP hD hS hA hl hret
  have hl : lv_has ls 8 [(0, .int x0), (1, .int x1), (2, .int x2), (3, .int x3), (4, .int x4), (5, .int x5)] := hl
  refine lv_iload_n hx hb dX12_spelled_0 rfl (lv_at hl 0 rfl) ?_
  refine lv_i2l (v := (x0).toInt64) hx hb dX12_spelled_1 rfl ?_
  refine lv_topl (fun x_1 he_x_1 => ?_)
  have hq_x_1 := z_i2l he_x_1
  refine lv_ldc2 (v := 96) hx hb hown (hts _ tw_2155) dX12_spelled_2 ?_
  refine lv_lsub hx hb dX12_spelled_5 ?_
  refine lv_topl (fun x_2 he_x_2 => ?_)
  have hq_x_2 := z_subql he_x_2 (rfl : x_1.toInt = _) hkl_96 (by omega) (by omega)
  refine lv_ldc2 (v := 32) hx hb hown (hts _ tw_2154) dX12_spelled_6 ?_
  refine lv_lmul hx hb dX12_spelled_9 ?_
  refine lv_topl (fun x_3 he_x_3 => ?_)
  have hq_x_3 := z_mulql he_x_3 (rfl : x_2.toInt = _) hkl_32 (by omega) (by omega)
  refine lv_iload_n hx hb dX12_spelled_10 rfl (lv_at hl 1 rfl) ?_
  refine lv_i2l (v := (x1).toInt64) hx hb dX12_spelled_11 rfl ?_
  refine lv_topl (fun x_4 he_x_4 => ?_)
  have hq_x_4 := z_i2l he_x_4
  refine lv_ladd hx hb dX12_spelled_12 ?_
  refine lv_topl (fun x_5 he_x_5 => ?_)
  have hq_x_5 := z_addql he_x_5 (rfl : x_3.toInt = _) (rfl : x_4.toInt = _) (by omega) (by omega)
  refine lv_ldc2 (v := 96) hx hb hown (hts _ tw_2155) dX12_spelled_13 ?_
  refine lv_lsub hx hb dX12_spelled_16 ?_
  refine lv_topl (fun x_6 he_x_6 => ?_)
  have hq_x_6 := z_subql he_x_6 (rfl : x_5.toInt = _) hkl_96 (by omega) (by omega)
  refine lv_lstore (lv' := [(6, .long x_6), (0, .int x0), (1, .int x1), (2, .int x2), (3, .int x3), (4, .int x4), (5, .int x5)]) hx hb dX12_spelled_17 hl (by decide) rfl (fun ls hl => ?_)
  refine lv_iload_n hx hb dX12_spelled_19 rfl (lv_at hl 3 rfl) ?_
  refine lv_if_le (tgt := 39) hx hb dX12_spelled_20 (by decide) (fun c_7 => ?_) (fun c_7 => ?_)
  · have b_8 := z_fleT c_7
    refine lv_lload hx hb dX12_spelled_39 (lv_at hl 0 rfl) ?_
    refine lv_lstore (lv' := [(6, .long x_6), (0, .int x0), (1, .int x1), (2, .int x2), (3, .int x3), (4, .int x4), (5, .int x5)]) hx hb dX12_spelled_41 hl (by decide) rfl (fun ls hl => ?_)
    refine lv_iload_n hx hb dX12_spelled_43 rfl (lv_at hl 4 rfl) ?_
    refine lv_if_le (tgt := 63) hx hb dX12_spelled_44 (by decide) (fun c_9 => ?_) (fun c_9 => ?_)
    · have b_10 := z_fleT c_9
      refine lv_lload hx hb dX12_spelled_63 (lv_at hl 0 rfl) ?_
      refine lv_lstore (lv' := [(6, .long x_6), (0, .int x0), (1, .int x1), (2, .int x2), (3, .int x3), (4, .int x4), (5, .int x5)]) hx hb dX12_spelled_65 hl (by decide) rfl (fun ls hl => ?_)
      refine lv_iload hx hb dX12_spelled_67 (lv_at hl 5 rfl) ?_
      refine lv_if_le (tgt := 89) hx hb dX12_spelled_69 (by decide) (fun c_11 => ?_) (fun c_11 => ?_)
      · have b_12 := z_fleT c_11
        refine lv_lload hx hb dX12_spelled_89 (lv_at hl 0 rfl) ?_
        refine lv_lstore (lv' := [(6, .long x_6), (0, .int x0), (1, .int x1), (2, .int x2), (3, .int x3), (4, .int x4), (5, .int x5)]) hx hb dX12_spelled_91 hl (by decide) rfl (fun ls hl => ?_)
        refine lv_iload hx hb dX12_spelled_93 (lv_at hl 6 rfl) ?_
        refine lv_if_le (tgt := 115) hx hb dX12_spelled_95 (by decide) (fun c_13 => ?_) (fun c_13 => ?_)
        · have b_14 := z_fleT c_13
          refine lv_lload hx hb dX12_spelled_115 (lv_at hl 0 rfl) ?_
          have hpost : ((-3325102143) ≤ x_6.toInt ∧ x_6.toInt ≤ 5507256447) := (by omega)
          have hX_15 : F_r_spelled x0 x1 x2 x3 x4 x5 = (x_6 : Int64) := by
            refine (F_r_spelled_s ..).trans ?_
            try (extract_lets -merge -useContext +onlyGivenNames y9; have e9 : x_1 = y9 := (by first | exact he_x_1 | exact he_x_1.symm); clear_value y9; subst e9)
            try (extract_lets -merge -useContext +onlyGivenNames y9; have e9 : x_2 = y9 := (by first | exact he_x_2 | exact he_x_2.symm); clear_value y9; subst e9)
            try (extract_lets -merge -useContext +onlyGivenNames y9; have e9 : x_3 = y9 := (by first | exact he_x_3 | exact he_x_3.symm); clear_value y9; subst e9)
            try (extract_lets -merge -useContext +onlyGivenNames y9; have e9 : x_4 = y9 := (by first | exact he_x_4 | exact he_x_4.symm); clear_value y9; subst e9)
            try (extract_lets -merge -useContext +onlyGivenNames y9; have e9 : x_5 = y9 := (by first | exact he_x_5 | exact he_x_5.symm); clear_value y9; subst e9)
            try (extract_lets -merge -useContext +onlyGivenNames y9; have e9 : x_6 = y9 := (by first | exact he_x_6 | exact he_x_6.symm); clear_value y9; subst e9)
            refine (if_pos c_7).trans ?_
            refine (if_pos c_9).trans ?_
            refine (if_pos c_11).trans ?_
            refine (if_pos c_13).trans ?_
            exact rfl
          exact hret _ _ _ _ _ _ () [] hP hD hS rfl (by decide) dX12_spelled_117 ⟨(congrArg (fun z9 => z9) hX_15).symm, hpost⟩
        · have b_16 := z_fgtF c_13
          refine lv_lload hx hb dX12_spelled_98 (lv_at hl 0 rfl) ?_
          refine lv_ldc2 (v := 32) hx hb hown (hts _ tw_2154) dX12_spelled_100 ?_
          refine lv_lmul hx hb dX12_spelled_103 ?_
          refine lv_topl (fun x_17 he_x_17 => ?_)
          have hq_x_17 := z_mulql he_x_17 (rfl : x_6.toInt = _) hkl_32 (by omega) (by omega)
          refine lv_iload hx hb dX12_spelled_104 (lv_at hl 6 rfl) ?_
          refine lv_i2l (v := (x5).toInt64) hx hb dX12_spelled_106 rfl ?_
          refine lv_topl (fun x_18 he_x_18 => ?_)
          have hq_x_18 := z_i2l he_x_18
          refine lv_ladd hx hb dX12_spelled_107 ?_
          refine lv_topl (fun x_19 he_x_19 => ?_)
          have hq_x_19 := z_addql he_x_19 (rfl : x_17.toInt = _) (rfl : x_18.toInt = _) (by omega) (by omega)
          refine lv_ldc2 (v := 96) hx hb hown (hts _ tw_2155) dX12_spelled_108 ?_
          refine lv_lsub hx hb dX12_spelled_111 ?_
          refine lv_topl (fun x_20 he_x_20 => ?_)
          have hq_x_20 := z_subql he_x_20 (rfl : x_19.toInt = _) hkl_96 (by omega) (by omega)
          refine lv_goto (tgt := 117) hx hb dX12_spelled_112 (by decide) ?_
          have hpost : ((-3325102143) ≤ x_20.toInt ∧ x_20.toInt ≤ 5507256447) := (by omega)
          have hX_21 : F_r_spelled x0 x1 x2 x3 x4 x5 = (x_20 : Int64) := by
            refine (F_r_spelled_s ..).trans ?_
            try (extract_lets -merge -useContext +onlyGivenNames y9; have e9 : x_1 = y9 := (by first | exact he_x_1 | exact he_x_1.symm); clear_value y9; subst e9)
            try (extract_lets -merge -useContext +onlyGivenNames y9; have e9 : x_2 = y9 := (by first | exact he_x_2 | exact he_x_2.symm); clear_value y9; subst e9)
            try (extract_lets -merge -useContext +onlyGivenNames y9; have e9 : x_3 = y9 := (by first | exact he_x_3 | exact he_x_3.symm); clear_value y9; subst e9)
            try (extract_lets -merge -useContext +onlyGivenNames y9; have e9 : x_4 = y9 := (by first | exact he_x_4 | exact he_x_4.symm); clear_value y9; subst e9)
            try (extract_lets -merge -useContext +onlyGivenNames y9; have e9 : x_5 = y9 := (by first | exact he_x_5 | exact he_x_5.symm); clear_value y9; subst e9)
            try (extract_lets -merge -useContext +onlyGivenNames y9; have e9 : x_6 = y9 := (by first | exact he_x_6 | exact he_x_6.symm); clear_value y9; subst e9)
            refine (if_pos c_7).trans ?_
            refine (if_pos c_9).trans ?_
            refine (if_pos c_11).trans ?_
            refine (if_neg c_13).trans ?_
            try (extract_lets -merge -useContext +onlyGivenNames y9; have e9 : x_17 = y9 := (by first | exact he_x_17 | exact he_x_17.symm); clear_value y9; subst e9)
            try (extract_lets -merge -useContext +onlyGivenNames y9; have e9 : x_18 = y9 := (by first | exact he_x_18 | exact he_x_18.symm); clear_value y9; subst e9)
            try (extract_lets -merge -useContext +onlyGivenNames y9; have e9 : x_19 = y9 := (by first | exact he_x_19 | exact he_x_19.symm); clear_value y9; subst e9)
            try (extract_lets -merge -useContext +onlyGivenNames y9; have e9 : x_20 = y9 := (by first | exact he_x_20 | exact he_x_20.symm); clear_value y9; subst e9)
            exact rfl
          exact hret _ _ _ _ _ _ () [] hP hD hS rfl (by decide) dX12_spelled_117 ⟨(congrArg (fun z9 => z9) hX_21).symm, hpost⟩
      · have b_22 := z_fgtF c_11
        refine lv_lload hx hb dX12_spelled_72 (lv_at hl 0 rfl) ?_
        refine lv_ldc2 (v := 32) hx hb hown (hts _ tw_2154) dX12_spelled_74 ?_
        refine lv_lmul hx hb dX12_spelled_77 ?_
        refine lv_topl (fun x_23 he_x_23 => ?_)
        have hq_x_23 := z_mulql he_x_23 (rfl : x_6.toInt = _) hkl_32 (by omega) (by omega)
        refine lv_iload hx hb dX12_spelled_78 (lv_at hl 5 rfl) ?_
        refine lv_i2l (v := (x4).toInt64) hx hb dX12_spelled_80 rfl ?_
        refine lv_topl (fun x_24 he_x_24 => ?_)
        have hq_x_24 := z_i2l he_x_24
        refine lv_ladd hx hb dX12_spelled_81 ?_
        refine lv_topl (fun x_25 he_x_25 => ?_)
        have hq_x_25 := z_addql he_x_25 (rfl : x_23.toInt = _) (rfl : x_24.toInt = _) (by omega) (by omega)
        refine lv_ldc2 (v := 96) hx hb hown (hts _ tw_2155) dX12_spelled_82 ?_
        refine lv_lsub hx hb dX12_spelled_85 ?_
        refine lv_topl (fun x_26 he_x_26 => ?_)
        have hq_x_26 := z_subql he_x_26 (rfl : x_25.toInt = _) hkl_96 (by omega) (by omega)
        refine lv_goto (tgt := 91) hx hb dX12_spelled_86 (by decide) ?_
        refine lv_lstore (lv' := [(6, .long x_26), (0, .int x0), (1, .int x1), (2, .int x2), (3, .int x3), (4, .int x4), (5, .int x5)]) hx hb dX12_spelled_91 hl (by decide) rfl (fun ls hl => ?_)
        refine lv_iload hx hb dX12_spelled_93 (lv_at hl 6 rfl) ?_
        refine lv_if_le (tgt := 115) hx hb dX12_spelled_95 (by decide) (fun c_27 => ?_) (fun c_27 => ?_)
        · have b_28 := z_fleT c_27
          refine lv_lload hx hb dX12_spelled_115 (lv_at hl 0 rfl) ?_
          have hpost : ((-3325102143) ≤ x_26.toInt ∧ x_26.toInt ≤ 5507256447) := (by omega)
          have hX_29 : F_r_spelled x0 x1 x2 x3 x4 x5 = (x_26 : Int64) := by
            refine (F_r_spelled_s ..).trans ?_
            try (extract_lets -merge -useContext +onlyGivenNames y9; have e9 : x_1 = y9 := (by first | exact he_x_1 | exact he_x_1.symm); clear_value y9; subst e9)
            try (extract_lets -merge -useContext +onlyGivenNames y9; have e9 : x_2 = y9 := (by first | exact he_x_2 | exact he_x_2.symm); clear_value y9; subst e9)
            try (extract_lets -merge -useContext +onlyGivenNames y9; have e9 : x_3 = y9 := (by first | exact he_x_3 | exact he_x_3.symm); clear_value y9; subst e9)
            try (extract_lets -merge -useContext +onlyGivenNames y9; have e9 : x_4 = y9 := (by first | exact he_x_4 | exact he_x_4.symm); clear_value y9; subst e9)
            try (extract_lets -merge -useContext +onlyGivenNames y9; have e9 : x_5 = y9 := (by first | exact he_x_5 | exact he_x_5.symm); clear_value y9; subst e9)
            try (extract_lets -merge -useContext +onlyGivenNames y9; have e9 : x_6 = y9 := (by first | exact he_x_6 | exact he_x_6.symm); clear_value y9; subst e9)
            refine (if_pos c_7).trans ?_
            refine (if_pos c_9).trans ?_
            refine (if_neg c_11).trans ?_
            try (extract_lets -merge -useContext +onlyGivenNames y9; have e9 : x_23 = y9 := (by first | exact he_x_23 | exact he_x_23.symm); clear_value y9; subst e9)
            try (extract_lets -merge -useContext +onlyGivenNames y9; have e9 : x_24 = y9 := (by first | exact he_x_24 | exact he_x_24.symm); clear_value y9; subst e9)
            try (extract_lets -merge -useContext +onlyGivenNames y9; have e9 : x_25 = y9 := (by first | exact he_x_25 | exact he_x_25.symm); clear_value y9; subst e9)
            try (extract_lets -merge -useContext +onlyGivenNames y9; have e9 : x_26 = y9 := (by first | exact he_x_26 | exact he_x_26.symm); clear_value y9; subst e9)
            refine (if_pos c_27).trans ?_
            exact rfl
          exact hret _ _ _ _ _ _ () [] hP hD hS rfl (by decide) dX12_spelled_117 ⟨(congrArg (fun z9 => z9) hX_29).symm, hpost⟩
        · have b_30 := z_fgtF c_27
          refine lv_lload hx hb dX12_spelled_98 (lv_at hl 0 rfl) ?_
          refine lv_ldc2 (v := 32) hx hb hown (hts _ tw_2154) dX12_spelled_100 ?_
          refine lv_lmul hx hb dX12_spelled_103 ?_
          refine lv_topl (fun x_31 he_x_31 => ?_)
          have hq_x_31 := z_mulql he_x_31 (rfl : x_26.toInt = _) hkl_32 (by omega) (by omega)
          refine lv_iload hx hb dX12_spelled_104 (lv_at hl 6 rfl) ?_
          refine lv_i2l (v := (x5).toInt64) hx hb dX12_spelled_106 rfl ?_
          refine lv_topl (fun x_32 he_x_32 => ?_)
          have hq_x_32 := z_i2l he_x_32
          refine lv_ladd hx hb dX12_spelled_107 ?_
          refine lv_topl (fun x_33 he_x_33 => ?_)
          have hq_x_33 := z_addql he_x_33 (rfl : x_31.toInt = _) (rfl : x_32.toInt = _) (by omega) (by omega)
          refine lv_ldc2 (v := 96) hx hb hown (hts _ tw_2155) dX12_spelled_108 ?_
          refine lv_lsub hx hb dX12_spelled_111 ?_
          refine lv_topl (fun x_34 he_x_34 => ?_)
          have hq_x_34 := z_subql he_x_34 (rfl : x_33.toInt = _) hkl_96 (by omega) (by omega)
          refine lv_goto (tgt := 117) hx hb dX12_spelled_112 (by decide) ?_
          have hpost : ((-3325102143) ≤ x_34.toInt ∧ x_34.toInt ≤ 5507256447) := (by omega)
          have hX_35 : F_r_spelled x0 x1 x2 x3 x4 x5 = (x_34 : Int64) := by
            refine (F_r_spelled_s ..).trans ?_
            try (extract_lets -merge -useContext +onlyGivenNames y9; have e9 : x_1 = y9 := (by first | exact he_x_1 | exact he_x_1.symm); clear_value y9; subst e9)
            try (extract_lets -merge -useContext +onlyGivenNames y9; have e9 : x_2 = y9 := (by first | exact he_x_2 | exact he_x_2.symm); clear_value y9; subst e9)
            try (extract_lets -merge -useContext +onlyGivenNames y9; have e9 : x_3 = y9 := (by first | exact he_x_3 | exact he_x_3.symm); clear_value y9; subst e9)
            try (extract_lets -merge -useContext +onlyGivenNames y9; have e9 : x_4 = y9 := (by first | exact he_x_4 | exact he_x_4.symm); clear_value y9; subst e9)
            try (extract_lets -merge -useContext +onlyGivenNames y9; have e9 : x_5 = y9 := (by first | exact he_x_5 | exact he_x_5.symm); clear_value y9; subst e9)
            try (extract_lets -merge -useContext +onlyGivenNames y9; have e9 : x_6 = y9 := (by first | exact he_x_6 | exact he_x_6.symm); clear_value y9; subst e9)
            refine (if_pos c_7).trans ?_
            refine (if_pos c_9).trans ?_
            refine (if_neg c_11).trans ?_
            try (extract_lets -merge -useContext +onlyGivenNames y9; have e9 : x_23 = y9 := (by first | exact he_x_23 | exact he_x_23.symm); clear_value y9; subst e9)
            try (extract_lets -merge -useContext +onlyGivenNames y9; have e9 : x_24 = y9 := (by first | exact he_x_24 | exact he_x_24.symm); clear_value y9; subst e9)
            try (extract_lets -merge -useContext +onlyGivenNames y9; have e9 : x_25 = y9 := (by first | exact he_x_25 | exact he_x_25.symm); clear_value y9; subst e9)
            try (extract_lets -merge -useContext +onlyGivenNames y9; have e9 : x_26 = y9 := (by first | exact he_x_26 | exact he_x_26.symm); clear_value y9; subst e9)
            refine (if_neg c_27).trans ?_
            try (extract_lets -merge -useContext +onlyGivenNames y9; have e9 : x_31 = y9 := (by first | exact he_x_31 | exact he_x_31.symm); clear_value y9; subst e9)
            try (extract_lets -merge -useContext +onlyGivenNames y9; have e9 : x_32 = y9 := (by first | exact he_x_32 | exact he_x_32.symm); clear_value y9; subst e9)
            try (extract_lets -merge -useContext +onlyGivenNames y9; have e9 : x_33 = y9 := (by first | exact he_x_33 | exact he_x_33.symm); clear_value y9; subst e9)
            try (extract_lets -merge -useContext +onlyGivenNames y9; have e9 : x_34 = y9 := (by first | exact he_x_34 | exact he_x_34.symm); clear_value y9; subst e9)
            exact rfl
          exact hret _ _ _ _ _ _ () [] hP hD hS rfl (by decide) dX12_spelled_117 ⟨(congrArg (fun z9 => z9) hX_35).symm, hpost⟩
    · have b_36 := z_fgtF c_9
      refine lv_lload hx hb dX12_spelled_47 (lv_at hl 0 rfl) ?_
      refine lv_ldc2 (v := 32) hx hb hown (hts _ tw_2154) dX12_spelled_49 ?_
      refine lv_lmul hx hb dX12_spelled_52 ?_
      refine lv_topl (fun x_37 he_x_37 => ?_)
      have hq_x_37 := z_mulql he_x_37 (rfl : x_6.toInt = _) hkl_32 (by omega) (by omega)
      refine lv_iload_n hx hb dX12_spelled_53 rfl (lv_at hl 4 rfl) ?_
      refine lv_i2l (v := (x3).toInt64) hx hb dX12_spelled_54 rfl ?_
      refine lv_topl (fun x_38 he_x_38 => ?_)
      have hq_x_38 := z_i2l he_x_38
      refine lv_ladd hx hb dX12_spelled_55 ?_
      refine lv_topl (fun x_39 he_x_39 => ?_)
      have hq_x_39 := z_addql he_x_39 (rfl : x_37.toInt = _) (rfl : x_38.toInt = _) (by omega) (by omega)
      refine lv_ldc2 (v := 96) hx hb hown (hts _ tw_2155) dX12_spelled_56 ?_
      refine lv_lsub hx hb dX12_spelled_59 ?_
      refine lv_topl (fun x_40 he_x_40 => ?_)
      have hq_x_40 := z_subql he_x_40 (rfl : x_39.toInt = _) hkl_96 (by omega) (by omega)
      refine lv_goto (tgt := 65) hx hb dX12_spelled_60 (by decide) ?_
      refine lv_lstore (lv' := [(6, .long x_40), (0, .int x0), (1, .int x1), (2, .int x2), (3, .int x3), (4, .int x4), (5, .int x5)]) hx hb dX12_spelled_65 hl (by decide) rfl (fun ls hl => ?_)
      refine lv_iload hx hb dX12_spelled_67 (lv_at hl 5 rfl) ?_
      refine lv_if_le (tgt := 89) hx hb dX12_spelled_69 (by decide) (fun c_41 => ?_) (fun c_41 => ?_)
      · have b_42 := z_fleT c_41
        refine lv_lload hx hb dX12_spelled_89 (lv_at hl 0 rfl) ?_
        refine lv_lstore (lv' := [(6, .long x_40), (0, .int x0), (1, .int x1), (2, .int x2), (3, .int x3), (4, .int x4), (5, .int x5)]) hx hb dX12_spelled_91 hl (by decide) rfl (fun ls hl => ?_)
        refine lv_iload hx hb dX12_spelled_93 (lv_at hl 6 rfl) ?_
        refine lv_if_le (tgt := 115) hx hb dX12_spelled_95 (by decide) (fun c_43 => ?_) (fun c_43 => ?_)
        · have b_44 := z_fleT c_43
          refine lv_lload hx hb dX12_spelled_115 (lv_at hl 0 rfl) ?_
          have hpost : ((-3325102143) ≤ x_40.toInt ∧ x_40.toInt ≤ 5507256447) := (by omega)
          have hX_45 : F_r_spelled x0 x1 x2 x3 x4 x5 = (x_40 : Int64) := by
            refine (F_r_spelled_s ..).trans ?_
            try (extract_lets -merge -useContext +onlyGivenNames y9; have e9 : x_1 = y9 := (by first | exact he_x_1 | exact he_x_1.symm); clear_value y9; subst e9)
            try (extract_lets -merge -useContext +onlyGivenNames y9; have e9 : x_2 = y9 := (by first | exact he_x_2 | exact he_x_2.symm); clear_value y9; subst e9)
            try (extract_lets -merge -useContext +onlyGivenNames y9; have e9 : x_3 = y9 := (by first | exact he_x_3 | exact he_x_3.symm); clear_value y9; subst e9)
            try (extract_lets -merge -useContext +onlyGivenNames y9; have e9 : x_4 = y9 := (by first | exact he_x_4 | exact he_x_4.symm); clear_value y9; subst e9)
            try (extract_lets -merge -useContext +onlyGivenNames y9; have e9 : x_5 = y9 := (by first | exact he_x_5 | exact he_x_5.symm); clear_value y9; subst e9)
            try (extract_lets -merge -useContext +onlyGivenNames y9; have e9 : x_6 = y9 := (by first | exact he_x_6 | exact he_x_6.symm); clear_value y9; subst e9)
            refine (if_pos c_7).trans ?_
            refine (if_neg c_9).trans ?_
            try (extract_lets -merge -useContext +onlyGivenNames y9; have e9 : x_37 = y9 := (by first | exact he_x_37 | exact he_x_37.symm); clear_value y9; subst e9)
            try (extract_lets -merge -useContext +onlyGivenNames y9; have e9 : x_38 = y9 := (by first | exact he_x_38 | exact he_x_38.symm); clear_value y9; subst e9)
            try (extract_lets -merge -useContext +onlyGivenNames y9; have e9 : x_39 = y9 := (by first | exact he_x_39 | exact he_x_39.symm); clear_value y9; subst e9)
            try (extract_lets -merge -useContext +onlyGivenNames y9; have e9 : x_40 = y9 := (by first | exact he_x_40 | exact he_x_40.symm); clear_value y9; subst e9)
            refine (if_pos c_41).trans ?_
            refine (if_pos c_43).trans ?_
            exact rfl
          exact hret _ _ _ _ _ _ () [] hP hD hS rfl (by decide) dX12_spelled_117 ⟨(congrArg (fun z9 => z9) hX_45).symm, hpost⟩
        · have b_46 := z_fgtF c_43
          refine lv_lload hx hb dX12_spelled_98 (lv_at hl 0 rfl) ?_
          refine lv_ldc2 (v := 32) hx hb hown (hts _ tw_2154) dX12_spelled_100 ?_
          refine lv_lmul hx hb dX12_spelled_103 ?_
          refine lv_topl (fun x_47 he_x_47 => ?_)
          have hq_x_47 := z_mulql he_x_47 (rfl : x_40.toInt = _) hkl_32 (by omega) (by omega)
          refine lv_iload hx hb dX12_spelled_104 (lv_at hl 6 rfl) ?_
          refine lv_i2l (v := (x5).toInt64) hx hb dX12_spelled_106 rfl ?_
          refine lv_topl (fun x_48 he_x_48 => ?_)
          have hq_x_48 := z_i2l he_x_48
          refine lv_ladd hx hb dX12_spelled_107 ?_
          refine lv_topl (fun x_49 he_x_49 => ?_)
          have hq_x_49 := z_addql he_x_49 (rfl : x_47.toInt = _) (rfl : x_48.toInt = _) (by omega) (by omega)
          refine lv_ldc2 (v := 96) hx hb hown (hts _ tw_2155) dX12_spelled_108 ?_
          refine lv_lsub hx hb dX12_spelled_111 ?_
          refine lv_topl (fun x_50 he_x_50 => ?_)
          have hq_x_50 := z_subql he_x_50 (rfl : x_49.toInt = _) hkl_96 (by omega) (by omega)
          refine lv_goto (tgt := 117) hx hb dX12_spelled_112 (by decide) ?_
          have hpost : ((-3325102143) ≤ x_50.toInt ∧ x_50.toInt ≤ 5507256447) := (by omega)
          have hX_51 : F_r_spelled x0 x1 x2 x3 x4 x5 = (x_50 : Int64) := by
            refine (F_r_spelled_s ..).trans ?_
            try (extract_lets -merge -useContext +onlyGivenNames y9; have e9 : x_1 = y9 := (by first | exact he_x_1 | exact he_x_1.symm); clear_value y9; subst e9)
            try (extract_lets -merge -useContext +onlyGivenNames y9; have e9 : x_2 = y9 := (by first | exact he_x_2 | exact he_x_2.symm); clear_value y9; subst e9)
            try (extract_lets -merge -useContext +onlyGivenNames y9; have e9 : x_3 = y9 := (by first | exact he_x_3 | exact he_x_3.symm); clear_value y9; subst e9)
            try (extract_lets -merge -useContext +onlyGivenNames y9; have e9 : x_4 = y9 := (by first | exact he_x_4 | exact he_x_4.symm); clear_value y9; subst e9)
            try (extract_lets -merge -useContext +onlyGivenNames y9; have e9 : x_5 = y9 := (by first | exact he_x_5 | exact he_x_5.symm); clear_value y9; subst e9)
            try (extract_lets -merge -useContext +onlyGivenNames y9; have e9 : x_6 = y9 := (by first | exact he_x_6 | exact he_x_6.symm); clear_value y9; subst e9)
            refine (if_pos c_7).trans ?_
            refine (if_neg c_9).trans ?_
            try (extract_lets -merge -useContext +onlyGivenNames y9; have e9 : x_37 = y9 := (by first | exact he_x_37 | exact he_x_37.symm); clear_value y9; subst e9)
            try (extract_lets -merge -useContext +onlyGivenNames y9; have e9 : x_38 = y9 := (by first | exact he_x_38 | exact he_x_38.symm); clear_value y9; subst e9)
            try (extract_lets -merge -useContext +onlyGivenNames y9; have e9 : x_39 = y9 := (by first | exact he_x_39 | exact he_x_39.symm); clear_value y9; subst e9)
            try (extract_lets -merge -useContext +onlyGivenNames y9; have e9 : x_40 = y9 := (by first | exact he_x_40 | exact he_x_40.symm); clear_value y9; subst e9)
            refine (if_pos c_41).trans ?_
            refine (if_neg c_43).trans ?_
            try (extract_lets -merge -useContext +onlyGivenNames y9; have e9 : x_47 = y9 := (by first | exact he_x_47 | exact he_x_47.symm); clear_value y9; subst e9)
            try (extract_lets -merge -useContext +onlyGivenNames y9; have e9 : x_48 = y9 := (by first | exact he_x_48 | exact he_x_48.symm); clear_value y9; subst e9)
            try (extract_lets -merge -useContext +onlyGivenNames y9; have e9 : x_49 = y9 := (by first | exact he_x_49 | exact he_x_49.symm); clear_value y9; subst e9)
            try (extract_lets -merge -useContext +onlyGivenNames y9; have e9 : x_50 = y9 := (by first | exact he_x_50 | exact he_x_50.symm); clear_value y9; subst e9)
            exact rfl
          exact hret _ _ _ _ _ _ () [] hP hD hS rfl (by decide) dX12_spelled_117 ⟨(congrArg (fun z9 => z9) hX_51).symm, hpost⟩
      · have b_52 := z_fgtF c_41
        refine lv_lload hx hb dX12_spelled_72 (lv_at hl 0 rfl) ?_
        refine lv_ldc2 (v := 32) hx hb hown (hts _ tw_2154) dX12_spelled_74 ?_
        refine lv_lmul hx hb dX12_spelled_77 ?_
        refine lv_topl (fun x_53 he_x_53 => ?_)
        have hq_x_53 := z_mulql he_x_53 (rfl : x_40.toInt = _) hkl_32 (by omega) (by omega)
        refine lv_iload hx hb dX12_spelled_78 (lv_at hl 5 rfl) ?_
        refine lv_i2l (v := (x4).toInt64) hx hb dX12_spelled_80 rfl ?_
        refine lv_topl (fun x_54 he_x_54 => ?_)
        have hq_x_54 := z_i2l he_x_54
        refine lv_ladd hx hb dX12_spelled_81 ?_
        refine lv_topl (fun x_55 he_x_55 => ?_)
        have hq_x_55 := z_addql he_x_55 (rfl : x_53.toInt = _) (rfl : x_54.toInt = _) (by omega) (by omega)
        refine lv_ldc2 (v := 96) hx hb hown (hts _ tw_2155) dX12_spelled_82 ?_
        refine lv_lsub hx hb dX12_spelled_85 ?_
        refine lv_topl (fun x_56 he_x_56 => ?_)
        have hq_x_56 := z_subql he_x_56 (rfl : x_55.toInt = _) hkl_96 (by omega) (by omega)
        refine lv_goto (tgt := 91) hx hb dX12_spelled_86 (by decide) ?_
        refine lv_lstore (lv' := [(6, .long x_56), (0, .int x0), (1, .int x1), (2, .int x2), (3, .int x3), (4, .int x4), (5, .int x5)]) hx hb dX12_spelled_91 hl (by decide) rfl (fun ls hl => ?_)
        refine lv_iload hx hb dX12_spelled_93 (lv_at hl 6 rfl) ?_
        refine lv_if_le (tgt := 115) hx hb dX12_spelled_95 (by decide) (fun c_57 => ?_) (fun c_57 => ?_)
        · have b_58 := z_fleT c_57
          refine lv_lload hx hb dX12_spelled_115 (lv_at hl 0 rfl) ?_
          have hpost : ((-3325102143) ≤ x_56.toInt ∧ x_56.toInt ≤ 5507256447) := (by omega)
          have hX_59 : F_r_spelled x0 x1 x2 x3 x4 x5 = (x_56 : Int64) := by
            refine (F_r_spelled_s ..).trans ?_
            try (extract_lets -merge -useContext +onlyGivenNames y9; have e9 : x_1 = y9 := (by first | exact he_x_1 | exact he_x_1.symm); clear_value y9; subst e9)
            try (extract_lets -merge -useContext +onlyGivenNames y9; have e9 : x_2 = y9 := (by first | exact he_x_2 | exact he_x_2.symm); clear_value y9; subst e9)
            try (extract_lets -merge -useContext +onlyGivenNames y9; have e9 : x_3 = y9 := (by first | exact he_x_3 | exact he_x_3.symm); clear_value y9; subst e9)
            try (extract_lets -merge -useContext +onlyGivenNames y9; have e9 : x_4 = y9 := (by first | exact he_x_4 | exact he_x_4.symm); clear_value y9; subst e9)
            try (extract_lets -merge -useContext +onlyGivenNames y9; have e9 : x_5 = y9 := (by first | exact he_x_5 | exact he_x_5.symm); clear_value y9; subst e9)
            try (extract_lets -merge -useContext +onlyGivenNames y9; have e9 : x_6 = y9 := (by first | exact he_x_6 | exact he_x_6.symm); clear_value y9; subst e9)
            refine (if_pos c_7).trans ?_
            refine (if_neg c_9).trans ?_
            try (extract_lets -merge -useContext +onlyGivenNames y9; have e9 : x_37 = y9 := (by first | exact he_x_37 | exact he_x_37.symm); clear_value y9; subst e9)
            try (extract_lets -merge -useContext +onlyGivenNames y9; have e9 : x_38 = y9 := (by first | exact he_x_38 | exact he_x_38.symm); clear_value y9; subst e9)
            try (extract_lets -merge -useContext +onlyGivenNames y9; have e9 : x_39 = y9 := (by first | exact he_x_39 | exact he_x_39.symm); clear_value y9; subst e9)
            try (extract_lets -merge -useContext +onlyGivenNames y9; have e9 : x_40 = y9 := (by first | exact he_x_40 | exact he_x_40.symm); clear_value y9; subst e9)
            refine (if_neg c_41).trans ?_
            try (extract_lets -merge -useContext +onlyGivenNames y9; have e9 : x_53 = y9 := (by first | exact he_x_53 | exact he_x_53.symm); clear_value y9; subst e9)
            try (extract_lets -merge -useContext +onlyGivenNames y9; have e9 : x_54 = y9 := (by first | exact he_x_54 | exact he_x_54.symm); clear_value y9; subst e9)
            try (extract_lets -merge -useContext +onlyGivenNames y9; have e9 : x_55 = y9 := (by first | exact he_x_55 | exact he_x_55.symm); clear_value y9; subst e9)
            try (extract_lets -merge -useContext +onlyGivenNames y9; have e9 : x_56 = y9 := (by first | exact he_x_56 | exact he_x_56.symm); clear_value y9; subst e9)
            refine (if_pos c_57).trans ?_
            exact rfl
          exact hret _ _ _ _ _ _ () [] hP hD hS rfl (by decide) dX12_spelled_117 ⟨(congrArg (fun z9 => z9) hX_59).symm, hpost⟩
        · have b_60 := z_fgtF c_57
          refine lv_lload hx hb dX12_spelled_98 (lv_at hl 0 rfl) ?_
          refine lv_ldc2 (v := 32) hx hb hown (hts _ tw_2154) dX12_spelled_100 ?_
          refine lv_lmul hx hb dX12_spelled_103 ?_
          refine lv_topl (fun x_61 he_x_61 => ?_)
          have hq_x_61 := z_mulql he_x_61 (rfl : x_56.toInt = _) hkl_32 (by omega) (by omega)
          refine lv_iload hx hb dX12_spelled_104 (lv_at hl 6 rfl) ?_
          refine lv_i2l (v := (x5).toInt64) hx hb dX12_spelled_106 rfl ?_
          refine lv_topl (fun x_62 he_x_62 => ?_)
          have hq_x_62 := z_i2l he_x_62
          refine lv_ladd hx hb dX12_spelled_107 ?_
          refine lv_topl (fun x_63 he_x_63 => ?_)
          have hq_x_63 := z_addql he_x_63 (rfl : x_61.toInt = _) (rfl : x_62.toInt = _) (by omega) (by omega)
          refine lv_ldc2 (v := 96) hx hb hown (hts _ tw_2155) dX12_spelled_108 ?_
          refine lv_lsub hx hb dX12_spelled_111 ?_
          refine lv_topl (fun x_64 he_x_64 => ?_)
          have hq_x_64 := z_subql he_x_64 (rfl : x_63.toInt = _) hkl_96 (by omega) (by omega)
          refine lv_goto (tgt := 117) hx hb dX12_spelled_112 (by decide) ?_
          have hpost : ((-3325102143) ≤ x_64.toInt ∧ x_64.toInt ≤ 5507256447) := (by omega)
          have hX_65 : F_r_spelled x0 x1 x2 x3 x4 x5 = (x_64 : Int64) := by
            refine (F_r_spelled_s ..).trans ?_
            try (extract_lets -merge -useContext +onlyGivenNames y9; have e9 : x_1 = y9 := (by first | exact he_x_1 | exact he_x_1.symm); clear_value y9; subst e9)
            try (extract_lets -merge -useContext +onlyGivenNames y9; have e9 : x_2 = y9 := (by first | exact he_x_2 | exact he_x_2.symm); clear_value y9; subst e9)
            try (extract_lets -merge -useContext +onlyGivenNames y9; have e9 : x_3 = y9 := (by first | exact he_x_3 | exact he_x_3.symm); clear_value y9; subst e9)
            try (extract_lets -merge -useContext +onlyGivenNames y9; have e9 : x_4 = y9 := (by first | exact he_x_4 | exact he_x_4.symm); clear_value y9; subst e9)
            try (extract_lets -merge -useContext +onlyGivenNames y9; have e9 : x_5 = y9 := (by first | exact he_x_5 | exact he_x_5.symm); clear_value y9; subst e9)
            try (extract_lets -merge -useContext +onlyGivenNames y9; have e9 : x_6 = y9 := (by first | exact he_x_6 | exact he_x_6.symm); clear_value y9; subst e9)
            refine (if_pos c_7).trans ?_
            refine (if_neg c_9).trans ?_
            try (extract_lets -merge -useContext +onlyGivenNames y9; have e9 : x_37 = y9 := (by first | exact he_x_37 | exact he_x_37.symm); clear_value y9; subst e9)
            try (extract_lets -merge -useContext +onlyGivenNames y9; have e9 : x_38 = y9 := (by first | exact he_x_38 | exact he_x_38.symm); clear_value y9; subst e9)
            try (extract_lets -merge -useContext +onlyGivenNames y9; have e9 : x_39 = y9 := (by first | exact he_x_39 | exact he_x_39.symm); clear_value y9; subst e9)
            try (extract_lets -merge -useContext +onlyGivenNames y9; have e9 : x_40 = y9 := (by first | exact he_x_40 | exact he_x_40.symm); clear_value y9; subst e9)
            refine (if_neg c_41).trans ?_
            try (extract_lets -merge -useContext +onlyGivenNames y9; have e9 : x_53 = y9 := (by first | exact he_x_53 | exact he_x_53.symm); clear_value y9; subst e9)
            try (extract_lets -merge -useContext +onlyGivenNames y9; have e9 : x_54 = y9 := (by first | exact he_x_54 | exact he_x_54.symm); clear_value y9; subst e9)
            try (extract_lets -merge -useContext +onlyGivenNames y9; have e9 : x_55 = y9 := (by first | exact he_x_55 | exact he_x_55.symm); clear_value y9; subst e9)
            try (extract_lets -merge -useContext +onlyGivenNames y9; have e9 : x_56 = y9 := (by first | exact he_x_56 | exact he_x_56.symm); clear_value y9; subst e9)
            refine (if_neg c_57).trans ?_
            try (extract_lets -merge -useContext +onlyGivenNames y9; have e9 : x_61 = y9 := (by first | exact he_x_61 | exact he_x_61.symm); clear_value y9; subst e9)
            try (extract_lets -merge -useContext +onlyGivenNames y9; have e9 : x_62 = y9 := (by first | exact he_x_62 | exact he_x_62.symm); clear_value y9; subst e9)
            try (extract_lets -merge -useContext +onlyGivenNames y9; have e9 : x_63 = y9 := (by first | exact he_x_63 | exact he_x_63.symm); clear_value y9; subst e9)
            try (extract_lets -merge -useContext +onlyGivenNames y9; have e9 : x_64 = y9 := (by first | exact he_x_64 | exact he_x_64.symm); clear_value y9; subst e9)
            exact rfl
          exact hret _ _ _ _ _ _ () [] hP hD hS rfl (by decide) dX12_spelled_117 ⟨(congrArg (fun z9 => z9) hX_65).symm, hpost⟩
  · have b_66 := z_fgtF c_7
    refine lv_lload hx hb dX12_spelled_23 (lv_at hl 0 rfl) ?_
    refine lv_ldc2 (v := 32) hx hb hown (hts _ tw_2154) dX12_spelled_25 ?_
    refine lv_lmul hx hb dX12_spelled_28 ?_
    refine lv_topl (fun x_67 he_x_67 => ?_)
    have hq_x_67 := z_mulql he_x_67 (rfl : x_6.toInt = _) hkl_32 (by omega) (by omega)
    refine lv_iload_n hx hb dX12_spelled_29 rfl (lv_at hl 3 rfl) ?_
    refine lv_i2l (v := (x2).toInt64) hx hb dX12_spelled_30 rfl ?_
    refine lv_topl (fun x_68 he_x_68 => ?_)
    have hq_x_68 := z_i2l he_x_68
    refine lv_ladd hx hb dX12_spelled_31 ?_
    refine lv_topl (fun x_69 he_x_69 => ?_)
    have hq_x_69 := z_addql he_x_69 (rfl : x_67.toInt = _) (rfl : x_68.toInt = _) (by omega) (by omega)
    refine lv_ldc2 (v := 96) hx hb hown (hts _ tw_2155) dX12_spelled_32 ?_
    refine lv_lsub hx hb dX12_spelled_35 ?_
    refine lv_topl (fun x_70 he_x_70 => ?_)
    have hq_x_70 := z_subql he_x_70 (rfl : x_69.toInt = _) hkl_96 (by omega) (by omega)
    refine lv_goto (tgt := 41) hx hb dX12_spelled_36 (by decide) ?_
    refine lv_lstore (lv' := [(6, .long x_70), (0, .int x0), (1, .int x1), (2, .int x2), (3, .int x3), (4, .int x4), (5, .int x5)]) hx hb dX12_spelled_41 hl (by decide) rfl (fun ls hl => ?_)
    refine lv_iload_n hx hb dX12_spelled_43 rfl (lv_at hl 4 rfl) ?_
    refine lv_if_le (tgt := 63) hx hb dX12_spelled_44 (by decide) (fun c_71 => ?_) (fun c_71 => ?_)
    · have b_72 := z_fleT c_71
      refine lv_lload hx hb dX12_spelled_63 (lv_at hl 0 rfl) ?_
      refine lv_lstore (lv' := [(6, .long x_70), (0, .int x0), (1, .int x1), (2, .int x2), (3, .int x3), (4, .int x4), (5, .int x5)]) hx hb dX12_spelled_65 hl (by decide) rfl (fun ls hl => ?_)
      refine lv_iload hx hb dX12_spelled_67 (lv_at hl 5 rfl) ?_
      refine lv_if_le (tgt := 89) hx hb dX12_spelled_69 (by decide) (fun c_73 => ?_) (fun c_73 => ?_)
      · have b_74 := z_fleT c_73
        refine lv_lload hx hb dX12_spelled_89 (lv_at hl 0 rfl) ?_
        refine lv_lstore (lv' := [(6, .long x_70), (0, .int x0), (1, .int x1), (2, .int x2), (3, .int x3), (4, .int x4), (5, .int x5)]) hx hb dX12_spelled_91 hl (by decide) rfl (fun ls hl => ?_)
        refine lv_iload hx hb dX12_spelled_93 (lv_at hl 6 rfl) ?_
        refine lv_if_le (tgt := 115) hx hb dX12_spelled_95 (by decide) (fun c_75 => ?_) (fun c_75 => ?_)
        · have b_76 := z_fleT c_75
          refine lv_lload hx hb dX12_spelled_115 (lv_at hl 0 rfl) ?_
          have hpost : ((-3325102143) ≤ x_70.toInt ∧ x_70.toInt ≤ 5507256447) := (by omega)
          have hX_77 : F_r_spelled x0 x1 x2 x3 x4 x5 = (x_70 : Int64) := by
            refine (F_r_spelled_s ..).trans ?_
            try (extract_lets -merge -useContext +onlyGivenNames y9; have e9 : x_1 = y9 := (by first | exact he_x_1 | exact he_x_1.symm); clear_value y9; subst e9)
            try (extract_lets -merge -useContext +onlyGivenNames y9; have e9 : x_2 = y9 := (by first | exact he_x_2 | exact he_x_2.symm); clear_value y9; subst e9)
            try (extract_lets -merge -useContext +onlyGivenNames y9; have e9 : x_3 = y9 := (by first | exact he_x_3 | exact he_x_3.symm); clear_value y9; subst e9)
            try (extract_lets -merge -useContext +onlyGivenNames y9; have e9 : x_4 = y9 := (by first | exact he_x_4 | exact he_x_4.symm); clear_value y9; subst e9)
            try (extract_lets -merge -useContext +onlyGivenNames y9; have e9 : x_5 = y9 := (by first | exact he_x_5 | exact he_x_5.symm); clear_value y9; subst e9)
            try (extract_lets -merge -useContext +onlyGivenNames y9; have e9 : x_6 = y9 := (by first | exact he_x_6 | exact he_x_6.symm); clear_value y9; subst e9)
            refine (if_neg c_7).trans ?_
            try (extract_lets -merge -useContext +onlyGivenNames y9; have e9 : x_67 = y9 := (by first | exact he_x_67 | exact he_x_67.symm); clear_value y9; subst e9)
            try (extract_lets -merge -useContext +onlyGivenNames y9; have e9 : x_68 = y9 := (by first | exact he_x_68 | exact he_x_68.symm); clear_value y9; subst e9)
            try (extract_lets -merge -useContext +onlyGivenNames y9; have e9 : x_69 = y9 := (by first | exact he_x_69 | exact he_x_69.symm); clear_value y9; subst e9)
            try (extract_lets -merge -useContext +onlyGivenNames y9; have e9 : x_70 = y9 := (by first | exact he_x_70 | exact he_x_70.symm); clear_value y9; subst e9)
            refine (if_pos c_71).trans ?_
            refine (if_pos c_73).trans ?_
            refine (if_pos c_75).trans ?_
            exact rfl
          exact hret _ _ _ _ _ _ () [] hP hD hS rfl (by decide) dX12_spelled_117 ⟨(congrArg (fun z9 => z9) hX_77).symm, hpost⟩
        · have b_78 := z_fgtF c_75
          refine lv_lload hx hb dX12_spelled_98 (lv_at hl 0 rfl) ?_
          refine lv_ldc2 (v := 32) hx hb hown (hts _ tw_2154) dX12_spelled_100 ?_
          refine lv_lmul hx hb dX12_spelled_103 ?_
          refine lv_topl (fun x_79 he_x_79 => ?_)
          have hq_x_79 := z_mulql he_x_79 (rfl : x_70.toInt = _) hkl_32 (by omega) (by omega)
          refine lv_iload hx hb dX12_spelled_104 (lv_at hl 6 rfl) ?_
          refine lv_i2l (v := (x5).toInt64) hx hb dX12_spelled_106 rfl ?_
          refine lv_topl (fun x_80 he_x_80 => ?_)
          have hq_x_80 := z_i2l he_x_80
          refine lv_ladd hx hb dX12_spelled_107 ?_
          refine lv_topl (fun x_81 he_x_81 => ?_)
          have hq_x_81 := z_addql he_x_81 (rfl : x_79.toInt = _) (rfl : x_80.toInt = _) (by omega) (by omega)
          refine lv_ldc2 (v := 96) hx hb hown (hts _ tw_2155) dX12_spelled_108 ?_
          refine lv_lsub hx hb dX12_spelled_111 ?_
          refine lv_topl (fun x_82 he_x_82 => ?_)
          have hq_x_82 := z_subql he_x_82 (rfl : x_81.toInt = _) hkl_96 (by omega) (by omega)
          refine lv_goto (tgt := 117) hx hb dX12_spelled_112 (by decide) ?_
          have hpost : ((-3325102143) ≤ x_82.toInt ∧ x_82.toInt ≤ 5507256447) := (by omega)
          have hX_83 : F_r_spelled x0 x1 x2 x3 x4 x5 = (x_82 : Int64) := by
            refine (F_r_spelled_s ..).trans ?_
            try (extract_lets -merge -useContext +onlyGivenNames y9; have e9 : x_1 = y9 := (by first | exact he_x_1 | exact he_x_1.symm); clear_value y9; subst e9)
            try (extract_lets -merge -useContext +onlyGivenNames y9; have e9 : x_2 = y9 := (by first | exact he_x_2 | exact he_x_2.symm); clear_value y9; subst e9)
            try (extract_lets -merge -useContext +onlyGivenNames y9; have e9 : x_3 = y9 := (by first | exact he_x_3 | exact he_x_3.symm); clear_value y9; subst e9)
            try (extract_lets -merge -useContext +onlyGivenNames y9; have e9 : x_4 = y9 := (by first | exact he_x_4 | exact he_x_4.symm); clear_value y9; subst e9)
            try (extract_lets -merge -useContext +onlyGivenNames y9; have e9 : x_5 = y9 := (by first | exact he_x_5 | exact he_x_5.symm); clear_value y9; subst e9)
            try (extract_lets -merge -useContext +onlyGivenNames y9; have e9 : x_6 = y9 := (by first | exact he_x_6 | exact he_x_6.symm); clear_value y9; subst e9)
            refine (if_neg c_7).trans ?_
            try (extract_lets -merge -useContext +onlyGivenNames y9; have e9 : x_67 = y9 := (by first | exact he_x_67 | exact he_x_67.symm); clear_value y9; subst e9)
            try (extract_lets -merge -useContext +onlyGivenNames y9; have e9 : x_68 = y9 := (by first | exact he_x_68 | exact he_x_68.symm); clear_value y9; subst e9)
            try (extract_lets -merge -useContext +onlyGivenNames y9; have e9 : x_69 = y9 := (by first | exact he_x_69 | exact he_x_69.symm); clear_value y9; subst e9)
            try (extract_lets -merge -useContext +onlyGivenNames y9; have e9 : x_70 = y9 := (by first | exact he_x_70 | exact he_x_70.symm); clear_value y9; subst e9)
            refine (if_pos c_71).trans ?_
            refine (if_pos c_73).trans ?_
            refine (if_neg c_75).trans ?_
            try (extract_lets -merge -useContext +onlyGivenNames y9; have e9 : x_79 = y9 := (by first | exact he_x_79 | exact he_x_79.symm); clear_value y9; subst e9)
            try (extract_lets -merge -useContext +onlyGivenNames y9; have e9 : x_80 = y9 := (by first | exact he_x_80 | exact he_x_80.symm); clear_value y9; subst e9)
            try (extract_lets -merge -useContext +onlyGivenNames y9; have e9 : x_81 = y9 := (by first | exact he_x_81 | exact he_x_81.symm); clear_value y9; subst e9)
            try (extract_lets -merge -useContext +onlyGivenNames y9; have e9 : x_82 = y9 := (by first | exact he_x_82 | exact he_x_82.symm); clear_value y9; subst e9)
            exact rfl
          exact hret _ _ _ _ _ _ () [] hP hD hS rfl (by decide) dX12_spelled_117 ⟨(congrArg (fun z9 => z9) hX_83).symm, hpost⟩
      · have b_84 := z_fgtF c_73
        refine lv_lload hx hb dX12_spelled_72 (lv_at hl 0 rfl) ?_
        refine lv_ldc2 (v := 32) hx hb hown (hts _ tw_2154) dX12_spelled_74 ?_
        refine lv_lmul hx hb dX12_spelled_77 ?_
        refine lv_topl (fun x_85 he_x_85 => ?_)
        have hq_x_85 := z_mulql he_x_85 (rfl : x_70.toInt = _) hkl_32 (by omega) (by omega)
        refine lv_iload hx hb dX12_spelled_78 (lv_at hl 5 rfl) ?_
        refine lv_i2l (v := (x4).toInt64) hx hb dX12_spelled_80 rfl ?_
        refine lv_topl (fun x_86 he_x_86 => ?_)
        have hq_x_86 := z_i2l he_x_86
        refine lv_ladd hx hb dX12_spelled_81 ?_
        refine lv_topl (fun x_87 he_x_87 => ?_)
        have hq_x_87 := z_addql he_x_87 (rfl : x_85.toInt = _) (rfl : x_86.toInt = _) (by omega) (by omega)
        refine lv_ldc2 (v := 96) hx hb hown (hts _ tw_2155) dX12_spelled_82 ?_
        refine lv_lsub hx hb dX12_spelled_85 ?_
        refine lv_topl (fun x_88 he_x_88 => ?_)
        have hq_x_88 := z_subql he_x_88 (rfl : x_87.toInt = _) hkl_96 (by omega) (by omega)
        refine lv_goto (tgt := 91) hx hb dX12_spelled_86 (by decide) ?_
        refine lv_lstore (lv' := [(6, .long x_88), (0, .int x0), (1, .int x1), (2, .int x2), (3, .int x3), (4, .int x4), (5, .int x5)]) hx hb dX12_spelled_91 hl (by decide) rfl (fun ls hl => ?_)
        refine lv_iload hx hb dX12_spelled_93 (lv_at hl 6 rfl) ?_
        refine lv_if_le (tgt := 115) hx hb dX12_spelled_95 (by decide) (fun c_89 => ?_) (fun c_89 => ?_)
        · have b_90 := z_fleT c_89
          refine lv_lload hx hb dX12_spelled_115 (lv_at hl 0 rfl) ?_
          have hpost : ((-3325102143) ≤ x_88.toInt ∧ x_88.toInt ≤ 5507256447) := (by omega)
          have hX_91 : F_r_spelled x0 x1 x2 x3 x4 x5 = (x_88 : Int64) := by
            refine (F_r_spelled_s ..).trans ?_
            try (extract_lets -merge -useContext +onlyGivenNames y9; have e9 : x_1 = y9 := (by first | exact he_x_1 | exact he_x_1.symm); clear_value y9; subst e9)
            try (extract_lets -merge -useContext +onlyGivenNames y9; have e9 : x_2 = y9 := (by first | exact he_x_2 | exact he_x_2.symm); clear_value y9; subst e9)
            try (extract_lets -merge -useContext +onlyGivenNames y9; have e9 : x_3 = y9 := (by first | exact he_x_3 | exact he_x_3.symm); clear_value y9; subst e9)
            try (extract_lets -merge -useContext +onlyGivenNames y9; have e9 : x_4 = y9 := (by first | exact he_x_4 | exact he_x_4.symm); clear_value y9; subst e9)
            try (extract_lets -merge -useContext +onlyGivenNames y9; have e9 : x_5 = y9 := (by first | exact he_x_5 | exact he_x_5.symm); clear_value y9; subst e9)
            try (extract_lets -merge -useContext +onlyGivenNames y9; have e9 : x_6 = y9 := (by first | exact he_x_6 | exact he_x_6.symm); clear_value y9; subst e9)
            refine (if_neg c_7).trans ?_
            try (extract_lets -merge -useContext +onlyGivenNames y9; have e9 : x_67 = y9 := (by first | exact he_x_67 | exact he_x_67.symm); clear_value y9; subst e9)
            try (extract_lets -merge -useContext +onlyGivenNames y9; have e9 : x_68 = y9 := (by first | exact he_x_68 | exact he_x_68.symm); clear_value y9; subst e9)
            try (extract_lets -merge -useContext +onlyGivenNames y9; have e9 : x_69 = y9 := (by first | exact he_x_69 | exact he_x_69.symm); clear_value y9; subst e9)
            try (extract_lets -merge -useContext +onlyGivenNames y9; have e9 : x_70 = y9 := (by first | exact he_x_70 | exact he_x_70.symm); clear_value y9; subst e9)
            refine (if_pos c_71).trans ?_
            refine (if_neg c_73).trans ?_
            try (extract_lets -merge -useContext +onlyGivenNames y9; have e9 : x_85 = y9 := (by first | exact he_x_85 | exact he_x_85.symm); clear_value y9; subst e9)
            try (extract_lets -merge -useContext +onlyGivenNames y9; have e9 : x_86 = y9 := (by first | exact he_x_86 | exact he_x_86.symm); clear_value y9; subst e9)
            try (extract_lets -merge -useContext +onlyGivenNames y9; have e9 : x_87 = y9 := (by first | exact he_x_87 | exact he_x_87.symm); clear_value y9; subst e9)
            try (extract_lets -merge -useContext +onlyGivenNames y9; have e9 : x_88 = y9 := (by first | exact he_x_88 | exact he_x_88.symm); clear_value y9; subst e9)
            refine (if_pos c_89).trans ?_
            exact rfl
          exact hret _ _ _ _ _ _ () [] hP hD hS rfl (by decide) dX12_spelled_117 ⟨(congrArg (fun z9 => z9) hX_91).symm, hpost⟩
        · have b_92 := z_fgtF c_89
          refine lv_lload hx hb dX12_spelled_98 (lv_at hl 0 rfl) ?_
          refine lv_ldc2 (v := 32) hx hb hown (hts _ tw_2154) dX12_spelled_100 ?_
          refine lv_lmul hx hb dX12_spelled_103 ?_
          refine lv_topl (fun x_93 he_x_93 => ?_)
          have hq_x_93 := z_mulql he_x_93 (rfl : x_88.toInt = _) hkl_32 (by omega) (by omega)
          refine lv_iload hx hb dX12_spelled_104 (lv_at hl 6 rfl) ?_
          refine lv_i2l (v := (x5).toInt64) hx hb dX12_spelled_106 rfl ?_
          refine lv_topl (fun x_94 he_x_94 => ?_)
          have hq_x_94 := z_i2l he_x_94
          refine lv_ladd hx hb dX12_spelled_107 ?_
          refine lv_topl (fun x_95 he_x_95 => ?_)
          have hq_x_95 := z_addql he_x_95 (rfl : x_93.toInt = _) (rfl : x_94.toInt = _) (by omega) (by omega)
          refine lv_ldc2 (v := 96) hx hb hown (hts _ tw_2155) dX12_spelled_108 ?_
          refine lv_lsub hx hb dX12_spelled_111 ?_
          refine lv_topl (fun x_96 he_x_96 => ?_)
          have hq_x_96 := z_subql he_x_96 (rfl : x_95.toInt = _) hkl_96 (by omega) (by omega)
          refine lv_goto (tgt := 117) hx hb dX12_spelled_112 (by decide) ?_
          have hpost : ((-3325102143) ≤ x_96.toInt ∧ x_96.toInt ≤ 5507256447) := (by omega)
          have hX_97 : F_r_spelled x0 x1 x2 x3 x4 x5 = (x_96 : Int64) := by
            refine (F_r_spelled_s ..).trans ?_
            try (extract_lets -merge -useContext +onlyGivenNames y9; have e9 : x_1 = y9 := (by first | exact he_x_1 | exact he_x_1.symm); clear_value y9; subst e9)
            try (extract_lets -merge -useContext +onlyGivenNames y9; have e9 : x_2 = y9 := (by first | exact he_x_2 | exact he_x_2.symm); clear_value y9; subst e9)
            try (extract_lets -merge -useContext +onlyGivenNames y9; have e9 : x_3 = y9 := (by first | exact he_x_3 | exact he_x_3.symm); clear_value y9; subst e9)
            try (extract_lets -merge -useContext +onlyGivenNames y9; have e9 : x_4 = y9 := (by first | exact he_x_4 | exact he_x_4.symm); clear_value y9; subst e9)
            try (extract_lets -merge -useContext +onlyGivenNames y9; have e9 : x_5 = y9 := (by first | exact he_x_5 | exact he_x_5.symm); clear_value y9; subst e9)
            try (extract_lets -merge -useContext +onlyGivenNames y9; have e9 : x_6 = y9 := (by first | exact he_x_6 | exact he_x_6.symm); clear_value y9; subst e9)
            refine (if_neg c_7).trans ?_
            try (extract_lets -merge -useContext +onlyGivenNames y9; have e9 : x_67 = y9 := (by first | exact he_x_67 | exact he_x_67.symm); clear_value y9; subst e9)
            try (extract_lets -merge -useContext +onlyGivenNames y9; have e9 : x_68 = y9 := (by first | exact he_x_68 | exact he_x_68.symm); clear_value y9; subst e9)
            try (extract_lets -merge -useContext +onlyGivenNames y9; have e9 : x_69 = y9 := (by first | exact he_x_69 | exact he_x_69.symm); clear_value y9; subst e9)
            try (extract_lets -merge -useContext +onlyGivenNames y9; have e9 : x_70 = y9 := (by first | exact he_x_70 | exact he_x_70.symm); clear_value y9; subst e9)
            refine (if_pos c_71).trans ?_
            refine (if_neg c_73).trans ?_
            try (extract_lets -merge -useContext +onlyGivenNames y9; have e9 : x_85 = y9 := (by first | exact he_x_85 | exact he_x_85.symm); clear_value y9; subst e9)
            try (extract_lets -merge -useContext +onlyGivenNames y9; have e9 : x_86 = y9 := (by first | exact he_x_86 | exact he_x_86.symm); clear_value y9; subst e9)
            try (extract_lets -merge -useContext +onlyGivenNames y9; have e9 : x_87 = y9 := (by first | exact he_x_87 | exact he_x_87.symm); clear_value y9; subst e9)
            try (extract_lets -merge -useContext +onlyGivenNames y9; have e9 : x_88 = y9 := (by first | exact he_x_88 | exact he_x_88.symm); clear_value y9; subst e9)
            refine (if_neg c_89).trans ?_
            try (extract_lets -merge -useContext +onlyGivenNames y9; have e9 : x_93 = y9 := (by first | exact he_x_93 | exact he_x_93.symm); clear_value y9; subst e9)
            try (extract_lets -merge -useContext +onlyGivenNames y9; have e9 : x_94 = y9 := (by first | exact he_x_94 | exact he_x_94.symm); clear_value y9; subst e9)
            try (extract_lets -merge -useContext +onlyGivenNames y9; have e9 : x_95 = y9 := (by first | exact he_x_95 | exact he_x_95.symm); clear_value y9; subst e9)
            try (extract_lets -merge -useContext +onlyGivenNames y9; have e9 : x_96 = y9 := (by first | exact he_x_96 | exact he_x_96.symm); clear_value y9; subst e9)
            exact rfl
          exact hret _ _ _ _ _ _ () [] hP hD hS rfl (by decide) dX12_spelled_117 ⟨(congrArg (fun z9 => z9) hX_97).symm, hpost⟩
    · have b_98 := z_fgtF c_71
      refine lv_lload hx hb dX12_spelled_47 (lv_at hl 0 rfl) ?_
      refine lv_ldc2 (v := 32) hx hb hown (hts _ tw_2154) dX12_spelled_49 ?_
      refine lv_lmul hx hb dX12_spelled_52 ?_
      refine lv_topl (fun x_99 he_x_99 => ?_)
      have hq_x_99 := z_mulql he_x_99 (rfl : x_70.toInt = _) hkl_32 (by omega) (by omega)
      refine lv_iload_n hx hb dX12_spelled_53 rfl (lv_at hl 4 rfl) ?_
      refine lv_i2l (v := (x3).toInt64) hx hb dX12_spelled_54 rfl ?_
      refine lv_topl (fun x_100 he_x_100 => ?_)
      have hq_x_100 := z_i2l he_x_100
      refine lv_ladd hx hb dX12_spelled_55 ?_
      refine lv_topl (fun x_101 he_x_101 => ?_)
      have hq_x_101 := z_addql he_x_101 (rfl : x_99.toInt = _) (rfl : x_100.toInt = _) (by omega) (by omega)
      refine lv_ldc2 (v := 96) hx hb hown (hts _ tw_2155) dX12_spelled_56 ?_
      refine lv_lsub hx hb dX12_spelled_59 ?_
      refine lv_topl (fun x_102 he_x_102 => ?_)
      have hq_x_102 := z_subql he_x_102 (rfl : x_101.toInt = _) hkl_96 (by omega) (by omega)
      refine lv_goto (tgt := 65) hx hb dX12_spelled_60 (by decide) ?_
      refine lv_lstore (lv' := [(6, .long x_102), (0, .int x0), (1, .int x1), (2, .int x2), (3, .int x3), (4, .int x4), (5, .int x5)]) hx hb dX12_spelled_65 hl (by decide) rfl (fun ls hl => ?_)
      refine lv_iload hx hb dX12_spelled_67 (lv_at hl 5 rfl) ?_
      refine lv_if_le (tgt := 89) hx hb dX12_spelled_69 (by decide) (fun c_103 => ?_) (fun c_103 => ?_)
      · have b_104 := z_fleT c_103
        refine lv_lload hx hb dX12_spelled_89 (lv_at hl 0 rfl) ?_
        refine lv_lstore (lv' := [(6, .long x_102), (0, .int x0), (1, .int x1), (2, .int x2), (3, .int x3), (4, .int x4), (5, .int x5)]) hx hb dX12_spelled_91 hl (by decide) rfl (fun ls hl => ?_)
        refine lv_iload hx hb dX12_spelled_93 (lv_at hl 6 rfl) ?_
        refine lv_if_le (tgt := 115) hx hb dX12_spelled_95 (by decide) (fun c_105 => ?_) (fun c_105 => ?_)
        · have b_106 := z_fleT c_105
          refine lv_lload hx hb dX12_spelled_115 (lv_at hl 0 rfl) ?_
          have hpost : ((-3325102143) ≤ x_102.toInt ∧ x_102.toInt ≤ 5507256447) := (by omega)
          have hX_107 : F_r_spelled x0 x1 x2 x3 x4 x5 = (x_102 : Int64) := by
            refine (F_r_spelled_s ..).trans ?_
            try (extract_lets -merge -useContext +onlyGivenNames y9; have e9 : x_1 = y9 := (by first | exact he_x_1 | exact he_x_1.symm); clear_value y9; subst e9)
            try (extract_lets -merge -useContext +onlyGivenNames y9; have e9 : x_2 = y9 := (by first | exact he_x_2 | exact he_x_2.symm); clear_value y9; subst e9)
            try (extract_lets -merge -useContext +onlyGivenNames y9; have e9 : x_3 = y9 := (by first | exact he_x_3 | exact he_x_3.symm); clear_value y9; subst e9)
            try (extract_lets -merge -useContext +onlyGivenNames y9; have e9 : x_4 = y9 := (by first | exact he_x_4 | exact he_x_4.symm); clear_value y9; subst e9)
            try (extract_lets -merge -useContext +onlyGivenNames y9; have e9 : x_5 = y9 := (by first | exact he_x_5 | exact he_x_5.symm); clear_value y9; subst e9)
            try (extract_lets -merge -useContext +onlyGivenNames y9; have e9 : x_6 = y9 := (by first | exact he_x_6 | exact he_x_6.symm); clear_value y9; subst e9)
            refine (if_neg c_7).trans ?_
            try (extract_lets -merge -useContext +onlyGivenNames y9; have e9 : x_67 = y9 := (by first | exact he_x_67 | exact he_x_67.symm); clear_value y9; subst e9)
            try (extract_lets -merge -useContext +onlyGivenNames y9; have e9 : x_68 = y9 := (by first | exact he_x_68 | exact he_x_68.symm); clear_value y9; subst e9)
            try (extract_lets -merge -useContext +onlyGivenNames y9; have e9 : x_69 = y9 := (by first | exact he_x_69 | exact he_x_69.symm); clear_value y9; subst e9)
            try (extract_lets -merge -useContext +onlyGivenNames y9; have e9 : x_70 = y9 := (by first | exact he_x_70 | exact he_x_70.symm); clear_value y9; subst e9)
            refine (if_neg c_71).trans ?_
            try (extract_lets -merge -useContext +onlyGivenNames y9; have e9 : x_99 = y9 := (by first | exact he_x_99 | exact he_x_99.symm); clear_value y9; subst e9)
            try (extract_lets -merge -useContext +onlyGivenNames y9; have e9 : x_100 = y9 := (by first | exact he_x_100 | exact he_x_100.symm); clear_value y9; subst e9)
            try (extract_lets -merge -useContext +onlyGivenNames y9; have e9 : x_101 = y9 := (by first | exact he_x_101 | exact he_x_101.symm); clear_value y9; subst e9)
            try (extract_lets -merge -useContext +onlyGivenNames y9; have e9 : x_102 = y9 := (by first | exact he_x_102 | exact he_x_102.symm); clear_value y9; subst e9)
            refine (if_pos c_103).trans ?_
            refine (if_pos c_105).trans ?_
            exact rfl
          exact hret _ _ _ _ _ _ () [] hP hD hS rfl (by decide) dX12_spelled_117 ⟨(congrArg (fun z9 => z9) hX_107).symm, hpost⟩
        · have b_108 := z_fgtF c_105
          refine lv_lload hx hb dX12_spelled_98 (lv_at hl 0 rfl) ?_
          refine lv_ldc2 (v := 32) hx hb hown (hts _ tw_2154) dX12_spelled_100 ?_
          refine lv_lmul hx hb dX12_spelled_103 ?_
          refine lv_topl (fun x_109 he_x_109 => ?_)
          have hq_x_109 := z_mulql he_x_109 (rfl : x_102.toInt = _) hkl_32 (by omega) (by omega)
          refine lv_iload hx hb dX12_spelled_104 (lv_at hl 6 rfl) ?_
          refine lv_i2l (v := (x5).toInt64) hx hb dX12_spelled_106 rfl ?_
          refine lv_topl (fun x_110 he_x_110 => ?_)
          have hq_x_110 := z_i2l he_x_110
          refine lv_ladd hx hb dX12_spelled_107 ?_
          refine lv_topl (fun x_111 he_x_111 => ?_)
          have hq_x_111 := z_addql he_x_111 (rfl : x_109.toInt = _) (rfl : x_110.toInt = _) (by omega) (by omega)
          refine lv_ldc2 (v := 96) hx hb hown (hts _ tw_2155) dX12_spelled_108 ?_
          refine lv_lsub hx hb dX12_spelled_111 ?_
          refine lv_topl (fun x_112 he_x_112 => ?_)
          have hq_x_112 := z_subql he_x_112 (rfl : x_111.toInt = _) hkl_96 (by omega) (by omega)
          refine lv_goto (tgt := 117) hx hb dX12_spelled_112 (by decide) ?_
          have hpost : ((-3325102143) ≤ x_112.toInt ∧ x_112.toInt ≤ 5507256447) := (by omega)
          have hX_113 : F_r_spelled x0 x1 x2 x3 x4 x5 = (x_112 : Int64) := by
            refine (F_r_spelled_s ..).trans ?_
            try (extract_lets -merge -useContext +onlyGivenNames y9; have e9 : x_1 = y9 := (by first | exact he_x_1 | exact he_x_1.symm); clear_value y9; subst e9)
            try (extract_lets -merge -useContext +onlyGivenNames y9; have e9 : x_2 = y9 := (by first | exact he_x_2 | exact he_x_2.symm); clear_value y9; subst e9)
            try (extract_lets -merge -useContext +onlyGivenNames y9; have e9 : x_3 = y9 := (by first | exact he_x_3 | exact he_x_3.symm); clear_value y9; subst e9)
            try (extract_lets -merge -useContext +onlyGivenNames y9; have e9 : x_4 = y9 := (by first | exact he_x_4 | exact he_x_4.symm); clear_value y9; subst e9)
            try (extract_lets -merge -useContext +onlyGivenNames y9; have e9 : x_5 = y9 := (by first | exact he_x_5 | exact he_x_5.symm); clear_value y9; subst e9)
            try (extract_lets -merge -useContext +onlyGivenNames y9; have e9 : x_6 = y9 := (by first | exact he_x_6 | exact he_x_6.symm); clear_value y9; subst e9)
            refine (if_neg c_7).trans ?_
            try (extract_lets -merge -useContext +onlyGivenNames y9; have e9 : x_67 = y9 := (by first | exact he_x_67 | exact he_x_67.symm); clear_value y9; subst e9)
            try (extract_lets -merge -useContext +onlyGivenNames y9; have e9 : x_68 = y9 := (by first | exact he_x_68 | exact he_x_68.symm); clear_value y9; subst e9)
            try (extract_lets -merge -useContext +onlyGivenNames y9; have e9 : x_69 = y9 := (by first | exact he_x_69 | exact he_x_69.symm); clear_value y9; subst e9)
            try (extract_lets -merge -useContext +onlyGivenNames y9; have e9 : x_70 = y9 := (by first | exact he_x_70 | exact he_x_70.symm); clear_value y9; subst e9)
            refine (if_neg c_71).trans ?_
            try (extract_lets -merge -useContext +onlyGivenNames y9; have e9 : x_99 = y9 := (by first | exact he_x_99 | exact he_x_99.symm); clear_value y9; subst e9)
            try (extract_lets -merge -useContext +onlyGivenNames y9; have e9 : x_100 = y9 := (by first | exact he_x_100 | exact he_x_100.symm); clear_value y9; subst e9)
            try (extract_lets -merge -useContext +onlyGivenNames y9; have e9 : x_101 = y9 := (by first | exact he_x_101 | exact he_x_101.symm); clear_value y9; subst e9)
            try (extract_lets -merge -useContext +onlyGivenNames y9; have e9 : x_102 = y9 := (by first | exact he_x_102 | exact he_x_102.symm); clear_value y9; subst e9)
            refine (if_pos c_103).trans ?_
            refine (if_neg c_105).trans ?_
            try (extract_lets -merge -useContext +onlyGivenNames y9; have e9 : x_109 = y9 := (by first | exact he_x_109 | exact he_x_109.symm); clear_value y9; subst e9)
            try (extract_lets -merge -useContext +onlyGivenNames y9; have e9 : x_110 = y9 := (by first | exact he_x_110 | exact he_x_110.symm); clear_value y9; subst e9)
            try (extract_lets -merge -useContext +onlyGivenNames y9; have e9 : x_111 = y9 := (by first | exact he_x_111 | exact he_x_111.symm); clear_value y9; subst e9)
            try (extract_lets -merge -useContext +onlyGivenNames y9; have e9 : x_112 = y9 := (by first | exact he_x_112 | exact he_x_112.symm); clear_value y9; subst e9)
            exact rfl
          exact hret _ _ _ _ _ _ () [] hP hD hS rfl (by decide) dX12_spelled_117 ⟨(congrArg (fun z9 => z9) hX_113).symm, hpost⟩
      · have b_114 := z_fgtF c_103
        refine lv_lload hx hb dX12_spelled_72 (lv_at hl 0 rfl) ?_
        refine lv_ldc2 (v := 32) hx hb hown (hts _ tw_2154) dX12_spelled_74 ?_
        refine lv_lmul hx hb dX12_spelled_77 ?_
        refine lv_topl (fun x_115 he_x_115 => ?_)
        have hq_x_115 := z_mulql he_x_115 (rfl : x_102.toInt = _) hkl_32 (by omega) (by omega)
        refine lv_iload hx hb dX12_spelled_78 (lv_at hl 5 rfl) ?_
        refine lv_i2l (v := (x4).toInt64) hx hb dX12_spelled_80 rfl ?_
        refine lv_topl (fun x_116 he_x_116 => ?_)
        have hq_x_116 := z_i2l he_x_116
        refine lv_ladd hx hb dX12_spelled_81 ?_
        refine lv_topl (fun x_117 he_x_117 => ?_)
        have hq_x_117 := z_addql he_x_117 (rfl : x_115.toInt = _) (rfl : x_116.toInt = _) (by omega) (by omega)
        refine lv_ldc2 (v := 96) hx hb hown (hts _ tw_2155) dX12_spelled_82 ?_
        refine lv_lsub hx hb dX12_spelled_85 ?_
        refine lv_topl (fun x_118 he_x_118 => ?_)
        have hq_x_118 := z_subql he_x_118 (rfl : x_117.toInt = _) hkl_96 (by omega) (by omega)
        refine lv_goto (tgt := 91) hx hb dX12_spelled_86 (by decide) ?_
        refine lv_lstore (lv' := [(6, .long x_118), (0, .int x0), (1, .int x1), (2, .int x2), (3, .int x3), (4, .int x4), (5, .int x5)]) hx hb dX12_spelled_91 hl (by decide) rfl (fun ls hl => ?_)
        refine lv_iload hx hb dX12_spelled_93 (lv_at hl 6 rfl) ?_
        refine lv_if_le (tgt := 115) hx hb dX12_spelled_95 (by decide) (fun c_119 => ?_) (fun c_119 => ?_)
        · have b_120 := z_fleT c_119
          refine lv_lload hx hb dX12_spelled_115 (lv_at hl 0 rfl) ?_
          have hpost : ((-3325102143) ≤ x_118.toInt ∧ x_118.toInt ≤ 5507256447) := (by omega)
          have hX_121 : F_r_spelled x0 x1 x2 x3 x4 x5 = (x_118 : Int64) := by
            refine (F_r_spelled_s ..).trans ?_
            try (extract_lets -merge -useContext +onlyGivenNames y9; have e9 : x_1 = y9 := (by first | exact he_x_1 | exact he_x_1.symm); clear_value y9; subst e9)
            try (extract_lets -merge -useContext +onlyGivenNames y9; have e9 : x_2 = y9 := (by first | exact he_x_2 | exact he_x_2.symm); clear_value y9; subst e9)
            try (extract_lets -merge -useContext +onlyGivenNames y9; have e9 : x_3 = y9 := (by first | exact he_x_3 | exact he_x_3.symm); clear_value y9; subst e9)
            try (extract_lets -merge -useContext +onlyGivenNames y9; have e9 : x_4 = y9 := (by first | exact he_x_4 | exact he_x_4.symm); clear_value y9; subst e9)
            try (extract_lets -merge -useContext +onlyGivenNames y9; have e9 : x_5 = y9 := (by first | exact he_x_5 | exact he_x_5.symm); clear_value y9; subst e9)
            try (extract_lets -merge -useContext +onlyGivenNames y9; have e9 : x_6 = y9 := (by first | exact he_x_6 | exact he_x_6.symm); clear_value y9; subst e9)
            refine (if_neg c_7).trans ?_
            try (extract_lets -merge -useContext +onlyGivenNames y9; have e9 : x_67 = y9 := (by first | exact he_x_67 | exact he_x_67.symm); clear_value y9; subst e9)
            try (extract_lets -merge -useContext +onlyGivenNames y9; have e9 : x_68 = y9 := (by first | exact he_x_68 | exact he_x_68.symm); clear_value y9; subst e9)
            try (extract_lets -merge -useContext +onlyGivenNames y9; have e9 : x_69 = y9 := (by first | exact he_x_69 | exact he_x_69.symm); clear_value y9; subst e9)
            try (extract_lets -merge -useContext +onlyGivenNames y9; have e9 : x_70 = y9 := (by first | exact he_x_70 | exact he_x_70.symm); clear_value y9; subst e9)
            refine (if_neg c_71).trans ?_
            try (extract_lets -merge -useContext +onlyGivenNames y9; have e9 : x_99 = y9 := (by first | exact he_x_99 | exact he_x_99.symm); clear_value y9; subst e9)
            try (extract_lets -merge -useContext +onlyGivenNames y9; have e9 : x_100 = y9 := (by first | exact he_x_100 | exact he_x_100.symm); clear_value y9; subst e9)
            try (extract_lets -merge -useContext +onlyGivenNames y9; have e9 : x_101 = y9 := (by first | exact he_x_101 | exact he_x_101.symm); clear_value y9; subst e9)
            try (extract_lets -merge -useContext +onlyGivenNames y9; have e9 : x_102 = y9 := (by first | exact he_x_102 | exact he_x_102.symm); clear_value y9; subst e9)
            refine (if_neg c_103).trans ?_
            try (extract_lets -merge -useContext +onlyGivenNames y9; have e9 : x_115 = y9 := (by first | exact he_x_115 | exact he_x_115.symm); clear_value y9; subst e9)
            try (extract_lets -merge -useContext +onlyGivenNames y9; have e9 : x_116 = y9 := (by first | exact he_x_116 | exact he_x_116.symm); clear_value y9; subst e9)
            try (extract_lets -merge -useContext +onlyGivenNames y9; have e9 : x_117 = y9 := (by first | exact he_x_117 | exact he_x_117.symm); clear_value y9; subst e9)
            try (extract_lets -merge -useContext +onlyGivenNames y9; have e9 : x_118 = y9 := (by first | exact he_x_118 | exact he_x_118.symm); clear_value y9; subst e9)
            refine (if_pos c_119).trans ?_
            exact rfl
          exact hret _ _ _ _ _ _ () [] hP hD hS rfl (by decide) dX12_spelled_117 ⟨(congrArg (fun z9 => z9) hX_121).symm, hpost⟩
        · have b_122 := z_fgtF c_119
          refine lv_lload hx hb dX12_spelled_98 (lv_at hl 0 rfl) ?_
          refine lv_ldc2 (v := 32) hx hb hown (hts _ tw_2154) dX12_spelled_100 ?_
          refine lv_lmul hx hb dX12_spelled_103 ?_
          refine lv_topl (fun x_123 he_x_123 => ?_)
          have hq_x_123 := z_mulql he_x_123 (rfl : x_118.toInt = _) hkl_32 (by omega) (by omega)
          refine lv_iload hx hb dX12_spelled_104 (lv_at hl 6 rfl) ?_
          refine lv_i2l (v := (x5).toInt64) hx hb dX12_spelled_106 rfl ?_
          refine lv_topl (fun x_124 he_x_124 => ?_)
          have hq_x_124 := z_i2l he_x_124
          refine lv_ladd hx hb dX12_spelled_107 ?_
          refine lv_topl (fun x_125 he_x_125 => ?_)
          have hq_x_125 := z_addql he_x_125 (rfl : x_123.toInt = _) (rfl : x_124.toInt = _) (by omega) (by omega)
          refine lv_ldc2 (v := 96) hx hb hown (hts _ tw_2155) dX12_spelled_108 ?_
          refine lv_lsub hx hb dX12_spelled_111 ?_
          refine lv_topl (fun x_126 he_x_126 => ?_)
          have hq_x_126 := z_subql he_x_126 (rfl : x_125.toInt = _) hkl_96 (by omega) (by omega)
          refine lv_goto (tgt := 117) hx hb dX12_spelled_112 (by decide) ?_
          have hpost : ((-3325102143) ≤ x_126.toInt ∧ x_126.toInt ≤ 5507256447) := (by omega)
          have hX_127 : F_r_spelled x0 x1 x2 x3 x4 x5 = (x_126 : Int64) := by
            refine (F_r_spelled_s ..).trans ?_
            try (extract_lets -merge -useContext +onlyGivenNames y9; have e9 : x_1 = y9 := (by first | exact he_x_1 | exact he_x_1.symm); clear_value y9; subst e9)
            try (extract_lets -merge -useContext +onlyGivenNames y9; have e9 : x_2 = y9 := (by first | exact he_x_2 | exact he_x_2.symm); clear_value y9; subst e9)
            try (extract_lets -merge -useContext +onlyGivenNames y9; have e9 : x_3 = y9 := (by first | exact he_x_3 | exact he_x_3.symm); clear_value y9; subst e9)
            try (extract_lets -merge -useContext +onlyGivenNames y9; have e9 : x_4 = y9 := (by first | exact he_x_4 | exact he_x_4.symm); clear_value y9; subst e9)
            try (extract_lets -merge -useContext +onlyGivenNames y9; have e9 : x_5 = y9 := (by first | exact he_x_5 | exact he_x_5.symm); clear_value y9; subst e9)
            try (extract_lets -merge -useContext +onlyGivenNames y9; have e9 : x_6 = y9 := (by first | exact he_x_6 | exact he_x_6.symm); clear_value y9; subst e9)
            refine (if_neg c_7).trans ?_
            try (extract_lets -merge -useContext +onlyGivenNames y9; have e9 : x_67 = y9 := (by first | exact he_x_67 | exact he_x_67.symm); clear_value y9; subst e9)
            try (extract_lets -merge -useContext +onlyGivenNames y9; have e9 : x_68 = y9 := (by first | exact he_x_68 | exact he_x_68.symm); clear_value y9; subst e9)
            try (extract_lets -merge -useContext +onlyGivenNames y9; have e9 : x_69 = y9 := (by first | exact he_x_69 | exact he_x_69.symm); clear_value y9; subst e9)
            try (extract_lets -merge -useContext +onlyGivenNames y9; have e9 : x_70 = y9 := (by first | exact he_x_70 | exact he_x_70.symm); clear_value y9; subst e9)
            refine (if_neg c_71).trans ?_
            try (extract_lets -merge -useContext +onlyGivenNames y9; have e9 : x_99 = y9 := (by first | exact he_x_99 | exact he_x_99.symm); clear_value y9; subst e9)
            try (extract_lets -merge -useContext +onlyGivenNames y9; have e9 : x_100 = y9 := (by first | exact he_x_100 | exact he_x_100.symm); clear_value y9; subst e9)
            try (extract_lets -merge -useContext +onlyGivenNames y9; have e9 : x_101 = y9 := (by first | exact he_x_101 | exact he_x_101.symm); clear_value y9; subst e9)
            try (extract_lets -merge -useContext +onlyGivenNames y9; have e9 : x_102 = y9 := (by first | exact he_x_102 | exact he_x_102.symm); clear_value y9; subst e9)
            refine (if_neg c_103).trans ?_
            try (extract_lets -merge -useContext +onlyGivenNames y9; have e9 : x_115 = y9 := (by first | exact he_x_115 | exact he_x_115.symm); clear_value y9; subst e9)
            try (extract_lets -merge -useContext +onlyGivenNames y9; have e9 : x_116 = y9 := (by first | exact he_x_116 | exact he_x_116.symm); clear_value y9; subst e9)
            try (extract_lets -merge -useContext +onlyGivenNames y9; have e9 : x_117 = y9 := (by first | exact he_x_117 | exact he_x_117.symm); clear_value y9; subst e9)
            try (extract_lets -merge -useContext +onlyGivenNames y9; have e9 : x_118 = y9 := (by first | exact he_x_118 | exact he_x_118.symm); clear_value y9; subst e9)
            refine (if_neg c_119).trans ?_
            try (extract_lets -merge -useContext +onlyGivenNames y9; have e9 : x_123 = y9 := (by first | exact he_x_123 | exact he_x_123.symm); clear_value y9; subst e9)
            try (extract_lets -merge -useContext +onlyGivenNames y9; have e9 : x_124 = y9 := (by first | exact he_x_124 | exact he_x_124.symm); clear_value y9; subst e9)
            try (extract_lets -merge -useContext +onlyGivenNames y9; have e9 : x_125 = y9 := (by first | exact he_x_125 | exact he_x_125.symm); clear_value y9; subst e9)
            try (extract_lets -merge -useContext +onlyGivenNames y9; have e9 : x_126 = y9 := (by first | exact he_x_126 | exact he_x_126.symm); clear_value y9; subst e9)
            exact rfl
          exact hret _ _ _ _ _ _ () [] hP hD hS rfl (by decide) dX12_spelled_117 ⟨(congrArg (fun z9 => z9) hX_127).symm, hpost⟩
set_option maxHeartbeats 4000000 in
set_option maxRecDepth 100000 in
theorem r_power (l : Launch) (G : va_G) (cA : zCA) (nn : Int32) (hr_nn : 0 ≤ nn.toInt ∧ nn.toInt ≤ 4) : zCl l yX12_power cX12_power 4 (some .long) ({ frames := 0, cells := 0, slots := 0, locals := 0 }) G cA [.int nn] [] (S := Unit) (fun (r : Int64) (u : Unit) => True) (fun (u : Unit) => []) 0 0 := by
  have hk_0 : (0 : Int32).toInt = 0 := by decide +kernel
  have hk_1 : (1 : Int32).toInt = 1 := by decide +kernel
  have hkl_16 : (16 : Int64).toInt = 16 := by decide +kernel
  refine z_start2l (own := RX12) (by decide) (Nat.le_of_ble_eq_true rfl) rfl ?_
  intro p e s m args below meth c A ls Q hx hb hml hts hown hK hE hT hP hD hS hA hl hret
  have hl : lv_has ls 4 [(0, .int nn)] := hl
  refine lv_lconst (v := 1) hx hb dX12_power_0 (by decide) ?_
  refine lv_lstore_n (lv' := [(1, .long 1), (0, .int nn)]) hx hb dX12_power_1 rfl hl (by decide) rfl (fun ls hl => ?_)
  refine lv_iconst (v := 0) hx hb dX12_power_2 (by decide) ?_
  refine lv_istore_n (lv' := [(3, .int 0), (1, .long 1), (0, .int nn)]) hx hb dX12_power_3 rfl hl (by decide) rfl (fun ls hl => ?_)
  have hlp_60 : ∀ (n : Nat) (v_53 : Int64) (v_54 : Int32) (H : Heap) (locs : List Loc) (ls : Array Slot), (2147483647 - v_54.toInt).toNat < n → (0 ≤ v_54.toInt ∧ v_54.toInt ≤ 4) → va_P G vwCl [] H → va_D A [] → va_S A s.heap H locs → lv_has ls 4 [(0, .int nn), (1, .long v_53), (3, .int v_54)] → W p l e ({ frames := 0, cells := 0, slots := 0, locals := 0 }) s m args below meth c H locs 0 0 Q (F0 m 4 ls []) := by
    intro n
    induction n with
    | zero =>
      intro v_53 v_54 H locs ls hmu_hlp_60 hr_v_54 hP hD hS hl
      exact absurd hmu_hlp_60 (Nat.not_lt_zero _)
    | succ n ih_61 =>
      intro v_53 v_54 H locs ls hmu_hlp_60 hr_v_54 hP hD hS hl
      refine lv_iload_n hx hb dX12_power_4 rfl (lv_at hl 2 rfl) ?_
      refine lv_iload_n hx hb dX12_power_5 rfl (lv_at hl 0 rfl) ?_
      refine lv_icmp_ge (tgt := 21) hx hb dX12_power_6 (by decide) (fun c_62 => ?_) (fun c_62 => ?_)
      · have b_63 := z_fgeT c_62
        refine lv_lload_n hx hb dX12_power_21 rfl (lv_at hl 1 rfl) ?_
        exact hret _ _ _ _ _ _ () [] hP hD hS rfl (by decide) dX12_power_22 trivial
      · have b_64 := z_fltF c_62
        refine lv_lload_n hx hb dX12_power_9 rfl (lv_at hl 1 rfl) ?_
        refine lv_ldc2 (v := 16) hx hb hown (hts _ tw_2470) dX12_power_10 ?_
        refine lv_lmul hx hb dX12_power_13 ?_
        have hL_v_53 := z_fulll v_53
        refine lv_topl (fun x_65 he_x_65 => ?_)
        refine lv_lstore_n (lv' := [(1, .long x_65), (0, .int nn), (3, .int v_54)]) hx hb dX12_power_14 rfl hl (by decide) rfl (fun ls hl => ?_)
        obtain ⟨x_66, he_x_66⟩ : ∃ z : Int32, z = v_54 + 1 := ⟨_, rfl⟩
        have hq_x_66 := z_addq he_x_66 (rfl : v_54.toInt = _) hk_1 (by omega) (by omega)
        refine lv_iinc (v := x_66) (lv' := [(3, .int x_66), (1, .long x_65), (0, .int nn)]) hx hb dX12_power_15 hl (k := 2) rfl ((z_ofi (by decide +kernel)).trans he_x_66.symm) (by decide) rfl (fun ls hl => ?_)
        refine lv_goto (tgt := 4) hx hb dX12_power_18 (by decide) ?_
        exact ih_61 x_65 x_66 H locs ls (by omega) (by omega) hP hD hS (lv_sub hl [2, 1, 0] rfl)
  exact hlp_60 _ 1 0 _ _ _ (Nat.lt_succ_self _) (by decide +kernel) hP hD hS (lv_sub hl [2, 1, 0] rfl)
set_option maxHeartbeats 40000000 in
set_option maxRecDepth 100000 in
theorem r_bits (l : Launch) (G : va_G) (cA : zCA) (x : Int32) : zCi l yX12_bits cX12_bits 1 (some .int) ({ frames := 0, cells := 0, slots := 0, locals := 0 }) G cA [.int x] [] (S := Unit) (fun (r : Int32) (u : Unit) => (r = (F_r_bits x)) ∧ ((0 ≤ r.toInt ∧ r.toInt ≤ 3))) (fun (u : Unit) => []) 0 0 := by
  have hk_1 : (1 : Int32).toInt = 1 := by decide +kernel
  refine z_start2i (own := RX12) (by decide) (Nat.le_of_ble_eq_true rfl) rfl ?_
  intro p e s m args below meth c A ls Q hx hb hml hts hown hK hE hT hP hD hS hA hl hret
  have hl : lv_has ls 1 [(0, .int x)] := hl
  refine lv_iload_n hx hb dX12_bits_0 rfl (lv_at hl 0 rfl) ?_
  refine lv_iconst (v := 1) hx hb dX12_bits_1 (by decide) ?_
  refine lv_iand hx hb dX12_bits_2 ?_
  have hL_x := z_full x
  refine lv_topi (fun x_1 he_x_1 => ?_)
  have hr_x_1 := z_andr he_x_1 hk_1 (by decide)
  refine lv_iload_n hx hb dX12_bits_3 rfl (lv_at hl 0 rfl) ?_
  refine lv_iconst (v := 1) hx hb dX12_bits_4 (by decide) ?_
  refine lv_ishr hx hb dX12_bits_5 ?_
  refine lv_topi (fun x_2 he_x_2 => ?_)
  refine lv_iconst (v := 1) hx hb dX12_bits_6 (by decide) ?_
  refine lv_iand hx hb dX12_bits_7 ?_
  have hL_x_2 := z_full x_2
  refine lv_topi (fun x_3 he_x_3 => ?_)
  have hr_x_3 := z_andr he_x_3 hk_1 (by decide)
  refine lv_iadd hx hb dX12_bits_8 ?_
  refine lv_topi (fun x_4 he_x_4 => ?_)
  have hq_x_4 := z_addq he_x_4 (rfl : x_1.toInt = _) (rfl : x_3.toInt = _) (by omega) (by omega)
  refine lv_iload_n hx hb dX12_bits_9 rfl (lv_at hl 0 rfl) ?_
  refine lv_iconst (v := 2) hx hb dX12_bits_10 (by decide) ?_
  refine lv_ishr hx hb dX12_bits_11 ?_
  refine lv_topi (fun x_5 he_x_5 => ?_)
  refine lv_iconst (v := 1) hx hb dX12_bits_12 (by decide) ?_
  refine lv_iand hx hb dX12_bits_13 ?_
  have hL_x_5 := z_full x_5
  refine lv_topi (fun x_6 he_x_6 => ?_)
  have hr_x_6 := z_andr he_x_6 hk_1 (by decide)
  refine lv_iadd hx hb dX12_bits_14 ?_
  refine lv_topi (fun x_7 he_x_7 => ?_)
  have hq_x_7 := z_addq he_x_7 (rfl : x_4.toInt = _) (rfl : x_6.toInt = _) (by omega) (by omega)
  have hpost : (0 ≤ x_7.toInt ∧ x_7.toInt ≤ 3) := (by omega)
  have hX_8 : F_r_bits x = (x_7 : Int32) := by
    refine (F_r_bits_s ..).trans ?_
    try (extract_lets -merge -useContext +onlyGivenNames y9; have e9 : x_1 = y9 := (by first | exact he_x_1 | exact he_x_1.symm); clear_value y9; subst e9)
    try (extract_lets -merge -useContext +onlyGivenNames y9; have e9 : x_2 = y9 := (by first | exact he_x_2 | exact he_x_2.symm); clear_value y9; subst e9)
    try (extract_lets -merge -useContext +onlyGivenNames y9; have e9 : x_3 = y9 := (by first | exact he_x_3 | exact he_x_3.symm); clear_value y9; subst e9)
    try (extract_lets -merge -useContext +onlyGivenNames y9; have e9 : x_4 = y9 := (by first | exact he_x_4 | exact he_x_4.symm); clear_value y9; subst e9)
    try (extract_lets -merge -useContext +onlyGivenNames y9; have e9 : x_5 = y9 := (by first | exact he_x_5 | exact he_x_5.symm); clear_value y9; subst e9)
    try (extract_lets -merge -useContext +onlyGivenNames y9; have e9 : x_6 = y9 := (by first | exact he_x_6 | exact he_x_6.symm); clear_value y9; subst e9)
    try (extract_lets -merge -useContext +onlyGivenNames y9; have e9 : x_7 = y9 := (by first | exact he_x_7 | exact he_x_7.symm); clear_value y9; subst e9)
    exact rfl
  exact hret _ _ _ _ _ _ () [] hP hD hS rfl (by decide) dX12_bits_15 ⟨(congrArg (fun z9 => z9) hX_8).symm, hpost⟩
set_option maxHeartbeats 40000000 in
set_option maxRecDepth 100000 in
theorem r_look2 (l : Launch) (G : va_G) (cA : zCA) (h0 : Nat) (m_status : Int32) (m_thrown : Int32) (m_above : Int64) (m_under : Int64) (a_traySort : Nat) (a_trayMany : Nat) (a_numbers : Nat) (a_tape : Nat) (m_taped : Int32) (m_textEnd : Int32) (m_faultKind : Int32) (m_faultAt : Int32) (m_bad : Int32) (m_badAt : Int32) (m_token : Int32) (m_at : Int32) (m_behind : Int32) (m_number : Int32) (m_letters : Int32) (m_word : Int64) (a_c : Nat) (a_words : Nat) (m_markMany : Int32) (a_there : Nat) (a_tried : Nat) (a_best : Nat) (a_found : Nat) (m_thereMany : Int32) (m_foundMany : Int32) (m_orderHow : Int32) (m_orderRing : Int32) (m_orderMany : Int32) (m_hasBest : Int32) (m_bestTop : Int64) (m_bestBy : Int64) (a_weights : Nat) (a_shared : Nat) (m_random : Int32) (m_truePlace : Int32) (m_trueWay : Int32) (m_seconds : Int32) (m_done : Int32) (m_feelings : Int32) (m_tries : Int32) (m_leftOver : Int32) (m_playDoor : Int32) (m_playRing : Int32) (m_isOpen : Int32) (m_isOver : Int32) (m_wasTried : Int32) (m_hasPlayed : Int32) (a_feltNow : Nat) (a_last : Nat) (a_kept : Nat) (m_hasSeconds : Int32) (m_hasTurned : Int32) (m_hasRound : Int32) (a_hasFeels : Nat) (a_isOn : Nat) (m_firstAct : Int32) (m_meanTop : Int64) (m_meanBy : Int64) (a_order : Nat) (m_rowMany : Int32) (m_newSteps : Int32) (g_tape : Nat → Int32) (pp : Int32) (hr_pp : 0 ≤ pp.toInt ∧ pp.toInt ≤ 900) (hr_m_textEnd : 0 ≤ m_textEnd.toInt ∧ m_textEnd.toInt ≤ 900) : zCi l yX12_look2 cX12_look2 2 (some .int) ({ frames := 0, cells := 0, slots := 0, locals := 0 }) G cA [.ref h0, .int pp] [(h0, .inr (12, [.int m_status, .int m_thrown, .long m_above, .long m_under, .ref a_traySort, .ref a_trayMany, .ref a_numbers, .ref a_tape, .int m_taped, .int m_textEnd, .int m_faultKind, .int m_faultAt, .int m_bad, .int m_badAt, .int m_token, .int m_at, .int m_behind, .int m_number, .int m_letters, .long m_word, .ref a_c, .ref a_words, .int m_markMany, .ref a_there, .ref a_tried, .ref a_best, .ref a_found, .int m_thereMany, .int m_foundMany, .int m_orderHow, .int m_orderRing, .int m_orderMany, .int m_hasBest, .long m_bestTop, .long m_bestBy, .ref a_weights, .ref a_shared, .int m_random, .int m_truePlace, .int m_trueWay, .int m_seconds, .int m_done, .int m_feelings, .int m_tries, .int m_leftOver, .int m_playDoor, .int m_playRing, .int m_isOpen, .int m_isOver, .int m_wasTried, .int m_hasPlayed, .ref a_feltNow, .ref a_last, .ref a_kept, .int m_hasSeconds, .int m_hasTurned, .int m_hasRound, .ref a_hasFeels, .ref a_isOn, .int m_firstAct, .long m_meanTop, .long m_meanBy, .ref a_order, .int m_rowMany, .int m_newSteps])), (a_tape, .inl (cA.1 2, 900, .inl g_tape))] (S := Unit) (fun (r : Int32) (u : Unit) => (r = (F_r_look2 m_textEnd g_tape pp)) ∧ ((0 ≤ r.toInt ∧ r.toInt ≤ 255) ∧ (r.toInt = 0 ∨ pp.toInt < m_textEnd.toInt) ∧ (r.toInt = zlk g_tape m_textEnd.toInt pp.toInt))) (fun (u : Unit) => [(h0, .inr (12, [.int m_status, .int m_thrown, .long m_above, .long m_under, .ref a_traySort, .ref a_trayMany, .ref a_numbers, .ref a_tape, .int m_taped, .int m_textEnd, .int m_faultKind, .int m_faultAt, .int m_bad, .int m_badAt, .int m_token, .int m_at, .int m_behind, .int m_number, .int m_letters, .long m_word, .ref a_c, .ref a_words, .int m_markMany, .ref a_there, .ref a_tried, .ref a_best, .ref a_found, .int m_thereMany, .int m_foundMany, .int m_orderHow, .int m_orderRing, .int m_orderMany, .int m_hasBest, .long m_bestTop, .long m_bestBy, .ref a_weights, .ref a_shared, .int m_random, .int m_truePlace, .int m_trueWay, .int m_seconds, .int m_done, .int m_feelings, .int m_tries, .int m_leftOver, .int m_playDoor, .int m_playRing, .int m_isOpen, .int m_isOver, .int m_wasTried, .int m_hasPlayed, .ref a_feltNow, .ref a_last, .ref a_kept, .int m_hasSeconds, .int m_hasTurned, .int m_hasRound, .ref a_hasFeels, .ref a_isOn, .int m_firstAct, .long m_meanTop, .long m_meanBy, .ref a_order, .int m_rowMany, .int m_newSteps])), (a_tape, .inl (cA.1 2, 900, .inl g_tape))]) 0 0 := by
  have hk_0 : (0 : Int32).toInt = 0 := by decide +kernel
  have hk_255 : (255 : Int32).toInt = 255 := by decide +kernel
  refine z_start2i (own := RX12) (by decide) (Nat.le_of_ble_eq_true rfl) rfl ?_
  intro p e s m args below meth c A ls Q hx hb hml hts hown hK hE hT hP hD hS hA hl hret
  have hl : lv_has ls 2 [(0, .ref h0), (1, .int pp)] := hl
  refine lv_iload_n hx hb dX12_look2_0 rfl (lv_at hl 1 rfl) ?_
  refine lv_aload_n hx hb dX12_look2_1 rfl (lv_at hl 0 rfl) ?_
  refine va_get (D := G) (ci := 12) (v := .int m_textEnd) (C := RX12) (T := TX12) (N := 65) hx hb hts inT12 hown hK hP 0 rfl rfl 9 (by decide) (hts _ tw_1894) (fun _ h9 => h9) rfl dX12_look2_2 ?_
  refine lv_icmp_ge (tgt := 21) hx hb dX12_look2_5 (by decide) (fun c_1 => ?_) (fun c_1 => ?_)
  · have b_2 := z_fgeT c_1
    refine lv_iconst (v := 0) hx hb dX12_look2_21 (by decide) ?_
    have hpost : (0 ≤ (0 : Int32).toInt ∧ (0 : Int32).toInt ≤ 255) ∧ ((0 : Int32).toInt = 0 ∨ pp.toInt < m_textEnd.toInt) ∧ ((0 : Int32).toInt = zlk g_tape m_textEnd.toInt pp.toInt) := ⟨(by decide +kernel), (by omega), (z_lk0 (by omega))⟩
    have hX_3 : F_r_look2 m_textEnd g_tape pp = ((0 : Int32) : Int32) := by
      refine (F_r_look2_s ..).trans ?_
      refine (if_pos c_1).trans ?_
      exact rfl
    exact hret _ _ _ _ _ _ () [0, 1] hP hD hS rfl (by decide) dX12_look2_22 ⟨(congrArg (fun z9 => z9) hX_3).symm, hpost⟩
  · have b_4 := z_fltF c_1
    refine lv_aload_n hx hb dX12_look2_8 rfl (lv_at hl 0 rfl) ?_
    refine va_get (D := G) (ci := 12) (v := .ref a_tape) (C := RX12) (T := TX12) (N := 65) hx hb hts inT12 hown hK hP 0 rfl rfl 7 (by decide) (hts _ tw_1892) (fun _ h9 => h9) rfl dX12_look2_9 ?_
    refine lv_iload_n hx hb dX12_look2_12 rfl (lv_at hl 1 rfl) ?_
    refine va_bald hx hb hK hP 1 2 rfl rfl (z_inN (by omega) (by omega)) dX12_look2_13 ?_
    refine lv_topi (fun x_5 he_x_5 => ?_)
    refine lv_sipush (v := 255) hx hb dX12_look2_14 (by decide) ?_
    refine lv_iand hx hb dX12_look2_17 ?_
    have hL_x_5 := z_full x_5
    refine lv_topi (fun x_6 he_x_6 => ?_)
    have hr_x_6 := z_andr he_x_6 hk_255 (by decide)
    refine lv_goto (tgt := 22) hx hb dX12_look2_18 (by decide) ?_
    have hpost : (0 ≤ x_6.toInt ∧ x_6.toInt ≤ 255) ∧ (x_6.toInt = 0 ∨ pp.toInt < m_textEnd.toInt) ∧ (x_6.toInt = zlk g_tape m_textEnd.toInt pp.toInt) := ⟨(by omega), (by omega), (z_lk1 he_x_6 he_x_5 (by omega) (by omega))⟩
    have hX_7 : F_r_look2 m_textEnd g_tape pp = (x_6 : Int32) := by
      refine (F_r_look2_s ..).trans ?_
      refine (if_neg c_1).trans ?_
      try (extract_lets -merge -useContext +onlyGivenNames y9; have e9 : x_5 = y9 := (by first | exact he_x_5 | exact he_x_5.symm); clear_value y9; subst e9)
      try (extract_lets -merge -useContext +onlyGivenNames y9; have e9 : x_6 = y9 := (by first | exact he_x_6 | exact he_x_6.symm); clear_value y9; subst e9)
      exact rfl
    exact hret _ _ _ _ _ _ () [0, 1] hP hD hS rfl (by decide) dX12_look2_22 ⟨(congrArg (fun z9 => z9) hX_7).symm, hpost⟩
set_option maxHeartbeats 40000000 in
set_option maxRecDepth 100000 in
theorem r_isWord (l : Launch) (G : va_G) (cA : zCA) (h0 : Nat) (m_status : Int32) (m_thrown : Int32) (m_above : Int64) (m_under : Int64) (a_traySort : Nat) (a_trayMany : Nat) (a_numbers : Nat) (a_tape : Nat) (m_taped : Int32) (m_textEnd : Int32) (m_faultKind : Int32) (m_faultAt : Int32) (m_bad : Int32) (m_badAt : Int32) (m_token : Int32) (m_at : Int32) (m_behind : Int32) (m_number : Int32) (m_letters : Int32) (m_word : Int64) (a_c : Nat) (a_words : Nat) (m_markMany : Int32) (a_there : Nat) (a_tried : Nat) (a_best : Nat) (a_found : Nat) (m_thereMany : Int32) (m_foundMany : Int32) (m_orderHow : Int32) (m_orderRing : Int32) (m_orderMany : Int32) (m_hasBest : Int32) (m_bestTop : Int64) (m_bestBy : Int64) (a_weights : Nat) (a_shared : Nat) (m_random : Int32) (m_truePlace : Int32) (m_trueWay : Int32) (m_seconds : Int32) (m_done : Int32) (m_feelings : Int32) (m_tries : Int32) (m_leftOver : Int32) (m_playDoor : Int32) (m_playRing : Int32) (m_isOpen : Int32) (m_isOver : Int32) (m_wasTried : Int32) (m_hasPlayed : Int32) (a_feltNow : Nat) (a_last : Nat) (a_kept : Nat) (m_hasSeconds : Int32) (m_hasTurned : Int32) (m_hasRound : Int32) (a_hasFeels : Nat) (a_isOn : Nat) (m_firstAct : Int32) (m_meanTop : Int64) (m_meanBy : Int64) (a_order : Nat) (m_rowMany : Int32) (m_newSteps : Int32) (w : Int64) (hr_m_token : 0 ≤ m_token.toInt ∧ m_token.toInt ≤ 4) : zCi l yX12_isWord cX12_isWord 3 (some .boolean) ({ frames := 0, cells := 0, slots := 0, locals := 0 }) G cA [.ref h0, .long w] [(h0, .inr (12, [.int m_status, .int m_thrown, .long m_above, .long m_under, .ref a_traySort, .ref a_trayMany, .ref a_numbers, .ref a_tape, .int m_taped, .int m_textEnd, .int m_faultKind, .int m_faultAt, .int m_bad, .int m_badAt, .int m_token, .int m_at, .int m_behind, .int m_number, .int m_letters, .long m_word, .ref a_c, .ref a_words, .int m_markMany, .ref a_there, .ref a_tried, .ref a_best, .ref a_found, .int m_thereMany, .int m_foundMany, .int m_orderHow, .int m_orderRing, .int m_orderMany, .int m_hasBest, .long m_bestTop, .long m_bestBy, .ref a_weights, .ref a_shared, .int m_random, .int m_truePlace, .int m_trueWay, .int m_seconds, .int m_done, .int m_feelings, .int m_tries, .int m_leftOver, .int m_playDoor, .int m_playRing, .int m_isOpen, .int m_isOver, .int m_wasTried, .int m_hasPlayed, .ref a_feltNow, .ref a_last, .ref a_kept, .int m_hasSeconds, .int m_hasTurned, .int m_hasRound, .ref a_hasFeels, .ref a_isOn, .int m_firstAct, .long m_meanTop, .long m_meanBy, .ref a_order, .int m_rowMany, .int m_newSteps]))] (S := Unit) (fun (r : Int32) (u : Unit) => (r = (F_r_isWord m_token m_word w)) ∧ ((r = 0 ∧ True) ∨ (r = 1 ∧ (m_token.toInt = 1)))) (fun (u : Unit) => [(h0, .inr (12, [.int m_status, .int m_thrown, .long m_above, .long m_under, .ref a_traySort, .ref a_trayMany, .ref a_numbers, .ref a_tape, .int m_taped, .int m_textEnd, .int m_faultKind, .int m_faultAt, .int m_bad, .int m_badAt, .int m_token, .int m_at, .int m_behind, .int m_number, .int m_letters, .long m_word, .ref a_c, .ref a_words, .int m_markMany, .ref a_there, .ref a_tried, .ref a_best, .ref a_found, .int m_thereMany, .int m_foundMany, .int m_orderHow, .int m_orderRing, .int m_orderMany, .int m_hasBest, .long m_bestTop, .long m_bestBy, .ref a_weights, .ref a_shared, .int m_random, .int m_truePlace, .int m_trueWay, .int m_seconds, .int m_done, .int m_feelings, .int m_tries, .int m_leftOver, .int m_playDoor, .int m_playRing, .int m_isOpen, .int m_isOver, .int m_wasTried, .int m_hasPlayed, .ref a_feltNow, .ref a_last, .ref a_kept, .int m_hasSeconds, .int m_hasTurned, .int m_hasRound, .ref a_hasFeels, .ref a_isOn, .int m_firstAct, .long m_meanTop, .long m_meanBy, .ref a_order, .int m_rowMany, .int m_newSteps]))]) 0 0 := by
  have hk_1 : (1 : Int32).toInt = 1 := by decide +kernel
  refine z_start2z (own := RX12) (by decide) (Nat.le_of_ble_eq_true rfl) rfl ?_
  intro p e s m args below meth c A ls Q hx hb hml hts hown hK hE hT hP hD hS hA hl hret
  have hl : lv_has ls 3 [(0, .ref h0), (1, .long w)] := hl
  refine lv_aload_n hx hb dX12_isWord_0 rfl (lv_at hl 0 rfl) ?_
  refine va_get (D := G) (ci := 12) (v := .int m_token) (C := RX12) (T := TX12) (N := 65) hx hb hts inT12 hown hK hP 0 rfl rfl 14 (by decide) (hts _ tw_1899) (fun _ h9 => h9) rfl dX12_isWord_1 ?_
  refine lv_iconst (v := 1) hx hb dX12_isWord_4 (by decide) ?_
  refine lv_icmp_ne (tgt := 21) hx hb dX12_isWord_5 (by decide) (fun c_1 => ?_) (fun c_1 => ?_)
  · have b_2 := z_fneT c_1
    refine lv_iconst (v := 0) hx hb dX12_isWord_21 (by decide) ?_
    have hpost : ((0 : Int32) = 0 ∧ True) ∨ ((0 : Int32) = 1 ∧ (m_token.toInt = 1)) := (Or.inl ⟨rfl, trivial⟩)
    have hX_3 : F_r_isWord m_token m_word w = ((0 : Int32) : Int32) := by
      refine (F_r_isWord_s ..).trans ?_
      refine (if_neg c_1).trans ?_
      exact rfl
    exact hret _ _ _ _ _ _ () [0] hP hD hS rfl (by decide) dX12_isWord_22 (Or.inl rfl) ⟨(congrArg (fun z9 => z9) hX_3).symm, hpost⟩
  · have b_4 := z_feqF c_1
    refine lv_aload_n hx hb dX12_isWord_8 rfl (lv_at hl 0 rfl) ?_
    refine va_get (D := G) (ci := 12) (v := .long m_word) (C := RX12) (T := TX12) (N := 65) hx hb hts inT12 hown hK hP 0 rfl rfl 19 (by decide) (hts _ tw_1904) (fun _ h9 => h9) rfl dX12_isWord_9 ?_
    refine lv_lload_n hx hb dX12_isWord_12 rfl (lv_at hl 1 rfl) ?_
    refine W.lcmp hx hb dX12_isWord_13 ?_
    refine lv_if_ne (tgt := 21) hx hb dX12_isWord_14 (by decide) (fun c_5 => ?_) (fun c_5 => ?_)
    · have b_6 := z_fneTl c_5
      refine lv_iconst (v := 0) hx hb dX12_isWord_21 (by decide) ?_
      have hpost : ((0 : Int32) = 0 ∧ True) ∨ ((0 : Int32) = 1 ∧ (m_token.toInt = 1)) := (Or.inl ⟨rfl, trivial⟩)
      have hX_7 : F_r_isWord m_token m_word w = ((0 : Int32) : Int32) := by
        refine (F_r_isWord_s ..).trans ?_
        refine (if_pos c_1).trans ?_
        refine (if_neg c_5).trans ?_
        exact rfl
      exact hret _ _ _ _ _ _ () [0] hP hD hS rfl (by decide) dX12_isWord_22 (Or.inl rfl) ⟨(congrArg (fun z9 => z9) hX_7).symm, hpost⟩
    · have b_8 := z_feqFl c_5
      refine lv_iconst (v := 1) hx hb dX12_isWord_17 (by decide) ?_
      refine lv_goto (tgt := 22) hx hb dX12_isWord_18 (by decide) ?_
      have hpost : ((1 : Int32) = 0 ∧ True) ∨ ((1 : Int32) = 1 ∧ (m_token.toInt = 1)) := (Or.inr ⟨rfl, (by omega)⟩)
      have hX_9 : F_r_isWord m_token m_word w = ((1 : Int32) : Int32) := by
        refine (F_r_isWord_s ..).trans ?_
        refine (if_pos c_1).trans ?_
        refine (if_pos c_5).trans ?_
        exact rfl
      exact hret _ _ _ _ _ _ () [0] hP hD hS rfl (by decide) dX12_isWord_22 (Or.inr rfl) ⟨(congrArg (fun z9 => z9) hX_9).symm, hpost⟩
set_option maxHeartbeats 40000000 in
set_option maxRecDepth 100000 in
theorem r_isSign (l : Launch) (G : va_G) (cA : zCA) (h0 : Nat) (m_status : Int32) (m_thrown : Int32) (m_above : Int64) (m_under : Int64) (a_traySort : Nat) (a_trayMany : Nat) (a_numbers : Nat) (a_tape : Nat) (m_taped : Int32) (m_textEnd : Int32) (m_faultKind : Int32) (m_faultAt : Int32) (m_bad : Int32) (m_badAt : Int32) (m_token : Int32) (m_at : Int32) (m_behind : Int32) (m_number : Int32) (m_letters : Int32) (m_word : Int64) (a_c : Nat) (a_words : Nat) (m_markMany : Int32) (a_there : Nat) (a_tried : Nat) (a_best : Nat) (a_found : Nat) (m_thereMany : Int32) (m_foundMany : Int32) (m_orderHow : Int32) (m_orderRing : Int32) (m_orderMany : Int32) (m_hasBest : Int32) (m_bestTop : Int64) (m_bestBy : Int64) (a_weights : Nat) (a_shared : Nat) (m_random : Int32) (m_truePlace : Int32) (m_trueWay : Int32) (m_seconds : Int32) (m_done : Int32) (m_feelings : Int32) (m_tries : Int32) (m_leftOver : Int32) (m_playDoor : Int32) (m_playRing : Int32) (m_isOpen : Int32) (m_isOver : Int32) (m_wasTried : Int32) (m_hasPlayed : Int32) (a_feltNow : Nat) (a_last : Nat) (a_kept : Nat) (m_hasSeconds : Int32) (m_hasTurned : Int32) (m_hasRound : Int32) (a_hasFeels : Nat) (a_isOn : Nat) (m_firstAct : Int32) (m_meanTop : Int64) (m_meanBy : Int64) (a_order : Nat) (m_rowMany : Int32) (m_newSteps : Int32) (x : Int32) (hr_m_token : 0 ≤ m_token.toInt ∧ m_token.toInt ≤ 4) (hr_m_number : 0 ≤ m_number.toInt ∧ m_number.toInt ≤ 9999) : zCi l yX12_isSign cX12_isSign 2 (some .boolean) ({ frames := 0, cells := 0, slots := 0, locals := 0 }) G cA [.ref h0, .int x] [(h0, .inr (12, [.int m_status, .int m_thrown, .long m_above, .long m_under, .ref a_traySort, .ref a_trayMany, .ref a_numbers, .ref a_tape, .int m_taped, .int m_textEnd, .int m_faultKind, .int m_faultAt, .int m_bad, .int m_badAt, .int m_token, .int m_at, .int m_behind, .int m_number, .int m_letters, .long m_word, .ref a_c, .ref a_words, .int m_markMany, .ref a_there, .ref a_tried, .ref a_best, .ref a_found, .int m_thereMany, .int m_foundMany, .int m_orderHow, .int m_orderRing, .int m_orderMany, .int m_hasBest, .long m_bestTop, .long m_bestBy, .ref a_weights, .ref a_shared, .int m_random, .int m_truePlace, .int m_trueWay, .int m_seconds, .int m_done, .int m_feelings, .int m_tries, .int m_leftOver, .int m_playDoor, .int m_playRing, .int m_isOpen, .int m_isOver, .int m_wasTried, .int m_hasPlayed, .ref a_feltNow, .ref a_last, .ref a_kept, .int m_hasSeconds, .int m_hasTurned, .int m_hasRound, .ref a_hasFeels, .ref a_isOn, .int m_firstAct, .long m_meanTop, .long m_meanBy, .ref a_order, .int m_rowMany, .int m_newSteps]))] (S := Unit) (fun (r : Int32) (u : Unit) => (r = (F_r_isSign m_token m_number x)) ∧ ((r = 0 ∧ (m_token.toInt ≠ 3 ∨ m_number.toInt ≠ x.toInt)) ∨ (r = 1 ∧ (m_token.toInt = 3 ∧ m_number.toInt = x.toInt)))) (fun (u : Unit) => [(h0, .inr (12, [.int m_status, .int m_thrown, .long m_above, .long m_under, .ref a_traySort, .ref a_trayMany, .ref a_numbers, .ref a_tape, .int m_taped, .int m_textEnd, .int m_faultKind, .int m_faultAt, .int m_bad, .int m_badAt, .int m_token, .int m_at, .int m_behind, .int m_number, .int m_letters, .long m_word, .ref a_c, .ref a_words, .int m_markMany, .ref a_there, .ref a_tried, .ref a_best, .ref a_found, .int m_thereMany, .int m_foundMany, .int m_orderHow, .int m_orderRing, .int m_orderMany, .int m_hasBest, .long m_bestTop, .long m_bestBy, .ref a_weights, .ref a_shared, .int m_random, .int m_truePlace, .int m_trueWay, .int m_seconds, .int m_done, .int m_feelings, .int m_tries, .int m_leftOver, .int m_playDoor, .int m_playRing, .int m_isOpen, .int m_isOver, .int m_wasTried, .int m_hasPlayed, .ref a_feltNow, .ref a_last, .ref a_kept, .int m_hasSeconds, .int m_hasTurned, .int m_hasRound, .ref a_hasFeels, .ref a_isOn, .int m_firstAct, .long m_meanTop, .long m_meanBy, .ref a_order, .int m_rowMany, .int m_newSteps]))]) 0 0 := by
  have hk_3 : (3 : Int32).toInt = 3 := by decide +kernel
  refine z_start2z (own := RX12) (by decide) (Nat.le_of_ble_eq_true rfl) rfl ?_
  intro p e s m args below meth c A ls Q hx hb hml hts hown hK hE hT hP hD hS hA hl hret
  have hl : lv_has ls 2 [(0, .ref h0), (1, .int x)] := hl
  refine lv_aload_n hx hb dX12_isSign_0 rfl (lv_at hl 0 rfl) ?_
  refine va_get (D := G) (ci := 12) (v := .int m_token) (C := RX12) (T := TX12) (N := 65) hx hb hts inT12 hown hK hP 0 rfl rfl 14 (by decide) (hts _ tw_1899) (fun _ h9 => h9) rfl dX12_isSign_1 ?_
  refine lv_iconst (v := 3) hx hb dX12_isSign_4 (by decide) ?_
  refine lv_icmp_ne (tgt := 20) hx hb dX12_isSign_5 (by decide) (fun c_1 => ?_) (fun c_1 => ?_)
  · have b_2 := z_fneT c_1
    refine lv_iconst (v := 0) hx hb dX12_isSign_20 (by decide) ?_
    have hpost : ((0 : Int32) = 0 ∧ (m_token.toInt ≠ 3 ∨ m_number.toInt ≠ x.toInt)) ∨ ((0 : Int32) = 1 ∧ (m_token.toInt = 3 ∧ m_number.toInt = x.toInt)) := (Or.inl ⟨rfl, (by omega)⟩)
    have hX_3 : F_r_isSign m_token m_number x = ((0 : Int32) : Int32) := by
      refine (F_r_isSign_s ..).trans ?_
      refine (if_neg c_1).trans ?_
      exact rfl
    exact hret _ _ _ _ _ _ () [0] hP hD hS rfl (by decide) dX12_isSign_21 (Or.inl rfl) ⟨(congrArg (fun z9 => z9) hX_3).symm, hpost⟩
  · have b_4 := z_feqF c_1
    refine lv_aload_n hx hb dX12_isSign_8 rfl (lv_at hl 0 rfl) ?_
    refine va_get (D := G) (ci := 12) (v := .int m_number) (C := RX12) (T := TX12) (N := 65) hx hb hts inT12 hown hK hP 0 rfl rfl 17 (by decide) (hts _ tw_1902) (fun _ h9 => h9) rfl dX12_isSign_9 ?_
    refine lv_iload_n hx hb dX12_isSign_12 rfl (lv_at hl 1 rfl) ?_
    refine lv_icmp_ne (tgt := 20) hx hb dX12_isSign_13 (by decide) (fun c_5 => ?_) (fun c_5 => ?_)
    · have b_6 := z_fneT c_5
      refine lv_iconst (v := 0) hx hb dX12_isSign_20 (by decide) ?_
      have hpost : ((0 : Int32) = 0 ∧ (m_token.toInt ≠ 3 ∨ m_number.toInt ≠ x.toInt)) ∨ ((0 : Int32) = 1 ∧ (m_token.toInt = 3 ∧ m_number.toInt = x.toInt)) := (Or.inl ⟨rfl, (by omega)⟩)
      have hX_7 : F_r_isSign m_token m_number x = ((0 : Int32) : Int32) := by
        refine (F_r_isSign_s ..).trans ?_
        refine (if_pos c_1).trans ?_
        refine (if_neg c_5).trans ?_
        exact rfl
      exact hret _ _ _ _ _ _ () [0] hP hD hS rfl (by decide) dX12_isSign_21 (Or.inl rfl) ⟨(congrArg (fun z9 => z9) hX_7).symm, hpost⟩
    · have b_8 := z_feqF c_5
      refine lv_iconst (v := 1) hx hb dX12_isSign_16 (by decide) ?_
      refine lv_goto (tgt := 21) hx hb dX12_isSign_17 (by decide) ?_
      have hpost : ((1 : Int32) = 0 ∧ (m_token.toInt ≠ 3 ∨ m_number.toInt ≠ x.toInt)) ∨ ((1 : Int32) = 1 ∧ (m_token.toInt = 3 ∧ m_number.toInt = x.toInt)) := (Or.inr ⟨rfl, (by omega)⟩)
      have hX_9 : F_r_isSign m_token m_number x = ((1 : Int32) : Int32) := by
        refine (F_r_isSign_s ..).trans ?_
        refine (if_pos c_1).trans ?_
        refine (if_pos c_5).trans ?_
        exact rfl
      exact hret _ _ _ _ _ _ () [0] hP hD hS rfl (by decide) dX12_isSign_21 (Or.inr rfl) ⟨(congrArg (fun z9 => z9) hX_9).symm, hpost⟩
set_option maxHeartbeats 4000000 in
set_option maxRecDepth 100000 in
theorem r_isTray (l : Launch) (G : va_G) (cA : zCA) (h0 : Nat) (m_status : Int32) (m_thrown : Int32) (m_above : Int64) (m_under : Int64) (a_traySort : Nat) (a_trayMany : Nat) (a_numbers : Nat) (a_tape : Nat) (m_taped : Int32) (m_textEnd : Int32) (m_faultKind : Int32) (m_faultAt : Int32) (m_bad : Int32) (m_badAt : Int32) (m_token : Int32) (m_at : Int32) (m_behind : Int32) (m_number : Int32) (m_letters : Int32) (m_word : Int64) (a_c : Nat) (a_words : Nat) (m_markMany : Int32) (a_there : Nat) (a_tried : Nat) (a_best : Nat) (a_found : Nat) (m_thereMany : Int32) (m_foundMany : Int32) (m_orderHow : Int32) (m_orderRing : Int32) (m_orderMany : Int32) (m_hasBest : Int32) (m_bestTop : Int64) (m_bestBy : Int64) (a_weights : Nat) (a_shared : Nat) (m_random : Int32) (m_truePlace : Int32) (m_trueWay : Int32) (m_seconds : Int32) (m_done : Int32) (m_feelings : Int32) (m_tries : Int32) (m_leftOver : Int32) (m_playDoor : Int32) (m_playRing : Int32) (m_isOpen : Int32) (m_isOver : Int32) (m_wasTried : Int32) (m_hasPlayed : Int32) (a_feltNow : Nat) (a_last : Nat) (a_kept : Nat) (m_hasSeconds : Int32) (m_hasTurned : Int32) (m_hasRound : Int32) (a_hasFeels : Nat) (a_isOn : Nat) (m_firstAct : Int32) (m_meanTop : Int64) (m_meanBy : Int64) (a_order : Nat) (m_rowMany : Int32) (m_newSteps : Int32) (t : Int32) : zCi l yX12_isTray cX12_isTray 2 (some .boolean) ({ frames := 1, cells := 0, slots := 0, locals := 25 }) G cA [.ref h0, .int t] [(h0, .inr (12, [.int m_status, .int m_thrown, .long m_above, .long m_under, .ref a_traySort, .ref a_trayMany, .ref a_numbers, .ref a_tape, .int m_taped, .int m_textEnd, .int m_faultKind, .int m_faultAt, .int m_bad, .int m_badAt, .int m_token, .int m_at, .int m_behind, .int m_number, .int m_letters, .long m_word, .ref a_c, .ref a_words, .int m_markMany, .ref a_there, .ref a_tried, .ref a_best, .ref a_found, .int m_thereMany, .int m_foundMany, .int m_orderHow, .int m_orderRing, .int m_orderMany, .int m_hasBest, .long m_bestTop, .long m_bestBy, .ref a_weights, .ref a_shared, .int m_random, .int m_truePlace, .int m_trueWay, .int m_seconds, .int m_done, .int m_feelings, .int m_tries, .int m_leftOver, .int m_playDoor, .int m_playRing, .int m_isOpen, .int m_isOver, .int m_wasTried, .int m_hasPlayed, .ref a_feltNow, .ref a_last, .ref a_kept, .int m_hasSeconds, .int m_hasTurned, .int m_hasRound, .ref a_hasFeels, .ref a_isOn, .int m_firstAct, .long m_meanTop, .long m_meanBy, .ref a_order, .int m_rowMany, .int m_newSteps]))] (S := Unit) (fun (r : Int32) (u : Unit) => (r = 0 ∧ True) ∨ (r = 1 ∧ (0 ≤ t.toInt ∧ t.toInt ≤ 3))) (fun (u : Unit) => [(h0, .inr (12, [.int m_status, .int m_thrown, .long m_above, .long m_under, .ref a_traySort, .ref a_trayMany, .ref a_numbers, .ref a_tape, .int m_taped, .int m_textEnd, .int m_faultKind, .int m_faultAt, .int m_bad, .int m_badAt, .int m_token, .int m_at, .int m_behind, .int m_number, .int m_letters, .long m_word, .ref a_c, .ref a_words, .int m_markMany, .ref a_there, .ref a_tried, .ref a_best, .ref a_found, .int m_thereMany, .int m_foundMany, .int m_orderHow, .int m_orderRing, .int m_orderMany, .int m_hasBest, .long m_bestTop, .long m_bestBy, .ref a_weights, .ref a_shared, .int m_random, .int m_truePlace, .int m_trueWay, .int m_seconds, .int m_done, .int m_feelings, .int m_tries, .int m_leftOver, .int m_playDoor, .int m_playRing, .int m_isOpen, .int m_isOver, .int m_wasTried, .int m_hasPlayed, .ref a_feltNow, .ref a_last, .ref a_kept, .int m_hasSeconds, .int m_hasTurned, .int m_hasRound, .ref a_hasFeels, .ref a_isOn, .int m_firstAct, .long m_meanTop, .long m_meanBy, .ref a_order, .int m_rowMany, .int m_newSteps]))]) 0 0 := by
  have hkl_0 : (0 : Int64).toInt = 0 := by decide +kernel
  have hkl_3 : (3 : Int64).toInt = 3 := by decide +kernel
  refine z_start2z (own := RX12) (by decide) (Nat.le_of_ble_eq_true rfl) rfl ?_
  intro p e s m args below meth c A ls Q hx hb hml hts hown hK hE hT hP hD hS hA hl hret
  have hl : lv_has ls 2 [(0, .ref h0), (1, .int t)] := hl
  refine lv_iload_n hx hb dX12_isTray_0 rfl (lv_at hl 1 rfl) ?_
  refine lv_i2l (v := (t).toInt64) hx hb dX12_isTray_1 rfl ?_
  refine lv_topl (fun x_1 he_x_1 => ?_)
  have hq_x_1 := z_i2l he_x_1
  have hL_t := z_full t
  refine lv_lconst (v := 0) hx hb dX12_isTray_2 (by decide) ?_
  refine lv_ldc2 (v := 3) hx hb hown (hts _ tw_2333) dX12_isTray_3 ?_
  refine z_callSi (As := [.long x_1, .long 0, .long 3]) (rest := []) (wr := [(h0, .inr (12, [.int m_status, .int m_thrown, .long m_above, .long m_under, .ref a_traySort, .ref a_trayMany, .ref a_numbers, .ref a_tape, .int m_taped, .int m_textEnd, .int m_faultKind, .int m_faultAt, .int m_bad, .int m_badAt, .int m_token, .int m_at, .int m_behind, .int m_number, .int m_letters, .long m_word, .ref a_c, .ref a_words, .int m_markMany, .ref a_there, .ref a_tried, .ref a_best, .ref a_found, .int m_thereMany, .int m_foundMany, .int m_orderHow, .int m_orderRing, .int m_orderMany, .int m_hasBest, .long m_bestTop, .long m_bestBy, .ref a_weights, .ref a_shared, .int m_random, .int m_truePlace, .int m_trueWay, .int m_seconds, .int m_done, .int m_feelings, .int m_tries, .int m_leftOver, .int m_playDoor, .int m_playRing, .int m_isOpen, .int m_isOver, .int m_wasTried, .int m_hasPlayed, .ref a_feltNow, .ref a_last, .ref a_kept, .int m_hasSeconds, .int m_hasTurned, .int m_hasRound, .ref a_hasFeels, .ref a_isOn, .int m_firstAct, .long m_meanTop, .long m_meanBy, .ref a_order, .int m_rowMany, .int m_newSteps]))]) ⟨hx, hb, hml, hown, hts⟩ hK hE hT hP hD hS hA (r_isIn l G cA x_1 0 3) lk_RX12_117 ⟨rfl, rfl⟩ ⟨Nat.le_of_ble_eq_true rfl, Nat.le_of_ble_eq_true rfl⟩ [] [0] rfl rfl (by decide) rfl hl.1 rfl (lv_room (Nat.le_of_ble_eq_true rfl)) dX12_isTray_6 ⟨Nat.le_of_ble_eq_true rfl, Nat.le_of_ble_eq_true rfl⟩ (fun r_2 u_3 H locs hw hP hD hS => ?_)
  obtain ⟨he_r_2, hw⟩ := hw
  rcases hw with ⟨rfl, hf_4⟩ | ⟨rfl, hf_5⟩
  · skip
    have hpost : ((0 : Int32) = 0 ∧ True) ∨ ((0 : Int32) = 1 ∧ (0 ≤ t.toInt ∧ t.toInt ≤ 3)) := (Or.inl ⟨rfl, trivial⟩)
    exact hret _ _ _ _ _ _ () [0] hP hD hS rfl (by decide) dX12_isTray_9 (Or.inl rfl) hpost
  · skip
    have hpost : ((1 : Int32) = 0 ∧ True) ∨ ((1 : Int32) = 1 ∧ (0 ≤ t.toInt ∧ t.toInt ≤ 3)) := (Or.inr ⟨rfl, (by omega)⟩)
    exact hret _ _ _ _ _ _ () [0] hP hD hS rfl (by decide) dX12_isTray_9 (Or.inr rfl) hpost
set_option maxHeartbeats 4000000 in
set_option maxRecDepth 100000 in
theorem r_trayed (l : Launch) (G : va_G) (cA : zCA) (h0 : Nat) (m_status : Int32) (m_thrown : Int32) (m_above : Int64) (m_under : Int64) (a_traySort : Nat) (a_trayMany : Nat) (a_numbers : Nat) (a_tape : Nat) (m_taped : Int32) (m_textEnd : Int32) (m_faultKind : Int32) (m_faultAt : Int32) (m_bad : Int32) (m_badAt : Int32) (m_token : Int32) (m_at : Int32) (m_behind : Int32) (m_number : Int32) (m_letters : Int32) (m_word : Int64) (a_c : Nat) (a_words : Nat) (m_markMany : Int32) (a_there : Nat) (a_tried : Nat) (a_best : Nat) (a_found : Nat) (m_thereMany : Int32) (m_foundMany : Int32) (m_orderHow : Int32) (m_orderRing : Int32) (m_orderMany : Int32) (m_hasBest : Int32) (m_bestTop : Int64) (m_bestBy : Int64) (a_weights : Nat) (a_shared : Nat) (m_random : Int32) (m_truePlace : Int32) (m_trueWay : Int32) (m_seconds : Int32) (m_done : Int32) (m_feelings : Int32) (m_tries : Int32) (m_leftOver : Int32) (m_playDoor : Int32) (m_playRing : Int32) (m_isOpen : Int32) (m_isOver : Int32) (m_wasTried : Int32) (m_hasPlayed : Int32) (a_feltNow : Nat) (a_last : Nat) (a_kept : Nat) (m_hasSeconds : Int32) (m_hasTurned : Int32) (m_hasRound : Int32) (a_hasFeels : Nat) (a_isOn : Nat) (m_firstAct : Int32) (m_meanTop : Int64) (m_meanBy : Int64) (a_order : Nat) (m_rowMany : Int32) (m_newSteps : Int32) (g_trayMany : Nat → Int32) (t : Int32) (hC_g_trayMany : zRg 4 (-1) 60 g_trayMany) : zCi l yX12_trayed cX12_trayed 2 (some .int) ({ frames := 0, cells := 0, slots := 0, locals := 0 }) G cA [.ref h0, .int t] [(h0, .inr (12, [.int m_status, .int m_thrown, .long m_above, .long m_under, .ref a_traySort, .ref a_trayMany, .ref a_numbers, .ref a_tape, .int m_taped, .int m_textEnd, .int m_faultKind, .int m_faultAt, .int m_bad, .int m_badAt, .int m_token, .int m_at, .int m_behind, .int m_number, .int m_letters, .long m_word, .ref a_c, .ref a_words, .int m_markMany, .ref a_there, .ref a_tried, .ref a_best, .ref a_found, .int m_thereMany, .int m_foundMany, .int m_orderHow, .int m_orderRing, .int m_orderMany, .int m_hasBest, .long m_bestTop, .long m_bestBy, .ref a_weights, .ref a_shared, .int m_random, .int m_truePlace, .int m_trueWay, .int m_seconds, .int m_done, .int m_feelings, .int m_tries, .int m_leftOver, .int m_playDoor, .int m_playRing, .int m_isOpen, .int m_isOver, .int m_wasTried, .int m_hasPlayed, .ref a_feltNow, .ref a_last, .ref a_kept, .int m_hasSeconds, .int m_hasTurned, .int m_hasRound, .ref a_hasFeels, .ref a_isOn, .int m_firstAct, .long m_meanTop, .long m_meanBy, .ref a_order, .int m_rowMany, .int m_newSteps])), (a_trayMany, .inl (cA.1 0, 4, .inl g_trayMany))] (S := Unit) (fun (r : Int32) (u : Unit) => (0 ≤ r.toInt ∧ r.toInt ≤ 3) ∧ (r.toInt = 0 → 0 ≤ t.toInt ∧ t.toInt ≤ 3)) (fun (u : Unit) => [(h0, .inr (12, [.int m_status, .int m_thrown, .long m_above, .long m_under, .ref a_traySort, .ref a_trayMany, .ref a_numbers, .ref a_tape, .int m_taped, .int m_textEnd, .int m_faultKind, .int m_faultAt, .int m_bad, .int m_badAt, .int m_token, .int m_at, .int m_behind, .int m_number, .int m_letters, .long m_word, .ref a_c, .ref a_words, .int m_markMany, .ref a_there, .ref a_tried, .ref a_best, .ref a_found, .int m_thereMany, .int m_foundMany, .int m_orderHow, .int m_orderRing, .int m_orderMany, .int m_hasBest, .long m_bestTop, .long m_bestBy, .ref a_weights, .ref a_shared, .int m_random, .int m_truePlace, .int m_trueWay, .int m_seconds, .int m_done, .int m_feelings, .int m_tries, .int m_leftOver, .int m_playDoor, .int m_playRing, .int m_isOpen, .int m_isOver, .int m_wasTried, .int m_hasPlayed, .ref a_feltNow, .ref a_last, .ref a_kept, .int m_hasSeconds, .int m_hasTurned, .int m_hasRound, .ref a_hasFeels, .ref a_isOn, .int m_firstAct, .long m_meanTop, .long m_meanBy, .ref a_order, .int m_rowMany, .int m_newSteps])), (a_trayMany, .inl (cA.1 0, 4, .inl g_trayMany))]) 0 0 := by
  have hk_0 : (0 : Int32).toInt = 0 := by decide +kernel
  have hk_1 : (1 : Int32).toInt = 1 := by decide +kernel
  have hk_3 : (3 : Int32).toInt = 3 := by decide +kernel
  have hk_4 : (4 : Int32).toInt = 4 := by decide +kernel
  refine z_start2i (own := RX12) (by decide) (Nat.le_of_ble_eq_true rfl) rfl ?_
  intro p e s m args below meth c A ls Q hx hb hml hts hown hK hE hT hP hD hS hA hl hret
  have hl : lv_has ls 2 [(0, .ref h0), (1, .int t)] := hl
  refine lv_iload_n hx hb dX12_trayed_0 rfl (lv_at hl 1 rfl) ?_
  refine lv_if_lt (tgt := 9) hx hb dX12_trayed_1 (by decide) (fun c_1 => ?_) (fun c_1 => ?_)
  · have b_2 := z_fltT c_1
    refine lv_iconst (v := 1) hx hb dX12_trayed_9 (by decide) ?_
    refine lv_goto (tgt := 27) hx hb dX12_trayed_10 (by decide) ?_
    have hpost : (0 ≤ (1 : Int32).toInt ∧ (1 : Int32).toInt ≤ 3) ∧ ((1 : Int32).toInt = 0 → 0 ≤ t.toInt ∧ t.toInt ≤ 3) := ⟨(by decide +kernel), (by omega)⟩
    exact hret _ _ _ _ _ _ () [0, 1] hP hD hS rfl (by decide) dX12_trayed_27 hpost
  · have b_3 := z_fgeF c_1
    refine lv_iload_n hx hb dX12_trayed_4 rfl (lv_at hl 1 rfl) ?_
    refine lv_iconst (v := 4) hx hb dX12_trayed_5 (by decide) ?_
    refine lv_icmp_lt (tgt := 13) hx hb dX12_trayed_6 (by decide) (fun c_4 => ?_) (fun c_4 => ?_)
    · have b_5 := z_fltT c_4
      refine lv_aload_n hx hb dX12_trayed_13 rfl (lv_at hl 0 rfl) ?_
      refine va_get (D := G) (ci := 12) (v := .ref a_trayMany) (C := RX12) (T := TX12) (N := 65) hx hb hts inT12 hown hK hP 0 rfl rfl 5 (by decide) (hts _ tw_1890) (fun _ h9 => h9) rfl dX12_trayed_14 ?_
      refine lv_iload_n hx hb dX12_trayed_17 rfl (lv_at hl 1 rfl) ?_
      refine va_iald hx hb hK hP 1 0 rfl rfl (z_inN (by omega) (by omega)) dX12_trayed_18 ?_
      refine lv_topi (fun x_6 he_x_6 => ?_)
      have hr_x_6 := z_rg hC_g_trayMany he_x_6 (by omega) (by omega)
      refine lv_if_ge (tgt := 26) hx hb dX12_trayed_19 (by decide) (fun c_7 => ?_) (fun c_7 => ?_)
      · have b_8 := z_fgeT c_7
        refine lv_iconst (v := 0) hx hb dX12_trayed_26 (by decide) ?_
        have hpost : (0 ≤ (0 : Int32).toInt ∧ (0 : Int32).toInt ≤ 3) ∧ ((0 : Int32).toInt = 0 → 0 ≤ t.toInt ∧ t.toInt ≤ 3) := ⟨(by decide +kernel), (by omega)⟩
        exact hret _ _ _ _ _ _ () [0, 1] hP hD hS rfl (by decide) dX12_trayed_27 hpost
      · have b_9 := z_fltF c_7
        refine lv_iconst (v := 3) hx hb dX12_trayed_22 (by decide) ?_
        refine lv_goto (tgt := 27) hx hb dX12_trayed_23 (by decide) ?_
        have hpost : (0 ≤ (3 : Int32).toInt ∧ (3 : Int32).toInt ≤ 3) ∧ ((3 : Int32).toInt = 0 → 0 ≤ t.toInt ∧ t.toInt ≤ 3) := ⟨(by decide +kernel), (by omega)⟩
        exact hret _ _ _ _ _ _ () [0, 1] hP hD hS rfl (by decide) dX12_trayed_27 hpost
    · have b_10 := z_fgeF c_4
      refine lv_iconst (v := 1) hx hb dX12_trayed_9 (by decide) ?_
      refine lv_goto (tgt := 27) hx hb dX12_trayed_10 (by decide) ?_
      have hpost : (0 ≤ (1 : Int32).toInt ∧ (1 : Int32).toInt ≤ 3) ∧ ((1 : Int32).toInt = 0 → 0 ≤ t.toInt ∧ t.toInt ≤ 3) := ⟨(by decide +kernel), (by omega)⟩
      exact hret _ _ _ _ _ _ () [0, 1] hP hD hS rfl (by decide) dX12_trayed_27 hpost
set_option maxHeartbeats 4000000 in
set_option maxRecDepth 100000 in
theorem r_placed (l : Launch) (G : va_G) (cA : zCA) (h0 : Nat) (m_status : Int32) (m_thrown : Int32) (m_above : Int64) (m_under : Int64) (a_traySort : Nat) (a_trayMany : Nat) (a_numbers : Nat) (a_tape : Nat) (m_taped : Int32) (m_textEnd : Int32) (m_faultKind : Int32) (m_faultAt : Int32) (m_bad : Int32) (m_badAt : Int32) (m_token : Int32) (m_at : Int32) (m_behind : Int32) (m_number : Int32) (m_letters : Int32) (m_word : Int64) (a_c : Nat) (a_words : Nat) (m_markMany : Int32) (a_there : Nat) (a_tried : Nat) (a_best : Nat) (a_found : Nat) (m_thereMany : Int32) (m_foundMany : Int32) (m_orderHow : Int32) (m_orderRing : Int32) (m_orderMany : Int32) (m_hasBest : Int32) (m_bestTop : Int64) (m_bestBy : Int64) (a_weights : Nat) (a_shared : Nat) (m_random : Int32) (m_truePlace : Int32) (m_trueWay : Int32) (m_seconds : Int32) (m_done : Int32) (m_feelings : Int32) (m_tries : Int32) (m_leftOver : Int32) (m_playDoor : Int32) (m_playRing : Int32) (m_isOpen : Int32) (m_isOver : Int32) (m_wasTried : Int32) (m_hasPlayed : Int32) (a_feltNow : Nat) (a_last : Nat) (a_kept : Nat) (m_hasSeconds : Int32) (m_hasTurned : Int32) (m_hasRound : Int32) (a_hasFeels : Nat) (a_isOn : Nat) (m_firstAct : Int32) (m_meanTop : Int64) (m_meanBy : Int64) (a_order : Nat) (m_rowMany : Int32) (m_newSteps : Int32) (g_trayMany : Nat → Int32) (t : Int32) (k : Int32) (hC_g_trayMany : zRg 4 (-1) 60 g_trayMany) : zCi l yX12_placed cX12_placed 4 (some .int) ({ frames := 1, cells := 0, slots := 0, locals := 21 }) G cA [.ref h0, .int t, .int k] [(h0, .inr (12, [.int m_status, .int m_thrown, .long m_above, .long m_under, .ref a_traySort, .ref a_trayMany, .ref a_numbers, .ref a_tape, .int m_taped, .int m_textEnd, .int m_faultKind, .int m_faultAt, .int m_bad, .int m_badAt, .int m_token, .int m_at, .int m_behind, .int m_number, .int m_letters, .long m_word, .ref a_c, .ref a_words, .int m_markMany, .ref a_there, .ref a_tried, .ref a_best, .ref a_found, .int m_thereMany, .int m_foundMany, .int m_orderHow, .int m_orderRing, .int m_orderMany, .int m_hasBest, .long m_bestTop, .long m_bestBy, .ref a_weights, .ref a_shared, .int m_random, .int m_truePlace, .int m_trueWay, .int m_seconds, .int m_done, .int m_feelings, .int m_tries, .int m_leftOver, .int m_playDoor, .int m_playRing, .int m_isOpen, .int m_isOver, .int m_wasTried, .int m_hasPlayed, .ref a_feltNow, .ref a_last, .ref a_kept, .int m_hasSeconds, .int m_hasTurned, .int m_hasRound, .ref a_hasFeels, .ref a_isOn, .int m_firstAct, .long m_meanTop, .long m_meanBy, .ref a_order, .int m_rowMany, .int m_newSteps])), (a_trayMany, .inl (cA.1 0, 4, .inl g_trayMany))] (S := Unit) (fun (r : Int32) (u : Unit) => (0 ≤ r.toInt ∧ r.toInt ≤ 4) ∧ (r.toInt = 0 → 0 ≤ t.toInt ∧ t.toInt ≤ 3 ∧ 0 ≤ k.toInt ∧ k.toInt ≤ 59)) (fun (u : Unit) => [(h0, .inr (12, [.int m_status, .int m_thrown, .long m_above, .long m_under, .ref a_traySort, .ref a_trayMany, .ref a_numbers, .ref a_tape, .int m_taped, .int m_textEnd, .int m_faultKind, .int m_faultAt, .int m_bad, .int m_badAt, .int m_token, .int m_at, .int m_behind, .int m_number, .int m_letters, .long m_word, .ref a_c, .ref a_words, .int m_markMany, .ref a_there, .ref a_tried, .ref a_best, .ref a_found, .int m_thereMany, .int m_foundMany, .int m_orderHow, .int m_orderRing, .int m_orderMany, .int m_hasBest, .long m_bestTop, .long m_bestBy, .ref a_weights, .ref a_shared, .int m_random, .int m_truePlace, .int m_trueWay, .int m_seconds, .int m_done, .int m_feelings, .int m_tries, .int m_leftOver, .int m_playDoor, .int m_playRing, .int m_isOpen, .int m_isOver, .int m_wasTried, .int m_hasPlayed, .ref a_feltNow, .ref a_last, .ref a_kept, .int m_hasSeconds, .int m_hasTurned, .int m_hasRound, .ref a_hasFeels, .ref a_isOn, .int m_firstAct, .long m_meanTop, .long m_meanBy, .ref a_order, .int m_rowMany, .int m_newSteps])), (a_trayMany, .inl (cA.1 0, 4, .inl g_trayMany))]) 0 0 := by
  have hk_0 : (0 : Int32).toInt = 0 := by decide +kernel
  have hk_4 : (4 : Int32).toInt = 4 := by decide +kernel
  refine z_start2i (own := RX12) (by decide) (Nat.le_of_ble_eq_true rfl) rfl ?_
  intro p e s m args below meth c A ls Q hx hb hml hts hown hK hE hT hP hD hS hA hl hret
  have hl : lv_has ls 4 [(0, .ref h0), (1, .int t), (2, .int k)] := hl
  refine lv_aload_n hx hb dX12_placed_0 rfl (lv_at hl 0 rfl) ?_
  refine lv_iload_n hx hb dX12_placed_1 rfl (lv_at hl 1 rfl) ?_
  refine z_callVi (As := [.int t]) (rest := []) (wr := []) ⟨hx, hb, hml, hown, hts⟩ hK hE hT hP hD hS hA (r_trayed l G cA h0 m_status m_thrown m_above m_under a_traySort a_trayMany a_numbers a_tape m_taped m_textEnd m_faultKind m_faultAt m_bad m_badAt m_token m_at m_behind m_number m_letters m_word a_c a_words m_markMany a_there a_tried a_best a_found m_thereMany m_foundMany m_orderHow m_orderRing m_orderMany m_hasBest m_bestTop m_bestBy a_weights a_shared m_random m_truePlace m_trueWay m_seconds m_done m_feelings m_tries m_leftOver m_playDoor m_playRing m_isOpen m_isOver m_wasTried m_hasPlayed a_feltNow a_last a_kept m_hasSeconds m_hasTurned m_hasRound a_hasFeels a_isOn m_firstAct m_meanTop m_meanBy a_order m_rowMany m_newSteps g_trayMany t hC_g_trayMany) lk_RX12_101 ⟨rfl, rfl⟩ ⟨Nat.le_of_ble_eq_true rfl, Nat.le_of_ble_eq_true rfl⟩ 12 rfl rfl rfl [0, 1] [] rfl rfl (by decide) rfl hl.1 rfl (lv_room (Nat.le_of_ble_eq_true rfl)) dX12_placed_2 ⟨Nat.le_of_ble_eq_true rfl, Nat.le_of_ble_eq_true rfl⟩ (fun r_1 u_2 H locs hw hP hD hS => ?_)
  obtain ⟨hr_r_1, hf_3⟩ := hw
  refine lv_istore_n (lv' := [(3, .int r_1), (0, .ref h0), (1, .int t), (2, .int k)]) hx hb dX12_placed_5 rfl hl (by decide) rfl (fun ls hl => ?_)
  refine lv_iload_n hx hb dX12_placed_6 rfl (lv_at hl 0 rfl) ?_
  refine lv_if_le (tgt := 14) hx hb dX12_placed_7 (by decide) (fun c_4 => ?_) (fun c_4 => ?_)
  · have b_5 := z_fleT c_4
    refine lv_iload_n hx hb dX12_placed_14 rfl (lv_at hl 3 rfl) ?_
    refine lv_if_lt (tgt := 28) hx hb dX12_placed_15 (by decide) (fun c_6 => ?_) (fun c_6 => ?_)
    · have b_7 := z_fltT c_6
      refine lv_iconst (v := 4) hx hb dX12_placed_28 (by decide) ?_
      refine lv_goto (tgt := 33) hx hb dX12_placed_29 (by decide) ?_
      have hpost : (0 ≤ (4 : Int32).toInt ∧ (4 : Int32).toInt ≤ 4) ∧ ((4 : Int32).toInt = 0 → 0 ≤ t.toInt ∧ t.toInt ≤ 3 ∧ 0 ≤ k.toInt ∧ k.toInt ≤ 59) := ⟨(by decide +kernel), (by omega)⟩
      exact hret _ _ _ _ _ _ () [0, 1] hP hD hS rfl (by decide) dX12_placed_33 hpost
    · have b_8 := z_fgeF c_6
      refine lv_iload_n hx hb dX12_placed_18 rfl (lv_at hl 3 rfl) ?_
      refine lv_aload_n hx hb dX12_placed_19 rfl (lv_at hl 1 rfl) ?_
      refine va_get (D := G) (ci := 12) (v := .ref a_trayMany) (C := RX12) (T := TX12) (N := 65) hx hb hts inT12 hown hK hP 0 rfl rfl 5 (by decide) (hts _ tw_1890) (fun _ h9 => h9) rfl dX12_placed_20 ?_
      refine lv_iload_n hx hb dX12_placed_23 rfl (lv_at hl 2 rfl) ?_
      refine va_iald hx hb hK hP 1 0 rfl rfl (z_inN (by omega) (by omega)) dX12_placed_24 ?_
      refine lv_topi (fun x_9 he_x_9 => ?_)
      have hr_x_9 := z_rg hC_g_trayMany he_x_9 (by omega) (by omega)
      refine lv_icmp_lt (tgt := 32) hx hb dX12_placed_25 (by decide) (fun c_10 => ?_) (fun c_10 => ?_)
      · have b_11 := z_fltT c_10
        refine lv_iconst (v := 0) hx hb dX12_placed_32 (by decide) ?_
        have hpost : (0 ≤ (0 : Int32).toInt ∧ (0 : Int32).toInt ≤ 4) ∧ ((0 : Int32).toInt = 0 → 0 ≤ t.toInt ∧ t.toInt ≤ 3 ∧ 0 ≤ k.toInt ∧ k.toInt ≤ 59) := ⟨(by decide +kernel), (by omega)⟩
        exact hret _ _ _ _ _ _ () [0, 1] hP hD hS rfl (by decide) dX12_placed_33 hpost
      · have b_12 := z_fgeF c_10
        refine lv_iconst (v := 4) hx hb dX12_placed_28 (by decide) ?_
        refine lv_goto (tgt := 33) hx hb dX12_placed_29 (by decide) ?_
        have hpost : (0 ≤ (4 : Int32).toInt ∧ (4 : Int32).toInt ≤ 4) ∧ ((4 : Int32).toInt = 0 → 0 ≤ t.toInt ∧ t.toInt ≤ 3 ∧ 0 ≤ k.toInt ∧ k.toInt ≤ 59) := ⟨(by decide +kernel), (by omega)⟩
        exact hret _ _ _ _ _ _ () [0, 1] hP hD hS rfl (by decide) dX12_placed_33 hpost
  · have b_13 := z_fgtF c_4
    refine lv_iload_n hx hb dX12_placed_10 rfl (lv_at hl 0 rfl) ?_
    refine lv_goto (tgt := 33) hx hb dX12_placed_11 (by decide) ?_
    have hpost : (0 ≤ r_1.toInt ∧ r_1.toInt ≤ 4) ∧ (r_1.toInt = 0 → 0 ≤ t.toInt ∧ t.toInt ≤ 3 ∧ 0 ≤ k.toInt ∧ k.toInt ≤ 59) := ⟨(z_rgw hr_r_1 (by decide) (by decide)), (by omega)⟩
    exact hret _ _ _ _ _ _ () [0, 1] hP hD hS rfl (by decide) dX12_placed_33 hpost
set_option maxHeartbeats 4000000 in
set_option maxRecDepth 100000 in
theorem r_tray (l : Launch) (G : va_G) (cA : zCA) (h0 : Nat) (m_status : Int32) (m_thrown : Int32) (m_above : Int64) (m_under : Int64) (a_traySort : Nat) (a_trayMany : Nat) (a_numbers : Nat) (a_tape : Nat) (m_taped : Int32) (m_textEnd : Int32) (m_faultKind : Int32) (m_faultAt : Int32) (m_bad : Int32) (m_badAt : Int32) (m_token : Int32) (m_at : Int32) (m_behind : Int32) (m_number : Int32) (m_letters : Int32) (m_word : Int64) (a_c : Nat) (a_words : Nat) (m_markMany : Int32) (a_there : Nat) (a_tried : Nat) (a_best : Nat) (a_found : Nat) (m_thereMany : Int32) (m_foundMany : Int32) (m_orderHow : Int32) (m_orderRing : Int32) (m_orderMany : Int32) (m_hasBest : Int32) (m_bestTop : Int64) (m_bestBy : Int64) (a_weights : Nat) (a_shared : Nat) (m_random : Int32) (m_truePlace : Int32) (m_trueWay : Int32) (m_seconds : Int32) (m_done : Int32) (m_feelings : Int32) (m_tries : Int32) (m_leftOver : Int32) (m_playDoor : Int32) (m_playRing : Int32) (m_isOpen : Int32) (m_isOver : Int32) (m_wasTried : Int32) (m_hasPlayed : Int32) (a_feltNow : Nat) (a_last : Nat) (a_kept : Nat) (m_hasSeconds : Int32) (m_hasTurned : Int32) (m_hasRound : Int32) (a_hasFeels : Nat) (a_isOn : Nat) (m_firstAct : Int32) (m_meanTop : Int64) (m_meanBy : Int64) (a_order : Nat) (m_rowMany : Int32) (m_newSteps : Int32) (g_traySort : Nat → Int32) (g_trayMany : Nat → Int32) (g_numbers : Nat → Int64) (t : Int32) (ss : Int32) (nn : Int32) (hC_g_trayMany : zRg 4 (-1) 60 g_trayMany) : zCi l yX12_tray cX12_tray 5 (some .boolean) ({ frames := 1, cells := 0, slots := 0, locals := 21 }) G cA [.ref h0, .int t, .int ss, .int nn] [(h0, .inr (12, [.int m_status, .int m_thrown, .long m_above, .long m_under, .ref a_traySort, .ref a_trayMany, .ref a_numbers, .ref a_tape, .int m_taped, .int m_textEnd, .int m_faultKind, .int m_faultAt, .int m_bad, .int m_badAt, .int m_token, .int m_at, .int m_behind, .int m_number, .int m_letters, .long m_word, .ref a_c, .ref a_words, .int m_markMany, .ref a_there, .ref a_tried, .ref a_best, .ref a_found, .int m_thereMany, .int m_foundMany, .int m_orderHow, .int m_orderRing, .int m_orderMany, .int m_hasBest, .long m_bestTop, .long m_bestBy, .ref a_weights, .ref a_shared, .int m_random, .int m_truePlace, .int m_trueWay, .int m_seconds, .int m_done, .int m_feelings, .int m_tries, .int m_leftOver, .int m_playDoor, .int m_playRing, .int m_isOpen, .int m_isOver, .int m_wasTried, .int m_hasPlayed, .ref a_feltNow, .ref a_last, .ref a_kept, .int m_hasSeconds, .int m_hasTurned, .int m_hasRound, .ref a_hasFeels, .ref a_isOn, .int m_firstAct, .long m_meanTop, .long m_meanBy, .ref a_order, .int m_rowMany, .int m_newSteps])), (a_traySort, .inl (cA.1 0, 4, .inl g_traySort)), (a_trayMany, .inl (cA.1 0, 4, .inl g_trayMany)), (a_numbers, .inl (cA.1 1, 240, .inr (.inl g_numbers)))] (S := Int32 × Int32 × (Nat → Int32) × (Nat → Int32) × (Nat → Int64)) (fun (r : Int32) (u : Int32 × Int32 × (Nat → Int32) × (Nat → Int32) × (Nat → Int64)) => (r = 0 ∧ (0 ≤ u.2.1.toInt ∧ u.2.1.toInt ≤ 0) ∧ (zRg 4 (-1) 60 u.2.2.2.1)) ∨ (r = 1 ∧ (0 ≤ u.1.toInt ∧ u.1.toInt ≤ 0) ∧ (0 ≤ u.2.1.toInt ∧ u.2.1.toInt ≤ 0) ∧ (zRg 4 (-1) 60 u.2.2.2.1))) (fun (u : Int32 × Int32 × (Nat → Int32) × (Nat → Int32) × (Nat → Int64)) => [(h0, .inr (12, [.int u.1, .int u.2.1, .long m_above, .long m_under, .ref a_traySort, .ref a_trayMany, .ref a_numbers, .ref a_tape, .int m_taped, .int m_textEnd, .int m_faultKind, .int m_faultAt, .int m_bad, .int m_badAt, .int m_token, .int m_at, .int m_behind, .int m_number, .int m_letters, .long m_word, .ref a_c, .ref a_words, .int m_markMany, .ref a_there, .ref a_tried, .ref a_best, .ref a_found, .int m_thereMany, .int m_foundMany, .int m_orderHow, .int m_orderRing, .int m_orderMany, .int m_hasBest, .long m_bestTop, .long m_bestBy, .ref a_weights, .ref a_shared, .int m_random, .int m_truePlace, .int m_trueWay, .int m_seconds, .int m_done, .int m_feelings, .int m_tries, .int m_leftOver, .int m_playDoor, .int m_playRing, .int m_isOpen, .int m_isOver, .int m_wasTried, .int m_hasPlayed, .ref a_feltNow, .ref a_last, .ref a_kept, .int m_hasSeconds, .int m_hasTurned, .int m_hasRound, .ref a_hasFeels, .ref a_isOn, .int m_firstAct, .long m_meanTop, .long m_meanBy, .ref a_order, .int m_rowMany, .int m_newSteps])), (a_traySort, .inl (cA.1 0, 4, .inl u.2.2.1)), (a_trayMany, .inl (cA.1 0, 4, .inl u.2.2.2.1)), (a_numbers, .inl (cA.1 1, 240, .inr (.inl u.2.2.2.2)))]) 0 0 := by
  have hk_0 : (0 : Int32).toInt = 0 := by decide +kernel
  have hk_1 : (1 : Int32).toInt = 1 := by decide +kernel
  have hk_3 : (3 : Int32).toInt = 3 := by decide +kernel
  have hk_4 : (4 : Int32).toInt = 4 := by decide +kernel
  have hk_5 : (5 : Int32).toInt = 5 := by decide +kernel
  have hk_6 : (6 : Int32).toInt = 6 := by decide +kernel
  have hk_60 : (60 : Int32).toInt = 60 := by decide +kernel
  refine z_start2z (own := RX12) (by decide) (Nat.le_of_ble_eq_true rfl) rfl ?_
  intro p e s m args below meth c A ls Q hx hb hml hts hown hK hE hT hP hD hS hA hl hret
  have hl : lv_has ls 5 [(0, .ref h0), (1, .int t), (2, .int ss), (3, .int nn)] := hl
  refine lv_aload_n hx hb dX12_tray_0 rfl (lv_at hl 0 rfl) ?_
  refine lv_iconst (v := 0) hx hb dX12_tray_1 (by decide) ?_
  refine va_put (D := G) (ci := 12) (v := .int 0) (ty := .int) (C := RX12) (T := TX12) (N := 65) hx hb hts inT12 tyX12 tyX12_ok nmX12 hown hK hP hD hS 0 rfl rfl 1 (by decide) (hts _ tw_1886) (fun _ h9 => h9) rfl (tyX12_ok 1 (by decide)) rfl rfl (Nat.le_of_ble_eq_true rfl) dX12_tray_2 (fun H locs hP hD hS => ?_)
  refine lv_aload_n hx hb dX12_tray_5 rfl (lv_at hl 0 rfl) ?_
  refine lv_iconst (v := 0) hx hb dX12_tray_6 (by decide) ?_
  refine va_put (D := G) (ci := 12) (v := .int 0) (ty := .int) (C := RX12) (T := TX12) (N := 65) hx hb hts inT12 tyX12 tyX12_ok nmX12 hown hK hP hD hS 0 rfl rfl 0 (by decide) (hts _ tw_1885) (fun _ h9 => h9) rfl (tyX12_ok 0 (by decide)) rfl rfl (Nat.le_of_ble_eq_true rfl) dX12_tray_7 (fun H locs hP hD hS => ?_)
  refine lv_iload_n hx hb dX12_tray_10 rfl (lv_at hl 1 rfl) ?_
  refine lv_if_lt (tgt := 28) hx hb dX12_tray_11 (by decide) (fun c_1 => ?_) (fun c_1 => ?_)
  · have b_2 := z_fltT c_1
    refine lv_aload_n hx hb dX12_tray_28 rfl (lv_at hl 0 rfl) ?_
    refine lv_iconst (v := 1) hx hb dX12_tray_29 (by decide) ?_
    refine z_callVi (As := [.int 1]) (rest := []) (wr := [(a_traySort, .inl (cA.1 0, 4, .inl g_traySort)), (a_trayMany, .inl (cA.1 0, 4, .inl g_trayMany)), (a_numbers, .inl (cA.1 1, 240, .inr (.inl g_numbers)))]) ⟨hx, hb, hml, hown, hts⟩ hK hE hT hP hD hS hA (r_no l G cA h0 0 0 m_above m_under a_traySort a_trayMany a_numbers a_tape m_taped m_textEnd m_faultKind m_faultAt m_bad m_badAt m_token m_at m_behind m_number m_letters m_word a_c a_words m_markMany a_there a_tried a_best a_found m_thereMany m_foundMany m_orderHow m_orderRing m_orderMany m_hasBest m_bestTop m_bestBy a_weights a_shared m_random m_truePlace m_trueWay m_seconds m_done m_feelings m_tries m_leftOver m_playDoor m_playRing m_isOpen m_isOver m_wasTried m_hasPlayed a_feltNow a_last a_kept m_hasSeconds m_hasTurned m_hasRound a_hasFeels a_isOn m_firstAct m_meanTop m_meanBy a_order m_rowMany m_newSteps 1) lk_RX12_97 ⟨rfl, rfl⟩ ⟨Nat.le_of_ble_eq_true rfl, Nat.le_of_ble_eq_true rfl⟩ 12 rfl rfl rfl [0] [1, 2, 3] rfl rfl (by decide) rfl hl.1 rfl (lv_room (Nat.le_of_ble_eq_true rfl)) dX12_tray_30 ⟨Nat.le_of_ble_eq_true rfl, Nat.le_of_ble_eq_true rfl⟩ (fun r_4 u_5 H locs hw hP hD hS => ?_)
    obtain ⟨n_3, rfl⟩ : ∃ z, z = u_5 := ⟨_, rfl⟩
    obtain ⟨he_r_4, he_n_3, hw⟩ := hw
    obtain ⟨rfl, -⟩ := hw
    have hpost : ((0 : Int32) = 0 ∧ (0 ≤ (0 : Int32).toInt ∧ (0 : Int32).toInt ≤ 0) ∧ (zRg 4 (-1) 60 g_trayMany)) ∨ ((0 : Int32) = 1 ∧ (0 ≤ n_3.toInt ∧ n_3.toInt ≤ 0) ∧ (0 ≤ (0 : Int32).toInt ∧ (0 : Int32).toInt ≤ 0) ∧ (zRg 4 (-1) 60 g_trayMany)) := (Or.inl ⟨rfl, ⟨(by decide +kernel), hC_g_trayMany⟩⟩)
    exact hret _ _ _ _ _ _ (n_3, 0, g_traySort, g_trayMany, g_numbers) [3, 0, 1, 2] hP hD hS rfl (by decide) dX12_tray_33 (Or.inl rfl) hpost
  · have b_6 := z_fgeF c_1
    refine lv_iload_n hx hb dX12_tray_14 rfl (lv_at hl 1 rfl) ?_
    refine lv_iconst (v := 4) hx hb dX12_tray_15 (by decide) ?_
    refine lv_icmp_ge (tgt := 28) hx hb dX12_tray_16 (by decide) (fun c_7 => ?_) (fun c_7 => ?_)
    · have b_8 := z_fgeT c_7
      refine lv_aload_n hx hb dX12_tray_28 rfl (lv_at hl 0 rfl) ?_
      refine lv_iconst (v := 1) hx hb dX12_tray_29 (by decide) ?_
      refine z_callVi (As := [.int 1]) (rest := []) (wr := [(a_traySort, .inl (cA.1 0, 4, .inl g_traySort)), (a_trayMany, .inl (cA.1 0, 4, .inl g_trayMany)), (a_numbers, .inl (cA.1 1, 240, .inr (.inl g_numbers)))]) ⟨hx, hb, hml, hown, hts⟩ hK hE hT hP hD hS hA (r_no l G cA h0 0 0 m_above m_under a_traySort a_trayMany a_numbers a_tape m_taped m_textEnd m_faultKind m_faultAt m_bad m_badAt m_token m_at m_behind m_number m_letters m_word a_c a_words m_markMany a_there a_tried a_best a_found m_thereMany m_foundMany m_orderHow m_orderRing m_orderMany m_hasBest m_bestTop m_bestBy a_weights a_shared m_random m_truePlace m_trueWay m_seconds m_done m_feelings m_tries m_leftOver m_playDoor m_playRing m_isOpen m_isOver m_wasTried m_hasPlayed a_feltNow a_last a_kept m_hasSeconds m_hasTurned m_hasRound a_hasFeels a_isOn m_firstAct m_meanTop m_meanBy a_order m_rowMany m_newSteps 1) lk_RX12_97 ⟨rfl, rfl⟩ ⟨Nat.le_of_ble_eq_true rfl, Nat.le_of_ble_eq_true rfl⟩ 12 rfl rfl rfl [0] [1, 2, 3] rfl rfl (by decide) rfl hl.1 rfl (lv_room (Nat.le_of_ble_eq_true rfl)) dX12_tray_30 ⟨Nat.le_of_ble_eq_true rfl, Nat.le_of_ble_eq_true rfl⟩ (fun r_10 u_11 H locs hw hP hD hS => ?_)
      obtain ⟨n_9, rfl⟩ : ∃ z, z = u_11 := ⟨_, rfl⟩
      obtain ⟨he_r_10, he_n_9, hw⟩ := hw
      obtain ⟨rfl, -⟩ := hw
      have hpost : ((0 : Int32) = 0 ∧ (0 ≤ (0 : Int32).toInt ∧ (0 : Int32).toInt ≤ 0) ∧ (zRg 4 (-1) 60 g_trayMany)) ∨ ((0 : Int32) = 1 ∧ (0 ≤ n_9.toInt ∧ n_9.toInt ≤ 0) ∧ (0 ≤ (0 : Int32).toInt ∧ (0 : Int32).toInt ≤ 0) ∧ (zRg 4 (-1) 60 g_trayMany)) := (Or.inl ⟨rfl, ⟨(by decide +kernel), hC_g_trayMany⟩⟩)
      exact hret _ _ _ _ _ _ (n_9, 0, g_traySort, g_trayMany, g_numbers) [3, 0, 1, 2] hP hD hS rfl (by decide) dX12_tray_33 (Or.inl rfl) hpost
    · have b_12 := z_fltF c_7
      refine lv_iload_n hx hb dX12_tray_19 rfl (lv_at hl 2 rfl) ?_
      refine lv_if_lt (tgt := 28) hx hb dX12_tray_20 (by decide) (fun c_13 => ?_) (fun c_13 => ?_)
      · have b_14 := z_fltT c_13
        refine lv_aload_n hx hb dX12_tray_28 rfl (lv_at hl 0 rfl) ?_
        refine lv_iconst (v := 1) hx hb dX12_tray_29 (by decide) ?_
        refine z_callVi (As := [.int 1]) (rest := []) (wr := [(a_traySort, .inl (cA.1 0, 4, .inl g_traySort)), (a_trayMany, .inl (cA.1 0, 4, .inl g_trayMany)), (a_numbers, .inl (cA.1 1, 240, .inr (.inl g_numbers)))]) ⟨hx, hb, hml, hown, hts⟩ hK hE hT hP hD hS hA (r_no l G cA h0 0 0 m_above m_under a_traySort a_trayMany a_numbers a_tape m_taped m_textEnd m_faultKind m_faultAt m_bad m_badAt m_token m_at m_behind m_number m_letters m_word a_c a_words m_markMany a_there a_tried a_best a_found m_thereMany m_foundMany m_orderHow m_orderRing m_orderMany m_hasBest m_bestTop m_bestBy a_weights a_shared m_random m_truePlace m_trueWay m_seconds m_done m_feelings m_tries m_leftOver m_playDoor m_playRing m_isOpen m_isOver m_wasTried m_hasPlayed a_feltNow a_last a_kept m_hasSeconds m_hasTurned m_hasRound a_hasFeels a_isOn m_firstAct m_meanTop m_meanBy a_order m_rowMany m_newSteps 1) lk_RX12_97 ⟨rfl, rfl⟩ ⟨Nat.le_of_ble_eq_true rfl, Nat.le_of_ble_eq_true rfl⟩ 12 rfl rfl rfl [0] [1, 2, 3] rfl rfl (by decide) rfl hl.1 rfl (lv_room (Nat.le_of_ble_eq_true rfl)) dX12_tray_30 ⟨Nat.le_of_ble_eq_true rfl, Nat.le_of_ble_eq_true rfl⟩ (fun r_16 u_17 H locs hw hP hD hS => ?_)
        obtain ⟨n_15, rfl⟩ : ∃ z, z = u_17 := ⟨_, rfl⟩
        obtain ⟨he_r_16, he_n_15, hw⟩ := hw
        obtain ⟨rfl, -⟩ := hw
        have hpost : ((0 : Int32) = 0 ∧ (0 ≤ (0 : Int32).toInt ∧ (0 : Int32).toInt ≤ 0) ∧ (zRg 4 (-1) 60 g_trayMany)) ∨ ((0 : Int32) = 1 ∧ (0 ≤ n_15.toInt ∧ n_15.toInt ≤ 0) ∧ (0 ≤ (0 : Int32).toInt ∧ (0 : Int32).toInt ≤ 0) ∧ (zRg 4 (-1) 60 g_trayMany)) := (Or.inl ⟨rfl, ⟨(by decide +kernel), hC_g_trayMany⟩⟩)
        exact hret _ _ _ _ _ _ (n_15, 0, g_traySort, g_trayMany, g_numbers) [3, 0, 1, 2] hP hD hS rfl (by decide) dX12_tray_33 (Or.inl rfl) hpost
      · have b_18 := z_fgeF c_13
        refine lv_iload_n hx hb dX12_tray_23 rfl (lv_at hl 2 rfl) ?_
        refine lv_iconst (v := 3) hx hb dX12_tray_24 (by decide) ?_
        refine lv_icmp_le (tgt := 34) hx hb dX12_tray_25 (by decide) (fun c_19 => ?_) (fun c_19 => ?_)
        · have b_20 := z_fleT c_19
          refine lv_iload_n hx hb dX12_tray_34 rfl (lv_at hl 3 rfl) ?_
          refine lv_bipush (v := 60) hx hb dX12_tray_35 (by decide) ?_
          refine lv_icmp_le (tgt := 46) hx hb dX12_tray_37 (by decide) (fun c_21 => ?_) (fun c_21 => ?_)
          · have b_22 := z_fleT c_21
            refine lv_iload_n hx hb dX12_tray_46 rfl (lv_at hl 3 rfl) ?_
            refine lv_if_ge (tgt := 57) hx hb dX12_tray_47 (by decide) (fun c_23 => ?_) (fun c_23 => ?_)
            · have b_24 := z_fgeT c_23
              refine lv_aload_n hx hb dX12_tray_57 rfl (lv_at hl 0 rfl) ?_
              refine va_get (D := G) (ci := 12) (v := .ref a_traySort) (C := RX12) (T := TX12) (N := 65) hx hb hts inT12 hown hK hP 0 rfl rfl 4 (by decide) (hts _ tw_1889) (fun _ h9 => h9) rfl dX12_tray_58 ?_
              refine lv_iload_n hx hb dX12_tray_61 rfl (lv_at hl 1 rfl) ?_
              refine lv_iload_n hx hb dX12_tray_62 rfl (lv_at hl 2 rfl) ?_
              refine z_iast hx hb hK hP hD hS 1 0 rfl rfl (z_inN (by omega) (by omega)) dX12_tray_63 (fun g_25 hg_g_25 H locs hP hD hS => ?_)
              refine lv_aload_n hx hb dX12_tray_64 rfl (lv_at hl 0 rfl) ?_
              refine va_get (D := G) (ci := 12) (v := .ref a_trayMany) (C := RX12) (T := TX12) (N := 65) hx hb hts inT12 hown hK hP 0 rfl rfl 5 (by decide) (hts _ tw_1890) (fun _ h9 => h9) rfl dX12_tray_65 ?_
              refine lv_iload_n hx hb dX12_tray_68 rfl (lv_at hl 1 rfl) ?_
              refine lv_iload_n hx hb dX12_tray_69 rfl (lv_at hl 3 rfl) ?_
              refine z_iast hx hb hK hP hD hS 2 0 rfl rfl (z_inN (by omega) (by omega)) dX12_tray_70 (fun g_26 hg_g_26 H locs hP hD hS => ?_)
              have hC_g_26 := z_rgU hC_g_trayMany hg_g_26 (by omega)
              refine lv_iconst (v := 0) hx hb dX12_tray_71 (by decide) ?_
              refine lv_istore (lv' := [(4, .int 0), (0, .ref h0), (1, .int t), (2, .int ss), (3, .int nn)]) hx hb dX12_tray_72 hl (by decide) rfl (fun ls hl => ?_)
              have hlp_258 : ∀ (n : Nat) (v_249 : Int32) (g_250 : Nat → Int64) (H : Heap) (locs : List Loc) (ls : Array Slot), (2147483647 - v_249.toInt).toNat < n → (0 ≤ v_249.toInt ∧ v_249.toInt ≤ 60) → va_P G vwCl [(h0, .inr (12, [.int 0, .int 0, .long m_above, .long m_under, .ref a_traySort, .ref a_trayMany, .ref a_numbers, .ref a_tape, .int m_taped, .int m_textEnd, .int m_faultKind, .int m_faultAt, .int m_bad, .int m_badAt, .int m_token, .int m_at, .int m_behind, .int m_number, .int m_letters, .long m_word, .ref a_c, .ref a_words, .int m_markMany, .ref a_there, .ref a_tried, .ref a_best, .ref a_found, .int m_thereMany, .int m_foundMany, .int m_orderHow, .int m_orderRing, .int m_orderMany, .int m_hasBest, .long m_bestTop, .long m_bestBy, .ref a_weights, .ref a_shared, .int m_random, .int m_truePlace, .int m_trueWay, .int m_seconds, .int m_done, .int m_feelings, .int m_tries, .int m_leftOver, .int m_playDoor, .int m_playRing, .int m_isOpen, .int m_isOver, .int m_wasTried, .int m_hasPlayed, .ref a_feltNow, .ref a_last, .ref a_kept, .int m_hasSeconds, .int m_hasTurned, .int m_hasRound, .ref a_hasFeels, .ref a_isOn, .int m_firstAct, .long m_meanTop, .long m_meanBy, .ref a_order, .int m_rowMany, .int m_newSteps])), (a_traySort, .inl (cA.1 0, 4, .inl g_25)), (a_trayMany, .inl (cA.1 0, 4, .inl g_26)), (a_numbers, .inl (cA.1 1, 240, .inr (.inl g_250)))] H → va_D A [(h0, .inr (12, [.int 0, .int 0, .long m_above, .long m_under, .ref a_traySort, .ref a_trayMany, .ref a_numbers, .ref a_tape, .int m_taped, .int m_textEnd, .int m_faultKind, .int m_faultAt, .int m_bad, .int m_badAt, .int m_token, .int m_at, .int m_behind, .int m_number, .int m_letters, .long m_word, .ref a_c, .ref a_words, .int m_markMany, .ref a_there, .ref a_tried, .ref a_best, .ref a_found, .int m_thereMany, .int m_foundMany, .int m_orderHow, .int m_orderRing, .int m_orderMany, .int m_hasBest, .long m_bestTop, .long m_bestBy, .ref a_weights, .ref a_shared, .int m_random, .int m_truePlace, .int m_trueWay, .int m_seconds, .int m_done, .int m_feelings, .int m_tries, .int m_leftOver, .int m_playDoor, .int m_playRing, .int m_isOpen, .int m_isOver, .int m_wasTried, .int m_hasPlayed, .ref a_feltNow, .ref a_last, .ref a_kept, .int m_hasSeconds, .int m_hasTurned, .int m_hasRound, .ref a_hasFeels, .ref a_isOn, .int m_firstAct, .long m_meanTop, .long m_meanBy, .ref a_order, .int m_rowMany, .int m_newSteps])), (a_traySort, .inl (cA.1 0, 4, .inl g_25)), (a_trayMany, .inl (cA.1 0, 4, .inl g_26)), (a_numbers, .inl (cA.1 1, 240, .inr (.inl g_250)))] → va_S A s.heap H locs → lv_has ls 5 [(0, .ref h0), (1, .int t), (2, .int ss), (3, .int nn), (4, .int v_249)] → W p l e ({ frames := 1, cells := 0, slots := 0, locals := 21 }) s m args below meth c H locs 0 0 Q (F0 m 74 ls []) := by
                intro n
                induction n with
                | zero =>
                  intro v_249 g_250 H locs ls hmu_hlp_258 hr_v_249 hP hD hS hl
                  exact absurd hmu_hlp_258 (Nat.not_lt_zero _)
                | succ n ih_259 =>
                  intro v_249 g_250 H locs ls hmu_hlp_258 hr_v_249 hP hD hS hl
                  refine lv_iload hx hb dX12_tray_74 (lv_at hl 4 rfl) ?_
                  refine lv_iload_n hx hb dX12_tray_76 rfl (lv_at hl 3 rfl) ?_
                  refine lv_icmp_ge (tgt := 99) hx hb dX12_tray_77 (by decide) (fun c_260 => ?_) (fun c_260 => ?_)
                  · have b_261 := z_fgeT c_260
                    refine lv_iconst (v := 1) hx hb dX12_tray_99 (by decide) ?_
                    have hpost : ((1 : Int32) = 0 ∧ (0 ≤ (0 : Int32).toInt ∧ (0 : Int32).toInt ≤ 0) ∧ (zRg 4 (-1) 60 g_26)) ∨ ((1 : Int32) = 1 ∧ (0 ≤ (0 : Int32).toInt ∧ (0 : Int32).toInt ≤ 0) ∧ (0 ≤ (0 : Int32).toInt ∧ (0 : Int32).toInt ≤ 0) ∧ (zRg 4 (-1) 60 g_26)) := (Or.inr ⟨rfl, ⟨(by decide +kernel), (by decide +kernel), hC_g_26⟩⟩)
                    exact hret _ _ _ _ _ _ (0, 0, g_25, g_26, g_250) [0, 1, 2, 3] hP hD hS rfl (by decide) dX12_tray_100 (Or.inr rfl) hpost
                  · have b_262 := z_fltF c_260
                    refine lv_aload_n hx hb dX12_tray_80 rfl (lv_at hl 0 rfl) ?_
                    refine va_get (D := G) (ci := 12) (v := .ref a_numbers) (C := RX12) (T := TX12) (N := 65) hx hb hts inT12 hown hK hP 0 rfl rfl 6 (by decide) (hts _ tw_1891) (fun _ h9 => h9) rfl dX12_tray_81 ?_
                    refine lv_bipush (v := 60) hx hb dX12_tray_84 (by decide) ?_
                    refine lv_iload_n hx hb dX12_tray_86 rfl (lv_at hl 1 rfl) ?_
                    refine lv_imul hx hb dX12_tray_87 ?_
                    refine lv_topi (fun x_263 he_x_263 => ?_)
                    have hq_x_263 := z_mulq he_x_263 hk_60 (rfl : t.toInt = _) (by omega) (by omega)
                    refine lv_iload hx hb dX12_tray_88 (lv_at hl 4 rfl) ?_
                    refine lv_iadd hx hb dX12_tray_90 ?_
                    refine lv_topi (fun x_264 he_x_264 => ?_)
                    have hq_x_264 := z_addq he_x_264 (rfl : x_263.toInt = _) (rfl : v_249.toInt = _) (by omega) (by omega)
                    refine lv_lconst (v := 0) hx hb dX12_tray_91 (by decide) ?_
                    refine z_last hx hb hK hP hD hS 3 1 rfl rfl (z_inN (by omega) (by omega)) dX12_tray_92 (fun g_265 hg_g_265 H locs hP hD hS => ?_)
                    obtain ⟨x_266, he_x_266⟩ : ∃ z : Int32, z = v_249 + 1 := ⟨_, rfl⟩
                    have hq_x_266 := z_addq he_x_266 (rfl : v_249.toInt = _) hk_1 (by omega) (by omega)
                    refine lv_iinc (v := x_266) (lv' := [(4, .int x_266), (0, .ref h0), (1, .int t), (2, .int ss), (3, .int nn)]) hx hb dX12_tray_93 hl (k := 4) rfl ((z_ofi (by decide +kernel)).trans he_x_266.symm) (by decide) rfl (fun ls hl => ?_)
                    refine lv_goto (tgt := 74) hx hb dX12_tray_96 (by decide) ?_
                    exact ih_259 x_266 g_265 H locs ls (by omega) (by omega) hP hD hS (lv_sub hl [1, 2, 3, 4, 0] rfl)
              exact hlp_258 _ 0 g_numbers _ _ _ (Nat.lt_succ_self _) (by decide +kernel) hP hD hS (lv_sub hl [1, 2, 3, 4, 0] rfl)
            · have b_267 := z_fltF c_23
              refine lv_aload_n hx hb dX12_tray_50 rfl (lv_at hl 0 rfl) ?_
              refine lv_bipush (v := 6) hx hb dX12_tray_51 (by decide) ?_
              refine z_callVi (As := [.int 6]) (rest := []) (wr := [(a_traySort, .inl (cA.1 0, 4, .inl g_traySort)), (a_trayMany, .inl (cA.1 0, 4, .inl g_trayMany)), (a_numbers, .inl (cA.1 1, 240, .inr (.inl g_numbers)))]) ⟨hx, hb, hml, hown, hts⟩ hK hE hT hP hD hS hA (r_no l G cA h0 0 0 m_above m_under a_traySort a_trayMany a_numbers a_tape m_taped m_textEnd m_faultKind m_faultAt m_bad m_badAt m_token m_at m_behind m_number m_letters m_word a_c a_words m_markMany a_there a_tried a_best a_found m_thereMany m_foundMany m_orderHow m_orderRing m_orderMany m_hasBest m_bestTop m_bestBy a_weights a_shared m_random m_truePlace m_trueWay m_seconds m_done m_feelings m_tries m_leftOver m_playDoor m_playRing m_isOpen m_isOver m_wasTried m_hasPlayed a_feltNow a_last a_kept m_hasSeconds m_hasTurned m_hasRound a_hasFeels a_isOn m_firstAct m_meanTop m_meanBy a_order m_rowMany m_newSteps 6) lk_RX12_97 ⟨rfl, rfl⟩ ⟨Nat.le_of_ble_eq_true rfl, Nat.le_of_ble_eq_true rfl⟩ 12 rfl rfl rfl [0] [1, 2, 3] rfl rfl (by decide) rfl hl.1 rfl (lv_room (Nat.le_of_ble_eq_true rfl)) dX12_tray_53 ⟨Nat.le_of_ble_eq_true rfl, Nat.le_of_ble_eq_true rfl⟩ (fun r_269 u_270 H locs hw hP hD hS => ?_)
              obtain ⟨n_268, rfl⟩ : ∃ z, z = u_270 := ⟨_, rfl⟩
              obtain ⟨he_r_269, he_n_268, hw⟩ := hw
              obtain ⟨rfl, -⟩ := hw
              have hpost : ((0 : Int32) = 0 ∧ (0 ≤ (0 : Int32).toInt ∧ (0 : Int32).toInt ≤ 0) ∧ (zRg 4 (-1) 60 g_trayMany)) ∨ ((0 : Int32) = 1 ∧ (0 ≤ n_268.toInt ∧ n_268.toInt ≤ 0) ∧ (0 ≤ (0 : Int32).toInt ∧ (0 : Int32).toInt ≤ 0) ∧ (zRg 4 (-1) 60 g_trayMany)) := (Or.inl ⟨rfl, ⟨(by decide +kernel), hC_g_trayMany⟩⟩)
              exact hret _ _ _ _ _ _ (n_268, 0, g_traySort, g_trayMany, g_numbers) [3, 0, 1, 2] hP hD hS rfl (by decide) dX12_tray_56 (Or.inl rfl) hpost
          · have b_271 := z_fgtF c_21
            refine lv_aload_n hx hb dX12_tray_40 rfl (lv_at hl 0 rfl) ?_
            refine lv_iconst (v := 5) hx hb dX12_tray_41 (by decide) ?_
            refine z_callVi (As := [.int 5]) (rest := []) (wr := [(a_traySort, .inl (cA.1 0, 4, .inl g_traySort)), (a_trayMany, .inl (cA.1 0, 4, .inl g_trayMany)), (a_numbers, .inl (cA.1 1, 240, .inr (.inl g_numbers)))]) ⟨hx, hb, hml, hown, hts⟩ hK hE hT hP hD hS hA (r_no l G cA h0 0 0 m_above m_under a_traySort a_trayMany a_numbers a_tape m_taped m_textEnd m_faultKind m_faultAt m_bad m_badAt m_token m_at m_behind m_number m_letters m_word a_c a_words m_markMany a_there a_tried a_best a_found m_thereMany m_foundMany m_orderHow m_orderRing m_orderMany m_hasBest m_bestTop m_bestBy a_weights a_shared m_random m_truePlace m_trueWay m_seconds m_done m_feelings m_tries m_leftOver m_playDoor m_playRing m_isOpen m_isOver m_wasTried m_hasPlayed a_feltNow a_last a_kept m_hasSeconds m_hasTurned m_hasRound a_hasFeels a_isOn m_firstAct m_meanTop m_meanBy a_order m_rowMany m_newSteps 5) lk_RX12_97 ⟨rfl, rfl⟩ ⟨Nat.le_of_ble_eq_true rfl, Nat.le_of_ble_eq_true rfl⟩ 12 rfl rfl rfl [0] [1, 2, 3] rfl rfl (by decide) rfl hl.1 rfl (lv_room (Nat.le_of_ble_eq_true rfl)) dX12_tray_42 ⟨Nat.le_of_ble_eq_true rfl, Nat.le_of_ble_eq_true rfl⟩ (fun r_273 u_274 H locs hw hP hD hS => ?_)
            obtain ⟨n_272, rfl⟩ : ∃ z, z = u_274 := ⟨_, rfl⟩
            obtain ⟨he_r_273, he_n_272, hw⟩ := hw
            obtain ⟨rfl, -⟩ := hw
            have hpost : ((0 : Int32) = 0 ∧ (0 ≤ (0 : Int32).toInt ∧ (0 : Int32).toInt ≤ 0) ∧ (zRg 4 (-1) 60 g_trayMany)) ∨ ((0 : Int32) = 1 ∧ (0 ≤ n_272.toInt ∧ n_272.toInt ≤ 0) ∧ (0 ≤ (0 : Int32).toInt ∧ (0 : Int32).toInt ≤ 0) ∧ (zRg 4 (-1) 60 g_trayMany)) := (Or.inl ⟨rfl, ⟨(by decide +kernel), hC_g_trayMany⟩⟩)
            exact hret _ _ _ _ _ _ (n_272, 0, g_traySort, g_trayMany, g_numbers) [3, 0, 1, 2] hP hD hS rfl (by decide) dX12_tray_45 (Or.inl rfl) hpost
        · have b_275 := z_fgtF c_19
          refine lv_aload_n hx hb dX12_tray_28 rfl (lv_at hl 0 rfl) ?_
          refine lv_iconst (v := 1) hx hb dX12_tray_29 (by decide) ?_
          refine z_callVi (As := [.int 1]) (rest := []) (wr := [(a_traySort, .inl (cA.1 0, 4, .inl g_traySort)), (a_trayMany, .inl (cA.1 0, 4, .inl g_trayMany)), (a_numbers, .inl (cA.1 1, 240, .inr (.inl g_numbers)))]) ⟨hx, hb, hml, hown, hts⟩ hK hE hT hP hD hS hA (r_no l G cA h0 0 0 m_above m_under a_traySort a_trayMany a_numbers a_tape m_taped m_textEnd m_faultKind m_faultAt m_bad m_badAt m_token m_at m_behind m_number m_letters m_word a_c a_words m_markMany a_there a_tried a_best a_found m_thereMany m_foundMany m_orderHow m_orderRing m_orderMany m_hasBest m_bestTop m_bestBy a_weights a_shared m_random m_truePlace m_trueWay m_seconds m_done m_feelings m_tries m_leftOver m_playDoor m_playRing m_isOpen m_isOver m_wasTried m_hasPlayed a_feltNow a_last a_kept m_hasSeconds m_hasTurned m_hasRound a_hasFeels a_isOn m_firstAct m_meanTop m_meanBy a_order m_rowMany m_newSteps 1) lk_RX12_97 ⟨rfl, rfl⟩ ⟨Nat.le_of_ble_eq_true rfl, Nat.le_of_ble_eq_true rfl⟩ 12 rfl rfl rfl [0] [1, 2, 3] rfl rfl (by decide) rfl hl.1 rfl (lv_room (Nat.le_of_ble_eq_true rfl)) dX12_tray_30 ⟨Nat.le_of_ble_eq_true rfl, Nat.le_of_ble_eq_true rfl⟩ (fun r_277 u_278 H locs hw hP hD hS => ?_)
          obtain ⟨n_276, rfl⟩ : ∃ z, z = u_278 := ⟨_, rfl⟩
          obtain ⟨he_r_277, he_n_276, hw⟩ := hw
          obtain ⟨rfl, -⟩ := hw
          have hpost : ((0 : Int32) = 0 ∧ (0 ≤ (0 : Int32).toInt ∧ (0 : Int32).toInt ≤ 0) ∧ (zRg 4 (-1) 60 g_trayMany)) ∨ ((0 : Int32) = 1 ∧ (0 ≤ n_276.toInt ∧ n_276.toInt ≤ 0) ∧ (0 ≤ (0 : Int32).toInt ∧ (0 : Int32).toInt ≤ 0) ∧ (zRg 4 (-1) 60 g_trayMany)) := (Or.inl ⟨rfl, ⟨(by decide +kernel), hC_g_trayMany⟩⟩)
          exact hret _ _ _ _ _ _ (n_276, 0, g_traySort, g_trayMany, g_numbers) [3, 0, 1, 2] hP hD hS rfl (by decide) dX12_tray_33 (Or.inl rfl) hpost
set_option maxHeartbeats 4000000 in
set_option maxRecDepth 100000 in
theorem r_numberOf (l : Launch) (G : va_G) (cA : zCA) (h0 : Nat) (m_status : Int32) (m_thrown : Int32) (m_above : Int64) (m_under : Int64) (a_traySort : Nat) (a_trayMany : Nat) (a_numbers : Nat) (a_tape : Nat) (m_taped : Int32) (m_textEnd : Int32) (m_faultKind : Int32) (m_faultAt : Int32) (m_bad : Int32) (m_badAt : Int32) (m_token : Int32) (m_at : Int32) (m_behind : Int32) (m_number : Int32) (m_letters : Int32) (m_word : Int64) (a_c : Nat) (a_words : Nat) (m_markMany : Int32) (a_there : Nat) (a_tried : Nat) (a_best : Nat) (a_found : Nat) (m_thereMany : Int32) (m_foundMany : Int32) (m_orderHow : Int32) (m_orderRing : Int32) (m_orderMany : Int32) (m_hasBest : Int32) (m_bestTop : Int64) (m_bestBy : Int64) (a_weights : Nat) (a_shared : Nat) (m_random : Int32) (m_truePlace : Int32) (m_trueWay : Int32) (m_seconds : Int32) (m_done : Int32) (m_feelings : Int32) (m_tries : Int32) (m_leftOver : Int32) (m_playDoor : Int32) (m_playRing : Int32) (m_isOpen : Int32) (m_isOver : Int32) (m_wasTried : Int32) (m_hasPlayed : Int32) (a_feltNow : Nat) (a_last : Nat) (a_kept : Nat) (m_hasSeconds : Int32) (m_hasTurned : Int32) (m_hasRound : Int32) (a_hasFeels : Nat) (a_isOn : Nat) (m_firstAct : Int32) (m_meanTop : Int64) (m_meanBy : Int64) (a_order : Nat) (m_rowMany : Int32) (m_newSteps : Int32) (g_numbers : Nat → Int64) (t : Int32) (k : Int32) (hr_t : 0 ≤ t.toInt ∧ t.toInt ≤ 3) (hr_k : 0 ≤ k.toInt ∧ k.toInt ≤ 59) : zCl l yX12_numberOf cX12_numberOf 3 (some .long) ({ frames := 0, cells := 0, slots := 0, locals := 0 }) G cA [.ref h0, .int t, .int k] [(h0, .inr (12, [.int m_status, .int m_thrown, .long m_above, .long m_under, .ref a_traySort, .ref a_trayMany, .ref a_numbers, .ref a_tape, .int m_taped, .int m_textEnd, .int m_faultKind, .int m_faultAt, .int m_bad, .int m_badAt, .int m_token, .int m_at, .int m_behind, .int m_number, .int m_letters, .long m_word, .ref a_c, .ref a_words, .int m_markMany, .ref a_there, .ref a_tried, .ref a_best, .ref a_found, .int m_thereMany, .int m_foundMany, .int m_orderHow, .int m_orderRing, .int m_orderMany, .int m_hasBest, .long m_bestTop, .long m_bestBy, .ref a_weights, .ref a_shared, .int m_random, .int m_truePlace, .int m_trueWay, .int m_seconds, .int m_done, .int m_feelings, .int m_tries, .int m_leftOver, .int m_playDoor, .int m_playRing, .int m_isOpen, .int m_isOver, .int m_wasTried, .int m_hasPlayed, .ref a_feltNow, .ref a_last, .ref a_kept, .int m_hasSeconds, .int m_hasTurned, .int m_hasRound, .ref a_hasFeels, .ref a_isOn, .int m_firstAct, .long m_meanTop, .long m_meanBy, .ref a_order, .int m_rowMany, .int m_newSteps])), (a_numbers, .inl (cA.1 1, 240, .inr (.inl g_numbers)))] (S := Unit) (fun (r : Int64) (u : Unit) => (r = g_numbers (60 * t.toInt.toNat + k.toInt.toNat))) (fun (u : Unit) => [(h0, .inr (12, [.int m_status, .int m_thrown, .long m_above, .long m_under, .ref a_traySort, .ref a_trayMany, .ref a_numbers, .ref a_tape, .int m_taped, .int m_textEnd, .int m_faultKind, .int m_faultAt, .int m_bad, .int m_badAt, .int m_token, .int m_at, .int m_behind, .int m_number, .int m_letters, .long m_word, .ref a_c, .ref a_words, .int m_markMany, .ref a_there, .ref a_tried, .ref a_best, .ref a_found, .int m_thereMany, .int m_foundMany, .int m_orderHow, .int m_orderRing, .int m_orderMany, .int m_hasBest, .long m_bestTop, .long m_bestBy, .ref a_weights, .ref a_shared, .int m_random, .int m_truePlace, .int m_trueWay, .int m_seconds, .int m_done, .int m_feelings, .int m_tries, .int m_leftOver, .int m_playDoor, .int m_playRing, .int m_isOpen, .int m_isOver, .int m_wasTried, .int m_hasPlayed, .ref a_feltNow, .ref a_last, .ref a_kept, .int m_hasSeconds, .int m_hasTurned, .int m_hasRound, .ref a_hasFeels, .ref a_isOn, .int m_firstAct, .long m_meanTop, .long m_meanBy, .ref a_order, .int m_rowMany, .int m_newSteps])), (a_numbers, .inl (cA.1 1, 240, .inr (.inl g_numbers)))]) 0 0 := by
  have hk_60 : (60 : Int32).toInt = 60 := by decide +kernel
  refine z_start2l (own := RX12) (by decide) (Nat.le_of_ble_eq_true rfl) rfl ?_
  intro p e s m args below meth c A ls Q hx hb hml hts hown hK hE hT hP hD hS hA hl hret
  have hl : lv_has ls 3 [(0, .ref h0), (1, .int t), (2, .int k)] := hl
  refine lv_aload_n hx hb dX12_numberOf_0 rfl (lv_at hl 0 rfl) ?_
  refine va_get (D := G) (ci := 12) (v := .ref a_numbers) (C := RX12) (T := TX12) (N := 65) hx hb hts inT12 hown hK hP 0 rfl rfl 6 (by decide) (hts _ tw_1891) (fun _ h9 => h9) rfl dX12_numberOf_1 ?_
  refine lv_bipush (v := 60) hx hb dX12_numberOf_4 (by decide) ?_
  refine lv_iload_n hx hb dX12_numberOf_6 rfl (lv_at hl 1 rfl) ?_
  refine lv_imul hx hb dX12_numberOf_7 ?_
  refine lv_topi (fun x_1 he_x_1 => ?_)
  have hq_x_1 := z_mulq he_x_1 hk_60 (rfl : t.toInt = _) (by omega) (by omega)
  refine lv_iload_n hx hb dX12_numberOf_8 rfl (lv_at hl 2 rfl) ?_
  refine lv_iadd hx hb dX12_numberOf_9 ?_
  refine lv_topi (fun x_2 he_x_2 => ?_)
  have hq_x_2 := z_addq he_x_2 (rfl : x_1.toInt = _) (rfl : k.toInt = _) (by omega) (by omega)
  refine va_lald hx hb hK hP 1 1 rfl rfl (z_inN (by omega) (by omega)) dX12_numberOf_10 ?_
  refine lv_topl (fun x_3 he_x_3 => ?_)
  have hpost : (x_3 = g_numbers (60 * t.toInt.toNat + k.toInt.toNat)) := (z_atl he_x_3 (by omega))
  exact hret _ _ _ _ _ _ () [0, 1] hP hD hS rfl (by decide) dX12_numberOf_11 hpost
set_option maxHeartbeats 4000000 in
set_option maxRecDepth 100000 in
theorem r_write (l : Launch) (G : va_G) (cA : zCA) (h0 : Nat) (m_status : Int32) (m_thrown : Int32) (m_above : Int64) (m_under : Int64) (a_traySort : Nat) (a_trayMany : Nat) (a_numbers : Nat) (a_tape : Nat) (m_taped : Int32) (m_textEnd : Int32) (m_faultKind : Int32) (m_faultAt : Int32) (m_bad : Int32) (m_badAt : Int32) (m_token : Int32) (m_at : Int32) (m_behind : Int32) (m_number : Int32) (m_letters : Int32) (m_word : Int64) (a_c : Nat) (a_words : Nat) (m_markMany : Int32) (a_there : Nat) (a_tried : Nat) (a_best : Nat) (a_found : Nat) (m_thereMany : Int32) (m_foundMany : Int32) (m_orderHow : Int32) (m_orderRing : Int32) (m_orderMany : Int32) (m_hasBest : Int32) (m_bestTop : Int64) (m_bestBy : Int64) (a_weights : Nat) (a_shared : Nat) (m_random : Int32) (m_truePlace : Int32) (m_trueWay : Int32) (m_seconds : Int32) (m_done : Int32) (m_feelings : Int32) (m_tries : Int32) (m_leftOver : Int32) (m_playDoor : Int32) (m_playRing : Int32) (m_isOpen : Int32) (m_isOver : Int32) (m_wasTried : Int32) (m_hasPlayed : Int32) (a_feltNow : Nat) (a_last : Nat) (a_kept : Nat) (m_hasSeconds : Int32) (m_hasTurned : Int32) (m_hasRound : Int32) (a_hasFeels : Nat) (a_isOn : Nat) (m_firstAct : Int32) (m_meanTop : Int64) (m_meanBy : Int64) (a_order : Nat) (m_rowMany : Int32) (m_newSteps : Int32) (g_traySort : Nat → Int32) (g_trayMany : Nat → Int32) (g_numbers : Nat → Int64) (t : Int32) (k : Int32) (v : Int64) (hC_g_trayMany : zRg 4 (-1) 60 g_trayMany) : zCi l yX12_write cX12_write 5 (some .boolean) ({ frames := 2, cells := 0, slots := 0, locals := 44 }) G cA [.ref h0, .int t, .int k, .long v] [(h0, .inr (12, [.int m_status, .int m_thrown, .long m_above, .long m_under, .ref a_traySort, .ref a_trayMany, .ref a_numbers, .ref a_tape, .int m_taped, .int m_textEnd, .int m_faultKind, .int m_faultAt, .int m_bad, .int m_badAt, .int m_token, .int m_at, .int m_behind, .int m_number, .int m_letters, .long m_word, .ref a_c, .ref a_words, .int m_markMany, .ref a_there, .ref a_tried, .ref a_best, .ref a_found, .int m_thereMany, .int m_foundMany, .int m_orderHow, .int m_orderRing, .int m_orderMany, .int m_hasBest, .long m_bestTop, .long m_bestBy, .ref a_weights, .ref a_shared, .int m_random, .int m_truePlace, .int m_trueWay, .int m_seconds, .int m_done, .int m_feelings, .int m_tries, .int m_leftOver, .int m_playDoor, .int m_playRing, .int m_isOpen, .int m_isOver, .int m_wasTried, .int m_hasPlayed, .ref a_feltNow, .ref a_last, .ref a_kept, .int m_hasSeconds, .int m_hasTurned, .int m_hasRound, .ref a_hasFeels, .ref a_isOn, .int m_firstAct, .long m_meanTop, .long m_meanBy, .ref a_order, .int m_rowMany, .int m_newSteps])), (a_traySort, .inl (cA.1 0, 4, .inl g_traySort)), (a_trayMany, .inl (cA.1 0, 4, .inl g_trayMany)), (a_numbers, .inl (cA.1 1, 240, .inr (.inl g_numbers)))] (S := Int32 × Int32 × (Nat → Int64)) (fun (r : Int32) (u : Int32 × Int32 × (Nat → Int64)) => (r = 0 ∧ (1 ≤ u.1.toInt ∧ u.1.toInt ≤ 4) ∧ (0 ≤ u.2.1.toInt ∧ u.2.1.toInt ≤ 0)) ∨ (r = 1 ∧ (0 ≤ u.1.toInt ∧ u.1.toInt ≤ 0) ∧ (0 ≤ u.2.1.toInt ∧ u.2.1.toInt ≤ 0))) (fun (u : Int32 × Int32 × (Nat → Int64)) => [(h0, .inr (12, [.int u.1, .int u.2.1, .long m_above, .long m_under, .ref a_traySort, .ref a_trayMany, .ref a_numbers, .ref a_tape, .int m_taped, .int m_textEnd, .int m_faultKind, .int m_faultAt, .int m_bad, .int m_badAt, .int m_token, .int m_at, .int m_behind, .int m_number, .int m_letters, .long m_word, .ref a_c, .ref a_words, .int m_markMany, .ref a_there, .ref a_tried, .ref a_best, .ref a_found, .int m_thereMany, .int m_foundMany, .int m_orderHow, .int m_orderRing, .int m_orderMany, .int m_hasBest, .long m_bestTop, .long m_bestBy, .ref a_weights, .ref a_shared, .int m_random, .int m_truePlace, .int m_trueWay, .int m_seconds, .int m_done, .int m_feelings, .int m_tries, .int m_leftOver, .int m_playDoor, .int m_playRing, .int m_isOpen, .int m_isOver, .int m_wasTried, .int m_hasPlayed, .ref a_feltNow, .ref a_last, .ref a_kept, .int m_hasSeconds, .int m_hasTurned, .int m_hasRound, .ref a_hasFeels, .ref a_isOn, .int m_firstAct, .long m_meanTop, .long m_meanBy, .ref a_order, .int m_rowMany, .int m_newSteps])), (a_traySort, .inl (cA.1 0, 4, .inl g_traySort)), (a_trayMany, .inl (cA.1 0, 4, .inl g_trayMany)), (a_numbers, .inl (cA.1 1, 240, .inr (.inl u.2.2)))]) 0 0 := by
  have hk_0 : (0 : Int32).toInt = 0 := by decide +kernel
  have hk_60 : (60 : Int32).toInt = 60 := by decide +kernel
  refine z_start2z (own := RX12) (by decide) (Nat.le_of_ble_eq_true rfl) rfl ?_
  intro p e s m args below meth c A ls Q hx hb hml hts hown hK hE hT hP hD hS hA hl hret
  have hl : lv_has ls 5 [(0, .ref h0), (1, .int t), (2, .int k), (3, .long v)] := hl
  refine lv_aload_n hx hb dX12_write_0 rfl (lv_at hl 0 rfl) ?_
  refine lv_iconst (v := 0) hx hb dX12_write_1 (by decide) ?_
  refine va_put (D := G) (ci := 12) (v := .int 0) (ty := .int) (C := RX12) (T := TX12) (N := 65) hx hb hts inT12 tyX12 tyX12_ok nmX12 hown hK hP hD hS 0 rfl rfl 1 (by decide) (hts _ tw_1886) (fun _ h9 => h9) rfl (tyX12_ok 1 (by decide)) rfl rfl (Nat.le_of_ble_eq_true rfl) dX12_write_2 (fun H locs hP hD hS => ?_)
  refine lv_aload_n hx hb dX12_write_5 rfl (lv_at hl 0 rfl) ?_
  refine lv_aload_n hx hb dX12_write_6 rfl (lv_at hl 0 rfl) ?_
  refine lv_iload_n hx hb dX12_write_7 rfl (lv_at hl 1 rfl) ?_
  refine lv_iload_n hx hb dX12_write_8 rfl (lv_at hl 2 rfl) ?_
  refine z_callVi (As := [.int t, .int k]) (rest := [.ref h0]) (wr := [(a_traySort, .inl (cA.1 0, 4, .inl g_traySort)), (a_numbers, .inl (cA.1 1, 240, .inr (.inl g_numbers)))]) ⟨hx, hb, hml, hown, hts⟩ hK hE hT hP hD hS hA (r_placed l G cA h0 m_status 0 m_above m_under a_traySort a_trayMany a_numbers a_tape m_taped m_textEnd m_faultKind m_faultAt m_bad m_badAt m_token m_at m_behind m_number m_letters m_word a_c a_words m_markMany a_there a_tried a_best a_found m_thereMany m_foundMany m_orderHow m_orderRing m_orderMany m_hasBest m_bestTop m_bestBy a_weights a_shared m_random m_truePlace m_trueWay m_seconds m_done m_feelings m_tries m_leftOver m_playDoor m_playRing m_isOpen m_isOver m_wasTried m_hasPlayed a_feltNow a_last a_kept m_hasSeconds m_hasTurned m_hasRound a_hasFeels a_isOn m_firstAct m_meanTop m_meanBy a_order m_rowMany m_newSteps g_trayMany t k hC_g_trayMany) lk_RX12_105 ⟨rfl, rfl⟩ ⟨Nat.le_of_ble_eq_true rfl, Nat.le_of_ble_eq_true rfl⟩ 12 rfl rfl rfl [0, 2] [1, 3] rfl rfl (by decide) rfl hl.1 rfl (lv_room (Nat.le_of_ble_eq_true rfl)) dX12_write_9 ⟨Nat.le_of_ble_eq_true rfl, Nat.le_of_ble_eq_true rfl⟩ (fun r_1 u_2 H locs hw hP hD hS => ?_)
  obtain ⟨hr_r_1, hf_3⟩ := hw
  refine va_put (D := G) (ci := 12) (v := .int r_1) (ty := .int) (C := RX12) (T := TX12) (N := 65) hx hb hts inT12 tyX12 tyX12_ok nmX12 hown hK hP hD hS 2 rfl rfl 0 (by decide) (hts _ tw_1885) (fun _ h9 => h9) rfl (tyX12_ok 0 (by decide)) rfl rfl (Nat.le_of_ble_eq_true rfl) dX12_write_12 (fun H locs hP hD hS => ?_)
  refine lv_aload_n hx hb dX12_write_15 rfl (lv_at hl 0 rfl) ?_
  refine va_get (D := G) (ci := 12) (v := .int r_1) (C := RX12) (T := TX12) (N := 65) hx hb hts inT12 hown hK hP 2 rfl rfl 0 (by decide) (hts _ tw_1885) (fun _ h9 => h9) rfl dX12_write_16 ?_
  refine lv_if_le (tgt := 24) hx hb dX12_write_19 (by decide) (fun c_4 => ?_) (fun c_4 => ?_)
  · have b_5 := z_fleT c_4
    have hn_k_6 : 0 ≤ t.toInt ∧ t.toInt ≤ 3 := by omega
    have hn_k_7 : 0 ≤ k.toInt ∧ k.toInt ≤ 59 := by omega
    refine lv_aload_n hx hb dX12_write_24 rfl (lv_at hl 0 rfl) ?_
    refine va_get (D := G) (ci := 12) (v := .ref a_numbers) (C := RX12) (T := TX12) (N := 65) hx hb hts inT12 hown hK hP 2 rfl rfl 6 (by decide) (hts _ tw_1891) (fun _ h9 => h9) rfl dX12_write_25 ?_
    refine lv_bipush (v := 60) hx hb dX12_write_28 (by decide) ?_
    refine lv_iload_n hx hb dX12_write_30 rfl (lv_at hl 1 rfl) ?_
    refine lv_imul hx hb dX12_write_31 ?_
    refine lv_topi (fun x_8 he_x_8 => ?_)
    have hq_x_8 := z_mulq he_x_8 hk_60 (rfl : t.toInt = _) (by omega) (by omega)
    refine lv_iload_n hx hb dX12_write_32 rfl (lv_at hl 2 rfl) ?_
    refine lv_iadd hx hb dX12_write_33 ?_
    refine lv_topi (fun x_9 he_x_9 => ?_)
    have hq_x_9 := z_addq he_x_9 (rfl : x_8.toInt = _) (rfl : k.toInt = _) (by omega) (by omega)
    refine lv_aload_n hx hb dX12_write_34 rfl (lv_at hl 0 rfl) ?_
    refine va_get (D := G) (ci := 12) (v := .ref a_traySort) (C := RX12) (T := TX12) (N := 65) hx hb hts inT12 hown hK hP 2 rfl rfl 4 (by decide) (hts _ tw_1889) (fun _ h9 => h9) rfl dX12_write_35 ?_
    refine lv_iload_n hx hb dX12_write_38 rfl (lv_at hl 1 rfl) ?_
    refine va_iald hx hb hK hP 0 0 rfl rfl (z_inN (by omega) (by omega)) dX12_write_39 ?_
    refine lv_topi (fun x_10 he_x_10 => ?_)
    refine lv_lload_n hx hb dX12_write_40 rfl (lv_at hl 3 rfl) ?_
    refine z_callSl (As := [.int x_10, .long v]) (rest := [.int x_9, .ref a_numbers]) (wr := [(a_traySort, .inl (cA.1 0, 4, .inl g_traySort)), (a_numbers, .inl (cA.1 1, 240, .inr (.inl g_numbers))), (h0, .inr (12, [.int r_1, .int 0, .long m_above, .long m_under, .ref a_traySort, .ref a_trayMany, .ref a_numbers, .ref a_tape, .int m_taped, .int m_textEnd, .int m_faultKind, .int m_faultAt, .int m_bad, .int m_badAt, .int m_token, .int m_at, .int m_behind, .int m_number, .int m_letters, .long m_word, .ref a_c, .ref a_words, .int m_markMany, .ref a_there, .ref a_tried, .ref a_best, .ref a_found, .int m_thereMany, .int m_foundMany, .int m_orderHow, .int m_orderRing, .int m_orderMany, .int m_hasBest, .long m_bestTop, .long m_bestBy, .ref a_weights, .ref a_shared, .int m_random, .int m_truePlace, .int m_trueWay, .int m_seconds, .int m_done, .int m_feelings, .int m_tries, .int m_leftOver, .int m_playDoor, .int m_playRing, .int m_isOpen, .int m_isOver, .int m_wasTried, .int m_hasPlayed, .ref a_feltNow, .ref a_last, .ref a_kept, .int m_hasSeconds, .int m_hasTurned, .int m_hasRound, .ref a_hasFeels, .ref a_isOn, .int m_firstAct, .long m_meanTop, .long m_meanBy, .ref a_order, .int m_rowMany, .int m_newSteps])), (a_trayMany, .inl (cA.1 0, 4, .inl g_trayMany))]) ⟨hx, hb, hml, hown, hts⟩ hK hE hT hP hD hS hA (r_cut l G cA x_10 v) lk_RX12_109 ⟨rfl, rfl⟩ ⟨Nat.le_of_ble_eq_true rfl, Nat.le_of_ble_eq_true rfl⟩ [] [0, 1, 2, 3] rfl rfl (by decide) rfl hl.1 rfl (lv_room (Nat.le_of_ble_eq_true rfl)) dX12_write_41 ⟨Nat.le_of_ble_eq_true rfl, Nat.le_of_ble_eq_true rfl⟩ (fun r_11 u_12 H locs hw hP hD hS => ?_)
    refine z_last hx hb hK hP hD hS 1 1 rfl rfl (z_inN (by omega) (by omega)) dX12_write_44 (fun g_13 hg_g_13 H locs hP hD hS => ?_)
    refine lv_iconst (v := 1) hx hb dX12_write_45 (by decide) ?_
    have hpost : ((1 : Int32) = 0 ∧ (1 ≤ r_1.toInt ∧ r_1.toInt ≤ 4) ∧ (0 ≤ (0 : Int32).toInt ∧ (0 : Int32).toInt ≤ 0)) ∨ ((1 : Int32) = 1 ∧ (0 ≤ r_1.toInt ∧ r_1.toInt ≤ 0) ∧ (0 ≤ (0 : Int32).toInt ∧ (0 : Int32).toInt ≤ 0)) := (Or.inr ⟨rfl, ⟨(by omega), (by decide +kernel)⟩⟩)
    exact hret _ _ _ _ _ _ (r_1, 0, g_13) [2, 0, 3, 1] hP hD hS rfl (by decide) dX12_write_46 (Or.inr rfl) hpost
  · have b_14 := z_fgtF c_4
    refine lv_iconst (v := 0) hx hb dX12_write_22 (by decide) ?_
    have hpost : ((0 : Int32) = 0 ∧ (1 ≤ r_1.toInt ∧ r_1.toInt ≤ 4) ∧ (0 ≤ (0 : Int32).toInt ∧ (0 : Int32).toInt ≤ 0)) ∨ ((0 : Int32) = 1 ∧ (0 ≤ r_1.toInt ∧ r_1.toInt ≤ 0) ∧ (0 ≤ (0 : Int32).toInt ∧ (0 : Int32).toInt ≤ 0)) := (Or.inl ⟨rfl, ⟨(by omega), (by decide +kernel)⟩⟩)
    exact hret _ _ _ _ _ _ (r_1, 0, g_numbers) [2, 0, 3, 1] hP hD hS rfl (by decide) dX12_write_23 (Or.inl rfl) hpost
set_option maxHeartbeats 4000000 in
set_option maxRecDepth 100000 in
theorem r_read (l : Launch) (G : va_G) (cA : zCA) (h0 : Nat) (m_status : Int32) (m_thrown : Int32) (m_above : Int64) (m_under : Int64) (a_traySort : Nat) (a_trayMany : Nat) (a_numbers : Nat) (a_tape : Nat) (m_taped : Int32) (m_textEnd : Int32) (m_faultKind : Int32) (m_faultAt : Int32) (m_bad : Int32) (m_badAt : Int32) (m_token : Int32) (m_at : Int32) (m_behind : Int32) (m_number : Int32) (m_letters : Int32) (m_word : Int64) (a_c : Nat) (a_words : Nat) (m_markMany : Int32) (a_there : Nat) (a_tried : Nat) (a_best : Nat) (a_found : Nat) (m_thereMany : Int32) (m_foundMany : Int32) (m_orderHow : Int32) (m_orderRing : Int32) (m_orderMany : Int32) (m_hasBest : Int32) (m_bestTop : Int64) (m_bestBy : Int64) (a_weights : Nat) (a_shared : Nat) (m_random : Int32) (m_truePlace : Int32) (m_trueWay : Int32) (m_seconds : Int32) (m_done : Int32) (m_feelings : Int32) (m_tries : Int32) (m_leftOver : Int32) (m_playDoor : Int32) (m_playRing : Int32) (m_isOpen : Int32) (m_isOver : Int32) (m_wasTried : Int32) (m_hasPlayed : Int32) (a_feltNow : Nat) (a_last : Nat) (a_kept : Nat) (m_hasSeconds : Int32) (m_hasTurned : Int32) (m_hasRound : Int32) (a_hasFeels : Nat) (a_isOn : Nat) (m_firstAct : Int32) (m_meanTop : Int64) (m_meanBy : Int64) (a_order : Nat) (m_rowMany : Int32) (m_newSteps : Int32) (g_trayMany : Nat → Int32) (g_numbers : Nat → Int64) (t : Int32) (k : Int32) (hC_g_trayMany : zRg 4 (-1) 60 g_trayMany) : zCl l yX12_read cX12_read 3 (some .long) ({ frames := 2, cells := 0, slots := 0, locals := 44 }) G cA [.ref h0, .int t, .int k] [(h0, .inr (12, [.int m_status, .int m_thrown, .long m_above, .long m_under, .ref a_traySort, .ref a_trayMany, .ref a_numbers, .ref a_tape, .int m_taped, .int m_textEnd, .int m_faultKind, .int m_faultAt, .int m_bad, .int m_badAt, .int m_token, .int m_at, .int m_behind, .int m_number, .int m_letters, .long m_word, .ref a_c, .ref a_words, .int m_markMany, .ref a_there, .ref a_tried, .ref a_best, .ref a_found, .int m_thereMany, .int m_foundMany, .int m_orderHow, .int m_orderRing, .int m_orderMany, .int m_hasBest, .long m_bestTop, .long m_bestBy, .ref a_weights, .ref a_shared, .int m_random, .int m_truePlace, .int m_trueWay, .int m_seconds, .int m_done, .int m_feelings, .int m_tries, .int m_leftOver, .int m_playDoor, .int m_playRing, .int m_isOpen, .int m_isOver, .int m_wasTried, .int m_hasPlayed, .ref a_feltNow, .ref a_last, .ref a_kept, .int m_hasSeconds, .int m_hasTurned, .int m_hasRound, .ref a_hasFeels, .ref a_isOn, .int m_firstAct, .long m_meanTop, .long m_meanBy, .ref a_order, .int m_rowMany, .int m_newSteps])), (a_trayMany, .inl (cA.1 0, 4, .inl g_trayMany)), (a_numbers, .inl (cA.1 1, 240, .inr (.inl g_numbers)))] (S := Int32 × Int32) (fun (r : Int64) (u : Int32 × Int32) => (0 ≤ u.1.toInt ∧ u.1.toInt ≤ 4) ∧ (0 ≤ u.2.toInt ∧ u.2.toInt ≤ 0)) (fun (u : Int32 × Int32) => [(h0, .inr (12, [.int u.1, .int u.2, .long m_above, .long m_under, .ref a_traySort, .ref a_trayMany, .ref a_numbers, .ref a_tape, .int m_taped, .int m_textEnd, .int m_faultKind, .int m_faultAt, .int m_bad, .int m_badAt, .int m_token, .int m_at, .int m_behind, .int m_number, .int m_letters, .long m_word, .ref a_c, .ref a_words, .int m_markMany, .ref a_there, .ref a_tried, .ref a_best, .ref a_found, .int m_thereMany, .int m_foundMany, .int m_orderHow, .int m_orderRing, .int m_orderMany, .int m_hasBest, .long m_bestTop, .long m_bestBy, .ref a_weights, .ref a_shared, .int m_random, .int m_truePlace, .int m_trueWay, .int m_seconds, .int m_done, .int m_feelings, .int m_tries, .int m_leftOver, .int m_playDoor, .int m_playRing, .int m_isOpen, .int m_isOver, .int m_wasTried, .int m_hasPlayed, .ref a_feltNow, .ref a_last, .ref a_kept, .int m_hasSeconds, .int m_hasTurned, .int m_hasRound, .ref a_hasFeels, .ref a_isOn, .int m_firstAct, .long m_meanTop, .long m_meanBy, .ref a_order, .int m_rowMany, .int m_newSteps])), (a_trayMany, .inl (cA.1 0, 4, .inl g_trayMany)), (a_numbers, .inl (cA.1 1, 240, .inr (.inl g_numbers)))]) 0 0 := by
  have hk_0 : (0 : Int32).toInt = 0 := by decide +kernel
  have hk_60 : (60 : Int32).toInt = 60 := by decide +kernel
  refine z_start2l (own := RX12) (by decide) (Nat.le_of_ble_eq_true rfl) rfl ?_
  intro p e s m args below meth c A ls Q hx hb hml hts hown hK hE hT hP hD hS hA hl hret
  have hl : lv_has ls 3 [(0, .ref h0), (1, .int t), (2, .int k)] := hl
  refine lv_aload_n hx hb dX12_read_0 rfl (lv_at hl 0 rfl) ?_
  refine lv_iconst (v := 0) hx hb dX12_read_1 (by decide) ?_
  refine va_put (D := G) (ci := 12) (v := .int 0) (ty := .int) (C := RX12) (T := TX12) (N := 65) hx hb hts inT12 tyX12 tyX12_ok nmX12 hown hK hP hD hS 0 rfl rfl 1 (by decide) (hts _ tw_1886) (fun _ h9 => h9) rfl (tyX12_ok 1 (by decide)) rfl rfl (Nat.le_of_ble_eq_true rfl) dX12_read_2 (fun H locs hP hD hS => ?_)
  refine lv_aload_n hx hb dX12_read_5 rfl (lv_at hl 0 rfl) ?_
  refine lv_aload_n hx hb dX12_read_6 rfl (lv_at hl 0 rfl) ?_
  refine lv_iload_n hx hb dX12_read_7 rfl (lv_at hl 1 rfl) ?_
  refine lv_iload_n hx hb dX12_read_8 rfl (lv_at hl 2 rfl) ?_
  refine z_callVi (As := [.int t, .int k]) (rest := [.ref h0]) (wr := [(a_numbers, .inl (cA.1 1, 240, .inr (.inl g_numbers)))]) ⟨hx, hb, hml, hown, hts⟩ hK hE hT hP hD hS hA (r_placed l G cA h0 m_status 0 m_above m_under a_traySort a_trayMany a_numbers a_tape m_taped m_textEnd m_faultKind m_faultAt m_bad m_badAt m_token m_at m_behind m_number m_letters m_word a_c a_words m_markMany a_there a_tried a_best a_found m_thereMany m_foundMany m_orderHow m_orderRing m_orderMany m_hasBest m_bestTop m_bestBy a_weights a_shared m_random m_truePlace m_trueWay m_seconds m_done m_feelings m_tries m_leftOver m_playDoor m_playRing m_isOpen m_isOver m_wasTried m_hasPlayed a_feltNow a_last a_kept m_hasSeconds m_hasTurned m_hasRound a_hasFeels a_isOn m_firstAct m_meanTop m_meanBy a_order m_rowMany m_newSteps g_trayMany t k hC_g_trayMany) lk_RX12_105 ⟨rfl, rfl⟩ ⟨Nat.le_of_ble_eq_true rfl, Nat.le_of_ble_eq_true rfl⟩ 12 rfl rfl rfl [0, 1] [2] rfl rfl (by decide) rfl hl.1 rfl (lv_room (Nat.le_of_ble_eq_true rfl)) dX12_read_9 ⟨Nat.le_of_ble_eq_true rfl, Nat.le_of_ble_eq_true rfl⟩ (fun r_1 u_2 H locs hw hP hD hS => ?_)
  obtain ⟨hr_r_1, hf_3⟩ := hw
  refine va_put (D := G) (ci := 12) (v := .int r_1) (ty := .int) (C := RX12) (T := TX12) (N := 65) hx hb hts inT12 tyX12 tyX12_ok nmX12 hown hK hP hD hS 1 rfl rfl 0 (by decide) (hts _ tw_1885) (fun _ h9 => h9) rfl (tyX12_ok 0 (by decide)) rfl rfl (Nat.le_of_ble_eq_true rfl) dX12_read_12 (fun H locs hP hD hS => ?_)
  refine lv_aload_n hx hb dX12_read_15 rfl (lv_at hl 0 rfl) ?_
  refine va_get (D := G) (ci := 12) (v := .int r_1) (C := RX12) (T := TX12) (N := 65) hx hb hts inT12 hown hK hP 1 rfl rfl 0 (by decide) (hts _ tw_1885) (fun _ h9 => h9) rfl dX12_read_16 ?_
  refine lv_if_le (tgt := 28) hx hb dX12_read_19 (by decide) (fun c_4 => ?_) (fun c_4 => ?_)
  · have b_5 := z_fleT c_4
    have hn_k_6 : 0 ≤ t.toInt ∧ t.toInt ≤ 3 := by omega
    have hn_k_7 : 0 ≤ k.toInt ∧ k.toInt ≤ 59 := by omega
    refine lv_aload_n hx hb dX12_read_28 rfl (lv_at hl 0 rfl) ?_
    refine va_get (D := G) (ci := 12) (v := .ref a_numbers) (C := RX12) (T := TX12) (N := 65) hx hb hts inT12 hown hK hP 1 rfl rfl 6 (by decide) (hts _ tw_1891) (fun _ h9 => h9) rfl dX12_read_29 ?_
    refine lv_bipush (v := 60) hx hb dX12_read_32 (by decide) ?_
    refine lv_iload_n hx hb dX12_read_34 rfl (lv_at hl 1 rfl) ?_
    refine lv_imul hx hb dX12_read_35 ?_
    refine lv_topi (fun x_8 he_x_8 => ?_)
    have hq_x_8 := z_mulq he_x_8 hk_60 (rfl : t.toInt = _) (by omega) (by omega)
    refine lv_iload_n hx hb dX12_read_36 rfl (lv_at hl 2 rfl) ?_
    refine lv_iadd hx hb dX12_read_37 ?_
    refine lv_topi (fun x_9 he_x_9 => ?_)
    have hq_x_9 := z_addq he_x_9 (rfl : x_8.toInt = _) (rfl : k.toInt = _) (by omega) (by omega)
    refine va_lald hx hb hK hP 0 1 rfl rfl (z_inN (by omega) (by omega)) dX12_read_38 ?_
    refine lv_topl (fun x_10 he_x_10 => ?_)
    have hpost : (0 ≤ r_1.toInt ∧ r_1.toInt ≤ 4) ∧ (0 ≤ (0 : Int32).toInt ∧ (0 : Int32).toInt ≤ 0) := ⟨hr_r_1, (by decide +kernel)⟩
    exact hret _ _ _ _ _ _ (r_1, 0) [1, 2, 0] hP hD hS rfl (by decide) dX12_read_39 hpost
  · have b_11 := z_fgtF c_4
    refine lv_ldc2 (v := (-1)) hx hb hown (hts _ tw_2118) dX12_read_22 ?_
    refine lv_goto (tgt := 39) hx hb dX12_read_25 (by decide) ?_
    have hpost : (0 ≤ r_1.toInt ∧ r_1.toInt ≤ 4) ∧ (0 ≤ (0 : Int32).toInt ∧ (0 : Int32).toInt ≤ 0) := ⟨hr_r_1, (by decide +kernel)⟩
    exact hret _ _ _ _ _ _ (r_1, 0) [1, 2, 0] hP hD hS rfl (by decide) dX12_read_39 hpost
set_option maxHeartbeats 4000000 in
set_option maxRecDepth 100000 in
theorem r_pour (l : Launch) (G : va_G) (cA : zCA) (h0 : Nat) (m_status : Int32) (m_thrown : Int32) (m_above : Int64) (m_under : Int64) (a_traySort : Nat) (a_trayMany : Nat) (a_numbers : Nat) (a_tape : Nat) (m_taped : Int32) (m_textEnd : Int32) (m_faultKind : Int32) (m_faultAt : Int32) (m_bad : Int32) (m_badAt : Int32) (m_token : Int32) (m_at : Int32) (m_behind : Int32) (m_number : Int32) (m_letters : Int32) (m_word : Int64) (a_c : Nat) (a_words : Nat) (m_markMany : Int32) (a_there : Nat) (a_tried : Nat) (a_best : Nat) (a_found : Nat) (m_thereMany : Int32) (m_foundMany : Int32) (m_orderHow : Int32) (m_orderRing : Int32) (m_orderMany : Int32) (m_hasBest : Int32) (m_bestTop : Int64) (m_bestBy : Int64) (a_weights : Nat) (a_shared : Nat) (m_random : Int32) (m_truePlace : Int32) (m_trueWay : Int32) (m_seconds : Int32) (m_done : Int32) (m_feelings : Int32) (m_tries : Int32) (m_leftOver : Int32) (m_playDoor : Int32) (m_playRing : Int32) (m_isOpen : Int32) (m_isOver : Int32) (m_wasTried : Int32) (m_hasPlayed : Int32) (a_feltNow : Nat) (a_last : Nat) (a_kept : Nat) (m_hasSeconds : Int32) (m_hasTurned : Int32) (m_hasRound : Int32) (a_hasFeels : Nat) (a_isOn : Nat) (m_firstAct : Int32) (m_meanTop : Int64) (m_meanBy : Int64) (a_order : Nat) (m_rowMany : Int32) (m_newSteps : Int32) (g_traySort : Nat → Int32) (g_trayMany : Nat → Int32) (g_numbers : Nat → Int64) (t : Int32) (i : Int32) (to : Int32) (j : Int32) (nn : Int32) (hC_g_trayMany : zRg 4 (-1) 60 g_trayMany) : zCi l yX12_pour cX12_pour 9 (some .boolean) ({ frames := 1, cells := 0, slots := 0, locals := 21 }) G cA [.ref h0, .int t, .int i, .int to, .int j, .int nn] [(h0, .inr (12, [.int m_status, .int m_thrown, .long m_above, .long m_under, .ref a_traySort, .ref a_trayMany, .ref a_numbers, .ref a_tape, .int m_taped, .int m_textEnd, .int m_faultKind, .int m_faultAt, .int m_bad, .int m_badAt, .int m_token, .int m_at, .int m_behind, .int m_number, .int m_letters, .long m_word, .ref a_c, .ref a_words, .int m_markMany, .ref a_there, .ref a_tried, .ref a_best, .ref a_found, .int m_thereMany, .int m_foundMany, .int m_orderHow, .int m_orderRing, .int m_orderMany, .int m_hasBest, .long m_bestTop, .long m_bestBy, .ref a_weights, .ref a_shared, .int m_random, .int m_truePlace, .int m_trueWay, .int m_seconds, .int m_done, .int m_feelings, .int m_tries, .int m_leftOver, .int m_playDoor, .int m_playRing, .int m_isOpen, .int m_isOver, .int m_wasTried, .int m_hasPlayed, .ref a_feltNow, .ref a_last, .ref a_kept, .int m_hasSeconds, .int m_hasTurned, .int m_hasRound, .ref a_hasFeels, .ref a_isOn, .int m_firstAct, .long m_meanTop, .long m_meanBy, .ref a_order, .int m_rowMany, .int m_newSteps])), (a_traySort, .inl (cA.1 0, 4, .inl g_traySort)), (a_trayMany, .inl (cA.1 0, 4, .inl g_trayMany)), (a_numbers, .inl (cA.1 1, 240, .inr (.inl g_numbers)))] (S := Int32 × Int32 × (Nat → Int64)) (fun (r : Int32) (u : Int32 × Int32 × (Nat → Int64)) => (r = 0 ∧ (0 ≤ u.2.1.toInt ∧ u.2.1.toInt ≤ 0)) ∨ (r = 1 ∧ (0 ≤ u.1.toInt ∧ u.1.toInt ≤ 0) ∧ (0 ≤ u.2.1.toInt ∧ u.2.1.toInt ≤ 0))) (fun (u : Int32 × Int32 × (Nat → Int64)) => [(h0, .inr (12, [.int u.1, .int u.2.1, .long m_above, .long m_under, .ref a_traySort, .ref a_trayMany, .ref a_numbers, .ref a_tape, .int m_taped, .int m_textEnd, .int m_faultKind, .int m_faultAt, .int m_bad, .int m_badAt, .int m_token, .int m_at, .int m_behind, .int m_number, .int m_letters, .long m_word, .ref a_c, .ref a_words, .int m_markMany, .ref a_there, .ref a_tried, .ref a_best, .ref a_found, .int m_thereMany, .int m_foundMany, .int m_orderHow, .int m_orderRing, .int m_orderMany, .int m_hasBest, .long m_bestTop, .long m_bestBy, .ref a_weights, .ref a_shared, .int m_random, .int m_truePlace, .int m_trueWay, .int m_seconds, .int m_done, .int m_feelings, .int m_tries, .int m_leftOver, .int m_playDoor, .int m_playRing, .int m_isOpen, .int m_isOver, .int m_wasTried, .int m_hasPlayed, .ref a_feltNow, .ref a_last, .ref a_kept, .int m_hasSeconds, .int m_hasTurned, .int m_hasRound, .ref a_hasFeels, .ref a_isOn, .int m_firstAct, .long m_meanTop, .long m_meanBy, .ref a_order, .int m_rowMany, .int m_newSteps])), (a_traySort, .inl (cA.1 0, 4, .inl g_traySort)), (a_trayMany, .inl (cA.1 0, 4, .inl g_trayMany)), (a_numbers, .inl (cA.1 1, 240, .inr (.inl u.2.2)))]) 0 0 := by
  have hk_0 : (0 : Int32).toInt = 0 := by decide +kernel
  have hk_1 : (1 : Int32).toInt = 1 := by decide +kernel
  have hk_3 : (3 : Int32).toInt = 3 := by decide +kernel
  have hk_4 : (4 : Int32).toInt = 4 := by decide +kernel
  have hk_6 : (6 : Int32).toInt = 6 := by decide +kernel
  have hk_11 : (11 : Int32).toInt = 11 := by decide +kernel
  have hk_60 : (60 : Int32).toInt = 60 := by decide +kernel
  refine z_start2z (own := RX12) (by decide) (Nat.le_of_ble_eq_true rfl) rfl ?_
  intro p e s m args below meth c A ls Q hx hb hml hts hown hK hE hT hP hD hS hA hl hret
  have hl : lv_has ls 9 [(0, .ref h0), (1, .int t), (2, .int i), (3, .int to), (4, .int j), (5, .int nn)] := hl
  refine lv_aload_n hx hb dX12_pour_0 rfl (lv_at hl 0 rfl) ?_
  refine lv_iconst (v := 0) hx hb dX12_pour_1 (by decide) ?_
  refine va_put (D := G) (ci := 12) (v := .int 0) (ty := .int) (C := RX12) (T := TX12) (N := 65) hx hb hts inT12 tyX12 tyX12_ok nmX12 hown hK hP hD hS 0 rfl rfl 1 (by decide) (hts _ tw_1886) (fun _ h9 => h9) rfl (tyX12_ok 1 (by decide)) rfl rfl (Nat.le_of_ble_eq_true rfl) dX12_pour_2 (fun H locs hP hD hS => ?_)
  refine lv_aload_n hx hb dX12_pour_5 rfl (lv_at hl 0 rfl) ?_
  refine lv_iconst (v := 0) hx hb dX12_pour_6 (by decide) ?_
  refine va_put (D := G) (ci := 12) (v := .int 0) (ty := .int) (C := RX12) (T := TX12) (N := 65) hx hb hts inT12 tyX12 tyX12_ok nmX12 hown hK hP hD hS 0 rfl rfl 0 (by decide) (hts _ tw_1885) (fun _ h9 => h9) rfl (tyX12_ok 0 (by decide)) rfl rfl (Nat.le_of_ble_eq_true rfl) dX12_pour_7 (fun H locs hP hD hS => ?_)
  refine lv_iload_n hx hb dX12_pour_10 rfl (lv_at hl 1 rfl) ?_
  refine lv_if_lt (tgt := 28) hx hb dX12_pour_11 (by decide) (fun c_1 => ?_) (fun c_1 => ?_)
  · have b_2 := z_fltT c_1
    refine lv_aload_n hx hb dX12_pour_28 rfl (lv_at hl 0 rfl) ?_
    refine lv_iconst (v := 1) hx hb dX12_pour_29 (by decide) ?_
    refine z_callVi (As := [.int 1]) (rest := []) (wr := [(a_traySort, .inl (cA.1 0, 4, .inl g_traySort)), (a_trayMany, .inl (cA.1 0, 4, .inl g_trayMany)), (a_numbers, .inl (cA.1 1, 240, .inr (.inl g_numbers)))]) ⟨hx, hb, hml, hown, hts⟩ hK hE hT hP hD hS hA (r_no l G cA h0 0 0 m_above m_under a_traySort a_trayMany a_numbers a_tape m_taped m_textEnd m_faultKind m_faultAt m_bad m_badAt m_token m_at m_behind m_number m_letters m_word a_c a_words m_markMany a_there a_tried a_best a_found m_thereMany m_foundMany m_orderHow m_orderRing m_orderMany m_hasBest m_bestTop m_bestBy a_weights a_shared m_random m_truePlace m_trueWay m_seconds m_done m_feelings m_tries m_leftOver m_playDoor m_playRing m_isOpen m_isOver m_wasTried m_hasPlayed a_feltNow a_last a_kept m_hasSeconds m_hasTurned m_hasRound a_hasFeels a_isOn m_firstAct m_meanTop m_meanBy a_order m_rowMany m_newSteps 1) lk_RX12_97 ⟨rfl, rfl⟩ ⟨Nat.le_of_ble_eq_true rfl, Nat.le_of_ble_eq_true rfl⟩ 12 rfl rfl rfl [0] [1, 2, 3] rfl rfl (by decide) rfl hl.1 rfl (lv_room (Nat.le_of_ble_eq_true rfl)) dX12_pour_30 ⟨Nat.le_of_ble_eq_true rfl, Nat.le_of_ble_eq_true rfl⟩ (fun r_4 u_5 H locs hw hP hD hS => ?_)
    obtain ⟨n_3, rfl⟩ : ∃ z, z = u_5 := ⟨_, rfl⟩
    obtain ⟨he_r_4, he_n_3, hw⟩ := hw
    obtain ⟨rfl, -⟩ := hw
    have hpost : ((0 : Int32) = 0 ∧ (0 ≤ (0 : Int32).toInt ∧ (0 : Int32).toInt ≤ 0)) ∨ ((0 : Int32) = 1 ∧ (0 ≤ n_3.toInt ∧ n_3.toInt ≤ 0) ∧ (0 ≤ (0 : Int32).toInt ∧ (0 : Int32).toInt ≤ 0)) := (Or.inl ⟨rfl, (by decide +kernel)⟩)
    exact hret _ _ _ _ _ _ (n_3, 0, g_numbers) [3, 0, 1, 2] hP hD hS rfl (by decide) dX12_pour_33 (Or.inl rfl) hpost
  · have b_6 := z_fgeF c_1
    refine lv_iload_n hx hb dX12_pour_14 rfl (lv_at hl 1 rfl) ?_
    refine lv_iconst (v := 4) hx hb dX12_pour_15 (by decide) ?_
    refine lv_icmp_ge (tgt := 28) hx hb dX12_pour_16 (by decide) (fun c_7 => ?_) (fun c_7 => ?_)
    · have b_8 := z_fgeT c_7
      refine lv_aload_n hx hb dX12_pour_28 rfl (lv_at hl 0 rfl) ?_
      refine lv_iconst (v := 1) hx hb dX12_pour_29 (by decide) ?_
      refine z_callVi (As := [.int 1]) (rest := []) (wr := [(a_traySort, .inl (cA.1 0, 4, .inl g_traySort)), (a_trayMany, .inl (cA.1 0, 4, .inl g_trayMany)), (a_numbers, .inl (cA.1 1, 240, .inr (.inl g_numbers)))]) ⟨hx, hb, hml, hown, hts⟩ hK hE hT hP hD hS hA (r_no l G cA h0 0 0 m_above m_under a_traySort a_trayMany a_numbers a_tape m_taped m_textEnd m_faultKind m_faultAt m_bad m_badAt m_token m_at m_behind m_number m_letters m_word a_c a_words m_markMany a_there a_tried a_best a_found m_thereMany m_foundMany m_orderHow m_orderRing m_orderMany m_hasBest m_bestTop m_bestBy a_weights a_shared m_random m_truePlace m_trueWay m_seconds m_done m_feelings m_tries m_leftOver m_playDoor m_playRing m_isOpen m_isOver m_wasTried m_hasPlayed a_feltNow a_last a_kept m_hasSeconds m_hasTurned m_hasRound a_hasFeels a_isOn m_firstAct m_meanTop m_meanBy a_order m_rowMany m_newSteps 1) lk_RX12_97 ⟨rfl, rfl⟩ ⟨Nat.le_of_ble_eq_true rfl, Nat.le_of_ble_eq_true rfl⟩ 12 rfl rfl rfl [0] [1, 2, 3] rfl rfl (by decide) rfl hl.1 rfl (lv_room (Nat.le_of_ble_eq_true rfl)) dX12_pour_30 ⟨Nat.le_of_ble_eq_true rfl, Nat.le_of_ble_eq_true rfl⟩ (fun r_10 u_11 H locs hw hP hD hS => ?_)
      obtain ⟨n_9, rfl⟩ : ∃ z, z = u_11 := ⟨_, rfl⟩
      obtain ⟨he_r_10, he_n_9, hw⟩ := hw
      obtain ⟨rfl, -⟩ := hw
      have hpost : ((0 : Int32) = 0 ∧ (0 ≤ (0 : Int32).toInt ∧ (0 : Int32).toInt ≤ 0)) ∨ ((0 : Int32) = 1 ∧ (0 ≤ n_9.toInt ∧ n_9.toInt ≤ 0) ∧ (0 ≤ (0 : Int32).toInt ∧ (0 : Int32).toInt ≤ 0)) := (Or.inl ⟨rfl, (by decide +kernel)⟩)
      exact hret _ _ _ _ _ _ (n_9, 0, g_numbers) [3, 0, 1, 2] hP hD hS rfl (by decide) dX12_pour_33 (Or.inl rfl) hpost
    · have b_12 := z_fltF c_7
      refine lv_iload_n hx hb dX12_pour_19 rfl (lv_at hl 3 rfl) ?_
      refine lv_if_lt (tgt := 28) hx hb dX12_pour_20 (by decide) (fun c_13 => ?_) (fun c_13 => ?_)
      · have b_14 := z_fltT c_13
        refine lv_aload_n hx hb dX12_pour_28 rfl (lv_at hl 0 rfl) ?_
        refine lv_iconst (v := 1) hx hb dX12_pour_29 (by decide) ?_
        refine z_callVi (As := [.int 1]) (rest := []) (wr := [(a_traySort, .inl (cA.1 0, 4, .inl g_traySort)), (a_trayMany, .inl (cA.1 0, 4, .inl g_trayMany)), (a_numbers, .inl (cA.1 1, 240, .inr (.inl g_numbers)))]) ⟨hx, hb, hml, hown, hts⟩ hK hE hT hP hD hS hA (r_no l G cA h0 0 0 m_above m_under a_traySort a_trayMany a_numbers a_tape m_taped m_textEnd m_faultKind m_faultAt m_bad m_badAt m_token m_at m_behind m_number m_letters m_word a_c a_words m_markMany a_there a_tried a_best a_found m_thereMany m_foundMany m_orderHow m_orderRing m_orderMany m_hasBest m_bestTop m_bestBy a_weights a_shared m_random m_truePlace m_trueWay m_seconds m_done m_feelings m_tries m_leftOver m_playDoor m_playRing m_isOpen m_isOver m_wasTried m_hasPlayed a_feltNow a_last a_kept m_hasSeconds m_hasTurned m_hasRound a_hasFeels a_isOn m_firstAct m_meanTop m_meanBy a_order m_rowMany m_newSteps 1) lk_RX12_97 ⟨rfl, rfl⟩ ⟨Nat.le_of_ble_eq_true rfl, Nat.le_of_ble_eq_true rfl⟩ 12 rfl rfl rfl [0] [1, 2, 3] rfl rfl (by decide) rfl hl.1 rfl (lv_room (Nat.le_of_ble_eq_true rfl)) dX12_pour_30 ⟨Nat.le_of_ble_eq_true rfl, Nat.le_of_ble_eq_true rfl⟩ (fun r_16 u_17 H locs hw hP hD hS => ?_)
        obtain ⟨n_15, rfl⟩ : ∃ z, z = u_17 := ⟨_, rfl⟩
        obtain ⟨he_r_16, he_n_15, hw⟩ := hw
        obtain ⟨rfl, -⟩ := hw
        have hpost : ((0 : Int32) = 0 ∧ (0 ≤ (0 : Int32).toInt ∧ (0 : Int32).toInt ≤ 0)) ∨ ((0 : Int32) = 1 ∧ (0 ≤ n_15.toInt ∧ n_15.toInt ≤ 0) ∧ (0 ≤ (0 : Int32).toInt ∧ (0 : Int32).toInt ≤ 0)) := (Or.inl ⟨rfl, (by decide +kernel)⟩)
        exact hret _ _ _ _ _ _ (n_15, 0, g_numbers) [3, 0, 1, 2] hP hD hS rfl (by decide) dX12_pour_33 (Or.inl rfl) hpost
      · have b_18 := z_fgeF c_13
        refine lv_iload_n hx hb dX12_pour_23 rfl (lv_at hl 3 rfl) ?_
        refine lv_iconst (v := 4) hx hb dX12_pour_24 (by decide) ?_
        refine lv_icmp_lt (tgt := 34) hx hb dX12_pour_25 (by decide) (fun c_19 => ?_) (fun c_19 => ?_)
        · have b_20 := z_fltT c_19
          refine lv_aload_n hx hb dX12_pour_34 rfl (lv_at hl 0 rfl) ?_
          refine va_get (D := G) (ci := 12) (v := .ref a_trayMany) (C := RX12) (T := TX12) (N := 65) hx hb hts inT12 hown hK hP 0 rfl rfl 5 (by decide) (hts _ tw_1890) (fun _ h9 => h9) rfl dX12_pour_35 ?_
          refine lv_iload_n hx hb dX12_pour_38 rfl (lv_at hl 1 rfl) ?_
          refine va_iald hx hb hK hP 2 0 rfl rfl (z_inN (by omega) (by omega)) dX12_pour_39 ?_
          refine lv_topi (fun x_21 he_x_21 => ?_)
          have hr_x_21 := z_rg hC_g_trayMany he_x_21 (by omega) (by omega)
          refine lv_if_lt (tgt := 52) hx hb dX12_pour_40 (by decide) (fun c_22 => ?_) (fun c_22 => ?_)
          · have b_23 := z_fltT c_22
            refine lv_aload_n hx hb dX12_pour_52 rfl (lv_at hl 0 rfl) ?_
            refine lv_iconst (v := 3) hx hb dX12_pour_53 (by decide) ?_
            refine z_callVi (As := [.int 3]) (rest := []) (wr := [(a_traySort, .inl (cA.1 0, 4, .inl g_traySort)), (a_trayMany, .inl (cA.1 0, 4, .inl g_trayMany)), (a_numbers, .inl (cA.1 1, 240, .inr (.inl g_numbers)))]) ⟨hx, hb, hml, hown, hts⟩ hK hE hT hP hD hS hA (r_no l G cA h0 0 0 m_above m_under a_traySort a_trayMany a_numbers a_tape m_taped m_textEnd m_faultKind m_faultAt m_bad m_badAt m_token m_at m_behind m_number m_letters m_word a_c a_words m_markMany a_there a_tried a_best a_found m_thereMany m_foundMany m_orderHow m_orderRing m_orderMany m_hasBest m_bestTop m_bestBy a_weights a_shared m_random m_truePlace m_trueWay m_seconds m_done m_feelings m_tries m_leftOver m_playDoor m_playRing m_isOpen m_isOver m_wasTried m_hasPlayed a_feltNow a_last a_kept m_hasSeconds m_hasTurned m_hasRound a_hasFeels a_isOn m_firstAct m_meanTop m_meanBy a_order m_rowMany m_newSteps 3) lk_RX12_97 ⟨rfl, rfl⟩ ⟨Nat.le_of_ble_eq_true rfl, Nat.le_of_ble_eq_true rfl⟩ 12 rfl rfl rfl [0] [1, 2, 3] rfl rfl (by decide) rfl hl.1 rfl (lv_room (Nat.le_of_ble_eq_true rfl)) dX12_pour_54 ⟨Nat.le_of_ble_eq_true rfl, Nat.le_of_ble_eq_true rfl⟩ (fun r_25 u_26 H locs hw hP hD hS => ?_)
            obtain ⟨n_24, rfl⟩ : ∃ z, z = u_26 := ⟨_, rfl⟩
            obtain ⟨he_r_25, he_n_24, hw⟩ := hw
            obtain ⟨rfl, -⟩ := hw
            have hpost : ((0 : Int32) = 0 ∧ (0 ≤ (0 : Int32).toInt ∧ (0 : Int32).toInt ≤ 0)) ∨ ((0 : Int32) = 1 ∧ (0 ≤ n_24.toInt ∧ n_24.toInt ≤ 0) ∧ (0 ≤ (0 : Int32).toInt ∧ (0 : Int32).toInt ≤ 0)) := (Or.inl ⟨rfl, (by decide +kernel)⟩)
            exact hret _ _ _ _ _ _ (n_24, 0, g_numbers) [3, 0, 1, 2] hP hD hS rfl (by decide) dX12_pour_57 (Or.inl rfl) hpost
          · have b_27 := z_fgeF c_22
            refine lv_aload_n hx hb dX12_pour_43 rfl (lv_at hl 0 rfl) ?_
            refine va_get (D := G) (ci := 12) (v := .ref a_trayMany) (C := RX12) (T := TX12) (N := 65) hx hb hts inT12 hown hK hP 0 rfl rfl 5 (by decide) (hts _ tw_1890) (fun _ h9 => h9) rfl dX12_pour_44 ?_
            refine lv_iload_n hx hb dX12_pour_47 rfl (lv_at hl 3 rfl) ?_
            refine va_iald hx hb hK hP 2 0 rfl rfl (z_inN (by omega) (by omega)) dX12_pour_48 ?_
            refine lv_topi (fun x_28 he_x_28 => ?_)
            have hr_x_28 := z_rg hC_g_trayMany he_x_28 (by omega) (by omega)
            refine lv_if_ge (tgt := 58) hx hb dX12_pour_49 (by decide) (fun c_29 => ?_) (fun c_29 => ?_)
            · have b_30 := z_fgeT c_29
              refine lv_aload_n hx hb dX12_pour_58 rfl (lv_at hl 0 rfl) ?_
              refine va_get (D := G) (ci := 12) (v := .ref a_traySort) (C := RX12) (T := TX12) (N := 65) hx hb hts inT12 hown hK hP 0 rfl rfl 4 (by decide) (hts _ tw_1889) (fun _ h9 => h9) rfl dX12_pour_59 ?_
              refine lv_iload_n hx hb dX12_pour_62 rfl (lv_at hl 1 rfl) ?_
              refine va_iald hx hb hK hP 1 0 rfl rfl (z_inN (by omega) (by omega)) dX12_pour_63 ?_
              refine lv_topi (fun x_31 he_x_31 => ?_)
              refine lv_aload_n hx hb dX12_pour_64 rfl (lv_at hl 0 rfl) ?_
              refine va_get (D := G) (ci := 12) (v := .ref a_traySort) (C := RX12) (T := TX12) (N := 65) hx hb hts inT12 hown hK hP 0 rfl rfl 4 (by decide) (hts _ tw_1889) (fun _ h9 => h9) rfl dX12_pour_65 ?_
              refine lv_iload_n hx hb dX12_pour_68 rfl (lv_at hl 3 rfl) ?_
              refine va_iald hx hb hK hP 1 0 rfl rfl (z_inN (by omega) (by omega)) dX12_pour_69 ?_
              refine lv_topi (fun x_32 he_x_32 => ?_)
              refine lv_icmp_eq (tgt := 80) hx hb dX12_pour_70 (by decide) (fun c_33 => ?_) (fun c_33 => ?_)
              · have b_34 := z_feqT c_33
                refine lv_iload hx hb dX12_pour_80 (lv_at hl 5 rfl) ?_
                refine lv_if_ge (tgt := 92) hx hb dX12_pour_82 (by decide) (fun c_35 => ?_) (fun c_35 => ?_)
                · have b_36 := z_fgeT c_35
                  refine lv_iload_n hx hb dX12_pour_92 rfl (lv_at hl 2 rfl) ?_
                  refine lv_if_lt (tgt := 136) hx hb dX12_pour_93 (by decide) (fun c_37 => ?_) (fun c_37 => ?_)
                  · have b_38 := z_fltT c_37
                    refine lv_aload_n hx hb dX12_pour_136 rfl (lv_at hl 0 rfl) ?_
                    refine lv_iconst (v := 4) hx hb dX12_pour_137 (by decide) ?_
                    refine z_callVi (As := [.int 4]) (rest := []) (wr := [(a_traySort, .inl (cA.1 0, 4, .inl g_traySort)), (a_trayMany, .inl (cA.1 0, 4, .inl g_trayMany)), (a_numbers, .inl (cA.1 1, 240, .inr (.inl g_numbers)))]) ⟨hx, hb, hml, hown, hts⟩ hK hE hT hP hD hS hA (r_no l G cA h0 0 0 m_above m_under a_traySort a_trayMany a_numbers a_tape m_taped m_textEnd m_faultKind m_faultAt m_bad m_badAt m_token m_at m_behind m_number m_letters m_word a_c a_words m_markMany a_there a_tried a_best a_found m_thereMany m_foundMany m_orderHow m_orderRing m_orderMany m_hasBest m_bestTop m_bestBy a_weights a_shared m_random m_truePlace m_trueWay m_seconds m_done m_feelings m_tries m_leftOver m_playDoor m_playRing m_isOpen m_isOver m_wasTried m_hasPlayed a_feltNow a_last a_kept m_hasSeconds m_hasTurned m_hasRound a_hasFeels a_isOn m_firstAct m_meanTop m_meanBy a_order m_rowMany m_newSteps 4) lk_RX12_97 ⟨rfl, rfl⟩ ⟨Nat.le_of_ble_eq_true rfl, Nat.le_of_ble_eq_true rfl⟩ 12 rfl rfl rfl [0] [1, 2, 3] rfl rfl (by decide) rfl hl.1 rfl (lv_room (Nat.le_of_ble_eq_true rfl)) dX12_pour_138 ⟨Nat.le_of_ble_eq_true rfl, Nat.le_of_ble_eq_true rfl⟩ (fun r_40 u_41 H locs hw hP hD hS => ?_)
                    obtain ⟨n_39, rfl⟩ : ∃ z, z = u_41 := ⟨_, rfl⟩
                    obtain ⟨he_r_40, he_n_39, hw⟩ := hw
                    obtain ⟨rfl, -⟩ := hw
                    have hpost : ((0 : Int32) = 0 ∧ (0 ≤ (0 : Int32).toInt ∧ (0 : Int32).toInt ≤ 0)) ∨ ((0 : Int32) = 1 ∧ (0 ≤ n_39.toInt ∧ n_39.toInt ≤ 0) ∧ (0 ≤ (0 : Int32).toInt ∧ (0 : Int32).toInt ≤ 0)) := (Or.inl ⟨rfl, (by decide +kernel)⟩)
                    exact hret _ _ _ _ _ _ (n_39, 0, g_numbers) [3, 0, 1, 2] hP hD hS rfl (by decide) dX12_pour_141 (Or.inl rfl) hpost
                  · have b_42 := z_fgeF c_37
                    refine lv_iload hx hb dX12_pour_96 (lv_at hl 4 rfl) ?_
                    refine lv_if_lt (tgt := 136) hx hb dX12_pour_98 (by decide) (fun c_43 => ?_) (fun c_43 => ?_)
                    · have b_44 := z_fltT c_43
                      refine lv_aload_n hx hb dX12_pour_136 rfl (lv_at hl 0 rfl) ?_
                      refine lv_iconst (v := 4) hx hb dX12_pour_137 (by decide) ?_
                      refine z_callVi (As := [.int 4]) (rest := []) (wr := [(a_traySort, .inl (cA.1 0, 4, .inl g_traySort)), (a_trayMany, .inl (cA.1 0, 4, .inl g_trayMany)), (a_numbers, .inl (cA.1 1, 240, .inr (.inl g_numbers)))]) ⟨hx, hb, hml, hown, hts⟩ hK hE hT hP hD hS hA (r_no l G cA h0 0 0 m_above m_under a_traySort a_trayMany a_numbers a_tape m_taped m_textEnd m_faultKind m_faultAt m_bad m_badAt m_token m_at m_behind m_number m_letters m_word a_c a_words m_markMany a_there a_tried a_best a_found m_thereMany m_foundMany m_orderHow m_orderRing m_orderMany m_hasBest m_bestTop m_bestBy a_weights a_shared m_random m_truePlace m_trueWay m_seconds m_done m_feelings m_tries m_leftOver m_playDoor m_playRing m_isOpen m_isOver m_wasTried m_hasPlayed a_feltNow a_last a_kept m_hasSeconds m_hasTurned m_hasRound a_hasFeels a_isOn m_firstAct m_meanTop m_meanBy a_order m_rowMany m_newSteps 4) lk_RX12_97 ⟨rfl, rfl⟩ ⟨Nat.le_of_ble_eq_true rfl, Nat.le_of_ble_eq_true rfl⟩ 12 rfl rfl rfl [0] [1, 2, 3] rfl rfl (by decide) rfl hl.1 rfl (lv_room (Nat.le_of_ble_eq_true rfl)) dX12_pour_138 ⟨Nat.le_of_ble_eq_true rfl, Nat.le_of_ble_eq_true rfl⟩ (fun r_46 u_47 H locs hw hP hD hS => ?_)
                      obtain ⟨n_45, rfl⟩ : ∃ z, z = u_47 := ⟨_, rfl⟩
                      obtain ⟨he_r_46, he_n_45, hw⟩ := hw
                      obtain ⟨rfl, -⟩ := hw
                      have hpost : ((0 : Int32) = 0 ∧ (0 ≤ (0 : Int32).toInt ∧ (0 : Int32).toInt ≤ 0)) ∨ ((0 : Int32) = 1 ∧ (0 ≤ n_45.toInt ∧ n_45.toInt ≤ 0) ∧ (0 ≤ (0 : Int32).toInt ∧ (0 : Int32).toInt ≤ 0)) := (Or.inl ⟨rfl, (by decide +kernel)⟩)
                      exact hret _ _ _ _ _ _ (n_45, 0, g_numbers) [3, 0, 1, 2] hP hD hS rfl (by decide) dX12_pour_141 (Or.inl rfl) hpost
                    · have b_48 := z_fgeF c_43
                      refine lv_iload_n hx hb dX12_pour_101 rfl (lv_at hl 2 rfl) ?_
                      refine lv_i2l (v := (i).toInt64) hx hb dX12_pour_102 rfl ?_
                      refine lv_topl (fun x_49 he_x_49 => ?_)
                      have hq_x_49 := z_i2l he_x_49
                      have hL_i := z_full i
                      refine lv_iload hx hb dX12_pour_103 (lv_at hl 5 rfl) ?_
                      refine lv_i2l (v := (nn).toInt64) hx hb dX12_pour_105 rfl ?_
                      refine lv_topl (fun x_50 he_x_50 => ?_)
                      have hq_x_50 := z_i2l he_x_50
                      have hL_nn := z_full nn
                      refine lv_ladd hx hb dX12_pour_106 ?_
                      refine lv_topl (fun x_51 he_x_51 => ?_)
                      have hq_x_51 := z_addql he_x_51 (rfl : x_49.toInt = _) (rfl : x_50.toInt = _) (by omega) (by omega)
                      refine lv_aload_n hx hb dX12_pour_107 rfl (lv_at hl 0 rfl) ?_
                      refine va_get (D := G) (ci := 12) (v := .ref a_trayMany) (C := RX12) (T := TX12) (N := 65) hx hb hts inT12 hown hK hP 0 rfl rfl 5 (by decide) (hts _ tw_1890) (fun _ h9 => h9) rfl dX12_pour_108 ?_
                      refine lv_iload_n hx hb dX12_pour_111 rfl (lv_at hl 1 rfl) ?_
                      refine va_iald hx hb hK hP 2 0 rfl rfl (z_inN (by omega) (by omega)) dX12_pour_112 ?_
                      refine lv_topi (fun x_52 he_x_52 => ?_)
                      have hr_x_52 := z_rg hC_g_trayMany he_x_52 (by omega) (by omega)
                      refine lv_i2l (v := (x_52).toInt64) hx hb dX12_pour_113 rfl ?_
                      refine lv_topl (fun x_53 he_x_53 => ?_)
                      have hq_x_53 := z_i2l he_x_53
                      refine W.lcmp hx hb dX12_pour_114 ?_
                      refine lv_if_gt (tgt := 136) hx hb dX12_pour_115 (by decide) (fun c_54 => ?_) (fun c_54 => ?_)
                      · have b_55 := z_fgtTl c_54
                        refine lv_aload_n hx hb dX12_pour_136 rfl (lv_at hl 0 rfl) ?_
                        refine lv_iconst (v := 4) hx hb dX12_pour_137 (by decide) ?_
                        refine z_callVi (As := [.int 4]) (rest := []) (wr := [(a_traySort, .inl (cA.1 0, 4, .inl g_traySort)), (a_trayMany, .inl (cA.1 0, 4, .inl g_trayMany)), (a_numbers, .inl (cA.1 1, 240, .inr (.inl g_numbers)))]) ⟨hx, hb, hml, hown, hts⟩ hK hE hT hP hD hS hA (r_no l G cA h0 0 0 m_above m_under a_traySort a_trayMany a_numbers a_tape m_taped m_textEnd m_faultKind m_faultAt m_bad m_badAt m_token m_at m_behind m_number m_letters m_word a_c a_words m_markMany a_there a_tried a_best a_found m_thereMany m_foundMany m_orderHow m_orderRing m_orderMany m_hasBest m_bestTop m_bestBy a_weights a_shared m_random m_truePlace m_trueWay m_seconds m_done m_feelings m_tries m_leftOver m_playDoor m_playRing m_isOpen m_isOver m_wasTried m_hasPlayed a_feltNow a_last a_kept m_hasSeconds m_hasTurned m_hasRound a_hasFeels a_isOn m_firstAct m_meanTop m_meanBy a_order m_rowMany m_newSteps 4) lk_RX12_97 ⟨rfl, rfl⟩ ⟨Nat.le_of_ble_eq_true rfl, Nat.le_of_ble_eq_true rfl⟩ 12 rfl rfl rfl [0] [1, 2, 3] rfl rfl (by decide) rfl hl.1 rfl (lv_room (Nat.le_of_ble_eq_true rfl)) dX12_pour_138 ⟨Nat.le_of_ble_eq_true rfl, Nat.le_of_ble_eq_true rfl⟩ (fun r_57 u_58 H locs hw hP hD hS => ?_)
                        obtain ⟨n_56, rfl⟩ : ∃ z, z = u_58 := ⟨_, rfl⟩
                        obtain ⟨he_r_57, he_n_56, hw⟩ := hw
                        obtain ⟨rfl, -⟩ := hw
                        have hpost : ((0 : Int32) = 0 ∧ (0 ≤ (0 : Int32).toInt ∧ (0 : Int32).toInt ≤ 0)) ∨ ((0 : Int32) = 1 ∧ (0 ≤ n_56.toInt ∧ n_56.toInt ≤ 0) ∧ (0 ≤ (0 : Int32).toInt ∧ (0 : Int32).toInt ≤ 0)) := (Or.inl ⟨rfl, (by decide +kernel)⟩)
                        exact hret _ _ _ _ _ _ (n_56, 0, g_numbers) [3, 0, 1, 2] hP hD hS rfl (by decide) dX12_pour_141 (Or.inl rfl) hpost
                      · have b_59 := z_fleFl c_54
                        refine lv_iload hx hb dX12_pour_118 (lv_at hl 4 rfl) ?_
                        refine lv_i2l (v := (j).toInt64) hx hb dX12_pour_120 rfl ?_
                        refine lv_topl (fun x_60 he_x_60 => ?_)
                        have hq_x_60 := z_i2l he_x_60
                        have hL_j := z_full j
                        refine lv_iload hx hb dX12_pour_121 (lv_at hl 5 rfl) ?_
                        refine lv_i2l (v := (nn).toInt64) hx hb dX12_pour_123 rfl ?_
                        refine lv_topl (fun x_61 he_x_61 => ?_)
                        have hq_x_61 := z_i2l he_x_61
                        refine lv_ladd hx hb dX12_pour_124 ?_
                        refine lv_topl (fun x_62 he_x_62 => ?_)
                        have hq_x_62 := z_addql he_x_62 (rfl : x_60.toInt = _) (rfl : x_61.toInt = _) (by omega) (by omega)
                        refine lv_aload_n hx hb dX12_pour_125 rfl (lv_at hl 0 rfl) ?_
                        refine va_get (D := G) (ci := 12) (v := .ref a_trayMany) (C := RX12) (T := TX12) (N := 65) hx hb hts inT12 hown hK hP 0 rfl rfl 5 (by decide) (hts _ tw_1890) (fun _ h9 => h9) rfl dX12_pour_126 ?_
                        refine lv_iload_n hx hb dX12_pour_129 rfl (lv_at hl 3 rfl) ?_
                        refine va_iald hx hb hK hP 2 0 rfl rfl (z_inN (by omega) (by omega)) dX12_pour_130 ?_
                        refine lv_topi (fun x_63 he_x_63 => ?_)
                        have hr_x_63 := z_rg hC_g_trayMany he_x_63 (by omega) (by omega)
                        refine lv_i2l (v := (x_63).toInt64) hx hb dX12_pour_131 rfl ?_
                        refine lv_topl (fun x_64 he_x_64 => ?_)
                        have hq_x_64 := z_i2l he_x_64
                        refine W.lcmp hx hb dX12_pour_132 ?_
                        refine lv_if_le (tgt := 142) hx hb dX12_pour_133 (by decide) (fun c_65 => ?_) (fun c_65 => ?_)
                        · have b_66 := z_fleTl c_65
                          have hn_k_67 : 0 ≤ i.toInt ∧ i.toInt ≤ 60 := by omega
                          have hn_k_68 : 0 ≤ j.toInt ∧ j.toInt ≤ 60 := by omega
                          have hn_k_69 : 0 ≤ nn.toInt ∧ nn.toInt ≤ 60 := by omega
                          refine lv_iload_n hx hb dX12_pour_142 rfl (lv_at hl 2 rfl) ?_
                          refine lv_iload hx hb dX12_pour_143 (lv_at hl 4 rfl) ?_
                          refine lv_icmp_ge (tgt := 152) hx hb dX12_pour_145 (by decide) (fun c_70 => ?_) (fun c_70 => ?_)
                          · have b_71 := z_fgeT c_70
                            refine lv_iconst (v := 0) hx hb dX12_pour_152 (by decide) ?_
                            refine lv_istore (lv' := [(6, .int 0), (0, .ref h0), (1, .int t), (2, .int i), (3, .int to), (4, .int j), (5, .int nn)]) hx hb dX12_pour_153 hl (by decide) rfl (fun ls hl => ?_)
                            refine lv_iconst (v := 0) hx hb dX12_pour_155 (by decide) ?_
                            refine lv_istore (lv' := [(7, .int 0), (6, .int 0), (0, .ref h0), (1, .int t), (2, .int i), (3, .int to), (4, .int j), (5, .int nn)]) hx hb dX12_pour_156 hl (by decide) rfl (fun ls hl => ?_)
                            have hlp_433 : ∀ (n : Nat) (v_419 : Int32) (g_420 : Nat → Int64) (H : Heap) (locs : List Loc) (ls : Array Slot), (2147483647 - v_419.toInt).toNat < n → (0 ≤ v_419.toInt ∧ v_419.toInt ≤ 60) → va_P G vwCl [(h0, .inr (12, [.int 0, .int 0, .long m_above, .long m_under, .ref a_traySort, .ref a_trayMany, .ref a_numbers, .ref a_tape, .int m_taped, .int m_textEnd, .int m_faultKind, .int m_faultAt, .int m_bad, .int m_badAt, .int m_token, .int m_at, .int m_behind, .int m_number, .int m_letters, .long m_word, .ref a_c, .ref a_words, .int m_markMany, .ref a_there, .ref a_tried, .ref a_best, .ref a_found, .int m_thereMany, .int m_foundMany, .int m_orderHow, .int m_orderRing, .int m_orderMany, .int m_hasBest, .long m_bestTop, .long m_bestBy, .ref a_weights, .ref a_shared, .int m_random, .int m_truePlace, .int m_trueWay, .int m_seconds, .int m_done, .int m_feelings, .int m_tries, .int m_leftOver, .int m_playDoor, .int m_playRing, .int m_isOpen, .int m_isOver, .int m_wasTried, .int m_hasPlayed, .ref a_feltNow, .ref a_last, .ref a_kept, .int m_hasSeconds, .int m_hasTurned, .int m_hasRound, .ref a_hasFeels, .ref a_isOn, .int m_firstAct, .long m_meanTop, .long m_meanBy, .ref a_order, .int m_rowMany, .int m_newSteps])), (a_traySort, .inl (cA.1 0, 4, .inl g_traySort)), (a_trayMany, .inl (cA.1 0, 4, .inl g_trayMany)), (a_numbers, .inl (cA.1 1, 240, .inr (.inl g_420)))] H → va_D A [(h0, .inr (12, [.int 0, .int 0, .long m_above, .long m_under, .ref a_traySort, .ref a_trayMany, .ref a_numbers, .ref a_tape, .int m_taped, .int m_textEnd, .int m_faultKind, .int m_faultAt, .int m_bad, .int m_badAt, .int m_token, .int m_at, .int m_behind, .int m_number, .int m_letters, .long m_word, .ref a_c, .ref a_words, .int m_markMany, .ref a_there, .ref a_tried, .ref a_best, .ref a_found, .int m_thereMany, .int m_foundMany, .int m_orderHow, .int m_orderRing, .int m_orderMany, .int m_hasBest, .long m_bestTop, .long m_bestBy, .ref a_weights, .ref a_shared, .int m_random, .int m_truePlace, .int m_trueWay, .int m_seconds, .int m_done, .int m_feelings, .int m_tries, .int m_leftOver, .int m_playDoor, .int m_playRing, .int m_isOpen, .int m_isOver, .int m_wasTried, .int m_hasPlayed, .ref a_feltNow, .ref a_last, .ref a_kept, .int m_hasSeconds, .int m_hasTurned, .int m_hasRound, .ref a_hasFeels, .ref a_isOn, .int m_firstAct, .long m_meanTop, .long m_meanBy, .ref a_order, .int m_rowMany, .int m_newSteps])), (a_traySort, .inl (cA.1 0, 4, .inl g_traySort)), (a_trayMany, .inl (cA.1 0, 4, .inl g_trayMany)), (a_numbers, .inl (cA.1 1, 240, .inr (.inl g_420)))] → va_S A s.heap H locs → lv_has ls 9 [(0, .ref h0), (1, .int t), (2, .int i), (3, .int to), (4, .int j), (5, .int nn), (6, .int 0), (7, .int v_419)] → W p l e ({ frames := 1, cells := 0, slots := 0, locals := 21 }) s m args below meth c H locs 0 0 Q (F0 m 158 ls []) := by
                              intro n
                              induction n with
                              | zero =>
                                intro v_419 g_420 H locs ls hmu_hlp_433 hr_v_419 hP hD hS hl
                                exact absurd hmu_hlp_433 (Nat.not_lt_zero _)
                              | succ n ih_434 =>
                                intro v_419 g_420 H locs ls hmu_hlp_433 hr_v_419 hP hD hS hl
                                refine lv_iload hx hb dX12_pour_158 (lv_at hl 7 rfl) ?_
                                refine lv_iload hx hb dX12_pour_160 (lv_at hl 5 rfl) ?_
                                refine lv_icmp_ge (tgt := 219) hx hb dX12_pour_162 (by decide) (fun c_435 => ?_) (fun c_435 => ?_)
                                · have b_436 := z_fgeT c_435
                                  refine lv_iconst (v := 1) hx hb dX12_pour_219 (by decide) ?_
                                  have hpost : ((1 : Int32) = 0 ∧ (0 ≤ (0 : Int32).toInt ∧ (0 : Int32).toInt ≤ 0)) ∨ ((1 : Int32) = 1 ∧ (0 ≤ (0 : Int32).toInt ∧ (0 : Int32).toInt ≤ 0) ∧ (0 ≤ (0 : Int32).toInt ∧ (0 : Int32).toInt ≤ 0)) := (Or.inr ⟨rfl, ⟨(by decide +kernel), (by decide +kernel)⟩⟩)
                                  exact hret _ _ _ _ _ _ (0, 0, g_420) [0, 1, 2, 3] hP hD hS rfl (by decide) dX12_pour_220 (Or.inr rfl) hpost
                                · have b_437 := z_fltF c_435
                                  refine lv_iload hx hb dX12_pour_165 (lv_at hl 6 rfl) ?_
                                  refine lv_if_eq (tgt := 180) hx hb dX12_pour_167 (by decide) (fun _ => ?_) (fun h9 => absurd (by decide +kernel) h9)
                                  refine lv_iload hx hb dX12_pour_180 (lv_at hl 7 rfl) ?_
                                  refine lv_istore (lv' := [(8, .int v_419), (0, .ref h0), (1, .int t), (2, .int i), (3, .int to), (4, .int j), (5, .int nn), (6, .int 0), (7, .int v_419)]) hx hb dX12_pour_182 hl (by decide) rfl (fun ls hl => ?_)
                                  refine lv_aload_n hx hb dX12_pour_184 rfl (lv_at hl 1 rfl) ?_
                                  refine va_get (D := G) (ci := 12) (v := .ref a_numbers) (C := RX12) (T := TX12) (N := 65) hx hb hts inT12 hown hK hP 0 rfl rfl 6 (by decide) (hts _ tw_1891) (fun _ h9 => h9) rfl dX12_pour_185 ?_
                                  refine lv_bipush (v := 60) hx hb dX12_pour_188 (by decide) ?_
                                  refine lv_iload_n hx hb dX12_pour_190 rfl (lv_at hl 4 rfl) ?_
                                  refine lv_imul hx hb dX12_pour_191 ?_
                                  refine lv_topi (fun x_438 he_x_438 => ?_)
                                  have hq_x_438 := z_mulq he_x_438 hk_60 (rfl : to.toInt = _) (by omega) (by omega)
                                  refine lv_iload hx hb dX12_pour_192 (lv_at hl 5 rfl) ?_
                                  refine lv_iadd hx hb dX12_pour_194 ?_
                                  refine lv_topi (fun x_439 he_x_439 => ?_)
                                  have hq_x_439 := z_addq he_x_439 (rfl : x_438.toInt = _) (rfl : j.toInt = _) (by omega) (by omega)
                                  refine lv_iload hx hb dX12_pour_195 (lv_at hl 0 rfl) ?_
                                  refine lv_iadd hx hb dX12_pour_197 ?_
                                  refine lv_topi (fun x_440 he_x_440 => ?_)
                                  have hq_x_440 := z_addq he_x_440 (rfl : x_439.toInt = _) (rfl : v_419.toInt = _) (by omega) (by omega)
                                  refine lv_aload_n hx hb dX12_pour_198 rfl (lv_at hl 1 rfl) ?_
                                  refine va_get (D := G) (ci := 12) (v := .ref a_numbers) (C := RX12) (T := TX12) (N := 65) hx hb hts inT12 hown hK hP 0 rfl rfl 6 (by decide) (hts _ tw_1891) (fun _ h9 => h9) rfl dX12_pour_199 ?_
                                  refine lv_bipush (v := 60) hx hb dX12_pour_202 (by decide) ?_
                                  refine lv_iload_n hx hb dX12_pour_204 rfl (lv_at hl 2 rfl) ?_
                                  refine lv_imul hx hb dX12_pour_205 ?_
                                  refine lv_topi (fun x_441 he_x_441 => ?_)
                                  have hq_x_441 := z_mulq he_x_441 hk_60 (rfl : t.toInt = _) (by omega) (by omega)
                                  refine lv_iload_n hx hb dX12_pour_206 rfl (lv_at hl 3 rfl) ?_
                                  refine lv_iadd hx hb dX12_pour_207 ?_
                                  refine lv_topi (fun x_442 he_x_442 => ?_)
                                  have hq_x_442 := z_addq he_x_442 (rfl : x_441.toInt = _) (rfl : i.toInt = _) (by omega) (by omega)
                                  refine lv_iload hx hb dX12_pour_208 (lv_at hl 0 rfl) ?_
                                  refine lv_iadd hx hb dX12_pour_210 ?_
                                  refine lv_topi (fun x_443 he_x_443 => ?_)
                                  have hq_x_443 := z_addq he_x_443 (rfl : x_442.toInt = _) (rfl : v_419.toInt = _) (by omega) (by omega)
                                  refine va_lald hx hb hK hP 3 1 rfl rfl (z_inN (by omega) (by omega)) dX12_pour_211 ?_
                                  refine lv_topl (fun x_444 he_x_444 => ?_)
                                  refine z_last hx hb hK hP hD hS 3 1 rfl rfl (z_inN (by omega) (by omega)) dX12_pour_212 (fun g_445 hg_g_445 H locs hP hD hS => ?_)
                                  obtain ⟨x_446, he_x_446⟩ : ∃ z : Int32, z = v_419 + 1 := ⟨_, rfl⟩
                                  have hq_x_446 := z_addq he_x_446 (rfl : v_419.toInt = _) hk_1 (by omega) (by omega)
                                  refine lv_iinc (v := x_446) (lv' := [(7, .int x_446), (8, .int v_419), (0, .ref h0), (1, .int t), (2, .int i), (3, .int to), (4, .int j), (5, .int nn), (6, .int 0)]) hx hb dX12_pour_213 hl (k := 8) rfl ((z_ofi (by decide +kernel)).trans he_x_446.symm) (by decide) rfl (fun ls hl => ?_)
                                  refine lv_goto (tgt := 158) hx hb dX12_pour_216 (by decide) ?_
                                  exact ih_434 x_446 g_445 H locs ls (by omega) (by omega) hP hD hS (lv_sub hl [2, 3, 4, 5, 6, 7, 8, 0] rfl)
                            exact hlp_433 _ 0 g_numbers _ _ _ (Nat.lt_succ_self _) (by decide +kernel) hP hD hS (lv_sub hl [2, 3, 4, 5, 6, 7, 1, 0] rfl)
                          · have b_447 := z_fltF c_70
                            refine lv_iconst (v := 1) hx hb dX12_pour_148 (by decide) ?_
                            refine lv_goto (tgt := 153) hx hb dX12_pour_149 (by decide) ?_
                            refine lv_istore (lv' := [(6, .int 1), (0, .ref h0), (1, .int t), (2, .int i), (3, .int to), (4, .int j), (5, .int nn)]) hx hb dX12_pour_153 hl (by decide) rfl (fun ls hl => ?_)
                            refine lv_iconst (v := 0) hx hb dX12_pour_155 (by decide) ?_
                            refine lv_istore (lv' := [(7, .int 0), (6, .int 1), (0, .ref h0), (1, .int t), (2, .int i), (3, .int to), (4, .int j), (5, .int nn)]) hx hb dX12_pour_156 hl (by decide) rfl (fun ls hl => ?_)
                            have hlp_861 : ∀ (n : Nat) (v_845 : Int32) (g_846 : Nat → Int64) (H : Heap) (locs : List Loc) (ls : Array Slot), (2147483647 - v_845.toInt).toNat < n → (0 ≤ v_845.toInt ∧ v_845.toInt ≤ 60) → va_P G vwCl [(h0, .inr (12, [.int 0, .int 0, .long m_above, .long m_under, .ref a_traySort, .ref a_trayMany, .ref a_numbers, .ref a_tape, .int m_taped, .int m_textEnd, .int m_faultKind, .int m_faultAt, .int m_bad, .int m_badAt, .int m_token, .int m_at, .int m_behind, .int m_number, .int m_letters, .long m_word, .ref a_c, .ref a_words, .int m_markMany, .ref a_there, .ref a_tried, .ref a_best, .ref a_found, .int m_thereMany, .int m_foundMany, .int m_orderHow, .int m_orderRing, .int m_orderMany, .int m_hasBest, .long m_bestTop, .long m_bestBy, .ref a_weights, .ref a_shared, .int m_random, .int m_truePlace, .int m_trueWay, .int m_seconds, .int m_done, .int m_feelings, .int m_tries, .int m_leftOver, .int m_playDoor, .int m_playRing, .int m_isOpen, .int m_isOver, .int m_wasTried, .int m_hasPlayed, .ref a_feltNow, .ref a_last, .ref a_kept, .int m_hasSeconds, .int m_hasTurned, .int m_hasRound, .ref a_hasFeels, .ref a_isOn, .int m_firstAct, .long m_meanTop, .long m_meanBy, .ref a_order, .int m_rowMany, .int m_newSteps])), (a_traySort, .inl (cA.1 0, 4, .inl g_traySort)), (a_trayMany, .inl (cA.1 0, 4, .inl g_trayMany)), (a_numbers, .inl (cA.1 1, 240, .inr (.inl g_846)))] H → va_D A [(h0, .inr (12, [.int 0, .int 0, .long m_above, .long m_under, .ref a_traySort, .ref a_trayMany, .ref a_numbers, .ref a_tape, .int m_taped, .int m_textEnd, .int m_faultKind, .int m_faultAt, .int m_bad, .int m_badAt, .int m_token, .int m_at, .int m_behind, .int m_number, .int m_letters, .long m_word, .ref a_c, .ref a_words, .int m_markMany, .ref a_there, .ref a_tried, .ref a_best, .ref a_found, .int m_thereMany, .int m_foundMany, .int m_orderHow, .int m_orderRing, .int m_orderMany, .int m_hasBest, .long m_bestTop, .long m_bestBy, .ref a_weights, .ref a_shared, .int m_random, .int m_truePlace, .int m_trueWay, .int m_seconds, .int m_done, .int m_feelings, .int m_tries, .int m_leftOver, .int m_playDoor, .int m_playRing, .int m_isOpen, .int m_isOver, .int m_wasTried, .int m_hasPlayed, .ref a_feltNow, .ref a_last, .ref a_kept, .int m_hasSeconds, .int m_hasTurned, .int m_hasRound, .ref a_hasFeels, .ref a_isOn, .int m_firstAct, .long m_meanTop, .long m_meanBy, .ref a_order, .int m_rowMany, .int m_newSteps])), (a_traySort, .inl (cA.1 0, 4, .inl g_traySort)), (a_trayMany, .inl (cA.1 0, 4, .inl g_trayMany)), (a_numbers, .inl (cA.1 1, 240, .inr (.inl g_846)))] → va_S A s.heap H locs → lv_has ls 9 [(0, .ref h0), (1, .int t), (2, .int i), (3, .int to), (4, .int j), (5, .int nn), (6, .int 1), (7, .int v_845)] → W p l e ({ frames := 1, cells := 0, slots := 0, locals := 21 }) s m args below meth c H locs 0 0 Q (F0 m 158 ls []) := by
                              intro n
                              induction n with
                              | zero =>
                                intro v_845 g_846 H locs ls hmu_hlp_861 hr_v_845 hP hD hS hl
                                exact absurd hmu_hlp_861 (Nat.not_lt_zero _)
                              | succ n ih_862 =>
                                intro v_845 g_846 H locs ls hmu_hlp_861 hr_v_845 hP hD hS hl
                                refine lv_iload hx hb dX12_pour_158 (lv_at hl 7 rfl) ?_
                                refine lv_iload hx hb dX12_pour_160 (lv_at hl 5 rfl) ?_
                                refine lv_icmp_ge (tgt := 219) hx hb dX12_pour_162 (by decide) (fun c_863 => ?_) (fun c_863 => ?_)
                                · have b_864 := z_fgeT c_863
                                  refine lv_iconst (v := 1) hx hb dX12_pour_219 (by decide) ?_
                                  have hpost : ((1 : Int32) = 0 ∧ (0 ≤ (0 : Int32).toInt ∧ (0 : Int32).toInt ≤ 0)) ∨ ((1 : Int32) = 1 ∧ (0 ≤ (0 : Int32).toInt ∧ (0 : Int32).toInt ≤ 0) ∧ (0 ≤ (0 : Int32).toInt ∧ (0 : Int32).toInt ≤ 0)) := (Or.inr ⟨rfl, ⟨(by decide +kernel), (by decide +kernel)⟩⟩)
                                  exact hret _ _ _ _ _ _ (0, 0, g_846) [0, 1, 2, 3] hP hD hS rfl (by decide) dX12_pour_220 (Or.inr rfl) hpost
                                · have b_865 := z_fltF c_863
                                  refine lv_iload hx hb dX12_pour_165 (lv_at hl 6 rfl) ?_
                                  refine lv_if_eq (tgt := 180) hx hb dX12_pour_167 (by decide) (fun h9 => absurd h9 (by decide +kernel)) (fun _ => ?_)
                                  refine lv_iload hx hb dX12_pour_170 (lv_at hl 5 rfl) ?_
                                  refine lv_iconst (v := 1) hx hb dX12_pour_172 (by decide) ?_
                                  refine lv_isub hx hb dX12_pour_173 ?_
                                  refine lv_topi (fun x_866 he_x_866 => ?_)
                                  have hq_x_866 := z_subq he_x_866 (rfl : nn.toInt = _) hk_1 (by omega) (by omega)
                                  refine lv_iload hx hb dX12_pour_174 (lv_at hl 7 rfl) ?_
                                  refine lv_isub hx hb dX12_pour_176 ?_
                                  refine lv_topi (fun x_867 he_x_867 => ?_)
                                  have hq_x_867 := z_subq he_x_867 (rfl : x_866.toInt = _) (rfl : v_845.toInt = _) (by omega) (by omega)
                                  refine lv_goto (tgt := 182) hx hb dX12_pour_177 (by decide) ?_
                                  refine lv_istore (lv' := [(8, .int x_867), (0, .ref h0), (1, .int t), (2, .int i), (3, .int to), (4, .int j), (5, .int nn), (6, .int 1), (7, .int v_845)]) hx hb dX12_pour_182 hl (by decide) rfl (fun ls hl => ?_)
                                  refine lv_aload_n hx hb dX12_pour_184 rfl (lv_at hl 1 rfl) ?_
                                  refine va_get (D := G) (ci := 12) (v := .ref a_numbers) (C := RX12) (T := TX12) (N := 65) hx hb hts inT12 hown hK hP 0 rfl rfl 6 (by decide) (hts _ tw_1891) (fun _ h9 => h9) rfl dX12_pour_185 ?_
                                  refine lv_bipush (v := 60) hx hb dX12_pour_188 (by decide) ?_
                                  refine lv_iload_n hx hb dX12_pour_190 rfl (lv_at hl 4 rfl) ?_
                                  refine lv_imul hx hb dX12_pour_191 ?_
                                  refine lv_topi (fun x_868 he_x_868 => ?_)
                                  have hq_x_868 := z_mulq he_x_868 hk_60 (rfl : to.toInt = _) (by omega) (by omega)
                                  refine lv_iload hx hb dX12_pour_192 (lv_at hl 5 rfl) ?_
                                  refine lv_iadd hx hb dX12_pour_194 ?_
                                  refine lv_topi (fun x_869 he_x_869 => ?_)
                                  have hq_x_869 := z_addq he_x_869 (rfl : x_868.toInt = _) (rfl : j.toInt = _) (by omega) (by omega)
                                  refine lv_iload hx hb dX12_pour_195 (lv_at hl 0 rfl) ?_
                                  refine lv_iadd hx hb dX12_pour_197 ?_
                                  refine lv_topi (fun x_870 he_x_870 => ?_)
                                  have hq_x_870 := z_addq he_x_870 (rfl : x_869.toInt = _) (rfl : x_867.toInt = _) (by omega) (by omega)
                                  refine lv_aload_n hx hb dX12_pour_198 rfl (lv_at hl 1 rfl) ?_
                                  refine va_get (D := G) (ci := 12) (v := .ref a_numbers) (C := RX12) (T := TX12) (N := 65) hx hb hts inT12 hown hK hP 0 rfl rfl 6 (by decide) (hts _ tw_1891) (fun _ h9 => h9) rfl dX12_pour_199 ?_
                                  refine lv_bipush (v := 60) hx hb dX12_pour_202 (by decide) ?_
                                  refine lv_iload_n hx hb dX12_pour_204 rfl (lv_at hl 2 rfl) ?_
                                  refine lv_imul hx hb dX12_pour_205 ?_
                                  refine lv_topi (fun x_871 he_x_871 => ?_)
                                  have hq_x_871 := z_mulq he_x_871 hk_60 (rfl : t.toInt = _) (by omega) (by omega)
                                  refine lv_iload_n hx hb dX12_pour_206 rfl (lv_at hl 3 rfl) ?_
                                  refine lv_iadd hx hb dX12_pour_207 ?_
                                  refine lv_topi (fun x_872 he_x_872 => ?_)
                                  have hq_x_872 := z_addq he_x_872 (rfl : x_871.toInt = _) (rfl : i.toInt = _) (by omega) (by omega)
                                  refine lv_iload hx hb dX12_pour_208 (lv_at hl 0 rfl) ?_
                                  refine lv_iadd hx hb dX12_pour_210 ?_
                                  refine lv_topi (fun x_873 he_x_873 => ?_)
                                  have hq_x_873 := z_addq he_x_873 (rfl : x_872.toInt = _) (rfl : x_867.toInt = _) (by omega) (by omega)
                                  refine va_lald hx hb hK hP 3 1 rfl rfl (z_inN (by omega) (by omega)) dX12_pour_211 ?_
                                  refine lv_topl (fun x_874 he_x_874 => ?_)
                                  refine z_last hx hb hK hP hD hS 3 1 rfl rfl (z_inN (by omega) (by omega)) dX12_pour_212 (fun g_875 hg_g_875 H locs hP hD hS => ?_)
                                  obtain ⟨x_876, he_x_876⟩ : ∃ z : Int32, z = v_845 + 1 := ⟨_, rfl⟩
                                  have hq_x_876 := z_addq he_x_876 (rfl : v_845.toInt = _) hk_1 (by omega) (by omega)
                                  refine lv_iinc (v := x_876) (lv' := [(7, .int x_876), (8, .int x_867), (0, .ref h0), (1, .int t), (2, .int i), (3, .int to), (4, .int j), (5, .int nn), (6, .int 1)]) hx hb dX12_pour_213 hl (k := 8) rfl ((z_ofi (by decide +kernel)).trans he_x_876.symm) (by decide) rfl (fun ls hl => ?_)
                                  refine lv_goto (tgt := 158) hx hb dX12_pour_216 (by decide) ?_
                                  exact ih_862 x_876 g_875 H locs ls (by omega) (by omega) hP hD hS (lv_sub hl [2, 3, 4, 5, 6, 7, 8, 0] rfl)
                            exact hlp_861 _ 0 g_numbers _ _ _ (Nat.lt_succ_self _) (by decide +kernel) hP hD hS (lv_sub hl [2, 3, 4, 5, 6, 7, 1, 0] rfl)
                        · have b_877 := z_fgtFl c_65
                          refine lv_aload_n hx hb dX12_pour_136 rfl (lv_at hl 0 rfl) ?_
                          refine lv_iconst (v := 4) hx hb dX12_pour_137 (by decide) ?_
                          refine z_callVi (As := [.int 4]) (rest := []) (wr := [(a_traySort, .inl (cA.1 0, 4, .inl g_traySort)), (a_trayMany, .inl (cA.1 0, 4, .inl g_trayMany)), (a_numbers, .inl (cA.1 1, 240, .inr (.inl g_numbers)))]) ⟨hx, hb, hml, hown, hts⟩ hK hE hT hP hD hS hA (r_no l G cA h0 0 0 m_above m_under a_traySort a_trayMany a_numbers a_tape m_taped m_textEnd m_faultKind m_faultAt m_bad m_badAt m_token m_at m_behind m_number m_letters m_word a_c a_words m_markMany a_there a_tried a_best a_found m_thereMany m_foundMany m_orderHow m_orderRing m_orderMany m_hasBest m_bestTop m_bestBy a_weights a_shared m_random m_truePlace m_trueWay m_seconds m_done m_feelings m_tries m_leftOver m_playDoor m_playRing m_isOpen m_isOver m_wasTried m_hasPlayed a_feltNow a_last a_kept m_hasSeconds m_hasTurned m_hasRound a_hasFeels a_isOn m_firstAct m_meanTop m_meanBy a_order m_rowMany m_newSteps 4) lk_RX12_97 ⟨rfl, rfl⟩ ⟨Nat.le_of_ble_eq_true rfl, Nat.le_of_ble_eq_true rfl⟩ 12 rfl rfl rfl [0] [1, 2, 3] rfl rfl (by decide) rfl hl.1 rfl (lv_room (Nat.le_of_ble_eq_true rfl)) dX12_pour_138 ⟨Nat.le_of_ble_eq_true rfl, Nat.le_of_ble_eq_true rfl⟩ (fun r_879 u_880 H locs hw hP hD hS => ?_)
                          obtain ⟨n_878, rfl⟩ : ∃ z, z = u_880 := ⟨_, rfl⟩
                          obtain ⟨he_r_879, he_n_878, hw⟩ := hw
                          obtain ⟨rfl, -⟩ := hw
                          have hpost : ((0 : Int32) = 0 ∧ (0 ≤ (0 : Int32).toInt ∧ (0 : Int32).toInt ≤ 0)) ∨ ((0 : Int32) = 1 ∧ (0 ≤ n_878.toInt ∧ n_878.toInt ≤ 0) ∧ (0 ≤ (0 : Int32).toInt ∧ (0 : Int32).toInt ≤ 0)) := (Or.inl ⟨rfl, (by decide +kernel)⟩)
                          exact hret _ _ _ _ _ _ (n_878, 0, g_numbers) [3, 0, 1, 2] hP hD hS rfl (by decide) dX12_pour_141 (Or.inl rfl) hpost
                · have b_881 := z_fltF c_35
                  refine lv_aload_n hx hb dX12_pour_85 rfl (lv_at hl 0 rfl) ?_
                  refine lv_bipush (v := 6) hx hb dX12_pour_86 (by decide) ?_
                  refine z_callVi (As := [.int 6]) (rest := []) (wr := [(a_traySort, .inl (cA.1 0, 4, .inl g_traySort)), (a_trayMany, .inl (cA.1 0, 4, .inl g_trayMany)), (a_numbers, .inl (cA.1 1, 240, .inr (.inl g_numbers)))]) ⟨hx, hb, hml, hown, hts⟩ hK hE hT hP hD hS hA (r_no l G cA h0 0 0 m_above m_under a_traySort a_trayMany a_numbers a_tape m_taped m_textEnd m_faultKind m_faultAt m_bad m_badAt m_token m_at m_behind m_number m_letters m_word a_c a_words m_markMany a_there a_tried a_best a_found m_thereMany m_foundMany m_orderHow m_orderRing m_orderMany m_hasBest m_bestTop m_bestBy a_weights a_shared m_random m_truePlace m_trueWay m_seconds m_done m_feelings m_tries m_leftOver m_playDoor m_playRing m_isOpen m_isOver m_wasTried m_hasPlayed a_feltNow a_last a_kept m_hasSeconds m_hasTurned m_hasRound a_hasFeels a_isOn m_firstAct m_meanTop m_meanBy a_order m_rowMany m_newSteps 6) lk_RX12_97 ⟨rfl, rfl⟩ ⟨Nat.le_of_ble_eq_true rfl, Nat.le_of_ble_eq_true rfl⟩ 12 rfl rfl rfl [0] [1, 2, 3] rfl rfl (by decide) rfl hl.1 rfl (lv_room (Nat.le_of_ble_eq_true rfl)) dX12_pour_88 ⟨Nat.le_of_ble_eq_true rfl, Nat.le_of_ble_eq_true rfl⟩ (fun r_883 u_884 H locs hw hP hD hS => ?_)
                  obtain ⟨n_882, rfl⟩ : ∃ z, z = u_884 := ⟨_, rfl⟩
                  obtain ⟨he_r_883, he_n_882, hw⟩ := hw
                  obtain ⟨rfl, -⟩ := hw
                  have hpost : ((0 : Int32) = 0 ∧ (0 ≤ (0 : Int32).toInt ∧ (0 : Int32).toInt ≤ 0)) ∨ ((0 : Int32) = 1 ∧ (0 ≤ n_882.toInt ∧ n_882.toInt ≤ 0) ∧ (0 ≤ (0 : Int32).toInt ∧ (0 : Int32).toInt ≤ 0)) := (Or.inl ⟨rfl, (by decide +kernel)⟩)
                  exact hret _ _ _ _ _ _ (n_882, 0, g_numbers) [3, 0, 1, 2] hP hD hS rfl (by decide) dX12_pour_91 (Or.inl rfl) hpost
              · have b_885 := z_fneF c_33
                refine lv_aload_n hx hb dX12_pour_73 rfl (lv_at hl 0 rfl) ?_
                refine lv_bipush (v := 11) hx hb dX12_pour_74 (by decide) ?_
                refine z_callVi (As := [.int 11]) (rest := []) (wr := [(a_traySort, .inl (cA.1 0, 4, .inl g_traySort)), (a_trayMany, .inl (cA.1 0, 4, .inl g_trayMany)), (a_numbers, .inl (cA.1 1, 240, .inr (.inl g_numbers)))]) ⟨hx, hb, hml, hown, hts⟩ hK hE hT hP hD hS hA (r_no l G cA h0 0 0 m_above m_under a_traySort a_trayMany a_numbers a_tape m_taped m_textEnd m_faultKind m_faultAt m_bad m_badAt m_token m_at m_behind m_number m_letters m_word a_c a_words m_markMany a_there a_tried a_best a_found m_thereMany m_foundMany m_orderHow m_orderRing m_orderMany m_hasBest m_bestTop m_bestBy a_weights a_shared m_random m_truePlace m_trueWay m_seconds m_done m_feelings m_tries m_leftOver m_playDoor m_playRing m_isOpen m_isOver m_wasTried m_hasPlayed a_feltNow a_last a_kept m_hasSeconds m_hasTurned m_hasRound a_hasFeels a_isOn m_firstAct m_meanTop m_meanBy a_order m_rowMany m_newSteps 11) lk_RX12_97 ⟨rfl, rfl⟩ ⟨Nat.le_of_ble_eq_true rfl, Nat.le_of_ble_eq_true rfl⟩ 12 rfl rfl rfl [0] [1, 2, 3] rfl rfl (by decide) rfl hl.1 rfl (lv_room (Nat.le_of_ble_eq_true rfl)) dX12_pour_76 ⟨Nat.le_of_ble_eq_true rfl, Nat.le_of_ble_eq_true rfl⟩ (fun r_887 u_888 H locs hw hP hD hS => ?_)
                obtain ⟨n_886, rfl⟩ : ∃ z, z = u_888 := ⟨_, rfl⟩
                obtain ⟨he_r_887, he_n_886, hw⟩ := hw
                obtain ⟨rfl, -⟩ := hw
                have hpost : ((0 : Int32) = 0 ∧ (0 ≤ (0 : Int32).toInt ∧ (0 : Int32).toInt ≤ 0)) ∨ ((0 : Int32) = 1 ∧ (0 ≤ n_886.toInt ∧ n_886.toInt ≤ 0) ∧ (0 ≤ (0 : Int32).toInt ∧ (0 : Int32).toInt ≤ 0)) := (Or.inl ⟨rfl, (by decide +kernel)⟩)
                exact hret _ _ _ _ _ _ (n_886, 0, g_numbers) [3, 0, 1, 2] hP hD hS rfl (by decide) dX12_pour_79 (Or.inl rfl) hpost
            · have b_889 := z_fltF c_29
              refine lv_aload_n hx hb dX12_pour_52 rfl (lv_at hl 0 rfl) ?_
              refine lv_iconst (v := 3) hx hb dX12_pour_53 (by decide) ?_
              refine z_callVi (As := [.int 3]) (rest := []) (wr := [(a_traySort, .inl (cA.1 0, 4, .inl g_traySort)), (a_trayMany, .inl (cA.1 0, 4, .inl g_trayMany)), (a_numbers, .inl (cA.1 1, 240, .inr (.inl g_numbers)))]) ⟨hx, hb, hml, hown, hts⟩ hK hE hT hP hD hS hA (r_no l G cA h0 0 0 m_above m_under a_traySort a_trayMany a_numbers a_tape m_taped m_textEnd m_faultKind m_faultAt m_bad m_badAt m_token m_at m_behind m_number m_letters m_word a_c a_words m_markMany a_there a_tried a_best a_found m_thereMany m_foundMany m_orderHow m_orderRing m_orderMany m_hasBest m_bestTop m_bestBy a_weights a_shared m_random m_truePlace m_trueWay m_seconds m_done m_feelings m_tries m_leftOver m_playDoor m_playRing m_isOpen m_isOver m_wasTried m_hasPlayed a_feltNow a_last a_kept m_hasSeconds m_hasTurned m_hasRound a_hasFeels a_isOn m_firstAct m_meanTop m_meanBy a_order m_rowMany m_newSteps 3) lk_RX12_97 ⟨rfl, rfl⟩ ⟨Nat.le_of_ble_eq_true rfl, Nat.le_of_ble_eq_true rfl⟩ 12 rfl rfl rfl [0] [1, 2, 3] rfl rfl (by decide) rfl hl.1 rfl (lv_room (Nat.le_of_ble_eq_true rfl)) dX12_pour_54 ⟨Nat.le_of_ble_eq_true rfl, Nat.le_of_ble_eq_true rfl⟩ (fun r_891 u_892 H locs hw hP hD hS => ?_)
              obtain ⟨n_890, rfl⟩ : ∃ z, z = u_892 := ⟨_, rfl⟩
              obtain ⟨he_r_891, he_n_890, hw⟩ := hw
              obtain ⟨rfl, -⟩ := hw
              have hpost : ((0 : Int32) = 0 ∧ (0 ≤ (0 : Int32).toInt ∧ (0 : Int32).toInt ≤ 0)) ∨ ((0 : Int32) = 1 ∧ (0 ≤ n_890.toInt ∧ n_890.toInt ≤ 0) ∧ (0 ≤ (0 : Int32).toInt ∧ (0 : Int32).toInt ≤ 0)) := (Or.inl ⟨rfl, (by decide +kernel)⟩)
              exact hret _ _ _ _ _ _ (n_890, 0, g_numbers) [3, 0, 1, 2] hP hD hS rfl (by decide) dX12_pour_57 (Or.inl rfl) hpost
        · have b_893 := z_fgeF c_19
          refine lv_aload_n hx hb dX12_pour_28 rfl (lv_at hl 0 rfl) ?_
          refine lv_iconst (v := 1) hx hb dX12_pour_29 (by decide) ?_
          refine z_callVi (As := [.int 1]) (rest := []) (wr := [(a_traySort, .inl (cA.1 0, 4, .inl g_traySort)), (a_trayMany, .inl (cA.1 0, 4, .inl g_trayMany)), (a_numbers, .inl (cA.1 1, 240, .inr (.inl g_numbers)))]) ⟨hx, hb, hml, hown, hts⟩ hK hE hT hP hD hS hA (r_no l G cA h0 0 0 m_above m_under a_traySort a_trayMany a_numbers a_tape m_taped m_textEnd m_faultKind m_faultAt m_bad m_badAt m_token m_at m_behind m_number m_letters m_word a_c a_words m_markMany a_there a_tried a_best a_found m_thereMany m_foundMany m_orderHow m_orderRing m_orderMany m_hasBest m_bestTop m_bestBy a_weights a_shared m_random m_truePlace m_trueWay m_seconds m_done m_feelings m_tries m_leftOver m_playDoor m_playRing m_isOpen m_isOver m_wasTried m_hasPlayed a_feltNow a_last a_kept m_hasSeconds m_hasTurned m_hasRound a_hasFeels a_isOn m_firstAct m_meanTop m_meanBy a_order m_rowMany m_newSteps 1) lk_RX12_97 ⟨rfl, rfl⟩ ⟨Nat.le_of_ble_eq_true rfl, Nat.le_of_ble_eq_true rfl⟩ 12 rfl rfl rfl [0] [1, 2, 3] rfl rfl (by decide) rfl hl.1 rfl (lv_room (Nat.le_of_ble_eq_true rfl)) dX12_pour_30 ⟨Nat.le_of_ble_eq_true rfl, Nat.le_of_ble_eq_true rfl⟩ (fun r_895 u_896 H locs hw hP hD hS => ?_)
          obtain ⟨n_894, rfl⟩ : ∃ z, z = u_896 := ⟨_, rfl⟩
          obtain ⟨he_r_895, he_n_894, hw⟩ := hw
          obtain ⟨rfl, -⟩ := hw
          have hpost : ((0 : Int32) = 0 ∧ (0 ≤ (0 : Int32).toInt ∧ (0 : Int32).toInt ≤ 0)) ∨ ((0 : Int32) = 1 ∧ (0 ≤ n_894.toInt ∧ n_894.toInt ≤ 0) ∧ (0 ≤ (0 : Int32).toInt ∧ (0 : Int32).toInt ≤ 0)) := (Or.inl ⟨rfl, (by decide +kernel)⟩)
          exact hret _ _ _ _ _ _ (n_894, 0, g_numbers) [3, 0, 1, 2] hP hD hS rfl (by decide) dX12_pour_33 (Or.inl rfl) hpost
