abbrev qNM : Type := Int32 × Int32 × Int32 × Int32 × Int32 × Int32 × Int32 × Int32 × Int32 × Int32 × Int32 × Int64 × Int32 × Int32 × Int32 × Int32 × (Nat → Int32)
def qFy (g g' : Nat → Int32) : Prop := ∀ j : Nat, (j < 180 ∨ 365 ≤ j) → j < 1640 → g' j = g j
theorem q_73 {n2 n3 bad ba tok a b num lt x1 x2 x3 : Int32} {wd : Int64} {sN : Nat} (hs : sN ≤ 30) : ∀ (f v : Nat) (g : Nat → Int32), (2147483647 - (nI v).toInt).toNat < f → v ≤ 6 * sN → ∃ g' : Nat → Int32, F_r_rule_L73b n2 n3 bad ba tok a b num lt wd (nI sN) x1 x2 x3 f (nI v) g = (nI sN, x1, 0, n2, n3, bad, tok, a, b, num, lt, wd, x2, x3, ba, nI sN, g') ∧ ∀ j : Nat, (j < 181 ∨ 365 ≤ j) → g' j = g j := by
  intro f
  induction f with
  | zero => intro v g h; exact absurd h (Nat.not_lt_zero _)
  | succ f ih =>
    intro v g h hv
    have ev : (nI v).toInt = (v : Int) := nI_toInt (by omega)
    have ev1 : (nI (v + 1)).toInt = ((v + 1 : Nat) : Int) := nI_toInt (by omega)
    have e6 : (6 : Int32) * nI sN = nI (6 * sN) := by
      show nI 6 * nI sN = _
      rw [qnI_mul]
    have e6' : (nI (6 * sN)).toInt = ((6 * sN : Nat) : Int) := nI_toInt (by omega)
    rw [F_r_rule_L73b_s]
    by_cases c : nI (6 * sN) ≤ nI v
    · simp only [e6, c, ↓reduceIte]
      exact ⟨g, rfl, fun j _ => rfl⟩
    · have c' : v < 6 * sN := by rw [q_nle, e6', ev] at c; omega
      have y1 : ((181 : Int32) + nI v).toNatClampNeg = 181 + v := by
        show (nI 181 + nI v).toNatClampNeg = _
        rw [nI_add, qnI_cl (by omega)]
      simp only [e6, c, y1, qnI_s, ↓reduceIte]
      obtain ⟨g', a1, a2⟩ := ih (v + 1) (upd g (181 + v) (g ((1641 : Int32) + nI v).toNatClampNeg)) (by omega) (by omega)
      refine ⟨g', a1, fun j hj => ?_⟩
      rw [a2 j hj]
      exact if_neg (by omega)
theorem q_ruleE {T g : Nat → Int32} {w : Nat → Int64} {n1 n2 n3 fl p tok a b num lt s : Int32} {wd : Int64} {f : Nat} (h : 0 < fl.toInt) (hf : 0 < f) : F_r_rule_L28a T w n1 n2 n3 f g fl p tok a b num lt wd s = (-1, 10, 0, n2, n3, fl, tok, a, b, num, lt, wd, fl, p, p, s, g) := by
  cases f with
  | zero => exact absurd hf (Nat.not_lt_zero _)
  | succ f =>
    rw [F_r_rule_L28a_s]
    simp only [q_ne0 h, F_r_isWell_s, F_r_no_s, ↓reduceIte]
def qUR (n1 n2 n3 fp : Int32) (g : Nat → Int32) (C : qLC) (M : qNM) : Prop := (∃ (sN : Nat) (g2 : Nat → Int32) (ba2 a2 b2 num2 lt2 : Int32) (wd2 : Int64), sN ≤ 30 ∧ C.1 = 1 ∧ C.2.2.2.2.2.2.2.2.1 = 0 ∧ C.2.2.2.2.2.2.2.2.2.1 = fp ∧ C.2.2.2.2.2.2.2.2.2.2.2.2.1 = nI sN ∧ M = (nI sN, n1, 0, n2, n3, 0, 0, a2, b2, num2, lt2, wd2, 0, -1, ba2, nI sN, g2) ∧ qFy g g2) ∨ (∃ (fl p : Int32) (tok2 a2 b2 num2 lt2 : Int32) (wd2 : Int64) (s2 : Int32) (g2 : Nat → Int32), qBd C fl p ∧ M = (-1, 10, 0, n2, n3, fl, tok2, a2, b2, num2, lt2, wd2, fl, p, p, s2, g2) ∧ qFq g g2)
theorem q_ruleL {hf n fp ba n1 n2 : Int32} {T : Nat → Int32} {fn w : Nat → Int64} (hn : n.toInt ≤ 300) (hNm : qNm hf 3 fn w 0) : ∀ (f2 sN : Nat) (g0 g : Nat → Int32) (tok a b num lt cs cn : Int32) (wd cl : Int64) (C : qLC) (M : qNM), (4600 - 5 * b.toInt + tok.toInt).toNat < f2 → sN ≤ 30 → hf = g 0 → qFq g0 g → qTk n T tok a b num lt wd cs cn cl → qGo hf fn n T 0 tok a b cn cs cl fp (nI sN) C → F_r_rule_L28a T w n1 n2 n f2 g 0 ba tok a b num lt wd (nI sN) = M → qUR n1 n2 n fp g0 C M := by
  intro f2
  induction f2 with
  | zero => intro sN g0 g tok a b num lt cs cn wd cl C M h1; exact absurd h1 (Nat.not_lt_zero _)
  | succ f2 ih =>
    intro sN g0 g tok a b num lt cs cn wd cl C M h1 hs hm hfr hT hG hM
    have hn9 : n.toInt ≤ 900 := by omega
    have hb := q_tkb hT
    have hab := hT.2.1
    rw [F_r_rule_L28a_s] at hM
    by_cases ht : tok = 0
    · subst ht
      obtain ⟨c1, c2, c3, c4⟩ := (q_over (by omega) hG).2 rfl
      have x180 : (180 : Int32).toNatClampNeg = 180 := by decide +kernel
      simp only [F_r_isWell_s, q_n1, x180, ↓reduceIte] at hM
      obtain ⟨g', a1, a2⟩ := q_73 (n2 := n2) (n3 := n) (bad := 0) (ba := ba) (tok := 0) (a := a) (b := b) (num := num) (lt := lt) (x1 := n1) (x2 := 0) (x3 := -1) (wd := wd) hs ((2147483647 - (0 : Int32).toInt).toNat + 1) 0 (upd g 180 (nI sN)) (by show (2147483647 - (0 : Int32).toInt).toNat < _; omega) (by omega)
      refine Or.inl ⟨sN, g', ba, a, b, num, lt, wd, hs, c1, c2, c3, c4, hM.symm.trans a1, fun j h1 h2 => ?_⟩
      rw [a2 j (by omega), show upd g 180 (nI sN) j = g j from if_neg (by omega)]
      exact hfr j h2
    · have hab2 := hT.2.2.2.2.2.1 ht
      simp only [ht, ↓reduceIte] at hM
      generalize hMS : F_r_readStep_0 n 0 ba tok a b num lt wd (nI sN) T g w = MS at hM
      have htp : 0 < tok.toInt := by
        rcases hT.2.2.2.1 with c | c | c | c | c
        · exact absurd c ht
        all_goals (rw [c]; decide)
      by_cases ce : F_r_isEnd tok wd = 0
      · rcases q_step_0 (fp := fp) (ba := ba) hn hNm tok a b num lt cs cn wd cl sN g C MS hs hm hT ce ht hG hMS with ⟨sN2, g2, tok2, a2, b2, num2, lt2, wd2, cs2, cn2, cl2, e, hs2, hlb, hT2, hg2, hG2⟩ | ⟨fl, p, hbd, e1, e2, e3⟩
        · subst e
          have hme := q_me (f2 := f2) hT2 hlb htp hn9 h1
          exact ih sN2 g0 g2 tok2 a2 b2 num2 lt2 cs2 cn2 wd2 cl2 C M hme hs2 (by rw [hm]; exact (hg2 0 (by omega)).symm) (qFq_t hfr hg2) hT2 hG2 hM
        · rw [e1, e2, q_ruleE hbd.1 (by omega)] at hM
          exact Or.inr ⟨fl, p, _, _, _, _, _, _, _, _, hbd, hM.symm, qFq_t hfr e3⟩
      · have hte := q_ew ce
        have hwd : wd = 5572 := by
          rw [qr_end, hte, qw_y] at ce
          by_cases cw : wd = 5572
          · exact cw
          · rw [if_neg cw] at ce; exact absurd rfl ce
        have hw0 : F_r_isWhen tok wd = 0 := by rw [qr_when, hte, qw_y, hwd]; decide +kernel
        have hl0 : F_r_isLoop tok wd = 0 := by rw [qr_loop, hte, qw_y, hwd]; decide +kernel
        have hp0 : ¬ 0 ≤ F_r_plainStep tok wd := by rw [hte, hwd]; decide +kernel
        obtain ⟨B, K, F, Cc, N, P, ln, as, hL⟩ := q_line hn hT ht hG
        generalize hCS : F_Ru_readStep (nI 0) hf fn n tok a b cn cs cl 0 fp T B ln (nI sN) as K F Cc N P = CS at hL
        obtain ⟨hL1, hL2⟩ := hL CS rfl
        rw [F_Ru_readStep_s] at hCS
        have hd1 : ¬ (0 : Int32) < nI 0 := by decide +kernel
        simp only [qi_30 hn9 hT, ce, F_Ru_readEnd_s, hd1, q_refuse, ↓reduceIte] at hCS
        rw [F_r_readStep_0_s] at hMS
        simp only [hw0, hl0, hp0, q_wrong, ↓reduceIte] at hMS
        have h2p : 0 < (qF tok 2).toInt := qF_p (by decide +kernel)
        subst hCS
        subst hMS
        simp only [q_ruleE h2p (show 0 < f2 by omega)] at hM
        exact Or.inr ⟨_, a, _, _, _, _, _, _, _, _, hL2 _ a rfl rfl h2p, hM.symm, hfr⟩
abbrev qUC : Type := Int32 × Int32 × Int32 × Int32 × Int32 × (Nat → Int32) × (Nat → Int32) × (Nat → Int32) × (Nat → Int32) × (Nat → Int32) × Int32 × Int32 × Int32 × Int32 × Int32 × Int32 × Int32 × Int64 × Int32 × Int32 × Int32 × (Nat → Int32) × Int32 × Int32 × Int32 × (Nat → Int32) × (Nat → Int32) × (Nat → Int32) × (Nat → Int32) × (Nat → Int32)
theorem q_rule {h_features : Int32} {c_h_featureNames : Nat → Int64} {r_lines : Int32} {r_steps : Int32} {r_asksSure : Int32} {c_r_kinds : Nat → Int32} {c_r_features : Nat → Int32} {c_r_compares : Nat → Int32} {c_r_numbers : Nat → Int32} {c_r_partners : Nat → Int32} {fed : Int32} {t_length : Int32} {t_kind : Int32} {t_start : Int32} {t_end : Int32} {t_number : Int32} {t_sign : Int32} {t_letters : Int64} {t_fault : Int32} {t_faultPlace : Int32} {T : Nat → Int32} {rr_depth : Int32} {c_rr_b : Nat → Int32} {rf_lines : Int32} {rf_steps : Int32} {rf_asksSure : Int32} {c_rf_kinds : Nat → Int32} {c_rf_features : Nat → Int32} {c_rf_compares : Nat → Int32} {c_rf_numbers : Nat → Int32} {c_rf_partners : Nat → Int32} {k1 : Int32} {st : Nat → Int32} {mEnd mFk mFa mBad mBa mTok mAt mBe mNu mLe mNs : Int32} {mWo : Int64} {g : Nat → Int32} {w : Nat → Int64} {C : qUC} {M : qNM} (h0 : 0 ≤ fed.toInt) (h9 : fed.toInt ≤ 900) (hH : qFt 0 0 h_features st c_h_featureNames g w) (hC : F_X_rule h_features c_h_featureNames r_lines r_steps r_asksSure c_r_kinds c_r_features c_r_compares c_r_numbers c_r_partners fed t_length t_kind t_start t_end t_number t_sign t_letters t_fault t_faultPlace T rr_depth c_rr_b rf_lines rf_steps rf_asksSure c_rf_kinds c_rf_features c_rf_compares c_rf_numbers c_rf_partners k1 = C) (hM : F_r_rule fed mEnd mFk mFa mBad mBa mTok mAt mBe mNu mLe mWo mNs T g w k1 = M) : C.1 = M.1 ∧ C.2.2.2.2.2.2.2.2.2.2.1 = M.2.2.2.1 ∧ (0 ≤ M.2.2.2.1.toInt ∧ M.2.2.2.1.toInt ≤ 900) ∧ ((C.2.2.2.2.2.2.2.2.2.2.2.2.2.2.2.2.2.2.1 = t_fault ∧ C.2.2.2.2.2.2.2.2.2.2.2.2.2.2.2.2.2.2.2.1 = t_faultPlace ∧ M.2.2.2.2.2.2.2.2.2.2.2.2.1 = mFk ∧ M.2.2.2.2.2.2.2.2.2.2.2.2.2.1 = mFa) ∨ (C.2.2.2.2.2.2.2.2.2.2.2.2.2.2.2.2.2.2.1 = M.2.2.2.2.2.2.2.2.2.2.2.2.1 ∧ C.2.2.2.2.2.2.2.2.2.2.2.2.2.2.2.2.2.2.2.1 = M.2.2.2.2.2.2.2.2.2.2.2.2.2.1)) ∧ qFy g M.2.2.2.2.2.2.2.2.2.2.2.2.2.2.2.2 := by
  have h00 : 0 ≤ (0 : Int32).toInt ∧ (0 : Int32).toInt ≤ 900 := by decide +kernel
  obtain ⟨hh1, hh2, hh3, hh4⟩ := hH
  have hNm : qNm h_features 3 c_h_featureNames w 0 := ⟨hh2, hh3, fun j hj => (hh4 j hj).2.2.2⟩
  rw [F_X_rule_s] at hC
  rw [F_r_rule_s] at hM
  by_cases c0 : k1 < 0
  · simp only [c0, ↓reduceIte] at hC
    simp only [F_r_begins_s, F_r_no_s, c0, ↓reduceIte] at hM
    subst hC
    subst hM
    exact ⟨rfl, rfl, ⟨h0, h9⟩, Or.inl ⟨rfl, rfl, rfl, rfl⟩, fun _ _ _ => rfl⟩
  · by_cases c1 : fed < k1
    · simp only [c0, c1, ↓reduceIte] at hC
      simp only [F_r_begins_s, F_r_no_s, c0, c1, ↓reduceIte] at hM
      subst hC
      subst hM
      exact ⟨rfl, rfl, ⟨h0, h9⟩, Or.inl ⟨rfl, rfl, rfl, rfl⟩, fun _ _ _ => rfl⟩
    · by_cases c3 : k1 ≤ 300
      · have hk0 := q_nlt.mp c0
        rw [q0] at hk0
        have hk3 := q_le.mp c3
        rw [show (300 : Int32).toInt = 300 by decide +kernel] at hk3
        obtain ⟨tok1, a1, b1, num1, lt1, wd1, cs1, cn1, cl1, f1, f2, f3, f4⟩ := q_ad (T := T) (v := 0) (show k1.toInt ≤ 900 by omega) (by rw [q0]; omega) (by rw [q0]; exact hk0) t_number t_sign t_letters mNu mLe mWo
        simp only [c0, c1, c3, F_Te_begin_s, f1, ↓reduceIte] at hC
        simp only [F_r_begins_s, c0, c1, c3, f2, q_n1, ↓reduceIte] at hM
        generalize hCA : F_Ru_readAll h_features c_h_featureNames k1 tok1 a1 b1 cn1 cs1 cl1 0 (-1) T c_rr_b c_rf_kinds c_rf_features c_rf_compares c_rf_numbers c_rf_partners = CA at hC
        have hGo : qGo h_features c_h_featureNames k1 T 0 tok1 a1 b1 cn1 cs1 cl1 (-1) (nI 0) CA := by
          rw [F_Ru_readAll_s] at hCA
          simp only [F_Ru_clear_s] at hCA
          exact ⟨_, 0, _, _, _, _, _, _, _, _, by show (2147483647 - (0 : Int32).toInt).toNat < _; exact Nat.lt_succ_self _, by have := f4.1; omega, hCA⟩
        rcases q_ruleL (n1 := 0) (n2 := 0) (ba := mBa) hk3 hNm _ 0 g g tok1 a1 b1 num1 lt1 cs1 cn1 wd1 cl1 CA M (by rw [q0]; omega) (by omega) hh1 qFq_r f4 hGo hM with ⟨sN, g2, ba2, a2, b2, num2, lt2, wd2, r0, r1, r2, r3, r4, r5, r6⟩ | ⟨fl, p, tok2, a2, b2, num2, lt2, wd2, s2, g2, ⟨r0, r1, r2, r3⟩, r4, r5⟩
        · subst r5
          simp only [r1, q_n1, F_Ru_copy_s, ↓reduceIte] at hC
          subst hC
          exact ⟨r4, rfl, h00, Or.inr ⟨r2, r3⟩, r6⟩
        · subst r4
          simp only [r1, ↓reduceIte] at hC
          subst hC
          exact ⟨rfl, rfl, h00, Or.inr ⟨r2, r3⟩, fun j _ h2 => r5 j h2⟩
      · simp only [c0, c1, c3, ↓reduceIte] at hC
        simp only [F_r_begins_s, F_r_no_s, c0, c1, c3, ↓reduceIte] at hM
        subst hC
        subst hM
        exact ⟨rfl, rfl, ⟨h0, h9⟩, Or.inl ⟨rfl, rfl, rfl, rfl⟩, fun _ _ _ => rfl⟩
