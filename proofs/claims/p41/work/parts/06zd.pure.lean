abbrev qLC : Type := Int32 × Int32 × Int32 × Int32 × Int32 × Int32 × Int32 × Int64 × Int32 × Int32 × (Nat → Int32) × Int32 × Int32 × Int32 × (Nat → Int32) × (Nat → Int32) × (Nat → Int32) × (Nat → Int32) × (Nat → Int32)
abbrev qLS : Type := Int32 × Int32 × Int32 × Int32 × Int32 × Int32 × Int64 × Int32 × Int32 × Int32 × Int32 × Int32 × (Nat → Int32) × (Nat → Int32) × (Nat → Int32) × (Nat → Int32) × Int32 × (Nat → Int32) × (Nat → Int32)
def qGo (hf : Int32) (fn : Nat → Int64) (n : Int32) (T : Nat → Int32) (d : Nat) (tok a b cn cs : Int32) (cl : Int64) (fp s : Int32) (C : qLC) : Prop := ∃ (f1 i : Nat) (B K F Cc N P : Nat → Int32) (ln as : Int32), (2147483647 - (nI i).toInt).toNat < f1 ∧ (i : Int) ≤ a.toInt ∧ F_Ru_readAll_L14a hf fn n T f1 (nI i) (nI d) tok a b cn cs cl 0 fp B K F Cc N P ln s as = C
def qBd (C : qLC) (fl p : Int32) : Prop := 0 < fl.toInt ∧ C.1 = 0 ∧ C.2.2.2.2.2.2.2.2.1 = fl ∧ C.2.2.2.2.2.2.2.2.2.1 = p
theorem q_line {hf n tok a b num lt cs cn fp s : Int32} {wd cl : Int64} {fn : Nat → Int64} {T : Nat → Int32} {d : Nat} {C : qLC} (hn : n.toInt ≤ 300) (hT : qTk n T tok a b num lt wd cs cn cl) (h0 : ¬ tok = 0) (hG : qGo hf fn n T d tok a b cn cs cl fp s C) : ∃ (B K F Cc N P : Nat → Int32) (ln as : Int32), ∀ CS : qLS, F_Ru_readStep (nI d) hf fn n tok a b cn cs cl 0 fp T B ln s as K F Cc N P = CS → (∀ (r2 tok2 a2 b2 cn2 cs2 : Int32) (cl2 : Int64) (fp2 ln2 s2 as2 : Int32) (K2 F2 C2 N2 : Nat → Int32) (d2 : Nat) (B2 P2 : Nat → Int32), CS = (r2, tok2, a2, b2, cn2, cs2, cl2, 0, fp2, ln2, s2, as2, K2, F2, C2, N2, nI d2, B2, P2) → a.toInt < a2.toInt → qGo hf fn n T d2 tok2 a2 b2 cn2 cs2 cl2 fp2 s2 C) ∧ ∀ fl p : Int32, CS.2.2.2.2.2.2.2.1 = fl → CS.2.2.2.2.2.2.2.2.1 = p → 0 < fl.toInt → qBd C fl p := by
  obtain ⟨f1, i, B, K, F, Cc, N, P, ln, as, h1, h2, h3⟩ := hG
  refine ⟨B, K, F, Cc, N, P, ln, as, fun CS hCS => ?_⟩
  have hab := hT.2.2.2.2.2.1 h0
  have hb := q_tkb hT
  have ei : (nI i).toInt = (i : Int) := nI_toInt (by omega)
  have ei1 : (nI (i + 1)).toInt = ((i + 1 : Nat) : Int) := nI_toInt (by omega)
  have c300 : ¬ (300 : Int32) ≤ nI i := by rw [q_nle, ei, show (300 : Int32).toInt = 300 by decide +kernel]; omega
  cases f1 with
  | zero => exact absurd h1 (Nat.not_lt_zero _)
  | succ f1 =>
    rw [F_Ru_readAll_L14a_s] at h3
    simp only [c300, F_Te_goesOn_s, h0, q_n1, hCS, qnI_s i, ↓reduceIte] at h3
    refine ⟨fun r2 tok2 a2 b2 cn2 cs2 cl2 fp2 ln2 s2 as2 K2 F2 C2 N2 d2 B2 P2 e ha => ?_, fun fl p e1 e2 hfl => ?_⟩
    · subst e
      exact ⟨f1, i + 1, _, _, _, _, _, _, _, _, by omega, by omega, h3⟩
    · cases f1 with
      | zero => exact absurd h1 (by omega)
      | succ f1 =>
        rw [F_Ru_readAll_L14a_s] at h3
        simp only [e1, e2, q_ne0 hfl, F_Te_goesOn_s, ite_self, ↓reduceIte] at h3
        subst h3
        exact ⟨hfl, rfl, rfl, rfl⟩
theorem q_over {hf n a b cs cn fp s : Int32} {cl : Int64} {fn : Nat → Int64} {T : Nat → Int32} {d : Nat} {C : qLC} (hd : d ≤ 3) (hG : qGo hf fn n T d 0 a b cn cs cl fp s C) : (0 < d → qBd C 2 a) ∧ (d = 0 → C.1 = 1 ∧ C.2.2.2.2.2.2.2.2.1 = 0 ∧ C.2.2.2.2.2.2.2.2.2.1 = fp ∧ C.2.2.2.2.2.2.2.2.2.2.2.2.1 = s) := by
  obtain ⟨f1, i, B, K, F, Cc, N, P, ln, as, h1, h2, h3⟩ := hG
  have ed : (nI d).toInt = (d : Int) := nI_toInt (by omega)
  cases f1 with
  | zero => exact absurd h1 (Nat.not_lt_zero _)
  | succ f1 =>
    rw [F_Ru_readAll_L14a_s] at h3
    have h2' : ∀ x : Int32, F_Te_refuse 0 a 0 x 2 = (0, 2, a) := fun x => by rw [q_refuse]; rfl
    simp only [F_Te_goesOn_s, h2', ite_self, ↓reduceIte] at h3
    refine ⟨fun h => ?_, fun h => ?_⟩
    · have c : ¬ nI d ≤ 0 := by rw [q_nle, ed, q0]; omega
      simp only [c, ↓reduceIte] at h3
      subst h3
      exact ⟨by decide +kernel, rfl, rfl, rfl⟩
    · have c : nI d ≤ 0 := by rw [q_le, ed, q0]; omega
      simp only [c, ↓reduceIte] at h3
      subst h3
      exact ⟨rfl, rfl, rfl, rfl⟩
def qSt (hf : Int32) (fn : Nat → Int64) (n : Int32) (T : Nat → Int32) (k : Nat) (fp ba lb : Int32) (g : Nat → Int32) (C : qLC) (M : qSM) : Prop := (∃ (sN2 : Nat) (g2 : Nat → Int32) (tok2 a2 b2 num2 lt2 : Int32) (wd2 : Int64) (cs2 cn2 : Int32) (cl2 : Int64), M = (0, ba, tok2, a2, b2, num2, lt2, wd2, nI sN2, g2) ∧ sN2 ≤ 30 ∧ lb.toInt ≤ a2.toInt ∧ qTk n T tok2 a2 b2 num2 lt2 wd2 cs2 cn2 cl2 ∧ qFq g g2 ∧ qGo hf fn n T k tok2 a2 b2 cn2 cs2 cl2 fp (nI sN2) C) ∨ (∃ fl p : Int32, qBd C fl p ∧ M.1 = fl ∧ M.2.1 = p ∧ qFq g M.2.2.2.2.2.2.2.2.2)
theorem qSt_m {hf : Int32} {fn : Nat → Int64} {n : Int32} {T : Nat → Int32} {k : Nat} {fp ba lb lb2 : Int32} {g g2 : Nat → Int32} {C : qLC} {M : qSM} (h : lb.toInt ≤ lb2.toInt) (hg : qFq g g2) (q : qSt hf fn n T k fp ba lb2 g2 C M) : qSt hf fn n T k fp ba lb g C M := by
  rcases q with ⟨x1, x2, x3, x4, x5, x6, x7, x8, x9, x10, x11, y1, y2, y3, y4, y5, y6⟩ | ⟨x1, x2, y1, y2, y3, y4⟩
  · exact Or.inl ⟨x1, x2, x3, x4, x5, x6, x7, x8, x9, x10, x11, y1, y2, by omega, y4, qFq_t hg y5, y6⟩
  · exact Or.inr ⟨x1, x2, y1, y2, y3, qFq_t hg y4⟩
theorem q_lw {tok : Int32} {wd : Int64} (h : ¬ F_r_isLoop tok wd = 0) : F_r_isWhen tok wd = 0 ∧ F_r_isEnd tok wd = 0 ∧ tok = 1 := by
  rw [qr_loop] at h
  by_cases ct : tok = 1
  · rw [qr_when, qr_end, ct, qw_y, qw_y]
    rw [ct, qw_y] at h
    by_cases cw : wd = 409072
    · rw [cw]
      exact ⟨by decide +kernel, by decide +kernel, rfl⟩
    · rw [if_neg cw] at h; exact absurd rfl h
  · rw [qw_n ct] at h; exact absurd rfl h
theorem q_ww {tok : Int32} {wd : Int64} (h : ¬ F_r_isWhen tok wd = 0) : F_r_isLoop tok wd = 0 ∧ F_r_isEnd tok wd = 0 ∧ tok = 1 := by
  rw [qr_when] at h
  by_cases ct : tok = 1
  · rw [qr_loop, qr_end, ct, qw_y, qw_y]
    rw [ct, qw_y] at h
    by_cases cw : wd = 762030
    · rw [cw]
      exact ⟨by decide +kernel, by decide +kernel, rfl⟩
    · rw [if_neg cw] at h; exact absurd rfl h
  · rw [qw_n ct] at h; exact absurd rfl h
theorem q_ew {tok : Int32} {wd : Int64} (h : ¬ F_r_isEnd tok wd = 0) : tok = 1 := by
  rw [qr_end] at h
  by_cases ct : tok = 1
  · exact ct
  · rw [qw_n ct] at h; exact absurd rfl h
theorem q_xN {sN : Nat} (h : sN ≤ 30) : (1641 : Int32) + 6 * nI sN = nI (1641 + 6 * sN) := by
  show nI 1641 + nI 6 * nI sN = _
  rw [qnI_mul, nI_add]
theorem q_xc {x m : Nat} (h : x < 2000) (hm : m < 10) : (nI x + nI m).toNatClampNeg = x + m := by rw [nI_add, qnI_cl (by omega)]
theorem q_pk {tok : Int32} {wd : Int64} (h : 0 ≤ F_r_plainStep tok wd) : tok = 1 := by
  by_cases ct : tok = 1
  · exact ct
  · rw [F_r_plainStep_s, qh_n ct, qr_turn, qr_stop, qw_n ct, qw_n ct] at h
    exact absurd h (by decide)
theorem q_s30 {sN : Nat} (h : sN ≤ 30) : (nI sN < 30 ↔ sN < 30) ∧ (nI sN = 30 ↔ sN = 30) := by
  have e : (nI sN).toInt = (sN : Int) := nI_toInt (by omega)
  have q30 : (30 : Int32).toInt = 30 := by decide +kernel
  refine ⟨by rw [q_lt, e, q30]; omega, by rw [q_eq, e, q30]; omega⟩
theorem q_C201_3 {n : Int32} {T : Nat → Int32} {kind : Int32} {x : Nat} (hx : x < 2000) (bad ba tok a b num lt : Int32) (wd : Int64) (s1 : Int32) (g : Nat → Int32) : F_r_readStep_3_C201 n T kind (nI x) bad ba tok a b num lt wd s1 g = ((qMs n bad ba tok a b num lt wd T).1, (qMs n bad ba tok a b num lt wd T).2.1, (qMs n bad ba tok a b num lt wd T).2.2.1, (qMs n bad ba tok a b num lt wd T).2.2.2.1, (qMs n bad ba tok a b num lt wd T).2.2.2.2.1, (qMs n bad ba tok a b num lt wd T).2.2.2.2.2.1, (qMs n bad ba tok a b num lt wd T).2.2.2.2.2.2.1, (qMs n bad ba tok a b num lt wd T).2.2.2.2.2.2.2, s1, upd g (x + 4) s1) := by
  have x4 : (nI x + 4).toNatClampNeg = x + 4 := q_xc (m := 4) hx (by omega)
  rw [F_r_readStep_3_C201_s]
  unfold qMs
  by_cases c : F_r_isSign tok num 59 = 0
  · simp only [c, F_r_readStep_3_L211a_s, F_r_readStep_3_C239_s, x4, ↓reduceIte]
  · simp only [c, F_r_readStep_3_L211b_s, F_r_readStep_3_C239_s, x4, ↓reduceIte]
theorem q_step_3 {hf n fp ba : Int32} {T : Nat → Int32} {fn w : Nat → Int64} (hn : n.toInt ≤ 300) (hNm : qNm hf 3 fn w 0) (tok a b num lt cs cn : Int32) (wd cl : Int64) (sN : Nat) (g : Nat → Int32) (C : qLC) (M : qSM) (hs : sN ≤ 30) (hm : hf = g 0) (hT : qTk n T tok a b num lt wd cs cn cl) (ce : F_r_isEnd tok wd = 0) (h0 : ¬ tok = 0) (hG : qGo hf fn n T 3 tok a b cn cs cl fp (nI sN) C) (hM : F_r_readStep_3 n 0 ba tok a b num lt wd (nI sN) T g w = M) : qSt hf fn n T 3 fp ba b g C M := by
  have hn9 : n.toInt ≤ 900 := by omega
  have hb := q_tkb hT
  have hab := hT.2.2.2.2.2.1 h0
  obtain ⟨B, K, F, Cc, N, P, ln, as, hL⟩ := q_line hn hT h0 hG
  generalize hCS : F_Ru_readStep (nI 3) hf fn n tok a b cn cs cl 0 fp T B ln (nI sN) as K F Cc N P = CS at hL
  obtain ⟨hL1, hL2⟩ := hL CS rfl
  rw [F_Ru_readStep_s] at hCS
  rw [F_r_readStep_3_s] at hM
  simp only [qi_30 hn9 hT, qi_31 hn9 hT, qi_32 hn9 hT, q_plainK hn9 hT, ce, ↓reduceIte] at hCS
  by_cases cw : F_r_isWhen tok wd = 0
  · by_cases cl' : F_r_isLoop tok wd = 0
    · simp only [cw, cl', ↓reduceIte] at hCS hM
      by_cases cp : 0 ≤ F_r_plainStep tok wd
      · have ht := q_pk cp
        have cp1 : ¬ F_r_plainStep tok wd = -1 := fun h9 => by rw [h9] at cp; exact absurd cp (by decide)
        simp only [cp1, ↓reduceIte] at hCS
        simp only [cp, ↓reduceIte] at hM
        by_cases c30 : sN = 30
        · have d1 : ¬ nI sN < 30 := fun h9 => by have := (q_s30 hs).1.mp h9; omega
          have d2 := (q_s30 hs).2.mpr c30
          simp only [d1, q_refuse, ↓reduceIte] at hCS
          simp only [d2, q_fail, ↓reduceIte] at hM
          rw [qF_4 (by rw [ht]; decide)] at hCS
          subst hCS
          subst hM
          exact Or.inr ⟨6, a, hL2 6 a rfl rfl q_6p, rfl, rfl, qFq_r⟩
        · have d1 : nI sN < 30 := (q_s30 hs).1.mpr (by omega)
          have d2 : ¬ nI sN = 30 := fun h9 => c30 ((q_s30 hs).2.mp h9)
          obtain ⟨tok3, a3, b3, num3, lt3, wd3, cs3, cn3, cl3, g1, g2', g3, g4⟩ := q_ad (T := T) hn9 hb.1 hb.2 cn cs cl num lt wd
          have x0 : (nI (1641 + 6 * sN)).toNatClampNeg = 1641 + 6 * sN := qnI_cl (by omega)
          have x1 : (nI (1641 + 6 * sN) + 1).toNatClampNeg = 1641 + 6 * sN + 1 := q_xc (m := 1) (by omega) (by omega)
          simp only [d1, g1, F_Ru_readPlain_s, ↓reduceIte] at hCS
          simp only [d2, F_r_readStep_3_C97_s, cw, q_xN hs, qnI_s sN, g2', x0, x1, ↓reduceIte] at hM
          have hk10 : ¬ F_r_plainStep tok wd = 10 := fun h9 => by
            rw [F_r_plainStep_s] at h9
            revert h9
            simp only []
            repeat' split
            all_goals decide
          by_cases ck : F_r_plainStep tok wd = 0
          · have hm' : hf = upd g (1641 + 6 * sN) (F_r_plainStep tok wd) 0 := by rw [hm]; exact (if_neg (by omega)).symm
            simp only [ck, ↓reduceIte] at hCS
            rw [if_pos ck] at hM
            rcases q_feat (fp := fp) (ba := ba) hn9 hNm hm' g4 with ⟨r, tok4, a4, b4, num4, lt4, wd4, cs4, cn4, cl4, k1, k2, k3, k4', k4⟩ | ⟨fl, r, k0, k1, k2⟩
            · obtain ⟨l1, l2, l3, l4, l5, l6, l7⟩ := q_add1 (ln := ln) (s := nI sN) (as := as) (K := K) (F := F) (Cc := Cc) (N := N) (k := 0) (j := r) (i1 := 0) (i2 := 0) (by decide)
              simp only [k1, q_m1 k3, l7, qnI_s sN, ↓reduceIte] at hCS
              simp only [k2, q_C201_3 (show 1641 + 6 * sN < 2000 by omega)] at hM
              rcases q_ms (fp := fp) (ba := ba) hn9 k4 with ⟨tok6, a6, b6, num6, lt6, wd6, cs6, cn6, cl6, i1, i2, i3, i4, i5⟩ | ⟨fl, i0, i1, i2⟩
              · rw [i1] at hCS
                simp only [i2] at hM
                subst hCS
                subst hM
                exact Or.inl ⟨sN + 1, _, tok6, a6, b6, num6, lt6, wd6, cs6, cn6, cl6, rfl, by omega, by omega, i5, qFq_u (qFq_u (qFq_u qFq_r (by omega)) (by omega)) (by omega), hL1 _ _ _ _ _ _ _ _ _ _ _ _ _ _ _ 3 _ _ rfl (by omega)⟩
              · rw [i1] at hCS
                simp only [i2] at hM
                subst hCS
                subst hM
                exact Or.inr ⟨fl, a4, hL2 fl a4 rfl rfl i0, rfl, rfl, qFq_u (qFq_u (qFq_u qFq_r (by omega)) (by omega)) (by omega)⟩
            · simp only [k1, ↓reduceIte] at hCS
              simp only [k2, q_C201_3 (show 1641 + 6 * sN < 2000 by omega)] at hM
              subst hCS
              subst hM
              exact Or.inr ⟨fl, a3, hL2 fl a3 rfl rfl k0, (q_msN k0 ..).1, (q_msN k0 ..).2, qFq_u (qFq_u (qFq_u qFq_r (by omega)) (by omega)) (by omega)⟩
          · obtain ⟨l1, l2, l3, l4, l5, l6, l7⟩ := q_add1 (ln := ln) (s := nI sN) (as := as) (K := K) (F := F) (Cc := Cc) (N := N) (k := F_r_plainStep tok wd) (j := -1) (i1 := 0) (i2 := 0) hk10
            have k4 := g4
            simp only [ck, l7, qnI_s sN, ↓reduceIte] at hCS
            simp only [ck, q_C201_3 (show 1641 + 6 * sN < 2000 by omega), ↓reduceIte] at hM
            rcases q_ms (fp := fp) (ba := ba) hn9 k4 with ⟨tok6, a6, b6, num6, lt6, wd6, cs6, cn6, cl6, i1, i2, i3, i4, i5⟩ | ⟨fl, i0, i1, i2⟩
            · rw [i1] at hCS
              simp only [i2] at hM
              subst hCS
              subst hM
              exact Or.inl ⟨sN + 1, _, tok6, a6, b6, num6, lt6, wd6, cs6, cn6, cl6, rfl, by omega, by omega, i5, qFq_u (qFq_u qFq_r (by omega)) (by omega), hL1 _ _ _ _ _ _ _ _ _ _ _ _ _ _ _ 3 _ _ rfl (by omega)⟩
            · rw [i1] at hCS
              simp only [i2] at hM
              subst hCS
              subst hM
              exact Or.inr ⟨fl, a3, hL2 fl a3 rfl rfl i0, rfl, rfl, qFq_u (qFq_u qFq_r (by omega)) (by omega)⟩
      · have cp1 : F_r_plainStep tok wd = -1 := by
          rw [F_r_plainStep_s] at cp ⊢
          revert cp
          simp only []
          repeat' split
          all_goals first | (intro _; rfl) | (intro h9; exact absurd (by decide) h9)
        have h2p : 0 < (qF tok 2).toInt := qF_p (by decide +kernel)
        simp only [cp1, q_refuse, ↓reduceIte] at hCS
        simp only [cp, q_wrong, ↓reduceIte] at hM
        subst hCS
        subst hM
        exact Or.inr ⟨_, a, hL2 _ a rfl rfl h2p, rfl, rfl, qFq_r⟩
    · obtain ⟨hwn, -, ht⟩ := q_lw cl'
      simp only [cw, cl', ↓reduceIte] at hCS hM
      have e3 : ¬ nI 3 < 3 := by decide +kernel
      by_cases c30 : sN = 30
      · have d1 : ¬ nI sN < 30 := fun h9 => by have := (q_s30 hs).1.mp h9; omega
        have d2 := (q_s30 hs).2.mpr c30
        simp only [d1, q_refuse, ↓reduceIte] at hCS
        simp only [d2, q_fail, ↓reduceIte] at hM
        rw [qF_4 (by rw [ht]; decide)] at hCS
        subst hCS
        subst hM
        exact Or.inr ⟨6, a, hL2 6 a rfl rfl q_6p, rfl, rfl, qFq_r⟩
      · have d1 : nI sN < 30 := (q_s30 hs).1.mpr (by omega)
        have d2 : ¬ nI sN = 30 := fun h9 => c30 ((q_s30 hs).2.mp h9)
        simp only [d1, e3, q_refuse, ↓reduceIte] at hCS
        simp only [d2, q_fail, ↓reduceIte] at hM
        rw [qF_4 (by rw [ht]; decide)] at hCS
        subst hCS
        subst hM
        exact Or.inr ⟨7, a, hL2 7 a rfl rfl q_7p, rfl, rfl, qFq_r⟩
  · obtain ⟨hl0, -, ht⟩ := q_ww cw
    have hwn := cw
    simp only [cw, hl0, ↓reduceIte] at hCS hM
    · have e3 : ¬ nI 3 < 3 := by decide +kernel
      by_cases c30 : sN = 30
      · have d1 : ¬ nI sN < 30 := fun h9 => by have := (q_s30 hs).1.mp h9; omega
        have d2 := (q_s30 hs).2.mpr c30
        simp only [d1, q_refuse, ↓reduceIte] at hCS
        simp only [d2, q_fail, ↓reduceIte] at hM
        rw [qF_4 (by rw [ht]; decide)] at hCS
        subst hCS
        subst hM
        exact Or.inr ⟨6, a, hL2 6 a rfl rfl q_6p, rfl, rfl, qFq_r⟩
      · have d1 : nI sN < 30 := (q_s30 hs).1.mpr (by omega)
        have d2 : ¬ nI sN = 30 := fun h9 => c30 ((q_s30 hs).2.mp h9)
        simp only [d1, e3, q_refuse, ↓reduceIte] at hCS
        simp only [d2, q_fail, ↓reduceIte] at hM
        rw [qF_4 (by rw [ht]; decide)] at hCS
        subst hCS
        subst hM
        exact Or.inr ⟨7, a, hL2 7 a rfl rfl q_7p, rfl, rfl, qFq_r⟩
theorem q_C201_2 {n : Int32} {T : Nat → Int32} {w : Nat → Int64} {kind : Int32} {x : Nat} (hx : x < 2000) (bad ba tok a b num lt : Int32) (wd : Int64) (s1 : Int32) (g : Nat → Int32) : F_r_readStep_2_C201 n T w 0 kind (nI x) bad ba tok a b num lt wd s1 g = ((qMs n bad ba tok a b num lt wd T).1, (qMs n bad ba tok a b num lt wd T).2.1, (qMs n bad ba tok a b num lt wd T).2.2.1, (qMs n bad ba tok a b num lt wd T).2.2.2.1, (qMs n bad ba tok a b num lt wd T).2.2.2.2.1, (qMs n bad ba tok a b num lt wd T).2.2.2.2.2.1, (qMs n bad ba tok a b num lt wd T).2.2.2.2.2.2.1, (qMs n bad ba tok a b num lt wd T).2.2.2.2.2.2.2, s1, upd g (x + 4) s1) := by
  have x4 : (nI x + 4).toNatClampNeg = x + 4 := q_xc (m := 4) hx (by omega)
  rw [F_r_readStep_2_C201_s]
  unfold qMs
  by_cases c : F_r_isSign tok num 59 = 0
  · simp only [c, F_r_readStep_2_L211a_s, F_r_readStep_2_C239_s, x4, ↓reduceIte]
  · simp only [c, F_r_readStep_2_L211b_s, F_r_readStep_2_C239_s, x4, ↓reduceIte]
theorem q_C239N_2 {n : Int32} {T : Nat → Int32} {kind : Int32} {x : Nat} {bad : Int32} (h : 0 < bad.toInt) (hx0 : 1641 ≤ x) (hx : x < 2000) (ba tok a b num lt : Int32) (wd : Int64) (s1 : Int32) (g : Nat → Int32) : (F_r_readStep_2_C239 n T 1 kind (nI x) bad ba tok a b num lt wd s1 g).1 = bad ∧ (F_r_readStep_2_C239 n T 1 kind (nI x) bad ba tok a b num lt wd s1 g).2.1 = ba ∧ qFq g (F_r_readStep_2_C239 n T 1 kind (nI x) bad ba tok a b num lt wd s1 g).2.2.2.2.2.2.2.2.2 := by
  have x4 : (nI x + 4).toNatClampNeg = x + 4 := q_xc (m := 4) hx (by omega)
  rw [F_r_readStep_2_C239_s]
  by_cases c : F_r_isEnd tok wd = 0
  · by_cases d : F_r_isSign tok num 59 = 0
    · simp only [c, d, q_n1, q_must0N h, q_must1N h, x4, ↓reduceIte]
      exact ⟨by first | trivial | rfl, by first | trivial | rfl, qFq_u qFq_r (by omega)⟩
    · simp only [c, d, q_n1, q_must0N h, q_must1N h, x4, ↓reduceIte]
      exact ⟨by first | trivial | rfl, by first | trivial | rfl, qFq_u qFq_r (by omega)⟩
  · by_cases d : F_r_isSign tok num 59 = 0
    · simp only [c, d, q_n1, q_must0N h, q_must1N h, x4, ↓reduceIte]
      exact ⟨by first | trivial | rfl, by first | trivial | rfl, qFq_u qFq_r (by omega)⟩
    · simp only [c, d, q_n1, q_must0N h, q_must1N h, x4, ↓reduceIte]
      exact ⟨by first | trivial | rfl, by first | trivial | rfl, qFq_u qFq_r (by omega)⟩
theorem q_L211N_2 {n : Int32} {T : Nat → Int32} {w : Nat → Int64} {kind : Int32} {x : Nat} {bad : Int32} (h : 0 < bad.toInt) (hx0 : 1641 ≤ x) (hx : x < 2000) (f : Nat) (hf : 0 < f) (ba tok a b num lt : Int32) (wd : Int64) (s1 : Int32) (g : Nat → Int32) : (F_r_readStep_2_L211b n T w 1 kind (nI x) f g bad ba tok a b num lt wd s1).1 = bad ∧ (F_r_readStep_2_L211b n T w 1 kind (nI x) f g bad ba tok a b num lt wd s1).2.1 = ba ∧ qFq g (F_r_readStep_2_L211b n T w 1 kind (nI x) f g bad ba tok a b num lt wd s1).2.2.2.2.2.2.2.2.2 := by
  cases f with
  | zero => exact absurd hf (Nat.not_lt_zero _)
  | succ f =>
    rw [F_r_readStep_2_L211b_s]
    simp only [q_n1, q_ne0 h, ↓reduceIte]
    exact q_C239N_2 h hx0 hx ba tok a b num lt wd s1 g
theorem q_C201N_2 {n : Int32} {T : Nat → Int32} {w : Nat → Int64} {kind : Int32} {x : Nat} {bad : Int32} (h : 0 < bad.toInt) (hx0 : 1641 ≤ x) (hx : x < 2000) (ba tok a b num lt : Int32) (wd : Int64) (s1 : Int32) (g : Nat → Int32) : (F_r_readStep_2_C201 n T w 1 kind (nI x) bad ba tok a b num lt wd s1 g).1 = bad ∧ (F_r_readStep_2_C201 n T w 1 kind (nI x) bad ba tok a b num lt wd s1 g).2.1 = ba ∧ qFq g (F_r_readStep_2_C201 n T w 1 kind (nI x) bad ba tok a b num lt wd s1 g).2.2.2.2.2.2.2.2.2 := by
  rw [F_r_readStep_2_C201_s]
  by_cases c : F_r_isSign tok num 59 = 0
  · simp only [c, q_must0N h, F_r_readStep_2_L211a_s, ite_self, ↓reduceIte]
    exact q_C239N_2 h hx0 hx ba tok a b num lt wd s1 g
  · simp only [c, q_must1N h, ↓reduceIte]
    exact q_L211N_2 h hx0 hx _ (Nat.succ_pos _) ba tok a b num lt wd s1 g
theorem q_nest_2 {hf n fp ba : Int32} {T : Nat → Int32} {fn w : Nat → Int64} (hn : n.toInt ≤ 300) (hNm : qNm hf 3 fn w 0) {kind : Int32} {x : Nat} (hx0 : 1641 ≤ x) (hx : x < 2000) : ∀ (f2 sN : Nat) (g : Nat → Int32) (tok a b num lt cs cn : Int32) (wd cl : Int64) (C : qLC) (M : qSM), (4600 - 5 * b.toInt + tok.toInt).toNat < f2 → sN ≤ 30 → hf = g 0 → qTk n T tok a b num lt wd cs cn cl → qGo hf fn n T 3 tok a b cn cs cl fp (nI sN) C → F_r_readStep_2_L211b n T w 1 kind (nI x) f2 g 0 ba tok a b num lt wd (nI sN) = M → qSt hf fn n T 2 fp ba a g C M := by
  intro f2
  induction f2 with
  | zero => intro sN g tok a b num lt cs cn wd cl C M h1; exact absurd h1 (Nat.not_lt_zero _)
  | succ f2 ih =>
    intro sN g tok a b num lt cs cn wd cl C M h1 hs hm hT hG hM
    have hn9 : n.toInt ≤ 900 := by omega
    have hb := q_tkb hT
    have hab := hT.2.1
    have x4 : (nI x + 4).toNatClampNeg = x + 4 := q_xc (m := 4) hx (by omega)
    have htk : tok.toInt ≤ 4 ∧ 0 ≤ tok.toInt := by
      rcases hT.2.2.2.1 with c | c | c | c | c <;> rw [c] <;> decide
    rw [F_r_readStep_2_L211b_s] at hM
    by_cases ce : F_r_isEnd tok wd = 0
    · simp only [q_n1, ce, ↓reduceIte] at hM
      by_cases ht : tok = 0
      · subst ht
        have hw0 : F_r_isWhen 0 wd = 0 := by rw [qr_when, qw_n (by decide)]
        have hl0 : F_r_isLoop 0 wd = 0 := by rw [qr_loop, qw_n (by decide)]
        have hp0 : ¬ 0 ≤ F_r_plainStep 0 wd := fun h9 => absurd (q_pk h9) (by decide)
        have h2 : F_r_wrong 0 ba 0 a = (2, a) := by rw [q_wrong]; rfl
        simp only [F_r_readStep_3_s, hw0, hl0, hp0, h2, ↓reduceIte] at hM
        obtain ⟨m1, m2, m3⟩ := q_L211N_2 (n := n) (T := T) (w := w) (kind := kind) (bad := 2) (by decide +kernel) hx0 hx f2 (by omega) a 0 a b num lt wd (nI sN) g
        rw [hM] at m1 m2 m3
        exact Or.inr ⟨2, a, (q_over (by omega) hG).1 (by omega), m1, m2, m3⟩
      · generalize hMS : F_r_readStep_3 n 0 ba tok a b num lt wd (nI sN) T g w = MS at hM
        have hab2 := hT.2.2.2.2.2.1 ht
        have htp : 0 < tok.toInt := by
          rcases hT.2.2.2.1 with c | c | c | c | c
          · exact absurd c ht
          all_goals (rw [c]; decide)
        rcases q_step_3 (fp := fp) (ba := ba) hn hNm tok a b num lt cs cn wd cl sN g C MS hs hm hT ce ht hG hMS with ⟨sN2, g2, tok2, a2, b2, num2, lt2, wd2, cs2, cn2, cl2, e, hs2, hlb, hT2, hg2, hG2⟩ | ⟨fl, p, hbd, e1, e2, e3⟩
        · subst e
          have hme := q_me (f2 := f2) hT2 hlb htp hn9 h1
          exact qSt_m (by omega) hg2 (ih sN2 g2 tok2 a2 b2 num2 lt2 cs2 cn2 wd2 cl2 C M hme hs2 (by rw [hm]; exact (hg2 0 (by omega)).symm) hT2 hG2 hM)
        · have hfl := hbd.1
          rw [e1, e2] at hM
          obtain ⟨m1, m2, m3⟩ := q_L211N_2 (n := n) (T := T) (w := w) (kind := kind) (x := x) hfl hx0 hx f2 (by omega) p MS.2.2.1 MS.2.2.2.1 MS.2.2.2.2.1 MS.2.2.2.2.2.1 MS.2.2.2.2.2.2.1 MS.2.2.2.2.2.2.2.1 MS.2.2.2.2.2.2.2.2.1 MS.2.2.2.2.2.2.2.2.2
          rw [hM] at m1 m2 m3
          exact Or.inr ⟨fl, p, hbd, m1, m2, qFq_t e3 m3⟩
    · have ht := q_ew ce
      have h0 : ¬ tok = 0 := by rw [ht]; decide
      have hab2 := hT.2.2.2.2.2.1 h0
      obtain ⟨tok1, a1, b1, num1, lt1, wd1, cs1, cn1, cl1, f1', f2', f3, f4⟩ := q_ad (T := T) hn9 hb.1 hb.2 cn cs cl num lt wd
      simp only [q_n1, ce, F_r_readStep_2_C239_s, q_must1, f2', x4, ↓reduceIte] at hM
      obtain ⟨B, K, F, Cc, N, P, ln, as, hL⟩ := q_line hn hT h0 hG
      generalize hCS : F_Ru_readStep (nI 3) hf fn n tok a b cn cs cl 0 fp T B ln (nI sN) as K F Cc N P = CS at hL
      obtain ⟨hL1, hL2⟩ := hL CS rfl
      rw [F_Ru_readStep_s] at hCS
      have hd1 : (0 : Int32) < nI 3 := by decide +kernel
      have hd2 : nI 3 - 1 = nI 2 := qnI_sub1 2
      obtain ⟨l1, l2, l3, l4, l5, l6, l7⟩ := q_add0 (ln := ln) (s := nI sN) (as := as) (K := K) (F := F) (Cc := Cc) (N := N) (j := -1) (i1 := 0) (i2 := 0)
      simp only [qi_30 hn9 hT, ce, F_Ru_readEnd_s, hd1, hd2, f1', l7, ↓reduceIte] at hCS
      rcases q_ms (fp := fp) (ba := ba) hn9 f4 with ⟨tok6, a6, b6, num6, lt6, wd6, cs6, cn6, cl6, i1, i2, i3, i4, i5⟩ | ⟨fl, i0, i1, i2⟩
      · have hM2 : M = (0, ba, tok6, a6, b6, num6, lt6, wd6, nI sN, upd g (x + 4) (nI sN)) := by
          unfold qMs at i2
          rcases q_sg01 tok1 num1 59 with s1 | s1
          · rw [if_pos s1, q_must0] at i2
            have h9 := congrArg Prod.fst i2
            exact absurd h9 (q_ne0 (qF_p (by decide +kernel)))
          · rw [if_neg (by rw [s1]; decide), q_must1] at i2
            simp only [Prod.mk.injEq, true_and] at i2
            simp only [s1, q_n1, q_must1, i2, ↓reduceIte] at hM
            exact hM.symm
        rw [i1] at hCS
        subst hCS
        exact Or.inl ⟨sN, _, tok6, a6, b6, num6, lt6, wd6, cs6, cn6, cl6, hM2, hs, by omega, i5, qFq_u qFq_r (by omega), hL1 _ _ _ _ _ _ _ _ _ _ _ _ _ _ _ 2 _ _ rfl (by omega)⟩
      · have hM2 : M = (fl, a1, tok1, a1, b1, num1, lt1, wd1, nI sN, upd g (x + 4) (nI sN)) := by
          unfold qMs at i2
          rcases q_sg01 tok1 num1 59 with s1 | s1
          · rw [if_pos s1] at i2
            simp only [Prod.mk.injEq, and_true] at i2
            simp only [s1, i2, ↓reduceIte] at hM
            exact hM.symm
          · rw [if_neg (by rw [s1]; decide)] at i2
            have h9 := congrArg Prod.fst i2
            exact absurd h9.symm (q_ne0 i0)
        rw [i1] at hCS
        subst hCS
        subst hM2
        exact Or.inr ⟨fl, a1, hL2 fl a1 rfl rfl i0, rfl, rfl, qFq_u qFq_r (by omega)⟩
theorem q_step_2 {hf n fp ba : Int32} {T : Nat → Int32} {fn w : Nat → Int64} (hn : n.toInt ≤ 300) (hNm : qNm hf 3 fn w 0) (tok a b num lt cs cn : Int32) (wd cl : Int64) (sN : Nat) (g : Nat → Int32) (C : qLC) (M : qSM) (hs : sN ≤ 30) (hm : hf = g 0) (hT : qTk n T tok a b num lt wd cs cn cl) (ce : F_r_isEnd tok wd = 0) (h0 : ¬ tok = 0) (hG : qGo hf fn n T 2 tok a b cn cs cl fp (nI sN) C) (hM : F_r_readStep_2 n 0 ba tok a b num lt wd (nI sN) T g w = M) : qSt hf fn n T 2 fp ba b g C M := by
  have hn9 : n.toInt ≤ 900 := by omega
  have hb := q_tkb hT
  have hab := hT.2.2.2.2.2.1 h0
  obtain ⟨B, K, F, Cc, N, P, ln, as, hL⟩ := q_line hn hT h0 hG
  generalize hCS : F_Ru_readStep (nI 2) hf fn n tok a b cn cs cl 0 fp T B ln (nI sN) as K F Cc N P = CS at hL
  obtain ⟨hL1, hL2⟩ := hL CS rfl
  rw [F_Ru_readStep_s] at hCS
  rw [F_r_readStep_2_s] at hM
  simp only [qi_30 hn9 hT, qi_31 hn9 hT, qi_32 hn9 hT, q_plainK hn9 hT, ce, ↓reduceIte] at hCS
  by_cases cw : F_r_isWhen tok wd = 0
  · by_cases cl' : F_r_isLoop tok wd = 0
    · simp only [cw, cl', ↓reduceIte] at hCS hM
      by_cases cp : 0 ≤ F_r_plainStep tok wd
      · have ht := q_pk cp
        have cp1 : ¬ F_r_plainStep tok wd = -1 := fun h9 => by rw [h9] at cp; exact absurd cp (by decide)
        simp only [cp1, ↓reduceIte] at hCS
        simp only [cp, ↓reduceIte] at hM
        by_cases c30 : sN = 30
        · have d1 : ¬ nI sN < 30 := fun h9 => by have := (q_s30 hs).1.mp h9; omega
          have d2 := (q_s30 hs).2.mpr c30
          simp only [d1, q_refuse, ↓reduceIte] at hCS
          simp only [d2, q_fail, ↓reduceIte] at hM
          rw [qF_4 (by rw [ht]; decide)] at hCS
          subst hCS
          subst hM
          exact Or.inr ⟨6, a, hL2 6 a rfl rfl q_6p, rfl, rfl, qFq_r⟩
        · have d1 : nI sN < 30 := (q_s30 hs).1.mpr (by omega)
          have d2 : ¬ nI sN = 30 := fun h9 => c30 ((q_s30 hs).2.mp h9)
          obtain ⟨tok3, a3, b3, num3, lt3, wd3, cs3, cn3, cl3, g1, g2', g3, g4⟩ := q_ad (T := T) hn9 hb.1 hb.2 cn cs cl num lt wd
          have x0 : (nI (1641 + 6 * sN)).toNatClampNeg = 1641 + 6 * sN := qnI_cl (by omega)
          have x1 : (nI (1641 + 6 * sN) + 1).toNatClampNeg = 1641 + 6 * sN + 1 := q_xc (m := 1) (by omega) (by omega)
          simp only [d1, g1, F_Ru_readPlain_s, ↓reduceIte] at hCS
          simp only [d2, F_r_readStep_2_C97_s, cw, q_xN hs, qnI_s sN, g2', x0, x1, ↓reduceIte] at hM
          have hk10 : ¬ F_r_plainStep tok wd = 10 := fun h9 => by
            rw [F_r_plainStep_s] at h9
            revert h9
            simp only []
            repeat' split
            all_goals decide
          by_cases ck : F_r_plainStep tok wd = 0
          · have hm' : hf = upd g (1641 + 6 * sN) (F_r_plainStep tok wd) 0 := by rw [hm]; exact (if_neg (by omega)).symm
            simp only [ck, ↓reduceIte] at hCS
            rw [if_pos ck] at hM
            rcases q_feat (fp := fp) (ba := ba) hn9 hNm hm' g4 with ⟨r, tok4, a4, b4, num4, lt4, wd4, cs4, cn4, cl4, k1, k2, k3, k4', k4⟩ | ⟨fl, r, k0, k1, k2⟩
            · obtain ⟨l1, l2, l3, l4, l5, l6, l7⟩ := q_add1 (ln := ln) (s := nI sN) (as := as) (K := K) (F := F) (Cc := Cc) (N := N) (k := 0) (j := r) (i1 := 0) (i2 := 0) (by decide)
              simp only [k1, q_m1 k3, l7, qnI_s sN, ↓reduceIte] at hCS
              simp only [k2, q_C201_2 (show 1641 + 6 * sN < 2000 by omega)] at hM
              rcases q_ms (fp := fp) (ba := ba) hn9 k4 with ⟨tok6, a6, b6, num6, lt6, wd6, cs6, cn6, cl6, i1, i2, i3, i4, i5⟩ | ⟨fl, i0, i1, i2⟩
              · rw [i1] at hCS
                simp only [i2] at hM
                subst hCS
                subst hM
                exact Or.inl ⟨sN + 1, _, tok6, a6, b6, num6, lt6, wd6, cs6, cn6, cl6, rfl, by omega, by omega, i5, qFq_u (qFq_u (qFq_u qFq_r (by omega)) (by omega)) (by omega), hL1 _ _ _ _ _ _ _ _ _ _ _ _ _ _ _ 2 _ _ rfl (by omega)⟩
              · rw [i1] at hCS
                simp only [i2] at hM
                subst hCS
                subst hM
                exact Or.inr ⟨fl, a4, hL2 fl a4 rfl rfl i0, rfl, rfl, qFq_u (qFq_u (qFq_u qFq_r (by omega)) (by omega)) (by omega)⟩
            · simp only [k1, ↓reduceIte] at hCS
              simp only [k2, q_C201_2 (show 1641 + 6 * sN < 2000 by omega)] at hM
              subst hCS
              subst hM
              exact Or.inr ⟨fl, a3, hL2 fl a3 rfl rfl k0, (q_msN k0 ..).1, (q_msN k0 ..).2, qFq_u (qFq_u (qFq_u qFq_r (by omega)) (by omega)) (by omega)⟩
          · obtain ⟨l1, l2, l3, l4, l5, l6, l7⟩ := q_add1 (ln := ln) (s := nI sN) (as := as) (K := K) (F := F) (Cc := Cc) (N := N) (k := F_r_plainStep tok wd) (j := -1) (i1 := 0) (i2 := 0) hk10
            have k4 := g4
            simp only [ck, l7, qnI_s sN, ↓reduceIte] at hCS
            simp only [ck, q_C201_2 (show 1641 + 6 * sN < 2000 by omega), ↓reduceIte] at hM
            rcases q_ms (fp := fp) (ba := ba) hn9 k4 with ⟨tok6, a6, b6, num6, lt6, wd6, cs6, cn6, cl6, i1, i2, i3, i4, i5⟩ | ⟨fl, i0, i1, i2⟩
            · rw [i1] at hCS
              simp only [i2] at hM
              subst hCS
              subst hM
              exact Or.inl ⟨sN + 1, _, tok6, a6, b6, num6, lt6, wd6, cs6, cn6, cl6, rfl, by omega, by omega, i5, qFq_u (qFq_u qFq_r (by omega)) (by omega), hL1 _ _ _ _ _ _ _ _ _ _ _ _ _ _ _ 2 _ _ rfl (by omega)⟩
            · rw [i1] at hCS
              simp only [i2] at hM
              subst hCS
              subst hM
              exact Or.inr ⟨fl, a3, hL2 fl a3 rfl rfl i0, rfl, rfl, qFq_u (qFq_u qFq_r (by omega)) (by omega)⟩
      · have cp1 : F_r_plainStep tok wd = -1 := by
          rw [F_r_plainStep_s] at cp ⊢
          revert cp
          simp only []
          repeat' split
          all_goals first | (intro _; rfl) | (intro h9; exact absurd (by decide) h9)
        have h2p : 0 < (qF tok 2).toInt := qF_p (by decide +kernel)
        simp only [cp1, q_refuse, ↓reduceIte] at hCS
        simp only [cp, q_wrong, ↓reduceIte] at hM
        subst hCS
        subst hM
        exact Or.inr ⟨_, a, hL2 _ a rfl rfl h2p, rfl, rfl, qFq_r⟩
    · obtain ⟨hwn, -, ht⟩ := q_lw cl'
      simp only [cw, cl', ↓reduceIte] at hCS hM
      have e3 : nI 2 < 3 := by decide +kernel
      by_cases c30 : sN = 30
      · have d1 : ¬ nI sN < 30 := fun h9 => by have := (q_s30 hs).1.mp h9; omega
        have d2 := (q_s30 hs).2.mpr c30
        simp only [d1, q_refuse, ↓reduceIte] at hCS
        simp only [d2, q_fail, ↓reduceIte] at hM
        rw [qF_4 (by rw [ht]; decide)] at hCS
        subst hCS
        subst hM
        exact Or.inr ⟨6, a, hL2 6 a rfl rfl q_6p, rfl, rfl, qFq_r⟩
      · have d1 : nI sN < 30 := (q_s30 hs).1.mpr (by omega)
        have d2 : ¬ nI sN = 30 := fun h9 => c30 ((q_s30 hs).2.mp h9)
        obtain ⟨tok3, a3, b3, num3, lt3, wd3, cs3, cn3, cl3, g1, g2', g3, g4⟩ := q_ad (T := T) hn9 hb.1 hb.2 cn cs cl num lt wd
        simp only [d1, e3, g1, ↓reduceIte] at hCS
        simp only [d2, F_r_readStep_2_C97_s, hwn, q_n1, q_xN hs, qnI_s sN, ↓reduceIte] at hM
        have x0 : (nI (1641 + 6 * sN)).toNatClampNeg = 1641 + 6 * sN := qnI_cl (by omega)
        have x3 : (nI (1641 + 6 * sN) + 3).toNatClampNeg = 1641 + 6 * sN + 3 := q_xc (m := 3) (by omega) (by omega)
        simp only [g2', x0, x3] at hM
        rcases q_num hn9 g4 1 9 fp ba with ⟨r, tok4, a4, b4, num4, lt4, wd4, cs4, cn4, cl4, k1, k2, k3, k4, k5, k6, -⟩ | ⟨fl, k0, k1, k2, -⟩
        · rw [q1] at k5
          obtain ⟨l1, l2, l3, l4, l5, l6, l7⟩ := q_add1 (ln := ln) (s := nI sN) (as := as) (K := K) (F := F) (Cc := Cc) (N := N) (k := 9) (j := -1) (i1 := 0) (i2 := r) (by decide)
          simp only [F_Ru_readLoop_s, k1, q_m1 (show 0 ≤ r.toInt by omega), l7, q_n1, qnI_s sN, ↓reduceIte] at hCS
          simp only [k2] at hM
          have hfr : qFq g (upd (upd g (1641 + 6 * sN) 9) (1641 + 6 * sN + 3) r) := qFq_u (qFq_u qFq_r (by omega)) (by omega)
          rcases q_sg01 tok4 num4 59 with s1 | s1
          · have h2p : 0 < (qF tok4 2).toInt := qF_p (by decide +kernel)
            have si := q_isSign k4 59
            rw [s1] at si
            simp only [F_Ru_beginBlock_s, q_sign0 si, ↓reduceIte] at hCS
            rw [F_r_readStep_2_C201_s] at hM
            simp only [s1, q_must0, F_r_readStep_2_L211a_s, ite_self, ↓reduceIte] at hM
            obtain ⟨m1, m2, m3⟩ := q_C239N_2 (n := n) (T := T) (kind := (F_r_plainStep tok wd)) (x := 1641 + 6 * sN) h2p (by omega) (by omega) a4 tok4 a4 b4 num4 lt4 wd4 (nI (sN + 1)) (upd (upd g (1641 + 6 * sN) 9) (1641 + 6 * sN + 3) r)
            rw [hM] at m1 m2 m3
            subst hCS
            exact Or.inr ⟨_, a4, hL2 _ a4 rfl rfl h2p, m1, m2, qFq_t hfr m3⟩
          · have si := q_isSign k4 59
            rw [s1] at si
            obtain ⟨tok5, a5, b5, num5, lt5, wd5, cs5, cn5, cl5, j1, j2, j3, j4⟩ := q_ad (T := T) hn9 (q_tkb k4).1 (q_tkb k4).2 cn4 cs4 cl4 num4 lt4 wd4
            have hab4 := k4.2.1
            simp only [F_Ru_beginBlock_s, q_sign1 si j1, q_n1, qnI_s, ↓reduceIte] at hCS
            rw [F_r_readStep_2_C201_s] at hM
            simp only [s1, q_n1, q_must1, j2, ↓reduceIte] at hM
            subst hCS
            have hG2 := hL1 _ _ _ _ _ _ _ _ _ _ _ _ _ _ _ 3 _ _ rfl (show a.toInt < a5.toInt by omega)
            exact qSt_m (show b.toInt ≤ a5.toInt by omega) hfr (q_nest_2 (fp := fp) (ba := ba) hn hNm (kind := (F_r_plainStep tok wd)) (x := 1641 + 6 * sN) (by omega) (by omega) _ (sN + 1) (upd (upd g (1641 + 6 * sN) 9) (1641 + 6 * sN + 3) r) tok5 a5 b5 num5 lt5 cs5 cn5 wd5 cl5 C M (by rw [q0]; omega) (by omega) (by rw [hm]; exact ((hfr : qFq g (upd (upd g (1641 + 6 * sN) 9) (1641 + 6 * sN + 3) r)) 0 (by omega)).symm) j4 hG2 hM)
        · simp only [F_Ru_readLoop_s, k1, ↓reduceIte] at hCS
          simp only [k2] at hM
          obtain ⟨m1, m2, m3⟩ := q_C201N_2 (n := n) (T := T) (w := w) (kind := F_r_plainStep tok wd) (x := 1641 + 6 * sN) k0 (by omega) (by omega) a3 tok3 a3 b3 num3 lt3 wd3 (nI (sN + 1)) (upd (upd g (1641 + 6 * sN) 9) (1641 + 6 * sN + 3) 0)
          rw [hM] at m1 m2 m3
          subst hCS
          exact Or.inr ⟨fl, a3, hL2 fl a3 rfl rfl k0, m1, m2, qFq_t (qFq_u (qFq_u qFq_r (by omega)) (by omega)) m3⟩
  · obtain ⟨hl0, -, ht⟩ := q_ww cw
    have hwn := cw
    simp only [cw, hl0, ↓reduceIte] at hCS hM
    · have e3 : nI 2 < 3 := by decide +kernel
      by_cases c30 : sN = 30
      · have d1 : ¬ nI sN < 30 := fun h9 => by have := (q_s30 hs).1.mp h9; omega
        have d2 := (q_s30 hs).2.mpr c30
        simp only [d1, q_refuse, ↓reduceIte] at hCS
        simp only [d2, q_fail, ↓reduceIte] at hM
        rw [qF_4 (by rw [ht]; decide)] at hCS
        subst hCS
        subst hM
        exact Or.inr ⟨6, a, hL2 6 a rfl rfl q_6p, rfl, rfl, qFq_r⟩
      · have d1 : nI sN < 30 := (q_s30 hs).1.mpr (by omega)
        have d2 : ¬ nI sN = 30 := fun h9 => c30 ((q_s30 hs).2.mp h9)
        obtain ⟨tok3, a3, b3, num3, lt3, wd3, cs3, cn3, cl3, g1, g2', g3, g4⟩ := q_ad (T := T) hn9 hb.1 hb.2 cn cs cl num lt wd
        simp only [d1, e3, g1, ↓reduceIte] at hCS
        simp only [d2, F_r_readStep_2_C97_s, hwn, q_n1, q_xN hs, qnI_s sN, ↓reduceIte] at hM
        generalize hCW : F_Ru_readWhen hf fn n tok3 a3 b3 cn3 cs3 cl3 0 fp T ln (nI sN) as K F Cc N = CW at hCS
        generalize hMW : F_r_readWhen n 0 ba b num lt wd T g w (nI (1641 + 6 * sN)) = MW at hM
        rcases q_when (fp := fp) (ba := ba) hn9 hNm hm (by omega) (by omega) g2' g4 hCW hMW with ⟨tok4, a4, b4, num4, lt4, wd4, cs4, cn4, cl4, l1, l2, l3, l4, l5, l6, gw, y1, y2, k3, k4, hfr⟩ | ⟨fl, p, y0, y1, y2, y3, y4, y5, y6⟩
        · subst y1
          subst y2
          simp only [q_n1, qnI_s sN, ↓reduceIte] at hCS
          simp only at hM
          rcases q_sg01 tok4 num4 59 with s1 | s1
          · have h2p : 0 < (qF tok4 2).toInt := qF_p (by decide +kernel)
            have si := q_isSign k4 59
            rw [s1] at si
            simp only [F_Ru_beginBlock_s, q_sign0 si, ↓reduceIte] at hCS
            rw [F_r_readStep_2_C201_s] at hM
            simp only [s1, q_must0, F_r_readStep_2_L211a_s, ite_self, ↓reduceIte] at hM
            obtain ⟨m1, m2, m3⟩ := q_C239N_2 (n := n) (T := T) (kind := (F_r_plainStep tok wd)) (x := 1641 + 6 * sN) h2p (by omega) (by omega) a4 tok4 a4 b4 num4 lt4 wd4 (nI (sN + 1)) gw
            rw [hM] at m1 m2 m3
            subst hCS
            exact Or.inr ⟨_, a4, hL2 _ a4 rfl rfl h2p, m1, m2, qFq_t hfr m3⟩
          · have si := q_isSign k4 59
            rw [s1] at si
            obtain ⟨tok5, a5, b5, num5, lt5, wd5, cs5, cn5, cl5, j1, j2, j3, j4⟩ := q_ad (T := T) hn9 (q_tkb k4).1 (q_tkb k4).2 cn4 cs4 cl4 num4 lt4 wd4
            have hab4 := k4.2.1
            simp only [F_Ru_beginBlock_s, q_sign1 si j1, q_n1, qnI_s, ↓reduceIte] at hCS
            rw [F_r_readStep_2_C201_s] at hM
            simp only [s1, q_n1, q_must1, j2, ↓reduceIte] at hM
            subst hCS
            have hG2 := hL1 _ _ _ _ _ _ _ _ _ _ _ _ _ _ _ 3 _ _ rfl (show a.toInt < a5.toInt by omega)
            exact qSt_m (show b.toInt ≤ a5.toInt by omega) hfr (q_nest_2 (fp := fp) (ba := ba) hn hNm (kind := (F_r_plainStep tok wd)) (x := 1641 + 6 * sN) (by omega) (by omega) _ (sN + 1) gw tok5 a5 b5 num5 lt5 cs5 cn5 wd5 cl5 C M (by rw [q0]; omega) (by omega) (by rw [hm]; exact ((hfr : qFq g gw) 0 (by omega)).symm) j4 hG2 hM)
        · simp only [y1, y2, y3, ↓reduceIte] at hCS
          rw [y4, y5] at hM
          obtain ⟨m1, m2, m3⟩ := q_C201N_2 (n := n) (T := T) (w := w) (kind := F_r_plainStep tok wd) (x := 1641 + 6 * sN) y0 (by omega) (by omega) p MW.2.2.1 MW.2.2.2.1 MW.2.2.2.2.1 MW.2.2.2.2.2.1 MW.2.2.2.2.2.2.1 MW.2.2.2.2.2.2.2.1 (nI (sN + 1)) MW.2.2.2.2.2.2.2.2
          rw [hM] at m1 m2 m3
          subst hCS
          exact Or.inr ⟨fl, p, hL2 fl p rfl rfl y0, m1, m2, qFq_t y6 m3⟩
theorem q_C201_1 {n : Int32} {T : Nat → Int32} {w : Nat → Int64} {kind : Int32} {x : Nat} (hx : x < 2000) (bad ba tok a b num lt : Int32) (wd : Int64) (s1 : Int32) (g : Nat → Int32) : F_r_readStep_1_C201 n T w 0 kind (nI x) bad ba tok a b num lt wd s1 g = ((qMs n bad ba tok a b num lt wd T).1, (qMs n bad ba tok a b num lt wd T).2.1, (qMs n bad ba tok a b num lt wd T).2.2.1, (qMs n bad ba tok a b num lt wd T).2.2.2.1, (qMs n bad ba tok a b num lt wd T).2.2.2.2.1, (qMs n bad ba tok a b num lt wd T).2.2.2.2.2.1, (qMs n bad ba tok a b num lt wd T).2.2.2.2.2.2.1, (qMs n bad ba tok a b num lt wd T).2.2.2.2.2.2.2, s1, upd g (x + 4) s1) := by
  have x4 : (nI x + 4).toNatClampNeg = x + 4 := q_xc (m := 4) hx (by omega)
  rw [F_r_readStep_1_C201_s]
  unfold qMs
  by_cases c : F_r_isSign tok num 59 = 0
  · simp only [c, F_r_readStep_1_L211a_s, F_r_readStep_1_C239_s, x4, ↓reduceIte]
  · simp only [c, F_r_readStep_1_L211b_s, F_r_readStep_1_C239_s, x4, ↓reduceIte]
theorem q_C239N_1 {n : Int32} {T : Nat → Int32} {kind : Int32} {x : Nat} {bad : Int32} (h : 0 < bad.toInt) (hx0 : 1641 ≤ x) (hx : x < 2000) (ba tok a b num lt : Int32) (wd : Int64) (s1 : Int32) (g : Nat → Int32) : (F_r_readStep_1_C239 n T 1 kind (nI x) bad ba tok a b num lt wd s1 g).1 = bad ∧ (F_r_readStep_1_C239 n T 1 kind (nI x) bad ba tok a b num lt wd s1 g).2.1 = ba ∧ qFq g (F_r_readStep_1_C239 n T 1 kind (nI x) bad ba tok a b num lt wd s1 g).2.2.2.2.2.2.2.2.2 := by
  have x4 : (nI x + 4).toNatClampNeg = x + 4 := q_xc (m := 4) hx (by omega)
  rw [F_r_readStep_1_C239_s]
  by_cases c : F_r_isEnd tok wd = 0
  · by_cases d : F_r_isSign tok num 59 = 0
    · simp only [c, d, q_n1, q_must0N h, q_must1N h, x4, ↓reduceIte]
      exact ⟨by first | trivial | rfl, by first | trivial | rfl, qFq_u qFq_r (by omega)⟩
    · simp only [c, d, q_n1, q_must0N h, q_must1N h, x4, ↓reduceIte]
      exact ⟨by first | trivial | rfl, by first | trivial | rfl, qFq_u qFq_r (by omega)⟩
  · by_cases d : F_r_isSign tok num 59 = 0
    · simp only [c, d, q_n1, q_must0N h, q_must1N h, x4, ↓reduceIte]
      exact ⟨by first | trivial | rfl, by first | trivial | rfl, qFq_u qFq_r (by omega)⟩
    · simp only [c, d, q_n1, q_must0N h, q_must1N h, x4, ↓reduceIte]
      exact ⟨by first | trivial | rfl, by first | trivial | rfl, qFq_u qFq_r (by omega)⟩
theorem q_L211N_1 {n : Int32} {T : Nat → Int32} {w : Nat → Int64} {kind : Int32} {x : Nat} {bad : Int32} (h : 0 < bad.toInt) (hx0 : 1641 ≤ x) (hx : x < 2000) (f : Nat) (hf : 0 < f) (ba tok a b num lt : Int32) (wd : Int64) (s1 : Int32) (g : Nat → Int32) : (F_r_readStep_1_L211b n T w 1 kind (nI x) f g bad ba tok a b num lt wd s1).1 = bad ∧ (F_r_readStep_1_L211b n T w 1 kind (nI x) f g bad ba tok a b num lt wd s1).2.1 = ba ∧ qFq g (F_r_readStep_1_L211b n T w 1 kind (nI x) f g bad ba tok a b num lt wd s1).2.2.2.2.2.2.2.2.2 := by
  cases f with
  | zero => exact absurd hf (Nat.not_lt_zero _)
  | succ f =>
    rw [F_r_readStep_1_L211b_s]
    simp only [q_n1, q_ne0 h, ↓reduceIte]
    exact q_C239N_1 h hx0 hx ba tok a b num lt wd s1 g
theorem q_C201N_1 {n : Int32} {T : Nat → Int32} {w : Nat → Int64} {kind : Int32} {x : Nat} {bad : Int32} (h : 0 < bad.toInt) (hx0 : 1641 ≤ x) (hx : x < 2000) (ba tok a b num lt : Int32) (wd : Int64) (s1 : Int32) (g : Nat → Int32) : (F_r_readStep_1_C201 n T w 1 kind (nI x) bad ba tok a b num lt wd s1 g).1 = bad ∧ (F_r_readStep_1_C201 n T w 1 kind (nI x) bad ba tok a b num lt wd s1 g).2.1 = ba ∧ qFq g (F_r_readStep_1_C201 n T w 1 kind (nI x) bad ba tok a b num lt wd s1 g).2.2.2.2.2.2.2.2.2 := by
  rw [F_r_readStep_1_C201_s]
  by_cases c : F_r_isSign tok num 59 = 0
  · simp only [c, q_must0N h, F_r_readStep_1_L211a_s, ite_self, ↓reduceIte]
    exact q_C239N_1 h hx0 hx ba tok a b num lt wd s1 g
  · simp only [c, q_must1N h, ↓reduceIte]
    exact q_L211N_1 h hx0 hx _ (Nat.succ_pos _) ba tok a b num lt wd s1 g
theorem q_nest_1 {hf n fp ba : Int32} {T : Nat → Int32} {fn w : Nat → Int64} (hn : n.toInt ≤ 300) (hNm : qNm hf 3 fn w 0) {kind : Int32} {x : Nat} (hx0 : 1641 ≤ x) (hx : x < 2000) : ∀ (f2 sN : Nat) (g : Nat → Int32) (tok a b num lt cs cn : Int32) (wd cl : Int64) (C : qLC) (M : qSM), (4600 - 5 * b.toInt + tok.toInt).toNat < f2 → sN ≤ 30 → hf = g 0 → qTk n T tok a b num lt wd cs cn cl → qGo hf fn n T 2 tok a b cn cs cl fp (nI sN) C → F_r_readStep_1_L211b n T w 1 kind (nI x) f2 g 0 ba tok a b num lt wd (nI sN) = M → qSt hf fn n T 1 fp ba a g C M := by
  intro f2
  induction f2 with
  | zero => intro sN g tok a b num lt cs cn wd cl C M h1; exact absurd h1 (Nat.not_lt_zero _)
  | succ f2 ih =>
    intro sN g tok a b num lt cs cn wd cl C M h1 hs hm hT hG hM
    have hn9 : n.toInt ≤ 900 := by omega
    have hb := q_tkb hT
    have hab := hT.2.1
    have x4 : (nI x + 4).toNatClampNeg = x + 4 := q_xc (m := 4) hx (by omega)
    have htk : tok.toInt ≤ 4 ∧ 0 ≤ tok.toInt := by
      rcases hT.2.2.2.1 with c | c | c | c | c <;> rw [c] <;> decide
    rw [F_r_readStep_1_L211b_s] at hM
    by_cases ce : F_r_isEnd tok wd = 0
    · simp only [q_n1, ce, ↓reduceIte] at hM
      by_cases ht : tok = 0
      · subst ht
        have hw0 : F_r_isWhen 0 wd = 0 := by rw [qr_when, qw_n (by decide)]
        have hl0 : F_r_isLoop 0 wd = 0 := by rw [qr_loop, qw_n (by decide)]
        have hp0 : ¬ 0 ≤ F_r_plainStep 0 wd := fun h9 => absurd (q_pk h9) (by decide)
        have h2 : F_r_wrong 0 ba 0 a = (2, a) := by rw [q_wrong]; rfl
        simp only [F_r_readStep_2_s, hw0, hl0, hp0, h2, ↓reduceIte] at hM
        obtain ⟨m1, m2, m3⟩ := q_L211N_1 (n := n) (T := T) (w := w) (kind := kind) (bad := 2) (by decide +kernel) hx0 hx f2 (by omega) a 0 a b num lt wd (nI sN) g
        rw [hM] at m1 m2 m3
        exact Or.inr ⟨2, a, (q_over (by omega) hG).1 (by omega), m1, m2, m3⟩
      · generalize hMS : F_r_readStep_2 n 0 ba tok a b num lt wd (nI sN) T g w = MS at hM
        have hab2 := hT.2.2.2.2.2.1 ht
        have htp : 0 < tok.toInt := by
          rcases hT.2.2.2.1 with c | c | c | c | c
          · exact absurd c ht
          all_goals (rw [c]; decide)
        rcases q_step_2 (fp := fp) (ba := ba) hn hNm tok a b num lt cs cn wd cl sN g C MS hs hm hT ce ht hG hMS with ⟨sN2, g2, tok2, a2, b2, num2, lt2, wd2, cs2, cn2, cl2, e, hs2, hlb, hT2, hg2, hG2⟩ | ⟨fl, p, hbd, e1, e2, e3⟩
        · subst e
          have hme := q_me (f2 := f2) hT2 hlb htp hn9 h1
          exact qSt_m (by omega) hg2 (ih sN2 g2 tok2 a2 b2 num2 lt2 cs2 cn2 wd2 cl2 C M hme hs2 (by rw [hm]; exact (hg2 0 (by omega)).symm) hT2 hG2 hM)
        · have hfl := hbd.1
          rw [e1, e2] at hM
          obtain ⟨m1, m2, m3⟩ := q_L211N_1 (n := n) (T := T) (w := w) (kind := kind) (x := x) hfl hx0 hx f2 (by omega) p MS.2.2.1 MS.2.2.2.1 MS.2.2.2.2.1 MS.2.2.2.2.2.1 MS.2.2.2.2.2.2.1 MS.2.2.2.2.2.2.2.1 MS.2.2.2.2.2.2.2.2.1 MS.2.2.2.2.2.2.2.2.2
          rw [hM] at m1 m2 m3
          exact Or.inr ⟨fl, p, hbd, m1, m2, qFq_t e3 m3⟩
    · have ht := q_ew ce
      have h0 : ¬ tok = 0 := by rw [ht]; decide
      have hab2 := hT.2.2.2.2.2.1 h0
      obtain ⟨tok1, a1, b1, num1, lt1, wd1, cs1, cn1, cl1, f1', f2', f3, f4⟩ := q_ad (T := T) hn9 hb.1 hb.2 cn cs cl num lt wd
      simp only [q_n1, ce, F_r_readStep_1_C239_s, q_must1, f2', x4, ↓reduceIte] at hM
      obtain ⟨B, K, F, Cc, N, P, ln, as, hL⟩ := q_line hn hT h0 hG
      generalize hCS : F_Ru_readStep (nI 2) hf fn n tok a b cn cs cl 0 fp T B ln (nI sN) as K F Cc N P = CS at hL
      obtain ⟨hL1, hL2⟩ := hL CS rfl
      rw [F_Ru_readStep_s] at hCS
      have hd1 : (0 : Int32) < nI 2 := by decide +kernel
      have hd2 : nI 2 - 1 = nI 1 := qnI_sub1 1
      obtain ⟨l1, l2, l3, l4, l5, l6, l7⟩ := q_add0 (ln := ln) (s := nI sN) (as := as) (K := K) (F := F) (Cc := Cc) (N := N) (j := -1) (i1 := 0) (i2 := 0)
      simp only [qi_30 hn9 hT, ce, F_Ru_readEnd_s, hd1, hd2, f1', l7, ↓reduceIte] at hCS
      rcases q_ms (fp := fp) (ba := ba) hn9 f4 with ⟨tok6, a6, b6, num6, lt6, wd6, cs6, cn6, cl6, i1, i2, i3, i4, i5⟩ | ⟨fl, i0, i1, i2⟩
      · have hM2 : M = (0, ba, tok6, a6, b6, num6, lt6, wd6, nI sN, upd g (x + 4) (nI sN)) := by
          unfold qMs at i2
          rcases q_sg01 tok1 num1 59 with s1 | s1
          · rw [if_pos s1, q_must0] at i2
            have h9 := congrArg Prod.fst i2
            exact absurd h9 (q_ne0 (qF_p (by decide +kernel)))
          · rw [if_neg (by rw [s1]; decide), q_must1] at i2
            simp only [Prod.mk.injEq, true_and] at i2
            simp only [s1, q_n1, q_must1, i2, ↓reduceIte] at hM
            exact hM.symm
        rw [i1] at hCS
        subst hCS
        exact Or.inl ⟨sN, _, tok6, a6, b6, num6, lt6, wd6, cs6, cn6, cl6, hM2, hs, by omega, i5, qFq_u qFq_r (by omega), hL1 _ _ _ _ _ _ _ _ _ _ _ _ _ _ _ 1 _ _ rfl (by omega)⟩
      · have hM2 : M = (fl, a1, tok1, a1, b1, num1, lt1, wd1, nI sN, upd g (x + 4) (nI sN)) := by
          unfold qMs at i2
          rcases q_sg01 tok1 num1 59 with s1 | s1
          · rw [if_pos s1] at i2
            simp only [Prod.mk.injEq, and_true] at i2
            simp only [s1, i2, ↓reduceIte] at hM
            exact hM.symm
          · rw [if_neg (by rw [s1]; decide)] at i2
            have h9 := congrArg Prod.fst i2
            exact absurd h9.symm (q_ne0 i0)
        rw [i1] at hCS
        subst hCS
        subst hM2
        exact Or.inr ⟨fl, a1, hL2 fl a1 rfl rfl i0, rfl, rfl, qFq_u qFq_r (by omega)⟩
theorem q_step_1 {hf n fp ba : Int32} {T : Nat → Int32} {fn w : Nat → Int64} (hn : n.toInt ≤ 300) (hNm : qNm hf 3 fn w 0) (tok a b num lt cs cn : Int32) (wd cl : Int64) (sN : Nat) (g : Nat → Int32) (C : qLC) (M : qSM) (hs : sN ≤ 30) (hm : hf = g 0) (hT : qTk n T tok a b num lt wd cs cn cl) (ce : F_r_isEnd tok wd = 0) (h0 : ¬ tok = 0) (hG : qGo hf fn n T 1 tok a b cn cs cl fp (nI sN) C) (hM : F_r_readStep_1 n 0 ba tok a b num lt wd (nI sN) T g w = M) : qSt hf fn n T 1 fp ba b g C M := by
  have hn9 : n.toInt ≤ 900 := by omega
  have hb := q_tkb hT
  have hab := hT.2.2.2.2.2.1 h0
  obtain ⟨B, K, F, Cc, N, P, ln, as, hL⟩ := q_line hn hT h0 hG
  generalize hCS : F_Ru_readStep (nI 1) hf fn n tok a b cn cs cl 0 fp T B ln (nI sN) as K F Cc N P = CS at hL
  obtain ⟨hL1, hL2⟩ := hL CS rfl
  rw [F_Ru_readStep_s] at hCS
  rw [F_r_readStep_1_s] at hM
  simp only [qi_30 hn9 hT, qi_31 hn9 hT, qi_32 hn9 hT, q_plainK hn9 hT, ce, ↓reduceIte] at hCS
  by_cases cw : F_r_isWhen tok wd = 0
  · by_cases cl' : F_r_isLoop tok wd = 0
    · simp only [cw, cl', ↓reduceIte] at hCS hM
      by_cases cp : 0 ≤ F_r_plainStep tok wd
      · have ht := q_pk cp
        have cp1 : ¬ F_r_plainStep tok wd = -1 := fun h9 => by rw [h9] at cp; exact absurd cp (by decide)
        simp only [cp1, ↓reduceIte] at hCS
        simp only [cp, ↓reduceIte] at hM
        by_cases c30 : sN = 30
        · have d1 : ¬ nI sN < 30 := fun h9 => by have := (q_s30 hs).1.mp h9; omega
          have d2 := (q_s30 hs).2.mpr c30
          simp only [d1, q_refuse, ↓reduceIte] at hCS
          simp only [d2, q_fail, ↓reduceIte] at hM
          rw [qF_4 (by rw [ht]; decide)] at hCS
          subst hCS
          subst hM
          exact Or.inr ⟨6, a, hL2 6 a rfl rfl q_6p, rfl, rfl, qFq_r⟩
        · have d1 : nI sN < 30 := (q_s30 hs).1.mpr (by omega)
          have d2 : ¬ nI sN = 30 := fun h9 => c30 ((q_s30 hs).2.mp h9)
          obtain ⟨tok3, a3, b3, num3, lt3, wd3, cs3, cn3, cl3, g1, g2', g3, g4⟩ := q_ad (T := T) hn9 hb.1 hb.2 cn cs cl num lt wd
          have x0 : (nI (1641 + 6 * sN)).toNatClampNeg = 1641 + 6 * sN := qnI_cl (by omega)
          have x1 : (nI (1641 + 6 * sN) + 1).toNatClampNeg = 1641 + 6 * sN + 1 := q_xc (m := 1) (by omega) (by omega)
          simp only [d1, g1, F_Ru_readPlain_s, ↓reduceIte] at hCS
          simp only [d2, F_r_readStep_1_C97_s, cw, q_xN hs, qnI_s sN, g2', x0, x1, ↓reduceIte] at hM
          have hk10 : ¬ F_r_plainStep tok wd = 10 := fun h9 => by
            rw [F_r_plainStep_s] at h9
            revert h9
            simp only []
            repeat' split
            all_goals decide
          by_cases ck : F_r_plainStep tok wd = 0
          · have hm' : hf = upd g (1641 + 6 * sN) (F_r_plainStep tok wd) 0 := by rw [hm]; exact (if_neg (by omega)).symm
            simp only [ck, ↓reduceIte] at hCS
            rw [if_pos ck] at hM
            rcases q_feat (fp := fp) (ba := ba) hn9 hNm hm' g4 with ⟨r, tok4, a4, b4, num4, lt4, wd4, cs4, cn4, cl4, k1, k2, k3, k4', k4⟩ | ⟨fl, r, k0, k1, k2⟩
            · obtain ⟨l1, l2, l3, l4, l5, l6, l7⟩ := q_add1 (ln := ln) (s := nI sN) (as := as) (K := K) (F := F) (Cc := Cc) (N := N) (k := 0) (j := r) (i1 := 0) (i2 := 0) (by decide)
              simp only [k1, q_m1 k3, l7, qnI_s sN, ↓reduceIte] at hCS
              simp only [k2, q_C201_1 (show 1641 + 6 * sN < 2000 by omega)] at hM
              rcases q_ms (fp := fp) (ba := ba) hn9 k4 with ⟨tok6, a6, b6, num6, lt6, wd6, cs6, cn6, cl6, i1, i2, i3, i4, i5⟩ | ⟨fl, i0, i1, i2⟩
              · rw [i1] at hCS
                simp only [i2] at hM
                subst hCS
                subst hM
                exact Or.inl ⟨sN + 1, _, tok6, a6, b6, num6, lt6, wd6, cs6, cn6, cl6, rfl, by omega, by omega, i5, qFq_u (qFq_u (qFq_u qFq_r (by omega)) (by omega)) (by omega), hL1 _ _ _ _ _ _ _ _ _ _ _ _ _ _ _ 1 _ _ rfl (by omega)⟩
              · rw [i1] at hCS
                simp only [i2] at hM
                subst hCS
                subst hM
                exact Or.inr ⟨fl, a4, hL2 fl a4 rfl rfl i0, rfl, rfl, qFq_u (qFq_u (qFq_u qFq_r (by omega)) (by omega)) (by omega)⟩
            · simp only [k1, ↓reduceIte] at hCS
              simp only [k2, q_C201_1 (show 1641 + 6 * sN < 2000 by omega)] at hM
              subst hCS
              subst hM
              exact Or.inr ⟨fl, a3, hL2 fl a3 rfl rfl k0, (q_msN k0 ..).1, (q_msN k0 ..).2, qFq_u (qFq_u (qFq_u qFq_r (by omega)) (by omega)) (by omega)⟩
          · obtain ⟨l1, l2, l3, l4, l5, l6, l7⟩ := q_add1 (ln := ln) (s := nI sN) (as := as) (K := K) (F := F) (Cc := Cc) (N := N) (k := F_r_plainStep tok wd) (j := -1) (i1 := 0) (i2 := 0) hk10
            have k4 := g4
            simp only [ck, l7, qnI_s sN, ↓reduceIte] at hCS
            simp only [ck, q_C201_1 (show 1641 + 6 * sN < 2000 by omega), ↓reduceIte] at hM
            rcases q_ms (fp := fp) (ba := ba) hn9 k4 with ⟨tok6, a6, b6, num6, lt6, wd6, cs6, cn6, cl6, i1, i2, i3, i4, i5⟩ | ⟨fl, i0, i1, i2⟩
            · rw [i1] at hCS
              simp only [i2] at hM
              subst hCS
              subst hM
              exact Or.inl ⟨sN + 1, _, tok6, a6, b6, num6, lt6, wd6, cs6, cn6, cl6, rfl, by omega, by omega, i5, qFq_u (qFq_u qFq_r (by omega)) (by omega), hL1 _ _ _ _ _ _ _ _ _ _ _ _ _ _ _ 1 _ _ rfl (by omega)⟩
            · rw [i1] at hCS
              simp only [i2] at hM
              subst hCS
              subst hM
              exact Or.inr ⟨fl, a3, hL2 fl a3 rfl rfl i0, rfl, rfl, qFq_u (qFq_u qFq_r (by omega)) (by omega)⟩
      · have cp1 : F_r_plainStep tok wd = -1 := by
          rw [F_r_plainStep_s] at cp ⊢
          revert cp
          simp only []
          repeat' split
          all_goals first | (intro _; rfl) | (intro h9; exact absurd (by decide) h9)
        have h2p : 0 < (qF tok 2).toInt := qF_p (by decide +kernel)
        simp only [cp1, q_refuse, ↓reduceIte] at hCS
        simp only [cp, q_wrong, ↓reduceIte] at hM
        subst hCS
        subst hM
        exact Or.inr ⟨_, a, hL2 _ a rfl rfl h2p, rfl, rfl, qFq_r⟩
    · obtain ⟨hwn, -, ht⟩ := q_lw cl'
      simp only [cw, cl', ↓reduceIte] at hCS hM
      have e3 : nI 1 < 3 := by decide +kernel
      by_cases c30 : sN = 30
      · have d1 : ¬ nI sN < 30 := fun h9 => by have := (q_s30 hs).1.mp h9; omega
        have d2 := (q_s30 hs).2.mpr c30
        simp only [d1, q_refuse, ↓reduceIte] at hCS
        simp only [d2, q_fail, ↓reduceIte] at hM
        rw [qF_4 (by rw [ht]; decide)] at hCS
        subst hCS
        subst hM
        exact Or.inr ⟨6, a, hL2 6 a rfl rfl q_6p, rfl, rfl, qFq_r⟩
      · have d1 : nI sN < 30 := (q_s30 hs).1.mpr (by omega)
        have d2 : ¬ nI sN = 30 := fun h9 => c30 ((q_s30 hs).2.mp h9)
        obtain ⟨tok3, a3, b3, num3, lt3, wd3, cs3, cn3, cl3, g1, g2', g3, g4⟩ := q_ad (T := T) hn9 hb.1 hb.2 cn cs cl num lt wd
        simp only [d1, e3, g1, ↓reduceIte] at hCS
        simp only [d2, F_r_readStep_1_C97_s, hwn, q_n1, q_xN hs, qnI_s sN, ↓reduceIte] at hM
        have x0 : (nI (1641 + 6 * sN)).toNatClampNeg = 1641 + 6 * sN := qnI_cl (by omega)
        have x3 : (nI (1641 + 6 * sN) + 3).toNatClampNeg = 1641 + 6 * sN + 3 := q_xc (m := 3) (by omega) (by omega)
        simp only [g2', x0, x3] at hM
        rcases q_num hn9 g4 1 9 fp ba with ⟨r, tok4, a4, b4, num4, lt4, wd4, cs4, cn4, cl4, k1, k2, k3, k4, k5, k6, -⟩ | ⟨fl, k0, k1, k2, -⟩
        · rw [q1] at k5
          obtain ⟨l1, l2, l3, l4, l5, l6, l7⟩ := q_add1 (ln := ln) (s := nI sN) (as := as) (K := K) (F := F) (Cc := Cc) (N := N) (k := 9) (j := -1) (i1 := 0) (i2 := r) (by decide)
          simp only [F_Ru_readLoop_s, k1, q_m1 (show 0 ≤ r.toInt by omega), l7, q_n1, qnI_s sN, ↓reduceIte] at hCS
          simp only [k2] at hM
          have hfr : qFq g (upd (upd g (1641 + 6 * sN) 9) (1641 + 6 * sN + 3) r) := qFq_u (qFq_u qFq_r (by omega)) (by omega)
          rcases q_sg01 tok4 num4 59 with s1 | s1
          · have h2p : 0 < (qF tok4 2).toInt := qF_p (by decide +kernel)
            have si := q_isSign k4 59
            rw [s1] at si
            simp only [F_Ru_beginBlock_s, q_sign0 si, ↓reduceIte] at hCS
            rw [F_r_readStep_1_C201_s] at hM
            simp only [s1, q_must0, F_r_readStep_1_L211a_s, ite_self, ↓reduceIte] at hM
            obtain ⟨m1, m2, m3⟩ := q_C239N_1 (n := n) (T := T) (kind := (F_r_plainStep tok wd)) (x := 1641 + 6 * sN) h2p (by omega) (by omega) a4 tok4 a4 b4 num4 lt4 wd4 (nI (sN + 1)) (upd (upd g (1641 + 6 * sN) 9) (1641 + 6 * sN + 3) r)
            rw [hM] at m1 m2 m3
            subst hCS
            exact Or.inr ⟨_, a4, hL2 _ a4 rfl rfl h2p, m1, m2, qFq_t hfr m3⟩
          · have si := q_isSign k4 59
            rw [s1] at si
            obtain ⟨tok5, a5, b5, num5, lt5, wd5, cs5, cn5, cl5, j1, j2, j3, j4⟩ := q_ad (T := T) hn9 (q_tkb k4).1 (q_tkb k4).2 cn4 cs4 cl4 num4 lt4 wd4
            have hab4 := k4.2.1
            simp only [F_Ru_beginBlock_s, q_sign1 si j1, q_n1, qnI_s, ↓reduceIte] at hCS
            rw [F_r_readStep_1_C201_s] at hM
            simp only [s1, q_n1, q_must1, j2, ↓reduceIte] at hM
            subst hCS
            have hG2 := hL1 _ _ _ _ _ _ _ _ _ _ _ _ _ _ _ 2 _ _ rfl (show a.toInt < a5.toInt by omega)
            exact qSt_m (show b.toInt ≤ a5.toInt by omega) hfr (q_nest_1 (fp := fp) (ba := ba) hn hNm (kind := (F_r_plainStep tok wd)) (x := 1641 + 6 * sN) (by omega) (by omega) _ (sN + 1) (upd (upd g (1641 + 6 * sN) 9) (1641 + 6 * sN + 3) r) tok5 a5 b5 num5 lt5 cs5 cn5 wd5 cl5 C M (by rw [q0]; omega) (by omega) (by rw [hm]; exact ((hfr : qFq g (upd (upd g (1641 + 6 * sN) 9) (1641 + 6 * sN + 3) r)) 0 (by omega)).symm) j4 hG2 hM)
        · simp only [F_Ru_readLoop_s, k1, ↓reduceIte] at hCS
          simp only [k2] at hM
          obtain ⟨m1, m2, m3⟩ := q_C201N_1 (n := n) (T := T) (w := w) (kind := F_r_plainStep tok wd) (x := 1641 + 6 * sN) k0 (by omega) (by omega) a3 tok3 a3 b3 num3 lt3 wd3 (nI (sN + 1)) (upd (upd g (1641 + 6 * sN) 9) (1641 + 6 * sN + 3) 0)
          rw [hM] at m1 m2 m3
          subst hCS
          exact Or.inr ⟨fl, a3, hL2 fl a3 rfl rfl k0, m1, m2, qFq_t (qFq_u (qFq_u qFq_r (by omega)) (by omega)) m3⟩
  · obtain ⟨hl0, -, ht⟩ := q_ww cw
    have hwn := cw
    simp only [cw, hl0, ↓reduceIte] at hCS hM
    · have e3 : nI 1 < 3 := by decide +kernel
      by_cases c30 : sN = 30
      · have d1 : ¬ nI sN < 30 := fun h9 => by have := (q_s30 hs).1.mp h9; omega
        have d2 := (q_s30 hs).2.mpr c30
        simp only [d1, q_refuse, ↓reduceIte] at hCS
        simp only [d2, q_fail, ↓reduceIte] at hM
        rw [qF_4 (by rw [ht]; decide)] at hCS
        subst hCS
        subst hM
        exact Or.inr ⟨6, a, hL2 6 a rfl rfl q_6p, rfl, rfl, qFq_r⟩
      · have d1 : nI sN < 30 := (q_s30 hs).1.mpr (by omega)
        have d2 : ¬ nI sN = 30 := fun h9 => c30 ((q_s30 hs).2.mp h9)
        obtain ⟨tok3, a3, b3, num3, lt3, wd3, cs3, cn3, cl3, g1, g2', g3, g4⟩ := q_ad (T := T) hn9 hb.1 hb.2 cn cs cl num lt wd
        simp only [d1, e3, g1, ↓reduceIte] at hCS
        simp only [d2, F_r_readStep_1_C97_s, hwn, q_n1, q_xN hs, qnI_s sN, ↓reduceIte] at hM
        generalize hCW : F_Ru_readWhen hf fn n tok3 a3 b3 cn3 cs3 cl3 0 fp T ln (nI sN) as K F Cc N = CW at hCS
        generalize hMW : F_r_readWhen n 0 ba b num lt wd T g w (nI (1641 + 6 * sN)) = MW at hM
        rcases q_when (fp := fp) (ba := ba) hn9 hNm hm (by omega) (by omega) g2' g4 hCW hMW with ⟨tok4, a4, b4, num4, lt4, wd4, cs4, cn4, cl4, l1, l2, l3, l4, l5, l6, gw, y1, y2, k3, k4, hfr⟩ | ⟨fl, p, y0, y1, y2, y3, y4, y5, y6⟩
        · subst y1
          subst y2
          simp only [q_n1, qnI_s sN, ↓reduceIte] at hCS
          simp only at hM
          rcases q_sg01 tok4 num4 59 with s1 | s1
          · have h2p : 0 < (qF tok4 2).toInt := qF_p (by decide +kernel)
            have si := q_isSign k4 59
            rw [s1] at si
            simp only [F_Ru_beginBlock_s, q_sign0 si, ↓reduceIte] at hCS
            rw [F_r_readStep_1_C201_s] at hM
            simp only [s1, q_must0, F_r_readStep_1_L211a_s, ite_self, ↓reduceIte] at hM
            obtain ⟨m1, m2, m3⟩ := q_C239N_1 (n := n) (T := T) (kind := (F_r_plainStep tok wd)) (x := 1641 + 6 * sN) h2p (by omega) (by omega) a4 tok4 a4 b4 num4 lt4 wd4 (nI (sN + 1)) gw
            rw [hM] at m1 m2 m3
            subst hCS
            exact Or.inr ⟨_, a4, hL2 _ a4 rfl rfl h2p, m1, m2, qFq_t hfr m3⟩
          · have si := q_isSign k4 59
            rw [s1] at si
            obtain ⟨tok5, a5, b5, num5, lt5, wd5, cs5, cn5, cl5, j1, j2, j3, j4⟩ := q_ad (T := T) hn9 (q_tkb k4).1 (q_tkb k4).2 cn4 cs4 cl4 num4 lt4 wd4
            have hab4 := k4.2.1
            simp only [F_Ru_beginBlock_s, q_sign1 si j1, q_n1, qnI_s, ↓reduceIte] at hCS
            rw [F_r_readStep_1_C201_s] at hM
            simp only [s1, q_n1, q_must1, j2, ↓reduceIte] at hM
            subst hCS
            have hG2 := hL1 _ _ _ _ _ _ _ _ _ _ _ _ _ _ _ 2 _ _ rfl (show a.toInt < a5.toInt by omega)
            exact qSt_m (show b.toInt ≤ a5.toInt by omega) hfr (q_nest_1 (fp := fp) (ba := ba) hn hNm (kind := (F_r_plainStep tok wd)) (x := 1641 + 6 * sN) (by omega) (by omega) _ (sN + 1) gw tok5 a5 b5 num5 lt5 cs5 cn5 wd5 cl5 C M (by rw [q0]; omega) (by omega) (by rw [hm]; exact ((hfr : qFq g gw) 0 (by omega)).symm) j4 hG2 hM)
        · simp only [y1, y2, y3, ↓reduceIte] at hCS
          rw [y4, y5] at hM
          obtain ⟨m1, m2, m3⟩ := q_C201N_1 (n := n) (T := T) (w := w) (kind := F_r_plainStep tok wd) (x := 1641 + 6 * sN) y0 (by omega) (by omega) p MW.2.2.1 MW.2.2.2.1 MW.2.2.2.2.1 MW.2.2.2.2.2.1 MW.2.2.2.2.2.2.1 MW.2.2.2.2.2.2.2.1 (nI (sN + 1)) MW.2.2.2.2.2.2.2.2
          rw [hM] at m1 m2 m3
          subst hCS
          exact Or.inr ⟨fl, p, hL2 fl p rfl rfl y0, m1, m2, qFq_t y6 m3⟩
theorem q_C201_0 {n : Int32} {T : Nat → Int32} {w : Nat → Int64} {kind : Int32} {x : Nat} (hx : x < 2000) (bad ba tok a b num lt : Int32) (wd : Int64) (s1 : Int32) (g : Nat → Int32) : F_r_readStep_0_C201 n T w 0 kind (nI x) bad ba tok a b num lt wd s1 g = ((qMs n bad ba tok a b num lt wd T).1, (qMs n bad ba tok a b num lt wd T).2.1, (qMs n bad ba tok a b num lt wd T).2.2.1, (qMs n bad ba tok a b num lt wd T).2.2.2.1, (qMs n bad ba tok a b num lt wd T).2.2.2.2.1, (qMs n bad ba tok a b num lt wd T).2.2.2.2.2.1, (qMs n bad ba tok a b num lt wd T).2.2.2.2.2.2.1, (qMs n bad ba tok a b num lt wd T).2.2.2.2.2.2.2, s1, upd g (x + 4) s1) := by
  have x4 : (nI x + 4).toNatClampNeg = x + 4 := q_xc (m := 4) hx (by omega)
  rw [F_r_readStep_0_C201_s]
  unfold qMs
  by_cases c : F_r_isSign tok num 59 = 0
  · simp only [c, F_r_readStep_0_L211a_s, F_r_readStep_0_C239_s, x4, ↓reduceIte]
  · simp only [c, F_r_readStep_0_L211b_s, F_r_readStep_0_C239_s, x4, ↓reduceIte]
theorem q_C239N_0 {n : Int32} {T : Nat → Int32} {kind : Int32} {x : Nat} {bad : Int32} (h : 0 < bad.toInt) (hx0 : 1641 ≤ x) (hx : x < 2000) (ba tok a b num lt : Int32) (wd : Int64) (s1 : Int32) (g : Nat → Int32) : (F_r_readStep_0_C239 n T 1 kind (nI x) bad ba tok a b num lt wd s1 g).1 = bad ∧ (F_r_readStep_0_C239 n T 1 kind (nI x) bad ba tok a b num lt wd s1 g).2.1 = ba ∧ qFq g (F_r_readStep_0_C239 n T 1 kind (nI x) bad ba tok a b num lt wd s1 g).2.2.2.2.2.2.2.2.2 := by
  have x4 : (nI x + 4).toNatClampNeg = x + 4 := q_xc (m := 4) hx (by omega)
  rw [F_r_readStep_0_C239_s]
  by_cases c : F_r_isEnd tok wd = 0
  · by_cases d : F_r_isSign tok num 59 = 0
    · simp only [c, d, q_n1, q_must0N h, q_must1N h, x4, ↓reduceIte]
      exact ⟨by first | trivial | rfl, by first | trivial | rfl, qFq_u qFq_r (by omega)⟩
    · simp only [c, d, q_n1, q_must0N h, q_must1N h, x4, ↓reduceIte]
      exact ⟨by first | trivial | rfl, by first | trivial | rfl, qFq_u qFq_r (by omega)⟩
  · by_cases d : F_r_isSign tok num 59 = 0
    · simp only [c, d, q_n1, q_must0N h, q_must1N h, x4, ↓reduceIte]
      exact ⟨by first | trivial | rfl, by first | trivial | rfl, qFq_u qFq_r (by omega)⟩
    · simp only [c, d, q_n1, q_must0N h, q_must1N h, x4, ↓reduceIte]
      exact ⟨by first | trivial | rfl, by first | trivial | rfl, qFq_u qFq_r (by omega)⟩
theorem q_L211N_0 {n : Int32} {T : Nat → Int32} {w : Nat → Int64} {kind : Int32} {x : Nat} {bad : Int32} (h : 0 < bad.toInt) (hx0 : 1641 ≤ x) (hx : x < 2000) (f : Nat) (hf : 0 < f) (ba tok a b num lt : Int32) (wd : Int64) (s1 : Int32) (g : Nat → Int32) : (F_r_readStep_0_L211b n T w 1 kind (nI x) f g bad ba tok a b num lt wd s1).1 = bad ∧ (F_r_readStep_0_L211b n T w 1 kind (nI x) f g bad ba tok a b num lt wd s1).2.1 = ba ∧ qFq g (F_r_readStep_0_L211b n T w 1 kind (nI x) f g bad ba tok a b num lt wd s1).2.2.2.2.2.2.2.2.2 := by
  cases f with
  | zero => exact absurd hf (Nat.not_lt_zero _)
  | succ f =>
    rw [F_r_readStep_0_L211b_s]
    simp only [q_n1, q_ne0 h, ↓reduceIte]
    exact q_C239N_0 h hx0 hx ba tok a b num lt wd s1 g
theorem q_C201N_0 {n : Int32} {T : Nat → Int32} {w : Nat → Int64} {kind : Int32} {x : Nat} {bad : Int32} (h : 0 < bad.toInt) (hx0 : 1641 ≤ x) (hx : x < 2000) (ba tok a b num lt : Int32) (wd : Int64) (s1 : Int32) (g : Nat → Int32) : (F_r_readStep_0_C201 n T w 1 kind (nI x) bad ba tok a b num lt wd s1 g).1 = bad ∧ (F_r_readStep_0_C201 n T w 1 kind (nI x) bad ba tok a b num lt wd s1 g).2.1 = ba ∧ qFq g (F_r_readStep_0_C201 n T w 1 kind (nI x) bad ba tok a b num lt wd s1 g).2.2.2.2.2.2.2.2.2 := by
  rw [F_r_readStep_0_C201_s]
  by_cases c : F_r_isSign tok num 59 = 0
  · simp only [c, q_must0N h, F_r_readStep_0_L211a_s, ite_self, ↓reduceIte]
    exact q_C239N_0 h hx0 hx ba tok a b num lt wd s1 g
  · simp only [c, q_must1N h, ↓reduceIte]
    exact q_L211N_0 h hx0 hx _ (Nat.succ_pos _) ba tok a b num lt wd s1 g
theorem q_nest_0 {hf n fp ba : Int32} {T : Nat → Int32} {fn w : Nat → Int64} (hn : n.toInt ≤ 300) (hNm : qNm hf 3 fn w 0) {kind : Int32} {x : Nat} (hx0 : 1641 ≤ x) (hx : x < 2000) : ∀ (f2 sN : Nat) (g : Nat → Int32) (tok a b num lt cs cn : Int32) (wd cl : Int64) (C : qLC) (M : qSM), (4600 - 5 * b.toInt + tok.toInt).toNat < f2 → sN ≤ 30 → hf = g 0 → qTk n T tok a b num lt wd cs cn cl → qGo hf fn n T 1 tok a b cn cs cl fp (nI sN) C → F_r_readStep_0_L211b n T w 1 kind (nI x) f2 g 0 ba tok a b num lt wd (nI sN) = M → qSt hf fn n T 0 fp ba a g C M := by
  intro f2
  induction f2 with
  | zero => intro sN g tok a b num lt cs cn wd cl C M h1; exact absurd h1 (Nat.not_lt_zero _)
  | succ f2 ih =>
    intro sN g tok a b num lt cs cn wd cl C M h1 hs hm hT hG hM
    have hn9 : n.toInt ≤ 900 := by omega
    have hb := q_tkb hT
    have hab := hT.2.1
    have x4 : (nI x + 4).toNatClampNeg = x + 4 := q_xc (m := 4) hx (by omega)
    have htk : tok.toInt ≤ 4 ∧ 0 ≤ tok.toInt := by
      rcases hT.2.2.2.1 with c | c | c | c | c <;> rw [c] <;> decide
    rw [F_r_readStep_0_L211b_s] at hM
    by_cases ce : F_r_isEnd tok wd = 0
    · simp only [q_n1, ce, ↓reduceIte] at hM
      by_cases ht : tok = 0
      · subst ht
        have hw0 : F_r_isWhen 0 wd = 0 := by rw [qr_when, qw_n (by decide)]
        have hl0 : F_r_isLoop 0 wd = 0 := by rw [qr_loop, qw_n (by decide)]
        have hp0 : ¬ 0 ≤ F_r_plainStep 0 wd := fun h9 => absurd (q_pk h9) (by decide)
        have h2 : F_r_wrong 0 ba 0 a = (2, a) := by rw [q_wrong]; rfl
        simp only [F_r_readStep_1_s, hw0, hl0, hp0, h2, ↓reduceIte] at hM
        obtain ⟨m1, m2, m3⟩ := q_L211N_0 (n := n) (T := T) (w := w) (kind := kind) (bad := 2) (by decide +kernel) hx0 hx f2 (by omega) a 0 a b num lt wd (nI sN) g
        rw [hM] at m1 m2 m3
        exact Or.inr ⟨2, a, (q_over (by omega) hG).1 (by omega), m1, m2, m3⟩
      · generalize hMS : F_r_readStep_1 n 0 ba tok a b num lt wd (nI sN) T g w = MS at hM
        have hab2 := hT.2.2.2.2.2.1 ht
        have htp : 0 < tok.toInt := by
          rcases hT.2.2.2.1 with c | c | c | c | c
          · exact absurd c ht
          all_goals (rw [c]; decide)
        rcases q_step_1 (fp := fp) (ba := ba) hn hNm tok a b num lt cs cn wd cl sN g C MS hs hm hT ce ht hG hMS with ⟨sN2, g2, tok2, a2, b2, num2, lt2, wd2, cs2, cn2, cl2, e, hs2, hlb, hT2, hg2, hG2⟩ | ⟨fl, p, hbd, e1, e2, e3⟩
        · subst e
          have hme := q_me (f2 := f2) hT2 hlb htp hn9 h1
          exact qSt_m (by omega) hg2 (ih sN2 g2 tok2 a2 b2 num2 lt2 cs2 cn2 wd2 cl2 C M hme hs2 (by rw [hm]; exact (hg2 0 (by omega)).symm) hT2 hG2 hM)
        · have hfl := hbd.1
          rw [e1, e2] at hM
          obtain ⟨m1, m2, m3⟩ := q_L211N_0 (n := n) (T := T) (w := w) (kind := kind) (x := x) hfl hx0 hx f2 (by omega) p MS.2.2.1 MS.2.2.2.1 MS.2.2.2.2.1 MS.2.2.2.2.2.1 MS.2.2.2.2.2.2.1 MS.2.2.2.2.2.2.2.1 MS.2.2.2.2.2.2.2.2.1 MS.2.2.2.2.2.2.2.2.2
          rw [hM] at m1 m2 m3
          exact Or.inr ⟨fl, p, hbd, m1, m2, qFq_t e3 m3⟩
    · have ht := q_ew ce
      have h0 : ¬ tok = 0 := by rw [ht]; decide
      have hab2 := hT.2.2.2.2.2.1 h0
      obtain ⟨tok1, a1, b1, num1, lt1, wd1, cs1, cn1, cl1, f1', f2', f3, f4⟩ := q_ad (T := T) hn9 hb.1 hb.2 cn cs cl num lt wd
      simp only [q_n1, ce, F_r_readStep_0_C239_s, q_must1, f2', x4, ↓reduceIte] at hM
      obtain ⟨B, K, F, Cc, N, P, ln, as, hL⟩ := q_line hn hT h0 hG
      generalize hCS : F_Ru_readStep (nI 1) hf fn n tok a b cn cs cl 0 fp T B ln (nI sN) as K F Cc N P = CS at hL
      obtain ⟨hL1, hL2⟩ := hL CS rfl
      rw [F_Ru_readStep_s] at hCS
      have hd1 : (0 : Int32) < nI 1 := by decide +kernel
      have hd2 : nI 1 - 1 = nI 0 := qnI_sub1 0
      obtain ⟨l1, l2, l3, l4, l5, l6, l7⟩ := q_add0 (ln := ln) (s := nI sN) (as := as) (K := K) (F := F) (Cc := Cc) (N := N) (j := -1) (i1 := 0) (i2 := 0)
      simp only [qi_30 hn9 hT, ce, F_Ru_readEnd_s, hd1, hd2, f1', l7, ↓reduceIte] at hCS
      rcases q_ms (fp := fp) (ba := ba) hn9 f4 with ⟨tok6, a6, b6, num6, lt6, wd6, cs6, cn6, cl6, i1, i2, i3, i4, i5⟩ | ⟨fl, i0, i1, i2⟩
      · have hM2 : M = (0, ba, tok6, a6, b6, num6, lt6, wd6, nI sN, upd g (x + 4) (nI sN)) := by
          unfold qMs at i2
          rcases q_sg01 tok1 num1 59 with s1 | s1
          · rw [if_pos s1, q_must0] at i2
            have h9 := congrArg Prod.fst i2
            exact absurd h9 (q_ne0 (qF_p (by decide +kernel)))
          · rw [if_neg (by rw [s1]; decide), q_must1] at i2
            simp only [Prod.mk.injEq, true_and] at i2
            simp only [s1, q_n1, q_must1, i2, ↓reduceIte] at hM
            exact hM.symm
        rw [i1] at hCS
        subst hCS
        exact Or.inl ⟨sN, _, tok6, a6, b6, num6, lt6, wd6, cs6, cn6, cl6, hM2, hs, by omega, i5, qFq_u qFq_r (by omega), hL1 _ _ _ _ _ _ _ _ _ _ _ _ _ _ _ 0 _ _ rfl (by omega)⟩
      · have hM2 : M = (fl, a1, tok1, a1, b1, num1, lt1, wd1, nI sN, upd g (x + 4) (nI sN)) := by
          unfold qMs at i2
          rcases q_sg01 tok1 num1 59 with s1 | s1
          · rw [if_pos s1] at i2
            simp only [Prod.mk.injEq, and_true] at i2
            simp only [s1, i2, ↓reduceIte] at hM
            exact hM.symm
          · rw [if_neg (by rw [s1]; decide)] at i2
            have h9 := congrArg Prod.fst i2
            exact absurd h9.symm (q_ne0 i0)
        rw [i1] at hCS
        subst hCS
        subst hM2
        exact Or.inr ⟨fl, a1, hL2 fl a1 rfl rfl i0, rfl, rfl, qFq_u qFq_r (by omega)⟩
theorem q_step_0 {hf n fp ba : Int32} {T : Nat → Int32} {fn w : Nat → Int64} (hn : n.toInt ≤ 300) (hNm : qNm hf 3 fn w 0) (tok a b num lt cs cn : Int32) (wd cl : Int64) (sN : Nat) (g : Nat → Int32) (C : qLC) (M : qSM) (hs : sN ≤ 30) (hm : hf = g 0) (hT : qTk n T tok a b num lt wd cs cn cl) (ce : F_r_isEnd tok wd = 0) (h0 : ¬ tok = 0) (hG : qGo hf fn n T 0 tok a b cn cs cl fp (nI sN) C) (hM : F_r_readStep_0 n 0 ba tok a b num lt wd (nI sN) T g w = M) : qSt hf fn n T 0 fp ba b g C M := by
  have hn9 : n.toInt ≤ 900 := by omega
  have hb := q_tkb hT
  have hab := hT.2.2.2.2.2.1 h0
  obtain ⟨B, K, F, Cc, N, P, ln, as, hL⟩ := q_line hn hT h0 hG
  generalize hCS : F_Ru_readStep (nI 0) hf fn n tok a b cn cs cl 0 fp T B ln (nI sN) as K F Cc N P = CS at hL
  obtain ⟨hL1, hL2⟩ := hL CS rfl
  rw [F_Ru_readStep_s] at hCS
  rw [F_r_readStep_0_s] at hM
  simp only [qi_30 hn9 hT, qi_31 hn9 hT, qi_32 hn9 hT, q_plainK hn9 hT, ce, ↓reduceIte] at hCS
  by_cases cw : F_r_isWhen tok wd = 0
  · by_cases cl' : F_r_isLoop tok wd = 0
    · simp only [cw, cl', ↓reduceIte] at hCS hM
      by_cases cp : 0 ≤ F_r_plainStep tok wd
      · have ht := q_pk cp
        have cp1 : ¬ F_r_plainStep tok wd = -1 := fun h9 => by rw [h9] at cp; exact absurd cp (by decide)
        simp only [cp1, ↓reduceIte] at hCS
        simp only [cp, ↓reduceIte] at hM
        by_cases c30 : sN = 30
        · have d1 : ¬ nI sN < 30 := fun h9 => by have := (q_s30 hs).1.mp h9; omega
          have d2 := (q_s30 hs).2.mpr c30
          simp only [d1, q_refuse, ↓reduceIte] at hCS
          simp only [d2, q_fail, ↓reduceIte] at hM
          rw [qF_4 (by rw [ht]; decide)] at hCS
          subst hCS
          subst hM
          exact Or.inr ⟨6, a, hL2 6 a rfl rfl q_6p, rfl, rfl, qFq_r⟩
        · have d1 : nI sN < 30 := (q_s30 hs).1.mpr (by omega)
          have d2 : ¬ nI sN = 30 := fun h9 => c30 ((q_s30 hs).2.mp h9)
          obtain ⟨tok3, a3, b3, num3, lt3, wd3, cs3, cn3, cl3, g1, g2', g3, g4⟩ := q_ad (T := T) hn9 hb.1 hb.2 cn cs cl num lt wd
          have x0 : (nI (1641 + 6 * sN)).toNatClampNeg = 1641 + 6 * sN := qnI_cl (by omega)
          have x1 : (nI (1641 + 6 * sN) + 1).toNatClampNeg = 1641 + 6 * sN + 1 := q_xc (m := 1) (by omega) (by omega)
          simp only [d1, g1, F_Ru_readPlain_s, ↓reduceIte] at hCS
          simp only [d2, F_r_readStep_0_C97_s, cw, q_xN hs, qnI_s sN, g2', x0, x1, ↓reduceIte] at hM
          have hk10 : ¬ F_r_plainStep tok wd = 10 := fun h9 => by
            rw [F_r_plainStep_s] at h9
            revert h9
            simp only []
            repeat' split
            all_goals decide
          by_cases ck : F_r_plainStep tok wd = 0
          · have hm' : hf = upd g (1641 + 6 * sN) (F_r_plainStep tok wd) 0 := by rw [hm]; exact (if_neg (by omega)).symm
            simp only [ck, ↓reduceIte] at hCS
            rw [if_pos ck] at hM
            rcases q_feat (fp := fp) (ba := ba) hn9 hNm hm' g4 with ⟨r, tok4, a4, b4, num4, lt4, wd4, cs4, cn4, cl4, k1, k2, k3, k4', k4⟩ | ⟨fl, r, k0, k1, k2⟩
            · obtain ⟨l1, l2, l3, l4, l5, l6, l7⟩ := q_add1 (ln := ln) (s := nI sN) (as := as) (K := K) (F := F) (Cc := Cc) (N := N) (k := 0) (j := r) (i1 := 0) (i2 := 0) (by decide)
              simp only [k1, q_m1 k3, l7, qnI_s sN, ↓reduceIte] at hCS
              simp only [k2, q_C201_0 (show 1641 + 6 * sN < 2000 by omega)] at hM
              rcases q_ms (fp := fp) (ba := ba) hn9 k4 with ⟨tok6, a6, b6, num6, lt6, wd6, cs6, cn6, cl6, i1, i2, i3, i4, i5⟩ | ⟨fl, i0, i1, i2⟩
              · rw [i1] at hCS
                simp only [i2] at hM
                subst hCS
                subst hM
                exact Or.inl ⟨sN + 1, _, tok6, a6, b6, num6, lt6, wd6, cs6, cn6, cl6, rfl, by omega, by omega, i5, qFq_u (qFq_u (qFq_u qFq_r (by omega)) (by omega)) (by omega), hL1 _ _ _ _ _ _ _ _ _ _ _ _ _ _ _ 0 _ _ rfl (by omega)⟩
              · rw [i1] at hCS
                simp only [i2] at hM
                subst hCS
                subst hM
                exact Or.inr ⟨fl, a4, hL2 fl a4 rfl rfl i0, rfl, rfl, qFq_u (qFq_u (qFq_u qFq_r (by omega)) (by omega)) (by omega)⟩
            · simp only [k1, ↓reduceIte] at hCS
              simp only [k2, q_C201_0 (show 1641 + 6 * sN < 2000 by omega)] at hM
              subst hCS
              subst hM
              exact Or.inr ⟨fl, a3, hL2 fl a3 rfl rfl k0, (q_msN k0 ..).1, (q_msN k0 ..).2, qFq_u (qFq_u (qFq_u qFq_r (by omega)) (by omega)) (by omega)⟩
          · obtain ⟨l1, l2, l3, l4, l5, l6, l7⟩ := q_add1 (ln := ln) (s := nI sN) (as := as) (K := K) (F := F) (Cc := Cc) (N := N) (k := F_r_plainStep tok wd) (j := -1) (i1 := 0) (i2 := 0) hk10
            have k4 := g4
            simp only [ck, l7, qnI_s sN, ↓reduceIte] at hCS
            simp only [ck, q_C201_0 (show 1641 + 6 * sN < 2000 by omega), ↓reduceIte] at hM
            rcases q_ms (fp := fp) (ba := ba) hn9 k4 with ⟨tok6, a6, b6, num6, lt6, wd6, cs6, cn6, cl6, i1, i2, i3, i4, i5⟩ | ⟨fl, i0, i1, i2⟩
            · rw [i1] at hCS
              simp only [i2] at hM
              subst hCS
              subst hM
              exact Or.inl ⟨sN + 1, _, tok6, a6, b6, num6, lt6, wd6, cs6, cn6, cl6, rfl, by omega, by omega, i5, qFq_u (qFq_u qFq_r (by omega)) (by omega), hL1 _ _ _ _ _ _ _ _ _ _ _ _ _ _ _ 0 _ _ rfl (by omega)⟩
            · rw [i1] at hCS
              simp only [i2] at hM
              subst hCS
              subst hM
              exact Or.inr ⟨fl, a3, hL2 fl a3 rfl rfl i0, rfl, rfl, qFq_u (qFq_u qFq_r (by omega)) (by omega)⟩
      · have cp1 : F_r_plainStep tok wd = -1 := by
          rw [F_r_plainStep_s] at cp ⊢
          revert cp
          simp only []
          repeat' split
          all_goals first | (intro _; rfl) | (intro h9; exact absurd (by decide) h9)
        have h2p : 0 < (qF tok 2).toInt := qF_p (by decide +kernel)
        simp only [cp1, q_refuse, ↓reduceIte] at hCS
        simp only [cp, q_wrong, ↓reduceIte] at hM
        subst hCS
        subst hM
        exact Or.inr ⟨_, a, hL2 _ a rfl rfl h2p, rfl, rfl, qFq_r⟩
    · obtain ⟨hwn, -, ht⟩ := q_lw cl'
      simp only [cw, cl', ↓reduceIte] at hCS hM
      have e3 : nI 0 < 3 := by decide +kernel
      by_cases c30 : sN = 30
      · have d1 : ¬ nI sN < 30 := fun h9 => by have := (q_s30 hs).1.mp h9; omega
        have d2 := (q_s30 hs).2.mpr c30
        simp only [d1, q_refuse, ↓reduceIte] at hCS
        simp only [d2, q_fail, ↓reduceIte] at hM
        rw [qF_4 (by rw [ht]; decide)] at hCS
        subst hCS
        subst hM
        exact Or.inr ⟨6, a, hL2 6 a rfl rfl q_6p, rfl, rfl, qFq_r⟩
      · have d1 : nI sN < 30 := (q_s30 hs).1.mpr (by omega)
        have d2 : ¬ nI sN = 30 := fun h9 => c30 ((q_s30 hs).2.mp h9)
        obtain ⟨tok3, a3, b3, num3, lt3, wd3, cs3, cn3, cl3, g1, g2', g3, g4⟩ := q_ad (T := T) hn9 hb.1 hb.2 cn cs cl num lt wd
        simp only [d1, e3, g1, ↓reduceIte] at hCS
        simp only [d2, F_r_readStep_0_C97_s, hwn, q_n1, q_xN hs, qnI_s sN, ↓reduceIte] at hM
        have x0 : (nI (1641 + 6 * sN)).toNatClampNeg = 1641 + 6 * sN := qnI_cl (by omega)
        have x3 : (nI (1641 + 6 * sN) + 3).toNatClampNeg = 1641 + 6 * sN + 3 := q_xc (m := 3) (by omega) (by omega)
        simp only [g2', x0, x3] at hM
        rcases q_num hn9 g4 1 9 fp ba with ⟨r, tok4, a4, b4, num4, lt4, wd4, cs4, cn4, cl4, k1, k2, k3, k4, k5, k6, -⟩ | ⟨fl, k0, k1, k2, -⟩
        · rw [q1] at k5
          obtain ⟨l1, l2, l3, l4, l5, l6, l7⟩ := q_add1 (ln := ln) (s := nI sN) (as := as) (K := K) (F := F) (Cc := Cc) (N := N) (k := 9) (j := -1) (i1 := 0) (i2 := r) (by decide)
          simp only [F_Ru_readLoop_s, k1, q_m1 (show 0 ≤ r.toInt by omega), l7, q_n1, qnI_s sN, ↓reduceIte] at hCS
          simp only [k2] at hM
          have hfr : qFq g (upd (upd g (1641 + 6 * sN) 9) (1641 + 6 * sN + 3) r) := qFq_u (qFq_u qFq_r (by omega)) (by omega)
          rcases q_sg01 tok4 num4 59 with s1 | s1
          · have h2p : 0 < (qF tok4 2).toInt := qF_p (by decide +kernel)
            have si := q_isSign k4 59
            rw [s1] at si
            simp only [F_Ru_beginBlock_s, q_sign0 si, ↓reduceIte] at hCS
            rw [F_r_readStep_0_C201_s] at hM
            simp only [s1, q_must0, F_r_readStep_0_L211a_s, ite_self, ↓reduceIte] at hM
            obtain ⟨m1, m2, m3⟩ := q_C239N_0 (n := n) (T := T) (kind := (F_r_plainStep tok wd)) (x := 1641 + 6 * sN) h2p (by omega) (by omega) a4 tok4 a4 b4 num4 lt4 wd4 (nI (sN + 1)) (upd (upd g (1641 + 6 * sN) 9) (1641 + 6 * sN + 3) r)
            rw [hM] at m1 m2 m3
            subst hCS
            exact Or.inr ⟨_, a4, hL2 _ a4 rfl rfl h2p, m1, m2, qFq_t hfr m3⟩
          · have si := q_isSign k4 59
            rw [s1] at si
            obtain ⟨tok5, a5, b5, num5, lt5, wd5, cs5, cn5, cl5, j1, j2, j3, j4⟩ := q_ad (T := T) hn9 (q_tkb k4).1 (q_tkb k4).2 cn4 cs4 cl4 num4 lt4 wd4
            have hab4 := k4.2.1
            simp only [F_Ru_beginBlock_s, q_sign1 si j1, q_n1, qnI_s, ↓reduceIte] at hCS
            rw [F_r_readStep_0_C201_s] at hM
            simp only [s1, q_n1, q_must1, j2, ↓reduceIte] at hM
            subst hCS
            have hG2 := hL1 _ _ _ _ _ _ _ _ _ _ _ _ _ _ _ 1 _ _ rfl (show a.toInt < a5.toInt by omega)
            exact qSt_m (show b.toInt ≤ a5.toInt by omega) hfr (q_nest_0 (fp := fp) (ba := ba) hn hNm (kind := (F_r_plainStep tok wd)) (x := 1641 + 6 * sN) (by omega) (by omega) _ (sN + 1) (upd (upd g (1641 + 6 * sN) 9) (1641 + 6 * sN + 3) r) tok5 a5 b5 num5 lt5 cs5 cn5 wd5 cl5 C M (by rw [q0]; omega) (by omega) (by rw [hm]; exact ((hfr : qFq g (upd (upd g (1641 + 6 * sN) 9) (1641 + 6 * sN + 3) r)) 0 (by omega)).symm) j4 hG2 hM)
        · simp only [F_Ru_readLoop_s, k1, ↓reduceIte] at hCS
          simp only [k2] at hM
          obtain ⟨m1, m2, m3⟩ := q_C201N_0 (n := n) (T := T) (w := w) (kind := F_r_plainStep tok wd) (x := 1641 + 6 * sN) k0 (by omega) (by omega) a3 tok3 a3 b3 num3 lt3 wd3 (nI (sN + 1)) (upd (upd g (1641 + 6 * sN) 9) (1641 + 6 * sN + 3) 0)
          rw [hM] at m1 m2 m3
          subst hCS
          exact Or.inr ⟨fl, a3, hL2 fl a3 rfl rfl k0, m1, m2, qFq_t (qFq_u (qFq_u qFq_r (by omega)) (by omega)) m3⟩
  · obtain ⟨hl0, -, ht⟩ := q_ww cw
    have hwn := cw
    simp only [cw, hl0, ↓reduceIte] at hCS hM
    · have e3 : nI 0 < 3 := by decide +kernel
      by_cases c30 : sN = 30
      · have d1 : ¬ nI sN < 30 := fun h9 => by have := (q_s30 hs).1.mp h9; omega
        have d2 := (q_s30 hs).2.mpr c30
        simp only [d1, q_refuse, ↓reduceIte] at hCS
        simp only [d2, q_fail, ↓reduceIte] at hM
        rw [qF_4 (by rw [ht]; decide)] at hCS
        subst hCS
        subst hM
        exact Or.inr ⟨6, a, hL2 6 a rfl rfl q_6p, rfl, rfl, qFq_r⟩
      · have d1 : nI sN < 30 := (q_s30 hs).1.mpr (by omega)
        have d2 : ¬ nI sN = 30 := fun h9 => c30 ((q_s30 hs).2.mp h9)
        obtain ⟨tok3, a3, b3, num3, lt3, wd3, cs3, cn3, cl3, g1, g2', g3, g4⟩ := q_ad (T := T) hn9 hb.1 hb.2 cn cs cl num lt wd
        simp only [d1, e3, g1, ↓reduceIte] at hCS
        simp only [d2, F_r_readStep_0_C97_s, hwn, q_n1, q_xN hs, qnI_s sN, ↓reduceIte] at hM
        generalize hCW : F_Ru_readWhen hf fn n tok3 a3 b3 cn3 cs3 cl3 0 fp T ln (nI sN) as K F Cc N = CW at hCS
        generalize hMW : F_r_readWhen n 0 ba b num lt wd T g w (nI (1641 + 6 * sN)) = MW at hM
        rcases q_when (fp := fp) (ba := ba) hn9 hNm hm (by omega) (by omega) g2' g4 hCW hMW with ⟨tok4, a4, b4, num4, lt4, wd4, cs4, cn4, cl4, l1, l2, l3, l4, l5, l6, gw, y1, y2, k3, k4, hfr⟩ | ⟨fl, p, y0, y1, y2, y3, y4, y5, y6⟩
        · subst y1
          subst y2
          simp only [q_n1, qnI_s sN, ↓reduceIte] at hCS
          simp only at hM
          rcases q_sg01 tok4 num4 59 with s1 | s1
          · have h2p : 0 < (qF tok4 2).toInt := qF_p (by decide +kernel)
            have si := q_isSign k4 59
            rw [s1] at si
            simp only [F_Ru_beginBlock_s, q_sign0 si, ↓reduceIte] at hCS
            rw [F_r_readStep_0_C201_s] at hM
            simp only [s1, q_must0, F_r_readStep_0_L211a_s, ite_self, ↓reduceIte] at hM
            obtain ⟨m1, m2, m3⟩ := q_C239N_0 (n := n) (T := T) (kind := (F_r_plainStep tok wd)) (x := 1641 + 6 * sN) h2p (by omega) (by omega) a4 tok4 a4 b4 num4 lt4 wd4 (nI (sN + 1)) gw
            rw [hM] at m1 m2 m3
            subst hCS
            exact Or.inr ⟨_, a4, hL2 _ a4 rfl rfl h2p, m1, m2, qFq_t hfr m3⟩
          · have si := q_isSign k4 59
            rw [s1] at si
            obtain ⟨tok5, a5, b5, num5, lt5, wd5, cs5, cn5, cl5, j1, j2, j3, j4⟩ := q_ad (T := T) hn9 (q_tkb k4).1 (q_tkb k4).2 cn4 cs4 cl4 num4 lt4 wd4
            have hab4 := k4.2.1
            simp only [F_Ru_beginBlock_s, q_sign1 si j1, q_n1, qnI_s, ↓reduceIte] at hCS
            rw [F_r_readStep_0_C201_s] at hM
            simp only [s1, q_n1, q_must1, j2, ↓reduceIte] at hM
            subst hCS
            have hG2 := hL1 _ _ _ _ _ _ _ _ _ _ _ _ _ _ _ 1 _ _ rfl (show a.toInt < a5.toInt by omega)
            exact qSt_m (show b.toInt ≤ a5.toInt by omega) hfr (q_nest_0 (fp := fp) (ba := ba) hn hNm (kind := (F_r_plainStep tok wd)) (x := 1641 + 6 * sN) (by omega) (by omega) _ (sN + 1) gw tok5 a5 b5 num5 lt5 cs5 cn5 wd5 cl5 C M (by rw [q0]; omega) (by omega) (by rw [hm]; exact ((hfr : qFq g gw) 0 (by omega)).symm) j4 hG2 hM)
        · simp only [y1, y2, y3, ↓reduceIte] at hCS
          rw [y4, y5] at hM
          obtain ⟨m1, m2, m3⟩ := q_C201N_0 (n := n) (T := T) (w := w) (kind := F_r_plainStep tok wd) (x := 1641 + 6 * sN) y0 (by omega) (by omega) p MW.2.2.1 MW.2.2.2.1 MW.2.2.2.2.1 MW.2.2.2.2.2.1 MW.2.2.2.2.2.2.1 MW.2.2.2.2.2.2.2.1 (nI (sN + 1)) MW.2.2.2.2.2.2.2.2
          rw [hM] at m1 m2 m3
          subst hCS
          exact Or.inr ⟨fl, p, hL2 fl p rfl rfl y0, m1, m2, qFq_t y6 m3⟩
