def qFq (g g' : Nat → Int32) : Prop := ∀ j : Nat, j < 1640 → g' j = g j
theorem qFq_r {g : Nat → Int32} : qFq g g := fun _ _ => rfl
theorem qFq_u {g g' : Nat → Int32} {k : Nat} {v : Int32} (h : qFq g g') (h1 : 1640 ≤ k) : qFq g (upd g' k v) := fun j hj => by
  rw [show upd g' k v j = g' j from if_neg (by omega)]
  exact h j hj
theorem qFq_t {g g' g'' : Nat → Int32} (h : qFq g g') (k : qFq g' g'') : qFq g g'' := fun j hj => by rw [k j hj, h j hj]
theorem q_add1 {ln s as k j i1 i2 : Int32} {K F Cc N : Nat → Int32} (hk : ¬ k = 10) : ∃ (ln2 as2 : Int32) (K2 F2 C2 N2 : Nat → Int32), F_Ru_add ln s as K F Cc N k j i1 i2 = (ln2, K2, F2, C2, N2, as2, s + 1) := by
  rw [F_Ru_add_s]
  simp only [hk, ↓reduceIte]
  by_cases c : k = 7
  · simp only [c, ↓reduceIte]
    exact ⟨_, _, _, _, _, _, rfl⟩
  · simp only [c, ↓reduceIte]
    exact ⟨_, _, _, _, _, _, rfl⟩
theorem q_add0 {ln s as j i1 i2 : Int32} {K F Cc N : Nat → Int32} : ∃ (ln2 as2 : Int32) (K2 F2 C2 N2 : Nat → Int32), F_Ru_add ln s as K F Cc N 10 j i1 i2 = (ln2, K2, F2, C2, N2, as2, s) := by
  rw [F_Ru_add_s]
  have c : ¬ (10 : Int32) = 7 := by decide
  simp only [c, ↓reduceIte]
  exact ⟨_, _, _, _, _, _, rfl⟩
theorem q_plainK {n : Int32} {T : Nat → Int32} {tok a b num lt : Int32} {wd : Int64} {cs cn : Int32} {cl : Int64} (hn : n.toInt ≤ 900) (h : qTk n T tok a b num lt wd cs cn cl) : F_Ru_plainKind n tok a b T = F_r_plainStep tok wd := by
  rw [F_Ru_plainKind_s, F_r_plainStep_s, qi_33 hn h, qi_34 hn h, qi_35 hn h, qi_36 hn h, qi_37 hn h, qi_38 hn h]
  by_cases c1 : F_r_houseWord tok wd = 11
  · simp only [c1, q_n1, ↓reduceIte]
  · simp only [c1, ↓reduceIte]
    by_cases c2 : F_r_houseWord tok wd = 12
    · simp only [c2, q_n1, ↓reduceIte]
    · simp only [c2, ↓reduceIte]
      by_cases c3 : F_r_houseWord tok wd = 13
      · simp only [c3, q_n1, ↓reduceIte]
      · simp only [c3, ↓reduceIte]
        by_cases c4 : F_r_houseWord tok wd = 14
        · have ht := qh_t (show ¬ F_r_houseWord tok wd = -1 by rw [c4]; decide)
          have hx : F_r_isTurn tok wd = 0 := by
            rw [qr_turn, ht, qw_y]
            by_cases c5 : wd = 677454
            · rw [ht, c5] at c4; exact absurd c4 (by decide +kernel)
            · rw [if_neg c5]
          simp only [c4, hx, q_n1, ↓reduceIte]
        · simp only [c4, ↓reduceIte]
theorem q_feat {n : Int32} {T : Nat → Int32} {tok a b num lt cs cn fp ba hf : Int32} {wd cl : Int64} {fn w : Nat → Int64} {g : Nat → Int32} (hn : n.toInt ≤ 900) (h : qNm hf 3 fn w 0) (hm : hf = g 0) (hT : qTk n T tok a b num lt wd cs cn cl) : (∃ (r : Int32) (tok2 a2 b2 num2 lt2 : Int32) (wd2 : Int64) (cs2 cn2 : Int32) (cl2 : Int64), F_Ru_takeFeature hf fn n tok a b cn cs cl 0 fp T = (r, tok2, a2, b2, cn2, cs2, cl2, 0, fp) ∧ F_r_readFeatureName n 0 ba tok a b num lt wd T g w = (r, tok2, a2, b2, num2, lt2, wd2, 0, ba) ∧ 0 ≤ r.toInt ∧ a.toInt < a2.toInt ∧ qTk n T tok2 a2 b2 num2 lt2 wd2 cs2 cn2 cl2) ∨ (∃ f r : Int32, 0 < f.toInt ∧ F_Ru_takeFeature hf fn n tok a b cn cs cl 0 fp T = (-1, tok, a, b, cn, cs, cl, f, a) ∧ F_r_readFeatureName n 0 ba tok a b num lt wd T g w = (r, tok, a, b, num, lt, wd, f, a)) := by
  rw [F_Ru_takeFeature_s, F_r_readFeatureName_s, q_name hn hT]
  by_cases c : F_r_isHouseName tok lt wd = 0
  · have h2p : 0 < (qF tok 2).toInt := qF_p (by decide +kernel)
    simp only [c, q_refuse, q_wrong, q_must1N h2p, ↓reduceIte]
    exact Or.inr ⟨_, 0, h2p, rfl, rfl⟩
  · obtain ⟨h1, h2, h3, h4⟩ := q_hw c hT
    obtain ⟨e1, e2⟩ := q_nm_h (l := wd) h
    rw [h1]
    simp only [c, qc_0, ← hm, e1, ↓reduceIte]
    by_cases d : F_r_named_0_0 wd w hf = -1
    · have d2 : ¬ (0 : Int32) ≤ F_r_named_0_0 wd w hf := by rw [d]; decide
      have h3p : 0 < (3 : Int32).toInt := q_3p
      simp only [d, d2, q_refuse, q_fail, q_must1N h3p, show ¬ (0 : Int32) ≤ -1 by decide, ↓reduceIte]
      rw [qF_4 (by rw [h4]; decide)]
      exact Or.inr ⟨3, _, h3p, rfl, rfl⟩
    · have e3 := e2.resolve_left d
      have d2 : (0 : Int32) ≤ F_r_named_0_0 wd w hf := by rw [q_le, q0]; exact e3.1
      obtain ⟨tok1, a1, b1, num1, lt1, wd1, cs1, cn1, cl1, f1, f2, f3, f4⟩ := q_ad (T := T) hn (q_tkb hT).1 (q_tkb hT).2 cn cs wd num lt wd
      simp only [d, d2, q_must1, f1, f2, ↓reduceIte]
      exact Or.inl ⟨_, tok1, a1, b1, num1, lt1, wd1, cs1, cn1, cl1, rfl, rfl, e3.1, by omega, f4⟩
abbrev qWC : Type := Int32 × Int32 × Int32 × Int32 × Int32 × Int32 × Int64 × Int32 × Int32 × Int32 × Int32 × Int32 × (Nat → Int32) × (Nat → Int32) × (Nat → Int32) × (Nat → Int32)
abbrev qWM : Type := Int32 × Int32 × Int32 × Int32 × Int32 × Int32 × Int32 × Int64 × (Nat → Int32)
def qWR (n : Int32) (T : Nat → Int32) (fp ba s lb : Int32) (g : Nat → Int32) (C : qWC) (M : qWM) : Prop := (∃ (tok2 a2 b2 num2 lt2 : Int32) (wd2 : Int64) (cs2 cn2 : Int32) (cl2 : Int64) (ln as : Int32) (K2 F2 C2 N2 g2 : Nat → Int32), C = (1, tok2, a2, b2, cn2, cs2, cl2, 0, fp, ln, s + 1, as, K2, F2, C2, N2) ∧ M = (0, ba, tok2, a2, b2, num2, lt2, wd2, g2) ∧ lb.toInt ≤ a2.toInt ∧ qTk n T tok2 a2 b2 num2 lt2 wd2 cs2 cn2 cl2 ∧ qFq g g2) ∨ (∃ fl p : Int32, 0 < fl.toInt ∧ C.1 = 0 ∧ C.2.2.2.2.2.2.2.1 = fl ∧ C.2.2.2.2.2.2.2.2.1 = p ∧ M.1 = fl ∧ M.2.1 = p ∧ qFq g M.2.2.2.2.2.2.2.2)
theorem q_cmpr {n : Int32} {T : Nat → Int32} {tok a b num lt cs cn fp : Int32} {wd cl : Int64} (hn : n.toInt ≤ 900) (hT : qTk n T tok a b num lt wd cs cn cl) : (tok = 3 ∧ (F_r_isSign tok num 60 = 1 ∨ F_r_isSign tok num 62 = 1 ∨ F_r_isSign tok num 61 = 1) ∧ ¬ cs = -1 ∧ ∃ (tok2 a2 b2 num2 lt2 : Int32) (wd2 : Int64) (cs2 cn2 : Int32) (cl2 : Int64), F_Te_takeCompare n tok a b cn cs cl 0 fp T = (cs, tok2, a2, b2, cn2, cs2, cl2, 0, fp) ∧ F_r_next2 n b num lt wd T = (tok2, a2, b2, num2, lt2, wd2) ∧ a.toInt < a2.toInt ∧ qTk n T tok2 a2 b2 num2 lt2 wd2 cs2 cn2 cl2) ∨ (F_r_isSign tok num 60 = 0 ∧ F_r_isSign tok num 62 = 0 ∧ F_r_isSign tok num 61 = 0 ∧ F_Te_takeCompare n tok a b cn cs cl 0 fp T = (-1, tok, a, b, cn, cs, cl, qF tok 2, a)) := by
  have key : ∀ k : Int32, ¬ k = -1 → F_r_isSign tok num k = 1 → tok = 3 ∧ ¬ cs = -1 := fun k hk h => by
    rw [F_r_isSign_s] at h
    by_cases c : tok = 3
    · rw [if_pos c] at h
      have e := hT.2.2.2.2.2.2.2.1 c
      by_cases d : num = k
      · exact ⟨c, by rw [e, d]; exact hk⟩
      · rw [if_neg d] at h; exact absurd h (by decide)
    · rw [if_neg c] at h; exact absurd h (by decide)
  obtain ⟨tok1, a1, b1, num1, lt1, wd1, cs1, cn1, cl1, f1, f2, f3, f4⟩ := q_ad (T := T) hn (q_tkb hT).1 (q_tkb hT).2 cn cs cl num lt wd
  rcases q_sg01 tok num 60 with c1 | c1
  · rcases q_sg01 tok num 62 with c2 | c2
    · rcases q_sg01 tok num 61 with c3 | c3
      · refine Or.inr ⟨c1, c2, c3, ?_⟩
        rw [F_Te_takeCompare_s]
        simp only [q_isSign hT, c1, c2, c3, q_refuse, ↓reduceIte]
      · obtain ⟨k1, k2⟩ := key 61 (by decide) c3
        have hab := hT.2.2.2.2.2.1 (by rw [k1]; decide)
        refine Or.inl ⟨k1, Or.inr (Or.inr c3), k2, tok1, a1, b1, num1, lt1, wd1, cs1, cn1, cl1, ?_, f2, by omega, f4⟩
        rw [F_Te_takeCompare_s]
        simp only [q_isSign hT, c1, c2, c3, q_n1, f1, ↓reduceIte]
    · obtain ⟨k1, k2⟩ := key 62 (by decide) c2
      have hab := hT.2.2.2.2.2.1 (by rw [k1]; decide)
      refine Or.inl ⟨k1, Or.inr (Or.inl c2), k2, tok1, a1, b1, num1, lt1, wd1, cs1, cn1, cl1, ?_, f2, by omega, f4⟩
      rw [F_Te_takeCompare_s]
      simp only [q_isSign hT, c1, c2, q_n1, f1, ↓reduceIte]
  · obtain ⟨k1, k2⟩ := key 60 (by decide) c1
    have hab := hT.2.2.2.2.2.1 (by rw [k1]; decide)
    refine Or.inl ⟨k1, Or.inl c1, k2, tok1, a1, b1, num1, lt1, wd1, cs1, cn1, cl1, ?_, f2, by omega, f4⟩
    rw [F_Te_takeCompare_s]
    simp only [q_isSign hT, c1, q_n1, f1, ↓reduceIte]
theorem q_when {n : Int32} {T : Nat → Int32} {b0 num0 lt0 tok a b num lt cs cn fp ba hf ln s as : Int32} {wd0 wd cl : Int64} {fn w : Nat → Int64} {g K F Cc N : Nat → Int32} {xN : Nat} {C : qWC} {M : qWM} (hn : n.toInt ≤ 900) (h : qNm hf 3 fn w 0) (hm : hf = g 0) (hx : 1641 ≤ xN) (hx2 : xN < 2000) (e2 : F_r_next2 n b0 num0 lt0 wd0 T = (tok, a, b, num, lt, wd)) (hT : qTk n T tok a b num lt wd cs cn cl) (hC : F_Ru_readWhen hf fn n tok a b cn cs cl 0 fp T ln s as K F Cc N = C) (hM : F_r_readWhen n 0 ba b0 num0 lt0 wd0 T g w (nI xN) = M) : qWR n T fp ba s a g C M := by
  rw [F_Ru_readWhen_s, qi_39 hn hT, qi_40 hn hT] at hC
  rw [F_r_readWhen_s] at hM
  have x0 : (nI xN).toNatClampNeg = xN := qnI_cl (by omega)
  have x1 : (nI xN + 1).toNatClampNeg = xN + 1 := by rw [qnI_s, qnI_cl (by omega)]
  have x2 : (nI xN + 2).toNatClampNeg = xN + 2 := by
    show (nI xN + nI 2).toNatClampNeg = _
    rw [nI_add, qnI_cl (by omega)]
  have x3 : (nI xN + 3).toNatClampNeg = xN + 3 := by
    show (nI xN + nI 3).toNatClampNeg = _
    rw [nI_add, qnI_cl (by omega)]
  simp only [e2, x0, x1, x2, x3] at hM
  have hb := q_tkb hT
  have hab := hT.2.1
  rcases qw_01 tok wd 202132 with c1 | c1
  · rw [← qr_felt] at c1
    simp only [c1, ↓reduceIte] at hC hM
    rcases qw_01 tok wd 21570724 with c2 | c2
    · rw [← qr_tried] at c2
      have hi := qi_41 hn hT
      simp only [c2, ↓reduceIte] at hC
      rcases qw_01 tok wd 644677 with c3 | c3
      · rw [← qr_sure] at c3
        rw [c3] at hi
        have h2p : 0 < (qF tok 2).toInt := qF_p (by decide +kernel)
        simp only [q_word0 hi, ↓reduceIte] at hC
        simp only [c3, c2, q_must0, ↓reduceIte] at hM
        subst hC
        subst hM
        exact Or.inr ⟨_, a, h2p, rfl, rfl, rfl, rfl, rfl, qFq_u qFq_r (by omega)⟩
      · rw [← qr_sure] at c3
        rw [c3] at hi
        obtain ⟨tok3, a3, b3, num3, lt3, wd3, cs3, cn3, cl3, g1, g2, g3, g4⟩ := q_ad (T := T) hn hb.1 hb.2 cn cs cl num lt wd
        simp only [q_word1 hi g1, q_n1, ↓reduceIte] at hC
        simp only [c3, q_n1, g2, ↓reduceIte] at hM
        rcases q_num hn g4 0 16 fp ba with ⟨r, tok4, a4, b4, num4, lt4, wd4, cs4, cn4, cl4, k1, k2, k3, k4, k5, k6, -⟩ | ⟨fl, k0, k1, k2, -⟩
        · rw [q0] at k5
          obtain ⟨l1, l2, l3, l4, l5, l6, l7⟩ := q_add1 (ln := ln) (s := s) (as := as) (K := K) (F := F) (Cc := Cc) (N := N) (k := 7) (j := -1) (i1 := 0) (i2 := r) (by decide)
          simp only [k1, q_m1 k5, l7, ↓reduceIte] at hC
          simp only [k2] at hM
          subst hC
          subst hM
          exact Or.inl ⟨tok4, a4, b4, num4, lt4, wd4, cs4, cn4, cl4, l1, l2, l3, l4, l5, l6, _, rfl, rfl, by omega, k4, qFq_u (qFq_u qFq_r (by omega)) (by omega)⟩
        · simp only [k1, ↓reduceIte] at hC
          simp only [k2] at hM
          subst hC
          subst hM
          exact Or.inr ⟨fl, a3, k0, rfl, rfl, rfl, rfl, rfl, qFq_u (qFq_u qFq_r (by omega)) (by omega)⟩
    · have hsu : F_r_isSure tok wd = 0 := by
        by_cases ct : tok = 1
        · rw [qr_sure, ct, qw_y]
          rw [ct, qw_y] at c2
          by_cases cw : wd = 21570724
          · rw [if_neg (by rw [cw]; decide)]
          · rw [if_neg cw] at c2; exact absurd c2 (by decide)
        · rw [qw_n ct] at c2; exact absurd c2 (by decide)
      rw [← qr_tried] at c2
      obtain ⟨tok3, a3, b3, num3, lt3, wd3, cs3, cn3, cl3, g1, g2, g3, g4⟩ := q_ad (T := T) hn hb.1 hb.2 cn cs cl num lt wd
      obtain ⟨l1, l2, l3, l4, l5, l6, l7⟩ := q_add1 (ln := ln) (s := s) (as := as) (K := K) (F := F) (Cc := Cc) (N := N) (k := 8) (j := -1) (i1 := 0) (i2 := 0) (by decide)
      simp only [c2, q_n1, g1, l7, ↓reduceIte] at hC
      simp only [hsu, c2, q_n1, q_must1, g2, ↓reduceIte] at hM
      subst hC
      subst hM
      exact Or.inl ⟨tok3, a3, b3, num3, lt3, wd3, cs3, cn3, cl3, l1, l2, l3, l4, l5, l6, _, rfl, rfl, by omega, g4, qFq_u qFq_r (by omega)⟩
  · rw [← qr_felt] at c1
    obtain ⟨tok3, a3, b3, num3, lt3, wd3, cs3, cn3, cl3, g1, g2, g3, g4⟩ := q_ad (T := T) hn hb.1 hb.2 cn cs cl num lt wd
    simp only [c1, q_n1, g1, ↓reduceIte] at hC
    simp only [c1, q_n1, g2, ↓reduceIte] at hM
    have hm' : hf = upd g xN 6 0 := by rw [hm]; exact (if_neg (by omega)).symm
    rcases q_feat (fp := fp) (ba := ba) hn h hm' g4 with ⟨r, tok4, a4, b4, num4, lt4, wd4, cs4, cn4, cl4, k1, k2, k3, k4, k5⟩ | ⟨fl, r, k0, k1, k2⟩
    · simp only [k1, q_m1 k3, ↓reduceIte] at hC
      simp only [k2] at hM
      rcases q_cmpr (fp := fp) hn k5 with ⟨d1, d2, d3, tok5, a5, b5, num5, lt5, wd5, cs5, cn5, cl5, j1, j2, j3, j4⟩ | ⟨d1, d2, d3, d4⟩
      · simp only [j1, d3, ↓reduceIte] at hC
        have hM2 : (F_r_count n 0 ba tok5 a5 b5 num5 lt5 wd5 T 0 3).2.1 = M.1 ∧ (F_r_count n 0 ba tok5 a5 b5 num5 lt5 wd5 T 0 3).2.2.1 = M.2.1 ∧ (F_r_count n 0 ba tok5 a5 b5 num5 lt5 wd5 T 0 3).2.2.2 = (M.2.2.1, M.2.2.2.1, M.2.2.2.2.1, M.2.2.2.2.2.1, M.2.2.2.2.2.2.1, M.2.2.2.2.2.2.2.1) ∧ qFq g M.2.2.2.2.2.2.2.2 := by
          rcases q_sg01 tok4 num4 60 with s1 | s1
          · rcases q_sg01 tok4 num4 62 with s2 | s2
            · have s3 : F_r_isSign tok4 num4 61 = 1 := by
                rcases d2 with d | d | d
                · rw [s1] at d; exact absurd d (by decide)
                · rw [s2] at d; exact absurd d (by decide)
                · exact d
              simp only [d1] at s1 s2 s3
              simp only [d1, s1, s2, s3, q_n1, q_must1, j2, ↓reduceIte] at hM
              subst hM
              exact ⟨rfl, rfl, rfl, qFq_u (qFq_u (qFq_u (qFq_u qFq_r (by omega)) (by omega)) (by omega)) (by omega)⟩
            · simp only [d1] at s1 s2
              simp only [d1, s1, s2, q_n1, q_must1, j2, ↓reduceIte] at hM
              subst hM
              exact ⟨rfl, rfl, rfl, qFq_u (qFq_u (qFq_u (qFq_u qFq_r (by omega)) (by omega)) (by omega)) (by omega)⟩
          · simp only [d1] at s1
            simp only [d1, s1, q_n1, q_must1, j2, ↓reduceIte] at hM
            subst hM
            exact ⟨rfl, rfl, rfl, qFq_u (qFq_u (qFq_u (qFq_u qFq_r (by omega)) (by omega)) (by omega)) (by omega)⟩
        obtain ⟨M1, M2, M3, M4, M5, M6, M7, M8, M9⟩ := M
        obtain ⟨y1, y2, y3, y4⟩ := hM2
        rcases q_num hn j4 0 3 fp ba with ⟨r2, tok6, a6, b6, num6, lt6, wd6, cs6, cn6, cl6, i1, i2, i3, i4, i5, i6, -⟩ | ⟨fl, i0, i1, i2, -⟩
        · rw [q0] at i5
          obtain ⟨l1, l2, l3, l4, l5, l6, l7⟩ := q_add1 (ln := ln) (s := s) (as := as) (K := K) (F := F) (Cc := Cc) (N := N) (k := 6) (j := r) (i1 := cs4) (i2 := r2) (by decide)
          simp only [i1, q_m1 i5, l7, ↓reduceIte] at hC
          simp only [i2, Prod.mk.injEq] at y1 y2 y3
          obtain ⟨z1, z2, z3, z4, z5, z6⟩ := y3
          subst hC
          refine Or.inl ⟨tok6, a6, b6, num6, lt6, wd6, cs6, cn6, cl6, l1, l2, l3, l4, l5, l6, M9, rfl, ?_, by omega, i4, y4⟩
          rw [← y1, ← y2, ← z1, ← z2, ← z3, ← z4, ← z5, ← z6]
        · simp only [i1, ↓reduceIte] at hC
          simp only [i2] at y1 y2
          subst hC
          exact Or.inr ⟨fl, a5, i0, rfl, rfl, rfl, y1.symm, y2.symm, y4⟩
      · have h2p : 0 < (qF tok4 2).toInt := qF_p (by decide +kernel)
        simp only [d4, ↓reduceIte] at hC
        simp only [d1, d2, d3, q_must0, q_countN h2p, ↓reduceIte] at hM
        subst hC
        by_cases ct : tok4 = 3
        · rw [if_pos ct] at hM
          subst hM
          exact Or.inr ⟨_, a4, h2p, rfl, rfl, rfl, rfl, rfl, qFq_u (qFq_u (qFq_u (qFq_u qFq_r (by omega)) (by omega)) (by omega)) (by omega)⟩
        · rw [if_neg ct] at hM
          subst hM
          exact Or.inr ⟨_, a4, h2p, rfl, rfl, rfl, rfl, rfl, qFq_u (qFq_u (qFq_u (qFq_u qFq_r (by omega)) (by omega)) (by omega)) (by omega)⟩
    · simp only [k1, ↓reduceIte] at hC
      simp only [k2, q_must1N k0, q_must0N k0, q_countN k0] at hM
      subst hC
      have hM2 : M.1 = fl ∧ M.2.1 = a3 ∧ qFq g M.2.2.2.2.2.2.2.2 := by
        by_cases ct : tok3 = 3
        · rw [if_pos ct] at hM
          rcases q_sg01 tok3 num3 60 with s1 | s1
          · rcases q_sg01 tok3 num3 62 with s2 | s2
            · rcases q_sg01 tok3 num3 61 with s3 | s3
              · rw [if_pos s1, if_pos s2, if_pos s3] at hM
                subst hM
                exact ⟨rfl, rfl, qFq_u (qFq_u (qFq_u (qFq_u qFq_r (by omega)) (by omega)) (by omega)) (by omega)⟩
              · rw [if_pos s1, if_pos s2, if_neg (by rw [s3]; decide)] at hM
                subst hM
                exact ⟨rfl, rfl, qFq_u (qFq_u (qFq_u (qFq_u qFq_r (by omega)) (by omega)) (by omega)) (by omega)⟩
            · rw [if_pos s1, if_neg (by rw [s2]; decide)] at hM
              subst hM
              exact ⟨rfl, rfl, qFq_u (qFq_u (qFq_u (qFq_u qFq_r (by omega)) (by omega)) (by omega)) (by omega)⟩
          · rw [if_neg (by rw [s1]; decide)] at hM
            subst hM
            exact ⟨rfl, rfl, qFq_u (qFq_u (qFq_u (qFq_u qFq_r (by omega)) (by omega)) (by omega)) (by omega)⟩
        · rw [if_neg ct] at hM
          rcases q_sg01 tok3 num3 60 with s1 | s1
          · rcases q_sg01 tok3 num3 62 with s2 | s2
            · rcases q_sg01 tok3 num3 61 with s3 | s3
              · rw [if_pos s1, if_pos s2, if_pos s3] at hM
                subst hM
                exact ⟨rfl, rfl, qFq_u (qFq_u (qFq_u (qFq_u qFq_r (by omega)) (by omega)) (by omega)) (by omega)⟩
              · rw [if_pos s1, if_pos s2, if_neg (by rw [s3]; decide)] at hM
                subst hM
                exact ⟨rfl, rfl, qFq_u (qFq_u (qFq_u (qFq_u qFq_r (by omega)) (by omega)) (by omega)) (by omega)⟩
            · rw [if_pos s1, if_neg (by rw [s2]; decide)] at hM
              subst hM
              exact ⟨rfl, rfl, qFq_u (qFq_u (qFq_u (qFq_u qFq_r (by omega)) (by omega)) (by omega)) (by omega)⟩
          · rw [if_neg (by rw [s1]; decide)] at hM
            subst hM
            exact ⟨rfl, rfl, qFq_u (qFq_u (qFq_u (qFq_u qFq_r (by omega)) (by omega)) (by omega)) (by omega)⟩
      exact Or.inr ⟨fl, a3, k0, rfl, rfl, rfl, hM2.1, hM2.2.1, hM2.2.2⟩
