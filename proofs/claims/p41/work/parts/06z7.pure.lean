theorem q_kp4 {g : Nat → Int32} {f : Nat} {v : Int32} (hf : f < 4) : F_keepAt_4 g (nI f) v = upd g f v := by
  have e1 : (nI f).toInt = (f : Int) := nI_toInt (by omega)
  rw [F_keepAt_4_s, if_neg (by rw [q_nlt, q0, e1]; omega), if_neg (by rw [q_nle, e1, q4]; omega)]
  show upd g (nI f).toNatClampNeg v = _
  rw [qnI_cl (by omega)]
theorem q_setS {g : Nat → Int32} {f : Nat} {v : Int32} (hf : f < 4) : F_H_setSeconds g (nI f) v = upd g f v := by
  rw [F_H_setSeconds_s]
  simp only [q_kp4 hf]
theorem q_secN {bad : Int32} (h : 0 < bad.toInt) (n : Int32) (T : Nat → Int32) : ∀ (f k : Nat) (g : Nat → Int32) (ba tok a b num lt : Int32) (wd : Int64) (M : Int32 × Int32 × Int32 × Int32 × Int32 × Int32 × Int32 × Int64 × Int32 × (Nat → Int32)), (2147483647 - (nI k).toInt).toNat < f → k ≤ 4 → F_r_readSeconds_L35a n T f (nI k) g bad ba tok a b num lt wd = M → M.1 = bad ∧ M.2.1 = ba ∧ qSm g M.2.2.2.2.2.2.2.2.2 1465 1469 := by
  intro f
  induction f with
  | zero => intro k g ba tok a b num lt wd M h1; exact absurd h1 (Nat.not_lt_zero _)
  | succ f ih =>
    intro k g ba tok a b num lt wd M h1 hk hM
    have ek : (nI k).toInt = (k : Int) := nI_toInt (by omega)
    have ek1 : (nI (k + 1)).toInt = ((k + 1 : Nat) : Int) := nI_toInt (by omega)
    rw [F_r_readSeconds_L35a_s] at hM
    by_cases c : (4 : Int32) ≤ nI k
    · simp only [c, ↓reduceIte] at hM
      subst hM
      exact ⟨rfl, rfl, qSm_r⟩
    · have c' : k < 4 := by rw [q_nle, q4] at c; omega
      simp only [c, q_must1N h, q_must0N h, q_countN h, qnI_s k, ite_self, ↓reduceIte] at hM
      have x1 : ((1465 : Int32) + nI k).toNatClampNeg = 1465 + k := by
        show (nI 1465 + nI k).toNatClampNeg = _
        rw [nI_add, qnI_cl (by omega)]
      rw [x1] at hM
      obtain ⟨i1, i2, i3⟩ := ih (k + 1) _ _ _ _ _ _ _ _ M (by omega) (by omega) hM
      refine ⟨i1, i2, fun j hj => ?_⟩
      rw [i3 j hj]
      exact if_neg (by omega)
abbrev qSC : Type := Int32 × Int32 × Int32 × Int32 × Int32 × Int32 × Int32 × Int64 × Int32 × Int32 × (Nat → Int32)
abbrev qSM : Type := Int32 × Int32 × Int32 × Int32 × Int32 × Int32 × Int32 × Int64 × Int32 × (Nat → Int32)
def qSR (n : Int32) (T : Nat → Int32) (fp ba : Int32) (g0 : Nat → Int32) (a : Int32) (C : qSC) (M : qSM) : Prop := (∃ (se' g' : Nat → Int32) (tok2 a2 b2 num2 lt2 : Int32) (wd2 : Int64) (cs2 cn2 : Int32) (cl2 : Int64) (zt za zb zn zl : Int32) (zw : Int64), C = (1, 1, tok2, a2, b2, cn2, cs2, cl2, 0, fp, se') ∧ M = (0, ba, zt, za, zb, zn, zl, zw, 1, g') ∧ qMs n 0 ba zt za zb zn zl zw T = (0, ba, tok2, a2, b2, num2, lt2, wd2) ∧ a.toInt < a2.toInt ∧ qTk n T tok2 a2 b2 num2 lt2 wd2 cs2 cn2 cl2 ∧ qSm g0 g' 1465 1469 ∧ ∀ i : Nat, i < 4 → se' i = g' (1465 + i)) ∨ (∃ (fl p : Int32), 0 < fl.toInt ∧ C.1 = 0 ∧ C.2.2.2.2.2.2.2.2.1 = fl ∧ C.2.2.2.2.2.2.2.2.2.1 = p ∧ (qMs n M.1 M.2.1 M.2.2.1 M.2.2.2.1 M.2.2.2.2.1 M.2.2.2.2.2.1 M.2.2.2.2.2.2.1 M.2.2.2.2.2.2.2.1 T).1 = fl ∧ (qMs n M.1 M.2.1 M.2.2.1 M.2.2.2.1 M.2.2.2.2.1 M.2.2.2.2.2.1 M.2.2.2.2.2.2.1 M.2.2.2.2.2.2.2.1 T).2.1 = p ∧ qFr g0 M.2.2.2.2.2.2.2.2.2)
theorem qSR_m {n : Int32} {T : Nat → Int32} {fp ba : Int32} {g : Nat → Int32} {a a1 : Int32} {C : qSC} {M : qSM} (h : a.toInt ≤ a1.toInt) (q : qSR n T fp ba g a1 C M) : qSR n T fp ba g a C M := by
  rcases q with ⟨x1, x2, x3, x4, x5, x6, x7, x8, x9, x10, x11, x12, x13, x14, x15, x16, x17, y1, y2, y3, y4, y5⟩ | q
  · exact Or.inl ⟨x1, x2, x3, x4, x5, x6, x7, x8, x9, x10, x11, x12, x13, x14, x15, x16, x17, y1, y2, y3, by omega, y5⟩
  · exact Or.inr q
theorem q_secL {n : Int32} {T : Nat → Int32} {fp ba : Int32} {g0 : Nat → Int32} (hn : n.toInt ≤ 900) : ∀ (f1 f2 k : Nat) (se g : Nat → Int32) (tok a b num lt cs cn : Int32) (wd cl : Int64) (C : qSC) (M : qSM), (2147483647 - (nI k).toInt).toNat < f1 → (2147483647 - (nI k).toInt).toNat < f2 → k ≤ 4 → qTk n T tok a b num lt wd cs cn cl → qSm g0 g 1465 1469 → (∀ i : Nat, i < k → se i = g (1465 + i)) → F_Ho_readSeconds_L30a n T f1 (nI k) se tok a b cn cs cl 0 fp = C → F_r_readSeconds_L35a n T f2 (nI k) g 0 ba tok a b num lt wd = M → qSR n T fp ba g0 a C M := by
  intro f1
  induction f1 with
  | zero => intro f2 k se g tok a b num lt cs cn wd cl C M h1; exact absurd h1 (Nat.not_lt_zero _)
  | succ f1 ih =>
    intro f2 k se g tok a b num lt cs cn wd cl C M h1 h2 hk hT hg hse hC hM
    cases f2 with
    | zero => exact absurd h2 (Nat.not_lt_zero _)
    | succ f2 =>
      have ek : (nI k).toInt = (k : Int) := nI_toInt (by omega)
      have ek1 : (nI (k + 1)).toInt = ((k + 1 : Nat) : Int) := nI_toInt (by omega)
      have hb := q_tkb hT
      rw [F_Ho_readSeconds_L30a_s] at hC
      rw [F_r_readSeconds_L35a_s] at hM
      rcases (show k = 0 ∨ k = 1 ∨ k = 2 ∨ k = 3 ∨ k = 4 by omega) with rfl | rfl | rfl | rfl | rfl
      · have hi := qi_25 hn hT
        have ez : (nI 0).toInt = 0 := by decide +kernel
        have ez1 : (nI 1).toInt = 1 := by decide +kernel
        have c3 : ¬ (3 : Int32) < nI 0 := by decide +kernel
        have c4 : ¬ (4 : Int32) ≤ nI 0 := by decide +kernel
        have e11 : (11 : Int32) + nI 0 = 11 := by decide +kernel
        have x1 : ((1465 : Int32) + nI 0).toNatClampNeg = 1465 := by decide +kernel
        simp only [c3, ez, qnI_s, ↓reduceIte] at hC
        simp only [c4, e11, x1, qnI_s, ↓reduceIte] at hM
        by_cases c : F_r_houseWord tok wd = 11
        · rw [if_pos c] at hi
          have ht := qh_t (show ¬ F_r_houseWord tok wd = -1 by rw [c]; decide)
          have hab := hT.2.2.2.2.2.1 (by rw [ht]; decide)
          obtain ⟨tok3, a3, b3, num3, lt3, wd3, cs3, cn3, cl3, g1, g2, g3, g4⟩ := q_ad (T := T) hn hb.1 hb.2 cn cs cl num lt wd
          simp only [q_word1 hi g1, q_n1, ↓reduceIte] at hC
          simp only [c, q_must1, g2, ↓reduceIte] at hM
          rcases q_num hn g4 1 99 fp ba with ⟨r, tok4, a4, b4, num4, lt4, wd4, cs4, cn4, cl4, k1, k2, k3, k4, k5, k6, -⟩ | ⟨fl, k0, k1, k2, -⟩
          · rw [q1] at k5
            simp only [k1, q_m1 (show 0 ≤ r.toInt by omega), q_setS (g := se) (v := r) (show 0 < 4 by omega), ↓reduceIte] at hC
            simp only [k2] at hM
            refine qSR_m (show a.toInt ≤ a4.toInt by omega) (ih f2 1 _ _ tok4 a4 b4 num4 lt4 cs4 cn4 wd4 cl4 C M (by omega) (by omega) (by omega) k4 (qSm_u hg (by omega) (by omega)) (fun i hi => ?_) hC hM)
            unfold upd
            by_cases ci : i = 0
            · rw [if_pos ci, if_pos (by omega)]
            · rw [if_neg ci, if_neg (by omega)]
              exact hse i (by omega)
          · simp only [k1, ↓reduceIte] at hC
            simp only [k2] at hM
            obtain ⟨m1, m2, m3⟩ := q_secN k0 n T f2 1 _ _ _ _ _ _ _ _ M (by omega) (by omega) hM
            subst hC
            exact Or.inr ⟨fl, a3, k0, rfl, rfl, rfl, by rw [m1]; exact (q_msN k0 ..).1, by rw [m1, m2]; exact (q_msN k0 ..).2, qFr_t (qFr_u (qFr_s hg (by omega) (by omega)) (by omega) (by omega)) (qFr_s m3 (by omega) (by omega))⟩
        · rw [if_neg c] at hi
          have h2p : 0 < (qF tok 2).toInt := qF_p (by decide +kernel)
          simp only [q_word0 hi, ↓reduceIte] at hC
          simp only [c, q_must0, q_countN h2p, ↓reduceIte] at hM
          obtain ⟨m1, m2, m3⟩ := q_secN h2p n T f2 1 _ _ _ _ _ _ _ _ M (by omega) (by omega) hM
          subst hC
          exact Or.inr ⟨_, a, h2p, rfl, rfl, rfl, by rw [m1]; exact (q_msN h2p ..).1, by rw [m1, m2]; exact (q_msN h2p ..).2, qFr_t (qFr_u (qFr_s hg (by omega) (by omega)) (by omega) (by omega)) (qFr_s m3 (by omega) (by omega))⟩
      · have hi := qi_26 hn hT
        have ez : (nI 1).toInt = 1 := by decide +kernel
        have ez1 : (nI 2).toInt = 2 := by decide +kernel
        have c3 : ¬ (3 : Int32) < nI 1 := by decide +kernel
        have c4 : ¬ (4 : Int32) ≤ nI 1 := by decide +kernel
        have e11 : (11 : Int32) + nI 1 = 12 := by decide +kernel
        have x1 : ((1465 : Int32) + nI 1).toNatClampNeg = 1466 := by decide +kernel
        simp only [c3, ez, show ¬ ((1 : Int) = 0) by decide, qnI_s, ↓reduceIte] at hC
        simp only [c4, e11, x1, qnI_s, ↓reduceIte] at hM
        by_cases c : F_r_houseWord tok wd = 12
        · rw [if_pos c] at hi
          have ht := qh_t (show ¬ F_r_houseWord tok wd = -1 by rw [c]; decide)
          have hab := hT.2.2.2.2.2.1 (by rw [ht]; decide)
          obtain ⟨tok3, a3, b3, num3, lt3, wd3, cs3, cn3, cl3, g1, g2, g3, g4⟩ := q_ad (T := T) hn hb.1 hb.2 cn cs cl num lt wd
          simp only [q_word1 hi g1, q_n1, ↓reduceIte] at hC
          simp only [c, q_must1, g2, ↓reduceIte] at hM
          rcases q_num hn g4 1 99 fp ba with ⟨r, tok4, a4, b4, num4, lt4, wd4, cs4, cn4, cl4, k1, k2, k3, k4, k5, k6, -⟩ | ⟨fl, k0, k1, k2, -⟩
          · rw [q1] at k5
            simp only [k1, q_m1 (show 0 ≤ r.toInt by omega), q_setS (g := se) (v := r) (show 1 < 4 by omega), ↓reduceIte] at hC
            simp only [k2] at hM
            refine qSR_m (show a.toInt ≤ a4.toInt by omega) (ih f2 2 _ _ tok4 a4 b4 num4 lt4 cs4 cn4 wd4 cl4 C M (by omega) (by omega) (by omega) k4 (qSm_u hg (by omega) (by omega)) (fun i hi => ?_) hC hM)
            unfold upd
            by_cases ci : i = 1
            · rw [if_pos ci, if_pos (by omega)]
            · rw [if_neg ci, if_neg (by omega)]
              exact hse i (by omega)
          · simp only [k1, ↓reduceIte] at hC
            simp only [k2] at hM
            obtain ⟨m1, m2, m3⟩ := q_secN k0 n T f2 2 _ _ _ _ _ _ _ _ M (by omega) (by omega) hM
            subst hC
            exact Or.inr ⟨fl, a3, k0, rfl, rfl, rfl, by rw [m1]; exact (q_msN k0 ..).1, by rw [m1, m2]; exact (q_msN k0 ..).2, qFr_t (qFr_u (qFr_s hg (by omega) (by omega)) (by omega) (by omega)) (qFr_s m3 (by omega) (by omega))⟩
        · rw [if_neg c] at hi
          have h2p : 0 < (qF tok 2).toInt := qF_p (by decide +kernel)
          simp only [q_word0 hi, ↓reduceIte] at hC
          simp only [c, q_must0, q_countN h2p, ↓reduceIte] at hM
          obtain ⟨m1, m2, m3⟩ := q_secN h2p n T f2 2 _ _ _ _ _ _ _ _ M (by omega) (by omega) hM
          subst hC
          exact Or.inr ⟨_, a, h2p, rfl, rfl, rfl, by rw [m1]; exact (q_msN h2p ..).1, by rw [m1, m2]; exact (q_msN h2p ..).2, qFr_t (qFr_u (qFr_s hg (by omega) (by omega)) (by omega) (by omega)) (qFr_s m3 (by omega) (by omega))⟩
      · have hi := qi_27 hn hT
        have ez : (nI 2).toInt = 2 := by decide +kernel
        have ez1 : (nI 3).toInt = 3 := by decide +kernel
        have c3 : ¬ (3 : Int32) < nI 2 := by decide +kernel
        have c4 : ¬ (4 : Int32) ≤ nI 2 := by decide +kernel
        have e11 : (11 : Int32) + nI 2 = 13 := by decide +kernel
        have x1 : ((1465 : Int32) + nI 2).toNatClampNeg = 1467 := by decide +kernel
        simp only [c3, ez, show ¬ ((2 : Int) = 0) by decide, show ¬ ((2 : Int) = 1) by decide, qnI_s, ↓reduceIte] at hC
        simp only [c4, e11, x1, qnI_s, ↓reduceIte] at hM
        by_cases c : F_r_houseWord tok wd = 13
        · rw [if_pos c] at hi
          have ht := qh_t (show ¬ F_r_houseWord tok wd = -1 by rw [c]; decide)
          have hab := hT.2.2.2.2.2.1 (by rw [ht]; decide)
          obtain ⟨tok3, a3, b3, num3, lt3, wd3, cs3, cn3, cl3, g1, g2, g3, g4⟩ := q_ad (T := T) hn hb.1 hb.2 cn cs cl num lt wd
          simp only [q_word1 hi g1, q_n1, ↓reduceIte] at hC
          simp only [c, q_must1, g2, ↓reduceIte] at hM
          rcases q_num hn g4 1 99 fp ba with ⟨r, tok4, a4, b4, num4, lt4, wd4, cs4, cn4, cl4, k1, k2, k3, k4, k5, k6, -⟩ | ⟨fl, k0, k1, k2, -⟩
          · rw [q1] at k5
            simp only [k1, q_m1 (show 0 ≤ r.toInt by omega), q_setS (g := se) (v := r) (show 2 < 4 by omega), ↓reduceIte] at hC
            simp only [k2] at hM
            refine qSR_m (show a.toInt ≤ a4.toInt by omega) (ih f2 3 _ _ tok4 a4 b4 num4 lt4 cs4 cn4 wd4 cl4 C M (by omega) (by omega) (by omega) k4 (qSm_u hg (by omega) (by omega)) (fun i hi => ?_) hC hM)
            unfold upd
            by_cases ci : i = 2
            · rw [if_pos ci, if_pos (by omega)]
            · rw [if_neg ci, if_neg (by omega)]
              exact hse i (by omega)
          · simp only [k1, ↓reduceIte] at hC
            simp only [k2] at hM
            obtain ⟨m1, m2, m3⟩ := q_secN k0 n T f2 3 _ _ _ _ _ _ _ _ M (by omega) (by omega) hM
            subst hC
            exact Or.inr ⟨fl, a3, k0, rfl, rfl, rfl, by rw [m1]; exact (q_msN k0 ..).1, by rw [m1, m2]; exact (q_msN k0 ..).2, qFr_t (qFr_u (qFr_s hg (by omega) (by omega)) (by omega) (by omega)) (qFr_s m3 (by omega) (by omega))⟩
        · rw [if_neg c] at hi
          have h2p : 0 < (qF tok 2).toInt := qF_p (by decide +kernel)
          simp only [q_word0 hi, ↓reduceIte] at hC
          simp only [c, q_must0, q_countN h2p, ↓reduceIte] at hM
          obtain ⟨m1, m2, m3⟩ := q_secN h2p n T f2 3 _ _ _ _ _ _ _ _ M (by omega) (by omega) hM
          subst hC
          exact Or.inr ⟨_, a, h2p, rfl, rfl, rfl, by rw [m1]; exact (q_msN h2p ..).1, by rw [m1, m2]; exact (q_msN h2p ..).2, qFr_t (qFr_u (qFr_s hg (by omega) (by omega)) (by omega) (by omega)) (qFr_s m3 (by omega) (by omega))⟩
      · have hi := qi_28 hn hT
        have ez : (nI 3).toInt = 3 := by decide +kernel
        have ez1 : (nI 4).toInt = 4 := by decide +kernel
        have c3 : ¬ (3 : Int32) < nI 3 := by decide +kernel
        have c4 : ¬ (4 : Int32) ≤ nI 3 := by decide +kernel
        have e11 : (11 : Int32) + nI 3 = 14 := by decide +kernel
        have x1 : ((1465 : Int32) + nI 3).toNatClampNeg = 1468 := by decide +kernel
        simp only [c3, ez, show ¬ ((3 : Int) = 0) by decide, show ¬ ((3 : Int) = 1) by decide, show ¬ ((3 : Int) = 2) by decide, qnI_s, ↓reduceIte] at hC
        simp only [c4, e11, x1, qnI_s, ↓reduceIte] at hM
        by_cases c : F_r_houseWord tok wd = 14
        · rw [if_pos c] at hi
          have ht := qh_t (show ¬ F_r_houseWord tok wd = -1 by rw [c]; decide)
          have hab := hT.2.2.2.2.2.1 (by rw [ht]; decide)
          obtain ⟨tok3, a3, b3, num3, lt3, wd3, cs3, cn3, cl3, g1, g2, g3, g4⟩ := q_ad (T := T) hn hb.1 hb.2 cn cs cl num lt wd
          simp only [q_word1 hi g1, q_n1, ↓reduceIte] at hC
          simp only [c, q_must1, g2, ↓reduceIte] at hM
          rcases q_num hn g4 1 99 fp ba with ⟨r, tok4, a4, b4, num4, lt4, wd4, cs4, cn4, cl4, k1, k2, k3, k4, k5, k6, -⟩ | ⟨fl, k0, k1, k2, -⟩
          · rw [q1] at k5
            simp only [k1, q_m1 (show 0 ≤ r.toInt by omega), q_setS (g := se) (v := r) (show 3 < 4 by omega), ↓reduceIte] at hC
            simp only [k2] at hM
            refine qSR_m (show a.toInt ≤ a4.toInt by omega) (ih f2 4 _ _ tok4 a4 b4 num4 lt4 cs4 cn4 wd4 cl4 C M (by omega) (by omega) (by omega) k4 (qSm_u hg (by omega) (by omega)) (fun i hi => ?_) hC hM)
            unfold upd
            by_cases ci : i = 3
            · rw [if_pos ci, if_pos (by omega)]
            · rw [if_neg ci, if_neg (by omega)]
              exact hse i (by omega)
          · simp only [k1, ↓reduceIte] at hC
            simp only [k2] at hM
            obtain ⟨m1, m2, m3⟩ := q_secN k0 n T f2 4 _ _ _ _ _ _ _ _ M (by omega) (by omega) hM
            subst hC
            exact Or.inr ⟨fl, a3, k0, rfl, rfl, rfl, by rw [m1]; exact (q_msN k0 ..).1, by rw [m1, m2]; exact (q_msN k0 ..).2, qFr_t (qFr_u (qFr_s hg (by omega) (by omega)) (by omega) (by omega)) (qFr_s m3 (by omega) (by omega))⟩
        · rw [if_neg c] at hi
          have h2p : 0 < (qF tok 2).toInt := qF_p (by decide +kernel)
          simp only [q_word0 hi, ↓reduceIte] at hC
          simp only [c, q_must0, q_countN h2p, ↓reduceIte] at hM
          obtain ⟨m1, m2, m3⟩ := q_secN h2p n T f2 4 _ _ _ _ _ _ _ _ M (by omega) (by omega) hM
          subst hC
          exact Or.inr ⟨_, a, h2p, rfl, rfl, rfl, by rw [m1]; exact (q_msN h2p ..).1, by rw [m1, m2]; exact (q_msN h2p ..).2, qFr_t (qFr_u (qFr_s hg (by omega) (by omega)) (by omega) (by omega)) (qFr_s m3 (by omega) (by omega))⟩
      · have c3 : (3 : Int32) < nI 4 := by decide +kernel
        have c4 : (4 : Int32) ≤ nI 4 := by decide +kernel
        simp only [c3, ↓reduceIte] at hC
        simp only [c4, ↓reduceIte] at hM
        rcases q_ms (fp := fp) (ba := ba) hn hT with ⟨tok6, a6, b6, num6, lt6, wd6, cs6, cn6, cl6, l1, l2, l3, l4, l5⟩ | ⟨fl, l0, l1, l2⟩
        · rw [l1] at hC
          exact Or.inl ⟨se, g, tok6, a6, b6, num6, lt6, wd6, cs6, cn6, cl6, tok, a, b, num, lt, wd, hC.symm, hM.symm, l2, l4, l5, hg, hse⟩
        · rw [l1] at hC
          subst hC
          subst hM
          exact Or.inr ⟨fl, a, l0, rfl, rfl, rfl, by rw [l2], by rw [l2], by first | exact qFr_r | exact qFr_s hg (by omega) (by omega) | exact qFr_u (qFr_s hg (by omega) (by omega)) (by omega) (by omega) | exact qFr_u (qFr_u (qFr_s hg (by omega) (by omega)) (by omega) (by omega)) (by omega) (by omega) | exact qFr_u qFr_r (by omega) (by omega) | exact qFr_u (qFr_u qFr_r (by omega) (by omega)) (by omega) (by omega) | exact qFr_u (qFr_u (qFr_u qFr_r (by omega) (by omega)) (by omega) (by omega)) (by omega) (by omega) | exact qFr_six hf3 t2 | exact fun j hj => hg j (by omega)⟩
theorem q_seconds {n : Int32} {T : Nat → Int32} {tok a b num lt cs cn fp ba told has : Int32} {wd cl : Int64} {g se : Nat → Int32} {C : qSC} {M : qSM} (hn : n.toInt ≤ 900) (hT : qTk n T tok a b num lt wd cs cn cl) (ht : tok = 1) (hto : told = 0 ↔ has = 0) (hC : F_Ho_readSeconds told n tok a b cn cs cl 0 fp T se = C) (hM : F_r_readSeconds n 0 ba tok a b num lt wd has T g = M) : qSR n T fp ba g b C M := by
  rw [F_Ho_readSeconds_s] at hC
  rw [F_r_readSeconds_s] at hM
  have hb := q_tkb hT
  have hab := hT.2.2.2.2.2.1 (by rw [ht]; decide)
  by_cases c : told = 0
  · obtain ⟨tok1, a1, b1, num1, lt1, wd1, cs1, cn1, cl1, f1, f2, f3, f4⟩ := q_ad (T := T) hn hb.1 hb.2 cn cs cl num lt wd
    simp only [c, f1, ↓reduceIte] at hC
    simp only [hto.mp c, f2, ↓reduceIte] at hM
    exact qSR_m (show b.toInt ≤ a1.toInt by omega) (q_secL hn ((2147483647 - (0 : Int32).toInt).toNat + 1) ((2147483647 - (0 : Int32).toInt).toNat + 1) 0 se g tok1 a1 b1 num1 lt1 cs1 cn1 wd1 cl1 C M (by show (2147483647 - (0 : Int32).toInt).toNat < _; omega) (by show (2147483647 - (0 : Int32).toInt).toNat < _; omega) (Nat.zero_le _) f4 qSm_r (fun i hi => absurd hi (Nat.not_lt_zero _)) hC hM)
  · have c' : ¬ has = 0 := fun h => c (hto.mpr h)
    simp only [c, q_refuse, ↓reduceIte] at hC
    simp only [c', q_fail, ↓reduceIte] at hM
    rw [qF_4 (by rw [ht]; decide)] at hC
    subst hC
    subst hM
    exact Or.inr ⟨5, a, q_5p, rfl, rfl, rfl, (q_msN q_5p ..).1, (q_msN q_5p ..).2, by first | exact qFr_r | exact qFr_s hg (by omega) (by omega) | exact qFr_u (qFr_s hg (by omega) (by omega)) (by omega) (by omega) | exact qFr_u (qFr_u (qFr_s hg (by omega) (by omega)) (by omega) (by omega)) (by omega) (by omega) | exact qFr_u qFr_r (by omega) (by omega) | exact qFr_u (qFr_u qFr_r (by omega) (by omega)) (by omega) (by omega) | exact qFr_u (qFr_u (qFr_u qFr_r (by omega) (by omega)) (by omega) (by omega)) (by omega) (by omega) | exact qFr_six hf3 t2 | exact fun j hj => hg j (by omega)⟩
abbrev qTC : Type := Int32 × Int32 × Int32 × Int32 × Int32 × Int32 × Int32 × Int64 × Int32 × Int32 × Int32
def qTR (n : Int32) (T : Nat → Int32) (fp ba : Int32) (g0 : Nat → Int32) (a : Int32) (C : qTC) (M : qSM) : Prop := (∃ (r : Int32) (g' : Nat → Int32) (tok2 a2 b2 num2 lt2 : Int32) (wd2 : Int64) (cs2 cn2 : Int32) (cl2 : Int64) (zt za zb zn zl : Int32) (zw : Int64), C = (1, 1, tok2, a2, b2, cn2, cs2, cl2, 0, fp, r) ∧ M = (0, ba, zt, za, zb, zn, zl, zw, 1, g') ∧ qMs n 0 ba zt za zb zn zl zw T = (0, ba, tok2, a2, b2, num2, lt2, wd2) ∧ a.toInt < a2.toInt ∧ qTk n T tok2 a2 b2 num2 lt2 wd2 cs2 cn2 cl2 ∧ g' = upd g0 1469 r) ∨ (∃ (fl p : Int32), 0 < fl.toInt ∧ C.1 = 0 ∧ C.2.2.2.2.2.2.2.2.1 = fl ∧ C.2.2.2.2.2.2.2.2.2.1 = p ∧ (qMs n M.1 M.2.1 M.2.2.1 M.2.2.2.1 M.2.2.2.2.1 M.2.2.2.2.2.1 M.2.2.2.2.2.2.1 M.2.2.2.2.2.2.2.1 T).1 = fl ∧ (qMs n M.1 M.2.1 M.2.2.1 M.2.2.2.1 M.2.2.2.2.1 M.2.2.2.2.2.1 M.2.2.2.2.2.2.1 M.2.2.2.2.2.2.2.1 T).2.1 = p ∧ qFr g0 M.2.2.2.2.2.2.2.2.2)
theorem q_turned {n : Int32} {T : Nat → Int32} {tok a b num lt cs cn fp ba told has tu : Int32} {wd cl : Int64} {g : Nat → Int32} {C : qTC} {M : qSM} (hn : n.toInt ≤ 900) (hT : qTk n T tok a b num lt wd cs cn cl) (ht : tok = 1) (hto : told = 0 ↔ has = 0) (hC : F_Ho_readTurned told n tok a b cn cs cl 0 fp T tu = C) (hM : F_r_readTurned n 0 ba tok a b num lt wd has T g = M) : qTR n T fp ba g b C M := by
  rw [F_Ho_readTurned_s] at hC
  rw [F_r_readTurned_s] at hM
  have hb := q_tkb hT
  have hab := hT.2.2.2.2.2.1 (by rw [ht]; decide)
  by_cases c : told = 0
  · obtain ⟨tok1, a1, b1, num1, lt1, wd1, cs1, cn1, cl1, f1, f2, f3, f4⟩ := q_ad (T := T) hn hb.1 hb.2 cn cs cl num lt wd
    simp only [c, f1, ↓reduceIte] at hC
    simp only [hto.mp c, f2, qc_1469, ↓reduceIte] at hM
    rcases q_num hn f4 0 16 fp ba with ⟨r, tok4, a4, b4, num4, lt4, wd4, cs4, cn4, cl4, k1, k2, k3, k4, k5, k6, -⟩ | ⟨fl, k0, k1, k2, -⟩
    · rw [q0] at k5
      simp only [k1, q_m1 k5, ↓reduceIte] at hC
      simp only [k2] at hM
      rcases q_ms (fp := fp) (ba := ba) hn k4 with ⟨tok6, a6, b6, num6, lt6, wd6, cs6, cn6, cl6, l1, l2, l3, l4, l5⟩ | ⟨fl, l0, l1, l2⟩
      · rw [l1] at hC
        exact Or.inl ⟨r, _, tok6, a6, b6, num6, lt6, wd6, cs6, cn6, cl6, tok4, a4, b4, num4, lt4, wd4, hC.symm, hM.symm, l2, by omega, l5, rfl⟩
      · rw [l1] at hC
        subst hC
        subst hM
        exact Or.inr ⟨fl, a4, l0, rfl, rfl, rfl, by rw [l2], by rw [l2], by first | exact qFr_r | exact qFr_s hg (by omega) (by omega) | exact qFr_u (qFr_s hg (by omega) (by omega)) (by omega) (by omega) | exact qFr_u (qFr_u (qFr_s hg (by omega) (by omega)) (by omega) (by omega)) (by omega) (by omega) | exact qFr_u qFr_r (by omega) (by omega) | exact qFr_u (qFr_u qFr_r (by omega) (by omega)) (by omega) (by omega) | exact qFr_u (qFr_u (qFr_u qFr_r (by omega) (by omega)) (by omega) (by omega)) (by omega) (by omega) | exact qFr_six hf3 t2 | exact fun j hj => hg j (by omega)⟩
    · simp only [k1, ↓reduceIte] at hC
      simp only [k2] at hM
      subst hC
      subst hM
      exact Or.inr ⟨fl, a1, k0, rfl, rfl, rfl, (q_msN k0 ..).1, (q_msN k0 ..).2, by first | exact qFr_r | exact qFr_s hg (by omega) (by omega) | exact qFr_u (qFr_s hg (by omega) (by omega)) (by omega) (by omega) | exact qFr_u (qFr_u (qFr_s hg (by omega) (by omega)) (by omega) (by omega)) (by omega) (by omega) | exact qFr_u qFr_r (by omega) (by omega) | exact qFr_u (qFr_u qFr_r (by omega) (by omega)) (by omega) (by omega) | exact qFr_u (qFr_u (qFr_u qFr_r (by omega) (by omega)) (by omega) (by omega)) (by omega) (by omega) | exact qFr_six hf3 t2 | exact fun j hj => hg j (by omega)⟩
  · have c' : ¬ has = 0 := fun h => c (hto.mpr h)
    simp only [c, q_refuse, ↓reduceIte] at hC
    simp only [c', q_fail, ↓reduceIte] at hM
    rw [qF_4 (by rw [ht]; decide)] at hC
    subst hC
    subst hM
    exact Or.inr ⟨5, a, q_5p, rfl, rfl, rfl, (q_msN q_5p ..).1, (q_msN q_5p ..).2, by first | exact qFr_r | exact qFr_s hg (by omega) (by omega) | exact qFr_u (qFr_s hg (by omega) (by omega)) (by omega) (by omega) | exact qFr_u (qFr_u (qFr_s hg (by omega) (by omega)) (by omega) (by omega)) (by omega) (by omega) | exact qFr_u qFr_r (by omega) (by omega) | exact qFr_u (qFr_u qFr_r (by omega) (by omega)) (by omega) (by omega) | exact qFr_u (qFr_u (qFr_u qFr_r (by omega) (by omega)) (by omega) (by omega)) (by omega) (by omega) | exact qFr_six hf3 t2 | exact fun j hj => hg j (by omega)⟩
theorem q_kp12 {g : Nat → Int32} {f : Nat} {v : Int32} (hf : f < 12) : F_keepAt_12 g (nI f) v = upd g f v := by
  have e1 : (nI f).toInt = (f : Int) := nI_toInt (by omega)
  rw [F_keepAt_12_s, if_neg (by rw [q_nlt, q0, e1]; omega), if_neg (by rw [q_nle, e1, show (12 : Int32).toInt = 12 by decide +kernel]; omega)]
  show upd g (nI f).toNatClampNeg v = _
  rw [qnI_cl (by omega)]
abbrev qOC : Type := Int32 × Int32 × Int32 × Int32 × Int32 × Int32 × Int64 × Int32 × Int32 × Int32 × (Nat → Int32)
def qOR (doors n : Int32) (T : Nat → Int32) (fp ba : Int32) (g0 : Nat → Int32) (a : Int32) (C : qOC) (M : qSM) : Prop := (∃ (v : Nat) (rd' g' : Nat → Int32) (tok2 a2 b2 num2 lt2 : Int32) (wd2 : Int64) (cs2 cn2 : Int32) (cl2 : Int64) (zt za zb zn zl : Int32) (zw : Int64), C = (1, tok2, a2, b2, cn2, cs2, cl2, 0, fp, nI v, rd') ∧ M = (0, ba, zt, za, zb, zn, zl, zw, 1, g') ∧ qMs n 0 ba zt za zb zn zl zw T = (0, ba, tok2, a2, b2, num2, lt2, wd2) ∧ a.toInt < a2.toInt ∧ qTk n T tok2 a2 b2 num2 lt2 wd2 cs2 cn2 cl2 ∧ 0 < v ∧ v ≤ 12 ∧ (∀ j : Nat, ¬ (j = 1464 ∨ (1598 ≤ j ∧ j < 1610)) → g' j = g0 j) ∧ g' 1464 = nI v ∧ ∀ i : Nat, i < v → rd' i = g' (1598 + i) ∧ (rd' i).toInt < doors.toInt) ∨ (∃ (fl p : Int32), 0 < fl.toInt ∧ C.1 = 0 ∧ C.2.2.2.2.2.2.2.1 = fl ∧ C.2.2.2.2.2.2.2.2.1 = p ∧ (qMs n M.1 M.2.1 M.2.2.1 M.2.2.2.1 M.2.2.2.2.1 M.2.2.2.2.2.1 M.2.2.2.2.2.2.1 M.2.2.2.2.2.2.2.1 T).1 = fl ∧ (qMs n M.1 M.2.1 M.2.2.1 M.2.2.2.1 M.2.2.2.2.1 M.2.2.2.2.2.1 M.2.2.2.2.2.2.1 M.2.2.2.2.2.2.2.1 T).2.1 = p ∧ qFr g0 M.2.2.2.2.2.2.2.2.2)
theorem qOR_m {doors n : Int32} {T : Nat → Int32} {fp ba : Int32} {g : Nat → Int32} {a a1 : Int32} {C : qOC} {M : qSM} (h : a.toInt ≤ a1.toInt) (q : qOR doors n T fp ba g a1 C M) : qOR doors n T fp ba g a C M := by
  rcases q with ⟨x0, x1, x2, x3, x4, x5, x6, x7, x8, x9, x10, x11, x12, x13, x14, x15, x16, x17, y1, y2, y3, y4, y5⟩ | q
  · exact Or.inl ⟨x0, x1, x2, x3, x4, x5, x6, x7, x8, x9, x10, x11, x12, x13, x14, x15, x16, x17, y1, y2, y3, by omega, y5⟩
  · exact Or.inr q
theorem q_roundL {n : Int32} {T : Nat → Int32} {fp ba doors : Int32} {nd w : Nat → Int64} {g0 : Nat → Int32} (hn : n.toInt ≤ 900) (hNd : qNm doors 5 nd w 100) (hg63 : doors = g0 1463) : ∀ (f1 f2 v : Nat) (rd g : Nat → Int32) (more tok a b num lt cs cn : Int32) (wd cl : Int64) (C : qOC) (M : qSM), (2147483647 - (nI v).toInt).toNat < f1 → (900 - b.toInt + more.toInt).toNat < f2 → v ≤ 12 → qTk n T tok a b num lt wd cs cn cl → ((v = 0 ∧ more = 1) ∨ (¬ v = 0 ∧ more = if tok = 1 then 1 else 0)) → (∀ j : Nat, ¬ (j = 1464 ∨ (1598 ≤ j ∧ j < 1610)) → g j = g0 j) → g 1464 = nI v → (∀ i : Nat, i < v → rd i = g (1598 + i) ∧ (rd i).toInt < doors.toInt) → F_Ho_readRound_L28a n T nd doors f1 (nI v) (nI v) rd tok a b cn cs cl 0 fp = C → F_r_readRound_L35a n T w f2 more g 0 ba tok a b num lt wd = M → qOR doors n T fp ba g0 a C M := by
  intro f1
  induction f1 with
  | zero => intro f2 v rd g more tok a b num lt cs cn wd cl C M h; exact absurd h (Nat.not_lt_zero _)
  | succ f1 ih =>
    intro f2 v rd g more tok a b num lt cs cn wd cl C M h1 h2 hv hT hmo hg hg64 hrd hC hM
    cases f2 with
    | zero => exact absurd h2 (Nat.not_lt_zero _)
    | succ f2 =>
      have q12 : (12 : Int32).toInt = 12 := by decide +kernel
      have ev : (nI v).toInt = (v : Int) := nI_toInt (by omega)
      have ev1 : (nI (v + 1)).toInt = ((v + 1 : Nat) : Int) := nI_toInt (by omega)
      have hc12 : ¬ (12 : Int32) < nI v := by rw [q_nlt, ev, q12]; omega
      have hb := q_tkb hT
      have hgd : doors = g 1463 := by rw [hg63, hg 1463 (by omega)]
      rw [F_Ho_readRound_L28a_s] at hC
      rw [F_r_readRound_L35a_s] at hM
      simp only [hc12, q_isSign hT, q_refuse, qnI_s, ↓reduceIte] at hC
      by_cases hm1 : more = 1
      · have hi : ¬ nI v = 0 → F_r_isSign tok num 59 = 0 := fun h9 => by
          rcases hmo with ⟨c, -⟩ | ⟨c, c2⟩
          · exact absurd (by rw [c]; rfl) h9
          · rw [hm1] at c2
            by_cases ct : tok = 1
            · rw [F_r_isSign_s, if_neg (by rw [ct]; decide)]
            · rw [if_neg ct] at c2; exact absurd c2 (by decide)
        rw [q_both hi] at hC
        subst hm1
        simp only [q_n1, qc_1464, hg64, ↓reduceIte] at hM
        rw [q1] at h2
        rcases q_old_3 (fp := fp) (ba := ba) hn hNd hgd hT with ⟨k, k1, k2, k3, k4, k5, k6⟩ | ⟨fl, r', k0, k1, k2⟩
        · simp only [k1, q_m1 k3, ↓reduceIte] at hC
          simp only [k2, ↓reduceIte] at hM
          by_cases c12 : v = 12
          · have d1 : ¬ nI v < 12 := by rw [q_nlt, ev, q12]; omega
            have d2 : nI v = 12 := q_eq.mpr (by rw [ev, q12]; omega)
            simp only [d1, q_refuse, ↓reduceIte] at hC
            simp only [d2, q_fail, ↓reduceIte] at hM
            rw [qF_4 (by rw [k6]; decide)] at hC
            subst hC
            subst hM
            exact Or.inr ⟨6, a, q_6p, rfl, rfl, rfl, (q_msN q_6p ..).1, (q_msN q_6p ..).2, by first | exact qFr_r | exact qFr_s hg (by omega) (by omega) | exact qFr_u (qFr_s hg (by omega) (by omega)) (by omega) (by omega) | exact qFr_u (qFr_u (qFr_s hg (by omega) (by omega)) (by omega) (by omega)) (by omega) (by omega) | exact qFr_u qFr_r (by omega) (by omega) | exact qFr_u (qFr_u qFr_r (by omega) (by omega)) (by omega) (by omega) | exact qFr_u (qFr_u (qFr_u qFr_r (by omega) (by omega)) (by omega) (by omega)) (by omega) (by omega) | exact qFr_six hf3 t2 | exact fun j hj => hg j (by omega)⟩
          · have d1 : nI v < 12 := by rw [q_lt, ev, q12]; omega
            have d2 : ¬ nI v = 12 := fun h9 => by rw [q_eq, ev, q12] at h9; omega
            have x1 : ((1598 : Int32) + nI v).toNatClampNeg = 1598 + v := by
              show (nI 1598 + nI v).toNatClampNeg = _
              rw [nI_add, qnI_cl (by omega)]
            have x2 : upd g (1598 + v) k 1464 = nI v := by
              rw [show upd g (1598 + v) k 1464 = g 1464 from if_neg (by omega), hg64]
            obtain ⟨tok1, a1, b1, num1, lt1, wd1, cs1, cn1, cl1, f1', f2', f3, f4⟩ := q_ad (T := T) hn hb.1 hb.2 cn cs cl num lt wd
            have hb1 := q_tkb f4
            simp only [d1, F_H_addToRound_s, q_kp12 (g := rd) (v := k) (show v < 12 by omega), qnI_s, f1', ↓reduceIte] at hC
            simp only [d2, x1, x2, qnI_s, f2', ↓reduceIte] at hM
            have hg' : ∀ j : Nat, ¬ (j = 1464 ∨ (1598 ≤ j ∧ j < 1610)) → upd (upd g (1598 + v) k) 1464 (nI (v + 1)) j = g0 j := fun j hj => by
              rw [show upd (upd g (1598 + v) k) 1464 (nI (v + 1)) j = upd g (1598 + v) k j from if_neg (by omega), show upd g (1598 + v) k j = g j from if_neg (by omega)]
              exact hg j hj
            have hrd' : ∀ i : Nat, i < v + 1 → upd rd v k i = upd (upd g (1598 + v) k) 1464 (nI (v + 1)) (1598 + i) ∧ (upd rd v k i).toInt < doors.toInt := fun i hi => by
              rw [show upd (upd g (1598 + v) k) 1464 (nI (v + 1)) (1598 + i) = upd g (1598 + v) k (1598 + i) from if_neg (by omega)]
              unfold upd
              by_cases c : i = v
              · rw [if_pos c, if_pos (by omega)]
                exact ⟨rfl, k4⟩
              · rw [if_neg c, if_neg (by omega)]
                exact hrd i (by omega)
            by_cases ct : tok1 = 1
            · have h9 := f4.2.2.2.2.2.1 (by rw [ct]; decide)
              rw [if_pos ct] at hM
              exact qOR_m (show a.toInt ≤ a1.toInt by omega) (ih f2 (v + 1) _ _ 1 tok1 a1 b1 num1 lt1 cs1 cn1 wd1 cl1 C M (by omega) (by rw [q1]; omega) (by omega) f4 (Or.inr ⟨by omega, (if_pos ct).symm⟩) hg' (if_pos rfl) hrd' hC hM)
            · have h9 := f4.2.1
              rw [if_neg ct] at hM
              exact qOR_m (show a.toInt ≤ a1.toInt by omega) (ih f2 (v + 1) _ _ 0 tok1 a1 b1 num1 lt1 cs1 cn1 wd1 cl1 C M (by omega) (by rw [q0]; omega) (by omega) f4 (Or.inr ⟨by omega, (if_neg ct).symm⟩) hg' (if_pos rfl) hrd' hC hM)
        · simp only [k1, ↓reduceIte] at hC
          simp only [k2, q_ne0 k0, ↓reduceIte] at hM
          subst hC
          subst hM
          exact Or.inr ⟨fl, a, k0, rfl, rfl, rfl, (q_msN k0 ..).1, (q_msN k0 ..).2, by first | exact qFr_r | exact qFr_s hg (by omega) (by omega) | exact qFr_u (qFr_s hg (by omega) (by omega)) (by omega) (by omega) | exact qFr_u (qFr_u (qFr_s hg (by omega) (by omega)) (by omega) (by omega)) (by omega) (by omega) | exact qFr_u qFr_r (by omega) (by omega) | exact qFr_u (qFr_u qFr_r (by omega) (by omega)) (by omega) (by omega) | exact qFr_u (qFr_u (qFr_u qFr_r (by omega) (by omega)) (by omega) (by omega)) (by omega) (by omega) | exact qFr_six hf3 t2 | exact fun j hj => hg j (by omega)⟩
      · have hm0 : ¬ v = 0 ∧ more = 0 ∧ ¬ tok = 1 := by
          rcases hmo with ⟨-, c⟩ | ⟨c, c2⟩
          · exact absurd c hm1
          · by_cases ct : tok = 1
            · rw [if_pos ct] at c2; exact absurd c2 hm1
            · rw [if_neg ct] at c2; exact ⟨c, c2, ct⟩
        obtain ⟨hv0, hm0, ht⟩ := hm0
        have hv0' : ¬ nI v = 0 := fun h9 => by rw [q_eq, ev, q0] at h9; omega
        subst hm0
        simp only [↓reduceIte] at hM
        simp only [hv0', ↓reduceIte] at hC
        by_cases cs59 : F_r_isSign tok num 59 = 0
        · have hth : F_HR_thing_d n tok a b cl 0 fp T nd doors = (-1, qF tok 2, a) := by
            have hnm : F_Te_isName n tok a b cl T = 0 := by
              rw [q_name hn hT, F_r_isHouseName_s, if_neg ht]
            rw [F_HR_thing_d_s]
            simp only [hnm, q_refuse, ↓reduceIte]
          simp only [cs59, hth, ↓reduceIte] at hC
          subst hC
          subst hM
          have h2p : 0 < (qF tok 2).toInt := qF_p (by decide +kernel)
          have hq : qMs n 0 ba tok a b num lt wd T = (qF tok 2, a, tok, a, b, num, lt, wd) := by
            unfold qMs
            rw [if_pos cs59, q_must0]
          exact Or.inr ⟨_, a, h2p, rfl, rfl, rfl, by show (qMs n 0 ba tok a b num lt wd T).1 = _; rw [hq], by show (qMs n 0 ba tok a b num lt wd T).2.1 = _; rw [hq], by first | exact qFr_r | exact qFr_s hg (by omega) (by omega) | exact qFr_u (qFr_s hg (by omega) (by omega)) (by omega) (by omega) | exact qFr_u (qFr_u (qFr_s hg (by omega) (by omega)) (by omega) (by omega)) (by omega) (by omega) | exact qFr_u qFr_r (by omega) (by omega) | exact qFr_u (qFr_u qFr_r (by omega) (by omega)) (by omega) (by omega) | exact qFr_u (qFr_u (qFr_u qFr_r (by omega) (by omega)) (by omega) (by omega)) (by omega) (by omega) | exact qFr_six hf3 t2 | exact fun j hj => hg j (by omega)⟩
        · simp only [cs59, ↓reduceIte] at hC
          rcases q_ms (fp := fp) (ba := ba) hn hT with ⟨tok6, a6, b6, num6, lt6, wd6, cs6, cn6, cl6, l1, l2, l3, l4, l5⟩ | ⟨fl, l0, l1, l2⟩
          · rw [l1] at hC
            exact Or.inl ⟨v, rd, g, tok6, a6, b6, num6, lt6, wd6, cs6, cn6, cl6, tok, a, b, num, lt, wd, hC.symm, hM.symm, l2, l4, l5, by omega, hv, hg, hg64, hrd⟩
          · rw [l1] at hC
            subst hC
            subst hM
            exact Or.inr ⟨fl, a, l0, rfl, rfl, rfl, by rw [l2], by rw [l2], by first | exact qFr_r | exact qFr_s hg (by omega) (by omega) | exact qFr_u (qFr_s hg (by omega) (by omega)) (by omega) (by omega) | exact qFr_u (qFr_u (qFr_s hg (by omega) (by omega)) (by omega) (by omega)) (by omega) (by omega) | exact qFr_u qFr_r (by omega) (by omega) | exact qFr_u (qFr_u qFr_r (by omega) (by omega)) (by omega) (by omega) | exact qFr_u (qFr_u (qFr_u qFr_r (by omega) (by omega)) (by omega) (by omega)) (by omega) (by omega) | exact qFr_six hf3 t2 | exact fun j hj => hg j (by omega)⟩
theorem q_round {n : Int32} {T : Nat → Int32} {tok a b num lt cs cn fp ba many has doors : Int32} {wd cl : Int64} {nd w : Nat → Int64} {g rd : Nat → Int32} {C : qOC} {M : qSM} (hn : n.toInt ≤ 900) (hNd : qNm doors 5 nd w 100) (hg63 : doors = g 1463) (hg64 : g 1464 = many) (hm0 : 0 ≤ many.toInt) (hT : qTk n T tok a b num lt wd cs cn cl) (ht : tok = 1) (hto : many = 0 ↔ has = 0) (hC : F_Ho_readRound n tok a b cn cs cl 0 fp T nd doors many rd = C) (hM : F_r_readRound n 0 ba tok a b num lt wd has T g w = M) : qOR doors n T fp ba g b C M := by
  rw [F_Ho_readRound_s] at hC
  rw [F_r_readRound_s] at hM
  have hb := q_tkb hT
  have hab := hT.2.2.2.2.2.1 (by rw [ht]; decide)
  by_cases c : many = 0
  · obtain ⟨tok1, a1, b1, num1, lt1, wd1, cs1, cn1, cl1, f1, f2, f3, f4⟩ := q_ad (T := T) hn hb.1 hb.2 cn cs cl num lt wd
    have hc0 : (0 : Int32) ≤ 0 := Int32.le_refl _
    simp only [c, hc0, f1, ↓reduceIte] at hC
    simp only [hto.mp c, f2, ↓reduceIte] at hM
    exact qOR_m (show b.toInt ≤ a1.toInt by omega) (q_roundL hn hNd hg63 ((2147483647 - (0 : Int32).toInt).toNat + 1) ((900 - b1.toInt + (1 : Int32).toInt).toNat + 1) 0 rd g 1 tok1 a1 b1 num1 lt1 cs1 cn1 wd1 cl1 C M (by show (2147483647 - (0 : Int32).toInt).toNat < _; omega) (by omega) (Nat.zero_le _) f4 (Or.inl ⟨rfl, rfl⟩) (fun j _ => rfl) (by rw [hg64, c]; rfl) (fun i hi => absurd hi (Nat.not_lt_zero _)) hC hM)
  · have c' : ¬ has = 0 := fun h => c (hto.mpr h)
    have c'' : ¬ many ≤ 0 := fun h => c (q_eq.mpr (by rw [q_le, q0] at h; rw [q0]; omega))
    simp only [c'', q_refuse, ↓reduceIte] at hC
    simp only [c', q_fail, ↓reduceIte] at hM
    rw [qF_4 (by rw [ht]; decide)] at hC
    subst hC
    subst hM
    exact Or.inr ⟨5, a, q_5p, rfl, rfl, rfl, (q_msN q_5p ..).1, (q_msN q_5p ..).2, by first | exact qFr_r | exact qFr_s hg (by omega) (by omega) | exact qFr_u (qFr_s hg (by omega) (by omega)) (by omega) (by omega) | exact qFr_u (qFr_u (qFr_s hg (by omega) (by omega)) (by omega) (by omega)) (by omega) (by omega) | exact qFr_u qFr_r (by omega) (by omega) | exact qFr_u (qFr_u qFr_r (by omega) (by omega)) (by omega) (by omega) | exact qFr_u (qFr_u (qFr_u qFr_r (by omega) (by omega)) (by omega) (by omega)) (by omega) (by omega) | exact qFr_six hf3 t2 | exact fun j hj => hg j (by omega)⟩
