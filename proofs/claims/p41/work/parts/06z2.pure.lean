def qFr (g g' : Nat → Int32) : Prop := ∀ j : Nat, ¬ (1460 ≤ j ∧ j < 1640) → g' j = g j
def qFw (w w' : Nat → Int64) : Prop := ∀ j : Nat, ¬ (84 ≤ j ∧ j < 105) → w' j = w j
theorem qFr_r {g : Nat → Int32} : qFr g g := fun _ _ => rfl
theorem qFw_r {w : Nat → Int64} : qFw w w := fun _ _ => rfl
theorem qFr_u {g g' : Nat → Int32} {k : Nat} {v : Int32} (h : qFr g g') (h1 : 1460 ≤ k) (h2 : k < 1640) : qFr g (upd g' k v) := fun j hj => by
  rw [show upd g' k v j = g' j from if_neg (by omega)]
  exact h j hj
theorem qFw_u {w w' : Nat → Int64} {k : Nat} {v : Int64} (h : qFw w w') (h1 : 84 ≤ k) (h2 : k < 105) : qFw w (vp_updL w' k v) := fun j hj => by
  rw [show vp_updL w' k v j = w' j from if_neg (by omega)]
  exact h j hj
theorem qFr_t {g g' g'' : Nat → Int32} (h : qFr g g') (k : qFr g' g'') : qFr g g'' := fun j hj => by rw [k j hj, h j hj]
theorem qFw_t {g g' g'' : Nat → Int64} (h : qFw g g') (k : qFw g' g'') : qFw g g'' := fun j hj => by rw [k j hj, h j hj]
theorem qFr_six {f : Nat} {g g' : Nat → Int32} {s k : Int32} (hf : f < 3) (h : qSix f g g' s k) : qFr g g' := fun j hj => by
  rw [h.2 j, if_neg (by omega), if_neg (by omega), if_neg (by omega), if_neg (by omega)]
theorem q_n1 : ¬ (1 : Int32) = 0 := by decide
theorem q_n2 : ¬ (-1 : Int32) = 0 := by decide
theorem q_m1 {r : Int32} (h : 0 ≤ r.toInt) : ¬ r = -1 := fun h9 => by rw [h9, q_1] at h; omega
theorem q_ne0 {f : Int32} (h : 0 < f.toInt) : ¬ f = 0 := fun h9 => by rw [h9, q0] at h; omega
theorem q_toN {x : Int32} {m : Int} (h0 : 0 ≤ x.toInt) : x = nI x.toInt.toNat := q_eq.mpr (by rw [nI_toInt (by have := z_full x; omega)]; omega)
theorem q_new0b {n : Int32} {T : Nat → Int32} {bad ba tok a b num lt : Int32} {wd : Int64} {g : Nat → Int32} {w : Nat → Int64} (h : 0 < bad.toInt) : F_r_readNew_0 n bad ba tok a b num lt wd T g w = (0, bad, ba, tok, a, b, num, lt, wd, w) := by
  rw [F_r_readNew_0_s]
  simp only [q_ne0 h, ↓reduceIte]
theorem q_new1b {n : Int32} {T : Nat → Int32} {bad ba tok a b num lt : Int32} {wd : Int64} {g : Nat → Int32} {w : Nat → Int64} (h : 0 < bad.toInt) : F_r_readNew_1 n bad ba tok a b num lt wd T g w = (0, bad, ba, tok, a, b, num, lt, wd, w) := by
  rw [F_r_readNew_1_s]
  simp only [q_ne0 h, ↓reduceIte]
theorem q_new2b {n : Int32} {T : Nat → Int32} {bad ba tok a b num lt : Int32} {wd : Int64} {g : Nat → Int32} {w : Nat → Int64} (h : 0 < bad.toInt) : F_r_readNew_2 n bad ba tok a b num lt wd T g w = (0, bad, ba, tok, a, b, num, lt, wd, w) := by
  rw [F_r_readNew_2_s]
  simp only [q_ne0 h, ↓reduceIte]
theorem q_new3b {n : Int32} {T : Nat → Int32} {bad ba tok a b num lt : Int32} {wd : Int64} {g : Nat → Int32} {w : Nat → Int64} (h : 0 < bad.toInt) : F_r_readNew_3 n bad ba tok a b num lt wd T g w = (0, bad, ba, tok, a, b, num, lt, wd, w) := by
  rw [F_r_readNew_3_s]
  simp only [q_ne0 h, ↓reduceIte]
theorem q_new0f {n : Int32} {T : Nat → Int32} {ba tok a b num lt : Int32} {wd : Int64} {g : Nat → Int32} {w : Nat → Int64} (h : g 1460 = 3) : F_r_readNew_0 n 0 ba tok a b num lt wd T g w = (0, 6, a, tok, a, b, num, lt, wd, w) := by
  rw [F_r_readNew_0_s]
  simp only [qc_1460, h, q_fail, ↓reduceIte]
theorem q_6p : 0 < (6 : Int32).toInt := by decide +kernel
theorem q_7p : 0 < (7 : Int32).toInt := by decide +kernel
theorem q_8p : 0 < (8 : Int32).toInt := by decide +kernel
theorem q_5p : 0 < (5 : Int32).toInt := by decide +kernel
theorem q_3p : 0 < (3 : Int32).toInt := by decide +kernel
theorem q_feature {n : Int32} {T : Nat → Int32} {tok a b num lt cs cn fp ba : Int32} {wd cl : Int64} {features feT keys rings doors : Int32} {nf nk nr nd fn w : Nat → Int64} {g hFe st tf six : Nat → Int32} {C : Int32 × Int32 × Int32 × Int32 × Int32 × Int32 × Int64 × Int32 × Int32 × (Nat → Int64) × Int32 × (Nat → Int64) × (Nat → Int32) × (Nat → Int32) × (Nat → Int32)} {M : Int32 × Int32 × Int32 × Int32 × Int32 × Int32 × Int32 × Int64 × (Nat → Int32) × (Nat → Int64) × (Nat → Int32)} (hn : n.toInt ≤ 900) (hN : qNms features keys rings doors nf nk nr nd w g) (hT : qTk n T tok a b num lt wd cs cn cl) (ht : tok = 1) (hC : F_Ho_readFeature n tok a b cn cs cl 0 fp T nf nk nr nd features keys rings doors fn st tf six = C) (hM : F_r_readFeature n 0 ba tok a b num lt wd T g w hFe = M) : (∃ (f : Nat) (wn : Int64) (steps k : Int32) (six' g' : Nat → Int32) (tok1 a1 b1 num1 lt1 : Int32) (wd1 : Int64) (cs1 cn1 : Int32) (cl1 : Int64) (zt za zb zn zl : Int32) (zw : Int64), f < 3 ∧ features = nI f ∧ C = (1, tok1, a1, b1, cn1, cs1, cl1, 0, fp, vp_updL nf f wn, nI (f + 1), vp_updL fn f wn, upd st f steps, upd tf f k, six') ∧ M = (0, ba, zt, za, zb, zn, zl, zw, g', vp_updL w (84 + f) wn, upd hFe f 0) ∧ qMs n 0 ba zt za zb zn zl zw T = (0, ba, tok1, a1, b1, num1, lt1, wd1) ∧ b.toInt < a1.toInt ∧ qTk n T tok1 a1 b1 num1 lt1 wd1 cs1 cn1 cl1 ∧ qSix f g g' steps k ∧ qFl f 0 six six' ∧ 2 ≤ steps.toInt ∧ steps.toInt ≤ 4 ∧ keys.toInt ≤ 0) ∨ (∃ (fl p : Int32), 0 < fl.toInt ∧ C.1 = 0 ∧ C.2.2.2.2.2.2.2.1 = fl ∧ C.2.2.2.2.2.2.2.2.1 = p ∧ (qMs n M.1 M.2.1 M.2.2.1 M.2.2.2.1 M.2.2.2.2.1 M.2.2.2.2.2.1 M.2.2.2.2.2.2.1 M.2.2.2.2.2.2.2.1 T).1 = fl ∧ (qMs n M.1 M.2.1 M.2.2.1 M.2.2.2.1 M.2.2.2.2.1 M.2.2.2.2.2.1 M.2.2.2.2.2.2.1 M.2.2.2.2.2.2.2.1 T).2.1 = p ∧ qFr g M.2.2.2.2.2.2.2.2.1 ∧ qFw w M.2.2.2.2.2.2.2.2.2.1) := by
  obtain ⟨⟨e1, e2, e3, e4⟩, hNf, -⟩ := id hN
  rw [F_Ho_readFeature_s] at hC
  rw [F_r_readFeature_s] at hM
  simp only [qc_1460, qc_1461, ← e1, ← e2] at hM
  have q3 : (3 : Int32).toInt = 3 := by decide +kernel
  have hb := q_tkb hT
  have q2 : (2 : Int32).toInt = 2 := by decide +kernel
  by_cases c3 : features < 3
  · have c3' : ¬ 3 ≤ features := by rw [q_nle]; exact q_lt.mp c3
    have hk3 : ¬ g 1460 = 3 := fun h9 => c3' (by rw [e1, h9]; decide)
    have hf : features = nI features.toInt.toNat := q_toN (m := 0) hNf.1
    have hf3 : features.toInt.toNat < 3 := by rw [q_lt, q3] at c3; omega
    obtain ⟨f, hf, hf3⟩ : ∃ f : Nat, features = nI f ∧ f < 3 := ⟨_, hf, hf3⟩
    have hgf : g 1460 = nI f := by rw [← e1, hf]
    by_cases ck : keys ≤ 0
    · simp only [c3, ck, ↓reduceIte] at hC
      simp only [c3', ck, ↓reduceIte] at hM
      obtain ⟨tok1, a1, b1, num1, lt1, wd1, cs1, cn1, cl1, f1, f2, f3, f4⟩ := q_ad (T := T) hn hb.1 hb.2 cn cs cl num lt wd
      have hab := hT.2.2.2.2.2.1 (by rw [ht]; decide)
      rcases q_new_0 (ba := ba) (fp := fp) (tok0 := tok) (a0 := a) hn hN hk3 f2 f4 with ⟨tok2, a2, b2, num2, lt2, wd2, cs2, cn2, cl2, h1, h2, h3, h4, h5⟩ | ⟨fl, h0, h1, h2⟩
      · have hx : ((84 : Int32) + nI f).toNatClampNeg = 84 + f := by
          show (nI 84 + nI f).toNatClampNeg = _
          rw [nI_add, qnI_cl (by omega)]
        simp only [f1, h1, h3, ↓reduceIte] at hC
        simp only [h2, hx, hgf] at hM
        have hi := qi_16 hn h5
        by_cases c8 : F_r_houseWord tok2 wd2 = 8
        · rw [if_pos c8] at hi
          obtain ⟨tok3, a3, b3, num3, lt3, wd3, cs3, cn3, cl3, g1, g2, g3, g4⟩ := q_ad (T := T) hn (q_tkb h5).1 (q_tkb h5).2 cn2 cs2 cl2 num2 lt2 wd2
          simp only [q_word1 hi g1, q_n1, ↓reduceIte] at hC
          simp only [c8, q_must1, g2, ↓reduceIte] at hM
          rcases q_num hn g4 2 4 fp ba with ⟨r, tok4, a4, b4, num4, lt4, wd4, cs4, cn4, cl4, k1, k2, k3, k4, k5, k6, -⟩ | ⟨fl, k0, k1, k2, -⟩
          · have hr : ¬ r = -1 := q_m1 (by omega)
            simp only [k1, hr, ↓reduceIte] at hC
            simp only [k2, ↓reduceIte] at hM
            have hi2 := qi_17 hn k4
            rw [q2] at k5
            rw [q4] at k6
            have hab2 := h5.2.1
            by_cases c6 : F_r_houseWord tok4 wd4 = 6
            · rw [if_pos c6] at hi2
              obtain ⟨tok5, a5, b5, num5, lt5, wd5, cs5, cn5, cl5, j1, j2, j3, j4⟩ := q_ad (T := T) hn (q_tkb k4).1 (q_tkb k4).2 cn4 cs4 cl4 num4 lt4 wd4
              have hab4 := k4.2.1
              obtain ⟨six', s1, s2⟩ := q_addF hf3 fn st tf six wd1 r 1 (Or.inr rfl)
              obtain ⟨g', t1, t2⟩ := q_C104 hf3 (hFe := hFe) hgf r 1 0 ba tok5 a5 b5 num5 lt5 wd5 (vp_updL w (84 + f) wd1) (Or.inr rfl)
              simp only [hi2, j1, q_n1, ↓reduceIte] at hC
              simp only [c6, j2, t1, ↓reduceIte] at hM
              rw [hf, q_kl3 hf3, s1] at hC
              rcases q_ms (fp := fp) (ba := ba) hn j4 with ⟨tok6, a6, b6, num6, lt6, wd6, cs6, cn6, cl6, l1, l2, l3, l4, l5⟩ | ⟨fl, l0, l1, l2⟩
              · rw [l1] at hC
                exact Or.inl ⟨f, wd1, r, 1, six', g', tok6, a6, b6, num6, lt6, wd6, cs6, cn6, cl6, tok5, a5, b5, num5, lt5, wd5, hf3, hf, hC.symm, hM.symm, l2, by omega, l5, t2, s2, k5, k6, by rw [q_le, q0] at ck; exact ck⟩
              · rw [l1] at hC
                subst hC
                subst hM
                exact Or.inr ⟨fl, a5, l0, rfl, rfl, rfl, by rw [l2], by rw [l2], by first | exact qFr_r | exact qFr_s hg (by omega) (by omega) | exact qFr_u (qFr_s hg (by omega) (by omega)) (by omega) (by omega) | exact qFr_u (qFr_u (qFr_s hg (by omega) (by omega)) (by omega) (by omega)) (by omega) (by omega) | exact qFr_u qFr_r (by omega) (by omega) | exact qFr_u (qFr_u qFr_r (by omega) (by omega)) (by omega) (by omega) | exact qFr_u (qFr_u (qFr_u qFr_r (by omega) (by omega)) (by omega) (by omega)) (by omega) (by omega) | exact qFr_six hf3 t2 | exact fun j hj => hg j (by omega), by first | exact qFw_r | exact qFw_u qFw_r (by omega) (by omega)⟩
            · rw [if_neg c6] at hi2
              obtain ⟨six', s1, s2⟩ := q_addF hf3 fn st tf six wd1 r 0 (Or.inl rfl)
              obtain ⟨g', t1, t2⟩ := q_C104 hf3 (hFe := hFe) hgf r 0 0 ba tok4 a4 b4 num4 lt4 wd4 (vp_updL w (84 + f) wd1) (Or.inl rfl)
              simp only [hi2, ↓reduceIte] at hC
              simp only [c6, t1, ↓reduceIte] at hM
              rw [hf, q_kl3 hf3, s1] at hC
              rcases q_ms (fp := fp) (ba := ba) hn k4 with ⟨tok6, a6, b6, num6, lt6, wd6, cs6, cn6, cl6, l1, l2, l3, l4, l5⟩ | ⟨fl, l0, l1, l2⟩
              · rw [l1] at hC
                exact Or.inl ⟨f, wd1, r, 0, six', g', tok6, a6, b6, num6, lt6, wd6, cs6, cn6, cl6, tok4, a4, b4, num4, lt4, wd4, hf3, hf, hC.symm, hM.symm, l2, by omega, l5, t2, s2, k5, k6, by rw [q_le, q0] at ck; exact ck⟩
              · rw [l1] at hC
                subst hC
                subst hM
                exact Or.inr ⟨fl, a4, l0, rfl, rfl, rfl, by rw [l2], by rw [l2], by first | exact qFr_r | exact qFr_s hg (by omega) (by omega) | exact qFr_u (qFr_s hg (by omega) (by omega)) (by omega) (by omega) | exact qFr_u (qFr_u (qFr_s hg (by omega) (by omega)) (by omega) (by omega)) (by omega) (by omega) | exact qFr_u qFr_r (by omega) (by omega) | exact qFr_u (qFr_u qFr_r (by omega) (by omega)) (by omega) (by omega) | exact qFr_u (qFr_u (qFr_u qFr_r (by omega) (by omega)) (by omega) (by omega)) (by omega) (by omega) | exact qFr_six hf3 t2 | exact fun j hj => hg j (by omega), by first | exact qFw_r | exact qFw_u qFw_r (by omega) (by omega)⟩
          · simp only [k1, ↓reduceIte] at hC
            simp only [k2, q_ne0 k0, ↓reduceIte] at hM
            subst hC
            subst hM
            exact Or.inr ⟨fl, a3, k0, rfl, rfl, rfl, (q_msN k0 ..).1, (q_msN k0 ..).2, by first | exact qFr_r | exact qFr_s hg (by omega) (by omega) | exact qFr_u (qFr_s hg (by omega) (by omega)) (by omega) (by omega) | exact qFr_u (qFr_u (qFr_s hg (by omega) (by omega)) (by omega) (by omega)) (by omega) (by omega) | exact qFr_u qFr_r (by omega) (by omega) | exact qFr_u (qFr_u qFr_r (by omega) (by omega)) (by omega) (by omega) | exact qFr_u (qFr_u (qFr_u qFr_r (by omega) (by omega)) (by omega) (by omega)) (by omega) (by omega) | exact qFr_six hf3 t2 | exact fun j hj => hg j (by omega), by first | exact qFw_r | exact qFw_u qFw_r (by omega) (by omega)⟩
        · rw [if_neg c8] at hi
          have h2p : 0 < (qF tok2 2).toInt := qF_p (by decide +kernel)
          simp only [q_word0 hi, ↓reduceIte] at hC
          simp only [c8, q_must0, q_countN h2p, q_ne0 h2p, ↓reduceIte] at hM
          subst hC
          subst hM
          exact Or.inr ⟨_, a2, h2p, rfl, rfl, rfl, (q_msN h2p ..).1, (q_msN h2p ..).2, by first | exact qFr_r | exact qFr_s hg (by omega) (by omega) | exact qFr_u (qFr_s hg (by omega) (by omega)) (by omega) (by omega) | exact qFr_u (qFr_u (qFr_s hg (by omega) (by omega)) (by omega) (by omega)) (by omega) (by omega) | exact qFr_u qFr_r (by omega) (by omega) | exact qFr_u (qFr_u qFr_r (by omega) (by omega)) (by omega) (by omega) | exact qFr_u (qFr_u (qFr_u qFr_r (by omega) (by omega)) (by omega) (by omega)) (by omega) (by omega) | exact qFr_six hf3 t2 | exact fun j hj => hg j (by omega), by first | exact qFw_r | exact qFw_u qFw_r (by omega) (by omega)⟩
      · have hl0 : lg_cmp 0 0 = 0 := by decide +kernel
        simp only [f1, h1, hl0, ↓reduceIte] at hC
        simp only [h2, q_must1N h0, q_must0N h0, q_countN h0, q_ne0 h0, ite_self, ↓reduceIte] at hM
        subst hC
        subst hM
        exact Or.inr ⟨fl, a1, h0, rfl, rfl, rfl, (q_msN h0 ..).1, (q_msN h0 ..).2, by first | exact qFr_r | exact qFr_s hg (by omega) (by omega) | exact qFr_u (qFr_s hg (by omega) (by omega)) (by omega) (by omega) | exact qFr_u (qFr_u (qFr_s hg (by omega) (by omega)) (by omega) (by omega)) (by omega) (by omega) | exact qFr_u qFr_r (by omega) (by omega) | exact qFr_u (qFr_u qFr_r (by omega) (by omega)) (by omega) (by omega) | exact qFr_u (qFr_u (qFr_u qFr_r (by omega) (by omega)) (by omega) (by omega)) (by omega) (by omega) | exact qFr_six hf3 t2 | exact fun j hj => hg j (by omega), by first | exact qFw_r | exact qFw_u qFw_r (by omega) (by omega)⟩
    · simp only [c3, ck, q_refuse, ↓reduceIte] at hC
      simp only [c3', ck, q_fail, q_new0b q_7p, q_must1N q_7p, q_must0N q_7p, q_countN q_7p, q_ne0 q_7p, ite_self, ↓reduceIte] at hM
      rw [qF_4 (by rw [ht]; decide)] at hC
      subst hC
      subst hM
      exact Or.inr ⟨7, a, q_7p, rfl, rfl, rfl, (q_msN q_7p ..).1, (q_msN q_7p ..).2, by first | exact qFr_r | exact qFr_s hg (by omega) (by omega) | exact qFr_u (qFr_s hg (by omega) (by omega)) (by omega) (by omega) | exact qFr_u (qFr_u (qFr_s hg (by omega) (by omega)) (by omega) (by omega)) (by omega) (by omega) | exact qFr_u qFr_r (by omega) (by omega) | exact qFr_u (qFr_u qFr_r (by omega) (by omega)) (by omega) (by omega) | exact qFr_u (qFr_u (qFr_u qFr_r (by omega) (by omega)) (by omega) (by omega)) (by omega) (by omega) | exact qFr_six hf3 t2 | exact fun j hj => hg j (by omega), by first | exact qFw_r | exact qFw_u qFw_r (by omega) (by omega)⟩
  · have c3' : 3 ≤ features := by rw [q_le]; exact q_nlt.mp c3
    have hg3 : g 1460 = 3 := q_eq.mpr (by rw [← e1, q3]; rw [q_le, q3] at c3'; have := hNf.2.1; omega)
    simp only [c3, q_refuse, ↓reduceIte] at hC
    simp only [c3', q_new0f hg3, q_must1N q_6p, q_must0N q_6p, q_countN q_6p, q_ne0 q_6p, ite_self, ↓reduceIte] at hM
    rw [qF_4 (by rw [ht]; decide)] at hC
    subst hC
    subst hM
    exact Or.inr ⟨6, a, q_6p, rfl, rfl, rfl, (q_msN q_6p ..).1, (q_msN q_6p ..).2, by first | exact qFr_r | exact qFr_s hg (by omega) (by omega) | exact qFr_u (qFr_s hg (by omega) (by omega)) (by omega) (by omega) | exact qFr_u (qFr_u (qFr_s hg (by omega) (by omega)) (by omega) (by omega)) (by omega) (by omega) | exact qFr_u qFr_r (by omega) (by omega) | exact qFr_u (qFr_u qFr_r (by omega) (by omega)) (by omega) (by omega) | exact qFr_u (qFr_u (qFr_u qFr_r (by omega) (by omega)) (by omega) (by omega)) (by omega) (by omega) | exact qFr_six hf3 t2 | exact fun j hj => hg j (by omega), by first | exact qFw_r | exact qFw_u qFw_r (by omega) (by omega)⟩
