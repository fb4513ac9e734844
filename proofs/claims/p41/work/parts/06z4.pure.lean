theorem q_tn1 {n : Int32} {T : Nat → Int32} {a b num cs fp lo hi : Int32} {cl : Int64} (h1 : lo ≤ num) (h2 : num ≤ hi) {tok1 a1 b1 cs1 cn1 : Int32} {cl1 : Int64} (e : F_Te_advance n b num cs cl T = (tok1, a1, b1, cs1, cn1, cl1)) : F_Te_takeNumber n 2 a b num cs cl 0 fp T lo hi = (num, 0, fp, tok1, a1, b1, cn1, cs1, cl1) := by
  have h1' : ¬ num < lo := by rw [q_nlt]; exact q_le.mp h1
  rw [F_Te_takeNumber_s]
  simp only [q_Te_num, h1', h2, e, q_n1, ↓reduceIte]
theorem q_tn0 {n : Int32} {T : Nat → Int32} {a b num cs fp lo hi : Int32} {cl : Int64} (h : ¬ (lo ≤ num ∧ num ≤ hi)) : F_Te_takeNumber n 2 a b num cs cl 0 fp T lo hi = (-1, 4, a, 2, a, b, num, cs, cl) := by
  have q24 : ¬ (2 : Int32) = 4 := by decide
  rw [F_Te_takeNumber_s]
  simp only [q_Te_num, q_refuse, qF_4 q24, q_n1, ↓reduceIte]
  by_cases h1 : num < lo
  · simp only [h1, ↓reduceIte]
  · by_cases h2 : num ≤ hi
    · exact absurd ⟨by rw [q_le]; exact q_nlt.mp h1, h2⟩ h
    · simp only [h1, h2, ↓reduceIte]
theorem q_kp30 {g : Nat → Int32} {i : Nat} {v : Int32} (h : i < 30) : F_keepAt_30 g (nI i) v = upd g i v := by
  have e1 : (nI i).toInt = (i : Int) := nI_toInt (by omega)
  rw [F_keepAt_30_s, if_neg (by rw [q_nlt, q0, e1]; omega), if_neg (by rw [q_nle, e1, show (30 : Int32).toInt = 30 by decide +kernel]; omega)]
  show upd g (nI i).toNatClampNeg v = _
  rw [qnI_cl (by omega)]
theorem q_setStep {g : Nat → Int32} {k i : Nat} {v : Int32} (hk : k < 10) (hi : i < 3) : F_H_setStep g (nI k) (nI i) v = upd g (3 * k + i) v := by
  rw [F_H_setStep_s]
  have e : nI k * 3 + nI i = nI (3 * k + i) := by
    show nI k * nI 3 + nI i = _
    rw [qnI_mul, nI_add]
    congr 1
    omega
  simp only [e, q_kp30 (show 3 * k + i < 30 by omega)]
theorem q_kl10 {g : Nat → Int64} {f : Nat} {v : Int64} (hf : f < 10) : F_keepLongAt_10 g (nI f) v = vp_updL g f v := by
  have e1 : (nI f).toInt = (f : Int) := nI_toInt (by omega)
  rw [F_keepLongAt_10_s, if_neg (by rw [q_nlt, q0, e1]; omega), if_neg (by rw [q_nle, e1, q10]; omega)]
  show vp_updL g (nI f).toNatClampNeg v = _
  rw [qnI_cl (by omega)]
theorem q_stepsOf {features : Int32} {st : Nat → Int32} {k : Nat} (hk : (k : Int) < features.toInt) (hk3 : k < 3) : F_H_stepsOf features st (nI k) = st k := by
  have ek : (nI k).toInt = (k : Int) := nI_toInt (by omega)
  have x1 : (nI k).toNatClampNeg = k := qnI_cl (by omega)
  have hx1 : ¬ nI k < 0 := by rw [q_nlt, q0, ek]; omega
  have hx2 : ¬ features ≤ nI k := by rw [q_nle]; omega
  have hx3 : ¬ (3 : Int32) ≤ nI k := by rw [q_nle, ek, show (3 : Int32).toInt = 3 by decide +kernel]; omega
  rw [F_H_stepsOf_s, F_H_hasFeature_s]
  simp only [hx1, hx2, q_n1, F_at_3_s, hx3, x1, ↓reduceIte]
abbrev qKC : Type := Int32 × Int32 × Int32 × Int32 × Int32 × Int32 × Int64 × Int32 × Int32 × (Nat → Int32) × (Nat → Int64) × Int32
abbrev qKM : Type := Int32 × Int32 × Int32 × Int32 × Int32 × Int32 × Int32 × Int64 × (Nat → Int64) × (Nat → Int32) × (Nat → Int32)
def qKe (k : Nat) (g g' : Nat → Int32) (F : Int) (ks ks' : Nat → Int32) : Prop := (∀ j : Nat, ¬ (j = 1461 ∨ j = 1610 + k ∨ (1525 + 3 * k ≤ j ∧ j < 1525 + 3 * k + 3)) → g' j = g j) ∧ g' 1461 = nI (k + 1) ∧ g' (1610 + k) = 0 ∧ qSm ks ks' (3 * k) (3 * k + 3) ∧ ∀ i : Nat, (i : Int) < F → ks' (3 * k + i) = g' (1525 + 3 * k + i)
def qKR (n : Int32) (T : Nat → Int32) (fp ba features : Int32) (nk w' : Nat → Int64) (wn : Int64) (k : Nat) (g ks isOn : Nat → Int32) (a : Int32) (C : qKC) (M : qKM) : Prop := (∃ (ks' g' : Nat → Int32) (tok2 a2 b2 num2 lt2 : Int32) (wd2 : Int64) (cs2 cn2 : Int32) (cl2 : Int64) (zt za zb zn zl : Int32) (zw : Int64), C = (1, tok2, a2, b2, cn2, cs2, cl2, 0, fp, ks', vp_updL nk k wn, nI (k + 1)) ∧ M = (0, ba, zt, za, zb, zn, zl, zw, w', g', upd isOn k 0) ∧ qMs n 0 ba zt za zb zn zl zw T = (0, ba, tok2, a2, b2, num2, lt2, wd2) ∧ a.toInt < a2.toInt ∧ qTk n T tok2 a2 b2 num2 lt2 wd2 cs2 cn2 cl2 ∧ qKe k g g' features.toInt ks ks') ∨ (∃ (fl p : Int32), 0 < fl.toInt ∧ C.1 = 0 ∧ C.2.2.2.2.2.2.2.1 = fl ∧ C.2.2.2.2.2.2.2.2.1 = p ∧ (qMs n M.1 M.2.1 M.2.2.1 M.2.2.2.1 M.2.2.2.2.1 M.2.2.2.2.2.1 M.2.2.2.2.2.2.1 M.2.2.2.2.2.2.2.1 T).1 = fl ∧ (qMs n M.1 M.2.1 M.2.2.1 M.2.2.2.1 M.2.2.2.2.1 M.2.2.2.2.2.1 M.2.2.2.2.2.2.1 M.2.2.2.2.2.2.2.1 T).2.1 = p ∧ qFr g M.2.2.2.2.2.2.2.2.2.1 ∧ qFw w' M.2.2.2.2.2.2.2.2.1)
theorem qKR_m {n : Int32} {T : Nat → Int32} {fp ba features : Int32} {nk w' : Nat → Int64} {wn : Int64} {k : Nat} {g ks isOn : Nat → Int32} {a a1 : Int32} {C : qKC} {M : qKM} (h : a.toInt ≤ a1.toInt) (q : qKR n T fp ba features nk w' wn k g ks isOn a1 C M) : qKR n T fp ba features nk w' wn k g ks isOn a C M := by
  rcases q with ⟨x1, x2, x3, x4, x5, x6, x7, x8, x9, x10, x11, x12, x13, x14, x15, x16, x17, y1, y2, y3, y4, y5⟩ | q
  · exact Or.inl ⟨x1, x2, x3, x4, x5, x6, x7, x8, x9, x10, x11, x12, x13, x14, x15, x16, x17, y1, y2, y3, by omega, y5⟩
  · exact Or.inr q
theorem q_keyL {n : Int32} {T : Nat → Int32} {fp ba : Int32} {features : Int32} {nk w' : Nat → Int64} {wn : Int64} {k : Nat} {st isOn g0 ks0 : Nat → Int32} (hn : n.toInt ≤ 900) (hk : k < 10) (hf0 : 0 ≤ features.toInt) (hf3 : features.toInt ≤ 3) (hg60 : g0 1460 = features) (hg61 : g0 1461 = nI k) (hst : ∀ j : Nat, (j : Int) < features.toInt → st j = g0 (1471 + j) ∧ 2 ≤ (st j).toInt ∧ (st j).toInt ≤ 4) : ∀ (f1 f2 v : Nat) (ks g : Nat → Int32) (tok a b num lt cs cn : Int32) (wd cl : Int64) (C : qKC) (M : qKM), (2147483647 - (nI v).toInt).toNat < f1 → (4600 - 5 * b.toInt + tok.toInt - 5 * (0 : Int32).toInt).toNat < f2 → (v : Int) ≤ features.toInt → qTk n T tok a b num lt wd cs cn cl → qSm g0 g (1525 + 3 * k) (1525 + 3 * k + 3) → qSm ks0 ks (3 * k) (3 * k + 3) → (∀ i : Nat, i < v → ks (3 * k + i) = g (1525 + 3 * k + i)) → F_Ho_readKey_L44a n T nk features (nI k) st wn f1 (nI v) ks tok a b cn cs cl 0 fp = C → F_r_readKey_L11a n T isOn (nI k) 0 ba w' f2 (nI v) tok a b num lt wd g = M → qKR n T fp ba features nk w' wn k g0 ks0 isOn a C M := by
  intro f1
  induction f1 with
  | zero => intro f2 v ks g tok a b num lt cs cn wd cl C M h; exact absurd h (Nat.not_lt_zero _)
  | succ f1 ih =>
    intro f2 v ks g tok a b num lt cs cn wd cl C M h1 h2 hv hT hg hks hkg hC hM
    cases f2 with
    | zero => exact absurd h2 (Nat.not_lt_zero _)
    | succ f2 =>
      rw [q0] at h2
      have q3' : (3 : Int32).toInt = 3 := by decide +kernel
      have ev : (nI v).toInt = (v : Int) := nI_toInt (by omega)
      have ev1 : (nI (v + 1)).toInt = ((v + 1 : Nat) : Int) := nI_toInt (by omega)
      have hc3 : ¬ (3 : Int32) < nI v := by rw [q_nlt, ev, q3']; omega
      have hb := q_tkb hT
      have hgf : g 1460 = features := by rw [hg 1460 (by omega), hg60]
      rw [F_Ho_readKey_L44a_s] at hC
      rw [F_r_readKey_L11a_s] at hM
      simp only [hc3, q_Te_num, q_isSign hT, q_refuse, q_kl10 hk, qnI_s k, ↓reduceIte] at hC
      simp only [q_fail, qc_1460, qc_1461, hgf, ↓reduceIte] at hM
      by_cases ht : tok = 2
      · have hab := hT.2.2.2.2.2.1 (by rw [ht]; decide)
        have hcn := (hT.2.2.2.2.2.2.1 ht).1
        have hnum := (hT.2.2.2.2.2.2.1 ht).2
        subst ht
        subst hcn
        simp only [q_n1, ↓reduceIte] at hC
        simp only [↓reduceIte] at hM
        have q24 : ¬ (2 : Int32) = 4 := by decide
        simp only [qF_4 q24] at hC
        by_cases cv : (v : Int) = features.toInt
        · have e1 : ¬ nI v < features := by rw [q_nlt]; omega
          have e2 : features ≤ nI v := by rw [q_le]; omega
          have e3 : nI v = features := q_eq.mpr (by omega)
          simp only [e1, ↓reduceIte] at hC
          simp only [e2, ↓reduceIte] at hM
          rw [if_pos e3] at hM
          subst hC
          subst hM
          exact Or.inr ⟨8, a, q_8p, rfl, rfl, rfl, (q_msN q_8p ..).1, (q_msN q_8p ..).2, by first | exact qFr_r | exact qFr_s hg (by omega) (by omega) | exact qFr_u (qFr_s hg (by omega) (by omega)) (by omega) (by omega) | exact qFr_u (qFr_u (qFr_s hg (by omega) (by omega)) (by omega) (by omega)) (by omega) (by omega) | exact qFr_u qFr_r (by omega) (by omega) | exact qFr_u (qFr_u qFr_r (by omega) (by omega)) (by omega) (by omega) | exact qFr_u (qFr_u (qFr_u qFr_r (by omega) (by omega)) (by omega) (by omega)) (by omega) (by omega) | exact qFr_six hf3 t2 | exact fun j hj => hg j (by omega), by first | exact qFw_r | exact qFw_u qFw_r (by omega) (by omega)⟩
        · have e1 : nI v < features := by rw [q_lt]; omega
          have e2 : ¬ features ≤ nI v := by rw [q_nle]; omega
          have e3 : ¬ nI v = features := fun h9 => by rw [q_eq] at h9; omega
          obtain ⟨s1, s2, s3⟩ := hst v (by omega)
          have x1 : ((1471 : Int32) + nI v).toNatClampNeg = 1471 + v := by
            show (nI 1471 + nI v).toNatClampNeg = _
            rw [nI_add, qnI_cl (by omega)]
          have x2 : g (1471 + v) = st v := by rw [hg (1471 + v) (by omega), s1]
          have x3 : ((1525 : Int32) + 3 * nI k + nI v).toNatClampNeg = 1525 + 3 * k + v := by
            show (nI 1525 + nI 3 * nI k + nI v).toNatClampNeg = _
            rw [qnI_mul, nI_add, nI_add, qnI_cl (by omega)]
          have x4 := q_sub (a := st v) (b := 1) (by rw [q1]; omega) (by rw [q1]; omega)
          rw [q1] at x4
          simp only [e1, q_stepsOf (features := features) (st := st) (k := v) (by omega) (by omega), ↓reduceIte] at hC
          simp only [e2, e3, x1, x2, x3, qnI_s v, ↓reduceIte] at hM
          by_cases cn4 : cn < st v
          · have y1 : (0 : Int32) ≤ cn := by rw [q_le, q0]; exact hnum.1
            have y2 : cn ≤ st v - 1 := by rw [q_le]; rw [q_lt] at cn4; omega
            obtain ⟨tok1, a1, b1, num1, lt1, wd1, cs1, cn1, cl1, f1', f2', f3, f4⟩ := q_ad (T := T) hn hb.1 hb.2 cn cs cl cn lt wd
            have hb1 := q_tkb f4
            simp only [q_tn1 y1 y2 f1', q_m1 hnum.1, q_setStep hk (show v < 3 by omega), qnI_s v, ↓reduceIte] at hC
            simp only [cn4, f2', ↓reduceIte] at hM
            have hme : (4600 - 5 * b1.toInt + tok1.toInt - 5 * (0 : Int32).toInt).toNat < f2 := by
              rw [q0]
              have q2' : (2 : Int32).toInt = 2 := by decide +kernel
              rw [q2'] at h2
              rcases f4.2.2.2.1 with c | c | c | c | c
              · have := f4.2.1
                rw [c, q0]; omega
              · have := f4.2.2.2.2.2.1 (by rw [c]; decide)
                rw [c, q1]; omega
              · have := f4.2.2.2.2.2.1 (by rw [c]; decide)
                rw [c, q2']; omega
              · have := f4.2.2.2.2.2.1 (by rw [c]; decide)
                rw [c, q3']; omega
              · have := f4.2.2.2.2.2.1 (by rw [c]; decide)
                rw [c, q4]; omega
            refine qKR_m (show a.toInt ≤ a1.toInt by omega) (ih f2 (v + 1) _ _ tok1 a1 b1 num1 lt1 cs1 cn1 wd1 cl1 C M (by omega) hme (by omega) f4 (qSm_u hg (show 1525 + 3 * k ≤ 1525 + 3 * k + v by omega) (by omega)) (qSm_u hks (show 3 * k ≤ 3 * k + v by omega) (by omega)) (fun i hi => ?_) hC hM)
            unfold upd
            by_cases c : i = v
            · rw [if_pos (by omega), if_pos (by omega)]
            · rw [if_neg (by omega), if_neg (by omega)]
              exact hkg i (by omega)
          · have y1 : ¬ ((0 : Int32) ≤ cn ∧ cn ≤ st v - 1) := fun h9 => by
              have := q_le.mp h9.2
              rw [q_nlt] at cn4
              omega
            simp only [q_tn0 y1, ↓reduceIte] at hC
            simp only [cn4, ↓reduceIte] at hM
            have q4p : 0 < (4 : Int32).toInt := by decide +kernel
            subst hC
            subst hM
            exact Or.inr ⟨4, a, q4p, rfl, rfl, rfl, (q_msN q4p ..).1, (q_msN q4p ..).2, by first | exact qFr_r | exact qFr_s hg (by omega) (by omega) | exact qFr_u (qFr_s hg (by omega) (by omega)) (by omega) (by omega) | exact qFr_u (qFr_u (qFr_s hg (by omega) (by omega)) (by omega) (by omega)) (by omega) (by omega) | exact qFr_u qFr_r (by omega) (by omega) | exact qFr_u (qFr_u qFr_r (by omega) (by omega)) (by omega) (by omega) | exact qFr_u (qFr_u (qFr_u qFr_r (by omega) (by omega)) (by omega) (by omega)) (by omega) (by omega) | exact qFr_six hf3 t2 | exact fun j hj => hg j (by omega), by first | exact qFw_r | exact qFw_u qFw_r (by omega) (by omega)⟩
      · simp only [ht, ↓reduceIte] at hC hM
        have x1 : ((1610 : Int32) + nI k).toNatClampNeg = 1610 + k := by
          show (nI 1610 + nI k).toNatClampNeg = _
          rw [nI_add, qnI_cl (by omega)]
        have x2 : (nI k).toNatClampNeg = k := qnI_cl (by omega)
        have x3 : upd g (1610 + k) 0 1461 = nI k := by
          rw [show upd g (1610 + k) 0 1461 = g 1461 from if_neg (by omega), hg 1461 (by omega), hg61]
        simp only [x1, x2, x3, q_nz, qnI_s k] at hM
        have done : features.toInt ≤ v ∨ F_r_isSign tok num 59 = 0 → M = (0, ba, tok, a, b, num, lt, wd, w', upd (upd g (1610 + k) 0) 1461 (nI (k + 1)), upd isOn k 0) → (∀ x, F_Te_takeSign n tok a b cn cs cl 0 fp T 59 = x → C = (x.1, x.2.1, x.2.2.1, x.2.2.2.1, x.2.2.2.2.1, x.2.2.2.2.2.1, x.2.2.2.2.2.2.1, x.2.2.2.2.2.2.2.1, x.2.2.2.2.2.2.2.2, ks, vp_updL nk k wn, nI (k + 1))) → qKR n T fp ba features nk w' wn k g0 ks0 isOn a C M := fun hfv hm hc => by
          rcases q_ms (fp := fp) (ba := ba) hn hT with ⟨tok6, a6, b6, num6, lt6, wd6, cs6, cn6, cl6, l1, l2, l3, l4, l5⟩ | ⟨fl, l0, l1, l2⟩
          · refine Or.inl ⟨ks, _, tok6, a6, b6, num6, lt6, wd6, cs6, cn6, cl6, tok, a, b, num, lt, wd, hc _ l1, hm, l2, l4, l5, fun j hj => ?_, if_pos rfl, ?_, hks, fun i hi => ?_⟩
            · rw [show upd (upd g (1610 + k) 0) 1461 (nI (k + 1)) j = upd g (1610 + k) 0 j from if_neg (by omega), show upd g (1610 + k) 0 j = g j from if_neg (by omega)]
              exact hg j (by omega)
            · rw [show upd (upd g (1610 + k) 0) 1461 (nI (k + 1)) (1610 + k) = upd g (1610 + k) 0 (1610 + k) from if_neg (by omega)]
              exact if_pos rfl
            · rw [show upd (upd g (1610 + k) 0) 1461 (nI (k + 1)) (1525 + 3 * k + i) = upd g (1610 + k) 0 (1525 + 3 * k + i) from if_neg (by omega), show upd g (1610 + k) 0 (1525 + 3 * k + i) = g (1525 + 3 * k + i) from if_neg (by omega)]
              rcases hfv with hfv | hfv
              · exact hkg i (by omega)
              · have hs0 : F_Te_isSign tok cs 59 = 0 := by rw [q_isSign hT, hfv]
                rw [q_sign0 hs0] at l1
                have h9 : (0 : Int32) = 1 := congrArg Prod.fst l1
                exact absurd h9 (by decide)
          · have hc := hc _ l1
            subst hc
            subst hm
            exact Or.inr ⟨fl, a, l0, rfl, rfl, rfl, by rw [l2], by rw [l2], by first | exact qFr_r | exact qFr_s hg (by omega) (by omega) | exact qFr_u (qFr_s hg (by omega) (by omega)) (by omega) (by omega) | exact qFr_u (qFr_u (qFr_s hg (by omega) (by omega)) (by omega) (by omega)) (by omega) (by omega) | exact qFr_u qFr_r (by omega) (by omega) | exact qFr_u (qFr_u qFr_r (by omega) (by omega)) (by omega) (by omega) | exact qFr_u (qFr_u (qFr_u qFr_r (by omega) (by omega)) (by omega) (by omega)) (by omega) (by omega) | exact qFr_six hf3 t2 | exact fun j hj => hg j (by omega), by first | exact qFw_r | exact qFw_u qFw_r (by omega) (by omega)⟩
        by_cases cs59 : F_r_isSign tok num 59 = 0
        · simp only [cs59, ↓reduceIte] at hC hM
          exact done (Or.inr cs59) hM.symm (fun x hx => by rw [hx] at hC; exact hC.symm)
        · have ht3 : tok = 3 := by
            rw [F_r_isSign_s] at cs59
            by_cases c : tok = 3
            · exact c
            · rw [if_neg c] at cs59; exact absurd rfl cs59
          simp only [cs59, ↓reduceIte] at hC hM
          by_cases cv : features ≤ nI v
          · simp only [cv, ↓reduceIte] at hC hM
            exact done (Or.inl (by rw [q_le] at cv; omega)) hM.symm (fun x hx => by rw [hx] at hC; exact hC.symm)
          · simp only [cv, ↓reduceIte] at hC hM
            rw [qF_4 (by rw [ht3]; decide)] at hC
            subst hC
            subst hM
            exact Or.inr ⟨8, a, q_8p, rfl, rfl, rfl, (q_msN q_8p ..).1, (q_msN q_8p ..).2, by first | exact qFr_r | exact qFr_s hg (by omega) (by omega) | exact qFr_u (qFr_s hg (by omega) (by omega)) (by omega) (by omega) | exact qFr_u (qFr_u (qFr_s hg (by omega) (by omega)) (by omega) (by omega)) (by omega) (by omega) | exact qFr_u qFr_r (by omega) (by omega) | exact qFr_u (qFr_u qFr_r (by omega) (by omega)) (by omega) (by omega) | exact qFr_u (qFr_u (qFr_u qFr_r (by omega) (by omega)) (by omega) (by omega)) (by omega) (by omega) | exact qFr_six hf3 t2 | exact fun j hj => hg j (by omega), by first | exact qFw_r | exact qFw_u qFw_r (by omega) (by omega)⟩
theorem q_key {n : Int32} {T : Nat → Int32} {tok a b num lt cs cn fp ba : Int32} {wd cl : Int64} {features feT keys rings doors : Int32} {nf nk nr nd fn w : Nat → Int64} {g hFe isOn st tf six ks : Nat → Int32} {C : qKC} {M : qKM} (hn : n.toInt ≤ 900) (hN : qNms features keys rings doors nf nk nr nd w g) (hF : qRF features feT st tf six fn w g hFe) (hT : qTk n T tok a b num lt wd cs cn cl) (ht : tok = 1) (hC : F_Ho_readKey n tok a b cn cs cl 0 fp T nf nk nr nd features keys rings doors st ks = C) (hM : F_r_readKey n 0 ba tok a b num lt wd T g w isOn = M) : (∃ (k : Nat) (wn : Int64), k < 10 ∧ keys = nI k ∧ qKR n T fp ba features nk (vp_updL w (87 + k) wn) wn k g ks isOn b C M) ∨ (∃ (fl p : Int32), 0 < fl.toInt ∧ C.1 = 0 ∧ C.2.2.2.2.2.2.2.1 = fl ∧ C.2.2.2.2.2.2.2.2.1 = p ∧ (qMs n M.1 M.2.1 M.2.2.1 M.2.2.2.1 M.2.2.2.2.1 M.2.2.2.2.2.1 M.2.2.2.2.2.2.1 M.2.2.2.2.2.2.2.1 T).1 = fl ∧ (qMs n M.1 M.2.1 M.2.2.1 M.2.2.2.1 M.2.2.2.2.1 M.2.2.2.2.2.1 M.2.2.2.2.2.2.1 M.2.2.2.2.2.2.2.1 T).2.1 = p ∧ qFr g M.2.2.2.2.2.2.2.2.2.1 ∧ qFw w M.2.2.2.2.2.2.2.2.1) := by
  obtain ⟨⟨e1, e2, e3, e4⟩, hNf, hNk, -⟩ := id hN
  rw [F_Ho_readKey_s] at hC
  rw [F_r_readKey_s] at hM
  have hb := q_tkb hT
  have hab := hT.2.2.2.2.2.1 (by rw [ht]; decide)
  by_cases c10 : keys < 10
  · obtain ⟨k, hk, hk10⟩ : ∃ k : Nat, keys = nI k ∧ k < 10 := ⟨keys.toInt.toNat, q_toN (m := 0) hNk.1, by rw [q_lt, q10] at c10; have := hNk.1; omega⟩
    have hgk : g 1461 = nI k := by rw [← e2, hk]
    have hk3 : ¬ g 1461 = 10 := fun h9 => by rw [← e2] at h9; rw [h9] at c10; exact absurd c10 (by decide)
    obtain ⟨tok1, a1, b1, num1, lt1, wd1, cs1, cn1, cl1, f1, f2, f3, f4⟩ := q_ad (T := T) hn hb.1 hb.2 cn cs cl num lt wd
    have hx : ((87 : Int32) + nI k).toNatClampNeg = 87 + k := by
      show (nI 87 + nI k).toNatClampNeg = _
      rw [nI_add, qnI_cl (by omega)]
    simp only [c10, f1, ↓reduceIte] at hC
    rcases q_new_1 (ba := ba) (fp := fp) (tok0 := tok) (a0 := a) hn hN hk3 f2 f4 with ⟨tok2, a2, b2, num2, lt2, wd2, cs2, cn2, cl2, h1, h2, h3, h4, h5⟩ | ⟨fl, h0, h1, h2⟩
    · simp only [h1, h3, ↓reduceIte] at hC
      simp only [h2, hx, hgk] at hM
      rw [hk] at hC
      refine Or.inl ⟨k, wd1, hk10, hk, qKR_m (show b.toInt ≤ a2.toInt by omega) (q_keyL hn hk10 hNf.1 hNf.2.1 e1.symm hgk (fun j hj => (hF.1 j hj).1) ((2147483647 - (0 : Int32).toInt).toNat + 1) _ 0 ks g tok2 a2 b2 num2 lt2 cs2 cn2 wd2 cl2 C M (by show (2147483647 - (0 : Int32).toInt).toNat < _; omega) (Nat.lt_succ_self _) hNf.1 h5 qSm_r qSm_r (fun i hi => absurd hi (by omega)) hC hM)⟩
    · have hl0 : lg_cmp 0 0 = 0 := by decide +kernel
      simp only [h1, hl0, ↓reduceIte] at hC
      simp only [h2] at hM
      rw [F_r_readKey_L11a_s] at hM
      simp only [q_ne0 h0, ↓reduceIte] at hM
      subst hC
      subst hM
      exact Or.inr ⟨fl, a1, h0, rfl, rfl, rfl, (q_msN h0 ..).1, (q_msN h0 ..).2, by first | exact qFr_r | exact qFr_s hg (by omega) (by omega) | exact qFr_u (qFr_s hg (by omega) (by omega)) (by omega) (by omega) | exact qFr_u (qFr_u (qFr_s hg (by omega) (by omega)) (by omega) (by omega)) (by omega) (by omega) | exact qFr_u qFr_r (by omega) (by omega) | exact qFr_u (qFr_u qFr_r (by omega) (by omega)) (by omega) (by omega) | exact qFr_u (qFr_u (qFr_u qFr_r (by omega) (by omega)) (by omega) (by omega)) (by omega) (by omega) | exact qFr_six hf3 t2 | exact fun j hj => hg j (by omega), by first | exact qFw_r | exact qFw_u qFw_r (by omega) (by omega)⟩
  · have hg10 : g 1461 = 10 := q_eq.mpr (by rw [← e2, q10]; rw [q_nlt, q10] at c10; have := hNk.2.1; omega)
    have hnf : F_r_readNew_1 n 0 ba tok a b num lt wd T g w = (0, 6, a, tok, a, b, num, lt, wd, w) := by
      rw [F_r_readNew_1_s]
      simp only [qc_1461, hg10, q_fail, ↓reduceIte]
    simp only [c10, q_refuse, ↓reduceIte] at hC
    simp only [hnf] at hM
    rw [F_r_readKey_L11a_s] at hM
    simp only [q_ne0 q_6p, ↓reduceIte] at hM
    rw [qF_4 (by rw [ht]; decide)] at hC
    subst hC
    subst hM
    exact Or.inr ⟨6, a, q_6p, rfl, rfl, rfl, (q_msN q_6p ..).1, (q_msN q_6p ..).2, by first | exact qFr_r | exact qFr_s hg (by omega) (by omega) | exact qFr_u (qFr_s hg (by omega) (by omega)) (by omega) (by omega) | exact qFr_u (qFr_u (qFr_s hg (by omega) (by omega)) (by omega) (by omega)) (by omega) (by omega) | exact qFr_u qFr_r (by omega) (by omega) | exact qFr_u (qFr_u qFr_r (by omega) (by omega)) (by omega) (by omega) | exact qFr_u (qFr_u (qFr_u qFr_r (by omega) (by omega)) (by omega) (by omega)) (by omega) (by omega) | exact qFr_six hf3 t2 | exact fun j hj => hg j (by omega), by first | exact qFw_r | exact qFw_u qFw_r (by omega) (by omega)⟩
