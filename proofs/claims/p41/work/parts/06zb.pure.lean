def qFt (o ow : Nat) (features : Int32) (st : Nat → Int32) (fn : Nat → Int64) (g : Nat → Int32) (w : Nat → Int64) : Prop := features = g o ∧ 0 ≤ features.toInt ∧ features.toInt ≤ 3 ∧ ∀ j : Nat, (j : Int) < features.toInt → st j = g (o + 11 + j) ∧ 2 ≤ (st j).toInt ∧ (st j).toInt ≤ 4 ∧ fn j = w (ow + j)
abbrev qXC : Type := Int32 × Int32 × Int32 × Int32 × Int32 × Int32 × Int32 × Int32 × Int32 × (Nat → Int64) × (Nat → Int32) × (Nat → Int32) × (Nat → Int32) × (Nat → Int32) × (Nat → Int32) × (Nat → Int32) × (Nat → Int32) × (Nat → Int32) × (Nat → Int32) × (Nat → Int32) × Int32 × Int32 × Int32 × Int32 × Int32 × Int32 × Int32 × Int32 × Int64 × Int32 × Int32 × Int32 × Int32 × Int32 × Int32 × (Nat → Int64) × (Nat → Int64) × (Nat → Int64) × (Nat → Int64) × Int32 × Int32 × Int32 × Int32 × Int32 × Int32 × Int32 × (Nat → Int64) × (Nat → Int32) × (Nat → Int32) × (Nat → Int32) × (Nat → Int32) × (Nat → Int32) × (Nat → Int32) × (Nat → Int32) × (Nat → Int32) × (Nat → Int32) × (Nat → Int32)
theorem q_cpy3 {α : Type} {a b : Nat → α} {j : Nat} (h : j < 3) : va_cpy a b (0 : Int32).toNatClampNeg (0 : Int32).toNatClampNeg (3 : Int32).toNatClampNeg j = a j := by
  rcases (show j = 0 ∨ j = 1 ∨ j = 2 by omega) with c | c | c <;> subst c <;> rfl
theorem q_house {h_features : Int32} {h_keys : Int32} {h_lent : Int32} {h_rings : Int32} {h_doors : Int32} {h_turned : Int32} {h_roundMany : Int32} {c_h_featureNames : Nat → Int64} {c_h_steps : Nat → Int32} {c_h_turnedFeatures : Nat → Int32} {c_h_sixteenths : Nat → Int32} {c_h_keySteps : Nat → Int32} {c_h_on : Nat → Int32} {c_h_onMany : Nat → Int32} {c_h_wanted : Nat → Int32} {c_h_openers : Nat → Int32} {c_h_seconds : Nat → Int32} {c_h_roundDoors : Nat → Int32} {o_held : Int32} {fed : Int32} {t_length : Int32} {t_kind : Int32} {t_start : Int32} {t_end : Int32} {t_number : Int32} {t_sign : Int32} {t_letters : Int64} {t_fault : Int32} {t_faultPlace : Int32} {T : Nat → Int32} {hr_keysOnRings : Int32} {hr_feelsTold : Int32} {hr_secondsTold : Int32} {hr_turnedTold : Int32} {c_n_f : Nat → Int64} {c_n_k : Nat → Int64} {c_n_r : Nat → Int64} {c_n_d : Nat → Int64} {hf_features : Int32} {hf_keys : Int32} {hf_lent : Int32} {hf_rings : Int32} {hf_doors : Int32} {hf_turned : Int32} {hf_roundMany : Int32} {c_hf_featureNames : Nat → Int64} {c_hf_steps : Nat → Int32} {c_hf_turnedFeatures : Nat → Int32} {c_hf_sixteenths : Nat → Int32} {c_hf_keySteps : Nat → Int32} {c_hf_on : Nat → Int32} {c_hf_onMany : Nat → Int32} {c_hf_wanted : Nat → Int32} {c_hf_openers : Nat → Int32} {c_hf_seconds : Nat → Int32} {c_hf_roundDoors : Nat → Int32} {k1 : Int32} {mEnd mFk mFa mBad mBa mTok mAt mBe mNu mLe mS mT mR : Int32} {mWo : Int64} {g : Nat → Int32} {w : Nat → Int64} {hFe isOn : Nat → Int32} {C : qXC} {M : qHM} (h0 : 0 ≤ fed.toInt) (h9 : fed.toInt ≤ 900) (hC : F_X_house h_features h_keys h_lent h_rings h_doors h_turned h_roundMany c_h_featureNames c_h_steps c_h_turnedFeatures c_h_sixteenths c_h_keySteps c_h_on c_h_onMany c_h_wanted c_h_openers c_h_seconds c_h_roundDoors o_held fed t_length t_kind t_start t_end t_number t_sign t_letters t_fault t_faultPlace T hr_keysOnRings hr_feelsTold hr_secondsTold hr_turnedTold c_n_f c_n_k c_n_r c_n_d hf_features hf_keys hf_lent hf_rings hf_doors hf_turned hf_roundMany c_hf_featureNames c_hf_steps c_hf_turnedFeatures c_hf_sixteenths c_hf_keySteps c_hf_on c_hf_onMany c_hf_wanted c_hf_openers c_hf_seconds c_hf_roundDoors k1 = C) (hM : F_r_house fed mEnd mFk mFa mBad mBa mTok mAt mBe mNu mLe mWo mS mT mR T g w hFe isOn k1 = M) : C.1 = M.1 ∧ C.2.2.2.2.2.2.2.2.2.2.2.2.2.2.2.2.2.2.2.2.2.1 = M.2.2.2.1 ∧ (0 ≤ M.2.2.2.1.toInt ∧ M.2.2.2.1.toInt ≤ 900) ∧ ((C.2.2.2.2.2.2.2.2.2.2.2.2.2.2.2.2.2.2.2.2.2.2.2.2.2.2.2.2.2.1 = t_fault ∧ C.2.2.2.2.2.2.2.2.2.2.2.2.2.2.2.2.2.2.2.2.2.2.2.2.2.2.2.2.2.2.1 = t_faultPlace ∧ M.2.2.2.2.2.2.2.2.2.2.2.2.1 = mFk ∧ M.2.2.2.2.2.2.2.2.2.2.2.2.2.1 = mFa) ∨ (C.2.2.2.2.2.2.2.2.2.2.2.2.2.2.2.2.2.2.2.2.2.2.2.2.2.2.2.2.2.1 = M.2.2.2.2.2.2.2.2.2.2.2.2.1 ∧ C.2.2.2.2.2.2.2.2.2.2.2.2.2.2.2.2.2.2.2.2.2.2.2.2.2.2.2.2.2.2.1 = M.2.2.2.2.2.2.2.2.2.2.2.2.2.1)) ∧ (qFt 0 0 h_features c_h_steps c_h_featureNames g w → qFt 0 0 C.2.2.1 C.2.2.2.2.2.2.2.2.2.2.1 C.2.2.2.2.2.2.2.2.2.1 M.2.2.2.2.2.2.2.2.2.2.2.2.2.2.2.2.2.2.1 M.2.2.2.2.2.2.2.2.2.2.2.2.2.2.2.2.2.2.2.1) ∧ (∀ j : Nat, 180 ≤ j → ¬ (1460 ≤ j ∧ j < 1640) → M.2.2.2.2.2.2.2.2.2.2.2.2.2.2.2.2.2.2.1 j = g j) ∧ ∀ j : Nat, 21 ≤ j → ¬ (84 ≤ j ∧ j < 105) → M.2.2.2.2.2.2.2.2.2.2.2.2.2.2.2.2.2.2.2.1 j = w j := by
  have h00 : 0 ≤ (0 : Int32).toInt ∧ (0 : Int32).toInt ≤ 900 := by decide +kernel
  rw [F_X_house_s] at hC
  rw [F_r_house_s] at hM
  by_cases c0 : k1 < 0
  · simp only [c0, ↓reduceIte] at hC
    simp only [F_r_begins_s, F_r_no_s, c0, ↓reduceIte] at hM
    subst hC
    subst hM
    exact ⟨rfl, rfl, ⟨h0, h9⟩, Or.inl ⟨rfl, rfl, rfl, rfl⟩, fun h => h, fun _ _ _ => rfl, fun _ _ _ => rfl⟩
  · by_cases c1 : k1 ≤ fed
    · have c2 : ¬ fed < k1 := by rw [q_nlt]; exact q_le.mp c1
      have hk0 := q_nlt.mp c0
      rw [q0] at hk0
      have hk9 : k1.toInt ≤ 900 := by rw [q_le] at c1; omega
      have c3 : k1 ≤ 900 := by rw [q_le, q900]; exact hk9
      obtain ⟨tok1, a1, b1, num1, lt1, wd1, cs1, cn1, cl1, f1, f2, f3, f4⟩ := q_ad (T := T) (v := 0) hk9 (by rw [q0]; omega) (by rw [q0]; exact hk0) t_number t_sign t_letters mNu mLe mWo
      simp only [c0, c1, F_Te_begin_s, f1, ↓reduceIte] at hC
      simp only [F_r_begins_s, c0, c2, c3, f2, q_n1, ↓reduceIte] at hM
      generalize hCA : F_Ho_readAll k1 tok1 a1 b1 cn1 cs1 cl1 0 (-1) T c_n_f c_n_k c_n_r c_n_d c_hf_featureNames c_hf_steps c_hf_turnedFeatures c_hf_sixteenths c_hf_keySteps c_hf_on c_hf_onMany c_hf_wanted c_hf_openers c_hf_seconds c_hf_roundDoors = CA at hC
      rcases q_readAll (w := w) (hFe := hFe) (g := g) (isOn := isOn) (ba := mBa) (n1 := 0) (n2 := 0) hk9 f4 hCA hM with ⟨koR', feT', sT', tT', features', keys', rings', doors', tu', rm', S', Tt', R', nf', nk', nr', nd', fn', w', st', tf', six', ks', on', om', wa', op', se', rd', hFe', g', isOn', a2, b2, num2, lt2, wd2, cs2, cn2, cl2, ba2, e1, e2, hs, hg2, hw2⟩ | ⟨fl, p, w2, hFe2, tok2, a2, b2, num2, lt2, wd2, S2, T2, R2, g2, o2, k0, d1, d2, d3, d4, hg2, hw2⟩
      · obtain ⟨hN, hF, -⟩ := hs
        obtain ⟨g3, w3, r1, r2, r3⟩ := q_189 (n2 := 0) (n3 := k1) (w := w') (hFe := hFe') (isOn := isOn') (bad := 0) (ba := ba2) (tok := 0) (a := a2) (b := b2) (num := num2) (lt := lt2) (wd := wd2) (S := S') (Tt := Tt') (R := R') (x1 := 0) (x2 := 0) (x3 := -1) ((2147483647 - (0 : Int32).toInt).toNat + 1) 0 g' (by show (2147483647 - (0 : Int32).toInt).toNat < _; omega) (by omega)
        have e2' := r1.symm.trans e2
        subst e1
        simp only [q_n1, F_Ho_copy_s, ↓reduceIte] at hC
        subst hC
        subst e2'
        refine ⟨?_, rfl, h00, Or.inr ⟨rfl, rfl⟩, fun _ => ⟨?_, hN.2.1.1, hN.2.1.2.1, fun j hj => ?_⟩, fun j h1 h2 => ?_, fun j h1 h2 => ?_⟩
        · exact hN.1.2.1.trans (by show _ = g3 1; rw [r2 1, if_pos (by omega)])
        · exact hN.1.1.trans (by show _ = g3 0; rw [r2 0, if_pos (by omega)])
        · have hj' : (j : Int) < features'.toInt := hj
          obtain ⟨⟨x1, x2, x3⟩, -, x4, -⟩ := hF.1 j hj'
          have h3 := hN.2.1.2.1
          show va_cpy st' c_h_steps _ _ _ j = g3 (0 + 11 + j) ∧ 2 ≤ (va_cpy st' c_h_steps _ _ _ j).toInt ∧ (va_cpy st' c_h_steps _ _ _ j).toInt ≤ 4 ∧ va_cpy fn' c_h_featureNames _ _ _ j = w3 (0 + j)
          rw [q_cpy3 (show j < 3 by omega), q_cpy3 (show j < 3 by omega), r2 (0 + 11 + j), r3 (0 + j), if_pos (by omega), if_pos (by omega)]
          refine ⟨?_, x2, x3, ?_⟩
          · rw [x1, show 1460 + (0 + 11 + j) = 1471 + j by omega]
          · rw [x4, show 84 + (0 + j) = 84 + j by omega]
        · show g3 j = g j
          rw [r2 j, if_neg (by omega)]
          exact hg2 j h2
        · show w3 j = w j
          rw [r3 j, if_neg (by omega)]
          exact hw2 j h2
      · subst d4
        simp only [d1, ↓reduceIte] at hC
        subst hC
        exact ⟨rfl, rfl, h00, Or.inr ⟨d2, d3⟩, fun ⟨q1', q2', q3', q4'⟩ => ⟨q1'.trans (hg2 0 (by omega)).symm, q2', q3', fun j hj => by
          have hj' : (j : Int) < h_features.toInt := hj
          obtain ⟨x1, x2, x3, x4⟩ := q4' j hj'
          exact ⟨x1.trans (hg2 (0 + 11 + j) (by omega)).symm, x2, x3, x4.trans (hw2 (0 + j) (by omega)).symm⟩⟩, fun j h1 h2 => hg2 j h2, fun j h1 h2 => hw2 j h2⟩
    · have c2 : fed < k1 := by rw [q_lt]; exact q_nle.mp c1
      simp only [c0, c1, ↓reduceIte] at hC
      simp only [F_r_begins_s, F_r_no_s, c0, c2, ↓reduceIte] at hM
      subst hC
      subst hM
      exact ⟨rfl, rfl, ⟨h0, h9⟩, Or.inl ⟨rfl, rfl, rfl, rfl⟩, fun h => h, fun _ _ _ => rfl, fun _ _ _ => rfl⟩

