theorem q_has {k m : Int32} : (if k < 0 then (0 : Int32) else if m ≤ k then 0 else 1) = if 0 ≤ k.toInt ∧ k.toInt < m.toInt then 1 else 0 := by
  by_cases c : k < 0
  · rw [if_pos c, if_neg (fun h => absurd (q_lt.mp c) (by rw [q0]; omega))]
  · rw [if_neg c]
    have c0 := q_nlt.mp c
    rw [q0] at c0
    by_cases d : m ≤ k
    · rw [if_pos d, if_neg (fun h => absurd (q_le.mp d) (by omega))]
    · rw [if_neg d, if_pos ⟨c0, q_nle.mp d⟩]
theorem q_inb {k m : Int32} (h0 : 0 ≤ m.toInt) (h1 : m.toInt ≤ 1000) : F_r_isIn k.toInt64 0 (m - 1).toInt64 = if 0 ≤ k.toInt ∧ k.toInt < m.toInt then 1 else 0 := by
  have e : (m - 1).toInt = m.toInt - 1 := by rw [q_sub (by rw [q1]; omega) (by rw [q1]; omega), q1]
  rw [show (0 : Int64) = (0 : Int32).toInt64 by decide +kernel, q_isIn]
  by_cases c : 0 ≤ k.toInt
  · rw [if_neg (q_nlt.mpr (by rw [q0]; exact c))]
    by_cases d : k.toInt < m.toInt
    · rw [if_neg (q_nlt.mpr (by omega)), if_pos ⟨c, d⟩]
    · rw [if_pos (q_lt.mpr (by omega)), if_neg (fun h => d h.2)]
  · rw [if_pos (q_lt.mpr (by rw [q0]; omega)), if_neg (fun h => c h.1)]
theorem q_b01 {P : Prop} [Decidable P] : (if (if P then (1 : Int32) else 0) = 0 then (0 : Int32) else 1) = if P then 1 else 0 := by
  by_cases c : P
  · rw [if_pos c, if_neg q_n1]
  · rw [if_neg c, if_pos rfl]
theorem q_at12 {g : Nat → Int32} {r : Nat} (h : r < 12) : F_at_12 g (nI r) = g r := by
  have e := nI_toInt (show r < 2147483648 by omega)
  rw [F_at_12_s, if_neg (q_nlt.mpr (by rw [q0, e]; omega)), if_neg (q_nle.mpr (by rw [e, show (12 : Int32).toInt = 12 by decide +kernel]; omega))]
  show g (nI r).toNatClampNeg = g r
  rw [qnI_cl (by omega)]
theorem q_at30 {g : Nat → Int32} {r : Nat} (h : r < 30) : F_at_30 g (nI r) = g r := by
  have e := nI_toInt (show r < 2147483648 by omega)
  rw [F_at_30_s, if_neg (q_nlt.mpr (by rw [q0, e]; omega)), if_neg (q_nle.mpr (by rw [e, show (30 : Int32).toInt = 30 by decide +kernel]; omega))]
  show g (nI r).toNatClampNeg = g r
  rw [qnI_cl (by omega)]
theorem q_at48 {g : Nat → Int32} {r : Nat} (h : r < 48) : F_at_48 g (nI r) = g r := by
  have e := nI_toInt (show r < 2147483648 by omega)
  rw [F_at_48_s, if_neg (q_nlt.mpr (by rw [q0, e]; omega)), if_neg (q_nle.mpr (by rw [e, q48]; omega))]
  show g (nI r).toNatClampNeg = g r
  rw [qnI_cl (by omega)]
theorem q_g0 (g : Nat → Int32) : g (0 : Int32).toNatClampNeg = g 0 := rfl
theorem q_g1 (g : Nat → Int32) : g (1 : Int32).toNatClampNeg = g 1 := rfl
theorem q_g3 (g : Nat → Int32) : g (3 : Int32).toNatClampNeg = g 3 := rfl
theorem q_g4 (g : Nat → Int32) : g (4 : Int32).toNatClampNeg = g 4 := rfl
theorem q_adn {a v : Nat} (h : a + v < 2147483648) : (nI a + nI v).toNatClampNeg = a + v := by rw [nI_add, qnI_cl h]
theorem q_hasFf {m k : Int32} : F_H_hasFeature m k = if 0 ≤ k.toInt ∧ k.toInt < m.toInt then 1 else 0 := (F_H_hasFeature_s ..).trans q_has
theorem q_hasKk {m k : Int32} : F_H_hasKey m k = if 0 ≤ k.toInt ∧ k.toInt < m.toInt then 1 else 0 := (F_H_hasKey_s ..).trans q_has
theorem q_hasDd {m k : Int32} : F_H_hasDoor m k = if 0 ≤ k.toInt ∧ k.toInt < m.toInt then 1 else 0 := (F_H_hasDoor_s ..).trans q_has
theorem q_isF {g : Nat → Int32} {m k : Int32} (e : m = g 0) (h0 : 0 ≤ m.toInt) (h1 : m.toInt ≤ 1000) : F_r_isFeature g k = if 0 ≤ k.toInt ∧ k.toInt < m.toInt then 1 else 0 := by
  subst e
  rw [F_r_isFeature_s]
  show (if F_r_isIn k.toInt64 0 (g 0 - 1).toInt64 = 0 then (0 : Int32) else 1) = _
  rw [q_inb h0 h1]
  exact q_b01
theorem q_isK {g : Nat → Int32} {m k : Int32} (e : m = g 1) (h0 : 0 ≤ m.toInt) (h1 : m.toInt ≤ 1000) : F_r_isKey g k.toInt64 = if 0 ≤ k.toInt ∧ k.toInt < m.toInt then 1 else 0 := by
  subst e
  rw [F_r_isKey_s]
  show (if F_r_isIn k.toInt64 0 (g 1 - 1).toInt64 = 0 then (0 : Int32) else 1) = _
  rw [q_inb h0 h1]
  exact q_b01
theorem q_isD {g : Nat → Int32} {m k : Int32} (e : m = g 3) (h0 : 0 ≤ m.toInt) (h1 : m.toInt ≤ 1000) : F_r_isDoor g k = if 0 ≤ k.toInt ∧ k.toInt < m.toInt then 1 else 0 := by
  subst e
  rw [F_r_isDoor_s]
  show (if F_r_isIn k.toInt64 0 (g 3 - 1).toInt64 = 0 then (0 : Int32) else 1) = _
  rw [q_inb h0 h1]
  exact q_b01
theorem q_nat {k : Int32} {m : Int} (h : 0 ≤ k.toInt ∧ k.toInt < m) (hm : m ≤ 1000) : ∃ v : Nat, k = nI v ∧ (v : Int) < m ∧ v < 1000 := ⟨k.toInt.toNat, q_toN (m := 0) h.1, by omega, by omega⟩
theorem q_featureA {fe ke ri dO tu rm : Int32} {fn : Nat → Int64} {st tf six ks wa op se rd g : Nat → Int32} {w : Nat → Int64} {k1 k2 : Int32} (h : qTx 0 0 fe ke ri dO tu rm fn st tf six ks wa op se rd g w) (hC : zCt g) : (F_X_feature fe st tf k1 k2).1 = (F_r_feature g k1 k2).1 := by
  obtain ⟨⟨a1, -⟩, ⟨b1, -⟩, h1, -⟩ := h
  rw [F_X_feature_s, F_r_feature_s]
  simp only [q_hasFf, q_isF (k := k1) a1 b1.1 (by omega), F_r_refuse_s, F_H_stepsOf_s, F_H_isTurned_s]
  by_cases c : 0 ≤ k1.toInt ∧ k1.toInt < fe.toInt
  · obtain ⟨v, rfl, c1, -⟩ := q_nat c (by omega)
    obtain ⟨x1, -, -, -, x5, -⟩ := h1 v c1
    have v3 : v < 3 := by omega
    have e1 : ((11 : Int32) + nI v).toNatClampNeg = 11 + v := q_adn (a := 11) (by omega)
    have e2 : ((14 : Int32) + nI v).toNatClampNeg = 14 + v := q_adn (a := 14) (by omega)
    simp only [c, q_n1, and_self, ↓reduceIte, q_at3 v3, e1, e2]
    by_cases d : k2 = 0
    · simp only [d, ↓reduceIte]
      rw [x1, show 0 + 11 + v = 11 + v by omega]
    · by_cases d2 : k2 = 1
      · have hz := hC (14 + v) (by omega)
        have ht : tLo (14 + v) = 0 ∧ tHi (14 + v) = 1 := by
          rcases (show v = 0 ∨ v = 1 ∨ v = 2 by omega) with e | e | e <;> subst e <;> decide
        rw [ht.1, ht.2] at hz
        have x5' : tf v = g (14 + v) := x5.trans (by rw [show 0 + 14 + v = 14 + v by omega])
        rcases (show (g (14 + v)).toInt = 0 ∨ (g (14 + v)).toInt = 1 by omega) with e | e
        · have e' : g (14 + v) = 0 := q_eq.mpr (by rw [e, q0])
          simp only [d2, q_n1, x5', e', show ¬ (0 : Int32) = 1 by decide, ↓reduceIte]
        · have e' : g (14 + v) = 1 := q_eq.mpr (by rw [e, q1])
          simp only [d2, q_n1, x5', e', ↓reduceIte]
      · simp only [d, d2, ↓reduceIte]
  · simp only [c, ↓reduceIte]
theorem q_hasS {fe : Int32} {st : Nat → Int32} {k j : Int32} (h0 : fe.toInt ≤ 3) : F_H_hasStep fe st k j = if 0 ≤ k.toInt ∧ k.toInt < fe.toInt then (if 0 ≤ j.toInt ∧ j.toInt < (st k.toInt.toNat).toInt then 1 else 0) else 0 := by
  rw [F_H_hasStep_s, F_H_stepsOf_s]
  simp only [q_hasFf]
  by_cases c : 0 ≤ k.toInt ∧ k.toInt < fe.toInt
  · obtain ⟨v, rfl, c1, -⟩ := q_nat c (by omega)
    have e := nI_toInt (show v < 2147483648 by omega)
    simp only [c, q_n1, and_self, ↓reduceIte, q_at3 (show v < 3 by omega)]
    rw [show (nI v).toInt.toNat = v by rw [e]; rfl]
    exact q_has
  · simp only [c, ↓reduceIte]
    by_cases d : j < 0
    · rw [if_pos d]
    · rw [if_neg d, if_pos (q_le.mpr (q_nlt.mp d))]
theorem q_isS {g : Nat → Int32} {fe : Int32} {st : Nat → Int32} {k j : Int32} (e : fe = g 0) (h0 : 0 ≤ fe.toInt) (h1 : fe.toInt ≤ 3) (hs : ∀ j : Nat, (j : Int) < fe.toInt → st j = g (0 + 11 + j) ∧ 2 ≤ (st j).toInt ∧ (st j).toInt ≤ 4) : F_r_isStep g k j = if 0 ≤ k.toInt ∧ k.toInt < fe.toInt then (if 0 ≤ j.toInt ∧ j.toInt < (st k.toInt.toNat).toInt then 1 else 0) else 0 := by
  rw [F_r_isStep_s, q_isF (k := k) e h0 (by omega)]
  by_cases c : 0 ≤ k.toInt ∧ k.toInt < fe.toInt
  · obtain ⟨v, rfl, c1, -⟩ := q_nat c (by omega)
    obtain ⟨x1, x2, x3⟩ := hs v c1
    have e1 : ((11 : Int32) + nI v).toNatClampNeg = 11 + v := q_adn (a := 11) (by omega)
    have e2 := nI_toInt (show v < 2147483648 by omega)
    simp only [c, q_n1, and_self, ↓reduceIte, e1]
    rw [show (nI v).toInt.toNat = v by rw [e2]; rfl, show g (11 + v) = st v by rw [x1, show 0 + 11 + v = 11 + v by omega], q_inb (by omega) (by omega)]
    exact q_b01
  · simp only [c, ↓reduceIte]
theorem q_feelsA {fe ke ri dO tu rm : Int32} {fn : Nat → Int64} {st tf six ks wa op se rd g : Nat → Int32} {w : Nat → Int64} {k1 k2 k3 : Int32} (h : qTx 0 0 fe ke ri dO tu rm fn st tf six ks wa op se rd g w) : (F_X_feels fe st six k1 k2 k3).1 = (F_r_feels g k1 k2 k3).1 := by
  obtain ⟨⟨a1, -⟩, ⟨b1, -⟩, h1, -⟩ := h
  have hs : ∀ j : Nat, (j : Int) < fe.toInt → st j = g (0 + 11 + j) ∧ 2 ≤ (st j).toInt ∧ (st j).toInt ≤ 4 := fun j hj => ⟨(h1 j hj).1, (h1 j hj).2.1, (h1 j hj).2.2.1⟩
  rw [F_X_feels_s, F_r_feels_s]
  simp only [q_hasS b1.2, q_isS (k := k1) a1 b1.1 b1.2 hs, F_r_refuse_s, F_H_feltAs_s]
  by_cases c : 0 ≤ k1.toInt ∧ k1.toInt < fe.toInt
  · obtain ⟨v, rfl, c1, -⟩ := q_nat c (by omega)
    obtain ⟨x1, x2, x3, -, -, x6⟩ := h1 v c1
    have v3 : v < 3 := by omega
    have ev := nI_toInt (show v < 2147483648 by omega)
    have ev2 : (nI v).toInt.toNat = v := by rw [ev]; rfl
    simp only [c, ev2, and_self, ↓reduceIte]
    by_cases d : 0 ≤ k2.toInt ∧ k2.toInt < (st v).toInt
    · by_cases d2 : 0 ≤ k3.toInt ∧ k3.toInt < (st v).toInt
      · obtain ⟨a, rfl, a1', -⟩ := q_nat d (by omega)
        obtain ⟨b, rfl, b1', -⟩ := q_nat d2 (by omega)
        have ea := nI_toInt (show a < 2147483648 by omega)
        have eb := nI_toInt (show b < 2147483648 by omega)
        have e1 : nI v * 4 + nI a = nI (v * 4 + a) := by rw [show (4 : Int32) = nI 4 by decide +kernel, qnI_mul, nI_add]
        have e2 : nI (v * 4 + a) * 4 + nI b = nI ((v * 4 + a) * 4 + b) := by rw [show (4 : Int32) = nI 4 by decide +kernel, qnI_mul, nI_add]
        have e3 : ((17 : Int32) + 16 * nI v + 4 * nI a + nI b).toNatClampNeg = 17 + 16 * v + 4 * a + b := by
          show (nI 17 + nI 16 * nI v + nI 4 * nI a + nI b).toNatClampNeg = _
          rw [qnI_mul, qnI_mul, nI_add, nI_add, nI_add, qnI_cl (by omega)]
        simp only [d, d2, q_n1, and_self, ↓reduceIte, show ¬ nI a < 0 from q_nlt.mpr (by rw [q0, ea]; omega), show ¬ (4 : Int32) ≤ nI a from q_nle.mpr (by rw [q4, ea]; omega), show ¬ nI b < 0 from q_nlt.mpr (by rw [q0, eb]; omega), show nI b < 4 from q_lt.mpr (by rw [q4, eb]; omega), e1, e2, e3]
        rw [q_at48 (by omega)]
        have := x6 (4 * a + b) (by omega)
        rw [show (v * 4 + a) * 4 + b = 16 * v + (4 * a + b) by omega, this]
        congr 1
        omega
      · simp only [d, d2, q_n1, and_self, ↓reduceIte]
    · simp only [d, ↓reduceIte]
  · simp only [c, ↓reduceIte]
theorem q_stepOfA {fe ke ri dO tu rm : Int32} {fn : Nat → Int64} {st tf six ks wa op se rd g : Nat → Int32} {w : Nat → Int64} {k1 k2 : Int32} (h : qTx 0 0 fe ke ri dO tu rm fn st tf six ks wa op se rd g w) : (F_X_stepOf fe ke st tf ks k1 k2).1 = (F_r_stepOf g k1 k2).1 := by
  obtain ⟨⟨a1, a2, -⟩, ⟨b1, b2, -⟩, -, h2, -⟩ := h
  rw [F_X_stepOf_s, F_r_stepOf_s]
  simp only [q_hasFf, q_hasKk, q_isF (k := k2) a1 b1.1 (by omega), q_isK (k := k1) a2 b2.1 (by omega), F_r_refuse_s, F_H_stepAt_s]
  by_cases c : 0 ≤ k1.toInt ∧ k1.toInt < ke.toInt
  · by_cases d : 0 ≤ k2.toInt ∧ k2.toInt < fe.toInt
    · obtain ⟨a, rfl, a1', -⟩ := q_nat c (by omega)
      obtain ⟨b, rfl, b1', -⟩ := q_nat d (by omega)
      have e1 : nI a * 3 + nI b = nI (a * 3 + b) := by rw [show (3 : Int32) = nI 3 by decide +kernel, qnI_mul, nI_add]
      have e3 : ((65 : Int32) + 3 * nI a + nI b).toNatClampNeg = 65 + 3 * a + b := by
        show (nI 65 + nI 3 * nI a + nI b).toNatClampNeg = _
        rw [qnI_mul, nI_add, nI_add, qnI_cl (by omega)]
      simp only [c, d, q_n1, and_self, ↓reduceIte, e1, e3, show ¬ (0 : Int32) = 1 by decide]
      rw [q_at30 (by omega), show a * 3 + b = 3 * a + b by omega]
      exact (h2 a a1' (by omega) b b1' (by omega)).trans (by rw [show 0 + 65 + 3 * a + b = 65 + 3 * a + b by omega])
    · simp only [c, d, q_n1, and_self, ↓reduceIte]
  · simp only [c, ↓reduceIte]
theorem q_doorA {fe ke ri dO tu rm : Int32} {fn : Nat → Int64} {st tf six ks wa op se rd g : Nat → Int32} {w : Nat → Int64} {k1 k2 : Int32} (h : qTx 0 0 fe ke ri dO tu rm fn st tf six ks wa op se rd g w) : (F_X_door dO wa op k1 k2).1 = (F_r_door g k1 k2).1 := by
  obtain ⟨⟨-, -, -, a4, -⟩, ⟨-, -, -, b4, -⟩, -, -, h3, -⟩ := h
  rw [F_X_door_s, F_r_door_s]
  simp only [q_hasDd, q_isD (k := k1) a4 b4.1 (by omega), F_r_refuse_s, F_H_wantedOf_s, F_H_openersOf_s]
  by_cases c : 0 ≤ k1.toInt ∧ k1.toInt < dO.toInt
  · obtain ⟨v, rfl, c1, -⟩ := q_nat c (by omega)
    obtain ⟨x1, x2⟩ := h3 v c1 (by omega)
    have v5 : v < 5 := by omega
    have e1 : ((128 : Int32) + nI v).toNatClampNeg = 128 + v := q_adn (a := 128) (by omega)
    have e2 : ((133 : Int32) + nI v).toNatClampNeg = 133 + v := q_adn (a := 133) (by omega)
    simp only [c, q_n1, and_self, ↓reduceIte, q_at5 v5, e1, e2]
    by_cases d : k2 = 0
    · simp only [d, ↓reduceIte]
      rw [x1, show 0 + 128 + v = 128 + v by omega]
    · by_cases d2 : k2 = 1
      · simp only [d2, q_n1, ↓reduceIte]
        rw [x2, show 0 + 133 + v = 133 + v by omega]
      · simp only [d, d2, ↓reduceIte]
  · simp only [c, ↓reduceIte]
theorem q_roundA {fe ke ri dO tu rm : Int32} {fn : Nat → Int64} {st tf six ks wa op se rd g : Nat → Int32} {w : Nat → Int64} {k1 : Int32} (h : qTx 0 0 fe ke ri dO tu rm fn st tf six ks wa op se rd g w) : (F_X_round rm rd k1).1 = (F_r_round g k1).1 := by
  obtain ⟨⟨-, -, -, -, a5, -⟩, ⟨-, -, -, -, b5⟩, -, -, -, -, h5⟩ := h
  rw [F_X_round_s, F_r_round_s]
  have e4 : g 4 = rm := a5.symm
  simp only [q_g4, e4, q_inb (k := k1) b5.1 (show rm.toInt ≤ 1000 by omega), F_r_refuse_s]
  by_cases c : 0 ≤ k1.toInt ∧ k1.toInt < rm.toInt
  · obtain ⟨v, rfl, c1, -⟩ := q_nat c (by omega)
    have ev := nI_toInt (show v < 2147483648 by omega)
    have e1 : ((138 : Int32) + nI v).toNatClampNeg = 138 + v := q_adn (a := 138) (by omega)
    simp only [c, q_n1, and_self, ↓reduceIte, e1, show ¬ nI v < 0 from q_nlt.mpr (by rw [q0]; exact c.1), show nI v < rm from q_lt.mpr c.2]
    rw [q_at12 (by omega)]
    exact (h5 v c1 (by omega)).1.trans (by rw [show 0 + 138 + v = 138 + v by omega])
  · simp only [c, ↓reduceIte]
    by_cases d : k1 < 0
    · simp only [d, ↓reduceIte]
    · have d0 := q_nlt.mp d
      rw [q0] at d0
      simp only [d, show ¬ k1 < rm from fun h9 => c ⟨d0, q_lt.mp h9⟩, ↓reduceIte]
theorem q_lendA {fe ke ri dO tu rm : Int32} {fn : Nat → Int64} {st tf six ks wa op se rd g on om : Nat → Int32} {w : Nat → Int64} {le he k1 k2 : Int32} (h : qTx 0 0 fe ke ri dO tu rm fn st tf six ks wa op se rd g w) : (F_X_lend ke le ri on om he k1 k2).1 = (F_r_lend g k1 k2).1 := by
  obtain ⟨⟨-, a2, -⟩, ⟨-, b2, -⟩, -⟩ := h
  rw [F_X_lend_s, F_r_lend_s]
  simp only [q_hasKk, q_isK (k := k1) a2 b2.1 (by omega), F_r_no_s]
  by_cases c : 0 ≤ k1.toInt ∧ k1.toInt < ke.toInt
  · simp only [c, q_n1, and_self, ↓reduceIte]
    split <;> split <;> rfl
  · simp only [c, ↓reduceIte]
