theorem q_mthL {keys lent rings : Int32} {on om : Nat → Int32} {r v : Nat} (h : (r : Int) < rings.toInt) (h3 : r < 3) (hv : om r = nI v) (hv9 : v ≤ 10) : ∀ (f i : Nat), (2147483647 - (nI i).toInt).toNat < f → i ≤ v → F_H_manyThere_L4a keys lent rings on om (nI r) f (nI ((qRw i on (10 * r)).countP (fun k => decide (F_H_isLent keys lent k = 0)))) (nI i) = nI ((qRw v on (10 * r)).countP (fun k => decide (F_H_isLent keys lent k = 0))) := by
  intro f
  induction f with
  | zero => intro i hf; exact absurd hf (Nat.not_lt_zero _)
  | succ f ih =>
    intro i hf hi
    have e := nI_toInt (show i < 2147483648 by omega)
    have e2 := nI_toInt (show i + 1 < 2147483648 by omega)
    have ev := nI_toInt (show v < 2147483648 by omega)
    rw [F_H_manyThere_L4a_s]
    simp only [q_manyO h h3, hv]
    by_cases c : i = v
    · subst c
      simp only [show nI i ≤ nI i from q_le.mpr (Int.le_refl _), ↓reduceIte]
    · have hk := ih (i + 1) (by omega) (Nat.lt_of_le_of_ne hi c)
      rw [qRw_succ i, List.countP_append, List.countP_singleton] at hk
      simp only [show ¬ nI v ≤ nI i from q_nle.mpr (by rw [e, ev]; omega), q_keyO (on := on) h h3 hv hv9 (show i < v by omega), qnI_s, ↓reduceIte]
      by_cases d : F_H_isLent keys lent (on (10 * r + i)) = 0
      · simp only [d, decide_true, ↓reduceIte] at hk ⊢
        exact hk
      · simp only [d, decide_false, Bool.false_eq_true, Nat.add_zero, ↓reduceIte] at hk ⊢
        exact hk
theorem q_mth {keys lent rings : Int32} {on om : Nat → Int32} {r v : Nat} (h : (r : Int) < rings.toInt) (h3 : r < 3) (hv : om r = nI v) (hv9 : v ≤ 10) : F_H_manyThere keys lent rings on om (nI r) = nI ((qRw v on (10 * r)).countP (fun k => decide (F_H_isLent keys lent k = 0))) := by
  rw [F_H_manyThere_s]
  exact q_mthL (keys := keys) (lent := lent) (on := on) h h3 hv hv9 ((2147483647 - (0 : Int32).toInt).toNat + 1) 0 (by show (2147483647 - (0 : Int32).toInt).toNat < _; omega) (by omega)
theorem q_gaL {g : Nat → Int32} {r v : Nat} (h3 : r < 3) (hv : g (95 + r) = nI v) (hv9 : v ≤ 10) : ∀ (f i : Nat) (t : Nat → Int32), (2147483647 - (nI i).toInt).toNat < f → i ≤ v → ∃ t' : Nat → Int32, F_r_gather_L7a g (nI r) f (nI i) (nI ((qRw i g (98 + 10 * r)).countP (fun k => decide (¬ g ((150 : Int32) + k).toNatClampNeg = 1)))) t = (nI ((qRw v g (98 + 10 * r)).countP (fun k => decide (¬ g ((150 : Int32) + k).toNatClampNeg = 1))), t') := by
  intro f
  induction f with
  | zero => intro i t hf; exact absurd hf (Nat.not_lt_zero _)
  | succ f ih =>
    intro i t hf hi
    have e := nI_toInt (show i < 2147483648 by omega)
    have e2 := nI_toInt (show i + 1 < 2147483648 by omega)
    have ev := nI_toInt (show v < 2147483648 by omega)
    have y1 : ((95 : Int32) + nI r).toNatClampNeg = 95 + r := q_adn (a := 95) (by omega)
    have y2 : ((98 : Int32) + 10 * nI r + nI i).toNatClampNeg = 98 + 10 * r + i := by
      show (nI 98 + nI 10 * nI r + nI i).toNatClampNeg = _
      rw [qnI_mul, nI_add, nI_add, qnI_cl (by omega)]
    rw [F_r_gather_L7a_s]
    simp only [y1, y2, hv, qnI_s]
    by_cases c : i = v
    · subst c
      simp only [show nI i ≤ nI i from q_le.mpr (Int.le_refl _), ↓reduceIte]
      exact ⟨t, rfl⟩
    · simp only [show ¬ nI v ≤ nI i from q_nle.mpr (by rw [e, ev]; omega), ↓reduceIte]
      by_cases d : g ((150 : Int32) + g (98 + 10 * r + i)).toNatClampNeg = 1
      · obtain ⟨t', hk⟩ := ih (i + 1) t (by omega) (Nat.lt_of_le_of_ne hi c)
        rw [qRw_succ i, List.countP_append, List.countP_singleton] at hk
        simp only [d, not_true_eq_false, decide_false, Bool.false_eq_true, Nat.add_zero, ↓reduceIte] at hk ⊢
        exact ⟨t', hk⟩
      · obtain ⟨t', hk⟩ := ih (i + 1) (upd t (nI ((qRw i g (98 + 10 * r)).countP (fun k => decide (¬ g ((150 : Int32) + k).toNatClampNeg = 1)))).toNatClampNeg (g (98 + 10 * r + i))) (by omega) (Nat.lt_of_le_of_ne hi c)
        rw [qRw_succ i, List.countP_append, List.countP_singleton] at hk
        simp only [d, not_false_eq_true, decide_true, ↓reduceIte] at hk ⊢
        exact ⟨t', hk⟩
theorem q_ga {g t : Nat → Int32} {r v : Nat} (h3 : r < 3) (hv : g (95 + r) = nI v) (hv9 : v ≤ 10) : (F_r_gather g t (nI r)).1 = nI ((qRw v g (98 + 10 * r)).countP (fun k => decide (¬ g ((150 : Int32) + k).toNatClampNeg = 1))) := by
  obtain ⟨t', e⟩ := q_gaL h3 hv hv9 ((2147483647 - (0 : Int32).toInt).toNat + 1) 0 t (by show (2147483647 - (0 : Int32).toInt).toNat < _; omega) (by omega)
  rw [F_r_gather_s]
  exact congrArg Prod.fst e
/-- a KEY on a RING is LENT on both sides or on none -/
theorem q_lentA {rings keys lent : Int32} {on om g : Nat → Int32} {k : Int32} (h : qRn 0 rings keys lent on om g) (h0 : 0 ≤ k.toInt) (h1 : k.toInt < keys.toInt) (h10 : keys.toInt ≤ 10) : F_H_isLent keys lent k = 0 ↔ ¬ g ((150 : Int32) + k).toNatClampNeg = 1 := by
  obtain ⟨q, rfl, q1', -⟩ := q_nat ⟨h0, h1⟩ (by omega)
  have e1 : ((150 : Int32) + nI q).toNatClampNeg = 150 + q := q_adn (a := 150) (by omega)
  have hb := h.2 q q1' (by omega)
  rw [show 0 + 150 + q = 150 + q by omega] at hb
  rw [F_H_isLent_s, e1]
  simp only [q_hasKk, h0, h1, and_self, q_n1, ↓reduceIte]
  have hq : (lent >>> (nI q &&& 31)) &&& 1 = qBit lent q := rfl
  rw [hq]
  rcases hb with ⟨b1, b2⟩ | ⟨b1, b2⟩
  · simp only [b1, b2, show ¬ (0 : Int32) = 1 by decide, not_false_eq_true, ↓reduceIte]
  · simp only [b1, b2, q_n1, not_true_eq_false, ↓reduceIte]
theorem q_manyA {rings keys lent : Int32} {on om g : Nat → Int32} {t : Nat → Int32} {r : Nat} (h : qRn 0 rings keys lent on om g) (eK : keys = g 1) (eR : rings = g 2) (h10 : keys.toInt ≤ 10) (hr : (r : Int) < rings.toInt) (h3 : r < 3) (hC : zC g) : F_H_manyThere keys lent rings on om (nI r) = (F_r_gather g t (nI r)).1 := by
  obtain ⟨v, a1, a2, a3, a4⟩ := h.1 r hr h3
  have ev := nI_toInt (show v < 2147483648 by omega)
  rw [show 0 + 95 + r = 95 + r by omega] at a3
  rw [show 0 + 98 + 10 * r = 98 + 10 * r by omega] at a4
  rw [q_mth hr h3 a2 a1, q_ga h3 a3 a1, a4.countP_eq]
  congr 1
  refine List.countP_congr (fun k hk => ?_)
  obtain ⟨i, i1, i2⟩ := qRw_mem.mp hk
  have hz := hC.2.1.2.2.2.2 r i h3 (by rw [show 0 + 2 = 2 from rfl, ← eR]; exact hr) (by rw [show 0 + 95 + r = 95 + r by omega, a3, ev]; omega) (by omega)
  rw [show 0 + 98 + 10 * r + i = 98 + 10 * r + i by omega, i2, show 0 + 1 = 1 from rfl, ← eK] at hz
  have hz0 := (hC.1 (98 + 10 * r + i) (by omega)).1
  have ht : tLo (98 + 10 * r + i) = 0 := by
    unfold tLo
    rw [show (98 + 10 * r + i) % 365 = 98 + 10 * r + i by omega]
    simp only []
    rw [if_neg (by omega), if_neg (by omega), if_pos (by omega)]
  rw [ht, i2] at hz0
  rw [decide_eq_true_eq, decide_eq_true_eq]
  exact q_lentA h hz0 hz h10
theorem q_isR {g : Nat → Int32} {m k : Int32} (e : m = g 2) (h0 : 0 ≤ m.toInt) (h1 : m.toInt ≤ 1000) : F_r_isRing g k = if 0 ≤ k.toInt ∧ k.toInt < m.toInt then 1 else 0 := by
  subst e
  rw [F_r_isRing_s]
  show (if F_r_isIn k.toInt64 0 (g 2 - 1).toInt64 = 0 then (0 : Int32) else 1) = _
  rw [q_inb h0 h1]
  exact q_b01
theorem q_hasRr {m k : Int32} : F_H_hasRing m k = if 0 ≤ k.toInt ∧ k.toInt < m.toInt then 1 else 0 := (F_H_hasRing_s ..).trans q_has
theorem q_takeA {rings keys lent : Int32} {on om g t : Nat → Int32} {k1 : Int32} (h : qRn 0 rings keys lent on om g) (eK : keys = g 1) (eR : rings = g 2) (h10 : keys.toInt ≤ 10) (hR0 : 0 ≤ rings.toInt) (hR3 : rings.toInt ≤ 3) (hC : zC g) : F_X_take keys lent rings on om k1 = F_r_take g t k1 := by
  rw [F_X_take_s, F_r_take_s]
  simp only [q_hasRr, q_isR (k := k1) eR hR0 (by omega)]
  by_cases c : 0 ≤ k1.toInt ∧ k1.toInt < rings.toInt
  · obtain ⟨r, rfl, r1, -⟩ := q_nat c (by omega)
    simp only [c, and_self, q_n1, q_manyA (t := t) h eK eR h10 r1 (by omega) hC, ↓reduceIte]
  · simp only [c, ↓reduceIte]
