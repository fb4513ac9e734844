theorem q_plR {g : Nat → Int32} {r v : Nat} {k : Int32} (h3 : r < 3) (hv : g (95 + r) = nI v) (hv9 : v ≤ 10) : ∀ (f i : Nat), (2147483647 - (nI i).toInt).toNat < f → i ≤ v → (∀ j : Nat, j < i → ¬ g (98 + 10 * r + j) = k) → qPl v g (98 + 10 * r) k (F_r_placeOf_L8a g k (nI r) f (nI i)) := by
  intro f
  induction f with
  | zero => intro i hf; exact absurd hf (Nat.not_lt_zero _)
  | succ f ih =>
    intro i hf hi hj
    have e := nI_toInt (show i < 2147483648 by omega)
    have e2 := nI_toInt (show i + 1 < 2147483648 by omega)
    have er := nI_toInt (show r < 2147483648 by omega)
    have ev := nI_toInt (show v < 2147483648 by omega)
    have y1 : ((95 : Int32) + nI r).toNatClampNeg = 95 + r := q_adn (a := 95) (by omega)
    have y2 : ((98 : Int32) + 10 * nI r + nI i).toNatClampNeg = 98 + 10 * r + i := by
      show (nI 98 + nI 10 * nI r + nI i).toNatClampNeg = _
      rw [qnI_mul, nI_add, nI_add, qnI_cl (by omega)]
    rw [F_r_placeOf_L8a_s]
    simp only [show ¬ nI r < 0 from q_nlt.mpr (by rw [q0, er]; omega), y1, y2, hv, qnI_s, ↓reduceIte]
    by_cases c : i = v
    · subst c
      simp only [show nI i ≤ nI i from q_le.mpr (Int.le_refl _), ↓reduceIte]
      refine Or.inr ⟨by trivial, fun hm => ?_⟩
      obtain ⟨j, a1, a2⟩ := qRw_mem.mp hm
      exact hj j a1 a2
    · simp only [show ¬ nI v ≤ nI i from q_nle.mpr (by rw [e, ev]; omega), ↓reduceIte]
      by_cases d : g (98 + 10 * r + i) = k
      · simp only [d, ↓reduceIte]
        exact Or.inl ⟨i, by omega, rfl, d⟩
      · simp only [d, ↓reduceIte]
        exact ih (i + 1) (by omega) (Nat.lt_of_le_of_ne hi c) (fun j hj2 => by
          by_cases c2 : j = i
          · subst c2; exact d
          · exact hj j (by omega))
theorem q_offR {g : Nat → Int32} {r v : Nat} {k : Int32} (h3 : r < 3) (hv : g (95 + r) = nI (v + 1)) (hv9 : v ≤ 9) (hk : k ∈ qRw (v + 1) g (98 + 10 * r)) (hr : F_r_ringOf g k = nI r) : ∃ (p : Nat) (g1 : Nat → Int32), p ≤ v ∧ g (98 + 10 * r + p) = k ∧ F_r_take2 g k = upd g1 (95 + r) (nI v) ∧ qDn (98 + 10 * r) p v g g1 := by
  rcases q_plR (k := k) h3 hv (by omega) ((2147483647 - (0 : Int32).toInt).toNat + 1) 0 (by show (2147483647 - (0 : Int32).toInt).toNat < _; omega) (by omega) (fun j hj => absurd hj (Nat.not_lt_zero _)) with ⟨p, p1, p2, p3⟩ | ⟨p1, p2⟩
  · obtain ⟨g1, a1, a2⟩ := q_tk2L (p := p) (on := g) h3 hv9 hv ((2147483647 - (nI p).toInt).toNat + 1) p g (Nat.lt_succ_self _) (Nat.le_refl _) (by omega) (qDn_0 _ _ _)
    refine ⟨p, g1, by omega, p3, ?_, a2⟩
    have p2' : F_r_placeOf g k = nI p := by
      rw [F_r_placeOf_s]
      simp only [hr]
      exact p2
    rw [F_r_take2_s]
    simp only [hr, p2']
    exact a1
  · exact absurd hk p2
theorem qRn_off {rings keys lent k : Int32} {on om g on' g1 g' : Nat → Int32} {r v p p2 : Nat} (h : qRn 0 rings keys lent on om g) (hr3 : r < 3) (hv9 : v ≤ 9) (hp : p ≤ v) (hp2 : p2 ≤ v) (hP : List.Perm (qRw (v + 1) on (10 * r)) (qRw (v + 1) g (98 + 10 * r))) (h1 : qDn (10 * r) p v on on') (hk1 : on (10 * r + p) = k) (h2 : qDn (98 + 10 * r) p2 v g g1) (hk2 : g (98 + 10 * r + p2) = k) (h3 : ∀ j : Nat, ¬ j = 10 → g' j = upd g1 (95 + r) (nI v) j) : qRn 0 rings keys lent on' (upd om r (nI v)) g' := by
  have hrow : ∀ j : Nat, 98 ≤ j → g' j = g1 j := fun j hj => by
    rw [h3 j (by omega)]
    exact if_neg (by omega)
  refine ⟨fun q c1 c2 => ?_, fun q c1 c2 => ?_⟩
  · by_cases d : q = r
    · subst d
      refine ⟨v, by omega, if_pos rfl, ?_, ?_⟩
      · rw [h3 _ (by omega)]
        exact if_pos (by omega)
      · have a1 := qDn_P h1 hp hk1
        have a2 := qDn_P h2 hp2 hk2
        have a3 : qRw v g' (0 + 98 + 10 * q) = qRw v g1 (98 + 10 * q) := qRw_c (fun i hi => by rw [hrow _ (by omega), show 0 + 98 + 10 * q + i = 98 + 10 * q + i by omega])
        rw [a3]
        exact ((a1.symm.trans hP).trans a2).cons_inv
    · obtain ⟨w, b1, b2, b3, b4⟩ := h.1 q c1 c2
      refine ⟨w, b1, (if_neg d).trans b2, ?_, ?_⟩
      · rw [h3 _ (by omega)]
        refine (if_neg (by omega)).trans ?_
        rw [h2.1 _ (by omega)]
        exact b3
      · rw [qRw_c (v := w) (on := on) (on2 := on') (b := 10 * q) (b2 := 10 * q) (fun i hi => h1.1 _ (by omega)), qRw_c (v := w) (on := g) (on2 := g') (b := 0 + 98 + 10 * q) (b2 := 0 + 98 + 10 * q) (fun i hi => by rw [hrow _ (by omega)]; exact h2.1 _ (by omega))]
        exact b4
  · have := h.2 q c1 c2
    rw [hrow _ (by omega), h2.1 _ (by omega)]
    exact this
theorem qRn_10 {rings keys lent : Int32} {on om g g' : Nat → Int32} (h : qRn 0 rings keys lent on om g) (hg : ∀ j : Nat, ¬ j = 10 → g' j = g j) : qRn 0 rings keys lent on om g' := qRn_mv h (fun j h1 h2 => hg _ (by omega)) (fun _ _ => rfl) (fun _ _ => rfl)
theorem q_offA {rings keys lent : Int32} {on om g : Nat → Int32} {he k1 : Int32} (h : qRn 0 rings keys lent on om g) (eK : keys = g 1) (eR : rings = g 2) (hK0 : 0 ≤ keys.toInt) (h10 : keys.toInt ≤ 10) (hR0 : 0 ≤ rings.toInt) (hR3 : rings.toInt ≤ 3) : (F_X_off keys rings on om he k1).1 = (F_r_off g k1).1 ∧ qRn 0 rings keys lent (F_X_off keys rings on om he k1).2.2.1 (F_X_off keys rings on om he k1).2.2.2.1 (F_r_off g k1).2.2.2 := by
  rw [F_X_off_s, F_r_off_s]
  have hRi := q_ringA (k := k1) h eR hR0 hR3
  simp only [q_hasKk, q_isK (k := k1) eK hK0 (by omega), F_r_no_s, hRi]
  by_cases c : 0 ≤ k1.toInt ∧ k1.toInt < keys.toInt
  · have hR : rings = nI rings.toInt.toNat := q_toN (m := 0) hR0
    rcases q_ringO (on := on) (om := om) (k := k1) hR (by omega) (fun q hq => by obtain ⟨w, w1, w2, -⟩ := h.1 q (by omega) (by omega); exact ⟨w, w1, w2⟩) with ⟨r, r1, r2, r4, -⟩ | ⟨r1, r2⟩
    · have er := nI_toInt (show r < 2147483648 by omega)
      have r3 : r < 3 := by omega
      have rr : (r : Int) < rings.toInt := by omega
      rw [hRi] at r2
      obtain ⟨w, a1, a2, a3, a4⟩ := h.1 r rr r3
      have ew := nI_toInt (show w < 2147483648 by omega)
      rw [show 0 + 95 + r = 95 + r by omega] at a3
      rw [show 0 + 98 + 10 * r = 98 + 10 * r by omega] at a4
      have hm : k1 ∈ qRw w on (10 * r) := by
        have : (om r).toInt.toNat = w := by rw [a2, ew]; rfl
        rw [← this]
        exact r4
      obtain ⟨v, rfl⟩ : ∃ v, w = v + 1 := by
        obtain ⟨i, i1, -⟩ := qRw_mem.mp hm
        exact ⟨w - 1, by omega⟩
      -- the reference lets go first: only cell 10
      have hl : ∀ j : Nat, ¬ j = 10 → F_r_letGo g (nI r) j = g j := fun j hj => q_letGo g _ j hj
      have h' := qRn_10 h hl
      have eR' : rings = F_r_letGo g (nI r) 2 := eR.trans (hl 2 (by omega)).symm
      have hRi' : F_r_ringOf (F_r_letGo g (nI r)) k1 = nI r := by
        rw [← q_ringA (k := k1) h' eR' hR0 hR3, hRi, r2]
      have hm2 : k1 ∈ qRw (v + 1) (F_r_letGo g (nI r)) (98 + 10 * r) := by
        rw [qRw_c (v := v + 1) (on := g) (on2 := F_r_letGo g (nI r)) (b := 98 + 10 * r) (b2 := 98 + 10 * r) (fun i hi => hl _ (by omega))]
        exact a4.mem_iff.mp hm
      obtain ⟨p, on', b1, b2, b3, b4⟩ := q_offO (om := om) rr r3 a2 (by omega) hm
      obtain ⟨p2, g1, d1, d2, d3, d4⟩ := q_offR r3 ((hl _ (by omega)).trans a3) (by omega) hm2 hRi'
      simp only [c, r2, q_n1, and_self, show ¬ nI r = -1 from fun h9 => by have := q_eq.mp h9; rw [er, q_1] at this; omega, show (0 : Int32) ≤ nI r from q_le.mpr (by rw [q0, er]; omega), b3, d3, ↓reduceIte]
      refine ⟨by trivial, qRn_off h' r3 (by omega) b1 d1 ?_ b4 b2 d4 d2 (fun _ _ => rfl)⟩
      rw [qRw_c (v := v + 1) (on := g) (on2 := F_r_letGo g (nI r)) (b := 98 + 10 * r) (b2 := 98 + 10 * r) (fun i hi => hl _ (by omega))]
      exact a4
    · rw [hRi] at r1
      simp only [c, r1, q_n1, and_self, show ¬ (0 : Int32) ≤ -1 by decide, ↓reduceIte]
      exact ⟨by trivial, h⟩
  · simp only [c, ↓reduceIte]
    exact ⟨by trivial, h⟩
