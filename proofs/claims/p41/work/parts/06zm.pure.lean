theorem q_letGo (g : Nat → Int32) (r : Int32) (j : Nat) (h : ¬ j = 10) : F_r_letGo g r j = g j := by
  rw [F_r_letGo_s]
  by_cases c : g (10 : Int32).toNatClampNeg = r
  · simp only [c, ↓reduceIte]
    exact if_neg (by rw [show (10 : Int32).toNatClampNeg = 10 by decide +kernel]; exact h)
  · simp only [c, ↓reduceIte]
theorem qRn_put {rings keys lent k : Int32} {on om g on' g1 g' : Nat → Int32} {r v p : Nat} (h : qRn 0 rings keys lent on om g) (hr3 : r < 3) (hv : om r = nI v) (hg : g (95 + r) = nI v) (hv9 : v ≤ 9) (hp : p ≤ v) (hP : List.Perm (qRw v on (10 * r)) (qRw v g (98 + 10 * r))) (h1 : qIns (10 * r) p v k on on') (h2 : qIns (98 + 10 * r) p v k g g1) (h3 : ∀ j : Nat, ¬ j = 10 → g' j = upd g1 (95 + r) (nI (v + 1)) j) : qRn 0 rings keys lent on' (upd om r (nI (v + 1))) g' := by
  have hrow : ∀ j : Nat, 98 ≤ j → g' j = g1 j := fun j hj => by
    rw [h3 j (by omega)]
    exact if_neg (by omega)
  refine ⟨fun q c1 c2 => ?_, fun q c1 c2 => ?_⟩
  · by_cases d : q = r
    · subst d
      refine ⟨v + 1, by omega, if_pos rfl, ?_, ?_⟩
      · rw [h3 _ (by omega)]
        exact if_pos (by omega)
      · have a1 := qIns_P h1 hp
        have a2 := qIns_P h2 hp
        have a3 : qRw (v + 1) g' (0 + 98 + 10 * q) = qRw (v + 1) g1 (98 + 10 * q) := qRw_c (fun i hi => by rw [hrow _ (by omega), show 0 + 98 + 10 * q + i = 98 + 10 * q + i by omega])
        rw [a3]
        exact a1.trans ((hP.cons k).trans a2.symm)
    · obtain ⟨w, b1, b2, b3, b4⟩ := h.1 q c1 c2
      refine ⟨w, b1, (if_neg d).trans b2, ?_, ?_⟩
      · rw [h3 _ (by omega)]
        refine (if_neg (by omega)).trans ?_
        rw [h2.2.2.2 _ (by omega)]
        exact b3
      · rw [qRw_c (v := w) (on := on) (on2 := on') (b := 10 * q) (b2 := 10 * q) (fun i hi => h1.2.2.2 _ (by omega)), qRw_c (v := w) (on := g) (on2 := g') (b := 0 + 98 + 10 * q) (b2 := 0 + 98 + 10 * q) (fun i hi => by rw [hrow _ (by omega)]; exact h2.2.2.2 _ (by omega))]
        exact b4
  · have := h.2 q c1 c2
    rw [hrow _ (by omega), h2.2.2.2 _ (by omega)]
    exact this
theorem q_putA {rings keys lent : Int32} {on om g : Nat → Int32} {he k1 k2 k3 : Int32} (h : qRn 0 rings keys lent on om g) (eK : keys = g 1) (eR : rings = g 2) (hK0 : 0 ≤ keys.toInt) (h10 : keys.toInt ≤ 10) (hR0 : 0 ≤ rings.toInt) (hR3 : rings.toInt ≤ 3) (hC : zC g) : (F_X_put keys rings on om he k1 k2 k3).1 = (F_r_put g k1 k2 k3).1 ∧ qRn 0 rings keys lent (F_X_put keys rings on om he k1 k2 k3).2.2.1 (F_X_put keys rings on om he k1 k2 k3).2.2.2.1 (F_r_put g k1 k2 k3).2.2.2 := by
  rw [F_X_put_s, F_r_put_s]
  simp only [q_hasKk, q_hasRr, q_isK (k := k1) eK hK0 (by omega), q_isR (k := k2) eR hR0 (by omega), F_r_no_s]
  by_cases c : 0 ≤ k1.toInt ∧ k1.toInt < keys.toInt
  · by_cases d : 0 ≤ k2.toInt ∧ k2.toInt < rings.toInt
    · obtain ⟨r, rfl, r1, -⟩ := q_nat d (by omega)
      obtain ⟨v, a1, a2, a3, a4⟩ := h.1 r r1 (by omega)
      have r3 : r < 3 := by omega
      have er := nI_toInt (show r < 2147483648 by omega)
      have ev := nI_toInt (show v < 2147483648 by omega)
      rw [show 0 + 95 + r = 95 + r by omega] at a3
      rw [show 0 + 98 + 10 * r = 98 + 10 * r by omega] at a4
      have y1 : ((95 : Int32) + nI r).toNatClampNeg = 95 + r := q_adn (a := 95) (by omega)
      have hin : F_r_isIn k3.toInt64 0 (nI v).toInt64 = if k3 < 0 then 0 else if nI v < k3 then 0 else 1 := by
        rw [show (0 : Int64) = (0 : Int32).toInt64 by decide +kernel, q_isIn]
      simp only [c, d, and_self, q_n1, y1, a3, hin, q_manyO r1 r3, a2, ↓reduceIte]
      by_cases e : k3 < 0
      · simp only [e, ↓reduceIte]
        exact ⟨by trivial, h⟩
      · by_cases e2 : nI v < k3
        · simp only [e, e2, show ¬ k3 ≤ nI v from q_nle.mpr (q_lt.mp e2), ↓reduceIte]
          exact ⟨by trivial, h⟩
        · have e3 := q_nlt.mp e2
          have e4 := q_nlt.mp e
          rw [q0] at e4
          obtain ⟨p, rfl, p1, -⟩ := q_nat (k := k3) (m := (v : Int) + 1) ⟨e4, by omega⟩ (by omega)
          have hRi := q_ringA (k := k1) h eR hR0 hR3
          simp only [e, e2, show nI p ≤ nI v from q_le.mpr e3, q_n1, hRi, ↓reduceIte]
          have hR : rings = nI rings.toInt.toNat := q_toN (m := 0) hR0
          rcases q_ringO (on := on) (om := om) (k := k1) hR (by omega) (fun q hq => by obtain ⟨w, w1, w2, -⟩ := h.1 q (by omega) (by omega); exact ⟨w, w1, w2⟩) with ⟨q, q1', q2, q3, -⟩ | ⟨q1', q2⟩
          · have eq := nI_toInt (show q < 2147483648 by omega)
            rw [hRi] at q2
            simp only [q2, show ¬ nI q = -1 from fun h9 => by have := q_eq.mp h9; rw [eq, q_1] at this; omega, show ¬ nI q < 0 from q_nlt.mpr (by rw [q0, eq]; omega), ↓reduceIte]
            exact ⟨by trivial, h⟩
          · rw [hRi] at q1'
            have hno := q2 r (by omega)
            have hmem : ¬ k1 ∈ qRw v on (10 * r) := by
              have : (om r).toInt.toNat = v := by rw [a2, ev]; rfl
              rw [← this]
              exact hno
            have hroom := zRoom (r := (r : Int)) (k := k1.toInt) hC (by omega) (by omega) (by rw [← eR]; exact r1) c.1 (by rw [← eK]; exact c.2) (fun j hj h9 => by
              have hj' : (j : Int) < (g (95 + r)).toInt := hj
              rw [a3, ev] at hj'
              have h9' : (g (98 + 10 * r + j)).toInt = k1.toInt := h9
              exact hmem (a4.mem_iff.mpr (qRw_mem.mpr ⟨j, by omega, q_eq.mpr h9'⟩)))
            have hroom' : (g (95 + r)).toInt ≤ 9 := hroom
            rw [a3, ev] at hroom'
            obtain ⟨on', b1, b2⟩ := q_putO (on := on) (k := k1) r1 r3 a2 (show v ≤ 9 by omega) (show p ≤ v by omega)
            obtain ⟨g1, b3, b4⟩ := q_insR (k := k1) r3 a3 (show v ≤ 9 by omega) (show p ≤ v by omega)
            simp only [q1', b1, b3, show (-1 : Int32) < 0 by decide, ↓reduceIte]
            exact ⟨by trivial, qRn_put h r3 a2 a3 (by omega) (by omega) a4 b2 b4 (fun j hj => q_letGo _ _ j hj)⟩
    · simp only [c, d, and_self, q_n1, ↓reduceIte]
      exact ⟨by trivial, h⟩
  · simp only [c, ↓reduceIte]
    exact ⟨by trivial, h⟩
