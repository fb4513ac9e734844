theorem q_append {p k : Int32} {T : Nat → Int32} (h0 : 0 ≤ p.toInt) (h1 : p.toInt ≤ 896) : F_Te_append p T k = F_r_layByte p T k ∧ (F_r_layByte p T k).1.toInt = p.toInt + 4 := by
  have e24 : (24 : Int32).toInt = 24 := by decide +kernel
  have e3 : (3 : Int32).toInt = 3 := by decide +kernel
  obtain ⟨m1, hm1⟩ : ∃ m : Nat, ((24 : Int32).toInt + 2147483648).toNat = m + 1 + 1 + 1 + 1 := ⟨((24 : Int32).toInt + 2147483644).toNat, by rw [e24]; decide⟩
  obtain ⟨m2, hm2⟩ : ∃ m : Nat, ((3 : Int32).toInt + 2147483648).toNat = m + 1 + 1 + 1 + 1 := ⟨((3 : Int32).toInt + 2147483644).toNat, by rw [e3]; decide⟩
  have a1 : (p + 1).toInt = p.toInt + 1 := q_inc (by omega)
  have a2 : (p + 1 + 1).toInt = p.toInt + 2 := by rw [q_inc (by omega), a1]; omega
  have a3 : (p + 1 + 1 + 1).toInt = p.toInt + 3 := by rw [q_inc (by omega), a2]; omega
  have a4 : (p + 1 + 1 + 1 + 1).toInt = p.toInt + 4 := by rw [q_inc (by omega), a3]; omega
  have n0 : ¬ p < 0 := by rw [q_nlt, q0]; omega
  have n1 : ¬ p + 1 < 0 := by rw [q_nlt, q0]; omega
  have n2 : ¬ p + 1 + 1 < 0 := by rw [q_nlt, q0]; omega
  have n3 : ¬ p + 1 + 1 + 1 < 0 := by rw [q_nlt, q0]; omega
  have l0 : ¬ 900 ≤ p := by rw [q_nle, q900]; omega
  have l1 : ¬ 900 ≤ p + 1 := by rw [q_nle, q900]; omega
  have l2 : ¬ 900 ≤ p + 1 + 1 := by rw [q_nle, q900]; omega
  have l3 : ¬ 900 ≤ p + 1 + 1 + 1 := by rw [q_nle, q900]; omega
  have c1 : ¬ (24 : Int32) < 0 := by decide
  have c2 : (24 : Int32) + (-8) = 16 := by decide
  have c3 : ¬ (16 : Int32) < 0 := by decide
  have c4 : (16 : Int32) + (-8) = 8 := by decide
  have c5 : ¬ (8 : Int32) < 0 := by decide
  have c6 : (8 : Int32) + (-8) = 0 := by decide
  have c7 : ¬ (0 : Int32) < 0 := by decide
  have c8 : (0 : Int32) + (-8) = -8 := by decide
  have c9 : (-8 : Int32) < 0 := by decide
  have d1 : ¬ (3 : Int32) < 0 := by decide
  have d2 : (3 : Int32) + (-1) = 2 := by decide
  have d3 : ¬ (2 : Int32) < 0 := by decide
  have d4 : (2 : Int32) + (-1) = 1 := by decide
  have d5 : ¬ (1 : Int32) < 0 := by decide
  have d6 : (1 : Int32) + (-1) = 0 := by decide
  have d8 : (0 : Int32) + (-1) = -1 := by decide
  have d9 : (-1 : Int32) < 0 := by decide
  have s3 : (8 : Int32) * 3 = 24 := by decide
  have s2 : (8 : Int32) * 2 = 16 := by decide
  have s1 : (8 : Int32) * 1 = 8 := by decide
  have s0 : (8 : Int32) * 0 = 0 := by decide
  have hc : F_Te_append p T k = (p + 1 + 1 + 1 + 1, upd (upd (upd (upd T p.toNatClampNeg (vp_nar .byte ((k >>> ((24 : Int32) &&& 31)).toInt8.toInt32))) (p + 1).toNatClampNeg (vp_nar .byte ((k >>> ((16 : Int32) &&& 31)).toInt8.toInt32))) (p + 1 + 1).toNatClampNeg (vp_nar .byte ((k >>> ((8 : Int32) &&& 31)).toInt8.toInt32))) (p + 1 + 1 + 1).toNatClampNeg (vp_nar .byte ((k >>> ((0 : Int32) &&& 31)).toInt8.toInt32))) := by
    first
    | rw [F_Te_append_s, hm1]
      rw [F_Te_append_L3a_s]
      simp only [c1, c2, n0, l0, ↓reduceIte]
      rw [F_Te_append_L3a_s]
      simp only [c3, c4, n1, l1, ↓reduceIte]
      rw [F_Te_append_L3a_s]
      simp only [c5, c6, n2, l2, ↓reduceIte]
      rw [F_Te_append_L3a_s]
      simp only [c7, c8, n3, l3, ↓reduceIte]
      rw [F_Te_append_L3a_s]
      simp only [c9, ↓reduceIte]
    | rw [F_Te_append_s]
      simp only [n0, n1, n2, n3, l0, l1, l2, l3, ↓reduceIte]
  have hm : F_r_layByte p T k = (p + 1 + 1 + 1 + 1, upd (upd (upd (upd T p.toNatClampNeg (vp_nar .byte ((k >>> ((24 : Int32) &&& 31)).toInt8.toInt32))) (p + 1).toNatClampNeg (vp_nar .byte ((k >>> ((16 : Int32) &&& 31)).toInt8.toInt32))) (p + 1 + 1).toNatClampNeg (vp_nar .byte ((k >>> ((8 : Int32) &&& 31)).toInt8.toInt32))) (p + 1 + 1 + 1).toNatClampNeg (vp_nar .byte ((k >>> ((0 : Int32) &&& 31)).toInt8.toInt32))) := by
    rw [F_r_layByte_s, hm2]
    rw [F_r_layByte_L2a_s]
    simp only [d1, d2, s3, ↓reduceIte]
    rw [F_r_layByte_L2a_s]
    simp only [d3, d4, s2, ↓reduceIte]
    rw [F_r_layByte_L2a_s]
    simp only [d5, d6, s1, ↓reduceIte]
    rw [F_r_layByte_L2a_s]
    simp only [c7, d8, s0, ↓reduceIte]
    rw [F_r_layByte_L2a_s]
    simp only [d9, ↓reduceIte]
  rw [hc, hm]
  exact ⟨rfl, a4⟩
theorem q_feed {p k1 k2 k3 k4 k5 : Int32} {T : Nat → Int32} (h0 : 0 ≤ p.toInt) (h1 : p.toInt ≤ 900) : ∃ (r p' : Int32) (T' : Nat → Int32), F_X_feed p T k1 k2 k3 k4 k5 = (r, p', T') ∧ F_r_feed p T k1 k2 k3 k4 k5 = (r, 0, p', T') ∧ 0 ≤ p'.toInt ∧ p'.toInt ≤ 900 := by
  have e20 : (p + 20).toInt = p.toInt + 20 := by
    have := q_add (a := p) (b := 20) (by rw [show (20 : Int32).toInt = 20 by decide +kernel]; omega) (by rw [show (20 : Int32).toInt = 20 by decide +kernel]; omega)
    rw [this, show (20 : Int32).toInt = 20 by decide +kernel]
  rw [F_X_feed_s, F_r_feed_s]
  by_cases c : p + 20 ≤ 900
  · have c2 : ¬ 900 < p + 20 := by rw [q_nlt]; exact q_le.mp c
    rw [q_le, q900, e20] at c
    obtain ⟨a1, b1⟩ := q_append (p := p) (k := k1) (T := T) h0 (by omega)
    generalize hx1 : F_r_layByte p T k1 = x1 at a1 b1
    obtain ⟨a2, b2⟩ := q_append (p := x1.1) (k := k2) (T := x1.2) (by omega) (by omega)
    generalize hx2 : F_r_layByte x1.1 x1.2 k2 = x2 at a2 b2
    obtain ⟨a3, b3⟩ := q_append (p := x2.1) (k := k3) (T := x2.2) (by omega) (by omega)
    generalize hx3 : F_r_layByte x2.1 x2.2 k3 = x3 at a3 b3
    obtain ⟨a4, b4⟩ := q_append (p := x3.1) (k := k4) (T := x3.2) (by omega) (by omega)
    generalize hx4 : F_r_layByte x3.1 x3.2 k4 = x4 at a4 b4
    obtain ⟨a5, b5⟩ := q_append (p := x4.1) (k := k5) (T := x4.2) (by omega) (by omega)
    generalize hx5 : F_r_layByte x4.1 x4.2 k5 = x5 at a5 b5
    have c1 : p + 20 ≤ 900 := by rw [q_le, q900, e20]; exact c
    refine ⟨x5.1, x5.1, x5.2, ?_, ?_, by omega, by omega⟩
    · simp only [F_Te_hasRoom_s, c2, q_n1, a1, a2, a3, a4, a5, ↓reduceIte]
    · simp only [c1, hx1, hx2, hx3, hx4, hx5, ↓reduceIte]
  · have c2 : 900 < p + 20 := by rw [q_lt]; exact q_nle.mp c
    refine ⟨-1, p, T, ?_, ?_, h0, h1⟩
    · simp only [F_Te_hasRoom_s, c2, ↓reduceIte]
    · simp only [c, ↓reduceIte]
theorem q_empL : ∀ (f v : Nat) (g : Nat → Int32), (2147483647 - (nI v).toInt).toNat < f → v ≤ 180 → ∃ g' : Nat → Int32, F_r_empty_1460_L2a f (nI v) g = upd (upd (upd (upd (upd (upd g' 1465 1) 1466 4) 1467 1) 1468 9) 1469 8) 1470 (-1) ∧ ∀ j : Nat, g' j = if 1460 + v ≤ j ∧ j < 1640 then 0 else g j := by
  intro f
  induction f with
  | zero => intro v g h; exact absurd h (Nat.not_lt_zero _)
  | succ f ih =>
    intro v g h hv
    have q180 : (180 : Int32).toInt = 180 := by decide +kernel
    have ev : (nI v).toInt = (v : Int) := nI_toInt (by omega)
    have ev1 : (nI (v + 1)).toInt = ((v + 1 : Nat) : Int) := nI_toInt (by omega)
    rw [F_r_empty_1460_L2a_s]
    by_cases c : (180 : Int32) ≤ nI v
    · have c' : v = 180 := by rw [q_le, q180, ev] at c; omega
      simp only [c, qc_1465, qc_1466, qc_1467, qc_1468, qc_1469, qc_1470, ↓reduceIte]
      exact ⟨g, rfl, fun j => (if_neg (by omega)).symm⟩
    · have c' : v < 180 := by rw [q_nle, q180, ev] at c; omega
      have x1 : ((1460 : Int32) + nI v).toNatClampNeg = 1460 + v := by
        show (nI 1460 + nI v).toNatClampNeg = _
        rw [nI_add, qnI_cl (by omega)]
      simp only [c, x1, qnI_s, ↓reduceIte]
      obtain ⟨g', a1, a2⟩ := ih (v + 1) (upd g (1460 + v) 0) (by omega) (by omega)
      refine ⟨g', a1, fun j => ?_⟩
      rw [a2 j]
      by_cases d : j = 1460 + v
      · rw [if_neg (by omega), if_pos (by omega)]
        exact if_pos d
      · by_cases d2 : 1460 + v ≤ j ∧ j < 1640
        · rw [if_pos (by omega), if_pos (by omega)]
        · rw [if_neg (by omega), if_neg (by omega)]
          exact if_neg d
theorem q_empty (g : Nat → Int32) : ∃ g' : Nat → Int32, F_r_empty_1460 g = g' ∧ qFr g g' ∧ g' 1465 = 1 ∧ g' 1466 = 4 ∧ g' 1467 = 1 ∧ g' 1468 = 9 ∧ g' 1469 = 8 ∧ g' 1470 = -1 ∧ ∀ j : Nat, 1460 ≤ j → j < 1640 → ¬ (1465 ≤ j ∧ j < 1471) → g' j = 0 := by
  obtain ⟨g', a1, a2⟩ := q_empL ((2147483647 - (0 : Int32).toInt).toNat + 1) 0 g (by show (2147483647 - (0 : Int32).toInt).toNat < _; omega) (by omega)
  refine ⟨_, (F_r_empty_1460_s g).trans a1, fun j hj => ?_, rfl, rfl, rfl, rfl, rfl, rfl, fun j h1 h2 h3 => ?_⟩
  · unfold upd
    rw [if_neg (by omega), if_neg (by omega), if_neg (by omega), if_neg (by omega), if_neg (by omega), if_neg (by omega), a2 j, if_neg (by omega)]
  · unfold upd
    rw [if_neg (by omega), if_neg (by omega), if_neg (by omega), if_neg (by omega), if_neg (by omega), if_neg (by omega), a2 j, if_pos (by omega)]
theorem q_220 {n2 n3 : Int32} {hFe isOn g : Nat → Int32} {bad ba tok a b num lt S Tt R x1 x2 x3 : Int32} {wd : Int64} : ∀ (f v : Nat) (w : Nat → Int64), (2147483647 - (nI v).toInt).toNat < f → v ≤ 21 → ∃ w' : Nat → Int64, F_r_house_L220b n2 n3 hFe bad ba tok a b num lt wd S Tt R isOn x1 x2 x3 g f (nI v) w = (g 1, x1, 0, n2, n3, bad, tok, a, b, num, lt, wd, x2, x3, ba, S, Tt, R, g, w', hFe, isOn) ∧ ∀ j : Nat, w' j = if v ≤ j ∧ j < 21 then w (84 + j) else w j := by
  intro f
  induction f with
  | zero => intro v w h; exact absurd h (Nat.not_lt_zero _)
  | succ f ih =>
    intro v w h hv
    have q21 : (21 : Int32).toInt = 21 := by decide +kernel
    have ev : (nI v).toInt = (v : Int) := nI_toInt (by omega)
    have ev1 : (nI (v + 1)).toInt = ((v + 1 : Nat) : Int) := nI_toInt (by omega)
    rw [F_r_house_L220b_s]
    by_cases c : (21 : Int32) ≤ nI v
    · have c' : v = 21 := by rw [q_le, q21, ev] at c; omega
      simp only [c, qc_1, ↓reduceIte]
      exact ⟨w, rfl, fun j => (if_neg (by omega)).symm⟩
    · have c' : v < 21 := by rw [q_nle, q21, ev] at c; omega
      have y1 : ((84 : Int32) + nI v).toNatClampNeg = 84 + v := by
        show (nI 84 + nI v).toNatClampNeg = _
        rw [nI_add, qnI_cl (by omega)]
      have y2 : (nI v).toNatClampNeg = v := qnI_cl (by omega)
      simp only [c, y1, y2, qnI_s, ↓reduceIte]
      obtain ⟨w', a1, a2⟩ := ih (v + 1) (vp_updL w v (w (84 + v))) (by omega) (by omega)
      refine ⟨w', a1, fun j => ?_⟩
      rw [a2 j]
      by_cases d : j = v
      · rw [if_neg (by omega), if_pos (by omega), d]
        exact if_pos rfl
      · by_cases d2 : v ≤ j ∧ j < 21
        · rw [if_pos (by omega), if_pos (by omega)]
          exact if_neg (by omega)
        · rw [if_neg (by omega), if_neg (by omega)]
          exact if_neg d
theorem q_189 {n2 n3 : Int32} {w : Nat → Int64} {hFe isOn : Nat → Int32} {bad ba tok a b num lt S Tt R x1 x2 x3 : Int32} {wd : Int64} : ∀ (f v : Nat) (g : Nat → Int32), (2147483647 - (nI v).toInt).toNat < f → v ≤ 180 → ∃ (g' : Nat → Int32) (w' : Nat → Int64), F_r_house_L189b n2 n3 w hFe bad ba tok a b num lt wd S Tt R isOn x1 x2 x3 f (nI v) g = (g' 1, x1, 0, n2, n3, bad, tok, a, b, num, lt, wd, x2, x3, ba, S, Tt, R, g', w', hFe, isOn) ∧ (∀ j : Nat, g' j = if v ≤ j ∧ j < 180 then g (1460 + j) else g j) ∧ ∀ j : Nat, w' j = if j < 21 then w (84 + j) else w j := by
  intro f
  induction f with
  | zero => intro v g h; exact absurd h (Nat.not_lt_zero _)
  | succ f ih =>
    intro v g h hv
    have q180 : (180 : Int32).toInt = 180 := by decide +kernel
    have ev : (nI v).toInt = (v : Int) := nI_toInt (by omega)
    have ev1 : (nI (v + 1)).toInt = ((v + 1 : Nat) : Int) := nI_toInt (by omega)
    rw [F_r_house_L189b_s]
    by_cases c : (180 : Int32) ≤ nI v
    · have c' : v = 180 := by rw [q_le, q180, ev] at c; omega
      simp only [c, ↓reduceIte]
      obtain ⟨w', a1, a2⟩ := q_220 (n2 := n2) (n3 := n3) (hFe := hFe) (isOn := isOn) (g := g) (bad := bad) (ba := ba) (tok := tok) (a := a) (b := b) (num := num) (lt := lt) (S := S) (Tt := Tt) (R := R) (x1 := x1) (x2 := x2) (x3 := x3) (wd := wd) ((2147483647 - (0 : Int32).toInt).toNat + 1) 0 w (by show (2147483647 - (0 : Int32).toInt).toNat < _; omega) (by omega)
      refine ⟨g, w', a1, fun j => (if_neg (by omega)).symm, fun j => ?_⟩
      rw [a2 j]
      by_cases d : j < 21
      · rw [if_pos (by omega), if_pos d]
      · rw [if_neg (by omega), if_neg d]
    · have c' : v < 180 := by rw [q_nle, q180, ev] at c; omega
      have y1 : ((1460 : Int32) + nI v).toNatClampNeg = 1460 + v := by
        show (nI 1460 + nI v).toNatClampNeg = _
        rw [nI_add, qnI_cl (by omega)]
      have y2 : (nI v).toNatClampNeg = v := qnI_cl (by omega)
      simp only [c, y1, y2, qnI_s, ↓reduceIte]
      obtain ⟨g', w', a1, a2, a3⟩ := ih (v + 1) (upd g v (g (1460 + v))) (by omega) (by omega)
      refine ⟨g', w', a1, fun j => ?_, a3⟩
      rw [a2 j]
      by_cases d : j = v
      · rw [if_neg (by omega), if_pos (by omega), d]
        exact if_pos rfl
      · by_cases d2 : v ≤ j ∧ j < 180
        · rw [if_pos (by omega), if_pos (by omega)]
          exact if_neg (by omega)
        · rw [if_neg (by omega), if_neg (by omega)]
          exact if_neg d
theorem q_qBit0 {j : Nat} (h : j < 32) : ¬ qBit 0 j = 1 := fun h9 => by
  rw [q_bit h] at h9
  rw [b_0] at h9
  exact absurd h9 (by decide)
theorem q_begun {nf nk nr nd fn w : Nat → Int64} {st tf six ks on om wa op rd hFe g isOn : Nat → Int32} {se' g' : Nat → Int32} (e : F_r_empty_1460 g = g') (hse : ∀ i : Nat, i < 4 → se' i = if i = 0 then 1 else if i = 1 then 4 else if i = 2 then 1 else 9) : qHs 0 0 0 0 0 0 0 0 8 0 nf nk nr nd fn st tf six ks on om wa op se' rd w hFe 0 0 0 g' isOn ∧ qFr g g' := by
  obtain ⟨g2, e2, h1, h2, h3, h4, h5, h6, h7, h8⟩ := q_empty g
  rw [e2] at e
  subst e
  refine ⟨⟨⟨⟨(h8 1460 (by omega) (by omega) (by omega)).symm, (h8 1461 (by omega) (by omega) (by omega)).symm, (h8 1462 (by omega) (by omega) (by omega)).symm, (h8 1463 (by omega) (by omega) (by omega)).symm⟩, ⟨by decide +kernel, by decide +kernel, fun j hj => absurd hj (by rw [q0]; omega)⟩, ⟨by decide +kernel, by decide +kernel, fun j hj => absurd hj (by rw [q0]; omega)⟩, ⟨by decide +kernel, by decide +kernel, fun j hj => absurd hj (by rw [q0]; omega)⟩, ⟨by decide +kernel, by decide +kernel, fun j hj => absurd hj (by rw [q0]; omega)⟩⟩, ⟨fun j hj => absurd hj (by rw [q0]; omega), fun j hj _ => q_qBit0 (by omega)⟩, ⟨fun j hj => absurd hj (by rw [q0]; omega), fun j hj _ => q_qBit0 (by omega)⟩, fun k hk => absurd hk (by rw [q0]; omega), fun k hk => absurd hk (by rw [q0]; omega), fun k hk => absurd hk (by rw [q0]; omega), fun i hi => ?_, ⟨h6.symm, h7⟩, ⟨h8 1464 (by omega) (by omega) (by omega), by decide +kernel, by decide +kernel, fun i hi => absurd hi (by rw [q0]; omega)⟩, ⟨Iff.rfl, Iff.rfl, Iff.rfl⟩⟩, h1⟩
  rw [hse i hi]
  rcases (show i = 0 ∨ i = 1 ∨ i = 2 ∨ i = 3 by omega) with c | c | c | c <;> subst c
  · exact h2.symm
  · exact h3.symm
  · exact h4.symm
  · exact h5.symm
theorem q_clear (se : Nat → Int32) : ∃ se' : Nat → Int32, F_Ho_clear se = (0, 0, 0, 0, 0, 8, 0, se') ∧ ∀ i : Nat, i < 4 → se' i = if i = 0 then 1 else if i = 1 then 4 else if i = 2 then 1 else 9 := by
  have s0 : ∀ (g : Nat → Int32) (v : Int32), F_H_setSeconds g 0 v = upd g 0 v := fun g v => q_setS (f := 0) (by omega)
  have s1 : ∀ (g : Nat → Int32) (v : Int32), F_H_setSeconds g 1 v = upd g 1 v := fun g v => q_setS (f := 1) (by omega)
  have s2 : ∀ (g : Nat → Int32) (v : Int32), F_H_setSeconds g 2 v = upd g 2 v := fun g v => q_setS (f := 2) (by omega)
  have s3 : ∀ (g : Nat → Int32) (v : Int32), F_H_setSeconds g 3 v = upd g 3 v := fun g v => q_setS (f := 3) (by omega)
  refine ⟨upd (upd (upd (upd se 0 1) 1 4) 2 1) 3 9, ?_, ?_⟩
  · rw [F_Ho_clear_s]
    simp only [s0, s1, s2, s3]
  · intro i hi
    rcases (show i = 0 ∨ i = 1 ∨ i = 2 ∨ i = 3 by omega) with c | c | c | c <;> subst c <;> rfl
theorem q_readAll {n : Int32} {T : Nat → Int32} {ba tok a b num lt cs cn fp n1 n2 : Int32} {wd cl : Int64} {nf nk nr nd fn w : Nat → Int64} {st tf six ks on om wa op se rd hFe g isOn : Nat → Int32} {C : qAC} {M : qHM} (hn : n.toInt ≤ 900) (hT : qTk n T tok a b num lt wd cs cn cl) (hC : F_Ho_readAll n tok a b cn cs cl 0 fp T nf nk nr nd fn st tf six ks on om wa op se rd = C) (hM : F_r_house_L45a T n1 n2 n ((4600 - 5 * b.toInt + tok.toInt - 5 * (0 : Int32).toInt).toNat + 1) w hFe 0 ba tok a b num lt wd 0 0 0 (F_r_empty_1460 g) isOn = M) : qHR n 0 T fp n1 n2 w g C M := by
  obtain ⟨se', e1, e2⟩ := q_clear se
  rw [F_Ho_readAll_s] at hC
  simp only [e1] at hC
  obtain ⟨g', hg'⟩ : ∃ g', F_r_empty_1460 g = g' := ⟨_, rfl⟩
  obtain ⟨hs, hf⟩ := q_begun (nf := nf) (nk := nk) (nr := nr) (nd := nd) (fn := fn) (st := st) (tf := tf) (six := six) (ks := ks) (on := on) (om := om) (wa := wa) (op := op) (rd := rd) (w := w) (hFe := hFe) (isOn := isOn) hg' e2
  rw [hg'] at hM
  exact qHR_t hf qFw_r (q_houseL hn _ _ 0 0 0 0 0 0 0 0 0 8 0 0 0 0 nf nk nr nd fn w st tf six ks on om wa op se' rd hFe g' isOn ba tok a b num lt cs cn wd cl C M (by show (2147483647 - (0 : Int32).toInt).toNat < _; exact Nat.lt_succ_self _) (Nat.lt_succ_self _) (by have := hT.1; omega) hs hT hC hM)
