theorem q_41 {a b : Nat} {g : Nat → Int32} (ha : a ≤ 3) (hb : b ≤ 3) (hab : ¬ a = b) : ∀ (f v : Nat) (w : Nat → Int64), (2147483647 - (nI v).toInt).toNat < f → v ≤ 21 → ∃ w' : Nat → Int64, F_r_copy_L41a (nI a) (nI b) g f (nI v) w = (g, w') ∧ ∀ j : Nat, w' j = if 21 * b + v ≤ j ∧ j < 21 * b + 21 then w (21 * a + (j - 21 * b)) else w j := by
  intro f
  induction f with
  | zero => intro v w h; exact absurd h (Nat.not_lt_zero _)
  | succ f ih =>
    intro v w h hv
    have q21 : (21 : Int32).toInt = 21 := by decide +kernel
    have ev : (nI v).toInt = (v : Int) := nI_toInt (by omega)
    have ev1 : (nI (v + 1)).toInt = ((v + 1 : Nat) : Int) := nI_toInt (by omega)
    rw [F_r_copy_L41a_s]
    by_cases c : (21 : Int32) ≤ nI v
    · have c' : v = 21 := by rw [q_le, q21, ev] at c; omega
      simp only [c, ↓reduceIte]
      exact ⟨w, rfl, fun j => (if_neg (by omega)).symm⟩
    · have c' : v < 21 := by rw [q_nle, q21, ev] at c; omega
      have y1 : ((21 : Int32) * nI b + nI v).toNatClampNeg = 21 * b + v := by
        show (nI 21 * nI b + nI v).toNatClampNeg = _
        rw [qnI_mul, nI_add, qnI_cl (by omega)]
      have y2 : ((21 : Int32) * nI a + nI v).toNatClampNeg = 21 * a + v := by
        show (nI 21 * nI a + nI v).toNatClampNeg = _
        rw [qnI_mul, nI_add, qnI_cl (by omega)]
      simp only [c, y1, y2, qnI_s, ↓reduceIte]
      obtain ⟨w', a1, a2⟩ := ih (v + 1) (vp_updL w (21 * b + v) (w (21 * a + v))) (by omega) (by omega)
      refine ⟨w', a1, fun j => ?_⟩
      rw [a2 j]
      by_cases d : j = 21 * b + v
      · rw [if_neg (by omega), if_pos (by omega), show 21 * a + (j - 21 * b) = 21 * a + v by omega]
        exact if_pos d
      · by_cases d2 : 21 * b + v ≤ j ∧ j < 21 * b + 21
        · rw [if_pos (by omega), if_pos (by omega)]
          exact if_neg (by omega)
        · rw [if_neg (by omega), if_neg (by omega)]
          exact if_neg d
theorem q_cpL {a b : Nat} {w : Nat → Int64} (ha : a ≤ 3) (hb : b ≤ 3) (hab : ¬ a = b) : ∀ (f v : Nat) (g : Nat → Int32), (2147483647 - (nI v).toInt).toNat < f → v ≤ 365 → ∃ (g' : Nat → Int32) (w' : Nat → Int64), F_r_copy_L2a w (nI a) (nI b) f (nI v) g = (g', w') ∧ (∀ j : Nat, g' j = if 365 * b + v ≤ j ∧ j < 365 * b + 365 then g (365 * a + (j - 365 * b)) else g j) ∧ ∀ j : Nat, w' j = if 21 * b ≤ j ∧ j < 21 * b + 21 then w (21 * a + (j - 21 * b)) else w j := by
  intro f
  induction f with
  | zero => intro v g h; exact absurd h (Nat.not_lt_zero _)
  | succ f ih =>
    intro v g h hv
    have q365 : (365 : Int32).toInt = 365 := by decide +kernel
    have ev : (nI v).toInt = (v : Int) := nI_toInt (by omega)
    have ev1 : (nI (v + 1)).toInt = ((v + 1 : Nat) : Int) := nI_toInt (by omega)
    rw [F_r_copy_L2a_s]
    by_cases c : (365 : Int32) ≤ nI v
    · have c' : v = 365 := by rw [q_le, q365, ev] at c; omega
      simp only [c, ↓reduceIte]
      obtain ⟨w', a1, a2⟩ := q_41 (g := g) ha hb hab ((2147483647 - (0 : Int32).toInt).toNat + 1) 0 w (by show (2147483647 - (0 : Int32).toInt).toNat < _; omega) (by omega)
      exact ⟨g, w', a1, fun j => (if_neg (by omega)).symm, a2⟩
    · have c' : v < 365 := by rw [q_nle, q365, ev] at c; omega
      have y1 : ((365 : Int32) * nI b + nI v).toNatClampNeg = 365 * b + v := by
        show (nI 365 * nI b + nI v).toNatClampNeg = _
        rw [qnI_mul, nI_add, qnI_cl (by omega)]
      have y2 : ((365 : Int32) * nI a + nI v).toNatClampNeg = 365 * a + v := by
        show (nI 365 * nI a + nI v).toNatClampNeg = _
        rw [qnI_mul, nI_add, qnI_cl (by omega)]
      simp only [c, y1, y2, qnI_s, ↓reduceIte]
      obtain ⟨g', w', a1, a2, a3⟩ := ih (v + 1) (upd g (365 * b + v) (g (365 * a + v))) (by omega) (by omega)
      refine ⟨g', w', a1, fun j => ?_, a3⟩
      rw [a2 j]
      by_cases d : j = 365 * b + v
      · rw [if_neg (by omega), if_pos (by omega), show 365 * a + (j - 365 * b) = 365 * a + v by omega]
        exact if_pos d
      · by_cases d2 : 365 * b + v ≤ j ∧ j < 365 * b + 365
        · rw [if_pos (by omega), if_pos (by omega)]
          exact if_neg (by omega)
        · rw [if_neg (by omega), if_neg (by omega)]
          exact if_neg d
theorem q_copyB {a b : Nat} (ha : a ≤ 3) (hb : b ≤ 3) (hab : ¬ a = b) (g : Nat → Int32) (w : Nat → Int64) : ∃ (g' : Nat → Int32) (w' : Nat → Int64), F_r_copy g w (nI a) (nI b) = (g', w') ∧ (∀ j : Nat, g' j = if 365 * b ≤ j ∧ j < 365 * b + 365 then g (365 * a + (j - 365 * b)) else g j) ∧ ∀ j : Nat, w' j = if 21 * b ≤ j ∧ j < 21 * b + 21 then w (21 * a + (j - 21 * b)) else w j := by
  rw [F_r_copy_s]
  exact q_cpL ha hb hab ((2147483647 - (0 : Int32).toInt).toNat + 1) 0 g (by show (2147483647 - (0 : Int32).toInt).toNat < _; omega) (by omega)
theorem qFt_mv {o ow o2 ow2 : Nat} {fe : Int32} {st st2 : Nat → Int32} {fn fn2 : Nat → Int64} {g g2 : Nat → Int32} {w w2 : Nat → Int64} (h : qFt o ow fe st fn g w) (hg : ∀ j : Nat, j < 14 → g2 (o2 + j) = g (o + j)) (hw : ∀ j : Nat, j < 3 → w2 (ow2 + j) = w (ow + j)) (hs : ∀ j : Nat, j < 3 → st2 j = st j) (hn : ∀ j : Nat, j < 3 → fn2 j = fn j) : qFt o2 ow2 fe st2 fn2 g2 w2 := by
  obtain ⟨h1, h2, h3, h4⟩ := h
  refine ⟨h1.trans (hg 0 (by omega)).symm, h2, h3, fun j hj => ?_⟩
  obtain ⟨a1, a2, a3, a4⟩ := h4 j hj
  rw [hs j (by omega), hn j (by omega)]
  refine ⟨a1.trans ?_, a2, a3, a4.trans (hw j (by omega)).symm⟩
  have := hg (11 + j) (by omega)
  rw [show o2 + 11 + j = o2 + (11 + j) by omega, show o + 11 + j = o + (11 + j) by omega]
  exact this.symm
def qMk (m : Int32) (f0 f1 f2 : Int32) (s0 s1 s2 : Nat → Int32) (n0 n1 n2 : Nat → Int64) (g : Nat → Int32) (w : Nat → Int64) : Prop := (0 < m.toInt → qFt 365 21 f0 s0 n0 g w) ∧ (1 < m.toInt → qFt 730 42 f1 s1 n1 g w) ∧ (2 < m.toInt → qFt 1095 63 f2 s2 n2 g w)
theorem qMk_g {m f0 f1 f2 : Int32} {s0 s1 s2 : Nat → Int32} {n0 n1 n2 : Nat → Int64} {g g2 : Nat → Int32} {w w2 : Nat → Int64} (h : qMk m f0 f1 f2 s0 s1 s2 n0 n1 n2 g w) (hg : ∀ j : Nat, 365 ≤ j → j < 1460 → g2 j = g j) (hw : ∀ j : Nat, 21 ≤ j → j < 84 → w2 j = w j) : qMk m f0 f1 f2 s0 s1 s2 n0 n1 n2 g2 w2 := by
  obtain ⟨h1, h2, h3⟩ := h
  exact ⟨fun c => qFt_mv (h1 c) (fun j hj => hg _ (by omega) (by omega)) (fun j hj => hw _ (by omega) (by omega)) (fun _ _ => rfl) (fun _ _ => rfl), fun c => qFt_mv (h2 c) (fun j hj => hg _ (by omega) (by omega)) (fun j hj => hw _ (by omega) (by omega)) (fun _ _ => rfl) (fun _ _ => rfl), fun c => qFt_mv (h3 c) (fun j hj => hg _ (by omega) (by omega)) (fun j hj => hw _ (by omega) (by omega)) (fun _ _ => rfl) (fun _ _ => rfl)⟩
abbrev qMkC : Type := Int32 × Int32 × Int32 × Int32 × Int32 × Int32 × Int32 × Int32 × Int32 × Int32 × (Nat → Int64) × (Nat → Int32) × (Nat → Int32) × (Nat → Int32) × (Nat → Int32) × (Nat → Int32) × (Nat → Int32) × (Nat → Int32) × (Nat → Int32) × (Nat → Int32) × (Nat → Int32) × Int32 × Int32 × (Nat → Int32) × (Nat → Int64) × Int32 × Int32 × Int32 × (Nat → Int32) × (Nat → Int32) × (Nat → Int32) × (Nat → Int32) × (Nat → Int32) × Int32 × Int32 × Int32 × Int32 × Int32 × Int32 × Int32 × (Nat → Int64) × (Nat → Int32) × (Nat → Int32) × (Nat → Int32) × (Nat → Int32) × (Nat → Int32) × (Nat → Int32) × (Nat → Int32) × (Nat → Int32) × (Nat → Int32) × (Nat → Int32) × Int32 × Int32 × (Nat → Int32) × (Nat → Int64) × Int32 × Int32 × Int32 × (Nat → Int32) × (Nat → Int32) × (Nat → Int32) × (Nat → Int32) × (Nat → Int32) × Int32 × Int32 × Int32 × Int32 × Int32 × Int32 × Int32 × (Nat → Int64) × (Nat → Int32) × (Nat → Int32) × (Nat → Int32) × (Nat → Int32) × (Nat → Int32) × (Nat → Int32) × (Nat → Int32) × (Nat → Int32) × (Nat → Int32) × (Nat → Int32) × Int32 × Int32 × (Nat → Int32) × (Nat → Int64) × Int32 × Int32 × Int32 × (Nat → Int32) × (Nat → Int32) × (Nat → Int32) × (Nat → Int32) × (Nat → Int32)
abbrev qMkM : Type := Int32 × Int32 × Int32 × Int32 × (Nat → Int32) × (Nat → Int64)
theorem q_mark {x_marks : Int32} {h_features : Int32} {h_keys : Int32} {h_lent : Int32} {h_rings : Int32} {h_doors : Int32} {h_turned : Int32} {h_roundMany : Int32} {c_h_featureNames : Nat → Int64} {c_h_steps : Nat → Int32} {c_h_turnedFeatures : Nat → Int32} {c_h_sixteenths : Nat → Int32} {c_h_keySteps : Nat → Int32} {c_h_on : Nat → Int32} {c_h_onMany : Nat → Int32} {c_h_wanted : Nat → Int32} {c_h_openers : Nat → Int32} {c_h_seconds : Nat → Int32} {c_h_roundDoors : Nat → Int32} {o_held : Int32} {o_places : Int32} {c_o_row : Nat → Int32} {c_o_parts : Nat → Int64} {r_lines : Int32} {r_steps : Int32} {r_asksSure : Int32} {c_r_kinds : Nat → Int32} {c_r_features : Nat → Int32} {c_r_compares : Nat → Int32} {c_r_numbers : Nat → Int32} {c_r_partners : Nat → Int32} {kh0_features : Int32} {kh0_keys : Int32} {kh0_lent : Int32} {kh0_rings : Int32} {kh0_doors : Int32} {kh0_turned : Int32} {kh0_roundMany : Int32} {c_kh0_featureNames : Nat → Int64} {c_kh0_steps : Nat → Int32} {c_kh0_turnedFeatures : Nat → Int32} {c_kh0_sixteenths : Nat → Int32} {c_kh0_keySteps : Nat → Int32} {c_kh0_on : Nat → Int32} {c_kh0_onMany : Nat → Int32} {c_kh0_wanted : Nat → Int32} {c_kh0_openers : Nat → Int32} {c_kh0_seconds : Nat → Int32} {c_kh0_roundDoors : Nat → Int32} {ko0_held : Int32} {ko0_places : Int32} {c_ko0_row : Nat → Int32} {c_ko0_parts : Nat → Int64} {kr0_lines : Int32} {kr0_steps : Int32} {kr0_asksSure : Int32} {c_kr0_kinds : Nat → Int32} {c_kr0_features : Nat → Int32} {c_kr0_compares : Nat → Int32} {c_kr0_numbers : Nat → Int32} {c_kr0_partners : Nat → Int32} {kh1_features : Int32} {kh1_keys : Int32} {kh1_lent : Int32} {kh1_rings : Int32} {kh1_doors : Int32} {kh1_turned : Int32} {kh1_roundMany : Int32} {c_kh1_featureNames : Nat → Int64} {c_kh1_steps : Nat → Int32} {c_kh1_turnedFeatures : Nat → Int32} {c_kh1_sixteenths : Nat → Int32} {c_kh1_keySteps : Nat → Int32} {c_kh1_on : Nat → Int32} {c_kh1_onMany : Nat → Int32} {c_kh1_wanted : Nat → Int32} {c_kh1_openers : Nat → Int32} {c_kh1_seconds : Nat → Int32} {c_kh1_roundDoors : Nat → Int32} {ko1_held : Int32} {ko1_places : Int32} {c_ko1_row : Nat → Int32} {c_ko1_parts : Nat → Int64} {kr1_lines : Int32} {kr1_steps : Int32} {kr1_asksSure : Int32} {c_kr1_kinds : Nat → Int32} {c_kr1_features : Nat → Int32} {c_kr1_compares : Nat → Int32} {c_kr1_numbers : Nat → Int32} {c_kr1_partners : Nat → Int32} {kh2_features : Int32} {kh2_keys : Int32} {kh2_lent : Int32} {kh2_rings : Int32} {kh2_doors : Int32} {kh2_turned : Int32} {kh2_roundMany : Int32} {c_kh2_featureNames : Nat → Int64} {c_kh2_steps : Nat → Int32} {c_kh2_turnedFeatures : Nat → Int32} {c_kh2_sixteenths : Nat → Int32} {c_kh2_keySteps : Nat → Int32} {c_kh2_on : Nat → Int32} {c_kh2_onMany : Nat → Int32} {c_kh2_wanted : Nat → Int32} {c_kh2_openers : Nat → Int32} {c_kh2_seconds : Nat → Int32} {c_kh2_roundDoors : Nat → Int32} {ko2_held : Int32} {ko2_places : Int32} {c_ko2_row : Nat → Int32} {c_ko2_parts : Nat → Int64} {kr2_lines : Int32} {kr2_steps : Int32} {kr2_asksSure : Int32} {c_kr2_kinds : Nat → Int32} {c_kr2_features : Nat → Int32} {c_kr2_compares : Nat → Int32} {c_kr2_numbers : Nat → Int32} {c_kr2_partners : Nat → Int32} {g : Nat → Int32} {w : Nat → Int64} {C : qMkC} {M : qMkM} (h0 : 0 ≤ x_marks.toInt) (h3 : x_marks.toInt ≤ 3) (hH : qFt 0 0 h_features c_h_steps c_h_featureNames g w) (hk : qMk x_marks kh0_features kh1_features kh2_features c_kh0_steps c_kh1_steps c_kh2_steps c_kh0_featureNames c_kh1_featureNames c_kh2_featureNames g w) (hC : F_X_mark x_marks h_features h_keys h_lent h_rings h_doors h_turned h_roundMany c_h_featureNames c_h_steps c_h_turnedFeatures c_h_sixteenths c_h_keySteps c_h_on c_h_onMany c_h_wanted c_h_openers c_h_seconds c_h_roundDoors o_held o_places c_o_row c_o_parts r_lines r_steps r_asksSure c_r_kinds c_r_features c_r_compares c_r_numbers c_r_partners kh0_features kh0_keys kh0_lent kh0_rings kh0_doors kh0_turned kh0_roundMany c_kh0_featureNames c_kh0_steps c_kh0_turnedFeatures c_kh0_sixteenths c_kh0_keySteps c_kh0_on c_kh0_onMany c_kh0_wanted c_kh0_openers c_kh0_seconds c_kh0_roundDoors ko0_held ko0_places c_ko0_row c_ko0_parts kr0_lines kr0_steps kr0_asksSure c_kr0_kinds c_kr0_features c_kr0_compares c_kr0_numbers c_kr0_partners kh1_features kh1_keys kh1_lent kh1_rings kh1_doors kh1_turned kh1_roundMany c_kh1_featureNames c_kh1_steps c_kh1_turnedFeatures c_kh1_sixteenths c_kh1_keySteps c_kh1_on c_kh1_onMany c_kh1_wanted c_kh1_openers c_kh1_seconds c_kh1_roundDoors ko1_held ko1_places c_ko1_row c_ko1_parts kr1_lines kr1_steps kr1_asksSure c_kr1_kinds c_kr1_features c_kr1_compares c_kr1_numbers c_kr1_partners kh2_features kh2_keys kh2_lent kh2_rings kh2_doors kh2_turned kh2_roundMany c_kh2_featureNames c_kh2_steps c_kh2_turnedFeatures c_kh2_sixteenths c_kh2_keySteps c_kh2_on c_kh2_onMany c_kh2_wanted c_kh2_openers c_kh2_seconds c_kh2_roundDoors ko2_held ko2_places c_ko2_row c_ko2_parts kr2_lines kr2_steps kr2_asksSure c_kr2_kinds c_kr2_features c_kr2_compares c_kr2_numbers c_kr2_partners = C) (hM : F_r_mark x_marks g w = M) : C.1 = M.1 ∧ C.2.2.1 = M.2.2.2.1 ∧ (0 ≤ M.2.2.2.1.toInt ∧ M.2.2.2.1.toInt ≤ 3) ∧ qMk C.2.2.1 C.2.2.2.1 C.2.2.2.2.2.2.2.2.2.2.2.2.2.2.2.2.2.2.2.2.2.2.2.2.2.2.2.2.2.2.2.2.2.1 C.2.2.2.2.2.2.2.2.2.2.2.2.2.2.2.2.2.2.2.2.2.2.2.2.2.2.2.2.2.2.2.2.2.2.2.2.2.2.2.2.2.2.2.2.2.2.2.2.2.2.2.2.2.2.2.2.2.2.2.2.2.2.2.1 C.2.2.2.2.2.2.2.2.2.2.2.1 C.2.2.2.2.2.2.2.2.2.2.2.2.2.2.2.2.2.2.2.2.2.2.2.2.2.2.2.2.2.2.2.2.2.2.2.2.2.2.2.2.2.1 C.2.2.2.2.2.2.2.2.2.2.2.2.2.2.2.2.2.2.2.2.2.2.2.2.2.2.2.2.2.2.2.2.2.2.2.2.2.2.2.2.2.2.2.2.2.2.2.2.2.2.2.2.2.2.2.2.2.2.2.2.2.2.2.2.2.2.2.2.2.2.2.1 C.2.2.2.2.2.2.2.2.2.2.1 C.2.2.2.2.2.2.2.2.2.2.2.2.2.2.2.2.2.2.2.2.2.2.2.2.2.2.2.2.2.2.2.2.2.2.2.2.2.2.2.2.1 C.2.2.2.2.2.2.2.2.2.2.2.2.2.2.2.2.2.2.2.2.2.2.2.2.2.2.2.2.2.2.2.2.2.2.2.2.2.2.2.2.2.2.2.2.2.2.2.2.2.2.2.2.2.2.2.2.2.2.2.2.2.2.2.2.2.2.2.2.2.2.1 M.2.2.2.2.1 M.2.2.2.2.2 ∧ (∀ j : Nat, j < 365 → M.2.2.2.2.1 j = g j) ∧ ∀ j : Nat, j < 21 → M.2.2.2.2.2 j = w j := by
  rw [F_X_mark_s] at hC
  rw [F_r_mark_s] at hM
  obtain ⟨k, rfl, hk3⟩ : ∃ k : Nat, x_marks = nI k ∧ k ≤ 3 := ⟨x_marks.toInt.toNat, q_toN (m := 0) h0, by omega⟩
  rcases (show k = 0 ∨ k = 1 ∨ k = 2 ∨ k = 3 by omega) with rfl | rfl | rfl | rfl
  · skip
    · obtain ⟨g', w', e, eg, ew⟩ := q_copyB (a := 0) (b := 1) (by omega) (by omega) (by omega) g w
      have e' : F_r_copy g w 0 (nI 1) = (g', w') := e
      simp only [show ¬ nI 0 < 0 by decide +kernel, show nI 0 < 3 by decide +kernel, eq_true (show nI 0 = 0 by decide +kernel),  F_Ho_copy_s, ↓reduceIte] at hC
      simp only [show ¬ nI 0 = 3 by decide +kernel, qnI_s, e', ↓reduceIte] at hM
      subst hC
      subst hM
      have hr : 0 ≤ (nI (0 + 1)).toInt ∧ (nI (0 + 1)).toInt ≤ 3 := by decide +kernel
      refine ⟨rfl, rfl, hr, ⟨fun _ => qFt_mv hH (fun j hj => by show g' (365 + j) = _; rw [eg, if_pos (by omega), show 365 * 0 + (365 + j - 365 * 1) = 0 + j by omega]) (fun j hj => by show w' (21 + j) = _; rw [ew, if_pos (by omega), show 21 * 0 + (21 + j - 21 * 1) = 0 + j by omega]) (fun _ hj => q_cpy3 hj) (fun _ hj => q_cpy3 hj), fun c => absurd (show (1 : Int) < (1 : Int32).toInt from c) (by decide +kernel), fun c => absurd (show (2 : Int) < (1 : Int32).toInt from c) (by decide +kernel)⟩, fun j hj => ?_, fun j hj => ?_⟩
      · show g' j = g j
        rw [eg j, if_neg (by omega)]
      · show w' j = w j
        rw [ew j, if_neg (by omega)]
  · skip
    · obtain ⟨g', w', e, eg, ew⟩ := q_copyB (a := 0) (b := 2) (by omega) (by omega) (by omega) g w
      have e' : F_r_copy g w 0 (nI 2) = (g', w') := e
      simp only [show ¬ nI 1 < 0 by decide +kernel, show nI 1 < 3 by decide +kernel, show ¬ nI 1 = 0 by decide +kernel, eq_true (show nI 1 = 1 by decide +kernel),  F_Ho_copy_s, ↓reduceIte] at hC
      simp only [show ¬ nI 1 = 3 by decide +kernel, qnI_s, e', ↓reduceIte] at hM
      subst hC
      subst hM
      have hr : 0 ≤ (nI (1 + 1)).toInt ∧ (nI (1 + 1)).toInt ≤ 3 := by decide +kernel
      refine ⟨rfl, rfl, hr, ⟨fun _ => qFt_mv (hk.1 (by decide +kernel)) (fun j hj => by show g' _ = _; rw [eg, if_neg (by omega)]) (fun j hj => by show w' _ = _; rw [ew, if_neg (by omega)]) (fun _ _ => rfl) (fun _ _ => rfl), fun _ => qFt_mv hH (fun j hj => by show g' (730 + j) = _; rw [eg, if_pos (by omega), show 365 * 0 + (730 + j - 365 * 2) = 0 + j by omega]) (fun j hj => by show w' (42 + j) = _; rw [ew, if_pos (by omega), show 21 * 0 + (42 + j - 21 * 2) = 0 + j by omega]) (fun _ hj => q_cpy3 hj) (fun _ hj => q_cpy3 hj), fun c => absurd (show (2 : Int) < (2 : Int32).toInt from c) (by decide +kernel)⟩, fun j hj => ?_, fun j hj => ?_⟩
      · show g' j = g j
        rw [eg j, if_neg (by omega)]
      · show w' j = w j
        rw [ew j, if_neg (by omega)]
  · skip
    · obtain ⟨g', w', e, eg, ew⟩ := q_copyB (a := 0) (b := 3) (by omega) (by omega) (by omega) g w
      have e' : F_r_copy g w 0 (nI 3) = (g', w') := e
      simp only [show ¬ nI 2 < 0 by decide +kernel, show nI 2 < 3 by decide +kernel, show ¬ nI 2 = 0 by decide +kernel, show ¬ nI 2 = 1 by decide +kernel,  F_Ho_copy_s, ↓reduceIte] at hC
      simp only [show ¬ nI 2 = 3 by decide +kernel, qnI_s, e', ↓reduceIte] at hM
      subst hC
      subst hM
      have hr : 0 ≤ (nI (2 + 1)).toInt ∧ (nI (2 + 1)).toInt ≤ 3 := by decide +kernel
      refine ⟨rfl, rfl, hr, ⟨fun _ => qFt_mv (hk.1 (by decide +kernel)) (fun j hj => by show g' _ = _; rw [eg, if_neg (by omega)]) (fun j hj => by show w' _ = _; rw [ew, if_neg (by omega)]) (fun _ _ => rfl) (fun _ _ => rfl), fun _ => qFt_mv (hk.2.1 (by decide +kernel)) (fun j hj => by show g' _ = _; rw [eg, if_neg (by omega)]) (fun j hj => by show w' _ = _; rw [ew, if_neg (by omega)]) (fun _ _ => rfl) (fun _ _ => rfl), fun _ => qFt_mv hH (fun j hj => by show g' (1095 + j) = _; rw [eg, if_pos (by omega), show 365 * 0 + (1095 + j - 365 * 3) = 0 + j by omega]) (fun j hj => by show w' (63 + j) = _; rw [ew, if_pos (by omega), show 21 * 0 + (63 + j - 21 * 3) = 0 + j by omega]) (fun _ hj => q_cpy3 hj) (fun _ hj => q_cpy3 hj)⟩, fun j hj => ?_, fun j hj => ?_⟩
      · show g' j = g j
        rw [eg j, if_neg (by omega)]
      · show w' j = w j
        rw [ew j, if_neg (by omega)]
  · simp only [show ¬ nI 3 < 0 by decide +kernel, show ¬ nI 3 < 3 by decide +kernel, ↓reduceIte] at hC
    simp only [show nI 3 = 3 by decide +kernel, F_r_refuse_s, ↓reduceIte] at hM
    subst hC
    subst hM
    exact ⟨rfl, rfl, ⟨h0, h3⟩, hk, fun _ _ => rfl, fun _ _ => rfl⟩
abbrev qBkC : Type := Int32 × Int32 × Int32 × Int32 × Int32 × Int32 × Int32 × Int32 × Int32 × Int32 × (Nat → Int64) × (Nat → Int32) × (Nat → Int32) × (Nat → Int32) × (Nat → Int32) × (Nat → Int32) × (Nat → Int32) × (Nat → Int32) × (Nat → Int32) × (Nat → Int32) × (Nat → Int32) × Int32 × Int32 × (Nat → Int32) × (Nat → Int64) × Int32 × Int32 × Int32 × (Nat → Int32) × (Nat → Int32) × (Nat → Int32) × (Nat → Int32) × (Nat → Int32)
theorem q_back {x_marks : Int32} {h_features : Int32} {h_keys : Int32} {h_lent : Int32} {h_rings : Int32} {h_doors : Int32} {h_turned : Int32} {h_roundMany : Int32} {c_h_featureNames : Nat → Int64} {c_h_steps : Nat → Int32} {c_h_turnedFeatures : Nat → Int32} {c_h_sixteenths : Nat → Int32} {c_h_keySteps : Nat → Int32} {c_h_on : Nat → Int32} {c_h_onMany : Nat → Int32} {c_h_wanted : Nat → Int32} {c_h_openers : Nat → Int32} {c_h_seconds : Nat → Int32} {c_h_roundDoors : Nat → Int32} {o_held : Int32} {o_places : Int32} {c_o_row : Nat → Int32} {c_o_parts : Nat → Int64} {r_lines : Int32} {r_steps : Int32} {r_asksSure : Int32} {c_r_kinds : Nat → Int32} {c_r_features : Nat → Int32} {c_r_compares : Nat → Int32} {c_r_numbers : Nat → Int32} {c_r_partners : Nat → Int32} {kh0_features : Int32} {kh0_keys : Int32} {kh0_lent : Int32} {kh0_rings : Int32} {kh0_doors : Int32} {kh0_turned : Int32} {kh0_roundMany : Int32} {c_kh0_featureNames : Nat → Int64} {c_kh0_steps : Nat → Int32} {c_kh0_turnedFeatures : Nat → Int32} {c_kh0_sixteenths : Nat → Int32} {c_kh0_keySteps : Nat → Int32} {c_kh0_on : Nat → Int32} {c_kh0_onMany : Nat → Int32} {c_kh0_wanted : Nat → Int32} {c_kh0_openers : Nat → Int32} {c_kh0_seconds : Nat → Int32} {c_kh0_roundDoors : Nat → Int32} {ko0_held : Int32} {ko0_places : Int32} {c_ko0_row : Nat → Int32} {c_ko0_parts : Nat → Int64} {kr0_lines : Int32} {kr0_steps : Int32} {kr0_asksSure : Int32} {c_kr0_kinds : Nat → Int32} {c_kr0_features : Nat → Int32} {c_kr0_compares : Nat → Int32} {c_kr0_numbers : Nat → Int32} {c_kr0_partners : Nat → Int32} {kh1_features : Int32} {kh1_keys : Int32} {kh1_lent : Int32} {kh1_rings : Int32} {kh1_doors : Int32} {kh1_turned : Int32} {kh1_roundMany : Int32} {c_kh1_featureNames : Nat → Int64} {c_kh1_steps : Nat → Int32} {c_kh1_turnedFeatures : Nat → Int32} {c_kh1_sixteenths : Nat → Int32} {c_kh1_keySteps : Nat → Int32} {c_kh1_on : Nat → Int32} {c_kh1_onMany : Nat → Int32} {c_kh1_wanted : Nat → Int32} {c_kh1_openers : Nat → Int32} {c_kh1_seconds : Nat → Int32} {c_kh1_roundDoors : Nat → Int32} {ko1_held : Int32} {ko1_places : Int32} {c_ko1_row : Nat → Int32} {c_ko1_parts : Nat → Int64} {kr1_lines : Int32} {kr1_steps : Int32} {kr1_asksSure : Int32} {c_kr1_kinds : Nat → Int32} {c_kr1_features : Nat → Int32} {c_kr1_compares : Nat → Int32} {c_kr1_numbers : Nat → Int32} {c_kr1_partners : Nat → Int32} {kh2_features : Int32} {kh2_keys : Int32} {kh2_lent : Int32} {kh2_rings : Int32} {kh2_doors : Int32} {kh2_turned : Int32} {kh2_roundMany : Int32} {c_kh2_featureNames : Nat → Int64} {c_kh2_steps : Nat → Int32} {c_kh2_turnedFeatures : Nat → Int32} {c_kh2_sixteenths : Nat → Int32} {c_kh2_keySteps : Nat → Int32} {c_kh2_on : Nat → Int32} {c_kh2_onMany : Nat → Int32} {c_kh2_wanted : Nat → Int32} {c_kh2_openers : Nat → Int32} {c_kh2_seconds : Nat → Int32} {c_kh2_roundDoors : Nat → Int32} {ko2_held : Int32} {ko2_places : Int32} {c_ko2_row : Nat → Int32} {c_ko2_parts : Nat → Int64} {kr2_lines : Int32} {kr2_steps : Int32} {kr2_asksSure : Int32} {c_kr2_kinds : Nat → Int32} {c_kr2_features : Nat → Int32} {c_kr2_compares : Nat → Int32} {c_kr2_numbers : Nat → Int32} {c_kr2_partners : Nat → Int32} {g : Nat → Int32} {w : Nat → Int64} {C : qBkC} {M : qMkM} (h0 : 0 ≤ x_marks.toInt) (h3 : x_marks.toInt ≤ 3) (hH : qFt 0 0 h_features c_h_steps c_h_featureNames g w) (hk : qMk x_marks kh0_features kh1_features kh2_features c_kh0_steps c_kh1_steps c_kh2_steps c_kh0_featureNames c_kh1_featureNames c_kh2_featureNames g w) (hC : F_X_back x_marks h_features h_keys h_lent h_rings h_doors h_turned h_roundMany c_h_featureNames c_h_steps c_h_turnedFeatures c_h_sixteenths c_h_keySteps c_h_on c_h_onMany c_h_wanted c_h_openers c_h_seconds c_h_roundDoors o_held o_places c_o_row c_o_parts r_lines r_steps r_asksSure c_r_kinds c_r_features c_r_compares c_r_numbers c_r_partners kh0_features kh0_keys kh0_lent kh0_rings kh0_doors kh0_turned kh0_roundMany c_kh0_featureNames c_kh0_steps c_kh0_turnedFeatures c_kh0_sixteenths c_kh0_keySteps c_kh0_on c_kh0_onMany c_kh0_wanted c_kh0_openers c_kh0_seconds c_kh0_roundDoors ko0_held ko0_places c_ko0_row c_ko0_parts kr0_lines kr0_steps kr0_asksSure c_kr0_kinds c_kr0_features c_kr0_compares c_kr0_numbers c_kr0_partners kh1_features kh1_keys kh1_lent kh1_rings kh1_doors kh1_turned kh1_roundMany c_kh1_featureNames c_kh1_steps c_kh1_turnedFeatures c_kh1_sixteenths c_kh1_keySteps c_kh1_on c_kh1_onMany c_kh1_wanted c_kh1_openers c_kh1_seconds c_kh1_roundDoors ko1_held ko1_places c_ko1_row c_ko1_parts kr1_lines kr1_steps kr1_asksSure c_kr1_kinds c_kr1_features c_kr1_compares c_kr1_numbers c_kr1_partners kh2_features kh2_keys kh2_lent kh2_rings kh2_doors kh2_turned kh2_roundMany c_kh2_featureNames c_kh2_steps c_kh2_turnedFeatures c_kh2_sixteenths c_kh2_keySteps c_kh2_on c_kh2_onMany c_kh2_wanted c_kh2_openers c_kh2_seconds c_kh2_roundDoors ko2_held ko2_places c_ko2_row c_ko2_parts kr2_lines kr2_steps kr2_asksSure c_kr2_kinds c_kr2_features c_kr2_compares c_kr2_numbers c_kr2_partners = C) (hM : F_r_back x_marks g w = M) : C.1 = M.1 ∧ C.2.2.1 = M.2.2.2.1 ∧ (0 ≤ M.2.2.2.1.toInt ∧ M.2.2.2.1.toInt ≤ 3) ∧ qFt 0 0 C.2.2.2.1 C.2.2.2.2.2.2.2.2.2.2.2.1 C.2.2.2.2.2.2.2.2.2.2.1 M.2.2.2.2.1 M.2.2.2.2.2 ∧ (∀ j : Nat, 365 ≤ j → M.2.2.2.2.1 j = g j) ∧ (∀ j : Nat, 21 ≤ j → M.2.2.2.2.2 j = w j) ∧ M.2.2.2.1.toInt ≤ x_marks.toInt := by
  rw [F_X_back_s] at hC
  rw [F_r_back_s] at hM
  obtain ⟨k, rfl, hk3⟩ : ∃ k : Nat, x_marks = nI k ∧ k ≤ 3 := ⟨x_marks.toInt.toNat, q_toN (m := 0) h0, by omega⟩
  rcases (show k = 0 ∨ k = 1 ∨ k = 2 ∨ k = 3 by omega) with rfl | rfl | rfl | rfl
  · simp only [show nI 0 < 1 by decide +kernel, ↓reduceIte] at hC
    simp only [show nI 0 = 0 by decide +kernel, F_r_refuse_s, ↓reduceIte] at hM
    subst hC
    subst hM
    exact ⟨rfl, rfl, ⟨h0, h3⟩, hH, fun _ _ => rfl, fun _ _ => rfl, Int.le_refl _⟩
  · skip
    · obtain ⟨g', w', e, eg, ew⟩ := q_copyB (a := 1) (b := 0) (by omega) (by omega) (by omega) g w
      have e' : F_r_copy g w (nI 1) 0 = (g', w') := e
      simp only [show ¬ nI 1 < 1 by decide +kernel, show nI 1 ≤ 3 by decide +kernel, show nI 1 - 1 = 0 by decide +kernel,  F_Ho_copy_s, ↓reduceIte] at hC
      simp only [show ¬ nI 1 = 0 by decide +kernel, show nI 1 - 1 = 0 by decide +kernel, e', ↓reduceIte] at hM
      subst hC
      subst hM
      have hr : 0 ≤ (0 : Int32).toInt ∧ (0 : Int32).toInt ≤ 3 := by decide +kernel
      have hr2 : (0 : Int32).toInt ≤ (nI 1).toInt := by decide +kernel
      refine ⟨rfl, rfl, hr, qFt_mv (hk.1 (by decide +kernel)) (fun j hj => by show g' (0 + j) = _; rw [eg, if_pos (by omega), show 365 * 1 + (0 + j - 365 * 0) = 365 + j by omega]) (fun j hj => by show w' (0 + j) = _; rw [ew, if_pos (by omega), show 21 * 1 + (0 + j - 21 * 0) = 21 + j by omega]) (fun _ hj => q_cpy3 hj) (fun _ hj => q_cpy3 hj), fun j hj => ?_, fun j hj => ?_, hr2⟩
      · show g' j = g j
        rw [eg j, if_neg (by omega)]
      · show w' j = w j
        rw [ew j, if_neg (by omega)]
  · skip
    · obtain ⟨g', w', e, eg, ew⟩ := q_copyB (a := 2) (b := 0) (by omega) (by omega) (by omega) g w
      have e' : F_r_copy g w (nI 2) 0 = (g', w') := e
      simp only [show ¬ nI 2 < 1 by decide +kernel, show nI 2 ≤ 3 by decide +kernel, show nI 2 - 1 = 1 by decide +kernel, show ¬ (1 : Int32) = 0 by decide,  F_Ho_copy_s, ↓reduceIte] at hC
      simp only [show ¬ nI 2 = 0 by decide +kernel, show nI 2 - 1 = 1 by decide +kernel, e', ↓reduceIte] at hM
      subst hC
      subst hM
      have hr : 0 ≤ (1 : Int32).toInt ∧ (1 : Int32).toInt ≤ 3 := by decide +kernel
      have hr2 : (1 : Int32).toInt ≤ (nI 2).toInt := by decide +kernel
      refine ⟨rfl, rfl, hr, qFt_mv (hk.2.1 (by decide +kernel)) (fun j hj => by show g' (0 + j) = _; rw [eg, if_pos (by omega), show 365 * 2 + (0 + j - 365 * 0) = 730 + j by omega]) (fun j hj => by show w' (0 + j) = _; rw [ew, if_pos (by omega), show 21 * 2 + (0 + j - 21 * 0) = 42 + j by omega]) (fun _ hj => q_cpy3 hj) (fun _ hj => q_cpy3 hj), fun j hj => ?_, fun j hj => ?_, hr2⟩
      · show g' j = g j
        rw [eg j, if_neg (by omega)]
      · show w' j = w j
        rw [ew j, if_neg (by omega)]
  · skip
    · obtain ⟨g', w', e, eg, ew⟩ := q_copyB (a := 3) (b := 0) (by omega) (by omega) (by omega) g w
      have e' : F_r_copy g w (nI 3) 0 = (g', w') := e
      simp only [show ¬ nI 3 < 1 by decide +kernel, show nI 3 ≤ 3 by decide +kernel, show nI 3 - 1 = 2 by decide +kernel, show ¬ (2 : Int32) = 0 by decide, show ¬ (2 : Int32) = 1 by decide,  F_Ho_copy_s, ↓reduceIte] at hC
      simp only [show ¬ nI 3 = 0 by decide +kernel, show nI 3 - 1 = 2 by decide +kernel, e', ↓reduceIte] at hM
      subst hC
      subst hM
      have hr : 0 ≤ (2 : Int32).toInt ∧ (2 : Int32).toInt ≤ 3 := by decide +kernel
      have hr2 : (2 : Int32).toInt ≤ (nI 3).toInt := by decide +kernel
      refine ⟨rfl, rfl, hr, qFt_mv (hk.2.2 (by decide +kernel)) (fun j hj => by show g' (0 + j) = _; rw [eg, if_pos (by omega), show 365 * 3 + (0 + j - 365 * 0) = 1095 + j by omega]) (fun j hj => by show w' (0 + j) = _; rw [ew, if_pos (by omega), show 21 * 3 + (0 + j - 21 * 0) = 63 + j by omega]) (fun _ hj => q_cpy3 hj) (fun _ hj => q_cpy3 hj), fun j hj => ?_, fun j hj => ?_, hr2⟩
      · show g' j = g j
        rw [eg j, if_neg (by omega)]
      · show w' j = w j
        rw [ew j, if_neg (by omega)]
