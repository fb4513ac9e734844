def qNm (many : Int32) (lim : Int) (nm w : Nat → Int64) (o : Nat) : Prop := 0 ≤ many.toInt ∧ many.toInt ≤ lim ∧ ∀ j : Nat, (j : Int) < many.toInt → nm j = w (o + j)
theorem q_nmL_f {nm w : Nat → Int64} {l : Int64} {many : Int32} (h : qNm many 3 nm w 84) : ∀ (f : Nat) (v : Int32), (2147483647 - v.toInt).toNat < f → 0 ≤ v.toInt → v.toInt ≤ many.toInt → (F_HR_placeOf_3_L3a nm l many) f v = (F_r_named_4_0_L3a l w many) f v ∧ ((F_r_named_4_0_L3a l w many) f v = -1 ∨ (0 ≤ ((F_r_named_4_0_L3a l w many) f v).toInt ∧ ((F_r_named_4_0_L3a l w many) f v).toInt < many.toInt)) := by
  obtain ⟨hm0, hm1, hj⟩ := h
  intro f
  induction f with
  | zero => intro v h; exact absurd h (Nat.not_lt_zero _)
  | succ f ih =>
    intro v h1 h2 h3
    rw [F_HR_placeOf_3_L3a_s, F_r_named_4_0_L3a_s]
    by_cases h : many ≤ v
    · simp only [h, ↓reduceIte]
      exact ⟨trivial, Or.inl trivial⟩
    · have h' := q_nle.mp h
      have hv1 := q_inc (a := v) (by omega)
      have hN : ¬ (3 : Int32) ≤ v := by rw [q_nle, show (3 : Int32).toInt = 3 by decide +kernel]; omega
      have h0 : ¬ v < 0 := by rw [q_nlt, q0]; exact h2
      have ho : (84 : Int32).toInt = 84 := by decide +kernel
      have hx : ((84 : Int32) + v).toInt = 84 + v.toInt := by rw [q_add (by rw [ho]; omega) (by rw [ho]; omega), ho]
      have hl : F_longAt_3 nm v = w ((84 : Int32) + v).toNatClampNeg := by
        rw [F_longAt_3_s]
        simp only [hN, h0, ↓reduceIte]
        have := hj v.toInt.toNat (by omega)
        show nm v.toInt.toNat = w ((84 : Int32) + v).toInt.toNat
        rw [this, hx]
        congr 1
        omega
      simp only [h, hl, ↓reduceIte]
      by_cases he : lg_cmp (w ((84 : Int32) + v).toNatClampNeg) l = 0
      · simp only [he, ↓reduceIte]
        exact ⟨trivial, Or.inr ⟨h2, h'⟩⟩
      · simp only [he, ↓reduceIte]
        exact ih (v + 1) (by omega) (by omega) (by omega)
theorem q_nm_f {nm w : Nat → Int64} {l : Int64} {many : Int32} (h : qNm many 3 nm w 84) : F_HR_placeOf_3 nm l many = F_r_named_4_0 l w many ∧ (F_r_named_4_0 l w many = -1 ∨ (0 ≤ (F_r_named_4_0 l w many).toInt ∧ (F_r_named_4_0 l w many).toInt < many.toInt)) := by
  rw [F_HR_placeOf_3_s, F_r_named_4_0_s]
  exact q_nmL_f h _ 0 (by omega) (by rw [q0]; omega) (by rw [q0]; exact h.1)
theorem q_nmL_k {nm w : Nat → Int64} {l : Int64} {many : Int32} (h : qNm many 10 nm w 87) : ∀ (f : Nat) (v : Int32), (2147483647 - v.toInt).toNat < f → 0 ≤ v.toInt → v.toInt ≤ many.toInt → (F_HR_placeOf_10_L3a nm l many) f v = (F_r_named_4_3_L3a l w many) f v ∧ ((F_r_named_4_3_L3a l w many) f v = -1 ∨ (0 ≤ ((F_r_named_4_3_L3a l w many) f v).toInt ∧ ((F_r_named_4_3_L3a l w many) f v).toInt < many.toInt)) := by
  obtain ⟨hm0, hm1, hj⟩ := h
  intro f
  induction f with
  | zero => intro v h; exact absurd h (Nat.not_lt_zero _)
  | succ f ih =>
    intro v h1 h2 h3
    rw [F_HR_placeOf_10_L3a_s, F_r_named_4_3_L3a_s]
    by_cases h : many ≤ v
    · simp only [h, ↓reduceIte]
      exact ⟨trivial, Or.inl trivial⟩
    · have h' := q_nle.mp h
      have hv1 := q_inc (a := v) (by omega)
      have hN : ¬ (10 : Int32) ≤ v := by rw [q_nle, show (10 : Int32).toInt = 10 by decide +kernel]; omega
      have h0 : ¬ v < 0 := by rw [q_nlt, q0]; exact h2
      have ho : (87 : Int32).toInt = 87 := by decide +kernel
      have hx : ((87 : Int32) + v).toInt = 87 + v.toInt := by rw [q_add (by rw [ho]; omega) (by rw [ho]; omega), ho]
      have hl : F_longAt_10 nm v = w ((87 : Int32) + v).toNatClampNeg := by
        rw [F_longAt_10_s]
        simp only [hN, h0, ↓reduceIte]
        have := hj v.toInt.toNat (by omega)
        show nm v.toInt.toNat = w ((87 : Int32) + v).toInt.toNat
        rw [this, hx]
        congr 1
        omega
      simp only [h, hl, ↓reduceIte]
      by_cases he : lg_cmp (w ((87 : Int32) + v).toNatClampNeg) l = 0
      · simp only [he, ↓reduceIte]
        exact ⟨trivial, Or.inr ⟨h2, h'⟩⟩
      · simp only [he, ↓reduceIte]
        exact ih (v + 1) (by omega) (by omega) (by omega)
theorem q_nm_k {nm w : Nat → Int64} {l : Int64} {many : Int32} (h : qNm many 10 nm w 87) : F_HR_placeOf_10 nm l many = F_r_named_4_3 l w many ∧ (F_r_named_4_3 l w many = -1 ∨ (0 ≤ (F_r_named_4_3 l w many).toInt ∧ (F_r_named_4_3 l w many).toInt < many.toInt)) := by
  rw [F_HR_placeOf_10_s, F_r_named_4_3_s]
  exact q_nmL_k h _ 0 (by omega) (by rw [q0]; omega) (by rw [q0]; exact h.1)
theorem q_nmL_r {nm w : Nat → Int64} {l : Int64} {many : Int32} (h : qNm many 3 nm w 97) : ∀ (f : Nat) (v : Int32), (2147483647 - v.toInt).toNat < f → 0 ≤ v.toInt → v.toInt ≤ many.toInt → (F_HR_placeOf_3_L3a nm l many) f v = (F_r_named_4_13_L3a l w many) f v ∧ ((F_r_named_4_13_L3a l w many) f v = -1 ∨ (0 ≤ ((F_r_named_4_13_L3a l w many) f v).toInt ∧ ((F_r_named_4_13_L3a l w many) f v).toInt < many.toInt)) := by
  obtain ⟨hm0, hm1, hj⟩ := h
  intro f
  induction f with
  | zero => intro v h; exact absurd h (Nat.not_lt_zero _)
  | succ f ih =>
    intro v h1 h2 h3
    rw [F_HR_placeOf_3_L3a_s, F_r_named_4_13_L3a_s]
    by_cases h : many ≤ v
    · simp only [h, ↓reduceIte]
      exact ⟨trivial, Or.inl trivial⟩
    · have h' := q_nle.mp h
      have hv1 := q_inc (a := v) (by omega)
      have hN : ¬ (3 : Int32) ≤ v := by rw [q_nle, show (3 : Int32).toInt = 3 by decide +kernel]; omega
      have h0 : ¬ v < 0 := by rw [q_nlt, q0]; exact h2
      have ho : (97 : Int32).toInt = 97 := by decide +kernel
      have hx : ((97 : Int32) + v).toInt = 97 + v.toInt := by rw [q_add (by rw [ho]; omega) (by rw [ho]; omega), ho]
      have hl : F_longAt_3 nm v = w ((97 : Int32) + v).toNatClampNeg := by
        rw [F_longAt_3_s]
        simp only [hN, h0, ↓reduceIte]
        have := hj v.toInt.toNat (by omega)
        show nm v.toInt.toNat = w ((97 : Int32) + v).toInt.toNat
        rw [this, hx]
        congr 1
        omega
      simp only [h, hl, ↓reduceIte]
      by_cases he : lg_cmp (w ((97 : Int32) + v).toNatClampNeg) l = 0
      · simp only [he, ↓reduceIte]
        exact ⟨trivial, Or.inr ⟨h2, h'⟩⟩
      · simp only [he, ↓reduceIte]
        exact ih (v + 1) (by omega) (by omega) (by omega)
theorem q_nm_r {nm w : Nat → Int64} {l : Int64} {many : Int32} (h : qNm many 3 nm w 97) : F_HR_placeOf_3 nm l many = F_r_named_4_13 l w many ∧ (F_r_named_4_13 l w many = -1 ∨ (0 ≤ (F_r_named_4_13 l w many).toInt ∧ (F_r_named_4_13 l w many).toInt < many.toInt)) := by
  rw [F_HR_placeOf_3_s, F_r_named_4_13_s]
  exact q_nmL_r h _ 0 (by omega) (by rw [q0]; omega) (by rw [q0]; exact h.1)
theorem q_nmL_d {nm w : Nat → Int64} {l : Int64} {many : Int32} (h : qNm many 5 nm w 100) : ∀ (f : Nat) (v : Int32), (2147483647 - v.toInt).toNat < f → 0 ≤ v.toInt → v.toInt ≤ many.toInt → (F_HR_placeOf_5_L3a nm l many) f v = (F_r_named_4_16_L3a l w many) f v ∧ ((F_r_named_4_16_L3a l w many) f v = -1 ∨ (0 ≤ ((F_r_named_4_16_L3a l w many) f v).toInt ∧ ((F_r_named_4_16_L3a l w many) f v).toInt < many.toInt)) := by
  obtain ⟨hm0, hm1, hj⟩ := h
  intro f
  induction f with
  | zero => intro v h; exact absurd h (Nat.not_lt_zero _)
  | succ f ih =>
    intro v h1 h2 h3
    rw [F_HR_placeOf_5_L3a_s, F_r_named_4_16_L3a_s]
    by_cases h : many ≤ v
    · simp only [h, ↓reduceIte]
      exact ⟨trivial, Or.inl trivial⟩
    · have h' := q_nle.mp h
      have hv1 := q_inc (a := v) (by omega)
      have hN : ¬ (5 : Int32) ≤ v := by rw [q_nle, show (5 : Int32).toInt = 5 by decide +kernel]; omega
      have h0 : ¬ v < 0 := by rw [q_nlt, q0]; exact h2
      have ho : (100 : Int32).toInt = 100 := by decide +kernel
      have hx : ((100 : Int32) + v).toInt = 100 + v.toInt := by rw [q_add (by rw [ho]; omega) (by rw [ho]; omega), ho]
      have hl : F_longAt_5 nm v = w ((100 : Int32) + v).toNatClampNeg := by
        rw [F_longAt_5_s]
        simp only [hN, h0, ↓reduceIte]
        have := hj v.toInt.toNat (by omega)
        show nm v.toInt.toNat = w ((100 : Int32) + v).toInt.toNat
        rw [this, hx]
        congr 1
        omega
      simp only [h, hl, ↓reduceIte]
      by_cases he : lg_cmp (w ((100 : Int32) + v).toNatClampNeg) l = 0
      · simp only [he, ↓reduceIte]
        exact ⟨trivial, Or.inr ⟨h2, h'⟩⟩
      · simp only [he, ↓reduceIte]
        exact ih (v + 1) (by omega) (by omega) (by omega)
theorem q_nm_d {nm w : Nat → Int64} {l : Int64} {many : Int32} (h : qNm many 5 nm w 100) : F_HR_placeOf_5 nm l many = F_r_named_4_16 l w many ∧ (F_r_named_4_16 l w many = -1 ∨ (0 ≤ (F_r_named_4_16 l w many).toInt ∧ (F_r_named_4_16 l w many).toInt < many.toInt)) := by
  rw [F_HR_placeOf_5_s, F_r_named_4_16_s]
  exact q_nmL_d h _ 0 (by omega) (by rw [q0]; omega) (by rw [q0]; exact h.1)
theorem q_nmL_h {nm w : Nat → Int64} {l : Int64} {many : Int32} (h : qNm many 3 nm w 0) : ∀ (f : Nat) (v : Int32), (2147483647 - v.toInt).toNat < f → 0 ≤ v.toInt → v.toInt ≤ many.toInt → (F_H_featureNamed_L2a many nm l) f v = (F_r_named_0_0_L3a l w many) f v ∧ ((F_r_named_0_0_L3a l w many) f v = -1 ∨ (0 ≤ ((F_r_named_0_0_L3a l w many) f v).toInt ∧ ((F_r_named_0_0_L3a l w many) f v).toInt < many.toInt)) := by
  obtain ⟨hm0, hm1, hj⟩ := h
  intro f
  induction f with
  | zero => intro v h; exact absurd h (Nat.not_lt_zero _)
  | succ f ih =>
    intro v h1 h2 h3
    rw [F_H_featureNamed_L2a_s, F_r_named_0_0_L3a_s]
    by_cases h : many ≤ v
    · simp only [h, ↓reduceIte]
      exact ⟨trivial, Or.inl trivial⟩
    · have h' := q_nle.mp h
      have hv1 := q_inc (a := v) (by omega)
      have hN : ¬ (3 : Int32) ≤ v := by rw [q_nle, show (3 : Int32).toInt = 3 by decide +kernel]; omega
      have h0 : ¬ v < 0 := by rw [q_nlt, q0]; exact h2
      have ho : (0 : Int32).toInt = 0 := by decide +kernel
      have hx : ((0 : Int32) + v).toInt = 0 + v.toInt := by rw [q_add (by rw [ho]; omega) (by rw [ho]; omega), ho]
      have hl : F_longAt_3 nm v = w ((0 : Int32) + v).toNatClampNeg := by
        rw [F_longAt_3_s]
        simp only [hN, h0, ↓reduceIte]
        have := hj v.toInt.toNat (by omega)
        show nm v.toInt.toNat = w ((0 : Int32) + v).toInt.toNat
        rw [this, hx]
        congr 1
        omega
      simp only [h, hl, ↓reduceIte]
      by_cases he : lg_cmp (w ((0 : Int32) + v).toNatClampNeg) l = 0
      · simp only [he, ↓reduceIte]
        exact ⟨trivial, Or.inr ⟨h2, h'⟩⟩
      · simp only [he, ↓reduceIte]
        exact ih (v + 1) (by omega) (by omega) (by omega)
theorem q_nm_h {nm w : Nat → Int64} {l : Int64} {many : Int32} (h : qNm many 3 nm w 0) : F_H_featureNamed many nm l = F_r_named_0_0 l w many ∧ (F_r_named_0_0 l w many = -1 ∨ (0 ≤ (F_r_named_0_0 l w many).toInt ∧ (F_r_named_0_0 l w many).toInt < many.toInt)) := by
  rw [F_H_featureNamed_s, F_r_named_0_0_s]
  exact q_nmL_h h _ 0 (by omega) (by rw [q0]; omega) (by rw [q0]; exact h.1)
