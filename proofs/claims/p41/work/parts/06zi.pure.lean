theorem qRw_succ (v : Nat) (on : Nat → Int32) (b : Nat) : qRw (v + 1) on b = qRw v on b ++ [on (b + v)] := by
  unfold qRw
  rw [List.range_succ, List.map_append]
  rfl
theorem qRw_mem {v : Nat} {on : Nat → Int32} {b : Nat} {k : Int32} : k ∈ qRw v on b ↔ ∃ i : Nat, i < v ∧ on (b + i) = k := by
  unfold qRw
  rw [List.mem_map]
  constructor
  · rintro ⟨i, h1, h2⟩
    exact ⟨i, List.mem_range.mp h1, h2⟩
  · rintro ⟨i, h1, h2⟩
    exact ⟨i, List.mem_range.mpr h1, h2⟩
theorem qRw_len (v : Nat) (on : Nat → Int32) (b : Nat) : (qRw v on b).length = v := by
  unfold qRw
  rw [List.length_map, List.length_range]
theorem q_insP {b p : Nat} {k : Int32} {on on' : Nat → Int32} : ∀ v : Nat, p ≤ v → (∀ i : Nat, i < p → on' (b + i) = on (b + i)) → on' (b + p) = k → (∀ i : Nat, p ≤ i → i < v → on' (b + i + 1) = on (b + i)) → List.Perm (qRw (v + 1) on' b) (k :: qRw v on b) := by
  intro v
  induction v with
  | zero =>
    intro hp h1 h2 h3
    have : p = 0 := by omega
    subst this
    rw [qRw_succ]
    show List.Perm ([] ++ [on' (b + 0)]) (k :: [])
    rw [h2]
    exact List.Perm.refl _
  | succ v ih =>
    intro hp h1 h2 h3
    by_cases c : p = v + 1
    · subst c
      rw [qRw_succ, h2, qRw_c (v := v + 1) (on := on) (b := b) (b2 := b) (fun i hi => h1 i hi)]
      exact List.perm_append_comm
    · have h4 := ih (by omega) h1 h2 (fun i a1 a2 => h3 i a1 (by omega))
      rw [qRw_succ (v + 1), show b + (v + 1) = b + v + 1 by omega, h3 v (by omega) (by omega), qRw_succ v on b]
      exact h4.append_right _
/-- the first place of a KEY in a row, or none -/
def qPl (v : Nat) (on : Nat → Int32) (b : Nat) (k r : Int32) : Prop := (∃ i : Nat, i < v ∧ r = nI i ∧ on (b + i) = k) ∨ (r = -1 ∧ ¬ k ∈ qRw v on b)
theorem q_manyO {rings : Int32} {om : Nat → Int32} {r : Nat} (h : (r : Int) < rings.toInt) (h3 : r < 3) : F_H_manyOn rings om (nI r) = om r := by
  have e := nI_toInt (show r < 2147483648 by omega)
  rw [F_H_manyOn_s, F_H_hasRing_s]
  simp only [show ¬ nI r < 0 from q_nlt.mpr (by rw [q0, e]; omega), show ¬ rings ≤ nI r from q_nle.mpr (by rw [e]; exact h), q_n1, ↓reduceIte, q_at3 h3]
theorem q_keyO {rings : Int32} {on om : Nat → Int32} {r v i : Nat} (h : (r : Int) < rings.toInt) (h3 : r < 3) (hv : om r = nI v) (hv9 : v ≤ 10) (hi : i < v) : F_H_keyOn rings on om (nI r) (nI i) = on (10 * r + i) := by
  have e := nI_toInt (show i < 2147483648 by omega)
  have ev := nI_toInt (show v < 2147483648 by omega)
  have e1 : nI r * 10 + nI i = nI (10 * r + i) := by rw [show (10 : Int32) = nI 10 by decide +kernel, qnI_mul, nI_add, Nat.mul_comm]
  rw [F_H_keyOn_s]
  simp only [q_manyO h h3, hv, e1, show ¬ nI i < 0 from q_nlt.mpr (by rw [q0, e]; omega), show ¬ nI v ≤ nI i from q_nle.mpr (by rw [e, ev]; omega), ↓reduceIte]
  exact q_at30 (by omega)
theorem q_placeL {rings : Int32} {on om : Nat → Int32} {r v : Nat} {k : Int32} (h : (r : Int) < rings.toInt) (h3 : r < 3) (hv : om r = nI v) (hv9 : v ≤ 10) : ∀ (f i : Nat), (2147483647 - (nI i).toInt).toNat < f → i ≤ v → (∀ j : Nat, j < i → ¬ on (10 * r + j) = k) → qPl v on (10 * r) k (F_H_placeOn_L2a rings on om (nI r) k f (nI i)) := by
  intro f
  induction f with
  | zero => intro i hf; exact absurd hf (Nat.not_lt_zero _)
  | succ f ih =>
    intro i hf hi hj
    have e := nI_toInt (show i < 2147483648 by omega)
    have e2 := nI_toInt (show i + 1 < 2147483648 by omega)
    have ev := nI_toInt (show v < 2147483648 by omega)
    rw [F_H_placeOn_L2a_s]
    simp only [q_manyO h h3, hv]
    by_cases c : i = v
    · subst c
      simp only [show nI i ≤ nI i from q_le.mpr (Int.le_refl _), ↓reduceIte]
      refine Or.inr ⟨rfl, fun hm => ?_⟩
      obtain ⟨j, a1, a2⟩ := qRw_mem.mp hm
      exact hj j a1 a2
    · simp only [show ¬ nI v ≤ nI i from q_nle.mpr (by rw [e, ev]; omega), q_keyO h h3 hv hv9 (show i < v by omega), qnI_s, ↓reduceIte]
      by_cases d : on (10 * r + i) = k
      · simp only [d, ↓reduceIte]
        exact Or.inl ⟨i, by omega, rfl, d⟩
      · simp only [d, ↓reduceIte]
        exact ih (i + 1) (by omega) (Nat.lt_of_le_of_ne hi c) (fun j hj2 => by
          by_cases c2 : j = i
          · subst c2; exact d
          · exact hj j (by omega))
theorem q_placeO {rings : Int32} {on om : Nat → Int32} {r v : Nat} {k : Int32} (h : (r : Int) < rings.toInt) (h3 : r < 3) (hv : om r = nI v) (hv9 : v ≤ 10) : qPl v on (10 * r) k (F_H_placeOn rings on om (nI r) k) := by
  rw [F_H_placeOn_s]
  exact q_placeL h h3 hv hv9 ((2147483647 - (0 : Int32).toInt).toNat + 1) 0 (by show (2147483647 - (0 : Int32).toInt).toNat < _; omega) (by omega) (fun j hj => absurd hj (Nat.not_lt_zero _))
/-- the RING of a KEY: the first one that has it -/
def qRo (R : Nat) (row : Nat → List Int32) (k r : Int32) : Prop := (∃ q : Nat, q < R ∧ r = nI q ∧ k ∈ row q ∧ ∀ j : Nat, j < q → ¬ k ∈ row j) ∨ (r = -1 ∧ ∀ j : Nat, j < R → ¬ k ∈ row j)
theorem qRo_fn {R : Nat} {row row2 : Nat → List Int32} {k r r2 : Int32} (e : ∀ j : Nat, j < R → (k ∈ row j ↔ k ∈ row2 j)) (h : qRo R row k r) (h2 : qRo R row2 k r2) : r = r2 := by
  rcases h with ⟨q, a1, a2, a3, a4⟩ | ⟨a1, a2⟩ <;> rcases h2 with ⟨p, b1, b2, b3, b4⟩ | ⟨b1, b2⟩
  · have : q = p := by
      rcases Nat.lt_trichotomy q p with c | c | c
      · exact absurd ((e q a1).mp a3) (b4 q c)
      · exact c
      · exact absurd ((e p b1).mpr b3) (a4 p c)
    rw [a2, b2, this]
  · exact absurd ((e q a1).mp a3) (b2 q a1)
  · exact absurd ((e p b1).mpr b3) (a2 p b1)
  · rw [a1, b1]
theorem q_ringLq {rings : Int32} {on om : Nat → Int32} {R : Nat} {k : Int32} (hR : rings = nI R) (hR3 : R ≤ 3) (ho : ∀ r : Nat, r < R → ∃ v : Nat, v ≤ 10 ∧ om r = nI v) : ∀ (f i : Nat), (2147483647 - (nI i).toInt).toNat < f → i ≤ R → (∀ j : Nat, j < i → ¬ k ∈ qRw (om j).toInt.toNat on (10 * j)) → qRo R (fun j => qRw (om j).toInt.toNat on (10 * j)) k (F_H_ringOf_L2a rings on om k f (nI i)) := by
  intro f
  induction f with
  | zero => intro i hf; exact absurd hf (Nat.not_lt_zero _)
  | succ f ih =>
    intro i hf hi hj
    have e := nI_toInt (show i < 2147483648 by omega)
    have e2 := nI_toInt (show i + 1 < 2147483648 by omega)
    have eR := nI_toInt (show R < 2147483648 by omega)
    rw [F_H_ringOf_L2a_s]
    by_cases c : i = R
    · subst c
      simp only [show rings ≤ nI i from q_le.mpr (by rw [hR]; exact Int.le_refl _), ↓reduceIte]
      exact Or.inr ⟨rfl, hj⟩
    · have hiR : (i : Int) < rings.toInt := by rw [hR, eR]; omega
      obtain ⟨v, v1, v2⟩ := ho i (by omega)
      have ev := nI_toInt (show v < 2147483648 by omega)
      have hvv : (om i).toInt.toNat = v := by rw [v2, ev]; rfl
      have hp := q_placeO (on := on) (k := k) hiR (by omega) v2 v1
      simp only [show ¬ rings ≤ nI i from q_nle.mpr (by rw [e]; exact hiR), qnI_s, ↓reduceIte]
      rcases hp with ⟨j, j1, j2, j3⟩ | ⟨j1, j2⟩
      · have ej := nI_toInt (show j < 2147483648 by omega)
        have hne : ¬ nI j = -1 := fun h9 => by have := q_eq.mp h9; rw [ej, q_1] at this; omega
        simp only [j2, hne, ↓reduceIte]
        refine Or.inl ⟨i, by omega, rfl, ?_, hj⟩
        show k ∈ qRw (om i).toInt.toNat on (10 * i)
        rw [hvv]
        exact qRw_mem.mpr ⟨j, j1, j3⟩
      · simp only [j1, ↓reduceIte]
        refine ih (i + 1) (by omega) (Nat.lt_of_le_of_ne hi c) (fun j hj2 => ?_)
        by_cases c2 : j = i
        · subst c2
          rw [hvv]
          exact j2
        · exact hj j (by omega)
theorem q_ringO {rings : Int32} {on om : Nat → Int32} {R : Nat} {k : Int32} (hR : rings = nI R) (hR3 : R ≤ 3) (ho : ∀ r : Nat, r < R → ∃ v : Nat, v ≤ 10 ∧ om r = nI v) : qRo R (fun j => qRw (om j).toInt.toNat on (10 * j)) k (F_H_ringOf rings on om k) := by
  rw [F_H_ringOf_s]
  exact q_ringLq hR hR3 ho ((2147483647 - (0 : Int32).toInt).toNat + 1) 0 (by show (2147483647 - (0 : Int32).toInt).toNat < _; omega) (by omega) (fun j hj => absurd hj (Nat.not_lt_zero _))
theorem q_r14 {g : Nat → Int32} {r v : Nat} {k : Int32} {G : Int32 → Int32} (h3 : r < 3) (hv : g (95 + r) = nI v) (hv9 : v ≤ 10) : ∀ (f i : Nat), (2147483647 - (nI i).toInt).toNat < f → i ≤ v → (∀ j : Nat, j < i → ¬ g (98 + 10 * r + j) = k) → (F_r_ringOf_L14a g k (nI r) G f (nI i) = nI r ∧ k ∈ qRw v g (98 + 10 * r)) ∨ (F_r_ringOf_L14a g k (nI r) G f (nI i) = G (nI (r + 1)) ∧ ¬ k ∈ qRw v g (98 + 10 * r)) := by
  intro f
  induction f with
  | zero => intro i hf; exact absurd hf (Nat.not_lt_zero _)
  | succ f ih =>
    intro i hf hi hj
    have e := nI_toInt (show i < 2147483648 by omega)
    have e2 := nI_toInt (show i + 1 < 2147483648 by omega)
    have ev := nI_toInt (show v < 2147483648 by omega)
    have y1 : ((95 : Int32) + nI r).toNatClampNeg = 95 + r := q_adn (a := 95) (by omega)
    have y2 : ((98 : Int32) + 10 * nI r + nI i).toNatClampNeg = 98 + 10 * r + i := by
      show (nI 98 + nI 10 * nI r + nI i).toNatClampNeg = _
      rw [qnI_mul, nI_add, nI_add, qnI_cl (by omega)]
    rw [F_r_ringOf_L14a_s]
    simp only [y1, y2, hv, qnI_s]
    by_cases c : i = v
    · subst c
      simp only [show nI i ≤ nI i from q_le.mpr (Int.le_refl _), ↓reduceIte]
      refine Or.inr ⟨by trivial, fun hm => ?_⟩
      obtain ⟨j, a1, a2⟩ := qRw_mem.mp hm
      exact hj j a1 a2
    · simp only [show ¬ nI v ≤ nI i from q_nle.mpr (by rw [e, ev]; omega), ↓reduceIte]
      by_cases d : g (98 + 10 * r + i) = k
      · simp only [d, ↓reduceIte]
        exact Or.inl ⟨by trivial, qRw_mem.mpr ⟨i, by omega, d⟩⟩
      · simp only [d, ↓reduceIte]
        exact ih (i + 1) (by omega) (Nat.lt_of_le_of_ne hi c) (fun j hj2 => by
          by_cases c2 : j = i
          · subst c2; exact d
          · exact hj j (by omega))
theorem q_r2 {g : Nat → Int32} {R : Nat} {k : Int32} (hR : g 2 = nI R) (hR3 : R ≤ 3) (ho : ∀ r : Nat, r < R → ∃ v : Nat, v ≤ 10 ∧ g (95 + r) = nI v) : ∀ (f i : Nat), (2147483647 - (nI i).toInt).toNat < f → i ≤ R → (∀ j : Nat, j < i → ¬ k ∈ qRw (g (95 + j)).toInt.toNat g (98 + 10 * j)) → qRo R (fun j => qRw (g (95 + j)).toInt.toNat g (98 + 10 * j)) k (F_r_ringOf_L2a g k f (nI i)) := by
  intro f
  induction f with
  | zero => intro i hf; exact absurd hf (Nat.not_lt_zero _)
  | succ f ih =>
    intro i hf hi hj
    have e := nI_toInt (show i < 2147483648 by omega)
    have e2 := nI_toInt (show i + 1 < 2147483648 by omega)
    have eR := nI_toInt (show R < 2147483648 by omega)
    have y0 : g (2 : Int32).toNatClampNeg = nI R := hR
    rw [F_r_ringOf_L2a_s]
    simp only [y0]
    by_cases c : i = R
    · subst c
      simp only [show nI i ≤ nI i from q_le.mpr (Int.le_refl _), ↓reduceIte]
      exact Or.inr ⟨rfl, hj⟩
    · obtain ⟨v, v1, v2⟩ := ho i (by omega)
      have ev := nI_toInt (show v < 2147483648 by omega)
      have hvv : (g (95 + i)).toInt.toNat = v := by rw [v2, ev]; rfl
      simp only [show ¬ nI R ≤ nI i from q_nle.mpr (by rw [e, eR]; omega), ↓reduceIte]
      rcases q_r14 (k := k) (G := F_r_ringOf_L2a g k f) (show i < 3 by omega) v2 v1 ((2147483647 - (0 : Int32).toInt).toNat + 1) 0 (by show (2147483647 - (0 : Int32).toInt).toNat < _; omega) (by omega) (fun j hj => absurd hj (Nat.not_lt_zero _)) with ⟨a1, a2⟩ | ⟨a1, a2⟩
      · refine Or.inl ⟨i, by omega, a1, ?_, hj⟩
        show k ∈ qRw (g (95 + i)).toInt.toNat g (98 + 10 * i)
        rw [hvv]
        exact a2
      · have a1' : F_r_ringOf_L14a g k (nI i) (F_r_ringOf_L2a g k f) ((2147483647 - (0 : Int32).toInt).toNat + 1) 0 = F_r_ringOf_L2a g k f (nI (i + 1)) := a1
        rw [a1']
        refine ih (i + 1) (by omega) (Nat.lt_of_le_of_ne hi c) (fun j hj2 => ?_)
        by_cases c2 : j = i
        · subst c2
          rw [hvv]
          exact a2
        · exact hj j (by omega)
theorem q_ringR {g : Nat → Int32} {R : Nat} {k : Int32} (hR : g 2 = nI R) (hR3 : R ≤ 3) (ho : ∀ r : Nat, r < R → ∃ v : Nat, v ≤ 10 ∧ g (95 + r) = nI v) : qRo R (fun j => qRw (g (95 + j)).toInt.toNat g (98 + 10 * j)) k (F_r_ringOf g k) := by
  rw [F_r_ringOf_s]
  exact q_r2 hR hR3 ho ((2147483647 - (0 : Int32).toInt).toNat + 1) 0 (by show (2147483647 - (0 : Int32).toInt).toNat < _; omega) (by omega) (fun j hj => absurd hj (Nat.not_lt_zero _))
/-- one RING of a KEY on both sides -/
theorem q_ringA {rings keys lent : Int32} {on om g : Nat → Int32} {k : Int32} (h : qRn 0 rings keys lent on om g) (e : rings = g 2) (h0 : 0 ≤ rings.toInt) (h3 : rings.toInt ≤ 3) : F_H_ringOf rings on om k = F_r_ringOf g k := by
  have hR : rings = nI rings.toInt.toNat := q_toN (m := 0) h0
  refine qRo_fn (R := rings.toInt.toNat) (fun j hj => ?_) (q_ringO hR (by omega) (fun r hr => ?_)) (q_ringR (e.symm.trans hR) (by omega) (fun r hr => ?_))
  · obtain ⟨v, a1, a2, a3, a4⟩ := h.1 j (by omega) (by omega)
    have ev := nI_toInt (show v < 2147483648 by omega)
    have a3' : g (95 + j) = nI v := by rw [← a3, show 0 + 95 + j = 95 + j by omega]
    show k ∈ qRw (om j).toInt.toNat on (10 * j) ↔ k ∈ qRw (g (95 + j)).toInt.toNat g (98 + 10 * j)
    rw [a2, a3', ev]
    have a4' : List.Perm (qRw v on (10 * j)) (qRw v g (98 + 10 * j)) := by
      rw [show 98 + 10 * j = 0 + 98 + 10 * j by omega]; exact a4
    exact a4'.mem_iff
  · obtain ⟨v, a1, a2, a3, a4⟩ := h.1 r (by omega) (by omega)
    exact ⟨v, a1, a2⟩
  · obtain ⟨v, a1, a2, a3, a4⟩ := h.1 r (by omega) (by omega)
    exact ⟨v, a1, by rw [← a3, show 0 + 95 + r = 95 + r by omega]⟩
