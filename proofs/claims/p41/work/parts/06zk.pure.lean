def qDn (b p i : Nat) (on g : Nat → Int32) : Prop := (∀ x : Nat, (x < b + p ∨ b + i ≤ x) → g x = on x) ∧ ∀ j : Nat, p ≤ j → j < i → g (b + j) = on (b + j + 1)
theorem qDn_0 (b p : Nat) (on : Nat → Int32) : qDn b p p on on := ⟨fun _ _ => rfl, fun j a1 a2 => absurd a2 (by omega)⟩
theorem qDn_step {b p i : Nat} {on g : Nat → Int32} (h : qDn b p i on g) (hp : p ≤ i) : qDn b p (i + 1) on (upd g (b + i) (g (b + (i + 1)))) := by
  obtain ⟨h1, h2⟩ := h
  refine ⟨fun x hx => ?_, fun j a1 a2 => ?_⟩
  · show (if x = b + i then _ else _) = _
    rw [if_neg (by omega)]
    exact h1 x (by omega)
  · by_cases c : j = i
    · subst c
      show (if b + j = b + j then _ else _) = _
      rw [if_pos rfl]
      exact h1 _ (by omega)
    · show (if b + j = b + i then _ else _) = _
      rw [if_neg (by omega)]
      exact h2 j a1 (by omega)
theorem qDn_P {b p v : Nat} {k : Int32} {on on' : Nat → Int32} (h : qDn b p v on on') (hp : p ≤ v) (hk : on (b + p) = k) : List.Perm (qRw (v + 1) on b) (k :: qRw v on' b) := q_insP v hp (fun i hi => (h.1 (b + i) (by omega)).symm) hk (fun i a1 a2 => (h.2 i a1 a2).symm)
theorem q_offL {rings : Int32} {on om : Nat → Int32} {r v p : Nat} (h : (r : Int) < rings.toInt) (h3 : r < 3) (hv : om r = nI (v + 1)) (hv9 : v ≤ 9) : ∀ (f i : Nat) (g : Nat → Int32), (2147483647 - (nI i).toInt).toNat < f → p ≤ i → i ≤ v → qDn (10 * r) p i on g → ∃ on' : Nat → Int32, F_H_takeOff_L25a rings om (nI r) (nI (v + 1)) f (nI i) g = (on', upd om r (nI v)) ∧ qDn (10 * r) p v on on' := by
  intro f
  induction f with
  | zero => intro i g hf; exact absurd hf (Nat.not_lt_zero _)
  | succ f ih =>
    intro i g hf hp hi hg
    have e := nI_toInt (show i < 2147483648 by omega)
    have e2 := nI_toInt (show i + 1 < 2147483648 by omega)
    have ev := nI_toInt (show v < 2147483648 by omega)
    rw [F_H_takeOff_L25a_s]
    simp only [qnI_sub1]
    by_cases c : i = v
    · subst c
      simp only [show nI i ≤ nI i from q_le.mpr (Int.le_refl _), q_keep3 h3, ↓reduceIte]
      exact ⟨g, rfl, hg⟩
    · simp only [show ¬ nI v ≤ nI i from q_nle.mpr (by rw [e, ev]; omega), qnI_s, q_keyO (on := g) h h3 hv (by omega) (show i + 1 < v + 1 by omega), q_layA (on := g) h h3 hv (by omega) (show i < v + 1 by omega), ↓reduceIte]
      exact ih (i + 1) _ (by omega) (by omega) (Nat.lt_of_le_of_ne hi c) (qDn_step hg hp)
theorem q_offO {rings : Int32} {on om : Nat → Int32} {r v : Nat} {k : Int32} (h : (r : Int) < rings.toInt) (h3 : r < 3) (hv : om r = nI (v + 1)) (hv9 : v ≤ 9) (hk : k ∈ qRw (v + 1) on (10 * r)) : ∃ (p : Nat) (on' : Nat → Int32), p ≤ v ∧ on (10 * r + p) = k ∧ F_H_takeOff rings on om k (nI r) = (on', upd om r (nI v)) ∧ qDn (10 * r) p v on on' := by
  rcases q_placeO (on := on) (k := k) h h3 hv (by omega) with ⟨p, p1, p2, p3⟩ | ⟨p1, p2⟩
  · have ep := nI_toInt (show p < 2147483648 by omega)
    have hne : ¬ nI p = -1 := fun h9 => by have := q_eq.mp h9; rw [ep, q_1] at this; omega
    obtain ⟨on', a1, a2⟩ := q_offL (p := p) (on := on) h h3 hv hv9 ((2147483647 - (nI p).toInt).toNat + 1) p on (Nat.lt_succ_self _) (Nat.le_refl _) (by omega) (qDn_0 _ _ _)
    refine ⟨p, on', by omega, p3, ?_, a2⟩
    rw [F_H_takeOff_s]
    simp only [p2, hne, q_manyO h h3, hv, ↓reduceIte]
    exact a1
  · exact absurd hk p2
theorem q_tk2L {on : Nat → Int32} {r v p : Nat} (h3 : r < 3) (hv9 : v ≤ 9) (hs : on (95 + r) = nI (v + 1)) : ∀ (f i : Nat) (g : Nat → Int32), (2147483647 - (nI i).toInt).toNat < f → p ≤ i → i ≤ v → qDn (98 + 10 * r) p i on g → ∃ on' : Nat → Int32, F_r_take2_L12a (nI r) f (nI i) g = upd on' (95 + r) (nI v) ∧ qDn (98 + 10 * r) p v on on' := by
  intro f
  induction f with
  | zero => intro i g hf; exact absurd hf (Nat.not_lt_zero _)
  | succ f ih =>
    intro i g hf hp hi hg
    have e := nI_toInt (show i < 2147483648 by omega)
    have e2 := nI_toInt (show i + 1 < 2147483648 by omega)
    have ev := nI_toInt (show v + 1 < 2147483648 by omega)
    have y1 : ((95 : Int32) + nI r).toNatClampNeg = 95 + r := q_adn (a := 95) (by omega)
    have hsz : g (95 + r) = nI (v + 1) := (hg.1 (95 + r) (by omega)).trans hs
    have z1 : (98 : Int32) + 10 * nI r + nI i = nI (98 + 10 * r + i) := by
      show nI 98 + nI 10 * nI r + nI i = _
      rw [qnI_mul, nI_add, nI_add]
    have z2 : (nI (98 + 10 * r + i)).toNatClampNeg = 98 + 10 * r + i := qnI_cl (by omega)
    have z3 : (nI (98 + 10 * r + i + 1)).toNatClampNeg = 98 + 10 * r + (i + 1) := by rw [qnI_cl (by omega)]; rfl
    rw [F_r_take2_L12a_s]
    simp only [y1, hsz, qnI_s, qnI_sub1]
    by_cases c : i = v
    · subst c
      simp only [show nI (i + 1) ≤ nI (i + 1) from q_le.mpr (Int.le_refl _), ↓reduceIte]
      exact ⟨g, rfl, hg⟩
    · simp only [show ¬ nI (v + 1) ≤ nI (i + 1) from q_nle.mpr (by rw [e2, ev]; omega), z1, z2, z3, qnI_s, ↓reduceIte]
      exact ih (i + 1) _ (by omega) (by omega) (Nat.lt_of_le_of_ne hi c) (qDn_step hg hp)
