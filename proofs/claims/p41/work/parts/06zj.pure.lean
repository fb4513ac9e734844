theorem q_keep30 {g : Nat → Int32} {i : Nat} {k : Int32} (h : i < 30) : F_keepAt_30 g (nI i) k = upd g i k := by
  have e := nI_toInt (show i < 2147483648 by omega)
  rw [F_keepAt_30_s, if_neg (q_nlt.mpr (by rw [q0, e]; omega)), if_neg (q_nle.mpr (by rw [e, show (30 : Int32).toInt = 30 by decide +kernel]; omega))]
  show upd g (nI i).toNatClampNeg k = upd g i k
  rw [qnI_cl (by omega)]
theorem q_keep3 {g : Nat → Int32} {i : Nat} {k : Int32} (h : i < 3) : F_keepAt_3 g (nI i) k = upd g i k := by
  have e := nI_toInt (show i < 2147483648 by omega)
  rw [F_keepAt_3_s, if_neg (q_nlt.mpr (by rw [q0, e]; omega)), if_neg (q_nle.mpr (by rw [e, show (3 : Int32).toInt = 3 by decide +kernel]; omega))]
  show upd g (nI i).toNatClampNeg k = upd g i k
  rw [qnI_cl (by omega)]
theorem q_layA {rings : Int32} {on om : Nat → Int32} {r v i : Nat} {k : Int32} (h : (r : Int) < rings.toInt) (h3 : r < 3) (hv : om r = nI v) (hv9 : v ≤ 10) (hi : i < v) : F_H_layAt rings on om (nI r) (nI i) k = upd on (10 * r + i) k := by
  have e := nI_toInt (show i < 2147483648 by omega)
  have ev := nI_toInt (show v < 2147483648 by omega)
  have e1 : nI r * 10 + nI i = nI (10 * r + i) := by rw [show (10 : Int32) = nI 10 by decide +kernel, qnI_mul, nI_add, Nat.mul_comm]
  rw [F_H_layAt_s]
  simp only [q_manyO h h3, hv, e1, show ¬ nI i < 0 from q_nlt.mpr (by rw [q0, e]; omega), show ¬ nI v ≤ nI i from q_nle.mpr (by rw [e, ev]; omega), ↓reduceIte]
  exact q_keep30 (by omega)
/-- a row that is moved up one place from v down to p, k put at p -/
def qIns (b p v : Nat) (k : Int32) (on on' : Nat → Int32) : Prop := (∀ j : Nat, j < p → on' (b + j) = on (b + j)) ∧ on' (b + p) = k ∧ (∀ j : Nat, p ≤ j → j < v → on' (b + j + 1) = on (b + j)) ∧ ∀ j : Nat, ¬ (b ≤ j ∧ j < b + 10) → on' j = on j
def qUp (b i v : Nat) (on g : Nat → Int32) : Prop := (∀ j : Nat, j < i → g (b + j) = on (b + j)) ∧ (∀ j : Nat, i ≤ j → j < v → g (b + j + 1) = on (b + j)) ∧ ∀ j : Nat, ¬ (b ≤ j ∧ j < b + 10) → g j = on j
theorem qUp_step {b i v : Nat} {on g : Nat → Int32} (h : qUp b (i + 1) v on g) (hi : i + 1 ≤ v) (hv : v ≤ 9) : qUp b i v on (upd g (b + (i + 1)) (g (b + i))) := by
  obtain ⟨h1, h2, h3⟩ := h
  refine ⟨fun j hj => ?_, fun j a1 a2 => ?_, fun j hj => ?_⟩
  · show (if b + j = b + (i + 1) then _ else _) = _
    rw [if_neg (by omega)]
    exact h1 j (by omega)
  · by_cases c : j = i
    · subst c
      show (if b + j + 1 = b + (j + 1) then _ else _) = _
      rw [if_pos (by omega)]
      exact h1 j (by omega)
    · show (if b + j + 1 = b + (i + 1) then _ else _) = _
      rw [if_neg (by omega)]
      exact h2 j (by omega) a2
  · show (if j = b + (i + 1) then _ else _) = _
    rw [if_neg (by omega)]
    exact h3 j hj
theorem qUp_end {b p v : Nat} {k : Int32} {on g : Nat → Int32} (h : qUp b p v on g) (hp : p ≤ v) (hv : v ≤ 9) : qIns b p v k on (upd g (b + p) k) := by
  obtain ⟨h1, h2, h3⟩ := h
  refine ⟨fun j hj => ?_, if_pos rfl, fun j a1 a2 => ?_, fun j hj => ?_⟩
  · show (if b + j = b + p then _ else _) = _
    rw [if_neg (by omega)]
    exact h1 j hj
  · show (if b + j + 1 = b + p then _ else _) = _
    rw [if_neg (by omega)]
    exact h2 j a1 a2
  · show (if j = b + p then _ else _) = _
    rw [if_neg (by omega)]
    exact h3 j hj
theorem qIns_P {b p v : Nat} {k : Int32} {on on' : Nat → Int32} (h : qIns b p v k on on') (hp : p ≤ v) : List.Perm (qRw (v + 1) on' b) (k :: qRw v on b) := q_insP v hp h.1 h.2.1 h.2.2.1
theorem q_putL {rings : Int32} {on om2 : Nat → Int32} {r v p : Nat} {k : Int32} (h : (r : Int) < rings.toInt) (h3 : r < 3) (hv : om2 r = nI (v + 1)) (hv9 : v ≤ 9) : ∀ (f i : Nat) (g : Nat → Int32), ((nI i).toInt + 2147483648).toNat < f → p ≤ i → i ≤ v → qUp (10 * r) i v on g → ∃ on' : Nat → Int32, F_H_putOn_L39a rings k (nI r) (nI p) om2 f (nI i) g = (on', om2) ∧ qIns (10 * r) p v k on on' := by
  intro f
  induction f with
  | zero => intro i g hf; exact absurd hf (Nat.not_lt_zero _)
  | succ f ih =>
    intro i g hf hp hi hg
    have e := nI_toInt (show i < 2147483648 by omega)
    have ep := nI_toInt (show p < 2147483648 by omega)
    rw [F_H_putOn_L39a_s]
    by_cases c : i = p
    · subst c
      simp only [show nI i ≤ nI i from q_le.mpr (Int.le_refl _), ↓reduceIte]
      rw [q_layA h h3 hv (by omega) (show i < v + 1 by omega)]
      exact ⟨_, rfl, qUp_end hg hi hv9⟩
    · obtain ⟨i, rfl⟩ : ∃ q, i = q + 1 := ⟨i - 1, by omega⟩
      have e2 := nI_toInt (show i < 2147483648 by omega)
      have e3 : nI (i + 1) + (-1) = nI i := (Int32.sub_eq_add_neg (nI (i + 1)) 1).symm.trans (qnI_sub1 i)
      simp only [show ¬ nI (i + 1) ≤ nI p from q_nle.mpr (by rw [e, ep]; omega), qnI_sub1, e3, q_keyO (on := g) h h3 hv (by omega) (show i < v + 1 by omega), q_layA (on := g) h h3 hv (by omega) (show i + 1 < v + 1 by omega), ↓reduceIte]
      exact ih i _ (by omega) (by omega) (by omega) (qUp_step hg hi hv9)
theorem q_putO {rings : Int32} {on om : Nat → Int32} {r v p : Nat} {k : Int32} (h : (r : Int) < rings.toInt) (h3 : r < 3) (hv : om r = nI v) (hv9 : v ≤ 9) (hp : p ≤ v) : ∃ on' : Nat → Int32, F_H_putOn rings on om k (nI r) (nI p) = (on', upd om r (nI (v + 1))) ∧ qIns (10 * r) p v k on on' := by
  have e := nI_toInt (show r < 2147483648 by omega)
  have ev := nI_toInt (show v < 2147483648 by omega)
  rw [F_H_putOn_s, F_H_hasRing_s]
  simp only [q_manyO h h3, hv, show ¬ nI r < 0 from q_nlt.mpr (by rw [q0, e]; omega), show ¬ rings ≤ nI r from q_nle.mpr (by rw [e]; exact h), q_n1, show nI v < 10 from q_lt.mpr (by rw [ev, q10]; omega), qnI_s, q_keep3 h3, ↓reduceIte]
  exact q_putL (om2 := upd om r (nI (v + 1))) h h3 (if_pos rfl) hv9 _ v on (by omega) hp (Nat.le_refl _) ⟨fun _ _ => rfl, fun j a1 a2 => absurd a2 (by omega), fun _ _ => rfl⟩
theorem q_insL {on : Nat → Int32} {r v p : Nat} {k : Int32} (h3 : r < 3) (hv9 : v ≤ 9) (hs : on (95 + r) = nI v) : ∀ (f i : Nat) (g : Nat → Int32), ((nI i).toInt + 2147483648).toNat < f → p ≤ i → i ≤ v → qUp (98 + 10 * r) i v on g → ∃ on' : Nat → Int32, F_r_insert_L11a k (nI r) (nI p) f (nI i) g = upd on' (95 + r) (nI (v + 1)) ∧ qIns (98 + 10 * r) p v k on on' := by
  intro f
  induction f with
  | zero => intro i g hf; exact absurd hf (Nat.not_lt_zero _)
  | succ f ih =>
    intro i g hf hp hi hg
    have e := nI_toInt (show i < 2147483648 by omega)
    have ep := nI_toInt (show p < 2147483648 by omega)
    have y0 : ((98 : Int32) + 10 * nI r + nI p).toNatClampNeg = 98 + 10 * r + p := by
      show (nI 98 + nI 10 * nI r + nI p).toNatClampNeg = _
      rw [qnI_mul, nI_add, nI_add, qnI_cl (by omega)]
    have y1 : ((95 : Int32) + nI r).toNatClampNeg = 95 + r := q_adn (a := 95) (by omega)
    rw [F_r_insert_L11a_s]
    by_cases c : i = p
    · subst c
      have hx := qUp_end (k := k) hg hi hv9
      have hsz : upd g (98 + 10 * r + i) k (95 + r) = nI v := (hx.2.2.2 (95 + r) (by omega)).trans hs
      simp only [show nI i ≤ nI i from q_le.mpr (Int.le_refl _), y0, y1, hsz, qnI_s, ↓reduceIte]
      exact ⟨_, rfl, hx⟩
    · obtain ⟨i, rfl⟩ : ∃ q, i = q + 1 := ⟨i - 1, by omega⟩
      have e2 := nI_toInt (show i < 2147483648 by omega)
      have e3 : nI (i + 1) + (-1) = nI i := (Int32.sub_eq_add_neg (nI (i + 1)) 1).symm.trans (qnI_sub1 i)
      have z1 : (98 : Int32) + 10 * nI r + nI (i + 1) = nI (98 + 10 * r + i + 1) := by
        show nI 98 + nI 10 * nI r + nI (i + 1) = _
        rw [qnI_mul, nI_add, nI_add]
        rfl
      have z2 : (nI (98 + 10 * r + i + 1)).toNatClampNeg = 98 + 10 * r + (i + 1) := by rw [qnI_cl (by omega)]; rfl
      have z3 : (nI (98 + 10 * r + i + 1) - 1).toNatClampNeg = 98 + 10 * r + i := by rw [qnI_sub1, qnI_cl (by omega)]
      simp only [show ¬ nI (i + 1) ≤ nI p from q_nle.mpr (by rw [e, ep]; omega), e3, z1, z2, z3, ↓reduceIte]
      exact ih i _ (by omega) (by omega) (by omega) (qUp_step hg hi hv9)
theorem q_insR {g : Nat → Int32} {r v p : Nat} {k : Int32} (h3 : r < 3) (hv : g (95 + r) = nI v) (hv9 : v ≤ 9) (hp : p ≤ v) : ∃ g' : Nat → Int32, F_r_insert g k (nI r) (nI p) = upd g' (95 + r) (nI (v + 1)) ∧ qIns (98 + 10 * r) p v k g g' := by
  have y1 : ((95 : Int32) + nI r).toNatClampNeg = 95 + r := q_adn (a := 95) (by omega)
  have ev := nI_toInt (show v < 2147483648 by omega)
  rw [F_r_insert_s]
  simp only [y1, hv]
  exact q_insL h3 hv9 hv _ v g (by omega) hp (Nat.le_refl _) ⟨fun _ _ => rfl, fun j a1 a2 => absurd a2 (by omega), fun _ _ => rfl⟩
