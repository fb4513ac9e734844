theorem qnI_mul (a b : Nat) : nI a * nI b = nI (a * b) := (Int32.ofNat_mul a b).symm
theorem qnI_sub1 (a : Nat) : nI (a + 1) - 1 = nI a := by
  rw [← nI_add a 1]
  show nI a + 1 - 1 = nI a
  rw [Int32.sub_eq_add_neg, Int32.add_assoc, show (1 : Int32) + -1 = 0 by decide +kernel, Int32.add_zero]
theorem qnI_cl {a : Nat} (h : a < 2147483648) : (nI a).toNatClampNeg = a := by
  show (nI a).toInt.toNat = a
  rw [nI_toInt (by omega)]
  omega
theorem q_felt {g : Nat → Int32} {f s v : Nat} {c : Int32} (hf : f < 3) (hs : s < 4) (hv : v < 4) : F_H_setFeltAs g (nI f) (nI s) (nI v) c = upd g (16 * f + 4 * s + v) c := by
  rw [F_H_setFeltAs_s]
  have e : (nI f * 4 + nI s) * 4 + nI v = nI (16 * f + 4 * s + v) := by
    show (nI f * nI 4 + nI s) * nI 4 + nI v = nI (16 * f + 4 * s + v)
    rw [qnI_mul, nI_add, qnI_mul, nI_add]
    congr 1
    omega
  have e1 : (nI (16 * f + 4 * s + v)).toInt = ((16 * f + 4 * s + v : Nat) : Int) := nI_toInt (by omega)
  have h0 : ¬ nI (16 * f + 4 * s + v) < 0 := by rw [q_nlt, q0, e1]; omega
  have h1 : ¬ (48 : Int32) ≤ nI (16 * f + 4 * s + v) := by rw [q_nle, e1, q48]; omega
  simp only [e, F_keepAt_48_s, h0, h1, ↓reduceIte]
  rw [qnI_cl (by omega)]
theorem qnI_eq {a b : Nat} (ha : a < 100) (hb : b < 100) : nI a = nI b ↔ a = b := by
  rw [q_eq, nI_toInt (by omega), nI_toInt (by omega)]
  omega
theorem qnI_le {a b : Nat} (ha : a < 2147483648) (hb : b < 2147483648) : nI a ≤ nI b ↔ a ≤ b := by
  rw [q_le, nI_toInt (by omega), nI_toInt (by omega)]
  omega
theorem qnI_s (a : Nat) : nI a + 1 = nI (a + 1) := nI_add a 1
def qFl (f : Nat) (lo : Nat) (g g' : Nat → Int32) : Prop := ∀ i : Nat, g' i = if 16 * f + lo ≤ i ∧ i < 16 * f + 16 then (if (i - 16 * f) % 5 = 0 then 16 else 0) else g i
theorem q_L67 {f s : Nat} (hf : f < 3) (hs : s < 4) (G : Int32 → (Nat → Int32) → (Int32 × (Nat → Int64) × (Nat → Int32) × (Nat → Int32) × (Nat → Int32))) : ∀ (n v : Nat) (g : Nat → Int32), (2147483647 - (nI v).toInt).toNat < n → v ≤ 4 → ∃ g' : Nat → Int32, F_H_addFeature_L67a (nI (f + 1)) (nI s) G n (nI v) g = G (nI s + 1) g' ∧ ∀ i : Nat, g' i = if 16 * f + 4 * s + v ≤ i ∧ i < 16 * f + 4 * s + 4 then (if (i - 16 * f) % 5 = 0 then 16 else 0) else g i := by
  intro n
  induction n with
  | zero => intro v g h; exact absurd h (Nat.not_lt_zero _)
  | succ n ih =>
    intro v g h1 h2
    rw [F_H_addFeature_L67a_s, qnI_sub1]
    have e1 : (nI v).toInt = (v : Int) := nI_toInt (by omega)
    by_cases h4 : v = 4
    · subst h4
      refine ⟨g, if_pos (by decide +kernel), fun i => ?_⟩
      rw [if_neg (by omega)]
    · have hc : ¬ (4 : Int32) ≤ nI v := by rw [q_nle, e1, q4]; omega
      have e2 : (nI (v + 1)).toInt = ((v + 1 : Nat) : Int) := nI_toInt (by omega)
      simp only [hc, qnI_eq (show s < 100 by omega) (show v < 100 by omega), q_felt hf hs (show v < 4 by omega), qnI_s v, ↓reduceIte]
      by_cases hsv : s = v
      · simp only [hsv, ↓reduceIte]
        rw [← hsv]
        obtain ⟨g', a1, a2⟩ := ih (s + 1) (upd g (16 * f + 4 * s + s) 16) (by rw [hsv]; omega) (by omega)
        refine ⟨g', a1, fun i => ?_⟩
        rw [a2 i]
        unfold upd
        by_cases c : i = 16 * f + 4 * s + s
        · rw [if_neg (by omega), if_pos c, if_pos (by omega), if_pos (by omega)]
        · by_cases c2 : 16 * f + 4 * s + (s + 1) ≤ i ∧ i < 16 * f + 4 * s + 4
          · rw [if_pos c2]; exact (if_pos (by omega)).symm
          · rw [if_neg c2, if_neg c, if_neg (by omega)]
      · simp only [hsv, ↓reduceIte]
        obtain ⟨g', a1, a2⟩ := ih (v + 1) (upd g (16 * f + 4 * s + v) 0) (by omega) (by omega)
        refine ⟨g', a1, fun i => ?_⟩
        rw [a2 i]
        unfold upd
        by_cases c : i = 16 * f + 4 * s + v
        · rw [if_neg (by omega), if_pos c, if_pos (by omega), if_neg (by omega)]
        · by_cases c2 : 16 * f + 4 * s + (v + 1) ≤ i ∧ i < 16 * f + 4 * s + 4
          · rw [if_pos c2]; exact (if_pos (by omega)).symm
          · rw [if_neg c2, if_neg c, if_neg (by omega)]
theorem q_67b : F_H_addFeature_L67b = F_H_addFeature_L67a := rfl
theorem q_58b : F_H_addFeature_L58b = F_H_addFeature_L58a := rfl
theorem q_L58 {f : Nat} (hf : f < 3) (fn : Nat → Int64) (st tf : Nat → Int32) : ∀ (n s : Nat) (g : Nat → Int32), (2147483647 - (nI s).toInt).toNat < n → s ≤ 4 → ∃ g' : Nat → Int32, F_H_addFeature_L58a fn st tf (nI (f + 1)) n (nI s) g = (nI (f + 1), fn, st, tf, g') ∧ qFl f (4 * s) g g' := by
  intro n
  induction n with
  | zero => intro s g h; exact absurd h (Nat.not_lt_zero _)
  | succ n ih =>
    intro s g h1 h2
    rw [F_H_addFeature_L58a_s]
    have e1 : (nI s).toInt = (s : Int) := nI_toInt (by omega)
    by_cases h4 : s = 4
    · subst h4
      refine ⟨g, if_pos (by decide +kernel), fun i => ?_⟩
      rw [if_neg (by omega)]
    · have hc : ¬ (4 : Int32) ≤ nI s := by rw [q_nle, e1, q4]; omega
      have e2 : (nI (s + 1)).toInt = ((s + 1 : Nat) : Int) := nI_toInt (by omega)
      rw [if_neg hc]
      obtain ⟨g1, a1, a2⟩ := q_L67 hf (show s < 4 by omega) (F_H_addFeature_L58a fn st tf (nI (f + 1)) n) ((2147483647 - (0 : Int32).toInt).toNat + 1) 0 g (by show (2147483647 - (0 : Int32).toInt).toNat < _; omega) (by omega)
      have a1 : F_H_addFeature_L67a (nI (f + 1)) (nI s) (F_H_addFeature_L58a fn st tf (nI (f + 1)) n) ((2147483647 - (0 : Int32).toInt).toNat + 1) 0 g = F_H_addFeature_L58a fn st tf (nI (f + 1)) n (nI s + 1) g1 := a1
      rw [a1, qnI_s]
      obtain ⟨g', b1, b2⟩ := ih (s + 1) g1 (by omega) (by omega)
      refine ⟨g', b1, fun i => ?_⟩
      rw [b2 i, a2 i]
      by_cases c : 16 * f + 4 * (s + 1) ≤ i ∧ i < 16 * f + 16
      · rw [if_pos c]; exact (if_pos (by omega)).symm
      · rw [if_neg c]
        by_cases c2 : 16 * f + 4 * s + 0 ≤ i ∧ i < 16 * f + 4 * s + 4
        · rw [if_pos c2]; exact (if_pos (by omega)).symm
        · rw [if_neg c2, if_neg (by omega)]
theorem q_kp3 {g : Nat → Int32} {f : Nat} {v : Int32} (hf : f < 3) : F_keepAt_3 g (nI f) v = upd g f v := by
  have e1 : (nI f).toInt = (f : Int) := nI_toInt (by omega)
  rw [F_keepAt_3_s, if_neg (by rw [q_nlt, q0, e1]; omega), if_neg (by rw [q_nle, e1, show (3 : Int32).toInt = 3 by decide +kernel]; omega)]
  show upd g (nI f).toNatClampNeg v = _
  rw [qnI_cl (by omega)]
theorem q_kl3 {g : Nat → Int64} {f : Nat} {v : Int64} (hf : f < 3) : F_keepLongAt_3 g (nI f) v = vp_updL g f v := by
  have e1 : (nI f).toInt = (f : Int) := nI_toInt (by omega)
  rw [F_keepLongAt_3_s, if_neg (by rw [q_nlt, q0, e1]; omega), if_neg (by rw [q_nle, e1, show (3 : Int32).toInt = 3 by decide +kernel]; omega)]
  show vp_updL g (nI f).toNatClampNeg v = _
  rw [qnI_cl (by omega)]
theorem q_addF {f : Nat} (hf : f < 3) (fn : Nat → Int64) (st tf six : Nat → Int32) (wd : Int64) (steps k : Int32) (hk : k = 0 ∨ k = 1) : ∃ six' : Nat → Int32, F_H_addFeature (nI f) fn st tf six wd steps k = (nI (f + 1), vp_updL fn f wd, upd st f steps, upd tf f k, six') ∧ qFl f 0 six six' := by
  rw [F_H_addFeature_s]
  simp only [q_kp3 hf, q_kl3 hf, qnI_s]
  rcases hk with rfl | rfl
  · obtain ⟨g', a1, a2⟩ := q_L58 hf (vp_updL fn f wd) (upd st f steps) (upd tf f 0) ((2147483647 - (0 : Int32).toInt).toNat + 1) 0 six (by show (2147483647 - (0 : Int32).toInt).toNat < _; omega) (by omega)
    exact ⟨g', (if_pos rfl).trans a1, a2⟩
  · obtain ⟨g', a1, a2⟩ := q_L58 hf (vp_updL fn f wd) (upd st f steps) (upd tf f 1) ((2147483647 - (0 : Int32).toInt).toNat + 1) 0 six (by show (2147483647 - (0 : Int32).toInt).toNat < _; omega) (by omega)
    refine ⟨g', (if_neg (by decide)).trans ?_, a2⟩
    rw [q_58b]
    exact a1
theorem q_rem5 : ∀ j : Nat, j < 16 → ((nI j - nI j / 5 * 5 = 0) ↔ j % 5 = 0) := by decide +kernel
theorem q_137b : F_r_readFeature_L137b = F_r_readFeature_L137a := rfl
theorem q_L137 {k : Nat} (hk : k < 3) (hFe : Nat → Int32) (m1 m2 m3 m4 m5 m6 m7 : Int32) (m8 : Int64) (w : Nat → Int64) : ∀ (n v : Nat) (g : Nat → Int32), (2147483647 - (nI v).toInt).toNat < n → v ≤ 16 → ∃ g' : Nat → Int32, F_r_readFeature_L137a hFe (nI k) m1 m2 m3 m4 m5 m6 m7 m8 w n (nI v) g = (m1, m2, m3, m4, m5, m6, m7, m8, upd g' 1460 (g' 1460 + 1), w, upd hFe k (vp_nar .boolean 0)) ∧ ∀ i : Nat, g' i = if 1477 + 16 * k + v ≤ i ∧ i < 1477 + 16 * k + 16 then (if (i - 1477 - 16 * k) % 5 = 0 then 16 else 0) else g i := by
  intro n
  induction n with
  | zero => intro v g h; exact absurd h (Nat.not_lt_zero _)
  | succ n ih =>
    intro v g h1 h2
    rw [F_r_readFeature_L137a_s]
    have e1 : (nI v).toInt = (v : Int) := nI_toInt (by omega)
    by_cases h16 : v = 16
    · subst h16
      refine ⟨g, ?_, fun i => by rw [if_neg (by omega)]⟩
      rw [if_pos (by decide +kernel)]
      simp only [qc_1460, qnI_cl (show k < 2147483648 by omega)]
    · have hc : ¬ (16 : Int32) ≤ nI v := by rw [q_nle, e1, show (16 : Int32).toInt = 16 by decide +kernel]; omega
      have e2 : (nI (v + 1)).toInt = ((v + 1 : Nat) : Int) := nI_toInt (by omega)
      have ex : ((1477 : Int32) + 16 * nI k + nI v).toNatClampNeg = 1477 + 16 * k + v := by
        have : (1477 : Int32) + 16 * nI k + nI v = nI (1477 + 16 * k + v) := by
          show nI 1477 + nI 16 * nI k + nI v = _
          rw [qnI_mul, nI_add, nI_add]
        rw [this, qnI_cl (by omega)]
      simp only [hc, ex, q_rem5 v (by omega), qnI_s v, ↓reduceIte]
      by_cases h5 : v % 5 = 0
      · simp only [h5, ↓reduceIte]
        obtain ⟨g', a1, a2⟩ := ih (v + 1) (upd g (1477 + 16 * k + v) 16) (by omega) (by omega)
        refine ⟨g', a1, fun i => ?_⟩
        rw [a2 i]
        unfold upd
        by_cases c : i = 1477 + 16 * k + v
        · rw [if_neg (by omega), if_pos c, if_pos (by omega), if_pos (by omega)]
        · by_cases c2 : 1477 + 16 * k + (v + 1) ≤ i ∧ i < 1477 + 16 * k + 16
          · rw [if_pos c2]; exact (if_pos (by omega)).symm
          · rw [if_neg c2, if_neg c, if_neg (by omega)]
      · simp only [h5, ↓reduceIte]
        obtain ⟨g', a1, a2⟩ := ih (v + 1) (upd g (1477 + 16 * k + v) 0) (by omega) (by omega)
        refine ⟨g', a1, fun i => ?_⟩
        rw [a2 i]
        unfold upd
        by_cases c : i = 1477 + 16 * k + v
        · rw [if_neg (by omega), if_pos c, if_pos (by omega), if_neg (by omega)]
        · by_cases c2 : 1477 + 16 * k + (v + 1) ≤ i ∧ i < 1477 + 16 * k + 16
          · rw [if_pos c2]; exact (if_pos (by omega)).symm
          · rw [if_neg c2, if_neg c, if_neg (by omega)]
