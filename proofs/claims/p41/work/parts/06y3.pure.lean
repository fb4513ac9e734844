def qTk (n : Int32) (T : Nat → Int32) (tok a b num lt : Int32) (wd : Int64) (cs cn : Int32) (cl : Int64) : Prop := 0 ≤ a.toInt ∧ a.toInt ≤ b.toInt ∧ b.toInt ≤ n.toInt ∧ (tok = 0 ∨ tok = 1 ∨ tok = 2 ∨ tok = 3 ∨ tok = 4) ∧ (tok = 0 → a = n) ∧ (¬ tok = 0 → a.toInt < b.toInt) ∧ (tok = 2 → cn = num ∧ 0 ≤ num.toInt ∧ num.toInt ≤ 9999) ∧ (tok = 3 → cs = num) ∧ (tok = 1 → 1 ≤ lt.toInt ∧ qWd T a b lt wd cl)
def qAd (n : Int32) (T : Nat → Int32) (v : Int32) (C M : Int32 × Int32 × Int32 × Int32 × Int32 × Int64) : Prop := C.1 = M.1 ∧ C.2.1 = M.2.1 ∧ C.2.2.1 = M.2.2.1 ∧ v.toInt ≤ M.2.1.toInt ∧ qTk n T M.1 M.2.1 M.2.2.1 M.2.2.2.1 M.2.2.2.2.1 M.2.2.2.2.2 C.2.2.2.1 C.2.2.2.2.1 C.2.2.2.2.2
theorem qTk_0 {n : Int32} {T : Nat → Int32} {v num lt cs cn : Int32} {wd cl : Int64} (h0 : 0 ≤ v.toInt) (h : v = n) : qTk n T 0 v v num lt wd cs cn cl := ⟨h0, Int.le_refl _, by rw [h]; exact Int.le_refl _, Or.inl rfl, fun _ => h, fun h9 => absurd rfl h9, fun h9 => absurd h9 (by decide), fun h9 => absurd h9 (by decide), fun h9 => absurd h9 (by decide)⟩
theorem qTk_4 {n : Int32} {T : Nat → Int32} {v b num lt cs cn : Int32} {wd cl : Int64} (h0 : 0 ≤ v.toInt) (h : v.toInt < b.toInt) (h1 : b.toInt ≤ n.toInt) : qTk n T 4 v b num lt wd cs cn cl := ⟨h0, by omega, h1, Or.inr (Or.inr (Or.inr (Or.inr rfl))), fun h9 => absurd h9 (by decide), fun _ => h, fun h9 => absurd h9 (by decide), fun h9 => absurd h9 (by decide), fun h9 => absurd h9 (by decide)⟩
theorem qTk_3 {n : Int32} {T : Nat → Int32} {v b num lt cn : Int32} {wd cl : Int64} (h0 : 0 ≤ v.toInt) (h : v.toInt < b.toInt) (h1 : b.toInt ≤ n.toInt) : qTk n T 3 v b num lt wd num cn cl := ⟨h0, by omega, h1, Or.inr (Or.inr (Or.inr (Or.inl rfl))), fun h9 => absurd h9 (by decide), fun _ => h, fun h9 => absurd h9 (by decide), fun _ => rfl, fun h9 => absurd h9 (by decide)⟩
theorem qTk_2 {n : Int32} {T : Nat → Int32} {v b num lt cs : Int32} {wd cl : Int64} (h0 : 0 ≤ v.toInt) (h : v.toInt < b.toInt) (h1 : b.toInt ≤ n.toInt) (h2 : 0 ≤ num.toInt) (h3 : num.toInt ≤ 9999) : qTk n T 2 v b num lt wd cs num cl := ⟨h0, by omega, h1, Or.inr (Or.inr (Or.inl rfl)), fun h9 => absurd h9 (by decide), fun _ => h, fun _ => ⟨rfl, h2, h3⟩, fun h9 => absurd h9 (by decide), fun h9 => absurd h9 (by decide)⟩
theorem qTk_1 {n : Int32} {T : Nat → Int32} {v b num lt cs cn : Int32} {wd cl : Int64} (h0 : 0 ≤ v.toInt) (h : v.toInt < b.toInt) (h1 : b.toInt ≤ n.toInt) (h2 : 1 ≤ lt.toInt) (h3 : qWd T v b lt wd cl) : qTk n T 1 v b num lt wd cs cn cl := ⟨h0, by omega, h1, Or.inr (Or.inl rfl), fun h9 => absurd h9 (by decide), fun _ => h, fun h9 => absurd h9 (by decide), fun h9 => absurd h9 (by decide), fun _ => ⟨h2, h3⟩⟩
theorem q_210b : F_r_next2_L210b = F_r_next2_L210a := rfl
theorem q_109b : F_r_next2_L109b = F_r_next2_L109a := rfl
theorem q_blank {x : Int32} : F_Te_isBlank x = 0 ↔ (¬ x = 10 ∧ ¬ x = 32) := by
  unfold F_Te_isBlank
  by_cases h : x = 10
  · rw [if_pos h]; exact ⟨fun h9 => absurd h9 (by decide), fun h9 => absurd h h9.1⟩
  · rw [if_neg h]
    by_cases h2 : x = 32
    · rw [if_pos h2]; exact ⟨fun h9 => absurd h9 (by decide), fun h9 => absurd h2 h9.2⟩
    · rw [if_neg h2]; exact ⟨fun _ => ⟨h, h2⟩, fun _ => rfl⟩
theorem q_adv0 (n : Int32) (T : Nat → Int32) (num lt cs cn : Int32) (wd cl : Int64) (hn : n.toInt ≤ 900) : ∀ (f1 f2 : Nat) (v : Int32), (2147483647 - v.toInt).toNat < f1 → (2147483647 - v.toInt).toNat < f2 → 0 ≤ v.toInt → v.toInt ≤ n.toInt → qAd n T v (F_Te_advance_L8a n cn cs cl T f1 v) (F_r_next2_L8a n num lt wd T f2 v) := by
  intro f1
  induction f1 with
  | zero => intro f2 v h; exact absurd h (Nat.not_lt_zero _)
  | succ f1 ih =>
    intro f2 v h1 h2 hv hvn
    cases f2 with
    | zero => exact absurd h2 (Nat.not_lt_zero _)
    | succ f2 =>
      rw [F_Te_advance_L8a_s, F_r_next2_L8a_s]
      by_cases h : n ≤ v
      · have hlt : ¬ v < n := by rw [q_nlt]; exact q_le.mp h
        simp only [h, hlt, q_byte0 hv hn h, ↓reduceIte]
        rw [q_le] at h
        have hvn' : v = n := q_eq.mpr (by omega)
        exact ⟨rfl, rfl, rfl, Int.le_refl _, qTk_0 hv hvn'⟩
      · have hlt : v < n := by rw [q_lt]; exact q_nle.mp h
        have hlt' := q_lt.mp hlt
        have hr := q_look (n := n) (k := v) (T := T)
        have hr1 : ¬ F_r_look2 n T v = -1 := fun h9 => by rw [h9, q_1] at hr; omega
        have hv1 := q_inc (a := v) (by omega)
        have hA : v.toInt < (v + 1).toInt := by omega
        have hB : (v + 1).toInt ≤ n.toInt := by omega
        simp only [h, hlt, q_byte1 hv hn h, hr1, q_isLetter, q_isDigit, q_isSignB, ↓reduceIte]
        by_cases hb : F_Te_isBlank (F_r_look2 n T v) = 0
        · have hb2 := q_blank.mp hb
          simp only [hb, hb2.1, hb2.2, ↓reduceIte]
          by_cases hl : F_r_isLetter (F_r_look2 n T v) = 0
          · by_cases hd : F_r_isDigit (F_r_look2 n T v) = 0
            · by_cases hs : F_r_isSignByte (F_r_look2 n T v) = 0
              · simp only [hl, hd, hs, ↓reduceIte]
                exact ⟨rfl, rfl, rfl, Int.le_refl _, qTk_4 hv hA hB⟩
              · simp only [hl, hd, hs, ↓reduceIte]
                exact ⟨rfl, rfl, rfl, Int.le_refl _, qTk_3 hv hA hB⟩
            · simp only [hl, hd, ↓reduceIte]
              obtain ⟨k1, e1, v1, a1, a2, a3, a4, a5, a6, a7, a8⟩ := q_dig n v lt wd T hn hv ((2147483647 - v.toInt).toNat + 1) ((2147483647 - v.toInt).toNat + 1) v 0 (by omega) (by omega) (by omega) (by omega) (by unfold q_pw; rw [q0]; omega)
              have a5 := a5 hd
              rw [q_210b, a2, F_Te_readDigits_s, a1]
              refine ⟨rfl, rfl, rfl, Int.le_refl _, ?_⟩
              rcases a6 with rfl | rfl
              · exact qTk_2 hv a5 a4 a7 a8
              · exact qTk_4 hv a5 a4
          · simp only [hl, ↓reduceIte]
            obtain ⟨b1, cl1, wd1, e1, e2, e3, e4, e5, e6⟩ := q_ltr n v num T hn hv ((2147483647 - v.toInt).toNat + 1) ((2147483647 - v.toInt).toNat + 1) v 0 0 (by omega) (by omega) (by omega) (by omega) (by rw [show (v.toInt - v.toInt).toNat = 0 by omega]; exact qL_0) (Or.inl ⟨by omega, rfl, by rw [show (v.toInt - v.toInt).toNat = 0 by omega]; rfl⟩)
            have e5 := e5 hl
            rw [q_109b, e2, F_Te_readLetters_s, e1]
            refine ⟨rfl, rfl, rfl, Int.le_refl _, ?_⟩
            have hbv := e6.1
            have hl1 : 1 ≤ (b1 - v).toInt := by omega
            exact qTk_1 hv e5 e4 hl1 e6
        · have ih1 := ih f2 (v + 1) (by omega) (by omega) (by omega) (by omega)
          have hgo : qAd n T v (F_Te_advance_L8a n cn cs cl T f1 (v + 1)) (F_r_next2_L8a n num lt wd T f2 (v + 1)) := ⟨ih1.1, ih1.2.1, ih1.2.2.1, by have := ih1.2.2.2.1; omega, ih1.2.2.2.2⟩
          simp only [hb, ↓reduceIte]
          by_cases h10 : F_r_look2 n T v = 10
          · rw [if_pos h10]; exact hgo
          · have h32 : F_r_look2 n T v = 32 := Classical.byContradiction fun h9 => hb (q_blank.mpr ⟨h10, h9⟩)
            rw [if_neg h10, if_pos h32]
            exact hgo
theorem q_adv {n : Int32} {T : Nat → Int32} {v num lt cs cn : Int32} {wd cl : Int64} (hn : n.toInt ≤ 900) (hv : 0 ≤ v.toInt) (hvn : v.toInt ≤ n.toInt) : qAd n T v (F_Te_advance n v cn cs cl T) (F_r_next2 n v num lt wd T) := by
  rw [F_Te_advance_s, F_r_next2_s]
  exact q_adv0 n T num lt cs cn wd cl hn _ _ v (by omega) (by omega) hv hvn
