def qb (T : Nat → Int32) (j : Nat) : Int := (T j &&& 255).toInt
def qe (T : Nat → Int32) (s : Nat) : Nat → Int
  | 0 => 0
  | k + 1 => qe T s k * 32 + (qb T (s + k) - 96)
def qL (T : Nat → Int32) (s k : Nat) : Prop := ∀ j : Nat, s ≤ j → j < s + k → 97 ≤ qb T j ∧ qb T j ≤ 122
theorem qL_0 {T : Nat → Int32} {s : Nat} : qL T s 0 := fun j h1 h2 => by omega
theorem qL_s {T : Nat → Int32} {s k : Nat} (h : qL T s k) (h1 : 97 ≤ qb T (s + k) ∧ qb T (s + k) ≤ 122) : qL T s (k + 1) := fun j a b => by
  rcases Nat.lt_or_ge j (s + k) with c | c
  · exact h j a c
  · have e : j = s + k := by omega
    rw [e]; exact h1
theorem qe_b {T : Nat → Int32} {s : Nat} : ∀ k : Nat, qL T s k → 0 ≤ qe T s k ∧ qe T s k ≤ (32 : Int) ^ k - 1 ∧ (1 ≤ k → 1 ≤ qe T s k) := by
  intro k
  induction k with
  | zero => intro _; refine ⟨by show (0 : Int) ≤ 0; omega, by show (0 : Int) ≤ (32 : Int) ^ 0 - 1; decide +kernel, fun h => absurd h (by omega)⟩
  | succ k ih =>
    intro h
    have h1 := ih (fun j a b => h j a (by omega))
    have hd := h (s + k) (by omega) (by omega)
    rw [Int.pow_succ]
    show 0 ≤ qe T s k * 32 + (qb T (s + k) - 96) ∧ qe T s k * 32 + (qb T (s + k) - 96) ≤ (32 : Int) ^ k * 32 - 1 ∧ (1 ≤ k + 1 → 1 ≤ qe T s k * 32 + (qb T (s + k) - 96))
    generalize (32 : Int) ^ k = P at h1 ⊢
    omega
theorem qe_8 {T : Nat → Int32} {s k : Nat} (hk : k ≤ 8) (h : qL T s k) : qe T s k ≤ 1099511627775 := by
  have h1 := (qe_b k h).2.1
  have h2 : (32 : Int) ^ k ≤ 1099511627776 := by
    rcases (show k = 0 ∨ k = 1 ∨ k = 2 ∨ k = 3 ∨ k = 4 ∨ k = 5 ∨ k = 6 ∨ k = 7 ∨ k = 8 by omega) with rfl | rfl | rfl | rfl | rfl | rfl | rfl | rfl | rfl <;> decide +kernel
  omega
theorem q_wd {w : Int64} {r : Int32} (h0 : 0 ≤ w.toInt) (h1 : w.toInt ≤ 1099511627775) (h2 : 0 ≤ r.toInt) (h3 : r.toInt ≤ 255) : (w * 32 + r.toInt64 - 96).toInt = w.toInt * 32 + (r.toInt - 96) := by
  have k32 : (32 : Int64).toInt = 32 := by decide +kernel
  have k96 : (96 : Int64).toInt = 96 := by decide +kernel
  have e1 : (w * 32).toInt = w.toInt * 32 := z_mulql rfl rfl k32 (by omega) (by omega)
  have e2 : (r.toInt64).toInt = r.toInt := z_i2l rfl
  have e3 : (w * 32 + r.toInt64).toInt = w.toInt * 32 + r.toInt := z_addql rfl e1 e2 (by omega) (by omega)
  have e4 := z_subql (z := w * 32 + r.toInt64 - 96) rfl e3 k96 (by omega) (by omega)
  omega
theorem q_97 (x : Int64) : x - 97 + 1 = x - 96 := by
  rw [Int64.sub_eq_add_neg, Int64.add_assoc, Int64.sub_eq_add_neg]
  exact congrArg (fun z => x + z) (by decide +kernel)
def qWd (T : Nat → Int32) (a b lt : Int32) (wd cl : Int64) : Prop := lt.toInt = b.toInt - a.toInt ∧ qL T a.toInt.toNat lt.toInt.toNat ∧ ((lt.toInt ≤ 8 ∧ cl = wd ∧ wd.toInt = qe T a.toInt.toNat lt.toInt.toNat) ∨ (8 < lt.toInt ∧ cl = 0 ∧ wd = -1))
theorem q_ltr (n s num : Int32) (T : Nat → Int32) (hn : n.toInt ≤ 900) (hs : 0 ≤ s.toInt) : ∀ (f1 f2 : Nat) (b : Int32) (cl wd : Int64), (2147483647 - b.toInt).toNat < f1 → (2147483647 - b.toInt).toNat < f2 → s.toInt ≤ b.toInt → b.toInt ≤ n.toInt → qL T s.toInt.toNat (b.toInt - s.toInt).toNat → ((b.toInt - s.toInt ≤ 8 ∧ cl = wd ∧ wd.toInt = qe T s.toInt.toNat (b.toInt - s.toInt).toNat) ∨ (8 < b.toInt - s.toInt ∧ wd = -1)) → ∃ (b1 : Int32) (cl1 wd1 : Int64), F_Te_readLetters_L5a n s T f1 b cl = (b1, cl1) ∧ F_r_next2_L109a n num T s f2 b wd = (1, s, b1, num, b1 - s, wd1) ∧ b.toInt ≤ b1.toInt ∧ b1.toInt ≤ n.toInt ∧ (¬ F_r_isLetter (F_r_look2 n T b) = 0 → b.toInt < b1.toInt) ∧ qWd T s b1 (b1 - s) wd1 cl1 := by
  intro f1
  induction f1 with
  | zero => intro f2 b cl wd h; exact absurd h (Nat.not_lt_zero _)
  | succ f1 ih =>
    intro f2 b cl wd h1 h2 hsb hbn hL hw
    cases f2 with
    | zero => exact absurd h2 (Nat.not_lt_zero _)
    | succ f2 =>
      rw [F_r_next2_L109a_s, F_Te_readLetters_L5a_s]
      have hb0 : 0 ≤ b.toInt := by omega
      have hd0 : F_r_isLetter 0 = 0 := by decide +kernel
      have hbs := q_sub (a := b) (b := s) (by omega) (by omega)
      have hend : ∃ (b1 : Int32) (cl1 wd1 : Int64), (if b - s ≤ 8 then (b, cl) else (b, (0 : Int64))) = (b1, cl1) ∧ ((1 : Int32), s, b, num, b - s, wd) = (1, s, b1, num, b1 - s, wd1) ∧ b.toInt ≤ b1.toInt ∧ b1.toInt ≤ n.toInt ∧ qWd T s b1 (b1 - s) wd1 cl1 := by
        by_cases h8 : b - s ≤ 8
        · refine ⟨b, cl, wd, if_pos h8, rfl, by omega, hbn, ?_⟩
          rw [q_le, q8, hbs] at h8
          refine ⟨hbs, by rw [hbs]; exact hL, ?_⟩
          rcases hw with hw | hw
          · exact Or.inl ⟨by omega, hw.2.1, by rw [hbs]; exact hw.2.2⟩
          · exact absurd hw.1 (by omega)
        · refine ⟨b, 0, wd, if_neg h8, rfl, by omega, hbn, ?_⟩
          rw [q_nle, q8, hbs] at h8
          refine ⟨hbs, by rw [hbs]; exact hL, ?_⟩
          rcases hw with hw | hw
          · exact absurd hw.1 (by omega)
          · exact Or.inr ⟨by omega, rfl, hw.2⟩
      by_cases h : n ≤ b
      · simp only [h, q_look0 h, hd0, ↓reduceIte]
        obtain ⟨b1, cl1, wd1, e1, e2, e3, e4, e5⟩ := hend
        exact ⟨b1, cl1, wd1, e1, e2, e3, e4, fun h9 => absurd trivial h9, e5⟩
      · simp only [h, q_byte1 hb0 hn h, q_isLetter, ↓reduceIte]
        by_cases hd : F_r_isLetter (F_r_look2 n T b) = 0
        · simp only [hd, ↓reduceIte]
          obtain ⟨b1, cl1, wd1, e1, e2, e3, e4, e5⟩ := hend
          exact ⟨b1, cl1, wd1, e1, e2, e3, e4, fun h9 => absurd trivial h9, e5⟩
        · have hdd := q_let1 hd
          have hlt : b.toInt < n.toInt := by rw [q_nle] at h; exact h
          have hb1 := q_inc (a := b) (by omega)
          have hqb : qb T (s.toInt.toNat + (b.toInt - s.toInt).toNat) = (F_r_look2 n T b).toInt := by
            rw [q_look1 h, show s.toInt.toNat + (b.toInt - s.toInt).toNat = b.toInt.toNat by omega]; rfl
          have hk : ((b + 1).toInt - s.toInt).toNat = (b.toInt - s.toInt).toNat + 1 := by omega
          have hL1 : qL T s.toInt.toNat ((b + 1).toInt - s.toInt).toNat := by
            rw [hk]; exact qL_s hL (by rw [hqb]; exact hdd)
          simp only [hd, ↓reduceIte]
          by_cases h8 : (8 : Int32) ≤ b - s
          · have h8' := h8
            rw [q_le, q8, hbs] at h8'
            simp only [h8, ↓reduceIte]
            obtain ⟨b1, cl1, wd1, e1, e2, e3, e4, -, e5⟩ := ih f2 (b + 1) cl (-1) (by omega) (by omega) (by omega) (by omega) hL1 (Or.inr ⟨by omega, rfl⟩)
            exact ⟨b1, cl1, wd1, e1, e2, by omega, e4, fun _ => by omega, e5⟩
          · have h8' := h8
            rw [q_nle, q8, hbs] at h8'
            simp only [h8, ↓reduceIte]
            obtain ⟨-, ec, ew⟩ := hw.resolve_right (fun h9 => absurd h9.1 (by omega))
            have hqe := qe_b _ hL
            have hq8 := qe_8 (k := (b.toInt - s.toInt).toNat) (by omega) hL
            have ewd := q_wd (w := wd) (r := F_r_look2 n T b) (by omega) (by omega) (by omega) (by omega)
            rw [ec, q_97]
            obtain ⟨b1, cl1, wd1, e1, e2, e3, e4, -, e5⟩ := ih f2 (b + 1) (wd * 32 + (F_r_look2 n T b).toInt64 - 96) (wd * 32 + (F_r_look2 n T b).toInt64 - 96) (by omega) (by omega) (by omega) (by omega) hL1 (Or.inl ⟨by omega, rfl, by rw [hk, ewd, ew]; show _ = qe T s.toInt.toNat (b.toInt - s.toInt).toNat * 32 + (qb T (s.toInt.toNat + (b.toInt - s.toInt).toNat) - 96); rw [hqb]⟩)
            exact ⟨b1, cl1, wd1, e1, e2, by omega, e4, fun _ => by omega, e5⟩
