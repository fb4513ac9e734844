theorem q_lt {a b : Int32} : a < b ↔ a.toInt < b.toInt := Int32.lt_iff_toInt_lt
theorem q_le {a b : Int32} : a ≤ b ↔ a.toInt ≤ b.toInt := Int32.le_iff_toInt_le
theorem q_nlt {a b : Int32} : ¬ a < b ↔ b.toInt ≤ a.toInt := by rw [q_lt]; omega
theorem q_nle {a b : Int32} : ¬ a ≤ b ↔ b.toInt < a.toInt := by rw [q_le]; omega
theorem q_eq {a b : Int32} : a = b ↔ a.toInt = b.toInt := Int32.toInt_inj.symm
theorem q_add {a b : Int32} (h1 : -2147483648 ≤ a.toInt + b.toInt) (h2 : a.toInt + b.toInt ≤ 2147483647) : (a + b).toInt = a.toInt + b.toInt := z_addq rfl rfl rfl h1 h2
theorem q_sub {a b : Int32} (h1 : -2147483648 ≤ a.toInt - b.toInt) (h2 : a.toInt - b.toInt ≤ 2147483647) : (a - b).toInt = a.toInt - b.toInt := z_subq rfl rfl rfl h1 h2
theorem q_mul {a b : Int32} (h1 : -2147483648 ≤ a.toInt * b.toInt) (h2 : a.toInt * b.toInt ≤ 2147483647) : (a * b).toInt = a.toInt * b.toInt := z_mulq rfl rfl rfl h1 h2
theorem q0 : (0 : Int32).toInt = 0 := by decide +kernel
theorem q1 : (1 : Int32).toInt = 1 := by decide +kernel
theorem q_1 : (-1 : Int32).toInt = -1 := by decide +kernel
theorem q4 : (4 : Int32).toInt = 4 := by decide +kernel
theorem q8 : (8 : Int32).toInt = 8 := by decide +kernel
theorem q10 : (10 : Int32).toInt = 10 := by decide +kernel
theorem q48 : (48 : Int32).toInt = 48 := by decide +kernel
theorem q57 : (57 : Int32).toInt = 57 := by decide +kernel
theorem q97 : (97 : Int32).toInt = 97 := by decide +kernel
theorem q122 : (122 : Int32).toInt = 122 := by decide +kernel
theorem q255 : (255 : Int32).toInt = 255 := by decide +kernel
theorem q900 : (900 : Int32).toInt = 900 := by decide +kernel
theorem q_inc {a : Int32} (h : a.toInt ≤ 2147483646) : (a + 1).toInt = a.toInt + 1 := by
  have := z_full a
  have h1 := q_add (a := a) (b := 1) (by rw [q1]; omega) (by rw [q1]; omega)
  rw [h1, q1]
theorem q_isDigit (x : Int32) : F_Te_isDigit x = F_r_isDigit x := rfl
theorem q_isLetter (x : Int32) : F_Te_isLetter x = F_r_isLetter x := rfl
theorem q_isSignB (x : Int32) : F_Te_isSignOf x = F_r_isSignByte x := rfl
theorem q_dig1 {x : Int32} (h : ¬ F_r_isDigit x = 0) : 48 ≤ x.toInt ∧ x.toInt ≤ 57 := by
  unfold F_r_isDigit at h
  by_cases h1 : x < 48
  · exact absurd (if_pos h1) h
  · rw [if_neg h1] at h
    by_cases h2 : 57 < x
    · exact absurd (if_pos h2) h
    · rw [q_nlt, q48] at h1
      rw [q_nlt, q57] at h2
      exact ⟨h1, h2⟩
theorem q_let1 {x : Int32} (h : ¬ F_r_isLetter x = 0) : 97 ≤ x.toInt ∧ x.toInt ≤ 122 := by
  unfold F_r_isLetter at h
  by_cases h1 : x < 97
  · exact absurd (if_pos h1) h
  · rw [if_neg h1] at h
    by_cases h2 : 122 < x
    · exact absurd (if_pos h2) h
    · rw [q_nlt, q97] at h1
      rw [q_nlt, q122] at h2
      exact ⟨h1, h2⟩
theorem q_look0 {n k : Int32} {T : Nat → Int32} (h : n ≤ k) : F_r_look2 n T k = 0 := by
  unfold F_r_look2
  exact if_pos h
theorem q_look1 {n k : Int32} {T : Nat → Int32} (h : ¬ n ≤ k) : F_r_look2 n T k = T k.toInt.toNat &&& 255 := by
  unfold F_r_look2
  exact if_neg h
theorem q_look {n k : Int32} {T : Nat → Int32} : 0 ≤ (F_r_look2 n T k).toInt ∧ (F_r_look2 n T k).toInt ≤ 255 := by
  by_cases h : n ≤ k
  · rw [q_look0 h, q0]; omega
  · rw [q_look1 h]; exact z_andr rfl q255 (by omega)
theorem q_byte {n k : Int32} {T : Nat → Int32} (hk : 0 ≤ k.toInt) (hn : n.toInt ≤ 900) : F_Te_byteAt n T k = if n ≤ k then -1 else F_r_look2 n T k := by
  unfold F_Te_byteAt F_r_look2
  have h0 : ¬ k < 0 := by rw [q_nlt, q0]; exact hk
  by_cases h : n ≤ k
  · simp only [h0, h, ↓reduceIte]
  · have h9 : ¬ (900 : Int32) ≤ k := by
      rw [q_nle] at h ⊢
      rw [q900]; omega
    simp only [h0, h, h9, ↓reduceIte]
theorem q_byte1 {n k : Int32} {T : Nat → Int32} (hk : 0 ≤ k.toInt) (hn : n.toInt ≤ 900) (h : ¬ n ≤ k) : F_Te_byteAt n T k = F_r_look2 n T k := by
  rw [q_byte hk hn, if_neg h]
theorem q_byte0 {n k : Int32} {T : Nat → Int32} (hk : 0 ≤ k.toInt) (hn : n.toInt ≤ 900) (h : n ≤ k) : F_Te_byteAt n T k = -1 := by
  rw [q_byte hk hn, if_pos h]
def q_pw (k : Int) (v : Int) : Prop := (k ≤ 0 → v ≤ 0) ∧ (k ≤ 1 → v ≤ 9) ∧ (k ≤ 2 → v ≤ 99) ∧ (k ≤ 3 → v ≤ 999) ∧ 0 ≤ v ∧ v ≤ 9999
theorem q_dig (n s lt : Int32) (wd : Int64) (T : Nat → Int32) (hn : n.toInt ≤ 900) (hs : 0 ≤ s.toInt) : ∀ (f1 f2 : Nat) (b num : Int32), (2147483647 - b.toInt).toNat < f1 → (2147483647 - b.toInt).toNat < f2 → s.toInt ≤ b.toInt → b.toInt ≤ n.toInt → q_pw (b.toInt - s.toInt) num.toInt → ∃ k1 e1 v1 : Int32, F_Te_readDigits_L5a n s T f1 b num = (k1, e1, v1) ∧ F_r_next2_L210a n lt wd T s f2 b num = (k1, s, e1, v1, lt, wd) ∧ b.toInt ≤ e1.toInt ∧ e1.toInt ≤ n.toInt ∧ (¬ F_r_isDigit (F_r_look2 n T b) = 0 → b.toInt < e1.toInt) ∧ (k1 = 2 ∨ k1 = 4) ∧ 0 ≤ v1.toInt ∧ v1.toInt ≤ 9999 := by
  intro f1
  induction f1 with
  | zero => intro f2 b num h; exact absurd h (Nat.not_lt_zero _)
  | succ f1 ih =>
    intro f2 b num h1 h2 hsb hbn hpw
    cases f2 with
    | zero => exact absurd h2 (Nat.not_lt_zero _)
    | succ f2 =>
      rw [F_r_next2_L210a_s, F_Te_readDigits_L5a_s]
      have hb0 : 0 ≤ b.toInt := by omega
      have hd0 : F_r_isDigit 0 = 0 := by decide +kernel
      unfold q_pw at hpw
      have hend : ∃ k1 e1 v1 : Int32, (if b - s ≤ 4 then ((2 : Int32), b, num) else ((4 : Int32), b, num)) = (k1, e1, v1) ∧ (if b - s ≤ 4 then ((2 : Int32), s, b, num, lt, wd) else ((4 : Int32), s, b, num, lt, wd)) = (k1, s, e1, v1, lt, wd) ∧ b.toInt ≤ e1.toInt ∧ e1.toInt ≤ n.toInt ∧ (k1 = 2 ∨ k1 = 4) ∧ 0 ≤ v1.toInt ∧ v1.toInt ≤ 9999 := by
        by_cases h4 : b - s ≤ 4
        · exact ⟨2, b, num, if_pos h4, if_pos h4, by omega, hbn, Or.inl rfl, by omega, by omega⟩
        · exact ⟨4, b, num, if_neg h4, if_neg h4, by omega, hbn, Or.inr rfl, by omega, by omega⟩
      by_cases h : n ≤ b
      · simp only [h, q_look0 h, hd0, ↓reduceIte]
        obtain ⟨k1, e1, v1, a1, a2, a3, a4, a5⟩ := hend
        exact ⟨k1, e1, v1, a1, a2, a3, a4, fun h9 => absurd trivial h9, a5⟩
      · simp only [h, q_byte1 hb0 hn h, q_isDigit, ↓reduceIte]
        by_cases hd : F_r_isDigit (F_r_look2 n T b) = 0
        · simp only [hd, ↓reduceIte]
          obtain ⟨k1, e1, v1, a1, a2, a3, a4, a5⟩ := hend
          exact ⟨k1, e1, v1, a1, a2, a3, a4, fun h9 => absurd trivial h9, a5⟩
        · have hdd := q_dig1 hd
          have hlt : b.toInt < n.toInt := by rw [q_nle] at h; exact h
          have hb1 := q_inc (a := b) (by omega)
          have hbs := q_sub (a := b) (b := s) (by omega) (by omega)
          simp only [hd, ↓reduceIte]
          by_cases h4 : (4 : Int32) ≤ b - s
          · have h4' := h4
            rw [q_le, q4, hbs] at h4'
            simp only [h4, ↓reduceIte]
            obtain ⟨k1, e1, v1, a1, a2, a3, a4, -, a5⟩ := ih f2 (b + 1) num (by omega) (by omega) (by omega) (by omega) (by unfold q_pw; omega)
            exact ⟨k1, e1, v1, a1, a2, by omega, a4, fun _ => by omega, a5⟩
          · have h4' := h4
            rw [q_nle, q4, hbs] at h4'
            simp only [h4, ↓reduceIte]
            rw [Int32.mul_comm 10 num]
            have e1 := q_mul (a := num) (b := 10) (by rw [q10]; omega) (by rw [q10]; omega)
            rw [q10] at e1
            have e2 := q_add (a := num * 10) (b := F_r_look2 n T b) (by omega) (by omega)
            have e3 := q_sub (a := num * 10 + F_r_look2 n T b) (b := 48) (by rw [q48]; omega) (by rw [q48]; omega)
            rw [q48] at e3
            obtain ⟨k1, e1, v1, a1, a2, a3, a4, -, a5⟩ := ih f2 (b + 1) (num * 10 + F_r_look2 n T b - 48) (by omega) (by omega) (by omega) (by omega) (by unfold q_pw; omega)
            exact ⟨k1, e1, v1, a1, a2, by omega, a4, fun _ => by omega, a5⟩
