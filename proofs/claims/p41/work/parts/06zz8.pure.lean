def uLt (n a : Nat) : Option Nat → Bool
  | none => true
  | some x => decide (min a (n - a) < min x (n - x))
/-- the nearest place that opens, the first of those that are as near -/
def uNr (Q : Nat → Bool) (n p : Nat) : Nat → Nat → Option Nat → Option Nat
  | 0, _, c => c
  | m + 1, a, c => uNr Q n p m (a + 1) (if (Q ((p + a) % n) && uLt n a c) = true then some a else c)
def uFar (n : Nat) : Option Nat → Nat
  | none => 0
  | some x => min x (n - x)
def uNn (n : Nat) : Option Nat → Nat
  | none => n
  | some x => min x (n - x)
def uOn : Option Nat → Nat
  | none => 0
  | some x => x
def uNe (n p : Nat) : Option Nat → Int32
  | none => -1
  | some x => nI ((p + x) % n)
theorem v_ult {n a : Nat} {c : Option Nat} (ha : a < n) : uLt n a c = true ↔ min a (n - a) < uNn n c := by
  cases c with
  | none => exact ⟨fun _ => show min a (n - a) < n by omega, fun _ => rfl⟩
  | some x => exact decide_eq_true_iff
theorem v_min {a b : Nat} (ha : a < 2147483648) (hb : b < 2147483648) : F_ja_min (nI a) (nI b) = nI (min a b) := by
  rw [F_ja_min_s]
  by_cases c : b < a
  · rw [if_pos (q_lt.mpr (by rw [nI_toInt ha, nI_toInt hb]; omega)), show min a b = b by omega]
  · rw [if_neg (q_nlt.mpr (by rw [nI_toInt ha, nI_toInt hb]; omega)), show min a b = a by omega]
theorem v_minr {a b : Nat} (ha : a < 2147483648) (hb : b < 2147483648) : F_r_Ma_min (nI a) (nI b) = nI (min a b) := by
  rw [F_r_Ma_min_s]
  by_cases c : b < a
  · rw [if_pos (q_lt.mpr (by rw [nI_toInt ha, nI_toInt hb]; omega)), show min a b = b by omega]
  · rw [if_neg (q_nlt.mpr (by rw [nI_toInt ha, nI_toInt hb]; omega)), show min a b = a by omega]
theorem v_snL {row : Nat → Int32} {s9 : Int32} {n p : Nat} {Q : Nat → Bool} (hn : n < 7) (hp : p < n) (hQ : ∀ k : Nat, k < n → F_Se_isOf row s9 (nI k) = if Q k = true then 1 else 0) : ∀ (f a : Nat) (c : Option Nat), (2147483647 - (nI a).toInt).toNat < f → a ≤ n → uNn n c ≤ n → F_Se_stepsOnToNearest_L21a (nI n) row (nI p) s9 f (nI (uOn c)) (nI (uNn n c)) (nI a) = nI (uOn (uNr Q n p (n - a) a c)) := by
  intro f
  induction f with
  | zero => intro a c hf; exact absurd hf (Nat.not_lt_zero _)
  | succ f ih =>
    intro a c hf ha hc
    have e := nI_toInt (show a < 2147483648 by omega)
    have e2 := nI_toInt (show a + 1 < 2147483648 by omega)
    have en := nI_toInt (show n < 2147483648 by omega)
    have ec := nI_toInt (show uNn n c < 2147483648 by omega)
    have em := nI_toInt (show min a (n - a) < 2147483648 by omega)
    rw [F_Se_stepsOnToNearest_L21a_s]
    by_cases c9 : a = n
    · subst c9
      have hz : uNr Q a p (a - a) a c = c := by rw [Nat.sub_self]; rfl
      rw [hz]
      simp only [show nI a ≤ nI a from q_le.mpr (Int.le_refl _), ↓reduceIte]
    · have hu : uNr Q n p (n - a) a c = uNr Q n p (n - (a + 1)) (a + 1) (if (Q ((p + a) % n) && uLt n a c) = true then some a else c) := by
        rw [show n - a = (n - (a + 1)) + 1 by omega]; rfl
      have hs : nI n - nI a = nI (n - a) := q_nsub (by omega) (by omega)
      have hi : F_Da_inRing (nI (p + a)) (nI n) = nI ((p + a) % n) := v_inr (by omega) (by omega) (by omega)
      have hm := Nat.mod_lt (p + a) (show 0 < n by omega)
      have hl := v_ult (c := c) (show a < n by omega)
      rw [hu]
      simp only [show ¬ nI n ≤ nI a from q_nle.mpr (by rw [e, en]; omega), hs, v_min (show a < 2147483648 by omega) (show n - a < 2147483648 by omega), nI_add, qnI_s, hi, hQ _ hm, ↓reduceIte]
      by_cases l : uLt n a c = true
      · have h1 := hl.mp l
        by_cases q : Q ((p + a) % n) = true
        · simp only [show ¬ nI (uNn n c) ≤ nI (min a (n - a)) from q_nle.mpr (by rw [ec, em]; omega), q, l, q_n1, Bool.and_true, ↓reduceIte]
          exact ih (a + 1) (some a) (by omega) (by omega) (show min a (n - a) ≤ n by omega)
        · simp only [show ¬ nI (uNn n c) ≤ nI (min a (n - a)) from q_nle.mpr (by rw [ec, em]; omega), q, Bool.false_and, Bool.false_eq_true, ↓reduceIte]
          exact ih (a + 1) c (by omega) (by omega) hc
      · have h1 : ¬ min a (n - a) < uNn n c := fun h9 => l (hl.mpr h9)
        simp only [show nI (uNn n c) ≤ nI (min a (n - a)) from q_le.mpr (by rw [ec, em]; omega), l, Bool.and_false, Bool.false_eq_true, ↓reduceIte]
        exact ih (a + 1) c (by omega) (by omega) hc
theorem v_wiL {g t : Nat → Int32} {n p s k T Go : Nat} {Q : Nat → Bool} {G : Int32 → Int32 → Int32 → Int32} (hT : g 6 = nI T) (hG : g 7 = nI Go) (hn : n < 7) (hp : p < n) (hk : k < 12) (hQ : ∀ i : Nat, i < n → F_r_canOpen g (t i) (g (138 + k)) = if Q i = true then 1 else 0) : ∀ (f a : Nat) (c : Option Nat), (2147483647 - (nI a).toInt).toNat < f → a ≤ n → F_r_walk_L25a (nI n) g t (nI p) (nI s) (nI k) G f (uNe n p c) (nI (uFar n c)) (nI a) = match uNr Q n p (n - a) a c with
    | none => -1
    | some x => G (nI ((p + x) % n)) (nI (s + (min x (n - x) * Go + T))) (nI (k + 1)) := by
  intro f
  induction f with
  | zero => intro a c hf; exact absurd hf (Nat.not_lt_zero _)
  | succ f ih =>
    intro a c hf ha
    have e := nI_toInt (show a < 2147483648 by omega)
    have e2 := nI_toInt (show a + 1 < 2147483648 by omega)
    have en := nI_toInt (show n < 2147483648 by omega)
    have em := nI_toInt (show min a (n - a) < 2147483648 by omega)
    have y6 : g (6 : Int32).toNatClampNeg = nI T := hT
    have y7 : g (7 : Int32).toNatClampNeg = nI Go := hG
    have hpos : ∀ x : Nat, (0 : Int32) ≤ nI ((p + x) % n) := fun x => by
      have := Nat.mod_lt (p + x) (show 0 < n by omega)
      exact q_le.mpr (by rw [q0, nI_toInt (by omega)]; omega)
    rw [F_r_walk_L25a_s]
    by_cases c9 : a = n
    · subst c9
      have hz : uNr Q a p (a - a) a c = c := by rw [Nat.sub_self]; rfl
      rw [hz]
      cases c with
      | none =>
        simp only [show nI a ≤ nI a from q_le.mpr (Int.le_refl _), uNe, show ¬ (0 : Int32) ≤ -1 by decide, ↓reduceIte]
      | some x =>
        simp only [show nI a ≤ nI a from q_le.mpr (Int.le_refl _), uNe, uFar, hpos x, y6, y7, qnI_mul, nI_add, qnI_s, ↓reduceIte]
    · have hu : uNr Q n p (n - a) a c = uNr Q n p (n - (a + 1)) (a + 1) (if (Q ((p + a) % n) && uLt n a c) = true then some a else c) := by
        rw [show n - a = (n - (a + 1)) + 1 by omega]; rfl
      have hs : nI n - nI a = nI (n - a) := q_nsub (by omega) (by omega)
      have hr : nI (p + a) - nI (p + a) / nI n * nI n = nI ((p + a) % n) := q_nrem (by omega) (by omega) (by omega)
      have hm := Nat.mod_lt (p + a) (show 0 < n by omega)
      have h38 : ((138 : Int32) + nI k).toNatClampNeg = 138 + k := q_adn (a := 138) (by omega)
      rw [hu]
      simp only [show ¬ nI n ≤ nI a from q_nle.mpr (by rw [e, en]; omega), hs, v_minr (show a < 2147483648 by omega) (show n - a < 2147483648 by omega), nI_add, qnI_s, hr, qnI_cl (show (p + a) % n < 2147483648 by omega), h38, hQ _ hm, ↓reduceIte]
      by_cases q : Q ((p + a) % n) = true
      · cases c with
        | none =>
          simp only [q, q_n1, uNe, show (-1 : Int32) < 0 by decide, uLt, Bool.and_true, ↓reduceIte]
          exact ih (a + 1) (some a) (by omega) (by omega)
        | some x =>
          have ex := nI_toInt (show min x (n - x) < 2147483648 by omega)
          have hx0 : ¬ nI ((p + x) % n) < 0 := q_nlt.mpr (q_le.mp (hpos x))
          by_cases l : min a (n - a) < min x (n - x)
          · simp only [q, q_n1, uNe, uFar, hx0, uLt, show nI (min a (n - a)) < nI (min x (n - x)) from q_lt.mpr (by rw [em, ex]; omega), l, decide_true, Bool.and_true, ↓reduceIte]
            exact ih (a + 1) (some a) (by omega) (by omega)
          · simp only [q, q_n1, uNe, uFar, hx0, uLt, show ¬ nI (min a (n - a)) < nI (min x (n - x)) from q_nlt.mpr (by rw [em, ex]; omega), l, decide_false, Bool.and_false, Bool.false_eq_true, ↓reduceIte]
            exact ih (a + 1) (some x) (by omega) (by omega)
      · simp only [q, Bool.false_and, Bool.false_eq_true, ↓reduceIte]
        exact ih (a + 1) c (by omega) (by omega)
/-- the ROUND of one order -/
def uWk (Qs : Nat → Nat → Bool) (n T G : Nat) : Nat → Nat → Nat → Nat → Option Nat
  | 0, _, _, s => some s
  | m + 1, k, p, s => match uNr (Qs k) n p n 0 none with
    | none => none
    | some x => uWk Qs n T G m (k + 1) ((p + x) % n) (s + (min x (n - x) * G + T))
def uOI : Option Nat → Int32
  | none => -1
  | some z => nI z
theorem v_wkL {g t : Nat → Int32} {n T Go R : Nat} {Qs : Nat → Nat → Bool} (hT : g 6 = nI T) (hG : g 7 = nI Go) (hR : g 4 = nI R) (hR9 : R ≤ 12) (hn : n < 7) (hQ : ∀ k : Nat, k < R → ∀ i : Nat, i < n → F_r_canOpen g (t i) (g (138 + k)) = if Qs k i = true then 1 else 0) : ∀ (f k p s : Nat), (2147483647 - (nI k).toInt).toNat < f → k ≤ R → p < n → F_r_walk_L6a (nI n) g t f (nI p) (nI s) (nI k) = uOI (uWk Qs n T Go (R - k) k p s) := by
  intro f
  induction f with
  | zero => intro k p s hf; exact absurd hf (Nat.not_lt_zero _)
  | succ f ih =>
    intro k p s hf hk hp
    have e := nI_toInt (show k < 2147483648 by omega)
    have e2 := nI_toInt (show k + 1 < 2147483648 by omega)
    have eR := nI_toInt (show R < 2147483648 by omega)
    have y4 : g (4 : Int32).toNatClampNeg = nI R := hR
    rw [F_r_walk_L6a_s]
    simp only [y4]
    by_cases c : k = R
    · subst c
      have hz : uWk Qs n T Go (k - k) k p s = some s := by rw [Nat.sub_self]; rfl
      rw [hz]
      simp only [show nI k ≤ nI k from q_le.mpr (Int.le_refl _), uOI, ↓reduceIte]
    · have hz : uWk Qs n T Go (R - k) k p s = match uNr (Qs k) n p n 0 none with
          | none => none
          | some x => uWk Qs n T Go (R - (k + 1)) (k + 1) ((p + x) % n) (s + (min x (n - x) * Go + T)) := by
        rw [show R - k = (R - (k + 1)) + 1 by omega]; rfl
      rw [hz]
      simp only [show ¬ nI R ≤ nI k from q_nle.mpr (by rw [e, eR]; omega), ↓reduceIte]
      have h9 := v_wiL (G := F_r_walk_L6a (nI n) g t f) (s := s) hT hG hn hp (show k < 12 by omega) (hQ k (by omega)) ((2147483647 - (0 : Int32).toInt).toNat + 1) 0 none (by show (2147483647 - (0 : Int32).toInt).toNat < _; omega) (by omega)
      have h8 : F_r_walk_L25a (nI n) g t (nI p) (nI s) (nI k) (F_r_walk_L6a (nI n) g t f) ((2147483647 - (0 : Int32).toInt).toNat + 1) (-1) 0 0 = _ := h9
      rw [h8, Nat.sub_zero]
      cases hx : uNr (Qs k) n p n 0 none with
      | none => rfl
      | some x => exact ih (k + 1) _ _ (by omega) (by omega) (Nat.mod_lt _ (by omega))
theorem v_srL {dO rm : Int32} {op se rd row : Nat → Int32} {n T Go R : Nat} {Qs : Nat → Nat → Bool} (s1 : F_H_secondsOf se 1 = nI T) (s2 : F_H_secondsOf se 2 = nI Go) (hR : rm = nI R) (hR9 : R ≤ 12) (hn : n < 7) (hQ : ∀ k : Nat, k < R → ∀ i : Nat, i < n → F_Se_isOf row (F_H_openersOf dO op (rd k)) (nI i) = if Qs k i = true then 1 else 0) : ∀ (f k p s z : Nat), (2147483647 - (nI k).toInt).toNat < f → k ≤ R → p < n → uWk Qs n T Go (R - k) k p s = some z → F_Se_secondsOfRound_L6a (nI n) dO rm op se rd row f (nI p) (nI s) (nI k) = nI z := by
  intro f
  induction f with
  | zero => intro k p s z hf; exact absurd hf (Nat.not_lt_zero _)
  | succ f ih =>
    intro k p s z hf hk hp hw
    have e := nI_toInt (show k < 2147483648 by omega)
    have e2 := nI_toInt (show k + 1 < 2147483648 by omega)
    have eR := nI_toInt (show R < 2147483648 by omega)
    have en := nI_toInt (show n < 2147483648 by omega)
    rw [F_Se_secondsOfRound_L6a_s]
    subst hR
    by_cases c : k = R
    · subst c
      have hz : uWk Qs n T Go (k - k) k p s = some s := by rw [Nat.sub_self]; rfl
      rw [hz] at hw
      cases hw
      simp only [show nI k ≤ nI k from q_le.mpr (Int.le_refl _), ↓reduceIte]
    · have hz : uWk Qs n T Go (R - k) k p s = match uNr (Qs k) n p n 0 none with
          | none => none
          | some x => uWk Qs n T Go (R - (k + 1)) (k + 1) ((p + x) % n) (s + (min x (n - x) * Go + T)) := by
        rw [show R - k = (R - (k + 1)) + 1 by omega]; rfl
      rw [hz] at hw
      have hst : F_Se_stepsOnToNearest (nI n) dO op row (nI p) (rd k) = nI (uOn (uNr (Qs k) n p n 0 none)) := by
        rw [F_Se_stepsOnToNearest_s]
        exact v_snL hn hp (hQ k (by omega)) ((2147483647 - (0 : Int32).toInt).toNat + 1) 0 none (by show (2147483647 - (0 : Int32).toInt).toNat < _; omega) (by omega) (Nat.le_refl _)
      cases hx : uNr (Qs k) n p n 0 none with
      | none =>
        rw [hx] at hw
        cases hw
      | some x =>
        rw [hx] at hw hst
        have hxn : x < n := by
          have hlt : ∀ (m a : Nat) (c : Option Nat), a + m ≤ n → (∀ y : Nat, c = some y → y < n) → ∀ y : Nat, uNr (Qs k) n p m a c = some y → y < n := by
            intro m
            induction m with
            | zero => intro a c _ hc y hy; exact hc y hy
            | succ m ihm =>
              intro a c ha hc y hy
              refine ihm (a + 1) _ (by omega) (fun y2 hy2 => ?_) y hy
              by_cases d : (Qs k ((p + a) % n) && uLt n a c) = true
              · rw [if_pos d] at hy2; cases hy2; omega
              · rw [if_neg d] at hy2; exact hc y2 hy2
          exact hlt n 0 none (by omega) (fun y hy => by cases hy) x hx
        have hs : nI n - nI x = nI (n - x) := q_nsub (by omega) (by omega)
        have hi : F_Da_inRing (nI (p + x)) (nI n) = nI ((p + x) % n) := v_inr (by omega) (by omega) (by omega)
        have hat : F_at_12 rd (nI k) = rd k := q_at12 (by omega)
        have hst' : F_Se_stepsOnToNearest (nI n) dO op row (nI p) (rd k) = nI x := hst
        simp only [show ¬ nI R ≤ nI k from q_nle.mpr (by rw [e, eR]; omega), hat, hst', hs, v_min (show x < 2147483648 by omega) (show n - x < 2147483648 by omega), s1, s2, qnI_mul, nI_add, qnI_s, hi, ↓reduceIte]
        exact ih (k + 1) _ _ z (by omega) (by omega) (Nat.mod_lt _ (by omega)) hw
