theorem v_any {n : Nat} {t g : Nat → Int32} {d : Int32} {b : Nat → Bool} (h : ∀ i : Nat, i < n → qCo g d (t i) = b i) : (qRw n t 0).any (qCo g d) = (List.range n).any b := by
  show ((List.range n).map (fun i => t (0 + i))).any (qCo g d) = _
  rw [List.any_map]
  exact v_ac (fun i hi => by
    show qCo g d (t (0 + i)) = b i
    rw [Nat.zero_add]
    exact h i hi)
theorem v_co {g : Nat → Int32} {d x : Int32} {B : Bool} (h : qCo g d x = B) : F_r_canOpen g x d = if B = true then 1 else 0 := by
  subst h
  have h9 : F_r_canOpen g x d = 0 ∨ F_r_canOpen g x d = 1 := by
    rw [F_r_canOpen_s]
    show (if (g ((133 : Int32) + d).toNatClampNeg >>> (x &&& 31)) &&& 1 = 1 then (1 : Int32) else 0) = 0 ∨ (if (g ((133 : Int32) + d).toNatClampNeg >>> (x &&& 31)) &&& 1 = 1 then (1 : Int32) else 0) = 1
    split
    · exact Or.inr rfl
    · exact Or.inl rfl
  unfold qCo
  rcases h9 with h8 | h8
  · rw [h8]; rfl
  · rw [h8]
    simp only [q_n1, not_false_eq_true, decide_true, ↓reduceIte]
theorem v_xor : ∀ a, a < 21 → ∀ n, n < 11 → (0 : Int32) ≤ nI a ^^^ nI n := by decide +kernel
theorem v_inr {a n : Nat} (ha : a < 21) (hn0 : 0 < n) (hn : n ≤ 10) : F_Da_inRing (nI a) (nI n) = nI (a % n) := by
  have en := nI_toInt (show n < 2147483648 by omega)
  rw [F_Da_inRing_s, if_neg (q_nle.mpr (by rw [en, q0]; omega))]
  show F_ja_floorMod (nI a) (nI n) = _
  rw [F_ja_floorMod_s]
  simp only [v_xor a ha n (by omega), ↓reduceIte]
  exact q_nrem (by omega) hn0 (by omega)
theorem v_tr {se : Nat → Int32} {T G k : Nat} (hT : F_H_secondsOf se 1 = nI T) (hG : F_H_secondsOf se 2 = nI G) : F_Se_secondsOfTries se (nI (k + 1)) = nI (uV T G k) := by
  rw [F_Se_secondsOfTries_s]
  simp only [hT, hG, qnI_sub1, qnI_mul, nI_add]
  unfold uV
  rw [Nat.mul_comm T, Nat.mul_comm G]
theorem v_sfL {row se : Nat → Int32} {s9 : Int32} {n T G : Nat} {Q : Nat → Bool} (hn : n ≤ 10) (hT : F_H_secondsOf se 1 = nI T) (hG : F_H_secondsOf se 2 = nI G) (hQ : ∀ k : Nat, k < n → F_Se_isOf row s9 (nI k) = if Q k = true then 1 else 0) : ∀ (f k : Nat), (2147483647 - (nI (k + 1)).toInt).toNat < f → k < n → F_Se_secondsFrom_L16a (nI n) se row 0 s9 f (nI (k + 1)) (nI k) = nI (uV T G (uF Q (n - 1 - k) k)) := by
  intro f
  induction f with
  | zero => intro k hf; exact absurd hf (Nat.not_lt_zero _)
  | succ f ih =>
    intro k hf hk
    have e2 := nI_toInt (show k + 1 < 2147483648 by omega)
    have e3 := nI_toInt (show k + 1 + 1 < 2147483648 by omega)
    have en := nI_toInt (show n < 2147483648 by omega)
    rw [F_Se_secondsFrom_L16a_s]
    by_cases c : k + 1 = n
    · have hz : uF Q (n - 1 - k) k = k := by rw [show n - 1 - k = 0 by omega]; rfl
      rw [hz]
      simp only [show nI n ≤ nI (k + 1) from q_le.mpr (by rw [e2, en]; omega), v_tr hT hG, ↓reduceIte]
    · have hz : uF Q (n - 1 - k) k = if Q k = true then k else uF Q (n - 1 - (k + 1)) (k + 1) := by
        rw [show n - 1 - k = (n - 1 - (k + 1)) + 1 by omega]; rfl
      rw [hz]
      by_cases q : Q k = true
      · simp only [show ¬ nI n ≤ nI (k + 1) from q_nle.mpr (by rw [e2, en]; omega), hQ k hk, q, q_n1, v_tr hT hG, ↓reduceIte]
      · have hi : F_Da_inRing (nI (k + 1)) (nI n) = nI (k + 1) := by rw [v_inr (by omega) (by omega) hn, Nat.mod_eq_of_lt (by omega)]
        simp only [show ¬ nI n ≤ nI (k + 1) from q_nle.mpr (by rw [e2, en]; omega), hQ k hk, q, qnI_s, hi, ↓reduceIte]
        exact ih (k + 1) (by omega) (by omega)
theorem v_saL {row se : Nat → Int32} {s9 : Int32} {n T G : Nat} {Q : Nat → Bool} (hn : n ≤ 10) (hT : F_H_secondsOf se 1 = nI T) (hG : F_H_secondsOf se 2 = nI G) (hQ : ∀ k : Nat, k < n → F_Se_isOf row s9 (nI k) = if Q k = true then 1 else 0) : ∀ (f i t s : Nat), ((nI i + (-1)).toInt + 2147483648).toNat < f → i ≤ 2 * n → F_Se_secondsFromAll_L24a (nI n) se row s9 f (nI t) (nI s) (nI i + (-1)) = nI (uTg n Q i t s) * nI T + (nI (uTg n Q i t s) - nI n) * nI G := by
  intro f
  induction f with
  | zero => intro i t s hf; exact absurd hf (Nat.not_lt_zero _)
  | succ f ih =>
    intro i t s hf hi
    rw [F_Se_secondsFromAll_L24a_s]
    cases i with
    | zero =>
      simp only [show nI 0 + (-1) < 0 from by decide +kernel, hT, hG, ↓reduceIte]
      rfl
    | succ i =>
      have e := nI_toInt (show i < 2147483648 by omega)
      have en := nI_toInt (show n < 2147483648 by omega)
      rw [u_dm] at hf
      have em : (nI i + (-1)).toInt = (i : Int) - 1 := by
        rw [← Int32.sub_eq_add_neg, q_sub (by rw [e, q1]; omega) (by rw [e, q1]; omega), e, q1]
      have hs : uTg n Q (i + 1) t s = uTg n Q i (if Q (if i < n then i else i - n) = true then 1 else t + 1) (if i < n then s + (if Q (if i < n then i else i - n) = true then 1 else t + 1) else s) := rfl
      rw [hs]
      have hih := fun t' s' => ih i t' s' (by rw [em]; omega) (by omega)
      have n1 : (1 : Int32) = nI 1 := by decide +kernel
      by_cases c : i < n
      · by_cases q : Q i = true
        · simp only [u_dm, show ¬ nI i < 0 from q_nlt.mpr (by rw [q0, e]; omega), show ¬ nI n ≤ nI i from q_nle.mpr (by rw [e, en]; omega), hQ i c, c, q, q_n1, qnI_s, ↓reduceIte]
          rw [n1]
          exact hih 1 (s + 1)
        · simp only [u_dm, show ¬ nI i < 0 from q_nlt.mpr (by rw [q0, e]; omega), show ¬ nI n ≤ nI i from q_nle.mpr (by rw [e, en]; omega), hQ i c, c, q, qnI_s, nI_add, ↓reduceIte]
          exact hih (t + 1) (s + (t + 1))
      · have hsb : nI i - nI n = nI (i - n) := q_nsub (by omega) (by omega)
        by_cases q : Q (i - n) = true
        · simp only [u_dm, show ¬ nI i < 0 from q_nlt.mpr (by rw [q0, e]; omega), show nI n ≤ nI i from q_le.mpr (by rw [e, en]; omega), hsb, hQ (i - n) (by omega), c, q, q_n1, qnI_s, ↓reduceIte]
          rw [n1]
          exact hih 1 s
        · simp only [u_dm, show ¬ nI i < 0 from q_nlt.mpr (by rw [q0, e]; omega), show nI n ≤ nI i from q_le.mpr (by rw [e, en]; omega), hsb, hQ (i - n) (by omega), c, q, qnI_s, ↓reduceIte]
          exact hih (t + 1) s
theorem v_sec {fe ke ri dO tu rm : Int32} {fn : Nat → Int64} {st tf six ks wa op se rd g : Nat → Int32} {w : Nat → Int64} (h : qTx 0 0 fe ke ri dO tu rm fn st tf six ks wa op se rd g w) {T G : Nat} (hT : g 6 = nI T) (hG : g 7 = nI G) : F_H_secondsOf se 1 = nI T ∧ F_H_secondsOf se 2 = nI G := by
  have h1 := h.2.2.2.2.2.1 1 (by omega)
  have h2 := h.2.2.2.2.2.1 2 (by omega)
  have c1 : (1 : Int32).toNatClampNeg = 1 := by decide +kernel
  have c2 : (2 : Int32).toNatClampNeg = 2 := by decide +kernel
  constructor
  · rw [F_H_secondsOf_s]
    simp only [F_at_4_s, show ¬ (1 : Int32) < 0 from by decide +kernel, show ¬ (4 : Int32) ≤ 1 from by decide +kernel, c1, ↓reduceIte]
    exact h1.trans hT
  · rw [F_H_secondsOf_s]
    simp only [F_at_4_s, show ¬ (2 : Int32) < 0 from by decide +kernel, show ¬ (4 : Int32) ≤ 2 from by decide +kernel, c2, ↓reduceIte]
    exact h2.trans hG
/-- the places of a row, DOOR by DOOR -/
def uPl (g t : Nat → Int32) (n D : Nat) (b : Nat → Nat → Bool) : Prop := ∀ d : Nat, d < D → ∀ i : Nat, i < n → qCo g (nI d) (t i) = b d i
theorem v_wf {fe ke ri dO tu rm : Int32} {fn : Nat → Int64} {st tf six ks wa op se rd g : Nat → Int32} {w : Nat → Int64} (h : qTx 0 0 fe ke ri dO tu rm fn st tf six ks wa op se rd g w) (hC : zC g) {row : Nat → Int32} {n D T G : Nat} {b : Nat → Nat → Bool} (hn : n < 7) (hn0 : 0 < n) (hr : ∀ i : Nat, i < n → ∃ q : Nat, row i = nI q ∧ (q : Int) < ke.toInt) (hD : dO = nI D) (hD5 : D ≤ 5) (hT : g 6 = nI T) (hG : g 7 = nI G) (hb : uPl g row n D b) : ∀ (f i : Nat), (2147483647 - (nI i).toInt).toNat < f → i ≤ D → F_Se_wantedSecondsFrom_L5a (nI n) dO wa op se row 0 0 f (nI (uM0 (fun d => (List.range n).any (b d)) (qWt g) T G (fun d => uX n (b d) 0 false) i)) (nI i) = nI (uM0 (fun d => (List.range n).any (b d)) (qWt g) T G (fun d => uX n (b d) 0 false) D) ∧ F_Se_wantedSecondsAnywhere_L4a (nI n) dO wa op se row f (nI (uM1 (fun d => (List.range n).any (b d)) (qWt g) T G n (fun d => uTg n (b d) (2 * n) 0 0) i)) (nI i) = nI (uM1 (fun d => (List.range n).any (b d)) (qWt g) T G n (fun d => uTg n (b d) (2 * n) 0 0) D) := by
  intro f
  induction f with
  | zero => intro i hf; exact absurd hf (Nat.not_lt_zero _)
  | succ f ih =>
    intro i hf hi
    have e := nI_toInt (show i < 2147483648 by omega)
    have e2 := nI_toInt (show i + 1 < 2147483648 by omega)
    have eD := nI_toInt (show D < 2147483648 by omega)
    obtain ⟨s1, s2⟩ := v_sec h hT hG
    rw [F_Se_wantedSecondsFrom_L5a_s, F_Se_wantedSecondsAnywhere_L4a_s]
    by_cases c : i = D
    · subst c
      simp only [show dO ≤ nI i from q_le.mpr (by rw [hD]; exact Int.le_refl _), and_self, ↓reduceIte]
    · have hiD : (i : Int) < dO.toInt := by rw [hD, eD]; omega
      obtain ⟨x1, -⟩ := h.2.2.2.2.1 i hiD (by omega)
      have hwt : F_H_wantedOf dO wa (nI i) = nI (qWt g i) := by
        rw [F_H_wantedOf_s]
        simp only [q_hasDd, e, hiD, show (0 : Int) ≤ (i : Int) by omega, and_self, q_n1, q_at5 (g := wa) (show i < 5 by omega), ↓reduceIte]
        rw [x1, show 0 + 128 + i = 128 + i by omega]
        exact q_wtE hC.1 (by omega)
      have hop : F_H_openersOf dO op (nI i) = op i := by
        rw [F_H_openersOf_s]
        simp only [q_hasDd, e, hiD, show (0 : Int) ≤ (i : Int) by omega, and_self, q_n1, q_at5 (g := op) (show i < 5 by omega), ↓reduceIte]
      have hof : ∀ k : Nat, k < n → F_Se_isOf row (op i) (nI k) = if b i k = true then 1 else 0 := fun k hk => by
        obtain ⟨q, q1, q2⟩ := hr k hk
        rw [q_isOfA h (show k < 10 by omega) q1 q2 hiD]
        exact v_co (hb i (by omega) k hk)
      have hany := v_any (d := nI i) (hb i (by omega))
      have hso : F_Se_someOpens (nI n) dO op row (nI i) = if (List.range n).any (b i) = true then 1 else 0 := by
        rw [q_so (g := g) h (by omega) hr hiD, hany]
      obtain ⟨i1, i2⟩ := ih (i + 1) (by omega) (by omega)
      have m0 : uM0 (fun d => (List.range n).any (b d)) (qWt g) T G (fun d => uX n (b d) 0 false) (i + 1) = uM0 (fun d => (List.range n).any (b d)) (qWt g) T G (fun d => uX n (b d) 0 false) i + if (List.range n).any (b i) = true then qWt g i * uV T G (uX n (b i) 0 false) else 0 := rfl
      have m1 : uM1 (fun d => (List.range n).any (b d)) (qWt g) T G n (fun d => uTg n (b d) (2 * n) 0 0) (i + 1) = uM1 (fun d => (List.range n).any (b d)) (qWt g) T G n (fun d => uTg n (b d) (2 * n) 0 0) i + if (List.range n).any (b i) = true then qWt g i * (T * uTg n (b i) (2 * n) 0 0 + G * (uTg n (b i) (2 * n) 0 0 - n)) else 0 := rfl
      rw [m0] at i1
      rw [m1] at i2
      have hle : ¬ dO ≤ nI i := q_nle.mpr (by rw [e]; exact hiD)
      by_cases w0 : qWt g i = 0
      · rw [w0, Nat.zero_mul, ite_self, Nat.add_zero] at i1 i2
        simp only [hle, hwt, w0, show nI 0 ≤ 0 from q_le.mpr (Int.le_refl _), qnI_s, ↓reduceIte]
        exact ⟨i1, i2⟩
      · have hw9 := q_wt hC.1 i
        have ew := nI_toInt (show qWt g i < 2147483648 by omega)
        have hwl : ¬ nI (qWt g i) ≤ 0 := q_nle.mpr (by rw [ew, q0]; omega)
        by_cases d9 : (List.range n).any (b i) = true
        · rw [if_pos d9] at i1 i2
          obtain ⟨k1, k2⟩ := v_okb (b := b i) hn
          have hx : uX n (b i) 0 false < n := (k1 0 false hn0).mpr d9
          have hzz : uX n (b i) 0 false = uF (b i) (n - 1) 0 := by
            have hp9 : uX n (b i) 0 false = uF (b i) n 0 := by
              have hq9 : ∀ m k : Nat, k + m ≤ n → uF (fun k => b i (uP n 0 false k)) m k = uF (b i) m k := by
                intro m
                induction m with
                | zero => intro k _; rfl
                | succ m ih9 =>
                  intro k hk
                  have hpk : uP n 0 false k = k := by
                    unfold uP
                    rw [if_neg Bool.false_ne_true, Nat.zero_add, Nat.mod_eq_of_lt (by omega)]
                  show (if b i (uP n 0 false k) = true then k else uF (fun k => b i (uP n 0 false k)) m (k + 1)) = if b i k = true then k else uF (b i) m (k + 1)
                  rw [hpk, ih9 (k + 1) (by omega)]
              exact hq9 n 0 (by omega)
            obtain ⟨m, rfl⟩ : ∃ m, n = m + 1 := ⟨n - 1, by omega⟩
            rw [hp9] at hx ⊢
            exact (v_fE m 0 (by omega)).symm
          have hsf : F_Se_secondsFrom (nI n) dO op se row (nI i) 0 0 = nI (uV T G (uX n (b i) 0 false)) := by
            rw [F_Se_secondsFrom_s]
            simp only [hop]
            rw [hzz]
            exact v_sfL (by omega) s1 s2 hof ((2147483647 - (1 : Int32).toInt).toNat + 1) 0 (by show (2147483647 - (1 : Int32).toInt).toNat < _; omega) hn0
          have hnz : n ≤ uTg n (b i) (2 * n) 0 0 := by
            rw [← k2 d9 false]
            exact (v_uv (T := T) (G := G) n).1
          have hsa : F_Se_secondsFromAll (nI n) dO op se row (nI i) = nI (T * uTg n (b i) (2 * n) 0 0 + G * (uTg n (b i) (2 * n) 0 0 - n)) := by
            rw [F_Se_secondsFromAll_s]
            have x2 : (2 : Int32) * nI n = nI (2 * n) := by rw [show (2 : Int32) = nI 2 by decide +kernel, qnI_mul]
            simp only [hop, x2, Int32.sub_eq_add_neg]
            have h8 := v_saL (T := T) (G := G) (show n ≤ 10 by omega) s1 s2 hof _ (2 * n) 0 0 (Nat.lt_succ_self _) (Nat.le_refl _)
            have hsm : n ≤ uTg n (b i) (2 * n) 0 0 ∧ uTg n (b i) (2 * n) 0 0 < 2147483648 := ⟨hnz, by
              have hb9 : ∀ j t s : Nat, j ≤ 2 * n → uTg n (b i) j t s ≤ s + j * (t + j + 1) := by
                intro j
                induction j with
                | zero => intro t s _; exact Nat.le_add_right _ _
                | succ j ihj =>
                  intro t s hj
                  have y1 := ihj 1 (if j < n then s + 1 else s) (by omega)
                  have y2 := ihj (t + 1) (if j < n then s + (t + 1) else s) (by omega)
                  have y3 : (j + 1) * (t + (j + 1) + 1) = j * (t + j + 2) + (t + j + 2) := by rw [Nat.add_mul, Nat.one_mul]; rfl
                  have y4 : j * (1 + j + 1) ≤ j * (t + j + 2) := Nat.mul_le_mul_left _ (by omega)
                  have y5 : t + 1 + j + 1 = t + j + 2 := by omega
                  rw [y5] at y2
                  rw [y3]
                  show uTg n (b i) j (if b i (if j < n then j else j - n) = true then 1 else t + 1) (if j < n then s + (if b i (if j < n then j else j - n) = true then 1 else t + 1) else s) ≤ _
                  by_cases c1 : b i (if j < n then j else j - n) = true
                  · rw [if_pos c1]
                    refine Nat.le_trans y1 ?_
                    split <;> omega
                  · rw [if_neg c1]
                    refine Nat.le_trans y2 ?_
                    split <;> omega
              have h7 := hb9 (2 * n) 0 0 (Nat.le_refl _)
              have h6 : 2 * n * (0 + 2 * n + 1) ≤ 12 * 13 := Nat.mul_le_mul (by omega) (by omega)
              omega⟩
            refine h8.trans ?_
            rw [q_nsub hsm.1 hsm.2, qnI_mul, qnI_mul, nI_add, Nat.mul_comm T, Nat.mul_comm G]
          simp only [hle, hwt, hwl, hso, hsf, hsa, d9, q_n1, qnI_s, qnI_mul, nI_add, ↓reduceIte]
          exact ⟨i1, i2⟩
        · rw [if_neg d9, Nat.add_zero] at i1 i2
          simp only [hle, hwt, hwl, hso, d9, qnI_s, ↓reduceIte]
          exact ⟨i1, i2⟩
