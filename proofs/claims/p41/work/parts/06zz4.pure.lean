theorem v_m0le {P : Nat → Bool} {W : Nat → Nat} {T G : Nat} {x : Nat → Nat} (hW : ∀ d, W d ≤ 99) (hT : T ≤ 99) (hG : G ≤ 99) (hx : ∀ d, P d = true → x d ≤ 6) : ∀ D : Nat, uM0 P W T G x D ≤ 130000 * D := by
  intro D
  induction D with
  | zero => exact Nat.le_refl _
  | succ D ih =>
    show uM0 P W T G x D + (if P D = true then W D * uV T G (x D) else 0) ≤ 130000 * (D + 1)
    by_cases c : P D = true
    · rw [if_pos c]
      have h1 := hx D c
      have h2 : T * (x D + 1) ≤ 99 * 7 := Nat.mul_le_mul hT (by omega)
      have h3 : G * x D ≤ 99 * 6 := Nat.mul_le_mul hG h1
      have h4 : W D * uV T G (x D) ≤ 99 * (99 * 7 + 99 * 6) := Nat.mul_le_mul (hW D) (by unfold uV; omega)
      omega
    · rw [if_neg c]; omega
theorem v_mfL {g t : Nat → Int32} {w : Int32} {n a D T G : Nat} {wb : Bool} {b : Nat → Nat → Bool} (hC : zCt g) (hn : n < 7) (ha : a < n) (hw : w = 0 ↔ wb = false) (hD : g 3 = nI D) (hD5 : D ≤ 5) (hT : g 6 = nI T) (hG : g 7 = nI G) (hT9 : T ≤ 99) (hG9 : G ≤ 99) (hb : uPl g t n D b) : ∀ (f i : Nat) (x y : Int64), (2147483647 - (nI i).toInt).toNat < f → i ≤ D → x.toInt = ((uM0 (fun d => (List.range n).any (b d)) (qWt g) T G (fun d => uX n (b d) a wb) i : Nat) : Int) → (F_r_meanFrom_L12a (nI n) g t (nI a) w f (nI i) x y).1.toInt = ((uM0 (fun d => (List.range n).any (b d)) (qWt g) T G (fun d => uX n (b d) a wb) D : Nat) : Int) := by
  intro f
  induction f with
  | zero => intro i x y hf; exact absurd hf (Nat.not_lt_zero _)
  | succ f ih =>
    intro i x y hf hi hy
    have e := nI_toInt (show i < 2147483648 by omega)
    have e2 := nI_toInt (show i + 1 < 2147483648 by omega)
    have eD := nI_toInt (show D < 2147483648 by omega)
    have en := nI_toInt (show n < 2147483648 by omega)
    have y3 : g (3 : Int32).toNatClampNeg = nI D := hD
    have hs : uM0 (fun d => (List.range n).any (b d)) (qWt g) T G (fun d => uX n (b d) a wb) (i + 1) = uM0 (fun d => (List.range n).any (b d)) (qWt g) T G (fun d => uX n (b d) a wb) i + if (List.range n).any (b i) = true then qWt g i * uV T G (uX n (b i) a wb) else 0 := rfl
    have hok := fun d => (v_okb (b := b d) hn).1 a wb ha
    have hw1 := v_m0le (P := fun d => (List.range n).any (b d)) (x := fun d => uX n (b d) a wb) (q_wt hC) hT9 hG9 (fun d hd => by have := (hok d).mpr hd; omega) i
    have hw2 := q_wt hC i
    rw [F_r_meanFrom_L12a_s]
    simp only [y3, qnI_s]
    by_cases c : i = D
    · subst c
      simp only [show nI i ≤ nI i from q_le.mpr (Int.le_refl _), ↓reduceIte]
      exact hy
    · have e1 : ((128 : Int32) + nI i).toNatClampNeg = 128 + i := q_adn (a := 128) (by omega)
      simp only [show ¬ nI D ≤ nI i from q_nle.mpr (by rw [e, eD]; omega), show ¬ nI n ≤ 0 from q_nle.mpr (by rw [en, q0]; omega), e1, q_wtE hC (show i < 5 by omega), ↓reduceIte]
      have hbi : ∀ j : Nat, j < n → (F_r_canOpen g (t j) (nI i) = 0 ↔ b i j = false) := fun j hj => by
        rw [v_co (hb i (by omega) j hj)]
        cases b i j
        · exact ⟨fun _ => rfl, fun _ => rfl⟩
        · exact ⟨fun h9 => absurd h9 q_n1, fun h9 => Bool.noConfusion h9⟩
      have hse := v_se (b0 := t) (b := b i) hT hG (show n ≤ 10 by omega) ha hw hbi
      by_cases d9 : (List.range n).any (b i) = true
      · have hx := (hok i).mpr d9
        have hv := hse.1 hx
        have h2 : T * (uX n (b i) a wb + 1) ≤ 99 * 7 := Nat.mul_le_mul hT9 (by omega)
        have h3 : G * uX n (b i) a wb ≤ 99 * 6 := Nat.mul_le_mul hG9 (by omega)
        have h5 : uV T G (uX n (b i) a wb) ≤ 99 * 7 + 99 * 6 := by unfold uV; omega
        have h4 : qWt g i * uV T G (uX n (b i) a wb) ≤ 99 * (99 * 7 + 99 * 6) := Nat.mul_le_mul hw2 h5
        have eS := nI_toInt (show uV T G (uX n (b i) a wb) < 2147483648 by omega)
        simp only [hv, show (0 : Int32) ≤ nI (uV T G (uX n (b i) a wb)) from q_le.mpr (by rw [q0, eS]; omega), ↓reduceIte]
        refine ih (i + 1) _ _ (by omega) (by omega) ?_
        rw [hs, if_pos d9]
        exact q_a64 hy (q_m64 (q_n64 (by omega)) (q_n64 (by omega)) (by omega)) (by omega)
      · have hx : uX n (b i) a wb = n := by
          have h1 := (v_fle (Q := fun k => b i (uP n a wb k)) n 0).1
          have h2 : ¬ uX n (b i) a wb < n := fun h9 => d9 ((hok i).mp h9)
          unfold uX at h2 ⊢
          omega
        have hv := hse.2 hx
        simp only [hv, show ¬ (0 : Int32) ≤ -1 by decide, ↓reduceIte]
        refine ih (i + 1) _ _ (by omega) (by omega) ?_
        rw [hs, if_neg d9, Nat.add_zero]
        exact hy
theorem v_mf {g t : Nat → Int32} {w : Int32} {n a D T G : Nat} {wb : Bool} {b : Nat → Nat → Bool} (hC : zCt g) (hn : n < 7) (ha : a < n) (hw : w = 0 ↔ wb = false) (hD : g 3 = nI D) (hD5 : D ≤ 5) (hT : g 6 = nI T) (hG : g 7 = nI G) (hT9 : T ≤ 99) (hG9 : G ≤ 99) (hb : uPl g t n D b) : (F_r_meanFrom (nI n) g t (nI a) w).1.toInt = ((uM0 (fun d => (List.range n).any (b d)) (qWt g) T G (fun d => uX n (b d) a wb) D : Nat) : Int) := by
  rw [F_r_meanFrom_s]
  exact v_mfL hC hn ha hw hD hD5 hT hG hT9 hG9 hb ((2147483647 - (0 : Int32).toInt).toNat + 1) 0 0 0 (by show (2147483647 - (0 : Int32).toInt).toNat < _; omega) (by omega) (show (0 : Int64).toInt = ((0 : Nat) : Int) by decide +kernel)
theorem v_maL {g t : Nat → Int32} {n D T G Tu : Nat} {b : Nat → Nat → Bool} (hC : zCt g) (hn : n < 7) (hD : g 3 = nI D) (hD5 : D ≤ 5) (hT : g 6 = nI T) (hG : g 7 = nI G) (hT9 : T ≤ 99) (hG9 : G ≤ 99) (hTu : g 9 = nI Tu) (hTu9 : Tu ≤ 16) (hb : uPl g t n D b) {F : Nat → Nat → Nat} (hF : F = fun a w => uM0 (fun d => (List.range n).any (b d)) (qWt g) T G (fun d => uX n (b d) a (decide (w = 1))) D) : ∀ (f i : Nat) (x y u v : Int64), (2147483647 - (nI i).toInt).toNat < f → i ≤ 2 * n → x.toInt = ((uD (fun i => (if i % 2 = 0 then 16 - Tu else Tu) * F (i / 2) (i % 2)) i : Nat) : Int) → (F_r_meanAnywhere_L7a (nI n) g t f x y (nI i) u v).1.toInt = ((uD (fun i => (if i % 2 = 0 then 16 - Tu else Tu) * F (i / 2) (i % 2)) (2 * n) : Nat) : Int) := by
  have hFle : ∀ a w : Nat, a < n → F a w ≤ 130000 * 5 := fun a w ha => by
    rw [hF]
    have h9 := v_m0le (P := fun d => (List.range n).any (b d)) (x := fun d => uX n (b d) a (decide (w = 1))) (q_wt hC) hT9 hG9 (fun d hd => by have := ((v_okb (b := b d) hn).1 a (decide (w = 1)) ha).mpr hd; omega) D
    exact Nat.le_trans h9 (by omega)
  have hDle : ∀ i : Nat, i ≤ 2 * n → uD (fun i => (if i % 2 = 0 then 16 - Tu else Tu) * F (i / 2) (i % 2)) i ≤ 16 * (130000 * 5) * i := by
    intro i
    induction i with
    | zero => intro _; exact Nat.le_refl _
    | succ i ih =>
      intro hi
      have h1 := ih (by omega)
      have h2 : (if i % 2 = 0 then 16 - Tu else Tu) * F (i / 2) (i % 2) ≤ 16 * (130000 * 5) := Nat.mul_le_mul (by split <;> omega) (hFle _ _ (by omega))
      show uD (fun i => (if i % 2 = 0 then 16 - Tu else Tu) * F (i / 2) (i % 2)) i + (if i % 2 = 0 then 16 - Tu else Tu) * F (i / 2) (i % 2) ≤ _
      omega
  intro f
  induction f with
  | zero => intro i x y u v hf; exact absurd hf (Nat.not_lt_zero _)
  | succ f ih =>
    intro i x y u v hf hi hy
    have e := nI_toInt (show i < 2147483648 by omega)
    have e2 := nI_toInt (show i + 1 < 2147483648 by omega)
    have en := nI_toInt (show 2 * n < 2147483648 by omega)
    have x1 : (2 : Int32) * nI n = nI (2 * n) := qnI_mul 2 n
    rw [F_r_meanAnywhere_L7a_s]
    simp only [x1, qnI_s]
    by_cases c : i = 2 * n
    · subst c
      simp only [show nI (2 * n) ≤ nI (2 * n) from q_le.mpr (Int.le_refl _), ↓reduceIte]
      exact hy
    · have d2 : nI i / (2 : Int32) = nI (i / 2) := q_ndiv (b := 2) (by omega) (by omega) (by omega)
      have r2 : nI i - nI (i / 2) * (2 : Int32) = nI (i % 2) := by
        rw [← d2]
        exact q_nrem (b := 2) (by omega) (by omega) (by omega)
      have y9 : g (9 : Int32).toNatClampNeg = nI Tu := hTu
      have s16 : (16 : Int32) - nI Tu = nI (16 - Tu) := q_nsub (a := 16) hTu9 (by omega)
      have hm := v_mf (t := t) (w := nI (i % 2)) (wb := decide (i % 2 = 1)) (a := i / 2) hC hn (by omega) (by
        rcases (show i % 2 = 0 ∨ i % 2 = 1 by omega) with h9 | h9
        · rw [h9]; exact ⟨fun _ => by decide, fun _ => rfl⟩
        · rw [h9]; exact ⟨fun h8 => absurd h8 (by decide +kernel), fun h8 => absurd h8 (by decide)⟩) hD hD5 hT hG hT9 hG9 hb
      have hm2 : (F_r_meanFrom (nI n) g t (nI (i / 2)) (nI (i % 2))).1.toInt = ((F (i / 2) (i % 2) : Nat) : Int) := by rw [hF]; exact hm
      have hs : uD (fun i => (if i % 2 = 0 then 16 - Tu else Tu) * F (i / 2) (i % 2)) (i + 1) = uD (fun i => (if i % 2 = 0 then 16 - Tu else Tu) * F (i / 2) (i % 2)) i + (if i % 2 = 0 then 16 - Tu else Tu) * F (i / 2) (i % 2) := rfl
      have hb1 := hDle i hi
      have hb2 := hFle (i / 2) (i % 2) (by omega)
      simp only [show ¬ nI (2 * n) ≤ nI i from q_nle.mpr (by rw [e, en]; omega), d2, r2, y9, s16, ↓reduceIte]
      by_cases p : i % 2 = 0
      · have hq : (16 - Tu) * F (i / 2) (i % 2) ≤ 16 * (130000 * 5) := Nat.mul_le_mul (by omega) hb2
        rw [if_pos (show nI (i % 2) = 0 from by rw [p]; rfl)]
        refine ih (i + 1) _ _ _ _ (by omega) (by omega) ?_
        rw [hs, if_pos p]
        exact q_a64 hy (q_m64 (q_n64 (by omega)) hm2 (by omega)) (by omega)
      · have p1 : i % 2 = 1 := by omega
        have hq : Tu * F (i / 2) (i % 2) ≤ 16 * (130000 * 5) := Nat.mul_le_mul hTu9 hb2
        rw [if_neg (show ¬ nI (i % 2) = 0 from by rw [p1]; exact q_n1)]
        refine ih (i + 1) _ _ _ _ (by omega) (by omega) ?_
        rw [hs, if_neg p]
        exact q_a64 hy (q_m64 (q_n64 (by omega)) hm2 (by omega)) (by omega)
/-- from anywhere it is 16 times what the class counts -/
theorem v_ma {g t : Nat → Int32} {n D T G Tu : Nat} {b : Nat → Nat → Bool} {u v : Int64} (hC : zCt g) (hn : n < 7) (hD : g 3 = nI D) (hD5 : D ≤ 5) (hT : g 6 = nI T) (hG : g 7 = nI G) (hT9 : T ≤ 99) (hG9 : G ≤ 99) (hTu : g 9 = nI Tu) (hTu9 : Tu ≤ 16) (hb : uPl g t n D b) : (F_r_meanAnywhere (nI n) u v g t).1.toInt = ((16 * uM1 (fun d => (List.range n).any (b d)) (qWt g) T G n (fun d => uTg n (b d) (2 * n) 0 0) D : Nat) : Int) := by
  rw [F_r_meanAnywhere_s]
  have h9 := v_maL hC hn hD hD5 hT hG hT9 hG9 hTu hTu9 hb rfl ((2147483647 - (0 : Int32).toInt).toNat + 1) 0 0 0 u v (by show (2147483647 - (0 : Int32).toInt).toNat < _; omega) (by omega) (show (0 : Int64).toInt = ((0 : Nat) : Int) by decide +kernel)
  rw [v_way (f := fun a w => uM0 (fun d => (List.range n).any (b d)) (qWt g) T G (fun d => uX n (b d) a (decide (w = 1))) D)] at h9
  have z0 := v_m1 (b := b) (W := qWt g) (T := T) (G := G) (D := D) (w := false) hn
  have z1 := v_m1 (b := b) (W := qWt g) (T := T) (G := G) (D := D) (w := true) hn
  have h8 : (16 - Tu) * uD (fun a => uM0 (fun d => (List.range n).any (b d)) (qWt g) T G (fun d => uX n (b d) a (decide (0 = 1))) D) n + Tu * uD (fun a => uM0 (fun d => (List.range n).any (b d)) (qWt g) T G (fun d => uX n (b d) a (decide (1 = 1))) D) n = 16 * uM1 (fun d => (List.range n).any (b d)) (qWt g) T G n (fun d => uTg n (b d) (2 * n) 0 0) D := by
    rw [show decide (0 = 1) = false from rfl, show decide (1 = 1) = true from rfl, z0, z1, ← Nat.add_mul, show 16 - Tu + Tu = 16 by omega]
  rw [← h8]
  exact h9
