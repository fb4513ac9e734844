theorem v_126e {n : Nat} {tr t : Nat → Int32} {a : Int64} (hn : n ≤ 10) : ∀ (f i : Nat) (od : Nat → Int32), (2147483647 - (nI i).toInt).toNat < f → i ≤ n → (∀ j : Nat, j < i → od j = tr j) → ∃ od' : Nat → Int32, F_r_judge_L126e (nI n) tr t a f (nI i) od = (1, a, 1, a, 1, t, od') ∧ ∀ j : Nat, j < n → od' j = tr j := by
  intro f
  induction f with
  | zero => intro i od hf; exact absurd hf (Nat.not_lt_zero _)
  | succ f ih =>
    intro i od hf hi h
    have e := nI_toInt (show i < 2147483648 by omega)
    have e2 := nI_toInt (show i + 1 < 2147483648 by omega)
    have en := nI_toInt (show n < 2147483648 by omega)
    rw [F_r_judge_L126e_s]
    by_cases c : i = n
    · subst c
      simp only [show nI i ≤ nI i from q_le.mpr (Int.le_refl _), ↓reduceIte]
      exact ⟨od, rfl, h⟩
    · simp only [show ¬ nI n ≤ nI i from q_nle.mpr (by rw [e, en]; omega), qnI_s, qnI_cl (show i < 2147483648 by omega), ↓reduceIte]
      refine ih (i + 1) _ (by omega) (by omega) (fun j hj => ?_)
      unfold upd
      by_cases d : j = i
      · rw [if_pos d, d]
      · rw [if_neg d]; exact h j (by omega)
theorem v_126f {n : Nat} {tr t : Nat → Int32} {a : Int64} (hn : n ≤ 10) : ∀ (f i : Nat) (od : Nat → Int32), (2147483647 - (nI i).toInt).toNat < f → i ≤ n → (∀ j : Nat, j < i → od j = tr j) → ∃ od' : Nat → Int32, F_r_judge_L126f (nI n) tr t a f (nI i) od = (1, a, 1, a, 1, t, od') ∧ ∀ j : Nat, j < n → od' j = tr j := by
  intro f
  induction f with
  | zero => intro i od hf; exact absurd hf (Nat.not_lt_zero _)
  | succ f ih =>
    intro i od hf hi h
    have e := nI_toInt (show i < 2147483648 by omega)
    have e2 := nI_toInt (show i + 1 < 2147483648 by omega)
    have en := nI_toInt (show n < 2147483648 by omega)
    rw [F_r_judge_L126f_s]
    by_cases c : i = n
    · subst c
      simp only [show nI i ≤ nI i from q_le.mpr (Int.le_refl _), ↓reduceIte]
      exact ⟨od, rfl, h⟩
    · simp only [show ¬ nI n ≤ nI i from q_nle.mpr (by rw [e, en]; omega), qnI_s, qnI_cl (show i < 2147483648 by omega), ↓reduceIte]
      refine ih (i + 1) _ (by omega) (by omega) (fun j hj => ?_)
      unfold upd
      by_cases d : j = i
      · rw [if_pos d, d]
      · rw [if_neg d]; exact h j (by omega)
theorem v_nsM {Q : Nat → Bool} {n p : Nat} : ∀ (m a x : Nat), ∃ y : Nat, uNr Q n p m a (some x) = some y := by
  intro m
  induction m with
  | zero => intro a x; exact ⟨x, rfl⟩
  | succ m ih =>
    intro a x
    show ∃ y : Nat, uNr Q n p m (a + 1) (if (Q ((p + a) % n) && uLt n a (some x)) = true then some a else some x) = some y
    split
    · exact ih _ _
    · exact ih _ _
theorem v_ns {Q : Nat → Bool} {n p : Nat} : ∀ (m a : Nat) (c : Option Nat), (∃ j : Nat, a ≤ j ∧ j < a + m ∧ Q ((p + j) % n) = true) → ∃ y : Nat, uNr Q n p m a c = some y := by
  intro m
  induction m with
  | zero => rintro a c ⟨j, j1, j2, -⟩; omega
  | succ m ih =>
    rintro a c ⟨j, j1, j2, j3⟩
    show ∃ y : Nat, uNr Q n p m (a + 1) (if (Q ((p + a) % n) && uLt n a c) = true then some a else c) = some y
    by_cases e : j = a
    · subst e
      rw [j3]
      cases c with
      | none => exact v_nsM _ _ _
      | some x =>
        split
        · exact v_nsM _ _ _
        · exact v_nsM _ _ _
    · exact ih (a + 1) _ ⟨j, by omega, by omega, j3⟩
theorem v_wks {Qs : Nat → Nat → Bool} {n T G : Nat} (hn : n < 7) (hT : T ≤ 99) (hG : G ≤ 99) : ∀ (m k p s : Nat), p < n → (∀ j : Nat, k ≤ j → j < k + m → ∃ i : Nat, i < n ∧ Qs j i = true) → ∃ z : Nat, uWk Qs n T G m k p s = some z ∧ z ≤ s + 700 * m := by
  intro m
  induction m with
  | zero => intro k p s _ _; exact ⟨s, rfl, Nat.le_refl _⟩
  | succ m ih =>
    intro k p s hp h
    obtain ⟨i, i1, i2⟩ := h k (Nat.le_refl _) (by omega)
    obtain ⟨x, hx⟩ := v_ns (Q := Qs k) (n := n) (p := p) n 0 none (by
      by_cases c : p ≤ i
      · exact ⟨i - p, Nat.zero_le _, by omega, by rw [show p + (i - p) = i by omega, Nat.mod_eq_of_lt i1]; exact i2⟩
      · exact ⟨i + n - p, Nat.zero_le _, by omega, by rw [show p + (i + n - p) = i + n by omega, Nat.add_mod_right, Nat.mod_eq_of_lt i1]; exact i2⟩)
    obtain ⟨z, z1, z2⟩ := ih (k + 1) ((p + x) % n) (s + (min x (n - x) * G + T)) (Nat.mod_lt _ (by omega)) (fun j j1 j2 => h j (by omega) (by omega))
    have h9 : min x (n - x) * G ≤ 6 * 99 := Nat.mul_le_mul (by omega) hG
    refine ⟨z, ?_, by omega⟩
    show (match uNr (Qs k) n p n 0 none with
      | none => none
      | some x => uWk Qs n T G m (k + 1) ((p + x) % n) (s + (min x (n - x) * G + T))) = some z
    rw [hx]
    exact z1
noncomputable def uQs (g K : Nat → Int32) (l : List Nat) (k i : Nat) : Bool := qCo g (g (138 + k)) (K (l.getD i 0))
noncomputable def uM2 (g K : Nat → Int32) (T G n R : Nat) (l : List Nat) : Nat := (uWk (uQs g K l) n T G R 0 0 0).getD 0
theorem v_m2 {g K : Nat → Int32} {T G n R : Nat} {l : List Nat} (hn : n < 7) (hn0 : 0 < n) (hT : T ≤ 99) (hG : G ≤ 99) (hR : R ≤ 12) (h : ∀ k : Nat, k < R → ∃ i : Nat, i < n ∧ uQs g K l k i = true) : uWk (uQs g K l) n T G R 0 0 0 = some (uM2 g K T G n R l) ∧ uM2 g K T G n R l ≤ 100000000 := by
  obtain ⟨z, z1, z2⟩ := v_wks hn hT hG R 0 0 0 hn0 (fun j _ hj => h j (by omega))
  unfold uM2
  rw [z1]
  exact ⟨rfl, show z ≤ 100000000 by omega⟩
theorem v_hj2 {g K : Nat → Int32} {n T G R : Nat} (hn : n < 7) (hn0 : 0 < n) (hT : g 6 = nI T) (hG : g 7 = nI G) (hT9 : T ≤ 99) (hG9 : G ≤ 99) (hR : g 4 = nI R) (hR9 : R ≤ 12) (hop : ∀ k : Nat, k < R → ∃ i : Nat, i < n ∧ qCo g (g (138 + k)) (K i) = true) : qHJ K n 1 1 (uM2 g K T G n R) 2 g := by
  intro l tr od t hb bt bb mt mb B hl hlt htr hN hB
  rw [F_r_judge_s]
  obtain ⟨f2, t2, e2, ht2⟩ := v_jc (n := n) (how := 2) (hb := hb) (bt := bt) (bb := bb) (mt := mt) (mb := mb) (g := g) (tr := tr) (od := od) (by omega) ((2147483647 - (0 : Int32).toInt).toNat + 1) 0 t (by show (2147483647 - (0 : Int32).toInt).toNat < _; omega) (by omega) (fun j hj => absurd hj (Nat.not_lt_zero _))
  have e3 : F_r_judge_L2a (nI n) 2 (nI n) hb bt bb mt mb g tr od ((2147483647 - (0 : Int32).toInt).toNat + 1) 0 t = _ := e2
  rw [e3, F_r_judge_L2a_s]
  have hp := v_lp hl hN hlt
  obtain ⟨z1, z2⟩ := v_m2 (g := g) (K := K) (l := l) hn hn0 hT9 hG9 hR9 (fun k hk => by
    obtain ⟨i, i1, i2⟩ := hop k hk
    obtain ⟨a, ha, e⟩ := List.mem_iff_getElem.mp (hp.mem_iff.mpr (List.mem_range.mpr i1))
    refine ⟨a, by omega, ?_⟩
    show qCo g (g (138 + k)) (K (l.getD a 0)) = true
    rw [List.getD_eq_getElem?_getD, List.getElem?_eq_getElem ha]
    show qCo g (g (138 + k)) (K l[a]) = true
    rw [e]
    exact i2)
  have hw : F_r_walk (nI n) g t2 = nI (uM2 g K T G n R l) := by
    rw [F_r_walk_s]
    have h9 := v_wkL (t := t2) (Qs := uQs g K l) hT hG hR hR9 hn (fun k hk i hi => v_co (by
      show qCo g (g (138 + k)) (t2 i) = qCo g (g (138 + k)) (K (l.getD i 0))
      rw [ht2 i hi, htr i hi])) ((2147483647 - (0 : Int32).toInt).toNat + 1) 0 0 0 (by show (2147483647 - (0 : Int32).toInt).toNat < _; omega) (by omega) hn0
    rw [Nat.sub_zero, z1] at h9
    exact h9
  have m1 : (nI (uM2 g K T G n R l)).toInt64.toInt = ((1 * uM2 g K T G n R l : Nat) : Int) := by
    rw [Nat.one_mul]
    exact q_n64 (by omega)
  have m2 : (1 : Int64).toInt = ((1 : Nat) : Int) := by decide +kernel
  simp only [show nI n ≤ nI n from q_le.mpr (Int.le_refl _), hw, ↓reduceIte]
  generalize (nI (uM2 g K T G n R l)).toInt64 = W9 at m1 ⊢
  cases B with
  | none =>
    have hb0 : hb = 0 := hB
    obtain ⟨od2, a1, a2⟩ := v_126e (n := n) (tr := tr) (t := t2) (a := W9) (by omega) ((2147483647 - (0 : Int32).toInt).toNat + 1) 0 od (by show (2147483647 - (0 : Int32).toInt).toNat < _; omega) (by omega) (fun j hj => absurd hj (Nat.not_lt_zero _))
    have a3 : F_r_judge_L126e (nI n) tr t2 W9 ((2147483647 - (0 : Int32).toInt).toNat + 1) 0 od = _ := a1
    simp only [hb0, a3, ↓reduceIte]
    exact ⟨rfl, m1, z2, m2, fun i hi => (a2 i hi).trans (htr i hi)⟩
  | some q =>
    obtain ⟨b1, b2, b3, b4, b5⟩ := id hB
    have hlt9 := v_rb (K := K) (n := n) (l := l) (x := uM2 g K T G n R l) (y := q.1) (c := 1) (Bc := 1) (mb := 1) (by omega) (by omega) (by omega) (by omega) z2 b3 m1 m2 b2 b4
    have hS : qStp (uM2 g K T G n R) (some q) l = if uM2 g K T G n R l < q.1 then some (uM2 g K T G n R l, l) else some q := rfl
    rw [hS]
    by_cases d9 : uM2 g K T G n R l < q.1
    · obtain ⟨od2, a1, a2⟩ := v_126f (n := n) (tr := tr) (t := t2) (a := W9) (by omega) ((2147483647 - (0 : Int32).toInt).toNat + 1) 0 od (by show (2147483647 - (0 : Int32).toInt).toNat < _; omega) (by omega) (fun j hj => absurd hj (Nat.not_lt_zero _))
      have a3 : F_r_judge_L126f (nI n) tr t2 W9 ((2147483647 - (0 : Int32).toInt).toNat + 1) 0 od = _ := a1
      simp only [b1, q_n1, hlt9.mpr d9, d9, a3, ↓reduceIte]
      exact ⟨rfl, m1, z2, m2, fun i hi => (a2 i hi).trans (htr i hi)⟩
    · have hlt8 : ¬ lg_cmp (W9 * bb) (bt * 1) < 0 := fun h9 => d9 (hlt9.mp h9)
      rw [b1] at hB
      simp only [b1, q_n1, hlt8, d9, ↓reduceIte]
      exact hB
