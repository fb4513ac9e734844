theorem v_126a {n : Nat} {tr t : Nat → Int32} {a b : Int64} (hn : n ≤ 10) : ∀ (f i : Nat) (od : Nat → Int32), (2147483647 - (nI i).toInt).toNat < f → i ≤ n → (∀ j : Nat, j < i → od j = tr j) → ∃ od' : Nat → Int32, F_r_judge_L126a (nI n) tr t a b f (nI i) od = (1, a, b, a, b, t, od') ∧ ∀ j : Nat, j < n → od' j = tr j := by
  intro f
  induction f with
  | zero => intro i od hf; exact absurd hf (Nat.not_lt_zero _)
  | succ f ih =>
    intro i od hf hi h
    have e := nI_toInt (show i < 2147483648 by omega)
    have e2 := nI_toInt (show i + 1 < 2147483648 by omega)
    have en := nI_toInt (show n < 2147483648 by omega)
    rw [F_r_judge_L126a_s]
    by_cases c : i = n
    · subst c
      simp only [show nI i ≤ nI i from q_le.mpr (Int.le_refl _), ↓reduceIte]
      exact ⟨od, rfl, h⟩
    · simp only [show ¬ nI n ≤ nI i from q_nle.mpr (by rw [e, en]; omega), qnI_s, qnI_cl (show i < 2147483648 by omega), ↓reduceIte]
      refine ih (i + 1) _ (by omega) (by omega) (fun j hj => ?_)
      unfold upd
      by_cases d : j = i
      · rw [if_pos d, d]
      · rw [if_neg d]; exact h j (by omega)
theorem v_126b {n : Nat} {tr t : Nat → Int32} {a b : Int64} (hn : n ≤ 10) : ∀ (f i : Nat) (od : Nat → Int32), (2147483647 - (nI i).toInt).toNat < f → i ≤ n → (∀ j : Nat, j < i → od j = tr j) → ∃ od' : Nat → Int32, F_r_judge_L126b (nI n) tr t a b f (nI i) od = (1, a, b, a, b, t, od') ∧ ∀ j : Nat, j < n → od' j = tr j := by
  intro f
  induction f with
  | zero => intro i od hf; exact absurd hf (Nat.not_lt_zero _)
  | succ f ih =>
    intro i od hf hi h
    have e := nI_toInt (show i < 2147483648 by omega)
    have e2 := nI_toInt (show i + 1 < 2147483648 by omega)
    have en := nI_toInt (show n < 2147483648 by omega)
    rw [F_r_judge_L126b_s]
    by_cases c : i = n
    · subst c
      simp only [show nI i ≤ nI i from q_le.mpr (Int.le_refl _), ↓reduceIte]
      exact ⟨od, rfl, h⟩
    · simp only [show ¬ nI n ≤ nI i from q_nle.mpr (by rw [e, en]; omega), qnI_s, qnI_cl (show i < 2147483648 by omega), ↓reduceIte]
      refine ih (i + 1) _ (by omega) (by omega) (fun j hj => ?_)
      unfold upd
      by_cases d : j = i
      · rw [if_pos d, d]
      · rw [if_neg d]; exact h j (by omega)
theorem v_126c {n : Nat} {tr t : Nat → Int32} {a b : Int64} (hn : n ≤ 10) : ∀ (f i : Nat) (od : Nat → Int32), (2147483647 - (nI i).toInt).toNat < f → i ≤ n → (∀ j : Nat, j < i → od j = tr j) → ∃ od' : Nat → Int32, F_r_judge_L126c (nI n) tr t a b f (nI i) od = (1, a, b, a, b, t, od') ∧ ∀ j : Nat, j < n → od' j = tr j := by
  intro f
  induction f with
  | zero => intro i od hf; exact absurd hf (Nat.not_lt_zero _)
  | succ f ih =>
    intro i od hf hi h
    have e := nI_toInt (show i < 2147483648 by omega)
    have e2 := nI_toInt (show i + 1 < 2147483648 by omega)
    have en := nI_toInt (show n < 2147483648 by omega)
    rw [F_r_judge_L126c_s]
    by_cases c : i = n
    · subst c
      simp only [show nI i ≤ nI i from q_le.mpr (Int.le_refl _), ↓reduceIte]
      exact ⟨od, rfl, h⟩
    · simp only [show ¬ nI n ≤ nI i from q_nle.mpr (by rw [e, en]; omega), qnI_s, qnI_cl (show i < 2147483648 by omega), ↓reduceIte]
      refine ih (i + 1) _ (by omega) (by omega) (fun j hj => ?_)
      unfold upd
      by_cases d : j = i
      · rw [if_pos d, d]
      · rw [if_neg d]; exact h j (by omega)
theorem v_126d {n : Nat} {tr t : Nat → Int32} {a b : Int64} (hn : n ≤ 10) : ∀ (f i : Nat) (od : Nat → Int32), (2147483647 - (nI i).toInt).toNat < f → i ≤ n → (∀ j : Nat, j < i → od j = tr j) → ∃ od' : Nat → Int32, F_r_judge_L126d (nI n) tr t a b f (nI i) od = (1, a, b, a, b, t, od') ∧ ∀ j : Nat, j < n → od' j = tr j := by
  intro f
  induction f with
  | zero => intro i od hf; exact absurd hf (Nat.not_lt_zero _)
  | succ f ih =>
    intro i od hf hi h
    have e := nI_toInt (show i < 2147483648 by omega)
    have e2 := nI_toInt (show i + 1 < 2147483648 by omega)
    have en := nI_toInt (show n < 2147483648 by omega)
    rw [F_r_judge_L126d_s]
    by_cases c : i = n
    · subst c
      simp only [show nI i ≤ nI i from q_le.mpr (Int.le_refl _), ↓reduceIte]
      exact ⟨od, rfl, h⟩
    · simp only [show ¬ nI n ≤ nI i from q_nle.mpr (by rw [e, en]; omega), qnI_s, qnI_cl (show i < 2147483648 by omega), ↓reduceIte]
      refine ih (i + 1) _ (by omega) (by omega) (fun j hj => ?_)
      unfold upd
      by_cases d : j = i
      · rw [if_pos d, d]
      · rw [if_neg d]; exact h j (by omega)
theorem v_jc {n : Nat} {how hb : Int32} {bt bb mt mb : Int64} {g tr od : Nat → Int32} (hn : n ≤ 10) : ∀ (f i : Nat) (t : Nat → Int32), (2147483647 - (nI i).toInt).toNat < f → i ≤ n → (∀ j : Nat, j < i → t j = tr j) → ∃ (f' : Nat) (t' : Nat → Int32), F_r_judge_L2a (nI n) how (nI n) hb bt bb mt mb g tr od f (nI i) t = F_r_judge_L2a (nI n) how (nI n) hb bt bb mt mb g tr od (f' + 1) (nI n) t' ∧ ∀ j : Nat, j < n → t' j = tr j := by
  intro f
  induction f with
  | zero => intro i t hf; exact absurd hf (Nat.not_lt_zero _)
  | succ f ih =>
    intro i t hf hi h
    have e := nI_toInt (show i < 2147483648 by omega)
    have e2 := nI_toInt (show i + 1 < 2147483648 by omega)
    have en := nI_toInt (show n < 2147483648 by omega)
    by_cases c : i = n
    · subst c
      exact ⟨f, t, rfl, h⟩
    · have hz : F_r_judge_L2a (nI n) how (nI n) hb bt bb mt mb g tr od (f + 1) (nI i) t = F_r_judge_L2a (nI n) how (nI n) hb bt bb mt mb g tr od f (nI (i + 1)) (upd t i (tr i)) := by
        rw [F_r_judge_L2a_s]
        simp only [show ¬ nI n ≤ nI i from q_nle.mpr (by rw [e, en]; omega), qnI_s, qnI_cl (show i < 2147483648 by omega), ↓reduceIte]
      rw [hz]
      refine ih (i + 1) _ (by omega) (by omega) (fun j hj => ?_)
      unfold upd
      by_cases d : j = i
      · rw [if_pos d, d]
      · rw [if_neg d]; exact h j (by omega)
/-- the KEYS in an order: which one opens -/
noncomputable def uBb (g K : Nat → Int32) (l : List Nat) (d i : Nat) : Bool := qCo g (nI d) (K (l.getD i 0))
noncomputable def uAn (g K : Nat → Int32) (n d : Nat) : Bool := (List.range n).any (fun i => qCo g (nI d) (K i))
theorem v_lp {n : Nat} {l : List Nat} (hl : l.length = n) (hN : l.Nodup) (h : ∀ i : Nat, i < n → l.getD i 0 < n) : List.Perm l (List.range n) := by
  refine q_subP0 l (List.range n) hN (fun x hx => ?_) (by rw [List.length_range]; omega)
  obtain ⟨i, hi, e⟩ := List.mem_iff_getElem.mp hx
  have h9 := h i (by omega)
  rw [List.getD_eq_getElem?_getD, List.getElem?_eq_getElem hi] at h9
  exact List.mem_range.mpr (by rw [← e]; exact h9)
theorem v_an {g K : Nat → Int32} {n d : Nat} {l : List Nat} (hl : l.length = n) (hN : l.Nodup) (h : ∀ i : Nat, i < n → l.getD i 0 < n) : (List.range n).any (uBb g K l d) = uAn g K n d := by
  have hp := v_lp hl hN h
  refine Bool.eq_iff_iff.mpr ?_
  unfold uAn
  rw [List.any_eq_true, List.any_eq_true]
  constructor
  · rintro ⟨x, x1, x2⟩
    exact ⟨l.getD x 0, List.mem_range.mpr (h x (List.mem_range.mp x1)), x2⟩
  · rintro ⟨x, x1, x2⟩
    obtain ⟨i, hi, e⟩ := List.mem_iff_getElem.mp (hp.mem_iff.mpr x1)
    refine ⟨i, List.mem_range.mpr (by omega), ?_⟩
    show qCo g (nI d) (K (l.getD i 0)) = true
    rw [List.getD_eq_getElem?_getD, List.getElem?_eq_getElem hi]
    show qCo g (nI d) (K l[i]) = true
    rw [e]
    exact x2
theorem v_wsc {P P' : Nat → Bool} {W : Nat → Nat} : ∀ D : Nat, (∀ d : Nat, d < D → P d = P' d) → qWs P W D = qWs P' W D := by
  intro D
  induction D with
  | zero => intro _; rfl
  | succ D ih =>
    intro h
    show qWs P W D + (if P D = true then W D else 0) = qWs P' W D + (if P' D = true then W D else 0)
    rw [ih (fun d hd => h d (by omega)), h D (by omega)]
/-- how much an order is: from the start, and from anywhere -/
noncomputable def uMs (how : Nat) (g K : Nat → Int32) (T G n D : Nat) (l : List Nat) : Nat := if how = 0 then uM0 (fun d => (List.range n).any (uBb g K l d)) (qWt g) T G (fun d => uX n (uBb g K l d) 0 false) D else uM1 (fun d => (List.range n).any (uBb g K l d)) (qWt g) T G n (fun d => uTg n (uBb g K l d) (2 * n) 0 0) D
theorem v_msle {how : Nat} {g K : Nat → Int32} {T G n D : Nat} {l : List Nat} (hC : zCt g) (hn : n < 7) (hn0 : 0 < n) (hD5 : D ≤ 5) (hT9 : T ≤ 99) (hG9 : G ≤ 99) : uMs how g K T G n D l ≤ 100000000 := by
  have h0 : ∀ (a : Nat) (w : Bool), a < n → uM0 (fun d => (List.range n).any (uBb g K l d)) (qWt g) T G (fun d => uX n (uBb g K l d) a w) D ≤ 650000 := fun a w ha => by
    have h9 := v_m0le (P := fun d => (List.range n).any (uBb g K l d)) (x := fun d => uX n (uBb g K l d) a w) (q_wt hC) hT9 hG9 (fun d hd => by have := ((v_okb (b := uBb g K l d) hn).1 a w ha).mpr hd; omega) D
    exact Nat.le_trans h9 (by omega)
  unfold uMs
  split
  · exact Nat.le_trans (h0 0 false hn0) (by omega)
  · rw [← v_m1 (w := false) hn]
    have h1 : ∀ m : Nat, m ≤ n → uD (fun a => uM0 (fun d => (List.range n).any (uBb g K l d)) (qWt g) T G (fun d => uX n (uBb g K l d) a false) D) m ≤ 650000 * m := by
      intro m
      induction m with
      | zero => intro _; exact Nat.le_refl _
      | succ m ih =>
        intro hm
        have := ih (by omega)
        have := h0 m false (by omega)
        show uD (fun a => uM0 (fun d => (List.range n).any (uBb g K l d)) (qWt g) T G (fun d => uX n (uBb g K l d) a false) D) m + uM0 (fun d => (List.range n).any (uBb g K l d)) (qWt g) T G (fun d => uX n (uBb g K l d) m false) D ≤ 650000 * (m + 1)
        omega
    have := h1 n (Nat.le_refl _)
    omega
/-- the better one stays -/
theorem v_rb {K : Nat → Int32} {n c Bc x y : Nat} {l : List Nat} {bt bb mt mb : Int64} (hc : 0 < c) (hB : 0 < Bc) (hc9 : c ≤ 16) (hB9 : Bc ≤ 100000) (hx : x ≤ 100000000) (hy : y ≤ 100000000) (h1 : mt.toInt = ((c * x : Nat) : Int)) (h2 : mb.toInt = (Bc : Int)) (h3 : bt.toInt = ((c * y : Nat) : Int)) (h4 : bb.toInt = (Bc : Int)) : lg_cmp (mt * bb) (bt * mb) < 0 ↔ x < y := by
  have a1 : c * x ≤ 16 * 100000000 := Nat.mul_le_mul hc9 hx
  have a2 : c * y ≤ 16 * 100000000 := Nat.mul_le_mul hc9 hy
  have b1 : c * x * Bc ≤ 16 * 100000000 * 100000 := Nat.mul_le_mul a1 hB9
  have b2 : c * y * Bc ≤ 16 * 100000000 * 100000 := Nat.mul_le_mul a2 hB9
  rw [lg_cmp_lt, Int64.lt_iff_toInt_lt, q_m64b h1 h4 (by omega), q_m64b h3 h2 (by omega), Int.ofNat_lt]
  constructor
  · intro h
    exact Nat.lt_of_mul_lt_mul_left (Nat.lt_of_mul_lt_mul_right h)
  · intro h
    exact Nat.mul_lt_mul_of_pos_right (Nat.mul_lt_mul_of_pos_left h hc) hB
theorem v_hj0 {g K : Nat → Int32} {n D T G Tu : Nat} (hC : zCt g) (hn : n < 7) (hn0 : 0 < n) (hD : g 3 = nI D) (hD5 : D ≤ 5) (hT : g 6 = nI T) (hG : g 7 = nI G) (hT9 : T ≤ 99) (hG9 : G ≤ 99) (hTu : g 9 = nI Tu) (hTu9 : Tu ≤ 16) (hpos : 0 < qWs (uAn g K n) (qWt g) D) : qHJ K n 1 (qWs (uAn g K n) (qWt g) D) (uMs 0 g K T G n D) 0 g := by
  intro l tr od t hb bt bb mt mb B hl hlt htr hN hB
  have hw9 := q_wsLe (P := uAn g K n) (q_wt hC) D
  have hBc : 0 < qWs (uAn g K n) (qWt g) D ∧ qWs (uAn g K n) (qWt g) D ≤ 100000 := by
    omega
  rw [F_r_judge_s]
  obtain ⟨f2, t2, e2, ht2⟩ := v_jc (n := n) (how := 0) (hb := hb) (bt := bt) (bb := bb) (mt := mt) (mb := mb) (g := g) (tr := tr) (od := od) (by omega) ((2147483647 - (0 : Int32).toInt).toNat + 1) 0 t (by show (2147483647 - (0 : Int32).toInt).toNat < _; omega) (by omega) (fun j hj => absurd hj (Nat.not_lt_zero _))
  have e3 : F_r_judge_L2a (nI n) 0 (nI n) hb bt bb mt mb g tr od ((2147483647 - (0 : Int32).toInt).toNat + 1) 0 t = _ := e2
  rw [e3, F_r_judge_L2a_s]
  have hpl : uPl g t2 n D (uBb g K l) := fun d _ i hi => by
    show qCo g (nI d) (t2 i) = qCo g (nI d) (K (l.getD i 0))
    rw [ht2 i hi, htr i hi]
  have hws : qWs (fun j => (qRw n t2 0).any (qCo g (nI j))) (qWt g) D = qWs (uAn g K n) (qWt g) D := v_wsc D (fun d hd => by
    show (qRw n t2 0).any (qCo g (nI d)) = uAn g K n d
    rw [v_any (hpl d hd), v_an hl hN hlt])
  have hle9 := v_msle (how := 0) (g := g) (K := K) (T := T) (G := G) (n := n) (D := D) (l := l) hC hn hn0 hD5 hT9 hG9
  have hmm : (F_r_meanFrom (nI n) g t2 0 0).1.toInt = ((1 * uMs 0 g K T G n D l : Nat) : Int) ∧ (F_r_meanFrom (nI n) g t2 0 0).2.toInt = ((qWs (uAn g K n) (qWt g) D : Nat) : Int) := by
    have m1 : (F_r_meanFrom (nI n) g t2 0 0).1.toInt = ((1 * uMs 0 g K T G n D l : Nat) : Int) := by
      rw [Nat.one_mul]
      exact v_mf (a := 0) (w := 0) (wb := false) hC hn hn0 ⟨fun _ => rfl, fun _ => rfl⟩ hD hD5 hT hG hT9 hG9 hpl
    have m2 : (F_r_meanFrom (nI n) g t2 0 0).2.toInt = ((qWs (uAn g K n) (qWt g) D : Nat) : Int) := by
      have h9 := q_mf (t := t2) (w := 0) hC (show n ≤ 10 by omega) hn0 hD hD5
      rw [hws] at h9
      exact h9
    exact ⟨m1, m2⟩
  generalize (F_r_meanFrom (nI n) g t2 0 0) = W9 at hmm ⊢
  obtain ⟨m1, m2⟩ := hmm
  simp only [show nI n ≤ nI n from q_le.mpr (Int.le_refl _), show ¬ (0 : Int32) = 2 from by decide, ↓reduceIte]
  cases B with
  | none =>
    have hb0 : hb = 0 := hB
    obtain ⟨od2, a1, a2⟩ := v_126c (n := n) (tr := tr) (t := t2) (a := W9.1) (b := W9.2) (by omega) ((2147483647 - (0 : Int32).toInt).toNat + 1) 0 od (by show (2147483647 - (0 : Int32).toInt).toNat < _; omega) (by omega) (fun j hj => absurd hj (Nat.not_lt_zero _))
    have a3 : F_r_judge_L126c (nI n) tr t2 W9.1 W9.2 ((2147483647 - (0 : Int32).toInt).toNat + 1) 0 od = _ := a1
    simp only [hb0, a3, ↓reduceIte]
    exact ⟨rfl, m1, hle9, m2, fun i hi => (a2 i hi).trans (htr i hi)⟩
  | some q =>
    obtain ⟨b1, b2, b3, b4, b5⟩ := id hB
    have hlt9 := v_rb (K := K) (n := n) (l := l) (x := uMs 0 g K T G n D l) (y := q.1) (c := 1) (by omega) hBc.1 (by omega) hBc.2 hle9 b3 m1 m2 b2 b4
    have hS : qStp (uMs 0 g K T G n D) (some q) l = if uMs 0 g K T G n D l < q.1 then some (uMs 0 g K T G n D l, l) else some q := rfl
    rw [hS]
    by_cases d9 : uMs 0 g K T G n D l < q.1
    · obtain ⟨od2, a1, a2⟩ := v_126d (n := n) (tr := tr) (t := t2) (a := W9.1) (b := W9.2) (by omega) ((2147483647 - (0 : Int32).toInt).toNat + 1) 0 od (by show (2147483647 - (0 : Int32).toInt).toNat < _; omega) (by omega) (fun j hj => absurd hj (Nat.not_lt_zero _))
      have a3 : F_r_judge_L126d (nI n) tr t2 W9.1 W9.2 ((2147483647 - (0 : Int32).toInt).toNat + 1) 0 od = _ := a1
      simp only [b1, q_n1, hlt9.mpr d9, d9, a3, ↓reduceIte]
      exact ⟨rfl, m1, hle9, m2, fun i hi => (a2 i hi).trans (htr i hi)⟩
    · have hlt8 : ¬ lg_cmp (W9.1 * bb) (bt * W9.2) < 0 := fun h9 => d9 (hlt9.mp h9)
      rw [b1] at hB
      simp only [b1, q_n1, hlt8, d9, ↓reduceIte]
      exact hB
theorem v_hj1 {g K : Nat → Int32} {n D T G Tu : Nat} (hC : zCt g) (hn : n < 7) (hn0 : 0 < n) (hD : g 3 = nI D) (hD5 : D ≤ 5) (hT : g 6 = nI T) (hG : g 7 = nI G) (hT9 : T ≤ 99) (hG9 : G ≤ 99) (hTu : g 9 = nI Tu) (hTu9 : Tu ≤ 16) (hpos : 0 < qWs (uAn g K n) (qWt g) D) : qHJ K n 16 (qWs (uAn g K n) (qWt g) D * 16 * n) (uMs 1 g K T G n D) 1 g := by
  intro l tr od t hb bt bb mt mb B hl hlt htr hN hB
  have hw9 := q_wsLe (P := uAn g K n) (q_wt hC) D
  have hBc : 0 < qWs (uAn g K n) (qWt g) D * 16 * n ∧ qWs (uAn g K n) (qWt g) D * 16 * n ≤ 100000 := by
    have h1 : qWs (uAn g K n) (qWt g) D * 16 * n ≤ (99 * 5 * 16) * 6 := Nat.mul_le_mul (by omega) (by omega)
    exact ⟨Nat.mul_pos (by omega) hn0, by omega⟩
  rw [F_r_judge_s]
  obtain ⟨f2, t2, e2, ht2⟩ := v_jc (n := n) (how := 1) (hb := hb) (bt := bt) (bb := bb) (mt := mt) (mb := mb) (g := g) (tr := tr) (od := od) (by omega) ((2147483647 - (0 : Int32).toInt).toNat + 1) 0 t (by show (2147483647 - (0 : Int32).toInt).toNat < _; omega) (by omega) (fun j hj => absurd hj (Nat.not_lt_zero _))
  have e3 : F_r_judge_L2a (nI n) 1 (nI n) hb bt bb mt mb g tr od ((2147483647 - (0 : Int32).toInt).toNat + 1) 0 t = _ := e2
  rw [e3, F_r_judge_L2a_s]
  have hpl : uPl g t2 n D (uBb g K l) := fun d _ i hi => by
    show qCo g (nI d) (t2 i) = qCo g (nI d) (K (l.getD i 0))
    rw [ht2 i hi, htr i hi]
  have hws : qWs (fun j => (qRw n t2 0).any (qCo g (nI j))) (qWt g) D = qWs (uAn g K n) (qWt g) D := v_wsc D (fun d hd => by
    show (qRw n t2 0).any (qCo g (nI d)) = uAn g K n d
    rw [v_any (hpl d hd), v_an hl hN hlt])
  have hle9 := v_msle (how := 1) (g := g) (K := K) (T := T) (G := G) (n := n) (D := D) (l := l) hC hn hn0 hD5 hT9 hG9
  have hmm : (F_r_meanAnywhere (nI n) mt mb g t2).1.toInt = ((16 * uMs 1 g K T G n D l : Nat) : Int) ∧ (F_r_meanAnywhere (nI n) mt mb g t2).2.toInt = ((qWs (uAn g K n) (qWt g) D * 16 * n : Nat) : Int) := by
    have m1 : (F_r_meanAnywhere (nI n) mt mb g t2).1.toInt = ((16 * uMs 1 g K T G n D l : Nat) : Int) := v_ma hC hn hD hD5 hT hG hT9 hG9 hTu hTu9 hpl
    have m2 : (F_r_meanAnywhere (nI n) mt mb g t2).2.toInt = ((qWs (uAn g K n) (qWt g) D * 16 * n : Nat) : Int) := by
      rw [F_r_meanAnywhere_s]
      have h9 := q_maL (t := t2) hC (show n ≤ 10 by omega) hD hD5 ((2147483647 - (0 : Int32).toInt).toNat + 1) 0 0 0 mt mb (by show (2147483647 - (0 : Int32).toInt).toNat < _; omega) (by omega) (fun h8 => by omega)
      rw [hws] at h9
      exact h9
    exact ⟨m1, m2⟩
  generalize (F_r_meanAnywhere (nI n) mt mb g t2) = W9 at hmm ⊢
  obtain ⟨m1, m2⟩ := hmm
  simp only [show nI n ≤ nI n from q_le.mpr (Int.le_refl _), show ¬ (1 : Int32) = 2 from by decide, show ¬ (1 : Int32) = 0 from by decide, ↓reduceIte]
  cases B with
  | none =>
    have hb0 : hb = 0 := hB
    obtain ⟨od2, a1, a2⟩ := v_126a (n := n) (tr := tr) (t := t2) (a := W9.1) (b := W9.2) (by omega) ((2147483647 - (0 : Int32).toInt).toNat + 1) 0 od (by show (2147483647 - (0 : Int32).toInt).toNat < _; omega) (by omega) (fun j hj => absurd hj (Nat.not_lt_zero _))
    have a3 : F_r_judge_L126a (nI n) tr t2 W9.1 W9.2 ((2147483647 - (0 : Int32).toInt).toNat + 1) 0 od = _ := a1
    simp only [hb0, a3, ↓reduceIte]
    exact ⟨rfl, m1, hle9, m2, fun i hi => (a2 i hi).trans (htr i hi)⟩
  | some q =>
    obtain ⟨b1, b2, b3, b4, b5⟩ := id hB
    have hlt9 := v_rb (K := K) (n := n) (l := l) (x := uMs 1 g K T G n D l) (y := q.1) (c := 16) (by omega) hBc.1 (by omega) hBc.2 hle9 b3 m1 m2 b2 b4
    have hS : qStp (uMs 1 g K T G n D) (some q) l = if uMs 1 g K T G n D l < q.1 then some (uMs 1 g K T G n D l, l) else some q := rfl
    rw [hS]
    by_cases d9 : uMs 1 g K T G n D l < q.1
    · obtain ⟨od2, a1, a2⟩ := v_126b (n := n) (tr := tr) (t := t2) (a := W9.1) (b := W9.2) (by omega) ((2147483647 - (0 : Int32).toInt).toNat + 1) 0 od (by show (2147483647 - (0 : Int32).toInt).toNat < _; omega) (by omega) (fun j hj => absurd hj (Nat.not_lt_zero _))
      have a3 : F_r_judge_L126b (nI n) tr t2 W9.1 W9.2 ((2147483647 - (0 : Int32).toInt).toNat + 1) 0 od = _ := a1
      simp only [b1, q_n1, hlt9.mpr d9, d9, a3, ↓reduceIte]
      exact ⟨rfl, m1, hle9, m2, fun i hi => (a2 i hi).trans (htr i hi)⟩
    · have hlt8 : ¬ lg_cmp (W9.1 * bb) (bt * W9.2) < 0 := fun h9 => d9 (hlt9.mp h9)
      rw [b1] at hB
      simp only [b1, q_n1, hlt8, d9, ↓reduceIte]
      exact hB
