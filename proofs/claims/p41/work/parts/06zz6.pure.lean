theorem v_fs {ms : List Nat → Nat} : ∀ (ls : List (List Nat)) (b : Nat × List Nat), ∃ b' : Nat × List Nat, ls.foldl (qStp ms) (some b) = some b' := by
  intro ls
  induction ls with
  | nil => intro b; exact ⟨b, rfl⟩
  | cons l ls ih =>
    intro b
    have hS : qStp ms (some b) l = if ms l < b.1 then some (ms l, l) else some b := rfl
    show ∃ b' : Nat × List Nat, ls.foldl (qStp ms) (qStp ms (some b) l) = some b'
    rw [hS]
    split
    · exact ih _
    · exact ih _
theorem v_fn {ms : List Nat → Nat} {n : Nat} (hn : n < 7) : ∃ b : Nat × List Nat, (uExt n n []).foldl (qStp ms) none = some b := by
  have h9 := u_ex1 n hn
  cases h8 : uExt n n [] with
  | nil => rw [h8] at h9; cases h9
  | cons l ls => exact v_fs ls (ms l, l)
theorem v_15 {n : Nat} {how : Int32} {bt bb mt mb : Int64} {g t tr fo od : Nat → Int32} (hn : n ≤ 10) : ∀ (f i : Nat) (bs : Nat → Int32), (2147483647 - (nI i).toInt).toNat < f → i ≤ n → (∀ j : Nat, j < i → bs j = t j) → ∃ (f' : Nat) (bs' : Nat → Int32), F_r_findOrder_L15a (nI n) bt bb mt mb g t tr fo od how f (nI i) bs = F_r_findOrder_L15a (nI n) bt bb mt mb g t tr fo od how (f' + 1) (nI n) bs' ∧ ∀ j : Nat, j < n → bs' j = t j := by
  intro f
  induction f with
  | zero => intro i bs hf; exact absurd hf (Nat.not_lt_zero _)
  | succ f ih =>
    intro i bs hf hi h
    have e := nI_toInt (show i < 2147483648 by omega)
    have e2 := nI_toInt (show i + 1 < 2147483648 by omega)
    have en := nI_toInt (show n < 2147483648 by omega)
    by_cases c : i = n
    · subst c
      exact ⟨f, bs, rfl, h⟩
    · have hz : F_r_findOrder_L15a (nI n) bt bb mt mb g t tr fo od how (f + 1) (nI i) bs = F_r_findOrder_L15a (nI n) bt bb mt mb g t tr fo od how f (nI (i + 1)) (upd bs i (t i)) := by
        rw [F_r_findOrder_L15a_s]
        simp only [show ¬ nI n ≤ nI i from q_nle.mpr (by rw [e, en]; omega), qnI_s, qnI_cl (show i < 2147483648 by omega), ↓reduceIte]
      rw [hz]
      refine ih (i + 1) _ (by omega) (by omega) (fun j hj => ?_)
      unfold upd
      by_cases d : j = i
      · rw [if_pos d, d]
      · rw [if_neg d]; exact h j (by omega)
theorem v_61b {n : Nat} {how n1 : Int32} {a b c d : Int64} {bs n6 n7 n8 : Nat → Int32} (hn : n ≤ 10) : ∀ (f i : Nat) (fo : Nat → Int32), (2147483647 - (nI i).toInt).toNat < f → i ≤ n → (∀ j : Nat, j < i → fo j = n8 j) → ∃ fo' : Nat → Int32, F_r_findOrder_L61b (nI n) how bs n1 a b c d n6 n7 n8 f (nI i) fo = (nI n, how, nI n, n1, a, b, c, d, n6, bs, n8, n7, fo') ∧ ∀ j : Nat, j < n → fo' j = n8 j := by
  intro f
  induction f with
  | zero => intro i fo hf; exact absurd hf (Nat.not_lt_zero _)
  | succ f ih =>
    intro i fo hf hi h
    have e := nI_toInt (show i < 2147483648 by omega)
    have e2 := nI_toInt (show i + 1 < 2147483648 by omega)
    have en := nI_toInt (show n < 2147483648 by omega)
    rw [F_r_findOrder_L61b_s]
    by_cases c : i = n
    · subst c
      simp only [show nI i ≤ nI i from q_le.mpr (Int.le_refl _), ↓reduceIte]
      exact ⟨fo, rfl, h⟩
    · simp only [show ¬ nI n ≤ nI i from q_nle.mpr (by rw [e, en]; omega), qnI_s, qnI_cl (show i < 2147483648 by omega), ↓reduceIte]
      refine ih (i + 1) _ (by omega) (by omega) (fun j hj => ?_)
      unfold upd
      by_cases d : j = i
      · rw [if_pos d, d]
      · rw [if_neg d]; exact h j (by omega)
theorem v_61c {n : Nat} {how n1 : Int32} {a b c d : Int64} {bs n6 n7 n8 : Nat → Int32} (hn : n ≤ 10) : ∀ (f i : Nat) (fo : Nat → Int32), (2147483647 - (nI i).toInt).toNat < f → i ≤ n → (∀ j : Nat, j < i → fo j = n8 j) → ∃ fo' : Nat → Int32, F_r_findOrder_L61c (nI n) how bs n1 a b c d n6 n7 n8 f (nI i) fo = (nI n, how, nI n, n1, a, b, c, d, n6, bs, n8, n7, fo') ∧ ∀ j : Nat, j < n → fo' j = n8 j := by
  intro f
  induction f with
  | zero => intro i fo hf; exact absurd hf (Nat.not_lt_zero _)
  | succ f ih =>
    intro i fo hf hi h
    have e := nI_toInt (show i < 2147483648 by omega)
    have e2 := nI_toInt (show i + 1 < 2147483648 by omega)
    have en := nI_toInt (show n < 2147483648 by omega)
    rw [F_r_findOrder_L61c_s]
    by_cases c : i = n
    · subst c
      simp only [show nI i ≤ nI i from q_le.mpr (Int.le_refl _), ↓reduceIte]
      exact ⟨fo, rfl, h⟩
    · simp only [show ¬ nI n ≤ nI i from q_nle.mpr (by rw [e, en]; omega), qnI_s, qnI_cl (show i < 2147483648 by omega), ↓reduceIte]
      refine ih (i + 1) _ (by omega) (by omega) (fun j hj => ?_)
      unfold upd
      by_cases d : j = i
      · rw [if_pos d, d]
      · rw [if_neg d]; exact h j (by omega)
theorem v_61d {n : Nat} {how n1 : Int32} {a b c d : Int64} {bs n6 n7 n8 : Nat → Int32} (hn : n ≤ 10) : ∀ (f i : Nat) (fo : Nat → Int32), (2147483647 - (nI i).toInt).toNat < f → i ≤ n → (∀ j : Nat, j < i → fo j = n8 j) → ∃ fo' : Nat → Int32, F_r_findOrder_L61d (nI n) how bs n1 a b c d n6 n7 n8 f (nI i) fo = (nI n, how, nI n, n1, a, b, c, d, n6, bs, n8, n7, fo') ∧ ∀ j : Nat, j < n → fo' j = n8 j := by
  intro f
  induction f with
  | zero => intro i fo hf; exact absurd hf (Nat.not_lt_zero _)
  | succ f ih =>
    intro i fo hf hi h
    have e := nI_toInt (show i < 2147483648 by omega)
    have e2 := nI_toInt (show i + 1 < 2147483648 by omega)
    have en := nI_toInt (show n < 2147483648 by omega)
    rw [F_r_findOrder_L61d_s]
    by_cases c : i = n
    · subst c
      simp only [show nI i ≤ nI i from q_le.mpr (Int.le_refl _), ↓reduceIte]
      exact ⟨fo, rfl, h⟩
    · simp only [show ¬ nI n ≤ nI i from q_nle.mpr (by rw [e, en]; omega), qnI_s, qnI_cl (show i < 2147483648 by omega), ↓reduceIte]
      refine ih (i + 1) _ (by omega) (by omega) (fun j hj => ?_)
      unfold upd
      by_cases d : j = i
      · rw [if_pos d, d]
      · rw [if_neg d]; exact h j (by omega)
theorem v_61e {n : Nat} {how n1 : Int32} {a b c d : Int64} {bs n6 n7 n8 : Nat → Int32} (hn : n ≤ 10) : ∀ (f i : Nat) (fo : Nat → Int32), (2147483647 - (nI i).toInt).toNat < f → i ≤ n → (∀ j : Nat, j < i → fo j = n8 j) → ∃ fo' : Nat → Int32, F_r_findOrder_L61e (nI n) how bs n1 a b c d n6 n7 n8 f (nI i) fo = (nI n, how, nI n, n1, a, b, c, d, n6, bs, n8, n7, fo') ∧ ∀ j : Nat, j < n → fo' j = n8 j := by
  intro f
  induction f with
  | zero => intro i fo hf; exact absurd hf (Nat.not_lt_zero _)
  | succ f ih =>
    intro i fo hf hi h
    have e := nI_toInt (show i < 2147483648 by omega)
    have e2 := nI_toInt (show i + 1 < 2147483648 by omega)
    have en := nI_toInt (show n < 2147483648 by omega)
    rw [F_r_findOrder_L61e_s]
    by_cases c : i = n
    · subst c
      simp only [show nI i ≤ nI i from q_le.mpr (Int.le_refl _), ↓reduceIte]
      exact ⟨fo, rfl, h⟩
    · simp only [show ¬ nI n ≤ nI i from q_nle.mpr (by rw [e, en]; omega), qnI_s, qnI_cl (show i < 2147483648 by omega), ↓reduceIte]
      refine ih (i + 1) _ (by omega) (by omega) (fun j hj => ?_)
      unfold upd
      by_cases d : j = i
      · rw [if_pos d, d]
      · rw [if_neg d]; exact h j (by omega)
theorem v_61f {n : Nat} {how n1 : Int32} {a b c d : Int64} {bs n6 n7 n8 : Nat → Int32} (hn : n ≤ 10) : ∀ (f i : Nat) (fo : Nat → Int32), (2147483647 - (nI i).toInt).toNat < f → i ≤ n → (∀ j : Nat, j < i → fo j = n8 j) → ∃ fo' : Nat → Int32, F_r_findOrder_L61f (nI n) how bs n1 a b c d n6 n7 n8 f (nI i) fo = (nI n, how, nI n, n1, a, b, c, d, n6, bs, n8, n7, fo') ∧ ∀ j : Nat, j < n → fo' j = n8 j := by
  intro f
  induction f with
  | zero => intro i fo hf; exact absurd hf (Nat.not_lt_zero _)
  | succ f ih =>
    intro i fo hf hi h
    have e := nI_toInt (show i < 2147483648 by omega)
    have e2 := nI_toInt (show i + 1 < 2147483648 by omega)
    have en := nI_toInt (show n < 2147483648 by omega)
    rw [F_r_findOrder_L61f_s]
    by_cases c : i = n
    · subst c
      simp only [show nI i ≤ nI i from q_le.mpr (Int.le_refl _), ↓reduceIte]
      exact ⟨fo, rfl, h⟩
    · simp only [show ¬ nI n ≤ nI i from q_nle.mpr (by rw [e, en]; omega), qnI_s, qnI_cl (show i < 2147483648 by omega), ↓reduceIte]
      refine ih (i + 1) _ (by omega) (by omega) (fun j hj => ?_)
      unfold upd
      by_cases d : j = i
      · rw [if_pos d, d]
      · rw [if_neg d]; exact h j (by omega)
theorem v_61g {n : Nat} {how n1 : Int32} {a b c d : Int64} {bs n6 n7 n8 : Nat → Int32} (hn : n ≤ 10) : ∀ (f i : Nat) (fo : Nat → Int32), (2147483647 - (nI i).toInt).toNat < f → i ≤ n → (∀ j : Nat, j < i → fo j = n8 j) → ∃ fo' : Nat → Int32, F_r_findOrder_L61g (nI n) how bs n1 a b c d n6 n7 n8 f (nI i) fo = (nI n, how, nI n, n1, a, b, c, d, n6, bs, n8, n7, fo') ∧ ∀ j : Nat, j < n → fo' j = n8 j := by
  intro f
  induction f with
  | zero => intro i fo hf; exact absurd hf (Nat.not_lt_zero _)
  | succ f ih =>
    intro i fo hf hi h
    have e := nI_toInt (show i < 2147483648 by omega)
    have e2 := nI_toInt (show i + 1 < 2147483648 by omega)
    have en := nI_toInt (show n < 2147483648 by omega)
    rw [F_r_findOrder_L61g_s]
    by_cases c : i = n
    · subst c
      simp only [show nI i ≤ nI i from q_le.mpr (Int.le_refl _), ↓reduceIte]
      exact ⟨fo, rfl, h⟩
    · simp only [show ¬ nI n ≤ nI i from q_nle.mpr (by rw [e, en]; omega), qnI_s, qnI_cl (show i < 2147483648 by omega), ↓reduceIte]
      refine ih (i + 1) _ (by omega) (by omega) (fun j hj => ?_)
      unfold upd
      by_cases d : j = i
      · rw [if_pos d, d]
      · rw [if_neg d]; exact h j (by omega)
theorem v_fo {K : Nat → Int32} {kp : Nat → Nat} {n D c Bc : Nat} {ms : List Nat → Nat} {how : Int32} {bt bb mt mb : Int64} {g t tr bs fo od : Nat → Int32} (hJ : qHJ K n c Bc ms how g) (hn : n ≤ 6) (hn0 : 0 < n) (hD : D ≤ 10) (hg : g 1 = nI D) (hk : qKs K kp n D t) : ∃ b : Nat × List Nat, (uExt n n []).foldl (qStp ms) none = some b ∧ (F_r_findOrder (nI n) bt bb mt mb g t tr bs fo od how).2.2.2.2.1.toInt = ((c * b.1 : Nat) : Int) ∧ ∀ i : Nat, i < n → (F_r_findOrder (nI n) bt bb mt mb g t tr bs fo od how).2.2.2.2.2.2.2.2.2.2.2.2 i = K (b.2.getD i 0) := by
  obtain ⟨b, hb⟩ := v_fn (ms := ms) (n := n) (by omega)
  refine ⟨b, hb, ?_⟩
  rw [F_r_findOrder_s]
  obtain ⟨f2, bs2, e2, hbs⟩ := v_15 (n := n) (how := how) (bt := bt) (bb := bb) (mt := mt) (mb := mb) (g := g) (t := t) (tr := tr) (fo := fo) (od := od) (by omega) ((2147483647 - (0 : Int32).toInt).toNat + 1) 0 bs (by show (2147483647 - (0 : Int32).toInt).toNat < _; omega) (by omega) (fun j hj => absurd hj (Nat.not_lt_zero _))
  have e3 : F_r_findOrder_L15a (nI n) bt bb mt mb g t tr fo od how ((2147483647 - (0 : Int32).toInt).toNat + 1) 0 bs = _ := e2
  rw [e3, F_r_findOrder_L15a_s]
  have hk2 : qKs K kp n D bs2 := ⟨hk.1, hk.2.1, fun x => by
    rw [← hk.2.2 x]
    constructor
    · rintro ⟨a, a1, a2⟩; exact ⟨a, a1, by rw [← hbs a a1]; exact a2⟩
    · rintro ⟨a, a1, a2⟩; exact ⟨a, a1, by rw [hbs a a1]; exact a2⟩⟩
  have hT0 : ∀ m : Nat, qTP K m [] tr := fun m => ⟨fun i hi => absurd hi (Nat.not_lt_zero _), fun i hi => absurd hi (Nat.not_lt_zero _)⟩
  have en := nI_toInt (show n < 2147483648 by omega)
  rcases (show n = 1 ∨ n = 2 ∨ n = 3 ∨ n = 4 ∨ n = 5 ∨ n = 6 by omega) with cn | cn | cn | cn | cn | cn
  · have hq := (q_of1 (t := t) (mt := mt) (mb := mb) (B := none) (hb := 0) (bt := bt) (bb := bb) (od := od) (p := []) hJ hn hD hg hk2 (show 0 + 1 = n by omega) List.nodup_nil (hT0 n) rfl).1
    rw [show uExt n 1 [] = uExt n n [] from congrArg (fun m => uExt n m []) cn.symm, hb, show nI ([] : List Nat).length = 0 from rfl] at hq
    obtain ⟨-, q2, -, -, q5⟩ := hq
    simp only [show nI n ≤ nI n from q_le.mpr (Int.le_refl _), show (nI n).toInt = 1 from by rw [en]; omega, show ¬ (1 : Int) = 0 from by decide, ↓reduceIte]
    generalize (F_r_orderFrom_1 (nI n) how (nI n) 0 bt bb mt mb g t tr bs2 od 0) = W9 at q2 q5 ⊢
    obtain ⟨fo2, a1, a2⟩ := v_61b (n := n) (how := how) (n1 := W9.1) (a := W9.2.1) (b := W9.2.2.1) (c := W9.2.2.2.1) (d := W9.2.2.2.2.1) (bs := bs2) (n6 := W9.2.2.2.2.2.1) (n7 := W9.2.2.2.2.2.2.1) (n8 := W9.2.2.2.2.2.2.2) (by omega) ((2147483647 - (0 : Int32).toInt).toNat + 1) 0 fo (by show (2147483647 - (0 : Int32).toInt).toNat < _; omega) (by omega) (fun j hj => absurd hj (Nat.not_lt_zero _))
    have a3 : F_r_findOrder_L61b (nI n) how bs2 W9.1 W9.2.1 W9.2.2.1 W9.2.2.2.1 W9.2.2.2.2.1 W9.2.2.2.2.2.1 W9.2.2.2.2.2.2.1 W9.2.2.2.2.2.2.2 ((2147483647 - (0 : Int32).toInt).toNat + 1) 0 fo = _ := a1
    rw [a3]
    exact ⟨q2, fun i hi => (a2 i hi).trans (q5 i hi)⟩
  · have hq := (q_of2 (t := t) (mt := mt) (mb := mb) (B := none) (hb := 0) (bt := bt) (bb := bb) (od := od) (p := []) hJ hn hD hg hk2 (show 0 + 2 = n by omega) List.nodup_nil (hT0 n) rfl).1
    rw [show uExt n 2 [] = uExt n n [] from congrArg (fun m => uExt n m []) cn.symm, hb, show nI ([] : List Nat).length = 0 from rfl] at hq
    obtain ⟨-, q2, -, -, q5⟩ := hq
    simp only [show nI n ≤ nI n from q_le.mpr (Int.le_refl _), show (nI n).toInt = 2 from by rw [en]; omega, show ¬ (2 : Int) = 0 from by decide, show ¬ (2 : Int) = 1 from by decide, ↓reduceIte]
    generalize (F_r_orderFrom_2 (nI n) how (nI n) 0 bt bb mt mb g t tr bs2 od 0) = W9 at q2 q5 ⊢
    obtain ⟨fo2, a1, a2⟩ := v_61c (n := n) (how := how) (n1 := W9.1) (a := W9.2.1) (b := W9.2.2.1) (c := W9.2.2.2.1) (d := W9.2.2.2.2.1) (bs := bs2) (n6 := W9.2.2.2.2.2.1) (n7 := W9.2.2.2.2.2.2.1) (n8 := W9.2.2.2.2.2.2.2) (by omega) ((2147483647 - (0 : Int32).toInt).toNat + 1) 0 fo (by show (2147483647 - (0 : Int32).toInt).toNat < _; omega) (by omega) (fun j hj => absurd hj (Nat.not_lt_zero _))
    have a3 : F_r_findOrder_L61c (nI n) how bs2 W9.1 W9.2.1 W9.2.2.1 W9.2.2.2.1 W9.2.2.2.2.1 W9.2.2.2.2.2.1 W9.2.2.2.2.2.2.1 W9.2.2.2.2.2.2.2 ((2147483647 - (0 : Int32).toInt).toNat + 1) 0 fo = _ := a1
    rw [a3]
    exact ⟨q2, fun i hi => (a2 i hi).trans (q5 i hi)⟩
  · have hq := (q_of3 (t := t) (mt := mt) (mb := mb) (B := none) (hb := 0) (bt := bt) (bb := bb) (od := od) (p := []) hJ hn hD hg hk2 (show 0 + 3 = n by omega) List.nodup_nil (hT0 n) rfl).1
    rw [show uExt n 3 [] = uExt n n [] from congrArg (fun m => uExt n m []) cn.symm, hb, show nI ([] : List Nat).length = 0 from rfl] at hq
    obtain ⟨-, q2, -, -, q5⟩ := hq
    simp only [show nI n ≤ nI n from q_le.mpr (Int.le_refl _), show (nI n).toInt = 3 from by rw [en]; omega, show ¬ (3 : Int) = 0 from by decide, show ¬ (3 : Int) = 1 from by decide, show ¬ (3 : Int) = 2 from by decide, ↓reduceIte]
    generalize (F_r_orderFrom_3 (nI n) how (nI n) 0 bt bb mt mb g t tr bs2 od 0) = W9 at q2 q5 ⊢
    obtain ⟨fo2, a1, a2⟩ := v_61d (n := n) (how := how) (n1 := W9.1) (a := W9.2.1) (b := W9.2.2.1) (c := W9.2.2.2.1) (d := W9.2.2.2.2.1) (bs := bs2) (n6 := W9.2.2.2.2.2.1) (n7 := W9.2.2.2.2.2.2.1) (n8 := W9.2.2.2.2.2.2.2) (by omega) ((2147483647 - (0 : Int32).toInt).toNat + 1) 0 fo (by show (2147483647 - (0 : Int32).toInt).toNat < _; omega) (by omega) (fun j hj => absurd hj (Nat.not_lt_zero _))
    have a3 : F_r_findOrder_L61d (nI n) how bs2 W9.1 W9.2.1 W9.2.2.1 W9.2.2.2.1 W9.2.2.2.2.1 W9.2.2.2.2.2.1 W9.2.2.2.2.2.2.1 W9.2.2.2.2.2.2.2 ((2147483647 - (0 : Int32).toInt).toNat + 1) 0 fo = _ := a1
    rw [a3]
    exact ⟨q2, fun i hi => (a2 i hi).trans (q5 i hi)⟩
  · have hq := (q_of4 (t := t) (mt := mt) (mb := mb) (B := none) (hb := 0) (bt := bt) (bb := bb) (od := od) (p := []) hJ hn hD hg hk2 (show 0 + 4 = n by omega) List.nodup_nil (hT0 n) rfl).1
    rw [show uExt n 4 [] = uExt n n [] from congrArg (fun m => uExt n m []) cn.symm, hb, show nI ([] : List Nat).length = 0 from rfl] at hq
    obtain ⟨-, q2, -, -, q5⟩ := hq
    simp only [show nI n ≤ nI n from q_le.mpr (Int.le_refl _), show (nI n).toInt = 4 from by rw [en]; omega, show ¬ (4 : Int) = 0 from by decide, show ¬ (4 : Int) = 1 from by decide, show ¬ (4 : Int) = 2 from by decide, show ¬ (4 : Int) = 3 from by decide, ↓reduceIte]
    generalize (F_r_orderFrom_4 (nI n) how (nI n) 0 bt bb mt mb g t tr bs2 od 0) = W9 at q2 q5 ⊢
    obtain ⟨fo2, a1, a2⟩ := v_61e (n := n) (how := how) (n1 := W9.1) (a := W9.2.1) (b := W9.2.2.1) (c := W9.2.2.2.1) (d := W9.2.2.2.2.1) (bs := bs2) (n6 := W9.2.2.2.2.2.1) (n7 := W9.2.2.2.2.2.2.1) (n8 := W9.2.2.2.2.2.2.2) (by omega) ((2147483647 - (0 : Int32).toInt).toNat + 1) 0 fo (by show (2147483647 - (0 : Int32).toInt).toNat < _; omega) (by omega) (fun j hj => absurd hj (Nat.not_lt_zero _))
    have a3 : F_r_findOrder_L61e (nI n) how bs2 W9.1 W9.2.1 W9.2.2.1 W9.2.2.2.1 W9.2.2.2.2.1 W9.2.2.2.2.2.1 W9.2.2.2.2.2.2.1 W9.2.2.2.2.2.2.2 ((2147483647 - (0 : Int32).toInt).toNat + 1) 0 fo = _ := a1
    rw [a3]
    exact ⟨q2, fun i hi => (a2 i hi).trans (q5 i hi)⟩
  · have hq := (q_of5 (t := t) (mt := mt) (mb := mb) (B := none) (hb := 0) (bt := bt) (bb := bb) (od := od) (p := []) hJ hn hD hg hk2 (show 0 + 5 = n by omega) List.nodup_nil (hT0 n) rfl).1
    rw [show uExt n 5 [] = uExt n n [] from congrArg (fun m => uExt n m []) cn.symm, hb, show nI ([] : List Nat).length = 0 from rfl] at hq
    obtain ⟨-, q2, -, -, q5⟩ := hq
    simp only [show nI n ≤ nI n from q_le.mpr (Int.le_refl _), show (nI n).toInt = 5 from by rw [en]; omega, show ¬ (5 : Int) = 0 from by decide, show ¬ (5 : Int) = 1 from by decide, show ¬ (5 : Int) = 2 from by decide, show ¬ (5 : Int) = 3 from by decide, show ¬ (5 : Int) = 4 from by decide, ↓reduceIte]
    generalize (F_r_orderFrom_5 (nI n) how (nI n) 0 bt bb mt mb g t tr bs2 od 0) = W9 at q2 q5 ⊢
    obtain ⟨fo2, a1, a2⟩ := v_61f (n := n) (how := how) (n1 := W9.1) (a := W9.2.1) (b := W9.2.2.1) (c := W9.2.2.2.1) (d := W9.2.2.2.2.1) (bs := bs2) (n6 := W9.2.2.2.2.2.1) (n7 := W9.2.2.2.2.2.2.1) (n8 := W9.2.2.2.2.2.2.2) (by omega) ((2147483647 - (0 : Int32).toInt).toNat + 1) 0 fo (by show (2147483647 - (0 : Int32).toInt).toNat < _; omega) (by omega) (fun j hj => absurd hj (Nat.not_lt_zero _))
    have a3 : F_r_findOrder_L61f (nI n) how bs2 W9.1 W9.2.1 W9.2.2.1 W9.2.2.2.1 W9.2.2.2.2.1 W9.2.2.2.2.2.1 W9.2.2.2.2.2.2.1 W9.2.2.2.2.2.2.2 ((2147483647 - (0 : Int32).toInt).toNat + 1) 0 fo = _ := a1
    rw [a3]
    exact ⟨q2, fun i hi => (a2 i hi).trans (q5 i hi)⟩
  · have hq := (q_of6 (t := t) (mt := mt) (mb := mb) (B := none) (hb := 0) (bt := bt) (bb := bb) (od := od) (p := []) hJ hn hD hg hk2 (show 0 + 6 = n by omega) List.nodup_nil (hT0 n) rfl).1
    rw [show uExt n 6 [] = uExt n n [] from congrArg (fun m => uExt n m []) cn.symm, hb, show nI ([] : List Nat).length = 0 from rfl] at hq
    obtain ⟨-, q2, -, -, q5⟩ := hq
    simp only [show nI n ≤ nI n from q_le.mpr (Int.le_refl _), show (nI n).toInt = 6 from by rw [en]; omega, show ¬ (6 : Int) = 0 from by decide, show ¬ (6 : Int) = 1 from by decide, show ¬ (6 : Int) = 2 from by decide, show ¬ (6 : Int) = 3 from by decide, show ¬ (6 : Int) = 4 from by decide, show ¬ (6 : Int) = 5 from by decide, ↓reduceIte]
    generalize (F_r_orderFrom_6 (nI n) how (nI n) 0 bt bb mt mb g t tr bs2 od 0) = W9 at q2 q5 ⊢
    obtain ⟨fo2, a1, a2⟩ := v_61g (n := n) (how := how) (n1 := W9.1) (a := W9.2.1) (b := W9.2.2.1) (c := W9.2.2.2.1) (d := W9.2.2.2.2.1) (bs := bs2) (n6 := W9.2.2.2.2.2.1) (n7 := W9.2.2.2.2.2.2.1) (n8 := W9.2.2.2.2.2.2.2) (by omega) ((2147483647 - (0 : Int32).toInt).toNat + 1) 0 fo (by show (2147483647 - (0 : Int32).toInt).toNat < _; omega) (by omega) (fun j hj => absurd hj (Nat.not_lt_zero _))
    have a3 : F_r_findOrder_L61g (nI n) how bs2 W9.1 W9.2.1 W9.2.2.1 W9.2.2.2.1 W9.2.2.2.2.1 W9.2.2.2.2.2.1 W9.2.2.2.2.2.2.1 W9.2.2.2.2.2.2.2 ((2147483647 - (0 : Int32).toInt).toNat + 1) 0 fo = _ := a1
    rw [a3]
    exact ⟨q2, fun i hi => (a2 i hi).trans (q5 i hi)⟩
theorem u_nd : ∀ n, n < 7 → (uExt n n []).all (fun l => decide l.Nodup) = true := by decide +kernel
theorem v_foX {dO rm k : Int32} {wa op se rd row fd : Nat → Int32} {fm : Int32} {n : Nat} {ms : List Nat → Nat} {b : Nat × List Nat} (hn : n < 7) (hn0 : 0 < n) (hd : (qRw n row 0).Nodup) (hM : ∀ (r2 : Nat → Int32) (l : List Nat), l.Nodup → uAs (F_Se_sortUp row (nI n)) n r2 l → F_Se_measured (nI n) dO rm wa op se rd r2 k = nI (ms l) ∧ ms l ≤ 100000000) (hb : (uExt n n []).foldl (qStp ms) none = some b) : (F_Se_findOrder (nI n) fm dO rm wa op se rd row fd k).1 = nI b.1 ∧ F_Se_foundAt (F_Se_findOrder (nI n) fm dO rm wa op se rd row fd k).2.1 (F_Se_findOrder (nI n) fm dO rm wa op se rd row fd k).2.2.2 0 = F_Se_sortUp row (nI n) (b.2.getD 0 0) ∧ b.1 ≤ 100000000 := by
  obtain ⟨s1, s2⟩ := q_sort (g := row) (show n ≤ 10 by omega)
  have hK := q_up s1 (s2.nodup_iff.mpr hd)
  rw [F_Se_findOrder_s]
  generalize F_Se_sortUp row (nI n) = K at *
  have h9 := q_foL (W := List.Nodup) (n := n) (show n ≤ 6 by omega) hK hM (uExt n n []) ((2147483647 - (0 : Int32).toInt).toNat + 1) 0 none (-1) 1 fm fd K (by show (2147483647 - (0 : Int32).toInt).toNat < _; omega) (by have := u_720 n hn; omega) (u_ch n hn) (fun l hl => ⟨q_n1, by
    rw [u_ex1 n hn] at hl
    cases hl
    have hg : ∀ i : Nat, i < n → (List.range n).getD i 0 = i := fun i hi => by
      rw [List.getD_eq_getElem?_getD, List.getElem?_range hi]; rfl
    exact ⟨List.length_range, fun i hi => by rw [hg i hi]; exact hi, fun i hi => by rw [hg i hi]⟩⟩) (fun h8 => by
    have := u_ex1 n hn
    rw [h8] at this
    cases this) (fun l hl => of_decide_eq_true (List.all_eq_true.mp (u_nd n hn) l hl)) rfl
  rw [hb] at h9
  have h8 : qCB K n (some b) (F_Se_findOrder_L18a (nI n) dO rm wa op se rd k ((2147483647 - (0 : Int32).toInt).toNat + 1) (-1) 1 0 fm fd K).1 (F_Se_findOrder_L18a (nI n) dO rm wa op se rd k ((2147483647 - (0 : Int32).toInt).toNat + 1) (-1) 1 0 fm fd K).2.1 (F_Se_findOrder_L18a (nI n) dO rm wa op se rd k ((2147483647 - (0 : Int32).toInt).toNat + 1) (-1) 1 0 fm fd K).2.2.2 := h9
  generalize F_Se_findOrder_L18a (nI n) dO rm wa op se rd k ((2147483647 - (0 : Int32).toInt).toNat + 1) (-1) 1 0 fm fd K = W9 at h8 ⊢
  obtain ⟨c1, c2, c3, c4⟩ := h8
  refine ⟨c1, ?_, c2⟩
  have en := nI_toInt (show n < 2147483648 by omega)
  show F_Se_foundAt W9.2.1 W9.2.2.2 0 = _
  rw [c3, F_Se_foundAt_s, if_neg (by decide), if_neg (q_nle.mpr (by rw [en, q0]; omega))]
  exact (q_at10 (g := W9.2.2.2) (r := 0) (by omega)).trans (c4 0 hn0)
theorem v_m00 {P : Nat → Bool} {W : Nat → Nat} {T G : Nat} {x : Nat → Nat} : uM0 P W T G x 0 = 0 := rfl
theorem v_m10 {P : Nat → Bool} {W : Nat → Nat} {T G n : Nat} {x : Nat → Nat} : uM1 P W T G n x 0 = 0 := rfl
theorem v_ms0 {g K : Nat → Int32} {T G n D : Nat} {l : List Nat} : uMs 0 g K T G n D l = uM0 (fun d => (List.range n).any (uBb g K l d)) (qWt g) T G (fun d => uX n (uBb g K l d) 0 false) D := if_pos rfl
theorem v_ms1 {g K : Nat → Int32} {T G n D : Nat} {l : List Nat} : uMs 1 g K T G n D l = uM1 (fun d => (List.range n).any (uBb g K l d)) (qWt g) T G n (fun d => uTg n (uBb g K l d) (2 * n) 0 0) D := if_neg (by omega)
theorem v_me {fe ke ri dO tu rm : Int32} {fn : Nat → Int64} {st tf six ks wa op se rd g : Nat → Int32} {w : Nat → Int64} (h : qTx 0 0 fe ke ri dO tu rm fn st tf six ks wa op se rd g w) (hC : zC g) {K : Nat → Int32} {n D T G : Nat} (hn : n < 7) (hn0 : 0 < n) (hr : ∀ i : Nat, i < n → ∃ q : Nat, K i = nI q ∧ (q : Int) < ke.toInt) (hD : dO = nI D) (hD5 : D ≤ 5) (hT : g 6 = nI T) (hG : g 7 = nI G) (hT9 : T ≤ 99) (hG9 : G ≤ 99) (how : Nat) (hh : how = 0 ∨ how = 1) (row : Nat → Int32) (l : List Nat) (hA : uAs K n row l) : F_Se_measured (nI n) dO rm wa op se rd row (nI how) = nI (uMs how g K T G n D l) ∧ uMs how g K T G n D l ≤ 100000000 := by
  refine ⟨?_, v_msle hC.1 hn hn0 hD5 hT9 hG9⟩
  obtain ⟨a1, a2, a3⟩ := hA
  have hpl : uPl g row n D (uBb g K l) := fun d _ i hi => by
    show qCo g (nI d) (row i) = qCo g (nI d) (K (l.getD i 0))
    rw [a3 i hi]
  have hrr : ∀ i : Nat, i < n → ∃ q : Nat, row i = nI q ∧ (q : Int) < ke.toInt := fun i hi => by
    rw [a3 i hi]
    exact hr _ (a2 i hi)
  have w9 := v_wf h hC hn hn0 hrr hD hD5 hT hG hpl ((2147483647 - (0 : Int32).toInt).toNat + 1) 0 (by show (2147483647 - (0 : Int32).toInt).toNat < _; omega) (by omega)
  rw [v_m00, v_m10, show nI 0 = (0 : Int32) from rfl] at w9
  obtain ⟨w1, w2⟩ := w9
  rw [F_Se_measured_s]
  rcases hh with hh | hh
  · subst hh
    rw [if_pos (show nI 0 = 0 from rfl)]
    show F_Se_wantedSecondsFrom (nI n) dO wa op se row 0 0 = _
    rw [F_Se_wantedSecondsFrom_s, v_ms0]
    exact w1
  · subst hh
    rw [if_neg (show ¬ nI 1 = 0 from q_n1), if_pos (show nI 1 = 1 from rfl)]
    show F_Se_wantedSecondsAnywhere (nI n) dO wa op se row = _
    rw [F_Se_wantedSecondsAnywhere_s, v_ms1]
    exact w2
