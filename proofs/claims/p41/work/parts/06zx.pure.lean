/-- orders of the numbers below n, the lesser ahead: what is put behind p -/
def uExt (n : Nat) : Nat → List Nat → List (List Nat)
  | 0, p => [p]
  | L + 1, p => (List.range n).flatMap (fun j => if p.contains j then [] else uExt n L (p ++ [j]))
def uPv (l : List Nat) : Nat → Option Nat
  | 0 => none
  | m + 1 => if l.getD m 0 ≤ l.getD (m + 1) 0 then some m else uPv l m
def uSw (l : List Nat) (i j : Nat) : List Nat := (l.set i (l.getD j 0)).set j (l.getD i 0)
def uLa (l : List Nat) (i : Nat) : Nat → Nat
  | 0 => 0
  | v + 1 => if v + 1 ≤ i then v + 1 else if l.getD i 0 ≤ l.getD (v + 1) 0 then v + 1 else uLa l i v
def uRe : Nat → Nat → Nat → List Nat → List Nat
  | 0, _, _, l => l
  | f + 1, hi, lo, l => if hi ≤ lo then l else uRe f (hi - 1) (lo + 1) (uSw l lo hi)
def uNx (n : Nat) (l : List Nat) : Option (List Nat) := match uPv l (n - 1) with
  | none => none
  | some i => some (uRe n (n - 1) (i + 1) (uSw l i (uLa l i (n - 1))))
def uCh (n : Nat) : List (List Nat) → Bool
  | [] => true
  | [l] => (uNx n l).isNone
  | l :: l' :: r => (uNx n l == some l') && uCh n (l' :: r)
theorem u_ch : ∀ n, n < 7 → uCh n (uExt n n []) = true := by decide +kernel
def uGo (n : Nat) (l : List Nat) : Bool := l.length == n && l.all (fun j => decide (j < n))
theorem u_go : ∀ n, n < 7 → (uExt n n []).all (uGo n) = true := by decide +kernel
theorem u_720 : ∀ n, n < 7 → (uExt n n []).length ≤ 720 := by decide +kernel
theorem u_ex1 : ∀ n, n < 7 → (uExt n n []).head? = some (List.range n) := by decide +kernel
theorem u_dm (a : Nat) : nI (a + 1) + (-1) = nI a := (Int32.sub_eq_add_neg _ _).symm.trans (qnI_sub1 a)
/-- a row that holds the KEYS K in an order -/
def uAs (K : Nat → Int32) (n : Nat) (row : Nat → Int32) (l : List Nat) : Prop := l.length = n ∧ (∀ i : Nat, i < n → l.getD i 0 < n) ∧ ∀ i : Nat, i < n → row i = K (l.getD i 0)
theorem u_getD {l : List Nat} {i j a : Nat} : (l.set i a).getD j 0 = if j = i ∧ i < l.length then a else l.getD j 0 := by
  rw [List.getD_eq_getElem?_getD, List.getElem?_set, List.getD_eq_getElem?_getD]
  by_cases c : i = j
  · subst c
    by_cases d : i < l.length
    · simp [d]
    · simp [d]
  · simp [c, Ne.symm c, fun h : j = i => c h.symm]
theorem u_sw1 {n : Nat} {l : List Nat} {i j x : Nat} (hl : l.length = n) (hi : i < n) (hj : j < n) : (uSw l i j).getD x 0 = if x = j then l.getD i 0 else if x = i then l.getD j 0 else l.getD x 0 := by
  unfold uSw
  rw [u_getD, u_getD, List.length_set]
  by_cases c : x = j
  · rw [if_pos ⟨c, by omega⟩, if_pos c]
  · rw [if_neg (fun h => c h.1), if_neg c]
    by_cases d : x = i
    · rw [if_pos ⟨d, by omega⟩, if_pos d]
    · rw [if_neg (fun h => d h.1), if_neg d]
theorem u_swL {l : List Nat} {i j : Nat} : (uSw l i j).length = l.length := by
  unfold uSw
  rw [List.length_set, List.length_set]
theorem u_sw {K : Nat → Int32} {n : Nat} {row : Nat → Int32} {l : List Nat} {i j : Nat} (h : uAs K n row l) (hn : n ≤ 10) (hi : i < n) (hj : j < n) : uAs K n (F_Se_swap_r row (nI i) (nI j)) (uSw l i j) := by
  obtain ⟨h1, h2, h3⟩ := h
  have e : F_Se_swap_r row (nI i) (nI j) = upd (upd row i (row j)) j (row i) := by
    rw [F_Se_swap_r_s]
    simp only [q_at10 (g := row) (show i < 10 by omega), q_at10 (g := row) (show j < 10 by omega), q_keep10 (show i < 10 by omega), q_keep10 (show j < 10 by omega)]
  rw [e]
  refine ⟨u_swL.trans h1, fun x hx => ?_, fun x hx => ?_⟩
  · rw [u_sw1 h1 hi hj]
    by_cases c : x = j
    · rw [if_pos c]; exact h2 i hi
    · by_cases d : x = i
      · rw [if_neg c, if_pos d]; exact h2 j hj
      · rw [if_neg c, if_neg d]; exact h2 x hx
  · rw [u_sw1 h1 hi hj]
    unfold upd
    by_cases c : x = j
    · rw [if_pos c, if_pos c]; exact h3 i hi
    · by_cases d : x = i
      · rw [if_neg c, if_neg c, if_pos d, if_pos d]; exact h3 j hj
      · rw [if_neg c, if_neg c, if_neg d, if_neg d]; exact h3 x hx
/-- unlike KEYS, the lesser ahead -/
def uUp (K : Nat → Int32) (n : Nat) : Prop := ∀ a b : Nat, a < n → b < n → (K a ≤ K b ↔ a ≤ b)
theorem u_n79a {K : Nat → Int32} {n : Nat} (hn : n ≤ 10) : ∀ (f F hi lo : Nat) (g : Nat → Int32) (l : List Nat), ((nI hi).toInt + 2147483648).toNat < f → hi ≤ F → hi < n → lo ≤ n → uAs K n g l → (F_Se_nextOrder_r_L79a f (nI hi) (nI lo) g).1 = 1 ∧ uAs K n (F_Se_nextOrder_r_L79a f (nI hi) (nI lo) g).2 (uRe F hi lo l) := by
  intro f
  induction f with
  | zero => intro F hi lo g l hf; exact absurd hf (Nat.not_lt_zero _)
  | succ f ih =>
    intro F hi lo g l hf hF hh hlo h
    have e := nI_toInt (show hi < 2147483648 by omega)
    rw [F_Se_nextOrder_r_L79a_s]
    by_cases c : hi ≤ lo
    · have el := nI_toInt (show lo < 2147483648 by omega)
      simp only [show nI hi ≤ nI lo from q_le.mpr (by rw [e, el]; omega), ↓reduceIte]
      have hz : uRe F hi lo l = l := by
        cases F with
        | zero => rfl
        | succ F => exact if_pos c
      rw [hz]
      exact ⟨trivial, h⟩
    · have el := nI_toInt (show lo < 2147483648 by omega)
      obtain ⟨q, rfl⟩ : ∃ q, hi = q + 1 := ⟨hi - 1, by omega⟩
      obtain ⟨F', rfl⟩ : ∃ q, F = q + 1 := ⟨F - 1, by omega⟩
      have eq := nI_toInt (show q < 2147483648 by omega)
      simp only [show ¬ nI (q + 1) ≤ nI lo from q_nle.mpr (by rw [e, el]; omega), u_dm, qnI_s, ↓reduceIte]
      have hz : uRe (F' + 1) (q + 1) lo l = uRe F' q (lo + 1) (uSw l lo (q + 1)) := if_neg c
      rw [hz]
      exact ih F' q (lo + 1) _ _ (by omega) (by omega) (by omega) (by omega) (u_sw h hn (by omega) hh)
theorem u_n79b {K : Nat → Int32} {n : Nat} (hn : n ≤ 10) : ∀ (f F hi lo : Nat) (g : Nat → Int32) (l : List Nat), ((nI hi).toInt + 2147483648).toNat < f → hi ≤ F → hi < n → lo ≤ n → uAs K n g l → (F_Se_nextOrder_r_L79b f (nI hi) (nI lo) g).1 = 1 ∧ uAs K n (F_Se_nextOrder_r_L79b f (nI hi) (nI lo) g).2 (uRe F hi lo l) := by
  intro f
  induction f with
  | zero => intro F hi lo g l hf; exact absurd hf (Nat.not_lt_zero _)
  | succ f ih =>
    intro F hi lo g l hf hF hh hlo h
    have e := nI_toInt (show hi < 2147483648 by omega)
    rw [F_Se_nextOrder_r_L79b_s]
    by_cases c : hi ≤ lo
    · have el := nI_toInt (show lo < 2147483648 by omega)
      simp only [show nI hi ≤ nI lo from q_le.mpr (by rw [e, el]; omega), ↓reduceIte]
      have hz : uRe F hi lo l = l := by
        cases F with
        | zero => rfl
        | succ F => exact if_pos c
      rw [hz]
      exact ⟨trivial, h⟩
    · have el := nI_toInt (show lo < 2147483648 by omega)
      obtain ⟨q, rfl⟩ : ∃ q, hi = q + 1 := ⟨hi - 1, by omega⟩
      obtain ⟨F', rfl⟩ : ∃ q, F = q + 1 := ⟨F - 1, by omega⟩
      have eq := nI_toInt (show q < 2147483648 by omega)
      simp only [show ¬ nI (q + 1) ≤ nI lo from q_nle.mpr (by rw [e, el]; omega), u_dm, qnI_s, ↓reduceIte]
      have hz : uRe (F' + 1) (q + 1) lo l = uRe F' q (lo + 1) (uSw l lo (q + 1)) := if_neg c
      rw [hz]
      exact ih F' q (lo + 1) _ _ (by omega) (by omega) (by omega) (by omega) (u_sw h hn (by omega) hh)
theorem u_n39 {K : Nat → Int32} {n i : Nat} {row : Nat → Int32} {l : List Nat} (hK : uUp K n) (hn : n ≤ 10) (h : uAs K n row l) (hi : i + 1 < n) : ∀ (f v : Nat), ((nI v).toInt + 2147483648).toNat < f → v < n → (F_Se_nextOrder_r_L39a row (nI n) (nI i) f (nI v)).1 = 1 ∧ uAs K n (F_Se_nextOrder_r_L39a row (nI n) (nI i) f (nI v)).2 (uRe n (n - 1) (i + 1) (uSw l i (uLa l i v))) := by
  intro f
  induction f with
  | zero => intro v hf; exact absurd hf (Nat.not_lt_zero _)
  | succ f ih =>
    intro v hf hv
    have e := nI_toInt (show v < 2147483648 by omega)
    have ei := nI_toInt (show i < 2147483648 by omega)
    have en1 : nI n - 1 = nI (n - 1) := q_nsub (b := 1) (by omega) (by omega)
    rw [F_Se_nextOrder_r_L39a_s]
    simp only [en1, qnI_s]
    by_cases c : v ≤ i
    · have hz : uLa l i v = v := by
        cases v with
        | zero => rfl
        | succ v => exact if_pos c
      rw [hz]
      simp only [show nI v ≤ nI i from q_le.mpr (by rw [e, ei]; omega), ↓reduceIte]
      exact u_n79a hn _ n (n - 1) (i + 1) _ _ (Nat.lt_succ_self _) (by omega) (by omega) (by omega) (u_sw h hn (by omega) hv)
    · obtain ⟨q, rfl⟩ : ∃ q, v = q + 1 := ⟨v - 1, by omega⟩
      have eq := nI_toInt (show q < 2147483648 by omega)
      have h2 := h.2.1
      have h3 := h.2.2
      simp only [show ¬ nI (q + 1) ≤ nI i from q_nle.mpr (by rw [e, ei]; omega), q_at10 (g := row) (show i < 10 by omega), q_at10 (g := row) (show q + 1 < 10 by omega), h3 i (by omega), h3 (q + 1) hv, hK _ _ (h2 i (by omega)) (h2 (q + 1) hv), u_dm, ↓reduceIte]
      by_cases d : l.getD i 0 ≤ l.getD (q + 1) 0
      · have hz : uLa l i (q + 1) = q + 1 := by
          show (if q + 1 ≤ i then q + 1 else if l.getD i 0 ≤ l.getD (q + 1) 0 then q + 1 else uLa l i q) = _
          rw [if_neg c, if_pos d]
        rw [hz]
        simp only [d, ↓reduceIte]
        exact u_n79b hn _ n (n - 1) (i + 1) _ _ (Nat.lt_succ_self _) (by omega) (by omega) (by omega) (u_sw h hn (by omega) hv)
      · have hz : uLa l i (q + 1) = uLa l i q := by
          show (if q + 1 ≤ i then q + 1 else if l.getD i 0 ≤ l.getD (q + 1) 0 then q + 1 else uLa l i q) = _
          rw [if_neg c, if_neg d]
        rw [hz]
        simp only [d, ↓reduceIte]
        exact ih q (by omega) (by omega)
theorem u_n4 {K : Nat → Int32} {n : Nat} {row : Nat → Int32} {l : List Nat} (hK : uUp K n) (hn : n ≤ 10) (h : uAs K n row l) : ∀ (f m : Nat), ((nI m + (-1)).toInt + 2147483648).toNat < f → m < n → (uPv l m = none ∧ F_Se_nextOrder_r_L4a row (nI n) f (nI m + (-1)) = (0, row)) ∨ ∃ i : Nat, uPv l m = some i ∧ i + 1 < n ∧ (F_Se_nextOrder_r_L4a row (nI n) f (nI m + (-1))).1 = 1 ∧ uAs K n (F_Se_nextOrder_r_L4a row (nI n) f (nI m + (-1))).2 (uRe n (n - 1) (i + 1) (uSw l i (uLa l i (n - 1)))) := by
  intro f
  induction f with
  | zero => intro m hf; exact absurd hf (Nat.not_lt_zero _)
  | succ f ih =>
    intro m hf hm
    rw [F_Se_nextOrder_r_L4a_s]
    cases m with
    | zero =>
      refine Or.inl ⟨rfl, ?_⟩
      simp only [show nI 0 + (-1) < 0 from by decide +kernel, ↓reduceIte]
    | succ m =>
      have e := nI_toInt (show m < 2147483648 by omega)
      have h2 := h.2.1
      have h3 := h.2.2
      have en1 : nI n - 1 = nI (n - 1) := q_nsub (b := 1) (by omega) (by omega)
      rw [u_dm] at hf
      simp only [u_dm, show ¬ nI m < 0 from q_nlt.mpr (by rw [q0, e]; omega), qnI_s, q_at10 (g := row) (show m < 10 by omega), q_at10 (g := row) (show m + 1 < 10 by omega), h3 m (by omega), h3 (m + 1) hm, hK _ _ (h2 m (by omega)) (h2 (m + 1) hm), en1, ↓reduceIte]
      by_cases d : l.getD m 0 ≤ l.getD (m + 1) 0
      · simp only [d, ↓reduceIte]
        exact Or.inr ⟨m, if_pos d, hm, u_n39 hK hn h hm _ (n - 1) (Nat.lt_succ_self _) (by omega)⟩
      · simp only [d, ↓reduceIte]
        have hz : uPv l (m + 1) = uPv l m := if_neg d
        rw [hz]
        have em : (nI m + (-1)).toInt = (m : Int) - 1 := by
          rw [← Int32.sub_eq_add_neg, q_sub (by rw [e, q1]; omega) (by rw [e, q1]; omega), e, q1]
        exact ih m (by rw [em]; omega) (by omega)
/-- the order behind this one, on the class' side -/
theorem u_nx {K : Nat → Int32} {n : Nat} {row : Nat → Int32} {l : List Nat} (hK : uUp K n) (hn : n ≤ 10) (h : uAs K n row l) : (uNx n l = none ∧ F_Se_nextOrder_r row (nI n) = (0, row)) ∨ ∃ l' : List Nat, uNx n l = some l' ∧ (F_Se_nextOrder_r row (nI n)).1 = 1 ∧ uAs K n (F_Se_nextOrder_r row (nI n)).2 l' := by
  rw [F_Se_nextOrder_r_s]
  cases n with
  | zero =>
    refine Or.inl ⟨rfl, ?_⟩
    rw [F_Se_nextOrder_r_L4a_s]
    simp only [show nI 0 - 2 < 0 from by decide +kernel, ↓reduceIte]
  | succ n =>
    have e2 : nI (n + 1) - 2 = nI n + (-1) := by
      have e := nI_toInt (show n + 1 < 2147483648 by omega)
      have e1 := nI_toInt (show n < 2147483648 by omega)
      have q2 : (2 : Int32).toInt = 2 := by decide +kernel
      refine q_eq.mpr ?_
      rw [← Int32.sub_eq_add_neg, q_sub (by rw [e, q2]; omega) (by rw [e, q2]; omega), q_sub (by rw [e1, q1]; omega) (by rw [e1, q1]; omega), e, e1, q1, q2]
      omega
    rw [e2]
    rcases u_n4 hK hn h _ n (Nat.lt_succ_self _) (by omega) with ⟨a1, a2⟩ | ⟨i, a1, a2, a3, a4⟩
    · refine Or.inl ⟨?_, a2⟩
      show (match uPv l n with | none => none | some i => some _) = none
      rw [a1]
    · refine Or.inr ⟨_, ?_, a3, a4⟩
      show (match uPv l n with | none => none | some i => some (uRe (n + 1) n (i + 1) (uSw l i (uLa l i n)))) = _
      rw [a1]
      rfl
