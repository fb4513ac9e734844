/-- alike is an equivalence -/
def qEq9 (p : Int32 → Int32 → Bool) : Prop := (∀ a, p a a = true) ∧ (∀ a b, p a b = p b a) ∧ ∀ a b c, p a b = true → p a c = p b c
theorem q_apE {g : Nat → Int32} (h0 : 0 ≤ (g 0).toInt) (h3 : (g 0).toInt ≤ 3) (s : Int32) : qEq9 (qAp g s) := by
  refine ⟨fun a => decide_eq_true ((q_df h0 h3).mpr (fun _ _ _ => rfl)), q_apS h0 h3 s, fun a b c h => ?_⟩
  have h1 := (q_df h0 h3).mp (of_decide_eq_true h)
  refine decide_eq_decide.mpr ?_
  rw [q_df h0 h3, q_df h0 h3]
  exact ⟨fun h9 j h5 h6 => (h1 j h5 h6).symm.trans (h9 j h5 h6), fun h9 j h5 h6 => (h1 j h5 h6).trans (h9 j h5 h6)⟩
/-- how many have one alike behind them in the list -/
def qFd (p : Int32 → Int32 → Bool) : List Int32 → Nat
  | [] => 0
  | a :: l => (if l.countP (p a) = 0 then 0 else 1) + qFd p l
theorem q_fdP {p : Int32 → Int32 → Bool} (hp : qEq9 p) {l l' : List Int32} (h : l.Perm l') : qFd p l = qFd p l' := by
  induction h with
  | nil => rfl
  | cons a h ih => show (if List.countP _ _ = 0 then 0 else 1) + qFd p _ = (if List.countP _ _ = 0 then 0 else 1) + qFd p _; rw [ih, h.countP_eq]
  | swap a b l =>
    show (if List.countP (p b) (a :: l) = 0 then 0 else 1) + ((if List.countP (p a) l = 0 then 0 else 1) + qFd p l) = (if List.countP (p a) (b :: l) = 0 then 0 else 1) + ((if List.countP (p b) l = 0 then 0 else 1) + qFd p l)
    rw [List.countP_cons, List.countP_cons, hp.2.1 b a]
    cases c : p a b
    · simp only [Bool.false_eq_true, Nat.add_zero, ↓reduceIte]
      exact Nat.add_left_comm _ _ _
    · have e : p a = p b := funext (fun x => hp.2.2 a b x c)
      rw [if_pos rfl, e]
  | trans _ _ h1 h2 => exact h1.trans h2
theorem q_fdS {p : Int32 → Int32 → Bool} (hp : qEq9 p) (i : Nat) (row : Nat → Int32) : qFd p (qRw (i + 1) row 0).reverse = (if (qRw i row 0).countP (fun x => p x (row i)) = 0 then 0 else 1) + qFd p (qRw i row 0).reverse := by
  rw [qRw_succ, List.reverse_append, List.reverse_singleton, Nat.zero_add]
  show (if List.countP (p (row i)) (qRw i row 0).reverse = 0 then 0 else 1) + qFd p (qRw i row 0).reverse = _
  rw [List.countP_reverse, show p (row i) = (fun x => p x (row i)) from funext (fun x => hp.2.1 _ _)]
/-- one that has more than so many alike: with it, or ahead of the last of them -/
theorem q_mxL {p : Int32 → Int32 → Bool} (hp : qEq9 p) (s : Nat) (row : Nat → Int32) : ∀ n : Nat, (∃ a, a ∈ qRw n row 0 ∧ s < (qRw n row 0).countP (p a)) ↔ ∃ k : Nat, k < n ∧ s ≤ (qRw k row 0).countP (fun x => p x (row k)) := by
  intro n
  induction n with
  | zero => exact ⟨fun ⟨a, h, _⟩ => absurd h List.not_mem_nil, fun ⟨k, h, _⟩ => absurd h (Nat.not_lt_zero _)⟩
  | succ n ih =>
    have hs : ∀ a, (qRw (n + 1) row 0).countP (p a) = (qRw n row 0).countP (p a) + if p a (row n) = true then 1 else 0 := fun a => by
      rw [qRw_succ, List.countP_append, List.countP_singleton, Nat.zero_add]
    have hn : (qRw n row 0).countP (fun x => p x (row n)) = (qRw n row 0).countP (p (row n)) := by
      rw [show p (row n) = (fun x => p x (row n)) from funext (fun x => hp.2.1 _ _)]
    have hmem : ∀ a, a ∈ qRw (n + 1) row 0 ↔ a ∈ qRw n row 0 ∨ a = row n := fun a => by
      rw [qRw_succ, List.mem_append, List.mem_singleton, Nat.zero_add]
    constructor
    · rintro ⟨a, h1, h2⟩
      rw [hs] at h2
      by_cases c : p a (row n) = true
      · rw [if_pos c, show p a = p (row n) from funext (fun x => hp.2.2 a _ x c)] at h2
        exact ⟨n, by omega, by rw [hn]; omega⟩
      · rw [if_neg c, Nat.add_zero] at h2
        rcases (hmem a).mp h1 with h3 | h3
        · obtain ⟨k, k1, k2⟩ := ih.mp ⟨a, h3, h2⟩
          exact ⟨k, by omega, k2⟩
        · subst h3
          exact absurd (hp.1 _) c
    · rintro ⟨k, k1, k2⟩
      by_cases c : k = n
      · subst c
        refine ⟨row k, (hmem _).mpr (Or.inr rfl), ?_⟩
        rw [hs, if_pos (hp.1 _), ← hn]
        omega
      · obtain ⟨a, h1, h2⟩ := ih.mpr ⟨k, by omega, k2⟩
        refine ⟨a, (hmem _).mpr (Or.inl h1), ?_⟩
        rw [hs]
        omega
theorem q_ffL {fe ke ri dO tu rm : Int32} {fn : Nat → Int64} {st tf six ks wa op se rd g : Nat → Int32} {w : Nat → Int64} (h : qTx 0 0 fe ke ri dO tu rm fn st tf six ks wa op se rd g w) {row : Nat → Int32} {n s : Nat} (hn : n ≤ 10) (hs : s ≤ 9) (hr : ∀ i : Nat, i < n → ∃ q : Nat, row i = nI q ∧ (q : Int) < ke.toInt) : ∀ (f i : Nat), (2147483647 - (nI i).toInt).toNat < f → i ≤ n → ((¬ ∃ k : Nat, i ≤ k ∧ k < n ∧ s ≤ (qRw k row 0).countP (fun x => qAp g (F_r_all g) x (row k))) ∧ F_Li_fewestFiled_L4a (nI n) fe ke st tf ks row (nI s) f (nI (qFd (qAp g (F_r_all g)) (qRw i row 0).reverse)) (nI i) = nI (qFd (qAp g (F_r_all g)) (qRw n row 0).reverse)) ∨ ((∃ k : Nat, i ≤ k ∧ k < n ∧ s ≤ (qRw k row 0).countP (fun x => qAp g (F_r_all g) x (row k))) ∧ F_Li_fewestFiled_L4a (nI n) fe ke st tf ks row (nI s) f (nI (qFd (qAp g (F_r_all g)) (qRw i row 0).reverse)) (nI i) = -1) := by
  intro f
  induction f with
  | zero => intro i hf; exact absurd hf (Nat.not_lt_zero _)
  | succ f ih =>
    intro i hf hi
    have h0 : 0 ≤ (g 0).toInt := by rw [← show fe = g 0 from h.1.1]; exact h.2.1.1.1
    have h3 : (g 0).toInt ≤ 3 := by rw [← show fe = g 0 from h.1.1]; exact h.2.1.1.2
    have e := nI_toInt (show i < 2147483648 by omega)
    have e2 := nI_toInt (show i + 1 < 2147483648 by omega)
    have en := nI_toInt (show n < 2147483648 by omega)
    have es := nI_toInt (show s < 2147483648 by omega)
    rw [F_Li_fewestFiled_L4a_s]
    by_cases c : i = n
    · subst c
      simp only [show nI i ≤ nI i from q_le.mpr (Int.le_refl _), ↓reduceIte]
      exact Or.inl ⟨fun ⟨k, h1, h2, _⟩ => absurd h1 (by omega), trivial⟩
    · have hih := ih (i + 1) (by omega) (by omega)
      rw [q_fdS (q_apE h0 h3 _)] at hih
      have hle : (qRw i row 0).countP (fun x => qAp g (F_r_all g) x (row i)) ≤ 10 := Nat.le_trans List.countP_le_length (by rw [qRw_len]; omega)
      obtain ⟨K, hK⟩ : ∃ K : Nat, (qRw i row 0).countP (fun x => qAp g (F_r_all g) x (row i)) = K := ⟨_, rfl⟩
      rw [hK] at hih hle
      have eK := nI_toInt (show K < 2147483648 by omega)
      simp only [show ¬ nI n ≤ nI i from q_nle.mpr (by rw [e, en]; omega), q_aa (g := g) h (show i < 10 by omega) (fun j hj => hr j (by omega)), hK, qnI_s, ↓reduceIte]
      by_cases d : K < s
      · simp only [show nI K < nI s from q_lt.mpr (by rw [eK, es]; omega), ↓reduceIte]
        have hx : (∃ k : Nat, i ≤ k ∧ k < n ∧ s ≤ (qRw k row 0).countP (fun x => qAp g (F_r_all g) x (row k))) ↔ (∃ k : Nat, i + 1 ≤ k ∧ k < n ∧ s ≤ (qRw k row 0).countP (fun x => qAp g (F_r_all g) x (row k))) := by
          constructor
          · rintro ⟨k, k1, k2, k3⟩
            by_cases ek : k = i
            · subst ek
              rw [hK] at k3
              omega
            · exact ⟨k, by omega, k2, k3⟩
          · rintro ⟨k, k1, k2, k3⟩
            exact ⟨k, by omega, k2, k3⟩
        rw [hx]
        by_cases z : K = 0
        · rw [if_pos z, Nat.zero_add] at hih
          simp only [show nI K ≤ 0 from q_le.mpr (by rw [eK, q0]; omega), ↓reduceIte]
          exact hih
        · rw [if_neg z, Nat.add_comm 1] at hih
          simp only [show ¬ nI K ≤ 0 from q_nle.mpr (by rw [eK, q0]; omega), ↓reduceIte]
          exact hih
      · simp only [show ¬ nI K < nI s from q_nlt.mpr (by rw [eK, es]; omega), ↓reduceIte]
        exact Or.inr ⟨⟨i, Nat.le_refl _, by omega, by rw [hK]; omega⟩, trivial⟩
theorem q_fi72 {g t : Nat → Int32} {n i v s : Nat} {G : Int32 → Int32 → (Int32 × Int32 × Int32 × Int32 × (Nat → Int32))} (hn : n ≤ 10) (hi : i < n) (hs : s ≤ 9) : ∀ (f al ah j : Nat), (2147483647 - (nI j).toInt).toNat < f → j ≤ n → al ≤ j → ah ≤ j → (F_r_filed_L72a g (nI s) (nI n) t (nI v) (nI i) G f (nI al) (nI ah) (nI j)).1 = if al + (qRw (n - j) t j).countP (qAp g (F_r_all g) (t i)) ≤ s then (G (nI (v + if ah + (qRw (i - j) t j).countP (qAp g (F_r_all g) (t i)) = 0 then 0 else 1)) (nI (i + 1))).1 else -1 := by
  intro f
  induction f with
  | zero => intro al ah j hf; exact absurd hf (Nat.not_lt_zero _)
  | succ f ih =>
    intro al ah j hf hj hal hah
    have e := nI_toInt (show j < 2147483648 by omega)
    have e2 := nI_toInt (show j + 1 < 2147483648 by omega)
    have ei := nI_toInt (show i < 2147483648 by omega)
    have en := nI_toInt (show n < 2147483648 by omega)
    have es := nI_toInt (show s < 2147483648 by omega)
    have ea := nI_toInt (show al < 2147483648 by omega)
    have eh := nI_toInt (show ah < 2147483648 by omega)
    have z0 : ∀ x : Nat, nI x + 0 = nI x := fun x => by rw [show (0 : Int32) = nI 0 from rfl, nI_add, Nat.add_zero]
    rw [F_r_filed_L72a_s]
    simp only [qnI_s, z0, qnI_cl (show i < 2147483648 by omega), qnI_cl (show j < 2147483648 by omega)]
    by_cases c : j = n
    · subst c
      have q00 : ∀ b : Nat, qRw 0 t b = [] := fun _ => rfl
      simp only [show nI j ≤ nI j from q_le.mpr (Int.le_refl _), Nat.sub_self, show i - j = 0 by omega, q00, List.countP_nil, Nat.add_zero, F_r_refuse_s, ↓reduceIte]
      by_cases d : al ≤ s
      · by_cases z : ah = 0
        · simp only [show nI al ≤ nI s from q_le.mpr (by rw [ea, es]; omega), d, show nI 0 ≤ (0 : Int32) from q_le.mpr (Int.le_refl _), z, Nat.add_zero, ↓reduceIte]
        · simp only [show nI al ≤ nI s from q_le.mpr (by rw [ea, es]; omega), d, show ¬ nI ah ≤ 0 from q_nle.mpr (by rw [eh, q0]; omega), z, ↓reduceIte]
      · simp only [show ¬ nI al ≤ nI s from q_nle.mpr (by rw [ea, es]; omega), d, ↓reduceIte]
    · rw [show n - j = (n - (j + 1)) + 1 by omega, q_rwC, List.countP_cons]
      simp only [show ¬ nI n ≤ nI j from q_nle.mpr (by rw [e, en]; omega), ↓reduceIte]
      by_cases d : F_r_differ g (t i) 0 (t j) 0 (F_r_all g) = 0
      · have hp : qAp g (F_r_all g) (t i) (t j) = true := decide_eq_true d
        simp only [d, hp, ↓reduceIte]
        by_cases x : i ≤ j
        · simp only [show nI i ≤ nI j from q_le.mpr (by rw [ei, e]; omega), ↓reduceIte]
          rw [ih (al + 1) ah (j + 1) (by omega) (by omega) (by omega) (by omega), show i - j = 0 by omega, show i - (j + 1) = 0 by omega]
          rw [show al + 1 + List.countP (qAp g (F_r_all g) (t i)) (qRw (n - (j + 1)) t (j + 1)) = al + (List.countP (qAp g (F_r_all g) (t i)) (qRw (n - (j + 1)) t (j + 1)) + 1) by omega]
          rfl
        · simp only [show ¬ nI i ≤ nI j from q_nle.mpr (by rw [ei, e]; omega), ↓reduceIte]
          rw [ih (al + 1) (ah + 1) (j + 1) (by omega) (by omega) (by omega) (by omega)]
          rw [show i - j = (i - (j + 1)) + 1 by omega, q_rwC, List.countP_cons, if_pos hp]
          rw [show al + 1 + List.countP (qAp g (F_r_all g) (t i)) (qRw (n - (j + 1)) t (j + 1)) = al + (List.countP (qAp g (F_r_all g) (t i)) (qRw (n - (j + 1)) t (j + 1)) + 1) by omega]
          rw [show ah + 1 + List.countP (qAp g (F_r_all g) (t i)) (qRw (i - (j + 1)) t (j + 1)) = ah + (List.countP (qAp g (F_r_all g) (t i)) (qRw (i - (j + 1)) t (j + 1)) + 1) by omega]
      · have hp : qAp g (F_r_all g) (t i) (t j) = false := decide_eq_false d
        simp only [d, hp, Bool.false_eq_true, Nat.add_zero, ↓reduceIte]
        rw [ih al ah (j + 1) (by omega) (by omega) (by omega) (by omega)]
        by_cases x : i ≤ j
        · rw [show i - j = 0 by omega, show i - (j + 1) = 0 by omega]
          rfl
        · rw [show i - j = (i - (j + 1)) + 1 by omega, q_rwC, List.countP_cons]
          simp only [hp, Bool.false_eq_true, Nat.add_zero, ↓reduceIte]
theorem q_fi54 {g t : Nat → Int32} {n s : Nat} (h0 : 0 ≤ (g 0).toInt) (h3 : (g 0).toInt ≤ 3) (hn : n ≤ 10) (hs : s ≤ 9) : ∀ (f i : Nat), (2147483647 - (nI i).toInt).toNat < f → i ≤ n → ((¬ ∃ k : Nat, i ≤ k ∧ k < n ∧ s < (qRw n t 0).countP (qAp g (F_r_all g) (t k))) ∧ (F_r_filed_L54a g (nI s) (nI n) t f (nI (qFd (qAp g (F_r_all g)) (qRw i t 0).reverse)) (nI i)).1 = nI (qFd (qAp g (F_r_all g)) (qRw n t 0).reverse)) ∨ ((∃ k : Nat, i ≤ k ∧ k < n ∧ s < (qRw n t 0).countP (qAp g (F_r_all g) (t k))) ∧ (F_r_filed_L54a g (nI s) (nI n) t f (nI (qFd (qAp g (F_r_all g)) (qRw i t 0).reverse)) (nI i)).1 = -1) := by
  intro f
  induction f with
  | zero => intro i hf; exact absurd hf (Nat.not_lt_zero _)
  | succ f ih =>
    intro i hf hi
    have e := nI_toInt (show i < 2147483648 by omega)
    have e2 := nI_toInt (show i + 1 < 2147483648 by omega)
    have en := nI_toInt (show n < 2147483648 by omega)
    have hp := q_apE h0 h3 (F_r_all g)
    rw [F_r_filed_L54a_s]
    by_cases c : i = n
    · subst c
      simp only [show nI i ≤ nI i from q_le.mpr (Int.le_refl _), ↓reduceIte]
      exact Or.inl ⟨fun ⟨k, h1, h2, _⟩ => absurd h1 (by omega), trivial⟩
    · simp only [show ¬ nI n ≤ nI i from q_nle.mpr (by rw [e, en]; omega), ↓reduceIte]
      have h72 := q_fi72 (g := g) (t := t) (v := qFd (qAp g (F_r_all g)) (qRw i t 0).reverse) (G := F_r_filed_L54a g (nI s) (nI n) t f) hn (show i < n by omega) hs ((2147483647 - (0 : Int32).toInt).toNat + 1) 0 0 0 (by show (2147483647 - (0 : Int32).toInt).toNat < _; omega) (by omega) (by omega) (by omega)
      rw [Nat.sub_zero, Nat.sub_zero, Nat.zero_add, Nat.zero_add] at h72
      rw [show nI 0 = (0 : Int32) from rfl] at h72
      rw [h72]
      by_cases d : (qRw n t 0).countP (qAp g (F_r_all g) (t i)) ≤ s
      · rw [if_pos d]
        have hx : (∃ k : Nat, i ≤ k ∧ k < n ∧ s < (qRw n t 0).countP (qAp g (F_r_all g) (t k))) ↔ (∃ k : Nat, i + 1 ≤ k ∧ k < n ∧ s < (qRw n t 0).countP (qAp g (F_r_all g) (t k))) := by
          constructor
          · rintro ⟨k, k1, k2, k3⟩
            by_cases ek : k = i
            · subst ek
              omega
            · exact ⟨k, by omega, k2, k3⟩
          · rintro ⟨k, k1, k2, k3⟩
            exact ⟨k, by omega, k2, k3⟩
        rw [hx]
        have hih := ih (i + 1) (by omega) (by omega)
        rw [q_fdS hp, show (fun x => qAp g (F_r_all g) x (t i)) = qAp g (F_r_all g) (t i) from funext (fun x => hp.2.1 _ _), Nat.add_comm (if List.countP (qAp g (F_r_all g) (t i)) (qRw i t 0) = 0 then 0 else 1)] at hih
        exact hih
      · rw [if_neg d]
        exact Or.inr ⟨⟨i, Nat.le_refl _, by omega, by omega⟩, rfl⟩
theorem q_filedA {fe ke ri dO tu rm lent : Int32} {fn : Nat → Int64} {st tf six ks wa op se rd on om g t : Nat → Int32} {w : Nat → Int64} {m lp k1 k2 : Int32} {lr : Nat → Int32} (h : qTx 0 0 fe ke ri dO tu rm fn st tf six ks wa op se rd g w) (hR : qRn 0 ri ke lent on om g) (hC : zC g) : (F_X_filed fe ke lent ri st tf ks on om lp lr k1 k2).1 = (F_r_filed m g t k1 k2).1 := by
  have b := h.2.1
  have h0 : 0 ≤ (g 0).toInt := by rw [← show fe = g 0 from h.1.1]; exact b.1.1
  have h3 : (g 0).toInt ≤ 3 := by rw [← show fe = g 0 from h.1.1]; exact b.1.2
  have hin : F_r_isIn k2.toInt64 2 9 = if k2 < 2 then 0 else if 9 < k2 then 0 else 1 := by
    rw [show (2 : Int64) = (2 : Int32).toInt64 by decide +kernel, show (9 : Int64) = (9 : Int32).toInt64 by decide +kernel, q_isIn]
  rw [F_X_filed_s, F_r_filed_s]
  simp only [q_hasRr, q_isR (k := k1) h.1.2.2.1 b.2.2.1.1 (by omega), F_r_refuse_s, hin]
  by_cases c : 0 ≤ k1.toInt ∧ k1.toInt < ri.toInt
  · obtain ⟨r, rfl, r1, -⟩ := q_nat c (by omega)
    obtain ⟨L, L', p1, p2, p3, p4, p5, p6⟩ := q_thA hR h.1.2.1 h.1.2.2.1 b.2.1.2 r1 (by omega) hC
    obtain ⟨row', w1, w2⟩ := p5 lr
    obtain ⟨t', w3, w4⟩ := p6 t
    have hl := p1.length_eq
    have hrow : ∀ i : Nat, i < L.length → ∃ q : Nat, row' i = nI q ∧ (q : Int) < ke.toInt := fun i hi => p4 _ (by rw [← w2]; exact qRw_mem.mpr ⟨i, hi, by rw [Nat.zero_add]⟩)
    rw [F_Li_load_s]
    simp only [c, q_n1, and_self, w1, w3, ↓reduceIte]
    by_cases d : k2 < 2
    · simp only [d, ↓reduceIte]
    · by_cases d2 : k2 ≤ 9
      · have d3 : ¬ (9 : Int32) < k2 := q_nlt.mpr (q_le.mp d2)
        have d1 := q_nlt.mp d
        have q9 : (9 : Int32).toInt = 9 := by decide +kernel
        have q2 : (2 : Int32).toInt = 2 := by decide +kernel
        rw [q2] at d1
        have d4 := q_le.mp d2
        rw [q9] at d4
        obtain ⟨s, hs, s1, -⟩ := q_nat (k := k2) (m := 10) ⟨by omega, by omega⟩ (by omega)
        subst hs
        simp only [d, d2, d3, q_n1, ↓reduceIte]
        rw [F_Li_fewestFiled_s]
        have hc := q_ffL (g := g) (s := s) h p2 (by omega) hrow ((2147483647 - (0 : Int32).toInt).toNat + 1) 0 (by show (2147483647 - (0 : Int32).toInt).toNat < _; omega) (by omega)
        have hr := q_fi54 (g := g) (t := t') (n := L'.length) (s := s) h0 h3 (by omega) (by omega) ((2147483647 - (0 : Int32).toInt).toNat + 1) 0 (by show (2147483647 - (0 : Int32).toInt).toNat < _; omega) (by omega)
        have hp := q_apE h0 h3 (F_r_all g)
        have m1 := q_mxL hp s row' L.length
        rw [w2] at m1 hc
        rw [w4] at hr
        have m2 : (∃ a, a ∈ L ∧ s < L.countP (qAp g (F_r_all g) a)) ↔ (∃ k : Nat, k < L'.length ∧ s < L'.countP (qAp g (F_r_all g) (t' k))) := by
          constructor
          · rintro ⟨a, a1, a2⟩
            have a3 := p1.mem_iff.mp a1
            rw [← w4] at a3
            obtain ⟨k, k1, k2⟩ := qRw_mem.mp a3
            rw [Nat.zero_add] at k2
            exact ⟨k, k1, by rw [k2, ← p1.countP_eq]; exact a2⟩
          · rintro ⟨k, k1, k2⟩
            refine ⟨t' k, p1.mem_iff.mpr ?_, by rw [p1.countP_eq]; exact k2⟩
            rw [← w4]
            exact qRw_mem.mpr ⟨k, k1, by rw [Nat.zero_add]⟩
        have hfd : qFd (qAp g (F_r_all g)) L.reverse = qFd (qAp g (F_r_all g)) L'.reverse := q_fdP hp ((List.reverse_perm L).trans (p1.trans (List.reverse_perm L').symm))
        have hF0 : ∀ l : List Int32, qFd (qAp g (F_r_all g)) l ≤ l.length := fun l => by
          induction l with
          | nil => exact Nat.le_refl _
          | cons a l ih =>
            show (if _ then 0 else 1) + qFd _ l ≤ l.length + 1
            split <;> omega
        have hF1 := hF0 L.reverse
        rw [List.length_reverse] at hF1
        have eF := nI_toInt (show qFd (qAp g (F_r_all g)) L.reverse < 2147483648 by omega)
        have nz : ¬ nI (qFd (qAp g (F_r_all g)) L.reverse) = -1 := fun h9 => by
          have h8 := congrArg Int32.toInt h9
          rw [eF, q_1] at h8
          omega
        rcases hc with ⟨x1, x2⟩ | ⟨x1, x2⟩ <;> rcases hr with ⟨y1, y2⟩ | ⟨y1, y2⟩
        · have x2' : F_Li_fewestFiled_L4a (nI L.length) fe ke st tf ks row' (nI s) ((2147483647 - (0 : Int32).toInt).toNat + 1) 0 0 = nI (qFd (qAp g (F_r_all g)) L.reverse) := x2
          have y2' : (F_r_filed_L54a g (nI s) (nI L'.length) t' ((2147483647 - (0 : Int32).toInt).toNat + 1) 0 0).1 = nI (qFd (qAp g (F_r_all g)) L'.reverse) := y2
          rw [x2', y2', if_neg nz, hfd]
        · refine absurd ?_ x1
          obtain ⟨k, k1, k2, k3⟩ := y1
          obtain ⟨k, k4, k5⟩ := m1.mp (m2.mpr ⟨k, k2, k3⟩)
          exact ⟨k, Nat.zero_le _, k4, k5⟩
        · refine absurd ?_ y1
          obtain ⟨k, k1, k2, k3⟩ := x1
          obtain ⟨k, k4, k5⟩ := m2.mp (m1.mpr ⟨k, k2, k3⟩)
          exact ⟨k, Nat.zero_le _, k4, k5⟩
        · have x2' : F_Li_fewestFiled_L4a (nI L.length) fe ke st tf ks row' (nI s) ((2147483647 - (0 : Int32).toInt).toNat + 1) 0 0 = -1 := x2
          have y2' : (F_r_filed_L54a g (nI s) (nI L'.length) t' ((2147483647 - (0 : Int32).toInt).toNat + 1) 0 0).1 = -1 := y2
          rw [x2', y2', if_pos rfl]
      · have d3 : (9 : Int32) < k2 := q_lt.mpr (q_nle.mp d2)
        simp only [d, d2, d3, ↓reduceIte]
  · simp only [c, ↓reduceIte]
