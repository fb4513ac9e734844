theorem q_rwC (m : Nat) (on : Nat → Int32) (b : Nat) : qRw (m + 1) on b = on b :: qRw m on (b + 1) := by
  show (List.range (m + 1)).map _ = _
  rw [List.range_succ_eq_map, List.map_cons, List.map_map]
  show on (b + 0) :: _ = _
  congr 1
  exact List.map_congr_left (fun i _ => congrArg on (by show b + (i + 1) = b + 1 + i; omega))
/-- a KEY's STEP as it is met with a way, on both sides -/
theorem q_stA {fe ke ri dO tu rm : Int32} {fn : Nat → Int64} {st tf six ks wa op se rd g : Nat → Int32} {w : Nat → Int64} (h : qTx 0 0 fe ke ri dO tu rm fn st tf six ks wa op se rd g w) {a f : Nat} (ha : (a : Int) < ke.toInt) (hf : (f : Int) < fe.toInt) (wy : Int32) : F_H_stepAt fe ke st tf ks (nI a) (nI f) wy = F_r_stepAs g (nI a) (nI f) wy := by
  obtain ⟨⟨a1, a2, -⟩, ⟨b1, b2, -⟩, h1, h2, -⟩ := h
  have ea := nI_toInt (show a < 2147483648 by omega)
  have ef := nI_toInt (show f < 2147483648 by omega)
  obtain ⟨x1, -, -, -, x5, -⟩ := h1 f hf
  have e1 : nI a * 3 + nI f = nI (a * 3 + f) := by rw [show (3 : Int32) = nI 3 by decide +kernel, qnI_mul, nI_add]
  have e3 : ((65 : Int32) + 3 * nI a + nI f).toNatClampNeg = 65 + 3 * a + f := by
    show (nI 65 + nI 3 * nI a + nI f).toNatClampNeg = _
    rw [qnI_mul, nI_add, nI_add, qnI_cl (by omega)]
  have e4 : ((14 : Int32) + nI f).toNatClampNeg = 14 + f := q_adn (a := 14) (by omega)
  have e5 : ((11 : Int32) + nI f).toNatClampNeg = 11 + f := q_adn (a := 11) (by omega)
  have hk := (h2 a ha (by omega) f hf (by omega)).trans (by rw [show 0 + 65 + 3 * a + f = 65 + 3 * a + f by omega])
  rw [F_H_stepAt_s, F_r_stepAs_s]
  simp only [q_hasFf, q_hasKk, ea, ef, ha, hf, show (0 : Int) ≤ (a : Int) by omega, show (0 : Int) ≤ (f : Int) by omega, and_self, q_n1, e1, e3, e4, e5, q_at30 (g := ks) (show a * 3 + f < 30 by omega), q_at3 (g := tf) (show f < 3 by omega), q_at3 (g := st) (show f < 3 by omega), ↓reduceIte]
  rw [show a * 3 + f = 3 * a + f by omega, hk, x5, x1, show 0 + 14 + f = 14 + f by omega, show 0 + 11 + f = 11 + f by omega]
theorem q_alkL {fe ke ri dO tu rm : Int32} {fn : Nat → Int64} {st tf six ks wa op se rd g : Nat → Int32} {w : Nat → Int64} (h : qTx 0 0 fe ke ri dO tu rm fn st tf six ks wa op se rd g w) {a b : Nat} (ha : (a : Int) < ke.toInt) (hb : (b : Int) < ke.toInt) (s wy : Int32) : ∀ (f i : Nat), (2147483647 - (nI i).toInt).toNat < f → (i : Int) ≤ fe.toInt → F_Li_areAlike_L3a fe ke st tf ks (nI a) (nI b) s wy f (nI i) = if F_r_differ_L3a g (nI a) 0 (nI b) wy s f (nI i) = 0 then 1 else 0 := by
  intro f
  induction f with
  | zero => intro i hf; exact absurd hf (Nat.not_lt_zero _)
  | succ f ih =>
    intro i hf hi
    have hfe := h.2.1.1
    have e := nI_toInt (show i < 2147483648 by omega)
    have e2 := nI_toInt (show i + 1 < 2147483648 by omega)
    rw [F_Li_areAlike_L3a_s, F_r_differ_L3a_s]
    simp only [q_g0, ← show fe = g 0 from h.1.1, qnI_s]
    by_cases c : fe ≤ nI i
    · simp only [c, ↓reduceIte]
    · have c' : (i : Int) < fe.toInt := by
        have h9 := q_nle.mp c
        rw [e] at h9
        exact h9
      have hq : (s >>> (nI i &&& 31)) &&& 1 = qBit s i := rfl
      have hih := ih (i + 1) (by omega) (by omega)
      simp only [c, hq, ↓reduceIte]
      rcases q_bit01 (x := s) (j := i) (by omega) with d | d
      · simp only [d, show ¬ (0 : Int32) = 1 by decide, ↓reduceIte]
        exact hih
      · simp only [d, q_n1, q_stA h ha c' 0, q_stA h hb c' wy, ↓reduceIte]
        by_cases d2 : F_r_stepAs g (nI a) (nI i) 0 = F_r_stepAs g (nI b) (nI i) wy
        · simp only [d2, ↓reduceIte]
          exact hih
        · simp only [d2, q_n1, ↓reduceIte]
theorem q_alk {fe ke ri dO tu rm : Int32} {fn : Nat → Int64} {st tf six ks wa op se rd g : Nat → Int32} {w : Nat → Int64} (h : qTx 0 0 fe ke ri dO tu rm fn st tf six ks wa op se rd g w) {a b : Nat} (ha : (a : Int) < ke.toInt) (hb : (b : Int) < ke.toInt) (s wy : Int32) : F_Li_areAlike fe ke st tf ks (nI a) (nI b) s wy = if F_r_differ g (nI a) 0 (nI b) wy s = 0 then 1 else 0 := by
  rw [F_Li_areAlike_s, F_r_differ_s]
  exact q_alkL h ha hb s wy ((2147483647 - (0 : Int32).toInt).toNat + 1) 0 (by show (2147483647 - (0 : Int32).toInt).toNat < _; omega) (by have := h.2.1.1.1; omega)
/-- alike by a set of FEATURES -/
theorem q_dfL {g : Nat → Int32} {a wa b wb s : Int32} (h0 : 0 ≤ (g 0).toInt) (h3 : (g 0).toInt ≤ 3) : ∀ (f i : Nat), (2147483647 - (nI i).toInt).toNat < f → (i : Int) ≤ (g 0).toInt → (F_r_differ_L3a g a wa b wb s f (nI i) = 0 ↔ ∀ j : Nat, i ≤ j → (j : Int) < (g 0).toInt → qBit s j = 1 → F_r_stepAs g a (nI j) wa = F_r_stepAs g b (nI j) wb) := by
  intro f
  induction f with
  | zero => intro i hf; exact absurd hf (Nat.not_lt_zero _)
  | succ f ih =>
    intro i hf hi
    have e := nI_toInt (show i < 2147483648 by omega)
    have e2 := nI_toInt (show i + 1 < 2147483648 by omega)
    rw [F_r_differ_L3a_s]
    simp only [q_g0, qnI_s]
    by_cases c : g 0 ≤ nI i
    · simp only [c, ↓reduceIte]
      have h9 := q_le.mp c
      rw [e] at h9
      exact ⟨fun _ j h1 h2 => absurd h2 (by omega), fun _ => trivial⟩
    · have c' : (i : Int) < (g 0).toInt := by
        have h9 := q_nle.mp c
        rw [e] at h9
        exact h9
      have hq : (s >>> (nI i &&& 31)) &&& 1 = qBit s i := rfl
      have hih := ih (i + 1) (by omega) (by omega)
      simp only [c, hq, ↓reduceIte]
      by_cases d : qBit s i = 1
      · by_cases d2 : F_r_stepAs g a (nI i) wa = F_r_stepAs g b (nI i) wb
        · simp only [d, d2, ↓reduceIte]
          rw [hih]
          refine ⟨fun h9 j h1 h2 h4 => ?_, fun h9 j h1 => h9 j (by omega)⟩
          by_cases ej : j = i
          · subst ej; exact d2
          · exact h9 j (by omega) h2 h4
        · simp only [d, d2, q_n1, false_iff, ↓reduceIte]
          exact fun h9 => d2 (h9 i (Nat.le_refl _) c' d)
      · simp only [d, ↓reduceIte]
        rw [hih]
        refine ⟨fun h9 j h1 h2 h4 => ?_, fun h9 j h1 => h9 j (by omega)⟩
        by_cases ej : j = i
        · subst ej; exact absurd h4 d
        · exact h9 j (by omega) h2 h4
theorem q_df {g : Nat → Int32} {a wa b wb s : Int32} (h0 : 0 ≤ (g 0).toInt) (h3 : (g 0).toInt ≤ 3) : F_r_differ g a wa b wb s = 0 ↔ ∀ j : Nat, (j : Int) < (g 0).toInt → qBit s j = 1 → F_r_stepAs g a (nI j) wa = F_r_stepAs g b (nI j) wb := by
  rw [F_r_differ_s]
  refine (q_dfL h0 h3 ((2147483647 - (0 : Int32).toInt).toNat + 1) 0 (by show (2147483647 - (0 : Int32).toInt).toNat < _; omega) (by omega)).trans ⟨fun h9 j => h9 j (Nat.zero_le _), fun h9 j _ => h9 j⟩
/-- couples in a list -/
def qCn (p : Int32 → Int32 → Bool) : List Int32 → Nat
  | [] => 0
  | a :: l => l.countP (p a) + qCn p l
theorem q_cnP {p : Int32 → Int32 → Bool} (hs : ∀ a b, p a b = p b a) {l l' : List Int32} (h : l.Perm l') : qCn p l = qCn p l' := by
  induction h with
  | nil => rfl
  | cons a h ih => show List.countP _ _ + qCn p _ = List.countP _ _ + qCn p _; rw [ih, h.countP_eq]
  | swap a b l =>
    show List.countP (p b) (a :: l) + (List.countP (p a) l + qCn p l) = List.countP (p a) (b :: l) + (List.countP (p b) l + qCn p l)
    rw [List.countP_cons, List.countP_cons, hs b a]
    omega
  | trans _ _ h1 h2 => exact h1.trans h2
theorem q_cnS {p : Int32 → Int32 → Bool} (l : List Int32) (a : Int32) : qCn p (l ++ [a]) = qCn p l + l.countP (fun x => p x a) := by
  induction l with
  | nil => rfl
  | cons b l ih =>
    show List.countP (p b) (l ++ [a]) + qCn p (l ++ [a]) = List.countP (p b) l + qCn p l + List.countP (fun x => p x a) (b :: l)
    rw [ih, List.countP_append, List.countP_singleton, List.countP_cons]
    omega
noncomputable def qAp (g : Nat → Int32) (s : Int32) (a b : Int32) : Bool := decide (F_r_differ g a 0 b 0 s = 0)
theorem q_apS {g : Nat → Int32} (h0 : 0 ≤ (g 0).toInt) (h3 : (g 0).toInt ≤ 3) (s a b : Int32) : qAp g s a b = qAp g s b a := by
  refine decide_eq_decide.mpr ?_
  rw [q_df h0 h3, q_df h0 h3]
  exact ⟨fun h j h1 h2 => (h j h1 h2).symm, fun h j h1 h2 => (h j h1 h2).symm⟩
theorem q_aaL {fe ke ri dO tu rm : Int32} {fn : Nat → Int64} {st tf six ks wa op se rd g : Nat → Int32} {w : Nat → Int64} (h : qTx 0 0 fe ke ri dO tu rm fn st tf six ks wa op se rd g w) {row : Nat → Int32} {k : Nat} (hk : k < 10) (hr : ∀ i : Nat, i ≤ k → ∃ q : Nat, row i = nI q ∧ (q : Int) < ke.toInt) : ∀ (f i : Nat), (2147483647 - (nI i).toInt).toNat < f → i ≤ k → F_Li_alikeAhead_L4a fe ke st tf ks row (nI k) f (nI ((qRw i row 0).countP (fun x => qAp g (F_r_all g) x (row k)))) (nI i) = nI ((qRw k row 0).countP (fun x => qAp g (F_r_all g) x (row k))) := by
  intro f
  induction f with
  | zero => intro i hf; exact absurd hf (Nat.not_lt_zero _)
  | succ f ih =>
    intro i hf hi
    have e := nI_toInt (show i < 2147483648 by omega)
    have e2 := nI_toInt (show i + 1 < 2147483648 by omega)
    have ek := nI_toInt (show k < 2147483648 by omega)
    rw [F_Li_alikeAhead_L4a_s]
    by_cases c : i = k
    · subst c
      simp only [show nI i ≤ nI i from q_le.mpr (Int.le_refl _), ↓reduceIte]
    · have hall : F_Li_allFeatures fe = F_r_all g := by
        rw [F_Li_allFeatures_s, F_r_all_s, h.1.1]
        rfl
      obtain ⟨a, a1, a2⟩ := hr i (by omega)
      obtain ⟨b, b1, b2⟩ := hr k (Nat.le_refl _)
      have hih := ih (i + 1) (by omega) (by omega)
      rw [qRw_succ i, List.countP_append, List.countP_singleton, Nat.zero_add] at hih
      simp only [show ¬ nI k ≤ nI i from q_nle.mpr (by rw [e, ek]; omega), F_Li_keyAt_s, q_at10 (g := row) (show i < 10 by omega), q_at10 (g := row) hk, hall, a1, b1, q_alk h a2 b2, qnI_s, ↓reduceIte]
      rw [a1, b1] at hih
      by_cases d : F_r_differ g (nI a) 0 (nI b) 0 (F_r_all g) = 0
      · simp only [d, q_n1, ↓reduceIte]
        rw [show qAp g (F_r_all g) (nI a) (nI b) = true from decide_eq_true d] at hih
        exact hih
      · simp only [d, ↓reduceIte]
        rw [show qAp g (F_r_all g) (nI a) (nI b) = false from decide_eq_false d] at hih
        exact hih
theorem q_aa {fe ke ri dO tu rm : Int32} {fn : Nat → Int64} {st tf six ks wa op se rd g : Nat → Int32} {w : Nat → Int64} (h : qTx 0 0 fe ke ri dO tu rm fn st tf six ks wa op se rd g w) {row : Nat → Int32} {k : Nat} (hk : k < 10) (hr : ∀ i : Nat, i ≤ k → ∃ q : Nat, row i = nI q ∧ (q : Int) < ke.toInt) : F_Li_alikeAhead fe ke st tf ks row (nI k) = nI ((qRw k row 0).countP (fun x => qAp g (F_r_all g) x (row k))) := by
  rw [F_Li_alikeAhead_s]
  exact q_aaL h hk hr ((2147483647 - (0 : Int32).toInt).toNat + 1) 0 (by show (2147483647 - (0 : Int32).toInt).toNat < _; omega) (by omega)
theorem q_caL {fe ke ri dO tu rm : Int32} {fn : Nat → Int64} {st tf six ks wa op se rd g : Nat → Int32} {w : Nat → Int64} (h : qTx 0 0 fe ke ri dO tu rm fn st tf six ks wa op se rd g w) {row : Nat → Int32} {n : Nat} (hn : n ≤ 10) (hr : ∀ i : Nat, i < n → ∃ q : Nat, row i = nI q ∧ (q : Int) < ke.toInt) : ∀ (f i : Nat), (2147483647 - (nI i).toInt).toNat < f → i ≤ n → F_Li_couplesAlike_L4a (nI n) fe ke st tf ks row f (nI (qCn (qAp g (F_r_all g)) (qRw i row 0))) (nI i) = nI (qCn (qAp g (F_r_all g)) (qRw n row 0)) := by
  intro f
  induction f with
  | zero => intro i hf; exact absurd hf (Nat.not_lt_zero _)
  | succ f ih =>
    intro i hf hi
    have e := nI_toInt (show i < 2147483648 by omega)
    have e2 := nI_toInt (show i + 1 < 2147483648 by omega)
    have en := nI_toInt (show n < 2147483648 by omega)
    rw [F_Li_couplesAlike_L4a_s]
    by_cases c : i = n
    · subst c
      simp only [show nI i ≤ nI i from q_le.mpr (Int.le_refl _), ↓reduceIte]
    · have hih := ih (i + 1) (by omega) (by omega)
      rw [qRw_succ i, q_cnS, Nat.zero_add] at hih
      simp only [show ¬ nI n ≤ nI i from q_nle.mpr (by rw [e, en]; omega), q_aa (g := g) h (show i < 10 by omega) (fun j hj => hr j (by omega)), nI_add, qnI_s, ↓reduceIte]
      exact hih
theorem q_al46 {g t : Nat → Int32} {n i : Nat} {G : Int32 → Int32 → (Int32 × Int32 × Int32 × Int32 × (Nat → Int32))} (hn : n ≤ 10) (hi : i < n) : ∀ (f s j : Nat), (2147483647 - (nI j).toInt).toNat < f → j ≤ n → F_r_alike_L46a g (nI n) t (nI i) G f (nI s) (nI j) = G (nI (s + (qRw (n - j) t j).countP (qAp g (F_r_all g) (t i)))) (nI (i + 1)) := by
  intro f
  induction f with
  | zero => intro s j hf; exact absurd hf (Nat.not_lt_zero _)
  | succ f ih =>
    intro s j hf hj
    have e := nI_toInt (show j < 2147483648 by omega)
    have e2 := nI_toInt (show j + 1 < 2147483648 by omega)
    have en := nI_toInt (show n < 2147483648 by omega)
    rw [F_r_alike_L46a_s]
    simp only [qnI_s, qnI_cl (show i < 2147483648 by omega), qnI_cl (show j < 2147483648 by omega)]
    by_cases c : j = n
    · subst c
      simp only [show nI j ≤ nI j from q_le.mpr (Int.le_refl _), Nat.sub_self, ↓reduceIte]
      rfl
    · have hih := fun s' => ih s' (j + 1) (by omega) (by omega)
      rw [show n - j = (n - (j + 1)) + 1 by omega, q_rwC, List.countP_cons]
      simp only [show ¬ nI n ≤ nI j from q_nle.mpr (by rw [e, en]; omega), ↓reduceIte]
      by_cases d : F_r_differ g (t i) 0 (t j) 0 (F_r_all g) = 0
      · simp only [d, ↓reduceIte]
        rw [hih, show qAp g (F_r_all g) (t i) (t j) = true from decide_eq_true d, if_pos rfl]
        congr 2
        omega
      · simp only [d, ↓reduceIte]
        rw [show nI s + 0 = nI s from by rw [show (0 : Int32) = nI 0 from rfl, nI_add, Nat.add_zero], hih, show qAp g (F_r_all g) (t i) (t j) = false from decide_eq_false d, if_neg (by decide)]
        rfl
theorem q_al33 {g t : Nat → Int32} {n : Nat} (hn : n ≤ 10) : ∀ (f s i : Nat), (2147483647 - (nI i).toInt).toNat < f → i ≤ n → F_r_alike_L33a g (nI n) t f (nI s) (nI i) = (nI (s + qCn (qAp g (F_r_all g)) (qRw (n - i) t i)), 0, 0, nI n, t) := by
  intro f
  induction f with
  | zero => intro s i hf; exact absurd hf (Nat.not_lt_zero _)
  | succ f ih =>
    intro s i hf hi
    have e := nI_toInt (show i < 2147483648 by omega)
    have e2 := nI_toInt (show i + 1 < 2147483648 by omega)
    have en := nI_toInt (show n < 2147483648 by omega)
    rw [F_r_alike_L33a_s]
    simp only [qnI_s]
    by_cases c : i = n
    · subst c
      simp only [show nI i ≤ nI i from q_le.mpr (Int.le_refl _), Nat.sub_self, ↓reduceIte]
      rfl
    · simp only [show ¬ nI n ≤ nI i from q_nle.mpr (by rw [e, en]; omega), ↓reduceIte]
      rw [q_al46 hn (by omega) _ s (i + 1) (by omega) (by omega), ih _ (i + 1) (by omega) (by omega)]
      rw [show n - i = (n - (i + 1)) + 1 by omega, q_rwC (n - (i + 1)) t i]
      show (nI (s + _ + _), _) = (nI (s + (_ + _)), _)
      rw [Nat.add_assoc]
theorem q_none (k : Int32) : F_Da_none k = k := F_Da_none_s ..
theorem q_alikeA {fe ke ri dO tu rm lent : Int32} {fn : Nat → Int64} {st tf six ks wa op se rd on om g t : Nat → Int32} {w : Nat → Int64} {m lp k1 : Int32} {lr : Nat → Int32} (h : qTx 0 0 fe ke ri dO tu rm fn st tf six ks wa op se rd g w) (hR : qRn 0 ri ke lent on om g) (hC : zC g) : (F_X_alike fe ke lent ri st tf ks on om lp lr k1).1 = (F_r_alike m g t k1).1 := by
  have b := h.2.1
  rw [F_X_alike_s, F_r_alike_s]
  simp only [q_hasRr, q_isR (k := k1) h.1.2.2.1 b.2.2.1.1 (by omega), F_r_refuse_s]
  by_cases c : 0 ≤ k1.toInt ∧ k1.toInt < ri.toInt
  · obtain ⟨r, rfl, r1, -⟩ := q_nat c (by omega)
    obtain ⟨L, L', p1, p2, p3, p4, p5, p6⟩ := q_thA hR h.1.2.1 h.1.2.2.1 b.2.1.2 r1 (by omega) hC
    obtain ⟨row', w1, w2⟩ := p5 lr
    obtain ⟨t', w3, w4⟩ := p6 t
    have hl := p1.length_eq
    have hrow : ∀ i : Nat, i < L.length → ∃ q : Nat, row' i = nI q ∧ (q : Int) < ke.toInt := fun i hi => p4 _ (by rw [← w2]; exact qRw_mem.mpr ⟨i, hi, by rw [Nat.zero_add]⟩)
    rw [F_Li_load_s]
    simp only [c, q_n1, and_self, w1, w3, ↓reduceIte]
    have h33 := q_al33 (g := g) (t := t') (n := L'.length) (by omega) ((2147483647 - (0 : Int32).toInt).toNat + 1) 0 0 (by show (2147483647 - (0 : Int32).toInt).toNat < _; omega) (by omega)
    rw [show nI 0 = (0 : Int32) from rfl] at h33
    rw [h33]
    rw [F_Li_couplesAlike_s]
    have hc := q_caL (g := g) h p2 hrow ((2147483647 - (0 : Int32).toInt).toNat + 1) 0 (by show (2147483647 - (0 : Int32).toInt).toNat < _; omega) (by omega)
    refine hc.trans ?_
    show nI _ = nI _
    rw [w2, Nat.sub_zero, w4, Nat.zero_add, q_cnP (q_apS (by rw [← h.1.1]; exact b.1.1) (by rw [← h.1.1]; exact b.1.2) _) p1]
  · simp only [c, ↓reduceIte]
