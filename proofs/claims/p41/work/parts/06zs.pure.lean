theorem q_subsub {c x y : Int32} (h : x = c - y) : c - x = y := by
  subst h
  have h1 : (c - y) + y = c := Int32.sub_add_cancel _ _
  have h2 : y + (c - y) - (c - y) = y := Int32.add_sub_cancel _ _
  rw [Int32.add_comm, h1] at h2
  exact h2
theorem q_stT {g : Nat → Int32} {a f : Int32} : (F_r_stepAs g a f 1 = F_r_stepAs g a f 0) ∨ (∃ c : Int32, ∀ b : Int32, F_r_stepAs g b f 1 = c - F_r_stepAs g b f 0) := by
  simp only [F_r_stepAs_s, show ¬ (0 : Int32) = 1 by decide, ↓reduceIte]
  by_cases d : g ((14 : Int32) + f).toNatClampNeg = 1
  · refine Or.inr ⟨g ((11 : Int32) + f).toNatClampNeg - 1, fun b => ?_⟩
    simp only [d, ↓reduceIte]
  · refine Or.inl ?_
    simp only [d, ↓reduceIte]
theorem q_stT2 {g : Nat → Int32} {f : Int32} : (∀ a : Int32, F_r_stepAs g a f 1 = F_r_stepAs g a f 0) ∨ (∃ c : Int32, ∀ b : Int32, F_r_stepAs g b f 1 = c - F_r_stepAs g b f 0) := by
  simp only [F_r_stepAs_s, show ¬ (0 : Int32) = 1 by decide, ↓reduceIte]
  by_cases d : g ((14 : Int32) + f).toNatClampNeg = 1
  · refine Or.inr ⟨g ((11 : Int32) + f).toNatClampNeg - 1, fun b => ?_⟩
    simp only [d, ↓reduceIte]
  · refine Or.inl (fun a => ?_)
    simp only [d, ↓reduceIte]
theorem q_stW {g : Nat → Int32} {a b f : Int32} : F_r_stepAs g a f 0 = F_r_stepAs g b f 1 ↔ F_r_stepAs g a f 1 = F_r_stepAs g b f 0 := by
  rcases q_stT2 (g := g) (f := f) with h | ⟨c, h⟩
  · rw [h, h]
  · rw [h, h]
    exact ⟨fun h9 => q_subsub h9, fun h9 => (q_subsub h9.symm).symm⟩
theorem q_dfW {g : Nat → Int32} (h0 : 0 ≤ (g 0).toInt) (h3 : (g 0).toInt ≤ 3) (a b s : Int32) : F_r_differ g a 0 b 1 s = 0 ↔ F_r_differ g a 1 b 0 s = 0 := by
  rw [q_df h0 h3, q_df h0 h3]
  exact ⟨fun h j h1 h2 => q_stW.mp (h j h1 h2), fun h j h1 h2 => q_stW.mpr (h j h1 h2)⟩
theorem q_dfS {g : Nat → Int32} (h0 : 0 ≤ (g 0).toInt) (h3 : (g 0).toInt ≤ 3) (a wa b wb s : Int32) : F_r_differ g a wa b wb s = 0 ↔ F_r_differ g b wb a wa s = 0 := by
  rw [q_df h0 h3, q_df h0 h3]
  exact ⟨fun h j h1 h2 => (h j h1 h2).symm, fun h j h1 h2 => (h j h1 h2).symm⟩
/-- a set of FEATURES tells two KEYS apart (TURNED, too) -/
def qTT (g : Nat → Int32) (s o a b : Int32) : Prop := ¬ F_r_differ g a 0 b 0 s = 0 ∧ (¬ o = 0 → ¬ F_r_differ g a 0 b 1 s = 0)
theorem q_ttS {g : Nat → Int32} (h0 : 0 ≤ (g 0).toInt) (h3 : (g 0).toInt ≤ 3) {s o a b : Int32} (h : qTT g s o a b) : qTT g s o b a := ⟨fun h9 => h.1 ((q_dfS h0 h3 ..).mp h9), fun ho h9 => h.2 ho ((q_dfW h0 h3 ..).mpr ((q_dfS h0 h3 ..).mp h9))⟩
theorem qRw_pw {R : Int32 → Int32 → Prop} {row : Nat → Int32} : ∀ n : Nat, (qRw n row 0).Pairwise R ↔ ∀ i j : Nat, i < j → j < n → R (row i) (row j) := by
  intro n
  induction n with
  | zero => exact ⟨fun _ i j _ hj => absurd hj (Nat.not_lt_zero _), fun _ => List.Pairwise.nil⟩
  | succ n ih =>
    rw [qRw_succ, List.pairwise_append, ih, Nat.zero_add]
    constructor
    · rintro ⟨h1, -, h2⟩ i j hi hj
      by_cases e : j = n
      · subst e
        exact h2 _ (qRw_mem.mpr ⟨i, hi, by rw [Nat.zero_add]⟩) _ List.mem_cons_self
      · exact h1 i j hi (by omega)
    · refine fun h => ⟨fun i j hi hj => h i j hi (by omega), List.pairwise_singleton _ _, fun x hx y hy => ?_⟩
      obtain ⟨i, i1, i2⟩ := qRw_mem.mp hx
      rw [List.mem_singleton] at hy
      rw [Nat.zero_add] at i2
      rw [hy, ← i2]
      exact h i n i1 (by omega)
theorem q_taI {fe ke ri dO tu rm : Int32} {fn : Nat → Int64} {st tf six ks wa op se rd g : Nat → Int32} {w : Nat → Int64} (h : qTx 0 0 fe ke ri dO tu rm fn st tf six ks wa op se rd g w) {row : Nat → Int32} {n i : Nat} {s o : Int32} {G : Int32 → Int32} (hn : n ≤ 10) (hi : i < n) (hr : ∀ i : Nat, i < n → ∃ q : Nat, row i = nI q ∧ (q : Int) < ke.toInt) : ∀ (f j : Nat), (2147483647 - (nI j).toInt).toNat < f → j ≤ i → ((∀ b : Nat, j ≤ b → b < i → qTT g s o (row i) (row b)) ∧ F_Li_tellsAllApart_L13a fe ke st tf ks row s o (nI i) G f (nI j) = G (nI (i + 1))) ∨ (¬ (∀ b : Nat, j ≤ b → b < i → qTT g s o (row i) (row b)) ∧ F_Li_tellsAllApart_L13a fe ke st tf ks row s o (nI i) G f (nI j) = 0) := by
  intro f
  induction f with
  | zero => intro j hf; exact absurd hf (Nat.not_lt_zero _)
  | succ f ih =>
    intro j hf hj
    have e := nI_toInt (show i < 2147483648 by omega)
    have e1 := nI_toInt (show j < 2147483648 by omega)
    have e2 := nI_toInt (show j + 1 < 2147483648 by omega)
    rw [F_Li_tellsAllApart_L13a_s]
    by_cases c : j = i
    · subst c
      simp only [show nI j ≤ nI j from q_le.mpr (Int.le_refl _), qnI_s, ↓reduceIte]
      exact Or.inl ⟨fun b h1 h2 => absurd h2 (by omega), trivial⟩
    · obtain ⟨a, a1, a2⟩ := hr i hi
      obtain ⟨b, b1, b2⟩ := hr j (by omega)
      simp only [show ¬ nI i ≤ nI j from q_nle.mpr (by rw [e, e1]; omega), F_Li_keyAt_s, q_at10 (g := row) (show i < 10 by omega), q_at10 (g := row) (show j < 10 by omega), a1, b1, q_alk h a2 b2, qnI_s, ↓reduceIte]
      rw [a1] at ih
      have hb1 : ∀ {P : Prop}, ¬ P → ¬ (P ∧ True) := fun h9 h8 => h9 h8.1
      by_cases d : F_r_differ g (nI a) 0 (nI b) 0 s = 0
      · simp only [d, q_n1, ↓reduceIte]
        exact Or.inr ⟨fun h9 => (h9 j (Nat.le_refl _) (by omega)).1 (by rw [b1]; exact d), trivial⟩
      · simp only [d, ↓reduceIte]
        by_cases o0 : o = 0
        · simp only [o0, ↓reduceIte]
          have hih := ih (j + 1) (by omega) (by omega)
          rw [o0] at hih
          rcases hih with ⟨h1, h2⟩ | ⟨h1, h2⟩
          · refine Or.inl ⟨fun x hx1 hx2 => ?_, h2⟩
            by_cases ex : x = j
            · subst ex; rw [b1]; exact ⟨d, fun h9 => absurd rfl h9⟩
            · exact h1 x (by omega) hx2
          · exact Or.inr ⟨fun h9 => h1 (fun x hx1 hx2 => h9 x (by omega) hx2), h2⟩
        · simp only [o0, ↓reduceIte]
          by_cases d2 : F_r_differ g (nI a) 0 (nI b) 1 s = 0
          · simp only [d2, q_n1, ↓reduceIte]
            exact Or.inr ⟨fun h9 => (h9 j (Nat.le_refl _) (by omega)).2 o0 (by rw [b1]; exact d2), trivial⟩
          · simp only [d2, ↓reduceIte]
            rcases ih (j + 1) (by omega) (by omega) with ⟨h1, h2⟩ | ⟨h1, h2⟩
            · refine Or.inl ⟨fun x hx1 hx2 => ?_, h2⟩
              by_cases ex : x = j
              · subst ex; rw [b1]; exact ⟨d, fun _ => d2⟩
              · exact h1 x (by omega) hx2
            · exact Or.inr ⟨fun h9 => h1 (fun x hx1 hx2 => h9 x (by omega) hx2), h2⟩
theorem q_taC {fe ke ri dO tu rm : Int32} {fn : Nat → Int64} {st tf six ks wa op se rd g : Nat → Int32} {w : Nat → Int64} (h : qTx 0 0 fe ke ri dO tu rm fn st tf six ks wa op se rd g w) {row : Nat → Int32} {n : Nat} {s o : Int32} (hn : n ≤ 10) (hr : ∀ i : Nat, i < n → ∃ q : Nat, row i = nI q ∧ (q : Int) < ke.toInt) : ∀ (f i : Nat), (2147483647 - (nI i).toInt).toNat < f → i ≤ n → ((∀ a b : Nat, i ≤ a → a < n → b < a → qTT g s o (row a) (row b)) ∧ F_Li_tellsAllApart_L2a (nI n) fe ke st tf ks row s o f (nI i) = 1) ∨ (¬ (∀ a b : Nat, i ≤ a → a < n → b < a → qTT g s o (row a) (row b)) ∧ F_Li_tellsAllApart_L2a (nI n) fe ke st tf ks row s o f (nI i) = 0) := by
  intro f
  induction f with
  | zero => intro i hf; exact absurd hf (Nat.not_lt_zero _)
  | succ f ih =>
    intro i hf hi
    have e := nI_toInt (show i < 2147483648 by omega)
    have e2 := nI_toInt (show i + 1 < 2147483648 by omega)
    have en := nI_toInt (show n < 2147483648 by omega)
    rw [F_Li_tellsAllApart_L2a_s]
    by_cases c : i = n
    · subst c
      simp only [show nI i ≤ nI i from q_le.mpr (Int.le_refl _), ↓reduceIte]
      exact Or.inl ⟨fun a b h1 h2 => absurd h2 (by omega), trivial⟩
    · simp only [show ¬ nI n ≤ nI i from q_nle.mpr (by rw [e, en]; omega), ↓reduceIte]
      rcases q_taI h (G := F_Li_tellsAllApart_L2a (nI n) fe ke st tf ks row s o f) (s := s) (o := o) hn (show i < n by omega) hr ((2147483647 - (0 : Int32).toInt).toNat + 1) 0 (by show (2147483647 - (0 : Int32).toInt).toNat < _; omega) (by omega) with ⟨h1, h2⟩ | ⟨h1, h2⟩
      · rw [show nI 0 = (0 : Int32) from rfl] at h2
        rw [h2]
        rcases ih (i + 1) (by omega) (by omega) with ⟨h3, h4⟩ | ⟨h3, h4⟩
        · refine Or.inl ⟨fun a b hi2 ha hb => ?_, h4⟩
          by_cases ea : a = i
          · subst ea; exact h1 b (Nat.zero_le _) hb
          · exact h3 a b (by omega) ha hb
        · exact Or.inr ⟨fun h9 => h3 (fun a b hi2 ha hb => h9 a b (by omega) ha hb), h4⟩
      · rw [show nI 0 = (0 : Int32) from rfl] at h2
        rw [h2]
        exact Or.inr ⟨fun h9 => h1 (fun b _ hb => h9 i b (Nat.le_refl _) (by omega) hb), rfl⟩
theorem q_taJ {g t : Nat → Int32} {n i : Nat} {s o : Int32} {G : Int32 → Int32} (h0 : 0 ≤ (g 0).toInt) (h3 : (g 0).toInt ≤ 3) (hn : n ≤ 10) (hi : i < n) : ∀ (f j : Nat), (2147483647 - (nI j).toInt).toNat < f → j ≤ n → ((∀ b : Nat, j ≤ b → b < n → qTT g s o (t i) (t b)) ∧ F_r_tellsAll_L15a (nI n) g t s o (nI i) G f (nI j) = G (nI (i + 1))) ∨ (¬ (∀ b : Nat, j ≤ b → b < n → qTT g s o (t i) (t b)) ∧ F_r_tellsAll_L15a (nI n) g t s o (nI i) G f (nI j) = 0) := by
  intro f
  induction f with
  | zero => intro j hf; exact absurd hf (Nat.not_lt_zero _)
  | succ f ih =>
    intro j hf hj
    have e1 := nI_toInt (show j < 2147483648 by omega)
    have e2 := nI_toInt (show j + 1 < 2147483648 by omega)
    have en := nI_toInt (show n < 2147483648 by omega)
    rw [F_r_tellsAll_L15a_s]
    simp only [qnI_s, qnI_cl (show i < 2147483648 by omega), qnI_cl (show j < 2147483648 by omega)]
    by_cases c : j = n
    · subst c
      simp only [show nI j ≤ nI j from q_le.mpr (Int.le_refl _), ↓reduceIte]
      exact Or.inl ⟨fun b h1 h2 => absurd h2 (by omega), trivial⟩
    · simp only [show ¬ nI n ≤ nI j from q_nle.mpr (by rw [e1, en]; omega), ↓reduceIte]
      by_cases d : F_r_differ g (t i) 0 (t j) 0 s = 0
      · simp only [d, ite_self, ↓reduceIte]
        exact Or.inr ⟨fun h9 => (h9 j (Nat.le_refl _) (by omega)).1 d, trivial⟩
      · simp only [d, ↓reduceIte]
        by_cases o0 : o = 0
        · simp only [o0, ↓reduceIte]
          have hih := ih (j + 1) (by omega) (by omega)
          rw [o0] at hih
          rcases hih with ⟨h1, h2⟩ | ⟨h1, h2⟩
          · refine Or.inl ⟨fun x hx1 hx2 => ?_, h2⟩
            by_cases ex : x = j
            · subst ex; exact ⟨d, fun h9 => absurd rfl h9⟩
            · exact h1 x (by omega) hx2
          · exact Or.inr ⟨fun h9 => h1 (fun x hx1 hx2 => h9 x (by omega) hx2), h2⟩
        · simp only [o0, ↓reduceIte]
          have hw := q_dfW h0 h3 (t i) (t j) s
          by_cases d2 : F_r_differ g (t i) 0 (t j) 1 s = 0
          · simp only [d2, ↓reduceIte]
            exact Or.inr ⟨fun h9 => (h9 j (Nat.le_refl _) (by omega)).2 o0 d2, trivial⟩
          · simp only [d2, show ¬ F_r_differ g (t i) 1 (t j) 0 s = 0 from fun h9 => d2 (hw.mpr h9), ↓reduceIte]
            rcases ih (j + 1) (by omega) (by omega) with ⟨h1, h2⟩ | ⟨h1, h2⟩
            · refine Or.inl ⟨fun x hx1 hx2 => ?_, h2⟩
              by_cases ex : x = j
              · subst ex; exact ⟨d, fun _ => d2⟩
              · exact h1 x (by omega) hx2
            · exact Or.inr ⟨fun h9 => h1 (fun x hx1 hx2 => h9 x (by omega) hx2), h2⟩
theorem q_taR {g t : Nat → Int32} {n : Nat} {s o : Int32} (h0 : 0 ≤ (g 0).toInt) (h3 : (g 0).toInt ≤ 3) (hn : n ≤ 10) : ∀ (f i : Nat), (2147483647 - (nI i).toInt).toNat < f → i ≤ n → ((∀ a b : Nat, i ≤ a → a < b → b < n → qTT g s o (t a) (t b)) ∧ F_r_tellsAll_L2a (nI n) g t s o f (nI i) = 1) ∨ (¬ (∀ a b : Nat, i ≤ a → a < b → b < n → qTT g s o (t a) (t b)) ∧ F_r_tellsAll_L2a (nI n) g t s o f (nI i) = 0) := by
  intro f
  induction f with
  | zero => intro i hf; exact absurd hf (Nat.not_lt_zero _)
  | succ f ih =>
    intro i hf hi
    have e := nI_toInt (show i < 2147483648 by omega)
    have e2 := nI_toInt (show i + 1 < 2147483648 by omega)
    have en := nI_toInt (show n < 2147483648 by omega)
    rw [F_r_tellsAll_L2a_s]
    simp only [qnI_s]
    by_cases c : i = n
    · subst c
      simp only [show nI i ≤ nI i from q_le.mpr (Int.le_refl _), ↓reduceIte]
      exact Or.inl ⟨fun a b h1 h2 h4 => absurd h4 (by omega), trivial⟩
    · simp only [show ¬ nI n ≤ nI i from q_nle.mpr (by rw [e, en]; omega), ↓reduceIte]
      rcases q_taJ (t := t) (G := F_r_tellsAll_L2a (nI n) g t s o f) (s := s) (o := o) h0 h3 hn (show i < n by omega) _ (i + 1) (Nat.lt_succ_self _) (by omega) with ⟨h1, h2⟩ | ⟨h1, h2⟩
      · rw [h2]
        rcases ih (i + 1) (by omega) (by omega) with ⟨h3, h4⟩ | ⟨h3, h4⟩
        · refine Or.inl ⟨fun a b hi2 ha hb => ?_, h4⟩
          by_cases ea : a = i
          · subst ea; exact h1 b (by omega) hb
          · exact h3 a b (by omega) ha hb
        · exact Or.inr ⟨fun h9 => h3 (fun a b hi2 ha hb => h9 a b (by omega) ha hb), h4⟩
      · rw [h2]
        exact Or.inr ⟨fun h9 => h1 (fun b hb1 hb => h9 i b (Nat.le_refl _) (by omega) hb), rfl⟩
theorem q_ta {fe ke ri dO tu rm : Int32} {fn : Nat → Int64} {st tf six ks wa op se rd g : Nat → Int32} {w : Nat → Int64} (h : qTx 0 0 fe ke ri dO tu rm fn st tf six ks wa op se rd g w) {row t : Nat → Int32} {L L' : List Int32} {s o : Int32} (hp : L.Perm L') (hn : L.length ≤ 10) (h1 : qRw L.length row 0 = L) (h2 : qRw L'.length t 0 = L') (hr : ∀ i : Nat, i < L.length → ∃ q : Nat, row i = nI q ∧ (q : Int) < ke.toInt) : F_Li_tellsAllApart (nI L.length) fe ke st tf ks row s o = F_r_tellsAll (nI L'.length) g t s o := by
  have hl := hp.length_eq
  have h0 : 0 ≤ (g 0).toInt := by rw [← show fe = g 0 from h.1.1]; exact h.2.1.1.1
  have h3 : (g 0).toInt ≤ 3 := by rw [← show fe = g 0 from h.1.1]; exact h.2.1.1.2
  have key : (∀ a b : Nat, 0 ≤ a → a < L.length → b < a → qTT g s o (row a) (row b)) ↔ (∀ a b : Nat, 0 ≤ a → a < b → b < L'.length → qTT g s o (t a) (t b)) := by
    have k1 := qRw_pw (R := qTT g s o) (row := row) L.length
    have k2 := qRw_pw (R := qTT g s o) (row := t) L'.length
    rw [h1] at k1
    rw [h2] at k2
    have k3 := hp.pairwise_iff (R := qTT g s o) (fun h9 => q_ttS h0 h3 h9)
    constructor
    · intro h9 a b _ hab hb
      exact k2.mp (k3.mp (k1.mpr (fun i j hi hj => q_ttS h0 h3 (h9 j i (Nat.zero_le _) hj hi)))) a b hab hb
    · intro h9 a b _ ha hb
      exact q_ttS h0 h3 (k1.mp (k3.mpr (k2.mpr (fun i j hi hj => h9 i j (Nat.zero_le _) hi hj))) b a hb ha)
  rw [F_Li_tellsAllApart_s, F_r_tellsAll_s]
  rcases q_taC h (s := s) (o := o) hn hr ((2147483647 - (0 : Int32).toInt).toNat + 1) 0 (by show (2147483647 - (0 : Int32).toInt).toNat < _; omega) (by omega) with ⟨x1, x2⟩ | ⟨x1, x2⟩ <;> rcases q_taR (t := t) (s := s) (o := o) h0 h3 (show L'.length ≤ 10 by omega) ((2147483647 - (0 : Int32).toInt).toNat + 1) 0 (by show (2147483647 - (0 : Int32).toInt).toNat < _; omega) (by omega) with ⟨y1, y2⟩ | ⟨y1, y2⟩
  · exact x2.trans y2.symm
  · exact absurd (key.mp x1) y1
  · exact absurd (key.mpr y1) x1
  · exact x2.trans y2.symm
theorem q_allA {g : Nat → Int32} (h0 : 0 ≤ (g 0).toInt) (h3 : (g 0).toInt ≤ 3) : ∃ A : Nat, A ≤ 7 ∧ F_r_all g = nI A := by
  obtain ⟨F, hF, hF2, -⟩ := q_nat (k := g 0) (m := 4) ⟨h0, by omega⟩ (by omega)
  rw [F_r_all_s]
  simp only [q_g0, hF]
  rcases (show F = 0 ∨ F = 1 ∨ F = 2 ∨ F = 3 by omega) with rfl | rfl | rfl | rfl
  · exact ⟨0, by omega, by decide +kernel⟩
  · exact ⟨1, by omega, by decide +kernel⟩
  · exact ⟨3, by omega, by decide +kernel⟩
  · exact ⟨7, by omega, by decide +kernel⟩
theorem q_bitC : ∀ b : Nat, b < 8 → F_ja_bitCount (nI b) = F_r_bits (nI b) := by decide +kernel
theorem q_apL {fe ke ri dO tu rm : Int32} {fn : Nat → Int64} {st tf six ks wa op se rd g : Nat → Int32} {w : Nat → Int64} (h : qTx 0 0 fe ke ri dO tu rm fn st tf six ks wa op se rd g w) {row t : Nat → Int32} {L L' : List Int32} {o : Int32} (hp : L.Perm L') (hn : L.length ≤ 10) (h1 : qRw L.length row 0 = L) (h2 : qRw L'.length t 0 = L') (hr : ∀ i : Nat, i < L.length → ∃ q : Nat, row i = nI q ∧ (q : Int) < ke.toInt) : ∀ (f i : Nat) (b : Int32), (2147483647 - (nI i).toInt).toNat < f → i ≤ 8 → (b = -1 ∨ ∃ q : Nat, q < 8 ∧ b = nI q) → F_Li_fewestFeatures_L4a (nI L.length) fe ke st tf ks row o f b (nI i) = (F_r_apart_L34a g o (nI L'.length) t f b (nI i)).1 := by
  intro f
  induction f with
  | zero => intro i b hf; exact absurd hf (Nat.not_lt_zero _)
  | succ f ih =>
    intro i b hf hi hb
    have h0 : 0 ≤ (g 0).toInt := by rw [← show fe = g 0 from h.1.1]; exact h.2.1.1.1
    have h3 : (g 0).toInt ≤ 3 := by rw [← show fe = g 0 from h.1.1]; exact h.2.1.1.2
    obtain ⟨A, A7, hA⟩ := q_allA h0 h3
    have e := nI_toInt (show i < 2147483648 by omega)
    have e2 := nI_toInt (show i + 1 < 2147483648 by omega)
    have eA := nI_toInt (show A < 2147483648 by omega)
    have hall : F_Li_allFeatures fe = nI A := by
      rw [← hA, F_Li_allFeatures_s, F_r_all_s, h.1.1]
      rfl
    have q1m : ((-1 : Int32)).toInt = -1 := by decide +kernel
    rw [F_Li_fewestFeatures_L4a_s, F_r_apart_L34a_s]
    simp only [hall, hA, qnI_s]
    by_cases c : nI A < nI i
    · simp only [c, ↓reduceIte]
      rcases hb with rfl | ⟨q, q1, rfl⟩
      · simp only [show ¬ (0 : Int32) ≤ -1 by decide, F_r_refuse_s, ↓reduceIte]
      · simp only [show (0 : Int32) ≤ nI q from q_le.mpr (by rw [q0, nI_toInt (by omega)]; omega), ↓reduceIte]
    · have ci : i < 8 := by
        have h9 := q_nlt.mp c
        rw [e, eA] at h9
        omega
      have hta := q_ta h (s := nI i) (o := o) hp hn h1 h2 hr
      simp only [c, hta, ↓reduceIte]
      rcases hb with rfl | ⟨q, q1, rfl⟩
      · simp only [show (-1 : Int32) < 0 by decide, ↓reduceIte]
        by_cases d : F_r_tellsAll (nI L'.length) g t (nI i) o = 0
        · simp only [d, ↓reduceIte]
          exact ih (i + 1) _ (by omega) (by omega) (Or.inl rfl)
        · simp only [d, ↓reduceIte]
          exact ih (i + 1) _ (by omega) (by omega) (Or.inr ⟨i, ci, rfl⟩)
      · have eq := nI_toInt (show q < 2147483648 by omega)
        simp only [show ¬ nI q = (-1 : Int32) from fun h9 => by have h8 := congrArg Int32.toInt h9; rw [eq, q1m] at h8; omega, show ¬ nI q < (0 : Int32) from q_nlt.mpr (by rw [q0, eq]; omega), q_bitC i ci, q_bitC q q1, ↓reduceIte]
        by_cases d2 : F_r_bits (nI q) ≤ F_r_bits (nI i)
        · simp only [d2, ↓reduceIte]
          exact ih (i + 1) _ (by omega) (by omega) (Or.inr ⟨q, q1, rfl⟩)
        · simp only [d2, ↓reduceIte]
          by_cases d : F_r_tellsAll (nI L'.length) g t (nI i) o = 0
          · simp only [d, ↓reduceIte]
            exact ih (i + 1) _ (by omega) (by omega) (Or.inr ⟨q, q1, rfl⟩)
          · simp only [d, ↓reduceIte]
            exact ih (i + 1) _ (by omega) (by omega) (Or.inr ⟨i, ci, rfl⟩)
theorem q_apartA {fe ke ri dO tu rm lent : Int32} {fn : Nat → Int64} {st tf six ks wa op se rd on om g t : Nat → Int32} {w : Nat → Int64} {m lp k1 k2 : Int32} {lr : Nat → Int32} (h : qTx 0 0 fe ke ri dO tu rm fn st tf six ks wa op se rd g w) (hR : qRn 0 ri ke lent on om g) (hC : zC g) : (F_X_apart fe ke lent ri st tf ks on om lp lr k1 k2).1 = (F_r_apart m g t k1 k2).1 := by
  have b := h.2.1
  rw [F_X_apart_s, F_r_apart_s]
  simp only [q_hasRr, q_isR (k := k1) h.1.2.2.1 b.2.2.1.1 (by omega), F_r_refuse_s]
  by_cases c : 0 ≤ k1.toInt ∧ k1.toInt < ri.toInt
  · obtain ⟨r, rfl, r1, -⟩ := q_nat c (by omega)
    obtain ⟨L, L', p1, p2, p3, p4, p5, p6⟩ := q_thA hR h.1.2.1 h.1.2.2.1 b.2.1.2 r1 (by omega) hC
    obtain ⟨row', w1, w2⟩ := p5 lr
    obtain ⟨t', w3, w4⟩ := p6 t
    have hrow : ∀ i : Nat, i < L.length → ∃ q : Nat, row' i = nI q ∧ (q : Int) < ke.toInt := fun i hi => p4 _ (by rw [← w2]; exact qRw_mem.mpr ⟨i, hi, by rw [Nat.zero_add]⟩)
    rw [F_Li_load_s]
    simp only [c, q_n1, and_self, w1, w3, ↓reduceIte]
    rw [F_Li_fewestFeatures_s]
    have hc := q_apL (g := g) (t := t') (o := k2) h p1 p2 w2 w4 hrow ((2147483647 - (0 : Int32).toInt).toNat + 1) 0 (-1) (by show (2147483647 - (0 : Int32).toInt).toNat < _; omega) (by omega) (Or.inl rfl)
    rw [show nI 0 = (0 : Int32) from rfl] at hc
    rw [hc]
    split
    · rename_i h9
      exact h9.symm
    · rfl
  · simp only [c, ↓reduceIte]
