theorem q_nrem {a b : Nat} (ha : a < 2147483648) (hb : 0 < b) (hb2 : b < 2147483648) : nI a - nI a / nI b * nI b = nI (a % b) := by
  have h1 : a % b < b := Nat.mod_lt _ hb
  have h2 := z_remq (z := nI a - nI a / nI b * nI b) rfl (nI_toInt ha) (nI_toInt hb2) (by omega) (by omega)
  exact q_eq.mpr (by rw [h2, nI_toInt (by omega)]; exact (Int.natCast_emod a b).symm)
theorem q_ndiv {a b : Nat} (ha : a < 2147483648) (hb : 0 < b) (hb2 : b < 2147483648) : nI a / nI b = nI (a / b) := by
  have h1 : a / b ≤ a := Nat.div_le_self _ _
  have h2 := z_divq (z := nI a / nI b) rfl (nI_toInt ha) (nI_toInt hb2) (by omega) (by omega)
  exact q_eq.mpr (by rw [h2, nI_toInt (by omega)]; exact (Int.natCast_ediv a b).symm)
/-- one of the row's KEYS opens it -/
theorem q_isOfA {fe ke ri dO tu rm : Int32} {fn : Nat → Int64} {st tf six ks wa op se rd g : Nat → Int32} {w : Nat → Int64} (h : qTx 0 0 fe ke ri dO tu rm fn st tf six ks wa op se rd g w) {row : Nat → Int32} {i d q : Nat} (hi : i < 10) (hq : row i = nI q) (hqk : (q : Int) < ke.toInt) (hd : (d : Int) < dO.toInt) : F_Se_isOf row (op d) (nI i) = F_r_canOpen g (row i) (nI d) := by
  obtain ⟨-, ⟨-, b2, -, b4, -⟩, -, -, h3, -⟩ := h
  obtain ⟨-, x2⟩ := h3 d hd (by omega)
  have eq := nI_toInt (show q < 2147483648 by omega)
  have e2 : ((133 : Int32) + nI d).toNatClampNeg = 133 + d := q_adn (a := 133) (by omega)
  have nq : ¬ nI q = -1 := fun h9 => by
    have h8 := congrArg Int32.toInt h9
    rw [eq, q_1] at h8
    omega
  rw [F_Se_isOf_s, F_r_canOpen_s]
  simp only [q_at10 (g := row) hi, hq, nq, e2, ↓reduceIte]
  rw [x2, show 0 + 133 + d = 133 + d by omega]
theorem q_soL2 {fe ke ri dO tu rm : Int32} {fn : Nat → Int64} {st tf six ks wa op se rd g : Nat → Int32} {w : Nat → Int64} (h : qTx 0 0 fe ke ri dO tu rm fn st tf six ks wa op se rd g w) {row : Nat → Int32} {n d : Nat} (hn : n ≤ 10) (hr : ∀ i : Nat, i < n → ∃ q : Nat, row i = nI q ∧ (q : Int) < ke.toInt) (hd : (d : Int) < dO.toInt) : ∀ (f i : Nat), (2147483647 - (nI i).toInt).toNat < f → i ≤ n → F_Se_someOpens_L11a (nI n) row (op d) f (nI i) = if (qRw (n - i) row i).any (qCo g (nI d)) = true then 1 else 0 := by
  intro f
  induction f with
  | zero => intro i hf; exact absurd hf (Nat.not_lt_zero _)
  | succ f ih =>
    intro i hf hi
    have e := nI_toInt (show i < 2147483648 by omega)
    have e2 := nI_toInt (show i + 1 < 2147483648 by omega)
    have en := nI_toInt (show n < 2147483648 by omega)
    rw [F_Se_someOpens_L11a_s]
    by_cases c : i = n
    · subst c
      simp only [show nI i ≤ nI i from q_le.mpr (Int.le_refl _), Nat.sub_self, ↓reduceIte]
      rfl
    · obtain ⟨q, q1', q2'⟩ := hr i (by omega)
      rw [show n - i = (n - (i + 1)) + 1 by omega, q_rwC, List.any_cons]
      simp only [show ¬ nI n ≤ nI i from q_nle.mpr (by rw [e, en]; omega), q_isOfA h (show i < 10 by omega) q1' q2' hd, qnI_s, ↓reduceIte]
      by_cases d9 : F_r_canOpen g (row i) (nI d) = 0
      · have hp : qCo g (nI d) (row i) = false := decide_eq_false (fun h9 => h9 d9)
        simp only [d9, hp, Bool.false_or, ↓reduceIte]
        exact ih (i + 1) (by omega) (by omega)
      · have hp : qCo g (nI d) (row i) = true := decide_eq_true d9
        simp only [d9, hp, Bool.true_or, ↓reduceIte]
theorem q_so {fe ke ri dO tu rm : Int32} {fn : Nat → Int64} {st tf six ks wa op se rd g : Nat → Int32} {w : Nat → Int64} (h : qTx 0 0 fe ke ri dO tu rm fn st tf six ks wa op se rd g w) {row : Nat → Int32} {n d : Nat} (hn : n ≤ 10) (hr : ∀ i : Nat, i < n → ∃ q : Nat, row i = nI q ∧ (q : Int) < ke.toInt) (hd : (d : Int) < dO.toInt) : F_Se_someOpens (nI n) dO op row (nI d) = if (qRw n row 0).any (qCo g (nI d)) = true then 1 else 0 := by
  have b4 := h.2.1.2.2.2.1
  have ed := nI_toInt (show d < 2147483648 by omega)
  rw [F_Se_someOpens_s]
  simp only [F_H_openersOf_s, q_hasDd, ed, hd, show (0 : Int) ≤ (d : Int) by omega, and_self, q_n1, q_at5 (g := op) (show d < 5 by omega), ↓reduceIte]
  exact q_soL2 h hn hr hd ((2147483647 - (0 : Int32).toInt).toNat + 1) 0 (by show (2147483647 - (0 : Int32).toInt).toNat < _; omega) (by omega)
/-- how often DOORS of a kind are WANTED together -/
def qWs (P : Nat → Bool) (W : Nat → Nat) : Nat → Nat
  | 0 => 0
  | j + 1 => qWs P W j + if P j = true then W j else 0
theorem q_wsLe {P : Nat → Bool} {W : Nat → Nat} (hW : ∀ j, W j ≤ 99) : ∀ n : Nat, qWs P W n ≤ 99 * n := by
  intro n
  induction n with
  | zero => exact Nat.le_refl _
  | succ n ih =>
    show qWs P W n + (if P n = true then W n else 0) ≤ _
    have := hW n
    split <;> omega
def qWt (g : Nat → Int32) (j : Nat) : Nat := if j < 5 then (g (128 + j)).toInt.toNat else 0
theorem q_wt {g : Nat → Int32} (hC : zCt g) (j : Nat) : qWt g j ≤ 99 := by
  unfold qWt
  split
  · rename_i hj
    have h1 := hC (128 + j) (by omega)
    have h2 := zck_at (a := 128) (b := 132) (lo := 0) (hi := 99) (by decide +kernel) (j := 128 + j) (by omega) (by omega)
    omega
  · omega
theorem q_wtE {g : Nat → Int32} (hC : zCt g) {j : Nat} (hj : j < 5) : g (128 + j) = nI (qWt g j) := by
  have h1 := hC (128 + j) (by omega)
  have h2 := zck_at (a := 128) (b := 132) (lo := 0) (hi := 99) (by decide +kernel) (j := 128 + j) (by omega) (by omega)
  unfold qWt
  rw [if_pos hj]
  exact q_toN (m := 0) (by omega)
theorem q_wtgL {fe ke ri dO tu rm : Int32} {fn : Nat → Int64} {st tf six ks wa op se rd g : Nat → Int32} {w : Nat → Int64} (h : qTx 0 0 fe ke ri dO tu rm fn st tf six ks wa op se rd g w) (hC : zC g) {row : Nat → Int32} {n D : Nat} (hn : n ≤ 10) (hr : ∀ i : Nat, i < n → ∃ q : Nat, row i = nI q ∧ (q : Int) < ke.toInt) (hD : dO = nI D) (hD5 : D ≤ 5) : ∀ (f i : Nat), (2147483647 - (nI i).toInt).toNat < f → i ≤ D → F_Se_wantedTogether_L4a (nI n) dO wa op row f (nI (qWs (fun j => (qRw n row 0).any (qCo g (nI j))) (qWt g) i)) (nI i) = nI (qWs (fun j => (qRw n row 0).any (qCo g (nI j))) (qWt g) D) := by
  intro f
  induction f with
  | zero => intro i hf; exact absurd hf (Nat.not_lt_zero _)
  | succ f ih =>
    intro i hf hi
    have e := nI_toInt (show i < 2147483648 by omega)
    have e2 := nI_toInt (show i + 1 < 2147483648 by omega)
    have eD := nI_toInt (show D < 2147483648 by omega)
    rw [F_Se_wantedTogether_L4a_s]
    by_cases c : i = D
    · subst c
      simp only [show dO ≤ nI i from q_le.mpr (by rw [hD]; exact Int.le_refl _), ↓reduceIte]
    · have hiD : (i : Int) < dO.toInt := by rw [hD, eD]; omega
      obtain ⟨x1, -⟩ := h.2.2.2.2.1 i hiD (by omega)
      have hwt : F_H_wantedOf dO wa (nI i) = nI (qWt g i) := by
        rw [F_H_wantedOf_s]
        simp only [q_hasDd, e, hiD, show (0 : Int) ≤ (i : Int) by omega, and_self, q_n1, q_at5 (g := wa) (show i < 5 by omega), ↓reduceIte]
        rw [x1, show 0 + 128 + i = 128 + i by omega]
        exact q_wtE hC.1 (by omega)
      have hih := ih (i + 1) (by omega) (by omega)
      have hs : qWs (fun j => (qRw n row 0).any (qCo g (nI j))) (qWt g) (i + 1) = qWs (fun j => (qRw n row 0).any (qCo g (nI j))) (qWt g) i + if (qRw n row 0).any (qCo g (nI i)) = true then qWt g i else 0 := rfl
      rw [hs] at hih
      simp only [show ¬ dO ≤ nI i from q_nle.mpr (by rw [e]; exact hiD), q_so (g := g) h hn hr hiD, hwt, qnI_s, ↓reduceIte]
      by_cases d9 : (qRw n row 0).any (qCo g (nI i)) = true
      · rw [if_pos d9] at hih
        simp only [d9, q_n1, nI_add, ↓reduceIte]
        exact hih
      · rw [if_neg d9, Nat.add_zero] at hih
        simp only [d9, ↓reduceIte]
        exact hih
/-- the KEYS are searched in a ring: each place is come to -/
theorem q_seL {g t : Nat → Int32} {d w : Int32} {n : Nat} {pos : Nat → Nat} (hC : zCt g) (hn : n ≤ 10) (hn0 : 0 < n) (hp : ∀ k, pos k < n) (hs0 : w = 0 → ∀ k, k < n → (pos k + 1) % n = pos (k + 1)) (hs1 : ¬ w = 0 → ∀ k, k < n → (pos k + n - 1) % n = pos (k + 1)) : ∀ (f k s : Nat), (2147483647 - (nI k).toInt).toNat < f → k ≤ n → s ≤ 198 * k → ((∃ j : Nat, k ≤ j ∧ j < n ∧ ¬ F_r_canOpen g (t (pos j)) d = 0) ∧ ∃ S : Nat, S ≤ 1980 ∧ F_r_search_L9a (nI n) g t d w f (nI (pos k)) (nI s) (nI k) = nI S) ∨ ((¬ ∃ j : Nat, k ≤ j ∧ j < n ∧ ¬ F_r_canOpen g (t (pos j)) d = 0) ∧ F_r_search_L9a (nI n) g t d w f (nI (pos k)) (nI s) (nI k) = -1) := by
  intro f
  induction f with
  | zero => intro k s hf; exact absurd hf (Nat.not_lt_zero _)
  | succ f ih =>
    intro k s hf hk hs
    have h6 := hC 6 (by omega)
    have h7 := hC 7 (by omega)
    have t6 := zck_at (a := 5) (b := 8) (lo := 0) (hi := 99) (by decide +kernel) (j := 6) (by omega) (by omega)
    have t7 := zck_at (a := 5) (b := 8) (lo := 0) (hi := 99) (by decide +kernel) (j := 7) (by omega) (by omega)
    obtain ⟨T, hT, hT9, -⟩ := q_nat (k := g 6) (m := 100) ⟨by omega, by omega⟩ (by omega)
    obtain ⟨Go, hGo, hGo9, -⟩ := q_nat (k := g 7) (m := 100) ⟨by omega, by omega⟩ (by omega)
    have e := nI_toInt (show k < 2147483648 by omega)
    have e2 := nI_toInt (show k + 1 < 2147483648 by omega)
    have en := nI_toInt (show n < 2147483648 by omega)
    have hpk := hp k
    have z0 : ∀ x : Nat, nI x + 0 = nI x := fun x => by rw [show (0 : Int32) = nI 0 from rfl, nI_add, Nat.add_zero]
    rw [F_r_search_L9a_s]
    by_cases c : k = n
    · subst c
      simp only [show nI k ≤ nI k from q_le.mpr (Int.le_refl _), ↓reduceIte]
      exact Or.inr ⟨fun ⟨j, j1, j2, _⟩ => absurd j1 (by omega), trivial⟩
    · have y6 : g (6 : Int32).toNatClampNeg = nI T := hT
      have y7 : g (7 : Int32).toNatClampNeg = nI Go := hGo
      have hstep : ∀ s' : Nat, s' ≤ 198 * (k + 1) → F_r_canOpen g (t (pos k)) d = 0 → ((∃ j : Nat, k ≤ j ∧ j < n ∧ ¬ F_r_canOpen g (t (pos j)) d = 0) ∧ ∃ S : Nat, S ≤ 1980 ∧ F_r_search_L9a (nI n) g t d w f (nI (pos (k + 1))) (nI s') (nI (k + 1)) = nI S) ∨ ((¬ ∃ j : Nat, k ≤ j ∧ j < n ∧ ¬ F_r_canOpen g (t (pos j)) d = 0) ∧ F_r_search_L9a (nI n) g t d w f (nI (pos (k + 1))) (nI s') (nI (k + 1)) = -1) := fun s' hs' hc9 => by
        have hx : (∃ j : Nat, k ≤ j ∧ j < n ∧ ¬ F_r_canOpen g (t (pos j)) d = 0) ↔ (∃ j : Nat, k + 1 ≤ j ∧ j < n ∧ ¬ F_r_canOpen g (t (pos j)) d = 0) := by
          constructor
          · rintro ⟨j, j1, j2, j3⟩
            by_cases ej : j = k
            · subst ej; exact absurd hc9 j3
            · exact ⟨j, by omega, j2, j3⟩
          · rintro ⟨j, j1, j2, j3⟩
            exact ⟨j, by omega, j2, j3⟩
        rw [hx]
        exact ih (k + 1) s' (by omega) (by omega) hs'
      have r0 : w = 0 → nI (pos k + 1) - nI (pos k + 1) / nI n * nI n = nI (pos (k + 1)) := fun hw => by
        rw [q_nrem (by omega) hn0 (by omega), hs0 hw k (by omega)]
      have r1 : ¬ w = 0 → nI (pos k + n - 1) - nI (pos k + n - 1) / nI n * nI n = nI (pos (k + 1)) := fun hw => by
        rw [q_nrem (by omega) hn0 (by omega), hs1 hw k (by omega)]
      have sb : nI (pos k + n) - 1 = nI (pos k + n - 1) := q_nsub (b := 1) (by omega) (by omega)
      simp only [show ¬ nI n ≤ nI k from q_nle.mpr (by rw [e, en]; omega), y6, y7, z0, qnI_s, nI_add, sb, qnI_cl (show pos k < 2147483648 by omega), ↓reduceIte]
      by_cases d9 : F_r_canOpen g (t (pos k)) d = 0
      · by_cases w0 : w = 0
        · have r0' := r0 w0
          subst w0
          by_cases k0 : nI k = 0
          · simp only [k0, d9, r0', eq_self, ↓reduceIte]
            exact hstep _ (by omega) d9
          · simp only [k0, d9, r0', eq_self, ↓reduceIte]
            exact hstep _ (by omega) d9
        · have r1' := r1 w0
          by_cases k0 : nI k = 0
          · simp only [k0, d9, w0, r1', ↓reduceIte]
            exact hstep _ (by omega) d9
          · simp only [k0, d9, w0, r1', ↓reduceIte]
            exact hstep _ (by omega) d9
      · by_cases k0 : nI k = 0
        · simp only [k0, d9, ↓reduceIte]
          exact Or.inl ⟨⟨k, Nat.le_refl _, by omega, d9⟩, _, by omega, rfl⟩
        · simp only [k0, d9, ↓reduceIte]
          exact Or.inl ⟨⟨k, Nat.le_refl _, by omega, d9⟩, _, by omega, rfl⟩
theorem q_se {g t : Nat → Int32} {d w : Int32} {n a : Nat} (hC : zCt g) (hn : n ≤ 10) (ha : a < n) : ((qRw n t 0).any (qCo g d) = true ∧ ∃ S : Nat, S ≤ 1980 ∧ F_r_search (nI n) g t d (nI a) w = nI S) ∨ ((qRw n t 0).any (qCo g d) = false ∧ F_r_search (nI n) g t d (nI a) w = -1) := by
  have hn0 : 0 < n := by omega
  have key : ∀ pos : Nat → Nat, (∀ k, pos k < n) → pos 0 = a → (∀ x, x < n → ∃ k, k < n ∧ pos k = x) → (w = 0 → ∀ k, k < n → (pos k + 1) % n = pos (k + 1)) → (¬ w = 0 → ∀ k, k < n → (pos k + n - 1) % n = pos (k + 1)) → ((qRw n t 0).any (qCo g d) = true ∧ ∃ S : Nat, S ≤ 1980 ∧ F_r_search (nI n) g t d (nI a) w = nI S) ∨ ((qRw n t 0).any (qCo g d) = false ∧ F_r_search (nI n) g t d (nI a) w = -1) := fun pos hp hp0 hps hs0 hs1 => by
    have hx : (qRw n t 0).any (qCo g d) = true ↔ ∃ j : Nat, 0 ≤ j ∧ j < n ∧ ¬ F_r_canOpen g (t (pos j)) d = 0 := by
      rw [List.any_eq_true]
      constructor
      · rintro ⟨x, x1, x2⟩
        obtain ⟨i, i1, i2⟩ := qRw_mem.mp x1
        rw [Nat.zero_add] at i2
        obtain ⟨k, k1, k2⟩ := hps i i1
        exact ⟨k, Nat.zero_le _, k1, by rw [k2, i2]; exact of_decide_eq_true x2⟩
      · rintro ⟨j, -, j2, j3⟩
        exact ⟨t (pos j), qRw_mem.mpr ⟨pos j, hp j, by rw [Nat.zero_add]⟩, decide_eq_true j3⟩
    have h9 := q_seL (t := t) (d := d) hC hn hn0 hp hs0 hs1 ((2147483647 - (0 : Int32).toInt).toNat + 1) 0 0 (by show (2147483647 - (0 : Int32).toInt).toNat < _; omega) (by omega) (by omega)
    rw [hp0] at h9
    rw [F_r_search_s]
    rcases h9 with ⟨a1, a2⟩ | ⟨a1, a2⟩
    · exact Or.inl ⟨hx.mpr a1, a2⟩
    · refine Or.inr ⟨?_, a2⟩
      cases hb : (qRw n t 0).any (qCo g d)
      · rfl
      · exact absurd (hx.mp hb) a1
  by_cases w0 : w = 0
  · refine key (fun k => (a + k) % n) (fun k => Nat.mod_lt _ hn0) (by show (a + 0) % n = a; rw [Nat.add_zero, Nat.mod_eq_of_lt ha]) (fun x hx => ?_) (fun _ k _ => ?_) (fun h9 => absurd w0 h9)
    · by_cases c : a ≤ x
      · exact ⟨x - a, by omega, by show (a + (x - a)) % n = x; rw [show a + (x - a) = x by omega, Nat.mod_eq_of_lt hx]⟩
      · exact ⟨x + n - a, by omega, by show (a + (x + n - a)) % n = x; rw [show a + (x + n - a) = x + n by omega, Nat.add_mod_right, Nat.mod_eq_of_lt hx]⟩
    · show ((a + k) % n + 1) % n = (a + (k + 1)) % n
      rw [Nat.mod_add_mod, Nat.add_assoc]
  · refine key (fun k => (a + (n - k % n)) % n) (fun k => Nat.mod_lt _ hn0) (by show (a + (n - 0 % n)) % n = a; rw [Nat.zero_mod, Nat.sub_zero, Nat.add_mod_right, Nat.mod_eq_of_lt ha]) (fun x hx => ?_) (fun h9 => absurd h9 w0) (fun _ k hk => ?_)
    · by_cases c : x ≤ a
      · refine ⟨a - x, by omega, ?_⟩
        show (a + (n - (a - x) % n)) % n = x
        rw [Nat.mod_eq_of_lt (show a - x < n by omega), show a + (n - (a - x)) = x + n by omega, Nat.add_mod_right, Nat.mod_eq_of_lt hx]
      · refine ⟨a + n - x, by omega, ?_⟩
        show (a + (n - (a + n - x) % n)) % n = x
        rw [Nat.mod_eq_of_lt (show a + n - x < n by omega), show a + (n - (a + n - x)) = x by omega, Nat.mod_eq_of_lt hx]
    · show ((a + (n - k % n)) % n + n - 1) % n = (a + (n - (k + 1) % n)) % n
      rw [Nat.mod_eq_of_lt hk, show (a + (n - k)) % n + n - 1 = (a + (n - k)) % n + (n - 1) by omega, Nat.mod_add_mod]
      by_cases c : k + 1 = n
      · rw [c, Nat.mod_self, show a + (n - k) + (n - 1) = a + n by omega, Nat.sub_zero]
      · rw [Nat.mod_eq_of_lt (show k + 1 < n by omega), show a + (n - k) + (n - 1) = a + (n - (k + 1)) + n by omega, Nat.add_mod_right]
theorem q_mfL {g t : Nat → Int32} {w : Int32} {n a D : Nat} (hC : zCt g) (hn : n ≤ 10) (ha : a < n) (hD : g 3 = nI D) (hD5 : D ≤ 5) : ∀ (f i : Nat) (x y : Int64), (2147483647 - (nI i).toInt).toNat < f → i ≤ D → y.toInt = ((qWs (fun j => (qRw n t 0).any (qCo g (nI j))) (qWt g) i : Nat) : Int) → (F_r_meanFrom_L12a (nI n) g t (nI a) w f (nI i) x y).2.toInt = ((qWs (fun j => (qRw n t 0).any (qCo g (nI j))) (qWt g) D : Nat) : Int) := by
  intro f
  induction f with
  | zero => intro i x y hf; exact absurd hf (Nat.not_lt_zero _)
  | succ f ih =>
    intro i x y hf hi hy
    have e := nI_toInt (show i < 2147483648 by omega)
    have e2 := nI_toInt (show i + 1 < 2147483648 by omega)
    have eD := nI_toInt (show D < 2147483648 by omega)
    have en := nI_toInt (show n < 2147483648 by omega)
    have y3 : g (3 : Int32).toNatClampNeg = nI D := hD
    have hs : qWs (fun j => (qRw n t 0).any (qCo g (nI j))) (qWt g) (i + 1) = qWs (fun j => (qRw n t 0).any (qCo g (nI j))) (qWt g) i + if (qRw n t 0).any (qCo g (nI i)) = true then qWt g i else 0 := rfl
    have hw1 := q_wsLe (P := fun j => (qRw n t 0).any (qCo g (nI j))) (q_wt hC) i
    have hw2 := q_wt hC i
    rw [F_r_meanFrom_L12a_s]
    simp only [y3, qnI_s]
    by_cases c : i = D
    · subst c
      simp only [show nI i ≤ nI i from q_le.mpr (Int.le_refl _), ↓reduceIte]
      exact hy
    · have e1 : ((128 : Int32) + nI i).toNatClampNeg = 128 + i := q_adn (a := 128) (by omega)
      simp only [show ¬ nI D ≤ nI i from q_nle.mpr (by rw [e, eD]; omega), show ¬ nI n ≤ 0 from q_nle.mpr (by rw [en, q0]; omega), e1, q_wtE hC (show i < 5 by omega), ↓reduceIte]
      rcases q_se (t := t) (d := nI i) (w := w) hC hn ha with ⟨a1, S, s1, a2⟩ | ⟨a1, a2⟩
      · have eS := nI_toInt (show S < 2147483648 by omega)
        simp only [a2, show (0 : Int32) ≤ nI S from q_le.mpr (by rw [q0, eS]; omega), ↓reduceIte]
        refine ih (i + 1) _ _ (by omega) (by omega) ?_
        rw [hs, if_pos a1]
        exact q_a64 hy (q_n64 (by omega)) (by omega)
      · simp only [a2, show ¬ (0 : Int32) ≤ -1 by decide, ↓reduceIte]
        refine ih (i + 1) _ _ (by omega) (by omega) ?_
        rw [hs, if_neg (by rw [a1]; decide), Nat.add_zero]
        exact hy
theorem q_mf {g t : Nat → Int32} {w : Int32} {n a D : Nat} (hC : zCt g) (hn : n ≤ 10) (ha : a < n) (hD : g 3 = nI D) (hD5 : D ≤ 5) : (F_r_meanFrom (nI n) g t (nI a) w).2.toInt = ((qWs (fun j => (qRw n t 0).any (qCo g (nI j))) (qWt g) D : Nat) : Int) := by
  rw [F_r_meanFrom_s]
  exact q_mfL hC hn ha hD hD5 ((2147483647 - (0 : Int32).toInt).toNat + 1) 0 0 0 (by show (2147483647 - (0 : Int32).toInt).toNat < _; omega) (by omega) (show (0 : Int64).toInt = ((0 : Nat) : Int) by decide +kernel)
theorem q_maL {g t : Nat → Int32} {n D : Nat} (hC : zCt g) (hn : n ≤ 10) (hD : g 3 = nI D) (hD5 : D ≤ 5) : ∀ (f i : Nat) (x y u v : Int64), (2147483647 - (nI i).toInt).toNat < f → i ≤ 2 * n → (i = 2 * n → y.toInt = ((qWs (fun j => (qRw n t 0).any (qCo g (nI j))) (qWt g) D : Nat) : Int)) → (F_r_meanAnywhere_L7a (nI n) g t f x y (nI i) u v).2.toInt = ((qWs (fun j => (qRw n t 0).any (qCo g (nI j))) (qWt g) D * 16 * n : Nat) : Int) := by
  intro f
  induction f with
  | zero => intro i x y u v hf; exact absurd hf (Nat.not_lt_zero _)
  | succ f ih =>
    intro i x y u v hf hi hy
    have e := nI_toInt (show i < 2147483648 by omega)
    have e2 := nI_toInt (show i + 1 < 2147483648 by omega)
    have en := nI_toInt (show 2 * n < 2147483648 by omega)
    have hw1 := q_wsLe (P := fun j => (qRw n t 0).any (qCo g (nI j))) (q_wt hC) D
    have x1 : (2 : Int32) * nI n = nI (2 * n) := qnI_mul 2 n
    have m1 : qWs (fun j => (qRw n t 0).any (qCo g (nI j))) (qWt g) D * 16 * n ≤ (99 * 5 * 16) * 10 := Nat.mul_le_mul (by omega) hn
    rw [F_r_meanAnywhere_L7a_s]
    simp only [x1, qnI_s]
    by_cases c : i = 2 * n
    · subst c
      simp only [show nI (2 * n) ≤ nI (2 * n) from q_le.mpr (Int.le_refl _), ↓reduceIte]
      exact q_m64 (q_m64 (hy rfl) (b := 16) (by decide +kernel) (by omega)) (q_n64 (by omega)) (by omega)
    · have d2 : nI i / (2 : Int32) = nI (i / 2) := q_ndiv (b := 2) (by omega) (by omega) (by omega)
      simp only [show ¬ nI (2 * n) ≤ nI i from q_nle.mpr (by rw [e, en]; omega), d2, ↓reduceIte]
      have hm := fun w => q_mf (t := t) (w := w) hC hn (show i / 2 < n by omega) hD hD5
      split
      · exact ih (i + 1) _ _ _ _ (by omega) (by omega) (fun _ => hm _)
      · exact ih (i + 1) _ _ _ _ (by omega) (by omega) (fun _ => hm _)
theorem q_ma0 {g t : Nat → Int32} {u v : Int64} : (F_r_meanAnywhere (nI 0) u v g t).2 = 0 := by
  rw [F_r_meanAnywhere_s, F_r_meanAnywhere_L7a_s]
  simp only [show (2 : Int32) * nI 0 ≤ 0 by decide +kernel, ↓reduceIte]
  decide +kernel
theorem q_anyP {L L' : List Int32} (h : L.Perm L') (p : Int32 → Bool) : L.any p = L'.any p := by
  rw [Bool.eq_iff_iff, List.any_eq_true, List.any_eq_true]
  exact ⟨fun ⟨x, a, b⟩ => ⟨x, h.mem_iff.mp a, b⟩, fun ⟨x, a, b⟩ => ⟨x, h.mem_iff.mpr a, b⟩⟩
