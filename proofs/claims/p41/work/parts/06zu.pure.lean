theorem q_nsub {a b : Nat} (h : b ≤ a) (ha : a < 2147483648) : nI a - nI b = nI (a - b) := by
  have e1 := nI_toInt ha
  have e2 := nI_toInt (show b < 2147483648 by omega)
  have e3 := nI_toInt (show a - b < 2147483648 by omega)
  exact q_eq.mpr (by rw [q_sub (by omega) (by omega), e1, e2, e3]; omega)
theorem q_m64 {x y : Int64} {a b : Nat} (hx : x.toInt = (a : Int)) (hy : y.toInt = (b : Int)) (h : a * b ≤ 1000000000) : (x * y).toInt = ((a * b : Nat) : Int) := by
  have e : (a : Int) * (b : Int) = ((a * b : Nat) : Int) := (Int.natCast_mul a b).symm
  rw [← e]
  exact z_mulql rfl hx hy (by rw [e]; omega) (by rw [e]; omega)
theorem q_a64 {x y : Int64} {a b : Nat} (hx : x.toInt = (a : Int)) (hy : y.toInt = (b : Int)) (h : a + b ≤ 1000000000) : (x + y).toInt = ((a + b : Nat) : Int) := by
  have e : (a : Int) + (b : Int) = ((a + b : Nat) : Int) := (Int.natCast_add a b).symm
  rw [← e]
  exact z_addql rfl hx hy (by omega) (by omega)
theorem q_n64 {a : Nat} (h : a < 2147483648) : (nI a).toInt64.toInt = (a : Int) := by rw [Int32.toInt_toInt64, nI_toInt h]
/-- a KEY opens a DOOR on both sides -/
theorem q_coA {fe ke ri dO tu rm : Int32} {fn : Nat → Int64} {st tf six ks wa op se rd g : Nat → Int32} {w : Nat → Int64} (h : qTx 0 0 fe ke ri dO tu rm fn st tf six ks wa op se rd g w) {a d : Nat} (ha : (a : Int) < ke.toInt) (hd : (d : Int) < dO.toInt) : F_H_unlocks ke dO op (nI a) (nI d) = F_r_canOpen g (nI a) (nI d) := by
  obtain ⟨-, ⟨-, b2, -, b4, -⟩, -, -, h3, -⟩ := h
  obtain ⟨-, x2⟩ := h3 d hd (by omega)
  have ea := nI_toInt (show a < 2147483648 by omega)
  have ed := nI_toInt (show d < 2147483648 by omega)
  have e2 : ((133 : Int32) + nI d).toNatClampNeg = 133 + d := q_adn (a := 133) (by omega)
  rw [F_H_unlocks_s, F_r_canOpen_s]
  simp only [q_hasDd, q_hasKk, ea, ed, ha, hd, show (0 : Int) ≤ (a : Int) by omega, show (0 : Int) ≤ (d : Int) by omega, and_self, q_n1, e2, q_at5 (g := op) (show d < 5 by omega), ↓reduceIte]
  rw [x2, show 0 + 133 + d = 133 + d by omega]
theorem q_thB {rings keys lent : Int32} {on om g : Nat → Int32} {r : Nat} (h : qRn 0 rings keys lent on om g) (eK : keys = g 1) (eR : rings = g 2) (h10 : keys.toInt ≤ 10) (hr : (r : Int) < rings.toInt) (h3 : r < 3) (hC : zC g) : ∃ v : Nat, v ≤ 10 ∧ om r = nI v ∧ g (95 + r) = nI v ∧ (qRw v on (10 * r)).Perm (qRw v g (98 + 10 * r)) ∧ (qCt9 keys lent v on (10 * r)).Perm (qRt9 v g (98 + 10 * r)) ∧ (qRw v on (10 * r)).Nodup ∧ (∀ k, k ∈ qRw v on (10 * r) → ∃ q : Nat, k = nI q ∧ (q : Int) < keys.toInt) := by
  obtain ⟨v, a1, a2, a3, a4⟩ := h.1 r hr h3
  rw [show 0 + 95 + r = 95 + r by omega] at a3
  rw [show 0 + 98 + 10 * r = 98 + 10 * r by omega] at a4
  have hk : ∀ k, k ∈ qRw v g (98 + 10 * r) → 0 ≤ k.toInt ∧ k.toInt < keys.toInt := fun k hk => by
    obtain ⟨i, i1, i2⟩ := qRw_mem.mp hk
    exact qK_in hC eK eR hr h3 a3 a1 i1 i2
  refine ⟨v, a1, a2, a3, a4, ?_, a4.nodup_iff.mpr (qK_nd hC eR hr h3 a3 a1), fun k hk9 => ?_⟩
  · refine (a4.filter _).trans ?_
    show List.Perm ((qRw v g (98 + 10 * r)).filter _) ((qRw v g (98 + 10 * r)).filter _)
    rw [List.filter_congr (q := fun k => decide (¬ g ((150 : Int32) + k).toNatClampNeg = 1)) (fun k hk9 => ?_)]
    exact decide_eq_decide.mpr (q_lentA (on := on) (om := om) h (hk k hk9).1 (hk k hk9).2 h10)
  · obtain ⟨b1, b2⟩ := hk k (a4.mem_iff.mp hk9)
    obtain ⟨q, q1, q2, -⟩ := q_nat ⟨b1, b2⟩ (by omega)
    exact ⟨q, q1, q2⟩
/-- on which RING a KEY is -/
theorem q_ringC {rings keys lent : Int32} {on om g : Nat → Int32} {k : Int32} (h : qRn 0 rings keys lent on om g) (h0 : 0 ≤ rings.toInt) (h3 : rings.toInt ≤ 3) : F_H_ringOf rings on om k = -1 ∨ ∃ r v : Nat, (r : Int) < rings.toInt ∧ F_H_ringOf rings on om k = nI r ∧ om r = nI v ∧ v ≤ 10 ∧ k ∈ qRw v on (10 * r) := by
  have hR : rings = nI rings.toInt.toNat := q_toN (m := 0) h0
  rcases q_ringO (on := on) (om := om) (k := k) hR (by omega) (fun r hr => by
    obtain ⟨v, a1, a2, -⟩ := h.1 r (by omega) (by omega)
    exact ⟨v, a1, a2⟩) with ⟨q, q1, q2, q3, -⟩ | ⟨q1, -⟩
  · obtain ⟨v, a1, a2, -⟩ := h.1 q (by omega) (by omega)
    have ev := nI_toInt (show v < 2147483648 by omega)
    refine Or.inr ⟨q, v, by omega, q2, a2, a1, ?_⟩
    have q3' : k ∈ qRw (om q).toInt.toNat on (10 * q) := q3
    rw [a2, ev] at q3'
    exact q3'
  · exact Or.inl q1
theorem q_ooL {keys lent rings doors : Int32} {on om op : Nat → Int32} {x y : Int32} {r v : Nat} (h : (r : Int) < rings.toInt) (h3 : r < 3) (hv : om r = nI v) (hv9 : v ≤ 10) : ∀ (f i : Nat), (2147483647 - (nI i).toInt).toNat < f → i ≤ v → ((∀ j : Nat, i ≤ j → j < v → ¬ on (10 * r + j) = x → F_H_isLent keys lent (on (10 * r + j)) = 0 → F_H_unlocks keys doors op (on (10 * r + j)) y = 0) ∧ F_H_isOnlyOpener_L33a keys lent rings doors on om op x y (nI r) f (nI i) = 1) ∨ (¬ (∀ j : Nat, i ≤ j → j < v → ¬ on (10 * r + j) = x → F_H_isLent keys lent (on (10 * r + j)) = 0 → F_H_unlocks keys doors op (on (10 * r + j)) y = 0) ∧ F_H_isOnlyOpener_L33a keys lent rings doors on om op x y (nI r) f (nI i) = 0) := by
  intro f
  induction f with
  | zero => intro i hf; exact absurd hf (Nat.not_lt_zero _)
  | succ f ih =>
    intro i hf hi
    have e := nI_toInt (show i < 2147483648 by omega)
    have e2 := nI_toInt (show i + 1 < 2147483648 by omega)
    have ev := nI_toInt (show v < 2147483648 by omega)
    rw [F_H_isOnlyOpener_L33a_s]
    simp only [q_manyO h h3, hv]
    by_cases c : i = v
    · subst c
      simp only [show nI i ≤ nI i from q_le.mpr (Int.le_refl _), ↓reduceIte]
      exact Or.inl ⟨fun j h1 h2 => absurd h2 (by omega), trivial⟩
    · simp only [show ¬ nI v ≤ nI i from q_nle.mpr (by rw [e, ev]; omega), q_keyO (on := on) h h3 hv hv9 (show i < v by omega), qnI_s, ↓reduceIte]
      have go : (on (10 * r + i) = x ∨ ¬ F_H_isLent keys lent (on (10 * r + i)) = 0 ∨ F_H_unlocks keys doors op (on (10 * r + i)) y = 0) → ((∀ j : Nat, i ≤ j → j < v → ¬ on (10 * r + j) = x → F_H_isLent keys lent (on (10 * r + j)) = 0 → F_H_unlocks keys doors op (on (10 * r + j)) y = 0) ↔ (∀ j : Nat, i + 1 ≤ j → j < v → ¬ on (10 * r + j) = x → F_H_isLent keys lent (on (10 * r + j)) = 0 → F_H_unlocks keys doors op (on (10 * r + j)) y = 0)) := fun hg => by
        refine ⟨fun h9 j h1 => h9 j (by omega), fun h9 j h1 h2 h4 h5 => ?_⟩
        by_cases ej : j = i
        · subst ej
          rcases hg with hg | hg | hg
          · exact absurd hg h4
          · exact absurd h5 hg
          · exact hg
        · exact h9 j (by omega) h2 h4 h5
      have hih := ih (i + 1) (by omega) (by omega)
      by_cases d1 : on (10 * r + i) = x
      · simp only [d1, ↓reduceIte]
        rw [go (Or.inl d1)]
        exact hih
      · by_cases d2 : F_H_isLent keys lent (on (10 * r + i)) = 0
        · by_cases d3 : F_H_unlocks keys doors op (on (10 * r + i)) y = 0
          · simp only [d1, d2, d3, ↓reduceIte]
            rw [go (Or.inr (Or.inr d3))]
            exact hih
          · simp only [d1, d2, d3, ↓reduceIte]
            exact Or.inr ⟨fun h9 => d3 (h9 i (Nat.le_refl _) (by omega) d1 d2), trivial⟩
        · simp only [d1, d2, ↓reduceIte]
          rw [go (Or.inr (Or.inl d2))]
          exact hih
noncomputable def qCo (g : Nat → Int32) (d x : Int32) : Bool := decide (¬ F_r_canOpen g x d = 0)
theorem q_ioL {g t : Nat → Int32} {d : Int32} {n : Nat} (hn : n ≤ 10) : ∀ (f c i : Nat), (2147483647 - (nI i).toInt).toNat < f → i ≤ n → c ≤ i → F_r_isOnly_L47a g d (nI n) t f (nI c) (nI i) = (if c + (qRw (n - i) t i).countP (qCo g d) = 1 then 1 else 0, nI n, t) := by
  intro f
  induction f with
  | zero => intro c i hf; exact absurd hf (Nat.not_lt_zero _)
  | succ f ih =>
    intro c i hf hi hc
    have e := nI_toInt (show i < 2147483648 by omega)
    have e2 := nI_toInt (show i + 1 < 2147483648 by omega)
    have en := nI_toInt (show n < 2147483648 by omega)
    have ec := nI_toInt (show c < 2147483648 by omega)
    rw [F_r_isOnly_L47a_s]
    simp only [qnI_s, qnI_cl (show i < 2147483648 by omega)]
    by_cases c9 : i = n
    · subst c9
      simp only [show nI i ≤ nI i from q_le.mpr (Int.le_refl _), Nat.sub_self, ↓reduceIte]
      show (if nI c = 1 then _ else _) = (if c + 0 = 1 then 1 else 0, nI i, t)
      rw [Nat.add_zero]
      by_cases d9 : c = 1
      · rw [if_pos d9, if_pos (show nI c = 1 by rw [d9]; rfl)]
      · rw [if_neg d9, if_neg (fun h9 => d9 (by have := congrArg Int32.toInt h9; rw [ec, q1] at this; omega))]
    · rw [show n - i = (n - (i + 1)) + 1 by omega, q_rwC, List.countP_cons]
      simp only [show ¬ nI n ≤ nI i from q_nle.mpr (by rw [e, en]; omega), ↓reduceIte]
      by_cases d9 : F_r_canOpen g (t i) d = 0
      · have hp : qCo g d (t i) = false := decide_eq_false (fun h9 => h9 d9)
        simp only [d9, hp, Bool.false_eq_true, Nat.add_zero, ↓reduceIte]
        rw [show nI c + 0 = nI c from by rw [show (0 : Int32) = nI 0 from rfl, nI_add, Nat.add_zero]]
        exact ih c (i + 1) (by omega) (by omega) (by omega)
      · have hp : qCo g d (t i) = true := decide_eq_true d9
        simp only [d9, hp, ↓reduceIte]
        rw [ih (c + 1) (i + 1) (by omega) (by omega) (by omega), show c + 1 + List.countP (qCo g d) (qRw (n - (i + 1)) t (i + 1)) = c + (List.countP (qCo g d) (qRw (n - (i + 1)) t (i + 1)) + 1) by omega]
theorem q_one {T : Type} [DecidableEq T] {p : T → Bool} {l : List T} {k : T} (hn : l.Nodup) (hk : k ∈ l) (hp : p k = true) : l.countP p = 1 ↔ ∀ x, x ∈ l → ¬ x = k → p x = false := by
  rw [(List.perm_cons_erase hk).countP_eq, List.countP_cons, if_pos hp]
  constructor
  · intro h x hx hne
    have h0 : (l.erase k).countP p = 0 := by omega
    have h9 := List.countP_eq_zero.mp h0 x ((hn.mem_erase_iff).mpr ⟨hne, hx⟩)
    cases h8 : p x
    · rfl
    · exact absurd h8 h9
  · intro h
    have h0 : (l.erase k).countP p = 0 := List.countP_eq_zero.mpr (fun x hx => by
      have h9 := (hn.mem_erase_iff).mp hx
      rw [h x h9.2 h9.1]
      decide)
    omega
/-- a KEY is the only one on its RING that opens a DOOR, on both sides -/
theorem q_onlyA {fe ke ri dO tu rm lent : Int32} {fn : Nat → Int64} {st tf six ks wa op se rd on om g t : Nat → Int32} {w : Nat → Int64} {m : Int32} (h : qTx 0 0 fe ke ri dO tu rm fn st tf six ks wa op se rd g w) (hR : qRn 0 ri ke lent on om g) (hC : zC g) {a d : Nat} (ha : (a : Int) < ke.toInt) (hd : (d : Int) < dO.toInt) : F_H_isOnlyOpener ke lent ri dO on om op (nI a) (nI d) = (F_r_isOnly m g t (nI a) (nI d)).1 ∧ (¬ (F_r_isOnly m g t (nI a) (nI d)).1 = 0 → ∃ (r : Nat) (t' : Nat → Int32), (r : Int) < ri.toInt ∧ F_H_ringOf ri on om (nI a) = nI r ∧ (F_r_isOnly m g t (nI a) (nI d)).2 = (F_H_manyThere ke lent ri on om (nI r), t')) := by
  have b := h.2.1
  have ea := nI_toInt (show a < 2147483648 by omega)
  have hA := q_ringA (k := nI a) hR h.1.2.2.1 b.2.2.1.1 b.2.2.1.2
  rw [F_H_isOnlyOpener_s, F_r_isOnly_s]
  simp only [← hA, q_coA h ha hd]
  rcases q_ringC (k := nI a) hR b.2.2.1.1 b.2.2.1.2 with hr | ⟨r, v, r1, r2, r3, r4, r5⟩
  · simp only [hr, show (-1 : Int32) < 0 by decide, not_true_eq_false, false_implies, and_self, ↓reduceIte]
  · have er := nI_toInt (show r < 2147483648 by omega)
    have nr : ¬ nI r = -1 := fun h9 => by
      have h8 := congrArg Int32.toInt h9
      rw [er, q_1] at h8
      omega
    obtain ⟨v', v1, v2, v3, v4, v5, v6, v7⟩ := q_thB hR h.1.2.1 h.1.2.2.1 b.2.1.2 r1 (by omega) hC
    have hvv : v' = v := by
      have h8 := congrArg Int32.toInt (v2.symm.trans r3)
      rw [nI_toInt (by omega), nI_toInt (by omega)] at h8
      omega
    subst hvv
    have hl := q_lentA (k := nI a) (on := on) (om := om) hR (by omega) (by rw [ea]; exact ha) b.2.1.2
    simp only [r2, nr, show ¬ nI r < 0 from q_nlt.mpr (by rw [q0, er]; omega), ↓reduceIte]
    by_cases c1 : F_H_isLent ke lent (nI a) = 0
    · simp only [c1, hl.mp c1, ↓reduceIte]
      by_cases c2 : F_r_canOpen g (nI a) (nI d) = 0
      · simp only [c2, not_true_eq_false, false_implies, and_self, ↓reduceIte]
      · obtain ⟨t', g1, g2⟩ := q_gt (show r < 3 by omega) v3 v1 t
        simp only [c2, g1, ↓reduceIte]
        have hle : (qRt9 v' g (98 + 10 * r)).length ≤ 10 := Nat.le_trans (List.length_filter_le _ _) (by rw [qRw_len]; exact v1)
        have hio := q_ioL (g := g) (t := t') (d := nI d) hle ((2147483647 - (0 : Int32).toInt).toNat + 1) 0 0 (by show (2147483647 - (0 : Int32).toInt).toNat < _; omega) (by omega) (by omega)
        rw [Nat.sub_zero, Nat.zero_add, g2] at hio
        rw [show nI 0 = (0 : Int32) from rfl] at hio
        rw [hio]
        have hnd : (qRt9 v' g (98 + 10 * r)).Nodup := (v5.nodup_iff).mp (v6.filter _)
        have hin : nI a ∈ qRt9 v' g (98 + 10 * r) := v5.mem_iff.mp (List.mem_filter.mpr ⟨r5, decide_eq_true c1⟩)
        have h1 := q_one (p := qCo g (nI d)) hnd hin (decide_eq_true c2)
        have hmany : F_H_manyThere ke lent ri on om (nI r) = nI (qRt9 v' g (98 + 10 * r)).length := by
          rw [q_manyA (t := t) hR h.1.2.1 h.1.2.2.1 b.2.1.2 r1 (by omega) hC, g1]
        refine ⟨?_, fun _ => ⟨r, t', r1, rfl, by rw [hmany]⟩⟩
        have key : (∀ x, x ∈ qRt9 v' g (98 + 10 * r) → ¬ x = nI a → qCo g (nI d) x = false) ↔ (∀ j : Nat, 0 ≤ j → j < v' → ¬ on (10 * r + j) = nI a → F_H_isLent ke lent (on (10 * r + j)) = 0 → F_H_unlocks ke dO op (on (10 * r + j)) (nI d) = 0) := by
          constructor
          · intro h9 j _ hj hne hlj
            have hm : on (10 * r + j) ∈ qRw v' on (10 * r) := qRw_mem.mpr ⟨j, hj, rfl⟩
            obtain ⟨q, q1, q2⟩ := v7 _ hm
            have h8 := h9 _ (v5.mem_iff.mp (List.mem_filter.mpr ⟨hm, decide_eq_true hlj⟩)) hne
            rw [q1, q_coA h q2 hd]
            rw [q1] at h8
            exact Decidable.not_not.mp (of_decide_eq_false h8)
          · intro h9 x hx hne
            have hx2 := List.mem_filter.mp (v5.mem_iff.mpr hx)
            obtain ⟨j, j1, j2⟩ := qRw_mem.mp hx2.1
            obtain ⟨q, q1, q2⟩ := v7 _ hx2.1
            have h8 := h9 j (Nat.zero_le _) j1 (by rw [j2]; exact hne) (by rw [j2]; exact of_decide_eq_true hx2.2)
            rw [j2, q1, q_coA h q2 hd] at h8
            refine decide_eq_false (fun h7 => h7 ?_)
            rw [q1]
            exact h8
        rcases q_ooL (keys := ke) (lent := lent) (doors := dO) (on := on) (op := op) (x := nI a) (y := nI d) r1 (show r < 3 by omega) v2 v1 ((2147483647 - (0 : Int32).toInt).toNat + 1) 0 (by show (2147483647 - (0 : Int32).toInt).toNat < _; omega) (by omega) with ⟨x1, x2⟩ | ⟨x1, x2⟩
        · rw [if_pos (h1.mpr (key.mpr x1))]
          exact x2
        · rw [if_neg (fun h9 => x1 (key.mp (h1.mp h9)))]
          exact x2
    · simp only [c1, show g ((150 : Int32) + nI a).toNatClampNeg = 1 from Decidable.not_not.mp (fun h9 => c1 (hl.mpr h9)), not_true_eq_false, false_implies, and_self, ↓reduceIte]
theorem q_missingA {fe ke ri dO tu rm lent : Int32} {fn : Nat → Int64} {st tf six ks wa op se rd on om g t : Nat → Int32} {w : Nat → Int64} {m k1 k2 k3 k4 : Int32} (h : qTx 0 0 fe ke ri dO tu rm fn st tf six ks wa op se rd g w) (hR : qRn 0 ri ke lent on om g) (hC : zC g) : F_X_missing ke lent ri dO on om op k1 k2 k3 k4 = F_r_missing m g t k1 k2 k3 k4 := by
  have b := h.2.1
  have hin : F_r_isIn k3.toInt64 0 16 = if k3 < 0 then 0 else if 16 < k3 then 0 else 1 := by
    rw [show (0 : Int64) = (0 : Int32).toInt64 by decide +kernel, show (16 : Int64) = (16 : Int32).toInt64 by decide +kernel, q_isIn]
  have hin4 : ∀ n : Int32, F_r_isIn k4.toInt64 0 n.toInt64 = if k4 < 0 then 0 else if n < k4 then 0 else 1 := fun n => by
    rw [show (0 : Int64) = (0 : Int32).toInt64 by decide +kernel, q_isIn]
  rw [F_X_missing_s, F_r_missing_s]
  simp only [q_hasKk, q_hasDd, q_isK (k := k1) h.1.2.1 b.2.1.1 (by omega), q_isD (k := k2) h.1.2.2.2.1 b.2.2.2.1.1 (by omega), hin, hin4]
  by_cases c1 : 0 ≤ k1.toInt ∧ k1.toInt < ke.toInt
  · by_cases c2 : 0 ≤ k2.toInt ∧ k2.toInt < dO.toInt
    · obtain ⟨a, rfl, a1, -⟩ := q_nat c1 (by omega)
      obtain ⟨d, rfl, d1, -⟩ := q_nat c2 (by omega)
      have hA := q_ringA (k := nI a) hR h.1.2.2.1 b.2.2.1.1 b.2.2.1.2
      have hO := fun m t => q_onlyA (m := m) (t := t) h hR hC a1 d1
      simp only [c1, c2, and_self, q_n1, ↓reduceIte]
      by_cases c3 : k3 < 0
      · simp only [c3, ↓reduceIte]
      · by_cases c4 : 16 < k3
        · simp only [c3, c4, ↓reduceIte]
        · simp only [c3, c4, q_n1, ↓reduceIte]
          rcases q_ringC (k := nI a) hR b.2.2.1.1 b.2.2.1.2 with hr | ⟨r, v, r1, r2, r3, r4, r5⟩
          · have hb : F_r_besides m g t (nI a) = (2147483647, m, t) := by
              rw [F_r_besides_s]
              simp only [← hA, hr, show ¬ (0 : Int32) ≤ -1 by decide, ↓reduceIte]
            have hz : (F_r_isOnly m g t (nI a) (nI d)).1 = 0 := by
              rw [F_r_isOnly_s]
              simp only [← hA, hr, show (-1 : Int32) < 0 by decide, ↓reduceIte]
            simp only [hb, hr, hz, ite_self, ↓reduceIte]
          · have er := nI_toInt (show r < 2147483648 by omega)
            have nr : ¬ nI r = -1 := fun h9 => by
              have h8 := congrArg Int32.toInt h9
              rw [er, q_1] at h8
              omega
            have hm := q_manyA (t := t) hR h.1.2.1 h.1.2.2.1 b.2.1.2 r1 (by omega) hC
            have hb : F_r_besides m g t (nI a) = (F_H_manyThere ke lent ri on om (nI r), F_H_manyThere ke lent ri on om (nI r), (F_r_gather g t (nI r)).2) := by
              rw [F_r_besides_s]
              simp only [← hA, r2, hm, show (0 : Int32) ≤ nI r from q_le.mpr (by rw [q0, er]; omega), ↓reduceIte]
            simp only [hb, r2, nr, (hO (F_H_manyThere ke lent ri on om (nI r)) (F_r_gather g t (nI r)).2).1, ↓reduceIte]
            by_cases c5 : 0 ≤ k4
            · have c5' : ¬ k4 < 0 := q_nlt.mpr (q_le.mp c5)
              by_cases c6 : k4 ≤ F_H_manyThere ke lent ri on om (nI r)
              · have c6' : ¬ F_H_manyThere ke lent ri on om (nI r) < k4 := q_nlt.mpr (q_le.mp c6)
                simp only [c5, c5', c6, c6', q_n1, ↓reduceIte]
              · have c6' : F_H_manyThere ke lent ri on om (nI r) < k4 := q_lt.mpr (q_nle.mp c6)
                simp only [c5, c5', c6, c6', ↓reduceIte]
            · have c5' : k4 < 0 := q_lt.mpr (q_nle.mp c5)
              simp only [c5, c5', ↓reduceIte]
    · simp only [c1, c2, and_self, q_n1, ↓reduceIte]
  · simp only [c1, ↓reduceIte]
theorem q_soL {L S N : Nat} {tt : Nat → Int32} (hL : L ≤ 16) (hS : S ≤ 16) (hN : N ≤ 10) : ∀ (f t : Nat), (2147483647 - (nI t).toInt).toNat < f → t ≤ N → (F_X_soon_L107a (nI L) (nI S) (nI N) f (nI t)).1 = (F_r_soon_L100a (nI L) (nI S) (nI N) tt f (nI t)).1 := by
  intro f
  induction f with
  | zero => intro t hf; exact absurd hf (Nat.not_lt_zero _)
  | succ f ih =>
    intro t hf ht
    have e := nI_toInt (show t < 2147483648 by omega)
    have e2 := nI_toInt (show t + 1 < 2147483648 by omega)
    have en := nI_toInt (show N < 2147483648 by omega)
    have m1 : L * N ≤ 16 * 10 := Nat.mul_le_mul hL hN
    have m2 : (16 - L) * (N - t) ≤ 16 * 10 := Nat.mul_le_mul (by omega) (by omega)
    have m3 : S * (L * N + (16 - L) * (N - t)) ≤ 16 * 320 := Nat.mul_le_mul hS (by omega)
    have m4 : 16 * L * N ≤ 256 * 10 := Nat.mul_le_mul (by omega) hN
    have eA := nI_toInt (show 16 * L * N < 2147483648 by omega)
    have eB := nI_toInt (show S * (L * N + (16 - L) * (N - t)) < 2147483648 by omega)
    have x1 : (16 : Int32) - nI L = nI (16 - L) := q_nsub (a := 16) hL (by omega)
    have x2 : nI N - nI t = nI (N - t) := q_nsub ht (by omega)
    have x3 : (16 : Int32) * nI L * nI N = nI (16 * L * N) := by
      show nI 16 * nI L * nI N = _
      rw [qnI_mul, qnI_mul]
    have x4 : nI S * (nI L * nI N + nI (16 - L) * nI (N - t)) = nI (S * (L * N + (16 - L) * (N - t))) := by
      rw [qnI_mul, qnI_mul, nI_add, qnI_mul]
    have y1 : ((16 : Int64) * (nI L).toInt64 * (nI N).toInt64).toInt = ((16 * L * N : Nat) : Int) := q_m64 (q_m64 (x := 16) (a := 16) (by decide +kernel) (q_n64 (by omega)) (by omega)) (q_n64 (by omega)) (by omega)
    have y2 : ((nI S).toInt64 * ((nI L).toInt64 * (nI N).toInt64 + (nI (16 - L) * nI (N - t)).toInt64)).toInt = ((S * (L * N + (16 - L) * (N - t)) : Nat) : Int) := by
      rw [qnI_mul]
      exact q_m64 (q_n64 (by omega)) (q_a64 (q_m64 (q_n64 (by omega)) (q_n64 (by omega)) (by omega)) (q_n64 (by omega)) (by omega)) (by omega)
    have hq : lg_cmp ((16 : Int64) * (nI L).toInt64 * (nI N).toInt64) ((nI S).toInt64 * ((nI L).toInt64 * (nI N).toInt64 + (nI (16 - L) * nI (N - t)).toInt64)) < 0 ↔ nI (16 * L * N) < nI (S * (L * N + (16 - L) * (N - t))) := by
      rw [lg_cmp_lt, Int64.lt_iff_toInt_lt, y1, y2, q_lt, eA, eB]
    rw [F_X_soon_L107a_s, F_r_soon_L100a_s]
    simp only [x1, x2, x3, x4, hq, qnI_s]
    by_cases c : t = N
    · subst c
      have m5 : S * (L * t) ≤ 16 * (L * t) := Nat.mul_le_mul_right _ hS
      simp only [show nI t ≤ nI t from q_le.mpr (Int.le_refl _), show ¬ nI t < nI t from q_nlt.mpr (Int.le_refl _), show ¬ nI (16 * L * t) < nI (S * (L * t + (16 - L) * (t - t))) from q_nlt.mpr (by rw [eA, eB, Nat.sub_self, Nat.mul_zero, Nat.add_zero, Nat.mul_assoc]; omega), ↓reduceIte]
    · simp only [show ¬ nI N ≤ nI t from q_nle.mpr (by rw [e, en]; omega), show ¬ nI N < nI t from q_nlt.mpr (by rw [e, en]; omega), ↓reduceIte]
      split
      · exact ih (t + 1) (by omega) (by omega)
      · rfl
theorem q_soonA {fe ke ri dO tu rm lent : Int32} {fn : Nat → Int64} {st tf six ks wa op se rd on om g t : Nat → Int32} {w : Nat → Int64} {m k1 k2 k3 k4 : Int32} (h : qTx 0 0 fe ke ri dO tu rm fn st tf six ks wa op se rd g w) (hR : qRn 0 ri ke lent on om g) (hC : zC g) : (F_X_soon ke lent ri dO on om op k1 k2 k3 k4).1 = (F_r_soon m g t k1 k2 k3 k4).1 := by
  have b := h.2.1
  have hin : F_r_isIn k3.toInt64 0 16 = if k3 < 0 then 0 else if 16 < k3 then 0 else 1 := by
    rw [show (0 : Int64) = (0 : Int32).toInt64 by decide +kernel, show (16 : Int64) = (16 : Int32).toInt64 by decide +kernel, q_isIn]
  have hin4 : F_r_isIn k4.toInt64 1 16 = if k4 < 1 then 0 else if 16 < k4 then 0 else 1 := by
    rw [show (1 : Int64) = (1 : Int32).toInt64 by decide +kernel, show (16 : Int64) = (16 : Int32).toInt64 by decide +kernel, q_isIn]
  have q16 : (16 : Int32).toInt = 16 := by decide +kernel
  rw [F_X_soon_s, F_r_soon_s]
  simp only [q_hasKk, q_hasDd, q_isK (k := k1) h.1.2.1 b.2.1.1 (by omega), q_isD (k := k2) h.1.2.2.2.1 b.2.2.2.1.1 (by omega), hin, hin4, F_r_refuse_s]
  by_cases c1 : 0 ≤ k1.toInt ∧ k1.toInt < ke.toInt
  · by_cases c2 : 0 ≤ k2.toInt ∧ k2.toInt < dO.toInt
    · obtain ⟨a, rfl, a1, -⟩ := q_nat c1 (by omega)
      obtain ⟨d, rfl, d1, -⟩ := q_nat c2 (by omega)
      obtain ⟨hO, hO2⟩ := q_onlyA (m := m) (t := t) h hR hC a1 d1
      simp only [c1, c2, and_self, q_n1, ↓reduceIte]
      by_cases c3 : k3 < 0
      · simp only [c3, ↓reduceIte]
      · by_cases c4 : 16 < k3
        · simp only [c3, c4, ↓reduceIte]
        · by_cases c5 : k4 < 1
          · simp only [c3, c4, c5, q_n1, ↓reduceIte]
          · by_cases c6 : k4 ≤ 16
            · have c6' : ¬ (16 : Int32) < k4 := q_nlt.mpr (q_le.mp c6)
              simp only [c3, c4, c5, c6, c6', q_n1, hO, ↓reduceIte]
              by_cases c7 : (F_r_isOnly m g t (nI a) (nI d)).1 = 0
              · simp only [c7, ↓reduceIte]
              · by_cases c8 : k3 = 0
                · simp only [c7, c8, ↓reduceIte]
                · obtain ⟨r, t', r1, r2, r3⟩ := hO2 c7
                  have g3 := q_nlt.mp c3
                  have g4 := q_nlt.mp c4
                  have g5 := q_nlt.mp c5
                  have g6 := q_le.mp c6
                  rw [q0] at g3
                  rw [q16] at g4 g6
                  rw [q1] at g5
                  obtain ⟨l, rfl, l1, -⟩ := q_nat (k := k3) (m := 17) ⟨g3, by omega⟩ (by omega)
                  obtain ⟨s, rfl, s1, -⟩ := q_nat (k := k4) (m := 17) ⟨by omega, by omega⟩ (by omega)
                  obtain ⟨v, v1, v2, -⟩ := q_thB hR h.1.2.1 h.1.2.2.1 b.2.1.2 r1 (by omega) hC
                  have hmt := q_mth (keys := ke) (lent := lent) (on := on) r1 (show r < 3 by omega) v2 v1
                  have hle : (qRw v on (10 * r)).countP (fun k => decide (F_H_isLent ke lent k = 0)) ≤ 10 := Nat.le_trans List.countP_le_length (by rw [qRw_len]; exact v1)
                  rw [hmt] at r3
                  simp only [c7, c8, r2, r3, hmt, ↓reduceIte]
                  exact q_soL (by omega) (by omega) hle ((2147483647 - (0 : Int32).toInt).toNat + 1) 0 (by show (2147483647 - (0 : Int32).toInt).toNat < _; omega) (by omega)
            · have c6' : (16 : Int32) < k4 := q_lt.mpr (q_nle.mp c6)
              simp only [c3, c4, c5, c6, c6', q_n1, ↓reduceIte]
    · simp only [c1, c2, and_self, q_n1, ↓reduceIte]
  · simp only [c1, ↓reduceIte]
