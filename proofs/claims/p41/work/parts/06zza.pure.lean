theorem v_nn {Q : Nat → Bool} {n p : Nat} (hp : p < n) (h : ∀ i : Nat, i < n → Q i = false) : ∀ m a : Nat, uNr Q n p m a none = none := by
  intro m
  induction m with
  | zero => intro a; rfl
  | succ m ih =>
    intro a
    show uNr Q n p m (a + 1) (if (Q ((p + a) % n) && uLt n a none) = true then some a else none) = none
    rw [h _ (Nat.mod_lt _ (by omega))]
    exact ih (a + 1)
theorem v_wkn {Qs : Nat → Nat → Bool} {n T G : Nat} : ∀ m k p s : Nat, p < n → (∃ j : Nat, k ≤ j ∧ j < k + m ∧ ∀ i : Nat, i < n → Qs j i = false) → uWk Qs n T G m k p s = none := by
  intro m
  induction m with
  | zero => rintro k p s _ ⟨j, j1, j2, -⟩; omega
  | succ m ih =>
    rintro k p s hp ⟨j, j1, j2, j3⟩
    show (match uNr (Qs k) n p n 0 none with
      | none => none
      | some x => uWk Qs n T G m (k + 1) ((p + x) % n) (s + (min x (n - x) * G + T))) = none
    cases hx : uNr (Qs k) n p n 0 none with
    | none => rfl
    | some x =>
      refine ih (k + 1) _ _ (Nat.mod_lt _ (by omega)) ⟨j, ?_, by omega, j3⟩
      by_cases e : j = k
      · subst e
        rw [v_nn hp j3] at hx
        cases hx
      · omega
theorem v_cwL {dO : Int32} {op rd row : Nat → Int32} {n R : Nat} {P : Nat → Bool} (hR9 : R ≤ 12) (hso : ∀ k : Nat, k < R → F_Se_someOpens (nI n) dO op row (rd k) = if P k = true then 1 else 0) : ∀ (f i : Nat), (2147483647 - (nI i).toInt).toNat < f → i ≤ R → ((0 < R ∧ ∀ k : Nat, i ≤ k → k < R → P k = true) → F_Se_canWalk_L2a (nI n) dO (nI R) op rd row f (nI i) = 1) ∧ (¬ (0 < R ∧ ∀ k : Nat, i ≤ k → k < R → P k = true) → F_Se_canWalk_L2a (nI n) dO (nI R) op rd row f (nI i) = 0) := by
  intro f
  induction f with
  | zero => intro i hf; exact absurd hf (Nat.not_lt_zero _)
  | succ f ih =>
    intro i hf hi
    have e := nI_toInt (show i < 2147483648 by omega)
    have e2 := nI_toInt (show i + 1 < 2147483648 by omega)
    have eR := nI_toInt (show R < 2147483648 by omega)
    rw [F_Se_canWalk_L2a_s]
    by_cases c : i = R
    · subst c
      by_cases z : i = 0
      · subst z
        simp only [show nI 0 ≤ nI 0 from q_le.mpr (Int.le_refl _), show nI 0 ≤ 0 from q_le.mpr (Int.le_refl _), ↓reduceIte]
        exact ⟨fun h9 => absurd h9.1 (Nat.lt_irrefl _), fun _ => by first | trivial | rfl⟩
      · simp only [show nI i ≤ nI i from q_le.mpr (Int.le_refl _), show ¬ nI i ≤ 0 from q_nle.mpr (by rw [e, q0]; omega), ↓reduceIte]
        exact ⟨fun _ => by first | trivial | rfl, fun h9 => absurd ⟨by omega, fun k k1 k2 => absurd k1 (by omega)⟩ h9⟩
    · have hat : F_at_12 rd (nI i) = rd i := q_at12 (by omega)
      simp only [show ¬ nI R ≤ nI i from q_nle.mpr (by rw [e, eR]; omega), hat, hso i (by omega), qnI_s, ↓reduceIte]
      by_cases p : P i = true
      · obtain ⟨i1, i2⟩ := ih (i + 1) (by omega) (by omega)
        simp only [p, q_n1, ↓reduceIte]
        refine ⟨fun h9 => i1 ⟨h9.1, fun k k1 k2 => h9.2 k (by omega) k2⟩, fun h9 => i2 (fun h8 => h9 ⟨h8.1, fun k k1 k2 => ?_⟩)⟩
        by_cases ek : k = i
        · subst ek; exact p
        · exact h8.2 k (by omega) k2
      · simp only [p, Bool.false_eq_true, ↓reduceIte]
        exact ⟨fun h9 => absurd (h9.2 i (Nat.le_refl _) (by omega)) p, fun _ => by first | trivial | rfl⟩
theorem v_me2 {fe ke ri dO tu : Int32} {fn : Nat → Int64} {st tf six ks wa op se rd g : Nat → Int32} {w : Nat → Int64} {R : Nat} (h : qTx 0 0 fe ke ri dO tu (nI R) fn st tf six ks wa op se rd g w) {K : Nat → Int32} {n T G : Nat} (hn : n < 7) (hn0 : 0 < n) (hr : ∀ i : Nat, i < n → ∃ q : Nat, K i = nI q ∧ (q : Int) < ke.toInt) (hT : g 6 = nI T) (hG : g 7 = nI G) (hT9 : T ≤ 99) (hG9 : G ≤ 99) (hR9 : R ≤ 12) (hrd : ∀ k : Nat, k < R → ∃ d : Nat, rd k = nI d ∧ (d : Int) < dO.toInt ∧ d < 5 ∧ g (138 + k) = nI d) (hop : ∀ k : Nat, k < R → ∃ i : Nat, i < n ∧ qCo g (g (138 + k)) (K i) = true) (row : Nat → Int32) (l : List Nat) (hA : uAs K n row l) (hN : l.Nodup) : F_Se_measured (nI n) dO (nI R) wa op se rd row 2 = nI (uM2 g K T G n R l) ∧ uM2 g K T G n R l ≤ 100000000 := by
  obtain ⟨a1, a2, a3⟩ := hA
  have hp := v_lp a1 hN a2
  obtain ⟨z1, z2⟩ := v_m2 (g := g) (K := K) (l := l) hn hn0 hT9 hG9 hR9 (fun k hk => by
    obtain ⟨i, i1, i2⟩ := hop k hk
    obtain ⟨a, ha, e⟩ := List.mem_iff_getElem.mp (hp.mem_iff.mpr (List.mem_range.mpr i1))
    refine ⟨a, by omega, ?_⟩
    show qCo g (g (138 + k)) (K (l.getD a 0)) = true
    rw [List.getD_eq_getElem?_getD, List.getElem?_eq_getElem ha]
    show qCo g (g (138 + k)) (K l[a]) = true
    rw [e]
    exact i2)
  refine ⟨?_, z2⟩
  obtain ⟨s1, s2⟩ := v_sec h hT hG
  rw [F_Se_measured_s, if_neg (by decide), if_neg (by decide)]
  show F_Se_secondsOfRound (nI n) dO (nI R) op se rd row = _
  rw [F_Se_secondsOfRound_s]
  refine v_srL (Qs := uQs g K l) (row := row) s1 s2 rfl hR9 hn (fun k hk i hi => ?_) ((2147483647 - (0 : Int32).toInt).toNat + 1) 0 0 0 _ (by show (2147483647 - (0 : Int32).toInt).toNat < _; omega) (by omega) hn0 z1
  obtain ⟨d, d1, d2, d5, d3⟩ := hrd k hk
  obtain ⟨q, q1, q2⟩ := hr _ (a2 i hi)
  have ed := nI_toInt (show d < 2147483648 by omega)
  have hopd : F_H_openersOf dO op (nI d) = op d := by
    rw [F_H_openersOf_s]
    simp only [q_hasDd, ed, d2, show (0 : Int) ≤ (d : Int) by omega, and_self, q_n1, q_at5 (g := op) d5, ↓reduceIte]
  rw [d1, hopd, q_isOfA h (show i < 10 by omega) ((a3 i hi).trans q1) q2 d2]
  refine v_co ?_
  show qCo g (nI d) (row i) = qCo g (g (138 + k)) (K (l.getD i 0))
  rw [d3, a3 i hi]
