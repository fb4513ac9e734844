def qel (L : List Int32) : Nat → Int
  | 0 => 0
  | k + 1 => qel L k * 32 + ((L.getD k 0).toInt - 96)
theorem qel_p {L : List Int32} : ∀ k : Nat, (∀ j : Nat, j < k → 97 ≤ (L.getD j 0).toInt ∧ (L.getD j 0).toInt ≤ 122) → 0 ≤ qel L k ∧ (1 ≤ k → 1 ≤ qel L k) := by
  intro k
  induction k with
  | zero => intro _; exact ⟨Int.le_refl _, fun h => absurd h (by omega)⟩
  | succ k ih =>
    intro h
    have h1 := ih (fun j hj => h j (by omega))
    have hd := h k (by omega)
    show 0 ≤ qel L k * 32 + ((L.getD k 0).toInt - 96) ∧ (1 ≤ k + 1 → 1 ≤ qel L k * 32 + ((L.getD k 0).toInt - 96))
    omega
theorem q_inj {T : Nat → Int32} {s : Nat} {L : List Int32} : ∀ k m : Nat, qL T s k → (∀ j : Nat, j < m → 97 ≤ (L.getD j 0).toInt ∧ (L.getD j 0).toInt ≤ 122) → (qe T s k = qel L m ↔ k = m ∧ ∀ j : Nat, j < k → qb T (s + j) = (L.getD j 0).toInt) := by
  intro k
  induction k with
  | zero =>
    intro m _ hm
    cases m with
    | zero => exact ⟨fun _ => ⟨rfl, fun j hj => absurd hj (by omega)⟩, fun _ => rfl⟩
    | succ m =>
      have := (qel_p (m + 1) hm).2 (by omega)
      refine ⟨fun h => ?_, fun h => absurd h.1 (by omega)⟩
      have h : (0 : Int) = qel L (m + 1) := h
      omega
  | succ k ih =>
    intro m hk hm
    cases m with
    | zero =>
      have := (qe_b (k + 1) hk).2.2 (by omega)
      refine ⟨fun h => ?_, fun h => absurd h.1 (by omega)⟩
      have h : qe T s (k + 1) = (0 : Int) := h
      omega
    | succ m =>
      have i1 := ih m (fun j a b => hk j a (by omega)) (fun j hj => hm j (by omega))
      have d1 := hk (s + k) (by omega) (by omega)
      have d2 := hm m (by omega)
      have ek : qe T s (k + 1) = qe T s k * 32 + (qb T (s + k) - 96) := rfl
      have em : qel L (m + 1) = qel L m * 32 + ((L.getD m 0).toInt - 96) := rfl
      constructor
      · intro h
        have e1 : qe T s k = qel L m := by omega
        have e2 : qb T (s + k) = (L.getD m 0).toInt := by omega
        obtain ⟨e3, e4⟩ := i1.mp e1
        refine ⟨by omega, fun j hj => ?_⟩
        rcases Nat.lt_or_ge j k with c | c
        · exact e4 j c
        · have e : j = k := by omega
          rw [e, e2, e3]
      · rintro ⟨e3, e4⟩
        have e5 : k = m := by omega
        have e1 := i1.mpr ⟨e5, fun j hj => e4 j (by omega)⟩
        have e2 := e4 k (by omega)
        rw [ek, em, e1, e2, e5]
def qGood (i : Nat) (code : Int64) : Prop := (1 ≤ (zlb i).length ∧ (zlb i).length ≤ 8) ∧ code.toInt = qel (zlb i) (zlb i).length ∧ ∀ j : Nat, j < (zlb i).length → (97 ≤ ((zlb i).getD j 0).toInt ∧ ((zlb i).getD j 0).toInt ≤ 122) ∧ F_St_charAt i (nI j) = (zlb i).getD j 0
theorem q_isL {n a : Int32} {T : Nat → Int32} {i : Nat} {code : Int64} (hg : qGood i code) (hn : n.toInt ≤ 900) (ha : 0 ≤ a.toInt) (han : a.toInt + (zlb i).length ≤ n.toInt) : ∀ (f j : Nat), (2147483647 - (nI j).toInt).toNat < f → j ≤ (zlb i).length → (F_Te_is_L28a n a T i f (nI j) = 1 ∧ ∀ m : Nat, j ≤ m → m < (zlb i).length → qb T (a.toInt.toNat + m) = ((zlb i).getD m 0).toInt) ∨ (F_Te_is_L28a n a T i f (nI j) = 0 ∧ ¬ ∀ m : Nat, j ≤ m → m < (zlb i).length → qb T (a.toInt.toNat + m) = ((zlb i).getD m 0).toInt) := by
  obtain ⟨hl, -, hc⟩ := hg
  intro f
  induction f with
  | zero => intro j h; exact absurd h (Nat.not_lt_zero _)
  | succ f ih =>
    intro j h1 hj
    rw [F_Te_is_L28a_s]
    have ej : (nI j).toInt = j := nI_toInt (by omega)
    have el : (nI (zlb i).length).toInt = (zlb i).length := nI_toInt (by omega)
    by_cases h : nI (zlb i).length ≤ nI j
    · have h' := q_le.mp h
      simp only [h, ↓reduceIte]
      exact Or.inl ⟨trivial, fun m h3 h4 => absurd h4 (by omega)⟩
    · have h' := q_nle.mp h
      have hx := q_add (a := a) (b := nI j) (by omega) (by omega)
      have hx0 : 0 ≤ (a + nI j).toInt := by omega
      have hxn : ¬ n ≤ a + nI j := by rw [q_nle]; omega
      have hq : (F_r_look2 n T (a + nI j)).toInt = qb T (a.toInt.toNat + j) := by
        rw [q_look1 hxn, show (a + nI j).toInt.toNat = a.toInt.toNat + j by omega]; rfl
      have hcj := hc j (by omega)
      have e1 : nI j + 1 = nI (j + 1) := nI_add j 1
      simp only [h, q_byte1 hx0 hn hxn, hcj.2, ↓reduceIte]
      by_cases he : F_r_look2 n T (a + nI j) = (zlb i).getD j 0
      · simp only [he, ↓reduceIte]
        rw [e1]
        have ej1 : (nI (j + 1)).toInt = ((j + 1 : Nat) : Int) := nI_toInt (by omega)
        rcases ih (j + 1) (by omega) (by omega) with ⟨g1, g2⟩ | ⟨g1, g2⟩
        · refine Or.inl ⟨g1, fun m h3 h4 => ?_⟩
          rcases Nat.lt_or_ge j m with c | c
          · exact g2 m c h4
          · have e : m = j := by omega
            rw [e, ← hq, he]
        · exact Or.inr ⟨g1, fun g3 => g2 (fun m h3 h4 => g3 m (by omega) h4)⟩
      · simp only [he, ↓reduceIte]
        refine Or.inr ⟨trivial, fun g3 => he ?_⟩
        have := g3 j (Nat.le_refl _) (by omega)
        exact Int32.toInt_inj.mp (by rw [hq, this])
theorem q_isw {n T tok a b num lt wd cs cn cl} {i : Nat} {code : Int64} (hg : qGood i code) (hn : n.toInt ≤ 900) (h : qTk n T tok a b num lt wd cs cn cl) : F_Te_is n tok a b T i = F_r_isWord tok wd code := by
  obtain ⟨ha, hab, hbn, -, -, -, -, -, h1⟩ := h
  unfold F_r_isWord
  rw [F_Te_is_s]
  by_cases ht : tok = 1
  · obtain ⟨hlt, hl, hL, hw⟩ := h1 ht
    have hx := q_sub (a := b) (b := a) (by omega) (by omega)
    have el : (nI (zlb i).length).toInt = (zlb i).length := nI_toInt (by have := hg.1; omega)
    have hcp := (qel_p (zlb i).length (fun j hj => (hg.2.2 j hj).1)).2 hg.1.1
    simp only [ht, ↓reduceIte]
    rcases hw with ⟨h8, -, hq⟩ | ⟨h8, -, hq⟩
    · by_cases he : b - a = nI (zlb i).length
      · simp only [he, ↓reduceIte]
        have he' := q_eq.mp he
        have hk : lt.toInt.toNat = (zlb i).length := by omega
        have hin := q_inj (L := zlb i) _ _ hL (fun j hj => (hg.2.2 j hj).1)
        rcases q_isL (T := T) (a := a) hg hn ha (by omega) ((2147483647 - (0 : Int32).toInt).toNat + 1) 0 (by show (2147483647 - (0 : Int32).toInt).toNat < _; omega) (by omega) with ⟨g1, g2⟩ | ⟨g1, g2⟩
        · have g1 : F_Te_is_L28a n a T i ((2147483647 - (0 : Int32).toInt).toNat + 1) 0 = 1 := g1
          rw [g1]
          have hw1 : wd = code := Int64.toInt_inj.mp (by rw [hq, hg.2.1]; exact hin.mpr ⟨hk, fun j hj => g2 j (by omega) (by omega)⟩)
          rw [if_pos ((lg_cmp_eq _ _).mpr hw1)]
        · have g1 : F_Te_is_L28a n a T i ((2147483647 - (0 : Int32).toInt).toNat + 1) 0 = 0 := g1
          rw [g1]
          rw [if_neg (fun h9 => g2 (fun m h3 h4 => (hin.mp (by rw [← hq, ← hg.2.1, (lg_cmp_eq _ _).mp h9])).2 m (by omega)))]
      · simp only [he, ↓reduceIte]
        rw [if_neg (fun h9 => he (q_eq.mpr (by rw [hx, el, ← hl]; have := ((q_inj (L := zlb i) _ _ hL (fun j hj => (hg.2.2 j hj).1)).mp (by rw [← hq, ← hg.2.1, (lg_cmp_eq _ _).mp h9])).1; omega)))]
    · have he : ¬ b - a = nI (zlb i).length := fun h9 => by
        have h9 := q_eq.mp h9
        have := hg.1
        omega
      simp only [he, ↓reduceIte]
      rw [if_neg (fun h9 => by
        have h9 := (lg_cmp_eq _ _).mp h9
        have hc := hg.2.1
        rw [← h9, hq, show (-1 : Int64).toInt = -1 by decide +kernel] at hc
        omega)]
  · simp only [ht, ↓reduceIte]
