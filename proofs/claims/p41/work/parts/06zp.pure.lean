theorem q_bitand {x : Int32} {r j : Nat} (hr : r < 32) (hj : j < 32) : qBit (x &&& (((1 : Int32) <<< (nI r &&& 31)) ^^^ (-1))) j = 1 ↔ (¬ j = r ∧ qBit x j = 1) := by
  rw [q_bit hj, q_bit hj, b_and, b_xor, b_shl r hr 1 hj, b_m1 j hj]
  have h0 : bt 1 0 = true := by decide +kernel
  by_cases h : j = r
  · subst h
    rw [Nat.sub_self, h0]
    simp
  · rcases Nat.lt_or_ge j r with c | c
    · simp [Nat.not_le.mpr c, h]
    · have h2 : bt 1 (j - r) = false := (by decide +kernel : ∀ i, i < 32 → 0 < i → bt 1 i = false) (j - r) (by omega) (by omega)
      simp [h2, h]
theorem qRn_lend {rings keys lent lent' val : Int32} {on om g g' : Nat → Int32} {a : Nat} (h : qRn 0 rings keys lent on om g) (ha : a < 10) (hg : ∀ j : Nat, ¬ j = 10 → g' j = upd g (150 + a) val j) (hl : ∀ k : Nat, k < 10 → (qBit lent' k = 1 ↔ ((k = a ∧ val = 1) ∨ (¬ k = a ∧ qBit lent k = 1)))) (hv : val = 0 ∨ val = 1) : qRn 0 rings keys lent' on om g' := by
  have hs : ∀ j : Nat, ¬ j = 10 → ¬ j = 150 + a → g' j = g j := fun j h1 h2 => (hg j h1).trans (if_neg h2)
  refine ⟨fun r hr hr3 => ?_, fun k hk hk10 => ?_⟩
  · obtain ⟨v, v1, v2, v3, v4⟩ := h.1 r hr hr3
    refine ⟨v, v1, v2, (hs _ (by omega) (by omega)).trans v3, ?_⟩
    rw [qRw_c (v := v) (on := g) (on2 := g') (b := 0 + 98 + 10 * r) (b2 := 0 + 98 + 10 * r) (fun i hi => hs _ (by omega) (by omega))]
    exact v4
  · by_cases e : k = a
    · subst e
      have e1 : g' (0 + 150 + k) = val := by
        rw [hg _ (by omega)]
        exact if_pos (by omega)
      rw [e1]
      rcases hv with rfl | rfl
      · refine Or.inl ⟨rfl, fun h9 => ?_⟩
        rcases (hl k hk10).mp h9 with ⟨-, h8⟩ | ⟨h8, -⟩
        · exact absurd h8 (by decide)
        · exact h8 rfl
      · exact Or.inr ⟨rfl, (hl k hk10).mpr (Or.inl ⟨rfl, rfl⟩)⟩
    · rw [hs (0 + 150 + k) (by omega) (by omega)]
      rcases h.2 k hk hk10 with ⟨h1, h2⟩ | ⟨h1, h2⟩
      · refine Or.inl ⟨h1, fun h9 => ?_⟩
        rcases (hl k hk10).mp h9 with ⟨h8, -⟩ | ⟨-, h8⟩
        · exact e h8
        · exact h2 h8
      · exact Or.inr ⟨h1, (hl k hk10).mpr (Or.inr ⟨e, h2⟩)⟩
theorem q_lgE (g : Nat → Int32) (r : Int32) (j : Nat) (h : ¬ j = 10) : F_r_letGo g r j = g j := q_letGo g r j h
theorem q_lendRn {keys lent rings : Int32} {on om g : Nat → Int32} {he k1 k2 : Int32} (h : qRn 0 rings keys lent on om g) (eK : keys = g 1) (hK0 : 0 ≤ keys.toInt) (h10 : keys.toInt ≤ 10) : qRn 0 rings keys (F_X_lend keys lent rings on om he k1 k2).2.2.1 on om (F_r_lend g k1 k2).2.2.2 := by
  rw [F_X_lend_s, F_r_lend_s]
  simp only [q_hasKk, q_isK (k := k1) eK hK0 (by omega), F_r_no_s]
  by_cases c : 0 ≤ k1.toInt ∧ k1.toInt < keys.toInt
  · obtain ⟨a, rfl, a1, -⟩ := q_nat c (by omega)
    have ea : ((150 : Int32) + nI a).toNatClampNeg = 150 + a := q_adn (a := 150) (by omega)
    have a10 : a < 10 := by omega
    rw [F_H_setLent_s]
    simp only [q_hasKk, c, q_n1, and_self, ea, ↓reduceIte]
    by_cases d : k2 = 0
    · simp only [d, ↓reduceIte]
      have hl : ∀ k : Nat, k < 10 → (qBit (lent &&& (((1 : Int32) <<< (nI a &&& 31)) ^^^ (-1))) k = 1 ↔ ((k = a ∧ (0 : Int32) = 1) ∨ (¬ k = a ∧ qBit lent k = 1))) := fun k hk => by
        rw [q_bitand (by omega) (by omega)]
        constructor
        · exact fun h9 => Or.inr h9
        · rintro (⟨-, h9⟩ | h9)
          · exact absurd h9 (by decide)
          · exact h9
      split
      · exact qRn_lend h a10 (fun j _ => rfl) hl (Or.inl rfl)
      · exact qRn_lend h a10 (fun j hj => q_lgE _ _ j hj) hl (Or.inl rfl)
    · simp only [d, ↓reduceIte]
      have hl : ∀ k : Nat, k < 10 → (qBit (lent ||| ((1 : Int32) <<< (nI a &&& 31))) k = 1 ↔ ((k = a ∧ (1 : Int32) = 1) ∨ (¬ k = a ∧ qBit lent k = 1))) := fun k hk => by
        rw [q_bitset (by omega) (by omega)]
        constructor
        · rintro (h9 | h9)
          · exact Or.inl ⟨h9, rfl⟩
          · by_cases e : k = a
            · exact Or.inl ⟨e, rfl⟩
            · exact Or.inr ⟨e, h9⟩
        · rintro (⟨h9, -⟩ | ⟨-, h9⟩)
          · exact Or.inl h9
          · exact Or.inr h9
      split
      · exact qRn_lend h a10 (fun j _ => rfl) hl (Or.inr rfl)
      · exact qRn_lend h a10 (fun j hj => q_lgE _ _ j hj) hl (Or.inr rfl)
  · simp only [c, ↓reduceIte]
    exact h
