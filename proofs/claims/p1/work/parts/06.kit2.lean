theorem z_nge {i : Nat} {k : Int32} (K : Int) (hk : k.toInt = K) (hi : i < 2 ^ 31) : k ≤ nI i ↔ K ≤ (i : Int) := by rw [Int32.le_iff_toInt_le, hk, nI_toInt hi]
theorem z_ngn {i n : Nat} (hi : i < 2 ^ 31) (hn : n < 2 ^ 31) : nI n ≤ nI i ↔ n ≤ i := nI_leI hn hi
theorem z_inc (i : Nat) : nI i + Int32.ofInt 1 = nI (i + 1) := by rw [show Int32.ofInt 1 = 1 by decide +kernel]; exact nI_1 i
theorem z_addc {k : Int32} (K : Nat) {i : Nat} (hk : k = nI K) : k + nI i = nI (K + i) := by rw [hk]; exact nI_add K i
theorem z_addr {k : Int32} (K : Nat) {i : Nat} (hk : k = nI K) : nI i + k = nI (i + K) := by rw [hk]; exact nI_add i K
theorem z_mulc {k : Int32} (K : Nat) {i : Nat} (hk : k = nI K) : k * nI i = nI (K * i) := by rw [hk]; exact pk_mul K i
theorem z_inN {x : Int32} {n : Nat} (h1 : 0 ≤ x.toInt) (h2 : x.toInt < n) : vp_in x n := vp_in_iff.mpr ⟨h1, h2⟩
theorem z_nat {x : Int32} {K : Nat} (h1 : 0 ≤ x.toInt) (h2 : x.toInt ≤ K) (hK : K < 2 ^ 31) : ∃ j : Nat, j ≤ K ∧ x = nI j := by
  refine ⟨x.toInt.toNat, by omega, Int32.toInt_inj.mp ?_⟩
  rw [nI_toInt (by omega)]
  omega
theorem z_eqc {x k : Int32} {K : Int} (hk : k.toInt = K) (h : x.toInt = K) : x = k := Int32.toInt_inj.mp (h.trans hk.symm)
theorem z_4 {x : Int32} (h1 : 0 ≤ x.toInt) (h2 : x.toInt < 4) : x = 0 ∨ x = 1 ∨ x = 2 ∨ x = 3 := by
  rcases (show x.toInt = 0 ∨ x.toInt = 1 ∨ x.toInt = 2 ∨ x.toInt = 3 by omega) with h | h | h | h
  · exact Or.inl (z_eqc (by decide +kernel) h)
  · exact Or.inr (Or.inl (z_eqc (by decide +kernel) h))
  · exact Or.inr (Or.inr (Or.inl (z_eqc (by decide +kernel) h)))
  · exact Or.inr (Or.inr (Or.inr (z_eqc (by decide +kernel) h)))
def trOK (t s m : Int32) : Prop := 0 ≤ t.toInt ∧ t.toInt < 4 ∧ 0 ≤ s.toInt ∧ s.toInt ≤ 3 ∧ 0 ≤ m.toInt ∧ m.toInt ≤ 60
def manyV (w : Int32) : Int32 := if w = 5 then 1 else if w = 6 then 4 else if w = 7 then 1 else if w = 8 then 9 else if w = 9 then 8 else if w = 10 then -1 else if 0 ≤ w ∧ w ≤ 4 then 0 else -1
theorem manyV_out {w : Int32} (h : w.toInt < 0 ∨ 10 < w.toInt) : manyV w = -1 := by
  have ne : ∀ {k : Int32} {K : Int}, k.toInt = K → 0 ≤ K → K ≤ 10 → w ≠ k := fun hk a b e => by
    have := congrArg Int32.toInt e
    rw [hk] at this
    omega
  have nb : ¬ (0 ≤ w ∧ w ≤ 4) := fun ⟨a, b⟩ => by
    have h1 := z_b1 a (K := 0) (by decide +kernel)
    have h2 := z_b5 b (K := 4) (by decide +kernel)
    omega
  unfold manyV
  rw [if_neg (ne (k := 5) (K := 5) (by decide +kernel) (by omega) (by omega)), if_neg (ne (k := 6) (K := 6) (by decide +kernel) (by omega) (by omega)), if_neg (ne (k := 7) (K := 7) (by decide +kernel) (by omega) (by omega)), if_neg (ne (k := 8) (K := 8) (by decide +kernel) (by omega) (by omega)), if_neg (ne (k := 9) (K := 9) (by decide +kernel) (by omega) (by omega)), if_neg (ne (k := 10) (K := 10) (by decide +kernel) (by omega) (by omega)), if_neg nb]
theorem z_11 {x : Int32} : (x.toInt < 0 ∨ 10 < x.toInt) ∨ x = 0 ∨ x = 1 ∨ x = 2 ∨ x = 3 ∨ x = 4 ∨ x = 5 ∨ x = 6 ∨ x = 7 ∨ x = 8 ∨ x = 9 ∨ x = 10 := by
  by_cases h : x.toInt < 0 ∨ 10 < x.toInt
  · exact Or.inl h
  · refine Or.inr ?_
    have f : ∀ {k : Int32} {K : Int}, k.toInt = K → x.toInt = K → x = k := fun hk e => z_eqc hk e
    rcases (show x.toInt = 0 ∨ x.toInt = 1 ∨ x.toInt = 2 ∨ x.toInt = 3 ∨ x.toInt = 4 ∨ x.toInt = 5 ∨ x.toInt = 6 ∨ x.toInt = 7 ∨ x.toInt = 8 ∨ x.toInt = 9 ∨ x.toInt = 10 by omega) with h | h | h | h | h | h | h | h | h | h | h
    · exact Or.inl (f (by decide +kernel) h)
    · exact Or.inr (Or.inl (f (by decide +kernel) h))
    · exact Or.inr (Or.inr (Or.inl (f (by decide +kernel) h)))
    · exact Or.inr (Or.inr (Or.inr (Or.inl (f (by decide +kernel) h))))
    · exact Or.inr (Or.inr (Or.inr (Or.inr (Or.inl (f (by decide +kernel) h)))))
    · exact Or.inr (Or.inr (Or.inr (Or.inr (Or.inr (Or.inl (f (by decide +kernel) h))))))
    · exact Or.inr (Or.inr (Or.inr (Or.inr (Or.inr (Or.inr (Or.inl (f (by decide +kernel) h)))))))
    · exact Or.inr (Or.inr (Or.inr (Or.inr (Or.inr (Or.inr (Or.inr (Or.inl (f (by decide +kernel) h))))))))
    · exact Or.inr (Or.inr (Or.inr (Or.inr (Or.inr (Or.inr (Or.inr (Or.inr (Or.inl (f (by decide +kernel) h)))))))))
    · exact Or.inr (Or.inr (Or.inr (Or.inr (Or.inr (Or.inr (Or.inr (Or.inr (Or.inr (Or.inl (f (by decide +kernel) h))))))))))
    · exact Or.inr (Or.inr (Or.inr (Or.inr (Or.inr (Or.inr (Or.inr (Or.inr (Or.inr (Or.inr (f (by decide +kernel) h))))))))))
