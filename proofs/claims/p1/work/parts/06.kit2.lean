theorem z_topq {p : Program} {l : Launch} {e : Env} {R : Room} {s : State} {m : MethodId} {args : Array Value} {below : List Frame} {meth : Method} {c : Code} {H : Heap} {locs : List Loc} {cells slots pc : Nat} {ls : Array Slot} {rest : List Value} {Q : State → Prop} {o o' : Option Nat} (h : o = o') (k : W p l e R s m args below meth c H locs cells slots Q (F0 m pc ls (va_rf o' :: rest))) : W p l e R s m args below meth c H locs cells slots Q (F0 m pc ls (va_rf o :: rest)) := h ▸ k
def zTr (tf : Nat → Option Nat) (T0 T1 T2 T3 : Nat) : Prop := tf 0 = some T0 ∧ tf 1 = some T1 ∧ tf 2 = some T2 ∧ tf 3 = some T3
theorem z_nge {i : Nat} {k : Int32} (K : Int) (hk : k.toInt = K) (hi : i < 2 ^ 31) : k ≤ nI i ↔ K ≤ (i : Int) := by rw [Int32.le_iff_toInt_le, hk, nI_toInt hi]
theorem z_ngn {i n : Nat} (hi : i < 2 ^ 31) (hn : n < 2 ^ 31) : nI n ≤ nI i ↔ n ≤ i := nI_leI hn hi
theorem z_inc (i : Nat) : nI i + Int32.ofInt 1 = nI (i + 1) := by rw [show Int32.ofInt 1 = 1 by decide +kernel]; exact nI_1 i
theorem z_addc {k : Int32} (K : Nat) {i : Nat} (hk : k = nI K) : k + nI i = nI (K + i) := by rw [hk]; exact nI_add K i
theorem z_addr {k : Int32} (K : Nat) {i : Nat} (hk : k = nI K) : nI i + k = nI (i + K) := by rw [hk]; exact nI_add i K
theorem z_mulc {k : Int32} (K : Nat) {i : Nat} (hk : k = nI K) : k * nI i = nI (K * i) := by rw [hk]; exact pk_mul K i
theorem z_inN {x : Int32} {n : Nat} (h1 : 0 ≤ x.toInt) (h2 : x.toInt < n) : vp_in x n := vp_in_iff.mpr ⟨h1, h2⟩
theorem z_nat {x : Int32} {K : Nat} (h1 : 0 ≤ x.toInt) (h2 : x.toInt ≤ K) (hK : K < 2 ^ 31) : ∃ j : Nat, j ≤ K ∧ x = nI j := by
  refine ⟨x.toInt.toNat, by omega, Int32.toInt_inj.mp ?_⟩
  rw [nI_toInt (by omega)]
  omega
theorem z_eqc {x k : Int32} {K : Int} (hk : k.toInt = K) (h : x.toInt = K) : x = k := Int32.toInt_inj.mp (h.trans hk.symm)
theorem z_4 {x : Int32} (h1 : 0 ≤ x.toInt) (h2 : x.toInt < 4) : x = 0 ∨ x = 1 ∨ x = 2 ∨ x = 3 := by
  rcases (show x.toInt = 0 ∨ x.toInt = 1 ∨ x.toInt = 2 ∨ x.toInt = 3 by omega) with h | h | h | h
  · exact Or.inl (z_eqc (by decide +kernel) h)
  · exact Or.inr (Or.inl (z_eqc (by decide +kernel) h))
  · exact Or.inr (Or.inr (Or.inl (z_eqc (by decide +kernel) h)))
  · exact Or.inr (Or.inr (Or.inr (z_eqc (by decide +kernel) h)))
theorem z_tr4 {tf : Nat → Option Nat} {T0 T1 T2 T3 : Nat} (h : zTr tf T0 T1 T2 T3) {t : Int32} (h1 : 0 ≤ t.toInt) (h2 : t.toInt < 4) : (tf t.toNatClampNeg = some T0 ∧ t = 0) ∨ (tf t.toNatClampNeg = some T1 ∧ t = 1) ∨ (tf t.toNatClampNeg = some T2 ∧ t = 2) ∨ (tf t.toNatClampNeg = some T3 ∧ t = 3) := by
  rcases z_4 h1 h2 with rfl | rfl | rfl | rfl
  · exact Or.inl ⟨by rw [z_n0]; exact h.1, rfl⟩
  · exact Or.inr (Or.inl ⟨by rw [z_n1]; exact h.2.1, rfl⟩)
  · exact Or.inr (Or.inr (Or.inl ⟨by rw [z_n2]; exact h.2.2.1, rfl⟩))
  · exact Or.inr (Or.inr (Or.inr ⟨by rw [z_n3]; exact h.2.2.2, rfl⟩))
def trOK (t s m : Int32) : Prop := 0 ≤ t.toInt ∧ t.toInt < 4 ∧ 0 ≤ s.toInt ∧ s.toInt ≤ 3 ∧ 0 ≤ m.toInt ∧ m.toInt ≤ 60
theorem z_ok {t s m : Int32} (h1 : 0 ≤ t.toInt) (h2 : t.toInt < 4) (h3 : 0 ≤ s.toInt) (h4 : s.toInt ≤ 3) (h5 : 0 ≤ m.toInt) (h6 : m.toInt ≤ 60) : trOK t s m := ⟨h1, h2, h3, h4, h5, h6⟩
theorem z_nok {t s m : Int32} (h : t.toInt < 0 ∨ 4 ≤ t.toInt ∨ s.toInt < 0 ∨ 3 < s.toInt ∨ m.toInt < 0 ∨ 60 < m.toInt) : ¬ trOK t s m := by
  unfold trOK
  omega
def manyV (w : Int32) : Int32 := if w = 5 then 1 else if w = 6 then 4 else if w = 7 then 1 else if w = 8 then 9 else if w = 9 then 8 else if w = 10 then -1 else if 0 ≤ w ∧ w ≤ 4 then 0 else -1
theorem manyV_out {w : Int32} (h : w.toInt < 0 ∨ 10 < w.toInt) : manyV w = -1 := by
  have ne : ∀ {k : Int32} {K : Int}, k.toInt = K → 0 ≤ K → K ≤ 10 → w ≠ k := fun hk a b e => by
    have := congrArg Int32.toInt e
    rw [hk] at this
    omega
  have nb : ¬ (0 ≤ w ∧ w ≤ 4) := fun ⟨a, b⟩ => by
    have h1 := z_b1 a (K := 0) (by decide +kernel)
    have h2 := z_b5 b (K := 4) (by decide +kernel)
    omega
  unfold manyV
  rw [if_neg (ne (k := 5) (K := 5) (by decide +kernel) (by omega) (by omega)), if_neg (ne (k := 6) (K := 6) (by decide +kernel) (by omega) (by omega)), if_neg (ne (k := 7) (K := 7) (by decide +kernel) (by omega) (by omega)), if_neg (ne (k := 8) (K := 8) (by decide +kernel) (by omega) (by omega)), if_neg (ne (k := 9) (K := 9) (by decide +kernel) (by omega) (by omega)), if_neg (ne (k := 10) (K := 10) (by decide +kernel) (by omega) (by omega)), if_neg nb]
theorem z_11 {x : Int32} : (x.toInt < 0 ∨ 10 < x.toInt) ∨ x = 0 ∨ x = 1 ∨ x = 2 ∨ x = 3 ∨ x = 4 ∨ x = 5 ∨ x = 6 ∨ x = 7 ∨ x = 8 ∨ x = 9 ∨ x = 10 := by
  by_cases h : x.toInt < 0 ∨ 10 < x.toInt
  · exact Or.inl h
  · refine Or.inr ?_
    have f : ∀ {k : Int32} {K : Int}, k.toInt = K → x.toInt = K → x = k := fun hk e => z_eqc hk e
    rcases (show x.toInt = 0 ∨ x.toInt = 1 ∨ x.toInt = 2 ∨ x.toInt = 3 ∨ x.toInt = 4 ∨ x.toInt = 5 ∨ x.toInt = 6 ∨ x.toInt = 7 ∨ x.toInt = 8 ∨ x.toInt = 9 ∨ x.toInt = 10 by omega) with h | h | h | h | h | h | h | h | h | h | h
    · exact Or.inl (f (by decide +kernel) h)
    · exact Or.inr (Or.inl (f (by decide +kernel) h))
    · exact Or.inr (Or.inr (Or.inl (f (by decide +kernel) h)))
    · exact Or.inr (Or.inr (Or.inr (Or.inl (f (by decide +kernel) h))))
    · exact Or.inr (Or.inr (Or.inr (Or.inr (Or.inl (f (by decide +kernel) h)))))
    · exact Or.inr (Or.inr (Or.inr (Or.inr (Or.inr (Or.inl (f (by decide +kernel) h))))))
    · exact Or.inr (Or.inr (Or.inr (Or.inr (Or.inr (Or.inr (Or.inl (f (by decide +kernel) h)))))))
    · exact Or.inr (Or.inr (Or.inr (Or.inr (Or.inr (Or.inr (Or.inr (Or.inl (f (by decide +kernel) h))))))))
    · exact Or.inr (Or.inr (Or.inr (Or.inr (Or.inr (Or.inr (Or.inr (Or.inr (Or.inl (f (by decide +kernel) h)))))))))
    · exact Or.inr (Or.inr (Or.inr (Or.inr (Or.inr (Or.inr (Or.inr (Or.inr (Or.inr (Or.inl (f (by decide +kernel) h))))))))))
    · exact Or.inr (Or.inr (Or.inr (Or.inr (Or.inr (Or.inr (Or.inr (Or.inr (Or.inr (Or.inr (f (by decide +kernel) h))))))))))
