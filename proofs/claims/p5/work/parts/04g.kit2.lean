theorem z_topq {p : Program} {l : Launch} {e : Env} {R : Room} {s : State} {m : MethodId} {args : Array Value} {below : List Frame} {meth : Method} {c : Code} {H : Heap} {locs : List Loc} {cells slots pc : Nat} {ls : Array Slot} {rest : List Value} {Q : State → Prop} {o o' : Option Nat} (h : o = o') (k : W p l e R s m args below meth c H locs cells slots Q (F0 m pc ls (va_rf o' :: rest))) : W p l e R s m args below meth c H locs cells slots Q (F0 m pc ls (va_rf o :: rest)) := h ▸ k
theorem z_inN {x : Int32} {n : Nat} (h1 : 0 ≤ x.toInt) (h2 : x.toInt < n) : vp_in x n := vp_in_iff.mpr ⟨h1, h2⟩
theorem z_eqc {x k : Int32} {K : Int} (hk : k.toInt = K) (h : x.toInt = K) : x = k := Int32.toInt_inj.mp (h.trans hk.symm)
theorem z_n0 : (0 : Int32).toNatClampNeg = 0 := by decide +kernel
theorem z_n1 : (1 : Int32).toNatClampNeg = 1 := by decide +kernel
theorem z_n2 : (2 : Int32).toNatClampNeg = 2 := by decide +kernel
theorem z_n3 : (3 : Int32).toNatClampNeg = 3 := by decide +kernel
theorem z_3c {x : Int32} (h1 : 0 ≤ x.toInt) (h2 : x.toInt < 3) : x = 0 ∨ x = 1 ∨ x = 2 := by
  rcases (show x.toInt = 0 ∨ x.toInt = 1 ∨ x.toInt = 2 by omega) with h | h | h
  · exact Or.inl (z_eqc (by decide +kernel) h)
  · exact Or.inr (Or.inl (z_eqc (by decide +kernel) h))
  · exact Or.inr (Or.inr (z_eqc (by decide +kernel) h))
theorem z_4c {x : Int32} (h1 : 0 ≤ x.toInt) (h2 : x.toInt < 4) : x = 0 ∨ x = 1 ∨ x = 2 ∨ x = 3 := by
  rcases (show x.toInt = 0 ∨ x.toInt = 1 ∨ x.toInt = 2 ∨ x.toInt = 3 by omega) with h | h | h | h
  · exact Or.inl (z_eqc (by decide +kernel) h)
  · exact Or.inr (Or.inl (z_eqc (by decide +kernel) h))
  · exact Or.inr (Or.inr (Or.inl (z_eqc (by decide +kernel) h)))
  · exact Or.inr (Or.inr (Or.inr (z_eqc (by decide +kernel) h)))
theorem z_dnk {v k : Int32} {n : Nat} {K : Int} (hk : k.toInt = K) (hK : K < 0) (h : (v.toInt + 2147483648).toNat < n + 1) (h2 : -2147483648 ≤ v.toInt + K) (h3 : v.toInt ≤ 2147483647) : ((v + k).toInt + 2147483648).toNat < n := by
  rw [z_addI hk h2 (by omega)]
  omega
