def zFr (f : Nat → Int32) : Prop := f 0 = 0 ∧ f 1 = 0 ∧ f 2 = 0 ∧ f 3 = 0 ∧ f 4 = 0 ∧ f 5 = 1 ∧ f 6 = 4 ∧ f 7 = 1 ∧ f 8 = 9 ∧ f 9 = 8 ∧ f 10 = (-1)
theorem z_fr0 {f : Nat → Int32} (h : zFr f) : f (0 : Int32).toNatClampNeg = 0 := by rw [show (0 : Int32).toNatClampNeg = 0 by decide +kernel]; exact h.1
theorem z_fr1 {f : Nat → Int32} (h : zFr f) : f (1 : Int32).toNatClampNeg = 0 := by rw [show (1 : Int32).toNatClampNeg = 1 by decide +kernel]; exact h.2.1
theorem z_fr2 {f : Nat → Int32} (h : zFr f) : f (2 : Int32).toNatClampNeg = 0 := by rw [show (2 : Int32).toNatClampNeg = 2 by decide +kernel]; exact h.2.2.1
theorem z_fr3 {f : Nat → Int32} (h : zFr f) : f (3 : Int32).toNatClampNeg = 0 := by rw [show (3 : Int32).toNatClampNeg = 3 by decide +kernel]; exact h.2.2.2.1
theorem z_fr4 {f : Nat → Int32} (h : zFr f) : f (4 : Int32).toNatClampNeg = 0 := by rw [show (4 : Int32).toNatClampNeg = 4 by decide +kernel]; exact h.2.2.2.2.1
theorem z_fr5 {f : Nat → Int32} (h : zFr f) : f (5 : Int32).toNatClampNeg = 1 := by rw [show (5 : Int32).toNatClampNeg = 5 by decide +kernel]; exact h.2.2.2.2.2.1
theorem z_fr6 {f : Nat → Int32} (h : zFr f) : f (6 : Int32).toNatClampNeg = 4 := by rw [show (6 : Int32).toNatClampNeg = 6 by decide +kernel]; exact h.2.2.2.2.2.2.1
theorem z_fr7 {f : Nat → Int32} (h : zFr f) : f (7 : Int32).toNatClampNeg = 1 := by rw [show (7 : Int32).toNatClampNeg = 7 by decide +kernel]; exact h.2.2.2.2.2.2.2.1
theorem z_fr8 {f : Nat → Int32} (h : zFr f) : f (8 : Int32).toNatClampNeg = 9 := by rw [show (8 : Int32).toNatClampNeg = 8 by decide +kernel]; exact h.2.2.2.2.2.2.2.2.1
theorem z_fr9 {f : Nat → Int32} (h : zFr f) : f (9 : Int32).toNatClampNeg = 8 := by rw [show (9 : Int32).toNatClampNeg = 9 by decide +kernel]; exact h.2.2.2.2.2.2.2.2.2.1
theorem z_fr10 {f : Nat → Int32} (h : zFr f) : f (10 : Int32).toNatClampNeg = (-1) := by rw [show (10 : Int32).toNatClampNeg = 10 by decide +kernel]; exact h.2.2.2.2.2.2.2.2.2.2
theorem z_ei {f : Nat → Int32} {K i : Nat} (h : ∀ j, j < i → f (K + j) = 0) (hb : K + i < 2 ^ 31) : ∀ j, j < i + 1 → upd f (nI (K + i)).toNatClampNeg 0 (K + j) = 0 := by
  intro j hj
  rw [nI_clamp hb]
  by_cases e : j = i
  · subst e
    exact pk_us
  · rw [pk_un (by omega)]
    exact h j (by omega)
theorem z_fr_of {f : Nat → Int32} (h : ∀ j, j < 180 → f (0 + j) = 0) : zFr (upd (upd (upd (upd (upd (upd f (5 : Int32).toNatClampNeg 1) (6 : Int32).toNatClampNeg 4) (7 : Int32).toNatClampNeg 1) (8 : Int32).toNatClampNeg 9) (9 : Int32).toNatClampNeg 8) (10 : Int32).toNatClampNeg (-1)) := by
  have h0 : f 0 = 0 := by simpa using h 0 (by omega)
  have h1 : f 1 = 0 := by simpa using h 1 (by omega)
  have h2 : f 2 = 0 := by simpa using h 2 (by omega)
  have h3 : f 3 = 0 := by simpa using h 3 (by omega)
  have h4 : f 4 = 0 := by simpa using h 4 (by omega)
  rw [show (5 : Int32).toNatClampNeg = 5 by decide +kernel, show (6 : Int32).toNatClampNeg = 6 by decide +kernel, show (7 : Int32).toNatClampNeg = 7 by decide +kernel, show (8 : Int32).toNatClampNeg = 8 by decide +kernel, show (9 : Int32).toNatClampNeg = 9 by decide +kernel, show (10 : Int32).toNatClampNeg = 10 by decide +kernel]
  exact ⟨h0, h1, h2, h3, h4, rfl, rfl, rfl, rfl, rfl, rfl⟩
theorem z_fn_of {f : Nat → Int32} (h : ∀ j, j < 180 → f (1460 + j) = 0) : (upd (upd (upd (upd (upd (upd f (1465 : Int32).toNatClampNeg 1) (1466 : Int32).toNatClampNeg 4) (1467 : Int32).toNatClampNeg 1) (1468 : Int32).toNatClampNeg 9) (1469 : Int32).toNatClampNeg 8) (1470 : Int32).toNatClampNeg (-1)) 1461 = 0 := by
  have h1 : f 1461 = 0 := h 1 (by omega)
  rw [show (1465 : Int32).toNatClampNeg = 1465 by decide +kernel, show (1466 : Int32).toNatClampNeg = 1466 by decide +kernel, show (1467 : Int32).toNatClampNeg = 1467 by decide +kernel, show (1468 : Int32).toNatClampNeg = 1468 by decide +kernel, show (1469 : Int32).toNatClampNeg = 1469 by decide +kernel, show (1470 : Int32).toNatClampNeg = 1470 by decide +kernel]
  rw [pk_un (by decide), pk_un (by decide), pk_un (by decide), pk_un (by decide), pk_un (by decide), pk_un (by decide)]
  exact h1
theorem z_hc {f : Nat → Int32} {i : Nat} (h : f 1461 = 0 ∧ (2 ≤ i → f 1 = 0)) (hi : i < 180) : upd f (nI i).toNatClampNeg (f (nI (1460 + i)).toNatClampNeg) 1461 = 0 ∧ (2 ≤ i + 1 → upd f (nI i).toNatClampNeg (f (nI (1460 + i)).toNatClampNeg) 1 = 0) := by
  rw [nI_clamp (show i < 2 ^ 31 by omega), nI_clamp (show 1460 + i < 2 ^ 31 by omega)]
  refine ⟨by rw [pk_un (by omega)]; exact h.1, fun h2 => ?_⟩
  by_cases e : i = 1
  · subst e
    exact pk_us.trans h.1
  · rw [pk_un (fun q => e q.symm)]
    exact h.2 (by omega)
def zTm (f : Nat → Int32) : Prop := f 0 = -1 ∧ f 1 = -1 ∧ f 2 = -1 ∧ f 3 = -1
theorem z_tm {f : Nat → Int32} (h : zTm f) {t : Int32} (h1 : 0 ≤ t.toInt) (h2 : t.toInt < 4) : f t.toNatClampNeg = -1 := by
  rcases z_4 h1 h2 with rfl | rfl | rfl | rfl
  · rw [z_n0]; exact h.1
  · rw [z_n1]; exact h.2.1
  · rw [z_n2]; exact h.2.2.1
  · rw [z_n3]; exact h.2.2.2
theorem z_i2l (w : Int32) : w.toInt64.toInt = w.toInt := Int32.toInt_toInt64 w
theorem z_lge {x : Int64} {K : Int} {k : Int64} (hk : k.toInt = K) : ¬ lg_cmp x k < 0 ↔ K ≤ x.toInt := by
  rw [lg_cmp_lt, Int64.lt_iff_toInt_lt, hk]
  omega
theorem z_lle {x : Int64} {K : Int} {k : Int64} (hk : k.toInt = K) : ¬ 0 < lg_cmp x k ↔ x.toInt ≤ K := by
  rw [lg_cmp_gt, Int64.lt_iff_toInt_lt, hk]
  omega
theorem z_m1 {x : Int64} (h : ¬ lg_cmp x 0 < 0) : 0 < lg_cmp x (-1) := by
  have h1 := (z_lge (K := 0) (by decide +kernel)).mp h
  refine Decidable.of_not_not (fun h2 => ?_)
  have h3 := (z_lle (K := -1) (by decide +kernel)).mp h2
  omega
theorem z_mv {f : Nat → Int32} (h : zFr f) {w : Int32} (h1 : 0 ≤ w.toInt) (h2 : w.toInt ≤ 10) : f w.toNatClampNeg = manyV w := by
  rcases z_11 (x := w) with hn | rfl | rfl | rfl | rfl | rfl | rfl | rfl | rfl | rfl | rfl | rfl
  · omega
  · exact (z_fr0 h).trans (by decide +kernel)
  · exact (z_fr1 h).trans (by decide +kernel)
  · exact (z_fr2 h).trans (by decide +kernel)
  · exact (z_fr3 h).trans (by decide +kernel)
  · exact (z_fr4 h).trans (by decide +kernel)
  · exact (z_fr5 h).trans (by decide +kernel)
  · exact (z_fr6 h).trans (by decide +kernel)
  · exact (z_fr7 h).trans (by decide +kernel)
  · exact (z_fr8 h).trans (by decide +kernel)
  · exact (z_fr9 h).trans (by decide +kernel)
  · exact (z_fr10 h).trans (by decide +kernel)
