def zNq (j : Nat) : Bool := j ≤ 2 || (11 ≤ j && j ≤ 13) || (65 ≤ j && j ≤ 127)
def zNg (j : Nat) : Bool := j == 0 || (17 ≤ j && j ≤ 64)
/-- what holds of it at any time -/
def zNw (g on : Nat → Int32) : Prop :=
  (∀ f : Nat, f < 3 → (f : Int) < (g 1460).toInt → 2 ≤ (g (1471 + f)).toInt) ∧
  (∀ k f : Nat, k < 10 → f < 3 → ((f : Int) < (g 1460).toInt → (g (1525 + 3 * k + f)).toInt = 0 ∨ (g (1525 + 3 * k + f)).toInt < (g (1471 + f)).toInt) ∧ ((g 1460).toInt ≤ f → (g (1525 + 3 * k + f)).toInt = 0)) ∧
  (∀ r i j : Nat, r < 3 → (r : Int) < (g 1462).toInt → i < j → (j : Int) < (g (1555 + r)).toInt → j < 10 → (g (1558 + 10 * r + i)).toInt ≠ (g (1558 + 10 * r + j)).toInt) ∧
  (∀ r i : Nat, r < 3 → (r : Int) < (g 1462).toInt → (i : Int) < (g (1555 + r)).toInt → i < 10 → (g (1558 + 10 * r + i)).toInt < (g 1461).toInt ∧ (on (g (1558 + 10 * r + i)).toInt.toNat).toInt = 1)
/-- what holds of it while there is no FAULT -/
def zNf (g : Nat → Int32) : Prop := ∀ f s : Nat, f < 3 → s < 4 → (f : Int) < (g 1460).toInt → 16 ≤ (g (1477 + 16 * f + 4 * s)).toInt + (g (1477 + 16 * f + 4 * s + 1)).toInt + (g (1477 + 16 * f + 4 * s + 2)).toInt + (g (1477 + 16 * f + 4 * s + 3)).toInt
theorem zNq_of {j : Nat} (h : j ≤ 2 ∨ (11 ≤ j ∧ j ≤ 13) ∨ (65 ≤ j ∧ j ≤ 127)) : zNq j = true := by
  simp only [zNq, Bool.or_eq_true, Bool.and_eq_true, decide_eq_true_eq]; omega
theorem zNg_of {j : Nat} (h : j = 0 ∨ (17 ≤ j ∧ j ≤ 64)) : zNg j = true := by
  simp only [zNg, Bool.or_eq_true, Bool.and_eq_true, decide_eq_true_eq, beq_iff_eq]; omega
theorem zNw_same {g g' on : Nat → Int32} (h : zNw g on) (he : ∀ j, zNq j = true → g' (1460 + j) = g (1460 + j)) : zNw g' on := by
  have e : ∀ j, (j ≤ 1462 ∧ 1460 ≤ j) ∨ (1471 ≤ j ∧ j ≤ 1473) ∨ (1525 ≤ j ∧ j ≤ 1587) → g' j = g j := fun j hj => by
    have := he (j - 1460) (zNq_of (by omega))
    rw [show 1460 + (j - 1460) = j by omega] at this
    exact this
  obtain ⟨h1, h2, h3, h4⟩ := h
  refine ⟨fun f hf hl => ?_, fun k f hk hf => ?_, fun r i j hr hl hij hj hj2 => ?_, fun r i hr hl hi hi2 => ?_⟩
  · rw [e 1460 (by omega)] at hl
    rw [e (1471 + f) (by omega)]; exact h1 f hf hl
  · rw [e 1460 (by omega), e (1471 + f) (by omega), e (1525 + 3 * k + f) (by omega)]; exact h2 k f hk hf
  · rw [e 1462 (by omega)] at hl
    rw [e (1555 + r) (by omega)] at hj
    rw [e (1558 + 10 * r + i) (by omega), e (1558 + 10 * r + j) (by omega)]; exact h3 r i j hr hl hij hj hj2
  · rw [e 1462 (by omega)] at hl
    rw [e (1555 + r) (by omega)] at hi
    rw [e (1558 + 10 * r + i) (by omega), e 1461 (by omega)]; exact h4 r i hr hl hi hi2
theorem zNf_same {g g' : Nat → Int32} (h : zNf g) (he : ∀ j, zNg j = true → g' (1460 + j) = g (1460 + j)) : zNf g' := by
  have e : ∀ j, j = 1460 ∨ (1477 ≤ j ∧ j ≤ 1524) → g' j = g j := fun j hj => by
    have := he (j - 1460) (zNg_of (by omega))
    rw [show 1460 + (j - 1460) = j by omega] at this
    exact this
  intro f s hf hs hl
  rw [e 1460 (by omega)] at hl
  rw [e (1477 + 16 * f + 4 * s) (by omega), e (1477 + 16 * f + 4 * s + 1) (by omega), e (1477 + 16 * f + 4 * s + 2) (by omega), e (1477 + 16 * f + 4 * s + 3) (by omega)]
  exact h f s hf hs hl
def zfw (a b : Nat) : Bool := (List.range (b + 1 - a)).all fun k => decide (a + k < 1460) || !zNq (a + k - 1460)
def zfg (a b : Nat) : Bool := (List.range (b + 1 - a)).all fun k => decide (a + k < 1460) || !zNg (a + k - 1460)
theorem zfw_at {a b : Nat} (h : zfw a b = true) {j : Nat} (h1 : a ≤ j) (h2 : j ≤ b) : j < 1460 ∨ zNq (j - 1460) = false := by
  have := List.all_eq_true.mp h (j - a) (List.mem_range.mpr (by omega))
  rw [show a + (j - a) = j by omega] at this
  simpa using this
theorem zfg_at {a b : Nat} (h : zfg a b = true) {j : Nat} (h1 : a ≤ j) (h2 : j ≤ b) : j < 1460 ∨ zNg (j - 1460) = false := by
  have := List.all_eq_true.mp h (j - a) (List.mem_range.mpr (by omega))
  rw [show a + (j - a) = j by omega] at this
  simpa using this
theorem zNw_fr {g g' on : Nat → Int32} (h : zNw g on) {i v : Int32} (he : g' = upd g i.toNatClampNeg v) {a b : Nat} (hd : zfw a b = true) (h1 : (a : Int) ≤ i.toInt) (h2 : i.toInt ≤ b) : zNw g' on := by
  have hc := z_cval (i := i) (by omega)
  refine zNw_same h (fun j hj => ?_)
  rw [he]; unfold upd
  rw [if_neg]
  intro e
  rcases zfw_at hd (j := i.toNatClampNeg) (by omega) (by omega) with q | q
  · omega
  · rw [← e, show 1460 + j - 1460 = j by omega, hj] at q; cases q
theorem zNf_fr {g g' : Nat → Int32} (h : zNf g) {i v : Int32} (he : g' = upd g i.toNatClampNeg v) {a b : Nat} (hd : zfg a b = true) (h1 : (a : Int) ≤ i.toInt) (h2 : i.toInt ≤ b) : zNf g' := by
  have hc := z_cval (i := i) (by omega)
  refine zNf_same h (fun j hj => ?_)
  rw [he]; unfold upd
  rw [if_neg]
  intro e
  rcases zfg_at hd (j := i.toNatClampNeg) (by omega) (by omega) with q | q
  · omega
  · rw [← e, show 1460 + j - 1460 = j by omega, hj] at q; cases q
theorem zN_on9 {g : Nat → Int32} (h : zCt g) {j : Nat} (h1 : 1558 ≤ j) (h2 : j ≤ 1587) : 0 ≤ (g j).toInt ∧ (g j).toInt ≤ 9 := by
  have hk := zck_at (a := 1558) (b := 1587) (lo := 0) (hi := 9) (by decide +kernel) h1 h2
  have := h j (by omega)
  omega
/-- the STEPS of the feature that comes -/
theorem zNw_st {g g' on : Nat → Int32} (h : zNw g on) {i v : Int32} (he : g' = upd g i.toNatClampNeg v) (hi : i.toInt = 1471 + (g 1460).toInt) (h0 : 0 ≤ (g 1460).toInt) (hb : (g 1460).toInt ≤ 2) : zNw g' on := by
  have e := z_updat he (a := (1471 + (g 1460).toInt).toNat) (by omega)
  have hs : ∀ j : Nat, (j : Int) ≠ 1471 + (g 1460).toInt → g' j = g j := fun j hj => by rw [e]; unfold upd; rw [if_neg (by omega)]
  obtain ⟨h1, h2, h3, h4⟩ := h
  refine ⟨fun f hf hl => ?_, fun k f hk hf => ?_, fun r i j hr hl hij hj hj2 => ?_, fun r i hr hl hi hi2 => ?_⟩
  · rw [hs 1460 (by omega)] at hl
    rw [hs (1471 + f) (by omega)]; exact h1 f hf hl
  · rw [hs 1460 (by omega), hs (1525 + 3 * k + f) (by omega)]
    refine ⟨fun hl => ?_, fun hl => (h2 k f hk hf).2 hl⟩
    rw [hs (1471 + f) (by omega)]; exact (h2 k f hk hf).1 hl
  · rw [hs 1462 (by omega)] at hl
    rw [hs (1555 + r) (by omega)] at hj
    rw [hs (1558 + 10 * r + i) (by omega), hs (1558 + 10 * r + j) (by omega)]; exact h3 r i j hr hl hij hj hj2
  · rw [hs 1462 (by omega)] at hl
    rw [hs (1555 + r) (by omega)] at hi
    rw [hs (1558 + 10 * r + i) (by omega), hs 1461 (by omega)]; exact h4 r i hr hl hi hi2
theorem zN_upd {g g' : Nat → Int32} {i v : Int32} (he : g' = upd g i.toNatClampNeg v) {a : Nat} (hi : i.toInt = (a : Int)) : (∀ j, j ≠ a → g' j = g j) ∧ g' a = v := by
  have e := z_updat he hi
  exact ⟨fun j hj => by rw [e]; unfold upd; rw [if_neg hj], by rw [e]; unfold upd; rw [if_pos rfl]⟩
theorem z_updself {g g' : Nat → Int32} {i v : Int32} (he : g' = upd g i.toNatClampNeg v) {a : Nat} (hi : i.toInt = (a : Int)) : (g' a).toInt = v.toInt := by rw [(zN_upd he hi).2]
theorem z_updkeep {g g' : Nat → Int32} {i v : Int32} {a : Nat} {V : Int} (h : (g a).toInt = V) (he : g' = upd g i.toNatClampNeg v) (h0 : 0 ≤ i.toInt) (hi : i.toInt ≠ (a : Int)) : (g' a).toInt = V := by
  rw [(zN_upd he (a := i.toInt.toNat) (by omega)).1 a (by omega)]; exact h
/-- one FEATURE more -/
theorem zNw_fe {g g' on : Nat → Int32} (h : zNw g on) {i v : Int32} (he : g' = upd g i.toNatClampNeg v) (hi : i.toInt = 1460) (hv : v.toInt = (g 1460).toInt + 1) (h0 : 0 ≤ (g 1460).toInt) (hb : (g 1460).toInt ≤ 2) {k : Int} (hk : (g 1460).toInt = k) (hst0 : 2 ≤ (g (1471 + k.toNat)).toInt) : zNw g' on := by
  have hst : 2 ≤ (g (1471 + (g 1460).toInt.toNat)).toInt := by rw [hk]; exact hst0
  obtain ⟨hs, e0⟩ := zN_upd he (a := 1460) hi
  obtain ⟨h1, h2, h3, h4⟩ := h
  refine ⟨fun f hf hl => ?_, fun k f hk hf => ?_, fun r i j hr hl hij hj hj2 => ?_, fun r i hr hl hi hi2 => ?_⟩
  · rw [e0, hv] at hl
    rw [hs (1471 + f) (by omega)]
    by_cases q : (f : Int) < (g 1460).toInt
    · exact h1 f hf q
    · rw [show f = (g 1460).toInt.toNat by omega]; exact hst
  · rw [e0, hv, hs (1525 + 3 * k + f) (by omega), hs (1471 + f) (by omega)]
    refine ⟨fun hl => ?_, fun hl => (h2 k f hk hf).2 (by omega)⟩
    by_cases q : (f : Int) < (g 1460).toInt
    · exact (h2 k f hk hf).1 q
    · exact Or.inl ((h2 k f hk hf).2 (by omega))
  · rw [hs 1462 (by omega)] at hl
    rw [hs (1555 + r) (by omega)] at hj
    rw [hs (1558 + 10 * r + i) (by omega), hs (1558 + 10 * r + j) (by omega)]; exact h3 r i j hr hl hij hj hj2
  · rw [hs 1462 (by omega)] at hl
    rw [hs (1555 + r) (by omega)] at hi
    rw [hs (1558 + 10 * r + i) (by omega), hs 1461 (by omega)]; exact h4 r i hr hl hi hi2
/-- a STEP of a KEY -/
theorem zNw_ks {g g' on : Nat → Int32} (h : zNw g on) {i v : Int32} (he : g' = upd g i.toNatClampNeg v) {k n : Int} (hi : i.toInt = 1525 + 3 * k + n) (h0 : 0 ≤ k) (hk9 : k ≤ 9) (hn0 : 0 ≤ n) (hn : n < (g 1460).toInt) (hn2 : n ≤ 2) (hv : v.toInt < (g (1471 + n.toNat)).toInt) : zNw g' on := by
  obtain ⟨hs, e0⟩ := zN_upd he (a := 1525 + 3 * k.toNat + n.toNat) (by omega)
  obtain ⟨h1, h2, h3, h4⟩ := h
  refine ⟨fun f hf hl => ?_, fun q f hq hf => ?_, fun r i j hr hl hij hj hj2 => ?_, fun r i hr hl hi hi2 => ?_⟩
  · rw [hs 1460 (by omega)] at hl
    rw [hs (1471 + f) (by omega)]; exact h1 f hf hl
  · rw [hs 1460 (by omega), hs (1471 + f) (by omega)]
    by_cases w : 1525 + 3 * q + f = 1525 + 3 * k.toNat + n.toNat
    · rw [w, e0]
      refine ⟨fun _ => Or.inr ?_, fun hl => ?_⟩
      · rw [show f = n.toNat by omega]; exact hv
      · exfalso; omega
    · rw [hs _ w]; exact h2 q f hq hf
  · rw [hs 1462 (by omega)] at hl
    rw [hs (1555 + r) (by omega)] at hj
    rw [hs (1558 + 10 * r + i) (by omega), hs (1558 + 10 * r + j) (by omega)]; exact h3 r i j hr hl hij hj hj2
  · rw [hs 1462 (by omega)] at hl
    rw [hs (1555 + r) (by omega)] at hi
    rw [hs (1558 + 10 * r + i) (by omega), hs 1461 (by omega)]; exact h4 r i hr hl hi hi2
/-- one KEY more -/
theorem zNw_ke {g g' on : Nat → Int32} (h : zNw g on) {i v : Int32} (he : g' = upd g i.toNatClampNeg v) (hi : i.toInt = 1461) (hv : v.toInt = (g 1461).toInt + 1) : zNw g' on := by
  obtain ⟨hs, e0⟩ := zN_upd he (a := 1461) hi
  obtain ⟨h1, h2, h3, h4⟩ := h
  refine ⟨fun f hf hl => ?_, fun k f hk hf => ?_, fun r i j hr hl hij hj hj2 => ?_, fun r i hr hl hi hi2 => ?_⟩
  · rw [hs 1460 (by omega)] at hl
    rw [hs (1471 + f) (by omega)]; exact h1 f hf hl
  · rw [hs 1460 (by omega), hs (1525 + 3 * k + f) (by omega), hs (1471 + f) (by omega)]; exact h2 k f hk hf
  · rw [hs 1462 (by omega)] at hl
    rw [hs (1555 + r) (by omega)] at hj
    rw [hs (1558 + 10 * r + i) (by omega), hs (1558 + 10 * r + j) (by omega)]; exact h3 r i j hr hl hij hj hj2
  · rw [hs 1462 (by omega)] at hl
    rw [hs (1555 + r) (by omega)] at hi
    rw [hs (1558 + 10 * r + i) (by omega), e0, hv]
    have := h4 r i hr hl hi hi2
    exact ⟨by omega, this.2⟩
/-- the KEY that comes is on none -/
theorem zNw_on0 {g on on' : Nat → Int32} (h : zNw g on) (hT : zCt g) {i v : Int32} (he : on' = upd on i.toNatClampNeg v) (hi : i.toInt = (g 1461).toInt) (h0 : 0 ≤ i.toInt) : zNw g on' := by
  have hc := z_cval h0
  obtain ⟨h1, h2, h3, h4⟩ := h
  refine ⟨h1, h2, h3, fun r q hr hl hi' hi2 => ?_⟩
  have := h4 r q hr hl hi' hi2
  have h9 := zN_on9 hT (j := 1558 + 10 * r + q) (by omega) (by omega)
  refine ⟨this.1, ?_⟩
  rw [he]; unfold upd
  rw [if_neg (by omega)]
  exact this.2
theorem zNw_on1 {g on on' : Nat → Int32} (h : zNw g on) {i : Int32} (he : on' = upd on i.toNatClampNeg (vp_nar .boolean 1)) : zNw g on' := by
  obtain ⟨h1, h2, h3, h4⟩ := h
  refine ⟨h1, h2, h3, fun r q hr hl hi' hi2 => ?_⟩
  have := h4 r q hr hl hi' hi2
  refine ⟨this.1, ?_⟩
  rw [he]; unfold upd
  split
  · decide +kernel
  · exact this.2
/-- of the RING that comes: its KEYS, their number -/
theorem zNw_w {g g' on : Nat → Int32} (h : zNw g on) {i v : Int32} (he : g' = upd g i.toNatClampNeg v) {n : Int} (hi : i.toInt = 1558 + 10 * (g 1462).toInt + n) (h0 : 0 ≤ (g 1462).toInt) (h2' : (g 1462).toInt ≤ 2) (hn0 : 0 ≤ n) (hn : n ≤ 9) : zNw g' on := by
  obtain ⟨hs, e0⟩ := zN_upd he (a := (1558 + 10 * (g 1462).toInt + n).toNat) (by omega)
  obtain ⟨h1, h2, h3, h4⟩ := h
  refine ⟨fun f hf hl => ?_, fun k f hk hf => ?_, fun r i j hr hl hij hj hj2 => ?_, fun r i hr hl hi hi2 => ?_⟩
  · rw [hs 1460 (by omega)] at hl
    rw [hs (1471 + f) (by omega)]; exact h1 f hf hl
  · rw [hs 1460 (by omega), hs (1525 + 3 * k + f) (by omega), hs (1471 + f) (by omega)]; exact h2 k f hk hf
  · rw [hs 1462 (by omega)] at hl
    rw [hs (1555 + r) (by omega)] at hj
    rw [hs (1558 + 10 * r + i) (by omega), hs (1558 + 10 * r + j) (by omega)]; exact h3 r i j hr hl hij hj hj2
  · rw [hs 1462 (by omega)] at hl
    rw [hs (1555 + r) (by omega)] at hi
    rw [hs (1558 + 10 * r + i) (by omega), hs 1461 (by omega)]; exact h4 r i hr hl hi hi2
theorem zNw_sz {g g' on : Nat → Int32} (h : zNw g on) {i v : Int32} (he : g' = upd g i.toNatClampNeg v) (hi : i.toInt = 1555 + (g 1462).toInt) (h0 : 0 ≤ (g 1462).toInt) (h2' : (g 1462).toInt ≤ 2) : zNw g' on := by
  obtain ⟨hs, e0⟩ := zN_upd he (a := (1555 + (g 1462).toInt).toNat) (by omega)
  obtain ⟨h1, h2, h3, h4⟩ := h
  refine ⟨fun f hf hl => ?_, fun k f hk hf => ?_, fun r i j hr hl hij hj hj2 => ?_, fun r i hr hl hi hi2 => ?_⟩
  · rw [hs 1460 (by omega)] at hl
    rw [hs (1471 + f) (by omega)]; exact h1 f hf hl
  · rw [hs 1460 (by omega), hs (1525 + 3 * k + f) (by omega), hs (1471 + f) (by omega)]; exact h2 k f hk hf
  · rw [hs 1462 (by omega)] at hl
    rw [hs (1555 + r) (by omega)] at hj
    rw [hs (1558 + 10 * r + i) (by omega), hs (1558 + 10 * r + j) (by omega)]; exact h3 r i j hr hl hij hj hj2
  · rw [hs 1462 (by omega)] at hl
    rw [hs (1555 + r) (by omega)] at hi
    rw [hs (1558 + 10 * r + i) (by omega), hs 1461 (by omega)]; exact h4 r i hr hl hi hi2
/-- the first n KEYS of the RING that comes -/
def zRr (g on : Nat → Int32) (r n : Int) : Prop := (∀ i : Nat, (i : Int) < n → 0 ≤ (g (1558 + 10 * r.toNat + i)).toInt ∧ (g (1558 + 10 * r.toNat + i)).toInt < (g 1461).toInt ∧ (on (g (1558 + 10 * r.toNat + i)).toInt.toNat).toInt = 1) ∧ (∀ i j : Nat, i < j → (j : Int) < n → (g (1558 + 10 * r.toNat + i)).toInt ≠ (g (1558 + 10 * r.toNat + j)).toInt)
theorem zRr_0 {g on : Nat → Int32} {r : Int} : zRr g on r (0 : Int32).toInt := by
  rw [show (0 : Int32).toInt = 0 by decide +kernel]
  exact ⟨fun i h => absurd h (by omega), fun i j _ h => absurd h (by omega)⟩
theorem zRr_room {g on : Nat → Int32} {r n : Int} (h : zRr g on r n) (hT : zCt g) {x y : Int32} (hy : y = on x.toNatClampNeg) (hy0 : y.toInt ≠ 1) (hx0 : 0 ≤ x.toInt) (hx : x.toInt < (g 1461).toInt) (hn0 : 0 ≤ n) : n ≤ 9 := by
  have hK : (g 1461).toInt ≤ 10 := by
    have := hT 1461 (by omega)
    exact Int.le_trans this.2 (by decide)
  have hne : ∀ i : Nat, (i : Int) < n → (g (1558 + 10 * r.toNat + i)).toInt ≠ x.toInt := fun i hi e => by
    have := (h.1 i hi).2.2
    rw [e] at this
    exact hy0 (by rw [hy]; exact this)
  have := zPigeon (g 1461).toInt.toNat (fun i => if (i : Int) < n then (g (1558 + 10 * r.toNat + i)).toInt else x.toInt) (n.toNat + 1) (fun i hi => ?_) (fun i j hij hj => ?_)
  · omega
  · show 0 ≤ (if (i : Int) < n then (g (1558 + 10 * r.toNat + i)).toInt else x.toInt) ∧ (if (i : Int) < n then (g (1558 + 10 * r.toNat + i)).toInt else x.toInt) < _
    split
    · rename_i q; have := h.1 i q; omega
    · omega
  · show (if (i : Int) < n then (g (1558 + 10 * r.toNat + i)).toInt else x.toInt) ≠ (if (j : Int) < n then (g (1558 + 10 * r.toNat + j)).toInt else x.toInt)
    rw [if_pos (by omega)]
    split
    · rename_i q; exact h.2 i j hij q
    · exact hne i (by omega)
theorem zRr_step {g g' on on' : Nat → Int32} {r n : Int} (h : zRr g on r n) {x y i : Int32} (hy : y = on x.toNatClampNeg) (hy0 : y.toInt ≠ 1) (hx0 : 0 ≤ x.toInt) (hx : x.toInt < (g 1461).toInt) (hon : on' = upd on x.toNatClampNeg (vp_nar .boolean 1)) (he : g' = upd g i.toNatClampNeg x) (hi : i.toInt = 1558 + 10 * r + n) (h0 : 0 ≤ r) (hn0 : 0 ≤ n) : zRr g' on' r (n + 1) := by
  obtain ⟨hs, e0⟩ := zN_upd he (a := 1558 + 10 * r.toNat + n.toNat) (by omega)
  have hcx := z_cval hx0
  have hne : ∀ i : Nat, (i : Int) < n → (g (1558 + 10 * r.toNat + i)).toInt ≠ x.toInt := fun i hi e => by
    have := (h.1 i hi).2.2
    rw [e] at this
    exact hy0 (by rw [hy]; exact this)
  refine ⟨fun j hj => ?_, fun a b hab hb => ?_⟩
  · rw [hs 1461 (by omega)]
    by_cases q : (j : Int) = n
    · rw [show 1558 + 10 * r.toNat + j = 1558 + 10 * r.toNat + n.toNat by omega, e0]
      refine ⟨hx0, hx, ?_⟩
      rw [hon]; unfold upd
      rw [if_pos (by omega)]; decide +kernel
    · rw [hs (1558 + 10 * r.toNat + j) (by omega)]
      have := h.1 j (by omega)
      refine ⟨this.1, this.2.1, ?_⟩
      rw [hon]; unfold upd
      split
      · decide +kernel
      · exact this.2.2
  · by_cases q : (b : Int) = n
    · rw [show 1558 + 10 * r.toNat + b = 1558 + 10 * r.toNat + n.toNat by omega, e0, hs (1558 + 10 * r.toNat + a) (by omega)]
      exact hne a (by omega)
    · rw [hs (1558 + 10 * r.toNat + a) (by omega), hs (1558 + 10 * r.toNat + b) (by omega)]
      exact h.2 a b hab (by omega)
/-- one RING more -/
theorem zNw_ri {g g1 g2 on : Nat → Int32} (h : zNw g on) {i v j u : Int32} {n : Int} (he1 : g1 = upd g j.toNatClampNeg u) (hj : j.toInt = 1555 + (g 1462).toInt) (hu : u.toInt = n) (he : g2 = upd g1 i.toNatClampNeg v) (hi : i.toInt = 1462) (hv : v.toInt = (g 1462).toInt + 1) (h0 : 0 ≤ (g 1462).toInt) (h2' : (g 1462).toInt ≤ 2) {k : Int} (hk : (g 1462).toInt = k) (hR0 : zRr g on k n) : zNw g2 on := by
  have hR : zRr g on (g 1462).toInt n := by rw [hk]; exact hR0
  obtain ⟨hs1, e1⟩ := zN_upd he1 (a := (1555 + (g 1462).toInt).toNat) (by omega)
  obtain ⟨hs2, e2⟩ := zN_upd he (a := 1462) hi
  have hs : ∀ q, q ≠ (1555 + (g 1462).toInt).toNat → q ≠ 1462 → g2 q = g q := fun q h3 h4 => by rw [hs2 q h4, hs1 q h3]
  have eS : g2 (1555 + (g 1462).toInt).toNat = u := by rw [hs2 _ (by omega), e1]
  obtain ⟨h1, h2, h3, h4⟩ := h
  refine ⟨fun f hf hl => ?_, fun k f hk hf => ?_, fun r a b hr hl hab hb hb2 => ?_, fun r a hr hl ha ha2 => ?_⟩
  · rw [hs 1460 (by omega) (by omega)] at hl
    rw [hs (1471 + f) (by omega) (by omega)]; exact h1 f hf hl
  · rw [hs 1460 (by omega) (by omega), hs (1525 + 3 * k + f) (by omega) (by omega), hs (1471 + f) (by omega) (by omega)]; exact h2 k f hk hf
  · rw [e2, hv] at hl
    rw [hs (1558 + 10 * r + a) (by omega) (by omega), hs (1558 + 10 * r + b) (by omega) (by omega)]
    by_cases q : (r : Int) = (g 1462).toInt
    · rw [show 1555 + r = (1555 + (g 1462).toInt).toNat by omega, eS, hu] at hb
      rw [show 1558 + 10 * r = 1558 + 10 * (g 1462).toInt.toNat by omega]
      exact hR.2 a b hab hb
    · rw [hs (1555 + r) (by omega) (by omega)] at hb
      exact h3 r a b hr (by omega) hab hb hb2
  · rw [e2, hv] at hl
    rw [hs (1558 + 10 * r + a) (by omega) (by omega), hs 1461 (by omega) (by omega)]
    by_cases q : (r : Int) = (g 1462).toInt
    · rw [show 1555 + r = (1555 + (g 1462).toInt).toNat by omega, eS, hu] at ha
      rw [show 1558 + 10 * r = 1558 + 10 * (g 1462).toInt.toNat by omega]
      exact (hR.1 a ha).2
    · rw [hs (1555 + r) (by omega) (by omega)] at ha
      exact h4 r a hr (by omega) ha ha2
/-- a new FEATURE's row so far -/
def zFt (g : Nat → Int32) (k i : Int) : Prop := ∀ j : Nat, (j : Int) < i → (g (1477 + 16 * k.toNat + j)).toInt = if j % 5 = 0 then 16 else 0
theorem zFt_0 {g : Nat → Int32} {k : Int} : zFt g k (0 : Int32).toInt := by
  rw [show (0 : Int32).toInt = 0 by decide +kernel]
  exact fun j h => absurd h (by omega)
theorem zFt_step {g g' : Nat → Int32} {k i : Int} (h : zFt g k i) {p v : Int32} (he : g' = upd g p.toNatClampNeg v) (hp : p.toInt = 1477 + 16 * k + i) (h0 : 0 ≤ k) (hi : 0 ≤ i) (hv : (i % 5 = 0 ∧ v.toInt = 16) ∨ (i % 5 ≠ 0 ∧ v.toInt = 0)) : zFt g' k (i + 1) := by
  obtain ⟨hs, e0⟩ := zN_upd he (a := 1477 + 16 * k.toNat + i.toNat) (by omega)
  intro j hj
  by_cases q : (j : Int) = i
  · rw [show 1477 + 16 * k.toNat + j = 1477 + 16 * k.toNat + i.toNat by omega, e0]
    rcases hv with ⟨h1, h2⟩ | ⟨h1, h2⟩
    · rw [if_pos (by omega), h2]
    · rw [if_neg (by omega), h2]
  · rw [hs _ (by omega)]; exact h j (by omega)
/-- the row of a FEATURE that isn't there yet -/
theorem zNf_row {g g' : Nat → Int32} (h : zNf g) {p v : Int32} (he : g' = upd g p.toNatClampNeg v) (hp : 1477 + 16 * (g 1460).toInt ≤ p.toInt) (h0 : 0 ≤ (g 1460).toInt) (hp2 : p.toInt ≤ 1524) : zNf g' := by
  obtain ⟨hs, e0⟩ := zN_upd he (a := p.toInt.toNat) (by omega)
  intro f s hf hs' hl
  rw [hs 1460 (by omega)] at hl
  rw [hs _ (by omega), hs _ (by omega), hs _ (by omega), hs _ (by omega)]
  exact h f s hf hs' hl
theorem zNf_fe {g g' : Nat → Int32} (h : zNf g) {i v : Int32} (he : g' = upd g i.toNatClampNeg v) (hi : i.toInt = 1460) (hv : v.toInt = (g 1460).toInt + 1) (h0 : 0 ≤ (g 1460).toInt) (hb : (g 1460).toInt ≤ 2) {k n : Int} (hk : (g 1460).toInt = k) (hn : 16 ≤ n) (hF0 : zFt g k n) : zNf g' := by
  have hF : zFt g (g 1460).toInt 16 := fun j hj => by rw [hk]; exact hF0 j (by omega)
  obtain ⟨hs, e0⟩ := zN_upd he (a := 1460) hi
  intro f s hf hs' hl
  rw [e0, hv] at hl
  rw [hs _ (by omega), hs _ (by omega), hs _ (by omega), hs _ (by omega)]
  by_cases q : (f : Int) < (g 1460).toInt
  · exact h f s hf hs' q
  · have e : f = (g 1460).toInt.toNat := by omega
    have a0 := hF (4 * s) (by omega)
    have a1 := hF (4 * s + 1) (by omega)
    have a2 := hF (4 * s + 2) (by omega)
    have a3 := hF (4 * s + 3) (by omega)
    rw [← e] at a0 a1 a2 a3
    rw [show 1477 + 16 * f + (4 * s) = 1477 + 16 * f + 4 * s by omega] at a0
    rw [show 1477 + 16 * f + (4 * s + 1) = 1477 + 16 * f + 4 * s + 1 by omega] at a1
    rw [show 1477 + 16 * f + (4 * s + 2) = 1477 + 16 * f + 4 * s + 2 by omega] at a2
    rw [show 1477 + 16 * f + (4 * s + 3) = 1477 + 16 * f + 4 * s + 3 by omega] at a3
    rw [a0, a1, a2, a3]
    rcases (show s = 0 ∨ s = 1 ∨ s = 2 ∨ s = 3 by omega) with rfl | rfl | rfl | rfl <;> decide
/-- a row's first m numbers together -/
def zrs (g : Nat → Int32) (b : Nat) : Nat → Int
  | 0 => 0
  | m + 1 => zrs g b m + (g (b + m)).toInt
theorem zrs_same {g g' : Nat → Int32} {b : Nat} : ∀ m : Nat, (∀ j, j < m → g' (b + j) = g (b + j)) → zrs g' b m = zrs g b m
  | 0, _ => rfl
  | m + 1, h => by
    show zrs g' b m + _ = zrs g b m + _
    rw [zrs_same m (fun j hj => h j (by omega)), h m (by omega)]
/-- FEELS of FEATURE k, of w STEPS: n numbers are read, those of the row at hand are s together -/
def zFl (o g : Nat → Int32) (k w n s : Int) : Prop :=
  (∀ j : Nat, ¬ (1477 + 16 * k ≤ (j : Int) ∧ (j : Int) < 1493 + 16 * k) → g j = o j) ∧
  (∀ q v : Nat, q < 4 → v < 4 → w ≤ (q : Int) → g (1477 + 16 * k.toNat + 4 * q + v) = o (1477 + 16 * k.toNat + 4 * q + v)) ∧
  (∀ q : Nat, w * ((q : Int) + 1) ≤ n → zrs g (1477 + 16 * k.toNat + 4 * q) w.toNat = 16) ∧
  (∀ q m : Nat, n = w * (q : Int) + m → 0 < m → (m : Int) < w → zrs g (1477 + 16 * k.toNat + 4 * q) m = s)
theorem zFl_0 {o : Nat → Int32} {k w s : Int} (hw : 2 ≤ w) : zFl o o k w (0 : Int32).toInt s := by
  rw [show (0 : Int32).toInt = 0 by decide +kernel]
  refine ⟨fun _ _ => rfl, fun _ _ _ _ _ => rfl, fun q h => ?_, fun q m h h1 h2 => ?_⟩
  · have : 0 ≤ w * (q : Int) := Int.mul_nonneg (by omega) (by omega)
    rw [Int.mul_add] at h; omega
  · have : 0 ≤ w * (q : Int) := Int.mul_nonneg (by omega) (by omega)
    omega
theorem zFl_step {o g g' : Nat → Int32} {k w n s s' r c : Int} (h : zFl o g k w n s) {p v : Int32} (he : g' = upd g p.toNatClampNeg v) (hw : w = 2 ∨ w = 3 ∨ w = 4) (h0 : 0 ≤ k) (hn0 : 0 ≤ n) (hn : n = w * r + c) (hr0 : 0 ≤ r) (hr : r < w) (hc0 : 0 ≤ c) (hc : c < w) (hp : p.toInt = 1477 + 16 * k + 4 * r + c) (hs' : (c = 0 ∧ s' = v.toInt) ∨ (0 < c ∧ s' = s + v.toInt)) (he16 : c = w - 1 → s' = 16) : zFl o g' k w (n + 1) s' := by
  obtain ⟨hs, e0⟩ := zN_upd he (a := 1477 + 16 * k.toNat + 4 * r.toNat + c.toNat) (by omega)
  obtain ⟨h1, h2, h3, h4⟩ := h
  -- the row at hand with its new number
  have hrow : zrs g' (1477 + 16 * k.toNat + 4 * r.toNat) (c.toNat + 1) = s' := by
    show zrs g' (1477 + 16 * k.toNat + 4 * r.toNat) c.toNat + (g' (1477 + 16 * k.toNat + 4 * r.toNat + c.toNat)).toInt = s'
    rw [zrs_same (g := g) c.toNat (fun j hj => hs _ (by omega)), e0]
    rcases hs' with ⟨hc1, e⟩ | ⟨hc1, e⟩
    · rw [show c.toNat = 0 by omega, e]
      show 0 + _ = _
      omega
    · rw [h4 r.toNat c.toNat (by rw [hn, show ((r.toNat : Nat) : Int) = r by omega]; omega) (by omega) (by omega), e]
  refine ⟨fun j hj => ?_, fun q u hq hu hwq => ?_, fun q hq => ?_, fun q m hq hm1 hm2 => ?_⟩
  · rw [hs _ (by omega)]; exact h1 j hj
  · rw [hs _ (by omega)]; exact h2 q u hq hu hwq
  · by_cases e : (q : Int) = r
    · have ec : c = w - 1 := by
        rw [hn, ← e] at hq
        rcases hw with rfl | rfl | rfl <;> omega
      rw [show q = r.toNat by omega, show w.toNat = c.toNat + 1 by omega, hrow]
      exact he16 ec
    · have hlt : (q : Int) < r := by
        rw [hn] at hq
        rcases hw with rfl | rfl | rfl <;> omega
      rw [zrs_same (g := g) w.toNat (fun j hj => hs _ (by omega))]
      refine h3 q ?_
      rw [hn] at hq ⊢
      rcases hw with rfl | rfl | rfl <;> omega
  · have e : (q : Int) = r := by
      rw [hn] at hq
      rcases hw with rfl | rfl | rfl <;> omega
    have em : (m : Int) = c + 1 := by
      rw [hn, e] at hq; omega
    rw [show q = r.toNat by omega, show m = c.toNat + 1 by omega]
    exact hrow
theorem zFl_end {o g : Nat → Int32} {k w n s : Int} (h : zFl o g k w n s) (hT : zCt g) (hf : zNf o) (hw : w = 2 ∨ w = 3 ∨ w = 4) (h0 : 0 ≤ k) (h2 : k ≤ 2) (hn : w * w ≤ n) : zNf g := by
  obtain ⟨h1, h2', h3, -⟩ := h
  have e60 : g 1460 = o 1460 := h1 _ (by omega)
  intro f s' hf' hs hl
  rw [e60] at hl
  by_cases e : (f : Int) = k
  · by_cases q : (s' : Int) < w
    · have hz := h3 s' (by rcases hw with rfl | rfl | rfl <;> omega)
      have pos : ∀ v, v < 4 → 0 ≤ (g (1477 + 16 * f + 4 * s' + v)).toInt := fun v hv => by
        have hk := zck_at (a := 1477) (b := 1524) (lo := 0) (hi := 16) (by decide +kernel) (j := 1477 + 16 * f + 4 * s' + v) (by omega) (by omega)
        have := hT (1477 + 16 * f + 4 * s' + v) (by omega)
        omega
      have p0 := pos 0 (by omega)
      have p1 := pos 1 (by omega)
      have p2 := pos 2 (by omega)
      have p3 := pos 3 (by omega)
      rw [show k.toNat = f by omega] at hz
      rw [Nat.add_zero] at p0
      rcases hw with rfl | rfl | rfl
      · have : zrs g (1477 + 16 * f + 4 * s') (2 : Int).toNat = 0 + (g (1477 + 16 * f + 4 * s' + 0)).toInt + (g (1477 + 16 * f + 4 * s' + 1)).toInt := rfl
        rw [this, Nat.add_zero] at hz
        omega
      · have : zrs g (1477 + 16 * f + 4 * s') (3 : Int).toNat = 0 + (g (1477 + 16 * f + 4 * s' + 0)).toInt + (g (1477 + 16 * f + 4 * s' + 1)).toInt + (g (1477 + 16 * f + 4 * s' + 2)).toInt := rfl
        rw [this, Nat.add_zero] at hz
        omega
      · have : zrs g (1477 + 16 * f + 4 * s') (4 : Int).toNat = 0 + (g (1477 + 16 * f + 4 * s' + 0)).toInt + (g (1477 + 16 * f + 4 * s' + 1)).toInt + (g (1477 + 16 * f + 4 * s' + 2)).toInt + (g (1477 + 16 * f + 4 * s' + 3)).toInt := rfl
        rw [this, Nat.add_zero] at hz
        omega
    · have r0 := h2' s' 0 hs (by omega) (by omega)
      have r1 := h2' s' 1 hs (by omega) (by omega)
      have r2 := h2' s' 2 hs (by omega) (by omega)
      have r3 := h2' s' 3 hs (by omega) (by omega)
      rw [show k.toNat = f by omega] at r0 r1 r2 r3
      rw [Nat.add_zero] at r0
      rw [r0, r1, r2, r3]
      exact hf f s' hf' hs hl
  · rw [h1 (1477 + 16 * f + 4 * s') (by omega), h1 (1477 + 16 * f + 4 * s' + 1) (by omega), h1 (1477 + 16 * f + 4 * s' + 2) (by omega), h1 (1477 + 16 * f + 4 * s' + 3) (by omega)]
    exact hf f s' hf' hs hl
/-- an empty block -/
def zEm (g : Nat → Int32) (a i : Int) : Prop := ∀ j : Nat, (j : Int) < i → (g (a.toNat + j)).toInt = 0
theorem zEm_0 {g : Nat → Int32} {a : Int} : zEm g a (0 : Int32).toInt := by
  rw [show (0 : Int32).toInt = 0 by decide +kernel]
  exact fun j h => absurd h (by omega)
theorem zEm_step {g g' : Nat → Int32} {a i : Int} (h : zEm g a i) {p v : Int32} (he : g' = upd g p.toNatClampNeg v) (hp : p.toInt = a + i) (h0 : 0 ≤ a) (hi : 0 ≤ i) (hv : v.toInt = 0) : zEm g' a (i + 1) := by
  obtain ⟨hs, e0⟩ := zN_upd he (a := a.toNat + i.toNat) (by omega)
  intro j hj
  by_cases q : (j : Int) = i
  · rw [show a.toNat + j = a.toNat + i.toNat by omega, e0]; exact hv
  · rw [hs _ (by omega)]; exact h j (by omega)
theorem zEm_new {g on : Nat → Int32} (h : zEm g 1460 180) : zNw g on ∧ zNf g := by
  have e : ∀ j : Nat, 1460 ≤ j → j < 1640 → (g j).toInt = 0 := fun j h1 h2 => by
    have := h (j - 1460) (by omega)
    rw [show (1460 : Int).toNat + (j - 1460) = j by omega] at this
    exact this
  refine ⟨⟨fun f hf hl => ?_, fun k f hk hf => ?_, fun r i j hr hl hij hj hj2 => ?_, fun r i hr hl hi hi2 => ?_⟩, fun f s hf hs hl => ?_⟩
  · rw [e 1460 (by omega) (by omega)] at hl; omega
  · exact ⟨fun _ => Or.inl (e _ (by omega) (by omega)), fun _ => e _ (by omega) (by omega)⟩
  · rw [e 1462 (by omega) (by omega)] at hl; omega
  · rw [e 1462 (by omega) (by omega)] at hl; omega
  · rw [e 1460 (by omega) (by omega)] at hl; omega
theorem zEm_bl {g : Nat → Int32} {a : Nat} (h : ∀ j, j < 128 → (g (a + j)).toInt = 0) : zBl g a := by
  refine ⟨fun f s hf hs hl => ?_, fun k f hk hf => ?_, fun f hf hl => ?_, fun r i j hr hl hij hj hj2 => ?_, fun r i hr hl hi hi2 => ?_⟩
  · have := h 0 (by omega); rw [Nat.add_zero] at this; omega
  · refine Or.inl ?_
    rw [show a + 65 + 3 * k + f = a + (65 + 3 * k + f) by omega]; exact h _ (by omega)
  · have := h 0 (by omega); rw [Nat.add_zero] at this; omega
  · have := h 2 (by omega); omega
  · have := h 2 (by omega); omega
theorem zNw_bl {g on : Nat → Int32} (h : zNw g on) (hf : zNf g) : zBl g 1460 := by
  obtain ⟨h1, h2, h3, h4⟩ := h
  refine ⟨fun f s hf' hs hl => hf f s hf' hs hl, fun k f hk hf' => ?_, fun f hf' hl => h1 f hf' hl, fun r i j hr hl hij hj hj2 => h3 r i j hr hl hij hj hj2, fun r i hr hl hi hi2 => (h4 r i hr hl hi hi2).1⟩
  by_cases q : (f : Int) < (g 1460).toInt
  · exact (h2 k f hk hf').1 q
  · exact Or.inl ((h2 k f hk hf').2 (by omega))
def zcn (g : Nat → Int32) (k : Int32) (d : Int) : Int32 := ((g (133 + d.toNat)) >>> (k &&& 31)) &&& 1
theorem zcn_of {g : Nat → Int32} {k x y z p : Int32} {d : Int} (hx : x = g p.toNatClampNeg) (hp : p.toInt = 133 + d) (h0 : 0 ≤ d) (hy : y = x >>> (k &&& 31)) (hz : z = y &&& 1) : z = zcn g k d := by
  unfold zcn
  rw [hz, hy, z_at hx (a := 133 + d.toNat) (by omega)]
/-- one of a row's first n KEYS opens a DOOR -/
def zop (g t : Nat → Int32) (n d : Int) : Prop := ∃ i : Nat, (i : Int) < n ∧ (zcn g (t i) d).toInt = 1
/-- a DOOR is WANTED that one of them opens -/
def zMB (g t : Nat → Int32) (n : Int) : Prop := ∃ d : Nat, (d : Int) < (g 3).toInt ∧ 0 < (g (128 + d)).toInt ∧ zop g t n d
/-- none of those that were passed opens it: from a place on with a way, so many -/
def zNp (g t : Nat → Int32) (n d p w m : Int) : Prop := ∀ i : Nat, (i : Int) < n → ((w = 0 ∧ ((p ≤ (i : Int) ∧ (i : Int) < p + m) ∨ (i : Int) + n < p + m)) ∨ (w = 1 ∧ (((i : Int) ≤ p ∧ p < (i : Int) + m) ∨ p + n < (i : Int) + m))) → (zcn g (t i) d).toInt ≠ 1
theorem zNp_0 {g t : Nat → Int32} {n d p w : Int} (hp : 0 ≤ p) (hpn : n ≤ 0 ∨ p < n) : zNp g t n d p w (0 : Int32).toInt := by
  rw [show (0 : Int32).toInt = 0 by decide +kernel]
  intro i hi h
  exfalso
  omega
/-- where one is behind m of them -/
def zPl (n p w m q : Int) : Prop := (w = 0 ∧ (q = p + m ∨ q = p + m - n)) ∨ (w = 1 ∧ (q = p - m ∨ q = p - m + n))
theorem zNp_step {g t : Nat → Int32} {n d p w m q : Int} (h : zNp g t n d p w m) (hq : zPl n p w m q) (hq0 : 0 ≤ q) (hqn : q < n) {k j : Int32} (hk : k = t j.toNatClampNeg) (hj : j.toInt = q) (hne : (zcn g k d).toInt ≠ 1) (hm0 : 0 ≤ m) (hmn : m < n) (hp0 : 0 ≤ p) (hpn : p < n) : zNp g t n d p w (m + 1) := by
  have e := z_at hk (a := q.toNat) (by omega)
  intro i hi hh
  by_cases x : (i : Int) = q
  · rw [show i = q.toNat by omega, ← e]; exact hne
  · refine h i hi ?_
    unfold zPl at hq
    omega
theorem zNp_all {g t : Nat → Int32} {n d p w m : Int} (h : zNp g t n d p w m) (hm : n ≤ m) (hw : w = 0 ∨ w = 1) (hp0 : 0 ≤ p) (hpn : n ≤ 0 ∨ p < n) : ¬ zop g t n d := by
  rintro ⟨i, hi, hz⟩
  refine h i hi ?_ hz
  omega
/-- among the first DOORS one -/
def zMd (g t : Nat → Int32) (n e : Int) : Prop := ∃ d : Nat, (d : Int) < e ∧ 0 < (g (128 + d)).toInt ∧ zop g t n d
theorem zMd_0 {g t : Nat → Int32} {n : Int} : ¬ zMd g t n (0 : Int32).toInt := by
  rw [show (0 : Int32).toInt = 0 by decide +kernel]
  rintro ⟨d, h, -⟩
  omega
theorem zMd_yes {g t : Nat → Int32} {n e b b' : Int} {x p : Int32} (h : (1 ≤ b ∧ zMd g t n e) ∨ (b = 0 ∧ ¬ zMd g t n e)) (hx : x = g p.toNatClampNeg) (hp : p.toInt = 128 + e) (h0 : 0 ≤ e) (hz : zop g t n e) (hx0 : 0 ≤ x.toInt) (hb : b' = b + x.toInt) : (1 ≤ b' ∧ zMd g t n (e + 1)) ∨ (b' = 0 ∧ ¬ zMd g t n (e + 1)) := by
  have ex := z_at hx (a := 128 + e.toNat) (by omega)
  by_cases q : 0 < x.toInt
  · refine Or.inl ⟨by rcases h with h | h <;> omega, e.toNat, by omega, ?_, ?_⟩
    · rw [← ex]; exact q
    · rw [show ((e.toNat : Nat) : Int) = e by omega]; exact hz
  · rcases h with ⟨h1, d, h2, h3⟩ | ⟨h1, h2⟩
    · exact Or.inl ⟨by omega, d, by omega, h3⟩
    · refine Or.inr ⟨by omega, fun ⟨d, h3, h4, h5⟩ => ?_⟩
      by_cases y : (d : Int) = e
      · rw [show d = e.toNat by omega, ← ex] at h4; omega
      · exact h2 ⟨d, by omega, h4, h5⟩
theorem zMd_no {g t : Nat → Int32} {n e b : Int} (h : (1 ≤ b ∧ zMd g t n e) ∨ (b = 0 ∧ ¬ zMd g t n e)) (h0 : 0 ≤ e) (hz : ¬ zop g t n e) : (1 ≤ b ∧ zMd g t n (e + 1)) ∨ (b = 0 ∧ ¬ zMd g t n (e + 1)) := by
  rcases h with ⟨h1, d, h2, h3⟩ | ⟨h1, h2⟩
  · exact Or.inl ⟨h1, d, by omega, h3⟩
  · refine Or.inr ⟨h1, fun ⟨d, h3, h4, h5⟩ => ?_⟩
    by_cases y : (d : Int) = e
    · rw [y] at h5; exact hz h5
    · exact h2 ⟨d, by omega, h4, h5⟩
theorem zMd_end {g t : Nat → Int32} {n e b : Int} (h : (1 ≤ b ∧ zMd g t n e) ∨ (b = 0 ∧ ¬ zMd g t n e)) (he : e = (g 3).toInt) : (1 ≤ b ∧ zMB g t n) ∨ (b = 0 ∧ ¬ zMB g t n) := by
  subst he; exact h
/-- the first n of a row are those of another -/
def zEq (t u : Nat → Int32) (n : Int) : Prop := ∀ j : Nat, (j : Int) < n → t j = u j
theorem zEq_0 {t u : Nat → Int32} : zEq t u (0 : Int32).toInt := by
  rw [show (0 : Int32).toInt = 0 by decide +kernel]
  exact fun j h => absurd h (by omega)
theorem zEq_step {t t' u : Nat → Int32} {n : Int} (h : zEq t u n) {i v j : Int32} (he : t' = upd t i.toNatClampNeg v) (hi : i.toInt = n) (h0 : 0 ≤ n) (hv : v = u j.toNatClampNeg) (hj : j.toInt = n) : zEq t' u (n + 1) := by
  obtain ⟨hs, e0⟩ := zN_upd he (a := n.toNat) (by omega)
  have ev := z_at hv (a := n.toNat) (by omega)
  intro q hq
  by_cases x : (q : Int) = n
  · rw [show q = n.toNat by omega, e0, ev]
  · rw [hs q (by omega)]; exact h q (by omega)
theorem zEq_less {t u : Nat → Int32} {n m : Int} (h : zEq t u n) (hm : m ≤ n) : zEq t u m := fun j hj => h j (by omega)
theorem zMB_eq {g t u : Nat → Int32} {n : Int} (h : zEq t u n) (hm : zMB g u n) : zMB g t n := by
  obtain ⟨d, h1, h2, i, h3, h4⟩ := hm
  exact ⟨d, h1, h2, i, h3, by rw [h i h3]; exact h4⟩
/-- a row's first n are unlike each other -/
def zDi (t : Nat → Int32) (n : Int) : Prop := ∀ i j : Nat, i < j → (j : Int) < n → (t i).toInt ≠ (t j).toInt
/-- each of a row's first m is among another one's first n -/
def zAm (t u : Nat → Int32) (m n : Int) : Prop := ∀ i : Nat, (i : Int) < m → ∃ j : Nat, (j : Int) < n ∧ (u j).toInt = (t i).toInt
/-- an order is all of them: who opens is among them -/
theorem zMB_perm {g t u : Nat → Int32} {n : Int} (hn : 0 ≤ n) (hd : zDi t n) (ha : zAm t u n n) (hm : zMB g u n) : zMB g t n := by
  obtain ⟨d, h1, h2, i, h3, h4⟩ := hm
  refine ⟨d, h1, h2, ?_⟩
  -- some place of t holds u i: else n unlike ones among n less one
  by_cases hx : ∃ j : Nat, (j : Int) < n ∧ (t j).toInt = (u i).toInt
  · obtain ⟨j, hj, e⟩ := hx
    exact ⟨j, hj, by rw [Int32.toInt_inj.mp e]; exact h4⟩
  · exfalso
    -- where each of t lies in u, i left out
    have pick : ∀ a : Nat, ∃ b : Nat, (a : Int) < n → ((b : Int) < n ∧ (u b).toInt = (t a).toInt) := fun a => by
      by_cases q : (a : Int) < n
      · obtain ⟨b, hb, e⟩ := ha a q; exact ⟨b, fun _ => ⟨hb, e⟩⟩
      · exact ⟨0, fun h => absurd h q⟩
    obtain ⟨F, hf⟩ : ∃ F : Nat → Nat, ∀ a : Nat, (a : Int) < n → ((F a : Nat) : Int) < n ∧ (u (F a)).toInt = (t a).toInt := ⟨fun a => Classical.choose (pick a), fun a h => Classical.choose_spec (pick a) h⟩
    have hne : ∀ a : Nat, (a : Int) < n → F a ≠ i := fun a h e => hx ⟨a, h, by rw [← (hf a h).2, e]⟩
    have := zPigeon (n.toNat - 1) (fun a => if ((F a : Nat) : Int) < (i : Int) then ((F a : Nat) : Int) else ((F a : Nat) : Int) - 1) n.toNat (fun a ha' => ?_) (fun a b hab hb => ?_)
    · omega
    · have h5 := hf a (by omega)
      have h6 := hne a (by omega)
      show 0 ≤ (if ((F a : Nat) : Int) < (i : Int) then ((F a : Nat) : Int) else ((F a : Nat) : Int) - 1) ∧ (if ((F a : Nat) : Int) < (i : Int) then ((F a : Nat) : Int) else ((F a : Nat) : Int) - 1) < ((n.toNat - 1 : Nat) : Int)
      split <;> omega
    · have h5 := hf a (by omega)
      have h6 := hf b (by omega)
      have h7 := hne a (by omega)
      have h8 := hne b (by omega)
      have h9 : F a ≠ F b := fun e => by
        rw [e] at h5
        exact hd a b hab (by omega) (h5.2.symm.trans h6.2)
      show (if ((F a : Nat) : Int) < (i : Int) then ((F a : Nat) : Int) else ((F a : Nat) : Int) - 1) ≠ (if ((F b : Nat) : Int) < (i : Int) then ((F b : Nat) : Int) else ((F b : Nat) : Int) - 1)
      split <;> split <;> omega
/-- with fewer than all there is one more -/
theorem zMore {t u : Nat → Int32} {m n : Int} (h0 : 0 ≤ m) (hmn : m < n) (hd : zDi u n) : ∃ i : Nat, (i : Int) < n ∧ ∀ j : Nat, (j : Int) < m → (t j).toInt ≠ (u i).toInt := by
  by_cases hx : ∃ i : Nat, (i : Int) < n ∧ ∀ j : Nat, (j : Int) < m → (t j).toInt ≠ (u i).toInt
  · exact hx
  · exfalso
    have pick : ∀ a : Nat, ∃ b : Nat, (a : Int) < n → ((b : Int) < m ∧ (t b).toInt = (u a).toInt) := fun a => by
      by_cases q : (a : Int) < n
      · by_cases y : ∃ b : Nat, (b : Int) < m ∧ (t b).toInt = (u a).toInt
        · obtain ⟨b, hb⟩ := y; exact ⟨b, fun _ => hb⟩
        · exact absurd ⟨a, q, fun j hj e => y ⟨j, hj, e⟩⟩ hx
      · exact ⟨0, fun h => absurd h q⟩
    have hf : ∀ a : Nat, (a : Int) < n → ((Classical.choose (pick a) : Nat) : Int) < m ∧ (t (Classical.choose (pick a))).toInt = (u a).toInt := fun a h => Classical.choose_spec (pick a) h
    have := zPigeon m.toNat (fun a => ((Classical.choose (pick a) : Nat) : Int)) n.toNat (fun a ha' => ?_) (fun a b hab hb => ?_)
    · omega
    · have h5 := hf a (by omega)
      show 0 ≤ ((Classical.choose (pick a) : Nat) : Int) ∧ ((Classical.choose (pick a) : Nat) : Int) < _
      omega
    · have h5 := hf a (by omega)
      have h6 := hf b (by omega)
      show ((Classical.choose (pick a) : Nat) : Int) ≠ ((Classical.choose (pick b) : Nat) : Int)
      intro e
      have e' : Classical.choose (pick a) = Classical.choose (pick b) := by omega
      rw [e'] at h5
      exact hd a b hab (by omega) (h5.2.symm.trans h6.2)
/-- it isn't among the first n -/
def zNt (t : Nat → Int32) (k n : Int) : Prop := ∀ j : Nat, (j : Int) < n → (t j).toInt ≠ k
theorem zNt_0 {t : Nat → Int32} {k : Int} : zNt t k (0 : Int32).toInt := by
  rw [show (0 : Int32).toInt = 0 by decide +kernel]
  exact fun j h => absurd h (by omega)
theorem zNt_step {t : Nat → Int32} {k n : Int} (h : zNt t k n) {x i : Int32} (hx : x = t i.toNatClampNeg) (hi : i.toInt = n) (h0 : 0 ≤ n) (hne : x.toInt ≠ k) : zNt t k (n + 1) := fun j hj => by
  by_cases q : (j : Int) = n
  · rw [show j = n.toNat by omega, ← z_at hx (a := n.toNat) (by omega)]; exact hne
  · exact h j (by omega)
/-- it is among them -/
def zIt (t : Nat → Int32) (k n : Int) : Prop := ∃ j : Nat, (j : Int) < n ∧ (t j).toInt = k
theorem zIt_of {t : Nat → Int32} {k n m : Int} {x i : Int32} (hx : x = t i.toNatClampNeg) (hi : i.toInt = m) (h0 : 0 ≤ m) (hn : m < n) (he : x.toInt = k) : zIt t k n := ⟨m.toNat, by omega, by rw [← z_at hx (a := m.toNat) (by omega)]; exact he⟩
theorem zNt_end {t : Nat → Int32} {k n m : Int} (h : zNt t k m) (hn : n ≤ m) : zNt t k n := fun j hj => h j (by omega)
/-- one more in the order -/
theorem zDi_add {t t' : Nat → Int32} {m : Int} (h : zDi t m) {i v : Int32} (he : t' = upd t i.toNatClampNeg v) (hi : i.toInt = m) (h0 : 0 ≤ m) (hn : zNt t v.toInt m) : zDi t' (m + 1) := by
  obtain ⟨hs, e0⟩ := zN_upd he (a := m.toNat) (by omega)
  intro a b hab hb
  by_cases q : (b : Int) = m
  · rw [show b = m.toNat by omega, e0, hs a (by omega)]; exact hn a (by omega)
  · rw [hs a (by omega), hs b (by omega)]; exact h a b hab (by omega)
theorem zAm_add {t t' u : Nat → Int32} {m n : Int} (h : zAm t u m n) {i v : Int32} (he : t' = upd t i.toNatClampNeg v) (hi : i.toInt = m) (h0 : 0 ≤ m) (hn : zIt u v.toInt n) : zAm t' u (m + 1) n := by
  obtain ⟨hs, e0⟩ := zN_upd he (a := m.toNat) (by omega)
  intro a ha
  by_cases q : (a : Int) = m
  · rw [show a = m.toNat by omega, e0]; exact hn
  · rw [hs a (by omega)]; exact h a (by omega)
theorem zEq_keep {t t' t2 : Nat → Int32} {m : Int} {i v : Int32} (he : t' = upd t i.toNatClampNeg v) (hi : i.toInt = m) (h0 : 0 ≤ m) (h : zEq t2 t' (m + 1)) : zEq t2 t m := fun j hj => by
  obtain ⟨hs, e0⟩ := zN_upd he (a := m.toNat) (by omega)
  rw [h j (by omega), hs j (by omega)]
theorem zEq_refl {t : Nat → Int32} {m : Int} : zEq t t m := fun _ _ => rfl
theorem zEq_trans {t u v : Nat → Int32} {m : Int} (h : zEq t u m) (h' : zEq u v m) : zEq t v m := fun j hj => (h j hj).trans (h' j hj)
theorem zDi_eq {t u : Nat → Int32} {m : Int} (h : zEq t u m) (hd : zDi u m) : zDi t m := fun a b hab hb => by rw [h a (by omega), h b hb]; exact hd a b hab hb
theorem zAm_eq {t u w : Nat → Int32} {m n : Int} (h : zEq t u m) (hd : zAm u w m n) : zAm t w m n := fun a ha => by rw [h a ha]; exact hd a ha
theorem zNt_eq {t u : Nat → Int32} {k m : Int} (h : zEq t u m) (hd : zNt u k m) : zNt t k m := fun a ha => by rw [h a ha]; exact hd a ha
/-- KEYS that are gathered: unlike each other, none from the i-th on, all below -/
def zGd (g t : Nat → Int32) (r m i : Int) : Prop := (∀ a b : Nat, a < b → (b : Int) < m → (t a).toInt ≠ (t b).toInt) ∧ (∀ a : Nat, (a : Int) < m → 0 ≤ (t a).toInt ∧ (t a).toInt < (g 1).toInt ∧ ∀ j : Nat, i ≤ (j : Int) → (j : Int) < (g (95 + r.toNat)).toInt → (t a).toInt ≠ (g (98 + 10 * r.toNat + j)).toInt)
theorem zGd_0 {g t : Nat → Int32} {r : Int} {i : Int} : zGd g t r (0 : Int32).toInt i := by
  rw [show (0 : Int32).toInt = 0 by decide +kernel]
  exact ⟨fun a b _ h => absurd h (by omega), fun a h => absurd h (by omega)⟩
theorem zGd_skip {g t : Nat → Int32} {r m i : Int} (h : zGd g t r m i) : zGd g t r m (i + 1) := ⟨h.1, fun a ha => ⟨(h.2 a ha).1, (h.2 a ha).2.1, fun j hj hj2 => (h.2 a ha).2.2 j (by omega) hj2⟩⟩
theorem zGd_add {g t t' : Nat → Int32} {r m i : Int} (hC : zC g) (h : zGd g t r m i) (h0 : 0 ≤ r) (h2 : r ≤ 2) (hr : r < (g 2).toInt) {k p q : Int32} (hk : k = g p.toNatClampNeg) (hp : p.toInt = 98 + 10 * r + i) (hi0 : 0 ≤ i) (hiS : i < (g (95 + r.toNat)).toInt) (ht : t' = upd t q.toNatClampNeg k) (hq : q.toInt = m) (hm0 : 0 ≤ m) : zGd g t' r (m + 1) (i + 1) := by
  obtain ⟨hs, e0⟩ := zN_upd ht (a := m.toNat) (by omega)
  have ek := z_at hk (a := 98 + 10 * r.toNat + i.toNat) (by omega)
  refine ⟨fun a b hab hb => ?_, fun a ha => ?_⟩
  · by_cases x : (b : Int) = m
    · rw [show b = m.toNat by omega, e0, hs a (by omega), ek]
      exact (h.2 a (by omega)).2.2 i.toNat (by omega) (by omega)
    · rw [hs a (by omega), hs b (by omega)]; exact h.1 a b hab (by omega)
  · by_cases x : (a : Int) = m
    · rw [show a = m.toNat by omega, e0, ek]
      have hz := zC_size hC.1 (r := r.toNat) (by omega)
      have h9 := zC_on hC.1 (j := 98 + 10 * r.toNat + i.toNat) (by omega) (by omega)
      refine ⟨h9.1, zC_key hC (by omega) (by omega) (by omega), fun j hj hj2 => ?_⟩
      exact zC_dis hC (by omega) (by omega) (show i.toNat < j by omega) hj2
    · rw [hs a (by omega)]
      have := h.2 a (by omega)
      exact ⟨this.1, this.2.1, fun j hj hj2 => this.2.2 j (by omega) hj2⟩
theorem zGk_of {g t : Nat → Int32} {r m i : Int} (h : zGd g t r m i) : zDi t m ∧ ∀ j : Nat, (j : Int) < m → 0 ≤ (t j).toInt ∧ (t j).toInt < (g 1).toInt := ⟨h.1, fun j hj => ⟨(h.2 j hj).1, (h.2 j hj).2.1⟩⟩
theorem zMB_pos {g t : Nat → Int32} {n : Int} (h : zMB g t n) : 1 ≤ n := by
  obtain ⟨d, -, -, i, hi, -⟩ := h
  omega
theorem zMB_nil {g t : Nat → Int32} {n : Int} (h : n ≤ 0) : ¬ zMB g t n := fun x => by have := zMB_pos x; omega
theorem zMd_nil {g t : Nat → Int32} {n e b : Int} (h : (1 ≤ b ∧ zMd g t n e) ∨ (b = 0 ∧ ¬ zMd g t n e)) (hn : n ≤ 0) : (1 ≤ b ∧ zMB g t n) ∨ (b = 0 ∧ ¬ zMB g t n) := by
  rcases h with ⟨-, d, -, -, i, hi, -⟩ | ⟨h1, -⟩
  · omega
  · exact Or.inr ⟨h1, zMB_nil hn⟩
theorem zC_3 {g : Nat → Int32} (h : zCt g) : 0 ≤ (g 3).toInt ∧ (g 3).toInt ≤ 5 := by
  have := h 3 (by omega)
  exact ⟨Int.le_trans (by decide) this.1, Int.le_trans this.2 (by decide)⟩
theorem z_rem2 {z a b : Int32} (he : z = a - a / b * b) (h0 : 0 ≤ a.toInt) (h1 : 1 ≤ b.toInt) (h2 : a.toInt < 2 * b.toInt) : (a.toInt < b.toInt ∧ z.toInt = a.toInt) ∨ (b.toInt ≤ a.toInt ∧ z.toInt = a.toInt - b.toInt) := by
  have hz := z_remq he rfl rfl h0 (by omega)
  by_cases q : a.toInt < b.toInt
  · exact Or.inl ⟨q, by rw [hz, Int.emod_eq_of_lt h0 q]⟩
  · refine Or.inr ⟨by omega, ?_⟩
    rw [hz]
    have e : a.toInt % b.toInt = (a.toInt - b.toInt) % b.toInt := by rw [Int.sub_emod_right]
    rw [e, Int.emod_eq_of_lt (by omega) (by omega)]
/-- an order in the making -/
def zOK (g b t : Nat → Int32) (m n : Int) : Prop := zMB g b n ∧ zDi b n ∧ (∀ j : Nat, (j : Int) < n → 0 ≤ (b j).toInt ∧ (b j).toInt < (g 1).toInt) ∧ zDi t m ∧ zAm t b m n
theorem zOK_perm {g b t : Nat → Int32} {m n : Int} (h : zOK g b t m n) (hm : m = n) (h0 : 0 ≤ n) : zMB g t n := by
  subst hm
  exact zMB_perm h0 h.2.2.2.1 h.2.2.2.2 h.1
theorem zOK_add {g b t t1 t2 : Nat → Int32} {m n : Int} (h : zOK g b t m n) (he : zEq t1 t m) {i v : Int32} (hu : t2 = upd t1 i.toNatClampNeg v) (hi : i.toInt = m) (h0 : 0 ≤ m) (hn : zNt t1 v.toInt m) (hit : zIt b v.toInt n) : zOK g b t2 (m + 1) n := ⟨h.1, h.2.1, h.2.2.1, zDi_add (zDi_eq he h.2.2.2.1) hu hi h0 hn, zAm_add (zAm_eq he h.2.2.2.2) hu hi h0 hit⟩
theorem zOK_0 {g b t u : Nat → Int32} {n : Int} (he : zEq b u n) (hm : zMB g u n) (hk : zDi u n ∧ ∀ j : Nat, (j : Int) < n → 0 ≤ (u j).toInt ∧ (u j).toInt < (g 1).toInt) : zOK g b t (0 : Int32).toInt n := by
  rw [show (0 : Int32).toInt = 0 by decide +kernel]
  exact ⟨zMB_eq he hm, zDi_eq he hk.1, fun j hj => by rw [he j hj]; exact hk.2 j hj, fun i j _ h => absurd h (by omega), fun i h => absurd h (by omega)⟩
/-- a KEY to come that isn't in the order yet -/
def zRest (b t : Nat → Int32) (K m n i : Int) : Prop := ∃ k : Int, i ≤ k ∧ k < K ∧ zIt b k n ∧ zNt t k m
theorem zRest_0 {g b t : Nat → Int32} {m n : Int} (h : zOK g b t m n) (h0 : 0 ≤ m) (hmn : m < n) : zRest b t (g 1).toInt m n (0 : Int32).toInt := by
  rw [show (0 : Int32).toInt = 0 by decide +kernel]
  obtain ⟨i, hi, hj⟩ := zMore (t := t) h0 hmn h.2.1
  exact ⟨(b i).toInt, (h.2.2.1 i hi).1, (h.2.2.1 i hi).2, ⟨i, hi, rfl⟩, hj⟩
theorem zRest_no {b t : Nat → Int32} {K m n i : Int} (h : zRest b t K m n i) (hn : zNt b i n) : zRest b t K m n (i + 1) := by
  obtain ⟨k, h1, h2, ⟨j, h3, h4⟩, h5⟩ := h
  refine ⟨k, ?_, h2, ⟨j, h3, h4⟩, h5⟩
  have : k ≠ i := fun e => hn j h3 (by rw [h4, e])
  omega
theorem zRest_used {b t t1 : Nat → Int32} {K m n i : Int} (h : zRest b t K m n i) (he : zEq t1 t m) (hn : zIt t1 i m) : zRest b t K m n (i + 1) := by
  obtain ⟨k, h1, h2, h3, h5⟩ := h
  obtain ⟨j, h6, h7⟩ := hn
  refine ⟨k, ?_, h2, h3, h5⟩
  have : k ≠ i := fun e => h5 j h6 (by rw [← he j h6, h7, e])
  omega
theorem zRest_end {b t : Nat → Int32} {K m n i : Int} (h : zRest b t K m n i) (hi : K ≤ i) : False := by
  obtain ⟨k, h1, h2, -⟩ := h
  omega
/-- a fresh c -/
theorem zC_Z : zC (fun _ => 0) := by
  have e : (0 : Int32).toInt = 0 := by decide +kernel
  have hT : zCt (fun _ => 0) := fun j hj => by
    have := zcw_at (a := 0) (b := 1824) (lo := 0) (hi := 0) (by decide +kernel) (Nat.zero_le j) (by omega)
    show tLo j ≤ (0 : Int32).toInt ∧ (0 : Int32).toInt ≤ tHi j
    rw [e]; exact this
  have hB : ∀ o, zBl (fun _ => 0) o := fun o => zEm_bl (fun j _ => e)
  exact ⟨hT, hB _, hB _, hB _, hB _⟩
/-- block 0 with what is related all 0, the others as they were -/
def zEz (o g : Nat → Int32) : Prop := (∀ j, zRo j = true → (g j).toInt = 0) ∧ ∀ j, 365 ≤ j → g j = o j
theorem zEz_zC {o g : Nat → Int32} (hC : zC o) (hT : zCt g) (h : zEz o g) : zC g := by
  have hB : ∀ b, 365 ≤ b → zBl o b → zBl g b := fun b hb hz => zBl_same hz (fun j _ => h.2 _ (by omega))
  refine ⟨hT, ?_, hB 365 (by omega) hC.2.2.1, hB 730 (by omega) hC.2.2.2.1, hB 1095 (by omega) hC.2.2.2.2⟩
  have e0 : (g 0).toInt = 0 := h.1 0 (by decide)
  have e2 : (g 2).toInt = 0 := h.1 2 (by decide)
  refine ⟨fun f s hf hs hl => ?_, fun k f hk hf => Or.inl (h.1 _ ?_), fun f hf hl => ?_, fun r i j hr hl hij hj hj2 => ?_, fun r i hr hl hi hi2 => ?_⟩
  · omega
  · simp only [zRo, Bool.or_eq_true, Bool.and_eq_true, decide_eq_true_eq]; omega
  · omega
  · rw [show 0 + 2 = 2 from rfl] at hl; omega
  · rw [show 0 + 2 = 2 from rfl] at hl; omega
theorem zEz_of {o g : Nat → Int32} {i : Int} (h : zEm g 0 i) (hi : 180 ≤ i) (hs : ∀ j : Nat, i ≤ (j : Int) → g j = o j) (h2 : i ≤ 365) : zEz o g := ⟨fun j hj => by
  have := zRo_lt hj
  have h3 := h j (by omega)
  rw [show (0 : Int).toNat + j = j from Nat.zero_add j] at h3
  exact h3, fun j hj => hs j (by omega)⟩
theorem zEz_fr {o g g' : Nat → Int32} (h : zEz o g) {i v : Int32} (he : g' = upd g i.toNatClampNeg v) {a : Nat} (hi : i.toNatClampNeg = a) (ha : zRo a = false) (ha2 : a < 365) : zEz o g' := by
  refine ⟨fun j hj => ?_, fun j hj => ?_⟩
  · rw [he, hi]; unfold upd
    rw [if_neg (fun e => by rw [e, ha] at hj; cases hj)]
    exact h.1 j hj
  · rw [he, hi]; unfold upd
    rw [if_neg (by omega)]; exact h.2 j hj
/-- places from i on are as they were -/
def zBh (o g : Nat → Int32) (i : Int) : Prop := ∀ j : Nat, i ≤ (j : Int) → g j = o j
theorem zBh_step {o g g' : Nat → Int32} {i : Int} (h : zBh o g i) {p v : Int32} (he : g' = upd g p.toNatClampNeg v) (hp : p.toInt = i) (h0 : 0 ≤ i) : zBh o g' (i + 1) := fun j hj => by
  rw [(zN_upd he (a := i.toNat) (by omega)).1 j (by omega)]; exact h j (by omega)
