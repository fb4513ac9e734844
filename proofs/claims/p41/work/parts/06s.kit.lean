theorem zPigeon : ∀ (K : Nat) (f : Nat → Int) (n : Nat), (∀ i, i < n → 0 ≤ f i ∧ f i < K) → (∀ i j, i < j → j < n → f i ≠ f j) → n ≤ K
  | 0, f, n, h, _ => by
    by_cases hn : n = 0
    · omega
    · have := h 0 (by omega); omega
  | K + 1, f, n, h, hd => by
    by_cases hn : n = 0
    · omega
    · by_cases he : ∃ i, i < n ∧ f i = K
      · obtain ⟨i, hi, hf⟩ := he
        have := zPigeon K (fun j => if j = i then f (n - 1) else f j) (n - 1) (fun j hj => ?_) (fun a b hab hb => ?_)
        · omega
        · show 0 ≤ (if j = i then f (n - 1) else f j) ∧ (if j = i then f (n - 1) else f j) < (K : Int)
          split
          · rename_i e
            have h1 := h (n - 1) (by omega)
            have h2 := hd i (n - 1) (by omega) (by omega)
            omega
          · rename_i e
            have h1 := h j (by omega)
            have h2 : f j ≠ f i := by
              rcases Nat.lt_or_gt_of_ne e with q | q
              · exact hd j i q hi
              · exact fun x => hd i j q (by omega) x.symm
            omega
        · show (if a = i then f (n - 1) else f a) ≠ (if b = i then f (n - 1) else f b)
          by_cases ea : a = i
          · rw [if_pos ea, if_neg (by omega)]
            exact fun x => hd b (n - 1) (by omega) (by omega) x.symm
          · rw [if_neg ea]
            by_cases eb : b = i
            · rw [if_pos eb]; exact hd a (n - 1) (by omega) (by omega)
            · rw [if_neg eb]; exact hd a b hab (by omega)
      · have := zPigeon K f n (fun j hj => by
          have h1 := h j hj
          have h2 : f j ≠ K := fun x => he ⟨j, hj, x⟩
          omega) hd
        omega
/-- the sizes and KEYS of a RING within bounds -/
theorem zC_size {g : Nat → Int32} (h : zCt g) {r : Nat} (hr : r < 3) : 0 ≤ (g (95 + r)).toInt ∧ (g (95 + r)).toInt ≤ 10 := by
  have := h (95 + r) (by omega)
  rcases (show r = 0 ∨ r = 1 ∨ r = 2 by omega) with rfl | rfl | rfl
  · exact ⟨Int.le_trans (by decide) this.1, Int.le_trans this.2 (by decide)⟩
  · exact ⟨Int.le_trans (by decide) this.1, Int.le_trans this.2 (by decide)⟩
  · exact ⟨Int.le_trans (by decide) this.1, Int.le_trans this.2 (by decide)⟩
theorem zC_on {g : Nat → Int32} (h : zCt g) {j : Nat} (h1 : 98 ≤ j) (h2 : j < 128) : 0 ≤ (g j).toInt ∧ (g j).toInt ≤ 9 := by
  have hk := zck_at (a := 98) (b := 127) (lo := 0) (hi := 9) (by decide +kernel) h1 (by omega)
  have := h j (by omega)
  omega
theorem zC_keys {g : Nat → Int32} (h : zCt g) : 0 ≤ (g 1).toInt ∧ (g 1).toInt ≤ 10 := by
  have := h 1 (by omega)
  exact ⟨Int.le_trans (by decide) this.1, Int.le_trans this.2 (by decide)⟩
/-- one more KEY has room -/
theorem zRoom {g : Nat → Int32} (hC : zC g) {r k : Int} (h0 : 0 ≤ r) (h2 : r ≤ 2) (hr : r < (g 2).toInt) (hk0 : 0 ≤ k) (hk : k < (g 1).toInt) (hno : ∀ j : Nat, (j : Int) < (g (95 + r.toNat)).toInt → (g (98 + 10 * r.toNat + j)).toInt ≠ k) : (g (95 + r.toNat)).toInt ≤ 9 := by
  obtain ⟨-, -, -, a4, a5⟩ := hC.2.1
  have hs := zC_size hC.1 (r := r.toNat) (by omega)
  have hK := zC_keys hC.1
  have := zPigeon (g 1).toInt.toNat (fun i => if (i : Int) < (g (95 + r.toNat)).toInt then (g (98 + 10 * r.toNat + i)).toInt else k) ((g (95 + r.toNat)).toInt.toNat + 1) (fun i hi => ?_) (fun i j hij hj => ?_)
  · omega
  · show 0 ≤ (if (i : Int) < (g (95 + r.toNat)).toInt then (g (98 + 10 * r.toNat + i)).toInt else k) ∧ _ < _
    by_cases e : (i : Int) < (g (95 + r.toNat)).toInt
    · have h5 := a5 r.toNat i (by omega) (by rw [show 0 + 2 = 2 from rfl]; omega) (by rw [show 0 + 95 + r.toNat = 95 + r.toNat by omega]; exact e) (by omega)
      have h6 := zC_on hC.1 (j := 98 + 10 * r.toNat + i) (by omega) (by omega)
      rw [show 0 + 98 + 10 * r.toNat + i = 98 + 10 * r.toNat + i by omega, show 0 + 1 = 1 from rfl] at h5
      simp only [if_pos e]; omega
    · simp only [if_neg e]; omega
  · show (if (i : Int) < (g (95 + r.toNat)).toInt then (g (98 + 10 * r.toNat + i)).toInt else k) ≠ (if (j : Int) < (g (95 + r.toNat)).toInt then (g (98 + 10 * r.toNat + j)).toInt else k)
    rw [if_pos (by omega)]
    by_cases e : (j : Int) < (g (95 + r.toNat)).toInt
    · rw [if_pos e]
      have h4 := a4 r.toNat i j (by omega) (by rw [show 0 + 2 = 2 from rfl]; omega) hij (by rw [show 0 + 95 + r.toNat = 95 + r.toNat by omega]; exact e) (by omega)
      rw [show 0 + 98 + 10 * r.toNat + i = 98 + 10 * r.toNat + i by omega, show 0 + 98 + 10 * r.toNat + j = 98 + 10 * r.toNat + j by omega] at h4
      exact h4
    · rw [if_neg e]
      exact hno i (by omega)
/-- one RING is other than it was -/
theorem zC_ring {o g : Nat → Int32} (hC : zC o) (hT : zCt g) {r : Nat} (hr3 : r < 3) (hs : ∀ j, j ≠ 95 + r → ¬ (98 + 10 * r ≤ j ∧ j < 98 + 10 * r + 10) → g j = o j)
    (hd : (r : Int) < (o 2).toInt → ∀ i j : Nat, i < j → (j : Int) < (g (95 + r)).toInt → j < 10 → (g (98 + 10 * r + i)).toInt ≠ (g (98 + 10 * r + j)).toInt)
    (hb : (r : Int) < (o 2).toInt → ∀ i : Nat, (i : Int) < (g (95 + r)).toInt → i < 10 → (g (98 + 10 * r + i)).toInt < (o 1).toInt) : zC g := by
  have hB : ∀ b, 365 ≤ b → zBl o b → zBl g b := fun b hb h => zBl_same h (fun j _ => hs _ (by omega) (by omega))
  refine ⟨hT, ?_, hB 365 (by omega) hC.2.2.1, hB 730 (by omega) hC.2.2.2.1, hB 1095 (by omega) hC.2.2.2.2⟩
  obtain ⟨a1, a2, a3, a4, a5⟩ := hC.2.1
  have e0 : g 0 = o 0 := hs 0 (by omega) (by omega)
  have e1 : g 1 = o 1 := hs 1 (by omega) (by omega)
  have e2 : g 2 = o 2 := hs 2 (by omega) (by omega)
  refine ⟨fun f s hf hs' hl => ?_, fun k f hk hf => ?_, fun f hf hl => ?_, fun q i j hq hl hi hj hj2 => ?_, fun q i hq hl hi hi2 => ?_⟩
  · rw [e0] at hl
    rw [hs _ (by omega) (by omega), hs _ (by omega) (by omega), hs _ (by omega) (by omega), hs _ (by omega) (by omega)]
    exact a1 f s hf hs' hl
  · rw [hs (0 + 65 + 3 * k + f) (by omega) (by omega), hs (0 + 11 + f) (by omega) (by omega)]
    exact a2 k f hk hf
  · rw [e0] at hl
    rw [hs (0 + 11 + f) (by omega) (by omega)]
    exact a3 f hf hl
  · rw [show 0 + 2 = 2 from rfl, e2] at hl
    by_cases e : q = r
    · subst e
      rw [show 0 + 95 + q = 95 + q by omega] at hj
      rw [show 0 + 98 + 10 * q + i = 98 + 10 * q + i by omega, show 0 + 98 + 10 * q + j = 98 + 10 * q + j by omega]
      exact hd hl i j hi hj hj2
    · rw [hs (0 + 95 + q) (by omega) (by omega)] at hj
      rw [hs (0 + 98 + 10 * q + i) (by omega) (by omega), hs (0 + 98 + 10 * q + j) (by omega) (by omega)]
      exact a4 q i j hq hl hi hj hj2
  · rw [show 0 + 2 = 2 from rfl, e2] at hl
    rw [show 0 + 1 = 1 from rfl, e1]
    by_cases e : q = r
    · subst e
      rw [show 0 + 95 + q = 95 + q by omega] at hi
      rw [show 0 + 98 + 10 * q + i = 98 + 10 * q + i by omega]
      exact hb hl i hi hi2
    · rw [hs (0 + 95 + q) (by omega) (by omega)] at hi
      rw [hs (0 + 98 + 10 * q + i) (by omega) (by omega)]
      exact a5 q i hq hl hi hi2
theorem zC_dis {g : Nat → Int32} (hC : zC g) {r i j : Nat} (hr : r < 3) (hl : (r : Int) < (g 2).toInt) (hij : i < j) (hj : (j : Int) < (g (95 + r)).toInt) : (g (98 + 10 * r + i)).toInt ≠ (g (98 + 10 * r + j)).toInt := by
  have hs := zC_size hC.1 hr
  have := hC.2.1.2.2.2.1 r i j hr (by rw [show 0 + 2 = 2 from rfl]; exact hl) hij (by rw [show 0 + 95 + r = 95 + r by omega]; exact hj) (by omega)
  rw [show 0 + 98 + 10 * r + i = 98 + 10 * r + i by omega, show 0 + 98 + 10 * r + j = 98 + 10 * r + j by omega] at this
  exact this
theorem zC_key {g : Nat → Int32} (hC : zC g) {r i : Nat} (hr : r < 3) (hl : (r : Int) < (g 2).toInt) (hi : (i : Int) < (g (95 + r)).toInt) : (g (98 + 10 * r + i)).toInt < (g 1).toInt := by
  have hs := zC_size hC.1 hr
  have := hC.2.1.2.2.2.2 r i hr (by rw [show 0 + 2 = 2 from rfl]; exact hl) (by rw [show 0 + 95 + r = 95 + r by omega]; exact hi) (by omega)
  rw [show 0 + 98 + 10 * r + i = 98 + 10 * r + i by omega, show 0 + 1 = 1 from rfl] at this
  exact this
/-- the KEYS behind a place one place on, those from i on done -/
def zShI (o g : Nat → Int32) (b i S : Int) : Prop := ∀ j : Nat, g j = if b + i < (j : Int) ∧ (j : Int) ≤ b + S then o (j - 1) else o j
theorem zShI_0 {o : Nat → Int32} {b S : Int} : zShI o o b S S := fun j => by rw [if_neg (by omega)]
theorem zShI_step {o g g' : Nat → Int32} {b i S : Int} (h : zShI o g b i S) {p q v : Int32} (hg : g' = upd g p.toNatClampNeg v) (hv : v = g q.toNatClampNeg) (hp : p.toInt = b + i) (hq : q.toInt = b + i - 1) (h0 : 1 ≤ b + i) (hi : i ≤ S) : zShI o g' b (i - 1) S := by
  have e1 := z_updat hg (a := (b + i).toNat) (by omega)
  have e2 := z_at hv (a := (b + i - 1).toNat) (by omega)
  intro j
  rw [e1]; unfold upd
  by_cases e : j = (b + i).toNat
  · rw [if_pos e, e2, h, if_neg (by omega), if_pos (by omega), show j - 1 = (b + i - 1).toNat by omega]
  · rw [if_neg e, h]
    by_cases e3 : b + i < (j : Int) ∧ (j : Int) ≤ b + S
    · rw [if_pos e3, if_pos (by omega)]
    · rw [if_neg e3, if_neg (by omega)]
def zInP (o g : Nat → Int32) (r p k : Int) : Prop :=
  (g (95 + r.toNat)).toInt = (o (95 + r.toNat)).toInt + 1 ∧ (g (98 + 10 * r.toNat + p.toNat)).toInt = k ∧ (∀ j : Nat, 98 + 10 * r + p < (j : Int) → (j : Int) ≤ 98 + 10 * r + (o (95 + r.toNat)).toInt → g j = o (j - 1)) ∧ (∀ j : Nat, (j : Int) ≠ 95 + r → (j : Int) ≠ 98 + 10 * r + p → ¬ (98 + 10 * r + p < (j : Int) ∧ (j : Int) ≤ 98 + 10 * r + (o (95 + r.toNat)).toInt) → g j = o j)
theorem zInX {o g g1 : Nat → Int32} {r i : Int} {k x q1 q3 : Int32} {S : Int} (hsh : zShI o g (98 + 10 * r) i S) (h0 : 0 ≤ r) (h2 : r ≤ 2) (hi0 : 0 ≤ i) (hg1 : g1 = upd g q1.toNatClampNeg k) (hq1 : 98 + 10 * r ≤ q1.toInt) (hx : x = g1 q3.toNatClampNeg) (hq3 : q3.toInt = 95 + r) : x.toInt = (o (95 + r.toNat)).toInt := by
  have e1 := z_updat hg1 (a := q1.toInt.toNat) (by omega)
  have e3 := z_at hx (a := 95 + r.toNat) (by omega)
  rw [e3, e1]; unfold upd
  rw [if_neg (by omega), hsh, if_neg (by omega)]
theorem zInP_of {o g g1 g2 : Nat → Int32} {r p i : Int} {k x s1 q1 q2 q3 : Int32} (hsh0 : zShI o g (98 + 10 * r) i (o (95 + r.toNat)).toInt) (hip : i = p) (h0 : 0 ≤ r) (h2 : r ≤ 2) (hp0 : 0 ≤ p) (hpS : p ≤ (o (95 + r.toNat)).toInt) (hg1 : g1 = upd g q1.toNatClampNeg k) (hq1 : q1.toInt = 98 + 10 * r + p) (hx : x = g1 q3.toNatClampNeg) (hq3 : q3.toInt = 95 + r) (hg2 : g2 = upd g1 q2.toNatClampNeg s1) (hq2 : q2.toInt = 95 + r) (hs1 : s1.toInt = x.toInt + 1) : zInP o g2 r p k.toInt := by
  have hsh : zShI o g (98 + 10 * r) p (o (95 + r.toNat)).toInt := hip ▸ hsh0
  have e1 := z_updat hg1 (a := (98 + 10 * r + p).toNat) (by omega)
  have e2 := z_updat hg2 (a := 95 + r.toNat) (by omega)
  have e3 := z_at hx (a := 95 + r.toNat) (by omega)
  have ex : x = o (95 + r.toNat) := by
    rw [e3, e1]; unfold upd
    rw [if_neg (by omega), hsh, if_neg (by omega)]
  refine ⟨?_, ?_, fun j h3 h4 => ?_, fun j h3 h4 h5 => ?_⟩
  · rw [e2]; unfold upd; rw [if_pos rfl, hs1, ex]
  · rw [e2]; unfold upd; rw [if_neg (by omega), e1]; unfold upd; rw [if_pos (by omega)]
  · rw [e2]; unfold upd; rw [if_neg (by omega), e1]; unfold upd; rw [if_neg (by omega), hsh, if_pos ⟨h3, h4⟩]
  · rw [e2]; unfold upd; rw [if_neg (by omega), e1]; unfold upd; rw [if_neg (by omega), hsh, if_neg h5]
theorem zInP_zC {o g : Nat → Int32} {r p k : Int} (hC : zC o) (hT : zCt g) (h : zInP o g r p k) (h0 : 0 ≤ r) (h2 : r ≤ 2) (hp0 : 0 ≤ p) (hpS : p ≤ (o (95 + r.toNat)).toInt) (hk : k < (o 1).toInt) (hno : ∀ j : Nat, (j : Int) < (o (95 + r.toNat)).toInt → (o (98 + 10 * r.toNat + j)).toInt ≠ k) (hS : (o (95 + r.toNat)).toInt ≤ 9) : zC g := by
  obtain ⟨h3, h4, h5, h6⟩ := h
  -- the number at a place of the RING
  have ent : ∀ i : Nat, (i : Int) ≤ (o (95 + r.toNat)).toInt → ((i : Int) < p → g (98 + 10 * r.toNat + i) = o (98 + 10 * r.toNat + i)) ∧ ((i : Int) = p → (g (98 + 10 * r.toNat + i)).toInt = k) ∧ (p < (i : Int) → g (98 + 10 * r.toNat + i) = o (98 + 10 * r.toNat + (i - 1))) := fun i hi => by
    refine ⟨fun h => h6 _ (by omega) (by omega) (by omega), fun h => ?_, fun h => ?_⟩
    · rw [show 98 + 10 * r.toNat + i = 98 + 10 * r.toNat + p.toNat by omega]; exact h4
    · rw [h5 _ (by omega) (by omega), show 98 + 10 * r.toNat + i - 1 = 98 + 10 * r.toNat + (i - 1) by omega]
  refine zC_ring hC hT (r := r.toNat) (by omega) (fun j h7 h8 => h6 j (by omega) (by omega) (by omega)) (fun hl i j hij hj hj2 => ?_) (fun hl i hi hi2 => ?_)
  · rw [h3] at hj
    have A := ent i (by omega)
    have B := ent j (by omega)
    have dis : ∀ a b : Nat, a < b → (b : Int) < (o (95 + r.toNat)).toInt → (o (98 + 10 * r.toNat + a)).toInt ≠ (o (98 + 10 * r.toNat + b)).toInt := fun a b hab hb => zC_dis hC (by omega) hl hab hb
    rcases (show (i : Int) < p ∨ (i : Int) = p ∨ p < (i : Int) by omega) with hi | hi | hi
    · rw [A.1 hi]
      rcases (show (j : Int) < p ∨ (j : Int) = p ∨ p < (j : Int) by omega) with hq | hq | hq
      · rw [B.1 hq]; exact dis i j hij (by omega)
      · rw [B.2.1 hq]; exact hno i (by omega)
      · rw [B.2.2 hq]; exact dis i (j - 1) (by omega) (by omega)
    · rw [A.2.1 hi, B.2.2 (by omega)]
      exact fun x => hno (j - 1) (by omega) x.symm
    · rw [A.2.2 hi, B.2.2 (by omega)]
      exact dis (i - 1) (j - 1) (by omega) (by omega)
  · rw [h3] at hi
    have A := ent i (by omega)
    have kb : ∀ a : Nat, (a : Int) < (o (95 + r.toNat)).toInt → (o (98 + 10 * r.toNat + a)).toInt < (o 1).toInt := fun a ha => zC_key hC (by omega) hl ha
    rcases (show (i : Int) < p ∨ (i : Int) = p ∨ p < (i : Int) by omega) with hq | hq | hq
    · rw [A.1 hq]; exact kb i (by omega)
    · rw [A.2.1 hq]; exact hk
    · rw [A.2.2 hq]; exact kb (i - 1) (by omega)
/-- the KEYS behind a place one place back, those ahead of i done -/
def zShT (o g : Nat → Int32) (b p i : Int) : Prop := ∀ j : Nat, g j = if b + p ≤ (j : Int) ∧ (j : Int) < b + i then o (j + 1) else o j
theorem zShT_0 {o : Nat → Int32} {b p : Int} : zShT o o b p p := fun j => by rw [if_neg (by omega)]
theorem zShT_step {o g g' : Nat → Int32} {b p i : Int} (h : zShT o g b p i) {q1 q2 v : Int32} (hg : g' = upd g q1.toNatClampNeg v) (hv : v = g q2.toNatClampNeg) (hq1 : q1.toInt = b + i) (hq2 : q2.toInt = b + i + 1) (h0 : 0 ≤ b + i) (hi : p ≤ i) : zShT o g' b p (i + 1) := by
  have e1 := z_updat hg (a := (b + i).toNat) (by omega)
  have e2 := z_at hv (a := (b + i).toNat + 1) (by omega)
  intro j
  rw [e1]; unfold upd
  by_cases e : j = (b + i).toNat
  · rw [if_pos e, e2, h, if_neg (by omega), if_pos (by omega), e]
  · rw [if_neg e, h]
    by_cases e3 : b + p ≤ (j : Int) ∧ (j : Int) < b + i
    · rw [if_pos e3, if_pos (by omega)]
    · rw [if_neg e3, if_neg (by omega)]
def zTkP (o g : Nat → Int32) (r p : Int) : Prop :=
  (g (95 + r.toNat)).toInt = (o (95 + r.toNat)).toInt - 1 ∧ (∀ j : Nat, 98 + 10 * r + p ≤ (j : Int) → (j : Int) < 98 + 10 * r + (o (95 + r.toNat)).toInt - 1 → g j = o (j + 1)) ∧ (∀ j : Nat, (j : Int) ≠ 95 + r → ¬ (98 + 10 * r + p ≤ (j : Int) ∧ (j : Int) < 98 + 10 * r + (o (95 + r.toNat)).toInt - 1) → g j = o j)
theorem zTkP_of {o g g2 : Nat → Int32} {r p i : Int} {x s1 q2 q3 : Int32} (hsh : zShT o g (98 + 10 * r) p i) (h0 : 0 ≤ r) (h2 : r ≤ 2) (hp0 : 0 ≤ p) (hi : i + 1 = (o (95 + r.toNat)).toInt) (hx : x = g q3.toNatClampNeg) (hq3 : q3.toInt = 95 + r) (hg2 : g2 = upd g q2.toNatClampNeg s1) (hq2 : q2.toInt = 95 + r) (hs1 : s1.toInt = x.toInt - 1) : zTkP o g2 r p := by
  have e2 := z_updat hg2 (a := 95 + r.toNat) (by omega)
  have e3 := z_at hx (a := 95 + r.toNat) (by omega)
  have ex : x = o (95 + r.toNat) := by rw [e3, hsh, if_neg (by omega)]
  refine ⟨?_, fun j h3 h4 => ?_, fun j h3 h4 => ?_⟩
  · rw [e2]; unfold upd; rw [if_pos rfl, hs1, ex]
  · rw [e2]; unfold upd; rw [if_neg (by omega), hsh, if_pos (by omega)]
  · rw [e2]; unfold upd; rw [if_neg (by omega), hsh, if_neg (by omega)]
theorem zTkP_zC {o g : Nat → Int32} {r p : Int} (hC : zC o) (hT : zCt g) (h : zTkP o g r p) (h0 : 0 ≤ r) (h2 : r ≤ 2) (hp0 : 0 ≤ p) (hpS : p < (o (95 + r.toNat)).toInt) : zC g := by
  obtain ⟨h3, h5, h6⟩ := h
  have hs := zC_size hC.1 (r := r.toNat) (by omega)
  have ent : ∀ i : Nat, (i : Int) < (o (95 + r.toNat)).toInt - 1 → ((i : Int) < p → g (98 + 10 * r.toNat + i) = o (98 + 10 * r.toNat + i)) ∧ (p ≤ (i : Int) → g (98 + 10 * r.toNat + i) = o (98 + 10 * r.toNat + (i + 1))) := fun i hi => by
    refine ⟨fun h => h6 _ (by omega) (by omega), fun h => ?_⟩
    rw [h5 _ (by omega) (by omega), show 98 + 10 * r.toNat + i + 1 = 98 + 10 * r.toNat + (i + 1) by omega]
  refine zC_ring hC hT (r := r.toNat) (by omega) (fun j h7 h8 => h6 j (by omega) (by omega)) (fun hl i j hij hj hj2 => ?_) (fun hl i hi hi2 => ?_)
  · rw [h3] at hj
    have A := ent i (by omega)
    have B := ent j (by omega)
    have dis : ∀ a b : Nat, a < b → (b : Int) < (o (95 + r.toNat)).toInt → (o (98 + 10 * r.toNat + a)).toInt ≠ (o (98 + 10 * r.toNat + b)).toInt := fun a b hab hb => zC_dis hC (by omega) hl hab hb
    rcases (show (i : Int) < p ∨ p ≤ (i : Int) by omega) with hi | hi
    · rw [A.1 hi]
      rcases (show (j : Int) < p ∨ p ≤ (j : Int) by omega) with hq | hq
      · rw [B.1 hq]; exact dis i j hij (by omega)
      · rw [B.2 hq]; exact dis i (j + 1) (by omega) (by omega)
    · rw [A.2 hi, B.2 (by omega)]
      exact dis (i + 1) (j + 1) (by omega) (by omega)
  · rw [h3] at hi
    have A := ent i (by omega)
    have kb : ∀ a : Nat, (a : Int) < (o (95 + r.toNat)).toInt → (o (98 + 10 * r.toNat + a)).toInt < (o 1).toInt := fun a ha => zC_key hC (by omega) hl ha
    rcases (show (i : Int) < p ∨ p ≤ (i : Int) by omega) with hq | hq
    · rw [A.1 hq]; exact kb i (by omega)
    · rw [A.2 hq]; exact kb (i + 1) (by omega)
theorem zShT_sz {o g : Nat → Int32} {r p i : Int} {y q : Int32} (hsh : zShT o g (98 + 10 * r) p i) (h0 : 0 ≤ r) (h2 : r ≤ 2) (hp0 : 0 ≤ p) (hy : y = g q.toNatClampNeg) (hq : q.toInt = 95 + r) : y.toInt = (o (95 + r.toNat)).toInt := by
  rw [z_at hy (a := 95 + r.toNat) (by omega), hsh, if_neg (by omega)]
def zTaken (o g : Nat → Int32) (k : Int) : Prop := ∃ r p, 0 ≤ r ∧ r ≤ 2 ∧ 0 ≤ p ∧ zRO o k r ∧ p < (o (95 + r.toNat)).toInt ∧ (o (98 + 10 * r.toNat + p.toNat)).toInt = k ∧ zTkP o g r p
/-- a KEY is on some RING -/
def zOn (g : Nat → Int32) (k : Int) : Prop := ∃ r, 0 ≤ r ∧ zRO g k r
theorem zOn_r {g : Nat → Int32} {k r : Int} (h : zOn g k) (hr : zRO g k r) : 0 ≤ r := by
  obtain ⟨r', h0, h'⟩ := h
  have := zRO_unique hr h'
  omega
theorem zPO_r {g : Nat → Int32} {k i r : Int} (h : zPO g k i) (hr : zRO g k r) (h0 : 0 ≤ r) : 0 ≤ i ∧ i < (g (95 + r.toNat)).toInt ∧ (g (98 + 10 * r.toNat + i.toNat)).toInt = k := by
  rcases h with ⟨-, h⟩ | ⟨h1, r', h2, h3, h4, h5⟩
  · have := zRO_unique h hr; omega
  · have := zRO_unique h3 hr; subst this
    exact ⟨h1, h4, h5⟩
theorem zRO_same {g g' : Nat → Int32} {k r : Int} (h : zRO g k r) (h2 : g' 2 = g 2) (hs : ∀ q : Nat, (q : Int) < (g 2).toInt → g' (95 + q) = g (95 + q)) (hk : ∀ q j : Nat, (q : Int) < (g 2).toInt → (j : Int) < (g (95 + q)).toInt → g' (98 + 10 * q + j) = g (98 + 10 * q + j)) : zRO g' k r := by
  have hN : ∀ (a i : Int), a ≤ (g 2).toInt → ((0 < i) → 0 ≤ a ∧ a < (g 2).toInt ∧ i ≤ (g (95 + a.toNat)).toInt) → zNo g k a i → zNo g' k a i := fun a i ha hi h => by
    refine ⟨fun q hq j hj => ?_, fun j hj => ?_⟩
    · rw [hs q (by omega)] at hj
      rw [hk q j (by omega) hj]
      exact h.1 q hq j hj
    · have := hi (by omega)
      rw [hk a.toNat j (by omega) (by omega)]
      exact h.2 j hj
  rcases h with ⟨e, h⟩ | ⟨h0, hr, i, hi, he, hn⟩
  · exact Or.inl ⟨e, by rw [h2]; exact hN _ _ (Int.le_refl _) (fun h => absurd h (by omega)) h⟩
  · refine Or.inr ⟨h0, by rw [h2]; exact hr, i, ?_, ?_, ?_⟩
    · rw [hs _ (by omega)]; exact hi
    · rw [hk _ _ (by omega) hi]; exact he
    · exact hN _ _ (by omega) (fun _ => ⟨h0, hr, by omega⟩) hn
/-- all but what lies behind the KEYS of a RING is as it was -/
def zLike (o g : Nat → Int32) (r : Int) : Prop := ∀ j : Nat, ¬ (98 + 10 * r + (o (95 + r.toNat)).toInt ≤ (j : Int) ∧ (j : Int) < 98 + 10 * r + 10) → g j = o j
theorem zLike_refl (o : Nat → Int32) {r : Int} : zLike o o r := fun _ _ => rfl
theorem zLike_sz {o g : Nat → Int32} {r : Int} (h : zLike o g r) (h0 : 0 ≤ r) (h2 : r ≤ 2) (hT : zCt o) : (g (95 + r.toNat)) = (o (95 + r.toNat)) ∧ g 2 = o 2 ∧ g 1 = o 1 := by
  have := zC_size hT (r := r.toNat) (by omega)
  exact ⟨h _ (by omega), h _ (by omega), h _ (by omega)⟩
theorem zLike_RO {o g : Nat → Int32} {r k q : Int} (h : zLike o g r) (h0 : 0 ≤ r) (h2 : r ≤ 2) (hT : zCt o) (hro : zRO o k q) : zRO g k q := by
  have hR : (o 2).toInt ≤ 3 := by
    have := hT 2 (by omega)
    exact Int.le_trans this.2 (by decide)
  have hz := zC_size hT (r := r.toNat) (by omega)
  refine zRO_same hro (h _ (by omega)) (fun q hq => h _ (by omega)) (fun q j hq hj => h _ ?_)
  have := zC_size hT (r := q) (by omega)
  by_cases e : (q : Int) = r
  · rw [show r.toNat = q by omega]; omega
  · omega
theorem zRO_noring {g : Nat → Int32} {k r : Int} (h : zRO g k (-1)) (h0 : 0 ≤ r) (hr : r < (g 2).toInt) : ∀ j : Nat, (j : Int) < (g (95 + r.toNat)).toInt → (g (98 + 10 * r.toNat + j)).toInt ≠ k := fun j hj => by
  rcases h with ⟨-, h⟩ | ⟨h', -⟩
  · exact h.1 r.toNat (by omega) j hj
  · omega
theorem zRO_neg {g : Nat → Int32} {k r : Int} (h : zRO g k r) (hr : r < 0) : zRO g k (-1) := by
  rcases h with ⟨e, h⟩ | ⟨h0, -⟩
  · exact Or.inl ⟨rfl, h⟩
  · omega
/-- a KEY that was on none is, put on a RING, on that one -/
theorem zIn_ring {o g : Nat → Int32} {r p k q : Int} (hT : zCt o) (hi : zInP o g r p k) (h0 : 0 ≤ r) (h2 : r ≤ 2) (hr : r < (o 2).toInt) (hp0 : 0 ≤ p) (hpS : p ≤ (o (95 + r.toNat)).toInt) (hS : (o (95 + r.toNat)).toInt ≤ 9) (hno : zRO o k (-1)) (hq : zRO g k q) : q = r := by
  obtain ⟨h3, h4, h5, h6⟩ := hi
  have e2 : g 2 = o 2 := h6 _ (by omega) (by omega) (by omega)
  have hR : (o 2).toInt ≤ 3 := by
    have := hT 2 (by omega)
    exact Int.le_trans this.2 (by decide)
  have none : ∀ (q : Nat) (j : Nat), (q : Int) ≠ r → (q : Int) < (o 2).toInt → (j : Int) < (g (95 + q)).toInt → (g (98 + 10 * q + j)).toInt ≠ k := fun q j hq hl hj => by
    have hz := zC_size hT (r := q) (by omega)
    rw [h6 (95 + q) (by omega) (by omega) (by omega)] at hj
    rw [h6 (98 + 10 * q + j) (by omega) (by omega) (by omega)]
    exact zRO_noring hno (r := q) (by omega) hl j hj
  rcases hq with ⟨e, hn⟩ | ⟨h7, h8, i, h9, h10, h11⟩
  · exfalso
    refine hn.1 r.toNat (by rw [e2]; omega) p.toNat ?_ ?_
    · rw [h3]; omega
    · exact h4
  · by_cases e : q = r
    · exact e
    · rw [e2] at h8
      exact absurd h10 (none q.toNat i (by omega) (by omega) h9)
/-- put on and taken off again -/
theorem zIn_take {o g g' : Nat → Int32} {r p k : Int} (hC : zC o) (hCg : zC g) (hi : zInP o g r p k) (h0 : 0 ≤ r) (h2 : r ≤ 2) (hr : r < (o 2).toInt) (hp0 : 0 ≤ p) (hpS : p ≤ (o (95 + r.toNat)).toInt) (hS : (o (95 + r.toNat)).toInt ≤ 9) (hno : zRO o k (-1)) (ht : zTaken g g' k) : zLike o g' r := by
  obtain ⟨q, p', h3, h4, h5, h6, h7, h8, h9⟩ := ht
  have hq := zIn_ring hC.1 hi h0 h2 hr hp0 hpS hS hno h6
  subst hq
  obtain ⟨i1, i2, i3, i4⟩ := hi
  have e2 : g 2 = o 2 := i4 _ (by omega) (by omega) (by omega)
  have hpp : p' = p := by
    rcases (show p' < p ∨ p' = p ∨ p < p' by omega) with h | h | h
    · exact absurd (h8.trans i2.symm) (zC_dis hCg (by omega) (by rw [e2]; omega) (show p'.toNat < p.toNat by omega) (by omega))
    · exact h
    · exact absurd (i2.trans h8.symm) (zC_dis hCg (by omega) (by rw [e2]; omega) (show p.toNat < p'.toNat by omega) (by omega))
  subst hpp
  obtain ⟨t1, t2, t3⟩ := h9
  intro j hj
  by_cases ej : (j : Int) = 95 + q
  · rw [show j = 95 + q.toNat by omega]
    exact Int32.toInt_inj.mp (by rw [t1, i1]; omega)
  · by_cases e3 : 98 + 10 * q + p' ≤ (j : Int) ∧ (j : Int) < 98 + 10 * q + (g (95 + q.toNat)).toInt - 1
    · rw [t2 j e3.1 e3.2, i3 (j + 1) (by omega) (by omega), show j + 1 - 1 = j by omega]
    · rw [t3 j ej e3]
      exact i4 j ej (by omega) (by omega)
theorem zgn_in {g : Nat → Int32} {r p k : Int} (h0 : 0 ≤ r) (hp0 : 0 ≤ p) (hp : p < (g (95 + r.toNat)).toInt) (hk : (g (98 + 10 * r.toNat + p.toNat)).toInt = k) (hl : (g (150 + k.toNat)).toInt ≠ 1) : 1 ≤ zgn g r := by
  unfold zgn
  refine zgc_one (i := p.toNat) (by omega) ?_
  rw [hk]; exact hl
theorem zLike_trans {o g g' : Nat → Int32} {r : Int} (h : zLike o g r) (h' : zLike g g' r) (h0 : 0 ≤ r) (h2 : r ≤ 2) (hT : zCt o) : zLike o g' r := fun j hj => by
  have e := (zLike_sz h h0 h2 hT).1
  rw [h' j (by rw [e]; exact hj), h j hj]
/-- a KEY put on a RING is on that one -/
theorem zIn_RO {o g : Nat → Int32} {r p k : Int} (hT : zCt o) (hi : zInP o g r p k) (h0 : 0 ≤ r) (h2 : r ≤ 2) (hr : r < (o 2).toInt) (hp0 : 0 ≤ p) (hpS : p ≤ (o (95 + r.toNat)).toInt) (hS : (o (95 + r.toNat)).toInt ≤ 9) (hno : zRO o k (-1)) : zRO g k r := by
  obtain ⟨h3, h4, h5, h6⟩ := hi
  have e2 : g 2 = o 2 := h6 _ (by omega) (by omega) (by omega)
  refine Or.inr ⟨h0, by rw [e2]; exact hr, p.toNat, by rw [h3]; omega, h4, fun q hq j hj => ?_, fun j hj => ?_⟩
  · have hz := zC_size hT (r := q) (by omega)
    rw [h6 (95 + q) (by omega) (by omega) (by omega)] at hj
    rw [h6 (98 + 10 * q + j) (by omega) (by omega) (by omega)]
    exact zRO_noring hno (r := q) (by omega) (by omega) j hj
  · rw [h6 (98 + 10 * r.toNat + j) (by omega) (by omega) (by omega)]
    exact zRO_noring hno h0 hr j (by omega)
theorem zIn_there {o g : Nat → Int32} {r p k : Int} (hi : zInP o g r p k) (h0 : 0 ≤ r) (h2 : r ≤ 2) (hp0 : 0 ≤ p) (hpS : p ≤ (o (95 + r.toNat)).toInt) (hS : (o (95 + r.toNat)).toInt ≤ 9) (hk0 : 0 ≤ k) (hl : (o (150 + k.toNat)).toInt ≠ 1) : 1 ≤ zgn g r := by
  obtain ⟨h3, h4, h5, h6⟩ := hi
  refine zgn_in h0 hp0 (by rw [h3]; omega) h4 ?_
  rw [h6 _ (by omega) (by omega) (by omega)]
  exact hl
/-- numbers of a TRAY: so many are KEYS, each but once -/
def zLy (N : Nat → Int64) (K t i : Int) : Prop := (∀ j : Nat, (j : Int) < i → 0 ≤ (N (60 * t.toNat + j)).toInt ∧ (N (60 * t.toNat + j)).toInt < K) ∧ (∀ a b : Nat, a < b → (b : Int) < i → (N (60 * t.toNat + a)).toInt ≠ (N (60 * t.toNat + b)).toInt)
theorem zLy_0 {N : Nat → Int64} {K t : Int} : zLy N K t (0 : Int32).toInt := by
  rw [show (0 : Int32).toInt = 0 by decide +kernel]
  exact ⟨fun j h => absurd h (by omega), fun a b _ h => absurd h (by omega)⟩
/-- none of the first is this one -/
def zLz (N : Nat → Int64) (t v i : Int) : Prop := ∀ j : Nat, (j : Int) < i → (N (60 * t.toNat + j)).toInt ≠ v
theorem zLz_0 {N : Nat → Int64} {t v : Int} : zLz N t v (0 : Int32).toInt := by
  rw [show (0 : Int32).toInt = 0 by decide +kernel]
  exact fun j h => absurd h (by omega)
theorem zLz_step {N : Nat → Int64} {t v i : Int} (h : zLz N t v i) {x : Int64} {a : Nat} (hx : x = N a) (ha : (a : Int) = 60 * t + i) (h0 : 0 ≤ t) (h1 : 0 ≤ i) (hne : x.toInt ≠ v) : zLz N t v (i + 1) := fun j hj => by
  by_cases e : (j : Int) = i
  · rw [show 60 * t.toNat + j = a by omega, ← hx]; exact hne
  · exact h j (by omega)
theorem zLy_step {N : Nat → Int64} {K t i m : Int} (h : zLy N K t i) {x : Int64} {a : Nat} (hx : x = N a) (ha : (a : Int) = 60 * t + i) (h0 : 0 ≤ t) (h1 : 0 ≤ i) (hk : 0 ≤ x.toInt ∧ x.toInt < K) (hz : zLz N t x.toInt m) (hm : i ≤ m) : zLy N K t (i + 1) := by
  refine ⟨fun j hj => ?_, fun p q hpq hq => ?_⟩
  · by_cases e : (j : Int) = i
    · rw [show 60 * t.toNat + j = a by omega, ← hx]; exact hk
    · exact h.1 j (by omega)
  · by_cases e : (q : Int) = i
    · rw [show 60 * t.toNat + q = a by omega, ← hx]; exact hz p (by omega)
    · exact h.2 p q hpq (by omega)
/-- so many of a RING's places hold a TRAY's numbers -/
def zLw (o g : Nat → Int32) (N : Nat → Int64) (r t i : Int) : Prop := (∀ j : Nat, (j : Int) < i → (g (98 + 10 * r.toNat + j)).toInt = (N (60 * t.toNat + j)).toInt) ∧ (∀ j : Nat, ¬ (98 + 10 * r ≤ (j : Int) ∧ (j : Int) < 98 + 10 * r + i) → g j = o j)
theorem zLw_0 {o : Nat → Int32} {N : Nat → Int64} {r t : Int} : zLw o o N r t (0 : Int32).toInt := by
  rw [show (0 : Int32).toInt = 0 by decide +kernel]
  exact ⟨fun j h => absurd h (by omega), fun _ _ => rfl⟩
theorem zLw_step {o g g' : Nat → Int32} {N : Nat → Int64} {r t i : Int} (h : zLw o g N r t i) {q v : Int32} {x : Int64} {a : Nat} (hg : g' = upd g q.toNatClampNeg v) (hq : q.toInt = 98 + 10 * r + i) (hx : x = N a) (ha : (a : Int) = 60 * t + i) (hv : v.toInt = x.toInt) (h0 : 0 ≤ r) (h1 : 0 ≤ i) (h2 : 0 ≤ t) : zLw o g' N r t (i + 1) := by
  have e1 := z_updat hg (a := 98 + 10 * r.toNat + i.toNat) (by omega)
  refine ⟨fun j hj => ?_, fun j hj => ?_⟩
  · rw [e1]; unfold upd
    by_cases e : (j : Int) = i
    · rw [if_pos (by omega), hv, hx, show 60 * t.toNat + j = a by omega]
    · rw [if_neg (by omega)]; exact h.1 j (by omega)
  · rw [e1]; unfold upd
    rw [if_neg (by omega)]
    exact h.2 j (by omega)
theorem zLw_zC {o g : Nat → Int32} {N : Nat → Int64} {r t n : Int} (hC : zC o) (hT : zCt g) (h : zLw o g N r t n) (hy : zLy N (o 1).toInt t n) (h0 : 0 ≤ r) (h2 : r ≤ 2) (hn : n = (o (95 + r.toNat)).toInt) : zC g := by
  have hs := zC_size hC.1 (r := r.toNat) (by omega)
  have hsz : g (95 + r.toNat) = o (95 + r.toNat) := h.2 _ (by omega)
  refine zC_ring hC hT (r := r.toNat) (by omega) (fun j h7 h8 => h.2 j (by omega)) (fun hl i j hij hj hj2 => ?_) (fun hl i hi hi2 => ?_)
  · rw [hsz] at hj
    rw [h.1 i (by omega), h.1 j (by omega)]
    exact hy.2 i j hij (by omega)
  · rw [hsz] at hi
    rw [h.1 i (by omega)]
    exact (hy.1 i (by omega)).2
theorem zUpd_ne {g g' : Nat → Int32} {i v : Int32} (he : g' = upd g i.toNatClampNeg v) {k : Nat} (hi : i.toNatClampNeg = k) : ∀ j, j ≠ k → g' j = g j := fun j hj => by
  rw [he, hi]; unfold upd; rw [if_neg hj]
