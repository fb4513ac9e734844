def zst (g : Nat → Int32) (k f w : Int) : Int := if w = 1 ∧ (g (14 + f.toNat)).toInt = 1 then (g (11 + f.toNat)).toInt - 1 - (g (65 + 3 * k.toNat + f.toNat)).toInt else (g (65 + 3 * k.toNat + f.toNat)).toInt
def zft (g : Nat → Int32) (k f w v : Int) : Int := (g (17 + 16 * f.toNat + 4 * (zst g k f w).toNat + v.toNat)).toInt
theorem zst_0 {g : Nat → Int32} {k f w : Int} {x p : Int32} (hx : x = g p.toNatClampNeg) (hp : p.toInt = 65 + 3 * k + f) (h0 : 0 ≤ k) (h1 : 0 ≤ f) (hw : w ≠ 1) : x.toInt = zst g k f w := by
  unfold zst
  rw [if_neg (fun h => hw h.1), z_at hx (a := 65 + 3 * k.toNat + f.toNat) (by omega)]
theorem zst_1 {g : Nat → Int32} {k f w : Int} {x p y q : Int32} (hx : x = g p.toNatClampNeg) (hp : p.toInt = 65 + 3 * k + f) (hy : y = g q.toNatClampNeg) (hq : q.toInt = 14 + f) (h0 : 0 ≤ k) (h1 : 0 ≤ f) (hw : y.toInt ≠ 1) : x.toInt = zst g k f w := by
  unfold zst
  rw [if_neg (fun h => hw (by rw [z_at hy (a := 14 + f.toNat) (by omega)]; exact h.2)), z_at hx (a := 65 + 3 * k.toNat + f.toNat) (by omega)]
theorem zst_2 {g : Nat → Int32} {k f w z : Int} {x p y q u v : Int32} (hx : x = g p.toNatClampNeg) (hp : p.toInt = 65 + 3 * k + f) (hy : y = g q.toNatClampNeg) (hq : q.toInt = 14 + f) (hu : u = g v.toNatClampNeg) (hv : v.toInt = 11 + f) (h0 : 0 ≤ k) (h1 : 0 ≤ f) (hw1 : w = 1) (hw : y.toInt = 1) (hz : z = u.toInt - 1 - x.toInt) : z = zst g k f w := by
  unfold zst
  rw [if_pos ⟨hw1, by rw [← z_at hy (a := 14 + f.toNat) (by omega)]; exact hw⟩, ← z_at hx (a := 65 + 3 * k.toNat + f.toNat) (by omega), ← z_at hu (a := 11 + f.toNat) (by omega)]
  exact hz
theorem zft_of {g : Nat → Int32} {k f w v s : Int} {x p : Int32} (hs : s = zst g k f w) (hx : x = g p.toNatClampNeg) (hp : p.toInt = 17 + 16 * f + 4 * s + v) (h0 : 0 ≤ f) (h1 : 0 ≤ v) : 0 ≤ zst g k f w → x.toInt = zft g k f w v := fun h => by
  unfold zft
  rw [z_at hx (a := 17 + 16 * f.toNat + 4 * (zst g k f w).toNat + v.toNat) (by omega)]
theorem zst_in {g : Nat → Int32} (hC : zC g) {k f w : Int} (h0 : 0 ≤ k) (h1 : k ≤ 9) (h2 : 0 ≤ f) (h3 : f ≤ 2) (hf : f < (g 0).toInt) : 0 ≤ zst g k f w ∧ zst g k f w ≤ 3 := by
  have a2 := hC.2.1.2.1 k.toNat f.toNat (by omega) (by omega)
  have a3 := hC.2.1.2.2.1 f.toNat (by omega) (by omega)
  rw [show 0 + 65 + 3 * k.toNat + f.toNat = 65 + 3 * k.toNat + f.toNat by omega, show 0 + 11 + f.toNat = 11 + f.toNat by omega] at a2
  rw [show 0 + 11 + f.toNat = 11 + f.toNat by omega] at a3
  have hk := zck_at (a := 65) (b := 94) (lo := 0) (hi := 3) (by decide +kernel) (j := 65 + 3 * k.toNat + f.toNat) (by omega) (by omega)
  have hs := zck_at (a := 11) (b := 13) (lo := 0) (hi := 4) (by decide +kernel) (j := 11 + f.toNat) (by omega) (by omega)
  have b1 := hC.1 (65 + 3 * k.toNat + f.toNat) (by omega)
  have b2 := hC.1 (11 + f.toNat) (by omega)
  unfold zst
  split <;> omega
/-- what is felt with the first v and one -/
def zsm (g : Nat → Int32) (k f w : Int) : Nat → Int
  | 0 => zft g k f w 0
  | v + 1 => zsm g k f w v + zft g k f w ((v : Int) + 1)
theorem zsm_row {g : Nat → Int32} (hC : zC g) {k f w : Int} (h0 : 0 ≤ k) (h1 : k ≤ 9) (h2 : 0 ≤ f) (h3 : f ≤ 2) (hf : f < (g 0).toInt) : 16 ≤ zsm g k f w 3 := by
  have hs := zst_in hC (w := w) h0 h1 h2 h3 hf
  have := hC.2.1.1 f.toNat (zst g k f w).toNat (by omega) (by omega) (by omega)
  rw [show 0 + 17 + 16 * f.toNat + 4 * (zst g k f w).toNat = 17 + 16 * f.toNat + 4 * (zst g k f w).toNat by omega] at this
  have e : zsm g k f w 3 = zft g k f w 0 + zft g k f w 1 + zft g k f w 2 + zft g k f w 3 := rfl
  rw [e]
  exact this
theorem zsm_0 {g : Nat → Int32} {k f w s : Int} (h : s = zft g k f w (0 : Int32).toInt) : s = zsm g k f w (0 : Int32).toInt.toNat := by
  rw [show (0 : Int32).toInt = 0 by decide +kernel] at h ⊢
  exact h
theorem zsm_step {g : Nat → Int32} {k f w s r v : Int} (h : s = zsm g k f w v.toNat) (h0 : 0 ≤ v) (hr : r = zft g k f w (v + 1)) : s + r = zsm g k f w (v + 1).toNat := by
  rw [show (v + 1).toNat = v.toNat + 1 by omega]
  show s + r = zsm g k f w v.toNat + zft g k f w ((v.toNat : Int) + 1)
  rw [show ((v.toNat : Int) + 1) = v + 1 by omega, ← h, hr]
theorem zsm_lt {g : Nat → Int32} {k f w s v : Int} (h : s = zsm g k f w v.toNat) (h16 : 16 ≤ zsm g k f w 3) (hv : v ≤ 3) (h0 : 0 ≤ v) (hs : s ≤ 15) : v ≤ 2 := by
  by_cases e : v = 3
  · rw [e] at h
    rw [show (3 : Int).toNat = 3 from rfl] at h
    omega
  · omega
/-- a block's numbers come to another place, so many are done -/
def zCp (o g : Nat → Int32) (a b i : Int) : Prop := (∀ j : Nat, (j : Int) < i → g (b.toNat + j) = o (a.toNat + j)) ∧ (∀ j : Nat, ¬ (b ≤ (j : Int) ∧ (j : Int) < b + i) → g j = o j)
theorem zCp_0 {o : Nat → Int32} {a b : Int} : zCp o o a b (0 : Int32).toInt := by
  rw [show (0 : Int32).toInt = 0 by decide +kernel]
  exact ⟨fun j h => absurd h (by omega), fun _ _ => rfl⟩
theorem zCp_step {o g g' : Nat → Int32} {a b i : Int} (h : zCp o g a b i) {p q v : Int32} (hg : g' = upd g p.toNatClampNeg v) (hp : p.toInt = b + i) (hv : v = g q.toNatClampNeg) (hq : q.toInt = a + i) (h0 : 0 ≤ a) (h1 : 0 ≤ b) (h2 : 0 ≤ i) (hab : b ≤ a ∨ b = a ∨ a + 365 ≤ b) (hi : i < 365) : zCp o g' a b (i + 1) := by
  have e1 := z_updat hg (a := b.toNat + i.toNat) (by omega)
  have e2 := z_at hv (a := a.toNat + i.toNat) (by omega)
  have e3 : g (a.toNat + i.toNat) = o (a.toNat + i.toNat) := h.2 _ (by omega)
  refine ⟨fun j hj => ?_, fun j hj => ?_⟩
  · rw [e1]; unfold upd
    by_cases e : (j : Int) = i
    · rw [if_pos (by omega), e2, e3, show a.toNat + i.toNat = a.toNat + j by omega]
    · rw [if_neg (by omega)]; exact h.1 j (by omega)
  · rw [e1]; unfold upd
    rw [if_neg (by omega)]
    exact h.2 j (by omega)
theorem zBl_shift {g : Nat → Int32} {o : Nat} : zBl g o ↔ zBl (fun j => g (o + j)) 0 := by
  unfold zBl
  simp only [Nat.zero_add, Nat.add_zero, ← Nat.add_assoc]
theorem zBl_move {g g' : Nat → Int32} {o o' : Nat} (h : zBl g o) (he : ∀ j, zRo j = true → g' (o' + j) = g (o + j)) : zBl g' o' := by
  rw [zBl_shift] at h ⊢
  exact zBl_same h (fun j hj => by show g' (o' + (0 + j)) = g (o + (0 + j)); rw [Nat.zero_add]; exact he j hj)
theorem zRo_lt {j : Nat} (h : zRo j = true) : j < 128 := by
  simp only [zRo, Bool.or_eq_true, Bool.and_eq_true, decide_eq_true_eq] at h; omega
theorem zCp_zC {o g : Nat → Int32} {a b n : Int} (hC : zC o) (hT : zCt g) (h : zCp o g a b n) (h0 : 0 ≤ a) (hb : b = 0 ∨ b = 365 ∨ b = 730 ∨ b = 1095) (hn : 128 ≤ n) (hn2 : n ≤ 365) (hA : zBl o a.toNat) : zC g := by
  have hB : ∀ q : Nat, q = 0 ∨ q = 365 ∨ q = 730 ∨ q = 1095 → zBl o q → zBl g q := fun q hq hz => by
    by_cases e : (q : Int) = b
    · refine zBl_move hA (fun j hj => ?_)
      have := zRo_lt hj
      rw [show q = b.toNat by omega]
      exact h.1 j (by omega)
    · refine zBl_same hz (fun j hj => ?_)
      have := zRo_lt hj
      exact h.2 _ (by omega)
  exact ⟨hT, hB 0 (by omega) hC.2.1, hB 365 (by omega) hC.2.2.1, hB 730 (by omega) hC.2.2.2.1, hB 1095 (by omega) hC.2.2.2.2⟩
theorem zC_block {g : Nat → Int32} (hC : zC g) {a : Int} (ha : a = 0 ∨ a = 365 ∨ a = 730 ∨ a = 1095) : zBl g a.toNat := by
  rcases ha with rfl | rfl | rfl | rfl
  · exact hC.2.1
  · exact hC.2.2.1
  · exact hC.2.2.2.1
  · exact hC.2.2.2.2
theorem z_ctUct {g g' : Nat → Int32} (h : zCt g) {i v j : Int32} (he : g' = upd g i.toNatClampNeg v) (hj : v = g j.toNatClampNeg) (h0 : 0 ≤ i.toInt) (h1 : i.toInt < 1825) (h2 : 0 ≤ j.toInt) (h3 : j.toInt < 1825) (hm : (i.toInt - j.toInt) % 365 = 0) : zCt g' := by
  have hc := z_cval h0
  have hd := z_cval h2
  have ht : tLo i.toNatClampNeg = tLo j.toNatClampNeg ∧ tHi i.toNatClampNeg = tHi j.toNatClampNeg := by
    unfold tLo tHi
    rw [show i.toNatClampNeg % 365 = j.toNatClampNeg % 365 by omega]
    exact ⟨rfl, rfl⟩
  have := h j.toNatClampNeg (by omega)
  exact zCt_upd h he (by rw [ht.1, ht.2, hj]; exact this)
theorem z_far {j : Nat} (h1 : 128 ≤ j) (h2 : j < 365) : zRo (j % 365) = false := by
  rw [Nat.mod_eq_of_lt h2]
  simp only [zRo, Bool.or_eq_false_iff, Bool.and_eq_false_imp, decide_eq_true_eq, decide_eq_false_iff_not]
  omega
/-- a row's first n numbers are those of RINGS -/
def zT3 (g : Nat → Int32) (n : Int) : Prop := ∀ j : Nat, (j : Int) < n → (g j).toInt ≤ 2
theorem zT3_0 (g : Nat → Int32) {n : Int} (h : n = 0) : zT3 g n := fun j hj => absurd hj (by omega)
theorem zT3_less {g : Nat → Int32} {n m : Int} (h : zT3 g n) (hm : m ≤ n) : zT3 g m := fun j hj => h j (by omega)
theorem zT3_upd {g g' : Nat → Int32} {n : Int} {i v : Int32} (h : zT3 g n) (he : g' = upd g i.toNatClampNeg v) (hv : v.toInt ≤ 2) : zT3 g' n := fun j hj => by
  rw [he]; unfold upd
  split
  · exact hv
  · exact h j hj
theorem zT3_add {g g' : Nat → Int32} {n : Int} {i v : Int32} (h : zT3 g n) (he : g' = upd g i.toNatClampNeg v) (hi : i.toInt = n) (h0 : 0 ≤ n) (hv : v.toInt ≤ 2) : zT3 g' (n + 1) := fun j hj => by
  have hc := z_cval (i := i) (by omega)
  rw [he]; unfold upd
  split
  · exact hv
  · exact h j (by omega)
theorem zT3_at {g : Nat → Int32} {n : Int} {x i : Int32} (h : zT3 g n) (hx : x = g i.toNatClampNeg) (h0 : 0 ≤ i.toInt) (hi : i.toInt < n) : x.toInt ≤ 2 := by
  have hc := z_cval h0
  rw [hx]
  exact h _ (by omega)
