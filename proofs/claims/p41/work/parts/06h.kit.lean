theorem z_rgw {a lo hi lo' hi' : Int} (h : lo ≤ a ∧ a ≤ hi) (h1 : lo' ≤ lo) (h2 : hi ≤ hi') : lo' ≤ a ∧ a ≤ hi' := ⟨by omega, by omega⟩
section ZH
variable {p : Program} {l : Launch} {e : Env} {R : Room} {s : State} {m : MethodId} {args : Array Value} {below : List Frame} {meth : Method} {c : Code} {H : Heap} {locs : List Loc} {cells slots : Nat} {Q : State → Prop} {cc : ByteArray} {pc : Nat} {ls : Array Slot} {rest : List Value} {D : va_G} {cl : List vw_C} {tys : List (ClassId × FieldType)} {A : Nat → Prop} {ws : va_W} {H0 : Heap} {a : Addr}
theorem z_no {P : Prop} (h : False) : P := h.elim
theorem z_full (x : Int32) : -2147483648 ≤ x.toInt ∧ x.toInt ≤ 2147483647 := ⟨Int32.le_toInt x, Int32.toInt_le x⟩
theorem z_fulll (x : Int64) : -9223372036854775808 ≤ x.toInt ∧ x.toInt ≤ 9223372036854775807 := ⟨Int64.le_toInt x, Int64.toInt_le x⟩
theorem z_addq {z a b : Int32} (he : z = a + b) {X Y : Int} (ha : a.toInt = X) (hb : b.toInt = Y) (h1 : -2147483648 ≤ X + Y) (h2 : X + Y ≤ 2147483647) : z.toInt = X + Y := by
  rw [he, Int32.toInt_add, ha, hb]
  exact Int.bmod_eq_of_le (by omega) (by omega)
theorem z_subq {z a b : Int32} (he : z = a - b) {X Y : Int} (ha : a.toInt = X) (hb : b.toInt = Y) (h1 : -2147483648 ≤ X - Y) (h2 : X - Y ≤ 2147483647) : z.toInt = X - Y := by
  rw [he, Int32.toInt_sub, ha, hb]
  exact Int.bmod_eq_of_le (by omega) (by omega)
theorem z_mulq {z a b : Int32} (he : z = a * b) {X Y : Int} (ha : a.toInt = X) (hb : b.toInt = Y) (h1 : -2147483648 ≤ X * Y) (h2 : X * Y ≤ 2147483647) : z.toInt = X * Y := by
  rw [he, Int32.toInt_mul, ha, hb]
  exact Int.bmod_eq_of_le (by omega) (by omega)
theorem z_addql {z a b : Int64} (he : z = a + b) {X Y : Int} (ha : a.toInt = X) (hb : b.toInt = Y) (h1 : -9223372036854775808 ≤ X + Y) (h2 : X + Y ≤ 9223372036854775807) : z.toInt = X + Y := by
  rw [he, Int64.toInt_add, ha, hb]
  exact Int.bmod_eq_of_le (by omega) (by omega)
theorem z_subql {z a b : Int64} (he : z = a - b) {X Y : Int} (ha : a.toInt = X) (hb : b.toInt = Y) (h1 : -9223372036854775808 ≤ X - Y) (h2 : X - Y ≤ 9223372036854775807) : z.toInt = X - Y := by
  rw [he, Int64.toInt_sub, ha, hb]
  exact Int.bmod_eq_of_le (by omega) (by omega)
theorem z_mulql {z a b : Int64} (he : z = a * b) {X Y : Int} (ha : a.toInt = X) (hb : b.toInt = Y) (h1 : -9223372036854775808 ≤ X * Y) (h2 : X * Y ≤ 9223372036854775807) : z.toInt = X * Y := by
  rw [he, Int64.toInt_mul, ha, hb]
  exact Int.bmod_eq_of_le (by omega) (by omega)
theorem z_mul_le {x y M N : Int} (h1 : 0 ≤ x ∧ x ≤ M) (h2 : 0 ≤ y ∧ y ≤ N) : 0 ≤ x * y ∧ x * y ≤ M * N := ⟨Int.mul_nonneg h1.1 h2.1, Int.mul_le_mul h1.2 h2.2 h2.1 (Int.le_trans h1.1 h1.2)⟩
theorem z_mulr {z a b : Int32} (he : z = a * b) {M N : Int} (h1 : 0 ≤ a.toInt ∧ a.toInt ≤ M) (h2 : 0 ≤ b.toInt ∧ b.toInt ≤ N) (h : M * N ≤ 2147483647) : 0 ≤ z.toInt ∧ z.toInt ≤ M * N := by
  have hm := z_mul_le h1 h2
  rw [z_mulq he rfl rfl (by omega) (by omega)]
  exact hm
theorem z_mulrl {z a b : Int64} (he : z = a * b) {M N : Int} (h1 : 0 ≤ a.toInt ∧ a.toInt ≤ M) (h2 : 0 ≤ b.toInt ∧ b.toInt ≤ N) (h : M * N ≤ 9223372036854775807) : 0 ≤ z.toInt ∧ z.toInt ≤ M * N := by
  have hm := z_mul_le h1 h2
  rw [z_mulql he rfl rfl (by omega) (by omega)]
  exact hm
theorem z_mulp {z a b : Int32} (he : z = a * b) {M N : Int} (h1 : 0 ≤ a.toInt ∧ a.toInt ≤ M) (h2 : 0 ≤ b.toInt ∧ b.toInt ≤ N) (h : M * N ≤ 2147483647) : 1 ≤ a.toInt → 1 ≤ b.toInt → 1 ≤ z.toInt := fun p q => by
  have hm := z_mul_le h1 h2
  rw [z_mulq he rfl rfl (by omega) (by omega)]
  have := Int.mul_pos (show 0 < a.toInt by omega) (show 0 < b.toInt by omega)
  omega
theorem z_mulpl {z a b : Int64} (he : z = a * b) {M N : Int} (h1 : 0 ≤ a.toInt ∧ a.toInt ≤ M) (h2 : 0 ≤ b.toInt ∧ b.toInt ≤ N) (h : M * N ≤ 9223372036854775807) : 1 ≤ a.toInt → 1 ≤ b.toInt → 1 ≤ z.toInt := fun p q => by
  have hm := z_mul_le h1 h2
  rw [z_mulql he rfl rfl (by omega) (by omega)]
  have := Int.mul_pos (show 0 < a.toInt by omega) (show 0 < b.toInt by omega)
  omega
theorem z_div0 {z a b : Int32} (he : z = a / b) {X Y : Int} (ha : a.toInt = X) (hb : b.toInt = Y) (h0 : 0 ≤ X) (h1 : 0 < Y) : z.toInt = X / Y := by
  have h2 : X ≤ 2147483647 := by rw [← ha]; exact Int32.toInt_le a
  have h3 : X / Y ≤ X := Int.ediv_le_self Y h0
  have h4 : 0 ≤ X / Y := Int.ediv_nonneg h0 (by omega)
  rw [he, Int32.toInt_div, ha, hb, Int.tdiv_eq_ediv_of_nonneg h0]
  exact Int.bmod_eq_of_le (by omega) (by omega)
theorem z_divq {z a b : Int32} (he : z = a / b) {X Y : Int} (ha : a.toInt = X) (hb : b.toInt = Y) (h0 : 0 ≤ X) (h1 : 0 < Y) : z.toInt = X / Y := z_div0 he ha hb h0 h1
theorem z_remq {z a b : Int32} (he : z = a - a / b * b) {X Y : Int} (ha : a.toInt = X) (hb : b.toInt = Y) (h0 : 0 ≤ X) (h1 : 0 < Y) : z.toInt = X % Y := by
  have h2 : X ≤ 2147483647 := by rw [← ha]; exact Int32.toInt_le a
  have hq := z_div0 (z := a / b) rfl ha hb h0 h1
  have h5 : X / Y * Y ≤ X := Int.ediv_mul_le X (by omega)
  have h6 : 0 ≤ X / Y * Y := Int.mul_nonneg (Int.ediv_nonneg h0 (by omega)) (by omega)
  have hm := z_mulq (z := a / b * b) rfl hq hb (by omega) (by omega)
  have h7 : X % Y = X - X / Y * Y := by rw [Int.emod_def, Int.mul_comm]
  rw [h7]
  exact z_subq he ha hm (by omega) (by omega)
theorem z_divr {z a b : Int32} (he : z = a / b) (h0 : 0 ≤ a.toInt) (h1 : 1 ≤ b.toInt) : 0 ≤ z.toInt ∧ z.toInt ≤ a.toInt := by
  rw [z_div0 he rfl rfl h0 (by omega)]
  exact ⟨Int.ediv_nonneg h0 (by omega), Int.ediv_le_self _ h0⟩
theorem z_remr {z a b : Int32} (he : z = a - a / b * b) (h0 : 0 ≤ a.toInt) (h1 : 1 ≤ b.toInt) : 0 ≤ z.toInt ∧ z.toInt < b.toInt ∧ z.toInt ≤ a.toInt := by
  rw [z_remq he rfl rfl h0 (by omega)]
  refine ⟨Int.emod_nonneg _ (by omega), Int.emod_lt_of_pos _ (by omega), ?_⟩
  rw [Int.emod_def]
  have := Int.mul_nonneg (show 0 ≤ b.toInt by omega) (Int.ediv_nonneg h0 (show 0 ≤ b.toInt by omega))
  omega
theorem z_andr {z a b : Int32} (he : z = a &&& b) {Y : Int} (hb : b.toInt = Y) (h0 : 0 ≤ Y) : 0 ≤ z.toInt ∧ z.toInt ≤ Y := by
  have h1 : b.toBitVec.toInt = Y := hb
  have h2 : b.toBitVec.toNat < 2147483648 := by
    rw [BitVec.toInt_eq_toNat_cond] at h1
    have := b.toBitVec.isLt
    split at h1 <;> omega
  have h3 : (b.toBitVec.toNat : Int) = Y := by
    rw [BitVec.toInt_eq_toNat_cond] at h1
    split at h1 <;> omega
  have h4 : z.toBitVec.toNat ≤ b.toBitVec.toNat := by
    rw [he, Int32.toBitVec_and, BitVec.toNat_and]
    exact Nat.and_le_right
  have h5 : z.toInt = (z.toBitVec.toNat : Int) := by
    show z.toBitVec.toInt = _
    rw [BitVec.toInt_eq_toNat_cond, if_pos (by omega)]
  omega
theorem z_shl3 {z y : Int32} (he : z = 1 <<< (y &&& 31)) (h1 : 0 ≤ y.toInt) (h2 : y.toInt ≤ 3) : 1 ≤ z.toInt ∧ z.toInt ≤ 8 := by
  rw [he]
  rcases z_4c h1 (by omega) with rfl | rfl | rfl | rfl <;> decide +kernel
theorem z_i2l {z : Int64} {a : Int32} (he : z = a.toInt64) : z.toInt = a.toInt := by rw [he, Int32.toInt_toInt64]
theorem z_l2i {z : Int32} {a : Int64} (he : z = a.toInt32) (h1 : -2147483648 ≤ a.toInt) (h2 : a.toInt ≤ 2147483647) : z.toInt = a.toInt := by
  rw [he, Int64.toInt_toInt32]
  exact Int.bmod_eq_of_le (by omega) (by omega)
theorem z_remabs {z a b : Int64} (he : z = a - a / b * b) (h : b.toInt ≠ 0) : z.toInt.natAbs < b.toInt.natAbs := by
  have h1 : z.toInt = (a.toInt - a.toInt.tdiv b.toInt * b.toInt).bmod (2 ^ 64) := by
    rw [he, Int64.toInt_sub, Int64.toInt_mul, Int64.toInt_div, Int.sub_bmod_bmod]
    rw [Int.sub_bmod, Int.bmod_mul_bmod, ← Int.sub_bmod]
  have h2 : a.toInt - a.toInt.tdiv b.toInt * b.toInt = a.toInt.tmod b.toInt := by
    have := Int.tmod_def a.toInt b.toInt
    rw [this, Int.mul_comm]
  have h3 : (a.toInt.tmod b.toInt).natAbs < b.toInt.natAbs := by
    rw [Int.natAbs_tmod]
    exact Nat.mod_lt _ (Int.natAbs_pos.mpr h)
  have h4 := z_fulll b
  rw [h1, h2, Int.bmod_eq_of_le (by omega) (by omega)]
  exact h3
def zPF (g g' : Nat → Int32) : Prop := ∀ j, (j < 160 ∨ 180 ≤ j) → g' j = g j
theorem zPF_refl (g : Nat → Int32) : zPF g g := fun _ _ => rfl
theorem zPF_trans {g g1 g2 : Nat → Int32} (h : zPF g g1) (h' : zPF g1 g2) : zPF g g2 := fun j hj => (h' j hj).trans (h j hj)
theorem zPF_upd {g g1 g2 : Nat → Int32} (h : zPF g g1) {i v : Int32} (he : g2 = upd g1 i.toNatClampNeg v) (h1 : 160 ≤ i.toInt) (h2 : i.toInt ≤ 179) : zPF g g2 := fun j hj => by
  have hc : (i.toNatClampNeg : Int) = i.toInt := by rw [Int32.toNatClampNeg, Int.toNat_of_nonneg (by omega)]
  rw [he]; unfold upd; rw [if_neg (by omega)]; exact h j hj
theorem z_nzl {y : Int64} (h : y.toInt ≠ 0) : ¬ y = 0 := fun e => h (by rw [e]; decide +kernel)

theorem z_fltT {x y : Int32} (c : x < y) : x.toInt < y.toInt := Int32.lt_iff_toInt_lt.mp c
theorem z_fltF {x y : Int32} (c : ¬ y ≤ x) : x.toInt < y.toInt := by rw [Int32.le_iff_toInt_le] at c; omega
theorem z_fgeT {x y : Int32} (c : y ≤ x) : y.toInt ≤ x.toInt := Int32.le_iff_toInt_le.mp c
theorem z_fgeF {x y : Int32} (c : ¬ x < y) : y.toInt ≤ x.toInt := by rw [Int32.lt_iff_toInt_lt] at c; omega
theorem z_fgtT {x y : Int32} (c : y < x) : y.toInt < x.toInt := Int32.lt_iff_toInt_lt.mp c
theorem z_fgtF {x y : Int32} (c : ¬ x ≤ y) : y.toInt < x.toInt := by rw [Int32.le_iff_toInt_le] at c; omega
theorem z_fleT {x y : Int32} (c : x ≤ y) : x.toInt ≤ y.toInt := Int32.le_iff_toInt_le.mp c
theorem z_fleF {x y : Int32} (c : ¬ y < x) : x.toInt ≤ y.toInt := by rw [Int32.lt_iff_toInt_lt] at c; omega
theorem z_feqT {x y : Int32} (c : x = y) : x.toInt = y.toInt := congrArg Int32.toInt c
theorem z_feqF {x y : Int32} (c : x = y) : x.toInt = y.toInt := congrArg Int32.toInt c
theorem z_fneT {x y : Int32} (c : ¬ x = y) : x.toInt ≠ y.toInt := fun h => c (Int32.toInt_inj.mp h)
theorem z_fneF {x y : Int32} (c : ¬ x = y) : x.toInt ≠ y.toInt := fun h => c (Int32.toInt_inj.mp h)
theorem z_fltTl {x y : Int64} (c : lg_cmp x y < 0) : x.toInt < y.toInt := Int64.lt_iff_toInt_lt.mp ((lg_cmp_lt x y).mp c)
theorem z_fltFl {x y : Int64} (c : ¬ 0 ≤ lg_cmp x y) : x.toInt < y.toInt := by rw [lg_cmp_ge, Int64.le_iff_toInt_le] at c; omega
theorem z_fgeTl {x y : Int64} (c : 0 ≤ lg_cmp x y) : y.toInt ≤ x.toInt := Int64.le_iff_toInt_le.mp ((lg_cmp_ge x y).mp c)
theorem z_fgeFl {x y : Int64} (c : ¬ lg_cmp x y < 0) : y.toInt ≤ x.toInt := by rw [lg_cmp_lt, Int64.lt_iff_toInt_lt] at c; omega
theorem z_fgtTl {x y : Int64} (c : 0 < lg_cmp x y) : y.toInt < x.toInt := Int64.lt_iff_toInt_lt.mp ((lg_cmp_gt x y).mp c)
theorem z_fgtFl {x y : Int64} (c : ¬ lg_cmp x y ≤ 0) : y.toInt < x.toInt := by rw [lg_cmp_le, Int64.le_iff_toInt_le] at c; omega
theorem z_fleTl {x y : Int64} (c : lg_cmp x y ≤ 0) : x.toInt ≤ y.toInt := Int64.le_iff_toInt_le.mp ((lg_cmp_le x y).mp c)
theorem z_fleFl {x y : Int64} (c : ¬ 0 < lg_cmp x y) : x.toInt ≤ y.toInt := by rw [lg_cmp_gt, Int64.lt_iff_toInt_lt] at c; omega
theorem z_feqTl {x y : Int64} (c : lg_cmp x y = 0) : x.toInt = y.toInt := congrArg Int64.toInt ((lg_cmp_eq x y).mp c)
theorem z_feqFl {x y : Int64} (c : lg_cmp x y = 0) : x.toInt = y.toInt := congrArg Int64.toInt ((lg_cmp_eq x y).mp c)
theorem z_fneTl {x y : Int64} (c : ¬ lg_cmp x y = 0) : x.toInt ≠ y.toInt := fun h => c ((lg_cmp_eq x y).mpr (Int64.toInt_inj.mp h))
theorem z_fneFl {x y : Int64} (c : ¬ lg_cmp x y = 0) : x.toInt ≠ y.toInt := fun h => c ((lg_cmp_eq x y).mpr (Int64.toInt_inj.mp h))

theorem z_clt {i : Int32} {a : Int} (h1 : 0 ≤ i.toInt) (h2 : i.toInt < a) : (i.toNatClampNeg : Int) < a := by
  rw [Int32.toNatClampNeg, Int.toNat_of_nonneg h1]; exact h2
theorem z_cval {i : Int32} (h1 : 0 ≤ i.toInt) : (i.toNatClampNeg : Int) = i.toInt := by
  rw [Int32.toNatClampNeg, Int.toNat_of_nonneg h1]
def zlk (g : Nat → Int32) (e p : Int) : Int := if p < e then ((g p.toNat) &&& 255).toInt else 0
theorem z_lk1 {g : Nat → Int32} {e : Int} {z y p : Int32} (h1 : z = y &&& 255) (h2 : y = g p.toNatClampNeg) (h3 : p.toInt < e) (_ : 0 ≤ p.toInt) : z.toInt = zlk g e p.toInt := by
  unfold zlk
  rw [if_pos h3, h1, h2]; rfl
theorem z_lk0 {g : Nat → Int32} {e p : Int} (h : e ≤ p) : (0 : Int32).toInt = zlk g e p := by
  unfold zlk
  rw [if_neg (by omega)]; decide +kernel
theorem z_lksame {g : Nat → Int32} {e Y Z : Int} {x r : Int32} (h1 : x.toInt = zlk g e Y) (h2 : r.toInt = zlk g e Z) : Z = Y → r.toInt = x.toInt := fun h => by rw [h2, h, h1]
theorem z_atl {g : Nat → Int64} {x : Int64} {p : Int32} (hx : x = g p.toNatClampNeg) {a : Nat} (hp : p.toInt = (a : Int)) : x = g a := by
  have hc := z_cval (i := p) (by omega)
  rw [hx, show p.toNatClampNeg = a by omega]
def zRg (n : Nat) (lo hi : Int) (g : Nat → Int32) : Prop := ∀ j, j < n → lo ≤ (g j).toInt ∧ (g j).toInt ≤ hi
theorem z_rg {n : Nat} {lo hi : Int} {g : Nat → Int32} (h : zRg n lo hi g) {z i : Int32} (he : z = g i.toNatClampNeg) (h1 : 0 ≤ i.toInt) (h2 : i.toInt < n) : lo ≤ z.toInt ∧ z.toInt ≤ hi := by
  rw [he]
  exact h _ (by have := z_clt h1 h2; omega)
theorem z_rgU {n : Nat} {lo hi : Int} {g g' : Nat → Int32} (h : zRg n lo hi g) {i v : Int32} (he : g' = upd g i.toNatClampNeg v) (hv : lo ≤ v.toInt ∧ v.toInt ≤ hi) : zRg n lo hi g' := by
  intro j hj
  rw [he]
  unfold upd
  split
  · exact hv
  · exact h j hj
theorem z_rgZ {n : Nat} {g g' : Nat → Int32} (h : zRg n 0 1 g) {i v : Int32} (he : g' = upd g i.toNatClampNeg (vp_nar .boolean v)) (hv : v = 0 ∨ v = 1) : zRg n 0 1 g' := by
  refine z_rgU h he ?_
  rcases hv with rfl | rfl <;> decide +kernel
def tLo (j : Nat) : Int :=
  let o := j % 365
  if o ≤ 9 then 0 else if o = 10 then -1 else if 11 ≤ o ∧ o ≤ 132 then 0 else if 138 ≤ o ∧ o ≤ 159 then 0 else if o = 180 then 0 else if 181 ≤ o ∧ o ≤ 360 ∧ o % 6 = 5 then 0 else -2147483648
def tHi (j : Nat) : Int :=
  let o := j % 365
  if o = 0 then 3 else if o = 1 then 10 else if o = 2 then 3 else if o = 3 then 5 else if o = 4 then 12 else if o ≤ 8 then 99 else if o = 9 then 16 else if o = 10 then 2 else if 11 ≤ o ∧ o ≤ 13 then 4 else if 17 ≤ o ∧ o ≤ 64 then 16 else if 65 ≤ o ∧ o ≤ 94 then 3 else if 95 ≤ o ∧ o ≤ 97 then 10 else if 98 ≤ o ∧ o ≤ 127 then 9 else if 128 ≤ o ∧ o ≤ 132 then 99 else if 138 ≤ o ∧ o ≤ 149 then 4 else if 14 ≤ o ∧ o ≤ 16 then 1 else if 150 ≤ o ∧ o ≤ 159 then 1 else if o = 180 then 30 else if 181 ≤ o ∧ o ≤ 360 ∧ o % 6 = 5 then 30 else 2147483647
def zCt (g : Nat → Int32) : Prop := ∀ j, j < 1825 → tLo j ≤ (g j).toInt ∧ (g j).toInt ≤ tHi j
/-- what is related in a block that begins at o: FEELS sum to 16, a KEY's STEPS are below, the KEYS on a RING are unlike -/
def zRo (j : Nat) : Bool := j ≤ 2 || (11 ≤ j && j ≤ 13) || (17 ≤ j && j ≤ 127)
def zBl (g : Nat → Int32) (o : Nat) : Prop :=
  (∀ f s : Nat, f < 3 → s < 4 → (f : Int) < (g o).toInt → 16 ≤ (g (o + 17 + 16 * f + 4 * s)).toInt + (g (o + 17 + 16 * f + 4 * s + 1)).toInt + (g (o + 17 + 16 * f + 4 * s + 2)).toInt + (g (o + 17 + 16 * f + 4 * s + 3)).toInt) ∧
  (∀ k f : Nat, k < 10 → f < 3 → (g (o + 65 + 3 * k + f)).toInt = 0 ∨ (g (o + 65 + 3 * k + f)).toInt < (g (o + 11 + f)).toInt) ∧
  (∀ f : Nat, f < 3 → (f : Int) < (g o).toInt → 2 ≤ (g (o + 11 + f)).toInt) ∧
  (∀ r i j : Nat, r < 3 → (r : Int) < (g (o + 2)).toInt → i < j → (j : Int) < (g (o + 95 + r)).toInt → j < 10 → (g (o + 98 + 10 * r + i)).toInt ≠ (g (o + 98 + 10 * r + j)).toInt) ∧
  (∀ r i : Nat, r < 3 → (r : Int) < (g (o + 2)).toInt → (i : Int) < (g (o + 95 + r)).toInt → i < 10 → (g (o + 98 + 10 * r + i)).toInt < (g (o + 1)).toInt)
theorem zBl_same {g g' : Nat → Int32} {o : Nat} (h : zBl g o) (he : ∀ j, zRo j = true → g' (o + j) = g (o + j)) : zBl g' o := by
  have e0 : g' o = g o := he 0 (by decide)
  have e1 := he 1 (by decide)
  have e2 := he 2 (by decide)
  have eS : ∀ f, f < 3 → g' (o + 11 + f) = g (o + 11 + f) := fun f hf => by
    have := he (11 + f) (by simp only [zRo, Bool.or_eq_true, Bool.and_eq_true, decide_eq_true_eq]; omega)
    rw [show o + 11 + f = o + (11 + f) by omega]; exact this
  have eB : ∀ j, 17 ≤ j → j ≤ 127 → g' (o + j) = g (o + j) := fun j h1 h2 => he j (by simp only [zRo, Bool.or_eq_true, Bool.and_eq_true, decide_eq_true_eq]; omega)
  obtain ⟨a1, a2, a3, a4, a5⟩ := h
  refine ⟨fun f s hf hs hl => ?_, fun k f hk hf => ?_, fun f hf hl => ?_, fun r i j hr hl hi hj hj2 => ?_, fun r i hr hl hi hi2 => ?_⟩
  · rw [e0] at hl
    have := a1 f s hf hs hl
    rw [show o + 17 + 16 * f + 4 * s = o + (17 + 16 * f + 4 * s) by omega, show o + (17 + 16 * f + 4 * s) + 1 = o + (17 + 16 * f + 4 * s + 1) by omega, show o + (17 + 16 * f + 4 * s) + 2 = o + (17 + 16 * f + 4 * s + 2) by omega, show o + (17 + 16 * f + 4 * s) + 3 = o + (17 + 16 * f + 4 * s + 3) by omega] at this ⊢
    rw [eB _ (by omega) (by omega), eB _ (by omega) (by omega), eB _ (by omega) (by omega), eB _ (by omega) (by omega)]
    exact this
  · have := a2 k f hk hf
    rw [eS f hf]
    rw [show o + 65 + 3 * k + f = o + (65 + 3 * k + f) by omega] at this ⊢
    rw [eB _ (by omega) (by omega)]
    exact this
  · rw [e0] at hl
    rw [eS f hf]
    exact a3 f hf hl
  · rw [e2] at hl
    rw [show o + 95 + r = o + (95 + r) by omega, eB _ (by omega) (by omega), show o + (95 + r) = o + 95 + r by omega] at hj
    have := a4 r i j hr hl hi hj hj2
    rw [show o + 98 + 10 * r + i = o + (98 + 10 * r + i) by omega, show o + 98 + 10 * r + j = o + (98 + 10 * r + j) by omega] at this ⊢
    rw [eB _ (by omega) (by omega), eB _ (by omega) (by omega)]
    exact this
  · rw [e2] at hl
    rw [show o + 95 + r = o + (95 + r) by omega, eB _ (by omega) (by omega), show o + (95 + r) = o + 95 + r by omega] at hi
    have := a5 r i hr hl hi hi2
    rw [e1]
    rw [show o + 98 + 10 * r + i = o + (98 + 10 * r + i) by omega] at this ⊢
    rw [eB _ (by omega) (by omega)]
    exact this
def zC (g : Nat → Int32) : Prop := zCt g ∧ zBl g 0 ∧ zBl g 365 ∧ zBl g 730 ∧ zBl g 1095
def zck (a b : Nat) (lo hi : Int) : Bool := (List.range (b + 1 - a)).all fun k => decide (lo ≤ tLo (a + k)) && decide (tHi (a + k) ≤ hi)
def zcks (a b M q : Nat) (lo hi : Int) : Bool := (List.range (b + 1 - a)).all fun k => !((a + k) % M == q) || (decide (lo ≤ tLo (a + k)) && decide (tHi (a + k) ≤ hi))
def zcw (a b : Nat) (lo hi : Int) : Bool := (List.range (b + 1 - a)).all fun k => decide (tLo (a + k) ≤ lo) && decide (hi ≤ tHi (a + k))
def zcws (a b M q : Nat) (lo hi : Int) : Bool := (List.range (b + 1 - a)).all fun k => !((a + k) % M == q) || (decide (tLo (a + k) ≤ lo) && decide (hi ≤ tHi (a + k)))
/-- no place from a to b is related, in the blocks ahead of the new one -/
def zfr (a b : Nat) : Bool := (List.range (b + 1 - a)).all fun k => decide (1460 ≤ a + k) || !zRo ((a + k) % 365)
theorem zck_at {a b : Nat} {lo hi : Int} (h : zck a b lo hi = true) {j : Nat} (h1 : a ≤ j) (h2 : j ≤ b) : lo ≤ tLo j ∧ tHi j ≤ hi := by
  have := List.all_eq_true.mp h (j - a) (List.mem_range.mpr (by omega))
  rw [show a + (j - a) = j by omega] at this
  simpa using this
theorem zcks_at {a b M q : Nat} {lo hi : Int} (h : zcks a b M q lo hi = true) {j : Nat} (h1 : a ≤ j) (h2 : j ≤ b) (h3 : j % M = q) : lo ≤ tLo j ∧ tHi j ≤ hi := by
  have := List.all_eq_true.mp h (j - a) (List.mem_range.mpr (by omega))
  rw [show a + (j - a) = j by omega] at this
  simpa [h3] using this
theorem zcw_at {a b : Nat} {lo hi : Int} (h : zcw a b lo hi = true) {j : Nat} (h1 : a ≤ j) (h2 : j ≤ b) : tLo j ≤ lo ∧ hi ≤ tHi j := by
  have := List.all_eq_true.mp h (j - a) (List.mem_range.mpr (by omega))
  rw [show a + (j - a) = j by omega] at this
  simpa using this
theorem zcws_at {a b M q : Nat} {lo hi : Int} (h : zcws a b M q lo hi = true) {j : Nat} (h1 : a ≤ j) (h2 : j ≤ b) (h3 : j % M = q) : tLo j ≤ lo ∧ hi ≤ tHi j := by
  have := List.all_eq_true.mp h (j - a) (List.mem_range.mpr (by omega))
  rw [show a + (j - a) = j by omega] at this
  simpa [h3] using this
theorem zfr_at {a b : Nat} (h : zfr a b = true) {j : Nat} (h1 : a ≤ j) (h2 : j ≤ b) : 1460 ≤ j ∨ zRo (j % 365) = false := by
  have := List.all_eq_true.mp h (j - a) (List.mem_range.mpr (by omega))
  rw [show a + (j - a) = j by omega] at this
  simpa using this
theorem z_ct {g : Nat → Int32} (h : zC g) {z i : Int32} (he : z = g i.toNatClampNeg) {a b : Nat} {lo hi : Int} (hd : zck a b lo hi = true) (hb : b < 1825) (h1 : (a : Int) ≤ i.toInt) (h2 : i.toInt ≤ b) : lo ≤ z.toInt ∧ z.toInt ≤ hi := by
  have hc := z_cval (i := i) (by omega)
  have hk := zck_at hd (j := i.toNatClampNeg) (by omega) (by omega)
  have := h.1 i.toNatClampNeg (by omega)
  rw [he]
  omega
theorem z_cts {g : Nat → Int32} (h : zC g) {z i : Int32} (he : z = g i.toNatClampNeg) {a b M q : Nat} {lo hi : Int} (hd : zcks a b M q lo hi = true) (hb : b < 1825) (h1 : (a : Int) ≤ i.toInt) (h2 : i.toInt ≤ b) (h3 : i.toInt % M = q) : lo ≤ z.toInt ∧ z.toInt ≤ hi := by
  have hc := z_cval (i := i) (by omega)
  have hk := zcks_at hd (j := i.toNatClampNeg) (by omega) (by omega) (by rw [← hc] at h3; exact_mod_cast h3)
  have := h.1 i.toNatClampNeg (by omega)
  rw [he]
  omega
theorem z_ctk {g : Nat → Int32} (h : zC g) {z i : Int32} (he : z = g i.toNatClampNeg) {k : Nat} {lo hi : Int} (hi0 : i.toNatClampNeg = k) (hk : k < 1825) (hd : lo ≤ tLo k ∧ tHi k ≤ hi) : lo ≤ z.toInt ∧ z.toInt ≤ hi := by
  rw [he, hi0]
  have := h.1 k hk
  omega
theorem z_cv {g : Nat → Int32} {z i : Int32} (he : z = g i.toNatClampNeg) {k : Nat} (hi0 : i.toNatClampNeg = k) : z.toInt = (g k).toInt := by rw [he, hi0]
theorem z_cwk {g g' : Nat → Int32} {i v : Int32} (he : g' = upd g i.toNatClampNeg v) {k : Nat} (hi0 : i.toNatClampNeg = k) : (g' k).toInt = v.toInt := by rw [he, hi0]; unfold upd; rw [if_pos rfl]
theorem z_cwo {g g' : Nat → Int32} {i v : Int32} (he : g' = upd g i.toNatClampNeg v) {k : Nat} (h : i.toInt ≠ k) (h0 : 0 ≤ i.toInt) : (g' k).toInt = (g k).toInt := by
  have hc := z_cval h0
  rw [he]; unfold upd; rw [if_neg (by omega)]
theorem zC_upd {g g' : Nat → Int32} (h : zC g) {j : Nat} {v : Int32} (he : g' = upd g j v) (h1 : tLo j ≤ v.toInt ∧ v.toInt ≤ tHi j) (h2 : 1460 ≤ j ∨ zRo (j % 365) = false) : zC g' := by
  have hB : ∀ o, o + 365 ≤ 1460 → o % 365 = 0 → zBl g o → zBl g' o := fun o ho hm hb => zBl_same hb (fun k hk => by
    rw [he]; unfold upd
    rw [if_neg]
    intro e
    have hk2 : k ≤ 127 := by
      simp only [zRo, Bool.or_eq_true, Bool.and_eq_true, decide_eq_true_eq] at hk; omega
    rcases h2 with h2 | h2
    · omega
    · rw [← e, show (o + k) % 365 = k by omega, hk] at h2
      cases h2)
  refine ⟨fun k hk => ?_, hB 0 (by decide) (by decide) h.2.1, hB 365 (by decide) (by decide) h.2.2.1, hB 730 (by decide) (by decide) h.2.2.2.1, hB 1095 (by decide) (by decide) h.2.2.2.2⟩
  rw [he]; unfold upd
  split
  · rename_i e; rw [e]; exact h1
  · exact h.1 k hk
theorem z_ctt {g : Nat → Int32} (h : zCt g) {z i : Int32} (he : z = g i.toNatClampNeg) {a b : Nat} {lo hi : Int} (hd : zck a b lo hi = true) (hb : b < 1825) (h1 : (a : Int) ≤ i.toInt) (h2 : i.toInt ≤ b) : lo ≤ z.toInt ∧ z.toInt ≤ hi := by
  have hc := z_cval (i := i) (by omega)
  have hk := zck_at hd (j := i.toNatClampNeg) (by omega) (by omega)
  have := h i.toNatClampNeg (by omega)
  rw [he]
  omega
theorem z_ctst {g : Nat → Int32} (h : zCt g) {z i : Int32} (he : z = g i.toNatClampNeg) {a b M q : Nat} {lo hi : Int} (hd : zcks a b M q lo hi = true) (hb : b < 1825) (h1 : (a : Int) ≤ i.toInt) (h2 : i.toInt ≤ b) (h3 : i.toInt % M = q) : lo ≤ z.toInt ∧ z.toInt ≤ hi := by
  have hc := z_cval (i := i) (by omega)
  have hk := zcks_at hd (j := i.toNatClampNeg) (by omega) (by omega) (by rw [← hc] at h3; exact_mod_cast h3)
  have := h i.toNatClampNeg (by omega)
  rw [he]
  omega
theorem z_ctkt {g : Nat → Int32} (h : zCt g) {z i : Int32} (he : z = g i.toNatClampNeg) {k : Nat} {lo hi : Int} (hi0 : i.toNatClampNeg = k) (hk : k < 1825) (hd : lo ≤ tLo k ∧ tHi k ≤ hi) : lo ≤ z.toInt ∧ z.toInt ≤ hi := by
  rw [he, hi0]
  have := h k hk
  omega
theorem zCt_upd {g g' : Nat → Int32} (h : zCt g) {j : Nat} {v : Int32} (he : g' = upd g j v) (h1 : tLo j ≤ v.toInt ∧ v.toInt ≤ tHi j) : zCt g' := by
  intro k hk
  rw [he]; unfold upd
  split
  · rename_i e; rw [e]; exact h1
  · exact h k hk
theorem z_ctUt {g g' : Nat → Int32} (h : zCt g) {i v : Int32} (he : g' = upd g i.toNatClampNeg v) {a b : Nat} {lo hi : Int} (hd : zcw a b lo hi = true) (h1 : (a : Int) ≤ i.toInt) (h2 : i.toInt ≤ b) (hv : lo ≤ v.toInt ∧ v.toInt ≤ hi) : zCt g' := by
  have hc := z_cval (i := i) (by omega)
  have hk := zcw_at hd (j := i.toNatClampNeg) (by omega) (by omega)
  exact zCt_upd h he (by omega)
theorem z_ctUkt {g g' : Nat → Int32} (h : zCt g) {i v : Int32} (he : g' = upd g i.toNatClampNeg v) {k : Nat} {lo hi : Int} (hi0 : i.toNatClampNeg = k) (hd : tLo k ≤ lo ∧ hi ≤ tHi k) (hv : lo ≤ v.toInt ∧ v.toInt ≤ hi) : zCt g' := by
  rw [hi0] at he
  exact zCt_upd h he (by omega)
theorem z_ctU {g g' : Nat → Int32} (h : zC g) {i v : Int32} (he : g' = upd g i.toNatClampNeg v) {a b : Nat} {lo hi : Int} (hd : zcw a b lo hi = true) (hf : zfr a b = true) (h1 : (a : Int) ≤ i.toInt) (h2 : i.toInt ≤ b) (hv : lo ≤ v.toInt ∧ v.toInt ≤ hi) : zC g' := by
  have hc := z_cval (i := i) (by omega)
  have hk := zcw_at hd (j := i.toNatClampNeg) (by omega) (by omega)
  exact zC_upd h he (by omega) (zfr_at hf (by omega) (by omega))
theorem z_ctUs {g g' : Nat → Int32} (h : zC g) {i v : Int32} (he : g' = upd g i.toNatClampNeg v) {a b M q : Nat} {lo hi : Int} (hd : zcws a b M q lo hi = true) (hf : zfr a b = true) (h1 : (a : Int) ≤ i.toInt) (h2 : i.toInt ≤ b) (h3 : i.toInt % M = q) (hv : lo ≤ v.toInt ∧ v.toInt ≤ hi) : zC g' := by
  have hc := z_cval (i := i) (by omega)
  have hk := zcws_at hd (j := i.toNatClampNeg) (by omega) (by omega) (by rw [← hc] at h3; exact_mod_cast h3)
  exact zC_upd h he (by omega) (zfr_at hf (by omega) (by omega))
theorem z_ctUk {g g' : Nat → Int32} (h : zC g) {i v : Int32} (he : g' = upd g i.toNatClampNeg v) {k : Nat} {lo hi : Int} (hi0 : i.toNatClampNeg = k) (hd : tLo k ≤ lo ∧ hi ≤ tHi k) (hf : 1460 ≤ k ∨ zRo (k % 365) = false) (hv : lo ≤ v.toInt ∧ v.toInt ≤ hi) : zC g' := by
  rw [hi0] at he
  exact zC_upd h he (by omega) hf
/-- a number that comes to a place of the same kind in another block -/
theorem z_ctUc {g g' : Nat → Int32} (h : zC g) {i v j : Int32} (he : g' = upd g i.toNatClampNeg v) (hj : v = g j.toNatClampNeg) (h0 : 0 ≤ i.toInt) (h1 : i.toInt < 1825) (h2 : 0 ≤ j.toInt) (h3 : j.toInt < 1825) (hm : (i.toInt - j.toInt) % 365 = 0) (hf : 1460 ≤ i.toInt ∨ zRo (i.toInt.toNat % 365) = false) : zC g' := by
  have hc := z_cval h0
  have hd := z_cval h2
  have ht : tLo i.toNatClampNeg = tLo j.toNatClampNeg ∧ tHi i.toNatClampNeg = tHi j.toNatClampNeg := by
    unfold tLo tHi
    rw [show i.toNatClampNeg % 365 = j.toNatClampNeg % 365 by omega]
    exact ⟨rfl, rfl⟩
  have := h.1 j.toNatClampNeg (by omega)
  refine zC_upd h he (by rw [ht.1, ht.2, hj]; exact this) ?_
  rcases hf with hf | hf
  · exact Or.inl (by omega)
  · exact Or.inr (by rw [show i.toNatClampNeg = i.toInt.toNat by omega]; exact hf)

theorem z_iast (hexec : p.tables.exec = Jvm.exec) (hb : c.code = cc) (hK : va_K D cl tys s) (hP : va_P D cl ws H) (hD : va_D A ws) (hS : va_S A H0 H locs) (q0 t0 : Nat) {cA : ClassId} {n : Nat} {f : Nat → Int32} (ha : ws[q0]? = some (a, .inl (cA, n, .inl f))) (ht : tys[t0]? = some (cA, .int)) {i : Int32} {x : Int32} (hin : vp_in i n) (hdg : decode cc pc = .ok (.iastore, 1))
    (kk : ∀ (g : Nat → Int32), g = upd f i.toNatClampNeg x → ∀ (H1 : Heap) (locs1 : List Loc), va_P D cl (ws.set q0 (a, .inl (cA, n, .inl g))) H1 → va_D A (ws.set q0 (a, .inl (cA, n, .inl g))) → va_S A H0 H1 locs1 → W p l e R s m args below meth c H1 locs1 cells slots Q (F0 m (pc + 1) ls rest)) : W p l e R s m args below meth c H locs cells slots Q (F0 m pc ls (.int x :: .int i :: .ref a :: rest)) := va_iast hexec hb hK hP hD hS q0 t0 ha ht hin hdg (fun H1 locs1 h1 h2 h3 => kk _ rfl H1 locs1 h1 h2 h3)
theorem z_last (hexec : p.tables.exec = Jvm.exec) (hb : c.code = cc) (hK : va_K D cl tys s) (hP : va_P D cl ws H) (hD : va_D A ws) (hS : va_S A H0 H locs) (q0 t0 : Nat) {cA : ClassId} {n : Nat} {f : Nat → Int64} (ha : ws[q0]? = some (a, .inl (cA, n, .inr (.inl f)))) (ht : tys[t0]? = some (cA, .long)) {i : Int32} {x : Int64} (hin : vp_in i n) (hdg : decode cc pc = .ok (.lastore, 1))
    (kk : ∀ (g : Nat → Int64), g = vp_updL f i.toNatClampNeg x → ∀ (H1 : Heap) (locs1 : List Loc), va_P D cl (ws.set q0 (a, .inl (cA, n, .inr (.inl g)))) H1 → va_D A (ws.set q0 (a, .inl (cA, n, .inr (.inl g)))) → va_S A H0 H1 locs1 → W p l e R s m args below meth c H1 locs1 cells slots Q (F0 m (pc + 1) ls rest)) : W p l e R s m args below meth c H locs cells slots Q (F0 m pc ls (.long x :: .int i :: .ref a :: rest)) := va_last hexec hb hK hP hD hS q0 t0 ha ht hin hdg (fun H1 locs1 h1 h2 h3 => kk _ rfl H1 locs1 h1 h2 h3)
theorem z_bast (hexec : p.tables.exec = Jvm.exec) (hb : c.code = cc) (hK : va_K D cl tys s) (hP : va_P D cl ws H) (hD : va_D A ws) (hS : va_S A H0 H locs) (q0 t0 : Nat) {cA : ClassId} {n : Nat} {f : Nat → Int32} (ha : ws[q0]? = some (a, .inl (cA, n, .inl f))) (ht : tys[t0]? = some (cA, .byte)) {i : Int32} {x : Int32} (hin : vp_in i n) (hdg : decode cc pc = .ok (.bastore, 1))
    (kk : ∀ (g : Nat → Int32), g = upd f i.toNatClampNeg (vp_nar .byte x) → ∀ (H1 : Heap) (locs1 : List Loc), va_P D cl (ws.set q0 (a, .inl (cA, n, .inl g))) H1 → va_D A (ws.set q0 (a, .inl (cA, n, .inl g))) → va_S A H0 H1 locs1 → W p l e R s m args below meth c H1 locs1 cells slots Q (F0 m (pc + 1) ls rest)) : W p l e R s m args below meth c H locs cells slots Q (F0 m pc ls (.int x :: .int i :: .ref a :: rest)) := va_bast hexec hb hK hP hD hS q0 t0 ha ht hin hdg (fun H1 locs1 h1 h2 h3 => kk _ rfl H1 locs1 h1 h2 h3)
theorem z_zast (hexec : p.tables.exec = Jvm.exec) (hb : c.code = cc) (hK : va_K D cl tys s) (hP : va_P D cl ws H) (hD : va_D A ws) (hS : va_S A H0 H locs) (q0 t0 : Nat) {cA : ClassId} {n : Nat} {f : Nat → Int32} (ha : ws[q0]? = some (a, .inl (cA, n, .inl f))) (ht : tys[t0]? = some (cA, .boolean)) {i : Int32} {x : Int32} (hin : vp_in i n) (hdg : decode cc pc = .ok (.bastore, 1))
    (kk : ∀ (g : Nat → Int32), g = upd f i.toNatClampNeg (vp_nar .boolean x) → ∀ (H1 : Heap) (locs1 : List Loc), va_P D cl (ws.set q0 (a, .inl (cA, n, .inl g))) H1 → va_D A (ws.set q0 (a, .inl (cA, n, .inl g))) → va_S A H0 H1 locs1 → W p l e R s m args below meth c H1 locs1 cells slots Q (F0 m (pc + 1) ls rest)) : W p l e R s m args below meth c H locs cells slots Q (F0 m pc ls (.int x :: .int i :: .ref a :: rest)) := va_zast hexec hb hK hP hD hS q0 t0 ha ht hin hdg (fun H1 locs1 h1 h2 h3 => kk _ rfl H1 locs1 h1 h2 h3)
end ZH
theorem z_at {g : Nat → Int32} {x p : Int32} (hx : x = g p.toNatClampNeg) {a : Nat} (hp : p.toInt = (a : Int)) : x = g a := by
  have hc := z_cval (i := p) (by omega)
  rw [hx, show p.toNatClampNeg = a by omega]
theorem z_updat {g g' : Nat → Int32} {p v : Int32} (hg : g' = upd g p.toNatClampNeg v) {a : Nat} (hp : p.toInt = (a : Int)) : g' = upd g a v := by
  have hc := z_cval (i := p) (by omega)
  rw [hg, show p.toNatClampNeg = a by omega]
def zNo (g : Nat → Int32) (k r i : Int) : Prop := (∀ q : Nat, (q : Int) < r → ∀ j : Nat, (j : Int) < (g (95 + q)).toInt → (g (98 + 10 * q + j)).toInt ≠ k) ∧ (∀ j : Nat, (j : Int) < i → (g (98 + 10 * r.toNat + j)).toInt ≠ k)
def zRO (g : Nat → Int32) (k r : Int) : Prop := (r = -1 ∧ zNo g k (g 2).toInt 0) ∨ (0 ≤ r ∧ r < (g 2).toInt ∧ ∃ i : Nat, (i : Int) < (g (95 + r.toNat)).toInt ∧ (g (98 + 10 * r.toNat + i)).toInt = k ∧ zNo g k r i)
theorem zNo_0 {g : Nat → Int32} {k : Int} : zNo g k (0 : Int32).toInt 0 := by
  rw [show (0 : Int32).toInt = 0 by decide +kernel]
  exact ⟨fun q h => absurd h (by omega), fun j h => absurd h (by omega)⟩
theorem zNo_in {g : Nat → Int32} {k r : Int} (h : zNo g k r 0) : zNo g k r (0 : Int32).toInt := by
  rw [show (0 : Int32).toInt = 0 by decide +kernel]
  exact h
theorem zNo_step {g : Nat → Int32} {k r i : Int} (h : zNo g k r i) {x p : Int32} (hx : x = g p.toNatClampNeg) (hp : p.toInt = 98 + 10 * r + i) (h0 : 0 ≤ r) (h1 : 0 ≤ i) (hne : x.toInt ≠ k) : zNo g k r (i + 1) := by
  refine ⟨h.1, fun j hj => ?_⟩
  by_cases e : (j : Int) = i
  · have := z_at hx (a := 98 + 10 * r.toNat + j) (by omega)
    rw [← this]; exact hne
  · exact h.2 j (by omega)
theorem zNo_next {g : Nat → Int32} {k r i : Int} (h : zNo g k r i) {y q : Int32} (hy : y = g q.toNatClampNeg) (hq : q.toInt = 95 + r) (h0 : 0 ≤ r) (hi : y.toInt ≤ i) : zNo g k (r + 1) 0 := by
  refine ⟨fun q' hq' j hj => ?_, fun j hj => absurd hj (by omega)⟩
  by_cases e : (q' : Int) = r
  · have := z_at hy (a := 95 + q') (by omega)
    rw [← this] at hj
    have h2 := h.2 j (by omega)
    rw [show r.toNat = q' by omega] at h2
    exact h2
  · exact h.1 q' (by omega) j hj
theorem zRO_found {g : Nat → Int32} {k r i : Int} (h : zNo g k r i) (h0 : 0 ≤ r) (hr : r < (g 2).toInt) (h1 : 0 ≤ i) {x p y q : Int32} (hx : x = g p.toNatClampNeg) (hp : p.toInt = 98 + 10 * r + i) (hy : y = g q.toNatClampNeg) (hq : q.toInt = 95 + r) (hi : i < y.toInt) (hk : x.toInt = k) : zRO g k r := by
  refine Or.inr ⟨h0, hr, i.toNat, ?_, ?_, ?_⟩
  · rw [← z_at hy (a := 95 + r.toNat) (by omega)]; omega
  · rw [← z_at hx (a := 98 + 10 * r.toNat + i.toNat) (by omega)]; exact hk
  · rw [show ((i.toNat : Nat) : Int) = i by omega]; exact h
theorem zRO_none {g : Nat → Int32} {k r : Int} (h : zNo g k r 0) (hr : (g 2).toInt ≤ r) : zRO g k (-1 : Int32).toInt := by
  rw [show (-1 : Int32).toInt = -1 by decide +kernel]
  exact Or.inl ⟨rfl, fun q hq j hj => h.1 q (by omega) j hj, fun j hj => absurd hj (by omega)⟩
theorem zRO_unique {g : Nat → Int32} {k a b : Int} (h1 : zRO g k a) (h2 : zRO g k b) : a = b := by
  have key : ∀ {a b : Int}, zRO g k a → zRO g k b → ¬ (0 ≤ a ∧ (a < b ∨ b = -1)) := fun {a b} h1 h2 hh => by
    rcases h1 with ⟨e, -⟩ | ⟨h0, hr, i, hi, hk, -⟩
    · omega
    · have hN : zNo g k (if b = -1 then (g 2).toInt else b) 0 := by
        rcases h2 with ⟨e2, hn⟩ | ⟨h02, hr2, i2, hi2, hk2, hn2⟩
        · rw [if_pos e2]; exact hn
        · rw [if_neg (by omega)]; exact ⟨hn2.1, fun j hj => absurd hj (by omega)⟩
      have hlt : a < (if b = -1 then (g 2).toInt else b) := by split <;> omega
      exact hN.1 a.toNat (by omega) i hi hk
  have b1 : a = -1 ∨ 0 ≤ a := h1.elim (fun h => Or.inl h.1) (fun h => Or.inr h.1)
  have b2 : b = -1 ∨ 0 ≤ b := h2.elim (fun h => Or.inl h.1) (fun h => Or.inr h.1)
  have n1 := key h1 h2
  have n2 := key h2 h1
  omega
/-- the place that is found first -/
def zPO (g : Nat → Int32) (k i : Int) : Prop := (i = -1 ∧ zRO g k (-1)) ∨ (0 ≤ i ∧ ∃ r, 0 ≤ r ∧ zRO g k r ∧ i < (g (95 + r.toNat)).toInt ∧ (g (98 + 10 * r.toNat + i.toNat)).toInt = k)
theorem zPO_none {g : Nat → Int32} {k r : Int} (h : zRO g k r) (hr : r < 0) : zPO g k (-1 : Int32).toInt := by
  rw [show (-1 : Int32).toInt = -1 by decide +kernel]
  rcases h with ⟨e, h⟩ | ⟨h0, -⟩
  · exact Or.inl ⟨rfl, Or.inl ⟨rfl, h⟩⟩
  · omega
theorem zPO_found {g : Nat → Int32} {k r i : Int} (h : zRO g k r) (h0 : 0 ≤ r) (h1 : 0 ≤ i) {x p y q : Int32} (hx : x = g p.toNatClampNeg) (hp : p.toInt = 98 + 10 * r + i) (hy : y = g q.toNatClampNeg) (hq : q.toInt = 95 + r) (hi : i < y.toInt) (hk : x.toInt = k) : zPO g k i := by
  refine Or.inr ⟨h1, r, h0, h, ?_, ?_⟩
  · rw [← z_at hy (a := 95 + r.toNat) (by omega)]; exact hi
  · rw [← z_at hx (a := 98 + 10 * r.toNat + i.toNat) (by omega)]; exact hk
def zNi (g : Nat → Int32) (k r i : Int) : Prop := ∀ j : Nat, (j : Int) < i → (g (98 + 10 * r.toNat + j)).toInt ≠ k
theorem zNi_0 {g : Nat → Int32} {k r : Int} : zNi g k r (0 : Int32).toInt := by
  rw [show (0 : Int32).toInt = 0 by decide +kernel]
  exact fun j h => absurd h (by omega)
theorem zNi_step {g : Nat → Int32} {k r i : Int} (h : zNi g k r i) {x p : Int32} (hx : x = g p.toNatClampNeg) (hp : p.toInt = 98 + 10 * r + i) (h0 : 0 ≤ r) (h1 : 0 ≤ i) (hne : x.toInt ≠ k) : zNi g k r (i + 1) := by
  intro j hj
  by_cases e : (j : Int) = i
  · have := z_at hx (a := 98 + 10 * r.toNat + j) (by omega)
    rw [← this]; exact hne
  · exact h j (by omega)
theorem zNi_no {g : Nat → Int32} {k r i : Int} (h : zNi g k r i) (hr : zRO g k r) (h0 : 0 ≤ r) {y q : Int32} (hy : y = g q.toNatClampNeg) (hq : q.toInt = 95 + r) (hi : y.toInt ≤ i) : False := by
  rcases hr with ⟨e, -⟩ | ⟨-, -, j, hj, hk, -⟩
  · omega
  · rw [← z_at hy (a := 95 + r.toNat) (by omega)] at hj
    exact h j (by omega) hk
/-- how many are there among the first i of a RING -/
def zgc (g : Nat → Int32) (r : Nat) : Nat → Int
  | 0 => 0
  | i + 1 => zgc g r i + (if (g (150 + (g (98 + 10 * r + i)).toInt.toNat)).toInt = 1 then 0 else 1)
def zgn (g : Nat → Int32) (r : Int) : Int := zgc g r.toNat (g (95 + r.toNat)).toInt.toNat
theorem zgc_0 {g : Nat → Int32} {r : Nat} : (0 : Int32).toInt = zgc g r (0 : Int32).toInt.toNat := by
  rw [show (0 : Int32).toInt = 0 by decide +kernel]; rfl
theorem zgc_skip {g : Nat → Int32} {r i M : Int} (h : M = zgc g r.toNat i.toNat) {k p l q : Int32} (hk : k = g p.toNatClampNeg) (hp : p.toInt = 98 + 10 * r + i) (hl : l = g q.toNatClampNeg) (hq : q.toInt = 150 + k.toInt) (h0 : 0 ≤ r) (h1 : 0 ≤ i) (h2 : 0 ≤ k.toInt) (h3 : l.toInt = 1) : M = zgc g r.toNat (i + 1).toNat := by
  have e1 := z_at hk (a := 98 + 10 * r.toNat + i.toNat) (by omega)
  have e2 := z_at hl (a := 150 + k.toInt.toNat) (by omega)
  rw [show (i + 1).toNat = i.toNat + 1 by omega]
  unfold zgc
  rw [← e1, ← e2, if_pos h3, ← h]; omega
theorem zgc_more {g : Nat → Int32} {r i M : Int} (h : M = zgc g r.toNat i.toNat) {k p l q : Int32} (hk : k = g p.toNatClampNeg) (hp : p.toInt = 98 + 10 * r + i) (hl : l = g q.toNatClampNeg) (hq : q.toInt = 150 + k.toInt) (h0 : 0 ≤ r) (h1 : 0 ≤ i) (h2 : 0 ≤ k.toInt) (h3 : l.toInt ≠ 1) : M + 1 = zgc g r.toNat (i + 1).toNat := by
  have e1 := z_at hk (a := 98 + 10 * r.toNat + i.toNat) (by omega)
  have e2 := z_at hl (a := 150 + k.toInt.toNat) (by omega)
  rw [show (i + 1).toNat = i.toNat + 1 by omega]
  unfold zgc
  rw [← e1, ← e2, if_neg h3, ← h]
theorem z_sz {g : Nat → Int32} {r : Int} {y q : Int32} (hy : y = g q.toNatClampNeg) (hq : q.toInt = 95 + r) (h0 : 0 ≤ r) : (g (95 + r.toNat)).toInt = y.toInt := by
  rw [z_at hy (a := 95 + r.toNat) (by omega)]
theorem zgn_of {g : Nat → Int32} {r i M : Int} (h : M = zgc g r.toNat i.toNat) (hi : i = (g (95 + r.toNat)).toInt) : M = zgn g r := by
  unfold zgn; rw [← hi]; exact h
theorem zgc_le {g : Nat → Int32} {r : Nat} : ∀ i : Nat, 0 ≤ zgc g r i ∧ zgc g r i ≤ i
  | 0 => ⟨Int.le_refl 0, Int.le_refl 0⟩
  | i + 1 => by
    have := zgc_le (g := g) (r := r) i
    unfold zgc
    split <;> omega
theorem zgc_mono {g : Nat → Int32} {r : Nat} : ∀ {i j : Nat}, i ≤ j → zgc g r i ≤ zgc g r j := fun {i j} h => by
  induction h with
  | refl => exact Int.le_refl _
  | step _ ih =>
    rename_i m _
    have : zgc g r m ≤ zgc g r (m + 1) := by
      show zgc g r m ≤ zgc g r m + _
      split <;> omega
    show zgc g r i ≤ zgc g r (m + 1)
    omega
theorem zgc_one {g : Nat → Int32} {r i n : Nat} (h : i < n) (hl : (g (150 + (g (98 + 10 * r + i)).toInt.toNat)).toInt ≠ 1) : 1 ≤ zgc g r n := by
  have h1 : zgc g r (i + 1) = zgc g r i + 1 := by
    show zgc g r i + _ = _
    rw [if_neg hl]
  have h2 := zgc_mono (g := g) (r := r) (show i + 1 ≤ n by omega)
  have h3 := zgc_le (g := g) (r := r) i
  omega
theorem zgc_same {g g' : Nat → Int32} {r : Nat} (n : Nat) (h1 : ∀ j, j < n → g' (98 + 10 * r + j) = g (98 + 10 * r + j)) (h2 : ∀ j, j < n → g' (150 + (g (98 + 10 * r + j)).toInt.toNat) = g (150 + (g (98 + 10 * r + j)).toInt.toNat)) : zgc g' r n = zgc g r n := by
  induction n with
  | zero => rfl
  | succ n ih =>
    show zgc g' r n + _ = zgc g r n + _
    rw [ih (fun j hj => h1 j (by omega)) (fun j hj => h2 j (by omega)), h1 n (by omega), h2 n (by omega)]
theorem zgn_PF {g g' : Nat → Int32} (h : zPF g g') (hC : zCt g) {r : Int} (h0 : 0 ≤ r) (h2 : r ≤ 2) : zgn g' r = zgn g r := by
  unfold zgn
  rw [h _ (Or.inl (by omega))]
  have hs := hC (95 + r.toNat) (by omega)
  have hsz : (g (95 + r.toNat)).toInt ≤ 10 := by
    rcases (show r.toNat = 0 ∨ r.toNat = 1 ∨ r.toNat = 2 by omega) with e | e | e <;> rw [e] at hs ⊢ <;> exact Int.le_trans hs.2 (by decide)
  refine zgc_same _ (fun j hj => h _ (Or.inl (by omega))) (fun j hj => h _ (Or.inl ?_))
  have hk := hC (98 + 10 * r.toNat + j) (by omega)
  have hk9 : (g (98 + 10 * r.toNat + j)).toInt ≤ 9 := by
    have : tHi (98 + 10 * r.toNat + j) = 9 := by
      unfold tHi
      rw [Nat.mod_eq_of_lt (by omega)]
      simp only []
      repeat (rw [if_neg (by omega)])
      rw [if_pos (by omega)]
    omega
  omega
def zIO (g : Nat → Int32) (k m : Int) : Prop := ∃ r, 0 ≤ r ∧ r ≤ 2 ∧ zRO g k r ∧ m = zgn g r ∧ 1 ≤ m
def zBe (g : Nat → Int32) (k n : Int) : Prop := (zRO g k (-1) ∧ n = 2147483647) ∨ ∃ r, 0 ≤ r ∧ r ≤ 2 ∧ zRO g k r ∧ n = zgn g r ∧ 0 ≤ n ∧ n ≤ 10
theorem zBe_none {g : Nat → Int32} {k r : Int} (h : zRO g k r) (hr : r < 0) : zBe g k (2147483647 : Int32).toInt := by
  rw [show (2147483647 : Int32).toInt = 2147483647 by decide +kernel]
  rcases h with ⟨e, h⟩ | ⟨h0, -⟩
  · exact Or.inl ⟨Or.inl ⟨rfl, h⟩, rfl⟩
  · omega
theorem zBe_some {g : Nat → Int32} {k r n : Int} (h : zRO g k r) (h0 : 0 ≤ r) (h2 : r ≤ 2) (hn : n = zgn g r) (h3 : 0 ≤ n) (h4 : n ≤ 10) : zBe g k n := Or.inr ⟨r, h0, h2, h, hn, h3, h4⟩
theorem zBe_IO {g : Nat → Int32} {k n m : Int} (h : zBe g k n) (h' : zIO g k m) : n = m ∧ 1 ≤ n ∧ n ≤ 10 := by
  obtain ⟨r, h0, h2, hr, hm, h1⟩ := h'
  rcases h with ⟨hn, -⟩ | ⟨r', h0', h2', hr', hn, h3, h4⟩
  · have := zRO_unique hn hr; omega
  · have := zRO_unique hr hr'
    subst this
    omega
