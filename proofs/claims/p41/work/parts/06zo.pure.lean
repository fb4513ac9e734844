theorem q_bitclr {x : Int32} {r j : Nat} (hr : r < 32) (hj : j < 32) (h : qBit x r = 1) : qBit (x - ((1 : Int32) <<< (nI r &&& 31))) j = 1 ↔ (¬ j = r ∧ qBit x j = 1) := by
  have h0 : bt 1 0 = true := by decide +kernel
  have hb : ∀ i, i < 32 → bt ((1 : Int32) <<< (nI r &&& 31)) i = decide (i = r) := fun i hi => by
    rw [b_shl r hr 1 hi]
    by_cases e : i = r
    · subst e
      rw [Nat.sub_self, h0]
      simp
    · rcases Nat.lt_or_ge i r with c | c
      · simp [Nat.not_le.mpr c, e]
      · have h2 : bt 1 (i - r) = false := (by decide +kernel : ∀ i, i < 32 → 0 < i → bt 1 i = false) (i - r) (by omega) (by omega)
        simp [h2, e]
  have hx := (q_bit hr).mp h
  generalize (1 : Int32) <<< (nI r &&& 31) = b at hb ⊢
  have e1 : (x ^^^ b) &&& b = 0 := b_ext (fun i hi => by
    rw [b_and, b_xor, hb i hi, b_0]
    by_cases e : i = r
    · subst e
      rw [hx]
      simp
    · simp [e])
  have e2 : (x ^^^ b) ||| b = x := b_ext (fun i hi => by
    rw [b_or, b_xor, hb i hi]
    by_cases e : i = r
    · subst e
      rw [hx]
      simp
    · simp [e])
  have e3 : (x ^^^ b) + b = x := by
    refine Int32.toBitVec_inj.mp ?_
    rw [Int32.toBitVec_add, BitVec.add_eq_or_of_and_eq_zero _ _ (by rw [← Int32.toBitVec_and, e1]; rfl), ← Int32.toBitVec_or, e2]
  have e4 : x - b = x ^^^ b := by
    have h5 : (x ^^^ b) + b - b = x ^^^ b := Int32.add_sub_cancel _ _
    rw [e3] at h5
    exact h5
  rw [q_bit hj, q_bit hj, e4, b_xor, hb j hj]
  by_cases e : j = r
  · subst e
    rw [hx]
    simp
  · simp [e]
theorem q_bit01 {x : Int32} {j : Nat} (hj : j < 32) : qBit x j = 0 ∨ qBit x j = 1 := by
  by_cases h : bt x j = true
  · exact Or.inr ((q_bit hj).mpr h)
  · refine Or.inl ?_
    unfold qBit
    refine b_ext (fun i hi => ?_)
    rw [b_and, b_sshr j hj x hi, b_0]
    rcases Nat.eq_zero_or_pos i with e | e
    · subst e
      rw [if_pos (by omega), Nat.add_zero]
      simp [h]
    · have h2 : bt 1 i = false := (by decide +kernel : ∀ i, i < 32 → 0 < i → bt 1 i = false) i hi e
      rw [h2, Bool.and_false]
/-- of every RING so many KEYS, each from 0 to 9 -/
def qRk (rings : Int32) (on om : Nat → Int32) : Prop := ∀ r : Nat, (r : Int) < rings.toInt → ∃ v : Nat, v ≤ 10 ∧ om r = nI v ∧ ∀ i : Nat, i < v → ∃ q : Nat, q < 10 ∧ on (10 * r + i) = nI q
theorem q_setL {rings : Int32} {on om : Nat → Int32} {r v : Nat} (h : (r : Int) < rings.toInt) (h3 : r < 3) (hv : om r = nI v) (hv9 : v ≤ 10) (hk : ∀ i : Nat, i < v → ∃ q : Nat, q < 10 ∧ on (10 * r + i) = nI q) : ∀ (f i : Nat) (s : Int32), (2147483647 - (nI i).toInt).toNat < f → i ≤ v → (∀ k : Nat, k < 32 → (qBit s k = 1 ↔ nI k ∈ qRw i on (10 * r))) → ∀ k : Nat, k < 32 → (qBit (F_H_setOn_L4a rings on om (nI r) f s (nI i)) k = 1 ↔ nI k ∈ qRw v on (10 * r)) := by
  intro f
  induction f with
  | zero => intro i s hf; exact absurd hf (Nat.not_lt_zero _)
  | succ f ih =>
    intro i s hf hi hs
    have e := nI_toInt (show i < 2147483648 by omega)
    have e2 := nI_toInt (show i + 1 < 2147483648 by omega)
    have ev := nI_toInt (show v < 2147483648 by omega)
    rw [F_H_setOn_L4a_s]
    simp only [q_manyO h h3, hv]
    by_cases c : i = v
    · subst c
      simp only [show nI i ≤ nI i from q_le.mpr (Int.le_refl _), ↓reduceIte]
      exact hs
    · obtain ⟨q, q1, q2⟩ := hk i (by omega)
      simp only [show ¬ nI v ≤ nI i from q_nle.mpr (by rw [e, ev]; omega), q_keyO (on := on) h h3 hv hv9 (show i < v by omega), qnI_s, q2, ↓reduceIte]
      refine ih (i + 1) _ (by omega) (by omega) (fun k hk => ?_)
      rw [q_bitset (by omega) hk, hs k hk, qRw_succ, List.mem_append, List.mem_singleton, q2]
      constructor
      · rintro (h9 | h9)
        · exact Or.inr (by rw [h9])
        · exact Or.inl h9
      · rintro (h9 | h9)
        · exact Or.inr h9
        · refine Or.inl ?_
          have h8 := congrArg Int32.toInt h9
          rw [nI_toInt (by omega), nI_toInt (by omega)] at h8
          omega
theorem q_setO {rings : Int32} {on om : Nat → Int32} {r v : Nat} (h : (r : Int) < rings.toInt) (h3 : r < 3) (hv : om r = nI v) (hv9 : v ≤ 10) (hk : ∀ i : Nat, i < v → ∃ q : Nat, q < 10 ∧ on (10 * r + i) = nI q) {k : Nat} (hk32 : k < 32) : qBit (F_H_setOn rings on om (nI r)) k = 1 ↔ nI k ∈ qRw v on (10 * r) := by
  rw [F_H_setOn_s]
  refine q_setL h h3 hv hv9 hk ((2147483647 - (0 : Int32).toInt).toNat + 1) 0 0 (by show (2147483647 - (0 : Int32).toInt).toNat < _; omega) (by omega) (fun k hk => ?_) k hk32
  constructor
  · intro h9
    exact absurd h9 (q_qBit0 hk)
  · intro h9
    obtain ⟨i, h8, -⟩ := qRw_mem.mp h9
    omega
/-- the number in a TRAY as a KEY -/
noncomputable def qTk9 (N : Nat → Int64) (j : Nat) : Int32 := (F_Tr_numberAt N (nI j)).toInt32
theorem q_lgc {x : Int64} (h1 : ¬ lg_cmp x 0 < 0) (h2 : ¬ 0 ≤ lg_cmp x 10) : 0 ≤ x.toInt ∧ x.toInt < 10 := by
  have e0 : (0 : Int64).toInt = 0 := by decide +kernel
  have e10 : (10 : Int64).toInt = 10 := by decide +kernel
  have a := z_fgeFl h1
  have b := z_fltFl h2
  omega
theorem q_ordL {m : Int32} {N : Nat → Int64} {M : Nat} (hm : m = nI M) (hM : M < 2147483648) : ∀ (f i : Nat) (s : Int32), (2147483647 - (nI i).toInt).toNat < f → i ≤ M → ¬ F_Da_isOrderOf_L12a m N f s (nI i) = 0 → (∀ j : Nat, i ≤ j → j < M → ∃ q : Nat, q < 10 ∧ qTk9 N j = nI q ∧ qBit s q = 1) ∧ ∀ a b : Nat, i ≤ a → a < b → b < M → qTk9 N a ≠ qTk9 N b := by
  intro f
  induction f with
  | zero => intro i s hf; exact absurd hf (Nat.not_lt_zero _)
  | succ f ih =>
    intro i s hf hi
    have e := nI_toInt (show i < 2147483648 by omega)
    have eM := nI_toInt hM
    rw [F_Da_isOrderOf_L12a_s]
    subst hm
    by_cases c : i = M
    · intro _
      exact ⟨fun j h1 h2 => absurd h2 (by omega), fun a b h1 h2 h3 => absurd h3 (by omega)⟩
    · have e2 := nI_toInt (show i + 1 < 2147483648 by omega)
      simp only [show ¬ nI M ≤ nI i from q_nle.mpr (by rw [e, eM]; omega), qnI_s, ↓reduceIte]
      by_cases c1 : lg_cmp (F_Tr_numberAt N (nI i)) 0 < 0
      · simp only [c1, not_true_eq_false, false_implies, ↓reduceIte]
      · by_cases c2 : 0 ≤ lg_cmp (F_Tr_numberAt N (nI i)) 10
        · simp only [c1, c2, not_true_eq_false, false_implies, ↓reduceIte]
        · obtain ⟨g1, g2⟩ := q_lgc c1 c2
          simp only [c1, c2, ↓reduceIte]
          have hx : (F_Tr_numberAt N (nI i)).toInt32.toInt = (F_Tr_numberAt N (nI i)).toInt := z_l2i rfl (by omega) (by omega)
          obtain ⟨q, hq, q1, -⟩ := q_nat (k := (F_Tr_numberAt N (nI i)).toInt32) (m := 10) ⟨by omega, by omega⟩ (by omega)
          have hq2 : qTk9 N i = nI q := hq
          rw [hq]
          by_cases c3 : (s >>> (nI q &&& 31)) &&& 1 = 0
          · simp only [c3, not_true_eq_false, false_implies, ↓reduceIte]
          · simp only [c3, ↓reduceIte]
            have hb : qBit s q = 1 := by
              rcases q_bit01 (x := s) (j := q) (by omega) with h9 | h9
              · exact absurd h9 c3
              · exact h9
            intro h9
            obtain ⟨r1, r2⟩ := ih (i + 1) _ (by omega) (by omega) h9
            have r1' : ∀ j : Nat, i + 1 ≤ j → j < M → ∃ p : Nat, p < 10 ∧ qTk9 N j = nI p ∧ ¬ p = q ∧ qBit s p = 1 := fun j h1 h2 => by
              obtain ⟨p, p1, p2, p3⟩ := r1 j h1 h2
              exact ⟨p, p1, p2, (q_bitclr (by omega) (by omega) hb).mp p3⟩
            refine ⟨fun j h1 h2 => ?_, fun a b h1 h2 h3 => ?_⟩
            · by_cases ej : j = i
              · subst ej
                exact ⟨q, by omega, hq2, hb⟩
              · obtain ⟨p, p1, p2, -, p4⟩ := r1' j (by omega) h2
                exact ⟨p, p1, p2, p4⟩
            · by_cases ea : a = i
              · subst ea
                obtain ⟨p, p1, p2, p3, -⟩ := r1' b (by omega) h3
                rw [hq2, p2]
                intro h8
                have h7 := congrArg Int32.toInt h8
                rw [nI_toInt (by omega), nI_toInt (by omega)] at h7
                omega
              · exact r2 a b (by omega) h2 h3
theorem q_layN {rings : Int32} {on om : Nat → Int32} {r v i : Nat} {k : Int32} (h : (r : Int) < rings.toInt) (h3 : r < 3) (hv : om r = nI v) (hv9 : v ≤ 10) (hi : v ≤ i) (hi2 : i < 2147483648) : F_H_layAt rings on om (nI r) (nI i) k = on := by
  have e := nI_toInt hi2
  have ev := nI_toInt (show v < 2147483648 by omega)
  rw [F_H_layAt_s]
  simp only [q_manyO h h3, hv, show ¬ nI i < 0 from q_nlt.mpr (by rw [q0, e]; omega), show nI v ≤ nI i from q_le.mpr (by rw [e, ev]; omega), ↓reduceIte]
theorem q_layL {rings held : Int32} {om : Nat → Int32} {m : Int32} {N : Nat → Int64} {r v M : Nat} (h : (r : Int) < rings.toInt) (h3 : r < 3) (hv : om r = nI v) (hv9 : v ≤ 10) (hm : m = nI M) (hM : M < 2147483648) : ∀ (f i : Nat) (g : Nat → Int32), (2147483647 - (nI i).toInt).toNat < f → i ≤ M → (∀ j : Nat, j < v → i ≤ j → j < M → (F_X_lay_L85a rings om held m N (nI r) f (nI i) g).2 (10 * r + j) = qTk9 N j) ∧ (∀ x : Nat, ¬ (10 * r + i ≤ x ∧ x < 10 * r + v) → (F_X_lay_L85a rings om held m N (nI r) f (nI i) g).2 x = g x) := by
  intro f
  induction f with
  | zero => intro i s hf; exact absurd hf (Nat.not_lt_zero _)
  | succ f ih =>
    intro i g hf hi
    have e := nI_toInt (show i < 2147483648 by omega)
    have eM := nI_toInt hM
    rw [F_X_lay_L85a_s]
    subst hm
    by_cases c : i = M
    · subst c
      simp only [show nI i ≤ nI i from q_le.mpr (Int.le_refl _), ↓reduceIte]
      exact ⟨fun j h1 h2 h4 => absurd h4 (by omega), fun x _ => trivial⟩
    · have e2 := nI_toInt (show i + 1 < 2147483648 by omega)
      simp only [show ¬ nI M ≤ nI i from q_nle.mpr (by rw [e, eM]; omega), qnI_s, ↓reduceIte]
      have hkk : (F_Tr_numberAt N (nI i)).toInt32 = qTk9 N i := rfl
      rw [hkk]
      by_cases d : i < v
      · rw [q_layA h h3 hv hv9 d]
        obtain ⟨r1, r2⟩ := ih (i + 1) (upd g (10 * r + i) (qTk9 N i)) (by omega) (by omega)
        refine ⟨fun j h1 h2 h4 => ?_, fun x hx => ?_⟩
        · by_cases ej : j = i
          · subst ej
            rw [r2 _ (by omega)]
            exact if_pos rfl
          · exact r1 j h1 (by omega) h4
        · rw [r2 x (by omega)]
          exact if_neg (by omega)
      · rw [q_layN h h3 hv hv9 (by omega) (by omega)]
        obtain ⟨r1, r2⟩ := ih (i + 1) g (by omega) (by omega)
        exact ⟨fun j h1 h2 h4 => absurd h1 (by omega), fun x hx => r2 x (by omega)⟩
theorem q_subP0 {T : Type} [DecidableEq T] : ∀ (B A : List T), B.Nodup → (∀ x, x ∈ B → x ∈ A) → A.length ≤ B.length → List.Perm B A := by
  intro B
  induction B with
  | nil => intro A _ _ h3; rw [List.length_eq_zero_iff.mp (Nat.le_zero.mp h3)]
  | cons b B ih =>
    intro A h1 h2 h3
    obtain ⟨n1, n2⟩ := List.nodup_cons.mp h1
    have hb : b ∈ A := h2 b List.mem_cons_self
    have hp := List.perm_cons_erase hb
    refine List.Perm.trans (List.Perm.cons b (ih (A.erase b) n2 (fun x hx => ?_) ?_)) hp.symm
    · exact (List.mem_erase_of_ne (fun e => n1 (by rw [← e]; exact hx))).mpr (h2 x (List.mem_cons_of_mem _ hx))
    · rw [List.length_erase_of_mem hb]
      rw [List.length_cons] at h3
      omega
theorem qRw_nd0 {v : Nat} {on : Nat → Int32} {b : Nat} (h : ∀ i j : Nat, i < j → j < v → on (b + i) ≠ on (b + j)) : (qRw v on b).Nodup := List.pairwise_map.mpr (List.Pairwise.imp_of_mem (fun _ hj hij => h _ _ hij (List.mem_range.mp hj)) List.pairwise_lt_range)
theorem q_layB {rings held : Int32} {on om : Nat → Int32} {m k1 : Int32} {N : Nat → Int64} (h3 : rings.toInt ≤ 3) (ho : qRk rings on om) {B : Int32 × (Nat → Int32)} (hB : B = (if F_H_hasRing rings k1 = 0 then ((0 : Int32), on) else (if F_Tr_isMissing m = 0 then (if F_H_manyOn rings om k1 ≤ m then (if F_Da_isOrderOf rings on om m N k1 = 0 then ((0 : Int32), on) else F_X_lay_L85a rings om held m N k1 ((2147483647 - (0 : Int32).toInt).toNat + 1) (0 : Int32) on) else ((0 : Int32), on)) else ((0 : Int32), on)))) : ∀ r v : Nat, (r : Int) < rings.toInt → om r = nI v → v ≤ 10 → List.Perm (qRw v B.2 (10 * r)) (qRw v on (10 * r)) := by
  intro r v hr hv hv9
  subst hB
  by_cases c1 : F_H_hasRing rings k1 = 0
  · rw [if_pos c1]
  · rw [if_neg c1]
    by_cases c2 : F_Tr_isMissing m = 0
    · rw [if_pos c2]
      by_cases c3 : F_H_manyOn rings om k1 ≤ m
      · rw [if_pos c3]
        by_cases c4 : F_Da_isOrderOf rings on om m N k1 = 0
        · rw [if_pos c4]
        · rw [if_neg c4]
          rw [q_hasRr] at c1
          by_cases c5 : 0 ≤ k1.toInt ∧ k1.toInt < rings.toInt
          · obtain ⟨a, rfl, a1, -⟩ := q_nat c5 (by omega)
            obtain ⟨w, w1, w2, w3⟩ := ho a a1
            have ew := nI_toInt (show w < 2147483648 by omega)
            rw [q_manyO a1 (by omega), w2, q_le, ew] at c3
            have hmb := z_full m
            obtain ⟨M, hM, hM2⟩ : ∃ M : Nat, m = nI M ∧ M < 2147483648 := ⟨m.toInt.toNat, q_toN (m := 0) (by omega), by omega⟩
            have eM := nI_toInt hM2
            rw [hM, eM] at c3
            rw [F_Da_isOrderOf_s] at c4
            obtain ⟨o1, o2⟩ := q_ordL (N := N) hM hM2 ((2147483647 - (0 : Int32).toInt).toNat + 1) 0 _ (by show (2147483647 - (0 : Int32).toInt).toNat < _; omega) (by omega) c4
            have hl9 := q_layL (held := held) (N := N) a1 (by omega) w2 w1 hM hM2 ((2147483647 - (0 : Int32).toInt).toNat + 1) 0 on (by show (2147483647 - (0 : Int32).toInt).toNat < _; omega) (by omega)
            rw [show nI 0 = (0 : Int32) from rfl] at hl9
            obtain ⟨l1, l2⟩ := hl9
            by_cases er : r = a
            · subst er
              have hvw : v = w := by
                have h8 := congrArg Int32.toInt (hv.symm.trans w2)
                rw [nI_toInt (by omega), ew] at h8
                omega
              subst hvw
              refine q_subP0 _ _ (qRw_nd0 (fun i j h4 h5 => ?_)) (fun x hx => ?_) (by rw [qRw_len, qRw_len]; exact Nat.le_refl _)
              · rw [l1 i (by omega) (by omega) (by omega), l1 j h5 (by omega) (by omega)]
                exact o2 i j (by omega) h4 (by omega)
              · obtain ⟨i, h4, h5⟩ := qRw_mem.mp hx
                rw [l1 i h4 (by omega) (by omega)] at h5
                obtain ⟨q, q1, q2, q3⟩ := o1 i (by omega) (by omega)
                rw [← h5, q2]
                exact (q_setO hr (by omega) hv hv9 w3 (by omega)).mp q3
            · rw [qRw_c (v := v) (on := on) (on2 := (F_X_lay_L85a rings om held m N (nI a) ((2147483647 - (0 : Int32).toInt).toNat + 1) (0 : Int32) on).2) (b := 10 * r) (b2 := 10 * r) (fun i hi => l2 _ (by omega))]
          · rw [if_neg c5] at c1
            exact absurd rfl c1
      · rw [if_neg c3]
    · rw [if_neg c2]
theorem q_layO {rings held : Int32} {on om : Nat → Int32} {m0 m1 m2 m3 k1 k2 : Int32} {N0 N1 N2 N3 : Nat → Int64} (h3 : rings.toInt ≤ 3) (ho : qRk rings on om) : ∀ r v : Nat, (r : Int) < rings.toInt → om r = nI v → v ≤ 10 → List.Perm (qRw v (F_X_lay rings on om held m0 N0 m1 N1 m2 N2 m3 N3 k1 k2).2 (10 * r)) (qRw v on (10 * r)) := by
  intro r v hr hv hv9
  rw [F_X_lay_s]
  by_cases c0 : (k2.toInt < 0 ∨ 4 ≤ k2.toInt)
  · rw [if_pos c0]
  · rw [if_neg c0]
    by_cases c1 : k2.toInt = 0
    · rw [if_pos c1]
      exact q_layB (held := held) (m := m0) (N := N0) (k1 := k1) h3 ho rfl r v hr hv hv9
    · rw [if_neg c1]
      by_cases c2 : k2.toInt = 1
      · rw [if_pos c2]
        exact q_layB (held := held) (m := m1) (N := N1) (k1 := k1) h3 ho rfl r v hr hv hv9
      · rw [if_neg c2]
        by_cases c3 : k2.toInt = 2
        · rw [if_pos c3]
          exact q_layB (held := held) (m := m2) (N := N2) (k1 := k1) h3 ho rfl r v hr hv hv9
        · rw [if_neg c3]
          exact q_layB (held := held) (m := m3) (N := N3) (k1 := k1) h3 ho rfl r v hr hv hv9
