/-- the KEYS that are there, of a row -/
noncomputable def qCt9 (keys lent : Int32) (v : Nat) (on : Nat → Int32) (b : Nat) : List Int32 := (qRw v on b).filter (fun k => decide (F_H_isLent keys lent k = 0))
def qRt9 (v : Nat) (g : Nat → Int32) (b : Nat) : List Int32 := (qRw v g b).filter (fun k => decide (¬ g ((150 : Int32) + k).toNatClampNeg = 1))
theorem q_keep10 {g : Nat → Int32} {i : Nat} {k : Int32} (h : i < 10) : F_keepAt_10 g (nI i) k = upd g i k := by
  have e := nI_toInt (show i < 2147483648 by omega)
  rw [F_keepAt_10_s, if_neg (q_nlt.mpr (by rw [q0, e]; omega)), if_neg (q_nle.mpr (by rw [e, show (10 : Int32).toInt = 10 by decide +kernel]; omega))]
  show upd g (nI i).toNatClampNeg k = _
  rw [qnI_cl (by omega)]
theorem q_at10 {g : Nat → Int32} {r : Nat} (h : r < 10) : F_at_10 g (nI r) = g r := by
  have e := nI_toInt (show r < 2147483648 by omega)
  rw [F_at_10_s, if_neg (q_nlt.mpr (by rw [q0, e]; omega)), if_neg (q_nle.mpr (by rw [e, show (10 : Int32).toInt = 10 by decide +kernel]; omega))]
  show g (nI r).toNatClampNeg = g r
  rw [qnI_cl (by omega)]
theorem qRw_upd {n : Nat} {row : Nat → Int32} {k : Int32} : qRw (n + 1) (upd row n k) 0 = qRw n row 0 ++ [k] := by
  rw [qRw_succ, qRw_c (v := n) (on := row) (on2 := upd row n k) (b := 0) (b2 := 0) (fun i hi => if_neg (by omega))]
  congr 1
  congr 1
  rw [Nat.zero_add]
  exact if_pos rfl
theorem q_rtL {keys lent rings : Int32} {on om : Nat → Int32} {r v : Nat} (h : (r : Int) < rings.toInt) (h3 : r < 3) (hv : om r = nI v) (hv9 : v ≤ 10) : ∀ (f i n : Nat) (row : Nat → Int32), (2147483647 - (nI i).toInt).toNat < f → i ≤ v → n ≤ i → qRw n row 0 = qCt9 keys lent i on (10 * r) → ∃ (n' : Nat) (row' : Nat → Int32), n' ≤ v ∧ F_H_rowThere_L5a keys lent rings on om (nI r) f (nI n) (nI i) row = (nI n', row') ∧ qRw n' row' 0 = qCt9 keys lent v on (10 * r) := by
  intro f
  induction f with
  | zero => intro i n row hf; exact absurd hf (Nat.not_lt_zero _)
  | succ f ih =>
    intro i n row hf hi hn hr
    have e := nI_toInt (show i < 2147483648 by omega)
    have e2 := nI_toInt (show i + 1 < 2147483648 by omega)
    have ev := nI_toInt (show v < 2147483648 by omega)
    rw [F_H_rowThere_L5a_s]
    simp only [q_manyO h h3, hv]
    by_cases c : i = v
    · subst c
      simp only [show nI i ≤ nI i from q_le.mpr (Int.le_refl _), ↓reduceIte]
      exact ⟨n, row, hn, rfl, hr⟩
    · have hs : qCt9 keys lent (i + 1) on (10 * r) = qCt9 keys lent i on (10 * r) ++ [on (10 * r + i)].filter (fun k => decide (F_H_isLent keys lent k = 0)) := by
        show (qRw (i + 1) on (10 * r)).filter _ = _
        rw [qRw_succ, List.filter_append]
        rfl
      simp only [show ¬ nI v ≤ nI i from q_nle.mpr (by rw [e, ev]; omega), q_keyO (on := on) h h3 hv hv9 (show i < v by omega), qnI_s, ↓reduceIte]
      by_cases d : F_H_isLent keys lent (on (10 * r + i)) = 0
      · simp only [d, q_keep10 (show n < 10 by omega), ↓reduceIte]
        refine ih (i + 1) (n + 1) _ (by omega) (by omega) (by omega) ?_
        rw [qRw_upd, hr, hs, List.filter_cons_of_pos (by simp [d]), List.filter_nil]
      · simp only [d, ↓reduceIte]
        refine ih (i + 1) n _ (by omega) (by omega) (by omega) ?_
        rw [hr, hs, List.filter_cons_of_neg (by simp [d]), List.filter_nil, List.append_nil]
theorem q_rt {keys lent rings : Int32} {on om : Nat → Int32} {r v : Nat} (h : (r : Int) < rings.toInt) (h3 : r < 3) (hv : om r = nI v) (hv9 : v ≤ 10) (row : Nat → Int32) : ∃ row' : Nat → Int32, F_H_rowThere keys lent rings on om row (nI r) = (nI (qCt9 keys lent v on (10 * r)).length, row') ∧ qRw (qCt9 keys lent v on (10 * r)).length row' 0 = qCt9 keys lent v on (10 * r) := by
  obtain ⟨n', row', a1, a2, a3⟩ := q_rtL (keys := keys) (lent := lent) (on := on) h h3 hv hv9 ((2147483647 - (0 : Int32).toInt).toNat + 1) 0 0 row (by show (2147483647 - (0 : Int32).toInt).toNat < _; omega) (by omega) (by omega) rfl
  have hl : n' = (qCt9 keys lent v on (10 * r)).length := by rw [← a3, qRw_len]
  subst hl
  exact ⟨row', (F_H_rowThere_s ..).trans a2, a3⟩
theorem q_gtL {g : Nat → Int32} {r v : Nat} (h3 : r < 3) (hv : g (95 + r) = nI v) (hv9 : v ≤ 10) : ∀ (f i n : Nat) (t : Nat → Int32), (2147483647 - (nI i).toInt).toNat < f → i ≤ v → n ≤ i → qRw n t 0 = qRt9 i g (98 + 10 * r) → ∃ (n' : Nat) (t' : Nat → Int32), n' ≤ v ∧ F_r_gather_L7a g (nI r) f (nI i) (nI n) t = (nI n', t') ∧ qRw n' t' 0 = qRt9 v g (98 + 10 * r) := by
  intro f
  induction f with
  | zero => intro i n t hf; exact absurd hf (Nat.not_lt_zero _)
  | succ f ih =>
    intro i n t hf hi hn hr
    have e := nI_toInt (show i < 2147483648 by omega)
    have e2 := nI_toInt (show i + 1 < 2147483648 by omega)
    have ev := nI_toInt (show v < 2147483648 by omega)
    have y1 : ((95 : Int32) + nI r).toNatClampNeg = 95 + r := q_adn (a := 95) (by omega)
    have y2 : ((98 : Int32) + 10 * nI r + nI i).toNatClampNeg = 98 + 10 * r + i := by
      show (nI 98 + nI 10 * nI r + nI i).toNatClampNeg = _
      rw [qnI_mul, nI_add, nI_add, qnI_cl (by omega)]
    rw [F_r_gather_L7a_s]
    simp only [y1, y2, hv, qnI_s]
    by_cases c : i = v
    · subst c
      simp only [show nI i ≤ nI i from q_le.mpr (Int.le_refl _), ↓reduceIte]
      exact ⟨n, t, hn, rfl, hr⟩
    · have hs : qRt9 (i + 1) g (98 + 10 * r) = qRt9 i g (98 + 10 * r) ++ [g (98 + 10 * r + i)].filter (fun k => decide (¬ g ((150 : Int32) + k).toNatClampNeg = 1)) := by
        show (qRw (i + 1) g (98 + 10 * r)).filter _ = _
        rw [qRw_succ, List.filter_append]
        rfl
      simp only [show ¬ nI v ≤ nI i from q_nle.mpr (by rw [e, ev]; omega), ↓reduceIte]
      by_cases d : g ((150 : Int32) + g (98 + 10 * r + i)).toNatClampNeg = 1
      · simp only [d, ↓reduceIte]
        refine ih (i + 1) n t (by omega) (by omega) (by omega) ?_
        rw [hr, hs, List.filter_cons_of_neg (by simp [d]), List.filter_nil, List.append_nil]
      · simp only [d, qnI_cl (show n < 2147483648 by omega), ↓reduceIte]
        refine ih (i + 1) (n + 1) _ (by omega) (by omega) (by omega) ?_
        rw [qRw_upd, hr, hs, List.filter_cons_of_pos (by simp [d]), List.filter_nil]
theorem q_gt {g : Nat → Int32} {r v : Nat} (h3 : r < 3) (hv : g (95 + r) = nI v) (hv9 : v ≤ 10) (t : Nat → Int32) : ∃ t' : Nat → Int32, F_r_gather g t (nI r) = (nI (qRt9 v g (98 + 10 * r)).length, t') ∧ qRw (qRt9 v g (98 + 10 * r)).length t' 0 = qRt9 v g (98 + 10 * r) := by
  obtain ⟨n', t', a1, a2, a3⟩ := q_gtL h3 hv hv9 ((2147483647 - (0 : Int32).toInt).toNat + 1) 0 0 t (by show (2147483647 - (0 : Int32).toInt).toNat < _; omega) (by omega) (by omega) rfl
  have hl : n' = (qRt9 v g (98 + 10 * r)).length := by rw [← a3, qRw_len]
  subst hl
  exact ⟨t', (F_r_gather_s ..).trans a2, a3⟩
theorem qK_in {keys rings : Int32} {g : Nat → Int32} {r v i : Nat} {k : Int32} (hC : zC g) (eK : keys = g 1) (eR : rings = g 2) (hr : (r : Int) < rings.toInt) (h3 : r < 3) (hv : g (95 + r) = nI v) (hv9 : v ≤ 10) (hi : i < v) (hk : g (98 + 10 * r + i) = k) : 0 ≤ k.toInt ∧ k.toInt < keys.toInt := by
  have ev := nI_toInt (show v < 2147483648 by omega)
  have hz := hC.2.1.2.2.2.2 r i h3 (by rw [show 0 + 2 = 2 from rfl, ← eR]; exact hr) (by rw [show 0 + 95 + r = 95 + r by omega, hv, ev]; omega) (by omega)
  rw [show 0 + 98 + 10 * r + i = 98 + 10 * r + i by omega, hk, show 0 + 1 = 1 from rfl, ← eK] at hz
  have hz0 := (hC.1 (98 + 10 * r + i) (by omega)).1
  have ht := zck_at (a := 98) (b := 127) (lo := 0) (hi := 9) (by decide +kernel) (j := 98 + 10 * r + i) (by omega) (by omega)
  rw [hk] at hz0
  omega
theorem qK_nd {rings : Int32} {g : Nat → Int32} {r v : Nat} (hC : zC g) (eR : rings = g 2) (hr : (r : Int) < rings.toInt) (h3 : r < 3) (hv : g (95 + r) = nI v) (hv9 : v ≤ 10) : (qRw v g (98 + 10 * r)).Nodup := by
  have ev := nI_toInt (show v < 2147483648 by omega)
  refine qRw_nd0 (fun i j hi hj h9 => ?_)
  have hz := hC.2.1.2.2.2.1 r i j h3 (by rw [show 0 + 2 = 2 from rfl, ← eR]; exact hr) hi (by rw [show 0 + 95 + r = 95 + r by omega, hv, ev]; omega) (by omega)
  rw [show 0 + 98 + 10 * r + i = 98 + 10 * r + i by omega, show 0 + 98 + 10 * r + j = 98 + 10 * r + j by omega, h9] at hz
  exact hz rfl
/-- the KEYS that are there, on both sides: the same ones, perhaps in another order -/
theorem q_thA {rings keys lent : Int32} {on om g : Nat → Int32} {r : Nat} (h : qRn 0 rings keys lent on om g) (eK : keys = g 1) (eR : rings = g 2) (h10 : keys.toInt ≤ 10) (hr : (r : Int) < rings.toInt) (h3 : r < 3) (hC : zC g) : ∃ L L' : List Int32, L.Perm L' ∧ L.length ≤ 10 ∧ L.Nodup ∧ (∀ k, k ∈ L → ∃ q : Nat, k = nI q ∧ (q : Int) < keys.toInt) ∧ (∀ row : Nat → Int32, ∃ row' : Nat → Int32, F_H_rowThere keys lent rings on om row (nI r) = (nI L.length, row') ∧ qRw L.length row' 0 = L) ∧ (∀ t : Nat → Int32, ∃ t' : Nat → Int32, F_r_gather g t (nI r) = (nI L'.length, t') ∧ qRw L'.length t' 0 = L') := by
  obtain ⟨v, a1, a2, a3, a4⟩ := h.1 r hr h3
  rw [show 0 + 95 + r = 95 + r by omega] at a3
  rw [show 0 + 98 + 10 * r = 98 + 10 * r by omega] at a4
  have hk : ∀ k, k ∈ qRw v g (98 + 10 * r) → 0 ≤ k.toInt ∧ k.toInt < keys.toInt := fun k hk => by
    obtain ⟨i, i1, i2⟩ := qRw_mem.mp hk
    exact qK_in hC eK eR hr h3 a3 a1 i1 i2
  have hp : (qCt9 keys lent v on (10 * r)).Perm (qRt9 v g (98 + 10 * r)) := by
    refine (a4.filter _).trans ?_
    show List.Perm ((qRw v g (98 + 10 * r)).filter _) ((qRw v g (98 + 10 * r)).filter _)
    rw [List.filter_congr (q := fun k => decide (¬ g ((150 : Int32) + k).toNatClampNeg = 1)) (fun k hk9 => ?_)]
    exact decide_eq_decide.mpr (q_lentA (on := on) (om := om) h (hk k hk9).1 (hk k hk9).2 h10)
  have hnd : (qRw v g (98 + 10 * r)).Nodup := qK_nd hC eR hr h3 a3 a1
  refine ⟨_, _, hp, ?_, hp.nodup_iff.mpr (hnd.filter _), fun k hk9 => ?_, fun row => q_rt hr h3 a2 a1 row, fun t => q_gt h3 a3 a1 t⟩
  · exact Nat.le_trans (List.length_filter_le _ _) (by rw [qRw_len]; exact a1)
  · obtain ⟨b1, b2⟩ := hk k (List.mem_filter.mp (hp.mem_iff.mp hk9)).1
    obtain ⟨q, q1, q2, -⟩ := q_nat ⟨b1, b2⟩ (by omega)
    exact ⟨q, q1, q2⟩
