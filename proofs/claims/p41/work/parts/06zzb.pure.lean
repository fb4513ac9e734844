theorem q_laidForRoundA {fe ke ri dO tu rm lent : Int32} {fn : Nat → Int64} {st tf six ks wa op se rd on om g t tr bs fo od : Nat → Int32} {w : Nat → Int64} {bt bb mt mb : Int64} {k1 sfm : Int32} {sr sf : Nat → Int32} (h : qTx 0 0 fe ke ri dO tu rm fn st tf six ks wa op se rd g w) (hR : qRn 0 ri ke lent on om g) (hC : zC g) : F_X_laidForRound ke lent ri dO rm on om wa op se rd sfm sr sf k1 = F_r_laidForRound bt bb mt mb g t tr bs fo od k1 := by
  have b := h.2.1
  rw [F_X_laidForRound_s, F_r_laidForRound_s]
  simp only [q_hasRr, q_isR (k := k1) h.1.2.2.1 b.2.2.1.1 (by omega), F_r_refuse_s]
  by_cases c : 0 ≤ k1.toInt ∧ k1.toInt < ri.toInt
  · obtain ⟨r, rfl, r1, -⟩ := q_nat c (by omega)
    obtain ⟨L, L', p1, p2, p3, p4, p5, p6⟩ := q_thA hR h.1.2.1 h.1.2.2.1 b.2.1.2 r1 (by omega) hC
    obtain ⟨row', w1, w2⟩ := p5 sr
    obtain ⟨t', w3, w4⟩ := p6 t
    have hl := p1.length_eq
    have hrow : ∀ i : Nat, i < L.length → ∃ q : Nat, row' i = nI q ∧ (q : Int) < ke.toInt := fun i hi => p4 _ (by rw [← w2]; exact qRw_mem.mpr ⟨i, hi, by rw [Nat.zero_add]⟩)
    have eL := nI_toInt (show L.length < 2147483648 by omega)
    rw [F_Se_load_s]
    simp only [c, q_n1, and_self, w1, w3, ← hl, ↓reduceIte]
    have e6 : (6 : Int32).toInt = 6 := by decide +kernel
    by_cases c6 : L.length ≤ 6
    · simp only [show nI L.length ≤ 6 from q_le.mpr (by rw [eL, e6]; omega), ↓reduceIte]
      obtain ⟨R, hRm, R1, -⟩ := q_nat (k := rm) (m := 13) ⟨by omega, by omega⟩ (by omega)
      subst hRm
      have eR := nI_toInt (show R < 2147483648 by omega)
      have hg4 : g 4 = nI R := h.1.2.2.2.2.1.symm
      have y4 : g (4 : Int32).toNatClampNeg = nI R := hg4
      have z6 := hC.1 6 (by omega)
      have z7 := hC.1 7 (by omega)
      have t6 := zck_at (a := 5) (b := 8) (lo := 0) (hi := 99) (by decide +kernel) (j := 6) (by omega) (by omega)
      have t7 := zck_at (a := 5) (b := 8) (lo := 0) (hi := 99) (by decide +kernel) (j := 7) (by omega) (by omega)
      obtain ⟨T, hT, hT9, -⟩ := q_nat (k := g 6) (m := 100) ⟨by omega, by omega⟩ (by omega)
      obtain ⟨G, hG, hG9, -⟩ := q_nat (k := g 7) (m := 100) ⟨by omega, by omega⟩ (by omega)
      obtain ⟨Dk, hDk, hDk9, -⟩ := q_nat (k := ke) (m := 11) ⟨by omega, by omega⟩ (by omega)
      have hg1 : g 1 = nI Dk := h.1.2.1.symm.trans hDk
      have eDk := nI_toInt (show Dk < 2147483648 by omega)
      have hrd : ∀ k : Nat, k < R → ∃ d : Nat, rd k = nI d ∧ (d : Int) < dO.toInt ∧ d < 5 ∧ g (138 + k) = nI d := fun k hk => by
        obtain ⟨x1, x2⟩ := h.2.2.2.2.2.2 k (by rw [eR]; omega) (by omega)
        rw [show 0 + 138 + k = 138 + k by omega] at x1
        have x3 := hC.1 (138 + k) (by omega)
        have x4 := zck_at (a := 138) (b := 149) (lo := 0) (hi := 4) (by decide +kernel) (j := 138 + k) (by omega) (by omega)
        rw [x1] at x2
        obtain ⟨d, d1, d2, -⟩ := q_nat (k := g (138 + k)) (m := 5) ⟨by omega, by omega⟩ (by omega)
        rw [d1, nI_toInt (by omega)] at x2
        exact ⟨d, x1.trans d1, x2, by omega, d1⟩
      have hso : ∀ k : Nat, k < R → F_Se_someOpens (nI L.length) dO op row' (rd k) = if L.any (qCo g (g (138 + k))) = true then 1 else 0 := fun k hk => by
        obtain ⟨d, d1, d2, d5, d3⟩ := hrd k hk
        rw [d1, q_so (g := g) h p2 hrow d2, w2, d3]
      obtain ⟨cw1, cw2⟩ := v_cwL (P := fun k => L.any (qCo g (g (138 + k)))) (show R ≤ 12 by omega) hso ((2147483647 - (0 : Int32).toInt).toNat + 1) 0 (by show (2147483647 - (0 : Int32).toInt).toNat < _; omega) (Nat.zero_le _)
      have hcw : F_Se_canWalk (nI L.length) dO (nI R) op rd row' = F_Se_canWalk_L2a (nI L.length) dO (nI R) op rd row' ((2147483647 - (0 : Int32).toInt).toNat + 1) (nI 0) := F_Se_canWalk_s ..
      have q4 : nI R = 0 ↔ R = 0 := ⟨fun h9 => by have h8 := congrArg Int32.toInt h9; rw [eR, q0] at h8; omega, fun h9 => by rw [h9]; rfl⟩
      rw [hcw]
      by_cases a9 : 0 < R ∧ ∀ k : Nat, 0 ≤ k → k < R → L.any (qCo g (g (138 + k))) = true
      · have hn0 : 0 < L.length := by
          have h9 := a9.2 0 (Nat.le_refl _) a9.1
          cases L with
          | nil => exact absurd h9 Bool.false_ne_true
          | cons x l => exact Nat.succ_pos _
        have hw : F_r_walk (nI L.length) g t' = uOI (uWk (fun k i => qCo g (g (138 + k)) (t' i)) L.length T G R 0 0 0) := by
          rw [F_r_walk_s]
          exact v_wkL (t := t') (Qs := fun k i => qCo g (g (138 + k)) (t' i)) hT hG hg4 (by omega) (by omega) (fun k hk i hi => v_co rfl) ((2147483647 - (0 : Int32).toInt).toNat + 1) 0 0 0 (by show (2147483647 - (0 : Int32).toInt).toNat < _; omega) (by omega) hn0
        obtain ⟨z, z1, z2⟩ := v_wks (Qs := fun k i => qCo g (g (138 + k)) (t' i)) (show L.length < 7 by omega) (show T ≤ 99 by omega) (show G ≤ 99 by omega) R 0 0 0 hn0 (fun k _ hk => by
          have h9 := a9.2 k (Nat.zero_le _) (by omega)
          rw [q_anyP p1, ← w4, ← hl, v_any (b := fun i => qCo g (g (138 + k)) (t' i)) (fun i _ => rfl), List.any_eq_true] at h9
          obtain ⟨x, x1, x2⟩ := h9
          exact ⟨x, List.mem_range.mp x1, x2⟩)
        rw [z1] at hw
        have ez := nI_toInt (show z < 2147483648 by omega)
        have hw2 : F_r_walk (nI L.length) g t' = nI z := hw
        simp only [cw1 a9, q_n1, y4, q4, show ¬ R = 0 by omega, hw2, show (0 : Int32) ≤ nI z from q_le.mpr (by rw [q0, ez]; omega), ↓reduceIte]
        obtain ⟨s1, s2⟩ := q_sort (g := row') p2
        have hnd : (qRw L.length row' 0).Nodup := by rw [w2]; exact p3
        have hUp := q_up s1 (s2.nodup_iff.mpr hnd)
        have hperm : (qRw L.length (F_Se_sortUp row' (nI L.length)) 0).Perm L := by rw [w2] at s2; exact s2
        have hKr : ∀ i : Nat, i < L.length → ∃ q : Nat, F_Se_sortUp row' (nI L.length) i = nI q ∧ (q : Int) < ke.toInt := fun i hi => p4 _ (hperm.mem_iff.mp (qRw_mem.mpr ⟨i, hi, by rw [Nat.zero_add]⟩))
        have hop : ∀ k : Nat, k < R → ∃ i : Nat, i < L.length ∧ qCo g (g (138 + k)) (F_Se_sortUp row' (nI L.length) i) = true := fun k hk => by
          have h9 := a9.2 k (Nat.zero_le _) hk
          rw [← q_anyP hperm, v_any (b := fun i => qCo g (g (138 + k)) (F_Se_sortUp row' (nI L.length) i)) (fun i _ => rfl), List.any_eq_true] at h9
          obtain ⟨x, x1, x2⟩ := h9
          exact ⟨x, List.mem_range.mp x1, x2⟩
        have hk : qKs (F_Se_sortUp row' (nI L.length)) (fun a => (F_Se_sortUp row' (nI L.length) a).toInt.toNat) L.length Dk t' := by
          refine ⟨fun a ha => ?_, fun a b2 ha hb2 => ?_, fun x => ?_⟩
          · obtain ⟨q, q1, q2⟩ := hKr a ha
            have eq := nI_toInt (show q < 2147483648 by omega)
            show F_Se_sortUp row' (nI L.length) a = nI (F_Se_sortUp row' (nI L.length) a).toInt.toNat ∧ (F_Se_sortUp row' (nI L.length) a).toInt.toNat < Dk
            rw [q1, eq]
            rw [hDk, eDk] at q2
            exact ⟨rfl, by omega⟩
          · obtain ⟨q, q1, q3⟩ := hKr a (by omega)
            have h9 := hUp b2 a hb2 (by omega)
            have h8 : ¬ (F_Se_sortUp row' (nI L.length) b2).toInt ≤ (F_Se_sortUp row' (nI L.length) a).toInt := fun h7 => absurd (h9.mp (q_le.mpr h7)) (by omega)
            have h0 : 0 ≤ (F_Se_sortUp row' (nI L.length) a).toInt := by rw [q1, nI_toInt (by omega)]; omega
            show (F_Se_sortUp row' (nI L.length) a).toInt.toNat < (F_Se_sortUp row' (nI L.length) b2).toInt.toNat
            omega
          · have h9 : x ∈ L' ↔ x ∈ L := p1.mem_iff.symm
            rw [← w4, ← hl] at h9
            have h8 := h9.trans hperm.mem_iff.symm
            rw [qRw_mem, qRw_mem] at h8
            simp only [Nat.zero_add] at h8
            exact h8
        have hJ := v_hj2 (K := F_Se_sortUp row' (nI L.length)) (show L.length < 7 by omega) hn0 hT hG (by omega) (by omega) hg4 (by omega) hop
        obtain ⟨q, f1, f2, -⟩ := v_fo (bt := bt) (bb := bb) (mt := mt) (mb := mb) (tr := tr) (bs := bs) (fo := fo) (od := od) hJ c6 hn0 (by omega) hg1 hk
        obtain ⟨x1, -, x3⟩ := v_foX (fm := sfm) (fd := sf) (show L.length < 7 by omega) hn0 hnd (fun r2 l hN hA => v_me2 h (show L.length < 7 by omega) hn0 hKr hT hG (by omega) (by omega) (by omega) hrd hop r2 l hA hN) f1
        rw [x1]
        rw [Nat.one_mul] at f2
        refine q_eq.mpr ?_
        rw [Int64.toInt_toInt32, f2, nI_toInt (by omega)]
        exact (Int.bmod_eq_of_le (by omega) (by omega)).symm
      · simp only [cw2 a9, y4, q4, ↓reduceIte]
        by_cases R0 : R = 0
        · simp only [R0, ↓reduceIte]
        · have hwn : ¬ (0 : Int32) ≤ F_r_walk (nI L.length) g t' := by
            by_cases hz : L.length = 0
            · have h9 : F_r_walk (nI L.length) g t' = -1 := by
                rw [hz, F_r_walk_s, F_r_walk_L6a_s]
                simp only [y4, show ¬ nI R ≤ 0 from q_nle.mpr (by rw [eR, q0]; omega), ↓reduceIte]
                rw [F_r_walk_L25a_s]
                simp only [show nI 0 ≤ 0 from q_le.mpr (Int.le_refl _), show ¬ (0 : Int32) ≤ -1 by decide, ↓reduceIte]
              rw [h9]
              decide
            · have hn0 : 0 < L.length := by omega
              have hw : F_r_walk (nI L.length) g t' = uOI (uWk (fun k i => qCo g (g (138 + k)) (t' i)) L.length T G R 0 0 0) := by
                rw [F_r_walk_s]
                exact v_wkL (t := t') (Qs := fun k i => qCo g (g (138 + k)) (t' i)) hT hG hg4 (by omega) (by omega) (fun k hk i hi => v_co rfl) ((2147483647 - (0 : Int32).toInt).toNat + 1) 0 0 0 (by show (2147483647 - (0 : Int32).toInt).toNat < _; omega) (by omega) hn0
              rw [hw, v_wkn R 0 0 0 hn0 (by
                obtain ⟨k, hk⟩ := Classical.not_forall.mp (fun h9 => a9 ⟨by omega, h9⟩)
                obtain ⟨-, hk⟩ := Classical.not_imp.mp hk
                obtain ⟨hk1, hk2⟩ := Classical.not_imp.mp hk
                refine ⟨k, Nat.zero_le _, by omega, fun i hi => ?_⟩
                cases h8 : qCo g (g (138 + k)) (t' i)
                · rfl
                · refine absurd (List.any_eq_true.mpr ⟨t' i, p1.mem_iff.mpr ?_, h8⟩) hk2
                  rw [← w4, ← hl]
                  exact qRw_mem.mpr ⟨i, hi, by rw [Nat.zero_add]⟩)]
              decide
          simp only [R0, hwn, ↓reduceIte]
    · simp only [show ¬ nI L.length ≤ 6 from q_nle.mpr (by rw [eL, e6]; omega), ↓reduceIte]
  · simp only [c, ↓reduceIte]
