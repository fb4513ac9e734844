theorem v_qc (g K : Nat → Int32) (n D : Nat) (L : List Int32) (hp : (qRw n K 0).Perm L) : qWs (fun j => L.any (qCo g (nI j))) (qWt g) D = qWs (uAn g K n) (qWt g) D := v_wsc D (fun d _ => by
  show L.any (qCo g (nI d)) = uAn g K n d
  rw [← q_anyP hp (qCo g (nI d))]
  exact v_any (fun i _ => rfl))
theorem q_laidA {fe ke ri dO tu rm lent : Int32} {fn : Nat → Int64} {st tf six ks wa op se rd on om g t tr bs fo od : Nat → Int32} {w : Nat → Int64} {bt bb : Int64} {k1 k2 sfm : Int32} {sr sf : Nat → Int32} (h : qTx 0 0 fe ke ri dO tu rm fn st tf six ks wa op se rd g w) (hR : qRn 0 ri ke lent on om g) (hC : zC g) : F_X_laid ke lent ri dO rm on om wa op se rd sfm sr sf k1 k2 = F_r_laid bt bb g t tr bs fo od k1 k2 := by
  have b := h.2.1
  rw [F_X_laid_s, F_r_laid_s]
  simp only [q_hasRr, q_isR (k := k1) h.1.2.2.1 b.2.2.1.1 (by omega), F_r_refuse_s]
  by_cases c : 0 ≤ k1.toInt ∧ k1.toInt < ri.toInt
  · obtain ⟨r, rfl, r1, -⟩ := q_nat c (by omega)
    obtain ⟨L, L', p1, p2, p3, p4, p5, p6⟩ := q_thA hR h.1.2.1 h.1.2.2.1 b.2.1.2 r1 (by omega) hC
    obtain ⟨row', w1, w2⟩ := p5 sr
    obtain ⟨t', w3, w4⟩ := p6 t
    have hl := p1.length_eq
    have hrow : ∀ i : Nat, i < L.length → ∃ q : Nat, row' i = nI q ∧ (q : Int) < ke.toInt := fun i hi => p4 _ (by rw [← w2]; exact qRw_mem.mpr ⟨i, hi, by rw [Nat.zero_add]⟩)
    have eL := nI_toInt (show L.length < 2147483648 by omega)
    rw [F_Se_load_s]
    simp only [c, q_n1, and_self, w1, w3, ← hl, ↓reduceIte]
    obtain ⟨D, hD, D1, -⟩ := q_nat (k := dO) (m := 6) ⟨by omega, by omega⟩ (by omega)
    have hD3 : g 3 = nI D := h.1.2.2.2.1.symm.trans hD
    have e6 : (6 : Int32).toInt = 6 := by decide +kernel
    by_cases c6 : L.length ≤ 6
    · simp only [show nI L.length ≤ 6 from q_le.mpr (by rw [eL, e6]; omega), ↓reduceIte]
      have hwt := q_wtgL (g := g) h hC p2 hrow hD (by omega) ((2147483647 - (0 : Int32).toInt).toNat + 1) 0 (by show (2147483647 - (0 : Int32).toInt).toNat < _; omega) (by omega)
      have hwt' : F_Se_wantedTogether (nI L.length) dO wa op row' = nI (qWs (fun j => (qRw L.length row' 0).any (qCo g (nI j))) (qWt g) D) := (F_Se_wantedTogether_s ..).trans hwt
      have hw1 := q_wsLe (P := fun j => (qRw L.length row' 0).any (qCo g (nI j))) (q_wt hC.1) D
      have hEq : qWs (fun j => (qRw L.length t' 0).any (qCo g (nI j))) (qWt g) D = qWs (fun j => (qRw L.length row' 0).any (qCo g (nI j))) (qWt g) D := by
        congr 1
        funext j
        rw [w2, hl, w4]
        exact (q_anyP p1 _).symm
      rw [hwt']
      obtain ⟨S, hS⟩ : ∃ S : Nat, qWs (fun j => (qRw L.length row' 0).any (qCo g (nI j))) (qWt g) D = S := ⟨_, rfl⟩
      have eS := nI_toInt (show S < 2147483648 by omega)
      have q1' : nI S = 0 ↔ S = 0 := ⟨fun h9 => by have h8 := congrArg Int32.toInt h9; rw [eS, q0] at h8; omega, fun h9 => by rw [h9]; rfl⟩
      by_cases hz : L.length = 0
      · have hS0 : S = 0 := by
          rw [← hS]
          have hz0 : ∀ n, qWs (fun j => (qRw L.length row' 0).any (qCo g (nI j))) (qWt g) n = 0 := fun n => by
            induction n with
            | zero => rfl
            | succ n ih =>
              show qWs (fun j => (qRw L.length row' 0).any (qCo g (nI j))) (qWt g) n + (if (qRw L.length row' 0).any (qCo g (nI n)) = true then _ else 0) = 0
              rw [ih, hz]
              rfl
          exact hz0 D
        rw [hS]
        simp only [q1'.mpr hS0, show nI L.length ≤ 0 from q_le.mpr (by rw [eL, q0]; omega), ↓reduceIte]
      · have hn0 : 0 < L.length := by omega
        have hmf := q_mf (t := t') (w := 0) (n := L.length) (a := 0) hC.1 p2 hn0 hD3 (by omega)
        rw [hEq, hS, show nI 0 = (0 : Int32) from rfl] at hmf
        have q2' : lg_cmp (F_r_meanFrom (nI L.length) g t' 0 0).2 0 = 0 ↔ S = 0 := by
          rw [lg_cmp_eq]
          exact ⟨fun h9 => by have h8 := congrArg Int64.toInt h9; rw [hmf, show (0 : Int64).toInt = 0 by decide +kernel] at h8; omega, fun h9 => Int64.toInt_inj.mp (by rw [hmf, h9]; decide +kernel)⟩
        rw [hS]
        simp only [show ¬ nI L.length ≤ 0 from q_nle.mpr (by rw [eL, q0]; omega), q1', q2', ↓reduceIte]
        by_cases hS0 : S = 0
        · simp only [hS0, ↓reduceIte]
        · simp only [hS0, ↓reduceIte]
          have z6 := hC.1 6 (by omega)
          have z7 := hC.1 7 (by omega)
          have z9 := hC.1 9 (by omega)
          have t6 := zck_at (a := 5) (b := 8) (lo := 0) (hi := 99) (by decide +kernel) (j := 6) (by omega) (by omega)
          have t7 := zck_at (a := 5) (b := 8) (lo := 0) (hi := 99) (by decide +kernel) (j := 7) (by omega) (by omega)
          have t9 := zck_at (a := 9) (b := 9) (lo := 0) (hi := 16) (by decide +kernel) (j := 9) (by omega) (by omega)
          obtain ⟨T, hT, hT9, -⟩ := q_nat (k := g 6) (m := 100) ⟨by omega, by omega⟩ (by omega)
          obtain ⟨G, hG, hG9, -⟩ := q_nat (k := g 7) (m := 100) ⟨by omega, by omega⟩ (by omega)
          obtain ⟨Tu, hTu, hTu9, -⟩ := q_nat (k := g 9) (m := 17) ⟨by omega, by omega⟩ (by omega)
          obtain ⟨Dk, hDk, hDk9, -⟩ := q_nat (k := ke) (m := 11) ⟨by omega, by omega⟩ (by omega)
          have hg1 : g 1 = nI Dk := h.1.2.1.symm.trans hDk
          have eDk := nI_toInt (show Dk < 2147483648 by omega)
          obtain ⟨s1, s2⟩ := q_sort (g := row') p2
          have hnd : (qRw L.length row' 0).Nodup := by rw [w2]; exact p3
          have hUp := q_up s1 (s2.nodup_iff.mpr hnd)
          have hperm : (qRw L.length (F_Se_sortUp row' (nI L.length)) 0).Perm L := by rw [w2] at s2; exact s2
          have hKr : ∀ i : Nat, i < L.length → ∃ q : Nat, F_Se_sortUp row' (nI L.length) i = nI q ∧ (q : Int) < ke.toInt := fun i hi => p4 _ (hperm.mem_iff.mp (qRw_mem.mpr ⟨i, hi, by rw [Nat.zero_add]⟩))
          have hpos : 0 < qWs (uAn g (F_Se_sortUp row' (nI L.length)) L.length) (qWt g) D := by
            rw [← v_qc g _ L.length D L hperm]
            rw [w2] at hS
            rw [hS]
            omega
          have hk : qKs (F_Se_sortUp row' (nI L.length)) (fun a => (F_Se_sortUp row' (nI L.length) a).toInt.toNat) L.length Dk t' := by
            refine ⟨fun a ha => ?_, fun a b2 ha hb2 => ?_, fun x => ?_⟩
            · obtain ⟨q, q1, q2⟩ := hKr a ha
              have eq := nI_toInt (show q < 2147483648 by omega)
              show F_Se_sortUp row' (nI L.length) a = nI (F_Se_sortUp row' (nI L.length) a).toInt.toNat ∧ (F_Se_sortUp row' (nI L.length) a).toInt.toNat < Dk
              rw [q1, eq]
              rw [hDk, eDk] at q2
              exact ⟨rfl, by omega⟩
            · obtain ⟨q, q1, q3⟩ := hKr a (by omega)
              obtain ⟨q', q1', q2'⟩ := hKr b2 hb2
              obtain ⟨-, q2⟩ := hKr a (by omega)
              have h9 := hUp b2 a hb2 (by omega)
              have h8 : ¬ (F_Se_sortUp row' (nI L.length) b2).toInt ≤ (F_Se_sortUp row' (nI L.length) a).toInt := fun h7 => absurd (h9.mp (q_le.mpr h7)) (by omega)
              obtain ⟨-, u3⟩ := hKr b2 hb2
              have h0 : 0 ≤ (F_Se_sortUp row' (nI L.length) a).toInt := by rw [q1, nI_toInt (by omega)]; omega
              show (F_Se_sortUp row' (nI L.length) a).toInt.toNat < (F_Se_sortUp row' (nI L.length) b2).toInt.toNat
              omega
            · have h9 : x ∈ L' ↔ x ∈ L := p1.mem_iff.symm
              rw [← w4, ← hl] at h9
              have h8 := h9.trans hperm.mem_iff.symm
              rw [qRw_mem, qRw_mem] at h8
              simp only [Nat.zero_add] at h8
              exact h8
          have hme := fun how hh => v_me (rm := rm) h hC (show L.length < 7 by omega) hn0 hKr hD (by omega) hT hG (by omega) (by omega) how hh
          by_cases k0 : k2 = 0
          · simp only [k0, ↓reduceIte]
            have hJ := v_hj0 (K := F_Se_sortUp row' (nI L.length)) hC.1 (show L.length < 7 by omega) hn0 hD3 (by omega) hT hG (by omega) (by omega) hTu (by omega) hpos
            obtain ⟨q, f1, -, f3⟩ := v_fo (bt := bt) (bb := bb) (mt := (F_r_meanFrom (nI L.length) g t' 0 0).1) (mb := (F_r_meanFrom (nI L.length) g t' 0 0).2) (tr := tr) (bs := bs) (fo := fo) (od := od) hJ c6 hn0 (by omega) hg1 hk
            have hX := (v_foX (fm := sfm) (fd := sf) (show L.length < 7 by omega) hn0 hnd (fun r2 l _ hA => hme 0 (Or.inl rfl) r2 l hA) f1).2.1
            exact hX.trans (f3 0 hn0).symm
          · simp only [k0, ↓reduceIte]
            have hJ := v_hj1 (K := F_Se_sortUp row' (nI L.length)) hC.1 (show L.length < 7 by omega) hn0 hD3 (by omega) hT hG (by omega) (by omega) hTu (by omega) hpos
            obtain ⟨q, f1, -, f3⟩ := v_fo (bt := bt) (bb := bb) (mt := (F_r_meanFrom (nI L.length) g t' 0 0).1) (mb := (F_r_meanFrom (nI L.length) g t' 0 0).2) (tr := tr) (bs := bs) (fo := fo) (od := od) hJ c6 hn0 (by omega) hg1 hk
            have hX := (v_foX (fm := sfm) (fd := sf) (show L.length < 7 by omega) hn0 hnd (fun r2 l _ hA => hme 1 (Or.inr rfl) r2 l hA) f1).2.1
            exact hX.trans (f3 0 hn0).symm
    · simp only [show ¬ nI L.length ≤ 6 from q_nle.mpr (by rw [eL, e6]; omega), ↓reduceIte]
  · simp only [c, ↓reduceIte]
