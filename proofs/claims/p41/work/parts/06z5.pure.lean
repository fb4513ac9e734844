def qCt (x : Int32) : Nat → Nat
  | 0 => 0
  | k + 1 => qCt x k + (if qBit x k = 1 then 1 else 0)
theorem qCt_le (x : Int32) : ∀ k : Nat, qCt x k ≤ k := by
  intro k
  induction k with
  | zero => exact Nat.le_refl _
  | succ k ih =>
    show qCt x k + (if qBit x k = 1 then 1 else 0) ≤ k + 1
    by_cases c : qBit x k = 1
    · rw [if_pos c]; omega
    · rw [if_neg c]; omega
theorem qCt_set {x : Int32} {r : Nat} (hr : r < 32) (h : ¬ qBit x r = 1) : ∀ k : Nat, k ≤ 32 → qCt (x ||| ((1 : Int32) <<< (nI r &&& 31))) k = qCt x k + (if r < k then 1 else 0) := by
  intro k
  induction k with
  | zero => intro _; exact (Nat.add_zero _).symm
  | succ k ih =>
    intro hk
    have hb := q_bitset (x := x) (r := r) (j := k) hr (by omega)
    show qCt (x ||| ((1 : Int32) <<< (nI r &&& 31))) k + (if qBit (x ||| ((1 : Int32) <<< (nI r &&& 31))) k = 1 then 1 else 0) = qCt x k + (if qBit x k = 1 then 1 else 0) + _
    rw [ih (by omega)]
    by_cases c : k = r
    · rw [if_pos (hb.mpr (Or.inl c)), if_neg (show ¬ r < k by omega), if_pos (show r < k + 1 by omega), if_neg (by rw [c]; exact h)]
    · by_cases c2 : qBit x k = 1
      · rw [if_pos (hb.mpr (Or.inr c2)), if_pos c2]
        by_cases c3 : r < k
        · rw [if_pos c3, if_pos (by omega)]
        · rw [if_neg c3, if_neg (by omega)]
      · rw [if_neg (fun h9 => (hb.mp h9).elim c c2), if_neg c2]
        by_cases c3 : r < k
        · rw [if_pos c3, if_pos (by omega)]
        · rw [if_neg c3, if_neg (by omega)]
def qKB (koR keys : Int32) (isOn : Nat → Int32) : Prop := (∀ j : Nat, (j : Int) < keys.toInt → j < 10 → (qBit koR j = 1 ↔ ¬ isOn j = 0)) ∧ ∀ j : Nat, j < 10 → keys.toInt ≤ j → ¬ qBit koR j = 1
theorem q_at3 {g : Nat → Int32} {r : Nat} (h : r < 3) : F_at_3 g (nI r) = g r := by
  have e1 : (nI r).toInt = (r : Int) := nI_toInt (by omega)
  rw [F_at_3_s, if_neg (by rw [q_nlt, q0, e1]; omega), if_neg (by rw [q_nle, e1, show (3 : Int32).toInt = 3 by decide +kernel]; omega)]
  show g (nI r).toNatClampNeg = _
  rw [qnI_cl (by omega)]
theorem q_hasR {r m : Nat} (h : r < m) (hm : m < 100) : F_H_hasRing (nI m) (nI r) = 1 := by
  have e1 : (nI r).toInt = (r : Int) := nI_toInt (by omega)
  have e2 : (nI m).toInt = (m : Int) := nI_toInt (by omega)
  rw [F_H_hasRing_s, if_neg (by rw [q_nlt, q0, e1]; omega), if_neg (by rw [q_nle, e1, e2]; omega)]
theorem q_manyOn {om : Nat → Int32} {r m : Nat} (h : r < m) (hm : m ≤ 3) : F_H_manyOn (nI m) om (nI r) = om r := by
  rw [F_H_manyOn_s]
  simp only [q_hasR h (show m < 100 by omega), q_at3 (show r < 3 by omega), q_n1, ↓reduceIte]
theorem q_putOn {om on : Nat → Int32} {r v : Nat} {key : Int32} (hr : r < 3) (hv : v < 10) (ho : om r = nI v) : F_H_putOn (nI (r + 1)) on om key (nI r) (nI v) = (upd on (10 * r + v) key, upd om r (nI (v + 1))) := by
  have ev : (nI v).toInt = (v : Int) := nI_toInt (by omega)
  have ev1 : (nI (v + 1)).toInt = ((v + 1 : Nat) : Int) := nI_toInt (by omega)
  have hv10 : nI v < 10 := by rw [q_lt, ev, q10]; omega
  have hvv : nI v ≤ nI v := Int32.le_refl _
  have hv0 : ¬ nI v < 0 := by rw [q_nlt, q0, ev]; omega
  have hv1 : ¬ nI (v + 1) ≤ nI v := by rw [q_nle]; omega
  have e : nI r * 10 + nI v = nI (10 * r + v) := by
    show nI r * nI 10 + nI v = _
    rw [qnI_mul, nI_add]
    congr 1
    omega
  have eu : upd om r (nI (v + 1)) r = nI (v + 1) := if_pos rfl
  rw [F_H_putOn_s]
  simp only [q_hasR (show r < r + 1 by omega) (show r + 1 < 100 by omega), q_manyOn (show r < r + 1 by omega) (show r + 1 ≤ 3 by omega), ho, hv10, q_n1, qnI_s, q_kp3 hr, ↓reduceIte]
  rw [F_H_putOn_L39a_s]
  simp only [hvv, F_H_layAt_s, hv0, q_manyOn (show r < r + 1 by omega) (show r + 1 ≤ 3 by omega), eu, hv1, e, q_kp30 (show 10 * r + v < 30 by omega), ↓reduceIte]
abbrev qRC : Type := Int32 × Int32 × Int32 × Int32 × Int32 × Int32 × Int64 × Int32 × Int32 × (Nat → Int64) × Int32 × (Nat → Int32) × Int32 × (Nat → Int32)
def qRe (r : Nat) (g g' : Nat → Int32) (om om' on on' : Nat → Int32) : Prop := (∀ j : Nat, ¬ (j = 1462 ∨ j = 1555 + r ∨ (1558 + 10 * r ≤ j ∧ j < 1558 + 10 * r + 10)) → g' j = g j) ∧ g' 1462 = nI (r + 1) ∧ (∀ j : Nat, ¬ j = r → om' j = om j) ∧ qSm on on' (10 * r) (10 * r + 10) ∧ ∃ v : Nat, v ≤ 10 ∧ om' r = nI v ∧ g' (1555 + r) = nI v ∧ ∀ i : Nat, i < v → on' (10 * r + i) = g' (1558 + 10 * r + i)
def qRR (n : Int32) (T : Nat → Int32) (fp ba keys : Int32) (nr' w' : Nat → Int64) (r : Nat) (g om on : Nat → Int32) (a : Int32) (C : qRC) (M : qKM) : Prop := (∃ (om' on' g' isOn' : Nat → Int32) (koR' tok2 a2 b2 num2 lt2 : Int32) (wd2 : Int64) (cs2 cn2 : Int32) (cl2 : Int64) (zt za zb zn zl : Int32) (zw : Int64), C = (1, tok2, a2, b2, cn2, cs2, cl2, 0, fp, nr', nI (r + 1), om', koR', on') ∧ M = (0, ba, zt, za, zb, zn, zl, zw, w', g', isOn') ∧ qMs n 0 ba zt za zb zn zl zw T = (0, ba, tok2, a2, b2, num2, lt2, wd2) ∧ a.toInt < a2.toInt ∧ qTk n T tok2 a2 b2 num2 lt2 wd2 cs2 cn2 cl2 ∧ qRe r g g' om om' on on' ∧ qKB koR' keys isOn') ∨ (∃ (fl p : Int32), 0 < fl.toInt ∧ C.1 = 0 ∧ C.2.2.2.2.2.2.2.1 = fl ∧ C.2.2.2.2.2.2.2.2.1 = p ∧ (qMs n M.1 M.2.1 M.2.2.1 M.2.2.2.1 M.2.2.2.2.1 M.2.2.2.2.2.1 M.2.2.2.2.2.2.1 M.2.2.2.2.2.2.2.1 T).1 = fl ∧ (qMs n M.1 M.2.1 M.2.2.1 M.2.2.2.1 M.2.2.2.2.1 M.2.2.2.2.2.1 M.2.2.2.2.2.2.1 M.2.2.2.2.2.2.2.1 T).2.1 = p ∧ qFr g M.2.2.2.2.2.2.2.2.2.1 ∧ qFw w' M.2.2.2.2.2.2.2.2.1)
theorem qRR_m {n : Int32} {T : Nat → Int32} {fp ba keys : Int32} {nr' w' : Nat → Int64} {r : Nat} {g om on : Nat → Int32} {a a1 : Int32} {C : qRC} {M : qKM} (h : a.toInt ≤ a1.toInt) (q : qRR n T fp ba keys nr' w' r g om on a1 C M) : qRR n T fp ba keys nr' w' r g om on a C M := by
  rcases q with ⟨x1, x2, x3, x4, x5, x6, x7, x8, x9, x10, x11, x12, x13, x14, x15, x16, x17, x18, x19, x20, y1, y2, y3, y4, y5⟩ | q
  · exact Or.inl ⟨x1, x2, x3, x4, x5, x6, x7, x8, x9, x10, x11, x12, x13, x14, x15, x16, x17, x18, x19, x20, y1, y2, y3, by omega, y5⟩
  · exact Or.inr q
theorem q_me {n : Int32} {T : Nat → Int32} {tok a b num lt cs cn b0 k : Int32} {wd cl : Int64} {f2 : Nat} (h : qTk n T tok a b num lt wd cs cn cl) (hb : b0.toInt ≤ a.toInt) (hk : 0 < k.toInt) (hn : n.toInt ≤ 900) (h2 : (4600 - 5 * b0.toInt + k.toInt).toNat < f2 + 1) : (4600 - 5 * b.toInt + tok.toInt).toNat < f2 := by
  have q2' : (2 : Int32).toInt = 2 := by decide +kernel
  have q3' : (3 : Int32).toInt = 3 := by decide +kernel
  have h9 := h.2.2.1
  rcases h.2.2.2.1 with c | c | c | c | c
  · have := h.2.1
    rw [c, q0]; omega
  · have := h.2.2.2.2.2.1 (by rw [c]; decide)
    rw [c, q1]; omega
  · have := h.2.2.2.2.2.1 (by rw [c]; decide)
    rw [c, q2']; omega
  · have := h.2.2.2.2.2.1 (by rw [c]; decide)
    rw [c, q3']; omega
  · have := h.2.2.2.2.2.1 (by rw [c]; decide)
    rw [c, q4]; omega
theorem q_ringL {n : Int32} {T : Nat → Int32} {fp ba keys : Int32} {nk nr' w' : Nat → Int64} {r : Nat} {g0 om0 on0 : Nat → Int32} (hn : n.toInt ≤ 900) (hr : r < 3) (hNk : qNm keys 10 nk w' 87) (hg61 : keys = g0 1461) (hg62 : g0 1462 = nI r) : ∀ (f1 f2 v : Nat) (on om g isOn : Nat → Int32) (koR tok a b num lt cs cn : Int32) (wd cl : Int64) (C : qRC) (M : qKM), (2147483647 - (nI v).toInt).toNat < f1 → (4600 - 5 * b.toInt + tok.toInt).toNat < f2 → v ≤ qCt koR 10 → om r = nI v → qTk n T tok a b num lt wd cs cn cl → qSm g0 g (1558 + 10 * r) (1558 + 10 * r + 10) → qSm on0 on (10 * r) (10 * r + 10) → (∀ j : Nat, ¬ j = r → om j = om0 j) → (∀ i : Nat, i < v → on (10 * r + i) = g (1558 + 10 * r + i)) → qKB koR keys isOn → F_Ho_readRing_L68a n T nk keys (nI r) nr' (nI (r + 1)) f1 (nI v) on koR tok a b cn cs cl 0 fp om = C → F_r_readRing_L11a n T (nI r) w' f2 (nI v) isOn 0 ba tok a b num lt wd g = M → qRR n T fp ba keys nr' w' r g0 om0 on0 a C M := by
  intro f1
  induction f1 with
  | zero => intro f2 v on om g isOn koR tok a b num lt cs cn wd cl C M h; exact absurd h (Nat.not_lt_zero _)
  | succ f1 ih =>
    intro f2 v on om g isOn koR tok a b num lt cs cn wd cl C M h1 h2 hv hom hT hg hon homf hrel hKB hC hM
    cases f2 with
    | zero => exact absurd h2 (Nat.not_lt_zero _)
    | succ f2 =>
      have hv10 := qCt_le koR 10
      have ev : (nI v).toInt = (v : Int) := nI_toInt (by omega)
      have ev1 : (nI (v + 1)).toInt = ((v + 1 : Nat) : Int) := nI_toInt (by omega)
      have hc10 : ¬ (10 : Int32) < nI v := by rw [q_nlt, ev, q10]; omega
      have hb := q_tkb hT
      have hgk : keys = g 1461 := by rw [hg61, hg 1461 (by omega)]
      rw [F_Ho_readRing_L68a_s] at hC
      rw [F_r_readRing_L11a_s] at hM
      simp only [hc10, q_isSign hT, q_refuse, qnI_s, ↓reduceIte] at hC
      simp only [↓reduceIte] at hM
      have x1 : ((1555 : Int32) + nI r).toNatClampNeg = 1555 + r := by
        show (nI 1555 + nI r).toNatClampNeg = _
        rw [nI_add, qnI_cl (by omega)]
      have x3 : upd g (1555 + r) (nI v) 1462 = nI r := by
        rw [show upd g (1555 + r) (nI v) 1462 = g 1462 from if_neg (by omega), hg 1462 (by omega), hg62]
      by_cases cs59 : F_r_isSign tok num 59 = 0
      · simp only [cs59, ↓reduceIte] at hC
        by_cases ht : tok = 1
        · simp only [ht, ↓reduceIte] at hM
          rw [ht] at hC
          rw [ht] at hT
          rcases q_old_1 (fp := fp) (ba := ba) hn hNk hgk hT with ⟨k, k1, k2, k3, k4, k5, -⟩ | ⟨fl, r', k0, k1, k2⟩
          · obtain ⟨kk, rfl, hk10⟩ : ∃ kk : Nat, k = nI kk ∧ kk < 10 := ⟨k.toInt.toNat, q_toN (m := 0) k3, by have := hNk.2.1; omega⟩
            have ek : (nI kk).toInt = (kk : Int) := nI_toInt (by omega)
            have y1 : (nI kk).toNatClampNeg = kk := qnI_cl (by omega)
            have hB := hKB.1 kk (by omega) hk10
            simp only [k1, q_m1 k3, ↓reduceIte] at hC
            simp only [k2, y1, ↓reduceIte] at hM
            by_cases cb : isOn kk = 0
            · have cb' : ¬ qBit koR kk = 1 := fun h9 => hB.mp h9 cb
              have cb2 : ¬ ((koR >>> (nI kk &&& 31)) &&& 1) = 1 := cb'
              have hct := qCt_set (show kk < 32 by omega) cb' 10 (by omega)
              rw [if_pos hk10] at hct
              have hct2 := qCt_le (koR ||| ((1 : Int32) <<< (nI kk &&& 31))) 10
              have x2 : ((1558 : Int32) + 10 * nI r + nI v).toNatClampNeg = 1558 + 10 * r + v := by
                show (nI 1558 + nI 10 * nI r + nI v).toNatClampNeg = _
                rw [qnI_mul, nI_add, nI_add, qnI_cl (by omega)]
              obtain ⟨tok1, a1, b1, num1, lt1, wd1, cs1, cn1, cl1, f1', f2', f3, f4⟩ := q_ad (T := T) hn hb.1 hb.2 cn cs cl num lt wd
              simp only [cb2, q_putOn hr (show v < 10 by omega) hom, f1', ↓reduceIte] at hC
              simp only [cb, q_nz1, x2, qnI_s v, f2', ↓reduceIte] at hM
              refine qRR_m (show a.toInt ≤ a1.toInt by omega) (ih f2 (v + 1) _ _ _ _ _ tok1 a1 b1 num1 lt1 cs1 cn1 wd1 cl1 C M (by omega) (q_me f4 f3 (by rw [ht, q1]; omega) hn h2) (by omega) (if_pos rfl) f4 (qSm_u hg (show 1558 + 10 * r ≤ 1558 + 10 * r + v by omega) (by omega)) (qSm_u hon (show 10 * r ≤ 10 * r + v by omega) (by omega)) (fun j hj => by rw [show upd om r (nI (v + 1)) j = om j from if_neg hj]; exact homf j hj) (fun i hi => ?_) ⟨fun j hj hj10 => ?_, fun j hj hj2 h9 => ?_⟩ hC hM)
              · unfold upd
                by_cases c : i = v
                · rw [if_pos (by omega), if_pos (by omega)]
                · rw [if_neg (by omega), if_neg (by omega)]
                  exact hrel i (by omega)
              · rw [q_bitset (show kk < 32 by omega) (show j < 32 by omega)]
                by_cases c : j = kk
                · rw [show upd isOn kk 1 j = 1 from if_pos c]
                  exact ⟨fun _ => by decide, fun _ => Or.inl c⟩
                · rw [show upd isOn kk 1 j = isOn j from if_neg c]
                  exact ⟨fun h => (hKB.1 j hj hj10).mp (h.resolve_left c), fun h => Or.inr ((hKB.1 j hj hj10).mpr h)⟩
              · rcases (q_bitset (show kk < 32 by omega) (show j < 32 by omega)).mp h9 with h9 | h9
                · omega
                · exact hKB.2 j hj hj2 h9
            · have cb' : ((koR >>> (nI kk &&& 31)) &&& 1) = 1 := hB.mpr cb
              simp only [cb', q_refuse, ↓reduceIte] at hC
              simp only [cb, q_fail, ↓reduceIte] at hM
              rw [qF_4 (show ¬ (1 : Int32) = 4 by decide)] at hC
              subst hC
              subst hM
              exact Or.inr ⟨5, a, q_5p, rfl, rfl, rfl, (q_msN q_5p ..).1, (q_msN q_5p ..).2, by first | exact qFr_r | exact qFr_s hg (by omega) (by omega) | exact qFr_u (qFr_s hg (by omega) (by omega)) (by omega) (by omega) | exact qFr_u (qFr_u (qFr_s hg (by omega) (by omega)) (by omega) (by omega)) (by omega) (by omega) | exact qFr_u qFr_r (by omega) (by omega) | exact qFr_u (qFr_u qFr_r (by omega) (by omega)) (by omega) (by omega) | exact qFr_u (qFr_u (qFr_u qFr_r (by omega) (by omega)) (by omega) (by omega)) (by omega) (by omega) | exact qFr_six hf3 t2 | exact fun j hj => hg j (by omega), by first | exact qFw_r | exact qFw_u qFw_r (by omega) (by omega)⟩
          · simp only [k1, ↓reduceIte] at hC
            simp only [k2, q_ne0 k0, ↓reduceIte] at hM
            subst hC
            subst hM
            exact Or.inr ⟨fl, a, k0, rfl, rfl, rfl, (q_msN k0 ..).1, (q_msN k0 ..).2, by first | exact qFr_r | exact qFr_s hg (by omega) (by omega) | exact qFr_u (qFr_s hg (by omega) (by omega)) (by omega) (by omega) | exact qFr_u (qFr_u (qFr_s hg (by omega) (by omega)) (by omega) (by omega)) (by omega) (by omega) | exact qFr_u qFr_r (by omega) (by omega) | exact qFr_u (qFr_u qFr_r (by omega) (by omega)) (by omega) (by omega) | exact qFr_u (qFr_u (qFr_u qFr_r (by omega) (by omega)) (by omega) (by omega)) (by omega) (by omega) | exact qFr_six hf3 t2 | exact fun j hj => hg j (by omega), by first | exact qFw_r | exact qFw_u qFw_r (by omega) (by omega)⟩
        · have hth : F_HR_thing_k n tok a b cl 0 fp T nk keys = (-1, qF tok 2, a) := by
            have hnm : F_Te_isName n tok a b cl T = 0 := by
              rw [q_name hn hT, F_r_isHouseName_s, if_neg ht]
            rw [F_HR_thing_k_s]
            simp only [hnm, q_refuse, ↓reduceIte]
          simp only [hth, ↓reduceIte] at hC
          simp only [ht, x1, qc_1462, x3, qnI_s r, ↓reduceIte] at hM
          subst hC
          subst hM
          have h2p : 0 < (qF tok 2).toInt := qF_p (by decide +kernel)
          have hq : qMs n 0 ba tok a b num lt wd T = (qF tok 2, a, tok, a, b, num, lt, wd) := by
            unfold qMs
            rw [if_pos cs59, q_must0]
          exact Or.inr ⟨_, a, h2p, rfl, rfl, rfl, by show (qMs n 0 ba tok a b num lt wd T).1 = _; rw [hq], by show (qMs n 0 ba tok a b num lt wd T).2.1 = _; rw [hq], by first | exact qFr_r | exact qFr_s hg (by omega) (by omega) | exact qFr_u (qFr_s hg (by omega) (by omega)) (by omega) (by omega) | exact qFr_u (qFr_u (qFr_s hg (by omega) (by omega)) (by omega) (by omega)) (by omega) (by omega) | exact qFr_u qFr_r (by omega) (by omega) | exact qFr_u (qFr_u qFr_r (by omega) (by omega)) (by omega) (by omega) | exact qFr_u (qFr_u (qFr_u qFr_r (by omega) (by omega)) (by omega) (by omega)) (by omega) (by omega) | exact qFr_six hf3 t2 | exact fun j hj => hg j (by omega), by first | exact qFw_r | exact qFw_u qFw_r (by omega) (by omega)⟩
      · have ht3 : tok = 3 := by
          rw [F_r_isSign_s] at cs59
          by_cases c : tok = 3
          · exact c
          · rw [if_neg c] at cs59; exact absurd rfl cs59
        have ht : ¬ tok = 1 := by rw [ht3]; decide
        simp only [cs59, ↓reduceIte] at hC
        simp only [ht, x1, qc_1462, x3, qnI_s r, ↓reduceIte] at hM
        rcases q_ms (fp := fp) (ba := ba) hn hT with ⟨tok6, a6, b6, num6, lt6, wd6, cs6, cn6, cl6, l1, l2, l3, l4, l5⟩ | ⟨fl, l0, l1, l2⟩
        · rw [l1] at hC
          refine Or.inl ⟨om, on, _, isOn, koR, tok6, a6, b6, num6, lt6, wd6, cs6, cn6, cl6, tok, a, b, num, lt, wd, hC.symm, hM.symm, l2, l4, l5, ⟨fun j hj => ?_, if_pos rfl, homf, hon, v, by omega, hom, ?_, fun i hi => ?_⟩, hKB⟩
          · rw [show upd (upd g (1555 + r) (nI v)) 1462 (nI (r + 1)) j = upd g (1555 + r) (nI v) j from if_neg (by omega), show upd g (1555 + r) (nI v) j = g j from if_neg (by omega)]
            exact hg j (by omega)
          · rw [show upd (upd g (1555 + r) (nI v)) 1462 (nI (r + 1)) (1555 + r) = upd g (1555 + r) (nI v) (1555 + r) from if_neg (by omega)]
            exact if_pos rfl
          · rw [show upd (upd g (1555 + r) (nI v)) 1462 (nI (r + 1)) (1558 + 10 * r + i) = upd g (1555 + r) (nI v) (1558 + 10 * r + i) from if_neg (by omega), show upd g (1555 + r) (nI v) (1558 + 10 * r + i) = g (1558 + 10 * r + i) from if_neg (by omega)]
            exact hrel i hi
        · rw [l1] at hC
          subst hC
          subst hM
          exact Or.inr ⟨fl, a, l0, rfl, rfl, rfl, by rw [l2], by rw [l2], by first | exact qFr_r | exact qFr_s hg (by omega) (by omega) | exact qFr_u (qFr_s hg (by omega) (by omega)) (by omega) (by omega) | exact qFr_u (qFr_u (qFr_s hg (by omega) (by omega)) (by omega) (by omega)) (by omega) (by omega) | exact qFr_u qFr_r (by omega) (by omega) | exact qFr_u (qFr_u qFr_r (by omega) (by omega)) (by omega) (by omega) | exact qFr_u (qFr_u (qFr_u qFr_r (by omega) (by omega)) (by omega) (by omega)) (by omega) (by omega) | exact qFr_six hf3 t2 | exact fun j hj => hg j (by omega), by first | exact qFw_r | exact qFw_u qFw_r (by omega) (by omega)⟩
theorem q_new2f {n : Int32} {T : Nat → Int32} {ba tok a b num lt : Int32} {wd : Int64} {g : Nat → Int32} {w : Nat → Int64} (h : g 1462 = 3) : F_r_readNew_2 n 0 ba tok a b num lt wd T g w = (0, 6, a, tok, a, b, num, lt, wd, w) := by
  rw [F_r_readNew_2_s]
  simp only [qc_1462, h, q_fail, ↓reduceIte]
theorem q_ring {n : Int32} {T : Nat → Int32} {tok a b num lt cs cn fp ba : Int32} {wd cl : Int64} {features keys rings doors koR : Int32} {nf nk nr nd w : Nat → Int64} {g isOn on om : Nat → Int32} {C : qRC} {M : qKM} (hn : n.toInt ≤ 900) (hN : qNms features keys rings doors nf nk nr nd w g) (hKB : qKB koR keys isOn) (hT : qTk n T tok a b num lt wd cs cn cl) (ht : tok = 1) (hC : F_Ho_readRing koR n tok a b cn cs cl 0 fp T nf nk nr nd features keys rings doors on om = C) (hM : F_r_readRing n 0 ba tok a b num lt wd T g w isOn = M) : (∃ (r : Nat) (wn : Int64), r < 3 ∧ rings = nI r ∧ qRR n T fp ba keys (vp_updL nr r wn) (vp_updL w (97 + r) wn) r g om on b C M) ∨ (∃ (fl p : Int32), 0 < fl.toInt ∧ C.1 = 0 ∧ C.2.2.2.2.2.2.2.1 = fl ∧ C.2.2.2.2.2.2.2.2.1 = p ∧ (qMs n M.1 M.2.1 M.2.2.1 M.2.2.2.1 M.2.2.2.2.1 M.2.2.2.2.2.1 M.2.2.2.2.2.2.1 M.2.2.2.2.2.2.2.1 T).1 = fl ∧ (qMs n M.1 M.2.1 M.2.2.1 M.2.2.2.1 M.2.2.2.2.1 M.2.2.2.2.2.1 M.2.2.2.2.2.2.1 M.2.2.2.2.2.2.2.1 T).2.1 = p ∧ qFr g M.2.2.2.2.2.2.2.2.2.1 ∧ qFw w M.2.2.2.2.2.2.2.2.1) := by
  obtain ⟨⟨e1, e2, e3, e4⟩, hNf, hNk, hNr, -⟩ := id hN
  rw [F_Ho_readRing_s] at hC
  rw [F_r_readRing_s] at hM
  have q3' : (3 : Int32).toInt = 3 := by decide +kernel
  have hb := q_tkb hT
  have hab := hT.2.2.2.2.2.1 (by rw [ht]; decide)
  by_cases c3 : rings < 3
  · obtain ⟨r, hr, hr3⟩ : ∃ r : Nat, rings = nI r ∧ r < 3 := ⟨rings.toInt.toNat, q_toN (m := 0) hNr.1, by rw [q_lt, q3'] at c3; have := hNr.1; omega⟩
    have hgr : g 1462 = nI r := by rw [← e3, hr]
    have hk3 : ¬ g 1462 = 3 := fun h9 => by rw [← e3] at h9; rw [h9] at c3; exact absurd c3 (by decide)
    obtain ⟨tok1, a1, b1, num1, lt1, wd1, cs1, cn1, cl1, f1, f2, f3, f4⟩ := q_ad (T := T) hn hb.1 hb.2 cn cs cl num lt wd
    have hx : ((97 : Int32) + nI r).toNatClampNeg = 97 + r := by
      show (nI 97 + nI r).toNatClampNeg = _
      rw [nI_add, qnI_cl (by omega)]
    simp only [c3, f1, ↓reduceIte] at hC
    rcases q_new_2 (ba := ba) (fp := fp) (tok0 := tok) (a0 := a) hn hN hk3 f2 f4 with ⟨tok2, a2, b2, num2, lt2, wd2, cs2, cn2, cl2, h1, h2, h3, h4, h5⟩ | ⟨fl, h0, h1, h2⟩
    · simp only [h1, h3, ↓reduceIte] at hC
      simp only [h2, hx, hgr] at hM
      rw [hr] at hC
      simp only [F_H_addRing_s, q_kl3 hr3, q_kp3 hr3, qnI_s] at hC
      have hNk' : qNm keys 10 nk (vp_updL w (97 + r) wd1) 87 := ⟨hNk.1, hNk.2.1, fun j hj => by
        rw [show vp_updL w (97 + r) wd1 (87 + j) = w (87 + j) from if_neg (by have := hNk.2.1; omega)]
        exact hNk.2.2 j hj⟩
      have hsub : qRR n T fp ba keys (vp_updL nr r wd1) (vp_updL w (97 + r) wd1) r g (upd om r 0) on a2 C M := q_ringL hn hr3 hNk' e2 hgr ((2147483647 - (0 : Int32).toInt).toNat + 1) ((4600 - 5 * b2.toInt + tok2.toInt - 5 * (0 : Int32).toInt).toNat + 1) 0 on (upd om r 0) g isOn koR tok2 a2 b2 num2 lt2 cs2 cn2 wd2 cl2 C M (by show (2147483647 - (0 : Int32).toInt).toNat < _; omega) (by rw [q0]; omega) (Nat.zero_le _) (if_pos rfl) h5 qSm_r qSm_r (fun j hj => rfl) (fun i hi => absurd hi (by omega)) hKB hC hM
      have hsub := qRR_m (show b.toInt ≤ a2.toInt by omega) hsub
      refine Or.inl ⟨r, wd1, hr3, hr, ?_⟩
      rcases hsub with ⟨x1, x2, x3, x4, x5, x6, x7, x8, x9, x10, x11, x12, x13, x14, x15, x16, x17, x18, x19, x20, y1, y2, y3, y4, y5, ⟨z1, z2, z3, z4⟩, y7⟩ | q
      · exact Or.inl ⟨x1, x2, x3, x4, x5, x6, x7, x8, x9, x10, x11, x12, x13, x14, x15, x16, x17, x18, x19, x20, y1, y2, y3, y4, y5, ⟨z1, z2, fun j hj => by rw [z3 j hj]; exact if_neg hj, z4⟩, y7⟩
      · exact Or.inr q
    · have hl0 : lg_cmp 0 0 = 0 := by decide +kernel
      simp only [h1, hl0, ↓reduceIte] at hC
      simp only [h2] at hM
      rw [F_r_readRing_L11a_s] at hM
      simp only [q_ne0 h0, ↓reduceIte] at hM
      subst hC
      subst hM
      exact Or.inr ⟨fl, a1, h0, rfl, rfl, rfl, (q_msN h0 ..).1, (q_msN h0 ..).2, by first | exact qFr_r | exact qFr_s hg (by omega) (by omega) | exact qFr_u (qFr_s hg (by omega) (by omega)) (by omega) (by omega) | exact qFr_u (qFr_u (qFr_s hg (by omega) (by omega)) (by omega) (by omega)) (by omega) (by omega) | exact qFr_u qFr_r (by omega) (by omega) | exact qFr_u (qFr_u qFr_r (by omega) (by omega)) (by omega) (by omega) | exact qFr_u (qFr_u (qFr_u qFr_r (by omega) (by omega)) (by omega) (by omega)) (by omega) (by omega) | exact qFr_six hf3 t2 | exact fun j hj => hg j (by omega), by first | exact qFw_r | exact qFw_u qFw_r (by omega) (by omega)⟩
  · have hg3 : g 1462 = 3 := q_eq.mpr (by rw [← e3, q3']; rw [q_nlt, q3'] at c3; have := hNr.2.1; omega)
    simp only [c3, q_refuse, ↓reduceIte] at hC
    simp only [q_new2f hg3] at hM
    rw [F_r_readRing_L11a_s] at hM
    simp only [q_ne0 q_6p, ↓reduceIte] at hM
    rw [qF_4 (by rw [ht]; decide)] at hC
    subst hC
    subst hM
    exact Or.inr ⟨6, a, q_6p, rfl, rfl, rfl, (q_msN q_6p ..).1, (q_msN q_6p ..).2, by first | exact qFr_r | exact qFr_s hg (by omega) (by omega) | exact qFr_u (qFr_s hg (by omega) (by omega)) (by omega) (by omega) | exact qFr_u (qFr_u (qFr_s hg (by omega) (by omega)) (by omega) (by omega)) (by omega) (by omega) | exact qFr_u qFr_r (by omega) (by omega) | exact qFr_u (qFr_u qFr_r (by omega) (by omega)) (by omega) (by omega) | exact qFr_u (qFr_u (qFr_u qFr_r (by omega) (by omega)) (by omega) (by omega)) (by omega) (by omega) | exact qFr_six hf3 t2 | exact fun j hj => hg j (by omega), by first | exact qFw_r | exact qFw_u qFw_r (by omega) (by omega)⟩
