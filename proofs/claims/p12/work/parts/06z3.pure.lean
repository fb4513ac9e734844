theorem q_dm : ∀ a : Nat, a < 17 → ∀ b : Nat, b < 5 → 1 < b → nI a / nI b = nI (a / b) ∧ nI a - nI a / nI b * nI b = nI (a % b) := by decide +kernel
theorem q_dm2 : ∀ b : Nat, b < 5 → 1 < b → ∀ a : Nat, a < b * b → a / b < 4 ∧ a % b < 4 ∧ a < 16 := by decide +kernel
theorem q_Te_num (t : Int32) : F_Te_isNumber t = if t = 2 then 1 else 0 := F_Te_isNumber_s t
def qSm (g g' : Nat → Int32) (lo hi : Nat) : Prop := ∀ j : Nat, ¬ (lo ≤ j ∧ j < hi) → g' j = g j
theorem qSm_r {g : Nat → Int32} {lo hi : Nat} : qSm g g lo hi := fun _ _ => rfl
theorem qSm_u {g g' : Nat → Int32} {lo hi k : Nat} {v : Int32} (h : qSm g g' lo hi) (h1 : lo ≤ k) (h2 : k < hi) : qSm g (upd g' k v) lo hi := fun j hj => by
  rw [show upd g' k v j = g' j from if_neg (fun e => hj (by omega))]
  exact h j hj
def qFeR (n : Int32) (T : Nat → Int32) (fp ba feT : Int32) (hFe : Nat → Int32) (r : Nat) (g0 : Nat → Int32) (a : Int32) (C : Int32 × Int32 × Int32 × Int32 × Int32 × Int32 × Int32 × Int64 × Int32 × Int32 × (Nat → Int32)) (M : Int32 × Int32 × Int32 × Int32 × Int32 × Int32 × Int32 × Int64 × (Nat → Int32) × (Nat → Int32)) : Prop := ((∃ (six' g' : Nat → Int32) (tok2 a2 b2 num2 lt2 : Int32) (wd2 : Int64) (cs2 cn2 : Int32) (cl2 : Int64) (zt za zb zn zl : Int32) (zw : Int64), C = (1, feT, tok2, a2, b2, cn2, cs2, cl2, 0, fp, six') ∧ M = (0, ba, zt, za, zb, zn, zl, zw, hFe, g') ∧ qMs n 0 ba zt za zb zn zl zw T = (0, ba, tok2, a2, b2, num2, lt2, wd2) ∧ a.toInt < a2.toInt ∧ qTk n T tok2 a2 b2 num2 lt2 wd2 cs2 cn2 cl2 ∧ qSm g0 g' (1477 + 16 * r) (1477 + 16 * r + 16) ∧ ∀ j : Nat, j < 48 → six' j = g' (1477 + j)) ∨ (∃ (fl p : Int32), 0 < fl.toInt ∧ C.1 = 0 ∧ C.2.2.2.2.2.2.2.2.1 = fl ∧ C.2.2.2.2.2.2.2.2.2.1 = p ∧ (qMs n M.1 M.2.1 M.2.2.1 M.2.2.2.1 M.2.2.2.2.1 M.2.2.2.2.2.1 M.2.2.2.2.2.2.1 M.2.2.2.2.2.2.2.1 T).1 = fl ∧ (qMs n M.1 M.2.1 M.2.2.1 M.2.2.2.1 M.2.2.2.2.1 M.2.2.2.2.2.1 M.2.2.2.2.2.2.1 M.2.2.2.2.2.2.2.1 T).2.1 = p))
theorem qFeR_m {n : Int32} {T : Nat → Int32} {fp ba feT : Int32} {hFe : Nat → Int32} {r : Nat} {g0 : Nat → Int32} {a a1 : Int32} {C : Int32 × Int32 × Int32 × Int32 × Int32 × Int32 × Int32 × Int64 × Int32 × Int32 × (Nat → Int32)} {M : Int32 × Int32 × Int32 × Int32 × Int32 × Int32 × Int32 × Int64 × (Nat → Int32) × (Nat → Int32)} (h : a.toInt ≤ a1.toInt) (k : qFeR n T fp ba feT hFe r g0 a1 C M) : qFeR n T fp ba feT hFe r g0 a C M := by
  rcases k with ⟨x1, x2, x3, x4, x5, x6, x7, x8, x9, x10, x11, x12, x13, x14, x15, x16, x17, y1, y2, y3, y4, y5⟩ | k
  · exact Or.inl ⟨x1, x2, x3, x4, x5, x6, x7, x8, x9, x10, x11, x12, x13, x14, x15, x16, x17, y1, y2, y3, by omega, y5⟩
  · exact Or.inr k
theorem q_feelsL {n : Int32} {T : Nat → Int32} {fp ba feT : Int32} {hFe : Nat → Int32} {r s : Nat} (hn : n.toInt ≤ 900) (hr : r < 3) (hs1 : 1 < s) (hs : s < 5) (g0 : Nat → Int32) : ∀ (f1 f2 v : Nat) (sum : Int32) (six g : Nat → Int32) (more tok a b num lt cs cn : Int32) (wd cl : Int64) (C : Int32 × Int32 × Int32 × Int32 × Int32 × Int32 × Int32 × Int64 × Int32 × Int32 × (Nat → Int32)) (M : Int32 × Int32 × Int32 × Int32 × Int32 × Int32 × Int32 × Int64 × (Nat → Int32) × (Nat → Int32)), (2147483647 - (nI v).toInt).toNat < f1 → (900 - b.toInt + more.toInt).toNat < f2 → v ≤ s * s → qTk n T tok a b num lt wd cs cn cl → (more = if tok = 2 then 1 else 0) → qSm g0 g (1477 + 16 * r) (1477 + 16 * r + 16) → (∀ j : Nat, j < 48 → six j = g (1477 + j)) → F_Ho_readFeels_L103a n T (nI r) 0 fp feT (nI s) f1 (nI v) sum six tok a b cn cs cl = C → F_r_readFeels_L74a n T (nI r) 0 ba hFe (nI s) f2 (nI v) sum more g tok a b num lt wd = M → qFeR n T fp ba feT hFe r g0 a C M := by
  intro f1
  induction f1 with
  | zero => intro f2 v sum six g more tok a b num lt cs cn wd cl C M h; exact absurd h (Nat.not_lt_zero _)
  | succ f1 ih =>
    intro f2 v sum six g more tok a b num lt cs cn wd cl C M h1 h2 hv hT hmore hg h6 hC hM
    cases f2 with
    | zero => exact absurd h2 (Nat.not_lt_zero _)
    | succ f2 =>
      have q16 : (16 : Int32).toInt = 16 := by decide +kernel
      have hss : s * s ≤ 16 := by
        rcases (show s = 2 ∨ s = 3 ∨ s = 4 by omega) with rfl | rfl | rfl <;> decide
      have ev : (nI v).toInt = (v : Int) := nI_toInt (by omega)
      have ev1 : (nI (v + 1)).toInt = ((v + 1 : Nat) : Int) := nI_toInt (by omega)
      have es : (nI s).toInt = (s : Int) := nI_toInt (by omega)
      have hc16 : ¬ (16 : Int32) < nI v := by rw [q_nlt, ev, q16]; omega
      have hs0 : ¬ nI s ≤ 0 := by rw [q_nle, es, q0]; omega
      have hb := q_tkb hT
      rw [F_Ho_readFeels_L103a_s] at hC
      rw [F_r_readFeels_L74a_s] at hM
      simp only [hc16, hs0, q_Te_num, q_isSign hT, q_refuse, qnI_mul, ↓reduceIte] at hC
      simp only [q_fail, q_wrong, qnI_mul] at hM
      by_cases ht : tok = 2
      · have hm1 : ¬ more = 0 := by rw [hmore, if_pos ht]; decide
        have hm1' : more.toInt = 1 := by rw [hmore, if_pos ht, q1]
        have hab := hT.2.2.2.2.2.1 (by rw [ht]; decide)
        have hcn := (hT.2.2.2.2.2.2.1 ht).1
        simp only [ht, hcn, q_n1, ↓reduceIte] at hC
        simp only [ht, hm1, ↓reduceIte] at hM
        have q24 : ¬ (2 : Int32) = 4 := by decide
        simp only [qF_4 q24] at hC hM
        by_cases c16 : num ≤ 16
        · simp only [c16, ↓reduceIte] at hC hM
          by_cases cv : v = s * s
          · have e1 : ¬ nI v < nI (s * s) := by rw [cv, q_nlt]; omega
            have e2 : nI v = nI (s * s) := by rw [cv]
            simp only [e1, ↓reduceIte] at hC
            simp only [e2, ite_self, ↓reduceIte] at hM
            subst hC
            subst hM
            exact Or.inr ⟨8, a, q_8p, rfl, rfl, rfl, (q_msN q_8p ..).1, (q_msN q_8p ..).2⟩
          · have hvs : v < s * s := by omega
            have e1 : nI v < nI (s * s) := by rw [q_lt, ev, nI_toInt (by omega)]; omega
            have e2 : ¬ nI v = nI (s * s) := fun h9 => by rw [q_eq, ev, nI_toInt (by omega)] at h9; omega
            obtain ⟨d1, d2⟩ := q_dm v (by omega) s hs hs1
            have d2 : nI v - nI (v / s) * nI s = nI (v % s) := by rw [← d1]; exact d2
            obtain ⟨d3, d4, d5⟩ := q_dm2 s hs hs1 v hvs
            have es1 : nI s - 1 = nI (s - 1) := by rw [show s = (s - 1) + 1 by omega, qnI_sub1]; rfl
            have ei : ((1477 : Int32) + 16 * nI r + 4 * nI (v / s) + nI (v % s)).toNatClampNeg = 1477 + 16 * r + 4 * (v / s) + v % s := by
              have : (1477 : Int32) + 16 * nI r + 4 * nI (v / s) + nI (v % s) = nI (1477 + 16 * r + 4 * (v / s) + v % s) := by
                show nI 1477 + nI 16 * nI r + nI 4 * nI (v / s) + nI (v % s) = _
                rw [qnI_mul, qnI_mul, nI_add, nI_add, nI_add]
              rw [this, qnI_cl (by omega)]
            have hz : (nI (v % s) = 0) ↔ v % s = 0 := qnI_eq (b := 0) (by omega) (by omega)
            have hz1 : (nI (v % s) = nI (s - 1)) ↔ v % s = s - 1 := qnI_eq (by omega) (by omega)
            simp only [e1, d2, d1, es1, hz, hz1, q_felt hr d3 d4, qnI_s v, ↓reduceIte] at hC
            simp only [e2, d2, d1, es1, hz, hz1, ei, qnI_s v, ↓reduceIte] at hM
            have hg' : qSm g0 (upd g (1477 + 16 * r + 4 * (v / s) + v % s) num) (1477 + 16 * r) (1477 + 16 * r + 16) := qSm_u hg (by omega) (by omega)
            have h6' : ∀ j : Nat, j < 48 → upd six (16 * r + 4 * (v / s) + v % s) num j = upd g (1477 + 16 * r + 4 * (v / s) + v % s) num (1477 + j) := by
              intro j hj
              unfold upd
              by_cases c : j = 16 * r + 4 * (v / s) + v % s
              · rw [if_pos c, if_pos (by omega)]
              · rw [if_neg c, if_neg (by omega)]
                exact h6 j hj
            obtain ⟨tok1, a1, b1, num1, lt1, wd1, cs1, cn1, cl1, f1', f2', f3, f4⟩ := q_ad (T := T) hn hb.1 hb.2 num cs cl num lt wd
            have hb1 := q_tkb f4
            have go : ∀ sm : Int32, F_Ho_readFeels_L103a n T (nI r) 0 fp feT (nI s) f1 (nI (v + 1)) sm (upd six (16 * r + 4 * (v / s) + v % s) num) tok1 a1 b1 cn1 cs1 cl1 = C → (if tok1 = 2 then F_r_readFeels_L74a n T (nI r) 0 ba hFe (nI s) f2 (nI (v + 1)) sm 1 (upd g (1477 + 16 * r + 4 * (v / s) + v % s) num) tok1 a1 b1 num1 lt1 wd1 else F_r_readFeels_L74a n T (nI r) 0 ba hFe (nI s) f2 (nI (v + 1)) sm 0 (upd g (1477 + 16 * r + 4 * (v / s) + v % s) num) tok1 a1 b1 num1 lt1 wd1) = M → qFeR n T fp ba feT hFe r g0 a1 C M := fun sm k1 k2 => by
              have k3 : F_r_readFeels_L74a n T (nI r) 0 ba hFe (nI s) f2 (nI (v + 1)) sm (if tok1 = 2 then 1 else 0) (upd g (1477 + 16 * r + 4 * (v / s) + v % s) num) tok1 a1 b1 num1 lt1 wd1 = M := by
                by_cases c : tok1 = 2
                · rw [if_pos c] at k2 ⊢; exact k2
                · rw [if_neg c] at k2 ⊢; exact k2
              have hme : (900 - b1.toInt + (if tok1 = 2 then (1 : Int32) else 0).toInt).toNat < f2 := by
                by_cases c : tok1 = 2
                · have := f4.2.2.2.2.2.1 (by rw [c]; decide)
                  rw [if_pos c, q1]; omega
                · have := f4.2.1
                  rw [if_neg c, q0]; omega
              exact ih f2 (v + 1) sm _ _ (if tok1 = 2 then 1 else 0) tok1 a1 b1 num1 lt1 cs1 cn1 wd1 cl1 C M (by omega) hme (by omega) f4 rfl hg' h6' k1 k3
            apply qFeR_m (show a.toInt ≤ a1.toInt by omega)
            by_cases cz : v % s = 0
            · have cz1 : ¬ v % s = s - 1 := by omega
              have cz2 : ¬ (0 : Nat) = s - 1 := by omega
              simp only [cz, cz2, f1', ↓reduceIte] at hC
              simp only [cz, cz2, f2', ↓reduceIte] at hM
              rw [← cz] at hC hM
              exact go num hC hM
            · simp only [cz, ↓reduceIte] at hC hM
              by_cases cl1' : v % s = s - 1
              · simp only [cl1', ↓reduceIte] at hC hM
                by_cases csm : sum + num = 16
                · simp only [csm, f1', ↓reduceIte] at hC
                  simp only [csm, f2', ↓reduceIte] at hM
                  rw [← cl1'] at hC hM
                  exact go 16 hC hM
                · simp only [csm, ↓reduceIte] at hC hM
                  have q9p : 0 < (9 : Int32).toInt := by decide +kernel
                  subst hC
                  subst hM
                  exact Or.inr ⟨9, a, q9p, rfl, rfl, rfl, (q_msN q9p ..).1, (q_msN q9p ..).2⟩
              · simp only [cl1', f1', ↓reduceIte] at hC
                simp only [cl1', f2', ↓reduceIte] at hM
                exact go (sum + num) hC hM
        · simp only [c16, ite_self, ↓reduceIte] at hC hM
          have q4p : 0 < (4 : Int32).toInt := by decide +kernel
          subst hC
          subst hM
          exact Or.inr ⟨4, a, q4p, rfl, rfl, rfl, (q_msN q4p ..).1, (q_msN q4p ..).2⟩
      · have hm0 : more = 0 := by rw [hmore, if_neg ht]
        simp only [ht, ↓reduceIte] at hC
        simp only [hm0, ↓reduceIte] at hM
        have done : F_Te_takeSign n tok a b cn cs cl 0 fp T 59 = F_Te_takeSign n tok a b cn cs cl 0 fp T 59 → M = (0, ba, tok, a, b, num, lt, wd, hFe, g) → (∀ x, F_Te_takeSign n tok a b cn cs cl 0 fp T 59 = x → C = (x.1, feT, x.2.1, x.2.2.1, x.2.2.2.1, x.2.2.2.2.1, x.2.2.2.2.2.1, x.2.2.2.2.2.2.1, x.2.2.2.2.2.2.2.1, x.2.2.2.2.2.2.2.2, six)) → qFeR n T fp ba feT hFe r g0 a C M := fun _ hm hc => by
          rcases q_ms (fp := fp) (ba := ba) hn hT with ⟨tok6, a6, b6, num6, lt6, wd6, cs6, cn6, cl6, l1, l2, l3, l4, l5⟩ | ⟨fl, l0, l1, l2⟩
          · exact Or.inl ⟨six, g, tok6, a6, b6, num6, lt6, wd6, cs6, cn6, cl6, tok, a, b, num, lt, wd, hc _ l1, hm, l2, l4, l5, hg, h6⟩
          · have hc := hc _ l1
            subst hc
            subst hm
            exact Or.inr ⟨fl, a, l0, rfl, rfl, rfl, by rw [l2], by rw [l2]⟩
        by_cases cs59 : F_r_isSign tok num 59 = 0
        · simp only [cs59, ↓reduceIte] at hC hM
          exact done rfl hM.symm (fun x hx => by rw [hx] at hC; exact hC.symm)
        · have ht3 : tok = 3 := by
            rw [F_r_isSign_s] at cs59
            by_cases c : tok = 3
            · exact c
            · rw [if_neg c] at cs59; exact absurd rfl cs59
          simp only [cs59, ↓reduceIte] at hC hM
          by_cases cv : nI (s * s) ≤ nI v
          · simp only [cv, ↓reduceIte] at hC hM
            exact done rfl hM.symm (fun x hx => by rw [hx] at hC; exact hC.symm)
          · simp only [cv, ↓reduceIte] at hC hM
            rw [qF_4 (by rw [ht3]; decide)] at hC
            subst hC
            subst hM
            exact Or.inr ⟨8, a, q_8p, rfl, rfl, rfl, (q_msN q_8p ..).1, (q_msN q_8p ..).2⟩
