theorem q_dm : ∀ a : Nat, a < 17 → ∀ b : Nat, b < 5 → 1 < b → nI a / nI b = nI (a / b) ∧ nI a - nI a / nI b * nI b = nI (a % b) := by decide +kernel
theorem q_dm2 : ∀ b : Nat, b < 5 → 1 < b → ∀ a : Nat, a < b * b → a / b < 4 ∧ a % b < 4 ∧ a < 16 := by decide +kernel
theorem q_Te_num (t : Int32) : F_Te_isNumber t = if t = 2 then 1 else 0 := F_Te_isNumber_s t
def qSm (g g' : Nat → Int32) (lo hi : Nat) : Prop := ∀ j : Nat, ¬ (lo ≤ j ∧ j < hi) → g' j = g j
theorem qSm_r {g : Nat → Int32} {lo hi : Nat} : qSm g g lo hi := fun _ _ => rfl
theorem qSm_u {g g' : Nat → Int32} {lo hi k : Nat} {v : Int32} (h : qSm g g' lo hi) (h1 : lo ≤ k) (h2 : k < hi) : qSm g (upd g' k v) lo hi := fun j hj => by
  rw [show upd g' k v j = g' j from if_neg (fun e => hj (by omega))]
  exact h j hj
theorem qFr_s {g g' : Nat → Int32} {lo hi : Nat} (h : qSm g g' lo hi) (h1 : 1460 ≤ lo) (h2 : hi ≤ 1640) : qFr g g' := fun j hj => h j (by omega)
def qFeR (n : Int32) (T : Nat → Int32) (fp ba feT : Int32) (hFe : Nat → Int32) (r : Nat) (g0 six0 : Nat → Int32) (a : Int32) (C : Int32 × Int32 × Int32 × Int32 × Int32 × Int32 × Int32 × Int64 × Int32 × Int32 × (Nat → Int32)) (M : Int32 × Int32 × Int32 × Int32 × Int32 × Int32 × Int32 × Int64 × (Nat → Int32) × (Nat → Int32)) : Prop := ((∃ (six' g' : Nat → Int32) (tok2 a2 b2 num2 lt2 : Int32) (wd2 : Int64) (cs2 cn2 : Int32) (cl2 : Int64) (zt za zb zn zl : Int32) (zw : Int64), C = (1, feT, tok2, a2, b2, cn2, cs2, cl2, 0, fp, six') ∧ M = (0, ba, zt, za, zb, zn, zl, zw, hFe, g') ∧ qMs n 0 ba zt za zb zn zl zw T = (0, ba, tok2, a2, b2, num2, lt2, wd2) ∧ a.toInt < a2.toInt ∧ qTk n T tok2 a2 b2 num2 lt2 wd2 cs2 cn2 cl2 ∧ qSm g0 g' (1477 + 16 * r) (1477 + 16 * r + 16) ∧ qSm six0 six' (16 * r) (16 * r + 16) ∧ ∀ j : Nat, 16 * r ≤ j → j < 16 * r + 16 → six' j = g' (1477 + j)) ∨ (∃ (fl p : Int32), 0 < fl.toInt ∧ C.1 = 0 ∧ C.2.2.2.2.2.2.2.2.1 = fl ∧ C.2.2.2.2.2.2.2.2.2.1 = p ∧ (qMs n M.1 M.2.1 M.2.2.1 M.2.2.2.1 M.2.2.2.2.1 M.2.2.2.2.2.1 M.2.2.2.2.2.2.1 M.2.2.2.2.2.2.2.1 T).1 = fl ∧ (qMs n M.1 M.2.1 M.2.2.1 M.2.2.2.1 M.2.2.2.2.1 M.2.2.2.2.2.1 M.2.2.2.2.2.2.1 M.2.2.2.2.2.2.2.1 T).2.1 = p ∧ qFr g0 M.2.2.2.2.2.2.2.2.2))
theorem qFeR_m {n : Int32} {T : Nat → Int32} {fp ba feT : Int32} {hFe : Nat → Int32} {r : Nat} {g0 six0 : Nat → Int32} {a a1 : Int32} {C : Int32 × Int32 × Int32 × Int32 × Int32 × Int32 × Int32 × Int64 × Int32 × Int32 × (Nat → Int32)} {M : Int32 × Int32 × Int32 × Int32 × Int32 × Int32 × Int32 × Int64 × (Nat → Int32) × (Nat → Int32)} (h : a.toInt ≤ a1.toInt) (k : qFeR n T fp ba feT hFe r g0 six0 a1 C M) : qFeR n T fp ba feT hFe r g0 six0 a C M := by
  rcases k with ⟨x1, x2, x3, x4, x5, x6, x7, x8, x9, x10, x11, x12, x13, x14, x15, x16, x17, y1, y2, y3, y4, y5⟩ | k
  · exact Or.inl ⟨x1, x2, x3, x4, x5, x6, x7, x8, x9, x10, x11, x12, x13, x14, x15, x16, x17, y1, y2, y3, by omega, y5⟩
  · exact Or.inr k
theorem q_feelsL {n : Int32} {T : Nat → Int32} {fp ba feT : Int32} {hFe : Nat → Int32} {r s : Nat} (hn : n.toInt ≤ 900) (hr : r < 3) (hs1 : 1 < s) (hs : s < 5) (g0 six0 : Nat → Int32) : ∀ (f1 f2 v : Nat) (sum : Int32) (six g : Nat → Int32) (more tok a b num lt cs cn : Int32) (wd cl : Int64) (C : Int32 × Int32 × Int32 × Int32 × Int32 × Int32 × Int32 × Int64 × Int32 × Int32 × (Nat → Int32)) (M : Int32 × Int32 × Int32 × Int32 × Int32 × Int32 × Int32 × Int64 × (Nat → Int32) × (Nat → Int32)), (2147483647 - (nI v).toInt).toNat < f1 → (900 - b.toInt + more.toInt).toNat < f2 → v ≤ s * s → qTk n T tok a b num lt wd cs cn cl → (more = if tok = 2 then 1 else 0) → qSm g0 g (1477 + 16 * r) (1477 + 16 * r + 16) → qSm six0 six (16 * r) (16 * r + 16) → (∀ j : Nat, 16 * r ≤ j → j < 16 * r + 16 → six j = g (1477 + j)) → F_Ho_readFeels_L103a n T (nI r) 0 fp feT (nI s) f1 (nI v) sum six tok a b cn cs cl = C → F_r_readFeels_L74a n T (nI r) 0 ba hFe (nI s) f2 (nI v) sum more g tok a b num lt wd = M → qFeR n T fp ba feT hFe r g0 six0 a C M := by
  intro f1
  induction f1 with
  | zero => intro f2 v sum six g more tok a b num lt cs cn wd cl C M h; exact absurd h (Nat.not_lt_zero _)
  | succ f1 ih =>
    intro f2 v sum six g more tok a b num lt cs cn wd cl C M h1 h2 hv hT hmore hg hs6 h6 hC hM
    cases f2 with
    | zero => exact absurd h2 (Nat.not_lt_zero _)
    | succ f2 =>
      have q16 : (16 : Int32).toInt = 16 := by decide +kernel
      have hss : s * s ≤ 16 := by
        rcases (show s = 2 ∨ s = 3 ∨ s = 4 by omega) with rfl | rfl | rfl <;> decide
      have ev : (nI v).toInt = (v : Int) := nI_toInt (by omega)
      have ev1 : (nI (v + 1)).toInt = ((v + 1 : Nat) : Int) := nI_toInt (by omega)
      have es : (nI s).toInt = (s : Int) := nI_toInt (by omega)
      have hc16 : ¬ (16 : Int32) < nI v := by rw [q_nlt, ev, q16]; omega
      have hs0 : ¬ nI s ≤ 0 := by rw [q_nle, es, q0]; omega
      have hb := q_tkb hT
      rw [F_Ho_readFeels_L103a_s] at hC
      rw [F_r_readFeels_L74a_s] at hM
      simp only [hc16, hs0, q_Te_num, q_isSign hT, q_refuse, qnI_mul, ↓reduceIte] at hC
      simp only [q_fail, q_wrong, qnI_mul] at hM
      by_cases ht : tok = 2
      · have hm1 : ¬ more = 0 := by rw [hmore, if_pos ht]; decide
        have hm1' : more.toInt = 1 := by rw [hmore, if_pos ht, q1]
        have hab := hT.2.2.2.2.2.1 (by rw [ht]; decide)
        have hcn := (hT.2.2.2.2.2.2.1 ht).1
        simp only [ht, hcn, q_n1, ↓reduceIte] at hC
        simp only [ht, hm1, ↓reduceIte] at hM
        have q24 : ¬ (2 : Int32) = 4 := by decide
        simp only [qF_4 q24] at hC hM
        by_cases c16 : num ≤ 16
        · simp only [c16, ↓reduceIte] at hC hM
          by_cases cv : v = s * s
          · have e1 : ¬ nI v < nI (s * s) := by rw [cv, q_nlt]; omega
            have e2 : nI v = nI (s * s) := by rw [cv]
            simp only [e1, ↓reduceIte] at hC
            simp only [e2, ite_self, ↓reduceIte] at hM
            subst hC
            subst hM
            exact Or.inr ⟨8, a, q_8p, rfl, rfl, rfl, (q_msN q_8p ..).1, (q_msN q_8p ..).2, by first | exact qFr_r | exact qFr_s hg (by omega) (by omega) | exact qFr_u (qFr_s hg (by omega) (by omega)) (by omega) (by omega) | exact qFr_u (qFr_u (qFr_s hg (by omega) (by omega)) (by omega) (by omega)) (by omega) (by omega) | exact qFr_u qFr_r (by omega) (by omega) | exact qFr_u (qFr_u qFr_r (by omega) (by omega)) (by omega) (by omega) | exact qFr_u (qFr_u (qFr_u qFr_r (by omega) (by omega)) (by omega) (by omega)) (by omega) (by omega) | exact qFr_six hf3 t2 | exact fun j hj => hg j (by omega)⟩
          · have hvs : v < s * s := by omega
            have e1 : nI v < nI (s * s) := by rw [q_lt, ev, nI_toInt (by omega)]; omega
            have e2 : ¬ nI v = nI (s * s) := fun h9 => by rw [q_eq, ev, nI_toInt (by omega)] at h9; omega
            obtain ⟨d1, d2⟩ := q_dm v (by omega) s hs hs1
            have d2 : nI v - nI (v / s) * nI s = nI (v % s) := by rw [← d1]; exact d2
            obtain ⟨d3, d4, d5⟩ := q_dm2 s hs hs1 v hvs
            have es1 : nI s - 1 = nI (s - 1) := by rw [show s = (s - 1) + 1 by omega, qnI_sub1]; rfl
            have ei : ((1477 : Int32) + 16 * nI r + 4 * nI (v / s) + nI (v % s)).toNatClampNeg = 1477 + 16 * r + 4 * (v / s) + v % s := by
              have : (1477 : Int32) + 16 * nI r + 4 * nI (v / s) + nI (v % s) = nI (1477 + 16 * r + 4 * (v / s) + v % s) := by
                show nI 1477 + nI 16 * nI r + nI 4 * nI (v / s) + nI (v % s) = _
                rw [qnI_mul, qnI_mul, nI_add, nI_add, nI_add]
              rw [this, qnI_cl (by omega)]
            have hz : (nI (v % s) = 0) ↔ v % s = 0 := qnI_eq (b := 0) (by omega) (by omega)
            have hz1 : (nI (v % s) = nI (s - 1)) ↔ v % s = s - 1 := qnI_eq (by omega) (by omega)
            simp only [e1, d2, d1, es1, hz, hz1, q_felt hr d3 d4, qnI_s v, ↓reduceIte] at hC
            simp only [e2, d2, d1, es1, hz, hz1, ei, qnI_s v, ↓reduceIte] at hM
            have hg' : qSm g0 (upd g (1477 + 16 * r + 4 * (v / s) + v % s) num) (1477 + 16 * r) (1477 + 16 * r + 16) := qSm_u hg (by omega) (by omega)
            have hs6' : qSm six0 (upd six (16 * r + 4 * (v / s) + v % s) num) (16 * r) (16 * r + 16) := qSm_u hs6 (by omega) (by omega)
            have h6' : ∀ j : Nat, 16 * r ≤ j → j < 16 * r + 16 → upd six (16 * r + 4 * (v / s) + v % s) num j = upd g (1477 + 16 * r + 4 * (v / s) + v % s) num (1477 + j) := by
              intro j hj1 hj
              unfold upd
              by_cases c : j = 16 * r + 4 * (v / s) + v % s
              · rw [if_pos c, if_pos (by omega)]
              · rw [if_neg c, if_neg (by omega)]
                exact h6 j hj1 hj
            obtain ⟨tok1, a1, b1, num1, lt1, wd1, cs1, cn1, cl1, f1', f2', f3, f4⟩ := q_ad (T := T) hn hb.1 hb.2 num cs cl num lt wd
            have hb1 := q_tkb f4
            have go : ∀ sm : Int32, F_Ho_readFeels_L103a n T (nI r) 0 fp feT (nI s) f1 (nI (v + 1)) sm (upd six (16 * r + 4 * (v / s) + v % s) num) tok1 a1 b1 cn1 cs1 cl1 = C → (if tok1 = 2 then F_r_readFeels_L74a n T (nI r) 0 ba hFe (nI s) f2 (nI (v + 1)) sm 1 (upd g (1477 + 16 * r + 4 * (v / s) + v % s) num) tok1 a1 b1 num1 lt1 wd1 else F_r_readFeels_L74a n T (nI r) 0 ba hFe (nI s) f2 (nI (v + 1)) sm 0 (upd g (1477 + 16 * r + 4 * (v / s) + v % s) num) tok1 a1 b1 num1 lt1 wd1) = M → qFeR n T fp ba feT hFe r g0 six0 a1 C M := fun sm k1 k2 => by
              have k3 : F_r_readFeels_L74a n T (nI r) 0 ba hFe (nI s) f2 (nI (v + 1)) sm (if tok1 = 2 then 1 else 0) (upd g (1477 + 16 * r + 4 * (v / s) + v % s) num) tok1 a1 b1 num1 lt1 wd1 = M := by
                by_cases c : tok1 = 2
                · rw [if_pos c] at k2 ⊢; exact k2
                · rw [if_neg c] at k2 ⊢; exact k2
              have hme : (900 - b1.toInt + (if tok1 = 2 then (1 : Int32) else 0).toInt).toNat < f2 := by
                by_cases c : tok1 = 2
                · have := f4.2.2.2.2.2.1 (by rw [c]; decide)
                  rw [if_pos c, q1]; omega
                · have := f4.2.1
                  rw [if_neg c, q0]; omega
              exact ih f2 (v + 1) sm _ _ (if tok1 = 2 then 1 else 0) tok1 a1 b1 num1 lt1 cs1 cn1 wd1 cl1 C M (by omega) hme (by omega) f4 rfl hg' hs6' h6' k1 k3
            apply qFeR_m (show a.toInt ≤ a1.toInt by omega)
            by_cases cz : v % s = 0
            · have cz1 : ¬ v % s = s - 1 := by omega
              have cz2 : ¬ (0 : Nat) = s - 1 := by omega
              simp only [cz, cz2, f1', ↓reduceIte] at hC
              simp only [cz, cz2, f2', ↓reduceIte] at hM
              rw [← cz] at hC hM
              exact go num hC hM
            · simp only [cz, ↓reduceIte] at hC hM
              by_cases cl1' : v % s = s - 1
              · simp only [cl1', ↓reduceIte] at hC hM
                by_cases csm : sum + num = 16
                · simp only [csm, f1', ↓reduceIte] at hC
                  simp only [csm, f2', ↓reduceIte] at hM
                  rw [← cl1'] at hC hM
                  exact go 16 hC hM
                · simp only [csm, ↓reduceIte] at hC hM
                  have q9p : 0 < (9 : Int32).toInt := by decide +kernel
                  subst hC
                  subst hM
                  exact Or.inr ⟨9, a, q9p, rfl, rfl, rfl, (q_msN q9p ..).1, (q_msN q9p ..).2, by first | exact qFr_r | exact qFr_s hg (by omega) (by omega) | exact qFr_u (qFr_s hg (by omega) (by omega)) (by omega) (by omega) | exact qFr_u (qFr_u (qFr_s hg (by omega) (by omega)) (by omega) (by omega)) (by omega) (by omega) | exact qFr_u qFr_r (by omega) (by omega) | exact qFr_u (qFr_u qFr_r (by omega) (by omega)) (by omega) (by omega) | exact qFr_u (qFr_u (qFr_u qFr_r (by omega) (by omega)) (by omega) (by omega)) (by omega) (by omega) | exact qFr_six hf3 t2 | exact fun j hj => hg j (by omega)⟩
              · simp only [cl1', f1', ↓reduceIte] at hC
                simp only [cl1', f2', ↓reduceIte] at hM
                exact go (sum + num) hC hM
        · simp only [c16, ite_self, ↓reduceIte] at hC hM
          have q4p : 0 < (4 : Int32).toInt := by decide +kernel
          subst hC
          subst hM
          exact Or.inr ⟨4, a, q4p, rfl, rfl, rfl, (q_msN q4p ..).1, (q_msN q4p ..).2, by first | exact qFr_r | exact qFr_s hg (by omega) (by omega) | exact qFr_u (qFr_s hg (by omega) (by omega)) (by omega) (by omega) | exact qFr_u (qFr_u (qFr_s hg (by omega) (by omega)) (by omega) (by omega)) (by omega) (by omega) | exact qFr_u qFr_r (by omega) (by omega) | exact qFr_u (qFr_u qFr_r (by omega) (by omega)) (by omega) (by omega) | exact qFr_u (qFr_u (qFr_u qFr_r (by omega) (by omega)) (by omega) (by omega)) (by omega) (by omega) | exact qFr_six hf3 t2 | exact fun j hj => hg j (by omega)⟩
      · have hm0 : more = 0 := by rw [hmore, if_neg ht]
        simp only [ht, ↓reduceIte] at hC
        simp only [hm0, ↓reduceIte] at hM
        have done : F_Te_takeSign n tok a b cn cs cl 0 fp T 59 = F_Te_takeSign n tok a b cn cs cl 0 fp T 59 → M = (0, ba, tok, a, b, num, lt, wd, hFe, g) → (∀ x, F_Te_takeSign n tok a b cn cs cl 0 fp T 59 = x → C = (x.1, feT, x.2.1, x.2.2.1, x.2.2.2.1, x.2.2.2.2.1, x.2.2.2.2.2.1, x.2.2.2.2.2.2.1, x.2.2.2.2.2.2.2.1, x.2.2.2.2.2.2.2.2, six)) → qFeR n T fp ba feT hFe r g0 six0 a C M := fun _ hm hc => by
          rcases q_ms (fp := fp) (ba := ba) hn hT with ⟨tok6, a6, b6, num6, lt6, wd6, cs6, cn6, cl6, l1, l2, l3, l4, l5⟩ | ⟨fl, l0, l1, l2⟩
          · exact Or.inl ⟨six, g, tok6, a6, b6, num6, lt6, wd6, cs6, cn6, cl6, tok, a, b, num, lt, wd, hc _ l1, hm, l2, l4, l5, hg, hs6, h6⟩
          · have hc := hc _ l1
            subst hc
            subst hm
            exact Or.inr ⟨fl, a, l0, rfl, rfl, rfl, by rw [l2], by rw [l2], by first | exact qFr_r | exact qFr_s hg (by omega) (by omega) | exact qFr_u (qFr_s hg (by omega) (by omega)) (by omega) (by omega) | exact qFr_u (qFr_u (qFr_s hg (by omega) (by omega)) (by omega) (by omega)) (by omega) (by omega) | exact qFr_u qFr_r (by omega) (by omega) | exact qFr_u (qFr_u qFr_r (by omega) (by omega)) (by omega) (by omega) | exact qFr_u (qFr_u (qFr_u qFr_r (by omega) (by omega)) (by omega) (by omega)) (by omega) (by omega) | exact qFr_six hf3 t2 | exact fun j hj => hg j (by omega)⟩
        by_cases cs59 : F_r_isSign tok num 59 = 0
        · simp only [cs59, ↓reduceIte] at hC hM
          exact done rfl hM.symm (fun x hx => by rw [hx] at hC; exact hC.symm)
        · have ht3 : tok = 3 := by
            rw [F_r_isSign_s] at cs59
            by_cases c : tok = 3
            · exact c
            · rw [if_neg c] at cs59; exact absurd rfl cs59
          simp only [cs59, ↓reduceIte] at hC hM
          by_cases cv : nI (s * s) ≤ nI v
          · simp only [cv, ↓reduceIte] at hC hM
            exact done rfl hM.symm (fun x hx => by rw [hx] at hC; exact hC.symm)
          · simp only [cv, ↓reduceIte] at hC hM
            rw [qF_4 (by rw [ht3]; decide)] at hC
            subst hC
            subst hM
            exact Or.inr ⟨8, a, q_8p, rfl, rfl, rfl, (q_msN q_8p ..).1, (q_msN q_8p ..).2, by first | exact qFr_r | exact qFr_s hg (by omega) (by omega) | exact qFr_u (qFr_s hg (by omega) (by omega)) (by omega) (by omega) | exact qFr_u (qFr_u (qFr_s hg (by omega) (by omega)) (by omega) (by omega)) (by omega) (by omega) | exact qFr_u qFr_r (by omega) (by omega) | exact qFr_u (qFr_u qFr_r (by omega) (by omega)) (by omega) (by omega) | exact qFr_u (qFr_u (qFr_u qFr_r (by omega) (by omega)) (by omega) (by omega)) (by omega) (by omega) | exact qFr_six hf3 t2 | exact fun j hj => hg j (by omega)⟩
theorem q_feels {n : Int32} {T : Nat → Int32} {tok a b num lt cs cn fp ba : Int32} {wd cl : Int64} {features feT keys rings doors : Int32} {nf nk nr nd fn w : Nat → Int64} {g hFe st tf six : Nat → Int32} {C : Int32 × Int32 × Int32 × Int32 × Int32 × Int32 × Int32 × Int64 × Int32 × Int32 × (Nat → Int32)} {M : Int32 × Int32 × Int32 × Int32 × Int32 × Int32 × Int32 × Int64 × (Nat → Int32) × (Nat → Int32)} (hn : n.toInt ≤ 900) (hN : qNms features keys rings doors nf nk nr nd w g) (hF : qRF features feT st tf six fn w g hFe) (hT : qTk n T tok a b num lt wd cs cn cl) (ht : tok = 1) (hC : F_Ho_readFeels feT n b cn cs cl 0 fp T nf features st six = C) (hM : F_r_readFeels n 0 ba b num lt wd T g w hFe = M) : (∃ r : Nat, (r : Int) < features.toInt ∧ r < 3 ∧ qFeR n T fp ba (feT ||| ((1 : Int32) <<< (nI r &&& 31))) (upd hFe r 1) r g six b C M) ∨ (∃ (fl p : Int32), 0 < fl.toInt ∧ C.1 = 0 ∧ C.2.2.2.2.2.2.2.2.1 = fl ∧ C.2.2.2.2.2.2.2.2.2.1 = p ∧ (qMs n M.1 M.2.1 M.2.2.1 M.2.2.2.1 M.2.2.2.2.1 M.2.2.2.2.2.1 M.2.2.2.2.2.2.1 M.2.2.2.2.2.2.2.1 T).1 = fl ∧ (qMs n M.1 M.2.1 M.2.2.1 M.2.2.2.1 M.2.2.2.2.1 M.2.2.2.2.2.1 M.2.2.2.2.2.2.1 M.2.2.2.2.2.2.2.1 T).2.1 = p ∧ qFr g M.2.2.2.2.2.2.2.2.2) := by
  obtain ⟨⟨e1, e2, e3, e4⟩, hNf, -⟩ := id hN
  rw [F_Ho_readFeels_s] at hC
  rw [F_r_readFeels_s] at hM
  have hb := q_tkb hT
  have hab := hT.2.2.2.2.2.1 (by rw [ht]; decide)
  obtain ⟨tok1, a1, b1, num1, lt1, wd1, cs1, cn1, cl1, f1, f2, f3, f4⟩ := q_ad (T := T) hn hb.1 hb.2 cn cs cl num lt wd
  rcases q_old_0 (fp := fp) (ba := ba) hn hNf e1 f4 with ⟨r, h1, h2, h3, h4, h5, h6⟩ | ⟨fl, r, h0, h1, h2⟩
  · obtain ⟨k, rfl, hk3⟩ : ∃ k : Nat, r = nI k ∧ k < 3 := ⟨r.toInt.toNat, q_toN (m := 0) h3, by have := hNf.2.1; omega⟩
    have ek : (nI k).toInt = (k : Int) := nI_toInt (by omega)
    have hrm : ¬ nI k = -1 := q_m1 h3
    obtain ⟨⟨a3, a4, a5⟩, -, -, a6, a7⟩ := hF.1 k (by omega)
    have x1 : (nI k).toNatClampNeg = k := qnI_cl (by omega)
    have x2 : ((1471 : Int32) + nI k).toNatClampNeg = 1471 + k := by
      show (nI 1471 + nI k).toNatClampNeg = _
      rw [nI_add, qnI_cl (by omega)]
    simp only [f1, h1, hrm, ↓reduceIte] at hC
    simp only [f2, h2, x1, x2, q_nz1, ↓reduceIte] at hM
    have hq : (nI k |> fun z => (feT >>> (z &&& 31)) &&& 1) = qBit feT k := rfl
    by_cases cb : hFe k = 0
    · have cb' : ¬ ((feT >>> (nI k &&& 31)) &&& 1) = 1 := fun h9 => (a6.mp h9) cb
      obtain ⟨tok2, a2, b2, num2, lt2, wd2, cs2, cn2, cl2, g1, g2, g3, g4⟩ := q_ad (T := T) hn (q_tkb f4).1 (q_tkb f4).2 cn1 cs1 cl1 num1 lt1 wd1
      simp only [cb', g1, q_Te_num, ↓reduceIte] at hC
      simp only [cb, g2, ↓reduceIte] at hM
      obtain ⟨s, hs, hs1, hs2⟩ : ∃ s : Nat, st k = nI s ∧ 1 < s ∧ s < 5 := ⟨(st k).toInt.toNat, q_toN (m := 0) (by omega), by omega, by omega⟩
      have hst : F_H_stepsOf features st (nI k) = nI s := by
        have hx1 : ¬ nI k < 0 := by rw [q_nlt, q0, ek]; omega
        have hx2 : ¬ features ≤ nI k := by rw [q_nle]; omega
        have hx3 : ¬ (3 : Int32) ≤ nI k := by rw [q_nle, ek, show (3 : Int32).toInt = 3 by decide +kernel]; omega
        rw [F_H_stepsOf_s, F_H_hasFeature_s]
        simp only [hx1, hx2, q_n1, F_at_3_s, hx3, x1, hs, ↓reduceIte]
      rw [← a3, hs] at hM
      rw [hst] at hC
      by_cases ct : tok2 = 2
      · simp only [ct, q_n1, ↓reduceIte] at hC
        refine Or.inl ⟨k, by omega, hk3, qFeR_m (show b.toInt ≤ a2.toInt by have := f4.2.1; omega) ?_⟩
        rw [ct] at g4 hM
        have hb2 := q_tkb g4
        exact q_feelsL hn hk3 hs1 hs2 g six ((2147483647 - (0 : Int32).toInt).toNat + 1) ((900 - b2.toInt + (1 : Int32).toInt).toNat + 1) 0 0 six g 1 2 a2 b2 num2 lt2 cs2 cn2 wd2 cl2 C M (by show (2147483647 - (0 : Int32).toInt).toNat < _; omega) (by omega) (by omega) g4 rfl qSm_r qSm_r (fun j j1 j2 => by
          have := a7 (j - 16 * k) (by omega)
          rw [show 16 * k + (j - 16 * k) = j by omega, show 1477 + 16 * k + (j - 16 * k) = 1477 + j by omega] at this
          exact this) hC hM
      · simp only [ct, q_refuse, ↓reduceIte] at hC
        have q11 : ¬ (1 : Int32) = 0 := by decide
        rw [F_r_readFeels_L74a_s] at hM
        simp only [q11, ct, q_wrong, ↓reduceIte] at hM
        have h2p : 0 < (qF tok2 2).toInt := qF_p (by decide +kernel)
        simp only [q_ne0 h2p, q_failN h2p, ite_self, ↓reduceIte] at hM
        subst hC
        subst hM
        exact Or.inr ⟨_, a2, h2p, rfl, rfl, rfl, (q_msN h2p ..).1, (q_msN h2p ..).2, by first | exact qFr_r | exact qFr_s hg (by omega) (by omega) | exact qFr_u (qFr_s hg (by omega) (by omega)) (by omega) (by omega) | exact qFr_u (qFr_u (qFr_s hg (by omega) (by omega)) (by omega) (by omega)) (by omega) (by omega) | exact qFr_u qFr_r (by omega) (by omega) | exact qFr_u (qFr_u qFr_r (by omega) (by omega)) (by omega) (by omega) | exact qFr_u (qFr_u (qFr_u qFr_r (by omega) (by omega)) (by omega) (by omega)) (by omega) (by omega) | exact qFr_six hf3 t2 | exact fun j hj => hg j (by omega)⟩
    · have cb' : ((feT >>> (nI k &&& 31)) &&& 1) = 1 := a6.mpr cb
      simp only [cb', q_refuse, ↓reduceIte] at hC
      simp only [cb, q_fail, ↓reduceIte] at hM
      rw [qF_4 (by rw [h6]; decide)] at hC
      subst hC
      subst hM
      exact Or.inr ⟨5, a1, q_5p, rfl, rfl, rfl, (q_msN q_5p ..).1, (q_msN q_5p ..).2, by first | exact qFr_r | exact qFr_s hg (by omega) (by omega) | exact qFr_u (qFr_s hg (by omega) (by omega)) (by omega) (by omega) | exact qFr_u (qFr_u (qFr_s hg (by omega) (by omega)) (by omega) (by omega)) (by omega) (by omega) | exact qFr_u qFr_r (by omega) (by omega) | exact qFr_u (qFr_u qFr_r (by omega) (by omega)) (by omega) (by omega) | exact qFr_u (qFr_u (qFr_u qFr_r (by omega) (by omega)) (by omega) (by omega)) (by omega) (by omega) | exact qFr_six hf3 t2 | exact fun j hj => hg j (by omega)⟩
  · simp only [f1, h1, ↓reduceIte] at hC
    simp only [f2, h2, q_ne0 h0, ↓reduceIte] at hM
    subst hC
    subst hM
    exact Or.inr ⟨fl, a1, h0, rfl, rfl, rfl, (q_msN h0 ..).1, (q_msN h0 ..).2, by first | exact qFr_r | exact qFr_s hg (by omega) (by omega) | exact qFr_u (qFr_s hg (by omega) (by omega)) (by omega) (by omega) | exact qFr_u (qFr_u (qFr_s hg (by omega) (by omega)) (by omega) (by omega)) (by omega) (by omega) | exact qFr_u qFr_r (by omega) (by omega) | exact qFr_u (qFr_u qFr_r (by omega) (by omega)) (by omega) (by omega) | exact qFr_u (qFr_u (qFr_u qFr_r (by omega) (by omega)) (by omega) (by omega)) (by omega) (by omega) | exact qFr_six hf3 t2 | exact fun j hj => hg j (by omega)⟩
