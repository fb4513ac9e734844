theorem q_both {α : Type} {c1 c2 : Prop} [Decidable c1] [Decidable c2] {X Y : α} (h : ¬ c1 → c2) : (if c1 then X else if c2 then X else Y) = X := by
  by_cases c : c1
  · exact if_pos c
  · rw [if_neg c]; exact if_pos (h c)
theorem q_5 : (5 : Int32).toInt = 5 := by decide +kernel
theorem q_at5 {g : Nat → Int32} {r : Nat} (h : r < 5) : F_at_5 g (nI r) = g r := by
  have e1 : (nI r).toInt = (r : Int) := nI_toInt (by omega)
  rw [F_at_5_s, if_neg (by rw [q_nlt, q0, e1]; omega), if_neg (by rw [q_nle, e1, q_5]; omega)]
  show g (nI r).toNatClampNeg = _
  rw [qnI_cl (by omega)]
theorem q_kp5 {g : Nat → Int32} {f : Nat} {v : Int32} (hf : f < 5) : F_keepAt_5 g (nI f) v = upd g f v := by
  have e1 : (nI f).toInt = (f : Int) := nI_toInt (by omega)
  rw [F_keepAt_5_s, if_neg (by rw [q_nlt, q0, e1]; omega), if_neg (by rw [q_nle, e1, q_5]; omega)]
  show upd g (nI f).toNatClampNeg v = _
  rw [qnI_cl (by omega)]
theorem q_kl5 {g : Nat → Int64} {f : Nat} {v : Int64} (hf : f < 5) : F_keepLongAt_5 g (nI f) v = vp_updL g f v := by
  have e1 : (nI f).toInt = (f : Int) := nI_toInt (by omega)
  rw [F_keepLongAt_5_s, if_neg (by rw [q_nlt, q0, e1]; omega), if_neg (by rw [q_nle, e1, q_5]; omega)]
  show vp_updL g (nI f).toNatClampNeg v = _
  rw [qnI_cl (by omega)]
theorem q_hasD {r m : Nat} (h : r < m) (hm : m < 100) : F_H_hasDoor (nI m) (nI r) = 1 := by
  have e1 : (nI r).toInt = (r : Int) := nI_toInt (by omega)
  have e2 : (nI m).toInt = (m : Int) := nI_toInt (by omega)
  rw [F_H_hasDoor_s, if_neg (by rw [q_nlt, q0, e1]; omega), if_neg (by rw [q_nle, e1, e2]; omega)]
theorem q_hasK {k : Nat} {keys : Int32} (h : (k : Int) < keys.toInt) (hk : k < 100) : F_H_hasKey keys (nI k) = 1 := by
  have e1 : (nI k).toInt = (k : Int) := nI_toInt (by omega)
  rw [F_H_hasKey_s, if_neg (by rw [q_nlt, q0, e1]; omega), if_neg (by rw [q_nle, e1]; omega)]
theorem q_unl {keys : Int32} {d kk : Nat} {op : Nat → Int32} (hd : d < 5) (hk : (kk : Int) < keys.toInt) (hk10 : kk < 10) : F_H_unlocks keys (nI (d + 1)) op (nI kk) (nI d) = if qBit (op d) kk = 1 then 1 else 0 := by
  rw [F_H_unlocks_s]
  simp only [q_hasD (show d < d + 1 by omega) (show d + 1 < 100 by omega), q_hasK hk (by omega), q_at5 hd, q_n1, ↓reduceIte]
  rfl
theorem q_addO {d kk : Nat} {op : Nat → Int32} (hd : d < 5) : F_H_addOpener (nI (d + 1)) op (nI d) (nI kk) = upd op d (op d ||| ((1 : Int32) <<< (nI kk &&& 31))) := by
  rw [F_H_addOpener_s]
  simp only [F_H_openersOf_s, q_hasD (show d < d + 1 by omega) (show d + 1 < 100 by omega), q_at5 hd, q_kp5 hd, q_n1, ↓reduceIte]
theorem q_addD {d : Nat} {wa op : Nat → Int32} {r : Int32} (hd : d < 5) : F_H_addDoor (nI d) wa op r = (nI (d + 1), upd wa d r, upd op d 0) := by
  rw [F_H_addDoor_s]
  simp only [q_kp5 hd, qnI_s]
theorem q_58bd : F_r_readDoor_L58b = F_r_readDoor_L58d := rfl
theorem q_58ac : F_r_readDoor_L58a = F_r_readDoor_L58c := rfl
theorem q_58dN {bad : Int32} (h : 0 < bad.toInt) (n : Int32) (T g : Nat → Int32) (d : Int32) (w : Nat → Int64) (r : Int32) (f : Nat) (set ba tok a b num lt : Int32) (wd : Int64) : F_r_readDoor_L58d n T g d w r (f + 1) set 1 bad ba tok a b num lt wd = (bad, ba, tok, a, b, num, lt, wd, w, g) := by
  rw [F_r_readDoor_L58d_s]
  simp only [q_n1, q_ne0 h, ↓reduceIte]
theorem q_58cN (g : Nat → Int32) (w : Nat → Int64) (tok a b num lt : Int32) (wd : Int64) (bad ba : Int32) (f : Nat) : F_r_readDoor_L58c g w tok a b num lt wd bad ba (f + 1) = (bad, ba, tok, a, b, num, lt, wd, w, g) := by
  rw [F_r_readDoor_L58c_s]
abbrev qDC : Type := Int32 × Int32 × Int32 × Int32 × Int32 × Int32 × Int64 × Int32 × Int32 × (Nat → Int64) × Int32 × (Nat → Int32) × (Nat → Int32)
abbrev qDM : Type := Int32 × Int32 × Int32 × Int32 × Int32 × Int32 × Int32 × Int64 × (Nat → Int64) × (Nat → Int32)
def qDe (d : Nat) (r : Int32) (g g' op op' : Nat → Int32) : Prop := (∀ j : Nat, ¬ (j = 1463 ∨ j = 1588 + d ∨ j = 1593 + d) → g' j = g j) ∧ g' 1463 = nI (d + 1) ∧ g' (1588 + d) = r ∧ g' (1593 + d) = op' d ∧ ∀ j : Nat, ¬ j = d → op' j = op j
def qDR (n : Int32) (T : Nat → Int32) (fp ba : Int32) (nd' w' : Nat → Int64) (wa' : Nat → Int32) (d : Nat) (r : Int32) (g op : Nat → Int32) (a : Int32) (C : qDC) (M : qDM) : Prop := (∃ (op' g' : Nat → Int32) (tok2 a2 b2 num2 lt2 : Int32) (wd2 : Int64) (cs2 cn2 : Int32) (cl2 : Int64) (zt za zb zn zl : Int32) (zw : Int64), C = (1, tok2, a2, b2, cn2, cs2, cl2, 0, fp, nd', nI (d + 1), wa', op') ∧ M = (0, ba, zt, za, zb, zn, zl, zw, w', g') ∧ qMs n 0 ba zt za zb zn zl zw T = (0, ba, tok2, a2, b2, num2, lt2, wd2) ∧ a.toInt < a2.toInt ∧ qTk n T tok2 a2 b2 num2 lt2 wd2 cs2 cn2 cl2 ∧ qDe d r g g' op op') ∨ (∃ (fl p : Int32), 0 < fl.toInt ∧ C.1 = 0 ∧ C.2.2.2.2.2.2.2.1 = fl ∧ C.2.2.2.2.2.2.2.2.1 = p ∧ (qMs n M.1 M.2.1 M.2.2.1 M.2.2.2.1 M.2.2.2.2.1 M.2.2.2.2.2.1 M.2.2.2.2.2.2.1 M.2.2.2.2.2.2.2.1 T).1 = fl ∧ (qMs n M.1 M.2.1 M.2.2.1 M.2.2.2.1 M.2.2.2.2.1 M.2.2.2.2.2.1 M.2.2.2.2.2.2.1 M.2.2.2.2.2.2.2.1 T).2.1 = p ∧ qFr g M.2.2.2.2.2.2.2.2.2 ∧ qFw w' M.2.2.2.2.2.2.2.2.1)
theorem qDR_m {n : Int32} {T : Nat → Int32} {fp ba : Int32} {nd' w' : Nat → Int64} {wa' : Nat → Int32} {d : Nat} {r : Int32} {g op : Nat → Int32} {a a1 : Int32} {C : qDC} {M : qDM} (h : a.toInt ≤ a1.toInt) (q : qDR n T fp ba nd' w' wa' d r g op a1 C M) : qDR n T fp ba nd' w' wa' d r g op a C M := by
  rcases q with ⟨x1, x2, x3, x4, x5, x6, x7, x8, x9, x10, x11, x12, x13, x14, x15, x16, x17, y1, y2, y3, y4, y5⟩ | q
  · exact Or.inl ⟨x1, x2, x3, x4, x5, x6, x7, x8, x9, x10, x11, x12, x13, x14, x15, x16, x17, y1, y2, y3, by omega, y5⟩
  · exact Or.inr q
theorem q_doorL {n : Int32} {T : Nat → Int32} {fp ba keys r : Int32} {nk nd' w' : Nat → Int64} {wa' : Nat → Int32} {d : Nat} {g op0 : Nat → Int32} (hn : n.toInt ≤ 900) (hd : d < 5) (hNk : qNm keys 10 nk w' 87) (hg61 : keys = g 1461) (hg63 : g 1463 = nI d) : ∀ (f1 f2 v : Nat) (op : Nat → Int32) (more tok a b num lt cs cn : Int32) (wd cl : Int64) (C : qDC) (M : qDM), (2147483647 - (nI v).toInt).toNat < f1 → (900 - b.toInt + more.toInt).toNat < f2 → v ≤ qCt (op d) 10 → qTk n T tok a b num lt wd cs cn cl → ((v = 0 ∧ more = 1) ∨ (¬ v = 0 ∧ more = if tok = 1 then 1 else 0)) → (∀ j : Nat, ¬ j = d → op j = op0 j) → F_Ho_readDoor_L113a n T nk keys (nI d) nd' (nI (d + 1)) wa' f1 (nI v) tok a b cn cs cl 0 fp op = C → F_r_readDoor_L58d n T g (nI d) w' r f2 (op d) more 0 ba tok a b num lt wd = M → qDR n T fp ba nd' w' wa' d r g op0 a C M := by
  intro f1
  induction f1 with
  | zero => intro f2 v op more tok a b num lt cs cn wd cl C M h; exact absurd h (Nat.not_lt_zero _)
  | succ f1 ih =>
    intro f2 v op more tok a b num lt cs cn wd cl C M h1 h2 hv hT hmo hop hC hM
    cases f2 with
    | zero => exact absurd h2 (Nat.not_lt_zero _)
    | succ f2 =>
      have hv10 := qCt_le (op d) 10
      have ev : (nI v).toInt = (v : Int) := nI_toInt (by omega)
      have ev1 : (nI (v + 1)).toInt = ((v + 1 : Nat) : Int) := nI_toInt (by omega)
      have hc10 : ¬ (10 : Int32) < nI v := by rw [q_nlt, ev, q10]; omega
      have hb := q_tkb hT
      rw [F_Ho_readDoor_L113a_s] at hC
      rw [F_r_readDoor_L58d_s] at hM
      simp only [hc10, q_isSign hT, q_refuse, qnI_s, ↓reduceIte] at hC
      by_cases hm1 : more = 1
      · have hi : ¬ nI v = 0 → F_r_isSign tok num 59 = 0 := fun h9 => by
          rcases hmo with ⟨c, -⟩ | ⟨c, c2⟩
          · exact absurd (by rw [c]; rfl) h9
          · rw [hm1] at c2
            by_cases ct : tok = 1
            · rw [F_r_isSign_s, if_neg (by rw [ct]; decide)]
            · rw [if_neg ct] at c2; exact absurd c2 (by decide)
        rw [q_both hi] at hC
        subst hm1
        simp only [q_n1, ↓reduceIte] at hM
        rw [q1] at h2
        rcases q_old_1 (fp := fp) (ba := ba) hn hNk hg61 hT with ⟨k, k1, k2, k3, k4, k5, k6⟩ | ⟨fl, r', k0, k1, k2⟩
        · obtain ⟨kk, rfl, hk10⟩ : ∃ kk : Nat, k = nI kk ∧ kk < 10 := ⟨k.toInt.toNat, q_toN (m := 0) k3, by have := hNk.2.1; omega⟩
          have ek : (nI kk).toInt = (kk : Int) := nI_toInt (by omega)
          simp only [k1, q_m1 k3, q_unl (op := op) hd (show (kk : Int) < keys.toInt by omega) hk10, ↓reduceIte] at hC
          simp only [k2, ↓reduceIte] at hM
          by_cases cb : qBit (op d) kk = 1
          · have cb2 : (((op d) >>> (nI kk &&& 31)) &&& 1) = 1 := cb
            simp only [cb, q_n1, q_refuse, ↓reduceIte] at hC
            simp only [cb2, q_fail, ↓reduceIte] at hM
            rw [qF_4 (by rw [k6]; decide)] at hC
            subst hC
            subst hM
            exact Or.inr ⟨5, a, q_5p, rfl, rfl, rfl, (q_msN q_5p ..).1, (q_msN q_5p ..).2, by first | exact qFr_r | exact qFr_s hg (by omega) (by omega) | exact qFr_u (qFr_s hg (by omega) (by omega)) (by omega) (by omega) | exact qFr_u (qFr_u (qFr_s hg (by omega) (by omega)) (by omega) (by omega)) (by omega) (by omega) | exact qFr_u qFr_r (by omega) (by omega) | exact qFr_u (qFr_u qFr_r (by omega) (by omega)) (by omega) (by omega) | exact qFr_u (qFr_u (qFr_u qFr_r (by omega) (by omega)) (by omega) (by omega)) (by omega) (by omega) | exact qFr_six hf3 t2 | exact fun j hj => hg j (by omega), by first | exact qFw_r | exact qFw_u qFw_r (by omega) (by omega)⟩
          · have cb2 : ¬ (((op d) >>> (nI kk &&& 31)) &&& 1) = 1 := cb
            have hct := qCt_set (show kk < 32 by omega) cb 10 (by omega)
            rw [if_pos hk10] at hct
            have hct2 := qCt_le ((op d) ||| ((1 : Int32) <<< (nI kk &&& 31))) 10
            obtain ⟨tok1, a1, b1, num1, lt1, wd1, cs1, cn1, cl1, f1', f2', f3, f4⟩ := q_ad (T := T) hn hb.1 hb.2 cn cs cl num lt wd
            have hb1 := q_tkb f4
            have eop : upd op d (op d ||| ((1 : Int32) <<< (nI kk &&& 31))) d = op d ||| ((1 : Int32) <<< (nI kk &&& 31)) := if_pos rfl
            simp only [cb, q_addO hd, f1', ↓reduceIte] at hC
            simp only [cb2, f2', ↓reduceIte] at hM
            by_cases ct : tok1 = 1
            · have h9 := f4.2.2.2.2.2.1 (by rw [ct]; decide)
              rw [if_pos ct] at hM
              exact qDR_m (show a.toInt ≤ a1.toInt by omega) (ih f2 (v + 1) _ 1 tok1 a1 b1 num1 lt1 cs1 cn1 wd1 cl1 C M (by omega) (by rw [q1]; omega) (by rw [eop]; omega) f4 (Or.inr ⟨by omega, (if_pos ct).symm⟩) (fun j hj => by rw [show upd op d (op d ||| ((1 : Int32) <<< (nI kk &&& 31))) j = op j from if_neg hj]; exact hop j hj) hC (by rw [eop]; exact hM))
            · have h9 := f4.2.1
              rw [if_neg ct] at hM
              exact qDR_m (show a.toInt ≤ a1.toInt by omega) (ih f2 (v + 1) _ 0 tok1 a1 b1 num1 lt1 cs1 cn1 wd1 cl1 C M (by omega) (by rw [q0]; omega) (by rw [eop]; omega) f4 (Or.inr ⟨by omega, (if_neg ct).symm⟩) (fun j hj => by rw [show upd op d (op d ||| ((1 : Int32) <<< (nI kk &&& 31))) j = op j from if_neg hj]; exact hop j hj) hC (by rw [eop]; exact hM))
        · simp only [k1, ↓reduceIte] at hC
          simp only [k2, q_ne0 k0, ↓reduceIte] at hM
          subst hC
          subst hM
          exact Or.inr ⟨fl, a, k0, rfl, rfl, rfl, (q_msN k0 ..).1, (q_msN k0 ..).2, by first | exact qFr_r | exact qFr_s hg (by omega) (by omega) | exact qFr_u (qFr_s hg (by omega) (by omega)) (by omega) (by omega) | exact qFr_u (qFr_u (qFr_s hg (by omega) (by omega)) (by omega) (by omega)) (by omega) (by omega) | exact qFr_u qFr_r (by omega) (by omega) | exact qFr_u (qFr_u qFr_r (by omega) (by omega)) (by omega) (by omega) | exact qFr_u (qFr_u (qFr_u qFr_r (by omega) (by omega)) (by omega) (by omega)) (by omega) (by omega) | exact qFr_six hf3 t2 | exact fun j hj => hg j (by omega), by first | exact qFw_r | exact qFw_u qFw_r (by omega) (by omega)⟩
      · have hm0 : ¬ v = 0 ∧ more = 0 ∧ ¬ tok = 1 := by
          rcases hmo with ⟨-, c⟩ | ⟨c, c2⟩
          · exact absurd c hm1
          · by_cases ct : tok = 1
            · rw [if_pos ct] at c2; exact absurd c2 hm1
            · rw [if_neg ct] at c2; exact ⟨c, c2, ct⟩
        obtain ⟨hv0, hm0, ht⟩ := hm0
        have hv0' : ¬ nI v = 0 := fun h9 => by rw [q_eq, ev, q0] at h9; omega
        have l00 : (0 : Int32) ≤ 0 := Int32.le_refl _
        have x1 : ((1588 : Int32) + nI d).toNatClampNeg = 1588 + d := by
          show (nI 1588 + nI d).toNatClampNeg = _
          rw [nI_add, qnI_cl (by omega)]
        have x2 : ((1593 : Int32) + nI d).toNatClampNeg = 1593 + d := by
          show (nI 1593 + nI d).toNatClampNeg = _
          rw [nI_add, qnI_cl (by omega)]
        have x3 : upd (upd g (1588 + d) r) (1593 + d) (op d) 1463 = nI d := by
          rw [show upd (upd g (1588 + d) r) (1593 + d) (op d) 1463 = upd g (1588 + d) r 1463 from if_neg (by omega), show upd g (1588 + d) r 1463 = g 1463 from if_neg (by omega), hg63]
        subst hm0
        simp only [l00, x1, x2, qc_1463, x3, qnI_s d, ↓reduceIte] at hM
        simp only [hv0', ↓reduceIte] at hC
        by_cases cs59 : F_r_isSign tok num 59 = 0
        · have hth : F_HR_thing_k n tok a b cl 0 fp T nk keys = (-1, qF tok 2, a) := by
            have hnm : F_Te_isName n tok a b cl T = 0 := by
              rw [q_name hn hT, F_r_isHouseName_s, if_neg ht]
            rw [F_HR_thing_k_s]
            simp only [hnm, q_refuse, ↓reduceIte]
          simp only [cs59, hth, ↓reduceIte] at hC
          subst hC
          subst hM
          have h2p : 0 < (qF tok 2).toInt := qF_p (by decide +kernel)
          have hq : qMs n 0 ba tok a b num lt wd T = (qF tok 2, a, tok, a, b, num, lt, wd) := by
            unfold qMs
            rw [if_pos cs59, q_must0]
          exact Or.inr ⟨_, a, h2p, rfl, rfl, rfl, by show (qMs n 0 ba tok a b num lt wd T).1 = _; rw [hq], by show (qMs n 0 ba tok a b num lt wd T).2.1 = _; rw [hq], by first | exact qFr_r | exact qFr_s hg (by omega) (by omega) | exact qFr_u (qFr_s hg (by omega) (by omega)) (by omega) (by omega) | exact qFr_u (qFr_u (qFr_s hg (by omega) (by omega)) (by omega) (by omega)) (by omega) (by omega) | exact qFr_u qFr_r (by omega) (by omega) | exact qFr_u (qFr_u qFr_r (by omega) (by omega)) (by omega) (by omega) | exact qFr_u (qFr_u (qFr_u qFr_r (by omega) (by omega)) (by omega) (by omega)) (by omega) (by omega) | exact qFr_six hf3 t2 | exact fun j hj => hg j (by omega), by first | exact qFw_r | exact qFw_u qFw_r (by omega) (by omega)⟩
        · simp only [cs59, ↓reduceIte] at hC
          rcases q_ms (fp := fp) (ba := ba) hn hT with ⟨tok6, a6, b6, num6, lt6, wd6, cs6, cn6, cl6, l1, l2, l3, l4, l5⟩ | ⟨fl, l0, l1, l2⟩
          · rw [l1] at hC
            refine Or.inl ⟨op, _, tok6, a6, b6, num6, lt6, wd6, cs6, cn6, cl6, tok, a, b, num, lt, wd, hC.symm, hM.symm, l2, l4, l5, fun j hj => ?_, if_pos rfl, ?_, ?_, hop⟩
            · rw [show upd (upd (upd g (1588 + d) r) (1593 + d) (op d)) 1463 (nI (d + 1)) j = upd (upd g (1588 + d) r) (1593 + d) (op d) j from if_neg (by omega), show upd (upd g (1588 + d) r) (1593 + d) (op d) j = upd g (1588 + d) r j from if_neg (by omega)]
              exact if_neg (by omega)
            · rw [show upd (upd (upd g (1588 + d) r) (1593 + d) (op d)) 1463 (nI (d + 1)) (1588 + d) = upd (upd g (1588 + d) r) (1593 + d) (op d) (1588 + d) from if_neg (by omega), show upd (upd g (1588 + d) r) (1593 + d) (op d) (1588 + d) = upd g (1588 + d) r (1588 + d) from if_neg (by omega)]
              exact if_pos rfl
            · rw [show upd (upd (upd g (1588 + d) r) (1593 + d) (op d)) 1463 (nI (d + 1)) (1593 + d) = upd (upd g (1588 + d) r) (1593 + d) (op d) (1593 + d) from if_neg (by omega)]
              exact if_pos rfl
          · rw [l1] at hC
            subst hC
            subst hM
            exact Or.inr ⟨fl, a, l0, rfl, rfl, rfl, by rw [l2], by rw [l2], by first | exact qFr_r | exact qFr_s hg (by omega) (by omega) | exact qFr_u (qFr_s hg (by omega) (by omega)) (by omega) (by omega) | exact qFr_u (qFr_u (qFr_s hg (by omega) (by omega)) (by omega) (by omega)) (by omega) (by omega) | exact qFr_u qFr_r (by omega) (by omega) | exact qFr_u (qFr_u qFr_r (by omega) (by omega)) (by omega) (by omega) | exact qFr_u (qFr_u (qFr_u qFr_r (by omega) (by omega)) (by omega) (by omega)) (by omega) (by omega) | exact qFr_six hf3 t2 | exact fun j hj => hg j (by omega), by first | exact qFw_r | exact qFw_u qFw_r (by omega) (by omega)⟩
theorem q_new3f {n : Int32} {T : Nat → Int32} {ba tok a b num lt : Int32} {wd : Int64} {g : Nat → Int32} {w : Nat → Int64} (h : g 1463 = 5) : F_r_readNew_3 n 0 ba tok a b num lt wd T g w = (0, 6, a, tok, a, b, num, lt, wd, w) := by
  rw [F_r_readNew_3_s]
  simp only [qc_1463, h, q_fail, ↓reduceIte]
theorem q_door {n : Int32} {T : Nat → Int32} {tok a b num lt cs cn fp ba : Int32} {wd cl : Int64} {features keys rings doors : Int32} {nf nk nr nd w : Nat → Int64} {g wa op : Nat → Int32} {C : qDC} {M : qDM} (hn : n.toInt ≤ 900) (hN : qNms features keys rings doors nf nk nr nd w g) (hT : qTk n T tok a b num lt wd cs cn cl) (ht : tok = 1) (hC : F_Ho_readDoor n tok a b cn cs cl 0 fp T nf nk nr nd features keys rings doors wa op = C) (hM : F_r_readDoor n 0 ba tok a b num lt wd T g w = M) : (∃ (d : Nat) (wn : Int64) (r : Int32), d < 5 ∧ doors = nI d ∧ 0 ≤ r.toInt ∧ r.toInt ≤ 99 ∧ qDR n T fp ba (vp_updL nd d wn) (vp_updL w (100 + d) wn) (upd wa d r) d r g op b C M) ∨ (∃ (fl p : Int32), 0 < fl.toInt ∧ C.1 = 0 ∧ C.2.2.2.2.2.2.2.1 = fl ∧ C.2.2.2.2.2.2.2.2.1 = p ∧ (qMs n M.1 M.2.1 M.2.2.1 M.2.2.2.1 M.2.2.2.2.1 M.2.2.2.2.2.1 M.2.2.2.2.2.2.1 M.2.2.2.2.2.2.2.1 T).1 = fl ∧ (qMs n M.1 M.2.1 M.2.2.1 M.2.2.2.1 M.2.2.2.2.1 M.2.2.2.2.2.1 M.2.2.2.2.2.2.1 M.2.2.2.2.2.2.2.1 T).2.1 = p ∧ qFr g M.2.2.2.2.2.2.2.2.2 ∧ qFw w M.2.2.2.2.2.2.2.2.1) := by
  obtain ⟨⟨e1, e2, e3, e4⟩, hNf, hNk, hNr, hNd⟩ := id hN
  rw [F_Ho_readDoor_s] at hC
  rw [F_r_readDoor_s] at hM
  have hb := q_tkb hT
  have hab := hT.2.2.2.2.2.1 (by rw [ht]; decide)
  rw [q_58ac, q_58bd] at hM
  by_cases c5 : doors < 5
  · obtain ⟨d, hd, hd5⟩ : ∃ d : Nat, doors = nI d ∧ d < 5 := ⟨doors.toInt.toNat, q_toN (m := 0) hNd.1, by rw [q_lt, q_5] at c5; have := hNd.1; omega⟩
    have hgd : g 1463 = nI d := by rw [← e4, hd]
    have hk5 : ¬ g 1463 = 5 := fun h9 => by rw [← e4] at h9; rw [h9] at c5; exact absurd c5 (by decide)
    obtain ⟨tok1, a1, b1, num1, lt1, wd1, cs1, cn1, cl1, f1, f2, f3, f4⟩ := q_ad (T := T) hn hb.1 hb.2 cn cs cl num lt wd
    have hx : ((100 : Int32) + nI d).toNatClampNeg = 100 + d := by
      show (nI 100 + nI d).toNatClampNeg = _
      rw [nI_add, qnI_cl (by omega)]
    simp only [c5, f1, ↓reduceIte] at hC
    rcases q_new_3 (ba := ba) (fp := fp) (tok0 := tok) (a0 := a) hn hN hk5 f2 f4 with ⟨tok2, a2, b2, num2, lt2, wd2, cs2, cn2, cl2, h1, h2, h3, h4, h5⟩ | ⟨fl, h0, h1, h2⟩
    · simp only [h1, h3, ↓reduceIte] at hC
      simp only [h2, hx, hgd] at hM
      have hi := qi_22 hn h5
      by_cases c9 : F_r_houseWord tok2 wd2 = 9
      · rw [if_pos c9] at hi
        obtain ⟨tok3, a3, b3, num3, lt3, wd3, cs3, cn3, cl3, g1, g2, g3, g4⟩ := q_ad (T := T) hn (q_tkb h5).1 (q_tkb h5).2 cn2 cs2 cl2 num2 lt2 wd2
        have hab2 := h5.2.1
        simp only [q_word1 hi g1, q_n1, ↓reduceIte] at hC
        simp only [c9, q_must1, g2, ↓reduceIte] at hM
        rcases q_num hn g4 0 99 fp ba with ⟨r, tok4, a4, b4, num4, lt4, wd4, cs4, cn4, cl4, k1, k2, k3, k4, k5, k6, -⟩ | ⟨fl, k0, k1, k2, -⟩
        · rw [q0] at k5
          rw [show (99 : Int32).toInt = 99 by decide +kernel] at k6
          simp only [k1, q_m1 k5, ↓reduceIte] at hC
          simp only [k2] at hM
          have hi2 := qi_23 hn k4
          have hab4 := k4.2.1
          by_cases c10 : F_r_houseWord tok4 wd4 = 10
          · rw [if_pos c10] at hi2
            obtain ⟨tok5, a5, b5, num5, lt5, wd5, cs5, cn5, cl5, j1, j2, j3, j4⟩ := q_ad (T := T) hn (q_tkb k4).1 (q_tkb k4).2 cn4 cs4 cl4 num4 lt4 wd4
            simp only [q_word1 hi2 j1, q_n1, ↓reduceIte] at hC
            simp only [c10, q_must1, j2, ↓reduceIte] at hM
            rw [hd, q_kl5 hd5, q_addD hd5] at hC
            have hNk' : qNm keys 10 nk (vp_updL w (100 + d) wd1) 87 := ⟨hNk.1, hNk.2.1, fun j hj => by
              rw [show vp_updL w (100 + d) wd1 (87 + j) = w (87 + j) from if_neg (by have := hNk.2.1; omega)]
              exact hNk.2.2 j hj⟩
            have eop : upd op d 0 d = 0 := if_pos rfl
            refine Or.inl ⟨d, wd1, r, hd5, hd, k5, k6, ?_⟩
            have hsub := q_doorL (op0 := upd op d 0) (fp := fp) (ba := ba) hn hd5 hNk' e2 hgd ((2147483647 - (0 : Int32).toInt).toNat + 1) ((900 - b5.toInt + (1 : Int32).toInt).toNat + 1) 0 (upd op d 0) 1 tok5 a5 b5 num5 lt5 cs5 cn5 wd5 cl5 C M (by show (2147483647 - (0 : Int32).toInt).toNat < _; omega) (by omega) (Nat.zero_le _) j4 (Or.inl ⟨rfl, rfl⟩) (fun j hj => rfl) hC (by rw [eop]; exact hM)
            have hsub := qDR_m (show b.toInt ≤ a5.toInt by omega) hsub
            rcases hsub with ⟨x1, x2, x3, x4, x5, x6, x7, x8, x9, x10, x11, x12, x13, x14, x15, x16, x17, y1, y2, y3, y4, y5, z1, z2, z3, z4, z5⟩ | q
            · exact Or.inl ⟨x1, x2, x3, x4, x5, x6, x7, x8, x9, x10, x11, x12, x13, x14, x15, x16, x17, y1, y2, y3, y4, y5, z1, z2, z3, z4, fun j hj => by rw [z5 j hj]; exact if_neg hj⟩
            · exact Or.inr q
          · rw [if_neg c10] at hi2
            have h2p : 0 < (qF tok4 2).toInt := qF_p (by decide +kernel)
            simp only [q_word0 hi2, ↓reduceIte] at hC
            simp only [c10, q_must0, q_58cN, ↓reduceIte] at hM
            subst hC
            subst hM
            exact Or.inr ⟨_, a4, h2p, rfl, rfl, rfl, (q_msN h2p ..).1, (q_msN h2p ..).2, by first | exact qFr_r | exact qFr_s hg (by omega) (by omega) | exact qFr_u (qFr_s hg (by omega) (by omega)) (by omega) (by omega) | exact qFr_u (qFr_u (qFr_s hg (by omega) (by omega)) (by omega) (by omega)) (by omega) (by omega) | exact qFr_u qFr_r (by omega) (by omega) | exact qFr_u (qFr_u qFr_r (by omega) (by omega)) (by omega) (by omega) | exact qFr_u (qFr_u (qFr_u qFr_r (by omega) (by omega)) (by omega) (by omega)) (by omega) (by omega) | exact qFr_six hf3 t2 | exact fun j hj => hg j (by omega), by first | exact qFw_r | exact qFw_u qFw_r (by omega) (by omega)⟩
        · simp only [k1, ↓reduceIte] at hC
          simp only [k2, q_must1N k0, q_must0N k0, q_58cN, q_58dN k0, ite_self] at hM
          subst hC
          subst hM
          exact Or.inr ⟨fl, a3, k0, rfl, rfl, rfl, (q_msN k0 ..).1, (q_msN k0 ..).2, by first | exact qFr_r | exact qFr_s hg (by omega) (by omega) | exact qFr_u (qFr_s hg (by omega) (by omega)) (by omega) (by omega) | exact qFr_u (qFr_u (qFr_s hg (by omega) (by omega)) (by omega) (by omega)) (by omega) (by omega) | exact qFr_u qFr_r (by omega) (by omega) | exact qFr_u (qFr_u qFr_r (by omega) (by omega)) (by omega) (by omega) | exact qFr_u (qFr_u (qFr_u qFr_r (by omega) (by omega)) (by omega) (by omega)) (by omega) (by omega) | exact qFr_six hf3 t2 | exact fun j hj => hg j (by omega), by first | exact qFw_r | exact qFw_u qFw_r (by omega) (by omega)⟩
      · rw [if_neg c9] at hi
        have h2p : 0 < (qF tok2 2).toInt := qF_p (by decide +kernel)
        simp only [q_word0 hi, ↓reduceIte] at hC
        simp only [c9, q_must0, q_countN h2p, q_must1N h2p, q_must0N h2p, q_58cN, q_58dN h2p, ite_self, ↓reduceIte] at hM
        subst hC
        subst hM
        exact Or.inr ⟨_, a2, h2p, rfl, rfl, rfl, (q_msN h2p ..).1, (q_msN h2p ..).2, by first | exact qFr_r | exact qFr_s hg (by omega) (by omega) | exact qFr_u (qFr_s hg (by omega) (by omega)) (by omega) (by omega) | exact qFr_u (qFr_u (qFr_s hg (by omega) (by omega)) (by omega) (by omega)) (by omega) (by omega) | exact qFr_u qFr_r (by omega) (by omega) | exact qFr_u (qFr_u qFr_r (by omega) (by omega)) (by omega) (by omega) | exact qFr_u (qFr_u (qFr_u qFr_r (by omega) (by omega)) (by omega) (by omega)) (by omega) (by omega) | exact qFr_six hf3 t2 | exact fun j hj => hg j (by omega), by first | exact qFw_r | exact qFw_u qFw_r (by omega) (by omega)⟩
    · have hl0 : lg_cmp 0 0 = 0 := by decide +kernel
      simp only [h1, hl0, ↓reduceIte] at hC
      simp only [h2, q_countN h0, q_must1N h0, q_must0N h0, q_58cN, q_58dN h0, ite_self] at hM
      subst hC
      subst hM
      exact Or.inr ⟨fl, a1, h0, rfl, rfl, rfl, (q_msN h0 ..).1, (q_msN h0 ..).2, by first | exact qFr_r | exact qFr_s hg (by omega) (by omega) | exact qFr_u (qFr_s hg (by omega) (by omega)) (by omega) (by omega) | exact qFr_u (qFr_u (qFr_s hg (by omega) (by omega)) (by omega) (by omega)) (by omega) (by omega) | exact qFr_u qFr_r (by omega) (by omega) | exact qFr_u (qFr_u qFr_r (by omega) (by omega)) (by omega) (by omega) | exact qFr_u (qFr_u (qFr_u qFr_r (by omega) (by omega)) (by omega) (by omega)) (by omega) (by omega) | exact qFr_six hf3 t2 | exact fun j hj => hg j (by omega), by first | exact qFw_r | exact qFw_u qFw_r (by omega) (by omega)⟩
  · have hg5 : g 1463 = 5 := q_eq.mpr (by rw [← e4, q_5]; rw [q_nlt, q_5] at c5; have := hNd.2.1; omega)
    simp only [c5, q_refuse, ↓reduceIte] at hC
    simp only [q_new3f hg5, q_countN q_6p, q_must1N q_6p, q_must0N q_6p, q_58cN, q_58dN q_6p, ite_self] at hM
    rw [qF_4 (by rw [ht]; decide)] at hC
    subst hC
    subst hM
    exact Or.inr ⟨6, a, q_6p, rfl, rfl, rfl, (q_msN q_6p ..).1, (q_msN q_6p ..).2, by first | exact qFr_r | exact qFr_s hg (by omega) (by omega) | exact qFr_u (qFr_s hg (by omega) (by omega)) (by omega) (by omega) | exact qFr_u (qFr_u (qFr_s hg (by omega) (by omega)) (by omega) (by omega)) (by omega) (by omega) | exact qFr_u qFr_r (by omega) (by omega) | exact qFr_u (qFr_u qFr_r (by omega) (by omega)) (by omega) (by omega) | exact qFr_u (qFr_u (qFr_u qFr_r (by omega) (by omega)) (by omega) (by omega)) (by omega) (by omega) | exact qFr_six hf3 t2 | exact fun j hj => hg j (by omega), by first | exact qFw_r | exact qFw_u qFw_r (by omega) (by omega)⟩
