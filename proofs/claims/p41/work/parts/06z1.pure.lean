def qBit (x : Int32) (j : Nat) : Int32 := (x >>> (nI j &&& 31)) &&& 1
theorem q_bit {x : Int32} {j : Nat} (hj : j < 32) : qBit x j = 1 ↔ bt x j = true := by
  unfold qBit
  have h1 : bt 1 0 = true := by decide +kernel
  constructor
  · intro h
    have h0 : bt ((x >>> (nI j &&& 31)) &&& 1) 0 = bt 1 0 := by rw [h]
    rw [b_and, b_sshr j hj x (by omega), if_pos (by omega), h1, Bool.and_true] at h0
    exact h0
  · intro h
    refine b_ext (fun i hi => ?_)
    rw [b_and, b_sshr j hj x hi]
    rcases Nat.eq_zero_or_pos i with e | e
    · subst e
      rw [if_pos (by omega), Nat.add_zero, h, h1]
      rfl
    · have h2 : bt 1 i = false := (by decide +kernel : ∀ i, i < 32 → 0 < i → bt 1 i = false) i hi e
      rw [h2, Bool.and_false]
theorem q_bitset {x : Int32} {r j : Nat} (hr : r < 32) (hj : j < 32) : qBit (x ||| ((1 : Int32) <<< (nI r &&& 31))) j = 1 ↔ (j = r ∨ qBit x j = 1) := by
  rw [q_bit hj, q_bit hj, b_or, b_shl r hr 1 hj]
  have h0 : bt 1 0 = true := by decide +kernel
  by_cases h : j = r
  · subst h
    rw [Nat.sub_self, h0]
    simp
  · rcases Nat.lt_or_ge j r with c | c
    · simp [Nat.not_le.mpr c, h]
    · have h2 : bt 1 (j - r) = false := (by decide +kernel : ∀ i, i < 32 → 0 < i → bt 1 i = false) (j - r) (by omega) (by omega)
      simp [h2, h]
noncomputable def qMs (n bad ba tok a b num lt : Int32) (wd : Int64) (T : Nat → Int32) : Int32 × Int32 × Int32 × Int32 × Int32 × Int32 × Int32 × Int64 := if F_r_isSign tok num 59 = 0 then ((F_r_must_0 bad ba tok a).1, (F_r_must_0 bad ba tok a).2, tok, a, b, num, lt, wd) else (bad, ba, F_r_must_1 n bad tok a b num lt wd T)
theorem q_msN {bad : Int32} (h : 0 < bad.toInt) (n ba tok a b num lt : Int32) (wd : Int64) (T : Nat → Int32) : (qMs n bad ba tok a b num lt wd T).1 = bad ∧ (qMs n bad ba tok a b num lt wd T).2.1 = ba := by
  unfold qMs
  rw [q_must0N h, q_must1N h]
  by_cases c : F_r_isSign tok num 59 = 0
  · rw [if_pos c]; exact ⟨rfl, rfl⟩
  · rw [if_neg c]; exact ⟨rfl, rfl⟩
theorem q_ms {n : Int32} {T : Nat → Int32} {tok a b num lt cs cn fp ba : Int32} {wd cl : Int64} (hn : n.toInt ≤ 900) (hT : qTk n T tok a b num lt wd cs cn cl) : (∃ (tok1 a1 b1 num1 lt1 : Int32) (wd1 : Int64) (cs1 cn1 : Int32) (cl1 : Int64), F_Te_takeSign n tok a b cn cs cl 0 fp T 59 = (1, tok1, a1, b1, cn1, cs1, cl1, 0, fp) ∧ qMs n 0 ba tok a b num lt wd T = (0, ba, tok1, a1, b1, num1, lt1, wd1) ∧ b.toInt ≤ a1.toInt ∧ a.toInt < a1.toInt ∧ qTk n T tok1 a1 b1 num1 lt1 wd1 cs1 cn1 cl1) ∨ (∃ f : Int32, 0 < f.toInt ∧ F_Te_takeSign n tok a b cn cs cl 0 fp T 59 = (0, tok, a, b, cn, cs, cl, f, a) ∧ qMs n 0 ba tok a b num lt wd T = (f, a, tok, a, b, num, lt, wd)) := by
  unfold qMs
  rw [q_must0, q_must1]
  rcases q_sg01 tok num 59 with h | h
  · rw [if_pos h]
    exact Or.inr ⟨qF tok 2, qF_p (by decide +kernel), q_sign0 (by rw [q_isSign hT, h]), rfl⟩
  · rw [if_neg (by rw [h]; decide)]
    have ht : tok = 3 := by
      rw [F_r_isSign_s] at h
      by_cases c : tok = 3
      · exact c
      · rw [if_neg c] at h; exact absurd h (by decide)
    have hab := hT.2.2.2.2.2.1 (by rw [ht]; decide)
    obtain ⟨tok1, a1, b1, num1, lt1, wd1, cs1, cn1, cl1, e1, e2, e3, e4⟩ := q_ad (T := T) hn (q_tkb hT).1 (q_tkb hT).2 cn cs cl num lt wd
    refine Or.inl ⟨tok1, a1, b1, num1, lt1, wd1, cs1, cn1, cl1, q_sign1 (by rw [q_isSign hT, h]) e1, by rw [e2], e3, by omega, e4⟩
def qRF (features feT : Int32) (st tf six : Nat → Int32) (fn w : Nat → Int64) (g hFe : Nat → Int32) : Prop := (∀ j : Nat, (j : Int) < features.toInt → (st j = g (1471 + j) ∧ 2 ≤ (st j).toInt ∧ (st j).toInt ≤ 4) ∧ tf j = g (1474 + j) ∧ fn j = w (84 + j) ∧ (qBit feT j = 1 ↔ ¬ hFe j = 0) ∧ ∀ i : Nat, i < 16 → six (16 * j + i) = g (1477 + 16 * j + i)) ∧ ∀ j : Nat, j < 3 → features.toInt ≤ j → ¬ qBit feT j = 1
theorem q_nz : vp_nar .boolean 0 = 0 := by decide +kernel
theorem q_nz1 : vp_nar .boolean 1 = 1 := by decide +kernel
def qSix (f : Nat) (g g' : Nat → Int32) (steps k : Int32) : Prop := g' 1460 = nI (f + 1) ∧ (∀ j : Nat, g' j = if j = 1460 then nI (f + 1) else if 1477 + 16 * f ≤ j ∧ j < 1477 + 16 * f + 16 then (if (j - 1477 - 16 * f) % 5 = 0 then 16 else 0) else if j = 1474 + f then k else if j = 1471 + f then steps else g j)
theorem q_RFs {f : Nat} (hf : f < 3) {feT steps k : Int32} {st tf six six' : Nat → Int32} {fn w : Nat → Int64} {g g' hFe : Nat → Int32} {wd : Int64} (hs0 : 2 ≤ steps.toInt) (hs1 : steps.toInt ≤ 4) (h : qRF (nI f) feT st tf six fn w g hFe) (h6 : qFl f 0 six six') (hg : qSix f g g' steps k) : qRF (nI (f + 1)) feT (upd st f steps) (upd tf f k) six' (vp_updL fn f wd) (vp_updL w (84 + f) wd) g' (upd hFe f 0) := by
  obtain ⟨h1, h2⟩ := h
  have ef : (nI f).toInt = (f : Int) := nI_toInt (by omega)
  have ef1 : (nI (f + 1)).toInt = ((f + 1 : Nat) : Int) := nI_toInt (by omega)
  refine ⟨fun j hj => ?_, fun j hj h9 => h2 j hj (by omega)⟩
  have g1 := hg.2 (1471 + j)
  have g2 := hg.2 (1474 + j)
  rcases Nat.lt_or_ge j f with c | c
  · obtain ⟨⟨a1, a2, a3⟩, a4, a5, a6, a7⟩ := h1 j (by omega)
    rw [if_neg (by omega), if_neg (by omega), if_neg (by omega), if_neg (by omega)] at g1
    rw [if_neg (by omega), if_neg (by omega), if_neg (by omega), if_neg (by omega)] at g2
    have e1 : upd st f steps j = st j := if_neg (by omega)
    have e2 : upd tf f k j = tf j := if_neg (by omega)
    have e3 : vp_updL fn f wd j = fn j := if_neg (by omega)
    have e4 : vp_updL w (84 + f) wd (84 + j) = w (84 + j) := if_neg (by omega)
    have e5 : upd hFe f 0 j = hFe j := if_neg (by omega)
    rw [e1, e2, e3, e4, e5, g1, g2]
    refine ⟨⟨a1, a2, a3⟩, a4, a5, a6, fun i hi => ?_⟩
    rw [h6 (16 * j + i), if_neg (by omega), a7 i hi, hg.2 (1477 + 16 * j + i), if_neg (by omega), if_neg (by omega), if_neg (by omega), if_neg (by omega)]
  · have ej : j = f := by omega
    subst ej
    rw [if_neg (by omega), if_neg (by omega), if_neg (by omega), if_pos rfl] at g1
    rw [if_neg (by omega), if_neg (by omega), if_pos rfl] at g2
    have e1 : upd st j steps j = steps := if_pos rfl
    have e2 : upd tf j k j = k := if_pos rfl
    have e3 : vp_updL fn j wd j = wd := if_pos rfl
    have e4 : vp_updL w (84 + j) wd (84 + j) = wd := if_pos rfl
    have e5 : upd hFe j 0 j = 0 := if_pos rfl
    rw [e1, e2, e3, e4, e5, g1, g2]
    refine ⟨⟨rfl, hs0, hs1⟩, rfl, rfl, ⟨fun h9 => absurd h9 (h2 j hf (by omega)), fun h9 => absurd rfl h9⟩, fun i hi => ?_⟩
    have g3 := hg.2 (1477 + 16 * j + i)
    rw [if_neg (by omega), if_pos (by omega)] at g3
    rw [h6 (16 * j + i), if_pos (by omega), g3, show 16 * j + i - 16 * j = i by omega, show 1477 + 16 * j + i - 1477 - 16 * j = i by omega]
theorem q_C104 {f : Nat} (hf : f < 3) {g hFe : Nat → Int32} (hg : g 1460 = nI f) (steps k m1 m2 m3 m4 m5 m6 m7 : Int32) (m8 : Int64) (w : Nat → Int64) (hk : k = 0 ∨ k = 1) : ∃ g' : Nat → Int32, F_r_readFeature_C104 g hFe (nI f) steps k m1 m2 m3 m4 m5 m6 m7 m8 w = (m1, m2, m3, m4, m5, m6, m7, m8, g', w, upd hFe f 0) ∧ qSix f g g' steps k := by
  have x1 : ((1471 : Int32) + nI f).toNatClampNeg = 1471 + f := by
    show (nI 1471 + nI f).toNatClampNeg = _
    rw [nI_add, qnI_cl (by omega)]
  have x2 : ((1474 : Int32) + nI f).toNatClampNeg = 1474 + f := by
    show (nI 1474 + nI f).toNatClampNeg = _
    rw [nI_add, qnI_cl (by omega)]
  have key : ∀ kk : Int32, ∃ g' : Nat → Int32, F_r_readFeature_L137a hFe (nI f) m1 m2 m3 m4 m5 m6 m7 m8 w ((2147483647 - (0 : Int32).toInt).toNat + 1) 0 (upd (upd g (1471 + f) steps) (1474 + f) kk) = (m1, m2, m3, m4, m5, m6, m7, m8, g', w, upd hFe f 0) ∧ qSix f g g' steps kk := by
    intro kk
    obtain ⟨g', a1, a2⟩ := q_L137 hf hFe m1 m2 m3 m4 m5 m6 m7 m8 w ((2147483647 - (0 : Int32).toInt).toNat + 1) 0 (upd (upd g (1471 + f) steps) (1474 + f) kk) (by show (2147483647 - (0 : Int32).toInt).toNat < _; omega) (by omega)
    have e0 : g' 1460 = nI f := by
      rw [a2 1460, if_neg (by omega)]
      show upd (upd g (1471 + f) steps) (1474 + f) kk 1460 = _
      rw [show upd (upd g (1471 + f) steps) (1474 + f) kk 1460 = upd g (1471 + f) steps 1460 from if_neg (by omega), show upd g (1471 + f) steps 1460 = g 1460 from if_neg (by omega), hg]
    rw [q_nz, e0, qnI_s] at a1
    refine ⟨upd g' 1460 (nI (f + 1)), a1, if_pos rfl, fun j => ?_⟩
    by_cases c : j = 1460
    · rw [if_pos c]; exact if_pos c
    · rw [if_neg c, show upd g' 1460 (nI (f + 1)) j = g' j from if_neg c, a2 j]
      by_cases c2 : 1477 + 16 * f ≤ j ∧ j < 1477 + 16 * f + 16
      · rw [if_pos c2, if_pos (by omega)]
      · rw [if_neg c2, if_neg (by omega)]
        rfl
  rw [F_r_readFeature_C104_s]
  simp only [x1, x2]
  rcases hk with rfl | rfl
  · obtain ⟨g', a1, a2⟩ := key 0
    exact ⟨g', (if_pos rfl).trans a1, a2⟩
  · obtain ⟨g', a1, a2⟩ := key 1
    refine ⟨g', (if_neg (by decide)).trans ?_, a2⟩
    rw [q_137b]
    exact a1
