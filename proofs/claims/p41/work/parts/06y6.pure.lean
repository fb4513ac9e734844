def qF (tok k : Int32) : Int32 := if tok = 4 then 1 else k
theorem qF_p {tok k : Int32} (h : 0 < k.toInt) : 0 < (qF tok k).toInt := by
  unfold qF
  by_cases h4 : tok = 4
  · rw [if_pos h4, q1]; omega
  · rw [if_neg h4]; exact h
theorem qF_4 {tok k : Int32} (h : ¬ tok = 4) : qF tok k = k := if_neg h
theorem q_refuse (tok a fp k : Int32) : F_Te_refuse tok a 0 fp k = (0, qF tok k, a) := by
  rw [F_Te_refuse_s]
  unfold qF
  by_cases h : tok = 4
  · simp only [h, ↓reduceIte]
  · simp only [h, ↓reduceIte]
theorem q_fail (ba k p : Int32) : F_r_fail 0 ba k p = (k, p) := by
  rw [F_r_fail_s, if_pos (show (0 : Int32) ≤ 0 by decide)]
theorem q_failN {bad : Int32} (h : 0 < bad.toInt) (ba k p : Int32) : F_r_fail bad ba k p = (bad, ba) := by
  rw [F_r_fail_s, if_neg (by rw [q_nle, q0]; exact h)]
theorem q_wrong (ba tok a : Int32) : F_r_wrong 0 ba tok a = (qF tok 2, a) := by
  rw [F_r_wrong_s]
  unfold qF
  by_cases h : tok = 4
  · simp only [h, q_fail, ↓reduceIte]
  · simp only [h, q_fail, ↓reduceIte]
theorem q_must0 (ba tok a : Int32) : F_r_must_0 0 ba tok a = (qF tok 2, a) := by
  rw [F_r_must_0_s, if_pos (show (0 : Int32) ≤ 0 by decide)]
  simp only [q_wrong]
theorem q_must0N {bad : Int32} (h : 0 < bad.toInt) (ba tok a : Int32) : F_r_must_0 bad ba tok a = (bad, ba) := by
  rw [F_r_must_0_s, if_neg (by rw [q_nle, q0]; exact h)]
theorem q_must1 (n tok a b num lt : Int32) (wd : Int64) (T : Nat → Int32) : F_r_must_1 n 0 tok a b num lt wd T = F_r_next2 n b num lt wd T := by
  rw [F_r_must_1_s, if_pos (show (0 : Int32) ≤ 0 by decide)]
theorem q_must1N {bad : Int32} (h : 0 < bad.toInt) (n tok a b num lt : Int32) (wd : Int64) (T : Nat → Int32) : F_r_must_1 n bad tok a b num lt wd T = (tok, a, b, num, lt, wd) := by
  rw [F_r_must_1_s, if_neg (by rw [q_nle, q0]; exact h)]
theorem q_countN {bad : Int32} (h : 0 < bad.toInt) (n ba tok a b num lt : Int32) (wd : Int64) (T : Nat → Int32) (lo hi : Int32) : F_r_count n bad ba tok a b num lt wd T lo hi = (0, bad, ba, tok, a, b, num, lt, wd) := by
  rw [F_r_count_s, if_neg (fun h9 => by rw [h9, q0] at h; omega)]
theorem q_ad {n : Int32} {T : Nat → Int32} {v : Int32} (hn : n.toInt ≤ 900) (hv : 0 ≤ v.toInt) (hvn : v.toInt ≤ n.toInt) (cn cs : Int32) (cl : Int64) (num lt : Int32) (wd : Int64) : ∃ (tok a b num1 lt1 : Int32) (wd1 : Int64) (cs1 cn1 : Int32) (cl1 : Int64), F_Te_advance n v cn cs cl T = (tok, a, b, cs1, cn1, cl1) ∧ F_r_next2 n v num lt wd T = (tok, a, b, num1, lt1, wd1) ∧ v.toInt ≤ a.toInt ∧ qTk n T tok a b num1 lt1 wd1 cs1 cn1 cl1 := by
  have h := q_adv (T := T) (num := num) (lt := lt) (cs := cs) (cn := cn) (wd := wd) (cl := cl) hn hv hvn
  rcases hC : F_Te_advance n v cn cs cl T with ⟨c1, c2, c3, c4, c5, c6⟩
  rcases hM : F_r_next2 n v num lt wd T with ⟨m1, m2, m3, m4, m5, m6⟩
  rw [hC, hM] at h
  obtain ⟨h1, h2, h3, h4, h5⟩ := h
  have h1 : c1 = m1 := h1
  have h2 : c2 = m2 := h2
  have h3 : c3 = m3 := h3
  exact ⟨m1, m2, m3, m4, m5, m6, c4, c5, c6, by rw [h1, h2, h3], rfl, h4, h5⟩
theorem q_tkb {n : Int32} {T : Nat → Int32} {tok a b num lt cs cn : Int32} {wd cl : Int64} (h : qTk n T tok a b num lt wd cs cn cl) : 0 ≤ b.toInt ∧ b.toInt ≤ n.toInt := ⟨Int.le_trans h.1 h.2.1, h.2.2.1⟩
theorem q_isIn (x lo hi : Int32) : F_r_isIn x.toInt64 lo.toInt64 hi.toInt64 = if x < lo then 0 else if hi < x then 0 else 1 := by
  rw [F_r_isIn_s]
  have e1 : lg_cmp x.toInt64 lo.toInt64 < 0 ↔ x < lo := by
    rw [lg_cmp_lt, Int64.lt_iff_toInt_lt, Int32.toInt_toInt64, Int32.toInt_toInt64, q_lt]
  have e2 : 0 < lg_cmp x.toInt64 hi.toInt64 ↔ hi < x := by
    rw [lg_cmp_gt, Int64.lt_iff_toInt_lt, Int32.toInt_toInt64, Int32.toInt_toInt64, q_lt]
  by_cases h1 : x < lo
  · rw [if_pos (e1.mpr h1), if_pos h1]
  · rw [if_neg (fun h => h1 (e1.mp h)), if_neg h1]
    by_cases h2 : hi < x
    · rw [if_pos (e2.mpr h2), if_pos h2]
    · rw [if_neg (fun h => h2 (e2.mp h)), if_neg h2]
theorem q_num {n : Int32} {T : Nat → Int32} {tok a b num lt cs cn : Int32} {wd cl : Int64} (hn : n.toInt ≤ 900) (h : qTk n T tok a b num lt wd cs cn cl) (lo hi fp ba : Int32) : (∃ (r tok1 a1 b1 num1 lt1 : Int32) (wd1 : Int64) (cs1 cn1 : Int32) (cl1 : Int64), F_Te_takeNumber n tok a b cn cs cl 0 fp T lo hi = (r, 0, fp, tok1, a1, b1, cn1, cs1, cl1) ∧ F_r_count n 0 ba tok a b num lt wd T lo hi = (r, 0, ba, tok1, a1, b1, num1, lt1, wd1) ∧ a.toInt < a1.toInt ∧ qTk n T tok1 a1 b1 num1 lt1 wd1 cs1 cn1 cl1 ∧ lo.toInt ≤ r.toInt ∧ r.toInt ≤ hi.toInt ∧ tok = 2 ∧ r = num) ∨ (∃ f : Int32, 0 < f.toInt ∧ F_Te_takeNumber n tok a b cn cs cl 0 fp T lo hi = (-1, f, a, tok, a, b, cn, cs, cl) ∧ F_r_count n 0 ba tok a b num lt wd T lo hi = (0, f, a, tok, a, b, num, lt, wd) ∧ ¬ (tok = 2 ∧ lo.toInt ≤ num.toInt ∧ num.toInt ≤ hi.toInt)) := by
  rw [F_Te_takeNumber_s, F_r_count_s]
  simp only [F_Te_isNumber_s, q_isIn, q_refuse, q_fail, q_wrong, ↓reduceIte]
  by_cases ht : tok = 2
  · have hcn := (h.2.2.2.2.2.2.1 ht).1
    have hab := h.2.2.2.2.2.1 (by rw [ht]; decide)
    simp only [ht, hcn, show ¬ (1 : Int32) = 0 by decide, ↓reduceIte]
    by_cases h1 : num < lo
    · simp only [h1, ↓reduceIte]
      refine Or.inr ⟨4, by rw [q4]; omega, ?_, rfl, fun h9 => by rw [q_lt] at h1; omega⟩
      rw [qF_4 (show ¬ (2 : Int32) = 4 by decide)]
    · by_cases h2 : num ≤ hi
      · have h2' : ¬ hi < num := by rw [q_nlt]; exact q_le.mp h2
        obtain ⟨tok1, a1, b1, num1, lt1, wd1, cs1, cn1, cl1, e1, e2, e3, e4⟩ := q_ad (T := T) hn (q_tkb h).1 (q_tkb h).2 num cs cl num lt wd
        simp only [h1, h2, h2', e1, e2, show ¬ (1 : Int32) = 0 by decide, ↓reduceIte]
        exact Or.inl ⟨num, tok1, a1, b1, num1, lt1, wd1, cs1, cn1, cl1, rfl, rfl, by omega, e4, by rw [q_nlt] at h1; omega, q_le.mp h2, trivial, rfl⟩
      · have h2' : hi < num := by rw [q_lt]; exact q_nle.mp h2
        simp only [h1, h2, h2', ↓reduceIte]
        refine Or.inr ⟨4, by rw [q4]; omega, ?_, rfl, fun h9 => by rw [q_nle] at h2; omega⟩
        rw [qF_4 (show ¬ (2 : Int32) = 4 by decide)]
  · simp only [ht, ↓reduceIte]
    exact Or.inr ⟨qF tok 2, qF_p (by decide +kernel), rfl, rfl, fun h9 => h9.1⟩
theorem q_word1 {n : Int32} {T : Nat → Int32} {tok a b cs cn fp : Int32} {cl : Int64} {i : Nat} (h : F_Te_is n tok a b T i = 1) {tok1 a1 b1 cs1 cn1 : Int32} {cl1 : Int64} (e : F_Te_advance n b cn cs cl T = (tok1, a1, b1, cs1, cn1, cl1)) : F_Te_takeWord n tok a b cn cs cl 0 fp T i = (1, tok1, a1, b1, cn1, cs1, cl1, 0, fp) := by
  rw [F_Te_takeWord_s]
  simp only [h, e, show ¬ (1 : Int32) = 0 by decide, ↓reduceIte]
theorem q_word0 {n : Int32} {T : Nat → Int32} {tok a b cs cn fp : Int32} {cl : Int64} {i : Nat} (h : F_Te_is n tok a b T i = 0) : F_Te_takeWord n tok a b cn cs cl 0 fp T i = (0, tok, a, b, cn, cs, cl, qF tok 2, a) := by
  rw [F_Te_takeWord_s]
  simp only [h, q_refuse, ↓reduceIte]
theorem q_isSign {n : Int32} {T : Nat → Int32} {tok a b num lt cs cn : Int32} {wd cl : Int64} (h : qTk n T tok a b num lt wd cs cn cl) (k : Int32) : F_Te_isSign tok cs k = F_r_isSign tok num k := by
  rw [F_Te_isSign_s, F_r_isSign_s]
  by_cases ht : tok = 3
  · have hcs := h.2.2.2.2.2.2.2.1 ht
    rw [hcs]
  · rw [if_neg ht, if_neg ht]
theorem q_sg01 (tok num k : Int32) : F_r_isSign tok num k = 0 ∨ F_r_isSign tok num k = 1 := by
  rw [F_r_isSign_s]
  by_cases ht : tok = 3
  · rw [if_pos ht]
    by_cases h : num = k
    · rw [if_pos h]; exact Or.inr rfl
    · rw [if_neg h]; exact Or.inl rfl
  · rw [if_neg ht]; exact Or.inl rfl
theorem q_sign1 {n : Int32} {T : Nat → Int32} {tok a b cs cn fp k : Int32} {cl : Int64} (h : F_Te_isSign tok cs k = 1) {tok1 a1 b1 cs1 cn1 : Int32} {cl1 : Int64} (e : F_Te_advance n b cn cs cl T = (tok1, a1, b1, cs1, cn1, cl1)) : F_Te_takeSign n tok a b cn cs cl 0 fp T k = (1, tok1, a1, b1, cn1, cs1, cl1, 0, fp) := by
  rw [F_Te_takeSign_s]
  simp only [h, e, show ¬ (1 : Int32) = 0 by decide, ↓reduceIte]
theorem q_sign0 {n : Int32} {T : Nat → Int32} {tok a b cs cn fp k : Int32} {cl : Int64} (h : F_Te_isSign tok cs k = 0) : F_Te_takeSign n tok a b cn cs cl 0 fp T k = (0, tok, a, b, cn, cs, cl, qF tok 2, a) := by
  rw [F_Te_takeSign_s]
  simp only [h, q_refuse, ↓reduceIte]
