theorem qc_0 : (0 : Int32).toNatClampNeg = 0 := by decide +kernel
theorem qc_1 : (1 : Int32).toNatClampNeg = 1 := by decide +kernel
theorem qc_2 : (2 : Int32).toNatClampNeg = 2 := by decide +kernel
theorem qc_3 : (3 : Int32).toNatClampNeg = 3 := by decide +kernel
theorem qc_4 : (4 : Int32).toNatClampNeg = 4 := by decide +kernel
theorem qc_5 : (5 : Int32).toNatClampNeg = 5 := by decide +kernel
theorem qc_6 : (6 : Int32).toNatClampNeg = 6 := by decide +kernel
theorem qc_7 : (7 : Int32).toNatClampNeg = 7 := by decide +kernel
theorem qc_8 : (8 : Int32).toNatClampNeg = 8 := by decide +kernel
theorem qc_9 : (9 : Int32).toNatClampNeg = 9 := by decide +kernel
theorem qc_10 : (10 : Int32).toNatClampNeg = 10 := by decide +kernel
theorem qc_11 : (11 : Int32).toNatClampNeg = 11 := by decide +kernel
theorem qc_12 : (12 : Int32).toNatClampNeg = 12 := by decide +kernel
theorem qc_13 : (13 : Int32).toNatClampNeg = 13 := by decide +kernel
theorem qc_14 : (14 : Int32).toNatClampNeg = 14 := by decide +kernel
theorem qc_15 : (15 : Int32).toNatClampNeg = 15 := by decide +kernel
theorem qc_16 : (16 : Int32).toNatClampNeg = 16 := by decide +kernel
theorem qc_17 : (17 : Int32).toNatClampNeg = 17 := by decide +kernel
theorem qc_18 : (18 : Int32).toNatClampNeg = 18 := by decide +kernel
theorem qc_19 : (19 : Int32).toNatClampNeg = 19 := by decide +kernel
theorem qc_20 : (20 : Int32).toNatClampNeg = 20 := by decide +kernel
theorem qc_21 : (21 : Int32).toNatClampNeg = 21 := by decide +kernel
theorem qc_60 : (60 : Int32).toNatClampNeg = 60 := by decide +kernel
theorem qc_64 : (64 : Int32).toNatClampNeg = 64 := by decide +kernel
theorem qc_84 : (84 : Int32).toNatClampNeg = 84 := by decide +kernel
theorem qc_87 : (87 : Int32).toNatClampNeg = 87 := by decide +kernel
theorem qc_97 : (97 : Int32).toNatClampNeg = 97 := by decide +kernel
theorem qc_100 : (100 : Int32).toNatClampNeg = 100 := by decide +kernel
theorem qc_1460 : (1460 : Int32).toNatClampNeg = 1460 := by decide +kernel
theorem qc_1461 : (1461 : Int32).toNatClampNeg = 1461 := by decide +kernel
theorem qc_1462 : (1462 : Int32).toNatClampNeg = 1462 := by decide +kernel
theorem qc_1463 : (1463 : Int32).toNatClampNeg = 1463 := by decide +kernel
theorem qc_1464 : (1464 : Int32).toNatClampNeg = 1464 := by decide +kernel
theorem qc_1465 : (1465 : Int32).toNatClampNeg = 1465 := by decide +kernel
theorem qc_1466 : (1466 : Int32).toNatClampNeg = 1466 := by decide +kernel
theorem qc_1467 : (1467 : Int32).toNatClampNeg = 1467 := by decide +kernel
theorem qc_1468 : (1468 : Int32).toNatClampNeg = 1468 := by decide +kernel
theorem qc_1469 : (1469 : Int32).toNatClampNeg = 1469 := by decide +kernel
theorem qc_1470 : (1470 : Int32).toNatClampNeg = 1470 := by decide +kernel
theorem qc_1471 : (1471 : Int32).toNatClampNeg = 1471 := by decide +kernel
theorem qc_1472 : (1472 : Int32).toNatClampNeg = 1472 := by decide +kernel
theorem qc_1473 : (1473 : Int32).toNatClampNeg = 1473 := by decide +kernel
theorem qc_1474 : (1474 : Int32).toNatClampNeg = 1474 := by decide +kernel
theorem qc_1477 : (1477 : Int32).toNatClampNeg = 1477 := by decide +kernel
theorem qc_1525 : (1525 : Int32).toNatClampNeg = 1525 := by decide +kernel
theorem qc_1555 : (1555 : Int32).toNatClampNeg = 1555 := by decide +kernel
theorem qc_1558 : (1558 : Int32).toNatClampNeg = 1558 := by decide +kernel
theorem qc_1588 : (1588 : Int32).toNatClampNeg = 1588 := by decide +kernel
theorem qc_1593 : (1593 : Int32).toNatClampNeg = 1593 := by decide +kernel
theorem qc_1598 : (1598 : Int32).toNatClampNeg = 1598 := by decide +kernel
theorem qc_1610 : (1610 : Int32).toNatClampNeg = 1610 := by decide +kernel
theorem qc_1640 : (1640 : Int32).toNatClampNeg = 1640 := by decide +kernel
theorem qc_1641 : (1641 : Int32).toNatClampNeg = 1641 := by decide +kernel
def qNms (features keys rings doors : Int32) (nf nk nr nd w : Nat → Int64) (g : Nat → Int32) : Prop := (features = g 1460 ∧ keys = g 1461 ∧ rings = g 1462 ∧ doors = g 1463) ∧ qNm features 3 nf w 84 ∧ qNm keys 10 nk w 87 ∧ qNm rings 3 nr w 97 ∧ qNm doors 5 nd w 100
theorem q_isg {r : Int32} {m : Int} (h : r = -1 ∨ (0 ≤ r.toInt ∧ r.toInt < m)) : (0 ≤ r ↔ ¬ r = -1) := by
  rw [q_le, q0]
  rcases h with h | h
  · rw [h, q_1]
    exact ⟨fun h9 => absurd h9 (by omega), fun h9 => absurd rfl h9⟩
  · exact ⟨fun _ h9 => by rw [h9, q_1] at h; omega, fun _ => h.1⟩
theorem q_taken {features keys rings doors : Int32} {nf nk nr nd w : Nat → Int64} {g : Nat → Int32} (h : qNms features keys rings doors nf nk nr nd w g) (l : Int64) : F_Ho_isTaken nf nk nr nd features keys rings doors l = F_r_isTaken l g w := by
  obtain ⟨⟨e1, e2, e3, e4⟩, h1, h2, h3, h4⟩ := h
  obtain ⟨a1, b1⟩ := q_nm_f (l := l) h1
  obtain ⟨a2, b2⟩ := q_nm_k (l := l) h2
  obtain ⟨a3, b3⟩ := q_nm_r (l := l) h3
  obtain ⟨a4, b4⟩ := q_nm_d (l := l) h4
  rw [F_Ho_isTaken_s, F_r_isTaken_s]
  simp only [qc_1460, qc_1461, qc_1462, qc_1463, ← e1, ← e2, ← e3, ← e4, a1, a2, a3, a4, q_isg b1, q_isg b2, q_isg b3]
  have h9 : F_r_named_4_16 l w doors < 0 ↔ F_r_named_4_16 l w doors = -1 := by
    rw [q_lt, q0]
    rcases b4 with h | h
    · rw [h, q_1]; exact ⟨fun _ => rfl, fun _ => by omega⟩
    · exact ⟨fun h9 => absurd h9 (by omega), fun h9 => by rw [h9, q_1] at h; omega⟩
  simp only [h9]
  by_cases c1 : F_r_named_4_0 l w features = -1
  · by_cases c2 : F_r_named_4_3 l w keys = -1
    · by_cases c3 : F_r_named_4_13 l w rings = -1
      · simp only [c1, c2, c3, not_true, ↓reduceIte]
      · simp only [c1, c2, c3, not_true, not_false_eq_true, ↓reduceIte]
    · simp only [c1, c2, not_true, not_false_eq_true, ↓reduceIte]
  · simp only [c1, not_false_eq_true, ↓reduceIte]
theorem q_hn {tok lt : Int32} {wd : Int64} (h : ¬ F_r_isHouseName tok lt wd = 0) : tok = 1 ∧ lt.toInt ≤ 8 := by
  rw [F_r_isHouseName_s] at h
  by_cases ht : tok = 1
  · refine ⟨ht, ?_⟩
    by_cases h8 : 8 < lt
    · exact absurd (by simp only [ht, h8, ↓reduceIte]) h
    · rw [q_nlt, q8] at h8; exact h8
  · exact absurd (if_neg ht) h
theorem q_hw {n : Int32} {T : Nat → Int32} {tok a b num lt cs cn : Int32} {wd cl : Int64} (h : ¬ F_r_isHouseName tok lt wd = 0) (hT : qTk n T tok a b num lt wd cs cn cl) : cl = wd ∧ ¬ wd = 0 ∧ a.toInt < b.toInt ∧ tok = 1 := by
  obtain ⟨h1, h2⟩ := q_hn h
  obtain ⟨h3, -, h5, h6⟩ := hT.2.2.2.2.2.2.2.2 h1
  rcases h6 with ⟨-, h7, h8⟩ | ⟨h7, -⟩
  · have := (qe_b _ h5).2.2 (by omega)
    refine ⟨h7, fun h9 => ?_, hT.2.2.2.2.2.1 (by rw [h1]; decide), h1⟩
    rw [h9, show (0 : Int64).toInt = 0 by decide +kernel] at h8
    omega
  · omega
theorem q_new_0 {n : Int32} {T : Nat → Int32} {b0 tok a b num lt cs cn fp ba tok0 a0 num0 lt0 : Int32} {wd cl wd0 : Int64} {features keys rings doors : Int32} {nf nk nr nd w : Nat → Int64} {g : Nat → Int32} (hn : n.toInt ≤ 900) (h : qNms features keys rings doors nf nk nr nd w g) (hk : ¬ g 1460 = 3) (e2 : F_r_next2 n b0 num0 lt0 wd0 T = (tok, a, b, num, lt, wd)) (hT : qTk n T tok a b num lt wd cs cn cl) : (∃ (tok1 a1 b1 num1 lt1 : Int32) (wd1 : Int64) (cs1 cn1 : Int32) (cl1 : Int64), F_Ho_takeNewName n tok a b cn cs cl 0 fp T nf nk nr nd features keys rings doors = (wd, tok1, a1, b1, cn1, cs1, cl1, 0, fp) ∧ F_r_readNew_0 n 0 ba tok0 a0 b0 num0 lt0 wd0 T g w = (g 1460, 0, ba, tok1, a1, b1, num1, lt1, wd1, vp_updL w ((84 : Int32) + g 1460).toNatClampNeg wd) ∧ ¬ lg_cmp wd 0 = 0 ∧ a.toInt < a1.toInt ∧ qTk n T tok1 a1 b1 num1 lt1 wd1 cs1 cn1 cl1) ∨ (∃ (f : Int32), 0 < f.toInt ∧ F_Ho_takeNewName n tok a b cn cs cl 0 fp T nf nk nr nd features keys rings doors = (0, tok, a, b, cn, cs, cl, f, a) ∧ F_r_readNew_0 n 0 ba tok0 a0 b0 num0 lt0 wd0 T g w = (0, f, a, tok, a, b, num, lt, wd, w)) := by
  rw [F_Ho_takeNewName_s, F_r_readNew_0_s]
  simp only [qc_1460, hk, e2, q_name hn hT, q_taken h, q_refuse, q_fail, q_wrong, ↓reduceIte]
  by_cases c1 : F_r_isHouseName tok lt wd = 0
  · simp only [c1, ↓reduceIte]
    exact Or.inr ⟨qF tok 2, qF_p (by decide +kernel), rfl, rfl⟩
  · obtain ⟨ecl, hwd, hab, ht⟩ := q_hw c1 hT
    simp only [c1, ecl, ↓reduceIte]
    by_cases c2 : F_r_isTaken wd g w = 0
    · obtain ⟨tok1, a1, b1, num1, lt1, wd1, cs1, cn1, cl1, f1, f2, f3, f4⟩ := q_ad (T := T) hn (q_tkb hT).1 (q_tkb hT).2 cn cs wd num lt wd
      simp only [c2, f1, f2, ↓reduceIte]
      exact Or.inl ⟨tok1, a1, b1, num1, lt1, wd1, cs1, cn1, cl1, rfl, rfl, fun h9 => hwd ((lg_cmp_eq _ _).mp h9), by omega, f4⟩
    · simp only [c2, ↓reduceIte]
      exact Or.inr ⟨3, by decide +kernel, by rw [qF_4 (by rw [ht]; decide)], rfl⟩
theorem q_new_1 {n : Int32} {T : Nat → Int32} {b0 tok a b num lt cs cn fp ba tok0 a0 num0 lt0 : Int32} {wd cl wd0 : Int64} {features keys rings doors : Int32} {nf nk nr nd w : Nat → Int64} {g : Nat → Int32} (hn : n.toInt ≤ 900) (h : qNms features keys rings doors nf nk nr nd w g) (hk : ¬ g 1461 = 10) (e2 : F_r_next2 n b0 num0 lt0 wd0 T = (tok, a, b, num, lt, wd)) (hT : qTk n T tok a b num lt wd cs cn cl) : (∃ (tok1 a1 b1 num1 lt1 : Int32) (wd1 : Int64) (cs1 cn1 : Int32) (cl1 : Int64), F_Ho_takeNewName n tok a b cn cs cl 0 fp T nf nk nr nd features keys rings doors = (wd, tok1, a1, b1, cn1, cs1, cl1, 0, fp) ∧ F_r_readNew_1 n 0 ba tok0 a0 b0 num0 lt0 wd0 T g w = (g 1461, 0, ba, tok1, a1, b1, num1, lt1, wd1, vp_updL w ((87 : Int32) + g 1461).toNatClampNeg wd) ∧ ¬ lg_cmp wd 0 = 0 ∧ a.toInt < a1.toInt ∧ qTk n T tok1 a1 b1 num1 lt1 wd1 cs1 cn1 cl1) ∨ (∃ (f : Int32), 0 < f.toInt ∧ F_Ho_takeNewName n tok a b cn cs cl 0 fp T nf nk nr nd features keys rings doors = (0, tok, a, b, cn, cs, cl, f, a) ∧ F_r_readNew_1 n 0 ba tok0 a0 b0 num0 lt0 wd0 T g w = (0, f, a, tok, a, b, num, lt, wd, w)) := by
  rw [F_Ho_takeNewName_s, F_r_readNew_1_s]
  simp only [qc_1461, hk, e2, q_name hn hT, q_taken h, q_refuse, q_fail, q_wrong, ↓reduceIte]
  by_cases c1 : F_r_isHouseName tok lt wd = 0
  · simp only [c1, ↓reduceIte]
    exact Or.inr ⟨qF tok 2, qF_p (by decide +kernel), rfl, rfl⟩
  · obtain ⟨ecl, hwd, hab, ht⟩ := q_hw c1 hT
    simp only [c1, ecl, ↓reduceIte]
    by_cases c2 : F_r_isTaken wd g w = 0
    · obtain ⟨tok1, a1, b1, num1, lt1, wd1, cs1, cn1, cl1, f1, f2, f3, f4⟩ := q_ad (T := T) hn (q_tkb hT).1 (q_tkb hT).2 cn cs wd num lt wd
      simp only [c2, f1, f2, ↓reduceIte]
      exact Or.inl ⟨tok1, a1, b1, num1, lt1, wd1, cs1, cn1, cl1, rfl, rfl, fun h9 => hwd ((lg_cmp_eq _ _).mp h9), by omega, f4⟩
    · simp only [c2, ↓reduceIte]
      exact Or.inr ⟨3, by decide +kernel, by rw [qF_4 (by rw [ht]; decide)], rfl⟩
theorem q_new_2 {n : Int32} {T : Nat → Int32} {b0 tok a b num lt cs cn fp ba tok0 a0 num0 lt0 : Int32} {wd cl wd0 : Int64} {features keys rings doors : Int32} {nf nk nr nd w : Nat → Int64} {g : Nat → Int32} (hn : n.toInt ≤ 900) (h : qNms features keys rings doors nf nk nr nd w g) (hk : ¬ g 1462 = 3) (e2 : F_r_next2 n b0 num0 lt0 wd0 T = (tok, a, b, num, lt, wd)) (hT : qTk n T tok a b num lt wd cs cn cl) : (∃ (tok1 a1 b1 num1 lt1 : Int32) (wd1 : Int64) (cs1 cn1 : Int32) (cl1 : Int64), F_Ho_takeNewName n tok a b cn cs cl 0 fp T nf nk nr nd features keys rings doors = (wd, tok1, a1, b1, cn1, cs1, cl1, 0, fp) ∧ F_r_readNew_2 n 0 ba tok0 a0 b0 num0 lt0 wd0 T g w = (g 1462, 0, ba, tok1, a1, b1, num1, lt1, wd1, vp_updL w ((97 : Int32) + g 1462).toNatClampNeg wd) ∧ ¬ lg_cmp wd 0 = 0 ∧ a.toInt < a1.toInt ∧ qTk n T tok1 a1 b1 num1 lt1 wd1 cs1 cn1 cl1) ∨ (∃ (f : Int32), 0 < f.toInt ∧ F_Ho_takeNewName n tok a b cn cs cl 0 fp T nf nk nr nd features keys rings doors = (0, tok, a, b, cn, cs, cl, f, a) ∧ F_r_readNew_2 n 0 ba tok0 a0 b0 num0 lt0 wd0 T g w = (0, f, a, tok, a, b, num, lt, wd, w)) := by
  rw [F_Ho_takeNewName_s, F_r_readNew_2_s]
  simp only [qc_1462, hk, e2, q_name hn hT, q_taken h, q_refuse, q_fail, q_wrong, ↓reduceIte]
  by_cases c1 : F_r_isHouseName tok lt wd = 0
  · simp only [c1, ↓reduceIte]
    exact Or.inr ⟨qF tok 2, qF_p (by decide +kernel), rfl, rfl⟩
  · obtain ⟨ecl, hwd, hab, ht⟩ := q_hw c1 hT
    simp only [c1, ecl, ↓reduceIte]
    by_cases c2 : F_r_isTaken wd g w = 0
    · obtain ⟨tok1, a1, b1, num1, lt1, wd1, cs1, cn1, cl1, f1, f2, f3, f4⟩ := q_ad (T := T) hn (q_tkb hT).1 (q_tkb hT).2 cn cs wd num lt wd
      simp only [c2, f1, f2, ↓reduceIte]
      exact Or.inl ⟨tok1, a1, b1, num1, lt1, wd1, cs1, cn1, cl1, rfl, rfl, fun h9 => hwd ((lg_cmp_eq _ _).mp h9), by omega, f4⟩
    · simp only [c2, ↓reduceIte]
      exact Or.inr ⟨3, by decide +kernel, by rw [qF_4 (by rw [ht]; decide)], rfl⟩
theorem q_new_3 {n : Int32} {T : Nat → Int32} {b0 tok a b num lt cs cn fp ba tok0 a0 num0 lt0 : Int32} {wd cl wd0 : Int64} {features keys rings doors : Int32} {nf nk nr nd w : Nat → Int64} {g : Nat → Int32} (hn : n.toInt ≤ 900) (h : qNms features keys rings doors nf nk nr nd w g) (hk : ¬ g 1463 = 5) (e2 : F_r_next2 n b0 num0 lt0 wd0 T = (tok, a, b, num, lt, wd)) (hT : qTk n T tok a b num lt wd cs cn cl) : (∃ (tok1 a1 b1 num1 lt1 : Int32) (wd1 : Int64) (cs1 cn1 : Int32) (cl1 : Int64), F_Ho_takeNewName n tok a b cn cs cl 0 fp T nf nk nr nd features keys rings doors = (wd, tok1, a1, b1, cn1, cs1, cl1, 0, fp) ∧ F_r_readNew_3 n 0 ba tok0 a0 b0 num0 lt0 wd0 T g w = (g 1463, 0, ba, tok1, a1, b1, num1, lt1, wd1, vp_updL w ((100 : Int32) + g 1463).toNatClampNeg wd) ∧ ¬ lg_cmp wd 0 = 0 ∧ a.toInt < a1.toInt ∧ qTk n T tok1 a1 b1 num1 lt1 wd1 cs1 cn1 cl1) ∨ (∃ (f : Int32), 0 < f.toInt ∧ F_Ho_takeNewName n tok a b cn cs cl 0 fp T nf nk nr nd features keys rings doors = (0, tok, a, b, cn, cs, cl, f, a) ∧ F_r_readNew_3 n 0 ba tok0 a0 b0 num0 lt0 wd0 T g w = (0, f, a, tok, a, b, num, lt, wd, w)) := by
  rw [F_Ho_takeNewName_s, F_r_readNew_3_s]
  simp only [qc_1463, hk, e2, q_name hn hT, q_taken h, q_refuse, q_fail, q_wrong, ↓reduceIte]
  by_cases c1 : F_r_isHouseName tok lt wd = 0
  · simp only [c1, ↓reduceIte]
    exact Or.inr ⟨qF tok 2, qF_p (by decide +kernel), rfl, rfl⟩
  · obtain ⟨ecl, hwd, hab, ht⟩ := q_hw c1 hT
    simp only [c1, ecl, ↓reduceIte]
    by_cases c2 : F_r_isTaken wd g w = 0
    · obtain ⟨tok1, a1, b1, num1, lt1, wd1, cs1, cn1, cl1, f1, f2, f3, f4⟩ := q_ad (T := T) hn (q_tkb hT).1 (q_tkb hT).2 cn cs wd num lt wd
      simp only [c2, f1, f2, ↓reduceIte]
      exact Or.inl ⟨tok1, a1, b1, num1, lt1, wd1, cs1, cn1, cl1, rfl, rfl, fun h9 => hwd ((lg_cmp_eq _ _).mp h9), by omega, f4⟩
    · simp only [c2, ↓reduceIte]
      exact Or.inr ⟨3, by decide +kernel, by rw [qF_4 (by rw [ht]; decide)], rfl⟩
theorem q_old_0 {n : Int32} {T : Nat → Int32} {tok a b num lt cs cn fp ba : Int32} {wd cl : Int64} {many : Int32} {nm w : Nat → Int64} {g : Nat → Int32} (hn : n.toInt ≤ 900) (h : qNm many 3 nm w 84) (hm : many = g 1460) (hT : qTk n T tok a b num lt wd cs cn cl) : (∃ r : Int32, F_HR_thing_f n tok a b cl 0 fp T nm many = (r, 0, fp) ∧ F_r_readOld_0 0 ba tok a lt wd g w = (r, 0, ba) ∧ 0 ≤ r.toInt ∧ r.toInt < many.toInt ∧ a.toInt < b.toInt ∧ tok = 1) ∨ (∃ f r : Int32, 0 < f.toInt ∧ F_HR_thing_f n tok a b cl 0 fp T nm many = (-1, f, a) ∧ F_r_readOld_0 0 ba tok a lt wd g w = (r, f, a)) := by
  rw [F_HR_thing_f_s, F_r_readOld_0_s]
  simp only [qc_1460, ← hm, q_name hn hT, q_refuse, q_fail, q_wrong, ↓reduceIte]
  by_cases c1 : F_r_isHouseName tok lt wd = 0
  · simp only [c1, ↓reduceIte]
    exact Or.inr ⟨qF tok 2, 0, qF_p (by decide +kernel), rfl, rfl⟩
  · obtain ⟨ecl, hwd, hab, ht⟩ := q_hw c1 hT
    obtain ⟨a1, b1⟩ := q_nm_f (l := wd) h
    simp only [c1, ecl, a1, q_isg b1, ↓reduceIte]
    by_cases c2 : F_r_named_4_0 wd w many = -1
    · simp only [c2, not_true, ↓reduceIte]
      exact Or.inr ⟨3, -1, by decide +kernel, by rw [qF_4 (by rw [ht]; decide)], rfl⟩
    · simp only [c2, not_false_eq_true, ↓reduceIte]
      rcases b1 with b1 | b1
      · exact absurd b1 c2
      · exact Or.inl ⟨_, rfl, rfl, b1.1, b1.2, hab, ht⟩
theorem q_old_1 {n : Int32} {T : Nat → Int32} {tok a b num lt cs cn fp ba : Int32} {wd cl : Int64} {many : Int32} {nm w : Nat → Int64} {g : Nat → Int32} (hn : n.toInt ≤ 900) (h : qNm many 10 nm w 87) (hm : many = g 1461) (hT : qTk n T tok a b num lt wd cs cn cl) : (∃ r : Int32, F_HR_thing_k n tok a b cl 0 fp T nm many = (r, 0, fp) ∧ F_r_readOld_1 0 ba tok a lt wd g w = (r, 0, ba) ∧ 0 ≤ r.toInt ∧ r.toInt < many.toInt ∧ a.toInt < b.toInt ∧ tok = 1) ∨ (∃ f r : Int32, 0 < f.toInt ∧ F_HR_thing_k n tok a b cl 0 fp T nm many = (-1, f, a) ∧ F_r_readOld_1 0 ba tok a lt wd g w = (r, f, a)) := by
  rw [F_HR_thing_k_s, F_r_readOld_1_s]
  simp only [qc_1461, ← hm, q_name hn hT, q_refuse, q_fail, q_wrong, ↓reduceIte]
  by_cases c1 : F_r_isHouseName tok lt wd = 0
  · simp only [c1, ↓reduceIte]
    exact Or.inr ⟨qF tok 2, 0, qF_p (by decide +kernel), rfl, rfl⟩
  · obtain ⟨ecl, hwd, hab, ht⟩ := q_hw c1 hT
    obtain ⟨a1, b1⟩ := q_nm_k (l := wd) h
    simp only [c1, ecl, a1, q_isg b1, ↓reduceIte]
    by_cases c2 : F_r_named_4_3 wd w many = -1
    · simp only [c2, not_true, ↓reduceIte]
      exact Or.inr ⟨3, -1, by decide +kernel, by rw [qF_4 (by rw [ht]; decide)], rfl⟩
    · simp only [c2, not_false_eq_true, ↓reduceIte]
      rcases b1 with b1 | b1
      · exact absurd b1 c2
      · exact Or.inl ⟨_, rfl, rfl, b1.1, b1.2, hab, ht⟩
theorem q_old_3 {n : Int32} {T : Nat → Int32} {tok a b num lt cs cn fp ba : Int32} {wd cl : Int64} {many : Int32} {nm w : Nat → Int64} {g : Nat → Int32} (hn : n.toInt ≤ 900) (h : qNm many 5 nm w 100) (hm : many = g 1463) (hT : qTk n T tok a b num lt wd cs cn cl) : (∃ r : Int32, F_HR_thing_d n tok a b cl 0 fp T nm many = (r, 0, fp) ∧ F_r_readOld_3 0 ba tok a lt wd g w = (r, 0, ba) ∧ 0 ≤ r.toInt ∧ r.toInt < many.toInt ∧ a.toInt < b.toInt ∧ tok = 1) ∨ (∃ f r : Int32, 0 < f.toInt ∧ F_HR_thing_d n tok a b cl 0 fp T nm many = (-1, f, a) ∧ F_r_readOld_3 0 ba tok a lt wd g w = (r, f, a)) := by
  rw [F_HR_thing_d_s, F_r_readOld_3_s]
  simp only [qc_1463, ← hm, q_name hn hT, q_refuse, q_fail, q_wrong, ↓reduceIte]
  by_cases c1 : F_r_isHouseName tok lt wd = 0
  · simp only [c1, ↓reduceIte]
    exact Or.inr ⟨qF tok 2, 0, qF_p (by decide +kernel), rfl, rfl⟩
  · obtain ⟨ecl, hwd, hab, ht⟩ := q_hw c1 hT
    obtain ⟨a1, b1⟩ := q_nm_d (l := wd) h
    simp only [c1, ecl, a1, q_isg b1, ↓reduceIte]
    by_cases c2 : F_r_named_4_16 wd w many = -1
    · simp only [c2, not_true, ↓reduceIte]
      exact Or.inr ⟨3, -1, by decide +kernel, by rw [qF_4 (by rw [ht]; decide)], rfl⟩
    · simp only [c2, not_false_eq_true, ↓reduceIte]
      rcases b1 with b1 | b1
      · exact absurd b1 c2
      · exact Or.inl ⟨_, rfl, rfl, b1.1, b1.2, hab, ht⟩
