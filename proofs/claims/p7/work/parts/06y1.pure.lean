theorem q_lt {a b : Int32} : a < b ↔ a.toInt < b.toInt := Int32.lt_iff_toInt_lt
theorem q_le {a b : Int32} : a ≤ b ↔ a.toInt ≤ b.toInt := Int32.le_iff_toInt_le
theorem q_nlt {a b : Int32} : ¬ a < b ↔ b.toInt ≤ a.toInt := by rw [q_lt]; omega
theorem q_nle {a b : Int32} : ¬ a ≤ b ↔ b.toInt < a.toInt := by rw [q_le]; omega
theorem q_eq {a b : Int32} : a = b ↔ a.toInt = b.toInt := Int32.toInt_inj.symm
theorem q_add {a b : Int32} (h1 : -2147483648 ≤ a.toInt + b.toInt) (h2 : a.toInt + b.toInt ≤ 2147483647) : (a + b).toInt = a.toInt + b.toInt := z_addq rfl rfl rfl h1 h2
theorem q_sub {a b : Int32} (h1 : -2147483648 ≤ a.toInt - b.toInt) (h2 : a.toInt - b.toInt ≤ 2147483647) : (a - b).toInt = a.toInt - b.toInt := z_subq rfl rfl rfl h1 h2
theorem q0 : (0 : Int32).toInt = 0 := by decide +kernel
theorem q1 : (1 : Int32).toInt = 1 := by decide +kernel
theorem q_1 : (-1 : Int32).toInt = -1 := by decide +kernel
theorem qnI_mul (a b : Nat) : nI a * nI b = nI (a * b) := (Int32.ofNat_mul a b).symm
theorem qnI_cl {a : Nat} (h : a < 2147483648) : (nI a).toNatClampNeg = a := by
  show (nI a).toInt.toNat = a
  rw [nI_toInt (by omega)]
  omega
theorem qnI_s (a : Nat) : nI a + 1 = nI (a + 1) := nI_add a 1
theorem q_n1 : ¬ (1 : Int32) = 0 := by decide
theorem q_toN {x : Int32} {m : Int} (h0 : 0 ≤ x.toInt) : x = nI x.toInt.toNat := q_eq.mpr (by rw [nI_toInt (by have := z_full x; omega)]; omega)
theorem q_has {k m : Int32} : (if k < 0 then (0 : Int32) else if m ≤ k then 0 else 1) = if 0 ≤ k.toInt ∧ k.toInt < m.toInt then 1 else 0 := by
  by_cases c : k < 0
  · rw [if_pos c, if_neg (fun h => absurd (q_lt.mp c) (by rw [q0]; omega))]
  · rw [if_neg c]
    have c0 := q_nlt.mp c
    rw [q0] at c0
    by_cases d : m ≤ k
    · rw [if_pos d, if_neg (fun h => absurd (q_le.mp d) (by omega))]
    · rw [if_neg d, if_pos ⟨c0, q_nle.mp d⟩]
theorem q_nat {k : Int32} {m : Int} (h : 0 ≤ k.toInt ∧ k.toInt < m) (hm : m ≤ 1000) : ∃ v : Nat, k = nI v ∧ (v : Int) < m ∧ v < 1000 := ⟨k.toInt.toNat, q_toN (m := 0) h.1, by omega, by omega⟩
theorem q_nsub {a b : Nat} (h : b ≤ a) (ha : a < 2147483648) : nI a - nI b = nI (a - b) := by
  have e1 := nI_toInt ha
  have e2 := nI_toInt (show b < 2147483648 by omega)
  have e3 := nI_toInt (show a - b < 2147483648 by omega)
  exact q_eq.mpr (by rw [q_sub (by omega) (by omega), e1, e2, e3]; omega)
/-- a TRAY on both sides -/
def qTy (s m : Int32) (R : Nat → Int64) (t : Nat) (gs gm : Nat → Int32) (N : Nat → Int64) : Prop := s = gs t ∧ m = gm t ∧ ∀ j : Nat, (j : Int) < m.toInt → R j = N (60 * t + j)
theorem qTy_0 {R : Nat → Int64} {t : Nat} {gs gm : Nat → Int32} {N : Nat → Int64} (h1 : gs t = 0) (h2 : gm t = -1) : qTy 0 (-1) R t gs gm N := ⟨h1.symm, h2.symm, fun j hj => by
  rw [q_1] at hj
  omega⟩
theorem tz_rg {gm : Nat → Int32} (hM : zRg 4 (-1) 60 gm) {t : Nat} (ht : t < 4) : -1 ≤ (gm t).toInt ∧ (gm t).toInt ≤ 60 := hM t ht
theorem tz_im {m : Int32} : F_Tr_isMissing m = if m = -1 then 1 else 0 := F_Tr_isMissing_s ..
theorem tz_hp {m k : Int32} : F_Tr_hasPlace m k = if 0 ≤ k.toInt ∧ k.toInt < m.toInt then 1 else 0 := (F_Tr_hasPlace_s ..).trans q_has
theorem tz_hps {m k j : Int32} (h0 : -1 ≤ m.toInt) (h1 : m.toInt ≤ 60) : F_Tr_hasPlaces m k j = if 0 ≤ k.toInt ∧ 0 ≤ j.toInt ∧ k.toInt + j.toInt ≤ m.toInt then 1 else 0 := by
  have hj := z_full j
  rw [F_Tr_hasPlaces_s]
  by_cases c : k < 0
  · have c1 := q_lt.mp c
    rw [q0] at c1
    rw [if_pos c, if_neg (by omega)]
  · have c1 := q_nlt.mp c
    rw [q0] at c1
    rw [if_neg c]
    by_cases d : j < 0
    · have d1 := q_lt.mp d
      rw [q0] at d1
      rw [if_pos d, if_neg (by omega)]
    · have d1 := q_nlt.mp d
      rw [q0] at d1
      have e := q_sub (a := m) (b := j) (by omega) (by omega)
      rw [if_neg d]
      show (if m - j < k then (0 : Int32) else 1) = _
      by_cases x : k.toInt + j.toInt ≤ m.toInt
      · rw [if_neg (q_nlt.mpr (by rw [e]; omega)), if_pos ⟨c1, d1, x⟩]
      · rw [if_pos (q_lt.mpr (by rw [e]; omega)), if_neg (by omega)]
theorem tz_ne {m : Int32} (h : 0 ≤ m.toInt) : ¬ m = -1 := fun h9 => by
  rw [h9, q_1] at h
  omega
theorem tz_m1 {m : Int32} (h0 : -1 ≤ m.toInt) (h : ¬ m = -1) : 0 ≤ m.toInt := by
  rcases (show m.toInt = -1 ∨ 0 ≤ m.toInt by omega) with h9 | h9
  · exact absurd (q_eq.mpr (by rw [h9, q_1])) h
  · exact h9
theorem tz_td {gm : Nat → Int32} {t : Nat} (ht : t < 4) : F_r_trayed gm (nI t) = if 0 ≤ gm t then 0 else 3 := by
  have e := nI_toInt (show t < 2147483648 by omega)
  rw [F_r_trayed_s]
  simp only [show ¬ nI t < 0 from q_nlt.mpr (by rw [q0, e]; omega), show nI t < 4 from q_lt.mpr (by rw [e, show (4 : Int32).toInt = 4 by decide +kernel]; omega), qnI_cl (show t < 2147483648 by omega), ↓reduceIte]
theorem tz_pd {gm : Nat → Int32} {t : Nat} {k : Int32} (ht : t < 4) : (0 ≤ k.toInt ∧ k.toInt < (gm t).toInt → F_r_placed gm (nI t) k = 0) ∧ (¬ (0 ≤ k.toInt ∧ k.toInt < (gm t).toInt) → ¬ F_r_placed gm (nI t) k ≤ 0) := by
  rw [F_r_placed_s]
  simp only [tz_td ht, qnI_cl (show t < 2147483648 by omega)]
  by_cases c : 0 ≤ gm t
  · simp only [c, show (0 : Int32) ≤ 0 from q_le.mpr (Int.le_refl _), ↓reduceIte]
    have hk : (if k < 0 then (4 : Int32) else if k < gm t then 0 else 4) = if 0 ≤ k.toInt ∧ k.toInt < (gm t).toInt then 0 else 4 := by
      by_cases d : k < 0
      · have d1 := q_lt.mp d
        rw [q0] at d1
        rw [if_pos d, if_neg (by omega)]
      · have d1 := q_nlt.mp d
        rw [q0] at d1
        rw [if_neg d]
        by_cases x : k < gm t
        · rw [if_pos x, if_pos ⟨d1, q_lt.mp x⟩]
        · rw [if_neg x, if_neg (fun h9 => x (q_lt.mpr h9.2))]
    rw [hk]
    exact ⟨fun h9 => if_pos h9, fun h9 => by rw [if_neg h9]; decide⟩
  · have c1 := q_nle.mp c
    rw [q0] at c1
    simp only [c, show ¬ (3 : Int32) ≤ 0 by decide, ↓reduceIte]
    exact ⟨fun h9 => absurd h9.2 (by omega), fun _ h9 => absurd h9 (by decide)⟩
theorem tz_po {gm : Nat → Int32} {t k : Int32} (h : t.toInt < 0 ∨ 4 ≤ t.toInt) : ¬ F_r_placed gm t k ≤ 0 := by
  have e4 : (4 : Int32).toInt = 4 := by decide +kernel
  have ht : F_r_trayed gm t = 1 := by
    rw [F_r_trayed_s]
    by_cases c : t < 0
    · rw [if_pos c]
    · have c1 := q_nlt.mp c
      rw [q0] at c1
      rw [if_neg c, if_neg (q_nlt.mpr (by rw [e4]; omega))]
  rw [F_r_placed_s]
  simp only [ht, show ¬ (1 : Int32) ≤ 0 by decide, ↓reduceIte, not_false_eq_true]
theorem tz_ix {t a : Nat} (ht : t < 4) (ha : a < 60) : ((60 : Int32) * nI t + nI a).toNatClampNeg = 60 * t + a := by
  show (nI 60 * nI t + nI a).toNatClampNeg = _
  rw [qnI_mul, nI_add, qnI_cl (by omega)]
theorem tz_la {R : Nat → Int64} {a : Nat} (ha : a < 60) : F_longAt_60 R (nI a) = R a := by
  have e := nI_toInt (show a < 2147483648 by omega)
  rw [F_longAt_60_s, if_neg (q_nlt.mpr (by rw [q0, e]; omega)), if_neg (q_nle.mpr (by rw [e, show (60 : Int32).toInt = 60 by decide +kernel]; omega))]
  show R (nI a).toNatClampNeg = R a
  rw [qnI_cl (by omega)]
theorem tz_kl {R : Nat → Int64} {a : Nat} {v : Int64} (ha : a < 60) : F_keepLongAt_60 R (nI a) v = vp_updL R a v := by
  have e := nI_toInt (show a < 2147483648 by omega)
  rw [F_keepLongAt_60_s, if_neg (q_nlt.mpr (by rw [q0, e]; omega)), if_neg (q_nle.mpr (by rw [e, show (60 : Int32).toInt = 60 by decide +kernel]; omega))]
  show vp_updL R (nI a).toNatClampNeg v = _
  rw [qnI_cl (by omega)]
theorem tz_cut {s : Int32} {v : Int64} : F_Tr_cut s v = F_r_cut s v := by
  have e0 : s.toInt = 0 ↔ s = 0 := ⟨fun h => q_eq.mpr (by rw [h, q0]), fun h => by rw [h, q0]⟩
  have e1 : s.toInt = 1 ↔ s = 1 := ⟨fun h => q_eq.mpr (by rw [h, q1]), fun h => by rw [h, q1]⟩
  have e2 : s.toInt = 2 ↔ s = 2 := ⟨fun h => q_eq.mpr (by rw [h]; decide +kernel), fun h => by rw [h]; decide +kernel⟩
  rw [F_Tr_cut_s, F_r_cut_s]
  simp only [e0, e1, e2]
/-- a number read -/
theorem tz_rd {s m k : Int32} {R : Nat → Int64} {t : Nat} {gs gm : Nat → Int32} {N : Nat → Int64} (h : qTy s m R t gs gm N) (ht : t < 4) (hM : zRg 4 (-1) 60 gm) : (if F_Tr_isMissing m = 0 then (if F_Tr_hasPlace m k = 0 then (-1 : Int64) else F_Tr_numberAt R k) else -1) = F_r_read gm N (nI t) k := by
  obtain ⟨h1, h2, h3⟩ := h
  have hr := tz_rg hM ht
  obtain ⟨p1, p2⟩ := tz_pd (gm := gm) (k := k) ht
  rw [F_r_read_s]
  by_cases c : 0 ≤ k.toInt ∧ k.toInt < m.toInt
  · have c' := c
    rw [h2] at c'
    obtain ⟨a, rfl, a1, -⟩ := q_nat (k := k) (m := 60) ⟨c.1, by omega⟩ (by omega)
    have e := nI_toInt (show a < 2147483648 by omega)
    simp only [p1 c', tz_hp, tz_im, c, tz_ne (show 0 ≤ m.toInt by omega), and_self, q_n1, tz_ix ht (show a < 60 by omega), F_Tr_numberAt_s, tz_la (show a < 60 by omega), show (0 : Int32) ≤ 0 from q_le.mpr (Int.le_refl _), ↓reduceIte]
    exact h3 a (by omega)
  · have c' := c
    rw [h2] at c'
    simp only [p2 c', tz_hp, c, ite_self, ↓reduceIte]
theorem tz_w1 {s m k : Int32} {l : Int64} {R : Nat → Int64} {t : Nat} {gs gm : Nat → Int32} {N : Nat → Int64} (h : qTy s m R t gs gm N) (ht : t < 4) (hM : zRg 4 (-1) 60 gm) (c : 0 ≤ k.toInt ∧ k.toInt < m.toInt) : F_Tr_isMissing m = 0 ∧ F_Tr_hasPlace m k = 1 ∧ ∃ (a : Nat) (v : Int64), a < 60 ∧ F_Tr_keep s R k l = vp_updL R a v ∧ F_r_write gs gm N (nI t) k l = (1, vp_updL N (60 * t + a) v) := by
  obtain ⟨h1, h2, h3⟩ := h
  have hr := tz_rg hM ht
  obtain ⟨p1, p2⟩ := tz_pd (gm := gm) (k := k) ht
  have c' := c
  rw [h2] at c'
  obtain ⟨a, rfl, a1, -⟩ := q_nat (k := k) (m := 60) ⟨c.1, by omega⟩ (by omega)
  refine ⟨by rw [tz_im, if_neg (tz_ne (show 0 ≤ m.toInt by omega))], by rw [tz_hp, if_pos c], a, F_r_cut (gs t) l, by omega, ?_, ?_⟩
  · rw [F_Tr_keep_s]
    simp only [tz_cut, tz_kl (show a < 60 by omega), h1]
  · rw [F_r_write_s]
    simp only [p1 c', tz_ix ht (show a < 60 by omega), qnI_cl (show t < 2147483648 by omega), show (0 : Int32) ≤ 0 from q_le.mpr (Int.le_refl _), ↓reduceIte]
theorem tz_w0 {s m k : Int32} {l : Int64} {R : Nat → Int64} {t : Nat} {gs gm : Nat → Int32} {N : Nat → Int64} (h : qTy s m R t gs gm N) (ht : t < 4) (c : ¬ (0 ≤ k.toInt ∧ k.toInt < m.toInt)) : F_Tr_hasPlace m k = 0 ∧ F_r_write gs gm N (nI t) k l = (0, N) := by
  obtain ⟨h1, h2, h3⟩ := h
  obtain ⟨p1, p2⟩ := tz_pd (gm := gm) (k := k) ht
  refine ⟨by rw [tz_hp, if_neg c], ?_⟩
  rw [h2] at c
  rw [F_r_write_s]
  simp only [p2 c, ↓reduceIte]
theorem qTy_w {s m : Int32} {R : Nat → Int64} {t a : Nat} {v : Int64} {gs gm : Nat → Int32} {N : Nat → Int64} (h : qTy s m R t gs gm N) : qTy s m (vp_updL R a v) t gs gm (vp_updL N (60 * t + a) v) := by
  refine ⟨h.1, h.2.1, fun j hj => ?_⟩
  unfold vp_updL
  by_cases c : j = a
  · rw [if_pos c, if_pos (by omega)]
  · rw [if_neg c, if_neg (by omega)]
    exact h.2.2 j hj
theorem qTy_o {s m : Int32} {R : Nat → Int64} {u t a : Nat} {v : Int64} {gs gm : Nat → Int32} {N : Nat → Int64} (h : qTy s m R u gs gm N) (hM : zRg 4 (-1) 60 gm) (hu : u < 4) (hne : ¬ u = t) (ha : a < 60) : qTy s m R u gs gm (vp_updL N (60 * t + a) v) := by
  have hr := tz_rg hM hu
  rw [← h.2.1] at hr
  refine ⟨h.1, h.2.1, fun j hj => ?_⟩
  unfold vp_updL
  rw [if_neg (by omega)]
  exact h.2.2 j hj
theorem tz_fl : ∀ (f i : Nat) (g : Nat → Int64), (2147483647 - (nI i).toInt).toNat < f → i ≤ 60 → ∀ j : Nat, F_fill_l_L6a 0 f (nI i) g j = if i ≤ j ∧ j < 60 then 0 else g j := by
  intro f
  induction f with
  | zero => intro i g hf; exact absurd hf (Nat.not_lt_zero _)
  | succ f ih =>
    intro i g hf hi j
    have e := nI_toInt (show i < 2147483648 by omega)
    have e2 := nI_toInt (show i + 1 < 2147483648 by omega)
    have e60 : (60 : Int32).toInt = 60 := by decide +kernel
    rw [F_fill_l_L6a_s]
    by_cases c : i = 60
    · subst c
      simp only [show (60 : Int32) ≤ nI 60 from q_le.mpr (by rw [e, e60]; omega), ↓reduceIte]
      rw [if_neg (by omega)]
    · simp only [show ¬ (60 : Int32) ≤ nI i from q_nle.mpr (by rw [e, e60]; omega), qnI_s, qnI_cl (show i < 2147483648 by omega), ↓reduceIte]
      rw [ih (i + 1) _ (by omega) (by omega) j]
      unfold vp_updL
      by_cases d : j = i
      · rw [if_neg (by omega), if_pos d, if_pos (by omega)]
      · by_cases d2 : i ≤ j ∧ j < 60
        · rw [if_pos (by omega), if_pos d2]
        · rw [if_neg (by omega), if_neg d, if_neg d2]
theorem tz_trL {t n : Nat} {gs gm : Nat → Int32} (ht : t < 4) (hn : n ≤ 60) : ∀ (f i : Nat) (N : Nat → Int64), (2147483647 - (nI i).toInt).toNat < f → i ≤ n → ∃ N' : Nat → Int64, F_r_tray_L74a (nI t) (nI n) gs gm f (nI i) N = (1, gs, gm, N') ∧ ∀ x : Nat, N' x = if 60 * t + i ≤ x ∧ x < 60 * t + n then 0 else N x := by
  intro f
  induction f with
  | zero => intro i N hf; exact absurd hf (Nat.not_lt_zero _)
  | succ f ih =>
    intro i N hf hi
    have e := nI_toInt (show i < 2147483648 by omega)
    have e2 := nI_toInt (show i + 1 < 2147483648 by omega)
    have en := nI_toInt (show n < 2147483648 by omega)
    rw [F_r_tray_L74a_s]
    by_cases c : i = n
    · subst c
      simp only [show nI i ≤ nI i from q_le.mpr (Int.le_refl _), ↓reduceIte]
      exact ⟨N, rfl, fun x => (if_neg (by omega)).symm⟩
    · simp only [show ¬ nI n ≤ nI i from q_nle.mpr (by rw [e, en]; omega), qnI_s, tz_ix ht (show i < 60 by omega), ↓reduceIte]
      obtain ⟨N', a1, a2⟩ := ih (i + 1) (vp_updL N (60 * t + i) 0) (by omega) (by omega)
      refine ⟨N', a1, fun x => ?_⟩
      rw [a2 x]
      unfold vp_updL
      by_cases d : x = 60 * t + i
      · rw [if_neg (by omega), if_pos d, if_pos (by omega)]
      · by_cases d2 : 60 * t + i ≤ x ∧ x < 60 * t + n
        · rw [if_pos (by omega), if_pos d2]
        · rw [if_neg (by omega), if_neg d, if_neg d2]
/-- numbers come from a place on to another one -/
theorem tz_La {t u i j n : Nat} {N : Nat → Int64} (ht : t < 4) (hu : u < 4) (hi : i + n ≤ 60) (hj : j + n ≤ 60) (hij : t = u → j ≤ i) : ∀ (f v : Nat) (g : Nat → Int64), (2147483647 - (nI v).toInt).toNat < f → v ≤ n → (∀ x : Nat, g x = if 60 * u + j ≤ x ∧ x < 60 * u + j + v then N (60 * t + i + (x - (60 * u + j))) else N x) → ∀ x : Nat, (F_r_pour_L158a (nI t) (nI i) (nI u) (nI j) (nI n) f (nI v) g).2 x = if 60 * u + j ≤ x ∧ x < 60 * u + j + n then N (60 * t + i + (x - (60 * u + j))) else N x := by
  intro f
  induction f with
  | zero => intro v g hf; exact absurd hf (Nat.not_lt_zero _)
  | succ f ih =>
    intro v g hf hv hg
    have e := nI_toInt (show v < 2147483648 by omega)
    have e2 := nI_toInt (show v + 1 < 2147483648 by omega)
    have en := nI_toInt (show n < 2147483648 by omega)
    have y1 : ((60 : Int32) * nI u + nI j + nI v).toNatClampNeg = 60 * u + j + v := by
      show (nI 60 * nI u + nI j + nI v).toNatClampNeg = _
      rw [qnI_mul, nI_add, nI_add, qnI_cl (by omega)]
    have y2 : ((60 : Int32) * nI t + nI i + nI v).toNatClampNeg = 60 * t + i + v := by
      show (nI 60 * nI t + nI i + nI v).toNatClampNeg = _
      rw [qnI_mul, nI_add, nI_add, qnI_cl (by omega)]
    rw [F_r_pour_L158a_s]
    by_cases c : v = n
    · subst c
      simp only [show nI v ≤ nI v from q_le.mpr (Int.le_refl _), ↓reduceIte]
      exact hg
    · simp only [show ¬ nI n ≤ nI v from q_nle.mpr (by rw [e, en]; omega), y1, y2, qnI_s, ↓reduceIte]
      refine ih (v + 1) _ (by omega) (by omega) (fun x => ?_)
      unfold vp_updL
      by_cases d : x = 60 * u + j + v
      · rw [if_pos d, if_pos (by omega), hg, if_neg (by omega), show 60 * t + i + (x - (60 * u + j)) = 60 * t + i + v by omega]
      · rw [if_neg d, hg x]
        by_cases d2 : 60 * u + j ≤ x ∧ x < 60 * u + j + v
        · rw [if_pos d2, if_pos (by omega)]
        · rw [if_neg d2, if_neg (by omega)]
theorem tz_Lb {t u i j n : Nat} {N : Nat → Int64} (ht : t < 4) (hu : u < 4) (hi : i + n ≤ 60) (hj : j + n ≤ 60) (hij : i < j) : ∀ (f v : Nat) (g : Nat → Int64), (2147483647 - (nI v).toInt).toNat < f → v ≤ n → (∀ x : Nat, g x = if 60 * u + j + (n - v) ≤ x ∧ x < 60 * u + j + n then N (60 * t + i + (x - (60 * u + j))) else N x) → ∀ x : Nat, (F_r_pour_L158b (nI t) (nI i) (nI u) (nI j) (nI n) f (nI v) g).2 x = if 60 * u + j ≤ x ∧ x < 60 * u + j + n then N (60 * t + i + (x - (60 * u + j))) else N x := by
  intro f
  induction f with
  | zero => intro v g hf; exact absurd hf (Nat.not_lt_zero _)
  | succ f ih =>
    intro v g hf hv hg
    have e := nI_toInt (show v < 2147483648 by omega)
    have e2 := nI_toInt (show v + 1 < 2147483648 by omega)
    have en := nI_toInt (show n < 2147483648 by omega)
    rw [F_r_pour_L158b_s]
    by_cases c : v = n
    · subst c
      simp only [show nI v ≤ nI v from q_le.mpr (Int.le_refl _), ↓reduceIte]
      intro x
      rw [hg x, Nat.sub_self, Nat.add_zero]
    · have y0 : nI n - 1 - nI v = nI (n - 1 - v) := by
        rw [show nI n - 1 = nI (n - 1) from q_nsub (b := 1) (by omega) (by omega), q_nsub (by omega) (by omega)]
      have y1 : ((60 : Int32) * nI u + nI j + nI (n - 1 - v)).toNatClampNeg = 60 * u + j + (n - 1 - v) := by
        show (nI 60 * nI u + nI j + nI (n - 1 - v)).toNatClampNeg = _
        rw [qnI_mul, nI_add, nI_add, qnI_cl (by omega)]
      have y2 : ((60 : Int32) * nI t + nI i + nI (n - 1 - v)).toNatClampNeg = 60 * t + i + (n - 1 - v) := by
        show (nI 60 * nI t + nI i + nI (n - 1 - v)).toNatClampNeg = _
        rw [qnI_mul, nI_add, nI_add, qnI_cl (by omega)]
      simp only [show ¬ nI n ≤ nI v from q_nle.mpr (by rw [e, en]; omega), y0, y1, y2, qnI_s, ↓reduceIte]
      refine ih (v + 1) _ (by omega) (by omega) (fun x => ?_)
      unfold vp_updL
      by_cases d : x = 60 * u + j + (n - 1 - v)
      · rw [if_pos d, if_pos (by omega), hg, if_neg (by omega), show 60 * t + i + (x - (60 * u + j)) = 60 * t + i + (n - 1 - v) by omega]
      · rw [if_neg d, hg x]
        by_cases d2 : 60 * u + j + (n - v) ≤ x ∧ x < 60 * u + j + n
        · rw [if_pos d2, if_pos (by omega)]
        · rw [if_neg d2, if_neg (by omega)]
abbrev qOk (s m s2 m2 i j n : Int32) : Prop := 0 ≤ m.toInt ∧ 0 ≤ m2.toInt ∧ s = s2 ∧ 0 ≤ n.toInt ∧ 0 ≤ i.toInt ∧ 0 ≤ j.toInt ∧ i.toInt + n.toInt ≤ m.toInt ∧ j.toInt + n.toInt ≤ m2.toInt
theorem tz_l64 {a b m : Int32} : lg_cmp (a.toInt64 + b.toInt64) m.toInt64 ≤ 0 ↔ a.toInt + b.toInt ≤ m.toInt := by
  have ha := z_full a
  have hb := z_full b
  have e : (a.toInt64 + b.toInt64).toInt = a.toInt + b.toInt := z_addql rfl (Int32.toInt_toInt64 a) (Int32.toInt_toInt64 b) (by omega) (by omega)
  rw [lg_cmp_le, Int64.le_iff_toInt_le, e, Int32.toInt_toInt64]
theorem tz_g64 {a b m : Int32} : 0 < lg_cmp (a.toInt64 + b.toInt64) m.toInt64 ↔ ¬ a.toInt + b.toInt ≤ m.toInt := by
  have ha := z_full a
  have hb := z_full b
  have e : (a.toInt64 + b.toInt64).toInt = a.toInt + b.toInt := z_addql rfl (Int32.toInt_toInt64 a) (Int32.toInt_toInt64 b) (by omega) (by omega)
  rw [lg_cmp_gt, Int64.lt_iff_toInt_lt, e, Int32.toInt_toInt64]
  omega
theorem tz_pr1 {t u : Nat} {i j n : Int32} {gs gm : Nat → Int32} {N : Nat → Int64} (ht : t < 4) (hu : u < 4) (hM : zRg 4 (-1) 60 gm) (h : qOk (gs t) (gm t) (gs u) (gm u) i j n) : ∀ x : Nat, (F_r_pour gs gm N (nI t) i (nI u) j n).2 x = if 60 * u + j.toInt.toNat ≤ x ∧ x < 60 * u + j.toInt.toNat + n.toInt.toNat then N (60 * t + i.toInt.toNat + (x - (60 * u + j.toInt.toNat))) else N x := by
  obtain ⟨h1, h2, h3, h4, h5, h6, h7, h8⟩ := h
  have r1 := tz_rg hM ht
  have r2 := tz_rg hM hu
  have et := nI_toInt (show t < 2147483648 by omega)
  have eu := nI_toInt (show u < 2147483648 by omega)
  have e4 : (4 : Int32).toInt = 4 := by decide +kernel
  obtain ⟨I, rfl, I1, -⟩ := q_nat (k := i) (m := 61) ⟨h5, by omega⟩ (by omega)
  obtain ⟨J, rfl, J1, -⟩ := q_nat (k := j) (m := 61) ⟨h6, by omega⟩ (by omega)
  obtain ⟨K, rfl, K1, -⟩ := q_nat (k := n) (m := 61) ⟨h4, by omega⟩ (by omega)
  have eI := nI_toInt (show I < 2147483648 by omega)
  have eJ := nI_toInt (show J < 2147483648 by omega)
  have eK := nI_toInt (show K < 2147483648 by omega)
  rw [eI, eK] at h7
  rw [eJ, eK] at h8
  have i1 : (nI I).toInt.toNat = I := by rw [eI]; rfl
  have j1 : (nI J).toInt.toNat = J := by rw [eJ]; rfl
  have k1 : (nI K).toInt.toNat = K := by rw [eK]; rfl
  rw [i1, j1, k1]
  have g1 : ¬ 0 < lg_cmp ((nI I).toInt64 + (nI K).toInt64) (gm t).toInt64 := fun h9 => tz_g64.mp h9 (by rw [eI, eK]; exact h7)
  have g2 : lg_cmp ((nI J).toInt64 + (nI K).toInt64) (gm u).toInt64 ≤ 0 := tz_l64.mpr (by rw [eJ, eK]; exact h8)
  rw [F_r_pour_s]
  simp only [show ¬ nI t < 0 from q_nlt.mpr (by rw [q0, et]; omega), show ¬ (4 : Int32) ≤ nI t from q_nle.mpr (by rw [e4, et]; omega), show ¬ nI u < 0 from q_nlt.mpr (by rw [q0, eu]; omega), show nI u < 4 from q_lt.mpr (by rw [e4, eu]; omega), qnI_cl (show t < 2147483648 by omega), qnI_cl (show u < 2147483648 by omega), show ¬ gm t < 0 from q_nlt.mpr (by rw [q0]; exact h1), show (0 : Int32) ≤ gm u from q_le.mpr (by rw [q0]; exact h2), h3, show (0 : Int32) ≤ nI K from q_le.mpr (by rw [q0, eK]; omega), show ¬ nI I < 0 from q_nlt.mpr (by rw [q0, eI]; omega), show ¬ nI J < 0 from q_nlt.mpr (by rw [q0, eJ]; omega), g1, g2, ↓reduceIte]
  by_cases c : J ≤ I
  · simp only [show nI J ≤ nI I from q_le.mpr (by rw [eI, eJ]; omega), ↓reduceIte]
    exact tz_La ht hu (by omega) (by omega) (fun _ => c) ((2147483647 - (0 : Int32).toInt).toNat + 1) 0 N (by show (2147483647 - (0 : Int32).toInt).toNat < _; omega) (by omega) (fun x => (if_neg (by omega)).symm)
  · simp only [show ¬ nI J ≤ nI I from q_nle.mpr (by rw [eI, eJ]; omega), ↓reduceIte]
    exact tz_Lb ht hu (by omega) (by omega) (by omega) ((2147483647 - (0 : Int32).toInt).toNat + 1) 0 N (by show (2147483647 - (0 : Int32).toInt).toNat < _; omega) (by omega) (fun x => (if_neg (by omega)).symm)
theorem tz_pr0 {t u : Nat} {i j n : Int32} {gs gm : Nat → Int32} {N : Nat → Int64} (ht : t < 4) (hu : u < 4) (h : ¬ qOk (gs t) (gm t) (gs u) (gm u) i j n) : (F_r_pour gs gm N (nI t) i (nI u) j n).2 = N := by
  have et := nI_toInt (show t < 2147483648 by omega)
  have eu := nI_toInt (show u < 2147483648 by omega)
  have e4 : (4 : Int32).toInt = 4 := by decide +kernel
  rw [F_r_pour_s]
  simp only [show ¬ nI t < 0 from q_nlt.mpr (by rw [q0, et]; omega), show ¬ (4 : Int32) ≤ nI t from q_nle.mpr (by rw [e4, et]; omega), show ¬ nI u < 0 from q_nlt.mpr (by rw [q0, eu]; omega), show nI u < 4 from q_lt.mpr (by rw [e4, eu]; omega), qnI_cl (show t < 2147483648 by omega), qnI_cl (show u < 2147483648 by omega), ↓reduceIte]
  by_cases c1 : gm t < 0
  · simp only [c1, ↓reduceIte]
  · by_cases c2 : 0 ≤ gm u
    · by_cases c3 : gs t = gs u
      · by_cases c4 : 0 ≤ n
        · by_cases c5 : i < 0
          · simp only [c1, c2, c3, c4, c5, ↓reduceIte]
          · by_cases c6 : j < 0
            · simp only [c1, c2, c3, c4, c5, c6, ↓reduceIte]
            · by_cases c7 : 0 < lg_cmp (i.toInt64 + n.toInt64) (gm t).toInt64
              · simp only [c1, c2, c3, c4, c5, c6, c7, ↓reduceIte]
              · by_cases c8 : lg_cmp (j.toInt64 + n.toInt64) (gm u).toInt64 ≤ 0
                · refine absurd ⟨?_, ?_, c3, ?_, ?_, ?_, ?_, tz_l64.mp c8⟩ h
                  · have := q_nlt.mp c1; rw [q0] at this; exact this
                  · have := q_le.mp c2; rw [q0] at this; exact this
                  · have := q_le.mp c4; rw [q0] at this; exact this
                  · have := q_nlt.mp c5; rw [q0] at this; exact this
                  · have := q_nlt.mp c6; rw [q0] at this; exact this
                  · exact Decidable.not_not.mp (fun h9 => c7 (tz_g64.mpr h9))
                · simp only [c1, c2, c3, c4, c5, c6, c7, c8, ↓reduceIte]
        · simp only [c1, c2, c3, c4, ↓reduceIte]
      · simp only [c1, c2, c3, ↓reduceIte]
    · simp only [c1, c2, ↓reduceIte]
theorem tz_prO {i j n t u : Int32} {gs gm : Nat → Int32} {N : Nat → Int64} (h : (t.toInt < 0 ∨ 4 ≤ t.toInt) ∨ (u.toInt < 0 ∨ 4 ≤ u.toInt)) : (F_r_pour gs gm N t i u j n).2 = N := by
  have e4 : (4 : Int32).toInt = 4 := by decide +kernel
  rw [F_r_pour_s]
  by_cases c1 : t < 0
  · simp only [c1, ↓reduceIte]
  · by_cases c2 : 4 ≤ t
    · simp only [c1, c2, ↓reduceIte]
    · by_cases c3 : u < 0
      · simp only [c1, c2, c3, ↓reduceIte]
      · by_cases c4 : u < 4
        · have a1 := q_nlt.mp c1
          have a2 := q_nle.mp c2
          have a3 := q_nlt.mp c3
          have a4 := q_lt.mp c4
          rw [q0] at a1 a3
          rw [e4] at a2 a4
          exact absurd h (by omega)
        · simp only [c1, c2, c3, c4, ↓reduceIte]
theorem tz_cp {s1 s2 m1 m2 k2 k4 k5 : Int32} {R1 R2 : Nat → Int64} (b1 : -1 ≤ m1.toInt ∧ m1.toInt ≤ 60) (b2 : -1 ≤ m2.toInt ∧ m2.toInt ≤ 60) (h : qOk s1 m1 s2 m2 k2 k4 k5) : F_Tr_isMissing m1 = 0 ∧ F_Tr_isMissing m2 = 0 ∧ s1 = s2 ∧ (0 : Int32) ≤ k5 ∧ F_Tr_hasPlaces m1 k2 k5 = 1 ∧ F_Tr_hasPlaces m2 k4 k5 = 1 ∧ F_Tr_copyFrom m2 R2 m1 R1 k2 k4 k5 = va_cpy R1 R2 k2.toInt.toNat k4.toInt.toNat k5.toInt.toNat := by
  obtain ⟨h1, h2, h3, h4, h5, h6, h7, h8⟩ := h
  have p1 : F_Tr_hasPlaces m1 k2 k5 = 1 := by rw [tz_hps b1.1 b1.2, if_pos ⟨h5, h4, h7⟩]
  have p2 : F_Tr_hasPlaces m2 k4 k5 = 1 := by rw [tz_hps b2.1 b2.2, if_pos ⟨h6, h4, h8⟩]
  refine ⟨by rw [tz_im, if_neg (tz_ne h1)], by rw [tz_im, if_neg (tz_ne h2)], h3, q_le.mpr (by rw [q0]; exact h4), p1, p2, ?_⟩
  rw [F_Tr_copyFrom_s]
  simp only [p1, p2, q_n1, ↓reduceIte]
  rfl
theorem tz_cps {s1 m1 k2 k4 k5 : Int32} {R1 : Nat → Int64} (b1 : -1 ≤ m1.toInt ∧ m1.toInt ≤ 60) (h : qOk s1 m1 s1 m1 k2 k4 k5) : F_Tr_copyFrom_same m1 R1 k2 k4 k5 = va_cpy R1 R1 k2.toInt.toNat k4.toInt.toNat k5.toInt.toNat := by
  obtain ⟨h1, h2, h3, h4, h5, h6, h7, h8⟩ := h
  have p1 : F_Tr_hasPlaces m1 k2 k5 = 1 := by rw [tz_hps b1.1 b1.2, if_pos ⟨h5, h4, h7⟩]
  have p2 : F_Tr_hasPlaces m1 k4 k5 = 1 := by rw [tz_hps b1.1 b1.2, if_pos ⟨h6, h4, h8⟩]
  rw [F_Tr_copyFrom_same_s]
  simp only [p1, p2, q_n1, ↓reduceIte]
  rfl
/-- nothing comes where it can't be -/
theorem tz_no {α : Type} {s1 m1 s2 m2 k2 k4 k5 : Int32} (L0 L1 : α) (b1 : -1 ≤ m1.toInt ∧ m1.toInt ≤ 60) (b2 : -1 ≤ m2.toInt ∧ m2.toInt ≤ 60) (h : ¬ qOk s1 m1 s2 m2 k2 k4 k5) : (if F_Tr_isMissing m1 = 0 then (if F_Tr_isMissing m2 = 0 then (if s1 = s2 then (if 0 ≤ k5 then (if F_Tr_hasPlaces m1 k2 k5 = 0 then L0 else (if F_Tr_hasPlaces m2 k4 k5 = 0 then L0 else L1)) else L0) else L0) else L0) else L0) = L0 := by
  by_cases c1 : m1 = -1
  · rw [tz_im, if_pos c1, if_neg q_n1]
  · by_cases c2 : m2 = -1
    · rw [tz_im (m := m2), if_pos c2, if_neg q_n1, ite_self]
    · by_cases c3 : s1 = s2
      · by_cases c4 : 0 ≤ k5
        · rw [tz_hps b1.1 b1.2, tz_hps b2.1 b2.2]
          by_cases c5 : 0 ≤ k2.toInt ∧ 0 ≤ k5.toInt ∧ k2.toInt + k5.toInt ≤ m1.toInt
          · by_cases c6 : 0 ≤ k4.toInt ∧ 0 ≤ k5.toInt ∧ k4.toInt + k5.toInt ≤ m2.toInt
            · exact absurd ⟨tz_m1 b1.1 c1, tz_m1 b2.1 c2, c3, c5.2.1, c5.1, c6.1, c5.2.2, c6.2.2⟩ h
            · rw [if_neg c6, if_pos rfl]
              simp only [ite_self]
          · rw [if_neg c5, if_pos rfl]
            simp only [ite_self]
        · simp only [c4, ite_self, ↓reduceIte]
      · simp only [c3, ite_self, ↓reduceIte]
theorem tz_noS {α : Type} {s1 m1 k2 k4 k5 : Int32} (L0 L1 : α) (b1 : -1 ≤ m1.toInt ∧ m1.toInt ≤ 60) (h : ¬ qOk s1 m1 s1 m1 k2 k4 k5) : (if F_Tr_isMissing m1 = 0 then (if F_Tr_isMissing m1 = 0 then (if 0 ≤ k5 then (if F_Tr_hasPlaces m1 k2 k5 = 0 then L0 else (if F_Tr_hasPlaces m1 k4 k5 = 0 then L0 else L1)) else L0) else L0) else L0) = L0 := by
  have h9 := tz_no (s1 := s1) (s2 := s1) (m1 := m1) (m2 := m1) L0 L1 b1 b1 h
  simp only [↓reduceIte] at h9
  exact h9
theorem qTy_p {s m s2 m2 : Int32} {R R2 : Nat → Int64} {t u : Nat} {i j n : Int32} {gs gm : Nat → Int32} {N N' : Nat → Int64} (h : qTy s m R t gs gm N) (h2 : qTy s2 m2 R2 u gs gm N) (ok : qOk (gs t) (gm t) (gs u) (gm u) i j n) (hN : ∀ x : Nat, N' x = if 60 * u + j.toInt.toNat ≤ x ∧ x < 60 * u + j.toInt.toNat + n.toInt.toNat then N (60 * t + i.toInt.toNat + (x - (60 * u + j.toInt.toNat))) else N x) : qTy s2 m2 (va_cpy R R2 i.toInt.toNat j.toInt.toNat n.toInt.toNat) u gs gm N' := by
  obtain ⟨o1, o2, o3, o4, o5, o6, o7, o8⟩ := ok
  refine ⟨h2.1, h2.2.1, fun x hx => ?_⟩
  rw [hN]
  by_cases c : j.toInt.toNat ≤ x ∧ x < j.toInt.toNat + n.toInt.toNat
  · rw [pk_cpy_in c.1 c.2, if_pos (by omega), h.2.2 _ (by rw [h.2.1]; omega)]
    congr 1
    omega
  · rw [pk_cpy_out (by omega), if_neg (by omega)]
    exact h2.2.2 x hx
theorem qTy_q {s2 m2 : Int32} {R2 : Nat → Int64} {t u w : Nat} {i j n : Int32} {gs gm : Nat → Int32} {N N' : Nat → Int64} (h2 : qTy s2 m2 R2 w gs gm N) (hM : zRg 4 (-1) 60 gm) (hw : w < 4) (hu : u < 4) (hne : ¬ w = u) (ok : qOk (gs t) (gm t) (gs u) (gm u) i j n) (hN : ∀ x : Nat, N' x = if 60 * u + j.toInt.toNat ≤ x ∧ x < 60 * u + j.toInt.toNat + n.toInt.toNat then N (60 * t + i.toInt.toNat + (x - (60 * u + j.toInt.toNat))) else N x) : qTy s2 m2 R2 w gs gm N' := by
  obtain ⟨o1, o2, o3, o4, o5, o6, o7, o8⟩ := ok
  have r1 := tz_rg hM hw
  have r2 := tz_rg hM hu
  rw [← h2.2.1] at r1
  refine ⟨h2.1, h2.2.1, fun x hx => ?_⟩
  rw [hN, if_neg (by omega)]
  exact h2.2.2 x hx
theorem qTy_t {R : Nat → Int64} {t n : Nat} {k : Int32} {gs gm : Nat → Int32} {N' : Nat → Int64} (hn : n ≤ 60) (hN : ∀ x : Nat, 60 * t ≤ x → x < 60 * t + n → N' x = 0) : qTy k (nI n) (F_fill_l R 0) t (upd gs t k) (upd gm t (nI n)) N' := by
  have en := nI_toInt (show n < 2147483648 by omega)
  refine ⟨(if_pos rfl).symm, (if_pos rfl).symm, fun j hj => ?_⟩
  rw [F_fill_l_s]
  have h9 := tz_fl ((2147483647 - (0 : Int32).toInt).toNat + 1) 0 R (by show (2147483647 - (0 : Int32).toInt).toNat < _; omega) (by omega) j
  rw [show nI 0 = (0 : Int32) from rfl] at h9
  rw [h9, if_pos (by omega), hN _ (by omega) (by omega)]
theorem qTy_u {s m : Int32} {R : Nat → Int64} {u t n : Nat} {a b : Int32} {gs gm : Nat → Int32} {N N' : Nat → Int64} (h : qTy s m R u gs gm N) (hM : zRg 4 (-1) 60 gm) (hu : u < 4) (hne : ¬ u = t) (hn : n ≤ 60) (hN : ∀ x : Nat, ¬ (60 * t ≤ x ∧ x < 60 * t + n) → N' x = N x) : qTy s m R u (upd gs t a) (upd gm t b) N' := by
  have r1 := tz_rg hM hu
  rw [← h.2.1] at r1
  refine ⟨h.1.trans (if_neg hne).symm, h.2.1.trans (if_neg hne).symm, fun j hj => ?_⟩
  rw [hN _ (by omega)]
  exact h.2.2 j hj
theorem tz_tr {t n : Nat} {k : Int32} {gs gm : Nat → Int32} {N : Nat → Int64} (ht : t < 4) (hk : 0 ≤ k.toInt ∧ k.toInt ≤ 3) (hn : n ≤ 60) : ∃ N' : Nat → Int64, F_r_tray gs gm N (nI t) k (nI n) = (1, upd gs t k, upd gm t (nI n), N') ∧ (∀ x : Nat, 60 * t ≤ x → x < 60 * t + n → N' x = 0) ∧ ∀ x : Nat, ¬ (60 * t ≤ x ∧ x < 60 * t + n) → N' x = N x := by
  have et := nI_toInt (show t < 2147483648 by omega)
  have en := nI_toInt (show n < 2147483648 by omega)
  have e4 : (4 : Int32).toInt = 4 := by decide +kernel
  have e3 : (3 : Int32).toInt = 3 := by decide +kernel
  have e60 : (60 : Int32).toInt = 60 := by decide +kernel
  obtain ⟨N', a1, a2⟩ := tz_trL (gs := upd gs t k) (gm := upd gm t (nI n)) ht hn ((2147483647 - (0 : Int32).toInt).toNat + 1) 0 N (by show (2147483647 - (0 : Int32).toInt).toNat < _; omega) (by omega)
  refine ⟨N', ?_, fun x h1 h2 => by rw [a2, if_pos (by omega)], fun x h1 => by rw [a2, if_neg (by omega)]⟩
  rw [F_r_tray_s]
  simp only [show ¬ nI t < 0 from q_nlt.mpr (by rw [q0, et]; omega), show ¬ (4 : Int32) ≤ nI t from q_nle.mpr (by rw [e4, et]; omega), show ¬ k < 0 from q_nlt.mpr (by rw [q0]; exact hk.1), show k ≤ 3 from q_le.mpr (by rw [e3]; exact hk.2), show nI n ≤ 60 from q_le.mpr (by rw [en, e60]; omega), show (0 : Int32) ≤ nI n from q_le.mpr (by rw [q0, en]; omega), qnI_cl (show t < 2147483648 by omega), ↓reduceIte]
  exact a1
theorem tz_tr0 {t k n : Int32} {gs gm : Nat → Int32} {N : Nat → Int64} (h : ¬ ((0 ≤ t.toInt ∧ t.toInt < 4) ∧ (0 ≤ k.toInt ∧ k.toInt ≤ 3) ∧ n.toInt ≤ 60 ∧ 0 ≤ n.toInt)) : F_r_tray gs gm N t k n = (0, gs, gm, N) := by
  have e4 : (4 : Int32).toInt = 4 := by decide +kernel
  have e3 : (3 : Int32).toInt = 3 := by decide +kernel
  have e60 : (60 : Int32).toInt = 60 := by decide +kernel
  rw [F_r_tray_s]
  by_cases c1 : t < 0
  · simp only [c1, ↓reduceIte]
  · by_cases c2 : 4 ≤ t
    · simp only [c1, c2, ↓reduceIte]
    · by_cases c3 : k < 0
      · simp only [c1, c2, c3, ↓reduceIte]
      · by_cases c4 : k ≤ 3
        · by_cases c5 : n ≤ 60
          · by_cases c6 : 0 ≤ n
            · have a1 := q_nlt.mp c1
              have a2 := q_nle.mp c2
              have a3 := q_nlt.mp c3
              have a4 := q_le.mp c4
              have a5 := q_le.mp c5
              have a6 := q_le.mp c6
              rw [q0] at a1 a3 a6
              rw [e4] at a2
              rw [e3] at a4
              rw [e60] at a5
              exact absurd ⟨⟨a1, a2⟩, ⟨a3, a4⟩, a5, a6⟩ h
            · simp only [c1, c2, c3, c4, c5, c6, ↓reduceIte]
          · simp only [c1, c2, c3, c4, c5, ↓reduceIte]
        · simp only [c1, c2, c3, c4, ↓reduceIte]
theorem tz_ct {α : Type} {k n : Int32} (L0 L1 : α) (h : ¬ ((0 ≤ k.toInt ∧ k.toInt ≤ 3) ∧ n.toInt ≤ 60 ∧ 0 ≤ n.toInt)) : (if k < 0 then L0 else (if k ≤ 3 then (if n ≤ 60 then (if 0 ≤ n then L1 else L0) else L0) else L0)) = L0 := by
  have e3 : (3 : Int32).toInt = 3 := by decide +kernel
  have e60 : (60 : Int32).toInt = 60 := by decide +kernel
  by_cases c3 : k < 0
  · simp only [c3, ↓reduceIte]
  · by_cases c4 : k ≤ 3
    · by_cases c5 : n ≤ 60
      · by_cases c6 : 0 ≤ n
        · have a3 := q_nlt.mp c3
          have a4 := q_le.mp c4
          have a5 := q_le.mp c5
          have a6 := q_le.mp c6
          rw [q0] at a3 a6
          rw [e3] at a4
          rw [e60] at a5
          exact absurd ⟨⟨a3, a4⟩, a5, a6⟩ h
        · simp only [c3, c4, c5, c6, ↓reduceIte]
      · simp only [c3, c4, c5, ↓reduceIte]
    · simp only [c3, c4, ↓reduceIte]
theorem tz_readA {s0 m0 : Int32} {R0 : Nat → Int64} {s1 m1 : Int32} {R1 : Nat → Int64} {s2 m2 : Int32} {R2 : Nat → Int64} {s3 m3 : Int32} {R3 : Nat → Int64} {gs gm : Nat → Int32} {N : Nat → Int64} {k1 k2 : Int32} (h0 : qTy s0 m0 R0 0 gs gm N) (h1 : qTy s1 m1 R1 1 gs gm N) (h2 : qTy s2 m2 R2 2 gs gm N) (h3 : qTy s3 m3 R3 3 gs gm N) (hM : zRg 4 (-1) 60 gm) : F_X_read m0 R0 m1 R1 m2 R2 m3 R3 k1 k2 = F_r_read gm N k1 k2 := by
  rw [F_X_read_s]
  by_cases c : (k1.toInt < 0 ∨ 4 ≤ k1.toInt)
  · rw [if_pos c, F_r_read_s]
    simp only [tz_po c, ↓reduceIte]
  rw [if_neg c]
  rcases (show k1.toInt = 0 ∨ k1.toInt = 1 ∨ k1.toInt = 2 ∨ k1.toInt = 3 by omega) with h9 | h9 | h9 | h9
  · rw [if_pos h9]
    have ek1 : k1 = nI 0 := q_eq.mpr (by rw [h9]; exact (nI_toInt (show 0 < 2147483648 by omega)).symm)
    subst ek1
    exact tz_rd h0 (by omega) hM
  · rw [if_neg (show ¬ k1.toInt = 0 by omega), if_pos h9]
    have ek1 : k1 = nI 1 := q_eq.mpr (by rw [h9]; exact (nI_toInt (show 1 < 2147483648 by omega)).symm)
    subst ek1
    exact tz_rd h1 (by omega) hM
  · rw [if_neg (show ¬ k1.toInt = 0 by omega), if_neg (show ¬ k1.toInt = 1 by omega), if_pos h9]
    have ek1 : k1 = nI 2 := q_eq.mpr (by rw [h9]; exact (nI_toInt (show 2 < 2147483648 by omega)).symm)
    subst ek1
    exact tz_rd h2 (by omega) hM
  · rw [if_neg (show ¬ k1.toInt = 0 by omega), if_neg (show ¬ k1.toInt = 1 by omega), if_neg (show ¬ k1.toInt = 2 by omega)]
    have ek1 : k1 = nI 3 := q_eq.mpr (by rw [h9]; exact (nI_toInt (show 3 < 2147483648 by omega)).symm)
    subst ek1
    exact tz_rd h3 (by omega) hM
theorem tz_writeA {s0 m0 : Int32} {R0 : Nat → Int64} {s1 m1 : Int32} {R1 : Nat → Int64} {s2 m2 : Int32} {R2 : Nat → Int64} {s3 m3 : Int32} {R3 : Nat → Int64} {gs gm : Nat → Int32} {N : Nat → Int64} {k1 k2 : Int32} {l1 : Int64} (h0 : qTy s0 m0 R0 0 gs gm N) (h1 : qTy s1 m1 R1 1 gs gm N) (h2 : qTy s2 m2 R2 2 gs gm N) (h3 : qTy s3 m3 R3 3 gs gm N) (hM : zRg 4 (-1) 60 gm) : qTy s0 m0 (F_X_write s0 m0 R0 s1 m1 R1 s2 m2 R2 s3 m3 R3 k1 k2 l1).2.1 0 gs gm (F_r_write gs gm N k1 k2 l1).2 ∧ qTy s1 m1 (F_X_write s0 m0 R0 s1 m1 R1 s2 m2 R2 s3 m3 R3 k1 k2 l1).2.2.1 1 gs gm (F_r_write gs gm N k1 k2 l1).2 ∧ qTy s2 m2 (F_X_write s0 m0 R0 s1 m1 R1 s2 m2 R2 s3 m3 R3 k1 k2 l1).2.2.2.1 2 gs gm (F_r_write gs gm N k1 k2 l1).2 ∧ qTy s3 m3 (F_X_write s0 m0 R0 s1 m1 R1 s2 m2 R2 s3 m3 R3 k1 k2 l1).2.2.2.2 3 gs gm (F_r_write gs gm N k1 k2 l1).2 := by
  rw [F_X_write_s]
  by_cases c : (k1.toInt < 0 ∨ 4 ≤ k1.toInt)
  · rw [if_pos c, F_r_write_s]
    simp only [tz_po c, ↓reduceIte]
    exact ⟨h0, h1, h2, h3⟩
  rw [if_neg c]
  rcases (show k1.toInt = 0 ∨ k1.toInt = 1 ∨ k1.toInt = 2 ∨ k1.toInt = 3 by omega) with h9 | h9 | h9 | h9
  · rw [if_pos h9]
    have ek1 : k1 = nI 0 := q_eq.mpr (by rw [h9]; exact (nI_toInt (show 0 < 2147483648 by omega)).symm)
    subst ek1
    by_cases d : 0 ≤ k2.toInt ∧ k2.toInt < m0.toInt
    · obtain ⟨w1, w2, a, v, a1, w3, w4⟩ := tz_w1 (l := l1) h0 (by omega) hM d
      simp only [w1, w2, w3, w4, q_n1, ↓reduceIte]
      exact ⟨qTy_w h0, qTy_o h1 hM (by omega) (by omega) a1, qTy_o h2 hM (by omega) (by omega) a1, qTy_o h3 hM (by omega) (by omega) a1⟩
    · obtain ⟨w1, w2⟩ := tz_w0 (l := l1) h0 (by omega) d
      simp only [w1, w2, ite_self, ↓reduceIte]
      exact ⟨h0, h1, h2, h3⟩
  · rw [if_neg (show ¬ k1.toInt = 0 by omega), if_pos h9]
    have ek1 : k1 = nI 1 := q_eq.mpr (by rw [h9]; exact (nI_toInt (show 1 < 2147483648 by omega)).symm)
    subst ek1
    by_cases d : 0 ≤ k2.toInt ∧ k2.toInt < m1.toInt
    · obtain ⟨w1, w2, a, v, a1, w3, w4⟩ := tz_w1 (l := l1) h1 (by omega) hM d
      simp only [w1, w2, w3, w4, q_n1, ↓reduceIte]
      exact ⟨qTy_o h0 hM (by omega) (by omega) a1, qTy_w h1, qTy_o h2 hM (by omega) (by omega) a1, qTy_o h3 hM (by omega) (by omega) a1⟩
    · obtain ⟨w1, w2⟩ := tz_w0 (l := l1) h1 (by omega) d
      simp only [w1, w2, ite_self, ↓reduceIte]
      exact ⟨h0, h1, h2, h3⟩
  · rw [if_neg (show ¬ k1.toInt = 0 by omega), if_neg (show ¬ k1.toInt = 1 by omega), if_pos h9]
    have ek1 : k1 = nI 2 := q_eq.mpr (by rw [h9]; exact (nI_toInt (show 2 < 2147483648 by omega)).symm)
    subst ek1
    by_cases d : 0 ≤ k2.toInt ∧ k2.toInt < m2.toInt
    · obtain ⟨w1, w2, a, v, a1, w3, w4⟩ := tz_w1 (l := l1) h2 (by omega) hM d
      simp only [w1, w2, w3, w4, q_n1, ↓reduceIte]
      exact ⟨qTy_o h0 hM (by omega) (by omega) a1, qTy_o h1 hM (by omega) (by omega) a1, qTy_w h2, qTy_o h3 hM (by omega) (by omega) a1⟩
    · obtain ⟨w1, w2⟩ := tz_w0 (l := l1) h2 (by omega) d
      simp only [w1, w2, ite_self, ↓reduceIte]
      exact ⟨h0, h1, h2, h3⟩
  · rw [if_neg (show ¬ k1.toInt = 0 by omega), if_neg (show ¬ k1.toInt = 1 by omega), if_neg (show ¬ k1.toInt = 2 by omega)]
    have ek1 : k1 = nI 3 := q_eq.mpr (by rw [h9]; exact (nI_toInt (show 3 < 2147483648 by omega)).symm)
    subst ek1
    by_cases d : 0 ≤ k2.toInt ∧ k2.toInt < m3.toInt
    · obtain ⟨w1, w2, a, v, a1, w3, w4⟩ := tz_w1 (l := l1) h3 (by omega) hM d
      simp only [w1, w2, w3, w4, q_n1, ↓reduceIte]
      exact ⟨qTy_o h0 hM (by omega) (by omega) a1, qTy_o h1 hM (by omega) (by omega) a1, qTy_o h2 hM (by omega) (by omega) a1, qTy_w h3⟩
    · obtain ⟨w1, w2⟩ := tz_w0 (l := l1) h3 (by omega) d
      simp only [w1, w2, ite_self, ↓reduceIte]
      exact ⟨h0, h1, h2, h3⟩
theorem tz_trayA {s0 m0 : Int32} {R0 : Nat → Int64} {s1 m1 : Int32} {R1 : Nat → Int64} {s2 m2 : Int32} {R2 : Nat → Int64} {s3 m3 : Int32} {R3 : Nat → Int64} {gs gm : Nat → Int32} {N : Nat → Int64} {k1 k2 k3 : Int32} (h0 : qTy s0 m0 R0 0 gs gm N) (h1 : qTy s1 m1 R1 1 gs gm N) (h2 : qTy s2 m2 R2 2 gs gm N) (h3 : qTy s3 m3 R3 3 gs gm N) (hM : zRg 4 (-1) 60 gm) : qTy (F_X_tray s0 m0 R0 s1 m1 R1 s2 m2 R2 s3 m3 R3 k1 k2 k3).2.1 (F_X_tray s0 m0 R0 s1 m1 R1 s2 m2 R2 s3 m3 R3 k1 k2 k3).2.2.1 (F_X_tray s0 m0 R0 s1 m1 R1 s2 m2 R2 s3 m3 R3 k1 k2 k3).2.2.2.1 0 (F_r_tray gs gm N k1 k2 k3).2.1 (F_r_tray gs gm N k1 k2 k3).2.2.1 (F_r_tray gs gm N k1 k2 k3).2.2.2 ∧ qTy (F_X_tray s0 m0 R0 s1 m1 R1 s2 m2 R2 s3 m3 R3 k1 k2 k3).2.2.2.2.1 (F_X_tray s0 m0 R0 s1 m1 R1 s2 m2 R2 s3 m3 R3 k1 k2 k3).2.2.2.2.2.1 (F_X_tray s0 m0 R0 s1 m1 R1 s2 m2 R2 s3 m3 R3 k1 k2 k3).2.2.2.2.2.2.1 1 (F_r_tray gs gm N k1 k2 k3).2.1 (F_r_tray gs gm N k1 k2 k3).2.2.1 (F_r_tray gs gm N k1 k2 k3).2.2.2 ∧ qTy (F_X_tray s0 m0 R0 s1 m1 R1 s2 m2 R2 s3 m3 R3 k1 k2 k3).2.2.2.2.2.2.2.1 (F_X_tray s0 m0 R0 s1 m1 R1 s2 m2 R2 s3 m3 R3 k1 k2 k3).2.2.2.2.2.2.2.2.1 (F_X_tray s0 m0 R0 s1 m1 R1 s2 m2 R2 s3 m3 R3 k1 k2 k3).2.2.2.2.2.2.2.2.2.1 2 (F_r_tray gs gm N k1 k2 k3).2.1 (F_r_tray gs gm N k1 k2 k3).2.2.1 (F_r_tray gs gm N k1 k2 k3).2.2.2 ∧ qTy (F_X_tray s0 m0 R0 s1 m1 R1 s2 m2 R2 s3 m3 R3 k1 k2 k3).2.2.2.2.2.2.2.2.2.2.1 (F_X_tray s0 m0 R0 s1 m1 R1 s2 m2 R2 s3 m3 R3 k1 k2 k3).2.2.2.2.2.2.2.2.2.2.2.1 (F_X_tray s0 m0 R0 s1 m1 R1 s2 m2 R2 s3 m3 R3 k1 k2 k3).2.2.2.2.2.2.2.2.2.2.2.2 3 (F_r_tray gs gm N k1 k2 k3).2.1 (F_r_tray gs gm N k1 k2 k3).2.2.1 (F_r_tray gs gm N k1 k2 k3).2.2.2 := by
  rw [F_X_tray_s]
  by_cases c : (k1.toInt < 0 ∨ 4 ≤ k1.toInt)
  · rw [if_pos c, tz_tr0 (fun h => by omega)]
    exact ⟨h0, h1, h2, h3⟩
  rw [if_neg c]
  rcases (show k1.toInt = 0 ∨ k1.toInt = 1 ∨ k1.toInt = 2 ∨ k1.toInt = 3 by omega) with h9 | h9 | h9 | h9
  · rw [if_pos h9]
    have ek1 : k1 = nI 0 := q_eq.mpr (by rw [h9]; exact (nI_toInt (show 0 < 2147483648 by omega)).symm)
    subst ek1
    by_cases d : (0 ≤ k2.toInt ∧ k2.toInt ≤ 3) ∧ k3.toInt ≤ 60 ∧ 0 ≤ k3.toInt
    · obtain ⟨n, rfl, n1, -⟩ := q_nat (k := k3) (m := 61) ⟨d.2.2, by omega⟩ (by omega)
      obtain ⟨N9, w1, w2, w3⟩ := tz_tr (t := 0) (n := n) (k := k2) (gs := gs) (gm := gm) (N := N) (by omega) d.1 (by omega)
      simp only [w1, show ¬ k2 < 0 from q_nlt.mpr (by rw [q0]; exact d.1.1), show k2 ≤ 3 from q_le.mpr (by rw [show (3 : Int32).toInt = 3 by decide +kernel]; exact d.1.2), show nI n ≤ 60 from q_le.mpr (by rw [show (60 : Int32).toInt = 60 by decide +kernel]; exact d.2.1), show (0 : Int32) ≤ nI n from q_le.mpr (by rw [q0]; exact d.2.2), F_Tr_fresh_s, ↓reduceIte]
      exact ⟨qTy_t (by omega) w2, qTy_u h1 hM (by omega) (by omega) (show n ≤ 60 by omega) w3, qTy_u h2 hM (by omega) (by omega) (show n ≤ 60 by omega) w3, qTy_u h3 hM (by omega) (by omega) (show n ≤ 60 by omega) w3⟩
    · rw [tz_tr0 (fun h => d h.2), tz_ct _ _ d]
      exact ⟨h0, h1, h2, h3⟩
  · rw [if_neg (show ¬ k1.toInt = 0 by omega), if_pos h9]
    have ek1 : k1 = nI 1 := q_eq.mpr (by rw [h9]; exact (nI_toInt (show 1 < 2147483648 by omega)).symm)
    subst ek1
    by_cases d : (0 ≤ k2.toInt ∧ k2.toInt ≤ 3) ∧ k3.toInt ≤ 60 ∧ 0 ≤ k3.toInt
    · obtain ⟨n, rfl, n1, -⟩ := q_nat (k := k3) (m := 61) ⟨d.2.2, by omega⟩ (by omega)
      obtain ⟨N9, w1, w2, w3⟩ := tz_tr (t := 1) (n := n) (k := k2) (gs := gs) (gm := gm) (N := N) (by omega) d.1 (by omega)
      simp only [w1, show ¬ k2 < 0 from q_nlt.mpr (by rw [q0]; exact d.1.1), show k2 ≤ 3 from q_le.mpr (by rw [show (3 : Int32).toInt = 3 by decide +kernel]; exact d.1.2), show nI n ≤ 60 from q_le.mpr (by rw [show (60 : Int32).toInt = 60 by decide +kernel]; exact d.2.1), show (0 : Int32) ≤ nI n from q_le.mpr (by rw [q0]; exact d.2.2), F_Tr_fresh_s, ↓reduceIte]
      exact ⟨qTy_u h0 hM (by omega) (by omega) (show n ≤ 60 by omega) w3, qTy_t (by omega) w2, qTy_u h2 hM (by omega) (by omega) (show n ≤ 60 by omega) w3, qTy_u h3 hM (by omega) (by omega) (show n ≤ 60 by omega) w3⟩
    · rw [tz_tr0 (fun h => d h.2), tz_ct _ _ d]
      exact ⟨h0, h1, h2, h3⟩
  · rw [if_neg (show ¬ k1.toInt = 0 by omega), if_neg (show ¬ k1.toInt = 1 by omega), if_pos h9]
    have ek1 : k1 = nI 2 := q_eq.mpr (by rw [h9]; exact (nI_toInt (show 2 < 2147483648 by omega)).symm)
    subst ek1
    by_cases d : (0 ≤ k2.toInt ∧ k2.toInt ≤ 3) ∧ k3.toInt ≤ 60 ∧ 0 ≤ k3.toInt
    · obtain ⟨n, rfl, n1, -⟩ := q_nat (k := k3) (m := 61) ⟨d.2.2, by omega⟩ (by omega)
      obtain ⟨N9, w1, w2, w3⟩ := tz_tr (t := 2) (n := n) (k := k2) (gs := gs) (gm := gm) (N := N) (by omega) d.1 (by omega)
      simp only [w1, show ¬ k2 < 0 from q_nlt.mpr (by rw [q0]; exact d.1.1), show k2 ≤ 3 from q_le.mpr (by rw [show (3 : Int32).toInt = 3 by decide +kernel]; exact d.1.2), show nI n ≤ 60 from q_le.mpr (by rw [show (60 : Int32).toInt = 60 by decide +kernel]; exact d.2.1), show (0 : Int32) ≤ nI n from q_le.mpr (by rw [q0]; exact d.2.2), F_Tr_fresh_s, ↓reduceIte]
      exact ⟨qTy_u h0 hM (by omega) (by omega) (show n ≤ 60 by omega) w3, qTy_u h1 hM (by omega) (by omega) (show n ≤ 60 by omega) w3, qTy_t (by omega) w2, qTy_u h3 hM (by omega) (by omega) (show n ≤ 60 by omega) w3⟩
    · rw [tz_tr0 (fun h => d h.2), tz_ct _ _ d]
      exact ⟨h0, h1, h2, h3⟩
  · rw [if_neg (show ¬ k1.toInt = 0 by omega), if_neg (show ¬ k1.toInt = 1 by omega), if_neg (show ¬ k1.toInt = 2 by omega)]
    have ek1 : k1 = nI 3 := q_eq.mpr (by rw [h9]; exact (nI_toInt (show 3 < 2147483648 by omega)).symm)
    subst ek1
    by_cases d : (0 ≤ k2.toInt ∧ k2.toInt ≤ 3) ∧ k3.toInt ≤ 60 ∧ 0 ≤ k3.toInt
    · obtain ⟨n, rfl, n1, -⟩ := q_nat (k := k3) (m := 61) ⟨d.2.2, by omega⟩ (by omega)
      obtain ⟨N9, w1, w2, w3⟩ := tz_tr (t := 3) (n := n) (k := k2) (gs := gs) (gm := gm) (N := N) (by omega) d.1 (by omega)
      simp only [w1, show ¬ k2 < 0 from q_nlt.mpr (by rw [q0]; exact d.1.1), show k2 ≤ 3 from q_le.mpr (by rw [show (3 : Int32).toInt = 3 by decide +kernel]; exact d.1.2), show nI n ≤ 60 from q_le.mpr (by rw [show (60 : Int32).toInt = 60 by decide +kernel]; exact d.2.1), show (0 : Int32) ≤ nI n from q_le.mpr (by rw [q0]; exact d.2.2), F_Tr_fresh_s, ↓reduceIte]
      exact ⟨qTy_u h0 hM (by omega) (by omega) (show n ≤ 60 by omega) w3, qTy_u h1 hM (by omega) (by omega) (show n ≤ 60 by omega) w3, qTy_u h2 hM (by omega) (by omega) (show n ≤ 60 by omega) w3, qTy_t (by omega) w2⟩
    · rw [tz_tr0 (fun h => d h.2), tz_ct _ _ d]
      exact ⟨h0, h1, h2, h3⟩
theorem tz_pourA {s0 m0 : Int32} {R0 : Nat → Int64} {s1 m1 : Int32} {R1 : Nat → Int64} {s2 m2 : Int32} {R2 : Nat → Int64} {s3 m3 : Int32} {R3 : Nat → Int64} {gs gm : Nat → Int32} {N : Nat → Int64} {k1 k2 k3 k4 k5 : Int32} (h0 : qTy s0 m0 R0 0 gs gm N) (h1 : qTy s1 m1 R1 1 gs gm N) (h2 : qTy s2 m2 R2 2 gs gm N) (h3 : qTy s3 m3 R3 3 gs gm N) (hM : zRg 4 (-1) 60 gm) : qTy s0 m0 (F_X_pour s0 m0 R0 s1 m1 R1 s2 m2 R2 s3 m3 R3 k1 k2 k3 k4 k5).2.1 0 gs gm (F_r_pour gs gm N k1 k2 k3 k4 k5).2 ∧ qTy s1 m1 (F_X_pour s0 m0 R0 s1 m1 R1 s2 m2 R2 s3 m3 R3 k1 k2 k3 k4 k5).2.2.1 1 gs gm (F_r_pour gs gm N k1 k2 k3 k4 k5).2 ∧ qTy s2 m2 (F_X_pour s0 m0 R0 s1 m1 R1 s2 m2 R2 s3 m3 R3 k1 k2 k3 k4 k5).2.2.2.1 2 gs gm (F_r_pour gs gm N k1 k2 k3 k4 k5).2 ∧ qTy s3 m3 (F_X_pour s0 m0 R0 s1 m1 R1 s2 m2 R2 s3 m3 R3 k1 k2 k3 k4 k5).2.2.2.2 3 gs gm (F_r_pour gs gm N k1 k2 k3 k4 k5).2 := by
  have b0 : -1 ≤ m0.toInt ∧ m0.toInt ≤ 60 := by rw [h0.2.1]; exact tz_rg hM (by omega)
  have b1 : -1 ≤ m1.toInt ∧ m1.toInt ≤ 60 := by rw [h1.2.1]; exact tz_rg hM (by omega)
  have b2 : -1 ≤ m2.toInt ∧ m2.toInt ≤ 60 := by rw [h2.2.1]; exact tz_rg hM (by omega)
  have b3 : -1 ≤ m3.toInt ∧ m3.toInt ≤ 60 := by rw [h3.2.1]; exact tz_rg hM (by omega)
  rw [F_X_pour_s]
  by_cases c : (k1.toInt < 0 ∨ 4 ≤ k1.toInt)
  · rw [if_pos c, tz_prO (Or.inl c)]
    simp only [ite_self]
    exact ⟨h0, h1, h2, h3⟩
  rw [if_neg c]
  rcases (show k1.toInt = 0 ∨ k1.toInt = 1 ∨ k1.toInt = 2 ∨ k1.toInt = 3 by omega) with h9 | h9 | h9 | h9
  · rw [if_pos h9]
    have ek1 : k1 = nI 0 := q_eq.mpr (by rw [h9]; exact (nI_toInt (show 0 < 2147483648 by omega)).symm)
    subst ek1
    by_cases c3 : (k3.toInt < 0 ∨ 4 ≤ k3.toInt)
    · rw [if_pos c3, tz_prO (Or.inr c3)]
      exact ⟨h0, h1, h2, h3⟩
    rw [if_neg c3]
    rcases (show k3.toInt = 0 ∨ k3.toInt = 1 ∨ k3.toInt = 2 ∨ k3.toInt = 3 by omega) with h9 | h9 | h9 | h9
    · rw [if_pos h9]
      have ek3 : k3 = nI 0 := q_eq.mpr (by rw [h9]; exact (nI_toInt (show 0 < 2147483648 by omega)).symm)
      subst ek3
      by_cases ok : qOk s0 m0 s0 m0 k2 k4 k5
      · have hN := tz_pr1 (t := 0) (u := 0) (gs := gs) (gm := gm) (i := k2) (j := k4) (n := k5) (N := N) (by omega) (by omega) hM (by rw [← h0.1, ← h0.2.1]; exact ok)
        obtain ⟨w1, w2, w3, w4, w5, w6, w7⟩ := tz_cp (R1 := R0) (R2 := R0) b0 b0 ok
        have w8 := tz_cps (R1 := R0) b0 ok
        simp only [w1, w4, w5, w6, w8, q_n1, ↓reduceIte]
        exact ⟨qTy_p h0 h0 (by rw [← h0.1, ← h0.2.1]; exact ok) hN, qTy_q (t := 0) h1 hM (by omega) (show 0 < 4 by omega) (by omega) (by rw [← h0.1, ← h0.2.1]; exact ok) hN, qTy_q (t := 0) h2 hM (by omega) (show 0 < 4 by omega) (by omega) (by rw [← h0.1, ← h0.2.1]; exact ok) hN, qTy_q (t := 0) h3 hM (by omega) (show 0 < 4 by omega) (by omega) (by rw [← h0.1, ← h0.2.1]; exact ok) hN⟩
      · rw [tz_pr0 (t := 0) (u := 0) (gs := gs) (gm := gm) (i := k2) (j := k4) (n := k5) (N := N) (by omega) (by omega) (by rw [← h0.1, ← h0.2.1]; exact ok)]
        have hz := tz_noS (α := Int32 × (Nat → Int64) × (Nat → Int64) × (Nat → Int64) × (Nat → Int64)) (s1 := s0) (m1 := m0) ((0 : Int32), R0, R1, R2, R3) ((1 : Int32), F_Tr_copyFrom_same m0 R0 k2 k4 k5, R1, R2, R3) b0 ok
        simp only [hz]
        exact ⟨h0, h1, h2, h3⟩
    · rw [if_neg (show ¬ k3.toInt = 0 by omega), if_pos h9]
      have ek3 : k3 = nI 1 := q_eq.mpr (by rw [h9]; exact (nI_toInt (show 1 < 2147483648 by omega)).symm)
      subst ek3
      by_cases ok : qOk s0 m0 s1 m1 k2 k4 k5
      · have hN := tz_pr1 (t := 0) (u := 1) (gs := gs) (gm := gm) (i := k2) (j := k4) (n := k5) (N := N) (by omega) (by omega) hM (by rw [← h0.1, ← h0.2.1, ← h1.1, ← h1.2.1]; exact ok)
        obtain ⟨w1, w2, w3, w4, w5, w6, w7⟩ := tz_cp (R1 := R0) (R2 := R1) b0 b1 ok
        simp only [w1, w2, eq_true w3, w4, w5, w6, w7, q_n1, ↓reduceIte]
        exact ⟨qTy_q (t := 0) h0 hM (by omega) (show 1 < 4 by omega) (by omega) (by rw [← h0.1, ← h0.2.1, ← h1.1, ← h1.2.1]; exact ok) hN, qTy_p h0 h1 (by rw [← h0.1, ← h0.2.1, ← h1.1, ← h1.2.1]; exact ok) hN, qTy_q (t := 0) h2 hM (by omega) (show 1 < 4 by omega) (by omega) (by rw [← h0.1, ← h0.2.1, ← h1.1, ← h1.2.1]; exact ok) hN, qTy_q (t := 0) h3 hM (by omega) (show 1 < 4 by omega) (by omega) (by rw [← h0.1, ← h0.2.1, ← h1.1, ← h1.2.1]; exact ok) hN⟩
      · rw [tz_pr0 (t := 0) (u := 1) (gs := gs) (gm := gm) (i := k2) (j := k4) (n := k5) (N := N) (by omega) (by omega) (by rw [← h0.1, ← h0.2.1, ← h1.1, ← h1.2.1]; exact ok)]
        have hz := tz_no (α := Int32 × (Nat → Int64) × (Nat → Int64) × (Nat → Int64) × (Nat → Int64)) (s1 := s0) (m1 := m0) (s2 := s1) (m2 := m1) ((0 : Int32), R0, R1, R2, R3) ((1 : Int32), R0, F_Tr_copyFrom m1 R1 m0 R0 k2 k4 k5, R2, R3) b0 b1 ok
        simp only [hz]
        exact ⟨h0, h1, h2, h3⟩
    · rw [if_neg (show ¬ k3.toInt = 0 by omega), if_neg (show ¬ k3.toInt = 1 by omega), if_pos h9]
      have ek3 : k3 = nI 2 := q_eq.mpr (by rw [h9]; exact (nI_toInt (show 2 < 2147483648 by omega)).symm)
      subst ek3
      by_cases ok : qOk s0 m0 s2 m2 k2 k4 k5
      · have hN := tz_pr1 (t := 0) (u := 2) (gs := gs) (gm := gm) (i := k2) (j := k4) (n := k5) (N := N) (by omega) (by omega) hM (by rw [← h0.1, ← h0.2.1, ← h2.1, ← h2.2.1]; exact ok)
        obtain ⟨w1, w2, w3, w4, w5, w6, w7⟩ := tz_cp (R1 := R0) (R2 := R2) b0 b2 ok
        simp only [w1, w2, eq_true w3, w4, w5, w6, w7, q_n1, ↓reduceIte]
        exact ⟨qTy_q (t := 0) h0 hM (by omega) (show 2 < 4 by omega) (by omega) (by rw [← h0.1, ← h0.2.1, ← h2.1, ← h2.2.1]; exact ok) hN, qTy_q (t := 0) h1 hM (by omega) (show 2 < 4 by omega) (by omega) (by rw [← h0.1, ← h0.2.1, ← h2.1, ← h2.2.1]; exact ok) hN, qTy_p h0 h2 (by rw [← h0.1, ← h0.2.1, ← h2.1, ← h2.2.1]; exact ok) hN, qTy_q (t := 0) h3 hM (by omega) (show 2 < 4 by omega) (by omega) (by rw [← h0.1, ← h0.2.1, ← h2.1, ← h2.2.1]; exact ok) hN⟩
      · rw [tz_pr0 (t := 0) (u := 2) (gs := gs) (gm := gm) (i := k2) (j := k4) (n := k5) (N := N) (by omega) (by omega) (by rw [← h0.1, ← h0.2.1, ← h2.1, ← h2.2.1]; exact ok)]
        have hz := tz_no (α := Int32 × (Nat → Int64) × (Nat → Int64) × (Nat → Int64) × (Nat → Int64)) (s1 := s0) (m1 := m0) (s2 := s2) (m2 := m2) ((0 : Int32), R0, R1, R2, R3) ((1 : Int32), R0, R1, F_Tr_copyFrom m2 R2 m0 R0 k2 k4 k5, R3) b0 b2 ok
        simp only [hz]
        exact ⟨h0, h1, h2, h3⟩
    · rw [if_neg (show ¬ k3.toInt = 0 by omega), if_neg (show ¬ k3.toInt = 1 by omega), if_neg (show ¬ k3.toInt = 2 by omega)]
      have ek3 : k3 = nI 3 := q_eq.mpr (by rw [h9]; exact (nI_toInt (show 3 < 2147483648 by omega)).symm)
      subst ek3
      by_cases ok : qOk s0 m0 s3 m3 k2 k4 k5
      · have hN := tz_pr1 (t := 0) (u := 3) (gs := gs) (gm := gm) (i := k2) (j := k4) (n := k5) (N := N) (by omega) (by omega) hM (by rw [← h0.1, ← h0.2.1, ← h3.1, ← h3.2.1]; exact ok)
        obtain ⟨w1, w2, w3, w4, w5, w6, w7⟩ := tz_cp (R1 := R0) (R2 := R3) b0 b3 ok
        simp only [w1, w2, eq_true w3, w4, w5, w6, w7, q_n1, ↓reduceIte]
        exact ⟨qTy_q (t := 0) h0 hM (by omega) (show 3 < 4 by omega) (by omega) (by rw [← h0.1, ← h0.2.1, ← h3.1, ← h3.2.1]; exact ok) hN, qTy_q (t := 0) h1 hM (by omega) (show 3 < 4 by omega) (by omega) (by rw [← h0.1, ← h0.2.1, ← h3.1, ← h3.2.1]; exact ok) hN, qTy_q (t := 0) h2 hM (by omega) (show 3 < 4 by omega) (by omega) (by rw [← h0.1, ← h0.2.1, ← h3.1, ← h3.2.1]; exact ok) hN, qTy_p h0 h3 (by rw [← h0.1, ← h0.2.1, ← h3.1, ← h3.2.1]; exact ok) hN⟩
      · rw [tz_pr0 (t := 0) (u := 3) (gs := gs) (gm := gm) (i := k2) (j := k4) (n := k5) (N := N) (by omega) (by omega) (by rw [← h0.1, ← h0.2.1, ← h3.1, ← h3.2.1]; exact ok)]
        have hz := tz_no (α := Int32 × (Nat → Int64) × (Nat → Int64) × (Nat → Int64) × (Nat → Int64)) (s1 := s0) (m1 := m0) (s2 := s3) (m2 := m3) ((0 : Int32), R0, R1, R2, R3) ((1 : Int32), R0, R1, R2, F_Tr_copyFrom m3 R3 m0 R0 k2 k4 k5) b0 b3 ok
        simp only [hz]
        exact ⟨h0, h1, h2, h3⟩
  · rw [if_neg (show ¬ k1.toInt = 0 by omega), if_pos h9]
    have ek1 : k1 = nI 1 := q_eq.mpr (by rw [h9]; exact (nI_toInt (show 1 < 2147483648 by omega)).symm)
    subst ek1
    by_cases c3 : (k3.toInt < 0 ∨ 4 ≤ k3.toInt)
    · rw [if_pos c3, tz_prO (Or.inr c3)]
      exact ⟨h0, h1, h2, h3⟩
    rw [if_neg c3]
    rcases (show k3.toInt = 0 ∨ k3.toInt = 1 ∨ k3.toInt = 2 ∨ k3.toInt = 3 by omega) with h9 | h9 | h9 | h9
    · rw [if_pos h9]
      have ek3 : k3 = nI 0 := q_eq.mpr (by rw [h9]; exact (nI_toInt (show 0 < 2147483648 by omega)).symm)
      subst ek3
      by_cases ok : qOk s1 m1 s0 m0 k2 k4 k5
      · have hN := tz_pr1 (t := 1) (u := 0) (gs := gs) (gm := gm) (i := k2) (j := k4) (n := k5) (N := N) (by omega) (by omega) hM (by rw [← h1.1, ← h1.2.1, ← h0.1, ← h0.2.1]; exact ok)
        obtain ⟨w1, w2, w3, w4, w5, w6, w7⟩ := tz_cp (R1 := R1) (R2 := R0) b1 b0 ok
        simp only [w1, w2, eq_true w3, w4, w5, w6, w7, q_n1, ↓reduceIte]
        exact ⟨qTy_p h1 h0 (by rw [← h1.1, ← h1.2.1, ← h0.1, ← h0.2.1]; exact ok) hN, qTy_q (t := 1) h1 hM (by omega) (show 0 < 4 by omega) (by omega) (by rw [← h1.1, ← h1.2.1, ← h0.1, ← h0.2.1]; exact ok) hN, qTy_q (t := 1) h2 hM (by omega) (show 0 < 4 by omega) (by omega) (by rw [← h1.1, ← h1.2.1, ← h0.1, ← h0.2.1]; exact ok) hN, qTy_q (t := 1) h3 hM (by omega) (show 0 < 4 by omega) (by omega) (by rw [← h1.1, ← h1.2.1, ← h0.1, ← h0.2.1]; exact ok) hN⟩
      · rw [tz_pr0 (t := 1) (u := 0) (gs := gs) (gm := gm) (i := k2) (j := k4) (n := k5) (N := N) (by omega) (by omega) (by rw [← h1.1, ← h1.2.1, ← h0.1, ← h0.2.1]; exact ok)]
        have hz := tz_no (α := Int32 × (Nat → Int64) × (Nat → Int64) × (Nat → Int64) × (Nat → Int64)) (s1 := s1) (m1 := m1) (s2 := s0) (m2 := m0) ((0 : Int32), R0, R1, R2, R3) ((1 : Int32), F_Tr_copyFrom m0 R0 m1 R1 k2 k4 k5, R1, R2, R3) b1 b0 ok
        simp only [hz]
        exact ⟨h0, h1, h2, h3⟩
    · rw [if_neg (show ¬ k3.toInt = 0 by omega), if_pos h9]
      have ek3 : k3 = nI 1 := q_eq.mpr (by rw [h9]; exact (nI_toInt (show 1 < 2147483648 by omega)).symm)
      subst ek3
      by_cases ok : qOk s1 m1 s1 m1 k2 k4 k5
      · have hN := tz_pr1 (t := 1) (u := 1) (gs := gs) (gm := gm) (i := k2) (j := k4) (n := k5) (N := N) (by omega) (by omega) hM (by rw [← h1.1, ← h1.2.1]; exact ok)
        obtain ⟨w1, w2, w3, w4, w5, w6, w7⟩ := tz_cp (R1 := R1) (R2 := R1) b1 b1 ok
        have w8 := tz_cps (R1 := R1) b1 ok
        simp only [w1, w4, w5, w6, w8, q_n1, ↓reduceIte]
        exact ⟨qTy_q (t := 1) h0 hM (by omega) (show 1 < 4 by omega) (by omega) (by rw [← h1.1, ← h1.2.1]; exact ok) hN, qTy_p h1 h1 (by rw [← h1.1, ← h1.2.1]; exact ok) hN, qTy_q (t := 1) h2 hM (by omega) (show 1 < 4 by omega) (by omega) (by rw [← h1.1, ← h1.2.1]; exact ok) hN, qTy_q (t := 1) h3 hM (by omega) (show 1 < 4 by omega) (by omega) (by rw [← h1.1, ← h1.2.1]; exact ok) hN⟩
      · rw [tz_pr0 (t := 1) (u := 1) (gs := gs) (gm := gm) (i := k2) (j := k4) (n := k5) (N := N) (by omega) (by omega) (by rw [← h1.1, ← h1.2.1]; exact ok)]
        have hz := tz_noS (α := Int32 × (Nat → Int64) × (Nat → Int64) × (Nat → Int64) × (Nat → Int64)) (s1 := s1) (m1 := m1) ((0 : Int32), R0, R1, R2, R3) ((1 : Int32), R0, F_Tr_copyFrom_same m1 R1 k2 k4 k5, R2, R3) b1 ok
        simp only [hz]
        exact ⟨h0, h1, h2, h3⟩
    · rw [if_neg (show ¬ k3.toInt = 0 by omega), if_neg (show ¬ k3.toInt = 1 by omega), if_pos h9]
      have ek3 : k3 = nI 2 := q_eq.mpr (by rw [h9]; exact (nI_toInt (show 2 < 2147483648 by omega)).symm)
      subst ek3
      by_cases ok : qOk s1 m1 s2 m2 k2 k4 k5
      · have hN := tz_pr1 (t := 1) (u := 2) (gs := gs) (gm := gm) (i := k2) (j := k4) (n := k5) (N := N) (by omega) (by omega) hM (by rw [← h1.1, ← h1.2.1, ← h2.1, ← h2.2.1]; exact ok)
        obtain ⟨w1, w2, w3, w4, w5, w6, w7⟩ := tz_cp (R1 := R1) (R2 := R2) b1 b2 ok
        simp only [w1, w2, eq_true w3, w4, w5, w6, w7, q_n1, ↓reduceIte]
        exact ⟨qTy_q (t := 1) h0 hM (by omega) (show 2 < 4 by omega) (by omega) (by rw [← h1.1, ← h1.2.1, ← h2.1, ← h2.2.1]; exact ok) hN, qTy_q (t := 1) h1 hM (by omega) (show 2 < 4 by omega) (by omega) (by rw [← h1.1, ← h1.2.1, ← h2.1, ← h2.2.1]; exact ok) hN, qTy_p h1 h2 (by rw [← h1.1, ← h1.2.1, ← h2.1, ← h2.2.1]; exact ok) hN, qTy_q (t := 1) h3 hM (by omega) (show 2 < 4 by omega) (by omega) (by rw [← h1.1, ← h1.2.1, ← h2.1, ← h2.2.1]; exact ok) hN⟩
      · rw [tz_pr0 (t := 1) (u := 2) (gs := gs) (gm := gm) (i := k2) (j := k4) (n := k5) (N := N) (by omega) (by omega) (by rw [← h1.1, ← h1.2.1, ← h2.1, ← h2.2.1]; exact ok)]
        have hz := tz_no (α := Int32 × (Nat → Int64) × (Nat → Int64) × (Nat → Int64) × (Nat → Int64)) (s1 := s1) (m1 := m1) (s2 := s2) (m2 := m2) ((0 : Int32), R0, R1, R2, R3) ((1 : Int32), R0, R1, F_Tr_copyFrom m2 R2 m1 R1 k2 k4 k5, R3) b1 b2 ok
        simp only [hz]
        exact ⟨h0, h1, h2, h3⟩
    · rw [if_neg (show ¬ k3.toInt = 0 by omega), if_neg (show ¬ k3.toInt = 1 by omega), if_neg (show ¬ k3.toInt = 2 by omega)]
      have ek3 : k3 = nI 3 := q_eq.mpr (by rw [h9]; exact (nI_toInt (show 3 < 2147483648 by omega)).symm)
      subst ek3
      by_cases ok : qOk s1 m1 s3 m3 k2 k4 k5
      · have hN := tz_pr1 (t := 1) (u := 3) (gs := gs) (gm := gm) (i := k2) (j := k4) (n := k5) (N := N) (by omega) (by omega) hM (by rw [← h1.1, ← h1.2.1, ← h3.1, ← h3.2.1]; exact ok)
        obtain ⟨w1, w2, w3, w4, w5, w6, w7⟩ := tz_cp (R1 := R1) (R2 := R3) b1 b3 ok
        simp only [w1, w2, eq_true w3, w4, w5, w6, w7, q_n1, ↓reduceIte]
        exact ⟨qTy_q (t := 1) h0 hM (by omega) (show 3 < 4 by omega) (by omega) (by rw [← h1.1, ← h1.2.1, ← h3.1, ← h3.2.1]; exact ok) hN, qTy_q (t := 1) h1 hM (by omega) (show 3 < 4 by omega) (by omega) (by rw [← h1.1, ← h1.2.1, ← h3.1, ← h3.2.1]; exact ok) hN, qTy_q (t := 1) h2 hM (by omega) (show 3 < 4 by omega) (by omega) (by rw [← h1.1, ← h1.2.1, ← h3.1, ← h3.2.1]; exact ok) hN, qTy_p h1 h3 (by rw [← h1.1, ← h1.2.1, ← h3.1, ← h3.2.1]; exact ok) hN⟩
      · rw [tz_pr0 (t := 1) (u := 3) (gs := gs) (gm := gm) (i := k2) (j := k4) (n := k5) (N := N) (by omega) (by omega) (by rw [← h1.1, ← h1.2.1, ← h3.1, ← h3.2.1]; exact ok)]
        have hz := tz_no (α := Int32 × (Nat → Int64) × (Nat → Int64) × (Nat → Int64) × (Nat → Int64)) (s1 := s1) (m1 := m1) (s2 := s3) (m2 := m3) ((0 : Int32), R0, R1, R2, R3) ((1 : Int32), R0, R1, R2, F_Tr_copyFrom m3 R3 m1 R1 k2 k4 k5) b1 b3 ok
        simp only [hz]
        exact ⟨h0, h1, h2, h3⟩
  · rw [if_neg (show ¬ k1.toInt = 0 by omega), if_neg (show ¬ k1.toInt = 1 by omega), if_pos h9]
    have ek1 : k1 = nI 2 := q_eq.mpr (by rw [h9]; exact (nI_toInt (show 2 < 2147483648 by omega)).symm)
    subst ek1
    by_cases c3 : (k3.toInt < 0 ∨ 4 ≤ k3.toInt)
    · rw [if_pos c3, tz_prO (Or.inr c3)]
      exact ⟨h0, h1, h2, h3⟩
    rw [if_neg c3]
    rcases (show k3.toInt = 0 ∨ k3.toInt = 1 ∨ k3.toInt = 2 ∨ k3.toInt = 3 by omega) with h9 | h9 | h9 | h9
    · rw [if_pos h9]
      have ek3 : k3 = nI 0 := q_eq.mpr (by rw [h9]; exact (nI_toInt (show 0 < 2147483648 by omega)).symm)
      subst ek3
      by_cases ok : qOk s2 m2 s0 m0 k2 k4 k5
      · have hN := tz_pr1 (t := 2) (u := 0) (gs := gs) (gm := gm) (i := k2) (j := k4) (n := k5) (N := N) (by omega) (by omega) hM (by rw [← h2.1, ← h2.2.1, ← h0.1, ← h0.2.1]; exact ok)
        obtain ⟨w1, w2, w3, w4, w5, w6, w7⟩ := tz_cp (R1 := R2) (R2 := R0) b2 b0 ok
        simp only [w1, w2, eq_true w3, w4, w5, w6, w7, q_n1, ↓reduceIte]
        exact ⟨qTy_p h2 h0 (by rw [← h2.1, ← h2.2.1, ← h0.1, ← h0.2.1]; exact ok) hN, qTy_q (t := 2) h1 hM (by omega) (show 0 < 4 by omega) (by omega) (by rw [← h2.1, ← h2.2.1, ← h0.1, ← h0.2.1]; exact ok) hN, qTy_q (t := 2) h2 hM (by omega) (show 0 < 4 by omega) (by omega) (by rw [← h2.1, ← h2.2.1, ← h0.1, ← h0.2.1]; exact ok) hN, qTy_q (t := 2) h3 hM (by omega) (show 0 < 4 by omega) (by omega) (by rw [← h2.1, ← h2.2.1, ← h0.1, ← h0.2.1]; exact ok) hN⟩
      · rw [tz_pr0 (t := 2) (u := 0) (gs := gs) (gm := gm) (i := k2) (j := k4) (n := k5) (N := N) (by omega) (by omega) (by rw [← h2.1, ← h2.2.1, ← h0.1, ← h0.2.1]; exact ok)]
        have hz := tz_no (α := Int32 × (Nat → Int64) × (Nat → Int64) × (Nat → Int64) × (Nat → Int64)) (s1 := s2) (m1 := m2) (s2 := s0) (m2 := m0) ((0 : Int32), R0, R1, R2, R3) ((1 : Int32), F_Tr_copyFrom m0 R0 m2 R2 k2 k4 k5, R1, R2, R3) b2 b0 ok
        simp only [hz]
        exact ⟨h0, h1, h2, h3⟩
    · rw [if_neg (show ¬ k3.toInt = 0 by omega), if_pos h9]
      have ek3 : k3 = nI 1 := q_eq.mpr (by rw [h9]; exact (nI_toInt (show 1 < 2147483648 by omega)).symm)
      subst ek3
      by_cases ok : qOk s2 m2 s1 m1 k2 k4 k5
      · have hN := tz_pr1 (t := 2) (u := 1) (gs := gs) (gm := gm) (i := k2) (j := k4) (n := k5) (N := N) (by omega) (by omega) hM (by rw [← h2.1, ← h2.2.1, ← h1.1, ← h1.2.1]; exact ok)
        obtain ⟨w1, w2, w3, w4, w5, w6, w7⟩ := tz_cp (R1 := R2) (R2 := R1) b2 b1 ok
        simp only [w1, w2, eq_true w3, w4, w5, w6, w7, q_n1, ↓reduceIte]
        exact ⟨qTy_q (t := 2) h0 hM (by omega) (show 1 < 4 by omega) (by omega) (by rw [← h2.1, ← h2.2.1, ← h1.1, ← h1.2.1]; exact ok) hN, qTy_p h2 h1 (by rw [← h2.1, ← h2.2.1, ← h1.1, ← h1.2.1]; exact ok) hN, qTy_q (t := 2) h2 hM (by omega) (show 1 < 4 by omega) (by omega) (by rw [← h2.1, ← h2.2.1, ← h1.1, ← h1.2.1]; exact ok) hN, qTy_q (t := 2) h3 hM (by omega) (show 1 < 4 by omega) (by omega) (by rw [← h2.1, ← h2.2.1, ← h1.1, ← h1.2.1]; exact ok) hN⟩
      · rw [tz_pr0 (t := 2) (u := 1) (gs := gs) (gm := gm) (i := k2) (j := k4) (n := k5) (N := N) (by omega) (by omega) (by rw [← h2.1, ← h2.2.1, ← h1.1, ← h1.2.1]; exact ok)]
        have hz := tz_no (α := Int32 × (Nat → Int64) × (Nat → Int64) × (Nat → Int64) × (Nat → Int64)) (s1 := s2) (m1 := m2) (s2 := s1) (m2 := m1) ((0 : Int32), R0, R1, R2, R3) ((1 : Int32), R0, F_Tr_copyFrom m1 R1 m2 R2 k2 k4 k5, R2, R3) b2 b1 ok
        simp only [hz]
        exact ⟨h0, h1, h2, h3⟩
    · rw [if_neg (show ¬ k3.toInt = 0 by omega), if_neg (show ¬ k3.toInt = 1 by omega), if_pos h9]
      have ek3 : k3 = nI 2 := q_eq.mpr (by rw [h9]; exact (nI_toInt (show 2 < 2147483648 by omega)).symm)
      subst ek3
      by_cases ok : qOk s2 m2 s2 m2 k2 k4 k5
      · have hN := tz_pr1 (t := 2) (u := 2) (gs := gs) (gm := gm) (i := k2) (j := k4) (n := k5) (N := N) (by omega) (by omega) hM (by rw [← h2.1, ← h2.2.1]; exact ok)
        obtain ⟨w1, w2, w3, w4, w5, w6, w7⟩ := tz_cp (R1 := R2) (R2 := R2) b2 b2 ok
        have w8 := tz_cps (R1 := R2) b2 ok
        simp only [w1, w4, w5, w6, w8, q_n1, ↓reduceIte]
        exact ⟨qTy_q (t := 2) h0 hM (by omega) (show 2 < 4 by omega) (by omega) (by rw [← h2.1, ← h2.2.1]; exact ok) hN, qTy_q (t := 2) h1 hM (by omega) (show 2 < 4 by omega) (by omega) (by rw [← h2.1, ← h2.2.1]; exact ok) hN, qTy_p h2 h2 (by rw [← h2.1, ← h2.2.1]; exact ok) hN, qTy_q (t := 2) h3 hM (by omega) (show 2 < 4 by omega) (by omega) (by rw [← h2.1, ← h2.2.1]; exact ok) hN⟩
      · rw [tz_pr0 (t := 2) (u := 2) (gs := gs) (gm := gm) (i := k2) (j := k4) (n := k5) (N := N) (by omega) (by omega) (by rw [← h2.1, ← h2.2.1]; exact ok)]
        have hz := tz_noS (α := Int32 × (Nat → Int64) × (Nat → Int64) × (Nat → Int64) × (Nat → Int64)) (s1 := s2) (m1 := m2) ((0 : Int32), R0, R1, R2, R3) ((1 : Int32), R0, R1, F_Tr_copyFrom_same m2 R2 k2 k4 k5, R3) b2 ok
        simp only [hz]
        exact ⟨h0, h1, h2, h3⟩
    · rw [if_neg (show ¬ k3.toInt = 0 by omega), if_neg (show ¬ k3.toInt = 1 by omega), if_neg (show ¬ k3.toInt = 2 by omega)]
      have ek3 : k3 = nI 3 := q_eq.mpr (by rw [h9]; exact (nI_toInt (show 3 < 2147483648 by omega)).symm)
      subst ek3
      by_cases ok : qOk s2 m2 s3 m3 k2 k4 k5
      · have hN := tz_pr1 (t := 2) (u := 3) (gs := gs) (gm := gm) (i := k2) (j := k4) (n := k5) (N := N) (by omega) (by omega) hM (by rw [← h2.1, ← h2.2.1, ← h3.1, ← h3.2.1]; exact ok)
        obtain ⟨w1, w2, w3, w4, w5, w6, w7⟩ := tz_cp (R1 := R2) (R2 := R3) b2 b3 ok
        simp only [w1, w2, eq_true w3, w4, w5, w6, w7, q_n1, ↓reduceIte]
        exact ⟨qTy_q (t := 2) h0 hM (by omega) (show 3 < 4 by omega) (by omega) (by rw [← h2.1, ← h2.2.1, ← h3.1, ← h3.2.1]; exact ok) hN, qTy_q (t := 2) h1 hM (by omega) (show 3 < 4 by omega) (by omega) (by rw [← h2.1, ← h2.2.1, ← h3.1, ← h3.2.1]; exact ok) hN, qTy_q (t := 2) h2 hM (by omega) (show 3 < 4 by omega) (by omega) (by rw [← h2.1, ← h2.2.1, ← h3.1, ← h3.2.1]; exact ok) hN, qTy_p h2 h3 (by rw [← h2.1, ← h2.2.1, ← h3.1, ← h3.2.1]; exact ok) hN⟩
      · rw [tz_pr0 (t := 2) (u := 3) (gs := gs) (gm := gm) (i := k2) (j := k4) (n := k5) (N := N) (by omega) (by omega) (by rw [← h2.1, ← h2.2.1, ← h3.1, ← h3.2.1]; exact ok)]
        have hz := tz_no (α := Int32 × (Nat → Int64) × (Nat → Int64) × (Nat → Int64) × (Nat → Int64)) (s1 := s2) (m1 := m2) (s2 := s3) (m2 := m3) ((0 : Int32), R0, R1, R2, R3) ((1 : Int32), R0, R1, R2, F_Tr_copyFrom m3 R3 m2 R2 k2 k4 k5) b2 b3 ok
        simp only [hz]
        exact ⟨h0, h1, h2, h3⟩
  · rw [if_neg (show ¬ k1.toInt = 0 by omega), if_neg (show ¬ k1.toInt = 1 by omega), if_neg (show ¬ k1.toInt = 2 by omega)]
    have ek1 : k1 = nI 3 := q_eq.mpr (by rw [h9]; exact (nI_toInt (show 3 < 2147483648 by omega)).symm)
    subst ek1
    by_cases c3 : (k3.toInt < 0 ∨ 4 ≤ k3.toInt)
    · rw [if_pos c3, tz_prO (Or.inr c3)]
      exact ⟨h0, h1, h2, h3⟩
    rw [if_neg c3]
    rcases (show k3.toInt = 0 ∨ k3.toInt = 1 ∨ k3.toInt = 2 ∨ k3.toInt = 3 by omega) with h9 | h9 | h9 | h9
    · rw [if_pos h9]
      have ek3 : k3 = nI 0 := q_eq.mpr (by rw [h9]; exact (nI_toInt (show 0 < 2147483648 by omega)).symm)
      subst ek3
      by_cases ok : qOk s3 m3 s0 m0 k2 k4 k5
      · have hN := tz_pr1 (t := 3) (u := 0) (gs := gs) (gm := gm) (i := k2) (j := k4) (n := k5) (N := N) (by omega) (by omega) hM (by rw [← h3.1, ← h3.2.1, ← h0.1, ← h0.2.1]; exact ok)
        obtain ⟨w1, w2, w3, w4, w5, w6, w7⟩ := tz_cp (R1 := R3) (R2 := R0) b3 b0 ok
        simp only [w1, w2, eq_true w3, w4, w5, w6, w7, q_n1, ↓reduceIte]
        exact ⟨qTy_p h3 h0 (by rw [← h3.1, ← h3.2.1, ← h0.1, ← h0.2.1]; exact ok) hN, qTy_q (t := 3) h1 hM (by omega) (show 0 < 4 by omega) (by omega) (by rw [← h3.1, ← h3.2.1, ← h0.1, ← h0.2.1]; exact ok) hN, qTy_q (t := 3) h2 hM (by omega) (show 0 < 4 by omega) (by omega) (by rw [← h3.1, ← h3.2.1, ← h0.1, ← h0.2.1]; exact ok) hN, qTy_q (t := 3) h3 hM (by omega) (show 0 < 4 by omega) (by omega) (by rw [← h3.1, ← h3.2.1, ← h0.1, ← h0.2.1]; exact ok) hN⟩
      · rw [tz_pr0 (t := 3) (u := 0) (gs := gs) (gm := gm) (i := k2) (j := k4) (n := k5) (N := N) (by omega) (by omega) (by rw [← h3.1, ← h3.2.1, ← h0.1, ← h0.2.1]; exact ok)]
        have hz := tz_no (α := Int32 × (Nat → Int64) × (Nat → Int64) × (Nat → Int64) × (Nat → Int64)) (s1 := s3) (m1 := m3) (s2 := s0) (m2 := m0) ((0 : Int32), R0, R1, R2, R3) ((1 : Int32), F_Tr_copyFrom m0 R0 m3 R3 k2 k4 k5, R1, R2, R3) b3 b0 ok
        simp only [hz]
        exact ⟨h0, h1, h2, h3⟩
    · rw [if_neg (show ¬ k3.toInt = 0 by omega), if_pos h9]
      have ek3 : k3 = nI 1 := q_eq.mpr (by rw [h9]; exact (nI_toInt (show 1 < 2147483648 by omega)).symm)
      subst ek3
      by_cases ok : qOk s3 m3 s1 m1 k2 k4 k5
      · have hN := tz_pr1 (t := 3) (u := 1) (gs := gs) (gm := gm) (i := k2) (j := k4) (n := k5) (N := N) (by omega) (by omega) hM (by rw [← h3.1, ← h3.2.1, ← h1.1, ← h1.2.1]; exact ok)
        obtain ⟨w1, w2, w3, w4, w5, w6, w7⟩ := tz_cp (R1 := R3) (R2 := R1) b3 b1 ok
        simp only [w1, w2, eq_true w3, w4, w5, w6, w7, q_n1, ↓reduceIte]
        exact ⟨qTy_q (t := 3) h0 hM (by omega) (show 1 < 4 by omega) (by omega) (by rw [← h3.1, ← h3.2.1, ← h1.1, ← h1.2.1]; exact ok) hN, qTy_p h3 h1 (by rw [← h3.1, ← h3.2.1, ← h1.1, ← h1.2.1]; exact ok) hN, qTy_q (t := 3) h2 hM (by omega) (show 1 < 4 by omega) (by omega) (by rw [← h3.1, ← h3.2.1, ← h1.1, ← h1.2.1]; exact ok) hN, qTy_q (t := 3) h3 hM (by omega) (show 1 < 4 by omega) (by omega) (by rw [← h3.1, ← h3.2.1, ← h1.1, ← h1.2.1]; exact ok) hN⟩
      · rw [tz_pr0 (t := 3) (u := 1) (gs := gs) (gm := gm) (i := k2) (j := k4) (n := k5) (N := N) (by omega) (by omega) (by rw [← h3.1, ← h3.2.1, ← h1.1, ← h1.2.1]; exact ok)]
        have hz := tz_no (α := Int32 × (Nat → Int64) × (Nat → Int64) × (Nat → Int64) × (Nat → Int64)) (s1 := s3) (m1 := m3) (s2 := s1) (m2 := m1) ((0 : Int32), R0, R1, R2, R3) ((1 : Int32), R0, F_Tr_copyFrom m1 R1 m3 R3 k2 k4 k5, R2, R3) b3 b1 ok
        simp only [hz]
        exact ⟨h0, h1, h2, h3⟩
    · rw [if_neg (show ¬ k3.toInt = 0 by omega), if_neg (show ¬ k3.toInt = 1 by omega), if_pos h9]
      have ek3 : k3 = nI 2 := q_eq.mpr (by rw [h9]; exact (nI_toInt (show 2 < 2147483648 by omega)).symm)
      subst ek3
      by_cases ok : qOk s3 m3 s2 m2 k2 k4 k5
      · have hN := tz_pr1 (t := 3) (u := 2) (gs := gs) (gm := gm) (i := k2) (j := k4) (n := k5) (N := N) (by omega) (by omega) hM (by rw [← h3.1, ← h3.2.1, ← h2.1, ← h2.2.1]; exact ok)
        obtain ⟨w1, w2, w3, w4, w5, w6, w7⟩ := tz_cp (R1 := R3) (R2 := R2) b3 b2 ok
        simp only [w1, w2, eq_true w3, w4, w5, w6, w7, q_n1, ↓reduceIte]
        exact ⟨qTy_q (t := 3) h0 hM (by omega) (show 2 < 4 by omega) (by omega) (by rw [← h3.1, ← h3.2.1, ← h2.1, ← h2.2.1]; exact ok) hN, qTy_q (t := 3) h1 hM (by omega) (show 2 < 4 by omega) (by omega) (by rw [← h3.1, ← h3.2.1, ← h2.1, ← h2.2.1]; exact ok) hN, qTy_p h3 h2 (by rw [← h3.1, ← h3.2.1, ← h2.1, ← h2.2.1]; exact ok) hN, qTy_q (t := 3) h3 hM (by omega) (show 2 < 4 by omega) (by omega) (by rw [← h3.1, ← h3.2.1, ← h2.1, ← h2.2.1]; exact ok) hN⟩
      · rw [tz_pr0 (t := 3) (u := 2) (gs := gs) (gm := gm) (i := k2) (j := k4) (n := k5) (N := N) (by omega) (by omega) (by rw [← h3.1, ← h3.2.1, ← h2.1, ← h2.2.1]; exact ok)]
        have hz := tz_no (α := Int32 × (Nat → Int64) × (Nat → Int64) × (Nat → Int64) × (Nat → Int64)) (s1 := s3) (m1 := m3) (s2 := s2) (m2 := m2) ((0 : Int32), R0, R1, R2, R3) ((1 : Int32), R0, R1, F_Tr_copyFrom m2 R2 m3 R3 k2 k4 k5, R3) b3 b2 ok
        simp only [hz]
        exact ⟨h0, h1, h2, h3⟩
    · rw [if_neg (show ¬ k3.toInt = 0 by omega), if_neg (show ¬ k3.toInt = 1 by omega), if_neg (show ¬ k3.toInt = 2 by omega)]
      have ek3 : k3 = nI 3 := q_eq.mpr (by rw [h9]; exact (nI_toInt (show 3 < 2147483648 by omega)).symm)
      subst ek3
      by_cases ok : qOk s3 m3 s3 m3 k2 k4 k5
      · have hN := tz_pr1 (t := 3) (u := 3) (gs := gs) (gm := gm) (i := k2) (j := k4) (n := k5) (N := N) (by omega) (by omega) hM (by rw [← h3.1, ← h3.2.1]; exact ok)
        obtain ⟨w1, w2, w3, w4, w5, w6, w7⟩ := tz_cp (R1 := R3) (R2 := R3) b3 b3 ok
        have w8 := tz_cps (R1 := R3) b3 ok
        simp only [w1, w4, w5, w6, w8, q_n1, ↓reduceIte]
        exact ⟨qTy_q (t := 3) h0 hM (by omega) (show 3 < 4 by omega) (by omega) (by rw [← h3.1, ← h3.2.1]; exact ok) hN, qTy_q (t := 3) h1 hM (by omega) (show 3 < 4 by omega) (by omega) (by rw [← h3.1, ← h3.2.1]; exact ok) hN, qTy_q (t := 3) h2 hM (by omega) (show 3 < 4 by omega) (by omega) (by rw [← h3.1, ← h3.2.1]; exact ok) hN, qTy_p h3 h3 (by rw [← h3.1, ← h3.2.1]; exact ok) hN⟩
      · rw [tz_pr0 (t := 3) (u := 3) (gs := gs) (gm := gm) (i := k2) (j := k4) (n := k5) (N := N) (by omega) (by omega) (by rw [← h3.1, ← h3.2.1]; exact ok)]
        have hz := tz_noS (α := Int32 × (Nat → Int64) × (Nat → Int64) × (Nat → Int64) × (Nat → Int64)) (s1 := s3) (m1 := m3) ((0 : Int32), R0, R1, R2, R3) ((1 : Int32), R0, R1, R2, F_Tr_copyFrom_same m3 R3 k2 k4 k5) b3 ok
        simp only [hz]
        exact ⟨h0, h1, h2, h3⟩
