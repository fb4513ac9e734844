theorem q_m64b {x y : Int64} {a b : Nat} (hx : x.toInt = (a : Int)) (hy : y.toInt = (b : Int)) (h : a * b ≤ 4000000000000000000) : (x * y).toInt = ((a * b : Nat) : Int) := by
  have e : (a : Int) * (b : Int) = ((a * b : Nat) : Int) := (Int.natCast_mul a b).symm
  rw [← e]
  exact z_mulql rfl hx hy (by rw [e]; omega) (by rw [e]; omega)
def qRB (K : Nat → Int32) (n c Bc : Nat) (B : Option (Nat × List Nat)) (hb : Int32) (bt bb : Int64) (od : Nat → Int32) : Prop := match B with
  | none => hb = 0
  | some b => hb = 1 ∧ bt.toInt = ((c * b.1 : Nat) : Int) ∧ b.1 ≤ 100000000 ∧ bb.toInt = (Bc : Int) ∧ ∀ i : Nat, i < n → od i = K (b.2.getD i 0)
/-- what a judged order leaves -/
def qHJ (K : Nat → Int32) (n c Bc : Nat) (ms : List Nat → Nat) (how : Int32) (g : Nat → Int32) : Prop := ∀ (l : List Nat) (tr od t : Nat → Int32) (hb : Int32) (bt bb mt mb : Int64) (B : Option (Nat × List Nat)), l.length = n → (∀ i : Nat, i < n → l.getD i 0 < n) → (∀ i : Nat, i < n → tr i = K (l.getD i 0)) → l.Nodup → qRB K n c Bc B hb bt bb od → qRB K n c Bc (qStp ms B l) (F_r_judge (nI n) how (nI n) hb bt bb mt mb g t tr od).1 (F_r_judge (nI n) how (nI n) hb bt bb mt mb g t tr od).2.1 (F_r_judge (nI n) how (nI n) hb bt bb mt mb g t tr od).2.2.1 (F_r_judge (nI n) how (nI n) hb bt bb mt mb g t tr od).2.2.2.2.2.2
theorem q_ioL2 {bs : Nat → Int32} {k : Int32} {n : Nat} (hn : n ≤ 10) : ∀ (f i : Nat), (2147483647 - (nI i).toInt).toNat < f → i ≤ n → (F_r_isOrdered_L2a (nI n) bs k f (nI i) = 0 ↔ ∀ j : Nat, i ≤ j → j < n → ¬ bs j = k) := by
  intro f
  induction f with
  | zero => intro i hf; exact absurd hf (Nat.not_lt_zero _)
  | succ f ih =>
    intro i hf hi
    have e := nI_toInt (show i < 2147483648 by omega)
    have e2 := nI_toInt (show i + 1 < 2147483648 by omega)
    have en := nI_toInt (show n < 2147483648 by omega)
    rw [F_r_isOrdered_L2a_s]
    simp only [qnI_s, qnI_cl (show i < 2147483648 by omega)]
    by_cases c : i = n
    · subst c
      simp only [show nI i ≤ nI i from q_le.mpr (Int.le_refl _), ↓reduceIte]
      exact ⟨fun _ j h1 h2 => absurd h2 (by omega), fun _ => trivial⟩
    · simp only [show ¬ nI n ≤ nI i from q_nle.mpr (by rw [e, en]; omega), ↓reduceIte]
      by_cases d9 : bs i = k
      · simp only [d9, q_n1, false_iff, ↓reduceIte]
        exact fun h9 => h9 i (Nat.le_refl _) (by omega) d9
      · simp only [d9, ↓reduceIte]
        rw [ih (i + 1) (by omega) (by omega)]
        refine ⟨fun h9 j h1 h2 => ?_, fun h9 j h1 => h9 j (by omega)⟩
        by_cases ej : j = i
        · subst ej; exact d9
        · exact h9 j (by omega) h2
theorem q_iod {bs : Nat → Int32} {k : Int32} {n : Nat} (hn : n ≤ 10) : F_r_isOrdered (nI n) bs k = 0 ↔ ∀ j : Nat, j < n → ¬ bs j = k := by
  rw [F_r_isOrdered_s]
  exact (q_ioL2 hn ((2147483647 - (0 : Int32).toInt).toNat + 1) 0 (by show (2147483647 - (0 : Int32).toInt).toNat < _; omega) (by omega)).trans ⟨fun h9 j => h9 j (Nat.zero_le _), fun h9 j _ => h9 j⟩
theorem q_iuM {tr : Nat → Int32} {k : Int32} {n : Nat} (hn : n ≤ 10) : ∀ (f i : Nat), (2147483647 - (nI i).toInt).toNat < f → i ≤ n → (F_r_isUsed_L2a tr k (nI n) f (nI i) = 0 ↔ ∀ j : Nat, i ≤ j → j < n → ¬ tr j = k) := by
  intro f
  induction f with
  | zero => intro i hf; exact absurd hf (Nat.not_lt_zero _)
  | succ f ih =>
    intro i hf hi
    have e := nI_toInt (show i < 2147483648 by omega)
    have e2 := nI_toInt (show i + 1 < 2147483648 by omega)
    have en := nI_toInt (show n < 2147483648 by omega)
    rw [F_r_isUsed_L2a_s]
    simp only [qnI_s, qnI_cl (show i < 2147483648 by omega)]
    by_cases c : i = n
    · subst c
      simp only [show nI i ≤ nI i from q_le.mpr (Int.le_refl _), ↓reduceIte]
      exact ⟨fun _ j h1 h2 => absurd h2 (by omega), fun _ => trivial⟩
    · simp only [show ¬ nI n ≤ nI i from q_nle.mpr (by rw [e, en]; omega), ↓reduceIte]
      by_cases d9 : tr i = k
      · simp only [d9, q_n1, false_iff, ↓reduceIte]
        exact fun h9 => h9 i (Nat.le_refl _) (by omega) d9
      · simp only [d9, ↓reduceIte]
        rw [ih (i + 1) (by omega) (by omega)]
        refine ⟨fun h9 j h1 h2 => ?_, fun h9 j h1 => h9 j (by omega)⟩
        by_cases ej : j = i
        · subst ej; exact d9
        · exact h9 j (by omega) h2
theorem q_ius {tr : Nat → Int32} {k : Int32} {n : Nat} (hn : n ≤ 10) : F_r_isUsed tr k (nI n) = 0 ↔ ∀ j : Nat, j < n → ¬ tr j = k := by
  rw [F_r_isUsed_s]
  exact (q_iuM hn ((2147483647 - (0 : Int32).toInt).toNat + 1) 0 (by show (2147483647 - (0 : Int32).toInt).toNat < _; omega) (by omega)).trans ⟨fun h9 j => h9 j (Nat.zero_le _), fun h9 j _ => h9 j⟩
/-- KEYS of an order by number, those that are there -/
def qKs (K : Nat → Int32) (kp : Nat → Nat) (n D : Nat) (bs : Nat → Int32) : Prop := (∀ a : Nat, a < n → K a = nI (kp a) ∧ kp a < D) ∧ (∀ a b : Nat, a < b → b < n → kp a < kp b) ∧ ∀ x : Int32, (∃ a : Nat, a < n ∧ bs a = x) ↔ ∃ a : Nat, a < n ∧ K a = x
/-- so far tried -/
def qTP (K : Nat → Int32) (n : Nat) (p : List Nat) (tr : Nat → Int32) : Prop := (∀ i : Nat, i < p.length → p.getD i 0 < n) ∧ ∀ i : Nat, i < p.length → tr i = K (p.getD i 0)
theorem q_getA {p : List Nat} {j i : Nat} : (p ++ [j]).getD i 0 = if i < p.length then p.getD i 0 else if i = p.length then j else 0 := by
  rw [List.getD_eq_getElem?_getD, List.getElem?_append, List.getD_eq_getElem?_getD]
  by_cases c : i < p.length
  · rw [if_pos c, if_pos c]
  · rw [if_neg c, if_neg c]
    by_cases d : i = p.length
    · rw [if_pos d, d, Nat.sub_self]; rfl
    · rw [if_neg d, List.getElem?_eq_none (by rw [List.length_singleton]; omega)]; rfl
theorem qTP_a {K : Nat → Int32} {n j : Nat} {p : List Nat} {tr : Nat → Int32} (h : qTP K n p tr) (hj : j < n) : qTP K n (p ++ [j]) (upd tr p.length (K j)) := by
  refine ⟨fun i hi => ?_, fun i hi => ?_⟩
  · rw [List.length_append, List.length_singleton] at hi
    rw [q_getA]
    by_cases c : i < p.length
    · rw [if_pos c]; exact h.1 i c
    · rw [if_neg c, if_pos (by omega)]; exact hj
  · rw [List.length_append, List.length_singleton] at hi
    rw [q_getA]
    unfold upd
    by_cases c : i < p.length
    · rw [if_pos c, if_neg (by omega)]; exact h.2 i c
    · rw [if_neg c, if_pos (by omega), if_pos (by omega)]
theorem q_cnt {p : List Nat} {j : Nat} : p.contains j = true ↔ ∃ i : Nat, i < p.length ∧ p.getD i 0 = j := by
  rw [List.contains_iff_mem, List.mem_iff_getElem]
  constructor
  · rintro ⟨i, hi, e⟩
    exact ⟨i, hi, by rw [List.getD_eq_getElem?_getD, List.getElem?_eq_getElem hi]; exact e⟩
  · rintro ⟨i, hi, e⟩
    refine ⟨i, hi, ?_⟩
    rw [List.getD_eq_getElem?_getD, List.getElem?_eq_getElem hi] at e
    exact e
theorem q_ndA {p : List Nat} {j : Nat} (h : p.Nodup) (hn : ¬ p.contains j = true) : (p ++ [j]).Nodup := by
  refine List.nodup_append.mpr ⟨h, List.pairwise_singleton _ _, fun a ha b hb h9 => ?_⟩
  rw [List.mem_singleton] at hb
  subst hb
  subst h9
  exact hn (List.contains_iff_mem.mpr ha)
theorem q_drp {n j : Nat} (h : j < n) : (List.range n).drop j = j :: (List.range n).drop (j + 1) := by
  rw [List.drop_eq_getElem_cons (by rw [List.length_range]; exact h), List.getElem_range]
theorem q_of0 {K : Nat → Int32} {n c Bc : Nat} {ms : List Nat → Nat} {how : Int32} {g tr od t : Nat → Int32} {hb : Int32} {bt bb mt mb : Int64} {B : Option (Nat × List Nat)} {p : List Nat} (hJ : qHJ K n c Bc ms how g) (hp : p.length = n) (hN : p.Nodup) (hT : qTP K n p tr) (hB : qRB K n c Bc B hb bt bb od) : qRB K n c Bc ((uExt n 0 p).foldl (qStp ms) B) (F_r_orderFrom_0 (nI n) how (nI n) hb bt bb mt mb g t tr od).1 (F_r_orderFrom_0 (nI n) how (nI n) hb bt bb mt mb g t tr od).2.1 (F_r_orderFrom_0 (nI n) how (nI n) hb bt bb mt mb g t tr od).2.2.1 (F_r_orderFrom_0 (nI n) how (nI n) hb bt bb mt mb g t tr od).2.2.2.2.2.2 := by
  have h9 := hJ p tr od t hb bt bb mt mb B hp (fun i hi => hT.1 i (by omega)) (fun i hi => hT.2 i (by omega)) hN hB
  rw [F_r_orderFrom_0_s]
  exact h9
theorem q_ofL1 {K : Nat → Int32} {kp : Nat → Nat} {n D c Bc : Nat} {ms : List Nat → Nat} {how : Int32} {g bs : Nat → Int32} {p : List Nat} (hJ : qHJ K n c Bc ms how g) (hn : n ≤ 6) (hD : D ≤ 10) (hg : g 1 = nI D) (hk9 : qKs K kp n D bs) (hp : p.length + 1 = n) (hN : p.Nodup) : ∀ (f k j : Nat) (hb : Int32) (bt bb mt mb : Int64) (t tr od : Nat → Int32) (B : Option (Nat × List Nat)), (2147483647 - (nI k).toInt).toNat < f → k ≤ D → j ≤ n → (∀ a : Nat, a < j → kp a < k) → (∀ a : Nat, j ≤ a → a < n → k ≤ kp a) → qTP K n p tr → qRB K n c Bc B hb bt bb od → qRB K n c Bc ((((List.range n).drop j).flatMap (fun j => if p.contains j then [] else uExt n 0 (p ++ [j]))).foldl (qStp ms) B) (F_r_orderFrom_1_L15a (nI n) how (nI n) g bs (nI p.length) f (nI k) hb bt bb mt mb t tr od).1 (F_r_orderFrom_1_L15a (nI n) how (nI n) g bs (nI p.length) f (nI k) hb bt bb mt mb t tr od).2.1 (F_r_orderFrom_1_L15a (nI n) how (nI n) g bs (nI p.length) f (nI k) hb bt bb mt mb t tr od).2.2.1 (F_r_orderFrom_1_L15a (nI n) how (nI n) g bs (nI p.length) f (nI k) hb bt bb mt mb t tr od).2.2.2.2.2.2.2 ∧ qTP K n p (F_r_orderFrom_1_L15a (nI n) how (nI n) g bs (nI p.length) f (nI k) hb bt bb mt mb t tr od).2.2.2.2.2.2.1 := by
  intro f
  induction f with
  | zero => intro k j hb bt bb mt mb t tr od B hf; exact absurd hf (Nat.not_lt_zero _)
  | succ f ih =>
    intro k j hb bt bb mt mb t tr od B hf hk hjn m1 m2 hT hB
    have e := nI_toInt (show k < 2147483648 by omega)
    have e2 := nI_toInt (show k + 1 < 2147483648 by omega)
    have eD := nI_toInt (show D < 2147483648 by omega)
    have y1 : g (1 : Int32).toNatClampNeg = nI D := hg
    rw [F_r_orderFrom_1_L15a_s]
    simp only [y1, qnI_s]
    by_cases c9 : k = D
    · subst c9
      have hj : j = n := by
        rcases Nat.lt_or_ge j n with h9 | h9
        · have := m2 j (Nat.le_refl _) h9
          have := (hk9.1 j h9).2
          omega
        · omega
      subst hj
      simp only [show nI k ≤ nI k from q_le.mpr (Int.le_refl _), ↓reduceIte]
      rw [List.drop_of_length_le (by rw [List.length_range]; exact Nat.le_refl _)]
      exact ⟨hB, hT⟩
    · simp only [show ¬ nI D ≤ nI k from q_nle.mpr (by rw [e, eD]; omega), ↓reduceIte]
      have hio := q_iod (bs := bs) (k := nI k) (n := n) (by omega)
      by_cases hj : j < n ∧ kp j = k
      · obtain ⟨hj, hkk⟩ := hj
        have hkj : K j = nI k := by rw [(hk9.1 j hj).1, hkk]
        have h1 : ¬ F_r_isOrdered (nI n) bs (nI k) = 0 := fun h9 => by
          obtain ⟨a, a1, a2⟩ := (hk9.2.2 (nI k)).mpr ⟨j, hj, hkj⟩
          exact hio.mp h9 a a1 a2
        have n1 : ∀ a : Nat, a < j + 1 → kp a < k + 1 := fun a ha => by
          by_cases ea : a = j
          · subst ea; omega
          · have := m1 a (by omega); omega
        have n2 : ∀ a : Nat, j + 1 ≤ a → a < n → k + 1 ≤ kp a := fun a ha hb2 => by
          have := hk9.2.1 j a (by omega) hb2
          omega
        have hius := q_ius (tr := tr) (k := nI k) (n := p.length) (by omega)
        rw [q_drp hj, List.flatMap_cons, List.foldl_append]
        simp only [h1, ↓reduceIte]
        by_cases us : p.contains j = true
        · have h2 : ¬ F_r_isUsed tr (nI k) (nI p.length) = 0 := fun h9 => by
            obtain ⟨i, i1, i2⟩ := q_cnt.mp us
            exact hius.mp h9 i i1 (by rw [hT.2 i i1, i2, hkj])
          simp only [h2, us, ↓reduceIte]
          exact ih (k + 1) (j + 1) _ _ _ _ _ _ _ _ _ (by omega) (by omega) (by omega) n1 n2 hT hB
        · have h2 : F_r_isUsed tr (nI k) (nI p.length) = 0 := hius.mpr (fun i hi h9 => us (q_cnt.mpr ⟨i, hi, by
            rw [hT.2 i hi, (hk9.1 _ (hT.1 i hi)).1] at h9
            have h8 := congrArg Int32.toInt h9
            have h7 := (hk9.1 _ (hT.1 i hi)).2
            rw [nI_toInt (by omega), e] at h8
            rcases Nat.lt_trichotomy (p.getD i 0) j with h6 | h6 | h6
            · have := hk9.2.1 _ _ h6 hj; omega
            · exact h6
            · have := hk9.2.1 _ _ h6 (hT.1 i hi); omega⟩))
          have hlen : (p ++ [j]).length = p.length + 1 := by rw [List.length_append, List.length_singleton]
          simp only [h2, us, Bool.false_eq_true, qnI_cl (show p.length < 2147483648 by omega), ↓reduceIte]
          have h0 := q_of0 (mt := mt) (mb := mb) (t := t) hJ (p := p ++ [j]) (by rw [hlen]; omega) (q_ndA hN us) (qTP_a hT hj) hB
          have hK' : qTP K n p (upd tr p.length (nI k)) := ⟨hT.1, fun i hi => (show upd tr p.length (nI k) i = tr i from if_neg (by omega)).trans (hT.2 i hi)⟩
          rw [hkj] at h0
          exact ih (k + 1) (j + 1) _ _ _ _ _ _ _ _ _ (by omega) (by omega) (by omega) n1 n2 hK' h0
      · have h1 : F_r_isOrdered (nI n) bs (nI k) = 0 := hio.mpr (fun a ha h9 => by
          obtain ⟨b, b1, b2⟩ := (hk9.2.2 (nI k)).mp ⟨a, ha, h9⟩
          rw [(hk9.1 b b1).1] at b2
          have h8 := congrArg Int32.toInt b2
          have h7 := (hk9.1 b b1).2
          rw [nI_toInt (by omega), e] at h8
          have hbj : j ≤ b := by
            rcases Nat.lt_or_ge b j with h6 | h6
            · have := m1 b h6; omega
            · exact h6
          have hjn2 : j < n := by omega
          have := m2 j (Nat.le_refl _) hjn2
          rcases Nat.lt_or_ge j b with h6 | h6
          · have := hk9.2.1 j b h6 b1; omega
          · have : b = j := by omega
            subst this
            exact hj ⟨b1, by omega⟩)
        simp only [h1, ↓reduceIte]
        exact ih (k + 1) j _ _ _ _ _ _ _ _ _ (by omega) (by omega) hjn (fun a ha => by have := m1 a ha; omega) (fun a ha hb2 => by
          have h9 := m2 a ha hb2
          rcases Nat.lt_or_ge k (kp a) with h8 | h8
          · exact h8
          · have hka : kp a = k := by omega
            have := m2 j (Nat.le_refl _) (by omega)
            rcases Nat.lt_or_ge j a with h6 | h6
            · have := hk9.2.1 j a h6 hb2; omega
            · have : a = j := by omega
              subst this
              exact absurd ⟨hb2, hka⟩ hj) hT hB
theorem q_of1 {K : Nat → Int32} {kp : Nat → Nat} {n D c Bc : Nat} {ms : List Nat → Nat} {how : Int32} {g bs tr od t : Nat → Int32} {hb : Int32} {bt bb mt mb : Int64} {B : Option (Nat × List Nat)} (hJ : qHJ K n c Bc ms how g) (hn : n ≤ 6) (hD : D ≤ 10) (hg : g 1 = nI D) (hk9 : qKs K kp n D bs) {p : List Nat} (hp : p.length + 1 = n) (hN : p.Nodup) (hT : qTP K n p tr) (hB : qRB K n c Bc B hb bt bb od) : qRB K n c Bc ((uExt n 1 p).foldl (qStp ms) B) (F_r_orderFrom_1 (nI n) how (nI n) hb bt bb mt mb g t tr bs od (nI p.length)).1 (F_r_orderFrom_1 (nI n) how (nI n) hb bt bb mt mb g t tr bs od (nI p.length)).2.1 (F_r_orderFrom_1 (nI n) how (nI n) hb bt bb mt mb g t tr bs od (nI p.length)).2.2.1 (F_r_orderFrom_1 (nI n) how (nI n) hb bt bb mt mb g t tr bs od (nI p.length)).2.2.2.2.2.2.2 ∧ qTP K n p (F_r_orderFrom_1 (nI n) how (nI n) hb bt bb mt mb g t tr bs od (nI p.length)).2.2.2.2.2.2.1 := by
  rw [F_r_orderFrom_1_s]
  exact q_ofL1 hJ hn hD hg hk9 hp hN ((2147483647 - (0 : Int32).toInt).toNat + 1) 0 0 hb bt bb mt mb t tr od B (by show (2147483647 - (0 : Int32).toInt).toNat < _; omega) (by omega) (by omega) (fun a ha => absurd ha (Nat.not_lt_zero _)) (fun a _ _ => Nat.zero_le _) hT hB
theorem q_ofL2 {K : Nat → Int32} {kp : Nat → Nat} {n D c Bc : Nat} {ms : List Nat → Nat} {how : Int32} {g bs : Nat → Int32} {p : List Nat} (hJ : qHJ K n c Bc ms how g) (hn : n ≤ 6) (hD : D ≤ 10) (hg : g 1 = nI D) (hk9 : qKs K kp n D bs) (hp : p.length + 2 = n) (hN : p.Nodup) : ∀ (f k j : Nat) (hb : Int32) (bt bb mt mb : Int64) (t tr od : Nat → Int32) (B : Option (Nat × List Nat)), (2147483647 - (nI k).toInt).toNat < f → k ≤ D → j ≤ n → (∀ a : Nat, a < j → kp a < k) → (∀ a : Nat, j ≤ a → a < n → k ≤ kp a) → qTP K n p tr → qRB K n c Bc B hb bt bb od → qRB K n c Bc ((((List.range n).drop j).flatMap (fun j => if p.contains j then [] else uExt n 1 (p ++ [j]))).foldl (qStp ms) B) (F_r_orderFrom_2_L15a (nI n) how (nI n) g bs (nI p.length) f (nI k) hb bt bb mt mb t tr od).1 (F_r_orderFrom_2_L15a (nI n) how (nI n) g bs (nI p.length) f (nI k) hb bt bb mt mb t tr od).2.1 (F_r_orderFrom_2_L15a (nI n) how (nI n) g bs (nI p.length) f (nI k) hb bt bb mt mb t tr od).2.2.1 (F_r_orderFrom_2_L15a (nI n) how (nI n) g bs (nI p.length) f (nI k) hb bt bb mt mb t tr od).2.2.2.2.2.2.2 ∧ qTP K n p (F_r_orderFrom_2_L15a (nI n) how (nI n) g bs (nI p.length) f (nI k) hb bt bb mt mb t tr od).2.2.2.2.2.2.1 := by
  intro f
  induction f with
  | zero => intro k j hb bt bb mt mb t tr od B hf; exact absurd hf (Nat.not_lt_zero _)
  | succ f ih =>
    intro k j hb bt bb mt mb t tr od B hf hk hjn m1 m2 hT hB
    have e := nI_toInt (show k < 2147483648 by omega)
    have e2 := nI_toInt (show k + 1 < 2147483648 by omega)
    have eD := nI_toInt (show D < 2147483648 by omega)
    have y1 : g (1 : Int32).toNatClampNeg = nI D := hg
    rw [F_r_orderFrom_2_L15a_s]
    simp only [y1, qnI_s]
    by_cases c9 : k = D
    · subst c9
      have hj : j = n := by
        rcases Nat.lt_or_ge j n with h9 | h9
        · have := m2 j (Nat.le_refl _) h9
          have := (hk9.1 j h9).2
          omega
        · omega
      subst hj
      simp only [show nI k ≤ nI k from q_le.mpr (Int.le_refl _), ↓reduceIte]
      rw [List.drop_of_length_le (by rw [List.length_range]; exact Nat.le_refl _)]
      exact ⟨hB, hT⟩
    · simp only [show ¬ nI D ≤ nI k from q_nle.mpr (by rw [e, eD]; omega), ↓reduceIte]
      have hio := q_iod (bs := bs) (k := nI k) (n := n) (by omega)
      by_cases hj : j < n ∧ kp j = k
      · obtain ⟨hj, hkk⟩ := hj
        have hkj : K j = nI k := by rw [(hk9.1 j hj).1, hkk]
        have h1 : ¬ F_r_isOrdered (nI n) bs (nI k) = 0 := fun h9 => by
          obtain ⟨a, a1, a2⟩ := (hk9.2.2 (nI k)).mpr ⟨j, hj, hkj⟩
          exact hio.mp h9 a a1 a2
        have n1 : ∀ a : Nat, a < j + 1 → kp a < k + 1 := fun a ha => by
          by_cases ea : a = j
          · subst ea; omega
          · have := m1 a (by omega); omega
        have n2 : ∀ a : Nat, j + 1 ≤ a → a < n → k + 1 ≤ kp a := fun a ha hb2 => by
          have := hk9.2.1 j a (by omega) hb2
          omega
        have hius := q_ius (tr := tr) (k := nI k) (n := p.length) (by omega)
        rw [q_drp hj, List.flatMap_cons, List.foldl_append]
        simp only [h1, ↓reduceIte]
        by_cases us : p.contains j = true
        · have h2 : ¬ F_r_isUsed tr (nI k) (nI p.length) = 0 := fun h9 => by
            obtain ⟨i, i1, i2⟩ := q_cnt.mp us
            exact hius.mp h9 i i1 (by rw [hT.2 i i1, i2, hkj])
          simp only [h2, us, ↓reduceIte]
          exact ih (k + 1) (j + 1) _ _ _ _ _ _ _ _ _ (by omega) (by omega) (by omega) n1 n2 hT hB
        · have h2 : F_r_isUsed tr (nI k) (nI p.length) = 0 := hius.mpr (fun i hi h9 => us (q_cnt.mpr ⟨i, hi, by
            rw [hT.2 i hi, (hk9.1 _ (hT.1 i hi)).1] at h9
            have h8 := congrArg Int32.toInt h9
            have h7 := (hk9.1 _ (hT.1 i hi)).2
            rw [nI_toInt (by omega), e] at h8
            rcases Nat.lt_trichotomy (p.getD i 0) j with h6 | h6 | h6
            · have := hk9.2.1 _ _ h6 hj; omega
            · exact h6
            · have := hk9.2.1 _ _ h6 (hT.1 i hi); omega⟩))
          have hlen : (p ++ [j]).length = p.length + 1 := by rw [List.length_append, List.length_singleton]
          simp only [h2, us, Bool.false_eq_true, qnI_cl (show p.length < 2147483648 by omega), ↓reduceIte]
          have h0 := q_of1 (mt := mt) (mb := mb) (t := t) hJ hn hD hg hk9 (p := p ++ [j]) (by rw [hlen]; omega) (q_ndA hN us) (qTP_a hT hj) hB
          rw [hlen, hkj] at h0
          have hK' : qTP K n p (F_r_orderFrom_1 (nI n) how (nI n) hb bt bb mt mb g t (upd tr p.length (nI k)) bs od (nI (p.length + 1))).2.2.2.2.2.2.1 := by
            refine ⟨hT.1, fun i hi => ?_⟩
            have h9 := h0.2.2 i (by rw [hlen]; omega)
            rw [q_getA, if_pos hi] at h9
            exact h9
          exact ih (k + 1) (j + 1) _ _ _ _ _ _ _ _ _ (by omega) (by omega) (by omega) n1 n2 hK' h0.1
      · have h1 : F_r_isOrdered (nI n) bs (nI k) = 0 := hio.mpr (fun a ha h9 => by
          obtain ⟨b, b1, b2⟩ := (hk9.2.2 (nI k)).mp ⟨a, ha, h9⟩
          rw [(hk9.1 b b1).1] at b2
          have h8 := congrArg Int32.toInt b2
          have h7 := (hk9.1 b b1).2
          rw [nI_toInt (by omega), e] at h8
          have hbj : j ≤ b := by
            rcases Nat.lt_or_ge b j with h6 | h6
            · have := m1 b h6; omega
            · exact h6
          have hjn2 : j < n := by omega
          have := m2 j (Nat.le_refl _) hjn2
          rcases Nat.lt_or_ge j b with h6 | h6
          · have := hk9.2.1 j b h6 b1; omega
          · have : b = j := by omega
            subst this
            exact hj ⟨b1, by omega⟩)
        simp only [h1, ↓reduceIte]
        exact ih (k + 1) j _ _ _ _ _ _ _ _ _ (by omega) (by omega) hjn (fun a ha => by have := m1 a ha; omega) (fun a ha hb2 => by
          have h9 := m2 a ha hb2
          rcases Nat.lt_or_ge k (kp a) with h8 | h8
          · exact h8
          · have hka : kp a = k := by omega
            have := m2 j (Nat.le_refl _) (by omega)
            rcases Nat.lt_or_ge j a with h6 | h6
            · have := hk9.2.1 j a h6 hb2; omega
            · have : a = j := by omega
              subst this
              exact absurd ⟨hb2, hka⟩ hj) hT hB
theorem q_of2 {K : Nat → Int32} {kp : Nat → Nat} {n D c Bc : Nat} {ms : List Nat → Nat} {how : Int32} {g bs tr od t : Nat → Int32} {hb : Int32} {bt bb mt mb : Int64} {B : Option (Nat × List Nat)} (hJ : qHJ K n c Bc ms how g) (hn : n ≤ 6) (hD : D ≤ 10) (hg : g 1 = nI D) (hk9 : qKs K kp n D bs) {p : List Nat} (hp : p.length + 2 = n) (hN : p.Nodup) (hT : qTP K n p tr) (hB : qRB K n c Bc B hb bt bb od) : qRB K n c Bc ((uExt n 2 p).foldl (qStp ms) B) (F_r_orderFrom_2 (nI n) how (nI n) hb bt bb mt mb g t tr bs od (nI p.length)).1 (F_r_orderFrom_2 (nI n) how (nI n) hb bt bb mt mb g t tr bs od (nI p.length)).2.1 (F_r_orderFrom_2 (nI n) how (nI n) hb bt bb mt mb g t tr bs od (nI p.length)).2.2.1 (F_r_orderFrom_2 (nI n) how (nI n) hb bt bb mt mb g t tr bs od (nI p.length)).2.2.2.2.2.2.2 ∧ qTP K n p (F_r_orderFrom_2 (nI n) how (nI n) hb bt bb mt mb g t tr bs od (nI p.length)).2.2.2.2.2.2.1 := by
  rw [F_r_orderFrom_2_s]
  exact q_ofL2 hJ hn hD hg hk9 hp hN ((2147483647 - (0 : Int32).toInt).toNat + 1) 0 0 hb bt bb mt mb t tr od B (by show (2147483647 - (0 : Int32).toInt).toNat < _; omega) (by omega) (by omega) (fun a ha => absurd ha (Nat.not_lt_zero _)) (fun a _ _ => Nat.zero_le _) hT hB
theorem q_ofL3 {K : Nat → Int32} {kp : Nat → Nat} {n D c Bc : Nat} {ms : List Nat → Nat} {how : Int32} {g bs : Nat → Int32} {p : List Nat} (hJ : qHJ K n c Bc ms how g) (hn : n ≤ 6) (hD : D ≤ 10) (hg : g 1 = nI D) (hk9 : qKs K kp n D bs) (hp : p.length + 3 = n) (hN : p.Nodup) : ∀ (f k j : Nat) (hb : Int32) (bt bb mt mb : Int64) (t tr od : Nat → Int32) (B : Option (Nat × List Nat)), (2147483647 - (nI k).toInt).toNat < f → k ≤ D → j ≤ n → (∀ a : Nat, a < j → kp a < k) → (∀ a : Nat, j ≤ a → a < n → k ≤ kp a) → qTP K n p tr → qRB K n c Bc B hb bt bb od → qRB K n c Bc ((((List.range n).drop j).flatMap (fun j => if p.contains j then [] else uExt n 2 (p ++ [j]))).foldl (qStp ms) B) (F_r_orderFrom_3_L15a (nI n) how (nI n) g bs (nI p.length) f (nI k) hb bt bb mt mb t tr od).1 (F_r_orderFrom_3_L15a (nI n) how (nI n) g bs (nI p.length) f (nI k) hb bt bb mt mb t tr od).2.1 (F_r_orderFrom_3_L15a (nI n) how (nI n) g bs (nI p.length) f (nI k) hb bt bb mt mb t tr od).2.2.1 (F_r_orderFrom_3_L15a (nI n) how (nI n) g bs (nI p.length) f (nI k) hb bt bb mt mb t tr od).2.2.2.2.2.2.2 ∧ qTP K n p (F_r_orderFrom_3_L15a (nI n) how (nI n) g bs (nI p.length) f (nI k) hb bt bb mt mb t tr od).2.2.2.2.2.2.1 := by
  intro f
  induction f with
  | zero => intro k j hb bt bb mt mb t tr od B hf; exact absurd hf (Nat.not_lt_zero _)
  | succ f ih =>
    intro k j hb bt bb mt mb t tr od B hf hk hjn m1 m2 hT hB
    have e := nI_toInt (show k < 2147483648 by omega)
    have e2 := nI_toInt (show k + 1 < 2147483648 by omega)
    have eD := nI_toInt (show D < 2147483648 by omega)
    have y1 : g (1 : Int32).toNatClampNeg = nI D := hg
    rw [F_r_orderFrom_3_L15a_s]
    simp only [y1, qnI_s]
    by_cases c9 : k = D
    · subst c9
      have hj : j = n := by
        rcases Nat.lt_or_ge j n with h9 | h9
        · have := m2 j (Nat.le_refl _) h9
          have := (hk9.1 j h9).2
          omega
        · omega
      subst hj
      simp only [show nI k ≤ nI k from q_le.mpr (Int.le_refl _), ↓reduceIte]
      rw [List.drop_of_length_le (by rw [List.length_range]; exact Nat.le_refl _)]
      exact ⟨hB, hT⟩
    · simp only [show ¬ nI D ≤ nI k from q_nle.mpr (by rw [e, eD]; omega), ↓reduceIte]
      have hio := q_iod (bs := bs) (k := nI k) (n := n) (by omega)
      by_cases hj : j < n ∧ kp j = k
      · obtain ⟨hj, hkk⟩ := hj
        have hkj : K j = nI k := by rw [(hk9.1 j hj).1, hkk]
        have h1 : ¬ F_r_isOrdered (nI n) bs (nI k) = 0 := fun h9 => by
          obtain ⟨a, a1, a2⟩ := (hk9.2.2 (nI k)).mpr ⟨j, hj, hkj⟩
          exact hio.mp h9 a a1 a2
        have n1 : ∀ a : Nat, a < j + 1 → kp a < k + 1 := fun a ha => by
          by_cases ea : a = j
          · subst ea; omega
          · have := m1 a (by omega); omega
        have n2 : ∀ a : Nat, j + 1 ≤ a → a < n → k + 1 ≤ kp a := fun a ha hb2 => by
          have := hk9.2.1 j a (by omega) hb2
          omega
        have hius := q_ius (tr := tr) (k := nI k) (n := p.length) (by omega)
        rw [q_drp hj, List.flatMap_cons, List.foldl_append]
        simp only [h1, ↓reduceIte]
        by_cases us : p.contains j = true
        · have h2 : ¬ F_r_isUsed tr (nI k) (nI p.length) = 0 := fun h9 => by
            obtain ⟨i, i1, i2⟩ := q_cnt.mp us
            exact hius.mp h9 i i1 (by rw [hT.2 i i1, i2, hkj])
          simp only [h2, us, ↓reduceIte]
          exact ih (k + 1) (j + 1) _ _ _ _ _ _ _ _ _ (by omega) (by omega) (by omega) n1 n2 hT hB
        · have h2 : F_r_isUsed tr (nI k) (nI p.length) = 0 := hius.mpr (fun i hi h9 => us (q_cnt.mpr ⟨i, hi, by
            rw [hT.2 i hi, (hk9.1 _ (hT.1 i hi)).1] at h9
            have h8 := congrArg Int32.toInt h9
            have h7 := (hk9.1 _ (hT.1 i hi)).2
            rw [nI_toInt (by omega), e] at h8
            rcases Nat.lt_trichotomy (p.getD i 0) j with h6 | h6 | h6
            · have := hk9.2.1 _ _ h6 hj; omega
            · exact h6
            · have := hk9.2.1 _ _ h6 (hT.1 i hi); omega⟩))
          have hlen : (p ++ [j]).length = p.length + 1 := by rw [List.length_append, List.length_singleton]
          simp only [h2, us, Bool.false_eq_true, qnI_cl (show p.length < 2147483648 by omega), ↓reduceIte]
          have h0 := q_of2 (mt := mt) (mb := mb) (t := t) hJ hn hD hg hk9 (p := p ++ [j]) (by rw [hlen]; omega) (q_ndA hN us) (qTP_a hT hj) hB
          rw [hlen, hkj] at h0
          have hK' : qTP K n p (F_r_orderFrom_2 (nI n) how (nI n) hb bt bb mt mb g t (upd tr p.length (nI k)) bs od (nI (p.length + 1))).2.2.2.2.2.2.1 := by
            refine ⟨hT.1, fun i hi => ?_⟩
            have h9 := h0.2.2 i (by rw [hlen]; omega)
            rw [q_getA, if_pos hi] at h9
            exact h9
          exact ih (k + 1) (j + 1) _ _ _ _ _ _ _ _ _ (by omega) (by omega) (by omega) n1 n2 hK' h0.1
      · have h1 : F_r_isOrdered (nI n) bs (nI k) = 0 := hio.mpr (fun a ha h9 => by
          obtain ⟨b, b1, b2⟩ := (hk9.2.2 (nI k)).mp ⟨a, ha, h9⟩
          rw [(hk9.1 b b1).1] at b2
          have h8 := congrArg Int32.toInt b2
          have h7 := (hk9.1 b b1).2
          rw [nI_toInt (by omega), e] at h8
          have hbj : j ≤ b := by
            rcases Nat.lt_or_ge b j with h6 | h6
            · have := m1 b h6; omega
            · exact h6
          have hjn2 : j < n := by omega
          have := m2 j (Nat.le_refl _) hjn2
          rcases Nat.lt_or_ge j b with h6 | h6
          · have := hk9.2.1 j b h6 b1; omega
          · have : b = j := by omega
            subst this
            exact hj ⟨b1, by omega⟩)
        simp only [h1, ↓reduceIte]
        exact ih (k + 1) j _ _ _ _ _ _ _ _ _ (by omega) (by omega) hjn (fun a ha => by have := m1 a ha; omega) (fun a ha hb2 => by
          have h9 := m2 a ha hb2
          rcases Nat.lt_or_ge k (kp a) with h8 | h8
          · exact h8
          · have hka : kp a = k := by omega
            have := m2 j (Nat.le_refl _) (by omega)
            rcases Nat.lt_or_ge j a with h6 | h6
            · have := hk9.2.1 j a h6 hb2; omega
            · have : a = j := by omega
              subst this
              exact absurd ⟨hb2, hka⟩ hj) hT hB
theorem q_of3 {K : Nat → Int32} {kp : Nat → Nat} {n D c Bc : Nat} {ms : List Nat → Nat} {how : Int32} {g bs tr od t : Nat → Int32} {hb : Int32} {bt bb mt mb : Int64} {B : Option (Nat × List Nat)} (hJ : qHJ K n c Bc ms how g) (hn : n ≤ 6) (hD : D ≤ 10) (hg : g 1 = nI D) (hk9 : qKs K kp n D bs) {p : List Nat} (hp : p.length + 3 = n) (hN : p.Nodup) (hT : qTP K n p tr) (hB : qRB K n c Bc B hb bt bb od) : qRB K n c Bc ((uExt n 3 p).foldl (qStp ms) B) (F_r_orderFrom_3 (nI n) how (nI n) hb bt bb mt mb g t tr bs od (nI p.length)).1 (F_r_orderFrom_3 (nI n) how (nI n) hb bt bb mt mb g t tr bs od (nI p.length)).2.1 (F_r_orderFrom_3 (nI n) how (nI n) hb bt bb mt mb g t tr bs od (nI p.length)).2.2.1 (F_r_orderFrom_3 (nI n) how (nI n) hb bt bb mt mb g t tr bs od (nI p.length)).2.2.2.2.2.2.2 ∧ qTP K n p (F_r_orderFrom_3 (nI n) how (nI n) hb bt bb mt mb g t tr bs od (nI p.length)).2.2.2.2.2.2.1 := by
  rw [F_r_orderFrom_3_s]
  exact q_ofL3 hJ hn hD hg hk9 hp hN ((2147483647 - (0 : Int32).toInt).toNat + 1) 0 0 hb bt bb mt mb t tr od B (by show (2147483647 - (0 : Int32).toInt).toNat < _; omega) (by omega) (by omega) (fun a ha => absurd ha (Nat.not_lt_zero _)) (fun a _ _ => Nat.zero_le _) hT hB
theorem q_ofL4 {K : Nat → Int32} {kp : Nat → Nat} {n D c Bc : Nat} {ms : List Nat → Nat} {how : Int32} {g bs : Nat → Int32} {p : List Nat} (hJ : qHJ K n c Bc ms how g) (hn : n ≤ 6) (hD : D ≤ 10) (hg : g 1 = nI D) (hk9 : qKs K kp n D bs) (hp : p.length + 4 = n) (hN : p.Nodup) : ∀ (f k j : Nat) (hb : Int32) (bt bb mt mb : Int64) (t tr od : Nat → Int32) (B : Option (Nat × List Nat)), (2147483647 - (nI k).toInt).toNat < f → k ≤ D → j ≤ n → (∀ a : Nat, a < j → kp a < k) → (∀ a : Nat, j ≤ a → a < n → k ≤ kp a) → qTP K n p tr → qRB K n c Bc B hb bt bb od → qRB K n c Bc ((((List.range n).drop j).flatMap (fun j => if p.contains j then [] else uExt n 3 (p ++ [j]))).foldl (qStp ms) B) (F_r_orderFrom_4_L15a (nI n) how (nI n) g bs (nI p.length) f (nI k) hb bt bb mt mb t tr od).1 (F_r_orderFrom_4_L15a (nI n) how (nI n) g bs (nI p.length) f (nI k) hb bt bb mt mb t tr od).2.1 (F_r_orderFrom_4_L15a (nI n) how (nI n) g bs (nI p.length) f (nI k) hb bt bb mt mb t tr od).2.2.1 (F_r_orderFrom_4_L15a (nI n) how (nI n) g bs (nI p.length) f (nI k) hb bt bb mt mb t tr od).2.2.2.2.2.2.2 ∧ qTP K n p (F_r_orderFrom_4_L15a (nI n) how (nI n) g bs (nI p.length) f (nI k) hb bt bb mt mb t tr od).2.2.2.2.2.2.1 := by
  intro f
  induction f with
  | zero => intro k j hb bt bb mt mb t tr od B hf; exact absurd hf (Nat.not_lt_zero _)
  | succ f ih =>
    intro k j hb bt bb mt mb t tr od B hf hk hjn m1 m2 hT hB
    have e := nI_toInt (show k < 2147483648 by omega)
    have e2 := nI_toInt (show k + 1 < 2147483648 by omega)
    have eD := nI_toInt (show D < 2147483648 by omega)
    have y1 : g (1 : Int32).toNatClampNeg = nI D := hg
    rw [F_r_orderFrom_4_L15a_s]
    simp only [y1, qnI_s]
    by_cases c9 : k = D
    · subst c9
      have hj : j = n := by
        rcases Nat.lt_or_ge j n with h9 | h9
        · have := m2 j (Nat.le_refl _) h9
          have := (hk9.1 j h9).2
          omega
        · omega
      subst hj
      simp only [show nI k ≤ nI k from q_le.mpr (Int.le_refl _), ↓reduceIte]
      rw [List.drop_of_length_le (by rw [List.length_range]; exact Nat.le_refl _)]
      exact ⟨hB, hT⟩
    · simp only [show ¬ nI D ≤ nI k from q_nle.mpr (by rw [e, eD]; omega), ↓reduceIte]
      have hio := q_iod (bs := bs) (k := nI k) (n := n) (by omega)
      by_cases hj : j < n ∧ kp j = k
      · obtain ⟨hj, hkk⟩ := hj
        have hkj : K j = nI k := by rw [(hk9.1 j hj).1, hkk]
        have h1 : ¬ F_r_isOrdered (nI n) bs (nI k) = 0 := fun h9 => by
          obtain ⟨a, a1, a2⟩ := (hk9.2.2 (nI k)).mpr ⟨j, hj, hkj⟩
          exact hio.mp h9 a a1 a2
        have n1 : ∀ a : Nat, a < j + 1 → kp a < k + 1 := fun a ha => by
          by_cases ea : a = j
          · subst ea; omega
          · have := m1 a (by omega); omega
        have n2 : ∀ a : Nat, j + 1 ≤ a → a < n → k + 1 ≤ kp a := fun a ha hb2 => by
          have := hk9.2.1 j a (by omega) hb2
          omega
        have hius := q_ius (tr := tr) (k := nI k) (n := p.length) (by omega)
        rw [q_drp hj, List.flatMap_cons, List.foldl_append]
        simp only [h1, ↓reduceIte]
        by_cases us : p.contains j = true
        · have h2 : ¬ F_r_isUsed tr (nI k) (nI p.length) = 0 := fun h9 => by
            obtain ⟨i, i1, i2⟩ := q_cnt.mp us
            exact hius.mp h9 i i1 (by rw [hT.2 i i1, i2, hkj])
          simp only [h2, us, ↓reduceIte]
          exact ih (k + 1) (j + 1) _ _ _ _ _ _ _ _ _ (by omega) (by omega) (by omega) n1 n2 hT hB
        · have h2 : F_r_isUsed tr (nI k) (nI p.length) = 0 := hius.mpr (fun i hi h9 => us (q_cnt.mpr ⟨i, hi, by
            rw [hT.2 i hi, (hk9.1 _ (hT.1 i hi)).1] at h9
            have h8 := congrArg Int32.toInt h9
            have h7 := (hk9.1 _ (hT.1 i hi)).2
            rw [nI_toInt (by omega), e] at h8
            rcases Nat.lt_trichotomy (p.getD i 0) j with h6 | h6 | h6
            · have := hk9.2.1 _ _ h6 hj; omega
            · exact h6
            · have := hk9.2.1 _ _ h6 (hT.1 i hi); omega⟩))
          have hlen : (p ++ [j]).length = p.length + 1 := by rw [List.length_append, List.length_singleton]
          simp only [h2, us, Bool.false_eq_true, qnI_cl (show p.length < 2147483648 by omega), ↓reduceIte]
          have h0 := q_of3 (mt := mt) (mb := mb) (t := t) hJ hn hD hg hk9 (p := p ++ [j]) (by rw [hlen]; omega) (q_ndA hN us) (qTP_a hT hj) hB
          rw [hlen, hkj] at h0
          have hK' : qTP K n p (F_r_orderFrom_3 (nI n) how (nI n) hb bt bb mt mb g t (upd tr p.length (nI k)) bs od (nI (p.length + 1))).2.2.2.2.2.2.1 := by
            refine ⟨hT.1, fun i hi => ?_⟩
            have h9 := h0.2.2 i (by rw [hlen]; omega)
            rw [q_getA, if_pos hi] at h9
            exact h9
          exact ih (k + 1) (j + 1) _ _ _ _ _ _ _ _ _ (by omega) (by omega) (by omega) n1 n2 hK' h0.1
      · have h1 : F_r_isOrdered (nI n) bs (nI k) = 0 := hio.mpr (fun a ha h9 => by
          obtain ⟨b, b1, b2⟩ := (hk9.2.2 (nI k)).mp ⟨a, ha, h9⟩
          rw [(hk9.1 b b1).1] at b2
          have h8 := congrArg Int32.toInt b2
          have h7 := (hk9.1 b b1).2
          rw [nI_toInt (by omega), e] at h8
          have hbj : j ≤ b := by
            rcases Nat.lt_or_ge b j with h6 | h6
            · have := m1 b h6; omega
            · exact h6
          have hjn2 : j < n := by omega
          have := m2 j (Nat.le_refl _) hjn2
          rcases Nat.lt_or_ge j b with h6 | h6
          · have := hk9.2.1 j b h6 b1; omega
          · have : b = j := by omega
            subst this
            exact hj ⟨b1, by omega⟩)
        simp only [h1, ↓reduceIte]
        exact ih (k + 1) j _ _ _ _ _ _ _ _ _ (by omega) (by omega) hjn (fun a ha => by have := m1 a ha; omega) (fun a ha hb2 => by
          have h9 := m2 a ha hb2
          rcases Nat.lt_or_ge k (kp a) with h8 | h8
          · exact h8
          · have hka : kp a = k := by omega
            have := m2 j (Nat.le_refl _) (by omega)
            rcases Nat.lt_or_ge j a with h6 | h6
            · have := hk9.2.1 j a h6 hb2; omega
            · have : a = j := by omega
              subst this
              exact absurd ⟨hb2, hka⟩ hj) hT hB
theorem q_of4 {K : Nat → Int32} {kp : Nat → Nat} {n D c Bc : Nat} {ms : List Nat → Nat} {how : Int32} {g bs tr od t : Nat → Int32} {hb : Int32} {bt bb mt mb : Int64} {B : Option (Nat × List Nat)} (hJ : qHJ K n c Bc ms how g) (hn : n ≤ 6) (hD : D ≤ 10) (hg : g 1 = nI D) (hk9 : qKs K kp n D bs) {p : List Nat} (hp : p.length + 4 = n) (hN : p.Nodup) (hT : qTP K n p tr) (hB : qRB K n c Bc B hb bt bb od) : qRB K n c Bc ((uExt n 4 p).foldl (qStp ms) B) (F_r_orderFrom_4 (nI n) how (nI n) hb bt bb mt mb g t tr bs od (nI p.length)).1 (F_r_orderFrom_4 (nI n) how (nI n) hb bt bb mt mb g t tr bs od (nI p.length)).2.1 (F_r_orderFrom_4 (nI n) how (nI n) hb bt bb mt mb g t tr bs od (nI p.length)).2.2.1 (F_r_orderFrom_4 (nI n) how (nI n) hb bt bb mt mb g t tr bs od (nI p.length)).2.2.2.2.2.2.2 ∧ qTP K n p (F_r_orderFrom_4 (nI n) how (nI n) hb bt bb mt mb g t tr bs od (nI p.length)).2.2.2.2.2.2.1 := by
  rw [F_r_orderFrom_4_s]
  exact q_ofL4 hJ hn hD hg hk9 hp hN ((2147483647 - (0 : Int32).toInt).toNat + 1) 0 0 hb bt bb mt mb t tr od B (by show (2147483647 - (0 : Int32).toInt).toNat < _; omega) (by omega) (by omega) (fun a ha => absurd ha (Nat.not_lt_zero _)) (fun a _ _ => Nat.zero_le _) hT hB
theorem q_ofL5 {K : Nat → Int32} {kp : Nat → Nat} {n D c Bc : Nat} {ms : List Nat → Nat} {how : Int32} {g bs : Nat → Int32} {p : List Nat} (hJ : qHJ K n c Bc ms how g) (hn : n ≤ 6) (hD : D ≤ 10) (hg : g 1 = nI D) (hk9 : qKs K kp n D bs) (hp : p.length + 5 = n) (hN : p.Nodup) : ∀ (f k j : Nat) (hb : Int32) (bt bb mt mb : Int64) (t tr od : Nat → Int32) (B : Option (Nat × List Nat)), (2147483647 - (nI k).toInt).toNat < f → k ≤ D → j ≤ n → (∀ a : Nat, a < j → kp a < k) → (∀ a : Nat, j ≤ a → a < n → k ≤ kp a) → qTP K n p tr → qRB K n c Bc B hb bt bb od → qRB K n c Bc ((((List.range n).drop j).flatMap (fun j => if p.contains j then [] else uExt n 4 (p ++ [j]))).foldl (qStp ms) B) (F_r_orderFrom_5_L15a (nI n) how (nI n) g bs (nI p.length) f (nI k) hb bt bb mt mb t tr od).1 (F_r_orderFrom_5_L15a (nI n) how (nI n) g bs (nI p.length) f (nI k) hb bt bb mt mb t tr od).2.1 (F_r_orderFrom_5_L15a (nI n) how (nI n) g bs (nI p.length) f (nI k) hb bt bb mt mb t tr od).2.2.1 (F_r_orderFrom_5_L15a (nI n) how (nI n) g bs (nI p.length) f (nI k) hb bt bb mt mb t tr od).2.2.2.2.2.2.2 ∧ qTP K n p (F_r_orderFrom_5_L15a (nI n) how (nI n) g bs (nI p.length) f (nI k) hb bt bb mt mb t tr od).2.2.2.2.2.2.1 := by
  intro f
  induction f with
  | zero => intro k j hb bt bb mt mb t tr od B hf; exact absurd hf (Nat.not_lt_zero _)
  | succ f ih =>
    intro k j hb bt bb mt mb t tr od B hf hk hjn m1 m2 hT hB
    have e := nI_toInt (show k < 2147483648 by omega)
    have e2 := nI_toInt (show k + 1 < 2147483648 by omega)
    have eD := nI_toInt (show D < 2147483648 by omega)
    have y1 : g (1 : Int32).toNatClampNeg = nI D := hg
    rw [F_r_orderFrom_5_L15a_s]
    simp only [y1, qnI_s]
    by_cases c9 : k = D
    · subst c9
      have hj : j = n := by
        rcases Nat.lt_or_ge j n with h9 | h9
        · have := m2 j (Nat.le_refl _) h9
          have := (hk9.1 j h9).2
          omega
        · omega
      subst hj
      simp only [show nI k ≤ nI k from q_le.mpr (Int.le_refl _), ↓reduceIte]
      rw [List.drop_of_length_le (by rw [List.length_range]; exact Nat.le_refl _)]
      exact ⟨hB, hT⟩
    · simp only [show ¬ nI D ≤ nI k from q_nle.mpr (by rw [e, eD]; omega), ↓reduceIte]
      have hio := q_iod (bs := bs) (k := nI k) (n := n) (by omega)
      by_cases hj : j < n ∧ kp j = k
      · obtain ⟨hj, hkk⟩ := hj
        have hkj : K j = nI k := by rw [(hk9.1 j hj).1, hkk]
        have h1 : ¬ F_r_isOrdered (nI n) bs (nI k) = 0 := fun h9 => by
          obtain ⟨a, a1, a2⟩ := (hk9.2.2 (nI k)).mpr ⟨j, hj, hkj⟩
          exact hio.mp h9 a a1 a2
        have n1 : ∀ a : Nat, a < j + 1 → kp a < k + 1 := fun a ha => by
          by_cases ea : a = j
          · subst ea; omega
          · have := m1 a (by omega); omega
        have n2 : ∀ a : Nat, j + 1 ≤ a → a < n → k + 1 ≤ kp a := fun a ha hb2 => by
          have := hk9.2.1 j a (by omega) hb2
          omega
        have hius := q_ius (tr := tr) (k := nI k) (n := p.length) (by omega)
        rw [q_drp hj, List.flatMap_cons, List.foldl_append]
        simp only [h1, ↓reduceIte]
        by_cases us : p.contains j = true
        · have h2 : ¬ F_r_isUsed tr (nI k) (nI p.length) = 0 := fun h9 => by
            obtain ⟨i, i1, i2⟩ := q_cnt.mp us
            exact hius.mp h9 i i1 (by rw [hT.2 i i1, i2, hkj])
          simp only [h2, us, ↓reduceIte]
          exact ih (k + 1) (j + 1) _ _ _ _ _ _ _ _ _ (by omega) (by omega) (by omega) n1 n2 hT hB
        · have h2 : F_r_isUsed tr (nI k) (nI p.length) = 0 := hius.mpr (fun i hi h9 => us (q_cnt.mpr ⟨i, hi, by
            rw [hT.2 i hi, (hk9.1 _ (hT.1 i hi)).1] at h9
            have h8 := congrArg Int32.toInt h9
            have h7 := (hk9.1 _ (hT.1 i hi)).2
            rw [nI_toInt (by omega), e] at h8
            rcases Nat.lt_trichotomy (p.getD i 0) j with h6 | h6 | h6
            · have := hk9.2.1 _ _ h6 hj; omega
            · exact h6
            · have := hk9.2.1 _ _ h6 (hT.1 i hi); omega⟩))
          have hlen : (p ++ [j]).length = p.length + 1 := by rw [List.length_append, List.length_singleton]
          simp only [h2, us, Bool.false_eq_true, qnI_cl (show p.length < 2147483648 by omega), ↓reduceIte]
          have h0 := q_of4 (mt := mt) (mb := mb) (t := t) hJ hn hD hg hk9 (p := p ++ [j]) (by rw [hlen]; omega) (q_ndA hN us) (qTP_a hT hj) hB
          rw [hlen, hkj] at h0
          have hK' : qTP K n p (F_r_orderFrom_4 (nI n) how (nI n) hb bt bb mt mb g t (upd tr p.length (nI k)) bs od (nI (p.length + 1))).2.2.2.2.2.2.1 := by
            refine ⟨hT.1, fun i hi => ?_⟩
            have h9 := h0.2.2 i (by rw [hlen]; omega)
            rw [q_getA, if_pos hi] at h9
            exact h9
          exact ih (k + 1) (j + 1) _ _ _ _ _ _ _ _ _ (by omega) (by omega) (by omega) n1 n2 hK' h0.1
      · have h1 : F_r_isOrdered (nI n) bs (nI k) = 0 := hio.mpr (fun a ha h9 => by
          obtain ⟨b, b1, b2⟩ := (hk9.2.2 (nI k)).mp ⟨a, ha, h9⟩
          rw [(hk9.1 b b1).1] at b2
          have h8 := congrArg Int32.toInt b2
          have h7 := (hk9.1 b b1).2
          rw [nI_toInt (by omega), e] at h8
          have hbj : j ≤ b := by
            rcases Nat.lt_or_ge b j with h6 | h6
            · have := m1 b h6; omega
            · exact h6
          have hjn2 : j < n := by omega
          have := m2 j (Nat.le_refl _) hjn2
          rcases Nat.lt_or_ge j b with h6 | h6
          · have := hk9.2.1 j b h6 b1; omega
          · have : b = j := by omega
            subst this
            exact hj ⟨b1, by omega⟩)
        simp only [h1, ↓reduceIte]
        exact ih (k + 1) j _ _ _ _ _ _ _ _ _ (by omega) (by omega) hjn (fun a ha => by have := m1 a ha; omega) (fun a ha hb2 => by
          have h9 := m2 a ha hb2
          rcases Nat.lt_or_ge k (kp a) with h8 | h8
          · exact h8
          · have hka : kp a = k := by omega
            have := m2 j (Nat.le_refl _) (by omega)
            rcases Nat.lt_or_ge j a with h6 | h6
            · have := hk9.2.1 j a h6 hb2; omega
            · have : a = j := by omega
              subst this
              exact absurd ⟨hb2, hka⟩ hj) hT hB
theorem q_of5 {K : Nat → Int32} {kp : Nat → Nat} {n D c Bc : Nat} {ms : List Nat → Nat} {how : Int32} {g bs tr od t : Nat → Int32} {hb : Int32} {bt bb mt mb : Int64} {B : Option (Nat × List Nat)} (hJ : qHJ K n c Bc ms how g) (hn : n ≤ 6) (hD : D ≤ 10) (hg : g 1 = nI D) (hk9 : qKs K kp n D bs) {p : List Nat} (hp : p.length + 5 = n) (hN : p.Nodup) (hT : qTP K n p tr) (hB : qRB K n c Bc B hb bt bb od) : qRB K n c Bc ((uExt n 5 p).foldl (qStp ms) B) (F_r_orderFrom_5 (nI n) how (nI n) hb bt bb mt mb g t tr bs od (nI p.length)).1 (F_r_orderFrom_5 (nI n) how (nI n) hb bt bb mt mb g t tr bs od (nI p.length)).2.1 (F_r_orderFrom_5 (nI n) how (nI n) hb bt bb mt mb g t tr bs od (nI p.length)).2.2.1 (F_r_orderFrom_5 (nI n) how (nI n) hb bt bb mt mb g t tr bs od (nI p.length)).2.2.2.2.2.2.2 ∧ qTP K n p (F_r_orderFrom_5 (nI n) how (nI n) hb bt bb mt mb g t tr bs od (nI p.length)).2.2.2.2.2.2.1 := by
  rw [F_r_orderFrom_5_s]
  exact q_ofL5 hJ hn hD hg hk9 hp hN ((2147483647 - (0 : Int32).toInt).toNat + 1) 0 0 hb bt bb mt mb t tr od B (by show (2147483647 - (0 : Int32).toInt).toNat < _; omega) (by omega) (by omega) (fun a ha => absurd ha (Nat.not_lt_zero _)) (fun a _ _ => Nat.zero_le _) hT hB
theorem q_ofL6 {K : Nat → Int32} {kp : Nat → Nat} {n D c Bc : Nat} {ms : List Nat → Nat} {how : Int32} {g bs : Nat → Int32} {p : List Nat} (hJ : qHJ K n c Bc ms how g) (hn : n ≤ 6) (hD : D ≤ 10) (hg : g 1 = nI D) (hk9 : qKs K kp n D bs) (hp : p.length + 6 = n) (hN : p.Nodup) : ∀ (f k j : Nat) (hb : Int32) (bt bb mt mb : Int64) (t tr od : Nat → Int32) (B : Option (Nat × List Nat)), (2147483647 - (nI k).toInt).toNat < f → k ≤ D → j ≤ n → (∀ a : Nat, a < j → kp a < k) → (∀ a : Nat, j ≤ a → a < n → k ≤ kp a) → qTP K n p tr → qRB K n c Bc B hb bt bb od → qRB K n c Bc ((((List.range n).drop j).flatMap (fun j => if p.contains j then [] else uExt n 5 (p ++ [j]))).foldl (qStp ms) B) (F_r_orderFrom_6_L15a (nI n) how (nI n) g bs (nI p.length) f (nI k) hb bt bb mt mb t tr od).1 (F_r_orderFrom_6_L15a (nI n) how (nI n) g bs (nI p.length) f (nI k) hb bt bb mt mb t tr od).2.1 (F_r_orderFrom_6_L15a (nI n) how (nI n) g bs (nI p.length) f (nI k) hb bt bb mt mb t tr od).2.2.1 (F_r_orderFrom_6_L15a (nI n) how (nI n) g bs (nI p.length) f (nI k) hb bt bb mt mb t tr od).2.2.2.2.2.2.2 ∧ qTP K n p (F_r_orderFrom_6_L15a (nI n) how (nI n) g bs (nI p.length) f (nI k) hb bt bb mt mb t tr od).2.2.2.2.2.2.1 := by
  intro f
  induction f with
  | zero => intro k j hb bt bb mt mb t tr od B hf; exact absurd hf (Nat.not_lt_zero _)
  | succ f ih =>
    intro k j hb bt bb mt mb t tr od B hf hk hjn m1 m2 hT hB
    have e := nI_toInt (show k < 2147483648 by omega)
    have e2 := nI_toInt (show k + 1 < 2147483648 by omega)
    have eD := nI_toInt (show D < 2147483648 by omega)
    have y1 : g (1 : Int32).toNatClampNeg = nI D := hg
    rw [F_r_orderFrom_6_L15a_s]
    simp only [y1, qnI_s]
    by_cases c9 : k = D
    · subst c9
      have hj : j = n := by
        rcases Nat.lt_or_ge j n with h9 | h9
        · have := m2 j (Nat.le_refl _) h9
          have := (hk9.1 j h9).2
          omega
        · omega
      subst hj
      simp only [show nI k ≤ nI k from q_le.mpr (Int.le_refl _), ↓reduceIte]
      rw [List.drop_of_length_le (by rw [List.length_range]; exact Nat.le_refl _)]
      exact ⟨hB, hT⟩
    · simp only [show ¬ nI D ≤ nI k from q_nle.mpr (by rw [e, eD]; omega), ↓reduceIte]
      have hio := q_iod (bs := bs) (k := nI k) (n := n) (by omega)
      by_cases hj : j < n ∧ kp j = k
      · obtain ⟨hj, hkk⟩ := hj
        have hkj : K j = nI k := by rw [(hk9.1 j hj).1, hkk]
        have h1 : ¬ F_r_isOrdered (nI n) bs (nI k) = 0 := fun h9 => by
          obtain ⟨a, a1, a2⟩ := (hk9.2.2 (nI k)).mpr ⟨j, hj, hkj⟩
          exact hio.mp h9 a a1 a2
        have n1 : ∀ a : Nat, a < j + 1 → kp a < k + 1 := fun a ha => by
          by_cases ea : a = j
          · subst ea; omega
          · have := m1 a (by omega); omega
        have n2 : ∀ a : Nat, j + 1 ≤ a → a < n → k + 1 ≤ kp a := fun a ha hb2 => by
          have := hk9.2.1 j a (by omega) hb2
          omega
        have hius := q_ius (tr := tr) (k := nI k) (n := p.length) (by omega)
        rw [q_drp hj, List.flatMap_cons, List.foldl_append]
        simp only [h1, ↓reduceIte]
        by_cases us : p.contains j = true
        · have h2 : ¬ F_r_isUsed tr (nI k) (nI p.length) = 0 := fun h9 => by
            obtain ⟨i, i1, i2⟩ := q_cnt.mp us
            exact hius.mp h9 i i1 (by rw [hT.2 i i1, i2, hkj])
          simp only [h2, us, ↓reduceIte]
          exact ih (k + 1) (j + 1) _ _ _ _ _ _ _ _ _ (by omega) (by omega) (by omega) n1 n2 hT hB
        · have h2 : F_r_isUsed tr (nI k) (nI p.length) = 0 := hius.mpr (fun i hi h9 => us (q_cnt.mpr ⟨i, hi, by
            rw [hT.2 i hi, (hk9.1 _ (hT.1 i hi)).1] at h9
            have h8 := congrArg Int32.toInt h9
            have h7 := (hk9.1 _ (hT.1 i hi)).2
            rw [nI_toInt (by omega), e] at h8
            rcases Nat.lt_trichotomy (p.getD i 0) j with h6 | h6 | h6
            · have := hk9.2.1 _ _ h6 hj; omega
            · exact h6
            · have := hk9.2.1 _ _ h6 (hT.1 i hi); omega⟩))
          have hlen : (p ++ [j]).length = p.length + 1 := by rw [List.length_append, List.length_singleton]
          simp only [h2, us, Bool.false_eq_true, qnI_cl (show p.length < 2147483648 by omega), ↓reduceIte]
          have h0 := q_of5 (mt := mt) (mb := mb) (t := t) hJ hn hD hg hk9 (p := p ++ [j]) (by rw [hlen]; omega) (q_ndA hN us) (qTP_a hT hj) hB
          rw [hlen, hkj] at h0
          have hK' : qTP K n p (F_r_orderFrom_5 (nI n) how (nI n) hb bt bb mt mb g t (upd tr p.length (nI k)) bs od (nI (p.length + 1))).2.2.2.2.2.2.1 := by
            refine ⟨hT.1, fun i hi => ?_⟩
            have h9 := h0.2.2 i (by rw [hlen]; omega)
            rw [q_getA, if_pos hi] at h9
            exact h9
          exact ih (k + 1) (j + 1) _ _ _ _ _ _ _ _ _ (by omega) (by omega) (by omega) n1 n2 hK' h0.1
      · have h1 : F_r_isOrdered (nI n) bs (nI k) = 0 := hio.mpr (fun a ha h9 => by
          obtain ⟨b, b1, b2⟩ := (hk9.2.2 (nI k)).mp ⟨a, ha, h9⟩
          rw [(hk9.1 b b1).1] at b2
          have h8 := congrArg Int32.toInt b2
          have h7 := (hk9.1 b b1).2
          rw [nI_toInt (by omega), e] at h8
          have hbj : j ≤ b := by
            rcases Nat.lt_or_ge b j with h6 | h6
            · have := m1 b h6; omega
            · exact h6
          have hjn2 : j < n := by omega
          have := m2 j (Nat.le_refl _) hjn2
          rcases Nat.lt_or_ge j b with h6 | h6
          · have := hk9.2.1 j b h6 b1; omega
          · have : b = j := by omega
            subst this
            exact hj ⟨b1, by omega⟩)
        simp only [h1, ↓reduceIte]
        exact ih (k + 1) j _ _ _ _ _ _ _ _ _ (by omega) (by omega) hjn (fun a ha => by have := m1 a ha; omega) (fun a ha hb2 => by
          have h9 := m2 a ha hb2
          rcases Nat.lt_or_ge k (kp a) with h8 | h8
          · exact h8
          · have hka : kp a = k := by omega
            have := m2 j (Nat.le_refl _) (by omega)
            rcases Nat.lt_or_ge j a with h6 | h6
            · have := hk9.2.1 j a h6 hb2; omega
            · have : a = j := by omega
              subst this
              exact absurd ⟨hb2, hka⟩ hj) hT hB
theorem q_of6 {K : Nat → Int32} {kp : Nat → Nat} {n D c Bc : Nat} {ms : List Nat → Nat} {how : Int32} {g bs tr od t : Nat → Int32} {hb : Int32} {bt bb mt mb : Int64} {B : Option (Nat × List Nat)} (hJ : qHJ K n c Bc ms how g) (hn : n ≤ 6) (hD : D ≤ 10) (hg : g 1 = nI D) (hk9 : qKs K kp n D bs) {p : List Nat} (hp : p.length + 6 = n) (hN : p.Nodup) (hT : qTP K n p tr) (hB : qRB K n c Bc B hb bt bb od) : qRB K n c Bc ((uExt n 6 p).foldl (qStp ms) B) (F_r_orderFrom_6 (nI n) how (nI n) hb bt bb mt mb g t tr bs od (nI p.length)).1 (F_r_orderFrom_6 (nI n) how (nI n) hb bt bb mt mb g t tr bs od (nI p.length)).2.1 (F_r_orderFrom_6 (nI n) how (nI n) hb bt bb mt mb g t tr bs od (nI p.length)).2.2.1 (F_r_orderFrom_6 (nI n) how (nI n) hb bt bb mt mb g t tr bs od (nI p.length)).2.2.2.2.2.2.2 ∧ qTP K n p (F_r_orderFrom_6 (nI n) how (nI n) hb bt bb mt mb g t tr bs od (nI p.length)).2.2.2.2.2.2.1 := by
  rw [F_r_orderFrom_6_s]
  exact q_ofL6 hJ hn hD hg hk9 hp hN ((2147483647 - (0 : Int32).toInt).toNat + 1) 0 0 hb bt bb mt mb t tr od B (by show (2147483647 - (0 : Int32).toInt).toNat < _; omega) (by omega) (by omega) (fun a ha => absurd ha (Nat.not_lt_zero _)) (fun a _ _ => Nat.zero_le _) hT hB
