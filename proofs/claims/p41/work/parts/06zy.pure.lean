/-- the best order so far: how much, and which -/
def qStp (ms : List Nat → Nat) (B : Option (Nat × List Nat)) (l : List Nat) : Option (Nat × List Nat) := match B with
  | none => some (ms l, l)
  | some b => if ms l < b.1 then some (ms l, l) else some b
def qCB (K : Nat → Int32) (n : Nat) (B : Option (Nat × List Nat)) (v m : Int32) (fd : Nat → Int32) : Prop := match B with
  | none => v = -1
  | some b => v = nI b.1 ∧ b.1 ≤ 100000000 ∧ m = nI n ∧ ∀ i : Nat, i < n → fd i = K (b.2.getD i 0)
theorem q_kfrL {row : Nat → Int32} {n : Nat} (hn : n ≤ 10) : ∀ (f i : Nat) (fd : Nat → Int32), (2147483647 - (nI i).toInt).toNat < f → i ≤ n → (∀ j : Nat, j < i → fd j = row j) → (F_Se_keepFound_r_L7a row (nI n) f (nI i) fd).1 = nI n ∧ ∀ j : Nat, j < n → (F_Se_keepFound_r_L7a row (nI n) f (nI i) fd).2 j = row j := by
  intro f
  induction f with
  | zero => intro i fd hf; exact absurd hf (Nat.not_lt_zero _)
  | succ f ih =>
    intro i fd hf hi h
    have e := nI_toInt (show i < 2147483648 by omega)
    have e2 := nI_toInt (show i + 1 < 2147483648 by omega)
    have en := nI_toInt (show n < 2147483648 by omega)
    rw [F_Se_keepFound_r_L7a_s]
    by_cases c : i = n
    · subst c
      simp only [show nI i ≤ nI i from q_le.mpr (Int.le_refl _), ↓reduceIte]
      exact ⟨trivial, h⟩
    · simp only [show ¬ nI n ≤ nI i from q_nle.mpr (by rw [e, en]; omega), q_at10 (g := row) (show i < 10 by omega), q_keep10 (show i < 10 by omega), qnI_s, ↓reduceIte]
      refine ih (i + 1) _ (by omega) (by omega) (fun j hj => ?_)
      unfold upd
      by_cases d : j = i
      · rw [if_pos d, d]
      · rw [if_neg d]; exact h j (by omega)
theorem q_kfr {row fd : Nat → Int32} {n : Nat} (hn : n ≤ 10) : (F_Se_keepFound_r row fd (nI n)).1 = nI n ∧ ∀ j : Nat, j < n → (F_Se_keepFound_r row fd (nI n)).2 j = row j := by
  rw [F_Se_keepFound_r_s]
  exact q_kfrL hn ((2147483647 - (0 : Int32).toInt).toNat + 1) 0 fd (by show (2147483647 - (0 : Int32).toInt).toNat < _; omega) (by omega) (fun j hj => absurd hj (Nat.not_lt_zero _))
/-- all orders looked at, on the class' side -/
theorem q_foL {dO rm k : Int32} {wa op se rd K : Nat → Int32} {n : Nat} {ms : List Nat → Nat} {W : List Nat → Prop} (hn : n ≤ 6) (hK : uUp K n) (hM : ∀ (row : Nat → Int32) (l : List Nat), W l → uAs K n row l → F_Se_measured (nI n) dO rm wa op se rd row k = nI (ms l) ∧ ms l ≤ 100000000) : ∀ (ls : List (List Nat)) (f i : Nat) (B : Option (Nat × List Nat)) (v60 v61 v63 : Int32) (fd row : Nat → Int32), (2147483647 - (nI i).toInt).toNat < f → i + ls.length ≤ 720 → uCh n ls = true → (∀ l, ls.head? = some l → ¬ v61 = 0 ∧ uAs K n row l) → (ls = [] → v61 = 0) → (∀ l, l ∈ ls → W l) → qCB K n B v60 v63 fd → qCB K n (ls.foldl (qStp ms) B) (F_Se_findOrder_L18a (nI n) dO rm wa op se rd k f v60 v61 (nI i) v63 fd row).1 (F_Se_findOrder_L18a (nI n) dO rm wa op se rd k f v60 v61 (nI i) v63 fd row).2.1 (F_Se_findOrder_L18a (nI n) dO rm wa op se rd k f v60 v61 (nI i) v63 fd row).2.2.2 := by
  intro ls
  induction ls with
  | nil =>
    intro f i B v60 v61 v63 fd row hf hi hc h1 h2 hW hB
    cases f with
    | zero => exact absurd hf (Nat.not_lt_zero _)
    | succ f =>
      rw [F_Se_findOrder_L18a_s]
      simp only [h2 rfl, ite_self, ↓reduceIte]
      exact hB
  | cons l ls ih =>
    intro f i B v60 v61 v63 fd row hf hi hc h1 h2 hW hB
    cases f with
    | zero => exact absurd hf (Nat.not_lt_zero _)
    | succ f =>
      obtain ⟨hv, hA⟩ := h1 l rfl
      rw [List.length_cons] at hi
      have e := nI_toInt (show i < 2147483648 by omega)
      have e2 := nI_toInt (show i + 1 < 2147483648 by omega)
      have e7 : (720 : Int32).toInt = 720 := by decide +kernel
      obtain ⟨m1, m2⟩ := hM row l (hW l List.mem_cons_self) hA
      have em := nI_toInt (show ms l < 2147483648 by omega)
      have mn : ¬ nI (ms l) = -1 := fun h9 => by
        have h8 := congrArg Int32.toInt h9
        rw [em, q_1] at h8
        omega
      obtain ⟨k1, k2⟩ := q_kfr (row := row) (fd := fd) (n := n) (by omega)
      have hc2 : uCh n ls = true := by
        cases ls with
        | nil => rfl
        | cons l' r => exact (Bool.and_eq_true_iff.mp hc).2
      have hnx : (∀ l', ls.head? = some l' → ¬ (F_Se_nextOrder_r row (nI n)).1 = 0 ∧ uAs K n (F_Se_nextOrder_r row (nI n)).2 l') ∧ (ls = [] → (F_Se_nextOrder_r row (nI n)).1 = 0) := by
        cases ls with
        | nil =>
          refine ⟨fun l' h9 => (by cases h9), fun _ => ?_⟩
          rcases u_nx hK (by omega) hA with ⟨a1, a2⟩ | ⟨l', a1, -, -⟩
          · rw [a2]
          · have hc3 : (uNx n l).isNone = true := hc
            rw [a1] at hc3
            exact absurd hc3 Bool.false_ne_true
        | cons l' r =>
          have hc3 : uNx n l = some l' := eq_of_beq (Bool.and_eq_true_iff.mp hc).1
          refine ⟨fun l2 h9 => ?_, fun h9 => by cases h9⟩
          cases h9
          rcases u_nx hK (by omega) hA with ⟨a1, -⟩ | ⟨l2, a1, a2, a3⟩
          · rw [hc3] at a1; cases a1
          · rw [hc3] at a1
            cases a1
            exact ⟨by rw [a2]; exact q_n1, a3⟩
      have hS : ∀ X : Option (Nat × List Nat), (l :: ls).foldl (qStp ms) X = ls.foldl (qStp ms) (qStp ms X l) := fun _ => rfl
      rw [hS, F_Se_findOrder_L18a_s]
      have hnew : ∀ fd2 : Nat → Int32, (∀ j : Nat, j < n → fd2 j = row j) → qCB K n (some (ms l, l)) (nI (ms l)) (nI n) fd2 := fun fd2 h9 => ⟨rfl, m2, rfl, fun j hj => (h9 j hj).trans (hA.2.2 j hj)⟩
      simp only [show ¬ (720 : Int32) ≤ nI i from q_nle.mpr (by rw [e, e7]; omega), hv, m1, k1, qnI_s, ↓reduceIte]
      cases B with
      | none =>
        have hB1 : v60 = -1 := hB
        simp only [hB1, ↓reduceIte]
        exact ih f (i + 1) _ _ _ _ _ _ (by omega) (by omega) hc2 hnx.1 hnx.2 (fun l' hl' => hW l' (List.mem_cons_of_mem _ hl')) (hnew _ k2)
      | some b =>
        obtain ⟨b1, b2, b3, b4⟩ := id hB
        have eb := nI_toInt (show b.1 < 2147483648 by omega)
        have bn : ¬ nI b.1 = -1 := fun h9 => by
          have h8 := congrArg Int32.toInt h9
          rw [eb, q_1] at h8
          omega
        have hS2 : qStp ms (some b) l = if ms l < b.1 then some (ms l, l) else some b := rfl
        rw [hS2]
        by_cases d : ms l < b.1
        · simp only [b1, bn, d, show ¬ nI b.1 ≤ nI (ms l) from q_nle.mpr (by rw [eb, em]; omega), ↓reduceIte]
          exact ih f (i + 1) _ _ _ _ _ _ (by omega) (by omega) hc2 hnx.1 hnx.2 (fun l' hl' => hW l' (List.mem_cons_of_mem _ hl')) (hnew _ k2)
        · rw [b1] at hB
          simp only [b1, bn, d, show nI b.1 ≤ nI (ms l) from q_le.mpr (by rw [eb, em]; omega), ↓reduceIte]
          exact ih f (i + 1) _ _ _ _ _ _ (by omega) (by omega) hc2 hnx.1 hnx.2 (fun l' hl' => hW l' (List.mem_cons_of_mem _ hl')) hB
/-- one and the next one changed for each other: the same KEYS -/
theorem q_swP {g : Nat → Int32} {j : Nat} : ∀ n : Nat, j + 1 < n → List.Perm (qRw n (upd (upd g j (g (j + 1))) (j + 1) (g j)) 0) (qRw n g 0) := by
  intro n
  induction n with
  | zero => intro h; exact absurd h (Nat.not_lt_zero _)
  | succ n ih =>
    intro h
    by_cases c : j + 1 = n
    · subst c
      have e0 : qRw j (upd (upd g j (g (j + 1))) (j + 1) (g j)) 0 = qRw j g 0 := qRw_c (fun i hi => by
        unfold upd
        rw [if_neg (by omega), if_neg (by omega)])
      have e1 : upd (upd g j (g (j + 1))) (j + 1) (g j) (0 + j) = g (j + 1) := by
        unfold upd
        rw [if_neg (by omega), if_pos (by omega)]
      have e2 : upd (upd g j (g (j + 1))) (j + 1) (g j) (0 + (j + 1)) = g j := by
        unfold upd
        rw [if_pos (by omega)]
      rw [qRw_succ, qRw_succ, qRw_succ (j + 1) g, qRw_succ j g, e0, e1, e2, Nat.zero_add, Nat.zero_add, List.append_assoc, List.append_assoc]
      exact List.Perm.append_left _ (List.Perm.swap _ _ _)
    · rw [qRw_succ, qRw_succ n g]
      have e2 : upd (upd g j (g (j + 1))) (j + 1) (g j) (0 + n) = g (0 + n) := by
        unfold upd
        rw [if_neg (by omega), if_neg (by omega)]
      rw [e2]
      exact (ih (by omega)).append_right _
/-- sorted up to here -/
def qSo (g : Nat → Int32) (m : Nat) : Prop := ∀ a b : Nat, a < b → b < m → g a ≤ g b
theorem q_leT {a b c : Int32} (h1 : a ≤ b) (h2 : b ≤ c) : a ≤ c := q_le.mpr (Int.le_trans (q_le.mp h1) (q_le.mp h2))
theorem q_s9 {n i : Nat} {g0 : Nat → Int32} {G : Int32 → (Nat → Int32) → (Nat → Int32)} (hn : n ≤ 10) (hi : i < n) : ∀ (f j : Nat) (g : Nat → Int32), ((nI j).toInt + 2147483648).toNat < f → j ≤ i → (∀ a b : Nat, a < b → b ≤ i → ¬ a = j → ¬ b = j → g a ≤ g b) → (∀ b : Nat, j < b → b ≤ i → g j ≤ g b) → List.Perm (qRw n g 0) (qRw n g0 0) → ∃ g' : Nat → Int32, F_Se_sortUp_L9a (nI i) G f (nI j) g = G (nI (i + 1)) g' ∧ qSo g' (i + 1) ∧ List.Perm (qRw n g' 0) (qRw n g0 0) := by
  intro f
  induction f with
  | zero => intro j g hf; exact absurd hf (Nat.not_lt_zero _)
  | succ f ih =>
    intro j g hf hj h1 h2 hp
    have e := nI_toInt (show j < 2147483648 by omega)
    rw [F_Se_sortUp_L9a_s]
    cases j with
    | zero =>
      simp only [show nI 0 ≤ 0 from q_le.mpr (Int.le_refl _), qnI_s, ↓reduceIte]
      refine ⟨g, rfl, fun a b ha hb => ?_, hp⟩
      by_cases c : a = 0
      · subst c; exact h2 b ha (by omega)
      · exact h1 a b ha (by omega) c (by omega)
    | succ j =>
      have ej := nI_toInt (show j < 2147483648 by omega)
      have y1 : nI (j + 1) - 1 = nI j := qnI_sub1 j
      simp only [show ¬ nI (j + 1) ≤ 0 from q_nle.mpr (by rw [e, q0]; omega), y1, q_at10 (g := g) (show j < 10 by omega), q_at10 (g := g) (show j + 1 < 10 by omega), u_dm, qnI_s, ↓reduceIte]
      by_cases c : g j ≤ g (j + 1)
      · simp only [c, ↓reduceIte]
        refine ⟨g, rfl, fun a b ha hb => ?_, hp⟩
        by_cases ca : a = j + 1
        · subst ca; exact h2 b ha (by omega)
        · by_cases cb : b = j + 1
          · subst cb
            by_cases cj : a = j
            · subst cj; exact c
            · exact q_leT (h1 a j (by omega) (by omega) ca (by omega)) c
          · exact h1 a b ha (by omega) ca cb
      · have hsw : F_Se_swap_r g (nI j) (nI (j + 1)) = upd (upd g j (g (j + 1))) (j + 1) (g j) := by
          rw [F_Se_swap_r_s]
          simp only [q_at10 (g := g) (show j < 10 by omega), q_at10 (g := g) (show j + 1 < 10 by omega), q_keep10 (show j < 10 by omega), q_keep10 (show j + 1 < 10 by omega)]
        have hlt : g (j + 1) ≤ g j := q_le.mpr (by have := q_nle.mp c; omega)
        simp only [c, hsw, ↓reduceIte]
        have u1 : upd (upd g j (g (j + 1))) (j + 1) (g j) j = g (j + 1) := by
          unfold upd
          rw [if_neg (by omega), if_pos rfl]
        have u2 : upd (upd g j (g (j + 1))) (j + 1) (g j) (j + 1) = g j := by
          unfold upd
          rw [if_pos rfl]
        have u3 : ∀ x : Nat, ¬ x = j → ¬ x = j + 1 → upd (upd g j (g (j + 1))) (j + 1) (g j) x = g x := fun x x1 x2 => by
          unfold upd
          rw [if_neg x2, if_neg x1]
        refine ih j _ (by omega) (by omega) (fun a b ha hb na nb => ?_) (fun b hb hb2 => ?_) ((q_swP n (by omega)).trans hp)
        · by_cases ca : a = j + 1
          · subst ca
            rw [u2, u3 b nb (by omega)]
            exact h1 j b (by omega) hb (by omega) (by omega)
          · by_cases cb : b = j + 1
            · subst cb
              rw [u2, u3 a na ca]
              exact h1 a j (by omega) (by omega) ca (by omega)
            · rw [u3 a na ca, u3 b nb cb]
              exact h1 a b ha hb ca cb
        · rw [u1]
          by_cases cb : b = j + 1
          · subst cb
            rw [u2]
            exact hlt
          · rw [u3 b (by omega) cb]
            exact h2 b (by omega) hb2
theorem q_s2 {n : Nat} {g0 : Nat → Int32} (hn : n ≤ 10) : ∀ (f i : Nat) (g : Nat → Int32), (2147483647 - (nI i).toInt).toNat < f → 1 ≤ i → i ≤ n + 1 → (n = 0 ∨ i ≤ n) → qSo g i → List.Perm (qRw n g 0) (qRw n g0 0) → qSo (F_Se_sortUp_L2a (nI n) f (nI i) g) n ∧ List.Perm (qRw n (F_Se_sortUp_L2a (nI n) f (nI i) g) 0) (qRw n g0 0) := by
  intro f
  induction f with
  | zero => intro i g hf; exact absurd hf (Nat.not_lt_zero _)
  | succ f ih =>
    intro i g hf hi hi2 hi3 hs hp
    have e := nI_toInt (show i < 2147483648 by omega)
    have e2 := nI_toInt (show i + 1 < 2147483648 by omega)
    have en := nI_toInt (show n < 2147483648 by omega)
    rw [F_Se_sortUp_L2a_s]
    by_cases c : n ≤ i
    · simp only [show nI n ≤ nI i from q_le.mpr (by rw [e, en]; omega), ↓reduceIte]
      exact ⟨fun a b ha hb => hs a b ha (by omega), hp⟩
    · simp only [show ¬ nI n ≤ nI i from q_nle.mpr (by rw [e, en]; omega), ↓reduceIte]
      obtain ⟨g', a1, a2, a3⟩ := q_s9 (G := F_Se_sortUp_L2a (nI n) f) hn (show i < n by omega) _ i g (Nat.lt_succ_self _) (Nat.le_refl _) (fun a b ha hb na nb => hs a b ha (by omega)) (fun b hb hb2 => absurd hb (by omega)) hp
      rw [a1]
      exact ih (i + 1) g' (by omega) (by omega) (by omega) (by omega) a2 a3
theorem q_sort {n : Nat} {g : Nat → Int32} (hn : n ≤ 10) : qSo (F_Se_sortUp g (nI n)) n ∧ List.Perm (qRw n (F_Se_sortUp g (nI n)) 0) (qRw n g 0) := by
  rw [F_Se_sortUp_s]
  exact q_s2 hn ((2147483647 - (1 : Int32).toInt).toNat + 1) 1 g (by show (2147483647 - (1 : Int32).toInt).toNat < _; omega) (by omega) (by omega) (by omega) (fun a b ha hb => absurd hb (by omega)) (List.Perm.refl _)
theorem q_up {n : Nat} {K : Nat → Int32} (hs : qSo K n) (hd : (qRw n K 0).Nodup) : uUp K n := by
  have hne : ∀ i j : Nat, i < j → j < n → ¬ K i = K j := fun i j hi hj h9 => by
    have hp : (qRw n K 0).Pairwise (fun a b => a ≠ b) := hd
    rw [qRw_pw] at hp
    exact hp i j hi hj h9
  intro a b ha hb
  constructor
  · intro h
    rcases Nat.lt_or_ge b a with c | c
    · exact absurd (q_eq.mpr (Int.le_antisymm (q_le.mp (hs b a c ha)) (q_le.mp h))) (hne b a c ha)
    · exact c
  · intro h
    rcases Nat.lt_or_ge a b with c | c
    · exact hs a b c hb
    · have : a = b := by omega
      subst this
      exact q_le.mpr (Int.le_refl _)
