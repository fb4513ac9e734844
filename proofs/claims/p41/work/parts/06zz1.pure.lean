/-- the first place from k on that opens -/
def uF (Q : Nat → Bool) : Nat → Nat → Nat
  | 0, k => k
  | m + 1, k => if Q k = true then k else uF Q m (k + 1)
theorem v_fle {Q : Nat → Bool} : ∀ m k : Nat, uF Q m k ≤ k + m ∧ k ≤ uF Q m k := by
  intro m
  induction m with
  | zero => intro k; exact ⟨Nat.le_refl _, Nat.le_refl _⟩
  | succ m ih =>
    intro k
    show (if Q k = true then k else uF Q m (k + 1)) ≤ k + (m + 1) ∧ k ≤ (if Q k = true then k else uF Q m (k + 1))
    have := ih (k + 1)
    split <;> omega
theorem v_fE {Q : Nat → Bool} : ∀ m k : Nat, uF Q (m + 1) k < k + m + 1 → uF Q m k = uF Q (m + 1) k := by
  intro m
  induction m with
  | zero =>
    intro k h
    have h9 : uF Q 1 k = if Q k = true then k else k + 1 := rfl
    rw [h9] at h ⊢
    by_cases c : Q k = true
    · rw [if_pos c]; rfl
    · rw [if_neg c] at h; omega
  | succ m ih =>
    intro k h
    have h8 : uF Q (m + 1) k = if Q k = true then k else uF Q m (k + 1) := rfl
    have h9 : uF Q (m + 1 + 1) k = if Q k = true then k else uF Q (m + 1) (k + 1) := rfl
    rw [h9] at h
    rw [h8, h9]
    by_cases c : Q k = true
    · rw [if_pos c, if_pos c]
    · rw [if_neg c] at h
      rw [if_neg c, if_neg c]
      exact ih (k + 1) (by omega)
/-- SECONDS with so many tries in vain -/
def uV (T G x : Nat) : Nat := T * (x + 1) + G * x
theorem v_seL {g t : Nat → Int32} {d w : Int32} {n : Nat} {pos : Nat → Nat} {Q : Nat → Bool} {T Go : Nat} (hT : g 6 = nI T) (hG : g 7 = nI Go) (hn : n ≤ 10) (hn0 : 0 < n) (hp : ∀ k, pos k < n) (hs0 : w = 0 → ∀ k, k < n → (pos k + 1) % n = pos (k + 1)) (hs1 : ¬ w = 0 → ∀ k, k < n → (pos k + n - 1) % n = pos (k + 1)) (hQ : ∀ k : Nat, k < n → (F_r_canOpen g (t (pos k)) d = 0 ↔ Q k = false)) : ∀ (f k : Nat), (2147483647 - (nI k).toInt).toNat < f → k ≤ n → (uF Q (n - k) k < n → F_r_search_L9a (nI n) g t d w f (nI (pos k)) (nI (T * k + Go * (k - 1))) (nI k) = nI (uV T Go (uF Q (n - k) k))) ∧ (uF Q (n - k) k = n → F_r_search_L9a (nI n) g t d w f (nI (pos k)) (nI (T * k + Go * (k - 1))) (nI k) = -1) := by
  intro f
  induction f with
  | zero => intro k hf; exact absurd hf (Nat.not_lt_zero _)
  | succ f ih =>
    intro k hf hk
    have e := nI_toInt (show k < 2147483648 by omega)
    have e2 := nI_toInt (show k + 1 < 2147483648 by omega)
    have en := nI_toInt (show n < 2147483648 by omega)
    have hpk := hp k
    have z0 : ∀ x : Nat, nI x + 0 = nI x := fun x => by rw [show (0 : Int32) = nI 0 from rfl, nI_add, Nat.add_zero]
    rw [F_r_search_L9a_s]
    by_cases c : k = n
    · subst c
      have hz : uF Q (k - k) k = k := by rw [Nat.sub_self]; rfl
      simp only [show nI k ≤ nI k from q_le.mpr (Int.le_refl _), hz, ↓reduceIte]
      exact ⟨fun h9 => absurd h9 (Nat.lt_irrefl _), fun _ => by first | trivial | rfl⟩
    · obtain ⟨m, hm⟩ : ∃ m, n - k = m + 1 := ⟨n - k - 1, by omega⟩
      have hm2 : n - (k + 1) = m := by omega
      have hu : uF Q (n - k) k = if Q k = true then k else uF Q (n - (k + 1)) (k + 1) := by rw [hm, hm2]; rfl
      have y6 : g (6 : Int32).toNatClampNeg = nI T := hT
      have y7 : g (7 : Int32).toNatClampNeg = nI Go := hG
      have y0 : k = 0 → T * k + Go * (k - 1) + T = T * (k + 1) + Go * k := fun h9 => by
        subst h9
        show T * 0 + Go * 0 + T = T * 1 + Go * 0
        omega
      have y1 : ¬ k = 0 → T * k + Go * (k - 1) + (T + Go) = T * (k + 1) + Go * k := fun h9 => by
        obtain ⟨q, rfl⟩ : ∃ q, k = q + 1 := ⟨k - 1, by omega⟩
        rw [Nat.add_sub_cancel, Nat.mul_add T (q + 1) 1, Nat.mul_add Go q 1, Nat.mul_one, Nat.mul_one]
        omega
      have hstep : ∀ s' : Nat, s' = T * (k + 1) + Go * k → Q k = false → (uF Q (n - k) k < n → F_r_search_L9a (nI n) g t d w f (nI (pos (k + 1))) (nI s') (nI (k + 1)) = nI (uV T Go (uF Q (n - k) k))) ∧ (uF Q (n - k) k = n → F_r_search_L9a (nI n) g t d w f (nI (pos (k + 1))) (nI s') (nI (k + 1)) = -1) := fun s' hs' hq => by
        rw [hu, if_neg (by rw [hq]; exact Bool.false_ne_true), hs']
        exact ih (k + 1) (by omega) (by omega)
      have r0 : w = 0 → nI (pos k + 1) - nI (pos k + 1) / nI n * nI n = nI (pos (k + 1)) := fun hw => by
        rw [q_nrem (by omega) hn0 (by omega), hs0 hw k (by omega)]
      have r1 : ¬ w = 0 → nI (pos k + n - 1) - nI (pos k + n - 1) / nI n * nI n = nI (pos (k + 1)) := fun hw => by
        rw [q_nrem (by omega) hn0 (by omega), hs1 hw k (by omega)]
      have sb : nI (pos k + n) - 1 = nI (pos k + n - 1) := q_nsub (b := 1) (by omega) (by omega)
      have k9 : nI k = 0 → k = 0 := fun h9 => by
        rw [h9, q0] at e
        omega
      have k8 : ¬ nI k = 0 → ¬ k = 0 := fun h9 h8 => h9 (by rw [h8]; rfl)
      simp only [show ¬ nI n ≤ nI k from q_nle.mpr (by rw [e, en]; omega), y6, y7, z0, qnI_s, nI_add, sb, qnI_cl (show pos k < 2147483648 by omega), ↓reduceIte]
      by_cases d9 : F_r_canOpen g (t (pos k)) d = 0
      · have hq := (hQ k (by omega)).mp d9
        by_cases w0 : w = 0
        · have r0' := r0 w0
          subst w0
          by_cases k0 : nI k = 0
          · simp only [k0, d9, r0', eq_self, ↓reduceIte]
            exact hstep _ (y0 (k9 k0)) hq
          · simp only [k0, d9, r0', eq_self, ↓reduceIte]
            exact hstep _ (y1 (k8 k0)) hq
        · have r1' := r1 w0
          by_cases k0 : nI k = 0
          · simp only [k0, d9, w0, r1', ↓reduceIte]
            exact hstep _ (y0 (k9 k0)) hq
          · simp only [k0, d9, w0, r1', ↓reduceIte]
            exact hstep _ (y1 (k8 k0)) hq
      · have hq : Q k = true := by
          cases hb : Q k
          · exact absurd ((hQ k (by omega)).mpr hb) d9
          · rfl
        have hu2 : uF Q (n - k) k = k := by rw [hu, if_pos hq]
        by_cases k0 : nI k = 0
        · simp only [k0, d9, hu2, ↓reduceIte]
          exact ⟨fun _ => congrArg nI (y0 (k9 k0)), fun h9 => absurd h9 c⟩
        · simp only [k0, d9, hu2, ↓reduceIte]
          exact ⟨fun _ => congrArg nI (y1 (k8 k0)), fun h9 => absurd h9 c⟩
/-- places in the order of a search -/
def uP (n a : Nat) (w : Bool) (k : Nat) : Nat := if w = true then (a + (n - k % n)) % n else (a + k) % n
def uX (n : Nat) (b : Nat → Bool) (a : Nat) (w : Bool) : Nat := uF (fun k => b (uP n a w k)) n 0
theorem v_se {g t b0 : Nat → Int32} {d w : Int32} {n a T Go : Nat} {wb : Bool} {b : Nat → Bool} (hT : g 6 = nI T) (hG : g 7 = nI Go) (hn : n ≤ 10) (ha : a < n) (hw : w = 0 ↔ wb = false) (hb : ∀ i : Nat, i < n → (F_r_canOpen g (t i) d = 0 ↔ b i = false)) : (uX n b a wb < n → F_r_search (nI n) g t d (nI a) w = nI (uV T Go (uX n b a wb))) ∧ (uX n b a wb = n → F_r_search (nI n) g t d (nI a) w = -1) := by
  have hn0 : 0 < n := by omega
  have hp : ∀ k, uP n a wb k < n := fun k => by
    unfold uP
    split <;> exact Nat.mod_lt _ hn0
  have hp0 : uP n a wb 0 = a := by
    unfold uP
    split
    · rw [Nat.zero_mod, Nat.sub_zero, Nat.add_mod_right, Nat.mod_eq_of_lt ha]
    · rw [Nat.add_zero, Nat.mod_eq_of_lt ha]
  have h9 := v_seL (g := g) (t := t) (d := d) (w := w) (pos := uP n a wb) (Q := fun k => b (uP n a wb k)) hT hG hn hn0 hp (fun w0 k _ => by
    unfold uP
    rw [if_neg (by rw [hw.mp w0]; exact Bool.false_ne_true), if_neg (by rw [hw.mp w0]; exact Bool.false_ne_true), Nat.mod_add_mod, Nat.add_assoc]) (fun w0 k hk => by
    have hwt : wb = true := by
      cases h8 : wb
      · exact absurd (hw.mpr h8) w0
      · rfl
    unfold uP
    rw [if_pos hwt, if_pos hwt]
    rw [Nat.mod_eq_of_lt hk, show (a + (n - k)) % n + n - 1 = (a + (n - k)) % n + (n - 1) by omega, Nat.mod_add_mod]
    by_cases c : k + 1 = n
    · rw [c, Nat.mod_self, show a + (n - k) + (n - 1) = a + n by omega, Nat.sub_zero]
    · rw [Nat.mod_eq_of_lt (show k + 1 < n by omega), show a + (n - k) + (n - 1) = a + (n - (k + 1)) + n by omega, Nat.add_mod_right]) (fun k _ => hb _ (hp k)) ((2147483647 - (0 : Int32).toInt).toNat + 1) 0 (by show (2147483647 - (0 : Int32).toInt).toNat < _; omega) (by omega)
  rw [hp0] at h9
  rw [F_r_search_s]
  exact h9
/-- all rows of so many places -/
def uBl : Nat → List (List Bool)
  | 0 => [[]]
  | n + 1 => (uBl n).flatMap (fun l => [false :: l, true :: l])
theorem v_bl : ∀ l : List Bool, l ∈ uBl l.length := by
  intro l
  induction l with
  | nil => exact List.mem_singleton.mpr rfl
  | cons x l ih =>
    refine List.mem_flatMap.mpr ⟨l, ih, ?_⟩
    cases x
    · exact List.mem_cons_self
    · exact List.mem_cons_of_mem _ List.mem_cons_self
def uD (f : Nat → Nat) : Nat → Nat
  | 0 => 0
  | j + 1 => uD f j + f j
/-- tries from all places together, as the class counts them: i + 1 places to go -/
def uTg (n : Nat) (b : Nat → Bool) : Nat → Nat → Nat → Nat
  | 0, _, s => s
  | i + 1, t, s => uTg n b i (if b (if i < n then i else i - n) = true then 1 else t + 1) (if i < n then s + (if b (if i < n then i else i - n) = true then 1 else t + 1) else s)
def uOk (n : Nat) (l : List Bool) : Bool := (List.range n).all (fun a => (decide (uX n (fun i => l.getD i false) a false < n) == (List.range n).any (fun i => l.getD i false)) && (decide (uX n (fun i => l.getD i false) a true < n) == (List.range n).any (fun i => l.getD i false))) && (!(List.range n).any (fun i => l.getD i false) || (uD (fun a => uX n (fun i => l.getD i false) a false + 1) n == uTg n (fun i => l.getD i false) (2 * n) 0 0 && uD (fun a => uX n (fun i => l.getD i false) a true + 1) n == uTg n (fun i => l.getD i false) (2 * n) 0 0))
theorem v_ok : ∀ n, n < 7 → (uBl n).all (uOk n) = true := by decide +kernel
