theorem v_up {n a k : Nat} {w : Bool} (hn : 0 < n) : uP n a w k < n := by
  unfold uP
  split <;> exact Nat.mod_lt _ hn
theorem v_xc {n a : Nat} {w : Bool} {b b' : Nat → Bool} (hn : 0 < n) (h : ∀ i : Nat, i < n → b i = b' i) : uX n b a w = uX n b' a w := by
  unfold uX
  rw [show (fun k => b (uP n a w k)) = (fun k => b' (uP n a w k)) from funext (fun k => h _ (v_up hn))]
theorem v_tc {n : Nat} {b b' : Nat → Bool} (h : ∀ i : Nat, i < n → b i = b' i) : ∀ i t s : Nat, i ≤ 2 * n → uTg n b i t s = uTg n b' i t s := by
  intro i
  induction i with
  | zero => intro t s _; rfl
  | succ i ih =>
    intro t s hi
    have hx : b (if i < n then i else i - n) = b' (if i < n then i else i - n) := h _ (by split <;> omega)
    show uTg n b i (if b (if i < n then i else i - n) = true then 1 else t + 1) (if i < n then s + (if b (if i < n then i else i - n) = true then 1 else t + 1) else s) = uTg n b' i (if b' (if i < n then i else i - n) = true then 1 else t + 1) (if i < n then s + (if b' (if i < n then i else i - n) = true then 1 else t + 1) else s)
    rw [hx]
    exact ih _ _ (by omega)
theorem v_dc {f f' : Nat → Nat} : ∀ n : Nat, (∀ i : Nat, i < n → f i = f' i) → uD f n = uD f' n := by
  intro n
  induction n with
  | zero => intro _; rfl
  | succ n ih =>
    intro h
    show uD f n + f n = uD f' n + f' n
    rw [ih (fun i hi => h i (by omega)), h n (by omega)]
theorem v_ac {n : Nat} {b b' : Nat → Bool} (h : ∀ i : Nat, i < n → b i = b' i) : (List.range n).any b = (List.range n).any b' := by
  refine Bool.eq_iff_iff.mpr ?_
  rw [List.any_eq_true, List.any_eq_true]
  constructor
  · rintro ⟨x, x1, x2⟩
    exact ⟨x, x1, by rw [← h x (List.mem_range.mp x1)]; exact x2⟩
  · rintro ⟨x, x1, x2⟩
    exact ⟨x, x1, by rw [h x (List.mem_range.mp x1)]; exact x2⟩
theorem v_okb {n : Nat} {b : Nat → Bool} (hn : n < 7) : (∀ (a : Nat) (w : Bool), a < n → (uX n b a w < n ↔ (List.range n).any b = true)) ∧ ((List.range n).any b = true → ∀ w : Bool, uD (fun a => uX n b a w + 1) n = uTg n b (2 * n) 0 0) := by
  have hl : ((List.range n).map b).length = n := by rw [List.length_map, List.length_range]
  have h1 := List.all_eq_true.mp (v_ok n hn) ((List.range n).map b) (by have := v_bl ((List.range n).map b); rw [hl] at this; exact this)
  have hb : ∀ i : Nat, i < n → b i = (fun i => ((List.range n).map b).getD i false) i := fun i hi => by
    show b i = ((List.range n).map b).getD i false
    rw [List.getD_eq_getElem?_getD, List.getElem?_map, List.getElem?_range hi]
    rfl
  unfold uOk at h1
  rw [← v_ac hb, Bool.and_eq_true, List.all_eq_true] at h1
  obtain ⟨h2, h3⟩ := h1
  refine ⟨fun a w ha => ?_, fun hy w => ?_⟩
  · have h4 := h2 a (List.mem_range.mpr ha)
    rw [Bool.and_eq_true, ← v_xc (w := false) (show 0 < n by omega) hb, ← v_xc (w := true) (show 0 < n by omega) hb] at h4
    cases w
    · rw [← eq_of_beq h4.1, decide_eq_true_iff]
    · rw [← eq_of_beq h4.2, decide_eq_true_iff]
  · rw [hy, Bool.not_true, Bool.false_or, Bool.and_eq_true, ← v_tc hb _ _ _ (Nat.le_refl _)] at h3
    rcases Nat.eq_zero_or_pos n with h9 | h9
    · subst h9; rfl
    · cases w
      · rw [← eq_of_beq h3.1]
        exact v_dc n (fun i _ => by rw [v_xc h9 hb])
      · rw [← eq_of_beq h3.2]
        exact v_dc n (fun i _ => by rw [v_xc h9 hb])
theorem v_da {f h : Nat → Nat} : ∀ n : Nat, uD (fun i => f i + h i) n = uD f n + uD h n := by
  intro n
  induction n with
  | zero => rfl
  | succ n ih =>
    show uD (fun i => f i + h i) n + (f n + h n) = uD f n + f n + (uD h n + h n)
    rw [ih]
    omega
theorem v_dm {f : Nat → Nat} {c : Nat} : ∀ n : Nat, uD (fun i => c * f i) n = c * uD f n := by
  intro n
  induction n with
  | zero => rfl
  | succ n ih =>
    show uD (fun i => c * f i) n + c * f n = c * (uD f n + f n)
    rw [ih, Nat.mul_add]
theorem v_d0 : ∀ n : Nat, uD (fun _ => 0) n = 0 := by
  intro n
  induction n with
  | zero => rfl
  | succ n ih => exact ih
theorem v_sw {F : Nat → Nat → Nat} {n : Nat} : ∀ D : Nat, uD (fun a => uD (fun d => F d a) D) n = uD (fun d => uD (fun a => F d a) n) D := by
  intro D
  induction D with
  | zero => exact v_d0 n
  | succ D ih =>
    show uD (fun a => uD (fun d => F d a) D + F D a) n = uD (fun d => uD (fun a => F d a) n) D + uD (fun a => F D a) n
    rw [v_da, ih]
theorem v_uv {x : Nat → Nat} {T G : Nat} : ∀ n : Nat, n ≤ uD (fun a => x a + 1) n ∧ uD (fun a => uV T G (x a)) n = T * uD (fun a => x a + 1) n + G * (uD (fun a => x a + 1) n - n) := by
  intro n
  induction n with
  | zero => exact ⟨Nat.le_refl _, rfl⟩
  | succ n ih =>
    obtain ⟨h1, h2⟩ := ih
    refine ⟨show n + 1 ≤ uD (fun a => x a + 1) n + (x n + 1) by omega, ?_⟩
    show uD (fun a => uV T G (x a)) n + uV T G (x n) = T * (uD (fun a => x a + 1) n + (x n + 1)) + G * (uD (fun a => x a + 1) n + (x n + 1) - (n + 1))
    rw [h2, show uD (fun a => x a + 1) n + (x n + 1) - (n + 1) = (uD (fun a => x a + 1) n - n) + x n by omega, Nat.mul_add T, Nat.mul_add G]
    unfold uV
    omega
/-- both ways, every place: the weights of the ways make 16 -/
theorem v_way {f : Nat → Nat → Nat} {c0 c1 : Nat} : ∀ n : Nat, uD (fun i => (if i % 2 = 0 then c0 else c1) * f (i / 2) (i % 2)) (2 * n) = c0 * uD (fun a => f a 0) n + c1 * uD (fun a => f a 1) n := by
  intro n
  induction n with
  | zero => rfl
  | succ n ih =>
    show uD (fun i => (if i % 2 = 0 then c0 else c1) * f (i / 2) (i % 2)) (2 * n) + (if (2 * n) % 2 = 0 then c0 else c1) * f ((2 * n) / 2) ((2 * n) % 2) + (if (2 * n + 1) % 2 = 0 then c0 else c1) * f ((2 * n + 1) / 2) ((2 * n + 1) % 2) = c0 * (uD (fun a => f a 0) n + f n 0) + c1 * (uD (fun a => f a 1) n + f n 1)
    rw [ih, show (2 * n) % 2 = 0 by omega, show (2 * n + 1) % 2 = 1 by omega, show (2 * n) / 2 = n by omega, show (2 * n + 1) / 2 = n by omega, if_pos rfl, if_neg (by omega), Nat.mul_add, Nat.mul_add]
    omega
/-- how much, from the start and from anywhere: P which DOORS open, W how often they are wanted, x the tries in vain -/
def uM0 (P : Nat → Bool) (W : Nat → Nat) (T G : Nat) (x : Nat → Nat) (D : Nat) : Nat := uD (fun d => if P d = true then W d * uV T G (x d) else 0) D
def uM1 (P : Nat → Bool) (W : Nat → Nat) (T G n : Nat) (z : Nat → Nat) (D : Nat) : Nat := uD (fun d => if P d = true then W d * (T * z d + G * (z d - n)) else 0) D
theorem v_m1 {b : Nat → Nat → Bool} {W : Nat → Nat} {T G n D : Nat} {w : Bool} (hn : n < 7) : uD (fun a => uM0 (fun d => (List.range n).any (b d)) W T G (fun d => uX n (b d) a w) D) n = uM1 (fun d => (List.range n).any (b d)) W T G n (fun d => uTg n (b d) (2 * n) 0 0) D := by
  unfold uM0 uM1
  rw [v_sw (F := fun d a => if (List.range n).any (b d) = true then W d * uV T G (uX n (b d) a w) else 0)]
  refine v_dc D (fun d _ => ?_)
  by_cases c : (List.range n).any (b d) = true
  · simp only [c, ↓reduceIte]
    rw [v_dm, (v_uv n).2, (v_okb hn).2 c w]
  · simp only [c, Bool.false_eq_true, ↓reduceIte]
    exact v_d0 n
