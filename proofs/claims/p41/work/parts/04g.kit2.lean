theorem z_topq {p : Program} {l : Launch} {e : Env} {R : Room} {s : State} {m : MethodId} {args : Array Value} {below : List Frame} {meth : Method} {c : Code} {H : Heap} {locs : List Loc} {cells slots pc : Nat} {ls : Array Slot} {rest : List Value} {Q : State → Prop} {o o' : Option Nat} (h : o = o') (k : W p l e R s m args below meth c H locs cells slots Q (F0 m pc ls (va_rf o' :: rest))) : W p l e R s m args below meth c H locs cells slots Q (F0 m pc ls (va_rf o :: rest)) := h ▸ k
theorem z_inN {x : Int32} {n : Nat} (h1 : 0 ≤ x.toInt) (h2 : x.toInt < n) : vp_in x n := vp_in_iff.mpr ⟨h1, h2⟩
theorem z_eqc {x k : Int32} {K : Int} (hk : k.toInt = K) (h : x.toInt = K) : x = k := Int32.toInt_inj.mp (h.trans hk.symm)
theorem z_n0 : (0 : Int32).toNatClampNeg = 0 := by decide +kernel
theorem z_n1 : (1 : Int32).toNatClampNeg = 1 := by decide +kernel
theorem z_n2 : (2 : Int32).toNatClampNeg = 2 := by decide +kernel
theorem z_n3 : (3 : Int32).toNatClampNeg = 3 := by decide +kernel
theorem z_3c {x : Int32} (h1 : 0 ≤ x.toInt) (h2 : x.toInt < 3) : x = 0 ∨ x = 1 ∨ x = 2 := by
  rcases (show x.toInt = 0 ∨ x.toInt = 1 ∨ x.toInt = 2 by omega) with h | h | h
  · exact Or.inl (z_eqc (by decide +kernel) h)
  · exact Or.inr (Or.inl (z_eqc (by decide +kernel) h))
  · exact Or.inr (Or.inr (z_eqc (by decide +kernel) h))
theorem z_4c {x : Int32} (h1 : 0 ≤ x.toInt) (h2 : x.toInt < 4) : x = 0 ∨ x = 1 ∨ x = 2 ∨ x = 3 := by
  rcases (show x.toInt = 0 ∨ x.toInt = 1 ∨ x.toInt = 2 ∨ x.toInt = 3 by omega) with h | h | h | h
  · exact Or.inl (z_eqc (by decide +kernel) h)
  · exact Or.inr (Or.inl (z_eqc (by decide +kernel) h))
  · exact Or.inr (Or.inr (Or.inl (z_eqc (by decide +kernel) h)))
  · exact Or.inr (Or.inr (Or.inr (z_eqc (by decide +kernel) h)))
theorem z_dnk {v k : Int32} {n : Nat} {K : Int} (hk : k.toInt = K) (hK : K < 0) (h : (v.toInt + 2147483648).toNat < n + 1) (h2 : -2147483648 ≤ v.toInt + K) (h3 : v.toInt ≤ 2147483647) : ((v + k).toInt + 2147483648).toNat < n := by
  rw [z_addI hk h2 (by omega)]
  omega
theorem zlb_len : ∀ i : Nat, i < 42 → (zlb i).length ≤ 16 := by decide +kernel
theorem zlb_nI {i : Nat} (h : i < 42) : (nI (zlb i).length).toInt = ((zlb i).length : Int) := nI_toInt (by have := zlb_len i h; omega)
theorem Met.ofWF {l : Launch} {y : MethodName} {ws ws' : List Cond} {rm : Room} {Pc : Array Value → State → Prop} {Qc : Array Value → State → Outcome → State → Prop} {mc ms : Nat} {free : Addr → Prop} {cc : ByteArray} {maxL : Nat} {ret : Option FieldType}
    (hy : plainFor y = true) (hw : ws = Cond.code y cc maxL ret :: ws')
    (body : ∀ p e s m args below meth c s₁, BodyLoose p l y (headSpec ws rm) cc maxL ret e s m args below meth c s₁ → c.maxLocals = maxL → Pc args s →
      W p l e (headSpec ws rm).room s m args below meth c s.heap [] 0 0 (MQ below Qc args s mc ms free) (entryFrame m args maxL)) : Met l y ws rm Pc Qc mc ms free := by
  refine MetFree.of_bodySF (code := cc) (maxLocals := maxL) (ret := ret) hy ?_ ?_
  · intro args s m h hn
    obtain ⟨meth, c, h1, h2, h3, h4, h5, h6, -, -⟩ := Cond.code_spec hn (atoms_spec (ws := ws) h _ (by rw [hw]; exact List.mem_cons_self))
    exact ⟨meth, c, h1, h2, h3, h4, h5, h6⟩
  · intro p e s m args below meth c s₁ B hml hP _
    have hh0 : s₁.heap = s.heap := by rw [B.state]; rfl
    obtain ⟨t, a1, o, b1, b2, b3⟩ := body p e s m args below meth c s₁ B hml hP s₁ hh0 (Stand.of_body B)
    exact ⟨t, o, a1, b1, b2, ⟨b3.1, b3.2⟩⟩
theorem z_start2q {l : Launch} {y : MethodName} {cb : ByteArray} {nL : Nat} {rm : Room} {G : va_G} {cA : zCA} {av : List Value} {wc : va_W} {S : Type} {post : Option Nat → S → Prop} {w1 : S → va_W} {mc ms : Nat} {own : String} {rt : FieldType} (hrt : (∃ n, rt = .object n) ∨ ∃ t, rt = .array t) (hy : plainName y.cls = true) (hla : (lg_sl av).length ≤ nL) (hcl : y.cls = own)
    (k : ∀ (p : Program) (e : Env) (s : State) (m : MethodId) (args : Array Value) (below : List Frame) (meth : Method) (c : Code) (A : Nat → Prop) (ls : Array Slot) (Q : State → Prop), p.tables.exec = Jvm.exec → c.code = cb → c.maxLocals = nL → (∀ w ∈ TB, w.before args s = true) → s.vm.findClass own = some m.cls → va_K G vwCl (zTY cA) s → zEX s → zST cA A s s.heap → va_P G vwCl wc s.heap → va_D A wc → va_S A s.heap s.heap [] → (∀ q, s.heap.size ≤ q → A q) → lv_has ls nL (lv_args 0 av) →
      (∀ (pc : Nat) (H : Heap) (locs : List Loc) (ls : Array Slot) (ws : va_W) (v : Option Nat) (u : S) (isW : List Nat), va_P G vwCl ws H → va_D A ws → va_S A s.heap H locs → isW.map (fun i => ws[i]?) = (w1 u).map some → va_nd isW = true → decode cb pc = .ok (.areturn, 1) → post v u → W p l e rm s m args below meth c H locs mc ms Q (F0 m pc ls [va_rf v])) →
      W p l e rm s m args below meth c s.heap [] 0 0 Q (F0 m 0 ls [])) : zCq l y cb nL (some rt) rm G cA av wc post w1 mc ms := by
  intro sz
  refine Met.ofW (cc := cb) (maxL := nL) (ret := some rt) hy rfl ?_
  intro p e s m args below meth c s₁ B hml hv
  obtain ⟨rfl, hsz, hP, hK, hE, hT, hD0⟩ := hv
  subst hsz
  subst hcl
  rw [lg_entry_eq]
  have hx := B.exec
  have hb := B.bytes
  have hr := B.returns
  have hlocks := B.notSynchronized
  refine k p e s m _ below meth c (va_A wc s.heap.size) _ _ hx hb hml (fun w h => atoms_spec (ws := Cond.code y cb nL (some rt) :: TB) B.pre w (List.mem_cons_of_mem _ h)) (findClass_of_methodNamed B.named) hK hE hT hP hD0.self va_S.rf (fun q h => Or.inr h) (lv_entry av hla) ?_
  intro pc H locs ls ws v u isW hP hD hS hC hnd hdg hp
  exact W.aret hx hb hr hrt (va_rf_or v) (fun t ht hW => ⟨⟨v, u, rfl, hp, by rw [ht]; exact va_P_of_places hP isW hC, hD.sub isW hnd hC⟩, hS.F ht⟩) hS.2.2 hdg hlocks

theorem z_startFi {l : Launch} {y : MethodName} {cb : ByteArray} {nL : Nat} {rm : Room} {G : va_G} {cA : zCA} {av : List Value} {wc : va_W} {S : Type} {post : Int32 → S → Prop} {w1 : S → va_W} {mc ms : Nat} {own : String} (hy : plainFor y = true) (hla : (lg_sl av).length ≤ nL) (hcl : y.cls = own)
    (k : ∀ (p : Program) (e : Env) (s : State) (m : MethodId) (args : Array Value) (below : List Frame) (meth : Method) (c : Code) (A : Nat → Prop) (ls : Array Slot) (Q : State → Prop), p.tables.exec = Jvm.exec → c.code = cb → c.maxLocals = nL → (∀ w ∈ TB, w.before args s = true) → s.vm.findClass own = some m.cls → va_K G vwCl (zTY cA) s → zEX s → zST cA A s s.heap → va_P G vwCl wc s.heap → va_D A wc → va_S A s.heap s.heap [] → (∀ q, s.heap.size ≤ q → A q) → lv_has ls nL (lv_args 0 av) →
      (∀ (pc : Nat) (H : Heap) (locs : List Loc) (ls : Array Slot) (ws : va_W) (v : Int32) (u : S) (isW : List Nat), va_P G vwCl ws H → va_D A ws → va_S A s.heap H locs → isW.map (fun i => ws[i]?) = (w1 u).map some → va_nd isW = true → decode cb pc = .ok (.ireturn, 1) → post v u → W p l e rm s m args below meth c H locs mc ms Q (F0 m pc ls [.int v])) →
      W p l e rm s m args below meth c s.heap [] 0 0 Q (F0 m 0 ls [])) : zCi l y cb nL (some .int) rm G cA av wc post w1 mc ms := by
  intro sz
  refine Met.ofWF (cc := cb) (maxL := nL) (ret := some .int) hy rfl ?_
  intro p e s m args below meth c s₁ B hml hv
  obtain ⟨rfl, hsz, hP, hK, hE, hT, hD0⟩ := hv
  subst hsz
  subst hcl
  rw [lg_entry_eq]
  have hx := B.exec
  have hb := B.bytes
  have hr := B.returns
  have hlocks := B.notSynchronized
  refine k p e s m _ below meth c (va_A wc s.heap.size) _ _ hx hb hml (fun w h => atoms_spec (ws := Cond.code y cb nL (some .int) :: TB) B.pre w (List.mem_cons_of_mem _ h)) (findClass_of_methodNamed B.named) hK hE hT hP hD0.self va_S.rf (fun q h => Or.inr h) (lv_entry av hla) ?_
  intro pc H locs ls ws v u isW hP hD hS hC hnd hdg hp
  exact W.iret hx hb hr (fun t ht hW => ⟨⟨v, u, rfl, hp, by rw [ht]; exact va_P_of_places hP isW hC, hD.sub isW hnd hC⟩, hS.F ht⟩) hS.2.2 hdg hlocks

theorem z_startFl {l : Launch} {y : MethodName} {cb : ByteArray} {nL : Nat} {rm : Room} {G : va_G} {cA : zCA} {av : List Value} {wc : va_W} {S : Type} {post : Int64 → S → Prop} {w1 : S → va_W} {mc ms : Nat} {own : String} (hy : plainFor y = true) (hla : (lg_sl av).length ≤ nL) (hcl : y.cls = own)
    (k : ∀ (p : Program) (e : Env) (s : State) (m : MethodId) (args : Array Value) (below : List Frame) (meth : Method) (c : Code) (A : Nat → Prop) (ls : Array Slot) (Q : State → Prop), p.tables.exec = Jvm.exec → c.code = cb → c.maxLocals = nL → (∀ w ∈ TB, w.before args s = true) → s.vm.findClass own = some m.cls → va_K G vwCl (zTY cA) s → zEX s → zST cA A s s.heap → va_P G vwCl wc s.heap → va_D A wc → va_S A s.heap s.heap [] → (∀ q, s.heap.size ≤ q → A q) → lv_has ls nL (lv_args 0 av) →
      (∀ (pc : Nat) (H : Heap) (locs : List Loc) (ls : Array Slot) (ws : va_W) (v : Int64) (u : S) (isW : List Nat), va_P G vwCl ws H → va_D A ws → va_S A s.heap H locs → isW.map (fun i => ws[i]?) = (w1 u).map some → va_nd isW = true → decode cb pc = .ok (.lreturn, 1) → post v u → W p l e rm s m args below meth c H locs mc ms Q (F0 m pc ls [.long v])) →
      W p l e rm s m args below meth c s.heap [] 0 0 Q (F0 m 0 ls [])) : zCl l y cb nL (some .long) rm G cA av wc post w1 mc ms := by
  intro sz
  refine Met.ofWF (cc := cb) (maxL := nL) (ret := some .long) hy rfl ?_
  intro p e s m args below meth c s₁ B hml hv
  obtain ⟨rfl, hsz, hP, hK, hE, hT, hD0⟩ := hv
  subst hsz
  subst hcl
  rw [lg_entry_eq]
  have hx := B.exec
  have hb := B.bytes
  have hr := B.returns
  have hlocks := B.notSynchronized
  refine k p e s m _ below meth c (va_A wc s.heap.size) _ _ hx hb hml (fun w h => atoms_spec (ws := Cond.code y cb nL (some .long) :: TB) B.pre w (List.mem_cons_of_mem _ h)) (findClass_of_methodNamed B.named) hK hE hT hP hD0.self va_S.rf (fun q h => Or.inr h) (lv_entry av hla) ?_
  intro pc H locs ls ws v u isW hP hD hS hC hnd hdg hp
  exact W.lret hx hb hr (fun t ht hW => ⟨⟨v, u, rfl, hp, by rw [ht]; exact va_P_of_places hP isW hC, hD.sub isW hnd hC⟩, hS.F ht⟩) hS.2.2 hdg hlocks

theorem z_lnz2 {y : Int64} (h : 0 < lg_cmp y 0) : ¬ y = 0 := fun e => absurd ((lg_cmp_le y 0).mpr (by rw [e]; exact Int64.le_refl 0)) (by rw [Int32.le_iff_toInt_le]; rw [Int32.lt_iff_toInt_lt] at h; omega)
theorem z_t2 {x y : Int32} (h : ¬ y ≤ x) : x.toInt < y.toInt ∧ y.toInt ≤ 2147483647 ∧ -2147483648 ≤ x.toInt := ⟨(z_s2 h).1, (z_s2 h).2, Int32.le_toInt x⟩
theorem z_t3 {x y : Int32} (h : x < y) : x.toInt < y.toInt ∧ y.toInt ≤ 2147483647 ∧ -2147483648 ≤ x.toInt := ⟨(z_s3 h).1, (z_s3 h).2, Int32.le_toInt x⟩
theorem z_t6 {x y : Int32} (h : ¬ x ≤ y) : y.toInt < x.toInt ∧ -2147483648 ≤ y.toInt ∧ x.toInt ≤ 2147483647 := ⟨(z_s6 h).1, (z_s6 h).2, Int32.toInt_le x⟩
theorem z_t7 {x y : Int32} (h : y < x) : y.toInt < x.toInt ∧ -2147483648 ≤ y.toInt ∧ x.toInt ≤ 2147483647 := ⟨(z_s7 h).1, (z_s7 h).2, Int32.toInt_le x⟩
theorem z_subI {v k : Int32} {K : Int} (hk : k.toInt = K) (h1 : -2147483648 ≤ v.toInt - K) (h2 : v.toInt - K ≤ 2147483647) : (v - k).toInt = v.toInt - K := by
  rw [Int32.toInt_sub, hk]
  exact Int.bmod_eq_of_le (by omega) (by omega)
theorem z_clv {i : Int32} (h1 : 0 ≤ i.toInt) : i.toNatClampNeg = i.toInt.toNat := rfl
def zat (n : Nat) (g : Nat → Int32) (i : Int) : Int := if 0 ≤ i ∧ i < n then (g i.toNat).toInt else -1
def zin (n k : Int) : Int := if 0 ≤ k ∧ k < n then 1 else 0
def zmo (g : Nat → Int32) (n k : Int) : Int := if zin n k = 1 then zat 3 g k else 0
def zOM (g : Nat → Int32) : Prop := ∀ j, j < 3 → 0 ≤ (g j).toInt ∧ (g j).toInt ≤ 10
theorem z_at0 {n : Nat} {g : Nat → Int32} {i : Int} (h : ¬ (0 ≤ i ∧ i < n)) : (-1 : Int32).toInt = zat n g i := by
  unfold zat
  rw [if_neg h]; decide +kernel
theorem z_at1 {n : Nat} {g : Nat → Int32} {i : Int32} (h1 : 0 ≤ i.toInt) (h2 : i.toInt < n) : (g i.toNatClampNeg).toInt = zat n g i.toInt := by
  unfold zat
  rw [if_pos ⟨h1, h2⟩]; rfl
theorem z_zin1 {n k : Int} (h1 : 0 ≤ k) (h2 : k < n) : (1 : Int32).toInt = zin n k := by
  unfold zin
  rw [if_pos ⟨h1, h2⟩]; decide +kernel
theorem z_zin0 {n k : Int} (h : ¬ (0 ≤ k ∧ k < n)) : (0 : Int32).toInt = zin n k := by
  unfold zin
  rw [if_neg h]; decide +kernel
theorem zmo_0 {g : Nat → Int32} {n k : Int} {r : Int32} (h : r.toInt = zin n k) (h0 : r.toInt = 0) : (0 : Int32).toInt = zmo g n k := by
  unfold zmo
  rw [← h, if_neg (by omega)]; decide +kernel
theorem zmo_1 {g : Nat → Int32} {n k : Int} {r x : Int32} (h : r.toInt = zin n k) (h0 : r.toInt ≠ 0) (hz : r = 0 ∨ r = 1) (hx : x.toInt = zat 3 g k) : x.toInt = zmo g n k := by
  unfold zmo
  rw [← h, if_pos, hx]
  rcases hz with rfl | rfl
  · exact absurd (by decide +kernel) h0
  · decide +kernel
theorem zOM_at {g : Nat → Int32} {x : Int32} {i : Int} (h : zOM g) (hx : x.toInt = zat 3 g i) : -1 ≤ x.toInt ∧ x.toInt ≤ 10 := by
  unfold zat at hx
  split at hx
  · have := h i.toNat (by omega); omega
  · omega
theorem zOM_keep {g g' : Nat → Int32} {i v : Int32} (h : zOM g) (hx : g' = g ∨ (0 ≤ i.toInt ∧ i.toInt < 3 ∧ g' = upd g i.toNatClampNeg v)) (hv : 0 ≤ v.toInt ∧ v.toInt ≤ 10) : zOM g' := by
  rcases hx with rfl | ⟨-, -, rfl⟩
  · exact h
  · intro j hj
    unfold upd
    split
    · exact hv
    · exact h j hj
theorem zOM_cpy {f g g' : Nat → Int32} (hf : zOM f) (hg : zOM g) (he : va_cpy f g (0 : Int32).toNatClampNeg (0 : Int32).toNatClampNeg (3 : Int32).toNatClampNeg = g') : zOM g' := by
  rw [← he, z_n0, z_n3]
  intro j hj
  unfold va_cpy
  split
  · exact hf _ (by omega)
  · exact hg j hj
theorem z_eq0 {r : Int32} (c : r = 0) : r.toInt = 0 := by rw [c]; decide +kernel
theorem z_ne0 {r : Int32} (c : ¬ r = 0) : r.toInt ≠ 0 := fun h => c (Int32.toInt_inj.mp (h.trans (by decide +kernel)))
theorem z_nlt {x : Int32} (h : 0 ≤ x.toInt) : ¬ x < 0 := fun h2 => by
  have := z_b3 h2 (K := 0) (by decide +kernel)
  omega
theorem z_cle {x y : Int32} {n : Nat} (h1 : 0 ≤ x.toInt) (h2 : 0 ≤ y.toInt) (h : x.toInt + y.toInt ≤ n) : x.toNatClampNeg + y.toNatClampNeg ≤ n := by
  have e1 : (x.toNatClampNeg : Int) = x.toInt := by rw [Int32.toNatClampNeg, Int.toNat_of_nonneg h1]
  have e2 : (y.toNatClampNeg : Int) = y.toInt := by rw [Int32.toNatClampNeg, Int.toNat_of_nonneg h2]
  omega
def trOK (t s m : Int32) : Prop := 0 ≤ t.toInt ∧ t.toInt < 4 ∧ 0 ≤ s.toInt ∧ s.toInt ≤ 3 ∧ 0 ≤ m.toInt ∧ m.toInt ≤ 60
theorem z_dnck {v k : Int32} {K C : Int} (hk : k.toInt = K) (hK : K < 0) (h : C ≥ v.toInt) (h2 : -2147483648 ≤ v.toInt + K) : C ≥ (v + k).toInt := by
  have h0 : v.toInt ≤ 2147483647 := Int32.toInt_le v
  rw [z_addI hk h2 (by omega)]
  omega

def zlet {α β : Type} (a : α) (f : α → β) : β := f a
theorem z_zl {α β : Type} {a : α} {f : α → β} {t : β} {b : α} (h : a = b) (k : f b = t) : zlet a f = t := by subst h; exact k
theorem z_tS {α β : Type} {p : α × β} {a : α} {t : β} (h : a = p.1) (k : p.2 = t) : p = (a, t) := by subst h; subst k; rfl
