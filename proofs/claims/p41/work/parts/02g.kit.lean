/-! my own rows over the kit, the general form -/
abbrev zCA : Type := (Nat → ClassId) × (Nat → Nat) × (Nat → Nat)
abbrev zTY (cA : zCA) : List (ClassId × FieldType) := [(cA.1 0, .int), (cA.1 1, .long), (cA.1 2, .byte), (cA.1 3, .boolean), (cA.1 4, .object "DarkRing$Tray"), (cA.1 5, .object "DarkRing$House"), (cA.1 6, .object "DarkRing$Thought"), (cA.1 7, .object "DarkRing$Rule")]
def zEX (U : State) : Prop := (∀ w ∈ NB, va_Nw w U) ∧ va_AO "DarkRing$Tray" U ∧ va_AO "DarkRing$House" U ∧ va_AO "DarkRing$Thought" U ∧ va_AO "DarkRing$Rule" U
theorem zEX_warm {s U : State} (hW : s.WarmedH U.vm) (h : zEX s) : zEX U := by
  obtain ⟨h1, h2, h3, h4, h5⟩ := h
  refine ⟨fun w hw => ?_, h2.moved hW.alike, h3.moved hW.alike, h4.moved hW.alike, h5.moved hW.alike⟩
  have hz : zz_nest w = true := (List.mem_filter.mp hw).2
  have h6 := h1 w hw
  cases w <;> first | exact va_Nw.warmM hW h6 | exact va_Nw.warmF hW h6 | (simp [zz_nest] at hz)
theorem zEX_same {u U : State} (hv : u.vm = U.vm) (h : zEX u) : zEX U := by
  obtain ⟨h1, h2, h3, h4, h5⟩ := h
  have ha : u.vm.Alike U.vm := by rw [hv]; exact Vm.Alike.refl U.vm
  refine ⟨fun w hw => ?_, h2.moved ha, h3.moved ha, h4.moved ha, h5.moved ha⟩
  have hz : zz_nest w = true := (List.mem_filter.mp hw).2
  have h6 := h1 w hw
  refine va_Nw.same ?_ hv h6
  cases w <;> first | rfl | (simp [zz_nest] at hz)

theorem va_P_of_places {G : va_G} {ws wc : va_W} {H : Heap} (hP : va_P G vwCl ws H) (isC : List Nat) (hC : isC.map (fun i => ws[i]?) = wc.map some) : va_P G vwCl wc H := by
  intro k q hk
  have h1 : (isC.map (fun i => ws[i]?))[k]? = some (some q) := by rw [hC, List.getElem?_map, hk]; rfl
  rw [List.getElem?_map] at h1
  cases hi : isC[k]? with
  | none => rw [hi] at h1; cases h1
  | some i => rw [hi] at h1; exact hP i q (Option.some.inj h1)
def zLSt : List (String × Nat × String) := [("DarkRing$HouseReader", 64, "feature"), ("DarkRing$Text", 86, "feature"), ("DarkRing$Text", 92, "steps"), ("DarkRing$Text", 94, "turned"), ("DarkRing$Text", 96, "feels"), ("DarkRing$Text", 98, "key"), ("DarkRing$Text", 100, "ring"), ("DarkRing$Text", 102, "door"), ("DarkRing$Text", 104, "wanted"), ("DarkRing$Text", 106, "by"), ("DarkRing$Text", 108, "seconds"), ("DarkRing$Text", 110, "feel"), ("DarkRing$Text", 112, "try"), ("DarkRing$Text", 114, "go"), ("DarkRing$Text", 116, "drop"), ("DarkRing$Text", 118, "round"), ("DarkRing$HouseReader", 150, "steps"), ("DarkRing$HouseReader", 98, "turned"), ("DarkRing$HouseReader", 73, "feels"), ("DarkRing$HouseReader", 78, "key"), ("DarkRing$HouseReader", 83, "ring"), ("DarkRing$HouseReader", 88, "door"), ("DarkRing$HouseReader", 202, "wanted"), ("DarkRing$HouseReader", 204, "by"), ("DarkRing$HouseReader", 93, "seconds"), ("DarkRing$HouseReader", 225, "feel"), ("DarkRing$HouseReader", 227, "try"), ("DarkRing$HouseReader", 229, "go"), ("DarkRing$HouseReader", 231, "drop"), ("DarkRing$HouseReader", 103, "round"), ("DarkRing$RuleReader", 53, "end"), ("DarkRing$RuleReader", 62, "loop"), ("DarkRing$RuleReader", 64, "when"), ("DarkRing$RuleReader", 106, "feel"), ("DarkRing$RuleReader", 108, "try"), ("DarkRing$RuleReader", 110, "go"), ("DarkRing$RuleReader", 112, "turn"), ("DarkRing$RuleReader", 114, "drop"), ("DarkRing$RuleReader", 116, "stop"), ("DarkRing$RuleReader", 122, "felt"), ("DarkRing$RuleReader", 127, "tried"), ("DarkRing$RuleReader", 129, "sure")]
def zLBt : List (List Int32) := [[102, 101, 97, 116, 117, 114, 101], [102, 101, 97, 116, 117, 114, 101], [115, 116, 101, 112, 115], [116, 117, 114, 110, 101, 100], [102, 101, 101, 108, 115], [107, 101, 121], [114, 105, 110, 103], [100, 111, 111, 114], [119, 97, 110, 116, 101, 100], [98, 121], [115, 101, 99, 111, 110, 100, 115], [102, 101, 101, 108], [116, 114, 121], [103, 111], [100, 114, 111, 112], [114, 111, 117, 110, 100], [115, 116, 101, 112, 115], [116, 117, 114, 110, 101, 100], [102, 101, 101, 108, 115], [107, 101, 121], [114, 105, 110, 103], [100, 111, 111, 114], [119, 97, 110, 116, 101, 100], [98, 121], [115, 101, 99, 111, 110, 100, 115], [102, 101, 101, 108], [116, 114, 121], [103, 111], [100, 114, 111, 112], [114, 111, 117, 110, 100], [101, 110, 100], [108, 111, 111, 112], [119, 104, 101, 110], [102, 101, 101, 108], [116, 114, 121], [103, 111], [116, 117, 114, 110], [100, 114, 111, 112], [115, 116, 111, 112], [102, 101, 108, 116], [116, 114, 105, 101, 100], [115, 117, 114, 101]]
def zls (i : Nat) : String × Nat × String := zLSt.getD i ("", 0, "")
def zlb (i : Nat) : List Int32 := zLBt.getD i []
def zSt1 (cA : zCA) (i : Nat) (A : Nat → Prop) (U : State) (H : Heap) : Prop := va_O "java/lang/String" (cA.2.1 i) A U H ∧ va_OF "java/lang/String" "coder" "B" (.int 0) (cA.2.1 i) A U H ∧ va_OF "java/lang/String" "value" "[B" (.ref (cA.2.2 i)) (cA.2.1 i) A U H ∧ va_T .byte (cA.2.2 i) (zlb i).length (fun j => .int ((zlb i).getD j 0)) A U H
def zST (cA : zCA) (A : Nat → Prop) (U : State) (H : Heap) : Prop := (∀ i : Nat, i < 42 → vk_R (zls i).1 (zls i).2.1 (zls i).2.2 (cA.2.1 i) U ∧ zSt1 cA i A U H) ∧ va_Z "java/lang/String" "COMPACT_STRINGS" "Z" (.int 1) A U H ∧ va_Zq "jdk/internal/util/Preconditions" "SIOOBE_FORMATTER" "Ljava/util/function/BiFunction;" A U H
theorem zSt1_moved {cA : zCA} {i : Nat} {A : Nat → Prop} {u U : State} {H : Heap} (hvm : u.vm.Alike U.vm) (h : zSt1 cA i A u H) : zSt1 cA i A U H := ⟨va_O.moved hvm h.1, va_OF.moved hvm h.2.1, va_OF.moved hvm h.2.2.1, va_T.moved hvm h.2.2.2⟩
theorem zST_warm {cA : zCA} {A : Nat → Prop} {s U : State} {H : Heap} (hW : s.WarmedH U.vm) (h : zST cA A s H) : zST cA A U H := ⟨fun i hi => ⟨vk_R.warm hW (h.1 i hi).1, zSt1_moved hW.alike (h.1 i hi).2⟩, h.2.1.moved hW.alike, h.2.2.moved hW.alike⟩
theorem zST_same {cA : zCA} {A : Nat → Prop} {u U : State} {H : Heap} (hv : U.vm = u.vm) (h : zST cA A u H) : zST cA A U H := by
  have ha : u.vm.Alike U.vm := by rw [hv]; exact Vm.Alike.refl u.vm
  exact ⟨fun i hi => ⟨vk_R.same hv (h.1 i hi).1, zSt1_moved ha (h.1 i hi).2⟩, h.2.1.moved ha, h.2.2.moved ha⟩
theorem zST_kept {cA : zCA} {A : Nat → Prop} {U : State} {H H1 : Heap} (h : zST cA A U H) (hq : ∀ a : Nat, a < H.size → ¬ A a → H1[a]? = H[a]?) : zST cA A U H1 := ⟨fun i hi => ⟨(h.1 i hi).1, (h.1 i hi).2.1.kept hq, (h.1 i hi).2.2.1.kept hq, (h.1 i hi).2.2.2.1.kept hq, (h.1 i hi).2.2.2.2.kept hq⟩, h.2.1.kept hq, h.2.2.kept hq⟩
theorem zST_narrow {cA : zCA} {A B : Nat → Prop} {U : State} {H : Heap} (h : zST cA A U H) (hAB : ∀ q, B q → A q) : zST cA B U H := ⟨fun i hi => ⟨(h.1 i hi).1, (h.1 i hi).2.1.narrow hAB, (h.1 i hi).2.2.1.narrow hAB, (h.1 i hi).2.2.2.1.narrow hAB, (h.1 i hi).2.2.2.2.narrow hAB⟩, h.2.1.narrow hAB, h.2.2.narrow hAB⟩
def zC0 (G : va_G) (cA : zCA) (wc : va_W) (sz : Nat) : State → Prop := fun U => U.heap.size = sz ∧ va_P G vwCl wc U.heap ∧ va_K G vwCl (zTY cA) U ∧ zEX U ∧ zST cA (va_A wc sz) U U.heap ∧ va_D (fun _ => True) wc
theorem z_blind {av : List Value} {G : va_G} {cA : zCA} {wc : va_W} {sz : Nat} : FrameBlind (va_Pc av (zC0 G cA wc sz)) := fun a U g mk q => by
  obtain ⟨q0, q1, qP, qK, qE, qT, qD⟩ := q
  exact ⟨q0, q1, qP, va_K.moved (u := U) (U := U.calling g mk a) (Vm.Alike.refl U.vm) qK, zEX_same (u := U) (U := U.calling g mk a) rfl qE, zST_same (u := U) (U := U.calling g mk a) rfl qT, qD⟩
theorem z_pre {s : State} {H : Heap} {locs : List Loc} {av : List Value} {G : va_G} {cA : zCA} {wc : va_W} {A A' : Nat → Prop} (hP : va_P G vwCl wc H) (hK : va_K G vwCl (zTY cA) s) (hE : zEX s) (hT : zST cA A s s.heap) (hS : va_S A s.heap H locs) (hF : ∀ q, va_A wc H.size q → A q) (hD : va_D A' wc) : ∀ U : State, U.heap = H → s.WarmedH U.vm → va_Pc av (zC0 G cA wc H.size) av.toArray U := fun U hU hW => ⟨rfl, by rw [hU], by rw [hU]; exact hP, va_K.moved hW.alike hK, zEX_warm hW hE, by rw [hU]; exact zST_narrow (zST_kept (zST_warm hW hT) (fun a h1 h2 => hS.2.1 a h1 h2)) hF, hD.weaken (fun _ _ _ _ => trivial)⟩

def zQi {S : Type} (G : va_G) (A : Nat → Prop) (post : Int32 → S → Prop) (w1 : S → va_W) : Array Value → State → Outcome → State → Prop := va_Qi post (fun u t => va_P G vwCl (w1 u) t.heap ∧ va_D A (w1 u)) A
def zCi (l : Launch) (y : MethodName) (cb : ByteArray) (nL : Nat) (ret : Option FieldType) (rm : Room) (G : va_G) (cA : zCA) (av : List Value) (wc : va_W) {S : Type} (post : Int32 → S → Prop) (w1 : S → va_W) (mc ms : Nat) : Prop := ∀ sz : Nat, Met l y (Cond.code y cb nL ret :: TB) rm (va_Pc av (zC0 G cA wc sz)) (zQi G (va_A wc sz) post w1) mc ms (va_A wc sz)
def zQv {S : Type} (G : va_G) (A : Nat → Prop) (post : S → Prop) (w1 : S → va_W) : Array Value → State → Outcome → State → Prop := va_Qv post (fun u t => va_P G vwCl (w1 u) t.heap ∧ va_D A (w1 u)) A
def zCv (l : Launch) (y : MethodName) (cb : ByteArray) (nL : Nat) (ret : Option FieldType) (rm : Room) (G : va_G) (cA : zCA) (av : List Value) (wc : va_W) {S : Type} (post : S → Prop) (w1 : S → va_W) (mc ms : Nat) : Prop := ∀ sz : Nat, Met l y (Cond.code y cb nL ret :: TB) rm (va_Pc av (zC0 G cA wc sz)) (zQv G (va_A wc sz) post w1) mc ms (va_A wc sz)
def zQl {S : Type} (G : va_G) (A : Nat → Prop) (post : Int64 → S → Prop) (w1 : S → va_W) : Array Value → State → Outcome → State → Prop := va_Ql post (fun u t => va_P G vwCl (w1 u) t.heap ∧ va_D A (w1 u)) A
def zCl (l : Launch) (y : MethodName) (cb : ByteArray) (nL : Nat) (ret : Option FieldType) (rm : Room) (G : va_G) (cA : zCA) (av : List Value) (wc : va_W) {S : Type} (post : Int64 → S → Prop) (w1 : S → va_W) (mc ms : Nat) : Prop := ∀ sz : Nat, Met l y (Cond.code y cb nL ret :: TB) rm (va_Pc av (zC0 G cA wc sz)) (zQl G (va_A wc sz) post w1) mc ms (va_A wc sz)
def zQq {S : Type} (G : va_G) (A : Nat → Prop) (post : Option Nat → S → Prop) (w1 : S → va_W) : Array Value → State → Outcome → State → Prop := va_Qq post (fun u t => va_P G vwCl (w1 u) t.heap ∧ va_D A (w1 u)) A
def zCq (l : Launch) (y : MethodName) (cb : ByteArray) (nL : Nat) (ret : Option FieldType) (rm : Room) (G : va_G) (cA : zCA) (av : List Value) (wc : va_W) {S : Type} (post : Option Nat → S → Prop) (w1 : S → va_W) (mc ms : Nat) : Prop := ∀ sz : Nat, Met l y (Cond.code y cb nL ret :: TB) rm (va_Pc av (zC0 G cA wc sz)) (zQq G (va_A wc sz) post w1) mc ms (va_A wc sz)
theorem z_start2i {l : Launch} {y : MethodName} {cb : ByteArray} {nL : Nat} {rm : Room} {G : va_G} {cA : zCA} {av : List Value} {wc : va_W} {S : Type} {post : Int32 → S → Prop} {w1 : S → va_W} {mc ms : Nat} {own : String} (hy : plainName y.cls = true) (hla : (lg_sl av).length ≤ nL) (hcl : y.cls = own)
    (k : ∀ (p : Program) (e : Env) (s : State) (m : MethodId) (args : Array Value) (below : List Frame) (meth : Method) (c : Code) (A : Nat → Prop) (ls : Array Slot) (Q : State → Prop), p.tables.exec = Jvm.exec → c.code = cb → c.maxLocals = nL → (∀ w ∈ TB, w.before args s = true) → s.vm.findClass own = some m.cls → va_K G vwCl (zTY cA) s → zEX s → zST cA A s s.heap → va_P G vwCl wc s.heap → va_D A wc → va_S A s.heap s.heap [] → (∀ q, s.heap.size ≤ q → A q) → lv_has ls nL (lv_args 0 av) →
      (∀ (pc : Nat) (H : Heap) (locs : List Loc) (ls : Array Slot) (ws : va_W) (v : Int32) (u : S) (isW : List Nat), va_P G vwCl ws H → va_D A ws → va_S A s.heap H locs → isW.map (fun i => ws[i]?) = (w1 u).map some → va_nd isW = true → decode cb pc = .ok (.ireturn, 1) → post v u → W p l e rm s m args below meth c H locs mc ms Q (F0 m pc ls [.int v])) →
      W p l e rm s m args below meth c s.heap [] 0 0 Q (F0 m 0 ls [])) : zCi l y cb nL (some .int) rm G cA av wc post w1 mc ms := by
  intro sz
  refine Met.ofW (cc := cb) (maxL := nL) (ret := some .int) hy rfl ?_
  intro p e s m args below meth c s₁ B hml hv
  obtain ⟨rfl, hsz, hP, hK, hE, hT, hD0⟩ := hv
  subst hsz
  subst hcl
  rw [lg_entry_eq]
  have hx := B.exec
  have hb := B.bytes
  have hr := B.returns
  have hlocks := B.notSynchronized
  refine k p e s m _ below meth c (va_A wc s.heap.size) _ _ hx hb hml (fun w h => atoms_spec (ws := Cond.code y cb nL (some .int) :: TB) B.pre w (List.mem_cons_of_mem _ h)) (findClass_of_methodNamed B.named) hK hE hT hP hD0.self va_S.rf (fun q h => Or.inr h) (lv_entry av hla) ?_
  intro pc H locs ls ws v u isW hP hD hS hC hnd hdg hp
  exact W.iret hx hb hr (fun t ht hW => ⟨⟨v, u, rfl, hp, by rw [ht]; exact va_P_of_places hP isW hC, hD.sub isW hnd hC⟩, hS.F ht⟩) hS.2.2 hdg hlocks

theorem z_start2z {l : Launch} {y : MethodName} {cb : ByteArray} {nL : Nat} {rm : Room} {G : va_G} {cA : zCA} {av : List Value} {wc : va_W} {S : Type} {post : Int32 → S → Prop} {w1 : S → va_W} {mc ms : Nat} {own : String} (hy : plainName y.cls = true) (hla : (lg_sl av).length ≤ nL) (hcl : y.cls = own)
    (k : ∀ (p : Program) (e : Env) (s : State) (m : MethodId) (args : Array Value) (below : List Frame) (meth : Method) (c : Code) (A : Nat → Prop) (ls : Array Slot) (Q : State → Prop), p.tables.exec = Jvm.exec → c.code = cb → c.maxLocals = nL → (∀ w ∈ TB, w.before args s = true) → s.vm.findClass own = some m.cls → va_K G vwCl (zTY cA) s → zEX s → zST cA A s s.heap → va_P G vwCl wc s.heap → va_D A wc → va_S A s.heap s.heap [] → (∀ q, s.heap.size ≤ q → A q) → lv_has ls nL (lv_args 0 av) →
      (∀ (pc : Nat) (H : Heap) (locs : List Loc) (ls : Array Slot) (ws : va_W) (v : Int32) (u : S) (isW : List Nat), va_P G vwCl ws H → va_D A ws → va_S A s.heap H locs → isW.map (fun i => ws[i]?) = (w1 u).map some → va_nd isW = true → decode cb pc = .ok (.ireturn, 1) → (v = 0 ∨ v = 1) → post v u → W p l e rm s m args below meth c H locs mc ms Q (F0 m pc ls [.int v])) →
      W p l e rm s m args below meth c s.heap [] 0 0 Q (F0 m 0 ls [])) : zCi l y cb nL (some .boolean) rm G cA av wc post w1 mc ms := by
  intro sz
  refine Met.ofW (cc := cb) (maxL := nL) (ret := some .boolean) hy rfl ?_
  intro p e s m args below meth c s₁ B hml hv
  obtain ⟨rfl, hsz, hP, hK, hE, hT, hD0⟩ := hv
  subst hsz
  subst hcl
  rw [lg_entry_eq]
  have hx := B.exec
  have hb := B.bytes
  have hr := B.returns
  have hlocks := B.notSynchronized
  refine k p e s m _ below meth c (va_A wc s.heap.size) _ _ hx hb hml (fun w h => atoms_spec (ws := Cond.code y cb nL (some .boolean) :: TB) B.pre w (List.mem_cons_of_mem _ h)) (findClass_of_methodNamed B.named) hK hE hT hP hD0.self va_S.rf (fun q h => Or.inr h) (lv_entry av hla) ?_
  intro pc H locs ls ws v u isW hP hD hS hC hnd hdg hz hp
  exact W.zret hx hb hr (by rcases hz with rfl | rfl <;> decide +kernel) (fun t ht hW => ⟨⟨v, u, rfl, hp, by rw [ht]; exact va_P_of_places hP isW hC, hD.sub isW hnd hC⟩, hS.F ht⟩) hS.2.2 hdg hlocks

theorem z_start2b {l : Launch} {y : MethodName} {cb : ByteArray} {nL : Nat} {rm : Room} {G : va_G} {cA : zCA} {av : List Value} {wc : va_W} {S : Type} {post : Int32 → S → Prop} {w1 : S → va_W} {mc ms : Nat} {own : String} (hy : plainName y.cls = true) (hla : (lg_sl av).length ≤ nL) (hcl : y.cls = own)
    (k : ∀ (p : Program) (e : Env) (s : State) (m : MethodId) (args : Array Value) (below : List Frame) (meth : Method) (c : Code) (A : Nat → Prop) (ls : Array Slot) (Q : State → Prop), p.tables.exec = Jvm.exec → c.code = cb → c.maxLocals = nL → (∀ w ∈ TB, w.before args s = true) → s.vm.findClass own = some m.cls → va_K G vwCl (zTY cA) s → zEX s → zST cA A s s.heap → va_P G vwCl wc s.heap → va_D A wc → va_S A s.heap s.heap [] → (∀ q, s.heap.size ≤ q → A q) → lv_has ls nL (lv_args 0 av) →
      (∀ (pc : Nat) (H : Heap) (locs : List Loc) (ls : Array Slot) (ws : va_W) (v : Int32) (u : S) (isW : List Nat), va_P G vwCl ws H → va_D A ws → va_S A s.heap H locs → isW.map (fun i => ws[i]?) = (w1 u).map some → va_nd isW = true → decode cb pc = .ok (.ireturn, 1) → narrow .byte (.int v) = .int v → post v u → W p l e rm s m args below meth c H locs mc ms Q (F0 m pc ls [.int v])) →
      W p l e rm s m args below meth c s.heap [] 0 0 Q (F0 m 0 ls [])) : zCi l y cb nL (some .byte) rm G cA av wc post w1 mc ms := by
  intro sz
  refine Met.ofW (cc := cb) (maxL := nL) (ret := some .byte) hy rfl ?_
  intro p e s m args below meth c s₁ B hml hv
  obtain ⟨rfl, hsz, hP, hK, hE, hT, hD0⟩ := hv
  subst hsz
  subst hcl
  rw [lg_entry_eq]
  have hx := B.exec
  have hb := B.bytes
  have hr := B.returns
  have hlocks := B.notSynchronized
  refine k p e s m _ below meth c (va_A wc s.heap.size) _ _ hx hb hml (fun w h => atoms_spec (ws := Cond.code y cb nL (some .byte) :: TB) B.pre w (List.mem_cons_of_mem _ h)) (findClass_of_methodNamed B.named) hK hE hT hP hD0.self va_S.rf (fun q h => Or.inr h) (lv_entry av hla) ?_
  intro pc H locs ls ws v u isW hP hD hS hC hnd hdg hz hp
  exact W.zret hx hb hr hz (fun t ht hW => ⟨⟨v, u, rfl, hp, by rw [ht]; exact va_P_of_places hP isW hC, hD.sub isW hnd hC⟩, hS.F ht⟩) hS.2.2 hdg hlocks

theorem z_start2c {l : Launch} {y : MethodName} {cb : ByteArray} {nL : Nat} {rm : Room} {G : va_G} {cA : zCA} {av : List Value} {wc : va_W} {S : Type} {post : Int32 → S → Prop} {w1 : S → va_W} {mc ms : Nat} {own : String} (hy : plainName y.cls = true) (hla : (lg_sl av).length ≤ nL) (hcl : y.cls = own)
    (k : ∀ (p : Program) (e : Env) (s : State) (m : MethodId) (args : Array Value) (below : List Frame) (meth : Method) (c : Code) (A : Nat → Prop) (ls : Array Slot) (Q : State → Prop), p.tables.exec = Jvm.exec → c.code = cb → c.maxLocals = nL → (∀ w ∈ TB, w.before args s = true) → s.vm.findClass own = some m.cls → va_K G vwCl (zTY cA) s → zEX s → zST cA A s s.heap → va_P G vwCl wc s.heap → va_D A wc → va_S A s.heap s.heap [] → (∀ q, s.heap.size ≤ q → A q) → lv_has ls nL (lv_args 0 av) →
      (∀ (pc : Nat) (H : Heap) (locs : List Loc) (ls : Array Slot) (ws : va_W) (v : Int32) (u : S) (isW : List Nat), va_P G vwCl ws H → va_D A ws → va_S A s.heap H locs → isW.map (fun i => ws[i]?) = (w1 u).map some → va_nd isW = true → decode cb pc = .ok (.ireturn, 1) → narrow .char (.int v) = .int v → post v u → W p l e rm s m args below meth c H locs mc ms Q (F0 m pc ls [.int v])) →
      W p l e rm s m args below meth c s.heap [] 0 0 Q (F0 m 0 ls [])) : zCi l y cb nL (some .char) rm G cA av wc post w1 mc ms := by
  intro sz
  refine Met.ofW (cc := cb) (maxL := nL) (ret := some .char) hy rfl ?_
  intro p e s m args below meth c s₁ B hml hv
  obtain ⟨rfl, hsz, hP, hK, hE, hT, hD0⟩ := hv
  subst hsz
  subst hcl
  rw [lg_entry_eq]
  have hx := B.exec
  have hb := B.bytes
  have hr := B.returns
  have hlocks := B.notSynchronized
  refine k p e s m _ below meth c (va_A wc s.heap.size) _ _ hx hb hml (fun w h => atoms_spec (ws := Cond.code y cb nL (some .char) :: TB) B.pre w (List.mem_cons_of_mem _ h)) (findClass_of_methodNamed B.named) hK hE hT hP hD0.self va_S.rf (fun q h => Or.inr h) (lv_entry av hla) ?_
  intro pc H locs ls ws v u isW hP hD hS hC hnd hdg hz hp
  exact W.zret hx hb hr hz (fun t ht hW => ⟨⟨v, u, rfl, hp, by rw [ht]; exact va_P_of_places hP isW hC, hD.sub isW hnd hC⟩, hS.F ht⟩) hS.2.2 hdg hlocks

theorem z_start2l {l : Launch} {y : MethodName} {cb : ByteArray} {nL : Nat} {rm : Room} {G : va_G} {cA : zCA} {av : List Value} {wc : va_W} {S : Type} {post : Int64 → S → Prop} {w1 : S → va_W} {mc ms : Nat} {own : String} (hy : plainName y.cls = true) (hla : (lg_sl av).length ≤ nL) (hcl : y.cls = own)
    (k : ∀ (p : Program) (e : Env) (s : State) (m : MethodId) (args : Array Value) (below : List Frame) (meth : Method) (c : Code) (A : Nat → Prop) (ls : Array Slot) (Q : State → Prop), p.tables.exec = Jvm.exec → c.code = cb → c.maxLocals = nL → (∀ w ∈ TB, w.before args s = true) → s.vm.findClass own = some m.cls → va_K G vwCl (zTY cA) s → zEX s → zST cA A s s.heap → va_P G vwCl wc s.heap → va_D A wc → va_S A s.heap s.heap [] → (∀ q, s.heap.size ≤ q → A q) → lv_has ls nL (lv_args 0 av) →
      (∀ (pc : Nat) (H : Heap) (locs : List Loc) (ls : Array Slot) (ws : va_W) (v : Int64) (u : S) (isW : List Nat), va_P G vwCl ws H → va_D A ws → va_S A s.heap H locs → isW.map (fun i => ws[i]?) = (w1 u).map some → va_nd isW = true → decode cb pc = .ok (.lreturn, 1) → post v u → W p l e rm s m args below meth c H locs mc ms Q (F0 m pc ls [.long v])) →
      W p l e rm s m args below meth c s.heap [] 0 0 Q (F0 m 0 ls [])) : zCl l y cb nL (some .long) rm G cA av wc post w1 mc ms := by
  intro sz
  refine Met.ofW (cc := cb) (maxL := nL) (ret := some .long) hy rfl ?_
  intro p e s m args below meth c s₁ B hml hv
  obtain ⟨rfl, hsz, hP, hK, hE, hT, hD0⟩ := hv
  subst hsz
  subst hcl
  rw [lg_entry_eq]
  have hx := B.exec
  have hb := B.bytes
  have hr := B.returns
  have hlocks := B.notSynchronized
  refine k p e s m _ below meth c (va_A wc s.heap.size) _ _ hx hb hml (fun w h => atoms_spec (ws := Cond.code y cb nL (some .long) :: TB) B.pre w (List.mem_cons_of_mem _ h)) (findClass_of_methodNamed B.named) hK hE hT hP hD0.self va_S.rf (fun q h => Or.inr h) (lv_entry av hla) ?_
  intro pc H locs ls ws v u isW hP hD hS hC hnd hdg hp
  exact W.lret hx hb hr (fun t ht hW => ⟨⟨v, u, rfl, hp, by rw [ht]; exact va_P_of_places hP isW hC, hD.sub isW hnd hC⟩, hS.F ht⟩) hS.2.2 hdg hlocks

theorem z_start2v {l : Launch} {y : MethodName} {cb : ByteArray} {nL : Nat} {rm : Room} {G : va_G} {cA : zCA} {av : List Value} {wc : va_W} {S : Type} {post : S → Prop} {w1 : S → va_W} {mc ms : Nat} {own : String} (hy : plainName y.cls = true) (hla : (lg_sl av).length ≤ nL) (hcl : y.cls = own)
    (k : ∀ (p : Program) (e : Env) (s : State) (m : MethodId) (args : Array Value) (below : List Frame) (meth : Method) (c : Code) (A : Nat → Prop) (ls : Array Slot) (Q : State → Prop), p.tables.exec = Jvm.exec → c.code = cb → c.maxLocals = nL → (∀ w ∈ TB, w.before args s = true) → s.vm.findClass own = some m.cls → va_K G vwCl (zTY cA) s → zEX s → zST cA A s s.heap → va_P G vwCl wc s.heap → va_D A wc → va_S A s.heap s.heap [] → (∀ q, s.heap.size ≤ q → A q) → lv_has ls nL (lv_args 0 av) →
      (∀ (pc : Nat) (H : Heap) (locs : List Loc) (ls : Array Slot) (ws : va_W) (u : S) (isW : List Nat), va_P G vwCl ws H → va_D A ws → va_S A s.heap H locs → isW.map (fun i => ws[i]?) = (w1 u).map some → va_nd isW = true → decode cb pc = .ok (.return_, 1) → post u → W p l e rm s m args below meth c H locs mc ms Q (F0 m pc ls [])) →
      W p l e rm s m args below meth c s.heap [] 0 0 Q (F0 m 0 ls [])) : zCv l y cb nL (none) rm G cA av wc post w1 mc ms := by
  intro sz
  refine Met.ofW (cc := cb) (maxL := nL) (ret := none) hy rfl ?_
  intro p e s m args below meth c s₁ B hml hv
  obtain ⟨rfl, hsz, hP, hK, hE, hT, hD0⟩ := hv
  subst hsz
  subst hcl
  rw [lg_entry_eq]
  have hx := B.exec
  have hb := B.bytes
  have hr := B.returns
  have hlocks := B.notSynchronized
  refine k p e s m _ below meth c (va_A wc s.heap.size) _ _ hx hb hml (fun w h => atoms_spec (ws := Cond.code y cb nL (none) :: TB) B.pre w (List.mem_cons_of_mem _ h)) (findClass_of_methodNamed B.named) hK hE hT hP hD0.self va_S.rf (fun q h => Or.inr h) (lv_entry av hla) ?_
  intro pc H locs ls ws u isW hP hD hS hC hnd hdg hp
  exact W.vret hx hb hr (fun t ht hW => ⟨⟨u, rfl, hp, by rw [ht]; exact va_P_of_places hP isW hC, hD.sub isW hnd hC⟩, hS.F ht⟩) hS.2.2 hdg hlocks

def zLN (y : MethodName) (n : Nat) : Prop := y.cls ≠ "java/lang/invoke/MethodHandle" ∧ y.cls ≠ "java/lang/invoke/VarHandle" ∧ (parseMethodDescriptor y.desc).map (fun d => d.parameters.length) = some n
def zLV (own : String) (index : Nat) (y : MethodName) (cb : ByteArray) (mL : Nat) (ret : Option FieldType) (n : Nat) : Prop := Cond.methodLink own index y ∈ TB ∧ Cond.instanceMethod y ∈ TB ∧ Cond.selects y.cls y y ∈ TB ∧ Cond.initialized y.cls ∈ TB ∧ Cond.code y cb mL ret ∈ TB ∧ zLN y n
def zLS (own : String) (index : Nat) (y : MethodName) (cb : ByteArray) (mL : Nat) (ret : Option FieldType) (n : Nat) : Prop := Cond.methodLink own index y ∈ TB ∧ Cond.static y ∈ TB ∧ Cond.initialized y.cls ∈ TB ∧ Cond.code y cb mL ret ∈ TB ∧ zLN y n
def zLSN (own : String) (index : Nat) (y : MethodName) (host : String) (cb : ByteArray) (mL : Nat) (ret : Option FieldType) (n : Nat) : Prop := Cond.methodLinkNest own index y host ∈ NB ∧ Cond.static y ∈ TB ∧ Cond.initialized y.cls ∈ TB ∧ Cond.code y cb mL ret ∈ TB ∧ zLN y n
def zLI (own : String) (index : Nat) (y : MethodName) (cb : ByteArray) (mL : Nat) (n : Nat) : Prop := Cond.methodLink own index y ∈ TB ∧ Cond.instanceMethod y ∈ TB ∧ Cond.initialized y.cls ∈ TB ∧ Cond.code y cb mL none ∈ TB ∧ y.name = "<init>" ∧ zLN y n
def zLIN (own : String) (index : Nat) (y : MethodName) (host : String) (cb : ByteArray) (mL : Nat) (n : Nat) : Prop := Cond.methodLinkNest own index y host ∈ NB ∧ Cond.instanceMethod y ∈ TB ∧ Cond.initialized y.cls ∈ TB ∧ Cond.code y cb mL none ∈ TB ∧ y.name = "<init>" ∧ zLN y n
theorem z_goodC {y : MethodName} {cb : ByteArray} {mL : Nat} {ret : Option FieldType} (h : Cond.code y cb mL ret ∈ TB) : GoodIn TB (Cond.code y cb mL ret :: TB) := fun w hw => by
  rcases List.mem_cons.mp hw with rfl | hw
  · exact tb_good _ h
  · exact tb_good _ hw
section ZC
variable {p : Program} {l : Launch} {e : Env} {R : Room} {s : State} {m : MethodId} {args : Array Value} {below : List Frame} {meth : Method} {c : Code} {H : Heap} {locs : List Loc} {cells slots : Nat} {Q : State → Prop} {cc : ByteArray} {pc nL : Nat} {ls : Array Slot} {rest st : List Value} {G : va_G} {cA : zCA} {A : Nat → Prop} {ws wc wr : va_W} {H0 : Heap} {own host : String} {index : Nat} {y : MethodName} {cb : ByteArray} {mL n : Nat} {ret : Option FieldType} {rm : Room} {b : Nat} {As : List Value} {mc ms : Nat}


theorem z_rc {i : Nat} (hT : zST cA A s s.heap) (hi : i < 42) (hS : va_S A s.heap H locs) : ∃ cellB : Cell, H[cA.2.1 i]? = some cellB ∧ cellB.vm.isStatics = false ∧ s.vm.findClass "java/lang/String" = some cellB.cls := by
  obtain ⟨cell, h1, h2, h3, -⟩ := (hT.1 i hi).2.1.kept hS.2.1
  exact ⟨cell, h1, h2, h3⟩
theorem z_callWi {S : Type} {post : Int32 → S → Prop} {w1 : S → va_W} (fix : CallFix p m c cc nL s args TB own) (hK : va_K G vwCl (zTY cA) s) (hE : zEX s) (hT : zST cA A s s.heap) (hP : va_P G vwCl ws H) (hD : va_D A ws) (hS : va_S A s.heap H locs) (hA : ∀ q, s.heap.size ≤ q → A q)
    (hM : zCi l y cb mL ret rm G cA (.ref b :: As) wc post w1 mc ms) (lk : zLV own index y cb mL ret n) (hrm : rm.cells = mc ∧ rm.slots = ms) (hR : rm.frames + 1 ≤ R.frames ∧ 8 + (mL + 11) + rm.locals ≤ R.locals) (hcell : ∃ cellB : Cell, H[b]? = some cellB ∧ cellB.vm.isStatics = false ∧ s.vm.findClass y.cls = some cellB.cls) (isC isR : List Nat) (hC : isC.map (fun i => ws[i]?) = wc.map some) (hRr : isR.map (fun i => ws[i]?) = wr.map some) (hnd : va_nd isC = true ∧ va_nd isR = true ∧ ∀ i ∈ isR, i ∉ isC)
    (hn : As.length = n) (hsize : ls.size = nL) (hst : st = As.reverse ++ .ref b :: rest) (hW : 2 * (F0 m pc ls st).monitorRoom + (rest.map fun v => v.category).sum ≤ 8) (hdg : decode cc pc = .ok (.invokevirtual index, 3)) (hf : cells + mc ≤ R.cells ∧ slots + ms ≤ R.slots)
    (kk : ∀ (r : Int32) (u : S) (H1 : Heap) (locs1 : List Loc), post r u → va_P G vwCl (wr ++ w1 u) H1 → va_D A (wr ++ w1 u) → va_S A s.heap H1 locs1 → W p l e R s m args below meth c H1 locs1 (cells + mc) (slots + ms) Q (F0 m (pc + 3) ls (.int r :: rest))) : W p l e R s m args below meth c H locs cells slots Q (F0 m pc ls st) := by
  have hts := fix.2.2.2.2
  have hPw : va_P G vwCl wc H := va_P_of_places hP isC hC
  have hDw : va_D A wc := hD.sub isC hnd.1 hC
  have hF : ∀ q, va_A wc H.size q → A q := va_free hD hS hA isC hC
  have hpre : ∀ U : State, U.heap = H → s.WarmedH U.vm → va_Pc (.ref b :: As) (zC0 G cA wc H.size) ((.ref b :: As) : List Value).toArray U := z_pre hPw hK hE hT hS hF hDw
  refine va_calli (va_runV fix (hM H.size) ⟨callB_of n hts (z_goodC lk.2.2.2.2.1) rfl hrm.1 hrm.2 (hts _ lk.2.2.2.1) (hts _ lk.1) lk.2.2.2.2.2 hR, hts _ lk.2.1, hts _ lk.2.2.1⟩ ⟨z_blind, hcell, hpre⟩ rfl hn hsize hst hW hdg hf) hS (fun q _ h => hF q h) hF (fun r u t H1 locs1 ht hvm hw hB hz hk hS1 => ?_)
  obtain ⟨hP1, hD1⟩ := hB
  rw [ht] at hP1
  obtain ⟨hP2, hD2⟩ := va_join hP hD isC isR hC hRr hnd.2.1 hnd.2.2 hk hF hP1 hD1
  exact kk r u H1 locs1 hw hP2 hD2 hS1

theorem z_callWv {S : Type} {post : S → Prop} {w1 : S → va_W} (fix : CallFix p m c cc nL s args TB own) (hK : va_K G vwCl (zTY cA) s) (hE : zEX s) (hT : zST cA A s s.heap) (hP : va_P G vwCl ws H) (hD : va_D A ws) (hS : va_S A s.heap H locs) (hA : ∀ q, s.heap.size ≤ q → A q)
    (hM : zCv l y cb mL ret rm G cA (.ref b :: As) wc post w1 mc ms) (lk : zLV own index y cb mL ret n) (hrm : rm.cells = mc ∧ rm.slots = ms) (hR : rm.frames + 1 ≤ R.frames ∧ 8 + (mL + 11) + rm.locals ≤ R.locals) (hcell : ∃ cellB : Cell, H[b]? = some cellB ∧ cellB.vm.isStatics = false ∧ s.vm.findClass y.cls = some cellB.cls) (isC isR : List Nat) (hC : isC.map (fun i => ws[i]?) = wc.map some) (hRr : isR.map (fun i => ws[i]?) = wr.map some) (hnd : va_nd isC = true ∧ va_nd isR = true ∧ ∀ i ∈ isR, i ∉ isC)
    (hn : As.length = n) (hsize : ls.size = nL) (hst : st = As.reverse ++ .ref b :: rest) (hW : 2 * (F0 m pc ls st).monitorRoom + (rest.map fun v => v.category).sum ≤ 8) (hdg : decode cc pc = .ok (.invokevirtual index, 3)) (hf : cells + mc ≤ R.cells ∧ slots + ms ≤ R.slots)
    (kk : ∀ (u : S) (H1 : Heap) (locs1 : List Loc), post u → va_P G vwCl (wr ++ w1 u) H1 → va_D A (wr ++ w1 u) → va_S A s.heap H1 locs1 → W p l e R s m args below meth c H1 locs1 (cells + mc) (slots + ms) Q (F0 m (pc + 3) ls (rest))) : W p l e R s m args below meth c H locs cells slots Q (F0 m pc ls st) := by
  have hts := fix.2.2.2.2
  have hPw : va_P G vwCl wc H := va_P_of_places hP isC hC
  have hDw : va_D A wc := hD.sub isC hnd.1 hC
  have hF : ∀ q, va_A wc H.size q → A q := va_free hD hS hA isC hC
  have hpre : ∀ U : State, U.heap = H → s.WarmedH U.vm → va_Pc (.ref b :: As) (zC0 G cA wc H.size) ((.ref b :: As) : List Value).toArray U := z_pre hPw hK hE hT hS hF hDw
  refine va_callv (va_runV fix (hM H.size) ⟨callB_of n hts (z_goodC lk.2.2.2.2.1) rfl hrm.1 hrm.2 (hts _ lk.2.2.2.1) (hts _ lk.1) lk.2.2.2.2.2 hR, hts _ lk.2.1, hts _ lk.2.2.1⟩ ⟨z_blind, hcell, hpre⟩ rfl hn hsize hst hW hdg hf) hS (fun q _ h => hF q h) hF (fun u t H1 locs1 ht hvm hw hB hz hk hS1 => ?_)
  obtain ⟨hP1, hD1⟩ := hB
  rw [ht] at hP1
  obtain ⟨hP2, hD2⟩ := va_join hP hD isC isR hC hRr hnd.2.1 hnd.2.2 hk hF hP1 hD1
  exact kk u H1 locs1 hw hP2 hD2 hS1

theorem z_callVi {S : Type} {post : Int32 → S → Prop} {w1 : S → va_W} (fix : CallFix p m c cc nL s args TB own) (hK : va_K G vwCl (zTY cA) s) (hE : zEX s) (hT : zST cA A s s.heap) (hP : va_P G vwCl ws H) (hD : va_D A ws) (hS : va_S A s.heap H locs) (hA : ∀ q, s.heap.size ≤ q → A q)
    (hM : zCi l y cb mL ret rm G cA (.ref b :: As) wc post w1 mc ms) (lk : zLV own index y cb mL ret n) (hrm : rm.cells = mc ∧ rm.slots = ms) (hR : rm.frames + 1 ≤ R.frames ∧ 8 + (mL + 11) + rm.locals ≤ R.locals) (ci : Nat) {q : vw_C} {fs : List Value} (hc : vwCl[ci]? = some q) (hqC : q.1 = y.cls) (he : wc[0]? = some (b, .inr (ci, fs))) (isC isR : List Nat) (hC : isC.map (fun i => ws[i]?) = wc.map some) (hRr : isR.map (fun i => ws[i]?) = wr.map some) (hnd : va_nd isC = true ∧ va_nd isR = true ∧ ∀ i ∈ isR, i ∉ isC)
    (hn : As.length = n) (hsize : ls.size = nL) (hst : st = As.reverse ++ .ref b :: rest) (hW : 2 * (F0 m pc ls st).monitorRoom + (rest.map fun v => v.category).sum ≤ 8) (hdg : decode cc pc = .ok (.invokevirtual index, 3)) (hf : cells + mc ≤ R.cells ∧ slots + ms ≤ R.slots)
    (kk : ∀ (r : Int32) (u : S) (H1 : Heap) (locs1 : List Loc), post r u → va_P G vwCl (wr ++ w1 u) H1 → va_D A (wr ++ w1 u) → va_S A s.heap H1 locs1 → W p l e R s m args below meth c H1 locs1 (cells + mc) (slots + ms) Q (F0 m (pc + 3) ls (.int r :: rest))) : W p l e R s m args below meth c H locs cells slots Q (F0 m pc ls st) := by
  have hts := fix.2.2.2.2
  have hPw : va_P G vwCl wc H := va_P_of_places hP isC hC
  have hDw : va_D A wc := hD.sub isC hnd.1 hC
  have hF : ∀ q, va_A wc H.size q → A q := va_free hD hS hA isC hC
  have hcell : ∃ cellB : Cell, H[b]? = some cellB ∧ cellB.vm.isStatics = false ∧ s.vm.findClass y.cls = some cellB.cls := by
    rw [← hqC]
    exact va_recv hK hPw (ci := ci) (q0 := 0) hc he
  have hpre : ∀ U : State, U.heap = H → s.WarmedH U.vm → va_Pc (.ref b :: As) (zC0 G cA wc H.size) ((.ref b :: As) : List Value).toArray U := z_pre hPw hK hE hT hS hF hDw
  refine va_calli (va_runV fix (hM H.size) ⟨callB_of n hts (z_goodC lk.2.2.2.2.1) rfl hrm.1 hrm.2 (hts _ lk.2.2.2.1) (hts _ lk.1) lk.2.2.2.2.2 hR, hts _ lk.2.1, hts _ lk.2.2.1⟩ ⟨z_blind, hcell, hpre⟩ rfl hn hsize hst hW hdg hf) hS (fun q _ h => hF q h) hF (fun r u t H1 locs1 ht hvm hw hB hz hk hS1 => ?_)
  obtain ⟨hP1, hD1⟩ := hB
  rw [ht] at hP1
  obtain ⟨hP2, hD2⟩ := va_join hP hD isC isR hC hRr hnd.2.1 hnd.2.2 hk hF hP1 hD1
  exact kk r u H1 locs1 hw hP2 hD2 hS1

theorem z_callVv {S : Type} {post : S → Prop} {w1 : S → va_W} (fix : CallFix p m c cc nL s args TB own) (hK : va_K G vwCl (zTY cA) s) (hE : zEX s) (hT : zST cA A s s.heap) (hP : va_P G vwCl ws H) (hD : va_D A ws) (hS : va_S A s.heap H locs) (hA : ∀ q, s.heap.size ≤ q → A q)
    (hM : zCv l y cb mL ret rm G cA (.ref b :: As) wc post w1 mc ms) (lk : zLV own index y cb mL ret n) (hrm : rm.cells = mc ∧ rm.slots = ms) (hR : rm.frames + 1 ≤ R.frames ∧ 8 + (mL + 11) + rm.locals ≤ R.locals) (ci : Nat) {q : vw_C} {fs : List Value} (hc : vwCl[ci]? = some q) (hqC : q.1 = y.cls) (he : wc[0]? = some (b, .inr (ci, fs))) (isC isR : List Nat) (hC : isC.map (fun i => ws[i]?) = wc.map some) (hRr : isR.map (fun i => ws[i]?) = wr.map some) (hnd : va_nd isC = true ∧ va_nd isR = true ∧ ∀ i ∈ isR, i ∉ isC)
    (hn : As.length = n) (hsize : ls.size = nL) (hst : st = As.reverse ++ .ref b :: rest) (hW : 2 * (F0 m pc ls st).monitorRoom + (rest.map fun v => v.category).sum ≤ 8) (hdg : decode cc pc = .ok (.invokevirtual index, 3)) (hf : cells + mc ≤ R.cells ∧ slots + ms ≤ R.slots)
    (kk : ∀ (u : S) (H1 : Heap) (locs1 : List Loc), post u → va_P G vwCl (wr ++ w1 u) H1 → va_D A (wr ++ w1 u) → va_S A s.heap H1 locs1 → W p l e R s m args below meth c H1 locs1 (cells + mc) (slots + ms) Q (F0 m (pc + 3) ls (rest))) : W p l e R s m args below meth c H locs cells slots Q (F0 m pc ls st) := by
  have hts := fix.2.2.2.2
  have hPw : va_P G vwCl wc H := va_P_of_places hP isC hC
  have hDw : va_D A wc := hD.sub isC hnd.1 hC
  have hF : ∀ q, va_A wc H.size q → A q := va_free hD hS hA isC hC
  have hcell : ∃ cellB : Cell, H[b]? = some cellB ∧ cellB.vm.isStatics = false ∧ s.vm.findClass y.cls = some cellB.cls := by
    rw [← hqC]
    exact va_recv hK hPw (ci := ci) (q0 := 0) hc he
  have hpre : ∀ U : State, U.heap = H → s.WarmedH U.vm → va_Pc (.ref b :: As) (zC0 G cA wc H.size) ((.ref b :: As) : List Value).toArray U := z_pre hPw hK hE hT hS hF hDw
  refine va_callv (va_runV fix (hM H.size) ⟨callB_of n hts (z_goodC lk.2.2.2.2.1) rfl hrm.1 hrm.2 (hts _ lk.2.2.2.1) (hts _ lk.1) lk.2.2.2.2.2 hR, hts _ lk.2.1, hts _ lk.2.2.1⟩ ⟨z_blind, hcell, hpre⟩ rfl hn hsize hst hW hdg hf) hS (fun q _ h => hF q h) hF (fun u t H1 locs1 ht hvm hw hB hz hk hS1 => ?_)
  obtain ⟨hP1, hD1⟩ := hB
  rw [ht] at hP1
  obtain ⟨hP2, hD2⟩ := va_join hP hD isC isR hC hRr hnd.2.1 hnd.2.2 hk hF hP1 hD1
  exact kk u H1 locs1 hw hP2 hD2 hS1

theorem z_callVl {S : Type} {post : Int64 → S → Prop} {w1 : S → va_W} (fix : CallFix p m c cc nL s args TB own) (hK : va_K G vwCl (zTY cA) s) (hE : zEX s) (hT : zST cA A s s.heap) (hP : va_P G vwCl ws H) (hD : va_D A ws) (hS : va_S A s.heap H locs) (hA : ∀ q, s.heap.size ≤ q → A q)
    (hM : zCl l y cb mL ret rm G cA (.ref b :: As) wc post w1 mc ms) (lk : zLV own index y cb mL ret n) (hrm : rm.cells = mc ∧ rm.slots = ms) (hR : rm.frames + 1 ≤ R.frames ∧ 8 + (mL + 11) + rm.locals ≤ R.locals) (ci : Nat) {q : vw_C} {fs : List Value} (hc : vwCl[ci]? = some q) (hqC : q.1 = y.cls) (he : wc[0]? = some (b, .inr (ci, fs))) (isC isR : List Nat) (hC : isC.map (fun i => ws[i]?) = wc.map some) (hRr : isR.map (fun i => ws[i]?) = wr.map some) (hnd : va_nd isC = true ∧ va_nd isR = true ∧ ∀ i ∈ isR, i ∉ isC)
    (hn : As.length = n) (hsize : ls.size = nL) (hst : st = As.reverse ++ .ref b :: rest) (hW : 2 * (F0 m pc ls st).monitorRoom + (rest.map fun v => v.category).sum ≤ 8) (hdg : decode cc pc = .ok (.invokevirtual index, 3)) (hf : cells + mc ≤ R.cells ∧ slots + ms ≤ R.slots)
    (kk : ∀ (r : Int64) (u : S) (H1 : Heap) (locs1 : List Loc), post r u → va_P G vwCl (wr ++ w1 u) H1 → va_D A (wr ++ w1 u) → va_S A s.heap H1 locs1 → W p l e R s m args below meth c H1 locs1 (cells + mc) (slots + ms) Q (F0 m (pc + 3) ls (.long r :: rest))) : W p l e R s m args below meth c H locs cells slots Q (F0 m pc ls st) := by
  have hts := fix.2.2.2.2
  have hPw : va_P G vwCl wc H := va_P_of_places hP isC hC
  have hDw : va_D A wc := hD.sub isC hnd.1 hC
  have hF : ∀ q, va_A wc H.size q → A q := va_free hD hS hA isC hC
  have hcell : ∃ cellB : Cell, H[b]? = some cellB ∧ cellB.vm.isStatics = false ∧ s.vm.findClass y.cls = some cellB.cls := by
    rw [← hqC]
    exact va_recv hK hPw (ci := ci) (q0 := 0) hc he
  have hpre : ∀ U : State, U.heap = H → s.WarmedH U.vm → va_Pc (.ref b :: As) (zC0 G cA wc H.size) ((.ref b :: As) : List Value).toArray U := z_pre hPw hK hE hT hS hF hDw
  refine va_calll (va_runV fix (hM H.size) ⟨callB_of n hts (z_goodC lk.2.2.2.2.1) rfl hrm.1 hrm.2 (hts _ lk.2.2.2.1) (hts _ lk.1) lk.2.2.2.2.2 hR, hts _ lk.2.1, hts _ lk.2.2.1⟩ ⟨z_blind, hcell, hpre⟩ rfl hn hsize hst hW hdg hf) hS (fun q _ h => hF q h) hF (fun r u t H1 locs1 ht hvm hw hB hz hk hS1 => ?_)
  obtain ⟨hP1, hD1⟩ := hB
  rw [ht] at hP1
  obtain ⟨hP2, hD2⟩ := va_join hP hD isC isR hC hRr hnd.2.1 hnd.2.2 hk hF hP1 hD1
  exact kk r u H1 locs1 hw hP2 hD2 hS1

theorem z_callVq {S : Type} {post : Option Nat → S → Prop} {w1 : S → va_W} (fix : CallFix p m c cc nL s args TB own) (hK : va_K G vwCl (zTY cA) s) (hE : zEX s) (hT : zST cA A s s.heap) (hP : va_P G vwCl ws H) (hD : va_D A ws) (hS : va_S A s.heap H locs) (hA : ∀ q, s.heap.size ≤ q → A q)
    (hM : zCq l y cb mL ret rm G cA (.ref b :: As) wc post w1 mc ms) (lk : zLV own index y cb mL ret n) (hrm : rm.cells = mc ∧ rm.slots = ms) (hR : rm.frames + 1 ≤ R.frames ∧ 8 + (mL + 11) + rm.locals ≤ R.locals) (ci : Nat) {q : vw_C} {fs : List Value} (hc : vwCl[ci]? = some q) (hqC : q.1 = y.cls) (he : wc[0]? = some (b, .inr (ci, fs))) (isC isR : List Nat) (hC : isC.map (fun i => ws[i]?) = wc.map some) (hRr : isR.map (fun i => ws[i]?) = wr.map some) (hnd : va_nd isC = true ∧ va_nd isR = true ∧ ∀ i ∈ isR, i ∉ isC)
    (hn : As.length = n) (hsize : ls.size = nL) (hst : st = As.reverse ++ .ref b :: rest) (hW : 2 * (F0 m pc ls st).monitorRoom + (rest.map fun v => v.category).sum ≤ 8) (hdg : decode cc pc = .ok (.invokevirtual index, 3)) (hf : cells + mc ≤ R.cells ∧ slots + ms ≤ R.slots)
    (kk : ∀ (r : Option Nat) (u : S) (H1 : Heap) (locs1 : List Loc), post r u → va_P G vwCl (wr ++ w1 u) H1 → va_D A (wr ++ w1 u) → va_S A s.heap H1 locs1 → W p l e R s m args below meth c H1 locs1 (cells + mc) (slots + ms) Q (F0 m (pc + 3) ls (va_rf r :: rest))) : W p l e R s m args below meth c H locs cells slots Q (F0 m pc ls st) := by
  have hts := fix.2.2.2.2
  have hPw : va_P G vwCl wc H := va_P_of_places hP isC hC
  have hDw : va_D A wc := hD.sub isC hnd.1 hC
  have hF : ∀ q, va_A wc H.size q → A q := va_free hD hS hA isC hC
  have hcell : ∃ cellB : Cell, H[b]? = some cellB ∧ cellB.vm.isStatics = false ∧ s.vm.findClass y.cls = some cellB.cls := by
    rw [← hqC]
    exact va_recv hK hPw (ci := ci) (q0 := 0) hc he
  have hpre : ∀ U : State, U.heap = H → s.WarmedH U.vm → va_Pc (.ref b :: As) (zC0 G cA wc H.size) ((.ref b :: As) : List Value).toArray U := z_pre hPw hK hE hT hS hF hDw
  refine va_callq (va_runV fix (hM H.size) ⟨callB_of n hts (z_goodC lk.2.2.2.2.1) rfl hrm.1 hrm.2 (hts _ lk.2.2.2.1) (hts _ lk.1) lk.2.2.2.2.2 hR, hts _ lk.2.1, hts _ lk.2.2.1⟩ ⟨z_blind, hcell, hpre⟩ rfl hn hsize hst hW hdg hf) hS (fun q _ h => hF q h) hF (fun r u t H1 locs1 ht hvm hw hB hz hk hS1 => ?_)
  obtain ⟨hP1, hD1⟩ := hB
  rw [ht] at hP1
  obtain ⟨hP2, hD2⟩ := va_join hP hD isC isR hC hRr hnd.2.1 hnd.2.2 hk hF hP1 hD1
  exact kk r u H1 locs1 hw hP2 hD2 hS1

theorem z_callIv {S : Type} {post : S → Prop} {w1 : S → va_W} (fix : CallFix p m c cc nL s args TB own) (hK : va_K G vwCl (zTY cA) s) (hE : zEX s) (hT : zST cA A s s.heap) (hP : va_P G vwCl ws H) (hD : va_D A ws) (hS : va_S A s.heap H locs) (hA : ∀ q, s.heap.size ≤ q → A q)
    (hM : zCv l y cb mL none rm G cA (.ref b :: As) wc post w1 mc ms) (lk : zLI own index y cb mL n) (hrm : rm.cells = mc ∧ rm.slots = ms) (hR : rm.frames + 1 ≤ R.frames ∧ 8 + (mL + 11) + rm.locals ≤ R.locals) (isC isR : List Nat) (hC : isC.map (fun i => ws[i]?) = wc.map some) (hRr : isR.map (fun i => ws[i]?) = wr.map some) (hnd : va_nd isC = true ∧ va_nd isR = true ∧ ∀ i ∈ isR, i ∉ isC)
    (hn : As.length = n) (hsize : ls.size = nL) (hst : st = As.reverse ++ .ref b :: rest) (hW : 2 * (F0 m pc ls st).monitorRoom + (rest.map fun v => v.category).sum ≤ 8) (hdg : decode cc pc = .ok (.invokespecial index, 3)) (hf : cells + mc ≤ R.cells ∧ slots + ms ≤ R.slots)
    (kk : ∀ (u : S) (H1 : Heap) (locs1 : List Loc), post u → va_P G vwCl (wr ++ w1 u) H1 → va_D A (wr ++ w1 u) → va_S A s.heap H1 locs1 → W p l e R s m args below meth c H1 locs1 (cells + mc) (slots + ms) Q (F0 m (pc + 3) ls (rest))) : W p l e R s m args below meth c H locs cells slots Q (F0 m pc ls st) := by
  have hts := fix.2.2.2.2
  have hPw : va_P G vwCl wc H := va_P_of_places hP isC hC
  have hDw : va_D A wc := hD.sub isC hnd.1 hC
  have hF : ∀ q, va_A wc H.size q → A q := va_free hD hS hA isC hC
  have hpre : ∀ U : State, U.heap = H → s.WarmedH U.vm → va_Pc (.ref b :: As) (zC0 G cA wc H.size) ((.ref b :: As) : List Value).toArray U := z_pre hPw hK hE hT hS hF hDw
  refine va_callv (va_runI fix (hM H.size) ⟨callB_of n hts (z_goodC lk.2.2.2.1) rfl hrm.1 hrm.2 (hts _ lk.2.2.1) (hts _ lk.1) lk.2.2.2.2.2 hR, lk.2.2.2.2.1, hts _ lk.2.1⟩ ⟨z_blind, hpre⟩ rfl hn hsize hst hW hdg hf) hS (fun q _ h => hF q h) hF (fun u t H1 locs1 ht hvm hw hB hz hk hS1 => ?_)
  obtain ⟨hP1, hD1⟩ := hB
  rw [ht] at hP1
  obtain ⟨hP2, hD2⟩ := va_join hP hD isC isR hC hRr hnd.2.1 hnd.2.2 hk hF hP1 hD1
  exact kk u H1 locs1 hw hP2 hD2 hS1

theorem z_callINv {S : Type} {post : S → Prop} {w1 : S → va_W} (fix : CallFix p m c cc nL s args TB own) (hK : va_K G vwCl (zTY cA) s) (hE : zEX s) (hT : zST cA A s s.heap) (hP : va_P G vwCl ws H) (hD : va_D A ws) (hS : va_S A s.heap H locs) (hA : ∀ q, s.heap.size ≤ q → A q)
    (hM : zCv l y cb mL none rm G cA (.ref b :: As) wc post w1 mc ms) (lk : zLIN own index y host cb mL n) (hrm : rm.cells = mc ∧ rm.slots = ms) (hR : rm.frames + 1 ≤ R.frames ∧ 8 + (mL + 11) + rm.locals ≤ R.locals) (isC isR : List Nat) (hC : isC.map (fun i => ws[i]?) = wc.map some) (hRr : isR.map (fun i => ws[i]?) = wr.map some) (hnd : va_nd isC = true ∧ va_nd isR = true ∧ ∀ i ∈ isR, i ∉ isC)
    (hn : As.length = n) (hsize : ls.size = nL) (hst : st = As.reverse ++ .ref b :: rest) (hW : 2 * (F0 m pc ls st).monitorRoom + (rest.map fun v => v.category).sum ≤ 8) (hdg : decode cc pc = .ok (.invokespecial index, 3)) (hf : cells + mc ≤ R.cells ∧ slots + ms ≤ R.slots)
    (kk : ∀ (u : S) (H1 : Heap) (locs1 : List Loc), post u → va_P G vwCl (wr ++ w1 u) H1 → va_D A (wr ++ w1 u) → va_S A s.heap H1 locs1 → W p l e R s m args below meth c H1 locs1 (cells + mc) (slots + ms) Q (F0 m (pc + 3) ls (rest))) : W p l e R s m args below meth c H locs cells slots Q (F0 m pc ls st) := by
  have hts := fix.2.2.2.2
  have hPw : va_P G vwCl wc H := va_P_of_places hP isC hC
  have hDw : va_D A wc := hD.sub isC hnd.1 hC
  have hF : ∀ q, va_A wc H.size q → A q := va_free hD hS hA isC hC
  have hpre : ∀ U : State, U.heap = H → s.WarmedH U.vm → va_Pc (.ref b :: As) (zC0 G cA wc H.size) ((.ref b :: As) : List Value).toArray U := z_pre hPw hK hE hT hS hF hDw
  refine va_callv (va_runIN fix (hM H.size) ⟨va_cnB n hts (z_goodC lk.2.2.2.1) rfl hrm.1 hrm.2 (hE.1 _ lk.1) (hts _ lk.2.2.1) lk.2.2.2.2.2 hR, lk.2.2.2.2.1, hts _ lk.2.1⟩ ⟨z_blind, hpre⟩ rfl hn hsize hst hW hdg hf) hS (fun q _ h => hF q h) hF (fun u t H1 locs1 ht hvm hw hB hz hk hS1 => ?_)
  obtain ⟨hP1, hD1⟩ := hB
  rw [ht] at hP1
  obtain ⟨hP2, hD2⟩ := va_join hP hD isC isR hC hRr hnd.2.1 hnd.2.2 hk hF hP1 hD1
  exact kk u H1 locs1 hw hP2 hD2 hS1

theorem z_callSi {S : Type} {post : Int32 → S → Prop} {w1 : S → va_W} (fix : CallFix p m c cc nL s args TB own) (hK : va_K G vwCl (zTY cA) s) (hE : zEX s) (hT : zST cA A s s.heap) (hP : va_P G vwCl ws H) (hD : va_D A ws) (hS : va_S A s.heap H locs) (hA : ∀ q, s.heap.size ≤ q → A q)
    (hM : zCi l y cb mL ret rm G cA As wc post w1 mc ms) (lk : zLS own index y cb mL ret n) (hrm : rm.cells = mc ∧ rm.slots = ms) (hR : rm.frames + 1 ≤ R.frames ∧ 8 + (mL + 11) + rm.locals ≤ R.locals) (isC isR : List Nat) (hC : isC.map (fun i => ws[i]?) = wc.map some) (hRr : isR.map (fun i => ws[i]?) = wr.map some) (hnd : va_nd isC = true ∧ va_nd isR = true ∧ ∀ i ∈ isR, i ∉ isC)
    (hn : As.length = n) (hsize : ls.size = nL) (hst : st = As.reverse ++ rest) (hW : 2 * (F0 m pc ls st).monitorRoom + (rest.map fun v => v.category).sum ≤ 8) (hdg : decode cc pc = .ok (.invokestatic index, 3)) (hf : cells + mc ≤ R.cells ∧ slots + ms ≤ R.slots)
    (kk : ∀ (r : Int32) (u : S) (H1 : Heap) (locs1 : List Loc), post r u → va_P G vwCl (wr ++ w1 u) H1 → va_D A (wr ++ w1 u) → va_S A s.heap H1 locs1 → W p l e R s m args below meth c H1 locs1 (cells + mc) (slots + ms) Q (F0 m (pc + 3) ls (.int r :: rest))) : W p l e R s m args below meth c H locs cells slots Q (F0 m pc ls st) := by
  have hts := fix.2.2.2.2
  have hPw : va_P G vwCl wc H := va_P_of_places hP isC hC
  have hDw : va_D A wc := hD.sub isC hnd.1 hC
  have hF : ∀ q, va_A wc H.size q → A q := va_free hD hS hA isC hC
  have hpre : ∀ U : State, U.heap = H → s.WarmedH U.vm → va_Pc As (zC0 G cA wc H.size) (As : List Value).toArray U := z_pre hPw hK hE hT hS hF hDw
  refine va_calli (va_runS fix (hM H.size) ⟨callB_of n hts (z_goodC lk.2.2.2.1) rfl hrm.1 hrm.2 (hts _ lk.2.2.1) (hts _ lk.1) lk.2.2.2.2 hR, hts _ lk.2.1⟩ ⟨z_blind, hpre⟩ rfl hn hsize hst hW hdg hf) hS (fun q _ h => hF q h) hF (fun r u t H1 locs1 ht hvm hw hB hz hk hS1 => ?_)
  obtain ⟨hP1, hD1⟩ := hB
  rw [ht] at hP1
  obtain ⟨hP2, hD2⟩ := va_join hP hD isC isR hC hRr hnd.2.1 hnd.2.2 hk hF hP1 hD1
  exact kk r u H1 locs1 hw hP2 hD2 hS1

theorem z_callSv {S : Type} {post : S → Prop} {w1 : S → va_W} (fix : CallFix p m c cc nL s args TB own) (hK : va_K G vwCl (zTY cA) s) (hE : zEX s) (hT : zST cA A s s.heap) (hP : va_P G vwCl ws H) (hD : va_D A ws) (hS : va_S A s.heap H locs) (hA : ∀ q, s.heap.size ≤ q → A q)
    (hM : zCv l y cb mL ret rm G cA As wc post w1 mc ms) (lk : zLS own index y cb mL ret n) (hrm : rm.cells = mc ∧ rm.slots = ms) (hR : rm.frames + 1 ≤ R.frames ∧ 8 + (mL + 11) + rm.locals ≤ R.locals) (isC isR : List Nat) (hC : isC.map (fun i => ws[i]?) = wc.map some) (hRr : isR.map (fun i => ws[i]?) = wr.map some) (hnd : va_nd isC = true ∧ va_nd isR = true ∧ ∀ i ∈ isR, i ∉ isC)
    (hn : As.length = n) (hsize : ls.size = nL) (hst : st = As.reverse ++ rest) (hW : 2 * (F0 m pc ls st).monitorRoom + (rest.map fun v => v.category).sum ≤ 8) (hdg : decode cc pc = .ok (.invokestatic index, 3)) (hf : cells + mc ≤ R.cells ∧ slots + ms ≤ R.slots)
    (kk : ∀ (u : S) (H1 : Heap) (locs1 : List Loc), post u → va_P G vwCl (wr ++ w1 u) H1 → va_D A (wr ++ w1 u) → va_S A s.heap H1 locs1 → W p l e R s m args below meth c H1 locs1 (cells + mc) (slots + ms) Q (F0 m (pc + 3) ls (rest))) : W p l e R s m args below meth c H locs cells slots Q (F0 m pc ls st) := by
  have hts := fix.2.2.2.2
  have hPw : va_P G vwCl wc H := va_P_of_places hP isC hC
  have hDw : va_D A wc := hD.sub isC hnd.1 hC
  have hF : ∀ q, va_A wc H.size q → A q := va_free hD hS hA isC hC
  have hpre : ∀ U : State, U.heap = H → s.WarmedH U.vm → va_Pc As (zC0 G cA wc H.size) (As : List Value).toArray U := z_pre hPw hK hE hT hS hF hDw
  refine va_callv (va_runS fix (hM H.size) ⟨callB_of n hts (z_goodC lk.2.2.2.1) rfl hrm.1 hrm.2 (hts _ lk.2.2.1) (hts _ lk.1) lk.2.2.2.2 hR, hts _ lk.2.1⟩ ⟨z_blind, hpre⟩ rfl hn hsize hst hW hdg hf) hS (fun q _ h => hF q h) hF (fun u t H1 locs1 ht hvm hw hB hz hk hS1 => ?_)
  obtain ⟨hP1, hD1⟩ := hB
  rw [ht] at hP1
  obtain ⟨hP2, hD2⟩ := va_join hP hD isC isR hC hRr hnd.2.1 hnd.2.2 hk hF hP1 hD1
  exact kk u H1 locs1 hw hP2 hD2 hS1

theorem z_callSl {S : Type} {post : Int64 → S → Prop} {w1 : S → va_W} (fix : CallFix p m c cc nL s args TB own) (hK : va_K G vwCl (zTY cA) s) (hE : zEX s) (hT : zST cA A s s.heap) (hP : va_P G vwCl ws H) (hD : va_D A ws) (hS : va_S A s.heap H locs) (hA : ∀ q, s.heap.size ≤ q → A q)
    (hM : zCl l y cb mL ret rm G cA As wc post w1 mc ms) (lk : zLS own index y cb mL ret n) (hrm : rm.cells = mc ∧ rm.slots = ms) (hR : rm.frames + 1 ≤ R.frames ∧ 8 + (mL + 11) + rm.locals ≤ R.locals) (isC isR : List Nat) (hC : isC.map (fun i => ws[i]?) = wc.map some) (hRr : isR.map (fun i => ws[i]?) = wr.map some) (hnd : va_nd isC = true ∧ va_nd isR = true ∧ ∀ i ∈ isR, i ∉ isC)
    (hn : As.length = n) (hsize : ls.size = nL) (hst : st = As.reverse ++ rest) (hW : 2 * (F0 m pc ls st).monitorRoom + (rest.map fun v => v.category).sum ≤ 8) (hdg : decode cc pc = .ok (.invokestatic index, 3)) (hf : cells + mc ≤ R.cells ∧ slots + ms ≤ R.slots)
    (kk : ∀ (r : Int64) (u : S) (H1 : Heap) (locs1 : List Loc), post r u → va_P G vwCl (wr ++ w1 u) H1 → va_D A (wr ++ w1 u) → va_S A s.heap H1 locs1 → W p l e R s m args below meth c H1 locs1 (cells + mc) (slots + ms) Q (F0 m (pc + 3) ls (.long r :: rest))) : W p l e R s m args below meth c H locs cells slots Q (F0 m pc ls st) := by
  have hts := fix.2.2.2.2
  have hPw : va_P G vwCl wc H := va_P_of_places hP isC hC
  have hDw : va_D A wc := hD.sub isC hnd.1 hC
  have hF : ∀ q, va_A wc H.size q → A q := va_free hD hS hA isC hC
  have hpre : ∀ U : State, U.heap = H → s.WarmedH U.vm → va_Pc As (zC0 G cA wc H.size) (As : List Value).toArray U := z_pre hPw hK hE hT hS hF hDw
  refine va_calll (va_runS fix (hM H.size) ⟨callB_of n hts (z_goodC lk.2.2.2.1) rfl hrm.1 hrm.2 (hts _ lk.2.2.1) (hts _ lk.1) lk.2.2.2.2 hR, hts _ lk.2.1⟩ ⟨z_blind, hpre⟩ rfl hn hsize hst hW hdg hf) hS (fun q _ h => hF q h) hF (fun r u t H1 locs1 ht hvm hw hB hz hk hS1 => ?_)
  obtain ⟨hP1, hD1⟩ := hB
  rw [ht] at hP1
  obtain ⟨hP2, hD2⟩ := va_join hP hD isC isR hC hRr hnd.2.1 hnd.2.2 hk hF hP1 hD1
  exact kk r u H1 locs1 hw hP2 hD2 hS1

theorem z_callSq {S : Type} {post : Option Nat → S → Prop} {w1 : S → va_W} (fix : CallFix p m c cc nL s args TB own) (hK : va_K G vwCl (zTY cA) s) (hE : zEX s) (hT : zST cA A s s.heap) (hP : va_P G vwCl ws H) (hD : va_D A ws) (hS : va_S A s.heap H locs) (hA : ∀ q, s.heap.size ≤ q → A q)
    (hM : zCq l y cb mL ret rm G cA As wc post w1 mc ms) (lk : zLS own index y cb mL ret n) (hrm : rm.cells = mc ∧ rm.slots = ms) (hR : rm.frames + 1 ≤ R.frames ∧ 8 + (mL + 11) + rm.locals ≤ R.locals) (isC isR : List Nat) (hC : isC.map (fun i => ws[i]?) = wc.map some) (hRr : isR.map (fun i => ws[i]?) = wr.map some) (hnd : va_nd isC = true ∧ va_nd isR = true ∧ ∀ i ∈ isR, i ∉ isC)
    (hn : As.length = n) (hsize : ls.size = nL) (hst : st = As.reverse ++ rest) (hW : 2 * (F0 m pc ls st).monitorRoom + (rest.map fun v => v.category).sum ≤ 8) (hdg : decode cc pc = .ok (.invokestatic index, 3)) (hf : cells + mc ≤ R.cells ∧ slots + ms ≤ R.slots)
    (kk : ∀ (r : Option Nat) (u : S) (H1 : Heap) (locs1 : List Loc), post r u → va_P G vwCl (wr ++ w1 u) H1 → va_D A (wr ++ w1 u) → va_S A s.heap H1 locs1 → W p l e R s m args below meth c H1 locs1 (cells + mc) (slots + ms) Q (F0 m (pc + 3) ls (va_rf r :: rest))) : W p l e R s m args below meth c H locs cells slots Q (F0 m pc ls st) := by
  have hts := fix.2.2.2.2
  have hPw : va_P G vwCl wc H := va_P_of_places hP isC hC
  have hDw : va_D A wc := hD.sub isC hnd.1 hC
  have hF : ∀ q, va_A wc H.size q → A q := va_free hD hS hA isC hC
  have hpre : ∀ U : State, U.heap = H → s.WarmedH U.vm → va_Pc As (zC0 G cA wc H.size) (As : List Value).toArray U := z_pre hPw hK hE hT hS hF hDw
  refine va_callq (va_runS fix (hM H.size) ⟨callB_of n hts (z_goodC lk.2.2.2.1) rfl hrm.1 hrm.2 (hts _ lk.2.2.1) (hts _ lk.1) lk.2.2.2.2 hR, hts _ lk.2.1⟩ ⟨z_blind, hpre⟩ rfl hn hsize hst hW hdg hf) hS (fun q _ h => hF q h) hF (fun r u t H1 locs1 ht hvm hw hB hz hk hS1 => ?_)
  obtain ⟨hP1, hD1⟩ := hB
  rw [ht] at hP1
  obtain ⟨hP2, hD2⟩ := va_join hP hD isC isR hC hRr hnd.2.1 hnd.2.2 hk hF hP1 hD1
  exact kk r u H1 locs1 hw hP2 hD2 hS1

theorem z_callSNi {S : Type} {post : Int32 → S → Prop} {w1 : S → va_W} (fix : CallFix p m c cc nL s args TB own) (hK : va_K G vwCl (zTY cA) s) (hE : zEX s) (hT : zST cA A s s.heap) (hP : va_P G vwCl ws H) (hD : va_D A ws) (hS : va_S A s.heap H locs) (hA : ∀ q, s.heap.size ≤ q → A q)
    (hM : zCi l y cb mL ret rm G cA As wc post w1 mc ms) (lk : zLSN own index y host cb mL ret n) (hrm : rm.cells = mc ∧ rm.slots = ms) (hR : rm.frames + 1 ≤ R.frames ∧ 8 + (mL + 11) + rm.locals ≤ R.locals) (isC isR : List Nat) (hC : isC.map (fun i => ws[i]?) = wc.map some) (hRr : isR.map (fun i => ws[i]?) = wr.map some) (hnd : va_nd isC = true ∧ va_nd isR = true ∧ ∀ i ∈ isR, i ∉ isC)
    (hn : As.length = n) (hsize : ls.size = nL) (hst : st = As.reverse ++ rest) (hW : 2 * (F0 m pc ls st).monitorRoom + (rest.map fun v => v.category).sum ≤ 8) (hdg : decode cc pc = .ok (.invokestatic index, 3)) (hf : cells + mc ≤ R.cells ∧ slots + ms ≤ R.slots)
    (kk : ∀ (r : Int32) (u : S) (H1 : Heap) (locs1 : List Loc), post r u → va_P G vwCl (wr ++ w1 u) H1 → va_D A (wr ++ w1 u) → va_S A s.heap H1 locs1 → W p l e R s m args below meth c H1 locs1 (cells + mc) (slots + ms) Q (F0 m (pc + 3) ls (.int r :: rest))) : W p l e R s m args below meth c H locs cells slots Q (F0 m pc ls st) := by
  have hts := fix.2.2.2.2
  have hPw : va_P G vwCl wc H := va_P_of_places hP isC hC
  have hDw : va_D A wc := hD.sub isC hnd.1 hC
  have hF : ∀ q, va_A wc H.size q → A q := va_free hD hS hA isC hC
  have hpre : ∀ U : State, U.heap = H → s.WarmedH U.vm → va_Pc As (zC0 G cA wc H.size) (As : List Value).toArray U := z_pre hPw hK hE hT hS hF hDw
  refine va_calli (va_runSN fix (hM H.size) ⟨va_cnB n hts (z_goodC lk.2.2.2.1) rfl hrm.1 hrm.2 (hE.1 _ lk.1) (hts _ lk.2.2.1) lk.2.2.2.2 hR, hts _ lk.2.1, trivial⟩ ⟨z_blind, hpre⟩ rfl hn hsize hst hW hdg hf) hS (fun q _ h => hF q h) hF (fun r u t H1 locs1 ht hvm hw hB hz hk hS1 => ?_)
  obtain ⟨hP1, hD1⟩ := hB
  rw [ht] at hP1
  obtain ⟨hP2, hD2⟩ := va_join hP hD isC isR hC hRr hnd.2.1 hnd.2.2 hk hF hP1 hD1
  exact kk r u H1 locs1 hw hP2 hD2 hS1

theorem z_callSNv {S : Type} {post : S → Prop} {w1 : S → va_W} (fix : CallFix p m c cc nL s args TB own) (hK : va_K G vwCl (zTY cA) s) (hE : zEX s) (hT : zST cA A s s.heap) (hP : va_P G vwCl ws H) (hD : va_D A ws) (hS : va_S A s.heap H locs) (hA : ∀ q, s.heap.size ≤ q → A q)
    (hM : zCv l y cb mL ret rm G cA As wc post w1 mc ms) (lk : zLSN own index y host cb mL ret n) (hrm : rm.cells = mc ∧ rm.slots = ms) (hR : rm.frames + 1 ≤ R.frames ∧ 8 + (mL + 11) + rm.locals ≤ R.locals) (isC isR : List Nat) (hC : isC.map (fun i => ws[i]?) = wc.map some) (hRr : isR.map (fun i => ws[i]?) = wr.map some) (hnd : va_nd isC = true ∧ va_nd isR = true ∧ ∀ i ∈ isR, i ∉ isC)
    (hn : As.length = n) (hsize : ls.size = nL) (hst : st = As.reverse ++ rest) (hW : 2 * (F0 m pc ls st).monitorRoom + (rest.map fun v => v.category).sum ≤ 8) (hdg : decode cc pc = .ok (.invokestatic index, 3)) (hf : cells + mc ≤ R.cells ∧ slots + ms ≤ R.slots)
    (kk : ∀ (u : S) (H1 : Heap) (locs1 : List Loc), post u → va_P G vwCl (wr ++ w1 u) H1 → va_D A (wr ++ w1 u) → va_S A s.heap H1 locs1 → W p l e R s m args below meth c H1 locs1 (cells + mc) (slots + ms) Q (F0 m (pc + 3) ls (rest))) : W p l e R s m args below meth c H locs cells slots Q (F0 m pc ls st) := by
  have hts := fix.2.2.2.2
  have hPw : va_P G vwCl wc H := va_P_of_places hP isC hC
  have hDw : va_D A wc := hD.sub isC hnd.1 hC
  have hF : ∀ q, va_A wc H.size q → A q := va_free hD hS hA isC hC
  have hpre : ∀ U : State, U.heap = H → s.WarmedH U.vm → va_Pc As (zC0 G cA wc H.size) (As : List Value).toArray U := z_pre hPw hK hE hT hS hF hDw
  refine va_callv (va_runSN fix (hM H.size) ⟨va_cnB n hts (z_goodC lk.2.2.2.1) rfl hrm.1 hrm.2 (hE.1 _ lk.1) (hts _ lk.2.2.1) lk.2.2.2.2 hR, hts _ lk.2.1, trivial⟩ ⟨z_blind, hpre⟩ rfl hn hsize hst hW hdg hf) hS (fun q _ h => hF q h) hF (fun u t H1 locs1 ht hvm hw hB hz hk hS1 => ?_)
  obtain ⟨hP1, hD1⟩ := hB
  rw [ht] at hP1
  obtain ⟨hP2, hD2⟩ := va_join hP hD isC isR hC hRr hnd.2.1 hnd.2.2 hk hF hP1 hD1
  exact kk u H1 locs1 hw hP2 hD2 hS1

theorem z_callSNl {S : Type} {post : Int64 → S → Prop} {w1 : S → va_W} (fix : CallFix p m c cc nL s args TB own) (hK : va_K G vwCl (zTY cA) s) (hE : zEX s) (hT : zST cA A s s.heap) (hP : va_P G vwCl ws H) (hD : va_D A ws) (hS : va_S A s.heap H locs) (hA : ∀ q, s.heap.size ≤ q → A q)
    (hM : zCl l y cb mL ret rm G cA As wc post w1 mc ms) (lk : zLSN own index y host cb mL ret n) (hrm : rm.cells = mc ∧ rm.slots = ms) (hR : rm.frames + 1 ≤ R.frames ∧ 8 + (mL + 11) + rm.locals ≤ R.locals) (isC isR : List Nat) (hC : isC.map (fun i => ws[i]?) = wc.map some) (hRr : isR.map (fun i => ws[i]?) = wr.map some) (hnd : va_nd isC = true ∧ va_nd isR = true ∧ ∀ i ∈ isR, i ∉ isC)
    (hn : As.length = n) (hsize : ls.size = nL) (hst : st = As.reverse ++ rest) (hW : 2 * (F0 m pc ls st).monitorRoom + (rest.map fun v => v.category).sum ≤ 8) (hdg : decode cc pc = .ok (.invokestatic index, 3)) (hf : cells + mc ≤ R.cells ∧ slots + ms ≤ R.slots)
    (kk : ∀ (r : Int64) (u : S) (H1 : Heap) (locs1 : List Loc), post r u → va_P G vwCl (wr ++ w1 u) H1 → va_D A (wr ++ w1 u) → va_S A s.heap H1 locs1 → W p l e R s m args below meth c H1 locs1 (cells + mc) (slots + ms) Q (F0 m (pc + 3) ls (.long r :: rest))) : W p l e R s m args below meth c H locs cells slots Q (F0 m pc ls st) := by
  have hts := fix.2.2.2.2
  have hPw : va_P G vwCl wc H := va_P_of_places hP isC hC
  have hDw : va_D A wc := hD.sub isC hnd.1 hC
  have hF : ∀ q, va_A wc H.size q → A q := va_free hD hS hA isC hC
  have hpre : ∀ U : State, U.heap = H → s.WarmedH U.vm → va_Pc As (zC0 G cA wc H.size) (As : List Value).toArray U := z_pre hPw hK hE hT hS hF hDw
  refine va_calll (va_runSN fix (hM H.size) ⟨va_cnB n hts (z_goodC lk.2.2.2.1) rfl hrm.1 hrm.2 (hE.1 _ lk.1) (hts _ lk.2.2.1) lk.2.2.2.2 hR, hts _ lk.2.1, trivial⟩ ⟨z_blind, hpre⟩ rfl hn hsize hst hW hdg hf) hS (fun q _ h => hF q h) hF (fun r u t H1 locs1 ht hvm hw hB hz hk hS1 => ?_)
  obtain ⟨hP1, hD1⟩ := hB
  rw [ht] at hP1
  obtain ⟨hP2, hD2⟩ := va_join hP hD isC isR hC hRr hnd.2.1 hnd.2.2 hk hF hP1 hD1
  exact kk r u H1 locs1 hw hP2 hD2 hS1

theorem z_topi {x y : Int32} (h : x = y) (k : W p l e R s m args below meth c H locs cells slots Q (F0 m pc ls (.int y :: rest))) : W p l e R s m args below meth c H locs cells slots Q (F0 m pc ls (.int x :: rest)) := h ▸ k
theorem z_topl {x y : Int64} (h : x = y) (k : W p l e R s m args below meth c H locs cells slots Q (F0 m pc ls (.long y :: rest))) : W p l e R s m args below meth c H locs cells slots Q (F0 m pc ls (.long x :: rest)) := h ▸ k
theorem z_newa (hexec : p.tables.exec = Jvm.exec) (hb : c.code = cc) {atype : ArrayType} (harr : (Cond.arrayClass (newarray.typeOf atype)).before args s = true) {ty : FieldType} (hty : newarray.typeOf atype = ty) (t0 : Nat) {cI : ClassId} (ht : (zTY cA)[t0]? = some (cI, ty)) (hpr : ∀ C, ty ≠ .object C) (hK : va_K G vwCl (zTY cA) s) (hP : va_P G vwCl ws H) (hD : va_D A ws) (hS : va_S A H0 H locs) (hA : ∀ q, H0.size ≤ q → A q)
    {n : Int32} {N' : Nat} {a0 : vp_A} (ha : ∀ cA : ClassId, vp_cell cA a0 = arrV cA N' (fun _ => defaultValue ty)) (hn : ¬ n < 0) (hN : n.toNatClampNeg = N') (hbytes : N' * componentBytes ty ≤ 536870912) (hcells : cells + 1 ≤ R.cells) (hslots : slots + N' ≤ R.slots) (hdg : decode cc pc = .ok (.newarray atype, 2))
    (kk : ∀ (q : Nat) (H1 : Heap), va_P G vwCl (ws ++ [(q, .inl (cI, a0))]) H1 → va_D A (ws ++ [(q, .inl (cI, a0))]) → va_S A H0 H1 locs →
      W p l e R s m args below meth c H1 locs (cells + 1) (slots + N') Q (F0 m (pc + 2) ls (.ref q :: rest))) : W p l e R s m args below meth c H locs cells slots Q (F0 m pc ls (.int n :: rest)) := by
  refine va_newa hexec hb harr hty hK hP hD hS hA ha hn hN hbytes hcells hslots hdg (fun q cB H1 hK1 hP1 hD1 hS1 => ?_)
  have e : cB = cI := by
    have h1 := (hK1.2 (zTY cA).length (cB, ty) (by rw [List.getElem?_append_right (Nat.le_refl _), Nat.sub_self]; rfl)).2
    have h2 := (hK.2 t0 _ ht).2
    cases ty <;> first | exact Option.some.inj (h1.symm.trans h2) | exact absurd rfl (hpr _)
  subst e
  exact kk q H1 hP1 hD1 hS1
theorem z_newq (hexec : p.tables.exec = Jvm.exec) (hb : c.code = cc) {C : String} (hown : s.vm.findClass own = some m.cls) (hclink : (Cond.classLink own index C).before args s = true) (hover : va_AO C s) (t0 : Nat) {cI : ClassId} (ht : (zTY cA)[t0]? = some (cI, .object C)) (hK : va_K G vwCl (zTY cA) s) (hP : va_P G vwCl ws H) (hD : va_D A ws) (hS : va_S A H0 H locs) (hA : ∀ q, H0.size ≤ q → A q)
    {n : Int32} {N' : Nat} (hn : ¬ n < 0) (hN : n.toNatClampNeg = N') (hbytes : N' * 4 ≤ 536870912) (hcells : cells + 1 ≤ R.cells) (hslots : slots + N' ≤ R.slots) (hdg : decode cc pc = .ok (.anewarray index, 3))
    (kk : ∀ (q : Nat) (H1 : Heap), va_P G vwCl (ws ++ [(q, .inl (cI, N', .inr (.inr (.inr (.inr (fun _ => none))))))]) H1 → va_D A (ws ++ [(q, .inl (cI, N', .inr (.inr (.inr (.inr (fun _ => none))))))]) → va_S A H0 H1 locs →
      W p l e R s m args below meth c H1 locs (cells + 1) (slots + N') Q (F0 m (pc + 3) ls (.ref q :: rest))) : W p l e R s m args below meth c H locs cells slots Q (F0 m pc ls (.int n :: rest)) := by
  refine va_newq hexec hb hown hclink hover hK hP hD hS hA hn hN hbytes hcells hslots hdg (fun q cB H1 hK1 hP1 hD1 hS1 => ?_)
  have e : cB = cI := by
    obtain ⟨_, _, _, _, _, h1⟩ := (hK1.2 (zTY cA).length (cB, .object C) (by rw [List.getElem?_append_right (Nat.le_refl _), Nat.sub_self]; rfl)).2
    obtain ⟨_, _, _, _, _, h2⟩ := (hK.2 t0 _ ht).2
    exact Option.some.inj (h1.symm.trans h2)
  subst e
  exact kk q H1 hP1 hD1 hS1
end ZC
theorem z_arrP {s : State} {args : Array Value} {ty : FieldType} (h : (Cond.arrayClass ty).before args s = true) (hpr : ∀ C, ty ≠ .object C) : ∃ cB : ClassId, ArrOfT s cB ty ∧ va_RA s cB ty := by
  obtain ⟨cB, kB, comp, h1, h2, h3⟩ := Cond.arrayClass_spec h
  refine ⟨cB, fun n z => ⟨fun k h => (by cases h), kB, h2, comp, h3⟩, ?_⟩
  cases ty <;> first | exact h1 | exact absurd rfl (hpr _)
theorem z_arrO {s : State} {C : String} (h : va_AO C s) : ∃ cB : ClassId, ArrOfT s cB (.object C) ∧ va_RA s cB (.object C) := by
  obtain ⟨comp, c, k, h1, h2, h3, h4, h5⟩ := Cond.arrayOver_spec h
  exact ⟨c, fun n z => ⟨fun k h => (by cases h), k, h3, comp, h4⟩, k, comp, h3, h4, h1, h5⟩

theorem z_b1 {x k : Int32} {K : Int} (h : k ≤ x) (hk : k.toInt = K) : K ≤ x.toInt := by rw [Int32.le_iff_toInt_le, hk] at h; exact h
theorem z_b2 {x k : Int32} {K : Int} (h : ¬ k ≤ x) (hk : k.toInt = K) : x.toInt < K := by rw [Int32.le_iff_toInt_le, hk] at h; omega
theorem z_b3 {x k : Int32} {K : Int} (h : x < k) (hk : k.toInt = K) : x.toInt < K := by rw [Int32.lt_iff_toInt_lt, hk] at h; exact h
theorem z_b4 {x k : Int32} {K : Int} (h : ¬ x < k) (hk : k.toInt = K) : K ≤ x.toInt := by rw [Int32.lt_iff_toInt_lt, hk] at h; omega
theorem z_b5 {x k : Int32} {K : Int} (h : x ≤ k) (hk : k.toInt = K) : x.toInt ≤ K := by rw [Int32.le_iff_toInt_le, hk] at h; exact h
theorem z_b6 {x k : Int32} {K : Int} (h : ¬ x ≤ k) (hk : k.toInt = K) : K < x.toInt := by rw [Int32.le_iff_toInt_le, hk] at h; omega
theorem z_b7 {x k : Int32} {K : Int} (h : k < x) (hk : k.toInt = K) : K < x.toInt := by rw [Int32.lt_iff_toInt_lt, hk] at h; exact h
theorem z_b8 {x k : Int32} {K : Int} (h : ¬ k < x) (hk : k.toInt = K) : x.toInt ≤ K := by rw [Int32.lt_iff_toInt_lt, hk] at h; omega
theorem z_ilt {x k : Int32} {K : Int} (hk : k.toInt = K) : x < k ↔ x.toInt < K := by rw [Int32.lt_iff_toInt_lt, hk]
theorem z_ige {x k : Int32} {K : Int} (hk : k.toInt = K) : k ≤ x ↔ K ≤ x.toInt := by rw [Int32.le_iff_toInt_le, hk]
theorem z_igt {x k : Int32} {K : Int} (hk : k.toInt = K) : k < x ↔ K < x.toInt := by rw [Int32.lt_iff_toInt_lt, hk]
theorem z_ile {x k : Int32} {K : Int} (hk : k.toInt = K) : x ≤ k ↔ x.toInt ≤ K := by rw [Int32.le_iff_toInt_le, hk]

theorem z_in {i : Int32} {n : Nat} (h1 : ¬ i < 0) (h2 : i.toNatClampNeg < n) : vp_in i n := fun h => h.elim h1 (fun h3 => absurd h2 (Nat.not_lt.mpr h3))

theorem z_s1 {x y : Int32} (h : y ≤ x) : y.toInt ≤ x.toInt := Int32.le_iff_toInt_le.mp h
theorem z_s2 {x y : Int32} (h : ¬ y ≤ x) : x.toInt < y.toInt ∧ y.toInt ≤ 2147483647 := ⟨by rw [Int32.le_iff_toInt_le] at h; omega, Int32.toInt_le y⟩
theorem z_s3 {x y : Int32} (h : x < y) : x.toInt < y.toInt ∧ y.toInt ≤ 2147483647 := ⟨Int32.lt_iff_toInt_lt.mp h, Int32.toInt_le y⟩
theorem z_s4 {x y : Int32} (h : ¬ x < y) : y.toInt ≤ x.toInt := by rw [Int32.lt_iff_toInt_lt] at h; omega
theorem z_s5 {x y : Int32} (h : x ≤ y) : x.toInt ≤ y.toInt := Int32.le_iff_toInt_le.mp h
theorem z_s6 {x y : Int32} (h : ¬ x ≤ y) : y.toInt < x.toInt ∧ -2147483648 ≤ y.toInt := ⟨by rw [Int32.le_iff_toInt_le] at h; omega, Int32.le_toInt y⟩
theorem z_s7 {x y : Int32} (h : y < x) : y.toInt < x.toInt ∧ -2147483648 ≤ y.toInt := ⟨Int32.lt_iff_toInt_lt.mp h, Int32.le_toInt y⟩
theorem z_s8 {x y : Int32} (h : ¬ y < x) : x.toInt ≤ y.toInt := by rw [Int32.lt_iff_toInt_lt] at h; omega
theorem z_ofi {n : Int} {v k : Int32} (h : Int32.ofInt n = k) : v + Int32.ofInt n = v + k := by rw [h]
theorem z_addI {v k : Int32} {K : Int} (hk : k.toInt = K) (h1 : -2147483648 ≤ v.toInt + K) (h2 : v.toInt + K ≤ 2147483647) : (v + k).toInt = v.toInt + K := by
  rw [Int32.toInt_add, hk]
  exact Int.bmod_eq_of_le (by omega) (by omega)
theorem z_upk {v k : Int32} {n : Nat} {K : Int} (hk : k.toInt = K) (hK : 0 < K) (h : (2147483647 - v.toInt).toNat < n + 1) (h2 : v.toInt + K ≤ 2147483647) (h3 : -2147483648 ≤ v.toInt) : (2147483647 - (v + k).toInt).toNat < n := by
  rw [z_addI hk (by omega) h2]
  omega
theorem z_up {v : Int32} {n : Nat} (h : (2147483647 - v.toInt).toNat < n + 1) (h2 : v.toInt < 2147483647) (_ : True) : (2147483647 - (v + 1).toInt).toNat < n := z_upk (K := 1) (by decide +kernel) (by omega) h (by omega) (Int32.le_toInt v)
theorem z_upc {v : Int32} {K : Int} (hi : K ≤ v.toInt) (h2 : v.toInt < 2147483647) (_ : True) : K ≤ (v + 1).toInt := by
  have := Int32.le_toInt v
  rw [z_addI (K := 1) (by decide +kernel) (by omega) (by omega)]
  omega
theorem z_dn {v : Int32} {n : Nat} (h : (v.toInt + 2147483648).toNat < n + 1) (h2 : -2147483648 < v.toInt) (_ : True) : ((v + (-1)).toInt + 2147483648).toNat < n := by
  have h0 : v.toInt ≤ 2147483647 := Int32.toInt_le v
  rw [z_addI (K := -1) (by decide +kernel) (by omega) (by omega)]
  omega
theorem z_shr0 (x : Int32) : x >>> ((0 : Int32) &&& 31) = x := by
  rw [show (0 : Int32) &&& 31 = 0 by decide +kernel]
  exact Int32.shiftRight_zero
theorem z_narz {v : Int32} (h : v = 0 ∨ v = 1) : narrow .boolean (.int v) = .int v := by rcases h with rfl | rfl <;> decide +kernel
theorem z_fitz {v : Int32} (h : v = 0 ∨ v = 1) : fits .boolean (.int v) = true := by rcases h with rfl | rfl <;> decide +kernel
theorem z_nz {y : Int32} (h : y.toInt ≠ 0) : ¬ y = 0 := fun e => h (by rw [e]; decide +kernel)
theorem z_lnz0 {y : Int64} (h : ¬ lg_cmp y 0 = 0) : ¬ y = 0 := fun e => h ((lg_cmp_eq y 0).mpr e)
theorem z_lnz1 {y : Int64} (h : ¬ lg_cmp y 0 ≤ 0) : ¬ y = 0 := fun e => h ((lg_cmp_le y 0).mpr (by rw [e]; exact Int64.le_refl 0))

