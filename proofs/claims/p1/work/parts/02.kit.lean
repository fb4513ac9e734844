/-! my own rows over the kit: contracts in one form, calls and ends in one row each -/
abbrev zTY (cA : Nat → ClassId) : List (ClassId × FieldType) := [(cA 0, .int), (cA 1, .long), (cA 2, .byte), (cA 3, .boolean), (cA 4, .object "DarkRing$Tray"), (cA 5, .object "DarkRing$House"), (cA 6, .object "DarkRing$Thought"), (cA 7, .object "DarkRing$Rule")]
def zEX (U : State) : Prop := (∀ w ∈ NB, va_Nw w U) ∧ va_AO "DarkRing$Tray" U ∧ va_AO "DarkRing$House" U ∧ va_AO "DarkRing$Thought" U ∧ va_AO "DarkRing$Rule" U
theorem zEX_warm {s U : State} (hW : s.WarmedH U.vm) (h : zEX s) : zEX U := by
  obtain ⟨h1, h2, h3, h4, h5⟩ := h
  refine ⟨fun w hw => ?_, h2.moved hW.alike, h3.moved hW.alike, h4.moved hW.alike, h5.moved hW.alike⟩
  have hz : zz_nest w = true := (List.mem_filter.mp hw).2
  have h6 := h1 w hw
  cases w <;> first | exact va_Nw.warmM hW h6 | exact va_Nw.warmF hW h6 | (simp [zz_nest] at hz)
theorem zEX_same {u U : State} (hv : u.vm = U.vm) (h : zEX u) : zEX U := by
  obtain ⟨h1, h2, h3, h4, h5⟩ := h
  have ha : u.vm.Alike U.vm := by rw [hv]; exact Vm.Alike.refl U.vm
  refine ⟨fun w hw => ?_, h2.moved ha, h3.moved ha, h4.moved ha, h5.moved ha⟩
  have hz : zz_nest w = true := (List.mem_filter.mp hw).2
  have h6 := h1 w hw
  refine va_Nw.same ?_ hv h6
  cases w <;> first | rfl | (simp [zz_nest] at hz)
def zC0 (G : va_G) (cA : Nat → ClassId) (wc : va_W) (sz : Nat) : State → Prop := fun U => U.heap.size = sz ∧ va_P G vwCl wc U.heap ∧ va_K G vwCl (zTY cA) U ∧ zEX U ∧ va_D (fun _ => True) wc
theorem z_blind {av : List Value} {G : va_G} {cA : Nat → ClassId} {wc : va_W} {sz : Nat} : FrameBlind (va_Pc av (zC0 G cA wc sz)) := fun a U g mk q => by
  obtain ⟨q0, q1, qP, qK, qE, qD⟩ := q
  exact ⟨q0, q1, qP, va_K.moved (u := U) (U := U.calling g mk a) (Vm.Alike.refl U.vm) qK, zEX_same (u := U) (U := U.calling g mk a) rfl qE, qD⟩
theorem z_pre {s : State} {H : Heap} {av : List Value} {G : va_G} {cA : Nat → ClassId} {wc : va_W} {A : Nat → Prop} (hP : va_P G vwCl wc H) (hK : va_K G vwCl (zTY cA) s) (hE : zEX s) (hD : va_D A wc) : ∀ U : State, U.heap = H → s.WarmedH U.vm → va_Pc av (zC0 G cA wc H.size) av.toArray U := fun U hU hW => ⟨rfl, by rw [hU], by rw [hU]; exact hP, va_K.moved hW.alike hK, zEX_warm hW hE, hD.weaken (fun _ _ _ _ => trivial)⟩

def zQi {S : Type} (G : va_G) (A : Nat → Prop) (post : Int32 → S → Prop) (w1 : S → va_W) : Array Value → State → Outcome → State → Prop := va_Qi post (fun u t => va_P G vwCl (w1 u) t.heap ∧ va_D A (w1 u)) A
def zCi (l : Launch) (y : MethodName) (cb : ByteArray) (nL : Nat) (ret : Option FieldType) (rm : Room) (G : va_G) (cA : Nat → ClassId) (av : List Value) (wc : va_W) {S : Type} (post : Int32 → S → Prop) (w1 : S → va_W) (mc ms : Nat) : Prop := ∀ sz : Nat, Met l y (Cond.code y cb nL ret :: TB) rm (va_Pc av (zC0 G cA wc sz)) (zQi G (va_A wc sz) post w1) mc ms (va_A wc sz)
theorem z_starti {l : Launch} {y : MethodName} {cb : ByteArray} {nL : Nat} {ret : Option FieldType} {rm : Room} {G : va_G} {cA : Nat → ClassId} {av : List Value} {wc : va_W} {S : Type} {post : Int32 → S → Prop} {w1 : S → va_W} {mc ms : Nat} {own : String} (hy : plainName y.cls = true) (hla : (lg_sl av).length ≤ nL) (hcl : y.cls = own)
    (k : ∀ (p : Program) (e : Env) (s : State) (m : MethodId) (below : List Frame) (meth : Method) (c : Code) (A : Nat → Prop) (ls : Array Slot), p.tables.exec = Jvm.exec → c.code = cb → meth.sig.returnType = ret → meth.locks = false → c.maxLocals = nL → (∀ w ∈ TB, w.before av.toArray s = true) → s.vm.findClass own = some m.cls → meth.name = y.name → va_K G vwCl (zTY cA) s → zEX s → va_P G vwCl wc s.heap → va_D A wc → va_S A s.heap s.heap [] → (∀ q, s.heap.size ≤ q → A q) → lv_has ls nL (lv_args 0 av) →
      W p l e rm s m av.toArray below meth c s.heap [] 0 0 (MQ below (zQi G A post w1) av.toArray s mc ms A) (F0 m 0 ls [])) : zCi l y cb nL ret rm G cA av wc post w1 mc ms := by
  intro sz
  refine Met.ofW (cc := cb) (maxL := nL) (ret := ret) hy rfl ?_
  intro p e s m args below meth c s₁ B hml hv
  obtain ⟨rfl, hsz, hP, hK, hE, hD0⟩ := hv
  subst hsz
  subst hcl
  rw [lg_entry_eq]
  exact k p e s m below meth c (va_A wc s.heap.size) _ B.exec B.bytes B.returns B.notSynchronized hml (fun w h => atoms_spec (ws := Cond.code y cb nL ret :: TB) B.pre w (List.mem_cons_of_mem _ h)) (findClass_of_methodNamed B.named) (name_of_methodNamed B.named B.method).1 hK hE hP hD0.self va_S.rf (fun q h => Or.inr h) (lv_entry av hla)

def zQv {S : Type} (G : va_G) (A : Nat → Prop) (post : S → Prop) (w1 : S → va_W) : Array Value → State → Outcome → State → Prop := va_Qv post (fun u t => va_P G vwCl (w1 u) t.heap ∧ va_D A (w1 u)) A
def zCv (l : Launch) (y : MethodName) (cb : ByteArray) (nL : Nat) (ret : Option FieldType) (rm : Room) (G : va_G) (cA : Nat → ClassId) (av : List Value) (wc : va_W) {S : Type} (post : S → Prop) (w1 : S → va_W) (mc ms : Nat) : Prop := ∀ sz : Nat, Met l y (Cond.code y cb nL ret :: TB) rm (va_Pc av (zC0 G cA wc sz)) (zQv G (va_A wc sz) post w1) mc ms (va_A wc sz)
theorem z_startv {l : Launch} {y : MethodName} {cb : ByteArray} {nL : Nat} {ret : Option FieldType} {rm : Room} {G : va_G} {cA : Nat → ClassId} {av : List Value} {wc : va_W} {S : Type} {post : S → Prop} {w1 : S → va_W} {mc ms : Nat} {own : String} (hy : plainName y.cls = true) (hla : (lg_sl av).length ≤ nL) (hcl : y.cls = own)
    (k : ∀ (p : Program) (e : Env) (s : State) (m : MethodId) (below : List Frame) (meth : Method) (c : Code) (A : Nat → Prop) (ls : Array Slot), p.tables.exec = Jvm.exec → c.code = cb → meth.sig.returnType = ret → meth.locks = false → c.maxLocals = nL → (∀ w ∈ TB, w.before av.toArray s = true) → s.vm.findClass own = some m.cls → meth.name = y.name → va_K G vwCl (zTY cA) s → zEX s → va_P G vwCl wc s.heap → va_D A wc → va_S A s.heap s.heap [] → (∀ q, s.heap.size ≤ q → A q) → lv_has ls nL (lv_args 0 av) →
      W p l e rm s m av.toArray below meth c s.heap [] 0 0 (MQ below (zQv G A post w1) av.toArray s mc ms A) (F0 m 0 ls [])) : zCv l y cb nL ret rm G cA av wc post w1 mc ms := by
  intro sz
  refine Met.ofW (cc := cb) (maxL := nL) (ret := ret) hy rfl ?_
  intro p e s m args below meth c s₁ B hml hv
  obtain ⟨rfl, hsz, hP, hK, hE, hD0⟩ := hv
  subst hsz
  subst hcl
  rw [lg_entry_eq]
  exact k p e s m below meth c (va_A wc s.heap.size) _ B.exec B.bytes B.returns B.notSynchronized hml (fun w h => atoms_spec (ws := Cond.code y cb nL ret :: TB) B.pre w (List.mem_cons_of_mem _ h)) (findClass_of_methodNamed B.named) (name_of_methodNamed B.named B.method).1 hK hE hP hD0.self va_S.rf (fun q h => Or.inr h) (lv_entry av hla)

def zQl {S : Type} (G : va_G) (A : Nat → Prop) (post : Int64 → S → Prop) (w1 : S → va_W) : Array Value → State → Outcome → State → Prop := va_Ql post (fun u t => va_P G vwCl (w1 u) t.heap ∧ va_D A (w1 u)) A
def zCl (l : Launch) (y : MethodName) (cb : ByteArray) (nL : Nat) (ret : Option FieldType) (rm : Room) (G : va_G) (cA : Nat → ClassId) (av : List Value) (wc : va_W) {S : Type} (post : Int64 → S → Prop) (w1 : S → va_W) (mc ms : Nat) : Prop := ∀ sz : Nat, Met l y (Cond.code y cb nL ret :: TB) rm (va_Pc av (zC0 G cA wc sz)) (zQl G (va_A wc sz) post w1) mc ms (va_A wc sz)
theorem z_startl {l : Launch} {y : MethodName} {cb : ByteArray} {nL : Nat} {ret : Option FieldType} {rm : Room} {G : va_G} {cA : Nat → ClassId} {av : List Value} {wc : va_W} {S : Type} {post : Int64 → S → Prop} {w1 : S → va_W} {mc ms : Nat} {own : String} (hy : plainName y.cls = true) (hla : (lg_sl av).length ≤ nL) (hcl : y.cls = own)
    (k : ∀ (p : Program) (e : Env) (s : State) (m : MethodId) (below : List Frame) (meth : Method) (c : Code) (A : Nat → Prop) (ls : Array Slot), p.tables.exec = Jvm.exec → c.code = cb → meth.sig.returnType = ret → meth.locks = false → c.maxLocals = nL → (∀ w ∈ TB, w.before av.toArray s = true) → s.vm.findClass own = some m.cls → meth.name = y.name → va_K G vwCl (zTY cA) s → zEX s → va_P G vwCl wc s.heap → va_D A wc → va_S A s.heap s.heap [] → (∀ q, s.heap.size ≤ q → A q) → lv_has ls nL (lv_args 0 av) →
      W p l e rm s m av.toArray below meth c s.heap [] 0 0 (MQ below (zQl G A post w1) av.toArray s mc ms A) (F0 m 0 ls [])) : zCl l y cb nL ret rm G cA av wc post w1 mc ms := by
  intro sz
  refine Met.ofW (cc := cb) (maxL := nL) (ret := ret) hy rfl ?_
  intro p e s m args below meth c s₁ B hml hv
  obtain ⟨rfl, hsz, hP, hK, hE, hD0⟩ := hv
  subst hsz
  subst hcl
  rw [lg_entry_eq]
  exact k p e s m below meth c (va_A wc s.heap.size) _ B.exec B.bytes B.returns B.notSynchronized hml (fun w h => atoms_spec (ws := Cond.code y cb nL ret :: TB) B.pre w (List.mem_cons_of_mem _ h)) (findClass_of_methodNamed B.named) (name_of_methodNamed B.named B.method).1 hK hE hP hD0.self va_S.rf (fun q h => Or.inr h) (lv_entry av hla)

def zQq {S : Type} (G : va_G) (A : Nat → Prop) (post : Option Nat → S → Prop) (w1 : S → va_W) : Array Value → State → Outcome → State → Prop := va_Qq post (fun u t => va_P G vwCl (w1 u) t.heap ∧ va_D A (w1 u)) A
def zCq (l : Launch) (y : MethodName) (cb : ByteArray) (nL : Nat) (ret : Option FieldType) (rm : Room) (G : va_G) (cA : Nat → ClassId) (av : List Value) (wc : va_W) {S : Type} (post : Option Nat → S → Prop) (w1 : S → va_W) (mc ms : Nat) : Prop := ∀ sz : Nat, Met l y (Cond.code y cb nL ret :: TB) rm (va_Pc av (zC0 G cA wc sz)) (zQq G (va_A wc sz) post w1) mc ms (va_A wc sz)
theorem z_startq {l : Launch} {y : MethodName} {cb : ByteArray} {nL : Nat} {ret : Option FieldType} {rm : Room} {G : va_G} {cA : Nat → ClassId} {av : List Value} {wc : va_W} {S : Type} {post : Option Nat → S → Prop} {w1 : S → va_W} {mc ms : Nat} {own : String} (hy : plainName y.cls = true) (hla : (lg_sl av).length ≤ nL) (hcl : y.cls = own)
    (k : ∀ (p : Program) (e : Env) (s : State) (m : MethodId) (below : List Frame) (meth : Method) (c : Code) (A : Nat → Prop) (ls : Array Slot), p.tables.exec = Jvm.exec → c.code = cb → meth.sig.returnType = ret → meth.locks = false → c.maxLocals = nL → (∀ w ∈ TB, w.before av.toArray s = true) → s.vm.findClass own = some m.cls → meth.name = y.name → va_K G vwCl (zTY cA) s → zEX s → va_P G vwCl wc s.heap → va_D A wc → va_S A s.heap s.heap [] → (∀ q, s.heap.size ≤ q → A q) → lv_has ls nL (lv_args 0 av) →
      W p l e rm s m av.toArray below meth c s.heap [] 0 0 (MQ below (zQq G A post w1) av.toArray s mc ms A) (F0 m 0 ls [])) : zCq l y cb nL ret rm G cA av wc post w1 mc ms := by
  intro sz
  refine Met.ofW (cc := cb) (maxL := nL) (ret := ret) hy rfl ?_
  intro p e s m args below meth c s₁ B hml hv
  obtain ⟨rfl, hsz, hP, hK, hE, hD0⟩ := hv
  subst hsz
  subst hcl
  rw [lg_entry_eq]
  exact k p e s m below meth c (va_A wc s.heap.size) _ B.exec B.bytes B.returns B.notSynchronized hml (fun w h => atoms_spec (ws := Cond.code y cb nL ret :: TB) B.pre w (List.mem_cons_of_mem _ h)) (findClass_of_methodNamed B.named) (name_of_methodNamed B.named B.method).1 hK hE hP hD0.self va_S.rf (fun q h => Or.inr h) (lv_entry av hla)

def zLN (y : MethodName) (n : Nat) : Prop := y.cls ≠ "java/lang/invoke/MethodHandle" ∧ y.cls ≠ "java/lang/invoke/VarHandle" ∧ (parseMethodDescriptor y.desc).map (fun d => d.parameters.length) = some n
def zLV (own : String) (index : Nat) (y : MethodName) (cb : ByteArray) (mL : Nat) (ret : Option FieldType) (n : Nat) : Prop := Cond.methodLink own index y ∈ TB ∧ Cond.instanceMethod y ∈ TB ∧ Cond.selects y.cls y y ∈ TB ∧ Cond.initialized y.cls ∈ TB ∧ Cond.code y cb mL ret ∈ TB ∧ zLN y n
def zLS (own : String) (index : Nat) (y : MethodName) (cb : ByteArray) (mL : Nat) (ret : Option FieldType) (n : Nat) : Prop := Cond.methodLink own index y ∈ TB ∧ Cond.static y ∈ TB ∧ Cond.initialized y.cls ∈ TB ∧ Cond.code y cb mL ret ∈ TB ∧ zLN y n
def zLSN (own : String) (index : Nat) (y : MethodName) (host : String) (cb : ByteArray) (mL : Nat) (ret : Option FieldType) (n : Nat) : Prop := Cond.methodLinkNest own index y host ∈ NB ∧ Cond.static y ∈ TB ∧ Cond.initialized y.cls ∈ TB ∧ Cond.code y cb mL ret ∈ TB ∧ zLN y n
def zLI (own : String) (index : Nat) (y : MethodName) (cb : ByteArray) (mL : Nat) (n : Nat) : Prop := Cond.methodLink own index y ∈ TB ∧ Cond.instanceMethod y ∈ TB ∧ Cond.initialized y.cls ∈ TB ∧ Cond.code y cb mL none ∈ TB ∧ y.name = "<init>" ∧ zLN y n
def zLIN (own : String) (index : Nat) (y : MethodName) (host : String) (cb : ByteArray) (mL : Nat) (n : Nat) : Prop := Cond.methodLinkNest own index y host ∈ NB ∧ Cond.instanceMethod y ∈ TB ∧ Cond.initialized y.cls ∈ TB ∧ Cond.code y cb mL none ∈ TB ∧ y.name = "<init>" ∧ zLN y n
theorem z_goodC {y : MethodName} {cb : ByteArray} {mL : Nat} {ret : Option FieldType} (h : Cond.code y cb mL ret ∈ TB) : GoodIn TB (Cond.code y cb mL ret :: TB) := fun w hw => by
  rcases List.mem_cons.mp hw with rfl | hw
  · exact tb_good _ h
  · exact tb_good _ hw
section ZC
variable {p : Program} {l : Launch} {e : Env} {R : Room} {s : State} {m : MethodId} {args : Array Value} {below : List Frame} {meth : Method} {c : Code} {H : Heap} {locs : List Loc} {cells slots : Nat} {Q : State → Prop} {cc : ByteArray} {pc nL : Nat} {ls : Array Slot} {rest st : List Value} {G : va_G} {cA : Nat → ClassId} {A : Nat → Prop} {ws wc wr : va_W} {H0 : Heap} {own host : String} {index : Nat} {y : MethodName} {cb : ByteArray} {mL n : Nat} {ret : Option FieldType} {rm : Room} {b : Nat} {As : List Value} {mc ms : Nat}
theorem z_sub (hP : va_P G vwCl ws H) (isC : List Nat) (hC : isC.map (fun i => ws[i]?) = wc.map some) : va_P G vwCl wc H := by
  intro k q hk
  have h1 : (isC.map (fun i => ws[i]?))[k]? = some (some q) := by rw [hC, List.getElem?_map, hk]; rfl
  rw [List.getElem?_map] at h1
  cases hi : isC[k]? with
  | none => rw [hi] at h1; cases h1
  | some i => rw [hi] at h1; exact hP i q (Option.some.inj h1)

theorem z_callVi {S : Type} {post : Int32 → S → Prop} {w1 : S → va_W} (fix : CallFix p m c cc nL s args TB own) (hK : va_K G vwCl (zTY cA) s) (hE : zEX s) (hP : va_P G vwCl ws H) (hD : va_D A ws) (hS : va_S A H0 H locs) (hA : ∀ q, H0.size ≤ q → A q)
    (hM : zCi l y cb mL ret rm G cA (.ref b :: As) wc post w1 mc ms) (lk : zLV own index y cb mL ret n) (hrm : rm.cells = mc ∧ rm.slots = ms) (hR : rm.frames + 1 ≤ R.frames ∧ 8 + (mL + 11) + rm.locals ≤ R.locals) (ci : Nat) {q : vw_C} {fs : List Value} (hc : vwCl[ci]? = some q) (hqC : q.1 = y.cls) (he : wc[0]? = some (b, .inr (ci, fs))) (isC isR : List Nat) (hC : isC.map (fun i => ws[i]?) = wc.map some) (hRr : isR.map (fun i => ws[i]?) = wr.map some) (hnd : va_nd isC = true ∧ va_nd isR = true ∧ ∀ i ∈ isR, i ∉ isC)
    (hn : As.length = n) (hsize : ls.size = nL) (hst : st = As.reverse ++ .ref b :: rest) (hW : 2 * (F0 m pc ls st).monitorRoom + (rest.map fun v => v.category).sum ≤ 8) (hdg : decode cc pc = .ok (.invokevirtual index, 3)) (hf : cells + mc ≤ R.cells ∧ slots + ms ≤ R.slots)
    (kk : ∀ (r : Int32) (u : S) (H1 : Heap) (locs1 : List Loc), post r u → va_P G vwCl (wr ++ w1 u) H1 → va_D A (wr ++ w1 u) → va_S A H0 H1 locs1 → W p l e R s m args below meth c H1 locs1 (cells + mc) (slots + ms) Q (F0 m (pc + 3) ls (.int r :: rest))) : W p l e R s m args below meth c H locs cells slots Q (F0 m pc ls st) := by
  have hts := fix.2.2.2.2
  have hPw : va_P G vwCl wc H := z_sub hP isC hC
  have hDw : va_D A wc := hD.sub isC hnd.1 hC
  have hF : ∀ q, va_A wc H.size q → A q := va_free hD hS hA isC hC
  have hcell : ∃ cellB : Cell, H[b]? = some cellB ∧ cellB.vm.isStatics = false ∧ s.vm.findClass y.cls = some cellB.cls := by
    rw [← hqC]
    exact va_recv hK hPw (ci := ci) (q0 := 0) hc he
  refine va_calli (va_runV fix (hM H.size) ⟨callB_of n hts (z_goodC lk.2.2.2.2.1) rfl hrm.1 hrm.2 (hts _ lk.2.2.2.1) (hts _ lk.1) lk.2.2.2.2.2 hR, hts _ lk.2.1, hts _ lk.2.2.1⟩ ⟨z_blind, hcell, z_pre hPw hK hE hDw⟩ rfl hn hsize hst hW hdg hf) hS (fun q _ h => hF q h) hF (fun r u t H1 locs1 ht hvm hw hB hz hk hS1 => ?_)
  obtain ⟨hP1, hD1⟩ := hB
  rw [ht] at hP1
  obtain ⟨hP2, hD2⟩ := va_join hP hD isC isR hC hRr hnd.2.1 hnd.2.2 hk hF hP1 hD1
  exact kk r u H1 locs1 hw hP2 hD2 hS1

theorem z_callVv {S : Type} {post : S → Prop} {w1 : S → va_W} (fix : CallFix p m c cc nL s args TB own) (hK : va_K G vwCl (zTY cA) s) (hE : zEX s) (hP : va_P G vwCl ws H) (hD : va_D A ws) (hS : va_S A H0 H locs) (hA : ∀ q, H0.size ≤ q → A q)
    (hM : zCv l y cb mL ret rm G cA (.ref b :: As) wc post w1 mc ms) (lk : zLV own index y cb mL ret n) (hrm : rm.cells = mc ∧ rm.slots = ms) (hR : rm.frames + 1 ≤ R.frames ∧ 8 + (mL + 11) + rm.locals ≤ R.locals) (ci : Nat) {q : vw_C} {fs : List Value} (hc : vwCl[ci]? = some q) (hqC : q.1 = y.cls) (he : wc[0]? = some (b, .inr (ci, fs))) (isC isR : List Nat) (hC : isC.map (fun i => ws[i]?) = wc.map some) (hRr : isR.map (fun i => ws[i]?) = wr.map some) (hnd : va_nd isC = true ∧ va_nd isR = true ∧ ∀ i ∈ isR, i ∉ isC)
    (hn : As.length = n) (hsize : ls.size = nL) (hst : st = As.reverse ++ .ref b :: rest) (hW : 2 * (F0 m pc ls st).monitorRoom + (rest.map fun v => v.category).sum ≤ 8) (hdg : decode cc pc = .ok (.invokevirtual index, 3)) (hf : cells + mc ≤ R.cells ∧ slots + ms ≤ R.slots)
    (kk : ∀ (u : S) (H1 : Heap) (locs1 : List Loc), post u → va_P G vwCl (wr ++ w1 u) H1 → va_D A (wr ++ w1 u) → va_S A H0 H1 locs1 → W p l e R s m args below meth c H1 locs1 (cells + mc) (slots + ms) Q (F0 m (pc + 3) ls (rest))) : W p l e R s m args below meth c H locs cells slots Q (F0 m pc ls st) := by
  have hts := fix.2.2.2.2
  have hPw : va_P G vwCl wc H := z_sub hP isC hC
  have hDw : va_D A wc := hD.sub isC hnd.1 hC
  have hF : ∀ q, va_A wc H.size q → A q := va_free hD hS hA isC hC
  have hcell : ∃ cellB : Cell, H[b]? = some cellB ∧ cellB.vm.isStatics = false ∧ s.vm.findClass y.cls = some cellB.cls := by
    rw [← hqC]
    exact va_recv hK hPw (ci := ci) (q0 := 0) hc he
  refine va_callv (va_runV fix (hM H.size) ⟨callB_of n hts (z_goodC lk.2.2.2.2.1) rfl hrm.1 hrm.2 (hts _ lk.2.2.2.1) (hts _ lk.1) lk.2.2.2.2.2 hR, hts _ lk.2.1, hts _ lk.2.2.1⟩ ⟨z_blind, hcell, z_pre hPw hK hE hDw⟩ rfl hn hsize hst hW hdg hf) hS (fun q _ h => hF q h) hF (fun u t H1 locs1 ht hvm hw hB hz hk hS1 => ?_)
  obtain ⟨hP1, hD1⟩ := hB
  rw [ht] at hP1
  obtain ⟨hP2, hD2⟩ := va_join hP hD isC isR hC hRr hnd.2.1 hnd.2.2 hk hF hP1 hD1
  exact kk u H1 locs1 hw hP2 hD2 hS1

theorem z_callVl {S : Type} {post : Int64 → S → Prop} {w1 : S → va_W} (fix : CallFix p m c cc nL s args TB own) (hK : va_K G vwCl (zTY cA) s) (hE : zEX s) (hP : va_P G vwCl ws H) (hD : va_D A ws) (hS : va_S A H0 H locs) (hA : ∀ q, H0.size ≤ q → A q)
    (hM : zCl l y cb mL ret rm G cA (.ref b :: As) wc post w1 mc ms) (lk : zLV own index y cb mL ret n) (hrm : rm.cells = mc ∧ rm.slots = ms) (hR : rm.frames + 1 ≤ R.frames ∧ 8 + (mL + 11) + rm.locals ≤ R.locals) (ci : Nat) {q : vw_C} {fs : List Value} (hc : vwCl[ci]? = some q) (hqC : q.1 = y.cls) (he : wc[0]? = some (b, .inr (ci, fs))) (isC isR : List Nat) (hC : isC.map (fun i => ws[i]?) = wc.map some) (hRr : isR.map (fun i => ws[i]?) = wr.map some) (hnd : va_nd isC = true ∧ va_nd isR = true ∧ ∀ i ∈ isR, i ∉ isC)
    (hn : As.length = n) (hsize : ls.size = nL) (hst : st = As.reverse ++ .ref b :: rest) (hW : 2 * (F0 m pc ls st).monitorRoom + (rest.map fun v => v.category).sum ≤ 8) (hdg : decode cc pc = .ok (.invokevirtual index, 3)) (hf : cells + mc ≤ R.cells ∧ slots + ms ≤ R.slots)
    (kk : ∀ (r : Int64) (u : S) (H1 : Heap) (locs1 : List Loc), post r u → va_P G vwCl (wr ++ w1 u) H1 → va_D A (wr ++ w1 u) → va_S A H0 H1 locs1 → W p l e R s m args below meth c H1 locs1 (cells + mc) (slots + ms) Q (F0 m (pc + 3) ls (.long r :: rest))) : W p l e R s m args below meth c H locs cells slots Q (F0 m pc ls st) := by
  have hts := fix.2.2.2.2
  have hPw : va_P G vwCl wc H := z_sub hP isC hC
  have hDw : va_D A wc := hD.sub isC hnd.1 hC
  have hF : ∀ q, va_A wc H.size q → A q := va_free hD hS hA isC hC
  have hcell : ∃ cellB : Cell, H[b]? = some cellB ∧ cellB.vm.isStatics = false ∧ s.vm.findClass y.cls = some cellB.cls := by
    rw [← hqC]
    exact va_recv hK hPw (ci := ci) (q0 := 0) hc he
  refine va_calll (va_runV fix (hM H.size) ⟨callB_of n hts (z_goodC lk.2.2.2.2.1) rfl hrm.1 hrm.2 (hts _ lk.2.2.2.1) (hts _ lk.1) lk.2.2.2.2.2 hR, hts _ lk.2.1, hts _ lk.2.2.1⟩ ⟨z_blind, hcell, z_pre hPw hK hE hDw⟩ rfl hn hsize hst hW hdg hf) hS (fun q _ h => hF q h) hF (fun r u t H1 locs1 ht hvm hw hB hz hk hS1 => ?_)
  obtain ⟨hP1, hD1⟩ := hB
  rw [ht] at hP1
  obtain ⟨hP2, hD2⟩ := va_join hP hD isC isR hC hRr hnd.2.1 hnd.2.2 hk hF hP1 hD1
  exact kk r u H1 locs1 hw hP2 hD2 hS1

theorem z_callVq {S : Type} {post : Option Nat → S → Prop} {w1 : S → va_W} (fix : CallFix p m c cc nL s args TB own) (hK : va_K G vwCl (zTY cA) s) (hE : zEX s) (hP : va_P G vwCl ws H) (hD : va_D A ws) (hS : va_S A H0 H locs) (hA : ∀ q, H0.size ≤ q → A q)
    (hM : zCq l y cb mL ret rm G cA (.ref b :: As) wc post w1 mc ms) (lk : zLV own index y cb mL ret n) (hrm : rm.cells = mc ∧ rm.slots = ms) (hR : rm.frames + 1 ≤ R.frames ∧ 8 + (mL + 11) + rm.locals ≤ R.locals) (ci : Nat) {q : vw_C} {fs : List Value} (hc : vwCl[ci]? = some q) (hqC : q.1 = y.cls) (he : wc[0]? = some (b, .inr (ci, fs))) (isC isR : List Nat) (hC : isC.map (fun i => ws[i]?) = wc.map some) (hRr : isR.map (fun i => ws[i]?) = wr.map some) (hnd : va_nd isC = true ∧ va_nd isR = true ∧ ∀ i ∈ isR, i ∉ isC)
    (hn : As.length = n) (hsize : ls.size = nL) (hst : st = As.reverse ++ .ref b :: rest) (hW : 2 * (F0 m pc ls st).monitorRoom + (rest.map fun v => v.category).sum ≤ 8) (hdg : decode cc pc = .ok (.invokevirtual index, 3)) (hf : cells + mc ≤ R.cells ∧ slots + ms ≤ R.slots)
    (kk : ∀ (r : Option Nat) (u : S) (H1 : Heap) (locs1 : List Loc), post r u → va_P G vwCl (wr ++ w1 u) H1 → va_D A (wr ++ w1 u) → va_S A H0 H1 locs1 → W p l e R s m args below meth c H1 locs1 (cells + mc) (slots + ms) Q (F0 m (pc + 3) ls (va_rf r :: rest))) : W p l e R s m args below meth c H locs cells slots Q (F0 m pc ls st) := by
  have hts := fix.2.2.2.2
  have hPw : va_P G vwCl wc H := z_sub hP isC hC
  have hDw : va_D A wc := hD.sub isC hnd.1 hC
  have hF : ∀ q, va_A wc H.size q → A q := va_free hD hS hA isC hC
  have hcell : ∃ cellB : Cell, H[b]? = some cellB ∧ cellB.vm.isStatics = false ∧ s.vm.findClass y.cls = some cellB.cls := by
    rw [← hqC]
    exact va_recv hK hPw (ci := ci) (q0 := 0) hc he
  refine va_callq (va_runV fix (hM H.size) ⟨callB_of n hts (z_goodC lk.2.2.2.2.1) rfl hrm.1 hrm.2 (hts _ lk.2.2.2.1) (hts _ lk.1) lk.2.2.2.2.2 hR, hts _ lk.2.1, hts _ lk.2.2.1⟩ ⟨z_blind, hcell, z_pre hPw hK hE hDw⟩ rfl hn hsize hst hW hdg hf) hS (fun q _ h => hF q h) hF (fun r u t H1 locs1 ht hvm hw hB hz hk hS1 => ?_)
  obtain ⟨hP1, hD1⟩ := hB
  rw [ht] at hP1
  obtain ⟨hP2, hD2⟩ := va_join hP hD isC isR hC hRr hnd.2.1 hnd.2.2 hk hF hP1 hD1
  exact kk r u H1 locs1 hw hP2 hD2 hS1

theorem z_callIv {S : Type} {post : S → Prop} {w1 : S → va_W} (fix : CallFix p m c cc nL s args TB own) (hK : va_K G vwCl (zTY cA) s) (hE : zEX s) (hP : va_P G vwCl ws H) (hD : va_D A ws) (hS : va_S A H0 H locs) (hA : ∀ q, H0.size ≤ q → A q)
    (hM : zCv l y cb mL none rm G cA (.ref b :: As) wc post w1 mc ms) (lk : zLI own index y cb mL n) (hrm : rm.cells = mc ∧ rm.slots = ms) (hR : rm.frames + 1 ≤ R.frames ∧ 8 + (mL + 11) + rm.locals ≤ R.locals) (isC isR : List Nat) (hC : isC.map (fun i => ws[i]?) = wc.map some) (hRr : isR.map (fun i => ws[i]?) = wr.map some) (hnd : va_nd isC = true ∧ va_nd isR = true ∧ ∀ i ∈ isR, i ∉ isC)
    (hn : As.length = n) (hsize : ls.size = nL) (hst : st = As.reverse ++ .ref b :: rest) (hW : 2 * (F0 m pc ls st).monitorRoom + (rest.map fun v => v.category).sum ≤ 8) (hdg : decode cc pc = .ok (.invokespecial index, 3)) (hf : cells + mc ≤ R.cells ∧ slots + ms ≤ R.slots)
    (kk : ∀ (u : S) (H1 : Heap) (locs1 : List Loc), post u → va_P G vwCl (wr ++ w1 u) H1 → va_D A (wr ++ w1 u) → va_S A H0 H1 locs1 → W p l e R s m args below meth c H1 locs1 (cells + mc) (slots + ms) Q (F0 m (pc + 3) ls (rest))) : W p l e R s m args below meth c H locs cells slots Q (F0 m pc ls st) := by
  have hts := fix.2.2.2.2
  have hPw : va_P G vwCl wc H := z_sub hP isC hC
  have hDw : va_D A wc := hD.sub isC hnd.1 hC
  have hF : ∀ q, va_A wc H.size q → A q := va_free hD hS hA isC hC
  refine va_callv (va_runI fix (hM H.size) ⟨callB_of n hts (z_goodC lk.2.2.2.1) rfl hrm.1 hrm.2 (hts _ lk.2.2.1) (hts _ lk.1) lk.2.2.2.2.2 hR, lk.2.2.2.2.1, hts _ lk.2.1⟩ ⟨z_blind, z_pre hPw hK hE hDw⟩ rfl hn hsize hst hW hdg hf) hS (fun q _ h => hF q h) hF (fun u t H1 locs1 ht hvm hw hB hz hk hS1 => ?_)
  obtain ⟨hP1, hD1⟩ := hB
  rw [ht] at hP1
  obtain ⟨hP2, hD2⟩ := va_join hP hD isC isR hC hRr hnd.2.1 hnd.2.2 hk hF hP1 hD1
  exact kk u H1 locs1 hw hP2 hD2 hS1

theorem z_callINv {S : Type} {post : S → Prop} {w1 : S → va_W} (fix : CallFix p m c cc nL s args TB own) (hK : va_K G vwCl (zTY cA) s) (hE : zEX s) (hP : va_P G vwCl ws H) (hD : va_D A ws) (hS : va_S A H0 H locs) (hA : ∀ q, H0.size ≤ q → A q)
    (hM : zCv l y cb mL none rm G cA (.ref b :: As) wc post w1 mc ms) (lk : zLIN own index y host cb mL n) (hrm : rm.cells = mc ∧ rm.slots = ms) (hR : rm.frames + 1 ≤ R.frames ∧ 8 + (mL + 11) + rm.locals ≤ R.locals) (isC isR : List Nat) (hC : isC.map (fun i => ws[i]?) = wc.map some) (hRr : isR.map (fun i => ws[i]?) = wr.map some) (hnd : va_nd isC = true ∧ va_nd isR = true ∧ ∀ i ∈ isR, i ∉ isC)
    (hn : As.length = n) (hsize : ls.size = nL) (hst : st = As.reverse ++ .ref b :: rest) (hW : 2 * (F0 m pc ls st).monitorRoom + (rest.map fun v => v.category).sum ≤ 8) (hdg : decode cc pc = .ok (.invokespecial index, 3)) (hf : cells + mc ≤ R.cells ∧ slots + ms ≤ R.slots)
    (kk : ∀ (u : S) (H1 : Heap) (locs1 : List Loc), post u → va_P G vwCl (wr ++ w1 u) H1 → va_D A (wr ++ w1 u) → va_S A H0 H1 locs1 → W p l e R s m args below meth c H1 locs1 (cells + mc) (slots + ms) Q (F0 m (pc + 3) ls (rest))) : W p l e R s m args below meth c H locs cells slots Q (F0 m pc ls st) := by
  have hts := fix.2.2.2.2
  have hPw : va_P G vwCl wc H := z_sub hP isC hC
  have hDw : va_D A wc := hD.sub isC hnd.1 hC
  have hF : ∀ q, va_A wc H.size q → A q := va_free hD hS hA isC hC
  refine va_callv (va_runIN fix (hM H.size) ⟨va_cnB n hts (z_goodC lk.2.2.2.1) rfl hrm.1 hrm.2 (hE.1 _ lk.1) (hts _ lk.2.2.1) lk.2.2.2.2.2 hR, lk.2.2.2.2.1, hts _ lk.2.1⟩ ⟨z_blind, z_pre hPw hK hE hDw⟩ rfl hn hsize hst hW hdg hf) hS (fun q _ h => hF q h) hF (fun u t H1 locs1 ht hvm hw hB hz hk hS1 => ?_)
  obtain ⟨hP1, hD1⟩ := hB
  rw [ht] at hP1
  obtain ⟨hP2, hD2⟩ := va_join hP hD isC isR hC hRr hnd.2.1 hnd.2.2 hk hF hP1 hD1
  exact kk u H1 locs1 hw hP2 hD2 hS1

theorem z_callSi {S : Type} {post : Int32 → S → Prop} {w1 : S → va_W} (fix : CallFix p m c cc nL s args TB own) (hK : va_K G vwCl (zTY cA) s) (hE : zEX s) (hP : va_P G vwCl ws H) (hD : va_D A ws) (hS : va_S A H0 H locs) (hA : ∀ q, H0.size ≤ q → A q)
    (hM : zCi l y cb mL ret rm G cA As wc post w1 mc ms) (lk : zLS own index y cb mL ret n) (hrm : rm.cells = mc ∧ rm.slots = ms) (hR : rm.frames + 1 ≤ R.frames ∧ 8 + (mL + 11) + rm.locals ≤ R.locals) (isC isR : List Nat) (hC : isC.map (fun i => ws[i]?) = wc.map some) (hRr : isR.map (fun i => ws[i]?) = wr.map some) (hnd : va_nd isC = true ∧ va_nd isR = true ∧ ∀ i ∈ isR, i ∉ isC)
    (hn : As.length = n) (hsize : ls.size = nL) (hst : st = As.reverse ++ rest) (hW : 2 * (F0 m pc ls st).monitorRoom + (rest.map fun v => v.category).sum ≤ 8) (hdg : decode cc pc = .ok (.invokestatic index, 3)) (hf : cells + mc ≤ R.cells ∧ slots + ms ≤ R.slots)
    (kk : ∀ (r : Int32) (u : S) (H1 : Heap) (locs1 : List Loc), post r u → va_P G vwCl (wr ++ w1 u) H1 → va_D A (wr ++ w1 u) → va_S A H0 H1 locs1 → W p l e R s m args below meth c H1 locs1 (cells + mc) (slots + ms) Q (F0 m (pc + 3) ls (.int r :: rest))) : W p l e R s m args below meth c H locs cells slots Q (F0 m pc ls st) := by
  have hts := fix.2.2.2.2
  have hPw : va_P G vwCl wc H := z_sub hP isC hC
  have hDw : va_D A wc := hD.sub isC hnd.1 hC
  have hF : ∀ q, va_A wc H.size q → A q := va_free hD hS hA isC hC
  refine va_calli (va_runS fix (hM H.size) ⟨callB_of n hts (z_goodC lk.2.2.2.1) rfl hrm.1 hrm.2 (hts _ lk.2.2.1) (hts _ lk.1) lk.2.2.2.2 hR, hts _ lk.2.1⟩ ⟨z_blind, z_pre hPw hK hE hDw⟩ rfl hn hsize hst hW hdg hf) hS (fun q _ h => hF q h) hF (fun r u t H1 locs1 ht hvm hw hB hz hk hS1 => ?_)
  obtain ⟨hP1, hD1⟩ := hB
  rw [ht] at hP1
  obtain ⟨hP2, hD2⟩ := va_join hP hD isC isR hC hRr hnd.2.1 hnd.2.2 hk hF hP1 hD1
  exact kk r u H1 locs1 hw hP2 hD2 hS1

theorem z_callSv {S : Type} {post : S → Prop} {w1 : S → va_W} (fix : CallFix p m c cc nL s args TB own) (hK : va_K G vwCl (zTY cA) s) (hE : zEX s) (hP : va_P G vwCl ws H) (hD : va_D A ws) (hS : va_S A H0 H locs) (hA : ∀ q, H0.size ≤ q → A q)
    (hM : zCv l y cb mL ret rm G cA As wc post w1 mc ms) (lk : zLS own index y cb mL ret n) (hrm : rm.cells = mc ∧ rm.slots = ms) (hR : rm.frames + 1 ≤ R.frames ∧ 8 + (mL + 11) + rm.locals ≤ R.locals) (isC isR : List Nat) (hC : isC.map (fun i => ws[i]?) = wc.map some) (hRr : isR.map (fun i => ws[i]?) = wr.map some) (hnd : va_nd isC = true ∧ va_nd isR = true ∧ ∀ i ∈ isR, i ∉ isC)
    (hn : As.length = n) (hsize : ls.size = nL) (hst : st = As.reverse ++ rest) (hW : 2 * (F0 m pc ls st).monitorRoom + (rest.map fun v => v.category).sum ≤ 8) (hdg : decode cc pc = .ok (.invokestatic index, 3)) (hf : cells + mc ≤ R.cells ∧ slots + ms ≤ R.slots)
    (kk : ∀ (u : S) (H1 : Heap) (locs1 : List Loc), post u → va_P G vwCl (wr ++ w1 u) H1 → va_D A (wr ++ w1 u) → va_S A H0 H1 locs1 → W p l e R s m args below meth c H1 locs1 (cells + mc) (slots + ms) Q (F0 m (pc + 3) ls (rest))) : W p l e R s m args below meth c H locs cells slots Q (F0 m pc ls st) := by
  have hts := fix.2.2.2.2
  have hPw : va_P G vwCl wc H := z_sub hP isC hC
  have hDw : va_D A wc := hD.sub isC hnd.1 hC
  have hF : ∀ q, va_A wc H.size q → A q := va_free hD hS hA isC hC
  refine va_callv (va_runS fix (hM H.size) ⟨callB_of n hts (z_goodC lk.2.2.2.1) rfl hrm.1 hrm.2 (hts _ lk.2.2.1) (hts _ lk.1) lk.2.2.2.2 hR, hts _ lk.2.1⟩ ⟨z_blind, z_pre hPw hK hE hDw⟩ rfl hn hsize hst hW hdg hf) hS (fun q _ h => hF q h) hF (fun u t H1 locs1 ht hvm hw hB hz hk hS1 => ?_)
  obtain ⟨hP1, hD1⟩ := hB
  rw [ht] at hP1
  obtain ⟨hP2, hD2⟩ := va_join hP hD isC isR hC hRr hnd.2.1 hnd.2.2 hk hF hP1 hD1
  exact kk u H1 locs1 hw hP2 hD2 hS1

theorem z_callSl {S : Type} {post : Int64 → S → Prop} {w1 : S → va_W} (fix : CallFix p m c cc nL s args TB own) (hK : va_K G vwCl (zTY cA) s) (hE : zEX s) (hP : va_P G vwCl ws H) (hD : va_D A ws) (hS : va_S A H0 H locs) (hA : ∀ q, H0.size ≤ q → A q)
    (hM : zCl l y cb mL ret rm G cA As wc post w1 mc ms) (lk : zLS own index y cb mL ret n) (hrm : rm.cells = mc ∧ rm.slots = ms) (hR : rm.frames + 1 ≤ R.frames ∧ 8 + (mL + 11) + rm.locals ≤ R.locals) (isC isR : List Nat) (hC : isC.map (fun i => ws[i]?) = wc.map some) (hRr : isR.map (fun i => ws[i]?) = wr.map some) (hnd : va_nd isC = true ∧ va_nd isR = true ∧ ∀ i ∈ isR, i ∉ isC)
    (hn : As.length = n) (hsize : ls.size = nL) (hst : st = As.reverse ++ rest) (hW : 2 * (F0 m pc ls st).monitorRoom + (rest.map fun v => v.category).sum ≤ 8) (hdg : decode cc pc = .ok (.invokestatic index, 3)) (hf : cells + mc ≤ R.cells ∧ slots + ms ≤ R.slots)
    (kk : ∀ (r : Int64) (u : S) (H1 : Heap) (locs1 : List Loc), post r u → va_P G vwCl (wr ++ w1 u) H1 → va_D A (wr ++ w1 u) → va_S A H0 H1 locs1 → W p l e R s m args below meth c H1 locs1 (cells + mc) (slots + ms) Q (F0 m (pc + 3) ls (.long r :: rest))) : W p l e R s m args below meth c H locs cells slots Q (F0 m pc ls st) := by
  have hts := fix.2.2.2.2
  have hPw : va_P G vwCl wc H := z_sub hP isC hC
  have hDw : va_D A wc := hD.sub isC hnd.1 hC
  have hF : ∀ q, va_A wc H.size q → A q := va_free hD hS hA isC hC
  refine va_calll (va_runS fix (hM H.size) ⟨callB_of n hts (z_goodC lk.2.2.2.1) rfl hrm.1 hrm.2 (hts _ lk.2.2.1) (hts _ lk.1) lk.2.2.2.2 hR, hts _ lk.2.1⟩ ⟨z_blind, z_pre hPw hK hE hDw⟩ rfl hn hsize hst hW hdg hf) hS (fun q _ h => hF q h) hF (fun r u t H1 locs1 ht hvm hw hB hz hk hS1 => ?_)
  obtain ⟨hP1, hD1⟩ := hB
  rw [ht] at hP1
  obtain ⟨hP2, hD2⟩ := va_join hP hD isC isR hC hRr hnd.2.1 hnd.2.2 hk hF hP1 hD1
  exact kk r u H1 locs1 hw hP2 hD2 hS1

theorem z_callSNi {S : Type} {post : Int32 → S → Prop} {w1 : S → va_W} (fix : CallFix p m c cc nL s args TB own) (hK : va_K G vwCl (zTY cA) s) (hE : zEX s) (hP : va_P G vwCl ws H) (hD : va_D A ws) (hS : va_S A H0 H locs) (hA : ∀ q, H0.size ≤ q → A q)
    (hM : zCi l y cb mL ret rm G cA As wc post w1 mc ms) (lk : zLSN own index y host cb mL ret n) (hrm : rm.cells = mc ∧ rm.slots = ms) (hR : rm.frames + 1 ≤ R.frames ∧ 8 + (mL + 11) + rm.locals ≤ R.locals) (isC isR : List Nat) (hC : isC.map (fun i => ws[i]?) = wc.map some) (hRr : isR.map (fun i => ws[i]?) = wr.map some) (hnd : va_nd isC = true ∧ va_nd isR = true ∧ ∀ i ∈ isR, i ∉ isC)
    (hn : As.length = n) (hsize : ls.size = nL) (hst : st = As.reverse ++ rest) (hW : 2 * (F0 m pc ls st).monitorRoom + (rest.map fun v => v.category).sum ≤ 8) (hdg : decode cc pc = .ok (.invokestatic index, 3)) (hf : cells + mc ≤ R.cells ∧ slots + ms ≤ R.slots)
    (kk : ∀ (r : Int32) (u : S) (H1 : Heap) (locs1 : List Loc), post r u → va_P G vwCl (wr ++ w1 u) H1 → va_D A (wr ++ w1 u) → va_S A H0 H1 locs1 → W p l e R s m args below meth c H1 locs1 (cells + mc) (slots + ms) Q (F0 m (pc + 3) ls (.int r :: rest))) : W p l e R s m args below meth c H locs cells slots Q (F0 m pc ls st) := by
  have hts := fix.2.2.2.2
  have hPw : va_P G vwCl wc H := z_sub hP isC hC
  have hDw : va_D A wc := hD.sub isC hnd.1 hC
  have hF : ∀ q, va_A wc H.size q → A q := va_free hD hS hA isC hC
  refine va_calli (va_runSN fix (hM H.size) ⟨va_cnB n hts (z_goodC lk.2.2.2.1) rfl hrm.1 hrm.2 (hE.1 _ lk.1) (hts _ lk.2.2.1) lk.2.2.2.2 hR, hts _ lk.2.1, trivial⟩ ⟨z_blind, z_pre hPw hK hE hDw⟩ rfl hn hsize hst hW hdg hf) hS (fun q _ h => hF q h) hF (fun r u t H1 locs1 ht hvm hw hB hz hk hS1 => ?_)
  obtain ⟨hP1, hD1⟩ := hB
  rw [ht] at hP1
  obtain ⟨hP2, hD2⟩ := va_join hP hD isC isR hC hRr hnd.2.1 hnd.2.2 hk hF hP1 hD1
  exact kk r u H1 locs1 hw hP2 hD2 hS1

theorem z_callSNv {S : Type} {post : S → Prop} {w1 : S → va_W} (fix : CallFix p m c cc nL s args TB own) (hK : va_K G vwCl (zTY cA) s) (hE : zEX s) (hP : va_P G vwCl ws H) (hD : va_D A ws) (hS : va_S A H0 H locs) (hA : ∀ q, H0.size ≤ q → A q)
    (hM : zCv l y cb mL ret rm G cA As wc post w1 mc ms) (lk : zLSN own index y host cb mL ret n) (hrm : rm.cells = mc ∧ rm.slots = ms) (hR : rm.frames + 1 ≤ R.frames ∧ 8 + (mL + 11) + rm.locals ≤ R.locals) (isC isR : List Nat) (hC : isC.map (fun i => ws[i]?) = wc.map some) (hRr : isR.map (fun i => ws[i]?) = wr.map some) (hnd : va_nd isC = true ∧ va_nd isR = true ∧ ∀ i ∈ isR, i ∉ isC)
    (hn : As.length = n) (hsize : ls.size = nL) (hst : st = As.reverse ++ rest) (hW : 2 * (F0 m pc ls st).monitorRoom + (rest.map fun v => v.category).sum ≤ 8) (hdg : decode cc pc = .ok (.invokestatic index, 3)) (hf : cells + mc ≤ R.cells ∧ slots + ms ≤ R.slots)
    (kk : ∀ (u : S) (H1 : Heap) (locs1 : List Loc), post u → va_P G vwCl (wr ++ w1 u) H1 → va_D A (wr ++ w1 u) → va_S A H0 H1 locs1 → W p l e R s m args below meth c H1 locs1 (cells + mc) (slots + ms) Q (F0 m (pc + 3) ls (rest))) : W p l e R s m args below meth c H locs cells slots Q (F0 m pc ls st) := by
  have hts := fix.2.2.2.2
  have hPw : va_P G vwCl wc H := z_sub hP isC hC
  have hDw : va_D A wc := hD.sub isC hnd.1 hC
  have hF : ∀ q, va_A wc H.size q → A q := va_free hD hS hA isC hC
  refine va_callv (va_runSN fix (hM H.size) ⟨va_cnB n hts (z_goodC lk.2.2.2.1) rfl hrm.1 hrm.2 (hE.1 _ lk.1) (hts _ lk.2.2.1) lk.2.2.2.2 hR, hts _ lk.2.1, trivial⟩ ⟨z_blind, z_pre hPw hK hE hDw⟩ rfl hn hsize hst hW hdg hf) hS (fun q _ h => hF q h) hF (fun u t H1 locs1 ht hvm hw hB hz hk hS1 => ?_)
  obtain ⟨hP1, hD1⟩ := hB
  rw [ht] at hP1
  obtain ⟨hP2, hD2⟩ := va_join hP hD isC isR hC hRr hnd.2.1 hnd.2.2 hk hF hP1 hD1
  exact kk u H1 locs1 hw hP2 hD2 hS1

theorem z_callSNl {S : Type} {post : Int64 → S → Prop} {w1 : S → va_W} (fix : CallFix p m c cc nL s args TB own) (hK : va_K G vwCl (zTY cA) s) (hE : zEX s) (hP : va_P G vwCl ws H) (hD : va_D A ws) (hS : va_S A H0 H locs) (hA : ∀ q, H0.size ≤ q → A q)
    (hM : zCl l y cb mL ret rm G cA As wc post w1 mc ms) (lk : zLSN own index y host cb mL ret n) (hrm : rm.cells = mc ∧ rm.slots = ms) (hR : rm.frames + 1 ≤ R.frames ∧ 8 + (mL + 11) + rm.locals ≤ R.locals) (isC isR : List Nat) (hC : isC.map (fun i => ws[i]?) = wc.map some) (hRr : isR.map (fun i => ws[i]?) = wr.map some) (hnd : va_nd isC = true ∧ va_nd isR = true ∧ ∀ i ∈ isR, i ∉ isC)
    (hn : As.length = n) (hsize : ls.size = nL) (hst : st = As.reverse ++ rest) (hW : 2 * (F0 m pc ls st).monitorRoom + (rest.map fun v => v.category).sum ≤ 8) (hdg : decode cc pc = .ok (.invokestatic index, 3)) (hf : cells + mc ≤ R.cells ∧ slots + ms ≤ R.slots)
    (kk : ∀ (r : Int64) (u : S) (H1 : Heap) (locs1 : List Loc), post r u → va_P G vwCl (wr ++ w1 u) H1 → va_D A (wr ++ w1 u) → va_S A H0 H1 locs1 → W p l e R s m args below meth c H1 locs1 (cells + mc) (slots + ms) Q (F0 m (pc + 3) ls (.long r :: rest))) : W p l e R s m args below meth c H locs cells slots Q (F0 m pc ls st) := by
  have hts := fix.2.2.2.2
  have hPw : va_P G vwCl wc H := z_sub hP isC hC
  have hDw : va_D A wc := hD.sub isC hnd.1 hC
  have hF : ∀ q, va_A wc H.size q → A q := va_free hD hS hA isC hC
  refine va_calll (va_runSN fix (hM H.size) ⟨va_cnB n hts (z_goodC lk.2.2.2.1) rfl hrm.1 hrm.2 (hE.1 _ lk.1) (hts _ lk.2.2.1) lk.2.2.2.2 hR, hts _ lk.2.1, trivial⟩ ⟨z_blind, z_pre hPw hK hE hDw⟩ rfl hn hsize hst hW hdg hf) hS (fun q _ h => hF q h) hF (fun r u t H1 locs1 ht hvm hw hB hz hk hS1 => ?_)
  obtain ⟨hP1, hD1⟩ := hB
  rw [ht] at hP1
  obtain ⟨hP2, hD2⟩ := va_join hP hD isC isR hC hRr hnd.2.1 hnd.2.2 hk hF hP1 hD1
  exact kk r u H1 locs1 hw hP2 hD2 hS1

theorem z_reti {S : Type} {post : Int32 → S → Prop} {w1 : S → va_W} {v : Int32} (hx : p.tables.exec = Jvm.exec) (hb : c.code = cc) (hr : meth.sig.returnType = some .int) (hlocks : meth.locks = false) (hP : va_P G vwCl ws H) (hD : va_D A ws) (hS : va_S A s.heap H locs) (u : S) (isW : List Nat) (hC : isW.map (fun i => ws[i]?) = (w1 u).map some) (hnd : va_nd isW = true) (hdg : decode cc pc = .ok (.ireturn, 1)) (hp : post v u) : W p l e R s m args below meth c H locs cells slots (MQ below (zQi G A post w1) args s cells slots A) (F0 m pc ls [.int v]) :=
  W.iret hx hb hr (fun t ht hW => ⟨⟨v, u, rfl, hp, by rw [ht]; exact z_sub hP isW hC, hD.sub isW hnd hC⟩, hS.F ht⟩) hS.2.2 hdg hlocks
theorem z_retz {S : Type} {post : Int32 → S → Prop} {w1 : S → va_W} {v : Int32} (hx : p.tables.exec = Jvm.exec) (hb : c.code = cc) (hr : meth.sig.returnType = some .boolean) (hlocks : meth.locks = false) (hP : va_P G vwCl ws H) (hD : va_D A ws) (hS : va_S A s.heap H locs) (u : S) (isW : List Nat) (hC : isW.map (fun i => ws[i]?) = (w1 u).map some) (hnd : va_nd isW = true) (hdg : decode cc pc = .ok (.ireturn, 1)) (hv : narrow .boolean (.int v) = .int v) (hp : post v u) : W p l e R s m args below meth c H locs cells slots (MQ below (zQi G A post w1) args s cells slots A) (F0 m pc ls [.int v]) :=
  W.zret hx hb hr hv (fun t ht hW => ⟨⟨v, u, rfl, hp, by rw [ht]; exact z_sub hP isW hC, hD.sub isW hnd hC⟩, hS.F ht⟩) hS.2.2 hdg hlocks
theorem z_retl {S : Type} {post : Int64 → S → Prop} {w1 : S → va_W} {v : Int64} (hx : p.tables.exec = Jvm.exec) (hb : c.code = cc) (hr : meth.sig.returnType = some .long) (hlocks : meth.locks = false) (hP : va_P G vwCl ws H) (hD : va_D A ws) (hS : va_S A s.heap H locs) (u : S) (isW : List Nat) (hC : isW.map (fun i => ws[i]?) = (w1 u).map some) (hnd : va_nd isW = true) (hdg : decode cc pc = .ok (.lreturn, 1)) (hp : post v u) : W p l e R s m args below meth c H locs cells slots (MQ below (zQl G A post w1) args s cells slots A) (F0 m pc ls [.long v]) :=
  W.lret hx hb hr (fun t ht hW => ⟨⟨v, u, rfl, hp, by rw [ht]; exact z_sub hP isW hC, hD.sub isW hnd hC⟩, hS.F ht⟩) hS.2.2 hdg hlocks
theorem z_retv {S : Type} {post : S → Prop} {w1 : S → va_W} (hx : p.tables.exec = Jvm.exec) (hb : c.code = cc) (hr : meth.sig.returnType = none) (hlocks : meth.locks = false) (hP : va_P G vwCl ws H) (hD : va_D A ws) (hS : va_S A s.heap H locs) (u : S) (isW : List Nat) (hC : isW.map (fun i => ws[i]?) = (w1 u).map some) (hnd : va_nd isW = true) (hdg : decode cc pc = .ok (.return_, 1)) (hp : post u) : W p l e R s m args below meth c H locs cells slots (MQ below (zQv G A post w1) args s cells slots A) (F0 m pc ls []) :=
  W.vret hx hb hr (fun t ht hW => ⟨⟨u, rfl, hp, by rw [ht]; exact z_sub hP isW hC, hD.sub isW hnd hC⟩, hS.F ht⟩) hS.2.2 hdg hlocks
theorem z_reta {S : Type} {post : Option Nat → S → Prop} {w1 : S → va_W} {o : Option Nat} {rt : FieldType} (hx : p.tables.exec = Jvm.exec) (hb : c.code = cc) (hr : meth.sig.returnType = some rt) (hrt : (∃ n, rt = .object n) ∨ ∃ t, rt = .array t) (hlocks : meth.locks = false) (hP : va_P G vwCl ws H) (hD : va_D A ws) (hS : va_S A s.heap H locs) (u : S) (isW : List Nat) (hC : isW.map (fun i => ws[i]?) = (w1 u).map some) (hnd : va_nd isW = true) (hdg : decode cc pc = .ok (.areturn, 1)) (hp : post o u) : W p l e R s m args below meth c H locs cells slots (MQ below (zQq G A post w1) args s cells slots A) (F0 m pc ls [va_rf o]) :=
  W.aret hx hb hr hrt (va_rf_or o) (fun t ht hW => ⟨⟨o, u, rfl, hp, by rw [ht]; exact z_sub hP isW hC, hD.sub isW hnd hC⟩, hS.F ht⟩) hS.2.2 hdg hlocks
theorem z_topi {x y : Int32} (h : x = y) (k : W p l e R s m args below meth c H locs cells slots Q (F0 m pc ls (.int y :: rest))) : W p l e R s m args below meth c H locs cells slots Q (F0 m pc ls (.int x :: rest)) := h ▸ k
theorem z_topl {x y : Int64} (h : x = y) (k : W p l e R s m args below meth c H locs cells slots Q (F0 m pc ls (.long y :: rest))) : W p l e R s m args below meth c H locs cells slots Q (F0 m pc ls (.long x :: rest)) := h ▸ k
theorem z_newa (hexec : p.tables.exec = Jvm.exec) (hb : c.code = cc) {atype : ArrayType} (harr : (Cond.arrayClass (newarray.typeOf atype)).before args s = true) {ty : FieldType} (hty : newarray.typeOf atype = ty) (t0 : Nat) {cI : ClassId} (ht : (zTY cA)[t0]? = some (cI, ty)) (hpr : ∀ C, ty ≠ .object C) (hK : va_K G vwCl (zTY cA) s) (hP : va_P G vwCl ws H) (hD : va_D A ws) (hS : va_S A H0 H locs) (hA : ∀ q, H0.size ≤ q → A q)
    {n : Int32} {N' : Nat} {a0 : vp_A} (ha : ∀ cA : ClassId, vp_cell cA a0 = arrV cA N' (fun _ => defaultValue ty)) (hn : ¬ n < 0) (hN : n.toNatClampNeg = N') (hbytes : N' * componentBytes ty ≤ 536870912) (hcells : cells + 1 ≤ R.cells) (hslots : slots + N' ≤ R.slots) (hdg : decode cc pc = .ok (.newarray atype, 2))
    (kk : ∀ (q : Nat) (H1 : Heap), va_P G vwCl (ws ++ [(q, .inl (cI, a0))]) H1 → va_D A (ws ++ [(q, .inl (cI, a0))]) → va_S A H0 H1 locs →
      W p l e R s m args below meth c H1 locs (cells + 1) (slots + N') Q (F0 m (pc + 2) ls (.ref q :: rest))) : W p l e R s m args below meth c H locs cells slots Q (F0 m pc ls (.int n :: rest)) := by
  refine va_newa hexec hb harr hty hK hP hD hS hA ha hn hN hbytes hcells hslots hdg (fun q cB H1 hK1 hP1 hD1 hS1 => ?_)
  have e : cB = cI := by
    have h1 := (hK1.2 (zTY cA).length (cB, ty) (by rw [List.getElem?_append_right (Nat.le_refl _), Nat.sub_self]; rfl)).2
    have h2 := (hK.2 t0 _ ht).2
    cases ty <;> first | exact Option.some.inj (h1.symm.trans h2) | exact absurd rfl (hpr _)
  subst e
  exact kk q H1 hP1 hD1 hS1
theorem z_newq (hexec : p.tables.exec = Jvm.exec) (hb : c.code = cc) {C : String} (hown : s.vm.findClass own = some m.cls) (hclink : (Cond.classLink own index C).before args s = true) (hover : va_AO C s) (t0 : Nat) {cI : ClassId} (ht : (zTY cA)[t0]? = some (cI, .object C)) (hK : va_K G vwCl (zTY cA) s) (hP : va_P G vwCl ws H) (hD : va_D A ws) (hS : va_S A H0 H locs) (hA : ∀ q, H0.size ≤ q → A q)
    {n : Int32} {N' : Nat} (hn : ¬ n < 0) (hN : n.toNatClampNeg = N') (hbytes : N' * 4 ≤ 536870912) (hcells : cells + 1 ≤ R.cells) (hslots : slots + N' ≤ R.slots) (hdg : decode cc pc = .ok (.anewarray index, 3))
    (kk : ∀ (q : Nat) (H1 : Heap), va_P G vwCl (ws ++ [(q, .inl (cI, N', .inr (.inr (.inr (.inr (fun _ => none))))))]) H1 → va_D A (ws ++ [(q, .inl (cI, N', .inr (.inr (.inr (.inr (fun _ => none))))))]) → va_S A H0 H1 locs →
      W p l e R s m args below meth c H1 locs (cells + 1) (slots + N') Q (F0 m (pc + 3) ls (.ref q :: rest))) : W p l e R s m args below meth c H locs cells slots Q (F0 m pc ls (.int n :: rest)) := by
  refine va_newq hexec hb hown hclink hover hK hP hD hS hA hn hN hbytes hcells hslots hdg (fun q cB H1 hK1 hP1 hD1 hS1 => ?_)
  have e : cB = cI := by
    obtain ⟨_, _, _, _, _, h1⟩ := (hK1.2 (zTY cA).length (cB, .object C) (by rw [List.getElem?_append_right (Nat.le_refl _), Nat.sub_self]; rfl)).2
    obtain ⟨_, _, _, _, _, h2⟩ := (hK.2 t0 _ ht).2
    exact Option.some.inj (h1.symm.trans h2)
  subst e
  exact kk q H1 hP1 hD1 hS1
end ZC
theorem z_arrP {s : State} {args : Array Value} {ty : FieldType} (h : (Cond.arrayClass ty).before args s = true) (hpr : ∀ C, ty ≠ .object C) : ∃ cB : ClassId, ArrOfT s cB ty ∧ va_RA s cB ty := by
  obtain ⟨cB, kB, comp, h1, h2, h3⟩ := Cond.arrayClass_spec h
  refine ⟨cB, fun n z => ⟨fun k h => (by cases h), kB, h2, comp, h3⟩, ?_⟩
  cases ty <;> first | exact h1 | exact absurd rfl (hpr _)
theorem z_arrO {s : State} {C : String} (h : va_AO C s) : ∃ cB : ClassId, ArrOfT s cB (.object C) ∧ va_RA s cB (.object C) := by
  obtain ⟨comp, c, k, h1, h2, h3, h4, h5⟩ := Cond.arrayOver_spec h
  exact ⟨c, fun n z => ⟨fun k h => (by cases h), k, h3, comp, h4⟩, k, comp, h3, h4, h1, h5⟩

theorem z_b1 {x k : Int32} {K : Int} (h : k ≤ x) (hk : k.toInt = K) : K ≤ x.toInt := by rw [Int32.le_iff_toInt_le, hk] at h; exact h
theorem z_b2 {x k : Int32} {K : Int} (h : ¬ k ≤ x) (hk : k.toInt = K) : x.toInt < K := by rw [Int32.le_iff_toInt_le, hk] at h; omega
theorem z_b3 {x k : Int32} {K : Int} (h : x < k) (hk : k.toInt = K) : x.toInt < K := by rw [Int32.lt_iff_toInt_lt, hk] at h; exact h
theorem z_b4 {x k : Int32} {K : Int} (h : ¬ x < k) (hk : k.toInt = K) : K ≤ x.toInt := by rw [Int32.lt_iff_toInt_lt, hk] at h; omega
theorem z_b5 {x k : Int32} {K : Int} (h : x ≤ k) (hk : k.toInt = K) : x.toInt ≤ K := by rw [Int32.le_iff_toInt_le, hk] at h; exact h
theorem z_b6 {x k : Int32} {K : Int} (h : ¬ x ≤ k) (hk : k.toInt = K) : K < x.toInt := by rw [Int32.le_iff_toInt_le, hk] at h; omega
theorem z_b7 {x k : Int32} {K : Int} (h : k < x) (hk : k.toInt = K) : K < x.toInt := by rw [Int32.lt_iff_toInt_lt, hk] at h; exact h
theorem z_b8 {x k : Int32} {K : Int} (h : ¬ k < x) (hk : k.toInt = K) : x.toInt ≤ K := by rw [Int32.lt_iff_toInt_lt, hk] at h; omega
theorem z_ilt {x k : Int32} {K : Int} (hk : k.toInt = K) : x < k ↔ x.toInt < K := by rw [Int32.lt_iff_toInt_lt, hk]
theorem z_ige {x k : Int32} {K : Int} (hk : k.toInt = K) : k ≤ x ↔ K ≤ x.toInt := by rw [Int32.le_iff_toInt_le, hk]
theorem z_igt {x k : Int32} {K : Int} (hk : k.toInt = K) : k < x ↔ K < x.toInt := by rw [Int32.lt_iff_toInt_lt, hk]
theorem z_ile {x k : Int32} {K : Int} (hk : k.toInt = K) : x ≤ k ↔ x.toInt ≤ K := by rw [Int32.le_iff_toInt_le, hk]

theorem z_in {i : Int32} {n : Nat} (h1 : ¬ i < 0) (h2 : i.toNatClampNeg < n) : vp_in i n := fun h => h.elim h1 (fun h3 => absurd h2 (Nat.not_lt.mpr h3))
def zSec (f : Nat → Int32) : Prop := f 0 = 1 ∧ f 1 = 4 ∧ f 2 = 1 ∧ f 3 = 9
theorem z_n0 : (0 : Int32).toNatClampNeg = 0 := by decide +kernel
theorem z_n1 : (1 : Int32).toNatClampNeg = 1 := by decide +kernel
theorem z_n2 : (2 : Int32).toNatClampNeg = 2 := by decide +kernel
theorem z_n3 : (3 : Int32).toNatClampNeg = 3 := by decide +kernel
theorem z_secs (f : Nat → Int32) : zSec (upd (upd (upd (upd f (0 : Int32).toNatClampNeg 1) (1 : Int32).toNatClampNeg 4) (2 : Int32).toNatClampNeg 1) (3 : Int32).toNatClampNeg 9) := by
  rw [z_n0, z_n1, z_n2, z_n3]
  exact ⟨rfl, rfl, rfl, rfl⟩
theorem z_sec0 {f : Nat → Int32} (h : zSec f) : f (0 : Int32).toNatClampNeg = 1 := by rw [z_n0]; exact h.1
theorem z_sec1 {f : Nat → Int32} (h : zSec f) : f (1 : Int32).toNatClampNeg = 4 := by rw [z_n1]; exact h.2.1
theorem z_sec2 {f : Nat → Int32} (h : zSec f) : f (2 : Int32).toNatClampNeg = 1 := by rw [z_n2]; exact h.2.2.1
theorem z_sec3 {f : Nat → Int32} (h : zSec f) : f (3 : Int32).toNatClampNeg = 9 := by rw [z_n3]; exact h.2.2.2
