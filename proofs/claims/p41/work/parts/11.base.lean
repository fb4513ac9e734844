/-! THE CLAIM OUT OF ONE WALK OF THE LAW'S BODY. Your part is whole_start (and what it stands on); all else here is the same for every law, but numbers. -/
def R_law : String := "DarkRingLaw"
def lw_P (b : Addr) (xs : List Int32) (args : Array Value) (s : State) : Prop := args = #[.ref b] ∧ s.IntsAt b xs ∧ xs.length ≤ 3072 ∧ (Jvm.Cond.and given_1 narrow_1).before args s = true
def lw_Q (_ : Array Value) (s : State) (o : Outcome) (t : State) : Prop := o = .returned (some (.int 1)) ∧ Framed s o t [] 600000 7302250
def lw_Z (below : List Frame) (a : Array Value) (s : State) : State → Prop := fun t => ∃ o, t.status = .running ∧ Ended t below o ∧ lw_Q a s o t
/-- the law's own end, with 1 on the stack, nothing written that was there before, its room as the claim has it -/
theorem lw_ret {p : Program} {l : Launch} {e : Env} {s : State} {m : MethodId} {below : List Frame} {meth : Method} {c : Code} {b : Nat} (hx : p.tables.exec = Jvm.exec) (hb : c.code = code) (hr : meth.sig.returnType = ret) (hlocks : meth.locks = false) {pc : Nat} {H : Heap} {ls : Array Slot} (hdg : decode code pc = .ok (.ireturn, 1)) : W p l e room_1 s m #[Value.ref b] below meth c H [] 600000 7302250 (lw_Z below #[Value.ref b] s) (F0 m pc ls [.int 1]) := by
  intro T hT X
  obtain ⟨fs, hret, hrun, hended, hW, hframe⟩ := X.leave (v := some (.int 1)) (hlocks := hlocks) (fun h => by rw [hr] at h; cases h)
  have hmeth' : T.vm.method? m = some meth := X.method'
  refine ⟨T.setFrames fs, ?_, .returned (some (.int 1)), hrun, hended, rfl, ⟨_, rfl⟩, hW, hframe⟩
  jvm_step X.here [X.here.top, hx, hb, hdg, hmeth', hr, ret, narrow_b1]
  (try refine ⟨rfl, ?_⟩); (try refine ⟨rfl, ?_⟩)
  first | (intro acts; rw [hret _ acts rfl rfl rfl]) | rw [hret _ _ rfl rfl rfl]
  exact Steps.refl _
/-- what holds at the law's entry: the machine, the code, the tables' words (any of lw_tbl by 'hts w (by decide +kernel)'), the script of L ints xs at the cell b, what the Statement gives of the start (any of its parts by flat_of_before) -/
def lw_At (p : Program) (s : State) (m : MethodId) (meth : Method) (c : Code) (b L : Nat) (xs : Nat → Int32) : Prop :=
  p.tables.exec = Jvm.exec ∧ c.code = code ∧ meth.sig.returnType = ret ∧ c.maxLocals = 4 ∧ s.vm.findClass R_law = some m.cls ∧ (∀ w ∈ lw_tbl, w.before #[Value.ref b] s = true) ∧ va_X b L xs s s.heap ∧ b < s.heap.size ∧ meth.locks = false ∧ (Jvm.Cond.and given_1 narrow_1).before #[Value.ref b] s = true
theorem z_OM0 : zOM (fun _ => 0) := fun j _ => by
  have hz : (0 : Int32).toInt = 0 := by decide +kernel
  show 0 ≤ (0 : Int32).toInt ∧ (0 : Int32).toInt ≤ 10
  rw [hz]; omega
theorem z_rg0 {n : Nat} {lo hi : Int} (h1 : lo ≤ 0) (h2 : 0 ≤ hi) : zRg n lo hi (fun _ => 0) := by
  have hz : (0 : Int32).toInt = 0 := by decide +kernel
  intro j hj
  show lo ≤ (0 : Int32).toInt ∧ (0 : Int32).toInt ≤ hi
  rw [hz]; exact ⟨h1, h2⟩
set_option maxHeartbeats 4000000 in
set_option maxRecDepth 100000 in
theorem lw_end {p : Program} {e : Env} {s : State} {m : MethodId} {below : List Frame} {meth : Method} {c : Code} (l : Launch) {b : Nat} {A : Nat → Prop} {H : Heap} {locs : List Loc} {cells slots : Nat} {ls : Array Slot} (hx : p.tables.exec = Jvm.exec) (hb : c.code = code) (hr : meth.sig.returnType = ret) (hlocks : meth.locks = false) (hAf : ∀ q, A q → s.heap.size ≤ q) (hc : cells ≤ 600000) (hs : slots ≤ 7302250) (hS : va_S A s.heap H locs) : W p l e room_1 s m #[Value.ref b] below meth c H locs cells slots (lw_Z below #[Value.ref b] s) (F0 m 2035 ls []) := by
  refine lv_iconst (v := 1) hx hb dL_law_2035 (by decide) ?_
  refine va_forget (fun q hq => hAf _ (hS.2.2 q hq)) ?_
  refine W.widen (k := 600000) (n := 7302250) hc hs ?_
  exact lw_ret hx hb hr hlocks dL_law_2036
set_option maxHeartbeats 4000000 in
set_option maxRecDepth 100000 in
theorem lw_ex {s : State} {args : Array Value} (hts : ∀ w ∈ lw_tbl, w.before args s = true) : zEX s := by
  refine ⟨fun w hw => ?_, va_AO.of (hts (.arrayOver (.object "DarkRing$Tray")) (List.mem_of_getElem? (i := 198) (by decide +kernel))), va_AO.of (hts (.arrayOver (.object "DarkRing$House")) (List.mem_of_getElem? (i := 636) (by decide +kernel))), va_AO.of (hts (.arrayOver (.object "DarkRing$Thought")) (List.mem_of_getElem? (i := 637) (by decide +kernel))), va_AO.of (hts (.arrayOver (.object "DarkRing$Rule")) (List.mem_of_getElem? (i := 638) (by decide +kernel)))⟩
  have hz : zz_nest w = true := (List.mem_filter.mp hw).2
  have h6 := hts w (nb_in w hw)
  refine va_Nw.of ?_ h6
  cases w <;> first | rfl | (simp [zz_nest] at hz)
set_option maxHeartbeats 4000000 in
set_option maxRecDepth 100000 in
theorem lw_world {s : State} {args : Array Value} (hts : ∀ w ∈ lw_tbl, w.before args s = true) (hE : zEX s) : ∃ (G : va_G) (r : Nat → ClassId), ∀ u v : Nat → Nat, va_K G vwCl (zTY (r, u, v)) s := by
  have htb : ∀ w ∈ TB, w.before args s = true := fun w h => hts w (tb_in w h)
  obtain ⟨c0, i0, h0⟩ := u_known (C := RX0) (T := TX0) (N := 7) (n := 7) htb inT0 (htb _ tw_535)
  obtain ⟨c1, i1, h1⟩ := u_known (C := RX1) (T := TX1) (N := 20) (n := 20) htb inT1 (htb _ tw_565)
  obtain ⟨c2, i2, h2⟩ := u_known (C := RX2) (T := TX2) (N := 18) (n := 18) htb inT2 (htb _ tw_249)
  obtain ⟨c3, i3, h3⟩ := u_known (C := RX3) (T := TX3) (N := 10) (n := 10) htb inT3 (htb _ tw_409)
  obtain ⟨c4, i4, h4⟩ := u_known (C := RX4) (T := TX4) (N := 3) (n := 3) htb inT4 (htb _ tw_519)
  obtain ⟨c5, i5, h5⟩ := u_known (C := RX5) (T := TX5) (N := 8) (n := 8) htb inT5 (htb _ tw_373)
  obtain ⟨c6, i6, h6⟩ := u_known (C := RX6) (T := TX6) (N := 5) (n := 5) htb inT6 (htb _ tw_449)
  obtain ⟨c7, i7, h7⟩ := u_known (C := RX7) (T := TX7) (N := 11) (n := 11) htb inT7 (htb _ tw_474)
  obtain ⟨c8, i8, h8⟩ := u_known (C := RX8) (T := TX8) (N := 11) (n := 11) htb inT8 (htb _ tw_200)
  obtain ⟨c9, i9, h9⟩ := u_known (C := RX9) (T := TX9) (N := 6) (n := 6) htb inT9 (htb _ tw_344)
  obtain ⟨c10, i10, h10⟩ := u_known (C := RX10) (T := TX10) (N := 3) (n := 3) htb inT10 (htb _ tw_639)
  obtain ⟨c11, i11, h11⟩ := u_known (C := RX11) (T := TX11) (N := 18) (n := 18) htb inT11 (htb _ tw_190)
  obtain ⟨c12, i12, h12⟩ := u_known (C := RX12) (T := TX12) (N := 65) (n := 65) htb inT12 (htb _ tw_1876)
  obtain ⟨r0, g0⟩ := z_arrP (ty := .int) (htb _ tw_342) (fun _ h => by cases h)
  obtain ⟨r1, g1⟩ := z_arrP (ty := .long) (htb _ tw_341) (fun _ h => by cases h)
  obtain ⟨r2, g2⟩ := z_arrP (ty := .byte) (htb _ tw_247) (fun _ h => by cases h)
  obtain ⟨r3, g3⟩ := z_arrP (ty := .boolean) (htb _ tw_517) (fun _ h => by cases h)
  obtain ⟨r4, g4⟩ := z_arrO hE.2.1
  obtain ⟨r5, g5⟩ := z_arrO hE.2.2.1
  obtain ⟨r6, g6⟩ := z_arrO hE.2.2.2.1
  obtain ⟨r7, g7⟩ := z_arrO hE.2.2.2.2
  refine ⟨((fun k => match k with | 0 => c0 | 1 => c1 | 2 => c2 | 3 => c3 | 4 => c4 | 5 => c5 | 6 => c6 | 7 => c7 | 8 => c8 | 9 => c9 | 10 => c10 | 11 => c11 | _ => c12), (fun k => match k with | 0 => i0 | 1 => i1 | 2 => i2 | 3 => i3 | 4 => i4 | 5 => i5 | 6 => i6 | 7 => i7 | 8 => i8 | 9 => i9 | 10 => i10 | 11 => i11 | _ => i12)), (fun k => match k with | 0 => r0 | 1 => r1 | 2 => r2 | 3 => r3 | 4 => r4 | 5 => r5 | 6 => r6 | _ => r7), fun u v => ⟨fun k q hq => ?_, fun k q hq => ?_⟩⟩
  · match k, hq with
    | 0, hq => cases hq; exact h0
    | 1, hq => cases hq; exact h1
    | 2, hq => cases hq; exact h2
    | 3, hq => cases hq; exact h3
    | 4, hq => cases hq; exact h4
    | 5, hq => cases hq; exact h5
    | 6, hq => cases hq; exact h6
    | 7, hq => cases hq; exact h7
    | 8, hq => cases hq; exact h8
    | 9, hq => cases hq; exact h9
    | 10, hq => cases hq; exact h10
    | 11, hq => cases hq; exact h11
    | 12, hq => cases hq; exact h12
    | k + 13, hq => simp [vwCl] at hq
  · match k, hq with
    | 0, hq => cases hq; exact g0
    | 1, hq => cases hq; exact g1
    | 2, hq => cases hq; exact g2
    | 3, hq => cases hq; exact g3
    | 4, hq => cases hq; exact g4
    | 5, hq => cases hq; exact g5
    | 6, hq => cases hq; exact g6
    | 7, hq => cases hq; exact g7
    | k + 8, hq => simp [zTY] at hq
def ztm (i : Nat) : Term := Term.string (zls i).1 (zls i).2.1
abbrev zval (i : Nat) : Term := .field (ztm i) "java/lang/String" "value" "[B"
def zEx (i : Nat) : Cond := .exactly (ztm i) "java/lang/String"
def zCo (i : Nat) : Cond := .eq (.field (ztm i) "java/lang/String" "coder" "B") (.int 0)
def zAr (i : Nat) : Cond := .arrayOf (zval i) .byte
def zLe (i : Nat) : Cond := .eq (.length (zval i)) (.int (Int32.ofNat (zlb i).length))
def zEl (i j : Nat) : Cond := .eq (.elem (zval i) (.int (Int32.ofNat j))) (.int ((zlb i).getD j 0))
def zRe (i : Nat) : Cond := .stringRef (zls i).1 (zls i).2.1 (zls i).2.2
def zNr : List Cond := flatC (Jvm.Cond.and given_1 narrow_1)
theorem z_atp {T : Type} {l c : List T} {ps : List Nat} (h : ps.map (fun i => l[i]?) = c.map some) : ∀ w ∈ c, w ∈ l := by
  intro w hw
  have h1 : some w ∈ c.map some := List.mem_map.mpr ⟨w, hw, rfl⟩
  rw [← h] at h1
  obtain ⟨i, -, hi⟩ := List.mem_map.mp h1
  exact List.mem_of_getElem? hi
theorem z_rng {T : Type} {l : List T} {f : Nat → T} {N : Nat} (h : ∀ w ∈ (List.range N).map f, w ∈ l) (i : Nat) (hi : i < N) : f i ∈ l := h _ (List.mem_map.mpr ⟨i, List.mem_range.mpr hi, rfl⟩)
set_option maxHeartbeats 4000000 in
set_option maxRecDepth 100000 in
theorem zn_ex : ∀ i : Nat, i < 42 → zEx i ∈ zNr := z_rng (z_atp (ps := [61, 72, 84, 93, 103, 112, 119, 127, 135, 145, 151, 162, 170, 177, 183, 191, 200, 210, 221, 231, 239, 248, 257, 268, 275, 287, 296, 304, 311, 320, 330, 337, 345, 353, 363, 372, 380, 388, 398, 406, 414, 423]) (by decide +kernel))
set_option maxHeartbeats 4000000 in
set_option maxRecDepth 100000 in
theorem zn_co : ∀ i : Nat, i < 42 → zCo i ∈ zNr := z_rng (z_atp (ps := [62, 73, 85, 94, 104, 113, 120, 128, 136, 146, 152, 163, 171, 178, 184, 192, 201, 211, 222, 232, 240, 249, 258, 269, 276, 288, 297, 305, 312, 321, 331, 338, 346, 354, 364, 373, 381, 389, 399, 407, 415, 424]) (by decide +kernel))
set_option maxHeartbeats 4000000 in
set_option maxRecDepth 100000 in
theorem zn_ar : ∀ i : Nat, i < 42 → zAr i ∈ zNr := z_rng (z_atp (ps := [63, 74, 86, 95, 105, 114, 121, 129, 137, 147, 153, 164, 172, 179, 185, 193, 202, 212, 223, 233, 241, 250, 259, 270, 277, 289, 298, 306, 313, 322, 332, 339, 347, 355, 365, 374, 382, 390, 400, 408, 416, 425]) (by decide +kernel))
set_option maxHeartbeats 4000000 in
set_option maxRecDepth 100000 in
theorem zn_le : ∀ i : Nat, i < 42 → zLe i ∈ zNr := z_rng (z_atp (ps := [64, 75, 87, 96, 106, 115, 122, 130, 138, 148, 154, 165, 173, 180, 186, 194, 203, 213, 224, 234, 242, 251, 260, 271, 278, 290, 299, 307, 314, 323, 333, 340, 348, 356, 366, 375, 383, 391, 401, 409, 417, 426]) (by decide +kernel))
set_option maxHeartbeats 4000000 in
set_option maxRecDepth 100000 in
theorem zn_el0 : ∀ w ∈ (List.range 42).flatMap (fun i => (List.range (zlb i).length).map (fun j => zEl i j)), w ∈ zNr := z_atp (ps := [65, 66, 67, 68, 69, 70, 71, 76, 77, 78, 79, 80, 81, 82, 88, 89, 90, 91, 92, 97, 98, 99, 100, 101, 102, 107, 108, 109, 110, 111, 116, 117, 118, 123, 124, 125, 126, 131, 132, 133, 134, 139, 140, 141, 142, 143, 144, 149, 150, 155, 156, 157, 158, 159, 160, 161, 166, 167, 168, 169, 174, 175, 176, 181, 182, 187, 188, 189, 190, 195, 196, 197, 198, 199, 204, 205, 206, 207, 208, 214, 215, 216, 217, 218, 219, 225, 226, 227, 228, 229, 235, 236, 237, 243, 244, 245, 246, 252, 253, 254, 255, 261, 262, 263, 264, 265, 266, 272, 273, 279, 280, 281, 282, 283, 284, 285, 291, 292, 293, 294, 300, 301, 302, 308, 309, 315, 316, 317, 318, 324, 325, 326, 327, 328, 334, 335, 336, 341, 342, 343, 344, 349, 350, 351, 352, 357, 358, 359, 360, 367, 368, 369, 376, 377, 384, 385, 386, 387, 392, 393, 394, 395, 402, 403, 404, 405, 410, 411, 412, 413, 418, 419, 420, 421, 422, 427, 428, 429, 430]) (by decide +kernel)
theorem zn_el (i : Nat) (hi : i < 42) (j : Nat) (hj : j < (zlb i).length) : zEl i j ∈ zNr := zn_el0 _ (List.mem_flatMap.mpr ⟨i, List.mem_range.mpr hi, List.mem_map.mpr ⟨j, List.mem_range.mpr hj, rfl⟩⟩)
set_option maxHeartbeats 4000000 in
set_option maxRecDepth 100000 in
theorem zn_re : ∀ i : Nat, i < 42 → zRe i ∈ lw_tbl := z_rng (z_atp (ps := [863, 933, 935, 936, 937, 938, 939, 940, 941, 942, 943, 944, 945, 946, 947, 948, 957, 971, 990, 1013, 1022, 1051, 1056, 1057, 1082, 1090, 1091, 1092, 1093, 1099, 1137, 1156, 1157, 1162, 1163, 1164, 1165, 1166, 1167, 1182, 1197, 1198]) (by decide +kernel))

set_option maxHeartbeats 4000000 in
set_option maxRecDepth 100000 in
theorem lw_text {s : State} {args : Array Value} {A : Nat → Prop} (hts : ∀ w ∈ lw_tbl, w.before args s = true) (hgv : (Jvm.Cond.and given_1 narrow_1).before args s = true) (hA : ∀ a : Nat, a < s.heap.size → ¬ A a) : ∃ u v : Nat → Nat, ∀ r : Nat → ClassId, zST (r, u, v) A s s.heap := by
  have hs := flat_of_before _ hgv
  have h0 : ∀ i : Nat, ∃ q : Nat × Nat, i < 42 → vk_R (zls i).1 (zls i).2.1 (zls i).2.2 q.1 s ∧ ∀ r : Nat → ClassId, zSt1 (r, fun _ => q.1, fun _ => q.2) i A s s.heap := by
    intro i
    by_cases hi : i < 42
    · obtain ⟨adK, adV, h1, h2⟩ := vk_Sof (args := args) (s := s) (N := 1) (tm := fun _ => ztm i) (len := [(zlb i).length]) (byt := [zlb i]) (A := A)
        (fun k hk => by
          have e : k = 0 := by omega
          subst e
          have := zlb_len i hi
          show (zlb i).length < 2 ^ 31
          omega)
        (fun k _ => hs _ (zn_ex i hi)) (fun k _ => hs _ (zn_co i hi)) (fun k _ => hs _ (zn_ar i hi))
        (fun k hk => by
          have e : k = 0 := by omega
          subst e
          exact hs _ (zn_le i hi))
        (fun k hk j hj => by
          have e : k = 0 := by omega
          subst e
          exact hs _ (zn_el i hi j hj))
        (fun k j hk hj h => absurd (show k = j by omega) h) hA
      have h3 := h1.1 0 (by decide)
      exact ⟨(adK 0, adV 0), fun _ => ⟨vk_R.of (hts _ (zn_re i hi)) (h2 0 (by decide)), fun r => h3⟩⟩
    · exact ⟨(0, 0), fun h => absurd h hi⟩
  obtain ⟨ad, had⟩ := Classical.axiomOfChoice h0
  refine ⟨fun i => (ad i).1, fun i => (ad i).2, fun r => ⟨fun i hi => ⟨(had i hi).1, (had i hi).2 r⟩, ?_, ?_⟩⟩
  · exact va_Zof (hts _ (List.mem_of_getElem? (i := 877) (by decide +kernel))) (hts _ (List.mem_of_getElem? (i := 183) (by decide +kernel))) (va_eqt (hs _ (List.mem_of_getElem? (i := 4) (by decide +kernel)))) hA
  · exact va_Zqof (hts _ (List.mem_of_getElem? (i := 893) (by decide +kernel))) (hts _ (List.mem_of_getElem? (i := 185) (by decide +kernel))) (hs _ (List.mem_of_getElem? (i := 5) (by decide +kernel))) hA
