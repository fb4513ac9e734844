set_option maxHeartbeats 4000000 in
set_option maxRecDepth 100000 in
theorem lw_case_0 {p : Program} {e : Env} {s : State} {m : MethodId} {below : List Frame} {meth : Method} {c : Code} (l : Launch) (G : va_G) (cA : Nat → ClassId) {b : Nat} {xs : Nat → Int32} {A : Nat → Prop} (h0 : Nat) (atr : Nat) (atx : Nat) (aho : Nat) (ath : Nat) (aru : Nat) (ahr : Nat) (arr_ : Nat) (ase : Nat) (ali : Nat) (aac : Nat) (aga : Nat) (akh : Nat) (ako : Nat) (akr : Nat) (h0_m : Nat) (m4_m : Value) (m5_m : Value) (m6_m : Value) (m7_m : Value) (m20_m : Value) (m21_m : Value) (m23_m : Value) (m24_m : Value) (m25_m : Value) (m26_m : Value) (m35_m : Value) (m36_m : Value) (m51_m : Value) (m52_m : Value) (m53_m : Value) (m57_m : Value) (m58_m : Value) (m62_m : Value) (a1 : Int32) (a2 : Int32) (a3 : Int32) (a4 : Int32) (a5 : Int32) (ha1 : xs (1 : Int32).toNatClampNeg = a1) (ha2 : xs (2 : Int32).toNatClampNeg = a2) (ha3 : xs (3 : Int32).toNatClampNeg = a3) (ha4 : xs (4 : Int32).toNatClampNeg = a4) (ha5 : xs (5 : Int32).toNatClampNeg = a5) {H : Heap} {locs : List Loc} {ls : Array Slot} (hx : p.tables.exec = Jvm.exec) (hb : c.code = code) (hr : meth.sig.returnType = ret) (hml : c.maxLocals = 4) (hown : s.vm.findClass RL = some m.cls) (hts : ∀ w ∈ TB, w.before #[Value.ref b] s = true) (hlocks : meth.locks = false) (hX : va_X b 6 xs s s.heap) (hbl : b < s.heap.size) (hbA : ¬ A b) (hA : ∀ q, s.heap.size ≤ q → A q) (hAf : ∀ q, A q → s.heap.size ≤ q) (hK : va_K G vwCl (zTY cA) s) (hE : zEX s) (hP : va_P G vwCl [(h0, .inr (11, [.int 0, .long 0, .long 1, .ref atr, .ref atx, .ref aho, .ref ath, .ref aru, .ref ahr, .ref arr_, .ref ase, .ref ali, .ref aac, .ref aga, .int 0, .ref akh, .ref ako, .ref akr])), (h0_m, .inr (12, [.int 0, .int 0, .long 0, .long 1, m4_m, m5_m, m6_m, m7_m, .int 0, .int 0, .int (-1), .int (-1), .int 0, .int 0, .int 0, .int 0, .int 0, .int 0, .int 0, .long 0, m20_m, m21_m, .int 0, m23_m, m24_m, m25_m, m26_m, .int 0, .int 0, .int 0, .int 0, .int 0, .int 0, .long 0, .long 0, m35_m, m36_m, .int 0, .int 0, .int 0, .int 0, .int 0, .int 0, .int 0, .int 0, .int 0, .int 0, .int 0, .int 0, .int 0, .int 0, m51_m, m52_m, m53_m, .int 0, .int 0, .int 0, m57_m, m58_m, .int 0, .long 0, .long 0, m62_m, .int 0, .int 0]))] H) (hD : va_D A [(h0, .inr (11, [.int 0, .long 0, .long 1, .ref atr, .ref atx, .ref aho, .ref ath, .ref aru, .ref ahr, .ref arr_, .ref ase, .ref ali, .ref aac, .ref aga, .int 0, .ref akh, .ref ako, .ref akr])), (h0_m, .inr (12, [.int 0, .int 0, .long 0, .long 1, m4_m, m5_m, m6_m, m7_m, .int 0, .int 0, .int (-1), .int (-1), .int 0, .int 0, .int 0, .int 0, .int 0, .int 0, .int 0, .long 0, m20_m, m21_m, .int 0, m23_m, m24_m, m25_m, m26_m, .int 0, .int 0, .int 0, .int 0, .int 0, .int 0, .long 0, .long 0, m35_m, m36_m, .int 0, .int 0, .int 0, .int 0, .int 0, .int 0, .int 0, .int 0, .int 0, .int 0, .int 0, .int 0, .int 0, .int 0, m51_m, m52_m, m53_m, .int 0, .int 0, .int 0, m57_m, m58_m, .int 0, .long 0, .long 0, m62_m, .int 0, .int 0]))]) (hS : va_S A s.heap H locs) (hl : lv_has ls 4 [(3, .int 0), (2, .ref h0_m), (1, .ref h0), (0, .ref b)]) : W p l e room_1 s m #[Value.ref b] below meth c H locs 166 7482 (lw_Z below #[Value.ref b] s) (F0 m 260 ls []) := by
  refine lv_aload_n hx hb dL_law_260 rfl (lv_at hl 2 rfl) ?_
  refine z_callVi (As := []) (rest := []) (wr := [(h0_m, .inr (12, [.int 0, .int 0, .long 0, .long 1, m4_m, m5_m, m6_m, m7_m, .int 0, .int 0, .int (-1), .int (-1), .int 0, .int 0, .int 0, .int 0, .int 0, .int 0, .int 0, .long 0, m20_m, m21_m, .int 0, m23_m, m24_m, m25_m, m26_m, .int 0, .int 0, .int 0, .int 0, .int 0, .int 0, .long 0, .long 0, m35_m, m36_m, .int 0, .int 0, .int 0, .int 0, .int 0, .int 0, .int 0, .int 0, .int 0, .int 0, .int 0, .int 0, .int 0, .int 0, m51_m, m52_m, m53_m, .int 0, .int 0, .int 0, m57_m, m58_m, .int 0, .long 0, .long 0, m62_m, .int 0, .int 0]))]) ⟨hx, hb, hml, hown, hts⟩ hK hE hP hD hS hA (c_DR_status l G cA h0 atr atx aho ath aru ahr arr_ ase ali aac aga akh ako akr) lk_RL_13 ⟨rfl, rfl⟩ ⟨Nat.le_of_ble_eq_true rfl, Nat.le_of_ble_eq_true rfl⟩ 11 rfl rfl rfl [0] [1] rfl rfl (by decide) rfl hl.1 rfl (lv_room (Nat.le_of_ble_eq_true rfl)) dL_law_261 ⟨Nat.le_of_ble_eq_true rfl, Nat.le_of_ble_eq_true rfl⟩ (fun r_1 u_2 H locs hw hP hD hS => ?_)
  have hP : va_P G vwCl [(h0_m, .inr (12, [.int 0, .int 0, .long 0, .long 1, m4_m, m5_m, m6_m, m7_m, .int 0, .int 0, .int (-1), .int (-1), .int 0, .int 0, .int 0, .int 0, .int 0, .int 0, .int 0, .long 0, m20_m, m21_m, .int 0, m23_m, m24_m, m25_m, m26_m, .int 0, .int 0, .int 0, .int 0, .int 0, .int 0, .long 0, .long 0, m35_m, m36_m, .int 0, .int 0, .int 0, .int 0, .int 0, .int 0, .int 0, .int 0, .int 0, .int 0, .int 0, .int 0, .int 0, .int 0, m51_m, m52_m, m53_m, .int 0, .int 0, .int 0, m57_m, m58_m, .int 0, .long 0, .long 0, m62_m, .int 0, .int 0]))] H := hP
  have hD : va_D A [(h0_m, .inr (12, [.int 0, .int 0, .long 0, .long 1, m4_m, m5_m, m6_m, m7_m, .int 0, .int 0, .int (-1), .int (-1), .int 0, .int 0, .int 0, .int 0, .int 0, .int 0, .int 0, .long 0, m20_m, m21_m, .int 0, m23_m, m24_m, m25_m, m26_m, .int 0, .int 0, .int 0, .int 0, .int 0, .int 0, .long 0, .long 0, m35_m, m36_m, .int 0, .int 0, .int 0, .int 0, .int 0, .int 0, .int 0, .int 0, .int 0, .int 0, .int 0, .int 0, .int 0, .int 0, m51_m, m52_m, m53_m, .int 0, .int 0, .int 0, m57_m, m58_m, .int 0, .long 0, .long 0, m62_m, .int 0, .int 0]))] := hD
  obtain rfl : r_1 = 0 := hw
  refine lv_aload_n hx hb dL_law_264 rfl (lv_at hl 1 rfl) ?_
  refine z_callVi (As := []) (rest := [.int 0]) (wr := []) ⟨hx, hb, hml, hown, hts⟩ hK hE hP hD hS hA (c_M_status l G cA h0_m m4_m m5_m m6_m m7_m m20_m m21_m m23_m m24_m m25_m m26_m m35_m m36_m m51_m m52_m m53_m m57_m m58_m m62_m) lk_RL_17 ⟨rfl, rfl⟩ ⟨Nat.le_of_ble_eq_true rfl, Nat.le_of_ble_eq_true rfl⟩ 12 rfl rfl rfl [0] [] rfl rfl (by decide) rfl hl.1 rfl (lv_room (Nat.le_of_ble_eq_true rfl)) dL_law_265 ⟨Nat.le_of_ble_eq_true rfl, Nat.le_of_ble_eq_true rfl⟩ (fun r_3 u_4 H locs hw hP hD hS => ?_)
  have hP : va_P G vwCl [] H := hP
  have hD : va_D A [] := hD
  obtain rfl : r_3 = 0 := hw
  refine lv_icmp_eq (tgt := 2032) hx hb dL_law_268 (by decide) (fun _ => ?_) (fun h9 => absurd (by decide +kernel) h9)
  exact lw_exit l hx hb hr hlocks hX hbl hbA hAf (Nat.le_of_ble_eq_true rfl) (Nat.le_of_ble_eq_true rfl) hS (lv_sub hl [3, 0] rfl)
set_option maxHeartbeats 4000000 in
set_option maxRecDepth 100000 in
theorem lw_case_1 {p : Program} {e : Env} {s : State} {m : MethodId} {below : List Frame} {meth : Method} {c : Code} (l : Launch) (G : va_G) (cA : Nat → ClassId) {b : Nat} {xs : Nat → Int32} {A : Nat → Prop} (h0 : Nat) (atr : Nat) (atx : Nat) (aho : Nat) (ath : Nat) (aru : Nat) (ahr : Nat) (arr_ : Nat) (ase : Nat) (ali : Nat) (aac : Nat) (aga : Nat) (akh : Nat) (ako : Nat) (akr : Nat) (h0_m : Nat) (m4_m : Value) (m5_m : Value) (m6_m : Value) (m7_m : Value) (m20_m : Value) (m21_m : Value) (m23_m : Value) (m24_m : Value) (m25_m : Value) (m26_m : Value) (m35_m : Value) (m36_m : Value) (m51_m : Value) (m52_m : Value) (m53_m : Value) (m57_m : Value) (m58_m : Value) (m62_m : Value) (a1 : Int32) (a2 : Int32) (a3 : Int32) (a4 : Int32) (a5 : Int32) (ha1 : xs (1 : Int32).toNatClampNeg = a1) (ha2 : xs (2 : Int32).toNatClampNeg = a2) (ha3 : xs (3 : Int32).toNatClampNeg = a3) (ha4 : xs (4 : Int32).toNatClampNeg = a4) (ha5 : xs (5 : Int32).toNatClampNeg = a5) {H : Heap} {locs : List Loc} {ls : Array Slot} (hx : p.tables.exec = Jvm.exec) (hb : c.code = code) (hr : meth.sig.returnType = ret) (hml : c.maxLocals = 4) (hown : s.vm.findClass RL = some m.cls) (hts : ∀ w ∈ TB, w.before #[Value.ref b] s = true) (hlocks : meth.locks = false) (hX : va_X b 6 xs s s.heap) (hbl : b < s.heap.size) (hbA : ¬ A b) (hA : ∀ q, s.heap.size ≤ q → A q) (hAf : ∀ q, A q → s.heap.size ≤ q) (hK : va_K G vwCl (zTY cA) s) (hE : zEX s) (hP : va_P G vwCl [(h0, .inr (11, [.int 0, .long 0, .long 1, .ref atr, .ref atx, .ref aho, .ref ath, .ref aru, .ref ahr, .ref arr_, .ref ase, .ref ali, .ref aac, .ref aga, .int 0, .ref akh, .ref ako, .ref akr])), (h0_m, .inr (12, [.int 0, .int 0, .long 0, .long 1, m4_m, m5_m, m6_m, m7_m, .int 0, .int 0, .int (-1), .int (-1), .int 0, .int 0, .int 0, .int 0, .int 0, .int 0, .int 0, .long 0, m20_m, m21_m, .int 0, m23_m, m24_m, m25_m, m26_m, .int 0, .int 0, .int 0, .int 0, .int 0, .int 0, .long 0, .long 0, m35_m, m36_m, .int 0, .int 0, .int 0, .int 0, .int 0, .int 0, .int 0, .int 0, .int 0, .int 0, .int 0, .int 0, .int 0, .int 0, m51_m, m52_m, m53_m, .int 0, .int 0, .int 0, m57_m, m58_m, .int 0, .long 0, .long 0, m62_m, .int 0, .int 0]))] H) (hD : va_D A [(h0, .inr (11, [.int 0, .long 0, .long 1, .ref atr, .ref atx, .ref aho, .ref ath, .ref aru, .ref ahr, .ref arr_, .ref ase, .ref ali, .ref aac, .ref aga, .int 0, .ref akh, .ref ako, .ref akr])), (h0_m, .inr (12, [.int 0, .int 0, .long 0, .long 1, m4_m, m5_m, m6_m, m7_m, .int 0, .int 0, .int (-1), .int (-1), .int 0, .int 0, .int 0, .int 0, .int 0, .int 0, .int 0, .long 0, m20_m, m21_m, .int 0, m23_m, m24_m, m25_m, m26_m, .int 0, .int 0, .int 0, .int 0, .int 0, .int 0, .long 0, .long 0, m35_m, m36_m, .int 0, .int 0, .int 0, .int 0, .int 0, .int 0, .int 0, .int 0, .int 0, .int 0, .int 0, .int 0, .int 0, .int 0, m51_m, m52_m, m53_m, .int 0, .int 0, .int 0, m57_m, m58_m, .int 0, .long 0, .long 0, m62_m, .int 0, .int 0]))]) (hS : va_S A s.heap H locs) (hl : lv_has ls 4 [(3, .int 0), (2, .ref h0_m), (1, .ref h0), (0, .ref b)]) : W p l e room_1 s m #[Value.ref b] below meth c H locs 166 7482 (lw_Z below #[Value.ref b] s) (F0 m 273 ls []) := by
  refine lv_aload_n hx hb dL_law_273 rfl (lv_at hl 2 rfl) ?_
  refine z_callVl (As := []) (rest := []) (wr := [(h0_m, .inr (12, [.int 0, .int 0, .long 0, .long 1, m4_m, m5_m, m6_m, m7_m, .int 0, .int 0, .int (-1), .int (-1), .int 0, .int 0, .int 0, .int 0, .int 0, .int 0, .int 0, .long 0, m20_m, m21_m, .int 0, m23_m, m24_m, m25_m, m26_m, .int 0, .int 0, .int 0, .int 0, .int 0, .int 0, .long 0, .long 0, m35_m, m36_m, .int 0, .int 0, .int 0, .int 0, .int 0, .int 0, .int 0, .int 0, .int 0, .int 0, .int 0, .int 0, .int 0, .int 0, m51_m, m52_m, m53_m, .int 0, .int 0, .int 0, m57_m, m58_m, .int 0, .long 0, .long 0, m62_m, .int 0, .int 0]))]) ⟨hx, hb, hml, hown, hts⟩ hK hE hP hD hS hA (c_DR_top l G cA h0 atr atx aho ath aru ahr arr_ ase ali aac aga akh ako akr) lk_RL_18 ⟨rfl, rfl⟩ ⟨Nat.le_of_ble_eq_true rfl, Nat.le_of_ble_eq_true rfl⟩ 11 rfl rfl rfl [0] [1] rfl rfl (by decide) rfl hl.1 rfl (lv_room (Nat.le_of_ble_eq_true rfl)) dL_law_274 ⟨Nat.le_of_ble_eq_true rfl, Nat.le_of_ble_eq_true rfl⟩ (fun r_1 u_2 H locs hw hP hD hS => ?_)
  have hP : va_P G vwCl [(h0_m, .inr (12, [.int 0, .int 0, .long 0, .long 1, m4_m, m5_m, m6_m, m7_m, .int 0, .int 0, .int (-1), .int (-1), .int 0, .int 0, .int 0, .int 0, .int 0, .int 0, .int 0, .long 0, m20_m, m21_m, .int 0, m23_m, m24_m, m25_m, m26_m, .int 0, .int 0, .int 0, .int 0, .int 0, .int 0, .long 0, .long 0, m35_m, m36_m, .int 0, .int 0, .int 0, .int 0, .int 0, .int 0, .int 0, .int 0, .int 0, .int 0, .int 0, .int 0, .int 0, .int 0, m51_m, m52_m, m53_m, .int 0, .int 0, .int 0, m57_m, m58_m, .int 0, .long 0, .long 0, m62_m, .int 0, .int 0]))] H := hP
  have hD : va_D A [(h0_m, .inr (12, [.int 0, .int 0, .long 0, .long 1, m4_m, m5_m, m6_m, m7_m, .int 0, .int 0, .int (-1), .int (-1), .int 0, .int 0, .int 0, .int 0, .int 0, .int 0, .int 0, .long 0, m20_m, m21_m, .int 0, m23_m, m24_m, m25_m, m26_m, .int 0, .int 0, .int 0, .int 0, .int 0, .int 0, .long 0, .long 0, m35_m, m36_m, .int 0, .int 0, .int 0, .int 0, .int 0, .int 0, .int 0, .int 0, .int 0, .int 0, .int 0, .int 0, .int 0, .int 0, m51_m, m52_m, m53_m, .int 0, .int 0, .int 0, m57_m, m58_m, .int 0, .long 0, .long 0, m62_m, .int 0, .int 0]))] := hD
  obtain rfl : r_1 = 0 := hw
  refine lv_aload_n hx hb dL_law_277 rfl (lv_at hl 1 rfl) ?_
  refine z_callVl (As := []) (rest := [.long 0]) (wr := []) ⟨hx, hb, hml, hown, hts⟩ hK hE hP hD hS hA (c_M_top l G cA h0_m m4_m m5_m m6_m m7_m m20_m m21_m m23_m m24_m m25_m m26_m m35_m m36_m m51_m m52_m m53_m m57_m m58_m m62_m) lk_RL_22 ⟨rfl, rfl⟩ ⟨Nat.le_of_ble_eq_true rfl, Nat.le_of_ble_eq_true rfl⟩ 12 rfl rfl rfl [0] [] rfl rfl (by decide) rfl hl.1 rfl (lv_room (Nat.le_of_ble_eq_true rfl)) dL_law_278 ⟨Nat.le_of_ble_eq_true rfl, Nat.le_of_ble_eq_true rfl⟩ (fun r_3 u_4 H locs hw hP hD hS => ?_)
  have hP : va_P G vwCl [] H := hP
  have hD : va_D A [] := hD
  obtain rfl : r_3 = 0 := hw
  refine W.lcmp hx hb dL_law_281 ?_
  refine z_topi (y := 0) (by decide +kernel) ?_
  refine lv_if_eq (tgt := 2032) hx hb dL_law_282 (by decide) (fun _ => ?_) (fun h9 => absurd (by decide +kernel) h9)
  exact lw_exit l hx hb hr hlocks hX hbl hbA hAf (Nat.le_of_ble_eq_true rfl) (Nat.le_of_ble_eq_true rfl) hS (lv_sub hl [3, 0] rfl)
set_option maxHeartbeats 4000000 in
set_option maxRecDepth 100000 in
theorem lw_case_2 {p : Program} {e : Env} {s : State} {m : MethodId} {below : List Frame} {meth : Method} {c : Code} (l : Launch) (G : va_G) (cA : Nat → ClassId) {b : Nat} {xs : Nat → Int32} {A : Nat → Prop} (h0 : Nat) (atr : Nat) (atx : Nat) (aho : Nat) (ath : Nat) (aru : Nat) (ahr : Nat) (arr_ : Nat) (ase : Nat) (ali : Nat) (aac : Nat) (aga : Nat) (akh : Nat) (ako : Nat) (akr : Nat) (h0_m : Nat) (m4_m : Value) (m5_m : Value) (m6_m : Value) (m7_m : Value) (m20_m : Value) (m21_m : Value) (m23_m : Value) (m24_m : Value) (m25_m : Value) (m26_m : Value) (m35_m : Value) (m36_m : Value) (m51_m : Value) (m52_m : Value) (m53_m : Value) (m57_m : Value) (m58_m : Value) (m62_m : Value) (a1 : Int32) (a2 : Int32) (a3 : Int32) (a4 : Int32) (a5 : Int32) (ha1 : xs (1 : Int32).toNatClampNeg = a1) (ha2 : xs (2 : Int32).toNatClampNeg = a2) (ha3 : xs (3 : Int32).toNatClampNeg = a3) (ha4 : xs (4 : Int32).toNatClampNeg = a4) (ha5 : xs (5 : Int32).toNatClampNeg = a5) {H : Heap} {locs : List Loc} {ls : Array Slot} (hx : p.tables.exec = Jvm.exec) (hb : c.code = code) (hr : meth.sig.returnType = ret) (hml : c.maxLocals = 4) (hown : s.vm.findClass RL = some m.cls) (hts : ∀ w ∈ TB, w.before #[Value.ref b] s = true) (hlocks : meth.locks = false) (hX : va_X b 6 xs s s.heap) (hbl : b < s.heap.size) (hbA : ¬ A b) (hA : ∀ q, s.heap.size ≤ q → A q) (hAf : ∀ q, A q → s.heap.size ≤ q) (hK : va_K G vwCl (zTY cA) s) (hE : zEX s) (hP : va_P G vwCl [(h0, .inr (11, [.int 0, .long 0, .long 1, .ref atr, .ref atx, .ref aho, .ref ath, .ref aru, .ref ahr, .ref arr_, .ref ase, .ref ali, .ref aac, .ref aga, .int 0, .ref akh, .ref ako, .ref akr])), (h0_m, .inr (12, [.int 0, .int 0, .long 0, .long 1, m4_m, m5_m, m6_m, m7_m, .int 0, .int 0, .int (-1), .int (-1), .int 0, .int 0, .int 0, .int 0, .int 0, .int 0, .int 0, .long 0, m20_m, m21_m, .int 0, m23_m, m24_m, m25_m, m26_m, .int 0, .int 0, .int 0, .int 0, .int 0, .int 0, .long 0, .long 0, m35_m, m36_m, .int 0, .int 0, .int 0, .int 0, .int 0, .int 0, .int 0, .int 0, .int 0, .int 0, .int 0, .int 0, .int 0, .int 0, m51_m, m52_m, m53_m, .int 0, .int 0, .int 0, m57_m, m58_m, .int 0, .long 0, .long 0, m62_m, .int 0, .int 0]))] H) (hD : va_D A [(h0, .inr (11, [.int 0, .long 0, .long 1, .ref atr, .ref atx, .ref aho, .ref ath, .ref aru, .ref ahr, .ref arr_, .ref ase, .ref ali, .ref aac, .ref aga, .int 0, .ref akh, .ref ako, .ref akr])), (h0_m, .inr (12, [.int 0, .int 0, .long 0, .long 1, m4_m, m5_m, m6_m, m7_m, .int 0, .int 0, .int (-1), .int (-1), .int 0, .int 0, .int 0, .int 0, .int 0, .int 0, .int 0, .long 0, m20_m, m21_m, .int 0, m23_m, m24_m, m25_m, m26_m, .int 0, .int 0, .int 0, .int 0, .int 0, .int 0, .long 0, .long 0, m35_m, m36_m, .int 0, .int 0, .int 0, .int 0, .int 0, .int 0, .int 0, .int 0, .int 0, .int 0, .int 0, .int 0, .int 0, .int 0, m51_m, m52_m, m53_m, .int 0, .int 0, .int 0, m57_m, m58_m, .int 0, .long 0, .long 0, m62_m, .int 0, .int 0]))]) (hS : va_S A s.heap H locs) (hl : lv_has ls 4 [(3, .int 0), (2, .ref h0_m), (1, .ref h0), (0, .ref b)]) : W p l e room_1 s m #[Value.ref b] below meth c H locs 166 7482 (lw_Z below #[Value.ref b] s) (F0 m 287 ls []) := by
  refine lv_aload_n hx hb dL_law_287 rfl (lv_at hl 2 rfl) ?_
  refine z_callVl (As := []) (rest := []) (wr := [(h0_m, .inr (12, [.int 0, .int 0, .long 0, .long 1, m4_m, m5_m, m6_m, m7_m, .int 0, .int 0, .int (-1), .int (-1), .int 0, .int 0, .int 0, .int 0, .int 0, .int 0, .int 0, .long 0, m20_m, m21_m, .int 0, m23_m, m24_m, m25_m, m26_m, .int 0, .int 0, .int 0, .int 0, .int 0, .int 0, .long 0, .long 0, m35_m, m36_m, .int 0, .int 0, .int 0, .int 0, .int 0, .int 0, .int 0, .int 0, .int 0, .int 0, .int 0, .int 0, .int 0, .int 0, m51_m, m52_m, m53_m, .int 0, .int 0, .int 0, m57_m, m58_m, .int 0, .long 0, .long 0, m62_m, .int 0, .int 0]))]) ⟨hx, hb, hml, hown, hts⟩ hK hE hP hD hS hA (c_DR_bottom l G cA h0 atr atx aho ath aru ahr arr_ ase ali aac aga akh ako akr) lk_RL_23 ⟨rfl, rfl⟩ ⟨Nat.le_of_ble_eq_true rfl, Nat.le_of_ble_eq_true rfl⟩ 11 rfl rfl rfl [0] [1] rfl rfl (by decide) rfl hl.1 rfl (lv_room (Nat.le_of_ble_eq_true rfl)) dL_law_288 ⟨Nat.le_of_ble_eq_true rfl, Nat.le_of_ble_eq_true rfl⟩ (fun r_1 u_2 H locs hw hP hD hS => ?_)
  have hP : va_P G vwCl [(h0_m, .inr (12, [.int 0, .int 0, .long 0, .long 1, m4_m, m5_m, m6_m, m7_m, .int 0, .int 0, .int (-1), .int (-1), .int 0, .int 0, .int 0, .int 0, .int 0, .int 0, .int 0, .long 0, m20_m, m21_m, .int 0, m23_m, m24_m, m25_m, m26_m, .int 0, .int 0, .int 0, .int 0, .int 0, .int 0, .long 0, .long 0, m35_m, m36_m, .int 0, .int 0, .int 0, .int 0, .int 0, .int 0, .int 0, .int 0, .int 0, .int 0, .int 0, .int 0, .int 0, .int 0, m51_m, m52_m, m53_m, .int 0, .int 0, .int 0, m57_m, m58_m, .int 0, .long 0, .long 0, m62_m, .int 0, .int 0]))] H := hP
  have hD : va_D A [(h0_m, .inr (12, [.int 0, .int 0, .long 0, .long 1, m4_m, m5_m, m6_m, m7_m, .int 0, .int 0, .int (-1), .int (-1), .int 0, .int 0, .int 0, .int 0, .int 0, .int 0, .int 0, .long 0, m20_m, m21_m, .int 0, m23_m, m24_m, m25_m, m26_m, .int 0, .int 0, .int 0, .int 0, .int 0, .int 0, .long 0, .long 0, m35_m, m36_m, .int 0, .int 0, .int 0, .int 0, .int 0, .int 0, .int 0, .int 0, .int 0, .int 0, .int 0, .int 0, .int 0, .int 0, m51_m, m52_m, m53_m, .int 0, .int 0, .int 0, m57_m, m58_m, .int 0, .long 0, .long 0, m62_m, .int 0, .int 0]))] := hD
  obtain rfl : r_1 = 1 := hw
  refine lv_aload_n hx hb dL_law_291 rfl (lv_at hl 1 rfl) ?_
  refine z_callVl (As := []) (rest := [.long 1]) (wr := []) ⟨hx, hb, hml, hown, hts⟩ hK hE hP hD hS hA (c_M_bottom l G cA h0_m m4_m m5_m m6_m m7_m m20_m m21_m m23_m m24_m m25_m m26_m m35_m m36_m m51_m m52_m m53_m m57_m m58_m m62_m) lk_RL_26 ⟨rfl, rfl⟩ ⟨Nat.le_of_ble_eq_true rfl, Nat.le_of_ble_eq_true rfl⟩ 12 rfl rfl rfl [0] [] rfl rfl (by decide) rfl hl.1 rfl (lv_room (Nat.le_of_ble_eq_true rfl)) dL_law_292 ⟨Nat.le_of_ble_eq_true rfl, Nat.le_of_ble_eq_true rfl⟩ (fun r_3 u_4 H locs hw hP hD hS => ?_)
  have hP : va_P G vwCl [] H := hP
  have hD : va_D A [] := hD
  obtain rfl : r_3 = 1 := hw
  refine W.lcmp hx hb dL_law_295 ?_
  refine z_topi (y := 0) (by decide +kernel) ?_
  refine lv_if_eq (tgt := 2032) hx hb dL_law_296 (by decide) (fun _ => ?_) (fun h9 => absurd (by decide +kernel) h9)
  exact lw_exit l hx hb hr hlocks hX hbl hbA hAf (Nat.le_of_ble_eq_true rfl) (Nat.le_of_ble_eq_true rfl) hS (lv_sub hl [3, 0] rfl)
set_option maxHeartbeats 4000000 in
set_option maxRecDepth 100000 in
theorem lw_case_3 {p : Program} {e : Env} {s : State} {m : MethodId} {below : List Frame} {meth : Method} {c : Code} (l : Launch) (G : va_G) (cA : Nat → ClassId) {b : Nat} {xs : Nat → Int32} {A : Nat → Prop} (h0 : Nat) (atr : Nat) (atx : Nat) (aho : Nat) (ath : Nat) (aru : Nat) (ahr : Nat) (arr_ : Nat) (ase : Nat) (ali : Nat) (aac : Nat) (aga : Nat) (akh : Nat) (ako : Nat) (akr : Nat) (T0 : Nat) (T1 : Nat) (T2 : Nat) (T3 : Nat) (R0 : Nat) (R1 : Nat) (R2 : Nat) (R3 : Nat) (tf : Nat → Option Nat) (h0_m : Nat) (f1_m : Nat → Int32) (f2_m : Nat → Int32) (f3_m : Nat → Int64) (ts_m : Nat) (tmy_m : Nat) (nu_m : Nat) (m7_m : Value) (m20_m : Value) (m21_m : Value) (m23_m : Value) (m24_m : Value) (m25_m : Value) (m26_m : Value) (m35_m : Value) (m36_m : Value) (m51_m : Value) (m52_m : Value) (m53_m : Value) (m57_m : Value) (m58_m : Value) (m62_m : Value) (a1 : Int32) (a2 : Int32) (a3 : Int32) (a4 : Int32) (a5 : Int32) (ha1 : xs (1 : Int32).toNatClampNeg = a1) (ha2 : xs (2 : Int32).toNatClampNeg = a2) (ha3 : xs (3 : Int32).toNatClampNeg = a3) (ha4 : xs (4 : Int32).toNatClampNeg = a4) (ha5 : xs (5 : Int32).toNatClampNeg = a5) (htf : zTr tf T0 T1 T2 T3) {H : Heap} {locs : List Loc} {ls : Array Slot} (hx : p.tables.exec = Jvm.exec) (hb : c.code = code) (hr : meth.sig.returnType = ret) (hml : c.maxLocals = 4) (hown : s.vm.findClass RL = some m.cls) (hts : ∀ w ∈ TB, w.before #[Value.ref b] s = true) (hlocks : meth.locks = false) (hX : va_X b 6 xs s s.heap) (hbl : b < s.heap.size) (hbA : ¬ A b) (hA : ∀ q, s.heap.size ≤ q → A q) (hAf : ∀ q, A q → s.heap.size ≤ q) (hK : va_K G vwCl (zTY cA) s) (hE : zEX s) (hP : va_P G vwCl [(h0, .inr (11, [.int 0, .long 0, .long 1, .ref atr, .ref atx, .ref aho, .ref ath, .ref aru, .ref ahr, .ref arr_, .ref ase, .ref ali, .ref aac, .ref aga, .int 0, .ref akh, .ref ako, .ref akr])), (atr, .inl (cA 4, 4, .inr (.inr (.inr (.inr tf))))), (T0, .inr (10, [.int 0, .int (-1), .ref R0])), (T1, .inr (10, [.int 0, .int (-1), .ref R1])), (T2, .inr (10, [.int 0, .int (-1), .ref R2])), (T3, .inr (10, [.int 0, .int (-1), .ref R3])), (R0, .inl (cA 1, 60, .inr (.inl (fun _ => 0)))), (R1, .inl (cA 1, 60, .inr (.inl (fun _ => 0)))), (R2, .inl (cA 1, 60, .inr (.inl (fun _ => 0)))), (R3, .inl (cA 1, 60, .inr (.inl (fun _ => 0)))), (h0_m, .inr (12, [.int 0, .int 0, .long 0, .long 1, .ref ts_m, .ref tmy_m, .ref nu_m, m7_m, .int 0, .int 0, .int (-1), .int (-1), .int 0, .int 0, .int 0, .int 0, .int 0, .int 0, .int 0, .long 0, m20_m, m21_m, .int 0, m23_m, m24_m, m25_m, m26_m, .int 0, .int 0, .int 0, .int 0, .int 0, .int 0, .long 0, .long 0, m35_m, m36_m, .int 0, .int 0, .int 0, .int 0, .int 0, .int 0, .int 0, .int 0, .int 0, .int 0, .int 0, .int 0, .int 0, .int 0, m51_m, m52_m, m53_m, .int 0, .int 0, .int 0, m57_m, m58_m, .int 0, .long 0, .long 0, m62_m, .int 0, .int 0])), (ts_m, .inl (cA 0, 4, .inl f1_m)), (tmy_m, .inl (cA 0, 4, .inl f2_m)), (nu_m, .inl (cA 1, 240, .inr (.inl f3_m)))] H) (hD : va_D A [(h0, .inr (11, [.int 0, .long 0, .long 1, .ref atr, .ref atx, .ref aho, .ref ath, .ref aru, .ref ahr, .ref arr_, .ref ase, .ref ali, .ref aac, .ref aga, .int 0, .ref akh, .ref ako, .ref akr])), (atr, .inl (cA 4, 4, .inr (.inr (.inr (.inr tf))))), (T0, .inr (10, [.int 0, .int (-1), .ref R0])), (T1, .inr (10, [.int 0, .int (-1), .ref R1])), (T2, .inr (10, [.int 0, .int (-1), .ref R2])), (T3, .inr (10, [.int 0, .int (-1), .ref R3])), (R0, .inl (cA 1, 60, .inr (.inl (fun _ => 0)))), (R1, .inl (cA 1, 60, .inr (.inl (fun _ => 0)))), (R2, .inl (cA 1, 60, .inr (.inl (fun _ => 0)))), (R3, .inl (cA 1, 60, .inr (.inl (fun _ => 0)))), (h0_m, .inr (12, [.int 0, .int 0, .long 0, .long 1, .ref ts_m, .ref tmy_m, .ref nu_m, m7_m, .int 0, .int 0, .int (-1), .int (-1), .int 0, .int 0, .int 0, .int 0, .int 0, .int 0, .int 0, .long 0, m20_m, m21_m, .int 0, m23_m, m24_m, m25_m, m26_m, .int 0, .int 0, .int 0, .int 0, .int 0, .int 0, .long 0, .long 0, m35_m, m36_m, .int 0, .int 0, .int 0, .int 0, .int 0, .int 0, .int 0, .int 0, .int 0, .int 0, .int 0, .int 0, .int 0, .int 0, m51_m, m52_m, m53_m, .int 0, .int 0, .int 0, m57_m, m58_m, .int 0, .long 0, .long 0, m62_m, .int 0, .int 0])), (ts_m, .inl (cA 0, 4, .inl f1_m)), (tmy_m, .inl (cA 0, 4, .inl f2_m)), (nu_m, .inl (cA 1, 240, .inr (.inl f3_m)))]) (hS : va_S A s.heap H locs) (hl : lv_has ls 4 [(3, .int 0), (2, .ref h0_m), (1, .ref h0), (0, .ref b)]) : W p l e room_1 s m #[Value.ref b] below meth c H locs 166 7482 (lw_Z below #[Value.ref b] s) (F0 m 301 ls []) := by
  refine lv_aload_n hx hb dL_law_301 rfl (lv_at hl 2 rfl) ?_
  refine lv_aload_n hx hb dL_law_302 rfl (lv_at hl 3 rfl) ?_
  refine lv_iload_n hx hb dL_law_303 rfl (lv_at hl 0 rfl) ?_
  refine lv_iconst (v := 1) hx hb dL_law_304 (by decide) ?_
  refine lv_iadd hx hb dL_law_305 ?_
  refine z_topi (y := 1) (by decide +kernel) ?_
  refine va_sld hx hb hX hbl hbA hS (z_in (i := 1) (n := 6) (by decide +kernel) (by decide +kernel)) dL_law_306 ?_
  refine z_topi (y := a1) ha1 ?_
  refine lv_aload_n hx hb dL_law_307 rfl (lv_at hl 3 rfl) ?_
  refine lv_iload_n hx hb dL_law_308 rfl (lv_at hl 0 rfl) ?_
  refine lv_iconst (v := 2) hx hb dL_law_309 (by decide) ?_
  refine lv_iadd hx hb dL_law_310 ?_
  refine z_topi (y := 2) (by decide +kernel) ?_
  refine va_sld hx hb hX hbl hbA hS (z_in (i := 2) (n := 6) (by decide +kernel) (by decide +kernel)) dL_law_311 ?_
  refine z_topi (y := a2) ha2 ?_
  refine lv_aload_n hx hb dL_law_312 rfl (lv_at hl 3 rfl) ?_
  refine lv_iload_n hx hb dL_law_313 rfl (lv_at hl 0 rfl) ?_
  refine lv_iconst (v := 3) hx hb dL_law_314 (by decide) ?_
  refine lv_iadd hx hb dL_law_315 ?_
  refine z_topi (y := 3) (by decide +kernel) ?_
  refine va_sld hx hb hX hbl hbA hS (z_in (i := 3) (n := 6) (by decide +kernel) (by decide +kernel)) dL_law_316 ?_
  refine z_topi (y := a3) ha3 ?_
  refine z_callVi (As := [.int a1, .int a2, .int a3]) (rest := []) (wr := [(h0_m, .inr (12, [.int 0, .int 0, .long 0, .long 1, .ref ts_m, .ref tmy_m, .ref nu_m, m7_m, .int 0, .int 0, .int (-1), .int (-1), .int 0, .int 0, .int 0, .int 0, .int 0, .int 0, .int 0, .long 0, m20_m, m21_m, .int 0, m23_m, m24_m, m25_m, m26_m, .int 0, .int 0, .int 0, .int 0, .int 0, .int 0, .long 0, .long 0, m35_m, m36_m, .int 0, .int 0, .int 0, .int 0, .int 0, .int 0, .int 0, .int 0, .int 0, .int 0, .int 0, .int 0, .int 0, .int 0, m51_m, m52_m, m53_m, .int 0, .int 0, .int 0, m57_m, m58_m, .int 0, .long 0, .long 0, m62_m, .int 0, .int 0])), (ts_m, .inl (cA 0, 4, .inl f1_m)), (tmy_m, .inl (cA 0, 4, .inl f2_m)), (nu_m, .inl (cA 1, 240, .inr (.inl f3_m)))]) ⟨hx, hb, hml, hown, hts⟩ hK hE hP hD hS hA (c_DR_tray l G cA h0 atr atx aho ath aru ahr arr_ ase ali aac aga akh ako akr a1 a2 a3 T0 T1 T2 T3 R0 R1 R2 R3 tf htf) lk_RL_27 ⟨rfl, rfl⟩ ⟨Nat.le_of_ble_eq_true rfl, Nat.le_of_ble_eq_true rfl⟩ 11 rfl rfl rfl [0, 1, 2, 3, 4, 5, 6, 7, 8, 9] [10, 11, 12, 13] rfl rfl (by decide) rfl hl.1 rfl (lv_room (Nat.le_of_ble_eq_true rfl)) dL_law_317 ⟨Nat.le_of_ble_eq_true rfl, Nat.le_of_ble_eq_true rfl⟩ (fun r_1 u_2 H locs hw hP hD hS => ?_)
  have hP : va_P G vwCl [(h0_m, .inr (12, [.int 0, .int 0, .long 0, .long 1, .ref ts_m, .ref tmy_m, .ref nu_m, m7_m, .int 0, .int 0, .int (-1), .int (-1), .int 0, .int 0, .int 0, .int 0, .int 0, .int 0, .int 0, .long 0, m20_m, m21_m, .int 0, m23_m, m24_m, m25_m, m26_m, .int 0, .int 0, .int 0, .int 0, .int 0, .int 0, .long 0, .long 0, m35_m, m36_m, .int 0, .int 0, .int 0, .int 0, .int 0, .int 0, .int 0, .int 0, .int 0, .int 0, .int 0, .int 0, .int 0, .int 0, m51_m, m52_m, m53_m, .int 0, .int 0, .int 0, m57_m, m58_m, .int 0, .long 0, .long 0, m62_m, .int 0, .int 0])), (ts_m, .inl (cA 0, 4, .inl f1_m)), (tmy_m, .inl (cA 0, 4, .inl f2_m)), (nu_m, .inl (cA 1, 240, .inr (.inl f3_m)))] H := hP
  have hD : va_D A [(h0_m, .inr (12, [.int 0, .int 0, .long 0, .long 1, .ref ts_m, .ref tmy_m, .ref nu_m, m7_m, .int 0, .int 0, .int (-1), .int (-1), .int 0, .int 0, .int 0, .int 0, .int 0, .int 0, .int 0, .long 0, m20_m, m21_m, .int 0, m23_m, m24_m, m25_m, m26_m, .int 0, .int 0, .int 0, .int 0, .int 0, .int 0, .long 0, .long 0, m35_m, m36_m, .int 0, .int 0, .int 0, .int 0, .int 0, .int 0, .int 0, .int 0, .int 0, .int 0, .int 0, .int 0, .int 0, .int 0, m51_m, m52_m, m53_m, .int 0, .int 0, .int 0, m57_m, m58_m, .int 0, .long 0, .long 0, m62_m, .int 0, .int 0])), (ts_m, .inl (cA 0, 4, .inl f1_m)), (tmy_m, .inl (cA 0, 4, .inl f2_m)), (nu_m, .inl (cA 1, 240, .inr (.inl f3_m)))] := hD
  rcases hw with ⟨rfl, hx_3⟩ | ⟨rfl, hx_3⟩
  · refine W.eq (g2 := F0 m 320 ls [.int 1]) rfl ?_
    refine lv_aload_n hx hb dL_law_320 rfl (lv_at hl 1 rfl) ?_
    refine lv_aload_n hx hb dL_law_321 rfl (lv_at hl 3 rfl) ?_
    refine lv_iload_n hx hb dL_law_322 rfl (lv_at hl 0 rfl) ?_
    refine lv_iconst (v := 1) hx hb dL_law_323 (by decide) ?_
    refine lv_iadd hx hb dL_law_324 ?_
    refine z_topi (y := 1) (by decide +kernel) ?_
    refine va_sld hx hb hX hbl hbA hS (z_in (i := 1) (n := 6) (by decide +kernel) (by decide +kernel)) dL_law_325 ?_
    refine z_topi (y := a1) ha1 ?_
    refine lv_aload_n hx hb dL_law_326 rfl (lv_at hl 3 rfl) ?_
    refine lv_iload_n hx hb dL_law_327 rfl (lv_at hl 0 rfl) ?_
    refine lv_iconst (v := 2) hx hb dL_law_328 (by decide) ?_
    refine lv_iadd hx hb dL_law_329 ?_
    refine z_topi (y := 2) (by decide +kernel) ?_
    refine va_sld hx hb hX hbl hbA hS (z_in (i := 2) (n := 6) (by decide +kernel) (by decide +kernel)) dL_law_330 ?_
    refine z_topi (y := a2) ha2 ?_
    refine lv_aload_n hx hb dL_law_331 rfl (lv_at hl 3 rfl) ?_
    refine lv_iload_n hx hb dL_law_332 rfl (lv_at hl 0 rfl) ?_
    refine lv_iconst (v := 3) hx hb dL_law_333 (by decide) ?_
    refine lv_iadd hx hb dL_law_334 ?_
    refine z_topi (y := 3) (by decide +kernel) ?_
    refine va_sld hx hb hX hbl hbA hS (z_in (i := 3) (n := 6) (by decide +kernel) (by decide +kernel)) dL_law_335 ?_
    refine z_topi (y := a3) ha3 ?_
    refine z_callVi (As := [.int a1, .int a2, .int a3]) (rest := [.int 1]) (wr := []) ⟨hx, hb, hml, hown, hts⟩ hK hE hP hD hS hA (c_M_tray l G cA h0_m a1 a2 a3 f1_m f2_m f3_m ts_m tmy_m nu_m m7_m m20_m m21_m m23_m m24_m m25_m m26_m m35_m m36_m m51_m m52_m m53_m m57_m m58_m m62_m) lk_RL_31 ⟨rfl, rfl⟩ ⟨Nat.le_of_ble_eq_true rfl, Nat.le_of_ble_eq_true rfl⟩ 12 rfl rfl rfl [0, 1, 2, 3] [] rfl rfl (by decide) rfl hl.1 rfl (lv_room (Nat.le_of_ble_eq_true rfl)) dL_law_336 ⟨Nat.le_of_ble_eq_true rfl, Nat.le_of_ble_eq_true rfl⟩ (fun r_4 u_5 H locs hw hP hD hS => ?_)
    have hP : va_P G vwCl [] H := hP
    have hD : va_D A [] := hD
    rcases hw with ⟨rfl, hm_6⟩ | ⟨rfl, hm_6⟩
    · refine W.eq (g2 := F0 m 339 ls [.int 1, .int 1]) rfl ?_
      refine lv_icmp_eq (tgt := 2032) hx hb dL_law_339 (by decide) (fun _ => ?_) (fun h9 => absurd (by decide +kernel) h9)
      exact lw_exit l hx hb hr hlocks hX hbl hbA hAf (Nat.le_of_ble_eq_true rfl) (Nat.le_of_ble_eq_true rfl) hS (lv_sub hl [3, 0] rfl)
    · exact absurd hx_3 hm_6
  · refine W.eq (g2 := F0 m 320 ls [.int 0]) rfl ?_
    refine lv_aload_n hx hb dL_law_320 rfl (lv_at hl 1 rfl) ?_
    refine lv_aload_n hx hb dL_law_321 rfl (lv_at hl 3 rfl) ?_
    refine lv_iload_n hx hb dL_law_322 rfl (lv_at hl 0 rfl) ?_
    refine lv_iconst (v := 1) hx hb dL_law_323 (by decide) ?_
    refine lv_iadd hx hb dL_law_324 ?_
    refine z_topi (y := 1) (by decide +kernel) ?_
    refine va_sld hx hb hX hbl hbA hS (z_in (i := 1) (n := 6) (by decide +kernel) (by decide +kernel)) dL_law_325 ?_
    refine z_topi (y := a1) ha1 ?_
    refine lv_aload_n hx hb dL_law_326 rfl (lv_at hl 3 rfl) ?_
    refine lv_iload_n hx hb dL_law_327 rfl (lv_at hl 0 rfl) ?_
    refine lv_iconst (v := 2) hx hb dL_law_328 (by decide) ?_
    refine lv_iadd hx hb dL_law_329 ?_
    refine z_topi (y := 2) (by decide +kernel) ?_
    refine va_sld hx hb hX hbl hbA hS (z_in (i := 2) (n := 6) (by decide +kernel) (by decide +kernel)) dL_law_330 ?_
    refine z_topi (y := a2) ha2 ?_
    refine lv_aload_n hx hb dL_law_331 rfl (lv_at hl 3 rfl) ?_
    refine lv_iload_n hx hb dL_law_332 rfl (lv_at hl 0 rfl) ?_
    refine lv_iconst (v := 3) hx hb dL_law_333 (by decide) ?_
    refine lv_iadd hx hb dL_law_334 ?_
    refine z_topi (y := 3) (by decide +kernel) ?_
    refine va_sld hx hb hX hbl hbA hS (z_in (i := 3) (n := 6) (by decide +kernel) (by decide +kernel)) dL_law_335 ?_
    refine z_topi (y := a3) ha3 ?_
    refine z_callVi (As := [.int a1, .int a2, .int a3]) (rest := [.int 0]) (wr := []) ⟨hx, hb, hml, hown, hts⟩ hK hE hP hD hS hA (c_M_tray l G cA h0_m a1 a2 a3 f1_m f2_m f3_m ts_m tmy_m nu_m m7_m m20_m m21_m m23_m m24_m m25_m m26_m m35_m m36_m m51_m m52_m m53_m m57_m m58_m m62_m) lk_RL_31 ⟨rfl, rfl⟩ ⟨Nat.le_of_ble_eq_true rfl, Nat.le_of_ble_eq_true rfl⟩ 12 rfl rfl rfl [0, 1, 2, 3] [] rfl rfl (by decide) rfl hl.1 rfl (lv_room (Nat.le_of_ble_eq_true rfl)) dL_law_336 ⟨Nat.le_of_ble_eq_true rfl, Nat.le_of_ble_eq_true rfl⟩ (fun r_7 u_8 H locs hw hP hD hS => ?_)
    have hP : va_P G vwCl [] H := hP
    have hD : va_D A [] := hD
    rcases hw with ⟨rfl, hm_9⟩ | ⟨rfl, hm_9⟩
    · exact absurd hm_9 hx_3
    · refine W.eq (g2 := F0 m 339 ls [.int 0, .int 0]) rfl ?_
      refine lv_icmp_eq (tgt := 2032) hx hb dL_law_339 (by decide) (fun _ => ?_) (fun h9 => absurd (by decide +kernel) h9)
      exact lw_exit l hx hb hr hlocks hX hbl hbA hAf (Nat.le_of_ble_eq_true rfl) (Nat.le_of_ble_eq_true rfl) hS (lv_sub hl [3, 0] rfl)
set_option maxHeartbeats 4000000 in
set_option maxRecDepth 100000 in
theorem lw_case_4 {p : Program} {e : Env} {s : State} {m : MethodId} {below : List Frame} {meth : Method} {c : Code} (l : Launch) (G : va_G) (cA : Nat → ClassId) {b : Nat} {xs : Nat → Int32} {A : Nat → Prop} (h0 : Nat) (atr : Nat) (atx : Nat) (aho : Nat) (ath : Nat) (aru : Nat) (ahr : Nat) (arr_ : Nat) (ase : Nat) (ali : Nat) (aac : Nat) (aga : Nat) (akh : Nat) (ako : Nat) (akr : Nat) (T0 : Nat) (T1 : Nat) (T2 : Nat) (T3 : Nat) (R0 : Nat) (R1 : Nat) (R2 : Nat) (R3 : Nat) (tf : Nat → Option Nat) (h0_m : Nat) (tm_m : Nat → Int32) (m4_m : Value) (tmy_m : Nat) (m6_m : Value) (m7_m : Value) (m20_m : Value) (m21_m : Value) (m23_m : Value) (m24_m : Value) (m25_m : Value) (m26_m : Value) (m35_m : Value) (m36_m : Value) (m51_m : Value) (m52_m : Value) (m53_m : Value) (m57_m : Value) (m58_m : Value) (m62_m : Value) (a1 : Int32) (a2 : Int32) (a3 : Int32) (a4 : Int32) (a5 : Int32) (ha1 : xs (1 : Int32).toNatClampNeg = a1) (ha2 : xs (2 : Int32).toNatClampNeg = a2) (ha3 : xs (3 : Int32).toNatClampNeg = a3) (ha4 : xs (4 : Int32).toNatClampNeg = a4) (ha5 : xs (5 : Int32).toNatClampNeg = a5) (htf : zTr tf T0 T1 T2 T3) (htm_m : zTm tm_m) {H : Heap} {locs : List Loc} {ls : Array Slot} (hx : p.tables.exec = Jvm.exec) (hb : c.code = code) (hr : meth.sig.returnType = ret) (hml : c.maxLocals = 4) (hown : s.vm.findClass RL = some m.cls) (hts : ∀ w ∈ TB, w.before #[Value.ref b] s = true) (hlocks : meth.locks = false) (hX : va_X b 6 xs s s.heap) (hbl : b < s.heap.size) (hbA : ¬ A b) (hA : ∀ q, s.heap.size ≤ q → A q) (hAf : ∀ q, A q → s.heap.size ≤ q) (hK : va_K G vwCl (zTY cA) s) (hE : zEX s) (hP : va_P G vwCl [(h0, .inr (11, [.int 0, .long 0, .long 1, .ref atr, .ref atx, .ref aho, .ref ath, .ref aru, .ref ahr, .ref arr_, .ref ase, .ref ali, .ref aac, .ref aga, .int 0, .ref akh, .ref ako, .ref akr])), (atr, .inl (cA 4, 4, .inr (.inr (.inr (.inr tf))))), (T0, .inr (10, [.int 0, .int (-1), .ref R0])), (T1, .inr (10, [.int 0, .int (-1), .ref R1])), (T2, .inr (10, [.int 0, .int (-1), .ref R2])), (T3, .inr (10, [.int 0, .int (-1), .ref R3])), (h0_m, .inr (12, [.int 0, .int 0, .long 0, .long 1, m4_m, .ref tmy_m, m6_m, m7_m, .int 0, .int 0, .int (-1), .int (-1), .int 0, .int 0, .int 0, .int 0, .int 0, .int 0, .int 0, .long 0, m20_m, m21_m, .int 0, m23_m, m24_m, m25_m, m26_m, .int 0, .int 0, .int 0, .int 0, .int 0, .int 0, .long 0, .long 0, m35_m, m36_m, .int 0, .int 0, .int 0, .int 0, .int 0, .int 0, .int 0, .int 0, .int 0, .int 0, .int 0, .int 0, .int 0, .int 0, m51_m, m52_m, m53_m, .int 0, .int 0, .int 0, m57_m, m58_m, .int 0, .long 0, .long 0, m62_m, .int 0, .int 0])), (tmy_m, .inl (cA 0, 4, .inl tm_m))] H) (hD : va_D A [(h0, .inr (11, [.int 0, .long 0, .long 1, .ref atr, .ref atx, .ref aho, .ref ath, .ref aru, .ref ahr, .ref arr_, .ref ase, .ref ali, .ref aac, .ref aga, .int 0, .ref akh, .ref ako, .ref akr])), (atr, .inl (cA 4, 4, .inr (.inr (.inr (.inr tf))))), (T0, .inr (10, [.int 0, .int (-1), .ref R0])), (T1, .inr (10, [.int 0, .int (-1), .ref R1])), (T2, .inr (10, [.int 0, .int (-1), .ref R2])), (T3, .inr (10, [.int 0, .int (-1), .ref R3])), (h0_m, .inr (12, [.int 0, .int 0, .long 0, .long 1, m4_m, .ref tmy_m, m6_m, m7_m, .int 0, .int 0, .int (-1), .int (-1), .int 0, .int 0, .int 0, .int 0, .int 0, .int 0, .int 0, .long 0, m20_m, m21_m, .int 0, m23_m, m24_m, m25_m, m26_m, .int 0, .int 0, .int 0, .int 0, .int 0, .int 0, .long 0, .long 0, m35_m, m36_m, .int 0, .int 0, .int 0, .int 0, .int 0, .int 0, .int 0, .int 0, .int 0, .int 0, .int 0, .int 0, .int 0, .int 0, m51_m, m52_m, m53_m, .int 0, .int 0, .int 0, m57_m, m58_m, .int 0, .long 0, .long 0, m62_m, .int 0, .int 0])), (tmy_m, .inl (cA 0, 4, .inl tm_m))]) (hS : va_S A s.heap H locs) (hl : lv_has ls 4 [(3, .int 0), (2, .ref h0_m), (1, .ref h0), (0, .ref b)]) : W p l e room_1 s m #[Value.ref b] below meth c H locs 166 7482 (lw_Z below #[Value.ref b] s) (F0 m 344 ls []) := by
  refine lv_aload_n hx hb dL_law_344 rfl (lv_at hl 2 rfl) ?_
  refine lv_aload_n hx hb dL_law_345 rfl (lv_at hl 3 rfl) ?_
  refine lv_iload_n hx hb dL_law_346 rfl (lv_at hl 0 rfl) ?_
  refine lv_iconst (v := 1) hx hb dL_law_347 (by decide) ?_
  refine lv_iadd hx hb dL_law_348 ?_
  refine z_topi (y := 1) (by decide +kernel) ?_
  refine va_sld hx hb hX hbl hbA hS (z_in (i := 1) (n := 6) (by decide +kernel) (by decide +kernel)) dL_law_349 ?_
  refine z_topi (y := a1) ha1 ?_
  refine lv_aload_n hx hb dL_law_350 rfl (lv_at hl 3 rfl) ?_
  refine lv_iload_n hx hb dL_law_351 rfl (lv_at hl 0 rfl) ?_
  refine lv_iconst (v := 2) hx hb dL_law_352 (by decide) ?_
  refine lv_iadd hx hb dL_law_353 ?_
  refine z_topi (y := 2) (by decide +kernel) ?_
  refine va_sld hx hb hX hbl hbA hS (z_in (i := 2) (n := 6) (by decide +kernel) (by decide +kernel)) dL_law_354 ?_
  refine z_topi (y := a2) ha2 ?_
  refine lv_aload_n hx hb dL_law_355 rfl (lv_at hl 3 rfl) ?_
  refine lv_iload_n hx hb dL_law_356 rfl (lv_at hl 0 rfl) ?_
  refine lv_iconst (v := 3) hx hb dL_law_357 (by decide) ?_
  refine lv_iadd hx hb dL_law_358 ?_
  refine z_topi (y := 3) (by decide +kernel) ?_
  refine va_sld hx hb hX hbl hbA hS (z_in (i := 3) (n := 6) (by decide +kernel) (by decide +kernel)) dL_law_359 ?_
  refine z_topi (y := a3) ha3 ?_
  refine lv_i2l (v := (a3).toInt64) hx hb dL_law_360 rfl ?_
  refine lv_bipush (v := 32) hx hb dL_law_361 (by decide) ?_
  refine lv_lshl (v := ((a3).toInt64) <<< ((32 : Int32).toInt64 &&& 63)) hx hb dL_law_363 rfl ?_
  refine lv_aload_n hx hb dL_law_364 rfl (lv_at hl 3 rfl) ?_
  refine lv_iload_n hx hb dL_law_365 rfl (lv_at hl 0 rfl) ?_
  refine lv_iconst (v := 4) hx hb dL_law_366 (by decide) ?_
  refine lv_iadd hx hb dL_law_367 ?_
  refine z_topi (y := 4) (by decide +kernel) ?_
  refine va_sld hx hb hX hbl hbA hS (z_in (i := 4) (n := 6) (by decide +kernel) (by decide +kernel)) dL_law_368 ?_
  refine z_topi (y := a4) ha4 ?_
  refine lv_i2l (v := (a4).toInt64) hx hb dL_law_369 rfl ?_
  refine lv_ldc2 (v := 4294967295) hx hb hown (hts _ tw_2741) dL_law_370 ?_
  refine lv_land hx hb dL_law_373 ?_
  refine lv_lor hx hb dL_law_374 ?_
  refine z_callVi (As := [.int a1, .int a2, .long ((((a3).toInt64) <<< ((32 : Int32).toInt64 &&& 63)) ||| (((a4).toInt64) &&& 4294967295))]) (rest := []) (wr := [(h0_m, .inr (12, [.int 0, .int 0, .long 0, .long 1, m4_m, .ref tmy_m, m6_m, m7_m, .int 0, .int 0, .int (-1), .int (-1), .int 0, .int 0, .int 0, .int 0, .int 0, .int 0, .int 0, .long 0, m20_m, m21_m, .int 0, m23_m, m24_m, m25_m, m26_m, .int 0, .int 0, .int 0, .int 0, .int 0, .int 0, .long 0, .long 0, m35_m, m36_m, .int 0, .int 0, .int 0, .int 0, .int 0, .int 0, .int 0, .int 0, .int 0, .int 0, .int 0, .int 0, .int 0, .int 0, m51_m, m52_m, m53_m, .int 0, .int 0, .int 0, m57_m, m58_m, .int 0, .long 0, .long 0, m62_m, .int 0, .int 0])), (tmy_m, .inl (cA 0, 4, .inl tm_m))]) ⟨hx, hb, hml, hown, hts⟩ hK hE hP hD hS hA (c_DR_write l G cA h0 atr atx aho ath aru ahr arr_ ase ali aac aga akh ako akr a1 a2 ((((a3).toInt64) <<< ((32 : Int32).toInt64 &&& 63)) ||| (((a4).toInt64) &&& 4294967295)) T0 T1 T2 T3 R0 R1 R2 R3 tf htf) lk_RL_34 ⟨rfl, rfl⟩ ⟨Nat.le_of_ble_eq_true rfl, Nat.le_of_ble_eq_true rfl⟩ 11 rfl rfl rfl [0, 1, 2, 3, 4, 5] [6, 7] rfl rfl (by decide) rfl hl.1 rfl (lv_room (Nat.le_of_ble_eq_true rfl)) dL_law_375 ⟨Nat.le_of_ble_eq_true rfl, Nat.le_of_ble_eq_true rfl⟩ (fun r_2 u_3 H locs hw hP hD hS => ?_)
  have hP : va_P G vwCl [(h0_m, .inr (12, [.int 0, .int 0, .long 0, .long 1, m4_m, .ref tmy_m, m6_m, m7_m, .int 0, .int 0, .int (-1), .int (-1), .int 0, .int 0, .int 0, .int 0, .int 0, .int 0, .int 0, .long 0, m20_m, m21_m, .int 0, m23_m, m24_m, m25_m, m26_m, .int 0, .int 0, .int 0, .int 0, .int 0, .int 0, .long 0, .long 0, m35_m, m36_m, .int 0, .int 0, .int 0, .int 0, .int 0, .int 0, .int 0, .int 0, .int 0, .int 0, .int 0, .int 0, .int 0, .int 0, m51_m, m52_m, m53_m, .int 0, .int 0, .int 0, m57_m, m58_m, .int 0, .long 0, .long 0, m62_m, .int 0, .int 0])), (tmy_m, .inl (cA 0, 4, .inl tm_m))] H := hP
  have hD : va_D A [(h0_m, .inr (12, [.int 0, .int 0, .long 0, .long 1, m4_m, .ref tmy_m, m6_m, m7_m, .int 0, .int 0, .int (-1), .int (-1), .int 0, .int 0, .int 0, .int 0, .int 0, .int 0, .int 0, .long 0, m20_m, m21_m, .int 0, m23_m, m24_m, m25_m, m26_m, .int 0, .int 0, .int 0, .int 0, .int 0, .int 0, .long 0, .long 0, m35_m, m36_m, .int 0, .int 0, .int 0, .int 0, .int 0, .int 0, .int 0, .int 0, .int 0, .int 0, .int 0, .int 0, .int 0, .int 0, m51_m, m52_m, m53_m, .int 0, .int 0, .int 0, m57_m, m58_m, .int 0, .long 0, .long 0, m62_m, .int 0, .int 0])), (tmy_m, .inl (cA 0, 4, .inl tm_m))] := hD
  obtain rfl : r_2 = 0 := hw
  refine lv_aload_n hx hb dL_law_378 rfl (lv_at hl 1 rfl) ?_
  refine lv_aload_n hx hb dL_law_379 rfl (lv_at hl 3 rfl) ?_
  refine lv_iload_n hx hb dL_law_380 rfl (lv_at hl 0 rfl) ?_
  refine lv_iconst (v := 1) hx hb dL_law_381 (by decide) ?_
  refine lv_iadd hx hb dL_law_382 ?_
  refine z_topi (y := 1) (by decide +kernel) ?_
  refine va_sld hx hb hX hbl hbA hS (z_in (i := 1) (n := 6) (by decide +kernel) (by decide +kernel)) dL_law_383 ?_
  refine z_topi (y := a1) ha1 ?_
  refine lv_aload_n hx hb dL_law_384 rfl (lv_at hl 3 rfl) ?_
  refine lv_iload_n hx hb dL_law_385 rfl (lv_at hl 0 rfl) ?_
  refine lv_iconst (v := 2) hx hb dL_law_386 (by decide) ?_
  refine lv_iadd hx hb dL_law_387 ?_
  refine z_topi (y := 2) (by decide +kernel) ?_
  refine va_sld hx hb hX hbl hbA hS (z_in (i := 2) (n := 6) (by decide +kernel) (by decide +kernel)) dL_law_388 ?_
  refine z_topi (y := a2) ha2 ?_
  refine lv_aload_n hx hb dL_law_389 rfl (lv_at hl 3 rfl) ?_
  refine lv_iload_n hx hb dL_law_390 rfl (lv_at hl 0 rfl) ?_
  refine lv_iconst (v := 3) hx hb dL_law_391 (by decide) ?_
  refine lv_iadd hx hb dL_law_392 ?_
  refine z_topi (y := 3) (by decide +kernel) ?_
  refine va_sld hx hb hX hbl hbA hS (z_in (i := 3) (n := 6) (by decide +kernel) (by decide +kernel)) dL_law_393 ?_
  refine z_topi (y := a3) ha3 ?_
  refine lv_i2l (v := (a3).toInt64) hx hb dL_law_394 rfl ?_
  refine lv_bipush (v := 32) hx hb dL_law_395 (by decide) ?_
  refine lv_lshl (v := ((a3).toInt64) <<< ((32 : Int32).toInt64 &&& 63)) hx hb dL_law_397 rfl ?_
  refine lv_aload_n hx hb dL_law_398 rfl (lv_at hl 3 rfl) ?_
  refine lv_iload_n hx hb dL_law_399 rfl (lv_at hl 0 rfl) ?_
  refine lv_iconst (v := 4) hx hb dL_law_400 (by decide) ?_
  refine lv_iadd hx hb dL_law_401 ?_
  refine z_topi (y := 4) (by decide +kernel) ?_
  refine va_sld hx hb hX hbl hbA hS (z_in (i := 4) (n := 6) (by decide +kernel) (by decide +kernel)) dL_law_402 ?_
  refine z_topi (y := a4) ha4 ?_
  refine lv_i2l (v := (a4).toInt64) hx hb dL_law_403 rfl ?_
  refine lv_ldc2 (v := 4294967295) hx hb hown (hts _ tw_2741) dL_law_404 ?_
  refine lv_land hx hb dL_law_407 ?_
  refine lv_lor hx hb dL_law_408 ?_
  refine z_callVi (As := [.int a1, .int a2, .long ((((a3).toInt64) <<< ((32 : Int32).toInt64 &&& 63)) ||| (((a4).toInt64) &&& 4294967295))]) (rest := [.int 0]) (wr := []) ⟨hx, hb, hml, hown, hts⟩ hK hE hP hD hS hA (c_M_write l G cA h0_m a1 a2 ((((a3).toInt64) <<< ((32 : Int32).toInt64 &&& 63)) ||| (((a4).toInt64) &&& 4294967295)) tm_m m4_m tmy_m m6_m m7_m m20_m m21_m m23_m m24_m m25_m m26_m m35_m m36_m m51_m m52_m m53_m m57_m m58_m m62_m htm_m) lk_RL_38 ⟨rfl, rfl⟩ ⟨Nat.le_of_ble_eq_true rfl, Nat.le_of_ble_eq_true rfl⟩ 12 rfl rfl rfl [0, 1] [] rfl rfl (by decide) rfl hl.1 rfl (lv_room (Nat.le_of_ble_eq_true rfl)) dL_law_409 ⟨Nat.le_of_ble_eq_true rfl, Nat.le_of_ble_eq_true rfl⟩ (fun r_5 u_6 H locs hw hP hD hS => ?_)
  have hP : va_P G vwCl [] H := hP
  have hD : va_D A [] := hD
  obtain rfl : r_5 = 0 := hw
  refine lv_icmp_eq (tgt := 2032) hx hb dL_law_412 (by decide) (fun _ => ?_) (fun h9 => absurd (by decide +kernel) h9)
  exact lw_exit l hx hb hr hlocks hX hbl hbA hAf (Nat.le_of_ble_eq_true rfl) (Nat.le_of_ble_eq_true rfl) hS (lv_sub hl [3, 0] rfl)
set_option maxHeartbeats 4000000 in
set_option maxRecDepth 100000 in
theorem lw_case_5 {p : Program} {e : Env} {s : State} {m : MethodId} {below : List Frame} {meth : Method} {c : Code} (l : Launch) (G : va_G) (cA : Nat → ClassId) {b : Nat} {xs : Nat → Int32} {A : Nat → Prop} (h0 : Nat) (atr : Nat) (atx : Nat) (aho : Nat) (ath : Nat) (aru : Nat) (ahr : Nat) (arr_ : Nat) (ase : Nat) (ali : Nat) (aac : Nat) (aga : Nat) (akh : Nat) (ako : Nat) (akr : Nat) (T0 : Nat) (T1 : Nat) (T2 : Nat) (T3 : Nat) (R0 : Nat) (R1 : Nat) (R2 : Nat) (R3 : Nat) (tf : Nat → Option Nat) (h0_m : Nat) (tm_m : Nat → Int32) (m4_m : Value) (tmy_m : Nat) (m6_m : Value) (m7_m : Value) (m20_m : Value) (m21_m : Value) (m23_m : Value) (m24_m : Value) (m25_m : Value) (m26_m : Value) (m35_m : Value) (m36_m : Value) (m51_m : Value) (m52_m : Value) (m53_m : Value) (m57_m : Value) (m58_m : Value) (m62_m : Value) (a1 : Int32) (a2 : Int32) (a3 : Int32) (a4 : Int32) (a5 : Int32) (ha1 : xs (1 : Int32).toNatClampNeg = a1) (ha2 : xs (2 : Int32).toNatClampNeg = a2) (ha3 : xs (3 : Int32).toNatClampNeg = a3) (ha4 : xs (4 : Int32).toNatClampNeg = a4) (ha5 : xs (5 : Int32).toNatClampNeg = a5) (htf : zTr tf T0 T1 T2 T3) (htm_m : zTm tm_m) {H : Heap} {locs : List Loc} {ls : Array Slot} (hx : p.tables.exec = Jvm.exec) (hb : c.code = code) (hr : meth.sig.returnType = ret) (hml : c.maxLocals = 4) (hown : s.vm.findClass RL = some m.cls) (hts : ∀ w ∈ TB, w.before #[Value.ref b] s = true) (hlocks : meth.locks = false) (hX : va_X b 6 xs s s.heap) (hbl : b < s.heap.size) (hbA : ¬ A b) (hA : ∀ q, s.heap.size ≤ q → A q) (hAf : ∀ q, A q → s.heap.size ≤ q) (hK : va_K G vwCl (zTY cA) s) (hE : zEX s) (hP : va_P G vwCl [(h0, .inr (11, [.int 0, .long 0, .long 1, .ref atr, .ref atx, .ref aho, .ref ath, .ref aru, .ref ahr, .ref arr_, .ref ase, .ref ali, .ref aac, .ref aga, .int 0, .ref akh, .ref ako, .ref akr])), (atr, .inl (cA 4, 4, .inr (.inr (.inr (.inr tf))))), (T0, .inr (10, [.int 0, .int (-1), .ref R0])), (T1, .inr (10, [.int 0, .int (-1), .ref R1])), (T2, .inr (10, [.int 0, .int (-1), .ref R2])), (T3, .inr (10, [.int 0, .int (-1), .ref R3])), (h0_m, .inr (12, [.int 0, .int 0, .long 0, .long 1, m4_m, .ref tmy_m, m6_m, m7_m, .int 0, .int 0, .int (-1), .int (-1), .int 0, .int 0, .int 0, .int 0, .int 0, .int 0, .int 0, .long 0, m20_m, m21_m, .int 0, m23_m, m24_m, m25_m, m26_m, .int 0, .int 0, .int 0, .int 0, .int 0, .int 0, .long 0, .long 0, m35_m, m36_m, .int 0, .int 0, .int 0, .int 0, .int 0, .int 0, .int 0, .int 0, .int 0, .int 0, .int 0, .int 0, .int 0, .int 0, m51_m, m52_m, m53_m, .int 0, .int 0, .int 0, m57_m, m58_m, .int 0, .long 0, .long 0, m62_m, .int 0, .int 0])), (tmy_m, .inl (cA 0, 4, .inl tm_m))] H) (hD : va_D A [(h0, .inr (11, [.int 0, .long 0, .long 1, .ref atr, .ref atx, .ref aho, .ref ath, .ref aru, .ref ahr, .ref arr_, .ref ase, .ref ali, .ref aac, .ref aga, .int 0, .ref akh, .ref ako, .ref akr])), (atr, .inl (cA 4, 4, .inr (.inr (.inr (.inr tf))))), (T0, .inr (10, [.int 0, .int (-1), .ref R0])), (T1, .inr (10, [.int 0, .int (-1), .ref R1])), (T2, .inr (10, [.int 0, .int (-1), .ref R2])), (T3, .inr (10, [.int 0, .int (-1), .ref R3])), (h0_m, .inr (12, [.int 0, .int 0, .long 0, .long 1, m4_m, .ref tmy_m, m6_m, m7_m, .int 0, .int 0, .int (-1), .int (-1), .int 0, .int 0, .int 0, .int 0, .int 0, .int 0, .int 0, .long 0, m20_m, m21_m, .int 0, m23_m, m24_m, m25_m, m26_m, .int 0, .int 0, .int 0, .int 0, .int 0, .int 0, .long 0, .long 0, m35_m, m36_m, .int 0, .int 0, .int 0, .int 0, .int 0, .int 0, .int 0, .int 0, .int 0, .int 0, .int 0, .int 0, .int 0, .int 0, m51_m, m52_m, m53_m, .int 0, .int 0, .int 0, m57_m, m58_m, .int 0, .long 0, .long 0, m62_m, .int 0, .int 0])), (tmy_m, .inl (cA 0, 4, .inl tm_m))]) (hS : va_S A s.heap H locs) (hl : lv_has ls 4 [(3, .int 0), (2, .ref h0_m), (1, .ref h0), (0, .ref b)]) : W p l e room_1 s m #[Value.ref b] below meth c H locs 166 7482 (lw_Z below #[Value.ref b] s) (F0 m 417 ls []) := by
  refine lv_aload_n hx hb dL_law_417 rfl (lv_at hl 2 rfl) ?_
  refine lv_aload_n hx hb dL_law_418 rfl (lv_at hl 3 rfl) ?_
  refine lv_iload_n hx hb dL_law_419 rfl (lv_at hl 0 rfl) ?_
  refine lv_iconst (v := 1) hx hb dL_law_420 (by decide) ?_
  refine lv_iadd hx hb dL_law_421 ?_
  refine z_topi (y := 1) (by decide +kernel) ?_
  refine va_sld hx hb hX hbl hbA hS (z_in (i := 1) (n := 6) (by decide +kernel) (by decide +kernel)) dL_law_422 ?_
  refine z_topi (y := a1) ha1 ?_
  refine lv_aload_n hx hb dL_law_423 rfl (lv_at hl 3 rfl) ?_
  refine lv_iload_n hx hb dL_law_424 rfl (lv_at hl 0 rfl) ?_
  refine lv_iconst (v := 2) hx hb dL_law_425 (by decide) ?_
  refine lv_iadd hx hb dL_law_426 ?_
  refine z_topi (y := 2) (by decide +kernel) ?_
  refine va_sld hx hb hX hbl hbA hS (z_in (i := 2) (n := 6) (by decide +kernel) (by decide +kernel)) dL_law_427 ?_
  refine z_topi (y := a2) ha2 ?_
  refine z_callVl (As := [.int a1, .int a2]) (rest := []) (wr := [(h0_m, .inr (12, [.int 0, .int 0, .long 0, .long 1, m4_m, .ref tmy_m, m6_m, m7_m, .int 0, .int 0, .int (-1), .int (-1), .int 0, .int 0, .int 0, .int 0, .int 0, .int 0, .int 0, .long 0, m20_m, m21_m, .int 0, m23_m, m24_m, m25_m, m26_m, .int 0, .int 0, .int 0, .int 0, .int 0, .int 0, .long 0, .long 0, m35_m, m36_m, .int 0, .int 0, .int 0, .int 0, .int 0, .int 0, .int 0, .int 0, .int 0, .int 0, .int 0, .int 0, .int 0, .int 0, m51_m, m52_m, m53_m, .int 0, .int 0, .int 0, m57_m, m58_m, .int 0, .long 0, .long 0, m62_m, .int 0, .int 0])), (tmy_m, .inl (cA 0, 4, .inl tm_m))]) ⟨hx, hb, hml, hown, hts⟩ hK hE hP hD hS hA (c_DR_read l G cA h0 atr atx aho ath aru ahr arr_ ase ali aac aga akh ako akr a1 a2 T0 T1 T2 T3 R0 R1 R2 R3 tf htf) lk_RL_39 ⟨rfl, rfl⟩ ⟨Nat.le_of_ble_eq_true rfl, Nat.le_of_ble_eq_true rfl⟩ 11 rfl rfl rfl [0, 1, 2, 3, 4, 5] [6, 7] rfl rfl (by decide) rfl hl.1 rfl (lv_room (Nat.le_of_ble_eq_true rfl)) dL_law_428 ⟨Nat.le_of_ble_eq_true rfl, Nat.le_of_ble_eq_true rfl⟩ (fun r_1 u_2 H locs hw hP hD hS => ?_)
  have hP : va_P G vwCl [(h0_m, .inr (12, [.int 0, .int 0, .long 0, .long 1, m4_m, .ref tmy_m, m6_m, m7_m, .int 0, .int 0, .int (-1), .int (-1), .int 0, .int 0, .int 0, .int 0, .int 0, .int 0, .int 0, .long 0, m20_m, m21_m, .int 0, m23_m, m24_m, m25_m, m26_m, .int 0, .int 0, .int 0, .int 0, .int 0, .int 0, .long 0, .long 0, m35_m, m36_m, .int 0, .int 0, .int 0, .int 0, .int 0, .int 0, .int 0, .int 0, .int 0, .int 0, .int 0, .int 0, .int 0, .int 0, m51_m, m52_m, m53_m, .int 0, .int 0, .int 0, m57_m, m58_m, .int 0, .long 0, .long 0, m62_m, .int 0, .int 0])), (tmy_m, .inl (cA 0, 4, .inl tm_m))] H := hP
  have hD : va_D A [(h0_m, .inr (12, [.int 0, .int 0, .long 0, .long 1, m4_m, .ref tmy_m, m6_m, m7_m, .int 0, .int 0, .int (-1), .int (-1), .int 0, .int 0, .int 0, .int 0, .int 0, .int 0, .int 0, .long 0, m20_m, m21_m, .int 0, m23_m, m24_m, m25_m, m26_m, .int 0, .int 0, .int 0, .int 0, .int 0, .int 0, .long 0, .long 0, m35_m, m36_m, .int 0, .int 0, .int 0, .int 0, .int 0, .int 0, .int 0, .int 0, .int 0, .int 0, .int 0, .int 0, .int 0, .int 0, m51_m, m52_m, m53_m, .int 0, .int 0, .int 0, m57_m, m58_m, .int 0, .long 0, .long 0, m62_m, .int 0, .int 0])), (tmy_m, .inl (cA 0, 4, .inl tm_m))] := hD
  obtain rfl : r_1 = (-1) := hw
  refine lv_aload_n hx hb dL_law_431 rfl (lv_at hl 1 rfl) ?_
  refine lv_aload_n hx hb dL_law_432 rfl (lv_at hl 3 rfl) ?_
  refine lv_iload_n hx hb dL_law_433 rfl (lv_at hl 0 rfl) ?_
  refine lv_iconst (v := 1) hx hb dL_law_434 (by decide) ?_
  refine lv_iadd hx hb dL_law_435 ?_
  refine z_topi (y := 1) (by decide +kernel) ?_
  refine va_sld hx hb hX hbl hbA hS (z_in (i := 1) (n := 6) (by decide +kernel) (by decide +kernel)) dL_law_436 ?_
  refine z_topi (y := a1) ha1 ?_
  refine lv_aload_n hx hb dL_law_437 rfl (lv_at hl 3 rfl) ?_
  refine lv_iload_n hx hb dL_law_438 rfl (lv_at hl 0 rfl) ?_
  refine lv_iconst (v := 2) hx hb dL_law_439 (by decide) ?_
  refine lv_iadd hx hb dL_law_440 ?_
  refine z_topi (y := 2) (by decide +kernel) ?_
  refine va_sld hx hb hX hbl hbA hS (z_in (i := 2) (n := 6) (by decide +kernel) (by decide +kernel)) dL_law_441 ?_
  refine z_topi (y := a2) ha2 ?_
  refine z_callVl (As := [.int a1, .int a2]) (rest := [.long (-1)]) (wr := []) ⟨hx, hb, hml, hown, hts⟩ hK hE hP hD hS hA (c_M_read l G cA h0_m a1 a2 tm_m m4_m tmy_m m6_m m7_m m20_m m21_m m23_m m24_m m25_m m26_m m35_m m36_m m51_m m52_m m53_m m57_m m58_m m62_m htm_m) lk_RL_43 ⟨rfl, rfl⟩ ⟨Nat.le_of_ble_eq_true rfl, Nat.le_of_ble_eq_true rfl⟩ 12 rfl rfl rfl [0, 1] [] rfl rfl (by decide) rfl hl.1 rfl (lv_room (Nat.le_of_ble_eq_true rfl)) dL_law_442 ⟨Nat.le_of_ble_eq_true rfl, Nat.le_of_ble_eq_true rfl⟩ (fun r_3 u_4 H locs hw hP hD hS => ?_)
  have hP : va_P G vwCl [] H := hP
  have hD : va_D A [] := hD
  obtain rfl : r_3 = (-1) := hw
  refine W.lcmp hx hb dL_law_445 ?_
  refine z_topi (y := 0) (by decide +kernel) ?_
  refine lv_if_eq (tgt := 2032) hx hb dL_law_446 (by decide) (fun _ => ?_) (fun h9 => absurd (by decide +kernel) h9)
  exact lw_exit l hx hb hr hlocks hX hbl hbA hAf (Nat.le_of_ble_eq_true rfl) (Nat.le_of_ble_eq_true rfl) hS (lv_sub hl [3, 0] rfl)
set_option maxHeartbeats 4000000 in
set_option maxRecDepth 100000 in
theorem lw_case_6 {p : Program} {e : Env} {s : State} {m : MethodId} {below : List Frame} {meth : Method} {c : Code} (l : Launch) (G : va_G) (cA : Nat → ClassId) {b : Nat} {xs : Nat → Int32} {A : Nat → Prop} (h0 : Nat) (atr : Nat) (atx : Nat) (aho : Nat) (ath : Nat) (aru : Nat) (ahr : Nat) (arr_ : Nat) (ase : Nat) (ali : Nat) (aac : Nat) (aga : Nat) (akh : Nat) (ako : Nat) (akr : Nat) (T0 : Nat) (T1 : Nat) (T2 : Nat) (T3 : Nat) (R0 : Nat) (R1 : Nat) (R2 : Nat) (R3 : Nat) (tf : Nat → Option Nat) (h0_m : Nat) (tm_m : Nat → Int32) (m4_m : Value) (tmy_m : Nat) (m6_m : Value) (m7_m : Value) (m20_m : Value) (m21_m : Value) (m23_m : Value) (m24_m : Value) (m25_m : Value) (m26_m : Value) (m35_m : Value) (m36_m : Value) (m51_m : Value) (m52_m : Value) (m53_m : Value) (m57_m : Value) (m58_m : Value) (m62_m : Value) (a1 : Int32) (a2 : Int32) (a3 : Int32) (a4 : Int32) (a5 : Int32) (ha1 : xs (1 : Int32).toNatClampNeg = a1) (ha2 : xs (2 : Int32).toNatClampNeg = a2) (ha3 : xs (3 : Int32).toNatClampNeg = a3) (ha4 : xs (4 : Int32).toNatClampNeg = a4) (ha5 : xs (5 : Int32).toNatClampNeg = a5) (htf : zTr tf T0 T1 T2 T3) (htm_m : zTm tm_m) {H : Heap} {locs : List Loc} {ls : Array Slot} (hx : p.tables.exec = Jvm.exec) (hb : c.code = code) (hr : meth.sig.returnType = ret) (hml : c.maxLocals = 4) (hown : s.vm.findClass RL = some m.cls) (hts : ∀ w ∈ TB, w.before #[Value.ref b] s = true) (hlocks : meth.locks = false) (hX : va_X b 6 xs s s.heap) (hbl : b < s.heap.size) (hbA : ¬ A b) (hA : ∀ q, s.heap.size ≤ q → A q) (hAf : ∀ q, A q → s.heap.size ≤ q) (hK : va_K G vwCl (zTY cA) s) (hE : zEX s) (hP : va_P G vwCl [(h0, .inr (11, [.int 0, .long 0, .long 1, .ref atr, .ref atx, .ref aho, .ref ath, .ref aru, .ref ahr, .ref arr_, .ref ase, .ref ali, .ref aac, .ref aga, .int 0, .ref akh, .ref ako, .ref akr])), (atr, .inl (cA 4, 4, .inr (.inr (.inr (.inr tf))))), (T0, .inr (10, [.int 0, .int (-1), .ref R0])), (T1, .inr (10, [.int 0, .int (-1), .ref R1])), (T2, .inr (10, [.int 0, .int (-1), .ref R2])), (T3, .inr (10, [.int 0, .int (-1), .ref R3])), (h0_m, .inr (12, [.int 0, .int 0, .long 0, .long 1, m4_m, .ref tmy_m, m6_m, m7_m, .int 0, .int 0, .int (-1), .int (-1), .int 0, .int 0, .int 0, .int 0, .int 0, .int 0, .int 0, .long 0, m20_m, m21_m, .int 0, m23_m, m24_m, m25_m, m26_m, .int 0, .int 0, .int 0, .int 0, .int 0, .int 0, .long 0, .long 0, m35_m, m36_m, .int 0, .int 0, .int 0, .int 0, .int 0, .int 0, .int 0, .int 0, .int 0, .int 0, .int 0, .int 0, .int 0, .int 0, m51_m, m52_m, m53_m, .int 0, .int 0, .int 0, m57_m, m58_m, .int 0, .long 0, .long 0, m62_m, .int 0, .int 0])), (tmy_m, .inl (cA 0, 4, .inl tm_m))] H) (hD : va_D A [(h0, .inr (11, [.int 0, .long 0, .long 1, .ref atr, .ref atx, .ref aho, .ref ath, .ref aru, .ref ahr, .ref arr_, .ref ase, .ref ali, .ref aac, .ref aga, .int 0, .ref akh, .ref ako, .ref akr])), (atr, .inl (cA 4, 4, .inr (.inr (.inr (.inr tf))))), (T0, .inr (10, [.int 0, .int (-1), .ref R0])), (T1, .inr (10, [.int 0, .int (-1), .ref R1])), (T2, .inr (10, [.int 0, .int (-1), .ref R2])), (T3, .inr (10, [.int 0, .int (-1), .ref R3])), (h0_m, .inr (12, [.int 0, .int 0, .long 0, .long 1, m4_m, .ref tmy_m, m6_m, m7_m, .int 0, .int 0, .int (-1), .int (-1), .int 0, .int 0, .int 0, .int 0, .int 0, .int 0, .int 0, .long 0, m20_m, m21_m, .int 0, m23_m, m24_m, m25_m, m26_m, .int 0, .int 0, .int 0, .int 0, .int 0, .int 0, .long 0, .long 0, m35_m, m36_m, .int 0, .int 0, .int 0, .int 0, .int 0, .int 0, .int 0, .int 0, .int 0, .int 0, .int 0, .int 0, .int 0, .int 0, m51_m, m52_m, m53_m, .int 0, .int 0, .int 0, m57_m, m58_m, .int 0, .long 0, .long 0, m62_m, .int 0, .int 0])), (tmy_m, .inl (cA 0, 4, .inl tm_m))]) (hS : va_S A s.heap H locs) (hl : lv_has ls 4 [(3, .int 0), (2, .ref h0_m), (1, .ref h0), (0, .ref b)]) : W p l e room_1 s m #[Value.ref b] below meth c H locs 166 7482 (lw_Z below #[Value.ref b] s) (F0 m 451 ls []) := by
  refine lv_aload_n hx hb dL_law_451 rfl (lv_at hl 2 rfl) ?_
  refine lv_aload_n hx hb dL_law_452 rfl (lv_at hl 3 rfl) ?_
  refine lv_iload_n hx hb dL_law_453 rfl (lv_at hl 0 rfl) ?_
  refine lv_iconst (v := 1) hx hb dL_law_454 (by decide) ?_
  refine lv_iadd hx hb dL_law_455 ?_
  refine z_topi (y := 1) (by decide +kernel) ?_
  refine va_sld hx hb hX hbl hbA hS (z_in (i := 1) (n := 6) (by decide +kernel) (by decide +kernel)) dL_law_456 ?_
  refine z_topi (y := a1) ha1 ?_
  refine lv_aload_n hx hb dL_law_457 rfl (lv_at hl 3 rfl) ?_
  refine lv_iload_n hx hb dL_law_458 rfl (lv_at hl 0 rfl) ?_
  refine lv_iconst (v := 2) hx hb dL_law_459 (by decide) ?_
  refine lv_iadd hx hb dL_law_460 ?_
  refine z_topi (y := 2) (by decide +kernel) ?_
  refine va_sld hx hb hX hbl hbA hS (z_in (i := 2) (n := 6) (by decide +kernel) (by decide +kernel)) dL_law_461 ?_
  refine z_topi (y := a2) ha2 ?_
  refine lv_aload_n hx hb dL_law_462 rfl (lv_at hl 3 rfl) ?_
  refine lv_iload_n hx hb dL_law_463 rfl (lv_at hl 0 rfl) ?_
  refine lv_iconst (v := 3) hx hb dL_law_464 (by decide) ?_
  refine lv_iadd hx hb dL_law_465 ?_
  refine z_topi (y := 3) (by decide +kernel) ?_
  refine va_sld hx hb hX hbl hbA hS (z_in (i := 3) (n := 6) (by decide +kernel) (by decide +kernel)) dL_law_466 ?_
  refine z_topi (y := a3) ha3 ?_
  refine lv_aload_n hx hb dL_law_467 rfl (lv_at hl 3 rfl) ?_
  refine lv_iload_n hx hb dL_law_468 rfl (lv_at hl 0 rfl) ?_
  refine lv_iconst (v := 4) hx hb dL_law_469 (by decide) ?_
  refine lv_iadd hx hb dL_law_470 ?_
  refine z_topi (y := 4) (by decide +kernel) ?_
  refine va_sld hx hb hX hbl hbA hS (z_in (i := 4) (n := 6) (by decide +kernel) (by decide +kernel)) dL_law_471 ?_
  refine z_topi (y := a4) ha4 ?_
  refine lv_aload_n hx hb dL_law_472 rfl (lv_at hl 3 rfl) ?_
  refine lv_iload_n hx hb dL_law_473 rfl (lv_at hl 0 rfl) ?_
  refine lv_iconst (v := 5) hx hb dL_law_474 (by decide) ?_
  refine lv_iadd hx hb dL_law_475 ?_
  refine z_topi (y := 5) (by decide +kernel) ?_
  refine va_sld hx hb hX hbl hbA hS (z_in (i := 5) (n := 6) (by decide +kernel) (by decide +kernel)) dL_law_476 ?_
  refine z_topi (y := a5) ha5 ?_
  refine z_callVi (As := [.int a1, .int a2, .int a3, .int a4, .int a5]) (rest := []) (wr := [(h0_m, .inr (12, [.int 0, .int 0, .long 0, .long 1, m4_m, .ref tmy_m, m6_m, m7_m, .int 0, .int 0, .int (-1), .int (-1), .int 0, .int 0, .int 0, .int 0, .int 0, .int 0, .int 0, .long 0, m20_m, m21_m, .int 0, m23_m, m24_m, m25_m, m26_m, .int 0, .int 0, .int 0, .int 0, .int 0, .int 0, .long 0, .long 0, m35_m, m36_m, .int 0, .int 0, .int 0, .int 0, .int 0, .int 0, .int 0, .int 0, .int 0, .int 0, .int 0, .int 0, .int 0, .int 0, m51_m, m52_m, m53_m, .int 0, .int 0, .int 0, m57_m, m58_m, .int 0, .long 0, .long 0, m62_m, .int 0, .int 0])), (tmy_m, .inl (cA 0, 4, .inl tm_m))]) ⟨hx, hb, hml, hown, hts⟩ hK hE hP hD hS hA (c_DR_pour l G cA h0 atr atx aho ath aru ahr arr_ ase ali aac aga akh ako akr a1 a2 a3 a4 a5 T0 T1 T2 T3 R0 R1 R2 R3 tf htf) lk_RL_44 ⟨rfl, rfl⟩ ⟨Nat.le_of_ble_eq_true rfl, Nat.le_of_ble_eq_true rfl⟩ 11 rfl rfl rfl [0, 1, 2, 3, 4, 5] [6, 7] rfl rfl (by decide) rfl hl.1 rfl (lv_room (Nat.le_of_ble_eq_true rfl)) dL_law_477 ⟨Nat.le_of_ble_eq_true rfl, Nat.le_of_ble_eq_true rfl⟩ (fun r_1 u_2 H locs hw hP hD hS => ?_)
  have hP : va_P G vwCl [(h0_m, .inr (12, [.int 0, .int 0, .long 0, .long 1, m4_m, .ref tmy_m, m6_m, m7_m, .int 0, .int 0, .int (-1), .int (-1), .int 0, .int 0, .int 0, .int 0, .int 0, .int 0, .int 0, .long 0, m20_m, m21_m, .int 0, m23_m, m24_m, m25_m, m26_m, .int 0, .int 0, .int 0, .int 0, .int 0, .int 0, .long 0, .long 0, m35_m, m36_m, .int 0, .int 0, .int 0, .int 0, .int 0, .int 0, .int 0, .int 0, .int 0, .int 0, .int 0, .int 0, .int 0, .int 0, m51_m, m52_m, m53_m, .int 0, .int 0, .int 0, m57_m, m58_m, .int 0, .long 0, .long 0, m62_m, .int 0, .int 0])), (tmy_m, .inl (cA 0, 4, .inl tm_m))] H := hP
  have hD : va_D A [(h0_m, .inr (12, [.int 0, .int 0, .long 0, .long 1, m4_m, .ref tmy_m, m6_m, m7_m, .int 0, .int 0, .int (-1), .int (-1), .int 0, .int 0, .int 0, .int 0, .int 0, .int 0, .int 0, .long 0, m20_m, m21_m, .int 0, m23_m, m24_m, m25_m, m26_m, .int 0, .int 0, .int 0, .int 0, .int 0, .int 0, .long 0, .long 0, m35_m, m36_m, .int 0, .int 0, .int 0, .int 0, .int 0, .int 0, .int 0, .int 0, .int 0, .int 0, .int 0, .int 0, .int 0, .int 0, m51_m, m52_m, m53_m, .int 0, .int 0, .int 0, m57_m, m58_m, .int 0, .long 0, .long 0, m62_m, .int 0, .int 0])), (tmy_m, .inl (cA 0, 4, .inl tm_m))] := hD
  obtain rfl : r_1 = 0 := hw
  refine lv_aload_n hx hb dL_law_480 rfl (lv_at hl 1 rfl) ?_
  refine lv_aload_n hx hb dL_law_481 rfl (lv_at hl 3 rfl) ?_
  refine lv_iload_n hx hb dL_law_482 rfl (lv_at hl 0 rfl) ?_
  refine lv_iconst (v := 1) hx hb dL_law_483 (by decide) ?_
  refine lv_iadd hx hb dL_law_484 ?_
  refine z_topi (y := 1) (by decide +kernel) ?_
  refine va_sld hx hb hX hbl hbA hS (z_in (i := 1) (n := 6) (by decide +kernel) (by decide +kernel)) dL_law_485 ?_
  refine z_topi (y := a1) ha1 ?_
  refine lv_aload_n hx hb dL_law_486 rfl (lv_at hl 3 rfl) ?_
  refine lv_iload_n hx hb dL_law_487 rfl (lv_at hl 0 rfl) ?_
  refine lv_iconst (v := 2) hx hb dL_law_488 (by decide) ?_
  refine lv_iadd hx hb dL_law_489 ?_
  refine z_topi (y := 2) (by decide +kernel) ?_
  refine va_sld hx hb hX hbl hbA hS (z_in (i := 2) (n := 6) (by decide +kernel) (by decide +kernel)) dL_law_490 ?_
  refine z_topi (y := a2) ha2 ?_
  refine lv_aload_n hx hb dL_law_491 rfl (lv_at hl 3 rfl) ?_
  refine lv_iload_n hx hb dL_law_492 rfl (lv_at hl 0 rfl) ?_
  refine lv_iconst (v := 3) hx hb dL_law_493 (by decide) ?_
  refine lv_iadd hx hb dL_law_494 ?_
  refine z_topi (y := 3) (by decide +kernel) ?_
  refine va_sld hx hb hX hbl hbA hS (z_in (i := 3) (n := 6) (by decide +kernel) (by decide +kernel)) dL_law_495 ?_
  refine z_topi (y := a3) ha3 ?_
  refine lv_aload_n hx hb dL_law_496 rfl (lv_at hl 3 rfl) ?_
  refine lv_iload_n hx hb dL_law_497 rfl (lv_at hl 0 rfl) ?_
  refine lv_iconst (v := 4) hx hb dL_law_498 (by decide) ?_
  refine lv_iadd hx hb dL_law_499 ?_
  refine z_topi (y := 4) (by decide +kernel) ?_
  refine va_sld hx hb hX hbl hbA hS (z_in (i := 4) (n := 6) (by decide +kernel) (by decide +kernel)) dL_law_500 ?_
  refine z_topi (y := a4) ha4 ?_
  refine lv_aload_n hx hb dL_law_501 rfl (lv_at hl 3 rfl) ?_
  refine lv_iload_n hx hb dL_law_502 rfl (lv_at hl 0 rfl) ?_
  refine lv_iconst (v := 5) hx hb dL_law_503 (by decide) ?_
  refine lv_iadd hx hb dL_law_504 ?_
  refine z_topi (y := 5) (by decide +kernel) ?_
  refine va_sld hx hb hX hbl hbA hS (z_in (i := 5) (n := 6) (by decide +kernel) (by decide +kernel)) dL_law_505 ?_
  refine z_topi (y := a5) ha5 ?_
  refine z_callVi (As := [.int a1, .int a2, .int a3, .int a4, .int a5]) (rest := [.int 0]) (wr := []) ⟨hx, hb, hml, hown, hts⟩ hK hE hP hD hS hA (c_M_pour l G cA h0_m a1 a2 a3 a4 a5 tm_m m4_m tmy_m m6_m m7_m m20_m m21_m m23_m m24_m m25_m m26_m m35_m m36_m m51_m m52_m m53_m m57_m m58_m m62_m htm_m) lk_RL_48 ⟨rfl, rfl⟩ ⟨Nat.le_of_ble_eq_true rfl, Nat.le_of_ble_eq_true rfl⟩ 12 rfl rfl rfl [0, 1] [] rfl rfl (by decide) rfl hl.1 rfl (lv_room (Nat.le_of_ble_eq_true rfl)) dL_law_506 ⟨Nat.le_of_ble_eq_true rfl, Nat.le_of_ble_eq_true rfl⟩ (fun r_3 u_4 H locs hw hP hD hS => ?_)
  have hP : va_P G vwCl [] H := hP
  have hD : va_D A [] := hD
  obtain rfl : r_3 = 0 := hw
  refine lv_icmp_eq (tgt := 2032) hx hb dL_law_509 (by decide) (fun _ => ?_) (fun h9 => absurd (by decide +kernel) h9)
  exact lw_exit l hx hb hr hlocks hX hbl hbA hAf (Nat.le_of_ble_eq_true rfl) (Nat.le_of_ble_eq_true rfl) hS (lv_sub hl [3, 0] rfl)
set_option maxHeartbeats 4000000 in
set_option maxRecDepth 100000 in
theorem lw_case_7 {p : Program} {e : Env} {s : State} {m : MethodId} {below : List Frame} {meth : Method} {c : Code} (l : Launch) (G : va_G) (cA : Nat → ClassId) {b : Nat} {xs : Nat → Int32} {A : Nat → Prop} (h0 : Nat) (atr : Nat) (atx : Nat) (aho : Nat) (ath : Nat) (aru : Nat) (ahr : Nat) (arr_ : Nat) (ase : Nat) (ali : Nat) (aac : Nat) (aga : Nat) (akh : Nat) (ako : Nat) (akr : Nat) (tp : Nat) (f : Nat → Int32) (h0_m : Nat) (f_m : Nat → Int32) (m4_m : Value) (m5_m : Value) (m6_m : Value) (ta_m : Nat) (m20_m : Value) (m21_m : Value) (m23_m : Value) (m24_m : Value) (m25_m : Value) (m26_m : Value) (m35_m : Value) (m36_m : Value) (m51_m : Value) (m52_m : Value) (m53_m : Value) (m57_m : Value) (m58_m : Value) (m62_m : Value) (a1 : Int32) (a2 : Int32) (a3 : Int32) (a4 : Int32) (a5 : Int32) (ha1 : xs (1 : Int32).toNatClampNeg = a1) (ha2 : xs (2 : Int32).toNatClampNeg = a2) (ha3 : xs (3 : Int32).toNatClampNeg = a3) (ha4 : xs (4 : Int32).toNatClampNeg = a4) (ha5 : xs (5 : Int32).toNatClampNeg = a5) {H : Heap} {locs : List Loc} {ls : Array Slot} (hx : p.tables.exec = Jvm.exec) (hb : c.code = code) (hr : meth.sig.returnType = ret) (hml : c.maxLocals = 4) (hown : s.vm.findClass RL = some m.cls) (hts : ∀ w ∈ TB, w.before #[Value.ref b] s = true) (hlocks : meth.locks = false) (hX : va_X b 6 xs s s.heap) (hbl : b < s.heap.size) (hbA : ¬ A b) (hA : ∀ q, s.heap.size ≤ q → A q) (hAf : ∀ q, A q → s.heap.size ≤ q) (hK : va_K G vwCl (zTY cA) s) (hE : zEX s) (hP : va_P G vwCl [(h0, .inr (11, [.int 0, .long 0, .long 1, .ref atr, .ref atx, .ref aho, .ref ath, .ref aru, .ref ahr, .ref arr_, .ref ase, .ref ali, .ref aac, .ref aga, .int 0, .ref akh, .ref ako, .ref akr])), (atx, .inr (8, [.ref tp, .int 0, .int 0, .int 0, .int 0, .int 0, .int 0, .int 0, .long 0, .int (-1), .int (-1)])), (tp, .inl (cA 2, 900, .inl f)), (h0_m, .inr (12, [.int 0, .int 0, .long 0, .long 1, m4_m, m5_m, m6_m, .ref ta_m, .int 0, .int 0, .int (-1), .int (-1), .int 0, .int 0, .int 0, .int 0, .int 0, .int 0, .int 0, .long 0, m20_m, m21_m, .int 0, m23_m, m24_m, m25_m, m26_m, .int 0, .int 0, .int 0, .int 0, .int 0, .int 0, .long 0, .long 0, m35_m, m36_m, .int 0, .int 0, .int 0, .int 0, .int 0, .int 0, .int 0, .int 0, .int 0, .int 0, .int 0, .int 0, .int 0, .int 0, m51_m, m52_m, m53_m, .int 0, .int 0, .int 0, m57_m, m58_m, .int 0, .long 0, .long 0, m62_m, .int 0, .int 0])), (ta_m, .inl (cA 2, 900, .inl f_m))] H) (hD : va_D A [(h0, .inr (11, [.int 0, .long 0, .long 1, .ref atr, .ref atx, .ref aho, .ref ath, .ref aru, .ref ahr, .ref arr_, .ref ase, .ref ali, .ref aac, .ref aga, .int 0, .ref akh, .ref ako, .ref akr])), (atx, .inr (8, [.ref tp, .int 0, .int 0, .int 0, .int 0, .int 0, .int 0, .int 0, .long 0, .int (-1), .int (-1)])), (tp, .inl (cA 2, 900, .inl f)), (h0_m, .inr (12, [.int 0, .int 0, .long 0, .long 1, m4_m, m5_m, m6_m, .ref ta_m, .int 0, .int 0, .int (-1), .int (-1), .int 0, .int 0, .int 0, .int 0, .int 0, .int 0, .int 0, .long 0, m20_m, m21_m, .int 0, m23_m, m24_m, m25_m, m26_m, .int 0, .int 0, .int 0, .int 0, .int 0, .int 0, .long 0, .long 0, m35_m, m36_m, .int 0, .int 0, .int 0, .int 0, .int 0, .int 0, .int 0, .int 0, .int 0, .int 0, .int 0, .int 0, .int 0, .int 0, m51_m, m52_m, m53_m, .int 0, .int 0, .int 0, m57_m, m58_m, .int 0, .long 0, .long 0, m62_m, .int 0, .int 0])), (ta_m, .inl (cA 2, 900, .inl f_m))]) (hS : va_S A s.heap H locs) (hl : lv_has ls 4 [(3, .int 0), (2, .ref h0_m), (1, .ref h0), (0, .ref b)]) : W p l e room_1 s m #[Value.ref b] below meth c H locs 166 7482 (lw_Z below #[Value.ref b] s) (F0 m 514 ls []) := by
  refine lv_aload_n hx hb dL_law_514 rfl (lv_at hl 2 rfl) ?_
  refine lv_aload_n hx hb dL_law_515 rfl (lv_at hl 3 rfl) ?_
  refine lv_iload_n hx hb dL_law_516 rfl (lv_at hl 0 rfl) ?_
  refine lv_iconst (v := 1) hx hb dL_law_517 (by decide) ?_
  refine lv_iadd hx hb dL_law_518 ?_
  refine z_topi (y := 1) (by decide +kernel) ?_
  refine va_sld hx hb hX hbl hbA hS (z_in (i := 1) (n := 6) (by decide +kernel) (by decide +kernel)) dL_law_519 ?_
  refine z_topi (y := a1) ha1 ?_
  refine lv_aload_n hx hb dL_law_520 rfl (lv_at hl 3 rfl) ?_
  refine lv_iload_n hx hb dL_law_521 rfl (lv_at hl 0 rfl) ?_
  refine lv_iconst (v := 2) hx hb dL_law_522 (by decide) ?_
  refine lv_iadd hx hb dL_law_523 ?_
  refine z_topi (y := 2) (by decide +kernel) ?_
  refine va_sld hx hb hX hbl hbA hS (z_in (i := 2) (n := 6) (by decide +kernel) (by decide +kernel)) dL_law_524 ?_
  refine z_topi (y := a2) ha2 ?_
  refine lv_aload_n hx hb dL_law_525 rfl (lv_at hl 3 rfl) ?_
  refine lv_iload_n hx hb dL_law_526 rfl (lv_at hl 0 rfl) ?_
  refine lv_iconst (v := 3) hx hb dL_law_527 (by decide) ?_
  refine lv_iadd hx hb dL_law_528 ?_
  refine z_topi (y := 3) (by decide +kernel) ?_
  refine va_sld hx hb hX hbl hbA hS (z_in (i := 3) (n := 6) (by decide +kernel) (by decide +kernel)) dL_law_529 ?_
  refine z_topi (y := a3) ha3 ?_
  refine lv_aload_n hx hb dL_law_530 rfl (lv_at hl 3 rfl) ?_
  refine lv_iload_n hx hb dL_law_531 rfl (lv_at hl 0 rfl) ?_
  refine lv_iconst (v := 4) hx hb dL_law_532 (by decide) ?_
  refine lv_iadd hx hb dL_law_533 ?_
  refine z_topi (y := 4) (by decide +kernel) ?_
  refine va_sld hx hb hX hbl hbA hS (z_in (i := 4) (n := 6) (by decide +kernel) (by decide +kernel)) dL_law_534 ?_
  refine z_topi (y := a4) ha4 ?_
  refine lv_aload_n hx hb dL_law_535 rfl (lv_at hl 3 rfl) ?_
  refine lv_iload_n hx hb dL_law_536 rfl (lv_at hl 0 rfl) ?_
  refine lv_iconst (v := 5) hx hb dL_law_537 (by decide) ?_
  refine lv_iadd hx hb dL_law_538 ?_
  refine z_topi (y := 5) (by decide +kernel) ?_
  refine va_sld hx hb hX hbl hbA hS (z_in (i := 5) (n := 6) (by decide +kernel) (by decide +kernel)) dL_law_539 ?_
  refine z_topi (y := a5) ha5 ?_
  refine z_callVi (As := [.int a1, .int a2, .int a3, .int a4, .int a5]) (rest := []) (wr := [(h0_m, .inr (12, [.int 0, .int 0, .long 0, .long 1, m4_m, m5_m, m6_m, .ref ta_m, .int 0, .int 0, .int (-1), .int (-1), .int 0, .int 0, .int 0, .int 0, .int 0, .int 0, .int 0, .long 0, m20_m, m21_m, .int 0, m23_m, m24_m, m25_m, m26_m, .int 0, .int 0, .int 0, .int 0, .int 0, .int 0, .long 0, .long 0, m35_m, m36_m, .int 0, .int 0, .int 0, .int 0, .int 0, .int 0, .int 0, .int 0, .int 0, .int 0, .int 0, .int 0, .int 0, .int 0, m51_m, m52_m, m53_m, .int 0, .int 0, .int 0, m57_m, m58_m, .int 0, .long 0, .long 0, m62_m, .int 0, .int 0])), (ta_m, .inl (cA 2, 900, .inl f_m))]) ⟨hx, hb, hml, hown, hts⟩ hK hE hP hD hS hA (c_DR_feed l G cA h0 atr atx aho ath aru ahr arr_ ase ali aac aga akh ako akr a1 a2 a3 a4 a5 tp f) lk_RL_49 ⟨rfl, rfl⟩ ⟨Nat.le_of_ble_eq_true rfl, Nat.le_of_ble_eq_true rfl⟩ 11 rfl rfl rfl [0, 1, 2] [3, 4] rfl rfl (by decide) rfl hl.1 rfl (lv_room (Nat.le_of_ble_eq_true rfl)) dL_law_540 ⟨Nat.le_of_ble_eq_true rfl, Nat.le_of_ble_eq_true rfl⟩ (fun r_1 u_2 H locs hw hP hD hS => ?_)
  have hP : va_P G vwCl [(h0_m, .inr (12, [.int 0, .int 0, .long 0, .long 1, m4_m, m5_m, m6_m, .ref ta_m, .int 0, .int 0, .int (-1), .int (-1), .int 0, .int 0, .int 0, .int 0, .int 0, .int 0, .int 0, .long 0, m20_m, m21_m, .int 0, m23_m, m24_m, m25_m, m26_m, .int 0, .int 0, .int 0, .int 0, .int 0, .int 0, .long 0, .long 0, m35_m, m36_m, .int 0, .int 0, .int 0, .int 0, .int 0, .int 0, .int 0, .int 0, .int 0, .int 0, .int 0, .int 0, .int 0, .int 0, m51_m, m52_m, m53_m, .int 0, .int 0, .int 0, m57_m, m58_m, .int 0, .long 0, .long 0, m62_m, .int 0, .int 0])), (ta_m, .inl (cA 2, 900, .inl f_m))] H := hP
  have hD : va_D A [(h0_m, .inr (12, [.int 0, .int 0, .long 0, .long 1, m4_m, m5_m, m6_m, .ref ta_m, .int 0, .int 0, .int (-1), .int (-1), .int 0, .int 0, .int 0, .int 0, .int 0, .int 0, .int 0, .long 0, m20_m, m21_m, .int 0, m23_m, m24_m, m25_m, m26_m, .int 0, .int 0, .int 0, .int 0, .int 0, .int 0, .long 0, .long 0, m35_m, m36_m, .int 0, .int 0, .int 0, .int 0, .int 0, .int 0, .int 0, .int 0, .int 0, .int 0, .int 0, .int 0, .int 0, .int 0, m51_m, m52_m, m53_m, .int 0, .int 0, .int 0, m57_m, m58_m, .int 0, .long 0, .long 0, m62_m, .int 0, .int 0])), (ta_m, .inl (cA 2, 900, .inl f_m))] := hD
  obtain rfl : r_1 = 20 := hw
  refine lv_aload_n hx hb dL_law_543 rfl (lv_at hl 1 rfl) ?_
  refine lv_aload_n hx hb dL_law_544 rfl (lv_at hl 3 rfl) ?_
  refine lv_iload_n hx hb dL_law_545 rfl (lv_at hl 0 rfl) ?_
  refine lv_iconst (v := 1) hx hb dL_law_546 (by decide) ?_
  refine lv_iadd hx hb dL_law_547 ?_
  refine z_topi (y := 1) (by decide +kernel) ?_
  refine va_sld hx hb hX hbl hbA hS (z_in (i := 1) (n := 6) (by decide +kernel) (by decide +kernel)) dL_law_548 ?_
  refine z_topi (y := a1) ha1 ?_
  refine lv_aload_n hx hb dL_law_549 rfl (lv_at hl 3 rfl) ?_
  refine lv_iload_n hx hb dL_law_550 rfl (lv_at hl 0 rfl) ?_
  refine lv_iconst (v := 2) hx hb dL_law_551 (by decide) ?_
  refine lv_iadd hx hb dL_law_552 ?_
  refine z_topi (y := 2) (by decide +kernel) ?_
  refine va_sld hx hb hX hbl hbA hS (z_in (i := 2) (n := 6) (by decide +kernel) (by decide +kernel)) dL_law_553 ?_
  refine z_topi (y := a2) ha2 ?_
  refine lv_aload_n hx hb dL_law_554 rfl (lv_at hl 3 rfl) ?_
  refine lv_iload_n hx hb dL_law_555 rfl (lv_at hl 0 rfl) ?_
  refine lv_iconst (v := 3) hx hb dL_law_556 (by decide) ?_
  refine lv_iadd hx hb dL_law_557 ?_
  refine z_topi (y := 3) (by decide +kernel) ?_
  refine va_sld hx hb hX hbl hbA hS (z_in (i := 3) (n := 6) (by decide +kernel) (by decide +kernel)) dL_law_558 ?_
  refine z_topi (y := a3) ha3 ?_
  refine lv_aload_n hx hb dL_law_559 rfl (lv_at hl 3 rfl) ?_
  refine lv_iload_n hx hb dL_law_560 rfl (lv_at hl 0 rfl) ?_
  refine lv_iconst (v := 4) hx hb dL_law_561 (by decide) ?_
  refine lv_iadd hx hb dL_law_562 ?_
  refine z_topi (y := 4) (by decide +kernel) ?_
  refine va_sld hx hb hX hbl hbA hS (z_in (i := 4) (n := 6) (by decide +kernel) (by decide +kernel)) dL_law_563 ?_
  refine z_topi (y := a4) ha4 ?_
  refine lv_aload_n hx hb dL_law_564 rfl (lv_at hl 3 rfl) ?_
  refine lv_iload_n hx hb dL_law_565 rfl (lv_at hl 0 rfl) ?_
  refine lv_iconst (v := 5) hx hb dL_law_566 (by decide) ?_
  refine lv_iadd hx hb dL_law_567 ?_
  refine z_topi (y := 5) (by decide +kernel) ?_
  refine va_sld hx hb hX hbl hbA hS (z_in (i := 5) (n := 6) (by decide +kernel) (by decide +kernel)) dL_law_568 ?_
  refine z_topi (y := a5) ha5 ?_
  refine z_callVi (As := [.int a1, .int a2, .int a3, .int a4, .int a5]) (rest := [.int 20]) (wr := []) ⟨hx, hb, hml, hown, hts⟩ hK hE hP hD hS hA (c_M_feed l G cA h0_m a1 a2 a3 a4 a5 f_m m4_m m5_m m6_m ta_m m20_m m21_m m23_m m24_m m25_m m26_m m35_m m36_m m51_m m52_m m53_m m57_m m58_m m62_m) lk_RL_53 ⟨rfl, rfl⟩ ⟨Nat.le_of_ble_eq_true rfl, Nat.le_of_ble_eq_true rfl⟩ 12 rfl rfl rfl [0, 1] [] rfl rfl (by decide) rfl hl.1 rfl (lv_room (Nat.le_of_ble_eq_true rfl)) dL_law_569 ⟨Nat.le_of_ble_eq_true rfl, Nat.le_of_ble_eq_true rfl⟩ (fun r_3 u_4 H locs hw hP hD hS => ?_)
  have hP : va_P G vwCl [] H := hP
  have hD : va_D A [] := hD
  obtain rfl : r_3 = 20 := hw
  refine lv_icmp_eq (tgt := 2032) hx hb dL_law_572 (by decide) (fun _ => ?_) (fun h9 => absurd (by decide +kernel) h9)
  exact lw_exit l hx hb hr hlocks hX hbl hbA hAf (Nat.le_of_ble_eq_true rfl) (Nat.le_of_ble_eq_true rfl) hS (lv_sub hl [3, 0] rfl)
set_option maxHeartbeats 4000000 in
set_option maxRecDepth 100000 in
theorem lw_case_8 {p : Program} {e : Env} {s : State} {m : MethodId} {below : List Frame} {meth : Method} {c : Code} (l : Launch) (G : va_G) (cA : Nat → ClassId) {b : Nat} {xs : Nat → Int32} {A : Nat → Prop} (h0 : Nat) (atr : Nat) (atx : Nat) (aho : Nat) (ath : Nat) (aru : Nat) (ahr : Nat) (arr_ : Nat) (ase : Nat) (ali : Nat) (aac : Nat) (aga : Nat) (akh : Nat) (ako : Nat) (akr : Nat) (tp : Nat) (fa : Nat) (n0 : Nat) (n1 : Nat) (n2 : Nat) (n3 : Nat) (qa0 : Nat) (qa1 : Nat) (qa2 : Nat) (qa3 : Nat) (qa4 : Nat) (qa5 : Nat) (qa6 : Nat) (qa7 : Nat) (qa8 : Nat) (qa9 : Nat) (qa10 : Nat) (fa0 : Nat → Int64) (fa1 : Nat → Int32) (fa2 : Nat → Int32) (fa3 : Nat → Int32) (fa4 : Nat → Int32) (fa5 : Nat → Int32) (fa6 : Nat → Int32) (fa7 : Nat → Int32) (fa8 : Nat → Int32) (fa9 : Nat → Int32) (fa10 : Nat → Int32) (qb0 : Nat) (qb1 : Nat) (qb2 : Nat) (qb3 : Nat) (qb4 : Nat) (qb5 : Nat) (qb6 : Nat) (qb7 : Nat) (qb8 : Nat) (qb9 : Nat) (qb10 : Nat) (fb0 : Nat → Int64) (fb1 : Nat → Int32) (fb2 : Nat → Int32) (fb3 : Nat → Int32) (fb4 : Nat → Int32) (fb5 : Nat → Int32) (fb6 : Nat → Int32) (fb7 : Nat → Int32) (fb8 : Nat → Int32) (fb9 : Nat → Int32) (fb10 : Nat → Int32) (z0 : Value) (z2 : Value) (z3 : Value) (z4 : Value) (z5 : Value) (h0_m : Nat) (f_m : Nat → Int32) (g_m : Nat → Int64) (m4_m : Value) (m5_m : Value) (m6_m : Value) (m7_m : Value) (ca_m : Nat) (wo_m : Nat) (m23_m : Value) (m24_m : Value) (m25_m : Value) (m26_m : Value) (m35_m : Value) (m36_m : Value) (m51_m : Value) (m52_m : Value) (m53_m : Value) (m57_m : Value) (m58_m : Value) (m62_m : Value) (a1 : Int32) (a2 : Int32) (a3 : Int32) (a4 : Int32) (a5 : Int32) (ha1 : xs (1 : Int32).toNatClampNeg = a1) (ha2 : xs (2 : Int32).toNatClampNeg = a2) (ha3 : xs (3 : Int32).toNatClampNeg = a3) (ha4 : xs (4 : Int32).toNatClampNeg = a4) (ha5 : xs (5 : Int32).toNatClampNeg = a5) {H : Heap} {locs : List Loc} {ls : Array Slot} (hx : p.tables.exec = Jvm.exec) (hb : c.code = code) (hr : meth.sig.returnType = ret) (hml : c.maxLocals = 4) (hown : s.vm.findClass RL = some m.cls) (hts : ∀ w ∈ TB, w.before #[Value.ref b] s = true) (hlocks : meth.locks = false) (hX : va_X b 6 xs s s.heap) (hbl : b < s.heap.size) (hbA : ¬ A b) (hA : ∀ q, s.heap.size ≤ q → A q) (hAf : ∀ q, A q → s.heap.size ≤ q) (hK : va_K G vwCl (zTY cA) s) (hE : zEX s) (hP : va_P G vwCl [(h0, .inr (11, [.int 0, .long 0, .long 1, .ref atr, .ref atx, .ref aho, .ref ath, .ref aru, .ref ahr, .ref arr_, .ref ase, .ref ali, .ref aac, .ref aga, .int 0, .ref akh, .ref ako, .ref akr])), (atx, .inr (8, [.ref tp, .int 0, .int 0, .int 0, .int 0, .int 0, .int 0, .int 0, .long 0, .int (-1), .int (-1)])), (ahr, .inr (3, [.ref atx, .ref fa, .ref n0, .ref n1, .ref n2, .ref n3, .int 0, .int 0, .int 0, .int 0])), (fa, .inr (2, [.int 0, .ref qa0, .ref qa1, .ref qa2, .ref qa3, .int 0, .ref qa4, .int 0, .int 0, .ref qa5, .ref qa6, .int 0, .ref qa7, .ref qa8, .ref qa9, .int 8, .int 0, .ref qa10])), (aho, .inr (2, [.int 0, .ref qb0, .ref qb1, .ref qb2, .ref qb3, .int 0, .ref qb4, .int 0, .int 0, .ref qb5, .ref qb6, .int 0, .ref qb7, .ref qb8, .ref qb9, .int 8, .int 0, .ref qb10])), (ath, .inr (9, [z0, .int (-1), z2, z3, z4, z5])), (qa0, .inl (cA 1, 3, .inr (.inl fa0))), (qa1, .inl (cA 0, 3, .inl fa1)), (qa2, .inl (cA 0, 3, .inl fa2)), (qa3, .inl (cA 0, 48, .inl fa3)), (qa4, .inl (cA 0, 30, .inl fa4)), (qa5, .inl (cA 0, 30, .inl fa5)), (qa6, .inl (cA 0, 3, .inl fa6)), (qa7, .inl (cA 0, 5, .inl fa7)), (qa8, .inl (cA 0, 5, .inl fa8)), (qa9, .inl (cA 0, 4, .inl fa9)), (qa10, .inl (cA 0, 12, .inl fa10)), (qb0, .inl (cA 1, 3, .inr (.inl fb0))), (qb1, .inl (cA 0, 3, .inl fb1)), (qb2, .inl (cA 0, 3, .inl fb2)), (qb3, .inl (cA 0, 48, .inl fb3)), (qb4, .inl (cA 0, 30, .inl fb4)), (qb5, .inl (cA 0, 30, .inl fb5)), (qb6, .inl (cA 0, 3, .inl fb6)), (qb7, .inl (cA 0, 5, .inl fb7)), (qb8, .inl (cA 0, 5, .inl fb8)), (qb9, .inl (cA 0, 4, .inl fb9)), (qb10, .inl (cA 0, 12, .inl fb10)), (h0_m, .inr (12, [.int 0, .int 0, .long 0, .long 1, m4_m, m5_m, m6_m, m7_m, .int 0, .int 0, .int (-1), .int (-1), .int 0, .int 0, .int 0, .int 0, .int 0, .int 0, .int 0, .long 0, .ref ca_m, .ref wo_m, .int 0, m23_m, m24_m, m25_m, m26_m, .int 0, .int 0, .int 0, .int 0, .int 0, .int 0, .long 0, .long 0, m35_m, m36_m, .int 0, .int 0, .int 0, .int 0, .int 0, .int 0, .int 0, .int 0, .int 0, .int 0, .int 0, .int 0, .int 0, .int 0, m51_m, m52_m, m53_m, .int 0, .int 0, .int 0, m57_m, m58_m, .int 0, .long 0, .long 0, m62_m, .int 0, .int 0])), (ca_m, .inl (cA 0, 1825, .inl f_m)), (wo_m, .inl (cA 1, 105, .inr (.inl g_m)))] H) (hD : va_D A [(h0, .inr (11, [.int 0, .long 0, .long 1, .ref atr, .ref atx, .ref aho, .ref ath, .ref aru, .ref ahr, .ref arr_, .ref ase, .ref ali, .ref aac, .ref aga, .int 0, .ref akh, .ref ako, .ref akr])), (atx, .inr (8, [.ref tp, .int 0, .int 0, .int 0, .int 0, .int 0, .int 0, .int 0, .long 0, .int (-1), .int (-1)])), (ahr, .inr (3, [.ref atx, .ref fa, .ref n0, .ref n1, .ref n2, .ref n3, .int 0, .int 0, .int 0, .int 0])), (fa, .inr (2, [.int 0, .ref qa0, .ref qa1, .ref qa2, .ref qa3, .int 0, .ref qa4, .int 0, .int 0, .ref qa5, .ref qa6, .int 0, .ref qa7, .ref qa8, .ref qa9, .int 8, .int 0, .ref qa10])), (aho, .inr (2, [.int 0, .ref qb0, .ref qb1, .ref qb2, .ref qb3, .int 0, .ref qb4, .int 0, .int 0, .ref qb5, .ref qb6, .int 0, .ref qb7, .ref qb8, .ref qb9, .int 8, .int 0, .ref qb10])), (ath, .inr (9, [z0, .int (-1), z2, z3, z4, z5])), (qa0, .inl (cA 1, 3, .inr (.inl fa0))), (qa1, .inl (cA 0, 3, .inl fa1)), (qa2, .inl (cA 0, 3, .inl fa2)), (qa3, .inl (cA 0, 48, .inl fa3)), (qa4, .inl (cA 0, 30, .inl fa4)), (qa5, .inl (cA 0, 30, .inl fa5)), (qa6, .inl (cA 0, 3, .inl fa6)), (qa7, .inl (cA 0, 5, .inl fa7)), (qa8, .inl (cA 0, 5, .inl fa8)), (qa9, .inl (cA 0, 4, .inl fa9)), (qa10, .inl (cA 0, 12, .inl fa10)), (qb0, .inl (cA 1, 3, .inr (.inl fb0))), (qb1, .inl (cA 0, 3, .inl fb1)), (qb2, .inl (cA 0, 3, .inl fb2)), (qb3, .inl (cA 0, 48, .inl fb3)), (qb4, .inl (cA 0, 30, .inl fb4)), (qb5, .inl (cA 0, 30, .inl fb5)), (qb6, .inl (cA 0, 3, .inl fb6)), (qb7, .inl (cA 0, 5, .inl fb7)), (qb8, .inl (cA 0, 5, .inl fb8)), (qb9, .inl (cA 0, 4, .inl fb9)), (qb10, .inl (cA 0, 12, .inl fb10)), (h0_m, .inr (12, [.int 0, .int 0, .long 0, .long 1, m4_m, m5_m, m6_m, m7_m, .int 0, .int 0, .int (-1), .int (-1), .int 0, .int 0, .int 0, .int 0, .int 0, .int 0, .int 0, .long 0, .ref ca_m, .ref wo_m, .int 0, m23_m, m24_m, m25_m, m26_m, .int 0, .int 0, .int 0, .int 0, .int 0, .int 0, .long 0, .long 0, m35_m, m36_m, .int 0, .int 0, .int 0, .int 0, .int 0, .int 0, .int 0, .int 0, .int 0, .int 0, .int 0, .int 0, .int 0, .int 0, m51_m, m52_m, m53_m, .int 0, .int 0, .int 0, m57_m, m58_m, .int 0, .long 0, .long 0, m62_m, .int 0, .int 0])), (ca_m, .inl (cA 0, 1825, .inl f_m)), (wo_m, .inl (cA 1, 105, .inr (.inl g_m)))]) (hS : va_S A s.heap H locs) (hl : lv_has ls 4 [(3, .int 0), (2, .ref h0_m), (1, .ref h0), (0, .ref b)]) : W p l e room_1 s m #[Value.ref b] below meth c H locs 166 7482 (lw_Z below #[Value.ref b] s) (F0 m 577 ls []) := by
  refine lv_aload_n hx hb dL_law_577 rfl (lv_at hl 2 rfl) ?_
  refine lv_aload_n hx hb dL_law_578 rfl (lv_at hl 3 rfl) ?_
  refine lv_iload_n hx hb dL_law_579 rfl (lv_at hl 0 rfl) ?_
  refine lv_iconst (v := 1) hx hb dL_law_580 (by decide) ?_
  refine lv_iadd hx hb dL_law_581 ?_
  refine z_topi (y := 1) (by decide +kernel) ?_
  refine va_sld hx hb hX hbl hbA hS (z_in (i := 1) (n := 6) (by decide +kernel) (by decide +kernel)) dL_law_582 ?_
  refine z_topi (y := a1) ha1 ?_
  refine z_callVi (As := [.int a1]) (rest := []) (wr := [(h0_m, .inr (12, [.int 0, .int 0, .long 0, .long 1, m4_m, m5_m, m6_m, m7_m, .int 0, .int 0, .int (-1), .int (-1), .int 0, .int 0, .int 0, .int 0, .int 0, .int 0, .int 0, .long 0, .ref ca_m, .ref wo_m, .int 0, m23_m, m24_m, m25_m, m26_m, .int 0, .int 0, .int 0, .int 0, .int 0, .int 0, .long 0, .long 0, m35_m, m36_m, .int 0, .int 0, .int 0, .int 0, .int 0, .int 0, .int 0, .int 0, .int 0, .int 0, .int 0, .int 0, .int 0, .int 0, m51_m, m52_m, m53_m, .int 0, .int 0, .int 0, m57_m, m58_m, .int 0, .long 0, .long 0, m62_m, .int 0, .int 0])), (ca_m, .inl (cA 0, 1825, .inl f_m)), (wo_m, .inl (cA 1, 105, .inr (.inl g_m)))]) ⟨hx, hb, hml, hown, hts⟩ hK hE hP hD hS hA (c_DR_house l G cA h0 atr atx aho ath aru ahr arr_ ase ali aac aga akh ako akr a1 tp fa n0 n1 n2 n3 qa0 qa1 qa2 qa3 qa4 qa5 qa6 qa7 qa8 qa9 qa10 fa0 fa1 fa2 fa3 fa4 fa5 fa6 fa7 fa8 fa9 fa10 qb0 qb1 qb2 qb3 qb4 qb5 qb6 qb7 qb8 qb9 qb10 fb0 fb1 fb2 fb3 fb4 fb5 fb6 fb7 fb8 fb9 fb10 z0 z2 z3 z4 z5) lk_RL_54 ⟨rfl, rfl⟩ ⟨Nat.le_of_ble_eq_true rfl, Nat.le_of_ble_eq_true rfl⟩ 11 rfl rfl rfl [0, 1, 2, 3, 4, 5, 6, 7, 8, 9, 10, 11, 12, 13, 14, 15, 16, 17, 18, 19, 20, 21, 22, 23, 24, 25, 26, 27] [28, 29, 30] rfl rfl (by decide) rfl hl.1 rfl (lv_room (Nat.le_of_ble_eq_true rfl)) dL_law_583 ⟨Nat.le_of_ble_eq_true rfl, Nat.le_of_ble_eq_true rfl⟩ (fun r_1 u_2 H locs hw hP hD hS => ?_)
  have hP : va_P G vwCl [(h0_m, .inr (12, [.int 0, .int 0, .long 0, .long 1, m4_m, m5_m, m6_m, m7_m, .int 0, .int 0, .int (-1), .int (-1), .int 0, .int 0, .int 0, .int 0, .int 0, .int 0, .int 0, .long 0, .ref ca_m, .ref wo_m, .int 0, m23_m, m24_m, m25_m, m26_m, .int 0, .int 0, .int 0, .int 0, .int 0, .int 0, .long 0, .long 0, m35_m, m36_m, .int 0, .int 0, .int 0, .int 0, .int 0, .int 0, .int 0, .int 0, .int 0, .int 0, .int 0, .int 0, .int 0, .int 0, m51_m, m52_m, m53_m, .int 0, .int 0, .int 0, m57_m, m58_m, .int 0, .long 0, .long 0, m62_m, .int 0, .int 0])), (ca_m, .inl (cA 0, 1825, .inl f_m)), (wo_m, .inl (cA 1, 105, .inr (.inl g_m)))] H := hP
  have hD : va_D A [(h0_m, .inr (12, [.int 0, .int 0, .long 0, .long 1, m4_m, m5_m, m6_m, m7_m, .int 0, .int 0, .int (-1), .int (-1), .int 0, .int 0, .int 0, .int 0, .int 0, .int 0, .int 0, .long 0, .ref ca_m, .ref wo_m, .int 0, m23_m, m24_m, m25_m, m26_m, .int 0, .int 0, .int 0, .int 0, .int 0, .int 0, .long 0, .long 0, m35_m, m36_m, .int 0, .int 0, .int 0, .int 0, .int 0, .int 0, .int 0, .int 0, .int 0, .int 0, .int 0, .int 0, .int 0, .int 0, m51_m, m52_m, m53_m, .int 0, .int 0, .int 0, m57_m, m58_m, .int 0, .long 0, .long 0, m62_m, .int 0, .int 0])), (ca_m, .inl (cA 0, 1825, .inl f_m)), (wo_m, .inl (cA 1, 105, .inr (.inl g_m)))] := hD
  rcases hw with ⟨rfl, hx_3⟩ | ⟨rfl, hx_3⟩
  · refine W.eq (g2 := F0 m 586 ls [.int 0]) rfl ?_
    refine lv_aload_n hx hb dL_law_586 rfl (lv_at hl 1 rfl) ?_
    refine lv_aload_n hx hb dL_law_587 rfl (lv_at hl 3 rfl) ?_
    refine lv_iload_n hx hb dL_law_588 rfl (lv_at hl 0 rfl) ?_
    refine lv_iconst (v := 1) hx hb dL_law_589 (by decide) ?_
    refine lv_iadd hx hb dL_law_590 ?_
    refine z_topi (y := 1) (by decide +kernel) ?_
    refine va_sld hx hb hX hbl hbA hS (z_in (i := 1) (n := 6) (by decide +kernel) (by decide +kernel)) dL_law_591 ?_
    refine z_topi (y := a1) ha1 ?_
    refine z_callVi (As := [.int a1]) (rest := [.int 0]) (wr := []) ⟨hx, hb, hml, hown, hts⟩ hK hE hP hD hS hA (c_M_house l G cA h0_m a1 f_m g_m m4_m m5_m m6_m m7_m ca_m wo_m m23_m m24_m m25_m m26_m m35_m m36_m m51_m m52_m m53_m m57_m m58_m m62_m) lk_RL_58 ⟨rfl, rfl⟩ ⟨Nat.le_of_ble_eq_true rfl, Nat.le_of_ble_eq_true rfl⟩ 12 rfl rfl rfl [0, 1, 2] [] rfl rfl (by decide) rfl hl.1 rfl (lv_room (Nat.le_of_ble_eq_true rfl)) dL_law_592 ⟨Nat.le_of_ble_eq_true rfl, Nat.le_of_ble_eq_true rfl⟩ (fun r_4 u_5 H locs hw hP hD hS => ?_)
    have hP : va_P G vwCl [] H := hP
    have hD : va_D A [] := hD
    rcases hw with ⟨rfl, hm_6⟩ | ⟨rfl, hm_6⟩
    · refine W.eq (g2 := F0 m 595 ls [.int 0, .int 0]) rfl ?_
      refine lv_icmp_eq (tgt := 2032) hx hb dL_law_595 (by decide) (fun _ => ?_) (fun h9 => absurd (by decide +kernel) h9)
      exact lw_exit l hx hb hr hlocks hX hbl hbA hAf (Nat.le_of_ble_eq_true rfl) (Nat.le_of_ble_eq_true rfl) hS (lv_sub hl [3, 0] rfl)
    · exact absurd hx_3 hm_6
  · refine W.eq (g2 := F0 m 586 ls [.int (-1)]) rfl ?_
    refine lv_aload_n hx hb dL_law_586 rfl (lv_at hl 1 rfl) ?_
    refine lv_aload_n hx hb dL_law_587 rfl (lv_at hl 3 rfl) ?_
    refine lv_iload_n hx hb dL_law_588 rfl (lv_at hl 0 rfl) ?_
    refine lv_iconst (v := 1) hx hb dL_law_589 (by decide) ?_
    refine lv_iadd hx hb dL_law_590 ?_
    refine z_topi (y := 1) (by decide +kernel) ?_
    refine va_sld hx hb hX hbl hbA hS (z_in (i := 1) (n := 6) (by decide +kernel) (by decide +kernel)) dL_law_591 ?_
    refine z_topi (y := a1) ha1 ?_
    refine z_callVi (As := [.int a1]) (rest := [.int (-1)]) (wr := []) ⟨hx, hb, hml, hown, hts⟩ hK hE hP hD hS hA (c_M_house l G cA h0_m a1 f_m g_m m4_m m5_m m6_m m7_m ca_m wo_m m23_m m24_m m25_m m26_m m35_m m36_m m51_m m52_m m53_m m57_m m58_m m62_m) lk_RL_58 ⟨rfl, rfl⟩ ⟨Nat.le_of_ble_eq_true rfl, Nat.le_of_ble_eq_true rfl⟩ 12 rfl rfl rfl [0, 1, 2] [] rfl rfl (by decide) rfl hl.1 rfl (lv_room (Nat.le_of_ble_eq_true rfl)) dL_law_592 ⟨Nat.le_of_ble_eq_true rfl, Nat.le_of_ble_eq_true rfl⟩ (fun r_7 u_8 H locs hw hP hD hS => ?_)
    have hP : va_P G vwCl [] H := hP
    have hD : va_D A [] := hD
    rcases hw with ⟨rfl, hm_9⟩ | ⟨rfl, hm_9⟩
    · exact absurd hm_9 hx_3
    · refine W.eq (g2 := F0 m 595 ls [.int (-1), .int (-1)]) rfl ?_
      refine lv_icmp_eq (tgt := 2032) hx hb dL_law_595 (by decide) (fun _ => ?_) (fun h9 => absurd (by decide +kernel) h9)
      exact lw_exit l hx hb hr hlocks hX hbl hbA hAf (Nat.le_of_ble_eq_true rfl) (Nat.le_of_ble_eq_true rfl) hS (lv_sub hl [3, 0] rfl)
set_option maxHeartbeats 4000000 in
set_option maxRecDepth 100000 in
theorem lw_case_9 {p : Program} {e : Env} {s : State} {m : MethodId} {below : List Frame} {meth : Method} {c : Code} (l : Launch) (G : va_G) (cA : Nat → ClassId) {b : Nat} {xs : Nat → Int32} {A : Nat → Prop} (h0 : Nat) (atr : Nat) (atx : Nat) (aho : Nat) (ath : Nat) (aru : Nat) (ahr : Nat) (arr_ : Nat) (ase : Nat) (ali : Nat) (aac : Nat) (aga : Nat) (akh : Nat) (ako : Nat) (akr : Nat) (tp : Nat) (ua : Nat) (bg : Nat) (ka0 : Nat) (ka1 : Nat) (ka2 : Nat) (ka3 : Nat) (ka4 : Nat) (kb0 : Nat) (kb1 : Nat) (kb2 : Nat) (kb3 : Nat) (kb4 : Nat) (ga0 : Nat → Int32) (ga1 : Nat → Int32) (ga2 : Nat → Int32) (ga3 : Nat → Int32) (ga4 : Nat → Int32) (gb0 : Nat → Int32) (gb1 : Nat → Int32) (gb2 : Nat → Int32) (gb3 : Nat → Int32) (gb4 : Nat → Int32) (h0_m : Nat) (f_m : Nat → Int32) (m4_m : Value) (m5_m : Value) (m6_m : Value) (m7_m : Value) (ca_m : Nat) (m21_m : Value) (m23_m : Value) (m24_m : Value) (m25_m : Value) (m26_m : Value) (m35_m : Value) (m36_m : Value) (m51_m : Value) (m52_m : Value) (m53_m : Value) (m57_m : Value) (m58_m : Value) (m62_m : Value) (a1 : Int32) (a2 : Int32) (a3 : Int32) (a4 : Int32) (a5 : Int32) (ha1 : xs (1 : Int32).toNatClampNeg = a1) (ha2 : xs (2 : Int32).toNatClampNeg = a2) (ha3 : xs (3 : Int32).toNatClampNeg = a3) (ha4 : xs (4 : Int32).toNatClampNeg = a4) (ha5 : xs (5 : Int32).toNatClampNeg = a5) {H : Heap} {locs : List Loc} {ls : Array Slot} (hx : p.tables.exec = Jvm.exec) (hb : c.code = code) (hr : meth.sig.returnType = ret) (hml : c.maxLocals = 4) (hown : s.vm.findClass RL = some m.cls) (hts : ∀ w ∈ TB, w.before #[Value.ref b] s = true) (hlocks : meth.locks = false) (hX : va_X b 6 xs s s.heap) (hbl : b < s.heap.size) (hbA : ¬ A b) (hA : ∀ q, s.heap.size ≤ q → A q) (hAf : ∀ q, A q → s.heap.size ≤ q) (hK : va_K G vwCl (zTY cA) s) (hE : zEX s) (hP : va_P G vwCl [(h0, .inr (11, [.int 0, .long 0, .long 1, .ref atr, .ref atx, .ref aho, .ref ath, .ref aru, .ref ahr, .ref arr_, .ref ase, .ref ali, .ref aac, .ref aga, .int 0, .ref akh, .ref ako, .ref akr])), (atx, .inr (8, [.ref tp, .int 0, .int 0, .int 0, .int 0, .int 0, .int 0, .int 0, .long 0, .int (-1), .int (-1)])), (arr_, .inr (6, [.ref atx, .ref aho, .ref ua, .ref bg, .int 0])), (ua, .inr (5, [.int 0, .int 0, .int 0, .ref ka0, .ref ka1, .ref ka2, .ref ka3, .ref ka4])), (aru, .inr (5, [.int 0, .int 0, .int 0, .ref kb0, .ref kb1, .ref kb2, .ref kb3, .ref kb4])), (ka0, .inl (cA 0, 60, .inl ga0)), (ka1, .inl (cA 0, 60, .inl ga1)), (ka2, .inl (cA 0, 60, .inl ga2)), (ka3, .inl (cA 0, 60, .inl ga3)), (ka4, .inl (cA 0, 60, .inl ga4)), (kb0, .inl (cA 0, 60, .inl gb0)), (kb1, .inl (cA 0, 60, .inl gb1)), (kb2, .inl (cA 0, 60, .inl gb2)), (kb3, .inl (cA 0, 60, .inl gb3)), (kb4, .inl (cA 0, 60, .inl gb4)), (h0_m, .inr (12, [.int 0, .int 0, .long 0, .long 1, m4_m, m5_m, m6_m, m7_m, .int 0, .int 0, .int (-1), .int (-1), .int 0, .int 0, .int 0, .int 0, .int 0, .int 0, .int 0, .long 0, .ref ca_m, m21_m, .int 0, m23_m, m24_m, m25_m, m26_m, .int 0, .int 0, .int 0, .int 0, .int 0, .int 0, .long 0, .long 0, m35_m, m36_m, .int 0, .int 0, .int 0, .int 0, .int 0, .int 0, .int 0, .int 0, .int 0, .int 0, .int 0, .int 0, .int 0, .int 0, m51_m, m52_m, m53_m, .int 0, .int 0, .int 0, m57_m, m58_m, .int 0, .long 0, .long 0, m62_m, .int 0, .int 0])), (ca_m, .inl (cA 0, 1825, .inl f_m))] H) (hD : va_D A [(h0, .inr (11, [.int 0, .long 0, .long 1, .ref atr, .ref atx, .ref aho, .ref ath, .ref aru, .ref ahr, .ref arr_, .ref ase, .ref ali, .ref aac, .ref aga, .int 0, .ref akh, .ref ako, .ref akr])), (atx, .inr (8, [.ref tp, .int 0, .int 0, .int 0, .int 0, .int 0, .int 0, .int 0, .long 0, .int (-1), .int (-1)])), (arr_, .inr (6, [.ref atx, .ref aho, .ref ua, .ref bg, .int 0])), (ua, .inr (5, [.int 0, .int 0, .int 0, .ref ka0, .ref ka1, .ref ka2, .ref ka3, .ref ka4])), (aru, .inr (5, [.int 0, .int 0, .int 0, .ref kb0, .ref kb1, .ref kb2, .ref kb3, .ref kb4])), (ka0, .inl (cA 0, 60, .inl ga0)), (ka1, .inl (cA 0, 60, .inl ga1)), (ka2, .inl (cA 0, 60, .inl ga2)), (ka3, .inl (cA 0, 60, .inl ga3)), (ka4, .inl (cA 0, 60, .inl ga4)), (kb0, .inl (cA 0, 60, .inl gb0)), (kb1, .inl (cA 0, 60, .inl gb1)), (kb2, .inl (cA 0, 60, .inl gb2)), (kb3, .inl (cA 0, 60, .inl gb3)), (kb4, .inl (cA 0, 60, .inl gb4)), (h0_m, .inr (12, [.int 0, .int 0, .long 0, .long 1, m4_m, m5_m, m6_m, m7_m, .int 0, .int 0, .int (-1), .int (-1), .int 0, .int 0, .int 0, .int 0, .int 0, .int 0, .int 0, .long 0, .ref ca_m, m21_m, .int 0, m23_m, m24_m, m25_m, m26_m, .int 0, .int 0, .int 0, .int 0, .int 0, .int 0, .long 0, .long 0, m35_m, m36_m, .int 0, .int 0, .int 0, .int 0, .int 0, .int 0, .int 0, .int 0, .int 0, .int 0, .int 0, .int 0, .int 0, .int 0, m51_m, m52_m, m53_m, .int 0, .int 0, .int 0, m57_m, m58_m, .int 0, .long 0, .long 0, m62_m, .int 0, .int 0])), (ca_m, .inl (cA 0, 1825, .inl f_m))]) (hS : va_S A s.heap H locs) (hl : lv_has ls 4 [(3, .int 0), (2, .ref h0_m), (1, .ref h0), (0, .ref b)]) : W p l e room_1 s m #[Value.ref b] below meth c H locs 166 7482 (lw_Z below #[Value.ref b] s) (F0 m 600 ls []) := by
  refine lv_aload_n hx hb dL_law_600 rfl (lv_at hl 2 rfl) ?_
  refine lv_aload_n hx hb dL_law_601 rfl (lv_at hl 3 rfl) ?_
  refine lv_iload_n hx hb dL_law_602 rfl (lv_at hl 0 rfl) ?_
  refine lv_iconst (v := 1) hx hb dL_law_603 (by decide) ?_
  refine lv_iadd hx hb dL_law_604 ?_
  refine z_topi (y := 1) (by decide +kernel) ?_
  refine va_sld hx hb hX hbl hbA hS (z_in (i := 1) (n := 6) (by decide +kernel) (by decide +kernel)) dL_law_605 ?_
  refine z_topi (y := a1) ha1 ?_
  refine z_callVi (As := [.int a1]) (rest := []) (wr := [(h0_m, .inr (12, [.int 0, .int 0, .long 0, .long 1, m4_m, m5_m, m6_m, m7_m, .int 0, .int 0, .int (-1), .int (-1), .int 0, .int 0, .int 0, .int 0, .int 0, .int 0, .int 0, .long 0, .ref ca_m, m21_m, .int 0, m23_m, m24_m, m25_m, m26_m, .int 0, .int 0, .int 0, .int 0, .int 0, .int 0, .long 0, .long 0, m35_m, m36_m, .int 0, .int 0, .int 0, .int 0, .int 0, .int 0, .int 0, .int 0, .int 0, .int 0, .int 0, .int 0, .int 0, .int 0, m51_m, m52_m, m53_m, .int 0, .int 0, .int 0, m57_m, m58_m, .int 0, .long 0, .long 0, m62_m, .int 0, .int 0])), (ca_m, .inl (cA 0, 1825, .inl f_m))]) ⟨hx, hb, hml, hown, hts⟩ hK hE hP hD hS hA (c_DR_rule l G cA h0 atr atx aho ath aru ahr arr_ ase ali aac aga akh ako akr a1 tp ua bg ka0 ka1 ka2 ka3 ka4 kb0 kb1 kb2 kb3 kb4 ga0 ga1 ga2 ga3 ga4 gb0 gb1 gb2 gb3 gb4) lk_RL_59 ⟨rfl, rfl⟩ ⟨Nat.le_of_ble_eq_true rfl, Nat.le_of_ble_eq_true rfl⟩ 11 rfl rfl rfl [0, 1, 2, 3, 4, 5, 6, 7, 8, 9, 10, 11, 12, 13, 14] [15, 16] rfl rfl (by decide) rfl hl.1 rfl (lv_room (Nat.le_of_ble_eq_true rfl)) dL_law_606 ⟨Nat.le_of_ble_eq_true rfl, Nat.le_of_ble_eq_true rfl⟩ (fun r_1 u_2 H locs hw hP hD hS => ?_)
  have hP : va_P G vwCl [(h0_m, .inr (12, [.int 0, .int 0, .long 0, .long 1, m4_m, m5_m, m6_m, m7_m, .int 0, .int 0, .int (-1), .int (-1), .int 0, .int 0, .int 0, .int 0, .int 0, .int 0, .int 0, .long 0, .ref ca_m, m21_m, .int 0, m23_m, m24_m, m25_m, m26_m, .int 0, .int 0, .int 0, .int 0, .int 0, .int 0, .long 0, .long 0, m35_m, m36_m, .int 0, .int 0, .int 0, .int 0, .int 0, .int 0, .int 0, .int 0, .int 0, .int 0, .int 0, .int 0, .int 0, .int 0, m51_m, m52_m, m53_m, .int 0, .int 0, .int 0, m57_m, m58_m, .int 0, .long 0, .long 0, m62_m, .int 0, .int 0])), (ca_m, .inl (cA 0, 1825, .inl f_m))] H := hP
  have hD : va_D A [(h0_m, .inr (12, [.int 0, .int 0, .long 0, .long 1, m4_m, m5_m, m6_m, m7_m, .int 0, .int 0, .int (-1), .int (-1), .int 0, .int 0, .int 0, .int 0, .int 0, .int 0, .int 0, .long 0, .ref ca_m, m21_m, .int 0, m23_m, m24_m, m25_m, m26_m, .int 0, .int 0, .int 0, .int 0, .int 0, .int 0, .long 0, .long 0, m35_m, m36_m, .int 0, .int 0, .int 0, .int 0, .int 0, .int 0, .int 0, .int 0, .int 0, .int 0, .int 0, .int 0, .int 0, .int 0, m51_m, m52_m, m53_m, .int 0, .int 0, .int 0, m57_m, m58_m, .int 0, .long 0, .long 0, m62_m, .int 0, .int 0])), (ca_m, .inl (cA 0, 1825, .inl f_m))] := hD
  rcases hw with ⟨rfl, hx_3⟩ | ⟨rfl, hx_3⟩
  · refine W.eq (g2 := F0 m 609 ls [.int 0]) rfl ?_
    refine lv_aload_n hx hb dL_law_609 rfl (lv_at hl 1 rfl) ?_
    refine lv_aload_n hx hb dL_law_610 rfl (lv_at hl 3 rfl) ?_
    refine lv_iload_n hx hb dL_law_611 rfl (lv_at hl 0 rfl) ?_
    refine lv_iconst (v := 1) hx hb dL_law_612 (by decide) ?_
    refine lv_iadd hx hb dL_law_613 ?_
    refine z_topi (y := 1) (by decide +kernel) ?_
    refine va_sld hx hb hX hbl hbA hS (z_in (i := 1) (n := 6) (by decide +kernel) (by decide +kernel)) dL_law_614 ?_
    refine z_topi (y := a1) ha1 ?_
    refine z_callVi (As := [.int a1]) (rest := [.int 0]) (wr := []) ⟨hx, hb, hml, hown, hts⟩ hK hE hP hD hS hA (c_M_rule l G cA h0_m a1 f_m m4_m m5_m m6_m m7_m ca_m m21_m m23_m m24_m m25_m m26_m m35_m m36_m m51_m m52_m m53_m m57_m m58_m m62_m) lk_RL_62 ⟨rfl, rfl⟩ ⟨Nat.le_of_ble_eq_true rfl, Nat.le_of_ble_eq_true rfl⟩ 12 rfl rfl rfl [0, 1] [] rfl rfl (by decide) rfl hl.1 rfl (lv_room (Nat.le_of_ble_eq_true rfl)) dL_law_615 ⟨Nat.le_of_ble_eq_true rfl, Nat.le_of_ble_eq_true rfl⟩ (fun r_4 u_5 H locs hw hP hD hS => ?_)
    have hP : va_P G vwCl [] H := hP
    have hD : va_D A [] := hD
    rcases hw with ⟨rfl, hm_6⟩ | ⟨rfl, hm_6⟩
    · refine W.eq (g2 := F0 m 618 ls [.int 0, .int 0]) rfl ?_
      refine lv_icmp_eq (tgt := 2032) hx hb dL_law_618 (by decide) (fun _ => ?_) (fun h9 => absurd (by decide +kernel) h9)
      exact lw_exit l hx hb hr hlocks hX hbl hbA hAf (Nat.le_of_ble_eq_true rfl) (Nat.le_of_ble_eq_true rfl) hS (lv_sub hl [3, 0] rfl)
    · exact absurd hx_3 hm_6
  · refine W.eq (g2 := F0 m 609 ls [.int (-1)]) rfl ?_
    refine lv_aload_n hx hb dL_law_609 rfl (lv_at hl 1 rfl) ?_
    refine lv_aload_n hx hb dL_law_610 rfl (lv_at hl 3 rfl) ?_
    refine lv_iload_n hx hb dL_law_611 rfl (lv_at hl 0 rfl) ?_
    refine lv_iconst (v := 1) hx hb dL_law_612 (by decide) ?_
    refine lv_iadd hx hb dL_law_613 ?_
    refine z_topi (y := 1) (by decide +kernel) ?_
    refine va_sld hx hb hX hbl hbA hS (z_in (i := 1) (n := 6) (by decide +kernel) (by decide +kernel)) dL_law_614 ?_
    refine z_topi (y := a1) ha1 ?_
    refine z_callVi (As := [.int a1]) (rest := [.int (-1)]) (wr := []) ⟨hx, hb, hml, hown, hts⟩ hK hE hP hD hS hA (c_M_rule l G cA h0_m a1 f_m m4_m m5_m m6_m m7_m ca_m m21_m m23_m m24_m m25_m m26_m m35_m m36_m m51_m m52_m m53_m m57_m m58_m m62_m) lk_RL_62 ⟨rfl, rfl⟩ ⟨Nat.le_of_ble_eq_true rfl, Nat.le_of_ble_eq_true rfl⟩ 12 rfl rfl rfl [0, 1] [] rfl rfl (by decide) rfl hl.1 rfl (lv_room (Nat.le_of_ble_eq_true rfl)) dL_law_615 ⟨Nat.le_of_ble_eq_true rfl, Nat.le_of_ble_eq_true rfl⟩ (fun r_7 u_8 H locs hw hP hD hS => ?_)
    have hP : va_P G vwCl [] H := hP
    have hD : va_D A [] := hD
    rcases hw with ⟨rfl, hm_9⟩ | ⟨rfl, hm_9⟩
    · exact absurd hm_9 hx_3
    · refine W.eq (g2 := F0 m 618 ls [.int (-1), .int (-1)]) rfl ?_
      refine lv_icmp_eq (tgt := 2032) hx hb dL_law_618 (by decide) (fun _ => ?_) (fun h9 => absurd (by decide +kernel) h9)
      exact lw_exit l hx hb hr hlocks hX hbl hbA hAf (Nat.le_of_ble_eq_true rfl) (Nat.le_of_ble_eq_true rfl) hS (lv_sub hl [3, 0] rfl)
set_option maxHeartbeats 4000000 in
set_option maxRecDepth 100000 in
theorem lw_case_10 {p : Program} {e : Env} {s : State} {m : MethodId} {below : List Frame} {meth : Method} {c : Code} (l : Launch) (G : va_G) (cA : Nat → ClassId) {b : Nat} {xs : Nat → Int32} {A : Nat → Prop} (h0 : Nat) (atr : Nat) (atx : Nat) (aho : Nat) (ath : Nat) (aru : Nat) (ahr : Nat) (arr_ : Nat) (ase : Nat) (ali : Nat) (aac : Nat) (aga : Nat) (akh : Nat) (ako : Nat) (akr : Nat) (tp : Nat) (h0_m : Nat) (m4_m : Value) (m5_m : Value) (m6_m : Value) (m7_m : Value) (m20_m : Value) (m21_m : Value) (m23_m : Value) (m24_m : Value) (m25_m : Value) (m26_m : Value) (m35_m : Value) (m36_m : Value) (m51_m : Value) (m52_m : Value) (m53_m : Value) (m57_m : Value) (m58_m : Value) (m62_m : Value) (a1 : Int32) (a2 : Int32) (a3 : Int32) (a4 : Int32) (a5 : Int32) (ha1 : xs (1 : Int32).toNatClampNeg = a1) (ha2 : xs (2 : Int32).toNatClampNeg = a2) (ha3 : xs (3 : Int32).toNatClampNeg = a3) (ha4 : xs (4 : Int32).toNatClampNeg = a4) (ha5 : xs (5 : Int32).toNatClampNeg = a5) {H : Heap} {locs : List Loc} {ls : Array Slot} (hx : p.tables.exec = Jvm.exec) (hb : c.code = code) (hr : meth.sig.returnType = ret) (hml : c.maxLocals = 4) (hown : s.vm.findClass RL = some m.cls) (hts : ∀ w ∈ TB, w.before #[Value.ref b] s = true) (hlocks : meth.locks = false) (hX : va_X b 6 xs s s.heap) (hbl : b < s.heap.size) (hbA : ¬ A b) (hA : ∀ q, s.heap.size ≤ q → A q) (hAf : ∀ q, A q → s.heap.size ≤ q) (hK : va_K G vwCl (zTY cA) s) (hE : zEX s) (hP : va_P G vwCl [(h0, .inr (11, [.int 0, .long 0, .long 1, .ref atr, .ref atx, .ref aho, .ref ath, .ref aru, .ref ahr, .ref arr_, .ref ase, .ref ali, .ref aac, .ref aga, .int 0, .ref akh, .ref ako, .ref akr])), (atx, .inr (8, [.ref tp, .int 0, .int 0, .int 0, .int 0, .int 0, .int 0, .int 0, .long 0, .int (-1), .int (-1)])), (h0_m, .inr (12, [.int 0, .int 0, .long 0, .long 1, m4_m, m5_m, m6_m, m7_m, .int 0, .int 0, .int (-1), .int (-1), .int 0, .int 0, .int 0, .int 0, .int 0, .int 0, .int 0, .long 0, m20_m, m21_m, .int 0, m23_m, m24_m, m25_m, m26_m, .int 0, .int 0, .int 0, .int 0, .int 0, .int 0, .long 0, .long 0, m35_m, m36_m, .int 0, .int 0, .int 0, .int 0, .int 0, .int 0, .int 0, .int 0, .int 0, .int 0, .int 0, .int 0, .int 0, .int 0, m51_m, m52_m, m53_m, .int 0, .int 0, .int 0, m57_m, m58_m, .int 0, .long 0, .long 0, m62_m, .int 0, .int 0]))] H) (hD : va_D A [(h0, .inr (11, [.int 0, .long 0, .long 1, .ref atr, .ref atx, .ref aho, .ref ath, .ref aru, .ref ahr, .ref arr_, .ref ase, .ref ali, .ref aac, .ref aga, .int 0, .ref akh, .ref ako, .ref akr])), (atx, .inr (8, [.ref tp, .int 0, .int 0, .int 0, .int 0, .int 0, .int 0, .int 0, .long 0, .int (-1), .int (-1)])), (h0_m, .inr (12, [.int 0, .int 0, .long 0, .long 1, m4_m, m5_m, m6_m, m7_m, .int 0, .int 0, .int (-1), .int (-1), .int 0, .int 0, .int 0, .int 0, .int 0, .int 0, .int 0, .long 0, m20_m, m21_m, .int 0, m23_m, m24_m, m25_m, m26_m, .int 0, .int 0, .int 0, .int 0, .int 0, .int 0, .long 0, .long 0, m35_m, m36_m, .int 0, .int 0, .int 0, .int 0, .int 0, .int 0, .int 0, .int 0, .int 0, .int 0, .int 0, .int 0, .int 0, .int 0, m51_m, m52_m, m53_m, .int 0, .int 0, .int 0, m57_m, m58_m, .int 0, .long 0, .long 0, m62_m, .int 0, .int 0]))]) (hS : va_S A s.heap H locs) (hl : lv_has ls 4 [(3, .int 0), (2, .ref h0_m), (1, .ref h0), (0, .ref b)]) : W p l e room_1 s m #[Value.ref b] below meth c H locs 166 7482 (lw_Z below #[Value.ref b] s) (F0 m 623 ls []) := by
  refine lv_aload_n hx hb dL_law_623 rfl (lv_at hl 2 rfl) ?_
  refine lv_aload_n hx hb dL_law_624 rfl (lv_at hl 3 rfl) ?_
  refine lv_iload_n hx hb dL_law_625 rfl (lv_at hl 0 rfl) ?_
  refine lv_iconst (v := 1) hx hb dL_law_626 (by decide) ?_
  refine lv_iadd hx hb dL_law_627 ?_
  refine z_topi (y := 1) (by decide +kernel) ?_
  refine va_sld hx hb hX hbl hbA hS (z_in (i := 1) (n := 6) (by decide +kernel) (by decide +kernel)) dL_law_628 ?_
  refine z_topi (y := a1) ha1 ?_
  refine z_callVi (As := [.int a1]) (rest := []) (wr := [(h0_m, .inr (12, [.int 0, .int 0, .long 0, .long 1, m4_m, m5_m, m6_m, m7_m, .int 0, .int 0, .int (-1), .int (-1), .int 0, .int 0, .int 0, .int 0, .int 0, .int 0, .int 0, .long 0, m20_m, m21_m, .int 0, m23_m, m24_m, m25_m, m26_m, .int 0, .int 0, .int 0, .int 0, .int 0, .int 0, .long 0, .long 0, m35_m, m36_m, .int 0, .int 0, .int 0, .int 0, .int 0, .int 0, .int 0, .int 0, .int 0, .int 0, .int 0, .int 0, .int 0, .int 0, m51_m, m52_m, m53_m, .int 0, .int 0, .int 0, m57_m, m58_m, .int 0, .long 0, .long 0, m62_m, .int 0, .int 0]))]) ⟨hx, hb, hml, hown, hts⟩ hK hE hP hD hS hA (c_DR_fault l G cA h0 atr atx aho ath aru ahr arr_ ase ali aac aga akh ako akr a1 tp) lk_RL_63 ⟨rfl, rfl⟩ ⟨Nat.le_of_ble_eq_true rfl, Nat.le_of_ble_eq_true rfl⟩ 11 rfl rfl rfl [0, 1] [2] rfl rfl (by decide) rfl hl.1 rfl (lv_room (Nat.le_of_ble_eq_true rfl)) dL_law_629 ⟨Nat.le_of_ble_eq_true rfl, Nat.le_of_ble_eq_true rfl⟩ (fun r_1 u_2 H locs hw hP hD hS => ?_)
  have hP : va_P G vwCl [(h0_m, .inr (12, [.int 0, .int 0, .long 0, .long 1, m4_m, m5_m, m6_m, m7_m, .int 0, .int 0, .int (-1), .int (-1), .int 0, .int 0, .int 0, .int 0, .int 0, .int 0, .int 0, .long 0, m20_m, m21_m, .int 0, m23_m, m24_m, m25_m, m26_m, .int 0, .int 0, .int 0, .int 0, .int 0, .int 0, .long 0, .long 0, m35_m, m36_m, .int 0, .int 0, .int 0, .int 0, .int 0, .int 0, .int 0, .int 0, .int 0, .int 0, .int 0, .int 0, .int 0, .int 0, m51_m, m52_m, m53_m, .int 0, .int 0, .int 0, m57_m, m58_m, .int 0, .long 0, .long 0, m62_m, .int 0, .int 0]))] H := hP
  have hD : va_D A [(h0_m, .inr (12, [.int 0, .int 0, .long 0, .long 1, m4_m, m5_m, m6_m, m7_m, .int 0, .int 0, .int (-1), .int (-1), .int 0, .int 0, .int 0, .int 0, .int 0, .int 0, .int 0, .long 0, m20_m, m21_m, .int 0, m23_m, m24_m, m25_m, m26_m, .int 0, .int 0, .int 0, .int 0, .int 0, .int 0, .long 0, .long 0, m35_m, m36_m, .int 0, .int 0, .int 0, .int 0, .int 0, .int 0, .int 0, .int 0, .int 0, .int 0, .int 0, .int 0, .int 0, .int 0, m51_m, m52_m, m53_m, .int 0, .int 0, .int 0, m57_m, m58_m, .int 0, .long 0, .long 0, m62_m, .int 0, .int 0]))] := hD
  obtain rfl : r_1 = (-1) := hw
  refine lv_aload_n hx hb dL_law_632 rfl (lv_at hl 1 rfl) ?_
  refine lv_aload_n hx hb dL_law_633 rfl (lv_at hl 3 rfl) ?_
  refine lv_iload_n hx hb dL_law_634 rfl (lv_at hl 0 rfl) ?_
  refine lv_iconst (v := 1) hx hb dL_law_635 (by decide) ?_
  refine lv_iadd hx hb dL_law_636 ?_
  refine z_topi (y := 1) (by decide +kernel) ?_
  refine va_sld hx hb hX hbl hbA hS (z_in (i := 1) (n := 6) (by decide +kernel) (by decide +kernel)) dL_law_637 ?_
  refine z_topi (y := a1) ha1 ?_
  refine z_callVi (As := [.int a1]) (rest := [.int (-1)]) (wr := []) ⟨hx, hb, hml, hown, hts⟩ hK hE hP hD hS hA (c_M_fault l G cA h0_m a1 m4_m m5_m m6_m m7_m m20_m m21_m m23_m m24_m m25_m m26_m m35_m m36_m m51_m m52_m m53_m m57_m m58_m m62_m) lk_RL_66 ⟨rfl, rfl⟩ ⟨Nat.le_of_ble_eq_true rfl, Nat.le_of_ble_eq_true rfl⟩ 12 rfl rfl rfl [0] [] rfl rfl (by decide) rfl hl.1 rfl (lv_room (Nat.le_of_ble_eq_true rfl)) dL_law_638 ⟨Nat.le_of_ble_eq_true rfl, Nat.le_of_ble_eq_true rfl⟩ (fun r_3 u_4 H locs hw hP hD hS => ?_)
  have hP : va_P G vwCl [] H := hP
  have hD : va_D A [] := hD
  obtain rfl : r_3 = (-1) := hw
  refine lv_icmp_eq (tgt := 2032) hx hb dL_law_641 (by decide) (fun _ => ?_) (fun h9 => absurd (by decide +kernel) h9)
  exact lw_exit l hx hb hr hlocks hX hbl hbA hAf (Nat.le_of_ble_eq_true rfl) (Nat.le_of_ble_eq_true rfl) hS (lv_sub hl [3, 0] rfl)
set_option maxHeartbeats 4000000 in
set_option maxRecDepth 100000 in
theorem lw_case_11 {p : Program} {e : Env} {s : State} {m : MethodId} {below : List Frame} {meth : Method} {c : Code} (l : Launch) (G : va_G) (cA : Nat → ClassId) {b : Nat} {xs : Nat → Int32} {A : Nat → Prop} (h0 : Nat) (atr : Nat) (atx : Nat) (aho : Nat) (ath : Nat) (aru : Nat) (ahr : Nat) (arr_ : Nat) (ase : Nat) (ali : Nat) (aac : Nat) (aga : Nat) (akh : Nat) (ako : Nat) (akr : Nat) (sa : Nat) (sf : Nat → Int32) (f1 : Value) (f2 : Value) (f3 : Value) (f4 : Value) (f6 : Value) (f9 : Value) (f10 : Value) (f12 : Value) (f13 : Value) (f17 : Value) (z0 : Value) (z2 : Value) (z3 : Value) (z4 : Value) (z5 : Value) (h0_m : Nat) (cf_m : Nat → Int32) (m4_m : Value) (m5_m : Value) (m6_m : Value) (m7_m : Value) (ca_m : Nat) (m21_m : Value) (m23_m : Value) (m24_m : Value) (m25_m : Value) (m26_m : Value) (m35_m : Value) (m36_m : Value) (m51_m : Value) (m52_m : Value) (m53_m : Value) (m57_m : Value) (m58_m : Value) (m62_m : Value) (a1 : Int32) (a2 : Int32) (a3 : Int32) (a4 : Int32) (a5 : Int32) (ha1 : xs (1 : Int32).toNatClampNeg = a1) (ha2 : xs (2 : Int32).toNatClampNeg = a2) (ha3 : xs (3 : Int32).toNatClampNeg = a3) (ha4 : xs (4 : Int32).toNatClampNeg = a4) (ha5 : xs (5 : Int32).toNatClampNeg = a5) (hs : zSec sf) (hc_m : zFr cf_m) {H : Heap} {locs : List Loc} {ls : Array Slot} (hx : p.tables.exec = Jvm.exec) (hb : c.code = code) (hr : meth.sig.returnType = ret) (hml : c.maxLocals = 4) (hown : s.vm.findClass RL = some m.cls) (hts : ∀ w ∈ TB, w.before #[Value.ref b] s = true) (hlocks : meth.locks = false) (hX : va_X b 6 xs s s.heap) (hbl : b < s.heap.size) (hbA : ¬ A b) (hA : ∀ q, s.heap.size ≤ q → A q) (hAf : ∀ q, A q → s.heap.size ≤ q) (hK : va_K G vwCl (zTY cA) s) (hE : zEX s) (hP : va_P G vwCl [(h0, .inr (11, [.int 0, .long 0, .long 1, .ref atr, .ref atx, .ref aho, .ref ath, .ref aru, .ref ahr, .ref arr_, .ref ase, .ref ali, .ref aac, .ref aga, .int 0, .ref akh, .ref ako, .ref akr])), (aho, .inr (2, [.int 0, f1, f2, f3, f4, .int 0, f6, .int 0, .int 0, f9, f10, .int 0, f12, f13, .ref sa, .int 8, .int 0, f17])), (sa, .inl (cA 0, 4, .inl sf)), (ath, .inr (9, [z0, .int (-1), z2, z3, z4, z5])), (h0_m, .inr (12, [.int 0, .int 0, .long 0, .long 1, m4_m, m5_m, m6_m, m7_m, .int 0, .int 0, .int (-1), .int (-1), .int 0, .int 0, .int 0, .int 0, .int 0, .int 0, .int 0, .long 0, .ref ca_m, m21_m, .int 0, m23_m, m24_m, m25_m, m26_m, .int 0, .int 0, .int 0, .int 0, .int 0, .int 0, .long 0, .long 0, m35_m, m36_m, .int 0, .int 0, .int 0, .int 0, .int 0, .int 0, .int 0, .int 0, .int 0, .int 0, .int 0, .int 0, .int 0, .int 0, m51_m, m52_m, m53_m, .int 0, .int 0, .int 0, m57_m, m58_m, .int 0, .long 0, .long 0, m62_m, .int 0, .int 0])), (ca_m, .inl (cA 0, 1825, .inl cf_m))] H) (hD : va_D A [(h0, .inr (11, [.int 0, .long 0, .long 1, .ref atr, .ref atx, .ref aho, .ref ath, .ref aru, .ref ahr, .ref arr_, .ref ase, .ref ali, .ref aac, .ref aga, .int 0, .ref akh, .ref ako, .ref akr])), (aho, .inr (2, [.int 0, f1, f2, f3, f4, .int 0, f6, .int 0, .int 0, f9, f10, .int 0, f12, f13, .ref sa, .int 8, .int 0, f17])), (sa, .inl (cA 0, 4, .inl sf)), (ath, .inr (9, [z0, .int (-1), z2, z3, z4, z5])), (h0_m, .inr (12, [.int 0, .int 0, .long 0, .long 1, m4_m, m5_m, m6_m, m7_m, .int 0, .int 0, .int (-1), .int (-1), .int 0, .int 0, .int 0, .int 0, .int 0, .int 0, .int 0, .long 0, .ref ca_m, m21_m, .int 0, m23_m, m24_m, m25_m, m26_m, .int 0, .int 0, .int 0, .int 0, .int 0, .int 0, .long 0, .long 0, m35_m, m36_m, .int 0, .int 0, .int 0, .int 0, .int 0, .int 0, .int 0, .int 0, .int 0, .int 0, .int 0, .int 0, .int 0, .int 0, m51_m, m52_m, m53_m, .int 0, .int 0, .int 0, m57_m, m58_m, .int 0, .long 0, .long 0, m62_m, .int 0, .int 0])), (ca_m, .inl (cA 0, 1825, .inl cf_m))]) (hS : va_S A s.heap H locs) (hl : lv_has ls 4 [(3, .int 0), (2, .ref h0_m), (1, .ref h0), (0, .ref b)]) : W p l e room_1 s m #[Value.ref b] below meth c H locs 166 7482 (lw_Z below #[Value.ref b] s) (F0 m 646 ls []) := by
  refine lv_aload_n hx hb dL_law_646 rfl (lv_at hl 2 rfl) ?_
  refine lv_aload_n hx hb dL_law_647 rfl (lv_at hl 3 rfl) ?_
  refine lv_iload_n hx hb dL_law_648 rfl (lv_at hl 0 rfl) ?_
  refine lv_iconst (v := 1) hx hb dL_law_649 (by decide) ?_
  refine lv_iadd hx hb dL_law_650 ?_
  refine z_topi (y := 1) (by decide +kernel) ?_
  refine va_sld hx hb hX hbl hbA hS (z_in (i := 1) (n := 6) (by decide +kernel) (by decide +kernel)) dL_law_651 ?_
  refine z_topi (y := a1) ha1 ?_
  refine z_callVi (As := [.int a1]) (rest := []) (wr := [(h0_m, .inr (12, [.int 0, .int 0, .long 0, .long 1, m4_m, m5_m, m6_m, m7_m, .int 0, .int 0, .int (-1), .int (-1), .int 0, .int 0, .int 0, .int 0, .int 0, .int 0, .int 0, .long 0, .ref ca_m, m21_m, .int 0, m23_m, m24_m, m25_m, m26_m, .int 0, .int 0, .int 0, .int 0, .int 0, .int 0, .long 0, .long 0, m35_m, m36_m, .int 0, .int 0, .int 0, .int 0, .int 0, .int 0, .int 0, .int 0, .int 0, .int 0, .int 0, .int 0, .int 0, .int 0, m51_m, m52_m, m53_m, .int 0, .int 0, .int 0, m57_m, m58_m, .int 0, .long 0, .long 0, m62_m, .int 0, .int 0])), (ca_m, .inl (cA 0, 1825, .inl cf_m))]) ⟨hx, hb, hml, hown, hts⟩ hK hE hP hD hS hA (c_DR_many l G cA h0 atr atx aho ath aru ahr arr_ ase ali aac aga akh ako akr a1 sa sf f1 f2 f3 f4 f6 f9 f10 f12 f13 f17 z0 z2 z3 z4 z5 hs) lk_RL_67 ⟨rfl, rfl⟩ ⟨Nat.le_of_ble_eq_true rfl, Nat.le_of_ble_eq_true rfl⟩ 11 rfl rfl rfl [0, 1, 2, 3] [4, 5] rfl rfl (by decide) rfl hl.1 rfl (lv_room (Nat.le_of_ble_eq_true rfl)) dL_law_652 ⟨Nat.le_of_ble_eq_true rfl, Nat.le_of_ble_eq_true rfl⟩ (fun r_1 u_2 H locs hw hP hD hS => ?_)
  have hP : va_P G vwCl [(h0_m, .inr (12, [.int 0, .int 0, .long 0, .long 1, m4_m, m5_m, m6_m, m7_m, .int 0, .int 0, .int (-1), .int (-1), .int 0, .int 0, .int 0, .int 0, .int 0, .int 0, .int 0, .long 0, .ref ca_m, m21_m, .int 0, m23_m, m24_m, m25_m, m26_m, .int 0, .int 0, .int 0, .int 0, .int 0, .int 0, .long 0, .long 0, m35_m, m36_m, .int 0, .int 0, .int 0, .int 0, .int 0, .int 0, .int 0, .int 0, .int 0, .int 0, .int 0, .int 0, .int 0, .int 0, m51_m, m52_m, m53_m, .int 0, .int 0, .int 0, m57_m, m58_m, .int 0, .long 0, .long 0, m62_m, .int 0, .int 0])), (ca_m, .inl (cA 0, 1825, .inl cf_m))] H := hP
  have hD : va_D A [(h0_m, .inr (12, [.int 0, .int 0, .long 0, .long 1, m4_m, m5_m, m6_m, m7_m, .int 0, .int 0, .int (-1), .int (-1), .int 0, .int 0, .int 0, .int 0, .int 0, .int 0, .int 0, .long 0, .ref ca_m, m21_m, .int 0, m23_m, m24_m, m25_m, m26_m, .int 0, .int 0, .int 0, .int 0, .int 0, .int 0, .long 0, .long 0, m35_m, m36_m, .int 0, .int 0, .int 0, .int 0, .int 0, .int 0, .int 0, .int 0, .int 0, .int 0, .int 0, .int 0, .int 0, .int 0, m51_m, m52_m, m53_m, .int 0, .int 0, .int 0, m57_m, m58_m, .int 0, .long 0, .long 0, m62_m, .int 0, .int 0])), (ca_m, .inl (cA 0, 1825, .inl cf_m))] := hD
  obtain rfl : r_1 = manyV a1 := hw
  refine lv_aload_n hx hb dL_law_655 rfl (lv_at hl 1 rfl) ?_
  refine lv_aload_n hx hb dL_law_656 rfl (lv_at hl 3 rfl) ?_
  refine lv_iload_n hx hb dL_law_657 rfl (lv_at hl 0 rfl) ?_
  refine lv_iconst (v := 1) hx hb dL_law_658 (by decide) ?_
  refine lv_iadd hx hb dL_law_659 ?_
  refine z_topi (y := 1) (by decide +kernel) ?_
  refine va_sld hx hb hX hbl hbA hS (z_in (i := 1) (n := 6) (by decide +kernel) (by decide +kernel)) dL_law_660 ?_
  refine z_topi (y := a1) ha1 ?_
  refine z_callVi (As := [.int a1]) (rest := [.int (manyV a1)]) (wr := []) ⟨hx, hb, hml, hown, hts⟩ hK hE hP hD hS hA (c_M_many l G cA h0_m a1 cf_m m4_m m5_m m6_m m7_m ca_m m21_m m23_m m24_m m25_m m26_m m35_m m36_m m51_m m52_m m53_m m57_m m58_m m62_m hc_m) lk_RL_70 ⟨rfl, rfl⟩ ⟨Nat.le_of_ble_eq_true rfl, Nat.le_of_ble_eq_true rfl⟩ 12 rfl rfl rfl [0, 1] [] rfl rfl (by decide) rfl hl.1 rfl (lv_room (Nat.le_of_ble_eq_true rfl)) dL_law_661 ⟨Nat.le_of_ble_eq_true rfl, Nat.le_of_ble_eq_true rfl⟩ (fun r_3 u_4 H locs hw hP hD hS => ?_)
  have hP : va_P G vwCl [] H := hP
  have hD : va_D A [] := hD
  obtain rfl : r_3 = manyV a1 := hw
  refine lv_icmp_eq (tgt := 2032) hx hb dL_law_664 (by decide) (fun _ => ?_) (fun h9 => absurd rfl h9)
  exact lw_exit l hx hb hr hlocks hX hbl hbA hAf (Nat.le_of_ble_eq_true rfl) (Nat.le_of_ble_eq_true rfl) hS (lv_sub hl [3, 0] rfl)
set_option maxHeartbeats 4000000 in
set_option maxRecDepth 100000 in
theorem lw_case_12 {p : Program} {e : Env} {s : State} {m : MethodId} {below : List Frame} {meth : Method} {c : Code} (l : Launch) (G : va_G) (cA : Nat → ClassId) {b : Nat} {xs : Nat → Int32} {A : Nat → Prop} (h0 : Nat) (atr : Nat) (atx : Nat) (aho : Nat) (ath : Nat) (aru : Nat) (ahr : Nat) (arr_ : Nat) (ase : Nat) (ali : Nat) (aac : Nat) (aga : Nat) (akh : Nat) (ako : Nat) (akr : Nat) (f1 : Value) (f2 : Value) (f3 : Value) (f4 : Value) (f6 : Value) (f9 : Value) (f10 : Value) (f12 : Value) (f13 : Value) (f14 : Value) (f17 : Value) (h0_m : Nat) (cf_m : Nat → Int32) (m4_m : Value) (m5_m : Value) (m6_m : Value) (m7_m : Value) (ca_m : Nat) (m21_m : Value) (m23_m : Value) (m24_m : Value) (m25_m : Value) (m26_m : Value) (m35_m : Value) (m36_m : Value) (m51_m : Value) (m52_m : Value) (m53_m : Value) (m57_m : Value) (m58_m : Value) (m62_m : Value) (a1 : Int32) (a2 : Int32) (a3 : Int32) (a4 : Int32) (a5 : Int32) (ha1 : xs (1 : Int32).toNatClampNeg = a1) (ha2 : xs (2 : Int32).toNatClampNeg = a2) (ha3 : xs (3 : Int32).toNatClampNeg = a3) (ha4 : xs (4 : Int32).toNatClampNeg = a4) (ha5 : xs (5 : Int32).toNatClampNeg = a5) (hc_m : zFr cf_m) {H : Heap} {locs : List Loc} {ls : Array Slot} (hx : p.tables.exec = Jvm.exec) (hb : c.code = code) (hr : meth.sig.returnType = ret) (hml : c.maxLocals = 4) (hown : s.vm.findClass RL = some m.cls) (hts : ∀ w ∈ TB, w.before #[Value.ref b] s = true) (hlocks : meth.locks = false) (hX : va_X b 6 xs s s.heap) (hbl : b < s.heap.size) (hbA : ¬ A b) (hA : ∀ q, s.heap.size ≤ q → A q) (hAf : ∀ q, A q → s.heap.size ≤ q) (hK : va_K G vwCl (zTY cA) s) (hE : zEX s) (hP : va_P G vwCl [(h0, .inr (11, [.int 0, .long 0, .long 1, .ref atr, .ref atx, .ref aho, .ref ath, .ref aru, .ref ahr, .ref arr_, .ref ase, .ref ali, .ref aac, .ref aga, .int 0, .ref akh, .ref ako, .ref akr])), (aho, .inr (2, [.int 0, f1, f2, f3, f4, .int 0, f6, .int 0, .int 0, f9, f10, .int 0, f12, f13, f14, .int 8, .int 0, f17])), (h0_m, .inr (12, [.int 0, .int 0, .long 0, .long 1, m4_m, m5_m, m6_m, m7_m, .int 0, .int 0, .int (-1), .int (-1), .int 0, .int 0, .int 0, .int 0, .int 0, .int 0, .int 0, .long 0, .ref ca_m, m21_m, .int 0, m23_m, m24_m, m25_m, m26_m, .int 0, .int 0, .int 0, .int 0, .int 0, .int 0, .long 0, .long 0, m35_m, m36_m, .int 0, .int 0, .int 0, .int 0, .int 0, .int 0, .int 0, .int 0, .int 0, .int 0, .int 0, .int 0, .int 0, .int 0, m51_m, m52_m, m53_m, .int 0, .int 0, .int 0, m57_m, m58_m, .int 0, .long 0, .long 0, m62_m, .int 0, .int 0])), (ca_m, .inl (cA 0, 1825, .inl cf_m))] H) (hD : va_D A [(h0, .inr (11, [.int 0, .long 0, .long 1, .ref atr, .ref atx, .ref aho, .ref ath, .ref aru, .ref ahr, .ref arr_, .ref ase, .ref ali, .ref aac, .ref aga, .int 0, .ref akh, .ref ako, .ref akr])), (aho, .inr (2, [.int 0, f1, f2, f3, f4, .int 0, f6, .int 0, .int 0, f9, f10, .int 0, f12, f13, f14, .int 8, .int 0, f17])), (h0_m, .inr (12, [.int 0, .int 0, .long 0, .long 1, m4_m, m5_m, m6_m, m7_m, .int 0, .int 0, .int (-1), .int (-1), .int 0, .int 0, .int 0, .int 0, .int 0, .int 0, .int 0, .long 0, .ref ca_m, m21_m, .int 0, m23_m, m24_m, m25_m, m26_m, .int 0, .int 0, .int 0, .int 0, .int 0, .int 0, .long 0, .long 0, m35_m, m36_m, .int 0, .int 0, .int 0, .int 0, .int 0, .int 0, .int 0, .int 0, .int 0, .int 0, .int 0, .int 0, .int 0, .int 0, m51_m, m52_m, m53_m, .int 0, .int 0, .int 0, m57_m, m58_m, .int 0, .long 0, .long 0, m62_m, .int 0, .int 0])), (ca_m, .inl (cA 0, 1825, .inl cf_m))]) (hS : va_S A s.heap H locs) (hl : lv_has ls 4 [(3, .int 0), (2, .ref h0_m), (1, .ref h0), (0, .ref b)]) : W p l e room_1 s m #[Value.ref b] below meth c H locs 166 7482 (lw_Z below #[Value.ref b] s) (F0 m 669 ls []) := by
  refine lv_aload_n hx hb dL_law_669 rfl (lv_at hl 2 rfl) ?_
  refine lv_aload_n hx hb dL_law_670 rfl (lv_at hl 3 rfl) ?_
  refine lv_iload_n hx hb dL_law_671 rfl (lv_at hl 0 rfl) ?_
  refine lv_iconst (v := 1) hx hb dL_law_672 (by decide) ?_
  refine lv_iadd hx hb dL_law_673 ?_
  refine z_topi (y := 1) (by decide +kernel) ?_
  refine va_sld hx hb hX hbl hbA hS (z_in (i := 1) (n := 6) (by decide +kernel) (by decide +kernel)) dL_law_674 ?_
  refine z_topi (y := a1) ha1 ?_
  refine lv_aload_n hx hb dL_law_675 rfl (lv_at hl 3 rfl) ?_
  refine lv_iload_n hx hb dL_law_676 rfl (lv_at hl 0 rfl) ?_
  refine lv_iconst (v := 2) hx hb dL_law_677 (by decide) ?_
  refine lv_iadd hx hb dL_law_678 ?_
  refine z_topi (y := 2) (by decide +kernel) ?_
  refine va_sld hx hb hX hbl hbA hS (z_in (i := 2) (n := 6) (by decide +kernel) (by decide +kernel)) dL_law_679 ?_
  refine z_topi (y := a2) ha2 ?_
  refine z_callVi (As := [.int a1, .int a2]) (rest := []) (wr := [(h0_m, .inr (12, [.int 0, .int 0, .long 0, .long 1, m4_m, m5_m, m6_m, m7_m, .int 0, .int 0, .int (-1), .int (-1), .int 0, .int 0, .int 0, .int 0, .int 0, .int 0, .int 0, .long 0, .ref ca_m, m21_m, .int 0, m23_m, m24_m, m25_m, m26_m, .int 0, .int 0, .int 0, .int 0, .int 0, .int 0, .long 0, .long 0, m35_m, m36_m, .int 0, .int 0, .int 0, .int 0, .int 0, .int 0, .int 0, .int 0, .int 0, .int 0, .int 0, .int 0, .int 0, .int 0, m51_m, m52_m, m53_m, .int 0, .int 0, .int 0, m57_m, m58_m, .int 0, .long 0, .long 0, m62_m, .int 0, .int 0])), (ca_m, .inl (cA 0, 1825, .inl cf_m))]) ⟨hx, hb, hml, hown, hts⟩ hK hE hP hD hS hA (c_DR_feature l G cA h0 atr atx aho ath aru ahr arr_ ase ali aac aga akh ako akr a1 a2 f1 f2 f3 f4 f6 f9 f10 f12 f13 f14 f17) lk_RL_71 ⟨rfl, rfl⟩ ⟨Nat.le_of_ble_eq_true rfl, Nat.le_of_ble_eq_true rfl⟩ 11 rfl rfl rfl [0, 1] [2, 3] rfl rfl (by decide) rfl hl.1 rfl (lv_room (Nat.le_of_ble_eq_true rfl)) dL_law_680 ⟨Nat.le_of_ble_eq_true rfl, Nat.le_of_ble_eq_true rfl⟩ (fun r_1 u_2 H locs hw hP hD hS => ?_)
  have hP : va_P G vwCl [(h0_m, .inr (12, [.int 0, .int 0, .long 0, .long 1, m4_m, m5_m, m6_m, m7_m, .int 0, .int 0, .int (-1), .int (-1), .int 0, .int 0, .int 0, .int 0, .int 0, .int 0, .int 0, .long 0, .ref ca_m, m21_m, .int 0, m23_m, m24_m, m25_m, m26_m, .int 0, .int 0, .int 0, .int 0, .int 0, .int 0, .long 0, .long 0, m35_m, m36_m, .int 0, .int 0, .int 0, .int 0, .int 0, .int 0, .int 0, .int 0, .int 0, .int 0, .int 0, .int 0, .int 0, .int 0, m51_m, m52_m, m53_m, .int 0, .int 0, .int 0, m57_m, m58_m, .int 0, .long 0, .long 0, m62_m, .int 0, .int 0])), (ca_m, .inl (cA 0, 1825, .inl cf_m))] H := hP
  have hD : va_D A [(h0_m, .inr (12, [.int 0, .int 0, .long 0, .long 1, m4_m, m5_m, m6_m, m7_m, .int 0, .int 0, .int (-1), .int (-1), .int 0, .int 0, .int 0, .int 0, .int 0, .int 0, .int 0, .long 0, .ref ca_m, m21_m, .int 0, m23_m, m24_m, m25_m, m26_m, .int 0, .int 0, .int 0, .int 0, .int 0, .int 0, .long 0, .long 0, m35_m, m36_m, .int 0, .int 0, .int 0, .int 0, .int 0, .int 0, .int 0, .int 0, .int 0, .int 0, .int 0, .int 0, .int 0, .int 0, m51_m, m52_m, m53_m, .int 0, .int 0, .int 0, m57_m, m58_m, .int 0, .long 0, .long 0, m62_m, .int 0, .int 0])), (ca_m, .inl (cA 0, 1825, .inl cf_m))] := hD
  obtain rfl : r_1 = (-1) := hw
  refine lv_aload_n hx hb dL_law_683 rfl (lv_at hl 1 rfl) ?_
  refine lv_aload_n hx hb dL_law_684 rfl (lv_at hl 3 rfl) ?_
  refine lv_iload_n hx hb dL_law_685 rfl (lv_at hl 0 rfl) ?_
  refine lv_iconst (v := 1) hx hb dL_law_686 (by decide) ?_
  refine lv_iadd hx hb dL_law_687 ?_
  refine z_topi (y := 1) (by decide +kernel) ?_
  refine va_sld hx hb hX hbl hbA hS (z_in (i := 1) (n := 6) (by decide +kernel) (by decide +kernel)) dL_law_688 ?_
  refine z_topi (y := a1) ha1 ?_
  refine lv_aload_n hx hb dL_law_689 rfl (lv_at hl 3 rfl) ?_
  refine lv_iload_n hx hb dL_law_690 rfl (lv_at hl 0 rfl) ?_
  refine lv_iconst (v := 2) hx hb dL_law_691 (by decide) ?_
  refine lv_iadd hx hb dL_law_692 ?_
  refine z_topi (y := 2) (by decide +kernel) ?_
  refine va_sld hx hb hX hbl hbA hS (z_in (i := 2) (n := 6) (by decide +kernel) (by decide +kernel)) dL_law_693 ?_
  refine z_topi (y := a2) ha2 ?_
  refine z_callVi (As := [.int a1, .int a2]) (rest := [.int (-1)]) (wr := []) ⟨hx, hb, hml, hown, hts⟩ hK hE hP hD hS hA (c_M_feature l G cA h0_m a1 a2 cf_m m4_m m5_m m6_m m7_m ca_m m21_m m23_m m24_m m25_m m26_m m35_m m36_m m51_m m52_m m53_m m57_m m58_m m62_m hc_m) lk_RL_75 ⟨rfl, rfl⟩ ⟨Nat.le_of_ble_eq_true rfl, Nat.le_of_ble_eq_true rfl⟩ 12 rfl rfl rfl [0, 1] [] rfl rfl (by decide) rfl hl.1 rfl (lv_room (Nat.le_of_ble_eq_true rfl)) dL_law_694 ⟨Nat.le_of_ble_eq_true rfl, Nat.le_of_ble_eq_true rfl⟩ (fun r_3 u_4 H locs hw hP hD hS => ?_)
  have hP : va_P G vwCl [] H := hP
  have hD : va_D A [] := hD
  obtain rfl : r_3 = (-1) := hw
  refine lv_icmp_eq (tgt := 2032) hx hb dL_law_697 (by decide) (fun _ => ?_) (fun h9 => absurd (by decide +kernel) h9)
  exact lw_exit l hx hb hr hlocks hX hbl hbA hAf (Nat.le_of_ble_eq_true rfl) (Nat.le_of_ble_eq_true rfl) hS (lv_sub hl [3, 0] rfl)
set_option maxHeartbeats 4000000 in
set_option maxRecDepth 100000 in
theorem lw_case_13 {p : Program} {e : Env} {s : State} {m : MethodId} {below : List Frame} {meth : Method} {c : Code} (l : Launch) (G : va_G) (cA : Nat → ClassId) {b : Nat} {xs : Nat → Int32} {A : Nat → Prop} (h0 : Nat) (atr : Nat) (atx : Nat) (aho : Nat) (ath : Nat) (aru : Nat) (ahr : Nat) (arr_ : Nat) (ase : Nat) (ali : Nat) (aac : Nat) (aga : Nat) (akh : Nat) (ako : Nat) (akr : Nat) (f1 : Value) (f2 : Value) (f3 : Value) (f4 : Value) (f6 : Value) (f9 : Value) (f10 : Value) (f12 : Value) (f13 : Value) (f14 : Value) (f17 : Value) (h0_m : Nat) (cf_m : Nat → Int32) (m4_m : Value) (m5_m : Value) (m6_m : Value) (m7_m : Value) (ca_m : Nat) (m21_m : Value) (m23_m : Value) (m24_m : Value) (m25_m : Value) (m26_m : Value) (m35_m : Value) (m36_m : Value) (m51_m : Value) (m52_m : Value) (m53_m : Value) (m57_m : Value) (m58_m : Value) (m62_m : Value) (a1 : Int32) (a2 : Int32) (a3 : Int32) (a4 : Int32) (a5 : Int32) (ha1 : xs (1 : Int32).toNatClampNeg = a1) (ha2 : xs (2 : Int32).toNatClampNeg = a2) (ha3 : xs (3 : Int32).toNatClampNeg = a3) (ha4 : xs (4 : Int32).toNatClampNeg = a4) (ha5 : xs (5 : Int32).toNatClampNeg = a5) (hc_m : zFr cf_m) {H : Heap} {locs : List Loc} {ls : Array Slot} (hx : p.tables.exec = Jvm.exec) (hb : c.code = code) (hr : meth.sig.returnType = ret) (hml : c.maxLocals = 4) (hown : s.vm.findClass RL = some m.cls) (hts : ∀ w ∈ TB, w.before #[Value.ref b] s = true) (hlocks : meth.locks = false) (hX : va_X b 6 xs s s.heap) (hbl : b < s.heap.size) (hbA : ¬ A b) (hA : ∀ q, s.heap.size ≤ q → A q) (hAf : ∀ q, A q → s.heap.size ≤ q) (hK : va_K G vwCl (zTY cA) s) (hE : zEX s) (hP : va_P G vwCl [(h0, .inr (11, [.int 0, .long 0, .long 1, .ref atr, .ref atx, .ref aho, .ref ath, .ref aru, .ref ahr, .ref arr_, .ref ase, .ref ali, .ref aac, .ref aga, .int 0, .ref akh, .ref ako, .ref akr])), (aho, .inr (2, [.int 0, f1, f2, f3, f4, .int 0, f6, .int 0, .int 0, f9, f10, .int 0, f12, f13, f14, .int 8, .int 0, f17])), (h0_m, .inr (12, [.int 0, .int 0, .long 0, .long 1, m4_m, m5_m, m6_m, m7_m, .int 0, .int 0, .int (-1), .int (-1), .int 0, .int 0, .int 0, .int 0, .int 0, .int 0, .int 0, .long 0, .ref ca_m, m21_m, .int 0, m23_m, m24_m, m25_m, m26_m, .int 0, .int 0, .int 0, .int 0, .int 0, .int 0, .long 0, .long 0, m35_m, m36_m, .int 0, .int 0, .int 0, .int 0, .int 0, .int 0, .int 0, .int 0, .int 0, .int 0, .int 0, .int 0, .int 0, .int 0, m51_m, m52_m, m53_m, .int 0, .int 0, .int 0, m57_m, m58_m, .int 0, .long 0, .long 0, m62_m, .int 0, .int 0])), (ca_m, .inl (cA 0, 1825, .inl cf_m))] H) (hD : va_D A [(h0, .inr (11, [.int 0, .long 0, .long 1, .ref atr, .ref atx, .ref aho, .ref ath, .ref aru, .ref ahr, .ref arr_, .ref ase, .ref ali, .ref aac, .ref aga, .int 0, .ref akh, .ref ako, .ref akr])), (aho, .inr (2, [.int 0, f1, f2, f3, f4, .int 0, f6, .int 0, .int 0, f9, f10, .int 0, f12, f13, f14, .int 8, .int 0, f17])), (h0_m, .inr (12, [.int 0, .int 0, .long 0, .long 1, m4_m, m5_m, m6_m, m7_m, .int 0, .int 0, .int (-1), .int (-1), .int 0, .int 0, .int 0, .int 0, .int 0, .int 0, .int 0, .long 0, .ref ca_m, m21_m, .int 0, m23_m, m24_m, m25_m, m26_m, .int 0, .int 0, .int 0, .int 0, .int 0, .int 0, .long 0, .long 0, m35_m, m36_m, .int 0, .int 0, .int 0, .int 0, .int 0, .int 0, .int 0, .int 0, .int 0, .int 0, .int 0, .int 0, .int 0, .int 0, m51_m, m52_m, m53_m, .int 0, .int 0, .int 0, m57_m, m58_m, .int 0, .long 0, .long 0, m62_m, .int 0, .int 0])), (ca_m, .inl (cA 0, 1825, .inl cf_m))]) (hS : va_S A s.heap H locs) (hl : lv_has ls 4 [(3, .int 0), (2, .ref h0_m), (1, .ref h0), (0, .ref b)]) : W p l e room_1 s m #[Value.ref b] below meth c H locs 166 7482 (lw_Z below #[Value.ref b] s) (F0 m 702 ls []) := by
  refine lv_aload_n hx hb dL_law_702 rfl (lv_at hl 2 rfl) ?_
  refine lv_aload_n hx hb dL_law_703 rfl (lv_at hl 3 rfl) ?_
  refine lv_iload_n hx hb dL_law_704 rfl (lv_at hl 0 rfl) ?_
  refine lv_iconst (v := 1) hx hb dL_law_705 (by decide) ?_
  refine lv_iadd hx hb dL_law_706 ?_
  refine z_topi (y := 1) (by decide +kernel) ?_
  refine va_sld hx hb hX hbl hbA hS (z_in (i := 1) (n := 6) (by decide +kernel) (by decide +kernel)) dL_law_707 ?_
  refine z_topi (y := a1) ha1 ?_
  refine lv_aload_n hx hb dL_law_708 rfl (lv_at hl 3 rfl) ?_
  refine lv_iload_n hx hb dL_law_709 rfl (lv_at hl 0 rfl) ?_
  refine lv_iconst (v := 2) hx hb dL_law_710 (by decide) ?_
  refine lv_iadd hx hb dL_law_711 ?_
  refine z_topi (y := 2) (by decide +kernel) ?_
  refine va_sld hx hb hX hbl hbA hS (z_in (i := 2) (n := 6) (by decide +kernel) (by decide +kernel)) dL_law_712 ?_
  refine z_topi (y := a2) ha2 ?_
  refine lv_aload_n hx hb dL_law_713 rfl (lv_at hl 3 rfl) ?_
  refine lv_iload_n hx hb dL_law_714 rfl (lv_at hl 0 rfl) ?_
  refine lv_iconst (v := 3) hx hb dL_law_715 (by decide) ?_
  refine lv_iadd hx hb dL_law_716 ?_
  refine z_topi (y := 3) (by decide +kernel) ?_
  refine va_sld hx hb hX hbl hbA hS (z_in (i := 3) (n := 6) (by decide +kernel) (by decide +kernel)) dL_law_717 ?_
  refine z_topi (y := a3) ha3 ?_
  refine z_callVi (As := [.int a1, .int a2, .int a3]) (rest := []) (wr := [(h0_m, .inr (12, [.int 0, .int 0, .long 0, .long 1, m4_m, m5_m, m6_m, m7_m, .int 0, .int 0, .int (-1), .int (-1), .int 0, .int 0, .int 0, .int 0, .int 0, .int 0, .int 0, .long 0, .ref ca_m, m21_m, .int 0, m23_m, m24_m, m25_m, m26_m, .int 0, .int 0, .int 0, .int 0, .int 0, .int 0, .long 0, .long 0, m35_m, m36_m, .int 0, .int 0, .int 0, .int 0, .int 0, .int 0, .int 0, .int 0, .int 0, .int 0, .int 0, .int 0, .int 0, .int 0, m51_m, m52_m, m53_m, .int 0, .int 0, .int 0, m57_m, m58_m, .int 0, .long 0, .long 0, m62_m, .int 0, .int 0])), (ca_m, .inl (cA 0, 1825, .inl cf_m))]) ⟨hx, hb, hml, hown, hts⟩ hK hE hP hD hS hA (c_DR_feels l G cA h0 atr atx aho ath aru ahr arr_ ase ali aac aga akh ako akr a1 a2 a3 f1 f2 f3 f4 f6 f9 f10 f12 f13 f14 f17) lk_RL_76 ⟨rfl, rfl⟩ ⟨Nat.le_of_ble_eq_true rfl, Nat.le_of_ble_eq_true rfl⟩ 11 rfl rfl rfl [0, 1] [2, 3] rfl rfl (by decide) rfl hl.1 rfl (lv_room (Nat.le_of_ble_eq_true rfl)) dL_law_718 ⟨Nat.le_of_ble_eq_true rfl, Nat.le_of_ble_eq_true rfl⟩ (fun r_1 u_2 H locs hw hP hD hS => ?_)
  have hP : va_P G vwCl [(h0_m, .inr (12, [.int 0, .int 0, .long 0, .long 1, m4_m, m5_m, m6_m, m7_m, .int 0, .int 0, .int (-1), .int (-1), .int 0, .int 0, .int 0, .int 0, .int 0, .int 0, .int 0, .long 0, .ref ca_m, m21_m, .int 0, m23_m, m24_m, m25_m, m26_m, .int 0, .int 0, .int 0, .int 0, .int 0, .int 0, .long 0, .long 0, m35_m, m36_m, .int 0, .int 0, .int 0, .int 0, .int 0, .int 0, .int 0, .int 0, .int 0, .int 0, .int 0, .int 0, .int 0, .int 0, m51_m, m52_m, m53_m, .int 0, .int 0, .int 0, m57_m, m58_m, .int 0, .long 0, .long 0, m62_m, .int 0, .int 0])), (ca_m, .inl (cA 0, 1825, .inl cf_m))] H := hP
  have hD : va_D A [(h0_m, .inr (12, [.int 0, .int 0, .long 0, .long 1, m4_m, m5_m, m6_m, m7_m, .int 0, .int 0, .int (-1), .int (-1), .int 0, .int 0, .int 0, .int 0, .int 0, .int 0, .int 0, .long 0, .ref ca_m, m21_m, .int 0, m23_m, m24_m, m25_m, m26_m, .int 0, .int 0, .int 0, .int 0, .int 0, .int 0, .long 0, .long 0, m35_m, m36_m, .int 0, .int 0, .int 0, .int 0, .int 0, .int 0, .int 0, .int 0, .int 0, .int 0, .int 0, .int 0, .int 0, .int 0, m51_m, m52_m, m53_m, .int 0, .int 0, .int 0, m57_m, m58_m, .int 0, .long 0, .long 0, m62_m, .int 0, .int 0])), (ca_m, .inl (cA 0, 1825, .inl cf_m))] := hD
  obtain rfl : r_1 = (-1) := hw
  refine lv_aload_n hx hb dL_law_721 rfl (lv_at hl 1 rfl) ?_
  refine lv_aload_n hx hb dL_law_722 rfl (lv_at hl 3 rfl) ?_
  refine lv_iload_n hx hb dL_law_723 rfl (lv_at hl 0 rfl) ?_
  refine lv_iconst (v := 1) hx hb dL_law_724 (by decide) ?_
  refine lv_iadd hx hb dL_law_725 ?_
  refine z_topi (y := 1) (by decide +kernel) ?_
  refine va_sld hx hb hX hbl hbA hS (z_in (i := 1) (n := 6) (by decide +kernel) (by decide +kernel)) dL_law_726 ?_
  refine z_topi (y := a1) ha1 ?_
  refine lv_aload_n hx hb dL_law_727 rfl (lv_at hl 3 rfl) ?_
  refine lv_iload_n hx hb dL_law_728 rfl (lv_at hl 0 rfl) ?_
  refine lv_iconst (v := 2) hx hb dL_law_729 (by decide) ?_
  refine lv_iadd hx hb dL_law_730 ?_
  refine z_topi (y := 2) (by decide +kernel) ?_
  refine va_sld hx hb hX hbl hbA hS (z_in (i := 2) (n := 6) (by decide +kernel) (by decide +kernel)) dL_law_731 ?_
  refine z_topi (y := a2) ha2 ?_
  refine lv_aload_n hx hb dL_law_732 rfl (lv_at hl 3 rfl) ?_
  refine lv_iload_n hx hb dL_law_733 rfl (lv_at hl 0 rfl) ?_
  refine lv_iconst (v := 3) hx hb dL_law_734 (by decide) ?_
  refine lv_iadd hx hb dL_law_735 ?_
  refine z_topi (y := 3) (by decide +kernel) ?_
  refine va_sld hx hb hX hbl hbA hS (z_in (i := 3) (n := 6) (by decide +kernel) (by decide +kernel)) dL_law_736 ?_
  refine z_topi (y := a3) ha3 ?_
  refine z_callVi (As := [.int a1, .int a2, .int a3]) (rest := [.int (-1)]) (wr := []) ⟨hx, hb, hml, hown, hts⟩ hK hE hP hD hS hA (c_M_feels l G cA h0_m a1 a2 a3 cf_m m4_m m5_m m6_m m7_m ca_m m21_m m23_m m24_m m25_m m26_m m35_m m36_m m51_m m52_m m53_m m57_m m58_m m62_m hc_m) lk_RL_80 ⟨rfl, rfl⟩ ⟨Nat.le_of_ble_eq_true rfl, Nat.le_of_ble_eq_true rfl⟩ 12 rfl rfl rfl [0, 1] [] rfl rfl (by decide) rfl hl.1 rfl (lv_room (Nat.le_of_ble_eq_true rfl)) dL_law_737 ⟨Nat.le_of_ble_eq_true rfl, Nat.le_of_ble_eq_true rfl⟩ (fun r_3 u_4 H locs hw hP hD hS => ?_)
  have hP : va_P G vwCl [] H := hP
  have hD : va_D A [] := hD
  obtain rfl : r_3 = (-1) := hw
  refine lv_icmp_eq (tgt := 2032) hx hb dL_law_740 (by decide) (fun _ => ?_) (fun h9 => absurd (by decide +kernel) h9)
  exact lw_exit l hx hb hr hlocks hX hbl hbA hAf (Nat.le_of_ble_eq_true rfl) (Nat.le_of_ble_eq_true rfl) hS (lv_sub hl [3, 0] rfl)
