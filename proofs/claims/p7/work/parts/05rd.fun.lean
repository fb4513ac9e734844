noncomputable def F_r_empty_0_L2a : Nat → Int32 → (Nat → Int32) → (Nat → Int32) := fun k9 => Nat.rec (motive := fun _ => Int32 → (Nat → Int32) → (Nat → Int32)) (fun _ _ => default) (fun _ (G_L2a : Int32 → (Nat → Int32) → (Nat → Int32)) => fun (v_199 : Int32) (g_200 : Nat → Int32) =>
    if 180 ≤ v_199 then (
      let g_231 : Nat → Int32 := (upd g_200 (5 : Int32).toNatClampNeg 1)
      let g_233 : Nat → Int32 := (upd g_231 (6 : Int32).toNatClampNeg 4)
      let g_235 : Nat → Int32 := (upd g_233 (7 : Int32).toNatClampNeg 1)
      let g_237 : Nat → Int32 := (upd g_235 (8 : Int32).toNatClampNeg 9)
      let g_239 : Nat → Int32 := (upd g_237 (9 : Int32).toNatClampNeg 8)
      let g_241 : Nat → Int32 := (upd g_239 (10 : Int32).toNatClampNeg (-1))
      g_241) else (
      let x_245 : Int32 := ((0 : Int32) + v_199)
      let g_246 : Nat → Int32 := (upd g_200 (x_245 : Int32).toNatClampNeg 0)
      let x_247 : Int32 := (v_199 + 1)
      G_L2a x_247 g_246)) k9
theorem F_r_empty_0_L2a_s (n9 : Nat) (v_199 : Int32) (g_200 : Nat → Int32) : F_r_empty_0_L2a (n9 + 1) v_199 g_200 = (
    if 180 ≤ v_199 then (
      let g_231 : Nat → Int32 := (upd g_200 (5 : Int32).toNatClampNeg 1)
      let g_233 : Nat → Int32 := (upd g_231 (6 : Int32).toNatClampNeg 4)
      let g_235 : Nat → Int32 := (upd g_233 (7 : Int32).toNatClampNeg 1)
      let g_237 : Nat → Int32 := (upd g_235 (8 : Int32).toNatClampNeg 9)
      let g_239 : Nat → Int32 := (upd g_237 (9 : Int32).toNatClampNeg 8)
      let g_241 : Nat → Int32 := (upd g_239 (10 : Int32).toNatClampNeg (-1))
      g_241) else (
      let x_245 : Int32 := ((0 : Int32) + v_199)
      let g_246 : Nat → Int32 := (upd g_200 (x_245 : Int32).toNatClampNeg 0)
      let x_247 : Int32 := (v_199 + 1)
      (F_r_empty_0_L2a n9) x_247 g_246)) := rfl
noncomputable def F_r_empty_0 (g_c : Nat → Int32) : (Nat → Int32) :=
  F_r_empty_0_L2a ((2147483647 - (0 : Int32).toInt).toNat + 1) (0 : Int32) g_c
theorem F_r_empty_0_s (g_c : Nat → Int32) : F_r_empty_0 g_c = (
  F_r_empty_0_L2a ((2147483647 - (0 : Int32).toInt).toNat + 1) (0 : Int32) g_c) := rfl
