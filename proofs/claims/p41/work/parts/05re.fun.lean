noncomputable def F_r_laid (m_bestTop : Int64) (m_bestBy : Int64) (g_c : Nat → Int32) (g_there : Nat → Int32) (g_tried : Nat → Int32) (g_best : Nat → Int32) (g_found : Nat → Int32) (g_order : Nat → Int32) (r : Int32) (o : Int32) : Int32 :=
  let w_3 := F_r_isRing g_c r
  let r_1 : Int32 := w_3
  if r_1 = 0 then (
    let w_9 := F_r_refuse 2
    let r_7 : Int32 := w_9.1
    let n_6 : Int32 := w_9.2
    r_7) else
  (
    let w_15 := F_r_gather g_c g_there r
    let n_11 : Int32 := w_15.1
    let n_12 : Nat → Int32 := w_15.2
    if n_11 ≤ 6 then (
      if n_11 ≤ 0 then (
        let w_27 := F_r_refuse 8
        let r_25 : Int32 := w_27.1
        let n_24 : Int32 := w_27.2
        r_25) else (
        let w_34 := F_r_meanFrom n_11 g_c n_12 0 0
        let n_30 : Int64 := w_34.1
        let n_31 : Int64 := w_34.2
        if (lg_cmp n_31 0) = 0 then (
          let w_93 := F_r_refuse 8
          let r_91 : Int32 := w_93.1
          let n_90 : Int32 := w_93.2
          r_91) else (
          if o = 0 then (
            let w_57 := F_r_findOrder n_11 m_bestTop m_bestBy n_30 n_31 g_c n_12 g_tried g_best g_found g_order 0
            let n_42 : Int32 := w_57.1
            let n_43 : Int32 := w_57.2.1
            let n_44 : Int32 := w_57.2.2.1
            let n_45 : Int32 := w_57.2.2.2.1
            let n_46 : Int64 := w_57.2.2.2.2.1
            let n_47 : Int64 := w_57.2.2.2.2.2.1
            let n_48 : Int64 := w_57.2.2.2.2.2.2.1
            let n_49 : Int64 := w_57.2.2.2.2.2.2.2.1
            let n_50 : Nat → Int32 := w_57.2.2.2.2.2.2.2.2.1
            let n_51 : Nat → Int32 := w_57.2.2.2.2.2.2.2.2.2.1
            let n_52 : Nat → Int32 := w_57.2.2.2.2.2.2.2.2.2.2.1
            let n_53 : Nat → Int32 := w_57.2.2.2.2.2.2.2.2.2.2.2.1
            let n_54 : Nat → Int32 := w_57.2.2.2.2.2.2.2.2.2.2.2.2
            let x_63 : Int32 := (n_54 (0 : Int32).toNatClampNeg)
            x_63) else (
            let w_81 := F_r_findOrder n_11 m_bestTop m_bestBy n_30 n_31 g_c n_12 g_tried g_best g_found g_order 1
            let n_66 : Int32 := w_81.1
            let n_67 : Int32 := w_81.2.1
            let n_68 : Int32 := w_81.2.2.1
            let n_69 : Int32 := w_81.2.2.2.1
            let n_70 : Int64 := w_81.2.2.2.2.1
            let n_71 : Int64 := w_81.2.2.2.2.2.1
            let n_72 : Int64 := w_81.2.2.2.2.2.2.1
            let n_73 : Int64 := w_81.2.2.2.2.2.2.2.1
            let n_74 : Nat → Int32 := w_81.2.2.2.2.2.2.2.2.1
            let n_75 : Nat → Int32 := w_81.2.2.2.2.2.2.2.2.2.1
            let n_76 : Nat → Int32 := w_81.2.2.2.2.2.2.2.2.2.2.1
            let n_77 : Nat → Int32 := w_81.2.2.2.2.2.2.2.2.2.2.2.1
            let n_78 : Nat → Int32 := w_81.2.2.2.2.2.2.2.2.2.2.2.2
            let x_87 : Int32 := (n_78 (0 : Int32).toNatClampNeg)
            x_87)))) else (
      let w_99 := F_r_refuse 7
      let r_97 : Int32 := w_99.1
      let n_96 : Int32 := w_99.2
      r_97))
theorem F_r_laid_s (m_bestTop : Int64) (m_bestBy : Int64) (g_c : Nat → Int32) (g_there : Nat → Int32) (g_tried : Nat → Int32) (g_best : Nat → Int32) (g_found : Nat → Int32) (g_order : Nat → Int32) (r : Int32) (o : Int32) : F_r_laid m_bestTop m_bestBy g_c g_there g_tried g_best g_found g_order r o = (
  let w_3 := F_r_isRing g_c r
  let r_1 : Int32 := w_3
  if r_1 = 0 then (
    let w_9 := F_r_refuse 2
    let r_7 : Int32 := w_9.1
    let n_6 : Int32 := w_9.2
    r_7) else
  (
    let w_15 := F_r_gather g_c g_there r
    let n_11 : Int32 := w_15.1
    let n_12 : Nat → Int32 := w_15.2
    if n_11 ≤ 6 then (
      if n_11 ≤ 0 then (
        let w_27 := F_r_refuse 8
        let r_25 : Int32 := w_27.1
        let n_24 : Int32 := w_27.2
        r_25) else (
        let w_34 := F_r_meanFrom n_11 g_c n_12 0 0
        let n_30 : Int64 := w_34.1
        let n_31 : Int64 := w_34.2
        if (lg_cmp n_31 0) = 0 then (
          let w_93 := F_r_refuse 8
          let r_91 : Int32 := w_93.1
          let n_90 : Int32 := w_93.2
          r_91) else (
          if o = 0 then (
            let w_57 := F_r_findOrder n_11 m_bestTop m_bestBy n_30 n_31 g_c n_12 g_tried g_best g_found g_order 0
            let n_42 : Int32 := w_57.1
            let n_43 : Int32 := w_57.2.1
            let n_44 : Int32 := w_57.2.2.1
            let n_45 : Int32 := w_57.2.2.2.1
            let n_46 : Int64 := w_57.2.2.2.2.1
            let n_47 : Int64 := w_57.2.2.2.2.2.1
            let n_48 : Int64 := w_57.2.2.2.2.2.2.1
            let n_49 : Int64 := w_57.2.2.2.2.2.2.2.1
            let n_50 : Nat → Int32 := w_57.2.2.2.2.2.2.2.2.1
            let n_51 : Nat → Int32 := w_57.2.2.2.2.2.2.2.2.2.1
            let n_52 : Nat → Int32 := w_57.2.2.2.2.2.2.2.2.2.2.1
            let n_53 : Nat → Int32 := w_57.2.2.2.2.2.2.2.2.2.2.2.1
            let n_54 : Nat → Int32 := w_57.2.2.2.2.2.2.2.2.2.2.2.2
            let x_63 : Int32 := (n_54 (0 : Int32).toNatClampNeg)
            x_63) else (
            let w_81 := F_r_findOrder n_11 m_bestTop m_bestBy n_30 n_31 g_c n_12 g_tried g_best g_found g_order 1
            let n_66 : Int32 := w_81.1
            let n_67 : Int32 := w_81.2.1
            let n_68 : Int32 := w_81.2.2.1
            let n_69 : Int32 := w_81.2.2.2.1
            let n_70 : Int64 := w_81.2.2.2.2.1
            let n_71 : Int64 := w_81.2.2.2.2.2.1
            let n_72 : Int64 := w_81.2.2.2.2.2.2.1
            let n_73 : Int64 := w_81.2.2.2.2.2.2.2.1
            let n_74 : Nat → Int32 := w_81.2.2.2.2.2.2.2.2.1
            let n_75 : Nat → Int32 := w_81.2.2.2.2.2.2.2.2.2.1
            let n_76 : Nat → Int32 := w_81.2.2.2.2.2.2.2.2.2.2.1
            let n_77 : Nat → Int32 := w_81.2.2.2.2.2.2.2.2.2.2.2.1
            let n_78 : Nat → Int32 := w_81.2.2.2.2.2.2.2.2.2.2.2.2
            let x_87 : Int32 := (n_78 (0 : Int32).toNatClampNeg)
            x_87)))) else (
      let w_99 := F_r_refuse 7
      let r_97 : Int32 := w_99.1
      let n_96 : Int32 := w_99.2
      r_97))) := rfl
noncomputable def F_r_empty_0_L2a : Nat → Int32 → (Nat → Int32) → (Nat → Int32) := fun k9 => Nat.rec (motive := fun _ => Int32 → (Nat → Int32) → (Nat → Int32)) (fun _ _ => default) (fun _ (G_L2a : Int32 → (Nat → Int32) → (Nat → Int32)) => fun (v_199 : Int32) (g_200 : Nat → Int32) =>
    if 180 ≤ v_199 then (
      let g_231 : Nat → Int32 := (upd g_200 (5 : Int32).toNatClampNeg 1)
      let g_233 : Nat → Int32 := (upd g_231 (6 : Int32).toNatClampNeg 4)
      let g_235 : Nat → Int32 := (upd g_233 (7 : Int32).toNatClampNeg 1)
      let g_237 : Nat → Int32 := (upd g_235 (8 : Int32).toNatClampNeg 9)
      let g_239 : Nat → Int32 := (upd g_237 (9 : Int32).toNatClampNeg 8)
      let g_241 : Nat → Int32 := (upd g_239 (10 : Int32).toNatClampNeg (-1))
      g_241) else (
      let x_245 : Int32 := ((0 : Int32) + v_199)
      let g_246 : Nat → Int32 := (upd g_200 (x_245 : Int32).toNatClampNeg 0)
      let x_247 : Int32 := (v_199 + 1)
      G_L2a x_247 g_246)) k9
theorem F_r_empty_0_L2a_s (n9 : Nat) (v_199 : Int32) (g_200 : Nat → Int32) : F_r_empty_0_L2a (n9 + 1) v_199 g_200 = (
    if 180 ≤ v_199 then (
      let g_231 : Nat → Int32 := (upd g_200 (5 : Int32).toNatClampNeg 1)
      let g_233 : Nat → Int32 := (upd g_231 (6 : Int32).toNatClampNeg 4)
      let g_235 : Nat → Int32 := (upd g_233 (7 : Int32).toNatClampNeg 1)
      let g_237 : Nat → Int32 := (upd g_235 (8 : Int32).toNatClampNeg 9)
      let g_239 : Nat → Int32 := (upd g_237 (9 : Int32).toNatClampNeg 8)
      let g_241 : Nat → Int32 := (upd g_239 (10 : Int32).toNatClampNeg (-1))
      g_241) else (
      let x_245 : Int32 := ((0 : Int32) + v_199)
      let g_246 : Nat → Int32 := (upd g_200 (x_245 : Int32).toNatClampNeg 0)
      let x_247 : Int32 := (v_199 + 1)
      (F_r_empty_0_L2a n9) x_247 g_246)) := rfl
noncomputable def F_r_empty_0 (g_c : Nat → Int32) : (Nat → Int32) :=
  F_r_empty_0_L2a ((2147483647 - (0 : Int32).toInt).toNat + 1) (0 : Int32) g_c
theorem F_r_empty_0_s (g_c : Nat → Int32) : F_r_empty_0 g_c = (
  F_r_empty_0_L2a ((2147483647 - (0 : Int32).toInt).toNat + 1) (0 : Int32) g_c) := rfl
