noncomputable def F_r_refuse (k : Int32) : Int32 × Int32 :=
  ((-1 : Int32), k)
theorem F_r_refuse_s (k : Int32) : F_r_refuse k = (
  ((-1 : Int32), k)) := rfl
noncomputable def F_r_no (k : Int32) : Int32 × Int32 :=
  ((0 : Int32), k)
theorem F_r_no_s (k : Int32) : F_r_no k = (
  ((0 : Int32), k)) := rfl
noncomputable def F_r_isIn (x : Int64) (lo : Int64) (hi : Int64) : Int32 :=
  if (lg_cmp x lo) < 0 then (
    (0 : Int32)) else (
    if 0 < (lg_cmp x hi) then (
      (0 : Int32)) else (
      (1 : Int32)))
theorem F_r_isIn_s (x : Int64) (lo : Int64) (hi : Int64) : F_r_isIn x lo hi = (
  if (lg_cmp x lo) < 0 then (
    (0 : Int32)) else (
    if 0 < (lg_cmp x hi) then (
      (0 : Int32)) else (
      (1 : Int32)))) := rfl
noncomputable def F_r_isLetter (x : Int32) : Int32 :=
  if x < 97 then (
    (0 : Int32)) else (
    if 122 < x then (
      (0 : Int32)) else (
      (1 : Int32)))
theorem F_r_isLetter_s (x : Int32) : F_r_isLetter x = (
  if x < 97 then (
    (0 : Int32)) else (
    if 122 < x then (
      (0 : Int32)) else (
      (1 : Int32)))) := rfl
noncomputable def F_r_isDigit (x : Int32) : Int32 :=
  if x < 48 then (
    (0 : Int32)) else (
    if 57 < x then (
      (0 : Int32)) else (
      (1 : Int32)))
theorem F_r_isDigit_s (x : Int32) : F_r_isDigit x = (
  if x < 48 then (
    (0 : Int32)) else (
    if 57 < x then (
      (0 : Int32)) else (
      (1 : Int32)))) := rfl
noncomputable def F_r_isSignByte (x : Int32) : Int32 :=
  if x = 59 then (
    (1 : Int32)) else (
    if x = 60 then (
      (1 : Int32)) else (
      if x = 62 then (
        (1 : Int32)) else (
        if x = 61 then (
          (1 : Int32)) else (
          (0 : Int32)))))
theorem F_r_isSignByte_s (x : Int32) : F_r_isSignByte x = (
  if x = 59 then (
    (1 : Int32)) else (
    if x = 60 then (
      (1 : Int32)) else (
      if x = 62 then (
        (1 : Int32)) else (
        if x = 61 then (
          (1 : Int32)) else (
          (0 : Int32)))))) := rfl
noncomputable def F_r_spelled (x0 : Int32) (x1 : Int32) (x2 : Int32) (x3 : Int32) (x4 : Int32) (x5 : Int32) : Int64 :=
  let x_1 : Int64 := ((x0).toInt64)
  let x_2 : Int64 := (x_1 - 96)
  let x_3 : Int64 := (x_2 * 32)
  let x_4 : Int64 := ((x1).toInt64)
  let x_5 : Int64 := (x_3 + x_4)
  let x_6 : Int64 := (x_5 - 96)
  if x2 ≤ 0 then (
    if x3 ≤ 0 then (
      if x4 ≤ 0 then (
        if x5 ≤ 0 then (
          x_6) else (
          let x_17 : Int64 := (x_6 * 32)
          let x_18 : Int64 := ((x5).toInt64)
          let x_19 : Int64 := (x_17 + x_18)
          let x_20 : Int64 := (x_19 - 96)
          x_20)) else (
        let x_23 : Int64 := (x_6 * 32)
        let x_24 : Int64 := ((x4).toInt64)
        let x_25 : Int64 := (x_23 + x_24)
        let x_26 : Int64 := (x_25 - 96)
        if x5 ≤ 0 then (
          x_26) else (
          let x_31 : Int64 := (x_26 * 32)
          let x_32 : Int64 := ((x5).toInt64)
          let x_33 : Int64 := (x_31 + x_32)
          let x_34 : Int64 := (x_33 - 96)
          x_34))) else (
      let x_37 : Int64 := (x_6 * 32)
      let x_38 : Int64 := ((x3).toInt64)
      let x_39 : Int64 := (x_37 + x_38)
      let x_40 : Int64 := (x_39 - 96)
      if x4 ≤ 0 then (
        if x5 ≤ 0 then (
          x_40) else (
          let x_47 : Int64 := (x_40 * 32)
          let x_48 : Int64 := ((x5).toInt64)
          let x_49 : Int64 := (x_47 + x_48)
          let x_50 : Int64 := (x_49 - 96)
          x_50)) else (
        let x_53 : Int64 := (x_40 * 32)
        let x_54 : Int64 := ((x4).toInt64)
        let x_55 : Int64 := (x_53 + x_54)
        let x_56 : Int64 := (x_55 - 96)
        if x5 ≤ 0 then (
          x_56) else (
          let x_61 : Int64 := (x_56 * 32)
          let x_62 : Int64 := ((x5).toInt64)
          let x_63 : Int64 := (x_61 + x_62)
          let x_64 : Int64 := (x_63 - 96)
          x_64)))) else (
    let x_67 : Int64 := (x_6 * 32)
    let x_68 : Int64 := ((x2).toInt64)
    let x_69 : Int64 := (x_67 + x_68)
    let x_70 : Int64 := (x_69 - 96)
    if x3 ≤ 0 then (
      if x4 ≤ 0 then (
        if x5 ≤ 0 then (
          x_70) else (
          let x_79 : Int64 := (x_70 * 32)
          let x_80 : Int64 := ((x5).toInt64)
          let x_81 : Int64 := (x_79 + x_80)
          let x_82 : Int64 := (x_81 - 96)
          x_82)) else (
        let x_85 : Int64 := (x_70 * 32)
        let x_86 : Int64 := ((x4).toInt64)
        let x_87 : Int64 := (x_85 + x_86)
        let x_88 : Int64 := (x_87 - 96)
        if x5 ≤ 0 then (
          x_88) else (
          let x_93 : Int64 := (x_88 * 32)
          let x_94 : Int64 := ((x5).toInt64)
          let x_95 : Int64 := (x_93 + x_94)
          let x_96 : Int64 := (x_95 - 96)
          x_96))) else (
      let x_99 : Int64 := (x_70 * 32)
      let x_100 : Int64 := ((x3).toInt64)
      let x_101 : Int64 := (x_99 + x_100)
      let x_102 : Int64 := (x_101 - 96)
      if x4 ≤ 0 then (
        if x5 ≤ 0 then (
          x_102) else (
          let x_109 : Int64 := (x_102 * 32)
          let x_110 : Int64 := ((x5).toInt64)
          let x_111 : Int64 := (x_109 + x_110)
          let x_112 : Int64 := (x_111 - 96)
          x_112)) else (
        let x_115 : Int64 := (x_102 * 32)
        let x_116 : Int64 := ((x4).toInt64)
        let x_117 : Int64 := (x_115 + x_116)
        let x_118 : Int64 := (x_117 - 96)
        if x5 ≤ 0 then (
          x_118) else (
          let x_123 : Int64 := (x_118 * 32)
          let x_124 : Int64 := ((x5).toInt64)
          let x_125 : Int64 := (x_123 + x_124)
          let x_126 : Int64 := (x_125 - 96)
          x_126))))
theorem F_r_spelled_s (x0 : Int32) (x1 : Int32) (x2 : Int32) (x3 : Int32) (x4 : Int32) (x5 : Int32) : F_r_spelled x0 x1 x2 x3 x4 x5 = (
  let x_1 : Int64 := ((x0).toInt64)
  let x_2 : Int64 := (x_1 - 96)
  let x_3 : Int64 := (x_2 * 32)
  let x_4 : Int64 := ((x1).toInt64)
  let x_5 : Int64 := (x_3 + x_4)
  let x_6 : Int64 := (x_5 - 96)
  if x2 ≤ 0 then (
    if x3 ≤ 0 then (
      if x4 ≤ 0 then (
        if x5 ≤ 0 then (
          x_6) else (
          let x_17 : Int64 := (x_6 * 32)
          let x_18 : Int64 := ((x5).toInt64)
          let x_19 : Int64 := (x_17 + x_18)
          let x_20 : Int64 := (x_19 - 96)
          x_20)) else (
        let x_23 : Int64 := (x_6 * 32)
        let x_24 : Int64 := ((x4).toInt64)
        let x_25 : Int64 := (x_23 + x_24)
        let x_26 : Int64 := (x_25 - 96)
        if x5 ≤ 0 then (
          x_26) else (
          let x_31 : Int64 := (x_26 * 32)
          let x_32 : Int64 := ((x5).toInt64)
          let x_33 : Int64 := (x_31 + x_32)
          let x_34 : Int64 := (x_33 - 96)
          x_34))) else (
      let x_37 : Int64 := (x_6 * 32)
      let x_38 : Int64 := ((x3).toInt64)
      let x_39 : Int64 := (x_37 + x_38)
      let x_40 : Int64 := (x_39 - 96)
      if x4 ≤ 0 then (
        if x5 ≤ 0 then (
          x_40) else (
          let x_47 : Int64 := (x_40 * 32)
          let x_48 : Int64 := ((x5).toInt64)
          let x_49 : Int64 := (x_47 + x_48)
          let x_50 : Int64 := (x_49 - 96)
          x_50)) else (
        let x_53 : Int64 := (x_40 * 32)
        let x_54 : Int64 := ((x4).toInt64)
        let x_55 : Int64 := (x_53 + x_54)
        let x_56 : Int64 := (x_55 - 96)
        if x5 ≤ 0 then (
          x_56) else (
          let x_61 : Int64 := (x_56 * 32)
          let x_62 : Int64 := ((x5).toInt64)
          let x_63 : Int64 := (x_61 + x_62)
          let x_64 : Int64 := (x_63 - 96)
          x_64)))) else (
    let x_67 : Int64 := (x_6 * 32)
    let x_68 : Int64 := ((x2).toInt64)
    let x_69 : Int64 := (x_67 + x_68)
    let x_70 : Int64 := (x_69 - 96)
    if x3 ≤ 0 then (
      if x4 ≤ 0 then (
        if x5 ≤ 0 then (
          x_70) else (
          let x_79 : Int64 := (x_70 * 32)
          let x_80 : Int64 := ((x5).toInt64)
          let x_81 : Int64 := (x_79 + x_80)
          let x_82 : Int64 := (x_81 - 96)
          x_82)) else (
        let x_85 : Int64 := (x_70 * 32)
        let x_86 : Int64 := ((x4).toInt64)
        let x_87 : Int64 := (x_85 + x_86)
        let x_88 : Int64 := (x_87 - 96)
        if x5 ≤ 0 then (
          x_88) else (
          let x_93 : Int64 := (x_88 * 32)
          let x_94 : Int64 := ((x5).toInt64)
          let x_95 : Int64 := (x_93 + x_94)
          let x_96 : Int64 := (x_95 - 96)
          x_96))) else (
      let x_99 : Int64 := (x_70 * 32)
      let x_100 : Int64 := ((x3).toInt64)
      let x_101 : Int64 := (x_99 + x_100)
      let x_102 : Int64 := (x_101 - 96)
      if x4 ≤ 0 then (
        if x5 ≤ 0 then (
          x_102) else (
          let x_109 : Int64 := (x_102 * 32)
          let x_110 : Int64 := ((x5).toInt64)
          let x_111 : Int64 := (x_109 + x_110)
          let x_112 : Int64 := (x_111 - 96)
          x_112)) else (
        let x_115 : Int64 := (x_102 * 32)
        let x_116 : Int64 := ((x4).toInt64)
        let x_117 : Int64 := (x_115 + x_116)
        let x_118 : Int64 := (x_117 - 96)
        if x5 ≤ 0 then (
          x_118) else (
          let x_123 : Int64 := (x_118 * 32)
          let x_124 : Int64 := ((x5).toInt64)
          let x_125 : Int64 := (x_123 + x_124)
          let x_126 : Int64 := (x_125 - 96)
          x_126))))) := rfl
noncomputable def F_r_bits (x : Int32) : Int32 :=
  let x_1 : Int32 := (x &&& 1)
  let x_2 : Int32 := (x >>> (1 &&& 31))
  let x_3 : Int32 := (x_2 &&& 1)
  let x_4 : Int32 := (x_1 + x_3)
  let x_5 : Int32 := (x >>> (2 &&& 31))
  let x_6 : Int32 := (x_5 &&& 1)
  let x_7 : Int32 := (x_4 + x_6)
  x_7
theorem F_r_bits_s (x : Int32) : F_r_bits x = (
  let x_1 : Int32 := (x &&& 1)
  let x_2 : Int32 := (x >>> (1 &&& 31))
  let x_3 : Int32 := (x_2 &&& 1)
  let x_4 : Int32 := (x_1 + x_3)
  let x_5 : Int32 := (x >>> (2 &&& 31))
  let x_6 : Int32 := (x_5 &&& 1)
  let x_7 : Int32 := (x_4 + x_6)
  x_7) := rfl
noncomputable def F_r_look2 (m_textEnd : Int32) (g_tape : Nat → Int32) (pp : Int32) : Int32 :=
  if m_textEnd ≤ pp then (
    (0 : Int32)) else (
    let x_5 : Int32 := (g_tape (pp : Int32).toNatClampNeg)
    let x_6 : Int32 := (x_5 &&& 255)
    x_6)
theorem F_r_look2_s (m_textEnd : Int32) (g_tape : Nat → Int32) (pp : Int32) : F_r_look2 m_textEnd g_tape pp = (
  if m_textEnd ≤ pp then (
    (0 : Int32)) else (
    let x_5 : Int32 := (g_tape (pp : Int32).toNatClampNeg)
    let x_6 : Int32 := (x_5 &&& 255)
    x_6)) := rfl
noncomputable def F_r_isWord (m_token : Int32) (m_word : Int64) (w : Int64) : Int32 :=
  if m_token = 1 then (
    if (lg_cmp m_word w) = 0 then (
      (1 : Int32)) else (
      (0 : Int32))) else (
    (0 : Int32))
theorem F_r_isWord_s (m_token : Int32) (m_word : Int64) (w : Int64) : F_r_isWord m_token m_word w = (
  if m_token = 1 then (
    if (lg_cmp m_word w) = 0 then (
      (1 : Int32)) else (
      (0 : Int32))) else (
    (0 : Int32))) := rfl
noncomputable def F_r_isSign (m_token : Int32) (m_number : Int32) (x : Int32) : Int32 :=
  if m_token = 3 then (
    if m_number = x then (
      (1 : Int32)) else (
      (0 : Int32))) else (
    (0 : Int32))
theorem F_r_isSign_s (m_token : Int32) (m_number : Int32) (x : Int32) : F_r_isSign m_token m_number x = (
  if m_token = 3 then (
    if m_number = x then (
      (1 : Int32)) else (
      (0 : Int32))) else (
    (0 : Int32))) := rfl
noncomputable def F_r_next2_L210a (m_textEnd : Int32) (m_letters : Int32) (m_word : Int64) (g_tape : Nat → Int32) (v_44 : Int32) : Nat → Int32 → Int32 → (Int32 × Int32 × Int32 × Int32 × Int32 × Int64) := fun k9 => Nat.rec (motive := fun _ => Int32 → Int32 → (Int32 × Int32 × Int32 × Int32 × Int32 × Int64)) (fun _ _ => default) (fun _ (G_L210a : Int32 → Int32 → (Int32 × Int32 × Int32 × Int32 × Int32 × Int64)) => fun (v_1040 : Int32) (v_1041 : Int32) =>
    let w_1106 := F_r_look2 m_textEnd g_tape v_1040
    let r_1104 : Int32 := w_1106
    let w_1111 := F_r_isDigit r_1104
    let r_1109 : Int32 := w_1111
    if r_1109 = 0 then (
      let x_1114 : Int32 := (v_1040 - v_44)
      if x_1114 ≤ 4 then (
        ((2 : Int32), v_44, v_1040, v_1041, m_letters, m_word)) else (
        ((4 : Int32), v_44, v_1040, v_1041, m_letters, m_word))) else
    (
      let x_1120 : Int32 := (v_1040 - v_44)
      if 4 ≤ x_1120 then (
        let x_1123 : Int32 := (v_1040 + 1)
        G_L210a x_1123 v_1041) else (
        let x_1127 : Int32 := ((10 : Int32) * v_1041)
        let w_1130 := F_r_look2 m_textEnd g_tape v_1040
        let r_1128 : Int32 := w_1130
        let x_1133 : Int32 := (x_1127 + r_1128)
        let x_1134 : Int32 := (x_1133 - 48)
        let x_1136 : Int32 := (v_1040 + 1)
        G_L210a x_1136 x_1134))) k9
theorem F_r_next2_L210a_s (m_textEnd : Int32) (m_letters : Int32) (m_word : Int64) (g_tape : Nat → Int32) (v_44 : Int32) (n9 : Nat) (v_1040 : Int32) (v_1041 : Int32) : F_r_next2_L210a m_textEnd m_letters m_word g_tape v_44 (n9 + 1) v_1040 v_1041 = (
    let w_1106 := F_r_look2 m_textEnd g_tape v_1040
    let r_1104 : Int32 := w_1106
    let w_1111 := F_r_isDigit r_1104
    let r_1109 : Int32 := w_1111
    if r_1109 = 0 then (
      let x_1114 : Int32 := (v_1040 - v_44)
      if x_1114 ≤ 4 then (
        ((2 : Int32), v_44, v_1040, v_1041, m_letters, m_word)) else (
        ((4 : Int32), v_44, v_1040, v_1041, m_letters, m_word))) else
    (
      let x_1120 : Int32 := (v_1040 - v_44)
      if 4 ≤ x_1120 then (
        let x_1123 : Int32 := (v_1040 + 1)
        (F_r_next2_L210a m_textEnd m_letters m_word g_tape v_44 n9) x_1123 v_1041) else (
        let x_1127 : Int32 := ((10 : Int32) * v_1041)
        let w_1130 := F_r_look2 m_textEnd g_tape v_1040
        let r_1128 : Int32 := w_1130
        let x_1133 : Int32 := (x_1127 + r_1128)
        let x_1134 : Int32 := (x_1133 - 48)
        let x_1136 : Int32 := (v_1040 + 1)
        (F_r_next2_L210a m_textEnd m_letters m_word g_tape v_44 n9) x_1136 x_1134))) := rfl
noncomputable def F_r_next2_L109a (m_textEnd : Int32) (m_number : Int32) (g_tape : Nat → Int32) (v_44 : Int32) : Nat → Int32 → Int64 → (Int32 × Int32 × Int32 × Int32 × Int32 × Int64) := fun k9 => Nat.rec (motive := fun _ => Int32 → Int64 → (Int32 × Int32 × Int32 × Int32 × Int32 × Int64)) (fun _ _ => default) (fun _ (G_L109a : Int32 → Int64 → (Int32 × Int32 × Int32 × Int32 × Int32 × Int64)) => fun (v_1311 : Int32) (v_1312 : Int64) =>
    let w_1374 := F_r_look2 m_textEnd g_tape v_1311
    let r_1372 : Int32 := w_1374
    let w_1379 := F_r_isLetter r_1372
    let r_1377 : Int32 := w_1379
    if r_1377 = 0 then (
      let x_1382 : Int32 := (v_1311 - v_44)
      ((1 : Int32), v_44, v_1311, m_number, x_1382, v_1312)) else
    (
      let x_1385 : Int32 := (v_1311 - v_44)
      if 8 ≤ x_1385 then (
        let x_1388 : Int32 := (v_1311 + 1)
        G_L109a x_1388 (-1)) else (
        let x_1392 : Int64 := (v_1312 * 32)
        let w_1395 := F_r_look2 m_textEnd g_tape v_1311
        let r_1393 : Int32 := w_1395
        let x_1398 : Int64 := ((r_1393).toInt64)
        let x_1399 : Int64 := (x_1392 + x_1398)
        let x_1400 : Int64 := (x_1399 - 96)
        let x_1401 : Int32 := (v_1311 + 1)
        G_L109a x_1401 x_1400))) k9
theorem F_r_next2_L109a_s (m_textEnd : Int32) (m_number : Int32) (g_tape : Nat → Int32) (v_44 : Int32) (n9 : Nat) (v_1311 : Int32) (v_1312 : Int64) : F_r_next2_L109a m_textEnd m_number g_tape v_44 (n9 + 1) v_1311 v_1312 = (
    let w_1374 := F_r_look2 m_textEnd g_tape v_1311
    let r_1372 : Int32 := w_1374
    let w_1379 := F_r_isLetter r_1372
    let r_1377 : Int32 := w_1379
    if r_1377 = 0 then (
      let x_1382 : Int32 := (v_1311 - v_44)
      ((1 : Int32), v_44, v_1311, m_number, x_1382, v_1312)) else
    (
      let x_1385 : Int32 := (v_1311 - v_44)
      if 8 ≤ x_1385 then (
        let x_1388 : Int32 := (v_1311 + 1)
        (F_r_next2_L109a m_textEnd m_number g_tape v_44 n9) x_1388 (-1)) else (
        let x_1392 : Int64 := (v_1312 * 32)
        let w_1395 := F_r_look2 m_textEnd g_tape v_1311
        let r_1393 : Int32 := w_1395
        let x_1398 : Int64 := ((r_1393).toInt64)
        let x_1399 : Int64 := (x_1392 + x_1398)
        let x_1400 : Int64 := (x_1399 - 96)
        let x_1401 : Int32 := (v_1311 + 1)
        (F_r_next2_L109a m_textEnd m_number g_tape v_44 n9) x_1401 x_1400))) := rfl
noncomputable def F_r_next2_L210b (m_textEnd : Int32) (m_letters : Int32) (m_word : Int64) (g_tape : Nat → Int32) (v_44 : Int32) : Nat → Int32 → Int32 → (Int32 × Int32 × Int32 × Int32 × Int32 × Int64) := fun k9 => Nat.rec (motive := fun _ => Int32 → Int32 → (Int32 × Int32 × Int32 × Int32 × Int32 × Int64)) (fun _ _ => default) (fun _ (G_L210b : Int32 → Int32 → (Int32 × Int32 × Int32 × Int32 × Int32 × Int64)) => fun (v_1503 : Int32) (v_1504 : Int32) =>
    let w_1569 := F_r_look2 m_textEnd g_tape v_1503
    let r_1567 : Int32 := w_1569
    let w_1574 := F_r_isDigit r_1567
    let r_1572 : Int32 := w_1574
    if r_1572 = 0 then (
      let x_1577 : Int32 := (v_1503 - v_44)
      if x_1577 ≤ 4 then (
        ((2 : Int32), v_44, v_1503, v_1504, m_letters, m_word)) else (
        ((4 : Int32), v_44, v_1503, v_1504, m_letters, m_word))) else
    (
      let x_1583 : Int32 := (v_1503 - v_44)
      if 4 ≤ x_1583 then (
        let x_1586 : Int32 := (v_1503 + 1)
        G_L210b x_1586 v_1504) else (
        let x_1590 : Int32 := ((10 : Int32) * v_1504)
        let w_1593 := F_r_look2 m_textEnd g_tape v_1503
        let r_1591 : Int32 := w_1593
        let x_1596 : Int32 := (x_1590 + r_1591)
        let x_1597 : Int32 := (x_1596 - 48)
        let x_1599 : Int32 := (v_1503 + 1)
        G_L210b x_1599 x_1597))) k9
theorem F_r_next2_L210b_s (m_textEnd : Int32) (m_letters : Int32) (m_word : Int64) (g_tape : Nat → Int32) (v_44 : Int32) (n9 : Nat) (v_1503 : Int32) (v_1504 : Int32) : F_r_next2_L210b m_textEnd m_letters m_word g_tape v_44 (n9 + 1) v_1503 v_1504 = (
    let w_1569 := F_r_look2 m_textEnd g_tape v_1503
    let r_1567 : Int32 := w_1569
    let w_1574 := F_r_isDigit r_1567
    let r_1572 : Int32 := w_1574
    if r_1572 = 0 then (
      let x_1577 : Int32 := (v_1503 - v_44)
      if x_1577 ≤ 4 then (
        ((2 : Int32), v_44, v_1503, v_1504, m_letters, m_word)) else (
        ((4 : Int32), v_44, v_1503, v_1504, m_letters, m_word))) else
    (
      let x_1583 : Int32 := (v_1503 - v_44)
      if 4 ≤ x_1583 then (
        let x_1586 : Int32 := (v_1503 + 1)
        (F_r_next2_L210b m_textEnd m_letters m_word g_tape v_44 n9) x_1586 v_1504) else (
        let x_1590 : Int32 := ((10 : Int32) * v_1504)
        let w_1593 := F_r_look2 m_textEnd g_tape v_1503
        let r_1591 : Int32 := w_1593
        let x_1596 : Int32 := (x_1590 + r_1591)
        let x_1597 : Int32 := (x_1596 - 48)
        let x_1599 : Int32 := (v_1503 + 1)
        (F_r_next2_L210b m_textEnd m_letters m_word g_tape v_44 n9) x_1599 x_1597))) := rfl
noncomputable def F_r_next2_L109b (m_textEnd : Int32) (m_number : Int32) (g_tape : Nat → Int32) (v_44 : Int32) : Nat → Int32 → Int64 → (Int32 × Int32 × Int32 × Int32 × Int32 × Int64) := fun k9 => Nat.rec (motive := fun _ => Int32 → Int64 → (Int32 × Int32 × Int32 × Int32 × Int32 × Int64)) (fun _ _ => default) (fun _ (G_L109b : Int32 → Int64 → (Int32 × Int32 × Int32 × Int32 × Int32 × Int64)) => fun (v_1774 : Int32) (v_1775 : Int64) =>
    let w_1837 := F_r_look2 m_textEnd g_tape v_1774
    let r_1835 : Int32 := w_1837
    let w_1842 := F_r_isLetter r_1835
    let r_1840 : Int32 := w_1842
    if r_1840 = 0 then (
      let x_1845 : Int32 := (v_1774 - v_44)
      ((1 : Int32), v_44, v_1774, m_number, x_1845, v_1775)) else
    (
      let x_1848 : Int32 := (v_1774 - v_44)
      if 8 ≤ x_1848 then (
        let x_1851 : Int32 := (v_1774 + 1)
        G_L109b x_1851 (-1)) else (
        let x_1855 : Int64 := (v_1775 * 32)
        let w_1858 := F_r_look2 m_textEnd g_tape v_1774
        let r_1856 : Int32 := w_1858
        let x_1861 : Int64 := ((r_1856).toInt64)
        let x_1862 : Int64 := (x_1855 + x_1861)
        let x_1863 : Int64 := (x_1862 - 96)
        let x_1864 : Int32 := (v_1774 + 1)
        G_L109b x_1864 x_1863))) k9
theorem F_r_next2_L109b_s (m_textEnd : Int32) (m_number : Int32) (g_tape : Nat → Int32) (v_44 : Int32) (n9 : Nat) (v_1774 : Int32) (v_1775 : Int64) : F_r_next2_L109b m_textEnd m_number g_tape v_44 (n9 + 1) v_1774 v_1775 = (
    let w_1837 := F_r_look2 m_textEnd g_tape v_1774
    let r_1835 : Int32 := w_1837
    let w_1842 := F_r_isLetter r_1835
    let r_1840 : Int32 := w_1842
    if r_1840 = 0 then (
      let x_1845 : Int32 := (v_1774 - v_44)
      ((1 : Int32), v_44, v_1774, m_number, x_1845, v_1775)) else
    (
      let x_1848 : Int32 := (v_1774 - v_44)
      if 8 ≤ x_1848 then (
        let x_1851 : Int32 := (v_1774 + 1)
        (F_r_next2_L109b m_textEnd m_number g_tape v_44 n9) x_1851 (-1)) else (
        let x_1855 : Int64 := (v_1775 * 32)
        let w_1858 := F_r_look2 m_textEnd g_tape v_1774
        let r_1856 : Int32 := w_1858
        let x_1861 : Int64 := ((r_1856).toInt64)
        let x_1862 : Int64 := (x_1855 + x_1861)
        let x_1863 : Int64 := (x_1862 - 96)
        let x_1864 : Int32 := (v_1774 + 1)
        (F_r_next2_L109b m_textEnd m_number g_tape v_44 n9) x_1864 x_1863))) := rfl
noncomputable def F_r_next2_L8a (m_textEnd : Int32) (m_number : Int32) (m_letters : Int32) (m_word : Int64) (g_tape : Nat → Int32) : Nat → Int32 → (Int32 × Int32 × Int32 × Int32 × Int32 × Int64) := fun k9 => Nat.rec (motive := fun _ => Int32 → (Int32 × Int32 × Int32 × Int32 × Int32 × Int64)) (fun _ => default) (fun _ (G_L8a : Int32 → (Int32 × Int32 × Int32 × Int32 × Int32 × Int64)) => fun (v_44 : Int32) =>
    if m_textEnd ≤ v_44 then (
      if v_44 < m_textEnd then (
        let w_966 := F_r_look2 m_textEnd g_tape v_44
        let r_964 : Int32 := w_966
        let w_971 := F_r_isLetter r_964
        let r_969 : Int32 := w_971
        if r_969 = 0 then (
          let w_976 := F_r_isDigit r_964
          let r_974 : Int32 := w_976
          if r_974 = 0 then (
            let x_979 : Int32 := (v_44 + 1)
            let w_982 := F_r_isSignByte r_964
            let r_980 : Int32 := w_982
            if r_980 = 0 then (
              ((4 : Int32), v_44, x_979, r_964, m_letters, m_word)) else
            (
              ((3 : Int32), v_44, x_979, r_964, m_letters, m_word))) else
          (
            F_r_next2_L210a m_textEnd m_letters m_word g_tape v_44 ((2147483647 - v_44.toInt).toNat + 1) v_44 (0 : Int32))) else
        (
          F_r_next2_L109a m_textEnd m_number g_tape v_44 ((2147483647 - v_44.toInt).toNat + 1) v_44 (0 : Int64))) else (
        ((0 : Int32), v_44, v_44, m_number, m_letters, m_word))) else (
      let w_1410 := F_r_look2 m_textEnd g_tape v_44
      let r_1408 : Int32 := w_1410
      if r_1408 = 10 then (
        let x_1415 : Int32 := (v_44 + 1)
        G_L8a x_1415) else (
        let w_1420 := F_r_look2 m_textEnd g_tape v_44
        let r_1418 : Int32 := w_1420
        if r_1418 = 32 then (
          let x_1871 : Int32 := (v_44 + 1)
          G_L8a x_1871) else (
          if v_44 < m_textEnd then (
            let w_1429 := F_r_look2 m_textEnd g_tape v_44
            let r_1427 : Int32 := w_1429
            let w_1434 := F_r_isLetter r_1427
            let r_1432 : Int32 := w_1434
            if r_1432 = 0 then (
              let w_1439 := F_r_isDigit r_1427
              let r_1437 : Int32 := w_1439
              if r_1437 = 0 then (
                let x_1442 : Int32 := (v_44 + 1)
                let w_1445 := F_r_isSignByte r_1427
                let r_1443 : Int32 := w_1445
                if r_1443 = 0 then (
                  ((4 : Int32), v_44, x_1442, r_1427, m_letters, m_word)) else
                (
                  ((3 : Int32), v_44, x_1442, r_1427, m_letters, m_word))) else
              (
                F_r_next2_L210b m_textEnd m_letters m_word g_tape v_44 ((2147483647 - v_44.toInt).toNat + 1) v_44 (0 : Int32))) else
            (
              F_r_next2_L109b m_textEnd m_number g_tape v_44 ((2147483647 - v_44.toInt).toNat + 1) v_44 (0 : Int64))) else (
            ((0 : Int32), v_44, v_44, m_number, m_letters, m_word)))))) k9
theorem F_r_next2_L8a_s (m_textEnd : Int32) (m_number : Int32) (m_letters : Int32) (m_word : Int64) (g_tape : Nat → Int32) (n9 : Nat) (v_44 : Int32) : F_r_next2_L8a m_textEnd m_number m_letters m_word g_tape (n9 + 1) v_44 = (
    if m_textEnd ≤ v_44 then (
      if v_44 < m_textEnd then (
        let w_966 := F_r_look2 m_textEnd g_tape v_44
        let r_964 : Int32 := w_966
        let w_971 := F_r_isLetter r_964
        let r_969 : Int32 := w_971
        if r_969 = 0 then (
          let w_976 := F_r_isDigit r_964
          let r_974 : Int32 := w_976
          if r_974 = 0 then (
            let x_979 : Int32 := (v_44 + 1)
            let w_982 := F_r_isSignByte r_964
            let r_980 : Int32 := w_982
            if r_980 = 0 then (
              ((4 : Int32), v_44, x_979, r_964, m_letters, m_word)) else
            (
              ((3 : Int32), v_44, x_979, r_964, m_letters, m_word))) else
          (
            F_r_next2_L210a m_textEnd m_letters m_word g_tape v_44 ((2147483647 - v_44.toInt).toNat + 1) v_44 (0 : Int32))) else
        (
          F_r_next2_L109a m_textEnd m_number g_tape v_44 ((2147483647 - v_44.toInt).toNat + 1) v_44 (0 : Int64))) else (
        ((0 : Int32), v_44, v_44, m_number, m_letters, m_word))) else (
      let w_1410 := F_r_look2 m_textEnd g_tape v_44
      let r_1408 : Int32 := w_1410
      if r_1408 = 10 then (
        let x_1415 : Int32 := (v_44 + 1)
        (F_r_next2_L8a m_textEnd m_number m_letters m_word g_tape n9) x_1415) else (
        let w_1420 := F_r_look2 m_textEnd g_tape v_44
        let r_1418 : Int32 := w_1420
        if r_1418 = 32 then (
          let x_1871 : Int32 := (v_44 + 1)
          (F_r_next2_L8a m_textEnd m_number m_letters m_word g_tape n9) x_1871) else (
          if v_44 < m_textEnd then (
            let w_1429 := F_r_look2 m_textEnd g_tape v_44
            let r_1427 : Int32 := w_1429
            let w_1434 := F_r_isLetter r_1427
            let r_1432 : Int32 := w_1434
            if r_1432 = 0 then (
              let w_1439 := F_r_isDigit r_1427
              let r_1437 : Int32 := w_1439
              if r_1437 = 0 then (
                let x_1442 : Int32 := (v_44 + 1)
                let w_1445 := F_r_isSignByte r_1427
                let r_1443 : Int32 := w_1445
                if r_1443 = 0 then (
                  ((4 : Int32), v_44, x_1442, r_1427, m_letters, m_word)) else
                (
                  ((3 : Int32), v_44, x_1442, r_1427, m_letters, m_word))) else
              (
                F_r_next2_L210b m_textEnd m_letters m_word g_tape v_44 ((2147483647 - v_44.toInt).toNat + 1) v_44 (0 : Int32))) else
            (
              F_r_next2_L109b m_textEnd m_number g_tape v_44 ((2147483647 - v_44.toInt).toNat + 1) v_44 (0 : Int64))) else (
            ((0 : Int32), v_44, v_44, m_number, m_letters, m_word)))))) := rfl
noncomputable def F_r_next2 (m_textEnd : Int32) (m_behind : Int32) (m_number : Int32) (m_letters : Int32) (m_word : Int64) (g_tape : Nat → Int32) : Int32 × Int32 × Int32 × Int32 × Int32 × Int64 :=
  F_r_next2_L8a m_textEnd m_number m_letters m_word g_tape ((2147483647 - m_behind.toInt).toNat + 1) m_behind
theorem F_r_next2_s (m_textEnd : Int32) (m_behind : Int32) (m_number : Int32) (m_letters : Int32) (m_word : Int64) (g_tape : Nat → Int32) : F_r_next2 m_textEnd m_behind m_number m_letters m_word g_tape = (
  F_r_next2_L8a m_textEnd m_number m_letters m_word g_tape ((2147483647 - m_behind.toInt).toNat + 1) m_behind) := rfl
noncomputable def F_r_fail (m_bad : Int32) (m_badAt : Int32) (k : Int32) (pp : Int32) : Int32 × Int32 :=
  if m_bad ≤ 0 then (
    (k, pp)) else (
    (m_bad, m_badAt))
theorem F_r_fail_s (m_bad : Int32) (m_badAt : Int32) (k : Int32) (pp : Int32) : F_r_fail m_bad m_badAt k pp = (
  if m_bad ≤ 0 then (
    (k, pp)) else (
    (m_bad, m_badAt))) := rfl
noncomputable def F_r_wrong (m_bad : Int32) (m_badAt : Int32) (m_token : Int32) (m_at : Int32) : Int32 × Int32 :=
  if m_token = 4 then (
    let w_15 := F_r_fail m_bad m_badAt 1 m_at
    let n_11 : Int32 := w_15.1
    let n_12 : Int32 := w_15.2
    (n_11, n_12)) else (
    let w_7 := F_r_fail m_bad m_badAt 2 m_at
    let n_3 : Int32 := w_7.1
    let n_4 : Int32 := w_7.2
    (n_3, n_4))
theorem F_r_wrong_s (m_bad : Int32) (m_badAt : Int32) (m_token : Int32) (m_at : Int32) : F_r_wrong m_bad m_badAt m_token m_at = (
  if m_token = 4 then (
    let w_15 := F_r_fail m_bad m_badAt 1 m_at
    let n_11 : Int32 := w_15.1
    let n_12 : Int32 := w_15.2
    (n_11, n_12)) else (
    let w_7 := F_r_fail m_bad m_badAt 2 m_at
    let n_3 : Int32 := w_7.1
    let n_4 : Int32 := w_7.2
    (n_3, n_4))) := rfl
noncomputable def F_r_must_0 (m_bad : Int32) (m_badAt : Int32) (m_token : Int32) (m_at : Int32) : Int32 × Int32 :=
  if m_bad ≤ 0 then (
    let w_7 := F_r_wrong m_bad m_badAt m_token m_at
    let n_3 : Int32 := w_7.1
    let n_4 : Int32 := w_7.2
    (n_3, n_4)) else (
    (m_bad, m_badAt))
theorem F_r_must_0_s (m_bad : Int32) (m_badAt : Int32) (m_token : Int32) (m_at : Int32) : F_r_must_0 m_bad m_badAt m_token m_at = (
  if m_bad ≤ 0 then (
    let w_7 := F_r_wrong m_bad m_badAt m_token m_at
    let n_3 : Int32 := w_7.1
    let n_4 : Int32 := w_7.2
    (n_3, n_4)) else (
    (m_bad, m_badAt))) := rfl
noncomputable def F_r_must_1 (m_textEnd : Int32) (m_bad : Int32) (m_token : Int32) (m_at : Int32) (m_behind : Int32) (m_number : Int32) (m_letters : Int32) (m_word : Int64) (g_tape : Nat → Int32) : Int32 × Int32 × Int32 × Int32 × Int32 × Int64 :=
  if m_bad ≤ 0 then (
    let w_11 := F_r_next2 m_textEnd m_behind m_number m_letters m_word g_tape
    let n_3 : Int32 := w_11.1
    let n_4 : Int32 := w_11.2.1
    let n_5 : Int32 := w_11.2.2.1
    let n_6 : Int32 := w_11.2.2.2.1
    let n_7 : Int32 := w_11.2.2.2.2.1
    let n_8 : Int64 := w_11.2.2.2.2.2
    (n_3, n_4, n_5, n_6, n_7, n_8)) else (
    (m_token, m_at, m_behind, m_number, m_letters, m_word))
theorem F_r_must_1_s (m_textEnd : Int32) (m_bad : Int32) (m_token : Int32) (m_at : Int32) (m_behind : Int32) (m_number : Int32) (m_letters : Int32) (m_word : Int64) (g_tape : Nat → Int32) : F_r_must_1 m_textEnd m_bad m_token m_at m_behind m_number m_letters m_word g_tape = (
  if m_bad ≤ 0 then (
    let w_11 := F_r_next2 m_textEnd m_behind m_number m_letters m_word g_tape
    let n_3 : Int32 := w_11.1
    let n_4 : Int32 := w_11.2.1
    let n_5 : Int32 := w_11.2.2.1
    let n_6 : Int32 := w_11.2.2.2.1
    let n_7 : Int32 := w_11.2.2.2.2.1
    let n_8 : Int64 := w_11.2.2.2.2.2
    (n_3, n_4, n_5, n_6, n_7, n_8)) else (
    (m_token, m_at, m_behind, m_number, m_letters, m_word))) := rfl
noncomputable def F_r_count (m_textEnd : Int32) (m_bad : Int32) (m_badAt : Int32) (m_token : Int32) (m_at : Int32) (m_behind : Int32) (m_number : Int32) (m_letters : Int32) (m_word : Int64) (g_tape : Nat → Int32) (a : Int32) (b : Int32) : Int32 × Int32 × Int32 × Int32 × Int32 × Int32 × Int32 × Int32 × Int64 :=
  if m_bad = 0 then (
    if m_token = 2 then (
      let x_13 : Int64 := ((m_number).toInt64)
      let x_14 : Int64 := ((a).toInt64)
      let x_15 : Int64 := ((b).toInt64)
      let w_18 := F_r_isIn x_13 x_14 x_15
      let r_16 : Int32 := w_18
      if r_16 = 0 then (
        let w_25 := F_r_fail m_bad m_badAt 4 m_at
        let n_21 : Int32 := w_25.1
        let n_22 : Int32 := w_25.2
        ((0 : Int32), n_21, n_22, m_token, m_at, m_behind, m_number, m_letters, m_word)) else
      (
        let w_40 := F_r_next2 m_textEnd m_behind m_number m_letters m_word g_tape
        let n_32 : Int32 := w_40.1
        let n_33 : Int32 := w_40.2.1
        let n_34 : Int32 := w_40.2.2.1
        let n_35 : Int32 := w_40.2.2.2.1
        let n_36 : Int32 := w_40.2.2.2.2.1
        let n_37 : Int64 := w_40.2.2.2.2.2
        (m_number, m_bad, m_badAt, n_32, n_33, n_34, n_35, n_36, n_37))) else (
      let w_49 := F_r_wrong m_bad m_badAt m_token m_at
      let n_45 : Int32 := w_49.1
      let n_46 : Int32 := w_49.2
      ((0 : Int32), n_45, n_46, m_token, m_at, m_behind, m_number, m_letters, m_word))) else (
    ((0 : Int32), m_bad, m_badAt, m_token, m_at, m_behind, m_number, m_letters, m_word))
theorem F_r_count_s (m_textEnd : Int32) (m_bad : Int32) (m_badAt : Int32) (m_token : Int32) (m_at : Int32) (m_behind : Int32) (m_number : Int32) (m_letters : Int32) (m_word : Int64) (g_tape : Nat → Int32) (a : Int32) (b : Int32) : F_r_count m_textEnd m_bad m_badAt m_token m_at m_behind m_number m_letters m_word g_tape a b = (
  if m_bad = 0 then (
    if m_token = 2 then (
      let x_13 : Int64 := ((m_number).toInt64)
      let x_14 : Int64 := ((a).toInt64)
      let x_15 : Int64 := ((b).toInt64)
      let w_18 := F_r_isIn x_13 x_14 x_15
      let r_16 : Int32 := w_18
      if r_16 = 0 then (
        let w_25 := F_r_fail m_bad m_badAt 4 m_at
        let n_21 : Int32 := w_25.1
        let n_22 : Int32 := w_25.2
        ((0 : Int32), n_21, n_22, m_token, m_at, m_behind, m_number, m_letters, m_word)) else
      (
        let w_40 := F_r_next2 m_textEnd m_behind m_number m_letters m_word g_tape
        let n_32 : Int32 := w_40.1
        let n_33 : Int32 := w_40.2.1
        let n_34 : Int32 := w_40.2.2.1
        let n_35 : Int32 := w_40.2.2.2.1
        let n_36 : Int32 := w_40.2.2.2.2.1
        let n_37 : Int64 := w_40.2.2.2.2.2
        (m_number, m_bad, m_badAt, n_32, n_33, n_34, n_35, n_36, n_37))) else (
      let w_49 := F_r_wrong m_bad m_badAt m_token m_at
      let n_45 : Int32 := w_49.1
      let n_46 : Int32 := w_49.2
      ((0 : Int32), n_45, n_46, m_token, m_at, m_behind, m_number, m_letters, m_word))) else (
    ((0 : Int32), m_bad, m_badAt, m_token, m_at, m_behind, m_number, m_letters, m_word))) := rfl
noncomputable def F_r_layByte_L2a (x : Int32) : Nat → Int32 → Int32 → (Nat → Int32) → (Int32 × (Nat → Int32)) := fun k9 => Nat.rec (motive := fun _ => Int32 → Int32 → (Nat → Int32) → (Int32 × (Nat → Int32))) (fun _ _ _ => default) (fun _ (G_L2a : Int32 → Int32 → (Nat → Int32) → (Int32 × (Nat → Int32))) => fun (v_55 : Int32) (v_56 : Int32) (g_57 : Nat → Int32) =>
    if v_55 < 0 then (
      (v_56, g_57)) else (
      let x_85 : Int32 := ((8 : Int32) * v_55)
      let x_86 : Int32 := (x >>> (x_85 &&& 31))
      let x_87 : Int32 := ((x_86).toInt8.toInt32)
      let g_88 : Nat → Int32 := (upd g_57 (v_56 : Int32).toNatClampNeg (vp_nar .byte x_87))
      let x_90 : Int32 := (v_56 + 1)
      let x_91 : Int32 := (v_55 + (-1))
      G_L2a x_91 x_90 g_88)) k9
theorem F_r_layByte_L2a_s (x : Int32) (n9 : Nat) (v_55 : Int32) (v_56 : Int32) (g_57 : Nat → Int32) : F_r_layByte_L2a x (n9 + 1) v_55 v_56 g_57 = (
    if v_55 < 0 then (
      (v_56, g_57)) else (
      let x_85 : Int32 := ((8 : Int32) * v_55)
      let x_86 : Int32 := (x >>> (x_85 &&& 31))
      let x_87 : Int32 := ((x_86).toInt8.toInt32)
      let g_88 : Nat → Int32 := (upd g_57 (v_56 : Int32).toNatClampNeg (vp_nar .byte x_87))
      let x_90 : Int32 := (v_56 + 1)
      let x_91 : Int32 := (v_55 + (-1))
      (F_r_layByte_L2a x n9) x_91 x_90 g_88)) := rfl
noncomputable def F_r_layByte (m_taped : Int32) (g_tape : Nat → Int32) (x : Int32) : Int32 × (Nat → Int32) :=
  F_r_layByte_L2a x (((3 : Int32).toInt + 2147483648).toNat + 1) (3 : Int32) m_taped g_tape
theorem F_r_layByte_s (m_taped : Int32) (g_tape : Nat → Int32) (x : Int32) : F_r_layByte m_taped g_tape x = (
  F_r_layByte_L2a x (((3 : Int32).toInt + 2147483648).toNat + 1) (3 : Int32) m_taped g_tape) := rfl
noncomputable def F_r_feed (m_taped : Int32) (g_tape : Nat → Int32) (x0 : Int32) (x1 : Int32) (x2 : Int32) (x3 : Int32) (x4 : Int32) : Int32 × Int32 × Int32 × (Nat → Int32) :=
  let x_1 : Int32 := (m_taped + 20)
  if x_1 ≤ 900 then (
    let w_8 := F_r_layByte m_taped g_tape x0
    let n_4 : Int32 := w_8.1
    let n_5 : Nat → Int32 := w_8.2
    let w_14 := F_r_layByte n_4 n_5 x1
    let n_10 : Int32 := w_14.1
    let n_11 : Nat → Int32 := w_14.2
    let w_20 := F_r_layByte n_10 n_11 x2
    let n_16 : Int32 := w_20.1
    let n_17 : Nat → Int32 := w_20.2
    let w_26 := F_r_layByte n_16 n_17 x3
    let n_22 : Int32 := w_26.1
    let n_23 : Nat → Int32 := w_26.2
    let w_32 := F_r_layByte n_22 n_23 x4
    let n_28 : Int32 := w_32.1
    let n_29 : Nat → Int32 := w_32.2
    (n_28, (0 : Int32), n_28, n_29)) else (
    ((-1 : Int32), (0 : Int32), m_taped, g_tape))
theorem F_r_feed_s (m_taped : Int32) (g_tape : Nat → Int32) (x0 : Int32) (x1 : Int32) (x2 : Int32) (x3 : Int32) (x4 : Int32) : F_r_feed m_taped g_tape x0 x1 x2 x3 x4 = (
  let x_1 : Int32 := (m_taped + 20)
  if x_1 ≤ 900 then (
    let w_8 := F_r_layByte m_taped g_tape x0
    let n_4 : Int32 := w_8.1
    let n_5 : Nat → Int32 := w_8.2
    let w_14 := F_r_layByte n_4 n_5 x1
    let n_10 : Int32 := w_14.1
    let n_11 : Nat → Int32 := w_14.2
    let w_20 := F_r_layByte n_10 n_11 x2
    let n_16 : Int32 := w_20.1
    let n_17 : Nat → Int32 := w_20.2
    let w_26 := F_r_layByte n_16 n_17 x3
    let n_22 : Int32 := w_26.1
    let n_23 : Nat → Int32 := w_26.2
    let w_32 := F_r_layByte n_22 n_23 x4
    let n_28 : Int32 := w_32.1
    let n_29 : Nat → Int32 := w_32.2
    (n_28, (0 : Int32), n_28, n_29)) else (
    ((-1 : Int32), (0 : Int32), m_taped, g_tape))) := rfl
noncomputable def F_r_begins (m_status : Int32) (m_taped : Int32) (m_textEnd : Int32) (m_bad : Int32) (m_token : Int32) (m_at : Int32) (m_behind : Int32) (m_number : Int32) (m_letters : Int32) (m_word : Int64) (g_tape : Nat → Int32) (nn : Int32) (k : Int32) : Int32 × Int32 × Int32 × Int32 × Int32 × Int32 × Int32 × Int32 × Int32 × Int32 × Int64 :=
  if nn < 0 then (
    let w_6 := F_r_no 5
    let r_4 : Int32 := w_6.1
    let n_3 : Int32 := w_6.2
    ((0 : Int32), n_3, m_taped, m_textEnd, m_bad, m_token, m_at, m_behind, m_number, m_letters, m_word)) else (
    if m_taped < nn then (
      let w_14 := F_r_no 5
      let r_12 : Int32 := w_14.1
      let n_11 : Int32 := w_14.2
      ((0 : Int32), n_11, m_taped, m_textEnd, m_bad, m_token, m_at, m_behind, m_number, m_letters, m_word)) else (
      if nn ≤ k then (
        let w_27 := F_r_next2 nn 0 m_number m_letters m_word g_tape
        let n_19 : Int32 := w_27.1
        let n_20 : Int32 := w_27.2.1
        let n_21 : Int32 := w_27.2.2.1
        let n_22 : Int32 := w_27.2.2.2.1
        let n_23 : Int32 := w_27.2.2.2.2.1
        let n_24 : Int64 := w_27.2.2.2.2.2
        ((1 : Int32), m_status, (0 : Int32), nn, (0 : Int32), n_19, n_20, n_21, n_22, n_23, n_24)) else (
        let w_35 := F_r_no 5
        let r_33 : Int32 := w_35.1
        let n_32 : Int32 := w_35.2
        ((0 : Int32), n_32, m_taped, m_textEnd, m_bad, m_token, m_at, m_behind, m_number, m_letters, m_word))))
theorem F_r_begins_s (m_status : Int32) (m_taped : Int32) (m_textEnd : Int32) (m_bad : Int32) (m_token : Int32) (m_at : Int32) (m_behind : Int32) (m_number : Int32) (m_letters : Int32) (m_word : Int64) (g_tape : Nat → Int32) (nn : Int32) (k : Int32) : F_r_begins m_status m_taped m_textEnd m_bad m_token m_at m_behind m_number m_letters m_word g_tape nn k = (
  if nn < 0 then (
    let w_6 := F_r_no 5
    let r_4 : Int32 := w_6.1
    let n_3 : Int32 := w_6.2
    ((0 : Int32), n_3, m_taped, m_textEnd, m_bad, m_token, m_at, m_behind, m_number, m_letters, m_word)) else (
    if m_taped < nn then (
      let w_14 := F_r_no 5
      let r_12 : Int32 := w_14.1
      let n_11 : Int32 := w_14.2
      ((0 : Int32), n_11, m_taped, m_textEnd, m_bad, m_token, m_at, m_behind, m_number, m_letters, m_word)) else (
      if nn ≤ k then (
        let w_27 := F_r_next2 nn 0 m_number m_letters m_word g_tape
        let n_19 : Int32 := w_27.1
        let n_20 : Int32 := w_27.2.1
        let n_21 : Int32 := w_27.2.2.1
        let n_22 : Int32 := w_27.2.2.2.1
        let n_23 : Int32 := w_27.2.2.2.2.1
        let n_24 : Int64 := w_27.2.2.2.2.2
        ((1 : Int32), m_status, (0 : Int32), nn, (0 : Int32), n_19, n_20, n_21, n_22, n_23, n_24)) else (
        let w_35 := F_r_no 5
        let r_33 : Int32 := w_35.1
        let n_32 : Int32 := w_35.2
        ((0 : Int32), n_32, m_taped, m_textEnd, m_bad, m_token, m_at, m_behind, m_number, m_letters, m_word))))) := rfl
noncomputable def F_r_isWell (m_status : Int32) (m_bad : Int32) (m_badAt : Int32) : Int32 × Int32 × Int32 × Int32 :=
  if m_bad = 0 then (
    ((1 : Int32), m_status, m_bad, (-1 : Int32))) else (
    let w_8 := F_r_no 10
    let r_6 : Int32 := w_8.1
    let n_5 : Int32 := w_8.2
    ((0 : Int32), n_5, m_bad, m_badAt))
theorem F_r_isWell_s (m_status : Int32) (m_bad : Int32) (m_badAt : Int32) : F_r_isWell m_status m_bad m_badAt = (
  if m_bad = 0 then (
    ((1 : Int32), m_status, m_bad, (-1 : Int32))) else (
    let w_8 := F_r_no 10
    let r_6 : Int32 := w_8.1
    let n_5 : Int32 := w_8.2
    ((0 : Int32), n_5, m_bad, m_badAt))) := rfl
noncomputable def F_r_fault (m_faultKind : Int32) (m_faultAt : Int32) (w : Int32) : Int32 × Int32 :=
  if w = 0 then (
    (m_faultKind, (0 : Int32))) else (
    if w = 1 then (
      (m_faultAt, (0 : Int32))) else (
      ((-1 : Int32), (0 : Int32))))
theorem F_r_fault_s (m_faultKind : Int32) (m_faultAt : Int32) (w : Int32) : F_r_fault m_faultKind m_faultAt w = (
  if w = 0 then (
    (m_faultKind, (0 : Int32))) else (
    if w = 1 then (
      (m_faultAt, (0 : Int32))) else (
      ((-1 : Int32), (0 : Int32))))) := rfl
noncomputable def F_r_houseWord (m_token : Int32) (m_word : Int64) : Int32 :=
  let w_3 := F_r_spelled 102 101 97 116 117 114
  let r_1 : Int64 := w_3
  let x_4 : Int64 := (r_1 * 32)
  let x_5 : Int64 := (x_4 + 101)
  let x_6 : Int64 := (x_5 - 96)
  let w_9 := F_r_isWord m_token m_word x_6
  let r_7 : Int32 := w_9
  if r_7 = 0 then (
    let w_13 := F_r_spelled 102 101 101 108 115 0
    let r_11 : Int64 := w_13
    let w_16 := F_r_isWord m_token m_word r_11
    let r_14 : Int32 := w_16
    if r_14 = 0 then (
      let w_20 := F_r_spelled 107 101 121 0 0 0
      let r_18 : Int64 := w_20
      let w_23 := F_r_isWord m_token m_word r_18
      let r_21 : Int32 := w_23
      if r_21 = 0 then (
        let w_27 := F_r_spelled 114 105 110 103 0 0
        let r_25 : Int64 := w_27
        let w_30 := F_r_isWord m_token m_word r_25
        let r_28 : Int32 := w_30
        if r_28 = 0 then (
          let w_34 := F_r_spelled 100 111 111 114 0 0
          let r_32 : Int64 := w_34
          let w_37 := F_r_isWord m_token m_word r_32
          let r_35 : Int32 := w_37
          if r_35 = 0 then (
            let w_41 := F_r_spelled 115 101 99 111 110 100
            let r_39 : Int64 := w_41
            let x_42 : Int64 := (r_39 * 32)
            let x_43 : Int64 := (x_42 + 115)
            let x_44 : Int64 := (x_43 - 96)
            let w_47 := F_r_isWord m_token m_word x_44
            let r_45 : Int32 := w_47
            if r_45 = 0 then (
              let w_51 := F_r_spelled 116 117 114 110 101 100
              let r_49 : Int64 := w_51
              let w_54 := F_r_isWord m_token m_word r_49
              let r_52 : Int32 := w_54
              if r_52 = 0 then (
                let w_58 := F_r_spelled 114 111 117 110 100 0
                let r_56 : Int64 := w_58
                let w_61 := F_r_isWord m_token m_word r_56
                let r_59 : Int32 := w_61
                if r_59 = 0 then (
                  let w_65 := F_r_spelled 115 116 101 112 115 0
                  let r_63 : Int64 := w_65
                  let w_68 := F_r_isWord m_token m_word r_63
                  let r_66 : Int32 := w_68
                  if r_66 = 0 then (
                    let w_72 := F_r_spelled 119 97 110 116 101 100
                    let r_70 : Int64 := w_72
                    let w_75 := F_r_isWord m_token m_word r_70
                    let r_73 : Int32 := w_75
                    if r_73 = 0 then (
                      let w_79 := F_r_spelled 98 121 0 0 0 0
                      let r_77 : Int64 := w_79
                      let w_82 := F_r_isWord m_token m_word r_77
                      let r_80 : Int32 := w_82
                      if r_80 = 0 then (
                        let w_86 := F_r_spelled 102 101 101 108 0 0
                        let r_84 : Int64 := w_86
                        let w_89 := F_r_isWord m_token m_word r_84
                        let r_87 : Int32 := w_89
                        if r_87 = 0 then (
                          let w_93 := F_r_spelled 116 114 121 0 0 0
                          let r_91 : Int64 := w_93
                          let w_96 := F_r_isWord m_token m_word r_91
                          let r_94 : Int32 := w_96
                          if r_94 = 0 then (
                            let w_100 := F_r_spelled 103 111 0 0 0 0
                            let r_98 : Int64 := w_100
                            let w_103 := F_r_isWord m_token m_word r_98
                            let r_101 : Int32 := w_103
                            if r_101 = 0 then (
                              let w_107 := F_r_spelled 100 114 111 112 0 0
                              let r_105 : Int64 := w_107
                              let w_110 := F_r_isWord m_token m_word r_105
                              let r_108 : Int32 := w_110
                              if r_108 = 0 then (
                                (-1 : Int32)) else
                              (
                                (14 : Int32))) else
                            (
                              (13 : Int32))) else
                          (
                            (12 : Int32))) else
                        (
                          (11 : Int32))) else
                      (
                        (10 : Int32))) else
                    (
                      (9 : Int32))) else
                  (
                    (8 : Int32))) else
                (
                  (7 : Int32))) else
              (
                (6 : Int32))) else
            (
              (5 : Int32))) else
          (
            (4 : Int32))) else
        (
          (3 : Int32))) else
      (
        (2 : Int32))) else
    (
      (1 : Int32))) else
  (
    (0 : Int32))
theorem F_r_houseWord_s (m_token : Int32) (m_word : Int64) : F_r_houseWord m_token m_word = (
  let w_3 := F_r_spelled 102 101 97 116 117 114
  let r_1 : Int64 := w_3
  let x_4 : Int64 := (r_1 * 32)
  let x_5 : Int64 := (x_4 + 101)
  let x_6 : Int64 := (x_5 - 96)
  let w_9 := F_r_isWord m_token m_word x_6
  let r_7 : Int32 := w_9
  if r_7 = 0 then (
    let w_13 := F_r_spelled 102 101 101 108 115 0
    let r_11 : Int64 := w_13
    let w_16 := F_r_isWord m_token m_word r_11
    let r_14 : Int32 := w_16
    if r_14 = 0 then (
      let w_20 := F_r_spelled 107 101 121 0 0 0
      let r_18 : Int64 := w_20
      let w_23 := F_r_isWord m_token m_word r_18
      let r_21 : Int32 := w_23
      if r_21 = 0 then (
        let w_27 := F_r_spelled 114 105 110 103 0 0
        let r_25 : Int64 := w_27
        let w_30 := F_r_isWord m_token m_word r_25
        let r_28 : Int32 := w_30
        if r_28 = 0 then (
          let w_34 := F_r_spelled 100 111 111 114 0 0
          let r_32 : Int64 := w_34
          let w_37 := F_r_isWord m_token m_word r_32
          let r_35 : Int32 := w_37
          if r_35 = 0 then (
            let w_41 := F_r_spelled 115 101 99 111 110 100
            let r_39 : Int64 := w_41
            let x_42 : Int64 := (r_39 * 32)
            let x_43 : Int64 := (x_42 + 115)
            let x_44 : Int64 := (x_43 - 96)
            let w_47 := F_r_isWord m_token m_word x_44
            let r_45 : Int32 := w_47
            if r_45 = 0 then (
              let w_51 := F_r_spelled 116 117 114 110 101 100
              let r_49 : Int64 := w_51
              let w_54 := F_r_isWord m_token m_word r_49
              let r_52 : Int32 := w_54
              if r_52 = 0 then (
                let w_58 := F_r_spelled 114 111 117 110 100 0
                let r_56 : Int64 := w_58
                let w_61 := F_r_isWord m_token m_word r_56
                let r_59 : Int32 := w_61
                if r_59 = 0 then (
                  let w_65 := F_r_spelled 115 116 101 112 115 0
                  let r_63 : Int64 := w_65
                  let w_68 := F_r_isWord m_token m_word r_63
                  let r_66 : Int32 := w_68
                  if r_66 = 0 then (
                    let w_72 := F_r_spelled 119 97 110 116 101 100
                    let r_70 : Int64 := w_72
                    let w_75 := F_r_isWord m_token m_word r_70
                    let r_73 : Int32 := w_75
                    if r_73 = 0 then (
                      let w_79 := F_r_spelled 98 121 0 0 0 0
                      let r_77 : Int64 := w_79
                      let w_82 := F_r_isWord m_token m_word r_77
                      let r_80 : Int32 := w_82
                      if r_80 = 0 then (
                        let w_86 := F_r_spelled 102 101 101 108 0 0
                        let r_84 : Int64 := w_86
                        let w_89 := F_r_isWord m_token m_word r_84
                        let r_87 : Int32 := w_89
                        if r_87 = 0 then (
                          let w_93 := F_r_spelled 116 114 121 0 0 0
                          let r_91 : Int64 := w_93
                          let w_96 := F_r_isWord m_token m_word r_91
                          let r_94 : Int32 := w_96
                          if r_94 = 0 then (
                            let w_100 := F_r_spelled 103 111 0 0 0 0
                            let r_98 : Int64 := w_100
                            let w_103 := F_r_isWord m_token m_word r_98
                            let r_101 : Int32 := w_103
                            if r_101 = 0 then (
                              let w_107 := F_r_spelled 100 114 111 112 0 0
                              let r_105 : Int64 := w_107
                              let w_110 := F_r_isWord m_token m_word r_105
                              let r_108 : Int32 := w_110
                              if r_108 = 0 then (
                                (-1 : Int32)) else
                              (
                                (14 : Int32))) else
                            (
                              (13 : Int32))) else
                          (
                            (12 : Int32))) else
                        (
                          (11 : Int32))) else
                      (
                        (10 : Int32))) else
                    (
                      (9 : Int32))) else
                  (
                    (8 : Int32))) else
                (
                  (7 : Int32))) else
              (
                (6 : Int32))) else
            (
              (5 : Int32))) else
          (
            (4 : Int32))) else
        (
          (3 : Int32))) else
      (
        (2 : Int32))) else
    (
      (1 : Int32))) else
  (
    (0 : Int32))) := rfl
noncomputable def F_r_isHouseName (m_token : Int32) (m_letters : Int32) (m_word : Int64) : Int32 :=
  if m_token = 1 then (
    if 8 < m_letters then (
      (0 : Int32)) else (
      let w_11 := F_r_houseWord m_token m_word
      let r_9 : Int32 := w_11
      if 0 ≤ r_9 then (
        (0 : Int32)) else (
        (1 : Int32)))) else (
    (0 : Int32))
theorem F_r_isHouseName_s (m_token : Int32) (m_letters : Int32) (m_word : Int64) : F_r_isHouseName m_token m_letters m_word = (
  if m_token = 1 then (
    if 8 < m_letters then (
      (0 : Int32)) else (
      let w_11 := F_r_houseWord m_token m_word
      let r_9 : Int32 := w_11
      if 0 ≤ r_9 then (
        (0 : Int32)) else (
        (1 : Int32)))) else (
    (0 : Int32))) := rfl
noncomputable def F_r_named_0_0_L3a (m_word : Int64) (g_words : Nat → Int64) (nn : Int32) : Nat → Int32 → Int32 := fun k9 => Nat.rec (motive := fun _ => Int32 → Int32) (fun _ => default) (fun _ (G_L3a : Int32 → Int32) => fun (v_38 : Int32) =>
    if nn ≤ v_38 then (
      (-1 : Int32)) else (
      let x_63 : Int32 := ((0 : Int32) + v_38)
      let x_64 : Int64 := (g_words (x_63 : Int32).toNatClampNeg)
      if (lg_cmp x_64 m_word) = 0 then (
        v_38) else (
        let x_67 : Int32 := (v_38 + 1)
        G_L3a x_67))) k9
theorem F_r_named_0_0_L3a_s (m_word : Int64) (g_words : Nat → Int64) (nn : Int32) (n9 : Nat) (v_38 : Int32) : F_r_named_0_0_L3a m_word g_words nn (n9 + 1) v_38 = (
    if nn ≤ v_38 then (
      (-1 : Int32)) else (
      let x_63 : Int32 := ((0 : Int32) + v_38)
      let x_64 : Int64 := (g_words (x_63 : Int32).toNatClampNeg)
      if (lg_cmp x_64 m_word) = 0 then (
        v_38) else (
        let x_67 : Int32 := (v_38 + 1)
        (F_r_named_0_0_L3a m_word g_words nn n9) x_67))) := rfl
noncomputable def F_r_named_0_0 (m_word : Int64) (g_words : Nat → Int64) (nn : Int32) : Int32 :=
  F_r_named_0_0_L3a m_word g_words nn ((2147483647 - (0 : Int32).toInt).toNat + 1) (0 : Int32)
theorem F_r_named_0_0_s (m_word : Int64) (g_words : Nat → Int64) (nn : Int32) : F_r_named_0_0 m_word g_words nn = (
  F_r_named_0_0_L3a m_word g_words nn ((2147483647 - (0 : Int32).toInt).toNat + 1) (0 : Int32)) := rfl
noncomputable def F_r_named_4_0_L3a (m_word : Int64) (g_words : Nat → Int64) (nn : Int32) : Nat → Int32 → Int32 := fun k9 => Nat.rec (motive := fun _ => Int32 → Int32) (fun _ => default) (fun _ (G_L3a : Int32 → Int32) => fun (v_38 : Int32) =>
    if nn ≤ v_38 then (
      (-1 : Int32)) else (
      let x_63 : Int32 := ((84 : Int32) + v_38)
      let x_64 : Int64 := (g_words (x_63 : Int32).toNatClampNeg)
      if (lg_cmp x_64 m_word) = 0 then (
        v_38) else (
        let x_67 : Int32 := (v_38 + 1)
        G_L3a x_67))) k9
theorem F_r_named_4_0_L3a_s (m_word : Int64) (g_words : Nat → Int64) (nn : Int32) (n9 : Nat) (v_38 : Int32) : F_r_named_4_0_L3a m_word g_words nn (n9 + 1) v_38 = (
    if nn ≤ v_38 then (
      (-1 : Int32)) else (
      let x_63 : Int32 := ((84 : Int32) + v_38)
      let x_64 : Int64 := (g_words (x_63 : Int32).toNatClampNeg)
      if (lg_cmp x_64 m_word) = 0 then (
        v_38) else (
        let x_67 : Int32 := (v_38 + 1)
        (F_r_named_4_0_L3a m_word g_words nn n9) x_67))) := rfl
noncomputable def F_r_named_4_0 (m_word : Int64) (g_words : Nat → Int64) (nn : Int32) : Int32 :=
  F_r_named_4_0_L3a m_word g_words nn ((2147483647 - (0 : Int32).toInt).toNat + 1) (0 : Int32)
theorem F_r_named_4_0_s (m_word : Int64) (g_words : Nat → Int64) (nn : Int32) : F_r_named_4_0 m_word g_words nn = (
  F_r_named_4_0_L3a m_word g_words nn ((2147483647 - (0 : Int32).toInt).toNat + 1) (0 : Int32)) := rfl
noncomputable def F_r_named_4_3_L3a (m_word : Int64) (g_words : Nat → Int64) (nn : Int32) : Nat → Int32 → Int32 := fun k9 => Nat.rec (motive := fun _ => Int32 → Int32) (fun _ => default) (fun _ (G_L3a : Int32 → Int32) => fun (v_108 : Int32) =>
    if nn ≤ v_108 then (
      (-1 : Int32)) else (
      let x_133 : Int32 := ((87 : Int32) + v_108)
      let x_134 : Int64 := (g_words (x_133 : Int32).toNatClampNeg)
      if (lg_cmp x_134 m_word) = 0 then (
        v_108) else (
        let x_137 : Int32 := (v_108 + 1)
        G_L3a x_137))) k9
theorem F_r_named_4_3_L3a_s (m_word : Int64) (g_words : Nat → Int64) (nn : Int32) (n9 : Nat) (v_108 : Int32) : F_r_named_4_3_L3a m_word g_words nn (n9 + 1) v_108 = (
    if nn ≤ v_108 then (
      (-1 : Int32)) else (
      let x_133 : Int32 := ((87 : Int32) + v_108)
      let x_134 : Int64 := (g_words (x_133 : Int32).toNatClampNeg)
      if (lg_cmp x_134 m_word) = 0 then (
        v_108) else (
        let x_137 : Int32 := (v_108 + 1)
        (F_r_named_4_3_L3a m_word g_words nn n9) x_137))) := rfl
noncomputable def F_r_named_4_3 (m_word : Int64) (g_words : Nat → Int64) (nn : Int32) : Int32 :=
  F_r_named_4_3_L3a m_word g_words nn ((2147483647 - (0 : Int32).toInt).toNat + 1) (0 : Int32)
theorem F_r_named_4_3_s (m_word : Int64) (g_words : Nat → Int64) (nn : Int32) : F_r_named_4_3 m_word g_words nn = (
  F_r_named_4_3_L3a m_word g_words nn ((2147483647 - (0 : Int32).toInt).toNat + 1) (0 : Int32)) := rfl
noncomputable def F_r_named_4_13_L3a (m_word : Int64) (g_words : Nat → Int64) (nn : Int32) : Nat → Int32 → Int32 := fun k9 => Nat.rec (motive := fun _ => Int32 → Int32) (fun _ => default) (fun _ (G_L3a : Int32 → Int32) => fun (v_38 : Int32) =>
    if nn ≤ v_38 then (
      (-1 : Int32)) else (
      let x_63 : Int32 := ((97 : Int32) + v_38)
      let x_64 : Int64 := (g_words (x_63 : Int32).toNatClampNeg)
      if (lg_cmp x_64 m_word) = 0 then (
        v_38) else (
        let x_67 : Int32 := (v_38 + 1)
        G_L3a x_67))) k9
theorem F_r_named_4_13_L3a_s (m_word : Int64) (g_words : Nat → Int64) (nn : Int32) (n9 : Nat) (v_38 : Int32) : F_r_named_4_13_L3a m_word g_words nn (n9 + 1) v_38 = (
    if nn ≤ v_38 then (
      (-1 : Int32)) else (
      let x_63 : Int32 := ((97 : Int32) + v_38)
      let x_64 : Int64 := (g_words (x_63 : Int32).toNatClampNeg)
      if (lg_cmp x_64 m_word) = 0 then (
        v_38) else (
        let x_67 : Int32 := (v_38 + 1)
        (F_r_named_4_13_L3a m_word g_words nn n9) x_67))) := rfl
noncomputable def F_r_named_4_13 (m_word : Int64) (g_words : Nat → Int64) (nn : Int32) : Int32 :=
  F_r_named_4_13_L3a m_word g_words nn ((2147483647 - (0 : Int32).toInt).toNat + 1) (0 : Int32)
theorem F_r_named_4_13_s (m_word : Int64) (g_words : Nat → Int64) (nn : Int32) : F_r_named_4_13 m_word g_words nn = (
  F_r_named_4_13_L3a m_word g_words nn ((2147483647 - (0 : Int32).toInt).toNat + 1) (0 : Int32)) := rfl
noncomputable def F_r_named_4_16_L3a (m_word : Int64) (g_words : Nat → Int64) (nn : Int32) : Nat → Int32 → Int32 := fun k9 => Nat.rec (motive := fun _ => Int32 → Int32) (fun _ => default) (fun _ (G_L3a : Int32 → Int32) => fun (v_58 : Int32) =>
    if nn ≤ v_58 then (
      (-1 : Int32)) else (
      let x_83 : Int32 := ((100 : Int32) + v_58)
      let x_84 : Int64 := (g_words (x_83 : Int32).toNatClampNeg)
      if (lg_cmp x_84 m_word) = 0 then (
        v_58) else (
        let x_87 : Int32 := (v_58 + 1)
        G_L3a x_87))) k9
theorem F_r_named_4_16_L3a_s (m_word : Int64) (g_words : Nat → Int64) (nn : Int32) (n9 : Nat) (v_58 : Int32) : F_r_named_4_16_L3a m_word g_words nn (n9 + 1) v_58 = (
    if nn ≤ v_58 then (
      (-1 : Int32)) else (
      let x_83 : Int32 := ((100 : Int32) + v_58)
      let x_84 : Int64 := (g_words (x_83 : Int32).toNatClampNeg)
      if (lg_cmp x_84 m_word) = 0 then (
        v_58) else (
        let x_87 : Int32 := (v_58 + 1)
        (F_r_named_4_16_L3a m_word g_words nn n9) x_87))) := rfl
noncomputable def F_r_named_4_16 (m_word : Int64) (g_words : Nat → Int64) (nn : Int32) : Int32 :=
  F_r_named_4_16_L3a m_word g_words nn ((2147483647 - (0 : Int32).toInt).toNat + 1) (0 : Int32)
theorem F_r_named_4_16_s (m_word : Int64) (g_words : Nat → Int64) (nn : Int32) : F_r_named_4_16 m_word g_words nn = (
  F_r_named_4_16_L3a m_word g_words nn ((2147483647 - (0 : Int32).toInt).toNat + 1) (0 : Int32)) := rfl
noncomputable def F_r_isTaken (m_word : Int64) (g_c : Nat → Int32) (g_words : Nat → Int64) : Int32 :=
  let x_1 : Int32 := (g_c (1460 : Int32).toNatClampNeg)
  let w_4 := F_r_named_4_0 m_word g_words x_1
  let r_2 : Int32 := w_4
  if 0 ≤ r_2 then (
    (1 : Int32)) else (
    let x_10 : Int32 := (g_c (1461 : Int32).toNatClampNeg)
    let w_13 := F_r_named_4_3 m_word g_words x_10
    let r_11 : Int32 := w_13
    if 0 ≤ r_11 then (
      (1 : Int32)) else (
      let x_19 : Int32 := (g_c (1462 : Int32).toNatClampNeg)
      let w_22 := F_r_named_4_13 m_word g_words x_19
      let r_20 : Int32 := w_22
      if 0 ≤ r_20 then (
        (1 : Int32)) else (
        let x_28 : Int32 := (g_c (1463 : Int32).toNatClampNeg)
        let w_31 := F_r_named_4_16 m_word g_words x_28
        let r_29 : Int32 := w_31
        if r_29 < 0 then (
          (0 : Int32)) else (
          (1 : Int32)))))
theorem F_r_isTaken_s (m_word : Int64) (g_c : Nat → Int32) (g_words : Nat → Int64) : F_r_isTaken m_word g_c g_words = (
  let x_1 : Int32 := (g_c (1460 : Int32).toNatClampNeg)
  let w_4 := F_r_named_4_0 m_word g_words x_1
  let r_2 : Int32 := w_4
  if 0 ≤ r_2 then (
    (1 : Int32)) else (
    let x_10 : Int32 := (g_c (1461 : Int32).toNatClampNeg)
    let w_13 := F_r_named_4_3 m_word g_words x_10
    let r_11 : Int32 := w_13
    if 0 ≤ r_11 then (
      (1 : Int32)) else (
      let x_19 : Int32 := (g_c (1462 : Int32).toNatClampNeg)
      let w_22 := F_r_named_4_13 m_word g_words x_19
      let r_20 : Int32 := w_22
      if 0 ≤ r_20 then (
        (1 : Int32)) else (
        let x_28 : Int32 := (g_c (1463 : Int32).toNatClampNeg)
        let w_31 := F_r_named_4_16 m_word g_words x_28
        let r_29 : Int32 := w_31
        if r_29 < 0 then (
          (0 : Int32)) else (
          (1 : Int32)))))) := rfl
noncomputable def F_r_readNew_0 (m_textEnd : Int32) (m_bad : Int32) (m_badAt : Int32) (m_token : Int32) (m_at : Int32) (m_behind : Int32) (m_number : Int32) (m_letters : Int32) (m_word : Int64) (g_tape : Nat → Int32) (g_c : Nat → Int32) (g_words : Nat → Int64) : Int32 × Int32 × Int32 × Int32 × Int32 × Int32 × Int32 × Int32 × Int64 × (Nat → Int64) :=
  let x_1 : Int32 := (g_c (1460 : Int32).toNatClampNeg)
  if m_bad = 0 then (
    if x_1 = 3 then (
      let w_71 := F_r_fail m_bad m_badAt 6 m_at
      let n_67 : Int32 := w_71.1
      let n_68 : Int32 := w_71.2
      ((0 : Int32), n_67, n_68, m_token, m_at, m_behind, m_number, m_letters, m_word, g_words)) else (
      let w_20 := F_r_next2 m_textEnd m_behind m_number m_letters m_word g_tape
      let n_12 : Int32 := w_20.1
      let n_13 : Int32 := w_20.2.1
      let n_14 : Int32 := w_20.2.2.1
      let n_15 : Int32 := w_20.2.2.2.1
      let n_16 : Int32 := w_20.2.2.2.2.1
      let n_17 : Int64 := w_20.2.2.2.2.2
      let w_25 := F_r_isHouseName n_12 n_16 n_17
      let r_23 : Int32 := w_25
      if r_23 = 0 then (
        let w_30 := F_r_wrong m_bad m_badAt n_12 n_13
        let n_26 : Int32 := w_30.1
        let n_27 : Int32 := w_30.2
        ((0 : Int32), n_26, n_27, n_12, n_13, n_14, n_15, n_16, n_17, g_words)) else
      (
        let w_40 := F_r_isTaken n_17 g_c g_words
        let r_38 : Int32 := w_40
        if r_38 = 0 then (
          let x_43 : Int32 := ((84 : Int32) + x_1)
          let g_44 : Nat → Int64 := (vp_updL g_words (x_43 : Int32).toNatClampNeg n_17)
          let w_53 := F_r_next2 m_textEnd n_14 n_15 n_16 n_17 g_tape
          let n_45 : Int32 := w_53.1
          let n_46 : Int32 := w_53.2.1
          let n_47 : Int32 := w_53.2.2.1
          let n_48 : Int32 := w_53.2.2.2.1
          let n_49 : Int32 := w_53.2.2.2.2.1
          let n_50 : Int64 := w_53.2.2.2.2.2
          (x_1, m_bad, m_badAt, n_45, n_46, n_47, n_48, n_49, n_50, g_44)) else
        (
          let w_61 := F_r_fail m_bad m_badAt 3 n_13
          let n_57 : Int32 := w_61.1
          let n_58 : Int32 := w_61.2
          ((0 : Int32), n_57, n_58, n_12, n_13, n_14, n_15, n_16, n_17, g_words))))) else (
    ((0 : Int32), m_bad, m_badAt, m_token, m_at, m_behind, m_number, m_letters, m_word, g_words))
theorem F_r_readNew_0_s (m_textEnd : Int32) (m_bad : Int32) (m_badAt : Int32) (m_token : Int32) (m_at : Int32) (m_behind : Int32) (m_number : Int32) (m_letters : Int32) (m_word : Int64) (g_tape : Nat → Int32) (g_c : Nat → Int32) (g_words : Nat → Int64) : F_r_readNew_0 m_textEnd m_bad m_badAt m_token m_at m_behind m_number m_letters m_word g_tape g_c g_words = (
  let x_1 : Int32 := (g_c (1460 : Int32).toNatClampNeg)
  if m_bad = 0 then (
    if x_1 = 3 then (
      let w_71 := F_r_fail m_bad m_badAt 6 m_at
      let n_67 : Int32 := w_71.1
      let n_68 : Int32 := w_71.2
      ((0 : Int32), n_67, n_68, m_token, m_at, m_behind, m_number, m_letters, m_word, g_words)) else (
      let w_20 := F_r_next2 m_textEnd m_behind m_number m_letters m_word g_tape
      let n_12 : Int32 := w_20.1
      let n_13 : Int32 := w_20.2.1
      let n_14 : Int32 := w_20.2.2.1
      let n_15 : Int32 := w_20.2.2.2.1
      let n_16 : Int32 := w_20.2.2.2.2.1
      let n_17 : Int64 := w_20.2.2.2.2.2
      let w_25 := F_r_isHouseName n_12 n_16 n_17
      let r_23 : Int32 := w_25
      if r_23 = 0 then (
        let w_30 := F_r_wrong m_bad m_badAt n_12 n_13
        let n_26 : Int32 := w_30.1
        let n_27 : Int32 := w_30.2
        ((0 : Int32), n_26, n_27, n_12, n_13, n_14, n_15, n_16, n_17, g_words)) else
      (
        let w_40 := F_r_isTaken n_17 g_c g_words
        let r_38 : Int32 := w_40
        if r_38 = 0 then (
          let x_43 : Int32 := ((84 : Int32) + x_1)
          let g_44 : Nat → Int64 := (vp_updL g_words (x_43 : Int32).toNatClampNeg n_17)
          let w_53 := F_r_next2 m_textEnd n_14 n_15 n_16 n_17 g_tape
          let n_45 : Int32 := w_53.1
          let n_46 : Int32 := w_53.2.1
          let n_47 : Int32 := w_53.2.2.1
          let n_48 : Int32 := w_53.2.2.2.1
          let n_49 : Int32 := w_53.2.2.2.2.1
          let n_50 : Int64 := w_53.2.2.2.2.2
          (x_1, m_bad, m_badAt, n_45, n_46, n_47, n_48, n_49, n_50, g_44)) else
        (
          let w_61 := F_r_fail m_bad m_badAt 3 n_13
          let n_57 : Int32 := w_61.1
          let n_58 : Int32 := w_61.2
          ((0 : Int32), n_57, n_58, n_12, n_13, n_14, n_15, n_16, n_17, g_words))))) else (
    ((0 : Int32), m_bad, m_badAt, m_token, m_at, m_behind, m_number, m_letters, m_word, g_words))) := rfl
noncomputable def F_r_readOld_0 (m_bad : Int32) (m_badAt : Int32) (m_token : Int32) (m_at : Int32) (m_letters : Int32) (m_word : Int64) (g_c : Nat → Int32) (g_words : Nat → Int64) : Int32 × Int32 × Int32 :=
  if m_bad = 0 then (
    let w_11 := F_r_isHouseName m_token m_letters m_word
    let r_9 : Int32 := w_11
    if r_9 = 0 then (
      let w_16 := F_r_wrong m_bad m_badAt m_token m_at
      let n_12 : Int32 := w_16.1
      let n_13 : Int32 := w_16.2
      ((0 : Int32), n_12, n_13)) else
    (
      let x_24 : Int32 := (g_c (1460 : Int32).toNatClampNeg)
      let w_27 := F_r_named_4_0 m_word g_words x_24
      let r_25 : Int32 := w_27
      if 0 ≤ r_25 then (
        (r_25, m_bad, m_badAt)) else (
        let w_39 := F_r_fail m_bad m_badAt 3 m_at
        let n_35 : Int32 := w_39.1
        let n_36 : Int32 := w_39.2
        (r_25, n_35, n_36)))) else (
    ((0 : Int32), m_bad, m_badAt))
theorem F_r_readOld_0_s (m_bad : Int32) (m_badAt : Int32) (m_token : Int32) (m_at : Int32) (m_letters : Int32) (m_word : Int64) (g_c : Nat → Int32) (g_words : Nat → Int64) : F_r_readOld_0 m_bad m_badAt m_token m_at m_letters m_word g_c g_words = (
  if m_bad = 0 then (
    let w_11 := F_r_isHouseName m_token m_letters m_word
    let r_9 : Int32 := w_11
    if r_9 = 0 then (
      let w_16 := F_r_wrong m_bad m_badAt m_token m_at
      let n_12 : Int32 := w_16.1
      let n_13 : Int32 := w_16.2
      ((0 : Int32), n_12, n_13)) else
    (
      let x_24 : Int32 := (g_c (1460 : Int32).toNatClampNeg)
      let w_27 := F_r_named_4_0 m_word g_words x_24
      let r_25 : Int32 := w_27
      if 0 ≤ r_25 then (
        (r_25, m_bad, m_badAt)) else (
        let w_39 := F_r_fail m_bad m_badAt 3 m_at
        let n_35 : Int32 := w_39.1
        let n_36 : Int32 := w_39.2
        (r_25, n_35, n_36)))) else (
    ((0 : Int32), m_bad, m_badAt))) := rfl
noncomputable def F_r_readNew_1 (m_textEnd : Int32) (m_bad : Int32) (m_badAt : Int32) (m_token : Int32) (m_at : Int32) (m_behind : Int32) (m_number : Int32) (m_letters : Int32) (m_word : Int64) (g_tape : Nat → Int32) (g_c : Nat → Int32) (g_words : Nat → Int64) : Int32 × Int32 × Int32 × Int32 × Int32 × Int32 × Int32 × Int32 × Int64 × (Nat → Int64) :=
  let x_1 : Int32 := (g_c (1461 : Int32).toNatClampNeg)
  if m_bad = 0 then (
    if x_1 = 10 then (
      let w_71 := F_r_fail m_bad m_badAt 6 m_at
      let n_67 : Int32 := w_71.1
      let n_68 : Int32 := w_71.2
      ((0 : Int32), n_67, n_68, m_token, m_at, m_behind, m_number, m_letters, m_word, g_words)) else (
      let w_20 := F_r_next2 m_textEnd m_behind m_number m_letters m_word g_tape
      let n_12 : Int32 := w_20.1
      let n_13 : Int32 := w_20.2.1
      let n_14 : Int32 := w_20.2.2.1
      let n_15 : Int32 := w_20.2.2.2.1
      let n_16 : Int32 := w_20.2.2.2.2.1
      let n_17 : Int64 := w_20.2.2.2.2.2
      let w_25 := F_r_isHouseName n_12 n_16 n_17
      let r_23 : Int32 := w_25
      if r_23 = 0 then (
        let w_30 := F_r_wrong m_bad m_badAt n_12 n_13
        let n_26 : Int32 := w_30.1
        let n_27 : Int32 := w_30.2
        ((0 : Int32), n_26, n_27, n_12, n_13, n_14, n_15, n_16, n_17, g_words)) else
      (
        let w_40 := F_r_isTaken n_17 g_c g_words
        let r_38 : Int32 := w_40
        if r_38 = 0 then (
          let x_43 : Int32 := ((87 : Int32) + x_1)
          let g_44 : Nat → Int64 := (vp_updL g_words (x_43 : Int32).toNatClampNeg n_17)
          let w_53 := F_r_next2 m_textEnd n_14 n_15 n_16 n_17 g_tape
          let n_45 : Int32 := w_53.1
          let n_46 : Int32 := w_53.2.1
          let n_47 : Int32 := w_53.2.2.1
          let n_48 : Int32 := w_53.2.2.2.1
          let n_49 : Int32 := w_53.2.2.2.2.1
          let n_50 : Int64 := w_53.2.2.2.2.2
          (x_1, m_bad, m_badAt, n_45, n_46, n_47, n_48, n_49, n_50, g_44)) else
        (
          let w_61 := F_r_fail m_bad m_badAt 3 n_13
          let n_57 : Int32 := w_61.1
          let n_58 : Int32 := w_61.2
          ((0 : Int32), n_57, n_58, n_12, n_13, n_14, n_15, n_16, n_17, g_words))))) else (
    ((0 : Int32), m_bad, m_badAt, m_token, m_at, m_behind, m_number, m_letters, m_word, g_words))
theorem F_r_readNew_1_s (m_textEnd : Int32) (m_bad : Int32) (m_badAt : Int32) (m_token : Int32) (m_at : Int32) (m_behind : Int32) (m_number : Int32) (m_letters : Int32) (m_word : Int64) (g_tape : Nat → Int32) (g_c : Nat → Int32) (g_words : Nat → Int64) : F_r_readNew_1 m_textEnd m_bad m_badAt m_token m_at m_behind m_number m_letters m_word g_tape g_c g_words = (
  let x_1 : Int32 := (g_c (1461 : Int32).toNatClampNeg)
  if m_bad = 0 then (
    if x_1 = 10 then (
      let w_71 := F_r_fail m_bad m_badAt 6 m_at
      let n_67 : Int32 := w_71.1
      let n_68 : Int32 := w_71.2
      ((0 : Int32), n_67, n_68, m_token, m_at, m_behind, m_number, m_letters, m_word, g_words)) else (
      let w_20 := F_r_next2 m_textEnd m_behind m_number m_letters m_word g_tape
      let n_12 : Int32 := w_20.1
      let n_13 : Int32 := w_20.2.1
      let n_14 : Int32 := w_20.2.2.1
      let n_15 : Int32 := w_20.2.2.2.1
      let n_16 : Int32 := w_20.2.2.2.2.1
      let n_17 : Int64 := w_20.2.2.2.2.2
      let w_25 := F_r_isHouseName n_12 n_16 n_17
      let r_23 : Int32 := w_25
      if r_23 = 0 then (
        let w_30 := F_r_wrong m_bad m_badAt n_12 n_13
        let n_26 : Int32 := w_30.1
        let n_27 : Int32 := w_30.2
        ((0 : Int32), n_26, n_27, n_12, n_13, n_14, n_15, n_16, n_17, g_words)) else
      (
        let w_40 := F_r_isTaken n_17 g_c g_words
        let r_38 : Int32 := w_40
        if r_38 = 0 then (
          let x_43 : Int32 := ((87 : Int32) + x_1)
          let g_44 : Nat → Int64 := (vp_updL g_words (x_43 : Int32).toNatClampNeg n_17)
          let w_53 := F_r_next2 m_textEnd n_14 n_15 n_16 n_17 g_tape
          let n_45 : Int32 := w_53.1
          let n_46 : Int32 := w_53.2.1
          let n_47 : Int32 := w_53.2.2.1
          let n_48 : Int32 := w_53.2.2.2.1
          let n_49 : Int32 := w_53.2.2.2.2.1
          let n_50 : Int64 := w_53.2.2.2.2.2
          (x_1, m_bad, m_badAt, n_45, n_46, n_47, n_48, n_49, n_50, g_44)) else
        (
          let w_61 := F_r_fail m_bad m_badAt 3 n_13
          let n_57 : Int32 := w_61.1
          let n_58 : Int32 := w_61.2
          ((0 : Int32), n_57, n_58, n_12, n_13, n_14, n_15, n_16, n_17, g_words))))) else (
    ((0 : Int32), m_bad, m_badAt, m_token, m_at, m_behind, m_number, m_letters, m_word, g_words))) := rfl
noncomputable def F_r_readOld_1 (m_bad : Int32) (m_badAt : Int32) (m_token : Int32) (m_at : Int32) (m_letters : Int32) (m_word : Int64) (g_c : Nat → Int32) (g_words : Nat → Int64) : Int32 × Int32 × Int32 :=
  if m_bad = 0 then (
    let w_11 := F_r_isHouseName m_token m_letters m_word
    let r_9 : Int32 := w_11
    if r_9 = 0 then (
      let w_16 := F_r_wrong m_bad m_badAt m_token m_at
      let n_12 : Int32 := w_16.1
      let n_13 : Int32 := w_16.2
      ((0 : Int32), n_12, n_13)) else
    (
      let x_24 : Int32 := (g_c (1461 : Int32).toNatClampNeg)
      let w_27 := F_r_named_4_3 m_word g_words x_24
      let r_25 : Int32 := w_27
      if 0 ≤ r_25 then (
        (r_25, m_bad, m_badAt)) else (
        let w_39 := F_r_fail m_bad m_badAt 3 m_at
        let n_35 : Int32 := w_39.1
        let n_36 : Int32 := w_39.2
        (r_25, n_35, n_36)))) else (
    ((0 : Int32), m_bad, m_badAt))
theorem F_r_readOld_1_s (m_bad : Int32) (m_badAt : Int32) (m_token : Int32) (m_at : Int32) (m_letters : Int32) (m_word : Int64) (g_c : Nat → Int32) (g_words : Nat → Int64) : F_r_readOld_1 m_bad m_badAt m_token m_at m_letters m_word g_c g_words = (
  if m_bad = 0 then (
    let w_11 := F_r_isHouseName m_token m_letters m_word
    let r_9 : Int32 := w_11
    if r_9 = 0 then (
      let w_16 := F_r_wrong m_bad m_badAt m_token m_at
      let n_12 : Int32 := w_16.1
      let n_13 : Int32 := w_16.2
      ((0 : Int32), n_12, n_13)) else
    (
      let x_24 : Int32 := (g_c (1461 : Int32).toNatClampNeg)
      let w_27 := F_r_named_4_3 m_word g_words x_24
      let r_25 : Int32 := w_27
      if 0 ≤ r_25 then (
        (r_25, m_bad, m_badAt)) else (
        let w_39 := F_r_fail m_bad m_badAt 3 m_at
        let n_35 : Int32 := w_39.1
        let n_36 : Int32 := w_39.2
        (r_25, n_35, n_36)))) else (
    ((0 : Int32), m_bad, m_badAt))) := rfl
noncomputable def F_r_readNew_2 (m_textEnd : Int32) (m_bad : Int32) (m_badAt : Int32) (m_token : Int32) (m_at : Int32) (m_behind : Int32) (m_number : Int32) (m_letters : Int32) (m_word : Int64) (g_tape : Nat → Int32) (g_c : Nat → Int32) (g_words : Nat → Int64) : Int32 × Int32 × Int32 × Int32 × Int32 × Int32 × Int32 × Int32 × Int64 × (Nat → Int64) :=
  let x_1 : Int32 := (g_c (1462 : Int32).toNatClampNeg)
  if m_bad = 0 then (
    if x_1 = 3 then (
      let w_71 := F_r_fail m_bad m_badAt 6 m_at
      let n_67 : Int32 := w_71.1
      let n_68 : Int32 := w_71.2
      ((0 : Int32), n_67, n_68, m_token, m_at, m_behind, m_number, m_letters, m_word, g_words)) else (
      let w_20 := F_r_next2 m_textEnd m_behind m_number m_letters m_word g_tape
      let n_12 : Int32 := w_20.1
      let n_13 : Int32 := w_20.2.1
      let n_14 : Int32 := w_20.2.2.1
      let n_15 : Int32 := w_20.2.2.2.1
      let n_16 : Int32 := w_20.2.2.2.2.1
      let n_17 : Int64 := w_20.2.2.2.2.2
      let w_25 := F_r_isHouseName n_12 n_16 n_17
      let r_23 : Int32 := w_25
      if r_23 = 0 then (
        let w_30 := F_r_wrong m_bad m_badAt n_12 n_13
        let n_26 : Int32 := w_30.1
        let n_27 : Int32 := w_30.2
        ((0 : Int32), n_26, n_27, n_12, n_13, n_14, n_15, n_16, n_17, g_words)) else
      (
        let w_40 := F_r_isTaken n_17 g_c g_words
        let r_38 : Int32 := w_40
        if r_38 = 0 then (
          let x_43 : Int32 := ((97 : Int32) + x_1)
          let g_44 : Nat → Int64 := (vp_updL g_words (x_43 : Int32).toNatClampNeg n_17)
          let w_53 := F_r_next2 m_textEnd n_14 n_15 n_16 n_17 g_tape
          let n_45 : Int32 := w_53.1
          let n_46 : Int32 := w_53.2.1
          let n_47 : Int32 := w_53.2.2.1
          let n_48 : Int32 := w_53.2.2.2.1
          let n_49 : Int32 := w_53.2.2.2.2.1
          let n_50 : Int64 := w_53.2.2.2.2.2
          (x_1, m_bad, m_badAt, n_45, n_46, n_47, n_48, n_49, n_50, g_44)) else
        (
          let w_61 := F_r_fail m_bad m_badAt 3 n_13
          let n_57 : Int32 := w_61.1
          let n_58 : Int32 := w_61.2
          ((0 : Int32), n_57, n_58, n_12, n_13, n_14, n_15, n_16, n_17, g_words))))) else (
    ((0 : Int32), m_bad, m_badAt, m_token, m_at, m_behind, m_number, m_letters, m_word, g_words))
theorem F_r_readNew_2_s (m_textEnd : Int32) (m_bad : Int32) (m_badAt : Int32) (m_token : Int32) (m_at : Int32) (m_behind : Int32) (m_number : Int32) (m_letters : Int32) (m_word : Int64) (g_tape : Nat → Int32) (g_c : Nat → Int32) (g_words : Nat → Int64) : F_r_readNew_2 m_textEnd m_bad m_badAt m_token m_at m_behind m_number m_letters m_word g_tape g_c g_words = (
  let x_1 : Int32 := (g_c (1462 : Int32).toNatClampNeg)
  if m_bad = 0 then (
    if x_1 = 3 then (
      let w_71 := F_r_fail m_bad m_badAt 6 m_at
      let n_67 : Int32 := w_71.1
      let n_68 : Int32 := w_71.2
      ((0 : Int32), n_67, n_68, m_token, m_at, m_behind, m_number, m_letters, m_word, g_words)) else (
      let w_20 := F_r_next2 m_textEnd m_behind m_number m_letters m_word g_tape
      let n_12 : Int32 := w_20.1
      let n_13 : Int32 := w_20.2.1
      let n_14 : Int32 := w_20.2.2.1
      let n_15 : Int32 := w_20.2.2.2.1
      let n_16 : Int32 := w_20.2.2.2.2.1
      let n_17 : Int64 := w_20.2.2.2.2.2
      let w_25 := F_r_isHouseName n_12 n_16 n_17
      let r_23 : Int32 := w_25
      if r_23 = 0 then (
        let w_30 := F_r_wrong m_bad m_badAt n_12 n_13
        let n_26 : Int32 := w_30.1
        let n_27 : Int32 := w_30.2
        ((0 : Int32), n_26, n_27, n_12, n_13, n_14, n_15, n_16, n_17, g_words)) else
      (
        let w_40 := F_r_isTaken n_17 g_c g_words
        let r_38 : Int32 := w_40
        if r_38 = 0 then (
          let x_43 : Int32 := ((97 : Int32) + x_1)
          let g_44 : Nat → Int64 := (vp_updL g_words (x_43 : Int32).toNatClampNeg n_17)
          let w_53 := F_r_next2 m_textEnd n_14 n_15 n_16 n_17 g_tape
          let n_45 : Int32 := w_53.1
          let n_46 : Int32 := w_53.2.1
          let n_47 : Int32 := w_53.2.2.1
          let n_48 : Int32 := w_53.2.2.2.1
          let n_49 : Int32 := w_53.2.2.2.2.1
          let n_50 : Int64 := w_53.2.2.2.2.2
          (x_1, m_bad, m_badAt, n_45, n_46, n_47, n_48, n_49, n_50, g_44)) else
        (
          let w_61 := F_r_fail m_bad m_badAt 3 n_13
          let n_57 : Int32 := w_61.1
          let n_58 : Int32 := w_61.2
          ((0 : Int32), n_57, n_58, n_12, n_13, n_14, n_15, n_16, n_17, g_words))))) else (
    ((0 : Int32), m_bad, m_badAt, m_token, m_at, m_behind, m_number, m_letters, m_word, g_words))) := rfl
noncomputable def F_r_readOld_2 (m_bad : Int32) (m_badAt : Int32) (m_token : Int32) (m_at : Int32) (m_letters : Int32) (m_word : Int64) (g_c : Nat → Int32) (g_words : Nat → Int64) : Int32 × Int32 × Int32 :=
  if m_bad = 0 then (
    let w_11 := F_r_isHouseName m_token m_letters m_word
    let r_9 : Int32 := w_11
    if r_9 = 0 then (
      let w_16 := F_r_wrong m_bad m_badAt m_token m_at
      let n_12 : Int32 := w_16.1
      let n_13 : Int32 := w_16.2
      ((0 : Int32), n_12, n_13)) else
    (
      let x_24 : Int32 := (g_c (1462 : Int32).toNatClampNeg)
      let w_27 := F_r_named_4_13 m_word g_words x_24
      let r_25 : Int32 := w_27
      if 0 ≤ r_25 then (
        (r_25, m_bad, m_badAt)) else (
        let w_39 := F_r_fail m_bad m_badAt 3 m_at
        let n_35 : Int32 := w_39.1
        let n_36 : Int32 := w_39.2
        (r_25, n_35, n_36)))) else (
    ((0 : Int32), m_bad, m_badAt))
theorem F_r_readOld_2_s (m_bad : Int32) (m_badAt : Int32) (m_token : Int32) (m_at : Int32) (m_letters : Int32) (m_word : Int64) (g_c : Nat → Int32) (g_words : Nat → Int64) : F_r_readOld_2 m_bad m_badAt m_token m_at m_letters m_word g_c g_words = (
  if m_bad = 0 then (
    let w_11 := F_r_isHouseName m_token m_letters m_word
    let r_9 : Int32 := w_11
    if r_9 = 0 then (
      let w_16 := F_r_wrong m_bad m_badAt m_token m_at
      let n_12 : Int32 := w_16.1
      let n_13 : Int32 := w_16.2
      ((0 : Int32), n_12, n_13)) else
    (
      let x_24 : Int32 := (g_c (1462 : Int32).toNatClampNeg)
      let w_27 := F_r_named_4_13 m_word g_words x_24
      let r_25 : Int32 := w_27
      if 0 ≤ r_25 then (
        (r_25, m_bad, m_badAt)) else (
        let w_39 := F_r_fail m_bad m_badAt 3 m_at
        let n_35 : Int32 := w_39.1
        let n_36 : Int32 := w_39.2
        (r_25, n_35, n_36)))) else (
    ((0 : Int32), m_bad, m_badAt))) := rfl
noncomputable def F_r_readNew_3 (m_textEnd : Int32) (m_bad : Int32) (m_badAt : Int32) (m_token : Int32) (m_at : Int32) (m_behind : Int32) (m_number : Int32) (m_letters : Int32) (m_word : Int64) (g_tape : Nat → Int32) (g_c : Nat → Int32) (g_words : Nat → Int64) : Int32 × Int32 × Int32 × Int32 × Int32 × Int32 × Int32 × Int32 × Int64 × (Nat → Int64) :=
  let x_1 : Int32 := (g_c (1463 : Int32).toNatClampNeg)
  if m_bad = 0 then (
    if x_1 = 5 then (
      let w_71 := F_r_fail m_bad m_badAt 6 m_at
      let n_67 : Int32 := w_71.1
      let n_68 : Int32 := w_71.2
      ((0 : Int32), n_67, n_68, m_token, m_at, m_behind, m_number, m_letters, m_word, g_words)) else (
      let w_20 := F_r_next2 m_textEnd m_behind m_number m_letters m_word g_tape
      let n_12 : Int32 := w_20.1
      let n_13 : Int32 := w_20.2.1
      let n_14 : Int32 := w_20.2.2.1
      let n_15 : Int32 := w_20.2.2.2.1
      let n_16 : Int32 := w_20.2.2.2.2.1
      let n_17 : Int64 := w_20.2.2.2.2.2
      let w_25 := F_r_isHouseName n_12 n_16 n_17
      let r_23 : Int32 := w_25
      if r_23 = 0 then (
        let w_30 := F_r_wrong m_bad m_badAt n_12 n_13
        let n_26 : Int32 := w_30.1
        let n_27 : Int32 := w_30.2
        ((0 : Int32), n_26, n_27, n_12, n_13, n_14, n_15, n_16, n_17, g_words)) else
      (
        let w_40 := F_r_isTaken n_17 g_c g_words
        let r_38 : Int32 := w_40
        if r_38 = 0 then (
          let x_43 : Int32 := ((100 : Int32) + x_1)
          let g_44 : Nat → Int64 := (vp_updL g_words (x_43 : Int32).toNatClampNeg n_17)
          let w_53 := F_r_next2 m_textEnd n_14 n_15 n_16 n_17 g_tape
          let n_45 : Int32 := w_53.1
          let n_46 : Int32 := w_53.2.1
          let n_47 : Int32 := w_53.2.2.1
          let n_48 : Int32 := w_53.2.2.2.1
          let n_49 : Int32 := w_53.2.2.2.2.1
          let n_50 : Int64 := w_53.2.2.2.2.2
          (x_1, m_bad, m_badAt, n_45, n_46, n_47, n_48, n_49, n_50, g_44)) else
        (
          let w_61 := F_r_fail m_bad m_badAt 3 n_13
          let n_57 : Int32 := w_61.1
          let n_58 : Int32 := w_61.2
          ((0 : Int32), n_57, n_58, n_12, n_13, n_14, n_15, n_16, n_17, g_words))))) else (
    ((0 : Int32), m_bad, m_badAt, m_token, m_at, m_behind, m_number, m_letters, m_word, g_words))
theorem F_r_readNew_3_s (m_textEnd : Int32) (m_bad : Int32) (m_badAt : Int32) (m_token : Int32) (m_at : Int32) (m_behind : Int32) (m_number : Int32) (m_letters : Int32) (m_word : Int64) (g_tape : Nat → Int32) (g_c : Nat → Int32) (g_words : Nat → Int64) : F_r_readNew_3 m_textEnd m_bad m_badAt m_token m_at m_behind m_number m_letters m_word g_tape g_c g_words = (
  let x_1 : Int32 := (g_c (1463 : Int32).toNatClampNeg)
  if m_bad = 0 then (
    if x_1 = 5 then (
      let w_71 := F_r_fail m_bad m_badAt 6 m_at
      let n_67 : Int32 := w_71.1
      let n_68 : Int32 := w_71.2
      ((0 : Int32), n_67, n_68, m_token, m_at, m_behind, m_number, m_letters, m_word, g_words)) else (
      let w_20 := F_r_next2 m_textEnd m_behind m_number m_letters m_word g_tape
      let n_12 : Int32 := w_20.1
      let n_13 : Int32 := w_20.2.1
      let n_14 : Int32 := w_20.2.2.1
      let n_15 : Int32 := w_20.2.2.2.1
      let n_16 : Int32 := w_20.2.2.2.2.1
      let n_17 : Int64 := w_20.2.2.2.2.2
      let w_25 := F_r_isHouseName n_12 n_16 n_17
      let r_23 : Int32 := w_25
      if r_23 = 0 then (
        let w_30 := F_r_wrong m_bad m_badAt n_12 n_13
        let n_26 : Int32 := w_30.1
        let n_27 : Int32 := w_30.2
        ((0 : Int32), n_26, n_27, n_12, n_13, n_14, n_15, n_16, n_17, g_words)) else
      (
        let w_40 := F_r_isTaken n_17 g_c g_words
        let r_38 : Int32 := w_40
        if r_38 = 0 then (
          let x_43 : Int32 := ((100 : Int32) + x_1)
          let g_44 : Nat → Int64 := (vp_updL g_words (x_43 : Int32).toNatClampNeg n_17)
          let w_53 := F_r_next2 m_textEnd n_14 n_15 n_16 n_17 g_tape
          let n_45 : Int32 := w_53.1
          let n_46 : Int32 := w_53.2.1
          let n_47 : Int32 := w_53.2.2.1
          let n_48 : Int32 := w_53.2.2.2.1
          let n_49 : Int32 := w_53.2.2.2.2.1
          let n_50 : Int64 := w_53.2.2.2.2.2
          (x_1, m_bad, m_badAt, n_45, n_46, n_47, n_48, n_49, n_50, g_44)) else
        (
          let w_61 := F_r_fail m_bad m_badAt 3 n_13
          let n_57 : Int32 := w_61.1
          let n_58 : Int32 := w_61.2
          ((0 : Int32), n_57, n_58, n_12, n_13, n_14, n_15, n_16, n_17, g_words))))) else (
    ((0 : Int32), m_bad, m_badAt, m_token, m_at, m_behind, m_number, m_letters, m_word, g_words))) := rfl
noncomputable def F_r_readOld_3 (m_bad : Int32) (m_badAt : Int32) (m_token : Int32) (m_at : Int32) (m_letters : Int32) (m_word : Int64) (g_c : Nat → Int32) (g_words : Nat → Int64) : Int32 × Int32 × Int32 :=
  if m_bad = 0 then (
    let w_11 := F_r_isHouseName m_token m_letters m_word
    let r_9 : Int32 := w_11
    if r_9 = 0 then (
      let w_16 := F_r_wrong m_bad m_badAt m_token m_at
      let n_12 : Int32 := w_16.1
      let n_13 : Int32 := w_16.2
      ((0 : Int32), n_12, n_13)) else
    (
      let x_24 : Int32 := (g_c (1463 : Int32).toNatClampNeg)
      let w_27 := F_r_named_4_16 m_word g_words x_24
      let r_25 : Int32 := w_27
      if 0 ≤ r_25 then (
        (r_25, m_bad, m_badAt)) else (
        let w_39 := F_r_fail m_bad m_badAt 3 m_at
        let n_35 : Int32 := w_39.1
        let n_36 : Int32 := w_39.2
        (r_25, n_35, n_36)))) else (
    ((0 : Int32), m_bad, m_badAt))
theorem F_r_readOld_3_s (m_bad : Int32) (m_badAt : Int32) (m_token : Int32) (m_at : Int32) (m_letters : Int32) (m_word : Int64) (g_c : Nat → Int32) (g_words : Nat → Int64) : F_r_readOld_3 m_bad m_badAt m_token m_at m_letters m_word g_c g_words = (
  if m_bad = 0 then (
    let w_11 := F_r_isHouseName m_token m_letters m_word
    let r_9 : Int32 := w_11
    if r_9 = 0 then (
      let w_16 := F_r_wrong m_bad m_badAt m_token m_at
      let n_12 : Int32 := w_16.1
      let n_13 : Int32 := w_16.2
      ((0 : Int32), n_12, n_13)) else
    (
      let x_24 : Int32 := (g_c (1463 : Int32).toNatClampNeg)
      let w_27 := F_r_named_4_16 m_word g_words x_24
      let r_25 : Int32 := w_27
      if 0 ≤ r_25 then (
        (r_25, m_bad, m_badAt)) else (
        let w_39 := F_r_fail m_bad m_badAt 3 m_at
        let n_35 : Int32 := w_39.1
        let n_36 : Int32 := w_39.2
        (r_25, n_35, n_36)))) else (
    ((0 : Int32), m_bad, m_badAt))) := rfl
noncomputable def F_r_isFeature (g_c : Nat → Int32) (k : Int32) : Int32 :=
  let x_1 : Int64 := ((k).toInt64)
  let x_2 : Int32 := (g_c (0 : Int32).toNatClampNeg)
  let x_3 : Int32 := (x_2 - 1)
  let x_4 : Int64 := ((x_3).toInt64)
  let w_7 := F_r_isIn x_1 0 x_4
  let r_5 : Int32 := w_7
  if r_5 = 0 then (
    (0 : Int32)) else
  (
    (1 : Int32))
theorem F_r_isFeature_s (g_c : Nat → Int32) (k : Int32) : F_r_isFeature g_c k = (
  let x_1 : Int64 := ((k).toInt64)
  let x_2 : Int32 := (g_c (0 : Int32).toNatClampNeg)
  let x_3 : Int32 := (x_2 - 1)
  let x_4 : Int64 := ((x_3).toInt64)
  let w_7 := F_r_isIn x_1 0 x_4
  let r_5 : Int32 := w_7
  if r_5 = 0 then (
    (0 : Int32)) else
  (
    (1 : Int32))) := rfl
noncomputable def F_r_isRing (g_c : Nat → Int32) (k : Int32) : Int32 :=
  let x_1 : Int64 := ((k).toInt64)
  let x_2 : Int32 := (g_c (2 : Int32).toNatClampNeg)
  let x_3 : Int32 := (x_2 - 1)
  let x_4 : Int64 := ((x_3).toInt64)
  let w_7 := F_r_isIn x_1 0 x_4
  let r_5 : Int32 := w_7
  if r_5 = 0 then (
    (0 : Int32)) else
  (
    (1 : Int32))
theorem F_r_isRing_s (g_c : Nat → Int32) (k : Int32) : F_r_isRing g_c k = (
  let x_1 : Int64 := ((k).toInt64)
  let x_2 : Int32 := (g_c (2 : Int32).toNatClampNeg)
  let x_3 : Int32 := (x_2 - 1)
  let x_4 : Int64 := ((x_3).toInt64)
  let w_7 := F_r_isIn x_1 0 x_4
  let r_5 : Int32 := w_7
  if r_5 = 0 then (
    (0 : Int32)) else
  (
    (1 : Int32))) := rfl
noncomputable def F_r_isDoor (g_c : Nat → Int32) (k : Int32) : Int32 :=
  let x_1 : Int64 := ((k).toInt64)
  let x_2 : Int32 := (g_c (3 : Int32).toNatClampNeg)
  let x_3 : Int32 := (x_2 - 1)
  let x_4 : Int64 := ((x_3).toInt64)
  let w_7 := F_r_isIn x_1 0 x_4
  let r_5 : Int32 := w_7
  if r_5 = 0 then (
    (0 : Int32)) else
  (
    (1 : Int32))
theorem F_r_isDoor_s (g_c : Nat → Int32) (k : Int32) : F_r_isDoor g_c k = (
  let x_1 : Int64 := ((k).toInt64)
  let x_2 : Int32 := (g_c (3 : Int32).toNatClampNeg)
  let x_3 : Int32 := (x_2 - 1)
  let x_4 : Int64 := ((x_3).toInt64)
  let w_7 := F_r_isIn x_1 0 x_4
  let r_5 : Int32 := w_7
  if r_5 = 0 then (
    (0 : Int32)) else
  (
    (1 : Int32))) := rfl
noncomputable def F_r_isKey (g_c : Nat → Int32) (k : Int64) : Int32 :=
  let x_1 : Int32 := (g_c (1 : Int32).toNatClampNeg)
  let x_2 : Int32 := (x_1 - 1)
  let x_3 : Int64 := ((x_2).toInt64)
  let w_6 := F_r_isIn k 0 x_3
  let r_4 : Int32 := w_6
  if r_4 = 0 then (
    (0 : Int32)) else
  (
    (1 : Int32))
theorem F_r_isKey_s (g_c : Nat → Int32) (k : Int64) : F_r_isKey g_c k = (
  let x_1 : Int32 := (g_c (1 : Int32).toNatClampNeg)
  let x_2 : Int32 := (x_1 - 1)
  let x_3 : Int64 := ((x_2).toInt64)
  let w_6 := F_r_isIn k 0 x_3
  let r_4 : Int32 := w_6
  if r_4 = 0 then (
    (0 : Int32)) else
  (
    (1 : Int32))) := rfl
noncomputable def F_r_isStep (g_c : Nat → Int32) (f : Int32) (k : Int32) : Int32 :=
  let w_3 := F_r_isFeature g_c f
  let r_1 : Int32 := w_3
  if r_1 = 0 then (
    (0 : Int32)) else
  (
    let x_7 : Int64 := ((k).toInt64)
    let x_8 : Int32 := ((11 : Int32) + f)
    let x_9 : Int32 := (g_c (x_8 : Int32).toNatClampNeg)
    let x_10 : Int32 := (x_9 - 1)
    let x_11 : Int64 := ((x_10).toInt64)
    let w_14 := F_r_isIn x_7 0 x_11
    let r_12 : Int32 := w_14
    if r_12 = 0 then (
      (0 : Int32)) else
    (
      (1 : Int32)))
theorem F_r_isStep_s (g_c : Nat → Int32) (f : Int32) (k : Int32) : F_r_isStep g_c f k = (
  let w_3 := F_r_isFeature g_c f
  let r_1 : Int32 := w_3
  if r_1 = 0 then (
    (0 : Int32)) else
  (
    let x_7 : Int64 := ((k).toInt64)
    let x_8 : Int32 := ((11 : Int32) + f)
    let x_9 : Int32 := (g_c (x_8 : Int32).toNatClampNeg)
    let x_10 : Int32 := (x_9 - 1)
    let x_11 : Int64 := ((x_10).toInt64)
    let w_14 := F_r_isIn x_7 0 x_11
    let r_12 : Int32 := w_14
    if r_12 = 0 then (
      (0 : Int32)) else
    (
      (1 : Int32)))) := rfl
noncomputable def F_r_canOpen (g_c : Nat → Int32) (k : Int32) (d : Int32) : Int32 :=
  let x_1 : Int32 := ((133 : Int32) + d)
  let x_2 : Int32 := (g_c (x_1 : Int32).toNatClampNeg)
  let x_3 : Int32 := (x_2 >>> (k &&& 31))
  let x_4 : Int32 := (x_3 &&& 1)
  if x_4 = 1 then (
    (1 : Int32)) else (
    (0 : Int32))
theorem F_r_canOpen_s (g_c : Nat → Int32) (k : Int32) (d : Int32) : F_r_canOpen g_c k d = (
  let x_1 : Int32 := ((133 : Int32) + d)
  let x_2 : Int32 := (g_c (x_1 : Int32).toNatClampNeg)
  let x_3 : Int32 := (x_2 >>> (k &&& 31))
  let x_4 : Int32 := (x_3 &&& 1)
  if x_4 = 1 then (
    (1 : Int32)) else (
    (0 : Int32))) := rfl
noncomputable def F_r_feature (g_c : Nat → Int32) (f : Int32) (w : Int32) : Int32 × Int32 × Int32 :=
  let w_3 := F_r_isFeature g_c f
  let r_1 : Int32 := w_3
  if r_1 = 0 then (
    let w_9 := F_r_refuse 2
    let r_7 : Int32 := w_9.1
    let n_6 : Int32 := w_9.2
    (r_7, n_6, (0 : Int32))) else
  (
    if w = 0 then (
      let x_25 : Int32 := ((11 : Int32) + f)
      let x_26 : Int32 := (g_c (x_25 : Int32).toNatClampNeg)
      (x_26, (0 : Int32), (0 : Int32))) else (
      if w = 1 then (
        let x_21 : Int32 := ((14 : Int32) + f)
        let x_22 : Int32 := (g_c (x_21 : Int32).toNatClampNeg)
        (x_22, (0 : Int32), (0 : Int32))) else (
        let w_18 := F_r_refuse 5
        let r_16 : Int32 := w_18.1
        let n_15 : Int32 := w_18.2
        (r_16, n_15, (0 : Int32)))))
theorem F_r_feature_s (g_c : Nat → Int32) (f : Int32) (w : Int32) : F_r_feature g_c f w = (
  let w_3 := F_r_isFeature g_c f
  let r_1 : Int32 := w_3
  if r_1 = 0 then (
    let w_9 := F_r_refuse 2
    let r_7 : Int32 := w_9.1
    let n_6 : Int32 := w_9.2
    (r_7, n_6, (0 : Int32))) else
  (
    if w = 0 then (
      let x_25 : Int32 := ((11 : Int32) + f)
      let x_26 : Int32 := (g_c (x_25 : Int32).toNatClampNeg)
      (x_26, (0 : Int32), (0 : Int32))) else (
      if w = 1 then (
        let x_21 : Int32 := ((14 : Int32) + f)
        let x_22 : Int32 := (g_c (x_21 : Int32).toNatClampNeg)
        (x_22, (0 : Int32), (0 : Int32))) else (
        let w_18 := F_r_refuse 5
        let r_16 : Int32 := w_18.1
        let n_15 : Int32 := w_18.2
        (r_16, n_15, (0 : Int32)))))) := rfl
noncomputable def F_r_feels (g_c : Nat → Int32) (f : Int32) (ss : Int32) (v : Int32) : Int32 × Int32 × Int32 :=
  let w_3 := F_r_isStep g_c f ss
  let r_1 : Int32 := w_3
  if r_1 = 0 then (
    let w_9 := F_r_refuse 2
    let r_7 : Int32 := w_9.1
    let n_6 : Int32 := w_9.2
    (r_7, n_6, (0 : Int32))) else
  (
    let w_13 := F_r_isStep g_c f v
    let r_11 : Int32 := w_13
    if r_11 = 0 then (
      let w_19 := F_r_refuse 2
      let r_17 : Int32 := w_19.1
      let n_16 : Int32 := w_19.2
      (r_17, n_16, (0 : Int32))) else
    (
      let x_21 : Int32 := ((16 : Int32) * f)
      let x_22 : Int32 := ((17 : Int32) + x_21)
      let x_23 : Int32 := ((4 : Int32) * ss)
      let x_24 : Int32 := (x_22 + x_23)
      let x_25 : Int32 := (x_24 + v)
      let x_26 : Int32 := (g_c (x_25 : Int32).toNatClampNeg)
      (x_26, (0 : Int32), (0 : Int32))))
theorem F_r_feels_s (g_c : Nat → Int32) (f : Int32) (ss : Int32) (v : Int32) : F_r_feels g_c f ss v = (
  let w_3 := F_r_isStep g_c f ss
  let r_1 : Int32 := w_3
  if r_1 = 0 then (
    let w_9 := F_r_refuse 2
    let r_7 : Int32 := w_9.1
    let n_6 : Int32 := w_9.2
    (r_7, n_6, (0 : Int32))) else
  (
    let w_13 := F_r_isStep g_c f v
    let r_11 : Int32 := w_13
    if r_11 = 0 then (
      let w_19 := F_r_refuse 2
      let r_17 : Int32 := w_19.1
      let n_16 : Int32 := w_19.2
      (r_17, n_16, (0 : Int32))) else
    (
      let x_21 : Int32 := ((16 : Int32) * f)
      let x_22 : Int32 := ((17 : Int32) + x_21)
      let x_23 : Int32 := ((4 : Int32) * ss)
      let x_24 : Int32 := (x_22 + x_23)
      let x_25 : Int32 := (x_24 + v)
      let x_26 : Int32 := (g_c (x_25 : Int32).toNatClampNeg)
      (x_26, (0 : Int32), (0 : Int32))))) := rfl
noncomputable def F_r_stepOf (g_c : Nat → Int32) (k : Int32) (f : Int32) : Int32 × Int32 × Int32 :=
  let x_1 : Int64 := ((k).toInt64)
  let w_4 := F_r_isKey g_c x_1
  let r_2 : Int32 := w_4
  if r_2 = 0 then (
    let w_10 := F_r_refuse 2
    let r_8 : Int32 := w_10.1
    let n_7 : Int32 := w_10.2
    (r_8, n_7, (0 : Int32))) else
  (
    let w_14 := F_r_isFeature g_c f
    let r_12 : Int32 := w_14
    if r_12 = 0 then (
      let w_20 := F_r_refuse 2
      let r_18 : Int32 := w_20.1
      let n_17 : Int32 := w_20.2
      (r_18, n_17, (0 : Int32))) else
    (
      let x_22 : Int32 := ((3 : Int32) * k)
      let x_23 : Int32 := ((65 : Int32) + x_22)
      let x_24 : Int32 := (x_23 + f)
      let x_25 : Int32 := (g_c (x_24 : Int32).toNatClampNeg)
      (x_25, (0 : Int32), (0 : Int32))))
theorem F_r_stepOf_s (g_c : Nat → Int32) (k : Int32) (f : Int32) : F_r_stepOf g_c k f = (
  let x_1 : Int64 := ((k).toInt64)
  let w_4 := F_r_isKey g_c x_1
  let r_2 : Int32 := w_4
  if r_2 = 0 then (
    let w_10 := F_r_refuse 2
    let r_8 : Int32 := w_10.1
    let n_7 : Int32 := w_10.2
    (r_8, n_7, (0 : Int32))) else
  (
    let w_14 := F_r_isFeature g_c f
    let r_12 : Int32 := w_14
    if r_12 = 0 then (
      let w_20 := F_r_refuse 2
      let r_18 : Int32 := w_20.1
      let n_17 : Int32 := w_20.2
      (r_18, n_17, (0 : Int32))) else
    (
      let x_22 : Int32 := ((3 : Int32) * k)
      let x_23 : Int32 := ((65 : Int32) + x_22)
      let x_24 : Int32 := (x_23 + f)
      let x_25 : Int32 := (g_c (x_24 : Int32).toNatClampNeg)
      (x_25, (0 : Int32), (0 : Int32))))) := rfl
noncomputable def F_r_ringOf_L14a (g_c : Nat → Int32) (k : Int32) (v_711 : Int32) (G_L2a : Int32 → (Int32)) : Nat → Int32 → Int32 := fun k9 => Nat.rec (motive := fun _ => Int32 → Int32) (fun _ => default) (fun _ (G_L14a : Int32 → Int32) => fun (v_1261 : Int32) =>
    let x_1292 : Int32 := ((95 : Int32) + v_711)
    let x_1293 : Int32 := (g_c (x_1292 : Int32).toNatClampNeg)
    if x_1293 ≤ v_1261 then (
      let x_1296 : Int32 := (v_711 + 1)
      G_L2a x_1296) else (
      let x_1299 : Int32 := ((10 : Int32) * v_711)
      let x_1300 : Int32 := ((98 : Int32) + x_1299)
      let x_1301 : Int32 := (x_1300 + v_1261)
      let x_1302 : Int32 := (g_c (x_1301 : Int32).toNatClampNeg)
      if x_1302 = k then (
        v_711) else (
        let x_1305 : Int32 := (v_1261 + 1)
        G_L14a x_1305))) k9
theorem F_r_ringOf_L14a_s (g_c : Nat → Int32) (k : Int32) (v_711 : Int32) (G_L2a : Int32 → (Int32)) (n9 : Nat) (v_1261 : Int32) : F_r_ringOf_L14a g_c k v_711 G_L2a (n9 + 1) v_1261 = (
    let x_1292 : Int32 := ((95 : Int32) + v_711)
    let x_1293 : Int32 := (g_c (x_1292 : Int32).toNatClampNeg)
    if x_1293 ≤ v_1261 then (
      let x_1296 : Int32 := (v_711 + 1)
      G_L2a x_1296) else (
      let x_1299 : Int32 := ((10 : Int32) * v_711)
      let x_1300 : Int32 := ((98 : Int32) + x_1299)
      let x_1301 : Int32 := (x_1300 + v_1261)
      let x_1302 : Int32 := (g_c (x_1301 : Int32).toNatClampNeg)
      if x_1302 = k then (
        v_711) else (
        let x_1305 : Int32 := (v_1261 + 1)
        (F_r_ringOf_L14a g_c k v_711 G_L2a n9) x_1305))) := rfl
noncomputable def F_r_ringOf_L2a (g_c : Nat → Int32) (k : Int32) : Nat → Int32 → Int32 := fun k9 => Nat.rec (motive := fun _ => Int32 → Int32) (fun _ => default) (fun _ (G_L2a : Int32 → Int32) => fun (v_711 : Int32) =>
    let x_1104 : Int32 := (g_c (2 : Int32).toNatClampNeg)
    if x_1104 ≤ v_711 then (
      (-1 : Int32)) else (
      F_r_ringOf_L14a g_c k v_711 G_L2a ((2147483647 - (0 : Int32).toInt).toNat + 1) (0 : Int32))) k9
theorem F_r_ringOf_L2a_s (g_c : Nat → Int32) (k : Int32) (n9 : Nat) (v_711 : Int32) : F_r_ringOf_L2a g_c k (n9 + 1) v_711 = (
    let x_1104 : Int32 := (g_c (2 : Int32).toNatClampNeg)
    if x_1104 ≤ v_711 then (
      (-1 : Int32)) else (
      F_r_ringOf_L14a g_c k v_711 (F_r_ringOf_L2a g_c k n9) ((2147483647 - (0 : Int32).toInt).toNat + 1) (0 : Int32))) := rfl
noncomputable def F_r_ringOf (g_c : Nat → Int32) (k : Int32) : Int32 :=
  F_r_ringOf_L2a g_c k ((2147483647 - (0 : Int32).toInt).toNat + 1) (0 : Int32)
theorem F_r_ringOf_s (g_c : Nat → Int32) (k : Int32) : F_r_ringOf g_c k = (
  F_r_ringOf_L2a g_c k ((2147483647 - (0 : Int32).toInt).toNat + 1) (0 : Int32)) := rfl
noncomputable def F_r_placeOf_L8a (g_c : Nat → Int32) (k : Int32) (r_1 : Int32) : Nat → Int32 → Int32 := fun k9 => Nat.rec (motive := fun _ => Int32 → Int32) (fun _ => default) (fun _ (G_L8a : Int32 → Int32) => fun (v_190 : Int32) =>
    if r_1 < 0 then (
      (-1 : Int32)) else (
      let x_230 : Int32 := ((95 : Int32) + r_1)
      let x_231 : Int32 := (g_c (x_230 : Int32).toNatClampNeg)
      if x_231 ≤ v_190 then (
        (-1 : Int32)) else (
        let x_236 : Int32 := ((10 : Int32) * r_1)
        let x_237 : Int32 := ((98 : Int32) + x_236)
        let x_238 : Int32 := (x_237 + v_190)
        let x_239 : Int32 := (g_c (x_238 : Int32).toNatClampNeg)
        if x_239 = k then (
          v_190) else (
          let x_242 : Int32 := (v_190 + 1)
          G_L8a x_242)))) k9
theorem F_r_placeOf_L8a_s (g_c : Nat → Int32) (k : Int32) (r_1 : Int32) (n9 : Nat) (v_190 : Int32) : F_r_placeOf_L8a g_c k r_1 (n9 + 1) v_190 = (
    if r_1 < 0 then (
      (-1 : Int32)) else (
      let x_230 : Int32 := ((95 : Int32) + r_1)
      let x_231 : Int32 := (g_c (x_230 : Int32).toNatClampNeg)
      if x_231 ≤ v_190 then (
        (-1 : Int32)) else (
        let x_236 : Int32 := ((10 : Int32) * r_1)
        let x_237 : Int32 := ((98 : Int32) + x_236)
        let x_238 : Int32 := (x_237 + v_190)
        let x_239 : Int32 := (g_c (x_238 : Int32).toNatClampNeg)
        if x_239 = k then (
          v_190) else (
          let x_242 : Int32 := (v_190 + 1)
          (F_r_placeOf_L8a g_c k r_1 n9) x_242)))) := rfl
noncomputable def F_r_placeOf (g_c : Nat → Int32) (k : Int32) : Int32 :=
  let w_3 := F_r_ringOf g_c k
  let r_1 : Int32 := w_3
  F_r_placeOf_L8a g_c k r_1 ((2147483647 - (0 : Int32).toInt).toNat + 1) (0 : Int32)
theorem F_r_placeOf_s (g_c : Nat → Int32) (k : Int32) : F_r_placeOf g_c k = (
  let w_3 := F_r_ringOf g_c k
  let r_1 : Int32 := w_3
  F_r_placeOf_L8a g_c k r_1 ((2147483647 - (0 : Int32).toInt).toNat + 1) (0 : Int32)) := rfl
noncomputable def F_r_gather_L7a (g_c : Nat → Int32) (r : Int32) : Nat → Int32 → Int32 → (Nat → Int32) → (Int32 × (Nat → Int32)) := fun k9 => Nat.rec (motive := fun _ => Int32 → Int32 → (Nat → Int32) → (Int32 × (Nat → Int32))) (fun _ _ _ => default) (fun _ (G_L7a : Int32 → Int32 → (Nat → Int32) → (Int32 × (Nat → Int32))) => fun (v_236 : Int32) (v_237 : Int32) (g_238 : Nat → Int32) =>
    let x_283 : Int32 := ((95 : Int32) + r)
    let x_284 : Int32 := (g_c (x_283 : Int32).toNatClampNeg)
    if x_284 ≤ v_236 then (
      (v_237, g_238)) else (
      let x_289 : Int32 := ((10 : Int32) * r)
      let x_290 : Int32 := ((98 : Int32) + x_289)
      let x_291 : Int32 := (x_290 + v_236)
      let x_292 : Int32 := (g_c (x_291 : Int32).toNatClampNeg)
      let x_293 : Int32 := ((150 : Int32) + x_292)
      let x_294 : Int32 := (g_c (x_293 : Int32).toNatClampNeg)
      if x_294 = 1 then (
        let x_303 : Int32 := (v_236 + 1)
        G_L7a x_303 v_237 g_238) else (
        let g_297 : Nat → Int32 := (upd g_238 (v_237 : Int32).toNatClampNeg x_292)
        let x_298 : Int32 := (v_237 + 1)
        let x_300 : Int32 := (v_236 + 1)
        G_L7a x_300 x_298 g_297))) k9
theorem F_r_gather_L7a_s (g_c : Nat → Int32) (r : Int32) (n9 : Nat) (v_236 : Int32) (v_237 : Int32) (g_238 : Nat → Int32) : F_r_gather_L7a g_c r (n9 + 1) v_236 v_237 g_238 = (
    let x_283 : Int32 := ((95 : Int32) + r)
    let x_284 : Int32 := (g_c (x_283 : Int32).toNatClampNeg)
    if x_284 ≤ v_236 then (
      (v_237, g_238)) else (
      let x_289 : Int32 := ((10 : Int32) * r)
      let x_290 : Int32 := ((98 : Int32) + x_289)
      let x_291 : Int32 := (x_290 + v_236)
      let x_292 : Int32 := (g_c (x_291 : Int32).toNatClampNeg)
      let x_293 : Int32 := ((150 : Int32) + x_292)
      let x_294 : Int32 := (g_c (x_293 : Int32).toNatClampNeg)
      if x_294 = 1 then (
        let x_303 : Int32 := (v_236 + 1)
        (F_r_gather_L7a g_c r n9) x_303 v_237 g_238) else (
        let g_297 : Nat → Int32 := (upd g_238 (v_237 : Int32).toNatClampNeg x_292)
        let x_298 : Int32 := (v_237 + 1)
        let x_300 : Int32 := (v_236 + 1)
        (F_r_gather_L7a g_c r n9) x_300 x_298 g_297))) := rfl
noncomputable def F_r_gather (g_c : Nat → Int32) (g_there : Nat → Int32) (r : Int32) : Int32 × (Nat → Int32) :=
  F_r_gather_L7a g_c r ((2147483647 - (0 : Int32).toInt).toNat + 1) (0 : Int32) (0 : Int32) g_there
theorem F_r_gather_s (g_c : Nat → Int32) (g_there : Nat → Int32) (r : Int32) : F_r_gather g_c g_there r = (
  F_r_gather_L7a g_c r ((2147483647 - (0 : Int32).toInt).toNat + 1) (0 : Int32) (0 : Int32) g_there) := rfl
noncomputable def F_r_door (g_c : Nat → Int32) (d : Int32) (w : Int32) : Int32 × Int32 × Int32 :=
  let w_3 := F_r_isDoor g_c d
  let r_1 : Int32 := w_3
  if r_1 = 0 then (
    let w_9 := F_r_refuse 2
    let r_7 : Int32 := w_9.1
    let n_6 : Int32 := w_9.2
    (r_7, n_6, (0 : Int32))) else
  (
    if w = 0 then (
      let x_25 : Int32 := ((128 : Int32) + d)
      let x_26 : Int32 := (g_c (x_25 : Int32).toNatClampNeg)
      (x_26, (0 : Int32), (0 : Int32))) else (
      if w = 1 then (
        let x_21 : Int32 := ((133 : Int32) + d)
        let x_22 : Int32 := (g_c (x_21 : Int32).toNatClampNeg)
        (x_22, (0 : Int32), (0 : Int32))) else (
        let w_18 := F_r_refuse 5
        let r_16 : Int32 := w_18.1
        let n_15 : Int32 := w_18.2
        (r_16, n_15, (0 : Int32)))))
theorem F_r_door_s (g_c : Nat → Int32) (d : Int32) (w : Int32) : F_r_door g_c d w = (
  let w_3 := F_r_isDoor g_c d
  let r_1 : Int32 := w_3
  if r_1 = 0 then (
    let w_9 := F_r_refuse 2
    let r_7 : Int32 := w_9.1
    let n_6 : Int32 := w_9.2
    (r_7, n_6, (0 : Int32))) else
  (
    if w = 0 then (
      let x_25 : Int32 := ((128 : Int32) + d)
      let x_26 : Int32 := (g_c (x_25 : Int32).toNatClampNeg)
      (x_26, (0 : Int32), (0 : Int32))) else (
      if w = 1 then (
        let x_21 : Int32 := ((133 : Int32) + d)
        let x_22 : Int32 := (g_c (x_21 : Int32).toNatClampNeg)
        (x_22, (0 : Int32), (0 : Int32))) else (
        let w_18 := F_r_refuse 5
        let r_16 : Int32 := w_18.1
        let n_15 : Int32 := w_18.2
        (r_16, n_15, (0 : Int32)))))) := rfl
noncomputable def F_r_round (g_c : Nat → Int32) (k : Int32) : Int32 × Int32 × Int32 :=
  let x_1 : Int64 := ((k).toInt64)
  let x_2 : Int32 := (g_c (4 : Int32).toNatClampNeg)
  let x_3 : Int32 := (x_2 - 1)
  let x_4 : Int64 := ((x_3).toInt64)
  let w_7 := F_r_isIn x_1 0 x_4
  let r_5 : Int32 := w_7
  if r_5 = 0 then (
    let w_13 := F_r_refuse 8
    let r_11 : Int32 := w_13.1
    let n_10 : Int32 := w_13.2
    (r_11, n_10, (0 : Int32))) else
  (
    let x_15 : Int32 := ((138 : Int32) + k)
    let x_16 : Int32 := (g_c (x_15 : Int32).toNatClampNeg)
    (x_16, (0 : Int32), (0 : Int32)))
theorem F_r_round_s (g_c : Nat → Int32) (k : Int32) : F_r_round g_c k = (
  let x_1 : Int64 := ((k).toInt64)
  let x_2 : Int32 := (g_c (4 : Int32).toNatClampNeg)
  let x_3 : Int32 := (x_2 - 1)
  let x_4 : Int64 := ((x_3).toInt64)
  let w_7 := F_r_isIn x_1 0 x_4
  let r_5 : Int32 := w_7
  if r_5 = 0 then (
    let w_13 := F_r_refuse 8
    let r_11 : Int32 := w_13.1
    let n_10 : Int32 := w_13.2
    (r_11, n_10, (0 : Int32))) else
  (
    let x_15 : Int32 := ((138 : Int32) + k)
    let x_16 : Int32 := (g_c (x_15 : Int32).toNatClampNeg)
    (x_16, (0 : Int32), (0 : Int32)))) := rfl
noncomputable def F_r_letGo (g_c : Nat → Int32) (r : Int32) : (Nat → Int32) :=
  let x_1 : Int32 := (g_c (10 : Int32).toNatClampNeg)
  if x_1 = r then (
    let g_6 : Nat → Int32 := (upd g_c (10 : Int32).toNatClampNeg (-1))
    g_6) else (
    g_c)
theorem F_r_letGo_s (g_c : Nat → Int32) (r : Int32) : F_r_letGo g_c r = (
  let x_1 : Int32 := (g_c (10 : Int32).toNatClampNeg)
  if x_1 = r then (
    let g_6 : Nat → Int32 := (upd g_c (10 : Int32).toNatClampNeg (-1))
    g_6) else (
    g_c)) := rfl
noncomputable def F_r_lend (g_c : Nat → Int32) (k : Int32) (lent : Int32) : Int32 × Int32 × Int32 × (Nat → Int32) :=
  let x_1 : Int64 := ((k).toInt64)
  let w_4 := F_r_isKey g_c x_1
  let r_2 : Int32 := w_4
  if r_2 = 0 then (
    let w_10 := F_r_no 2
    let r_8 : Int32 := w_10.1
    let n_7 : Int32 := w_10.2
    ((0 : Int32), n_7, (0 : Int32), g_c)) else
  (
    let x_12 : Int32 := ((150 : Int32) + k)
    if lent = 0 then (
      let g_15 : Nat → Int32 := (upd g_c (x_12 : Int32).toNatClampNeg 0)
      let w_19 := F_r_ringOf g_15 k
      let r_17 : Int32 := w_19
      if r_17 < 0 then (
        ((1 : Int32), (0 : Int32), (0 : Int32), g_15)) else (
        let w_27 := F_r_ringOf g_15 k
        let r_25 : Int32 := w_27
        let w_32 := F_r_letGo g_15 r_25
        let n_29 : Nat → Int32 := w_32
        ((1 : Int32), (0 : Int32), (0 : Int32), n_29))) else (
      let g_37 : Nat → Int32 := (upd g_c (x_12 : Int32).toNatClampNeg 1)
      let w_41 := F_r_ringOf g_37 k
      let r_39 : Int32 := w_41
      if r_39 < 0 then (
        ((1 : Int32), (0 : Int32), (0 : Int32), g_37)) else (
        let w_49 := F_r_ringOf g_37 k
        let r_47 : Int32 := w_49
        let w_54 := F_r_letGo g_37 r_47
        let n_51 : Nat → Int32 := w_54
        ((1 : Int32), (0 : Int32), (0 : Int32), n_51))))
theorem F_r_lend_s (g_c : Nat → Int32) (k : Int32) (lent : Int32) : F_r_lend g_c k lent = (
  let x_1 : Int64 := ((k).toInt64)
  let w_4 := F_r_isKey g_c x_1
  let r_2 : Int32 := w_4
  if r_2 = 0 then (
    let w_10 := F_r_no 2
    let r_8 : Int32 := w_10.1
    let n_7 : Int32 := w_10.2
    ((0 : Int32), n_7, (0 : Int32), g_c)) else
  (
    let x_12 : Int32 := ((150 : Int32) + k)
    if lent = 0 then (
      let g_15 : Nat → Int32 := (upd g_c (x_12 : Int32).toNatClampNeg 0)
      let w_19 := F_r_ringOf g_15 k
      let r_17 : Int32 := w_19
      if r_17 < 0 then (
        ((1 : Int32), (0 : Int32), (0 : Int32), g_15)) else (
        let w_27 := F_r_ringOf g_15 k
        let r_25 : Int32 := w_27
        let w_32 := F_r_letGo g_15 r_25
        let n_29 : Nat → Int32 := w_32
        ((1 : Int32), (0 : Int32), (0 : Int32), n_29))) else (
      let g_37 : Nat → Int32 := (upd g_c (x_12 : Int32).toNatClampNeg 1)
      let w_41 := F_r_ringOf g_37 k
      let r_39 : Int32 := w_41
      if r_39 < 0 then (
        ((1 : Int32), (0 : Int32), (0 : Int32), g_37)) else (
        let w_49 := F_r_ringOf g_37 k
        let r_47 : Int32 := w_49
        let w_54 := F_r_letGo g_37 r_47
        let n_51 : Nat → Int32 := w_54
        ((1 : Int32), (0 : Int32), (0 : Int32), n_51))))) := rfl
noncomputable def F_r_take (g_c : Nat → Int32) (g_there : Nat → Int32) (r : Int32) : Int32 :=
  let w_3 := F_r_isRing g_c r
  let r_1 : Int32 := w_3
  if r_1 = 0 then (
    let w_9 := F_r_no 2
    let r_7 : Int32 := w_9.1
    let n_6 : Int32 := w_9.2
    (0 : Int32)) else
  (
    let w_15 := F_r_gather g_c g_there r
    let n_11 : Int32 := w_15.1
    let n_12 : Nat → Int32 := w_15.2
    if n_11 = 0 then (
      let w_33 := F_r_no 8
      let r_31 : Int32 := w_33.1
      let n_30 : Int32 := w_33.2
      (0 : Int32)) else (
      let g_20 : Nat → Int32 := (upd g_c (10 : Int32).toNatClampNeg r)
      (1 : Int32)))
theorem F_r_take_s (g_c : Nat → Int32) (g_there : Nat → Int32) (r : Int32) : F_r_take g_c g_there r = (
  let w_3 := F_r_isRing g_c r
  let r_1 : Int32 := w_3
  if r_1 = 0 then (
    let w_9 := F_r_no 2
    let r_7 : Int32 := w_9.1
    let n_6 : Int32 := w_9.2
    (0 : Int32)) else
  (
    let w_15 := F_r_gather g_c g_there r
    let n_11 : Int32 := w_15.1
    let n_12 : Nat → Int32 := w_15.2
    if n_11 = 0 then (
      let w_33 := F_r_no 8
      let r_31 : Int32 := w_33.1
      let n_30 : Int32 := w_33.2
      (0 : Int32)) else (
      let g_20 : Nat → Int32 := (upd g_c (10 : Int32).toNatClampNeg r)
      (1 : Int32)))) := rfl
noncomputable def F_r_stepAs (g_c : Nat → Int32) (k : Int32) (f : Int32) (w : Int32) : Int32 :=
  let x_1 : Int32 := ((3 : Int32) * k)
  let x_2 : Int32 := ((65 : Int32) + x_1)
  let x_3 : Int32 := (x_2 + f)
  let x_4 : Int32 := (g_c (x_3 : Int32).toNatClampNeg)
  if w = 1 then (
    let x_9 : Int32 := ((14 : Int32) + f)
    let x_10 : Int32 := (g_c (x_9 : Int32).toNatClampNeg)
    if x_10 = 1 then (
      let x_15 : Int32 := ((11 : Int32) + f)
      let x_16 : Int32 := (g_c (x_15 : Int32).toNatClampNeg)
      let x_17 : Int32 := (x_16 - 1)
      let x_18 : Int32 := (x_17 - x_4)
      x_18) else (
      x_4)) else (
    x_4)
theorem F_r_stepAs_s (g_c : Nat → Int32) (k : Int32) (f : Int32) (w : Int32) : F_r_stepAs g_c k f w = (
  let x_1 : Int32 := ((3 : Int32) * k)
  let x_2 : Int32 := ((65 : Int32) + x_1)
  let x_3 : Int32 := (x_2 + f)
  let x_4 : Int32 := (g_c (x_3 : Int32).toNatClampNeg)
  if w = 1 then (
    let x_9 : Int32 := ((14 : Int32) + f)
    let x_10 : Int32 := (g_c (x_9 : Int32).toNatClampNeg)
    if x_10 = 1 then (
      let x_15 : Int32 := ((11 : Int32) + f)
      let x_16 : Int32 := (g_c (x_15 : Int32).toNatClampNeg)
      let x_17 : Int32 := (x_16 - 1)
      let x_18 : Int32 := (x_17 - x_4)
      x_18) else (
      x_4)) else (
    x_4)) := rfl
noncomputable def F_r_Ma_min (i1 : Int32) (i2 : Int32) : Int32 :=
  if i2 < i1 then (
    i2) else (
    i1)
theorem F_r_Ma_min_s (i1 : Int32) (i2 : Int32) : F_r_Ma_min i1 i2 = (
  if i2 < i1 then (
    i2) else (
    i1)) := rfl
noncomputable def F_r_search_L9a (m_thereMany : Int32) (g_c : Nat → Int32) (g_there : Nat → Int32) (d : Int32) (w : Int32) : Nat → Int32 → Int32 → Int32 → Int32 := fun k9 => Nat.rec (motive := fun _ => Int32 → Int32 → Int32 → Int32) (fun _ _ _ => default) (fun _ (G_L9a : Int32 → Int32 → Int32 → Int32) => fun (v_491 : Int32) (v_492 : Int32) (v_493 : Int32) =>
    if m_thereMany ≤ v_493 then (
      (-1 : Int32)) else (
      let x_592 : Int32 := (g_c (6 : Int32).toNatClampNeg)
      if v_493 = 0 then (
        let x_618 : Int32 := (x_592 + 0)
        let x_619 : Int32 := (v_492 + x_618)
        let x_620 : Int32 := (g_there (v_491 : Int32).toNatClampNeg)
        let w_623 := F_r_canOpen g_c x_620 d
        let r_621 : Int32 := w_623
        if r_621 = 0 then (
          if w = 0 then (
            let x_634 : Int32 := (v_491 + 1)
            let x_635 : Int32 := (x_634 - x_634 / m_thereMany * m_thereMany)
            let x_636 : Int32 := (v_493 + 1)
            G_L9a x_635 x_619 x_636) else (
            let x_628 : Int32 := (v_491 + m_thereMany)
            let x_629 : Int32 := (x_628 - 1)
            let x_630 : Int32 := (x_629 - x_629 / m_thereMany * m_thereMany)
            let x_631 : Int32 := (v_493 + 1)
            G_L9a x_630 x_619 x_631)) else
        (
          x_619)) else (
        let x_595 : Int32 := (g_c (7 : Int32).toNatClampNeg)
        let x_596 : Int32 := (x_592 + x_595)
        let x_597 : Int32 := (v_492 + x_596)
        let x_598 : Int32 := (g_there (v_491 : Int32).toNatClampNeg)
        let w_601 := F_r_canOpen g_c x_598 d
        let r_599 : Int32 := w_601
        if r_599 = 0 then (
          if w = 0 then (
            let x_612 : Int32 := (v_491 + 1)
            let x_613 : Int32 := (x_612 - x_612 / m_thereMany * m_thereMany)
            let x_614 : Int32 := (v_493 + 1)
            G_L9a x_613 x_597 x_614) else (
            let x_606 : Int32 := (v_491 + m_thereMany)
            let x_607 : Int32 := (x_606 - 1)
            let x_608 : Int32 := (x_607 - x_607 / m_thereMany * m_thereMany)
            let x_609 : Int32 := (v_493 + 1)
            G_L9a x_608 x_597 x_609)) else
        (
          x_597)))) k9
theorem F_r_search_L9a_s (m_thereMany : Int32) (g_c : Nat → Int32) (g_there : Nat → Int32) (d : Int32) (w : Int32) (n9 : Nat) (v_491 : Int32) (v_492 : Int32) (v_493 : Int32) : F_r_search_L9a m_thereMany g_c g_there d w (n9 + 1) v_491 v_492 v_493 = (
    if m_thereMany ≤ v_493 then (
      (-1 : Int32)) else (
      let x_592 : Int32 := (g_c (6 : Int32).toNatClampNeg)
      if v_493 = 0 then (
        let x_618 : Int32 := (x_592 + 0)
        let x_619 : Int32 := (v_492 + x_618)
        let x_620 : Int32 := (g_there (v_491 : Int32).toNatClampNeg)
        let w_623 := F_r_canOpen g_c x_620 d
        let r_621 : Int32 := w_623
        if r_621 = 0 then (
          if w = 0 then (
            let x_634 : Int32 := (v_491 + 1)
            let x_635 : Int32 := (x_634 - x_634 / m_thereMany * m_thereMany)
            let x_636 : Int32 := (v_493 + 1)
            (F_r_search_L9a m_thereMany g_c g_there d w n9) x_635 x_619 x_636) else (
            let x_628 : Int32 := (v_491 + m_thereMany)
            let x_629 : Int32 := (x_628 - 1)
            let x_630 : Int32 := (x_629 - x_629 / m_thereMany * m_thereMany)
            let x_631 : Int32 := (v_493 + 1)
            (F_r_search_L9a m_thereMany g_c g_there d w n9) x_630 x_619 x_631)) else
        (
          x_619)) else (
        let x_595 : Int32 := (g_c (7 : Int32).toNatClampNeg)
        let x_596 : Int32 := (x_592 + x_595)
        let x_597 : Int32 := (v_492 + x_596)
        let x_598 : Int32 := (g_there (v_491 : Int32).toNatClampNeg)
        let w_601 := F_r_canOpen g_c x_598 d
        let r_599 : Int32 := w_601
        if r_599 = 0 then (
          if w = 0 then (
            let x_612 : Int32 := (v_491 + 1)
            let x_613 : Int32 := (x_612 - x_612 / m_thereMany * m_thereMany)
            let x_614 : Int32 := (v_493 + 1)
            (F_r_search_L9a m_thereMany g_c g_there d w n9) x_613 x_597 x_614) else (
            let x_606 : Int32 := (v_491 + m_thereMany)
            let x_607 : Int32 := (x_606 - 1)
            let x_608 : Int32 := (x_607 - x_607 / m_thereMany * m_thereMany)
            let x_609 : Int32 := (v_493 + 1)
            (F_r_search_L9a m_thereMany g_c g_there d w n9) x_608 x_597 x_609)) else
        (
          x_597)))) := rfl
noncomputable def F_r_search (m_thereMany : Int32) (g_c : Nat → Int32) (g_there : Nat → Int32) (d : Int32) (pp : Int32) (w : Int32) : Int32 :=
  F_r_search_L9a m_thereMany g_c g_there d w ((2147483647 - (0 : Int32).toInt).toNat + 1) pp (0 : Int32) (0 : Int32)
theorem F_r_search_s (m_thereMany : Int32) (g_c : Nat → Int32) (g_there : Nat → Int32) (d : Int32) (pp : Int32) (w : Int32) : F_r_search m_thereMany g_c g_there d pp w = (
  F_r_search_L9a m_thereMany g_c g_there d w ((2147483647 - (0 : Int32).toInt).toNat + 1) pp (0 : Int32) (0 : Int32)) := rfl
noncomputable def F_r_meanFrom_L12a (m_thereMany : Int32) (g_c : Nat → Int32) (g_there : Nat → Int32) (pp : Int32) (w : Int32) : Nat → Int32 → Int64 → Int64 → (Int64 × Int64) := fun k9 => Nat.rec (motive := fun _ => Int32 → Int64 → Int64 → (Int64 × Int64)) (fun _ _ _ => default) (fun _ (G_L12a : Int32 → Int64 → Int64 → (Int64 × Int64)) => fun (v_234 : Int32) (v_235 : Int64) (v_236 : Int64) =>
    let x_296 : Int32 := (g_c (3 : Int32).toNatClampNeg)
    if x_296 ≤ v_234 then (
      (v_235, v_236)) else (
      if m_thereMany ≤ 0 then (
        (v_235, v_236)) else (
        let w_307 := F_r_search m_thereMany g_c g_there v_234 pp w
        let r_305 : Int32 := w_307
        if 0 ≤ r_305 then (
          let x_312 : Int32 := ((128 : Int32) + v_234)
          let x_313 : Int32 := (g_c (x_312 : Int32).toNatClampNeg)
          let x_314 : Int64 := ((x_313).toInt64)
          let x_315 : Int64 := ((r_305).toInt64)
          let x_316 : Int64 := (x_314 * x_315)
          let x_317 : Int64 := (v_235 + x_316)
          let x_318 : Int32 := ((128 : Int32) + v_234)
          let x_319 : Int32 := (g_c (x_318 : Int32).toNatClampNeg)
          let x_320 : Int64 := ((x_319).toInt64)
          let x_321 : Int64 := (v_236 + x_320)
          let x_322 : Int32 := (v_234 + 1)
          G_L12a x_322 x_317 x_321) else (
          let x_325 : Int32 := (v_234 + 1)
          G_L12a x_325 v_235 v_236)))) k9
theorem F_r_meanFrom_L12a_s (m_thereMany : Int32) (g_c : Nat → Int32) (g_there : Nat → Int32) (pp : Int32) (w : Int32) (n9 : Nat) (v_234 : Int32) (v_235 : Int64) (v_236 : Int64) : F_r_meanFrom_L12a m_thereMany g_c g_there pp w (n9 + 1) v_234 v_235 v_236 = (
    let x_296 : Int32 := (g_c (3 : Int32).toNatClampNeg)
    if x_296 ≤ v_234 then (
      (v_235, v_236)) else (
      if m_thereMany ≤ 0 then (
        (v_235, v_236)) else (
        let w_307 := F_r_search m_thereMany g_c g_there v_234 pp w
        let r_305 : Int32 := w_307
        if 0 ≤ r_305 then (
          let x_312 : Int32 := ((128 : Int32) + v_234)
          let x_313 : Int32 := (g_c (x_312 : Int32).toNatClampNeg)
          let x_314 : Int64 := ((x_313).toInt64)
          let x_315 : Int64 := ((r_305).toInt64)
          let x_316 : Int64 := (x_314 * x_315)
          let x_317 : Int64 := (v_235 + x_316)
          let x_318 : Int32 := ((128 : Int32) + v_234)
          let x_319 : Int32 := (g_c (x_318 : Int32).toNatClampNeg)
          let x_320 : Int64 := ((x_319).toInt64)
          let x_321 : Int64 := (v_236 + x_320)
          let x_322 : Int32 := (v_234 + 1)
          (F_r_meanFrom_L12a m_thereMany g_c g_there pp w n9) x_322 x_317 x_321) else (
          let x_325 : Int32 := (v_234 + 1)
          (F_r_meanFrom_L12a m_thereMany g_c g_there pp w n9) x_325 v_235 v_236)))) := rfl
noncomputable def F_r_meanFrom (m_thereMany : Int32) (g_c : Nat → Int32) (g_there : Nat → Int32) (pp : Int32) (w : Int32) : Int64 × Int64 :=
  F_r_meanFrom_L12a m_thereMany g_c g_there pp w ((2147483647 - (0 : Int32).toInt).toNat + 1) (0 : Int32) (0 : Int64) (0 : Int64)
theorem F_r_meanFrom_s (m_thereMany : Int32) (g_c : Nat → Int32) (g_there : Nat → Int32) (pp : Int32) (w : Int32) : F_r_meanFrom m_thereMany g_c g_there pp w = (
  F_r_meanFrom_L12a m_thereMany g_c g_there pp w ((2147483647 - (0 : Int32).toInt).toNat + 1) (0 : Int32) (0 : Int64) (0 : Int64)) := rfl
noncomputable def F_r_meanAnywhere_L7a (m_thereMany : Int32) (g_c : Nat → Int32) (g_there : Nat → Int32) : Nat → Int64 → Int64 → Int32 → Int64 → Int64 → (Int64 × Int64) := fun k9 => Nat.rec (motive := fun _ => Int64 → Int64 → Int32 → Int64 → Int64 → (Int64 × Int64)) (fun _ _ _ _ _ => default) (fun _ (G_L7a : Int64 → Int64 → Int32 → Int64 → Int64 → (Int64 × Int64)) => fun (v_624 : Int64) (v_625 : Int64) (v_626 : Int32) (v_627 : Int64) (v_628 : Int64) =>
    let x_689 : Int32 := ((2 : Int32) * m_thereMany)
    if x_689 ≤ v_626 then (
      let x_692 : Int64 := (v_625 * 16)
      let x_693 : Int64 := ((m_thereMany).toInt64)
      let x_694 : Int64 := (x_692 * x_693)
      (v_624, x_694)) else (
      let x_697 : Int32 := (v_626 / (2 : Int32))
      let x_698 : Int32 := (v_626 - v_626 / (2 : Int32) * (2 : Int32))
      let w_703 := F_r_meanFrom m_thereMany g_c g_there x_697 x_698
      let n_699 : Int64 := w_703.1
      let n_700 : Int64 := w_703.2
      let x_705 : Int32 := (v_626 - v_626 / (2 : Int32) * (2 : Int32))
      if x_705 = 0 then (
        let x_715 : Int32 := (g_c (9 : Int32).toNatClampNeg)
        let x_716 : Int32 := ((16 : Int32) - x_715)
        let x_717 : Int64 := ((x_716).toInt64)
        let x_718 : Int64 := (x_717 * n_699)
        let x_719 : Int64 := (v_624 + x_718)
        let x_720 : Int32 := (v_626 + 1)
        G_L7a x_719 n_700 x_720 n_699 n_700) else (
        let x_708 : Int32 := (g_c (9 : Int32).toNatClampNeg)
        let x_709 : Int64 := ((x_708).toInt64)
        let x_710 : Int64 := (x_709 * n_699)
        let x_711 : Int64 := (v_624 + x_710)
        let x_712 : Int32 := (v_626 + 1)
        G_L7a x_711 n_700 x_712 n_699 n_700))) k9
theorem F_r_meanAnywhere_L7a_s (m_thereMany : Int32) (g_c : Nat → Int32) (g_there : Nat → Int32) (n9 : Nat) (v_624 : Int64) (v_625 : Int64) (v_626 : Int32) (v_627 : Int64) (v_628 : Int64) : F_r_meanAnywhere_L7a m_thereMany g_c g_there (n9 + 1) v_624 v_625 v_626 v_627 v_628 = (
    let x_689 : Int32 := ((2 : Int32) * m_thereMany)
    if x_689 ≤ v_626 then (
      let x_692 : Int64 := (v_625 * 16)
      let x_693 : Int64 := ((m_thereMany).toInt64)
      let x_694 : Int64 := (x_692 * x_693)
      (v_624, x_694)) else (
      let x_697 : Int32 := (v_626 / (2 : Int32))
      let x_698 : Int32 := (v_626 - v_626 / (2 : Int32) * (2 : Int32))
      let w_703 := F_r_meanFrom m_thereMany g_c g_there x_697 x_698
      let n_699 : Int64 := w_703.1
      let n_700 : Int64 := w_703.2
      let x_705 : Int32 := (v_626 - v_626 / (2 : Int32) * (2 : Int32))
      if x_705 = 0 then (
        let x_715 : Int32 := (g_c (9 : Int32).toNatClampNeg)
        let x_716 : Int32 := ((16 : Int32) - x_715)
        let x_717 : Int64 := ((x_716).toInt64)
        let x_718 : Int64 := (x_717 * n_699)
        let x_719 : Int64 := (v_624 + x_718)
        let x_720 : Int32 := (v_626 + 1)
        (F_r_meanAnywhere_L7a m_thereMany g_c g_there n9) x_719 n_700 x_720 n_699 n_700) else (
        let x_708 : Int32 := (g_c (9 : Int32).toNatClampNeg)
        let x_709 : Int64 := ((x_708).toInt64)
        let x_710 : Int64 := (x_709 * n_699)
        let x_711 : Int64 := (v_624 + x_710)
        let x_712 : Int32 := (v_626 + 1)
        (F_r_meanAnywhere_L7a m_thereMany g_c g_there n9) x_711 n_700 x_712 n_699 n_700))) := rfl
noncomputable def F_r_meanAnywhere (m_thereMany : Int32) (m_meanTop : Int64) (m_meanBy : Int64) (g_c : Nat → Int32) (g_there : Nat → Int32) : Int64 × Int64 :=
  F_r_meanAnywhere_L7a m_thereMany g_c g_there ((2147483647 - (0 : Int32).toInt).toNat + 1) (0 : Int64) (0 : Int64) (0 : Int32) m_meanTop m_meanBy
theorem F_r_meanAnywhere_s (m_thereMany : Int32) (m_meanTop : Int64) (m_meanBy : Int64) (g_c : Nat → Int32) (g_there : Nat → Int32) : F_r_meanAnywhere m_thereMany m_meanTop m_meanBy g_c g_there = (
  F_r_meanAnywhere_L7a m_thereMany g_c g_there ((2147483647 - (0 : Int32).toInt).toNat + 1) (0 : Int64) (0 : Int64) (0 : Int32) m_meanTop m_meanBy) := rfl
noncomputable def F_r_from (g_c : Nat → Int32) (g_there : Nat → Int32) (r : Int32) (pp : Int32) (w : Int32) : Int32 :=
  let w_3 := F_r_isRing g_c r
  let r_1 : Int32 := w_3
  if r_1 = 0 then (
    let w_9 := F_r_no 2
    let r_7 : Int32 := w_9.1
    let n_6 : Int32 := w_9.2
    (0 : Int32)) else
  (
    let w_15 := F_r_gather g_c g_there r
    let n_11 : Int32 := w_15.1
    let n_12 : Nat → Int32 := w_15.2
    let x_18 : Int64 := ((pp).toInt64)
    let x_19 : Int32 := (n_11 - 1)
    let x_20 : Int64 := ((x_19).toInt64)
    let w_23 := F_r_isIn x_18 0 x_20
    let r_21 : Int32 := w_23
    if r_21 = 0 then (
      let w_29 := F_r_no 5
      let r_27 : Int32 := w_29.1
      let n_26 : Int32 := w_29.2
      (0 : Int32)) else
    (
      let x_31 : Int64 := ((w).toInt64)
      let w_34 := F_r_isIn x_31 0 1
      let r_32 : Int32 := w_34
      if r_32 = 0 then (
        let w_40 := F_r_no 5
        let r_38 : Int32 := w_40.1
        let n_37 : Int32 := w_40.2
        (0 : Int32)) else
      (
        let w_46 := F_r_meanFrom n_11 g_c n_12 pp w
        let n_42 : Int64 := w_46.1
        let n_43 : Int64 := w_46.2
        if (lg_cmp n_43 0) = 0 then (
          let w_59 := F_r_no 8
          let r_57 : Int32 := w_59.1
          let n_56 : Int32 := w_59.2
          (0 : Int32)) else (
          (1 : Int32)))))
theorem F_r_from_s (g_c : Nat → Int32) (g_there : Nat → Int32) (r : Int32) (pp : Int32) (w : Int32) : F_r_from g_c g_there r pp w = (
  let w_3 := F_r_isRing g_c r
  let r_1 : Int32 := w_3
  if r_1 = 0 then (
    let w_9 := F_r_no 2
    let r_7 : Int32 := w_9.1
    let n_6 : Int32 := w_9.2
    (0 : Int32)) else
  (
    let w_15 := F_r_gather g_c g_there r
    let n_11 : Int32 := w_15.1
    let n_12 : Nat → Int32 := w_15.2
    let x_18 : Int64 := ((pp).toInt64)
    let x_19 : Int32 := (n_11 - 1)
    let x_20 : Int64 := ((x_19).toInt64)
    let w_23 := F_r_isIn x_18 0 x_20
    let r_21 : Int32 := w_23
    if r_21 = 0 then (
      let w_29 := F_r_no 5
      let r_27 : Int32 := w_29.1
      let n_26 : Int32 := w_29.2
      (0 : Int32)) else
    (
      let x_31 : Int64 := ((w).toInt64)
      let w_34 := F_r_isIn x_31 0 1
      let r_32 : Int32 := w_34
      if r_32 = 0 then (
        let w_40 := F_r_no 5
        let r_38 : Int32 := w_40.1
        let n_37 : Int32 := w_40.2
        (0 : Int32)) else
      (
        let w_46 := F_r_meanFrom n_11 g_c n_12 pp w
        let n_42 : Int64 := w_46.1
        let n_43 : Int64 := w_46.2
        if (lg_cmp n_43 0) = 0 then (
          let w_59 := F_r_no 8
          let r_57 : Int32 := w_59.1
          let n_56 : Int32 := w_59.2
          (0 : Int32)) else (
          (1 : Int32)))))) := rfl
noncomputable def F_r_anywhere (m_meanTop : Int64) (m_meanBy : Int64) (g_c : Nat → Int32) (g_there : Nat → Int32) (r : Int32) : Int32 :=
  let w_3 := F_r_isRing g_c r
  let r_1 : Int32 := w_3
  if r_1 = 0 then (
    let w_9 := F_r_no 2
    let r_7 : Int32 := w_9.1
    let n_6 : Int32 := w_9.2
    (0 : Int32)) else
  (
    let w_15 := F_r_gather g_c g_there r
    let n_11 : Int32 := w_15.1
    let n_12 : Nat → Int32 := w_15.2
    let w_22 := F_r_meanAnywhere n_11 m_meanTop m_meanBy g_c n_12
    let n_18 : Int64 := w_22.1
    let n_19 : Int64 := w_22.2
    if (lg_cmp n_19 0) = 0 then (
      let w_35 := F_r_no 8
      let r_33 : Int32 := w_35.1
      let n_32 : Int32 := w_35.2
      (0 : Int32)) else (
      (1 : Int32)))
theorem F_r_anywhere_s (m_meanTop : Int64) (m_meanBy : Int64) (g_c : Nat → Int32) (g_there : Nat → Int32) (r : Int32) : F_r_anywhere m_meanTop m_meanBy g_c g_there r = (
  let w_3 := F_r_isRing g_c r
  let r_1 : Int32 := w_3
  if r_1 = 0 then (
    let w_9 := F_r_no 2
    let r_7 : Int32 := w_9.1
    let n_6 : Int32 := w_9.2
    (0 : Int32)) else
  (
    let w_15 := F_r_gather g_c g_there r
    let n_11 : Int32 := w_15.1
    let n_12 : Nat → Int32 := w_15.2
    let w_22 := F_r_meanAnywhere n_11 m_meanTop m_meanBy g_c n_12
    let n_18 : Int64 := w_22.1
    let n_19 : Int64 := w_22.2
    if (lg_cmp n_19 0) = 0 then (
      let w_35 := F_r_no 8
      let r_33 : Int32 := w_35.1
      let n_32 : Int32 := w_35.2
      (0 : Int32)) else (
      (1 : Int32)))) := rfl
noncomputable def F_r_walk_L25a (m_thereMany : Int32) (g_c : Nat → Int32) (g_there : Nat → Int32) (v_5728 : Int32) (v_5729 : Int32) (v_5730 : Int32) (G_L6a : Int32 → Int32 → Int32 → (Int32)) : Nat → Int32 → Int32 → Int32 → Int32 := fun k9 => Nat.rec (motive := fun _ => Int32 → Int32 → Int32 → Int32) (fun _ _ _ => default) (fun _ (G_L25a : Int32 → Int32 → Int32 → Int32) => fun (v_7016 : Int32) (v_7017 : Int32) (v_7018 : Int32) =>
    if m_thereMany ≤ v_7018 then (
      if 0 ≤ v_7016 then (
        let x_7096 : Int32 := (g_c (7 : Int32).toNatClampNeg)
        let x_7097 : Int32 := (v_7017 * x_7096)
        let x_7098 : Int32 := (g_c (6 : Int32).toNatClampNeg)
        let x_7099 : Int32 := (x_7097 + x_7098)
        let x_7100 : Int32 := (v_5729 + x_7099)
        let x_7101 : Int32 := (v_5730 + 1)
        G_L6a v_7016 x_7100 x_7101) else (
        (-1 : Int32))) else (
      let x_7106 : Int32 := (m_thereMany - v_7018)
      let w_7109 := F_r_Ma_min v_7018 x_7106
      let r_7107 : Int32 := w_7109
      let x_7110 : Int32 := (v_5728 + v_7018)
      let x_7111 : Int32 := (x_7110 - x_7110 / m_thereMany * m_thereMany)
      let x_7112 : Int32 := (g_there (x_7111 : Int32).toNatClampNeg)
      let x_7113 : Int32 := ((138 : Int32) + v_5730)
      let x_7114 : Int32 := (g_c (x_7113 : Int32).toNatClampNeg)
      let w_7117 := F_r_canOpen g_c x_7112 x_7114
      let r_7115 : Int32 := w_7117
      if r_7115 = 0 then (
        let x_7120 : Int32 := (v_7018 + 1)
        G_L25a v_7016 v_7017 x_7120) else
      (
        if v_7016 < 0 then (
          let x_7124 : Int32 := (v_5728 + v_7018)
          let x_7125 : Int32 := (x_7124 - x_7124 / m_thereMany * m_thereMany)
          let x_7126 : Int32 := (v_7018 + 1)
          G_L25a x_7125 r_7107 x_7126) else (
          if r_7107 < v_7017 then (
            let x_7131 : Int32 := (v_5728 + v_7018)
            let x_7132 : Int32 := (x_7131 - x_7131 / m_thereMany * m_thereMany)
            let x_7133 : Int32 := (v_7018 + 1)
            G_L25a x_7132 r_7107 x_7133) else (
            let x_7136 : Int32 := (v_7018 + 1)
            G_L25a v_7016 v_7017 x_7136))))) k9
theorem F_r_walk_L25a_s (m_thereMany : Int32) (g_c : Nat → Int32) (g_there : Nat → Int32) (v_5728 : Int32) (v_5729 : Int32) (v_5730 : Int32) (G_L6a : Int32 → Int32 → Int32 → (Int32)) (n9 : Nat) (v_7016 : Int32) (v_7017 : Int32) (v_7018 : Int32) : F_r_walk_L25a m_thereMany g_c g_there v_5728 v_5729 v_5730 G_L6a (n9 + 1) v_7016 v_7017 v_7018 = (
    if m_thereMany ≤ v_7018 then (
      if 0 ≤ v_7016 then (
        let x_7096 : Int32 := (g_c (7 : Int32).toNatClampNeg)
        let x_7097 : Int32 := (v_7017 * x_7096)
        let x_7098 : Int32 := (g_c (6 : Int32).toNatClampNeg)
        let x_7099 : Int32 := (x_7097 + x_7098)
        let x_7100 : Int32 := (v_5729 + x_7099)
        let x_7101 : Int32 := (v_5730 + 1)
        G_L6a v_7016 x_7100 x_7101) else (
        (-1 : Int32))) else (
      let x_7106 : Int32 := (m_thereMany - v_7018)
      let w_7109 := F_r_Ma_min v_7018 x_7106
      let r_7107 : Int32 := w_7109
      let x_7110 : Int32 := (v_5728 + v_7018)
      let x_7111 : Int32 := (x_7110 - x_7110 / m_thereMany * m_thereMany)
      let x_7112 : Int32 := (g_there (x_7111 : Int32).toNatClampNeg)
      let x_7113 : Int32 := ((138 : Int32) + v_5730)
      let x_7114 : Int32 := (g_c (x_7113 : Int32).toNatClampNeg)
      let w_7117 := F_r_canOpen g_c x_7112 x_7114
      let r_7115 : Int32 := w_7117
      if r_7115 = 0 then (
        let x_7120 : Int32 := (v_7018 + 1)
        (F_r_walk_L25a m_thereMany g_c g_there v_5728 v_5729 v_5730 G_L6a n9) v_7016 v_7017 x_7120) else
      (
        if v_7016 < 0 then (
          let x_7124 : Int32 := (v_5728 + v_7018)
          let x_7125 : Int32 := (x_7124 - x_7124 / m_thereMany * m_thereMany)
          let x_7126 : Int32 := (v_7018 + 1)
          (F_r_walk_L25a m_thereMany g_c g_there v_5728 v_5729 v_5730 G_L6a n9) x_7125 r_7107 x_7126) else (
          if r_7107 < v_7017 then (
            let x_7131 : Int32 := (v_5728 + v_7018)
            let x_7132 : Int32 := (x_7131 - x_7131 / m_thereMany * m_thereMany)
            let x_7133 : Int32 := (v_7018 + 1)
            (F_r_walk_L25a m_thereMany g_c g_there v_5728 v_5729 v_5730 G_L6a n9) x_7132 r_7107 x_7133) else (
            let x_7136 : Int32 := (v_7018 + 1)
            (F_r_walk_L25a m_thereMany g_c g_there v_5728 v_5729 v_5730 G_L6a n9) v_7016 v_7017 x_7136))))) := rfl
noncomputable def F_r_walk_L6a (m_thereMany : Int32) (g_c : Nat → Int32) (g_there : Nat → Int32) : Nat → Int32 → Int32 → Int32 → Int32 := fun k9 => Nat.rec (motive := fun _ => Int32 → Int32 → Int32 → Int32) (fun _ _ _ => default) (fun _ (G_L6a : Int32 → Int32 → Int32 → Int32) => fun (v_5728 : Int32) (v_5729 : Int32) (v_5730 : Int32) =>
    let x_6652 : Int32 := (g_c (4 : Int32).toNatClampNeg)
    if x_6652 ≤ v_5730 then (
      v_5729) else (
      F_r_walk_L25a m_thereMany g_c g_there v_5728 v_5729 v_5730 G_L6a ((2147483647 - (0 : Int32).toInt).toNat + 1) (-1 : Int32) (0 : Int32) (0 : Int32))) k9
theorem F_r_walk_L6a_s (m_thereMany : Int32) (g_c : Nat → Int32) (g_there : Nat → Int32) (n9 : Nat) (v_5728 : Int32) (v_5729 : Int32) (v_5730 : Int32) : F_r_walk_L6a m_thereMany g_c g_there (n9 + 1) v_5728 v_5729 v_5730 = (
    let x_6652 : Int32 := (g_c (4 : Int32).toNatClampNeg)
    if x_6652 ≤ v_5730 then (
      v_5729) else (
      F_r_walk_L25a m_thereMany g_c g_there v_5728 v_5729 v_5730 (F_r_walk_L6a m_thereMany g_c g_there n9) ((2147483647 - (0 : Int32).toInt).toNat + 1) (-1 : Int32) (0 : Int32) (0 : Int32))) := rfl
noncomputable def F_r_walk (m_thereMany : Int32) (g_c : Nat → Int32) (g_there : Nat → Int32) : Int32 :=
  F_r_walk_L6a m_thereMany g_c g_there ((2147483647 - (0 : Int32).toInt).toNat + 1) (0 : Int32) (0 : Int32) (0 : Int32)
theorem F_r_walk_s (m_thereMany : Int32) (g_c : Nat → Int32) (g_there : Nat → Int32) : F_r_walk m_thereMany g_c g_there = (
  F_r_walk_L6a m_thereMany g_c g_there ((2147483647 - (0 : Int32).toInt).toNat + 1) (0 : Int32) (0 : Int32) (0 : Int32)) := rfl
noncomputable def F_r_isUsed_L2a (g_tried : Nat → Int32) (k : Int32) (nn : Int32) : Nat → Int32 → Int32 := fun k9 => Nat.rec (motive := fun _ => Int32 → Int32) (fun _ => default) (fun _ (G_L2a : Int32 → Int32) => fun (v_89 : Int32) =>
    if nn ≤ v_89 then (
      (0 : Int32)) else (
      let x_113 : Int32 := (g_tried (v_89 : Int32).toNatClampNeg)
      if x_113 = k then (
        (1 : Int32)) else (
        let x_116 : Int32 := (v_89 + 1)
        G_L2a x_116))) k9
theorem F_r_isUsed_L2a_s (g_tried : Nat → Int32) (k : Int32) (nn : Int32) (n9 : Nat) (v_89 : Int32) : F_r_isUsed_L2a g_tried k nn (n9 + 1) v_89 = (
    if nn ≤ v_89 then (
      (0 : Int32)) else (
      let x_113 : Int32 := (g_tried (v_89 : Int32).toNatClampNeg)
      if x_113 = k then (
        (1 : Int32)) else (
        let x_116 : Int32 := (v_89 + 1)
        (F_r_isUsed_L2a g_tried k nn n9) x_116))) := rfl
noncomputable def F_r_isUsed (g_tried : Nat → Int32) (k : Int32) (nn : Int32) : Int32 :=
  F_r_isUsed_L2a g_tried k nn ((2147483647 - (0 : Int32).toInt).toNat + 1) (0 : Int32)
theorem F_r_isUsed_s (g_tried : Nat → Int32) (k : Int32) (nn : Int32) : F_r_isUsed g_tried k nn = (
  F_r_isUsed_L2a g_tried k nn ((2147483647 - (0 : Int32).toInt).toNat + 1) (0 : Int32)) := rfl
noncomputable def F_r_isOrdered_L2a (m_orderMany : Int32) (g_best : Nat → Int32) (k : Int32) : Nat → Int32 → Int32 := fun k9 => Nat.rec (motive := fun _ => Int32 → Int32) (fun _ => default) (fun _ (G_L2a : Int32 → Int32) => fun (v_98 : Int32) =>
    if m_orderMany ≤ v_98 then (
      (0 : Int32)) else (
      let x_122 : Int32 := (g_best (v_98 : Int32).toNatClampNeg)
      if x_122 = k then (
        (1 : Int32)) else (
        let x_125 : Int32 := (v_98 + 1)
        G_L2a x_125))) k9
theorem F_r_isOrdered_L2a_s (m_orderMany : Int32) (g_best : Nat → Int32) (k : Int32) (n9 : Nat) (v_98 : Int32) : F_r_isOrdered_L2a m_orderMany g_best k (n9 + 1) v_98 = (
    if m_orderMany ≤ v_98 then (
      (0 : Int32)) else (
      let x_122 : Int32 := (g_best (v_98 : Int32).toNatClampNeg)
      if x_122 = k then (
        (1 : Int32)) else (
        let x_125 : Int32 := (v_98 + 1)
        (F_r_isOrdered_L2a m_orderMany g_best k n9) x_125))) := rfl
noncomputable def F_r_isOrdered (m_orderMany : Int32) (g_best : Nat → Int32) (k : Int32) : Int32 :=
  F_r_isOrdered_L2a m_orderMany g_best k ((2147483647 - (0 : Int32).toInt).toNat + 1) (0 : Int32)
theorem F_r_isOrdered_s (m_orderMany : Int32) (g_best : Nat → Int32) (k : Int32) : F_r_isOrdered m_orderMany g_best k = (
  F_r_isOrdered_L2a m_orderMany g_best k ((2147483647 - (0 : Int32).toInt).toNat + 1) (0 : Int32)) := rfl
noncomputable def F_r_judge_L126a (m_orderMany : Int32) (g_tried : Nat → Int32) (g_87 : Nat → Int32) (n_803 : Int64) (n_804 : Int64) : Nat → Int32 → (Nat → Int32) → (Int32 × Int64 × Int64 × Int64 × Int64 × (Nat → Int32) × (Nat → Int32)) := fun k9 => Nat.rec (motive := fun _ => Int32 → (Nat → Int32) → (Int32 × Int64 × Int64 × Int64 × Int64 × (Nat → Int32) × (Nat → Int32))) (fun _ _ => default) (fun _ (G_L126a : Int32 → (Nat → Int32) → (Int32 × Int64 × Int64 × Int64 × Int64 × (Nat → Int32) × (Nat → Int32))) => fun (v_896 : Int32) (g_897 : Nat → Int32) =>
    if m_orderMany ≤ v_896 then (
      ((1 : Int32), n_803, n_804, n_803, n_804, g_87, g_897)) else (
      let x_916 : Int32 := (g_tried (v_896 : Int32).toNatClampNeg)
      let g_917 : Nat → Int32 := (upd g_897 (v_896 : Int32).toNatClampNeg x_916)
      let x_918 : Int32 := (v_896 + 1)
      G_L126a x_918 g_917)) k9
theorem F_r_judge_L126a_s (m_orderMany : Int32) (g_tried : Nat → Int32) (g_87 : Nat → Int32) (n_803 : Int64) (n_804 : Int64) (n9 : Nat) (v_896 : Int32) (g_897 : Nat → Int32) : F_r_judge_L126a m_orderMany g_tried g_87 n_803 n_804 (n9 + 1) v_896 g_897 = (
    if m_orderMany ≤ v_896 then (
      ((1 : Int32), n_803, n_804, n_803, n_804, g_87, g_897)) else (
      let x_916 : Int32 := (g_tried (v_896 : Int32).toNatClampNeg)
      let g_917 : Nat → Int32 := (upd g_897 (v_896 : Int32).toNatClampNeg x_916)
      let x_918 : Int32 := (v_896 + 1)
      (F_r_judge_L126a m_orderMany g_tried g_87 n_803 n_804 n9) x_918 g_917)) := rfl
noncomputable def F_r_judge_L126b (m_orderMany : Int32) (g_tried : Nat → Int32) (g_87 : Nat → Int32) (n_803 : Int64) (n_804 : Int64) : Nat → Int32 → (Nat → Int32) → (Int32 × Int64 × Int64 × Int64 × Int64 × (Nat → Int32) × (Nat → Int32)) := fun k9 => Nat.rec (motive := fun _ => Int32 → (Nat → Int32) → (Int32 × Int64 × Int64 × Int64 × Int64 × (Nat → Int32) × (Nat → Int32))) (fun _ _ => default) (fun _ (G_L126b : Int32 → (Nat → Int32) → (Int32 × Int64 × Int64 × Int64 × Int64 × (Nat → Int32) × (Nat → Int32))) => fun (v_1011 : Int32) (g_1012 : Nat → Int32) =>
    if m_orderMany ≤ v_1011 then (
      ((1 : Int32), n_803, n_804, n_803, n_804, g_87, g_1012)) else (
      let x_1031 : Int32 := (g_tried (v_1011 : Int32).toNatClampNeg)
      let g_1032 : Nat → Int32 := (upd g_1012 (v_1011 : Int32).toNatClampNeg x_1031)
      let x_1033 : Int32 := (v_1011 + 1)
      G_L126b x_1033 g_1032)) k9
theorem F_r_judge_L126b_s (m_orderMany : Int32) (g_tried : Nat → Int32) (g_87 : Nat → Int32) (n_803 : Int64) (n_804 : Int64) (n9 : Nat) (v_1011 : Int32) (g_1012 : Nat → Int32) : F_r_judge_L126b m_orderMany g_tried g_87 n_803 n_804 (n9 + 1) v_1011 g_1012 = (
    if m_orderMany ≤ v_1011 then (
      ((1 : Int32), n_803, n_804, n_803, n_804, g_87, g_1012)) else (
      let x_1031 : Int32 := (g_tried (v_1011 : Int32).toNatClampNeg)
      let g_1032 : Nat → Int32 := (upd g_1012 (v_1011 : Int32).toNatClampNeg x_1031)
      let x_1033 : Int32 := (v_1011 + 1)
      (F_r_judge_L126b m_orderMany g_tried g_87 n_803 n_804 n9) x_1033 g_1032)) := rfl
noncomputable def F_r_judge_L126c (m_orderMany : Int32) (g_tried : Nat → Int32) (g_87 : Nat → Int32) (n_1039 : Int64) (n_1040 : Int64) : Nat → Int32 → (Nat → Int32) → (Int32 × Int64 × Int64 × Int64 × Int64 × (Nat → Int32) × (Nat → Int32)) := fun k9 => Nat.rec (motive := fun _ => Int32 → (Nat → Int32) → (Int32 × Int64 × Int64 × Int64 × Int64 × (Nat → Int32) × (Nat → Int32))) (fun _ _ => default) (fun _ (G_L126c : Int32 → (Nat → Int32) → (Int32 × Int64 × Int64 × Int64 × Int64 × (Nat → Int32) × (Nat → Int32))) => fun (v_1132 : Int32) (g_1133 : Nat → Int32) =>
    if m_orderMany ≤ v_1132 then (
      ((1 : Int32), n_1039, n_1040, n_1039, n_1040, g_87, g_1133)) else (
      let x_1152 : Int32 := (g_tried (v_1132 : Int32).toNatClampNeg)
      let g_1153 : Nat → Int32 := (upd g_1133 (v_1132 : Int32).toNatClampNeg x_1152)
      let x_1154 : Int32 := (v_1132 + 1)
      G_L126c x_1154 g_1153)) k9
theorem F_r_judge_L126c_s (m_orderMany : Int32) (g_tried : Nat → Int32) (g_87 : Nat → Int32) (n_1039 : Int64) (n_1040 : Int64) (n9 : Nat) (v_1132 : Int32) (g_1133 : Nat → Int32) : F_r_judge_L126c m_orderMany g_tried g_87 n_1039 n_1040 (n9 + 1) v_1132 g_1133 = (
    if m_orderMany ≤ v_1132 then (
      ((1 : Int32), n_1039, n_1040, n_1039, n_1040, g_87, g_1133)) else (
      let x_1152 : Int32 := (g_tried (v_1132 : Int32).toNatClampNeg)
      let g_1153 : Nat → Int32 := (upd g_1133 (v_1132 : Int32).toNatClampNeg x_1152)
      let x_1154 : Int32 := (v_1132 + 1)
      (F_r_judge_L126c m_orderMany g_tried g_87 n_1039 n_1040 n9) x_1154 g_1153)) := rfl
noncomputable def F_r_judge_L126d (m_orderMany : Int32) (g_tried : Nat → Int32) (g_87 : Nat → Int32) (n_1039 : Int64) (n_1040 : Int64) : Nat → Int32 → (Nat → Int32) → (Int32 × Int64 × Int64 × Int64 × Int64 × (Nat → Int32) × (Nat → Int32)) := fun k9 => Nat.rec (motive := fun _ => Int32 → (Nat → Int32) → (Int32 × Int64 × Int64 × Int64 × Int64 × (Nat → Int32) × (Nat → Int32))) (fun _ _ => default) (fun _ (G_L126d : Int32 → (Nat → Int32) → (Int32 × Int64 × Int64 × Int64 × Int64 × (Nat → Int32) × (Nat → Int32))) => fun (v_1247 : Int32) (g_1248 : Nat → Int32) =>
    if m_orderMany ≤ v_1247 then (
      ((1 : Int32), n_1039, n_1040, n_1039, n_1040, g_87, g_1248)) else (
      let x_1267 : Int32 := (g_tried (v_1247 : Int32).toNatClampNeg)
      let g_1268 : Nat → Int32 := (upd g_1248 (v_1247 : Int32).toNatClampNeg x_1267)
      let x_1269 : Int32 := (v_1247 + 1)
      G_L126d x_1269 g_1268)) k9
theorem F_r_judge_L126d_s (m_orderMany : Int32) (g_tried : Nat → Int32) (g_87 : Nat → Int32) (n_1039 : Int64) (n_1040 : Int64) (n9 : Nat) (v_1247 : Int32) (g_1248 : Nat → Int32) : F_r_judge_L126d m_orderMany g_tried g_87 n_1039 n_1040 (n9 + 1) v_1247 g_1248 = (
    if m_orderMany ≤ v_1247 then (
      ((1 : Int32), n_1039, n_1040, n_1039, n_1040, g_87, g_1248)) else (
      let x_1267 : Int32 := (g_tried (v_1247 : Int32).toNatClampNeg)
      let g_1268 : Nat → Int32 := (upd g_1248 (v_1247 : Int32).toNatClampNeg x_1267)
      let x_1269 : Int32 := (v_1247 + 1)
      (F_r_judge_L126d m_orderMany g_tried g_87 n_1039 n_1040 n9) x_1269 g_1268)) := rfl
noncomputable def F_r_judge_L126e (m_orderMany : Int32) (g_tried : Nat → Int32) (g_87 : Nat → Int32) (x_1278 : Int64) : Nat → Int32 → (Nat → Int32) → (Int32 × Int64 × Int64 × Int64 × Int64 × (Nat → Int32) × (Nat → Int32)) := fun k9 => Nat.rec (motive := fun _ => Int32 → (Nat → Int32) → (Int32 × Int64 × Int64 × Int64 × Int64 × (Nat → Int32) × (Nat → Int32))) (fun _ _ => default) (fun _ (G_L126e : Int32 → (Nat → Int32) → (Int32 × Int64 × Int64 × Int64 × Int64 × (Nat → Int32) × (Nat → Int32))) => fun (v_1366 : Int32) (g_1367 : Nat → Int32) =>
    if m_orderMany ≤ v_1366 then (
      ((1 : Int32), x_1278, (1 : Int64), x_1278, (1 : Int64), g_87, g_1367)) else (
      let x_1386 : Int32 := (g_tried (v_1366 : Int32).toNatClampNeg)
      let g_1387 : Nat → Int32 := (upd g_1367 (v_1366 : Int32).toNatClampNeg x_1386)
      let x_1388 : Int32 := (v_1366 + 1)
      G_L126e x_1388 g_1387)) k9
theorem F_r_judge_L126e_s (m_orderMany : Int32) (g_tried : Nat → Int32) (g_87 : Nat → Int32) (x_1278 : Int64) (n9 : Nat) (v_1366 : Int32) (g_1367 : Nat → Int32) : F_r_judge_L126e m_orderMany g_tried g_87 x_1278 (n9 + 1) v_1366 g_1367 = (
    if m_orderMany ≤ v_1366 then (
      ((1 : Int32), x_1278, (1 : Int64), x_1278, (1 : Int64), g_87, g_1367)) else (
      let x_1386 : Int32 := (g_tried (v_1366 : Int32).toNatClampNeg)
      let g_1387 : Nat → Int32 := (upd g_1367 (v_1366 : Int32).toNatClampNeg x_1386)
      let x_1388 : Int32 := (v_1366 + 1)
      (F_r_judge_L126e m_orderMany g_tried g_87 x_1278 n9) x_1388 g_1387)) := rfl
noncomputable def F_r_judge_L126f (m_orderMany : Int32) (g_tried : Nat → Int32) (g_87 : Nat → Int32) (x_1278 : Int64) : Nat → Int32 → (Nat → Int32) → (Int32 × Int64 × Int64 × Int64 × Int64 × (Nat → Int32) × (Nat → Int32)) := fun k9 => Nat.rec (motive := fun _ => Int32 → (Nat → Int32) → (Int32 × Int64 × Int64 × Int64 × Int64 × (Nat → Int32) × (Nat → Int32))) (fun _ _ => default) (fun _ (G_L126f : Int32 → (Nat → Int32) → (Int32 × Int64 × Int64 × Int64 × Int64 × (Nat → Int32) × (Nat → Int32))) => fun (v_1481 : Int32) (g_1482 : Nat → Int32) =>
    if m_orderMany ≤ v_1481 then (
      ((1 : Int32), x_1278, (1 : Int64), x_1278, (1 : Int64), g_87, g_1482)) else (
      let x_1501 : Int32 := (g_tried (v_1481 : Int32).toNatClampNeg)
      let g_1502 : Nat → Int32 := (upd g_1482 (v_1481 : Int32).toNatClampNeg x_1501)
      let x_1503 : Int32 := (v_1481 + 1)
      G_L126f x_1503 g_1502)) k9
theorem F_r_judge_L126f_s (m_orderMany : Int32) (g_tried : Nat → Int32) (g_87 : Nat → Int32) (x_1278 : Int64) (n9 : Nat) (v_1481 : Int32) (g_1482 : Nat → Int32) : F_r_judge_L126f m_orderMany g_tried g_87 x_1278 (n9 + 1) v_1481 g_1482 = (
    if m_orderMany ≤ v_1481 then (
      ((1 : Int32), x_1278, (1 : Int64), x_1278, (1 : Int64), g_87, g_1482)) else (
      let x_1501 : Int32 := (g_tried (v_1481 : Int32).toNatClampNeg)
      let g_1502 : Nat → Int32 := (upd g_1482 (v_1481 : Int32).toNatClampNeg x_1501)
      let x_1503 : Int32 := (v_1481 + 1)
      (F_r_judge_L126f m_orderMany g_tried g_87 x_1278 n9) x_1503 g_1502)) := rfl
noncomputable def F_r_judge_L2a (m_thereMany : Int32) (m_orderHow : Int32) (m_orderMany : Int32) (m_hasBest : Int32) (m_bestTop : Int64) (m_bestBy : Int64) (m_meanTop : Int64) (m_meanBy : Int64) (g_c : Nat → Int32) (g_tried : Nat → Int32) (g_order : Nat → Int32) : Nat → Int32 → (Nat → Int32) → (Int32 × Int64 × Int64 × Int64 × Int64 × (Nat → Int32) × (Nat → Int32)) := fun k9 => Nat.rec (motive := fun _ => Int32 → (Nat → Int32) → (Int32 × Int64 × Int64 × Int64 × Int64 × (Nat → Int32) × (Nat → Int32))) (fun _ _ => default) (fun _ (G_L2a : Int32 → (Nat → Int32) → (Int32 × Int64 × Int64 × Int64 × Int64 × (Nat → Int32) × (Nat → Int32))) => fun (v_86 : Int32) (g_87 : Nat → Int32) =>
    if m_orderMany ≤ v_86 then (
      if m_orderHow = 2 then (
        let w_1277 := F_r_walk m_thereMany g_c g_87
        let r_1275 : Int32 := w_1277
        let x_1278 : Int64 := ((r_1275).toInt64)
        if m_hasBest = 0 then (
          F_r_judge_L126e m_orderMany g_tried g_87 x_1278 ((2147483647 - (0 : Int32).toInt).toNat + 1) (0 : Int32) g_order) else (
          let x_1392 : Int64 := (x_1278 * m_bestBy)
          let x_1393 : Int64 := (m_bestTop * 1)
          if (lg_cmp x_1392 x_1393) < 0 then (
            F_r_judge_L126f m_orderMany g_tried g_87 x_1278 ((2147483647 - (0 : Int32).toInt).toNat + 1) (0 : Int32) g_order) else (
            (m_hasBest, m_bestTop, m_bestBy, x_1278, (1 : Int64), g_87, g_order)))) else (
        if m_orderHow = 0 then (
          let w_1043 := F_r_meanFrom m_thereMany g_c g_87 0 0
          let n_1039 : Int64 := w_1043.1
          let n_1040 : Int64 := w_1043.2
          if m_hasBest = 0 then (
            F_r_judge_L126c m_orderMany g_tried g_87 n_1039 n_1040 ((2147483647 - (0 : Int32).toInt).toNat + 1) (0 : Int32) g_order) else (
            let x_1158 : Int64 := (n_1039 * m_bestBy)
            let x_1159 : Int64 := (m_bestTop * n_1040)
            if (lg_cmp x_1158 x_1159) < 0 then (
              F_r_judge_L126d m_orderMany g_tried g_87 n_1039 n_1040 ((2147483647 - (0 : Int32).toInt).toNat + 1) (0 : Int32) g_order) else (
              (m_hasBest, m_bestTop, m_bestBy, n_1039, n_1040, g_87, g_order)))) else (
          let w_807 := F_r_meanAnywhere m_thereMany m_meanTop m_meanBy g_c g_87
          let n_803 : Int64 := w_807.1
          let n_804 : Int64 := w_807.2
          if m_hasBest = 0 then (
            F_r_judge_L126a m_orderMany g_tried g_87 n_803 n_804 ((2147483647 - (0 : Int32).toInt).toNat + 1) (0 : Int32) g_order) else (
            let x_922 : Int64 := (n_803 * m_bestBy)
            let x_923 : Int64 := (m_bestTop * n_804)
            if (lg_cmp x_922 x_923) < 0 then (
              F_r_judge_L126b m_orderMany g_tried g_87 n_803 n_804 ((2147483647 - (0 : Int32).toInt).toNat + 1) (0 : Int32) g_order) else (
              (m_hasBest, m_bestTop, m_bestBy, n_803, n_804, g_87, g_order)))))) else (
      let x_1509 : Int32 := (g_tried (v_86 : Int32).toNatClampNeg)
      let g_1510 : Nat → Int32 := (upd g_87 (v_86 : Int32).toNatClampNeg x_1509)
      let x_1511 : Int32 := (v_86 + 1)
      G_L2a x_1511 g_1510)) k9
theorem F_r_judge_L2a_s (m_thereMany : Int32) (m_orderHow : Int32) (m_orderMany : Int32) (m_hasBest : Int32) (m_bestTop : Int64) (m_bestBy : Int64) (m_meanTop : Int64) (m_meanBy : Int64) (g_c : Nat → Int32) (g_tried : Nat → Int32) (g_order : Nat → Int32) (n9 : Nat) (v_86 : Int32) (g_87 : Nat → Int32) : F_r_judge_L2a m_thereMany m_orderHow m_orderMany m_hasBest m_bestTop m_bestBy m_meanTop m_meanBy g_c g_tried g_order (n9 + 1) v_86 g_87 = (
    if m_orderMany ≤ v_86 then (
      if m_orderHow = 2 then (
        let w_1277 := F_r_walk m_thereMany g_c g_87
        let r_1275 : Int32 := w_1277
        let x_1278 : Int64 := ((r_1275).toInt64)
        if m_hasBest = 0 then (
          F_r_judge_L126e m_orderMany g_tried g_87 x_1278 ((2147483647 - (0 : Int32).toInt).toNat + 1) (0 : Int32) g_order) else (
          let x_1392 : Int64 := (x_1278 * m_bestBy)
          let x_1393 : Int64 := (m_bestTop * 1)
          if (lg_cmp x_1392 x_1393) < 0 then (
            F_r_judge_L126f m_orderMany g_tried g_87 x_1278 ((2147483647 - (0 : Int32).toInt).toNat + 1) (0 : Int32) g_order) else (
            (m_hasBest, m_bestTop, m_bestBy, x_1278, (1 : Int64), g_87, g_order)))) else (
        if m_orderHow = 0 then (
          let w_1043 := F_r_meanFrom m_thereMany g_c g_87 0 0
          let n_1039 : Int64 := w_1043.1
          let n_1040 : Int64 := w_1043.2
          if m_hasBest = 0 then (
            F_r_judge_L126c m_orderMany g_tried g_87 n_1039 n_1040 ((2147483647 - (0 : Int32).toInt).toNat + 1) (0 : Int32) g_order) else (
            let x_1158 : Int64 := (n_1039 * m_bestBy)
            let x_1159 : Int64 := (m_bestTop * n_1040)
            if (lg_cmp x_1158 x_1159) < 0 then (
              F_r_judge_L126d m_orderMany g_tried g_87 n_1039 n_1040 ((2147483647 - (0 : Int32).toInt).toNat + 1) (0 : Int32) g_order) else (
              (m_hasBest, m_bestTop, m_bestBy, n_1039, n_1040, g_87, g_order)))) else (
          let w_807 := F_r_meanAnywhere m_thereMany m_meanTop m_meanBy g_c g_87
          let n_803 : Int64 := w_807.1
          let n_804 : Int64 := w_807.2
          if m_hasBest = 0 then (
            F_r_judge_L126a m_orderMany g_tried g_87 n_803 n_804 ((2147483647 - (0 : Int32).toInt).toNat + 1) (0 : Int32) g_order) else (
            let x_922 : Int64 := (n_803 * m_bestBy)
            let x_923 : Int64 := (m_bestTop * n_804)
            if (lg_cmp x_922 x_923) < 0 then (
              F_r_judge_L126b m_orderMany g_tried g_87 n_803 n_804 ((2147483647 - (0 : Int32).toInt).toNat + 1) (0 : Int32) g_order) else (
              (m_hasBest, m_bestTop, m_bestBy, n_803, n_804, g_87, g_order)))))) else (
      let x_1509 : Int32 := (g_tried (v_86 : Int32).toNatClampNeg)
      let g_1510 : Nat → Int32 := (upd g_87 (v_86 : Int32).toNatClampNeg x_1509)
      let x_1511 : Int32 := (v_86 + 1)
      (F_r_judge_L2a m_thereMany m_orderHow m_orderMany m_hasBest m_bestTop m_bestBy m_meanTop m_meanBy g_c g_tried g_order n9) x_1511 g_1510)) := rfl
noncomputable def F_r_judge (m_thereMany : Int32) (m_orderHow : Int32) (m_orderMany : Int32) (m_hasBest : Int32) (m_bestTop : Int64) (m_bestBy : Int64) (m_meanTop : Int64) (m_meanBy : Int64) (g_c : Nat → Int32) (g_there : Nat → Int32) (g_tried : Nat → Int32) (g_order : Nat → Int32) : Int32 × Int64 × Int64 × Int64 × Int64 × (Nat → Int32) × (Nat → Int32) :=
  F_r_judge_L2a m_thereMany m_orderHow m_orderMany m_hasBest m_bestTop m_bestBy m_meanTop m_meanBy g_c g_tried g_order ((2147483647 - (0 : Int32).toInt).toNat + 1) (0 : Int32) g_there
theorem F_r_judge_s (m_thereMany : Int32) (m_orderHow : Int32) (m_orderMany : Int32) (m_hasBest : Int32) (m_bestTop : Int64) (m_bestBy : Int64) (m_meanTop : Int64) (m_meanBy : Int64) (g_c : Nat → Int32) (g_there : Nat → Int32) (g_tried : Nat → Int32) (g_order : Nat → Int32) : F_r_judge m_thereMany m_orderHow m_orderMany m_hasBest m_bestTop m_bestBy m_meanTop m_meanBy g_c g_there g_tried g_order = (
  F_r_judge_L2a m_thereMany m_orderHow m_orderMany m_hasBest m_bestTop m_bestBy m_meanTop m_meanBy g_c g_tried g_order ((2147483647 - (0 : Int32).toInt).toNat + 1) (0 : Int32) g_there) := rfl
