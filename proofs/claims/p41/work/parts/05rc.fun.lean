noncomputable def F_r_readFeels_L74a (m_textEnd : Int32) (g_tape : Nat → Int32) (r_14 : Int32) (n_12 : Int32) (n_13 : Int32) (g_32 : Nat → Int32) (x_45 : Int32) : Nat → Int32 → Int32 → Int32 → (Nat → Int32) → Int32 → Int32 → Int32 → Int32 → Int32 → Int64 → (Int32 × Int32 × Int32 × Int32 × Int32 × Int32 × Int32 × Int64 × (Nat → Int32) × (Nat → Int32)) := fun k9 => Nat.rec (motive := fun _ => Int32 → Int32 → Int32 → (Nat → Int32) → Int32 → Int32 → Int32 → Int32 → Int32 → Int64 → (Int32 × Int32 × Int32 × Int32 × Int32 × Int32 × Int32 × Int64 × (Nat → Int32) × (Nat → Int32))) (fun _ _ _ _ _ _ _ _ _ _ => default) (fun _ (G_L74a : Int32 → Int32 → Int32 → (Nat → Int32) → Int32 → Int32 → Int32 → Int32 → Int32 → Int64 → (Int32 × Int32 × Int32 × Int32 × Int32 × Int32 × Int32 × Int64 × (Nat → Int32) × (Nat → Int32))) => fun (v_367 : Int32) (v_368 : Int32) (v_369 : Int32) (g_370 : Nat → Int32) (v_371 : Int32) (v_372 : Int32) (v_373 : Int32) (v_374 : Int32) (v_375 : Int32) (v_376 : Int64) =>
    if v_369 = 0 then (
      let w_869 := F_r_isSign v_371 v_374 59
      let r_867 : Int32 := w_869
      if r_867 = 0 then (
        (n_12, n_13, v_371, v_372, v_373, v_374, v_375, v_376, g_32, g_370)) else
      (
        let x_873 : Int32 := (x_45 * x_45)
        if x_873 ≤ v_367 then (
          (n_12, n_13, v_371, v_372, v_373, v_374, v_375, v_376, g_32, g_370)) else (
          let w_882 := F_r_fail n_12 n_13 8 v_372
          let n_878 : Int32 := w_882.1
          let n_879 : Int32 := w_882.2
          (n_878, n_879, v_371, v_372, v_373, v_374, v_375, v_376, g_32, g_370)))) else (
      if v_371 = 2 then (
        if v_374 ≤ 16 then (
          let x_896 : Int32 := (x_45 * x_45)
          if v_367 = x_896 then (
            let w_1063 := F_r_fail n_12 n_13 8 v_372
            let n_1059 : Int32 := w_1063.1
            let n_1060 : Int32 := w_1063.2
            let x_1065 : Int32 := (v_367 - v_367 / x_45 * x_45)
            if x_1065 = 0 then (
              (n_1059, n_1060, v_371, v_372, v_373, v_374, v_375, v_376, g_32, g_370)) else (
              let x_1068 : Int32 := (v_368 + v_374)
              (n_1059, n_1060, v_371, v_372, v_373, v_374, v_375, v_376, g_32, g_370))) else (
            let x_899 : Int32 := (v_367 - v_367 / x_45 * x_45)
            if x_899 = 0 then (
              let x_983 : Int32 := (v_367 - v_367 / x_45 * x_45)
              let x_984 : Int32 := (x_45 - 1)
              if x_983 = x_984 then (
                if v_374 = 16 then (
                  let x_1022 : Int32 := ((16 : Int32) * r_14)
                  let x_1023 : Int32 := ((1477 : Int32) + x_1022)
                  let x_1024 : Int32 := (v_367 / x_45)
                  let x_1025 : Int32 := ((4 : Int32) * x_1024)
                  let x_1026 : Int32 := (x_1023 + x_1025)
                  let x_1027 : Int32 := (v_367 - v_367 / x_45 * x_45)
                  let x_1028 : Int32 := (x_1026 + x_1027)
                  let g_1029 : Nat → Int32 := (upd g_370 (x_1028 : Int32).toNatClampNeg v_374)
                  let x_1031 : Int32 := (v_367 + 1)
                  let w_1040 := F_r_next2 m_textEnd v_373 v_374 v_375 v_376 g_tape
                  let n_1032 : Int32 := w_1040.1
                  let n_1033 : Int32 := w_1040.2.1
                  let n_1034 : Int32 := w_1040.2.2.1
                  let n_1035 : Int32 := w_1040.2.2.2.1
                  let n_1036 : Int32 := w_1040.2.2.2.2.1
                  let n_1037 : Int64 := w_1040.2.2.2.2.2
                  if n_1032 = 2 then (
                    G_L74a x_1031 v_374 1 g_1029 n_1032 n_1033 n_1034 n_1035 n_1036 n_1037) else (
                    G_L74a x_1031 v_374 0 g_1029 n_1032 n_1033 n_1034 n_1035 n_1036 n_1037)) else (
                  let w_1053 := F_r_fail n_12 n_13 9 v_372
                  let n_1049 : Int32 := w_1053.1
                  let n_1050 : Int32 := w_1053.2
                  (n_1049, n_1050, v_371, v_372, v_373, v_374, v_375, v_376, g_32, g_370))) else (
                let x_990 : Int32 := ((16 : Int32) * r_14)
                let x_991 : Int32 := ((1477 : Int32) + x_990)
                let x_992 : Int32 := (v_367 / x_45)
                let x_993 : Int32 := ((4 : Int32) * x_992)
                let x_994 : Int32 := (x_991 + x_993)
                let x_995 : Int32 := (v_367 - v_367 / x_45 * x_45)
                let x_996 : Int32 := (x_994 + x_995)
                let g_997 : Nat → Int32 := (upd g_370 (x_996 : Int32).toNatClampNeg v_374)
                let x_999 : Int32 := (v_367 + 1)
                let w_1008 := F_r_next2 m_textEnd v_373 v_374 v_375 v_376 g_tape
                let n_1000 : Int32 := w_1008.1
                let n_1001 : Int32 := w_1008.2.1
                let n_1002 : Int32 := w_1008.2.2.1
                let n_1003 : Int32 := w_1008.2.2.2.1
                let n_1004 : Int32 := w_1008.2.2.2.2.1
                let n_1005 : Int64 := w_1008.2.2.2.2.2
                if n_1000 = 2 then (
                  G_L74a x_999 v_374 1 g_997 n_1000 n_1001 n_1002 n_1003 n_1004 n_1005) else (
                  G_L74a x_999 v_374 0 g_997 n_1000 n_1001 n_1002 n_1003 n_1004 n_1005))) else (
              let x_902 : Int32 := (v_368 + v_374)
              let x_905 : Int32 := (v_367 - v_367 / x_45 * x_45)
              let x_906 : Int32 := (x_45 - 1)
              if x_905 = x_906 then (
                if x_902 = 16 then (
                  let x_944 : Int32 := ((16 : Int32) * r_14)
                  let x_945 : Int32 := ((1477 : Int32) + x_944)
                  let x_946 : Int32 := (v_367 / x_45)
                  let x_947 : Int32 := ((4 : Int32) * x_946)
                  let x_948 : Int32 := (x_945 + x_947)
                  let x_949 : Int32 := (v_367 - v_367 / x_45 * x_45)
                  let x_950 : Int32 := (x_948 + x_949)
                  let g_951 : Nat → Int32 := (upd g_370 (x_950 : Int32).toNatClampNeg v_374)
                  let x_953 : Int32 := (v_367 + 1)
                  let w_962 := F_r_next2 m_textEnd v_373 v_374 v_375 v_376 g_tape
                  let n_954 : Int32 := w_962.1
                  let n_955 : Int32 := w_962.2.1
                  let n_956 : Int32 := w_962.2.2.1
                  let n_957 : Int32 := w_962.2.2.2.1
                  let n_958 : Int32 := w_962.2.2.2.2.1
                  let n_959 : Int64 := w_962.2.2.2.2.2
                  if n_954 = 2 then (
                    G_L74a x_953 x_902 1 g_951 n_954 n_955 n_956 n_957 n_958 n_959) else (
                    G_L74a x_953 x_902 0 g_951 n_954 n_955 n_956 n_957 n_958 n_959)) else (
                  let w_975 := F_r_fail n_12 n_13 9 v_372
                  let n_971 : Int32 := w_975.1
                  let n_972 : Int32 := w_975.2
                  (n_971, n_972, v_371, v_372, v_373, v_374, v_375, v_376, g_32, g_370))) else (
                let x_912 : Int32 := ((16 : Int32) * r_14)
                let x_913 : Int32 := ((1477 : Int32) + x_912)
                let x_914 : Int32 := (v_367 / x_45)
                let x_915 : Int32 := ((4 : Int32) * x_914)
                let x_916 : Int32 := (x_913 + x_915)
                let x_917 : Int32 := (v_367 - v_367 / x_45 * x_45)
                let x_918 : Int32 := (x_916 + x_917)
                let g_919 : Nat → Int32 := (upd g_370 (x_918 : Int32).toNatClampNeg v_374)
                let x_921 : Int32 := (v_367 + 1)
                let w_930 := F_r_next2 m_textEnd v_373 v_374 v_375 v_376 g_tape
                let n_922 : Int32 := w_930.1
                let n_923 : Int32 := w_930.2.1
                let n_924 : Int32 := w_930.2.2.1
                let n_925 : Int32 := w_930.2.2.2.1
                let n_926 : Int32 := w_930.2.2.2.2.1
                let n_927 : Int64 := w_930.2.2.2.2.2
                if n_922 = 2 then (
                  G_L74a x_921 x_902 1 g_919 n_922 n_923 n_924 n_925 n_926 n_927) else (
                  G_L74a x_921 x_902 0 g_919 n_922 n_923 n_924 n_925 n_926 n_927))))) else (
          let w_1085 := F_r_fail n_12 n_13 4 v_372
          let n_1081 : Int32 := w_1085.1
          let n_1082 : Int32 := w_1085.2
          let x_1089 : Int32 := (v_367 - v_367 / x_45 * x_45)
          if x_1089 = 0 then (
            (n_1081, n_1082, v_371, v_372, v_373, v_374, v_375, v_376, g_32, g_370)) else (
            let x_1092 : Int32 := (v_368 + v_374)
            (n_1081, n_1082, v_371, v_372, v_373, v_374, v_375, v_376, g_32, g_370)))) else (
        let w_1109 := F_r_wrong n_12 n_13 v_371 v_372
        let n_1105 : Int32 := w_1109.1
        let n_1106 : Int32 := w_1109.2
        let x_1114 : Int32 := (v_367 - v_367 / x_45 * x_45)
        if x_1114 = 0 then (
          (n_1105, n_1106, v_371, v_372, v_373, v_374, v_375, v_376, g_32, g_370)) else (
          let x_1117 : Int32 := (v_368 + v_374)
          (n_1105, n_1106, v_371, v_372, v_373, v_374, v_375, v_376, g_32, g_370))))) k9
theorem F_r_readFeels_L74a_s (m_textEnd : Int32) (g_tape : Nat → Int32) (r_14 : Int32) (n_12 : Int32) (n_13 : Int32) (g_32 : Nat → Int32) (x_45 : Int32) (n9 : Nat) (v_367 : Int32) (v_368 : Int32) (v_369 : Int32) (g_370 : Nat → Int32) (v_371 : Int32) (v_372 : Int32) (v_373 : Int32) (v_374 : Int32) (v_375 : Int32) (v_376 : Int64) : F_r_readFeels_L74a m_textEnd g_tape r_14 n_12 n_13 g_32 x_45 (n9 + 1) v_367 v_368 v_369 g_370 v_371 v_372 v_373 v_374 v_375 v_376 = (
    if v_369 = 0 then (
      let w_869 := F_r_isSign v_371 v_374 59
      let r_867 : Int32 := w_869
      if r_867 = 0 then (
        (n_12, n_13, v_371, v_372, v_373, v_374, v_375, v_376, g_32, g_370)) else
      (
        let x_873 : Int32 := (x_45 * x_45)
        if x_873 ≤ v_367 then (
          (n_12, n_13, v_371, v_372, v_373, v_374, v_375, v_376, g_32, g_370)) else (
          let w_882 := F_r_fail n_12 n_13 8 v_372
          let n_878 : Int32 := w_882.1
          let n_879 : Int32 := w_882.2
          (n_878, n_879, v_371, v_372, v_373, v_374, v_375, v_376, g_32, g_370)))) else (
      if v_371 = 2 then (
        if v_374 ≤ 16 then (
          let x_896 : Int32 := (x_45 * x_45)
          if v_367 = x_896 then (
            let w_1063 := F_r_fail n_12 n_13 8 v_372
            let n_1059 : Int32 := w_1063.1
            let n_1060 : Int32 := w_1063.2
            let x_1065 : Int32 := (v_367 - v_367 / x_45 * x_45)
            if x_1065 = 0 then (
              (n_1059, n_1060, v_371, v_372, v_373, v_374, v_375, v_376, g_32, g_370)) else (
              let x_1068 : Int32 := (v_368 + v_374)
              (n_1059, n_1060, v_371, v_372, v_373, v_374, v_375, v_376, g_32, g_370))) else (
            let x_899 : Int32 := (v_367 - v_367 / x_45 * x_45)
            if x_899 = 0 then (
              let x_983 : Int32 := (v_367 - v_367 / x_45 * x_45)
              let x_984 : Int32 := (x_45 - 1)
              if x_983 = x_984 then (
                if v_374 = 16 then (
                  let x_1022 : Int32 := ((16 : Int32) * r_14)
                  let x_1023 : Int32 := ((1477 : Int32) + x_1022)
                  let x_1024 : Int32 := (v_367 / x_45)
                  let x_1025 : Int32 := ((4 : Int32) * x_1024)
                  let x_1026 : Int32 := (x_1023 + x_1025)
                  let x_1027 : Int32 := (v_367 - v_367 / x_45 * x_45)
                  let x_1028 : Int32 := (x_1026 + x_1027)
                  let g_1029 : Nat → Int32 := (upd g_370 (x_1028 : Int32).toNatClampNeg v_374)
                  let x_1031 : Int32 := (v_367 + 1)
                  let w_1040 := F_r_next2 m_textEnd v_373 v_374 v_375 v_376 g_tape
                  let n_1032 : Int32 := w_1040.1
                  let n_1033 : Int32 := w_1040.2.1
                  let n_1034 : Int32 := w_1040.2.2.1
                  let n_1035 : Int32 := w_1040.2.2.2.1
                  let n_1036 : Int32 := w_1040.2.2.2.2.1
                  let n_1037 : Int64 := w_1040.2.2.2.2.2
                  if n_1032 = 2 then (
                    (F_r_readFeels_L74a m_textEnd g_tape r_14 n_12 n_13 g_32 x_45 n9) x_1031 v_374 1 g_1029 n_1032 n_1033 n_1034 n_1035 n_1036 n_1037) else (
                    (F_r_readFeels_L74a m_textEnd g_tape r_14 n_12 n_13 g_32 x_45 n9) x_1031 v_374 0 g_1029 n_1032 n_1033 n_1034 n_1035 n_1036 n_1037)) else (
                  let w_1053 := F_r_fail n_12 n_13 9 v_372
                  let n_1049 : Int32 := w_1053.1
                  let n_1050 : Int32 := w_1053.2
                  (n_1049, n_1050, v_371, v_372, v_373, v_374, v_375, v_376, g_32, g_370))) else (
                let x_990 : Int32 := ((16 : Int32) * r_14)
                let x_991 : Int32 := ((1477 : Int32) + x_990)
                let x_992 : Int32 := (v_367 / x_45)
                let x_993 : Int32 := ((4 : Int32) * x_992)
                let x_994 : Int32 := (x_991 + x_993)
                let x_995 : Int32 := (v_367 - v_367 / x_45 * x_45)
                let x_996 : Int32 := (x_994 + x_995)
                let g_997 : Nat → Int32 := (upd g_370 (x_996 : Int32).toNatClampNeg v_374)
                let x_999 : Int32 := (v_367 + 1)
                let w_1008 := F_r_next2 m_textEnd v_373 v_374 v_375 v_376 g_tape
                let n_1000 : Int32 := w_1008.1
                let n_1001 : Int32 := w_1008.2.1
                let n_1002 : Int32 := w_1008.2.2.1
                let n_1003 : Int32 := w_1008.2.2.2.1
                let n_1004 : Int32 := w_1008.2.2.2.2.1
                let n_1005 : Int64 := w_1008.2.2.2.2.2
                if n_1000 = 2 then (
                  (F_r_readFeels_L74a m_textEnd g_tape r_14 n_12 n_13 g_32 x_45 n9) x_999 v_374 1 g_997 n_1000 n_1001 n_1002 n_1003 n_1004 n_1005) else (
                  (F_r_readFeels_L74a m_textEnd g_tape r_14 n_12 n_13 g_32 x_45 n9) x_999 v_374 0 g_997 n_1000 n_1001 n_1002 n_1003 n_1004 n_1005))) else (
              let x_902 : Int32 := (v_368 + v_374)
              let x_905 : Int32 := (v_367 - v_367 / x_45 * x_45)
              let x_906 : Int32 := (x_45 - 1)
              if x_905 = x_906 then (
                if x_902 = 16 then (
                  let x_944 : Int32 := ((16 : Int32) * r_14)
                  let x_945 : Int32 := ((1477 : Int32) + x_944)
                  let x_946 : Int32 := (v_367 / x_45)
                  let x_947 : Int32 := ((4 : Int32) * x_946)
                  let x_948 : Int32 := (x_945 + x_947)
                  let x_949 : Int32 := (v_367 - v_367 / x_45 * x_45)
                  let x_950 : Int32 := (x_948 + x_949)
                  let g_951 : Nat → Int32 := (upd g_370 (x_950 : Int32).toNatClampNeg v_374)
                  let x_953 : Int32 := (v_367 + 1)
                  let w_962 := F_r_next2 m_textEnd v_373 v_374 v_375 v_376 g_tape
                  let n_954 : Int32 := w_962.1
                  let n_955 : Int32 := w_962.2.1
                  let n_956 : Int32 := w_962.2.2.1
                  let n_957 : Int32 := w_962.2.2.2.1
                  let n_958 : Int32 := w_962.2.2.2.2.1
                  let n_959 : Int64 := w_962.2.2.2.2.2
                  if n_954 = 2 then (
                    (F_r_readFeels_L74a m_textEnd g_tape r_14 n_12 n_13 g_32 x_45 n9) x_953 x_902 1 g_951 n_954 n_955 n_956 n_957 n_958 n_959) else (
                    (F_r_readFeels_L74a m_textEnd g_tape r_14 n_12 n_13 g_32 x_45 n9) x_953 x_902 0 g_951 n_954 n_955 n_956 n_957 n_958 n_959)) else (
                  let w_975 := F_r_fail n_12 n_13 9 v_372
                  let n_971 : Int32 := w_975.1
                  let n_972 : Int32 := w_975.2
                  (n_971, n_972, v_371, v_372, v_373, v_374, v_375, v_376, g_32, g_370))) else (
                let x_912 : Int32 := ((16 : Int32) * r_14)
                let x_913 : Int32 := ((1477 : Int32) + x_912)
                let x_914 : Int32 := (v_367 / x_45)
                let x_915 : Int32 := ((4 : Int32) * x_914)
                let x_916 : Int32 := (x_913 + x_915)
                let x_917 : Int32 := (v_367 - v_367 / x_45 * x_45)
                let x_918 : Int32 := (x_916 + x_917)
                let g_919 : Nat → Int32 := (upd g_370 (x_918 : Int32).toNatClampNeg v_374)
                let x_921 : Int32 := (v_367 + 1)
                let w_930 := F_r_next2 m_textEnd v_373 v_374 v_375 v_376 g_tape
                let n_922 : Int32 := w_930.1
                let n_923 : Int32 := w_930.2.1
                let n_924 : Int32 := w_930.2.2.1
                let n_925 : Int32 := w_930.2.2.2.1
                let n_926 : Int32 := w_930.2.2.2.2.1
                let n_927 : Int64 := w_930.2.2.2.2.2
                if n_922 = 2 then (
                  (F_r_readFeels_L74a m_textEnd g_tape r_14 n_12 n_13 g_32 x_45 n9) x_921 x_902 1 g_919 n_922 n_923 n_924 n_925 n_926 n_927) else (
                  (F_r_readFeels_L74a m_textEnd g_tape r_14 n_12 n_13 g_32 x_45 n9) x_921 x_902 0 g_919 n_922 n_923 n_924 n_925 n_926 n_927))))) else (
          let w_1085 := F_r_fail n_12 n_13 4 v_372
          let n_1081 : Int32 := w_1085.1
          let n_1082 : Int32 := w_1085.2
          let x_1089 : Int32 := (v_367 - v_367 / x_45 * x_45)
          if x_1089 = 0 then (
            (n_1081, n_1082, v_371, v_372, v_373, v_374, v_375, v_376, g_32, g_370)) else (
            let x_1092 : Int32 := (v_368 + v_374)
            (n_1081, n_1082, v_371, v_372, v_373, v_374, v_375, v_376, g_32, g_370)))) else (
        let w_1109 := F_r_wrong n_12 n_13 v_371 v_372
        let n_1105 : Int32 := w_1109.1
        let n_1106 : Int32 := w_1109.2
        let x_1114 : Int32 := (v_367 - v_367 / x_45 * x_45)
        if x_1114 = 0 then (
          (n_1105, n_1106, v_371, v_372, v_373, v_374, v_375, v_376, g_32, g_370)) else (
          let x_1117 : Int32 := (v_368 + v_374)
          (n_1105, n_1106, v_371, v_372, v_373, v_374, v_375, v_376, g_32, g_370))))) := rfl
noncomputable def F_r_readFeels_L74b (m_textEnd : Int32) (g_tape : Nat → Int32) (r_14 : Int32) (n_12 : Int32) (n_13 : Int32) (g_32 : Nat → Int32) (x_45 : Int32) : Nat → Int32 → Int32 → Int32 → (Nat → Int32) → Int32 → Int32 → Int32 → Int32 → Int32 → Int64 → (Int32 × Int32 × Int32 × Int32 × Int32 × Int32 × Int32 × Int64 × (Nat → Int32) × (Nat → Int32)) := fun k9 => Nat.rec (motive := fun _ => Int32 → Int32 → Int32 → (Nat → Int32) → Int32 → Int32 → Int32 → Int32 → Int32 → Int64 → (Int32 × Int32 × Int32 × Int32 × Int32 × Int32 × Int32 × Int64 × (Nat → Int32) × (Nat → Int32))) (fun _ _ _ _ _ _ _ _ _ _ => default) (fun _ (G_L74b : Int32 → Int32 → Int32 → (Nat → Int32) → Int32 → Int32 → Int32 → Int32 → Int32 → Int64 → (Int32 × Int32 × Int32 × Int32 × Int32 × Int32 × Int32 × Int64 × (Nat → Int32) × (Nat → Int32))) => fun (v_1450 : Int32) (v_1451 : Int32) (v_1452 : Int32) (g_1453 : Nat → Int32) (v_1454 : Int32) (v_1455 : Int32) (v_1456 : Int32) (v_1457 : Int32) (v_1458 : Int32) (v_1459 : Int64) =>
    if v_1452 = 0 then (
      let w_1952 := F_r_isSign v_1454 v_1457 59
      let r_1950 : Int32 := w_1952
      if r_1950 = 0 then (
        (n_12, n_13, v_1454, v_1455, v_1456, v_1457, v_1458, v_1459, g_32, g_1453)) else
      (
        let x_1956 : Int32 := (x_45 * x_45)
        if x_1956 ≤ v_1450 then (
          (n_12, n_13, v_1454, v_1455, v_1456, v_1457, v_1458, v_1459, g_32, g_1453)) else (
          let w_1965 := F_r_fail n_12 n_13 8 v_1455
          let n_1961 : Int32 := w_1965.1
          let n_1962 : Int32 := w_1965.2
          (n_1961, n_1962, v_1454, v_1455, v_1456, v_1457, v_1458, v_1459, g_32, g_1453)))) else (
      if v_1454 = 2 then (
        if v_1457 ≤ 16 then (
          let x_1979 : Int32 := (x_45 * x_45)
          if v_1450 = x_1979 then (
            let w_2146 := F_r_fail n_12 n_13 8 v_1455
            let n_2142 : Int32 := w_2146.1
            let n_2143 : Int32 := w_2146.2
            let x_2148 : Int32 := (v_1450 - v_1450 / x_45 * x_45)
            if x_2148 = 0 then (
              (n_2142, n_2143, v_1454, v_1455, v_1456, v_1457, v_1458, v_1459, g_32, g_1453)) else (
              let x_2151 : Int32 := (v_1451 + v_1457)
              (n_2142, n_2143, v_1454, v_1455, v_1456, v_1457, v_1458, v_1459, g_32, g_1453))) else (
            let x_1982 : Int32 := (v_1450 - v_1450 / x_45 * x_45)
            if x_1982 = 0 then (
              let x_2066 : Int32 := (v_1450 - v_1450 / x_45 * x_45)
              let x_2067 : Int32 := (x_45 - 1)
              if x_2066 = x_2067 then (
                if v_1457 = 16 then (
                  let x_2105 : Int32 := ((16 : Int32) * r_14)
                  let x_2106 : Int32 := ((1477 : Int32) + x_2105)
                  let x_2107 : Int32 := (v_1450 / x_45)
                  let x_2108 : Int32 := ((4 : Int32) * x_2107)
                  let x_2109 : Int32 := (x_2106 + x_2108)
                  let x_2110 : Int32 := (v_1450 - v_1450 / x_45 * x_45)
                  let x_2111 : Int32 := (x_2109 + x_2110)
                  let g_2112 : Nat → Int32 := (upd g_1453 (x_2111 : Int32).toNatClampNeg v_1457)
                  let x_2114 : Int32 := (v_1450 + 1)
                  let w_2123 := F_r_next2 m_textEnd v_1456 v_1457 v_1458 v_1459 g_tape
                  let n_2115 : Int32 := w_2123.1
                  let n_2116 : Int32 := w_2123.2.1
                  let n_2117 : Int32 := w_2123.2.2.1
                  let n_2118 : Int32 := w_2123.2.2.2.1
                  let n_2119 : Int32 := w_2123.2.2.2.2.1
                  let n_2120 : Int64 := w_2123.2.2.2.2.2
                  if n_2115 = 2 then (
                    G_L74b x_2114 v_1457 1 g_2112 n_2115 n_2116 n_2117 n_2118 n_2119 n_2120) else (
                    G_L74b x_2114 v_1457 0 g_2112 n_2115 n_2116 n_2117 n_2118 n_2119 n_2120)) else (
                  let w_2136 := F_r_fail n_12 n_13 9 v_1455
                  let n_2132 : Int32 := w_2136.1
                  let n_2133 : Int32 := w_2136.2
                  (n_2132, n_2133, v_1454, v_1455, v_1456, v_1457, v_1458, v_1459, g_32, g_1453))) else (
                let x_2073 : Int32 := ((16 : Int32) * r_14)
                let x_2074 : Int32 := ((1477 : Int32) + x_2073)
                let x_2075 : Int32 := (v_1450 / x_45)
                let x_2076 : Int32 := ((4 : Int32) * x_2075)
                let x_2077 : Int32 := (x_2074 + x_2076)
                let x_2078 : Int32 := (v_1450 - v_1450 / x_45 * x_45)
                let x_2079 : Int32 := (x_2077 + x_2078)
                let g_2080 : Nat → Int32 := (upd g_1453 (x_2079 : Int32).toNatClampNeg v_1457)
                let x_2082 : Int32 := (v_1450 + 1)
                let w_2091 := F_r_next2 m_textEnd v_1456 v_1457 v_1458 v_1459 g_tape
                let n_2083 : Int32 := w_2091.1
                let n_2084 : Int32 := w_2091.2.1
                let n_2085 : Int32 := w_2091.2.2.1
                let n_2086 : Int32 := w_2091.2.2.2.1
                let n_2087 : Int32 := w_2091.2.2.2.2.1
                let n_2088 : Int64 := w_2091.2.2.2.2.2
                if n_2083 = 2 then (
                  G_L74b x_2082 v_1457 1 g_2080 n_2083 n_2084 n_2085 n_2086 n_2087 n_2088) else (
                  G_L74b x_2082 v_1457 0 g_2080 n_2083 n_2084 n_2085 n_2086 n_2087 n_2088))) else (
              let x_1985 : Int32 := (v_1451 + v_1457)
              let x_1988 : Int32 := (v_1450 - v_1450 / x_45 * x_45)
              let x_1989 : Int32 := (x_45 - 1)
              if x_1988 = x_1989 then (
                if x_1985 = 16 then (
                  let x_2027 : Int32 := ((16 : Int32) * r_14)
                  let x_2028 : Int32 := ((1477 : Int32) + x_2027)
                  let x_2029 : Int32 := (v_1450 / x_45)
                  let x_2030 : Int32 := ((4 : Int32) * x_2029)
                  let x_2031 : Int32 := (x_2028 + x_2030)
                  let x_2032 : Int32 := (v_1450 - v_1450 / x_45 * x_45)
                  let x_2033 : Int32 := (x_2031 + x_2032)
                  let g_2034 : Nat → Int32 := (upd g_1453 (x_2033 : Int32).toNatClampNeg v_1457)
                  let x_2036 : Int32 := (v_1450 + 1)
                  let w_2045 := F_r_next2 m_textEnd v_1456 v_1457 v_1458 v_1459 g_tape
                  let n_2037 : Int32 := w_2045.1
                  let n_2038 : Int32 := w_2045.2.1
                  let n_2039 : Int32 := w_2045.2.2.1
                  let n_2040 : Int32 := w_2045.2.2.2.1
                  let n_2041 : Int32 := w_2045.2.2.2.2.1
                  let n_2042 : Int64 := w_2045.2.2.2.2.2
                  if n_2037 = 2 then (
                    G_L74b x_2036 x_1985 1 g_2034 n_2037 n_2038 n_2039 n_2040 n_2041 n_2042) else (
                    G_L74b x_2036 x_1985 0 g_2034 n_2037 n_2038 n_2039 n_2040 n_2041 n_2042)) else (
                  let w_2058 := F_r_fail n_12 n_13 9 v_1455
                  let n_2054 : Int32 := w_2058.1
                  let n_2055 : Int32 := w_2058.2
                  (n_2054, n_2055, v_1454, v_1455, v_1456, v_1457, v_1458, v_1459, g_32, g_1453))) else (
                let x_1995 : Int32 := ((16 : Int32) * r_14)
                let x_1996 : Int32 := ((1477 : Int32) + x_1995)
                let x_1997 : Int32 := (v_1450 / x_45)
                let x_1998 : Int32 := ((4 : Int32) * x_1997)
                let x_1999 : Int32 := (x_1996 + x_1998)
                let x_2000 : Int32 := (v_1450 - v_1450 / x_45 * x_45)
                let x_2001 : Int32 := (x_1999 + x_2000)
                let g_2002 : Nat → Int32 := (upd g_1453 (x_2001 : Int32).toNatClampNeg v_1457)
                let x_2004 : Int32 := (v_1450 + 1)
                let w_2013 := F_r_next2 m_textEnd v_1456 v_1457 v_1458 v_1459 g_tape
                let n_2005 : Int32 := w_2013.1
                let n_2006 : Int32 := w_2013.2.1
                let n_2007 : Int32 := w_2013.2.2.1
                let n_2008 : Int32 := w_2013.2.2.2.1
                let n_2009 : Int32 := w_2013.2.2.2.2.1
                let n_2010 : Int64 := w_2013.2.2.2.2.2
                if n_2005 = 2 then (
                  G_L74b x_2004 x_1985 1 g_2002 n_2005 n_2006 n_2007 n_2008 n_2009 n_2010) else (
                  G_L74b x_2004 x_1985 0 g_2002 n_2005 n_2006 n_2007 n_2008 n_2009 n_2010))))) else (
          let w_2168 := F_r_fail n_12 n_13 4 v_1455
          let n_2164 : Int32 := w_2168.1
          let n_2165 : Int32 := w_2168.2
          let x_2172 : Int32 := (v_1450 - v_1450 / x_45 * x_45)
          if x_2172 = 0 then (
            (n_2164, n_2165, v_1454, v_1455, v_1456, v_1457, v_1458, v_1459, g_32, g_1453)) else (
            let x_2175 : Int32 := (v_1451 + v_1457)
            (n_2164, n_2165, v_1454, v_1455, v_1456, v_1457, v_1458, v_1459, g_32, g_1453)))) else (
        let w_2192 := F_r_wrong n_12 n_13 v_1454 v_1455
        let n_2188 : Int32 := w_2192.1
        let n_2189 : Int32 := w_2192.2
        let x_2197 : Int32 := (v_1450 - v_1450 / x_45 * x_45)
        if x_2197 = 0 then (
          (n_2188, n_2189, v_1454, v_1455, v_1456, v_1457, v_1458, v_1459, g_32, g_1453)) else (
          let x_2200 : Int32 := (v_1451 + v_1457)
          (n_2188, n_2189, v_1454, v_1455, v_1456, v_1457, v_1458, v_1459, g_32, g_1453))))) k9
theorem F_r_readFeels_L74b_s (m_textEnd : Int32) (g_tape : Nat → Int32) (r_14 : Int32) (n_12 : Int32) (n_13 : Int32) (g_32 : Nat → Int32) (x_45 : Int32) (n9 : Nat) (v_1450 : Int32) (v_1451 : Int32) (v_1452 : Int32) (g_1453 : Nat → Int32) (v_1454 : Int32) (v_1455 : Int32) (v_1456 : Int32) (v_1457 : Int32) (v_1458 : Int32) (v_1459 : Int64) : F_r_readFeels_L74b m_textEnd g_tape r_14 n_12 n_13 g_32 x_45 (n9 + 1) v_1450 v_1451 v_1452 g_1453 v_1454 v_1455 v_1456 v_1457 v_1458 v_1459 = (
    if v_1452 = 0 then (
      let w_1952 := F_r_isSign v_1454 v_1457 59
      let r_1950 : Int32 := w_1952
      if r_1950 = 0 then (
        (n_12, n_13, v_1454, v_1455, v_1456, v_1457, v_1458, v_1459, g_32, g_1453)) else
      (
        let x_1956 : Int32 := (x_45 * x_45)
        if x_1956 ≤ v_1450 then (
          (n_12, n_13, v_1454, v_1455, v_1456, v_1457, v_1458, v_1459, g_32, g_1453)) else (
          let w_1965 := F_r_fail n_12 n_13 8 v_1455
          let n_1961 : Int32 := w_1965.1
          let n_1962 : Int32 := w_1965.2
          (n_1961, n_1962, v_1454, v_1455, v_1456, v_1457, v_1458, v_1459, g_32, g_1453)))) else (
      if v_1454 = 2 then (
        if v_1457 ≤ 16 then (
          let x_1979 : Int32 := (x_45 * x_45)
          if v_1450 = x_1979 then (
            let w_2146 := F_r_fail n_12 n_13 8 v_1455
            let n_2142 : Int32 := w_2146.1
            let n_2143 : Int32 := w_2146.2
            let x_2148 : Int32 := (v_1450 - v_1450 / x_45 * x_45)
            if x_2148 = 0 then (
              (n_2142, n_2143, v_1454, v_1455, v_1456, v_1457, v_1458, v_1459, g_32, g_1453)) else (
              let x_2151 : Int32 := (v_1451 + v_1457)
              (n_2142, n_2143, v_1454, v_1455, v_1456, v_1457, v_1458, v_1459, g_32, g_1453))) else (
            let x_1982 : Int32 := (v_1450 - v_1450 / x_45 * x_45)
            if x_1982 = 0 then (
              let x_2066 : Int32 := (v_1450 - v_1450 / x_45 * x_45)
              let x_2067 : Int32 := (x_45 - 1)
              if x_2066 = x_2067 then (
                if v_1457 = 16 then (
                  let x_2105 : Int32 := ((16 : Int32) * r_14)
                  let x_2106 : Int32 := ((1477 : Int32) + x_2105)
                  let x_2107 : Int32 := (v_1450 / x_45)
                  let x_2108 : Int32 := ((4 : Int32) * x_2107)
                  let x_2109 : Int32 := (x_2106 + x_2108)
                  let x_2110 : Int32 := (v_1450 - v_1450 / x_45 * x_45)
                  let x_2111 : Int32 := (x_2109 + x_2110)
                  let g_2112 : Nat → Int32 := (upd g_1453 (x_2111 : Int32).toNatClampNeg v_1457)
                  let x_2114 : Int32 := (v_1450 + 1)
                  let w_2123 := F_r_next2 m_textEnd v_1456 v_1457 v_1458 v_1459 g_tape
                  let n_2115 : Int32 := w_2123.1
                  let n_2116 : Int32 := w_2123.2.1
                  let n_2117 : Int32 := w_2123.2.2.1
                  let n_2118 : Int32 := w_2123.2.2.2.1
                  let n_2119 : Int32 := w_2123.2.2.2.2.1
                  let n_2120 : Int64 := w_2123.2.2.2.2.2
                  if n_2115 = 2 then (
                    (F_r_readFeels_L74b m_textEnd g_tape r_14 n_12 n_13 g_32 x_45 n9) x_2114 v_1457 1 g_2112 n_2115 n_2116 n_2117 n_2118 n_2119 n_2120) else (
                    (F_r_readFeels_L74b m_textEnd g_tape r_14 n_12 n_13 g_32 x_45 n9) x_2114 v_1457 0 g_2112 n_2115 n_2116 n_2117 n_2118 n_2119 n_2120)) else (
                  let w_2136 := F_r_fail n_12 n_13 9 v_1455
                  let n_2132 : Int32 := w_2136.1
                  let n_2133 : Int32 := w_2136.2
                  (n_2132, n_2133, v_1454, v_1455, v_1456, v_1457, v_1458, v_1459, g_32, g_1453))) else (
                let x_2073 : Int32 := ((16 : Int32) * r_14)
                let x_2074 : Int32 := ((1477 : Int32) + x_2073)
                let x_2075 : Int32 := (v_1450 / x_45)
                let x_2076 : Int32 := ((4 : Int32) * x_2075)
                let x_2077 : Int32 := (x_2074 + x_2076)
                let x_2078 : Int32 := (v_1450 - v_1450 / x_45 * x_45)
                let x_2079 : Int32 := (x_2077 + x_2078)
                let g_2080 : Nat → Int32 := (upd g_1453 (x_2079 : Int32).toNatClampNeg v_1457)
                let x_2082 : Int32 := (v_1450 + 1)
                let w_2091 := F_r_next2 m_textEnd v_1456 v_1457 v_1458 v_1459 g_tape
                let n_2083 : Int32 := w_2091.1
                let n_2084 : Int32 := w_2091.2.1
                let n_2085 : Int32 := w_2091.2.2.1
                let n_2086 : Int32 := w_2091.2.2.2.1
                let n_2087 : Int32 := w_2091.2.2.2.2.1
                let n_2088 : Int64 := w_2091.2.2.2.2.2
                if n_2083 = 2 then (
                  (F_r_readFeels_L74b m_textEnd g_tape r_14 n_12 n_13 g_32 x_45 n9) x_2082 v_1457 1 g_2080 n_2083 n_2084 n_2085 n_2086 n_2087 n_2088) else (
                  (F_r_readFeels_L74b m_textEnd g_tape r_14 n_12 n_13 g_32 x_45 n9) x_2082 v_1457 0 g_2080 n_2083 n_2084 n_2085 n_2086 n_2087 n_2088))) else (
              let x_1985 : Int32 := (v_1451 + v_1457)
              let x_1988 : Int32 := (v_1450 - v_1450 / x_45 * x_45)
              let x_1989 : Int32 := (x_45 - 1)
              if x_1988 = x_1989 then (
                if x_1985 = 16 then (
                  let x_2027 : Int32 := ((16 : Int32) * r_14)
                  let x_2028 : Int32 := ((1477 : Int32) + x_2027)
                  let x_2029 : Int32 := (v_1450 / x_45)
                  let x_2030 : Int32 := ((4 : Int32) * x_2029)
                  let x_2031 : Int32 := (x_2028 + x_2030)
                  let x_2032 : Int32 := (v_1450 - v_1450 / x_45 * x_45)
                  let x_2033 : Int32 := (x_2031 + x_2032)
                  let g_2034 : Nat → Int32 := (upd g_1453 (x_2033 : Int32).toNatClampNeg v_1457)
                  let x_2036 : Int32 := (v_1450 + 1)
                  let w_2045 := F_r_next2 m_textEnd v_1456 v_1457 v_1458 v_1459 g_tape
                  let n_2037 : Int32 := w_2045.1
                  let n_2038 : Int32 := w_2045.2.1
                  let n_2039 : Int32 := w_2045.2.2.1
                  let n_2040 : Int32 := w_2045.2.2.2.1
                  let n_2041 : Int32 := w_2045.2.2.2.2.1
                  let n_2042 : Int64 := w_2045.2.2.2.2.2
                  if n_2037 = 2 then (
                    (F_r_readFeels_L74b m_textEnd g_tape r_14 n_12 n_13 g_32 x_45 n9) x_2036 x_1985 1 g_2034 n_2037 n_2038 n_2039 n_2040 n_2041 n_2042) else (
                    (F_r_readFeels_L74b m_textEnd g_tape r_14 n_12 n_13 g_32 x_45 n9) x_2036 x_1985 0 g_2034 n_2037 n_2038 n_2039 n_2040 n_2041 n_2042)) else (
                  let w_2058 := F_r_fail n_12 n_13 9 v_1455
                  let n_2054 : Int32 := w_2058.1
                  let n_2055 : Int32 := w_2058.2
                  (n_2054, n_2055, v_1454, v_1455, v_1456, v_1457, v_1458, v_1459, g_32, g_1453))) else (
                let x_1995 : Int32 := ((16 : Int32) * r_14)
                let x_1996 : Int32 := ((1477 : Int32) + x_1995)
                let x_1997 : Int32 := (v_1450 / x_45)
                let x_1998 : Int32 := ((4 : Int32) * x_1997)
                let x_1999 : Int32 := (x_1996 + x_1998)
                let x_2000 : Int32 := (v_1450 - v_1450 / x_45 * x_45)
                let x_2001 : Int32 := (x_1999 + x_2000)
                let g_2002 : Nat → Int32 := (upd g_1453 (x_2001 : Int32).toNatClampNeg v_1457)
                let x_2004 : Int32 := (v_1450 + 1)
                let w_2013 := F_r_next2 m_textEnd v_1456 v_1457 v_1458 v_1459 g_tape
                let n_2005 : Int32 := w_2013.1
                let n_2006 : Int32 := w_2013.2.1
                let n_2007 : Int32 := w_2013.2.2.1
                let n_2008 : Int32 := w_2013.2.2.2.1
                let n_2009 : Int32 := w_2013.2.2.2.2.1
                let n_2010 : Int64 := w_2013.2.2.2.2.2
                if n_2005 = 2 then (
                  (F_r_readFeels_L74b m_textEnd g_tape r_14 n_12 n_13 g_32 x_45 n9) x_2004 x_1985 1 g_2002 n_2005 n_2006 n_2007 n_2008 n_2009 n_2010) else (
                  (F_r_readFeels_L74b m_textEnd g_tape r_14 n_12 n_13 g_32 x_45 n9) x_2004 x_1985 0 g_2002 n_2005 n_2006 n_2007 n_2008 n_2009 n_2010))))) else (
          let w_2168 := F_r_fail n_12 n_13 4 v_1455
          let n_2164 : Int32 := w_2168.1
          let n_2165 : Int32 := w_2168.2
          let x_2172 : Int32 := (v_1450 - v_1450 / x_45 * x_45)
          if x_2172 = 0 then (
            (n_2164, n_2165, v_1454, v_1455, v_1456, v_1457, v_1458, v_1459, g_32, g_1453)) else (
            let x_2175 : Int32 := (v_1451 + v_1457)
            (n_2164, n_2165, v_1454, v_1455, v_1456, v_1457, v_1458, v_1459, g_32, g_1453)))) else (
        let w_2192 := F_r_wrong n_12 n_13 v_1454 v_1455
        let n_2188 : Int32 := w_2192.1
        let n_2189 : Int32 := w_2192.2
        let x_2197 : Int32 := (v_1450 - v_1450 / x_45 * x_45)
        if x_2197 = 0 then (
          (n_2188, n_2189, v_1454, v_1455, v_1456, v_1457, v_1458, v_1459, g_32, g_1453)) else (
          let x_2200 : Int32 := (v_1451 + v_1457)
          (n_2188, n_2189, v_1454, v_1455, v_1456, v_1457, v_1458, v_1459, g_32, g_1453))))) := rfl
noncomputable def F_r_readFeels_L74c (m_textEnd : Int32) (g_tape : Nat → Int32) (r_14 : Int32) (n_12 : Int32) (n_13 : Int32) (g_32 : Nat → Int32) (x_45 : Int32) : Nat → Int32 → Int32 → Int32 → (Nat → Int32) → Int32 → Int32 → Int32 → Int32 → Int32 → Int64 → (Int32 × Int32 × Int32 × Int32 × Int32 × Int32 × Int32 × Int64 × (Nat → Int32) × (Nat → Int32)) := fun k9 => Nat.rec (motive := fun _ => Int32 → Int32 → Int32 → (Nat → Int32) → Int32 → Int32 → Int32 → Int32 → Int32 → Int64 → (Int32 × Int32 × Int32 × Int32 × Int32 × Int32 × Int32 × Int64 × (Nat → Int32) × (Nat → Int32))) (fun _ _ _ _ _ _ _ _ _ _ => default) (fun _ (G_L74c : Int32 → Int32 → Int32 → (Nat → Int32) → Int32 → Int32 → Int32 → Int32 → Int32 → Int64 → (Int32 × Int32 × Int32 × Int32 × Int32 × Int32 × Int32 × Int64 × (Nat → Int32) × (Nat → Int32))) => fun (v_2533 : Int32) (v_2534 : Int32) (v_2535 : Int32) (g_2536 : Nat → Int32) (v_2537 : Int32) (v_2538 : Int32) (v_2539 : Int32) (v_2540 : Int32) (v_2541 : Int32) (v_2542 : Int64) =>
    if v_2535 = 0 then (
      let w_3035 := F_r_isSign v_2537 v_2540 59
      let r_3033 : Int32 := w_3035
      if r_3033 = 0 then (
        (n_12, n_13, v_2537, v_2538, v_2539, v_2540, v_2541, v_2542, g_32, g_2536)) else
      (
        let x_3039 : Int32 := (x_45 * x_45)
        if x_3039 ≤ v_2533 then (
          (n_12, n_13, v_2537, v_2538, v_2539, v_2540, v_2541, v_2542, g_32, g_2536)) else (
          let w_3048 := F_r_fail n_12 n_13 8 v_2538
          let n_3044 : Int32 := w_3048.1
          let n_3045 : Int32 := w_3048.2
          (n_3044, n_3045, v_2537, v_2538, v_2539, v_2540, v_2541, v_2542, g_32, g_2536)))) else (
      if v_2537 = 2 then (
        if v_2540 ≤ 16 then (
          let x_3062 : Int32 := (x_45 * x_45)
          if v_2533 = x_3062 then (
            let w_3229 := F_r_fail n_12 n_13 8 v_2538
            let n_3225 : Int32 := w_3229.1
            let n_3226 : Int32 := w_3229.2
            let x_3231 : Int32 := (v_2533 - v_2533 / x_45 * x_45)
            if x_3231 = 0 then (
              (n_3225, n_3226, v_2537, v_2538, v_2539, v_2540, v_2541, v_2542, g_32, g_2536)) else (
              let x_3234 : Int32 := (v_2534 + v_2540)
              (n_3225, n_3226, v_2537, v_2538, v_2539, v_2540, v_2541, v_2542, g_32, g_2536))) else (
            let x_3065 : Int32 := (v_2533 - v_2533 / x_45 * x_45)
            if x_3065 = 0 then (
              let x_3149 : Int32 := (v_2533 - v_2533 / x_45 * x_45)
              let x_3150 : Int32 := (x_45 - 1)
              if x_3149 = x_3150 then (
                if v_2540 = 16 then (
                  let x_3188 : Int32 := ((16 : Int32) * r_14)
                  let x_3189 : Int32 := ((1477 : Int32) + x_3188)
                  let x_3190 : Int32 := (v_2533 / x_45)
                  let x_3191 : Int32 := ((4 : Int32) * x_3190)
                  let x_3192 : Int32 := (x_3189 + x_3191)
                  let x_3193 : Int32 := (v_2533 - v_2533 / x_45 * x_45)
                  let x_3194 : Int32 := (x_3192 + x_3193)
                  let g_3195 : Nat → Int32 := (upd g_2536 (x_3194 : Int32).toNatClampNeg v_2540)
                  let x_3197 : Int32 := (v_2533 + 1)
                  let w_3206 := F_r_next2 m_textEnd v_2539 v_2540 v_2541 v_2542 g_tape
                  let n_3198 : Int32 := w_3206.1
                  let n_3199 : Int32 := w_3206.2.1
                  let n_3200 : Int32 := w_3206.2.2.1
                  let n_3201 : Int32 := w_3206.2.2.2.1
                  let n_3202 : Int32 := w_3206.2.2.2.2.1
                  let n_3203 : Int64 := w_3206.2.2.2.2.2
                  if n_3198 = 2 then (
                    G_L74c x_3197 v_2540 1 g_3195 n_3198 n_3199 n_3200 n_3201 n_3202 n_3203) else (
                    G_L74c x_3197 v_2540 0 g_3195 n_3198 n_3199 n_3200 n_3201 n_3202 n_3203)) else (
                  let w_3219 := F_r_fail n_12 n_13 9 v_2538
                  let n_3215 : Int32 := w_3219.1
                  let n_3216 : Int32 := w_3219.2
                  (n_3215, n_3216, v_2537, v_2538, v_2539, v_2540, v_2541, v_2542, g_32, g_2536))) else (
                let x_3156 : Int32 := ((16 : Int32) * r_14)
                let x_3157 : Int32 := ((1477 : Int32) + x_3156)
                let x_3158 : Int32 := (v_2533 / x_45)
                let x_3159 : Int32 := ((4 : Int32) * x_3158)
                let x_3160 : Int32 := (x_3157 + x_3159)
                let x_3161 : Int32 := (v_2533 - v_2533 / x_45 * x_45)
                let x_3162 : Int32 := (x_3160 + x_3161)
                let g_3163 : Nat → Int32 := (upd g_2536 (x_3162 : Int32).toNatClampNeg v_2540)
                let x_3165 : Int32 := (v_2533 + 1)
                let w_3174 := F_r_next2 m_textEnd v_2539 v_2540 v_2541 v_2542 g_tape
                let n_3166 : Int32 := w_3174.1
                let n_3167 : Int32 := w_3174.2.1
                let n_3168 : Int32 := w_3174.2.2.1
                let n_3169 : Int32 := w_3174.2.2.2.1
                let n_3170 : Int32 := w_3174.2.2.2.2.1
                let n_3171 : Int64 := w_3174.2.2.2.2.2
                if n_3166 = 2 then (
                  G_L74c x_3165 v_2540 1 g_3163 n_3166 n_3167 n_3168 n_3169 n_3170 n_3171) else (
                  G_L74c x_3165 v_2540 0 g_3163 n_3166 n_3167 n_3168 n_3169 n_3170 n_3171))) else (
              let x_3068 : Int32 := (v_2534 + v_2540)
              let x_3071 : Int32 := (v_2533 - v_2533 / x_45 * x_45)
              let x_3072 : Int32 := (x_45 - 1)
              if x_3071 = x_3072 then (
                if x_3068 = 16 then (
                  let x_3110 : Int32 := ((16 : Int32) * r_14)
                  let x_3111 : Int32 := ((1477 : Int32) + x_3110)
                  let x_3112 : Int32 := (v_2533 / x_45)
                  let x_3113 : Int32 := ((4 : Int32) * x_3112)
                  let x_3114 : Int32 := (x_3111 + x_3113)
                  let x_3115 : Int32 := (v_2533 - v_2533 / x_45 * x_45)
                  let x_3116 : Int32 := (x_3114 + x_3115)
                  let g_3117 : Nat → Int32 := (upd g_2536 (x_3116 : Int32).toNatClampNeg v_2540)
                  let x_3119 : Int32 := (v_2533 + 1)
                  let w_3128 := F_r_next2 m_textEnd v_2539 v_2540 v_2541 v_2542 g_tape
                  let n_3120 : Int32 := w_3128.1
                  let n_3121 : Int32 := w_3128.2.1
                  let n_3122 : Int32 := w_3128.2.2.1
                  let n_3123 : Int32 := w_3128.2.2.2.1
                  let n_3124 : Int32 := w_3128.2.2.2.2.1
                  let n_3125 : Int64 := w_3128.2.2.2.2.2
                  if n_3120 = 2 then (
                    G_L74c x_3119 x_3068 1 g_3117 n_3120 n_3121 n_3122 n_3123 n_3124 n_3125) else (
                    G_L74c x_3119 x_3068 0 g_3117 n_3120 n_3121 n_3122 n_3123 n_3124 n_3125)) else (
                  let w_3141 := F_r_fail n_12 n_13 9 v_2538
                  let n_3137 : Int32 := w_3141.1
                  let n_3138 : Int32 := w_3141.2
                  (n_3137, n_3138, v_2537, v_2538, v_2539, v_2540, v_2541, v_2542, g_32, g_2536))) else (
                let x_3078 : Int32 := ((16 : Int32) * r_14)
                let x_3079 : Int32 := ((1477 : Int32) + x_3078)
                let x_3080 : Int32 := (v_2533 / x_45)
                let x_3081 : Int32 := ((4 : Int32) * x_3080)
                let x_3082 : Int32 := (x_3079 + x_3081)
                let x_3083 : Int32 := (v_2533 - v_2533 / x_45 * x_45)
                let x_3084 : Int32 := (x_3082 + x_3083)
                let g_3085 : Nat → Int32 := (upd g_2536 (x_3084 : Int32).toNatClampNeg v_2540)
                let x_3087 : Int32 := (v_2533 + 1)
                let w_3096 := F_r_next2 m_textEnd v_2539 v_2540 v_2541 v_2542 g_tape
                let n_3088 : Int32 := w_3096.1
                let n_3089 : Int32 := w_3096.2.1
                let n_3090 : Int32 := w_3096.2.2.1
                let n_3091 : Int32 := w_3096.2.2.2.1
                let n_3092 : Int32 := w_3096.2.2.2.2.1
                let n_3093 : Int64 := w_3096.2.2.2.2.2
                if n_3088 = 2 then (
                  G_L74c x_3087 x_3068 1 g_3085 n_3088 n_3089 n_3090 n_3091 n_3092 n_3093) else (
                  G_L74c x_3087 x_3068 0 g_3085 n_3088 n_3089 n_3090 n_3091 n_3092 n_3093))))) else (
          let w_3251 := F_r_fail n_12 n_13 4 v_2538
          let n_3247 : Int32 := w_3251.1
          let n_3248 : Int32 := w_3251.2
          let x_3255 : Int32 := (v_2533 - v_2533 / x_45 * x_45)
          if x_3255 = 0 then (
            (n_3247, n_3248, v_2537, v_2538, v_2539, v_2540, v_2541, v_2542, g_32, g_2536)) else (
            let x_3258 : Int32 := (v_2534 + v_2540)
            (n_3247, n_3248, v_2537, v_2538, v_2539, v_2540, v_2541, v_2542, g_32, g_2536)))) else (
        let w_3275 := F_r_wrong n_12 n_13 v_2537 v_2538
        let n_3271 : Int32 := w_3275.1
        let n_3272 : Int32 := w_3275.2
        let x_3280 : Int32 := (v_2533 - v_2533 / x_45 * x_45)
        if x_3280 = 0 then (
          (n_3271, n_3272, v_2537, v_2538, v_2539, v_2540, v_2541, v_2542, g_32, g_2536)) else (
          let x_3283 : Int32 := (v_2534 + v_2540)
          (n_3271, n_3272, v_2537, v_2538, v_2539, v_2540, v_2541, v_2542, g_32, g_2536))))) k9
theorem F_r_readFeels_L74c_s (m_textEnd : Int32) (g_tape : Nat → Int32) (r_14 : Int32) (n_12 : Int32) (n_13 : Int32) (g_32 : Nat → Int32) (x_45 : Int32) (n9 : Nat) (v_2533 : Int32) (v_2534 : Int32) (v_2535 : Int32) (g_2536 : Nat → Int32) (v_2537 : Int32) (v_2538 : Int32) (v_2539 : Int32) (v_2540 : Int32) (v_2541 : Int32) (v_2542 : Int64) : F_r_readFeels_L74c m_textEnd g_tape r_14 n_12 n_13 g_32 x_45 (n9 + 1) v_2533 v_2534 v_2535 g_2536 v_2537 v_2538 v_2539 v_2540 v_2541 v_2542 = (
    if v_2535 = 0 then (
      let w_3035 := F_r_isSign v_2537 v_2540 59
      let r_3033 : Int32 := w_3035
      if r_3033 = 0 then (
        (n_12, n_13, v_2537, v_2538, v_2539, v_2540, v_2541, v_2542, g_32, g_2536)) else
      (
        let x_3039 : Int32 := (x_45 * x_45)
        if x_3039 ≤ v_2533 then (
          (n_12, n_13, v_2537, v_2538, v_2539, v_2540, v_2541, v_2542, g_32, g_2536)) else (
          let w_3048 := F_r_fail n_12 n_13 8 v_2538
          let n_3044 : Int32 := w_3048.1
          let n_3045 : Int32 := w_3048.2
          (n_3044, n_3045, v_2537, v_2538, v_2539, v_2540, v_2541, v_2542, g_32, g_2536)))) else (
      if v_2537 = 2 then (
        if v_2540 ≤ 16 then (
          let x_3062 : Int32 := (x_45 * x_45)
          if v_2533 = x_3062 then (
            let w_3229 := F_r_fail n_12 n_13 8 v_2538
            let n_3225 : Int32 := w_3229.1
            let n_3226 : Int32 := w_3229.2
            let x_3231 : Int32 := (v_2533 - v_2533 / x_45 * x_45)
            if x_3231 = 0 then (
              (n_3225, n_3226, v_2537, v_2538, v_2539, v_2540, v_2541, v_2542, g_32, g_2536)) else (
              let x_3234 : Int32 := (v_2534 + v_2540)
              (n_3225, n_3226, v_2537, v_2538, v_2539, v_2540, v_2541, v_2542, g_32, g_2536))) else (
            let x_3065 : Int32 := (v_2533 - v_2533 / x_45 * x_45)
            if x_3065 = 0 then (
              let x_3149 : Int32 := (v_2533 - v_2533 / x_45 * x_45)
              let x_3150 : Int32 := (x_45 - 1)
              if x_3149 = x_3150 then (
                if v_2540 = 16 then (
                  let x_3188 : Int32 := ((16 : Int32) * r_14)
                  let x_3189 : Int32 := ((1477 : Int32) + x_3188)
                  let x_3190 : Int32 := (v_2533 / x_45)
                  let x_3191 : Int32 := ((4 : Int32) * x_3190)
                  let x_3192 : Int32 := (x_3189 + x_3191)
                  let x_3193 : Int32 := (v_2533 - v_2533 / x_45 * x_45)
                  let x_3194 : Int32 := (x_3192 + x_3193)
                  let g_3195 : Nat → Int32 := (upd g_2536 (x_3194 : Int32).toNatClampNeg v_2540)
                  let x_3197 : Int32 := (v_2533 + 1)
                  let w_3206 := F_r_next2 m_textEnd v_2539 v_2540 v_2541 v_2542 g_tape
                  let n_3198 : Int32 := w_3206.1
                  let n_3199 : Int32 := w_3206.2.1
                  let n_3200 : Int32 := w_3206.2.2.1
                  let n_3201 : Int32 := w_3206.2.2.2.1
                  let n_3202 : Int32 := w_3206.2.2.2.2.1
                  let n_3203 : Int64 := w_3206.2.2.2.2.2
                  if n_3198 = 2 then (
                    (F_r_readFeels_L74c m_textEnd g_tape r_14 n_12 n_13 g_32 x_45 n9) x_3197 v_2540 1 g_3195 n_3198 n_3199 n_3200 n_3201 n_3202 n_3203) else (
                    (F_r_readFeels_L74c m_textEnd g_tape r_14 n_12 n_13 g_32 x_45 n9) x_3197 v_2540 0 g_3195 n_3198 n_3199 n_3200 n_3201 n_3202 n_3203)) else (
                  let w_3219 := F_r_fail n_12 n_13 9 v_2538
                  let n_3215 : Int32 := w_3219.1
                  let n_3216 : Int32 := w_3219.2
                  (n_3215, n_3216, v_2537, v_2538, v_2539, v_2540, v_2541, v_2542, g_32, g_2536))) else (
                let x_3156 : Int32 := ((16 : Int32) * r_14)
                let x_3157 : Int32 := ((1477 : Int32) + x_3156)
                let x_3158 : Int32 := (v_2533 / x_45)
                let x_3159 : Int32 := ((4 : Int32) * x_3158)
                let x_3160 : Int32 := (x_3157 + x_3159)
                let x_3161 : Int32 := (v_2533 - v_2533 / x_45 * x_45)
                let x_3162 : Int32 := (x_3160 + x_3161)
                let g_3163 : Nat → Int32 := (upd g_2536 (x_3162 : Int32).toNatClampNeg v_2540)
                let x_3165 : Int32 := (v_2533 + 1)
                let w_3174 := F_r_next2 m_textEnd v_2539 v_2540 v_2541 v_2542 g_tape
                let n_3166 : Int32 := w_3174.1
                let n_3167 : Int32 := w_3174.2.1
                let n_3168 : Int32 := w_3174.2.2.1
                let n_3169 : Int32 := w_3174.2.2.2.1
                let n_3170 : Int32 := w_3174.2.2.2.2.1
                let n_3171 : Int64 := w_3174.2.2.2.2.2
                if n_3166 = 2 then (
                  (F_r_readFeels_L74c m_textEnd g_tape r_14 n_12 n_13 g_32 x_45 n9) x_3165 v_2540 1 g_3163 n_3166 n_3167 n_3168 n_3169 n_3170 n_3171) else (
                  (F_r_readFeels_L74c m_textEnd g_tape r_14 n_12 n_13 g_32 x_45 n9) x_3165 v_2540 0 g_3163 n_3166 n_3167 n_3168 n_3169 n_3170 n_3171))) else (
              let x_3068 : Int32 := (v_2534 + v_2540)
              let x_3071 : Int32 := (v_2533 - v_2533 / x_45 * x_45)
              let x_3072 : Int32 := (x_45 - 1)
              if x_3071 = x_3072 then (
                if x_3068 = 16 then (
                  let x_3110 : Int32 := ((16 : Int32) * r_14)
                  let x_3111 : Int32 := ((1477 : Int32) + x_3110)
                  let x_3112 : Int32 := (v_2533 / x_45)
                  let x_3113 : Int32 := ((4 : Int32) * x_3112)
                  let x_3114 : Int32 := (x_3111 + x_3113)
                  let x_3115 : Int32 := (v_2533 - v_2533 / x_45 * x_45)
                  let x_3116 : Int32 := (x_3114 + x_3115)
                  let g_3117 : Nat → Int32 := (upd g_2536 (x_3116 : Int32).toNatClampNeg v_2540)
                  let x_3119 : Int32 := (v_2533 + 1)
                  let w_3128 := F_r_next2 m_textEnd v_2539 v_2540 v_2541 v_2542 g_tape
                  let n_3120 : Int32 := w_3128.1
                  let n_3121 : Int32 := w_3128.2.1
                  let n_3122 : Int32 := w_3128.2.2.1
                  let n_3123 : Int32 := w_3128.2.2.2.1
                  let n_3124 : Int32 := w_3128.2.2.2.2.1
                  let n_3125 : Int64 := w_3128.2.2.2.2.2
                  if n_3120 = 2 then (
                    (F_r_readFeels_L74c m_textEnd g_tape r_14 n_12 n_13 g_32 x_45 n9) x_3119 x_3068 1 g_3117 n_3120 n_3121 n_3122 n_3123 n_3124 n_3125) else (
                    (F_r_readFeels_L74c m_textEnd g_tape r_14 n_12 n_13 g_32 x_45 n9) x_3119 x_3068 0 g_3117 n_3120 n_3121 n_3122 n_3123 n_3124 n_3125)) else (
                  let w_3141 := F_r_fail n_12 n_13 9 v_2538
                  let n_3137 : Int32 := w_3141.1
                  let n_3138 : Int32 := w_3141.2
                  (n_3137, n_3138, v_2537, v_2538, v_2539, v_2540, v_2541, v_2542, g_32, g_2536))) else (
                let x_3078 : Int32 := ((16 : Int32) * r_14)
                let x_3079 : Int32 := ((1477 : Int32) + x_3078)
                let x_3080 : Int32 := (v_2533 / x_45)
                let x_3081 : Int32 := ((4 : Int32) * x_3080)
                let x_3082 : Int32 := (x_3079 + x_3081)
                let x_3083 : Int32 := (v_2533 - v_2533 / x_45 * x_45)
                let x_3084 : Int32 := (x_3082 + x_3083)
                let g_3085 : Nat → Int32 := (upd g_2536 (x_3084 : Int32).toNatClampNeg v_2540)
                let x_3087 : Int32 := (v_2533 + 1)
                let w_3096 := F_r_next2 m_textEnd v_2539 v_2540 v_2541 v_2542 g_tape
                let n_3088 : Int32 := w_3096.1
                let n_3089 : Int32 := w_3096.2.1
                let n_3090 : Int32 := w_3096.2.2.1
                let n_3091 : Int32 := w_3096.2.2.2.1
                let n_3092 : Int32 := w_3096.2.2.2.2.1
                let n_3093 : Int64 := w_3096.2.2.2.2.2
                if n_3088 = 2 then (
                  (F_r_readFeels_L74c m_textEnd g_tape r_14 n_12 n_13 g_32 x_45 n9) x_3087 x_3068 1 g_3085 n_3088 n_3089 n_3090 n_3091 n_3092 n_3093) else (
                  (F_r_readFeels_L74c m_textEnd g_tape r_14 n_12 n_13 g_32 x_45 n9) x_3087 x_3068 0 g_3085 n_3088 n_3089 n_3090 n_3091 n_3092 n_3093))))) else (
          let w_3251 := F_r_fail n_12 n_13 4 v_2538
          let n_3247 : Int32 := w_3251.1
          let n_3248 : Int32 := w_3251.2
          let x_3255 : Int32 := (v_2533 - v_2533 / x_45 * x_45)
          if x_3255 = 0 then (
            (n_3247, n_3248, v_2537, v_2538, v_2539, v_2540, v_2541, v_2542, g_32, g_2536)) else (
            let x_3258 : Int32 := (v_2534 + v_2540)
            (n_3247, n_3248, v_2537, v_2538, v_2539, v_2540, v_2541, v_2542, g_32, g_2536)))) else (
        let w_3275 := F_r_wrong n_12 n_13 v_2537 v_2538
        let n_3271 : Int32 := w_3275.1
        let n_3272 : Int32 := w_3275.2
        let x_3280 : Int32 := (v_2533 - v_2533 / x_45 * x_45)
        if x_3280 = 0 then (
          (n_3271, n_3272, v_2537, v_2538, v_2539, v_2540, v_2541, v_2542, g_32, g_2536)) else (
          let x_3283 : Int32 := (v_2534 + v_2540)
          (n_3271, n_3272, v_2537, v_2538, v_2539, v_2540, v_2541, v_2542, g_32, g_2536))))) := rfl
noncomputable def F_r_readFeels (m_textEnd : Int32) (m_bad : Int32) (m_badAt : Int32) (m_behind : Int32) (m_number : Int32) (m_letters : Int32) (m_word : Int64) (g_tape : Nat → Int32) (g_c : Nat → Int32) (g_words : Nat → Int64) (g_hasFeels : Nat → Int32) : Int32 × Int32 × Int32 × Int32 × Int32 × Int32 × Int32 × Int64 × (Nat → Int32) × (Nat → Int32) :=
  let w_9 := F_r_next2 m_textEnd m_behind m_number m_letters m_word g_tape
  let n_1 : Int32 := w_9.1
  let n_2 : Int32 := w_9.2.1
  let n_3 : Int32 := w_9.2.2.1
  let n_4 : Int32 := w_9.2.2.2.1
  let n_5 : Int32 := w_9.2.2.2.2.1
  let n_6 : Int64 := w_9.2.2.2.2.2
  let w_16 := F_r_readOld_0 m_bad m_badAt n_1 n_2 n_5 n_6 g_c g_words
  let r_14 : Int32 := w_16.1
  let n_12 : Int32 := w_16.2.1
  let n_13 : Int32 := w_16.2.2
  if n_12 = 0 then (
    let x_26 : Int32 := (g_hasFeels (r_14 : Int32).toNatClampNeg)
    if x_26 = 0 then (
      let g_32 : Nat → Int32 := (upd g_hasFeels (r_14 : Int32).toNatClampNeg (vp_nar .boolean 1))
      let w_41 := F_r_next2 m_textEnd n_3 n_4 n_5 n_6 g_tape
      let n_33 : Int32 := w_41.1
      let n_34 : Int32 := w_41.2.1
      let n_35 : Int32 := w_41.2.2.1
      let n_36 : Int32 := w_41.2.2.2.1
      let n_37 : Int32 := w_41.2.2.2.2.1
      let n_38 : Int64 := w_41.2.2.2.2.2
      let x_44 : Int32 := ((1471 : Int32) + r_14)
      let x_45 : Int32 := (g_c (x_44 : Int32).toNatClampNeg)
      F_r_readFeels_L74a m_textEnd g_tape r_14 n_12 n_13 g_32 x_45 ((900 - n_35.toInt + (1 : Int32).toInt).toNat + 1) (0 : Int32) (0 : Int32) (1 : Int32) g_c n_33 n_34 n_35 n_36 n_37 n_38) else (
      let w_3301 := F_r_fail n_12 n_13 5 n_2
      let n_3297 : Int32 := w_3301.1
      let n_3298 : Int32 := w_3301.2
      (n_3297, n_3298, n_1, n_2, n_3, n_4, n_5, n_6, g_hasFeels, g_c))) else (
    (n_12, n_13, n_1, n_2, n_3, n_4, n_5, n_6, g_hasFeels, g_c))
theorem F_r_readFeels_s (m_textEnd : Int32) (m_bad : Int32) (m_badAt : Int32) (m_behind : Int32) (m_number : Int32) (m_letters : Int32) (m_word : Int64) (g_tape : Nat → Int32) (g_c : Nat → Int32) (g_words : Nat → Int64) (g_hasFeels : Nat → Int32) : F_r_readFeels m_textEnd m_bad m_badAt m_behind m_number m_letters m_word g_tape g_c g_words g_hasFeels = (
  let w_9 := F_r_next2 m_textEnd m_behind m_number m_letters m_word g_tape
  let n_1 : Int32 := w_9.1
  let n_2 : Int32 := w_9.2.1
  let n_3 : Int32 := w_9.2.2.1
  let n_4 : Int32 := w_9.2.2.2.1
  let n_5 : Int32 := w_9.2.2.2.2.1
  let n_6 : Int64 := w_9.2.2.2.2.2
  let w_16 := F_r_readOld_0 m_bad m_badAt n_1 n_2 n_5 n_6 g_c g_words
  let r_14 : Int32 := w_16.1
  let n_12 : Int32 := w_16.2.1
  let n_13 : Int32 := w_16.2.2
  if n_12 = 0 then (
    let x_26 : Int32 := (g_hasFeels (r_14 : Int32).toNatClampNeg)
    if x_26 = 0 then (
      let g_32 : Nat → Int32 := (upd g_hasFeels (r_14 : Int32).toNatClampNeg (vp_nar .boolean 1))
      let w_41 := F_r_next2 m_textEnd n_3 n_4 n_5 n_6 g_tape
      let n_33 : Int32 := w_41.1
      let n_34 : Int32 := w_41.2.1
      let n_35 : Int32 := w_41.2.2.1
      let n_36 : Int32 := w_41.2.2.2.1
      let n_37 : Int32 := w_41.2.2.2.2.1
      let n_38 : Int64 := w_41.2.2.2.2.2
      let x_44 : Int32 := ((1471 : Int32) + r_14)
      let x_45 : Int32 := (g_c (x_44 : Int32).toNatClampNeg)
      F_r_readFeels_L74a m_textEnd g_tape r_14 n_12 n_13 g_32 x_45 ((900 - n_35.toInt + (1 : Int32).toInt).toNat + 1) (0 : Int32) (0 : Int32) (1 : Int32) g_c n_33 n_34 n_35 n_36 n_37 n_38) else (
      let w_3301 := F_r_fail n_12 n_13 5 n_2
      let n_3297 : Int32 := w_3301.1
      let n_3298 : Int32 := w_3301.2
      (n_3297, n_3298, n_1, n_2, n_3, n_4, n_5, n_6, g_hasFeels, g_c))) else (
    (n_12, n_13, n_1, n_2, n_3, n_4, n_5, n_6, g_hasFeels, g_c))) := rfl
noncomputable def F_r_readKey_L11a (m_textEnd : Int32) (g_tape : Nat → Int32) (g_isOn : Nat → Int32) (r_10 : Int32) (n_1 : Int32) (n_2 : Int32) (n_9 : Nat → Int64) : Nat → Int32 → Int32 → Int32 → Int32 → Int32 → Int32 → Int64 → (Nat → Int32) → (Int32 × Int32 × Int32 × Int32 × Int32 × Int32 × Int32 × Int64 × (Nat → Int64) × (Nat → Int32) × (Nat → Int32)) := fun k9 => Nat.rec (motive := fun _ => Int32 → Int32 → Int32 → Int32 → Int32 → Int32 → Int64 → (Nat → Int32) → (Int32 × Int32 × Int32 × Int32 × Int32 × Int32 × Int32 × Int64 × (Nat → Int64) × (Nat → Int32) × (Nat → Int32))) (fun _ _ _ _ _ _ _ _ => default) (fun _ (G_L11a : Int32 → Int32 → Int32 → Int32 → Int32 → Int32 → Int64 → (Nat → Int32) → (Int32 × Int32 × Int32 × Int32 × Int32 × Int32 × Int32 × Int64 × (Nat → Int64) × (Nat → Int32) × (Nat → Int32))) => fun (v_182 : Int32) (v_183 : Int32) (v_184 : Int32) (v_185 : Int32) (v_186 : Int32) (v_187 : Int32) (v_188 : Int64) (g_189 : Nat → Int32) =>
    if n_1 = 0 then (
      if v_183 = 2 then (
        let x_497 : Int32 := (g_189 (1460 : Int32).toNatClampNeg)
        if x_497 ≤ v_182 then (
          let x_502 : Int32 := (g_189 (1460 : Int32).toNatClampNeg)
          if v_182 = x_502 then (
            let w_532 := F_r_fail n_1 n_2 8 v_184
            let n_528 : Int32 := w_532.1
            let n_529 : Int32 := w_532.2
            (n_528, n_529, v_183, v_184, v_185, v_186, v_187, v_188, n_9, g_189, g_isOn)) else (
            let x_508 : Int32 := ((3 : Int32) * r_10)
            let x_509 : Int32 := ((1525 : Int32) + x_508)
            let x_510 : Int32 := (x_509 + v_182)
            let g_511 : Nat → Int32 := (upd g_189 (x_510 : Int32).toNatClampNeg v_186)
            let x_514 : Int32 := (v_182 + 1)
            let w_523 := F_r_next2 m_textEnd v_185 v_186 v_187 v_188 g_tape
            let n_515 : Int32 := w_523.1
            let n_516 : Int32 := w_523.2.1
            let n_517 : Int32 := w_523.2.2.1
            let n_518 : Int32 := w_523.2.2.2.1
            let n_519 : Int32 := w_523.2.2.2.2.1
            let n_520 : Int64 := w_523.2.2.2.2.2
            G_L11a x_514 n_515 n_516 n_517 n_518 n_519 n_520 g_511)) else (
          let x_538 : Int32 := ((1471 : Int32) + v_182)
          let x_539 : Int32 := (g_189 (x_538 : Int32).toNatClampNeg)
          if v_186 < x_539 then (
            let x_544 : Int32 := (g_189 (1460 : Int32).toNatClampNeg)
            if v_182 = x_544 then (
              let w_574 := F_r_fail n_1 n_2 8 v_184
              let n_570 : Int32 := w_574.1
              let n_571 : Int32 := w_574.2
              (n_570, n_571, v_183, v_184, v_185, v_186, v_187, v_188, n_9, g_189, g_isOn)) else (
              let x_550 : Int32 := ((3 : Int32) * r_10)
              let x_551 : Int32 := ((1525 : Int32) + x_550)
              let x_552 : Int32 := (x_551 + v_182)
              let g_553 : Nat → Int32 := (upd g_189 (x_552 : Int32).toNatClampNeg v_186)
              let x_556 : Int32 := (v_182 + 1)
              let w_565 := F_r_next2 m_textEnd v_185 v_186 v_187 v_188 g_tape
              let n_557 : Int32 := w_565.1
              let n_558 : Int32 := w_565.2.1
              let n_559 : Int32 := w_565.2.2.1
              let n_560 : Int32 := w_565.2.2.2.1
              let n_561 : Int32 := w_565.2.2.2.2.1
              let n_562 : Int64 := w_565.2.2.2.2.2
              G_L11a x_556 n_557 n_558 n_559 n_560 n_561 n_562 g_553)) else (
            let w_584 := F_r_fail n_1 n_2 4 v_184
            let n_580 : Int32 := w_584.1
            let n_581 : Int32 := w_584.2
            (n_580, n_581, v_183, v_184, v_185, v_186, v_187, v_188, n_9, g_189, g_isOn)))) else (
        let w_452 := F_r_isSign v_183 v_186 59
        let r_450 : Int32 := w_452
        if r_450 = 0 then (
          let g_457 : Nat → Int32 := (upd g_isOn (r_10 : Int32).toNatClampNeg (vp_nar .boolean 0))
          let x_459 : Int32 := ((1610 : Int32) + r_10)
          let g_460 : Nat → Int32 := (upd g_189 (x_459 : Int32).toNatClampNeg 0)
          let x_463 : Int32 := (g_460 (1461 : Int32).toNatClampNeg)
          let x_464 : Int32 := (x_463 + 1)
          let g_465 : Nat → Int32 := (upd g_460 (1461 : Int32).toNatClampNeg x_464)
          (n_1, n_2, v_183, v_184, v_185, v_186, v_187, v_188, n_9, g_465, g_457)) else
        (
          let x_469 : Int32 := (g_189 (1460 : Int32).toNatClampNeg)
          if x_469 ≤ v_182 then (
            let g_474 : Nat → Int32 := (upd g_isOn (r_10 : Int32).toNatClampNeg (vp_nar .boolean 0))
            let x_476 : Int32 := ((1610 : Int32) + r_10)
            let g_477 : Nat → Int32 := (upd g_189 (x_476 : Int32).toNatClampNeg 0)
            let x_480 : Int32 := (g_477 (1461 : Int32).toNatClampNeg)
            let x_481 : Int32 := (x_480 + 1)
            let g_482 : Nat → Int32 := (upd g_477 (1461 : Int32).toNatClampNeg x_481)
            (n_1, n_2, v_183, v_184, v_185, v_186, v_187, v_188, n_9, g_482, g_474)) else (
            let w_491 := F_r_fail n_1 n_2 8 v_184
            let n_487 : Int32 := w_491.1
            let n_488 : Int32 := w_491.2
            (n_487, n_488, v_183, v_184, v_185, v_186, v_187, v_188, n_9, g_189, g_isOn))))) else (
      (n_1, n_2, v_183, v_184, v_185, v_186, v_187, v_188, n_9, g_189, g_isOn))) k9
theorem F_r_readKey_L11a_s (m_textEnd : Int32) (g_tape : Nat → Int32) (g_isOn : Nat → Int32) (r_10 : Int32) (n_1 : Int32) (n_2 : Int32) (n_9 : Nat → Int64) (n9 : Nat) (v_182 : Int32) (v_183 : Int32) (v_184 : Int32) (v_185 : Int32) (v_186 : Int32) (v_187 : Int32) (v_188 : Int64) (g_189 : Nat → Int32) : F_r_readKey_L11a m_textEnd g_tape g_isOn r_10 n_1 n_2 n_9 (n9 + 1) v_182 v_183 v_184 v_185 v_186 v_187 v_188 g_189 = (
    if n_1 = 0 then (
      if v_183 = 2 then (
        let x_497 : Int32 := (g_189 (1460 : Int32).toNatClampNeg)
        if x_497 ≤ v_182 then (
          let x_502 : Int32 := (g_189 (1460 : Int32).toNatClampNeg)
          if v_182 = x_502 then (
            let w_532 := F_r_fail n_1 n_2 8 v_184
            let n_528 : Int32 := w_532.1
            let n_529 : Int32 := w_532.2
            (n_528, n_529, v_183, v_184, v_185, v_186, v_187, v_188, n_9, g_189, g_isOn)) else (
            let x_508 : Int32 := ((3 : Int32) * r_10)
            let x_509 : Int32 := ((1525 : Int32) + x_508)
            let x_510 : Int32 := (x_509 + v_182)
            let g_511 : Nat → Int32 := (upd g_189 (x_510 : Int32).toNatClampNeg v_186)
            let x_514 : Int32 := (v_182 + 1)
            let w_523 := F_r_next2 m_textEnd v_185 v_186 v_187 v_188 g_tape
            let n_515 : Int32 := w_523.1
            let n_516 : Int32 := w_523.2.1
            let n_517 : Int32 := w_523.2.2.1
            let n_518 : Int32 := w_523.2.2.2.1
            let n_519 : Int32 := w_523.2.2.2.2.1
            let n_520 : Int64 := w_523.2.2.2.2.2
            (F_r_readKey_L11a m_textEnd g_tape g_isOn r_10 n_1 n_2 n_9 n9) x_514 n_515 n_516 n_517 n_518 n_519 n_520 g_511)) else (
          let x_538 : Int32 := ((1471 : Int32) + v_182)
          let x_539 : Int32 := (g_189 (x_538 : Int32).toNatClampNeg)
          if v_186 < x_539 then (
            let x_544 : Int32 := (g_189 (1460 : Int32).toNatClampNeg)
            if v_182 = x_544 then (
              let w_574 := F_r_fail n_1 n_2 8 v_184
              let n_570 : Int32 := w_574.1
              let n_571 : Int32 := w_574.2
              (n_570, n_571, v_183, v_184, v_185, v_186, v_187, v_188, n_9, g_189, g_isOn)) else (
              let x_550 : Int32 := ((3 : Int32) * r_10)
              let x_551 : Int32 := ((1525 : Int32) + x_550)
              let x_552 : Int32 := (x_551 + v_182)
              let g_553 : Nat → Int32 := (upd g_189 (x_552 : Int32).toNatClampNeg v_186)
              let x_556 : Int32 := (v_182 + 1)
              let w_565 := F_r_next2 m_textEnd v_185 v_186 v_187 v_188 g_tape
              let n_557 : Int32 := w_565.1
              let n_558 : Int32 := w_565.2.1
              let n_559 : Int32 := w_565.2.2.1
              let n_560 : Int32 := w_565.2.2.2.1
              let n_561 : Int32 := w_565.2.2.2.2.1
              let n_562 : Int64 := w_565.2.2.2.2.2
              (F_r_readKey_L11a m_textEnd g_tape g_isOn r_10 n_1 n_2 n_9 n9) x_556 n_557 n_558 n_559 n_560 n_561 n_562 g_553)) else (
            let w_584 := F_r_fail n_1 n_2 4 v_184
            let n_580 : Int32 := w_584.1
            let n_581 : Int32 := w_584.2
            (n_580, n_581, v_183, v_184, v_185, v_186, v_187, v_188, n_9, g_189, g_isOn)))) else (
        let w_452 := F_r_isSign v_183 v_186 59
        let r_450 : Int32 := w_452
        if r_450 = 0 then (
          let g_457 : Nat → Int32 := (upd g_isOn (r_10 : Int32).toNatClampNeg (vp_nar .boolean 0))
          let x_459 : Int32 := ((1610 : Int32) + r_10)
          let g_460 : Nat → Int32 := (upd g_189 (x_459 : Int32).toNatClampNeg 0)
          let x_463 : Int32 := (g_460 (1461 : Int32).toNatClampNeg)
          let x_464 : Int32 := (x_463 + 1)
          let g_465 : Nat → Int32 := (upd g_460 (1461 : Int32).toNatClampNeg x_464)
          (n_1, n_2, v_183, v_184, v_185, v_186, v_187, v_188, n_9, g_465, g_457)) else
        (
          let x_469 : Int32 := (g_189 (1460 : Int32).toNatClampNeg)
          if x_469 ≤ v_182 then (
            let g_474 : Nat → Int32 := (upd g_isOn (r_10 : Int32).toNatClampNeg (vp_nar .boolean 0))
            let x_476 : Int32 := ((1610 : Int32) + r_10)
            let g_477 : Nat → Int32 := (upd g_189 (x_476 : Int32).toNatClampNeg 0)
            let x_480 : Int32 := (g_477 (1461 : Int32).toNatClampNeg)
            let x_481 : Int32 := (x_480 + 1)
            let g_482 : Nat → Int32 := (upd g_477 (1461 : Int32).toNatClampNeg x_481)
            (n_1, n_2, v_183, v_184, v_185, v_186, v_187, v_188, n_9, g_482, g_474)) else (
            let w_491 := F_r_fail n_1 n_2 8 v_184
            let n_487 : Int32 := w_491.1
            let n_488 : Int32 := w_491.2
            (n_487, n_488, v_183, v_184, v_185, v_186, v_187, v_188, n_9, g_189, g_isOn))))) else (
      (n_1, n_2, v_183, v_184, v_185, v_186, v_187, v_188, n_9, g_189, g_isOn))) := rfl
noncomputable def F_r_readKey (m_textEnd : Int32) (m_bad : Int32) (m_badAt : Int32) (m_token : Int32) (m_at : Int32) (m_behind : Int32) (m_number : Int32) (m_letters : Int32) (m_word : Int64) (g_tape : Nat → Int32) (g_c : Nat → Int32) (g_words : Nat → Int64) (g_isOn : Nat → Int32) : Int32 × Int32 × Int32 × Int32 × Int32 × Int32 × Int32 × Int64 × (Nat → Int64) × (Nat → Int32) × (Nat → Int32) :=
  let w_12 := F_r_readNew_1 m_textEnd m_bad m_badAt m_token m_at m_behind m_number m_letters m_word g_tape g_c g_words
  let r_10 : Int32 := w_12.1
  let n_1 : Int32 := w_12.2.1
  let n_2 : Int32 := w_12.2.2.1
  let n_3 : Int32 := w_12.2.2.2.1
  let n_4 : Int32 := w_12.2.2.2.2.1
  let n_5 : Int32 := w_12.2.2.2.2.2.1
  let n_6 : Int32 := w_12.2.2.2.2.2.2.1
  let n_7 : Int32 := w_12.2.2.2.2.2.2.2.1
  let n_8 : Int64 := w_12.2.2.2.2.2.2.2.2.1
  let n_9 : Nat → Int64 := w_12.2.2.2.2.2.2.2.2.2
  F_r_readKey_L11a m_textEnd g_tape g_isOn r_10 n_1 n_2 n_9 ((4600 - 5 * n_5.toInt + n_3.toInt - 5 * n_1.toInt).toNat + 1) (0 : Int32) n_3 n_4 n_5 n_6 n_7 n_8 g_c
theorem F_r_readKey_s (m_textEnd : Int32) (m_bad : Int32) (m_badAt : Int32) (m_token : Int32) (m_at : Int32) (m_behind : Int32) (m_number : Int32) (m_letters : Int32) (m_word : Int64) (g_tape : Nat → Int32) (g_c : Nat → Int32) (g_words : Nat → Int64) (g_isOn : Nat → Int32) : F_r_readKey m_textEnd m_bad m_badAt m_token m_at m_behind m_number m_letters m_word g_tape g_c g_words g_isOn = (
  let w_12 := F_r_readNew_1 m_textEnd m_bad m_badAt m_token m_at m_behind m_number m_letters m_word g_tape g_c g_words
  let r_10 : Int32 := w_12.1
  let n_1 : Int32 := w_12.2.1
  let n_2 : Int32 := w_12.2.2.1
  let n_3 : Int32 := w_12.2.2.2.1
  let n_4 : Int32 := w_12.2.2.2.2.1
  let n_5 : Int32 := w_12.2.2.2.2.2.1
  let n_6 : Int32 := w_12.2.2.2.2.2.2.1
  let n_7 : Int32 := w_12.2.2.2.2.2.2.2.1
  let n_8 : Int64 := w_12.2.2.2.2.2.2.2.2.1
  let n_9 : Nat → Int64 := w_12.2.2.2.2.2.2.2.2.2
  F_r_readKey_L11a m_textEnd g_tape g_isOn r_10 n_1 n_2 n_9 ((4600 - 5 * n_5.toInt + n_3.toInt - 5 * n_1.toInt).toNat + 1) (0 : Int32) n_3 n_4 n_5 n_6 n_7 n_8 g_c) := rfl
noncomputable def F_r_readRing_L11a (m_textEnd : Int32) (g_tape : Nat → Int32) (r_10 : Int32) (n_9 : Nat → Int64) : Nat → Int32 → (Nat → Int32) → Int32 → Int32 → Int32 → Int32 → Int32 → Int32 → Int32 → Int64 → (Nat → Int32) → (Int32 × Int32 × Int32 × Int32 × Int32 × Int32 × Int32 × Int64 × (Nat → Int64) × (Nat → Int32) × (Nat → Int32)) := fun k9 => Nat.rec (motive := fun _ => Int32 → (Nat → Int32) → Int32 → Int32 → Int32 → Int32 → Int32 → Int32 → Int32 → Int64 → (Nat → Int32) → (Int32 × Int32 × Int32 × Int32 × Int32 × Int32 × Int32 × Int64 × (Nat → Int64) × (Nat → Int32) × (Nat → Int32))) (fun _ _ _ _ _ _ _ _ _ _ _ => default) (fun _ (G_L11a : Int32 → (Nat → Int32) → Int32 → Int32 → Int32 → Int32 → Int32 → Int32 → Int32 → Int64 → (Nat → Int32) → (Int32 × Int32 × Int32 × Int32 × Int32 × Int32 × Int32 × Int64 × (Nat → Int64) × (Nat → Int32) × (Nat → Int32))) => fun (v_134 : Int32) (g_135 : Nat → Int32) (v_136 : Int32) (v_137 : Int32) (v_138 : Int32) (v_139 : Int32) (v_140 : Int32) (v_141 : Int32) (v_142 : Int32) (v_143 : Int64) (g_144 : Nat → Int32) =>
    if v_136 = 0 then (
      if v_138 = 1 then (
        let w_297 := F_r_readOld_1 v_136 v_137 v_138 v_139 v_142 v_143 g_144 n_9
        let r_295 : Int32 := w_297.1
        let n_293 : Int32 := w_297.2.1
        let n_294 : Int32 := w_297.2.2
        if n_293 = 0 then (
          let x_307 : Int32 := (g_135 (r_295 : Int32).toNatClampNeg)
          if x_307 = 0 then (
            let g_312 : Nat → Int32 := (upd g_135 (r_295 : Int32).toNatClampNeg (vp_nar .boolean 1))
            let x_314 : Int32 := ((10 : Int32) * r_10)
            let x_315 : Int32 := ((1558 : Int32) + x_314)
            let x_316 : Int32 := (x_315 + v_134)
            let g_317 : Nat → Int32 := (upd g_144 (x_316 : Int32).toNatClampNeg r_295)
            let x_320 : Int32 := (v_134 + 1)
            let w_329 := F_r_next2 m_textEnd v_140 v_141 v_142 v_143 g_tape
            let n_321 : Int32 := w_329.1
            let n_322 : Int32 := w_329.2.1
            let n_323 : Int32 := w_329.2.2.1
            let n_324 : Int32 := w_329.2.2.2.1
            let n_325 : Int32 := w_329.2.2.2.2.1
            let n_326 : Int64 := w_329.2.2.2.2.2
            G_L11a x_320 g_312 n_293 n_294 n_321 n_322 n_323 n_324 n_325 n_326 g_317) else (
            let w_338 := F_r_fail n_293 n_294 5 v_139
            let n_334 : Int32 := w_338.1
            let n_335 : Int32 := w_338.2
            (n_334, n_335, v_138, v_139, v_140, v_141, v_142, v_143, n_9, g_144, g_135))) else (
          (n_293, n_294, v_138, v_139, v_140, v_141, v_142, v_143, n_9, g_144, g_135))) else (
        let x_282 : Int32 := ((1555 : Int32) + r_10)
        let g_283 : Nat → Int32 := (upd g_144 (x_282 : Int32).toNatClampNeg v_134)
        let x_286 : Int32 := (g_283 (1462 : Int32).toNatClampNeg)
        let x_287 : Int32 := (x_286 + 1)
        let g_288 : Nat → Int32 := (upd g_283 (1462 : Int32).toNatClampNeg x_287)
        (v_136, v_137, v_138, v_139, v_140, v_141, v_142, v_143, n_9, g_288, g_135))) else (
      (v_136, v_137, v_138, v_139, v_140, v_141, v_142, v_143, n_9, g_144, g_135))) k9
theorem F_r_readRing_L11a_s (m_textEnd : Int32) (g_tape : Nat → Int32) (r_10 : Int32) (n_9 : Nat → Int64) (n9 : Nat) (v_134 : Int32) (g_135 : Nat → Int32) (v_136 : Int32) (v_137 : Int32) (v_138 : Int32) (v_139 : Int32) (v_140 : Int32) (v_141 : Int32) (v_142 : Int32) (v_143 : Int64) (g_144 : Nat → Int32) : F_r_readRing_L11a m_textEnd g_tape r_10 n_9 (n9 + 1) v_134 g_135 v_136 v_137 v_138 v_139 v_140 v_141 v_142 v_143 g_144 = (
    if v_136 = 0 then (
      if v_138 = 1 then (
        let w_297 := F_r_readOld_1 v_136 v_137 v_138 v_139 v_142 v_143 g_144 n_9
        let r_295 : Int32 := w_297.1
        let n_293 : Int32 := w_297.2.1
        let n_294 : Int32 := w_297.2.2
        if n_293 = 0 then (
          let x_307 : Int32 := (g_135 (r_295 : Int32).toNatClampNeg)
          if x_307 = 0 then (
            let g_312 : Nat → Int32 := (upd g_135 (r_295 : Int32).toNatClampNeg (vp_nar .boolean 1))
            let x_314 : Int32 := ((10 : Int32) * r_10)
            let x_315 : Int32 := ((1558 : Int32) + x_314)
            let x_316 : Int32 := (x_315 + v_134)
            let g_317 : Nat → Int32 := (upd g_144 (x_316 : Int32).toNatClampNeg r_295)
            let x_320 : Int32 := (v_134 + 1)
            let w_329 := F_r_next2 m_textEnd v_140 v_141 v_142 v_143 g_tape
            let n_321 : Int32 := w_329.1
            let n_322 : Int32 := w_329.2.1
            let n_323 : Int32 := w_329.2.2.1
            let n_324 : Int32 := w_329.2.2.2.1
            let n_325 : Int32 := w_329.2.2.2.2.1
            let n_326 : Int64 := w_329.2.2.2.2.2
            (F_r_readRing_L11a m_textEnd g_tape r_10 n_9 n9) x_320 g_312 n_293 n_294 n_321 n_322 n_323 n_324 n_325 n_326 g_317) else (
            let w_338 := F_r_fail n_293 n_294 5 v_139
            let n_334 : Int32 := w_338.1
            let n_335 : Int32 := w_338.2
            (n_334, n_335, v_138, v_139, v_140, v_141, v_142, v_143, n_9, g_144, g_135))) else (
          (n_293, n_294, v_138, v_139, v_140, v_141, v_142, v_143, n_9, g_144, g_135))) else (
        let x_282 : Int32 := ((1555 : Int32) + r_10)
        let g_283 : Nat → Int32 := (upd g_144 (x_282 : Int32).toNatClampNeg v_134)
        let x_286 : Int32 := (g_283 (1462 : Int32).toNatClampNeg)
        let x_287 : Int32 := (x_286 + 1)
        let g_288 : Nat → Int32 := (upd g_283 (1462 : Int32).toNatClampNeg x_287)
        (v_136, v_137, v_138, v_139, v_140, v_141, v_142, v_143, n_9, g_288, g_135))) else (
      (v_136, v_137, v_138, v_139, v_140, v_141, v_142, v_143, n_9, g_144, g_135))) := rfl
noncomputable def F_r_readRing (m_textEnd : Int32) (m_bad : Int32) (m_badAt : Int32) (m_token : Int32) (m_at : Int32) (m_behind : Int32) (m_number : Int32) (m_letters : Int32) (m_word : Int64) (g_tape : Nat → Int32) (g_c : Nat → Int32) (g_words : Nat → Int64) (g_isOn : Nat → Int32) : Int32 × Int32 × Int32 × Int32 × Int32 × Int32 × Int32 × Int64 × (Nat → Int64) × (Nat → Int32) × (Nat → Int32) :=
  let w_12 := F_r_readNew_2 m_textEnd m_bad m_badAt m_token m_at m_behind m_number m_letters m_word g_tape g_c g_words
  let r_10 : Int32 := w_12.1
  let n_1 : Int32 := w_12.2.1
  let n_2 : Int32 := w_12.2.2.1
  let n_3 : Int32 := w_12.2.2.2.1
  let n_4 : Int32 := w_12.2.2.2.2.1
  let n_5 : Int32 := w_12.2.2.2.2.2.1
  let n_6 : Int32 := w_12.2.2.2.2.2.2.1
  let n_7 : Int32 := w_12.2.2.2.2.2.2.2.1
  let n_8 : Int64 := w_12.2.2.2.2.2.2.2.2.1
  let n_9 : Nat → Int64 := w_12.2.2.2.2.2.2.2.2.2
  F_r_readRing_L11a m_textEnd g_tape r_10 n_9 ((4600 - 5 * n_5.toInt + n_3.toInt - 5 * n_1.toInt).toNat + 1) (0 : Int32) g_isOn n_1 n_2 n_3 n_4 n_5 n_6 n_7 n_8 g_c
theorem F_r_readRing_s (m_textEnd : Int32) (m_bad : Int32) (m_badAt : Int32) (m_token : Int32) (m_at : Int32) (m_behind : Int32) (m_number : Int32) (m_letters : Int32) (m_word : Int64) (g_tape : Nat → Int32) (g_c : Nat → Int32) (g_words : Nat → Int64) (g_isOn : Nat → Int32) : F_r_readRing m_textEnd m_bad m_badAt m_token m_at m_behind m_number m_letters m_word g_tape g_c g_words g_isOn = (
  let w_12 := F_r_readNew_2 m_textEnd m_bad m_badAt m_token m_at m_behind m_number m_letters m_word g_tape g_c g_words
  let r_10 : Int32 := w_12.1
  let n_1 : Int32 := w_12.2.1
  let n_2 : Int32 := w_12.2.2.1
  let n_3 : Int32 := w_12.2.2.2.1
  let n_4 : Int32 := w_12.2.2.2.2.1
  let n_5 : Int32 := w_12.2.2.2.2.2.1
  let n_6 : Int32 := w_12.2.2.2.2.2.2.1
  let n_7 : Int32 := w_12.2.2.2.2.2.2.2.1
  let n_8 : Int64 := w_12.2.2.2.2.2.2.2.2.1
  let n_9 : Nat → Int64 := w_12.2.2.2.2.2.2.2.2.2
  F_r_readRing_L11a m_textEnd g_tape r_10 n_9 ((4600 - 5 * n_5.toInt + n_3.toInt - 5 * n_1.toInt).toNat + 1) (0 : Int32) g_isOn n_1 n_2 n_3 n_4 n_5 n_6 n_7 n_8 g_c) := rfl
noncomputable def F_r_readDoor_L58a (g_c : Nat → Int32) (n_9 : Nat → Int64) (n_31 : Int32) (n_32 : Int32) (n_33 : Int32) (n_34 : Int32) (n_35 : Int32) (n_36 : Int64) (n_52 : Int32) (n_53 : Int32) : Nat → (Int32 × Int32 × Int32 × Int32 × Int32 × Int32 × Int32 × Int64 × (Nat → Int64) × (Nat → Int32)) := fun k9 => Nat.rec (motive := fun _ => (Int32 × Int32 × Int32 × Int32 × Int32 × Int32 × Int32 × Int64 × (Nat → Int64) × (Nat → Int32))) (default) (fun _ (G_L58a : (Int32 × Int32 × Int32 × Int32 × Int32 × Int32 × Int32 × Int64 × (Nat → Int64) × (Nat → Int32))) =>     (n_52, n_53, n_31, n_32, n_33, n_34, n_35, n_36, n_9, g_c)) k9
theorem F_r_readDoor_L58a_s (g_c : Nat → Int32) (n_9 : Nat → Int64) (n_31 : Int32) (n_32 : Int32) (n_33 : Int32) (n_34 : Int32) (n_35 : Int32) (n_36 : Int64) (n_52 : Int32) (n_53 : Int32) (n9 : Nat) : F_r_readDoor_L58a g_c n_9 n_31 n_32 n_33 n_34 n_35 n_36 n_52 n_53 (n9 + 1) = (
    (n_52, n_53, n_31, n_32, n_33, n_34, n_35, n_36, n_9, g_c)) := rfl
noncomputable def F_r_readDoor_L58b (m_textEnd : Int32) (g_tape : Nat → Int32) (g_c : Nat → Int32) (r_10 : Int32) (n_9 : Nat → Int64) (r_37 : Int32) : Nat → Int32 → Int32 → Int32 → Int32 → Int32 → Int32 → Int32 → Int32 → Int32 → Int64 → (Int32 × Int32 × Int32 × Int32 × Int32 × Int32 × Int32 × Int64 × (Nat → Int64) × (Nat → Int32)) := fun k9 => Nat.rec (motive := fun _ => Int32 → Int32 → Int32 → Int32 → Int32 → Int32 → Int32 → Int32 → Int32 → Int64 → (Int32 × Int32 × Int32 × Int32 × Int32 × Int32 × Int32 × Int64 × (Nat → Int64) × (Nat → Int32))) (fun _ _ _ _ _ _ _ _ _ _ => default) (fun _ (G_L58b : Int32 → Int32 → Int32 → Int32 → Int32 → Int32 → Int32 → Int32 → Int32 → Int64 → (Int32 × Int32 × Int32 × Int32 × Int32 × Int32 × Int32 × Int64 × (Nat → Int64) × (Nat → Int32))) => fun (v_196 : Int32) (v_197 : Int32) (v_198 : Int32) (v_199 : Int32) (v_200 : Int32) (v_201 : Int32) (v_202 : Int32) (v_203 : Int32) (v_204 : Int32) (v_205 : Int64) =>
    if v_197 = 0 then (
      if v_198 ≤ 0 then (
        let x_333 : Int32 := ((1588 : Int32) + r_10)
        let g_334 : Nat → Int32 := (upd g_c (x_333 : Int32).toNatClampNeg r_37)
        let x_337 : Int32 := ((1593 : Int32) + r_10)
        let g_338 : Nat → Int32 := (upd g_334 (x_337 : Int32).toNatClampNeg v_196)
        let x_341 : Int32 := (g_338 (1463 : Int32).toNatClampNeg)
        let x_342 : Int32 := (x_341 + 1)
        let g_343 : Nat → Int32 := (upd g_338 (1463 : Int32).toNatClampNeg x_342)
        (v_198, v_199, v_200, v_201, v_202, v_203, v_204, v_205, n_9, g_343)) else (
        (v_198, v_199, v_200, v_201, v_202, v_203, v_204, v_205, n_9, g_c))) else (
      if v_198 = 0 then (
        let w_360 := F_r_readOld_1 v_198 v_199 v_200 v_201 v_204 v_205 g_c n_9
        let r_358 : Int32 := w_360.1
        let n_356 : Int32 := w_360.2.1
        let n_357 : Int32 := w_360.2.2
        if n_356 = 0 then (
          let x_370 : Int32 := (v_196 >>> (r_358 &&& 31))
          let x_371 : Int32 := (x_370 &&& 1)
          if x_371 = 1 then (
            let w_399 := F_r_fail n_356 n_357 5 v_201
            let n_395 : Int32 := w_399.1
            let n_396 : Int32 := w_399.2
            (n_395, n_396, v_200, v_201, v_202, v_203, v_204, v_205, n_9, g_c)) else (
            let x_376 : Int32 := ((1 : Int32) <<< (r_358 &&& 31))
            let x_377 : Int32 := (v_196 ||| x_376)
            let w_386 := F_r_next2 m_textEnd v_202 v_203 v_204 v_205 g_tape
            let n_378 : Int32 := w_386.1
            let n_379 : Int32 := w_386.2.1
            let n_380 : Int32 := w_386.2.2.1
            let n_381 : Int32 := w_386.2.2.2.1
            let n_382 : Int32 := w_386.2.2.2.2.1
            let n_383 : Int64 := w_386.2.2.2.2.2
            if n_378 = 1 then (
              G_L58b x_377 1 n_356 n_357 n_378 n_379 n_380 n_381 n_382 n_383) else (
              G_L58b x_377 0 n_356 n_357 n_378 n_379 n_380 n_381 n_382 n_383))) else (
          (n_356, n_357, v_200, v_201, v_202, v_203, v_204, v_205, n_9, g_c))) else (
        (v_198, v_199, v_200, v_201, v_202, v_203, v_204, v_205, n_9, g_c)))) k9
theorem F_r_readDoor_L58b_s (m_textEnd : Int32) (g_tape : Nat → Int32) (g_c : Nat → Int32) (r_10 : Int32) (n_9 : Nat → Int64) (r_37 : Int32) (n9 : Nat) (v_196 : Int32) (v_197 : Int32) (v_198 : Int32) (v_199 : Int32) (v_200 : Int32) (v_201 : Int32) (v_202 : Int32) (v_203 : Int32) (v_204 : Int32) (v_205 : Int64) : F_r_readDoor_L58b m_textEnd g_tape g_c r_10 n_9 r_37 (n9 + 1) v_196 v_197 v_198 v_199 v_200 v_201 v_202 v_203 v_204 v_205 = (
    if v_197 = 0 then (
      if v_198 ≤ 0 then (
        let x_333 : Int32 := ((1588 : Int32) + r_10)
        let g_334 : Nat → Int32 := (upd g_c (x_333 : Int32).toNatClampNeg r_37)
        let x_337 : Int32 := ((1593 : Int32) + r_10)
        let g_338 : Nat → Int32 := (upd g_334 (x_337 : Int32).toNatClampNeg v_196)
        let x_341 : Int32 := (g_338 (1463 : Int32).toNatClampNeg)
        let x_342 : Int32 := (x_341 + 1)
        let g_343 : Nat → Int32 := (upd g_338 (1463 : Int32).toNatClampNeg x_342)
        (v_198, v_199, v_200, v_201, v_202, v_203, v_204, v_205, n_9, g_343)) else (
        (v_198, v_199, v_200, v_201, v_202, v_203, v_204, v_205, n_9, g_c))) else (
      if v_198 = 0 then (
        let w_360 := F_r_readOld_1 v_198 v_199 v_200 v_201 v_204 v_205 g_c n_9
        let r_358 : Int32 := w_360.1
        let n_356 : Int32 := w_360.2.1
        let n_357 : Int32 := w_360.2.2
        if n_356 = 0 then (
          let x_370 : Int32 := (v_196 >>> (r_358 &&& 31))
          let x_371 : Int32 := (x_370 &&& 1)
          if x_371 = 1 then (
            let w_399 := F_r_fail n_356 n_357 5 v_201
            let n_395 : Int32 := w_399.1
            let n_396 : Int32 := w_399.2
            (n_395, n_396, v_200, v_201, v_202, v_203, v_204, v_205, n_9, g_c)) else (
            let x_376 : Int32 := ((1 : Int32) <<< (r_358 &&& 31))
            let x_377 : Int32 := (v_196 ||| x_376)
            let w_386 := F_r_next2 m_textEnd v_202 v_203 v_204 v_205 g_tape
            let n_378 : Int32 := w_386.1
            let n_379 : Int32 := w_386.2.1
            let n_380 : Int32 := w_386.2.2.1
            let n_381 : Int32 := w_386.2.2.2.1
            let n_382 : Int32 := w_386.2.2.2.2.1
            let n_383 : Int64 := w_386.2.2.2.2.2
            if n_378 = 1 then (
              (F_r_readDoor_L58b m_textEnd g_tape g_c r_10 n_9 r_37 n9) x_377 1 n_356 n_357 n_378 n_379 n_380 n_381 n_382 n_383) else (
              (F_r_readDoor_L58b m_textEnd g_tape g_c r_10 n_9 r_37 n9) x_377 0 n_356 n_357 n_378 n_379 n_380 n_381 n_382 n_383))) else (
          (n_356, n_357, v_200, v_201, v_202, v_203, v_204, v_205, n_9, g_c))) else (
        (v_198, v_199, v_200, v_201, v_202, v_203, v_204, v_205, n_9, g_c)))) := rfl
noncomputable def F_r_readDoor_L58c (g_c : Nat → Int32) (n_9 : Nat → Int64) (n_420 : Int32) (n_421 : Int32) (n_422 : Int32) (n_423 : Int32) (n_424 : Int32) (n_425 : Int64) (n_441 : Int32) (n_442 : Int32) : Nat → (Int32 × Int32 × Int32 × Int32 × Int32 × Int32 × Int32 × Int64 × (Nat → Int64) × (Nat → Int32)) := fun k9 => Nat.rec (motive := fun _ => (Int32 × Int32 × Int32 × Int32 × Int32 × Int32 × Int32 × Int64 × (Nat → Int64) × (Nat → Int32))) (default) (fun _ (G_L58c : (Int32 × Int32 × Int32 × Int32 × Int32 × Int32 × Int32 × Int64 × (Nat → Int64) × (Nat → Int32))) =>     (n_441, n_442, n_420, n_421, n_422, n_423, n_424, n_425, n_9, g_c)) k9
theorem F_r_readDoor_L58c_s (g_c : Nat → Int32) (n_9 : Nat → Int64) (n_420 : Int32) (n_421 : Int32) (n_422 : Int32) (n_423 : Int32) (n_424 : Int32) (n_425 : Int64) (n_441 : Int32) (n_442 : Int32) (n9 : Nat) : F_r_readDoor_L58c g_c n_9 n_420 n_421 n_422 n_423 n_424 n_425 n_441 n_442 (n9 + 1) = (
    (n_441, n_442, n_420, n_421, n_422, n_423, n_424, n_425, n_9, g_c)) := rfl
noncomputable def F_r_readDoor_L58d (m_textEnd : Int32) (g_tape : Nat → Int32) (g_c : Nat → Int32) (r_10 : Int32) (n_9 : Nat → Int64) (r_426 : Int32) : Nat → Int32 → Int32 → Int32 → Int32 → Int32 → Int32 → Int32 → Int32 → Int32 → Int64 → (Int32 × Int32 × Int32 × Int32 × Int32 × Int32 × Int32 × Int64 × (Nat → Int64) × (Nat → Int32)) := fun k9 => Nat.rec (motive := fun _ => Int32 → Int32 → Int32 → Int32 → Int32 → Int32 → Int32 → Int32 → Int32 → Int64 → (Int32 × Int32 × Int32 × Int32 × Int32 × Int32 × Int32 × Int64 × (Nat → Int64) × (Nat → Int32))) (fun _ _ _ _ _ _ _ _ _ _ => default) (fun _ (G_L58d : Int32 → Int32 → Int32 → Int32 → Int32 → Int32 → Int32 → Int32 → Int32 → Int64 → (Int32 × Int32 × Int32 × Int32 × Int32 × Int32 × Int32 × Int64 × (Nat → Int64) × (Nat → Int32))) => fun (v_585 : Int32) (v_586 : Int32) (v_587 : Int32) (v_588 : Int32) (v_589 : Int32) (v_590 : Int32) (v_591 : Int32) (v_592 : Int32) (v_593 : Int32) (v_594 : Int64) =>
    if v_586 = 0 then (
      if v_587 ≤ 0 then (
        let x_722 : Int32 := ((1588 : Int32) + r_10)
        let g_723 : Nat → Int32 := (upd g_c (x_722 : Int32).toNatClampNeg r_426)
        let x_726 : Int32 := ((1593 : Int32) + r_10)
        let g_727 : Nat → Int32 := (upd g_723 (x_726 : Int32).toNatClampNeg v_585)
        let x_730 : Int32 := (g_727 (1463 : Int32).toNatClampNeg)
        let x_731 : Int32 := (x_730 + 1)
        let g_732 : Nat → Int32 := (upd g_727 (1463 : Int32).toNatClampNeg x_731)
        (v_587, v_588, v_589, v_590, v_591, v_592, v_593, v_594, n_9, g_732)) else (
        (v_587, v_588, v_589, v_590, v_591, v_592, v_593, v_594, n_9, g_c))) else (
      if v_587 = 0 then (
        let w_749 := F_r_readOld_1 v_587 v_588 v_589 v_590 v_593 v_594 g_c n_9
        let r_747 : Int32 := w_749.1
        let n_745 : Int32 := w_749.2.1
        let n_746 : Int32 := w_749.2.2
        if n_745 = 0 then (
          let x_759 : Int32 := (v_585 >>> (r_747 &&& 31))
          let x_760 : Int32 := (x_759 &&& 1)
          if x_760 = 1 then (
            let w_788 := F_r_fail n_745 n_746 5 v_590
            let n_784 : Int32 := w_788.1
            let n_785 : Int32 := w_788.2
            (n_784, n_785, v_589, v_590, v_591, v_592, v_593, v_594, n_9, g_c)) else (
            let x_765 : Int32 := ((1 : Int32) <<< (r_747 &&& 31))
            let x_766 : Int32 := (v_585 ||| x_765)
            let w_775 := F_r_next2 m_textEnd v_591 v_592 v_593 v_594 g_tape
            let n_767 : Int32 := w_775.1
            let n_768 : Int32 := w_775.2.1
            let n_769 : Int32 := w_775.2.2.1
            let n_770 : Int32 := w_775.2.2.2.1
            let n_771 : Int32 := w_775.2.2.2.2.1
            let n_772 : Int64 := w_775.2.2.2.2.2
            if n_767 = 1 then (
              G_L58d x_766 1 n_745 n_746 n_767 n_768 n_769 n_770 n_771 n_772) else (
              G_L58d x_766 0 n_745 n_746 n_767 n_768 n_769 n_770 n_771 n_772))) else (
          (n_745, n_746, v_589, v_590, v_591, v_592, v_593, v_594, n_9, g_c))) else (
        (v_587, v_588, v_589, v_590, v_591, v_592, v_593, v_594, n_9, g_c)))) k9
theorem F_r_readDoor_L58d_s (m_textEnd : Int32) (g_tape : Nat → Int32) (g_c : Nat → Int32) (r_10 : Int32) (n_9 : Nat → Int64) (r_426 : Int32) (n9 : Nat) (v_585 : Int32) (v_586 : Int32) (v_587 : Int32) (v_588 : Int32) (v_589 : Int32) (v_590 : Int32) (v_591 : Int32) (v_592 : Int32) (v_593 : Int32) (v_594 : Int64) : F_r_readDoor_L58d m_textEnd g_tape g_c r_10 n_9 r_426 (n9 + 1) v_585 v_586 v_587 v_588 v_589 v_590 v_591 v_592 v_593 v_594 = (
    if v_586 = 0 then (
      if v_587 ≤ 0 then (
        let x_722 : Int32 := ((1588 : Int32) + r_10)
        let g_723 : Nat → Int32 := (upd g_c (x_722 : Int32).toNatClampNeg r_426)
        let x_726 : Int32 := ((1593 : Int32) + r_10)
        let g_727 : Nat → Int32 := (upd g_723 (x_726 : Int32).toNatClampNeg v_585)
        let x_730 : Int32 := (g_727 (1463 : Int32).toNatClampNeg)
        let x_731 : Int32 := (x_730 + 1)
        let g_732 : Nat → Int32 := (upd g_727 (1463 : Int32).toNatClampNeg x_731)
        (v_587, v_588, v_589, v_590, v_591, v_592, v_593, v_594, n_9, g_732)) else (
        (v_587, v_588, v_589, v_590, v_591, v_592, v_593, v_594, n_9, g_c))) else (
      if v_587 = 0 then (
        let w_749 := F_r_readOld_1 v_587 v_588 v_589 v_590 v_593 v_594 g_c n_9
        let r_747 : Int32 := w_749.1
        let n_745 : Int32 := w_749.2.1
        let n_746 : Int32 := w_749.2.2
        if n_745 = 0 then (
          let x_759 : Int32 := (v_585 >>> (r_747 &&& 31))
          let x_760 : Int32 := (x_759 &&& 1)
          if x_760 = 1 then (
            let w_788 := F_r_fail n_745 n_746 5 v_590
            let n_784 : Int32 := w_788.1
            let n_785 : Int32 := w_788.2
            (n_784, n_785, v_589, v_590, v_591, v_592, v_593, v_594, n_9, g_c)) else (
            let x_765 : Int32 := ((1 : Int32) <<< (r_747 &&& 31))
            let x_766 : Int32 := (v_585 ||| x_765)
            let w_775 := F_r_next2 m_textEnd v_591 v_592 v_593 v_594 g_tape
            let n_767 : Int32 := w_775.1
            let n_768 : Int32 := w_775.2.1
            let n_769 : Int32 := w_775.2.2.1
            let n_770 : Int32 := w_775.2.2.2.1
            let n_771 : Int32 := w_775.2.2.2.2.1
            let n_772 : Int64 := w_775.2.2.2.2.2
            if n_767 = 1 then (
              (F_r_readDoor_L58d m_textEnd g_tape g_c r_10 n_9 r_426 n9) x_766 1 n_745 n_746 n_767 n_768 n_769 n_770 n_771 n_772) else (
              (F_r_readDoor_L58d m_textEnd g_tape g_c r_10 n_9 r_426 n9) x_766 0 n_745 n_746 n_767 n_768 n_769 n_770 n_771 n_772))) else (
          (n_745, n_746, v_589, v_590, v_591, v_592, v_593, v_594, n_9, g_c))) else (
        (v_587, v_588, v_589, v_590, v_591, v_592, v_593, v_594, n_9, g_c)))) := rfl
noncomputable def F_r_readDoor (m_textEnd : Int32) (m_bad : Int32) (m_badAt : Int32) (m_token : Int32) (m_at : Int32) (m_behind : Int32) (m_number : Int32) (m_letters : Int32) (m_word : Int64) (g_tape : Nat → Int32) (g_c : Nat → Int32) (g_words : Nat → Int64) : Int32 × Int32 × Int32 × Int32 × Int32 × Int32 × Int32 × Int64 × (Nat → Int64) × (Nat → Int32) :=
  let w_12 := F_r_readNew_3 m_textEnd m_bad m_badAt m_token m_at m_behind m_number m_letters m_word g_tape g_c g_words
  let r_10 : Int32 := w_12.1
  let n_1 : Int32 := w_12.2.1
  let n_2 : Int32 := w_12.2.2.1
  let n_3 : Int32 := w_12.2.2.2.1
  let n_4 : Int32 := w_12.2.2.2.2.1
  let n_5 : Int32 := w_12.2.2.2.2.2.1
  let n_6 : Int32 := w_12.2.2.2.2.2.2.1
  let n_7 : Int32 := w_12.2.2.2.2.2.2.2.1
  let n_8 : Int64 := w_12.2.2.2.2.2.2.2.2.1
  let n_9 : Nat → Int64 := w_12.2.2.2.2.2.2.2.2.2
  let w_20 := F_r_houseWord n_3 n_8
  let r_18 : Int32 := w_20
  if r_18 = 9 then (
    let w_414 := F_r_must_1 m_textEnd n_1 n_3 n_4 n_5 n_6 n_7 n_8 g_tape
    let n_406 : Int32 := w_414.1
    let n_407 : Int32 := w_414.2.1
    let n_408 : Int32 := w_414.2.2.1
    let n_409 : Int32 := w_414.2.2.2.1
    let n_410 : Int32 := w_414.2.2.2.2.1
    let n_411 : Int64 := w_414.2.2.2.2.2
    let w_428 := F_r_count m_textEnd n_1 n_2 n_406 n_407 n_408 n_409 n_410 n_411 g_tape 0 99
    let r_426 : Int32 := w_428.1
    let n_418 : Int32 := w_428.2.1
    let n_419 : Int32 := w_428.2.2.1
    let n_420 : Int32 := w_428.2.2.2.1
    let n_421 : Int32 := w_428.2.2.2.2.1
    let n_422 : Int32 := w_428.2.2.2.2.2.1
    let n_423 : Int32 := w_428.2.2.2.2.2.2.1
    let n_424 : Int32 := w_428.2.2.2.2.2.2.2.1
    let n_425 : Int64 := w_428.2.2.2.2.2.2.2.2
    let w_437 := F_r_houseWord n_420 n_425
    let r_435 : Int32 := w_437
    if r_435 = 10 then (
      let w_474 := F_r_must_1 m_textEnd n_418 n_420 n_421 n_422 n_423 n_424 n_425 g_tape
      let n_466 : Int32 := w_474.1
      let n_467 : Int32 := w_474.2.1
      let n_468 : Int32 := w_474.2.2.1
      let n_469 : Int32 := w_474.2.2.2.1
      let n_470 : Int32 := w_474.2.2.2.2.1
      let n_471 : Int64 := w_474.2.2.2.2.2
      F_r_readDoor_L58d m_textEnd g_tape g_c r_10 n_9 r_426 ((900 - n_468.toInt + (1 : Int32).toInt).toNat + 1) (0 : Int32) (1 : Int32) n_418 n_419 n_466 n_467 n_468 n_469 n_470 n_471) else (
      let w_445 := F_r_must_0 n_418 n_419 n_420 n_421
      let n_441 : Int32 := w_445.1
      let n_442 : Int32 := w_445.2
      F_r_readDoor_L58c g_c n_9 n_420 n_421 n_422 n_423 n_424 n_425 n_441 n_442 ((900 - n_422.toInt + (1 : Int32).toInt).toNat + 1))) else (
    let w_28 := F_r_must_0 n_1 n_2 n_3 n_4
    let n_24 : Int32 := w_28.1
    let n_25 : Int32 := w_28.2
    let w_39 := F_r_count m_textEnd n_24 n_25 n_3 n_4 n_5 n_6 n_7 n_8 g_tape 0 99
    let r_37 : Int32 := w_39.1
    let n_29 : Int32 := w_39.2.1
    let n_30 : Int32 := w_39.2.2.1
    let n_31 : Int32 := w_39.2.2.2.1
    let n_32 : Int32 := w_39.2.2.2.2.1
    let n_33 : Int32 := w_39.2.2.2.2.2.1
    let n_34 : Int32 := w_39.2.2.2.2.2.2.1
    let n_35 : Int32 := w_39.2.2.2.2.2.2.2.1
    let n_36 : Int64 := w_39.2.2.2.2.2.2.2.2
    let w_48 := F_r_houseWord n_31 n_36
    let r_46 : Int32 := w_48
    if r_46 = 10 then (
      let w_85 := F_r_must_1 m_textEnd n_29 n_31 n_32 n_33 n_34 n_35 n_36 g_tape
      let n_77 : Int32 := w_85.1
      let n_78 : Int32 := w_85.2.1
      let n_79 : Int32 := w_85.2.2.1
      let n_80 : Int32 := w_85.2.2.2.1
      let n_81 : Int32 := w_85.2.2.2.2.1
      let n_82 : Int64 := w_85.2.2.2.2.2
      F_r_readDoor_L58b m_textEnd g_tape g_c r_10 n_9 r_37 ((900 - n_79.toInt + (1 : Int32).toInt).toNat + 1) (0 : Int32) (1 : Int32) n_29 n_30 n_77 n_78 n_79 n_80 n_81 n_82) else (
      let w_56 := F_r_must_0 n_29 n_30 n_31 n_32
      let n_52 : Int32 := w_56.1
      let n_53 : Int32 := w_56.2
      F_r_readDoor_L58a g_c n_9 n_31 n_32 n_33 n_34 n_35 n_36 n_52 n_53 ((900 - n_33.toInt + (1 : Int32).toInt).toNat + 1)))
theorem F_r_readDoor_s (m_textEnd : Int32) (m_bad : Int32) (m_badAt : Int32) (m_token : Int32) (m_at : Int32) (m_behind : Int32) (m_number : Int32) (m_letters : Int32) (m_word : Int64) (g_tape : Nat → Int32) (g_c : Nat → Int32) (g_words : Nat → Int64) : F_r_readDoor m_textEnd m_bad m_badAt m_token m_at m_behind m_number m_letters m_word g_tape g_c g_words = (
  let w_12 := F_r_readNew_3 m_textEnd m_bad m_badAt m_token m_at m_behind m_number m_letters m_word g_tape g_c g_words
  let r_10 : Int32 := w_12.1
  let n_1 : Int32 := w_12.2.1
  let n_2 : Int32 := w_12.2.2.1
  let n_3 : Int32 := w_12.2.2.2.1
  let n_4 : Int32 := w_12.2.2.2.2.1
  let n_5 : Int32 := w_12.2.2.2.2.2.1
  let n_6 : Int32 := w_12.2.2.2.2.2.2.1
  let n_7 : Int32 := w_12.2.2.2.2.2.2.2.1
  let n_8 : Int64 := w_12.2.2.2.2.2.2.2.2.1
  let n_9 : Nat → Int64 := w_12.2.2.2.2.2.2.2.2.2
  let w_20 := F_r_houseWord n_3 n_8
  let r_18 : Int32 := w_20
  if r_18 = 9 then (
    let w_414 := F_r_must_1 m_textEnd n_1 n_3 n_4 n_5 n_6 n_7 n_8 g_tape
    let n_406 : Int32 := w_414.1
    let n_407 : Int32 := w_414.2.1
    let n_408 : Int32 := w_414.2.2.1
    let n_409 : Int32 := w_414.2.2.2.1
    let n_410 : Int32 := w_414.2.2.2.2.1
    let n_411 : Int64 := w_414.2.2.2.2.2
    let w_428 := F_r_count m_textEnd n_1 n_2 n_406 n_407 n_408 n_409 n_410 n_411 g_tape 0 99
    let r_426 : Int32 := w_428.1
    let n_418 : Int32 := w_428.2.1
    let n_419 : Int32 := w_428.2.2.1
    let n_420 : Int32 := w_428.2.2.2.1
    let n_421 : Int32 := w_428.2.2.2.2.1
    let n_422 : Int32 := w_428.2.2.2.2.2.1
    let n_423 : Int32 := w_428.2.2.2.2.2.2.1
    let n_424 : Int32 := w_428.2.2.2.2.2.2.2.1
    let n_425 : Int64 := w_428.2.2.2.2.2.2.2.2
    let w_437 := F_r_houseWord n_420 n_425
    let r_435 : Int32 := w_437
    if r_435 = 10 then (
      let w_474 := F_r_must_1 m_textEnd n_418 n_420 n_421 n_422 n_423 n_424 n_425 g_tape
      let n_466 : Int32 := w_474.1
      let n_467 : Int32 := w_474.2.1
      let n_468 : Int32 := w_474.2.2.1
      let n_469 : Int32 := w_474.2.2.2.1
      let n_470 : Int32 := w_474.2.2.2.2.1
      let n_471 : Int64 := w_474.2.2.2.2.2
      F_r_readDoor_L58d m_textEnd g_tape g_c r_10 n_9 r_426 ((900 - n_468.toInt + (1 : Int32).toInt).toNat + 1) (0 : Int32) (1 : Int32) n_418 n_419 n_466 n_467 n_468 n_469 n_470 n_471) else (
      let w_445 := F_r_must_0 n_418 n_419 n_420 n_421
      let n_441 : Int32 := w_445.1
      let n_442 : Int32 := w_445.2
      F_r_readDoor_L58c g_c n_9 n_420 n_421 n_422 n_423 n_424 n_425 n_441 n_442 ((900 - n_422.toInt + (1 : Int32).toInt).toNat + 1))) else (
    let w_28 := F_r_must_0 n_1 n_2 n_3 n_4
    let n_24 : Int32 := w_28.1
    let n_25 : Int32 := w_28.2
    let w_39 := F_r_count m_textEnd n_24 n_25 n_3 n_4 n_5 n_6 n_7 n_8 g_tape 0 99
    let r_37 : Int32 := w_39.1
    let n_29 : Int32 := w_39.2.1
    let n_30 : Int32 := w_39.2.2.1
    let n_31 : Int32 := w_39.2.2.2.1
    let n_32 : Int32 := w_39.2.2.2.2.1
    let n_33 : Int32 := w_39.2.2.2.2.2.1
    let n_34 : Int32 := w_39.2.2.2.2.2.2.1
    let n_35 : Int32 := w_39.2.2.2.2.2.2.2.1
    let n_36 : Int64 := w_39.2.2.2.2.2.2.2.2
    let w_48 := F_r_houseWord n_31 n_36
    let r_46 : Int32 := w_48
    if r_46 = 10 then (
      let w_85 := F_r_must_1 m_textEnd n_29 n_31 n_32 n_33 n_34 n_35 n_36 g_tape
      let n_77 : Int32 := w_85.1
      let n_78 : Int32 := w_85.2.1
      let n_79 : Int32 := w_85.2.2.1
      let n_80 : Int32 := w_85.2.2.2.1
      let n_81 : Int32 := w_85.2.2.2.2.1
      let n_82 : Int64 := w_85.2.2.2.2.2
      F_r_readDoor_L58b m_textEnd g_tape g_c r_10 n_9 r_37 ((900 - n_79.toInt + (1 : Int32).toInt).toNat + 1) (0 : Int32) (1 : Int32) n_29 n_30 n_77 n_78 n_79 n_80 n_81 n_82) else (
      let w_56 := F_r_must_0 n_29 n_30 n_31 n_32
      let n_52 : Int32 := w_56.1
      let n_53 : Int32 := w_56.2
      F_r_readDoor_L58a g_c n_9 n_31 n_32 n_33 n_34 n_35 n_36 n_52 n_53 ((900 - n_33.toInt + (1 : Int32).toInt).toNat + 1)))) := rfl
noncomputable def F_r_readSeconds_L35a (m_textEnd : Int32) (g_tape : Nat → Int32) : Nat → Int32 → (Nat → Int32) → Int32 → Int32 → Int32 → Int32 → Int32 → Int32 → Int32 → Int64 → (Int32 × Int32 × Int32 × Int32 × Int32 × Int32 × Int32 × Int64 × Int32 × (Nat → Int32)) := fun k9 => Nat.rec (motive := fun _ => Int32 → (Nat → Int32) → Int32 → Int32 → Int32 → Int32 → Int32 → Int32 → Int32 → Int64 → (Int32 × Int32 × Int32 × Int32 × Int32 × Int32 × Int32 × Int64 × Int32 × (Nat → Int32))) (fun _ _ _ _ _ _ _ _ _ _ => default) (fun _ (G_L35a : Int32 → (Nat → Int32) → Int32 → Int32 → Int32 → Int32 → Int32 → Int32 → Int32 → Int64 → (Int32 × Int32 × Int32 × Int32 × Int32 × Int32 × Int32 × Int64 × Int32 × (Nat → Int32))) => fun (v_405 : Int32) (g_406 : Nat → Int32) (v_407 : Int32) (v_408 : Int32) (v_409 : Int32) (v_410 : Int32) (v_411 : Int32) (v_412 : Int32) (v_413 : Int32) (v_414 : Int64) =>
    if 4 ≤ v_405 then (
      (v_407, v_408, v_409, v_410, v_411, v_412, v_413, v_414, (1 : Int32), g_406)) else (
      let w_571 := F_r_houseWord v_409 v_414
      let r_569 : Int32 := w_571
      let x_573 : Int32 := ((11 : Int32) + v_405)
      if r_569 = x_573 then (
        let w_613 := F_r_must_1 m_textEnd v_407 v_409 v_410 v_411 v_412 v_413 v_414 g_tape
        let n_605 : Int32 := w_613.1
        let n_606 : Int32 := w_613.2.1
        let n_607 : Int32 := w_613.2.2.1
        let n_608 : Int32 := w_613.2.2.2.1
        let n_609 : Int32 := w_613.2.2.2.2.1
        let n_610 : Int64 := w_613.2.2.2.2.2
        let x_617 : Int32 := ((1465 : Int32) + v_405)
        let w_628 := F_r_count m_textEnd v_407 v_408 n_605 n_606 n_607 n_608 n_609 n_610 g_tape 1 99
        let r_626 : Int32 := w_628.1
        let n_618 : Int32 := w_628.2.1
        let n_619 : Int32 := w_628.2.2.1
        let n_620 : Int32 := w_628.2.2.2.1
        let n_621 : Int32 := w_628.2.2.2.2.1
        let n_622 : Int32 := w_628.2.2.2.2.2.1
        let n_623 : Int32 := w_628.2.2.2.2.2.2.1
        let n_624 : Int32 := w_628.2.2.2.2.2.2.2.1
        let n_625 : Int64 := w_628.2.2.2.2.2.2.2.2
        let g_635 : Nat → Int32 := (upd g_406 (x_617 : Int32).toNatClampNeg r_626)
        let x_638 : Int32 := (v_405 + 1)
        G_L35a x_638 g_635 n_618 n_619 n_620 n_621 n_622 n_623 n_624 n_625) else (
        let w_580 := F_r_must_0 v_407 v_408 v_409 v_410
        let n_576 : Int32 := w_580.1
        let n_577 : Int32 := w_580.2
        let x_581 : Int32 := ((1465 : Int32) + v_405)
        let w_592 := F_r_count m_textEnd n_576 n_577 v_409 v_410 v_411 v_412 v_413 v_414 g_tape 1 99
        let r_590 : Int32 := w_592.1
        let n_582 : Int32 := w_592.2.1
        let n_583 : Int32 := w_592.2.2.1
        let n_584 : Int32 := w_592.2.2.2.1
        let n_585 : Int32 := w_592.2.2.2.2.1
        let n_586 : Int32 := w_592.2.2.2.2.2.1
        let n_587 : Int32 := w_592.2.2.2.2.2.2.1
        let n_588 : Int32 := w_592.2.2.2.2.2.2.2.1
        let n_589 : Int64 := w_592.2.2.2.2.2.2.2.2
        let g_599 : Nat → Int32 := (upd g_406 (x_581 : Int32).toNatClampNeg r_590)
        let x_602 : Int32 := (v_405 + 1)
        G_L35a x_602 g_599 n_582 n_583 n_584 n_585 n_586 n_587 n_588 n_589))) k9
theorem F_r_readSeconds_L35a_s (m_textEnd : Int32) (g_tape : Nat → Int32) (n9 : Nat) (v_405 : Int32) (g_406 : Nat → Int32) (v_407 : Int32) (v_408 : Int32) (v_409 : Int32) (v_410 : Int32) (v_411 : Int32) (v_412 : Int32) (v_413 : Int32) (v_414 : Int64) : F_r_readSeconds_L35a m_textEnd g_tape (n9 + 1) v_405 g_406 v_407 v_408 v_409 v_410 v_411 v_412 v_413 v_414 = (
    if 4 ≤ v_405 then (
      (v_407, v_408, v_409, v_410, v_411, v_412, v_413, v_414, (1 : Int32), g_406)) else (
      let w_571 := F_r_houseWord v_409 v_414
      let r_569 : Int32 := w_571
      let x_573 : Int32 := ((11 : Int32) + v_405)
      if r_569 = x_573 then (
        let w_613 := F_r_must_1 m_textEnd v_407 v_409 v_410 v_411 v_412 v_413 v_414 g_tape
        let n_605 : Int32 := w_613.1
        let n_606 : Int32 := w_613.2.1
        let n_607 : Int32 := w_613.2.2.1
        let n_608 : Int32 := w_613.2.2.2.1
        let n_609 : Int32 := w_613.2.2.2.2.1
        let n_610 : Int64 := w_613.2.2.2.2.2
        let x_617 : Int32 := ((1465 : Int32) + v_405)
        let w_628 := F_r_count m_textEnd v_407 v_408 n_605 n_606 n_607 n_608 n_609 n_610 g_tape 1 99
        let r_626 : Int32 := w_628.1
        let n_618 : Int32 := w_628.2.1
        let n_619 : Int32 := w_628.2.2.1
        let n_620 : Int32 := w_628.2.2.2.1
        let n_621 : Int32 := w_628.2.2.2.2.1
        let n_622 : Int32 := w_628.2.2.2.2.2.1
        let n_623 : Int32 := w_628.2.2.2.2.2.2.1
        let n_624 : Int32 := w_628.2.2.2.2.2.2.2.1
        let n_625 : Int64 := w_628.2.2.2.2.2.2.2.2
        let g_635 : Nat → Int32 := (upd g_406 (x_617 : Int32).toNatClampNeg r_626)
        let x_638 : Int32 := (v_405 + 1)
        (F_r_readSeconds_L35a m_textEnd g_tape n9) x_638 g_635 n_618 n_619 n_620 n_621 n_622 n_623 n_624 n_625) else (
        let w_580 := F_r_must_0 v_407 v_408 v_409 v_410
        let n_576 : Int32 := w_580.1
        let n_577 : Int32 := w_580.2
        let x_581 : Int32 := ((1465 : Int32) + v_405)
        let w_592 := F_r_count m_textEnd n_576 n_577 v_409 v_410 v_411 v_412 v_413 v_414 g_tape 1 99
        let r_590 : Int32 := w_592.1
        let n_582 : Int32 := w_592.2.1
        let n_583 : Int32 := w_592.2.2.1
        let n_584 : Int32 := w_592.2.2.2.1
        let n_585 : Int32 := w_592.2.2.2.2.1
        let n_586 : Int32 := w_592.2.2.2.2.2.1
        let n_587 : Int32 := w_592.2.2.2.2.2.2.1
        let n_588 : Int32 := w_592.2.2.2.2.2.2.2.1
        let n_589 : Int64 := w_592.2.2.2.2.2.2.2.2
        let g_599 : Nat → Int32 := (upd g_406 (x_581 : Int32).toNatClampNeg r_590)
        let x_602 : Int32 := (v_405 + 1)
        (F_r_readSeconds_L35a m_textEnd g_tape n9) x_602 g_599 n_582 n_583 n_584 n_585 n_586 n_587 n_588 n_589))) := rfl
noncomputable def F_r_readSeconds (m_textEnd : Int32) (m_bad : Int32) (m_badAt : Int32) (m_token : Int32) (m_at : Int32) (m_behind : Int32) (m_number : Int32) (m_letters : Int32) (m_word : Int64) (m_hasSeconds : Int32) (g_tape : Nat → Int32) (g_c : Nat → Int32) : Int32 × Int32 × Int32 × Int32 × Int32 × Int32 × Int32 × Int64 × Int32 × (Nat → Int32) :=
  if m_hasSeconds = 0 then (
    let w_13 := F_r_next2 m_textEnd m_behind m_number m_letters m_word g_tape
    let n_5 : Int32 := w_13.1
    let n_6 : Int32 := w_13.2.1
    let n_7 : Int32 := w_13.2.2.1
    let n_8 : Int32 := w_13.2.2.2.1
    let n_9 : Int32 := w_13.2.2.2.2.1
    let n_10 : Int64 := w_13.2.2.2.2.2
    F_r_readSeconds_L35a m_textEnd g_tape ((2147483647 - (0 : Int32).toInt).toNat + 1) (0 : Int32) g_c m_bad m_badAt n_5 n_6 n_7 n_8 n_9 n_10) else (
    let w_646 := F_r_fail m_bad m_badAt 5 m_at
    let n_642 : Int32 := w_646.1
    let n_643 : Int32 := w_646.2
    (n_642, n_643, m_token, m_at, m_behind, m_number, m_letters, m_word, m_hasSeconds, g_c))
theorem F_r_readSeconds_s (m_textEnd : Int32) (m_bad : Int32) (m_badAt : Int32) (m_token : Int32) (m_at : Int32) (m_behind : Int32) (m_number : Int32) (m_letters : Int32) (m_word : Int64) (m_hasSeconds : Int32) (g_tape : Nat → Int32) (g_c : Nat → Int32) : F_r_readSeconds m_textEnd m_bad m_badAt m_token m_at m_behind m_number m_letters m_word m_hasSeconds g_tape g_c = (
  if m_hasSeconds = 0 then (
    let w_13 := F_r_next2 m_textEnd m_behind m_number m_letters m_word g_tape
    let n_5 : Int32 := w_13.1
    let n_6 : Int32 := w_13.2.1
    let n_7 : Int32 := w_13.2.2.1
    let n_8 : Int32 := w_13.2.2.2.1
    let n_9 : Int32 := w_13.2.2.2.2.1
    let n_10 : Int64 := w_13.2.2.2.2.2
    F_r_readSeconds_L35a m_textEnd g_tape ((2147483647 - (0 : Int32).toInt).toNat + 1) (0 : Int32) g_c m_bad m_badAt n_5 n_6 n_7 n_8 n_9 n_10) else (
    let w_646 := F_r_fail m_bad m_badAt 5 m_at
    let n_642 : Int32 := w_646.1
    let n_643 : Int32 := w_646.2
    (n_642, n_643, m_token, m_at, m_behind, m_number, m_letters, m_word, m_hasSeconds, g_c))) := rfl
noncomputable def F_r_readTurned (m_textEnd : Int32) (m_bad : Int32) (m_badAt : Int32) (m_token : Int32) (m_at : Int32) (m_behind : Int32) (m_number : Int32) (m_letters : Int32) (m_word : Int64) (m_hasTurned : Int32) (g_tape : Nat → Int32) (g_c : Nat → Int32) : Int32 × Int32 × Int32 × Int32 × Int32 × Int32 × Int32 × Int64 × Int32 × (Nat → Int32) :=
  if m_hasTurned = 0 then (
    let w_13 := F_r_next2 m_textEnd m_behind m_number m_letters m_word g_tape
    let n_5 : Int32 := w_13.1
    let n_6 : Int32 := w_13.2.1
    let n_7 : Int32 := w_13.2.2.1
    let n_8 : Int32 := w_13.2.2.2.1
    let n_9 : Int32 := w_13.2.2.2.2.1
    let n_10 : Int64 := w_13.2.2.2.2.2
    let w_26 := F_r_count m_textEnd m_bad m_badAt n_5 n_6 n_7 n_8 n_9 n_10 g_tape 0 16
    let r_24 : Int32 := w_26.1
    let n_16 : Int32 := w_26.2.1
    let n_17 : Int32 := w_26.2.2.1
    let n_18 : Int32 := w_26.2.2.2.1
    let n_19 : Int32 := w_26.2.2.2.2.1
    let n_20 : Int32 := w_26.2.2.2.2.2.1
    let n_21 : Int32 := w_26.2.2.2.2.2.2.1
    let n_22 : Int32 := w_26.2.2.2.2.2.2.2.1
    let n_23 : Int64 := w_26.2.2.2.2.2.2.2.2
    let g_33 : Nat → Int32 := (upd g_c (1469 : Int32).toNatClampNeg r_24)
    (n_16, n_17, n_18, n_19, n_20, n_21, n_22, n_23, (1 : Int32), g_33)) else (
    let w_42 := F_r_fail m_bad m_badAt 5 m_at
    let n_38 : Int32 := w_42.1
    let n_39 : Int32 := w_42.2
    (n_38, n_39, m_token, m_at, m_behind, m_number, m_letters, m_word, m_hasTurned, g_c))
theorem F_r_readTurned_s (m_textEnd : Int32) (m_bad : Int32) (m_badAt : Int32) (m_token : Int32) (m_at : Int32) (m_behind : Int32) (m_number : Int32) (m_letters : Int32) (m_word : Int64) (m_hasTurned : Int32) (g_tape : Nat → Int32) (g_c : Nat → Int32) : F_r_readTurned m_textEnd m_bad m_badAt m_token m_at m_behind m_number m_letters m_word m_hasTurned g_tape g_c = (
  if m_hasTurned = 0 then (
    let w_13 := F_r_next2 m_textEnd m_behind m_number m_letters m_word g_tape
    let n_5 : Int32 := w_13.1
    let n_6 : Int32 := w_13.2.1
    let n_7 : Int32 := w_13.2.2.1
    let n_8 : Int32 := w_13.2.2.2.1
    let n_9 : Int32 := w_13.2.2.2.2.1
    let n_10 : Int64 := w_13.2.2.2.2.2
    let w_26 := F_r_count m_textEnd m_bad m_badAt n_5 n_6 n_7 n_8 n_9 n_10 g_tape 0 16
    let r_24 : Int32 := w_26.1
    let n_16 : Int32 := w_26.2.1
    let n_17 : Int32 := w_26.2.2.1
    let n_18 : Int32 := w_26.2.2.2.1
    let n_19 : Int32 := w_26.2.2.2.2.1
    let n_20 : Int32 := w_26.2.2.2.2.2.1
    let n_21 : Int32 := w_26.2.2.2.2.2.2.1
    let n_22 : Int32 := w_26.2.2.2.2.2.2.2.1
    let n_23 : Int64 := w_26.2.2.2.2.2.2.2.2
    let g_33 : Nat → Int32 := (upd g_c (1469 : Int32).toNatClampNeg r_24)
    (n_16, n_17, n_18, n_19, n_20, n_21, n_22, n_23, (1 : Int32), g_33)) else (
    let w_42 := F_r_fail m_bad m_badAt 5 m_at
    let n_38 : Int32 := w_42.1
    let n_39 : Int32 := w_42.2
    (n_38, n_39, m_token, m_at, m_behind, m_number, m_letters, m_word, m_hasTurned, g_c))) := rfl
noncomputable def F_r_readRound_L35a (m_textEnd : Int32) (g_tape : Nat → Int32) (g_words : Nat → Int64) : Nat → Int32 → (Nat → Int32) → Int32 → Int32 → Int32 → Int32 → Int32 → Int32 → Int32 → Int64 → (Int32 × Int32 × Int32 × Int32 × Int32 × Int32 × Int32 × Int64 × Int32 × (Nat → Int32)) := fun k9 => Nat.rec (motive := fun _ => Int32 → (Nat → Int32) → Int32 → Int32 → Int32 → Int32 → Int32 → Int32 → Int32 → Int64 → (Int32 × Int32 × Int32 × Int32 × Int32 × Int32 × Int32 × Int64 × Int32 × (Nat → Int32))) (fun _ _ _ _ _ _ _ _ _ _ => default) (fun _ (G_L35a : Int32 → (Nat → Int32) → Int32 → Int32 → Int32 → Int32 → Int32 → Int32 → Int32 → Int64 → (Int32 × Int32 × Int32 × Int32 × Int32 × Int32 × Int32 × Int64 × Int32 × (Nat → Int32))) => fun (v_135 : Int32) (g_136 : Nat → Int32) (v_137 : Int32) (v_138 : Int32) (v_139 : Int32) (v_140 : Int32) (v_141 : Int32) (v_142 : Int32) (v_143 : Int32) (v_144 : Int64) =>
    if v_135 = 0 then (
      (v_137, v_138, v_139, v_140, v_141, v_142, v_143, v_144, (1 : Int32), g_136)) else (
      let w_273 := F_r_readOld_3 v_137 v_138 v_139 v_140 v_143 v_144 g_136 g_words
      let r_271 : Int32 := w_273.1
      let n_269 : Int32 := w_273.2.1
      let n_270 : Int32 := w_273.2.2
      if n_269 = 0 then (
        let x_283 : Int32 := (g_136 (1464 : Int32).toNatClampNeg)
        if x_283 = 12 then (
          let w_319 := F_r_fail n_269 n_270 6 v_140
          let n_315 : Int32 := w_319.1
          let n_316 : Int32 := w_319.2
          (n_315, n_316, v_139, v_140, v_141, v_142, v_143, v_144, (1 : Int32), g_136)) else (
          let x_288 : Int32 := (g_136 (1464 : Int32).toNatClampNeg)
          let x_289 : Int32 := ((1598 : Int32) + x_288)
          let g_290 : Nat → Int32 := (upd g_136 (x_289 : Int32).toNatClampNeg r_271)
          let x_293 : Int32 := (g_290 (1464 : Int32).toNatClampNeg)
          let x_294 : Int32 := (x_293 + 1)
          let g_295 : Nat → Int32 := (upd g_290 (1464 : Int32).toNatClampNeg x_294)
          let w_306 := F_r_next2 m_textEnd v_141 v_142 v_143 v_144 g_tape
          let n_298 : Int32 := w_306.1
          let n_299 : Int32 := w_306.2.1
          let n_300 : Int32 := w_306.2.2.1
          let n_301 : Int32 := w_306.2.2.2.1
          let n_302 : Int32 := w_306.2.2.2.2.1
          let n_303 : Int64 := w_306.2.2.2.2.2
          if n_298 = 1 then (
            G_L35a 1 g_295 n_269 n_270 n_298 n_299 n_300 n_301 n_302 n_303) else (
            G_L35a 0 g_295 n_269 n_270 n_298 n_299 n_300 n_301 n_302 n_303))) else (
        (n_269, n_270, v_139, v_140, v_141, v_142, v_143, v_144, (1 : Int32), g_136)))) k9
theorem F_r_readRound_L35a_s (m_textEnd : Int32) (g_tape : Nat → Int32) (g_words : Nat → Int64) (n9 : Nat) (v_135 : Int32) (g_136 : Nat → Int32) (v_137 : Int32) (v_138 : Int32) (v_139 : Int32) (v_140 : Int32) (v_141 : Int32) (v_142 : Int32) (v_143 : Int32) (v_144 : Int64) : F_r_readRound_L35a m_textEnd g_tape g_words (n9 + 1) v_135 g_136 v_137 v_138 v_139 v_140 v_141 v_142 v_143 v_144 = (
    if v_135 = 0 then (
      (v_137, v_138, v_139, v_140, v_141, v_142, v_143, v_144, (1 : Int32), g_136)) else (
      let w_273 := F_r_readOld_3 v_137 v_138 v_139 v_140 v_143 v_144 g_136 g_words
      let r_271 : Int32 := w_273.1
      let n_269 : Int32 := w_273.2.1
      let n_270 : Int32 := w_273.2.2
      if n_269 = 0 then (
        let x_283 : Int32 := (g_136 (1464 : Int32).toNatClampNeg)
        if x_283 = 12 then (
          let w_319 := F_r_fail n_269 n_270 6 v_140
          let n_315 : Int32 := w_319.1
          let n_316 : Int32 := w_319.2
          (n_315, n_316, v_139, v_140, v_141, v_142, v_143, v_144, (1 : Int32), g_136)) else (
          let x_288 : Int32 := (g_136 (1464 : Int32).toNatClampNeg)
          let x_289 : Int32 := ((1598 : Int32) + x_288)
          let g_290 : Nat → Int32 := (upd g_136 (x_289 : Int32).toNatClampNeg r_271)
          let x_293 : Int32 := (g_290 (1464 : Int32).toNatClampNeg)
          let x_294 : Int32 := (x_293 + 1)
          let g_295 : Nat → Int32 := (upd g_290 (1464 : Int32).toNatClampNeg x_294)
          let w_306 := F_r_next2 m_textEnd v_141 v_142 v_143 v_144 g_tape
          let n_298 : Int32 := w_306.1
          let n_299 : Int32 := w_306.2.1
          let n_300 : Int32 := w_306.2.2.1
          let n_301 : Int32 := w_306.2.2.2.1
          let n_302 : Int32 := w_306.2.2.2.2.1
          let n_303 : Int64 := w_306.2.2.2.2.2
          if n_298 = 1 then (
            (F_r_readRound_L35a m_textEnd g_tape g_words n9) 1 g_295 n_269 n_270 n_298 n_299 n_300 n_301 n_302 n_303) else (
            (F_r_readRound_L35a m_textEnd g_tape g_words n9) 0 g_295 n_269 n_270 n_298 n_299 n_300 n_301 n_302 n_303))) else (
        (n_269, n_270, v_139, v_140, v_141, v_142, v_143, v_144, (1 : Int32), g_136)))) := rfl
noncomputable def F_r_readRound (m_textEnd : Int32) (m_bad : Int32) (m_badAt : Int32) (m_token : Int32) (m_at : Int32) (m_behind : Int32) (m_number : Int32) (m_letters : Int32) (m_word : Int64) (m_hasRound : Int32) (g_tape : Nat → Int32) (g_c : Nat → Int32) (g_words : Nat → Int64) : Int32 × Int32 × Int32 × Int32 × Int32 × Int32 × Int32 × Int64 × Int32 × (Nat → Int32) :=
  if m_hasRound = 0 then (
    let w_13 := F_r_next2 m_textEnd m_behind m_number m_letters m_word g_tape
    let n_5 : Int32 := w_13.1
    let n_6 : Int32 := w_13.2.1
    let n_7 : Int32 := w_13.2.2.1
    let n_8 : Int32 := w_13.2.2.2.1
    let n_9 : Int32 := w_13.2.2.2.2.1
    let n_10 : Int64 := w_13.2.2.2.2.2
    F_r_readRound_L35a m_textEnd g_tape g_words ((900 - n_7.toInt + (1 : Int32).toInt).toNat + 1) (1 : Int32) g_c m_bad m_badAt n_5 n_6 n_7 n_8 n_9 n_10) else (
    let w_330 := F_r_fail m_bad m_badAt 5 m_at
    let n_326 : Int32 := w_330.1
    let n_327 : Int32 := w_330.2
    (n_326, n_327, m_token, m_at, m_behind, m_number, m_letters, m_word, m_hasRound, g_c))
theorem F_r_readRound_s (m_textEnd : Int32) (m_bad : Int32) (m_badAt : Int32) (m_token : Int32) (m_at : Int32) (m_behind : Int32) (m_number : Int32) (m_letters : Int32) (m_word : Int64) (m_hasRound : Int32) (g_tape : Nat → Int32) (g_c : Nat → Int32) (g_words : Nat → Int64) : F_r_readRound m_textEnd m_bad m_badAt m_token m_at m_behind m_number m_letters m_word m_hasRound g_tape g_c g_words = (
  if m_hasRound = 0 then (
    let w_13 := F_r_next2 m_textEnd m_behind m_number m_letters m_word g_tape
    let n_5 : Int32 := w_13.1
    let n_6 : Int32 := w_13.2.1
    let n_7 : Int32 := w_13.2.2.1
    let n_8 : Int32 := w_13.2.2.2.1
    let n_9 : Int32 := w_13.2.2.2.2.1
    let n_10 : Int64 := w_13.2.2.2.2.2
    F_r_readRound_L35a m_textEnd g_tape g_words ((900 - n_7.toInt + (1 : Int32).toInt).toNat + 1) (1 : Int32) g_c m_bad m_badAt n_5 n_6 n_7 n_8 n_9 n_10) else (
    let w_330 := F_r_fail m_bad m_badAt 5 m_at
    let n_326 : Int32 := w_330.1
    let n_327 : Int32 := w_330.2
    (n_326, n_327, m_token, m_at, m_behind, m_number, m_letters, m_word, m_hasRound, g_c))) := rfl
noncomputable def F_r_isTurn (m_token : Int32) (m_word : Int64) : Int32 :=
  let w_3 := F_r_spelled 116 117 114 110 0 0
  let r_1 : Int64 := w_3
  let w_6 := F_r_isWord m_token m_word r_1
  let r_4 : Int32 := w_6
  if r_4 = 0 then (
    (0 : Int32)) else
  (
    (1 : Int32))
theorem F_r_isTurn_s (m_token : Int32) (m_word : Int64) : F_r_isTurn m_token m_word = (
  let w_3 := F_r_spelled 116 117 114 110 0 0
  let r_1 : Int64 := w_3
  let w_6 := F_r_isWord m_token m_word r_1
  let r_4 : Int32 := w_6
  if r_4 = 0 then (
    (0 : Int32)) else
  (
    (1 : Int32))) := rfl
noncomputable def F_r_isStop (m_token : Int32) (m_word : Int64) : Int32 :=
  let w_3 := F_r_spelled 115 116 111 112 0 0
  let r_1 : Int64 := w_3
  let w_6 := F_r_isWord m_token m_word r_1
  let r_4 : Int32 := w_6
  if r_4 = 0 then (
    (0 : Int32)) else
  (
    (1 : Int32))
theorem F_r_isStop_s (m_token : Int32) (m_word : Int64) : F_r_isStop m_token m_word = (
  let w_3 := F_r_spelled 115 116 111 112 0 0
  let r_1 : Int64 := w_3
  let w_6 := F_r_isWord m_token m_word r_1
  let r_4 : Int32 := w_6
  if r_4 = 0 then (
    (0 : Int32)) else
  (
    (1 : Int32))) := rfl
noncomputable def F_r_isWhen (m_token : Int32) (m_word : Int64) : Int32 :=
  let w_3 := F_r_spelled 119 104 101 110 0 0
  let r_1 : Int64 := w_3
  let w_6 := F_r_isWord m_token m_word r_1
  let r_4 : Int32 := w_6
  if r_4 = 0 then (
    (0 : Int32)) else
  (
    (1 : Int32))
theorem F_r_isWhen_s (m_token : Int32) (m_word : Int64) : F_r_isWhen m_token m_word = (
  let w_3 := F_r_spelled 119 104 101 110 0 0
  let r_1 : Int64 := w_3
  let w_6 := F_r_isWord m_token m_word r_1
  let r_4 : Int32 := w_6
  if r_4 = 0 then (
    (0 : Int32)) else
  (
    (1 : Int32))) := rfl
noncomputable def F_r_isLoop (m_token : Int32) (m_word : Int64) : Int32 :=
  let w_3 := F_r_spelled 108 111 111 112 0 0
  let r_1 : Int64 := w_3
  let w_6 := F_r_isWord m_token m_word r_1
  let r_4 : Int32 := w_6
  if r_4 = 0 then (
    (0 : Int32)) else
  (
    (1 : Int32))
theorem F_r_isLoop_s (m_token : Int32) (m_word : Int64) : F_r_isLoop m_token m_word = (
  let w_3 := F_r_spelled 108 111 111 112 0 0
  let r_1 : Int64 := w_3
  let w_6 := F_r_isWord m_token m_word r_1
  let r_4 : Int32 := w_6
  if r_4 = 0 then (
    (0 : Int32)) else
  (
    (1 : Int32))) := rfl
noncomputable def F_r_isEnd (m_token : Int32) (m_word : Int64) : Int32 :=
  let w_3 := F_r_spelled 101 110 100 0 0 0
  let r_1 : Int64 := w_3
  let w_6 := F_r_isWord m_token m_word r_1
  let r_4 : Int32 := w_6
  if r_4 = 0 then (
    (0 : Int32)) else
  (
    (1 : Int32))
theorem F_r_isEnd_s (m_token : Int32) (m_word : Int64) : F_r_isEnd m_token m_word = (
  let w_3 := F_r_spelled 101 110 100 0 0 0
  let r_1 : Int64 := w_3
  let w_6 := F_r_isWord m_token m_word r_1
  let r_4 : Int32 := w_6
  if r_4 = 0 then (
    (0 : Int32)) else
  (
    (1 : Int32))) := rfl
noncomputable def F_r_isFelt (m_token : Int32) (m_word : Int64) : Int32 :=
  let w_3 := F_r_spelled 102 101 108 116 0 0
  let r_1 : Int64 := w_3
  let w_6 := F_r_isWord m_token m_word r_1
  let r_4 : Int32 := w_6
  if r_4 = 0 then (
    (0 : Int32)) else
  (
    (1 : Int32))
theorem F_r_isFelt_s (m_token : Int32) (m_word : Int64) : F_r_isFelt m_token m_word = (
  let w_3 := F_r_spelled 102 101 108 116 0 0
  let r_1 : Int64 := w_3
  let w_6 := F_r_isWord m_token m_word r_1
  let r_4 : Int32 := w_6
  if r_4 = 0 then (
    (0 : Int32)) else
  (
    (1 : Int32))) := rfl
noncomputable def F_r_isSure (m_token : Int32) (m_word : Int64) : Int32 :=
  let w_3 := F_r_spelled 115 117 114 101 0 0
  let r_1 : Int64 := w_3
  let w_6 := F_r_isWord m_token m_word r_1
  let r_4 : Int32 := w_6
  if r_4 = 0 then (
    (0 : Int32)) else
  (
    (1 : Int32))
theorem F_r_isSure_s (m_token : Int32) (m_word : Int64) : F_r_isSure m_token m_word = (
  let w_3 := F_r_spelled 115 117 114 101 0 0
  let r_1 : Int64 := w_3
  let w_6 := F_r_isWord m_token m_word r_1
  let r_4 : Int32 := w_6
  if r_4 = 0 then (
    (0 : Int32)) else
  (
    (1 : Int32))) := rfl
noncomputable def F_r_isTried (m_token : Int32) (m_word : Int64) : Int32 :=
  let w_3 := F_r_spelled 116 114 105 101 100 0
  let r_1 : Int64 := w_3
  let w_6 := F_r_isWord m_token m_word r_1
  let r_4 : Int32 := w_6
  if r_4 = 0 then (
    (0 : Int32)) else
  (
    (1 : Int32))
theorem F_r_isTried_s (m_token : Int32) (m_word : Int64) : F_r_isTried m_token m_word = (
  let w_3 := F_r_spelled 116 114 105 101 100 0
  let r_1 : Int64 := w_3
  let w_6 := F_r_isWord m_token m_word r_1
  let r_4 : Int32 := w_6
  if r_4 = 0 then (
    (0 : Int32)) else
  (
    (1 : Int32))) := rfl
noncomputable def F_r_plainStep (m_token : Int32) (m_word : Int64) : Int32 :=
  let w_3 := F_r_houseWord m_token m_word
  let r_1 : Int32 := w_3
  if r_1 = 11 then (
    (0 : Int32)) else (
    if r_1 = 12 then (
      (1 : Int32)) else (
      if r_1 = 13 then (
        (2 : Int32)) else (
        if r_1 = 14 then (
          (4 : Int32)) else (
          let w_15 := F_r_isTurn m_token m_word
          let r_13 : Int32 := w_15
          if r_13 = 0 then (
            let w_19 := F_r_isStop m_token m_word
            let r_17 : Int32 := w_19
            if r_17 = 0 then (
              (-1 : Int32)) else
            (
              (5 : Int32))) else
          (
            (3 : Int32))))))
theorem F_r_plainStep_s (m_token : Int32) (m_word : Int64) : F_r_plainStep m_token m_word = (
  let w_3 := F_r_houseWord m_token m_word
  let r_1 : Int32 := w_3
  if r_1 = 11 then (
    (0 : Int32)) else (
    if r_1 = 12 then (
      (1 : Int32)) else (
      if r_1 = 13 then (
        (2 : Int32)) else (
        if r_1 = 14 then (
          (4 : Int32)) else (
          let w_15 := F_r_isTurn m_token m_word
          let r_13 : Int32 := w_15
          if r_13 = 0 then (
            let w_19 := F_r_isStop m_token m_word
            let r_17 : Int32 := w_19
            if r_17 = 0 then (
              (-1 : Int32)) else
            (
              (5 : Int32))) else
          (
            (3 : Int32))))))) := rfl
noncomputable def F_r_readFeatureName (m_textEnd : Int32) (m_bad : Int32) (m_badAt : Int32) (m_token : Int32) (m_at : Int32) (m_behind : Int32) (m_number : Int32) (m_letters : Int32) (m_word : Int64) (g_tape : Nat → Int32) (g_c : Nat → Int32) (g_words : Nat → Int64) : Int32 × Int32 × Int32 × Int32 × Int32 × Int32 × Int64 × Int32 × Int32 :=
  if m_bad = 0 then (
    let w_23 := F_r_isHouseName m_token m_letters m_word
    let r_21 : Int32 := w_23
    if r_21 = 0 then (
      let w_28 := F_r_wrong m_bad m_badAt m_token m_at
      let n_24 : Int32 := w_28.1
      let n_25 : Int32 := w_28.2
      let w_41 := F_r_must_1 m_textEnd n_24 m_token m_at m_behind m_number m_letters m_word g_tape
      let n_33 : Int32 := w_41.1
      let n_34 : Int32 := w_41.2.1
      let n_35 : Int32 := w_41.2.2.1
      let n_36 : Int32 := w_41.2.2.2.1
      let n_37 : Int32 := w_41.2.2.2.2.1
      let n_38 : Int64 := w_41.2.2.2.2.2
      ((0 : Int32), n_33, n_34, n_35, n_36, n_37, n_38, n_24, n_25)) else
    (
      let x_48 : Int32 := (g_c (0 : Int32).toNatClampNeg)
      let w_51 := F_r_named_0_0 m_word g_words x_48
      let r_49 : Int32 := w_51
      if 0 ≤ r_49 then (
        let w_65 := F_r_must_1 m_textEnd m_bad m_token m_at m_behind m_number m_letters m_word g_tape
        let n_57 : Int32 := w_65.1
        let n_58 : Int32 := w_65.2.1
        let n_59 : Int32 := w_65.2.2.1
        let n_60 : Int32 := w_65.2.2.2.1
        let n_61 : Int32 := w_65.2.2.2.2.1
        let n_62 : Int64 := w_65.2.2.2.2.2
        (r_49, n_57, n_58, n_59, n_60, n_61, n_62, m_bad, m_badAt)) else (
        let w_75 := F_r_fail m_bad m_badAt 3 m_at
        let n_71 : Int32 := w_75.1
        let n_72 : Int32 := w_75.2
        let w_85 := F_r_must_1 m_textEnd n_71 m_token m_at m_behind m_number m_letters m_word g_tape
        let n_77 : Int32 := w_85.1
        let n_78 : Int32 := w_85.2.1
        let n_79 : Int32 := w_85.2.2.1
        let n_80 : Int32 := w_85.2.2.2.1
        let n_81 : Int32 := w_85.2.2.2.2.1
        let n_82 : Int64 := w_85.2.2.2.2.2
        (r_49, n_77, n_78, n_79, n_80, n_81, n_82, n_71, n_72)))) else (
    let w_15 := F_r_must_1 m_textEnd m_bad m_token m_at m_behind m_number m_letters m_word g_tape
    let n_7 : Int32 := w_15.1
    let n_8 : Int32 := w_15.2.1
    let n_9 : Int32 := w_15.2.2.1
    let n_10 : Int32 := w_15.2.2.2.1
    let n_11 : Int32 := w_15.2.2.2.2.1
    let n_12 : Int64 := w_15.2.2.2.2.2
    ((0 : Int32), n_7, n_8, n_9, n_10, n_11, n_12, m_bad, m_badAt))
theorem F_r_readFeatureName_s (m_textEnd : Int32) (m_bad : Int32) (m_badAt : Int32) (m_token : Int32) (m_at : Int32) (m_behind : Int32) (m_number : Int32) (m_letters : Int32) (m_word : Int64) (g_tape : Nat → Int32) (g_c : Nat → Int32) (g_words : Nat → Int64) : F_r_readFeatureName m_textEnd m_bad m_badAt m_token m_at m_behind m_number m_letters m_word g_tape g_c g_words = (
  if m_bad = 0 then (
    let w_23 := F_r_isHouseName m_token m_letters m_word
    let r_21 : Int32 := w_23
    if r_21 = 0 then (
      let w_28 := F_r_wrong m_bad m_badAt m_token m_at
      let n_24 : Int32 := w_28.1
      let n_25 : Int32 := w_28.2
      let w_41 := F_r_must_1 m_textEnd n_24 m_token m_at m_behind m_number m_letters m_word g_tape
      let n_33 : Int32 := w_41.1
      let n_34 : Int32 := w_41.2.1
      let n_35 : Int32 := w_41.2.2.1
      let n_36 : Int32 := w_41.2.2.2.1
      let n_37 : Int32 := w_41.2.2.2.2.1
      let n_38 : Int64 := w_41.2.2.2.2.2
      ((0 : Int32), n_33, n_34, n_35, n_36, n_37, n_38, n_24, n_25)) else
    (
      let x_48 : Int32 := (g_c (0 : Int32).toNatClampNeg)
      let w_51 := F_r_named_0_0 m_word g_words x_48
      let r_49 : Int32 := w_51
      if 0 ≤ r_49 then (
        let w_65 := F_r_must_1 m_textEnd m_bad m_token m_at m_behind m_number m_letters m_word g_tape
        let n_57 : Int32 := w_65.1
        let n_58 : Int32 := w_65.2.1
        let n_59 : Int32 := w_65.2.2.1
        let n_60 : Int32 := w_65.2.2.2.1
        let n_61 : Int32 := w_65.2.2.2.2.1
        let n_62 : Int64 := w_65.2.2.2.2.2
        (r_49, n_57, n_58, n_59, n_60, n_61, n_62, m_bad, m_badAt)) else (
        let w_75 := F_r_fail m_bad m_badAt 3 m_at
        let n_71 : Int32 := w_75.1
        let n_72 : Int32 := w_75.2
        let w_85 := F_r_must_1 m_textEnd n_71 m_token m_at m_behind m_number m_letters m_word g_tape
        let n_77 : Int32 := w_85.1
        let n_78 : Int32 := w_85.2.1
        let n_79 : Int32 := w_85.2.2.1
        let n_80 : Int32 := w_85.2.2.2.1
        let n_81 : Int32 := w_85.2.2.2.2.1
        let n_82 : Int64 := w_85.2.2.2.2.2
        (r_49, n_77, n_78, n_79, n_80, n_81, n_82, n_71, n_72)))) else (
    let w_15 := F_r_must_1 m_textEnd m_bad m_token m_at m_behind m_number m_letters m_word g_tape
    let n_7 : Int32 := w_15.1
    let n_8 : Int32 := w_15.2.1
    let n_9 : Int32 := w_15.2.2.1
    let n_10 : Int32 := w_15.2.2.2.1
    let n_11 : Int32 := w_15.2.2.2.2.1
    let n_12 : Int64 := w_15.2.2.2.2.2
    ((0 : Int32), n_7, n_8, n_9, n_10, n_11, n_12, m_bad, m_badAt))) := rfl
noncomputable def F_r_readWhen (m_textEnd : Int32) (m_bad : Int32) (m_badAt : Int32) (m_behind : Int32) (m_number : Int32) (m_letters : Int32) (m_word : Int64) (g_tape : Nat → Int32) (g_c : Nat → Int32) (g_words : Nat → Int64) (w : Int32) : Int32 × Int32 × Int32 × Int32 × Int32 × Int32 × Int32 × Int64 × (Nat → Int32) :=
  let w_9 := F_r_next2 m_textEnd m_behind m_number m_letters m_word g_tape
  let n_1 : Int32 := w_9.1
  let n_2 : Int32 := w_9.2.1
  let n_3 : Int32 := w_9.2.2.1
  let n_4 : Int32 := w_9.2.2.2.1
  let n_5 : Int32 := w_9.2.2.2.2.1
  let n_6 : Int64 := w_9.2.2.2.2.2
  let w_14 := F_r_isFelt n_1 n_6
  let r_12 : Int32 := w_14
  if r_12 = 0 then (
    let w_18 := F_r_isSure n_1 n_6
    let r_16 : Int32 := w_18
    if r_16 = 0 then (
      let g_20 : Nat → Int32 := (upd g_c (w : Int32).toNatClampNeg 8)
      let w_23 := F_r_isTried n_1 n_6
      let r_21 : Int32 := w_23
      if r_21 = 0 then (
        let w_29 := F_r_must_0 m_bad m_badAt n_1 n_2
        let n_25 : Int32 := w_29.1
        let n_26 : Int32 := w_29.2
        (n_25, n_26, n_1, n_2, n_3, n_4, n_5, n_6, g_20)) else
      (
        let w_39 := F_r_must_1 m_textEnd m_bad n_1 n_2 n_3 n_4 n_5 n_6 g_tape
        let n_31 : Int32 := w_39.1
        let n_32 : Int32 := w_39.2.1
        let n_33 : Int32 := w_39.2.2.1
        let n_34 : Int32 := w_39.2.2.2.1
        let n_35 : Int32 := w_39.2.2.2.2.1
        let n_36 : Int64 := w_39.2.2.2.2.2
        (m_bad, m_badAt, n_31, n_32, n_33, n_34, n_35, n_36, g_20))) else
    (
      let w_52 := F_r_next2 m_textEnd n_3 n_4 n_5 n_6 g_tape
      let n_44 : Int32 := w_52.1
      let n_45 : Int32 := w_52.2.1
      let n_46 : Int32 := w_52.2.2.1
      let n_47 : Int32 := w_52.2.2.2.1
      let n_48 : Int32 := w_52.2.2.2.2.1
      let n_49 : Int64 := w_52.2.2.2.2.2
      let g_55 : Nat → Int32 := (upd g_c (w : Int32).toNatClampNeg 7)
      let x_56 : Int32 := (w + 3)
      let w_67 := F_r_count m_textEnd m_bad m_badAt n_44 n_45 n_46 n_47 n_48 n_49 g_tape 0 16
      let r_65 : Int32 := w_67.1
      let n_57 : Int32 := w_67.2.1
      let n_58 : Int32 := w_67.2.2.1
      let n_59 : Int32 := w_67.2.2.2.1
      let n_60 : Int32 := w_67.2.2.2.2.1
      let n_61 : Int32 := w_67.2.2.2.2.2.1
      let n_62 : Int32 := w_67.2.2.2.2.2.2.1
      let n_63 : Int32 := w_67.2.2.2.2.2.2.2.1
      let n_64 : Int64 := w_67.2.2.2.2.2.2.2.2
      let g_74 : Nat → Int32 := (upd g_55 (x_56 : Int32).toNatClampNeg r_65)
      (n_57, n_58, n_59, n_60, n_61, n_62, n_63, n_64, g_74))) else
  (
    let w_84 := F_r_next2 m_textEnd n_3 n_4 n_5 n_6 g_tape
    let n_76 : Int32 := w_84.1
    let n_77 : Int32 := w_84.2.1
    let n_78 : Int32 := w_84.2.2.1
    let n_79 : Int32 := w_84.2.2.2.1
    let n_80 : Int32 := w_84.2.2.2.2.1
    let n_81 : Int64 := w_84.2.2.2.2.2
    let g_87 : Nat → Int32 := (upd g_c (w : Int32).toNatClampNeg 6)
    let x_88 : Int32 := (w + 1)
    let w_99 := F_r_readFeatureName m_textEnd m_bad m_badAt n_76 n_77 n_78 n_79 n_80 n_81 g_tape g_87 g_words
    let r_97 : Int32 := w_99.1
    let n_89 : Int32 := w_99.2.1
    let n_90 : Int32 := w_99.2.2.1
    let n_91 : Int32 := w_99.2.2.2.1
    let n_92 : Int32 := w_99.2.2.2.2.1
    let n_93 : Int32 := w_99.2.2.2.2.2.1
    let n_94 : Int64 := w_99.2.2.2.2.2.2.1
    let n_95 : Int32 := w_99.2.2.2.2.2.2.2.1
    let n_96 : Int32 := w_99.2.2.2.2.2.2.2.2
    let g_103 : Nat → Int32 := (upd g_87 (x_88 : Int32).toNatClampNeg r_97)
    if n_89 = 3 then (
      let w_253 := F_r_isSign n_89 n_92 60
      let r_251 : Int32 := w_253
      if r_251 = 0 then (
        let w_258 := F_r_isSign n_89 n_92 62
        let r_256 : Int32 := w_258
        if r_256 = 0 then (
          let w_263 := F_r_isSign n_89 n_92 61
          let r_261 : Int32 := w_263
          if r_261 = 0 then (
            let w_270 := F_r_must_0 n_95 n_96 n_89 n_90
            let n_266 : Int32 := w_270.1
            let n_267 : Int32 := w_270.2
            let x_271 : Int32 := (w + 2)
            let g_272 : Nat → Int32 := (upd g_103 (x_271 : Int32).toNatClampNeg n_92)
            let x_273 : Int32 := (w + 3)
            let w_284 := F_r_count m_textEnd n_266 n_267 n_89 n_90 n_91 n_92 n_93 n_94 g_tape 0 3
            let r_282 : Int32 := w_284.1
            let n_274 : Int32 := w_284.2.1
            let n_275 : Int32 := w_284.2.2.1
            let n_276 : Int32 := w_284.2.2.2.1
            let n_277 : Int32 := w_284.2.2.2.2.1
            let n_278 : Int32 := w_284.2.2.2.2.2.1
            let n_279 : Int32 := w_284.2.2.2.2.2.2.1
            let n_280 : Int32 := w_284.2.2.2.2.2.2.2.1
            let n_281 : Int64 := w_284.2.2.2.2.2.2.2.2
            let g_291 : Nat → Int32 := (upd g_272 (x_273 : Int32).toNatClampNeg r_282)
            (n_274, n_275, n_276, n_277, n_278, n_279, n_280, n_281, g_291)) else
          (
            let w_301 := F_r_must_1 m_textEnd n_95 n_89 n_90 n_91 n_92 n_93 n_94 g_tape
            let n_293 : Int32 := w_301.1
            let n_294 : Int32 := w_301.2.1
            let n_295 : Int32 := w_301.2.2.1
            let n_296 : Int32 := w_301.2.2.2.1
            let n_297 : Int32 := w_301.2.2.2.2.1
            let n_298 : Int64 := w_301.2.2.2.2.2
            let x_305 : Int32 := (w + 2)
            let g_306 : Nat → Int32 := (upd g_103 (x_305 : Int32).toNatClampNeg n_92)
            let x_307 : Int32 := (w + 3)
            let w_318 := F_r_count m_textEnd n_95 n_96 n_293 n_294 n_295 n_296 n_297 n_298 g_tape 0 3
            let r_316 : Int32 := w_318.1
            let n_308 : Int32 := w_318.2.1
            let n_309 : Int32 := w_318.2.2.1
            let n_310 : Int32 := w_318.2.2.2.1
            let n_311 : Int32 := w_318.2.2.2.2.1
            let n_312 : Int32 := w_318.2.2.2.2.2.1
            let n_313 : Int32 := w_318.2.2.2.2.2.2.1
            let n_314 : Int32 := w_318.2.2.2.2.2.2.2.1
            let n_315 : Int64 := w_318.2.2.2.2.2.2.2.2
            let g_325 : Nat → Int32 := (upd g_306 (x_307 : Int32).toNatClampNeg r_316)
            (n_308, n_309, n_310, n_311, n_312, n_313, n_314, n_315, g_325))) else
        (
          let w_335 := F_r_must_1 m_textEnd n_95 n_89 n_90 n_91 n_92 n_93 n_94 g_tape
          let n_327 : Int32 := w_335.1
          let n_328 : Int32 := w_335.2.1
          let n_329 : Int32 := w_335.2.2.1
          let n_330 : Int32 := w_335.2.2.2.1
          let n_331 : Int32 := w_335.2.2.2.2.1
          let n_332 : Int64 := w_335.2.2.2.2.2
          let x_339 : Int32 := (w + 2)
          let g_340 : Nat → Int32 := (upd g_103 (x_339 : Int32).toNatClampNeg n_92)
          let x_341 : Int32 := (w + 3)
          let w_352 := F_r_count m_textEnd n_95 n_96 n_327 n_328 n_329 n_330 n_331 n_332 g_tape 0 3
          let r_350 : Int32 := w_352.1
          let n_342 : Int32 := w_352.2.1
          let n_343 : Int32 := w_352.2.2.1
          let n_344 : Int32 := w_352.2.2.2.1
          let n_345 : Int32 := w_352.2.2.2.2.1
          let n_346 : Int32 := w_352.2.2.2.2.2.1
          let n_347 : Int32 := w_352.2.2.2.2.2.2.1
          let n_348 : Int32 := w_352.2.2.2.2.2.2.2.1
          let n_349 : Int64 := w_352.2.2.2.2.2.2.2.2
          let g_359 : Nat → Int32 := (upd g_340 (x_341 : Int32).toNatClampNeg r_350)
          (n_342, n_343, n_344, n_345, n_346, n_347, n_348, n_349, g_359))) else
      (
        let w_369 := F_r_must_1 m_textEnd n_95 n_89 n_90 n_91 n_92 n_93 n_94 g_tape
        let n_361 : Int32 := w_369.1
        let n_362 : Int32 := w_369.2.1
        let n_363 : Int32 := w_369.2.2.1
        let n_364 : Int32 := w_369.2.2.2.1
        let n_365 : Int32 := w_369.2.2.2.2.1
        let n_366 : Int64 := w_369.2.2.2.2.2
        let x_373 : Int32 := (w + 2)
        let g_374 : Nat → Int32 := (upd g_103 (x_373 : Int32).toNatClampNeg n_92)
        let x_375 : Int32 := (w + 3)
        let w_386 := F_r_count m_textEnd n_95 n_96 n_361 n_362 n_363 n_364 n_365 n_366 g_tape 0 3
        let r_384 : Int32 := w_386.1
        let n_376 : Int32 := w_386.2.1
        let n_377 : Int32 := w_386.2.2.1
        let n_378 : Int32 := w_386.2.2.2.1
        let n_379 : Int32 := w_386.2.2.2.2.1
        let n_380 : Int32 := w_386.2.2.2.2.2.1
        let n_381 : Int32 := w_386.2.2.2.2.2.2.1
        let n_382 : Int32 := w_386.2.2.2.2.2.2.2.1
        let n_383 : Int64 := w_386.2.2.2.2.2.2.2.2
        let g_393 : Nat → Int32 := (upd g_374 (x_375 : Int32).toNatClampNeg r_384)
        (n_376, n_377, n_378, n_379, n_380, n_381, n_382, n_383, g_393))) else (
      let w_108 := F_r_isSign n_89 n_92 60
      let r_106 : Int32 := w_108
      if r_106 = 0 then (
        let w_113 := F_r_isSign n_89 n_92 62
        let r_111 : Int32 := w_113
        if r_111 = 0 then (
          let w_118 := F_r_isSign n_89 n_92 61
          let r_116 : Int32 := w_118
          if r_116 = 0 then (
            let w_125 := F_r_must_0 n_95 n_96 n_89 n_90
            let n_121 : Int32 := w_125.1
            let n_122 : Int32 := w_125.2
            let x_126 : Int32 := (w + 2)
            let g_127 : Nat → Int32 := (upd g_103 (x_126 : Int32).toNatClampNeg 0)
            let x_128 : Int32 := (w + 3)
            let w_139 := F_r_count m_textEnd n_121 n_122 n_89 n_90 n_91 n_92 n_93 n_94 g_tape 0 3
            let r_137 : Int32 := w_139.1
            let n_129 : Int32 := w_139.2.1
            let n_130 : Int32 := w_139.2.2.1
            let n_131 : Int32 := w_139.2.2.2.1
            let n_132 : Int32 := w_139.2.2.2.2.1
            let n_133 : Int32 := w_139.2.2.2.2.2.1
            let n_134 : Int32 := w_139.2.2.2.2.2.2.1
            let n_135 : Int32 := w_139.2.2.2.2.2.2.2.1
            let n_136 : Int64 := w_139.2.2.2.2.2.2.2.2
            let g_146 : Nat → Int32 := (upd g_127 (x_128 : Int32).toNatClampNeg r_137)
            (n_129, n_130, n_131, n_132, n_133, n_134, n_135, n_136, g_146)) else
          (
            let w_156 := F_r_must_1 m_textEnd n_95 n_89 n_90 n_91 n_92 n_93 n_94 g_tape
            let n_148 : Int32 := w_156.1
            let n_149 : Int32 := w_156.2.1
            let n_150 : Int32 := w_156.2.2.1
            let n_151 : Int32 := w_156.2.2.2.1
            let n_152 : Int32 := w_156.2.2.2.2.1
            let n_153 : Int64 := w_156.2.2.2.2.2
            let x_160 : Int32 := (w + 2)
            let g_161 : Nat → Int32 := (upd g_103 (x_160 : Int32).toNatClampNeg 0)
            let x_162 : Int32 := (w + 3)
            let w_173 := F_r_count m_textEnd n_95 n_96 n_148 n_149 n_150 n_151 n_152 n_153 g_tape 0 3
            let r_171 : Int32 := w_173.1
            let n_163 : Int32 := w_173.2.1
            let n_164 : Int32 := w_173.2.2.1
            let n_165 : Int32 := w_173.2.2.2.1
            let n_166 : Int32 := w_173.2.2.2.2.1
            let n_167 : Int32 := w_173.2.2.2.2.2.1
            let n_168 : Int32 := w_173.2.2.2.2.2.2.1
            let n_169 : Int32 := w_173.2.2.2.2.2.2.2.1
            let n_170 : Int64 := w_173.2.2.2.2.2.2.2.2
            let g_180 : Nat → Int32 := (upd g_161 (x_162 : Int32).toNatClampNeg r_171)
            (n_163, n_164, n_165, n_166, n_167, n_168, n_169, n_170, g_180))) else
        (
          let w_190 := F_r_must_1 m_textEnd n_95 n_89 n_90 n_91 n_92 n_93 n_94 g_tape
          let n_182 : Int32 := w_190.1
          let n_183 : Int32 := w_190.2.1
          let n_184 : Int32 := w_190.2.2.1
          let n_185 : Int32 := w_190.2.2.2.1
          let n_186 : Int32 := w_190.2.2.2.2.1
          let n_187 : Int64 := w_190.2.2.2.2.2
          let x_194 : Int32 := (w + 2)
          let g_195 : Nat → Int32 := (upd g_103 (x_194 : Int32).toNatClampNeg 0)
          let x_196 : Int32 := (w + 3)
          let w_207 := F_r_count m_textEnd n_95 n_96 n_182 n_183 n_184 n_185 n_186 n_187 g_tape 0 3
          let r_205 : Int32 := w_207.1
          let n_197 : Int32 := w_207.2.1
          let n_198 : Int32 := w_207.2.2.1
          let n_199 : Int32 := w_207.2.2.2.1
          let n_200 : Int32 := w_207.2.2.2.2.1
          let n_201 : Int32 := w_207.2.2.2.2.2.1
          let n_202 : Int32 := w_207.2.2.2.2.2.2.1
          let n_203 : Int32 := w_207.2.2.2.2.2.2.2.1
          let n_204 : Int64 := w_207.2.2.2.2.2.2.2.2
          let g_214 : Nat → Int32 := (upd g_195 (x_196 : Int32).toNatClampNeg r_205)
          (n_197, n_198, n_199, n_200, n_201, n_202, n_203, n_204, g_214))) else
      (
        let w_224 := F_r_must_1 m_textEnd n_95 n_89 n_90 n_91 n_92 n_93 n_94 g_tape
        let n_216 : Int32 := w_224.1
        let n_217 : Int32 := w_224.2.1
        let n_218 : Int32 := w_224.2.2.1
        let n_219 : Int32 := w_224.2.2.2.1
        let n_220 : Int32 := w_224.2.2.2.2.1
        let n_221 : Int64 := w_224.2.2.2.2.2
        let x_228 : Int32 := (w + 2)
        let g_229 : Nat → Int32 := (upd g_103 (x_228 : Int32).toNatClampNeg 0)
        let x_230 : Int32 := (w + 3)
        let w_241 := F_r_count m_textEnd n_95 n_96 n_216 n_217 n_218 n_219 n_220 n_221 g_tape 0 3
        let r_239 : Int32 := w_241.1
        let n_231 : Int32 := w_241.2.1
        let n_232 : Int32 := w_241.2.2.1
        let n_233 : Int32 := w_241.2.2.2.1
        let n_234 : Int32 := w_241.2.2.2.2.1
        let n_235 : Int32 := w_241.2.2.2.2.2.1
        let n_236 : Int32 := w_241.2.2.2.2.2.2.1
        let n_237 : Int32 := w_241.2.2.2.2.2.2.2.1
        let n_238 : Int64 := w_241.2.2.2.2.2.2.2.2
        let g_248 : Nat → Int32 := (upd g_229 (x_230 : Int32).toNatClampNeg r_239)
        (n_231, n_232, n_233, n_234, n_235, n_236, n_237, n_238, g_248))))
theorem F_r_readWhen_s (m_textEnd : Int32) (m_bad : Int32) (m_badAt : Int32) (m_behind : Int32) (m_number : Int32) (m_letters : Int32) (m_word : Int64) (g_tape : Nat → Int32) (g_c : Nat → Int32) (g_words : Nat → Int64) (w : Int32) : F_r_readWhen m_textEnd m_bad m_badAt m_behind m_number m_letters m_word g_tape g_c g_words w = (
  let w_9 := F_r_next2 m_textEnd m_behind m_number m_letters m_word g_tape
  let n_1 : Int32 := w_9.1
  let n_2 : Int32 := w_9.2.1
  let n_3 : Int32 := w_9.2.2.1
  let n_4 : Int32 := w_9.2.2.2.1
  let n_5 : Int32 := w_9.2.2.2.2.1
  let n_6 : Int64 := w_9.2.2.2.2.2
  let w_14 := F_r_isFelt n_1 n_6
  let r_12 : Int32 := w_14
  if r_12 = 0 then (
    let w_18 := F_r_isSure n_1 n_6
    let r_16 : Int32 := w_18
    if r_16 = 0 then (
      let g_20 : Nat → Int32 := (upd g_c (w : Int32).toNatClampNeg 8)
      let w_23 := F_r_isTried n_1 n_6
      let r_21 : Int32 := w_23
      if r_21 = 0 then (
        let w_29 := F_r_must_0 m_bad m_badAt n_1 n_2
        let n_25 : Int32 := w_29.1
        let n_26 : Int32 := w_29.2
        (n_25, n_26, n_1, n_2, n_3, n_4, n_5, n_6, g_20)) else
      (
        let w_39 := F_r_must_1 m_textEnd m_bad n_1 n_2 n_3 n_4 n_5 n_6 g_tape
        let n_31 : Int32 := w_39.1
        let n_32 : Int32 := w_39.2.1
        let n_33 : Int32 := w_39.2.2.1
        let n_34 : Int32 := w_39.2.2.2.1
        let n_35 : Int32 := w_39.2.2.2.2.1
        let n_36 : Int64 := w_39.2.2.2.2.2
        (m_bad, m_badAt, n_31, n_32, n_33, n_34, n_35, n_36, g_20))) else
    (
      let w_52 := F_r_next2 m_textEnd n_3 n_4 n_5 n_6 g_tape
      let n_44 : Int32 := w_52.1
      let n_45 : Int32 := w_52.2.1
      let n_46 : Int32 := w_52.2.2.1
      let n_47 : Int32 := w_52.2.2.2.1
      let n_48 : Int32 := w_52.2.2.2.2.1
      let n_49 : Int64 := w_52.2.2.2.2.2
      let g_55 : Nat → Int32 := (upd g_c (w : Int32).toNatClampNeg 7)
      let x_56 : Int32 := (w + 3)
      let w_67 := F_r_count m_textEnd m_bad m_badAt n_44 n_45 n_46 n_47 n_48 n_49 g_tape 0 16
      let r_65 : Int32 := w_67.1
      let n_57 : Int32 := w_67.2.1
      let n_58 : Int32 := w_67.2.2.1
      let n_59 : Int32 := w_67.2.2.2.1
      let n_60 : Int32 := w_67.2.2.2.2.1
      let n_61 : Int32 := w_67.2.2.2.2.2.1
      let n_62 : Int32 := w_67.2.2.2.2.2.2.1
      let n_63 : Int32 := w_67.2.2.2.2.2.2.2.1
      let n_64 : Int64 := w_67.2.2.2.2.2.2.2.2
      let g_74 : Nat → Int32 := (upd g_55 (x_56 : Int32).toNatClampNeg r_65)
      (n_57, n_58, n_59, n_60, n_61, n_62, n_63, n_64, g_74))) else
  (
    let w_84 := F_r_next2 m_textEnd n_3 n_4 n_5 n_6 g_tape
    let n_76 : Int32 := w_84.1
    let n_77 : Int32 := w_84.2.1
    let n_78 : Int32 := w_84.2.2.1
    let n_79 : Int32 := w_84.2.2.2.1
    let n_80 : Int32 := w_84.2.2.2.2.1
    let n_81 : Int64 := w_84.2.2.2.2.2
    let g_87 : Nat → Int32 := (upd g_c (w : Int32).toNatClampNeg 6)
    let x_88 : Int32 := (w + 1)
    let w_99 := F_r_readFeatureName m_textEnd m_bad m_badAt n_76 n_77 n_78 n_79 n_80 n_81 g_tape g_87 g_words
    let r_97 : Int32 := w_99.1
    let n_89 : Int32 := w_99.2.1
    let n_90 : Int32 := w_99.2.2.1
    let n_91 : Int32 := w_99.2.2.2.1
    let n_92 : Int32 := w_99.2.2.2.2.1
    let n_93 : Int32 := w_99.2.2.2.2.2.1
    let n_94 : Int64 := w_99.2.2.2.2.2.2.1
    let n_95 : Int32 := w_99.2.2.2.2.2.2.2.1
    let n_96 : Int32 := w_99.2.2.2.2.2.2.2.2
    let g_103 : Nat → Int32 := (upd g_87 (x_88 : Int32).toNatClampNeg r_97)
    if n_89 = 3 then (
      let w_253 := F_r_isSign n_89 n_92 60
      let r_251 : Int32 := w_253
      if r_251 = 0 then (
        let w_258 := F_r_isSign n_89 n_92 62
        let r_256 : Int32 := w_258
        if r_256 = 0 then (
          let w_263 := F_r_isSign n_89 n_92 61
          let r_261 : Int32 := w_263
          if r_261 = 0 then (
            let w_270 := F_r_must_0 n_95 n_96 n_89 n_90
            let n_266 : Int32 := w_270.1
            let n_267 : Int32 := w_270.2
            let x_271 : Int32 := (w + 2)
            let g_272 : Nat → Int32 := (upd g_103 (x_271 : Int32).toNatClampNeg n_92)
            let x_273 : Int32 := (w + 3)
            let w_284 := F_r_count m_textEnd n_266 n_267 n_89 n_90 n_91 n_92 n_93 n_94 g_tape 0 3
            let r_282 : Int32 := w_284.1
            let n_274 : Int32 := w_284.2.1
            let n_275 : Int32 := w_284.2.2.1
            let n_276 : Int32 := w_284.2.2.2.1
            let n_277 : Int32 := w_284.2.2.2.2.1
            let n_278 : Int32 := w_284.2.2.2.2.2.1
            let n_279 : Int32 := w_284.2.2.2.2.2.2.1
            let n_280 : Int32 := w_284.2.2.2.2.2.2.2.1
            let n_281 : Int64 := w_284.2.2.2.2.2.2.2.2
            let g_291 : Nat → Int32 := (upd g_272 (x_273 : Int32).toNatClampNeg r_282)
            (n_274, n_275, n_276, n_277, n_278, n_279, n_280, n_281, g_291)) else
          (
            let w_301 := F_r_must_1 m_textEnd n_95 n_89 n_90 n_91 n_92 n_93 n_94 g_tape
            let n_293 : Int32 := w_301.1
            let n_294 : Int32 := w_301.2.1
            let n_295 : Int32 := w_301.2.2.1
            let n_296 : Int32 := w_301.2.2.2.1
            let n_297 : Int32 := w_301.2.2.2.2.1
            let n_298 : Int64 := w_301.2.2.2.2.2
            let x_305 : Int32 := (w + 2)
            let g_306 : Nat → Int32 := (upd g_103 (x_305 : Int32).toNatClampNeg n_92)
            let x_307 : Int32 := (w + 3)
            let w_318 := F_r_count m_textEnd n_95 n_96 n_293 n_294 n_295 n_296 n_297 n_298 g_tape 0 3
            let r_316 : Int32 := w_318.1
            let n_308 : Int32 := w_318.2.1
            let n_309 : Int32 := w_318.2.2.1
            let n_310 : Int32 := w_318.2.2.2.1
            let n_311 : Int32 := w_318.2.2.2.2.1
            let n_312 : Int32 := w_318.2.2.2.2.2.1
            let n_313 : Int32 := w_318.2.2.2.2.2.2.1
            let n_314 : Int32 := w_318.2.2.2.2.2.2.2.1
            let n_315 : Int64 := w_318.2.2.2.2.2.2.2.2
            let g_325 : Nat → Int32 := (upd g_306 (x_307 : Int32).toNatClampNeg r_316)
            (n_308, n_309, n_310, n_311, n_312, n_313, n_314, n_315, g_325))) else
        (
          let w_335 := F_r_must_1 m_textEnd n_95 n_89 n_90 n_91 n_92 n_93 n_94 g_tape
          let n_327 : Int32 := w_335.1
          let n_328 : Int32 := w_335.2.1
          let n_329 : Int32 := w_335.2.2.1
          let n_330 : Int32 := w_335.2.2.2.1
          let n_331 : Int32 := w_335.2.2.2.2.1
          let n_332 : Int64 := w_335.2.2.2.2.2
          let x_339 : Int32 := (w + 2)
          let g_340 : Nat → Int32 := (upd g_103 (x_339 : Int32).toNatClampNeg n_92)
          let x_341 : Int32 := (w + 3)
          let w_352 := F_r_count m_textEnd n_95 n_96 n_327 n_328 n_329 n_330 n_331 n_332 g_tape 0 3
          let r_350 : Int32 := w_352.1
          let n_342 : Int32 := w_352.2.1
          let n_343 : Int32 := w_352.2.2.1
          let n_344 : Int32 := w_352.2.2.2.1
          let n_345 : Int32 := w_352.2.2.2.2.1
          let n_346 : Int32 := w_352.2.2.2.2.2.1
          let n_347 : Int32 := w_352.2.2.2.2.2.2.1
          let n_348 : Int32 := w_352.2.2.2.2.2.2.2.1
          let n_349 : Int64 := w_352.2.2.2.2.2.2.2.2
          let g_359 : Nat → Int32 := (upd g_340 (x_341 : Int32).toNatClampNeg r_350)
          (n_342, n_343, n_344, n_345, n_346, n_347, n_348, n_349, g_359))) else
      (
        let w_369 := F_r_must_1 m_textEnd n_95 n_89 n_90 n_91 n_92 n_93 n_94 g_tape
        let n_361 : Int32 := w_369.1
        let n_362 : Int32 := w_369.2.1
        let n_363 : Int32 := w_369.2.2.1
        let n_364 : Int32 := w_369.2.2.2.1
        let n_365 : Int32 := w_369.2.2.2.2.1
        let n_366 : Int64 := w_369.2.2.2.2.2
        let x_373 : Int32 := (w + 2)
        let g_374 : Nat → Int32 := (upd g_103 (x_373 : Int32).toNatClampNeg n_92)
        let x_375 : Int32 := (w + 3)
        let w_386 := F_r_count m_textEnd n_95 n_96 n_361 n_362 n_363 n_364 n_365 n_366 g_tape 0 3
        let r_384 : Int32 := w_386.1
        let n_376 : Int32 := w_386.2.1
        let n_377 : Int32 := w_386.2.2.1
        let n_378 : Int32 := w_386.2.2.2.1
        let n_379 : Int32 := w_386.2.2.2.2.1
        let n_380 : Int32 := w_386.2.2.2.2.2.1
        let n_381 : Int32 := w_386.2.2.2.2.2.2.1
        let n_382 : Int32 := w_386.2.2.2.2.2.2.2.1
        let n_383 : Int64 := w_386.2.2.2.2.2.2.2.2
        let g_393 : Nat → Int32 := (upd g_374 (x_375 : Int32).toNatClampNeg r_384)
        (n_376, n_377, n_378, n_379, n_380, n_381, n_382, n_383, g_393))) else (
      let w_108 := F_r_isSign n_89 n_92 60
      let r_106 : Int32 := w_108
      if r_106 = 0 then (
        let w_113 := F_r_isSign n_89 n_92 62
        let r_111 : Int32 := w_113
        if r_111 = 0 then (
          let w_118 := F_r_isSign n_89 n_92 61
          let r_116 : Int32 := w_118
          if r_116 = 0 then (
            let w_125 := F_r_must_0 n_95 n_96 n_89 n_90
            let n_121 : Int32 := w_125.1
            let n_122 : Int32 := w_125.2
            let x_126 : Int32 := (w + 2)
            let g_127 : Nat → Int32 := (upd g_103 (x_126 : Int32).toNatClampNeg 0)
            let x_128 : Int32 := (w + 3)
            let w_139 := F_r_count m_textEnd n_121 n_122 n_89 n_90 n_91 n_92 n_93 n_94 g_tape 0 3
            let r_137 : Int32 := w_139.1
            let n_129 : Int32 := w_139.2.1
            let n_130 : Int32 := w_139.2.2.1
            let n_131 : Int32 := w_139.2.2.2.1
            let n_132 : Int32 := w_139.2.2.2.2.1
            let n_133 : Int32 := w_139.2.2.2.2.2.1
            let n_134 : Int32 := w_139.2.2.2.2.2.2.1
            let n_135 : Int32 := w_139.2.2.2.2.2.2.2.1
            let n_136 : Int64 := w_139.2.2.2.2.2.2.2.2
            let g_146 : Nat → Int32 := (upd g_127 (x_128 : Int32).toNatClampNeg r_137)
            (n_129, n_130, n_131, n_132, n_133, n_134, n_135, n_136, g_146)) else
          (
            let w_156 := F_r_must_1 m_textEnd n_95 n_89 n_90 n_91 n_92 n_93 n_94 g_tape
            let n_148 : Int32 := w_156.1
            let n_149 : Int32 := w_156.2.1
            let n_150 : Int32 := w_156.2.2.1
            let n_151 : Int32 := w_156.2.2.2.1
            let n_152 : Int32 := w_156.2.2.2.2.1
            let n_153 : Int64 := w_156.2.2.2.2.2
            let x_160 : Int32 := (w + 2)
            let g_161 : Nat → Int32 := (upd g_103 (x_160 : Int32).toNatClampNeg 0)
            let x_162 : Int32 := (w + 3)
            let w_173 := F_r_count m_textEnd n_95 n_96 n_148 n_149 n_150 n_151 n_152 n_153 g_tape 0 3
            let r_171 : Int32 := w_173.1
            let n_163 : Int32 := w_173.2.1
            let n_164 : Int32 := w_173.2.2.1
            let n_165 : Int32 := w_173.2.2.2.1
            let n_166 : Int32 := w_173.2.2.2.2.1
            let n_167 : Int32 := w_173.2.2.2.2.2.1
            let n_168 : Int32 := w_173.2.2.2.2.2.2.1
            let n_169 : Int32 := w_173.2.2.2.2.2.2.2.1
            let n_170 : Int64 := w_173.2.2.2.2.2.2.2.2
            let g_180 : Nat → Int32 := (upd g_161 (x_162 : Int32).toNatClampNeg r_171)
            (n_163, n_164, n_165, n_166, n_167, n_168, n_169, n_170, g_180))) else
        (
          let w_190 := F_r_must_1 m_textEnd n_95 n_89 n_90 n_91 n_92 n_93 n_94 g_tape
          let n_182 : Int32 := w_190.1
          let n_183 : Int32 := w_190.2.1
          let n_184 : Int32 := w_190.2.2.1
          let n_185 : Int32 := w_190.2.2.2.1
          let n_186 : Int32 := w_190.2.2.2.2.1
          let n_187 : Int64 := w_190.2.2.2.2.2
          let x_194 : Int32 := (w + 2)
          let g_195 : Nat → Int32 := (upd g_103 (x_194 : Int32).toNatClampNeg 0)
          let x_196 : Int32 := (w + 3)
          let w_207 := F_r_count m_textEnd n_95 n_96 n_182 n_183 n_184 n_185 n_186 n_187 g_tape 0 3
          let r_205 : Int32 := w_207.1
          let n_197 : Int32 := w_207.2.1
          let n_198 : Int32 := w_207.2.2.1
          let n_199 : Int32 := w_207.2.2.2.1
          let n_200 : Int32 := w_207.2.2.2.2.1
          let n_201 : Int32 := w_207.2.2.2.2.2.1
          let n_202 : Int32 := w_207.2.2.2.2.2.2.1
          let n_203 : Int32 := w_207.2.2.2.2.2.2.2.1
          let n_204 : Int64 := w_207.2.2.2.2.2.2.2.2
          let g_214 : Nat → Int32 := (upd g_195 (x_196 : Int32).toNatClampNeg r_205)
          (n_197, n_198, n_199, n_200, n_201, n_202, n_203, n_204, g_214))) else
      (
        let w_224 := F_r_must_1 m_textEnd n_95 n_89 n_90 n_91 n_92 n_93 n_94 g_tape
        let n_216 : Int32 := w_224.1
        let n_217 : Int32 := w_224.2.1
        let n_218 : Int32 := w_224.2.2.1
        let n_219 : Int32 := w_224.2.2.2.1
        let n_220 : Int32 := w_224.2.2.2.2.1
        let n_221 : Int64 := w_224.2.2.2.2.2
        let x_228 : Int32 := (w + 2)
        let g_229 : Nat → Int32 := (upd g_103 (x_228 : Int32).toNatClampNeg 0)
        let x_230 : Int32 := (w + 3)
        let w_241 := F_r_count m_textEnd n_95 n_96 n_216 n_217 n_218 n_219 n_220 n_221 g_tape 0 3
        let r_239 : Int32 := w_241.1
        let n_231 : Int32 := w_241.2.1
        let n_232 : Int32 := w_241.2.2.1
        let n_233 : Int32 := w_241.2.2.2.1
        let n_234 : Int32 := w_241.2.2.2.2.1
        let n_235 : Int32 := w_241.2.2.2.2.2.1
        let n_236 : Int32 := w_241.2.2.2.2.2.2.1
        let n_237 : Int32 := w_241.2.2.2.2.2.2.2.1
        let n_238 : Int64 := w_241.2.2.2.2.2.2.2.2
        let g_248 : Nat → Int32 := (upd g_229 (x_230 : Int32).toNatClampNeg r_239)
        (n_231, n_232, n_233, n_234, n_235, n_236, n_237, n_238, g_248))))) := rfl
