noncomputable def F_at_3 (c_a : Nat → Int32) (i : Int32) : Int32 :=
  if i < 0 then (
    (-1 : Int32)) else (
    if 3 ≤ i then (
      (-1 : Int32)) else (
      let x_9 : Int32 := (c_a (i : Int32).toNatClampNeg)
      x_9))
theorem F_at_3_s (c_a : Nat → Int32) (i : Int32) : F_at_3 c_a i = (
  if i < 0 then (
    (-1 : Int32)) else (
    if 3 ≤ i then (
      (-1 : Int32)) else (
      let x_9 : Int32 := (c_a (i : Int32).toNatClampNeg)
      x_9))) := rfl
noncomputable def F_keepAt_3 (c_a : Nat → Int32) (i : Int32) (v : Int32) : (Nat → Int32) :=
  if i < 0 then (
    c_a) else (
    if 3 ≤ i then (
      c_a) else (
      let g_9 : Nat → Int32 := (upd c_a (i : Int32).toNatClampNeg v)
      g_9))
theorem F_keepAt_3_s (c_a : Nat → Int32) (i : Int32) (v : Int32) : F_keepAt_3 c_a i v = (
  if i < 0 then (
    c_a) else (
    if 3 ≤ i then (
      c_a) else (
      let g_9 : Nat → Int32 := (upd c_a (i : Int32).toNatClampNeg v)
      g_9))) := rfl
noncomputable def F_at_4 (c_a : Nat → Int32) (i : Int32) : Int32 :=
  if i < 0 then (
    (-1 : Int32)) else (
    if 4 ≤ i then (
      (-1 : Int32)) else (
      let x_9 : Int32 := (c_a (i : Int32).toNatClampNeg)
      x_9))
theorem F_at_4_s (c_a : Nat → Int32) (i : Int32) : F_at_4 c_a i = (
  if i < 0 then (
    (-1 : Int32)) else (
    if 4 ≤ i then (
      (-1 : Int32)) else (
      let x_9 : Int32 := (c_a (i : Int32).toNatClampNeg)
      x_9))) := rfl
noncomputable def F_keepAt_4 (c_a : Nat → Int32) (i : Int32) (v : Int32) : (Nat → Int32) :=
  if i < 0 then (
    c_a) else (
    if 4 ≤ i then (
      c_a) else (
      let g_9 : Nat → Int32 := (upd c_a (i : Int32).toNatClampNeg v)
      g_9))
theorem F_keepAt_4_s (c_a : Nat → Int32) (i : Int32) (v : Int32) : F_keepAt_4 c_a i v = (
  if i < 0 then (
    c_a) else (
    if 4 ≤ i then (
      c_a) else (
      let g_9 : Nat → Int32 := (upd c_a (i : Int32).toNatClampNeg v)
      g_9))) := rfl
noncomputable def F_at_5 (c_a : Nat → Int32) (i : Int32) : Int32 :=
  if i < 0 then (
    (-1 : Int32)) else (
    if 5 ≤ i then (
      (-1 : Int32)) else (
      let x_9 : Int32 := (c_a (i : Int32).toNatClampNeg)
      x_9))
theorem F_at_5_s (c_a : Nat → Int32) (i : Int32) : F_at_5 c_a i = (
  if i < 0 then (
    (-1 : Int32)) else (
    if 5 ≤ i then (
      (-1 : Int32)) else (
      let x_9 : Int32 := (c_a (i : Int32).toNatClampNeg)
      x_9))) := rfl
noncomputable def F_keepAt_5 (c_a : Nat → Int32) (i : Int32) (v : Int32) : (Nat → Int32) :=
  if i < 0 then (
    c_a) else (
    if 5 ≤ i then (
      c_a) else (
      let g_9 : Nat → Int32 := (upd c_a (i : Int32).toNatClampNeg v)
      g_9))
theorem F_keepAt_5_s (c_a : Nat → Int32) (i : Int32) (v : Int32) : F_keepAt_5 c_a i v = (
  if i < 0 then (
    c_a) else (
    if 5 ≤ i then (
      c_a) else (
      let g_9 : Nat → Int32 := (upd c_a (i : Int32).toNatClampNeg v)
      g_9))) := rfl
noncomputable def F_at_7 (c_a : Nat → Int32) (i : Int32) : Int32 :=
  if i < 0 then (
    (-1 : Int32)) else (
    if 7 ≤ i then (
      (-1 : Int32)) else (
      let x_9 : Int32 := (c_a (i : Int32).toNatClampNeg)
      x_9))
theorem F_at_7_s (c_a : Nat → Int32) (i : Int32) : F_at_7 c_a i = (
  if i < 0 then (
    (-1 : Int32)) else (
    if 7 ≤ i then (
      (-1 : Int32)) else (
      let x_9 : Int32 := (c_a (i : Int32).toNatClampNeg)
      x_9))) := rfl
noncomputable def F_keepAt_7 (c_a : Nat → Int32) (i : Int32) (v : Int32) : (Nat → Int32) :=
  if i < 0 then (
    c_a) else (
    if 7 ≤ i then (
      c_a) else (
      let g_9 : Nat → Int32 := (upd c_a (i : Int32).toNatClampNeg v)
      g_9))
theorem F_keepAt_7_s (c_a : Nat → Int32) (i : Int32) (v : Int32) : F_keepAt_7 c_a i v = (
  if i < 0 then (
    c_a) else (
    if 7 ≤ i then (
      c_a) else (
      let g_9 : Nat → Int32 := (upd c_a (i : Int32).toNatClampNeg v)
      g_9))) := rfl
noncomputable def F_at_10 (c_a : Nat → Int32) (i : Int32) : Int32 :=
  if i < 0 then (
    (-1 : Int32)) else (
    if 10 ≤ i then (
      (-1 : Int32)) else (
      let x_9 : Int32 := (c_a (i : Int32).toNatClampNeg)
      x_9))
theorem F_at_10_s (c_a : Nat → Int32) (i : Int32) : F_at_10 c_a i = (
  if i < 0 then (
    (-1 : Int32)) else (
    if 10 ≤ i then (
      (-1 : Int32)) else (
      let x_9 : Int32 := (c_a (i : Int32).toNatClampNeg)
      x_9))) := rfl
noncomputable def F_keepAt_10 (c_a : Nat → Int32) (i : Int32) (v : Int32) : (Nat → Int32) :=
  if i < 0 then (
    c_a) else (
    if 10 ≤ i then (
      c_a) else (
      let g_9 : Nat → Int32 := (upd c_a (i : Int32).toNatClampNeg v)
      g_9))
theorem F_keepAt_10_s (c_a : Nat → Int32) (i : Int32) (v : Int32) : F_keepAt_10 c_a i v = (
  if i < 0 then (
    c_a) else (
    if 10 ≤ i then (
      c_a) else (
      let g_9 : Nat → Int32 := (upd c_a (i : Int32).toNatClampNeg v)
      g_9))) := rfl
noncomputable def F_at_12 (c_a : Nat → Int32) (i : Int32) : Int32 :=
  if i < 0 then (
    (-1 : Int32)) else (
    if 12 ≤ i then (
      (-1 : Int32)) else (
      let x_9 : Int32 := (c_a (i : Int32).toNatClampNeg)
      x_9))
theorem F_at_12_s (c_a : Nat → Int32) (i : Int32) : F_at_12 c_a i = (
  if i < 0 then (
    (-1 : Int32)) else (
    if 12 ≤ i then (
      (-1 : Int32)) else (
      let x_9 : Int32 := (c_a (i : Int32).toNatClampNeg)
      x_9))) := rfl
noncomputable def F_keepAt_12 (c_a : Nat → Int32) (i : Int32) (v : Int32) : (Nat → Int32) :=
  if i < 0 then (
    c_a) else (
    if 12 ≤ i then (
      c_a) else (
      let g_9 : Nat → Int32 := (upd c_a (i : Int32).toNatClampNeg v)
      g_9))
theorem F_keepAt_12_s (c_a : Nat → Int32) (i : Int32) (v : Int32) : F_keepAt_12 c_a i v = (
  if i < 0 then (
    c_a) else (
    if 12 ≤ i then (
      c_a) else (
      let g_9 : Nat → Int32 := (upd c_a (i : Int32).toNatClampNeg v)
      g_9))) := rfl
noncomputable def F_at_20 (c_a : Nat → Int32) (i : Int32) : Int32 :=
  if i < 0 then (
    (-1 : Int32)) else (
    if 20 ≤ i then (
      (-1 : Int32)) else (
      let x_9 : Int32 := (c_a (i : Int32).toNatClampNeg)
      x_9))
theorem F_at_20_s (c_a : Nat → Int32) (i : Int32) : F_at_20 c_a i = (
  if i < 0 then (
    (-1 : Int32)) else (
    if 20 ≤ i then (
      (-1 : Int32)) else (
      let x_9 : Int32 := (c_a (i : Int32).toNatClampNeg)
      x_9))) := rfl
noncomputable def F_keepAt_20 (c_a : Nat → Int32) (i : Int32) (v : Int32) : (Nat → Int32) :=
  if i < 0 then (
    c_a) else (
    if 20 ≤ i then (
      c_a) else (
      let g_9 : Nat → Int32 := (upd c_a (i : Int32).toNatClampNeg v)
      g_9))
theorem F_keepAt_20_s (c_a : Nat → Int32) (i : Int32) (v : Int32) : F_keepAt_20 c_a i v = (
  if i < 0 then (
    c_a) else (
    if 20 ≤ i then (
      c_a) else (
      let g_9 : Nat → Int32 := (upd c_a (i : Int32).toNatClampNeg v)
      g_9))) := rfl
noncomputable def F_at_30 (c_a : Nat → Int32) (i : Int32) : Int32 :=
  if i < 0 then (
    (-1 : Int32)) else (
    if 30 ≤ i then (
      (-1 : Int32)) else (
      let x_9 : Int32 := (c_a (i : Int32).toNatClampNeg)
      x_9))
theorem F_at_30_s (c_a : Nat → Int32) (i : Int32) : F_at_30 c_a i = (
  if i < 0 then (
    (-1 : Int32)) else (
    if 30 ≤ i then (
      (-1 : Int32)) else (
      let x_9 : Int32 := (c_a (i : Int32).toNatClampNeg)
      x_9))) := rfl
noncomputable def F_keepAt_30 (c_a : Nat → Int32) (i : Int32) (v : Int32) : (Nat → Int32) :=
  if i < 0 then (
    c_a) else (
    if 30 ≤ i then (
      c_a) else (
      let g_9 : Nat → Int32 := (upd c_a (i : Int32).toNatClampNeg v)
      g_9))
theorem F_keepAt_30_s (c_a : Nat → Int32) (i : Int32) (v : Int32) : F_keepAt_30 c_a i v = (
  if i < 0 then (
    c_a) else (
    if 30 ≤ i then (
      c_a) else (
      let g_9 : Nat → Int32 := (upd c_a (i : Int32).toNatClampNeg v)
      g_9))) := rfl
noncomputable def F_at_48 (c_a : Nat → Int32) (i : Int32) : Int32 :=
  if i < 0 then (
    (-1 : Int32)) else (
    if 48 ≤ i then (
      (-1 : Int32)) else (
      let x_9 : Int32 := (c_a (i : Int32).toNatClampNeg)
      x_9))
theorem F_at_48_s (c_a : Nat → Int32) (i : Int32) : F_at_48 c_a i = (
  if i < 0 then (
    (-1 : Int32)) else (
    if 48 ≤ i then (
      (-1 : Int32)) else (
      let x_9 : Int32 := (c_a (i : Int32).toNatClampNeg)
      x_9))) := rfl
noncomputable def F_keepAt_48 (c_a : Nat → Int32) (i : Int32) (v : Int32) : (Nat → Int32) :=
  if i < 0 then (
    c_a) else (
    if 48 ≤ i then (
      c_a) else (
      let g_9 : Nat → Int32 := (upd c_a (i : Int32).toNatClampNeg v)
      g_9))
theorem F_keepAt_48_s (c_a : Nat → Int32) (i : Int32) (v : Int32) : F_keepAt_48 c_a i v = (
  if i < 0 then (
    c_a) else (
    if 48 ≤ i then (
      c_a) else (
      let g_9 : Nat → Int32 := (upd c_a (i : Int32).toNatClampNeg v)
      g_9))) := rfl
noncomputable def F_at_60 (c_a : Nat → Int32) (i : Int32) : Int32 :=
  if i < 0 then (
    (-1 : Int32)) else (
    if 60 ≤ i then (
      (-1 : Int32)) else (
      let x_9 : Int32 := (c_a (i : Int32).toNatClampNeg)
      x_9))
theorem F_at_60_s (c_a : Nat → Int32) (i : Int32) : F_at_60 c_a i = (
  if i < 0 then (
    (-1 : Int32)) else (
    if 60 ≤ i then (
      (-1 : Int32)) else (
      let x_9 : Int32 := (c_a (i : Int32).toNatClampNeg)
      x_9))) := rfl
noncomputable def F_keepAt_60 (c_a : Nat → Int32) (i : Int32) (v : Int32) : (Nat → Int32) :=
  if i < 0 then (
    c_a) else (
    if 60 ≤ i then (
      c_a) else (
      let g_9 : Nat → Int32 := (upd c_a (i : Int32).toNatClampNeg v)
      g_9))
theorem F_keepAt_60_s (c_a : Nat → Int32) (i : Int32) (v : Int32) : F_keepAt_60 c_a i v = (
  if i < 0 then (
    c_a) else (
    if 60 ≤ i then (
      c_a) else (
      let g_9 : Nat → Int32 := (upd c_a (i : Int32).toNatClampNeg v)
      g_9))) := rfl
noncomputable def F_longAt_3 (c_a : Nat → Int64) (i : Int32) : Int64 :=
  if i < 0 then (
    (0 : Int64)) else (
    if 3 ≤ i then (
      (0 : Int64)) else (
      let x_9 : Int64 := (c_a (i : Int32).toNatClampNeg)
      x_9))
theorem F_longAt_3_s (c_a : Nat → Int64) (i : Int32) : F_longAt_3 c_a i = (
  if i < 0 then (
    (0 : Int64)) else (
    if 3 ≤ i then (
      (0 : Int64)) else (
      let x_9 : Int64 := (c_a (i : Int32).toNatClampNeg)
      x_9))) := rfl
noncomputable def F_keepLongAt_3 (c_a : Nat → Int64) (i : Int32) (v : Int64) : (Nat → Int64) :=
  if i < 0 then (
    c_a) else (
    if 3 ≤ i then (
      c_a) else (
      let g_9 : Nat → Int64 := (vp_updL c_a (i : Int32).toNatClampNeg v)
      g_9))
theorem F_keepLongAt_3_s (c_a : Nat → Int64) (i : Int32) (v : Int64) : F_keepLongAt_3 c_a i v = (
  if i < 0 then (
    c_a) else (
    if 3 ≤ i then (
      c_a) else (
      let g_9 : Nat → Int64 := (vp_updL c_a (i : Int32).toNatClampNeg v)
      g_9))) := rfl
noncomputable def F_longAt_5 (c_a : Nat → Int64) (i : Int32) : Int64 :=
  if i < 0 then (
    (0 : Int64)) else (
    if 5 ≤ i then (
      (0 : Int64)) else (
      let x_9 : Int64 := (c_a (i : Int32).toNatClampNeg)
      x_9))
theorem F_longAt_5_s (c_a : Nat → Int64) (i : Int32) : F_longAt_5 c_a i = (
  if i < 0 then (
    (0 : Int64)) else (
    if 5 ≤ i then (
      (0 : Int64)) else (
      let x_9 : Int64 := (c_a (i : Int32).toNatClampNeg)
      x_9))) := rfl
noncomputable def F_keepLongAt_5 (c_a : Nat → Int64) (i : Int32) (v : Int64) : (Nat → Int64) :=
  if i < 0 then (
    c_a) else (
    if 5 ≤ i then (
      c_a) else (
      let g_9 : Nat → Int64 := (vp_updL c_a (i : Int32).toNatClampNeg v)
      g_9))
theorem F_keepLongAt_5_s (c_a : Nat → Int64) (i : Int32) (v : Int64) : F_keepLongAt_5 c_a i v = (
  if i < 0 then (
    c_a) else (
    if 5 ≤ i then (
      c_a) else (
      let g_9 : Nat → Int64 := (vp_updL c_a (i : Int32).toNatClampNeg v)
      g_9))) := rfl
noncomputable def F_longAt_10 (c_a : Nat → Int64) (i : Int32) : Int64 :=
  if i < 0 then (
    (0 : Int64)) else (
    if 10 ≤ i then (
      (0 : Int64)) else (
      let x_9 : Int64 := (c_a (i : Int32).toNatClampNeg)
      x_9))
theorem F_longAt_10_s (c_a : Nat → Int64) (i : Int32) : F_longAt_10 c_a i = (
  if i < 0 then (
    (0 : Int64)) else (
    if 10 ≤ i then (
      (0 : Int64)) else (
      let x_9 : Int64 := (c_a (i : Int32).toNatClampNeg)
      x_9))) := rfl
noncomputable def F_keepLongAt_10 (c_a : Nat → Int64) (i : Int32) (v : Int64) : (Nat → Int64) :=
  if i < 0 then (
    c_a) else (
    if 10 ≤ i then (
      c_a) else (
      let g_9 : Nat → Int64 := (vp_updL c_a (i : Int32).toNatClampNeg v)
      g_9))
theorem F_keepLongAt_10_s (c_a : Nat → Int64) (i : Int32) (v : Int64) : F_keepLongAt_10 c_a i v = (
  if i < 0 then (
    c_a) else (
    if 10 ≤ i then (
      c_a) else (
      let g_9 : Nat → Int64 := (vp_updL c_a (i : Int32).toNatClampNeg v)
      g_9))) := rfl
noncomputable def F_longAt_20 (c_a : Nat → Int64) (i : Int32) : Int64 :=
  if i < 0 then (
    (0 : Int64)) else (
    if 20 ≤ i then (
      (0 : Int64)) else (
      let x_9 : Int64 := (c_a (i : Int32).toNatClampNeg)
      x_9))
theorem F_longAt_20_s (c_a : Nat → Int64) (i : Int32) : F_longAt_20 c_a i = (
  if i < 0 then (
    (0 : Int64)) else (
    if 20 ≤ i then (
      (0 : Int64)) else (
      let x_9 : Int64 := (c_a (i : Int32).toNatClampNeg)
      x_9))) := rfl
noncomputable def F_keepLongAt_20 (c_a : Nat → Int64) (i : Int32) (v : Int64) : (Nat → Int64) :=
  if i < 0 then (
    c_a) else (
    if 20 ≤ i then (
      c_a) else (
      let g_9 : Nat → Int64 := (vp_updL c_a (i : Int32).toNatClampNeg v)
      g_9))
theorem F_keepLongAt_20_s (c_a : Nat → Int64) (i : Int32) (v : Int64) : F_keepLongAt_20 c_a i v = (
  if i < 0 then (
    c_a) else (
    if 20 ≤ i then (
      c_a) else (
      let g_9 : Nat → Int64 := (vp_updL c_a (i : Int32).toNatClampNeg v)
      g_9))) := rfl
noncomputable def F_longAt_60 (c_a : Nat → Int64) (i : Int32) : Int64 :=
  if i < 0 then (
    (0 : Int64)) else (
    if 60 ≤ i then (
      (0 : Int64)) else (
      let x_9 : Int64 := (c_a (i : Int32).toNatClampNeg)
      x_9))
theorem F_longAt_60_s (c_a : Nat → Int64) (i : Int32) : F_longAt_60 c_a i = (
  if i < 0 then (
    (0 : Int64)) else (
    if 60 ≤ i then (
      (0 : Int64)) else (
      let x_9 : Int64 := (c_a (i : Int32).toNatClampNeg)
      x_9))) := rfl
noncomputable def F_keepLongAt_60 (c_a : Nat → Int64) (i : Int32) (v : Int64) : (Nat → Int64) :=
  if i < 0 then (
    c_a) else (
    if 60 ≤ i then (
      c_a) else (
      let g_9 : Nat → Int64 := (vp_updL c_a (i : Int32).toNatClampNeg v)
      g_9))
theorem F_keepLongAt_60_s (c_a : Nat → Int64) (i : Int32) (v : Int64) : F_keepLongAt_60 c_a i v = (
  if i < 0 then (
    c_a) else (
    if 60 ≤ i then (
      c_a) else (
      let g_9 : Nat → Int64 := (vp_updL c_a (i : Int32).toNatClampNeg v)
      g_9))) := rfl
noncomputable def F_longAt_100 (c_a : Nat → Int64) (i : Int32) : Int64 :=
  if i < 0 then (
    (0 : Int64)) else (
    if 100 ≤ i then (
      (0 : Int64)) else (
      let x_9 : Int64 := (c_a (i : Int32).toNatClampNeg)
      x_9))
theorem F_longAt_100_s (c_a : Nat → Int64) (i : Int32) : F_longAt_100 c_a i = (
  if i < 0 then (
    (0 : Int64)) else (
    if 100 ≤ i then (
      (0 : Int64)) else (
      let x_9 : Int64 := (c_a (i : Int32).toNatClampNeg)
      x_9))) := rfl
noncomputable def F_keepLongAt_100 (c_a : Nat → Int64) (i : Int32) (v : Int64) : (Nat → Int64) :=
  if i < 0 then (
    c_a) else (
    if 100 ≤ i then (
      c_a) else (
      let g_9 : Nat → Int64 := (vp_updL c_a (i : Int32).toNatClampNeg v)
      g_9))
theorem F_keepLongAt_100_s (c_a : Nat → Int64) (i : Int32) (v : Int64) : F_keepLongAt_100 c_a i v = (
  if i < 0 then (
    c_a) else (
    if 100 ≤ i then (
      c_a) else (
      let g_9 : Nat → Int64 := (vp_updL c_a (i : Int32).toNatClampNeg v)
      g_9))) := rfl
noncomputable def F_H_hasFeature (h_features : Int32) (k : Int32) : Int32 :=
  if k < 0 then (
    (0 : Int32)) else (
    if h_features ≤ k then (
      (0 : Int32)) else (
      (1 : Int32)))
theorem F_H_hasFeature_s (h_features : Int32) (k : Int32) : F_H_hasFeature h_features k = (
  if k < 0 then (
    (0 : Int32)) else (
    if h_features ≤ k then (
      (0 : Int32)) else (
      (1 : Int32)))) := rfl
noncomputable def F_H_hasKey (h_keys : Int32) (k : Int32) : Int32 :=
  if k < 0 then (
    (0 : Int32)) else (
    if h_keys ≤ k then (
      (0 : Int32)) else (
      (1 : Int32)))
theorem F_H_hasKey_s (h_keys : Int32) (k : Int32) : F_H_hasKey h_keys k = (
  if k < 0 then (
    (0 : Int32)) else (
    if h_keys ≤ k then (
      (0 : Int32)) else (
      (1 : Int32)))) := rfl
noncomputable def F_H_hasDoor (h_doors : Int32) (k : Int32) : Int32 :=
  if k < 0 then (
    (0 : Int32)) else (
    if h_doors ≤ k then (
      (0 : Int32)) else (
      (1 : Int32)))
theorem F_H_hasDoor_s (h_doors : Int32) (k : Int32) : F_H_hasDoor h_doors k = (
  if k < 0 then (
    (0 : Int32)) else (
    if h_doors ≤ k then (
      (0 : Int32)) else (
      (1 : Int32)))) := rfl
noncomputable def F_H_hasRing (h_rings : Int32) (k : Int32) : Int32 :=
  if k < 0 then (
    (0 : Int32)) else (
    if h_rings ≤ k then (
      (0 : Int32)) else (
      (1 : Int32)))
theorem F_H_hasRing_s (h_rings : Int32) (k : Int32) : F_H_hasRing h_rings k = (
  if k < 0 then (
    (0 : Int32)) else (
    if h_rings ≤ k then (
      (0 : Int32)) else (
      (1 : Int32)))) := rfl
noncomputable def F_H_stepsOf (h_features : Int32) (c_h_steps : Nat → Int32) (k : Int32) : Int32 :=
  let w_3 := F_H_hasFeature h_features k
  let r_1 : Int32 := w_3
  if r_1 = 0 then (
    (0 : Int32)) else (
    let w_10 := F_at_3 c_h_steps k
    let r_8 : Int32 := w_10
    r_8)
theorem F_H_stepsOf_s (h_features : Int32) (c_h_steps : Nat → Int32) (k : Int32) : F_H_stepsOf h_features c_h_steps k = (
  let w_3 := F_H_hasFeature h_features k
  let r_1 : Int32 := w_3
  if r_1 = 0 then (
    (0 : Int32)) else (
    let w_10 := F_at_3 c_h_steps k
    let r_8 : Int32 := w_10
    r_8)) := rfl
noncomputable def F_H_hasStep (h_features : Int32) (c_h_steps : Nat → Int32) (k : Int32) (j : Int32) : Int32 :=
  if j < 0 then (
    (0 : Int32)) else (
    let w_7 := F_H_stepsOf h_features c_h_steps k
    let r_5 : Int32 := w_7
    if r_5 ≤ j then (
      (0 : Int32)) else (
      (1 : Int32)))
theorem F_H_hasStep_s (h_features : Int32) (c_h_steps : Nat → Int32) (k : Int32) (j : Int32) : F_H_hasStep h_features c_h_steps k j = (
  if j < 0 then (
    (0 : Int32)) else (
    let w_7 := F_H_stepsOf h_features c_h_steps k
    let r_5 : Int32 := w_7
    if r_5 ≤ j then (
      (0 : Int32)) else (
      (1 : Int32)))) := rfl
noncomputable def F_H_isTurned (h_features : Int32) (c_h_turnedFeatures : Nat → Int32) (k : Int32) : Int32 :=
  let w_3 := F_H_hasFeature h_features k
  let r_1 : Int32 := w_3
  if r_1 = 0 then (
    (0 : Int32)) else (
    let w_10 := F_at_3 c_h_turnedFeatures k
    let r_8 : Int32 := w_10
    if r_8 = 1 then (
      (1 : Int32)) else (
      (0 : Int32)))
theorem F_H_isTurned_s (h_features : Int32) (c_h_turnedFeatures : Nat → Int32) (k : Int32) : F_H_isTurned h_features c_h_turnedFeatures k = (
  let w_3 := F_H_hasFeature h_features k
  let r_1 : Int32 := w_3
  if r_1 = 0 then (
    (0 : Int32)) else (
    let w_10 := F_at_3 c_h_turnedFeatures k
    let r_8 : Int32 := w_10
    if r_8 = 1 then (
      (1 : Int32)) else (
      (0 : Int32)))) := rfl
noncomputable def F_H_featureNamed_L2a (h_features : Int32) (c_h_featureNames : Nat → Int64) (x : Int64) : Nat → Int32 → Int32 := fun k9 => Nat.rec (motive := fun _ => Int32 → Int32) (fun _ => default) (fun _ (G_L2a : Int32 → Int32) => fun (v_18 : Int32) =>
    if h_features ≤ v_18 then (
      (-1 : Int32)) else (
      let w_37 := F_longAt_3 c_h_featureNames v_18
      let r_35 : Int64 := w_37
      if (lg_cmp r_35 x) = 0 then (
        v_18) else (
        G_L2a (v_18 + 1)))) k9
theorem F_H_featureNamed_L2a_s (h_features : Int32) (c_h_featureNames : Nat → Int64) (x : Int64) (n9 : Nat) (v_18 : Int32) : F_H_featureNamed_L2a h_features c_h_featureNames x (n9 + 1) v_18 = (
    if h_features ≤ v_18 then (
      (-1 : Int32)) else (
      let w_37 := F_longAt_3 c_h_featureNames v_18
      let r_35 : Int64 := w_37
      if (lg_cmp r_35 x) = 0 then (
        v_18) else (
        (F_H_featureNamed_L2a h_features c_h_featureNames x n9) (v_18 + 1)))) := rfl
noncomputable def F_H_featureNamed (h_features : Int32) (c_h_featureNames : Nat → Int64) (x : Int64) : Int32 :=
  F_H_featureNamed_L2a h_features c_h_featureNames x ((2147483647 - (0 : Int32).toInt).toNat + 1) (0 : Int32)
theorem F_H_featureNamed_s (h_features : Int32) (c_h_featureNames : Nat → Int64) (x : Int64) : F_H_featureNamed h_features c_h_featureNames x = (
  F_H_featureNamed_L2a h_features c_h_featureNames x ((2147483647 - (0 : Int32).toInt).toNat + 1) (0 : Int32)) := rfl
noncomputable def F_H_feltAs (c_h_sixteenths : Nat → Int32) (x : Int32) (y : Int32) (k : Int32) : Int32 :=
  if y < 0 then (
    (0 : Int32)) else (
    if 4 ≤ y then (
      (0 : Int32)) else (
      if k < 0 then (
        (0 : Int32)) else (
        if k < 4 then (
          let x_15 : Int32 := (x * 4)
          let x_16 : Int32 := (x_15 + y)
          let x_17 : Int32 := (x_16 * 4)
          let x_18 : Int32 := (x_17 + k)
          let w_21 := F_at_48 c_h_sixteenths x_18
          let r_19 : Int32 := w_21
          r_19) else (
          (0 : Int32)))))
theorem F_H_feltAs_s (c_h_sixteenths : Nat → Int32) (x : Int32) (y : Int32) (k : Int32) : F_H_feltAs c_h_sixteenths x y k = (
  if y < 0 then (
    (0 : Int32)) else (
    if 4 ≤ y then (
      (0 : Int32)) else (
      if k < 0 then (
        (0 : Int32)) else (
        if k < 4 then (
          let x_15 : Int32 := (x * 4)
          let x_16 : Int32 := (x_15 + y)
          let x_17 : Int32 := (x_16 * 4)
          let x_18 : Int32 := (x_17 + k)
          let w_21 := F_at_48 c_h_sixteenths x_18
          let r_19 : Int32 := w_21
          r_19) else (
          (0 : Int32)))))) := rfl
noncomputable def F_H_stepAt (h_features : Int32) (h_keys : Int32) (c_h_steps : Nat → Int32) (c_h_turnedFeatures : Nat → Int32) (c_h_keySteps : Nat → Int32) (x : Int32) (y : Int32) (k : Int32) : Int32 :=
  let w_3 := F_H_hasKey h_keys x
  let r_1 : Int32 := w_3
  if r_1 = 0 then (
    (-1 : Int32)) else (
    let w_10 := F_H_hasFeature h_features y
    let r_8 : Int32 := w_10
    if r_8 = 0 then (
      (-1 : Int32)) else (
      let x_13 : Int32 := (x * 3)
      let x_14 : Int32 := (x_13 + y)
      let w_17 := F_at_30 c_h_keySteps x_14
      let r_15 : Int32 := w_17
      if k = 1 then (
        let w_24 := F_at_3 c_h_turnedFeatures y
        let r_22 : Int32 := w_24
        if r_22 = 1 then (
          let w_31 := F_at_3 c_h_steps y
          let r_29 : Int32 := w_31
          let x_32 : Int32 := ((r_29 - 1) - r_15)
          x_32) else (
          r_15)) else (
        r_15)))
theorem F_H_stepAt_s (h_features : Int32) (h_keys : Int32) (c_h_steps : Nat → Int32) (c_h_turnedFeatures : Nat → Int32) (c_h_keySteps : Nat → Int32) (x : Int32) (y : Int32) (k : Int32) : F_H_stepAt h_features h_keys c_h_steps c_h_turnedFeatures c_h_keySteps x y k = (
  let w_3 := F_H_hasKey h_keys x
  let r_1 : Int32 := w_3
  if r_1 = 0 then (
    (-1 : Int32)) else (
    let w_10 := F_H_hasFeature h_features y
    let r_8 : Int32 := w_10
    if r_8 = 0 then (
      (-1 : Int32)) else (
      let x_13 : Int32 := (x * 3)
      let x_14 : Int32 := (x_13 + y)
      let w_17 := F_at_30 c_h_keySteps x_14
      let r_15 : Int32 := w_17
      if k = 1 then (
        let w_24 := F_at_3 c_h_turnedFeatures y
        let r_22 : Int32 := w_24
        if r_22 = 1 then (
          let w_31 := F_at_3 c_h_steps y
          let r_29 : Int32 := w_31
          let x_32 : Int32 := ((r_29 - 1) - r_15)
          x_32) else (
          r_15)) else (
        r_15)))) := rfl
noncomputable def F_H_unlocks (h_keys : Int32) (h_doors : Int32) (c_h_openers : Nat → Int32) (x : Int32) (y : Int32) : Int32 :=
  let w_3 := F_H_hasDoor h_doors y
  let r_1 : Int32 := w_3
  if r_1 = 0 then (
    (0 : Int32)) else (
    let w_10 := F_H_hasKey h_keys x
    let r_8 : Int32 := w_10
    if r_8 = 0 then (
      (0 : Int32)) else (
      let w_17 := F_at_5 c_h_openers y
      let r_15 : Int32 := w_17
      let x_18 : Int32 := (r_15 >>> (x &&& 31))
      let x_19 : Int32 := (x_18 &&& 1)
      if x_19 = 1 then (
        (1 : Int32)) else (
        (0 : Int32))))
theorem F_H_unlocks_s (h_keys : Int32) (h_doors : Int32) (c_h_openers : Nat → Int32) (x : Int32) (y : Int32) : F_H_unlocks h_keys h_doors c_h_openers x y = (
  let w_3 := F_H_hasDoor h_doors y
  let r_1 : Int32 := w_3
  if r_1 = 0 then (
    (0 : Int32)) else (
    let w_10 := F_H_hasKey h_keys x
    let r_8 : Int32 := w_10
    if r_8 = 0 then (
      (0 : Int32)) else (
      let w_17 := F_at_5 c_h_openers y
      let r_15 : Int32 := w_17
      let x_18 : Int32 := (r_15 >>> (x &&& 31))
      let x_19 : Int32 := (x_18 &&& 1)
      if x_19 = 1 then (
        (1 : Int32)) else (
        (0 : Int32))))) := rfl
noncomputable def F_H_openersOf (h_doors : Int32) (c_h_openers : Nat → Int32) (k : Int32) : Int32 :=
  let w_3 := F_H_hasDoor h_doors k
  let r_1 : Int32 := w_3
  if r_1 = 0 then (
    (0 : Int32)) else (
    let w_10 := F_at_5 c_h_openers k
    let r_8 : Int32 := w_10
    r_8)
theorem F_H_openersOf_s (h_doors : Int32) (c_h_openers : Nat → Int32) (k : Int32) : F_H_openersOf h_doors c_h_openers k = (
  let w_3 := F_H_hasDoor h_doors k
  let r_1 : Int32 := w_3
  if r_1 = 0 then (
    (0 : Int32)) else (
    let w_10 := F_at_5 c_h_openers k
    let r_8 : Int32 := w_10
    r_8)) := rfl
noncomputable def F_H_wantedOf (h_doors : Int32) (c_h_wanted : Nat → Int32) (k : Int32) : Int32 :=
  let w_3 := F_H_hasDoor h_doors k
  let r_1 : Int32 := w_3
  if r_1 = 0 then (
    (0 : Int32)) else (
    let w_10 := F_at_5 c_h_wanted k
    let r_8 : Int32 := w_10
    r_8)
theorem F_H_wantedOf_s (h_doors : Int32) (c_h_wanted : Nat → Int32) (k : Int32) : F_H_wantedOf h_doors c_h_wanted k = (
  let w_3 := F_H_hasDoor h_doors k
  let r_1 : Int32 := w_3
  if r_1 = 0 then (
    (0 : Int32)) else (
    let w_10 := F_at_5 c_h_wanted k
    let r_8 : Int32 := w_10
    r_8)) := rfl
noncomputable def F_H_secondsOf (c_h_seconds : Nat → Int32) (k : Int32) : Int32 :=
  let w_3 := F_at_4 c_h_seconds k
  let r_1 : Int32 := w_3
  r_1
theorem F_H_secondsOf_s (c_h_seconds : Nat → Int32) (k : Int32) : F_H_secondsOf c_h_seconds k = (
  let w_3 := F_at_4 c_h_seconds k
  let r_1 : Int32 := w_3
  r_1) := rfl
noncomputable def F_H_isLent (h_keys : Int32) (h_lent : Int32) (k : Int32) : Int32 :=
  let w_3 := F_H_hasKey h_keys k
  let r_1 : Int32 := w_3
  if r_1 = 0 then (
    (0 : Int32)) else (
    let x_8 : Int32 := (h_lent >>> (k &&& 31))
    let x_9 : Int32 := (x_8 &&& 1)
    if x_9 = 1 then (
      (1 : Int32)) else (
      (0 : Int32)))
theorem F_H_isLent_s (h_keys : Int32) (h_lent : Int32) (k : Int32) : F_H_isLent h_keys h_lent k = (
  let w_3 := F_H_hasKey h_keys k
  let r_1 : Int32 := w_3
  if r_1 = 0 then (
    (0 : Int32)) else (
    let x_8 : Int32 := (h_lent >>> (k &&& 31))
    let x_9 : Int32 := (x_8 &&& 1)
    if x_9 = 1 then (
      (1 : Int32)) else (
      (0 : Int32)))) := rfl
noncomputable def F_H_manyOn (h_rings : Int32) (c_h_onMany : Nat → Int32) (k : Int32) : Int32 :=
  let w_3 := F_H_hasRing h_rings k
  let r_1 : Int32 := w_3
  if r_1 = 0 then (
    (0 : Int32)) else (
    let w_10 := F_at_3 c_h_onMany k
    let r_8 : Int32 := w_10
    r_8)
theorem F_H_manyOn_s (h_rings : Int32) (c_h_onMany : Nat → Int32) (k : Int32) : F_H_manyOn h_rings c_h_onMany k = (
  let w_3 := F_H_hasRing h_rings k
  let r_1 : Int32 := w_3
  if r_1 = 0 then (
    (0 : Int32)) else (
    let w_10 := F_at_3 c_h_onMany k
    let r_8 : Int32 := w_10
    r_8)) := rfl
noncomputable def F_H_keyOn (h_rings : Int32) (c_h_on : Nat → Int32) (c_h_onMany : Nat → Int32) (x : Int32) (y : Int32) : Int32 :=
  if y < 0 then (
    (-1 : Int32)) else (
    let w_7 := F_H_manyOn h_rings c_h_onMany x
    let r_5 : Int32 := w_7
    if r_5 ≤ y then (
      (-1 : Int32)) else (
      let x_12 : Int32 := (x * 10)
      let x_13 : Int32 := (x_12 + y)
      let w_16 := F_at_30 c_h_on x_13
      let r_14 : Int32 := w_16
      r_14))
theorem F_H_keyOn_s (h_rings : Int32) (c_h_on : Nat → Int32) (c_h_onMany : Nat → Int32) (x : Int32) (y : Int32) : F_H_keyOn h_rings c_h_on c_h_onMany x y = (
  if y < 0 then (
    (-1 : Int32)) else (
    let w_7 := F_H_manyOn h_rings c_h_onMany x
    let r_5 : Int32 := w_7
    if r_5 ≤ y then (
      (-1 : Int32)) else (
      let x_12 : Int32 := (x * 10)
      let x_13 : Int32 := (x_12 + y)
      let w_16 := F_at_30 c_h_on x_13
      let r_14 : Int32 := w_16
      r_14))) := rfl
noncomputable def F_H_setOn_L4a (h_rings : Int32) (c_h_on : Nat → Int32) (c_h_onMany : Nat → Int32) (k : Int32) : Nat → Int32 → Int32 → Int32 := fun k9 => Nat.rec (motive := fun _ => Int32 → Int32 → Int32) (fun _ _ => default) (fun _ (G_L4a : Int32 → Int32 → Int32) => fun (v_23 : Int32) (v_24 : Int32) =>
    let w_41 := F_H_manyOn h_rings c_h_onMany k
    let r_39 : Int32 := w_41
    if r_39 ≤ v_24 then (
      v_23) else (
      let w_48 := F_H_keyOn h_rings c_h_on c_h_onMany k v_24
      let r_46 : Int32 := w_48
      let x_49 : Int32 := ((1 : Int32) <<< (r_46 &&& 31))
      let x_50 : Int32 := (v_23 ||| x_49)
      G_L4a x_50 (v_24 + 1))) k9
theorem F_H_setOn_L4a_s (h_rings : Int32) (c_h_on : Nat → Int32) (c_h_onMany : Nat → Int32) (k : Int32) (n9 : Nat) (v_23 : Int32) (v_24 : Int32) : F_H_setOn_L4a h_rings c_h_on c_h_onMany k (n9 + 1) v_23 v_24 = (
    let w_41 := F_H_manyOn h_rings c_h_onMany k
    let r_39 : Int32 := w_41
    if r_39 ≤ v_24 then (
      v_23) else (
      let w_48 := F_H_keyOn h_rings c_h_on c_h_onMany k v_24
      let r_46 : Int32 := w_48
      let x_49 : Int32 := ((1 : Int32) <<< (r_46 &&& 31))
      let x_50 : Int32 := (v_23 ||| x_49)
      (F_H_setOn_L4a h_rings c_h_on c_h_onMany k n9) x_50 (v_24 + 1))) := rfl
noncomputable def F_H_setOn (h_rings : Int32) (c_h_on : Nat → Int32) (c_h_onMany : Nat → Int32) (k : Int32) : Int32 :=
  F_H_setOn_L4a h_rings c_h_on c_h_onMany k ((2147483647 - (0 : Int32).toInt).toNat + 1) (0 : Int32) (0 : Int32)
theorem F_H_setOn_s (h_rings : Int32) (c_h_on : Nat → Int32) (c_h_onMany : Nat → Int32) (k : Int32) : F_H_setOn h_rings c_h_on c_h_onMany k = (
  F_H_setOn_L4a h_rings c_h_on c_h_onMany k ((2147483647 - (0 : Int32).toInt).toNat + 1) (0 : Int32) (0 : Int32)) := rfl
noncomputable def F_H_placeOn_L2a (h_rings : Int32) (c_h_on : Nat → Int32) (c_h_onMany : Nat → Int32) (x : Int32) (y : Int32) : Nat → Int32 → Int32 := fun k9 => Nat.rec (motive := fun _ => Int32 → Int32) (fun _ => default) (fun _ (G_L2a : Int32 → Int32) => fun (v_24 : Int32) =>
    let w_42 := F_H_manyOn h_rings c_h_onMany x
    let r_40 : Int32 := w_42
    if r_40 ≤ v_24 then (
      (-1 : Int32)) else (
      let w_49 := F_H_keyOn h_rings c_h_on c_h_onMany x v_24
      let r_47 : Int32 := w_49
      if r_47 = y then (
        v_24) else (
        G_L2a (v_24 + 1)))) k9
theorem F_H_placeOn_L2a_s (h_rings : Int32) (c_h_on : Nat → Int32) (c_h_onMany : Nat → Int32) (x : Int32) (y : Int32) (n9 : Nat) (v_24 : Int32) : F_H_placeOn_L2a h_rings c_h_on c_h_onMany x y (n9 + 1) v_24 = (
    let w_42 := F_H_manyOn h_rings c_h_onMany x
    let r_40 : Int32 := w_42
    if r_40 ≤ v_24 then (
      (-1 : Int32)) else (
      let w_49 := F_H_keyOn h_rings c_h_on c_h_onMany x v_24
      let r_47 : Int32 := w_49
      if r_47 = y then (
        v_24) else (
        (F_H_placeOn_L2a h_rings c_h_on c_h_onMany x y n9) (v_24 + 1)))) := rfl
noncomputable def F_H_placeOn (h_rings : Int32) (c_h_on : Nat → Int32) (c_h_onMany : Nat → Int32) (x : Int32) (y : Int32) : Int32 :=
  F_H_placeOn_L2a h_rings c_h_on c_h_onMany x y ((2147483647 - (0 : Int32).toInt).toNat + 1) (0 : Int32)
theorem F_H_placeOn_s (h_rings : Int32) (c_h_on : Nat → Int32) (c_h_onMany : Nat → Int32) (x : Int32) (y : Int32) : F_H_placeOn h_rings c_h_on c_h_onMany x y = (
  F_H_placeOn_L2a h_rings c_h_on c_h_onMany x y ((2147483647 - (0 : Int32).toInt).toNat + 1) (0 : Int32)) := rfl
noncomputable def F_H_ringOf_L2a (h_rings : Int32) (c_h_on : Nat → Int32) (c_h_onMany : Nat → Int32) (k : Int32) : Nat → Int32 → Int32 := fun k9 => Nat.rec (motive := fun _ => Int32 → Int32) (fun _ => default) (fun _ (G_L2a : Int32 → Int32) => fun (v_18 : Int32) =>
    if h_rings ≤ v_18 then (
      (-1 : Int32)) else (
      let w_37 := F_H_placeOn h_rings c_h_on c_h_onMany v_18 k
      let r_35 : Int32 := w_37
      if r_35 = (-1) then (
        G_L2a (v_18 + 1)) else (
        v_18))) k9
theorem F_H_ringOf_L2a_s (h_rings : Int32) (c_h_on : Nat → Int32) (c_h_onMany : Nat → Int32) (k : Int32) (n9 : Nat) (v_18 : Int32) : F_H_ringOf_L2a h_rings c_h_on c_h_onMany k (n9 + 1) v_18 = (
    if h_rings ≤ v_18 then (
      (-1 : Int32)) else (
      let w_37 := F_H_placeOn h_rings c_h_on c_h_onMany v_18 k
      let r_35 : Int32 := w_37
      if r_35 = (-1) then (
        (F_H_ringOf_L2a h_rings c_h_on c_h_onMany k n9) (v_18 + 1)) else (
        v_18))) := rfl
noncomputable def F_H_ringOf (h_rings : Int32) (c_h_on : Nat → Int32) (c_h_onMany : Nat → Int32) (k : Int32) : Int32 :=
  F_H_ringOf_L2a h_rings c_h_on c_h_onMany k ((2147483647 - (0 : Int32).toInt).toNat + 1) (0 : Int32)
theorem F_H_ringOf_s (h_rings : Int32) (c_h_on : Nat → Int32) (c_h_onMany : Nat → Int32) (k : Int32) : F_H_ringOf h_rings c_h_on c_h_onMany k = (
  F_H_ringOf_L2a h_rings c_h_on c_h_onMany k ((2147483647 - (0 : Int32).toInt).toNat + 1) (0 : Int32)) := rfl
noncomputable def F_H_manyThere_L4a (h_keys : Int32) (h_lent : Int32) (h_rings : Int32) (c_h_on : Nat → Int32) (c_h_onMany : Nat → Int32) (k : Int32) : Nat → Int32 → Int32 → Int32 := fun k9 => Nat.rec (motive := fun _ => Int32 → Int32 → Int32) (fun _ _ => default) (fun _ (G_L4a : Int32 → Int32 → Int32) => fun (v_31 : Int32) (v_32 : Int32) =>
    let w_54 := F_H_manyOn h_rings c_h_onMany k
    let r_52 : Int32 := w_54
    if r_52 ≤ v_32 then (
      v_31) else (
      let w_61 := F_H_keyOn h_rings c_h_on c_h_onMany k v_32
      let r_59 : Int32 := w_61
      let w_64 := F_H_isLent h_keys h_lent r_59
      let r_62 : Int32 := w_64
      if r_62 = 0 then (
        G_L4a (v_31 + 1) (v_32 + 1)) else (
        G_L4a v_31 (v_32 + 1)))) k9
theorem F_H_manyThere_L4a_s (h_keys : Int32) (h_lent : Int32) (h_rings : Int32) (c_h_on : Nat → Int32) (c_h_onMany : Nat → Int32) (k : Int32) (n9 : Nat) (v_31 : Int32) (v_32 : Int32) : F_H_manyThere_L4a h_keys h_lent h_rings c_h_on c_h_onMany k (n9 + 1) v_31 v_32 = (
    let w_54 := F_H_manyOn h_rings c_h_onMany k
    let r_52 : Int32 := w_54
    if r_52 ≤ v_32 then (
      v_31) else (
      let w_61 := F_H_keyOn h_rings c_h_on c_h_onMany k v_32
      let r_59 : Int32 := w_61
      let w_64 := F_H_isLent h_keys h_lent r_59
      let r_62 : Int32 := w_64
      if r_62 = 0 then (
        (F_H_manyThere_L4a h_keys h_lent h_rings c_h_on c_h_onMany k n9) (v_31 + 1) (v_32 + 1)) else (
        (F_H_manyThere_L4a h_keys h_lent h_rings c_h_on c_h_onMany k n9) v_31 (v_32 + 1)))) := rfl
noncomputable def F_H_manyThere (h_keys : Int32) (h_lent : Int32) (h_rings : Int32) (c_h_on : Nat → Int32) (c_h_onMany : Nat → Int32) (k : Int32) : Int32 :=
  F_H_manyThere_L4a h_keys h_lent h_rings c_h_on c_h_onMany k ((2147483647 - (0 : Int32).toInt).toNat + 1) (0 : Int32) (0 : Int32)
theorem F_H_manyThere_s (h_keys : Int32) (h_lent : Int32) (h_rings : Int32) (c_h_on : Nat → Int32) (c_h_onMany : Nat → Int32) (k : Int32) : F_H_manyThere h_keys h_lent h_rings c_h_on c_h_onMany k = (
  F_H_manyThere_L4a h_keys h_lent h_rings c_h_on c_h_onMany k ((2147483647 - (0 : Int32).toInt).toNat + 1) (0 : Int32) (0 : Int32)) := rfl
noncomputable def F_H_keyThere_L5a (h_keys : Int32) (h_lent : Int32) (h_rings : Int32) (c_h_on : Nat → Int32) (c_h_onMany : Nat → Int32) (x : Int32) (y : Int32) : Nat → Int32 → Int32 → Int32 := fun k9 => Nat.rec (motive := fun _ => Int32 → Int32 → Int32) (fun _ _ => default) (fun _ (G_L5a : Int32 → Int32 → Int32) => fun (v_35 : Int32) (v_36 : Int32) =>
    let w_60 := F_H_manyOn h_rings c_h_onMany x
    let r_58 : Int32 := w_60
    if r_58 ≤ v_36 then (
      (-1 : Int32)) else (
      let w_67 := F_H_keyOn h_rings c_h_on c_h_onMany x v_36
      let r_65 : Int32 := w_67
      let w_70 := F_H_isLent h_keys h_lent r_65
      let r_68 : Int32 := w_70
      if r_68 = 0 then (
        if v_35 = y then (
          r_65) else (
          G_L5a (v_35 + 1) (v_36 + 1))) else (
        G_L5a v_35 (v_36 + 1)))) k9
theorem F_H_keyThere_L5a_s (h_keys : Int32) (h_lent : Int32) (h_rings : Int32) (c_h_on : Nat → Int32) (c_h_onMany : Nat → Int32) (x : Int32) (y : Int32) (n9 : Nat) (v_35 : Int32) (v_36 : Int32) : F_H_keyThere_L5a h_keys h_lent h_rings c_h_on c_h_onMany x y (n9 + 1) v_35 v_36 = (
    let w_60 := F_H_manyOn h_rings c_h_onMany x
    let r_58 : Int32 := w_60
    if r_58 ≤ v_36 then (
      (-1 : Int32)) else (
      let w_67 := F_H_keyOn h_rings c_h_on c_h_onMany x v_36
      let r_65 : Int32 := w_67
      let w_70 := F_H_isLent h_keys h_lent r_65
      let r_68 : Int32 := w_70
      if r_68 = 0 then (
        if v_35 = y then (
          r_65) else (
          (F_H_keyThere_L5a h_keys h_lent h_rings c_h_on c_h_onMany x y n9) (v_35 + 1) (v_36 + 1))) else (
        (F_H_keyThere_L5a h_keys h_lent h_rings c_h_on c_h_onMany x y n9) v_35 (v_36 + 1)))) := rfl
noncomputable def F_H_keyThere (h_keys : Int32) (h_lent : Int32) (h_rings : Int32) (c_h_on : Nat → Int32) (c_h_onMany : Nat → Int32) (x : Int32) (y : Int32) : Int32 :=
  F_H_keyThere_L5a h_keys h_lent h_rings c_h_on c_h_onMany x y ((2147483647 - (0 : Int32).toInt).toNat + 1) (0 : Int32) (0 : Int32)
theorem F_H_keyThere_s (h_keys : Int32) (h_lent : Int32) (h_rings : Int32) (c_h_on : Nat → Int32) (c_h_onMany : Nat → Int32) (x : Int32) (y : Int32) : F_H_keyThere h_keys h_lent h_rings c_h_on c_h_onMany x y = (
  F_H_keyThere_L5a h_keys h_lent h_rings c_h_on c_h_onMany x y ((2147483647 - (0 : Int32).toInt).toNat + 1) (0 : Int32) (0 : Int32)) := rfl
noncomputable def F_H_isOnlyOpener_L33a (h_keys : Int32) (h_lent : Int32) (h_rings : Int32) (h_doors : Int32) (c_h_on : Nat → Int32) (c_h_onMany : Nat → Int32) (c_h_openers : Nat → Int32) (x : Int32) (y : Int32) (r_1 : Int32) : Nat → Int32 → Int32 := fun k9 => Nat.rec (motive := fun _ => Int32 → Int32) (fun _ => default) (fun _ (G_L33a : Int32 → Int32) => fun (v_67 : Int32) =>
    let w_97 := F_H_manyOn h_rings c_h_onMany r_1
    let r_95 : Int32 := w_97
    if r_95 ≤ v_67 then (
      (1 : Int32)) else (
      let w_104 := F_H_keyOn h_rings c_h_on c_h_onMany r_1 v_67
      let r_102 : Int32 := w_104
      if r_102 = x then (
        G_L33a (v_67 + 1)) else (
        let w_111 := F_H_isLent h_keys h_lent r_102
        let r_109 : Int32 := w_111
        if r_109 = 0 then (
          let w_118 := F_H_unlocks h_keys h_doors c_h_openers r_102 y
          let r_116 : Int32 := w_118
          if r_116 = 0 then (
            G_L33a (v_67 + 1)) else (
            (0 : Int32))) else (
          G_L33a (v_67 + 1))))) k9
theorem F_H_isOnlyOpener_L33a_s (h_keys : Int32) (h_lent : Int32) (h_rings : Int32) (h_doors : Int32) (c_h_on : Nat → Int32) (c_h_onMany : Nat → Int32) (c_h_openers : Nat → Int32) (x : Int32) (y : Int32) (r_1 : Int32) (n9 : Nat) (v_67 : Int32) : F_H_isOnlyOpener_L33a h_keys h_lent h_rings h_doors c_h_on c_h_onMany c_h_openers x y r_1 (n9 + 1) v_67 = (
    let w_97 := F_H_manyOn h_rings c_h_onMany r_1
    let r_95 : Int32 := w_97
    if r_95 ≤ v_67 then (
      (1 : Int32)) else (
      let w_104 := F_H_keyOn h_rings c_h_on c_h_onMany r_1 v_67
      let r_102 : Int32 := w_104
      if r_102 = x then (
        (F_H_isOnlyOpener_L33a h_keys h_lent h_rings h_doors c_h_on c_h_onMany c_h_openers x y r_1 n9) (v_67 + 1)) else (
        let w_111 := F_H_isLent h_keys h_lent r_102
        let r_109 : Int32 := w_111
        if r_109 = 0 then (
          let w_118 := F_H_unlocks h_keys h_doors c_h_openers r_102 y
          let r_116 : Int32 := w_118
          if r_116 = 0 then (
            (F_H_isOnlyOpener_L33a h_keys h_lent h_rings h_doors c_h_on c_h_onMany c_h_openers x y r_1 n9) (v_67 + 1)) else (
            (0 : Int32))) else (
          (F_H_isOnlyOpener_L33a h_keys h_lent h_rings h_doors c_h_on c_h_onMany c_h_openers x y r_1 n9) (v_67 + 1))))) := rfl
noncomputable def F_H_isOnlyOpener (h_keys : Int32) (h_lent : Int32) (h_rings : Int32) (h_doors : Int32) (c_h_on : Nat → Int32) (c_h_onMany : Nat → Int32) (c_h_openers : Nat → Int32) (x : Int32) (y : Int32) : Int32 :=
  let w_3 := F_H_ringOf h_rings c_h_on c_h_onMany x
  let r_1 : Int32 := w_3
  if r_1 = (-1) then (
    (0 : Int32)) else (
    let w_10 := F_H_isLent h_keys h_lent x
    let r_8 : Int32 := w_10
    if r_8 = 0 then (
      let w_17 := F_H_unlocks h_keys h_doors c_h_openers x y
      let r_15 : Int32 := w_17
      if r_15 = 0 then (
        (0 : Int32)) else (
        F_H_isOnlyOpener_L33a h_keys h_lent h_rings h_doors c_h_on c_h_onMany c_h_openers x y r_1 ((2147483647 - (0 : Int32).toInt).toNat + 1) (0 : Int32))) else (
      (0 : Int32)))
theorem F_H_isOnlyOpener_s (h_keys : Int32) (h_lent : Int32) (h_rings : Int32) (h_doors : Int32) (c_h_on : Nat → Int32) (c_h_onMany : Nat → Int32) (c_h_openers : Nat → Int32) (x : Int32) (y : Int32) : F_H_isOnlyOpener h_keys h_lent h_rings h_doors c_h_on c_h_onMany c_h_openers x y = (
  let w_3 := F_H_ringOf h_rings c_h_on c_h_onMany x
  let r_1 : Int32 := w_3
  if r_1 = (-1) then (
    (0 : Int32)) else (
    let w_10 := F_H_isLent h_keys h_lent x
    let r_8 : Int32 := w_10
    if r_8 = 0 then (
      let w_17 := F_H_unlocks h_keys h_doors c_h_openers x y
      let r_15 : Int32 := w_17
      if r_15 = 0 then (
        (0 : Int32)) else (
        F_H_isOnlyOpener_L33a h_keys h_lent h_rings h_doors c_h_on c_h_onMany c_h_openers x y r_1 ((2147483647 - (0 : Int32).toInt).toNat + 1) (0 : Int32))) else (
      (0 : Int32)))) := rfl
noncomputable def F_H_setFeltAs (c_h_sixteenths : Nat → Int32) (x : Int32) (y : Int32) (k : Int32) (j : Int32) : (Nat → Int32) :=
  let x_1 : Int32 := (x * 4)
  let x_2 : Int32 := (x_1 + y)
  let x_3 : Int32 := (x_2 * 4)
  let x_4 : Int32 := (x_3 + k)
  let w_8 := F_keepAt_48 c_h_sixteenths x_4 j
  let nw0_5 : Nat → Int32 := w_8
  nw0_5
theorem F_H_setFeltAs_s (c_h_sixteenths : Nat → Int32) (x : Int32) (y : Int32) (k : Int32) (j : Int32) : F_H_setFeltAs c_h_sixteenths x y k j = (
  let x_1 : Int32 := (x * 4)
  let x_2 : Int32 := (x_1 + y)
  let x_3 : Int32 := (x_2 * 4)
  let x_4 : Int32 := (x_3 + k)
  let w_8 := F_keepAt_48 c_h_sixteenths x_4 j
  let nw0_5 : Nat → Int32 := w_8
  nw0_5) := rfl
noncomputable def F_H_setStep (c_h_keySteps : Nat → Int32) (x : Int32) (y : Int32) (k : Int32) : (Nat → Int32) :=
  let x_1 : Int32 := (x * 3)
  let x_2 : Int32 := (x_1 + y)
  let w_6 := F_keepAt_30 c_h_keySteps x_2 k
  let nw0_3 : Nat → Int32 := w_6
  nw0_3
theorem F_H_setStep_s (c_h_keySteps : Nat → Int32) (x : Int32) (y : Int32) (k : Int32) : F_H_setStep c_h_keySteps x y k = (
  let x_1 : Int32 := (x * 3)
  let x_2 : Int32 := (x_1 + y)
  let w_6 := F_keepAt_30 c_h_keySteps x_2 k
  let nw0_3 : Nat → Int32 := w_6
  nw0_3) := rfl
noncomputable def F_H_setSeconds (c_h_seconds : Nat → Int32) (x : Int32) (y : Int32) : (Nat → Int32) :=
  let w_4 := F_keepAt_4 c_h_seconds x y
  let nw0_1 : Nat → Int32 := w_4
  nw0_1
theorem F_H_setSeconds_s (c_h_seconds : Nat → Int32) (x : Int32) (y : Int32) : F_H_setSeconds c_h_seconds x y = (
  let w_4 := F_keepAt_4 c_h_seconds x y
  let nw0_1 : Nat → Int32 := w_4
  nw0_1) := rfl
noncomputable def F_H_addFeature_L67a (x_15 : Int32) (v_102 : Int32) (G_L58a : Int32 → (Nat → Int32) → (Int32 × (Nat → Int64) × (Nat → Int32) × (Nat → Int32) × (Nat → Int32))) : Nat → Int32 → (Nat → Int32) → (Int32 × (Nat → Int64) × (Nat → Int32) × (Nat → Int32) × (Nat → Int32)) := fun k9 => Nat.rec (motive := fun _ => Int32 → (Nat → Int32) → (Int32 × (Nat → Int64) × (Nat → Int32) × (Nat → Int32) × (Nat → Int32))) (fun _ _ => default) (fun _ (G_L67a : Int32 → (Nat → Int32) → (Int32 × (Nat → Int64) × (Nat → Int32) × (Nat → Int32) × (Nat → Int32))) => fun (v_202 : Int32) (g_203 : Nat → Int32) =>
    if 4 ≤ v_202 then (
      G_L58a (v_102 + 1) g_203) else (
      if v_102 = v_202 then (
        let w_236 := F_H_setFeltAs g_203 (x_15 - 1) v_102 v_202 16
        let nw0_233 : Nat → Int32 := w_236
        G_L67a (v_202 + 1) nw0_233) else (
        let w_230 := F_H_setFeltAs g_203 (x_15 - 1) v_102 v_202 0
        let nw0_227 : Nat → Int32 := w_230
        G_L67a (v_202 + 1) nw0_227))) k9
theorem F_H_addFeature_L67a_s (x_15 : Int32) (v_102 : Int32) (G_L58a : Int32 → (Nat → Int32) → (Int32 × (Nat → Int64) × (Nat → Int32) × (Nat → Int32) × (Nat → Int32))) (n9 : Nat) (v_202 : Int32) (g_203 : Nat → Int32) : F_H_addFeature_L67a x_15 v_102 G_L58a (n9 + 1) v_202 g_203 = (
    if 4 ≤ v_202 then (
      G_L58a (v_102 + 1) g_203) else (
      if v_102 = v_202 then (
        let w_236 := F_H_setFeltAs g_203 (x_15 - 1) v_102 v_202 16
        let nw0_233 : Nat → Int32 := w_236
        (F_H_addFeature_L67a x_15 v_102 G_L58a n9) (v_202 + 1) nw0_233) else (
        let w_230 := F_H_setFeltAs g_203 (x_15 - 1) v_102 v_202 0
        let nw0_227 : Nat → Int32 := w_230
        (F_H_addFeature_L67a x_15 v_102 G_L58a n9) (v_202 + 1) nw0_227))) := rfl
noncomputable def F_H_addFeature_L58a (nw0_1 : Nat → Int64) (nw0_5 : Nat → Int32) (nw0_11 : Nat → Int32) (x_15 : Int32) : Nat → Int32 → (Nat → Int32) → (Int32 × (Nat → Int64) × (Nat → Int32) × (Nat → Int32) × (Nat → Int32)) := fun k9 => Nat.rec (motive := fun _ => Int32 → (Nat → Int32) → (Int32 × (Nat → Int64) × (Nat → Int32) × (Nat → Int32) × (Nat → Int32))) (fun _ _ => default) (fun _ (G_L58a : Int32 → (Nat → Int32) → (Int32 × (Nat → Int64) × (Nat → Int32) × (Nat → Int32) × (Nat → Int32))) => fun (v_102 : Int32) (g_103 : Nat → Int32) =>
    if 4 ≤ v_102 then (
      (x_15, nw0_1, nw0_5, nw0_11, g_103)) else (
      F_H_addFeature_L67a x_15 v_102 G_L58a ((2147483647 - (0 : Int32).toInt).toNat + 1) (0 : Int32) g_103)) k9
theorem F_H_addFeature_L58a_s (nw0_1 : Nat → Int64) (nw0_5 : Nat → Int32) (nw0_11 : Nat → Int32) (x_15 : Int32) (n9 : Nat) (v_102 : Int32) (g_103 : Nat → Int32) : F_H_addFeature_L58a nw0_1 nw0_5 nw0_11 x_15 (n9 + 1) v_102 g_103 = (
    if 4 ≤ v_102 then (
      (x_15, nw0_1, nw0_5, nw0_11, g_103)) else (
      F_H_addFeature_L67a x_15 v_102 (F_H_addFeature_L58a nw0_1 nw0_5 nw0_11 x_15 n9) ((2147483647 - (0 : Int32).toInt).toNat + 1) (0 : Int32) g_103)) := rfl
noncomputable def F_H_addFeature_L67b (x_245 : Int32) (v_332 : Int32) (G_L58b : Int32 → (Nat → Int32) → (Int32 × (Nat → Int64) × (Nat → Int32) × (Nat → Int32) × (Nat → Int32))) : Nat → Int32 → (Nat → Int32) → (Int32 × (Nat → Int64) × (Nat → Int32) × (Nat → Int32) × (Nat → Int32)) := fun k9 => Nat.rec (motive := fun _ => Int32 → (Nat → Int32) → (Int32 × (Nat → Int64) × (Nat → Int32) × (Nat → Int32) × (Nat → Int32))) (fun _ _ => default) (fun _ (G_L67b : Int32 → (Nat → Int32) → (Int32 × (Nat → Int64) × (Nat → Int32) × (Nat → Int32) × (Nat → Int32))) => fun (v_432 : Int32) (g_433 : Nat → Int32) =>
    if 4 ≤ v_432 then (
      G_L58b (v_332 + 1) g_433) else (
      if v_332 = v_432 then (
        let w_466 := F_H_setFeltAs g_433 (x_245 - 1) v_332 v_432 16
        let nw0_463 : Nat → Int32 := w_466
        G_L67b (v_432 + 1) nw0_463) else (
        let w_460 := F_H_setFeltAs g_433 (x_245 - 1) v_332 v_432 0
        let nw0_457 : Nat → Int32 := w_460
        G_L67b (v_432 + 1) nw0_457))) k9
theorem F_H_addFeature_L67b_s (x_245 : Int32) (v_332 : Int32) (G_L58b : Int32 → (Nat → Int32) → (Int32 × (Nat → Int64) × (Nat → Int32) × (Nat → Int32) × (Nat → Int32))) (n9 : Nat) (v_432 : Int32) (g_433 : Nat → Int32) : F_H_addFeature_L67b x_245 v_332 G_L58b (n9 + 1) v_432 g_433 = (
    if 4 ≤ v_432 then (
      G_L58b (v_332 + 1) g_433) else (
      if v_332 = v_432 then (
        let w_466 := F_H_setFeltAs g_433 (x_245 - 1) v_332 v_432 16
        let nw0_463 : Nat → Int32 := w_466
        (F_H_addFeature_L67b x_245 v_332 G_L58b n9) (v_432 + 1) nw0_463) else (
        let w_460 := F_H_setFeltAs g_433 (x_245 - 1) v_332 v_432 0
        let nw0_457 : Nat → Int32 := w_460
        (F_H_addFeature_L67b x_245 v_332 G_L58b n9) (v_432 + 1) nw0_457))) := rfl
noncomputable def F_H_addFeature_L58b (nw0_1 : Nat → Int64) (nw0_5 : Nat → Int32) (nw0_241 : Nat → Int32) (x_245 : Int32) : Nat → Int32 → (Nat → Int32) → (Int32 × (Nat → Int64) × (Nat → Int32) × (Nat → Int32) × (Nat → Int32)) := fun k9 => Nat.rec (motive := fun _ => Int32 → (Nat → Int32) → (Int32 × (Nat → Int64) × (Nat → Int32) × (Nat → Int32) × (Nat → Int32))) (fun _ _ => default) (fun _ (G_L58b : Int32 → (Nat → Int32) → (Int32 × (Nat → Int64) × (Nat → Int32) × (Nat → Int32) × (Nat → Int32))) => fun (v_332 : Int32) (g_333 : Nat → Int32) =>
    if 4 ≤ v_332 then (
      (x_245, nw0_1, nw0_5, nw0_241, g_333)) else (
      F_H_addFeature_L67b x_245 v_332 G_L58b ((2147483647 - (0 : Int32).toInt).toNat + 1) (0 : Int32) g_333)) k9
theorem F_H_addFeature_L58b_s (nw0_1 : Nat → Int64) (nw0_5 : Nat → Int32) (nw0_241 : Nat → Int32) (x_245 : Int32) (n9 : Nat) (v_332 : Int32) (g_333 : Nat → Int32) : F_H_addFeature_L58b nw0_1 nw0_5 nw0_241 x_245 (n9 + 1) v_332 g_333 = (
    if 4 ≤ v_332 then (
      (x_245, nw0_1, nw0_5, nw0_241, g_333)) else (
      F_H_addFeature_L67b x_245 v_332 (F_H_addFeature_L58b nw0_1 nw0_5 nw0_241 x_245 n9) ((2147483647 - (0 : Int32).toInt).toNat + 1) (0 : Int32) g_333)) := rfl
noncomputable def F_H_addFeature (h_features : Int32) (c_h_featureNames : Nat → Int64) (c_h_steps : Nat → Int32) (c_h_turnedFeatures : Nat → Int32) (c_h_sixteenths : Nat → Int32) (x : Int64) (y : Int32) (k : Int32) : Int32 × (Nat → Int64) × (Nat → Int32) × (Nat → Int32) × (Nat → Int32) :=
  let w_4 := F_keepLongAt_3 c_h_featureNames h_features x
  let nw0_1 : Nat → Int64 := w_4
  let w_8 := F_keepAt_3 c_h_steps h_features y
  let nw0_5 : Nat → Int32 := w_8
  if k = 0 then (
    let w_14 := F_keepAt_3 c_h_turnedFeatures h_features 0
    let nw0_11 : Nat → Int32 := w_14
    let x_15 : Int32 := (h_features + 1)
    F_H_addFeature_L58a nw0_1 nw0_5 nw0_11 x_15 ((2147483647 - (0 : Int32).toInt).toNat + 1) (0 : Int32) c_h_sixteenths) else (
    let w_244 := F_keepAt_3 c_h_turnedFeatures h_features 1
    let nw0_241 : Nat → Int32 := w_244
    let x_245 : Int32 := (h_features + 1)
    F_H_addFeature_L58b nw0_1 nw0_5 nw0_241 x_245 ((2147483647 - (0 : Int32).toInt).toNat + 1) (0 : Int32) c_h_sixteenths)
theorem F_H_addFeature_s (h_features : Int32) (c_h_featureNames : Nat → Int64) (c_h_steps : Nat → Int32) (c_h_turnedFeatures : Nat → Int32) (c_h_sixteenths : Nat → Int32) (x : Int64) (y : Int32) (k : Int32) : F_H_addFeature h_features c_h_featureNames c_h_steps c_h_turnedFeatures c_h_sixteenths x y k = (
  let w_4 := F_keepLongAt_3 c_h_featureNames h_features x
  let nw0_1 : Nat → Int64 := w_4
  let w_8 := F_keepAt_3 c_h_steps h_features y
  let nw0_5 : Nat → Int32 := w_8
  if k = 0 then (
    let w_14 := F_keepAt_3 c_h_turnedFeatures h_features 0
    let nw0_11 : Nat → Int32 := w_14
    let x_15 : Int32 := (h_features + 1)
    F_H_addFeature_L58a nw0_1 nw0_5 nw0_11 x_15 ((2147483647 - (0 : Int32).toInt).toNat + 1) (0 : Int32) c_h_sixteenths) else (
    let w_244 := F_keepAt_3 c_h_turnedFeatures h_features 1
    let nw0_241 : Nat → Int32 := w_244
    let x_245 : Int32 := (h_features + 1)
    F_H_addFeature_L58b nw0_1 nw0_5 nw0_241 x_245 ((2147483647 - (0 : Int32).toInt).toNat + 1) (0 : Int32) c_h_sixteenths)) := rfl
noncomputable def F_H_setLent (h_keys : Int32) (h_lent : Int32) (x : Int32) (y : Int32) : Int32 :=
  let w_3 := F_H_hasKey h_keys x
  let r_1 : Int32 := w_3
  if r_1 = 0 then (
    h_lent) else (
    if y = 0 then (
      let x_8 : Int32 := ((1 : Int32) <<< (x &&& 31))
      let x_9 : Int32 := (x_8 ^^^ (-1))
      let x_10 : Int32 := (h_lent &&& x_9)
      x_10) else (
      let x_13 : Int32 := ((1 : Int32) <<< (x &&& 31))
      let x_14 : Int32 := (h_lent ||| x_13)
      x_14))
theorem F_H_setLent_s (h_keys : Int32) (h_lent : Int32) (x : Int32) (y : Int32) : F_H_setLent h_keys h_lent x y = (
  let w_3 := F_H_hasKey h_keys x
  let r_1 : Int32 := w_3
  if r_1 = 0 then (
    h_lent) else (
    if y = 0 then (
      let x_8 : Int32 := ((1 : Int32) <<< (x &&& 31))
      let x_9 : Int32 := (x_8 ^^^ (-1))
      let x_10 : Int32 := (h_lent &&& x_9)
      x_10) else (
      let x_13 : Int32 := ((1 : Int32) <<< (x &&& 31))
      let x_14 : Int32 := (h_lent ||| x_13)
      x_14))) := rfl
noncomputable def F_H_addRing (h_rings : Int32) (c_h_onMany : Nat → Int32) : Int32 × (Nat → Int32) :=
  let w_4 := F_keepAt_3 c_h_onMany h_rings 0
  let nw0_1 : Nat → Int32 := w_4
  ((h_rings + 1), nw0_1)
theorem F_H_addRing_s (h_rings : Int32) (c_h_onMany : Nat → Int32) : F_H_addRing h_rings c_h_onMany = (
  let w_4 := F_keepAt_3 c_h_onMany h_rings 0
  let nw0_1 : Nat → Int32 := w_4
  ((h_rings + 1), nw0_1)) := rfl
noncomputable def F_H_addDoor (h_doors : Int32) (c_h_wanted : Nat → Int32) (c_h_openers : Nat → Int32) (x : Int32) : Int32 × (Nat → Int32) × (Nat → Int32) :=
  let w_4 := F_keepAt_5 c_h_wanted h_doors x
  let nw0_1 : Nat → Int32 := w_4
  let w_8 := F_keepAt_5 c_h_openers h_doors 0
  let nw0_5 : Nat → Int32 := w_8
  ((h_doors + 1), nw0_1, nw0_5)
theorem F_H_addDoor_s (h_doors : Int32) (c_h_wanted : Nat → Int32) (c_h_openers : Nat → Int32) (x : Int32) : F_H_addDoor h_doors c_h_wanted c_h_openers x = (
  let w_4 := F_keepAt_5 c_h_wanted h_doors x
  let nw0_1 : Nat → Int32 := w_4
  let w_8 := F_keepAt_5 c_h_openers h_doors 0
  let nw0_5 : Nat → Int32 := w_8
  ((h_doors + 1), nw0_1, nw0_5)) := rfl
noncomputable def F_H_addOpener (h_doors : Int32) (c_h_openers : Nat → Int32) (x : Int32) (y : Int32) : (Nat → Int32) :=
  let w_3 := F_H_openersOf h_doors c_h_openers x
  let r_1 : Int32 := w_3
  let x_4 : Int32 := ((1 : Int32) <<< (y &&& 31))
  let x_5 : Int32 := (r_1 ||| x_4)
  let w_9 := F_keepAt_5 c_h_openers x x_5
  let nw0_6 : Nat → Int32 := w_9
  nw0_6
theorem F_H_addOpener_s (h_doors : Int32) (c_h_openers : Nat → Int32) (x : Int32) (y : Int32) : F_H_addOpener h_doors c_h_openers x y = (
  let w_3 := F_H_openersOf h_doors c_h_openers x
  let r_1 : Int32 := w_3
  let x_4 : Int32 := ((1 : Int32) <<< (y &&& 31))
  let x_5 : Int32 := (r_1 ||| x_4)
  let w_9 := F_keepAt_5 c_h_openers x x_5
  let nw0_6 : Nat → Int32 := w_9
  nw0_6) := rfl
noncomputable def F_H_addToRound (h_roundMany : Int32) (c_h_roundDoors : Nat → Int32) (x : Int32) : Int32 × (Nat → Int32) :=
  let w_4 := F_keepAt_12 c_h_roundDoors h_roundMany x
  let nw0_1 : Nat → Int32 := w_4
  ((h_roundMany + 1), nw0_1)
theorem F_H_addToRound_s (h_roundMany : Int32) (c_h_roundDoors : Nat → Int32) (x : Int32) : F_H_addToRound h_roundMany c_h_roundDoors x = (
  let w_4 := F_keepAt_12 c_h_roundDoors h_roundMany x
  let nw0_1 : Nat → Int32 := w_4
  ((h_roundMany + 1), nw0_1)) := rfl
noncomputable def F_H_layAt (h_rings : Int32) (c_h_on : Nat → Int32) (c_h_onMany : Nat → Int32) (x : Int32) (y : Int32) (k : Int32) : (Nat → Int32) :=
  if y < 0 then (
    c_h_on) else (
    let w_7 := F_H_manyOn h_rings c_h_onMany x
    let r_5 : Int32 := w_7
    if r_5 ≤ y then (
      c_h_on) else (
      let x_12 : Int32 := (x * 10)
      let x_13 : Int32 := (x_12 + y)
      let w_17 := F_keepAt_30 c_h_on x_13 k
      let nw0_14 : Nat → Int32 := w_17
      nw0_14))
theorem F_H_layAt_s (h_rings : Int32) (c_h_on : Nat → Int32) (c_h_onMany : Nat → Int32) (x : Int32) (y : Int32) (k : Int32) : F_H_layAt h_rings c_h_on c_h_onMany x y k = (
  if y < 0 then (
    c_h_on) else (
    let w_7 := F_H_manyOn h_rings c_h_onMany x
    let r_5 : Int32 := w_7
    if r_5 ≤ y then (
      c_h_on) else (
      let x_12 : Int32 := (x * 10)
      let x_13 : Int32 := (x_12 + y)
      let w_17 := F_keepAt_30 c_h_on x_13 k
      let nw0_14 : Nat → Int32 := w_17
      nw0_14))) := rfl
noncomputable def F_H_putOn_L39a (h_rings : Int32) (x : Int32) (y : Int32) (k : Int32) (nw0_13 : Nat → Int32) : Nat → Int32 → (Nat → Int32) → ((Nat → Int32) × (Nat → Int32)) := fun k9 => Nat.rec (motive := fun _ => Int32 → (Nat → Int32) → ((Nat → Int32) × (Nat → Int32))) (fun _ _ => default) (fun _ (G_L39a : Int32 → (Nat → Int32) → ((Nat → Int32) × (Nat → Int32))) => fun (v_39 : Int32) (g_40 : Nat → Int32) =>
    if v_39 ≤ k then (
      let w_62 := F_H_layAt h_rings g_40 nw0_13 y k x
      let nw0_59 : Nat → Int32 := w_62
      (nw0_59, nw0_13)) else (
      let w_67 := F_H_keyOn h_rings g_40 nw0_13 y (v_39 - 1)
      let r_65 : Int32 := w_67
      let w_71 := F_H_layAt h_rings g_40 nw0_13 y v_39 r_65
      let nw0_68 : Nat → Int32 := w_71
      G_L39a (v_39 + (-1)) nw0_68)) k9
theorem F_H_putOn_L39a_s (h_rings : Int32) (x : Int32) (y : Int32) (k : Int32) (nw0_13 : Nat → Int32) (n9 : Nat) (v_39 : Int32) (g_40 : Nat → Int32) : F_H_putOn_L39a h_rings x y k nw0_13 (n9 + 1) v_39 g_40 = (
    if v_39 ≤ k then (
      let w_62 := F_H_layAt h_rings g_40 nw0_13 y k x
      let nw0_59 : Nat → Int32 := w_62
      (nw0_59, nw0_13)) else (
      let w_67 := F_H_keyOn h_rings g_40 nw0_13 y (v_39 - 1)
      let r_65 : Int32 := w_67
      let w_71 := F_H_layAt h_rings g_40 nw0_13 y v_39 r_65
      let nw0_68 : Nat → Int32 := w_71
      (F_H_putOn_L39a h_rings x y k nw0_13 n9) (v_39 + (-1)) nw0_68)) := rfl
noncomputable def F_H_putOn (h_rings : Int32) (c_h_on : Nat → Int32) (c_h_onMany : Nat → Int32) (x : Int32) (y : Int32) (k : Int32) : (Nat → Int32) × (Nat → Int32) :=
  let w_3 := F_H_manyOn h_rings c_h_onMany y
  let r_1 : Int32 := w_3
  let w_6 := F_H_hasRing h_rings y
  let r_4 : Int32 := w_6
  if r_4 = 0 then (
    (c_h_on, c_h_onMany)) else (
    if r_1 < 10 then (
      let w_16 := F_keepAt_3 c_h_onMany y (r_1 + 1)
      let nw0_13 : Nat → Int32 := w_16
      F_H_putOn_L39a h_rings x y k nw0_13 ((r_1.toInt + 2147483648).toNat + 1) r_1 c_h_on) else (
      (c_h_on, c_h_onMany)))
theorem F_H_putOn_s (h_rings : Int32) (c_h_on : Nat → Int32) (c_h_onMany : Nat → Int32) (x : Int32) (y : Int32) (k : Int32) : F_H_putOn h_rings c_h_on c_h_onMany x y k = (
  let w_3 := F_H_manyOn h_rings c_h_onMany y
  let r_1 : Int32 := w_3
  let w_6 := F_H_hasRing h_rings y
  let r_4 : Int32 := w_6
  if r_4 = 0 then (
    (c_h_on, c_h_onMany)) else (
    if r_1 < 10 then (
      let w_16 := F_keepAt_3 c_h_onMany y (r_1 + 1)
      let nw0_13 : Nat → Int32 := w_16
      F_H_putOn_L39a h_rings x y k nw0_13 ((r_1.toInt + 2147483648).toNat + 1) r_1 c_h_on) else (
      (c_h_on, c_h_onMany)))) := rfl
noncomputable def F_H_takeOff_L25a (h_rings : Int32) (c_h_onMany : Nat → Int32) (y : Int32) (r_6 : Int32) : Nat → Int32 → (Nat → Int32) → ((Nat → Int32) × (Nat → Int32)) := fun k9 => Nat.rec (motive := fun _ => Int32 → (Nat → Int32) → ((Nat → Int32) × (Nat → Int32))) (fun _ _ => default) (fun _ (G_L25a : Int32 → (Nat → Int32) → ((Nat → Int32) × (Nat → Int32))) => fun (v_31 : Int32) (g_32 : Nat → Int32) =>
    if (r_6 - 1) ≤ v_31 then (
      let w_54 := F_keepAt_3 c_h_onMany y (r_6 - 1)
      let nw0_51 : Nat → Int32 := w_54
      (g_32, nw0_51)) else (
      let w_59 := F_H_keyOn h_rings g_32 c_h_onMany y (v_31 + 1)
      let r_57 : Int32 := w_59
      let w_63 := F_H_layAt h_rings g_32 c_h_onMany y v_31 r_57
      let nw0_60 : Nat → Int32 := w_63
      G_L25a (v_31 + 1) nw0_60)) k9
theorem F_H_takeOff_L25a_s (h_rings : Int32) (c_h_onMany : Nat → Int32) (y : Int32) (r_6 : Int32) (n9 : Nat) (v_31 : Int32) (g_32 : Nat → Int32) : F_H_takeOff_L25a h_rings c_h_onMany y r_6 (n9 + 1) v_31 g_32 = (
    if (r_6 - 1) ≤ v_31 then (
      let w_54 := F_keepAt_3 c_h_onMany y (r_6 - 1)
      let nw0_51 : Nat → Int32 := w_54
      (g_32, nw0_51)) else (
      let w_59 := F_H_keyOn h_rings g_32 c_h_onMany y (v_31 + 1)
      let r_57 : Int32 := w_59
      let w_63 := F_H_layAt h_rings g_32 c_h_onMany y v_31 r_57
      let nw0_60 : Nat → Int32 := w_63
      (F_H_takeOff_L25a h_rings c_h_onMany y r_6 n9) (v_31 + 1) nw0_60)) := rfl
noncomputable def F_H_takeOff (h_rings : Int32) (c_h_on : Nat → Int32) (c_h_onMany : Nat → Int32) (x : Int32) (y : Int32) : (Nat → Int32) × (Nat → Int32) :=
  let w_3 := F_H_placeOn h_rings c_h_on c_h_onMany y x
  let r_1 : Int32 := w_3
  if r_1 = (-1) then (
    (c_h_on, c_h_onMany)) else (
    let w_8 := F_H_manyOn h_rings c_h_onMany y
    let r_6 : Int32 := w_8
    F_H_takeOff_L25a h_rings c_h_onMany y r_6 ((2147483647 - r_1.toInt).toNat + 1) r_1 c_h_on)
theorem F_H_takeOff_s (h_rings : Int32) (c_h_on : Nat → Int32) (c_h_onMany : Nat → Int32) (x : Int32) (y : Int32) : F_H_takeOff h_rings c_h_on c_h_onMany x y = (
  let w_3 := F_H_placeOn h_rings c_h_on c_h_onMany y x
  let r_1 : Int32 := w_3
  if r_1 = (-1) then (
    (c_h_on, c_h_onMany)) else (
    let w_8 := F_H_manyOn h_rings c_h_onMany y
    let r_6 : Int32 := w_8
    F_H_takeOff_L25a h_rings c_h_onMany y r_6 ((2147483647 - r_1.toInt).toNat + 1) r_1 c_h_on)) := rfl
noncomputable def F_SL_charAt (i : Nat) (j : Int32) : Int32 :=
  let x_4 : Int32 := ((zlb i).getD (j : Int32).toNatClampNeg 0)
  let x_5 : Int32 := (x_4 &&& 255)
  let x_6 : Int32 := (((x_5 : Int32).toUInt32 % 65536).toInt32)
  x_6
theorem F_SL_charAt_s (i : Nat) (j : Int32) : F_SL_charAt i j = (
  let x_4 : Int32 := ((zlb i).getD (j : Int32).toNatClampNeg 0)
  let x_5 : Int32 := (x_4 &&& 255)
  let x_6 : Int32 := (((x_5 : Int32).toUInt32 % 65536).toInt32)
  x_6) := rfl
noncomputable def F_St_charAt (i : Nat) (j : Int32) : Int32 :=
  let w_5 := F_SL_charAt i j
  let r_3 : Int32 := w_5
  r_3
theorem F_St_charAt_s (i : Nat) (j : Int32) : F_St_charAt i j = (
  let w_5 := F_SL_charAt i j
  let r_3 : Int32 := w_5
  r_3) := rfl
noncomputable def F_ja_min (i1 : Int32) (i2 : Int32) : Int32 :=
  if i2 < i1 then (
    i2) else (
    i1)
theorem F_ja_min_s (i1 : Int32) (i2 : Int32) : F_ja_min i1 i2 = (
  if i2 < i1 then (
    i2) else (
    i1)) := rfl
noncomputable def F_ja_floorMod (i1 : Int32) (i2 : Int32) : Int32 :=
  let x_1 : Int32 := (i1 - i1 / i2 * i2)
  let x_2 : Int32 := (i1 ^^^ i2)
  if 0 ≤ x_2 then (
    x_1) else (
    if x_1 = 0 then (
      x_1) else (
      let x_11 : Int32 := (x_1 + i2)
      x_11))
theorem F_ja_floorMod_s (i1 : Int32) (i2 : Int32) : F_ja_floorMod i1 i2 = (
  let x_1 : Int32 := (i1 - i1 / i2 * i2)
  let x_2 : Int32 := (i1 ^^^ i2)
  if 0 ≤ x_2 then (
    x_1) else (
    if x_1 = 0 then (
      x_1) else (
      let x_11 : Int32 := (x_1 + i2)
      x_11))) := rfl
noncomputable def F_Da_inRing (i1 : Int32) (i2 : Int32) : Int32 :=
  if i2 ≤ 0 then (
    (0 : Int32)) else (
    let w_7 := F_ja_floorMod i1 i2
    let r_5 : Int32 := w_7
    r_5)
theorem F_Da_inRing_s (i1 : Int32) (i2 : Int32) : F_Da_inRing i1 i2 = (
  if i2 ≤ 0 then (
    (0 : Int32)) else (
    let w_7 := F_ja_floorMod i1 i2
    let r_5 : Int32 := w_7
    r_5)) := rfl
noncomputable def F_ja_bitCount (k : Int32) : Int32 :=
  let x_1 : Int32 := (Int32.toUInt32 k >>> (Int32.toUInt32 (1 : Int32) &&& Int32.toUInt32 31)).toInt32
  let x_2 : Int32 := (x_1 &&& 1431655765)
  let x_3 : Int32 := (k - x_2)
  let x_4 : Int32 := (x_3 &&& 858993459)
  let x_5 : Int32 := (Int32.toUInt32 x_3 >>> (Int32.toUInt32 (2 : Int32) &&& Int32.toUInt32 31)).toInt32
  let x_6 : Int32 := (x_5 &&& 858993459)
  let x_7 : Int32 := (x_4 + x_6)
  let x_8 : Int32 := (Int32.toUInt32 x_7 >>> (Int32.toUInt32 (4 : Int32) &&& Int32.toUInt32 31)).toInt32
  let x_9 : Int32 := (x_7 + x_8)
  let x_10 : Int32 := (x_9 &&& 252645135)
  let x_11 : Int32 := (Int32.toUInt32 x_10 >>> (Int32.toUInt32 (8 : Int32) &&& Int32.toUInt32 31)).toInt32
  let x_12 : Int32 := (x_10 + x_11)
  let x_13 : Int32 := (Int32.toUInt32 x_12 >>> (Int32.toUInt32 (16 : Int32) &&& Int32.toUInt32 31)).toInt32
  let x_14 : Int32 := (x_12 + x_13)
  let x_15 : Int32 := (x_14 &&& 63)
  x_15
theorem F_ja_bitCount_s (k : Int32) : F_ja_bitCount k = (
  let x_1 : Int32 := (Int32.toUInt32 k >>> (Int32.toUInt32 (1 : Int32) &&& Int32.toUInt32 31)).toInt32
  let x_2 : Int32 := (x_1 &&& 1431655765)
  let x_3 : Int32 := (k - x_2)
  let x_4 : Int32 := (x_3 &&& 858993459)
  let x_5 : Int32 := (Int32.toUInt32 x_3 >>> (Int32.toUInt32 (2 : Int32) &&& Int32.toUInt32 31)).toInt32
  let x_6 : Int32 := (x_5 &&& 858993459)
  let x_7 : Int32 := (x_4 + x_6)
  let x_8 : Int32 := (Int32.toUInt32 x_7 >>> (Int32.toUInt32 (4 : Int32) &&& Int32.toUInt32 31)).toInt32
  let x_9 : Int32 := (x_7 + x_8)
  let x_10 : Int32 := (x_9 &&& 252645135)
  let x_11 : Int32 := (Int32.toUInt32 x_10 >>> (Int32.toUInt32 (8 : Int32) &&& Int32.toUInt32 31)).toInt32
  let x_12 : Int32 := (x_10 + x_11)
  let x_13 : Int32 := (Int32.toUInt32 x_12 >>> (Int32.toUInt32 (16 : Int32) &&& Int32.toUInt32 31)).toInt32
  let x_14 : Int32 := (x_12 + x_13)
  let x_15 : Int32 := (x_14 &&& 63)
  x_15) := rfl
noncomputable def F_Te_byteAt (t_length : Int32) (c_tape : Nat → Int32) (k : Int32) : Int32 :=
  if k < 0 then (
    (-1 : Int32)) else (
    if t_length ≤ k then (
      (-1 : Int32)) else (
      if 900 ≤ k then (
        (-1 : Int32)) else (
        let x_13 : Int32 := (c_tape (k : Int32).toNatClampNeg)
        let x_14 : Int32 := (x_13 &&& 255)
        x_14)))
theorem F_Te_byteAt_s (t_length : Int32) (c_tape : Nat → Int32) (k : Int32) : F_Te_byteAt t_length c_tape k = (
  if k < 0 then (
    (-1 : Int32)) else (
    if t_length ≤ k then (
      (-1 : Int32)) else (
      if 900 ≤ k then (
        (-1 : Int32)) else (
        let x_13 : Int32 := (c_tape (k : Int32).toNatClampNeg)
        let x_14 : Int32 := (x_13 &&& 255)
        x_14)))) := rfl
noncomputable def F_Te_goesOn (t_kind : Int32) (t_fault : Int32) : Int32 :=
  if t_fault = 0 then (
    if t_kind = 0 then (
      (0 : Int32)) else (
      (1 : Int32))) else (
    (0 : Int32))
theorem F_Te_goesOn_s (t_kind : Int32) (t_fault : Int32) : F_Te_goesOn t_kind t_fault = (
  if t_fault = 0 then (
    if t_kind = 0 then (
      (0 : Int32)) else (
      (1 : Int32))) else (
    (0 : Int32))) := rfl
noncomputable def F_Te_hasRoom (t_fed : Int32) (k : Int32) : Int32 :=
  let x_1 : Int32 := (t_fed + k)
  if 900 < x_1 then (
    (0 : Int32)) else (
    (1 : Int32))
theorem F_Te_hasRoom_s (t_fed : Int32) (k : Int32) : F_Te_hasRoom t_fed k = (
  let x_1 : Int32 := (t_fed + k)
  if 900 < x_1 then (
    (0 : Int32)) else (
    (1 : Int32))) := rfl
noncomputable def F_Te_append_L3a (k : Int32) : Nat → Int32 → Int32 → (Nat → Int32) → (Int32 × (Nat → Int32)) := fun k9 => Nat.rec (motive := fun _ => Int32 → Int32 → (Nat → Int32) → (Int32 × (Nat → Int32))) (fun _ _ _ => default) (fun _ (G_L3a : Int32 → Int32 → (Nat → Int32) → (Int32 × (Nat → Int32))) => fun (v_25 : Int32) (v_26 : Int32) (g_27 : Nat → Int32) =>
    if v_25 < 0 then (
      (v_26, g_27)) else (
      if v_26 < 0 then (
        G_L3a (v_25 + (-8)) v_26 g_27) else (
        if 900 ≤ v_26 then (
          G_L3a (v_25 + (-8)) v_26 g_27) else (
          let x_55 : Int32 := (k >>> (v_25 &&& 31))
          let x_56 : Int32 := ((x_55).toInt8.toInt32)
          let g_57 : Nat → Int32 := (upd g_27 (v_26 : Int32).toNatClampNeg (vp_nar .byte x_56))
          G_L3a (v_25 + (-8)) (v_26 + 1) g_57)))) k9
theorem F_Te_append_L3a_s (k : Int32) (n9 : Nat) (v_25 : Int32) (v_26 : Int32) (g_27 : Nat → Int32) : F_Te_append_L3a k (n9 + 1) v_25 v_26 g_27 = (
    if v_25 < 0 then (
      (v_26, g_27)) else (
      if v_26 < 0 then (
        (F_Te_append_L3a k n9) (v_25 + (-8)) v_26 g_27) else (
        if 900 ≤ v_26 then (
          (F_Te_append_L3a k n9) (v_25 + (-8)) v_26 g_27) else (
          let x_55 : Int32 := (k >>> (v_25 &&& 31))
          let x_56 : Int32 := ((x_55).toInt8.toInt32)
          let g_57 : Nat → Int32 := (upd g_27 (v_26 : Int32).toNatClampNeg (vp_nar .byte x_56))
          (F_Te_append_L3a k n9) (v_25 + (-8)) (v_26 + 1) g_57)))) := rfl
noncomputable def F_Te_append (t_fed : Int32) (c_tape : Nat → Int32) (k : Int32) : Int32 × (Nat → Int32) :=
  F_Te_append_L3a k (((24 : Int32).toInt + 2147483648).toNat + 1) (24 : Int32) t_fed c_tape
theorem F_Te_append_s (t_fed : Int32) (c_tape : Nat → Int32) (k : Int32) : F_Te_append t_fed c_tape k = (
  F_Te_append_L3a k (((24 : Int32).toInt + 2147483648).toNat + 1) (24 : Int32) t_fed c_tape) := rfl
noncomputable def F_Te_isBlank (k : Int32) : Int32 :=
  if k = 10 then (
    (1 : Int32)) else (
    if k = 32 then (
      (1 : Int32)) else (
      (0 : Int32)))
theorem F_Te_isBlank_s (k : Int32) : F_Te_isBlank k = (
  if k = 10 then (
    (1 : Int32)) else (
    if k = 32 then (
      (1 : Int32)) else (
      (0 : Int32)))) := rfl
noncomputable def F_Te_isLetter (k : Int32) : Int32 :=
  if k < 97 then (
    (0 : Int32)) else (
    if 122 < k then (
      (0 : Int32)) else (
      (1 : Int32)))
theorem F_Te_isLetter_s (k : Int32) : F_Te_isLetter k = (
  if k < 97 then (
    (0 : Int32)) else (
    if 122 < k then (
      (0 : Int32)) else (
      (1 : Int32)))) := rfl
noncomputable def F_Te_isDigit (k : Int32) : Int32 :=
  if k < 48 then (
    (0 : Int32)) else (
    if 57 < k then (
      (0 : Int32)) else (
      (1 : Int32)))
theorem F_Te_isDigit_s (k : Int32) : F_Te_isDigit k = (
  if k < 48 then (
    (0 : Int32)) else (
    if 57 < k then (
      (0 : Int32)) else (
      (1 : Int32)))) := rfl
noncomputable def F_Te_isSignOf (k : Int32) : Int32 :=
  if k = 59 then (
    (1 : Int32)) else (
    if k = 60 then (
      (1 : Int32)) else (
      if k = 62 then (
        (1 : Int32)) else (
        if k = 61 then (
          (1 : Int32)) else (
          (0 : Int32)))))
theorem F_Te_isSignOf_s (k : Int32) : F_Te_isSignOf k = (
  if k = 59 then (
    (1 : Int32)) else (
    if k = 60 then (
      (1 : Int32)) else (
      if k = 62 then (
        (1 : Int32)) else (
        if k = 61 then (
          (1 : Int32)) else (
          (0 : Int32)))))) := rfl
noncomputable def F_Te_readLetters_L5a (t_length : Int32) (t_start : Int32) (c_tape : Nat → Int32) : Nat → Int32 → Int64 → (Int32 × Int64) := fun k9 => Nat.rec (motive := fun _ => Int32 → Int64 → (Int32 × Int64)) (fun _ _ => default) (fun _ (G_L5a : Int32 → Int64 → (Int32 × Int64)) => fun (v_50 : Int32) (v_51 : Int64) =>
    if t_length ≤ v_50 then (
      let x_88 : Int32 := (v_50 - t_start)
      if x_88 ≤ 8 then (
        (v_50, v_51)) else (
        (v_50, (0 : Int64)))) else (
      let w_97 := F_Te_byteAt t_length c_tape v_50
      let r_95 : Int32 := w_97
      let w_100 := F_Te_isLetter r_95
      let r_98 : Int32 := w_100
      if r_98 = 0 then (
        let x_103 : Int32 := (v_50 - t_start)
        if x_103 ≤ 8 then (
          (v_50, v_51)) else (
          (v_50, (0 : Int64)))) else (
        let x_110 : Int32 := (v_50 - t_start)
        if 8 ≤ x_110 then (
          G_L5a (v_50 + 1) v_51) else (
          let x_115 : Int64 := (v_51 * 32)
          let w_118 := F_Te_byteAt t_length c_tape v_50
          let r_116 : Int32 := w_118
          let x_119 : Int64 := ((r_116).toInt64)
          let x_120 : Int64 := (x_115 + x_119)
          let x_121 : Int64 := (x_120 - 97)
          let x_122 : Int64 := (x_121 + 1)
          G_L5a (v_50 + 1) x_122)))) k9
theorem F_Te_readLetters_L5a_s (t_length : Int32) (t_start : Int32) (c_tape : Nat → Int32) (n9 : Nat) (v_50 : Int32) (v_51 : Int64) : F_Te_readLetters_L5a t_length t_start c_tape (n9 + 1) v_50 v_51 = (
    if t_length ≤ v_50 then (
      let x_88 : Int32 := (v_50 - t_start)
      if x_88 ≤ 8 then (
        (v_50, v_51)) else (
        (v_50, (0 : Int64)))) else (
      let w_97 := F_Te_byteAt t_length c_tape v_50
      let r_95 : Int32 := w_97
      let w_100 := F_Te_isLetter r_95
      let r_98 : Int32 := w_100
      if r_98 = 0 then (
        let x_103 : Int32 := (v_50 - t_start)
        if x_103 ≤ 8 then (
          (v_50, v_51)) else (
          (v_50, (0 : Int64)))) else (
        let x_110 : Int32 := (v_50 - t_start)
        if 8 ≤ x_110 then (
          (F_Te_readLetters_L5a t_length t_start c_tape n9) (v_50 + 1) v_51) else (
          let x_115 : Int64 := (v_51 * 32)
          let w_118 := F_Te_byteAt t_length c_tape v_50
          let r_116 : Int32 := w_118
          let x_119 : Int64 := ((r_116).toInt64)
          let x_120 : Int64 := (x_115 + x_119)
          let x_121 : Int64 := (x_120 - 97)
          let x_122 : Int64 := (x_121 + 1)
          (F_Te_readLetters_L5a t_length t_start c_tape n9) (v_50 + 1) x_122)))) := rfl
noncomputable def F_Te_readLetters (t_length : Int32) (t_start : Int32) (t_end : Int32) (c_tape : Nat → Int32) : Int32 × Int64 :=
  F_Te_readLetters_L5a t_length t_start c_tape ((2147483647 - t_end.toInt).toNat + 1) t_end (0 : Int64)
theorem F_Te_readLetters_s (t_length : Int32) (t_start : Int32) (t_end : Int32) (c_tape : Nat → Int32) : F_Te_readLetters t_length t_start t_end c_tape = (
  F_Te_readLetters_L5a t_length t_start c_tape ((2147483647 - t_end.toInt).toNat + 1) t_end (0 : Int64)) := rfl
noncomputable def F_Te_readDigits_L5a (t_length : Int32) (t_start : Int32) (c_tape : Nat → Int32) : Nat → Int32 → Int32 → (Int32 × Int32 × Int32) := fun k9 => Nat.rec (motive := fun _ => Int32 → Int32 → (Int32 × Int32 × Int32)) (fun _ _ => default) (fun _ (G_L5a : Int32 → Int32 → (Int32 × Int32 × Int32)) => fun (v_44 : Int32) (v_45 : Int32) =>
    if t_length ≤ v_44 then (
      let x_79 : Int32 := (v_44 - t_start)
      if x_79 ≤ 4 then (
        ((2 : Int32), v_44, v_45)) else (
        ((4 : Int32), v_44, v_45))) else (
      let w_88 := F_Te_byteAt t_length c_tape v_44
      let r_86 : Int32 := w_88
      let w_91 := F_Te_isDigit r_86
      let r_89 : Int32 := w_91
      if r_89 = 0 then (
        let x_94 : Int32 := (v_44 - t_start)
        if x_94 ≤ 4 then (
          ((2 : Int32), v_44, v_45)) else (
          ((4 : Int32), v_44, v_45))) else (
        let x_101 : Int32 := (v_44 - t_start)
        if 4 ≤ x_101 then (
          G_L5a (v_44 + 1) v_45) else (
          let x_106 : Int32 := (v_45 * 10)
          let w_109 := F_Te_byteAt t_length c_tape v_44
          let r_107 : Int32 := w_109
          let x_110 : Int32 := (x_106 + r_107)
          G_L5a (v_44 + 1) (x_110 - 48))))) k9
theorem F_Te_readDigits_L5a_s (t_length : Int32) (t_start : Int32) (c_tape : Nat → Int32) (n9 : Nat) (v_44 : Int32) (v_45 : Int32) : F_Te_readDigits_L5a t_length t_start c_tape (n9 + 1) v_44 v_45 = (
    if t_length ≤ v_44 then (
      let x_79 : Int32 := (v_44 - t_start)
      if x_79 ≤ 4 then (
        ((2 : Int32), v_44, v_45)) else (
        ((4 : Int32), v_44, v_45))) else (
      let w_88 := F_Te_byteAt t_length c_tape v_44
      let r_86 : Int32 := w_88
      let w_91 := F_Te_isDigit r_86
      let r_89 : Int32 := w_91
      if r_89 = 0 then (
        let x_94 : Int32 := (v_44 - t_start)
        if x_94 ≤ 4 then (
          ((2 : Int32), v_44, v_45)) else (
          ((4 : Int32), v_44, v_45))) else (
        let x_101 : Int32 := (v_44 - t_start)
        if 4 ≤ x_101 then (
          (F_Te_readDigits_L5a t_length t_start c_tape n9) (v_44 + 1) v_45) else (
          let x_106 : Int32 := (v_45 * 10)
          let w_109 := F_Te_byteAt t_length c_tape v_44
          let r_107 : Int32 := w_109
          let x_110 : Int32 := (x_106 + r_107)
          (F_Te_readDigits_L5a t_length t_start c_tape n9) (v_44 + 1) (x_110 - 48))))) := rfl
noncomputable def F_Te_readDigits (t_length : Int32) (t_start : Int32) (t_end : Int32) (c_tape : Nat → Int32) : Int32 × Int32 × Int32 :=
  F_Te_readDigits_L5a t_length t_start c_tape ((2147483647 - t_end.toInt).toNat + 1) t_end (0 : Int32)
theorem F_Te_readDigits_s (t_length : Int32) (t_start : Int32) (t_end : Int32) (c_tape : Nat → Int32) : F_Te_readDigits t_length t_start t_end c_tape = (
  F_Te_readDigits_L5a t_length t_start c_tape ((2147483647 - t_end.toInt).toNat + 1) t_end (0 : Int32)) := rfl
noncomputable def F_Te_advance_L8a (t_length : Int32) (t_number : Int32) (t_sign : Int32) (t_letters : Int64) (c_tape : Nat → Int32) : Nat → Int32 → (Int32 × Int32 × Int32 × Int32 × Int32 × Int64) := fun k9 => Nat.rec (motive := fun _ => Int32 → (Int32 × Int32 × Int32 × Int32 × Int32 × Int64)) (fun _ => default) (fun _ (G_L8a : Int32 → (Int32 × Int32 × Int32 × Int32 × Int32 × Int64)) => fun (v_26 : Int32) =>
    if t_length ≤ v_26 then (
      let w_115 := F_Te_byteAt t_length c_tape v_26
      let r_113 : Int32 := w_115
      if r_113 = (-1) then (
        ((0 : Int32), v_26, v_26, t_sign, t_number, t_letters)) else (
        let w_120 := F_Te_isLetter r_113
        let r_118 : Int32 := w_120
        if r_118 = 0 then (
          let w_125 := F_Te_isDigit r_113
          let r_123 : Int32 := w_125
          if r_123 = 0 then (
            let w_130 := F_Te_isSignOf r_113
            let r_128 : Int32 := w_130
            if r_128 = 0 then (
              ((4 : Int32), v_26, (v_26 + 1), r_113, t_number, t_letters)) else (
              ((3 : Int32), v_26, (v_26 + 1), r_113, t_number, t_letters))) else (
            let w_142 := F_Te_readDigits t_length v_26 v_26 c_tape
            let nw0_137 : Int32 := w_142.1
            let nw1_138 : Int32 := w_142.2.1
            let nw2_139 : Int32 := w_142.2.2
            (nw0_137, v_26, nw1_138, t_sign, nw2_139, t_letters))) else (
          let w_149 := F_Te_readLetters t_length v_26 v_26 c_tape
          let nw0_145 : Int32 := w_149.1
          let nw1_146 : Int64 := w_149.2
          ((1 : Int32), v_26, nw0_145, t_sign, t_number, nw1_146)))) else (
      let w_156 := F_Te_byteAt t_length c_tape v_26
      let r_154 : Int32 := w_156
      let w_159 := F_Te_isBlank r_154
      let r_157 : Int32 := w_159
      if r_157 = 0 then (
        let w_164 := F_Te_byteAt t_length c_tape v_26
        let r_162 : Int32 := w_164
        if r_162 = (-1) then (
          ((0 : Int32), v_26, v_26, t_sign, t_number, t_letters)) else (
          let w_169 := F_Te_isLetter r_162
          let r_167 : Int32 := w_169
          if r_167 = 0 then (
            let w_174 := F_Te_isDigit r_162
            let r_172 : Int32 := w_174
            if r_172 = 0 then (
              let w_179 := F_Te_isSignOf r_162
              let r_177 : Int32 := w_179
              if r_177 = 0 then (
                ((4 : Int32), v_26, (v_26 + 1), r_162, t_number, t_letters)) else (
                ((3 : Int32), v_26, (v_26 + 1), r_162, t_number, t_letters))) else (
              let w_191 := F_Te_readDigits t_length v_26 v_26 c_tape
              let nw0_186 : Int32 := w_191.1
              let nw1_187 : Int32 := w_191.2.1
              let nw2_188 : Int32 := w_191.2.2
              (nw0_186, v_26, nw1_187, t_sign, nw2_188, t_letters))) else (
            let w_198 := F_Te_readLetters t_length v_26 v_26 c_tape
            let nw0_194 : Int32 := w_198.1
            let nw1_195 : Int64 := w_198.2
            ((1 : Int32), v_26, nw0_194, t_sign, t_number, nw1_195)))) else (
        G_L8a (v_26 + 1)))) k9
theorem F_Te_advance_L8a_s (t_length : Int32) (t_number : Int32) (t_sign : Int32) (t_letters : Int64) (c_tape : Nat → Int32) (n9 : Nat) (v_26 : Int32) : F_Te_advance_L8a t_length t_number t_sign t_letters c_tape (n9 + 1) v_26 = (
    if t_length ≤ v_26 then (
      let w_115 := F_Te_byteAt t_length c_tape v_26
      let r_113 : Int32 := w_115
      if r_113 = (-1) then (
        ((0 : Int32), v_26, v_26, t_sign, t_number, t_letters)) else (
        let w_120 := F_Te_isLetter r_113
        let r_118 : Int32 := w_120
        if r_118 = 0 then (
          let w_125 := F_Te_isDigit r_113
          let r_123 : Int32 := w_125
          if r_123 = 0 then (
            let w_130 := F_Te_isSignOf r_113
            let r_128 : Int32 := w_130
            if r_128 = 0 then (
              ((4 : Int32), v_26, (v_26 + 1), r_113, t_number, t_letters)) else (
              ((3 : Int32), v_26, (v_26 + 1), r_113, t_number, t_letters))) else (
            let w_142 := F_Te_readDigits t_length v_26 v_26 c_tape
            let nw0_137 : Int32 := w_142.1
            let nw1_138 : Int32 := w_142.2.1
            let nw2_139 : Int32 := w_142.2.2
            (nw0_137, v_26, nw1_138, t_sign, nw2_139, t_letters))) else (
          let w_149 := F_Te_readLetters t_length v_26 v_26 c_tape
          let nw0_145 : Int32 := w_149.1
          let nw1_146 : Int64 := w_149.2
          ((1 : Int32), v_26, nw0_145, t_sign, t_number, nw1_146)))) else (
      let w_156 := F_Te_byteAt t_length c_tape v_26
      let r_154 : Int32 := w_156
      let w_159 := F_Te_isBlank r_154
      let r_157 : Int32 := w_159
      if r_157 = 0 then (
        let w_164 := F_Te_byteAt t_length c_tape v_26
        let r_162 : Int32 := w_164
        if r_162 = (-1) then (
          ((0 : Int32), v_26, v_26, t_sign, t_number, t_letters)) else (
          let w_169 := F_Te_isLetter r_162
          let r_167 : Int32 := w_169
          if r_167 = 0 then (
            let w_174 := F_Te_isDigit r_162
            let r_172 : Int32 := w_174
            if r_172 = 0 then (
              let w_179 := F_Te_isSignOf r_162
              let r_177 : Int32 := w_179
              if r_177 = 0 then (
                ((4 : Int32), v_26, (v_26 + 1), r_162, t_number, t_letters)) else (
                ((3 : Int32), v_26, (v_26 + 1), r_162, t_number, t_letters))) else (
              let w_191 := F_Te_readDigits t_length v_26 v_26 c_tape
              let nw0_186 : Int32 := w_191.1
              let nw1_187 : Int32 := w_191.2.1
              let nw2_188 : Int32 := w_191.2.2
              (nw0_186, v_26, nw1_187, t_sign, nw2_188, t_letters))) else (
            let w_198 := F_Te_readLetters t_length v_26 v_26 c_tape
            let nw0_194 : Int32 := w_198.1
            let nw1_195 : Int64 := w_198.2
            ((1 : Int32), v_26, nw0_194, t_sign, t_number, nw1_195)))) else (
        (F_Te_advance_L8a t_length t_number t_sign t_letters c_tape n9) (v_26 + 1)))) := rfl
noncomputable def F_Te_advance (t_length : Int32) (t_end : Int32) (t_number : Int32) (t_sign : Int32) (t_letters : Int64) (c_tape : Nat → Int32) : Int32 × Int32 × Int32 × Int32 × Int32 × Int64 :=
  F_Te_advance_L8a t_length t_number t_sign t_letters c_tape ((2147483647 - t_end.toInt).toNat + 1) t_end
theorem F_Te_advance_s (t_length : Int32) (t_end : Int32) (t_number : Int32) (t_sign : Int32) (t_letters : Int64) (c_tape : Nat → Int32) : F_Te_advance t_length t_end t_number t_sign t_letters c_tape = (
  F_Te_advance_L8a t_length t_number t_sign t_letters c_tape ((2147483647 - t_end.toInt).toNat + 1) t_end) := rfl
noncomputable def F_Te_begin (t_number : Int32) (t_sign : Int32) (t_letters : Int64) (c_tape : Nat → Int32) (k : Int32) : Int32 × Int32 × Int32 × Int32 × Int32 × Int32 × Int32 × Int64 × Int32 × Int32 :=
  let w_9 := F_Te_advance k 0 t_number t_sign t_letters c_tape
  let nw0_1 : Int32 := w_9.1
  let nw1_2 : Int32 := w_9.2.1
  let nw2_3 : Int32 := w_9.2.2.1
  let nw3_4 : Int32 := w_9.2.2.2.1
  let nw4_5 : Int32 := w_9.2.2.2.2.1
  let nw5_6 : Int64 := w_9.2.2.2.2.2
  ((0 : Int32), k, nw0_1, nw1_2, nw2_3, nw4_5, nw3_4, nw5_6, (0 : Int32), (-1 : Int32))
theorem F_Te_begin_s (t_number : Int32) (t_sign : Int32) (t_letters : Int64) (c_tape : Nat → Int32) (k : Int32) : F_Te_begin t_number t_sign t_letters c_tape k = (
  let w_9 := F_Te_advance k 0 t_number t_sign t_letters c_tape
  let nw0_1 : Int32 := w_9.1
  let nw1_2 : Int32 := w_9.2.1
  let nw2_3 : Int32 := w_9.2.2.1
  let nw3_4 : Int32 := w_9.2.2.2.1
  let nw4_5 : Int32 := w_9.2.2.2.2.1
  let nw5_6 : Int64 := w_9.2.2.2.2.2
  ((0 : Int32), k, nw0_1, nw1_2, nw2_3, nw4_5, nw3_4, nw5_6, (0 : Int32), (-1 : Int32))) := rfl
noncomputable def F_Te_is_L28a (t_length : Int32) (t_start : Int32) (c_tape : Nat → Int32) (i : Nat) : Nat → Int32 → Int32 := fun k9 => Nat.rec (motive := fun _ => Int32 → Int32) (fun _ => default) (fun _ (G_L28a : Int32 → Int32) => fun (v_38 : Int32) =>
    if (nI (zlb i).length) ≤ v_38 then (
      (1 : Int32)) else (
      let x_63 : Int32 := (t_start + v_38)
      let w_66 := F_Te_byteAt t_length c_tape x_63
      let r_64 : Int32 := w_66
      let w_69 := F_St_charAt i v_38
      let r_67 : Int32 := w_69
      if r_64 = r_67 then (
        G_L28a (v_38 + 1)) else (
        (0 : Int32)))) k9
theorem F_Te_is_L28a_s (t_length : Int32) (t_start : Int32) (c_tape : Nat → Int32) (i : Nat) (n9 : Nat) (v_38 : Int32) : F_Te_is_L28a t_length t_start c_tape i (n9 + 1) v_38 = (
    if (nI (zlb i).length) ≤ v_38 then (
      (1 : Int32)) else (
      let x_63 : Int32 := (t_start + v_38)
      let w_66 := F_Te_byteAt t_length c_tape x_63
      let r_64 : Int32 := w_66
      let w_69 := F_St_charAt i v_38
      let r_67 : Int32 := w_69
      if r_64 = r_67 then (
        (F_Te_is_L28a t_length t_start c_tape i n9) (v_38 + 1)) else (
        (0 : Int32)))) := rfl
noncomputable def F_Te_is (t_length : Int32) (t_kind : Int32) (t_start : Int32) (t_end : Int32) (c_tape : Nat → Int32) (i : Nat) : Int32 :=
  if t_kind = 1 then (
    let x_5 : Int32 := (t_end - t_start)
    if x_5 = (nI (zlb i).length) then (
      F_Te_is_L28a t_length t_start c_tape i ((2147483647 - (0 : Int32).toInt).toNat + 1) (0 : Int32)) else (
      (0 : Int32))) else (
    (0 : Int32))
theorem F_Te_is_s (t_length : Int32) (t_kind : Int32) (t_start : Int32) (t_end : Int32) (c_tape : Nat → Int32) (i : Nat) : F_Te_is t_length t_kind t_start t_end c_tape i = (
  if t_kind = 1 then (
    let x_5 : Int32 := (t_end - t_start)
    if x_5 = (nI (zlb i).length) then (
      F_Te_is_L28a t_length t_start c_tape i ((2147483647 - (0 : Int32).toInt).toNat + 1) (0 : Int32)) else (
      (0 : Int32))) else (
    (0 : Int32))) := rfl
noncomputable def F_Te_isSign (t_kind : Int32) (t_sign : Int32) (k : Int32) : Int32 :=
  if t_kind = 3 then (
    if t_sign = k then (
      (1 : Int32)) else (
      (0 : Int32))) else (
    (0 : Int32))
theorem F_Te_isSign_s (t_kind : Int32) (t_sign : Int32) (k : Int32) : F_Te_isSign t_kind t_sign k = (
  if t_kind = 3 then (
    if t_sign = k then (
      (1 : Int32)) else (
      (0 : Int32))) else (
    (0 : Int32))) := rfl
noncomputable def F_Te_isNumber (t_kind : Int32) : Int32 :=
  if t_kind = 2 then (
    (1 : Int32)) else (
    (0 : Int32))
theorem F_Te_isNumber_s (t_kind : Int32) : F_Te_isNumber t_kind = (
  if t_kind = 2 then (
    (1 : Int32)) else (
    (0 : Int32))) := rfl
noncomputable def F_Te_isName (t_length : Int32) (t_kind : Int32) (t_start : Int32) (t_end : Int32) (t_letters : Int64) (c_tape : Nat → Int32) : Int32 :=
  if t_kind = 1 then (
    if (lg_cmp t_letters 0) = 0 then (
      (0 : Int32)) else (
      let w_9 := F_Te_is t_length t_kind t_start t_end c_tape 1
      let r_7 : Int32 := w_9
      if r_7 = 0 then (
        let w_16 := F_Te_is t_length t_kind t_start t_end c_tape 2
        let r_14 : Int32 := w_16
        if r_14 = 0 then (
          let w_23 := F_Te_is t_length t_kind t_start t_end c_tape 3
          let r_21 : Int32 := w_23
          if r_21 = 0 then (
            let w_30 := F_Te_is t_length t_kind t_start t_end c_tape 4
            let r_28 : Int32 := w_30
            if r_28 = 0 then (
              let w_37 := F_Te_is t_length t_kind t_start t_end c_tape 5
              let r_35 : Int32 := w_37
              if r_35 = 0 then (
                let w_44 := F_Te_is t_length t_kind t_start t_end c_tape 6
                let r_42 : Int32 := w_44
                if r_42 = 0 then (
                  let w_51 := F_Te_is t_length t_kind t_start t_end c_tape 7
                  let r_49 : Int32 := w_51
                  if r_49 = 0 then (
                    let w_58 := F_Te_is t_length t_kind t_start t_end c_tape 8
                    let r_56 : Int32 := w_58
                    if r_56 = 0 then (
                      let w_65 := F_Te_is t_length t_kind t_start t_end c_tape 9
                      let r_63 : Int32 := w_65
                      if r_63 = 0 then (
                        let w_72 := F_Te_is t_length t_kind t_start t_end c_tape 10
                        let r_70 : Int32 := w_72
                        if r_70 = 0 then (
                          let w_79 := F_Te_is t_length t_kind t_start t_end c_tape 11
                          let r_77 : Int32 := w_79
                          if r_77 = 0 then (
                            let w_86 := F_Te_is t_length t_kind t_start t_end c_tape 12
                            let r_84 : Int32 := w_86
                            if r_84 = 0 then (
                              let w_93 := F_Te_is t_length t_kind t_start t_end c_tape 13
                              let r_91 : Int32 := w_93
                              if r_91 = 0 then (
                                let w_100 := F_Te_is t_length t_kind t_start t_end c_tape 14
                                let r_98 : Int32 := w_100
                                if r_98 = 0 then (
                                  let w_107 := F_Te_is t_length t_kind t_start t_end c_tape 15
                                  let r_105 : Int32 := w_107
                                  if r_105 = 0 then (
                                    (1 : Int32)) else (
                                    (0 : Int32))) else (
                                  (0 : Int32))) else (
                                (0 : Int32))) else (
                              (0 : Int32))) else (
                            (0 : Int32))) else (
                          (0 : Int32))) else (
                        (0 : Int32))) else (
                      (0 : Int32))) else (
                    (0 : Int32))) else (
                  (0 : Int32))) else (
                (0 : Int32))) else (
              (0 : Int32))) else (
            (0 : Int32))) else (
          (0 : Int32))) else (
        (0 : Int32)))) else (
    (0 : Int32))
theorem F_Te_isName_s (t_length : Int32) (t_kind : Int32) (t_start : Int32) (t_end : Int32) (t_letters : Int64) (c_tape : Nat → Int32) : F_Te_isName t_length t_kind t_start t_end t_letters c_tape = (
  if t_kind = 1 then (
    if (lg_cmp t_letters 0) = 0 then (
      (0 : Int32)) else (
      let w_9 := F_Te_is t_length t_kind t_start t_end c_tape 1
      let r_7 : Int32 := w_9
      if r_7 = 0 then (
        let w_16 := F_Te_is t_length t_kind t_start t_end c_tape 2
        let r_14 : Int32 := w_16
        if r_14 = 0 then (
          let w_23 := F_Te_is t_length t_kind t_start t_end c_tape 3
          let r_21 : Int32 := w_23
          if r_21 = 0 then (
            let w_30 := F_Te_is t_length t_kind t_start t_end c_tape 4
            let r_28 : Int32 := w_30
            if r_28 = 0 then (
              let w_37 := F_Te_is t_length t_kind t_start t_end c_tape 5
              let r_35 : Int32 := w_37
              if r_35 = 0 then (
                let w_44 := F_Te_is t_length t_kind t_start t_end c_tape 6
                let r_42 : Int32 := w_44
                if r_42 = 0 then (
                  let w_51 := F_Te_is t_length t_kind t_start t_end c_tape 7
                  let r_49 : Int32 := w_51
                  if r_49 = 0 then (
                    let w_58 := F_Te_is t_length t_kind t_start t_end c_tape 8
                    let r_56 : Int32 := w_58
                    if r_56 = 0 then (
                      let w_65 := F_Te_is t_length t_kind t_start t_end c_tape 9
                      let r_63 : Int32 := w_65
                      if r_63 = 0 then (
                        let w_72 := F_Te_is t_length t_kind t_start t_end c_tape 10
                        let r_70 : Int32 := w_72
                        if r_70 = 0 then (
                          let w_79 := F_Te_is t_length t_kind t_start t_end c_tape 11
                          let r_77 : Int32 := w_79
                          if r_77 = 0 then (
                            let w_86 := F_Te_is t_length t_kind t_start t_end c_tape 12
                            let r_84 : Int32 := w_86
                            if r_84 = 0 then (
                              let w_93 := F_Te_is t_length t_kind t_start t_end c_tape 13
                              let r_91 : Int32 := w_93
                              if r_91 = 0 then (
                                let w_100 := F_Te_is t_length t_kind t_start t_end c_tape 14
                                let r_98 : Int32 := w_100
                                if r_98 = 0 then (
                                  let w_107 := F_Te_is t_length t_kind t_start t_end c_tape 15
                                  let r_105 : Int32 := w_107
                                  if r_105 = 0 then (
                                    (1 : Int32)) else (
                                    (0 : Int32))) else (
                                  (0 : Int32))) else (
                                (0 : Int32))) else (
                              (0 : Int32))) else (
                            (0 : Int32))) else (
                          (0 : Int32))) else (
                        (0 : Int32))) else (
                      (0 : Int32))) else (
                    (0 : Int32))) else (
                  (0 : Int32))) else (
                (0 : Int32))) else (
              (0 : Int32))) else (
            (0 : Int32))) else (
          (0 : Int32))) else (
        (0 : Int32)))) else (
    (0 : Int32))) := rfl
noncomputable def F_Te_refuse (t_kind : Int32) (t_start : Int32) (t_fault : Int32) (t_faultPlace : Int32) (k : Int32) : Int32 × Int32 × Int32 :=
  if t_fault = 0 then (
    if t_kind = 4 then (
      ((0 : Int32), (1 : Int32), t_start)) else (
      ((0 : Int32), k, t_start))) else (
    ((0 : Int32), t_fault, t_faultPlace))
theorem F_Te_refuse_s (t_kind : Int32) (t_start : Int32) (t_fault : Int32) (t_faultPlace : Int32) (k : Int32) : F_Te_refuse t_kind t_start t_fault t_faultPlace k = (
  if t_fault = 0 then (
    if t_kind = 4 then (
      ((0 : Int32), (1 : Int32), t_start)) else (
      ((0 : Int32), k, t_start))) else (
    ((0 : Int32), t_fault, t_faultPlace))) := rfl
noncomputable def F_Te_takeSign (t_length : Int32) (t_kind : Int32) (t_start : Int32) (t_end : Int32) (t_number : Int32) (t_sign : Int32) (t_letters : Int64) (t_fault : Int32) (t_faultPlace : Int32) (c_tape : Nat → Int32) (k : Int32) : Int32 × Int32 × Int32 × Int32 × Int32 × Int32 × Int64 × Int32 × Int32 :=
  let w_3 := F_Te_isSign t_kind t_sign k
  let r_1 : Int32 := w_3
  if r_1 = 0 then (
    let w_21 := F_Te_refuse t_kind t_start t_fault t_faultPlace 2
    let r_19 : Int32 := w_21.1
    let nw0_17 : Int32 := w_21.2.1
    let nw1_18 : Int32 := w_21.2.2
    (r_19, t_kind, t_start, t_end, t_number, t_sign, t_letters, nw0_17, nw1_18)) else (
    let w_14 := F_Te_advance t_length t_end t_number t_sign t_letters c_tape
    let nw0_6 : Int32 := w_14.1
    let nw1_7 : Int32 := w_14.2.1
    let nw2_8 : Int32 := w_14.2.2.1
    let nw3_9 : Int32 := w_14.2.2.2.1
    let nw4_10 : Int32 := w_14.2.2.2.2.1
    let nw5_11 : Int64 := w_14.2.2.2.2.2
    ((1 : Int32), nw0_6, nw1_7, nw2_8, nw4_10, nw3_9, nw5_11, t_fault, t_faultPlace))
theorem F_Te_takeSign_s (t_length : Int32) (t_kind : Int32) (t_start : Int32) (t_end : Int32) (t_number : Int32) (t_sign : Int32) (t_letters : Int64) (t_fault : Int32) (t_faultPlace : Int32) (c_tape : Nat → Int32) (k : Int32) : F_Te_takeSign t_length t_kind t_start t_end t_number t_sign t_letters t_fault t_faultPlace c_tape k = (
  let w_3 := F_Te_isSign t_kind t_sign k
  let r_1 : Int32 := w_3
  if r_1 = 0 then (
    let w_21 := F_Te_refuse t_kind t_start t_fault t_faultPlace 2
    let r_19 : Int32 := w_21.1
    let nw0_17 : Int32 := w_21.2.1
    let nw1_18 : Int32 := w_21.2.2
    (r_19, t_kind, t_start, t_end, t_number, t_sign, t_letters, nw0_17, nw1_18)) else (
    let w_14 := F_Te_advance t_length t_end t_number t_sign t_letters c_tape
    let nw0_6 : Int32 := w_14.1
    let nw1_7 : Int32 := w_14.2.1
    let nw2_8 : Int32 := w_14.2.2.1
    let nw3_9 : Int32 := w_14.2.2.2.1
    let nw4_10 : Int32 := w_14.2.2.2.2.1
    let nw5_11 : Int64 := w_14.2.2.2.2.2
    ((1 : Int32), nw0_6, nw1_7, nw2_8, nw4_10, nw3_9, nw5_11, t_fault, t_faultPlace))) := rfl
noncomputable def F_Te_takeNumber (t_length : Int32) (t_kind : Int32) (t_start : Int32) (t_end : Int32) (t_number : Int32) (t_sign : Int32) (t_letters : Int64) (t_fault : Int32) (t_faultPlace : Int32) (c_tape : Nat → Int32) (k : Int32) (j : Int32) : Int32 × Int32 × Int32 × Int32 × Int32 × Int32 × Int32 × Int32 × Int64 :=
  let w_3 := F_Te_isNumber t_kind
  let r_1 : Int32 := w_3
  if r_1 = 0 then (
    let w_39 := F_Te_refuse t_kind t_start t_fault t_faultPlace 2
    let r_37 : Int32 := w_39.1
    let nw0_35 : Int32 := w_39.2.1
    let nw1_36 : Int32 := w_39.2.2
    ((-1 : Int32), nw0_35, nw1_36, t_kind, t_start, t_end, t_number, t_sign, t_letters)) else (
    if t_number < k then (
      let w_12 := F_Te_refuse t_kind t_start t_fault t_faultPlace 4
      let r_10 : Int32 := w_12.1
      let nw0_8 : Int32 := w_12.2.1
      let nw1_9 : Int32 := w_12.2.2
      ((-1 : Int32), nw0_8, nw1_9, t_kind, t_start, t_end, t_number, t_sign, t_letters)) else (
      if t_number ≤ j then (
        let w_25 := F_Te_advance t_length t_end t_number t_sign t_letters c_tape
        let nw0_17 : Int32 := w_25.1
        let nw1_18 : Int32 := w_25.2.1
        let nw2_19 : Int32 := w_25.2.2.1
        let nw3_20 : Int32 := w_25.2.2.2.1
        let nw4_21 : Int32 := w_25.2.2.2.2.1
        let nw5_22 : Int64 := w_25.2.2.2.2.2
        (t_number, t_fault, t_faultPlace, nw0_17, nw1_18, nw2_19, nw4_21, nw3_20, nw5_22)) else (
        let w_32 := F_Te_refuse t_kind t_start t_fault t_faultPlace 4
        let r_30 : Int32 := w_32.1
        let nw0_28 : Int32 := w_32.2.1
        let nw1_29 : Int32 := w_32.2.2
        ((-1 : Int32), nw0_28, nw1_29, t_kind, t_start, t_end, t_number, t_sign, t_letters))))
theorem F_Te_takeNumber_s (t_length : Int32) (t_kind : Int32) (t_start : Int32) (t_end : Int32) (t_number : Int32) (t_sign : Int32) (t_letters : Int64) (t_fault : Int32) (t_faultPlace : Int32) (c_tape : Nat → Int32) (k : Int32) (j : Int32) : F_Te_takeNumber t_length t_kind t_start t_end t_number t_sign t_letters t_fault t_faultPlace c_tape k j = (
  let w_3 := F_Te_isNumber t_kind
  let r_1 : Int32 := w_3
  if r_1 = 0 then (
    let w_39 := F_Te_refuse t_kind t_start t_fault t_faultPlace 2
    let r_37 : Int32 := w_39.1
    let nw0_35 : Int32 := w_39.2.1
    let nw1_36 : Int32 := w_39.2.2
    ((-1 : Int32), nw0_35, nw1_36, t_kind, t_start, t_end, t_number, t_sign, t_letters)) else (
    if t_number < k then (
      let w_12 := F_Te_refuse t_kind t_start t_fault t_faultPlace 4
      let r_10 : Int32 := w_12.1
      let nw0_8 : Int32 := w_12.2.1
      let nw1_9 : Int32 := w_12.2.2
      ((-1 : Int32), nw0_8, nw1_9, t_kind, t_start, t_end, t_number, t_sign, t_letters)) else (
      if t_number ≤ j then (
        let w_25 := F_Te_advance t_length t_end t_number t_sign t_letters c_tape
        let nw0_17 : Int32 := w_25.1
        let nw1_18 : Int32 := w_25.2.1
        let nw2_19 : Int32 := w_25.2.2.1
        let nw3_20 : Int32 := w_25.2.2.2.1
        let nw4_21 : Int32 := w_25.2.2.2.2.1
        let nw5_22 : Int64 := w_25.2.2.2.2.2
        (t_number, t_fault, t_faultPlace, nw0_17, nw1_18, nw2_19, nw4_21, nw3_20, nw5_22)) else (
        let w_32 := F_Te_refuse t_kind t_start t_fault t_faultPlace 4
        let r_30 : Int32 := w_32.1
        let nw0_28 : Int32 := w_32.2.1
        let nw1_29 : Int32 := w_32.2.2
        ((-1 : Int32), nw0_28, nw1_29, t_kind, t_start, t_end, t_number, t_sign, t_letters))))) := rfl
noncomputable def F_Te_takeCompare (t_length : Int32) (t_kind : Int32) (t_start : Int32) (t_end : Int32) (t_number : Int32) (t_sign : Int32) (t_letters : Int64) (t_fault : Int32) (t_faultPlace : Int32) (c_tape : Nat → Int32) : Int32 × Int32 × Int32 × Int32 × Int32 × Int32 × Int64 × Int32 × Int32 :=
  let w_3 := F_Te_isSign t_kind t_sign 60
  let r_1 : Int32 := w_3
  if r_1 = 0 then (
    let w_19 := F_Te_isSign t_kind t_sign 62
    let r_17 : Int32 := w_19
    if r_17 = 0 then (
      let w_35 := F_Te_isSign t_kind t_sign 61
      let r_33 : Int32 := w_35
      if r_33 = 0 then (
        let w_53 := F_Te_refuse t_kind t_start t_fault t_faultPlace 2
        let r_51 : Int32 := w_53.1
        let nw0_49 : Int32 := w_53.2.1
        let nw1_50 : Int32 := w_53.2.2
        ((-1 : Int32), t_kind, t_start, t_end, t_number, t_sign, t_letters, nw0_49, nw1_50)) else (
        let w_46 := F_Te_advance t_length t_end t_number t_sign t_letters c_tape
        let nw0_38 : Int32 := w_46.1
        let nw1_39 : Int32 := w_46.2.1
        let nw2_40 : Int32 := w_46.2.2.1
        let nw3_41 : Int32 := w_46.2.2.2.1
        let nw4_42 : Int32 := w_46.2.2.2.2.1
        let nw5_43 : Int64 := w_46.2.2.2.2.2
        (t_sign, nw0_38, nw1_39, nw2_40, nw4_42, nw3_41, nw5_43, t_fault, t_faultPlace))) else (
      let w_30 := F_Te_advance t_length t_end t_number t_sign t_letters c_tape
      let nw0_22 : Int32 := w_30.1
      let nw1_23 : Int32 := w_30.2.1
      let nw2_24 : Int32 := w_30.2.2.1
      let nw3_25 : Int32 := w_30.2.2.2.1
      let nw4_26 : Int32 := w_30.2.2.2.2.1
      let nw5_27 : Int64 := w_30.2.2.2.2.2
      (t_sign, nw0_22, nw1_23, nw2_24, nw4_26, nw3_25, nw5_27, t_fault, t_faultPlace))) else (
    let w_14 := F_Te_advance t_length t_end t_number t_sign t_letters c_tape
    let nw0_6 : Int32 := w_14.1
    let nw1_7 : Int32 := w_14.2.1
    let nw2_8 : Int32 := w_14.2.2.1
    let nw3_9 : Int32 := w_14.2.2.2.1
    let nw4_10 : Int32 := w_14.2.2.2.2.1
    let nw5_11 : Int64 := w_14.2.2.2.2.2
    (t_sign, nw0_6, nw1_7, nw2_8, nw4_10, nw3_9, nw5_11, t_fault, t_faultPlace))
theorem F_Te_takeCompare_s (t_length : Int32) (t_kind : Int32) (t_start : Int32) (t_end : Int32) (t_number : Int32) (t_sign : Int32) (t_letters : Int64) (t_fault : Int32) (t_faultPlace : Int32) (c_tape : Nat → Int32) : F_Te_takeCompare t_length t_kind t_start t_end t_number t_sign t_letters t_fault t_faultPlace c_tape = (
  let w_3 := F_Te_isSign t_kind t_sign 60
  let r_1 : Int32 := w_3
  if r_1 = 0 then (
    let w_19 := F_Te_isSign t_kind t_sign 62
    let r_17 : Int32 := w_19
    if r_17 = 0 then (
      let w_35 := F_Te_isSign t_kind t_sign 61
      let r_33 : Int32 := w_35
      if r_33 = 0 then (
        let w_53 := F_Te_refuse t_kind t_start t_fault t_faultPlace 2
        let r_51 : Int32 := w_53.1
        let nw0_49 : Int32 := w_53.2.1
        let nw1_50 : Int32 := w_53.2.2
        ((-1 : Int32), t_kind, t_start, t_end, t_number, t_sign, t_letters, nw0_49, nw1_50)) else (
        let w_46 := F_Te_advance t_length t_end t_number t_sign t_letters c_tape
        let nw0_38 : Int32 := w_46.1
        let nw1_39 : Int32 := w_46.2.1
        let nw2_40 : Int32 := w_46.2.2.1
        let nw3_41 : Int32 := w_46.2.2.2.1
        let nw4_42 : Int32 := w_46.2.2.2.2.1
        let nw5_43 : Int64 := w_46.2.2.2.2.2
        (t_sign, nw0_38, nw1_39, nw2_40, nw4_42, nw3_41, nw5_43, t_fault, t_faultPlace))) else (
      let w_30 := F_Te_advance t_length t_end t_number t_sign t_letters c_tape
      let nw0_22 : Int32 := w_30.1
      let nw1_23 : Int32 := w_30.2.1
      let nw2_24 : Int32 := w_30.2.2.1
      let nw3_25 : Int32 := w_30.2.2.2.1
      let nw4_26 : Int32 := w_30.2.2.2.2.1
      let nw5_27 : Int64 := w_30.2.2.2.2.2
      (t_sign, nw0_22, nw1_23, nw2_24, nw4_26, nw3_25, nw5_27, t_fault, t_faultPlace))) else (
    let w_14 := F_Te_advance t_length t_end t_number t_sign t_letters c_tape
    let nw0_6 : Int32 := w_14.1
    let nw1_7 : Int32 := w_14.2.1
    let nw2_8 : Int32 := w_14.2.2.1
    let nw3_9 : Int32 := w_14.2.2.2.1
    let nw4_10 : Int32 := w_14.2.2.2.2.1
    let nw5_11 : Int64 := w_14.2.2.2.2.2
    (t_sign, nw0_6, nw1_7, nw2_8, nw4_10, nw3_9, nw5_11, t_fault, t_faultPlace))) := rfl
noncomputable def F_Te_takeWord (t_length : Int32) (t_kind : Int32) (t_start : Int32) (t_end : Int32) (t_number : Int32) (t_sign : Int32) (t_letters : Int64) (t_fault : Int32) (t_faultPlace : Int32) (c_tape : Nat → Int32) (i : Nat) : Int32 × Int32 × Int32 × Int32 × Int32 × Int32 × Int64 × Int32 × Int32 :=
  let w_3 := F_Te_is t_length t_kind t_start t_end c_tape i
  let r_1 : Int32 := w_3
  if r_1 = 0 then (
    let w_21 := F_Te_refuse t_kind t_start t_fault t_faultPlace 2
    let r_19 : Int32 := w_21.1
    let nw0_17 : Int32 := w_21.2.1
    let nw1_18 : Int32 := w_21.2.2
    (r_19, t_kind, t_start, t_end, t_number, t_sign, t_letters, nw0_17, nw1_18)) else (
    let w_14 := F_Te_advance t_length t_end t_number t_sign t_letters c_tape
    let nw0_6 : Int32 := w_14.1
    let nw1_7 : Int32 := w_14.2.1
    let nw2_8 : Int32 := w_14.2.2.1
    let nw3_9 : Int32 := w_14.2.2.2.1
    let nw4_10 : Int32 := w_14.2.2.2.2.1
    let nw5_11 : Int64 := w_14.2.2.2.2.2
    ((1 : Int32), nw0_6, nw1_7, nw2_8, nw4_10, nw3_9, nw5_11, t_fault, t_faultPlace))
theorem F_Te_takeWord_s (t_length : Int32) (t_kind : Int32) (t_start : Int32) (t_end : Int32) (t_number : Int32) (t_sign : Int32) (t_letters : Int64) (t_fault : Int32) (t_faultPlace : Int32) (c_tape : Nat → Int32) (i : Nat) : F_Te_takeWord t_length t_kind t_start t_end t_number t_sign t_letters t_fault t_faultPlace c_tape i = (
  let w_3 := F_Te_is t_length t_kind t_start t_end c_tape i
  let r_1 : Int32 := w_3
  if r_1 = 0 then (
    let w_21 := F_Te_refuse t_kind t_start t_fault t_faultPlace 2
    let r_19 : Int32 := w_21.1
    let nw0_17 : Int32 := w_21.2.1
    let nw1_18 : Int32 := w_21.2.2
    (r_19, t_kind, t_start, t_end, t_number, t_sign, t_letters, nw0_17, nw1_18)) else (
    let w_14 := F_Te_advance t_length t_end t_number t_sign t_letters c_tape
    let nw0_6 : Int32 := w_14.1
    let nw1_7 : Int32 := w_14.2.1
    let nw2_8 : Int32 := w_14.2.2.1
    let nw3_9 : Int32 := w_14.2.2.2.1
    let nw4_10 : Int32 := w_14.2.2.2.2.1
    let nw5_11 : Int64 := w_14.2.2.2.2.2
    ((1 : Int32), nw0_6, nw1_7, nw2_8, nw4_10, nw3_9, nw5_11, t_fault, t_faultPlace))) := rfl
noncomputable def F_H_rowThere_L5a (h_keys : Int32) (h_lent : Int32) (h_rings : Int32) (c_h_on : Nat → Int32) (c_h_onMany : Nat → Int32) (k : Int32) : Nat → Int32 → Int32 → (Nat → Int32) → (Int32 × (Nat → Int32)) := fun k9 => Nat.rec (motive := fun _ => Int32 → Int32 → (Nat → Int32) → (Int32 × (Nat → Int32))) (fun _ _ _ => default) (fun _ (G_L5a : Int32 → Int32 → (Nat → Int32) → (Int32 × (Nat → Int32))) => fun (v_40 : Int32) (v_41 : Int32) (g_42 : Nat → Int32) =>
    let w_68 := F_H_manyOn h_rings c_h_onMany k
    let r_66 : Int32 := w_68
    if r_66 ≤ v_41 then (
      (v_40, g_42)) else (
      let w_75 := F_H_keyOn h_rings c_h_on c_h_onMany k v_41
      let r_73 : Int32 := w_75
      let w_78 := F_H_isLent h_keys h_lent r_73
      let r_76 : Int32 := w_78
      if r_76 = 0 then (
        let w_87 := F_keepAt_10 g_42 v_40 r_73
        let nw0_84 : Nat → Int32 := w_87
        G_L5a (v_40 + 1) (v_41 + 1) nw0_84) else (
        G_L5a v_40 (v_41 + 1) g_42))) k9
theorem F_H_rowThere_L5a_s (h_keys : Int32) (h_lent : Int32) (h_rings : Int32) (c_h_on : Nat → Int32) (c_h_onMany : Nat → Int32) (k : Int32) (n9 : Nat) (v_40 : Int32) (v_41 : Int32) (g_42 : Nat → Int32) : F_H_rowThere_L5a h_keys h_lent h_rings c_h_on c_h_onMany k (n9 + 1) v_40 v_41 g_42 = (
    let w_68 := F_H_manyOn h_rings c_h_onMany k
    let r_66 : Int32 := w_68
    if r_66 ≤ v_41 then (
      (v_40, g_42)) else (
      let w_75 := F_H_keyOn h_rings c_h_on c_h_onMany k v_41
      let r_73 : Int32 := w_75
      let w_78 := F_H_isLent h_keys h_lent r_73
      let r_76 : Int32 := w_78
      if r_76 = 0 then (
        let w_87 := F_keepAt_10 g_42 v_40 r_73
        let nw0_84 : Nat → Int32 := w_87
        (F_H_rowThere_L5a h_keys h_lent h_rings c_h_on c_h_onMany k n9) (v_40 + 1) (v_41 + 1) nw0_84) else (
        (F_H_rowThere_L5a h_keys h_lent h_rings c_h_on c_h_onMany k n9) v_40 (v_41 + 1) g_42))) := rfl
noncomputable def F_H_rowThere (h_keys : Int32) (h_lent : Int32) (h_rings : Int32) (c_h_on : Nat → Int32) (c_h_onMany : Nat → Int32) (c_se_row : Nat → Int32) (k : Int32) : Int32 × (Nat → Int32) :=
  F_H_rowThere_L5a h_keys h_lent h_rings c_h_on c_h_onMany k ((2147483647 - (0 : Int32).toInt).toNat + 1) (0 : Int32) (0 : Int32) c_se_row
theorem F_H_rowThere_s (h_keys : Int32) (h_lent : Int32) (h_rings : Int32) (c_h_on : Nat → Int32) (c_h_onMany : Nat → Int32) (c_se_row : Nat → Int32) (k : Int32) : F_H_rowThere h_keys h_lent h_rings c_h_on c_h_onMany c_se_row k = (
  F_H_rowThere_L5a h_keys h_lent h_rings c_h_on c_h_onMany k ((2147483647 - (0 : Int32).toInt).toNat + 1) (0 : Int32) (0 : Int32) c_se_row) := rfl
noncomputable def F_Ho_clear (c_h_seconds : Nat → Int32) : Int32 × Int32 × Int32 × Int32 × Int32 × Int32 × Int32 × (Nat → Int32) :=
  let w_4 := F_H_setSeconds c_h_seconds 0 1
  let nw0_1 : Nat → Int32 := w_4
  let w_8 := F_H_setSeconds nw0_1 1 4
  let nw0_5 : Nat → Int32 := w_8
  let w_12 := F_H_setSeconds nw0_5 2 1
  let nw0_9 : Nat → Int32 := w_12
  let w_16 := F_H_setSeconds nw0_9 3 9
  let nw0_13 : Nat → Int32 := w_16
  ((0 : Int32), (0 : Int32), (0 : Int32), (0 : Int32), (0 : Int32), (8 : Int32), (0 : Int32), nw0_13)
theorem F_Ho_clear_s (c_h_seconds : Nat → Int32) : F_Ho_clear c_h_seconds = (
  let w_4 := F_H_setSeconds c_h_seconds 0 1
  let nw0_1 : Nat → Int32 := w_4
  let w_8 := F_H_setSeconds nw0_1 1 4
  let nw0_5 : Nat → Int32 := w_8
  let w_12 := F_H_setSeconds nw0_5 2 1
  let nw0_9 : Nat → Int32 := w_12
  let w_16 := F_H_setSeconds nw0_9 3 9
  let nw0_13 : Nat → Int32 := w_16
  ((0 : Int32), (0 : Int32), (0 : Int32), (0 : Int32), (0 : Int32), (8 : Int32), (0 : Int32), nw0_13)) := rfl
noncomputable def F_Ho_copy (c_h_featureNames : Nat → Int64) (c_h_steps : Nat → Int32) (c_h_turnedFeatures : Nat → Int32) (c_h_sixteenths : Nat → Int32) (c_h_keySteps : Nat → Int32) (c_h_on : Nat → Int32) (c_h_onMany : Nat → Int32) (c_h_wanted : Nat → Int32) (c_h_openers : Nat → Int32) (c_h_seconds : Nat → Int32) (c_h_roundDoors : Nat → Int32) (hf_features : Int32) (hf_keys : Int32) (hf_lent : Int32) (hf_rings : Int32) (hf_doors : Int32) (hf_turned : Int32) (hf_roundMany : Int32) (c_hf_featureNames : Nat → Int64) (c_hf_steps : Nat → Int32) (c_hf_turnedFeatures : Nat → Int32) (c_hf_sixteenths : Nat → Int32) (c_hf_keySteps : Nat → Int32) (c_hf_on : Nat → Int32) (c_hf_onMany : Nat → Int32) (c_hf_wanted : Nat → Int32) (c_hf_openers : Nat → Int32) (c_hf_seconds : Nat → Int32) (c_hf_roundDoors : Nat → Int32) : Int32 × Int32 × Int32 × Int32 × Int32 × Int32 × Int32 × (Nat → Int64) × (Nat → Int32) × (Nat → Int32) × (Nat → Int32) × (Nat → Int32) × (Nat → Int32) × (Nat → Int32) × (Nat → Int32) × (Nat → Int32) × (Nat → Int32) × (Nat → Int32) :=
  let g_1 : Nat → Int64 := (va_cpy c_hf_featureNames c_h_featureNames (0 : Int32).toNatClampNeg (0 : Int32).toNatClampNeg (3 : Int32).toNatClampNeg)
  let g_2 : Nat → Int32 := (va_cpy c_hf_steps c_h_steps (0 : Int32).toNatClampNeg (0 : Int32).toNatClampNeg (3 : Int32).toNatClampNeg)
  let g_3 : Nat → Int32 := (va_cpy c_hf_turnedFeatures c_h_turnedFeatures (0 : Int32).toNatClampNeg (0 : Int32).toNatClampNeg (3 : Int32).toNatClampNeg)
  let g_4 : Nat → Int32 := (va_cpy c_hf_sixteenths c_h_sixteenths (0 : Int32).toNatClampNeg (0 : Int32).toNatClampNeg (48 : Int32).toNatClampNeg)
  let g_5 : Nat → Int32 := (va_cpy c_hf_keySteps c_h_keySteps (0 : Int32).toNatClampNeg (0 : Int32).toNatClampNeg (30 : Int32).toNatClampNeg)
  let g_6 : Nat → Int32 := (va_cpy c_hf_on c_h_on (0 : Int32).toNatClampNeg (0 : Int32).toNatClampNeg (30 : Int32).toNatClampNeg)
  let g_7 : Nat → Int32 := (va_cpy c_hf_onMany c_h_onMany (0 : Int32).toNatClampNeg (0 : Int32).toNatClampNeg (3 : Int32).toNatClampNeg)
  let g_8 : Nat → Int32 := (va_cpy c_hf_wanted c_h_wanted (0 : Int32).toNatClampNeg (0 : Int32).toNatClampNeg (5 : Int32).toNatClampNeg)
  let g_9 : Nat → Int32 := (va_cpy c_hf_openers c_h_openers (0 : Int32).toNatClampNeg (0 : Int32).toNatClampNeg (5 : Int32).toNatClampNeg)
  let g_10 : Nat → Int32 := (va_cpy c_hf_seconds c_h_seconds (0 : Int32).toNatClampNeg (0 : Int32).toNatClampNeg (4 : Int32).toNatClampNeg)
  let g_11 : Nat → Int32 := (va_cpy c_hf_roundDoors c_h_roundDoors (0 : Int32).toNatClampNeg (0 : Int32).toNatClampNeg (12 : Int32).toNatClampNeg)
  (hf_features, hf_keys, hf_lent, hf_rings, hf_doors, hf_turned, hf_roundMany, g_1, g_2, g_3, g_4, g_5, g_6, g_7, g_8, g_9, g_10, g_11)
theorem F_Ho_copy_s (c_h_featureNames : Nat → Int64) (c_h_steps : Nat → Int32) (c_h_turnedFeatures : Nat → Int32) (c_h_sixteenths : Nat → Int32) (c_h_keySteps : Nat → Int32) (c_h_on : Nat → Int32) (c_h_onMany : Nat → Int32) (c_h_wanted : Nat → Int32) (c_h_openers : Nat → Int32) (c_h_seconds : Nat → Int32) (c_h_roundDoors : Nat → Int32) (hf_features : Int32) (hf_keys : Int32) (hf_lent : Int32) (hf_rings : Int32) (hf_doors : Int32) (hf_turned : Int32) (hf_roundMany : Int32) (c_hf_featureNames : Nat → Int64) (c_hf_steps : Nat → Int32) (c_hf_turnedFeatures : Nat → Int32) (c_hf_sixteenths : Nat → Int32) (c_hf_keySteps : Nat → Int32) (c_hf_on : Nat → Int32) (c_hf_onMany : Nat → Int32) (c_hf_wanted : Nat → Int32) (c_hf_openers : Nat → Int32) (c_hf_seconds : Nat → Int32) (c_hf_roundDoors : Nat → Int32) : F_Ho_copy c_h_featureNames c_h_steps c_h_turnedFeatures c_h_sixteenths c_h_keySteps c_h_on c_h_onMany c_h_wanted c_h_openers c_h_seconds c_h_roundDoors hf_features hf_keys hf_lent hf_rings hf_doors hf_turned hf_roundMany c_hf_featureNames c_hf_steps c_hf_turnedFeatures c_hf_sixteenths c_hf_keySteps c_hf_on c_hf_onMany c_hf_wanted c_hf_openers c_hf_seconds c_hf_roundDoors = (
  let g_1 : Nat → Int64 := (va_cpy c_hf_featureNames c_h_featureNames (0 : Int32).toNatClampNeg (0 : Int32).toNatClampNeg (3 : Int32).toNatClampNeg)
  let g_2 : Nat → Int32 := (va_cpy c_hf_steps c_h_steps (0 : Int32).toNatClampNeg (0 : Int32).toNatClampNeg (3 : Int32).toNatClampNeg)
  let g_3 : Nat → Int32 := (va_cpy c_hf_turnedFeatures c_h_turnedFeatures (0 : Int32).toNatClampNeg (0 : Int32).toNatClampNeg (3 : Int32).toNatClampNeg)
  let g_4 : Nat → Int32 := (va_cpy c_hf_sixteenths c_h_sixteenths (0 : Int32).toNatClampNeg (0 : Int32).toNatClampNeg (48 : Int32).toNatClampNeg)
  let g_5 : Nat → Int32 := (va_cpy c_hf_keySteps c_h_keySteps (0 : Int32).toNatClampNeg (0 : Int32).toNatClampNeg (30 : Int32).toNatClampNeg)
  let g_6 : Nat → Int32 := (va_cpy c_hf_on c_h_on (0 : Int32).toNatClampNeg (0 : Int32).toNatClampNeg (30 : Int32).toNatClampNeg)
  let g_7 : Nat → Int32 := (va_cpy c_hf_onMany c_h_onMany (0 : Int32).toNatClampNeg (0 : Int32).toNatClampNeg (3 : Int32).toNatClampNeg)
  let g_8 : Nat → Int32 := (va_cpy c_hf_wanted c_h_wanted (0 : Int32).toNatClampNeg (0 : Int32).toNatClampNeg (5 : Int32).toNatClampNeg)
  let g_9 : Nat → Int32 := (va_cpy c_hf_openers c_h_openers (0 : Int32).toNatClampNeg (0 : Int32).toNatClampNeg (5 : Int32).toNatClampNeg)
  let g_10 : Nat → Int32 := (va_cpy c_hf_seconds c_h_seconds (0 : Int32).toNatClampNeg (0 : Int32).toNatClampNeg (4 : Int32).toNatClampNeg)
  let g_11 : Nat → Int32 := (va_cpy c_hf_roundDoors c_h_roundDoors (0 : Int32).toNatClampNeg (0 : Int32).toNatClampNeg (12 : Int32).toNatClampNeg)
  (hf_features, hf_keys, hf_lent, hf_rings, hf_doors, hf_turned, hf_roundMany, g_1, g_2, g_3, g_4, g_5, g_6, g_7, g_8, g_9, g_10, g_11)) := rfl
noncomputable def F_Th_letGo : Int32 :=
  (-1 : Int32)
theorem F_Th_letGo_s : F_Th_letGo = (
  (-1 : Int32)) := rfl
noncomputable def F_Th_letGoOf (o_held : Int32) (k : Int32) : Int32 :=
  if o_held = k then (
    (-1 : Int32)) else (
    o_held)
theorem F_Th_letGoOf_s (o_held : Int32) (k : Int32) : F_Th_letGoOf o_held k = (
  if o_held = k then (
    (-1 : Int32)) else (
    o_held)) := rfl
noncomputable def F_Th_copy (o_held : Int32) (o_places : Int32) (c_o_row : Nat → Int32) (c_o_parts : Nat → Int64) (c_ko0_row : Nat → Int32) (c_ko0_parts : Nat → Int64) : Int32 × Int32 × (Nat → Int32) × (Nat → Int64) :=
  let g_1 : Nat → Int32 := (va_cpy c_o_row c_ko0_row (0 : Int32).toNatClampNeg (0 : Int32).toNatClampNeg (10 : Int32).toNatClampNeg)
  let g_2 : Nat → Int64 := (va_cpy c_o_parts c_ko0_parts (0 : Int32).toNatClampNeg (0 : Int32).toNatClampNeg (20 : Int32).toNatClampNeg)
  (o_held, o_places, g_1, g_2)
theorem F_Th_copy_s (o_held : Int32) (o_places : Int32) (c_o_row : Nat → Int32) (c_o_parts : Nat → Int64) (c_ko0_row : Nat → Int32) (c_ko0_parts : Nat → Int64) : F_Th_copy o_held o_places c_o_row c_o_parts c_ko0_row c_ko0_parts = (
  let g_1 : Nat → Int32 := (va_cpy c_o_row c_ko0_row (0 : Int32).toNatClampNeg (0 : Int32).toNatClampNeg (10 : Int32).toNatClampNeg)
  let g_2 : Nat → Int64 := (va_cpy c_o_parts c_ko0_parts (0 : Int32).toNatClampNeg (0 : Int32).toNatClampNeg (20 : Int32).toNatClampNeg)
  (o_held, o_places, g_1, g_2)) := rfl
noncomputable def F_Ru_add (r_lines : Int32) (r_steps : Int32) (r_asksSure : Int32) (c_r_kinds : Nat → Int32) (c_r_features : Nat → Int32) (c_r_compares : Nat → Int32) (c_r_numbers : Nat → Int32) (k : Int32) (j : Int32) (i1 : Int32) (i2 : Int32) : Int32 × (Nat → Int32) × (Nat → Int32) × (Nat → Int32) × (Nat → Int32) × Int32 × Int32 :=
  let w_4 := F_keepAt_60 c_r_kinds r_lines k
  let nw0_1 : Nat → Int32 := w_4
  let w_8 := F_keepAt_60 c_r_features r_lines j
  let nw0_5 : Nat → Int32 := w_8
  let w_12 := F_keepAt_60 c_r_compares r_lines i1
  let nw0_9 : Nat → Int32 := w_12
  let w_16 := F_keepAt_60 c_r_numbers r_lines i2
  let nw0_13 : Nat → Int32 := w_16
  if k = 10 then (
    if k = 7 then (
      ((r_lines + 1), nw0_1, nw0_5, nw0_9, nw0_13, (1 : Int32), r_steps)) else (
      ((r_lines + 1), nw0_1, nw0_5, nw0_9, nw0_13, r_asksSure, r_steps))) else (
    if k = 7 then (
      ((r_lines + 1), nw0_1, nw0_5, nw0_9, nw0_13, (1 : Int32), (r_steps + 1))) else (
      ((r_lines + 1), nw0_1, nw0_5, nw0_9, nw0_13, r_asksSure, (r_steps + 1))))
theorem F_Ru_add_s (r_lines : Int32) (r_steps : Int32) (r_asksSure : Int32) (c_r_kinds : Nat → Int32) (c_r_features : Nat → Int32) (c_r_compares : Nat → Int32) (c_r_numbers : Nat → Int32) (k : Int32) (j : Int32) (i1 : Int32) (i2 : Int32) : F_Ru_add r_lines r_steps r_asksSure c_r_kinds c_r_features c_r_compares c_r_numbers k j i1 i2 = (
  let w_4 := F_keepAt_60 c_r_kinds r_lines k
  let nw0_1 : Nat → Int32 := w_4
  let w_8 := F_keepAt_60 c_r_features r_lines j
  let nw0_5 : Nat → Int32 := w_8
  let w_12 := F_keepAt_60 c_r_compares r_lines i1
  let nw0_9 : Nat → Int32 := w_12
  let w_16 := F_keepAt_60 c_r_numbers r_lines i2
  let nw0_13 : Nat → Int32 := w_16
  if k = 10 then (
    if k = 7 then (
      ((r_lines + 1), nw0_1, nw0_5, nw0_9, nw0_13, (1 : Int32), r_steps)) else (
      ((r_lines + 1), nw0_1, nw0_5, nw0_9, nw0_13, r_asksSure, r_steps))) else (
    if k = 7 then (
      ((r_lines + 1), nw0_1, nw0_5, nw0_9, nw0_13, (1 : Int32), (r_steps + 1))) else (
      ((r_lines + 1), nw0_1, nw0_5, nw0_9, nw0_13, r_asksSure, (r_steps + 1))))) := rfl
noncomputable def F_Ru_pair (c_r_partners : Nat → Int32) (k : Int32) (j : Int32) : (Nat → Int32) :=
  let w_4 := F_keepAt_60 c_r_partners k j
  let nw0_1 : Nat → Int32 := w_4
  let w_8 := F_keepAt_60 nw0_1 j k
  let nw0_5 : Nat → Int32 := w_8
  nw0_5
theorem F_Ru_pair_s (c_r_partners : Nat → Int32) (k : Int32) (j : Int32) : F_Ru_pair c_r_partners k j = (
  let w_4 := F_keepAt_60 c_r_partners k j
  let nw0_1 : Nat → Int32 := w_4
  let w_8 := F_keepAt_60 nw0_1 j k
  let nw0_5 : Nat → Int32 := w_8
  nw0_5) := rfl
noncomputable def F_Ru_clear : Int32 × Int32 × Int32 :=
  ((0 : Int32), (0 : Int32), (0 : Int32))
theorem F_Ru_clear_s : F_Ru_clear = (
  ((0 : Int32), (0 : Int32), (0 : Int32))) := rfl
noncomputable def F_Ru_copy (c_r_kinds : Nat → Int32) (c_r_features : Nat → Int32) (c_r_compares : Nat → Int32) (c_r_numbers : Nat → Int32) (c_r_partners : Nat → Int32) (rf_lines : Int32) (rf_steps : Int32) (rf_asksSure : Int32) (c_rf_kinds : Nat → Int32) (c_rf_features : Nat → Int32) (c_rf_compares : Nat → Int32) (c_rf_numbers : Nat → Int32) (c_rf_partners : Nat → Int32) : Int32 × Int32 × Int32 × (Nat → Int32) × (Nat → Int32) × (Nat → Int32) × (Nat → Int32) × (Nat → Int32) :=
  let g_1 : Nat → Int32 := (va_cpy c_rf_kinds c_r_kinds (0 : Int32).toNatClampNeg (0 : Int32).toNatClampNeg (60 : Int32).toNatClampNeg)
  let g_2 : Nat → Int32 := (va_cpy c_rf_features c_r_features (0 : Int32).toNatClampNeg (0 : Int32).toNatClampNeg (60 : Int32).toNatClampNeg)
  let g_3 : Nat → Int32 := (va_cpy c_rf_compares c_r_compares (0 : Int32).toNatClampNeg (0 : Int32).toNatClampNeg (60 : Int32).toNatClampNeg)
  let g_4 : Nat → Int32 := (va_cpy c_rf_numbers c_r_numbers (0 : Int32).toNatClampNeg (0 : Int32).toNatClampNeg (60 : Int32).toNatClampNeg)
  let g_5 : Nat → Int32 := (va_cpy c_rf_partners c_r_partners (0 : Int32).toNatClampNeg (0 : Int32).toNatClampNeg (60 : Int32).toNatClampNeg)
  (rf_lines, rf_steps, rf_asksSure, g_1, g_2, g_3, g_4, g_5)
theorem F_Ru_copy_s (c_r_kinds : Nat → Int32) (c_r_features : Nat → Int32) (c_r_compares : Nat → Int32) (c_r_numbers : Nat → Int32) (c_r_partners : Nat → Int32) (rf_lines : Int32) (rf_steps : Int32) (rf_asksSure : Int32) (c_rf_kinds : Nat → Int32) (c_rf_features : Nat → Int32) (c_rf_compares : Nat → Int32) (c_rf_numbers : Nat → Int32) (c_rf_partners : Nat → Int32) : F_Ru_copy c_r_kinds c_r_features c_r_compares c_r_numbers c_r_partners rf_lines rf_steps rf_asksSure c_rf_kinds c_rf_features c_rf_compares c_rf_numbers c_rf_partners = (
  let g_1 : Nat → Int32 := (va_cpy c_rf_kinds c_r_kinds (0 : Int32).toNatClampNeg (0 : Int32).toNatClampNeg (60 : Int32).toNatClampNeg)
  let g_2 : Nat → Int32 := (va_cpy c_rf_features c_r_features (0 : Int32).toNatClampNeg (0 : Int32).toNatClampNeg (60 : Int32).toNatClampNeg)
  let g_3 : Nat → Int32 := (va_cpy c_rf_compares c_r_compares (0 : Int32).toNatClampNeg (0 : Int32).toNatClampNeg (60 : Int32).toNatClampNeg)
  let g_4 : Nat → Int32 := (va_cpy c_rf_numbers c_r_numbers (0 : Int32).toNatClampNeg (0 : Int32).toNatClampNeg (60 : Int32).toNatClampNeg)
  let g_5 : Nat → Int32 := (va_cpy c_rf_partners c_r_partners (0 : Int32).toNatClampNeg (0 : Int32).toNatClampNeg (60 : Int32).toNatClampNeg)
  (rf_lines, rf_steps, rf_asksSure, g_1, g_2, g_3, g_4, g_5)) := rfl
noncomputable def F_Se_load (h_keys : Int32) (h_lent : Int32) (h_rings : Int32) (c_h_on : Nat → Int32) (c_h_onMany : Nat → Int32) (c_se_row : Nat → Int32) (k : Int32) : Int32 × (Nat → Int32) :=
  let w_4 := F_H_rowThere h_keys h_lent h_rings c_h_on c_h_onMany c_se_row k
  let r_2 : Int32 := w_4.1
  let nw0_1 : Nat → Int32 := w_4.2
  (r_2, nw0_1)
theorem F_Se_load_s (h_keys : Int32) (h_lent : Int32) (h_rings : Int32) (c_h_on : Nat → Int32) (c_h_onMany : Nat → Int32) (c_se_row : Nat → Int32) (k : Int32) : F_Se_load h_keys h_lent h_rings c_h_on c_h_onMany c_se_row k = (
  let w_4 := F_H_rowThere h_keys h_lent h_rings c_h_on c_h_onMany c_se_row k
  let r_2 : Int32 := w_4.1
  let nw0_1 : Nat → Int32 := w_4.2
  (r_2, nw0_1)) := rfl
noncomputable def F_Se_hasPlace (se_places : Int32) (k : Int32) : Int32 :=
  if k < 0 then (
    (0 : Int32)) else (
    if se_places ≤ k then (
      (0 : Int32)) else (
      (1 : Int32)))
theorem F_Se_hasPlace_s (se_places : Int32) (k : Int32) : F_Se_hasPlace se_places k = (
  if k < 0 then (
    (0 : Int32)) else (
    if se_places ≤ k then (
      (0 : Int32)) else (
      (1 : Int32)))) := rfl
noncomputable def F_Se_isOf (c_se_row : Nat → Int32) (k : Int32) (j : Int32) : Int32 :=
  let w_3 := F_at_10 c_se_row j
  let r_1 : Int32 := w_3
  if r_1 = (-1) then (
    (0 : Int32)) else (
    let x_8 : Int32 := (k >>> (r_1 &&& 31))
    let x_9 : Int32 := (x_8 &&& 1)
    if x_9 = 1 then (
      (1 : Int32)) else (
      (0 : Int32)))
theorem F_Se_isOf_s (c_se_row : Nat → Int32) (k : Int32) (j : Int32) : F_Se_isOf c_se_row k j = (
  let w_3 := F_at_10 c_se_row j
  let r_1 : Int32 := w_3
  if r_1 = (-1) then (
    (0 : Int32)) else (
    let x_8 : Int32 := (k >>> (r_1 &&& 31))
    let x_9 : Int32 := (x_8 &&& 1)
    if x_9 = 1 then (
      (1 : Int32)) else (
      (0 : Int32)))) := rfl
noncomputable def F_Se_someOpens_L11a (se_places : Int32) (c_se_row : Nat → Int32) (r_1 : Int32) : Nat → Int32 → Int32 := fun k9 => Nat.rec (motive := fun _ => Int32 → Int32) (fun _ => default) (fun _ (G_L11a : Int32 → Int32) => fun (v_21 : Int32) =>
    if se_places ≤ v_21 then (
      (0 : Int32)) else (
      let w_40 := F_Se_isOf c_se_row r_1 v_21
      let r_38 : Int32 := w_40
      if r_38 = 0 then (
        G_L11a (v_21 + 1)) else (
        (1 : Int32)))) k9
theorem F_Se_someOpens_L11a_s (se_places : Int32) (c_se_row : Nat → Int32) (r_1 : Int32) (n9 : Nat) (v_21 : Int32) : F_Se_someOpens_L11a se_places c_se_row r_1 (n9 + 1) v_21 = (
    if se_places ≤ v_21 then (
      (0 : Int32)) else (
      let w_40 := F_Se_isOf c_se_row r_1 v_21
      let r_38 : Int32 := w_40
      if r_38 = 0 then (
        (F_Se_someOpens_L11a se_places c_se_row r_1 n9) (v_21 + 1)) else (
        (1 : Int32)))) := rfl
noncomputable def F_Se_someOpens (se_places : Int32) (h_doors : Int32) (c_h_openers : Nat → Int32) (c_se_row : Nat → Int32) (k : Int32) : Int32 :=
  let w_3 := F_H_openersOf h_doors c_h_openers k
  let r_1 : Int32 := w_3
  F_Se_someOpens_L11a se_places c_se_row r_1 ((2147483647 - (0 : Int32).toInt).toNat + 1) (0 : Int32)
theorem F_Se_someOpens_s (se_places : Int32) (h_doors : Int32) (c_h_openers : Nat → Int32) (c_se_row : Nat → Int32) (k : Int32) : F_Se_someOpens se_places h_doors c_h_openers c_se_row k = (
  let w_3 := F_H_openersOf h_doors c_h_openers k
  let r_1 : Int32 := w_3
  F_Se_someOpens_L11a se_places c_se_row r_1 ((2147483647 - (0 : Int32).toInt).toNat + 1) (0 : Int32)) := rfl
noncomputable def F_Se_secondsOfTries (c_h_seconds : Nat → Int32) (k : Int32) : Int32 :=
  let w_3 := F_H_secondsOf c_h_seconds 1
  let r_1 : Int32 := w_3
  let x_4 : Int32 := (k * r_1)
  let w_7 := F_H_secondsOf c_h_seconds 2
  let r_5 : Int32 := w_7
  let x_8 : Int32 := ((k - 1) * r_5)
  let x_9 : Int32 := (x_4 + x_8)
  x_9
theorem F_Se_secondsOfTries_s (c_h_seconds : Nat → Int32) (k : Int32) : F_Se_secondsOfTries c_h_seconds k = (
  let w_3 := F_H_secondsOf c_h_seconds 1
  let r_1 : Int32 := w_3
  let x_4 : Int32 := (k * r_1)
  let w_7 := F_H_secondsOf c_h_seconds 2
  let r_5 : Int32 := w_7
  let x_8 : Int32 := ((k - 1) * r_5)
  let x_9 : Int32 := (x_4 + x_8)
  x_9) := rfl
noncomputable def F_Se_foundAt (se_foundMany : Int32) (c_se_found : Nat → Int32) (k : Int32) : Int32 :=
  if k < 0 then (
    (-1 : Int32)) else (
    if se_foundMany ≤ k then (
      (-1 : Int32)) else (
      let w_11 := F_at_10 c_se_found k
      let r_9 : Int32 := w_11
      r_9))
theorem F_Se_foundAt_s (se_foundMany : Int32) (c_se_found : Nat → Int32) (k : Int32) : F_Se_foundAt se_foundMany c_se_found k = (
  if k < 0 then (
    (-1 : Int32)) else (
    if se_foundMany ≤ k then (
      (-1 : Int32)) else (
      let w_11 := F_at_10 c_se_found k
      let r_9 : Int32 := w_11
      r_9))) := rfl
noncomputable def F_Se_wantedTogether_L4a (se_places : Int32) (h_doors : Int32) (c_h_wanted : Nat → Int32) (c_h_openers : Nat → Int32) (c_se_row : Nat → Int32) : Nat → Int32 → Int32 → Int32 := fun k9 => Nat.rec (motive := fun _ => Int32 → Int32 → Int32) (fun _ _ => default) (fun _ (G_L4a : Int32 → Int32 → Int32) => fun (v_27 : Int32) (v_28 : Int32) =>
    if h_doors ≤ v_28 then (
      v_27) else (
      let w_51 := F_Se_someOpens se_places h_doors c_h_openers c_se_row v_28
      let r_49 : Int32 := w_51
      if r_49 = 0 then (
        G_L4a v_27 (v_28 + 1)) else (
        let w_58 := F_H_wantedOf h_doors c_h_wanted v_28
        let r_56 : Int32 := w_58
        let x_59 : Int32 := (v_27 + r_56)
        G_L4a x_59 (v_28 + 1)))) k9
theorem F_Se_wantedTogether_L4a_s (se_places : Int32) (h_doors : Int32) (c_h_wanted : Nat → Int32) (c_h_openers : Nat → Int32) (c_se_row : Nat → Int32) (n9 : Nat) (v_27 : Int32) (v_28 : Int32) : F_Se_wantedTogether_L4a se_places h_doors c_h_wanted c_h_openers c_se_row (n9 + 1) v_27 v_28 = (
    if h_doors ≤ v_28 then (
      v_27) else (
      let w_51 := F_Se_someOpens se_places h_doors c_h_openers c_se_row v_28
      let r_49 : Int32 := w_51
      if r_49 = 0 then (
        (F_Se_wantedTogether_L4a se_places h_doors c_h_wanted c_h_openers c_se_row n9) v_27 (v_28 + 1)) else (
        let w_58 := F_H_wantedOf h_doors c_h_wanted v_28
        let r_56 : Int32 := w_58
        let x_59 : Int32 := (v_27 + r_56)
        (F_Se_wantedTogether_L4a se_places h_doors c_h_wanted c_h_openers c_se_row n9) x_59 (v_28 + 1)))) := rfl
noncomputable def F_Se_wantedTogether (se_places : Int32) (h_doors : Int32) (c_h_wanted : Nat → Int32) (c_h_openers : Nat → Int32) (c_se_row : Nat → Int32) : Int32 :=
  F_Se_wantedTogether_L4a se_places h_doors c_h_wanted c_h_openers c_se_row ((2147483647 - (0 : Int32).toInt).toNat + 1) (0 : Int32) (0 : Int32)
theorem F_Se_wantedTogether_s (se_places : Int32) (h_doors : Int32) (c_h_wanted : Nat → Int32) (c_h_openers : Nat → Int32) (c_se_row : Nat → Int32) : F_Se_wantedTogether se_places h_doors c_h_wanted c_h_openers c_se_row = (
  F_Se_wantedTogether_L4a se_places h_doors c_h_wanted c_h_openers c_se_row ((2147483647 - (0 : Int32).toInt).toNat + 1) (0 : Int32) (0 : Int32)) := rfl
noncomputable def F_Se_secondsFromAll_L24a (se_places : Int32) (c_h_seconds : Nat → Int32) (c_se_row : Nat → Int32) (r_1 : Int32) : Nat → Int32 → Int32 → Int32 → Int32 := fun k9 => Nat.rec (motive := fun _ => Int32 → Int32 → Int32 → Int32) (fun _ _ _ => default) (fun _ (G_L24a : Int32 → Int32 → Int32 → Int32) => fun (v_80 : Int32) (v_81 : Int32) (v_82 : Int32) =>
    if v_82 < 0 then (
      let w_132 := F_H_secondsOf c_h_seconds 1
      let r_130 : Int32 := w_132
      let x_133 : Int32 := (v_81 * r_130)
      let x_134 : Int32 := (v_81 - se_places)
      let w_137 := F_H_secondsOf c_h_seconds 2
      let r_135 : Int32 := w_137
      let x_138 : Int32 := (x_134 * r_135)
      let x_139 : Int32 := (x_133 + x_138)
      x_139) else (
      if se_places ≤ v_82 then (
        let x_144 : Int32 := (v_82 - se_places)
        let w_147 := F_Se_isOf c_se_row r_1 x_144
        let r_145 : Int32 := w_147
        if r_145 = 0 then (
          if se_places ≤ v_82 then (
            G_L24a (v_80 + 1) v_81 (v_82 + (-1))) else (
            let x_154 : Int32 := (v_81 + (v_80 + 1))
            G_L24a (v_80 + 1) x_154 (v_82 + (-1)))) else (
          if se_places ≤ v_82 then (
            G_L24a 1 v_81 (v_82 + (-1))) else (
            G_L24a 1 (v_81 + 1) (v_82 + (-1))))) else (
        let w_165 := F_Se_isOf c_se_row r_1 v_82
        let r_163 : Int32 := w_165
        if r_163 = 0 then (
          if se_places ≤ v_82 then (
            G_L24a (v_80 + 1) v_81 (v_82 + (-1))) else (
            let x_172 : Int32 := (v_81 + (v_80 + 1))
            G_L24a (v_80 + 1) x_172 (v_82 + (-1)))) else (
          if se_places ≤ v_82 then (
            G_L24a 1 v_81 (v_82 + (-1))) else (
            G_L24a 1 (v_81 + 1) (v_82 + (-1))))))) k9
theorem F_Se_secondsFromAll_L24a_s (se_places : Int32) (c_h_seconds : Nat → Int32) (c_se_row : Nat → Int32) (r_1 : Int32) (n9 : Nat) (v_80 : Int32) (v_81 : Int32) (v_82 : Int32) : F_Se_secondsFromAll_L24a se_places c_h_seconds c_se_row r_1 (n9 + 1) v_80 v_81 v_82 = (
    if v_82 < 0 then (
      let w_132 := F_H_secondsOf c_h_seconds 1
      let r_130 : Int32 := w_132
      let x_133 : Int32 := (v_81 * r_130)
      let x_134 : Int32 := (v_81 - se_places)
      let w_137 := F_H_secondsOf c_h_seconds 2
      let r_135 : Int32 := w_137
      let x_138 : Int32 := (x_134 * r_135)
      let x_139 : Int32 := (x_133 + x_138)
      x_139) else (
      if se_places ≤ v_82 then (
        let x_144 : Int32 := (v_82 - se_places)
        let w_147 := F_Se_isOf c_se_row r_1 x_144
        let r_145 : Int32 := w_147
        if r_145 = 0 then (
          if se_places ≤ v_82 then (
            (F_Se_secondsFromAll_L24a se_places c_h_seconds c_se_row r_1 n9) (v_80 + 1) v_81 (v_82 + (-1))) else (
            let x_154 : Int32 := (v_81 + (v_80 + 1))
            (F_Se_secondsFromAll_L24a se_places c_h_seconds c_se_row r_1 n9) (v_80 + 1) x_154 (v_82 + (-1)))) else (
          if se_places ≤ v_82 then (
            (F_Se_secondsFromAll_L24a se_places c_h_seconds c_se_row r_1 n9) 1 v_81 (v_82 + (-1))) else (
            (F_Se_secondsFromAll_L24a se_places c_h_seconds c_se_row r_1 n9) 1 (v_81 + 1) (v_82 + (-1))))) else (
        let w_165 := F_Se_isOf c_se_row r_1 v_82
        let r_163 : Int32 := w_165
        if r_163 = 0 then (
          if se_places ≤ v_82 then (
            (F_Se_secondsFromAll_L24a se_places c_h_seconds c_se_row r_1 n9) (v_80 + 1) v_81 (v_82 + (-1))) else (
            let x_172 : Int32 := (v_81 + (v_80 + 1))
            (F_Se_secondsFromAll_L24a se_places c_h_seconds c_se_row r_1 n9) (v_80 + 1) x_172 (v_82 + (-1)))) else (
          if se_places ≤ v_82 then (
            (F_Se_secondsFromAll_L24a se_places c_h_seconds c_se_row r_1 n9) 1 v_81 (v_82 + (-1))) else (
            (F_Se_secondsFromAll_L24a se_places c_h_seconds c_se_row r_1 n9) 1 (v_81 + 1) (v_82 + (-1))))))) := rfl
noncomputable def F_Se_secondsFromAll (se_places : Int32) (h_doors : Int32) (c_h_openers : Nat → Int32) (c_h_seconds : Nat → Int32) (c_se_row : Nat → Int32) (k : Int32) : Int32 :=
  let w_3 := F_H_openersOf h_doors c_h_openers k
  let r_1 : Int32 := w_3
  let x_4 : Int32 := ((2 : Int32) * se_places)
  F_Se_secondsFromAll_L24a se_places c_h_seconds c_se_row r_1 (((x_4 - 1).toInt + 2147483648).toNat + 1) (0 : Int32) (0 : Int32) (x_4 - 1)
theorem F_Se_secondsFromAll_s (se_places : Int32) (h_doors : Int32) (c_h_openers : Nat → Int32) (c_h_seconds : Nat → Int32) (c_se_row : Nat → Int32) (k : Int32) : F_Se_secondsFromAll se_places h_doors c_h_openers c_h_seconds c_se_row k = (
  let w_3 := F_H_openersOf h_doors c_h_openers k
  let r_1 : Int32 := w_3
  let x_4 : Int32 := ((2 : Int32) * se_places)
  F_Se_secondsFromAll_L24a se_places c_h_seconds c_se_row r_1 (((x_4 - 1).toInt + 2147483648).toNat + 1) (0 : Int32) (0 : Int32) (x_4 - 1)) := rfl
noncomputable def F_Se_wantedSecondsAnywhere_L4a (se_places : Int32) (h_doors : Int32) (c_h_wanted : Nat → Int32) (c_h_openers : Nat → Int32) (c_h_seconds : Nat → Int32) (c_se_row : Nat → Int32) : Nat → Int32 → Int32 → Int32 := fun k9 => Nat.rec (motive := fun _ => Int32 → Int32 → Int32) (fun _ _ => default) (fun _ (G_L4a : Int32 → Int32 → Int32) => fun (v_41 : Int32) (v_42 : Int32) =>
    if h_doors ≤ v_42 then (
      v_41) else (
      let w_72 := F_H_wantedOf h_doors c_h_wanted v_42
      let r_70 : Int32 := w_72
      if r_70 ≤ 0 then (
        G_L4a v_41 (v_42 + 1)) else (
        let w_79 := F_Se_someOpens se_places h_doors c_h_openers c_se_row v_42
        let r_77 : Int32 := w_79
        if r_77 = 0 then (
          G_L4a v_41 (v_42 + 1)) else (
          let w_86 := F_Se_secondsFromAll se_places h_doors c_h_openers c_h_seconds c_se_row v_42
          let r_84 : Int32 := w_86
          let x_87 : Int32 := (r_70 * r_84)
          let x_88 : Int32 := (v_41 + x_87)
          G_L4a x_88 (v_42 + 1))))) k9
theorem F_Se_wantedSecondsAnywhere_L4a_s (se_places : Int32) (h_doors : Int32) (c_h_wanted : Nat → Int32) (c_h_openers : Nat → Int32) (c_h_seconds : Nat → Int32) (c_se_row : Nat → Int32) (n9 : Nat) (v_41 : Int32) (v_42 : Int32) : F_Se_wantedSecondsAnywhere_L4a se_places h_doors c_h_wanted c_h_openers c_h_seconds c_se_row (n9 + 1) v_41 v_42 = (
    if h_doors ≤ v_42 then (
      v_41) else (
      let w_72 := F_H_wantedOf h_doors c_h_wanted v_42
      let r_70 : Int32 := w_72
      if r_70 ≤ 0 then (
        (F_Se_wantedSecondsAnywhere_L4a se_places h_doors c_h_wanted c_h_openers c_h_seconds c_se_row n9) v_41 (v_42 + 1)) else (
        let w_79 := F_Se_someOpens se_places h_doors c_h_openers c_se_row v_42
        let r_77 : Int32 := w_79
        if r_77 = 0 then (
          (F_Se_wantedSecondsAnywhere_L4a se_places h_doors c_h_wanted c_h_openers c_h_seconds c_se_row n9) v_41 (v_42 + 1)) else (
          let w_86 := F_Se_secondsFromAll se_places h_doors c_h_openers c_h_seconds c_se_row v_42
          let r_84 : Int32 := w_86
          let x_87 : Int32 := (r_70 * r_84)
          let x_88 : Int32 := (v_41 + x_87)
          (F_Se_wantedSecondsAnywhere_L4a se_places h_doors c_h_wanted c_h_openers c_h_seconds c_se_row n9) x_88 (v_42 + 1))))) := rfl
noncomputable def F_Se_wantedSecondsAnywhere (se_places : Int32) (h_doors : Int32) (c_h_wanted : Nat → Int32) (c_h_openers : Nat → Int32) (c_h_seconds : Nat → Int32) (c_se_row : Nat → Int32) : Int32 :=
  F_Se_wantedSecondsAnywhere_L4a se_places h_doors c_h_wanted c_h_openers c_h_seconds c_se_row ((2147483647 - (0 : Int32).toInt).toNat + 1) (0 : Int32) (0 : Int32)
theorem F_Se_wantedSecondsAnywhere_s (se_places : Int32) (h_doors : Int32) (c_h_wanted : Nat → Int32) (c_h_openers : Nat → Int32) (c_h_seconds : Nat → Int32) (c_se_row : Nat → Int32) : F_Se_wantedSecondsAnywhere se_places h_doors c_h_wanted c_h_openers c_h_seconds c_se_row = (
  F_Se_wantedSecondsAnywhere_L4a se_places h_doors c_h_wanted c_h_openers c_h_seconds c_se_row ((2147483647 - (0 : Int32).toInt).toNat + 1) (0 : Int32) (0 : Int32)) := rfl
noncomputable def F_Se_secondsFrom_L16a (se_places : Int32) (c_h_seconds : Nat → Int32) (c_se_row : Nat → Int32) (i1 : Int32) (r_1 : Int32) : Nat → Int32 → Int32 → Int32 := fun k9 => Nat.rec (motive := fun _ => Int32 → Int32 → Int32) (fun _ _ => default) (fun _ (G_L16a : Int32 → Int32 → Int32) => fun (v_40 : Int32) (v_41 : Int32) =>
    if se_places ≤ v_40 then (
      let w_73 := F_Se_secondsOfTries c_h_seconds v_40
      let r_71 : Int32 := w_73
      r_71) else (
      let w_78 := F_Se_isOf c_se_row r_1 v_41
      let r_76 : Int32 := w_78
      if r_76 = 0 then (
        if i1 = 0 then (
          let w_95 := F_Da_inRing (v_41 + 1) se_places
          let r_93 : Int32 := w_95
          G_L16a (v_40 + 1) r_93) else (
          let w_90 := F_Da_inRing (v_41 - 1) se_places
          let r_88 : Int32 := w_90
          G_L16a (v_40 + 1) r_88)) else (
        let w_83 := F_Se_secondsOfTries c_h_seconds v_40
        let r_81 : Int32 := w_83
        r_81))) k9
theorem F_Se_secondsFrom_L16a_s (se_places : Int32) (c_h_seconds : Nat → Int32) (c_se_row : Nat → Int32) (i1 : Int32) (r_1 : Int32) (n9 : Nat) (v_40 : Int32) (v_41 : Int32) : F_Se_secondsFrom_L16a se_places c_h_seconds c_se_row i1 r_1 (n9 + 1) v_40 v_41 = (
    if se_places ≤ v_40 then (
      let w_73 := F_Se_secondsOfTries c_h_seconds v_40
      let r_71 : Int32 := w_73
      r_71) else (
      let w_78 := F_Se_isOf c_se_row r_1 v_41
      let r_76 : Int32 := w_78
      if r_76 = 0 then (
        if i1 = 0 then (
          let w_95 := F_Da_inRing (v_41 + 1) se_places
          let r_93 : Int32 := w_95
          (F_Se_secondsFrom_L16a se_places c_h_seconds c_se_row i1 r_1 n9) (v_40 + 1) r_93) else (
          let w_90 := F_Da_inRing (v_41 - 1) se_places
          let r_88 : Int32 := w_90
          (F_Se_secondsFrom_L16a se_places c_h_seconds c_se_row i1 r_1 n9) (v_40 + 1) r_88)) else (
        let w_83 := F_Se_secondsOfTries c_h_seconds v_40
        let r_81 : Int32 := w_83
        r_81))) := rfl
noncomputable def F_Se_secondsFrom (se_places : Int32) (h_doors : Int32) (c_h_openers : Nat → Int32) (c_h_seconds : Nat → Int32) (c_se_row : Nat → Int32) (k : Int32) (j : Int32) (i1 : Int32) : Int32 :=
  let w_3 := F_H_openersOf h_doors c_h_openers k
  let r_1 : Int32 := w_3
  F_Se_secondsFrom_L16a se_places c_h_seconds c_se_row i1 r_1 ((2147483647 - (1 : Int32).toInt).toNat + 1) (1 : Int32) j
theorem F_Se_secondsFrom_s (se_places : Int32) (h_doors : Int32) (c_h_openers : Nat → Int32) (c_h_seconds : Nat → Int32) (c_se_row : Nat → Int32) (k : Int32) (j : Int32) (i1 : Int32) : F_Se_secondsFrom se_places h_doors c_h_openers c_h_seconds c_se_row k j i1 = (
  let w_3 := F_H_openersOf h_doors c_h_openers k
  let r_1 : Int32 := w_3
  F_Se_secondsFrom_L16a se_places c_h_seconds c_se_row i1 r_1 ((2147483647 - (1 : Int32).toInt).toNat + 1) (1 : Int32) j) := rfl
noncomputable def F_Se_wantedSecondsFrom_L5a (se_places : Int32) (h_doors : Int32) (c_h_wanted : Nat → Int32) (c_h_openers : Nat → Int32) (c_h_seconds : Nat → Int32) (c_se_row : Nat → Int32) (k : Int32) (j : Int32) : Nat → Int32 → Int32 → Int32 := fun k9 => Nat.rec (motive := fun _ => Int32 → Int32 → Int32) (fun _ _ => default) (fun _ (G_L5a : Int32 → Int32 → Int32) => fun (v_41 : Int32) (v_42 : Int32) =>
    if h_doors ≤ v_42 then (
      v_41) else (
      let w_72 := F_H_wantedOf h_doors c_h_wanted v_42
      let r_70 : Int32 := w_72
      if r_70 ≤ 0 then (
        G_L5a v_41 (v_42 + 1)) else (
        let w_79 := F_Se_someOpens se_places h_doors c_h_openers c_se_row v_42
        let r_77 : Int32 := w_79
        if r_77 = 0 then (
          G_L5a v_41 (v_42 + 1)) else (
          let w_86 := F_Se_secondsFrom se_places h_doors c_h_openers c_h_seconds c_se_row v_42 k j
          let r_84 : Int32 := w_86
          let x_87 : Int32 := (r_70 * r_84)
          let x_88 : Int32 := (v_41 + x_87)
          G_L5a x_88 (v_42 + 1))))) k9
theorem F_Se_wantedSecondsFrom_L5a_s (se_places : Int32) (h_doors : Int32) (c_h_wanted : Nat → Int32) (c_h_openers : Nat → Int32) (c_h_seconds : Nat → Int32) (c_se_row : Nat → Int32) (k : Int32) (j : Int32) (n9 : Nat) (v_41 : Int32) (v_42 : Int32) : F_Se_wantedSecondsFrom_L5a se_places h_doors c_h_wanted c_h_openers c_h_seconds c_se_row k j (n9 + 1) v_41 v_42 = (
    if h_doors ≤ v_42 then (
      v_41) else (
      let w_72 := F_H_wantedOf h_doors c_h_wanted v_42
      let r_70 : Int32 := w_72
      if r_70 ≤ 0 then (
        (F_Se_wantedSecondsFrom_L5a se_places h_doors c_h_wanted c_h_openers c_h_seconds c_se_row k j n9) v_41 (v_42 + 1)) else (
        let w_79 := F_Se_someOpens se_places h_doors c_h_openers c_se_row v_42
        let r_77 : Int32 := w_79
        if r_77 = 0 then (
          (F_Se_wantedSecondsFrom_L5a se_places h_doors c_h_wanted c_h_openers c_h_seconds c_se_row k j n9) v_41 (v_42 + 1)) else (
          let w_86 := F_Se_secondsFrom se_places h_doors c_h_openers c_h_seconds c_se_row v_42 k j
          let r_84 : Int32 := w_86
          let x_87 : Int32 := (r_70 * r_84)
          let x_88 : Int32 := (v_41 + x_87)
          (F_Se_wantedSecondsFrom_L5a se_places h_doors c_h_wanted c_h_openers c_h_seconds c_se_row k j n9) x_88 (v_42 + 1))))) := rfl
noncomputable def F_Se_wantedSecondsFrom (se_places : Int32) (h_doors : Int32) (c_h_wanted : Nat → Int32) (c_h_openers : Nat → Int32) (c_h_seconds : Nat → Int32) (c_se_row : Nat → Int32) (k : Int32) (j : Int32) : Int32 :=
  F_Se_wantedSecondsFrom_L5a se_places h_doors c_h_wanted c_h_openers c_h_seconds c_se_row k j ((2147483647 - (0 : Int32).toInt).toNat + 1) (0 : Int32) (0 : Int32)
theorem F_Se_wantedSecondsFrom_s (se_places : Int32) (h_doors : Int32) (c_h_wanted : Nat → Int32) (c_h_openers : Nat → Int32) (c_h_seconds : Nat → Int32) (c_se_row : Nat → Int32) (k : Int32) (j : Int32) : F_Se_wantedSecondsFrom se_places h_doors c_h_wanted c_h_openers c_h_seconds c_se_row k j = (
  F_Se_wantedSecondsFrom_L5a se_places h_doors c_h_wanted c_h_openers c_h_seconds c_se_row k j ((2147483647 - (0 : Int32).toInt).toNat + 1) (0 : Int32) (0 : Int32)) := rfl
noncomputable def F_Se_canWalk_L2a (se_places : Int32) (h_doors : Int32) (h_roundMany : Int32) (c_h_openers : Nat → Int32) (c_h_roundDoors : Nat → Int32) (c_se_row : Nat → Int32) : Nat → Int32 → Int32 := fun k9 => Nat.rec (motive := fun _ => Int32 → Int32) (fun _ => default) (fun _ (G_L2a : Int32 → Int32) => fun (v_24 : Int32) =>
    if h_roundMany ≤ v_24 then (
      if h_roundMany ≤ 0 then (
        (0 : Int32)) else (
        (1 : Int32))) else (
      let w_53 := F_at_12 c_h_roundDoors v_24
      let r_51 : Int32 := w_53
      let w_56 := F_Se_someOpens se_places h_doors c_h_openers c_se_row r_51
      let r_54 : Int32 := w_56
      if r_54 = 0 then (
        (0 : Int32)) else (
        G_L2a (v_24 + 1)))) k9
theorem F_Se_canWalk_L2a_s (se_places : Int32) (h_doors : Int32) (h_roundMany : Int32) (c_h_openers : Nat → Int32) (c_h_roundDoors : Nat → Int32) (c_se_row : Nat → Int32) (n9 : Nat) (v_24 : Int32) : F_Se_canWalk_L2a se_places h_doors h_roundMany c_h_openers c_h_roundDoors c_se_row (n9 + 1) v_24 = (
    if h_roundMany ≤ v_24 then (
      if h_roundMany ≤ 0 then (
        (0 : Int32)) else (
        (1 : Int32))) else (
      let w_53 := F_at_12 c_h_roundDoors v_24
      let r_51 : Int32 := w_53
      let w_56 := F_Se_someOpens se_places h_doors c_h_openers c_se_row r_51
      let r_54 : Int32 := w_56
      if r_54 = 0 then (
        (0 : Int32)) else (
        (F_Se_canWalk_L2a se_places h_doors h_roundMany c_h_openers c_h_roundDoors c_se_row n9) (v_24 + 1)))) := rfl
noncomputable def F_Se_canWalk (se_places : Int32) (h_doors : Int32) (h_roundMany : Int32) (c_h_openers : Nat → Int32) (c_h_roundDoors : Nat → Int32) (c_se_row : Nat → Int32) : Int32 :=
  F_Se_canWalk_L2a se_places h_doors h_roundMany c_h_openers c_h_roundDoors c_se_row ((2147483647 - (0 : Int32).toInt).toNat + 1) (0 : Int32)
theorem F_Se_canWalk_s (se_places : Int32) (h_doors : Int32) (h_roundMany : Int32) (c_h_openers : Nat → Int32) (c_h_roundDoors : Nat → Int32) (c_se_row : Nat → Int32) : F_Se_canWalk se_places h_doors h_roundMany c_h_openers c_h_roundDoors c_se_row = (
  F_Se_canWalk_L2a se_places h_doors h_roundMany c_h_openers c_h_roundDoors c_se_row ((2147483647 - (0 : Int32).toInt).toNat + 1) (0 : Int32)) := rfl
noncomputable def F_Se_stepsOnToNearest_L21a (se_places : Int32) (c_se_row : Nat → Int32) (k : Int32) (r_1 : Int32) : Nat → Int32 → Int32 → Int32 → Int32 := fun k9 => Nat.rec (motive := fun _ => Int32 → Int32 → Int32 → Int32) (fun _ _ _ => default) (fun _ (G_L21a : Int32 → Int32 → Int32 → Int32) => fun (v_65 : Int32) (v_66 : Int32) (v_67 : Int32) =>
    if se_places ≤ v_67 then (
      v_65) else (
      let x_95 : Int32 := (se_places - v_67)
      let w_98 := F_ja_min v_67 x_95
      let r_96 : Int32 := w_98
      if v_66 ≤ r_96 then (
        G_L21a v_65 v_66 (v_67 + 1)) else (
        let x_103 : Int32 := (k + v_67)
        let w_106 := F_Da_inRing x_103 se_places
        let r_104 : Int32 := w_106
        let w_109 := F_Se_isOf c_se_row r_1 r_104
        let r_107 : Int32 := w_109
        if r_107 = 0 then (
          G_L21a v_65 v_66 (v_67 + 1)) else (
          G_L21a v_67 r_96 (v_67 + 1))))) k9
theorem F_Se_stepsOnToNearest_L21a_s (se_places : Int32) (c_se_row : Nat → Int32) (k : Int32) (r_1 : Int32) (n9 : Nat) (v_65 : Int32) (v_66 : Int32) (v_67 : Int32) : F_Se_stepsOnToNearest_L21a se_places c_se_row k r_1 (n9 + 1) v_65 v_66 v_67 = (
    if se_places ≤ v_67 then (
      v_65) else (
      let x_95 : Int32 := (se_places - v_67)
      let w_98 := F_ja_min v_67 x_95
      let r_96 : Int32 := w_98
      if v_66 ≤ r_96 then (
        (F_Se_stepsOnToNearest_L21a se_places c_se_row k r_1 n9) v_65 v_66 (v_67 + 1)) else (
        let x_103 : Int32 := (k + v_67)
        let w_106 := F_Da_inRing x_103 se_places
        let r_104 : Int32 := w_106
        let w_109 := F_Se_isOf c_se_row r_1 r_104
        let r_107 : Int32 := w_109
        if r_107 = 0 then (
          (F_Se_stepsOnToNearest_L21a se_places c_se_row k r_1 n9) v_65 v_66 (v_67 + 1)) else (
          (F_Se_stepsOnToNearest_L21a se_places c_se_row k r_1 n9) v_67 r_96 (v_67 + 1))))) := rfl
noncomputable def F_Se_stepsOnToNearest (se_places : Int32) (h_doors : Int32) (c_h_openers : Nat → Int32) (c_se_row : Nat → Int32) (k : Int32) (j : Int32) : Int32 :=
  let w_3 := F_H_openersOf h_doors c_h_openers j
  let r_1 : Int32 := w_3
  F_Se_stepsOnToNearest_L21a se_places c_se_row k r_1 ((2147483647 - (0 : Int32).toInt).toNat + 1) (0 : Int32) se_places (0 : Int32)
theorem F_Se_stepsOnToNearest_s (se_places : Int32) (h_doors : Int32) (c_h_openers : Nat → Int32) (c_se_row : Nat → Int32) (k : Int32) (j : Int32) : F_Se_stepsOnToNearest se_places h_doors c_h_openers c_se_row k j = (
  let w_3 := F_H_openersOf h_doors c_h_openers j
  let r_1 : Int32 := w_3
  F_Se_stepsOnToNearest_L21a se_places c_se_row k r_1 ((2147483647 - (0 : Int32).toInt).toNat + 1) (0 : Int32) se_places (0 : Int32)) := rfl
noncomputable def F_Se_secondsOfRound_L6a (se_places : Int32) (h_doors : Int32) (h_roundMany : Int32) (c_h_openers : Nat → Int32) (c_h_seconds : Nat → Int32) (c_h_roundDoors : Nat → Int32) (c_se_row : Nat → Int32) : Nat → Int32 → Int32 → Int32 → Int32 := fun k9 => Nat.rec (motive := fun _ => Int32 → Int32 → Int32 → Int32) (fun _ _ _ => default) (fun _ (G_L6a : Int32 → Int32 → Int32 → Int32) => fun (v_54 : Int32) (v_55 : Int32) (v_56 : Int32) =>
    if h_roundMany ≤ v_56 then (
      v_55) else (
      let w_92 := F_at_12 c_h_roundDoors v_56
      let r_90 : Int32 := w_92
      let w_95 := F_Se_stepsOnToNearest se_places h_doors c_h_openers c_se_row v_54 r_90
      let r_93 : Int32 := w_95
      let x_96 : Int32 := (se_places - r_93)
      let w_99 := F_ja_min r_93 x_96
      let r_97 : Int32 := w_99
      let w_102 := F_H_secondsOf c_h_seconds 2
      let r_100 : Int32 := w_102
      let x_103 : Int32 := (r_97 * r_100)
      let w_106 := F_H_secondsOf c_h_seconds 1
      let r_104 : Int32 := w_106
      let x_107 : Int32 := (x_103 + r_104)
      let x_108 : Int32 := (v_55 + x_107)
      let x_109 : Int32 := (v_54 + r_93)
      let w_112 := F_Da_inRing x_109 se_places
      let r_110 : Int32 := w_112
      G_L6a r_110 x_108 (v_56 + 1))) k9
theorem F_Se_secondsOfRound_L6a_s (se_places : Int32) (h_doors : Int32) (h_roundMany : Int32) (c_h_openers : Nat → Int32) (c_h_seconds : Nat → Int32) (c_h_roundDoors : Nat → Int32) (c_se_row : Nat → Int32) (n9 : Nat) (v_54 : Int32) (v_55 : Int32) (v_56 : Int32) : F_Se_secondsOfRound_L6a se_places h_doors h_roundMany c_h_openers c_h_seconds c_h_roundDoors c_se_row (n9 + 1) v_54 v_55 v_56 = (
    if h_roundMany ≤ v_56 then (
      v_55) else (
      let w_92 := F_at_12 c_h_roundDoors v_56
      let r_90 : Int32 := w_92
      let w_95 := F_Se_stepsOnToNearest se_places h_doors c_h_openers c_se_row v_54 r_90
      let r_93 : Int32 := w_95
      let x_96 : Int32 := (se_places - r_93)
      let w_99 := F_ja_min r_93 x_96
      let r_97 : Int32 := w_99
      let w_102 := F_H_secondsOf c_h_seconds 2
      let r_100 : Int32 := w_102
      let x_103 : Int32 := (r_97 * r_100)
      let w_106 := F_H_secondsOf c_h_seconds 1
      let r_104 : Int32 := w_106
      let x_107 : Int32 := (x_103 + r_104)
      let x_108 : Int32 := (v_55 + x_107)
      let x_109 : Int32 := (v_54 + r_93)
      let w_112 := F_Da_inRing x_109 se_places
      let r_110 : Int32 := w_112
      (F_Se_secondsOfRound_L6a se_places h_doors h_roundMany c_h_openers c_h_seconds c_h_roundDoors c_se_row n9) r_110 x_108 (v_56 + 1))) := rfl
noncomputable def F_Se_secondsOfRound (se_places : Int32) (h_doors : Int32) (h_roundMany : Int32) (c_h_openers : Nat → Int32) (c_h_seconds : Nat → Int32) (c_h_roundDoors : Nat → Int32) (c_se_row : Nat → Int32) : Int32 :=
  F_Se_secondsOfRound_L6a se_places h_doors h_roundMany c_h_openers c_h_seconds c_h_roundDoors c_se_row ((2147483647 - (0 : Int32).toInt).toNat + 1) (0 : Int32) (0 : Int32) (0 : Int32)
theorem F_Se_secondsOfRound_s (se_places : Int32) (h_doors : Int32) (h_roundMany : Int32) (c_h_openers : Nat → Int32) (c_h_seconds : Nat → Int32) (c_h_roundDoors : Nat → Int32) (c_se_row : Nat → Int32) : F_Se_secondsOfRound se_places h_doors h_roundMany c_h_openers c_h_seconds c_h_roundDoors c_se_row = (
  F_Se_secondsOfRound_L6a se_places h_doors h_roundMany c_h_openers c_h_seconds c_h_roundDoors c_se_row ((2147483647 - (0 : Int32).toInt).toNat + 1) (0 : Int32) (0 : Int32) (0 : Int32)) := rfl
