def qHd (keys features : Int32) (ks g : Nat → Int32) : Prop := ∀ k : Nat, (k : Int) < keys.toInt → k < 10 → g (1610 + k) = 0 ∧ ∀ i : Nat, (i : Int) < features.toInt → i < 3 → ks (3 * k + i) = g (1525 + 3 * k + i)
def qHe (rings : Int32) (on om g : Nat → Int32) : Prop := ∀ r : Nat, (r : Int) < rings.toInt → r < 3 → ∃ v : Nat, v ≤ 10 ∧ om r = nI v ∧ g (1555 + r) = nI v ∧ ∀ i : Nat, i < v → on (10 * r + i) = g (1558 + 10 * r + i)
def qHf (doors : Int32) (wa op g : Nat → Int32) : Prop := ∀ d : Nat, (d : Int) < doors.toInt → d < 5 → wa d = g (1588 + d) ∧ op d = g (1593 + d)
def qHg (se g : Nat → Int32) : Prop := ∀ i : Nat, i < 4 → se i = g (1465 + i)
def qHi (doors rm : Int32) (rd g : Nat → Int32) : Prop := g 1464 = rm ∧ 0 ≤ rm.toInt ∧ rm.toInt ≤ 12 ∧ ∀ i : Nat, (i : Int) < rm.toInt → i < 12 → rd i = g (1598 + i) ∧ (rd i).toInt < doors.toInt
def qHs (koR : Int32) (feT : Int32) (sT : Int32) (tT : Int32) (features : Int32) (keys : Int32) (rings : Int32) (doors : Int32) (tu : Int32) (rm : Int32) (nf : Nat → Int64) (nk : Nat → Int64) (nr : Nat → Int64) (nd : Nat → Int64) (fn : Nat → Int64) (st : Nat → Int32) (tf : Nat → Int32) (six : Nat → Int32) (ks : Nat → Int32) (on : Nat → Int32) (om : Nat → Int32) (wa : Nat → Int32) (op : Nat → Int32) (se : Nat → Int32) (rd : Nat → Int32) (w : Nat → Int64) (hFe : Nat → Int32) (S : Int32) (Tt : Int32) (R : Int32) (g : Nat → Int32) (isOn : Nat → Int32) : Prop := qNms features keys rings doors nf nk nr nd w g ∧ qRF features feT st tf six fn w g hFe ∧ qKB koR keys isOn ∧ qHd keys features ks g ∧ qHe rings on om g ∧ qHf doors wa op g ∧ qHg se g ∧ (tu = g 1469 ∧ g 1470 = -1) ∧ qHi doors rm rd g ∧ ((sT = 0 ↔ S = 0) ∧ (tT = 0 ↔ Tt = 0) ∧ (rm = 0 ↔ R = 0))
theorem qNm_n {f : Nat} {lim : Int} {nm w : Nat → Int64} {o : Nat} {wn : Int64} (h : qNm (nI f) lim nm w o) (hf : (f : Int) < lim) (hl : lim ≤ 100) : qNm (nI (f + 1)) lim (vp_updL nm f wn) (vp_updL w (o + f) wn) o := by
  have e : (nI f).toInt = (f : Int) := nI_toInt (by omega)
  have e1 : (nI (f + 1)).toInt = ((f + 1 : Nat) : Int) := nI_toInt (by omega)
  refine ⟨by omega, by omega, fun j hj => ?_⟩
  unfold vp_updL
  by_cases c : j = f
  · rw [if_pos c, if_pos (by omega)]
  · rw [if_neg c, if_neg (by omega)]
    exact h.2.2 j (by omega)
theorem qNm_k {many : Int32} {lim : Int} {nm w w' : Nat → Int64} {o : Nat} (h : qNm many lim nm w o) (k : ∀ j : Nat, (j : Int) < lim → w' (o + j) = w (o + j)) : qNm many lim nm w' o := ⟨h.1, h.2.1, fun j hj => by rw [k j (by have := h.2.1; omega)]; exact h.2.2 j hj⟩
theorem qHd_g {keys features : Int32} {ks g g' : Nat → Int32} (h : qHd keys features ks g) (k : ∀ j : Nat, (1525 ≤ j ∧ j < 1555) ∨ (1610 ≤ j ∧ j < 1620) → g' j = g j) : qHd keys features ks g' := fun q h1 h2 => by
  obtain ⟨a1, a2⟩ := h q h1 h2
  refine ⟨by rw [k _ (by omega)]; exact a1, fun i i1 i2 => ?_⟩
  rw [k _ (by omega)]
  exact a2 i i1 i2
theorem qHe_g {rings : Int32} {on om g g' : Nat → Int32} (h : qHe rings on om g) (k : ∀ j : Nat, 1555 ≤ j → j < 1588 → g' j = g j) : qHe rings on om g' := fun r h1 h2 => by
  obtain ⟨v, a1, a2, a3, a4⟩ := h r h1 h2
  refine ⟨v, a1, a2, by rw [k _ (by omega) (by omega)]; exact a3, fun i hi => ?_⟩
  rw [k _ (by omega) (by omega)]
  exact a4 i hi
theorem qHf_g {doors : Int32} {wa op g g' : Nat → Int32} (h : qHf doors wa op g) (k : ∀ j : Nat, 1588 ≤ j → j < 1598 → g' j = g j) : qHf doors wa op g' := fun d h1 h2 => by
  obtain ⟨a1, a2⟩ := h d h1 h2
  rw [k _ (by omega) (by omega), k _ (by omega) (by omega)]
  exact ⟨a1, a2⟩
theorem qHg_g {se g g' : Nat → Int32} (h : qHg se g) (k : ∀ j : Nat, 1465 ≤ j → j < 1469 → g' j = g j) : qHg se g' := fun i hi => by
  rw [k _ (by omega) (by omega)]
  exact h i hi
theorem qHi_g {doors rm : Int32} {rd g g' : Nat → Int32} (h : qHi doors rm rd g) (k : ∀ j : Nat, (j = 1464 ∨ (1598 ≤ j ∧ j < 1610)) → g' j = g j) : qHi doors rm rd g' := ⟨by rw [k _ (by omega)]; exact h.1, h.2.1, h.2.2.1, fun i h1 h2 => by
  rw [k _ (by omega)]
  exact h.2.2.2 i h1 h2⟩
theorem qHi_d {doors doors' rm : Int32} {rd g g' : Nat → Int32} (h : qHi doors rm rd g) (hd : doors.toInt ≤ doors'.toInt) (k : ∀ j : Nat, (j = 1464 ∨ (1598 ≤ j ∧ j < 1610)) → g' j = g j) : qHi doors' rm rd g' :=
  have a := qHi_g h k
  ⟨a.1, a.2.1, a.2.2.1, fun i h1 h2 => ⟨(a.2.2.2 i h1 h2).1, Int.lt_of_lt_of_le (a.2.2.2 i h1 h2).2 hd⟩⟩
theorem qRF_g {features feT : Int32} {st tf six : Nat → Int32} {fn w w' : Nat → Int64} {g g' hFe : Nat → Int32} (h : qRF features feT st tf six fn w g hFe) (h3 : features.toInt ≤ 3) (k : ∀ j : Nat, 1471 ≤ j → j < 1525 → g' j = g j) (kw : ∀ j : Nat, 84 ≤ j → j < 87 → w' j = w j) : qRF features feT st tf six fn w' g' hFe := ⟨fun j hj => by
  obtain ⟨a1, a2, a3, a4, a5⟩ := h.1 j hj
  rw [k _ (by omega) (by omega), k (1474 + j) (by omega) (by omega), kw _ (by omega) (by omega)]
  refine ⟨a1, a2, a3, a4, fun i hi => ?_⟩
  rw [k _ (by omega) (by omega)]
  exact a5 i hi, h.2⟩
theorem qNms_g {features keys rings doors : Int32} {nf nk nr nd w w' : Nat → Int64} {g g' : Nat → Int32} (h : qNms features keys rings doors nf nk nr nd w g) (k : ∀ j : Nat, 1460 ≤ j → j < 1464 → g' j = g j) (kw : ∀ j : Nat, 84 ≤ j → j < 105 → w' j = w j) : qNms features keys rings doors nf nk nr nd w' g' := by
  obtain ⟨⟨e1, e2, e3, e4⟩, h1, h2, h3, h4⟩ := h
  rw [← k 1460 (by omega) (by omega)] at e1
  rw [← k 1461 (by omega) (by omega)] at e2
  rw [← k 1462 (by omega) (by omega)] at e3
  rw [← k 1463 (by omega) (by omega)] at e4
  exact ⟨⟨e1, e2, e3, e4⟩, qNm_k h1 (fun j hj => kw _ (by omega) (by omega)), qNm_k h2 (fun j hj => kw _ (by omega) (by omega)), qNm_k h3 (fun j hj => kw _ (by omega) (by omega)), qNm_k h4 (fun j hj => kw _ (by omega) (by omega))⟩
theorem qHs_feature {koR feT sT tT features keys rings doors tu rm S Tt R : Int32} {nf nk nr nd fn w : Nat → Int64} {st tf six ks on om wa op se rd hFe g isOn : Nat → Int32} {f : Nat} {wn : Int64} {steps k : Int32} {six' g' : Nat → Int32} (h : qHs koR feT sT tT features keys rings doors tu rm nf nk nr nd fn st tf six ks on om wa op se rd w hFe S Tt R g isOn) (hf3 : f < 3) (hf : features = nI f) (hk : keys.toInt ≤ 0) (hg : qSix f g g' steps k) (h6 : qFl f 0 six six') (s1 : 2 ≤ steps.toInt) (s2 : steps.toInt ≤ 4) : qHs koR feT sT tT (nI (f + 1)) keys rings doors tu rm (vp_updL nf f wn) nk nr nd (vp_updL fn f wn) (upd st f steps) (upd tf f k) six' ks on om wa op se rd (vp_updL w (84 + f) wn) (upd hFe f 0) S Tt R g' isOn := by
  obtain ⟨hN, hF, hKB, hD, hE, hFd, hG, ⟨hH1, hH2⟩, hI, hJ⟩ := h
  obtain ⟨⟨e1, e2, e3, e4⟩, hNf, hNk, hNr, hNd⟩ := hN
  subst hf
  have same : ∀ j : Nat, 1461 ≤ j → ¬ (1471 ≤ j ∧ j < 1525) → g' j = g j := fun j h1 h2 => by
    rw [hg.2 j, if_neg (by omega), if_neg (by omega), if_neg (by omega), if_neg (by omega)]
  rw [← same 1461 (by omega) (by omega)] at e2
  rw [← same 1462 (by omega) (by omega)] at e3
  rw [← same 1463 (by omega) (by omega)] at e4
  have kw : ∀ j : Nat, 87 ≤ j → vp_updL w (84 + f) wn j = w j := fun j hj => if_neg (by omega)
  refine ⟨⟨⟨hg.1.symm, e2, e3, e4⟩, qNm_n hNf (by omega) (by omega), qNm_k hNk (fun j hj => kw _ (by omega)), qNm_k hNr (fun j hj => kw _ (by omega)), qNm_k hNd (fun j hj => kw _ (by omega))⟩, q_RFs hf3 s1 s2 hF h6 hg, hKB, fun q h1 h2 => absurd h1 (by omega), qHe_g hE (fun j h1 h2 => same j (by omega) (by omega)), qHf_g hFd (fun j h1 h2 => same j (by omega) (by omega)), qHg_g hG (fun j h1 h2 => same j (by omega) (by omega)), ⟨by rw [same 1469 (by omega) (by omega)]; exact hH1, by rw [same 1470 (by omega) (by omega)]; exact hH2⟩, qHi_g hI (fun j h1 => same j (by omega) (by omega)), hJ⟩
theorem qHs_feels {koR feT sT tT features keys rings doors tu rm S Tt R : Int32} {nf nk nr nd fn w : Nat → Int64} {st tf six ks on om wa op se rd hFe g isOn : Nat → Int32} {r : Nat} {six' g' : Nat → Int32} (h : qHs koR feT sT tT features keys rings doors tu rm nf nk nr nd fn st tf six ks on om wa op se rd w hFe S Tt R g isOn) (hr : (r : Int) < features.toInt) (hr3 : r < 3) (hg : qSm g g' (1477 + 16 * r) (1477 + 16 * r + 16)) (h6 : qSm six six' (16 * r) (16 * r + 16)) (hh : ∀ j : Nat, 16 * r ≤ j → j < 16 * r + 16 → six' j = g' (1477 + j)) : qHs koR (feT ||| ((1 : Int32) <<< (nI r &&& 31))) sT tT features keys rings doors tu rm nf nk nr nd fn st tf six' ks on om wa op se rd w (upd hFe r 1) S Tt R g' isOn := by
  obtain ⟨hN, hF, hKB, hD, hE, hFd, hG, ⟨hH1, hH2⟩, hI, hJ⟩ := h
  have h3 := hN.2.1.2.1
  refine ⟨qNms_g hN (fun j h1 h2 => hg j (by omega)) (fun _ _ _ => rfl), ⟨fun j hj => ?_, fun j hj h9 h8 => ?_⟩, hKB, qHd_g hD (fun j h1 => hg j (by omega)), qHe_g hE (fun j h1 h2 => hg j (by omega)), qHf_g hFd (fun j h1 h2 => hg j (by omega)), qHg_g hG (fun j h1 h2 => hg j (by omega)), ⟨by rw [hg 1469 (by omega)]; exact hH1, by rw [hg 1470 (by omega)]; exact hH2⟩, qHi_g hI (fun j h1 => hg j (by omega)), hJ⟩
  · obtain ⟨a1, a2, a3, a4, a5⟩ := hF.1 j hj
    rw [hg (1471 + j) (by omega), hg (1474 + j) (by omega), q_bitset (show r < 32 by omega) (show j < 32 by omega)]
    refine ⟨a1, a2, a3, ?_, fun i hi => ?_⟩
    · by_cases c : j = r
      · rw [show upd hFe r 1 j = 1 from if_pos c]
        exact ⟨fun _ => by decide, fun _ => Or.inl c⟩
      · rw [show upd hFe r 1 j = hFe j from if_neg c]
        exact ⟨fun h => a4.mp (h.resolve_left c), fun h => Or.inr (a4.mpr h)⟩
    · by_cases c : j = r
      · rw [hh (16 * j + i) (by omega) (by omega)]
        congr 1
        omega
      · rw [h6 (16 * j + i) (by omega), hg (1477 + 16 * j + i) (by omega)]
        exact a5 i hi
  · rcases (q_bitset (show r < 32 by omega) (show j < 32 by omega)).mp h8 with h8 | h8
    · omega
    · exact hF.2 j hj h9 h8
theorem qHs_key {koR feT sT tT features keys rings doors tu rm S Tt R : Int32} {nf nk nr nd fn w : Nat → Int64} {st tf six ks on om wa op se rd hFe g isOn : Nat → Int32} {k : Nat} {wn : Int64} {ks' g' : Nat → Int32} (h : qHs koR feT sT tT features keys rings doors tu rm nf nk nr nd fn st tf six ks on om wa op se rd w hFe S Tt R g isOn) (hk10 : k < 10) (hk : keys = nI k) (he : qKe k g g' features.toInt ks ks') : qHs koR feT sT tT features (nI (k + 1)) rings doors tu rm nf (vp_updL nk k wn) nr nd fn st tf six ks' on om wa op se rd (vp_updL w (87 + k) wn) hFe S Tt R g' (upd isOn k 0) := by
  obtain ⟨hN, hF, hKB, hD, hE, hFd, hG, ⟨hH1, hH2⟩, hI, hJ⟩ := h
  obtain ⟨⟨e1, e2, e3, e4⟩, hNf, hNk, hNr, hNd⟩ := hN
  obtain ⟨hg, k1, k2, k3, k4⟩ := he
  subst hk
  have ek : (nI k).toInt = (k : Int) := nI_toInt (by omega)
  have ek1 : (nI (k + 1)).toInt = ((k + 1 : Nat) : Int) := nI_toInt (by omega)
  have f3 := hNf.2.1
  rw [← hg 1460 (by omega)] at e1
  rw [← hg 1462 (by omega)] at e3
  rw [← hg 1463 (by omega)] at e4
  have kw : ∀ j : Nat, ¬ j = 87 + k → vp_updL w (87 + k) wn j = w j := fun j hj => if_neg hj
  refine ⟨⟨⟨e1, k1.symm, e3, e4⟩, qNm_k hNf (fun j hj => kw _ (by omega)), qNm_n hNk (by omega) (by omega), qNm_k hNr (fun j hj => kw _ (by omega)), qNm_k hNd (fun j hj => kw _ (by omega))⟩, qRF_g hF f3 (fun j h1 h2 => hg j (by omega)) (fun j h1 h2 => kw _ (by omega)), ⟨fun j h1 h2 => ?_, fun j h1 h2 => hKB.2 j h1 (by omega)⟩, fun q h1 h2 => ?_, qHe_g hE (fun j h1 h2 => hg j (by omega)), qHf_g hFd (fun j h1 h2 => hg j (by omega)), qHg_g hG (fun j h1 h2 => hg j (by omega)), ⟨by rw [hg 1469 (by omega)]; exact hH1, by rw [hg 1470 (by omega)]; exact hH2⟩, qHi_g hI (fun j h1 => hg j (by omega)), hJ⟩
  · by_cases c : j = k
    · rw [show upd isOn k 0 j = 0 from if_pos c]
      exact ⟨fun h9 => absurd h9 (hKB.2 j h2 (by omega)), fun h9 => absurd rfl h9⟩
    · rw [show upd isOn k 0 j = isOn j from if_neg c]
      exact hKB.1 j (by omega) h2
  · by_cases c : q = k
    · subst c
      refine ⟨k2, fun i h3 h4 => ?_⟩
      rw [k4 i h3]
    · obtain ⟨a1, a2⟩ := hD q (by omega) h2
      rw [hg (1610 + q) (by omega)]
      refine ⟨a1, fun i h3 h4 => ?_⟩
      rw [k3 (3 * q + i) (by omega), hg (1525 + 3 * q + i) (by omega)]
      exact a2 i h3 h4
theorem qHs_ring {koR feT sT tT features keys rings doors tu rm S Tt R : Int32} {nf nk nr nd fn w : Nat → Int64} {st tf six ks on om wa op se rd hFe g isOn : Nat → Int32} {r : Nat} {wn : Int64} {koR' : Int32} {isOn' on' om' g' : Nat → Int32} (h : qHs koR feT sT tT features keys rings doors tu rm nf nk nr nd fn st tf six ks on om wa op se rd w hFe S Tt R g isOn) (hr3 : r < 3) (hr : rings = nI r) (he : qRe r g g' om om' on on') (hKB' : qKB koR' keys isOn') : qHs koR' feT sT tT features keys (nI (r + 1)) doors tu rm nf nk (vp_updL nr r wn) nd fn st tf six ks on' om' wa op se rd (vp_updL w (97 + r) wn) hFe S Tt R g' isOn' := by
  obtain ⟨hN, hF, hKB, hD, hE, hFd, hG, ⟨hH1, hH2⟩, hI, hJ⟩ := h
  obtain ⟨⟨e1, e2, e3, e4⟩, hNf, hNk, hNr, hNd⟩ := hN
  obtain ⟨hg, k1, k2, k3, v, k4, k5, k6, k7⟩ := he
  subst hr
  have er : (nI r).toInt = (r : Int) := nI_toInt (by omega)
  have er1 : (nI (r + 1)).toInt = ((r + 1 : Nat) : Int) := nI_toInt (by omega)
  have f3 := hNf.2.1
  rw [← hg 1460 (by omega)] at e1
  rw [← hg 1461 (by omega)] at e2
  rw [← hg 1463 (by omega)] at e4
  have kw : ∀ j : Nat, ¬ j = 97 + r → vp_updL w (97 + r) wn j = w j := fun j hj => if_neg hj
  refine ⟨⟨⟨e1, e2, k1.symm, e4⟩, qNm_k hNf (fun j hj => kw _ (by omega)), qNm_k hNk (fun j hj => kw _ (by omega)), qNm_n hNr (by omega) (by omega), qNm_k hNd (fun j hj => kw _ (by omega))⟩, qRF_g hF f3 (fun j h1 h2 => hg j (by omega)) (fun j h1 h2 => kw _ (by omega)), hKB', qHd_g hD (fun j h1 => hg j (by omega)), fun q h1 h2 => ?_, qHf_g hFd (fun j h1 h2 => hg j (by omega)), qHg_g hG (fun j h1 h2 => hg j (by omega)), ⟨by rw [hg 1469 (by omega)]; exact hH1, by rw [hg 1470 (by omega)]; exact hH2⟩, qHi_g hI (fun j h1 => hg j (by omega)), hJ⟩
  by_cases c : q = r
  · subst c
    exact ⟨v, k4, k5, k6, k7⟩
  · obtain ⟨v, a1, a2, a3, a4⟩ := hE q (by omega) h2
    refine ⟨v, a1, by rw [k2 q c]; exact a2, by rw [hg (1555 + q) (by omega)]; exact a3, fun i hi => ?_⟩
    rw [k3 (10 * q + i) (by omega), hg (1558 + 10 * q + i) (by omega)]
    exact a4 i hi
theorem qHs_door {koR feT sT tT features keys rings doors tu rm S Tt R : Int32} {nf nk nr nd fn w : Nat → Int64} {st tf six ks on om wa op se rd hFe g isOn : Nat → Int32} {d : Nat} {wn : Int64} {r : Int32} {op' g' : Nat → Int32} (h : qHs koR feT sT tT features keys rings doors tu rm nf nk nr nd fn st tf six ks on om wa op se rd w hFe S Tt R g isOn) (hd5 : d < 5) (hd : doors = nI d) (he : qDe d r g g' op op') : qHs koR feT sT tT features keys rings (nI (d + 1)) tu rm nf nk nr (vp_updL nd d wn) fn st tf six ks on om (upd wa d r) op' se rd (vp_updL w (100 + d) wn) hFe S Tt R g' isOn := by
  obtain ⟨hN, hF, hKB, hD, hE, hFd, hG, ⟨hH1, hH2⟩, hI, hJ⟩ := h
  obtain ⟨⟨e1, e2, e3, e4⟩, hNf, hNk, hNr, hNd⟩ := hN
  obtain ⟨hg, k1, k2, k3, k4⟩ := he
  subst hd
  have er : (nI d).toInt = (d : Int) := nI_toInt (by omega)
  have er1 : (nI (d + 1)).toInt = ((d + 1 : Nat) : Int) := nI_toInt (by omega)
  have f3 := hNf.2.1
  rw [← hg 1460 (by omega)] at e1
  rw [← hg 1461 (by omega)] at e2
  rw [← hg 1462 (by omega)] at e3
  have kw : ∀ j : Nat, ¬ j = 100 + d → vp_updL w (100 + d) wn j = w j := fun j hj => if_neg hj
  refine ⟨⟨⟨e1, e2, e3, k1.symm⟩, qNm_k hNf (fun j hj => kw _ (by omega)), qNm_k hNk (fun j hj => kw _ (by omega)), qNm_k hNr (fun j hj => kw _ (by omega)), qNm_n hNd (by omega) (by omega)⟩, qRF_g hF f3 (fun j h1 h2 => hg j (by omega)) (fun j h1 h2 => kw _ (by omega)), hKB, qHd_g hD (fun j h1 => hg j (by omega)), qHe_g hE (fun j h1 h2 => hg j (by omega)), fun q h1 h2 => ?_, qHg_g hG (fun j h1 h2 => hg j (by omega)), ⟨by rw [hg 1469 (by omega)]; exact hH1, by rw [hg 1470 (by omega)]; exact hH2⟩, qHi_d hI (by omega) (fun j h1 => hg j (by omega)), hJ⟩
  by_cases c : q = d
  · subst c
    exact ⟨by rw [k2]; exact if_pos rfl, k3.symm⟩
  · obtain ⟨a1, a2⟩ := hFd q (by omega) h2
    rw [hg (1588 + q) (by omega), hg (1593 + q) (by omega), k4 q c, show upd wa d r q = wa q from if_neg c]
    exact ⟨a1, a2⟩
theorem qHs_seconds {koR feT sT tT features keys rings doors tu rm S Tt R : Int32} {nf nk nr nd fn w : Nat → Int64} {st tf six ks on om wa op se rd hFe g isOn : Nat → Int32} {se' g' : Nat → Int32} (h : qHs koR feT sT tT features keys rings doors tu rm nf nk nr nd fn st tf six ks on om wa op se rd w hFe S Tt R g isOn) (hg : qSm g g' 1465 1469) (he : ∀ i : Nat, i < 4 → se' i = g' (1465 + i)) : qHs koR feT 1 tT features keys rings doors tu rm nf nk nr nd fn st tf six ks on om wa op se' rd w hFe 1 Tt R g' isOn := by
  obtain ⟨hN, hF, hKB, hD, hE, hFd, hG, ⟨hH1, hH2⟩, hI, hJ⟩ := h
  have f3 := hN.2.1.2.1
  exact ⟨qNms_g hN (fun j h1 h2 => hg j (by omega)) (fun _ _ _ => rfl), qRF_g hF f3 (fun j h1 h2 => hg j (by omega)) (fun _ _ _ => rfl), hKB, qHd_g hD (fun j h1 => hg j (by omega)), qHe_g hE (fun j h1 h2 => hg j (by omega)), qHf_g hFd (fun j h1 h2 => hg j (by omega)), he, ⟨by rw [hg 1469 (by omega)]; exact hH1, by rw [hg 1470 (by omega)]; exact hH2⟩, qHi_g hI (fun j h1 => hg j (by omega)), ⟨⟨fun h9 => absurd h9 (by decide), fun h9 => absurd h9 (by decide)⟩, hJ.2⟩⟩
theorem qHs_turned {koR feT sT tT features keys rings doors tu rm S Tt R : Int32} {nf nk nr nd fn w : Nat → Int64} {st tf six ks on om wa op se rd hFe g isOn : Nat → Int32} {r : Int32} (h : qHs koR feT sT tT features keys rings doors tu rm nf nk nr nd fn st tf six ks on om wa op se rd w hFe S Tt R g isOn) : qHs koR feT sT 1 features keys rings doors r rm nf nk nr nd fn st tf six ks on om wa op se rd w hFe S 1 R (upd g 1469 r) isOn := by
  obtain ⟨hN, hF, hKB, hD, hE, hFd, hG, ⟨hH1, hH2⟩, hI, hJ⟩ := h
  have f3 := hN.2.1.2.1
  have hg : ∀ j : Nat, ¬ j = 1469 → upd g 1469 r j = g j := fun j hj => if_neg hj
  exact ⟨qNms_g hN (fun j h1 h2 => hg j (by omega)) (fun _ _ _ => rfl), qRF_g hF f3 (fun j h1 h2 => hg j (by omega)) (fun _ _ _ => rfl), hKB, qHd_g hD (fun j h1 => hg j (by omega)), qHe_g hE (fun j h1 h2 => hg j (by omega)), qHf_g hFd (fun j h1 h2 => hg j (by omega)), qHg_g hG (fun j h1 h2 => hg j (by omega)), ⟨(if_pos rfl).symm, by rw [hg 1470 (by omega)]; exact hH2⟩, qHi_g hI (fun j h1 => hg j (by omega)), ⟨hJ.1, ⟨fun h9 => absurd h9 (by decide), fun h9 => absurd h9 (by decide)⟩, hJ.2.2⟩⟩
theorem qHs_round {koR feT sT tT features keys rings doors tu rm S Tt R : Int32} {nf nk nr nd fn w : Nat → Int64} {st tf six ks on om wa op se rd hFe g isOn : Nat → Int32} {v : Nat} {rd' g' : Nat → Int32} (h : qHs koR feT sT tT features keys rings doors tu rm nf nk nr nd fn st tf six ks on om wa op se rd w hFe S Tt R g isOn) (hv0 : 0 < v) (hv : v ≤ 12) (hg : ∀ j : Nat, ¬ (j = 1464 ∨ (1598 ≤ j ∧ j < 1610)) → g' j = g j) (h64 : g' 1464 = nI v) (he : ∀ i : Nat, i < v → rd' i = g' (1598 + i) ∧ (rd' i).toInt < doors.toInt) : qHs koR feT sT tT features keys rings doors tu (nI v) nf nk nr nd fn st tf six ks on om wa op se rd' w hFe S Tt 1 g' isOn := by
  obtain ⟨hN, hF, hKB, hD, hE, hFd, hG, ⟨hH1, hH2⟩, hI, hJ⟩ := h
  have f3 := hN.2.1.2.1
  have ev : (nI v).toInt = (v : Int) := nI_toInt (by omega)
  exact ⟨qNms_g hN (fun j h1 h2 => hg j (by omega)) (fun _ _ _ => rfl), qRF_g hF f3 (fun j h1 h2 => hg j (by omega)) (fun _ _ _ => rfl), hKB, qHd_g hD (fun j h1 => hg j (by omega)), qHe_g hE (fun j h1 h2 => hg j (by omega)), qHf_g hFd (fun j h1 h2 => hg j (by omega)), qHg_g hG (fun j h1 h2 => hg j (by omega)), ⟨by rw [hg 1469 (by omega)]; exact hH1, by rw [hg 1470 (by omega)]; exact hH2⟩, ⟨h64, by omega, by omega, fun i h1 h2 => he i (by omega)⟩, ⟨hJ.1, hJ.2.1, ⟨fun h9 => by rw [q_eq, ev, q0] at h9; omega, fun h9 => absurd h9 (by decide)⟩⟩⟩
