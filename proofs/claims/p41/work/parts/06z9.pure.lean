abbrev qPC : Type := Int32 × Int32 × Int32 × Int32 × Int32 × Int32 × Int32 × Int32 × Int64 × Int32 × (Nat → Int32) × Int32 × Int32 × Int32 × (Nat → Int32) × (Nat → Int64) × Int32 × (Nat → Int32) × (Nat → Int32) × Int32 × (Nat → Int64) × Int32 × (Nat → Int32) × (Nat → Int32) × (Nat → Int64) × Int32 × (Nat → Int32) × Int32 × (Nat → Int32) × (Nat → Int64) × Int32 × (Nat → Int64) × (Nat → Int32) × (Nat → Int32)
abbrev qHM : Type := Int32 × Int32 × Int32 × Int32 × Int32 × Int32 × Int32 × Int32 × Int32 × Int32 × Int32 × Int64 × Int32 × Int32 × Int32 × Int32 × Int32 × Int32 × (Nat → Int32) × (Nat → Int64) × (Nat → Int32) × (Nat → Int32)
theorem q_msH (T : Nat → Int32) (n1 n2 n : Int32) (f : Nat) (w : Nat → Int64) (hFe : Nat → Int32) (S Tt R : Int32) (g isOn : Nat → Int32) (bad ba tok a b num lt : Int32) (wd : Int64) : (if F_r_isSign tok num 59 = 0 then F_r_house_L45a T n1 n2 n f w hFe (F_r_must_0 bad ba tok a).1 (F_r_must_0 bad ba tok a).2 tok a b num lt wd S Tt R g isOn else F_r_house_L45a T n1 n2 n f w hFe bad ba (F_r_must_1 n bad tok a b num lt wd T).1 (F_r_must_1 n bad tok a b num lt wd T).2.1 (F_r_must_1 n bad tok a b num lt wd T).2.2.1 (F_r_must_1 n bad tok a b num lt wd T).2.2.2.1 (F_r_must_1 n bad tok a b num lt wd T).2.2.2.2.1 (F_r_must_1 n bad tok a b num lt wd T).2.2.2.2.2 S Tt R g isOn) = F_r_house_L45a T n1 n2 n f w hFe (qMs n bad ba tok a b num lt wd T).1 (qMs n bad ba tok a b num lt wd T).2.1 (qMs n bad ba tok a b num lt wd T).2.2.1 (qMs n bad ba tok a b num lt wd T).2.2.2.1 (qMs n bad ba tok a b num lt wd T).2.2.2.2.1 (qMs n bad ba tok a b num lt wd T).2.2.2.2.2.1 (qMs n bad ba tok a b num lt wd T).2.2.2.2.2.2.1 (qMs n bad ba tok a b num lt wd T).2.2.2.2.2.2.2 S Tt R g isOn := by
  unfold qMs
  by_cases c : F_r_isSign tok num 59 = 0
  · simp only [c, ↓reduceIte]
  · simp only [c, ↓reduceIte]
theorem q_part {n : Int32} {T : Nat → Int32} {tok a b num lt cs cn fp ba n1 n2 : Int32} {wd cl : Int64} {koR feT sT tT features keys rings doors tu rm S Tt R : Int32} {nf nk nr nd fn w : Nat → Int64} {st tf six ks on om wa op se rd hFe g isOn : Nat → Int32} {C : qPC} {M : qHM} {f2 : Nat} (hn : n.toInt ≤ 900) (h : qHs koR feT sT tT features keys rings doors tu rm nf nk nr nd fn st tf six ks on om wa op se rd w hFe S Tt R g isOn) (hT : qTk n T tok a b num lt wd cs cn cl) (h0 : ¬ tok = 0) (hC : F_Ho_readPart koR feT sT tT n tok a b cn cs cl 0 fp T nf nk nr nd features keys rings doors tu rm fn st tf six ks on om wa op se rd = C) (hM : F_r_house_L45a T n1 n2 n (f2 + 1) w hFe 0 ba tok a b num lt wd S Tt R g isOn = M) : (∃ (koR' feT' sT' tT' features' keys' rings' doors' tu' rm' S' Tt' R' : Int32) (nf' nk' nr' nd' fn' w' : Nat → Int64) (st' tf' six' ks' on' om' wa' op' se' rd' hFe' g' isOn' : Nat → Int32) (tok2 a2 b2 num2 lt2 : Int32) (wd2 : Int64) (cs2 cn2 : Int32) (cl2 : Int64), C = (1, 0, fp, tok2, a2, b2, cn2, cs2, cl2, rm', rd', tT', tu', sT', se', nd', doors', wa', op', koR', nr', rings', on', om', nk', keys', ks', feT', six', nf', features', fn', st', tf') ∧ F_r_house_L45a T n1 n2 n f2 w' hFe' 0 ba tok2 a2 b2 num2 lt2 wd2 S' Tt' R' g' isOn' = M ∧ b.toInt < a2.toInt ∧ qTk n T tok2 a2 b2 num2 lt2 wd2 cs2 cn2 cl2 ∧ qHs koR' feT' sT' tT' features' keys' rings' doors' tu' rm' nf' nk' nr' nd' fn' st' tf' six' ks' on' om' wa' op' se' rd' w' hFe' S' Tt' R' g' isOn' ∧ qFr g g' ∧ qFw w w') ∨ (∃ (fl p : Int32) (w' : Nat → Int64) (hFe' : Nat → Int32) (tok2 a2 b2 num2 lt2 : Int32) (wd2 : Int64) (S' Tt' R' : Int32) (g' isOn' : Nat → Int32), 0 < fl.toInt ∧ C.1 = 0 ∧ C.2.1 = fl ∧ C.2.2.1 = p ∧ F_r_house_L45a T n1 n2 n f2 w' hFe' fl p tok2 a2 b2 num2 lt2 wd2 S' Tt' R' g' isOn' = M ∧ qFr g g' ∧ qFw w w') := by
  obtain ⟨hN, hF, hKB, hD, hE, hFd, hG, ⟨hH1, hH2⟩, hI, hJ⟩ := id h
  rw [F_Ho_readPart_s] at hC
  rw [F_r_house_L45a_s] at hM
  simp only [h0, ↓reduceIte] at hM
  by_cases c0 : F_r_houseWord tok wd = 0
  · have ht := qh_t (show ¬ F_r_houseWord tok wd = -1 by rw [c0]; decide)
    have hk0 := eq_true c0
    have t0 : F_Te_is n tok a b T 0 = 1 := by rw [qi_0 hn hT, if_pos c0]
    simp only [t0, q_n1, ↓reduceIte] at hC
    simp only [hk0, ↓reduceIte] at hM
    generalize hCF : F_Ho_readFeature n tok a b cn cs cl 0 fp T nf nk nr nd features keys rings doors fn st tf six = CF at hC
    generalize hMF : F_r_readFeature n 0 ba tok a b num lt wd T g w hFe = MF at hM
    rw [q_msH] at hM
    rcases q_feature (feT := feT) (fp := fp) hn hN hT ht hCF hMF with ⟨f, wn, steps, k, six', g', tok2, a2, b2, num2, lt2, wd2, cs2, cn2, cl2, zt, za, zb, zn, zl, zw, hf3, hf, hcf, hmf, hq, hlt, hT2, hsx, hfl, s1, s2, hkk⟩ | ⟨fl, p, k0, c1, c2, c3, m1, m2, fr, fw⟩
    · subst hcf
      subst hmf
      simp only [hq] at hM
      exact Or.inl ⟨koR, feT, sT, tT, nI (f + 1), keys, rings, doors, tu, rm, S, Tt, R, vp_updL nf f wn, nk, nr, nd, vp_updL fn f wn, vp_updL w (84 + f) wn, upd st f steps, upd tf f k, six', ks, on, om, wa, op, se, rd, upd hFe f 0, g', isOn, tok2, a2, b2, num2, lt2, wd2, cs2, cn2, cl2, hC.symm, hM, hlt, hT2, qHs_feature h hf3 hf hkk hsx hfl s1 s2, qFr_six hf3 hsx, qFw_u qFw_r (by omega) (by omega)⟩
    · rw [m1, m2] at hM
      exact Or.inr ⟨fl, p, _, _, _, _, _, _, _, _, _, _, _, _, _, k0, by rw [← hC]; exact c1, by rw [← hC]; exact c2, by rw [← hC]; exact c3, hM, fr, fw⟩
  by_cases c1 : F_r_houseWord tok wd = 1
  · have ht := qh_t (show ¬ F_r_houseWord tok wd = -1 by rw [c1]; decide)
    have hk1 := eq_true c1
    have t0 : F_Te_is n tok a b T 0 = 0 := by rw [qi_0 hn hT, if_neg c0]
    have t1 : F_Te_is n tok a b T 18 = 1 := by rw [qi_18 hn hT, if_pos c1]
    simp only [t0, t1, q_n1, ↓reduceIte] at hC
    simp only [c0, hk1, ↓reduceIte] at hM
    generalize hCF : F_Ho_readFeels feT n b cn cs cl 0 fp T nf features st six = CF at hC
    generalize hMF : F_r_readFeels n 0 ba b num lt wd T g w hFe = MF at hM
    rw [q_msH] at hM
    rcases q_feels (fp := fp) hn hN hF hT ht hCF hMF with ⟨r, hr, hr3, ⟨six', g', tok2, a2, b2, num2, lt2, wd2, cs2, cn2, cl2, zt, za, zb, zn, zl, zw, hcf, hmf, hq, hlt, hT2, hsg, hss, hsv⟩ | ⟨fl, p, k0, c1, c2, c3, m1, m2, fr⟩⟩ | ⟨fl, p, k0, c1, c2, c3, m1, m2, fr⟩
    · subst hcf
      subst hmf
      simp only [hq] at hM
      exact Or.inl ⟨koR, feT ||| ((1 : Int32) <<< (nI r &&& 31)), sT, tT, features, keys, rings, doors, tu, rm, S, Tt, R, nf, nk, nr, nd, fn, w, st, tf, six', ks, on, om, wa, op, se, rd, upd hFe r 1, g', isOn, tok2, a2, b2, num2, lt2, wd2, cs2, cn2, cl2, hC.symm, hM, hlt, hT2, qHs_feels h hr hr3 hsg hss hsv, qFr_s hsg (by omega) (by omega), qFw_r⟩
    · rw [m1, m2] at hM
      exact Or.inr ⟨fl, p, _, _, _, _, _, _, _, _, _, _, _, _, _, k0, by rw [← hC]; exact c1, by rw [← hC]; exact c2, by rw [← hC]; exact c3, hM, fr, qFw_r⟩
    · rw [m1, m2] at hM
      exact Or.inr ⟨fl, p, _, _, _, _, _, _, _, _, _, _, _, _, _, k0, by rw [← hC]; exact c1, by rw [← hC]; exact c2, by rw [← hC]; exact c3, hM, fr, qFw_r⟩
  by_cases c2 : F_r_houseWord tok wd = 2
  · have ht := qh_t (show ¬ F_r_houseWord tok wd = -1 by rw [c2]; decide)
    have hk2 := eq_true c2
    have t0 : F_Te_is n tok a b T 0 = 0 := by rw [qi_0 hn hT, if_neg c0]
    have t1 : F_Te_is n tok a b T 18 = 0 := by rw [qi_18 hn hT, if_neg c1]
    have t2 : F_Te_is n tok a b T 19 = 1 := by rw [qi_19 hn hT, if_pos c2]
    simp only [t0, t1, t2, q_n1, ↓reduceIte] at hC
    simp only [c0, c1, hk2, ↓reduceIte] at hM
    generalize hCF : F_Ho_readKey n tok a b cn cs cl 0 fp T nf nk nr nd features keys rings doors st ks = CF at hC
    generalize hMF : F_r_readKey n 0 ba tok a b num lt wd T g w isOn = MF at hM
    rw [q_msH] at hM
    rcases q_key (fp := fp) hn hN hF hT ht hCF hMF with ⟨k, wn, hk10, hk, ⟨ks', g', tok2, a2, b2, num2, lt2, wd2, cs2, cn2, cl2, zt, za, zb, zn, zl, zw, hcf, hmf, hq, hlt, hT2, hke⟩ | ⟨fl, p, k0, c1, c2, c3, m1, m2, fr, fw⟩⟩ | ⟨fl, p, k0, c1, c2, c3, m1, m2, fr, fw⟩
    · subst hcf
      subst hmf
      simp only [hq] at hM
      exact Or.inl ⟨koR, feT, sT, tT, features, nI (k + 1), rings, doors, tu, rm, S, Tt, R, nf, vp_updL nk k wn, nr, nd, fn, vp_updL w (87 + k) wn, st, tf, six, ks', on, om, wa, op, se, rd, hFe, g', upd isOn k 0, tok2, a2, b2, num2, lt2, wd2, cs2, cn2, cl2, hC.symm, hM, hlt, hT2, qHs_key h hk10 hk hke, fun j hj => hke.1 j (by omega), qFw_u qFw_r (by omega) (by omega)⟩
    · rw [m1, m2] at hM
      exact Or.inr ⟨fl, p, _, _, _, _, _, _, _, _, _, _, _, _, _, k0, by rw [← hC]; exact c1, by rw [← hC]; exact c2, by rw [← hC]; exact c3, hM, fr, qFw_t (qFw_u qFw_r (by omega) (by omega)) fw⟩
    · rw [m1, m2] at hM
      exact Or.inr ⟨fl, p, _, _, _, _, _, _, _, _, _, _, _, _, _, k0, by rw [← hC]; exact c1, by rw [← hC]; exact c2, by rw [← hC]; exact c3, hM, fr, fw⟩
  by_cases c3 : F_r_houseWord tok wd = 3
  · have ht := qh_t (show ¬ F_r_houseWord tok wd = -1 by rw [c3]; decide)
    have hk3 := eq_true c3
    have t0 : F_Te_is n tok a b T 0 = 0 := by rw [qi_0 hn hT, if_neg c0]
    have t1 : F_Te_is n tok a b T 18 = 0 := by rw [qi_18 hn hT, if_neg c1]
    have t2 : F_Te_is n tok a b T 19 = 0 := by rw [qi_19 hn hT, if_neg c2]
    have t3 : F_Te_is n tok a b T 20 = 1 := by rw [qi_20 hn hT, if_pos c3]
    simp only [t0, t1, t2, t3, q_n1, ↓reduceIte] at hC
    simp only [c0, c1, c2, hk3, ↓reduceIte] at hM
    generalize hCF : F_Ho_readRing koR n tok a b cn cs cl 0 fp T nf nk nr nd features keys rings doors on om = CF at hC
    generalize hMF : F_r_readRing n 0 ba tok a b num lt wd T g w isOn = MF at hM
    rw [q_msH] at hM
    rcases q_ring (fp := fp) hn hN hKB hT ht hCF hMF with ⟨r, wn, hr3, hr, ⟨om', on', g', isOn', koR', tok2, a2, b2, num2, lt2, wd2, cs2, cn2, cl2, zt, za, zb, zn, zl, zw, hcf, hmf, hq, hlt, hT2, hre, hkb⟩ | ⟨fl, p, k0, c1, c2, c3, m1, m2, fr, fw⟩⟩ | ⟨fl, p, k0, c1, c2, c3, m1, m2, fr, fw⟩
    · subst hcf
      subst hmf
      simp only [hq] at hM
      exact Or.inl ⟨koR', feT, sT, tT, features, keys, nI (r + 1), doors, tu, rm, S, Tt, R, nf, nk, vp_updL nr r wn, nd, fn, vp_updL w (97 + r) wn, st, tf, six, ks, on', om', wa, op, se, rd, hFe, g', isOn', tok2, a2, b2, num2, lt2, wd2, cs2, cn2, cl2, hC.symm, hM, hlt, hT2, qHs_ring h hr3 hr hre hkb, fun j hj => hre.1 j (by omega), qFw_u qFw_r (by omega) (by omega)⟩
    · rw [m1, m2] at hM
      exact Or.inr ⟨fl, p, _, _, _, _, _, _, _, _, _, _, _, _, _, k0, by rw [← hC]; exact c1, by rw [← hC]; exact c2, by rw [← hC]; exact c3, hM, fr, qFw_t (qFw_u qFw_r (by omega) (by omega)) fw⟩
    · rw [m1, m2] at hM
      exact Or.inr ⟨fl, p, _, _, _, _, _, _, _, _, _, _, _, _, _, k0, by rw [← hC]; exact c1, by rw [← hC]; exact c2, by rw [← hC]; exact c3, hM, fr, fw⟩
  by_cases c4 : F_r_houseWord tok wd = 4
  · have ht := qh_t (show ¬ F_r_houseWord tok wd = -1 by rw [c4]; decide)
    have hk4 := eq_true c4
    have t0 : F_Te_is n tok a b T 0 = 0 := by rw [qi_0 hn hT, if_neg c0]
    have t1 : F_Te_is n tok a b T 18 = 0 := by rw [qi_18 hn hT, if_neg c1]
    have t2 : F_Te_is n tok a b T 19 = 0 := by rw [qi_19 hn hT, if_neg c2]
    have t3 : F_Te_is n tok a b T 20 = 0 := by rw [qi_20 hn hT, if_neg c3]
    have t4 : F_Te_is n tok a b T 21 = 1 := by rw [qi_21 hn hT, if_pos c4]
    simp only [t0, t1, t2, t3, t4, q_n1, ↓reduceIte] at hC
    simp only [c0, c1, c2, c3, hk4, ↓reduceIte] at hM
    generalize hCF : F_Ho_readDoor n tok a b cn cs cl 0 fp T nf nk nr nd features keys rings doors wa op = CF at hC
    generalize hMF : F_r_readDoor n 0 ba tok a b num lt wd T g w = MF at hM
    rw [q_msH] at hM
    rcases q_door (fp := fp) hn hN hT ht hCF hMF with ⟨d, wn, r, hd5, hd, -, -, ⟨op', g', tok2, a2, b2, num2, lt2, wd2, cs2, cn2, cl2, zt, za, zb, zn, zl, zw, hcf, hmf, hq, hlt, hT2, hde⟩ | ⟨fl, p, k0, c1, c2, c3, m1, m2, fr, fw⟩⟩ | ⟨fl, p, k0, c1, c2, c3, m1, m2, fr, fw⟩
    · subst hcf
      subst hmf
      simp only [hq] at hM
      exact Or.inl ⟨koR, feT, sT, tT, features, keys, rings, nI (d + 1), tu, rm, S, Tt, R, nf, nk, nr, vp_updL nd d wn, fn, vp_updL w (100 + d) wn, st, tf, six, ks, on, om, upd wa d r, op', se, rd, hFe, g', isOn, tok2, a2, b2, num2, lt2, wd2, cs2, cn2, cl2, hC.symm, hM, hlt, hT2, qHs_door h hd5 hd hde, fun j hj => hde.1 j (by omega), qFw_u qFw_r (by omega) (by omega)⟩
    · rw [m1, m2] at hM
      exact Or.inr ⟨fl, p, _, _, _, _, _, _, _, _, _, _, _, _, _, k0, by rw [← hC]; exact c1, by rw [← hC]; exact c2, by rw [← hC]; exact c3, hM, fr, qFw_t (qFw_u qFw_r (by omega) (by omega)) fw⟩
    · rw [m1, m2] at hM
      exact Or.inr ⟨fl, p, _, _, _, _, _, _, _, _, _, _, _, _, _, k0, by rw [← hC]; exact c1, by rw [← hC]; exact c2, by rw [← hC]; exact c3, hM, fr, fw⟩
  by_cases c5 : F_r_houseWord tok wd = 5
  · have ht := qh_t (show ¬ F_r_houseWord tok wd = -1 by rw [c5]; decide)
    have hk5 := eq_true c5
    have t0 : F_Te_is n tok a b T 0 = 0 := by rw [qi_0 hn hT, if_neg c0]
    have t1 : F_Te_is n tok a b T 18 = 0 := by rw [qi_18 hn hT, if_neg c1]
    have t2 : F_Te_is n tok a b T 19 = 0 := by rw [qi_19 hn hT, if_neg c2]
    have t3 : F_Te_is n tok a b T 20 = 0 := by rw [qi_20 hn hT, if_neg c3]
    have t4 : F_Te_is n tok a b T 21 = 0 := by rw [qi_21 hn hT, if_neg c4]
    have t5 : F_Te_is n tok a b T 24 = 1 := by rw [qi_24 hn hT, if_pos c5]
    simp only [t0, t1, t2, t3, t4, t5, q_n1, ↓reduceIte] at hC
    simp only [c0, c1, c2, c3, c4, hk5, ↓reduceIte] at hM
    generalize hCF : F_Ho_readSeconds sT n tok a b cn cs cl 0 fp T se = CF at hC
    generalize hMF : F_r_readSeconds n 0 ba tok a b num lt wd S T g = MF at hM
    rw [q_msH] at hM
    rcases q_seconds (fp := fp) hn hT ht hJ.1 hCF hMF with ⟨se', g', tok2, a2, b2, num2, lt2, wd2, cs2, cn2, cl2, zt, za, zb, zn, zl, zw, hcf, hmf, hq, hlt, hT2, hsg, hse⟩ | ⟨fl, p, k0, c1, c2, c3, m1, m2, fr⟩
    · subst hcf
      subst hmf
      simp only [hq] at hM
      exact Or.inl ⟨koR, feT, 1, tT, features, keys, rings, doors, tu, rm, 1, Tt, R, nf, nk, nr, nd, fn, w, st, tf, six, ks, on, om, wa, op, se', rd, hFe, g', isOn, tok2, a2, b2, num2, lt2, wd2, cs2, cn2, cl2, hC.symm, hM, hlt, hT2, qHs_seconds h hsg hse, qFr_s hsg (by omega) (by omega), qFw_r⟩
    · rw [m1, m2] at hM
      exact Or.inr ⟨fl, p, _, _, _, _, _, _, _, _, _, _, _, _, _, k0, by rw [← hC]; exact c1, by rw [← hC]; exact c2, by rw [← hC]; exact c3, hM, fr, qFw_r⟩
  by_cases c6 : F_r_houseWord tok wd = 6
  · have ht := qh_t (show ¬ F_r_houseWord tok wd = -1 by rw [c6]; decide)
    have hk6 := eq_true c6
    have t0 : F_Te_is n tok a b T 0 = 0 := by rw [qi_0 hn hT, if_neg c0]
    have t1 : F_Te_is n tok a b T 18 = 0 := by rw [qi_18 hn hT, if_neg c1]
    have t2 : F_Te_is n tok a b T 19 = 0 := by rw [qi_19 hn hT, if_neg c2]
    have t3 : F_Te_is n tok a b T 20 = 0 := by rw [qi_20 hn hT, if_neg c3]
    have t4 : F_Te_is n tok a b T 21 = 0 := by rw [qi_21 hn hT, if_neg c4]
    have t5 : F_Te_is n tok a b T 24 = 0 := by rw [qi_24 hn hT, if_neg c5]
    have t6 : F_Te_is n tok a b T 17 = 1 := by rw [qi_17 hn hT, if_pos c6]
    simp only [t0, t1, t2, t3, t4, t5, t6, q_n1, ↓reduceIte] at hC
    simp only [c0, c1, c2, c3, c4, c5, hk6, ↓reduceIte] at hM
    generalize hCF : F_Ho_readTurned tT n tok a b cn cs cl 0 fp T tu = CF at hC
    generalize hMF : F_r_readTurned n 0 ba tok a b num lt wd Tt T g = MF at hM
    rw [q_msH] at hM
    rcases q_turned (fp := fp) hn hT ht hJ.2.1 hCF hMF with ⟨r, g', tok2, a2, b2, num2, lt2, wd2, cs2, cn2, cl2, zt, za, zb, zn, zl, zw, hcf, hmf, hq, hlt, hT2, hge⟩ | ⟨fl, p, k0, c1, c2, c3, m1, m2, fr⟩
    · subst hcf
      subst hge
      subst hmf
      simp only [hq] at hM
      exact Or.inl ⟨koR, feT, sT, 1, features, keys, rings, doors, r, rm, S, 1, R, nf, nk, nr, nd, fn, w, st, tf, six, ks, on, om, wa, op, se, rd, hFe, upd g 1469 r, isOn, tok2, a2, b2, num2, lt2, wd2, cs2, cn2, cl2, hC.symm, hM, hlt, hT2, qHs_turned h, qFr_u qFr_r (by omega) (by omega), qFw_r⟩
    · rw [m1, m2] at hM
      exact Or.inr ⟨fl, p, _, _, _, _, _, _, _, _, _, _, _, _, _, k0, by rw [← hC]; exact c1, by rw [← hC]; exact c2, by rw [← hC]; exact c3, hM, fr, qFw_r⟩
  by_cases c7 : F_r_houseWord tok wd = 7
  · have ht := qh_t (show ¬ F_r_houseWord tok wd = -1 by rw [c7]; decide)
    have hk7 := eq_true c7
    have t0 : F_Te_is n tok a b T 0 = 0 := by rw [qi_0 hn hT, if_neg c0]
    have t1 : F_Te_is n tok a b T 18 = 0 := by rw [qi_18 hn hT, if_neg c1]
    have t2 : F_Te_is n tok a b T 19 = 0 := by rw [qi_19 hn hT, if_neg c2]
    have t3 : F_Te_is n tok a b T 20 = 0 := by rw [qi_20 hn hT, if_neg c3]
    have t4 : F_Te_is n tok a b T 21 = 0 := by rw [qi_21 hn hT, if_neg c4]
    have t5 : F_Te_is n tok a b T 24 = 0 := by rw [qi_24 hn hT, if_neg c5]
    have t6 : F_Te_is n tok a b T 17 = 0 := by rw [qi_17 hn hT, if_neg c6]
    have t7 : F_Te_is n tok a b T 29 = 1 := by rw [qi_29 hn hT, if_pos c7]
    simp only [t0, t1, t2, t3, t4, t5, t6, t7, q_n1, ↓reduceIte] at hC
    simp only [c0, c1, c2, c3, c4, c5, c6, hk7, ↓reduceIte] at hM
    generalize hCF : F_Ho_readRound n tok a b cn cs cl 0 fp T nd doors rm rd = CF at hC
    generalize hMF : F_r_readRound n 0 ba tok a b num lt wd R T g w = MF at hM
    rw [q_msH] at hM
    rcases q_round (fp := fp) hn hN.2.2.2.2 hN.1.2.2.2 hI.1 hI.2.1 hT ht hJ.2.2 hCF hMF with ⟨v, rd', g', tok2, a2, b2, num2, lt2, wd2, cs2, cn2, cl2, zt, za, zb, zn, zl, zw, hcf, hmf, hq, hlt, hT2, hv0, hv, hgf, h64, hrd⟩ | ⟨fl, p, k0, c1, c2, c3, m1, m2, fr⟩
    · subst hcf
      subst hmf
      simp only [hq] at hM
      exact Or.inl ⟨koR, feT, sT, tT, features, keys, rings, doors, tu, nI v, S, Tt, 1, nf, nk, nr, nd, fn, w, st, tf, six, ks, on, om, wa, op, se, rd', hFe, g', isOn, tok2, a2, b2, num2, lt2, wd2, cs2, cn2, cl2, hC.symm, hM, hlt, hT2, qHs_round h hv0 hv hgf h64 hrd, fun j hj => hgf j (by omega), qFw_r⟩
    · rw [m1, m2] at hM
      exact Or.inr ⟨fl, p, _, _, _, _, _, _, _, _, _, _, _, _, _, k0, by rw [← hC]; exact c1, by rw [← hC]; exact c2, by rw [← hC]; exact c3, hM, fr, qFw_r⟩
  have t0 : F_Te_is n tok a b T 0 = 0 := by rw [qi_0 hn hT, if_neg c0]
  have t1 : F_Te_is n tok a b T 18 = 0 := by rw [qi_18 hn hT, if_neg c1]
  have t2 : F_Te_is n tok a b T 19 = 0 := by rw [qi_19 hn hT, if_neg c2]
  have t3 : F_Te_is n tok a b T 20 = 0 := by rw [qi_20 hn hT, if_neg c3]
  have t4 : F_Te_is n tok a b T 21 = 0 := by rw [qi_21 hn hT, if_neg c4]
  have t5 : F_Te_is n tok a b T 24 = 0 := by rw [qi_24 hn hT, if_neg c5]
  have t6 : F_Te_is n tok a b T 17 = 0 := by rw [qi_17 hn hT, if_neg c6]
  have t7 : F_Te_is n tok a b T 29 = 0 := by rw [qi_29 hn hT, if_neg c7]
  have h2p : 0 < (qF tok 2).toInt := qF_p (by decide +kernel)
  simp only [t0, t1, t2, t3, t4, t5, t6, t7, q_refuse, ↓reduceIte] at hC
  simp only [c0, c1, c2, c3, c4, c5, c6, c7, q_wrong, ↓reduceIte] at hM
  rw [q_msH, (q_msN h2p ..).1, (q_msN h2p ..).2] at hM
  exact Or.inr ⟨qF tok 2, a, _, _, _, _, _, _, _, _, _, _, _, _, _, h2p, by rw [← hC], by rw [← hC], by rw [← hC], hM, qFr_r, qFw_r⟩
abbrev qAC : Type := Int32 × Int32 × Int32 × Int32 × Int32 × Int32 × Int32 × Int32 × Int32 × Int32 × Int64 × Int32 × Int32 × (Nat → Int64) × (Nat → Int64) × (Nat → Int64) × (Nat → Int64) × Int32 × Int32 × Int32 × Int32 × Int32 × Int32 × Int32 × (Nat → Int64) × (Nat → Int32) × (Nat → Int32) × (Nat → Int32) × (Nat → Int32) × (Nat → Int32) × (Nat → Int32) × (Nat → Int32) × (Nat → Int32) × (Nat → Int32) × (Nat → Int32)
theorem q_houseE {T : Nat → Int32} {n1 n2 n : Int32} {f : Nat} {w : Nat → Int64} {hFe : Nat → Int32} {fl p tok a b num lt : Int32} {wd : Int64} {S Tt R : Int32} {g isOn : Nat → Int32} (h : 0 < fl.toInt) (hf : 0 < f) : F_r_house_L45a T n1 n2 n f w hFe fl p tok a b num lt wd S Tt R g isOn = (-1, 10, 0, n2, n, fl, tok, a, b, num, lt, wd, fl, p, p, S, Tt, R, g, w, hFe, isOn) := by
  cases f with
  | zero => exact absurd hf (Nat.not_lt_zero _)
  | succ f =>
    rw [F_r_house_L45a_s]
    simp only [q_ne0 h, F_r_isWell_s, F_r_no_s, ↓reduceIte]
def qHR (n lent : Int32) (T : Nat → Int32) (fp n1 n2 : Int32) (w0 : Nat → Int64) (g0 : Nat → Int32) (C : qAC) (M : qHM) : Prop := (∃ (koR' feT' sT' tT' features' keys' rings' doors' tu' rm' S' Tt' R' : Int32) (nf' nk' nr' nd' fn' w' : Nat → Int64) (st' tf' six' ks' on' om' wa' op' se' rd' hFe' g' isOn' : Nat → Int32) (a2 b2 num2 lt2 : Int32) (wd2 : Int64) (cs2 cn2 : Int32) (cl2 : Int64) (ba : Int32), C = (1, koR', feT', sT', tT', 0, a2, b2, cn2, cs2, cl2, 0, fp, nf', nk', nr', nd', features', keys', lent, rings', doors', tu', rm', fn', st', tf', six', ks', on', om', wa', op', se', rd') ∧ F_r_house_L189b n2 n w' hFe' 0 ba 0 a2 b2 num2 lt2 wd2 S' Tt' R' isOn' n1 0 (-1) ((2147483647 - (0 : Int32).toInt).toNat + 1) (0 : Int32) g' = M ∧ qHs koR' feT' sT' tT' features' keys' rings' doors' tu' rm' nf' nk' nr' nd' fn' st' tf' six' ks' on' om' wa' op' se' rd' w' hFe' S' Tt' R' g' isOn' ∧ qFr g0 g' ∧ qFw w0 w') ∨ (∃ (fl p : Int32) (w' : Nat → Int64) (hFe' : Nat → Int32) (tok2 a2 b2 num2 lt2 : Int32) (wd2 : Int64) (S' Tt' R' : Int32) (g' isOn' : Nat → Int32), 0 < fl.toInt ∧ C.1 = 0 ∧ C.2.2.2.2.2.2.2.2.2.2.2.1 = fl ∧ C.2.2.2.2.2.2.2.2.2.2.2.2.1 = p ∧ M = (-1, 10, 0, n2, n, fl, tok2, a2, b2, num2, lt2, wd2, fl, p, p, S', Tt', R', g', w', hFe', isOn') ∧ qFr g0 g' ∧ qFw w0 w')
theorem qHR_t {n lent : Int32} {T : Nat → Int32} {fp n1 n2 : Int32} {w0 w1 : Nat → Int64} {g0 g1 : Nat → Int32} {C : qAC} {M : qHM} (hg : qFr g0 g1) (hw : qFw w0 w1) (q : qHR n lent T fp n1 n2 w1 g1 C M) : qHR n lent T fp n1 n2 w0 g0 C M := by
  rcases q with ⟨x0, x1, x2, x3, x4, x5, x6, x7, x8, x9, x10, x11, x12, x13, x14, x15, x16, x17, x18, x19, x20, x21, x22, x23, x24, x25, x26, x27, x28, x29, x30, x31, y1, y2, y3, y4, y5, y6, y7, y8, y9, h1, h2, h3, h4, h5⟩ | ⟨y1, y2, y3, y4, y5, y6, y7, y8, y9, z1, z2, z3, z4, z5, z6, h1, h2, h3, h4, h5, h6, h7⟩
  · exact Or.inl ⟨x0, x1, x2, x3, x4, x5, x6, x7, x8, x9, x10, x11, x12, x13, x14, x15, x16, x17, x18, x19, x20, x21, x22, x23, x24, x25, x26, x27, x28, x29, x30, x31, y1, y2, y3, y4, y5, y6, y7, y8, y9, h1, h2, h3, qFr_t hg h4, qFw_t hw h5⟩
  · exact Or.inr ⟨y1, y2, y3, y4, y5, y6, y7, y8, y9, z1, z2, z3, z4, z5, z6, h1, h2, h3, h4, h5, qFr_t hg h6, qFw_t hw h7⟩
theorem q_houseL {n lent : Int32} {T : Nat → Int32} {fp n1 n2 : Int32} (hn : n.toInt ≤ 900) : ∀ (f1 f2 i : Nat) (koR feT sT tT features keys rings doors tu rm S Tt R : Int32) (nf nk nr nd fn w : Nat → Int64) (st tf six ks on om wa op se rd hFe g isOn : Nat → Int32) (ba tok a b num lt cs cn : Int32) (wd cl : Int64) (C : qAC) (M : qHM), (2147483647 - (nI i).toInt).toNat < f1 → (4600 - 5 * b.toInt + tok.toInt - 5 * (0 : Int32).toInt).toNat < f2 → (i : Int) ≤ a.toInt → qHs koR feT sT tT features keys rings doors tu rm nf nk nr nd fn st tf six ks on om wa op se rd w hFe S Tt R g isOn → qTk n T tok a b num lt wd cs cn cl → F_Ho_readAll_L29a n T lent f1 (nI i) koR feT sT tT tok a b cn cs cl 0 fp nf nk nr nd fn st tf six ks on om wa op rd features keys rings doors tu rm se = C → F_r_house_L45a T n1 n2 n f2 w hFe 0 ba tok a b num lt wd S Tt R g isOn = M → qHR n lent T fp n1 n2 w g C M := by
  intro f1
  induction f1 with
  | zero => intro f2 i koR feT sT tT features keys rings doors tu rm S Tt R nf nk nr nd fn w st tf six ks on om wa op se rd hFe g isOn ba tok a b num lt cs cn wd cl C M h1; exact absurd h1 (Nat.not_lt_zero _)
  | succ f1 ih =>
    intro f2 i koR feT sT tT features keys rings doors tu rm S Tt R nf nk nr nd fn w st tf six ks on om wa op se rd hFe g isOn ba tok a b num lt cs cn wd cl C M h1 h2 hi h hT hC hM
    cases f2 with
    | zero => exact absurd h2 (Nat.not_lt_zero _)
    | succ f2 =>
      rw [q0] at h2
      have hb := q_tkb hT
      have hab := hT.2.1
      have ei : (nI i).toInt = (i : Int) := nI_toInt (by omega)
      by_cases ht : tok = 0
      · subst ht
        rw [F_Ho_readAll_L29a_s] at hC
        rw [F_r_house_L45a_s] at hM
        simp only [F_Te_goesOn_s, ite_self, ↓reduceIte] at hC
        simp only [F_r_isWell_s, q_n1, ↓reduceIte] at hM
        exact Or.inl ⟨koR, feT, sT, tT, features, keys, rings, doors, tu, rm, S, Tt, R, nf, nk, nr, nd, fn, w, st, tf, six, ks, on, om, wa, op, se, rd, hFe, g, isOn, a, b, num, lt, wd, cs, cn, cl, ba, hC.symm, hM, h, qFr_r, qFw_r⟩
      · have h9 := hT.2.2.2.2.2.1 ht
        have c900 : ¬ (900 : Int32) ≤ nI i := by rw [q_nle, ei, q900]; omega
        have htk : tok.toInt ≤ 4 ∧ 0 ≤ tok.toInt := by
          rcases hT.2.2.2.1 with c | c | c | c | c <;> rw [c] <;> decide
        rw [F_Ho_readAll_L29a_s] at hC
        simp only [c900, F_Te_goesOn_s, ht, q_n1, qnI_s i, ↓reduceIte] at hC
        generalize hCP : F_Ho_readPart koR feT sT tT n tok a b cn cs cl 0 fp T nf nk nr nd features keys rings doors tu rm fn st tf six ks on om wa op se rd = CP at hC
        rcases q_part (n1 := n1) (n2 := n2) (ba := ba) (f2 := f2) hn h hT ht hCP hM with ⟨koR', feT', sT', tT', features', keys', rings', doors', tu', rm', S', Tt', R', nf', nk', nr', nd', fn', w', st', tf', six', ks', on', om', wa', op', se', rd', hFe', g', isOn', tok2, a2, b2, num2, lt2, wd2, cs2, cn2, cl2, hcp, hM2, hlt, hT2, hs2, hg2, hw2⟩ | ⟨fl, p, w2, hFe2, tok2, a2, b2, num2, lt2, wd2, S2, T2, R2, g2, o2, k0, k1, k2, k3, hM2, hg2, hw2⟩
        · subst hcp
          have hab2 := hT2.2.1
          have htk2 : tok2.toInt ≤ 4 ∧ 0 ≤ tok2.toInt := by
            rcases hT2.2.2.2.1 with c | c | c | c | c <;> rw [c] <;> decide
          have ei1 : (nI (i + 1)).toInt = ((i + 1 : Nat) : Int) := nI_toInt (by omega)
          exact qHR_t hg2 hw2 (ih f2 (i + 1) koR' feT' sT' tT' features' keys' rings' doors' tu' rm' S' Tt' R' nf' nk' nr' nd' fn' w' st' tf' six' ks' on' om' wa' op' se' rd' hFe' g' isOn' ba tok2 a2 b2 num2 lt2 cs2 cn2 wd2 cl2 C M (by omega) (by rw [q0]; omega) (by omega) hs2 hT2 hC hM2)
        · rw [q_houseE k0 (by omega)] at hM2
          cases f1 with
          | zero => exact absurd h1 (by omega)
          | succ f1 =>
            rw [F_Ho_readAll_L29a_s] at hC
            simp only [k2, k3, q_ne0 k0, F_Te_goesOn_s, ite_self, ↓reduceIte] at hC
            subst hC
            exact Or.inr ⟨fl, p, w2, hFe2, tok2, a2, b2, num2, lt2, wd2, S2, T2, R2, g2, o2, k0, rfl, rfl, rfl, hM2.symm, hg2, hw2⟩
