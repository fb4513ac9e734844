noncomputable def F_r_readStep_3_C239 (v_238 : Int32) (v_239 : Int32) (v_240 : Int32) (v_241 : Int32) (v_242 : Int32) (v_243 : Int32) (v_244 : Int32) (v_245 : Int32) (v_246 : Int32) (v_247 : Int64) (v_248 : Int32) (g_249 : Nat → Int32) : Int32 × Int32 × Int32 × Int32 × Int32 × Int32 × Int32 × Int64 × Int32 × (Nat → Int32) :=
  let x_258 : Int32 := (v_239 + 4)
  let g_259 : Nat → Int32 := (upd g_249 (x_258 : Int32).toNatClampNeg v_248)
  (v_240, v_241, v_242, v_243, v_244, v_245, v_246, v_247, v_248, g_259)
theorem F_r_readStep_3_C239_s (v_238 : Int32) (v_239 : Int32) (v_240 : Int32) (v_241 : Int32) (v_242 : Int32) (v_243 : Int32) (v_244 : Int32) (v_245 : Int32) (v_246 : Int32) (v_247 : Int64) (v_248 : Int32) (g_249 : Nat → Int32) : F_r_readStep_3_C239 v_238 v_239 v_240 v_241 v_242 v_243 v_244 v_245 v_246 v_247 v_248 g_249 = (
  let x_258 : Int32 := (v_239 + 4)
  let g_259 : Nat → Int32 := (upd g_249 (x_258 : Int32).toNatClampNeg v_248)
  (v_240, v_241, v_242, v_243, v_244, v_245, v_246, v_247, v_248, g_259)) := rfl
noncomputable def F_r_readStep_3_L211a (v_417 : Int32) (v_418 : Int32) (v_421 : Int32) (v_422 : Int32) (v_423 : Int32) (v_424 : Int32) (v_425 : Int32) (v_426 : Int64) (v_427 : Int32) (g_428 : Nat → Int32) (n_472 : Int32) (n_473 : Int32) : Nat → (Int32 × Int32 × Int32 × Int32 × Int32 × Int32 × Int32 × Int64 × Int32 × (Nat → Int32)) := fun k9 => Nat.rec (motive := fun _ => (Int32 × Int32 × Int32 × Int32 × Int32 × Int32 × Int32 × Int64 × Int32 × (Nat → Int32))) (default) (fun _ (G_L211a : (Int32 × Int32 × Int32 × Int32 × Int32 × Int32 × Int32 × Int64 × Int32 × (Nat → Int32))) =>     F_r_readStep_3_C239 v_417 v_418 n_472 n_473 v_421 v_422 v_423 v_424 v_425 v_426 v_427 g_428) k9
theorem F_r_readStep_3_L211a_s (v_417 : Int32) (v_418 : Int32) (v_421 : Int32) (v_422 : Int32) (v_423 : Int32) (v_424 : Int32) (v_425 : Int32) (v_426 : Int64) (v_427 : Int32) (g_428 : Nat → Int32) (n_472 : Int32) (n_473 : Int32) (n9 : Nat) : F_r_readStep_3_L211a v_417 v_418 v_421 v_422 v_423 v_424 v_425 v_426 v_427 g_428 n_472 n_473 (n9 + 1) = (
    F_r_readStep_3_C239 v_417 v_418 n_472 n_473 v_421 v_422 v_423 v_424 v_425 v_426 v_427 g_428) := rfl
noncomputable def F_r_readStep_3_L211b (v_417 : Int32) (v_418 : Int32) (v_419 : Int32) (v_420 : Int32) (v_427 : Int32) (g_428 : Nat → Int32) (n_483 : Int32) (n_484 : Int32) (n_485 : Int32) (n_486 : Int32) (n_487 : Int32) (n_488 : Int64) : Nat → (Int32 × Int32 × Int32 × Int32 × Int32 × Int32 × Int32 × Int64 × Int32 × (Nat → Int32)) := fun k9 => Nat.rec (motive := fun _ => (Int32 × Int32 × Int32 × Int32 × Int32 × Int32 × Int32 × Int64 × Int32 × (Nat → Int32))) (default) (fun _ (G_L211b : (Int32 × Int32 × Int32 × Int32 × Int32 × Int32 × Int32 × Int64 × Int32 × (Nat → Int32))) =>     F_r_readStep_3_C239 v_417 v_418 v_419 v_420 n_483 n_484 n_485 n_486 n_487 n_488 v_427 g_428) k9
theorem F_r_readStep_3_L211b_s (v_417 : Int32) (v_418 : Int32) (v_419 : Int32) (v_420 : Int32) (v_427 : Int32) (g_428 : Nat → Int32) (n_483 : Int32) (n_484 : Int32) (n_485 : Int32) (n_486 : Int32) (n_487 : Int32) (n_488 : Int64) (n9 : Nat) : F_r_readStep_3_L211b v_417 v_418 v_419 v_420 v_427 g_428 n_483 n_484 n_485 n_486 n_487 n_488 (n9 + 1) = (
    F_r_readStep_3_C239 v_417 v_418 v_419 v_420 n_483 n_484 n_485 n_486 n_487 n_488 v_427 g_428) := rfl
noncomputable def F_r_readStep_3_C201 (m_textEnd : Int32) (g_tape : Nat → Int32) (v_417 : Int32) (v_418 : Int32) (v_419 : Int32) (v_420 : Int32) (v_421 : Int32) (v_422 : Int32) (v_423 : Int32) (v_424 : Int32) (v_425 : Int32) (v_426 : Int64) (v_427 : Int32) (g_428 : Nat → Int32) : Int32 × Int32 × Int32 × Int32 × Int32 × Int32 × Int32 × Int64 × Int32 × (Nat → Int32) :=
  let w_469 := F_r_isSign v_421 v_424 59
  let r_467 : Int32 := w_469
  if r_467 = 0 then (
    let w_476 := F_r_must_0 v_419 v_420 v_421 v_422
    let n_472 : Int32 := w_476.1
    let n_473 : Int32 := w_476.2
    F_r_readStep_3_L211a v_417 v_418 v_421 v_422 v_423 v_424 v_425 v_426 v_427 g_428 n_472 n_473 ((4600 - 5 * v_423.toInt + v_421.toInt - 5 * n_472.toInt).toNat + 1)) else
  (
    let w_491 := F_r_must_1 m_textEnd v_419 v_421 v_422 v_423 v_424 v_425 v_426 g_tape
    let n_483 : Int32 := w_491.1
    let n_484 : Int32 := w_491.2.1
    let n_485 : Int32 := w_491.2.2.1
    let n_486 : Int32 := w_491.2.2.2.1
    let n_487 : Int32 := w_491.2.2.2.2.1
    let n_488 : Int64 := w_491.2.2.2.2.2
    F_r_readStep_3_L211b v_417 v_418 v_419 v_420 v_427 g_428 n_483 n_484 n_485 n_486 n_487 n_488 ((4600 - 5 * n_485.toInt + n_483.toInt - 5 * v_419.toInt).toNat + 1))
theorem F_r_readStep_3_C201_s (m_textEnd : Int32) (g_tape : Nat → Int32) (v_417 : Int32) (v_418 : Int32) (v_419 : Int32) (v_420 : Int32) (v_421 : Int32) (v_422 : Int32) (v_423 : Int32) (v_424 : Int32) (v_425 : Int32) (v_426 : Int64) (v_427 : Int32) (g_428 : Nat → Int32) : F_r_readStep_3_C201 m_textEnd g_tape v_417 v_418 v_419 v_420 v_421 v_422 v_423 v_424 v_425 v_426 v_427 g_428 = (
  let w_469 := F_r_isSign v_421 v_424 59
  let r_467 : Int32 := w_469
  if r_467 = 0 then (
    let w_476 := F_r_must_0 v_419 v_420 v_421 v_422
    let n_472 : Int32 := w_476.1
    let n_473 : Int32 := w_476.2
    F_r_readStep_3_L211a v_417 v_418 v_421 v_422 v_423 v_424 v_425 v_426 v_427 g_428 n_472 n_473 ((4600 - 5 * v_423.toInt + v_421.toInt - 5 * n_472.toInt).toNat + 1)) else
  (
    let w_491 := F_r_must_1 m_textEnd v_419 v_421 v_422 v_423 v_424 v_425 v_426 g_tape
    let n_483 : Int32 := w_491.1
    let n_484 : Int32 := w_491.2.1
    let n_485 : Int32 := w_491.2.2.1
    let n_486 : Int32 := w_491.2.2.2.1
    let n_487 : Int32 := w_491.2.2.2.2.1
    let n_488 : Int64 := w_491.2.2.2.2.2
    F_r_readStep_3_L211b v_417 v_418 v_419 v_420 v_427 g_428 n_483 n_484 n_485 n_486 n_487 n_488 ((4600 - 5 * n_485.toInt + n_483.toInt - 5 * v_419.toInt).toNat + 1))) := rfl
noncomputable def F_r_readStep_3_C97 (m_textEnd : Int32) (m_bad : Int32) (m_badAt : Int32) (m_token : Int32) (m_behind : Int32) (m_number : Int32) (m_letters : Int32) (m_word : Int64) (m_newSteps : Int32) (g_tape : Nat → Int32) (g_c : Nat → Int32) (g_words : Nat → Int64) (v_608 : Int32) : Int32 × Int32 × Int32 × Int32 × Int32 × Int32 × Int32 × Int64 × Int32 × (Nat → Int32) :=
  let x_665 : Int32 := ((6 : Int32) * m_newSteps)
  let x_666 : Int32 := ((1641 : Int32) + x_665)
  let x_667 : Int32 := (m_newSteps + 1)
  let w_670 := F_r_isWhen m_token m_word
  let r_668 : Int32 := w_670
  if r_668 = 0 then (
    let w_680 := F_r_next2 m_textEnd m_behind m_number m_letters m_word g_tape
    let n_672 : Int32 := w_680.1
    let n_673 : Int32 := w_680.2.1
    let n_674 : Int32 := w_680.2.2.1
    let n_675 : Int32 := w_680.2.2.2.1
    let n_676 : Int32 := w_680.2.2.2.2.1
    let n_677 : Int64 := w_680.2.2.2.2.2
    let g_683 : Nat → Int32 := (upd g_c (x_666 : Int32).toNatClampNeg v_608)
    if v_608 = 0 then (
      let x_688 : Int32 := (x_666 + 1)
      let w_699 := F_r_readFeatureName m_textEnd m_bad m_badAt n_672 n_673 n_674 n_675 n_676 n_677 g_tape g_683 g_words
      let r_697 : Int32 := w_699.1
      let n_689 : Int32 := w_699.2.1
      let n_690 : Int32 := w_699.2.2.1
      let n_691 : Int32 := w_699.2.2.2.1
      let n_692 : Int32 := w_699.2.2.2.2.1
      let n_693 : Int32 := w_699.2.2.2.2.2.1
      let n_694 : Int64 := w_699.2.2.2.2.2.2.1
      let n_695 : Int32 := w_699.2.2.2.2.2.2.2.1
      let n_696 : Int32 := w_699.2.2.2.2.2.2.2.2
      let g_703 : Nat → Int32 := (upd g_683 (x_688 : Int32).toNatClampNeg r_697)
      F_r_readStep_3_C201 m_textEnd g_tape v_608 x_666 n_695 n_696 n_689 n_690 n_691 n_692 n_693 n_694 x_667 g_703) else (
      F_r_readStep_3_C201 m_textEnd g_tape v_608 x_666 m_bad m_badAt n_672 n_673 n_674 n_675 n_676 n_677 x_667 g_683)) else
  (
    let w_716 := F_r_readWhen m_textEnd m_bad m_badAt m_behind m_number m_letters m_word g_tape g_c g_words x_666
    let n_705 : Int32 := w_716.1
    let n_706 : Int32 := w_716.2.1
    let n_707 : Int32 := w_716.2.2.1
    let n_708 : Int32 := w_716.2.2.2.1
    let n_709 : Int32 := w_716.2.2.2.2.1
    let n_710 : Int32 := w_716.2.2.2.2.2.1
    let n_711 : Int32 := w_716.2.2.2.2.2.2.1
    let n_712 : Int64 := w_716.2.2.2.2.2.2.2.1
    let n_713 : Nat → Int32 := w_716.2.2.2.2.2.2.2.2
    F_r_readStep_3_C201 m_textEnd g_tape v_608 x_666 n_705 n_706 n_707 n_708 n_709 n_710 n_711 n_712 x_667 n_713)
theorem F_r_readStep_3_C97_s (m_textEnd : Int32) (m_bad : Int32) (m_badAt : Int32) (m_token : Int32) (m_behind : Int32) (m_number : Int32) (m_letters : Int32) (m_word : Int64) (m_newSteps : Int32) (g_tape : Nat → Int32) (g_c : Nat → Int32) (g_words : Nat → Int64) (v_608 : Int32) : F_r_readStep_3_C97 m_textEnd m_bad m_badAt m_token m_behind m_number m_letters m_word m_newSteps g_tape g_c g_words v_608 = (
  let x_665 : Int32 := ((6 : Int32) * m_newSteps)
  let x_666 : Int32 := ((1641 : Int32) + x_665)
  let x_667 : Int32 := (m_newSteps + 1)
  let w_670 := F_r_isWhen m_token m_word
  let r_668 : Int32 := w_670
  if r_668 = 0 then (
    let w_680 := F_r_next2 m_textEnd m_behind m_number m_letters m_word g_tape
    let n_672 : Int32 := w_680.1
    let n_673 : Int32 := w_680.2.1
    let n_674 : Int32 := w_680.2.2.1
    let n_675 : Int32 := w_680.2.2.2.1
    let n_676 : Int32 := w_680.2.2.2.2.1
    let n_677 : Int64 := w_680.2.2.2.2.2
    let g_683 : Nat → Int32 := (upd g_c (x_666 : Int32).toNatClampNeg v_608)
    if v_608 = 0 then (
      let x_688 : Int32 := (x_666 + 1)
      let w_699 := F_r_readFeatureName m_textEnd m_bad m_badAt n_672 n_673 n_674 n_675 n_676 n_677 g_tape g_683 g_words
      let r_697 : Int32 := w_699.1
      let n_689 : Int32 := w_699.2.1
      let n_690 : Int32 := w_699.2.2.1
      let n_691 : Int32 := w_699.2.2.2.1
      let n_692 : Int32 := w_699.2.2.2.2.1
      let n_693 : Int32 := w_699.2.2.2.2.2.1
      let n_694 : Int64 := w_699.2.2.2.2.2.2.1
      let n_695 : Int32 := w_699.2.2.2.2.2.2.2.1
      let n_696 : Int32 := w_699.2.2.2.2.2.2.2.2
      let g_703 : Nat → Int32 := (upd g_683 (x_688 : Int32).toNatClampNeg r_697)
      F_r_readStep_3_C201 m_textEnd g_tape v_608 x_666 n_695 n_696 n_689 n_690 n_691 n_692 n_693 n_694 x_667 g_703) else (
      F_r_readStep_3_C201 m_textEnd g_tape v_608 x_666 m_bad m_badAt n_672 n_673 n_674 n_675 n_676 n_677 x_667 g_683)) else
  (
    let w_716 := F_r_readWhen m_textEnd m_bad m_badAt m_behind m_number m_letters m_word g_tape g_c g_words x_666
    let n_705 : Int32 := w_716.1
    let n_706 : Int32 := w_716.2.1
    let n_707 : Int32 := w_716.2.2.1
    let n_708 : Int32 := w_716.2.2.2.1
    let n_709 : Int32 := w_716.2.2.2.2.1
    let n_710 : Int32 := w_716.2.2.2.2.2.1
    let n_711 : Int32 := w_716.2.2.2.2.2.2.1
    let n_712 : Int64 := w_716.2.2.2.2.2.2.2.1
    let n_713 : Nat → Int32 := w_716.2.2.2.2.2.2.2.2
    F_r_readStep_3_C201 m_textEnd g_tape v_608 x_666 n_705 n_706 n_707 n_708 n_709 n_710 n_711 n_712 x_667 n_713)) := rfl
noncomputable def F_r_readStep_3 (m_textEnd : Int32) (m_bad : Int32) (m_badAt : Int32) (m_token : Int32) (m_at : Int32) (m_behind : Int32) (m_number : Int32) (m_letters : Int32) (m_word : Int64) (m_newSteps : Int32) (g_tape : Nat → Int32) (g_c : Nat → Int32) (g_words : Nat → Int64) : Int32 × Int32 × Int32 × Int32 × Int32 × Int32 × Int32 × Int64 × Int32 × (Nat → Int32) :=
  let w_723 := F_r_isWhen m_token m_word
  let r_721 : Int32 := w_723
  if r_721 = 0 then (
    let w_727 := F_r_isLoop m_token m_word
    let r_725 : Int32 := w_727
    if r_725 = 0 then (
      let w_731 := F_r_plainStep m_token m_word
      let r_729 : Int32 := w_731
      if 0 ≤ r_729 then (
        if m_bad = 0 then (
          if m_newSteps = 30 then (
            let w_755 := F_r_fail m_bad m_badAt 6 m_at
            let n_751 : Int32 := w_755.1
            let n_752 : Int32 := w_755.2
            (n_751, n_752, m_token, m_at, m_behind, m_number, m_letters, m_word, m_newSteps, g_c)) else (
            F_r_readStep_3_C97 m_textEnd m_bad m_badAt m_token m_behind m_number m_letters m_word m_newSteps g_tape g_c g_words r_729)) else (
          (m_bad, m_badAt, m_token, m_at, m_behind, m_number, m_letters, m_word, m_newSteps, g_c))) else (
        let w_767 := F_r_wrong m_bad m_badAt m_token m_at
        let n_763 : Int32 := w_767.1
        let n_764 : Int32 := w_767.2
        (n_763, n_764, m_token, m_at, m_behind, m_number, m_letters, m_word, m_newSteps, g_c))) else
    (
      let w_777 := F_r_plainStep m_token m_word
      let r_775 : Int32 := w_777
      if m_bad = 0 then (
        if m_newSteps = 30 then (
          let w_805 := F_r_fail m_bad m_badAt 6 m_at
          let n_801 : Int32 := w_805.1
          let n_802 : Int32 := w_805.2
          (n_801, n_802, m_token, m_at, m_behind, m_number, m_letters, m_word, m_newSteps, g_c)) else (
          let w_795 := F_r_fail m_bad m_badAt 7 m_at
          let n_791 : Int32 := w_795.1
          let n_792 : Int32 := w_795.2
          (n_791, n_792, m_token, m_at, m_behind, m_number, m_letters, m_word, m_newSteps, g_c))) else (
        (m_bad, m_badAt, m_token, m_at, m_behind, m_number, m_letters, m_word, m_newSteps, g_c)))) else
  (
    let w_814 := F_r_plainStep m_token m_word
    let r_812 : Int32 := w_814
    if m_bad = 0 then (
      if m_newSteps = 30 then (
        let w_842 := F_r_fail m_bad m_badAt 6 m_at
        let n_838 : Int32 := w_842.1
        let n_839 : Int32 := w_842.2
        (n_838, n_839, m_token, m_at, m_behind, m_number, m_letters, m_word, m_newSteps, g_c)) else (
        let w_832 := F_r_fail m_bad m_badAt 7 m_at
        let n_828 : Int32 := w_832.1
        let n_829 : Int32 := w_832.2
        (n_828, n_829, m_token, m_at, m_behind, m_number, m_letters, m_word, m_newSteps, g_c))) else (
      (m_bad, m_badAt, m_token, m_at, m_behind, m_number, m_letters, m_word, m_newSteps, g_c)))
theorem F_r_readStep_3_s (m_textEnd : Int32) (m_bad : Int32) (m_badAt : Int32) (m_token : Int32) (m_at : Int32) (m_behind : Int32) (m_number : Int32) (m_letters : Int32) (m_word : Int64) (m_newSteps : Int32) (g_tape : Nat → Int32) (g_c : Nat → Int32) (g_words : Nat → Int64) : F_r_readStep_3 m_textEnd m_bad m_badAt m_token m_at m_behind m_number m_letters m_word m_newSteps g_tape g_c g_words = (
  let w_723 := F_r_isWhen m_token m_word
  let r_721 : Int32 := w_723
  if r_721 = 0 then (
    let w_727 := F_r_isLoop m_token m_word
    let r_725 : Int32 := w_727
    if r_725 = 0 then (
      let w_731 := F_r_plainStep m_token m_word
      let r_729 : Int32 := w_731
      if 0 ≤ r_729 then (
        if m_bad = 0 then (
          if m_newSteps = 30 then (
            let w_755 := F_r_fail m_bad m_badAt 6 m_at
            let n_751 : Int32 := w_755.1
            let n_752 : Int32 := w_755.2
            (n_751, n_752, m_token, m_at, m_behind, m_number, m_letters, m_word, m_newSteps, g_c)) else (
            F_r_readStep_3_C97 m_textEnd m_bad m_badAt m_token m_behind m_number m_letters m_word m_newSteps g_tape g_c g_words r_729)) else (
          (m_bad, m_badAt, m_token, m_at, m_behind, m_number, m_letters, m_word, m_newSteps, g_c))) else (
        let w_767 := F_r_wrong m_bad m_badAt m_token m_at
        let n_763 : Int32 := w_767.1
        let n_764 : Int32 := w_767.2
        (n_763, n_764, m_token, m_at, m_behind, m_number, m_letters, m_word, m_newSteps, g_c))) else
    (
      let w_777 := F_r_plainStep m_token m_word
      let r_775 : Int32 := w_777
      if m_bad = 0 then (
        if m_newSteps = 30 then (
          let w_805 := F_r_fail m_bad m_badAt 6 m_at
          let n_801 : Int32 := w_805.1
          let n_802 : Int32 := w_805.2
          (n_801, n_802, m_token, m_at, m_behind, m_number, m_letters, m_word, m_newSteps, g_c)) else (
          let w_795 := F_r_fail m_bad m_badAt 7 m_at
          let n_791 : Int32 := w_795.1
          let n_792 : Int32 := w_795.2
          (n_791, n_792, m_token, m_at, m_behind, m_number, m_letters, m_word, m_newSteps, g_c))) else (
        (m_bad, m_badAt, m_token, m_at, m_behind, m_number, m_letters, m_word, m_newSteps, g_c)))) else
  (
    let w_814 := F_r_plainStep m_token m_word
    let r_812 : Int32 := w_814
    if m_bad = 0 then (
      if m_newSteps = 30 then (
        let w_842 := F_r_fail m_bad m_badAt 6 m_at
        let n_838 : Int32 := w_842.1
        let n_839 : Int32 := w_842.2
        (n_838, n_839, m_token, m_at, m_behind, m_number, m_letters, m_word, m_newSteps, g_c)) else (
        let w_832 := F_r_fail m_bad m_badAt 7 m_at
        let n_828 : Int32 := w_832.1
        let n_829 : Int32 := w_832.2
        (n_828, n_829, m_token, m_at, m_behind, m_number, m_letters, m_word, m_newSteps, g_c))) else (
      (m_bad, m_badAt, m_token, m_at, m_behind, m_number, m_letters, m_word, m_newSteps, g_c)))) := rfl
noncomputable def F_r_readStep_2_C239 (m_textEnd : Int32) (g_tape : Nat → Int32) (v_890 : Int32) (v_891 : Int32) (v_892 : Int32) (v_893 : Int32) (v_894 : Int32) (v_895 : Int32) (v_896 : Int32) (v_897 : Int32) (v_898 : Int32) (v_899 : Int32) (v_900 : Int64) (v_901 : Int32) (g_902 : Nat → Int32) : Int32 × Int32 × Int32 × Int32 × Int32 × Int32 × Int32 × Int64 × Int32 × (Nat → Int32) :=
  if v_890 = 0 then (
    let x_989 : Int32 := (v_892 + 4)
    let g_990 : Nat → Int32 := (upd g_902 (x_989 : Int32).toNatClampNeg v_901)
    (v_893, v_894, v_895, v_896, v_897, v_898, v_899, v_900, v_901, g_990)) else (
    let w_995 := F_r_isEnd v_895 v_900
    let r_993 : Int32 := w_995
    if r_993 = 0 then (
      let w_1001 := F_r_must_0 v_893 v_894 v_895 v_896
      let n_997 : Int32 := w_1001.1
      let n_998 : Int32 := w_1001.2
      let w_1004 := F_r_isSign v_895 v_898 59
      let r_1002 : Int32 := w_1004
      if r_1002 = 0 then (
        let w_1011 := F_r_must_0 n_997 n_998 v_895 v_896
        let n_1007 : Int32 := w_1011.1
        let n_1008 : Int32 := w_1011.2
        let x_1012 : Int32 := (v_892 + 4)
        let g_1013 : Nat → Int32 := (upd g_902 (x_1012 : Int32).toNatClampNeg v_901)
        (n_1007, n_1008, v_895, v_896, v_897, v_898, v_899, v_900, v_901, g_1013)) else
      (
        let w_1023 := F_r_must_1 m_textEnd n_997 v_895 v_896 v_897 v_898 v_899 v_900 g_tape
        let n_1015 : Int32 := w_1023.1
        let n_1016 : Int32 := w_1023.2.1
        let n_1017 : Int32 := w_1023.2.2.1
        let n_1018 : Int32 := w_1023.2.2.2.1
        let n_1019 : Int32 := w_1023.2.2.2.2.1
        let n_1020 : Int64 := w_1023.2.2.2.2.2
        let x_1027 : Int32 := (v_892 + 4)
        let g_1028 : Nat → Int32 := (upd g_902 (x_1027 : Int32).toNatClampNeg v_901)
        (n_997, n_998, n_1015, n_1016, n_1017, n_1018, n_1019, n_1020, v_901, g_1028))) else
    (
      let w_1038 := F_r_must_1 m_textEnd v_893 v_895 v_896 v_897 v_898 v_899 v_900 g_tape
      let n_1030 : Int32 := w_1038.1
      let n_1031 : Int32 := w_1038.2.1
      let n_1032 : Int32 := w_1038.2.2.1
      let n_1033 : Int32 := w_1038.2.2.2.1
      let n_1034 : Int32 := w_1038.2.2.2.2.1
      let n_1035 : Int64 := w_1038.2.2.2.2.2
      let w_1044 := F_r_isSign n_1030 n_1033 59
      let r_1042 : Int32 := w_1044
      if r_1042 = 0 then (
        let w_1051 := F_r_must_0 v_893 v_894 n_1030 n_1031
        let n_1047 : Int32 := w_1051.1
        let n_1048 : Int32 := w_1051.2
        let x_1052 : Int32 := (v_892 + 4)
        let g_1053 : Nat → Int32 := (upd g_902 (x_1052 : Int32).toNatClampNeg v_901)
        (n_1047, n_1048, n_1030, n_1031, n_1032, n_1033, n_1034, n_1035, v_901, g_1053)) else
      (
        let w_1063 := F_r_must_1 m_textEnd v_893 n_1030 n_1031 n_1032 n_1033 n_1034 n_1035 g_tape
        let n_1055 : Int32 := w_1063.1
        let n_1056 : Int32 := w_1063.2.1
        let n_1057 : Int32 := w_1063.2.2.1
        let n_1058 : Int32 := w_1063.2.2.2.1
        let n_1059 : Int32 := w_1063.2.2.2.2.1
        let n_1060 : Int64 := w_1063.2.2.2.2.2
        let x_1067 : Int32 := (v_892 + 4)
        let g_1068 : Nat → Int32 := (upd g_902 (x_1067 : Int32).toNatClampNeg v_901)
        (v_893, v_894, n_1055, n_1056, n_1057, n_1058, n_1059, n_1060, v_901, g_1068))))
theorem F_r_readStep_2_C239_s (m_textEnd : Int32) (g_tape : Nat → Int32) (v_890 : Int32) (v_891 : Int32) (v_892 : Int32) (v_893 : Int32) (v_894 : Int32) (v_895 : Int32) (v_896 : Int32) (v_897 : Int32) (v_898 : Int32) (v_899 : Int32) (v_900 : Int64) (v_901 : Int32) (g_902 : Nat → Int32) : F_r_readStep_2_C239 m_textEnd g_tape v_890 v_891 v_892 v_893 v_894 v_895 v_896 v_897 v_898 v_899 v_900 v_901 g_902 = (
  if v_890 = 0 then (
    let x_989 : Int32 := (v_892 + 4)
    let g_990 : Nat → Int32 := (upd g_902 (x_989 : Int32).toNatClampNeg v_901)
    (v_893, v_894, v_895, v_896, v_897, v_898, v_899, v_900, v_901, g_990)) else (
    let w_995 := F_r_isEnd v_895 v_900
    let r_993 : Int32 := w_995
    if r_993 = 0 then (
      let w_1001 := F_r_must_0 v_893 v_894 v_895 v_896
      let n_997 : Int32 := w_1001.1
      let n_998 : Int32 := w_1001.2
      let w_1004 := F_r_isSign v_895 v_898 59
      let r_1002 : Int32 := w_1004
      if r_1002 = 0 then (
        let w_1011 := F_r_must_0 n_997 n_998 v_895 v_896
        let n_1007 : Int32 := w_1011.1
        let n_1008 : Int32 := w_1011.2
        let x_1012 : Int32 := (v_892 + 4)
        let g_1013 : Nat → Int32 := (upd g_902 (x_1012 : Int32).toNatClampNeg v_901)
        (n_1007, n_1008, v_895, v_896, v_897, v_898, v_899, v_900, v_901, g_1013)) else
      (
        let w_1023 := F_r_must_1 m_textEnd n_997 v_895 v_896 v_897 v_898 v_899 v_900 g_tape
        let n_1015 : Int32 := w_1023.1
        let n_1016 : Int32 := w_1023.2.1
        let n_1017 : Int32 := w_1023.2.2.1
        let n_1018 : Int32 := w_1023.2.2.2.1
        let n_1019 : Int32 := w_1023.2.2.2.2.1
        let n_1020 : Int64 := w_1023.2.2.2.2.2
        let x_1027 : Int32 := (v_892 + 4)
        let g_1028 : Nat → Int32 := (upd g_902 (x_1027 : Int32).toNatClampNeg v_901)
        (n_997, n_998, n_1015, n_1016, n_1017, n_1018, n_1019, n_1020, v_901, g_1028))) else
    (
      let w_1038 := F_r_must_1 m_textEnd v_893 v_895 v_896 v_897 v_898 v_899 v_900 g_tape
      let n_1030 : Int32 := w_1038.1
      let n_1031 : Int32 := w_1038.2.1
      let n_1032 : Int32 := w_1038.2.2.1
      let n_1033 : Int32 := w_1038.2.2.2.1
      let n_1034 : Int32 := w_1038.2.2.2.2.1
      let n_1035 : Int64 := w_1038.2.2.2.2.2
      let w_1044 := F_r_isSign n_1030 n_1033 59
      let r_1042 : Int32 := w_1044
      if r_1042 = 0 then (
        let w_1051 := F_r_must_0 v_893 v_894 n_1030 n_1031
        let n_1047 : Int32 := w_1051.1
        let n_1048 : Int32 := w_1051.2
        let x_1052 : Int32 := (v_892 + 4)
        let g_1053 : Nat → Int32 := (upd g_902 (x_1052 : Int32).toNatClampNeg v_901)
        (n_1047, n_1048, n_1030, n_1031, n_1032, n_1033, n_1034, n_1035, v_901, g_1053)) else
      (
        let w_1063 := F_r_must_1 m_textEnd v_893 n_1030 n_1031 n_1032 n_1033 n_1034 n_1035 g_tape
        let n_1055 : Int32 := w_1063.1
        let n_1056 : Int32 := w_1063.2.1
        let n_1057 : Int32 := w_1063.2.2.1
        let n_1058 : Int32 := w_1063.2.2.2.1
        let n_1059 : Int32 := w_1063.2.2.2.2.1
        let n_1060 : Int64 := w_1063.2.2.2.2.2
        let x_1067 : Int32 := (v_892 + 4)
        let g_1068 : Nat → Int32 := (upd g_902 (x_1067 : Int32).toNatClampNeg v_901)
        (v_893, v_894, n_1055, n_1056, n_1057, n_1058, n_1059, n_1060, v_901, g_1068))))) := rfl
noncomputable def F_r_readStep_2_L211a (m_textEnd : Int32) (g_tape : Nat → Int32) (v_1314 : Int32) (v_1315 : Int32) (v_1316 : Int32) (v_1319 : Int32) (v_1320 : Int32) (v_1321 : Int32) (v_1322 : Int32) (v_1323 : Int32) (v_1324 : Int64) (v_1325 : Int32) (g_1326 : Nat → Int32) (n_1545 : Int32) (n_1546 : Int32) : Nat → (Int32 × Int32 × Int32 × Int32 × Int32 × Int32 × Int32 × Int64 × Int32 × (Nat → Int32)) := fun k9 => Nat.rec (motive := fun _ => (Int32 × Int32 × Int32 × Int32 × Int32 × Int32 × Int32 × Int64 × Int32 × (Nat → Int32))) (default) (fun _ (G_L211a : (Int32 × Int32 × Int32 × Int32 × Int32 × Int32 × Int32 × Int64 × Int32 × (Nat → Int32))) =>     if v_1314 = 0 then (
      F_r_readStep_2_C239 m_textEnd g_tape v_1314 v_1315 v_1316 n_1545 n_1546 v_1319 v_1320 v_1321 v_1322 v_1323 v_1324 v_1325 g_1326) else (
      F_r_readStep_2_C239 m_textEnd g_tape v_1314 v_1315 v_1316 n_1545 n_1546 v_1319 v_1320 v_1321 v_1322 v_1323 v_1324 v_1325 g_1326)) k9
theorem F_r_readStep_2_L211a_s (m_textEnd : Int32) (g_tape : Nat → Int32) (v_1314 : Int32) (v_1315 : Int32) (v_1316 : Int32) (v_1319 : Int32) (v_1320 : Int32) (v_1321 : Int32) (v_1322 : Int32) (v_1323 : Int32) (v_1324 : Int64) (v_1325 : Int32) (g_1326 : Nat → Int32) (n_1545 : Int32) (n_1546 : Int32) (n9 : Nat) : F_r_readStep_2_L211a m_textEnd g_tape v_1314 v_1315 v_1316 v_1319 v_1320 v_1321 v_1322 v_1323 v_1324 v_1325 g_1326 n_1545 n_1546 (n9 + 1) = (
    if v_1314 = 0 then (
      F_r_readStep_2_C239 m_textEnd g_tape v_1314 v_1315 v_1316 n_1545 n_1546 v_1319 v_1320 v_1321 v_1322 v_1323 v_1324 v_1325 g_1326) else (
      F_r_readStep_2_C239 m_textEnd g_tape v_1314 v_1315 v_1316 n_1545 n_1546 v_1319 v_1320 v_1321 v_1322 v_1323 v_1324 v_1325 g_1326)) := rfl
noncomputable def F_r_readStep_2_L211b (m_textEnd : Int32) (g_tape : Nat → Int32) (g_words : Nat → Int64) (v_1314 : Int32) (v_1315 : Int32) (v_1316 : Int32) : Nat → (Nat → Int32) → Int32 → Int32 → Int32 → Int32 → Int32 → Int32 → Int32 → Int64 → Int32 → (Int32 × Int32 × Int32 × Int32 × Int32 × Int32 × Int32 × Int64 × Int32 × (Nat → Int32)) := fun k9 => Nat.rec (motive := fun _ => (Nat → Int32) → Int32 → Int32 → Int32 → Int32 → Int32 → Int32 → Int32 → Int64 → Int32 → (Int32 × Int32 × Int32 × Int32 × Int32 × Int32 × Int32 × Int64 × Int32 × (Nat → Int32))) (fun _ _ _ _ _ _ _ _ _ _ => default) (fun _ (G_L211b : (Nat → Int32) → Int32 → Int32 → Int32 → Int32 → Int32 → Int32 → Int32 → Int64 → Int32 → (Int32 × Int32 × Int32 × Int32 × Int32 × Int32 × Int32 × Int64 × Int32 × (Nat → Int32))) => fun (g_1653 : Nat → Int32) (v_1654 : Int32) (v_1655 : Int32) (v_1656 : Int32) (v_1657 : Int32) (v_1658 : Int32) (v_1659 : Int32) (v_1660 : Int32) (v_1661 : Int64) (v_1662 : Int32) =>
    if v_1314 = 0 then (
      F_r_readStep_2_C239 m_textEnd g_tape v_1314 v_1315 v_1316 v_1654 v_1655 v_1656 v_1657 v_1658 v_1659 v_1660 v_1661 v_1662 g_1653) else (
      if v_1654 = 0 then (
        let w_1731 := F_r_isEnd v_1656 v_1661
        let r_1729 : Int32 := w_1731
        if r_1729 = 0 then (
          let w_1745 := F_r_readStep_3 m_textEnd v_1654 v_1655 v_1656 v_1657 v_1658 v_1659 v_1660 v_1661 v_1662 g_tape g_1653 g_words
          let n_1733 : Int32 := w_1745.1
          let n_1734 : Int32 := w_1745.2.1
          let n_1735 : Int32 := w_1745.2.2.1
          let n_1736 : Int32 := w_1745.2.2.2.1
          let n_1737 : Int32 := w_1745.2.2.2.2.1
          let n_1738 : Int32 := w_1745.2.2.2.2.2.1
          let n_1739 : Int32 := w_1745.2.2.2.2.2.2.1
          let n_1740 : Int64 := w_1745.2.2.2.2.2.2.2.1
          let n_1741 : Int32 := w_1745.2.2.2.2.2.2.2.2.1
          let n_1742 : Nat → Int32 := w_1745.2.2.2.2.2.2.2.2.2
          G_L211b n_1742 n_1733 n_1734 n_1735 n_1736 n_1737 n_1738 n_1739 n_1740 n_1741) else
        (
          F_r_readStep_2_C239 m_textEnd g_tape v_1314 v_1315 v_1316 v_1654 v_1655 v_1656 v_1657 v_1658 v_1659 v_1660 v_1661 v_1662 g_1653)) else (
        F_r_readStep_2_C239 m_textEnd g_tape v_1314 v_1315 v_1316 v_1654 v_1655 v_1656 v_1657 v_1658 v_1659 v_1660 v_1661 v_1662 g_1653))) k9
theorem F_r_readStep_2_L211b_s (m_textEnd : Int32) (g_tape : Nat → Int32) (g_words : Nat → Int64) (v_1314 : Int32) (v_1315 : Int32) (v_1316 : Int32) (n9 : Nat) (g_1653 : Nat → Int32) (v_1654 : Int32) (v_1655 : Int32) (v_1656 : Int32) (v_1657 : Int32) (v_1658 : Int32) (v_1659 : Int32) (v_1660 : Int32) (v_1661 : Int64) (v_1662 : Int32) : F_r_readStep_2_L211b m_textEnd g_tape g_words v_1314 v_1315 v_1316 (n9 + 1) g_1653 v_1654 v_1655 v_1656 v_1657 v_1658 v_1659 v_1660 v_1661 v_1662 = (
    if v_1314 = 0 then (
      F_r_readStep_2_C239 m_textEnd g_tape v_1314 v_1315 v_1316 v_1654 v_1655 v_1656 v_1657 v_1658 v_1659 v_1660 v_1661 v_1662 g_1653) else (
      if v_1654 = 0 then (
        let w_1731 := F_r_isEnd v_1656 v_1661
        let r_1729 : Int32 := w_1731
        if r_1729 = 0 then (
          let w_1745 := F_r_readStep_3 m_textEnd v_1654 v_1655 v_1656 v_1657 v_1658 v_1659 v_1660 v_1661 v_1662 g_tape g_1653 g_words
          let n_1733 : Int32 := w_1745.1
          let n_1734 : Int32 := w_1745.2.1
          let n_1735 : Int32 := w_1745.2.2.1
          let n_1736 : Int32 := w_1745.2.2.2.1
          let n_1737 : Int32 := w_1745.2.2.2.2.1
          let n_1738 : Int32 := w_1745.2.2.2.2.2.1
          let n_1739 : Int32 := w_1745.2.2.2.2.2.2.1
          let n_1740 : Int64 := w_1745.2.2.2.2.2.2.2.1
          let n_1741 : Int32 := w_1745.2.2.2.2.2.2.2.2.1
          let n_1742 : Nat → Int32 := w_1745.2.2.2.2.2.2.2.2.2
          (F_r_readStep_2_L211b m_textEnd g_tape g_words v_1314 v_1315 v_1316 n9) n_1742 n_1733 n_1734 n_1735 n_1736 n_1737 n_1738 n_1739 n_1740 n_1741) else
        (
          F_r_readStep_2_C239 m_textEnd g_tape v_1314 v_1315 v_1316 v_1654 v_1655 v_1656 v_1657 v_1658 v_1659 v_1660 v_1661 v_1662 g_1653)) else (
        F_r_readStep_2_C239 m_textEnd g_tape v_1314 v_1315 v_1316 v_1654 v_1655 v_1656 v_1657 v_1658 v_1659 v_1660 v_1661 v_1662 g_1653))) := rfl
noncomputable def F_r_readStep_2_C201 (m_textEnd : Int32) (g_tape : Nat → Int32) (g_words : Nat → Int64) (v_1314 : Int32) (v_1315 : Int32) (v_1316 : Int32) (v_1317 : Int32) (v_1318 : Int32) (v_1319 : Int32) (v_1320 : Int32) (v_1321 : Int32) (v_1322 : Int32) (v_1323 : Int32) (v_1324 : Int64) (v_1325 : Int32) (g_1326 : Nat → Int32) : Int32 × Int32 × Int32 × Int32 × Int32 × Int32 × Int32 × Int64 × Int32 × (Nat → Int32) :=
  let w_1542 := F_r_isSign v_1319 v_1322 59
  let r_1540 : Int32 := w_1542
  if r_1540 = 0 then (
    let w_1549 := F_r_must_0 v_1317 v_1318 v_1319 v_1320
    let n_1545 : Int32 := w_1549.1
    let n_1546 : Int32 := w_1549.2
    F_r_readStep_2_L211a m_textEnd g_tape v_1314 v_1315 v_1316 v_1319 v_1320 v_1321 v_1322 v_1323 v_1324 v_1325 g_1326 n_1545 n_1546 ((4600 - 5 * v_1321.toInt + v_1319.toInt - 5 * n_1545.toInt).toNat + 1)) else
  (
    let w_1585 := F_r_must_1 m_textEnd v_1317 v_1319 v_1320 v_1321 v_1322 v_1323 v_1324 g_tape
    let n_1577 : Int32 := w_1585.1
    let n_1578 : Int32 := w_1585.2.1
    let n_1579 : Int32 := w_1585.2.2.1
    let n_1580 : Int32 := w_1585.2.2.2.1
    let n_1581 : Int32 := w_1585.2.2.2.2.1
    let n_1582 : Int64 := w_1585.2.2.2.2.2
    F_r_readStep_2_L211b m_textEnd g_tape g_words v_1314 v_1315 v_1316 ((4600 - 5 * n_1579.toInt + n_1577.toInt - 5 * v_1317.toInt).toNat + 1) g_1326 v_1317 v_1318 n_1577 n_1578 n_1579 n_1580 n_1581 n_1582 v_1325)
theorem F_r_readStep_2_C201_s (m_textEnd : Int32) (g_tape : Nat → Int32) (g_words : Nat → Int64) (v_1314 : Int32) (v_1315 : Int32) (v_1316 : Int32) (v_1317 : Int32) (v_1318 : Int32) (v_1319 : Int32) (v_1320 : Int32) (v_1321 : Int32) (v_1322 : Int32) (v_1323 : Int32) (v_1324 : Int64) (v_1325 : Int32) (g_1326 : Nat → Int32) : F_r_readStep_2_C201 m_textEnd g_tape g_words v_1314 v_1315 v_1316 v_1317 v_1318 v_1319 v_1320 v_1321 v_1322 v_1323 v_1324 v_1325 g_1326 = (
  let w_1542 := F_r_isSign v_1319 v_1322 59
  let r_1540 : Int32 := w_1542
  if r_1540 = 0 then (
    let w_1549 := F_r_must_0 v_1317 v_1318 v_1319 v_1320
    let n_1545 : Int32 := w_1549.1
    let n_1546 : Int32 := w_1549.2
    F_r_readStep_2_L211a m_textEnd g_tape v_1314 v_1315 v_1316 v_1319 v_1320 v_1321 v_1322 v_1323 v_1324 v_1325 g_1326 n_1545 n_1546 ((4600 - 5 * v_1321.toInt + v_1319.toInt - 5 * n_1545.toInt).toNat + 1)) else
  (
    let w_1585 := F_r_must_1 m_textEnd v_1317 v_1319 v_1320 v_1321 v_1322 v_1323 v_1324 g_tape
    let n_1577 : Int32 := w_1585.1
    let n_1578 : Int32 := w_1585.2.1
    let n_1579 : Int32 := w_1585.2.2.1
    let n_1580 : Int32 := w_1585.2.2.2.1
    let n_1581 : Int32 := w_1585.2.2.2.2.1
    let n_1582 : Int64 := w_1585.2.2.2.2.2
    F_r_readStep_2_L211b m_textEnd g_tape g_words v_1314 v_1315 v_1316 ((4600 - 5 * n_1579.toInt + n_1577.toInt - 5 * v_1317.toInt).toNat + 1) g_1326 v_1317 v_1318 n_1577 n_1578 n_1579 n_1580 n_1581 n_1582 v_1325)) := rfl
noncomputable def F_r_readStep_2_C97 (m_textEnd : Int32) (m_bad : Int32) (m_badAt : Int32) (m_token : Int32) (m_behind : Int32) (m_number : Int32) (m_letters : Int32) (m_word : Int64) (m_newSteps : Int32) (g_tape : Nat → Int32) (g_c : Nat → Int32) (g_words : Nat → Int64) (v_1850 : Int32) (v_1851 : Int32) : Int32 × Int32 × Int32 × Int32 × Int32 × Int32 × Int32 × Int64 × Int32 × (Nat → Int32) :=
  let x_1942 : Int32 := ((6 : Int32) * m_newSteps)
  let x_1943 : Int32 := ((1641 : Int32) + x_1942)
  let x_1944 : Int32 := (m_newSteps + 1)
  let w_1947 := F_r_isWhen m_token m_word
  let r_1945 : Int32 := w_1947
  if r_1945 = 0 then (
    if v_1850 = 0 then (
      let w_1959 := F_r_next2 m_textEnd m_behind m_number m_letters m_word g_tape
      let n_1951 : Int32 := w_1959.1
      let n_1952 : Int32 := w_1959.2.1
      let n_1953 : Int32 := w_1959.2.2.1
      let n_1954 : Int32 := w_1959.2.2.2.1
      let n_1955 : Int32 := w_1959.2.2.2.2.1
      let n_1956 : Int64 := w_1959.2.2.2.2.2
      let g_1962 : Nat → Int32 := (upd g_c (x_1943 : Int32).toNatClampNeg v_1851)
      if v_1851 = 0 then (
        let x_1967 : Int32 := (x_1943 + 1)
        let w_1978 := F_r_readFeatureName m_textEnd m_bad m_badAt n_1951 n_1952 n_1953 n_1954 n_1955 n_1956 g_tape g_1962 g_words
        let r_1976 : Int32 := w_1978.1
        let n_1968 : Int32 := w_1978.2.1
        let n_1969 : Int32 := w_1978.2.2.1
        let n_1970 : Int32 := w_1978.2.2.2.1
        let n_1971 : Int32 := w_1978.2.2.2.2.1
        let n_1972 : Int32 := w_1978.2.2.2.2.2.1
        let n_1973 : Int64 := w_1978.2.2.2.2.2.2.1
        let n_1974 : Int32 := w_1978.2.2.2.2.2.2.2.1
        let n_1975 : Int32 := w_1978.2.2.2.2.2.2.2.2
        let g_1982 : Nat → Int32 := (upd g_1962 (x_1967 : Int32).toNatClampNeg r_1976)
        F_r_readStep_2_C201 m_textEnd g_tape g_words v_1850 v_1851 x_1943 n_1974 n_1975 n_1968 n_1969 n_1970 n_1971 n_1972 n_1973 x_1944 g_1982) else (
        F_r_readStep_2_C201 m_textEnd g_tape g_words v_1850 v_1851 x_1943 m_bad m_badAt n_1951 n_1952 n_1953 n_1954 n_1955 n_1956 x_1944 g_1962)) else (
      let w_1993 := F_r_next2 m_textEnd m_behind m_number m_letters m_word g_tape
      let n_1985 : Int32 := w_1993.1
      let n_1986 : Int32 := w_1993.2.1
      let n_1987 : Int32 := w_1993.2.2.1
      let n_1988 : Int32 := w_1993.2.2.2.1
      let n_1989 : Int32 := w_1993.2.2.2.2.1
      let n_1990 : Int64 := w_1993.2.2.2.2.2
      let g_1996 : Nat → Int32 := (upd g_c (x_1943 : Int32).toNatClampNeg 9)
      let x_1997 : Int32 := (x_1943 + 3)
      let w_2008 := F_r_count m_textEnd m_bad m_badAt n_1985 n_1986 n_1987 n_1988 n_1989 n_1990 g_tape 1 9
      let r_2006 : Int32 := w_2008.1
      let n_1998 : Int32 := w_2008.2.1
      let n_1999 : Int32 := w_2008.2.2.1
      let n_2000 : Int32 := w_2008.2.2.2.1
      let n_2001 : Int32 := w_2008.2.2.2.2.1
      let n_2002 : Int32 := w_2008.2.2.2.2.2.1
      let n_2003 : Int32 := w_2008.2.2.2.2.2.2.1
      let n_2004 : Int32 := w_2008.2.2.2.2.2.2.2.1
      let n_2005 : Int64 := w_2008.2.2.2.2.2.2.2.2
      let g_2015 : Nat → Int32 := (upd g_1996 (x_1997 : Int32).toNatClampNeg r_2006)
      F_r_readStep_2_C201 m_textEnd g_tape g_words v_1850 v_1851 x_1943 n_1998 n_1999 n_2000 n_2001 n_2002 n_2003 n_2004 n_2005 x_1944 g_2015)) else
  (
    let w_2028 := F_r_readWhen m_textEnd m_bad m_badAt m_behind m_number m_letters m_word g_tape g_c g_words x_1943
    let n_2017 : Int32 := w_2028.1
    let n_2018 : Int32 := w_2028.2.1
    let n_2019 : Int32 := w_2028.2.2.1
    let n_2020 : Int32 := w_2028.2.2.2.1
    let n_2021 : Int32 := w_2028.2.2.2.2.1
    let n_2022 : Int32 := w_2028.2.2.2.2.2.1
    let n_2023 : Int32 := w_2028.2.2.2.2.2.2.1
    let n_2024 : Int64 := w_2028.2.2.2.2.2.2.2.1
    let n_2025 : Nat → Int32 := w_2028.2.2.2.2.2.2.2.2
    F_r_readStep_2_C201 m_textEnd g_tape g_words v_1850 v_1851 x_1943 n_2017 n_2018 n_2019 n_2020 n_2021 n_2022 n_2023 n_2024 x_1944 n_2025)
theorem F_r_readStep_2_C97_s (m_textEnd : Int32) (m_bad : Int32) (m_badAt : Int32) (m_token : Int32) (m_behind : Int32) (m_number : Int32) (m_letters : Int32) (m_word : Int64) (m_newSteps : Int32) (g_tape : Nat → Int32) (g_c : Nat → Int32) (g_words : Nat → Int64) (v_1850 : Int32) (v_1851 : Int32) : F_r_readStep_2_C97 m_textEnd m_bad m_badAt m_token m_behind m_number m_letters m_word m_newSteps g_tape g_c g_words v_1850 v_1851 = (
  let x_1942 : Int32 := ((6 : Int32) * m_newSteps)
  let x_1943 : Int32 := ((1641 : Int32) + x_1942)
  let x_1944 : Int32 := (m_newSteps + 1)
  let w_1947 := F_r_isWhen m_token m_word
  let r_1945 : Int32 := w_1947
  if r_1945 = 0 then (
    if v_1850 = 0 then (
      let w_1959 := F_r_next2 m_textEnd m_behind m_number m_letters m_word g_tape
      let n_1951 : Int32 := w_1959.1
      let n_1952 : Int32 := w_1959.2.1
      let n_1953 : Int32 := w_1959.2.2.1
      let n_1954 : Int32 := w_1959.2.2.2.1
      let n_1955 : Int32 := w_1959.2.2.2.2.1
      let n_1956 : Int64 := w_1959.2.2.2.2.2
      let g_1962 : Nat → Int32 := (upd g_c (x_1943 : Int32).toNatClampNeg v_1851)
      if v_1851 = 0 then (
        let x_1967 : Int32 := (x_1943 + 1)
        let w_1978 := F_r_readFeatureName m_textEnd m_bad m_badAt n_1951 n_1952 n_1953 n_1954 n_1955 n_1956 g_tape g_1962 g_words
        let r_1976 : Int32 := w_1978.1
        let n_1968 : Int32 := w_1978.2.1
        let n_1969 : Int32 := w_1978.2.2.1
        let n_1970 : Int32 := w_1978.2.2.2.1
        let n_1971 : Int32 := w_1978.2.2.2.2.1
        let n_1972 : Int32 := w_1978.2.2.2.2.2.1
        let n_1973 : Int64 := w_1978.2.2.2.2.2.2.1
        let n_1974 : Int32 := w_1978.2.2.2.2.2.2.2.1
        let n_1975 : Int32 := w_1978.2.2.2.2.2.2.2.2
        let g_1982 : Nat → Int32 := (upd g_1962 (x_1967 : Int32).toNatClampNeg r_1976)
        F_r_readStep_2_C201 m_textEnd g_tape g_words v_1850 v_1851 x_1943 n_1974 n_1975 n_1968 n_1969 n_1970 n_1971 n_1972 n_1973 x_1944 g_1982) else (
        F_r_readStep_2_C201 m_textEnd g_tape g_words v_1850 v_1851 x_1943 m_bad m_badAt n_1951 n_1952 n_1953 n_1954 n_1955 n_1956 x_1944 g_1962)) else (
      let w_1993 := F_r_next2 m_textEnd m_behind m_number m_letters m_word g_tape
      let n_1985 : Int32 := w_1993.1
      let n_1986 : Int32 := w_1993.2.1
      let n_1987 : Int32 := w_1993.2.2.1
      let n_1988 : Int32 := w_1993.2.2.2.1
      let n_1989 : Int32 := w_1993.2.2.2.2.1
      let n_1990 : Int64 := w_1993.2.2.2.2.2
      let g_1996 : Nat → Int32 := (upd g_c (x_1943 : Int32).toNatClampNeg 9)
      let x_1997 : Int32 := (x_1943 + 3)
      let w_2008 := F_r_count m_textEnd m_bad m_badAt n_1985 n_1986 n_1987 n_1988 n_1989 n_1990 g_tape 1 9
      let r_2006 : Int32 := w_2008.1
      let n_1998 : Int32 := w_2008.2.1
      let n_1999 : Int32 := w_2008.2.2.1
      let n_2000 : Int32 := w_2008.2.2.2.1
      let n_2001 : Int32 := w_2008.2.2.2.2.1
      let n_2002 : Int32 := w_2008.2.2.2.2.2.1
      let n_2003 : Int32 := w_2008.2.2.2.2.2.2.1
      let n_2004 : Int32 := w_2008.2.2.2.2.2.2.2.1
      let n_2005 : Int64 := w_2008.2.2.2.2.2.2.2.2
      let g_2015 : Nat → Int32 := (upd g_1996 (x_1997 : Int32).toNatClampNeg r_2006)
      F_r_readStep_2_C201 m_textEnd g_tape g_words v_1850 v_1851 x_1943 n_1998 n_1999 n_2000 n_2001 n_2002 n_2003 n_2004 n_2005 x_1944 g_2015)) else
  (
    let w_2028 := F_r_readWhen m_textEnd m_bad m_badAt m_behind m_number m_letters m_word g_tape g_c g_words x_1943
    let n_2017 : Int32 := w_2028.1
    let n_2018 : Int32 := w_2028.2.1
    let n_2019 : Int32 := w_2028.2.2.1
    let n_2020 : Int32 := w_2028.2.2.2.1
    let n_2021 : Int32 := w_2028.2.2.2.2.1
    let n_2022 : Int32 := w_2028.2.2.2.2.2.1
    let n_2023 : Int32 := w_2028.2.2.2.2.2.2.1
    let n_2024 : Int64 := w_2028.2.2.2.2.2.2.2.1
    let n_2025 : Nat → Int32 := w_2028.2.2.2.2.2.2.2.2
    F_r_readStep_2_C201 m_textEnd g_tape g_words v_1850 v_1851 x_1943 n_2017 n_2018 n_2019 n_2020 n_2021 n_2022 n_2023 n_2024 x_1944 n_2025)) := rfl
noncomputable def F_r_readStep_2 (m_textEnd : Int32) (m_bad : Int32) (m_badAt : Int32) (m_token : Int32) (m_at : Int32) (m_behind : Int32) (m_number : Int32) (m_letters : Int32) (m_word : Int64) (m_newSteps : Int32) (g_tape : Nat → Int32) (g_c : Nat → Int32) (g_words : Nat → Int64) : Int32 × Int32 × Int32 × Int32 × Int32 × Int32 × Int32 × Int64 × Int32 × (Nat → Int32) :=
  let w_2035 := F_r_isWhen m_token m_word
  let r_2033 : Int32 := w_2035
  if r_2033 = 0 then (
    let w_2039 := F_r_isLoop m_token m_word
    let r_2037 : Int32 := w_2039
    if r_2037 = 0 then (
      let w_2043 := F_r_plainStep m_token m_word
      let r_2041 : Int32 := w_2043
      if 0 ≤ r_2041 then (
        if m_bad = 0 then (
          if m_newSteps = 30 then (
            let w_2067 := F_r_fail m_bad m_badAt 6 m_at
            let n_2063 : Int32 := w_2067.1
            let n_2064 : Int32 := w_2067.2
            (n_2063, n_2064, m_token, m_at, m_behind, m_number, m_letters, m_word, m_newSteps, g_c)) else (
            F_r_readStep_2_C97 m_textEnd m_bad m_badAt m_token m_behind m_number m_letters m_word m_newSteps g_tape g_c g_words (0 : Int32) r_2041)) else (
          (m_bad, m_badAt, m_token, m_at, m_behind, m_number, m_letters, m_word, m_newSteps, g_c))) else (
        let w_2079 := F_r_wrong m_bad m_badAt m_token m_at
        let n_2075 : Int32 := w_2079.1
        let n_2076 : Int32 := w_2079.2
        (n_2075, n_2076, m_token, m_at, m_behind, m_number, m_letters, m_word, m_newSteps, g_c))) else
    (
      let w_2089 := F_r_plainStep m_token m_word
      let r_2087 : Int32 := w_2089
      if m_bad = 0 then (
        if m_newSteps = 30 then (
          let w_2111 := F_r_fail m_bad m_badAt 6 m_at
          let n_2107 : Int32 := w_2111.1
          let n_2108 : Int32 := w_2111.2
          (n_2107, n_2108, m_token, m_at, m_behind, m_number, m_letters, m_word, m_newSteps, g_c)) else (
          F_r_readStep_2_C97 m_textEnd m_bad m_badAt m_token m_behind m_number m_letters m_word m_newSteps g_tape g_c g_words (1 : Int32) r_2087)) else (
        (m_bad, m_badAt, m_token, m_at, m_behind, m_number, m_letters, m_word, m_newSteps, g_c)))) else
  (
    let w_2120 := F_r_plainStep m_token m_word
    let r_2118 : Int32 := w_2120
    if m_bad = 0 then (
      if m_newSteps = 30 then (
        let w_2142 := F_r_fail m_bad m_badAt 6 m_at
        let n_2138 : Int32 := w_2142.1
        let n_2139 : Int32 := w_2142.2
        (n_2138, n_2139, m_token, m_at, m_behind, m_number, m_letters, m_word, m_newSteps, g_c)) else (
        F_r_readStep_2_C97 m_textEnd m_bad m_badAt m_token m_behind m_number m_letters m_word m_newSteps g_tape g_c g_words (1 : Int32) r_2118)) else (
      (m_bad, m_badAt, m_token, m_at, m_behind, m_number, m_letters, m_word, m_newSteps, g_c)))
theorem F_r_readStep_2_s (m_textEnd : Int32) (m_bad : Int32) (m_badAt : Int32) (m_token : Int32) (m_at : Int32) (m_behind : Int32) (m_number : Int32) (m_letters : Int32) (m_word : Int64) (m_newSteps : Int32) (g_tape : Nat → Int32) (g_c : Nat → Int32) (g_words : Nat → Int64) : F_r_readStep_2 m_textEnd m_bad m_badAt m_token m_at m_behind m_number m_letters m_word m_newSteps g_tape g_c g_words = (
  let w_2035 := F_r_isWhen m_token m_word
  let r_2033 : Int32 := w_2035
  if r_2033 = 0 then (
    let w_2039 := F_r_isLoop m_token m_word
    let r_2037 : Int32 := w_2039
    if r_2037 = 0 then (
      let w_2043 := F_r_plainStep m_token m_word
      let r_2041 : Int32 := w_2043
      if 0 ≤ r_2041 then (
        if m_bad = 0 then (
          if m_newSteps = 30 then (
            let w_2067 := F_r_fail m_bad m_badAt 6 m_at
            let n_2063 : Int32 := w_2067.1
            let n_2064 : Int32 := w_2067.2
            (n_2063, n_2064, m_token, m_at, m_behind, m_number, m_letters, m_word, m_newSteps, g_c)) else (
            F_r_readStep_2_C97 m_textEnd m_bad m_badAt m_token m_behind m_number m_letters m_word m_newSteps g_tape g_c g_words (0 : Int32) r_2041)) else (
          (m_bad, m_badAt, m_token, m_at, m_behind, m_number, m_letters, m_word, m_newSteps, g_c))) else (
        let w_2079 := F_r_wrong m_bad m_badAt m_token m_at
        let n_2075 : Int32 := w_2079.1
        let n_2076 : Int32 := w_2079.2
        (n_2075, n_2076, m_token, m_at, m_behind, m_number, m_letters, m_word, m_newSteps, g_c))) else
    (
      let w_2089 := F_r_plainStep m_token m_word
      let r_2087 : Int32 := w_2089
      if m_bad = 0 then (
        if m_newSteps = 30 then (
          let w_2111 := F_r_fail m_bad m_badAt 6 m_at
          let n_2107 : Int32 := w_2111.1
          let n_2108 : Int32 := w_2111.2
          (n_2107, n_2108, m_token, m_at, m_behind, m_number, m_letters, m_word, m_newSteps, g_c)) else (
          F_r_readStep_2_C97 m_textEnd m_bad m_badAt m_token m_behind m_number m_letters m_word m_newSteps g_tape g_c g_words (1 : Int32) r_2087)) else (
        (m_bad, m_badAt, m_token, m_at, m_behind, m_number, m_letters, m_word, m_newSteps, g_c)))) else
  (
    let w_2120 := F_r_plainStep m_token m_word
    let r_2118 : Int32 := w_2120
    if m_bad = 0 then (
      if m_newSteps = 30 then (
        let w_2142 := F_r_fail m_bad m_badAt 6 m_at
        let n_2138 : Int32 := w_2142.1
        let n_2139 : Int32 := w_2142.2
        (n_2138, n_2139, m_token, m_at, m_behind, m_number, m_letters, m_word, m_newSteps, g_c)) else (
        F_r_readStep_2_C97 m_textEnd m_bad m_badAt m_token m_behind m_number m_letters m_word m_newSteps g_tape g_c g_words (1 : Int32) r_2118)) else (
      (m_bad, m_badAt, m_token, m_at, m_behind, m_number, m_letters, m_word, m_newSteps, g_c)))) := rfl
noncomputable def F_r_readStep_1_C239 (m_textEnd : Int32) (g_tape : Nat → Int32) (v_890 : Int32) (v_891 : Int32) (v_892 : Int32) (v_893 : Int32) (v_894 : Int32) (v_895 : Int32) (v_896 : Int32) (v_897 : Int32) (v_898 : Int32) (v_899 : Int32) (v_900 : Int64) (v_901 : Int32) (g_902 : Nat → Int32) : Int32 × Int32 × Int32 × Int32 × Int32 × Int32 × Int32 × Int64 × Int32 × (Nat → Int32) :=
  if v_890 = 0 then (
    let x_989 : Int32 := (v_892 + 4)
    let g_990 : Nat → Int32 := (upd g_902 (x_989 : Int32).toNatClampNeg v_901)
    (v_893, v_894, v_895, v_896, v_897, v_898, v_899, v_900, v_901, g_990)) else (
    let w_995 := F_r_isEnd v_895 v_900
    let r_993 : Int32 := w_995
    if r_993 = 0 then (
      let w_1001 := F_r_must_0 v_893 v_894 v_895 v_896
      let n_997 : Int32 := w_1001.1
      let n_998 : Int32 := w_1001.2
      let w_1004 := F_r_isSign v_895 v_898 59
      let r_1002 : Int32 := w_1004
      if r_1002 = 0 then (
        let w_1011 := F_r_must_0 n_997 n_998 v_895 v_896
        let n_1007 : Int32 := w_1011.1
        let n_1008 : Int32 := w_1011.2
        let x_1012 : Int32 := (v_892 + 4)
        let g_1013 : Nat → Int32 := (upd g_902 (x_1012 : Int32).toNatClampNeg v_901)
        (n_1007, n_1008, v_895, v_896, v_897, v_898, v_899, v_900, v_901, g_1013)) else
      (
        let w_1023 := F_r_must_1 m_textEnd n_997 v_895 v_896 v_897 v_898 v_899 v_900 g_tape
        let n_1015 : Int32 := w_1023.1
        let n_1016 : Int32 := w_1023.2.1
        let n_1017 : Int32 := w_1023.2.2.1
        let n_1018 : Int32 := w_1023.2.2.2.1
        let n_1019 : Int32 := w_1023.2.2.2.2.1
        let n_1020 : Int64 := w_1023.2.2.2.2.2
        let x_1027 : Int32 := (v_892 + 4)
        let g_1028 : Nat → Int32 := (upd g_902 (x_1027 : Int32).toNatClampNeg v_901)
        (n_997, n_998, n_1015, n_1016, n_1017, n_1018, n_1019, n_1020, v_901, g_1028))) else
    (
      let w_1038 := F_r_must_1 m_textEnd v_893 v_895 v_896 v_897 v_898 v_899 v_900 g_tape
      let n_1030 : Int32 := w_1038.1
      let n_1031 : Int32 := w_1038.2.1
      let n_1032 : Int32 := w_1038.2.2.1
      let n_1033 : Int32 := w_1038.2.2.2.1
      let n_1034 : Int32 := w_1038.2.2.2.2.1
      let n_1035 : Int64 := w_1038.2.2.2.2.2
      let w_1044 := F_r_isSign n_1030 n_1033 59
      let r_1042 : Int32 := w_1044
      if r_1042 = 0 then (
        let w_1051 := F_r_must_0 v_893 v_894 n_1030 n_1031
        let n_1047 : Int32 := w_1051.1
        let n_1048 : Int32 := w_1051.2
        let x_1052 : Int32 := (v_892 + 4)
        let g_1053 : Nat → Int32 := (upd g_902 (x_1052 : Int32).toNatClampNeg v_901)
        (n_1047, n_1048, n_1030, n_1031, n_1032, n_1033, n_1034, n_1035, v_901, g_1053)) else
      (
        let w_1063 := F_r_must_1 m_textEnd v_893 n_1030 n_1031 n_1032 n_1033 n_1034 n_1035 g_tape
        let n_1055 : Int32 := w_1063.1
        let n_1056 : Int32 := w_1063.2.1
        let n_1057 : Int32 := w_1063.2.2.1
        let n_1058 : Int32 := w_1063.2.2.2.1
        let n_1059 : Int32 := w_1063.2.2.2.2.1
        let n_1060 : Int64 := w_1063.2.2.2.2.2
        let x_1067 : Int32 := (v_892 + 4)
        let g_1068 : Nat → Int32 := (upd g_902 (x_1067 : Int32).toNatClampNeg v_901)
        (v_893, v_894, n_1055, n_1056, n_1057, n_1058, n_1059, n_1060, v_901, g_1068))))
theorem F_r_readStep_1_C239_s (m_textEnd : Int32) (g_tape : Nat → Int32) (v_890 : Int32) (v_891 : Int32) (v_892 : Int32) (v_893 : Int32) (v_894 : Int32) (v_895 : Int32) (v_896 : Int32) (v_897 : Int32) (v_898 : Int32) (v_899 : Int32) (v_900 : Int64) (v_901 : Int32) (g_902 : Nat → Int32) : F_r_readStep_1_C239 m_textEnd g_tape v_890 v_891 v_892 v_893 v_894 v_895 v_896 v_897 v_898 v_899 v_900 v_901 g_902 = (
  if v_890 = 0 then (
    let x_989 : Int32 := (v_892 + 4)
    let g_990 : Nat → Int32 := (upd g_902 (x_989 : Int32).toNatClampNeg v_901)
    (v_893, v_894, v_895, v_896, v_897, v_898, v_899, v_900, v_901, g_990)) else (
    let w_995 := F_r_isEnd v_895 v_900
    let r_993 : Int32 := w_995
    if r_993 = 0 then (
      let w_1001 := F_r_must_0 v_893 v_894 v_895 v_896
      let n_997 : Int32 := w_1001.1
      let n_998 : Int32 := w_1001.2
      let w_1004 := F_r_isSign v_895 v_898 59
      let r_1002 : Int32 := w_1004
      if r_1002 = 0 then (
        let w_1011 := F_r_must_0 n_997 n_998 v_895 v_896
        let n_1007 : Int32 := w_1011.1
        let n_1008 : Int32 := w_1011.2
        let x_1012 : Int32 := (v_892 + 4)
        let g_1013 : Nat → Int32 := (upd g_902 (x_1012 : Int32).toNatClampNeg v_901)
        (n_1007, n_1008, v_895, v_896, v_897, v_898, v_899, v_900, v_901, g_1013)) else
      (
        let w_1023 := F_r_must_1 m_textEnd n_997 v_895 v_896 v_897 v_898 v_899 v_900 g_tape
        let n_1015 : Int32 := w_1023.1
        let n_1016 : Int32 := w_1023.2.1
        let n_1017 : Int32 := w_1023.2.2.1
        let n_1018 : Int32 := w_1023.2.2.2.1
        let n_1019 : Int32 := w_1023.2.2.2.2.1
        let n_1020 : Int64 := w_1023.2.2.2.2.2
        let x_1027 : Int32 := (v_892 + 4)
        let g_1028 : Nat → Int32 := (upd g_902 (x_1027 : Int32).toNatClampNeg v_901)
        (n_997, n_998, n_1015, n_1016, n_1017, n_1018, n_1019, n_1020, v_901, g_1028))) else
    (
      let w_1038 := F_r_must_1 m_textEnd v_893 v_895 v_896 v_897 v_898 v_899 v_900 g_tape
      let n_1030 : Int32 := w_1038.1
      let n_1031 : Int32 := w_1038.2.1
      let n_1032 : Int32 := w_1038.2.2.1
      let n_1033 : Int32 := w_1038.2.2.2.1
      let n_1034 : Int32 := w_1038.2.2.2.2.1
      let n_1035 : Int64 := w_1038.2.2.2.2.2
      let w_1044 := F_r_isSign n_1030 n_1033 59
      let r_1042 : Int32 := w_1044
      if r_1042 = 0 then (
        let w_1051 := F_r_must_0 v_893 v_894 n_1030 n_1031
        let n_1047 : Int32 := w_1051.1
        let n_1048 : Int32 := w_1051.2
        let x_1052 : Int32 := (v_892 + 4)
        let g_1053 : Nat → Int32 := (upd g_902 (x_1052 : Int32).toNatClampNeg v_901)
        (n_1047, n_1048, n_1030, n_1031, n_1032, n_1033, n_1034, n_1035, v_901, g_1053)) else
      (
        let w_1063 := F_r_must_1 m_textEnd v_893 n_1030 n_1031 n_1032 n_1033 n_1034 n_1035 g_tape
        let n_1055 : Int32 := w_1063.1
        let n_1056 : Int32 := w_1063.2.1
        let n_1057 : Int32 := w_1063.2.2.1
        let n_1058 : Int32 := w_1063.2.2.2.1
        let n_1059 : Int32 := w_1063.2.2.2.2.1
        let n_1060 : Int64 := w_1063.2.2.2.2.2
        let x_1067 : Int32 := (v_892 + 4)
        let g_1068 : Nat → Int32 := (upd g_902 (x_1067 : Int32).toNatClampNeg v_901)
        (v_893, v_894, n_1055, n_1056, n_1057, n_1058, n_1059, n_1060, v_901, g_1068))))) := rfl
noncomputable def F_r_readStep_1_L211a (m_textEnd : Int32) (g_tape : Nat → Int32) (v_1314 : Int32) (v_1315 : Int32) (v_1316 : Int32) (v_1319 : Int32) (v_1320 : Int32) (v_1321 : Int32) (v_1322 : Int32) (v_1323 : Int32) (v_1324 : Int64) (v_1325 : Int32) (g_1326 : Nat → Int32) (n_1545 : Int32) (n_1546 : Int32) : Nat → (Int32 × Int32 × Int32 × Int32 × Int32 × Int32 × Int32 × Int64 × Int32 × (Nat → Int32)) := fun k9 => Nat.rec (motive := fun _ => (Int32 × Int32 × Int32 × Int32 × Int32 × Int32 × Int32 × Int64 × Int32 × (Nat → Int32))) (default) (fun _ (G_L211a : (Int32 × Int32 × Int32 × Int32 × Int32 × Int32 × Int32 × Int64 × Int32 × (Nat → Int32))) =>     if v_1314 = 0 then (
      F_r_readStep_1_C239 m_textEnd g_tape v_1314 v_1315 v_1316 n_1545 n_1546 v_1319 v_1320 v_1321 v_1322 v_1323 v_1324 v_1325 g_1326) else (
      F_r_readStep_1_C239 m_textEnd g_tape v_1314 v_1315 v_1316 n_1545 n_1546 v_1319 v_1320 v_1321 v_1322 v_1323 v_1324 v_1325 g_1326)) k9
theorem F_r_readStep_1_L211a_s (m_textEnd : Int32) (g_tape : Nat → Int32) (v_1314 : Int32) (v_1315 : Int32) (v_1316 : Int32) (v_1319 : Int32) (v_1320 : Int32) (v_1321 : Int32) (v_1322 : Int32) (v_1323 : Int32) (v_1324 : Int64) (v_1325 : Int32) (g_1326 : Nat → Int32) (n_1545 : Int32) (n_1546 : Int32) (n9 : Nat) : F_r_readStep_1_L211a m_textEnd g_tape v_1314 v_1315 v_1316 v_1319 v_1320 v_1321 v_1322 v_1323 v_1324 v_1325 g_1326 n_1545 n_1546 (n9 + 1) = (
    if v_1314 = 0 then (
      F_r_readStep_1_C239 m_textEnd g_tape v_1314 v_1315 v_1316 n_1545 n_1546 v_1319 v_1320 v_1321 v_1322 v_1323 v_1324 v_1325 g_1326) else (
      F_r_readStep_1_C239 m_textEnd g_tape v_1314 v_1315 v_1316 n_1545 n_1546 v_1319 v_1320 v_1321 v_1322 v_1323 v_1324 v_1325 g_1326)) := rfl
noncomputable def F_r_readStep_1_L211b (m_textEnd : Int32) (g_tape : Nat → Int32) (g_words : Nat → Int64) (v_1314 : Int32) (v_1315 : Int32) (v_1316 : Int32) : Nat → (Nat → Int32) → Int32 → Int32 → Int32 → Int32 → Int32 → Int32 → Int32 → Int64 → Int32 → (Int32 × Int32 × Int32 × Int32 × Int32 × Int32 × Int32 × Int64 × Int32 × (Nat → Int32)) := fun k9 => Nat.rec (motive := fun _ => (Nat → Int32) → Int32 → Int32 → Int32 → Int32 → Int32 → Int32 → Int32 → Int64 → Int32 → (Int32 × Int32 × Int32 × Int32 × Int32 × Int32 × Int32 × Int64 × Int32 × (Nat → Int32))) (fun _ _ _ _ _ _ _ _ _ _ => default) (fun _ (G_L211b : (Nat → Int32) → Int32 → Int32 → Int32 → Int32 → Int32 → Int32 → Int32 → Int64 → Int32 → (Int32 × Int32 × Int32 × Int32 × Int32 × Int32 × Int32 × Int64 × Int32 × (Nat → Int32))) => fun (g_1653 : Nat → Int32) (v_1654 : Int32) (v_1655 : Int32) (v_1656 : Int32) (v_1657 : Int32) (v_1658 : Int32) (v_1659 : Int32) (v_1660 : Int32) (v_1661 : Int64) (v_1662 : Int32) =>
    if v_1314 = 0 then (
      F_r_readStep_1_C239 m_textEnd g_tape v_1314 v_1315 v_1316 v_1654 v_1655 v_1656 v_1657 v_1658 v_1659 v_1660 v_1661 v_1662 g_1653) else (
      if v_1654 = 0 then (
        let w_1731 := F_r_isEnd v_1656 v_1661
        let r_1729 : Int32 := w_1731
        if r_1729 = 0 then (
          let w_1745 := F_r_readStep_2 m_textEnd v_1654 v_1655 v_1656 v_1657 v_1658 v_1659 v_1660 v_1661 v_1662 g_tape g_1653 g_words
          let n_1733 : Int32 := w_1745.1
          let n_1734 : Int32 := w_1745.2.1
          let n_1735 : Int32 := w_1745.2.2.1
          let n_1736 : Int32 := w_1745.2.2.2.1
          let n_1737 : Int32 := w_1745.2.2.2.2.1
          let n_1738 : Int32 := w_1745.2.2.2.2.2.1
          let n_1739 : Int32 := w_1745.2.2.2.2.2.2.1
          let n_1740 : Int64 := w_1745.2.2.2.2.2.2.2.1
          let n_1741 : Int32 := w_1745.2.2.2.2.2.2.2.2.1
          let n_1742 : Nat → Int32 := w_1745.2.2.2.2.2.2.2.2.2
          G_L211b n_1742 n_1733 n_1734 n_1735 n_1736 n_1737 n_1738 n_1739 n_1740 n_1741) else
        (
          F_r_readStep_1_C239 m_textEnd g_tape v_1314 v_1315 v_1316 v_1654 v_1655 v_1656 v_1657 v_1658 v_1659 v_1660 v_1661 v_1662 g_1653)) else (
        F_r_readStep_1_C239 m_textEnd g_tape v_1314 v_1315 v_1316 v_1654 v_1655 v_1656 v_1657 v_1658 v_1659 v_1660 v_1661 v_1662 g_1653))) k9
theorem F_r_readStep_1_L211b_s (m_textEnd : Int32) (g_tape : Nat → Int32) (g_words : Nat → Int64) (v_1314 : Int32) (v_1315 : Int32) (v_1316 : Int32) (n9 : Nat) (g_1653 : Nat → Int32) (v_1654 : Int32) (v_1655 : Int32) (v_1656 : Int32) (v_1657 : Int32) (v_1658 : Int32) (v_1659 : Int32) (v_1660 : Int32) (v_1661 : Int64) (v_1662 : Int32) : F_r_readStep_1_L211b m_textEnd g_tape g_words v_1314 v_1315 v_1316 (n9 + 1) g_1653 v_1654 v_1655 v_1656 v_1657 v_1658 v_1659 v_1660 v_1661 v_1662 = (
    if v_1314 = 0 then (
      F_r_readStep_1_C239 m_textEnd g_tape v_1314 v_1315 v_1316 v_1654 v_1655 v_1656 v_1657 v_1658 v_1659 v_1660 v_1661 v_1662 g_1653) else (
      if v_1654 = 0 then (
        let w_1731 := F_r_isEnd v_1656 v_1661
        let r_1729 : Int32 := w_1731
        if r_1729 = 0 then (
          let w_1745 := F_r_readStep_2 m_textEnd v_1654 v_1655 v_1656 v_1657 v_1658 v_1659 v_1660 v_1661 v_1662 g_tape g_1653 g_words
          let n_1733 : Int32 := w_1745.1
          let n_1734 : Int32 := w_1745.2.1
          let n_1735 : Int32 := w_1745.2.2.1
          let n_1736 : Int32 := w_1745.2.2.2.1
          let n_1737 : Int32 := w_1745.2.2.2.2.1
          let n_1738 : Int32 := w_1745.2.2.2.2.2.1
          let n_1739 : Int32 := w_1745.2.2.2.2.2.2.1
          let n_1740 : Int64 := w_1745.2.2.2.2.2.2.2.1
          let n_1741 : Int32 := w_1745.2.2.2.2.2.2.2.2.1
          let n_1742 : Nat → Int32 := w_1745.2.2.2.2.2.2.2.2.2
          (F_r_readStep_1_L211b m_textEnd g_tape g_words v_1314 v_1315 v_1316 n9) n_1742 n_1733 n_1734 n_1735 n_1736 n_1737 n_1738 n_1739 n_1740 n_1741) else
        (
          F_r_readStep_1_C239 m_textEnd g_tape v_1314 v_1315 v_1316 v_1654 v_1655 v_1656 v_1657 v_1658 v_1659 v_1660 v_1661 v_1662 g_1653)) else (
        F_r_readStep_1_C239 m_textEnd g_tape v_1314 v_1315 v_1316 v_1654 v_1655 v_1656 v_1657 v_1658 v_1659 v_1660 v_1661 v_1662 g_1653))) := rfl
noncomputable def F_r_readStep_1_C201 (m_textEnd : Int32) (g_tape : Nat → Int32) (g_words : Nat → Int64) (v_1314 : Int32) (v_1315 : Int32) (v_1316 : Int32) (v_1317 : Int32) (v_1318 : Int32) (v_1319 : Int32) (v_1320 : Int32) (v_1321 : Int32) (v_1322 : Int32) (v_1323 : Int32) (v_1324 : Int64) (v_1325 : Int32) (g_1326 : Nat → Int32) : Int32 × Int32 × Int32 × Int32 × Int32 × Int32 × Int32 × Int64 × Int32 × (Nat → Int32) :=
  let w_1542 := F_r_isSign v_1319 v_1322 59
  let r_1540 : Int32 := w_1542
  if r_1540 = 0 then (
    let w_1549 := F_r_must_0 v_1317 v_1318 v_1319 v_1320
    let n_1545 : Int32 := w_1549.1
    let n_1546 : Int32 := w_1549.2
    F_r_readStep_1_L211a m_textEnd g_tape v_1314 v_1315 v_1316 v_1319 v_1320 v_1321 v_1322 v_1323 v_1324 v_1325 g_1326 n_1545 n_1546 ((4600 - 5 * v_1321.toInt + v_1319.toInt - 5 * n_1545.toInt).toNat + 1)) else
  (
    let w_1585 := F_r_must_1 m_textEnd v_1317 v_1319 v_1320 v_1321 v_1322 v_1323 v_1324 g_tape
    let n_1577 : Int32 := w_1585.1
    let n_1578 : Int32 := w_1585.2.1
    let n_1579 : Int32 := w_1585.2.2.1
    let n_1580 : Int32 := w_1585.2.2.2.1
    let n_1581 : Int32 := w_1585.2.2.2.2.1
    let n_1582 : Int64 := w_1585.2.2.2.2.2
    F_r_readStep_1_L211b m_textEnd g_tape g_words v_1314 v_1315 v_1316 ((4600 - 5 * n_1579.toInt + n_1577.toInt - 5 * v_1317.toInt).toNat + 1) g_1326 v_1317 v_1318 n_1577 n_1578 n_1579 n_1580 n_1581 n_1582 v_1325)
theorem F_r_readStep_1_C201_s (m_textEnd : Int32) (g_tape : Nat → Int32) (g_words : Nat → Int64) (v_1314 : Int32) (v_1315 : Int32) (v_1316 : Int32) (v_1317 : Int32) (v_1318 : Int32) (v_1319 : Int32) (v_1320 : Int32) (v_1321 : Int32) (v_1322 : Int32) (v_1323 : Int32) (v_1324 : Int64) (v_1325 : Int32) (g_1326 : Nat → Int32) : F_r_readStep_1_C201 m_textEnd g_tape g_words v_1314 v_1315 v_1316 v_1317 v_1318 v_1319 v_1320 v_1321 v_1322 v_1323 v_1324 v_1325 g_1326 = (
  let w_1542 := F_r_isSign v_1319 v_1322 59
  let r_1540 : Int32 := w_1542
  if r_1540 = 0 then (
    let w_1549 := F_r_must_0 v_1317 v_1318 v_1319 v_1320
    let n_1545 : Int32 := w_1549.1
    let n_1546 : Int32 := w_1549.2
    F_r_readStep_1_L211a m_textEnd g_tape v_1314 v_1315 v_1316 v_1319 v_1320 v_1321 v_1322 v_1323 v_1324 v_1325 g_1326 n_1545 n_1546 ((4600 - 5 * v_1321.toInt + v_1319.toInt - 5 * n_1545.toInt).toNat + 1)) else
  (
    let w_1585 := F_r_must_1 m_textEnd v_1317 v_1319 v_1320 v_1321 v_1322 v_1323 v_1324 g_tape
    let n_1577 : Int32 := w_1585.1
    let n_1578 : Int32 := w_1585.2.1
    let n_1579 : Int32 := w_1585.2.2.1
    let n_1580 : Int32 := w_1585.2.2.2.1
    let n_1581 : Int32 := w_1585.2.2.2.2.1
    let n_1582 : Int64 := w_1585.2.2.2.2.2
    F_r_readStep_1_L211b m_textEnd g_tape g_words v_1314 v_1315 v_1316 ((4600 - 5 * n_1579.toInt + n_1577.toInt - 5 * v_1317.toInt).toNat + 1) g_1326 v_1317 v_1318 n_1577 n_1578 n_1579 n_1580 n_1581 n_1582 v_1325)) := rfl
noncomputable def F_r_readStep_1_C97 (m_textEnd : Int32) (m_bad : Int32) (m_badAt : Int32) (m_token : Int32) (m_behind : Int32) (m_number : Int32) (m_letters : Int32) (m_word : Int64) (m_newSteps : Int32) (g_tape : Nat → Int32) (g_c : Nat → Int32) (g_words : Nat → Int64) (v_1850 : Int32) (v_1851 : Int32) : Int32 × Int32 × Int32 × Int32 × Int32 × Int32 × Int32 × Int64 × Int32 × (Nat → Int32) :=
  let x_1942 : Int32 := ((6 : Int32) * m_newSteps)
  let x_1943 : Int32 := ((1641 : Int32) + x_1942)
  let x_1944 : Int32 := (m_newSteps + 1)
  let w_1947 := F_r_isWhen m_token m_word
  let r_1945 : Int32 := w_1947
  if r_1945 = 0 then (
    if v_1850 = 0 then (
      let w_1959 := F_r_next2 m_textEnd m_behind m_number m_letters m_word g_tape
      let n_1951 : Int32 := w_1959.1
      let n_1952 : Int32 := w_1959.2.1
      let n_1953 : Int32 := w_1959.2.2.1
      let n_1954 : Int32 := w_1959.2.2.2.1
      let n_1955 : Int32 := w_1959.2.2.2.2.1
      let n_1956 : Int64 := w_1959.2.2.2.2.2
      let g_1962 : Nat → Int32 := (upd g_c (x_1943 : Int32).toNatClampNeg v_1851)
      if v_1851 = 0 then (
        let x_1967 : Int32 := (x_1943 + 1)
        let w_1978 := F_r_readFeatureName m_textEnd m_bad m_badAt n_1951 n_1952 n_1953 n_1954 n_1955 n_1956 g_tape g_1962 g_words
        let r_1976 : Int32 := w_1978.1
        let n_1968 : Int32 := w_1978.2.1
        let n_1969 : Int32 := w_1978.2.2.1
        let n_1970 : Int32 := w_1978.2.2.2.1
        let n_1971 : Int32 := w_1978.2.2.2.2.1
        let n_1972 : Int32 := w_1978.2.2.2.2.2.1
        let n_1973 : Int64 := w_1978.2.2.2.2.2.2.1
        let n_1974 : Int32 := w_1978.2.2.2.2.2.2.2.1
        let n_1975 : Int32 := w_1978.2.2.2.2.2.2.2.2
        let g_1982 : Nat → Int32 := (upd g_1962 (x_1967 : Int32).toNatClampNeg r_1976)
        F_r_readStep_1_C201 m_textEnd g_tape g_words v_1850 v_1851 x_1943 n_1974 n_1975 n_1968 n_1969 n_1970 n_1971 n_1972 n_1973 x_1944 g_1982) else (
        F_r_readStep_1_C201 m_textEnd g_tape g_words v_1850 v_1851 x_1943 m_bad m_badAt n_1951 n_1952 n_1953 n_1954 n_1955 n_1956 x_1944 g_1962)) else (
      let w_1993 := F_r_next2 m_textEnd m_behind m_number m_letters m_word g_tape
      let n_1985 : Int32 := w_1993.1
      let n_1986 : Int32 := w_1993.2.1
      let n_1987 : Int32 := w_1993.2.2.1
      let n_1988 : Int32 := w_1993.2.2.2.1
      let n_1989 : Int32 := w_1993.2.2.2.2.1
      let n_1990 : Int64 := w_1993.2.2.2.2.2
      let g_1996 : Nat → Int32 := (upd g_c (x_1943 : Int32).toNatClampNeg 9)
      let x_1997 : Int32 := (x_1943 + 3)
      let w_2008 := F_r_count m_textEnd m_bad m_badAt n_1985 n_1986 n_1987 n_1988 n_1989 n_1990 g_tape 1 9
      let r_2006 : Int32 := w_2008.1
      let n_1998 : Int32 := w_2008.2.1
      let n_1999 : Int32 := w_2008.2.2.1
      let n_2000 : Int32 := w_2008.2.2.2.1
      let n_2001 : Int32 := w_2008.2.2.2.2.1
      let n_2002 : Int32 := w_2008.2.2.2.2.2.1
      let n_2003 : Int32 := w_2008.2.2.2.2.2.2.1
      let n_2004 : Int32 := w_2008.2.2.2.2.2.2.2.1
      let n_2005 : Int64 := w_2008.2.2.2.2.2.2.2.2
      let g_2015 : Nat → Int32 := (upd g_1996 (x_1997 : Int32).toNatClampNeg r_2006)
      F_r_readStep_1_C201 m_textEnd g_tape g_words v_1850 v_1851 x_1943 n_1998 n_1999 n_2000 n_2001 n_2002 n_2003 n_2004 n_2005 x_1944 g_2015)) else
  (
    let w_2028 := F_r_readWhen m_textEnd m_bad m_badAt m_behind m_number m_letters m_word g_tape g_c g_words x_1943
    let n_2017 : Int32 := w_2028.1
    let n_2018 : Int32 := w_2028.2.1
    let n_2019 : Int32 := w_2028.2.2.1
    let n_2020 : Int32 := w_2028.2.2.2.1
    let n_2021 : Int32 := w_2028.2.2.2.2.1
    let n_2022 : Int32 := w_2028.2.2.2.2.2.1
    let n_2023 : Int32 := w_2028.2.2.2.2.2.2.1
    let n_2024 : Int64 := w_2028.2.2.2.2.2.2.2.1
    let n_2025 : Nat → Int32 := w_2028.2.2.2.2.2.2.2.2
    F_r_readStep_1_C201 m_textEnd g_tape g_words v_1850 v_1851 x_1943 n_2017 n_2018 n_2019 n_2020 n_2021 n_2022 n_2023 n_2024 x_1944 n_2025)
theorem F_r_readStep_1_C97_s (m_textEnd : Int32) (m_bad : Int32) (m_badAt : Int32) (m_token : Int32) (m_behind : Int32) (m_number : Int32) (m_letters : Int32) (m_word : Int64) (m_newSteps : Int32) (g_tape : Nat → Int32) (g_c : Nat → Int32) (g_words : Nat → Int64) (v_1850 : Int32) (v_1851 : Int32) : F_r_readStep_1_C97 m_textEnd m_bad m_badAt m_token m_behind m_number m_letters m_word m_newSteps g_tape g_c g_words v_1850 v_1851 = (
  let x_1942 : Int32 := ((6 : Int32) * m_newSteps)
  let x_1943 : Int32 := ((1641 : Int32) + x_1942)
  let x_1944 : Int32 := (m_newSteps + 1)
  let w_1947 := F_r_isWhen m_token m_word
  let r_1945 : Int32 := w_1947
  if r_1945 = 0 then (
    if v_1850 = 0 then (
      let w_1959 := F_r_next2 m_textEnd m_behind m_number m_letters m_word g_tape
      let n_1951 : Int32 := w_1959.1
      let n_1952 : Int32 := w_1959.2.1
      let n_1953 : Int32 := w_1959.2.2.1
      let n_1954 : Int32 := w_1959.2.2.2.1
      let n_1955 : Int32 := w_1959.2.2.2.2.1
      let n_1956 : Int64 := w_1959.2.2.2.2.2
      let g_1962 : Nat → Int32 := (upd g_c (x_1943 : Int32).toNatClampNeg v_1851)
      if v_1851 = 0 then (
        let x_1967 : Int32 := (x_1943 + 1)
        let w_1978 := F_r_readFeatureName m_textEnd m_bad m_badAt n_1951 n_1952 n_1953 n_1954 n_1955 n_1956 g_tape g_1962 g_words
        let r_1976 : Int32 := w_1978.1
        let n_1968 : Int32 := w_1978.2.1
        let n_1969 : Int32 := w_1978.2.2.1
        let n_1970 : Int32 := w_1978.2.2.2.1
        let n_1971 : Int32 := w_1978.2.2.2.2.1
        let n_1972 : Int32 := w_1978.2.2.2.2.2.1
        let n_1973 : Int64 := w_1978.2.2.2.2.2.2.1
        let n_1974 : Int32 := w_1978.2.2.2.2.2.2.2.1
        let n_1975 : Int32 := w_1978.2.2.2.2.2.2.2.2
        let g_1982 : Nat → Int32 := (upd g_1962 (x_1967 : Int32).toNatClampNeg r_1976)
        F_r_readStep_1_C201 m_textEnd g_tape g_words v_1850 v_1851 x_1943 n_1974 n_1975 n_1968 n_1969 n_1970 n_1971 n_1972 n_1973 x_1944 g_1982) else (
        F_r_readStep_1_C201 m_textEnd g_tape g_words v_1850 v_1851 x_1943 m_bad m_badAt n_1951 n_1952 n_1953 n_1954 n_1955 n_1956 x_1944 g_1962)) else (
      let w_1993 := F_r_next2 m_textEnd m_behind m_number m_letters m_word g_tape
      let n_1985 : Int32 := w_1993.1
      let n_1986 : Int32 := w_1993.2.1
      let n_1987 : Int32 := w_1993.2.2.1
      let n_1988 : Int32 := w_1993.2.2.2.1
      let n_1989 : Int32 := w_1993.2.2.2.2.1
      let n_1990 : Int64 := w_1993.2.2.2.2.2
      let g_1996 : Nat → Int32 := (upd g_c (x_1943 : Int32).toNatClampNeg 9)
      let x_1997 : Int32 := (x_1943 + 3)
      let w_2008 := F_r_count m_textEnd m_bad m_badAt n_1985 n_1986 n_1987 n_1988 n_1989 n_1990 g_tape 1 9
      let r_2006 : Int32 := w_2008.1
      let n_1998 : Int32 := w_2008.2.1
      let n_1999 : Int32 := w_2008.2.2.1
      let n_2000 : Int32 := w_2008.2.2.2.1
      let n_2001 : Int32 := w_2008.2.2.2.2.1
      let n_2002 : Int32 := w_2008.2.2.2.2.2.1
      let n_2003 : Int32 := w_2008.2.2.2.2.2.2.1
      let n_2004 : Int32 := w_2008.2.2.2.2.2.2.2.1
      let n_2005 : Int64 := w_2008.2.2.2.2.2.2.2.2
      let g_2015 : Nat → Int32 := (upd g_1996 (x_1997 : Int32).toNatClampNeg r_2006)
      F_r_readStep_1_C201 m_textEnd g_tape g_words v_1850 v_1851 x_1943 n_1998 n_1999 n_2000 n_2001 n_2002 n_2003 n_2004 n_2005 x_1944 g_2015)) else
  (
    let w_2028 := F_r_readWhen m_textEnd m_bad m_badAt m_behind m_number m_letters m_word g_tape g_c g_words x_1943
    let n_2017 : Int32 := w_2028.1
    let n_2018 : Int32 := w_2028.2.1
    let n_2019 : Int32 := w_2028.2.2.1
    let n_2020 : Int32 := w_2028.2.2.2.1
    let n_2021 : Int32 := w_2028.2.2.2.2.1
    let n_2022 : Int32 := w_2028.2.2.2.2.2.1
    let n_2023 : Int32 := w_2028.2.2.2.2.2.2.1
    let n_2024 : Int64 := w_2028.2.2.2.2.2.2.2.1
    let n_2025 : Nat → Int32 := w_2028.2.2.2.2.2.2.2.2
    F_r_readStep_1_C201 m_textEnd g_tape g_words v_1850 v_1851 x_1943 n_2017 n_2018 n_2019 n_2020 n_2021 n_2022 n_2023 n_2024 x_1944 n_2025)) := rfl
noncomputable def F_r_readStep_1 (m_textEnd : Int32) (m_bad : Int32) (m_badAt : Int32) (m_token : Int32) (m_at : Int32) (m_behind : Int32) (m_number : Int32) (m_letters : Int32) (m_word : Int64) (m_newSteps : Int32) (g_tape : Nat → Int32) (g_c : Nat → Int32) (g_words : Nat → Int64) : Int32 × Int32 × Int32 × Int32 × Int32 × Int32 × Int32 × Int64 × Int32 × (Nat → Int32) :=
  let w_2035 := F_r_isWhen m_token m_word
  let r_2033 : Int32 := w_2035
  if r_2033 = 0 then (
    let w_2039 := F_r_isLoop m_token m_word
    let r_2037 : Int32 := w_2039
    if r_2037 = 0 then (
      let w_2043 := F_r_plainStep m_token m_word
      let r_2041 : Int32 := w_2043
      if 0 ≤ r_2041 then (
        if m_bad = 0 then (
          if m_newSteps = 30 then (
            let w_2067 := F_r_fail m_bad m_badAt 6 m_at
            let n_2063 : Int32 := w_2067.1
            let n_2064 : Int32 := w_2067.2
            (n_2063, n_2064, m_token, m_at, m_behind, m_number, m_letters, m_word, m_newSteps, g_c)) else (
            F_r_readStep_1_C97 m_textEnd m_bad m_badAt m_token m_behind m_number m_letters m_word m_newSteps g_tape g_c g_words (0 : Int32) r_2041)) else (
          (m_bad, m_badAt, m_token, m_at, m_behind, m_number, m_letters, m_word, m_newSteps, g_c))) else (
        let w_2079 := F_r_wrong m_bad m_badAt m_token m_at
        let n_2075 : Int32 := w_2079.1
        let n_2076 : Int32 := w_2079.2
        (n_2075, n_2076, m_token, m_at, m_behind, m_number, m_letters, m_word, m_newSteps, g_c))) else
    (
      let w_2089 := F_r_plainStep m_token m_word
      let r_2087 : Int32 := w_2089
      if m_bad = 0 then (
        if m_newSteps = 30 then (
          let w_2111 := F_r_fail m_bad m_badAt 6 m_at
          let n_2107 : Int32 := w_2111.1
          let n_2108 : Int32 := w_2111.2
          (n_2107, n_2108, m_token, m_at, m_behind, m_number, m_letters, m_word, m_newSteps, g_c)) else (
          F_r_readStep_1_C97 m_textEnd m_bad m_badAt m_token m_behind m_number m_letters m_word m_newSteps g_tape g_c g_words (1 : Int32) r_2087)) else (
        (m_bad, m_badAt, m_token, m_at, m_behind, m_number, m_letters, m_word, m_newSteps, g_c)))) else
  (
    let w_2120 := F_r_plainStep m_token m_word
    let r_2118 : Int32 := w_2120
    if m_bad = 0 then (
      if m_newSteps = 30 then (
        let w_2142 := F_r_fail m_bad m_badAt 6 m_at
        let n_2138 : Int32 := w_2142.1
        let n_2139 : Int32 := w_2142.2
        (n_2138, n_2139, m_token, m_at, m_behind, m_number, m_letters, m_word, m_newSteps, g_c)) else (
        F_r_readStep_1_C97 m_textEnd m_bad m_badAt m_token m_behind m_number m_letters m_word m_newSteps g_tape g_c g_words (1 : Int32) r_2118)) else (
      (m_bad, m_badAt, m_token, m_at, m_behind, m_number, m_letters, m_word, m_newSteps, g_c)))
theorem F_r_readStep_1_s (m_textEnd : Int32) (m_bad : Int32) (m_badAt : Int32) (m_token : Int32) (m_at : Int32) (m_behind : Int32) (m_number : Int32) (m_letters : Int32) (m_word : Int64) (m_newSteps : Int32) (g_tape : Nat → Int32) (g_c : Nat → Int32) (g_words : Nat → Int64) : F_r_readStep_1 m_textEnd m_bad m_badAt m_token m_at m_behind m_number m_letters m_word m_newSteps g_tape g_c g_words = (
  let w_2035 := F_r_isWhen m_token m_word
  let r_2033 : Int32 := w_2035
  if r_2033 = 0 then (
    let w_2039 := F_r_isLoop m_token m_word
    let r_2037 : Int32 := w_2039
    if r_2037 = 0 then (
      let w_2043 := F_r_plainStep m_token m_word
      let r_2041 : Int32 := w_2043
      if 0 ≤ r_2041 then (
        if m_bad = 0 then (
          if m_newSteps = 30 then (
            let w_2067 := F_r_fail m_bad m_badAt 6 m_at
            let n_2063 : Int32 := w_2067.1
            let n_2064 : Int32 := w_2067.2
            (n_2063, n_2064, m_token, m_at, m_behind, m_number, m_letters, m_word, m_newSteps, g_c)) else (
            F_r_readStep_1_C97 m_textEnd m_bad m_badAt m_token m_behind m_number m_letters m_word m_newSteps g_tape g_c g_words (0 : Int32) r_2041)) else (
          (m_bad, m_badAt, m_token, m_at, m_behind, m_number, m_letters, m_word, m_newSteps, g_c))) else (
        let w_2079 := F_r_wrong m_bad m_badAt m_token m_at
        let n_2075 : Int32 := w_2079.1
        let n_2076 : Int32 := w_2079.2
        (n_2075, n_2076, m_token, m_at, m_behind, m_number, m_letters, m_word, m_newSteps, g_c))) else
    (
      let w_2089 := F_r_plainStep m_token m_word
      let r_2087 : Int32 := w_2089
      if m_bad = 0 then (
        if m_newSteps = 30 then (
          let w_2111 := F_r_fail m_bad m_badAt 6 m_at
          let n_2107 : Int32 := w_2111.1
          let n_2108 : Int32 := w_2111.2
          (n_2107, n_2108, m_token, m_at, m_behind, m_number, m_letters, m_word, m_newSteps, g_c)) else (
          F_r_readStep_1_C97 m_textEnd m_bad m_badAt m_token m_behind m_number m_letters m_word m_newSteps g_tape g_c g_words (1 : Int32) r_2087)) else (
        (m_bad, m_badAt, m_token, m_at, m_behind, m_number, m_letters, m_word, m_newSteps, g_c)))) else
  (
    let w_2120 := F_r_plainStep m_token m_word
    let r_2118 : Int32 := w_2120
    if m_bad = 0 then (
      if m_newSteps = 30 then (
        let w_2142 := F_r_fail m_bad m_badAt 6 m_at
        let n_2138 : Int32 := w_2142.1
        let n_2139 : Int32 := w_2142.2
        (n_2138, n_2139, m_token, m_at, m_behind, m_number, m_letters, m_word, m_newSteps, g_c)) else (
        F_r_readStep_1_C97 m_textEnd m_bad m_badAt m_token m_behind m_number m_letters m_word m_newSteps g_tape g_c g_words (1 : Int32) r_2118)) else (
      (m_bad, m_badAt, m_token, m_at, m_behind, m_number, m_letters, m_word, m_newSteps, g_c)))) := rfl
noncomputable def F_r_readStep_0_C239 (m_textEnd : Int32) (g_tape : Nat → Int32) (v_890 : Int32) (v_891 : Int32) (v_892 : Int32) (v_893 : Int32) (v_894 : Int32) (v_895 : Int32) (v_896 : Int32) (v_897 : Int32) (v_898 : Int32) (v_899 : Int32) (v_900 : Int64) (v_901 : Int32) (g_902 : Nat → Int32) : Int32 × Int32 × Int32 × Int32 × Int32 × Int32 × Int32 × Int64 × Int32 × (Nat → Int32) :=
  if v_890 = 0 then (
    let x_989 : Int32 := (v_892 + 4)
    let g_990 : Nat → Int32 := (upd g_902 (x_989 : Int32).toNatClampNeg v_901)
    (v_893, v_894, v_895, v_896, v_897, v_898, v_899, v_900, v_901, g_990)) else (
    let w_995 := F_r_isEnd v_895 v_900
    let r_993 : Int32 := w_995
    if r_993 = 0 then (
      let w_1001 := F_r_must_0 v_893 v_894 v_895 v_896
      let n_997 : Int32 := w_1001.1
      let n_998 : Int32 := w_1001.2
      let w_1004 := F_r_isSign v_895 v_898 59
      let r_1002 : Int32 := w_1004
      if r_1002 = 0 then (
        let w_1011 := F_r_must_0 n_997 n_998 v_895 v_896
        let n_1007 : Int32 := w_1011.1
        let n_1008 : Int32 := w_1011.2
        let x_1012 : Int32 := (v_892 + 4)
        let g_1013 : Nat → Int32 := (upd g_902 (x_1012 : Int32).toNatClampNeg v_901)
        (n_1007, n_1008, v_895, v_896, v_897, v_898, v_899, v_900, v_901, g_1013)) else
      (
        let w_1023 := F_r_must_1 m_textEnd n_997 v_895 v_896 v_897 v_898 v_899 v_900 g_tape
        let n_1015 : Int32 := w_1023.1
        let n_1016 : Int32 := w_1023.2.1
        let n_1017 : Int32 := w_1023.2.2.1
        let n_1018 : Int32 := w_1023.2.2.2.1
        let n_1019 : Int32 := w_1023.2.2.2.2.1
        let n_1020 : Int64 := w_1023.2.2.2.2.2
        let x_1027 : Int32 := (v_892 + 4)
        let g_1028 : Nat → Int32 := (upd g_902 (x_1027 : Int32).toNatClampNeg v_901)
        (n_997, n_998, n_1015, n_1016, n_1017, n_1018, n_1019, n_1020, v_901, g_1028))) else
    (
      let w_1038 := F_r_must_1 m_textEnd v_893 v_895 v_896 v_897 v_898 v_899 v_900 g_tape
      let n_1030 : Int32 := w_1038.1
      let n_1031 : Int32 := w_1038.2.1
      let n_1032 : Int32 := w_1038.2.2.1
      let n_1033 : Int32 := w_1038.2.2.2.1
      let n_1034 : Int32 := w_1038.2.2.2.2.1
      let n_1035 : Int64 := w_1038.2.2.2.2.2
      let w_1044 := F_r_isSign n_1030 n_1033 59
      let r_1042 : Int32 := w_1044
      if r_1042 = 0 then (
        let w_1051 := F_r_must_0 v_893 v_894 n_1030 n_1031
        let n_1047 : Int32 := w_1051.1
        let n_1048 : Int32 := w_1051.2
        let x_1052 : Int32 := (v_892 + 4)
        let g_1053 : Nat → Int32 := (upd g_902 (x_1052 : Int32).toNatClampNeg v_901)
        (n_1047, n_1048, n_1030, n_1031, n_1032, n_1033, n_1034, n_1035, v_901, g_1053)) else
      (
        let w_1063 := F_r_must_1 m_textEnd v_893 n_1030 n_1031 n_1032 n_1033 n_1034 n_1035 g_tape
        let n_1055 : Int32 := w_1063.1
        let n_1056 : Int32 := w_1063.2.1
        let n_1057 : Int32 := w_1063.2.2.1
        let n_1058 : Int32 := w_1063.2.2.2.1
        let n_1059 : Int32 := w_1063.2.2.2.2.1
        let n_1060 : Int64 := w_1063.2.2.2.2.2
        let x_1067 : Int32 := (v_892 + 4)
        let g_1068 : Nat → Int32 := (upd g_902 (x_1067 : Int32).toNatClampNeg v_901)
        (v_893, v_894, n_1055, n_1056, n_1057, n_1058, n_1059, n_1060, v_901, g_1068))))
theorem F_r_readStep_0_C239_s (m_textEnd : Int32) (g_tape : Nat → Int32) (v_890 : Int32) (v_891 : Int32) (v_892 : Int32) (v_893 : Int32) (v_894 : Int32) (v_895 : Int32) (v_896 : Int32) (v_897 : Int32) (v_898 : Int32) (v_899 : Int32) (v_900 : Int64) (v_901 : Int32) (g_902 : Nat → Int32) : F_r_readStep_0_C239 m_textEnd g_tape v_890 v_891 v_892 v_893 v_894 v_895 v_896 v_897 v_898 v_899 v_900 v_901 g_902 = (
  if v_890 = 0 then (
    let x_989 : Int32 := (v_892 + 4)
    let g_990 : Nat → Int32 := (upd g_902 (x_989 : Int32).toNatClampNeg v_901)
    (v_893, v_894, v_895, v_896, v_897, v_898, v_899, v_900, v_901, g_990)) else (
    let w_995 := F_r_isEnd v_895 v_900
    let r_993 : Int32 := w_995
    if r_993 = 0 then (
      let w_1001 := F_r_must_0 v_893 v_894 v_895 v_896
      let n_997 : Int32 := w_1001.1
      let n_998 : Int32 := w_1001.2
      let w_1004 := F_r_isSign v_895 v_898 59
      let r_1002 : Int32 := w_1004
      if r_1002 = 0 then (
        let w_1011 := F_r_must_0 n_997 n_998 v_895 v_896
        let n_1007 : Int32 := w_1011.1
        let n_1008 : Int32 := w_1011.2
        let x_1012 : Int32 := (v_892 + 4)
        let g_1013 : Nat → Int32 := (upd g_902 (x_1012 : Int32).toNatClampNeg v_901)
        (n_1007, n_1008, v_895, v_896, v_897, v_898, v_899, v_900, v_901, g_1013)) else
      (
        let w_1023 := F_r_must_1 m_textEnd n_997 v_895 v_896 v_897 v_898 v_899 v_900 g_tape
        let n_1015 : Int32 := w_1023.1
        let n_1016 : Int32 := w_1023.2.1
        let n_1017 : Int32 := w_1023.2.2.1
        let n_1018 : Int32 := w_1023.2.2.2.1
        let n_1019 : Int32 := w_1023.2.2.2.2.1
        let n_1020 : Int64 := w_1023.2.2.2.2.2
        let x_1027 : Int32 := (v_892 + 4)
        let g_1028 : Nat → Int32 := (upd g_902 (x_1027 : Int32).toNatClampNeg v_901)
        (n_997, n_998, n_1015, n_1016, n_1017, n_1018, n_1019, n_1020, v_901, g_1028))) else
    (
      let w_1038 := F_r_must_1 m_textEnd v_893 v_895 v_896 v_897 v_898 v_899 v_900 g_tape
      let n_1030 : Int32 := w_1038.1
      let n_1031 : Int32 := w_1038.2.1
      let n_1032 : Int32 := w_1038.2.2.1
      let n_1033 : Int32 := w_1038.2.2.2.1
      let n_1034 : Int32 := w_1038.2.2.2.2.1
      let n_1035 : Int64 := w_1038.2.2.2.2.2
      let w_1044 := F_r_isSign n_1030 n_1033 59
      let r_1042 : Int32 := w_1044
      if r_1042 = 0 then (
        let w_1051 := F_r_must_0 v_893 v_894 n_1030 n_1031
        let n_1047 : Int32 := w_1051.1
        let n_1048 : Int32 := w_1051.2
        let x_1052 : Int32 := (v_892 + 4)
        let g_1053 : Nat → Int32 := (upd g_902 (x_1052 : Int32).toNatClampNeg v_901)
        (n_1047, n_1048, n_1030, n_1031, n_1032, n_1033, n_1034, n_1035, v_901, g_1053)) else
      (
        let w_1063 := F_r_must_1 m_textEnd v_893 n_1030 n_1031 n_1032 n_1033 n_1034 n_1035 g_tape
        let n_1055 : Int32 := w_1063.1
        let n_1056 : Int32 := w_1063.2.1
        let n_1057 : Int32 := w_1063.2.2.1
        let n_1058 : Int32 := w_1063.2.2.2.1
        let n_1059 : Int32 := w_1063.2.2.2.2.1
        let n_1060 : Int64 := w_1063.2.2.2.2.2
        let x_1067 : Int32 := (v_892 + 4)
        let g_1068 : Nat → Int32 := (upd g_902 (x_1067 : Int32).toNatClampNeg v_901)
        (v_893, v_894, n_1055, n_1056, n_1057, n_1058, n_1059, n_1060, v_901, g_1068))))) := rfl
noncomputable def F_r_readStep_0_L211a (m_textEnd : Int32) (g_tape : Nat → Int32) (v_1314 : Int32) (v_1315 : Int32) (v_1316 : Int32) (v_1319 : Int32) (v_1320 : Int32) (v_1321 : Int32) (v_1322 : Int32) (v_1323 : Int32) (v_1324 : Int64) (v_1325 : Int32) (g_1326 : Nat → Int32) (n_1545 : Int32) (n_1546 : Int32) : Nat → (Int32 × Int32 × Int32 × Int32 × Int32 × Int32 × Int32 × Int64 × Int32 × (Nat → Int32)) := fun k9 => Nat.rec (motive := fun _ => (Int32 × Int32 × Int32 × Int32 × Int32 × Int32 × Int32 × Int64 × Int32 × (Nat → Int32))) (default) (fun _ (G_L211a : (Int32 × Int32 × Int32 × Int32 × Int32 × Int32 × Int32 × Int64 × Int32 × (Nat → Int32))) =>     if v_1314 = 0 then (
      F_r_readStep_0_C239 m_textEnd g_tape v_1314 v_1315 v_1316 n_1545 n_1546 v_1319 v_1320 v_1321 v_1322 v_1323 v_1324 v_1325 g_1326) else (
      F_r_readStep_0_C239 m_textEnd g_tape v_1314 v_1315 v_1316 n_1545 n_1546 v_1319 v_1320 v_1321 v_1322 v_1323 v_1324 v_1325 g_1326)) k9
theorem F_r_readStep_0_L211a_s (m_textEnd : Int32) (g_tape : Nat → Int32) (v_1314 : Int32) (v_1315 : Int32) (v_1316 : Int32) (v_1319 : Int32) (v_1320 : Int32) (v_1321 : Int32) (v_1322 : Int32) (v_1323 : Int32) (v_1324 : Int64) (v_1325 : Int32) (g_1326 : Nat → Int32) (n_1545 : Int32) (n_1546 : Int32) (n9 : Nat) : F_r_readStep_0_L211a m_textEnd g_tape v_1314 v_1315 v_1316 v_1319 v_1320 v_1321 v_1322 v_1323 v_1324 v_1325 g_1326 n_1545 n_1546 (n9 + 1) = (
    if v_1314 = 0 then (
      F_r_readStep_0_C239 m_textEnd g_tape v_1314 v_1315 v_1316 n_1545 n_1546 v_1319 v_1320 v_1321 v_1322 v_1323 v_1324 v_1325 g_1326) else (
      F_r_readStep_0_C239 m_textEnd g_tape v_1314 v_1315 v_1316 n_1545 n_1546 v_1319 v_1320 v_1321 v_1322 v_1323 v_1324 v_1325 g_1326)) := rfl
noncomputable def F_r_readStep_0_L211b (m_textEnd : Int32) (g_tape : Nat → Int32) (g_words : Nat → Int64) (v_1314 : Int32) (v_1315 : Int32) (v_1316 : Int32) : Nat → (Nat → Int32) → Int32 → Int32 → Int32 → Int32 → Int32 → Int32 → Int32 → Int64 → Int32 → (Int32 × Int32 × Int32 × Int32 × Int32 × Int32 × Int32 × Int64 × Int32 × (Nat → Int32)) := fun k9 => Nat.rec (motive := fun _ => (Nat → Int32) → Int32 → Int32 → Int32 → Int32 → Int32 → Int32 → Int32 → Int64 → Int32 → (Int32 × Int32 × Int32 × Int32 × Int32 × Int32 × Int32 × Int64 × Int32 × (Nat → Int32))) (fun _ _ _ _ _ _ _ _ _ _ => default) (fun _ (G_L211b : (Nat → Int32) → Int32 → Int32 → Int32 → Int32 → Int32 → Int32 → Int32 → Int64 → Int32 → (Int32 × Int32 × Int32 × Int32 × Int32 × Int32 × Int32 × Int64 × Int32 × (Nat → Int32))) => fun (g_1653 : Nat → Int32) (v_1654 : Int32) (v_1655 : Int32) (v_1656 : Int32) (v_1657 : Int32) (v_1658 : Int32) (v_1659 : Int32) (v_1660 : Int32) (v_1661 : Int64) (v_1662 : Int32) =>
    if v_1314 = 0 then (
      F_r_readStep_0_C239 m_textEnd g_tape v_1314 v_1315 v_1316 v_1654 v_1655 v_1656 v_1657 v_1658 v_1659 v_1660 v_1661 v_1662 g_1653) else (
      if v_1654 = 0 then (
        let w_1731 := F_r_isEnd v_1656 v_1661
        let r_1729 : Int32 := w_1731
        if r_1729 = 0 then (
          let w_1745 := F_r_readStep_1 m_textEnd v_1654 v_1655 v_1656 v_1657 v_1658 v_1659 v_1660 v_1661 v_1662 g_tape g_1653 g_words
          let n_1733 : Int32 := w_1745.1
          let n_1734 : Int32 := w_1745.2.1
          let n_1735 : Int32 := w_1745.2.2.1
          let n_1736 : Int32 := w_1745.2.2.2.1
          let n_1737 : Int32 := w_1745.2.2.2.2.1
          let n_1738 : Int32 := w_1745.2.2.2.2.2.1
          let n_1739 : Int32 := w_1745.2.2.2.2.2.2.1
          let n_1740 : Int64 := w_1745.2.2.2.2.2.2.2.1
          let n_1741 : Int32 := w_1745.2.2.2.2.2.2.2.2.1
          let n_1742 : Nat → Int32 := w_1745.2.2.2.2.2.2.2.2.2
          G_L211b n_1742 n_1733 n_1734 n_1735 n_1736 n_1737 n_1738 n_1739 n_1740 n_1741) else
        (
          F_r_readStep_0_C239 m_textEnd g_tape v_1314 v_1315 v_1316 v_1654 v_1655 v_1656 v_1657 v_1658 v_1659 v_1660 v_1661 v_1662 g_1653)) else (
        F_r_readStep_0_C239 m_textEnd g_tape v_1314 v_1315 v_1316 v_1654 v_1655 v_1656 v_1657 v_1658 v_1659 v_1660 v_1661 v_1662 g_1653))) k9
theorem F_r_readStep_0_L211b_s (m_textEnd : Int32) (g_tape : Nat → Int32) (g_words : Nat → Int64) (v_1314 : Int32) (v_1315 : Int32) (v_1316 : Int32) (n9 : Nat) (g_1653 : Nat → Int32) (v_1654 : Int32) (v_1655 : Int32) (v_1656 : Int32) (v_1657 : Int32) (v_1658 : Int32) (v_1659 : Int32) (v_1660 : Int32) (v_1661 : Int64) (v_1662 : Int32) : F_r_readStep_0_L211b m_textEnd g_tape g_words v_1314 v_1315 v_1316 (n9 + 1) g_1653 v_1654 v_1655 v_1656 v_1657 v_1658 v_1659 v_1660 v_1661 v_1662 = (
    if v_1314 = 0 then (
      F_r_readStep_0_C239 m_textEnd g_tape v_1314 v_1315 v_1316 v_1654 v_1655 v_1656 v_1657 v_1658 v_1659 v_1660 v_1661 v_1662 g_1653) else (
      if v_1654 = 0 then (
        let w_1731 := F_r_isEnd v_1656 v_1661
        let r_1729 : Int32 := w_1731
        if r_1729 = 0 then (
          let w_1745 := F_r_readStep_1 m_textEnd v_1654 v_1655 v_1656 v_1657 v_1658 v_1659 v_1660 v_1661 v_1662 g_tape g_1653 g_words
          let n_1733 : Int32 := w_1745.1
          let n_1734 : Int32 := w_1745.2.1
          let n_1735 : Int32 := w_1745.2.2.1
          let n_1736 : Int32 := w_1745.2.2.2.1
          let n_1737 : Int32 := w_1745.2.2.2.2.1
          let n_1738 : Int32 := w_1745.2.2.2.2.2.1
          let n_1739 : Int32 := w_1745.2.2.2.2.2.2.1
          let n_1740 : Int64 := w_1745.2.2.2.2.2.2.2.1
          let n_1741 : Int32 := w_1745.2.2.2.2.2.2.2.2.1
          let n_1742 : Nat → Int32 := w_1745.2.2.2.2.2.2.2.2.2
          (F_r_readStep_0_L211b m_textEnd g_tape g_words v_1314 v_1315 v_1316 n9) n_1742 n_1733 n_1734 n_1735 n_1736 n_1737 n_1738 n_1739 n_1740 n_1741) else
        (
          F_r_readStep_0_C239 m_textEnd g_tape v_1314 v_1315 v_1316 v_1654 v_1655 v_1656 v_1657 v_1658 v_1659 v_1660 v_1661 v_1662 g_1653)) else (
        F_r_readStep_0_C239 m_textEnd g_tape v_1314 v_1315 v_1316 v_1654 v_1655 v_1656 v_1657 v_1658 v_1659 v_1660 v_1661 v_1662 g_1653))) := rfl
noncomputable def F_r_readStep_0_C201 (m_textEnd : Int32) (g_tape : Nat → Int32) (g_words : Nat → Int64) (v_1314 : Int32) (v_1315 : Int32) (v_1316 : Int32) (v_1317 : Int32) (v_1318 : Int32) (v_1319 : Int32) (v_1320 : Int32) (v_1321 : Int32) (v_1322 : Int32) (v_1323 : Int32) (v_1324 : Int64) (v_1325 : Int32) (g_1326 : Nat → Int32) : Int32 × Int32 × Int32 × Int32 × Int32 × Int32 × Int32 × Int64 × Int32 × (Nat → Int32) :=
  let w_1542 := F_r_isSign v_1319 v_1322 59
  let r_1540 : Int32 := w_1542
  if r_1540 = 0 then (
    let w_1549 := F_r_must_0 v_1317 v_1318 v_1319 v_1320
    let n_1545 : Int32 := w_1549.1
    let n_1546 : Int32 := w_1549.2
    F_r_readStep_0_L211a m_textEnd g_tape v_1314 v_1315 v_1316 v_1319 v_1320 v_1321 v_1322 v_1323 v_1324 v_1325 g_1326 n_1545 n_1546 ((4600 - 5 * v_1321.toInt + v_1319.toInt - 5 * n_1545.toInt).toNat + 1)) else
  (
    let w_1585 := F_r_must_1 m_textEnd v_1317 v_1319 v_1320 v_1321 v_1322 v_1323 v_1324 g_tape
    let n_1577 : Int32 := w_1585.1
    let n_1578 : Int32 := w_1585.2.1
    let n_1579 : Int32 := w_1585.2.2.1
    let n_1580 : Int32 := w_1585.2.2.2.1
    let n_1581 : Int32 := w_1585.2.2.2.2.1
    let n_1582 : Int64 := w_1585.2.2.2.2.2
    F_r_readStep_0_L211b m_textEnd g_tape g_words v_1314 v_1315 v_1316 ((4600 - 5 * n_1579.toInt + n_1577.toInt - 5 * v_1317.toInt).toNat + 1) g_1326 v_1317 v_1318 n_1577 n_1578 n_1579 n_1580 n_1581 n_1582 v_1325)
theorem F_r_readStep_0_C201_s (m_textEnd : Int32) (g_tape : Nat → Int32) (g_words : Nat → Int64) (v_1314 : Int32) (v_1315 : Int32) (v_1316 : Int32) (v_1317 : Int32) (v_1318 : Int32) (v_1319 : Int32) (v_1320 : Int32) (v_1321 : Int32) (v_1322 : Int32) (v_1323 : Int32) (v_1324 : Int64) (v_1325 : Int32) (g_1326 : Nat → Int32) : F_r_readStep_0_C201 m_textEnd g_tape g_words v_1314 v_1315 v_1316 v_1317 v_1318 v_1319 v_1320 v_1321 v_1322 v_1323 v_1324 v_1325 g_1326 = (
  let w_1542 := F_r_isSign v_1319 v_1322 59
  let r_1540 : Int32 := w_1542
  if r_1540 = 0 then (
    let w_1549 := F_r_must_0 v_1317 v_1318 v_1319 v_1320
    let n_1545 : Int32 := w_1549.1
    let n_1546 : Int32 := w_1549.2
    F_r_readStep_0_L211a m_textEnd g_tape v_1314 v_1315 v_1316 v_1319 v_1320 v_1321 v_1322 v_1323 v_1324 v_1325 g_1326 n_1545 n_1546 ((4600 - 5 * v_1321.toInt + v_1319.toInt - 5 * n_1545.toInt).toNat + 1)) else
  (
    let w_1585 := F_r_must_1 m_textEnd v_1317 v_1319 v_1320 v_1321 v_1322 v_1323 v_1324 g_tape
    let n_1577 : Int32 := w_1585.1
    let n_1578 : Int32 := w_1585.2.1
    let n_1579 : Int32 := w_1585.2.2.1
    let n_1580 : Int32 := w_1585.2.2.2.1
    let n_1581 : Int32 := w_1585.2.2.2.2.1
    let n_1582 : Int64 := w_1585.2.2.2.2.2
    F_r_readStep_0_L211b m_textEnd g_tape g_words v_1314 v_1315 v_1316 ((4600 - 5 * n_1579.toInt + n_1577.toInt - 5 * v_1317.toInt).toNat + 1) g_1326 v_1317 v_1318 n_1577 n_1578 n_1579 n_1580 n_1581 n_1582 v_1325)) := rfl
noncomputable def F_r_readStep_0_C97 (m_textEnd : Int32) (m_bad : Int32) (m_badAt : Int32) (m_token : Int32) (m_behind : Int32) (m_number : Int32) (m_letters : Int32) (m_word : Int64) (m_newSteps : Int32) (g_tape : Nat → Int32) (g_c : Nat → Int32) (g_words : Nat → Int64) (v_1850 : Int32) (v_1851 : Int32) : Int32 × Int32 × Int32 × Int32 × Int32 × Int32 × Int32 × Int64 × Int32 × (Nat → Int32) :=
  let x_1942 : Int32 := ((6 : Int32) * m_newSteps)
  let x_1943 : Int32 := ((1641 : Int32) + x_1942)
  let x_1944 : Int32 := (m_newSteps + 1)
  let w_1947 := F_r_isWhen m_token m_word
  let r_1945 : Int32 := w_1947
  if r_1945 = 0 then (
    if v_1850 = 0 then (
      let w_1959 := F_r_next2 m_textEnd m_behind m_number m_letters m_word g_tape
      let n_1951 : Int32 := w_1959.1
      let n_1952 : Int32 := w_1959.2.1
      let n_1953 : Int32 := w_1959.2.2.1
      let n_1954 : Int32 := w_1959.2.2.2.1
      let n_1955 : Int32 := w_1959.2.2.2.2.1
      let n_1956 : Int64 := w_1959.2.2.2.2.2
      let g_1962 : Nat → Int32 := (upd g_c (x_1943 : Int32).toNatClampNeg v_1851)
      if v_1851 = 0 then (
        let x_1967 : Int32 := (x_1943 + 1)
        let w_1978 := F_r_readFeatureName m_textEnd m_bad m_badAt n_1951 n_1952 n_1953 n_1954 n_1955 n_1956 g_tape g_1962 g_words
        let r_1976 : Int32 := w_1978.1
        let n_1968 : Int32 := w_1978.2.1
        let n_1969 : Int32 := w_1978.2.2.1
        let n_1970 : Int32 := w_1978.2.2.2.1
        let n_1971 : Int32 := w_1978.2.2.2.2.1
        let n_1972 : Int32 := w_1978.2.2.2.2.2.1
        let n_1973 : Int64 := w_1978.2.2.2.2.2.2.1
        let n_1974 : Int32 := w_1978.2.2.2.2.2.2.2.1
        let n_1975 : Int32 := w_1978.2.2.2.2.2.2.2.2
        let g_1982 : Nat → Int32 := (upd g_1962 (x_1967 : Int32).toNatClampNeg r_1976)
        F_r_readStep_0_C201 m_textEnd g_tape g_words v_1850 v_1851 x_1943 n_1974 n_1975 n_1968 n_1969 n_1970 n_1971 n_1972 n_1973 x_1944 g_1982) else (
        F_r_readStep_0_C201 m_textEnd g_tape g_words v_1850 v_1851 x_1943 m_bad m_badAt n_1951 n_1952 n_1953 n_1954 n_1955 n_1956 x_1944 g_1962)) else (
      let w_1993 := F_r_next2 m_textEnd m_behind m_number m_letters m_word g_tape
      let n_1985 : Int32 := w_1993.1
      let n_1986 : Int32 := w_1993.2.1
      let n_1987 : Int32 := w_1993.2.2.1
      let n_1988 : Int32 := w_1993.2.2.2.1
      let n_1989 : Int32 := w_1993.2.2.2.2.1
      let n_1990 : Int64 := w_1993.2.2.2.2.2
      let g_1996 : Nat → Int32 := (upd g_c (x_1943 : Int32).toNatClampNeg 9)
      let x_1997 : Int32 := (x_1943 + 3)
      let w_2008 := F_r_count m_textEnd m_bad m_badAt n_1985 n_1986 n_1987 n_1988 n_1989 n_1990 g_tape 1 9
      let r_2006 : Int32 := w_2008.1
      let n_1998 : Int32 := w_2008.2.1
      let n_1999 : Int32 := w_2008.2.2.1
      let n_2000 : Int32 := w_2008.2.2.2.1
      let n_2001 : Int32 := w_2008.2.2.2.2.1
      let n_2002 : Int32 := w_2008.2.2.2.2.2.1
      let n_2003 : Int32 := w_2008.2.2.2.2.2.2.1
      let n_2004 : Int32 := w_2008.2.2.2.2.2.2.2.1
      let n_2005 : Int64 := w_2008.2.2.2.2.2.2.2.2
      let g_2015 : Nat → Int32 := (upd g_1996 (x_1997 : Int32).toNatClampNeg r_2006)
      F_r_readStep_0_C201 m_textEnd g_tape g_words v_1850 v_1851 x_1943 n_1998 n_1999 n_2000 n_2001 n_2002 n_2003 n_2004 n_2005 x_1944 g_2015)) else
  (
    let w_2028 := F_r_readWhen m_textEnd m_bad m_badAt m_behind m_number m_letters m_word g_tape g_c g_words x_1943
    let n_2017 : Int32 := w_2028.1
    let n_2018 : Int32 := w_2028.2.1
    let n_2019 : Int32 := w_2028.2.2.1
    let n_2020 : Int32 := w_2028.2.2.2.1
    let n_2021 : Int32 := w_2028.2.2.2.2.1
    let n_2022 : Int32 := w_2028.2.2.2.2.2.1
    let n_2023 : Int32 := w_2028.2.2.2.2.2.2.1
    let n_2024 : Int64 := w_2028.2.2.2.2.2.2.2.1
    let n_2025 : Nat → Int32 := w_2028.2.2.2.2.2.2.2.2
    F_r_readStep_0_C201 m_textEnd g_tape g_words v_1850 v_1851 x_1943 n_2017 n_2018 n_2019 n_2020 n_2021 n_2022 n_2023 n_2024 x_1944 n_2025)
theorem F_r_readStep_0_C97_s (m_textEnd : Int32) (m_bad : Int32) (m_badAt : Int32) (m_token : Int32) (m_behind : Int32) (m_number : Int32) (m_letters : Int32) (m_word : Int64) (m_newSteps : Int32) (g_tape : Nat → Int32) (g_c : Nat → Int32) (g_words : Nat → Int64) (v_1850 : Int32) (v_1851 : Int32) : F_r_readStep_0_C97 m_textEnd m_bad m_badAt m_token m_behind m_number m_letters m_word m_newSteps g_tape g_c g_words v_1850 v_1851 = (
  let x_1942 : Int32 := ((6 : Int32) * m_newSteps)
  let x_1943 : Int32 := ((1641 : Int32) + x_1942)
  let x_1944 : Int32 := (m_newSteps + 1)
  let w_1947 := F_r_isWhen m_token m_word
  let r_1945 : Int32 := w_1947
  if r_1945 = 0 then (
    if v_1850 = 0 then (
      let w_1959 := F_r_next2 m_textEnd m_behind m_number m_letters m_word g_tape
      let n_1951 : Int32 := w_1959.1
      let n_1952 : Int32 := w_1959.2.1
      let n_1953 : Int32 := w_1959.2.2.1
      let n_1954 : Int32 := w_1959.2.2.2.1
      let n_1955 : Int32 := w_1959.2.2.2.2.1
      let n_1956 : Int64 := w_1959.2.2.2.2.2
      let g_1962 : Nat → Int32 := (upd g_c (x_1943 : Int32).toNatClampNeg v_1851)
      if v_1851 = 0 then (
        let x_1967 : Int32 := (x_1943 + 1)
        let w_1978 := F_r_readFeatureName m_textEnd m_bad m_badAt n_1951 n_1952 n_1953 n_1954 n_1955 n_1956 g_tape g_1962 g_words
        let r_1976 : Int32 := w_1978.1
        let n_1968 : Int32 := w_1978.2.1
        let n_1969 : Int32 := w_1978.2.2.1
        let n_1970 : Int32 := w_1978.2.2.2.1
        let n_1971 : Int32 := w_1978.2.2.2.2.1
        let n_1972 : Int32 := w_1978.2.2.2.2.2.1
        let n_1973 : Int64 := w_1978.2.2.2.2.2.2.1
        let n_1974 : Int32 := w_1978.2.2.2.2.2.2.2.1
        let n_1975 : Int32 := w_1978.2.2.2.2.2.2.2.2
        let g_1982 : Nat → Int32 := (upd g_1962 (x_1967 : Int32).toNatClampNeg r_1976)
        F_r_readStep_0_C201 m_textEnd g_tape g_words v_1850 v_1851 x_1943 n_1974 n_1975 n_1968 n_1969 n_1970 n_1971 n_1972 n_1973 x_1944 g_1982) else (
        F_r_readStep_0_C201 m_textEnd g_tape g_words v_1850 v_1851 x_1943 m_bad m_badAt n_1951 n_1952 n_1953 n_1954 n_1955 n_1956 x_1944 g_1962)) else (
      let w_1993 := F_r_next2 m_textEnd m_behind m_number m_letters m_word g_tape
      let n_1985 : Int32 := w_1993.1
      let n_1986 : Int32 := w_1993.2.1
      let n_1987 : Int32 := w_1993.2.2.1
      let n_1988 : Int32 := w_1993.2.2.2.1
      let n_1989 : Int32 := w_1993.2.2.2.2.1
      let n_1990 : Int64 := w_1993.2.2.2.2.2
      let g_1996 : Nat → Int32 := (upd g_c (x_1943 : Int32).toNatClampNeg 9)
      let x_1997 : Int32 := (x_1943 + 3)
      let w_2008 := F_r_count m_textEnd m_bad m_badAt n_1985 n_1986 n_1987 n_1988 n_1989 n_1990 g_tape 1 9
      let r_2006 : Int32 := w_2008.1
      let n_1998 : Int32 := w_2008.2.1
      let n_1999 : Int32 := w_2008.2.2.1
      let n_2000 : Int32 := w_2008.2.2.2.1
      let n_2001 : Int32 := w_2008.2.2.2.2.1
      let n_2002 : Int32 := w_2008.2.2.2.2.2.1
      let n_2003 : Int32 := w_2008.2.2.2.2.2.2.1
      let n_2004 : Int32 := w_2008.2.2.2.2.2.2.2.1
      let n_2005 : Int64 := w_2008.2.2.2.2.2.2.2.2
      let g_2015 : Nat → Int32 := (upd g_1996 (x_1997 : Int32).toNatClampNeg r_2006)
      F_r_readStep_0_C201 m_textEnd g_tape g_words v_1850 v_1851 x_1943 n_1998 n_1999 n_2000 n_2001 n_2002 n_2003 n_2004 n_2005 x_1944 g_2015)) else
  (
    let w_2028 := F_r_readWhen m_textEnd m_bad m_badAt m_behind m_number m_letters m_word g_tape g_c g_words x_1943
    let n_2017 : Int32 := w_2028.1
    let n_2018 : Int32 := w_2028.2.1
    let n_2019 : Int32 := w_2028.2.2.1
    let n_2020 : Int32 := w_2028.2.2.2.1
    let n_2021 : Int32 := w_2028.2.2.2.2.1
    let n_2022 : Int32 := w_2028.2.2.2.2.2.1
    let n_2023 : Int32 := w_2028.2.2.2.2.2.2.1
    let n_2024 : Int64 := w_2028.2.2.2.2.2.2.2.1
    let n_2025 : Nat → Int32 := w_2028.2.2.2.2.2.2.2.2
    F_r_readStep_0_C201 m_textEnd g_tape g_words v_1850 v_1851 x_1943 n_2017 n_2018 n_2019 n_2020 n_2021 n_2022 n_2023 n_2024 x_1944 n_2025)) := rfl
noncomputable def F_r_readStep_0 (m_textEnd : Int32) (m_bad : Int32) (m_badAt : Int32) (m_token : Int32) (m_at : Int32) (m_behind : Int32) (m_number : Int32) (m_letters : Int32) (m_word : Int64) (m_newSteps : Int32) (g_tape : Nat → Int32) (g_c : Nat → Int32) (g_words : Nat → Int64) : Int32 × Int32 × Int32 × Int32 × Int32 × Int32 × Int32 × Int64 × Int32 × (Nat → Int32) :=
  let w_2035 := F_r_isWhen m_token m_word
  let r_2033 : Int32 := w_2035
  if r_2033 = 0 then (
    let w_2039 := F_r_isLoop m_token m_word
    let r_2037 : Int32 := w_2039
    if r_2037 = 0 then (
      let w_2043 := F_r_plainStep m_token m_word
      let r_2041 : Int32 := w_2043
      if 0 ≤ r_2041 then (
        if m_bad = 0 then (
          if m_newSteps = 30 then (
            let w_2067 := F_r_fail m_bad m_badAt 6 m_at
            let n_2063 : Int32 := w_2067.1
            let n_2064 : Int32 := w_2067.2
            (n_2063, n_2064, m_token, m_at, m_behind, m_number, m_letters, m_word, m_newSteps, g_c)) else (
            F_r_readStep_0_C97 m_textEnd m_bad m_badAt m_token m_behind m_number m_letters m_word m_newSteps g_tape g_c g_words (0 : Int32) r_2041)) else (
          (m_bad, m_badAt, m_token, m_at, m_behind, m_number, m_letters, m_word, m_newSteps, g_c))) else (
        let w_2079 := F_r_wrong m_bad m_badAt m_token m_at
        let n_2075 : Int32 := w_2079.1
        let n_2076 : Int32 := w_2079.2
        (n_2075, n_2076, m_token, m_at, m_behind, m_number, m_letters, m_word, m_newSteps, g_c))) else
    (
      let w_2089 := F_r_plainStep m_token m_word
      let r_2087 : Int32 := w_2089
      if m_bad = 0 then (
        if m_newSteps = 30 then (
          let w_2111 := F_r_fail m_bad m_badAt 6 m_at
          let n_2107 : Int32 := w_2111.1
          let n_2108 : Int32 := w_2111.2
          (n_2107, n_2108, m_token, m_at, m_behind, m_number, m_letters, m_word, m_newSteps, g_c)) else (
          F_r_readStep_0_C97 m_textEnd m_bad m_badAt m_token m_behind m_number m_letters m_word m_newSteps g_tape g_c g_words (1 : Int32) r_2087)) else (
        (m_bad, m_badAt, m_token, m_at, m_behind, m_number, m_letters, m_word, m_newSteps, g_c)))) else
  (
    let w_2120 := F_r_plainStep m_token m_word
    let r_2118 : Int32 := w_2120
    if m_bad = 0 then (
      if m_newSteps = 30 then (
        let w_2142 := F_r_fail m_bad m_badAt 6 m_at
        let n_2138 : Int32 := w_2142.1
        let n_2139 : Int32 := w_2142.2
        (n_2138, n_2139, m_token, m_at, m_behind, m_number, m_letters, m_word, m_newSteps, g_c)) else (
        F_r_readStep_0_C97 m_textEnd m_bad m_badAt m_token m_behind m_number m_letters m_word m_newSteps g_tape g_c g_words (1 : Int32) r_2118)) else (
      (m_bad, m_badAt, m_token, m_at, m_behind, m_number, m_letters, m_word, m_newSteps, g_c)))
theorem F_r_readStep_0_s (m_textEnd : Int32) (m_bad : Int32) (m_badAt : Int32) (m_token : Int32) (m_at : Int32) (m_behind : Int32) (m_number : Int32) (m_letters : Int32) (m_word : Int64) (m_newSteps : Int32) (g_tape : Nat → Int32) (g_c : Nat → Int32) (g_words : Nat → Int64) : F_r_readStep_0 m_textEnd m_bad m_badAt m_token m_at m_behind m_number m_letters m_word m_newSteps g_tape g_c g_words = (
  let w_2035 := F_r_isWhen m_token m_word
  let r_2033 : Int32 := w_2035
  if r_2033 = 0 then (
    let w_2039 := F_r_isLoop m_token m_word
    let r_2037 : Int32 := w_2039
    if r_2037 = 0 then (
      let w_2043 := F_r_plainStep m_token m_word
      let r_2041 : Int32 := w_2043
      if 0 ≤ r_2041 then (
        if m_bad = 0 then (
          if m_newSteps = 30 then (
            let w_2067 := F_r_fail m_bad m_badAt 6 m_at
            let n_2063 : Int32 := w_2067.1
            let n_2064 : Int32 := w_2067.2
            (n_2063, n_2064, m_token, m_at, m_behind, m_number, m_letters, m_word, m_newSteps, g_c)) else (
            F_r_readStep_0_C97 m_textEnd m_bad m_badAt m_token m_behind m_number m_letters m_word m_newSteps g_tape g_c g_words (0 : Int32) r_2041)) else (
          (m_bad, m_badAt, m_token, m_at, m_behind, m_number, m_letters, m_word, m_newSteps, g_c))) else (
        let w_2079 := F_r_wrong m_bad m_badAt m_token m_at
        let n_2075 : Int32 := w_2079.1
        let n_2076 : Int32 := w_2079.2
        (n_2075, n_2076, m_token, m_at, m_behind, m_number, m_letters, m_word, m_newSteps, g_c))) else
    (
      let w_2089 := F_r_plainStep m_token m_word
      let r_2087 : Int32 := w_2089
      if m_bad = 0 then (
        if m_newSteps = 30 then (
          let w_2111 := F_r_fail m_bad m_badAt 6 m_at
          let n_2107 : Int32 := w_2111.1
          let n_2108 : Int32 := w_2111.2
          (n_2107, n_2108, m_token, m_at, m_behind, m_number, m_letters, m_word, m_newSteps, g_c)) else (
          F_r_readStep_0_C97 m_textEnd m_bad m_badAt m_token m_behind m_number m_letters m_word m_newSteps g_tape g_c g_words (1 : Int32) r_2087)) else (
        (m_bad, m_badAt, m_token, m_at, m_behind, m_number, m_letters, m_word, m_newSteps, g_c)))) else
  (
    let w_2120 := F_r_plainStep m_token m_word
    let r_2118 : Int32 := w_2120
    if m_bad = 0 then (
      if m_newSteps = 30 then (
        let w_2142 := F_r_fail m_bad m_badAt 6 m_at
        let n_2138 : Int32 := w_2142.1
        let n_2139 : Int32 := w_2142.2
        (n_2138, n_2139, m_token, m_at, m_behind, m_number, m_letters, m_word, m_newSteps, g_c)) else (
        F_r_readStep_0_C97 m_textEnd m_bad m_badAt m_token m_behind m_number m_letters m_word m_newSteps g_tape g_c g_words (1 : Int32) r_2118)) else (
      (m_bad, m_badAt, m_token, m_at, m_behind, m_number, m_letters, m_word, m_newSteps, g_c)))) := rfl
noncomputable def F_r_rule_L73a (n_2 : Int32) (n_3 : Int32) (v_71 : Int32) (v_72 : Int32) (v_73 : Int32) (v_74 : Int32) (v_75 : Int32) (v_76 : Int32) (v_77 : Int32) (v_78 : Int64) (v_79 : Int32) (n_840 : Int32) (n_841 : Int32) (n_842 : Int32) : Nat → Int32 → (Nat → Int32) → (Int32 × Int32 × Int32 × Int32 × Int32 × Int32 × Int32 × Int32 × Int32 × Int32 × Int32 × Int64 × Int32 × Int32 × Int32 × Int32 × (Nat → Int32)) := fun k9 => Nat.rec (motive := fun _ => Int32 → (Nat → Int32) → (Int32 × Int32 × Int32 × Int32 × Int32 × Int32 × Int32 × Int32 × Int32 × Int32 × Int32 × Int64 × Int32 × Int32 × Int32 × Int32 × (Nat → Int32))) (fun _ _ => default) (fun _ (G_L73a : Int32 → (Nat → Int32) → (Int32 × Int32 × Int32 × Int32 × Int32 × Int32 × Int32 × Int32 × Int32 × Int32 × Int32 × Int64 × Int32 × Int32 × Int32 × Int32 × (Nat → Int32))) => fun (v_1164 : Int32) (g_1165 : Nat → Int32) =>
    let x_1186 : Int32 := ((6 : Int32) * v_79)
    if x_1186 ≤ v_1164 then (
      (v_79, n_840, (0 : Int32), n_2, n_3, v_71, v_73, v_74, v_75, v_76, v_77, v_78, n_841, n_842, v_72, v_79, g_1165)) else (
      let x_1191 : Int32 := ((181 : Int32) + v_1164)
      let x_1192 : Int32 := ((1641 : Int32) + v_1164)
      let x_1193 : Int32 := (g_1165 (x_1192 : Int32).toNatClampNeg)
      let g_1194 : Nat → Int32 := (upd g_1165 (x_1191 : Int32).toNatClampNeg x_1193)
      let x_1195 : Int32 := (v_1164 + 1)
      G_L73a x_1195 g_1194)) k9
theorem F_r_rule_L73a_s (n_2 : Int32) (n_3 : Int32) (v_71 : Int32) (v_72 : Int32) (v_73 : Int32) (v_74 : Int32) (v_75 : Int32) (v_76 : Int32) (v_77 : Int32) (v_78 : Int64) (v_79 : Int32) (n_840 : Int32) (n_841 : Int32) (n_842 : Int32) (n9 : Nat) (v_1164 : Int32) (g_1165 : Nat → Int32) : F_r_rule_L73a n_2 n_3 v_71 v_72 v_73 v_74 v_75 v_76 v_77 v_78 v_79 n_840 n_841 n_842 (n9 + 1) v_1164 g_1165 = (
    let x_1186 : Int32 := ((6 : Int32) * v_79)
    if x_1186 ≤ v_1164 then (
      (v_79, n_840, (0 : Int32), n_2, n_3, v_71, v_73, v_74, v_75, v_76, v_77, v_78, n_841, n_842, v_72, v_79, g_1165)) else (
      let x_1191 : Int32 := ((181 : Int32) + v_1164)
      let x_1192 : Int32 := ((1641 : Int32) + v_1164)
      let x_1193 : Int32 := (g_1165 (x_1192 : Int32).toNatClampNeg)
      let g_1194 : Nat → Int32 := (upd g_1165 (x_1191 : Int32).toNatClampNeg x_1193)
      let x_1195 : Int32 := (v_1164 + 1)
      (F_r_rule_L73a n_2 n_3 v_71 v_72 v_73 v_74 v_75 v_76 v_77 v_78 v_79 n_840 n_841 n_842 n9) x_1195 g_1194)) := rfl
noncomputable def F_r_rule_L73b (n_2 : Int32) (n_3 : Int32) (v_71 : Int32) (v_72 : Int32) (v_73 : Int32) (v_74 : Int32) (v_75 : Int32) (v_76 : Int32) (v_77 : Int32) (v_78 : Int64) (v_79 : Int32) (n_1201 : Int32) (n_1202 : Int32) (n_1203 : Int32) : Nat → Int32 → (Nat → Int32) → (Int32 × Int32 × Int32 × Int32 × Int32 × Int32 × Int32 × Int32 × Int32 × Int32 × Int32 × Int64 × Int32 × Int32 × Int32 × Int32 × (Nat → Int32)) := fun k9 => Nat.rec (motive := fun _ => Int32 → (Nat → Int32) → (Int32 × Int32 × Int32 × Int32 × Int32 × Int32 × Int32 × Int32 × Int32 × Int32 × Int32 × Int64 × Int32 × Int32 × Int32 × Int32 × (Nat → Int32))) (fun _ _ => default) (fun _ (G_L73b : Int32 → (Nat → Int32) → (Int32 × Int32 × Int32 × Int32 × Int32 × Int32 × Int32 × Int32 × Int32 × Int32 × Int32 × Int64 × Int32 × Int32 × Int32 × Int32 × (Nat → Int32))) => fun (v_1525 : Int32) (g_1526 : Nat → Int32) =>
    let x_1547 : Int32 := ((6 : Int32) * v_79)
    if x_1547 ≤ v_1525 then (
      (v_79, n_1201, (0 : Int32), n_2, n_3, v_71, v_73, v_74, v_75, v_76, v_77, v_78, n_1202, n_1203, v_72, v_79, g_1526)) else (
      let x_1552 : Int32 := ((181 : Int32) + v_1525)
      let x_1553 : Int32 := ((1641 : Int32) + v_1525)
      let x_1554 : Int32 := (g_1526 (x_1553 : Int32).toNatClampNeg)
      let g_1555 : Nat → Int32 := (upd g_1526 (x_1552 : Int32).toNatClampNeg x_1554)
      let x_1556 : Int32 := (v_1525 + 1)
      G_L73b x_1556 g_1555)) k9
theorem F_r_rule_L73b_s (n_2 : Int32) (n_3 : Int32) (v_71 : Int32) (v_72 : Int32) (v_73 : Int32) (v_74 : Int32) (v_75 : Int32) (v_76 : Int32) (v_77 : Int32) (v_78 : Int64) (v_79 : Int32) (n_1201 : Int32) (n_1202 : Int32) (n_1203 : Int32) (n9 : Nat) (v_1525 : Int32) (g_1526 : Nat → Int32) : F_r_rule_L73b n_2 n_3 v_71 v_72 v_73 v_74 v_75 v_76 v_77 v_78 v_79 n_1201 n_1202 n_1203 (n9 + 1) v_1525 g_1526 = (
    let x_1547 : Int32 := ((6 : Int32) * v_79)
    if x_1547 ≤ v_1525 then (
      (v_79, n_1201, (0 : Int32), n_2, n_3, v_71, v_73, v_74, v_75, v_76, v_77, v_78, n_1202, n_1203, v_72, v_79, g_1526)) else (
      let x_1552 : Int32 := ((181 : Int32) + v_1525)
      let x_1553 : Int32 := ((1641 : Int32) + v_1525)
      let x_1554 : Int32 := (g_1526 (x_1553 : Int32).toNatClampNeg)
      let g_1555 : Nat → Int32 := (upd g_1526 (x_1552 : Int32).toNatClampNeg x_1554)
      let x_1556 : Int32 := (v_1525 + 1)
      (F_r_rule_L73b n_2 n_3 v_71 v_72 v_73 v_74 v_75 v_76 v_77 v_78 v_79 n_1201 n_1202 n_1203 n9) x_1556 g_1555)) := rfl
noncomputable def F_r_rule_L28a (g_tape : Nat → Int32) (g_words : Nat → Int64) (n_1 : Int32) (n_2 : Int32) (n_3 : Int32) : Nat → (Nat → Int32) → Int32 → Int32 → Int32 → Int32 → Int32 → Int32 → Int32 → Int64 → Int32 → (Int32 × Int32 × Int32 × Int32 × Int32 × Int32 × Int32 × Int32 × Int32 × Int32 × Int32 × Int64 × Int32 × Int32 × Int32 × Int32 × (Nat → Int32)) := fun k9 => Nat.rec (motive := fun _ => (Nat → Int32) → Int32 → Int32 → Int32 → Int32 → Int32 → Int32 → Int32 → Int64 → Int32 → (Int32 × Int32 × Int32 × Int32 × Int32 × Int32 × Int32 × Int32 × Int32 × Int32 × Int32 × Int64 × Int32 × Int32 × Int32 × Int32 × (Nat → Int32))) (fun _ _ _ _ _ _ _ _ _ _ => default) (fun _ (G_L28a : (Nat → Int32) → Int32 → Int32 → Int32 → Int32 → Int32 → Int32 → Int32 → Int64 → Int32 → (Int32 × Int32 × Int32 × Int32 × Int32 × Int32 × Int32 × Int32 × Int32 × Int32 × Int32 × Int64 × Int32 × Int32 × Int32 × Int32 × (Nat → Int32))) => fun (g_70 : Nat → Int32) (v_71 : Int32) (v_72 : Int32) (v_73 : Int32) (v_74 : Int32) (v_75 : Int32) (v_76 : Int32) (v_77 : Int32) (v_78 : Int64) (v_79 : Int32) =>
    if v_71 = 0 then (
      if v_73 = 0 then (
        let w_1206 := F_r_isWell n_1 v_71 v_72
        let r_1204 : Int32 := w_1206.1
        let n_1201 : Int32 := w_1206.2.1
        let n_1202 : Int32 := w_1206.2.2.1
        let n_1203 : Int32 := w_1206.2.2.2
        if r_1204 = 0 then (
          ((-1 : Int32), n_1201, (0 : Int32), n_2, n_3, v_71, v_73, v_74, v_75, v_76, v_77, v_78, n_1202, n_1203, v_72, v_79, g_70)) else
        (
          let g_1210 : Nat → Int32 := (upd g_70 (180 : Int32).toNatClampNeg v_79)
          F_r_rule_L73b n_2 n_3 v_71 v_72 v_73 v_74 v_75 v_76 v_77 v_78 v_79 n_1201 n_1202 n_1203 ((2147483647 - (0 : Int32).toInt).toNat + 1) (0 : Int32) g_1210)) else (
        let w_1572 := F_r_readStep_0 n_3 v_71 v_72 v_73 v_74 v_75 v_76 v_77 v_78 v_79 g_tape g_70 g_words
        let n_1560 : Int32 := w_1572.1
        let n_1561 : Int32 := w_1572.2.1
        let n_1562 : Int32 := w_1572.2.2.1
        let n_1563 : Int32 := w_1572.2.2.2.1
        let n_1564 : Int32 := w_1572.2.2.2.2.1
        let n_1565 : Int32 := w_1572.2.2.2.2.2.1
        let n_1566 : Int32 := w_1572.2.2.2.2.2.2.1
        let n_1567 : Int64 := w_1572.2.2.2.2.2.2.2.1
        let n_1568 : Int32 := w_1572.2.2.2.2.2.2.2.2.1
        let n_1569 : Nat → Int32 := w_1572.2.2.2.2.2.2.2.2.2
        G_L28a n_1569 n_1560 n_1561 n_1562 n_1563 n_1564 n_1565 n_1566 n_1567 n_1568)) else (
      let w_845 := F_r_isWell n_1 v_71 v_72
      let r_843 : Int32 := w_845.1
      let n_840 : Int32 := w_845.2.1
      let n_841 : Int32 := w_845.2.2.1
      let n_842 : Int32 := w_845.2.2.2
      if r_843 = 0 then (
        ((-1 : Int32), n_840, (0 : Int32), n_2, n_3, v_71, v_73, v_74, v_75, v_76, v_77, v_78, n_841, n_842, v_72, v_79, g_70)) else
      (
        let g_849 : Nat → Int32 := (upd g_70 (180 : Int32).toNatClampNeg v_79)
        F_r_rule_L73a n_2 n_3 v_71 v_72 v_73 v_74 v_75 v_76 v_77 v_78 v_79 n_840 n_841 n_842 ((2147483647 - (0 : Int32).toInt).toNat + 1) (0 : Int32) g_849))) k9
theorem F_r_rule_L28a_s (g_tape : Nat → Int32) (g_words : Nat → Int64) (n_1 : Int32) (n_2 : Int32) (n_3 : Int32) (n9 : Nat) (g_70 : Nat → Int32) (v_71 : Int32) (v_72 : Int32) (v_73 : Int32) (v_74 : Int32) (v_75 : Int32) (v_76 : Int32) (v_77 : Int32) (v_78 : Int64) (v_79 : Int32) : F_r_rule_L28a g_tape g_words n_1 n_2 n_3 (n9 + 1) g_70 v_71 v_72 v_73 v_74 v_75 v_76 v_77 v_78 v_79 = (
    if v_71 = 0 then (
      if v_73 = 0 then (
        let w_1206 := F_r_isWell n_1 v_71 v_72
        let r_1204 : Int32 := w_1206.1
        let n_1201 : Int32 := w_1206.2.1
        let n_1202 : Int32 := w_1206.2.2.1
        let n_1203 : Int32 := w_1206.2.2.2
        if r_1204 = 0 then (
          ((-1 : Int32), n_1201, (0 : Int32), n_2, n_3, v_71, v_73, v_74, v_75, v_76, v_77, v_78, n_1202, n_1203, v_72, v_79, g_70)) else
        (
          let g_1210 : Nat → Int32 := (upd g_70 (180 : Int32).toNatClampNeg v_79)
          F_r_rule_L73b n_2 n_3 v_71 v_72 v_73 v_74 v_75 v_76 v_77 v_78 v_79 n_1201 n_1202 n_1203 ((2147483647 - (0 : Int32).toInt).toNat + 1) (0 : Int32) g_1210)) else (
        let w_1572 := F_r_readStep_0 n_3 v_71 v_72 v_73 v_74 v_75 v_76 v_77 v_78 v_79 g_tape g_70 g_words
        let n_1560 : Int32 := w_1572.1
        let n_1561 : Int32 := w_1572.2.1
        let n_1562 : Int32 := w_1572.2.2.1
        let n_1563 : Int32 := w_1572.2.2.2.1
        let n_1564 : Int32 := w_1572.2.2.2.2.1
        let n_1565 : Int32 := w_1572.2.2.2.2.2.1
        let n_1566 : Int32 := w_1572.2.2.2.2.2.2.1
        let n_1567 : Int64 := w_1572.2.2.2.2.2.2.2.1
        let n_1568 : Int32 := w_1572.2.2.2.2.2.2.2.2.1
        let n_1569 : Nat → Int32 := w_1572.2.2.2.2.2.2.2.2.2
        (F_r_rule_L28a g_tape g_words n_1 n_2 n_3 n9) n_1569 n_1560 n_1561 n_1562 n_1563 n_1564 n_1565 n_1566 n_1567 n_1568)) else (
      let w_845 := F_r_isWell n_1 v_71 v_72
      let r_843 : Int32 := w_845.1
      let n_840 : Int32 := w_845.2.1
      let n_841 : Int32 := w_845.2.2.1
      let n_842 : Int32 := w_845.2.2.2
      if r_843 = 0 then (
        ((-1 : Int32), n_840, (0 : Int32), n_2, n_3, v_71, v_73, v_74, v_75, v_76, v_77, v_78, n_841, n_842, v_72, v_79, g_70)) else
      (
        let g_849 : Nat → Int32 := (upd g_70 (180 : Int32).toNatClampNeg v_79)
        F_r_rule_L73a n_2 n_3 v_71 v_72 v_73 v_74 v_75 v_76 v_77 v_78 v_79 n_840 n_841 n_842 ((2147483647 - (0 : Int32).toInt).toNat + 1) (0 : Int32) g_849))) := rfl
noncomputable def F_r_rule (m_taped : Int32) (m_textEnd : Int32) (m_faultKind : Int32) (m_faultAt : Int32) (m_bad : Int32) (m_badAt : Int32) (m_token : Int32) (m_at : Int32) (m_behind : Int32) (m_number : Int32) (m_letters : Int32) (m_word : Int64) (m_newSteps : Int32) (g_tape : Nat → Int32) (g_c : Nat → Int32) (g_words : Nat → Int64) (nn : Int32) : Int32 × Int32 × Int32 × Int32 × Int32 × Int32 × Int32 × Int32 × Int32 × Int32 × Int32 × Int64 × Int32 × Int32 × Int32 × Int32 × (Nat → Int32) :=
  let w_13 := F_r_begins 0 m_taped m_textEnd m_bad m_token m_at m_behind m_number m_letters m_word g_tape nn 300
  let r_11 : Int32 := w_13.1
  let n_1 : Int32 := w_13.2.1
  let n_2 : Int32 := w_13.2.2.1
  let n_3 : Int32 := w_13.2.2.2.1
  let n_4 : Int32 := w_13.2.2.2.2.1
  let n_5 : Int32 := w_13.2.2.2.2.2.1
  let n_6 : Int32 := w_13.2.2.2.2.2.2.1
  let n_7 : Int32 := w_13.2.2.2.2.2.2.2.1
  let n_8 : Int32 := w_13.2.2.2.2.2.2.2.2.1
  let n_9 : Int32 := w_13.2.2.2.2.2.2.2.2.2.1
  let n_10 : Int64 := w_13.2.2.2.2.2.2.2.2.2.2
  if r_11 = 0 then (
    ((-1 : Int32), n_1, (0 : Int32), n_2, n_3, n_4, n_5, n_6, n_7, n_8, n_9, n_10, m_faultKind, m_faultAt, m_badAt, m_newSteps, g_c)) else
  (
    F_r_rule_L28a g_tape g_words n_1 n_2 n_3 ((4600 - 5 * n_7.toInt + n_5.toInt - 5 * n_4.toInt).toNat + 1) g_c n_4 m_badAt n_5 n_6 n_7 n_8 n_9 n_10 (0 : Int32))
theorem F_r_rule_s (m_taped : Int32) (m_textEnd : Int32) (m_faultKind : Int32) (m_faultAt : Int32) (m_bad : Int32) (m_badAt : Int32) (m_token : Int32) (m_at : Int32) (m_behind : Int32) (m_number : Int32) (m_letters : Int32) (m_word : Int64) (m_newSteps : Int32) (g_tape : Nat → Int32) (g_c : Nat → Int32) (g_words : Nat → Int64) (nn : Int32) : F_r_rule m_taped m_textEnd m_faultKind m_faultAt m_bad m_badAt m_token m_at m_behind m_number m_letters m_word m_newSteps g_tape g_c g_words nn = (
  let w_13 := F_r_begins 0 m_taped m_textEnd m_bad m_token m_at m_behind m_number m_letters m_word g_tape nn 300
  let r_11 : Int32 := w_13.1
  let n_1 : Int32 := w_13.2.1
  let n_2 : Int32 := w_13.2.2.1
  let n_3 : Int32 := w_13.2.2.2.1
  let n_4 : Int32 := w_13.2.2.2.2.1
  let n_5 : Int32 := w_13.2.2.2.2.2.1
  let n_6 : Int32 := w_13.2.2.2.2.2.2.1
  let n_7 : Int32 := w_13.2.2.2.2.2.2.2.1
  let n_8 : Int32 := w_13.2.2.2.2.2.2.2.2.1
  let n_9 : Int32 := w_13.2.2.2.2.2.2.2.2.2.1
  let n_10 : Int64 := w_13.2.2.2.2.2.2.2.2.2.2
  if r_11 = 0 then (
    ((-1 : Int32), n_1, (0 : Int32), n_2, n_3, n_4, n_5, n_6, n_7, n_8, n_9, n_10, m_faultKind, m_faultAt, m_badAt, m_newSteps, g_c)) else
  (
    F_r_rule_L28a g_tape g_words n_1 n_2 n_3 ((4600 - 5 * n_7.toInt + n_5.toInt - 5 * n_4.toInt).toNat + 1) g_c n_4 m_badAt n_5 n_6 n_7 n_8 n_9 n_10 (0 : Int32))) := rfl
noncomputable def F_r_empty_1460_L2a : Nat → Int32 → (Nat → Int32) → (Nat → Int32) := fun k9 => Nat.rec (motive := fun _ => Int32 → (Nat → Int32) → (Nat → Int32)) (fun _ _ => default) (fun _ (G_L2a : Int32 → (Nat → Int32) → (Nat → Int32)) => fun (v_199 : Int32) (g_200 : Nat → Int32) =>
    if 180 ≤ v_199 then (
      let g_236 : Nat → Int32 := (upd g_200 (1465 : Int32).toNatClampNeg 1)
      let g_239 : Nat → Int32 := (upd g_236 (1466 : Int32).toNatClampNeg 4)
      let g_242 : Nat → Int32 := (upd g_239 (1467 : Int32).toNatClampNeg 1)
      let g_245 : Nat → Int32 := (upd g_242 (1468 : Int32).toNatClampNeg 9)
      let g_248 : Nat → Int32 := (upd g_245 (1469 : Int32).toNatClampNeg 8)
      let g_251 : Nat → Int32 := (upd g_248 (1470 : Int32).toNatClampNeg (-1))
      g_251) else (
      let x_256 : Int32 := ((1460 : Int32) + v_199)
      let g_257 : Nat → Int32 := (upd g_200 (x_256 : Int32).toNatClampNeg 0)
      let x_258 : Int32 := (v_199 + 1)
      G_L2a x_258 g_257)) k9
theorem F_r_empty_1460_L2a_s (n9 : Nat) (v_199 : Int32) (g_200 : Nat → Int32) : F_r_empty_1460_L2a (n9 + 1) v_199 g_200 = (
    if 180 ≤ v_199 then (
      let g_236 : Nat → Int32 := (upd g_200 (1465 : Int32).toNatClampNeg 1)
      let g_239 : Nat → Int32 := (upd g_236 (1466 : Int32).toNatClampNeg 4)
      let g_242 : Nat → Int32 := (upd g_239 (1467 : Int32).toNatClampNeg 1)
      let g_245 : Nat → Int32 := (upd g_242 (1468 : Int32).toNatClampNeg 9)
      let g_248 : Nat → Int32 := (upd g_245 (1469 : Int32).toNatClampNeg 8)
      let g_251 : Nat → Int32 := (upd g_248 (1470 : Int32).toNatClampNeg (-1))
      g_251) else (
      let x_256 : Int32 := ((1460 : Int32) + v_199)
      let g_257 : Nat → Int32 := (upd g_200 (x_256 : Int32).toNatClampNeg 0)
      let x_258 : Int32 := (v_199 + 1)
      (F_r_empty_1460_L2a n9) x_258 g_257)) := rfl
noncomputable def F_r_empty_1460 (g_c : Nat → Int32) : (Nat → Int32) :=
  F_r_empty_1460_L2a ((2147483647 - (0 : Int32).toInt).toNat + 1) (0 : Int32) g_c
theorem F_r_empty_1460_s (g_c : Nat → Int32) : F_r_empty_1460 g_c = (
  F_r_empty_1460_L2a ((2147483647 - (0 : Int32).toInt).toNat + 1) (0 : Int32) g_c) := rfl
noncomputable def F_r_house_L220a (n_2 : Int32) (n_3 : Int32) (g_822 : Nat → Int32) (v_823 : Int32) (v_824 : Int32) (v_825 : Int32) (v_826 : Int32) (v_827 : Int32) (v_828 : Int32) (v_829 : Int32) (v_830 : Int64) (v_831 : Int32) (v_832 : Int32) (v_833 : Int32) (g_835 : Nat → Int32) (n_2914 : Int32) (n_2915 : Int32) (n_2916 : Int32) (g_3151 : Nat → Int32) : Nat → Int32 → (Nat → Int64) → (Int32 × Int32 × Int32 × Int32 × Int32 × Int32 × Int32 × Int32 × Int32 × Int32 × Int32 × Int64 × Int32 × Int32 × Int32 × Int32 × Int32 × Int32 × (Nat → Int32) × (Nat → Int64) × (Nat → Int32) × (Nat → Int32)) := fun k9 => Nat.rec (motive := fun _ => Int32 → (Nat → Int64) → (Int32 × Int32 × Int32 × Int32 × Int32 × Int32 × Int32 × Int32 × Int32 × Int32 × Int32 × Int64 × Int32 × Int32 × Int32 × Int32 × Int32 × Int32 × (Nat → Int32) × (Nat → Int64) × (Nat → Int32) × (Nat → Int32))) (fun _ _ => default) (fun _ (G_L220a : Int32 → (Nat → Int64) → (Int32 × Int32 × Int32 × Int32 × Int32 × Int32 × Int32 × Int32 × Int32 × Int32 × Int32 × Int64 × Int32 × Int32 × Int32 × Int32 × Int32 × Int32 × (Nat → Int32) × (Nat → Int64) × (Nat → Int32) × (Nat → Int32))) => fun (v_3525 : Int32) (g_3526 : Nat → Int64) =>
    if 21 ≤ v_3525 then (
      let x_3546 : Int32 := (g_3151 (1 : Int32).toNatClampNeg)
      (x_3546, n_2914, (0 : Int32), n_2, n_3, v_823, v_825, v_826, v_827, v_828, v_829, v_830, n_2915, n_2916, v_824, v_831, v_832, v_833, g_3151, g_3526, g_822, g_835)) else (
      let x_3549 : Int32 := ((84 : Int32) + v_3525)
      let x_3550 : Int64 := (g_3526 (x_3549 : Int32).toNatClampNeg)
      let g_3551 : Nat → Int64 := (vp_updL g_3526 (v_3525 : Int32).toNatClampNeg x_3550)
      let x_3552 : Int32 := (v_3525 + 1)
      G_L220a x_3552 g_3551)) k9
theorem F_r_house_L220a_s (n_2 : Int32) (n_3 : Int32) (g_822 : Nat → Int32) (v_823 : Int32) (v_824 : Int32) (v_825 : Int32) (v_826 : Int32) (v_827 : Int32) (v_828 : Int32) (v_829 : Int32) (v_830 : Int64) (v_831 : Int32) (v_832 : Int32) (v_833 : Int32) (g_835 : Nat → Int32) (n_2914 : Int32) (n_2915 : Int32) (n_2916 : Int32) (g_3151 : Nat → Int32) (n9 : Nat) (v_3525 : Int32) (g_3526 : Nat → Int64) : F_r_house_L220a n_2 n_3 g_822 v_823 v_824 v_825 v_826 v_827 v_828 v_829 v_830 v_831 v_832 v_833 g_835 n_2914 n_2915 n_2916 g_3151 (n9 + 1) v_3525 g_3526 = (
    if 21 ≤ v_3525 then (
      let x_3546 : Int32 := (g_3151 (1 : Int32).toNatClampNeg)
      (x_3546, n_2914, (0 : Int32), n_2, n_3, v_823, v_825, v_826, v_827, v_828, v_829, v_830, n_2915, n_2916, v_824, v_831, v_832, v_833, g_3151, g_3526, g_822, g_835)) else (
      let x_3549 : Int32 := ((84 : Int32) + v_3525)
      let x_3550 : Int64 := (g_3526 (x_3549 : Int32).toNatClampNeg)
      let g_3551 : Nat → Int64 := (vp_updL g_3526 (v_3525 : Int32).toNatClampNeg x_3550)
      let x_3552 : Int32 := (v_3525 + 1)
      (F_r_house_L220a n_2 n_3 g_822 v_823 v_824 v_825 v_826 v_827 v_828 v_829 v_830 v_831 v_832 v_833 g_835 n_2914 n_2915 n_2916 g_3151 n9) x_3552 g_3551)) := rfl
noncomputable def F_r_house_L189a (n_2 : Int32) (n_3 : Int32) (g_821 : Nat → Int64) (g_822 : Nat → Int32) (v_823 : Int32) (v_824 : Int32) (v_825 : Int32) (v_826 : Int32) (v_827 : Int32) (v_828 : Int32) (v_829 : Int32) (v_830 : Int64) (v_831 : Int32) (v_832 : Int32) (v_833 : Int32) (g_835 : Nat → Int32) (n_2914 : Int32) (n_2915 : Int32) (n_2916 : Int32) : Nat → Int32 → (Nat → Int32) → (Int32 × Int32 × Int32 × Int32 × Int32 × Int32 × Int32 × Int32 × Int32 × Int32 × Int32 × Int64 × Int32 × Int32 × Int32 × Int32 × Int32 × Int32 × (Nat → Int32) × (Nat → Int64) × (Nat → Int32) × (Nat → Int32)) := fun k9 => Nat.rec (motive := fun _ => Int32 → (Nat → Int32) → (Int32 × Int32 × Int32 × Int32 × Int32 × Int32 × Int32 × Int32 × Int32 × Int32 × Int32 × Int64 × Int32 × Int32 × Int32 × Int32 × Int32 × Int32 × (Nat → Int32) × (Nat → Int64) × (Nat → Int32) × (Nat → Int32))) (fun _ _ => default) (fun _ (G_L189a : Int32 → (Nat → Int32) → (Int32 × Int32 × Int32 × Int32 × Int32 × Int32 × Int32 × Int32 × Int32 × Int32 × Int32 × Int64 × Int32 × Int32 × Int32 × Int32 × Int32 × Int32 × (Nat → Int32) × (Nat → Int64) × (Nat → Int32) × (Nat → Int32))) => fun (v_3150 : Int32) (g_3151 : Nat → Int32) =>
    if 180 ≤ v_3150 then (
      F_r_house_L220a n_2 n_3 g_822 v_823 v_824 v_825 v_826 v_827 v_828 v_829 v_830 v_831 v_832 v_833 g_835 n_2914 n_2915 n_2916 g_3151 ((2147483647 - (0 : Int32).toInt).toNat + 1) (0 : Int32) g_821) else (
      let x_3556 : Int32 := ((1460 : Int32) + v_3150)
      let x_3557 : Int32 := (g_3151 (x_3556 : Int32).toNatClampNeg)
      let g_3558 : Nat → Int32 := (upd g_3151 (v_3150 : Int32).toNatClampNeg x_3557)
      let x_3559 : Int32 := (v_3150 + 1)
      G_L189a x_3559 g_3558)) k9
theorem F_r_house_L189a_s (n_2 : Int32) (n_3 : Int32) (g_821 : Nat → Int64) (g_822 : Nat → Int32) (v_823 : Int32) (v_824 : Int32) (v_825 : Int32) (v_826 : Int32) (v_827 : Int32) (v_828 : Int32) (v_829 : Int32) (v_830 : Int64) (v_831 : Int32) (v_832 : Int32) (v_833 : Int32) (g_835 : Nat → Int32) (n_2914 : Int32) (n_2915 : Int32) (n_2916 : Int32) (n9 : Nat) (v_3150 : Int32) (g_3151 : Nat → Int32) : F_r_house_L189a n_2 n_3 g_821 g_822 v_823 v_824 v_825 v_826 v_827 v_828 v_829 v_830 v_831 v_832 v_833 g_835 n_2914 n_2915 n_2916 (n9 + 1) v_3150 g_3151 = (
    if 180 ≤ v_3150 then (
      F_r_house_L220a n_2 n_3 g_822 v_823 v_824 v_825 v_826 v_827 v_828 v_829 v_830 v_831 v_832 v_833 g_835 n_2914 n_2915 n_2916 g_3151 ((2147483647 - (0 : Int32).toInt).toNat + 1) (0 : Int32) g_821) else (
      let x_3556 : Int32 := ((1460 : Int32) + v_3150)
      let x_3557 : Int32 := (g_3151 (x_3556 : Int32).toNatClampNeg)
      let g_3558 : Nat → Int32 := (upd g_3151 (v_3150 : Int32).toNatClampNeg x_3557)
      let x_3559 : Int32 := (v_3150 + 1)
      (F_r_house_L189a n_2 n_3 g_821 g_822 v_823 v_824 v_825 v_826 v_827 v_828 v_829 v_830 v_831 v_832 v_833 g_835 n_2914 n_2915 n_2916 n9) x_3559 g_3558)) := rfl
noncomputable def F_r_house_L220b (n_2 : Int32) (n_3 : Int32) (g_822 : Nat → Int32) (v_823 : Int32) (v_824 : Int32) (v_825 : Int32) (v_826 : Int32) (v_827 : Int32) (v_828 : Int32) (v_829 : Int32) (v_830 : Int64) (v_831 : Int32) (v_832 : Int32) (v_833 : Int32) (g_835 : Nat → Int32) (n_3565 : Int32) (n_3566 : Int32) (n_3567 : Int32) (g_3802 : Nat → Int32) : Nat → Int32 → (Nat → Int64) → (Int32 × Int32 × Int32 × Int32 × Int32 × Int32 × Int32 × Int32 × Int32 × Int32 × Int32 × Int64 × Int32 × Int32 × Int32 × Int32 × Int32 × Int32 × (Nat → Int32) × (Nat → Int64) × (Nat → Int32) × (Nat → Int32)) := fun k9 => Nat.rec (motive := fun _ => Int32 → (Nat → Int64) → (Int32 × Int32 × Int32 × Int32 × Int32 × Int32 × Int32 × Int32 × Int32 × Int32 × Int32 × Int64 × Int32 × Int32 × Int32 × Int32 × Int32 × Int32 × (Nat → Int32) × (Nat → Int64) × (Nat → Int32) × (Nat → Int32))) (fun _ _ => default) (fun _ (G_L220b : Int32 → (Nat → Int64) → (Int32 × Int32 × Int32 × Int32 × Int32 × Int32 × Int32 × Int32 × Int32 × Int32 × Int32 × Int64 × Int32 × Int32 × Int32 × Int32 × Int32 × Int32 × (Nat → Int32) × (Nat → Int64) × (Nat → Int32) × (Nat → Int32))) => fun (v_4176 : Int32) (g_4177 : Nat → Int64) =>
    if 21 ≤ v_4176 then (
      let x_4197 : Int32 := (g_3802 (1 : Int32).toNatClampNeg)
      (x_4197, n_3565, (0 : Int32), n_2, n_3, v_823, v_825, v_826, v_827, v_828, v_829, v_830, n_3566, n_3567, v_824, v_831, v_832, v_833, g_3802, g_4177, g_822, g_835)) else (
      let x_4200 : Int32 := ((84 : Int32) + v_4176)
      let x_4201 : Int64 := (g_4177 (x_4200 : Int32).toNatClampNeg)
      let g_4202 : Nat → Int64 := (vp_updL g_4177 (v_4176 : Int32).toNatClampNeg x_4201)
      let x_4203 : Int32 := (v_4176 + 1)
      G_L220b x_4203 g_4202)) k9
theorem F_r_house_L220b_s (n_2 : Int32) (n_3 : Int32) (g_822 : Nat → Int32) (v_823 : Int32) (v_824 : Int32) (v_825 : Int32) (v_826 : Int32) (v_827 : Int32) (v_828 : Int32) (v_829 : Int32) (v_830 : Int64) (v_831 : Int32) (v_832 : Int32) (v_833 : Int32) (g_835 : Nat → Int32) (n_3565 : Int32) (n_3566 : Int32) (n_3567 : Int32) (g_3802 : Nat → Int32) (n9 : Nat) (v_4176 : Int32) (g_4177 : Nat → Int64) : F_r_house_L220b n_2 n_3 g_822 v_823 v_824 v_825 v_826 v_827 v_828 v_829 v_830 v_831 v_832 v_833 g_835 n_3565 n_3566 n_3567 g_3802 (n9 + 1) v_4176 g_4177 = (
    if 21 ≤ v_4176 then (
      let x_4197 : Int32 := (g_3802 (1 : Int32).toNatClampNeg)
      (x_4197, n_3565, (0 : Int32), n_2, n_3, v_823, v_825, v_826, v_827, v_828, v_829, v_830, n_3566, n_3567, v_824, v_831, v_832, v_833, g_3802, g_4177, g_822, g_835)) else (
      let x_4200 : Int32 := ((84 : Int32) + v_4176)
      let x_4201 : Int64 := (g_4177 (x_4200 : Int32).toNatClampNeg)
      let g_4202 : Nat → Int64 := (vp_updL g_4177 (v_4176 : Int32).toNatClampNeg x_4201)
      let x_4203 : Int32 := (v_4176 + 1)
      (F_r_house_L220b n_2 n_3 g_822 v_823 v_824 v_825 v_826 v_827 v_828 v_829 v_830 v_831 v_832 v_833 g_835 n_3565 n_3566 n_3567 g_3802 n9) x_4203 g_4202)) := rfl
noncomputable def F_r_house_L189b (n_2 : Int32) (n_3 : Int32) (g_821 : Nat → Int64) (g_822 : Nat → Int32) (v_823 : Int32) (v_824 : Int32) (v_825 : Int32) (v_826 : Int32) (v_827 : Int32) (v_828 : Int32) (v_829 : Int32) (v_830 : Int64) (v_831 : Int32) (v_832 : Int32) (v_833 : Int32) (g_835 : Nat → Int32) (n_3565 : Int32) (n_3566 : Int32) (n_3567 : Int32) : Nat → Int32 → (Nat → Int32) → (Int32 × Int32 × Int32 × Int32 × Int32 × Int32 × Int32 × Int32 × Int32 × Int32 × Int32 × Int64 × Int32 × Int32 × Int32 × Int32 × Int32 × Int32 × (Nat → Int32) × (Nat → Int64) × (Nat → Int32) × (Nat → Int32)) := fun k9 => Nat.rec (motive := fun _ => Int32 → (Nat → Int32) → (Int32 × Int32 × Int32 × Int32 × Int32 × Int32 × Int32 × Int32 × Int32 × Int32 × Int32 × Int64 × Int32 × Int32 × Int32 × Int32 × Int32 × Int32 × (Nat → Int32) × (Nat → Int64) × (Nat → Int32) × (Nat → Int32))) (fun _ _ => default) (fun _ (G_L189b : Int32 → (Nat → Int32) → (Int32 × Int32 × Int32 × Int32 × Int32 × Int32 × Int32 × Int32 × Int32 × Int32 × Int32 × Int64 × Int32 × Int32 × Int32 × Int32 × Int32 × Int32 × (Nat → Int32) × (Nat → Int64) × (Nat → Int32) × (Nat → Int32))) => fun (v_3801 : Int32) (g_3802 : Nat → Int32) =>
    if 180 ≤ v_3801 then (
      F_r_house_L220b n_2 n_3 g_822 v_823 v_824 v_825 v_826 v_827 v_828 v_829 v_830 v_831 v_832 v_833 g_835 n_3565 n_3566 n_3567 g_3802 ((2147483647 - (0 : Int32).toInt).toNat + 1) (0 : Int32) g_821) else (
      let x_4207 : Int32 := ((1460 : Int32) + v_3801)
      let x_4208 : Int32 := (g_3802 (x_4207 : Int32).toNatClampNeg)
      let g_4209 : Nat → Int32 := (upd g_3802 (v_3801 : Int32).toNatClampNeg x_4208)
      let x_4210 : Int32 := (v_3801 + 1)
      G_L189b x_4210 g_4209)) k9
theorem F_r_house_L189b_s (n_2 : Int32) (n_3 : Int32) (g_821 : Nat → Int64) (g_822 : Nat → Int32) (v_823 : Int32) (v_824 : Int32) (v_825 : Int32) (v_826 : Int32) (v_827 : Int32) (v_828 : Int32) (v_829 : Int32) (v_830 : Int64) (v_831 : Int32) (v_832 : Int32) (v_833 : Int32) (g_835 : Nat → Int32) (n_3565 : Int32) (n_3566 : Int32) (n_3567 : Int32) (n9 : Nat) (v_3801 : Int32) (g_3802 : Nat → Int32) : F_r_house_L189b n_2 n_3 g_821 g_822 v_823 v_824 v_825 v_826 v_827 v_828 v_829 v_830 v_831 v_832 v_833 g_835 n_3565 n_3566 n_3567 (n9 + 1) v_3801 g_3802 = (
    if 180 ≤ v_3801 then (
      F_r_house_L220b n_2 n_3 g_822 v_823 v_824 v_825 v_826 v_827 v_828 v_829 v_830 v_831 v_832 v_833 g_835 n_3565 n_3566 n_3567 g_3802 ((2147483647 - (0 : Int32).toInt).toNat + 1) (0 : Int32) g_821) else (
      let x_4207 : Int32 := ((1460 : Int32) + v_3801)
      let x_4208 : Int32 := (g_3802 (x_4207 : Int32).toNatClampNeg)
      let g_4209 : Nat → Int32 := (upd g_3802 (v_3801 : Int32).toNatClampNeg x_4208)
      let x_4210 : Int32 := (v_3801 + 1)
      (F_r_house_L189b n_2 n_3 g_821 g_822 v_823 v_824 v_825 v_826 v_827 v_828 v_829 v_830 v_831 v_832 v_833 g_835 n_3565 n_3566 n_3567 n9) x_4210 g_4209)) := rfl
noncomputable def F_r_house_L45a (g_tape : Nat → Int32) (n_1 : Int32) (n_2 : Int32) (n_3 : Int32) : Nat → (Nat → Int64) → (Nat → Int32) → Int32 → Int32 → Int32 → Int32 → Int32 → Int32 → Int32 → Int64 → Int32 → Int32 → Int32 → (Nat → Int32) → (Nat → Int32) → (Int32 × Int32 × Int32 × Int32 × Int32 × Int32 × Int32 × Int32 × Int32 × Int32 × Int32 × Int64 × Int32 × Int32 × Int32 × Int32 × Int32 × Int32 × (Nat → Int32) × (Nat → Int64) × (Nat → Int32) × (Nat → Int32)) := fun k9 => Nat.rec (motive := fun _ => (Nat → Int64) → (Nat → Int32) → Int32 → Int32 → Int32 → Int32 → Int32 → Int32 → Int32 → Int64 → Int32 → Int32 → Int32 → (Nat → Int32) → (Nat → Int32) → (Int32 × Int32 × Int32 × Int32 × Int32 × Int32 × Int32 × Int32 × Int32 × Int32 × Int32 × Int64 × Int32 × Int32 × Int32 × Int32 × Int32 × Int32 × (Nat → Int32) × (Nat → Int64) × (Nat → Int32) × (Nat → Int32))) (fun _ _ _ _ _ _ _ _ _ _ _ _ _ _ _ => default) (fun _ (G_L45a : (Nat → Int64) → (Nat → Int32) → Int32 → Int32 → Int32 → Int32 → Int32 → Int32 → Int32 → Int64 → Int32 → Int32 → Int32 → (Nat → Int32) → (Nat → Int32) → (Int32 × Int32 × Int32 × Int32 × Int32 × Int32 × Int32 × Int32 × Int32 × Int32 × Int32 × Int64 × Int32 × Int32 × Int32 × Int32 × Int32 × Int32 × (Nat → Int32) × (Nat → Int64) × (Nat → Int32) × (Nat → Int32))) => fun (g_821 : Nat → Int64) (g_822 : Nat → Int32) (v_823 : Int32) (v_824 : Int32) (v_825 : Int32) (v_826 : Int32) (v_827 : Int32) (v_828 : Int32) (v_829 : Int32) (v_830 : Int64) (v_831 : Int32) (v_832 : Int32) (v_833 : Int32) (g_834 : Nat → Int32) (g_835 : Nat → Int32) =>
    if v_823 = 0 then (
      if v_825 = 0 then (
        let w_3570 := F_r_isWell n_1 v_823 v_824
        let r_3568 : Int32 := w_3570.1
        let n_3565 : Int32 := w_3570.2.1
        let n_3566 : Int32 := w_3570.2.2.1
        let n_3567 : Int32 := w_3570.2.2.2
        if r_3568 = 0 then (
          ((-1 : Int32), n_3565, (0 : Int32), n_2, n_3, v_823, v_825, v_826, v_827, v_828, v_829, v_830, n_3566, n_3567, v_824, v_831, v_832, v_833, g_834, g_821, g_822, g_835)) else
        (
          F_r_house_L189b n_2 n_3 g_821 g_822 v_823 v_824 v_825 v_826 v_827 v_828 v_829 v_830 v_831 v_832 v_833 g_835 n_3565 n_3566 n_3567 ((2147483647 - (0 : Int32).toInt).toNat + 1) (0 : Int32) g_834)) else (
        let w_4216 := F_r_houseWord v_825 v_830
        let r_4214 : Int32 := w_4216
        if r_4214 = 0 then (
          let w_4587 := F_r_readFeature n_3 v_823 v_824 v_825 v_826 v_827 v_828 v_829 v_830 g_tape g_834 g_821 g_822
          let n_4574 : Int32 := w_4587.1
          let n_4575 : Int32 := w_4587.2.1
          let n_4576 : Int32 := w_4587.2.2.1
          let n_4577 : Int32 := w_4587.2.2.2.1
          let n_4578 : Int32 := w_4587.2.2.2.2.1
          let n_4579 : Int32 := w_4587.2.2.2.2.2.1
          let n_4580 : Int32 := w_4587.2.2.2.2.2.2.1
          let n_4581 : Int64 := w_4587.2.2.2.2.2.2.2.1
          let n_4582 : Nat → Int32 := w_4587.2.2.2.2.2.2.2.2.1
          let n_4583 : Nat → Int64 := w_4587.2.2.2.2.2.2.2.2.2.1
          let n_4584 : Nat → Int32 := w_4587.2.2.2.2.2.2.2.2.2.2
          let w_4596 := F_r_isSign n_4576 n_4579 59
          let r_4594 : Int32 := w_4596
          if r_4594 = 0 then (
            let w_4603 := F_r_must_0 n_4574 n_4575 n_4576 n_4577
            let n_4599 : Int32 := w_4603.1
            let n_4600 : Int32 := w_4603.2
            G_L45a n_4583 n_4584 n_4599 n_4600 n_4576 n_4577 n_4578 n_4579 n_4580 n_4581 v_831 v_832 v_833 n_4582 g_835) else
          (
            let w_4613 := F_r_must_1 n_3 n_4574 n_4576 n_4577 n_4578 n_4579 n_4580 n_4581 g_tape
            let n_4605 : Int32 := w_4613.1
            let n_4606 : Int32 := w_4613.2.1
            let n_4607 : Int32 := w_4613.2.2.1
            let n_4608 : Int32 := w_4613.2.2.2.1
            let n_4609 : Int32 := w_4613.2.2.2.2.1
            let n_4610 : Int64 := w_4613.2.2.2.2.2
            G_L45a n_4583 n_4584 n_4574 n_4575 n_4605 n_4606 n_4607 n_4608 n_4609 n_4610 v_831 v_832 v_833 n_4582 g_835)) else (
          if r_4214 = 1 then (
            let w_4542 := F_r_readFeels n_3 v_823 v_824 v_827 v_828 v_829 v_830 g_tape g_834 g_821 g_822
            let n_4530 : Int32 := w_4542.1
            let n_4531 : Int32 := w_4542.2.1
            let n_4532 : Int32 := w_4542.2.2.1
            let n_4533 : Int32 := w_4542.2.2.2.1
            let n_4534 : Int32 := w_4542.2.2.2.2.1
            let n_4535 : Int32 := w_4542.2.2.2.2.2.1
            let n_4536 : Int32 := w_4542.2.2.2.2.2.2.1
            let n_4537 : Int64 := w_4542.2.2.2.2.2.2.2.1
            let n_4538 : Nat → Int32 := w_4542.2.2.2.2.2.2.2.2.1
            let n_4539 : Nat → Int32 := w_4542.2.2.2.2.2.2.2.2.2
            let w_4551 := F_r_isSign n_4532 n_4535 59
            let r_4549 : Int32 := w_4551
            if r_4549 = 0 then (
              let w_4558 := F_r_must_0 n_4530 n_4531 n_4532 n_4533
              let n_4554 : Int32 := w_4558.1
              let n_4555 : Int32 := w_4558.2
              G_L45a g_821 n_4538 n_4554 n_4555 n_4532 n_4533 n_4534 n_4535 n_4536 n_4537 v_831 v_832 v_833 n_4539 g_835) else
            (
              let w_4568 := F_r_must_1 n_3 n_4530 n_4532 n_4533 n_4534 n_4535 n_4536 n_4537 g_tape
              let n_4560 : Int32 := w_4568.1
              let n_4561 : Int32 := w_4568.2.1
              let n_4562 : Int32 := w_4568.2.2.1
              let n_4563 : Int32 := w_4568.2.2.2.1
              let n_4564 : Int32 := w_4568.2.2.2.2.1
              let n_4565 : Int64 := w_4568.2.2.2.2.2
              G_L45a g_821 n_4538 n_4530 n_4531 n_4560 n_4561 n_4562 n_4563 n_4564 n_4565 v_831 v_832 v_833 n_4539 g_835)) else (
            if r_4214 = 2 then (
              let w_4498 := F_r_readKey n_3 v_823 v_824 v_825 v_826 v_827 v_828 v_829 v_830 g_tape g_834 g_821 g_835
              let n_4485 : Int32 := w_4498.1
              let n_4486 : Int32 := w_4498.2.1
              let n_4487 : Int32 := w_4498.2.2.1
              let n_4488 : Int32 := w_4498.2.2.2.1
              let n_4489 : Int32 := w_4498.2.2.2.2.1
              let n_4490 : Int32 := w_4498.2.2.2.2.2.1
              let n_4491 : Int32 := w_4498.2.2.2.2.2.2.1
              let n_4492 : Int64 := w_4498.2.2.2.2.2.2.2.1
              let n_4493 : Nat → Int64 := w_4498.2.2.2.2.2.2.2.2.1
              let n_4494 : Nat → Int32 := w_4498.2.2.2.2.2.2.2.2.2.1
              let n_4495 : Nat → Int32 := w_4498.2.2.2.2.2.2.2.2.2.2
              let w_4507 := F_r_isSign n_4487 n_4490 59
              let r_4505 : Int32 := w_4507
              if r_4505 = 0 then (
                let w_4514 := F_r_must_0 n_4485 n_4486 n_4487 n_4488
                let n_4510 : Int32 := w_4514.1
                let n_4511 : Int32 := w_4514.2
                G_L45a n_4493 g_822 n_4510 n_4511 n_4487 n_4488 n_4489 n_4490 n_4491 n_4492 v_831 v_832 v_833 n_4494 n_4495) else
              (
                let w_4524 := F_r_must_1 n_3 n_4485 n_4487 n_4488 n_4489 n_4490 n_4491 n_4492 g_tape
                let n_4516 : Int32 := w_4524.1
                let n_4517 : Int32 := w_4524.2.1
                let n_4518 : Int32 := w_4524.2.2.1
                let n_4519 : Int32 := w_4524.2.2.2.1
                let n_4520 : Int32 := w_4524.2.2.2.2.1
                let n_4521 : Int64 := w_4524.2.2.2.2.2
                G_L45a n_4493 g_822 n_4485 n_4486 n_4516 n_4517 n_4518 n_4519 n_4520 n_4521 v_831 v_832 v_833 n_4494 n_4495)) else (
              if r_4214 = 3 then (
                let w_4453 := F_r_readRing n_3 v_823 v_824 v_825 v_826 v_827 v_828 v_829 v_830 g_tape g_834 g_821 g_835
                let n_4440 : Int32 := w_4453.1
                let n_4441 : Int32 := w_4453.2.1
                let n_4442 : Int32 := w_4453.2.2.1
                let n_4443 : Int32 := w_4453.2.2.2.1
                let n_4444 : Int32 := w_4453.2.2.2.2.1
                let n_4445 : Int32 := w_4453.2.2.2.2.2.1
                let n_4446 : Int32 := w_4453.2.2.2.2.2.2.1
                let n_4447 : Int64 := w_4453.2.2.2.2.2.2.2.1
                let n_4448 : Nat → Int64 := w_4453.2.2.2.2.2.2.2.2.1
                let n_4449 : Nat → Int32 := w_4453.2.2.2.2.2.2.2.2.2.1
                let n_4450 : Nat → Int32 := w_4453.2.2.2.2.2.2.2.2.2.2
                let w_4462 := F_r_isSign n_4442 n_4445 59
                let r_4460 : Int32 := w_4462
                if r_4460 = 0 then (
                  let w_4469 := F_r_must_0 n_4440 n_4441 n_4442 n_4443
                  let n_4465 : Int32 := w_4469.1
                  let n_4466 : Int32 := w_4469.2
                  G_L45a n_4448 g_822 n_4465 n_4466 n_4442 n_4443 n_4444 n_4445 n_4446 n_4447 v_831 v_832 v_833 n_4449 n_4450) else
                (
                  let w_4479 := F_r_must_1 n_3 n_4440 n_4442 n_4443 n_4444 n_4445 n_4446 n_4447 g_tape
                  let n_4471 : Int32 := w_4479.1
                  let n_4472 : Int32 := w_4479.2.1
                  let n_4473 : Int32 := w_4479.2.2.1
                  let n_4474 : Int32 := w_4479.2.2.2.1
                  let n_4475 : Int32 := w_4479.2.2.2.2.1
                  let n_4476 : Int64 := w_4479.2.2.2.2.2
                  G_L45a n_4448 g_822 n_4440 n_4441 n_4471 n_4472 n_4473 n_4474 n_4475 n_4476 v_831 v_832 v_833 n_4449 n_4450)) else (
                if r_4214 = 4 then (
                  let w_4408 := F_r_readDoor n_3 v_823 v_824 v_825 v_826 v_827 v_828 v_829 v_830 g_tape g_834 g_821
                  let n_4396 : Int32 := w_4408.1
                  let n_4397 : Int32 := w_4408.2.1
                  let n_4398 : Int32 := w_4408.2.2.1
                  let n_4399 : Int32 := w_4408.2.2.2.1
                  let n_4400 : Int32 := w_4408.2.2.2.2.1
                  let n_4401 : Int32 := w_4408.2.2.2.2.2.1
                  let n_4402 : Int32 := w_4408.2.2.2.2.2.2.1
                  let n_4403 : Int64 := w_4408.2.2.2.2.2.2.2.1
                  let n_4404 : Nat → Int64 := w_4408.2.2.2.2.2.2.2.2.1
                  let n_4405 : Nat → Int32 := w_4408.2.2.2.2.2.2.2.2.2
                  let w_4417 := F_r_isSign n_4398 n_4401 59
                  let r_4415 : Int32 := w_4417
                  if r_4415 = 0 then (
                    let w_4424 := F_r_must_0 n_4396 n_4397 n_4398 n_4399
                    let n_4420 : Int32 := w_4424.1
                    let n_4421 : Int32 := w_4424.2
                    G_L45a n_4404 g_822 n_4420 n_4421 n_4398 n_4399 n_4400 n_4401 n_4402 n_4403 v_831 v_832 v_833 n_4405 g_835) else
                  (
                    let w_4434 := F_r_must_1 n_3 n_4396 n_4398 n_4399 n_4400 n_4401 n_4402 n_4403 g_tape
                    let n_4426 : Int32 := w_4434.1
                    let n_4427 : Int32 := w_4434.2.1
                    let n_4428 : Int32 := w_4434.2.2.1
                    let n_4429 : Int32 := w_4434.2.2.2.1
                    let n_4430 : Int32 := w_4434.2.2.2.2.1
                    let n_4431 : Int64 := w_4434.2.2.2.2.2
                    G_L45a n_4404 g_822 n_4396 n_4397 n_4426 n_4427 n_4428 n_4429 n_4430 n_4431 v_831 v_832 v_833 n_4405 g_835)) else (
                  if r_4214 = 5 then (
                    let w_4364 := F_r_readSeconds n_3 v_823 v_824 v_825 v_826 v_827 v_828 v_829 v_830 v_831 g_tape g_834
                    let n_4352 : Int32 := w_4364.1
                    let n_4353 : Int32 := w_4364.2.1
                    let n_4354 : Int32 := w_4364.2.2.1
                    let n_4355 : Int32 := w_4364.2.2.2.1
                    let n_4356 : Int32 := w_4364.2.2.2.2.1
                    let n_4357 : Int32 := w_4364.2.2.2.2.2.1
                    let n_4358 : Int32 := w_4364.2.2.2.2.2.2.1
                    let n_4359 : Int64 := w_4364.2.2.2.2.2.2.2.1
                    let n_4360 : Int32 := w_4364.2.2.2.2.2.2.2.2.1
                    let n_4361 : Nat → Int32 := w_4364.2.2.2.2.2.2.2.2.2
                    let w_4373 := F_r_isSign n_4354 n_4357 59
                    let r_4371 : Int32 := w_4373
                    if r_4371 = 0 then (
                      let w_4380 := F_r_must_0 n_4352 n_4353 n_4354 n_4355
                      let n_4376 : Int32 := w_4380.1
                      let n_4377 : Int32 := w_4380.2
                      G_L45a g_821 g_822 n_4376 n_4377 n_4354 n_4355 n_4356 n_4357 n_4358 n_4359 n_4360 v_832 v_833 n_4361 g_835) else
                    (
                      let w_4390 := F_r_must_1 n_3 n_4352 n_4354 n_4355 n_4356 n_4357 n_4358 n_4359 g_tape
                      let n_4382 : Int32 := w_4390.1
                      let n_4383 : Int32 := w_4390.2.1
                      let n_4384 : Int32 := w_4390.2.2.1
                      let n_4385 : Int32 := w_4390.2.2.2.1
                      let n_4386 : Int32 := w_4390.2.2.2.2.1
                      let n_4387 : Int64 := w_4390.2.2.2.2.2
                      G_L45a g_821 g_822 n_4352 n_4353 n_4382 n_4383 n_4384 n_4385 n_4386 n_4387 n_4360 v_832 v_833 n_4361 g_835)) else (
                    if r_4214 = 6 then (
                      let w_4320 := F_r_readTurned n_3 v_823 v_824 v_825 v_826 v_827 v_828 v_829 v_830 v_832 g_tape g_834
                      let n_4308 : Int32 := w_4320.1
                      let n_4309 : Int32 := w_4320.2.1
                      let n_4310 : Int32 := w_4320.2.2.1
                      let n_4311 : Int32 := w_4320.2.2.2.1
                      let n_4312 : Int32 := w_4320.2.2.2.2.1
                      let n_4313 : Int32 := w_4320.2.2.2.2.2.1
                      let n_4314 : Int32 := w_4320.2.2.2.2.2.2.1
                      let n_4315 : Int64 := w_4320.2.2.2.2.2.2.2.1
                      let n_4316 : Int32 := w_4320.2.2.2.2.2.2.2.2.1
                      let n_4317 : Nat → Int32 := w_4320.2.2.2.2.2.2.2.2.2
                      let w_4329 := F_r_isSign n_4310 n_4313 59
                      let r_4327 : Int32 := w_4329
                      if r_4327 = 0 then (
                        let w_4336 := F_r_must_0 n_4308 n_4309 n_4310 n_4311
                        let n_4332 : Int32 := w_4336.1
                        let n_4333 : Int32 := w_4336.2
                        G_L45a g_821 g_822 n_4332 n_4333 n_4310 n_4311 n_4312 n_4313 n_4314 n_4315 v_831 n_4316 v_833 n_4317 g_835) else
                      (
                        let w_4346 := F_r_must_1 n_3 n_4308 n_4310 n_4311 n_4312 n_4313 n_4314 n_4315 g_tape
                        let n_4338 : Int32 := w_4346.1
                        let n_4339 : Int32 := w_4346.2.1
                        let n_4340 : Int32 := w_4346.2.2.1
                        let n_4341 : Int32 := w_4346.2.2.2.1
                        let n_4342 : Int32 := w_4346.2.2.2.2.1
                        let n_4343 : Int64 := w_4346.2.2.2.2.2
                        G_L45a g_821 g_822 n_4308 n_4309 n_4338 n_4339 n_4340 n_4341 n_4342 n_4343 v_831 n_4316 v_833 n_4317 g_835)) else (
                      if r_4214 = 7 then (
                        let w_4276 := F_r_readRound n_3 v_823 v_824 v_825 v_826 v_827 v_828 v_829 v_830 v_833 g_tape g_834 g_821
                        let n_4264 : Int32 := w_4276.1
                        let n_4265 : Int32 := w_4276.2.1
                        let n_4266 : Int32 := w_4276.2.2.1
                        let n_4267 : Int32 := w_4276.2.2.2.1
                        let n_4268 : Int32 := w_4276.2.2.2.2.1
                        let n_4269 : Int32 := w_4276.2.2.2.2.2.1
                        let n_4270 : Int32 := w_4276.2.2.2.2.2.2.1
                        let n_4271 : Int64 := w_4276.2.2.2.2.2.2.2.1
                        let n_4272 : Int32 := w_4276.2.2.2.2.2.2.2.2.1
                        let n_4273 : Nat → Int32 := w_4276.2.2.2.2.2.2.2.2.2
                        let w_4285 := F_r_isSign n_4266 n_4269 59
                        let r_4283 : Int32 := w_4285
                        if r_4283 = 0 then (
                          let w_4292 := F_r_must_0 n_4264 n_4265 n_4266 n_4267
                          let n_4288 : Int32 := w_4292.1
                          let n_4289 : Int32 := w_4292.2
                          G_L45a g_821 g_822 n_4288 n_4289 n_4266 n_4267 n_4268 n_4269 n_4270 n_4271 v_831 v_832 n_4272 n_4273 g_835) else
                        (
                          let w_4302 := F_r_must_1 n_3 n_4264 n_4266 n_4267 n_4268 n_4269 n_4270 n_4271 g_tape
                          let n_4294 : Int32 := w_4302.1
                          let n_4295 : Int32 := w_4302.2.1
                          let n_4296 : Int32 := w_4302.2.2.1
                          let n_4297 : Int32 := w_4302.2.2.2.1
                          let n_4298 : Int32 := w_4302.2.2.2.2.1
                          let n_4299 : Int64 := w_4302.2.2.2.2.2
                          G_L45a g_821 g_822 n_4264 n_4265 n_4294 n_4295 n_4296 n_4297 n_4298 n_4299 v_831 v_832 n_4272 n_4273 g_835)) else (
                        let w_4238 := F_r_wrong v_823 v_824 v_825 v_826
                        let n_4234 : Int32 := w_4238.1
                        let n_4235 : Int32 := w_4238.2
                        let w_4241 := F_r_isSign v_825 v_828 59
                        let r_4239 : Int32 := w_4241
                        if r_4239 = 0 then (
                          let w_4248 := F_r_must_0 n_4234 n_4235 v_825 v_826
                          let n_4244 : Int32 := w_4248.1
                          let n_4245 : Int32 := w_4248.2
                          G_L45a g_821 g_822 n_4244 n_4245 v_825 v_826 v_827 v_828 v_829 v_830 v_831 v_832 v_833 g_834 g_835) else
                        (
                          let w_4258 := F_r_must_1 n_3 n_4234 v_825 v_826 v_827 v_828 v_829 v_830 g_tape
                          let n_4250 : Int32 := w_4258.1
                          let n_4251 : Int32 := w_4258.2.1
                          let n_4252 : Int32 := w_4258.2.2.1
                          let n_4253 : Int32 := w_4258.2.2.2.1
                          let n_4254 : Int32 := w_4258.2.2.2.2.1
                          let n_4255 : Int64 := w_4258.2.2.2.2.2
                          G_L45a g_821 g_822 n_4234 n_4235 n_4250 n_4251 n_4252 n_4253 n_4254 n_4255 v_831 v_832 v_833 g_834 g_835))))))))))) else (
      let w_2919 := F_r_isWell n_1 v_823 v_824
      let r_2917 : Int32 := w_2919.1
      let n_2914 : Int32 := w_2919.2.1
      let n_2915 : Int32 := w_2919.2.2.1
      let n_2916 : Int32 := w_2919.2.2.2
      if r_2917 = 0 then (
        ((-1 : Int32), n_2914, (0 : Int32), n_2, n_3, v_823, v_825, v_826, v_827, v_828, v_829, v_830, n_2915, n_2916, v_824, v_831, v_832, v_833, g_834, g_821, g_822, g_835)) else
      (
        F_r_house_L189a n_2 n_3 g_821 g_822 v_823 v_824 v_825 v_826 v_827 v_828 v_829 v_830 v_831 v_832 v_833 g_835 n_2914 n_2915 n_2916 ((2147483647 - (0 : Int32).toInt).toNat + 1) (0 : Int32) g_834))) k9
theorem F_r_house_L45a_s (g_tape : Nat → Int32) (n_1 : Int32) (n_2 : Int32) (n_3 : Int32) (n9 : Nat) (g_821 : Nat → Int64) (g_822 : Nat → Int32) (v_823 : Int32) (v_824 : Int32) (v_825 : Int32) (v_826 : Int32) (v_827 : Int32) (v_828 : Int32) (v_829 : Int32) (v_830 : Int64) (v_831 : Int32) (v_832 : Int32) (v_833 : Int32) (g_834 : Nat → Int32) (g_835 : Nat → Int32) : F_r_house_L45a g_tape n_1 n_2 n_3 (n9 + 1) g_821 g_822 v_823 v_824 v_825 v_826 v_827 v_828 v_829 v_830 v_831 v_832 v_833 g_834 g_835 = (
    if v_823 = 0 then (
      if v_825 = 0 then (
        let w_3570 := F_r_isWell n_1 v_823 v_824
        let r_3568 : Int32 := w_3570.1
        let n_3565 : Int32 := w_3570.2.1
        let n_3566 : Int32 := w_3570.2.2.1
        let n_3567 : Int32 := w_3570.2.2.2
        if r_3568 = 0 then (
          ((-1 : Int32), n_3565, (0 : Int32), n_2, n_3, v_823, v_825, v_826, v_827, v_828, v_829, v_830, n_3566, n_3567, v_824, v_831, v_832, v_833, g_834, g_821, g_822, g_835)) else
        (
          F_r_house_L189b n_2 n_3 g_821 g_822 v_823 v_824 v_825 v_826 v_827 v_828 v_829 v_830 v_831 v_832 v_833 g_835 n_3565 n_3566 n_3567 ((2147483647 - (0 : Int32).toInt).toNat + 1) (0 : Int32) g_834)) else (
        let w_4216 := F_r_houseWord v_825 v_830
        let r_4214 : Int32 := w_4216
        if r_4214 = 0 then (
          let w_4587 := F_r_readFeature n_3 v_823 v_824 v_825 v_826 v_827 v_828 v_829 v_830 g_tape g_834 g_821 g_822
          let n_4574 : Int32 := w_4587.1
          let n_4575 : Int32 := w_4587.2.1
          let n_4576 : Int32 := w_4587.2.2.1
          let n_4577 : Int32 := w_4587.2.2.2.1
          let n_4578 : Int32 := w_4587.2.2.2.2.1
          let n_4579 : Int32 := w_4587.2.2.2.2.2.1
          let n_4580 : Int32 := w_4587.2.2.2.2.2.2.1
          let n_4581 : Int64 := w_4587.2.2.2.2.2.2.2.1
          let n_4582 : Nat → Int32 := w_4587.2.2.2.2.2.2.2.2.1
          let n_4583 : Nat → Int64 := w_4587.2.2.2.2.2.2.2.2.2.1
          let n_4584 : Nat → Int32 := w_4587.2.2.2.2.2.2.2.2.2.2
          let w_4596 := F_r_isSign n_4576 n_4579 59
          let r_4594 : Int32 := w_4596
          if r_4594 = 0 then (
            let w_4603 := F_r_must_0 n_4574 n_4575 n_4576 n_4577
            let n_4599 : Int32 := w_4603.1
            let n_4600 : Int32 := w_4603.2
            (F_r_house_L45a g_tape n_1 n_2 n_3 n9) n_4583 n_4584 n_4599 n_4600 n_4576 n_4577 n_4578 n_4579 n_4580 n_4581 v_831 v_832 v_833 n_4582 g_835) else
          (
            let w_4613 := F_r_must_1 n_3 n_4574 n_4576 n_4577 n_4578 n_4579 n_4580 n_4581 g_tape
            let n_4605 : Int32 := w_4613.1
            let n_4606 : Int32 := w_4613.2.1
            let n_4607 : Int32 := w_4613.2.2.1
            let n_4608 : Int32 := w_4613.2.2.2.1
            let n_4609 : Int32 := w_4613.2.2.2.2.1
            let n_4610 : Int64 := w_4613.2.2.2.2.2
            (F_r_house_L45a g_tape n_1 n_2 n_3 n9) n_4583 n_4584 n_4574 n_4575 n_4605 n_4606 n_4607 n_4608 n_4609 n_4610 v_831 v_832 v_833 n_4582 g_835)) else (
          if r_4214 = 1 then (
            let w_4542 := F_r_readFeels n_3 v_823 v_824 v_827 v_828 v_829 v_830 g_tape g_834 g_821 g_822
            let n_4530 : Int32 := w_4542.1
            let n_4531 : Int32 := w_4542.2.1
            let n_4532 : Int32 := w_4542.2.2.1
            let n_4533 : Int32 := w_4542.2.2.2.1
            let n_4534 : Int32 := w_4542.2.2.2.2.1
            let n_4535 : Int32 := w_4542.2.2.2.2.2.1
            let n_4536 : Int32 := w_4542.2.2.2.2.2.2.1
            let n_4537 : Int64 := w_4542.2.2.2.2.2.2.2.1
            let n_4538 : Nat → Int32 := w_4542.2.2.2.2.2.2.2.2.1
            let n_4539 : Nat → Int32 := w_4542.2.2.2.2.2.2.2.2.2
            let w_4551 := F_r_isSign n_4532 n_4535 59
            let r_4549 : Int32 := w_4551
            if r_4549 = 0 then (
              let w_4558 := F_r_must_0 n_4530 n_4531 n_4532 n_4533
              let n_4554 : Int32 := w_4558.1
              let n_4555 : Int32 := w_4558.2
              (F_r_house_L45a g_tape n_1 n_2 n_3 n9) g_821 n_4538 n_4554 n_4555 n_4532 n_4533 n_4534 n_4535 n_4536 n_4537 v_831 v_832 v_833 n_4539 g_835) else
            (
              let w_4568 := F_r_must_1 n_3 n_4530 n_4532 n_4533 n_4534 n_4535 n_4536 n_4537 g_tape
              let n_4560 : Int32 := w_4568.1
              let n_4561 : Int32 := w_4568.2.1
              let n_4562 : Int32 := w_4568.2.2.1
              let n_4563 : Int32 := w_4568.2.2.2.1
              let n_4564 : Int32 := w_4568.2.2.2.2.1
              let n_4565 : Int64 := w_4568.2.2.2.2.2
              (F_r_house_L45a g_tape n_1 n_2 n_3 n9) g_821 n_4538 n_4530 n_4531 n_4560 n_4561 n_4562 n_4563 n_4564 n_4565 v_831 v_832 v_833 n_4539 g_835)) else (
            if r_4214 = 2 then (
              let w_4498 := F_r_readKey n_3 v_823 v_824 v_825 v_826 v_827 v_828 v_829 v_830 g_tape g_834 g_821 g_835
              let n_4485 : Int32 := w_4498.1
              let n_4486 : Int32 := w_4498.2.1
              let n_4487 : Int32 := w_4498.2.2.1
              let n_4488 : Int32 := w_4498.2.2.2.1
              let n_4489 : Int32 := w_4498.2.2.2.2.1
              let n_4490 : Int32 := w_4498.2.2.2.2.2.1
              let n_4491 : Int32 := w_4498.2.2.2.2.2.2.1
              let n_4492 : Int64 := w_4498.2.2.2.2.2.2.2.1
              let n_4493 : Nat → Int64 := w_4498.2.2.2.2.2.2.2.2.1
              let n_4494 : Nat → Int32 := w_4498.2.2.2.2.2.2.2.2.2.1
              let n_4495 : Nat → Int32 := w_4498.2.2.2.2.2.2.2.2.2.2
              let w_4507 := F_r_isSign n_4487 n_4490 59
              let r_4505 : Int32 := w_4507
              if r_4505 = 0 then (
                let w_4514 := F_r_must_0 n_4485 n_4486 n_4487 n_4488
                let n_4510 : Int32 := w_4514.1
                let n_4511 : Int32 := w_4514.2
                (F_r_house_L45a g_tape n_1 n_2 n_3 n9) n_4493 g_822 n_4510 n_4511 n_4487 n_4488 n_4489 n_4490 n_4491 n_4492 v_831 v_832 v_833 n_4494 n_4495) else
              (
                let w_4524 := F_r_must_1 n_3 n_4485 n_4487 n_4488 n_4489 n_4490 n_4491 n_4492 g_tape
                let n_4516 : Int32 := w_4524.1
                let n_4517 : Int32 := w_4524.2.1
                let n_4518 : Int32 := w_4524.2.2.1
                let n_4519 : Int32 := w_4524.2.2.2.1
                let n_4520 : Int32 := w_4524.2.2.2.2.1
                let n_4521 : Int64 := w_4524.2.2.2.2.2
                (F_r_house_L45a g_tape n_1 n_2 n_3 n9) n_4493 g_822 n_4485 n_4486 n_4516 n_4517 n_4518 n_4519 n_4520 n_4521 v_831 v_832 v_833 n_4494 n_4495)) else (
              if r_4214 = 3 then (
                let w_4453 := F_r_readRing n_3 v_823 v_824 v_825 v_826 v_827 v_828 v_829 v_830 g_tape g_834 g_821 g_835
                let n_4440 : Int32 := w_4453.1
                let n_4441 : Int32 := w_4453.2.1
                let n_4442 : Int32 := w_4453.2.2.1
                let n_4443 : Int32 := w_4453.2.2.2.1
                let n_4444 : Int32 := w_4453.2.2.2.2.1
                let n_4445 : Int32 := w_4453.2.2.2.2.2.1
                let n_4446 : Int32 := w_4453.2.2.2.2.2.2.1
                let n_4447 : Int64 := w_4453.2.2.2.2.2.2.2.1
                let n_4448 : Nat → Int64 := w_4453.2.2.2.2.2.2.2.2.1
                let n_4449 : Nat → Int32 := w_4453.2.2.2.2.2.2.2.2.2.1
                let n_4450 : Nat → Int32 := w_4453.2.2.2.2.2.2.2.2.2.2
                let w_4462 := F_r_isSign n_4442 n_4445 59
                let r_4460 : Int32 := w_4462
                if r_4460 = 0 then (
                  let w_4469 := F_r_must_0 n_4440 n_4441 n_4442 n_4443
                  let n_4465 : Int32 := w_4469.1
                  let n_4466 : Int32 := w_4469.2
                  (F_r_house_L45a g_tape n_1 n_2 n_3 n9) n_4448 g_822 n_4465 n_4466 n_4442 n_4443 n_4444 n_4445 n_4446 n_4447 v_831 v_832 v_833 n_4449 n_4450) else
                (
                  let w_4479 := F_r_must_1 n_3 n_4440 n_4442 n_4443 n_4444 n_4445 n_4446 n_4447 g_tape
                  let n_4471 : Int32 := w_4479.1
                  let n_4472 : Int32 := w_4479.2.1
                  let n_4473 : Int32 := w_4479.2.2.1
                  let n_4474 : Int32 := w_4479.2.2.2.1
                  let n_4475 : Int32 := w_4479.2.2.2.2.1
                  let n_4476 : Int64 := w_4479.2.2.2.2.2
                  (F_r_house_L45a g_tape n_1 n_2 n_3 n9) n_4448 g_822 n_4440 n_4441 n_4471 n_4472 n_4473 n_4474 n_4475 n_4476 v_831 v_832 v_833 n_4449 n_4450)) else (
                if r_4214 = 4 then (
                  let w_4408 := F_r_readDoor n_3 v_823 v_824 v_825 v_826 v_827 v_828 v_829 v_830 g_tape g_834 g_821
                  let n_4396 : Int32 := w_4408.1
                  let n_4397 : Int32 := w_4408.2.1
                  let n_4398 : Int32 := w_4408.2.2.1
                  let n_4399 : Int32 := w_4408.2.2.2.1
                  let n_4400 : Int32 := w_4408.2.2.2.2.1
                  let n_4401 : Int32 := w_4408.2.2.2.2.2.1
                  let n_4402 : Int32 := w_4408.2.2.2.2.2.2.1
                  let n_4403 : Int64 := w_4408.2.2.2.2.2.2.2.1
                  let n_4404 : Nat → Int64 := w_4408.2.2.2.2.2.2.2.2.1
                  let n_4405 : Nat → Int32 := w_4408.2.2.2.2.2.2.2.2.2
                  let w_4417 := F_r_isSign n_4398 n_4401 59
                  let r_4415 : Int32 := w_4417
                  if r_4415 = 0 then (
                    let w_4424 := F_r_must_0 n_4396 n_4397 n_4398 n_4399
                    let n_4420 : Int32 := w_4424.1
                    let n_4421 : Int32 := w_4424.2
                    (F_r_house_L45a g_tape n_1 n_2 n_3 n9) n_4404 g_822 n_4420 n_4421 n_4398 n_4399 n_4400 n_4401 n_4402 n_4403 v_831 v_832 v_833 n_4405 g_835) else
                  (
                    let w_4434 := F_r_must_1 n_3 n_4396 n_4398 n_4399 n_4400 n_4401 n_4402 n_4403 g_tape
                    let n_4426 : Int32 := w_4434.1
                    let n_4427 : Int32 := w_4434.2.1
                    let n_4428 : Int32 := w_4434.2.2.1
                    let n_4429 : Int32 := w_4434.2.2.2.1
                    let n_4430 : Int32 := w_4434.2.2.2.2.1
                    let n_4431 : Int64 := w_4434.2.2.2.2.2
                    (F_r_house_L45a g_tape n_1 n_2 n_3 n9) n_4404 g_822 n_4396 n_4397 n_4426 n_4427 n_4428 n_4429 n_4430 n_4431 v_831 v_832 v_833 n_4405 g_835)) else (
                  if r_4214 = 5 then (
                    let w_4364 := F_r_readSeconds n_3 v_823 v_824 v_825 v_826 v_827 v_828 v_829 v_830 v_831 g_tape g_834
                    let n_4352 : Int32 := w_4364.1
                    let n_4353 : Int32 := w_4364.2.1
                    let n_4354 : Int32 := w_4364.2.2.1
                    let n_4355 : Int32 := w_4364.2.2.2.1
                    let n_4356 : Int32 := w_4364.2.2.2.2.1
                    let n_4357 : Int32 := w_4364.2.2.2.2.2.1
                    let n_4358 : Int32 := w_4364.2.2.2.2.2.2.1
                    let n_4359 : Int64 := w_4364.2.2.2.2.2.2.2.1
                    let n_4360 : Int32 := w_4364.2.2.2.2.2.2.2.2.1
                    let n_4361 : Nat → Int32 := w_4364.2.2.2.2.2.2.2.2.2
                    let w_4373 := F_r_isSign n_4354 n_4357 59
                    let r_4371 : Int32 := w_4373
                    if r_4371 = 0 then (
                      let w_4380 := F_r_must_0 n_4352 n_4353 n_4354 n_4355
                      let n_4376 : Int32 := w_4380.1
                      let n_4377 : Int32 := w_4380.2
                      (F_r_house_L45a g_tape n_1 n_2 n_3 n9) g_821 g_822 n_4376 n_4377 n_4354 n_4355 n_4356 n_4357 n_4358 n_4359 n_4360 v_832 v_833 n_4361 g_835) else
                    (
                      let w_4390 := F_r_must_1 n_3 n_4352 n_4354 n_4355 n_4356 n_4357 n_4358 n_4359 g_tape
                      let n_4382 : Int32 := w_4390.1
                      let n_4383 : Int32 := w_4390.2.1
                      let n_4384 : Int32 := w_4390.2.2.1
                      let n_4385 : Int32 := w_4390.2.2.2.1
                      let n_4386 : Int32 := w_4390.2.2.2.2.1
                      let n_4387 : Int64 := w_4390.2.2.2.2.2
                      (F_r_house_L45a g_tape n_1 n_2 n_3 n9) g_821 g_822 n_4352 n_4353 n_4382 n_4383 n_4384 n_4385 n_4386 n_4387 n_4360 v_832 v_833 n_4361 g_835)) else (
                    if r_4214 = 6 then (
                      let w_4320 := F_r_readTurned n_3 v_823 v_824 v_825 v_826 v_827 v_828 v_829 v_830 v_832 g_tape g_834
                      let n_4308 : Int32 := w_4320.1
                      let n_4309 : Int32 := w_4320.2.1
                      let n_4310 : Int32 := w_4320.2.2.1
                      let n_4311 : Int32 := w_4320.2.2.2.1
                      let n_4312 : Int32 := w_4320.2.2.2.2.1
                      let n_4313 : Int32 := w_4320.2.2.2.2.2.1
                      let n_4314 : Int32 := w_4320.2.2.2.2.2.2.1
                      let n_4315 : Int64 := w_4320.2.2.2.2.2.2.2.1
                      let n_4316 : Int32 := w_4320.2.2.2.2.2.2.2.2.1
                      let n_4317 : Nat → Int32 := w_4320.2.2.2.2.2.2.2.2.2
                      let w_4329 := F_r_isSign n_4310 n_4313 59
                      let r_4327 : Int32 := w_4329
                      if r_4327 = 0 then (
                        let w_4336 := F_r_must_0 n_4308 n_4309 n_4310 n_4311
                        let n_4332 : Int32 := w_4336.1
                        let n_4333 : Int32 := w_4336.2
                        (F_r_house_L45a g_tape n_1 n_2 n_3 n9) g_821 g_822 n_4332 n_4333 n_4310 n_4311 n_4312 n_4313 n_4314 n_4315 v_831 n_4316 v_833 n_4317 g_835) else
                      (
                        let w_4346 := F_r_must_1 n_3 n_4308 n_4310 n_4311 n_4312 n_4313 n_4314 n_4315 g_tape
                        let n_4338 : Int32 := w_4346.1
                        let n_4339 : Int32 := w_4346.2.1
                        let n_4340 : Int32 := w_4346.2.2.1
                        let n_4341 : Int32 := w_4346.2.2.2.1
                        let n_4342 : Int32 := w_4346.2.2.2.2.1
                        let n_4343 : Int64 := w_4346.2.2.2.2.2
                        (F_r_house_L45a g_tape n_1 n_2 n_3 n9) g_821 g_822 n_4308 n_4309 n_4338 n_4339 n_4340 n_4341 n_4342 n_4343 v_831 n_4316 v_833 n_4317 g_835)) else (
                      if r_4214 = 7 then (
                        let w_4276 := F_r_readRound n_3 v_823 v_824 v_825 v_826 v_827 v_828 v_829 v_830 v_833 g_tape g_834 g_821
                        let n_4264 : Int32 := w_4276.1
                        let n_4265 : Int32 := w_4276.2.1
                        let n_4266 : Int32 := w_4276.2.2.1
                        let n_4267 : Int32 := w_4276.2.2.2.1
                        let n_4268 : Int32 := w_4276.2.2.2.2.1
                        let n_4269 : Int32 := w_4276.2.2.2.2.2.1
                        let n_4270 : Int32 := w_4276.2.2.2.2.2.2.1
                        let n_4271 : Int64 := w_4276.2.2.2.2.2.2.2.1
                        let n_4272 : Int32 := w_4276.2.2.2.2.2.2.2.2.1
                        let n_4273 : Nat → Int32 := w_4276.2.2.2.2.2.2.2.2.2
                        let w_4285 := F_r_isSign n_4266 n_4269 59
                        let r_4283 : Int32 := w_4285
                        if r_4283 = 0 then (
                          let w_4292 := F_r_must_0 n_4264 n_4265 n_4266 n_4267
                          let n_4288 : Int32 := w_4292.1
                          let n_4289 : Int32 := w_4292.2
                          (F_r_house_L45a g_tape n_1 n_2 n_3 n9) g_821 g_822 n_4288 n_4289 n_4266 n_4267 n_4268 n_4269 n_4270 n_4271 v_831 v_832 n_4272 n_4273 g_835) else
                        (
                          let w_4302 := F_r_must_1 n_3 n_4264 n_4266 n_4267 n_4268 n_4269 n_4270 n_4271 g_tape
                          let n_4294 : Int32 := w_4302.1
                          let n_4295 : Int32 := w_4302.2.1
                          let n_4296 : Int32 := w_4302.2.2.1
                          let n_4297 : Int32 := w_4302.2.2.2.1
                          let n_4298 : Int32 := w_4302.2.2.2.2.1
                          let n_4299 : Int64 := w_4302.2.2.2.2.2
                          (F_r_house_L45a g_tape n_1 n_2 n_3 n9) g_821 g_822 n_4264 n_4265 n_4294 n_4295 n_4296 n_4297 n_4298 n_4299 v_831 v_832 n_4272 n_4273 g_835)) else (
                        let w_4238 := F_r_wrong v_823 v_824 v_825 v_826
                        let n_4234 : Int32 := w_4238.1
                        let n_4235 : Int32 := w_4238.2
                        let w_4241 := F_r_isSign v_825 v_828 59
                        let r_4239 : Int32 := w_4241
                        if r_4239 = 0 then (
                          let w_4248 := F_r_must_0 n_4234 n_4235 v_825 v_826
                          let n_4244 : Int32 := w_4248.1
                          let n_4245 : Int32 := w_4248.2
                          (F_r_house_L45a g_tape n_1 n_2 n_3 n9) g_821 g_822 n_4244 n_4245 v_825 v_826 v_827 v_828 v_829 v_830 v_831 v_832 v_833 g_834 g_835) else
                        (
                          let w_4258 := F_r_must_1 n_3 n_4234 v_825 v_826 v_827 v_828 v_829 v_830 g_tape
                          let n_4250 : Int32 := w_4258.1
                          let n_4251 : Int32 := w_4258.2.1
                          let n_4252 : Int32 := w_4258.2.2.1
                          let n_4253 : Int32 := w_4258.2.2.2.1
                          let n_4254 : Int32 := w_4258.2.2.2.2.1
                          let n_4255 : Int64 := w_4258.2.2.2.2.2
                          (F_r_house_L45a g_tape n_1 n_2 n_3 n9) g_821 g_822 n_4234 n_4235 n_4250 n_4251 n_4252 n_4253 n_4254 n_4255 v_831 v_832 v_833 g_834 g_835))))))))))) else (
      let w_2919 := F_r_isWell n_1 v_823 v_824
      let r_2917 : Int32 := w_2919.1
      let n_2914 : Int32 := w_2919.2.1
      let n_2915 : Int32 := w_2919.2.2.1
      let n_2916 : Int32 := w_2919.2.2.2
      if r_2917 = 0 then (
        ((-1 : Int32), n_2914, (0 : Int32), n_2, n_3, v_823, v_825, v_826, v_827, v_828, v_829, v_830, n_2915, n_2916, v_824, v_831, v_832, v_833, g_834, g_821, g_822, g_835)) else
      (
        F_r_house_L189a n_2 n_3 g_821 g_822 v_823 v_824 v_825 v_826 v_827 v_828 v_829 v_830 v_831 v_832 v_833 g_835 n_2914 n_2915 n_2916 ((2147483647 - (0 : Int32).toInt).toNat + 1) (0 : Int32) g_834))) := rfl
noncomputable def F_r_house (m_taped : Int32) (m_textEnd : Int32) (m_faultKind : Int32) (m_faultAt : Int32) (m_bad : Int32) (m_badAt : Int32) (m_token : Int32) (m_at : Int32) (m_behind : Int32) (m_number : Int32) (m_letters : Int32) (m_word : Int64) (m_hasSeconds : Int32) (m_hasTurned : Int32) (m_hasRound : Int32) (g_tape : Nat → Int32) (g_c : Nat → Int32) (g_words : Nat → Int64) (g_hasFeels : Nat → Int32) (g_isOn : Nat → Int32) (nn : Int32) : Int32 × Int32 × Int32 × Int32 × Int32 × Int32 × Int32 × Int32 × Int32 × Int32 × Int32 × Int64 × Int32 × Int32 × Int32 × Int32 × Int32 × Int32 × (Nat → Int32) × (Nat → Int64) × (Nat → Int32) × (Nat → Int32) :=
  let w_13 := F_r_begins 0 m_taped m_textEnd m_bad m_token m_at m_behind m_number m_letters m_word g_tape nn 900
  let r_11 : Int32 := w_13.1
  let n_1 : Int32 := w_13.2.1
  let n_2 : Int32 := w_13.2.2.1
  let n_3 : Int32 := w_13.2.2.2.1
  let n_4 : Int32 := w_13.2.2.2.2.1
  let n_5 : Int32 := w_13.2.2.2.2.2.1
  let n_6 : Int32 := w_13.2.2.2.2.2.2.1
  let n_7 : Int32 := w_13.2.2.2.2.2.2.2.1
  let n_8 : Int32 := w_13.2.2.2.2.2.2.2.2.1
  let n_9 : Int32 := w_13.2.2.2.2.2.2.2.2.2.1
  let n_10 : Int64 := w_13.2.2.2.2.2.2.2.2.2.2
  if r_11 = 0 then (
    ((-1 : Int32), n_1, (0 : Int32), n_2, n_3, n_4, n_5, n_6, n_7, n_8, n_9, n_10, m_faultKind, m_faultAt, m_badAt, m_hasSeconds, m_hasTurned, m_hasRound, g_c, g_words, g_hasFeels, g_isOn)) else
  (
    let w_18 := F_r_empty_1460 g_c
    let n_15 : Nat → Int32 := w_18
    F_r_house_L45a g_tape n_1 n_2 n_3 ((4600 - 5 * n_7.toInt + n_5.toInt - 5 * n_4.toInt).toNat + 1) g_words g_hasFeels n_4 m_badAt n_5 n_6 n_7 n_8 n_9 n_10 (0 : Int32) (0 : Int32) (0 : Int32) n_15 g_isOn)
theorem F_r_house_s (m_taped : Int32) (m_textEnd : Int32) (m_faultKind : Int32) (m_faultAt : Int32) (m_bad : Int32) (m_badAt : Int32) (m_token : Int32) (m_at : Int32) (m_behind : Int32) (m_number : Int32) (m_letters : Int32) (m_word : Int64) (m_hasSeconds : Int32) (m_hasTurned : Int32) (m_hasRound : Int32) (g_tape : Nat → Int32) (g_c : Nat → Int32) (g_words : Nat → Int64) (g_hasFeels : Nat → Int32) (g_isOn : Nat → Int32) (nn : Int32) : F_r_house m_taped m_textEnd m_faultKind m_faultAt m_bad m_badAt m_token m_at m_behind m_number m_letters m_word m_hasSeconds m_hasTurned m_hasRound g_tape g_c g_words g_hasFeels g_isOn nn = (
  let w_13 := F_r_begins 0 m_taped m_textEnd m_bad m_token m_at m_behind m_number m_letters m_word g_tape nn 900
  let r_11 : Int32 := w_13.1
  let n_1 : Int32 := w_13.2.1
  let n_2 : Int32 := w_13.2.2.1
  let n_3 : Int32 := w_13.2.2.2.1
  let n_4 : Int32 := w_13.2.2.2.2.1
  let n_5 : Int32 := w_13.2.2.2.2.2.1
  let n_6 : Int32 := w_13.2.2.2.2.2.2.1
  let n_7 : Int32 := w_13.2.2.2.2.2.2.2.1
  let n_8 : Int32 := w_13.2.2.2.2.2.2.2.2.1
  let n_9 : Int32 := w_13.2.2.2.2.2.2.2.2.2.1
  let n_10 : Int64 := w_13.2.2.2.2.2.2.2.2.2.2
  if r_11 = 0 then (
    ((-1 : Int32), n_1, (0 : Int32), n_2, n_3, n_4, n_5, n_6, n_7, n_8, n_9, n_10, m_faultKind, m_faultAt, m_badAt, m_hasSeconds, m_hasTurned, m_hasRound, g_c, g_words, g_hasFeels, g_isOn)) else
  (
    let w_18 := F_r_empty_1460 g_c
    let n_15 : Nat → Int32 := w_18
    F_r_house_L45a g_tape n_1 n_2 n_3 ((4600 - 5 * n_7.toInt + n_5.toInt - 5 * n_4.toInt).toNat + 1) g_words g_hasFeels n_4 m_badAt n_5 n_6 n_7 n_8 n_9 n_10 (0 : Int32) (0 : Int32) (0 : Int32) n_15 g_isOn)) := rfl
