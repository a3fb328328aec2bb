def fX8_clear (v0 : Nat) (h : Hp) : Option (Int32 × Hp) :=
  (xgR h v0 (8, 12) 8).bind fun x1 => (xgI h x1 (4, 8) 1).bind fun x2 => (xgR h v0 (8, 12) 8).bind fun x3 => (xpI h x3 (4, 8) 1 0).bind fun h4 => some (x2, h4)
abbrev iX8_clear : xI := (cX8_clear, yX8_clear.cls, yX8_clear.name, some .int, 2, 2)
set_option maxHeartbeats 4000000 in
set_option maxRecDepth 100000 in
theorem kX8_clear (l : Launch) (η : xEnv) (v0 : Nat) (h : Hp) (x : Int32 × Hp) (hx : fX8_clear v0 h = some x) : xC l η yX8_clear cX8_clear 2 (some .int) 2 [.ref v0] h (some (.int x.1)) x.2 := by
  refine xC_of (by decide) (Nat.le_of_ble_eq_true rfl) hx (fun κ x => κ.2.2.2.1 = some (.int x.1) ∧ κ.2.2.2.2 = x.2) ⟨rfl, rfl⟩ (fun κ => ?_)
  show xJ iX8_clear κ _ 0 [(0, .ref v0)] [] h (fX8_clear v0 h)
  unfold fX8_clear
  refine j_aload_n 0 dX8_clear_0 rfl rfl ?_
  refine j_getR 8 12 8 dX8_clear_1 fl_RX8_62 (by decide) rfl (by decide) (fun _ _ _ => rfl) (fun x1 => ?_)
  refine j_getI 4 8 1 dX8_clear_4 fl_RX8_113 (by decide) rfl (by decide) rfl (fun x2 => ?_)
  refine j_istore_n (L' := [(1, .int x2), (0, .ref v0)]) dX8_clear_7 rfl (Nat.le_of_ble_eq_true rfl) rfl ?_
  refine j_aload_n 1 dX8_clear_8 rfl rfl ?_
  refine j_getR 8 12 8 dX8_clear_9 fl_RX8_62 (by decide) rfl (by decide) (fun _ _ _ => rfl) (fun x3 => ?_)
  refine j_iconst (x := 0) dX8_clear_12 (by decide) ?_
  refine j_putI 4 8 1 dX8_clear_13 fl_RX8_113 (by decide) rfl (by decide) rfl rfl (fun h4 => ?_)
  refine j_iload_n 0 dX8_clear_16 rfl rfl ?_
  exact j_iret (x2, h4) dX8_clear_17 rfl (fun q => q)
def fX9_clear (v0 : Nat) (h : Hp) : Option (Int32 × Hp) :=
  (xgI h v0 (9, 18) 11).bind fun x1 => (xpI h v0 (9, 18) 11 0).bind fun h2 => some (x1, h2)
abbrev iX9_clear : xI := (cX9_clear, yX9_clear.cls, yX9_clear.name, some .int, 2, 2)
set_option maxHeartbeats 4000000 in
set_option maxRecDepth 100000 in
theorem kX9_clear (l : Launch) (η : xEnv) (v0 : Nat) (h : Hp) (x : Int32 × Hp) (hx : fX9_clear v0 h = some x) : xC l η yX9_clear cX9_clear 2 (some .int) 2 [.ref v0] h (some (.int x.1)) x.2 := by
  refine xC_of (by decide) (Nat.le_of_ble_eq_true rfl) hx (fun κ x => κ.2.2.2.1 = some (.int x.1) ∧ κ.2.2.2.2 = x.2) ⟨rfl, rfl⟩ (fun κ => ?_)
  show xJ iX9_clear κ _ 0 [(0, .ref v0)] [] h (fX9_clear v0 h)
  unfold fX9_clear
  refine j_aload_n 0 dX9_clear_0 rfl rfl ?_
  refine j_getI 9 18 11 dX9_clear_1 fl_RX9_191 (by decide) rfl (by decide) rfl (fun x1 => ?_)
  refine j_istore_n (L' := [(1, .int x1), (0, .ref v0)]) dX9_clear_4 rfl (Nat.le_of_ble_eq_true rfl) rfl ?_
  refine j_aload_n 1 dX9_clear_5 rfl rfl ?_
  refine j_iconst (x := 0) dX9_clear_6 (by decide) ?_
  refine j_putI 9 18 11 dX9_clear_7 fl_RX9_191 (by decide) rfl (by decide) rfl rfl (fun h2 => ?_)
  refine j_iload_n 0 dX9_clear_10 rfl rfl ?_
  exact j_iret (x1, h2) dX9_clear_11 rfl (fun q => q)
def fX4_byteAt_j22 (t0 : Int32) (h : Hp) : Option (Int32) :=
  some t0
def fX4_byteAt_j21  (h : Hp) : Option (Int32) :=
  fX4_byteAt_j22 (-1) h
def fX4_byteAt (v0 : Nat) (v1 : Int32) (h : Hp) : Option (Int32) :=
  if (v1 : Int32) < 0 then (fX4_byteAt_j21 h) else ((xgI h v0 (4, 8) 1).bind fun x2 => if (x2 : Int32) ≤ v1 then (fX4_byteAt_j21 h) else ((xgR h v0 (4, 8) 0).bind fun x4 => (xaI h x4 10 v1).bind fun x5 => fX4_byteAt_j22 x5 h))
abbrev iX4_byteAt : xI := (cX4_byteAt, yX4_byteAt.cls, yX4_byteAt.name, some .int, 2, 2)
set_option maxHeartbeats 4000000 in
set_option maxRecDepth 100000 in
theorem kX4_byteAt (l : Launch) (η : xEnv) (v0 : Nat) (v1 : Int32) (h : Hp) (x : Int32) (hx : fX4_byteAt v0 v1 h = some x) : xC l η yX4_byteAt cX4_byteAt 2 (some .int) 2 [.ref v0, .int v1] h (some (.int x)) h := by
  refine xC_of (by decide) (Nat.le_of_ble_eq_true rfl) hx (fun κ x => κ.2.2.2.1 = some (.int x) ∧ κ.2.2.2.2 = h) ⟨rfl, rfl⟩ (fun κ => ?_)
  show xJ iX4_byteAt κ _ 0 [(0, .ref v0), (1, .int v1)] [] h (fX4_byteAt v0 v1 h)
  unfold fX4_byteAt
  refine j_have (pj := 22) (Lf := fun v : Int32 => []) (Sf := fun v : Int32 => [.int v]) (Hf := fun v : Int32 => h) (jf := fun v : Int32 => fX4_byteAt_j22 v h) (fun v => ?_) (fun hj22 => ?_)
  · generalize v = t0
    show xJ iX4_byteAt κ _ 22 [] [.int t0] h (fX4_byteAt_j22 t0 h)
    unfold fX4_byteAt_j22
    exact j_iret t0 dX4_byteAt_22 rfl (fun q => q)
  refine j_have (pj := 21) (Lf := fun v : Unit => []) (Sf := fun v : Unit => []) (Hf := fun v : Unit => h) (jf := fun v : Unit => fX4_byteAt_j21 h) (fun v => ?_) (fun hj21 => ?_)
  · skip
    show xJ iX4_byteAt κ _ 21 [] [] h (fX4_byteAt_j21 h)
    unfold fX4_byteAt_j21
    refine j_iconst (x := (-1)) dX4_byteAt_21 (by decide) ?_
    refine j_pick [] rfl ?_
    exact hj22 (-1)
  refine j_iload_n 1 dX4_byteAt_0 rfl rfl ?_
  refine j_if_lt (tgt := 21) dX4_byteAt_1 (by decide) (fun c1 => ?_) (fun c1 => ?_)
  · refine j_pick [] rfl ?_
    exact hj21 ()
  · refine j_iload_n 1 dX4_byteAt_4 rfl rfl ?_
    refine j_aload_n 0 dX4_byteAt_5 rfl rfl ?_
    refine j_getI 4 8 1 dX4_byteAt_6 fl_RX4_22 (by decide) rfl (by decide) rfl (fun x2 => ?_)
    refine j_icmp_ge (tgt := 21) dX4_byteAt_9 (by decide) (fun c3 => ?_) (fun c3 => ?_)
    · refine j_pick [] rfl ?_
      exact hj21 ()
    · refine j_aload_n 0 dX4_byteAt_12 rfl rfl ?_
      refine j_getR 4 8 0 dX4_byteAt_13 fl_RX4_9 (by decide) rfl (by decide) (fun _ _ _ => rfl) (fun x4 => ?_)
      refine j_iload_n 1 dX4_byteAt_16 rfl rfl ?_
      refine j_iald dX4_byteAt_17 (fun x5 => ?_)
      refine j_goto (tgt := 22) dX4_byteAt_18 (by decide) ?_
      refine j_pick [] rfl ?_
      exact hj22 x5
def fX4_endOfBlanks_b2 (v0 : Nat) (h : Hp) (s2 : Int32) : Option ((Int32) ⊕ ((Int32) ⊕ (Nat))) :=
  (xgI h v0 (4, 8) 1).bind fun x1 => if (x1 : Int32) ≤ s2 then (some (Sum.inr (Sum.inr v0))) else ((xat h v0 (4, 8) (fX4_byteAt v0 s2 h)).bind fun x4 => if (x4 : Int32) = 32 then (some (Sum.inl (s2 + 1))) else (some (Sum.inr (Sum.inl s2))))
def fX4_endOfBlanks (v0 : Nat) (v1 : Int32) (h : Hp) : Option (Int32) :=
  (xloop (fX4_endOfBlanks_b2 v0 h) 1000000 v1).bind (fun q => match q with | .inl r2 => (some r2) | .inr r2 => ((xgI h r2 (4, 8) 1).bind fun x6 => some x6))
abbrev iX4_endOfBlanks : xI := (cX4_endOfBlanks, yX4_endOfBlanks.cls, yX4_endOfBlanks.name, some .int, 3, 3)
set_option maxHeartbeats 4000000 in
set_option maxRecDepth 100000 in
theorem kX4_endOfBlanks (l : Launch) (η : xEnv) (v0 : Nat) (v1 : Int32) (h : Hp) (x : Int32) (hx : fX4_endOfBlanks v0 v1 h = some x) : xC l η yX4_endOfBlanks cX4_endOfBlanks 3 (some .int) 3 [.ref v0, .int v1] h (some (.int x)) h := by
  refine xC_of (by decide) (Nat.le_of_ble_eq_true rfl) hx (fun κ x => κ.2.2.2.1 = some (.int x) ∧ κ.2.2.2.2 = h) ⟨rfl, rfl⟩ (fun κ => ?_)
  show xJ iX4_endOfBlanks κ _ 0 [(0, .ref v0), (1, .int v1)] [] h (fX4_endOfBlanks v0 v1 h)
  unfold fX4_endOfBlanks
  refine j_iload_n 1 dX4_endOfBlanks_0 rfl rfl ?_
  refine j_istore_n (L' := [(2, .int v1), (0, .ref v0), (1, .int v1)]) dX4_endOfBlanks_1 rfl (Nat.le_of_ble_eq_true rfl) rfl ?_
  refine j_pick [1, 0] rfl ?_
  refine j_loop (pc := 2) (Lf := fun s2 : Int32 => [(0, .ref v0), (2, .int s2)]) (Hf := fun s2 : Int32 => h) (fun s2 => ?_) 1000000 v1
  show xJ iX4_endOfBlanks κ _ 2 [(0, .ref v0), (2, .int s2)] [] h (fX4_endOfBlanks_b2 v0 h s2)
  unfold fX4_endOfBlanks_b2
  refine j_iload_n 1 dX4_endOfBlanks_2 rfl rfl ?_
  refine j_aload_n 0 dX4_endOfBlanks_3 rfl rfl ?_
  refine j_getI 4 8 1 dX4_endOfBlanks_4 fl_RX4_22 (by decide) rfl (by decide) rfl (fun x1 => ?_)
  refine j_icmp_ge (tgt := 28) dX4_endOfBlanks_7 (by decide) (fun c2 => ?_) (fun c2 => ?_)
  · refine j_exit (Sum.inr v0) ?_
    try dsimp only
    refine j_aload_n 0 dX4_endOfBlanks_28 rfl rfl ?_
    refine j_getI 4 8 1 dX4_endOfBlanks_29 fl_RX4_22 (by decide) rfl (by decide) rfl (fun x3 => ?_)
    exact j_iret x3 dX4_endOfBlanks_32 rfl (fun q => q)
  · refine j_aload_n 0 dX4_endOfBlanks_10 rfl rfl ?_
    refine j_iload_n 1 dX4_endOfBlanks_11 rfl rfl ?_
    refine j_callV (as := [.int s2]) (fun x => some (.int x)) (fun _ => h) 4 8 dX4_endOfBlanks_12 ml_RX4_108 tg_X4_byteAt im_X4_byteAt se_X4_byteAt rfl (by decide) (fun x hx => kX4_byteAt κ.1 κ.2.1 v0 s2 h x hx) (by decide) (by decide) rfl rfl (Nat.le_of_ble_eq_true rfl) (fun x4 => ?_)
    show xJ iX4_endOfBlanks κ _ 15 [(0, .ref v0), (2, .int s2)] [.int x4] h _
    refine j_bipush (x := 32) dX4_endOfBlanks_15 (by decide) ?_
    refine j_icmp_eq (tgt := 22) dX4_endOfBlanks_17 (by decide) (fun c5 => ?_) (fun c5 => ?_)
    · refine j_iinc (y := s2 + 1) (L' := [(2, .int (s2 + 1)), (0, .ref v0)]) 1 dX4_endOfBlanks_22 rfl rfl (Nat.le_of_ble_eq_true rfl) rfl ?_
      refine j_goto (tgt := 2) dX4_endOfBlanks_25 (by decide) ?_
      refine j_pick [1, 0] rfl ?_
      exact j_again (s2 + 1) rfl rfl
    · refine j_exit (Sum.inl s2) ?_
      try dsimp only
      refine j_iload_n 1 dX4_endOfBlanks_20 rfl rfl ?_
      exact j_iret s2 dX4_endOfBlanks_21 rfl (fun q => q)
def fX4_isLetter (v0 : Int32) (h : Hp) : Option (Int32) :=
  (fX8_within v0 97 122 h).bind fun x1 => if vp_nar .boolean x1 = x1 then some x1 else none
abbrev iX4_isLetter : xI := (cX4_isLetter, yX4_isLetter.cls, yX4_isLetter.name, some .boolean, 1, 3)
set_option maxHeartbeats 4000000 in
set_option maxRecDepth 100000 in
theorem kX4_isLetter (l : Launch) (η : xEnv) (v0 : Int32) (h : Hp) (x : Int32) (hx : fX4_isLetter v0 h = some x) : xC l η yX4_isLetter cX4_isLetter 1 (some .boolean) 3 [.int v0] h (some (.int x)) h := by
  refine xC_of (by decide) (Nat.le_of_ble_eq_true rfl) hx (fun κ x => κ.2.2.2.1 = some (.int x) ∧ κ.2.2.2.2 = h) ⟨rfl, rfl⟩ (fun κ => ?_)
  show xJ iX4_isLetter κ _ 0 [(0, .int v0)] [] h (fX4_isLetter v0 h)
  unfold fX4_isLetter
  refine j_iload_n 0 dX4_isLetter_0 rfl rfl ?_
  refine j_bipush (x := 97) dX4_isLetter_1 (by decide) ?_
  refine j_bipush (x := 122) dX4_isLetter_3 (by decide) ?_
  refine j_callSN (as := [.int v0, .int 97, .int 122]) (fun x => some (.int x)) (fun _ => h) dX4_isLetter_5 nl_RX4_82 tg_X8_within st_X8_within (fun x hx => kX8_within κ.1 κ.2.1 v0 97 122 h x hx) (by decide) (by decide) rfl rfl (Nat.le_of_ble_eq_true rfl) (fun x1 => ?_)
  show xJ iX4_isLetter κ _ 8 [(0, .int v0)] [.int x1] h _
  exact j_zretc x1 dX4_isLetter_8 rfl (fun q => q)
def fX4_endOfLetters_b2 (v0 : Nat) (h : Hp) (s2 : Int32) : Option ((Int32) ⊕ ((Int32) ⊕ (Nat))) :=
  (xgI h v0 (4, 8) 1).bind fun x1 => if (x1 : Int32) ≤ s2 then (some (Sum.inr (Sum.inr v0))) else ((xat h v0 (4, 8) (fX4_byteAt v0 s2 h)).bind fun x4 => (fX4_isLetter x4 h).bind fun x5 => if (x5 : Int32) = 0 then (some (Sum.inr (Sum.inl s2))) else (some (Sum.inl (s2 + 1))))
def fX4_endOfLetters (v0 : Nat) (v1 : Int32) (h : Hp) : Option (Int32) :=
  (xloop (fX4_endOfLetters_b2 v0 h) 1000000 v1).bind (fun q => match q with | .inl r2 => (some r2) | .inr r2 => ((xgI h r2 (4, 8) 1).bind fun x7 => some x7))
abbrev iX4_endOfLetters : xI := (cX4_endOfLetters, yX4_endOfLetters.cls, yX4_endOfLetters.name, some .int, 3, 4)
set_option maxHeartbeats 4000000 in
set_option maxRecDepth 100000 in
theorem kX4_endOfLetters (l : Launch) (η : xEnv) (v0 : Nat) (v1 : Int32) (h : Hp) (x : Int32) (hx : fX4_endOfLetters v0 v1 h = some x) : xC l η yX4_endOfLetters cX4_endOfLetters 3 (some .int) 4 [.ref v0, .int v1] h (some (.int x)) h := by
  refine xC_of (by decide) (Nat.le_of_ble_eq_true rfl) hx (fun κ x => κ.2.2.2.1 = some (.int x) ∧ κ.2.2.2.2 = h) ⟨rfl, rfl⟩ (fun κ => ?_)
  show xJ iX4_endOfLetters κ _ 0 [(0, .ref v0), (1, .int v1)] [] h (fX4_endOfLetters v0 v1 h)
  unfold fX4_endOfLetters
  refine j_iload_n 1 dX4_endOfLetters_0 rfl rfl ?_
  refine j_istore_n (L' := [(2, .int v1), (0, .ref v0), (1, .int v1)]) dX4_endOfLetters_1 rfl (Nat.le_of_ble_eq_true rfl) rfl ?_
  refine j_pick [1, 0] rfl ?_
  refine j_loop (pc := 2) (Lf := fun s2 : Int32 => [(0, .ref v0), (2, .int s2)]) (Hf := fun s2 : Int32 => h) (fun s2 => ?_) 1000000 v1
  show xJ iX4_endOfLetters κ _ 2 [(0, .ref v0), (2, .int s2)] [] h (fX4_endOfLetters_b2 v0 h s2)
  unfold fX4_endOfLetters_b2
  refine j_iload_n 1 dX4_endOfLetters_2 rfl rfl ?_
  refine j_aload_n 0 dX4_endOfLetters_3 rfl rfl ?_
  refine j_getI 4 8 1 dX4_endOfLetters_4 fl_RX4_22 (by decide) rfl (by decide) rfl (fun x1 => ?_)
  refine j_icmp_ge (tgt := 29) dX4_endOfLetters_7 (by decide) (fun c2 => ?_) (fun c2 => ?_)
  · refine j_exit (Sum.inr v0) ?_
    try dsimp only
    refine j_aload_n 0 dX4_endOfLetters_29 rfl rfl ?_
    refine j_getI 4 8 1 dX4_endOfLetters_30 fl_RX4_22 (by decide) rfl (by decide) rfl (fun x3 => ?_)
    exact j_iret x3 dX4_endOfLetters_33 rfl (fun q => q)
  · refine j_aload_n 0 dX4_endOfLetters_10 rfl rfl ?_
    refine j_iload_n 1 dX4_endOfLetters_11 rfl rfl ?_
    refine j_callV (as := [.int s2]) (fun x => some (.int x)) (fun _ => h) 4 8 dX4_endOfLetters_12 ml_RX4_108 tg_X4_byteAt im_X4_byteAt se_X4_byteAt rfl (by decide) (fun x hx => kX4_byteAt κ.1 κ.2.1 v0 s2 h x hx) (by decide) (by decide) rfl rfl (Nat.le_of_ble_eq_true rfl) (fun x4 => ?_)
    show xJ iX4_endOfLetters κ _ 15 [(0, .ref v0), (2, .int s2)] [.int x4] h _
    refine j_callS (as := [.int x4]) (fun x => some (.int x)) (fun _ => h) dX4_endOfLetters_15 ml_RX4_119 tg_X4_isLetter st_X4_isLetter (fun x hx => kX4_isLetter κ.1 κ.2.1 x4 h x hx) (by decide) (by decide) rfl rfl (Nat.le_of_ble_eq_true rfl) (fun x5 => ?_)
    show xJ iX4_endOfLetters κ _ 18 [(0, .ref v0), (2, .int s2)] [.int x5] h _
    refine j_if_ne (tgt := 23) dX4_endOfLetters_18 (by decide) (fun c6 => ?_) (fun c6 => ?_)
    · refine j_exit (Sum.inl s2) ?_
      try dsimp only
      refine j_iload_n 1 dX4_endOfLetters_21 rfl rfl ?_
      exact j_iret s2 dX4_endOfLetters_22 rfl (fun q => q)
    · refine j_iinc (y := s2 + 1) (L' := [(2, .int (s2 + 1)), (0, .ref v0)]) 1 dX4_endOfLetters_23 rfl rfl (Nat.le_of_ble_eq_true rfl) rfl ?_
      refine j_goto (tgt := 2) dX4_endOfLetters_26 (by decide) ?_
      refine j_pick [1, 0] rfl ?_
      exact j_again (s2 + 1) rfl rfl
def fX4_isFigure (v0 : Int32) (h : Hp) : Option (Int32) :=
  (fX8_within v0 48 57 h).bind fun x1 => if vp_nar .boolean x1 = x1 then some x1 else none
abbrev iX4_isFigure : xI := (cX4_isFigure, yX4_isFigure.cls, yX4_isFigure.name, some .boolean, 1, 3)
set_option maxHeartbeats 4000000 in
set_option maxRecDepth 100000 in
theorem kX4_isFigure (l : Launch) (η : xEnv) (v0 : Int32) (h : Hp) (x : Int32) (hx : fX4_isFigure v0 h = some x) : xC l η yX4_isFigure cX4_isFigure 1 (some .boolean) 3 [.int v0] h (some (.int x)) h := by
  refine xC_of (by decide) (Nat.le_of_ble_eq_true rfl) hx (fun κ x => κ.2.2.2.1 = some (.int x) ∧ κ.2.2.2.2 = h) ⟨rfl, rfl⟩ (fun κ => ?_)
  show xJ iX4_isFigure κ _ 0 [(0, .int v0)] [] h (fX4_isFigure v0 h)
  unfold fX4_isFigure
  refine j_iload_n 0 dX4_isFigure_0 rfl rfl ?_
  refine j_bipush (x := 48) dX4_isFigure_1 (by decide) ?_
  refine j_bipush (x := 57) dX4_isFigure_3 (by decide) ?_
  refine j_callSN (as := [.int v0, .int 48, .int 57]) (fun x => some (.int x)) (fun _ => h) dX4_isFigure_5 nl_RX4_82 tg_X8_within st_X8_within (fun x hx => kX8_within κ.1 κ.2.1 v0 48 57 h x hx) (by decide) (by decide) rfl rfl (Nat.le_of_ble_eq_true rfl) (fun x1 => ?_)
  show xJ iX4_isFigure κ _ 8 [(0, .int v0)] [.int x1] h _
  exact j_zretc x1 dX4_isFigure_8 rfl (fun q => q)
def fX4_endOfFigures_b2 (v0 : Nat) (h : Hp) (s2 : Int32) : Option ((Int32) ⊕ ((Int32) ⊕ (Nat))) :=
  (xgI h v0 (4, 8) 1).bind fun x1 => if (x1 : Int32) ≤ s2 then (some (Sum.inr (Sum.inr v0))) else ((xat h v0 (4, 8) (fX4_byteAt v0 s2 h)).bind fun x4 => (fX4_isFigure x4 h).bind fun x5 => if (x5 : Int32) = 0 then (some (Sum.inr (Sum.inl s2))) else (some (Sum.inl (s2 + 1))))
def fX4_endOfFigures (v0 : Nat) (v1 : Int32) (h : Hp) : Option (Int32) :=
  (xloop (fX4_endOfFigures_b2 v0 h) 1000000 v1).bind (fun q => match q with | .inl r2 => (some r2) | .inr r2 => ((xgI h r2 (4, 8) 1).bind fun x7 => some x7))
abbrev iX4_endOfFigures : xI := (cX4_endOfFigures, yX4_endOfFigures.cls, yX4_endOfFigures.name, some .int, 3, 4)
set_option maxHeartbeats 4000000 in
set_option maxRecDepth 100000 in
theorem kX4_endOfFigures (l : Launch) (η : xEnv) (v0 : Nat) (v1 : Int32) (h : Hp) (x : Int32) (hx : fX4_endOfFigures v0 v1 h = some x) : xC l η yX4_endOfFigures cX4_endOfFigures 3 (some .int) 4 [.ref v0, .int v1] h (some (.int x)) h := by
  refine xC_of (by decide) (Nat.le_of_ble_eq_true rfl) hx (fun κ x => κ.2.2.2.1 = some (.int x) ∧ κ.2.2.2.2 = h) ⟨rfl, rfl⟩ (fun κ => ?_)
  show xJ iX4_endOfFigures κ _ 0 [(0, .ref v0), (1, .int v1)] [] h (fX4_endOfFigures v0 v1 h)
  unfold fX4_endOfFigures
  refine j_iload_n 1 dX4_endOfFigures_0 rfl rfl ?_
  refine j_istore_n (L' := [(2, .int v1), (0, .ref v0), (1, .int v1)]) dX4_endOfFigures_1 rfl (Nat.le_of_ble_eq_true rfl) rfl ?_
  refine j_pick [1, 0] rfl ?_
  refine j_loop (pc := 2) (Lf := fun s2 : Int32 => [(0, .ref v0), (2, .int s2)]) (Hf := fun s2 : Int32 => h) (fun s2 => ?_) 1000000 v1
  show xJ iX4_endOfFigures κ _ 2 [(0, .ref v0), (2, .int s2)] [] h (fX4_endOfFigures_b2 v0 h s2)
  unfold fX4_endOfFigures_b2
  refine j_iload_n 1 dX4_endOfFigures_2 rfl rfl ?_
  refine j_aload_n 0 dX4_endOfFigures_3 rfl rfl ?_
  refine j_getI 4 8 1 dX4_endOfFigures_4 fl_RX4_22 (by decide) rfl (by decide) rfl (fun x1 => ?_)
  refine j_icmp_ge (tgt := 29) dX4_endOfFigures_7 (by decide) (fun c2 => ?_) (fun c2 => ?_)
  · refine j_exit (Sum.inr v0) ?_
    try dsimp only
    refine j_aload_n 0 dX4_endOfFigures_29 rfl rfl ?_
    refine j_getI 4 8 1 dX4_endOfFigures_30 fl_RX4_22 (by decide) rfl (by decide) rfl (fun x3 => ?_)
    exact j_iret x3 dX4_endOfFigures_33 rfl (fun q => q)
  · refine j_aload_n 0 dX4_endOfFigures_10 rfl rfl ?_
    refine j_iload_n 1 dX4_endOfFigures_11 rfl rfl ?_
    refine j_callV (as := [.int s2]) (fun x => some (.int x)) (fun _ => h) 4 8 dX4_endOfFigures_12 ml_RX4_108 tg_X4_byteAt im_X4_byteAt se_X4_byteAt rfl (by decide) (fun x hx => kX4_byteAt κ.1 κ.2.1 v0 s2 h x hx) (by decide) (by decide) rfl rfl (Nat.le_of_ble_eq_true rfl) (fun x4 => ?_)
    show xJ iX4_endOfFigures κ _ 15 [(0, .ref v0), (2, .int s2)] [.int x4] h _
    refine j_callS (as := [.int x4]) (fun x => some (.int x)) (fun _ => h) dX4_endOfFigures_15 ml_RX4_126 tg_X4_isFigure st_X4_isFigure (fun x hx => kX4_isFigure κ.1 κ.2.1 x4 h x hx) (by decide) (by decide) rfl rfl (Nat.le_of_ble_eq_true rfl) (fun x5 => ?_)
    show xJ iX4_endOfFigures κ _ 18 [(0, .ref v0), (2, .int s2)] [.int x5] h _
    refine j_if_ne (tgt := 23) dX4_endOfFigures_18 (by decide) (fun c6 => ?_) (fun c6 => ?_)
    · refine j_exit (Sum.inl s2) ?_
      try dsimp only
      refine j_iload_n 1 dX4_endOfFigures_21 rfl rfl ?_
      exact j_iret s2 dX4_endOfFigures_22 rfl (fun q => q)
    · refine j_iinc (y := s2 + 1) (L' := [(2, .int (s2 + 1)), (0, .ref v0)]) 1 dX4_endOfFigures_23 rfl rfl (Nat.le_of_ble_eq_true rfl) rfl ?_
      refine j_goto (tgt := 2) dX4_endOfFigures_26 (by decide) ?_
      refine j_pick [1, 0] rfl ?_
      exact j_again (s2 + 1) rfl rfl
def fX4_valueOfFigures_b7 (v0 : Nat) (h : Hp) (s7 : Int32 × Int32) : Option ((Int32 × Int32) ⊕ ((Int32))) :=
  (xgI h v0 (4, 8) 5).bind fun x2 => if (x2 : Int32) ≤ s7.2 then (some (Sum.inr s7.1)) else ((xat h v0 (4, 8) (fX4_byteAt v0 s7.2 h)).bind fun x4 => some (Sum.inl (((10 * s7.1) + x4) - 48, s7.2 + 1)))
def fX4_valueOfFigures (v0 : Nat) (h : Hp) : Option (Int32) :=
  (xgI h v0 (4, 8) 4).bind fun x1 => (xloop (fX4_valueOfFigures_b7 v0 h) 1000000 (0, x1)).bind (fun r7 => some r7)
abbrev iX4_valueOfFigures : xI := (cX4_valueOfFigures, yX4_valueOfFigures.cls, yX4_valueOfFigures.name, some .int, 3, 3)
set_option maxHeartbeats 4000000 in
set_option maxRecDepth 100000 in
theorem kX4_valueOfFigures (l : Launch) (η : xEnv) (v0 : Nat) (h : Hp) (x : Int32) (hx : fX4_valueOfFigures v0 h = some x) : xC l η yX4_valueOfFigures cX4_valueOfFigures 3 (some .int) 3 [.ref v0] h (some (.int x)) h := by
  refine xC_of (by decide) (Nat.le_of_ble_eq_true rfl) hx (fun κ x => κ.2.2.2.1 = some (.int x) ∧ κ.2.2.2.2 = h) ⟨rfl, rfl⟩ (fun κ => ?_)
  show xJ iX4_valueOfFigures κ _ 0 [(0, .ref v0)] [] h (fX4_valueOfFigures v0 h)
  unfold fX4_valueOfFigures
  refine j_iconst (x := 0) dX4_valueOfFigures_0 (by decide) ?_
  refine j_istore_n (L' := [(1, .int 0), (0, .ref v0)]) dX4_valueOfFigures_1 rfl (Nat.le_of_ble_eq_true rfl) rfl ?_
  refine j_aload_n 1 dX4_valueOfFigures_2 rfl rfl ?_
  refine j_getI 4 8 4 dX4_valueOfFigures_3 fl_RX4_100 (by decide) rfl (by decide) rfl (fun x1 => ?_)
  refine j_istore_n (L' := [(2, .int x1), (1, .int 0), (0, .ref v0)]) dX4_valueOfFigures_6 rfl (Nat.le_of_ble_eq_true rfl) rfl ?_
  refine j_pick [2, 1, 0] rfl ?_
  refine j_loop (pc := 7) (Lf := fun s7 : Int32 × Int32 => [(0, .ref v0), (1, .int s7.1), (2, .int s7.2)]) (Hf := fun s7 : Int32 × Int32 => h) (fun s7 => ?_) 1000000 (0, x1)
  show xJ iX4_valueOfFigures κ _ 7 [(0, .ref v0), (1, .int s7.1), (2, .int s7.2)] [] h (fX4_valueOfFigures_b7 v0 h s7)
  unfold fX4_valueOfFigures_b7
  refine j_iload_n 2 dX4_valueOfFigures_7 rfl rfl ?_
  refine j_aload_n 0 dX4_valueOfFigures_8 rfl rfl ?_
  refine j_getI 4 8 5 dX4_valueOfFigures_9 fl_RX4_29 (by decide) rfl (by decide) rfl (fun x2 => ?_)
  refine j_icmp_ge (tgt := 35) dX4_valueOfFigures_12 (by decide) (fun c3 => ?_) (fun c3 => ?_)
  · refine j_exit s7.1 ?_
    show xJ iX4_valueOfFigures κ _ _ _ _ _ (some s7.1)
    refine j_iload_n 1 dX4_valueOfFigures_35 rfl rfl ?_
    exact j_iret s7.1 dX4_valueOfFigures_36 rfl (fun q => q)
  · refine j_bipush (x := 10) dX4_valueOfFigures_15 (by decide) ?_
    refine j_iload_n 1 dX4_valueOfFigures_17 rfl rfl ?_
    refine j_imul dX4_valueOfFigures_18 ?_
    refine j_aload_n 0 dX4_valueOfFigures_19 rfl rfl ?_
    refine j_iload_n 2 dX4_valueOfFigures_20 rfl rfl ?_
    refine j_callV (as := [.int s7.2]) (fun x => some (.int x)) (fun _ => h) 4 8 dX4_valueOfFigures_21 ml_RX4_108 tg_X4_byteAt im_X4_byteAt se_X4_byteAt rfl (by decide) (fun x hx => kX4_byteAt κ.1 κ.2.1 v0 s7.2 h x hx) (by decide) (by decide) rfl rfl (Nat.le_of_ble_eq_true rfl) (fun x4 => ?_)
    show xJ iX4_valueOfFigures κ _ 24 [(0, .ref v0), (1, .int s7.1), (2, .int s7.2)] [.int x4, .int (10 * s7.1)] h _
    refine j_iadd dX4_valueOfFigures_24 ?_
    refine j_bipush (x := 48) dX4_valueOfFigures_25 (by decide) ?_
    refine j_isub dX4_valueOfFigures_27 ?_
    refine j_istore_n (L' := [(1, .int (((10 * s7.1) + x4) - 48)), (0, .ref v0), (2, .int s7.2)]) dX4_valueOfFigures_28 rfl (Nat.le_of_ble_eq_true rfl) rfl ?_
    refine j_iinc (y := s7.2 + 1) (L' := [(2, .int (s7.2 + 1)), (1, .int (((10 * s7.1) + x4) - 48)), (0, .ref v0)]) 2 dX4_valueOfFigures_29 rfl rfl (Nat.le_of_ble_eq_true rfl) rfl ?_
    refine j_goto (tgt := 7) dX4_valueOfFigures_32 (by decide) ?_
    refine j_pick [2, 1, 0] rfl ?_
    exact j_again (((10 * s7.1) + x4) - 48, s7.2 + 1) rfl rfl
def fX4_step_j158  (h : Hp) : Option (Hp) :=
  some h
def fX4_step_j145 (v0 : Nat) (t0 : Int32) (t1 : Nat) (h : Hp) : Option (Hp) :=
  (xpI h t1 (4, 8) 6 t0).bind fun h1 => (xgI h1 v0 (4, 8) 4).bind fun x2 => (xpI h1 v0 (4, 8) 5 (x2 + 1)).bind fun h3 => fX4_step_j158 h3
def fX4_step_j127 (t0 : Int32) (t1 : Nat) (h : Hp) : Option (Hp) :=
  (xpI h t1 (4, 8) 7 t0).bind fun h4 => fX4_step_j158 h4
def fX4_step_j107 (v0 : Nat) (t0 : Int32) (t1 : Nat) (h : Hp) : Option (Hp) :=
  (xpI h t1 (4, 8) 6 t0).bind fun h5 => (xgI h5 v0 (4, 8) 6).bind fun x6 => if (x6 : Int32) = 2 then ((xat h5 v0 (4, 8) (fX4_valueOfFigures v0 h5)).bind fun x8 => fX4_step_j127 x8 v0 h5) else (fX4_step_j127 (-1) v0 h5)
def fX4_step (v0 : Nat) (h : Hp) : Option (Hp) :=
  (xgI h v0 (4, 8) 5).bind fun x9 => (xat h v0 (4, 8) (fX4_endOfBlanks v0 x9 h)).bind fun x10 => (xpI h v0 (4, 8) 4 x10).bind fun h11 => (xgI h11 v0 (4, 8) 4).bind fun x12 => (xat h11 v0 (4, 8) (fX4_byteAt v0 x12 h11)).bind fun x13 => if (x13 : Int32) = (-1) then ((xpI h11 v0 (4, 8) 6 0).bind fun h15 => (xgI h15 v0 (4, 8) 4).bind fun x16 => (xpI h15 v0 (4, 8) 5 x16).bind fun h17 => fX4_step_j158 h17) else ((fX4_isLetter x13 h11).bind fun x18 => if (x18 : Int32) = 0 then ((fX4_isFigure x13 h11).bind fun x20 => if (x20 : Int32) = 0 then (if (x13 : Int32) = 59 then (fX4_step_j145 v0 3 v0 h11) else (fX4_step_j145 v0 4 v0 h11)) else ((xgI h11 v0 (4, 8) 4).bind fun x23 => (xat h11 v0 (4, 8) (fX4_endOfFigures v0 x23 h11)).bind fun x24 => (xpI h11 v0 (4, 8) 5 x24).bind fun h25 => (xgI h25 v0 (4, 8) 5).bind fun x26 => (xgI h25 v0 (4, 8) 4).bind fun x27 => if (2 : Int32) < (x26 - x27) then (fX4_step_j107 v0 4 v0 h25) else (fX4_step_j107 v0 2 v0 h25))) else ((xpI h11 v0 (4, 8) 6 1).bind fun h29 => (xgI h29 v0 (4, 8) 4).bind fun x30 => (xat h29 v0 (4, 8) (fX4_endOfLetters v0 x30 h29)).bind fun x31 => (xpI h29 v0 (4, 8) 5 x31).bind fun h32 => fX4_step_j158 h32))
abbrev iX4_step : xI := (cX4_step, yX4_step.cls, yX4_step.name, none, 2, 5)
set_option maxHeartbeats 4000000 in
set_option maxRecDepth 100000 in
theorem kX4_step (l : Launch) (η : xEnv) (v0 : Nat) (h : Hp) (x : Hp) (hx : fX4_step v0 h = some x) : xC l η yX4_step cX4_step 2 none 5 [.ref v0] h none x := by
  refine xC_of (by decide) (Nat.le_of_ble_eq_true rfl) hx (fun κ x => κ.2.2.2.1 = none ∧ κ.2.2.2.2 = x) ⟨rfl, rfl⟩ (fun κ => ?_)
  show xJ iX4_step κ _ 0 [(0, .ref v0)] [] h (fX4_step v0 h)
  unfold fX4_step
  refine j_have (pj := 158) (Lf := fun v : Hp => []) (Sf := fun v : Hp => []) (Hf := fun v : Hp => v) (jf := fun v : Hp => fX4_step_j158 v) (fun v => ?_) (fun hj158 => ?_)
  · generalize v = h
    show xJ iX4_step κ _ 158 [] [] h (fX4_step_j158 h)
    unfold fX4_step_j158
    exact j_vret h dX4_step_158 rfl (fun q => q)
  refine j_have (pj := 145) (Lf := fun v : Int32 × Nat × Hp => [(0, .ref v0)]) (Sf := fun v : Int32 × Nat × Hp => [.int v.1, .ref v.2.1]) (Hf := fun v : Int32 × Nat × Hp => v.2.2) (jf := fun v : Int32 × Nat × Hp => fX4_step_j145 v0 v.1 v.2.1 v.2.2) (fun v => ?_) (fun hj145 => ?_)
  · obtain ⟨t0, t1, h⟩ := v
    show xJ iX4_step κ _ 145 [(0, .ref v0)] [.int t0, .ref t1] h (fX4_step_j145 v0 t0 t1 h)
    unfold fX4_step_j145
    refine j_putI 4 8 6 dX4_step_145 fl_RX4_48 (by decide) rfl (by decide) rfl rfl (fun h1 => ?_)
    refine j_aload_n 0 dX4_step_148 rfl rfl ?_
    refine j_aload_n 0 dX4_step_149 rfl rfl ?_
    refine j_getI 4 8 4 dX4_step_150 fl_RX4_100 (by decide) rfl (by decide) rfl (fun x2 => ?_)
    refine j_iconst (x := 1) dX4_step_153 (by decide) ?_
    refine j_iadd dX4_step_154 ?_
    refine j_putI 4 8 5 dX4_step_155 fl_RX4_29 (by decide) rfl (by decide) rfl rfl (fun h3 => ?_)
    refine j_pick [] rfl ?_
    exact hj158 h3
  refine j_have (pj := 127) (Lf := fun v : Int32 × Nat × Hp => []) (Sf := fun v : Int32 × Nat × Hp => [.int v.1, .ref v.2.1]) (Hf := fun v : Int32 × Nat × Hp => v.2.2) (jf := fun v : Int32 × Nat × Hp => fX4_step_j127 v.1 v.2.1 v.2.2) (fun v => ?_) (fun hj127 => ?_)
  · obtain ⟨t0, t1, h⟩ := v
    show xJ iX4_step κ _ 127 [] [.int t0, .ref t1] h (fX4_step_j127 t0 t1 h)
    unfold fX4_step_j127
    refine j_putI 4 8 7 dX4_step_127 fl_RX4_73 (by decide) rfl (by decide) rfl rfl (fun h4 => ?_)
    refine j_goto (tgt := 158) dX4_step_130 (by decide) ?_
    refine j_pick [] rfl ?_
    exact hj158 h4
  refine j_have (pj := 107) (Lf := fun v : Int32 × Nat × Hp => [(0, .ref v0)]) (Sf := fun v : Int32 × Nat × Hp => [.int v.1, .ref v.2.1]) (Hf := fun v : Int32 × Nat × Hp => v.2.2) (jf := fun v : Int32 × Nat × Hp => fX4_step_j107 v0 v.1 v.2.1 v.2.2) (fun v => ?_) (fun hj107 => ?_)
  · obtain ⟨t0, t1, h⟩ := v
    show xJ iX4_step κ _ 107 [(0, .ref v0)] [.int t0, .ref t1] h (fX4_step_j107 v0 t0 t1 h)
    unfold fX4_step_j107
    refine j_putI 4 8 6 dX4_step_107 fl_RX4_48 (by decide) rfl (by decide) rfl rfl (fun h5 => ?_)
    refine j_aload_n 0 dX4_step_110 rfl rfl ?_
    refine j_aload_n 0 dX4_step_111 rfl rfl ?_
    refine j_getI 4 8 6 dX4_step_112 fl_RX4_48 (by decide) rfl (by decide) rfl (fun x6 => ?_)
    refine j_iconst (x := 2) dX4_step_115 (by decide) ?_
    refine j_icmp_ne (tgt := 126) dX4_step_116 (by decide) (fun c7 => ?_) (fun c7 => ?_)
    · refine j_aload_n 0 dX4_step_119 rfl rfl ?_
      refine j_callV (as := []) (fun x => some (.int x)) (fun _ => h5) 4 8 dX4_step_120 ml_RX4_132 tg_X4_valueOfFigures im_X4_valueOfFigures se_X4_valueOfFigures rfl (by decide) (fun x hx => kX4_valueOfFigures κ.1 κ.2.1 v0 h5 x hx) (by decide) (by decide) rfl rfl (Nat.le_of_ble_eq_true rfl) (fun x8 => ?_)
      show xJ iX4_step κ _ 123 [(0, .ref v0)] [.int x8, .ref v0] h5 _
      refine j_goto (tgt := 127) dX4_step_123 (by decide) ?_
      refine j_pick [] rfl ?_
      exact hj127 (x8, v0, h5)
    · refine j_iconst (x := (-1)) dX4_step_126 (by decide) ?_
      refine j_pick [] rfl ?_
      exact hj127 ((-1), v0, h5)
  refine j_aload_n 0 dX4_step_0 rfl rfl ?_
  refine j_aload_n 0 dX4_step_1 rfl rfl ?_
  refine j_aload_n 0 dX4_step_2 rfl rfl ?_
  refine j_getI 4 8 5 dX4_step_3 fl_RX4_29 (by decide) rfl (by decide) rfl (fun x9 => ?_)
  refine j_callV (as := [.int x9]) (fun x => some (.int x)) (fun _ => h) 4 8 dX4_step_6 ml_RX4_116 tg_X4_endOfBlanks im_X4_endOfBlanks se_X4_endOfBlanks rfl (by decide) (fun x hx => kX4_endOfBlanks κ.1 κ.2.1 v0 x9 h x hx) (by decide) (by decide) rfl rfl (Nat.le_of_ble_eq_true rfl) (fun x10 => ?_)
  show xJ iX4_step κ _ 9 [(0, .ref v0)] [.int x10, .ref v0] h _
  refine j_putI 4 8 4 dX4_step_9 fl_RX4_100 (by decide) rfl (by decide) rfl rfl (fun h11 => ?_)
  refine j_aload_n 0 dX4_step_12 rfl rfl ?_
  refine j_aload_n 0 dX4_step_13 rfl rfl ?_
  refine j_getI 4 8 4 dX4_step_14 fl_RX4_100 (by decide) rfl (by decide) rfl (fun x12 => ?_)
  refine j_callV (as := [.int x12]) (fun x => some (.int x)) (fun _ => h11) 4 8 dX4_step_17 ml_RX4_108 tg_X4_byteAt im_X4_byteAt se_X4_byteAt rfl (by decide) (fun x hx => kX4_byteAt κ.1 κ.2.1 v0 x12 h11 x hx) (by decide) (by decide) rfl rfl (Nat.le_of_ble_eq_true rfl) (fun x13 => ?_)
  show xJ iX4_step κ _ 20 [(0, .ref v0)] [.int x13] h11 _
  refine j_istore_n (L' := [(1, .int x13), (0, .ref v0)]) dX4_step_20 rfl (Nat.le_of_ble_eq_true rfl) rfl ?_
  refine j_iload_n 0 dX4_step_21 rfl rfl ?_
  refine j_iconst (x := (-1)) dX4_step_22 (by decide) ?_
  refine j_icmp_ne (tgt := 42) dX4_step_23 (by decide) (fun c14 => ?_) (fun c14 => ?_)
  · refine j_aload_n 1 dX4_step_26 rfl rfl ?_
    refine j_iconst (x := 0) dX4_step_27 (by decide) ?_
    refine j_putI 4 8 6 dX4_step_28 fl_RX4_48 (by decide) rfl (by decide) rfl rfl (fun h15 => ?_)
    refine j_aload_n 1 dX4_step_31 rfl rfl ?_
    refine j_aload_n 1 dX4_step_32 rfl rfl ?_
    refine j_getI 4 8 4 dX4_step_33 fl_RX4_100 (by decide) rfl (by decide) rfl (fun x16 => ?_)
    refine j_putI 4 8 5 dX4_step_36 fl_RX4_29 (by decide) rfl (by decide) rfl rfl (fun h17 => ?_)
    refine j_goto (tgt := 158) dX4_step_39 (by decide) ?_
    refine j_pick [] rfl ?_
    exact hj158 h17
  · refine j_iload_n 0 dX4_step_42 rfl rfl ?_
    refine j_callS (as := [.int x13]) (fun x => some (.int x)) (fun _ => h11) dX4_step_43 ml_RX4_119 tg_X4_isLetter st_X4_isLetter (fun x hx => kX4_isLetter κ.1 κ.2.1 x13 h11 x hx) (by decide) (by decide) rfl rfl (Nat.le_of_ble_eq_true rfl) (fun x18 => ?_)
    show xJ iX4_step κ _ 46 [(1, .int x13), (0, .ref v0)] [.int x18] h11 _
    refine j_if_eq (tgt := 69) dX4_step_46 (by decide) (fun c19 => ?_) (fun c19 => ?_)
    · refine j_iload_n 0 dX4_step_69 rfl rfl ?_
      refine j_callS (as := [.int x13]) (fun x => some (.int x)) (fun _ => h11) dX4_step_70 ml_RX4_126 tg_X4_isFigure st_X4_isFigure (fun x hx => kX4_isFigure κ.1 κ.2.1 x13 h11 x hx) (by decide) (by decide) rfl rfl (Nat.le_of_ble_eq_true rfl) (fun x20 => ?_)
      show xJ iX4_step κ _ 73 [(1, .int x13), (0, .ref v0)] [.int x20] h11 _
      refine j_if_eq (tgt := 133) dX4_step_73 (by decide) (fun c21 => ?_) (fun c21 => ?_)
      · refine j_aload_n 1 dX4_step_133 rfl rfl ?_
        refine j_iload_n 0 dX4_step_134 rfl rfl ?_
        refine j_bipush (x := 59) dX4_step_135 (by decide) ?_
        refine j_icmp_ne (tgt := 144) dX4_step_137 (by decide) (fun c22 => ?_) (fun c22 => ?_)
        · refine j_iconst (x := 3) dX4_step_140 (by decide) ?_
          refine j_goto (tgt := 145) dX4_step_141 (by decide) ?_
          refine j_pick [1] rfl ?_
          exact hj145 (3, v0, h11)
        · refine j_iconst (x := 4) dX4_step_144 (by decide) ?_
          refine j_pick [1] rfl ?_
          exact hj145 (4, v0, h11)
      · refine j_aload_n 1 dX4_step_76 rfl rfl ?_
        refine j_aload_n 1 dX4_step_77 rfl rfl ?_
        refine j_aload_n 1 dX4_step_78 rfl rfl ?_
        refine j_getI 4 8 4 dX4_step_79 fl_RX4_100 (by decide) rfl (by decide) rfl (fun x23 => ?_)
        refine j_callV (as := [.int x23]) (fun x => some (.int x)) (fun _ => h11) 4 8 dX4_step_82 ml_RX4_129 tg_X4_endOfFigures im_X4_endOfFigures se_X4_endOfFigures rfl (by decide) (fun x hx => kX4_endOfFigures κ.1 κ.2.1 v0 x23 h11 x hx) (by decide) (by decide) rfl rfl (Nat.le_of_ble_eq_true rfl) (fun x24 => ?_)
        show xJ iX4_step κ _ 85 [(1, .int x13), (0, .ref v0)] [.int x24, .ref v0] h11 _
        refine j_putI 4 8 5 dX4_step_85 fl_RX4_29 (by decide) rfl (by decide) rfl rfl (fun h25 => ?_)
        refine j_aload_n 1 dX4_step_88 rfl rfl ?_
        refine j_aload_n 1 dX4_step_89 rfl rfl ?_
        refine j_getI 4 8 5 dX4_step_90 fl_RX4_29 (by decide) rfl (by decide) rfl (fun x26 => ?_)
        refine j_aload_n 1 dX4_step_93 rfl rfl ?_
        refine j_getI 4 8 4 dX4_step_94 fl_RX4_100 (by decide) rfl (by decide) rfl (fun x27 => ?_)
        refine j_isub dX4_step_97 ?_
        refine j_iconst (x := 2) dX4_step_98 (by decide) ?_
        refine j_icmp_gt (tgt := 106) dX4_step_99 (by decide) (fun c28 => ?_) (fun c28 => ?_)
        · refine j_iconst (x := 4) dX4_step_106 (by decide) ?_
          refine j_pick [1] rfl ?_
          exact hj107 (4, v0, h25)
        · refine j_iconst (x := 2) dX4_step_102 (by decide) ?_
          refine j_goto (tgt := 107) dX4_step_103 (by decide) ?_
          refine j_pick [1] rfl ?_
          exact hj107 (2, v0, h25)
    · refine j_aload_n 1 dX4_step_49 rfl rfl ?_
      refine j_iconst (x := 1) dX4_step_50 (by decide) ?_
      refine j_putI 4 8 6 dX4_step_51 fl_RX4_48 (by decide) rfl (by decide) rfl rfl (fun h29 => ?_)
      refine j_aload_n 1 dX4_step_54 rfl rfl ?_
      refine j_aload_n 1 dX4_step_55 rfl rfl ?_
      refine j_aload_n 1 dX4_step_56 rfl rfl ?_
      refine j_getI 4 8 4 dX4_step_57 fl_RX4_100 (by decide) rfl (by decide) rfl (fun x30 => ?_)
      refine j_callV (as := [.int x30]) (fun x => some (.int x)) (fun _ => h29) 4 8 dX4_step_60 ml_RX4_123 tg_X4_endOfLetters im_X4_endOfLetters se_X4_endOfLetters rfl (by decide) (fun x hx => kX4_endOfLetters κ.1 κ.2.1 v0 x30 h29 x hx) (by decide) (by decide) rfl rfl (Nat.le_of_ble_eq_true rfl) (fun x31 => ?_)
      show xJ iX4_step κ _ 63 [(1, .int x13), (0, .ref v0)] [.int x31, .ref v0] h29 _
      refine j_putI 4 8 5 dX4_step_63 fl_RX4_29 (by decide) rfl (by decide) rfl rfl (fun h32 => ?_)
      refine j_goto (tgt := 158) dX4_step_66 (by decide) ?_
      refine j_pick [] rfl ?_
      exact hj158 h32
def fX4_isWord_j24  (h : Hp) : Option (Int32) :=
  some 0
def fX4_isWord_b28 (v0 : Nat) (v1 : UInt32) (h : Hp) (s28 : Int32) : Option ((Int32) ⊕ ((Unit) ⊕ (Unit))) :=
  (xsl v1).bind fun x7 => if (x7 : Int32) ≤ s28 then (some (Sum.inr (Sum.inr ()))) else ((xgI h v0 (4, 8) 4).bind fun x9 => (xat h v0 (4, 8) (fX4_byteAt v0 (x9 + s28) h)).bind fun x10 => (xsc v1 s28).bind fun x11 => if (x10 : Int32) = x11 then (some (Sum.inl (s28 + 1))) else (some (Sum.inr (Sum.inl ()))))
def fX4_isWord (v0 : Nat) (v1 : UInt32) (h : Hp) : Option (Int32) :=
  (xgI h v0 (4, 8) 6).bind fun x1 => if (x1 : Int32) = 1 then ((xgI h v0 (4, 8) 5).bind fun x3 => (xgI h v0 (4, 8) 4).bind fun x4 => (xsl v1).bind fun x5 => if (x3 - x4 : Int32) = x5 then ((xloop (fX4_isWord_b28 v0 v1 h) 1000000 0).bind (fun q => match q with | .inl r28 => (some 0) | .inr r28 => (some 1))) else (fX4_isWord_j24 h)) else (fX4_isWord_j24 h)
abbrev iX4_isWord : xI := (cX4_isWord, yX4_isWord.cls, yX4_isWord.name, some .boolean, 3, 10)
set_option maxHeartbeats 4000000 in
set_option maxRecDepth 100000 in
theorem kX4_isWord (l : Launch) (η : xEnv) (v0 : Nat) (v1 : UInt32) (h : Hp) (x : Int32) (hx : fX4_isWord v0 v1 h = some x) : xC l η yX4_isWord cX4_isWord 3 (some .boolean) 10 [.ref v0, .float v1] h (some (.int x)) h := by
  refine xC_of (by decide) (Nat.le_of_ble_eq_true rfl) hx (fun κ x => κ.2.2.2.1 = some (.int x) ∧ κ.2.2.2.2 = h) ⟨rfl, rfl⟩ (fun κ => ?_)
  show xJ iX4_isWord κ _ 0 [(0, .ref v0), (1, .float v1)] [] h (fX4_isWord v0 v1 h)
  unfold fX4_isWord
  refine j_have (pj := 24) (Lf := fun v : Unit => []) (Sf := fun v : Unit => []) (Hf := fun v : Unit => h) (jf := fun v : Unit => fX4_isWord_j24 h) (fun v => ?_) (fun hj24 => ?_)
  · skip
    show xJ iX4_isWord κ _ 24 [] [] h (fX4_isWord_j24 h)
    unfold fX4_isWord_j24
    refine j_iconst (x := 0) dX4_isWord_24 (by decide) ?_
    exact j_zret 0 dX4_isWord_25 rfl rfl (fun q => q)
  refine j_aload_n 0 dX4_isWord_0 rfl rfl ?_
  refine j_getI 4 8 6 dX4_isWord_1 fl_RX4_48 (by decide) rfl (by decide) rfl (fun x1 => ?_)
  refine j_iconst (x := 1) dX4_isWord_4 (by decide) ?_
  refine j_icmp_ne (tgt := 24) dX4_isWord_5 (by decide) (fun c2 => ?_) (fun c2 => ?_)
  · refine j_aload_n 0 dX4_isWord_8 rfl rfl ?_
    refine j_getI 4 8 5 dX4_isWord_9 fl_RX4_29 (by decide) rfl (by decide) rfl (fun x3 => ?_)
    refine j_aload_n 0 dX4_isWord_12 rfl rfl ?_
    refine j_getI 4 8 4 dX4_isWord_13 fl_RX4_100 (by decide) rfl (by decide) rfl (fun x4 => ?_)
    refine j_isub dX4_isWord_16 ?_
    refine j_sload_n 1 dX4_isWord_17 rfl rfl ?_
    refine j_slen dX4_isWord_18 ml_RX4_103 (by decide) (Nat.le_of_ble_eq_true rfl) (fun x5 => ?_)
    refine j_icmp_eq (tgt := 26) dX4_isWord_21 (by decide) (fun c6 => ?_) (fun c6 => ?_)
    · refine j_iconst (x := 0) dX4_isWord_26 (by decide) ?_
      refine j_istore_n (L' := [(2, .int 0), (0, .ref v0), (1, .float v1)]) dX4_isWord_27 rfl (Nat.le_of_ble_eq_true rfl) rfl ?_
      refine j_pick [1, 2, 0] rfl ?_
      refine j_loop (pc := 28) (Lf := fun s28 : Int32 => [(0, .ref v0), (1, .float v1), (2, .int s28)]) (Hf := fun s28 : Int32 => h) (fun s28 => ?_) 1000000 0
      show xJ iX4_isWord κ _ 28 [(0, .ref v0), (1, .float v1), (2, .int s28)] [] h (fX4_isWord_b28 v0 v1 h s28)
      unfold fX4_isWord_b28
      refine j_iload_n 2 dX4_isWord_28 rfl rfl ?_
      refine j_sload_n 1 dX4_isWord_29 rfl rfl ?_
      refine j_slen dX4_isWord_30 ml_RX4_103 (by decide) (Nat.le_of_ble_eq_true rfl) (fun x7 => ?_)
      refine j_icmp_ge (tgt := 62) dX4_isWord_33 (by decide) (fun c8 => ?_) (fun c8 => ?_)
      · refine j_exit (Sum.inr ()) ?_
        try dsimp only
        refine j_iconst (x := 1) dX4_isWord_62 (by decide) ?_
        exact j_zret 1 dX4_isWord_63 rfl rfl (fun q => q)
      · refine j_aload_n 0 dX4_isWord_36 rfl rfl ?_
        refine j_aload_n 0 dX4_isWord_37 rfl rfl ?_
        refine j_getI 4 8 4 dX4_isWord_38 fl_RX4_100 (by decide) rfl (by decide) rfl (fun x9 => ?_)
        refine j_iload_n 2 dX4_isWord_41 rfl rfl ?_
        refine j_iadd dX4_isWord_42 ?_
        refine j_callV (as := [.int (x9 + s28)]) (fun x => some (.int x)) (fun _ => h) 4 8 dX4_isWord_43 ml_RX4_108 tg_X4_byteAt im_X4_byteAt se_X4_byteAt rfl (by decide) (fun x hx => kX4_byteAt κ.1 κ.2.1 v0 (x9 + s28) h x hx) (by decide) (by decide) rfl rfl (Nat.le_of_ble_eq_true rfl) (fun x10 => ?_)
        show xJ iX4_isWord κ _ 46 [(0, .ref v0), (1, .float v1), (2, .int s28)] [.int x10] h _
        refine j_sload_n 1 dX4_isWord_46 rfl rfl ?_
        refine j_iload_n 2 dX4_isWord_47 rfl rfl ?_
        refine j_schar dX4_isWord_48 ml_RX4_112 (by decide) (Nat.le_of_ble_eq_true rfl) (fun x11 => ?_)
        refine j_icmp_eq (tgt := 56) dX4_isWord_51 (by decide) (fun c12 => ?_) (fun c12 => ?_)
        · refine j_iinc (y := s28 + 1) (L' := [(2, .int (s28 + 1)), (0, .ref v0), (1, .float v1)]) 2 dX4_isWord_56 rfl rfl (Nat.le_of_ble_eq_true rfl) rfl ?_
          refine j_goto (tgt := 28) dX4_isWord_59 (by decide) ?_
          refine j_pick [1, 2, 0] rfl ?_
          exact j_again (s28 + 1) rfl rfl
        · refine j_exit (Sum.inl ()) ?_
          try dsimp only
          refine j_iconst (x := 0) dX4_isWord_54 (by decide) ?_
          exact j_zret 0 dX4_isWord_55 rfl rfl (fun q => q)
    · refine j_pick [] rfl ?_
      exact hj24 ()
  · refine j_pick [] rfl ?_
    exact hj24 ()
def fX4_readNumber_j29 (t0 : Int32) (h : Hp) : Option (Int32 × Hp) :=
  if vp_nar .boolean t0 = t0 then some (t0, h) else none
def fX4_readNumber_j28  (h : Hp) : Option (Int32 × Hp) :=
  fX4_readNumber_j29 0 h
def fX4_readNumber (v0 : Nat) (v1 : Int32) (v2 : Int32) (h : Hp) : Option (Int32 × Hp) :=
  (xat h v0 (4, 8) (fX4_step v0 h)).bind fun h1 => (xgI h1 v0 (4, 8) 6).bind fun x2 => if (x2 : Int32) = 2 then ((xgI h1 v0 (4, 8) 7).bind fun x4 => (fX8_within x4 v1 v2 h1).bind fun x5 => if (x5 : Int32) = 0 then (fX4_readNumber_j28 h1) else (fX4_readNumber_j29 1 h1)) else (fX4_readNumber_j28 h1)
abbrev iX4_readNumber : xI := (cX4_readNumber, yX4_readNumber.cls, yX4_readNumber.name, some .boolean, 3, 6)
set_option maxHeartbeats 4000000 in
set_option maxRecDepth 100000 in
theorem kX4_readNumber (l : Launch) (η : xEnv) (v0 : Nat) (v1 : Int32) (v2 : Int32) (h : Hp) (x : Int32 × Hp) (hx : fX4_readNumber v0 v1 v2 h = some x) : xC l η yX4_readNumber cX4_readNumber 3 (some .boolean) 6 [.ref v0, .int v1, .int v2] h (some (.int x.1)) x.2 := by
  refine xC_of (by decide) (Nat.le_of_ble_eq_true rfl) hx (fun κ x => κ.2.2.2.1 = some (.int x.1) ∧ κ.2.2.2.2 = x.2) ⟨rfl, rfl⟩ (fun κ => ?_)
  show xJ iX4_readNumber κ _ 0 [(0, .ref v0), (1, .int v1), (2, .int v2)] [] h (fX4_readNumber v0 v1 v2 h)
  unfold fX4_readNumber
  refine j_have (pj := 29) (Lf := fun v : Int32 × Hp => []) (Sf := fun v : Int32 × Hp => [.int v.1]) (Hf := fun v : Int32 × Hp => v.2) (jf := fun v : Int32 × Hp => fX4_readNumber_j29 v.1 v.2) (fun v => ?_) (fun hj29 => ?_)
  · obtain ⟨t0, h⟩ := v
    show xJ iX4_readNumber κ _ 29 [] [.int t0] h (fX4_readNumber_j29 t0 h)
    unfold fX4_readNumber_j29
    exact j_zretc (t0, h) dX4_readNumber_29 rfl (fun q => q)
  refine j_have (pj := 28) (Lf := fun v : Hp => []) (Sf := fun v : Hp => []) (Hf := fun v : Hp => v) (jf := fun v : Hp => fX4_readNumber_j28 v) (fun v => ?_) (fun hj28 => ?_)
  · generalize v = h
    show xJ iX4_readNumber κ _ 28 [] [] h (fX4_readNumber_j28 h)
    unfold fX4_readNumber_j28
    refine j_iconst (x := 0) dX4_readNumber_28 (by decide) ?_
    refine j_pick [] rfl ?_
    exact hj29 (0, h)
  refine j_aload_n 0 dX4_readNumber_0 rfl rfl ?_
  refine j_callV (as := []) (fun _ => none) (fun x => x) 4 8 dX4_readNumber_1 ml_RX4_32 tg_X4_step im_X4_step se_X4_step rfl (by decide) (fun x hx => kX4_step κ.1 κ.2.1 v0 h x hx) (by decide) (by decide) rfl rfl (Nat.le_of_ble_eq_true rfl) (fun h1 => ?_)
  show xJ iX4_readNumber κ _ 4 [(0, .ref v0), (1, .int v1), (2, .int v2)] [] h1 _
  refine j_aload_n 0 dX4_readNumber_4 rfl rfl ?_
  refine j_getI 4 8 6 dX4_readNumber_5 fl_RX4_48 (by decide) rfl (by decide) rfl (fun x2 => ?_)
  refine j_iconst (x := 2) dX4_readNumber_8 (by decide) ?_
  refine j_icmp_ne (tgt := 28) dX4_readNumber_9 (by decide) (fun c3 => ?_) (fun c3 => ?_)
  · refine j_aload_n 0 dX4_readNumber_12 rfl rfl ?_
    refine j_getI 4 8 7 dX4_readNumber_13 fl_RX4_73 (by decide) rfl (by decide) rfl (fun x4 => ?_)
    refine j_iload_n 1 dX4_readNumber_16 rfl rfl ?_
    refine j_iload_n 2 dX4_readNumber_17 rfl rfl ?_
    refine j_callSN (as := [.int x4, .int v1, .int v2]) (fun x => some (.int x)) (fun _ => h1) dX4_readNumber_18 nl_RX4_82 tg_X8_within st_X8_within (fun x hx => kX8_within κ.1 κ.2.1 x4 v1 v2 h1 x hx) (by decide) (by decide) rfl rfl (Nat.le_of_ble_eq_true rfl) (fun x5 => ?_)
    show xJ iX4_readNumber κ _ 21 [(0, .ref v0), (1, .int v1), (2, .int v2)] [.int x5] h1 _
    refine j_if_eq (tgt := 28) dX4_readNumber_21 (by decide) (fun c6 => ?_) (fun c6 => ?_)
    · refine j_pick [] rfl ?_
      exact hj28 h1
    · refine j_iconst (x := 1) dX4_readNumber_24 (by decide) ?_
      refine j_goto (tgt := 29) dX4_readNumber_25 (by decide) ?_
      refine j_pick [] rfl ?_
      exact hj29 (1, h1)
  · refine j_pick [] rfl ?_
    exact hj28 h1
def fX4_readMark_j17 (t0 : Int32) (h : Hp) : Option (Int32 × Hp) :=
  if vp_nar .boolean t0 = t0 then some (t0, h) else none
def fX4_readMark (v0 : Nat) (h : Hp) : Option (Int32 × Hp) :=
  (xat h v0 (4, 8) (fX4_step v0 h)).bind fun h1 => (xgI h1 v0 (4, 8) 6).bind fun x2 => if (x2 : Int32) = 3 then (fX4_readMark_j17 1 h1) else (fX4_readMark_j17 0 h1)
abbrev iX4_readMark : xI := (cX4_readMark, yX4_readMark.cls, yX4_readMark.name, some .boolean, 1, 6)
set_option maxHeartbeats 4000000 in
set_option maxRecDepth 100000 in
theorem kX4_readMark (l : Launch) (η : xEnv) (v0 : Nat) (h : Hp) (x : Int32 × Hp) (hx : fX4_readMark v0 h = some x) : xC l η yX4_readMark cX4_readMark 1 (some .boolean) 6 [.ref v0] h (some (.int x.1)) x.2 := by
  refine xC_of (by decide) (Nat.le_of_ble_eq_true rfl) hx (fun κ x => κ.2.2.2.1 = some (.int x.1) ∧ κ.2.2.2.2 = x.2) ⟨rfl, rfl⟩ (fun κ => ?_)
  show xJ iX4_readMark κ _ 0 [(0, .ref v0)] [] h (fX4_readMark v0 h)
  unfold fX4_readMark
  refine j_have (pj := 17) (Lf := fun v : Int32 × Hp => []) (Sf := fun v : Int32 × Hp => [.int v.1]) (Hf := fun v : Int32 × Hp => v.2) (jf := fun v : Int32 × Hp => fX4_readMark_j17 v.1 v.2) (fun v => ?_) (fun hj17 => ?_)
  · obtain ⟨t0, h⟩ := v
    show xJ iX4_readMark κ _ 17 [] [.int t0] h (fX4_readMark_j17 t0 h)
    unfold fX4_readMark_j17
    exact j_zretc (t0, h) dX4_readMark_17 rfl (fun q => q)
  refine j_aload_n 0 dX4_readMark_0 rfl rfl ?_
  refine j_callV (as := []) (fun _ => none) (fun x => x) 4 8 dX4_readMark_1 ml_RX4_32 tg_X4_step im_X4_step se_X4_step rfl (by decide) (fun x hx => kX4_step κ.1 κ.2.1 v0 h x hx) (by decide) (by decide) rfl rfl (Nat.le_of_ble_eq_true rfl) (fun h1 => ?_)
  show xJ iX4_readMark κ _ 4 [(0, .ref v0)] [] h1 _
  refine j_aload_n 0 dX4_readMark_4 rfl rfl ?_
  refine j_getI 4 8 6 dX4_readMark_5 fl_RX4_48 (by decide) rfl (by decide) rfl (fun x2 => ?_)
  refine j_iconst (x := 3) dX4_readMark_8 (by decide) ?_
  refine j_icmp_ne (tgt := 16) dX4_readMark_9 (by decide) (fun c3 => ?_) (fun c3 => ?_)
  · refine j_iconst (x := 1) dX4_readMark_12 (by decide) ?_
    refine j_goto (tgt := 17) dX4_readMark_13 (by decide) ?_
    refine j_pick [] rfl ?_
    exact hj17 (1, h1)
  · refine j_iconst (x := 0) dX4_readMark_16 (by decide) ?_
    refine j_pick [] rfl ?_
    exact hj17 (0, h1)
def fX4_readRoom (v0 : Nat) (h : Hp) : Option (Int32 × Hp) :=
  (xat h v0 (4, 8) (fX4_readNumber v0 1 7 h)).bind fun q1 => if (q1.1 : Int32) = 0 then (some (0, q1.2)) else ((xgR q1.2 v0 (4, 8) 2).bind fun x3 => (xgI q1.2 v0 (4, 8) 7).bind fun x4 => (xpI q1.2 x3 (0, 16) 0 x4).bind fun h5 => (xat h5 v0 (4, 8) (fX4_readMark v0 h5)).bind fun q6 => if vp_nar .boolean q6.1 = q6.1 then some (q6.1, q6.2) else none)
abbrev iX4_readRoom : xI := (cX4_readRoom, yX4_readRoom.cls, yX4_readRoom.name, some .boolean, 1, 7)
set_option maxHeartbeats 4000000 in
set_option maxRecDepth 100000 in
theorem kX4_readRoom (l : Launch) (η : xEnv) (v0 : Nat) (h : Hp) (x : Int32 × Hp) (hx : fX4_readRoom v0 h = some x) : xC l η yX4_readRoom cX4_readRoom 1 (some .boolean) 7 [.ref v0] h (some (.int x.1)) x.2 := by
  refine xC_of (by decide) (Nat.le_of_ble_eq_true rfl) hx (fun κ x => κ.2.2.2.1 = some (.int x.1) ∧ κ.2.2.2.2 = x.2) ⟨rfl, rfl⟩ (fun κ => ?_)
  show xJ iX4_readRoom κ _ 0 [(0, .ref v0)] [] h (fX4_readRoom v0 h)
  unfold fX4_readRoom
  refine j_aload_n 0 dX4_readRoom_0 rfl rfl ?_
  refine j_iconst (x := 1) dX4_readRoom_1 (by decide) ?_
  refine j_bipush (x := 7) dX4_readRoom_2 (by decide) ?_
  refine j_callV (as := [.int 1, .int 7]) (fun x => some (.int x.1)) (fun x => x.2) 4 8 dX4_readRoom_4 ml_RX4_69 tg_X4_readNumber im_X4_readNumber se_X4_readNumber rfl (by decide) (fun x hx => kX4_readNumber κ.1 κ.2.1 v0 1 7 h x hx) (by decide) (by decide) rfl rfl (Nat.le_of_ble_eq_true rfl) (fun q1 => ?_)
  show xJ iX4_readRoom κ _ 7 [(0, .ref v0)] [.int q1.1] q1.2 _
  refine j_if_ne (tgt := 12) dX4_readRoom_7 (by decide) (fun c2 => ?_) (fun c2 => ?_)
  · refine j_iconst (x := 0) dX4_readRoom_10 (by decide) ?_
    exact j_zret (0, q1.2) dX4_readRoom_11 rfl rfl (fun q => q)
  · refine j_aload_n 0 dX4_readRoom_12 rfl rfl ?_
    refine j_getR 4 8 2 dX4_readRoom_13 fl_RX4_18 (by decide) rfl (by decide) (fun _ _ _ => rfl) (fun x3 => ?_)
    refine j_aload_n 0 dX4_readRoom_16 rfl rfl ?_
    refine j_getI 4 8 7 dX4_readRoom_17 fl_RX4_73 (by decide) rfl (by decide) rfl (fun x4 => ?_)
    refine j_putI 0 16 0 dX4_readRoom_20 fl_RX4_76 (by decide) rfl (by decide) rfl rfl (fun h5 => ?_)
    refine j_aload_n 0 dX4_readRoom_23 rfl rfl ?_
    refine j_callV (as := []) (fun x => some (.int x.1)) (fun x => x.2) 4 8 dX4_readRoom_24 ml_RX4_79 tg_X4_readMark im_X4_readMark se_X4_readMark rfl (by decide) (fun x hx => kX4_readMark κ.1 κ.2.1 v0 h5 x hx) (by decide) (by decide) rfl rfl (Nat.le_of_ble_eq_true rfl) (fun q6 => ?_)
    show xJ iX4_readRoom κ _ 27 [(0, .ref v0)] [.int q6.1] q6.2 _
    exact j_zretc (q6.1, q6.2) dX4_readRoom_27 rfl (fun q => q)
