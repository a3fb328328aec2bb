def fX8_clear (v0 : Nat) (h : Hp) : Option (Int32 × Hp) :=
  (xgR h v0 (8, 12) 8).bind fun x1 => (xgI h x1 (4, 8) 1).bind fun x2 => (xgR h v0 (8, 12) 8).bind fun x3 => (xpI h x3 (4, 8) 1 0).bind fun h4 => some (x2, h4)
abbrev iX8_clear : xI := (cX8_clear, yX8_clear.cls, yX8_clear.name, some .int, 2, 2)
set_option maxHeartbeats 4000000 in
set_option maxRecDepth 100000 in
theorem kX8_clear (l : Launch) (η : xEnv) (v0 : Nat) (h : Hp) (x : Int32 × Hp) (hx : fX8_clear v0 h = some x) : xC l η yX8_clear cX8_clear 2 (some .int) 2 [.ref v0] h (some (.int x.1)) x.2 := by
  refine xC_of (by decide) (Nat.le_of_ble_eq_true rfl) hx (fun κ x => κ.2.2.2.1 = some (.int x.1) ∧ κ.2.2.2.2 = x.2) ⟨rfl, rfl⟩ (fun κ => ?_)
  show xJ iX8_clear κ _ 0 [(0, .ref v0)] [] h (fX8_clear v0 h)
  unfold fX8_clear
  refine j_aload_n 0 dX8_clear_0 rfl rfl ?_
  refine j_getR 8 12 8 dX8_clear_1 fl_RX8_62 (by decide) rfl (by decide) (fun _ _ _ => rfl) (fun x1 => ?_)
  refine j_getI 4 8 1 dX8_clear_4 fl_RX8_113 (by decide) rfl (by decide) rfl (fun x2 => ?_)
  refine j_istore_n (L' := [(1, .int x2), (0, .ref v0)]) dX8_clear_7 rfl (Nat.le_of_ble_eq_true rfl) rfl ?_
  refine j_aload_n 1 dX8_clear_8 rfl rfl ?_
  refine j_getR 8 12 8 dX8_clear_9 fl_RX8_62 (by decide) rfl (by decide) (fun _ _ _ => rfl) (fun x3 => ?_)
  refine j_iconst (x := 0) dX8_clear_12 (by decide) ?_
  refine j_putI 4 8 1 dX8_clear_13 fl_RX8_113 (by decide) rfl (by decide) rfl rfl (fun h4 => ?_)
  refine j_iload_n 0 dX8_clear_16 rfl rfl ?_
  exact j_iret (x2, h4) dX8_clear_17 rfl (fun q => q)
def fX9_clear (v0 : Nat) (h : Hp) : Option (Int32 × Hp) :=
  (xgI h v0 (9, 18) 11).bind fun x1 => (xpI h v0 (9, 18) 11 0).bind fun h2 => some (x1, h2)
abbrev iX9_clear : xI := (cX9_clear, yX9_clear.cls, yX9_clear.name, some .int, 2, 2)
set_option maxHeartbeats 4000000 in
set_option maxRecDepth 100000 in
theorem kX9_clear (l : Launch) (η : xEnv) (v0 : Nat) (h : Hp) (x : Int32 × Hp) (hx : fX9_clear v0 h = some x) : xC l η yX9_clear cX9_clear 2 (some .int) 2 [.ref v0] h (some (.int x.1)) x.2 := by
  refine xC_of (by decide) (Nat.le_of_ble_eq_true rfl) hx (fun κ x => κ.2.2.2.1 = some (.int x.1) ∧ κ.2.2.2.2 = x.2) ⟨rfl, rfl⟩ (fun κ => ?_)
  show xJ iX9_clear κ _ 0 [(0, .ref v0)] [] h (fX9_clear v0 h)
  unfold fX9_clear
  refine j_aload_n 0 dX9_clear_0 rfl rfl ?_
  refine j_getI 9 18 11 dX9_clear_1 fl_RX9_191 (by decide) rfl (by decide) rfl (fun x1 => ?_)
  refine j_istore_n (L' := [(1, .int x1), (0, .ref v0)]) dX9_clear_4 rfl (Nat.le_of_ble_eq_true rfl) rfl ?_
  refine j_aload_n 1 dX9_clear_5 rfl rfl ?_
  refine j_iconst (x := 0) dX9_clear_6 (by decide) ?_
  refine j_putI 9 18 11 dX9_clear_7 fl_RX9_191 (by decide) rfl (by decide) rfl rfl (fun h2 => ?_)
  refine j_iload_n 0 dX9_clear_10 rfl rfl ?_
  exact j_iret (x1, h2) dX9_clear_11 rfl (fun q => q)
def fX4_endOfRun_j60 (v0 : Nat) (h : Hp) : Option (Int32) :=
  (xgI h v0 (4, 8) 1).bind fun x1 => some x1
def fX4_endOfRun_j51 (v4 : Int32) (h : Hp) : Option (Int32) :=
  some v4
def fX4_endOfRun_b12 (v0 : Nat) (v2 : Int32) (v3 : Int32) (h : Hp) (s12 : Int32) : Option ((Int32) ⊕ ((Int32) ⊕ (Nat))) :=
  (xgI h v0 (4, 8) 1).bind fun x3 => if (x3 : Int32) ≤ s12 then (some (Sum.inr (Sum.inr v0))) else (if (150 : Int32) ≤ s12 then (some (Sum.inr (Sum.inr v0))) else ((xgR h v0 (4, 8) 0).bind fun x6 => (xaI h x6 10 s12).bind fun x7 => if (x7 : Int32) < v2 then (some (Sum.inr (Sum.inl s12))) else ((xgR h v0 (4, 8) 0).bind fun x9 => (xaI h x9 10 s12).bind fun x10 => if (x10 : Int32) ≤ v3 then (some (Sum.inl (s12 + 1))) else (some (Sum.inr (Sum.inl s12))))))
def fX4_endOfRun (v0 : Nat) (v1 : Int32) (v2 : Int32) (v3 : Int32) (h : Hp) : Option (Int32) :=
  if (0 : Int32) ≤ v1 then ((xloop (fX4_endOfRun_b12 v0 v2 v3 h) 1000000 v1).bind (fun q => match q with | .inl r12 => (fX4_endOfRun_j51 r12 h) | .inr r12 => (fX4_endOfRun_j60 r12 h))) else ((xgI h v0 (4, 8) 1).bind fun x12 => some x12)
abbrev iX4_endOfRun : xI := (cX4_endOfRun, yX4_endOfRun.cls, yX4_endOfRun.name, some .int, 5, 2)
set_option maxHeartbeats 4000000 in
set_option maxRecDepth 100000 in
theorem kX4_endOfRun (l : Launch) (η : xEnv) (v0 : Nat) (v1 : Int32) (v2 : Int32) (v3 : Int32) (h : Hp) (x : Int32) (hx : fX4_endOfRun v0 v1 v2 v3 h = some x) : xC l η yX4_endOfRun cX4_endOfRun 5 (some .int) 2 [.ref v0, .int v1, .int v2, .int v3] h (some (.int x)) h := by
  refine xC_of (by decide) (Nat.le_of_ble_eq_true rfl) hx (fun κ x => κ.2.2.2.1 = some (.int x) ∧ κ.2.2.2.2 = h) ⟨rfl, rfl⟩ (fun κ => ?_)
  show xJ iX4_endOfRun κ _ 0 [(0, .ref v0), (1, .int v1), (2, .int v2), (3, .int v3)] [] h (fX4_endOfRun v0 v1 v2 v3 h)
  unfold fX4_endOfRun
  refine j_have (pj := 60) (Lf := fun v : Unit => [(0, .ref v0)]) (Sf := fun v : Unit => []) (Hf := fun v : Unit => h) (jf := fun v : Unit => fX4_endOfRun_j60 v0 h) (fun v => ?_) (fun hj60 => ?_)
  · skip
    show xJ iX4_endOfRun κ _ 60 [(0, .ref v0)] [] h (fX4_endOfRun_j60 v0 h)
    unfold fX4_endOfRun_j60
    refine j_aload_n 0 dX4_endOfRun_60 rfl rfl ?_
    refine j_getI 4 8 1 dX4_endOfRun_61 fl_RX4_22 (by decide) rfl (by decide) rfl (fun x1 => ?_)
    exact j_iret x1 dX4_endOfRun_64 rfl (fun q => q)
  refine j_have (pj := 51) (Lf := fun v : Int32 => [(4, .int v)]) (Sf := fun v : Int32 => []) (Hf := fun v : Int32 => h) (jf := fun v : Int32 => fX4_endOfRun_j51 v h) (fun v => ?_) (fun hj51 => ?_)
  · generalize v = v4
    show xJ iX4_endOfRun κ _ 51 [(4, .int v4)] [] h (fX4_endOfRun_j51 v4 h)
    unfold fX4_endOfRun_j51
    refine j_iload 0 dX4_endOfRun_51 rfl ?_
    exact j_iret v4 dX4_endOfRun_53 rfl (fun q => q)
  refine j_iload_n 1 dX4_endOfRun_0 rfl rfl ?_
  refine j_if_ge (tgt := 9) dX4_endOfRun_1 (by decide) (fun c2 => ?_) (fun c2 => ?_)
  · refine j_iload_n 1 dX4_endOfRun_9 rfl rfl ?_
    refine j_istore (L' := [(4, .int v1), (0, .ref v0), (1, .int v1), (2, .int v2), (3, .int v3)]) dX4_endOfRun_10 (Nat.le_of_ble_eq_true rfl) rfl ?_
    refine j_pick [1, 3, 4, 0] rfl ?_
    refine j_loop (pc := 12) (Lf := fun s12 : Int32 => [(0, .ref v0), (2, .int v2), (3, .int v3), (4, .int s12)]) (Hf := fun s12 : Int32 => h) (fun s12 => ?_) 1000000 v1
    show xJ iX4_endOfRun κ _ 12 [(0, .ref v0), (2, .int v2), (3, .int v3), (4, .int s12)] [] h (fX4_endOfRun_b12 v0 v2 v3 h s12)
    unfold fX4_endOfRun_b12
    refine j_iload 3 dX4_endOfRun_12 rfl ?_
    refine j_aload_n 0 dX4_endOfRun_14 rfl rfl ?_
    refine j_getI 4 8 1 dX4_endOfRun_15 fl_RX4_22 (by decide) rfl (by decide) rfl (fun x3 => ?_)
    refine j_icmp_ge (tgt := 60) dX4_endOfRun_18 (by decide) (fun c4 => ?_) (fun c4 => ?_)
    · refine j_exit (Sum.inr v0) ?_
      try dsimp only
      refine j_pick [0] rfl ?_
      exact hj60 ()
    · refine j_iload 3 dX4_endOfRun_21 rfl ?_
      refine j_sipush (x := 150) dX4_endOfRun_23 (by decide) ?_
      refine j_icmp_ge (tgt := 60) dX4_endOfRun_26 (by decide) (fun c5 => ?_) (fun c5 => ?_)
      · refine j_exit (Sum.inr v0) ?_
        try dsimp only
        refine j_pick [0] rfl ?_
        exact hj60 ()
      · refine j_aload_n 0 dX4_endOfRun_29 rfl rfl ?_
        refine j_getR 4 8 0 dX4_endOfRun_30 fl_RX4_9 (by decide) rfl (by decide) (fun _ _ _ => rfl) (fun x6 => ?_)
        refine j_iload 3 dX4_endOfRun_33 rfl ?_
        refine j_iald dX4_endOfRun_35 (fun x7 => ?_)
        refine j_iload_n 1 dX4_endOfRun_36 rfl rfl ?_
        refine j_icmp_lt (tgt := 51) dX4_endOfRun_37 (by decide) (fun c8 => ?_) (fun c8 => ?_)
        · refine j_exit (Sum.inl s12) ?_
          try dsimp only
          refine j_pick [3] rfl ?_
          exact hj51 s12
        · refine j_aload_n 0 dX4_endOfRun_40 rfl rfl ?_
          refine j_getR 4 8 0 dX4_endOfRun_41 fl_RX4_9 (by decide) rfl (by decide) (fun _ _ _ => rfl) (fun x9 => ?_)
          refine j_iload 3 dX4_endOfRun_44 rfl ?_
          refine j_iald dX4_endOfRun_46 (fun x10 => ?_)
          refine j_iload_n 2 dX4_endOfRun_47 rfl rfl ?_
          refine j_icmp_le (tgt := 54) dX4_endOfRun_48 (by decide) (fun c11 => ?_) (fun c11 => ?_)
          · refine j_iinc (y := s12 + 1) (L' := [(4, .int (s12 + 1)), (0, .ref v0), (2, .int v2), (3, .int v3)]) 3 dX4_endOfRun_54 rfl rfl (Nat.le_of_ble_eq_true rfl) rfl ?_
            refine j_goto (tgt := 12) dX4_endOfRun_57 (by decide) ?_
            refine j_pick [1, 2, 3, 0] rfl ?_
            exact j_again (s12 + 1) rfl rfl
          · refine j_exit (Sum.inl s12) ?_
            try dsimp only
            refine j_pick [3] rfl ?_
            exact hj51 s12
  · refine j_aload_n 0 dX4_endOfRun_4 rfl rfl ?_
    refine j_getI 4 8 1 dX4_endOfRun_5 fl_RX4_22 (by decide) rfl (by decide) rfl (fun x12 => ?_)
    exact j_iret x12 dX4_endOfRun_8 rfl (fun q => q)
def fX4_byteAt_j22 (t0 : Int32) (h : Hp) : Option (Int32) :=
  some t0
def fX4_byteAt_j21  (h : Hp) : Option (Int32) :=
  fX4_byteAt_j22 (-1) h
def fX4_byteAt (v0 : Nat) (v1 : Int32) (h : Hp) : Option (Int32) :=
  if (v1 : Int32) < 0 then (fX4_byteAt_j21 h) else ((xgI h v0 (4, 8) 1).bind fun x2 => if (x2 : Int32) ≤ v1 then (fX4_byteAt_j21 h) else ((xgR h v0 (4, 8) 0).bind fun x4 => (xaI h x4 10 v1).bind fun x5 => fX4_byteAt_j22 x5 h))
abbrev iX4_byteAt : xI := (cX4_byteAt, yX4_byteAt.cls, yX4_byteAt.name, some .int, 2, 2)
set_option maxHeartbeats 4000000 in
set_option maxRecDepth 100000 in
theorem kX4_byteAt (l : Launch) (η : xEnv) (v0 : Nat) (v1 : Int32) (h : Hp) (x : Int32) (hx : fX4_byteAt v0 v1 h = some x) : xC l η yX4_byteAt cX4_byteAt 2 (some .int) 2 [.ref v0, .int v1] h (some (.int x)) h := by
  refine xC_of (by decide) (Nat.le_of_ble_eq_true rfl) hx (fun κ x => κ.2.2.2.1 = some (.int x) ∧ κ.2.2.2.2 = h) ⟨rfl, rfl⟩ (fun κ => ?_)
  show xJ iX4_byteAt κ _ 0 [(0, .ref v0), (1, .int v1)] [] h (fX4_byteAt v0 v1 h)
  unfold fX4_byteAt
  refine j_have (pj := 22) (Lf := fun v : Int32 => []) (Sf := fun v : Int32 => [.int v]) (Hf := fun v : Int32 => h) (jf := fun v : Int32 => fX4_byteAt_j22 v h) (fun v => ?_) (fun hj22 => ?_)
  · generalize v = t0
    show xJ iX4_byteAt κ _ 22 [] [.int t0] h (fX4_byteAt_j22 t0 h)
    unfold fX4_byteAt_j22
    exact j_iret t0 dX4_byteAt_22 rfl (fun q => q)
  refine j_have (pj := 21) (Lf := fun v : Unit => []) (Sf := fun v : Unit => []) (Hf := fun v : Unit => h) (jf := fun v : Unit => fX4_byteAt_j21 h) (fun v => ?_) (fun hj21 => ?_)
  · skip
    show xJ iX4_byteAt κ _ 21 [] [] h (fX4_byteAt_j21 h)
    unfold fX4_byteAt_j21
    refine j_iconst (x := (-1)) dX4_byteAt_21 (by decide) ?_
    refine j_pick [] rfl ?_
    exact hj22 (-1)
  refine j_iload_n 1 dX4_byteAt_0 rfl rfl ?_
  refine j_if_lt (tgt := 21) dX4_byteAt_1 (by decide) (fun c1 => ?_) (fun c1 => ?_)
  · refine j_pick [] rfl ?_
    exact hj21 ()
  · refine j_iload_n 1 dX4_byteAt_4 rfl rfl ?_
    refine j_aload_n 0 dX4_byteAt_5 rfl rfl ?_
    refine j_getI 4 8 1 dX4_byteAt_6 fl_RX4_22 (by decide) rfl (by decide) rfl (fun x2 => ?_)
    refine j_icmp_ge (tgt := 21) dX4_byteAt_9 (by decide) (fun c3 => ?_) (fun c3 => ?_)
    · refine j_pick [] rfl ?_
      exact hj21 ()
    · refine j_aload_n 0 dX4_byteAt_12 rfl rfl ?_
      refine j_getR 4 8 0 dX4_byteAt_13 fl_RX4_9 (by decide) rfl (by decide) (fun _ _ _ => rfl) (fun x4 => ?_)
      refine j_iload_n 1 dX4_byteAt_16 rfl rfl ?_
      refine j_iald dX4_byteAt_17 (fun x5 => ?_)
      refine j_goto (tgt := 22) dX4_byteAt_18 (by decide) ?_
      refine j_pick [] rfl ?_
      exact hj22 x5
def fX4_step_j158  (h : Hp) : Option (Hp) :=
  some h
def fX4_step_j145 (v0 : Nat) (t0 : Int32) (t1 : Nat) (h : Hp) : Option (Hp) :=
  (xpI h t1 (4, 8) 6 t0).bind fun h1 => (xgI h1 v0 (4, 8) 4).bind fun x2 => (xpI h1 v0 (4, 8) 5 (x2 + 1)).bind fun h3 => fX4_step_j158 h3
def fX4_step_j127 (t0 : Int32) (t1 : Nat) (h : Hp) : Option (Hp) :=
  (xpI h t1 (4, 8) 6 t0).bind fun h4 => fX4_step_j158 h4
def fX4_step (v0 : Nat) (h : Hp) : Option (Hp) :=
  (xgI h v0 (4, 8) 5).bind fun x5 => (xat h v0 (4, 8) (fX4_endOfRun v0 x5 32 32 h)).bind fun x6 => (xpI h v0 (4, 8) 4 x6).bind fun h7 => (xgI h7 v0 (4, 8) 4).bind fun x8 => (xat h7 v0 (4, 8) (fX4_byteAt v0 x8 h7)).bind fun x9 => if (x9 : Int32) = (-1) then ((xpI h7 v0 (4, 8) 6 0).bind fun h11 => (xgI h11 v0 (4, 8) 4).bind fun x12 => (xpI h11 v0 (4, 8) 5 x12).bind fun h13 => fX4_step_j158 h13) else ((fX8_within x9 97 122 h7).bind fun x14 => if (x14 : Int32) = 0 then ((fX8_within x9 48 57 h7).bind fun x16 => if (x16 : Int32) = 0 then (if (x9 : Int32) = 59 then (fX4_step_j145 v0 3 v0 h7) else (fX4_step_j145 v0 4 v0 h7)) else ((xgI h7 v0 (4, 8) 4).bind fun x19 => (xat h7 v0 (4, 8) (fX4_endOfRun v0 x19 48 57 h7)).bind fun x20 => (xpI h7 v0 (4, 8) 5 x20).bind fun h21 => (xgI h21 v0 (4, 8) 5).bind fun x22 => (xgI h21 v0 (4, 8) 4).bind fun x23 => if (2 : Int32) < (x22 - x23) then (fX4_step_j127 4 v0 h21) else (fX4_step_j127 2 v0 h21))) else ((xpI h7 v0 (4, 8) 6 1).bind fun h25 => (xgI h25 v0 (4, 8) 4).bind fun x26 => (xat h25 v0 (4, 8) (fX4_endOfRun v0 x26 97 122 h25)).bind fun x27 => (xpI h25 v0 (4, 8) 5 x27).bind fun h28 => fX4_step_j158 h28))
abbrev iX4_step : xI := (cX4_step, yX4_step.cls, yX4_step.name, none, 2, 3)
set_option maxHeartbeats 4000000 in
set_option maxRecDepth 100000 in
theorem kX4_step (l : Launch) (η : xEnv) (v0 : Nat) (h : Hp) (x : Hp) (hx : fX4_step v0 h = some x) : xC l η yX4_step cX4_step 2 none 3 [.ref v0] h none x := by
  refine xC_of (by decide) (Nat.le_of_ble_eq_true rfl) hx (fun κ x => κ.2.2.2.1 = none ∧ κ.2.2.2.2 = x) ⟨rfl, rfl⟩ (fun κ => ?_)
  show xJ iX4_step κ _ 0 [(0, .ref v0)] [] h (fX4_step v0 h)
  unfold fX4_step
  refine j_have (pj := 158) (Lf := fun v : Hp => []) (Sf := fun v : Hp => []) (Hf := fun v : Hp => v) (jf := fun v : Hp => fX4_step_j158 v) (fun v => ?_) (fun hj158 => ?_)
  · generalize v = h
    show xJ iX4_step κ _ 158 [] [] h (fX4_step_j158 h)
    unfold fX4_step_j158
    exact j_vret h dX4_step_158 rfl (fun q => q)
  refine j_have (pj := 145) (Lf := fun v : Int32 × Nat × Hp => [(0, .ref v0)]) (Sf := fun v : Int32 × Nat × Hp => [.int v.1, .ref v.2.1]) (Hf := fun v : Int32 × Nat × Hp => v.2.2) (jf := fun v : Int32 × Nat × Hp => fX4_step_j145 v0 v.1 v.2.1 v.2.2) (fun v => ?_) (fun hj145 => ?_)
  · obtain ⟨t0, t1, h⟩ := v
    show xJ iX4_step κ _ 145 [(0, .ref v0)] [.int t0, .ref t1] h (fX4_step_j145 v0 t0 t1 h)
    unfold fX4_step_j145
    refine j_putI 4 8 6 dX4_step_145 fl_RX4_48 (by decide) rfl (by decide) rfl rfl (fun h1 => ?_)
    refine j_aload_n 0 dX4_step_148 rfl rfl ?_
    refine j_aload_n 0 dX4_step_149 rfl rfl ?_
    refine j_getI 4 8 4 dX4_step_150 fl_RX4_104 (by decide) rfl (by decide) rfl (fun x2 => ?_)
    refine j_iconst (x := 1) dX4_step_153 (by decide) ?_
    refine j_iadd dX4_step_154 ?_
    refine j_putI 4 8 5 dX4_step_155 fl_RX4_29 (by decide) rfl (by decide) rfl rfl (fun h3 => ?_)
    refine j_pick [] rfl ?_
    exact hj158 h3
  refine j_have (pj := 127) (Lf := fun v : Int32 × Nat × Hp => []) (Sf := fun v : Int32 × Nat × Hp => [.int v.1, .ref v.2.1]) (Hf := fun v : Int32 × Nat × Hp => v.2.2) (jf := fun v : Int32 × Nat × Hp => fX4_step_j127 v.1 v.2.1 v.2.2) (fun v => ?_) (fun hj127 => ?_)
  · obtain ⟨t0, t1, h⟩ := v
    show xJ iX4_step κ _ 127 [] [.int t0, .ref t1] h (fX4_step_j127 t0 t1 h)
    unfold fX4_step_j127
    refine j_putI 4 8 6 dX4_step_127 fl_RX4_48 (by decide) rfl (by decide) rfl rfl (fun h4 => ?_)
    refine j_goto (tgt := 158) dX4_step_130 (by decide) ?_
    refine j_pick [] rfl ?_
    exact hj158 h4
  refine j_aload_n 0 dX4_step_0 rfl rfl ?_
  refine j_aload_n 0 dX4_step_1 rfl rfl ?_
  refine j_aload_n 0 dX4_step_2 rfl rfl ?_
  refine j_getI 4 8 5 dX4_step_3 fl_RX4_29 (by decide) rfl (by decide) rfl (fun x5 => ?_)
  refine j_bipush (x := 32) dX4_step_6 (by decide) ?_
  refine j_bipush (x := 32) dX4_step_8 (by decide) ?_
  refine j_callV (as := [.int x5, .int 32, .int 32]) (fun x => some (.int x)) (fun _ => h) 4 8 dX4_step_10 ml_RX4_119 tg_X4_endOfRun im_X4_endOfRun se_X4_endOfRun rfl (by decide) (fun x hx => kX4_endOfRun κ.1 κ.2.1 v0 x5 32 32 h x hx) (by decide) (by decide) rfl rfl (Nat.le_of_ble_eq_true rfl) (fun x6 => ?_)
  show xJ iX4_step κ _ 13 [(0, .ref v0)] [.int x6, .ref v0] h _
  refine j_putI 4 8 4 dX4_step_13 fl_RX4_104 (by decide) rfl (by decide) rfl rfl (fun h7 => ?_)
  refine j_aload_n 0 dX4_step_16 rfl rfl ?_
  refine j_aload_n 0 dX4_step_17 rfl rfl ?_
  refine j_getI 4 8 4 dX4_step_18 fl_RX4_104 (by decide) rfl (by decide) rfl (fun x8 => ?_)
  refine j_callV (as := [.int x8]) (fun x => some (.int x)) (fun _ => h7) 4 8 dX4_step_21 ml_RX4_111 tg_X4_byteAt im_X4_byteAt se_X4_byteAt rfl (by decide) (fun x hx => kX4_byteAt κ.1 κ.2.1 v0 x8 h7 x hx) (by decide) (by decide) rfl rfl (Nat.le_of_ble_eq_true rfl) (fun x9 => ?_)
  show xJ iX4_step κ _ 24 [(0, .ref v0)] [.int x9] h7 _
  refine j_istore_n (L' := [(1, .int x9), (0, .ref v0)]) dX4_step_24 rfl (Nat.le_of_ble_eq_true rfl) rfl ?_
  refine j_iload_n 0 dX4_step_25 rfl rfl ?_
  refine j_iconst (x := (-1)) dX4_step_26 (by decide) ?_
  refine j_icmp_ne (tgt := 46) dX4_step_27 (by decide) (fun c10 => ?_) (fun c10 => ?_)
  · refine j_aload_n 1 dX4_step_30 rfl rfl ?_
    refine j_iconst (x := 0) dX4_step_31 (by decide) ?_
    refine j_putI 4 8 6 dX4_step_32 fl_RX4_48 (by decide) rfl (by decide) rfl rfl (fun h11 => ?_)
    refine j_aload_n 1 dX4_step_35 rfl rfl ?_
    refine j_aload_n 1 dX4_step_36 rfl rfl ?_
    refine j_getI 4 8 4 dX4_step_37 fl_RX4_104 (by decide) rfl (by decide) rfl (fun x12 => ?_)
    refine j_putI 4 8 5 dX4_step_40 fl_RX4_29 (by decide) rfl (by decide) rfl rfl (fun h13 => ?_)
    refine j_goto (tgt := 158) dX4_step_43 (by decide) ?_
    refine j_pick [] rfl ?_
    exact hj158 h13
  · refine j_iload_n 0 dX4_step_46 rfl rfl ?_
    refine j_bipush (x := 97) dX4_step_47 (by decide) ?_
    refine j_bipush (x := 122) dX4_step_49 (by decide) ?_
    refine j_callSN (as := [.int x9, .int 97, .int 122]) (fun x => some (.int x)) (fun _ => h7) dX4_step_51 nl_RX4_82 tg_X8_within st_X8_within (fun x hx => kX8_within κ.1 κ.2.1 x9 97 122 h7 x hx) (by decide) (by decide) rfl rfl (Nat.le_of_ble_eq_true rfl) (fun x14 => ?_)
    show xJ iX4_step κ _ 54 [(1, .int x9), (0, .ref v0)] [.int x14] h7 _
    refine j_if_eq (tgt := 81) dX4_step_54 (by decide) (fun c15 => ?_) (fun c15 => ?_)
    · refine j_iload_n 0 dX4_step_81 rfl rfl ?_
      refine j_bipush (x := 48) dX4_step_82 (by decide) ?_
      refine j_bipush (x := 57) dX4_step_84 (by decide) ?_
      refine j_callSN (as := [.int x9, .int 48, .int 57]) (fun x => some (.int x)) (fun _ => h7) dX4_step_86 nl_RX4_82 tg_X8_within st_X8_within (fun x hx => kX8_within κ.1 κ.2.1 x9 48 57 h7 x hx) (by decide) (by decide) rfl rfl (Nat.le_of_ble_eq_true rfl) (fun x16 => ?_)
      show xJ iX4_step κ _ 89 [(1, .int x9), (0, .ref v0)] [.int x16] h7 _
      refine j_if_eq (tgt := 133) dX4_step_89 (by decide) (fun c17 => ?_) (fun c17 => ?_)
      · refine j_aload_n 1 dX4_step_133 rfl rfl ?_
        refine j_iload_n 0 dX4_step_134 rfl rfl ?_
        refine j_bipush (x := 59) dX4_step_135 (by decide) ?_
        refine j_icmp_ne (tgt := 144) dX4_step_137 (by decide) (fun c18 => ?_) (fun c18 => ?_)
        · refine j_iconst (x := 3) dX4_step_140 (by decide) ?_
          refine j_goto (tgt := 145) dX4_step_141 (by decide) ?_
          refine j_pick [1] rfl ?_
          exact hj145 (3, v0, h7)
        · refine j_iconst (x := 4) dX4_step_144 (by decide) ?_
          refine j_pick [1] rfl ?_
          exact hj145 (4, v0, h7)
      · refine j_aload_n 1 dX4_step_92 rfl rfl ?_
        refine j_aload_n 1 dX4_step_93 rfl rfl ?_
        refine j_aload_n 1 dX4_step_94 rfl rfl ?_
        refine j_getI 4 8 4 dX4_step_95 fl_RX4_104 (by decide) rfl (by decide) rfl (fun x19 => ?_)
        refine j_bipush (x := 48) dX4_step_98 (by decide) ?_
        refine j_bipush (x := 57) dX4_step_100 (by decide) ?_
        refine j_callV (as := [.int x19, .int 48, .int 57]) (fun x => some (.int x)) (fun _ => h7) 4 8 dX4_step_102 ml_RX4_119 tg_X4_endOfRun im_X4_endOfRun se_X4_endOfRun rfl (by decide) (fun x hx => kX4_endOfRun κ.1 κ.2.1 v0 x19 48 57 h7 x hx) (by decide) (by decide) rfl rfl (Nat.le_of_ble_eq_true rfl) (fun x20 => ?_)
        show xJ iX4_step κ _ 105 [(1, .int x9), (0, .ref v0)] [.int x20, .ref v0] h7 _
        refine j_putI 4 8 5 dX4_step_105 fl_RX4_29 (by decide) rfl (by decide) rfl rfl (fun h21 => ?_)
        refine j_aload_n 1 dX4_step_108 rfl rfl ?_
        refine j_aload_n 1 dX4_step_109 rfl rfl ?_
        refine j_getI 4 8 5 dX4_step_110 fl_RX4_29 (by decide) rfl (by decide) rfl (fun x22 => ?_)
        refine j_aload_n 1 dX4_step_113 rfl rfl ?_
        refine j_getI 4 8 4 dX4_step_114 fl_RX4_104 (by decide) rfl (by decide) rfl (fun x23 => ?_)
        refine j_isub dX4_step_117 ?_
        refine j_iconst (x := 2) dX4_step_118 (by decide) ?_
        refine j_icmp_gt (tgt := 126) dX4_step_119 (by decide) (fun c24 => ?_) (fun c24 => ?_)
        · refine j_iconst (x := 4) dX4_step_126 (by decide) ?_
          refine j_pick [] rfl ?_
          exact hj127 (4, v0, h21)
        · refine j_iconst (x := 2) dX4_step_122 (by decide) ?_
          refine j_goto (tgt := 127) dX4_step_123 (by decide) ?_
          refine j_pick [] rfl ?_
          exact hj127 (2, v0, h21)
    · refine j_aload_n 1 dX4_step_57 rfl rfl ?_
      refine j_iconst (x := 1) dX4_step_58 (by decide) ?_
      refine j_putI 4 8 6 dX4_step_59 fl_RX4_48 (by decide) rfl (by decide) rfl rfl (fun h25 => ?_)
      refine j_aload_n 1 dX4_step_62 rfl rfl ?_
      refine j_aload_n 1 dX4_step_63 rfl rfl ?_
      refine j_aload_n 1 dX4_step_64 rfl rfl ?_
      refine j_getI 4 8 4 dX4_step_65 fl_RX4_104 (by decide) rfl (by decide) rfl (fun x26 => ?_)
      refine j_bipush (x := 97) dX4_step_68 (by decide) ?_
      refine j_bipush (x := 122) dX4_step_70 (by decide) ?_
      refine j_callV (as := [.int x26, .int 97, .int 122]) (fun x => some (.int x)) (fun _ => h25) 4 8 dX4_step_72 ml_RX4_119 tg_X4_endOfRun im_X4_endOfRun se_X4_endOfRun rfl (by decide) (fun x hx => kX4_endOfRun κ.1 κ.2.1 v0 x26 97 122 h25 x hx) (by decide) (by decide) rfl rfl (Nat.le_of_ble_eq_true rfl) (fun x27 => ?_)
      show xJ iX4_step κ _ 75 [(1, .int x9), (0, .ref v0)] [.int x27, .ref v0] h25 _
      refine j_putI 4 8 5 dX4_step_75 fl_RX4_29 (by decide) rfl (by decide) rfl rfl (fun h28 => ?_)
      refine j_goto (tgt := 158) dX4_step_78 (by decide) ?_
      refine j_pick [] rfl ?_
      exact hj158 h28
def fX4_isWord_j24  (h : Hp) : Option (Int32) :=
  some 0
def fX4_isWord_b28 (v0 : Nat) (v1 : UInt32) (h : Hp) (s28 : Int32) : Option ((Int32) ⊕ ((Unit) ⊕ (Unit))) :=
  (xsl v1).bind fun x7 => if (x7 : Int32) ≤ s28 then (some (Sum.inr (Sum.inr ()))) else ((xgI h v0 (4, 8) 4).bind fun x9 => (xat h v0 (4, 8) (fX4_byteAt v0 (x9 + s28) h)).bind fun x10 => (xsc v1 s28).bind fun x11 => if (x10 : Int32) = x11 then (some (Sum.inl (s28 + 1))) else (some (Sum.inr (Sum.inl ()))))
def fX4_isWord (v0 : Nat) (v1 : UInt32) (h : Hp) : Option (Int32) :=
  (xgI h v0 (4, 8) 6).bind fun x1 => if (x1 : Int32) = 1 then ((xgI h v0 (4, 8) 5).bind fun x3 => (xgI h v0 (4, 8) 4).bind fun x4 => (xsl v1).bind fun x5 => if (x3 - x4 : Int32) = x5 then ((xloop (fX4_isWord_b28 v0 v1 h) 1000000 0).bind (fun q => match q with | .inl r28 => (some 0) | .inr r28 => (some 1))) else (fX4_isWord_j24 h)) else (fX4_isWord_j24 h)
abbrev iX4_isWord : xI := (cX4_isWord, yX4_isWord.cls, yX4_isWord.name, some .boolean, 3, 10)
set_option maxHeartbeats 4000000 in
set_option maxRecDepth 100000 in
theorem kX4_isWord (l : Launch) (η : xEnv) (v0 : Nat) (v1 : UInt32) (h : Hp) (x : Int32) (hx : fX4_isWord v0 v1 h = some x) : xC l η yX4_isWord cX4_isWord 3 (some .boolean) 10 [.ref v0, .float v1] h (some (.int x)) h := by
  refine xC_of (by decide) (Nat.le_of_ble_eq_true rfl) hx (fun κ x => κ.2.2.2.1 = some (.int x) ∧ κ.2.2.2.2 = h) ⟨rfl, rfl⟩ (fun κ => ?_)
  show xJ iX4_isWord κ _ 0 [(0, .ref v0), (1, .float v1)] [] h (fX4_isWord v0 v1 h)
  unfold fX4_isWord
  refine j_have (pj := 24) (Lf := fun v : Unit => []) (Sf := fun v : Unit => []) (Hf := fun v : Unit => h) (jf := fun v : Unit => fX4_isWord_j24 h) (fun v => ?_) (fun hj24 => ?_)
  · skip
    show xJ iX4_isWord κ _ 24 [] [] h (fX4_isWord_j24 h)
    unfold fX4_isWord_j24
    refine j_iconst (x := 0) dX4_isWord_24 (by decide) ?_
    exact j_zret 0 dX4_isWord_25 rfl rfl (fun q => q)
  refine j_aload_n 0 dX4_isWord_0 rfl rfl ?_
  refine j_getI 4 8 6 dX4_isWord_1 fl_RX4_48 (by decide) rfl (by decide) rfl (fun x1 => ?_)
  refine j_iconst (x := 1) dX4_isWord_4 (by decide) ?_
  refine j_icmp_ne (tgt := 24) dX4_isWord_5 (by decide) (fun c2 => ?_) (fun c2 => ?_)
  · refine j_aload_n 0 dX4_isWord_8 rfl rfl ?_
    refine j_getI 4 8 5 dX4_isWord_9 fl_RX4_29 (by decide) rfl (by decide) rfl (fun x3 => ?_)
    refine j_aload_n 0 dX4_isWord_12 rfl rfl ?_
    refine j_getI 4 8 4 dX4_isWord_13 fl_RX4_104 (by decide) rfl (by decide) rfl (fun x4 => ?_)
    refine j_isub dX4_isWord_16 ?_
    refine j_sload_n 1 dX4_isWord_17 rfl rfl ?_
    refine j_slen dX4_isWord_18 ml_RX4_107 (by decide) (Nat.le_of_ble_eq_true rfl) (fun x5 => ?_)
    refine j_icmp_eq (tgt := 26) dX4_isWord_21 (by decide) (fun c6 => ?_) (fun c6 => ?_)
    · refine j_iconst (x := 0) dX4_isWord_26 (by decide) ?_
      refine j_istore_n (L' := [(2, .int 0), (0, .ref v0), (1, .float v1)]) dX4_isWord_27 rfl (Nat.le_of_ble_eq_true rfl) rfl ?_
      refine j_pick [1, 2, 0] rfl ?_
      refine j_loop (pc := 28) (Lf := fun s28 : Int32 => [(0, .ref v0), (1, .float v1), (2, .int s28)]) (Hf := fun s28 : Int32 => h) (fun s28 => ?_) 1000000 0
      show xJ iX4_isWord κ _ 28 [(0, .ref v0), (1, .float v1), (2, .int s28)] [] h (fX4_isWord_b28 v0 v1 h s28)
      unfold fX4_isWord_b28
      refine j_iload_n 2 dX4_isWord_28 rfl rfl ?_
      refine j_sload_n 1 dX4_isWord_29 rfl rfl ?_
      refine j_slen dX4_isWord_30 ml_RX4_107 (by decide) (Nat.le_of_ble_eq_true rfl) (fun x7 => ?_)
      refine j_icmp_ge (tgt := 62) dX4_isWord_33 (by decide) (fun c8 => ?_) (fun c8 => ?_)
      · refine j_exit (Sum.inr ()) ?_
        try dsimp only
        refine j_iconst (x := 1) dX4_isWord_62 (by decide) ?_
        exact j_zret 1 dX4_isWord_63 rfl rfl (fun q => q)
      · refine j_aload_n 0 dX4_isWord_36 rfl rfl ?_
        refine j_aload_n 0 dX4_isWord_37 rfl rfl ?_
        refine j_getI 4 8 4 dX4_isWord_38 fl_RX4_104 (by decide) rfl (by decide) rfl (fun x9 => ?_)
        refine j_iload_n 2 dX4_isWord_41 rfl rfl ?_
        refine j_iadd dX4_isWord_42 ?_
        refine j_callV (as := [.int (x9 + s28)]) (fun x => some (.int x)) (fun _ => h) 4 8 dX4_isWord_43 ml_RX4_111 tg_X4_byteAt im_X4_byteAt se_X4_byteAt rfl (by decide) (fun x hx => kX4_byteAt κ.1 κ.2.1 v0 (x9 + s28) h x hx) (by decide) (by decide) rfl rfl (Nat.le_of_ble_eq_true rfl) (fun x10 => ?_)
        show xJ iX4_isWord κ _ 46 [(0, .ref v0), (1, .float v1), (2, .int s28)] [.int x10] h _
        refine j_sload_n 1 dX4_isWord_46 rfl rfl ?_
        refine j_iload_n 2 dX4_isWord_47 rfl rfl ?_
        refine j_schar dX4_isWord_48 ml_RX4_115 (by decide) (Nat.le_of_ble_eq_true rfl) (fun x11 => ?_)
        refine j_icmp_eq (tgt := 56) dX4_isWord_51 (by decide) (fun c12 => ?_) (fun c12 => ?_)
        · refine j_iinc (y := s28 + 1) (L' := [(2, .int (s28 + 1)), (0, .ref v0), (1, .float v1)]) 2 dX4_isWord_56 rfl rfl (Nat.le_of_ble_eq_true rfl) rfl ?_
          refine j_goto (tgt := 28) dX4_isWord_59 (by decide) ?_
          refine j_pick [1, 2, 0] rfl ?_
          exact j_again (s28 + 1) rfl rfl
        · refine j_exit (Sum.inl ()) ?_
          try dsimp only
          refine j_iconst (x := 0) dX4_isWord_54 (by decide) ?_
          exact j_zret 0 dX4_isWord_55 rfl rfl (fun q => q)
    · refine j_pick [] rfl ?_
      exact hj24 ()
  · refine j_pick [] rfl ?_
    exact hj24 ()
def fX4_valueOfFigures_b7 (v0 : Nat) (h : Hp) (s7 : Int32 × Int32) : Option ((Int32 × Int32) ⊕ ((Int32))) :=
  (xgI h v0 (4, 8) 5).bind fun x2 => if (x2 : Int32) ≤ s7.2 then (some (Sum.inr s7.1)) else ((xat h v0 (4, 8) (fX4_byteAt v0 s7.2 h)).bind fun x4 => some (Sum.inl (((10 * s7.1) + x4) - 48, s7.2 + 1)))
def fX4_valueOfFigures (v0 : Nat) (h : Hp) : Option (Int32) :=
  (xgI h v0 (4, 8) 4).bind fun x1 => (xloop (fX4_valueOfFigures_b7 v0 h) 1000000 (0, x1)).bind (fun r7 => some r7)
abbrev iX4_valueOfFigures : xI := (cX4_valueOfFigures, yX4_valueOfFigures.cls, yX4_valueOfFigures.name, some .int, 3, 3)
set_option maxHeartbeats 4000000 in
set_option maxRecDepth 100000 in
theorem kX4_valueOfFigures (l : Launch) (η : xEnv) (v0 : Nat) (h : Hp) (x : Int32) (hx : fX4_valueOfFigures v0 h = some x) : xC l η yX4_valueOfFigures cX4_valueOfFigures 3 (some .int) 3 [.ref v0] h (some (.int x)) h := by
  refine xC_of (by decide) (Nat.le_of_ble_eq_true rfl) hx (fun κ x => κ.2.2.2.1 = some (.int x) ∧ κ.2.2.2.2 = h) ⟨rfl, rfl⟩ (fun κ => ?_)
  show xJ iX4_valueOfFigures κ _ 0 [(0, .ref v0)] [] h (fX4_valueOfFigures v0 h)
  unfold fX4_valueOfFigures
  refine j_iconst (x := 0) dX4_valueOfFigures_0 (by decide) ?_
  refine j_istore_n (L' := [(1, .int 0), (0, .ref v0)]) dX4_valueOfFigures_1 rfl (Nat.le_of_ble_eq_true rfl) rfl ?_
  refine j_aload_n 1 dX4_valueOfFigures_2 rfl rfl ?_
  refine j_getI 4 8 4 dX4_valueOfFigures_3 fl_RX4_104 (by decide) rfl (by decide) rfl (fun x1 => ?_)
  refine j_istore_n (L' := [(2, .int x1), (1, .int 0), (0, .ref v0)]) dX4_valueOfFigures_6 rfl (Nat.le_of_ble_eq_true rfl) rfl ?_
  refine j_pick [2, 1, 0] rfl ?_
  refine j_loop (pc := 7) (Lf := fun s7 : Int32 × Int32 => [(0, .ref v0), (1, .int s7.1), (2, .int s7.2)]) (Hf := fun s7 : Int32 × Int32 => h) (fun s7 => ?_) 1000000 (0, x1)
  show xJ iX4_valueOfFigures κ _ 7 [(0, .ref v0), (1, .int s7.1), (2, .int s7.2)] [] h (fX4_valueOfFigures_b7 v0 h s7)
  unfold fX4_valueOfFigures_b7
  refine j_iload_n 2 dX4_valueOfFigures_7 rfl rfl ?_
  refine j_aload_n 0 dX4_valueOfFigures_8 rfl rfl ?_
  refine j_getI 4 8 5 dX4_valueOfFigures_9 fl_RX4_29 (by decide) rfl (by decide) rfl (fun x2 => ?_)
  refine j_icmp_ge (tgt := 35) dX4_valueOfFigures_12 (by decide) (fun c3 => ?_) (fun c3 => ?_)
  · refine j_exit s7.1 ?_
    show xJ iX4_valueOfFigures κ _ _ _ _ _ (some s7.1)
    refine j_iload_n 1 dX4_valueOfFigures_35 rfl rfl ?_
    exact j_iret s7.1 dX4_valueOfFigures_36 rfl (fun q => q)
  · refine j_bipush (x := 10) dX4_valueOfFigures_15 (by decide) ?_
    refine j_iload_n 1 dX4_valueOfFigures_17 rfl rfl ?_
    refine j_imul dX4_valueOfFigures_18 ?_
    refine j_aload_n 0 dX4_valueOfFigures_19 rfl rfl ?_
    refine j_iload_n 2 dX4_valueOfFigures_20 rfl rfl ?_
    refine j_callV (as := [.int s7.2]) (fun x => some (.int x)) (fun _ => h) 4 8 dX4_valueOfFigures_21 ml_RX4_111 tg_X4_byteAt im_X4_byteAt se_X4_byteAt rfl (by decide) (fun x hx => kX4_byteAt κ.1 κ.2.1 v0 s7.2 h x hx) (by decide) (by decide) rfl rfl (Nat.le_of_ble_eq_true rfl) (fun x4 => ?_)
    show xJ iX4_valueOfFigures κ _ 24 [(0, .ref v0), (1, .int s7.1), (2, .int s7.2)] [.int x4, .int (10 * s7.1)] h _
    refine j_iadd dX4_valueOfFigures_24 ?_
    refine j_bipush (x := 48) dX4_valueOfFigures_25 (by decide) ?_
    refine j_isub dX4_valueOfFigures_27 ?_
    refine j_istore_n (L' := [(1, .int (((10 * s7.1) + x4) - 48)), (0, .ref v0), (2, .int s7.2)]) dX4_valueOfFigures_28 rfl (Nat.le_of_ble_eq_true rfl) rfl ?_
    refine j_iinc (y := s7.2 + 1) (L' := [(2, .int (s7.2 + 1)), (1, .int (((10 * s7.1) + x4) - 48)), (0, .ref v0)]) 2 dX4_valueOfFigures_29 rfl rfl (Nat.le_of_ble_eq_true rfl) rfl ?_
    refine j_goto (tgt := 7) dX4_valueOfFigures_32 (by decide) ?_
    refine j_pick [2, 1, 0] rfl ?_
    exact j_again (((10 * s7.1) + x4) - 48, s7.2 + 1) rfl rfl
def fX4_readNumber (v0 : Nat) (v1 : Int32) (v2 : Int32) (h : Hp) : Option (Int32 × Hp) :=
  (xat h v0 (4, 8) (fX4_step v0 h)).bind fun h1 => (xgI h1 v0 (4, 8) 6).bind fun x2 => if (x2 : Int32) = 2 then ((xat h1 v0 (4, 8) (fX4_valueOfFigures v0 h1)).bind fun x4 => (xpI h1 v0 (4, 8) 7 x4).bind fun h5 => (xgI h5 v0 (4, 8) 7).bind fun x6 => (fX8_within x6 v1 v2 h5).bind fun x7 => if vp_nar .boolean x7 = x7 then some (x7, h5) else none) else (some (0, h1))
abbrev iX4_readNumber : xI := (cX4_readNumber, yX4_readNumber.cls, yX4_readNumber.name, some .boolean, 3, 4)
set_option maxHeartbeats 4000000 in
set_option maxRecDepth 100000 in
theorem kX4_readNumber (l : Launch) (η : xEnv) (v0 : Nat) (v1 : Int32) (v2 : Int32) (h : Hp) (x : Int32 × Hp) (hx : fX4_readNumber v0 v1 v2 h = some x) : xC l η yX4_readNumber cX4_readNumber 3 (some .boolean) 4 [.ref v0, .int v1, .int v2] h (some (.int x.1)) x.2 := by
  refine xC_of (by decide) (Nat.le_of_ble_eq_true rfl) hx (fun κ x => κ.2.2.2.1 = some (.int x.1) ∧ κ.2.2.2.2 = x.2) ⟨rfl, rfl⟩ (fun κ => ?_)
  show xJ iX4_readNumber κ _ 0 [(0, .ref v0), (1, .int v1), (2, .int v2)] [] h (fX4_readNumber v0 v1 v2 h)
  unfold fX4_readNumber
  refine j_aload_n 0 dX4_readNumber_0 rfl rfl ?_
  refine j_callV (as := []) (fun _ => none) (fun x => x) 4 8 dX4_readNumber_1 ml_RX4_32 tg_X4_step im_X4_step se_X4_step rfl (by decide) (fun x hx => kX4_step κ.1 κ.2.1 v0 h x hx) (by decide) (by decide) rfl rfl (Nat.le_of_ble_eq_true rfl) (fun h1 => ?_)
  show xJ iX4_readNumber κ _ 4 [(0, .ref v0), (1, .int v1), (2, .int v2)] [] h1 _
  refine j_aload_n 0 dX4_readNumber_4 rfl rfl ?_
  refine j_getI 4 8 6 dX4_readNumber_5 fl_RX4_48 (by decide) rfl (by decide) rfl (fun x2 => ?_)
  refine j_iconst (x := 2) dX4_readNumber_8 (by decide) ?_
  refine j_icmp_eq (tgt := 14) dX4_readNumber_9 (by decide) (fun c3 => ?_) (fun c3 => ?_)
  · refine j_aload_n 0 dX4_readNumber_14 rfl rfl ?_
    refine j_aload_n 0 dX4_readNumber_15 rfl rfl ?_
    refine j_callV (as := []) (fun x => some (.int x)) (fun _ => h1) 4 8 dX4_readNumber_16 ml_RX4_100 tg_X4_valueOfFigures im_X4_valueOfFigures se_X4_valueOfFigures rfl (by decide) (fun x hx => kX4_valueOfFigures κ.1 κ.2.1 v0 h1 x hx) (by decide) (by decide) rfl rfl (Nat.le_of_ble_eq_true rfl) (fun x4 => ?_)
    show xJ iX4_readNumber κ _ 19 [(0, .ref v0), (1, .int v1), (2, .int v2)] [.int x4, .ref v0] h1 _
    refine j_putI 4 8 7 dX4_readNumber_19 fl_RX4_73 (by decide) rfl (by decide) rfl rfl (fun h5 => ?_)
    refine j_aload_n 0 dX4_readNumber_22 rfl rfl ?_
    refine j_getI 4 8 7 dX4_readNumber_23 fl_RX4_73 (by decide) rfl (by decide) rfl (fun x6 => ?_)
    refine j_iload_n 1 dX4_readNumber_26 rfl rfl ?_
    refine j_iload_n 2 dX4_readNumber_27 rfl rfl ?_
    refine j_callSN (as := [.int x6, .int v1, .int v2]) (fun x => some (.int x)) (fun _ => h5) dX4_readNumber_28 nl_RX4_82 tg_X8_within st_X8_within (fun x hx => kX8_within κ.1 κ.2.1 x6 v1 v2 h5 x hx) (by decide) (by decide) rfl rfl (Nat.le_of_ble_eq_true rfl) (fun x7 => ?_)
    show xJ iX4_readNumber κ _ 31 [(0, .ref v0), (1, .int v1), (2, .int v2)] [.int x7] h5 _
    exact j_zretc (x7, h5) dX4_readNumber_31 rfl (fun q => q)
  · refine j_iconst (x := 0) dX4_readNumber_12 (by decide) ?_
    exact j_zret (0, h1) dX4_readNumber_13 rfl rfl (fun q => q)
def fX4_readMark_j17 (t0 : Int32) (h : Hp) : Option (Int32 × Hp) :=
  if vp_nar .boolean t0 = t0 then some (t0, h) else none
def fX4_readMark (v0 : Nat) (h : Hp) : Option (Int32 × Hp) :=
  (xat h v0 (4, 8) (fX4_step v0 h)).bind fun h1 => (xgI h1 v0 (4, 8) 6).bind fun x2 => if (x2 : Int32) = 3 then (fX4_readMark_j17 1 h1) else (fX4_readMark_j17 0 h1)
abbrev iX4_readMark : xI := (cX4_readMark, yX4_readMark.cls, yX4_readMark.name, some .boolean, 1, 4)
set_option maxHeartbeats 4000000 in
set_option maxRecDepth 100000 in
theorem kX4_readMark (l : Launch) (η : xEnv) (v0 : Nat) (h : Hp) (x : Int32 × Hp) (hx : fX4_readMark v0 h = some x) : xC l η yX4_readMark cX4_readMark 1 (some .boolean) 4 [.ref v0] h (some (.int x.1)) x.2 := by
  refine xC_of (by decide) (Nat.le_of_ble_eq_true rfl) hx (fun κ x => κ.2.2.2.1 = some (.int x.1) ∧ κ.2.2.2.2 = x.2) ⟨rfl, rfl⟩ (fun κ => ?_)
  show xJ iX4_readMark κ _ 0 [(0, .ref v0)] [] h (fX4_readMark v0 h)
  unfold fX4_readMark
  refine j_have (pj := 17) (Lf := fun v : Int32 × Hp => []) (Sf := fun v : Int32 × Hp => [.int v.1]) (Hf := fun v : Int32 × Hp => v.2) (jf := fun v : Int32 × Hp => fX4_readMark_j17 v.1 v.2) (fun v => ?_) (fun hj17 => ?_)
  · obtain ⟨t0, h⟩ := v
    show xJ iX4_readMark κ _ 17 [] [.int t0] h (fX4_readMark_j17 t0 h)
    unfold fX4_readMark_j17
    exact j_zretc (t0, h) dX4_readMark_17 rfl (fun q => q)
  refine j_aload_n 0 dX4_readMark_0 rfl rfl ?_
  refine j_callV (as := []) (fun _ => none) (fun x => x) 4 8 dX4_readMark_1 ml_RX4_32 tg_X4_step im_X4_step se_X4_step rfl (by decide) (fun x hx => kX4_step κ.1 κ.2.1 v0 h x hx) (by decide) (by decide) rfl rfl (Nat.le_of_ble_eq_true rfl) (fun h1 => ?_)
  show xJ iX4_readMark κ _ 4 [(0, .ref v0)] [] h1 _
  refine j_aload_n 0 dX4_readMark_4 rfl rfl ?_
  refine j_getI 4 8 6 dX4_readMark_5 fl_RX4_48 (by decide) rfl (by decide) rfl (fun x2 => ?_)
  refine j_iconst (x := 3) dX4_readMark_8 (by decide) ?_
  refine j_icmp_ne (tgt := 16) dX4_readMark_9 (by decide) (fun c3 => ?_) (fun c3 => ?_)
  · refine j_iconst (x := 1) dX4_readMark_12 (by decide) ?_
    refine j_goto (tgt := 17) dX4_readMark_13 (by decide) ?_
    refine j_pick [] rfl ?_
    exact hj17 (1, h1)
  · refine j_iconst (x := 0) dX4_readMark_16 (by decide) ?_
    refine j_pick [] rfl ?_
    exact hj17 (0, h1)
def fX4_readRoom (v0 : Nat) (h : Hp) : Option (Int32 × Hp) :=
  (xat h v0 (4, 8) (fX4_readNumber v0 1 7 h)).bind fun q1 => if (q1.1 : Int32) = 0 then (some (0, q1.2)) else ((xgR q1.2 v0 (4, 8) 2).bind fun x3 => (xgI q1.2 v0 (4, 8) 7).bind fun x4 => (xpI q1.2 x3 (0, 16) 0 x4).bind fun h5 => (xat h5 v0 (4, 8) (fX4_readMark v0 h5)).bind fun q6 => if vp_nar .boolean q6.1 = q6.1 then some (q6.1, q6.2) else none)
abbrev iX4_readRoom : xI := (cX4_readRoom, yX4_readRoom.cls, yX4_readRoom.name, some .boolean, 1, 5)
set_option maxHeartbeats 4000000 in
set_option maxRecDepth 100000 in
theorem kX4_readRoom (l : Launch) (η : xEnv) (v0 : Nat) (h : Hp) (x : Int32 × Hp) (hx : fX4_readRoom v0 h = some x) : xC l η yX4_readRoom cX4_readRoom 1 (some .boolean) 5 [.ref v0] h (some (.int x.1)) x.2 := by
  refine xC_of (by decide) (Nat.le_of_ble_eq_true rfl) hx (fun κ x => κ.2.2.2.1 = some (.int x.1) ∧ κ.2.2.2.2 = x.2) ⟨rfl, rfl⟩ (fun κ => ?_)
  show xJ iX4_readRoom κ _ 0 [(0, .ref v0)] [] h (fX4_readRoom v0 h)
  unfold fX4_readRoom
  refine j_aload_n 0 dX4_readRoom_0 rfl rfl ?_
  refine j_iconst (x := 1) dX4_readRoom_1 (by decide) ?_
  refine j_bipush (x := 7) dX4_readRoom_2 (by decide) ?_
  refine j_callV (as := [.int 1, .int 7]) (fun x => some (.int x.1)) (fun x => x.2) 4 8 dX4_readRoom_4 ml_RX4_69 tg_X4_readNumber im_X4_readNumber se_X4_readNumber rfl (by decide) (fun x hx => kX4_readNumber κ.1 κ.2.1 v0 1 7 h x hx) (by decide) (by decide) rfl rfl (Nat.le_of_ble_eq_true rfl) (fun q1 => ?_)
  show xJ iX4_readRoom κ _ 7 [(0, .ref v0)] [.int q1.1] q1.2 _
  refine j_if_ne (tgt := 12) dX4_readRoom_7 (by decide) (fun c2 => ?_) (fun c2 => ?_)
  · refine j_iconst (x := 0) dX4_readRoom_10 (by decide) ?_
    exact j_zret (0, q1.2) dX4_readRoom_11 rfl rfl (fun q => q)
  · refine j_aload_n 0 dX4_readRoom_12 rfl rfl ?_
    refine j_getR 4 8 2 dX4_readRoom_13 fl_RX4_18 (by decide) rfl (by decide) (fun _ _ _ => rfl) (fun x3 => ?_)
    refine j_aload_n 0 dX4_readRoom_16 rfl rfl ?_
    refine j_getI 4 8 7 dX4_readRoom_17 fl_RX4_73 (by decide) rfl (by decide) rfl (fun x4 => ?_)
    refine j_putI 0 16 0 dX4_readRoom_20 fl_RX4_76 (by decide) rfl (by decide) rfl rfl (fun h5 => ?_)
    refine j_aload_n 0 dX4_readRoom_23 rfl rfl ?_
    refine j_callV (as := []) (fun x => some (.int x.1)) (fun x => x.2) 4 8 dX4_readRoom_24 ml_RX4_79 tg_X4_readMark im_X4_readMark se_X4_readMark rfl (by decide) (fun x hx => kX4_readMark κ.1 κ.2.1 v0 h5 x hx) (by decide) (by decide) rfl rfl (Nat.le_of_ble_eq_true rfl) (fun q6 => ?_)
    show xJ iX4_readRoom κ _ 27 [(0, .ref v0)] [.int q6.1] q6.2 _
    exact j_zretc (q6.1, q6.2) dX4_readRoom_27 rfl (fun q => q)
def fX4_readBridge_j52 (v0 : Nat) (h : Hp) : Option (Int32 × Hp) :=
  (xat h v0 (4, 8) (fX4_readMark v0 h)).bind fun q1 => if vp_nar .boolean q1.1 = q1.1 then some (q1.1, q1.2) else none
def fX4_readBridge (v0 : Nat) (h : Hp) : Option (Int32 × Hp) :=
  (xat h v0 (4, 8) (fX4_readNumber v0 0 9 h)).bind fun q2 => if (q2.1 : Int32) = 0 then (some (0, q2.2)) else ((xgI q2.2 v0 (4, 8) 7).bind fun x4 => (xat q2.2 v0 (4, 8) (fX4_readNumber v0 1 9 q2.2)).bind fun q5 => if (q5.1 : Int32) = 0 then (some (0, q5.2)) else ((fX8_within x4 0 9 q5.2).bind fun x7 => if (x7 : Int32) = 0 then (fX4_readBridge_j52 v0 q5.2) else ((xgR q5.2 v0 (4, 8) 2).bind fun x9 => (xgR q5.2 x9 (0, 16) 1).bind fun x10 => (xgI q5.2 v0 (4, 8) 7).bind fun x11 => (xsI q5.2 x10 x4 x11).bind fun h12 => fX4_readBridge_j52 v0 h12)))
abbrev iX4_readBridge : xI := (cX4_readBridge, yX4_readBridge.cls, yX4_readBridge.name, some .boolean, 2, 5)
set_option maxHeartbeats 4000000 in
set_option maxRecDepth 100000 in
theorem kX4_readBridge (l : Launch) (η : xEnv) (v0 : Nat) (h : Hp) (x : Int32 × Hp) (hx : fX4_readBridge v0 h = some x) : xC l η yX4_readBridge cX4_readBridge 2 (some .boolean) 5 [.ref v0] h (some (.int x.1)) x.2 := by
  refine xC_of (by decide) (Nat.le_of_ble_eq_true rfl) hx (fun κ x => κ.2.2.2.1 = some (.int x.1) ∧ κ.2.2.2.2 = x.2) ⟨rfl, rfl⟩ (fun κ => ?_)
  show xJ iX4_readBridge κ _ 0 [(0, .ref v0)] [] h (fX4_readBridge v0 h)
  unfold fX4_readBridge
  refine j_have (pj := 52) (Lf := fun v : Hp => [(0, .ref v0)]) (Sf := fun v : Hp => []) (Hf := fun v : Hp => v) (jf := fun v : Hp => fX4_readBridge_j52 v0 v) (fun v => ?_) (fun hj52 => ?_)
  · generalize v = h
    show xJ iX4_readBridge κ _ 52 [(0, .ref v0)] [] h (fX4_readBridge_j52 v0 h)
    unfold fX4_readBridge_j52
    refine j_aload_n 0 dX4_readBridge_52 rfl rfl ?_
    refine j_callV (as := []) (fun x => some (.int x.1)) (fun x => x.2) 4 8 dX4_readBridge_53 ml_RX4_79 tg_X4_readMark im_X4_readMark se_X4_readMark rfl (by decide) (fun x hx => kX4_readMark κ.1 κ.2.1 v0 h x hx) (by decide) (by decide) rfl rfl (Nat.le_of_ble_eq_true rfl) (fun q1 => ?_)
    show xJ iX4_readBridge κ _ 56 [(0, .ref v0)] [.int q1.1] q1.2 _
    exact j_zretc (q1.1, q1.2) dX4_readBridge_56 rfl (fun q => q)
  refine j_aload_n 0 dX4_readBridge_0 rfl rfl ?_
  refine j_iconst (x := 0) dX4_readBridge_1 (by decide) ?_
  refine j_bipush (x := 9) dX4_readBridge_2 (by decide) ?_
  refine j_callV (as := [.int 0, .int 9]) (fun x => some (.int x.1)) (fun x => x.2) 4 8 dX4_readBridge_4 ml_RX4_69 tg_X4_readNumber im_X4_readNumber se_X4_readNumber rfl (by decide) (fun x hx => kX4_readNumber κ.1 κ.2.1 v0 0 9 h x hx) (by decide) (by decide) rfl rfl (Nat.le_of_ble_eq_true rfl) (fun q2 => ?_)
  show xJ iX4_readBridge κ _ 7 [(0, .ref v0)] [.int q2.1] q2.2 _
  refine j_if_ne (tgt := 12) dX4_readBridge_7 (by decide) (fun c3 => ?_) (fun c3 => ?_)
  · refine j_iconst (x := 0) dX4_readBridge_10 (by decide) ?_
    exact j_zret (0, q2.2) dX4_readBridge_11 rfl rfl (fun q => q)
  · refine j_aload_n 0 dX4_readBridge_12 rfl rfl ?_
    refine j_getI 4 8 7 dX4_readBridge_13 fl_RX4_73 (by decide) rfl (by decide) rfl (fun x4 => ?_)
    refine j_istore_n (L' := [(1, .int x4), (0, .ref v0)]) dX4_readBridge_16 rfl (Nat.le_of_ble_eq_true rfl) rfl ?_
    refine j_aload_n 1 dX4_readBridge_17 rfl rfl ?_
    refine j_iconst (x := 1) dX4_readBridge_18 (by decide) ?_
    refine j_bipush (x := 9) dX4_readBridge_19 (by decide) ?_
    refine j_callV (as := [.int 1, .int 9]) (fun x => some (.int x.1)) (fun x => x.2) 4 8 dX4_readBridge_21 ml_RX4_69 tg_X4_readNumber im_X4_readNumber se_X4_readNumber rfl (by decide) (fun x hx => kX4_readNumber κ.1 κ.2.1 v0 1 9 q2.2 x hx) (by decide) (by decide) rfl rfl (Nat.le_of_ble_eq_true rfl) (fun q5 => ?_)
    show xJ iX4_readBridge κ _ 24 [(1, .int x4), (0, .ref v0)] [.int q5.1] q5.2 _
    refine j_if_ne (tgt := 29) dX4_readBridge_24 (by decide) (fun c6 => ?_) (fun c6 => ?_)
    · refine j_iconst (x := 0) dX4_readBridge_27 (by decide) ?_
      exact j_zret (0, q5.2) dX4_readBridge_28 rfl rfl (fun q => q)
    · refine j_iload_n 0 dX4_readBridge_29 rfl rfl ?_
      refine j_iconst (x := 0) dX4_readBridge_30 (by decide) ?_
      refine j_bipush (x := 9) dX4_readBridge_31 (by decide) ?_
      refine j_callSN (as := [.int x4, .int 0, .int 9]) (fun x => some (.int x)) (fun _ => q5.2) dX4_readBridge_33 nl_RX4_82 tg_X8_within st_X8_within (fun x hx => kX8_within κ.1 κ.2.1 x4 0 9 q5.2 x hx) (by decide) (by decide) rfl rfl (Nat.le_of_ble_eq_true rfl) (fun x7 => ?_)
      show xJ iX4_readBridge κ _ 36 [(1, .int x4), (0, .ref v0)] [.int x7] q5.2 _
      refine j_if_eq (tgt := 52) dX4_readBridge_36 (by decide) (fun c8 => ?_) (fun c8 => ?_)
      · refine j_pick [1] rfl ?_
        exact hj52 q5.2
      · refine j_aload_n 1 dX4_readBridge_39 rfl rfl ?_
        refine j_getR 4 8 2 dX4_readBridge_40 fl_RX4_18 (by decide) rfl (by decide) (fun _ _ _ => rfl) (fun x9 => ?_)
        refine j_getR 0 16 1 dX4_readBridge_43 fl_RX4_86 (by decide) rfl (by decide) (fun _ _ _ => rfl) (fun x10 => ?_)
        refine j_iload_n 0 dX4_readBridge_46 rfl rfl ?_
        refine j_aload_n 1 dX4_readBridge_47 rfl rfl ?_
        refine j_getI 4 8 7 dX4_readBridge_48 fl_RX4_73 (by decide) rfl (by decide) rfl (fun x11 => ?_)
        refine j_iast dX4_readBridge_51 (fun h12 => ?_)
        refine j_pick [1] rfl ?_
        exact hj52 h12
def fX4_readIdea (v0 : Nat) (h : Hp) : Option (Int32 × Hp) :=
  (xgR h v0 (4, 8) 2).bind fun x1 => (xgI h x1 (0, 16) 2).bind fun x2 => if (x2 : Int32) < 7 then ((xat h v0 (4, 8) (fX4_readNumber v0 0 5 h)).bind fun q4 => if (q4.1 : Int32) = 0 then (some (0, q4.2)) else ((xgI q4.2 v0 (4, 8) 7).bind fun x6 => (xat q4.2 v0 (4, 8) (fX4_readNumber v0 1 9 q4.2)).bind fun q7 => if (q7.1 : Int32) = 0 then (some (0, q7.2)) else ((xgI q7.2 v0 (4, 8) 7).bind fun x9 => (xat q7.2 v0 (4, 8) (fX4_readNumber v0 0 8 q7.2)).bind fun q10 => if (q10.1 : Int32) = 0 then (some (0, q10.2)) else ((xgI q10.2 v0 (4, 8) 7).bind fun x12 => (xat q10.2 v0 (4, 8) (fX4_readNumber v0 (x12 + 1) 9 q10.2)).bind fun q13 => if (q13.1 : Int32) = 0 then (some (0, q13.2)) else ((xgR q13.2 v0 (4, 8) 2).bind fun x15 => (xgI q13.2 v0 (4, 8) 7).bind fun x16 => (xat q13.2 x15 (0, 16) (fX0_addIdea x15 x6 x9 x12 x16 q13.2)).bind fun h17 => (xat h17 v0 (4, 8) (fX4_readMark v0 h17)).bind fun q18 => if vp_nar .boolean q18.1 = q18.1 then some (q18.1, q18.2) else none))))) else (some (0, h))
abbrev iX4_readIdea : xI := (cX4_readIdea, yX4_readIdea.cls, yX4_readIdea.name, some .boolean, 4, 5)
set_option maxHeartbeats 4000000 in
set_option maxRecDepth 100000 in
theorem kX4_readIdea (l : Launch) (η : xEnv) (v0 : Nat) (h : Hp) (x : Int32 × Hp) (hx : fX4_readIdea v0 h = some x) : xC l η yX4_readIdea cX4_readIdea 4 (some .boolean) 5 [.ref v0] h (some (.int x.1)) x.2 := by
  refine xC_of (by decide) (Nat.le_of_ble_eq_true rfl) hx (fun κ x => κ.2.2.2.1 = some (.int x.1) ∧ κ.2.2.2.2 = x.2) ⟨rfl, rfl⟩ (fun κ => ?_)
  show xJ iX4_readIdea κ _ 0 [(0, .ref v0)] [] h (fX4_readIdea v0 h)
  unfold fX4_readIdea
  refine j_aload_n 0 dX4_readIdea_0 rfl rfl ?_
  refine j_getR 4 8 2 dX4_readIdea_1 fl_RX4_18 (by decide) rfl (by decide) (fun _ _ _ => rfl) (fun x1 => ?_)
  refine j_getI 0 16 2 dX4_readIdea_4 fl_RX4_89 (by decide) rfl (by decide) rfl (fun x2 => ?_)
  refine j_bipush (x := 7) dX4_readIdea_7 (by decide) ?_
  refine j_icmp_lt (tgt := 14) dX4_readIdea_9 (by decide) (fun c3 => ?_) (fun c3 => ?_)
  · refine j_aload_n 0 dX4_readIdea_14 rfl rfl ?_
    refine j_iconst (x := 0) dX4_readIdea_15 (by decide) ?_
    refine j_iconst (x := 5) dX4_readIdea_16 (by decide) ?_
    refine j_callV (as := [.int 0, .int 5]) (fun x => some (.int x.1)) (fun x => x.2) 4 8 dX4_readIdea_17 ml_RX4_69 tg_X4_readNumber im_X4_readNumber se_X4_readNumber rfl (by decide) (fun x hx => kX4_readNumber κ.1 κ.2.1 v0 0 5 h x hx) (by decide) (by decide) rfl rfl (Nat.le_of_ble_eq_true rfl) (fun q4 => ?_)
    show xJ iX4_readIdea κ _ 20 [(0, .ref v0)] [.int q4.1] q4.2 _
    refine j_if_ne (tgt := 25) dX4_readIdea_20 (by decide) (fun c5 => ?_) (fun c5 => ?_)
    · refine j_iconst (x := 0) dX4_readIdea_23 (by decide) ?_
      exact j_zret (0, q4.2) dX4_readIdea_24 rfl rfl (fun q => q)
    · refine j_aload_n 0 dX4_readIdea_25 rfl rfl ?_
      refine j_getI 4 8 7 dX4_readIdea_26 fl_RX4_73 (by decide) rfl (by decide) rfl (fun x6 => ?_)
      refine j_istore_n (L' := [(1, .int x6), (0, .ref v0)]) dX4_readIdea_29 rfl (Nat.le_of_ble_eq_true rfl) rfl ?_
      refine j_aload_n 1 dX4_readIdea_30 rfl rfl ?_
      refine j_iconst (x := 1) dX4_readIdea_31 (by decide) ?_
      refine j_bipush (x := 9) dX4_readIdea_32 (by decide) ?_
      refine j_callV (as := [.int 1, .int 9]) (fun x => some (.int x.1)) (fun x => x.2) 4 8 dX4_readIdea_34 ml_RX4_69 tg_X4_readNumber im_X4_readNumber se_X4_readNumber rfl (by decide) (fun x hx => kX4_readNumber κ.1 κ.2.1 v0 1 9 q4.2 x hx) (by decide) (by decide) rfl rfl (Nat.le_of_ble_eq_true rfl) (fun q7 => ?_)
      show xJ iX4_readIdea κ _ 37 [(1, .int x6), (0, .ref v0)] [.int q7.1] q7.2 _
      refine j_if_ne (tgt := 42) dX4_readIdea_37 (by decide) (fun c8 => ?_) (fun c8 => ?_)
      · refine j_iconst (x := 0) dX4_readIdea_40 (by decide) ?_
        exact j_zret (0, q7.2) dX4_readIdea_41 rfl rfl (fun q => q)
      · refine j_aload_n 1 dX4_readIdea_42 rfl rfl ?_
        refine j_getI 4 8 7 dX4_readIdea_43 fl_RX4_73 (by decide) rfl (by decide) rfl (fun x9 => ?_)
        refine j_istore_n (L' := [(2, .int x9), (1, .int x6), (0, .ref v0)]) dX4_readIdea_46 rfl (Nat.le_of_ble_eq_true rfl) rfl ?_
        refine j_aload_n 2 dX4_readIdea_47 rfl rfl ?_
        refine j_iconst (x := 0) dX4_readIdea_48 (by decide) ?_
        refine j_bipush (x := 8) dX4_readIdea_49 (by decide) ?_
        refine j_callV (as := [.int 0, .int 8]) (fun x => some (.int x.1)) (fun x => x.2) 4 8 dX4_readIdea_51 ml_RX4_69 tg_X4_readNumber im_X4_readNumber se_X4_readNumber rfl (by decide) (fun x hx => kX4_readNumber κ.1 κ.2.1 v0 0 8 q7.2 x hx) (by decide) (by decide) rfl rfl (Nat.le_of_ble_eq_true rfl) (fun q10 => ?_)
        show xJ iX4_readIdea κ _ 54 [(2, .int x9), (1, .int x6), (0, .ref v0)] [.int q10.1] q10.2 _
        refine j_if_ne (tgt := 59) dX4_readIdea_54 (by decide) (fun c11 => ?_) (fun c11 => ?_)
        · refine j_iconst (x := 0) dX4_readIdea_57 (by decide) ?_
          exact j_zret (0, q10.2) dX4_readIdea_58 rfl rfl (fun q => q)
        · refine j_aload_n 2 dX4_readIdea_59 rfl rfl ?_
          refine j_getI 4 8 7 dX4_readIdea_60 fl_RX4_73 (by decide) rfl (by decide) rfl (fun x12 => ?_)
          refine j_istore_n (L' := [(3, .int x12), (2, .int x9), (1, .int x6), (0, .ref v0)]) dX4_readIdea_63 rfl (Nat.le_of_ble_eq_true rfl) rfl ?_
          refine j_aload_n 3 dX4_readIdea_64 rfl rfl ?_
          refine j_iload_n 0 dX4_readIdea_65 rfl rfl ?_
          refine j_iconst (x := 1) dX4_readIdea_66 (by decide) ?_
          refine j_iadd dX4_readIdea_67 ?_
          refine j_bipush (x := 9) dX4_readIdea_68 (by decide) ?_
          refine j_callV (as := [.int (x12 + 1), .int 9]) (fun x => some (.int x.1)) (fun x => x.2) 4 8 dX4_readIdea_70 ml_RX4_69 tg_X4_readNumber im_X4_readNumber se_X4_readNumber rfl (by decide) (fun x hx => kX4_readNumber κ.1 κ.2.1 v0 (x12 + 1) 9 q10.2 x hx) (by decide) (by decide) rfl rfl (Nat.le_of_ble_eq_true rfl) (fun q13 => ?_)
          show xJ iX4_readIdea κ _ 73 [(3, .int x12), (2, .int x9), (1, .int x6), (0, .ref v0)] [.int q13.1] q13.2 _
          refine j_if_ne (tgt := 78) dX4_readIdea_73 (by decide) (fun c14 => ?_) (fun c14 => ?_)
          · refine j_iconst (x := 0) dX4_readIdea_76 (by decide) ?_
            exact j_zret (0, q13.2) dX4_readIdea_77 rfl rfl (fun q => q)
          · refine j_aload_n 3 dX4_readIdea_78 rfl rfl ?_
            refine j_getR 4 8 2 dX4_readIdea_79 fl_RX4_18 (by decide) rfl (by decide) (fun _ _ _ => rfl) (fun x15 => ?_)
            refine j_iload_n 2 dX4_readIdea_82 rfl rfl ?_
            refine j_iload_n 1 dX4_readIdea_83 rfl rfl ?_
            refine j_iload_n 0 dX4_readIdea_84 rfl rfl ?_
            refine j_aload_n 3 dX4_readIdea_85 rfl rfl ?_
            refine j_getI 4 8 7 dX4_readIdea_86 fl_RX4_73 (by decide) rfl (by decide) rfl (fun x16 => ?_)
            refine j_callV (as := [.int x6, .int x9, .int x12, .int x16]) (fun _ => none) (fun x => x) 0 16 dX4_readIdea_89 ml_RX4_92 tg_X0_addIdea im_X0_addIdea se_X0_addIdea rfl (by decide) (fun x hx => kX0_addIdea κ.1 κ.2.1 x15 x6 x9 x12 x16 q13.2 x hx) (by decide) (by decide) rfl rfl (Nat.le_of_ble_eq_true rfl) (fun h17 => ?_)
            show xJ iX4_readIdea κ _ 92 [(3, .int x12), (2, .int x9), (1, .int x6), (0, .ref v0)] [] h17 _
            refine j_aload_n 3 dX4_readIdea_92 rfl rfl ?_
            refine j_callV (as := []) (fun x => some (.int x.1)) (fun x => x.2) 4 8 dX4_readIdea_93 ml_RX4_79 tg_X4_readMark im_X4_readMark se_X4_readMark rfl (by decide) (fun x hx => kX4_readMark κ.1 κ.2.1 v0 h17 x hx) (by decide) (by decide) rfl rfl (Nat.le_of_ble_eq_true rfl) (fun q18 => ?_)
            show xJ iX4_readIdea κ _ 96 [(3, .int x12), (2, .int x9), (1, .int x6), (0, .ref v0)] [.int q18.1] q18.2 _
            exact j_zretc (q18.1, q18.2) dX4_readIdea_96 rfl (fun q => q)
  · refine j_iconst (x := 0) dX4_readIdea_12 (by decide) ?_
    exact j_zret (0, h) dX4_readIdea_13 rfl rfl (fun q => q)
def fX4_readQuarrel_j49  (h : Hp) : Option (Int32 × Hp) :=
  some (0, h)
def fX4_readQuarrel (v0 : Nat) (h : Hp) : Option (Int32 × Hp) :=
  (xgR h v0 (4, 8) 2).bind fun x1 => (xgI h x1 (0, 16) 2).bind fun x2 => (xat h v0 (4, 8) (fX4_readNumber v0 0 (x2 - 1) h)).bind fun q3 => if (q3.1 : Int32) = 0 then (some (0, q3.2)) else ((xgI q3.2 v0 (4, 8) 7).bind fun x5 => (xgR q3.2 v0 (4, 8) 2).bind fun x6 => (xgI q3.2 x6 (0, 16) 2).bind fun x7 => (xat q3.2 v0 (4, 8) (fX4_readNumber v0 0 (x7 - 1) q3.2)).bind fun q8 => if (q8.1 : Int32) = 0 then (fX4_readQuarrel_j49 q8.2) else ((xgI q8.2 v0 (4, 8) 7).bind fun x10 => if (x10 : Int32) = x5 then (fX4_readQuarrel_j49 q8.2) else ((xgR q8.2 v0 (4, 8) 2).bind fun x12 => (xgI q8.2 v0 (4, 8) 7).bind fun x13 => (xat q8.2 x12 (0, 16) (fX0_setQuarrel x12 x5 x13 1 q8.2)).bind fun h14 => (xat h14 v0 (4, 8) (fX4_readMark v0 h14)).bind fun q15 => if vp_nar .boolean q15.1 = q15.1 then some (q15.1, q15.2) else none)))
abbrev iX4_readQuarrel : xI := (cX4_readQuarrel, yX4_readQuarrel.cls, yX4_readQuarrel.name, some .boolean, 2, 5)
set_option maxHeartbeats 4000000 in
set_option maxRecDepth 100000 in
theorem kX4_readQuarrel (l : Launch) (η : xEnv) (v0 : Nat) (h : Hp) (x : Int32 × Hp) (hx : fX4_readQuarrel v0 h = some x) : xC l η yX4_readQuarrel cX4_readQuarrel 2 (some .boolean) 5 [.ref v0] h (some (.int x.1)) x.2 := by
  refine xC_of (by decide) (Nat.le_of_ble_eq_true rfl) hx (fun κ x => κ.2.2.2.1 = some (.int x.1) ∧ κ.2.2.2.2 = x.2) ⟨rfl, rfl⟩ (fun κ => ?_)
  show xJ iX4_readQuarrel κ _ 0 [(0, .ref v0)] [] h (fX4_readQuarrel v0 h)
  unfold fX4_readQuarrel
  refine j_have (pj := 49) (Lf := fun v : Hp => []) (Sf := fun v : Hp => []) (Hf := fun v : Hp => v) (jf := fun v : Hp => fX4_readQuarrel_j49 v) (fun v => ?_) (fun hj49 => ?_)
  · generalize v = h
    show xJ iX4_readQuarrel κ _ 49 [] [] h (fX4_readQuarrel_j49 h)
    unfold fX4_readQuarrel_j49
    refine j_iconst (x := 0) dX4_readQuarrel_49 (by decide) ?_
    exact j_zret (0, h) dX4_readQuarrel_50 rfl rfl (fun q => q)
  refine j_aload_n 0 dX4_readQuarrel_0 rfl rfl ?_
  refine j_iconst (x := 0) dX4_readQuarrel_1 (by decide) ?_
  refine j_aload_n 0 dX4_readQuarrel_2 rfl rfl ?_
  refine j_getR 4 8 2 dX4_readQuarrel_3 fl_RX4_18 (by decide) rfl (by decide) (fun _ _ _ => rfl) (fun x1 => ?_)
  refine j_getI 0 16 2 dX4_readQuarrel_6 fl_RX4_89 (by decide) rfl (by decide) rfl (fun x2 => ?_)
  refine j_iconst (x := 1) dX4_readQuarrel_9 (by decide) ?_
  refine j_isub dX4_readQuarrel_10 ?_
  refine j_callV (as := [.int 0, .int (x2 - 1)]) (fun x => some (.int x.1)) (fun x => x.2) 4 8 dX4_readQuarrel_11 ml_RX4_69 tg_X4_readNumber im_X4_readNumber se_X4_readNumber rfl (by decide) (fun x hx => kX4_readNumber κ.1 κ.2.1 v0 0 (x2 - 1) h x hx) (by decide) (by decide) rfl rfl (Nat.le_of_ble_eq_true rfl) (fun q3 => ?_)
  show xJ iX4_readQuarrel κ _ 14 [(0, .ref v0)] [.int q3.1] q3.2 _
  refine j_if_ne (tgt := 19) dX4_readQuarrel_14 (by decide) (fun c4 => ?_) (fun c4 => ?_)
  · refine j_iconst (x := 0) dX4_readQuarrel_17 (by decide) ?_
    exact j_zret (0, q3.2) dX4_readQuarrel_18 rfl rfl (fun q => q)
  · refine j_aload_n 0 dX4_readQuarrel_19 rfl rfl ?_
    refine j_getI 4 8 7 dX4_readQuarrel_20 fl_RX4_73 (by decide) rfl (by decide) rfl (fun x5 => ?_)
    refine j_istore_n (L' := [(1, .int x5), (0, .ref v0)]) dX4_readQuarrel_23 rfl (Nat.le_of_ble_eq_true rfl) rfl ?_
    refine j_aload_n 1 dX4_readQuarrel_24 rfl rfl ?_
    refine j_iconst (x := 0) dX4_readQuarrel_25 (by decide) ?_
    refine j_aload_n 1 dX4_readQuarrel_26 rfl rfl ?_
    refine j_getR 4 8 2 dX4_readQuarrel_27 fl_RX4_18 (by decide) rfl (by decide) (fun _ _ _ => rfl) (fun x6 => ?_)
    refine j_getI 0 16 2 dX4_readQuarrel_30 fl_RX4_89 (by decide) rfl (by decide) rfl (fun x7 => ?_)
    refine j_iconst (x := 1) dX4_readQuarrel_33 (by decide) ?_
    refine j_isub dX4_readQuarrel_34 ?_
    refine j_callV (as := [.int 0, .int (x7 - 1)]) (fun x => some (.int x.1)) (fun x => x.2) 4 8 dX4_readQuarrel_35 ml_RX4_69 tg_X4_readNumber im_X4_readNumber se_X4_readNumber rfl (by decide) (fun x hx => kX4_readNumber κ.1 κ.2.1 v0 0 (x7 - 1) q3.2 x hx) (by decide) (by decide) rfl rfl (Nat.le_of_ble_eq_true rfl) (fun q8 => ?_)
    show xJ iX4_readQuarrel κ _ 38 [(1, .int x5), (0, .ref v0)] [.int q8.1] q8.2 _
    refine j_if_eq (tgt := 49) dX4_readQuarrel_38 (by decide) (fun c9 => ?_) (fun c9 => ?_)
    · refine j_pick [] rfl ?_
      exact hj49 q8.2
    · refine j_aload_n 1 dX4_readQuarrel_41 rfl rfl ?_
      refine j_getI 4 8 7 dX4_readQuarrel_42 fl_RX4_73 (by decide) rfl (by decide) rfl (fun x10 => ?_)
      refine j_iload_n 0 dX4_readQuarrel_45 rfl rfl ?_
      refine j_icmp_ne (tgt := 51) dX4_readQuarrel_46 (by decide) (fun c11 => ?_) (fun c11 => ?_)
      · refine j_pick [] rfl ?_
        exact hj49 q8.2
      · refine j_aload_n 1 dX4_readQuarrel_51 rfl rfl ?_
        refine j_getR 4 8 2 dX4_readQuarrel_52 fl_RX4_18 (by decide) rfl (by decide) (fun _ _ _ => rfl) (fun x12 => ?_)
        refine j_iload_n 0 dX4_readQuarrel_55 rfl rfl ?_
        refine j_aload_n 1 dX4_readQuarrel_56 rfl rfl ?_
        refine j_getI 4 8 7 dX4_readQuarrel_57 fl_RX4_73 (by decide) rfl (by decide) rfl (fun x13 => ?_)
        refine j_iconst (x := 1) dX4_readQuarrel_60 (by decide) ?_
        refine j_callV (as := [.int x5, .int x13, .int 1]) (fun _ => none) (fun x => x) 0 16 dX4_readQuarrel_61 ml_RX4_96 tg_X0_setQuarrel im_X0_setQuarrel se_X0_setQuarrel rfl (by decide) (fun x hx => kX0_setQuarrel κ.1 κ.2.1 x12 x5 x13 1 q8.2 x hx) (by decide) (by decide) rfl rfl (Nat.le_of_ble_eq_true rfl) (fun h14 => ?_)
        show xJ iX4_readQuarrel κ _ 64 [(1, .int x5), (0, .ref v0)] [] h14 _
        refine j_aload_n 1 dX4_readQuarrel_64 rfl rfl ?_
        refine j_callV (as := []) (fun x => some (.int x.1)) (fun x => x.2) 4 8 dX4_readQuarrel_65 ml_RX4_79 tg_X4_readMark im_X4_readMark se_X4_readMark rfl (by decide) (fun x hx => kX4_readMark κ.1 κ.2.1 v0 h14 x hx) (by decide) (by decide) rfl rfl (Nat.le_of_ble_eq_true rfl) (fun q15 => ?_)
        show xJ iX4_readQuarrel κ _ 68 [(1, .int x5), (0, .ref v0)] [.int q15.1] q15.2 _
        exact j_zretc (q15.1, q15.2) dX4_readQuarrel_68 rfl (fun q => q)
def fX4_readItem (v0 : Nat) (h : Hp) : Option (Int32 × Hp) :=
  (xat h v0 (4, 8) (fX4_isWord v0 1 h)).bind fun x1 => if (x1 : Int32) = 0 then ((xat h v0 (4, 8) (fX4_isWord v0 2 h)).bind fun x3 => if (x3 : Int32) = 0 then ((xat h v0 (4, 8) (fX4_isWord v0 3 h)).bind fun x5 => if (x5 : Int32) = 0 then (some (0, h)) else ((xat h v0 (4, 8) (fX4_readQuarrel v0 h)).bind fun q7 => if vp_nar .boolean q7.1 = q7.1 then some (q7.1, q7.2) else none)) else ((xat h v0 (4, 8) (fX4_readIdea v0 h)).bind fun q8 => if vp_nar .boolean q8.1 = q8.1 then some (q8.1, q8.2) else none)) else ((xat h v0 (4, 8) (fX4_readBridge v0 h)).bind fun q9 => if vp_nar .boolean q9.1 = q9.1 then some (q9.1, q9.2) else none)
abbrev iX4_readItem : xI := (cX4_readItem, yX4_readItem.cls, yX4_readItem.name, some .boolean, 1, 11)
set_option maxHeartbeats 4000000 in
set_option maxRecDepth 100000 in
theorem kX4_readItem (l : Launch) (η : xEnv) (v0 : Nat) (h : Hp) (x : Int32 × Hp) (hx : fX4_readItem v0 h = some x) : xC l η yX4_readItem cX4_readItem 1 (some .boolean) 11 [.ref v0] h (some (.int x.1)) x.2 := by
  refine xC_of (by decide) (Nat.le_of_ble_eq_true rfl) hx (fun κ x => κ.2.2.2.1 = some (.int x.1) ∧ κ.2.2.2.2 = x.2) ⟨rfl, rfl⟩ (fun κ => ?_)
  show xJ iX4_readItem κ _ 0 [(0, .ref v0)] [] h (fX4_readItem v0 h)
  unfold fX4_readItem
  refine j_aload_n 0 dX4_readItem_0 rfl rfl ?_
  refine j_lds 1 dX4_readItem_1 (fun U hU => ⟨_, hU.2.2.2.1.2.1⟩) ?_
  refine j_callV (as := [.float 1]) (fun x => some (.int x)) (fun _ => h) 4 8 dX4_readItem_3 ml_RX4_37 tg_X4_isWord im_X4_isWord se_X4_isWord rfl (by decide) (fun x hx => kX4_isWord κ.1 κ.2.1 v0 1 h x hx) (by decide) (by decide) rfl rfl (Nat.le_of_ble_eq_true rfl) (fun x1 => ?_)
  show xJ iX4_readItem κ _ 6 [(0, .ref v0)] [.int x1] h _
  refine j_if_eq (tgt := 14) dX4_readItem_6 (by decide) (fun c2 => ?_) (fun c2 => ?_)
  · refine j_aload_n 0 dX4_readItem_14 rfl rfl ?_
    refine j_lds 2 dX4_readItem_15 (fun U hU => ⟨_, hU.2.2.2.1.2.2.1⟩) ?_
    refine j_callV (as := [.float 2]) (fun x => some (.int x)) (fun _ => h) 4 8 dX4_readItem_17 ml_RX4_37 tg_X4_isWord im_X4_isWord se_X4_isWord rfl (by decide) (fun x hx => kX4_isWord κ.1 κ.2.1 v0 2 h x hx) (by decide) (by decide) rfl rfl (Nat.le_of_ble_eq_true rfl) (fun x3 => ?_)
    show xJ iX4_readItem κ _ 20 [(0, .ref v0)] [.int x3] h _
    refine j_if_eq (tgt := 28) dX4_readItem_20 (by decide) (fun c4 => ?_) (fun c4 => ?_)
    · refine j_aload_n 0 dX4_readItem_28 rfl rfl ?_
      refine j_lds 3 dX4_readItem_29 (fun U hU => ⟨_, hU.2.2.2.1.2.2.2⟩) ?_
      refine j_callV (as := [.float 3]) (fun x => some (.int x)) (fun _ => h) 4 8 dX4_readItem_31 ml_RX4_37 tg_X4_isWord im_X4_isWord se_X4_isWord rfl (by decide) (fun x hx => kX4_isWord κ.1 κ.2.1 v0 3 h x hx) (by decide) (by decide) rfl rfl (Nat.le_of_ble_eq_true rfl) (fun x5 => ?_)
      show xJ iX4_readItem κ _ 34 [(0, .ref v0)] [.int x5] h _
      refine j_if_eq (tgt := 42) dX4_readItem_34 (by decide) (fun c6 => ?_) (fun c6 => ?_)
      · refine j_iconst (x := 0) dX4_readItem_42 (by decide) ?_
        exact j_zret (0, h) dX4_readItem_43 rfl rfl (fun q => q)
      · refine j_aload_n 0 dX4_readItem_37 rfl rfl ?_
        refine j_callV (as := []) (fun x => some (.int x.1)) (fun x => x.2) 4 8 dX4_readItem_38 ml_RX4_66 tg_X4_readQuarrel im_X4_readQuarrel se_X4_readQuarrel rfl (by decide) (fun x hx => kX4_readQuarrel κ.1 κ.2.1 v0 h x hx) (by decide) (by decide) rfl rfl (Nat.le_of_ble_eq_true rfl) (fun q7 => ?_)
        show xJ iX4_readItem κ _ 41 [(0, .ref v0)] [.int q7.1] q7.2 _
        exact j_zretc (q7.1, q7.2) dX4_readItem_41 rfl (fun q => q)
    · refine j_aload_n 0 dX4_readItem_23 rfl rfl ?_
      refine j_callV (as := []) (fun x => some (.int x.1)) (fun x => x.2) 4 8 dX4_readItem_24 ml_RX4_61 tg_X4_readIdea im_X4_readIdea se_X4_readIdea rfl (by decide) (fun x hx => kX4_readIdea κ.1 κ.2.1 v0 h x hx) (by decide) (by decide) rfl rfl (Nat.le_of_ble_eq_true rfl) (fun q8 => ?_)
      show xJ iX4_readItem κ _ 27 [(0, .ref v0)] [.int q8.1] q8.2 _
      exact j_zretc (q8.1, q8.2) dX4_readItem_27 rfl (fun q => q)
  · refine j_aload_n 0 dX4_readItem_9 rfl rfl ?_
    refine j_callV (as := []) (fun x => some (.int x.1)) (fun x => x.2) 4 8 dX4_readItem_10 ml_RX4_56 tg_X4_readBridge im_X4_readBridge se_X4_readBridge rfl (by decide) (fun x hx => kX4_readBridge κ.1 κ.2.1 v0 h x hx) (by decide) (by decide) rfl rfl (Nat.le_of_ble_eq_true rfl) (fun q9 => ?_)
    show xJ iX4_readItem κ _ 13 [(0, .ref v0)] [.int q9.1] q9.2 _
    exact j_zretc (q9.1, q9.2) dX4_readItem_13 rfl (fun q => q)
