def fX0_startAnew_b7 (v0 : Nat) (s7 : Int32 × Hp) : Option ((Int32 × Hp) ⊕ ((Nat × Hp))) :=
  if (10 : Int32) ≤ s7.1 then (some (Sum.inr (v0, s7.2))) else ((xgR s7.2 v0 (0, 16) 1).bind fun x8 => (xsI s7.2 x8 s7.1 0).bind fun h9 => some (Sum.inl (s7.1 + 1, h9)))
def fX0_startAnew (v0 : Nat) (h : Hp) : Option (Hp) :=
  (xpI h v0 (0, 16) 0 4).bind fun h1 => (xloop (fX0_startAnew_b7 v0) 1000000 (0, h1)).bind (fun r7 => (xpI r7.2 r7.1 (0, 16) 2 0).bind fun h10 => (xpI h10 r7.1 (0, 16) 8 0).bind fun h11 => (xgR h11 r7.1 (0, 16) 13).bind fun x12 => (xat h11 x12 (5, 5) (fX5_startAnew x12 h11)).bind fun h13 => (xpI h13 r7.1 (0, 16) 15 0).bind fun h14 => some h14)
abbrev iX0_startAnew : xI := (cX0_startAnew, yX0_startAnew.cls, yX0_startAnew.name, none, 2, 3)
set_option maxHeartbeats 4000000 in
set_option maxRecDepth 100000 in
theorem kX0_startAnew (l : Launch) (η : xEnv) (v0 : Nat) (h : Hp) (x : Hp) (hx : fX0_startAnew v0 h = some x) : xC l η yX0_startAnew cX0_startAnew 2 none 3 [.ref v0] h none x := by
  refine xC_of (by decide) (Nat.le_of_ble_eq_true rfl) hx (fun κ x => κ.2.2.2.1 = none ∧ κ.2.2.2.2 = x) ⟨rfl, rfl⟩ (fun κ => ?_)
  show xJ iX0_startAnew κ _ 0 [(0, .ref v0)] [] h (fX0_startAnew v0 h)
  unfold fX0_startAnew
  refine j_aload_n 0 dX0_startAnew_0 rfl rfl ?_
  refine j_iconst (x := 4) dX0_startAnew_1 (by decide) ?_
  refine j_putI 0 16 0 dX0_startAnew_2 fl_RX0_9 (by decide) rfl (by decide) rfl rfl (fun h1 => ?_)
  refine j_iconst (x := 0) dX0_startAnew_5 (by decide) ?_
  refine j_istore_n (L' := [(1, .int 0), (0, .ref v0)]) dX0_startAnew_6 rfl (Nat.le_of_ble_eq_true rfl) rfl ?_
  refine j_pick [1, 0] rfl ?_
  refine j_loop (pc := 7) (Lf := fun s7 : Int32 × Hp => [(0, .ref v0), (1, .int s7.1)]) (Hf := fun s7 : Int32 × Hp => s7.2) (fun s7 => ?_) 1000000 (0, h1)
  show xJ iX0_startAnew κ _ 7 [(0, .ref v0), (1, .int s7.1)] [] s7.2 (fX0_startAnew_b7 v0 s7)
  unfold fX0_startAnew_b7
  refine j_iload_n 1 dX0_startAnew_7 rfl rfl ?_
  refine j_bipush (x := 10) dX0_startAnew_8 (by decide) ?_
  refine j_icmp_ge (tgt := 26) dX0_startAnew_10 (by decide) (fun c2 => ?_) (fun c2 => ?_)
  · refine j_exit (v0, s7.2) ?_
    show xJ iX0_startAnew κ _ _ _ _ _ ((xpI s7.2 v0 (0, 16) 2 0).bind fun h3 => (xpI h3 v0 (0, 16) 8 0).bind fun h4 => (xgR h4 v0 (0, 16) 13).bind fun x5 => (xat h4 x5 (5, 5) (fX5_startAnew x5 h4)).bind fun h6 => (xpI h6 v0 (0, 16) 15 0).bind fun h7 => some h7)
    refine j_aload_n 0 dX0_startAnew_26 rfl rfl ?_
    refine j_iconst (x := 0) dX0_startAnew_27 (by decide) ?_
    refine j_putI 0 16 2 dX0_startAnew_28 fl_RX0_57 (by decide) rfl (by decide) rfl rfl (fun h3 => ?_)
    refine j_aload_n 0 dX0_startAnew_31 rfl rfl ?_
    refine j_iconst (x := 0) dX0_startAnew_32 (by decide) ?_
    refine j_putI 0 16 8 dX0_startAnew_33 fl_RX0_60 (by decide) rfl (by decide) rfl rfl (fun h4 => ?_)
    refine j_aload_n 0 dX0_startAnew_36 rfl rfl ?_
    refine j_getR 0 16 13 dX0_startAnew_37 fl_RX0_49 (by decide) rfl (by decide) (fun _ _ _ => rfl) (fun x5 => ?_)
    refine j_callV (as := []) (fun _ => none) (fun x => x) 5 5 dX0_startAnew_40 ml_RX0_63 tg_X5_startAnew im_X5_startAnew se_X5_startAnew rfl (by decide) (fun x hx => kX5_startAnew κ.1 κ.2.1 x5 h4 x hx) (by decide) (by decide) rfl rfl (Nat.le_of_ble_eq_true rfl) (fun h6 => ?_)
    show xJ iX0_startAnew κ _ 43 [(0, .ref v0), (1, .int s7.1)] [] h6 _
    refine j_aload_n 0 dX0_startAnew_43 rfl rfl ?_
    refine j_iconst (x := 0) dX0_startAnew_44 (by decide) ?_
    refine j_putI 0 16 15 dX0_startAnew_45 fl_RX0_66 (by decide) rfl (by decide) rfl rfl (fun h7 => ?_)
    exact j_vret h7 dX0_startAnew_48 rfl (fun q => q)
  · refine j_aload_n 0 dX0_startAnew_13 rfl rfl ?_
    refine j_getR 0 16 1 dX0_startAnew_14 fl_RX0_15 (by decide) rfl (by decide) (fun _ _ _ => rfl) (fun x8 => ?_)
    refine j_iload_n 1 dX0_startAnew_17 rfl rfl ?_
    refine j_iconst (x := 0) dX0_startAnew_18 (by decide) ?_
    refine j_iast dX0_startAnew_19 (fun h9 => ?_)
    refine j_iinc (y := s7.1 + 1) (L' := [(1, .int (s7.1 + 1)), (0, .ref v0)]) 1 dX0_startAnew_20 rfl rfl (Nat.le_of_ble_eq_true rfl) rfl ?_
    refine j_goto (tgt := 7) dX0_startAnew_23 (by decide) ?_
    refine j_pick [1, 0] rfl ?_
    exact j_again (s7.1 + 1, h9) rfl rfl
def fX8_bus (v0 : Nat) (v1 : Int32) (h : Hp) : Option (Int32 × Hp) :=
  (fX8_within v1 1 7 h).bind fun x1 => if (x1 : Int32) = 0 then ((xat h v0 (8, 12) (fX8_refuseBad v0 h)).bind fun q3 => some (q3.1, q3.2)) else ((xgR h v0 (8, 12) 0).bind fun x4 => (xgI h x4 (0, 16) 2).bind fun x5 => (xgR h v0 (8, 12) 0).bind fun x6 => (xat h x6 (0, 16) (fX0_startAnew x6 h)).bind fun h7 => (xgR h7 v0 (8, 12) 0).bind fun x8 => (xpI h7 x8 (0, 16) 0 v1).bind fun h9 => some (x5, h9))
abbrev iX8_bus : xI := (cX8_bus, yX8_bus.cls, yX8_bus.name, some .int, 3, 4)
set_option maxHeartbeats 4000000 in
set_option maxRecDepth 100000 in
theorem kX8_bus (l : Launch) (η : xEnv) (v0 : Nat) (v1 : Int32) (h : Hp) (x : Int32 × Hp) (hx : fX8_bus v0 v1 h = some x) : xC l η yX8_bus cX8_bus 3 (some .int) 4 [.ref v0, .int v1] h (some (.int x.1)) x.2 := by
  refine xC_of (by decide) (Nat.le_of_ble_eq_true rfl) hx (fun κ x => κ.2.2.2.1 = some (.int x.1) ∧ κ.2.2.2.2 = x.2) ⟨rfl, rfl⟩ (fun κ => ?_)
  show xJ iX8_bus κ _ 0 [(0, .ref v0), (1, .int v1)] [] h (fX8_bus v0 v1 h)
  unfold fX8_bus
  refine j_iload_n 1 dX8_bus_0 rfl rfl ?_
  refine j_iconst (x := 1) dX8_bus_1 (by decide) ?_
  refine j_bipush (x := 7) dX8_bus_2 (by decide) ?_
  refine j_callS (as := [.int v1, .int 1, .int 7]) (fun x => some (.int x)) (fun _ => h) dX8_bus_4 ml_RX8_66 tg_X8_within st_X8_within (fun x hx => kX8_within κ.1 κ.2.1 v1 1 7 h x hx) (by decide) (by decide) rfl rfl (Nat.le_of_ble_eq_true rfl) (fun x1 => ?_)
  show xJ iX8_bus κ _ 7 [(0, .ref v0), (1, .int v1)] [.int x1] h _
  refine j_if_ne (tgt := 15) dX8_bus_7 (by decide) (fun c2 => ?_) (fun c2 => ?_)
  · refine j_aload_n 0 dX8_bus_10 rfl rfl ?_
    refine j_callV (as := []) (fun x => some (.int x.1)) (fun x => x.2) 8 12 dX8_bus_11 ml_RX8_70 tg_X8_refuseBad im_X8_refuseBad se_X8_refuseBad rfl (by decide) (fun x hx => kX8_refuseBad κ.1 κ.2.1 v0 h x hx) (by decide) (by decide) rfl rfl (Nat.le_of_ble_eq_true rfl) (fun q3 => ?_)
    show xJ iX8_bus κ _ 14 [(0, .ref v0), (1, .int v1)] [.int q3.1] q3.2 _
    exact j_iret (q3.1, q3.2) dX8_bus_14 rfl (fun q => q)
  · refine j_aload_n 0 dX8_bus_15 rfl rfl ?_
    refine j_getR 8 12 0 dX8_bus_16 fl_RX8_12 (by decide) rfl (by decide) (fun _ _ _ => rfl) (fun x4 => ?_)
    refine j_getI 0 16 2 dX8_bus_19 fl_RX8_74 (by decide) rfl (by decide) rfl (fun x5 => ?_)
    refine j_istore_n (L' := [(2, .int x5), (0, .ref v0), (1, .int v1)]) dX8_bus_22 rfl (Nat.le_of_ble_eq_true rfl) rfl ?_
    refine j_aload_n 1 dX8_bus_23 rfl rfl ?_
    refine j_getR 8 12 0 dX8_bus_24 fl_RX8_12 (by decide) rfl (by decide) (fun _ _ _ => rfl) (fun x6 => ?_)
    refine j_callV (as := []) (fun _ => none) (fun x => x) 0 16 dX8_bus_27 ml_RX8_78 tg_X0_startAnew im_X0_startAnew se_X0_startAnew rfl (by decide) (fun x hx => kX0_startAnew κ.1 κ.2.1 x6 h x hx) (by decide) (by decide) rfl rfl (Nat.le_of_ble_eq_true rfl) (fun h7 => ?_)
    show xJ iX8_bus κ _ 30 [(2, .int x5), (0, .ref v0), (1, .int v1)] [] h7 _
    refine j_aload_n 1 dX8_bus_30 rfl rfl ?_
    refine j_getR 8 12 0 dX8_bus_31 fl_RX8_12 (by decide) rfl (by decide) (fun _ _ _ => rfl) (fun x8 => ?_)
    refine j_iload_n 2 dX8_bus_34 rfl rfl ?_
    refine j_putI 0 16 0 dX8_bus_35 fl_RX8_81 (by decide) rfl (by decide) rfl rfl (fun h9 => ?_)
    refine j_iload_n 0 dX8_bus_38 rfl rfl ?_
    exact j_iret (x5, h9) dX8_bus_39 rfl (fun q => q)
def fX9_in_j18 (t0 : Int32) (h : Hp) : Option (Int32) :=
  if vp_nar .boolean t0 = t0 then some t0 else none
def fX9_in_j17  (h : Hp) : Option (Int32) :=
  fX9_in_j18 0 h
def fX9_in (v0 : Int64) (v2 : Int64) (v4 : Int64) (h : Hp) : Option (Int32) :=
  if (lg_cmp v0 v2 : Int32) < 0 then (fX9_in_j17 h) else (if (0 : Int32) < (lg_cmp v0 v4) then (fX9_in_j17 h) else (fX9_in_j18 1 h))
abbrev iX9_in : xI := (cX9_in, yX9_in.cls, yX9_in.name, some .boolean, 6, 2)
set_option maxHeartbeats 4000000 in
set_option maxRecDepth 100000 in
theorem kX9_in (l : Launch) (η : xEnv) (v0 : Int64) (v2 : Int64) (v4 : Int64) (h : Hp) (x : Int32) (hx : fX9_in v0 v2 v4 h = some x) : xC l η yX9_in cX9_in 6 (some .boolean) 2 [.long v0, .long v2, .long v4] h (some (.int x)) h := by
  refine xC_of (by decide) (Nat.le_of_ble_eq_true rfl) hx (fun κ x => κ.2.2.2.1 = some (.int x) ∧ κ.2.2.2.2 = h) ⟨rfl, rfl⟩ (fun κ => ?_)
  show xJ iX9_in κ _ 0 [(0, .long v0), (2, .long v2), (4, .long v4)] [] h (fX9_in v0 v2 v4 h)
  unfold fX9_in
  refine j_have (pj := 18) (Lf := fun v : Int32 => []) (Sf := fun v : Int32 => [.int v]) (Hf := fun v : Int32 => h) (jf := fun v : Int32 => fX9_in_j18 v h) (fun v => ?_) (fun hj18 => ?_)
  · generalize v = t0
    show xJ iX9_in κ _ 18 [] [.int t0] h (fX9_in_j18 t0 h)
    unfold fX9_in_j18
    exact j_zretc t0 dX9_in_18 rfl (fun q => q)
  refine j_have (pj := 17) (Lf := fun v : Unit => []) (Sf := fun v : Unit => []) (Hf := fun v : Unit => h) (jf := fun v : Unit => fX9_in_j17 h) (fun v => ?_) (fun hj17 => ?_)
  · skip
    show xJ iX9_in κ _ 17 [] [] h (fX9_in_j17 h)
    unfold fX9_in_j17
    refine j_iconst (x := 0) dX9_in_17 (by decide) ?_
    refine j_pick [] rfl ?_
    exact hj18 0
  refine j_lload_n 0 dX9_in_0 rfl rfl ?_
  refine j_lload_n 1 dX9_in_1 rfl rfl ?_
  refine j_lcmp dX9_in_2 ?_
  refine j_if_lt (tgt := 17) dX9_in_3 (by decide) (fun c1 => ?_) (fun c1 => ?_)
  · refine j_pick [] rfl ?_
    exact hj17 ()
  · refine j_lload_n 0 dX9_in_6 rfl rfl ?_
    refine j_lload 2 dX9_in_7 rfl ?_
    refine j_lcmp dX9_in_9 ?_
    refine j_if_gt (tgt := 17) dX9_in_10 (by decide) (fun c2 => ?_) (fun c2 => ?_)
    · refine j_pick [] rfl ?_
      exact hj17 ()
    · refine j_iconst (x := 1) dX9_in_13 (by decide) ?_
      refine j_goto (tgt := 18) dX9_in_14 (by decide) ?_
      refine j_pick [] rfl ?_
      exact hj18 1
def fX9_bad (v0 : Nat) (v1 : Int32) (h : Hp) : Option (Int32 × Hp) :=
  (xgR h v0 (9, 18) 3).bind fun x1 => (xaI h x1 10 0).bind fun x2 => (xsI h x1 0 (x2 + 1)).bind fun h3 => some (v1, h3)
abbrev iX9_bad : xI := (cX9_bad, yX9_bad.cls, yX9_bad.name, some .int, 2, 2)
set_option maxHeartbeats 4000000 in
set_option maxRecDepth 100000 in
theorem kX9_bad (l : Launch) (η : xEnv) (v0 : Nat) (v1 : Int32) (h : Hp) (x : Int32 × Hp) (hx : fX9_bad v0 v1 h = some x) : xC l η yX9_bad cX9_bad 2 (some .int) 2 [.ref v0, .int v1] h (some (.int x.1)) x.2 := by
  refine xC_of (by decide) (Nat.le_of_ble_eq_true rfl) hx (fun κ x => κ.2.2.2.1 = some (.int x.1) ∧ κ.2.2.2.2 = x.2) ⟨rfl, rfl⟩ (fun κ => ?_)
  show xJ iX9_bad κ _ 0 [(0, .ref v0), (1, .int v1)] [] h (fX9_bad v0 v1 h)
  unfold fX9_bad
  refine j_aload_n 0 dX9_bad_0 rfl rfl ?_
  refine j_getR 9 18 3 dX9_bad_1 fl_RX9_20 (by decide) rfl (by decide) (fun _ _ _ => rfl) (fun x1 => ?_)
  refine j_iconst (x := 0) dX9_bad_4 (by decide) ?_
  refine j_dup2 dX9_bad_5 rfl rfl ?_
  refine j_iald dX9_bad_6 (fun x2 => ?_)
  refine j_iconst (x := 1) dX9_bad_7 (by decide) ?_
  refine j_iadd dX9_bad_8 ?_
  refine j_iast dX9_bad_9 (fun h3 => ?_)
  refine j_iload_n 1 dX9_bad_10 rfl rfl ?_
  exact j_iret (v1, h3) dX9_bad_11 rfl (fun q => q)
def fX9_many (v0 : Nat) (h : Hp) : Option (Int32) :=
  (xgR h v0 (9, 18) 0).bind fun x1 => (xaI h x1 10 0).bind fun x2 => some x2
abbrev iX9_many : xI := (cX9_many, yX9_many.cls, yX9_many.name, some .int, 1, 2)
set_option maxHeartbeats 4000000 in
set_option maxRecDepth 100000 in
theorem kX9_many (l : Launch) (η : xEnv) (v0 : Nat) (h : Hp) (x : Int32) (hx : fX9_many v0 h = some x) : xC l η yX9_many cX9_many 1 (some .int) 2 [.ref v0] h (some (.int x)) h := by
  refine xC_of (by decide) (Nat.le_of_ble_eq_true rfl) hx (fun κ x => κ.2.2.2.1 = some (.int x) ∧ κ.2.2.2.2 = h) ⟨rfl, rfl⟩ (fun κ => ?_)
  show xJ iX9_many κ _ 0 [(0, .ref v0)] [] h (fX9_many v0 h)
  unfold fX9_many
  refine j_aload_n 0 dX9_many_0 rfl rfl ?_
  refine j_getR 9 18 0 dX9_many_1 fl_RX9_7 (by decide) rfl (by decide) (fun _ _ _ => rfl) (fun x1 => ?_)
  refine j_iconst (x := 0) dX9_many_4 (by decide) ?_
  refine j_iald dX9_many_5 (fun x2 => ?_)
  exact j_iret x2 dX9_many_6 rfl (fun q => q)
def fX9_bus (v0 : Nat) (v1 : Int32) (h : Hp) : Option (Int32 × Hp) :=
  (fX9_in ((v1 : Int32).toInt64) 1 7 h).bind fun x1 => if (x1 : Int32) = 0 then ((xat h v0 (9, 18) (fX9_bad v0 (-2) h)).bind fun q3 => some (q3.1, q3.2)) else ((xat h v0 (9, 18) (fX9_many v0 h)).bind fun x4 => (xgR h v0 (9, 18) 0).bind fun x5 => (fX9_begin x5 v1 h).bind fun h6 => some (x4, h6))
abbrev iX9_bus : xI := (cX9_bus, yX9_bus.cls, yX9_bus.name, some .int, 3, 3)
set_option maxHeartbeats 4000000 in
set_option maxRecDepth 100000 in
theorem kX9_bus (l : Launch) (η : xEnv) (v0 : Nat) (v1 : Int32) (h : Hp) (x : Int32 × Hp) (hx : fX9_bus v0 v1 h = some x) : xC l η yX9_bus cX9_bus 3 (some .int) 3 [.ref v0, .int v1] h (some (.int x.1)) x.2 := by
  refine xC_of (by decide) (Nat.le_of_ble_eq_true rfl) hx (fun κ x => κ.2.2.2.1 = some (.int x.1) ∧ κ.2.2.2.2 = x.2) ⟨rfl, rfl⟩ (fun κ => ?_)
  show xJ iX9_bus κ _ 0 [(0, .ref v0), (1, .int v1)] [] h (fX9_bus v0 v1 h)
  unfold fX9_bus
  refine j_iload_n 1 dX9_bus_0 rfl rfl ?_
  refine j_i2l dX9_bus_1 ?_
  refine j_lconst (x := 1) dX9_bus_2 (by decide) ?_
  refine j_ldc2 dX9_bus_3 cL_RX9_62 ?_
  refine j_callS (as := [.long ((v1 : Int32).toInt64), .long 1, .long 7]) (fun x => some (.int x)) (fun _ => h) dX9_bus_6 ml_RX9_56 tg_X9_in st_X9_in (fun x hx => kX9_in κ.1 κ.2.1 ((v1 : Int32).toInt64) 1 7 h x hx) (by decide) (by decide) rfl rfl (Nat.le_of_ble_eq_true rfl) (fun x1 => ?_)
  show xJ iX9_bus κ _ 9 [(0, .ref v0), (1, .int v1)] [.int x1] h _
  refine j_if_ne (tgt := 19) dX9_bus_9 (by decide) (fun c2 => ?_) (fun c2 => ?_)
  · refine j_aload_n 0 dX9_bus_12 rfl rfl ?_
    refine j_bipush (x := (-2)) dX9_bus_13 (by decide) ?_
    refine j_callV (as := [.int (-2)]) (fun x => some (.int x.1)) (fun x => x.2) 9 18 dX9_bus_15 ml_RX9_64 tg_X9_bad im_X9_bad se_X9_bad rfl (by decide) (fun x hx => kX9_bad κ.1 κ.2.1 v0 (-2) h x hx) (by decide) (by decide) rfl rfl (Nat.le_of_ble_eq_true rfl) (fun q3 => ?_)
    show xJ iX9_bus κ _ 18 [(0, .ref v0), (1, .int v1)] [.int q3.1] q3.2 _
    exact j_iret (q3.1, q3.2) dX9_bus_18 rfl (fun q => q)
  · refine j_aload_n 0 dX9_bus_19 rfl rfl ?_
    refine j_callV (as := []) (fun x => some (.int x)) (fun _ => h) 9 18 dX9_bus_20 ml_RX9_52 tg_X9_many im_X9_many se_X9_many rfl (by decide) (fun x hx => kX9_many κ.1 κ.2.1 v0 h x hx) (by decide) (by decide) rfl rfl (Nat.le_of_ble_eq_true rfl) (fun x4 => ?_)
    show xJ iX9_bus κ _ 23 [(0, .ref v0), (1, .int v1)] [.int x4] h _
    refine j_istore_n (L' := [(2, .int x4), (0, .ref v0), (1, .int v1)]) dX9_bus_23 rfl (Nat.le_of_ble_eq_true rfl) rfl ?_
    refine j_aload_n 1 dX9_bus_24 rfl rfl ?_
    refine j_getR 9 18 0 dX9_bus_25 fl_RX9_7 (by decide) rfl (by decide) (fun _ _ _ => rfl) (fun x5 => ?_)
    refine j_iload_n 2 dX9_bus_28 rfl rfl ?_
    refine j_callS (as := [.ref x5, .int v1]) (fun _ => none) (fun x => x) dX9_bus_29 ml_RX9_48 tg_X9_begin st_X9_begin (fun x hx => kX9_begin κ.1 κ.2.1 x5 v1 h x hx) (by decide) (by decide) rfl rfl (Nat.le_of_ble_eq_true rfl) (fun h6 => ?_)
    show xJ iX9_bus κ _ 32 [(2, .int x4), (0, .ref v0), (1, .int v1)] [] h6 _
    refine j_iload_n 0 dX9_bus_32 rfl rfl ?_
    exact j_iret (x4, h6) dX9_bus_33 rfl (fun q => q)
def fX8_room (v0 : Nat) (v1 : Int32) (h : Hp) : Option (Int32 × Hp) :=
  (fX8_within v1 1 7 h).bind fun x1 => if (x1 : Int32) = 0 then ((xat h v0 (8, 12) (fX8_refuseBad v0 h)).bind fun q3 => some (q3.1, q3.2)) else ((xgR h v0 (8, 12) 0).bind fun x4 => (xgI h x4 (0, 16) 0).bind fun x5 => (xgR h v0 (8, 12) 0).bind fun x6 => (xpI h x6 (0, 16) 0 v1).bind fun h7 => (xgR h7 v0 (8, 12) 0).bind fun x8 => (xpI h7 x8 (0, 16) 15 0).bind fun h9 => some (x5, h9))
abbrev iX8_room : xI := (cX8_room, yX8_room.cls, yX8_room.name, some .int, 3, 3)
set_option maxHeartbeats 4000000 in
set_option maxRecDepth 100000 in
theorem kX8_room (l : Launch) (η : xEnv) (v0 : Nat) (v1 : Int32) (h : Hp) (x : Int32 × Hp) (hx : fX8_room v0 v1 h = some x) : xC l η yX8_room cX8_room 3 (some .int) 3 [.ref v0, .int v1] h (some (.int x.1)) x.2 := by
  refine xC_of (by decide) (Nat.le_of_ble_eq_true rfl) hx (fun κ x => κ.2.2.2.1 = some (.int x.1) ∧ κ.2.2.2.2 = x.2) ⟨rfl, rfl⟩ (fun κ => ?_)
  show xJ iX8_room κ _ 0 [(0, .ref v0), (1, .int v1)] [] h (fX8_room v0 v1 h)
  unfold fX8_room
  refine j_iload_n 1 dX8_room_0 rfl rfl ?_
  refine j_iconst (x := 1) dX8_room_1 (by decide) ?_
  refine j_bipush (x := 7) dX8_room_2 (by decide) ?_
  refine j_callS (as := [.int v1, .int 1, .int 7]) (fun x => some (.int x)) (fun _ => h) dX8_room_4 ml_RX8_66 tg_X8_within st_X8_within (fun x hx => kX8_within κ.1 κ.2.1 v1 1 7 h x hx) (by decide) (by decide) rfl rfl (Nat.le_of_ble_eq_true rfl) (fun x1 => ?_)
  show xJ iX8_room κ _ 7 [(0, .ref v0), (1, .int v1)] [.int x1] h _
  refine j_if_ne (tgt := 15) dX8_room_7 (by decide) (fun c2 => ?_) (fun c2 => ?_)
  · refine j_aload_n 0 dX8_room_10 rfl rfl ?_
    refine j_callV (as := []) (fun x => some (.int x.1)) (fun x => x.2) 8 12 dX8_room_11 ml_RX8_70 tg_X8_refuseBad im_X8_refuseBad se_X8_refuseBad rfl (by decide) (fun x hx => kX8_refuseBad κ.1 κ.2.1 v0 h x hx) (by decide) (by decide) rfl rfl (Nat.le_of_ble_eq_true rfl) (fun q3 => ?_)
    show xJ iX8_room κ _ 14 [(0, .ref v0), (1, .int v1)] [.int q3.1] q3.2 _
    exact j_iret (q3.1, q3.2) dX8_room_14 rfl (fun q => q)
  · refine j_aload_n 0 dX8_room_15 rfl rfl ?_
    refine j_getR 8 12 0 dX8_room_16 fl_RX8_12 (by decide) rfl (by decide) (fun _ _ _ => rfl) (fun x4 => ?_)
    refine j_getI 0 16 0 dX8_room_19 fl_RX8_81 (by decide) rfl (by decide) rfl (fun x5 => ?_)
    refine j_istore_n (L' := [(2, .int x5), (0, .ref v0), (1, .int v1)]) dX8_room_22 rfl (Nat.le_of_ble_eq_true rfl) rfl ?_
    refine j_aload_n 1 dX8_room_23 rfl rfl ?_
    refine j_getR 8 12 0 dX8_room_24 fl_RX8_12 (by decide) rfl (by decide) (fun _ _ _ => rfl) (fun x6 => ?_)
    refine j_iload_n 2 dX8_room_27 rfl rfl ?_
    refine j_putI 0 16 0 dX8_room_28 fl_RX8_81 (by decide) rfl (by decide) rfl rfl (fun h7 => ?_)
    refine j_aload_n 1 dX8_room_31 rfl rfl ?_
    refine j_getR 8 12 0 dX8_room_32 fl_RX8_12 (by decide) rfl (by decide) (fun _ _ _ => rfl) (fun x8 => ?_)
    refine j_iconst (x := 0) dX8_room_35 (by decide) ?_
    refine j_putI 0 16 15 dX8_room_36 fl_RX8_84 (by decide) rfl (by decide) rfl rfl (fun h9 => ?_)
    refine j_iload_n 0 dX8_room_39 rfl rfl ?_
    exact j_iret (x5, h9) dX8_room_40 rfl (fun q => q)
def fX9_room (v0 : Nat) (v1 : Int32) (h : Hp) : Option (Int32 × Hp) :=
  (fX9_in ((v1 : Int32).toInt64) 1 7 h).bind fun x1 => if (x1 : Int32) = 0 then ((xat h v0 (9, 18) (fX9_bad v0 (-2) h)).bind fun q3 => some (q3.1, q3.2)) else ((xgR h v0 (9, 18) 0).bind fun x4 => (xaI h x4 10 8).bind fun x5 => (xgR h v0 (9, 18) 0).bind fun x6 => (xsI h x6 8 v1).bind fun h7 => (xgR h7 v0 (9, 18) 0).bind fun x8 => (xsI h7 x8 2 0).bind fun h9 => some (x5, h9))
abbrev iX9_room : xI := (cX9_room, yX9_room.cls, yX9_room.name, some .int, 3, 3)
set_option maxHeartbeats 4000000 in
set_option maxRecDepth 100000 in
theorem kX9_room (l : Launch) (η : xEnv) (v0 : Nat) (v1 : Int32) (h : Hp) (x : Int32 × Hp) (hx : fX9_room v0 v1 h = some x) : xC l η yX9_room cX9_room 3 (some .int) 3 [.ref v0, .int v1] h (some (.int x.1)) x.2 := by
  refine xC_of (by decide) (Nat.le_of_ble_eq_true rfl) hx (fun κ x => κ.2.2.2.1 = some (.int x.1) ∧ κ.2.2.2.2 = x.2) ⟨rfl, rfl⟩ (fun κ => ?_)
  show xJ iX9_room κ _ 0 [(0, .ref v0), (1, .int v1)] [] h (fX9_room v0 v1 h)
  unfold fX9_room
  refine j_iload_n 1 dX9_room_0 rfl rfl ?_
  refine j_i2l dX9_room_1 ?_
  refine j_lconst (x := 1) dX9_room_2 (by decide) ?_
  refine j_ldc2 dX9_room_3 cL_RX9_62 ?_
  refine j_callS (as := [.long ((v1 : Int32).toInt64), .long 1, .long 7]) (fun x => some (.int x)) (fun _ => h) dX9_room_6 ml_RX9_56 tg_X9_in st_X9_in (fun x hx => kX9_in κ.1 κ.2.1 ((v1 : Int32).toInt64) 1 7 h x hx) (by decide) (by decide) rfl rfl (Nat.le_of_ble_eq_true rfl) (fun x1 => ?_)
  show xJ iX9_room κ _ 9 [(0, .ref v0), (1, .int v1)] [.int x1] h _
  refine j_if_ne (tgt := 19) dX9_room_9 (by decide) (fun c2 => ?_) (fun c2 => ?_)
  · refine j_aload_n 0 dX9_room_12 rfl rfl ?_
    refine j_bipush (x := (-2)) dX9_room_13 (by decide) ?_
    refine j_callV (as := [.int (-2)]) (fun x => some (.int x.1)) (fun x => x.2) 9 18 dX9_room_15 ml_RX9_64 tg_X9_bad im_X9_bad se_X9_bad rfl (by decide) (fun x hx => kX9_bad κ.1 κ.2.1 v0 (-2) h x hx) (by decide) (by decide) rfl rfl (Nat.le_of_ble_eq_true rfl) (fun q3 => ?_)
    show xJ iX9_room κ _ 18 [(0, .ref v0), (1, .int v1)] [.int q3.1] q3.2 _
    exact j_iret (q3.1, q3.2) dX9_room_18 rfl (fun q => q)
  · refine j_aload_n 0 dX9_room_19 rfl rfl ?_
    refine j_getR 9 18 0 dX9_room_20 fl_RX9_7 (by decide) rfl (by decide) (fun _ _ _ => rfl) (fun x4 => ?_)
    refine j_bipush (x := 8) dX9_room_23 (by decide) ?_
    refine j_iald dX9_room_25 (fun x5 => ?_)
    refine j_istore_n (L' := [(2, .int x5), (0, .ref v0), (1, .int v1)]) dX9_room_26 rfl (Nat.le_of_ble_eq_true rfl) rfl ?_
    refine j_aload_n 1 dX9_room_27 rfl rfl ?_
    refine j_getR 9 18 0 dX9_room_28 fl_RX9_7 (by decide) rfl (by decide) (fun _ _ _ => rfl) (fun x6 => ?_)
    refine j_bipush (x := 8) dX9_room_31 (by decide) ?_
    refine j_iload_n 2 dX9_room_33 rfl rfl ?_
    refine j_iast dX9_room_34 (fun h7 => ?_)
    refine j_aload_n 1 dX9_room_35 rfl rfl ?_
    refine j_getR 9 18 0 dX9_room_36 fl_RX9_7 (by decide) rfl (by decide) (fun _ _ _ => rfl) (fun x8 => ?_)
    refine j_iconst (x := 2) dX9_room_39 (by decide) ?_
    refine j_iconst (x := 0) dX9_room_40 (by decide) ?_
    refine j_iast dX9_room_41 (fun h9 => ?_)
    refine j_iload_n 0 dX9_room_42 rfl rfl ?_
    exact j_iret (x5, h9) dX9_room_43 rfl (fun q => q)
def fX8_bridge_j20 (v0 : Nat) (h : Hp) : Option (Int32 × Hp) :=
  (xat h v0 (8, 12) (fX8_refuseBad v0 h)).bind fun q1 => some (q1.1, q1.2)
def fX8_bridge (v0 : Nat) (v1 : Int32) (v2 : Int32) (h : Hp) : Option (Int32 × Hp) :=
  (fX8_within v1 0 9 h).bind fun x2 => if (x2 : Int32) = 0 then (fX8_bridge_j20 v0 h) else ((fX8_within v2 0 9 h).bind fun x4 => if (x4 : Int32) = 0 then (fX8_bridge_j20 v0 h) else ((xgR h v0 (8, 12) 0).bind fun x6 => (xgR h x6 (0, 16) 1).bind fun x7 => (xaI h x7 10 v1).bind fun x8 => (xgR h v0 (8, 12) 0).bind fun x9 => (xgR h x9 (0, 16) 1).bind fun x10 => (xsI h x10 v1 v2).bind fun h11 => (xgR h11 v0 (8, 12) 0).bind fun x12 => (xpI h11 x12 (0, 16) 15 0).bind fun h13 => some (x8, h13)))
abbrev iX8_bridge : xI := (cX8_bridge, yX8_bridge.cls, yX8_bridge.name, some .int, 4, 3)
set_option maxHeartbeats 4000000 in
set_option maxRecDepth 100000 in
theorem kX8_bridge (l : Launch) (η : xEnv) (v0 : Nat) (v1 : Int32) (v2 : Int32) (h : Hp) (x : Int32 × Hp) (hx : fX8_bridge v0 v1 v2 h = some x) : xC l η yX8_bridge cX8_bridge 4 (some .int) 3 [.ref v0, .int v1, .int v2] h (some (.int x.1)) x.2 := by
  refine xC_of (by decide) (Nat.le_of_ble_eq_true rfl) hx (fun κ x => κ.2.2.2.1 = some (.int x.1) ∧ κ.2.2.2.2 = x.2) ⟨rfl, rfl⟩ (fun κ => ?_)
  show xJ iX8_bridge κ _ 0 [(0, .ref v0), (1, .int v1), (2, .int v2)] [] h (fX8_bridge v0 v1 v2 h)
  unfold fX8_bridge
  refine j_have (pj := 20) (Lf := fun v : Hp => [(0, .ref v0)]) (Sf := fun v : Hp => []) (Hf := fun v : Hp => v) (jf := fun v : Hp => fX8_bridge_j20 v0 v) (fun v => ?_) (fun hj20 => ?_)
  · generalize v = h
    show xJ iX8_bridge κ _ 20 [(0, .ref v0)] [] h (fX8_bridge_j20 v0 h)
    unfold fX8_bridge_j20
    refine j_aload_n 0 dX8_bridge_20 rfl rfl ?_
    refine j_callV (as := []) (fun x => some (.int x.1)) (fun x => x.2) 8 12 dX8_bridge_21 ml_RX8_70 tg_X8_refuseBad im_X8_refuseBad se_X8_refuseBad rfl (by decide) (fun x hx => kX8_refuseBad κ.1 κ.2.1 v0 h x hx) (by decide) (by decide) rfl rfl (Nat.le_of_ble_eq_true rfl) (fun q1 => ?_)
    show xJ iX8_bridge κ _ 24 [(0, .ref v0)] [.int q1.1] q1.2 _
    exact j_iret (q1.1, q1.2) dX8_bridge_24 rfl (fun q => q)
  refine j_iload_n 1 dX8_bridge_0 rfl rfl ?_
  refine j_iconst (x := 0) dX8_bridge_1 (by decide) ?_
  refine j_bipush (x := 9) dX8_bridge_2 (by decide) ?_
  refine j_callS (as := [.int v1, .int 0, .int 9]) (fun x => some (.int x)) (fun _ => h) dX8_bridge_4 ml_RX8_66 tg_X8_within st_X8_within (fun x hx => kX8_within κ.1 κ.2.1 v1 0 9 h x hx) (by decide) (by decide) rfl rfl (Nat.le_of_ble_eq_true rfl) (fun x2 => ?_)
  show xJ iX8_bridge κ _ 7 [(0, .ref v0), (1, .int v1), (2, .int v2)] [.int x2] h _
  refine j_if_eq (tgt := 20) dX8_bridge_7 (by decide) (fun c3 => ?_) (fun c3 => ?_)
  · refine j_pick [0] rfl ?_
    exact hj20 h
  · refine j_iload_n 2 dX8_bridge_10 rfl rfl ?_
    refine j_iconst (x := 0) dX8_bridge_11 (by decide) ?_
    refine j_bipush (x := 9) dX8_bridge_12 (by decide) ?_
    refine j_callS (as := [.int v2, .int 0, .int 9]) (fun x => some (.int x)) (fun _ => h) dX8_bridge_14 ml_RX8_66 tg_X8_within st_X8_within (fun x hx => kX8_within κ.1 κ.2.1 v2 0 9 h x hx) (by decide) (by decide) rfl rfl (Nat.le_of_ble_eq_true rfl) (fun x4 => ?_)
    show xJ iX8_bridge κ _ 17 [(0, .ref v0), (1, .int v1), (2, .int v2)] [.int x4] h _
    refine j_if_ne (tgt := 25) dX8_bridge_17 (by decide) (fun c5 => ?_) (fun c5 => ?_)
    · refine j_pick [0] rfl ?_
      exact hj20 h
    · refine j_aload_n 0 dX8_bridge_25 rfl rfl ?_
      refine j_getR 8 12 0 dX8_bridge_26 fl_RX8_12 (by decide) rfl (by decide) (fun _ _ _ => rfl) (fun x6 => ?_)
      refine j_getR 0 16 1 dX8_bridge_29 fl_RX8_87 (by decide) rfl (by decide) (fun _ _ _ => rfl) (fun x7 => ?_)
      refine j_iload_n 1 dX8_bridge_32 rfl rfl ?_
      refine j_iald dX8_bridge_33 (fun x8 => ?_)
      refine j_istore_n (L' := [(3, .int x8), (0, .ref v0), (1, .int v1), (2, .int v2)]) dX8_bridge_34 rfl (Nat.le_of_ble_eq_true rfl) rfl ?_
      refine j_aload_n 1 dX8_bridge_35 rfl rfl ?_
      refine j_getR 8 12 0 dX8_bridge_36 fl_RX8_12 (by decide) rfl (by decide) (fun _ _ _ => rfl) (fun x9 => ?_)
      refine j_getR 0 16 1 dX8_bridge_39 fl_RX8_87 (by decide) rfl (by decide) (fun _ _ _ => rfl) (fun x10 => ?_)
      refine j_iload_n 2 dX8_bridge_42 rfl rfl ?_
      refine j_iload_n 3 dX8_bridge_43 rfl rfl ?_
      refine j_iast dX8_bridge_44 (fun h11 => ?_)
      refine j_aload_n 1 dX8_bridge_45 rfl rfl ?_
      refine j_getR 8 12 0 dX8_bridge_46 fl_RX8_12 (by decide) rfl (by decide) (fun _ _ _ => rfl) (fun x12 => ?_)
      refine j_iconst (x := 0) dX8_bridge_49 (by decide) ?_
      refine j_putI 0 16 15 dX8_bridge_50 fl_RX8_84 (by decide) rfl (by decide) rfl rfl (fun h13 => ?_)
      refine j_iload_n 0 dX8_bridge_53 rfl rfl ?_
      exact j_iret (x8, h13) dX8_bridge_54 rfl (fun q => q)
def fX9_isStop (v0 : Int32) (h : Hp) : Option (Int32) :=
  (fX9_in ((v0 : Int32).toInt64) 0 9 h).bind fun x1 => if vp_nar .boolean x1 = x1 then some x1 else none
abbrev iX9_isStop : xI := (cX9_isStop, yX9_isStop.cls, yX9_isStop.name, some .boolean, 1, 3)
set_option maxHeartbeats 4000000 in
set_option maxRecDepth 100000 in
theorem kX9_isStop (l : Launch) (η : xEnv) (v0 : Int32) (h : Hp) (x : Int32) (hx : fX9_isStop v0 h = some x) : xC l η yX9_isStop cX9_isStop 1 (some .boolean) 3 [.int v0] h (some (.int x)) h := by
  refine xC_of (by decide) (Nat.le_of_ble_eq_true rfl) hx (fun κ x => κ.2.2.2.1 = some (.int x) ∧ κ.2.2.2.2 = h) ⟨rfl, rfl⟩ (fun κ => ?_)
  show xJ iX9_isStop κ _ 0 [(0, .int v0)] [] h (fX9_isStop v0 h)
  unfold fX9_isStop
  refine j_iload_n 0 dX9_isStop_0 rfl rfl ?_
  refine j_i2l dX9_isStop_1 ?_
  refine j_lconst (x := 0) dX9_isStop_2 (by decide) ?_
  refine j_ldc2 dX9_isStop_3 cL_RX9_60 ?_
  refine j_callS (as := [.long ((v0 : Int32).toInt64), .long 0, .long 9]) (fun x => some (.int x)) (fun _ => h) dX9_isStop_6 ml_RX9_56 tg_X9_in st_X9_in (fun x hx => kX9_in κ.1 κ.2.1 ((v0 : Int32).toInt64) 0 9 h x hx) (by decide) (by decide) rfl rfl (Nat.le_of_ble_eq_true rfl) (fun x1 => ?_)
  show xJ iX9_isStop κ _ 9 [(0, .int v0)] [.int x1] h _
  exact j_zretc x1 dX9_isStop_9 rfl (fun q => q)
def fX9_bridge_j19 (v0 : Nat) (h : Hp) : Option (Int32 × Hp) :=
  (xat h v0 (9, 18) (fX9_bad v0 (-2) h)).bind fun q1 => some (q1.1, q1.2)
def fX9_bridge (v0 : Nat) (v1 : Int32) (v2 : Int32) (h : Hp) : Option (Int32 × Hp) :=
  (fX9_isStop v1 h).bind fun x2 => if (x2 : Int32) = 0 then (fX9_bridge_j19 v0 h) else ((fX9_in ((v2 : Int32).toInt64) 0 9 h).bind fun x4 => if (x4 : Int32) = 0 then (fX9_bridge_j19 v0 h) else ((xgR h v0 (9, 18) 0).bind fun x6 => (xaI h x6 10 (9 + v1)).bind fun x7 => (xgR h v0 (9, 18) 0).bind fun x8 => (xsI h x8 (9 + v1) v2).bind fun h9 => (xgR h9 v0 (9, 18) 0).bind fun x10 => (xsI h9 x10 2 0).bind fun h11 => some (x7, h11)))
abbrev iX9_bridge : xI := (cX9_bridge, yX9_bridge.cls, yX9_bridge.name, some .int, 4, 4)
set_option maxHeartbeats 4000000 in
set_option maxRecDepth 100000 in
theorem kX9_bridge (l : Launch) (η : xEnv) (v0 : Nat) (v1 : Int32) (v2 : Int32) (h : Hp) (x : Int32 × Hp) (hx : fX9_bridge v0 v1 v2 h = some x) : xC l η yX9_bridge cX9_bridge 4 (some .int) 4 [.ref v0, .int v1, .int v2] h (some (.int x.1)) x.2 := by
  refine xC_of (by decide) (Nat.le_of_ble_eq_true rfl) hx (fun κ x => κ.2.2.2.1 = some (.int x.1) ∧ κ.2.2.2.2 = x.2) ⟨rfl, rfl⟩ (fun κ => ?_)
  show xJ iX9_bridge κ _ 0 [(0, .ref v0), (1, .int v1), (2, .int v2)] [] h (fX9_bridge v0 v1 v2 h)
  unfold fX9_bridge
  refine j_have (pj := 19) (Lf := fun v : Hp => [(0, .ref v0)]) (Sf := fun v : Hp => []) (Hf := fun v : Hp => v) (jf := fun v : Hp => fX9_bridge_j19 v0 v) (fun v => ?_) (fun hj19 => ?_)
  · generalize v = h
    show xJ iX9_bridge κ _ 19 [(0, .ref v0)] [] h (fX9_bridge_j19 v0 h)
    unfold fX9_bridge_j19
    refine j_aload_n 0 dX9_bridge_19 rfl rfl ?_
    refine j_bipush (x := (-2)) dX9_bridge_20 (by decide) ?_
    refine j_callV (as := [.int (-2)]) (fun x => some (.int x.1)) (fun x => x.2) 9 18 dX9_bridge_22 ml_RX9_64 tg_X9_bad im_X9_bad se_X9_bad rfl (by decide) (fun x hx => kX9_bad κ.1 κ.2.1 v0 (-2) h x hx) (by decide) (by decide) rfl rfl (Nat.le_of_ble_eq_true rfl) (fun q1 => ?_)
    show xJ iX9_bridge κ _ 25 [(0, .ref v0)] [.int q1.1] q1.2 _
    exact j_iret (q1.1, q1.2) dX9_bridge_25 rfl (fun q => q)
  refine j_iload_n 1 dX9_bridge_0 rfl rfl ?_
  refine j_callS (as := [.int v1]) (fun x => some (.int x)) (fun _ => h) dX9_bridge_1 ml_RX9_68 tg_X9_isStop st_X9_isStop (fun x hx => kX9_isStop κ.1 κ.2.1 v1 h x hx) (by decide) (by decide) rfl rfl (Nat.le_of_ble_eq_true rfl) (fun x2 => ?_)
  show xJ iX9_bridge κ _ 4 [(0, .ref v0), (1, .int v1), (2, .int v2)] [.int x2] h _
  refine j_if_eq (tgt := 19) dX9_bridge_4 (by decide) (fun c3 => ?_) (fun c3 => ?_)
  · refine j_pick [0] rfl ?_
    exact hj19 h
  · refine j_iload_n 2 dX9_bridge_7 rfl rfl ?_
    refine j_i2l dX9_bridge_8 ?_
    refine j_lconst (x := 0) dX9_bridge_9 (by decide) ?_
    refine j_ldc2 dX9_bridge_10 cL_RX9_60 ?_
    refine j_callS (as := [.long ((v2 : Int32).toInt64), .long 0, .long 9]) (fun x => some (.int x)) (fun _ => h) dX9_bridge_13 ml_RX9_56 tg_X9_in st_X9_in (fun x hx => kX9_in κ.1 κ.2.1 ((v2 : Int32).toInt64) 0 9 h x hx) (by decide) (by decide) rfl rfl (Nat.le_of_ble_eq_true rfl) (fun x4 => ?_)
    show xJ iX9_bridge κ _ 16 [(0, .ref v0), (1, .int v1), (2, .int v2)] [.int x4] h _
    refine j_if_ne (tgt := 26) dX9_bridge_16 (by decide) (fun c5 => ?_) (fun c5 => ?_)
    · refine j_pick [0] rfl ?_
      exact hj19 h
    · refine j_aload_n 0 dX9_bridge_26 rfl rfl ?_
      refine j_getR 9 18 0 dX9_bridge_27 fl_RX9_7 (by decide) rfl (by decide) (fun _ _ _ => rfl) (fun x6 => ?_)
      refine j_bipush (x := 9) dX9_bridge_30 (by decide) ?_
      refine j_iload_n 1 dX9_bridge_32 rfl rfl ?_
      refine j_iadd dX9_bridge_33 ?_
      refine j_iald dX9_bridge_34 (fun x7 => ?_)
      refine j_istore_n (L' := [(3, .int x7), (0, .ref v0), (1, .int v1), (2, .int v2)]) dX9_bridge_35 rfl (Nat.le_of_ble_eq_true rfl) rfl ?_
      refine j_aload_n 1 dX9_bridge_36 rfl rfl ?_
      refine j_getR 9 18 0 dX9_bridge_37 fl_RX9_7 (by decide) rfl (by decide) (fun _ _ _ => rfl) (fun x8 => ?_)
      refine j_bipush (x := 9) dX9_bridge_40 (by decide) ?_
      refine j_iload_n 2 dX9_bridge_42 rfl rfl ?_
      refine j_iadd dX9_bridge_43 ?_
      refine j_iload_n 3 dX9_bridge_44 rfl rfl ?_
      refine j_iast dX9_bridge_45 (fun h9 => ?_)
      refine j_aload_n 1 dX9_bridge_46 rfl rfl ?_
      refine j_getR 9 18 0 dX9_bridge_47 fl_RX9_7 (by decide) rfl (by decide) (fun _ _ _ => rfl) (fun x10 => ?_)
      refine j_iconst (x := 2) dX9_bridge_50 (by decide) ?_
      refine j_iconst (x := 0) dX9_bridge_51 (by decide) ?_
      refine j_iast dX9_bridge_52 (fun h11 => ?_)
      refine j_iload_n 0 dX9_bridge_53 rfl rfl ?_
      exact j_iret (x7, h11) dX9_bridge_54 rfl (fun q => q)
def fX8_refuseFull (v0 : Nat) (h : Hp) : Option (Int32 × Hp) :=
  (xgI h v0 (8, 12) 11).bind fun x1 => (xpI h v0 (8, 12) 11 (x1 + 1)).bind fun h2 => some ((-4), h2)
abbrev iX8_refuseFull : xI := (cX8_refuseFull, yX8_refuseFull.cls, yX8_refuseFull.name, some .int, 1, 2)
set_option maxHeartbeats 4000000 in
set_option maxRecDepth 100000 in
theorem kX8_refuseFull (l : Launch) (η : xEnv) (v0 : Nat) (h : Hp) (x : Int32 × Hp) (hx : fX8_refuseFull v0 h = some x) : xC l η yX8_refuseFull cX8_refuseFull 1 (some .int) 2 [.ref v0] h (some (.int x.1)) x.2 := by
  refine xC_of (by decide) (Nat.le_of_ble_eq_true rfl) hx (fun κ x => κ.2.2.2.1 = some (.int x.1) ∧ κ.2.2.2.2 = x.2) ⟨rfl, rfl⟩ (fun κ => ?_)
  show xJ iX8_refuseFull κ _ 0 [(0, .ref v0)] [] h (fX8_refuseFull v0 h)
  unfold fX8_refuseFull
  refine j_aload_n 0 dX8_refuseFull_0 rfl rfl ?_
  refine j_dup dX8_refuseFull_1 rfl ?_
  refine j_getI 8 12 11 dX8_refuseFull_2 fl_RX8_291 (by decide) rfl (by decide) rfl (fun x1 => ?_)
  refine j_iconst (x := 1) dX8_refuseFull_5 (by decide) ?_
  refine j_iadd dX8_refuseFull_6 ?_
  refine j_putI 8 12 11 dX8_refuseFull_7 fl_RX8_291 (by decide) rfl (by decide) rfl rfl (fun h2 => ?_)
  refine j_bipush (x := (-4)) dX8_refuseFull_10 (by decide) ?_
  exact j_iret ((-4), h2) dX8_refuseFull_12 rfl (fun q => q)
def fX0_addIdea (v0 : Nat) (v1 : Int32) (v2 : Int32) (v3 : Int32) (v4 : Int32) (h : Hp) : Option (Hp) :=
  (xgI h v0 (0, 16) 2).bind fun x1 => if (x1 : Int32) < 7 then ((xgR h v0 (0, 16) 3).bind fun x3 => (xgI h v0 (0, 16) 2).bind fun x4 => (xsI h x3 x4 v1).bind fun h5 => (xgR h5 v0 (0, 16) 4).bind fun x6 => (xgI h5 v0 (0, 16) 2).bind fun x7 => (xsI h5 x6 x7 v2).bind fun h8 => (xgR h8 v0 (0, 16) 5).bind fun x9 => (xgI h8 v0 (0, 16) 2).bind fun x10 => (xsI h8 x9 x10 v3).bind fun h11 => (xgR h11 v0 (0, 16) 6).bind fun x12 => (xgI h11 v0 (0, 16) 2).bind fun x13 => (xsI h11 x12 x13 v4).bind fun h14 => (xgR h14 v0 (0, 16) 7).bind fun x15 => (xgI h14 v0 (0, 16) 2).bind fun x16 => (xsI h14 x15 x16 0).bind fun h17 => (xgI h17 v0 (0, 16) 2).bind fun x18 => (xpI h17 v0 (0, 16) 2 (x18 + 1)).bind fun h19 => some h19) else (some h)
abbrev iX0_addIdea : xI := (cX0_addIdea, yX0_addIdea.cls, yX0_addIdea.name, none, 5, 2)
set_option maxHeartbeats 4000000 in
set_option maxRecDepth 100000 in
theorem kX0_addIdea (l : Launch) (η : xEnv) (v0 : Nat) (v1 : Int32) (v2 : Int32) (v3 : Int32) (v4 : Int32) (h : Hp) (x : Hp) (hx : fX0_addIdea v0 v1 v2 v3 v4 h = some x) : xC l η yX0_addIdea cX0_addIdea 5 none 2 [.ref v0, .int v1, .int v2, .int v3, .int v4] h none x := by
  refine xC_of (by decide) (Nat.le_of_ble_eq_true rfl) hx (fun κ x => κ.2.2.2.1 = none ∧ κ.2.2.2.2 = x) ⟨rfl, rfl⟩ (fun κ => ?_)
  show xJ iX0_addIdea κ _ 0 [(0, .ref v0), (1, .int v1), (2, .int v2), (3, .int v3), (4, .int v4)] [] h (fX0_addIdea v0 v1 v2 v3 v4 h)
  unfold fX0_addIdea
  refine j_aload_n 0 dX0_addIdea_0 rfl rfl ?_
  refine j_getI 0 16 2 dX0_addIdea_1 fl_RX0_57 (by decide) rfl (by decide) rfl (fun x1 => ?_)
  refine j_bipush (x := 7) dX0_addIdea_4 (by decide) ?_
  refine j_icmp_lt (tgt := 10) dX0_addIdea_6 (by decide) (fun c2 => ?_) (fun c2 => ?_)
  · refine j_aload_n 0 dX0_addIdea_10 rfl rfl ?_
    refine j_getR 0 16 3 dX0_addIdea_11 fl_RX0_19 (by decide) rfl (by decide) (fun _ _ _ => rfl) (fun x3 => ?_)
    refine j_aload_n 0 dX0_addIdea_14 rfl rfl ?_
    refine j_getI 0 16 2 dX0_addIdea_15 fl_RX0_57 (by decide) rfl (by decide) rfl (fun x4 => ?_)
    refine j_iload_n 1 dX0_addIdea_18 rfl rfl ?_
    refine j_iast dX0_addIdea_19 (fun h5 => ?_)
    refine j_aload_n 0 dX0_addIdea_20 rfl rfl ?_
    refine j_getR 0 16 4 dX0_addIdea_21 fl_RX0_22 (by decide) rfl (by decide) (fun _ _ _ => rfl) (fun x6 => ?_)
    refine j_aload_n 0 dX0_addIdea_24 rfl rfl ?_
    refine j_getI 0 16 2 dX0_addIdea_25 fl_RX0_57 (by decide) rfl (by decide) rfl (fun x7 => ?_)
    refine j_iload_n 2 dX0_addIdea_28 rfl rfl ?_
    refine j_iast dX0_addIdea_29 (fun h8 => ?_)
    refine j_aload_n 0 dX0_addIdea_30 rfl rfl ?_
    refine j_getR 0 16 5 dX0_addIdea_31 fl_RX0_25 (by decide) rfl (by decide) (fun _ _ _ => rfl) (fun x9 => ?_)
    refine j_aload_n 0 dX0_addIdea_34 rfl rfl ?_
    refine j_getI 0 16 2 dX0_addIdea_35 fl_RX0_57 (by decide) rfl (by decide) rfl (fun x10 => ?_)
    refine j_iload_n 3 dX0_addIdea_38 rfl rfl ?_
    refine j_iast dX0_addIdea_39 (fun h11 => ?_)
    refine j_aload_n 0 dX0_addIdea_40 rfl rfl ?_
    refine j_getR 0 16 6 dX0_addIdea_41 fl_RX0_28 (by decide) rfl (by decide) (fun _ _ _ => rfl) (fun x12 => ?_)
    refine j_aload_n 0 dX0_addIdea_44 rfl rfl ?_
    refine j_getI 0 16 2 dX0_addIdea_45 fl_RX0_57 (by decide) rfl (by decide) rfl (fun x13 => ?_)
    refine j_iload 4 dX0_addIdea_48 rfl ?_
    refine j_iast dX0_addIdea_50 (fun h14 => ?_)
    refine j_aload_n 0 dX0_addIdea_51 rfl rfl ?_
    refine j_getR 0 16 7 dX0_addIdea_52 fl_RX0_31 (by decide) rfl (by decide) (fun _ _ _ => rfl) (fun x15 => ?_)
    refine j_aload_n 0 dX0_addIdea_55 rfl rfl ?_
    refine j_getI 0 16 2 dX0_addIdea_56 fl_RX0_57 (by decide) rfl (by decide) rfl (fun x16 => ?_)
    refine j_iconst (x := 0) dX0_addIdea_59 (by decide) ?_
    refine j_iast dX0_addIdea_60 (fun h17 => ?_)
    refine j_aload_n 0 dX0_addIdea_61 rfl rfl ?_
    refine j_dup dX0_addIdea_62 rfl ?_
    refine j_getI 0 16 2 dX0_addIdea_63 fl_RX0_57 (by decide) rfl (by decide) rfl (fun x18 => ?_)
    refine j_iconst (x := 1) dX0_addIdea_66 (by decide) ?_
    refine j_iadd dX0_addIdea_67 ?_
    refine j_putI 0 16 2 dX0_addIdea_68 fl_RX0_57 (by decide) rfl (by decide) rfl rfl (fun h19 => ?_)
    exact j_vret h19 dX0_addIdea_71 rfl (fun q => q)
  · exact j_vret h dX0_addIdea_9 rfl (fun q => q)
def fX8_idea_j47 (v0 : Nat) (h : Hp) : Option (Int32 × Hp) :=
  (xat h v0 (8, 12) (fX8_refuseBad v0 h)).bind fun q1 => some (q1.1, q1.2)
def fX8_idea_j19 (v0 : Nat) (h : Hp) : Option (Int32 × Hp) :=
  (xat h v0 (8, 12) (fX8_refuseBad v0 h)).bind fun q2 => some (q2.1, q2.2)
def fX8_idea (v0 : Nat) (v1 : Int32) (v2 : Int32) (v3 : Int32) (v4 : Int32) (h : Hp) : Option (Int32 × Hp) :=
  (fX8_within v1 0 5 h).bind fun x3 => if (x3 : Int32) = 0 then (fX8_idea_j19 v0 h) else ((fX8_within v2 1 9 h).bind fun x5 => if (x5 : Int32) = 0 then (fX8_idea_j19 v0 h) else ((fX8_within v3 0 8 h).bind fun x7 => if (x7 : Int32) = 0 then (fX8_idea_j47 v0 h) else ((fX8_within v4 (v3 + 1) 9 h).bind fun x9 => if (x9 : Int32) = 0 then (fX8_idea_j47 v0 h) else ((xgR h v0 (8, 12) 0).bind fun x11 => (xgI h x11 (0, 16) 2).bind fun x12 => if (x12 : Int32) < 7 then ((xgR h v0 (8, 12) 0).bind fun x14 => (xat h x14 (0, 16) (fX0_addIdea x14 v1 v2 v3 v4 h)).bind fun h15 => (xgR h15 v0 (8, 12) 0).bind fun x16 => (xpI h15 x16 (0, 16) 15 0).bind fun h17 => (xgR h17 v0 (8, 12) 0).bind fun x18 => (xgI h17 x18 (0, 16) 2).bind fun x19 => some (x19 - 1, h17)) else ((xat h v0 (8, 12) (fX8_refuseFull v0 h)).bind fun q20 => some (q20.1, q20.2))))))
abbrev iX8_idea : xI := (cX8_idea, yX8_idea.cls, yX8_idea.name, some .int, 5, 3)
set_option maxHeartbeats 4000000 in
set_option maxRecDepth 100000 in
theorem kX8_idea (l : Launch) (η : xEnv) (v0 : Nat) (v1 : Int32) (v2 : Int32) (v3 : Int32) (v4 : Int32) (h : Hp) (x : Int32 × Hp) (hx : fX8_idea v0 v1 v2 v3 v4 h = some x) : xC l η yX8_idea cX8_idea 5 (some .int) 3 [.ref v0, .int v1, .int v2, .int v3, .int v4] h (some (.int x.1)) x.2 := by
  refine xC_of (by decide) (Nat.le_of_ble_eq_true rfl) hx (fun κ x => κ.2.2.2.1 = some (.int x.1) ∧ κ.2.2.2.2 = x.2) ⟨rfl, rfl⟩ (fun κ => ?_)
  show xJ iX8_idea κ _ 0 [(0, .ref v0), (1, .int v1), (2, .int v2), (3, .int v3), (4, .int v4)] [] h (fX8_idea v0 v1 v2 v3 v4 h)
  unfold fX8_idea
  refine j_have (pj := 47) (Lf := fun v : Hp => [(0, .ref v0)]) (Sf := fun v : Hp => []) (Hf := fun v : Hp => v) (jf := fun v : Hp => fX8_idea_j47 v0 v) (fun v => ?_) (fun hj47 => ?_)
  · generalize v = h
    show xJ iX8_idea κ _ 47 [(0, .ref v0)] [] h (fX8_idea_j47 v0 h)
    unfold fX8_idea_j47
    refine j_aload_n 0 dX8_idea_47 rfl rfl ?_
    refine j_callV (as := []) (fun x => some (.int x.1)) (fun x => x.2) 8 12 dX8_idea_48 ml_RX8_70 tg_X8_refuseBad im_X8_refuseBad se_X8_refuseBad rfl (by decide) (fun x hx => kX8_refuseBad κ.1 κ.2.1 v0 h x hx) (by decide) (by decide) rfl rfl (Nat.le_of_ble_eq_true rfl) (fun q1 => ?_)
    show xJ iX8_idea κ _ 51 [(0, .ref v0)] [.int q1.1] q1.2 _
    exact j_iret (q1.1, q1.2) dX8_idea_51 rfl (fun q => q)
  refine j_have (pj := 19) (Lf := fun v : Hp => [(0, .ref v0)]) (Sf := fun v : Hp => []) (Hf := fun v : Hp => v) (jf := fun v : Hp => fX8_idea_j19 v0 v) (fun v => ?_) (fun hj19 => ?_)
  · generalize v = h
    show xJ iX8_idea κ _ 19 [(0, .ref v0)] [] h (fX8_idea_j19 v0 h)
    unfold fX8_idea_j19
    refine j_aload_n 0 dX8_idea_19 rfl rfl ?_
    refine j_callV (as := []) (fun x => some (.int x.1)) (fun x => x.2) 8 12 dX8_idea_20 ml_RX8_70 tg_X8_refuseBad im_X8_refuseBad se_X8_refuseBad rfl (by decide) (fun x hx => kX8_refuseBad κ.1 κ.2.1 v0 h x hx) (by decide) (by decide) rfl rfl (Nat.le_of_ble_eq_true rfl) (fun q2 => ?_)
    show xJ iX8_idea κ _ 23 [(0, .ref v0)] [.int q2.1] q2.2 _
    exact j_iret (q2.1, q2.2) dX8_idea_23 rfl (fun q => q)
  refine j_iload_n 1 dX8_idea_0 rfl rfl ?_
  refine j_iconst (x := 0) dX8_idea_1 (by decide) ?_
  refine j_iconst (x := 5) dX8_idea_2 (by decide) ?_
  refine j_callS (as := [.int v1, .int 0, .int 5]) (fun x => some (.int x)) (fun _ => h) dX8_idea_3 ml_RX8_66 tg_X8_within st_X8_within (fun x hx => kX8_within κ.1 κ.2.1 v1 0 5 h x hx) (by decide) (by decide) rfl rfl (Nat.le_of_ble_eq_true rfl) (fun x3 => ?_)
  show xJ iX8_idea κ _ 6 [(0, .ref v0), (1, .int v1), (2, .int v2), (3, .int v3), (4, .int v4)] [.int x3] h _
  refine j_if_eq (tgt := 19) dX8_idea_6 (by decide) (fun c4 => ?_) (fun c4 => ?_)
  · refine j_pick [0] rfl ?_
    exact hj19 h
  · refine j_iload_n 2 dX8_idea_9 rfl rfl ?_
    refine j_iconst (x := 1) dX8_idea_10 (by decide) ?_
    refine j_bipush (x := 9) dX8_idea_11 (by decide) ?_
    refine j_callS (as := [.int v2, .int 1, .int 9]) (fun x => some (.int x)) (fun _ => h) dX8_idea_13 ml_RX8_66 tg_X8_within st_X8_within (fun x hx => kX8_within κ.1 κ.2.1 v2 1 9 h x hx) (by decide) (by decide) rfl rfl (Nat.le_of_ble_eq_true rfl) (fun x5 => ?_)
    show xJ iX8_idea κ _ 16 [(0, .ref v0), (1, .int v1), (2, .int v2), (3, .int v3), (4, .int v4)] [.int x5] h _
    refine j_if_ne (tgt := 24) dX8_idea_16 (by decide) (fun c6 => ?_) (fun c6 => ?_)
    · refine j_pick [0] rfl ?_
      exact hj19 h
    · refine j_iload_n 3 dX8_idea_24 rfl rfl ?_
      refine j_iconst (x := 0) dX8_idea_25 (by decide) ?_
      refine j_bipush (x := 8) dX8_idea_26 (by decide) ?_
      refine j_callS (as := [.int v3, .int 0, .int 8]) (fun x => some (.int x)) (fun _ => h) dX8_idea_28 ml_RX8_66 tg_X8_within st_X8_within (fun x hx => kX8_within κ.1 κ.2.1 v3 0 8 h x hx) (by decide) (by decide) rfl rfl (Nat.le_of_ble_eq_true rfl) (fun x7 => ?_)
      show xJ iX8_idea κ _ 31 [(0, .ref v0), (1, .int v1), (2, .int v2), (3, .int v3), (4, .int v4)] [.int x7] h _
      refine j_if_eq (tgt := 47) dX8_idea_31 (by decide) (fun c8 => ?_) (fun c8 => ?_)
      · refine j_pick [0] rfl ?_
        exact hj47 h
      · refine j_iload 4 dX8_idea_34 rfl ?_
        refine j_iload_n 3 dX8_idea_36 rfl rfl ?_
        refine j_iconst (x := 1) dX8_idea_37 (by decide) ?_
        refine j_iadd dX8_idea_38 ?_
        refine j_bipush (x := 9) dX8_idea_39 (by decide) ?_
        refine j_callS (as := [.int v4, .int (v3 + 1), .int 9]) (fun x => some (.int x)) (fun _ => h) dX8_idea_41 ml_RX8_66 tg_X8_within st_X8_within (fun x hx => kX8_within κ.1 κ.2.1 v4 (v3 + 1) 9 h x hx) (by decide) (by decide) rfl rfl (Nat.le_of_ble_eq_true rfl) (fun x9 => ?_)
        show xJ iX8_idea κ _ 44 [(0, .ref v0), (1, .int v1), (2, .int v2), (3, .int v3), (4, .int v4)] [.int x9] h _
        refine j_if_ne (tgt := 52) dX8_idea_44 (by decide) (fun c10 => ?_) (fun c10 => ?_)
        · refine j_pick [0] rfl ?_
          exact hj47 h
        · refine j_aload_n 0 dX8_idea_52 rfl rfl ?_
          refine j_getR 8 12 0 dX8_idea_53 fl_RX8_12 (by decide) rfl (by decide) (fun _ _ _ => rfl) (fun x11 => ?_)
          refine j_getI 0 16 2 dX8_idea_56 fl_RX8_74 (by decide) rfl (by decide) rfl (fun x12 => ?_)
          refine j_bipush (x := 7) dX8_idea_59 (by decide) ?_
          refine j_icmp_lt (tgt := 69) dX8_idea_61 (by decide) (fun c13 => ?_) (fun c13 => ?_)
          · refine j_aload_n 0 dX8_idea_69 rfl rfl ?_
            refine j_getR 8 12 0 dX8_idea_70 fl_RX8_12 (by decide) rfl (by decide) (fun _ _ _ => rfl) (fun x14 => ?_)
            refine j_iload_n 1 dX8_idea_73 rfl rfl ?_
            refine j_iload_n 2 dX8_idea_74 rfl rfl ?_
            refine j_iload_n 3 dX8_idea_75 rfl rfl ?_
            refine j_iload 4 dX8_idea_76 rfl ?_
            refine j_callV (as := [.int v1, .int v2, .int v3, .int v4]) (fun _ => none) (fun x => x) 0 16 dX8_idea_78 ml_RX8_94 tg_X0_addIdea im_X0_addIdea se_X0_addIdea rfl (by decide) (fun x hx => kX0_addIdea κ.1 κ.2.1 x14 v1 v2 v3 v4 h x hx) (by decide) (by decide) rfl rfl (Nat.le_of_ble_eq_true rfl) (fun h15 => ?_)
            show xJ iX8_idea κ _ 81 [(0, .ref v0), (1, .int v1), (2, .int v2), (3, .int v3), (4, .int v4)] [] h15 _
            refine j_aload_n 0 dX8_idea_81 rfl rfl ?_
            refine j_getR 8 12 0 dX8_idea_82 fl_RX8_12 (by decide) rfl (by decide) (fun _ _ _ => rfl) (fun x16 => ?_)
            refine j_iconst (x := 0) dX8_idea_85 (by decide) ?_
            refine j_putI 0 16 15 dX8_idea_86 fl_RX8_84 (by decide) rfl (by decide) rfl rfl (fun h17 => ?_)
            refine j_aload_n 0 dX8_idea_89 rfl rfl ?_
            refine j_getR 8 12 0 dX8_idea_90 fl_RX8_12 (by decide) rfl (by decide) (fun _ _ _ => rfl) (fun x18 => ?_)
            refine j_getI 0 16 2 dX8_idea_93 fl_RX8_74 (by decide) rfl (by decide) rfl (fun x19 => ?_)
            refine j_iconst (x := 1) dX8_idea_96 (by decide) ?_
            refine j_isub dX8_idea_97 ?_
            exact j_iret (x19 - 1, h17) dX8_idea_98 rfl (fun q => q)
          · refine j_aload_n 0 dX8_idea_64 rfl rfl ?_
            refine j_callV (as := []) (fun x => some (.int x.1)) (fun x => x.2) 8 12 dX8_idea_65 ml_RX8_91 tg_X8_refuseFull im_X8_refuseFull se_X8_refuseFull rfl (by decide) (fun x hx => kX8_refuseFull κ.1 κ.2.1 v0 h x hx) (by decide) (by decide) rfl rfl (Nat.le_of_ble_eq_true rfl) (fun q20 => ?_)
            show xJ iX8_idea κ _ 68 [(0, .ref v0), (1, .int v1), (2, .int v2), (3, .int v3), (4, .int v4)] [.int q20.1] q20.2 _
            exact j_iret (q20.1, q20.2) dX8_idea_68 rfl (fun q => q)
