def fX2_commonDivisor_j44 (v4 : Int64) (h : Hp) : Option (Int64) :=
  some v4
def fX2_commonDivisor_b9  (h : Hp) (s9 : Int64 × Int64 × Int32) : Option ((Int64 × Int64 × Int32) ⊕ ((Int64))) :=
  if (100 : Int32) ≤ s9.2.2 then (some (Sum.inr s9.1)) else (if (lg_cmp s9.2.1 0 : Int32) = 0 then (some (Sum.inr s9.1)) else (if (s9.2.1 : Int64) = 0 then none else some (Sum.inl (s9.2.1, s9.1 - s9.1 / s9.2.1 * s9.2.1, s9.2.2 + 1))))
def fX2_commonDivisor (v0 : Int64) (v2 : Int64) (h : Hp) : Option (Int64) :=
  (xloop (fX2_commonDivisor_b9 h) 1000000 (v0, v2, 0)).bind (fun r9 => fX2_commonDivisor_j44 r9 h)
abbrev iX2_commonDivisor : xI := (cX2_commonDivisor, yX2_commonDivisor.cls, yX2_commonDivisor.name, some .long, 11, 2)
set_option maxHeartbeats 4000000 in
set_option maxRecDepth 100000 in
theorem kX2_commonDivisor (l : Launch) (η : xEnv) (v0 : Int64) (v2 : Int64) (h : Hp) (x : Int64) (hx : fX2_commonDivisor v0 v2 h = some x) : xC l η yX2_commonDivisor cX2_commonDivisor 11 (some .long) 2 [.long v0, .long v2] h (some (.long x)) h := by
  refine xC_of (by decide) (Nat.le_of_ble_eq_true rfl) hx (fun κ x => κ.2.2.2.1 = some (.long x) ∧ κ.2.2.2.2 = h) ⟨rfl, rfl⟩ (fun κ => ?_)
  show xJ iX2_commonDivisor κ _ 0 [(0, .long v0), (2, .long v2)] [] h (fX2_commonDivisor v0 v2 h)
  unfold fX2_commonDivisor
  refine j_have (pj := 44) (Lf := fun v : Int64 => [(4, .long v)]) (Sf := fun v : Int64 => []) (Hf := fun v : Int64 => h) (jf := fun v : Int64 => fX2_commonDivisor_j44 v h) (fun v => ?_) (fun hj44 => ?_)
  · generalize v = v4
    show xJ iX2_commonDivisor κ _ 44 [(4, .long v4)] [] h (fX2_commonDivisor_j44 v4 h)
    unfold fX2_commonDivisor_j44
    refine j_lload 0 dX2_commonDivisor_44 rfl ?_
    exact j_lret v4 dX2_commonDivisor_46 rfl (fun q => q)
  refine j_lload_n 0 dX2_commonDivisor_0 rfl rfl ?_
  refine j_lstore (L' := [(4, .long v0), (0, .long v0), (2, .long v2)]) dX2_commonDivisor_1 (Nat.le_of_ble_eq_true rfl) rfl ?_
  refine j_lload_n 2 dX2_commonDivisor_3 rfl rfl ?_
  refine j_lstore (L' := [(6, .long v2), (4, .long v0), (0, .long v0), (2, .long v2)]) dX2_commonDivisor_4 (Nat.le_of_ble_eq_true rfl) rfl ?_
  refine j_iconst (x := 0) dX2_commonDivisor_6 (by decide) ?_
  refine j_istore (L' := [(8, .int 0), (6, .long v2), (4, .long v0), (0, .long v0), (2, .long v2)]) dX2_commonDivisor_7 (Nat.le_of_ble_eq_true rfl) rfl ?_
  refine j_pick [2, 1, 0] rfl ?_
  refine j_loop (pc := 9) (Lf := fun s9 : Int64 × Int64 × Int32 => [(4, .long s9.1), (6, .long s9.2.1), (8, .int s9.2.2)]) (Hf := fun s9 : Int64 × Int64 × Int32 => h) (fun s9 => ?_) 1000000 (v0, v2, 0)
  show xJ iX2_commonDivisor κ _ 9 [(4, .long s9.1), (6, .long s9.2.1), (8, .int s9.2.2)] [] h (fX2_commonDivisor_b9 h s9)
  unfold fX2_commonDivisor_b9
  refine j_iload 2 dX2_commonDivisor_9 rfl ?_
  refine j_bipush (x := 100) dX2_commonDivisor_11 (by decide) ?_
  refine j_icmp_ge (tgt := 44) dX2_commonDivisor_13 (by decide) (fun c1 => ?_) (fun c1 => ?_)
  · refine j_exit s9.1 ?_
    show xJ iX2_commonDivisor κ _ _ _ _ _ (fX2_commonDivisor_j44 s9.1 h)
    refine j_pick [0] rfl ?_
    exact hj44 s9.1
  · refine j_lload 1 dX2_commonDivisor_16 rfl ?_
    refine j_lconst (x := 0) dX2_commonDivisor_18 (by decide) ?_
    refine j_lcmp dX2_commonDivisor_19 ?_
    refine j_if_eq (tgt := 44) dX2_commonDivisor_20 (by decide) (fun c2 => ?_) (fun c2 => ?_)
    · refine j_exit s9.1 ?_
      show xJ iX2_commonDivisor κ _ _ _ _ _ (fX2_commonDivisor_j44 s9.1 h)
      refine j_pick [0] rfl ?_
      exact hj44 s9.1
    · refine j_lload 0 dX2_commonDivisor_23 rfl ?_
      refine j_lload 1 dX2_commonDivisor_25 rfl ?_
      refine j_lrem dX2_commonDivisor_27 (fun c3 => ?_)
      refine j_lstore (L' := [(9, .long (s9.1 - s9.1 / s9.2.1 * s9.2.1)), (4, .long s9.1), (6, .long s9.2.1), (8, .int s9.2.2)]) dX2_commonDivisor_28 (Nat.le_of_ble_eq_true rfl) rfl ?_
      refine j_lload 2 dX2_commonDivisor_30 rfl ?_
      refine j_lstore (L' := [(4, .long s9.2.1), (9, .long (s9.1 - s9.1 / s9.2.1 * s9.2.1)), (6, .long s9.2.1), (8, .int s9.2.2)]) dX2_commonDivisor_32 (Nat.le_of_ble_eq_true rfl) rfl ?_
      refine j_lload 1 dX2_commonDivisor_34 rfl ?_
      refine j_lstore (L' := [(6, .long (s9.1 - s9.1 / s9.2.1 * s9.2.1)), (4, .long s9.2.1), (9, .long (s9.1 - s9.1 / s9.2.1 * s9.2.1)), (8, .int s9.2.2)]) dX2_commonDivisor_36 (Nat.le_of_ble_eq_true rfl) rfl ?_
      refine j_iinc (y := s9.2.2 + 1) (L' := [(8, .int (s9.2.2 + 1)), (6, .long (s9.1 - s9.1 / s9.2.1 * s9.2.1)), (4, .long s9.2.1), (9, .long (s9.1 - s9.1 / s9.2.1 * s9.2.1))]) 3 dX2_commonDivisor_38 rfl rfl (Nat.le_of_ble_eq_true rfl) rfl ?_
      refine j_goto (tgt := 9) dX2_commonDivisor_41 (by decide) ?_
      refine j_pick [2, 1, 0] rfl ?_
      exact j_again (s9.2.1, s9.1 - s9.1 / s9.2.1 * s9.2.1, s9.2.2 + 1) rfl rfl
def fX2_become (v0 : Nat) (v1 : Int64) (v3 : Int64) (h : Hp) : Option (Hp) :=
  (fX2_commonDivisor v1 v3 h).bind fun x1 => if (lg_cmp x1 0 : Int32) = 0 then (some h) else (if (x1 : Int64) = 0 then none else (xpL h v0 (2, 2) 0 (v1 / x1)).bind fun h4 => if (x1 : Int64) = 0 then none else (xpL h4 v0 (2, 2) 1 (v3 / x1)).bind fun h6 => some h6)
abbrev iX2_become : xI := (cX2_become, yX2_become.cls, yX2_become.name, none, 7, 3)
set_option maxHeartbeats 4000000 in
set_option maxRecDepth 100000 in
theorem kX2_become (l : Launch) (η : xEnv) (v0 : Nat) (v1 : Int64) (v3 : Int64) (h : Hp) (x : Hp) (hx : fX2_become v0 v1 v3 h = some x) : xC l η yX2_become cX2_become 7 none 3 [.ref v0, .long v1, .long v3] h none x := by
  refine xC_of (by decide) (Nat.le_of_ble_eq_true rfl) hx (fun κ x => κ.2.2.2.1 = none ∧ κ.2.2.2.2 = x) ⟨rfl, rfl⟩ (fun κ => ?_)
  show xJ iX2_become κ _ 0 [(0, .ref v0), (1, .long v1), (3, .long v3)] [] h (fX2_become v0 v1 v3 h)
  unfold fX2_become
  refine j_lload_n 1 dX2_become_0 rfl rfl ?_
  refine j_lload_n 2 dX2_become_1 rfl rfl ?_
  refine j_callS (as := [.long v1, .long v3]) (fun x => some (.long x)) (fun _ => h) dX2_become_2 ml_RX2_16 tg_X2_commonDivisor st_X2_commonDivisor (fun x hx => kX2_commonDivisor κ.1 κ.2.1 v1 v3 h x hx) (by decide) (by decide) rfl rfl (Nat.le_of_ble_eq_true rfl) (fun x1 => ?_)
  show xJ iX2_become κ _ 5 [(0, .ref v0), (1, .long v1), (3, .long v3)] [.long x1] h _
  refine j_lstore (L' := [(5, .long x1), (0, .ref v0), (1, .long v1), (3, .long v3)]) dX2_become_5 (Nat.le_of_ble_eq_true rfl) rfl ?_
  refine j_lload 0 dX2_become_7 rfl ?_
  refine j_lconst (x := 0) dX2_become_9 (by decide) ?_
  refine j_lcmp dX2_become_10 ?_
  refine j_if_ne (tgt := 15) dX2_become_11 (by decide) (fun c2 => ?_) (fun c2 => ?_)
  · exact j_vret h dX2_become_14 rfl (fun q => q)
  · refine j_aload_n 1 dX2_become_15 rfl rfl ?_
    refine j_lload_n 2 dX2_become_16 rfl rfl ?_
    refine j_lload 0 dX2_become_17 rfl ?_
    refine j_ldiv dX2_become_19 (fun c3 => ?_)
    refine j_putL 2 2 0 dX2_become_20 fl_RX2_7 (by decide) rfl (by decide) rfl rfl (fun h4 => ?_)
    refine j_aload_n 1 dX2_become_23 rfl rfl ?_
    refine j_lload_n 3 dX2_become_24 rfl rfl ?_
    refine j_lload 0 dX2_become_25 rfl ?_
    refine j_ldiv dX2_become_27 (fun c5 => ?_)
    refine j_putL 2 2 1 dX2_become_28 fl_RX2_13 (by decide) rfl (by decide) rfl rfl (fun h6 => ?_)
    exact j_vret h6 dX2_become_31 rfl (fun q => q)
def fX8_fare (v0 : Nat) (v1 : Int32) (h : Hp) : Option (Int32 × Hp) :=
  (fX8_within v1 1 60 h).bind fun x1 => if (x1 : Int32) = 0 then ((xat h v0 (8, 12) (fX8_refuseBad v0 h)).bind fun q3 => some (q3.1, q3.2)) else ((xgR h v0 (8, 12) 3).bind fun x4 => (xgR h v0 (8, 12) 0).bind fun x5 => (xat h x4 (3, 3) (fX3_goOn x4 x5 h)).bind fun h6 => (xgR h6 v0 (8, 12) 3).bind fun x7 => (xgR h6 v0 (8, 12) 0).bind fun x8 => (xat h6 x7 (3, 3) (fX3_passThrough x7 x8 9 h6)).bind fun h9 => (xgR h9 v0 (8, 12) 7).bind fun x10 => (xgR h9 v0 (8, 12) 3).bind fun x11 => (xgR h9 x11 (3, 3) 0).bind fun x12 => (xgI h9 x12 (5, 5) 4).bind fun x13 => (xat h9 x10 (2, 2) (fX2_become x10 ((x13 : Int32).toInt64) ((v1 : Int32).toInt64) h9)).bind fun h14 => some (1, h14))
abbrev iX8_fare : xI := (cX8_fare, yX8_fare.cls, yX8_fare.name, some .int, 2, 6)
set_option maxHeartbeats 4000000 in
set_option maxRecDepth 100000 in
theorem kX8_fare (l : Launch) (η : xEnv) (v0 : Nat) (v1 : Int32) (h : Hp) (x : Int32 × Hp) (hx : fX8_fare v0 v1 h = some x) : xC l η yX8_fare cX8_fare 2 (some .int) 6 [.ref v0, .int v1] h (some (.int x.1)) x.2 := by
  refine xC_of (by decide) (Nat.le_of_ble_eq_true rfl) hx (fun κ x => κ.2.2.2.1 = some (.int x.1) ∧ κ.2.2.2.2 = x.2) ⟨rfl, rfl⟩ (fun κ => ?_)
  show xJ iX8_fare κ _ 0 [(0, .ref v0), (1, .int v1)] [] h (fX8_fare v0 v1 h)
  unfold fX8_fare
  refine j_iload_n 1 dX8_fare_0 rfl rfl ?_
  refine j_iconst (x := 1) dX8_fare_1 (by decide) ?_
  refine j_bipush (x := 60) dX8_fare_2 (by decide) ?_
  refine j_callS (as := [.int v1, .int 1, .int 60]) (fun x => some (.int x)) (fun _ => h) dX8_fare_4 ml_RX8_66 tg_X8_within st_X8_within (fun x hx => kX8_within κ.1 κ.2.1 v1 1 60 h x hx) (by decide) (by decide) rfl rfl (Nat.le_of_ble_eq_true rfl) (fun x1 => ?_)
  show xJ iX8_fare κ _ 7 [(0, .ref v0), (1, .int v1)] [.int x1] h _
  refine j_if_ne (tgt := 15) dX8_fare_7 (by decide) (fun c2 => ?_) (fun c2 => ?_)
  · refine j_aload_n 0 dX8_fare_10 rfl rfl ?_
    refine j_callV (as := []) (fun x => some (.int x.1)) (fun x => x.2) 8 12 dX8_fare_11 ml_RX8_70 tg_X8_refuseBad im_X8_refuseBad se_X8_refuseBad rfl (by decide) (fun x hx => kX8_refuseBad κ.1 κ.2.1 v0 h x hx) (by decide) (by decide) rfl rfl (Nat.le_of_ble_eq_true rfl) (fun q3 => ?_)
    show xJ iX8_fare κ _ 14 [(0, .ref v0), (1, .int v1)] [.int q3.1] q3.2 _
    exact j_iret (q3.1, q3.2) dX8_fare_14 rfl (fun q => q)
  · refine j_aload_n 0 dX8_fare_15 rfl rfl ?_
    refine j_getR 8 12 3 dX8_fare_16 fl_RX8_27 (by decide) rfl (by decide) (fun _ _ _ => rfl) (fun x4 => ?_)
    refine j_aload_n 0 dX8_fare_19 rfl rfl ?_
    refine j_getR 8 12 0 dX8_fare_20 fl_RX8_12 (by decide) rfl (by decide) (fun _ _ _ => rfl) (fun x5 => ?_)
    refine j_callV (as := [.ref x5]) (fun _ => none) (fun x => x) 3 3 dX8_fare_23 ml_RX8_200 tg_X3_goOn im_X3_goOn se_X3_goOn rfl (by decide) (fun x hx => kX3_goOn κ.1 κ.2.1 x4 x5 h x hx) (by decide) (by decide) rfl rfl (Nat.le_of_ble_eq_true rfl) (fun h6 => ?_)
    show xJ iX8_fare κ _ 26 [(0, .ref v0), (1, .int v1)] [] h6 _
    refine j_aload_n 0 dX8_fare_26 rfl rfl ?_
    refine j_getR 8 12 3 dX8_fare_27 fl_RX8_27 (by decide) rfl (by decide) (fun _ _ _ => rfl) (fun x7 => ?_)
    refine j_aload_n 0 dX8_fare_30 rfl rfl ?_
    refine j_getR 8 12 0 dX8_fare_31 fl_RX8_12 (by decide) rfl (by decide) (fun _ _ _ => rfl) (fun x8 => ?_)
    refine j_bipush (x := 9) dX8_fare_34 (by decide) ?_
    refine j_callV (as := [.ref x8, .int 9]) (fun _ => none) (fun x => x) 3 3 dX8_fare_36 ml_RX8_203 tg_X3_passThrough im_X3_passThrough se_X3_passThrough rfl (by decide) (fun x hx => kX3_passThrough κ.1 κ.2.1 x7 x8 9 h6 x hx) (by decide) (by decide) rfl rfl (Nat.le_of_ble_eq_true rfl) (fun h9 => ?_)
    show xJ iX8_fare κ _ 39 [(0, .ref v0), (1, .int v1)] [] h9 _
    refine j_aload_n 0 dX8_fare_39 rfl rfl ?_
    refine j_getR 8 12 7 dX8_fare_40 fl_RX8_55 (by decide) rfl (by decide) (fun _ _ _ => rfl) (fun x10 => ?_)
    refine j_aload_n 0 dX8_fare_43 rfl rfl ?_
    refine j_getR 8 12 3 dX8_fare_44 fl_RX8_27 (by decide) rfl (by decide) (fun _ _ _ => rfl) (fun x11 => ?_)
    refine j_getR 3 3 0 dX8_fare_47 fl_RX8_207 (by decide) rfl (by decide) (fun _ _ _ => rfl) (fun x12 => ?_)
    refine j_getI 5 5 4 dX8_fare_50 fl_RX8_149 (by decide) rfl (by decide) rfl (fun x13 => ?_)
    refine j_i2l dX8_fare_53 ?_
    refine j_iload_n 1 dX8_fare_54 rfl rfl ?_
    refine j_i2l dX8_fare_55 ?_
    refine j_callV (as := [.long ((x13 : Int32).toInt64), .long ((v1 : Int32).toInt64)]) (fun _ => none) (fun x => x) 2 2 dX8_fare_56 ml_RX8_252 tg_X2_become im_X2_become se_X2_become rfl (by decide) (fun x hx => kX2_become κ.1 κ.2.1 x10 ((x13 : Int32).toInt64) ((v1 : Int32).toInt64) h9 x hx) (by decide) (by decide) rfl rfl (Nat.le_of_ble_eq_true rfl) (fun h14 => ?_)
    show xJ iX8_fare κ _ 59 [(0, .ref v0), (1, .int v1)] [] h14 _
    refine j_iconst (x := 1) dX8_fare_59 (by decide) ?_
    exact j_iret (1, h14) dX8_fare_60 rfl (fun q => q)
def fX9_fraction_b6 (v0 : Nat) (v1 : Int64) (v3 : Int64) (h : Hp) (s6 : Int64 × Int64) : Option ((Int64 × Int64) ⊕ ((Nat × Int64 × Int64 × Int64))) :=
  if (lg_cmp s6.2 0 : Int32) = 0 then (some (Sum.inr (v0, v1, v3, s6.1))) else (if (s6.2 : Int64) = 0 then none else some (Sum.inl (s6.2, s6.1 - s6.1 / s6.2 * s6.2)))
def fX9_fraction (v0 : Nat) (v1 : Int64) (v3 : Int64) (h : Hp) : Option (Hp) :=
  (xloop (fX9_fraction_b6 v0 v1 v3 h) 1000000 (v1, v3)).bind (fun r6 => if (r6.2.2.2 : Int64) = 0 then none else (xpL h r6.1 (9, 18) 4 (r6.2.1 / r6.2.2.2)).bind fun h8 => if (r6.2.2.2 : Int64) = 0 then none else (xpL h8 r6.1 (9, 18) 5 (r6.2.2.1 / r6.2.2.2)).bind fun h10 => some h10)
abbrev iX9_fraction : xI := (cX9_fraction, yX9_fraction.cls, yX9_fraction.name, none, 11, 2)
set_option maxHeartbeats 4000000 in
set_option maxRecDepth 100000 in
theorem kX9_fraction (l : Launch) (η : xEnv) (v0 : Nat) (v1 : Int64) (v3 : Int64) (h : Hp) (x : Hp) (hx : fX9_fraction v0 v1 v3 h = some x) : xC l η yX9_fraction cX9_fraction 11 none 2 [.ref v0, .long v1, .long v3] h none x := by
  refine xC_of (by decide) (Nat.le_of_ble_eq_true rfl) hx (fun κ x => κ.2.2.2.1 = none ∧ κ.2.2.2.2 = x) ⟨rfl, rfl⟩ (fun κ => ?_)
  show xJ iX9_fraction κ _ 0 [(0, .ref v0), (1, .long v1), (3, .long v3)] [] h (fX9_fraction v0 v1 v3 h)
  unfold fX9_fraction
  refine j_lload_n 1 dX9_fraction_0 rfl rfl ?_
  refine j_lstore (L' := [(5, .long v1), (0, .ref v0), (1, .long v1), (3, .long v3)]) dX9_fraction_1 (Nat.le_of_ble_eq_true rfl) rfl ?_
  refine j_lload_n 3 dX9_fraction_3 rfl rfl ?_
  refine j_lstore (L' := [(7, .long v3), (5, .long v1), (0, .ref v0), (1, .long v1), (3, .long v3)]) dX9_fraction_4 (Nat.le_of_ble_eq_true rfl) rfl ?_
  refine j_pick [2, 3, 4, 1, 0] rfl ?_
  refine j_loop (pc := 6) (Lf := fun s6 : Int64 × Int64 => [(0, .ref v0), (1, .long v1), (3, .long v3), (5, .long s6.1), (7, .long s6.2)]) (Hf := fun s6 : Int64 × Int64 => h) (fun s6 => ?_) 1000000 (v1, v3)
  show xJ iX9_fraction κ _ 6 [(0, .ref v0), (1, .long v1), (3, .long v3), (5, .long s6.1), (7, .long s6.2)] [] h (fX9_fraction_b6 v0 v1 v3 h s6)
  unfold fX9_fraction_b6
  refine j_lload 4 dX9_fraction_6 rfl ?_
  refine j_lconst (x := 0) dX9_fraction_8 (by decide) ?_
  refine j_lcmp dX9_fraction_9 ?_
  refine j_if_eq (tgt := 31) dX9_fraction_10 (by decide) (fun c1 => ?_) (fun c1 => ?_)
  · refine j_exit (v0, v1, v3, s6.1) ?_
    show xJ iX9_fraction κ _ _ _ _ _ (if (s6.1 : Int64) = 0 then none else (xpL h v0 (9, 18) 4 (v1 / s6.1)).bind fun h3 => if (s6.1 : Int64) = 0 then none else (xpL h3 v0 (9, 18) 5 (v3 / s6.1)).bind fun h5 => some h5)
    refine j_aload_n 0 dX9_fraction_31 rfl rfl ?_
    refine j_lload_n 1 dX9_fraction_32 rfl rfl ?_
    refine j_lload 3 dX9_fraction_33 rfl ?_
    refine j_ldiv dX9_fraction_35 (fun c2 => ?_)
    refine j_putL 9 18 4 dX9_fraction_36 fl_RX9_159 (by decide) rfl (by decide) rfl rfl (fun h3 => ?_)
    refine j_aload_n 0 dX9_fraction_39 rfl rfl ?_
    refine j_lload_n 2 dX9_fraction_40 rfl rfl ?_
    refine j_lload 3 dX9_fraction_41 rfl ?_
    refine j_ldiv dX9_fraction_43 (fun c4 => ?_)
    refine j_putL 9 18 5 dX9_fraction_44 fl_RX9_23 (by decide) rfl (by decide) rfl rfl (fun h5 => ?_)
    exact j_vret h5 dX9_fraction_47 rfl (fun q => q)
  · refine j_lload 3 dX9_fraction_13 rfl ?_
    refine j_lload 4 dX9_fraction_15 rfl ?_
    refine j_lrem dX9_fraction_17 (fun c6 => ?_)
    refine j_lstore (L' := [(9, .long (s6.1 - s6.1 / s6.2 * s6.2)), (0, .ref v0), (1, .long v1), (3, .long v3), (5, .long s6.1), (7, .long s6.2)]) dX9_fraction_18 (Nat.le_of_ble_eq_true rfl) rfl ?_
    refine j_lload 5 dX9_fraction_20 rfl ?_
    refine j_lstore (L' := [(5, .long s6.2), (9, .long (s6.1 - s6.1 / s6.2 * s6.2)), (0, .ref v0), (1, .long v1), (3, .long v3), (7, .long s6.2)]) dX9_fraction_22 (Nat.le_of_ble_eq_true rfl) rfl ?_
    refine j_lload 1 dX9_fraction_24 rfl ?_
    refine j_lstore (L' := [(7, .long (s6.1 - s6.1 / s6.2 * s6.2)), (5, .long s6.2), (9, .long (s6.1 - s6.1 / s6.2 * s6.2)), (0, .ref v0), (1, .long v1), (3, .long v3)]) dX9_fraction_26 (Nat.le_of_ble_eq_true rfl) rfl ?_
    refine j_goto (tgt := 6) dX9_fraction_28 (by decide) ?_
    refine j_pick [3, 4, 5, 1, 0] rfl ?_
    exact j_again (s6.2, s6.1 - s6.1 / s6.2 * s6.2) rfl rfl
def fX9_fare (v0 : Nat) (v1 : Int32) (h : Hp) : Option (Int32 × Hp) :=
  (fX9_in ((v1 : Int32).toInt64) 1 60 h).bind fun x1 => if (x1 : Int32) = 0 then ((xat h v0 (9, 18) (fX9_bad v0 (-2) h)).bind fun q3 => some (q3.1, q3.2)) else ((xat h v0 (9, 18) (fX9_layHand v0 h)).bind fun h4 => (xat h4 v0 (9, 18) (fX9_goTill v0 10 h4)).bind fun h5 => (xgR h5 v0 (9, 18) 6).bind fun x6 => (xaI h5 x6 10 7).bind fun x7 => (xat h5 v0 (9, 18) (fX9_fraction v0 ((x7 : Int32).toInt64) ((v1 : Int32).toInt64) h5)).bind fun h8 => some (1, h8))
abbrev iX9_fare : xI := (cX9_fare, yX9_fare.cls, yX9_fare.name, some .int, 2, 7)
set_option maxHeartbeats 4000000 in
set_option maxRecDepth 100000 in
theorem kX9_fare (l : Launch) (η : xEnv) (v0 : Nat) (v1 : Int32) (h : Hp) (x : Int32 × Hp) (hx : fX9_fare v0 v1 h = some x) : xC l η yX9_fare cX9_fare 2 (some .int) 7 [.ref v0, .int v1] h (some (.int x.1)) x.2 := by
  refine xC_of (by decide) (Nat.le_of_ble_eq_true rfl) hx (fun κ x => κ.2.2.2.1 = some (.int x.1) ∧ κ.2.2.2.2 = x.2) ⟨rfl, rfl⟩ (fun κ => ?_)
  show xJ iX9_fare κ _ 0 [(0, .ref v0), (1, .int v1)] [] h (fX9_fare v0 v1 h)
  unfold fX9_fare
  refine j_iload_n 1 dX9_fare_0 rfl rfl ?_
  refine j_i2l dX9_fare_1 ?_
  refine j_lconst (x := 1) dX9_fare_2 (by decide) ?_
  refine j_ldc2 dX9_fare_3 cL_RX9_162 ?_
  refine j_callS (as := [.long ((v1 : Int32).toInt64), .long 1, .long 60]) (fun x => some (.int x)) (fun _ => h) dX9_fare_6 ml_RX9_56 tg_X9_in st_X9_in (fun x hx => kX9_in κ.1 κ.2.1 ((v1 : Int32).toInt64) 1 60 h x hx) (by decide) (by decide) rfl rfl (Nat.le_of_ble_eq_true rfl) (fun x1 => ?_)
  show xJ iX9_fare κ _ 9 [(0, .ref v0), (1, .int v1)] [.int x1] h _
  refine j_if_ne (tgt := 19) dX9_fare_9 (by decide) (fun c2 => ?_) (fun c2 => ?_)
  · refine j_aload_n 0 dX9_fare_12 rfl rfl ?_
    refine j_bipush (x := (-2)) dX9_fare_13 (by decide) ?_
    refine j_callV (as := [.int (-2)]) (fun x => some (.int x.1)) (fun x => x.2) 9 18 dX9_fare_15 ml_RX9_64 tg_X9_bad im_X9_bad se_X9_bad rfl (by decide) (fun x hx => kX9_bad κ.1 κ.2.1 v0 (-2) h x hx) (by decide) (by decide) rfl rfl (Nat.le_of_ble_eq_true rfl) (fun q3 => ?_)
    show xJ iX9_fare κ _ 18 [(0, .ref v0), (1, .int v1)] [.int q3.1] q3.2 _
    exact j_iret (q3.1, q3.2) dX9_fare_18 rfl (fun q => q)
  · refine j_aload_n 0 dX9_fare_19 rfl rfl ?_
    refine j_callV (as := []) (fun _ => none) (fun x => x) 9 18 dX9_fare_20 ml_RX9_90 tg_X9_layHand im_X9_layHand se_X9_layHand rfl (by decide) (fun x hx => kX9_layHand κ.1 κ.2.1 v0 h x hx) (by decide) (by decide) rfl rfl (Nat.le_of_ble_eq_true rfl) (fun h4 => ?_)
    show xJ iX9_fare κ _ 23 [(0, .ref v0), (1, .int v1)] [] h4 _
    refine j_aload_n 0 dX9_fare_23 rfl rfl ?_
    refine j_bipush (x := 10) dX9_fare_24 (by decide) ?_
    refine j_callV (as := [.int 10]) (fun _ => none) (fun x => x) 9 18 dX9_fare_26 ml_RX9_125 tg_X9_goTill im_X9_goTill se_X9_goTill rfl (by decide) (fun x hx => kX9_goTill κ.1 κ.2.1 v0 10 h4 x hx) (by decide) (by decide) rfl rfl (Nat.le_of_ble_eq_true rfl) (fun h5 => ?_)
    show xJ iX9_fare κ _ 29 [(0, .ref v0), (1, .int v1)] [] h5 _
    refine j_aload_n 0 dX9_fare_29 rfl rfl ?_
    refine j_aload_n 0 dX9_fare_30 rfl rfl ?_
    refine j_getR 9 18 6 dX9_fare_31 fl_RX9_27 (by decide) rfl (by decide) (fun _ _ _ => rfl) (fun x6 => ?_)
    refine j_bipush (x := 7) dX9_fare_34 (by decide) ?_
    refine j_iald dX9_fare_36 (fun x7 => ?_)
    refine j_i2l dX9_fare_37 ?_
    refine j_iload_n 1 dX9_fare_38 rfl rfl ?_
    refine j_i2l dX9_fare_39 ?_
    refine j_callV (as := [.long ((x7 : Int32).toInt64), .long ((v1 : Int32).toInt64)]) (fun _ => none) (fun x => x) 9 18 dX9_fare_40 ml_RX9_164 tg_X9_fraction im_X9_fraction se_X9_fraction rfl (by decide) (fun x hx => kX9_fraction κ.1 κ.2.1 v0 ((x7 : Int32).toInt64) ((v1 : Int32).toInt64) h5 x hx) (by decide) (by decide) rfl rfl (Nat.le_of_ble_eq_true rfl) (fun h8 => ?_)
    show xJ iX9_fare κ _ 43 [(0, .ref v0), (1, .int v1)] [] h8 _
    refine j_iconst (x := 1) dX9_fare_43 (by decide) ?_
    exact j_iret (1, h8) dX9_fare_44 rfl (fun q => q)
def fX7_countStops_b9 (v0 : Nat) (v1 : Nat) (v2 : Nat) (v3 : Int32) (v4 : Int32) (v5 : Int32) (s9 : Int32 × Int32 × Int32 × Hp) : Option ((Int32 × Int32 × Int32 × Hp) ⊕ ((Nat × Int32 × Int32 × Int32 × Hp))) :=
  if (10 : Int32) ≤ s9.2.2.1 then (some (Sum.inr (v0, v5, s9.1, s9.2.1, s9.2.2.2))) else ((xgR s9.2.2.2 v2 (3, 3) 0).bind fun x6 => (xgR s9.2.2.2 v2 (3, 3) 1).bind fun x7 => (xgI s9.2.2.2 v2 (3, 3) 2).bind fun x8 => (xat s9.2.2.2 v1 (0, 16) (fX0_passStop v1 x6 x7 x8 s9.2.2.2)).bind fun h9 => (xgR h9 v2 (3, 3) 0).bind fun x10 => (xgI h9 x10 (5, 5) 1).bind fun x11 => (fX8_bit x11 v3 h9).bind fun x12 => (xgR h9 v2 (3, 3) 0).bind fun x13 => (xgI h9 x13 (5, 5) 1).bind fun x14 => (fX8_bit x14 v4 h9).bind fun x15 => some (Sum.inl (s9.1 + x12, s9.2.1 + x15, s9.2.2.1 + 1, h9)))
def fX7_countStops (v0 : Nat) (v1 : Nat) (v2 : Nat) (v3 : Int32) (v4 : Int32) (v5 : Int32) (h : Hp) : Option (Hp) :=
  (xloop (fX7_countStops_b9 v0 v1 v2 v3 v4 v5) 1000000 (0, 0, 0, h)).bind (fun r9 => (xgR r9.2.2.2.2 r9.1 (7, 4) 0).bind fun x16 => (xsI r9.2.2.2.2 x16 r9.2.1 r9.2.2.1).bind fun h17 => (xgR h17 r9.1 (7, 4) 1).bind fun x18 => (xsI h17 x18 r9.2.1 r9.2.2.2.1).bind fun h19 => some h19)
abbrev iX7_countStops : xI := (cX7_countStops, yX7_countStops.cls, yX7_countStops.name, none, 9, 5)
set_option maxHeartbeats 4000000 in
set_option maxRecDepth 100000 in
theorem kX7_countStops (l : Launch) (η : xEnv) (v0 : Nat) (v1 : Nat) (v2 : Nat) (v3 : Int32) (v4 : Int32) (v5 : Int32) (h : Hp) (x : Hp) (hx : fX7_countStops v0 v1 v2 v3 v4 v5 h = some x) : xC l η yX7_countStops cX7_countStops 9 none 5 [.ref v0, .ref v1, .ref v2, .int v3, .int v4, .int v5] h none x := by
  refine xC_of (by decide) (Nat.le_of_ble_eq_true rfl) hx (fun κ x => κ.2.2.2.1 = none ∧ κ.2.2.2.2 = x) ⟨rfl, rfl⟩ (fun κ => ?_)
  show xJ iX7_countStops κ _ 0 [(0, .ref v0), (1, .ref v1), (2, .ref v2), (3, .int v3), (4, .int v4), (5, .int v5)] [] h (fX7_countStops v0 v1 v2 v3 v4 v5 h)
  unfold fX7_countStops
  refine j_iconst (x := 0) dX7_countStops_0 (by decide) ?_
  refine j_istore (L' := [(6, .int 0), (0, .ref v0), (1, .ref v1), (2, .ref v2), (3, .int v3), (4, .int v4), (5, .int v5)]) dX7_countStops_1 (Nat.le_of_ble_eq_true rfl) rfl ?_
  refine j_iconst (x := 0) dX7_countStops_3 (by decide) ?_
  refine j_istore (L' := [(7, .int 0), (6, .int 0), (0, .ref v0), (1, .ref v1), (2, .ref v2), (3, .int v3), (4, .int v4), (5, .int v5)]) dX7_countStops_4 (Nat.le_of_ble_eq_true rfl) rfl ?_
  refine j_iconst (x := 0) dX7_countStops_6 (by decide) ?_
  refine j_istore (L' := [(8, .int 0), (7, .int 0), (6, .int 0), (0, .ref v0), (1, .ref v1), (2, .ref v2), (3, .int v3), (4, .int v4), (5, .int v5)]) dX7_countStops_7 (Nat.le_of_ble_eq_true rfl) rfl ?_
  refine j_pick [3, 4, 5, 6, 7, 8, 2, 1, 0] rfl ?_
  refine j_loop (pc := 9) (Lf := fun s9 : Int32 × Int32 × Int32 × Hp => [(0, .ref v0), (1, .ref v1), (2, .ref v2), (3, .int v3), (4, .int v4), (5, .int v5), (6, .int s9.1), (7, .int s9.2.1), (8, .int s9.2.2.1)]) (Hf := fun s9 : Int32 × Int32 × Int32 × Hp => s9.2.2.2) (fun s9 => ?_) 1000000 (0, 0, 0, h)
  show xJ iX7_countStops κ _ 9 [(0, .ref v0), (1, .ref v1), (2, .ref v2), (3, .int v3), (4, .int v4), (5, .int v5), (6, .int s9.1), (7, .int s9.2.1), (8, .int s9.2.2.1)] [] s9.2.2.2 (fX7_countStops_b9 v0 v1 v2 v3 v4 v5 s9)
  unfold fX7_countStops_b9
  refine j_iload 8 dX7_countStops_9 rfl ?_
  refine j_bipush (x := 10) dX7_countStops_11 (by decide) ?_
  refine j_icmp_ge (tgt := 71) dX7_countStops_13 (by decide) (fun c1 => ?_) (fun c1 => ?_)
  · refine j_exit (v0, v5, s9.1, s9.2.1, s9.2.2.2) ?_
    show xJ iX7_countStops κ _ _ _ _ _ ((xgR s9.2.2.2 v0 (7, 4) 0).bind fun x2 => (xsI s9.2.2.2 x2 v5 s9.1).bind fun h3 => (xgR h3 v0 (7, 4) 1).bind fun x4 => (xsI h3 x4 v5 s9.2.1).bind fun h5 => some h5)
    refine j_aload_n 0 dX7_countStops_71 rfl rfl ?_
    refine j_getR 7 4 0 dX7_countStops_72 fl_RX7_9 (by decide) rfl (by decide) (fun _ _ _ => rfl) (fun x2 => ?_)
    refine j_iload 5 dX7_countStops_75 rfl ?_
    refine j_iload 6 dX7_countStops_77 rfl ?_
    refine j_iast dX7_countStops_79 (fun h3 => ?_)
    refine j_aload_n 0 dX7_countStops_80 rfl rfl ?_
    refine j_getR 7 4 1 dX7_countStops_81 fl_RX7_15 (by decide) rfl (by decide) (fun _ _ _ => rfl) (fun x4 => ?_)
    refine j_iload 5 dX7_countStops_84 rfl ?_
    refine j_iload 7 dX7_countStops_86 rfl ?_
    refine j_iast dX7_countStops_88 (fun h5 => ?_)
    exact j_vret h5 dX7_countStops_89 rfl (fun q => q)
  · refine j_aload_n 1 dX7_countStops_16 rfl rfl ?_
    refine j_aload_n 2 dX7_countStops_17 rfl rfl ?_
    refine j_getR 3 3 0 dX7_countStops_18 fl_RX7_47 (by decide) rfl (by decide) (fun _ _ _ => rfl) (fun x6 => ?_)
    refine j_aload_n 2 dX7_countStops_21 rfl rfl ?_
    refine j_getR 3 3 1 dX7_countStops_22 fl_RX7_40 (by decide) rfl (by decide) (fun _ _ _ => rfl) (fun x7 => ?_)
    refine j_aload_n 2 dX7_countStops_25 rfl rfl ?_
    refine j_getI 3 3 2 dX7_countStops_26 fl_RX7_51 (by decide) rfl (by decide) rfl (fun x8 => ?_)
    refine j_callV (as := [.ref x6, .ref x7, .int x8]) (fun _ => none) (fun x => x) 0 16 dX7_countStops_29 ml_RX7_54 tg_X0_passStop im_X0_passStop se_X0_passStop rfl (by decide) (fun x hx => kX0_passStop κ.1 κ.2.1 v1 x6 x7 x8 s9.2.2.2 x hx) (by decide) (by decide) rfl rfl (Nat.le_of_ble_eq_true rfl) (fun h9 => ?_)
    show xJ iX7_countStops κ _ 32 [(0, .ref v0), (1, .ref v1), (2, .ref v2), (3, .int v3), (4, .int v4), (5, .int v5), (6, .int s9.1), (7, .int s9.2.1), (8, .int s9.2.2.1)] [] h9 _
    refine j_iload 6 dX7_countStops_32 rfl ?_
    refine j_aload_n 2 dX7_countStops_34 rfl rfl ?_
    refine j_getR 3 3 0 dX7_countStops_35 fl_RX7_47 (by decide) rfl (by decide) (fun _ _ _ => rfl) (fun x10 => ?_)
    refine j_getI 5 5 1 dX7_countStops_38 fl_RX7_58 (by decide) rfl (by decide) rfl (fun x11 => ?_)
    refine j_iload_n 3 dX7_countStops_41 rfl rfl ?_
    refine j_callSN (as := [.int x11, .int v3]) (fun x => some (.int x)) (fun _ => h9) dX7_countStops_42 nl_RX7_63 tg_X8_bit st_X8_bit (fun x hx => kX8_bit κ.1 κ.2.1 x11 v3 h9 x hx) (by decide) (by decide) rfl rfl (Nat.le_of_ble_eq_true rfl) (fun x12 => ?_)
    show xJ iX7_countStops κ _ 45 [(0, .ref v0), (1, .ref v1), (2, .ref v2), (3, .int v3), (4, .int v4), (5, .int v5), (6, .int s9.1), (7, .int s9.2.1), (8, .int s9.2.2.1)] [.int x12, .int s9.1] h9 _
    refine j_iadd dX7_countStops_45 ?_
    refine j_istore (L' := [(6, .int (s9.1 + x12)), (0, .ref v0), (1, .ref v1), (2, .ref v2), (3, .int v3), (4, .int v4), (5, .int v5), (7, .int s9.2.1), (8, .int s9.2.2.1)]) dX7_countStops_46 (Nat.le_of_ble_eq_true rfl) rfl ?_
    refine j_iload 7 dX7_countStops_48 rfl ?_
    refine j_aload_n 3 dX7_countStops_50 rfl rfl ?_
    refine j_getR 3 3 0 dX7_countStops_51 fl_RX7_47 (by decide) rfl (by decide) (fun _ _ _ => rfl) (fun x13 => ?_)
    refine j_getI 5 5 1 dX7_countStops_54 fl_RX7_58 (by decide) rfl (by decide) rfl (fun x14 => ?_)
    refine j_iload 5 dX7_countStops_57 rfl ?_
    refine j_callSN (as := [.int x14, .int v4]) (fun x => some (.int x)) (fun _ => h9) dX7_countStops_59 nl_RX7_63 tg_X8_bit st_X8_bit (fun x hx => kX8_bit κ.1 κ.2.1 x14 v4 h9 x hx) (by decide) (by decide) rfl rfl (Nat.le_of_ble_eq_true rfl) (fun x15 => ?_)
    show xJ iX7_countStops κ _ 62 [(6, .int (s9.1 + x12)), (0, .ref v0), (1, .ref v1), (2, .ref v2), (3, .int v3), (4, .int v4), (5, .int v5), (7, .int s9.2.1), (8, .int s9.2.2.1)] [.int x15, .int s9.2.1] h9 _
    refine j_iadd dX7_countStops_62 ?_
    refine j_istore (L' := [(7, .int (s9.2.1 + x15)), (6, .int (s9.1 + x12)), (0, .ref v0), (1, .ref v1), (2, .ref v2), (3, .int v3), (4, .int v4), (5, .int v5), (8, .int s9.2.2.1)]) dX7_countStops_63 (Nat.le_of_ble_eq_true rfl) rfl ?_
    refine j_iinc (y := s9.2.2.1 + 1) (L' := [(8, .int (s9.2.2.1 + 1)), (7, .int (s9.2.1 + x15)), (6, .int (s9.1 + x12)), (0, .ref v0), (1, .ref v1), (2, .ref v2), (3, .int v3), (4, .int v4), (5, .int v5)]) 8 dX7_countStops_65 rfl rfl (Nat.le_of_ble_eq_true rfl) rfl ?_
    refine j_goto (tgt := 9) dX7_countStops_68 (by decide) ?_
    refine j_pick [3, 4, 5, 6, 7, 8, 2, 1, 0] rfl ?_
    exact j_again (s9.1 + x12, s9.2.1 + x15, s9.2.2.1 + 1, h9) rfl rfl
def fX7_play_b47 (v0 : Nat) (v1 : Nat) (v2 : Nat) (v3 : Int32) (v4 : Int32) (v5 : Int32) (s47 : Int32 × Hp) : Option ((Int32 × Hp) ⊕ ((Nat × Nat × Nat × Int32 × Int32 × Int32 × Hp))) :=
  (xgI s47.2 v0 (7, 4) 3).bind fun x11 => if (x11 : Int32) ≤ s47.1 then (some (Sum.inr (v0, v1, v2, v3, v4, v5, s47.2))) else ((xat s47.2 v2 (3, 3) (fX3_startAnew v2 v1 s47.2)).bind fun h13 => (xgR h13 v2 (3, 3) 1).bind fun x14 => (xsI h13 x14 v3 v5).bind fun h15 => (xgR h15 v2 (3, 3) 1).bind fun x16 => (xsI h15 x16 v4 s47.1).bind fun h17 => (xat h17 v0 (7, 4) (fX7_countStops v0 v1 v2 v3 v4 ((10 * v5) + s47.1) h17)).bind fun h18 => some (Sum.inl (s47.1 + 1, h18)))
def fX7_play_b35 (v0 : Nat) (v1 : Nat) (v2 : Nat) (v3 : Int32) (v4 : Int32) (s35 : Int32 × Hp) : Option ((Int32 × Hp) ⊕ ((Hp))) :=
  (xgI s35.2 v0 (7, 4) 2).bind fun x9 => if (x9 : Int32) ≤ s35.1 then (some (Sum.inr s35.2)) else ((xloop (fX7_play_b47 v0 v1 v2 v3 v4 s35.1) 1000000 (0, s35.2)).bind (fun r47 => some (Sum.inl (r47.2.2.2.2.2.1 + 1, r47.2.2.2.2.2.2))))
def fX7_play (v0 : Nat) (v1 : Nat) (v2 : Nat) (v3 : Int32) (v4 : Int32) (h : Hp) : Option (Hp) :=
  (xat h v1 (0, 16) (fX0_hasTwo v1 v3 v4 h)).bind fun x1 => if (x1 : Int32) = 0 then (some h) else ((xgR h v1 (0, 16) 6).bind fun x3 => (xaI h x3 10 v3).bind fun x4 => (xpI h v0 (7, 4) 2 x4).bind fun h5 => (xgR h5 v1 (0, 16) 6).bind fun x6 => (xaI h5 x6 10 v4).bind fun x7 => (xpI h5 v0 (7, 4) 3 x7).bind fun h8 => (xloop (fX7_play_b35 v0 v1 v2 v3 v4) 1000000 (0, h8)).bind (fun r35 => some r35))
abbrev iX7_play : xI := (cX7_play, yX7_play.cls, yX7_play.name, none, 7, 6)
set_option maxHeartbeats 4000000 in
set_option maxRecDepth 100000 in
theorem kX7_play (l : Launch) (η : xEnv) (v0 : Nat) (v1 : Nat) (v2 : Nat) (v3 : Int32) (v4 : Int32) (h : Hp) (x : Hp) (hx : fX7_play v0 v1 v2 v3 v4 h = some x) : xC l η yX7_play cX7_play 7 none 6 [.ref v0, .ref v1, .ref v2, .int v3, .int v4] h none x := by
  refine xC_of (by decide) (Nat.le_of_ble_eq_true rfl) hx (fun κ x => κ.2.2.2.1 = none ∧ κ.2.2.2.2 = x) ⟨rfl, rfl⟩ (fun κ => ?_)
  show xJ iX7_play κ _ 0 [(0, .ref v0), (1, .ref v1), (2, .ref v2), (3, .int v3), (4, .int v4)] [] h (fX7_play v0 v1 v2 v3 v4 h)
  unfold fX7_play
  refine j_aload_n 1 dX7_play_0 rfl rfl ?_
  refine j_iload_n 3 dX7_play_1 rfl rfl ?_
  refine j_iload 4 dX7_play_2 rfl ?_
  refine j_callV (as := [.int v3, .int v4]) (fun x => some (.int x)) (fun _ => h) 0 16 dX7_play_4 ml_RX7_18 tg_X0_hasTwo im_X0_hasTwo se_X0_hasTwo rfl (by decide) (fun x hx => kX0_hasTwo κ.1 κ.2.1 v1 v3 v4 h x hx) (by decide) (by decide) rfl rfl (Nat.le_of_ble_eq_true rfl) (fun x1 => ?_)
  show xJ iX7_play κ _ 7 [(0, .ref v0), (1, .ref v1), (2, .ref v2), (3, .int v3), (4, .int v4)] [.int x1] h _
  refine j_if_ne (tgt := 11) dX7_play_7 (by decide) (fun c2 => ?_) (fun c2 => ?_)
  · exact j_vret h dX7_play_10 rfl (fun q => q)
  · refine j_aload_n 0 dX7_play_11 rfl rfl ?_
    refine j_aload_n 1 dX7_play_12 rfl rfl ?_
    refine j_getR 0 16 6 dX7_play_13 fl_RX7_24 (by decide) rfl (by decide) (fun _ _ _ => rfl) (fun x3 => ?_)
    refine j_iload_n 3 dX7_play_16 rfl rfl ?_
    refine j_iald dX7_play_17 (fun x4 => ?_)
    refine j_putI 7 4 2 dX7_play_18 fl_RX7_27 (by decide) rfl (by decide) rfl rfl (fun h5 => ?_)
    refine j_aload_n 0 dX7_play_21 rfl rfl ?_
    refine j_aload_n 1 dX7_play_22 rfl rfl ?_
    refine j_getR 0 16 6 dX7_play_23 fl_RX7_24 (by decide) rfl (by decide) (fun _ _ _ => rfl) (fun x6 => ?_)
    refine j_iload 4 dX7_play_26 rfl ?_
    refine j_iald dX7_play_28 (fun x7 => ?_)
    refine j_putI 7 4 3 dX7_play_29 fl_RX7_31 (by decide) rfl (by decide) rfl rfl (fun h8 => ?_)
    refine j_iconst (x := 0) dX7_play_32 (by decide) ?_
    refine j_istore (L' := [(5, .int 0), (0, .ref v0), (1, .ref v1), (2, .ref v2), (3, .int v3), (4, .int v4)]) dX7_play_33 (Nat.le_of_ble_eq_true rfl) rfl ?_
    refine j_pick [1, 2, 3, 4, 5, 0] rfl ?_
    refine j_loop (pc := 35) (Lf := fun s35 : Int32 × Hp => [(0, .ref v0), (1, .ref v1), (2, .ref v2), (3, .int v3), (4, .int v4), (5, .int s35.1)]) (Hf := fun s35 : Int32 × Hp => s35.2) (fun s35 => ?_) 1000000 (0, h8)
    show xJ iX7_play κ _ 35 [(0, .ref v0), (1, .ref v1), (2, .ref v2), (3, .int v3), (4, .int v4), (5, .int s35.1)] [] s35.2 (fX7_play_b35 v0 v1 v2 v3 v4 s35)
    unfold fX7_play_b35
    refine j_iload 5 dX7_play_35 rfl ?_
    refine j_aload_n 0 dX7_play_37 rfl rfl ?_
    refine j_getI 7 4 2 dX7_play_38 fl_RX7_27 (by decide) rfl (by decide) rfl (fun x9 => ?_)
    refine j_icmp_ge (tgt := 107) dX7_play_41 (by decide) (fun c10 => ?_) (fun c10 => ?_)
    · refine j_exit s35.2 ?_
      show xJ iX7_play κ _ _ _ _ _ (some s35.2)
      exact j_vret s35.2 dX7_play_107 rfl (fun q => q)
    · refine j_iconst (x := 0) dX7_play_44 (by decide) ?_
      refine j_istore (L' := [(6, .int 0), (0, .ref v0), (1, .ref v1), (2, .ref v2), (3, .int v3), (4, .int v4), (5, .int s35.1)]) dX7_play_45 (Nat.le_of_ble_eq_true rfl) rfl ?_
      refine j_pick [1, 2, 3, 4, 5, 6, 0] rfl ?_
      refine j_loop (pc := 47) (Lf := fun s47 : Int32 × Hp => [(0, .ref v0), (1, .ref v1), (2, .ref v2), (3, .int v3), (4, .int v4), (5, .int s35.1), (6, .int s47.1)]) (Hf := fun s47 : Int32 × Hp => s47.2) (fun s47 => ?_) 1000000 (0, s35.2)
      show xJ iX7_play κ _ 47 [(0, .ref v0), (1, .ref v1), (2, .ref v2), (3, .int v3), (4, .int v4), (5, .int s35.1), (6, .int s47.1)] [] s47.2 (fX7_play_b47 v0 v1 v2 v3 v4 s35.1 s47)
      unfold fX7_play_b47
      refine j_iload 6 dX7_play_47 rfl ?_
      refine j_aload_n 0 dX7_play_49 rfl rfl ?_
      refine j_getI 7 4 3 dX7_play_50 fl_RX7_31 (by decide) rfl (by decide) rfl (fun x11 => ?_)
      refine j_icmp_ge (tgt := 101) dX7_play_53 (by decide) (fun c12 => ?_) (fun c12 => ?_)
      · refine j_exit (v0, v1, v2, v3, v4, s35.1, s47.2) ?_
        show xJ iX7_play κ _ _ _ _ _ (some (Sum.inl (s35.1 + 1, s47.2)))
        refine j_iinc (y := s35.1 + 1) (L' := [(5, .int (s35.1 + 1)), (0, .ref v0), (1, .ref v1), (2, .ref v2), (3, .int v3), (4, .int v4), (6, .int s47.1)]) 5 dX7_play_101 rfl rfl (Nat.le_of_ble_eq_true rfl) rfl ?_
        refine j_goto (tgt := 35) dX7_play_104 (by decide) ?_
        refine j_pick [1, 2, 3, 4, 5, 0] rfl ?_
        exact j_again (s35.1 + 1, s47.2) rfl rfl
      · refine j_aload_n 2 dX7_play_56 rfl rfl ?_
        refine j_aload_n 1 dX7_play_57 rfl rfl ?_
        refine j_callV (as := [.ref v1]) (fun _ => none) (fun x => x) 3 3 dX7_play_58 ml_RX7_34 tg_X3_startAnew im_X3_startAnew se_X3_startAnew rfl (by decide) (fun x hx => kX3_startAnew κ.1 κ.2.1 v2 v1 s47.2 x hx) (by decide) (by decide) rfl rfl (Nat.le_of_ble_eq_true rfl) (fun h13 => ?_)
        show xJ iX7_play κ _ 61 [(0, .ref v0), (1, .ref v1), (2, .ref v2), (3, .int v3), (4, .int v4), (5, .int s35.1), (6, .int s47.1)] [] h13 _
        refine j_aload_n 2 dX7_play_61 rfl rfl ?_
        refine j_getR 3 3 1 dX7_play_62 fl_RX7_40 (by decide) rfl (by decide) (fun _ _ _ => rfl) (fun x14 => ?_)
        refine j_iload_n 3 dX7_play_65 rfl rfl ?_
        refine j_iload 5 dX7_play_66 rfl ?_
        refine j_iast dX7_play_68 (fun h15 => ?_)
        refine j_aload_n 2 dX7_play_69 rfl rfl ?_
        refine j_getR 3 3 1 dX7_play_70 fl_RX7_40 (by decide) rfl (by decide) (fun _ _ _ => rfl) (fun x16 => ?_)
        refine j_iload 4 dX7_play_73 rfl ?_
        refine j_iload 6 dX7_play_75 rfl ?_
        refine j_iast dX7_play_77 (fun h17 => ?_)
        refine j_aload_n 0 dX7_play_78 rfl rfl ?_
        refine j_aload_n 1 dX7_play_79 rfl rfl ?_
        refine j_aload_n 2 dX7_play_80 rfl rfl ?_
        refine j_iload_n 3 dX7_play_81 rfl rfl ?_
        refine j_iload 4 dX7_play_82 rfl ?_
        refine j_bipush (x := 10) dX7_play_84 (by decide) ?_
        refine j_iload 5 dX7_play_86 rfl ?_
        refine j_imul dX7_play_88 ?_
        refine j_iload 6 dX7_play_89 rfl ?_
        refine j_iadd dX7_play_91 ?_
        refine j_callV (as := [.ref v1, .ref v2, .int v3, .int v4, .int ((10 * s35.1) + s47.1)]) (fun _ => none) (fun x => x) 7 4 dX7_play_92 ml_RX7_43 tg_X7_countStops im_X7_countStops se_X7_countStops rfl (by decide) (fun x hx => kX7_countStops κ.1 κ.2.1 v0 v1 v2 v3 v4 ((10 * s35.1) + s47.1) h17 x hx) (by decide) (by decide) rfl rfl (Nat.le_of_ble_eq_true rfl) (fun h18 => ?_)
        show xJ iX7_play κ _ 95 [(0, .ref v0), (1, .ref v1), (2, .ref v2), (3, .int v3), (4, .int v4), (5, .int s35.1), (6, .int s47.1)] [] h18 _
        refine j_iinc (y := s47.1 + 1) (L' := [(6, .int (s47.1 + 1)), (0, .ref v0), (1, .ref v1), (2, .ref v2), (3, .int v3), (4, .int v4), (5, .int s35.1)]) 6 dX7_play_95 rfl rfl (Nat.le_of_ble_eq_true rfl) rfl ?_
        refine j_goto (tgt := 47) dX7_play_98 (by decide) ?_
        refine j_pick [1, 2, 3, 4, 5, 6, 0] rfl ?_
        exact j_again (s47.1 + 1, h18) rfl rfl
def fX7_rests_b45 (v0 : Nat) (v1 : Int32) (v2 : Int32) (h : Hp) (s45 : Int32) : Option ((Int32) ⊕ ((Unit) ⊕ (Unit))) :=
  (xgI h v0 (7, 4) 3).bind fun x3 => if (x3 : Int32) ≤ s45 then (some (Sum.inr (Sum.inr ()))) else ((xgR h v0 (7, 4) 1).bind fun x5 => (xaI h x5 10 ((10 * v1) + s45)).bind fun x6 => (xgR h v0 (7, 4) 1).bind fun x7 => (xaI h x7 10 ((10 * v1) + v2)).bind fun x8 => if (x6 : Int32) ≤ x8 then (some (Sum.inl (s45 + 1))) else (some (Sum.inr (Sum.inl ()))))
def fX7_rests_b2 (v0 : Nat) (v1 : Int32) (v2 : Int32) (h : Hp) (s2 : Int32) : Option ((Int32) ⊕ ((Unit) ⊕ (Nat × Int32 × Int32))) :=
  (xgI h v0 (7, 4) 2).bind fun x1 => if (x1 : Int32) ≤ s2 then (some (Sum.inr (Sum.inr (v0, v1, v2)))) else ((xgR h v0 (7, 4) 0).bind fun x10 => (xaI h x10 10 ((10 * s2) + v2)).bind fun x11 => (xgR h v0 (7, 4) 0).bind fun x12 => (xaI h x12 10 ((10 * v1) + v2)).bind fun x13 => if (x11 : Int32) ≤ x13 then (some (Sum.inl (s2 + 1))) else (some (Sum.inr (Sum.inl ()))))
def fX7_rests (v0 : Nat) (v1 : Int32) (v2 : Int32) (h : Hp) : Option (Int32) :=
  (xloop (fX7_rests_b2 v0 v1 v2 h) 1000000 0).bind (fun q => match q with | .inl r2 => (some 0) | .inr r2 => ((xloop (fX7_rests_b45 r2.1 r2.2.1 r2.2.2 h) 1000000 0).bind (fun q => match q with | .inl r45 => (some 0) | .inr r45 => (some 1))))
abbrev iX7_rests : xI := (cX7_rests, yX7_rests.cls, yX7_rests.name, some .boolean, 4, 2)
set_option maxHeartbeats 4000000 in
set_option maxRecDepth 100000 in
theorem kX7_rests (l : Launch) (η : xEnv) (v0 : Nat) (v1 : Int32) (v2 : Int32) (h : Hp) (x : Int32) (hx : fX7_rests v0 v1 v2 h = some x) : xC l η yX7_rests cX7_rests 4 (some .boolean) 2 [.ref v0, .int v1, .int v2] h (some (.int x)) h := by
  refine xC_of (by decide) (Nat.le_of_ble_eq_true rfl) hx (fun κ x => κ.2.2.2.1 = some (.int x) ∧ κ.2.2.2.2 = h) ⟨rfl, rfl⟩ (fun κ => ?_)
  show xJ iX7_rests κ _ 0 [(0, .ref v0), (1, .int v1), (2, .int v2)] [] h (fX7_rests v0 v1 v2 h)
  unfold fX7_rests
  refine j_iconst (x := 0) dX7_rests_0 (by decide) ?_
  refine j_istore_n (L' := [(3, .int 0), (0, .ref v0), (1, .int v1), (2, .int v2)]) dX7_rests_1 rfl (Nat.le_of_ble_eq_true rfl) rfl ?_
  refine j_pick [1, 2, 3, 0] rfl ?_
  refine j_loop (pc := 2) (Lf := fun s2 : Int32 => [(0, .ref v0), (1, .int v1), (2, .int v2), (3, .int s2)]) (Hf := fun s2 : Int32 => h) (fun s2 => ?_) 1000000 0
  show xJ iX7_rests κ _ 2 [(0, .ref v0), (1, .int v1), (2, .int v2), (3, .int s2)] [] h (fX7_rests_b2 v0 v1 v2 h s2)
  unfold fX7_rests_b2
  refine j_iload_n 3 dX7_rests_2 rfl rfl ?_
  refine j_aload_n 0 dX7_rests_3 rfl rfl ?_
  refine j_getI 7 4 2 dX7_rests_4 fl_RX7_27 (by decide) rfl (by decide) rfl (fun x1 => ?_)
  refine j_icmp_ge (tgt := 43) dX7_rests_7 (by decide) (fun c2 => ?_) (fun c2 => ?_)
  · refine j_exit (Sum.inr (v0, v1, v2)) ?_
    try dsimp only
    refine j_iconst (x := 0) dX7_rests_43 (by decide) ?_
    refine j_istore_n (L' := [(3, .int 0), (0, .ref v0), (1, .int v1), (2, .int v2)]) dX7_rests_44 rfl (Nat.le_of_ble_eq_true rfl) rfl ?_
    refine j_pick [1, 2, 3, 0] rfl ?_
    refine j_loop (pc := 45) (Lf := fun s45 : Int32 => [(0, .ref v0), (1, .int v1), (2, .int v2), (3, .int s45)]) (Hf := fun s45 : Int32 => h) (fun s45 => ?_) 1000000 0
    show xJ iX7_rests κ _ 45 [(0, .ref v0), (1, .int v1), (2, .int v2), (3, .int s45)] [] h (fX7_rests_b45 v0 v1 v2 h s45)
    unfold fX7_rests_b45
    refine j_iload_n 3 dX7_rests_45 rfl rfl ?_
    refine j_aload_n 0 dX7_rests_46 rfl rfl ?_
    refine j_getI 7 4 3 dX7_rests_47 fl_RX7_31 (by decide) rfl (by decide) rfl (fun x3 => ?_)
    refine j_icmp_ge (tgt := 86) dX7_rests_50 (by decide) (fun c4 => ?_) (fun c4 => ?_)
    · refine j_exit (Sum.inr ()) ?_
      try dsimp only
      refine j_iconst (x := 1) dX7_rests_86 (by decide) ?_
      exact j_zret 1 dX7_rests_87 rfl rfl (fun q => q)
    · refine j_aload_n 0 dX7_rests_53 rfl rfl ?_
      refine j_getR 7 4 1 dX7_rests_54 fl_RX7_15 (by decide) rfl (by decide) (fun _ _ _ => rfl) (fun x5 => ?_)
      refine j_bipush (x := 10) dX7_rests_57 (by decide) ?_
      refine j_iload_n 1 dX7_rests_59 rfl rfl ?_
      refine j_imul dX7_rests_60 ?_
      refine j_iload_n 3 dX7_rests_61 rfl rfl ?_
      refine j_iadd dX7_rests_62 ?_
      refine j_iald dX7_rests_63 (fun x6 => ?_)
      refine j_aload_n 0 dX7_rests_64 rfl rfl ?_
      refine j_getR 7 4 1 dX7_rests_65 fl_RX7_15 (by decide) rfl (by decide) (fun _ _ _ => rfl) (fun x7 => ?_)
      refine j_bipush (x := 10) dX7_rests_68 (by decide) ?_
      refine j_iload_n 1 dX7_rests_70 rfl rfl ?_
      refine j_imul dX7_rests_71 ?_
      refine j_iload_n 2 dX7_rests_72 rfl rfl ?_
      refine j_iadd dX7_rests_73 ?_
      refine j_iald dX7_rests_74 (fun x8 => ?_)
      refine j_icmp_le (tgt := 80) dX7_rests_75 (by decide) (fun c9 => ?_) (fun c9 => ?_)
      · refine j_iinc (y := s45 + 1) (L' := [(3, .int (s45 + 1)), (0, .ref v0), (1, .int v1), (2, .int v2)]) 3 dX7_rests_80 rfl rfl (Nat.le_of_ble_eq_true rfl) rfl ?_
        refine j_goto (tgt := 45) dX7_rests_83 (by decide) ?_
        refine j_pick [1, 2, 3, 0] rfl ?_
        exact j_again (s45 + 1) rfl rfl
      · refine j_exit (Sum.inl ()) ?_
        try dsimp only
        refine j_iconst (x := 0) dX7_rests_78 (by decide) ?_
        exact j_zret 0 dX7_rests_79 rfl rfl (fun q => q)
  · refine j_aload_n 0 dX7_rests_10 rfl rfl ?_
    refine j_getR 7 4 0 dX7_rests_11 fl_RX7_9 (by decide) rfl (by decide) (fun _ _ _ => rfl) (fun x10 => ?_)
    refine j_bipush (x := 10) dX7_rests_14 (by decide) ?_
    refine j_iload_n 3 dX7_rests_16 rfl rfl ?_
    refine j_imul dX7_rests_17 ?_
    refine j_iload_n 2 dX7_rests_18 rfl rfl ?_
    refine j_iadd dX7_rests_19 ?_
    refine j_iald dX7_rests_20 (fun x11 => ?_)
    refine j_aload_n 0 dX7_rests_21 rfl rfl ?_
    refine j_getR 7 4 0 dX7_rests_22 fl_RX7_9 (by decide) rfl (by decide) (fun _ _ _ => rfl) (fun x12 => ?_)
    refine j_bipush (x := 10) dX7_rests_25 (by decide) ?_
    refine j_iload_n 1 dX7_rests_27 rfl rfl ?_
    refine j_imul dX7_rests_28 ?_
    refine j_iload_n 2 dX7_rests_29 rfl rfl ?_
    refine j_iadd dX7_rests_30 ?_
    refine j_iald dX7_rests_31 (fun x13 => ?_)
    refine j_icmp_le (tgt := 37) dX7_rests_32 (by decide) (fun c14 => ?_) (fun c14 => ?_)
    · refine j_iinc (y := s2 + 1) (L' := [(3, .int (s2 + 1)), (0, .ref v0), (1, .int v1), (2, .int v2)]) 3 dX7_rests_37 rfl rfl (Nat.le_of_ble_eq_true rfl) rfl ?_
      refine j_goto (tgt := 2) dX7_rests_40 (by decide) ?_
      refine j_pick [1, 2, 3, 0] rfl ?_
      exact j_again (s2 + 1) rfl rfl
    · refine j_exit (Sum.inl ()) ?_
      try dsimp only
      refine j_iconst (x := 0) dX7_rests_35 (by decide) ?_
      exact j_zret 0 dX7_rests_36 rfl rfl (fun q => q)
def fX7_resting_j34 (v0 : Nat) (v1 : Int32) (v2 : Int32) (v3 : Int32) (h : Hp) : Option ((Int32 × Int32) ⊕ ((Nat × Int32 × Int32))) :=
  some (Sum.inl (v1, v3 + 1))
def fX7_resting_b14 (v0 : Nat) (v2 : Int32) (h : Hp) (s14 : Int32 × Int32) : Option ((Int32 × Int32) ⊕ ((Nat × Int32 × Int32))) :=
  (xgI h v0 (7, 4) 3).bind fun x3 => if (x3 : Int32) ≤ s14.2 then (some (Sum.inr (v0, s14.1, v2))) else ((xat h v0 (7, 4) (fX7_rests v0 v2 s14.2 h)).bind fun x5 => if (x5 : Int32) = 0 then (fX7_resting_j34 v0 s14.1 v2 s14.2 h) else (fX7_resting_j34 v0 (s14.1 + 1) v2 s14.2 h))
def fX7_resting_b4 (v0 : Nat) (h : Hp) (s4 : Int32 × Int32) : Option ((Int32 × Int32) ⊕ ((Int32))) :=
  (xgI h v0 (7, 4) 2).bind fun x1 => if (x1 : Int32) ≤ s4.2 then (some (Sum.inr s4.1)) else ((xloop (fX7_resting_b14 v0 s4.2 h) 1000000 (s4.1, 0)).bind (fun r14 => some (Sum.inl (r14.2.1, r14.2.2 + 1))))
def fX7_resting (v0 : Nat) (h : Hp) : Option (Int32) :=
  (xloop (fX7_resting_b4 v0 h) 1000000 (0, 0)).bind (fun r4 => some r4)
abbrev iX7_resting : xI := (cX7_resting, yX7_resting.cls, yX7_resting.name, some .int, 4, 3)
set_option maxHeartbeats 4000000 in
set_option maxRecDepth 100000 in
theorem kX7_resting (l : Launch) (η : xEnv) (v0 : Nat) (h : Hp) (x : Int32) (hx : fX7_resting v0 h = some x) : xC l η yX7_resting cX7_resting 4 (some .int) 3 [.ref v0] h (some (.int x)) h := by
  refine xC_of (by decide) (Nat.le_of_ble_eq_true rfl) hx (fun κ x => κ.2.2.2.1 = some (.int x) ∧ κ.2.2.2.2 = h) ⟨rfl, rfl⟩ (fun κ => ?_)
  show xJ iX7_resting κ _ 0 [(0, .ref v0)] [] h (fX7_resting v0 h)
  unfold fX7_resting
  refine j_iconst (x := 0) dX7_resting_0 (by decide) ?_
  refine j_istore_n (L' := [(1, .int 0), (0, .ref v0)]) dX7_resting_1 rfl (Nat.le_of_ble_eq_true rfl) rfl ?_
  refine j_iconst (x := 0) dX7_resting_2 (by decide) ?_
  refine j_istore_n (L' := [(2, .int 0), (1, .int 0), (0, .ref v0)]) dX7_resting_3 rfl (Nat.le_of_ble_eq_true rfl) rfl ?_
  refine j_pick [2, 1, 0] rfl ?_
  refine j_loop (pc := 4) (Lf := fun s4 : Int32 × Int32 => [(0, .ref v0), (1, .int s4.1), (2, .int s4.2)]) (Hf := fun s4 : Int32 × Int32 => h) (fun s4 => ?_) 1000000 (0, 0)
  show xJ iX7_resting κ _ 4 [(0, .ref v0), (1, .int s4.1), (2, .int s4.2)] [] h (fX7_resting_b4 v0 h s4)
  unfold fX7_resting_b4
  refine j_iload_n 2 dX7_resting_4 rfl rfl ?_
  refine j_aload_n 0 dX7_resting_5 rfl rfl ?_
  refine j_getI 7 4 2 dX7_resting_6 fl_RX7_27 (by decide) rfl (by decide) rfl (fun x1 => ?_)
  refine j_icmp_ge (tgt := 46) dX7_resting_9 (by decide) (fun c2 => ?_) (fun c2 => ?_)
  · refine j_exit s4.1 ?_
    show xJ iX7_resting κ _ _ _ _ _ (some s4.1)
    refine j_iload_n 1 dX7_resting_46 rfl rfl ?_
    exact j_iret s4.1 dX7_resting_47 rfl (fun q => q)
  · refine j_iconst (x := 0) dX7_resting_12 (by decide) ?_
    refine j_istore_n (L' := [(3, .int 0), (0, .ref v0), (1, .int s4.1), (2, .int s4.2)]) dX7_resting_13 rfl (Nat.le_of_ble_eq_true rfl) rfl ?_
    refine j_pick [1, 2, 3, 0] rfl ?_
    refine j_loop (pc := 14) (Lf := fun s14 : Int32 × Int32 => [(0, .ref v0), (1, .int s14.1), (2, .int s4.2), (3, .int s14.2)]) (Hf := fun s14 : Int32 × Int32 => h) (fun s14 => ?_) 1000000 (s4.1, 0)
    show xJ iX7_resting κ _ 14 [(0, .ref v0), (1, .int s14.1), (2, .int s4.2), (3, .int s14.2)] [] h (fX7_resting_b14 v0 s4.2 h s14)
    unfold fX7_resting_b14
    refine j_have (pj := 34) (Lf := fun v : Int32 × Int32 => [(0, .ref v0), (1, .int v.1), (2, .int s4.2), (3, .int v.2)]) (Sf := fun v : Int32 × Int32 => []) (Hf := fun v : Int32 × Int32 => h) (jf := fun v : Int32 × Int32 => fX7_resting_j34 v0 v.1 s4.2 v.2 h) (fun v => ?_) (fun hj34 => ?_)
    · obtain ⟨v1, v3⟩ := v
      show xJ iX7_resting κ _ 34 [(0, .ref v0), (1, .int v1), (2, .int s4.2), (3, .int v3)] [] h (fX7_resting_j34 v0 v1 s4.2 v3 h)
      unfold fX7_resting_j34
      refine j_iinc (y := v3 + 1) (L' := [(3, .int (v3 + 1)), (0, .ref v0), (1, .int v1), (2, .int s4.2)]) 3 dX7_resting_34 rfl rfl (Nat.le_of_ble_eq_true rfl) rfl ?_
      refine j_goto (tgt := 14) dX7_resting_37 (by decide) ?_
      refine j_pick [1, 2, 3, 0] rfl ?_
      exact j_again (v1, v3 + 1) rfl rfl
    refine j_iload_n 3 dX7_resting_14 rfl rfl ?_
    refine j_aload_n 0 dX7_resting_15 rfl rfl ?_
    refine j_getI 7 4 3 dX7_resting_16 fl_RX7_31 (by decide) rfl (by decide) rfl (fun x3 => ?_)
    refine j_icmp_ge (tgt := 40) dX7_resting_19 (by decide) (fun c4 => ?_) (fun c4 => ?_)
    · refine j_exit (v0, s14.1, s4.2) ?_
      show xJ iX7_resting κ _ _ _ _ _ (some (Sum.inl (s14.1, s4.2 + 1)))
      refine j_iinc (y := s4.2 + 1) (L' := [(2, .int (s4.2 + 1)), (0, .ref v0), (1, .int s14.1), (3, .int s14.2)]) 2 dX7_resting_40 rfl rfl (Nat.le_of_ble_eq_true rfl) rfl ?_
      refine j_goto (tgt := 4) dX7_resting_43 (by decide) ?_
      refine j_pick [1, 2, 0] rfl ?_
      exact j_again (s14.1, s4.2 + 1) rfl rfl
    · refine j_aload_n 0 dX7_resting_22 rfl rfl ?_
      refine j_iload_n 2 dX7_resting_23 rfl rfl ?_
      refine j_iload_n 3 dX7_resting_24 rfl rfl ?_
      refine j_callV (as := [.int s4.2, .int s14.2]) (fun x => some (.int x)) (fun _ => h) 7 4 dX7_resting_25 ml_RX7_67 tg_X7_rests im_X7_rests se_X7_rests rfl (by decide) (fun x hx => kX7_rests κ.1 κ.2.1 v0 s4.2 s14.2 h x hx) (by decide) (by decide) rfl rfl (Nat.le_of_ble_eq_true rfl) (fun x5 => ?_)
      show xJ iX7_resting κ _ 28 [(0, .ref v0), (1, .int s14.1), (2, .int s4.2), (3, .int s14.2)] [.int x5] h _
      refine j_if_eq (tgt := 34) dX7_resting_28 (by decide) (fun c6 => ?_) (fun c6 => ?_)
      · refine j_pick [0, 1, 2, 3] rfl ?_
        exact hj34 (s14.1, s14.2)
      · refine j_iinc (y := s14.1 + 1) (L' := [(1, .int (s14.1 + 1)), (0, .ref v0), (2, .int s4.2), (3, .int s14.2)]) 1 dX7_resting_31 rfl rfl (Nat.le_of_ble_eq_true rfl) rfl ?_
        refine j_pick [1, 0, 2, 3] rfl ?_
        exact hj34 (s14.1 + 1, s14.2)
def fX7_restingAt_j53 (v0 : Nat) (v1 : Int32) (v2 : Int32) (v3 : Int32) (v4 : Int32) (h : Hp) : Option ((Int32 × Int32) ⊕ ((Int32 × Int32) ⊕ (Nat × Int32 × Int32 × Int32))) :=
  some (Sum.inl (v2, v4 + 1))
def fX7_restingAt_b15 (v0 : Nat) (v1 : Int32) (v3 : Int32) (h : Hp) (s15 : Int32 × Int32) : Option ((Int32 × Int32) ⊕ ((Int32 × Int32) ⊕ (Nat × Int32 × Int32 × Int32))) :=
  (xgI h v0 (7, 4) 3).bind fun x3 => if (x3 : Int32) ≤ s15.2 then (some (Sum.inr (Sum.inr (v0, v1, s15.1, v3)))) else ((xat h v0 (7, 4) (fX7_rests v0 v3 s15.2 h)).bind fun x5 => if (x5 : Int32) = 0 then (fX7_restingAt_j53 v0 v1 s15.1 v3 s15.2 h) else (if (s15.1 : Int32) = v1 then (some (Sum.inr (Sum.inl (v3, s15.2)))) else (fX7_restingAt_j53 v0 v1 (s15.1 + 1) v3 s15.2 h)))
def fX7_restingAt_b4 (v0 : Nat) (v1 : Int32) (h : Hp) (s4 : Int32 × Int32) : Option ((Int32 × Int32) ⊕ ((Int32 × Int32) ⊕ (Unit))) :=
  (xgI h v0 (7, 4) 2).bind fun x1 => if (x1 : Int32) ≤ s4.2 then (some (Sum.inr (Sum.inr ()))) else ((xloop (fX7_restingAt_b15 v0 v1 s4.2 h) 1000000 (s4.1, 0)).bind (fun q => match q with | .inl r15 => (some (Sum.inr (Sum.inl (r15.1, r15.2)))) | .inr r15 => (some (Sum.inl (r15.2.2.1, r15.2.2.2 + 1)))))
def fX7_restingAt (v0 : Nat) (v1 : Int32) (h : Hp) : Option (Int32) :=
  (xloop (fX7_restingAt_b4 v0 v1 h) 1000000 (0, 0)).bind (fun q => match q with | .inl r4 => (some ((10 * r4.1) + r4.2)) | .inr r4 => (some (-5)))
abbrev iX7_restingAt : xI := (cX7_restingAt, yX7_restingAt.cls, yX7_restingAt.name, some .int, 5, 3)
set_option maxHeartbeats 4000000 in
set_option maxRecDepth 100000 in
theorem kX7_restingAt (l : Launch) (η : xEnv) (v0 : Nat) (v1 : Int32) (h : Hp) (x : Int32) (hx : fX7_restingAt v0 v1 h = some x) : xC l η yX7_restingAt cX7_restingAt 5 (some .int) 3 [.ref v0, .int v1] h (some (.int x)) h := by
  refine xC_of (by decide) (Nat.le_of_ble_eq_true rfl) hx (fun κ x => κ.2.2.2.1 = some (.int x) ∧ κ.2.2.2.2 = h) ⟨rfl, rfl⟩ (fun κ => ?_)
  show xJ iX7_restingAt κ _ 0 [(0, .ref v0), (1, .int v1)] [] h (fX7_restingAt v0 v1 h)
  unfold fX7_restingAt
  refine j_iconst (x := 0) dX7_restingAt_0 (by decide) ?_
  refine j_istore_n (L' := [(2, .int 0), (0, .ref v0), (1, .int v1)]) dX7_restingAt_1 rfl (Nat.le_of_ble_eq_true rfl) rfl ?_
  refine j_iconst (x := 0) dX7_restingAt_2 (by decide) ?_
  refine j_istore_n (L' := [(3, .int 0), (2, .int 0), (0, .ref v0), (1, .int v1)]) dX7_restingAt_3 rfl (Nat.le_of_ble_eq_true rfl) rfl ?_
  refine j_pick [2, 3, 1, 0] rfl ?_
  refine j_loop (pc := 4) (Lf := fun s4 : Int32 × Int32 => [(0, .ref v0), (1, .int v1), (2, .int s4.1), (3, .int s4.2)]) (Hf := fun s4 : Int32 × Int32 => h) (fun s4 => ?_) 1000000 (0, 0)
  show xJ iX7_restingAt κ _ 4 [(0, .ref v0), (1, .int v1), (2, .int s4.1), (3, .int s4.2)] [] h (fX7_restingAt_b4 v0 v1 h s4)
  unfold fX7_restingAt_b4
  refine j_iload_n 3 dX7_restingAt_4 rfl rfl ?_
  refine j_aload_n 0 dX7_restingAt_5 rfl rfl ?_
  refine j_getI 7 4 2 dX7_restingAt_6 fl_RX7_27 (by decide) rfl (by decide) rfl (fun x1 => ?_)
  refine j_icmp_ge (tgt := 65) dX7_restingAt_9 (by decide) (fun c2 => ?_) (fun c2 => ?_)
  · refine j_exit (Sum.inr ()) ?_
    try dsimp only
    refine j_bipush (x := (-5)) dX7_restingAt_65 (by decide) ?_
    exact j_iret (-5) dX7_restingAt_67 rfl (fun q => q)
  · refine j_iconst (x := 0) dX7_restingAt_12 (by decide) ?_
    refine j_istore (L' := [(4, .int 0), (0, .ref v0), (1, .int v1), (2, .int s4.1), (3, .int s4.2)]) dX7_restingAt_13 (Nat.le_of_ble_eq_true rfl) rfl ?_
    refine j_pick [1, 2, 3, 4, 0] rfl ?_
    refine j_loop (pc := 15) (Lf := fun s15 : Int32 × Int32 => [(0, .ref v0), (1, .int v1), (2, .int s15.1), (3, .int s4.2), (4, .int s15.2)]) (Hf := fun s15 : Int32 × Int32 => h) (fun s15 => ?_) 1000000 (s4.1, 0)
    show xJ iX7_restingAt κ _ 15 [(0, .ref v0), (1, .int v1), (2, .int s15.1), (3, .int s4.2), (4, .int s15.2)] [] h (fX7_restingAt_b15 v0 v1 s4.2 h s15)
    unfold fX7_restingAt_b15
    refine j_have (pj := 53) (Lf := fun v : Int32 × Int32 => [(0, .ref v0), (1, .int v1), (2, .int v.1), (3, .int s4.2), (4, .int v.2)]) (Sf := fun v : Int32 × Int32 => []) (Hf := fun v : Int32 × Int32 => h) (jf := fun v : Int32 × Int32 => fX7_restingAt_j53 v0 v1 v.1 s4.2 v.2 h) (fun v => ?_) (fun hj53 => ?_)
    · obtain ⟨v2, v4⟩ := v
      show xJ iX7_restingAt κ _ 53 [(0, .ref v0), (1, .int v1), (2, .int v2), (3, .int s4.2), (4, .int v4)] [] h (fX7_restingAt_j53 v0 v1 v2 s4.2 v4 h)
      unfold fX7_restingAt_j53
      refine j_iinc (y := v4 + 1) (L' := [(4, .int (v4 + 1)), (0, .ref v0), (1, .int v1), (2, .int v2), (3, .int s4.2)]) 4 dX7_restingAt_53 rfl rfl (Nat.le_of_ble_eq_true rfl) rfl ?_
      refine j_goto (tgt := 15) dX7_restingAt_56 (by decide) ?_
      refine j_pick [1, 2, 3, 4, 0] rfl ?_
      exact j_again (v2, v4 + 1) rfl rfl
    refine j_iload 4 dX7_restingAt_15 rfl ?_
    refine j_aload_n 0 dX7_restingAt_17 rfl rfl ?_
    refine j_getI 7 4 3 dX7_restingAt_18 fl_RX7_31 (by decide) rfl (by decide) rfl (fun x3 => ?_)
    refine j_icmp_ge (tgt := 59) dX7_restingAt_21 (by decide) (fun c4 => ?_) (fun c4 => ?_)
    · refine j_exit (Sum.inr (v0, v1, s15.1, s4.2)) ?_
      try dsimp only
      refine j_iinc (y := s4.2 + 1) (L' := [(3, .int (s4.2 + 1)), (0, .ref v0), (1, .int v1), (2, .int s15.1), (4, .int s15.2)]) 3 dX7_restingAt_59 rfl rfl (Nat.le_of_ble_eq_true rfl) rfl ?_
      refine j_goto (tgt := 4) dX7_restingAt_62 (by decide) ?_
      refine j_pick [1, 2, 3, 0] rfl ?_
      exact j_again (s15.1, s4.2 + 1) rfl rfl
    · refine j_aload_n 0 dX7_restingAt_24 rfl rfl ?_
      refine j_iload_n 3 dX7_restingAt_25 rfl rfl ?_
      refine j_iload 4 dX7_restingAt_26 rfl ?_
      refine j_callV (as := [.int s4.2, .int s15.2]) (fun x => some (.int x)) (fun _ => h) 7 4 dX7_restingAt_28 ml_RX7_67 tg_X7_rests im_X7_rests se_X7_rests rfl (by decide) (fun x hx => kX7_rests κ.1 κ.2.1 v0 s4.2 s15.2 h x hx) (by decide) (by decide) rfl rfl (Nat.le_of_ble_eq_true rfl) (fun x5 => ?_)
      show xJ iX7_restingAt κ _ 31 [(0, .ref v0), (1, .int v1), (2, .int s15.1), (3, .int s4.2), (4, .int s15.2)] [.int x5] h _
      refine j_if_ne (tgt := 37) dX7_restingAt_31 (by decide) (fun c6 => ?_) (fun c6 => ?_)
      · refine j_goto (tgt := 53) dX7_restingAt_34 (by decide) ?_
        refine j_pick [0, 1, 2, 3, 4] rfl ?_
        exact hj53 (s15.1, s15.2)
      · refine j_iload_n 2 dX7_restingAt_37 rfl rfl ?_
        refine j_iload_n 1 dX7_restingAt_38 rfl rfl ?_
        refine j_icmp_ne (tgt := 50) dX7_restingAt_39 (by decide) (fun c7 => ?_) (fun c7 => ?_)
        · refine j_exit (Sum.inl (s4.2, s15.2)) ?_
          try dsimp only
          refine j_exit (Sum.inl (s4.2, s15.2)) ?_
          try dsimp only
          refine j_bipush (x := 10) dX7_restingAt_42 (by decide) ?_
          refine j_iload_n 3 dX7_restingAt_44 rfl rfl ?_
          refine j_imul dX7_restingAt_45 ?_
          refine j_iload 4 dX7_restingAt_46 rfl ?_
          refine j_iadd dX7_restingAt_48 ?_
          exact j_iret ((10 * s4.2) + s15.2) dX7_restingAt_49 rfl (fun q => q)
        · refine j_iinc (y := s15.1 + 1) (L' := [(2, .int (s15.1 + 1)), (0, .ref v0), (1, .int v1), (3, .int s4.2), (4, .int s15.2)]) 2 dX7_restingAt_50 rfl rfl (Nat.le_of_ble_eq_true rfl) rfl ?_
          refine j_pick [1, 2, 0, 3, 4] rfl ?_
          exact hj53 (s15.1 + 1, s15.2)
def fX8_two_j17 (v0 : Nat) (h : Hp) : Option (Int32 × Hp) :=
  (xat h v0 (8, 12) (fX8_refuseOtherBad v0 h)).bind fun q1 => some (q1.1, q1.2)
def fX8_two (v0 : Nat) (v1 : Int32) (v2 : Int32) (v3 : Int32) (h : Hp) : Option (Int32 × Hp) :=
  (xgR h v0 (8, 12) 0).bind fun x2 => (xat h x2 (0, 16) (fX0_hasTwo x2 v1 v2 h)).bind fun x3 => if (x3 : Int32) = 0 then (fX8_two_j17 v0 h) else (if ((-1) : Int32) ≤ v3 then ((xgR h v0 (8, 12) 6).bind fun x6 => (xgR h v0 (8, 12) 0).bind fun x7 => (xgR h v0 (8, 12) 3).bind fun x8 => (xat h x6 (7, 4) (fX7_play x6 x7 x8 v1 v2 h)).bind fun h9 => if (v3 : Int32) = (-1) then ((xgR h9 v0 (8, 12) 6).bind fun x11 => (xat h9 x11 (7, 4) (fX7_resting x11 h9)).bind fun x12 => some (x12, h9)) else ((xgR h9 v0 (8, 12) 6).bind fun x13 => (xat h9 x13 (7, 4) (fX7_restingAt x13 v3 h9)).bind fun x14 => some (x14, h9))) else (fX8_two_j17 v0 h))
abbrev iX8_two : xI := (cX8_two, yX8_two.cls, yX8_two.name, some .int, 4, 7)
set_option maxHeartbeats 4000000 in
set_option maxRecDepth 100000 in
theorem kX8_two (l : Launch) (η : xEnv) (v0 : Nat) (v1 : Int32) (v2 : Int32) (v3 : Int32) (h : Hp) (x : Int32 × Hp) (hx : fX8_two v0 v1 v2 v3 h = some x) : xC l η yX8_two cX8_two 4 (some .int) 7 [.ref v0, .int v1, .int v2, .int v3] h (some (.int x.1)) x.2 := by
  refine xC_of (by decide) (Nat.le_of_ble_eq_true rfl) hx (fun κ x => κ.2.2.2.1 = some (.int x.1) ∧ κ.2.2.2.2 = x.2) ⟨rfl, rfl⟩ (fun κ => ?_)
  show xJ iX8_two κ _ 0 [(0, .ref v0), (1, .int v1), (2, .int v2), (3, .int v3)] [] h (fX8_two v0 v1 v2 v3 h)
  unfold fX8_two
  refine j_have (pj := 17) (Lf := fun v : Hp => [(0, .ref v0)]) (Sf := fun v : Hp => []) (Hf := fun v : Hp => v) (jf := fun v : Hp => fX8_two_j17 v0 v) (fun v => ?_) (fun hj17 => ?_)
  · generalize v = h
    show xJ iX8_two κ _ 17 [(0, .ref v0)] [] h (fX8_two_j17 v0 h)
    unfold fX8_two_j17
    refine j_aload_n 0 dX8_two_17 rfl rfl ?_
    refine j_callV (as := []) (fun x => some (.int x.1)) (fun x => x.2) 8 12 dX8_two_18 ml_RX8_211 tg_X8_refuseOtherBad im_X8_refuseOtherBad se_X8_refuseOtherBad rfl (by decide) (fun x hx => kX8_refuseOtherBad κ.1 κ.2.1 v0 h x hx) (by decide) (by decide) rfl rfl (Nat.le_of_ble_eq_true rfl) (fun q1 => ?_)
    show xJ iX8_two κ _ 21 [(0, .ref v0)] [.int q1.1] q1.2 _
    exact j_iret (q1.1, q1.2) dX8_two_21 rfl (fun q => q)
  refine j_aload_n 0 dX8_two_0 rfl rfl ?_
  refine j_getR 8 12 0 dX8_two_1 fl_RX8_12 (by decide) rfl (by decide) (fun _ _ _ => rfl) (fun x2 => ?_)
  refine j_iload_n 1 dX8_two_4 rfl rfl ?_
  refine j_iload_n 2 dX8_two_5 rfl rfl ?_
  refine j_callV (as := [.int v1, .int v2]) (fun x => some (.int x)) (fun _ => h) 0 16 dX8_two_6 ml_RX8_98 tg_X0_hasTwo im_X0_hasTwo se_X0_hasTwo rfl (by decide) (fun x hx => kX0_hasTwo κ.1 κ.2.1 x2 v1 v2 h x hx) (by decide) (by decide) rfl rfl (Nat.le_of_ble_eq_true rfl) (fun x3 => ?_)
  show xJ iX8_two κ _ 9 [(0, .ref v0), (1, .int v1), (2, .int v2), (3, .int v3)] [.int x3] h _
  refine j_if_eq (tgt := 17) dX8_two_9 (by decide) (fun c4 => ?_) (fun c4 => ?_)
  · refine j_pick [0] rfl ?_
    exact hj17 h
  · refine j_iload_n 3 dX8_two_12 rfl rfl ?_
    refine j_iconst (x := (-1)) dX8_two_13 (by decide) ?_
    refine j_icmp_ge (tgt := 22) dX8_two_14 (by decide) (fun c5 => ?_) (fun c5 => ?_)
    · refine j_aload_n 0 dX8_two_22 rfl rfl ?_
      refine j_getR 8 12 6 dX8_two_23 fl_RX8_48 (by decide) rfl (by decide) (fun _ _ _ => rfl) (fun x6 => ?_)
      refine j_aload_n 0 dX8_two_26 rfl rfl ?_
      refine j_getR 8 12 0 dX8_two_27 fl_RX8_12 (by decide) rfl (by decide) (fun _ _ _ => rfl) (fun x7 => ?_)
      refine j_aload_n 0 dX8_two_30 rfl rfl ?_
      refine j_getR 8 12 3 dX8_two_31 fl_RX8_27 (by decide) rfl (by decide) (fun _ _ _ => rfl) (fun x8 => ?_)
      refine j_iload_n 1 dX8_two_34 rfl rfl ?_
      refine j_iload_n 2 dX8_two_35 rfl rfl ?_
      refine j_callV (as := [.ref x7, .ref x8, .int v1, .int v2]) (fun _ => none) (fun x => x) 7 4 dX8_two_36 ml_RX8_256 tg_X7_play im_X7_play se_X7_play rfl (by decide) (fun x hx => kX7_play κ.1 κ.2.1 x6 x7 x8 v1 v2 h x hx) (by decide) (by decide) rfl rfl (Nat.le_of_ble_eq_true rfl) (fun h9 => ?_)
      show xJ iX8_two κ _ 39 [(0, .ref v0), (1, .int v1), (2, .int v2), (3, .int v3)] [] h9 _
      refine j_iload_n 3 dX8_two_39 rfl rfl ?_
      refine j_iconst (x := (-1)) dX8_two_40 (by decide) ?_
      refine j_icmp_ne (tgt := 52) dX8_two_41 (by decide) (fun c10 => ?_) (fun c10 => ?_)
      · refine j_aload_n 0 dX8_two_44 rfl rfl ?_
        refine j_getR 8 12 6 dX8_two_45 fl_RX8_48 (by decide) rfl (by decide) (fun _ _ _ => rfl) (fun x11 => ?_)
        refine j_callV (as := []) (fun x => some (.int x)) (fun _ => h9) 7 4 dX8_two_48 ml_RX8_260 tg_X7_resting im_X7_resting se_X7_resting rfl (by decide) (fun x hx => kX7_resting κ.1 κ.2.1 x11 h9 x hx) (by decide) (by decide) rfl rfl (Nat.le_of_ble_eq_true rfl) (fun x12 => ?_)
        show xJ iX8_two κ _ 51 [(0, .ref v0), (1, .int v1), (2, .int v2), (3, .int v3)] [.int x12] h9 _
        exact j_iret (x12, h9) dX8_two_51 rfl (fun q => q)
      · refine j_aload_n 0 dX8_two_52 rfl rfl ?_
        refine j_getR 8 12 6 dX8_two_53 fl_RX8_48 (by decide) rfl (by decide) (fun _ _ _ => rfl) (fun x13 => ?_)
        refine j_iload_n 3 dX8_two_56 rfl rfl ?_
        refine j_callV (as := [.int v3]) (fun x => some (.int x)) (fun _ => h9) 7 4 dX8_two_57 ml_RX8_263 tg_X7_restingAt im_X7_restingAt se_X7_restingAt rfl (by decide) (fun x hx => kX7_restingAt κ.1 κ.2.1 x13 v3 h9 x hx) (by decide) (by decide) rfl rfl (Nat.le_of_ble_eq_true rfl) (fun x14 => ?_)
        show xJ iX8_two κ _ 60 [(0, .ref v0), (1, .int v1), (2, .int v2), (3, .int v3)] [.int x14] h9 _
        exact j_iret (x14, h9) dX8_two_60 rfl (fun q => q)
    · refine j_pick [0] rfl ?_
      exact hj17 h
def fX9_isPair_j37 (t0 : Int32) (h : Hp) : Option (Int32) :=
  if vp_nar .boolean t0 = t0 then some t0 else none
def fX9_isPair_j36  (h : Hp) : Option (Int32) :=
  fX9_isPair_j37 0 h
def fX9_isPair (v0 : Nat) (v1 : Int32) (v2 : Int32) (v3 : Int32) (h : Hp) : Option (Int32) :=
  if (10 : Int32) = 0 then none else (xgR h v0 (9, 18) 0).bind fun x2 => (xaI h x2 10 (40 + v1)).bind fun x3 => if (x3 : Int32) ≤ (v3 / 10) then (fX9_isPair_j36 h) else (if (10 : Int32) = 0 then none else (xgR h v0 (9, 18) 0).bind fun x6 => (xaI h x6 10 (40 + v2)).bind fun x7 => if (x7 : Int32) ≤ (v3 - v3 / 10 * 10) then (fX9_isPair_j36 h) else (fX9_isPair_j37 1 h))
abbrev iX9_isPair : xI := (cX9_isPair, yX9_isPair.cls, yX9_isPair.name, some .boolean, 4, 2)
set_option maxHeartbeats 4000000 in
set_option maxRecDepth 100000 in
theorem kX9_isPair (l : Launch) (η : xEnv) (v0 : Nat) (v1 : Int32) (v2 : Int32) (v3 : Int32) (h : Hp) (x : Int32) (hx : fX9_isPair v0 v1 v2 v3 h = some x) : xC l η yX9_isPair cX9_isPair 4 (some .boolean) 2 [.ref v0, .int v1, .int v2, .int v3] h (some (.int x)) h := by
  refine xC_of (by decide) (Nat.le_of_ble_eq_true rfl) hx (fun κ x => κ.2.2.2.1 = some (.int x) ∧ κ.2.2.2.2 = h) ⟨rfl, rfl⟩ (fun κ => ?_)
  show xJ iX9_isPair κ _ 0 [(0, .ref v0), (1, .int v1), (2, .int v2), (3, .int v3)] [] h (fX9_isPair v0 v1 v2 v3 h)
  unfold fX9_isPair
  refine j_have (pj := 37) (Lf := fun v : Int32 => []) (Sf := fun v : Int32 => [.int v]) (Hf := fun v : Int32 => h) (jf := fun v : Int32 => fX9_isPair_j37 v h) (fun v => ?_) (fun hj37 => ?_)
  · generalize v = t0
    show xJ iX9_isPair κ _ 37 [] [.int t0] h (fX9_isPair_j37 t0 h)
    unfold fX9_isPair_j37
    exact j_zretc t0 dX9_isPair_37 rfl (fun q => q)
  refine j_have (pj := 36) (Lf := fun v : Unit => []) (Sf := fun v : Unit => []) (Hf := fun v : Unit => h) (jf := fun v : Unit => fX9_isPair_j36 h) (fun v => ?_) (fun hj36 => ?_)
  · skip
    show xJ iX9_isPair κ _ 36 [] [] h (fX9_isPair_j36 h)
    unfold fX9_isPair_j36
    refine j_iconst (x := 0) dX9_isPair_36 (by decide) ?_
    refine j_pick [] rfl ?_
    exact hj37 0
  refine j_iload_n 3 dX9_isPair_0 rfl rfl ?_
  refine j_bipush (x := 10) dX9_isPair_1 (by decide) ?_
  refine j_idiv dX9_isPair_3 (fun c1 => ?_)
  refine j_aload_n 0 dX9_isPair_4 rfl rfl ?_
  refine j_getR 9 18 0 dX9_isPair_5 fl_RX9_7 (by decide) rfl (by decide) (fun _ _ _ => rfl) (fun x2 => ?_)
  refine j_bipush (x := 40) dX9_isPair_8 (by decide) ?_
  refine j_iload_n 1 dX9_isPair_10 rfl rfl ?_
  refine j_iadd dX9_isPair_11 ?_
  refine j_iald dX9_isPair_12 (fun x3 => ?_)
  refine j_icmp_ge (tgt := 36) dX9_isPair_13 (by decide) (fun c4 => ?_) (fun c4 => ?_)
  · refine j_pick [] rfl ?_
    exact hj36 ()
  · refine j_iload_n 3 dX9_isPair_16 rfl rfl ?_
    refine j_bipush (x := 10) dX9_isPair_17 (by decide) ?_
    refine j_irem dX9_isPair_19 (fun c5 => ?_)
    refine j_aload_n 0 dX9_isPair_20 rfl rfl ?_
    refine j_getR 9 18 0 dX9_isPair_21 fl_RX9_7 (by decide) rfl (by decide) (fun _ _ _ => rfl) (fun x6 => ?_)
    refine j_bipush (x := 40) dX9_isPair_24 (by decide) ?_
    refine j_iload_n 2 dX9_isPair_26 rfl rfl ?_
    refine j_iadd dX9_isPair_27 ?_
    refine j_iald dX9_isPair_28 (fun x7 => ?_)
    refine j_icmp_ge (tgt := 36) dX9_isPair_29 (by decide) (fun c8 => ?_) (fun c8 => ?_)
    · refine j_pick [] rfl ?_
      exact hj36 ()
    · refine j_iconst (x := 1) dX9_isPair_32 (by decide) ?_
      refine j_goto (tgt := 37) dX9_isPair_33 (by decide) ?_
      refine j_pick [] rfl ?_
      exact hj37 1
def fX9_layPair_b44 (v0 : Nat) (v1 : Int32) (v2 : Int32) (v3 : Int32) (s44 : Hp) : Option ((Hp) ⊕ ((Hp))) :=
  (xgR s44 v0 (9, 18) 6).bind fun x12 => (xaI s44 x12 10 3).bind fun x13 => if (10 : Int32) ≤ x13 then (some (Sum.inr s44)) else ((xat s44 v0 (9, 18) (fX9_goStop v0 s44)).bind fun h15 => (xgR h15 v0 (9, 18) 8).bind fun x16 => (xaI h15 x16 10 v3).bind fun x17 => (xgR h15 v0 (9, 18) 6).bind fun x18 => (xaI h15 x18 10 4).bind fun x19 => (xsI h15 x16 v3 (x17 + ((x19 >>> (v1 &&& 31)) &&& 1))).bind fun h20 => (xgR h20 v0 (9, 18) 9).bind fun x21 => (xaI h20 x21 10 v3).bind fun x22 => (xgR h20 v0 (9, 18) 6).bind fun x23 => (xaI h20 x23 10 4).bind fun x24 => (xsI h20 x21 v3 (x22 + ((x24 >>> (v2 &&& 31)) &&& 1))).bind fun h25 => some (Sum.inl h25))
def fX9_layPair (v0 : Nat) (v1 : Int32) (v2 : Int32) (v3 : Int32) (h : Hp) : Option (Hp) :=
  (xat h v0 (9, 18) (fX9_layStart v0 h)).bind fun h1 => (xgR h1 v0 (9, 18) 6).bind fun x2 => if (10 : Int32) = 0 then none else (xsI h1 x2 (33 + v1) (v3 / 10)).bind fun h4 => (xgR h4 v0 (9, 18) 6).bind fun x5 => if (10 : Int32) = 0 then none else (xsI h4 x5 (33 + v2) (v3 - v3 / 10 * 10)).bind fun h7 => (xgR h7 v0 (9, 18) 8).bind fun x8 => (xsI h7 x8 v3 0).bind fun h9 => (xgR h9 v0 (9, 18) 9).bind fun x10 => (xsI h9 x10 v3 0).bind fun h11 => (xloop (fX9_layPair_b44 v0 v1 v2 v3) 1000000 h11).bind (fun r44 => some r44)
abbrev iX9_layPair : xI := (cX9_layPair, yX9_layPair.cls, yX9_layPair.name, none, 4, 6)
set_option maxHeartbeats 4000000 in
set_option maxRecDepth 100000 in
theorem kX9_layPair (l : Launch) (η : xEnv) (v0 : Nat) (v1 : Int32) (v2 : Int32) (v3 : Int32) (h : Hp) (x : Hp) (hx : fX9_layPair v0 v1 v2 v3 h = some x) : xC l η yX9_layPair cX9_layPair 4 none 6 [.ref v0, .int v1, .int v2, .int v3] h none x := by
  refine xC_of (by decide) (Nat.le_of_ble_eq_true rfl) hx (fun κ x => κ.2.2.2.1 = none ∧ κ.2.2.2.2 = x) ⟨rfl, rfl⟩ (fun κ => ?_)
  show xJ iX9_layPair κ _ 0 [(0, .ref v0), (1, .int v1), (2, .int v2), (3, .int v3)] [] h (fX9_layPair v0 v1 v2 v3 h)
  unfold fX9_layPair
  refine j_aload_n 0 dX9_layPair_0 rfl rfl ?_
  refine j_callV (as := []) (fun _ => none) (fun x => x) 9 18 dX9_layPair_1 ml_RX9_141 tg_X9_layStart im_X9_layStart se_X9_layStart rfl (by decide) (fun x hx => kX9_layStart κ.1 κ.2.1 v0 h x hx) (by decide) (by decide) rfl rfl (Nat.le_of_ble_eq_true rfl) (fun h1 => ?_)
  show xJ iX9_layPair κ _ 4 [(0, .ref v0), (1, .int v1), (2, .int v2), (3, .int v3)] [] h1 _
  refine j_aload_n 0 dX9_layPair_4 rfl rfl ?_
  refine j_getR 9 18 6 dX9_layPair_5 fl_RX9_27 (by decide) rfl (by decide) (fun _ _ _ => rfl) (fun x2 => ?_)
  refine j_bipush (x := 33) dX9_layPair_8 (by decide) ?_
  refine j_iload_n 1 dX9_layPair_10 rfl rfl ?_
  refine j_iadd dX9_layPair_11 ?_
  refine j_iload_n 3 dX9_layPair_12 rfl rfl ?_
  refine j_bipush (x := 10) dX9_layPair_13 (by decide) ?_
  refine j_idiv dX9_layPair_15 (fun c3 => ?_)
  refine j_iast dX9_layPair_16 (fun h4 => ?_)
  refine j_aload_n 0 dX9_layPair_17 rfl rfl ?_
  refine j_getR 9 18 6 dX9_layPair_18 fl_RX9_27 (by decide) rfl (by decide) (fun _ _ _ => rfl) (fun x5 => ?_)
  refine j_bipush (x := 33) dX9_layPair_21 (by decide) ?_
  refine j_iload_n 2 dX9_layPair_23 rfl rfl ?_
  refine j_iadd dX9_layPair_24 ?_
  refine j_iload_n 3 dX9_layPair_25 rfl rfl ?_
  refine j_bipush (x := 10) dX9_layPair_26 (by decide) ?_
  refine j_irem dX9_layPair_28 (fun c6 => ?_)
  refine j_iast dX9_layPair_29 (fun h7 => ?_)
  refine j_aload_n 0 dX9_layPair_30 rfl rfl ?_
  refine j_getR 9 18 8 dX9_layPair_31 fl_RX9_33 (by decide) rfl (by decide) (fun _ _ _ => rfl) (fun x8 => ?_)
  refine j_iload_n 3 dX9_layPair_34 rfl rfl ?_
  refine j_iconst (x := 0) dX9_layPair_35 (by decide) ?_
  refine j_iast dX9_layPair_36 (fun h9 => ?_)
  refine j_aload_n 0 dX9_layPair_37 rfl rfl ?_
  refine j_getR 9 18 9 dX9_layPair_38 fl_RX9_36 (by decide) rfl (by decide) (fun _ _ _ => rfl) (fun x10 => ?_)
  refine j_iload_n 3 dX9_layPair_41 rfl rfl ?_
  refine j_iconst (x := 0) dX9_layPair_42 (by decide) ?_
  refine j_iast dX9_layPair_43 (fun h11 => ?_)
  refine j_pick [0, 1, 2, 3] rfl ?_
  refine j_loop (pc := 44) (Lf := fun s44 : Hp => [(0, .ref v0), (1, .int v1), (2, .int v2), (3, .int v3)]) (Hf := fun s44 : Hp => s44) (fun s44 => ?_) 1000000 h11
  show xJ iX9_layPair κ _ 44 [(0, .ref v0), (1, .int v1), (2, .int v2), (3, .int v3)] [] s44 (fX9_layPair_b44 v0 v1 v2 v3 s44)
  unfold fX9_layPair_b44
  refine j_aload_n 0 dX9_layPair_44 rfl rfl ?_
  refine j_getR 9 18 6 dX9_layPair_45 fl_RX9_27 (by decide) rfl (by decide) (fun _ _ _ => rfl) (fun x12 => ?_)
  refine j_iconst (x := 3) dX9_layPair_48 (by decide) ?_
  refine j_iald dX9_layPair_49 (fun x13 => ?_)
  refine j_bipush (x := 10) dX9_layPair_50 (by decide) ?_
  refine j_icmp_ge (tgt := 100) dX9_layPair_52 (by decide) (fun c14 => ?_) (fun c14 => ?_)
  · refine j_exit s44 ?_
    show xJ iX9_layPair κ _ _ _ _ _ (some s44)
    exact j_vret s44 dX9_layPair_100 rfl (fun q => q)
  · refine j_aload_n 0 dX9_layPair_55 rfl rfl ?_
    refine j_callV (as := []) (fun _ => none) (fun x => x) 9 18 dX9_layPair_56 ml_RX9_114 tg_X9_goStop im_X9_goStop se_X9_goStop rfl (by decide) (fun x hx => kX9_goStop κ.1 κ.2.1 v0 s44 x hx) (by decide) (by decide) rfl rfl (Nat.le_of_ble_eq_true rfl) (fun h15 => ?_)
    show xJ iX9_layPair κ _ 59 [(0, .ref v0), (1, .int v1), (2, .int v2), (3, .int v3)] [] h15 _
    refine j_aload_n 0 dX9_layPair_59 rfl rfl ?_
    refine j_getR 9 18 8 dX9_layPair_60 fl_RX9_33 (by decide) rfl (by decide) (fun _ _ _ => rfl) (fun x16 => ?_)
    refine j_iload_n 3 dX9_layPair_63 rfl rfl ?_
    refine j_dup2 dX9_layPair_64 rfl rfl ?_
    refine j_iald dX9_layPair_65 (fun x17 => ?_)
    refine j_aload_n 0 dX9_layPair_66 rfl rfl ?_
    refine j_getR 9 18 6 dX9_layPair_67 fl_RX9_27 (by decide) rfl (by decide) (fun _ _ _ => rfl) (fun x18 => ?_)
    refine j_iconst (x := 4) dX9_layPair_70 (by decide) ?_
    refine j_iald dX9_layPair_71 (fun x19 => ?_)
    refine j_iload_n 1 dX9_layPair_72 rfl rfl ?_
    refine j_ishr dX9_layPair_73 ?_
    refine j_iconst (x := 1) dX9_layPair_74 (by decide) ?_
    refine j_iand dX9_layPair_75 ?_
    refine j_iadd dX9_layPair_76 ?_
    refine j_iast dX9_layPair_77 (fun h20 => ?_)
    refine j_aload_n 0 dX9_layPair_78 rfl rfl ?_
    refine j_getR 9 18 9 dX9_layPair_79 fl_RX9_36 (by decide) rfl (by decide) (fun _ _ _ => rfl) (fun x21 => ?_)
    refine j_iload_n 3 dX9_layPair_82 rfl rfl ?_
    refine j_dup2 dX9_layPair_83 rfl rfl ?_
    refine j_iald dX9_layPair_84 (fun x22 => ?_)
    refine j_aload_n 0 dX9_layPair_85 rfl rfl ?_
    refine j_getR 9 18 6 dX9_layPair_86 fl_RX9_27 (by decide) rfl (by decide) (fun _ _ _ => rfl) (fun x23 => ?_)
    refine j_iconst (x := 4) dX9_layPair_89 (by decide) ?_
    refine j_iald dX9_layPair_90 (fun x24 => ?_)
    refine j_iload_n 2 dX9_layPair_91 rfl rfl ?_
    refine j_ishr dX9_layPair_92 ?_
    refine j_iconst (x := 1) dX9_layPair_93 (by decide) ?_
    refine j_iand dX9_layPair_94 ?_
    refine j_iadd dX9_layPair_95 ?_
    refine j_iast dX9_layPair_96 (fun h25 => ?_)
    refine j_goto (tgt := 44) dX9_layPair_97 (by decide) ?_
    refine j_pick [0, 1, 2, 3] rfl ?_
    exact j_again h25 rfl rfl
def fX9_rests_j54 (v0 : Nat) (v1 : Int32) (v2 : Int32) (v3 : Int32) (v5 : Int32) (t0 : Int32) (h : Hp) : Option ((Int32 × Int32) ⊕ ((Nat × Int32 × Int32 × Int32))) :=
  some (Sum.inl (t0, v5 + 1))
def fX9_rests_j53 (v0 : Nat) (v1 : Int32) (v2 : Int32) (v3 : Int32) (v5 : Int32) (h : Hp) : Option ((Int32 × Int32) ⊕ ((Nat × Int32 × Int32 × Int32))) :=
  fX9_rests_j54 v0 v1 v2 v3 v5 0 h
def fX9_rests_j113 (v0 : Nat) (v2 : Int32) (v3 : Int32) (v5 : Int32) (t0 : Int32) (h : Hp) : Option ((Int32 × Int32) ⊕ ((Int32))) :=
  some (Sum.inl (t0, v5 + 1))
def fX9_rests_j112 (v0 : Nat) (v2 : Int32) (v3 : Int32) (v5 : Int32) (h : Hp) : Option ((Int32 × Int32) ⊕ ((Int32))) :=
  fX9_rests_j113 v0 v2 v3 v5 0 h
def fX9_rests_b65 (v0 : Nat) (v2 : Int32) (v3 : Int32) (h : Hp) (s65 : Int32 × Int32) : Option ((Int32 × Int32) ⊕ ((Int32))) :=
  (xgR h v0 (9, 18) 0).bind fun x4 => (xaI h x4 10 (40 + v2)).bind fun x5 => if (x5 : Int32) ≤ s65.2 then (some (Sum.inr s65.1)) else (if (s65.1 : Int32) = 0 then (fX9_rests_j112 v0 v2 v3 s65.2 h) else ((xgR h v0 (9, 18) 9).bind fun x8 => if (10 : Int32) = 0 then none else (xaI h x8 10 (((v3 / 10) * 10) + s65.2)).bind fun x10 => (xgR h v0 (9, 18) 9).bind fun x11 => (xaI h x11 10 v3).bind fun x12 => if (x12 : Int32) < x10 then (fX9_rests_j112 v0 v2 v3 s65.2 h) else (fX9_rests_j113 v0 v2 v3 s65.2 1 h)))
def fX9_rests_b6 (v0 : Nat) (v1 : Int32) (v2 : Int32) (v3 : Int32) (h : Hp) (s6 : Int32 × Int32) : Option ((Int32 × Int32) ⊕ ((Nat × Int32 × Int32 × Int32))) :=
  (xgR h v0 (9, 18) 0).bind fun x1 => (xaI h x1 10 (40 + v1)).bind fun x2 => if (x2 : Int32) ≤ s6.2 then (some (Sum.inr (v0, v2, v3, s6.1))) else (if (s6.1 : Int32) = 0 then (fX9_rests_j53 v0 v1 v2 v3 s6.2 h) else ((xgR h v0 (9, 18) 8).bind fun x15 => if (10 : Int32) = 0 then none else (xaI h x15 10 ((10 * s6.2) + (v3 - v3 / 10 * 10))).bind fun x17 => (xgR h v0 (9, 18) 8).bind fun x18 => (xaI h x18 10 v3).bind fun x19 => if (x19 : Int32) < x17 then (fX9_rests_j53 v0 v1 v2 v3 s6.2 h) else (fX9_rests_j54 v0 v1 v2 v3 s6.2 1 h)))
def fX9_rests (v0 : Nat) (v1 : Int32) (v2 : Int32) (v3 : Int32) (h : Hp) : Option (Int32) :=
  (xloop (fX9_rests_b6 v0 v1 v2 v3 h) 1000000 (1, 0)).bind (fun r6 => (xloop (fX9_rests_b65 r6.1 r6.2.1 r6.2.2.1 h) 1000000 (r6.2.2.2, 0)).bind (fun r65 => if vp_nar .boolean r65 = r65 then some r65 else none))
abbrev iX9_rests : xI := (cX9_rests, yX9_rests.cls, yX9_rests.name, some .boolean, 6, 2)
set_option maxHeartbeats 4000000 in
set_option maxRecDepth 100000 in
theorem kX9_rests (l : Launch) (η : xEnv) (v0 : Nat) (v1 : Int32) (v2 : Int32) (v3 : Int32) (h : Hp) (x : Int32) (hx : fX9_rests v0 v1 v2 v3 h = some x) : xC l η yX9_rests cX9_rests 6 (some .boolean) 2 [.ref v0, .int v1, .int v2, .int v3] h (some (.int x)) h := by
  refine xC_of (by decide) (Nat.le_of_ble_eq_true rfl) hx (fun κ x => κ.2.2.2.1 = some (.int x) ∧ κ.2.2.2.2 = h) ⟨rfl, rfl⟩ (fun κ => ?_)
  show xJ iX9_rests κ _ 0 [(0, .ref v0), (1, .int v1), (2, .int v2), (3, .int v3)] [] h (fX9_rests v0 v1 v2 v3 h)
  unfold fX9_rests
  refine j_iconst (x := 1) dX9_rests_0 (by decide) ?_
  refine j_istore (L' := [(4, .int 1), (0, .ref v0), (1, .int v1), (2, .int v2), (3, .int v3)]) dX9_rests_1 (Nat.le_of_ble_eq_true rfl) rfl ?_
  refine j_iconst (x := 0) dX9_rests_3 (by decide) ?_
  refine j_istore (L' := [(5, .int 0), (4, .int 1), (0, .ref v0), (1, .int v1), (2, .int v2), (3, .int v3)]) dX9_rests_4 (Nat.le_of_ble_eq_true rfl) rfl ?_
  refine j_pick [2, 3, 4, 5, 1, 0] rfl ?_
  refine j_loop (pc := 6) (Lf := fun s6 : Int32 × Int32 => [(0, .ref v0), (1, .int v1), (2, .int v2), (3, .int v3), (4, .int s6.1), (5, .int s6.2)]) (Hf := fun s6 : Int32 × Int32 => h) (fun s6 => ?_) 1000000 (1, 0)
  show xJ iX9_rests κ _ 6 [(0, .ref v0), (1, .int v1), (2, .int v2), (3, .int v3), (4, .int s6.1), (5, .int s6.2)] [] h (fX9_rests_b6 v0 v1 v2 v3 h s6)
  unfold fX9_rests_b6
  refine j_have (pj := 54) (Lf := fun v : Int32 × Int32 => [(0, .ref v0), (1, .int v1), (2, .int v2), (3, .int v3), (5, .int v.1)]) (Sf := fun v : Int32 × Int32 => [.int v.2]) (Hf := fun v : Int32 × Int32 => h) (jf := fun v : Int32 × Int32 => fX9_rests_j54 v0 v1 v2 v3 v.1 v.2 h) (fun v => ?_) (fun hj54 => ?_)
  · obtain ⟨v5, t0⟩ := v
    show xJ iX9_rests κ _ 54 [(0, .ref v0), (1, .int v1), (2, .int v2), (3, .int v3), (5, .int v5)] [.int t0] h (fX9_rests_j54 v0 v1 v2 v3 v5 t0 h)
    unfold fX9_rests_j54
    refine j_istore (L' := [(4, .int t0), (0, .ref v0), (1, .int v1), (2, .int v2), (3, .int v3), (5, .int v5)]) dX9_rests_54 (Nat.le_of_ble_eq_true rfl) rfl ?_
    refine j_iinc (y := v5 + 1) (L' := [(5, .int (v5 + 1)), (4, .int t0), (0, .ref v0), (1, .int v1), (2, .int v2), (3, .int v3)]) 5 dX9_rests_56 rfl rfl (Nat.le_of_ble_eq_true rfl) rfl ?_
    refine j_goto (tgt := 6) dX9_rests_59 (by decide) ?_
    refine j_pick [2, 3, 4, 5, 1, 0] rfl ?_
    exact j_again (t0, v5 + 1) rfl rfl
  refine j_have (pj := 53) (Lf := fun v : Int32 => [(0, .ref v0), (1, .int v1), (2, .int v2), (3, .int v3), (5, .int v)]) (Sf := fun v : Int32 => []) (Hf := fun v : Int32 => h) (jf := fun v : Int32 => fX9_rests_j53 v0 v1 v2 v3 v h) (fun v => ?_) (fun hj53 => ?_)
  · generalize v = v5
    show xJ iX9_rests κ _ 53 [(0, .ref v0), (1, .int v1), (2, .int v2), (3, .int v3), (5, .int v5)] [] h (fX9_rests_j53 v0 v1 v2 v3 v5 h)
    unfold fX9_rests_j53
    refine j_iconst (x := 0) dX9_rests_53 (by decide) ?_
    refine j_pick [0, 1, 2, 3, 4] rfl ?_
    exact hj54 (v5, 0)
  refine j_iload 5 dX9_rests_6 rfl ?_
  refine j_aload_n 0 dX9_rests_8 rfl rfl ?_
  refine j_getR 9 18 0 dX9_rests_9 fl_RX9_7 (by decide) rfl (by decide) (fun _ _ _ => rfl) (fun x1 => ?_)
  refine j_bipush (x := 40) dX9_rests_12 (by decide) ?_
  refine j_iload_n 1 dX9_rests_14 rfl rfl ?_
  refine j_iadd dX9_rests_15 ?_
  refine j_iald dX9_rests_16 (fun x2 => ?_)
  refine j_icmp_ge (tgt := 62) dX9_rests_17 (by decide) (fun c3 => ?_) (fun c3 => ?_)
  · refine j_exit (v0, v2, v3, s6.1) ?_
    show xJ iX9_rests κ _ _ _ _ _ ((xloop (fX9_rests_b65 v0 v2 v3 h) 1000000 (s6.1, 0)).bind (fun r65 => if vp_nar .boolean r65 = r65 then some r65 else none))
    refine j_iconst (x := 0) dX9_rests_62 (by decide) ?_
    refine j_istore (L' := [(5, .int 0), (0, .ref v0), (1, .int v1), (2, .int v2), (3, .int v3), (4, .int s6.1)]) dX9_rests_63 (Nat.le_of_ble_eq_true rfl) rfl ?_
    refine j_pick [1, 3, 4, 5, 0] rfl ?_
    refine j_loop (pc := 65) (Lf := fun s65 : Int32 × Int32 => [(0, .ref v0), (2, .int v2), (3, .int v3), (4, .int s65.1), (5, .int s65.2)]) (Hf := fun s65 : Int32 × Int32 => h) (fun s65 => ?_) 1000000 (s6.1, 0)
    show xJ iX9_rests κ _ 65 [(0, .ref v0), (2, .int v2), (3, .int v3), (4, .int s65.1), (5, .int s65.2)] [] h (fX9_rests_b65 v0 v2 v3 h s65)
    unfold fX9_rests_b65
    refine j_have (pj := 113) (Lf := fun v : Int32 × Int32 => [(0, .ref v0), (2, .int v2), (3, .int v3), (5, .int v.1)]) (Sf := fun v : Int32 × Int32 => [.int v.2]) (Hf := fun v : Int32 × Int32 => h) (jf := fun v : Int32 × Int32 => fX9_rests_j113 v0 v2 v3 v.1 v.2 h) (fun v => ?_) (fun hj113 => ?_)
    · obtain ⟨v5, t0⟩ := v
      show xJ iX9_rests κ _ 113 [(0, .ref v0), (2, .int v2), (3, .int v3), (5, .int v5)] [.int t0] h (fX9_rests_j113 v0 v2 v3 v5 t0 h)
      unfold fX9_rests_j113
      refine j_istore (L' := [(4, .int t0), (0, .ref v0), (2, .int v2), (3, .int v3), (5, .int v5)]) dX9_rests_113 (Nat.le_of_ble_eq_true rfl) rfl ?_
      refine j_iinc (y := v5 + 1) (L' := [(5, .int (v5 + 1)), (4, .int t0), (0, .ref v0), (2, .int v2), (3, .int v3)]) 4 dX9_rests_115 rfl rfl (Nat.le_of_ble_eq_true rfl) rfl ?_
      refine j_goto (tgt := 65) dX9_rests_118 (by decide) ?_
      refine j_pick [2, 3, 4, 1, 0] rfl ?_
      exact j_again (t0, v5 + 1) rfl rfl
    refine j_have (pj := 112) (Lf := fun v : Int32 => [(0, .ref v0), (2, .int v2), (3, .int v3), (5, .int v)]) (Sf := fun v : Int32 => []) (Hf := fun v : Int32 => h) (jf := fun v : Int32 => fX9_rests_j112 v0 v2 v3 v h) (fun v => ?_) (fun hj112 => ?_)
    · generalize v = v5
      show xJ iX9_rests κ _ 112 [(0, .ref v0), (2, .int v2), (3, .int v3), (5, .int v5)] [] h (fX9_rests_j112 v0 v2 v3 v5 h)
      unfold fX9_rests_j112
      refine j_iconst (x := 0) dX9_rests_112 (by decide) ?_
      refine j_pick [0, 1, 2, 3] rfl ?_
      exact hj113 (v5, 0)
    refine j_iload 4 dX9_rests_65 rfl ?_
    refine j_aload_n 0 dX9_rests_67 rfl rfl ?_
    refine j_getR 9 18 0 dX9_rests_68 fl_RX9_7 (by decide) rfl (by decide) (fun _ _ _ => rfl) (fun x4 => ?_)
    refine j_bipush (x := 40) dX9_rests_71 (by decide) ?_
    refine j_iload_n 1 dX9_rests_73 rfl rfl ?_
    refine j_iadd dX9_rests_74 ?_
    refine j_iald dX9_rests_75 (fun x5 => ?_)
    refine j_icmp_ge (tgt := 121) dX9_rests_76 (by decide) (fun c6 => ?_) (fun c6 => ?_)
    · refine j_exit s65.1 ?_
      show xJ iX9_rests κ _ _ _ _ _ (if vp_nar .boolean s65.1 = s65.1 then some s65.1 else none)
      refine j_iload 3 dX9_rests_121 rfl ?_
      exact j_zretc s65.1 dX9_rests_123 rfl (fun q => q)
    · refine j_iload 3 dX9_rests_79 rfl ?_
      refine j_if_eq (tgt := 112) dX9_rests_81 (by decide) (fun c7 => ?_) (fun c7 => ?_)
      · refine j_pick [0, 1, 2, 4] rfl ?_
        exact hj112 s65.2
      · refine j_aload_n 0 dX9_rests_84 rfl rfl ?_
        refine j_getR 9 18 9 dX9_rests_85 fl_RX9_36 (by decide) rfl (by decide) (fun _ _ _ => rfl) (fun x8 => ?_)
        refine j_iload_n 2 dX9_rests_88 rfl rfl ?_
        refine j_bipush (x := 10) dX9_rests_89 (by decide) ?_
        refine j_idiv dX9_rests_91 (fun c9 => ?_)
        refine j_bipush (x := 10) dX9_rests_92 (by decide) ?_
        refine j_imul dX9_rests_94 ?_
        refine j_iload 4 dX9_rests_95 rfl ?_
        refine j_iadd dX9_rests_97 ?_
        refine j_iald dX9_rests_98 (fun x10 => ?_)
        refine j_aload_n 0 dX9_rests_99 rfl rfl ?_
        refine j_getR 9 18 9 dX9_rests_100 fl_RX9_36 (by decide) rfl (by decide) (fun _ _ _ => rfl) (fun x11 => ?_)
        refine j_iload_n 2 dX9_rests_103 rfl rfl ?_
        refine j_iald dX9_rests_104 (fun x12 => ?_)
        refine j_icmp_gt (tgt := 112) dX9_rests_105 (by decide) (fun c13 => ?_) (fun c13 => ?_)
        · refine j_pick [0, 1, 2, 4] rfl ?_
          exact hj112 s65.2
        · refine j_iconst (x := 1) dX9_rests_108 (by decide) ?_
          refine j_goto (tgt := 113) dX9_rests_109 (by decide) ?_
          refine j_pick [0, 1, 2, 4] rfl ?_
          exact hj113 (s65.2, 1)
  · refine j_iload 4 dX9_rests_20 rfl ?_
    refine j_if_eq (tgt := 53) dX9_rests_22 (by decide) (fun c14 => ?_) (fun c14 => ?_)
    · refine j_pick [0, 1, 2, 3, 5] rfl ?_
      exact hj53 s6.2
    · refine j_aload_n 0 dX9_rests_25 rfl rfl ?_
      refine j_getR 9 18 8 dX9_rests_26 fl_RX9_33 (by decide) rfl (by decide) (fun _ _ _ => rfl) (fun x15 => ?_)
      refine j_bipush (x := 10) dX9_rests_29 (by decide) ?_
      refine j_iload 5 dX9_rests_31 rfl ?_
      refine j_imul dX9_rests_33 ?_
      refine j_iload_n 3 dX9_rests_34 rfl rfl ?_
      refine j_bipush (x := 10) dX9_rests_35 (by decide) ?_
      refine j_irem dX9_rests_37 (fun c16 => ?_)
      refine j_iadd dX9_rests_38 ?_
      refine j_iald dX9_rests_39 (fun x17 => ?_)
      refine j_aload_n 0 dX9_rests_40 rfl rfl ?_
      refine j_getR 9 18 8 dX9_rests_41 fl_RX9_33 (by decide) rfl (by decide) (fun _ _ _ => rfl) (fun x18 => ?_)
      refine j_iload_n 3 dX9_rests_44 rfl rfl ?_
      refine j_iald dX9_rests_45 (fun x19 => ?_)
      refine j_icmp_gt (tgt := 53) dX9_rests_46 (by decide) (fun c20 => ?_) (fun c20 => ?_)
      · refine j_pick [0, 1, 2, 3, 5] rfl ?_
        exact hj53 s6.2
      · refine j_iconst (x := 1) dX9_rests_49 (by decide) ?_
        refine j_goto (tgt := 54) dX9_rests_50 (by decide) ?_
        refine j_pick [0, 1, 2, 3, 5] rfl ?_
        exact hj54 (s6.2, 1)
