def fX8_days_j21 (v0 : Nat) (h : Hp) : Option (Int32 × Hp) :=
  (xat h v0 (8, 12) (fX8_refuseBad v0 h)).bind fun q1 => some (q1.1, q1.2)
def fX8_days (v0 : Nat) (v1 : Int32) (v2 : Int32) (h : Hp) : Option (Int32 × Hp) :=
  (fX8_within v1 0 999999 h).bind fun x2 => if (x2 : Int32) = 0 then (fX8_days_j21 v0 h) else ((fX8_within v2 0 60 h).bind fun x4 => if (x4 : Int32) = 0 then (fX8_days_j21 v0 h) else ((xgR h v0 (8, 12) 3).bind fun x6 => (xgR h v0 (8, 12) 0).bind fun x7 => (xat h x6 (3, 3) (fX3_levyOfDays x6 x7 v1 v2 h)).bind fun q8 => some (q8.1, q8.2)))
abbrev iX8_days : xI := (cX8_days, yX8_days.cls, yX8_days.name, some .int, 3, 10)
set_option maxHeartbeats 4000000 in
set_option maxRecDepth 100000 in
theorem kX8_days (l : Launch) (η : xEnv) (v0 : Nat) (v1 : Int32) (v2 : Int32) (h : Hp) (x : Int32 × Hp) (hx : fX8_days v0 v1 v2 h = some x) : xC l η yX8_days cX8_days 3 (some .int) 10 [.ref v0, .int v1, .int v2] h (some (.int x.1)) x.2 := by
  refine xC_of (by decide) (Nat.le_of_ble_eq_true rfl) hx (fun κ x => κ.2.2.2.1 = some (.int x.1) ∧ κ.2.2.2.2 = x.2) ⟨rfl, rfl⟩ (fun κ => ?_)
  show xJ iX8_days κ _ 0 [(0, .ref v0), (1, .int v1), (2, .int v2)] [] h (fX8_days v0 v1 v2 h)
  unfold fX8_days
  refine j_have (pj := 21) (Lf := fun v : Hp => [(0, .ref v0)]) (Sf := fun v : Hp => []) (Hf := fun v : Hp => v) (jf := fun v : Hp => fX8_days_j21 v0 v) (fun v => ?_) (fun hj21 => ?_)
  · generalize v = h
    show xJ iX8_days κ _ 21 [(0, .ref v0)] [] h (fX8_days_j21 v0 h)
    unfold fX8_days_j21
    refine j_aload_n 0 dX8_days_21 rfl rfl ?_
    refine j_callV (as := []) (fun x => some (.int x.1)) (fun x => x.2) 8 12 dX8_days_22 ml_RX8_70 tg_X8_refuseBad im_X8_refuseBad se_X8_refuseBad rfl (by decide) (fun x hx => kX8_refuseBad κ.1 κ.2.1 v0 h x hx) (by decide) (by decide) rfl rfl (Nat.le_of_ble_eq_true rfl) (fun q1 => ?_)
    show xJ iX8_days κ _ 25 [(0, .ref v0)] [.int q1.1] q1.2 _
    exact j_iret (q1.1, q1.2) dX8_days_25 rfl (fun q => q)
  refine j_iload_n 1 dX8_days_0 rfl rfl ?_
  refine j_iconst (x := 0) dX8_days_1 (by decide) ?_
  refine j_ldcw dX8_days_2 ct_RX8_273 ?_
  refine j_callS (as := [.int v1, .int 0, .int 999999]) (fun x => some (.int x)) (fun _ => h) dX8_days_5 ml_RX8_66 tg_X8_within st_X8_within (fun x hx => kX8_within κ.1 κ.2.1 v1 0 999999 h x hx) (by decide) (by decide) rfl rfl (Nat.le_of_ble_eq_true rfl) (fun x2 => ?_)
  show xJ iX8_days κ _ 8 [(0, .ref v0), (1, .int v1), (2, .int v2)] [.int x2] h _
  refine j_if_eq (tgt := 21) dX8_days_8 (by decide) (fun c3 => ?_) (fun c3 => ?_)
  · refine j_pick [0] rfl ?_
    exact hj21 h
  · refine j_iload_n 2 dX8_days_11 rfl rfl ?_
    refine j_iconst (x := 0) dX8_days_12 (by decide) ?_
    refine j_bipush (x := 60) dX8_days_13 (by decide) ?_
    refine j_callS (as := [.int v2, .int 0, .int 60]) (fun x => some (.int x)) (fun _ => h) dX8_days_15 ml_RX8_66 tg_X8_within st_X8_within (fun x hx => kX8_within κ.1 κ.2.1 v2 0 60 h x hx) (by decide) (by decide) rfl rfl (Nat.le_of_ble_eq_true rfl) (fun x4 => ?_)
    show xJ iX8_days κ _ 18 [(0, .ref v0), (1, .int v1), (2, .int v2)] [.int x4] h _
    refine j_if_ne (tgt := 26) dX8_days_18 (by decide) (fun c5 => ?_) (fun c5 => ?_)
    · refine j_pick [0] rfl ?_
      exact hj21 h
    · refine j_aload_n 0 dX8_days_26 rfl rfl ?_
      refine j_getR 8 12 3 dX8_days_27 fl_RX8_27 (by decide) rfl (by decide) (fun _ _ _ => rfl) (fun x6 => ?_)
      refine j_aload_n 0 dX8_days_30 rfl rfl ?_
      refine j_getR 8 12 0 dX8_days_31 fl_RX8_12 (by decide) rfl (by decide) (fun _ _ _ => rfl) (fun x7 => ?_)
      refine j_iload_n 1 dX8_days_34 rfl rfl ?_
      refine j_iload_n 2 dX8_days_35 rfl rfl ?_
      refine j_callV (as := [.ref x7, .int v1, .int v2]) (fun x => some (.int x.1)) (fun x => x.2) 3 3 dX8_days_36 ml_RX8_274 tg_X3_levyOfDays im_X3_levyOfDays se_X3_levyOfDays rfl (by decide) (fun x hx => kX3_levyOfDays κ.1 κ.2.1 x6 x7 v1 v2 h x hx) (by decide) (by decide) rfl rfl (Nat.le_of_ble_eq_true rfl) (fun q8 => ?_)
      show xJ iX8_days κ _ 39 [(0, .ref v0), (1, .int v1), (2, .int v2)] [.int q8.1] q8.2 _
      exact j_iret (q8.1, q8.2) dX8_days_39 rfl (fun q => q)
def fX9_days_j24 (v0 : Nat) (h : Hp) : Option (Int32 × Hp) :=
  (xat h v0 (9, 18) (fX9_bad v0 (-2) h)).bind fun q1 => some (q1.1, q1.2)
def fX9_days_b53 (v0 : Nat) (v2 : Int32) (v5 : Int32) (v6 : Int32) (s53 : Int64 × Int32 × Hp) : Option ((Int64 × Int32 × Hp) ⊕ ((Nat × Int32 × Int64 × Int32 × Int32 × Hp))) :=
  (xat s53.2.2 v0 (9, 18) (fX9_many v0 s53.2.2)).bind fun x8 => if (x8 : Int32) ≤ s53.2.1 then (some (Sum.inr (v0, v2, s53.1, v5, v6, s53.2.2))) else (if (2147483648 : Int64) = 0 then none else (xgR s53.2.2 v0 (9, 18) 6).bind fun x14 => if (65536 : Int64) = 0 then none else (xgR s53.2.2 v0 (9, 18) 6).bind fun x16 => (xaI s53.2.2 x16 10 (40 + s53.2.1)).bind fun x17 => if ((x17 : Int32).toInt64 : Int64) = 0 then none else (xsI s53.2.2 x14 (33 + s53.2.1) (((((((s53.1 * 1103515245) + 12345) - ((s53.1 * 1103515245) + 12345) / 2147483648 * 2147483648) / 65536) - ((((s53.1 * 1103515245) + 12345) - ((s53.1 * 1103515245) + 12345) / 2147483648 * 2147483648) / 65536) / ((x17 : Int32).toInt64) * ((x17 : Int32).toInt64)) : Int64).toInt32)).bind fun h19 => some (Sum.inl (((s53.1 * 1103515245) + 12345) - ((s53.1 * 1103515245) + 12345) / 2147483648 * 2147483648, s53.2.1 + 1, h19)))
def fX9_days_b40 (v0 : Nat) (v2 : Int32) (s40 : Int64 × Int32 × Int32 × Hp) : Option ((Int64 × Int32 × Int32 × Hp) ⊕ ((Int32 × Hp))) :=
  if (v2 : Int32) ≤ s40.2.2.1 then (some (Sum.inr (s40.2.1, s40.2.2.2))) else ((xat s40.2.2.2 v0 (9, 18) (fX9_layStart v0 s40.2.2.2)).bind fun h7 => (xloop (fX9_days_b53 v0 v2 s40.2.1 s40.2.2.1) 1000000 (s40.1, 0, h7)).bind (fun r53 => (xat r53.2.2.2.2.2 r53.1 (9, 18) (fX9_goTill r53.1 10 r53.2.2.2.2.2)).bind fun h20 => (xgR h20 r53.1 (9, 18) 6).bind fun x21 => (xaI h20 x21 10 7).bind fun x22 => some (Sum.inl (r53.2.2.1, r53.2.2.2.1 + x22, r53.2.2.2.2.1 + 1, h20))))
def fX9_days (v0 : Nat) (v1 : Int32) (v2 : Int32) (h : Hp) : Option (Int32 × Hp) :=
  (fX9_in ((v1 : Int32).toInt64) 0 999999 h).bind fun x2 => if (x2 : Int32) = 0 then (fX9_days_j24 v0 h) else ((fX9_in ((v2 : Int32).toInt64) 0 60 h).bind fun x4 => if (x4 : Int32) = 0 then (fX9_days_j24 v0 h) else ((xloop (fX9_days_b40 v0 v2) 1000000 ((v1 : Int32).toInt64, 0, 0, h)).bind (fun r40 => some (r40.1, r40.2))))
abbrev iX9_days : xI := (cX9_days, yX9_days.cls, yX9_days.name, some .int, 8, 7)
set_option maxHeartbeats 4000000 in
set_option maxRecDepth 100000 in
theorem kX9_days (l : Launch) (η : xEnv) (v0 : Nat) (v1 : Int32) (v2 : Int32) (h : Hp) (x : Int32 × Hp) (hx : fX9_days v0 v1 v2 h = some x) : xC l η yX9_days cX9_days 8 (some .int) 7 [.ref v0, .int v1, .int v2] h (some (.int x.1)) x.2 := by
  refine xC_of (by decide) (Nat.le_of_ble_eq_true rfl) hx (fun κ x => κ.2.2.2.1 = some (.int x.1) ∧ κ.2.2.2.2 = x.2) ⟨rfl, rfl⟩ (fun κ => ?_)
  show xJ iX9_days κ _ 0 [(0, .ref v0), (1, .int v1), (2, .int v2)] [] h (fX9_days v0 v1 v2 h)
  unfold fX9_days
  refine j_have (pj := 24) (Lf := fun v : Hp => [(0, .ref v0)]) (Sf := fun v : Hp => []) (Hf := fun v : Hp => v) (jf := fun v : Hp => fX9_days_j24 v0 v) (fun v => ?_) (fun hj24 => ?_)
  · generalize v = h
    show xJ iX9_days κ _ 24 [(0, .ref v0)] [] h (fX9_days_j24 v0 h)
    unfold fX9_days_j24
    refine j_aload_n 0 dX9_days_24 rfl rfl ?_
    refine j_bipush (x := (-2)) dX9_days_25 (by decide) ?_
    refine j_callV (as := [.int (-2)]) (fun x => some (.int x.1)) (fun x => x.2) 9 18 dX9_days_27 ml_RX9_64 tg_X9_bad im_X9_bad se_X9_bad rfl (by decide) (fun x hx => kX9_bad κ.1 κ.2.1 v0 (-2) h x hx) (by decide) (by decide) rfl rfl (Nat.le_of_ble_eq_true rfl) (fun q1 => ?_)
    show xJ iX9_days κ _ 30 [(0, .ref v0)] [.int q1.1] q1.2 _
    exact j_iret (q1.1, q1.2) dX9_days_30 rfl (fun q => q)
  refine j_iload_n 1 dX9_days_0 rfl rfl ?_
  refine j_i2l dX9_days_1 ?_
  refine j_lconst (x := 0) dX9_days_2 (by decide) ?_
  refine j_ldc2 dX9_days_3 cL_RX9_179 ?_
  refine j_callS (as := [.long ((v1 : Int32).toInt64), .long 0, .long 999999]) (fun x => some (.int x)) (fun _ => h) dX9_days_6 ml_RX9_56 tg_X9_in st_X9_in (fun x hx => kX9_in κ.1 κ.2.1 ((v1 : Int32).toInt64) 0 999999 h x hx) (by decide) (by decide) rfl rfl (Nat.le_of_ble_eq_true rfl) (fun x2 => ?_)
  show xJ iX9_days κ _ 9 [(0, .ref v0), (1, .int v1), (2, .int v2)] [.int x2] h _
  refine j_if_eq (tgt := 24) dX9_days_9 (by decide) (fun c3 => ?_) (fun c3 => ?_)
  · refine j_pick [0] rfl ?_
    exact hj24 h
  · refine j_iload_n 2 dX9_days_12 rfl rfl ?_
    refine j_i2l dX9_days_13 ?_
    refine j_lconst (x := 0) dX9_days_14 (by decide) ?_
    refine j_ldc2 dX9_days_15 cL_RX9_162 ?_
    refine j_callS (as := [.long ((v2 : Int32).toInt64), .long 0, .long 60]) (fun x => some (.int x)) (fun _ => h) dX9_days_18 ml_RX9_56 tg_X9_in st_X9_in (fun x hx => kX9_in κ.1 κ.2.1 ((v2 : Int32).toInt64) 0 60 h x hx) (by decide) (by decide) rfl rfl (Nat.le_of_ble_eq_true rfl) (fun x4 => ?_)
    show xJ iX9_days κ _ 21 [(0, .ref v0), (1, .int v1), (2, .int v2)] [.int x4] h _
    refine j_if_ne (tgt := 31) dX9_days_21 (by decide) (fun c5 => ?_) (fun c5 => ?_)
    · refine j_pick [0] rfl ?_
      exact hj24 h
    · refine j_iload_n 1 dX9_days_31 rfl rfl ?_
      refine j_i2l dX9_days_32 ?_
      refine j_lstore_n (L' := [(3, .long ((v1 : Int32).toInt64)), (0, .ref v0), (1, .int v1), (2, .int v2)]) dX9_days_33 rfl (Nat.le_of_ble_eq_true rfl) rfl ?_
      refine j_iconst (x := 0) dX9_days_34 (by decide) ?_
      refine j_istore (L' := [(5, .int 0), (3, .long ((v1 : Int32).toInt64)), (0, .ref v0), (1, .int v1), (2, .int v2)]) dX9_days_35 (Nat.le_of_ble_eq_true rfl) rfl ?_
      refine j_iconst (x := 0) dX9_days_37 (by decide) ?_
      refine j_istore (L' := [(6, .int 0), (5, .int 0), (3, .long ((v1 : Int32).toInt64)), (0, .ref v0), (1, .int v1), (2, .int v2)]) dX9_days_38 (Nat.le_of_ble_eq_true rfl) rfl ?_
      refine j_pick [3, 5, 2, 1, 0] rfl ?_
      refine j_loop (pc := 40) (Lf := fun s40 : Int64 × Int32 × Int32 × Hp => [(0, .ref v0), (2, .int v2), (3, .long s40.1), (5, .int s40.2.1), (6, .int s40.2.2.1)]) (Hf := fun s40 : Int64 × Int32 × Int32 × Hp => s40.2.2.2) (fun s40 => ?_) 1000000 ((v1 : Int32).toInt64, 0, 0, h)
      show xJ iX9_days κ _ 40 [(0, .ref v0), (2, .int v2), (3, .long s40.1), (5, .int s40.2.1), (6, .int s40.2.2.1)] [] s40.2.2.2 (fX9_days_b40 v0 v2 s40)
      unfold fX9_days_b40
      refine j_iload 4 dX9_days_40 rfl ?_
      refine j_iload_n 1 dX9_days_42 rfl rfl ?_
      refine j_icmp_ge (tgt := 134) dX9_days_43 (by decide) (fun c6 => ?_) (fun c6 => ?_)
      · refine j_exit (s40.2.1, s40.2.2.2) ?_
        show xJ iX9_days κ _ _ _ _ _ (some (s40.2.1, s40.2.2.2))
        refine j_iload 3 dX9_days_134 rfl ?_
        exact j_iret (s40.2.1, s40.2.2.2) dX9_days_136 rfl (fun q => q)
      · refine j_aload_n 0 dX9_days_46 rfl rfl ?_
        refine j_callV (as := []) (fun _ => none) (fun x => x) 9 18 dX9_days_47 ml_RX9_141 tg_X9_layStart im_X9_layStart se_X9_layStart rfl (by decide) (fun x hx => kX9_layStart κ.1 κ.2.1 v0 s40.2.2.2 x hx) (by decide) (by decide) rfl rfl (Nat.le_of_ble_eq_true rfl) (fun h7 => ?_)
        show xJ iX9_days κ _ 50 [(0, .ref v0), (2, .int v2), (3, .long s40.1), (5, .int s40.2.1), (6, .int s40.2.2.1)] [] h7 _
        refine j_iconst (x := 0) dX9_days_50 (by decide) ?_
        refine j_istore (L' := [(7, .int 0), (0, .ref v0), (2, .int v2), (3, .long s40.1), (5, .int s40.2.1), (6, .int s40.2.2.1)]) dX9_days_51 (Nat.le_of_ble_eq_true rfl) rfl ?_
        refine j_pick [1, 2, 3, 4, 5, 0] rfl ?_
        refine j_loop (pc := 53) (Lf := fun s53 : Int64 × Int32 × Hp => [(0, .ref v0), (2, .int v2), (3, .long s53.1), (5, .int s40.2.1), (6, .int s40.2.2.1), (7, .int s53.2.1)]) (Hf := fun s53 : Int64 × Int32 × Hp => s53.2.2) (fun s53 => ?_) 1000000 (s40.1, 0, h7)
        show xJ iX9_days κ _ 53 [(0, .ref v0), (2, .int v2), (3, .long s53.1), (5, .int s40.2.1), (6, .int s40.2.2.1), (7, .int s53.2.1)] [] s53.2.2 (fX9_days_b53 v0 v2 s40.2.1 s40.2.2.1 s53)
        unfold fX9_days_b53
        refine j_iload 5 dX9_days_53 rfl ?_
        refine j_aload_n 0 dX9_days_55 rfl rfl ?_
        refine j_callV (as := []) (fun x => some (.int x)) (fun _ => s53.2.2) 9 18 dX9_days_56 ml_RX9_52 tg_X9_many im_X9_many se_X9_many rfl (by decide) (fun x hx => kX9_many κ.1 κ.2.1 v0 s53.2.2 x hx) (by decide) (by decide) rfl rfl (Nat.le_of_ble_eq_true rfl) (fun x8 => ?_)
        show xJ iX9_days κ _ 59 [(0, .ref v0), (2, .int v2), (3, .long s53.1), (5, .int s40.2.1), (6, .int s40.2.2.1), (7, .int s53.2.1)] [.int x8, .int s53.2.1] s53.2.2 _
        refine j_icmp_ge (tgt := 110) dX9_days_59 (by decide) (fun c9 => ?_) (fun c9 => ?_)
        · refine j_exit (v0, v2, s53.1, s40.2.1, s40.2.2.1, s53.2.2) ?_
          show xJ iX9_days κ _ _ _ _ _ ((xat s53.2.2 v0 (9, 18) (fX9_goTill v0 10 s53.2.2)).bind fun h10 => (xgR h10 v0 (9, 18) 6).bind fun x11 => (xaI h10 x11 10 7).bind fun x12 => some (Sum.inl (s53.1, s40.2.1 + x12, s40.2.2.1 + 1, h10)))
          refine j_aload_n 0 dX9_days_110 rfl rfl ?_
          refine j_bipush (x := 10) dX9_days_111 (by decide) ?_
          refine j_callV (as := [.int 10]) (fun _ => none) (fun x => x) 9 18 dX9_days_113 ml_RX9_125 tg_X9_goTill im_X9_goTill se_X9_goTill rfl (by decide) (fun x hx => kX9_goTill κ.1 κ.2.1 v0 10 s53.2.2 x hx) (by decide) (by decide) rfl rfl (Nat.le_of_ble_eq_true rfl) (fun h10 => ?_)
          show xJ iX9_days κ _ 116 [(0, .ref v0), (2, .int v2), (3, .long s53.1), (5, .int s40.2.1), (6, .int s40.2.2.1), (7, .int s53.2.1)] [] h10 _
          refine j_iload 3 dX9_days_116 rfl ?_
          refine j_aload_n 0 dX9_days_118 rfl rfl ?_
          refine j_getR 9 18 6 dX9_days_119 fl_RX9_27 (by decide) rfl (by decide) (fun _ _ _ => rfl) (fun x11 => ?_)
          refine j_bipush (x := 7) dX9_days_122 (by decide) ?_
          refine j_iald dX9_days_124 (fun x12 => ?_)
          refine j_iadd dX9_days_125 ?_
          refine j_istore (L' := [(5, .int (s40.2.1 + x12)), (0, .ref v0), (2, .int v2), (3, .long s53.1), (6, .int s40.2.2.1), (7, .int s53.2.1)]) dX9_days_126 (Nat.le_of_ble_eq_true rfl) rfl ?_
          refine j_iinc (y := s40.2.2.1 + 1) (L' := [(6, .int (s40.2.2.1 + 1)), (5, .int (s40.2.1 + x12)), (0, .ref v0), (2, .int v2), (3, .long s53.1), (7, .int s53.2.1)]) 4 dX9_days_128 rfl rfl (Nat.le_of_ble_eq_true rfl) rfl ?_
          refine j_goto (tgt := 40) dX9_days_131 (by decide) ?_
          refine j_pick [2, 3, 4, 1, 0] rfl ?_
          exact j_again (s53.1, s40.2.1 + x12, s40.2.2.1 + 1, h10) rfl rfl
        · refine j_lload_n 2 dX9_days_62 rfl rfl ?_
          refine j_ldc2 dX9_days_63 cL_RX9_181 ?_
          refine j_lmul dX9_days_66 ?_
          refine j_ldc2 dX9_days_67 cL_RX9_183 ?_
          refine j_ladd dX9_days_70 ?_
          refine j_ldc2 dX9_days_71 cL_RX9_185 ?_
          refine j_lrem dX9_days_74 (fun c13 => ?_)
          refine j_lstore_n (L' := [(3, .long (((s53.1 * 1103515245) + 12345) - ((s53.1 * 1103515245) + 12345) / 2147483648 * 2147483648)), (0, .ref v0), (2, .int v2), (5, .int s40.2.1), (6, .int s40.2.2.1), (7, .int s53.2.1)]) dX9_days_75 rfl (Nat.le_of_ble_eq_true rfl) rfl ?_
          refine j_aload_n 1 dX9_days_76 rfl rfl ?_
          refine j_getR 9 18 6 dX9_days_77 fl_RX9_27 (by decide) rfl (by decide) (fun _ _ _ => rfl) (fun x14 => ?_)
          refine j_bipush (x := 33) dX9_days_80 (by decide) ?_
          refine j_iload 5 dX9_days_82 rfl ?_
          refine j_iadd dX9_days_84 ?_
          refine j_lload_n 0 dX9_days_85 rfl rfl ?_
          refine j_ldc2 dX9_days_86 cL_RX9_187 ?_
          refine j_ldiv dX9_days_89 (fun c15 => ?_)
          refine j_aload_n 1 dX9_days_90 rfl rfl ?_
          refine j_getR 9 18 6 dX9_days_91 fl_RX9_27 (by decide) rfl (by decide) (fun _ _ _ => rfl) (fun x16 => ?_)
          refine j_bipush (x := 40) dX9_days_94 (by decide) ?_
          refine j_iload 5 dX9_days_96 rfl ?_
          refine j_iadd dX9_days_98 ?_
          refine j_iald dX9_days_99 (fun x17 => ?_)
          refine j_i2l dX9_days_100 ?_
          refine j_lrem dX9_days_101 (fun c18 => ?_)
          refine j_l2i dX9_days_102 ?_
          refine j_iast dX9_days_103 (fun h19 => ?_)
          refine j_iinc (y := s53.2.1 + 1) (L' := [(7, .int (s53.2.1 + 1)), (3, .long (((s53.1 * 1103515245) + 12345) - ((s53.1 * 1103515245) + 12345) / 2147483648 * 2147483648)), (0, .ref v0), (2, .int v2), (5, .int s40.2.1), (6, .int s40.2.2.1)]) 5 dX9_days_104 rfl rfl (Nat.le_of_ble_eq_true rfl) rfl ?_
          refine j_goto (tgt := 53) dX9_days_107 (by decide) ?_
          refine j_pick [2, 3, 1, 4, 5, 0] rfl ?_
          exact j_again (((s53.1 * 1103515245) + 12345) - ((s53.1 * 1103515245) + 12345) / 2147483648 * 2147483648, s53.2.1 + 1, h19) rfl rfl
def fX8_part (v0 : Nat) (v1 : Int32) (h : Hp) : Option (Int64 × Hp) :=
  if (v1 : Int32) = 0 then ((xgR h v0 (8, 12) 7).bind fun x2 => (xgL h x2 (2, 2) 0).bind fun x3 => some (x3, h)) else if (v1 : Int32) = 1 then ((xgR h v0 (8, 12) 7).bind fun x5 => (xgL h x5 (2, 2) 1).bind fun x6 => some (x6, h)) else ((xat h v0 (8, 12) (fX8_refuseBad v0 h)).bind fun q7 => some ((q7.1 : Int32).toInt64, q7.2))
abbrev iX8_part : xI := (cX8_part, yX8_part.cls, yX8_part.name, some .long, 2, 3)
set_option maxHeartbeats 4000000 in
set_option maxRecDepth 100000 in
theorem kX8_part (l : Launch) (η : xEnv) (v0 : Nat) (v1 : Int32) (h : Hp) (x : Int64 × Hp) (hx : fX8_part v0 v1 h = some x) : xC l η yX8_part cX8_part 2 (some .long) 3 [.ref v0, .int v1] h (some (.long x.1)) x.2 := by
  refine xC_of (by decide) (Nat.le_of_ble_eq_true rfl) hx (fun κ x => κ.2.2.2.1 = some (.long x.1) ∧ κ.2.2.2.2 = x.2) ⟨rfl, rfl⟩ (fun κ => ?_)
  show xJ iX8_part κ _ 0 [(0, .ref v0), (1, .int v1)] [] h (fX8_part v0 v1 h)
  unfold fX8_part
  refine j_iload_n 1 dX8_part_0 rfl rfl ?_
  refine j_lokv (w := 0) (off := 27) (tgt := 28) dX8_part_1 (by decide) (by decide) (by decide) (fun c1 => ?_) (fun c1 => ?_)
  · refine j_aload_n 0 dX8_part_28 rfl rfl ?_
    refine j_getR 8 12 7 dX8_part_29 fl_RX8_55 (by decide) rfl (by decide) (fun _ _ _ => rfl) (fun x2 => ?_)
    refine j_getL 2 2 0 dX8_part_32 fl_RX8_278 (by decide) rfl (by decide) rfl (fun x3 => ?_)
    exact j_lret (x3, h) dX8_part_35 rfl (fun q => q)
  refine j_lokv (w := 1) (off := 35) (tgt := 36) dX8_part_1 (by decide) (by decide) (by decide) (fun c4 => ?_) (fun c4 => ?_)
  · refine j_aload_n 0 dX8_part_36 rfl rfl ?_
    refine j_getR 8 12 7 dX8_part_37 fl_RX8_55 (by decide) rfl (by decide) (fun _ _ _ => rfl) (fun x5 => ?_)
    refine j_getL 2 2 1 dX8_part_40 fl_RX8_282 (by decide) rfl (by decide) rfl (fun x6 => ?_)
    exact j_lret (x6, h) dX8_part_43 rfl (fun q => q)
  refine j_lokd (tgt := 44) dX8_part_1 (by decide) (by have ec1 : ¬ (0 : Int) = (v1 : Int32).toInt := fun q => c1 (Int32.toInt_inj.mp (q.symm.trans (by decide))); have ec4 : ¬ (1 : Int) = (v1 : Int32).toInt := fun q => c4 (Int32.toInt_inj.mp (q.symm.trans (by decide))); show Op.lookupswitch.offset [(0, 27), (1, 35)] 43 (v1 : Int32).toInt = 43; simp only [Op.lookupswitch.offset, if_neg ec1, if_neg ec4]) (by decide) ?_
  refine j_aload_n 0 dX8_part_44 rfl rfl ?_
  refine j_callV (as := []) (fun x => some (.int x.1)) (fun x => x.2) 8 12 dX8_part_45 ml_RX8_70 tg_X8_refuseBad im_X8_refuseBad se_X8_refuseBad rfl (by decide) (fun x hx => kX8_refuseBad κ.1 κ.2.1 v0 h x hx) (by decide) (by decide) rfl rfl (Nat.le_of_ble_eq_true rfl) (fun q7 => ?_)
  show xJ iX8_part κ _ 48 [(0, .ref v0), (1, .int v1)] [.int q7.1] q7.2 _
  refine j_i2l dX8_part_48 ?_
  exact j_lret ((q7.1 : Int32).toInt64, q7.2) dX8_part_49 rfl (fun q => q)
def fX9_part_j30 (t0 : Int64) (h : Hp) : Option (Int64 × Hp) :=
  some (t0, h)
def fX9_part (v0 : Nat) (v1 : Int32) (h : Hp) : Option (Int64 × Hp) :=
  if (v1 : Int32) = 0 then ((xgL h v0 (9, 18) 4).bind fun x2 => fX9_part_j30 x2 h) else (if (v1 : Int32) = 1 then ((xgL h v0 (9, 18) 5).bind fun x4 => fX9_part_j30 x4 h) else ((xat h v0 (9, 18) (fX9_bad v0 (-2) h)).bind fun q5 => fX9_part_j30 ((q5.1 : Int32).toInt64) q5.2))
abbrev iX9_part : xI := (cX9_part, yX9_part.cls, yX9_part.name, some .long, 2, 3)
set_option maxHeartbeats 4000000 in
set_option maxRecDepth 100000 in
theorem kX9_part (l : Launch) (η : xEnv) (v0 : Nat) (v1 : Int32) (h : Hp) (x : Int64 × Hp) (hx : fX9_part v0 v1 h = some x) : xC l η yX9_part cX9_part 2 (some .long) 3 [.ref v0, .int v1] h (some (.long x.1)) x.2 := by
  refine xC_of (by decide) (Nat.le_of_ble_eq_true rfl) hx (fun κ x => κ.2.2.2.1 = some (.long x.1) ∧ κ.2.2.2.2 = x.2) ⟨rfl, rfl⟩ (fun κ => ?_)
  show xJ iX9_part κ _ 0 [(0, .ref v0), (1, .int v1)] [] h (fX9_part v0 v1 h)
  unfold fX9_part
  refine j_have (pj := 30) (Lf := fun v : Int64 × Hp => []) (Sf := fun v : Int64 × Hp => [.long v.1]) (Hf := fun v : Int64 × Hp => v.2) (jf := fun v : Int64 × Hp => fX9_part_j30 v.1 v.2) (fun v => ?_) (fun hj30 => ?_)
  · obtain ⟨t0, h⟩ := v
    show xJ iX9_part κ _ 30 [] [.long t0] h (fX9_part_j30 t0 h)
    unfold fX9_part_j30
    exact j_lret (t0, h) dX9_part_30 rfl (fun q => q)
  refine j_iload_n 1 dX9_part_0 rfl rfl ?_
  refine j_if_ne (tgt := 11) dX9_part_1 (by decide) (fun c1 => ?_) (fun c1 => ?_)
  · refine j_aload_n 0 dX9_part_4 rfl rfl ?_
    refine j_getL 9 18 4 dX9_part_5 fl_RX9_159 (by decide) rfl (by decide) rfl (fun x2 => ?_)
    refine j_goto (tgt := 30) dX9_part_8 (by decide) ?_
    refine j_pick [] rfl ?_
    exact hj30 (x2, h)
  · refine j_iload_n 1 dX9_part_11 rfl rfl ?_
    refine j_iconst (x := 1) dX9_part_12 (by decide) ?_
    refine j_icmp_ne (tgt := 23) dX9_part_13 (by decide) (fun c3 => ?_) (fun c3 => ?_)
    · refine j_aload_n 0 dX9_part_16 rfl rfl ?_
      refine j_getL 9 18 5 dX9_part_17 fl_RX9_23 (by decide) rfl (by decide) rfl (fun x4 => ?_)
      refine j_goto (tgt := 30) dX9_part_20 (by decide) ?_
      refine j_pick [] rfl ?_
      exact hj30 (x4, h)
    · refine j_aload_n 0 dX9_part_23 rfl rfl ?_
      refine j_bipush (x := (-2)) dX9_part_24 (by decide) ?_
      refine j_callV (as := [.int (-2)]) (fun x => some (.int x.1)) (fun x => x.2) 9 18 dX9_part_26 ml_RX9_64 tg_X9_bad im_X9_bad se_X9_bad rfl (by decide) (fun x hx => kX9_bad κ.1 κ.2.1 v0 (-2) h x hx) (by decide) (by decide) rfl rfl (Nat.le_of_ble_eq_true rfl) (fun q5 => ?_)
      show xJ iX9_part κ _ 29 [(0, .ref v0), (1, .int v1)] [.int q5.1] q5.2 _
      refine j_i2l dX9_part_29 ?_
      refine j_pick [] rfl ?_
      exact hj30 ((q5.1 : Int32).toInt64, q5.2)
def fX8_image (v0 : Nat) (v1 : Int32) (h : Hp) : Option (Int32 × Hp) :=
  (fX8_within v1 0 1 h).bind fun x1 => if (x1 : Int32) = 0 then ((xat h v0 (8, 12) (fX8_refuseBad v0 h)).bind fun q3 => some (q3.1, q3.2)) else ((xgR h v0 (8, 12) 1).bind fun x4 => (xaR h x4 12 v1).bind fun x5 => (xgR h v0 (8, 12) 0).bind fun x6 => (xat h x5 (0, 16) (fX0_take x5 x6 h)).bind fun h7 => (xgR h7 v0 (8, 12) 2).bind fun x8 => (xsZ h7 x8 v1 1).bind fun h9 => some (1, h9))
abbrev iX8_image : xI := (cX8_image, yX8_image.cls, yX8_image.name, some .int, 2, 4)
set_option maxHeartbeats 4000000 in
set_option maxRecDepth 100000 in
theorem kX8_image (l : Launch) (η : xEnv) (v0 : Nat) (v1 : Int32) (h : Hp) (x : Int32 × Hp) (hx : fX8_image v0 v1 h = some x) : xC l η yX8_image cX8_image 2 (some .int) 4 [.ref v0, .int v1] h (some (.int x.1)) x.2 := by
  refine xC_of (by decide) (Nat.le_of_ble_eq_true rfl) hx (fun κ x => κ.2.2.2.1 = some (.int x.1) ∧ κ.2.2.2.2 = x.2) ⟨rfl, rfl⟩ (fun κ => ?_)
  show xJ iX8_image κ _ 0 [(0, .ref v0), (1, .int v1)] [] h (fX8_image v0 v1 h)
  unfold fX8_image
  refine j_iload_n 1 dX8_image_0 rfl rfl ?_
  refine j_iconst (x := 0) dX8_image_1 (by decide) ?_
  refine j_iconst (x := 1) dX8_image_2 (by decide) ?_
  refine j_callS (as := [.int v1, .int 0, .int 1]) (fun x => some (.int x)) (fun _ => h) dX8_image_3 ml_RX8_66 tg_X8_within st_X8_within (fun x hx => kX8_within κ.1 κ.2.1 v1 0 1 h x hx) (by decide) (by decide) rfl rfl (Nat.le_of_ble_eq_true rfl) (fun x1 => ?_)
  show xJ iX8_image κ _ 6 [(0, .ref v0), (1, .int v1)] [.int x1] h _
  refine j_if_ne (tgt := 14) dX8_image_6 (by decide) (fun c2 => ?_) (fun c2 => ?_)
  · refine j_aload_n 0 dX8_image_9 rfl rfl ?_
    refine j_callV (as := []) (fun x => some (.int x.1)) (fun x => x.2) 8 12 dX8_image_10 ml_RX8_70 tg_X8_refuseBad im_X8_refuseBad se_X8_refuseBad rfl (by decide) (fun x hx => kX8_refuseBad κ.1 κ.2.1 v0 h x hx) (by decide) (by decide) rfl rfl (Nat.le_of_ble_eq_true rfl) (fun q3 => ?_)
    show xJ iX8_image κ _ 13 [(0, .ref v0), (1, .int v1)] [.int q3.1] q3.2 _
    exact j_iret (q3.1, q3.2) dX8_image_13 rfl (fun q => q)
  · refine j_aload_n 0 dX8_image_14 rfl rfl ?_
    refine j_getR 8 12 1 dX8_image_15 fl_RX8_16 (by decide) rfl (by decide) (fun _ _ _ => rfl) (fun x4 => ?_)
    refine j_iload_n 1 dX8_image_18 rfl rfl ?_
    refine j_aald12 dX8_image_19 (fun x5 => ?_)
    refine j_aload_n 0 dX8_image_20 rfl rfl ?_
    refine j_getR 8 12 0 dX8_image_21 fl_RX8_12 (by decide) rfl (by decide) (fun _ _ _ => rfl) (fun x6 => ?_)
    refine j_callV (as := [.ref x6]) (fun _ => none) (fun x => x) 0 16 dX8_image_24 ml_RX8_130 tg_X0_take im_X0_take se_X0_take rfl (by decide) (fun x hx => kX0_take κ.1 κ.2.1 x5 x6 h x hx) (by decide) (by decide) rfl rfl (Nat.le_of_ble_eq_true rfl) (fun h7 => ?_)
    show xJ iX8_image κ _ 27 [(0, .ref v0), (1, .int v1)] [] h7 _
    refine j_aload_n 0 dX8_image_27 rfl rfl ?_
    refine j_getR 8 12 2 dX8_image_28 fl_RX8_20 (by decide) rfl (by decide) (fun _ _ _ => rfl) (fun x8 => ?_)
    refine j_iload_n 1 dX8_image_31 rfl rfl ?_
    refine j_iconst (x := 1) dX8_image_32 (by decide) ?_
    refine j_zast dX8_image_33 (fun h9 => ?_)
    refine j_iconst (x := 1) dX8_image_34 (by decide) ?_
    exact j_iret (1, h9) dX8_image_35 rfl (fun q => q)
def fX9_image_b19 (v0 : Nat) (v1 : Int32) (s19 : Int32 × Hp) : Option ((Int32 × Hp) ⊕ ((Nat × Int32 × Hp))) :=
  if (118 : Int32) ≤ s19.1 then (some (Sum.inr (v0, v1, s19.2))) else ((xgR s19.2 v0 (9, 18) 1).bind fun x7 => (xgR s19.2 v0 (9, 18) 0).bind fun x8 => (xaI s19.2 x8 10 s19.1).bind fun x9 => (xsI s19.2 x7 ((118 * v1) + s19.1) x9).bind fun h10 => some (Sum.inl (s19.1 + 1, h10)))
def fX9_image (v0 : Nat) (v1 : Int32) (h : Hp) : Option (Int32 × Hp) :=
  (fX9_in ((v1 : Int32).toInt64) 0 1 h).bind fun x1 => if (x1 : Int32) = 0 then ((xat h v0 (9, 18) (fX9_bad v0 (-2) h)).bind fun q3 => some (q3.1, q3.2)) else ((xloop (fX9_image_b19 v0 v1) 1000000 (0, h)).bind (fun r19 => (xgR r19.2.2 r19.1 (9, 18) 2).bind fun x11 => (xsZ r19.2.2 x11 r19.2.1 1).bind fun h12 => some (1, h12)))
abbrev iX9_image : xI := (cX9_image, yX9_image.cls, yX9_image.name, some .int, 3, 3)
set_option maxHeartbeats 4000000 in
set_option maxRecDepth 100000 in
theorem kX9_image (l : Launch) (η : xEnv) (v0 : Nat) (v1 : Int32) (h : Hp) (x : Int32 × Hp) (hx : fX9_image v0 v1 h = some x) : xC l η yX9_image cX9_image 3 (some .int) 3 [.ref v0, .int v1] h (some (.int x.1)) x.2 := by
  refine xC_of (by decide) (Nat.le_of_ble_eq_true rfl) hx (fun κ x => κ.2.2.2.1 = some (.int x.1) ∧ κ.2.2.2.2 = x.2) ⟨rfl, rfl⟩ (fun κ => ?_)
  show xJ iX9_image κ _ 0 [(0, .ref v0), (1, .int v1)] [] h (fX9_image v0 v1 h)
  unfold fX9_image
  refine j_iload_n 1 dX9_image_0 rfl rfl ?_
  refine j_i2l dX9_image_1 ?_
  refine j_lconst (x := 0) dX9_image_2 (by decide) ?_
  refine j_lconst (x := 1) dX9_image_3 (by decide) ?_
  refine j_callS (as := [.long ((v1 : Int32).toInt64), .long 0, .long 1]) (fun x => some (.int x)) (fun _ => h) dX9_image_4 ml_RX9_56 tg_X9_in st_X9_in (fun x hx => kX9_in κ.1 κ.2.1 ((v1 : Int32).toInt64) 0 1 h x hx) (by decide) (by decide) rfl rfl (Nat.le_of_ble_eq_true rfl) (fun x1 => ?_)
  show xJ iX9_image κ _ 7 [(0, .ref v0), (1, .int v1)] [.int x1] h _
  refine j_if_ne (tgt := 17) dX9_image_7 (by decide) (fun c2 => ?_) (fun c2 => ?_)
  · refine j_aload_n 0 dX9_image_10 rfl rfl ?_
    refine j_bipush (x := (-2)) dX9_image_11 (by decide) ?_
    refine j_callV (as := [.int (-2)]) (fun x => some (.int x.1)) (fun x => x.2) 9 18 dX9_image_13 ml_RX9_64 tg_X9_bad im_X9_bad se_X9_bad rfl (by decide) (fun x hx => kX9_bad κ.1 κ.2.1 v0 (-2) h x hx) (by decide) (by decide) rfl rfl (Nat.le_of_ble_eq_true rfl) (fun q3 => ?_)
    show xJ iX9_image κ _ 16 [(0, .ref v0), (1, .int v1)] [.int q3.1] q3.2 _
    exact j_iret (q3.1, q3.2) dX9_image_16 rfl (fun q => q)
  · refine j_iconst (x := 0) dX9_image_17 (by decide) ?_
    refine j_istore_n (L' := [(2, .int 0), (0, .ref v0), (1, .int v1)]) dX9_image_18 rfl (Nat.le_of_ble_eq_true rfl) rfl ?_
    refine j_pick [1, 2, 0] rfl ?_
    refine j_loop (pc := 19) (Lf := fun s19 : Int32 × Hp => [(0, .ref v0), (1, .int v1), (2, .int s19.1)]) (Hf := fun s19 : Int32 × Hp => s19.2) (fun s19 => ?_) 1000000 (0, h)
    show xJ iX9_image κ _ 19 [(0, .ref v0), (1, .int v1), (2, .int s19.1)] [] s19.2 (fX9_image_b19 v0 v1 s19)
    unfold fX9_image_b19
    refine j_iload_n 2 dX9_image_19 rfl rfl ?_
    refine j_bipush (x := 118) dX9_image_20 (by decide) ?_
    refine j_icmp_ge (tgt := 48) dX9_image_22 (by decide) (fun c4 => ?_) (fun c4 => ?_)
    · refine j_exit (v0, v1, s19.2) ?_
      show xJ iX9_image κ _ _ _ _ _ ((xgR s19.2 v0 (9, 18) 2).bind fun x5 => (xsZ s19.2 x5 v1 1).bind fun h6 => some (1, h6))
      refine j_aload_n 0 dX9_image_48 rfl rfl ?_
      refine j_getR 9 18 2 dX9_image_49 fl_RX9_16 (by decide) rfl (by decide) (fun _ _ _ => rfl) (fun x5 => ?_)
      refine j_iload_n 1 dX9_image_52 rfl rfl ?_
      refine j_iconst (x := 1) dX9_image_53 (by decide) ?_
      refine j_zast dX9_image_54 (fun h6 => ?_)
      refine j_iconst (x := 1) dX9_image_55 (by decide) ?_
      exact j_iret (1, h6) dX9_image_56 rfl (fun q => q)
    · refine j_aload_n 0 dX9_image_25 rfl rfl ?_
      refine j_getR 9 18 1 dX9_image_26 fl_RX9_13 (by decide) rfl (by decide) (fun _ _ _ => rfl) (fun x7 => ?_)
      refine j_bipush (x := 118) dX9_image_29 (by decide) ?_
      refine j_iload_n 1 dX9_image_31 rfl rfl ?_
      refine j_imul dX9_image_32 ?_
      refine j_iload_n 2 dX9_image_33 rfl rfl ?_
      refine j_iadd dX9_image_34 ?_
      refine j_aload_n 0 dX9_image_35 rfl rfl ?_
      refine j_getR 9 18 0 dX9_image_36 fl_RX9_7 (by decide) rfl (by decide) (fun _ _ _ => rfl) (fun x8 => ?_)
      refine j_iload_n 2 dX9_image_39 rfl rfl ?_
      refine j_iald dX9_image_40 (fun x9 => ?_)
      refine j_iast dX9_image_41 (fun h10 => ?_)
      refine j_iinc (y := s19.1 + 1) (L' := [(2, .int (s19.1 + 1)), (0, .ref v0), (1, .int v1)]) 2 dX9_image_42 rfl rfl (Nat.le_of_ble_eq_true rfl) rfl ?_
      refine j_goto (tgt := 19) dX9_image_45 (by decide) ?_
      refine j_pick [1, 2, 0] rfl ?_
      exact j_again (s19.1 + 1, h10) rfl rfl
def fX8_from (v0 : Nat) (v1 : Int32) (h : Hp) : Option (Int32 × Hp) :=
  (fX8_within v1 0 1 h).bind fun x1 => if (x1 : Int32) = 0 then ((xat h v0 (8, 12) (fX8_refuseBad v0 h)).bind fun q3 => some (q3.1, q3.2)) else ((xgR h v0 (8, 12) 2).bind fun x4 => (xaI h x4 11 v1).bind fun x5 => if (x5 : Int32) = 0 then ((xat h v0 (8, 12) (fX8_refuseNo v0 h)).bind fun q7 => some (q7.1, q7.2)) else ((xgR h v0 (8, 12) 0).bind fun x8 => (xgR h v0 (8, 12) 1).bind fun x9 => (xaR h x9 12 v1).bind fun x10 => (xat h x8 (0, 16) (fX0_take x8 x10 h)).bind fun h11 => some (1, h11)))
abbrev iX8_from : xI := (cX8_from, yX8_from.cls, yX8_from.name, some .int, 2, 4)
set_option maxHeartbeats 4000000 in
set_option maxRecDepth 100000 in
theorem kX8_from (l : Launch) (η : xEnv) (v0 : Nat) (v1 : Int32) (h : Hp) (x : Int32 × Hp) (hx : fX8_from v0 v1 h = some x) : xC l η yX8_from cX8_from 2 (some .int) 4 [.ref v0, .int v1] h (some (.int x.1)) x.2 := by
  refine xC_of (by decide) (Nat.le_of_ble_eq_true rfl) hx (fun κ x => κ.2.2.2.1 = some (.int x.1) ∧ κ.2.2.2.2 = x.2) ⟨rfl, rfl⟩ (fun κ => ?_)
  show xJ iX8_from κ _ 0 [(0, .ref v0), (1, .int v1)] [] h (fX8_from v0 v1 h)
  unfold fX8_from
  refine j_iload_n 1 dX8_from_0 rfl rfl ?_
  refine j_iconst (x := 0) dX8_from_1 (by decide) ?_
  refine j_iconst (x := 1) dX8_from_2 (by decide) ?_
  refine j_callS (as := [.int v1, .int 0, .int 1]) (fun x => some (.int x)) (fun _ => h) dX8_from_3 ml_RX8_66 tg_X8_within st_X8_within (fun x hx => kX8_within κ.1 κ.2.1 v1 0 1 h x hx) (by decide) (by decide) rfl rfl (Nat.le_of_ble_eq_true rfl) (fun x1 => ?_)
  show xJ iX8_from κ _ 6 [(0, .ref v0), (1, .int v1)] [.int x1] h _
  refine j_if_ne (tgt := 14) dX8_from_6 (by decide) (fun c2 => ?_) (fun c2 => ?_)
  · refine j_aload_n 0 dX8_from_9 rfl rfl ?_
    refine j_callV (as := []) (fun x => some (.int x.1)) (fun x => x.2) 8 12 dX8_from_10 ml_RX8_70 tg_X8_refuseBad im_X8_refuseBad se_X8_refuseBad rfl (by decide) (fun x hx => kX8_refuseBad κ.1 κ.2.1 v0 h x hx) (by decide) (by decide) rfl rfl (Nat.le_of_ble_eq_true rfl) (fun q3 => ?_)
    show xJ iX8_from κ _ 13 [(0, .ref v0), (1, .int v1)] [.int q3.1] q3.2 _
    exact j_iret (q3.1, q3.2) dX8_from_13 rfl (fun q => q)
  · refine j_aload_n 0 dX8_from_14 rfl rfl ?_
    refine j_getR 8 12 2 dX8_from_15 fl_RX8_20 (by decide) rfl (by decide) (fun _ _ _ => rfl) (fun x4 => ?_)
    refine j_iload_n 1 dX8_from_18 rfl rfl ?_
    refine j_zald dX8_from_19 (fun x5 => ?_)
    refine j_if_ne (tgt := 28) dX8_from_20 (by decide) (fun c6 => ?_) (fun c6 => ?_)
    · refine j_aload_n 0 dX8_from_23 rfl rfl ?_
      refine j_callV (as := []) (fun x => some (.int x.1)) (fun x => x.2) 8 12 dX8_from_24 ml_RX8_146 tg_X8_refuseNo im_X8_refuseNo se_X8_refuseNo rfl (by decide) (fun x hx => kX8_refuseNo κ.1 κ.2.1 v0 h x hx) (by decide) (by decide) rfl rfl (Nat.le_of_ble_eq_true rfl) (fun q7 => ?_)
      show xJ iX8_from κ _ 27 [(0, .ref v0), (1, .int v1)] [.int q7.1] q7.2 _
      exact j_iret (q7.1, q7.2) dX8_from_27 rfl (fun q => q)
    · refine j_aload_n 0 dX8_from_28 rfl rfl ?_
      refine j_getR 8 12 0 dX8_from_29 fl_RX8_12 (by decide) rfl (by decide) (fun _ _ _ => rfl) (fun x8 => ?_)
      refine j_aload_n 0 dX8_from_32 rfl rfl ?_
      refine j_getR 8 12 1 dX8_from_33 fl_RX8_16 (by decide) rfl (by decide) (fun _ _ _ => rfl) (fun x9 => ?_)
      refine j_iload_n 1 dX8_from_36 rfl rfl ?_
      refine j_aald12 dX8_from_37 (fun x10 => ?_)
      refine j_callV (as := [.ref x10]) (fun _ => none) (fun x => x) 0 16 dX8_from_38 ml_RX8_130 tg_X0_take im_X0_take se_X0_take rfl (by decide) (fun x hx => kX0_take κ.1 κ.2.1 x8 x10 h x hx) (by decide) (by decide) rfl rfl (Nat.le_of_ble_eq_true rfl) (fun h11 => ?_)
      show xJ iX8_from κ _ 41 [(0, .ref v0), (1, .int v1)] [] h11 _
      refine j_iconst (x := 1) dX8_from_41 (by decide) ?_
      exact j_iret (1, h11) dX8_from_42 rfl (fun q => q)
def fX9_from_b33 (v0 : Nat) (v1 : Int32) (s33 : Int32 × Hp) : Option ((Int32 × Hp) ⊕ ((Hp))) :=
  if (118 : Int32) ≤ s33.1 then (some (Sum.inr s33.2)) else ((xgR s33.2 v0 (9, 18) 0).bind fun x9 => (xgR s33.2 v0 (9, 18) 1).bind fun x10 => (xaI s33.2 x10 10 ((118 * v1) + s33.1)).bind fun x11 => (xsI s33.2 x9 s33.1 x11).bind fun h12 => some (Sum.inl (s33.1 + 1, h12)))
def fX9_from (v0 : Nat) (v1 : Int32) (h : Hp) : Option (Int32 × Hp) :=
  (fX9_in ((v1 : Int32).toInt64) 0 1 h).bind fun x1 => if (x1 : Int32) = 0 then ((xat h v0 (9, 18) (fX9_bad v0 (-2) h)).bind fun q3 => some (q3.1, q3.2)) else ((xgR h v0 (9, 18) 2).bind fun x4 => (xaI h x4 11 v1).bind fun x5 => if (x5 : Int32) = 0 then ((xat h v0 (9, 18) (fX9_no v0 h)).bind fun q7 => some (q7.1, q7.2)) else ((xloop (fX9_from_b33 v0 v1) 1000000 (0, h)).bind (fun r33 => some (1, r33))))
abbrev iX9_from : xI := (cX9_from, yX9_from.cls, yX9_from.name, some .int, 3, 3)
set_option maxHeartbeats 4000000 in
set_option maxRecDepth 100000 in
theorem kX9_from (l : Launch) (η : xEnv) (v0 : Nat) (v1 : Int32) (h : Hp) (x : Int32 × Hp) (hx : fX9_from v0 v1 h = some x) : xC l η yX9_from cX9_from 3 (some .int) 3 [.ref v0, .int v1] h (some (.int x.1)) x.2 := by
  refine xC_of (by decide) (Nat.le_of_ble_eq_true rfl) hx (fun κ x => κ.2.2.2.1 = some (.int x.1) ∧ κ.2.2.2.2 = x.2) ⟨rfl, rfl⟩ (fun κ => ?_)
  show xJ iX9_from κ _ 0 [(0, .ref v0), (1, .int v1)] [] h (fX9_from v0 v1 h)
  unfold fX9_from
  refine j_iload_n 1 dX9_from_0 rfl rfl ?_
  refine j_i2l dX9_from_1 ?_
  refine j_lconst (x := 0) dX9_from_2 (by decide) ?_
  refine j_lconst (x := 1) dX9_from_3 (by decide) ?_
  refine j_callS (as := [.long ((v1 : Int32).toInt64), .long 0, .long 1]) (fun x => some (.int x)) (fun _ => h) dX9_from_4 ml_RX9_56 tg_X9_in st_X9_in (fun x hx => kX9_in κ.1 κ.2.1 ((v1 : Int32).toInt64) 0 1 h x hx) (by decide) (by decide) rfl rfl (Nat.le_of_ble_eq_true rfl) (fun x1 => ?_)
  show xJ iX9_from κ _ 7 [(0, .ref v0), (1, .int v1)] [.int x1] h _
  refine j_if_ne (tgt := 17) dX9_from_7 (by decide) (fun c2 => ?_) (fun c2 => ?_)
  · refine j_aload_n 0 dX9_from_10 rfl rfl ?_
    refine j_bipush (x := (-2)) dX9_from_11 (by decide) ?_
    refine j_callV (as := [.int (-2)]) (fun x => some (.int x.1)) (fun x => x.2) 9 18 dX9_from_13 ml_RX9_64 tg_X9_bad im_X9_bad se_X9_bad rfl (by decide) (fun x hx => kX9_bad κ.1 κ.2.1 v0 (-2) h x hx) (by decide) (by decide) rfl rfl (Nat.le_of_ble_eq_true rfl) (fun q3 => ?_)
    show xJ iX9_from κ _ 16 [(0, .ref v0), (1, .int v1)] [.int q3.1] q3.2 _
    exact j_iret (q3.1, q3.2) dX9_from_16 rfl (fun q => q)
  · refine j_aload_n 0 dX9_from_17 rfl rfl ?_
    refine j_getR 9 18 2 dX9_from_18 fl_RX9_16 (by decide) rfl (by decide) (fun _ _ _ => rfl) (fun x4 => ?_)
    refine j_iload_n 1 dX9_from_21 rfl rfl ?_
    refine j_zald dX9_from_22 (fun x5 => ?_)
    refine j_if_ne (tgt := 31) dX9_from_23 (by decide) (fun c6 => ?_) (fun c6 => ?_)
    · refine j_aload_n 0 dX9_from_26 rfl rfl ?_
      refine j_callV (as := []) (fun x => some (.int x.1)) (fun x => x.2) 9 18 dX9_from_27 ml_RX9_119 tg_X9_no im_X9_no se_X9_no rfl (by decide) (fun x hx => kX9_no κ.1 κ.2.1 v0 h x hx) (by decide) (by decide) rfl rfl (Nat.le_of_ble_eq_true rfl) (fun q7 => ?_)
      show xJ iX9_from κ _ 30 [(0, .ref v0), (1, .int v1)] [.int q7.1] q7.2 _
      exact j_iret (q7.1, q7.2) dX9_from_30 rfl (fun q => q)
    · refine j_iconst (x := 0) dX9_from_31 (by decide) ?_
      refine j_istore_n (L' := [(2, .int 0), (0, .ref v0), (1, .int v1)]) dX9_from_32 rfl (Nat.le_of_ble_eq_true rfl) rfl ?_
      refine j_pick [1, 2, 0] rfl ?_
      refine j_loop (pc := 33) (Lf := fun s33 : Int32 × Hp => [(0, .ref v0), (1, .int v1), (2, .int s33.1)]) (Hf := fun s33 : Int32 × Hp => s33.2) (fun s33 => ?_) 1000000 (0, h)
      show xJ iX9_from κ _ 33 [(0, .ref v0), (1, .int v1), (2, .int s33.1)] [] s33.2 (fX9_from_b33 v0 v1 s33)
      unfold fX9_from_b33
      refine j_iload_n 2 dX9_from_33 rfl rfl ?_
      refine j_bipush (x := 118) dX9_from_34 (by decide) ?_
      refine j_icmp_ge (tgt := 62) dX9_from_36 (by decide) (fun c8 => ?_) (fun c8 => ?_)
      · refine j_exit s33.2 ?_
        show xJ iX9_from κ _ _ _ _ _ (some (1, s33.2))
        refine j_iconst (x := 1) dX9_from_62 (by decide) ?_
        exact j_iret (1, s33.2) dX9_from_63 rfl (fun q => q)
      · refine j_aload_n 0 dX9_from_39 rfl rfl ?_
        refine j_getR 9 18 0 dX9_from_40 fl_RX9_7 (by decide) rfl (by decide) (fun _ _ _ => rfl) (fun x9 => ?_)
        refine j_iload_n 2 dX9_from_43 rfl rfl ?_
        refine j_aload_n 0 dX9_from_44 rfl rfl ?_
        refine j_getR 9 18 1 dX9_from_45 fl_RX9_13 (by decide) rfl (by decide) (fun _ _ _ => rfl) (fun x10 => ?_)
        refine j_bipush (x := 118) dX9_from_48 (by decide) ?_
        refine j_iload_n 1 dX9_from_50 rfl rfl ?_
        refine j_imul dX9_from_51 ?_
        refine j_iload_n 2 dX9_from_52 rfl rfl ?_
        refine j_iadd dX9_from_53 ?_
        refine j_iald dX9_from_54 (fun x11 => ?_)
        refine j_iast dX9_from_55 (fun h12 => ?_)
        refine j_iinc (y := s33.1 + 1) (L' := [(2, .int (s33.1 + 1)), (0, .ref v0), (1, .int v1)]) 2 dX9_from_56 rfl rfl (Nat.le_of_ble_eq_true rfl) rfl ?_
        refine j_goto (tgt := 33) dX9_from_59 (by decide) ?_
        refine j_pick [1, 2, 0] rfl ?_
        exact j_again (s33.1 + 1, h12) rfl rfl
def fX8_status (v0 : Nat) (v1 : Int32) (h : Hp) : Option (Int32 × Hp) :=
  if (v1 : Int32) = 0 then ((xgI h v0 (8, 12) 9).bind fun x2 => some (x2, h)) else if (v1 : Int32) = 1 then ((xgI h v0 (8, 12) 10).bind fun x4 => some (x4, h)) else if (v1 : Int32) = 2 then ((xgI h v0 (8, 12) 11).bind fun x6 => some (x6, h)) else ((xat h v0 (8, 12) (fX8_refuseBad v0 h)).bind fun q7 => some ((-1), q7.2))
abbrev iX8_status : xI := (cX8_status, yX8_status.cls, yX8_status.name, some .int, 2, 3)
set_option maxHeartbeats 4000000 in
set_option maxRecDepth 100000 in
theorem kX8_status (l : Launch) (η : xEnv) (v0 : Nat) (v1 : Int32) (h : Hp) (x : Int32 × Hp) (hx : fX8_status v0 v1 h = some x) : xC l η yX8_status cX8_status 2 (some .int) 3 [.ref v0, .int v1] h (some (.int x.1)) x.2 := by
  refine xC_of (by decide) (Nat.le_of_ble_eq_true rfl) hx (fun κ x => κ.2.2.2.1 = some (.int x.1) ∧ κ.2.2.2.2 = x.2) ⟨rfl, rfl⟩ (fun κ => ?_)
  show xJ iX8_status κ _ 0 [(0, .ref v0), (1, .int v1)] [] h (fX8_status v0 v1 h)
  unfold fX8_status
  refine j_iload_n 1 dX8_status_0 rfl rfl ?_
  refine j_tabv (w := 0) (off := 27) (tgt := 28) dX8_status_1 (by decide) (by decide) (by decide) (by decide) (fun c1 => ?_) (fun c1 => ?_)
  · refine j_aload_n 0 dX8_status_28 rfl rfl ?_
    refine j_getI 8 12 9 dX8_status_29 fl_RX8_285 (by decide) rfl (by decide) rfl (fun x2 => ?_)
    exact j_iret (x2, h) dX8_status_32 rfl (fun q => q)
  refine j_tabv (w := 1) (off := 32) (tgt := 33) dX8_status_1 (by decide) (by decide) (by decide) (by decide) (fun c3 => ?_) (fun c3 => ?_)
  · refine j_aload_n 0 dX8_status_33 rfl rfl ?_
    refine j_getI 8 12 10 dX8_status_34 fl_RX8_288 (by decide) rfl (by decide) rfl (fun x4 => ?_)
    exact j_iret (x4, h) dX8_status_37 rfl (fun q => q)
  refine j_tabv (w := 2) (off := 37) (tgt := 38) dX8_status_1 (by decide) (by decide) (by decide) (by decide) (fun c5 => ?_) (fun c5 => ?_)
  · refine j_aload_n 0 dX8_status_38 rfl rfl ?_
    refine j_getI 8 12 11 dX8_status_39 fl_RX8_291 (by decide) rfl (by decide) rfl (fun x6 => ?_)
    exact j_iret (x6, h) dX8_status_42 rfl (fun q => q)
  refine j_tabd (tgt := 43) dX8_status_1 (by have ec1 : (v1 : Int32).toInt ≠ 0 := fun q => c1 (Int32.toInt_inj.mp (q.trans (by decide))); have ec3 : (v1 : Int32).toInt ≠ 1 := fun q => c3 (Int32.toInt_inj.mp (q.trans (by decide))); have ec5 : (v1 : Int32).toInt ≠ 2 := fun q => c5 (Int32.toInt_inj.mp (q.trans (by decide))); omega) (by decide) ?_
  refine j_aload_n 0 dX8_status_43 rfl rfl ?_
  refine j_callV (as := []) (fun x => some (.int x.1)) (fun x => x.2) 8 12 dX8_status_44 ml_RX8_70 tg_X8_refuseBad im_X8_refuseBad se_X8_refuseBad rfl (by decide) (fun x hx => kX8_refuseBad κ.1 κ.2.1 v0 h x hx) (by decide) (by decide) rfl rfl (Nat.le_of_ble_eq_true rfl) (fun q7 => ?_)
  show xJ iX8_status κ _ 47 [(0, .ref v0), (1, .int v1)] [.int q7.1] q7.2 _
  refine j_pop dX8_status_47 rfl ?_
  refine j_iconst (x := (-1)) dX8_status_48 (by decide) ?_
  exact j_iret ((-1), q7.2) dX8_status_49 rfl (fun q => q)
def fX9_status_j26 (t0 : Int32) (h : Hp) : Option (Int32 × Hp) :=
  some (t0, h)
def fX9_status (v0 : Nat) (v1 : Int32) (h : Hp) : Option (Int32 × Hp) :=
  (fX9_in ((v1 : Int32).toInt64) 0 2 h).bind fun x1 => if (x1 : Int32) = 0 then ((xat h v0 (9, 18) (fX9_bad v0 (-1) h)).bind fun q3 => fX9_status_j26 q3.1 q3.2) else ((xgR h v0 (9, 18) 3).bind fun x4 => (xaI h x4 10 v1).bind fun x5 => fX9_status_j26 x5 h)
abbrev iX9_status : xI := (cX9_status, yX9_status.cls, yX9_status.name, some .int, 2, 3)
set_option maxHeartbeats 4000000 in
set_option maxRecDepth 100000 in
theorem kX9_status (l : Launch) (η : xEnv) (v0 : Nat) (v1 : Int32) (h : Hp) (x : Int32 × Hp) (hx : fX9_status v0 v1 h = some x) : xC l η yX9_status cX9_status 2 (some .int) 3 [.ref v0, .int v1] h (some (.int x.1)) x.2 := by
  refine xC_of (by decide) (Nat.le_of_ble_eq_true rfl) hx (fun κ x => κ.2.2.2.1 = some (.int x.1) ∧ κ.2.2.2.2 = x.2) ⟨rfl, rfl⟩ (fun κ => ?_)
  show xJ iX9_status κ _ 0 [(0, .ref v0), (1, .int v1)] [] h (fX9_status v0 v1 h)
  unfold fX9_status
  refine j_have (pj := 26) (Lf := fun v : Int32 × Hp => []) (Sf := fun v : Int32 × Hp => [.int v.1]) (Hf := fun v : Int32 × Hp => v.2) (jf := fun v : Int32 × Hp => fX9_status_j26 v.1 v.2) (fun v => ?_) (fun hj26 => ?_)
  · obtain ⟨t0, h⟩ := v
    show xJ iX9_status κ _ 26 [] [.int t0] h (fX9_status_j26 t0 h)
    unfold fX9_status_j26
    exact j_iret (t0, h) dX9_status_26 rfl (fun q => q)
  refine j_iload_n 1 dX9_status_0 rfl rfl ?_
  refine j_i2l dX9_status_1 ?_
  refine j_lconst (x := 0) dX9_status_2 (by decide) ?_
  refine j_ldc2 dX9_status_3 cL_RX9_131 ?_
  refine j_callS (as := [.long ((v1 : Int32).toInt64), .long 0, .long 2]) (fun x => some (.int x)) (fun _ => h) dX9_status_6 ml_RX9_56 tg_X9_in st_X9_in (fun x hx => kX9_in κ.1 κ.2.1 ((v1 : Int32).toInt64) 0 2 h x hx) (by decide) (by decide) rfl rfl (Nat.le_of_ble_eq_true rfl) (fun x1 => ?_)
  show xJ iX9_status κ _ 9 [(0, .ref v0), (1, .int v1)] [.int x1] h _
  refine j_if_eq (tgt := 21) dX9_status_9 (by decide) (fun c2 => ?_) (fun c2 => ?_)
  · refine j_aload_n 0 dX9_status_21 rfl rfl ?_
    refine j_iconst (x := (-1)) dX9_status_22 (by decide) ?_
    refine j_callV (as := [.int (-1)]) (fun x => some (.int x.1)) (fun x => x.2) 9 18 dX9_status_23 ml_RX9_64 tg_X9_bad im_X9_bad se_X9_bad rfl (by decide) (fun x hx => kX9_bad κ.1 κ.2.1 v0 (-1) h x hx) (by decide) (by decide) rfl rfl (Nat.le_of_ble_eq_true rfl) (fun q3 => ?_)
    show xJ iX9_status κ _ 26 [(0, .ref v0), (1, .int v1)] [.int q3.1] q3.2 _
    refine j_pick [] rfl ?_
    exact hj26 (q3.1, q3.2)
  · refine j_aload_n 0 dX9_status_12 rfl rfl ?_
    refine j_getR 9 18 3 dX9_status_13 fl_RX9_20 (by decide) rfl (by decide) (fun _ _ _ => rfl) (fun x4 => ?_)
    refine j_iload_n 1 dX9_status_16 rfl rfl ?_
    refine j_iald dX9_status_17 (fun x5 => ?_)
    refine j_goto (tgt := 26) dX9_status_18 (by decide) ?_
    refine j_pick [] rfl ?_
    exact hj26 (x5, h)
def fX0_countQuarrels_b4 (v0 : Nat) (h : Hp) (s4 : Int32 × Int32) : Option ((Int32 × Int32) ⊕ ((Int32))) :=
  (xgI h v0 (0, 16) 2).bind fun x1 => if (x1 : Int32) ≤ s4.2 then (some (Sum.inr s4.1)) else ((xgR h v0 (0, 16) 7).bind fun x4 => (xaI h x4 10 s4.2).bind fun x5 => (fJ6_bitCount_0f7a4 x5 h).bind fun x6 => some (Sum.inl (s4.1 + x6, s4.2 + 1)))
def fX0_countQuarrels (v0 : Nat) (h : Hp) : Option (Int32) :=
  (xloop (fX0_countQuarrels_b4 v0 h) 1000000 (0, 0)).bind (fun r4 => if (2 : Int32) = 0 then none else some (r4 / 2))
abbrev iX0_countQuarrels : xI := (cX0_countQuarrels, yX0_countQuarrels.cls, yX0_countQuarrels.name, some .int, 3, 3)
set_option maxHeartbeats 4000000 in
set_option maxRecDepth 100000 in
theorem kX0_countQuarrels (l : Launch) (η : xEnv) (v0 : Nat) (h : Hp) (x : Int32) (hx : fX0_countQuarrels v0 h = some x) : xC l η yX0_countQuarrels cX0_countQuarrels 3 (some .int) 3 [.ref v0] h (some (.int x)) h := by
  refine xC_of (by decide) (Nat.le_of_ble_eq_true rfl) hx (fun κ x => κ.2.2.2.1 = some (.int x) ∧ κ.2.2.2.2 = h) ⟨rfl, rfl⟩ (fun κ => ?_)
  show xJ iX0_countQuarrels κ _ 0 [(0, .ref v0)] [] h (fX0_countQuarrels v0 h)
  unfold fX0_countQuarrels
  refine j_iconst (x := 0) dX0_countQuarrels_0 (by decide) ?_
  refine j_istore_n (L' := [(1, .int 0), (0, .ref v0)]) dX0_countQuarrels_1 rfl (Nat.le_of_ble_eq_true rfl) rfl ?_
  refine j_iconst (x := 0) dX0_countQuarrels_2 (by decide) ?_
  refine j_istore_n (L' := [(2, .int 0), (1, .int 0), (0, .ref v0)]) dX0_countQuarrels_3 rfl (Nat.le_of_ble_eq_true rfl) rfl ?_
  refine j_pick [2, 1, 0] rfl ?_
  refine j_loop (pc := 4) (Lf := fun s4 : Int32 × Int32 => [(0, .ref v0), (1, .int s4.1), (2, .int s4.2)]) (Hf := fun s4 : Int32 × Int32 => h) (fun s4 => ?_) 1000000 (0, 0)
  show xJ iX0_countQuarrels κ _ 4 [(0, .ref v0), (1, .int s4.1), (2, .int s4.2)] [] h (fX0_countQuarrels_b4 v0 h s4)
  unfold fX0_countQuarrels_b4
  refine j_iload_n 2 dX0_countQuarrels_4 rfl rfl ?_
  refine j_aload_n 0 dX0_countQuarrels_5 rfl rfl ?_
  refine j_getI 0 16 2 dX0_countQuarrels_6 fl_RX0_57 (by decide) rfl (by decide) rfl (fun x1 => ?_)
  refine j_icmp_ge (tgt := 30) dX0_countQuarrels_9 (by decide) (fun c2 => ?_) (fun c2 => ?_)
  · refine j_exit s4.1 ?_
    show xJ iX0_countQuarrels κ _ _ _ _ _ (if (2 : Int32) = 0 then none else some (s4.1 / 2))
    refine j_iload_n 1 dX0_countQuarrels_30 rfl rfl ?_
    refine j_iconst (x := 2) dX0_countQuarrels_31 (by decide) ?_
    refine j_idiv dX0_countQuarrels_32 (fun c3 => ?_)
    exact j_iret (s4.1 / 2) dX0_countQuarrels_33 rfl (fun q => q)
  · refine j_iload_n 1 dX0_countQuarrels_12 rfl rfl ?_
    refine j_aload_n 0 dX0_countQuarrels_13 rfl rfl ?_
    refine j_getR 0 16 7 dX0_countQuarrels_14 fl_RX0_31 (by decide) rfl (by decide) (fun _ _ _ => rfl) (fun x4 => ?_)
    refine j_iload_n 2 dX0_countQuarrels_17 rfl rfl ?_
    refine j_iald dX0_countQuarrels_18 (fun x5 => ?_)
    refine j_callS (as := [.int x5]) (fun x => some (.int x)) (fun _ => h) dX0_countQuarrels_19 ml_RX0_116 tg_J6_bitCount_0f7a4 st_J6_bitCount_0f7a4 (fun x hx => kJ6_bitCount_0f7a4 κ.1 κ.2.1 x5 h x hx) (by decide) (by decide) rfl rfl (Nat.le_of_ble_eq_true rfl) (fun x6 => ?_)
    show xJ iX0_countQuarrels κ _ 22 [(0, .ref v0), (1, .int s4.1), (2, .int s4.2)] [.int x6, .int s4.1] h _
    refine j_iadd dX0_countQuarrels_22 ?_
    refine j_istore_n (L' := [(1, .int (s4.1 + x6)), (0, .ref v0), (2, .int s4.2)]) dX0_countQuarrels_23 rfl (Nat.le_of_ble_eq_true rfl) rfl ?_
    refine j_iinc (y := s4.2 + 1) (L' := [(2, .int (s4.2 + 1)), (1, .int (s4.1 + x6)), (0, .ref v0)]) 2 dX0_countQuarrels_24 rfl rfl (Nat.le_of_ble_eq_true rfl) rfl ?_
    refine j_goto (tgt := 4) dX0_countQuarrels_27 (by decide) ?_
    refine j_pick [2, 1, 0] rfl ?_
    exact j_again (s4.1 + x6, s4.2 + 1) rfl rfl
def fX0_countBridges_j22 (v0 : Nat) (v1 : Int32) (v2 : Int32) (h : Hp) : Option ((Int32 × Int32) ⊕ ((Int32))) :=
  some (Sum.inl (v1, v2 + 1))
def fX0_countBridges_b4 (v0 : Nat) (h : Hp) (s4 : Int32 × Int32) : Option ((Int32 × Int32) ⊕ ((Int32))) :=
  if (10 : Int32) ≤ s4.2 then (some (Sum.inr s4.1)) else ((xgR h v0 (0, 16) 1).bind fun x2 => (xaI h x2 10 s4.2).bind fun x3 => if (x3 : Int32) ≤ 0 then (fX0_countBridges_j22 v0 s4.1 s4.2 h) else (fX0_countBridges_j22 v0 (s4.1 + 1) s4.2 h))
def fX0_countBridges (v0 : Nat) (h : Hp) : Option (Int32) :=
  (xloop (fX0_countBridges_b4 v0 h) 1000000 (0, 0)).bind (fun r4 => some r4)
abbrev iX0_countBridges : xI := (cX0_countBridges, yX0_countBridges.cls, yX0_countBridges.name, some .int, 3, 2)
set_option maxHeartbeats 4000000 in
set_option maxRecDepth 100000 in
theorem kX0_countBridges (l : Launch) (η : xEnv) (v0 : Nat) (h : Hp) (x : Int32) (hx : fX0_countBridges v0 h = some x) : xC l η yX0_countBridges cX0_countBridges 3 (some .int) 2 [.ref v0] h (some (.int x)) h := by
  refine xC_of (by decide) (Nat.le_of_ble_eq_true rfl) hx (fun κ x => κ.2.2.2.1 = some (.int x) ∧ κ.2.2.2.2 = h) ⟨rfl, rfl⟩ (fun κ => ?_)
  show xJ iX0_countBridges κ _ 0 [(0, .ref v0)] [] h (fX0_countBridges v0 h)
  unfold fX0_countBridges
  refine j_iconst (x := 0) dX0_countBridges_0 (by decide) ?_
  refine j_istore_n (L' := [(1, .int 0), (0, .ref v0)]) dX0_countBridges_1 rfl (Nat.le_of_ble_eq_true rfl) rfl ?_
  refine j_iconst (x := 0) dX0_countBridges_2 (by decide) ?_
  refine j_istore_n (L' := [(2, .int 0), (1, .int 0), (0, .ref v0)]) dX0_countBridges_3 rfl (Nat.le_of_ble_eq_true rfl) rfl ?_
  refine j_pick [2, 1, 0] rfl ?_
  refine j_loop (pc := 4) (Lf := fun s4 : Int32 × Int32 => [(0, .ref v0), (1, .int s4.1), (2, .int s4.2)]) (Hf := fun s4 : Int32 × Int32 => h) (fun s4 => ?_) 1000000 (0, 0)
  show xJ iX0_countBridges κ _ 4 [(0, .ref v0), (1, .int s4.1), (2, .int s4.2)] [] h (fX0_countBridges_b4 v0 h s4)
  unfold fX0_countBridges_b4
  refine j_have (pj := 22) (Lf := fun v : Int32 × Int32 => [(0, .ref v0), (1, .int v.1), (2, .int v.2)]) (Sf := fun v : Int32 × Int32 => []) (Hf := fun v : Int32 × Int32 => h) (jf := fun v : Int32 × Int32 => fX0_countBridges_j22 v0 v.1 v.2 h) (fun v => ?_) (fun hj22 => ?_)
  · obtain ⟨v1, v2⟩ := v
    show xJ iX0_countBridges κ _ 22 [(0, .ref v0), (1, .int v1), (2, .int v2)] [] h (fX0_countBridges_j22 v0 v1 v2 h)
    unfold fX0_countBridges_j22
    refine j_iinc (y := v2 + 1) (L' := [(2, .int (v2 + 1)), (0, .ref v0), (1, .int v1)]) 2 dX0_countBridges_22 rfl rfl (Nat.le_of_ble_eq_true rfl) rfl ?_
    refine j_goto (tgt := 4) dX0_countBridges_25 (by decide) ?_
    refine j_pick [1, 2, 0] rfl ?_
    exact j_again (v1, v2 + 1) rfl rfl
  refine j_iload_n 2 dX0_countBridges_4 rfl rfl ?_
  refine j_bipush (x := 10) dX0_countBridges_5 (by decide) ?_
  refine j_icmp_ge (tgt := 28) dX0_countBridges_7 (by decide) (fun c1 => ?_) (fun c1 => ?_)
  · refine j_exit s4.1 ?_
    show xJ iX0_countBridges κ _ _ _ _ _ (some s4.1)
    refine j_iload_n 1 dX0_countBridges_28 rfl rfl ?_
    exact j_iret s4.1 dX0_countBridges_29 rfl (fun q => q)
  · refine j_aload_n 0 dX0_countBridges_10 rfl rfl ?_
    refine j_getR 0 16 1 dX0_countBridges_11 fl_RX0_15 (by decide) rfl (by decide) (fun _ _ _ => rfl) (fun x2 => ?_)
    refine j_iload_n 2 dX0_countBridges_14 rfl rfl ?_
    refine j_iald dX0_countBridges_15 (fun x3 => ?_)
    refine j_if_le (tgt := 22) dX0_countBridges_16 (by decide) (fun c4 => ?_) (fun c4 => ?_)
    · refine j_pick [0, 1, 2] rfl ?_
      exact hj22 (s4.1, s4.2)
    · refine j_iinc (y := s4.1 + 1) (L' := [(1, .int (s4.1 + 1)), (0, .ref v0), (2, .int s4.2)]) 1 dX0_countBridges_19 rfl rfl (Nat.le_of_ble_eq_true rfl) rfl ?_
      refine j_pick [1, 0, 2] rfl ?_
      exact hj22 (s4.1 + 1, s4.2)
def fX8_count (v0 : Nat) (v1 : Int32) (h : Hp) : Option (Int32 × Hp) :=
  if (v1 : Int32) = 0 then ((xgR h v0 (8, 12) 0).bind fun x2 => (xgI h x2 (0, 16) 2).bind fun x3 => some (x3, h)) else if (v1 : Int32) = 1 then ((xgR h v0 (8, 12) 0).bind fun x5 => (xgI h x5 (0, 16) 0).bind fun x6 => some (x6, h)) else if (v1 : Int32) = 2 then ((xgR h v0 (8, 12) 0).bind fun x8 => (xat h x8 (0, 16) (fX0_countQuarrels x8 h)).bind fun x9 => some (x9, h)) else if (v1 : Int32) = 3 then ((xgR h v0 (8, 12) 0).bind fun x11 => (xat h x11 (0, 16) (fX0_countBridges x11 h)).bind fun x12 => some (x12, h)) else if (v1 : Int32) = 4 then ((xgR h v0 (8, 12) 0).bind fun x14 => (xgI h x14 (0, 16) 8).bind fun x15 => some (x15, h)) else if (v1 : Int32) = 5 then ((xgR h v0 (8, 12) 0).bind fun x17 => (xgI h x17 (0, 16) 15).bind fun x18 => some (x18, h)) else if (v1 : Int32) = 6 then ((xgR h v0 (8, 12) 8).bind fun x20 => (xgI h x20 (4, 8) 1).bind fun x21 => some (x21, h)) else ((xat h v0 (8, 12) (fX8_refuseBad v0 h)).bind fun q22 => some (q22.1, q22.2))
abbrev iX8_count : xI := (cX8_count, yX8_count.cls, yX8_count.name, some .int, 2, 4)
set_option maxHeartbeats 4000000 in
set_option maxRecDepth 100000 in
theorem kX8_count (l : Launch) (η : xEnv) (v0 : Nat) (v1 : Int32) (h : Hp) (x : Int32 × Hp) (hx : fX8_count v0 v1 h = some x) : xC l η yX8_count cX8_count 2 (some .int) 4 [.ref v0, .int v1] h (some (.int x.1)) x.2 := by
  refine xC_of (by decide) (Nat.le_of_ble_eq_true rfl) hx (fun κ x => κ.2.2.2.1 = some (.int x.1) ∧ κ.2.2.2.2 = x.2) ⟨rfl, rfl⟩ (fun κ => ?_)
  show xJ iX8_count κ _ 0 [(0, .ref v0), (1, .int v1)] [] h (fX8_count v0 v1 h)
  unfold fX8_count
  refine j_iload_n 1 dX8_count_0 rfl rfl ?_
  refine j_tabv (w := 0) (off := 43) (tgt := 44) dX8_count_1 (by decide) (by decide) (by decide) (by decide) (fun c1 => ?_) (fun c1 => ?_)
  · refine j_aload_n 0 dX8_count_44 rfl rfl ?_
    refine j_getR 8 12 0 dX8_count_45 fl_RX8_12 (by decide) rfl (by decide) (fun _ _ _ => rfl) (fun x2 => ?_)
    refine j_getI 0 16 2 dX8_count_48 fl_RX8_74 (by decide) rfl (by decide) rfl (fun x3 => ?_)
    exact j_iret (x3, h) dX8_count_51 rfl (fun q => q)
  refine j_tabv (w := 1) (off := 51) (tgt := 52) dX8_count_1 (by decide) (by decide) (by decide) (by decide) (fun c4 => ?_) (fun c4 => ?_)
  · refine j_aload_n 0 dX8_count_52 rfl rfl ?_
    refine j_getR 8 12 0 dX8_count_53 fl_RX8_12 (by decide) rfl (by decide) (fun _ _ _ => rfl) (fun x5 => ?_)
    refine j_getI 0 16 0 dX8_count_56 fl_RX8_81 (by decide) rfl (by decide) rfl (fun x6 => ?_)
    exact j_iret (x6, h) dX8_count_59 rfl (fun q => q)
  refine j_tabv (w := 2) (off := 59) (tgt := 60) dX8_count_1 (by decide) (by decide) (by decide) (by decide) (fun c7 => ?_) (fun c7 => ?_)
  · refine j_aload_n 0 dX8_count_60 rfl rfl ?_
    refine j_getR 8 12 0 dX8_count_61 fl_RX8_12 (by decide) rfl (by decide) (fun _ _ _ => rfl) (fun x8 => ?_)
    refine j_callV (as := []) (fun x => some (.int x)) (fun _ => h) 0 16 dX8_count_64 ml_RX8_294 tg_X0_countQuarrels im_X0_countQuarrels se_X0_countQuarrels rfl (by decide) (fun x hx => kX0_countQuarrels κ.1 κ.2.1 x8 h x hx) (by decide) (by decide) rfl rfl (Nat.le_of_ble_eq_true rfl) (fun x9 => ?_)
    show xJ iX8_count κ _ 67 [(0, .ref v0), (1, .int v1)] [.int x9] h _
    exact j_iret (x9, h) dX8_count_67 rfl (fun q => q)
  refine j_tabv (w := 3) (off := 67) (tgt := 68) dX8_count_1 (by decide) (by decide) (by decide) (by decide) (fun c10 => ?_) (fun c10 => ?_)
  · refine j_aload_n 0 dX8_count_68 rfl rfl ?_
    refine j_getR 8 12 0 dX8_count_69 fl_RX8_12 (by decide) rfl (by decide) (fun _ _ _ => rfl) (fun x11 => ?_)
    refine j_callV (as := []) (fun x => some (.int x)) (fun _ => h) 0 16 dX8_count_72 ml_RX8_297 tg_X0_countBridges im_X0_countBridges se_X0_countBridges rfl (by decide) (fun x hx => kX0_countBridges κ.1 κ.2.1 x11 h x hx) (by decide) (by decide) rfl rfl (Nat.le_of_ble_eq_true rfl) (fun x12 => ?_)
    show xJ iX8_count κ _ 75 [(0, .ref v0), (1, .int v1)] [.int x12] h _
    exact j_iret (x12, h) dX8_count_75 rfl (fun q => q)
  refine j_tabv (w := 4) (off := 75) (tgt := 76) dX8_count_1 (by decide) (by decide) (by decide) (by decide) (fun c13 => ?_) (fun c13 => ?_)
  · refine j_aload_n 0 dX8_count_76 rfl rfl ?_
    refine j_getR 8 12 0 dX8_count_77 fl_RX8_12 (by decide) rfl (by decide) (fun _ _ _ => rfl) (fun x14 => ?_)
    refine j_getI 0 16 8 dX8_count_80 fl_RX8_240 (by decide) rfl (by decide) rfl (fun x15 => ?_)
    exact j_iret (x15, h) dX8_count_83 rfl (fun q => q)
  refine j_tabv (w := 5) (off := 83) (tgt := 84) dX8_count_1 (by decide) (by decide) (by decide) (by decide) (fun c16 => ?_) (fun c16 => ?_)
  · refine j_aload_n 0 dX8_count_84 rfl rfl ?_
    refine j_getR 8 12 0 dX8_count_85 fl_RX8_12 (by decide) rfl (by decide) (fun _ _ _ => rfl) (fun x17 => ?_)
    refine j_getI 0 16 15 dX8_count_88 fl_RX8_84 (by decide) rfl (by decide) rfl (fun x18 => ?_)
    exact j_iret (x18, h) dX8_count_91 rfl (fun q => q)
  refine j_tabv (w := 6) (off := 91) (tgt := 92) dX8_count_1 (by decide) (by decide) (by decide) (by decide) (fun c19 => ?_) (fun c19 => ?_)
  · refine j_aload_n 0 dX8_count_92 rfl rfl ?_
    refine j_getR 8 12 8 dX8_count_93 fl_RX8_62 (by decide) rfl (by decide) (fun _ _ _ => rfl) (fun x20 => ?_)
    refine j_getI 4 8 1 dX8_count_96 fl_RX8_113 (by decide) rfl (by decide) rfl (fun x21 => ?_)
    exact j_iret (x21, h) dX8_count_99 rfl (fun q => q)
  refine j_tabd (tgt := 100) dX8_count_1 (by have ec1 : (v1 : Int32).toInt ≠ 0 := fun q => c1 (Int32.toInt_inj.mp (q.trans (by decide))); have ec4 : (v1 : Int32).toInt ≠ 1 := fun q => c4 (Int32.toInt_inj.mp (q.trans (by decide))); have ec7 : (v1 : Int32).toInt ≠ 2 := fun q => c7 (Int32.toInt_inj.mp (q.trans (by decide))); have ec10 : (v1 : Int32).toInt ≠ 3 := fun q => c10 (Int32.toInt_inj.mp (q.trans (by decide))); have ec13 : (v1 : Int32).toInt ≠ 4 := fun q => c13 (Int32.toInt_inj.mp (q.trans (by decide))); have ec16 : (v1 : Int32).toInt ≠ 5 := fun q => c16 (Int32.toInt_inj.mp (q.trans (by decide))); have ec19 : (v1 : Int32).toInt ≠ 6 := fun q => c19 (Int32.toInt_inj.mp (q.trans (by decide))); omega) (by decide) ?_
  refine j_aload_n 0 dX8_count_100 rfl rfl ?_
  refine j_callV (as := []) (fun x => some (.int x.1)) (fun x => x.2) 8 12 dX8_count_101 ml_RX8_70 tg_X8_refuseBad im_X8_refuseBad se_X8_refuseBad rfl (by decide) (fun x hx => kX8_refuseBad κ.1 κ.2.1 v0 h x hx) (by decide) (by decide) rfl rfl (Nat.le_of_ble_eq_true rfl) (fun q22 => ?_)
  show xJ iX8_count κ _ 104 [(0, .ref v0), (1, .int v1)] [.int q22.1] q22.2 _
  exact j_iret (q22.1, q22.2) dX8_count_104 rfl (fun q => q)
def fX9_manyQuarrels_b4 (v0 : Nat) (h : Hp) (s4 : Int32 × Int32) : Option ((Int32 × Int32) ⊕ ((Int32))) :=
  (xat h v0 (9, 18) (fX9_many v0 h)).bind fun x1 => if (x1 : Int32) ≤ s4.2 then (some (Sum.inr s4.1)) else ((xgR h v0 (9, 18) 0).bind fun x4 => (xaI h x4 10 (47 + s4.2)).bind fun x5 => (fX9_bits x5 h).bind fun x6 => some (Sum.inl (s4.1 + x6, s4.2 + 1)))
def fX9_manyQuarrels (v0 : Nat) (h : Hp) : Option (Int32) :=
  (xloop (fX9_manyQuarrels_b4 v0 h) 1000000 (0, 0)).bind (fun r4 => if (2 : Int32) = 0 then none else some (r4 / 2))
abbrev iX9_manyQuarrels : xI := (cX9_manyQuarrels, yX9_manyQuarrels.cls, yX9_manyQuarrels.name, some .int, 3, 3)
set_option maxHeartbeats 4000000 in
set_option maxRecDepth 100000 in
theorem kX9_manyQuarrels (l : Launch) (η : xEnv) (v0 : Nat) (h : Hp) (x : Int32) (hx : fX9_manyQuarrels v0 h = some x) : xC l η yX9_manyQuarrels cX9_manyQuarrels 3 (some .int) 3 [.ref v0] h (some (.int x)) h := by
  refine xC_of (by decide) (Nat.le_of_ble_eq_true rfl) hx (fun κ x => κ.2.2.2.1 = some (.int x) ∧ κ.2.2.2.2 = h) ⟨rfl, rfl⟩ (fun κ => ?_)
  show xJ iX9_manyQuarrels κ _ 0 [(0, .ref v0)] [] h (fX9_manyQuarrels v0 h)
  unfold fX9_manyQuarrels
  refine j_iconst (x := 0) dX9_manyQuarrels_0 (by decide) ?_
  refine j_istore_n (L' := [(1, .int 0), (0, .ref v0)]) dX9_manyQuarrels_1 rfl (Nat.le_of_ble_eq_true rfl) rfl ?_
  refine j_iconst (x := 0) dX9_manyQuarrels_2 (by decide) ?_
  refine j_istore_n (L' := [(2, .int 0), (1, .int 0), (0, .ref v0)]) dX9_manyQuarrels_3 rfl (Nat.le_of_ble_eq_true rfl) rfl ?_
  refine j_pick [2, 1, 0] rfl ?_
  refine j_loop (pc := 4) (Lf := fun s4 : Int32 × Int32 => [(0, .ref v0), (1, .int s4.1), (2, .int s4.2)]) (Hf := fun s4 : Int32 × Int32 => h) (fun s4 => ?_) 1000000 (0, 0)
  show xJ iX9_manyQuarrels κ _ 4 [(0, .ref v0), (1, .int s4.1), (2, .int s4.2)] [] h (fX9_manyQuarrels_b4 v0 h s4)
  unfold fX9_manyQuarrels_b4
  refine j_iload_n 2 dX9_manyQuarrels_4 rfl rfl ?_
  refine j_aload_n 0 dX9_manyQuarrels_5 rfl rfl ?_
  refine j_callV (as := []) (fun x => some (.int x)) (fun _ => h) 9 18 dX9_manyQuarrels_6 ml_RX9_52 tg_X9_many im_X9_many se_X9_many rfl (by decide) (fun x hx => kX9_many κ.1 κ.2.1 v0 h x hx) (by decide) (by decide) rfl rfl (Nat.le_of_ble_eq_true rfl) (fun x1 => ?_)
  show xJ iX9_manyQuarrels κ _ 9 [(0, .ref v0), (1, .int s4.1), (2, .int s4.2)] [.int x1, .int s4.2] h _
  refine j_icmp_ge (tgt := 33) dX9_manyQuarrels_9 (by decide) (fun c2 => ?_) (fun c2 => ?_)
  · refine j_exit s4.1 ?_
    show xJ iX9_manyQuarrels κ _ _ _ _ _ (if (2 : Int32) = 0 then none else some (s4.1 / 2))
    refine j_iload_n 1 dX9_manyQuarrels_33 rfl rfl ?_
    refine j_iconst (x := 2) dX9_manyQuarrels_34 (by decide) ?_
    refine j_idiv dX9_manyQuarrels_35 (fun c3 => ?_)
    exact j_iret (s4.1 / 2) dX9_manyQuarrels_36 rfl (fun q => q)
  · refine j_iload_n 1 dX9_manyQuarrels_12 rfl rfl ?_
    refine j_aload_n 0 dX9_manyQuarrels_13 rfl rfl ?_
    refine j_getR 9 18 0 dX9_manyQuarrels_14 fl_RX9_7 (by decide) rfl (by decide) (fun _ _ _ => rfl) (fun x4 => ?_)
    refine j_bipush (x := 47) dX9_manyQuarrels_17 (by decide) ?_
    refine j_iload_n 2 dX9_manyQuarrels_19 rfl rfl ?_
    refine j_iadd dX9_manyQuarrels_20 ?_
    refine j_iald dX9_manyQuarrels_21 (fun x5 => ?_)
    refine j_callS (as := [.int x5]) (fun x => some (.int x)) (fun _ => h) dX9_manyQuarrels_22 ml_RX9_105 tg_X9_bits st_X9_bits (fun x hx => kX9_bits κ.1 κ.2.1 x5 h x hx) (by decide) (by decide) rfl rfl (Nat.le_of_ble_eq_true rfl) (fun x6 => ?_)
    show xJ iX9_manyQuarrels κ _ 25 [(0, .ref v0), (1, .int s4.1), (2, .int s4.2)] [.int x6, .int s4.1] h _
    refine j_iadd dX9_manyQuarrels_25 ?_
    refine j_istore_n (L' := [(1, .int (s4.1 + x6)), (0, .ref v0), (2, .int s4.2)]) dX9_manyQuarrels_26 rfl (Nat.le_of_ble_eq_true rfl) rfl ?_
    refine j_iinc (y := s4.2 + 1) (L' := [(2, .int (s4.2 + 1)), (1, .int (s4.1 + x6)), (0, .ref v0)]) 2 dX9_manyQuarrels_27 rfl rfl (Nat.le_of_ble_eq_true rfl) rfl ?_
    refine j_goto (tgt := 4) dX9_manyQuarrels_30 (by decide) ?_
    refine j_pick [2, 1, 0] rfl ?_
    exact j_again (s4.1 + x6, s4.2 + 1) rfl rfl
