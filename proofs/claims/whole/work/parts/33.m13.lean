def fX0_countQuarrels_b4 (v0 : Nat) (h : Hp) (s4 : Int32 × Int32) : Option ((Int32 × Int32) ⊕ ((Int32))) :=
  (xgI h v0 (0, 16) 2).bind fun x1 => if (x1 : Int32) ≤ s4.2 then (some (Sum.inr s4.1)) else ((xgR h v0 (0, 16) 7).bind fun x4 => (xaI h x4 10 s4.2).bind fun x5 => (fJ6_bitCount_0f7a4 x5 h).bind fun x6 => some (Sum.inl (s4.1 + x6, s4.2 + 1)))
def fX0_countQuarrels (v0 : Nat) (h : Hp) : Option (Int32) :=
  (xloop (fX0_countQuarrels_b4 v0 h) 1000000 (0, 0)).bind (fun r4 => if (2 : Int32) = 0 then none else some (r4 / 2))
abbrev iX0_countQuarrels : xI := (cX0_countQuarrels, yX0_countQuarrels.cls, yX0_countQuarrels.name, some .int, 3, 3)
set_option maxHeartbeats 4000000 in
set_option maxRecDepth 100000 in
theorem kX0_countQuarrels (l : Launch) (η : xEnv) (v0 : Nat) (h : Hp) (x : Int32) (hx : fX0_countQuarrels v0 h = some x) : xC l η yX0_countQuarrels cX0_countQuarrels 3 (some .int) 3 [.ref v0] h (some (.int x)) h := by
  refine xC_of (by decide) (Nat.le_of_ble_eq_true rfl) hx (fun κ x => κ.2.2.2.1 = some (.int x) ∧ κ.2.2.2.2 = h) ⟨rfl, rfl⟩ (fun κ => ?_)
  show xJ iX0_countQuarrels κ _ 0 [(0, .ref v0)] [] h (fX0_countQuarrels v0 h)
  unfold fX0_countQuarrels
  refine j_iconst (x := 0) dX0_countQuarrels_0 (by decide) ?_
  refine j_istore_n (L' := [(1, .int 0), (0, .ref v0)]) dX0_countQuarrels_1 rfl (Nat.le_of_ble_eq_true rfl) rfl ?_
  refine j_iconst (x := 0) dX0_countQuarrels_2 (by decide) ?_
  refine j_istore_n (L' := [(2, .int 0), (1, .int 0), (0, .ref v0)]) dX0_countQuarrels_3 rfl (Nat.le_of_ble_eq_true rfl) rfl ?_
  refine j_pick [2, 1, 0] rfl ?_
  refine j_loop (pc := 4) (Lf := fun s4 : Int32 × Int32 => [(0, .ref v0), (1, .int s4.1), (2, .int s4.2)]) (Hf := fun s4 : Int32 × Int32 => h) (fun s4 => ?_) 1000000 (0, 0)
  show xJ iX0_countQuarrels κ _ 4 [(0, .ref v0), (1, .int s4.1), (2, .int s4.2)] [] h (fX0_countQuarrels_b4 v0 h s4)
  unfold fX0_countQuarrels_b4
  refine j_iload_n 2 dX0_countQuarrels_4 rfl rfl ?_
  refine j_aload_n 0 dX0_countQuarrels_5 rfl rfl ?_
  refine j_getI 0 16 2 dX0_countQuarrels_6 fl_RX0_57 (by decide) rfl (by decide) rfl (fun x1 => ?_)
  refine j_icmp_ge (tgt := 30) dX0_countQuarrels_9 (by decide) (fun c2 => ?_) (fun c2 => ?_)
  · refine j_exit s4.1 ?_
    show xJ iX0_countQuarrels κ _ _ _ _ _ (if (2 : Int32) = 0 then none else some (s4.1 / 2))
    refine j_iload_n 1 dX0_countQuarrels_30 rfl rfl ?_
    refine j_iconst (x := 2) dX0_countQuarrels_31 (by decide) ?_
    refine j_idiv dX0_countQuarrels_32 (fun c3 => ?_)
    exact j_iret (s4.1 / 2) dX0_countQuarrels_33 rfl (fun q => q)
  · refine j_iload_n 1 dX0_countQuarrels_12 rfl rfl ?_
    refine j_aload_n 0 dX0_countQuarrels_13 rfl rfl ?_
    refine j_getR 0 16 7 dX0_countQuarrels_14 fl_RX0_31 (by decide) rfl (by decide) (fun _ _ _ => rfl) (fun x4 => ?_)
    refine j_iload_n 2 dX0_countQuarrels_17 rfl rfl ?_
    refine j_iald dX0_countQuarrels_18 (fun x5 => ?_)
    refine j_callS (as := [.int x5]) (fun x => some (.int x)) (fun _ => h) dX0_countQuarrels_19 ml_RX0_116 tg_J6_bitCount_0f7a4 st_J6_bitCount_0f7a4 (fun x hx => kJ6_bitCount_0f7a4 κ.1 κ.2.1 x5 h x hx) (by decide) (by decide) rfl rfl (Nat.le_of_ble_eq_true rfl) (fun x6 => ?_)
    show xJ iX0_countQuarrels κ _ 22 [(0, .ref v0), (1, .int s4.1), (2, .int s4.2)] [.int x6, .int s4.1] h _
    refine j_iadd dX0_countQuarrels_22 ?_
    refine j_istore_n (L' := [(1, .int (s4.1 + x6)), (0, .ref v0), (2, .int s4.2)]) dX0_countQuarrels_23 rfl (Nat.le_of_ble_eq_true rfl) rfl ?_
    refine j_iinc (y := s4.2 + 1) (L' := [(2, .int (s4.2 + 1)), (1, .int (s4.1 + x6)), (0, .ref v0)]) 2 dX0_countQuarrels_24 rfl rfl (Nat.le_of_ble_eq_true rfl) rfl ?_
    refine j_goto (tgt := 4) dX0_countQuarrels_27 (by decide) ?_
    refine j_pick [2, 1, 0] rfl ?_
    exact j_again (s4.1 + x6, s4.2 + 1) rfl rfl
def fX0_countBridges_j22 (v0 : Nat) (v1 : Int32) (v2 : Int32) (h : Hp) : Option ((Int32 × Int32) ⊕ ((Int32))) :=
  some (Sum.inl (v1, v2 + 1))
def fX0_countBridges_b4 (v0 : Nat) (h : Hp) (s4 : Int32 × Int32) : Option ((Int32 × Int32) ⊕ ((Int32))) :=
  if (10 : Int32) ≤ s4.2 then (some (Sum.inr s4.1)) else ((xgR h v0 (0, 16) 1).bind fun x2 => (xaI h x2 10 s4.2).bind fun x3 => if (x3 : Int32) ≤ 0 then (fX0_countBridges_j22 v0 s4.1 s4.2 h) else (fX0_countBridges_j22 v0 (s4.1 + 1) s4.2 h))
def fX0_countBridges (v0 : Nat) (h : Hp) : Option (Int32) :=
  (xloop (fX0_countBridges_b4 v0 h) 1000000 (0, 0)).bind (fun r4 => some r4)
abbrev iX0_countBridges : xI := (cX0_countBridges, yX0_countBridges.cls, yX0_countBridges.name, some .int, 3, 2)
set_option maxHeartbeats 4000000 in
set_option maxRecDepth 100000 in
theorem kX0_countBridges (l : Launch) (η : xEnv) (v0 : Nat) (h : Hp) (x : Int32) (hx : fX0_countBridges v0 h = some x) : xC l η yX0_countBridges cX0_countBridges 3 (some .int) 2 [.ref v0] h (some (.int x)) h := by
  refine xC_of (by decide) (Nat.le_of_ble_eq_true rfl) hx (fun κ x => κ.2.2.2.1 = some (.int x) ∧ κ.2.2.2.2 = h) ⟨rfl, rfl⟩ (fun κ => ?_)
  show xJ iX0_countBridges κ _ 0 [(0, .ref v0)] [] h (fX0_countBridges v0 h)
  unfold fX0_countBridges
  refine j_iconst (x := 0) dX0_countBridges_0 (by decide) ?_
  refine j_istore_n (L' := [(1, .int 0), (0, .ref v0)]) dX0_countBridges_1 rfl (Nat.le_of_ble_eq_true rfl) rfl ?_
  refine j_iconst (x := 0) dX0_countBridges_2 (by decide) ?_
  refine j_istore_n (L' := [(2, .int 0), (1, .int 0), (0, .ref v0)]) dX0_countBridges_3 rfl (Nat.le_of_ble_eq_true rfl) rfl ?_
  refine j_pick [2, 1, 0] rfl ?_
  refine j_loop (pc := 4) (Lf := fun s4 : Int32 × Int32 => [(0, .ref v0), (1, .int s4.1), (2, .int s4.2)]) (Hf := fun s4 : Int32 × Int32 => h) (fun s4 => ?_) 1000000 (0, 0)
  show xJ iX0_countBridges κ _ 4 [(0, .ref v0), (1, .int s4.1), (2, .int s4.2)] [] h (fX0_countBridges_b4 v0 h s4)
  unfold fX0_countBridges_b4
  refine j_have (pj := 22) (Lf := fun v : Int32 × Int32 => [(0, .ref v0), (1, .int v.1), (2, .int v.2)]) (Sf := fun v : Int32 × Int32 => []) (Hf := fun v : Int32 × Int32 => h) (jf := fun v : Int32 × Int32 => fX0_countBridges_j22 v0 v.1 v.2 h) (fun v => ?_) (fun hj22 => ?_)
  · obtain ⟨v1, v2⟩ := v
    show xJ iX0_countBridges κ _ 22 [(0, .ref v0), (1, .int v1), (2, .int v2)] [] h (fX0_countBridges_j22 v0 v1 v2 h)
    unfold fX0_countBridges_j22
    refine j_iinc (y := v2 + 1) (L' := [(2, .int (v2 + 1)), (0, .ref v0), (1, .int v1)]) 2 dX0_countBridges_22 rfl rfl (Nat.le_of_ble_eq_true rfl) rfl ?_
    refine j_goto (tgt := 4) dX0_countBridges_25 (by decide) ?_
    refine j_pick [1, 2, 0] rfl ?_
    exact j_again (v1, v2 + 1) rfl rfl
  refine j_iload_n 2 dX0_countBridges_4 rfl rfl ?_
  refine j_bipush (x := 10) dX0_countBridges_5 (by decide) ?_
  refine j_icmp_ge (tgt := 28) dX0_countBridges_7 (by decide) (fun c1 => ?_) (fun c1 => ?_)
  · refine j_exit s4.1 ?_
    show xJ iX0_countBridges κ _ _ _ _ _ (some s4.1)
    refine j_iload_n 1 dX0_countBridges_28 rfl rfl ?_
    exact j_iret s4.1 dX0_countBridges_29 rfl (fun q => q)
  · refine j_aload_n 0 dX0_countBridges_10 rfl rfl ?_
    refine j_getR 0 16 1 dX0_countBridges_11 fl_RX0_15 (by decide) rfl (by decide) (fun _ _ _ => rfl) (fun x2 => ?_)
    refine j_iload_n 2 dX0_countBridges_14 rfl rfl ?_
    refine j_iald dX0_countBridges_15 (fun x3 => ?_)
    refine j_if_le (tgt := 22) dX0_countBridges_16 (by decide) (fun c4 => ?_) (fun c4 => ?_)
    · refine j_pick [0, 1, 2] rfl ?_
      exact hj22 (s4.1, s4.2)
    · refine j_iinc (y := s4.1 + 1) (L' := [(1, .int (s4.1 + 1)), (0, .ref v0), (2, .int s4.2)]) 1 dX0_countBridges_19 rfl rfl (Nat.le_of_ble_eq_true rfl) rfl ?_
      refine j_pick [1, 0, 2] rfl ?_
      exact hj22 (s4.1 + 1, s4.2)
def fX8_count (v0 : Nat) (v1 : Int32) (h : Hp) : Option (Int32 × Hp) :=
  if (v1 : Int32) = 0 then ((xgR h v0 (8, 12) 0).bind fun x2 => (xgI h x2 (0, 16) 2).bind fun x3 => some (x3, h)) else if (v1 : Int32) = 1 then ((xgR h v0 (8, 12) 0).bind fun x5 => (xgI h x5 (0, 16) 0).bind fun x6 => some (x6, h)) else if (v1 : Int32) = 2 then ((xgR h v0 (8, 12) 0).bind fun x8 => (xat h x8 (0, 16) (fX0_countQuarrels x8 h)).bind fun x9 => some (x9, h)) else if (v1 : Int32) = 3 then ((xgR h v0 (8, 12) 0).bind fun x11 => (xat h x11 (0, 16) (fX0_countBridges x11 h)).bind fun x12 => some (x12, h)) else if (v1 : Int32) = 4 then ((xgR h v0 (8, 12) 0).bind fun x14 => (xgI h x14 (0, 16) 8).bind fun x15 => some (x15, h)) else if (v1 : Int32) = 5 then ((xgR h v0 (8, 12) 0).bind fun x17 => (xgI h x17 (0, 16) 15).bind fun x18 => some (x18, h)) else if (v1 : Int32) = 6 then ((xgR h v0 (8, 12) 8).bind fun x20 => (xgI h x20 (4, 8) 1).bind fun x21 => some (x21, h)) else ((xat h v0 (8, 12) (fX8_refuseBad v0 h)).bind fun q22 => some (q22.1, q22.2))
abbrev iX8_count : xI := (cX8_count, yX8_count.cls, yX8_count.name, some .int, 2, 4)
set_option maxHeartbeats 4000000 in
set_option maxRecDepth 100000 in
theorem kX8_count (l : Launch) (η : xEnv) (v0 : Nat) (v1 : Int32) (h : Hp) (x : Int32 × Hp) (hx : fX8_count v0 v1 h = some x) : xC l η yX8_count cX8_count 2 (some .int) 4 [.ref v0, .int v1] h (some (.int x.1)) x.2 := by
  refine xC_of (by decide) (Nat.le_of_ble_eq_true rfl) hx (fun κ x => κ.2.2.2.1 = some (.int x.1) ∧ κ.2.2.2.2 = x.2) ⟨rfl, rfl⟩ (fun κ => ?_)
  show xJ iX8_count κ _ 0 [(0, .ref v0), (1, .int v1)] [] h (fX8_count v0 v1 h)
  unfold fX8_count
  refine j_iload_n 1 dX8_count_0 rfl rfl ?_
  refine j_tabv (w := 0) (off := 43) (tgt := 44) dX8_count_1 (by decide) (by decide) (by decide) (by decide) (fun c1 => ?_) (fun c1 => ?_)
  · refine j_aload_n 0 dX8_count_44 rfl rfl ?_
    refine j_getR 8 12 0 dX8_count_45 fl_RX8_12 (by decide) rfl (by decide) (fun _ _ _ => rfl) (fun x2 => ?_)
    refine j_getI 0 16 2 dX8_count_48 fl_RX8_74 (by decide) rfl (by decide) rfl (fun x3 => ?_)
    exact j_iret (x3, h) dX8_count_51 rfl (fun q => q)
  refine j_tabv (w := 1) (off := 51) (tgt := 52) dX8_count_1 (by decide) (by decide) (by decide) (by decide) (fun c4 => ?_) (fun c4 => ?_)
  · refine j_aload_n 0 dX8_count_52 rfl rfl ?_
    refine j_getR 8 12 0 dX8_count_53 fl_RX8_12 (by decide) rfl (by decide) (fun _ _ _ => rfl) (fun x5 => ?_)
    refine j_getI 0 16 0 dX8_count_56 fl_RX8_81 (by decide) rfl (by decide) rfl (fun x6 => ?_)
    exact j_iret (x6, h) dX8_count_59 rfl (fun q => q)
  refine j_tabv (w := 2) (off := 59) (tgt := 60) dX8_count_1 (by decide) (by decide) (by decide) (by decide) (fun c7 => ?_) (fun c7 => ?_)
  · refine j_aload_n 0 dX8_count_60 rfl rfl ?_
    refine j_getR 8 12 0 dX8_count_61 fl_RX8_12 (by decide) rfl (by decide) (fun _ _ _ => rfl) (fun x8 => ?_)
    refine j_callV (as := []) (fun x => some (.int x)) (fun _ => h) 0 16 dX8_count_64 ml_RX8_294 tg_X0_countQuarrels im_X0_countQuarrels se_X0_countQuarrels rfl (by decide) (fun x hx => kX0_countQuarrels κ.1 κ.2.1 x8 h x hx) (by decide) (by decide) rfl rfl (Nat.le_of_ble_eq_true rfl) (fun x9 => ?_)
    show xJ iX8_count κ _ 67 [(0, .ref v0), (1, .int v1)] [.int x9] h _
    exact j_iret (x9, h) dX8_count_67 rfl (fun q => q)
  refine j_tabv (w := 3) (off := 67) (tgt := 68) dX8_count_1 (by decide) (by decide) (by decide) (by decide) (fun c10 => ?_) (fun c10 => ?_)
  · refine j_aload_n 0 dX8_count_68 rfl rfl ?_
    refine j_getR 8 12 0 dX8_count_69 fl_RX8_12 (by decide) rfl (by decide) (fun _ _ _ => rfl) (fun x11 => ?_)
    refine j_callV (as := []) (fun x => some (.int x)) (fun _ => h) 0 16 dX8_count_72 ml_RX8_297 tg_X0_countBridges im_X0_countBridges se_X0_countBridges rfl (by decide) (fun x hx => kX0_countBridges κ.1 κ.2.1 x11 h x hx) (by decide) (by decide) rfl rfl (Nat.le_of_ble_eq_true rfl) (fun x12 => ?_)
    show xJ iX8_count κ _ 75 [(0, .ref v0), (1, .int v1)] [.int x12] h _
    exact j_iret (x12, h) dX8_count_75 rfl (fun q => q)
  refine j_tabv (w := 4) (off := 75) (tgt := 76) dX8_count_1 (by decide) (by decide) (by decide) (by decide) (fun c13 => ?_) (fun c13 => ?_)
  · refine j_aload_n 0 dX8_count_76 rfl rfl ?_
    refine j_getR 8 12 0 dX8_count_77 fl_RX8_12 (by decide) rfl (by decide) (fun _ _ _ => rfl) (fun x14 => ?_)
    refine j_getI 0 16 8 dX8_count_80 fl_RX8_240 (by decide) rfl (by decide) rfl (fun x15 => ?_)
    exact j_iret (x15, h) dX8_count_83 rfl (fun q => q)
  refine j_tabv (w := 5) (off := 83) (tgt := 84) dX8_count_1 (by decide) (by decide) (by decide) (by decide) (fun c16 => ?_) (fun c16 => ?_)
  · refine j_aload_n 0 dX8_count_84 rfl rfl ?_
    refine j_getR 8 12 0 dX8_count_85 fl_RX8_12 (by decide) rfl (by decide) (fun _ _ _ => rfl) (fun x17 => ?_)
    refine j_getI 0 16 15 dX8_count_88 fl_RX8_84 (by decide) rfl (by decide) rfl (fun x18 => ?_)
    exact j_iret (x18, h) dX8_count_91 rfl (fun q => q)
  refine j_tabv (w := 6) (off := 91) (tgt := 92) dX8_count_1 (by decide) (by decide) (by decide) (by decide) (fun c19 => ?_) (fun c19 => ?_)
  · refine j_aload_n 0 dX8_count_92 rfl rfl ?_
    refine j_getR 8 12 8 dX8_count_93 fl_RX8_62 (by decide) rfl (by decide) (fun _ _ _ => rfl) (fun x20 => ?_)
    refine j_getI 4 8 1 dX8_count_96 fl_RX8_113 (by decide) rfl (by decide) rfl (fun x21 => ?_)
    exact j_iret (x21, h) dX8_count_99 rfl (fun q => q)
  refine j_tabd (tgt := 100) dX8_count_1 (by have ec1 : (v1 : Int32).toInt ≠ 0 := fun q => c1 (Int32.toInt_inj.mp (q.trans (by decide))); have ec4 : (v1 : Int32).toInt ≠ 1 := fun q => c4 (Int32.toInt_inj.mp (q.trans (by decide))); have ec7 : (v1 : Int32).toInt ≠ 2 := fun q => c7 (Int32.toInt_inj.mp (q.trans (by decide))); have ec10 : (v1 : Int32).toInt ≠ 3 := fun q => c10 (Int32.toInt_inj.mp (q.trans (by decide))); have ec13 : (v1 : Int32).toInt ≠ 4 := fun q => c13 (Int32.toInt_inj.mp (q.trans (by decide))); have ec16 : (v1 : Int32).toInt ≠ 5 := fun q => c16 (Int32.toInt_inj.mp (q.trans (by decide))); have ec19 : (v1 : Int32).toInt ≠ 6 := fun q => c19 (Int32.toInt_inj.mp (q.trans (by decide))); omega) (by decide) ?_
  refine j_aload_n 0 dX8_count_100 rfl rfl ?_
  refine j_callV (as := []) (fun x => some (.int x.1)) (fun x => x.2) 8 12 dX8_count_101 ml_RX8_70 tg_X8_refuseBad im_X8_refuseBad se_X8_refuseBad rfl (by decide) (fun x hx => kX8_refuseBad κ.1 κ.2.1 v0 h x hx) (by decide) (by decide) rfl rfl (Nat.le_of_ble_eq_true rfl) (fun q22 => ?_)
  show xJ iX8_count κ _ 104 [(0, .ref v0), (1, .int v1)] [.int q22.1] q22.2 _
  exact j_iret (q22.1, q22.2) dX8_count_104 rfl (fun q => q)
def fX9_manyQuarrels_b4 (v0 : Nat) (h : Hp) (s4 : Int32 × Int32) : Option ((Int32 × Int32) ⊕ ((Int32))) :=
  (xat h v0 (9, 18) (fX9_many v0 h)).bind fun x1 => if (x1 : Int32) ≤ s4.2 then (some (Sum.inr s4.1)) else ((xgR h v0 (9, 18) 0).bind fun x4 => (xaI h x4 10 (47 + s4.2)).bind fun x5 => (fX9_bits x5 h).bind fun x6 => some (Sum.inl (s4.1 + x6, s4.2 + 1)))
def fX9_manyQuarrels (v0 : Nat) (h : Hp) : Option (Int32) :=
  (xloop (fX9_manyQuarrels_b4 v0 h) 1000000 (0, 0)).bind (fun r4 => if (2 : Int32) = 0 then none else some (r4 / 2))
abbrev iX9_manyQuarrels : xI := (cX9_manyQuarrels, yX9_manyQuarrels.cls, yX9_manyQuarrels.name, some .int, 3, 3)
set_option maxHeartbeats 4000000 in
set_option maxRecDepth 100000 in
theorem kX9_manyQuarrels (l : Launch) (η : xEnv) (v0 : Nat) (h : Hp) (x : Int32) (hx : fX9_manyQuarrels v0 h = some x) : xC l η yX9_manyQuarrels cX9_manyQuarrels 3 (some .int) 3 [.ref v0] h (some (.int x)) h := by
  refine xC_of (by decide) (Nat.le_of_ble_eq_true rfl) hx (fun κ x => κ.2.2.2.1 = some (.int x) ∧ κ.2.2.2.2 = h) ⟨rfl, rfl⟩ (fun κ => ?_)
  show xJ iX9_manyQuarrels κ _ 0 [(0, .ref v0)] [] h (fX9_manyQuarrels v0 h)
  unfold fX9_manyQuarrels
  refine j_iconst (x := 0) dX9_manyQuarrels_0 (by decide) ?_
  refine j_istore_n (L' := [(1, .int 0), (0, .ref v0)]) dX9_manyQuarrels_1 rfl (Nat.le_of_ble_eq_true rfl) rfl ?_
  refine j_iconst (x := 0) dX9_manyQuarrels_2 (by decide) ?_
  refine j_istore_n (L' := [(2, .int 0), (1, .int 0), (0, .ref v0)]) dX9_manyQuarrels_3 rfl (Nat.le_of_ble_eq_true rfl) rfl ?_
  refine j_pick [2, 1, 0] rfl ?_
  refine j_loop (pc := 4) (Lf := fun s4 : Int32 × Int32 => [(0, .ref v0), (1, .int s4.1), (2, .int s4.2)]) (Hf := fun s4 : Int32 × Int32 => h) (fun s4 => ?_) 1000000 (0, 0)
  show xJ iX9_manyQuarrels κ _ 4 [(0, .ref v0), (1, .int s4.1), (2, .int s4.2)] [] h (fX9_manyQuarrels_b4 v0 h s4)
  unfold fX9_manyQuarrels_b4
  refine j_iload_n 2 dX9_manyQuarrels_4 rfl rfl ?_
  refine j_aload_n 0 dX9_manyQuarrels_5 rfl rfl ?_
  refine j_callV (as := []) (fun x => some (.int x)) (fun _ => h) 9 18 dX9_manyQuarrels_6 ml_RX9_52 tg_X9_many im_X9_many se_X9_many rfl (by decide) (fun x hx => kX9_many κ.1 κ.2.1 v0 h x hx) (by decide) (by decide) rfl rfl (Nat.le_of_ble_eq_true rfl) (fun x1 => ?_)
  show xJ iX9_manyQuarrels κ _ 9 [(0, .ref v0), (1, .int s4.1), (2, .int s4.2)] [.int x1, .int s4.2] h _
  refine j_icmp_ge (tgt := 33) dX9_manyQuarrels_9 (by decide) (fun c2 => ?_) (fun c2 => ?_)
  · refine j_exit s4.1 ?_
    show xJ iX9_manyQuarrels κ _ _ _ _ _ (if (2 : Int32) = 0 then none else some (s4.1 / 2))
    refine j_iload_n 1 dX9_manyQuarrels_33 rfl rfl ?_
    refine j_iconst (x := 2) dX9_manyQuarrels_34 (by decide) ?_
    refine j_idiv dX9_manyQuarrels_35 (fun c3 => ?_)
    exact j_iret (s4.1 / 2) dX9_manyQuarrels_36 rfl (fun q => q)
  · refine j_iload_n 1 dX9_manyQuarrels_12 rfl rfl ?_
    refine j_aload_n 0 dX9_manyQuarrels_13 rfl rfl ?_
    refine j_getR 9 18 0 dX9_manyQuarrels_14 fl_RX9_7 (by decide) rfl (by decide) (fun _ _ _ => rfl) (fun x4 => ?_)
    refine j_bipush (x := 47) dX9_manyQuarrels_17 (by decide) ?_
    refine j_iload_n 2 dX9_manyQuarrels_19 rfl rfl ?_
    refine j_iadd dX9_manyQuarrels_20 ?_
    refine j_iald dX9_manyQuarrels_21 (fun x5 => ?_)
    refine j_callS (as := [.int x5]) (fun x => some (.int x)) (fun _ => h) dX9_manyQuarrels_22 ml_RX9_105 tg_X9_bits st_X9_bits (fun x hx => kX9_bits κ.1 κ.2.1 x5 h x hx) (by decide) (by decide) rfl rfl (Nat.le_of_ble_eq_true rfl) (fun x6 => ?_)
    show xJ iX9_manyQuarrels κ _ 25 [(0, .ref v0), (1, .int s4.1), (2, .int s4.2)] [.int x6, .int s4.1] h _
    refine j_iadd dX9_manyQuarrels_25 ?_
    refine j_istore_n (L' := [(1, .int (s4.1 + x6)), (0, .ref v0), (2, .int s4.2)]) dX9_manyQuarrels_26 rfl (Nat.le_of_ble_eq_true rfl) rfl ?_
    refine j_iinc (y := s4.2 + 1) (L' := [(2, .int (s4.2 + 1)), (1, .int (s4.1 + x6)), (0, .ref v0)]) 2 dX9_manyQuarrels_27 rfl rfl (Nat.le_of_ble_eq_true rfl) rfl ?_
    refine j_goto (tgt := 4) dX9_manyQuarrels_30 (by decide) ?_
    refine j_pick [2, 1, 0] rfl ?_
    exact j_again (s4.1 + x6, s4.2 + 1) rfl rfl
def fX9_manyBridges_j28 (v0 : Nat) (v2 : Int32) (t0 : Int32) (t1 : Int32) (h : Hp) : Option ((Int32 × Int32) ⊕ ((Int32))) :=
  some (Sum.inl (t1 + t0, v2 + 1))
def fX9_manyBridges_b4 (v0 : Nat) (h : Hp) (s4 : Int32 × Int32) : Option ((Int32 × Int32) ⊕ ((Int32))) :=
  if (10 : Int32) ≤ s4.2 then (some (Sum.inr s4.1)) else ((xgR h v0 (9, 18) 0).bind fun x2 => (xaI h x2 10 (9 + s4.2)).bind fun x3 => if (x3 : Int32) ≤ 0 then (fX9_manyBridges_j28 v0 s4.2 0 s4.1 h) else (fX9_manyBridges_j28 v0 s4.2 1 s4.1 h))
def fX9_manyBridges (v0 : Nat) (h : Hp) : Option (Int32) :=
  (xloop (fX9_manyBridges_b4 v0 h) 1000000 (0, 0)).bind (fun r4 => some r4)
abbrev iX9_manyBridges : xI := (cX9_manyBridges, yX9_manyBridges.cls, yX9_manyBridges.name, some .int, 3, 2)
set_option maxHeartbeats 4000000 in
set_option maxRecDepth 100000 in
theorem kX9_manyBridges (l : Launch) (η : xEnv) (v0 : Nat) (h : Hp) (x : Int32) (hx : fX9_manyBridges v0 h = some x) : xC l η yX9_manyBridges cX9_manyBridges 3 (some .int) 2 [.ref v0] h (some (.int x)) h := by
  refine xC_of (by decide) (Nat.le_of_ble_eq_true rfl) hx (fun κ x => κ.2.2.2.1 = some (.int x) ∧ κ.2.2.2.2 = h) ⟨rfl, rfl⟩ (fun κ => ?_)
  show xJ iX9_manyBridges κ _ 0 [(0, .ref v0)] [] h (fX9_manyBridges v0 h)
  unfold fX9_manyBridges
  refine j_iconst (x := 0) dX9_manyBridges_0 (by decide) ?_
  refine j_istore_n (L' := [(1, .int 0), (0, .ref v0)]) dX9_manyBridges_1 rfl (Nat.le_of_ble_eq_true rfl) rfl ?_
  refine j_iconst (x := 0) dX9_manyBridges_2 (by decide) ?_
  refine j_istore_n (L' := [(2, .int 0), (1, .int 0), (0, .ref v0)]) dX9_manyBridges_3 rfl (Nat.le_of_ble_eq_true rfl) rfl ?_
  refine j_pick [2, 1, 0] rfl ?_
  refine j_loop (pc := 4) (Lf := fun s4 : Int32 × Int32 => [(0, .ref v0), (1, .int s4.1), (2, .int s4.2)]) (Hf := fun s4 : Int32 × Int32 => h) (fun s4 => ?_) 1000000 (0, 0)
  show xJ iX9_manyBridges κ _ 4 [(0, .ref v0), (1, .int s4.1), (2, .int s4.2)] [] h (fX9_manyBridges_b4 v0 h s4)
  unfold fX9_manyBridges_b4
  refine j_have (pj := 28) (Lf := fun v : Int32 × Int32 × Int32 => [(0, .ref v0), (2, .int v.1)]) (Sf := fun v : Int32 × Int32 × Int32 => [.int v.2.1, .int v.2.2]) (Hf := fun v : Int32 × Int32 × Int32 => h) (jf := fun v : Int32 × Int32 × Int32 => fX9_manyBridges_j28 v0 v.1 v.2.1 v.2.2 h) (fun v => ?_) (fun hj28 => ?_)
  · obtain ⟨v2, t0, t1⟩ := v
    show xJ iX9_manyBridges κ _ 28 [(0, .ref v0), (2, .int v2)] [.int t0, .int t1] h (fX9_manyBridges_j28 v0 v2 t0 t1 h)
    unfold fX9_manyBridges_j28
    refine j_iadd dX9_manyBridges_28 ?_
    refine j_istore_n (L' := [(1, .int (t1 + t0)), (0, .ref v0), (2, .int v2)]) dX9_manyBridges_29 rfl (Nat.le_of_ble_eq_true rfl) rfl ?_
    refine j_iinc (y := v2 + 1) (L' := [(2, .int (v2 + 1)), (1, .int (t1 + t0)), (0, .ref v0)]) 2 dX9_manyBridges_30 rfl rfl (Nat.le_of_ble_eq_true rfl) rfl ?_
    refine j_goto (tgt := 4) dX9_manyBridges_33 (by decide) ?_
    refine j_pick [2, 1, 0] rfl ?_
    exact j_again (t1 + t0, v2 + 1) rfl rfl
  refine j_iload_n 2 dX9_manyBridges_4 rfl rfl ?_
  refine j_bipush (x := 10) dX9_manyBridges_5 (by decide) ?_
  refine j_icmp_ge (tgt := 36) dX9_manyBridges_7 (by decide) (fun c1 => ?_) (fun c1 => ?_)
  · refine j_exit s4.1 ?_
    show xJ iX9_manyBridges κ _ _ _ _ _ (some s4.1)
    refine j_iload_n 1 dX9_manyBridges_36 rfl rfl ?_
    exact j_iret s4.1 dX9_manyBridges_37 rfl (fun q => q)
  · refine j_iload_n 1 dX9_manyBridges_10 rfl rfl ?_
    refine j_aload_n 0 dX9_manyBridges_11 rfl rfl ?_
    refine j_getR 9 18 0 dX9_manyBridges_12 fl_RX9_7 (by decide) rfl (by decide) (fun _ _ _ => rfl) (fun x2 => ?_)
    refine j_bipush (x := 9) dX9_manyBridges_15 (by decide) ?_
    refine j_iload_n 2 dX9_manyBridges_17 rfl rfl ?_
    refine j_iadd dX9_manyBridges_18 ?_
    refine j_iald dX9_manyBridges_19 (fun x3 => ?_)
    refine j_if_le (tgt := 27) dX9_manyBridges_20 (by decide) (fun c4 => ?_) (fun c4 => ?_)
    · refine j_iconst (x := 0) dX9_manyBridges_27 (by decide) ?_
      refine j_pick [0, 2] rfl ?_
      exact hj28 (s4.2, 0, s4.1)
    · refine j_iconst (x := 1) dX9_manyBridges_23 (by decide) ?_
      refine j_goto (tgt := 28) dX9_manyBridges_24 (by decide) ?_
      refine j_pick [0, 2] rfl ?_
      exact hj28 (s4.2, 1, s4.1)
def fX9_counted (v0 : Nat) (v1 : Int32) (h : Hp) : Option (Int32) :=
  if (v1 : Int32) = 0 then ((xat h v0 (9, 18) (fX9_many v0 h)).bind fun x2 => some x2) else if (v1 : Int32) = 1 then ((xgR h v0 (9, 18) 0).bind fun x4 => (xaI h x4 10 8).bind fun x5 => some x5) else if (v1 : Int32) = 2 then ((xat h v0 (9, 18) (fX9_manyQuarrels v0 h)).bind fun x7 => some x7) else if (v1 : Int32) = 3 then ((xat h v0 (9, 18) (fX9_manyBridges v0 h)).bind fun x9 => some x9) else if (v1 : Int32) = 4 then ((xgR h v0 (9, 18) 0).bind fun x11 => (xaI h x11 10 1).bind fun x12 => some x12) else if (v1 : Int32) = 5 then ((xgR h v0 (9, 18) 0).bind fun x14 => (xaI h x14 10 2).bind fun x15 => some x15) else ((xgI h v0 (9, 18) 11).bind fun x16 => some x16)
abbrev iX9_counted : xI := (cX9_counted, yX9_counted.cls, yX9_counted.name, some .int, 2, 4)
set_option maxHeartbeats 4000000 in
set_option maxRecDepth 100000 in
theorem kX9_counted (l : Launch) (η : xEnv) (v0 : Nat) (v1 : Int32) (h : Hp) (x : Int32) (hx : fX9_counted v0 v1 h = some x) : xC l η yX9_counted cX9_counted 2 (some .int) 4 [.ref v0, .int v1] h (some (.int x)) h := by
  refine xC_of (by decide) (Nat.le_of_ble_eq_true rfl) hx (fun κ x => κ.2.2.2.1 = some (.int x) ∧ κ.2.2.2.2 = h) ⟨rfl, rfl⟩ (fun κ => ?_)
  show xJ iX9_counted κ _ 0 [(0, .ref v0), (1, .int v1)] [] h (fX9_counted v0 v1 h)
  unfold fX9_counted
  refine j_iload_n 1 dX9_counted_0 rfl rfl ?_
  refine j_tabv (w := 0) (off := 39) (tgt := 40) dX9_counted_1 (by decide) (by decide) (by decide) (by decide) (fun c1 => ?_) (fun c1 => ?_)
  · refine j_aload_n 0 dX9_counted_40 rfl rfl ?_
    refine j_callV (as := []) (fun x => some (.int x)) (fun _ => h) 9 18 dX9_counted_41 ml_RX9_52 tg_X9_many im_X9_many se_X9_many rfl (by decide) (fun x hx => kX9_many κ.1 κ.2.1 v0 h x hx) (by decide) (by decide) rfl rfl (Nat.le_of_ble_eq_true rfl) (fun x2 => ?_)
    show xJ iX9_counted κ _ 44 [(0, .ref v0), (1, .int v1)] [.int x2] h _
    exact j_iret x2 dX9_counted_44 rfl (fun q => q)
  refine j_tabv (w := 1) (off := 44) (tgt := 45) dX9_counted_1 (by decide) (by decide) (by decide) (by decide) (fun c3 => ?_) (fun c3 => ?_)
  · refine j_aload_n 0 dX9_counted_45 rfl rfl ?_
    refine j_getR 9 18 0 dX9_counted_46 fl_RX9_7 (by decide) rfl (by decide) (fun _ _ _ => rfl) (fun x4 => ?_)
    refine j_bipush (x := 8) dX9_counted_49 (by decide) ?_
    refine j_iald dX9_counted_51 (fun x5 => ?_)
    exact j_iret x5 dX9_counted_52 rfl (fun q => q)
  refine j_tabv (w := 2) (off := 52) (tgt := 53) dX9_counted_1 (by decide) (by decide) (by decide) (by decide) (fun c6 => ?_) (fun c6 => ?_)
  · refine j_aload_n 0 dX9_counted_53 rfl rfl ?_
    refine j_callV (as := []) (fun x => some (.int x)) (fun _ => h) 9 18 dX9_counted_54 ml_RX9_253 tg_X9_manyQuarrels im_X9_manyQuarrels se_X9_manyQuarrels rfl (by decide) (fun x hx => kX9_manyQuarrels κ.1 κ.2.1 v0 h x hx) (by decide) (by decide) rfl rfl (Nat.le_of_ble_eq_true rfl) (fun x7 => ?_)
    show xJ iX9_counted κ _ 57 [(0, .ref v0), (1, .int v1)] [.int x7] h _
    exact j_iret x7 dX9_counted_57 rfl (fun q => q)
  refine j_tabv (w := 3) (off := 57) (tgt := 58) dX9_counted_1 (by decide) (by decide) (by decide) (by decide) (fun c8 => ?_) (fun c8 => ?_)
  · refine j_aload_n 0 dX9_counted_58 rfl rfl ?_
    refine j_callV (as := []) (fun x => some (.int x)) (fun _ => h) 9 18 dX9_counted_59 ml_RX9_256 tg_X9_manyBridges im_X9_manyBridges se_X9_manyBridges rfl (by decide) (fun x hx => kX9_manyBridges κ.1 κ.2.1 v0 h x hx) (by decide) (by decide) rfl rfl (Nat.le_of_ble_eq_true rfl) (fun x9 => ?_)
    show xJ iX9_counted κ _ 62 [(0, .ref v0), (1, .int v1)] [.int x9] h _
    exact j_iret x9 dX9_counted_62 rfl (fun q => q)
  refine j_tabv (w := 4) (off := 62) (tgt := 63) dX9_counted_1 (by decide) (by decide) (by decide) (by decide) (fun c10 => ?_) (fun c10 => ?_)
  · refine j_aload_n 0 dX9_counted_63 rfl rfl ?_
    refine j_getR 9 18 0 dX9_counted_64 fl_RX9_7 (by decide) rfl (by decide) (fun _ _ _ => rfl) (fun x11 => ?_)
    refine j_iconst (x := 1) dX9_counted_67 (by decide) ?_
    refine j_iald dX9_counted_68 (fun x12 => ?_)
    exact j_iret x12 dX9_counted_69 rfl (fun q => q)
  refine j_tabv (w := 5) (off := 69) (tgt := 70) dX9_counted_1 (by decide) (by decide) (by decide) (by decide) (fun c13 => ?_) (fun c13 => ?_)
  · refine j_aload_n 0 dX9_counted_70 rfl rfl ?_
    refine j_getR 9 18 0 dX9_counted_71 fl_RX9_7 (by decide) rfl (by decide) (fun _ _ _ => rfl) (fun x14 => ?_)
    refine j_iconst (x := 2) dX9_counted_74 (by decide) ?_
    refine j_iald dX9_counted_75 (fun x15 => ?_)
    exact j_iret x15 dX9_counted_76 rfl (fun q => q)
  refine j_tabd (tgt := 77) dX9_counted_1 (by have ec1 : (v1 : Int32).toInt ≠ 0 := fun q => c1 (Int32.toInt_inj.mp (q.trans (by decide))); have ec3 : (v1 : Int32).toInt ≠ 1 := fun q => c3 (Int32.toInt_inj.mp (q.trans (by decide))); have ec6 : (v1 : Int32).toInt ≠ 2 := fun q => c6 (Int32.toInt_inj.mp (q.trans (by decide))); have ec8 : (v1 : Int32).toInt ≠ 3 := fun q => c8 (Int32.toInt_inj.mp (q.trans (by decide))); have ec10 : (v1 : Int32).toInt ≠ 4 := fun q => c10 (Int32.toInt_inj.mp (q.trans (by decide))); have ec13 : (v1 : Int32).toInt ≠ 5 := fun q => c13 (Int32.toInt_inj.mp (q.trans (by decide))); omega) (by decide) ?_
  refine j_aload_n 0 dX9_counted_77 rfl rfl ?_
  refine j_getI 9 18 11 dX9_counted_78 fl_RX9_191 (by decide) rfl (by decide) rfl (fun x16 => ?_)
  exact j_iret x16 dX9_counted_81 rfl (fun q => q)
def fX9_count_j26 (t0 : Int32) (h : Hp) : Option (Int32 × Hp) :=
  some (t0, h)
def fX9_count (v0 : Nat) (v1 : Int32) (h : Hp) : Option (Int32 × Hp) :=
  (fX9_in ((v1 : Int32).toInt64) 0 6 h).bind fun x1 => if (x1 : Int32) = 0 then ((xat h v0 (9, 18) (fX9_bad v0 (-2) h)).bind fun q3 => fX9_count_j26 q3.1 q3.2) else ((xat h v0 (9, 18) (fX9_counted v0 v1 h)).bind fun x4 => fX9_count_j26 x4 h)
abbrev iX9_count : xI := (cX9_count, yX9_count.cls, yX9_count.name, some .int, 2, 5)
set_option maxHeartbeats 4000000 in
set_option maxRecDepth 100000 in
theorem kX9_count (l : Launch) (η : xEnv) (v0 : Nat) (v1 : Int32) (h : Hp) (x : Int32 × Hp) (hx : fX9_count v0 v1 h = some x) : xC l η yX9_count cX9_count 2 (some .int) 5 [.ref v0, .int v1] h (some (.int x.1)) x.2 := by
  refine xC_of (by decide) (Nat.le_of_ble_eq_true rfl) hx (fun κ x => κ.2.2.2.1 = some (.int x.1) ∧ κ.2.2.2.2 = x.2) ⟨rfl, rfl⟩ (fun κ => ?_)
  show xJ iX9_count κ _ 0 [(0, .ref v0), (1, .int v1)] [] h (fX9_count v0 v1 h)
  unfold fX9_count
  refine j_have (pj := 26) (Lf := fun v : Int32 × Hp => []) (Sf := fun v : Int32 × Hp => [.int v.1]) (Hf := fun v : Int32 × Hp => v.2) (jf := fun v : Int32 × Hp => fX9_count_j26 v.1 v.2) (fun v => ?_) (fun hj26 => ?_)
  · obtain ⟨t0, h⟩ := v
    show xJ iX9_count κ _ 26 [] [.int t0] h (fX9_count_j26 t0 h)
    unfold fX9_count_j26
    exact j_iret (t0, h) dX9_count_26 rfl (fun q => q)
  refine j_iload_n 1 dX9_count_0 rfl rfl ?_
  refine j_i2l dX9_count_1 ?_
  refine j_lconst (x := 0) dX9_count_2 (by decide) ?_
  refine j_ldc2 dX9_count_3 cL_RX9_259 ?_
  refine j_callS (as := [.long ((v1 : Int32).toInt64), .long 0, .long 6]) (fun x => some (.int x)) (fun _ => h) dX9_count_6 ml_RX9_56 tg_X9_in st_X9_in (fun x hx => kX9_in κ.1 κ.2.1 ((v1 : Int32).toInt64) 0 6 h x hx) (by decide) (by decide) rfl rfl (Nat.le_of_ble_eq_true rfl) (fun x1 => ?_)
  show xJ iX9_count κ _ 9 [(0, .ref v0), (1, .int v1)] [.int x1] h _
  refine j_if_eq (tgt := 20) dX9_count_9 (by decide) (fun c2 => ?_) (fun c2 => ?_)
  · refine j_aload_n 0 dX9_count_20 rfl rfl ?_
    refine j_bipush (x := (-2)) dX9_count_21 (by decide) ?_
    refine j_callV (as := [.int (-2)]) (fun x => some (.int x.1)) (fun x => x.2) 9 18 dX9_count_23 ml_RX9_64 tg_X9_bad im_X9_bad se_X9_bad rfl (by decide) (fun x hx => kX9_bad κ.1 κ.2.1 v0 (-2) h x hx) (by decide) (by decide) rfl rfl (Nat.le_of_ble_eq_true rfl) (fun q3 => ?_)
    show xJ iX9_count κ _ 26 [(0, .ref v0), (1, .int v1)] [.int q3.1] q3.2 _
    refine j_pick [] rfl ?_
    exact hj26 (q3.1, q3.2)
  · refine j_aload_n 0 dX9_count_12 rfl rfl ?_
    refine j_iload_n 1 dX9_count_13 rfl rfl ?_
    refine j_callV (as := [.int v1]) (fun x => some (.int x)) (fun _ => h) 9 18 dX9_count_14 ml_RX9_261 tg_X9_counted im_X9_counted se_X9_counted rfl (by decide) (fun x hx => kX9_counted κ.1 κ.2.1 v0 v1 h x hx) (by decide) (by decide) rfl rfl (Nat.le_of_ble_eq_true rfl) (fun x4 => ?_)
    show xJ iX9_count κ _ 17 [(0, .ref v0), (1, .int v1)] [.int x4] h _
    refine j_goto (tgt := 26) dX9_count_17 (by decide) ?_
    refine j_pick [] rfl ?_
    exact hj26 (x4, h)
def fX0_mixTold_b129 (v0 : Nat) (h : Hp) (s129 : Int64 × Int32) : Option ((Int64 × Int32) ⊕ ((Int64))) :=
  (xgI h v0 (0, 16) 8).bind fun x4 => if (x4 : Int32) ≤ s129.2 then (some (Sum.inr s129.1)) else ((xgR h v0 (0, 16) 9).bind fun x6 => (xaI h x6 10 s129.2).bind fun x7 => (xgR h v0 (0, 16) 10).bind fun x8 => (xaI h x8 10 s129.2).bind fun x9 => (xgR h v0 (0, 16) 11).bind fun x10 => (xaI h x10 10 s129.2).bind fun x11 => (xgR h v0 (0, 16) 12).bind fun x12 => (xaI h x12 10 s129.2).bind fun x13 => some (Sum.inl ((31 * ((31 * ((31 * ((31 * s129.1) + ((x7 : Int32).toInt64))) + ((x9 : Int32).toInt64))) + ((x11 : Int32).toInt64))) + ((x13 : Int32).toInt64), s129.2 + 1)))
def fX0_mixTold_b36 (v0 : Nat) (h : Hp) (s36 : Int64 × Int32) : Option ((Int64 × Int32) ⊕ ((Nat × Int64))) :=
  (xgI h v0 (0, 16) 2).bind fun x2 => if (x2 : Int32) ≤ s36.2 then (some (Sum.inr (v0, s36.1))) else ((xgR h v0 (0, 16) 3).bind fun x14 => (xaI h x14 10 s36.2).bind fun x15 => (xgR h v0 (0, 16) 4).bind fun x16 => (xaI h x16 10 s36.2).bind fun x17 => (xgR h v0 (0, 16) 5).bind fun x18 => (xaI h x18 10 s36.2).bind fun x19 => (xgR h v0 (0, 16) 6).bind fun x20 => (xaI h x20 10 s36.2).bind fun x21 => (xgR h v0 (0, 16) 7).bind fun x22 => (xaI h x22 10 s36.2).bind fun x23 => some (Sum.inl ((31 * ((31 * ((31 * ((31 * ((31 * s36.1) + ((x15 : Int32).toInt64))) + ((x17 : Int32).toInt64))) + ((x19 : Int32).toInt64))) + ((x21 : Int32).toInt64))) + ((x23 : Int32).toInt64), s36.2 + 1)))
def fX0_mixTold_b5 (v0 : Nat) (h : Hp) (s5 : Int64 × Int32) : Option ((Int64 × Int32) ⊕ ((Nat × Int64))) :=
  if (10 : Int32) ≤ s5.2 then (some (Sum.inr (v0, s5.1))) else ((xgR h v0 (0, 16) 1).bind fun x24 => (xaI h x24 10 s5.2).bind fun x25 => some (Sum.inl ((31 * s5.1) + ((x25 : Int32).toInt64), s5.2 + 1)))
def fX0_mixTold (v0 : Nat) (v1 : Int64) (h : Hp) : Option (Int64) :=
  (xloop (fX0_mixTold_b5 v0 h) 1000000 (v1, 0)).bind (fun r5 => (xloop (fX0_mixTold_b36 r5.1 h) 1000000 (r5.2, 0)).bind (fun r36 => (xloop (fX0_mixTold_b129 r36.1 h) 1000000 (r36.2, 0)).bind (fun r129 => some r129)))
abbrev iX0_mixTold : xI := (cX0_mixTold, yX0_mixTold.cls, yX0_mixTold.name, some .long, 6, 2)
set_option maxHeartbeats 4000000 in
set_option maxRecDepth 100000 in
theorem kX0_mixTold (l : Launch) (η : xEnv) (v0 : Nat) (v1 : Int64) (h : Hp) (x : Int64) (hx : fX0_mixTold v0 v1 h = some x) : xC l η yX0_mixTold cX0_mixTold 6 (some .long) 2 [.ref v0, .long v1] h (some (.long x)) h := by
  refine xC_of (by decide) (Nat.le_of_ble_eq_true rfl) hx (fun κ x => κ.2.2.2.1 = some (.long x) ∧ κ.2.2.2.2 = h) ⟨rfl, rfl⟩ (fun κ => ?_)
  show xJ iX0_mixTold κ _ 0 [(0, .ref v0), (1, .long v1)] [] h (fX0_mixTold v0 v1 h)
  unfold fX0_mixTold
  refine j_lload_n 1 dX0_mixTold_0 rfl rfl ?_
  refine j_lstore_n (L' := [(3, .long v1), (0, .ref v0), (1, .long v1)]) dX0_mixTold_1 rfl (Nat.le_of_ble_eq_true rfl) rfl ?_
  refine j_iconst (x := 0) dX0_mixTold_2 (by decide) ?_
  refine j_istore (L' := [(5, .int 0), (3, .long v1), (0, .ref v0), (1, .long v1)]) dX0_mixTold_3 (Nat.le_of_ble_eq_true rfl) rfl ?_
  refine j_pick [2, 1, 0] rfl ?_
  refine j_loop (pc := 5) (Lf := fun s5 : Int64 × Int32 => [(0, .ref v0), (3, .long s5.1), (5, .int s5.2)]) (Hf := fun s5 : Int64 × Int32 => h) (fun s5 => ?_) 1000000 (v1, 0)
  show xJ iX0_mixTold κ _ 5 [(0, .ref v0), (3, .long s5.1), (5, .int s5.2)] [] h (fX0_mixTold_b5 v0 h s5)
  unfold fX0_mixTold_b5
  refine j_iload 2 dX0_mixTold_5 rfl ?_
  refine j_bipush (x := 10) dX0_mixTold_7 (by decide) ?_
  refine j_icmp_ge (tgt := 33) dX0_mixTold_9 (by decide) (fun c1 => ?_) (fun c1 => ?_)
  · refine j_exit (v0, s5.1) ?_
    show xJ iX0_mixTold κ _ _ _ _ _ ((xloop (fX0_mixTold_b36 v0 h) 1000000 (s5.1, 0)).bind (fun r36 => (xloop (fX0_mixTold_b129 r36.1 h) 1000000 (r36.2, 0)).bind (fun r129 => some r129)))
    refine j_iconst (x := 0) dX0_mixTold_33 (by decide) ?_
    refine j_istore (L' := [(5, .int 0), (0, .ref v0), (3, .long s5.1)]) dX0_mixTold_34 (Nat.le_of_ble_eq_true rfl) rfl ?_
    refine j_pick [1, 2, 0] rfl ?_
    refine j_loop (pc := 36) (Lf := fun s36 : Int64 × Int32 => [(0, .ref v0), (3, .long s36.1), (5, .int s36.2)]) (Hf := fun s36 : Int64 × Int32 => h) (fun s36 => ?_) 1000000 (s5.1, 0)
    show xJ iX0_mixTold κ _ 36 [(0, .ref v0), (3, .long s36.1), (5, .int s36.2)] [] h (fX0_mixTold_b36 v0 h s36)
    unfold fX0_mixTold_b36
    refine j_iload 2 dX0_mixTold_36 rfl ?_
    refine j_aload_n 0 dX0_mixTold_38 rfl rfl ?_
    refine j_getI 0 16 2 dX0_mixTold_39 fl_RX0_57 (by decide) rfl (by decide) rfl (fun x2 => ?_)
    refine j_icmp_ge (tgt := 126) dX0_mixTold_42 (by decide) (fun c3 => ?_) (fun c3 => ?_)
    · refine j_exit (v0, s36.1) ?_
      show xJ iX0_mixTold κ _ _ _ _ _ ((xloop (fX0_mixTold_b129 v0 h) 1000000 (s36.1, 0)).bind (fun r129 => some r129))
      refine j_iconst (x := 0) dX0_mixTold_126 (by decide) ?_
      refine j_istore (L' := [(5, .int 0), (0, .ref v0), (3, .long s36.1)]) dX0_mixTold_127 (Nat.le_of_ble_eq_true rfl) rfl ?_
      refine j_pick [1, 2, 0] rfl ?_
      refine j_loop (pc := 129) (Lf := fun s129 : Int64 × Int32 => [(0, .ref v0), (3, .long s129.1), (5, .int s129.2)]) (Hf := fun s129 : Int64 × Int32 => h) (fun s129 => ?_) 1000000 (s36.1, 0)
      show xJ iX0_mixTold κ _ 129 [(0, .ref v0), (3, .long s129.1), (5, .int s129.2)] [] h (fX0_mixTold_b129 v0 h s129)
      unfold fX0_mixTold_b129
      refine j_iload 2 dX0_mixTold_129 rfl ?_
      refine j_aload_n 0 dX0_mixTold_131 rfl rfl ?_
      refine j_getI 0 16 8 dX0_mixTold_132 fl_RX0_60 (by decide) rfl (by decide) rfl (fun x4 => ?_)
      refine j_icmp_ge (tgt := 204) dX0_mixTold_135 (by decide) (fun c5 => ?_) (fun c5 => ?_)
      · refine j_exit s129.1 ?_
        show xJ iX0_mixTold κ _ _ _ _ _ (some s129.1)
        refine j_lload_n 1 dX0_mixTold_204 rfl rfl ?_
        exact j_lret s129.1 dX0_mixTold_205 rfl (fun q => q)
      · refine j_ldc2 dX0_mixTold_138 cL_RX0_141 ?_
        refine j_lload_n 1 dX0_mixTold_141 rfl rfl ?_
        refine j_lmul dX0_mixTold_142 ?_
        refine j_aload_n 0 dX0_mixTold_143 rfl rfl ?_
        refine j_getR 0 16 9 dX0_mixTold_144 fl_RX0_34 (by decide) rfl (by decide) (fun _ _ _ => rfl) (fun x6 => ?_)
        refine j_iload 2 dX0_mixTold_147 rfl ?_
        refine j_iald dX0_mixTold_149 (fun x7 => ?_)
        refine j_i2l dX0_mixTold_150 ?_
        refine j_ladd dX0_mixTold_151 ?_
        refine j_lstore_n (L' := [(3, .long ((31 * s129.1) + ((x7 : Int32).toInt64))), (0, .ref v0), (5, .int s129.2)]) dX0_mixTold_152 rfl (Nat.le_of_ble_eq_true rfl) rfl ?_
        refine j_ldc2 dX0_mixTold_153 cL_RX0_141 ?_
        refine j_lload_n 0 dX0_mixTold_156 rfl rfl ?_
        refine j_lmul dX0_mixTold_157 ?_
        refine j_aload_n 1 dX0_mixTold_158 rfl rfl ?_
        refine j_getR 0 16 10 dX0_mixTold_159 fl_RX0_37 (by decide) rfl (by decide) (fun _ _ _ => rfl) (fun x8 => ?_)
        refine j_iload 2 dX0_mixTold_162 rfl ?_
        refine j_iald dX0_mixTold_164 (fun x9 => ?_)
        refine j_i2l dX0_mixTold_165 ?_
        refine j_ladd dX0_mixTold_166 ?_
        refine j_lstore_n (L' := [(3, .long ((31 * ((31 * s129.1) + ((x7 : Int32).toInt64))) + ((x9 : Int32).toInt64))), (0, .ref v0), (5, .int s129.2)]) dX0_mixTold_167 rfl (Nat.le_of_ble_eq_true rfl) rfl ?_
        refine j_ldc2 dX0_mixTold_168 cL_RX0_141 ?_
        refine j_lload_n 0 dX0_mixTold_171 rfl rfl ?_
        refine j_lmul dX0_mixTold_172 ?_
        refine j_aload_n 1 dX0_mixTold_173 rfl rfl ?_
        refine j_getR 0 16 11 dX0_mixTold_174 fl_RX0_40 (by decide) rfl (by decide) (fun _ _ _ => rfl) (fun x10 => ?_)
        refine j_iload 2 dX0_mixTold_177 rfl ?_
        refine j_iald dX0_mixTold_179 (fun x11 => ?_)
        refine j_i2l dX0_mixTold_180 ?_
        refine j_ladd dX0_mixTold_181 ?_
        refine j_lstore_n (L' := [(3, .long ((31 * ((31 * ((31 * s129.1) + ((x7 : Int32).toInt64))) + ((x9 : Int32).toInt64))) + ((x11 : Int32).toInt64))), (0, .ref v0), (5, .int s129.2)]) dX0_mixTold_182 rfl (Nat.le_of_ble_eq_true rfl) rfl ?_
        refine j_ldc2 dX0_mixTold_183 cL_RX0_141 ?_
        refine j_lload_n 0 dX0_mixTold_186 rfl rfl ?_
        refine j_lmul dX0_mixTold_187 ?_
        refine j_aload_n 1 dX0_mixTold_188 rfl rfl ?_
        refine j_getR 0 16 12 dX0_mixTold_189 fl_RX0_43 (by decide) rfl (by decide) (fun _ _ _ => rfl) (fun x12 => ?_)
        refine j_iload 2 dX0_mixTold_192 rfl ?_
        refine j_iald dX0_mixTold_194 (fun x13 => ?_)
        refine j_i2l dX0_mixTold_195 ?_
        refine j_ladd dX0_mixTold_196 ?_
        refine j_lstore_n (L' := [(3, .long ((31 * ((31 * ((31 * ((31 * s129.1) + ((x7 : Int32).toInt64))) + ((x9 : Int32).toInt64))) + ((x11 : Int32).toInt64))) + ((x13 : Int32).toInt64))), (0, .ref v0), (5, .int s129.2)]) dX0_mixTold_197 rfl (Nat.le_of_ble_eq_true rfl) rfl ?_
        refine j_iinc (y := s129.2 + 1) (L' := [(5, .int (s129.2 + 1)), (3, .long ((31 * ((31 * ((31 * ((31 * s129.1) + ((x7 : Int32).toInt64))) + ((x9 : Int32).toInt64))) + ((x11 : Int32).toInt64))) + ((x13 : Int32).toInt64))), (0, .ref v0)]) 2 dX0_mixTold_198 rfl rfl (Nat.le_of_ble_eq_true rfl) rfl ?_
        refine j_goto (tgt := 129) dX0_mixTold_201 (by decide) ?_
        refine j_pick [2, 1, 0] rfl ?_
        exact j_again ((31 * ((31 * ((31 * ((31 * s129.1) + ((x7 : Int32).toInt64))) + ((x9 : Int32).toInt64))) + ((x11 : Int32).toInt64))) + ((x13 : Int32).toInt64), s129.2 + 1) rfl rfl
    · refine j_ldc2 dX0_mixTold_45 cL_RX0_141 ?_
      refine j_lload_n 1 dX0_mixTold_48 rfl rfl ?_
      refine j_lmul dX0_mixTold_49 ?_
      refine j_aload_n 0 dX0_mixTold_50 rfl rfl ?_
      refine j_getR 0 16 3 dX0_mixTold_51 fl_RX0_19 (by decide) rfl (by decide) (fun _ _ _ => rfl) (fun x14 => ?_)
      refine j_iload 2 dX0_mixTold_54 rfl ?_
      refine j_iald dX0_mixTold_56 (fun x15 => ?_)
      refine j_i2l dX0_mixTold_57 ?_
      refine j_ladd dX0_mixTold_58 ?_
      refine j_lstore_n (L' := [(3, .long ((31 * s36.1) + ((x15 : Int32).toInt64))), (0, .ref v0), (5, .int s36.2)]) dX0_mixTold_59 rfl (Nat.le_of_ble_eq_true rfl) rfl ?_
      refine j_ldc2 dX0_mixTold_60 cL_RX0_141 ?_
      refine j_lload_n 0 dX0_mixTold_63 rfl rfl ?_
      refine j_lmul dX0_mixTold_64 ?_
      refine j_aload_n 1 dX0_mixTold_65 rfl rfl ?_
      refine j_getR 0 16 4 dX0_mixTold_66 fl_RX0_22 (by decide) rfl (by decide) (fun _ _ _ => rfl) (fun x16 => ?_)
      refine j_iload 2 dX0_mixTold_69 rfl ?_
      refine j_iald dX0_mixTold_71 (fun x17 => ?_)
      refine j_i2l dX0_mixTold_72 ?_
      refine j_ladd dX0_mixTold_73 ?_
      refine j_lstore_n (L' := [(3, .long ((31 * ((31 * s36.1) + ((x15 : Int32).toInt64))) + ((x17 : Int32).toInt64))), (0, .ref v0), (5, .int s36.2)]) dX0_mixTold_74 rfl (Nat.le_of_ble_eq_true rfl) rfl ?_
      refine j_ldc2 dX0_mixTold_75 cL_RX0_141 ?_
      refine j_lload_n 0 dX0_mixTold_78 rfl rfl ?_
      refine j_lmul dX0_mixTold_79 ?_
      refine j_aload_n 1 dX0_mixTold_80 rfl rfl ?_
      refine j_getR 0 16 5 dX0_mixTold_81 fl_RX0_25 (by decide) rfl (by decide) (fun _ _ _ => rfl) (fun x18 => ?_)
      refine j_iload 2 dX0_mixTold_84 rfl ?_
      refine j_iald dX0_mixTold_86 (fun x19 => ?_)
      refine j_i2l dX0_mixTold_87 ?_
      refine j_ladd dX0_mixTold_88 ?_
      refine j_lstore_n (L' := [(3, .long ((31 * ((31 * ((31 * s36.1) + ((x15 : Int32).toInt64))) + ((x17 : Int32).toInt64))) + ((x19 : Int32).toInt64))), (0, .ref v0), (5, .int s36.2)]) dX0_mixTold_89 rfl (Nat.le_of_ble_eq_true rfl) rfl ?_
      refine j_ldc2 dX0_mixTold_90 cL_RX0_141 ?_
      refine j_lload_n 0 dX0_mixTold_93 rfl rfl ?_
      refine j_lmul dX0_mixTold_94 ?_
      refine j_aload_n 1 dX0_mixTold_95 rfl rfl ?_
      refine j_getR 0 16 6 dX0_mixTold_96 fl_RX0_28 (by decide) rfl (by decide) (fun _ _ _ => rfl) (fun x20 => ?_)
      refine j_iload 2 dX0_mixTold_99 rfl ?_
      refine j_iald dX0_mixTold_101 (fun x21 => ?_)
      refine j_i2l dX0_mixTold_102 ?_
      refine j_ladd dX0_mixTold_103 ?_
      refine j_lstore_n (L' := [(3, .long ((31 * ((31 * ((31 * ((31 * s36.1) + ((x15 : Int32).toInt64))) + ((x17 : Int32).toInt64))) + ((x19 : Int32).toInt64))) + ((x21 : Int32).toInt64))), (0, .ref v0), (5, .int s36.2)]) dX0_mixTold_104 rfl (Nat.le_of_ble_eq_true rfl) rfl ?_
      refine j_ldc2 dX0_mixTold_105 cL_RX0_141 ?_
      refine j_lload_n 0 dX0_mixTold_108 rfl rfl ?_
      refine j_lmul dX0_mixTold_109 ?_
      refine j_aload_n 1 dX0_mixTold_110 rfl rfl ?_
      refine j_getR 0 16 7 dX0_mixTold_111 fl_RX0_31 (by decide) rfl (by decide) (fun _ _ _ => rfl) (fun x22 => ?_)
      refine j_iload 2 dX0_mixTold_114 rfl ?_
      refine j_iald dX0_mixTold_116 (fun x23 => ?_)
      refine j_i2l dX0_mixTold_117 ?_
      refine j_ladd dX0_mixTold_118 ?_
      refine j_lstore_n (L' := [(3, .long ((31 * ((31 * ((31 * ((31 * ((31 * s36.1) + ((x15 : Int32).toInt64))) + ((x17 : Int32).toInt64))) + ((x19 : Int32).toInt64))) + ((x21 : Int32).toInt64))) + ((x23 : Int32).toInt64))), (0, .ref v0), (5, .int s36.2)]) dX0_mixTold_119 rfl (Nat.le_of_ble_eq_true rfl) rfl ?_
      refine j_iinc (y := s36.2 + 1) (L' := [(5, .int (s36.2 + 1)), (3, .long ((31 * ((31 * ((31 * ((31 * ((31 * s36.1) + ((x15 : Int32).toInt64))) + ((x17 : Int32).toInt64))) + ((x19 : Int32).toInt64))) + ((x21 : Int32).toInt64))) + ((x23 : Int32).toInt64))), (0, .ref v0)]) 2 dX0_mixTold_120 rfl rfl (Nat.le_of_ble_eq_true rfl) rfl ?_
      refine j_goto (tgt := 36) dX0_mixTold_123 (by decide) ?_
      refine j_pick [2, 1, 0] rfl ?_
      exact j_again ((31 * ((31 * ((31 * ((31 * ((31 * s36.1) + ((x15 : Int32).toInt64))) + ((x17 : Int32).toInt64))) + ((x19 : Int32).toInt64))) + ((x21 : Int32).toInt64))) + ((x23 : Int32).toInt64), s36.2 + 1) rfl rfl
  · refine j_ldc2 dX0_mixTold_12 cL_RX0_141 ?_
    refine j_lload_n 1 dX0_mixTold_15 rfl rfl ?_
    refine j_lmul dX0_mixTold_16 ?_
    refine j_aload_n 0 dX0_mixTold_17 rfl rfl ?_
    refine j_getR 0 16 1 dX0_mixTold_18 fl_RX0_15 (by decide) rfl (by decide) (fun _ _ _ => rfl) (fun x24 => ?_)
    refine j_iload 2 dX0_mixTold_21 rfl ?_
    refine j_iald dX0_mixTold_23 (fun x25 => ?_)
    refine j_i2l dX0_mixTold_24 ?_
    refine j_ladd dX0_mixTold_25 ?_
    refine j_lstore_n (L' := [(3, .long ((31 * s5.1) + ((x25 : Int32).toInt64))), (0, .ref v0), (5, .int s5.2)]) dX0_mixTold_26 rfl (Nat.le_of_ble_eq_true rfl) rfl ?_
    refine j_iinc (y := s5.2 + 1) (L' := [(5, .int (s5.2 + 1)), (3, .long ((31 * s5.1) + ((x25 : Int32).toInt64))), (0, .ref v0)]) 2 dX0_mixTold_27 rfl rfl (Nat.le_of_ble_eq_true rfl) rfl ?_
    refine j_goto (tgt := 5) dX0_mixTold_30 (by decide) ?_
    refine j_pick [2, 1, 0] rfl ?_
    exact j_again ((31 * s5.1) + ((x25 : Int32).toInt64), s5.2 + 1) rfl rfl
def fX8_digest_b33 (v0 : Nat) (s33 : Int64 × Int32 × Hp) : Option ((Int64 × Int32 × Hp) ⊕ ((Nat × Int64 × Hp))) :=
  if (4 : Int32) < s33.2.1 then (some (Sum.inr (v0, s33.1, s33.2.2))) else ((xat s33.2.2 v0 (8, 12) (fX8_now v0 s33.2.1 s33.2.2)).bind fun q9 => some (Sum.inl ((31 * s33.1) + ((q9.1 : Int32).toInt64), s33.2.1 + 1, q9.2)))
def fX8_digest_b6 (v0 : Nat) (s6 : Int64 × Int32 × Hp) : Option ((Int64 × Int32 × Hp) ⊕ ((Nat × Int64 × Hp))) :=
  if (6 : Int32) < s6.2.1 then (some (Sum.inr (v0, s6.1, s6.2.2))) else ((xat s6.2.2 v0 (8, 12) (fX8_count v0 s6.2.1 s6.2.2)).bind fun q10 => some (Sum.inl ((31 * s6.1) + ((q10.1 : Int32).toInt64), s6.2.1 + 1, q10.2)))
def fX8_digest (v0 : Nat) (h : Hp) : Option (Int64 × Hp) :=
  (xloop (fX8_digest_b6 v0) 1000000 (1381, 0, h)).bind (fun r6 => (xloop (fX8_digest_b33 r6.1) 1000000 (r6.2.1, 0, r6.2.2)).bind (fun r33 => (xgR r33.2.2 r33.1 (8, 12) 0).bind fun x19 => (xat r33.2.2 x19 (0, 16) (fX0_mixTold x19 r33.2.1 r33.2.2)).bind fun x20 => (xgR r33.2.2 r33.1 (8, 12) 7).bind fun x21 => (xgL r33.2.2 x21 (2, 2) 0).bind fun x22 => (xgR r33.2.2 r33.1 (8, 12) 7).bind fun x23 => (xgL r33.2.2 x23 (2, 2) 1).bind fun x24 => some ((31 * ((31 * x20) + x22)) + x24, r33.2.2)))
abbrev iX8_digest : xI := (cX8_digest, yX8_digest.cls, yX8_digest.name, some .long, 4, 5)
set_option maxHeartbeats 4000000 in
set_option maxRecDepth 100000 in
theorem kX8_digest (l : Launch) (η : xEnv) (v0 : Nat) (h : Hp) (x : Int64 × Hp) (hx : fX8_digest v0 h = some x) : xC l η yX8_digest cX8_digest 4 (some .long) 5 [.ref v0] h (some (.long x.1)) x.2 := by
  refine xC_of (by decide) (Nat.le_of_ble_eq_true rfl) hx (fun κ x => κ.2.2.2.1 = some (.long x.1) ∧ κ.2.2.2.2 = x.2) ⟨rfl, rfl⟩ (fun κ => ?_)
  show xJ iX8_digest κ _ 0 [(0, .ref v0)] [] h (fX8_digest v0 h)
  unfold fX8_digest
  refine j_ldc2 dX8_digest_0 cL_RX8_300 ?_
  refine j_lstore_n (L' := [(1, .long 1381), (0, .ref v0)]) dX8_digest_3 rfl (Nat.le_of_ble_eq_true rfl) rfl ?_
  refine j_iconst (x := 0) dX8_digest_4 (by decide) ?_
  refine j_istore_n (L' := [(3, .int 0), (1, .long 1381), (0, .ref v0)]) dX8_digest_5 rfl (Nat.le_of_ble_eq_true rfl) rfl ?_
  refine j_pick [2, 1, 0] rfl ?_
  refine j_loop (pc := 6) (Lf := fun s6 : Int64 × Int32 × Hp => [(0, .ref v0), (1, .long s6.1), (3, .int s6.2.1)]) (Hf := fun s6 : Int64 × Int32 × Hp => s6.2.2) (fun s6 => ?_) 1000000 (1381, 0, h)
  show xJ iX8_digest κ _ 6 [(0, .ref v0), (1, .long s6.1), (3, .int s6.2.1)] [] s6.2.2 (fX8_digest_b6 v0 s6)
  unfold fX8_digest_b6
  refine j_iload_n 2 dX8_digest_6 rfl rfl ?_
  refine j_bipush (x := 6) dX8_digest_7 (by decide) ?_
  refine j_icmp_gt (tgt := 31) dX8_digest_9 (by decide) (fun c1 => ?_) (fun c1 => ?_)
  · refine j_exit (v0, s6.1, s6.2.2) ?_
    show xJ iX8_digest κ _ _ _ _ _ ((xloop (fX8_digest_b33 v0) 1000000 (s6.1, 0, s6.2.2)).bind (fun r33 => (xgR r33.2.2 r33.1 (8, 12) 0).bind fun x10 => (xat r33.2.2 x10 (0, 16) (fX0_mixTold x10 r33.2.1 r33.2.2)).bind fun x11 => (xgR r33.2.2 r33.1 (8, 12) 7).bind fun x12 => (xgL r33.2.2 x12 (2, 2) 0).bind fun x13 => (xgR r33.2.2 r33.1 (8, 12) 7).bind fun x14 => (xgL r33.2.2 x14 (2, 2) 1).bind fun x15 => some ((31 * ((31 * x11) + x13)) + x15, r33.2.2)))
    refine j_iconst (x := 0) dX8_digest_31 (by decide) ?_
    refine j_istore_n (L' := [(3, .int 0), (0, .ref v0), (1, .long s6.1)]) dX8_digest_32 rfl (Nat.le_of_ble_eq_true rfl) rfl ?_
    refine j_pick [1, 2, 0] rfl ?_
    refine j_loop (pc := 33) (Lf := fun s33 : Int64 × Int32 × Hp => [(0, .ref v0), (1, .long s33.1), (3, .int s33.2.1)]) (Hf := fun s33 : Int64 × Int32 × Hp => s33.2.2) (fun s33 => ?_) 1000000 (s6.1, 0, s6.2.2)
    show xJ iX8_digest κ _ 33 [(0, .ref v0), (1, .long s33.1), (3, .int s33.2.1)] [] s33.2.2 (fX8_digest_b33 v0 s33)
    unfold fX8_digest_b33
    refine j_iload_n 2 dX8_digest_33 rfl rfl ?_
    refine j_iconst (x := 4) dX8_digest_34 (by decide) ?_
    refine j_icmp_gt (tgt := 57) dX8_digest_35 (by decide) (fun c2 => ?_) (fun c2 => ?_)
    · refine j_exit (v0, s33.1, s33.2.2) ?_
      show xJ iX8_digest κ _ _ _ _ _ ((xgR s33.2.2 v0 (8, 12) 0).bind fun x3 => (xat s33.2.2 x3 (0, 16) (fX0_mixTold x3 s33.1 s33.2.2)).bind fun x4 => (xgR s33.2.2 v0 (8, 12) 7).bind fun x5 => (xgL s33.2.2 x5 (2, 2) 0).bind fun x6 => (xgR s33.2.2 v0 (8, 12) 7).bind fun x7 => (xgL s33.2.2 x7 (2, 2) 1).bind fun x8 => some ((31 * ((31 * x4) + x6)) + x8, s33.2.2))
      refine j_aload_n 0 dX8_digest_57 rfl rfl ?_
      refine j_getR 8 12 0 dX8_digest_58 fl_RX8_12 (by decide) rfl (by decide) (fun _ _ _ => rfl) (fun x3 => ?_)
      refine j_lload_n 1 dX8_digest_61 rfl rfl ?_
      refine j_callV (as := [.long s33.1]) (fun x => some (.long x)) (fun _ => s33.2.2) 0 16 dX8_digest_62 ml_RX8_310 tg_X0_mixTold im_X0_mixTold se_X0_mixTold rfl (by decide) (fun x hx => kX0_mixTold κ.1 κ.2.1 x3 s33.1 s33.2.2 x hx) (by decide) (by decide) rfl rfl (Nat.le_of_ble_eq_true rfl) (fun x4 => ?_)
      show xJ iX8_digest κ _ 65 [(0, .ref v0), (1, .long s33.1), (3, .int s33.2.1)] [.long x4] s33.2.2 _
      refine j_lstore_n (L' := [(1, .long x4), (0, .ref v0), (3, .int s33.2.1)]) dX8_digest_65 rfl (Nat.le_of_ble_eq_true rfl) rfl ?_
      refine j_ldc2 dX8_digest_66 cL_RX8_302 ?_
      refine j_lload_n 0 dX8_digest_69 rfl rfl ?_
      refine j_lmul dX8_digest_70 ?_
      refine j_aload_n 1 dX8_digest_71 rfl rfl ?_
      refine j_getR 8 12 7 dX8_digest_72 fl_RX8_55 (by decide) rfl (by decide) (fun _ _ _ => rfl) (fun x5 => ?_)
      refine j_getL 2 2 0 dX8_digest_75 fl_RX8_278 (by decide) rfl (by decide) rfl (fun x6 => ?_)
      refine j_ladd dX8_digest_78 ?_
      refine j_lstore_n (L' := [(1, .long ((31 * x4) + x6)), (0, .ref v0), (3, .int s33.2.1)]) dX8_digest_79 rfl (Nat.le_of_ble_eq_true rfl) rfl ?_
      refine j_ldc2 dX8_digest_80 cL_RX8_302 ?_
      refine j_lload_n 0 dX8_digest_83 rfl rfl ?_
      refine j_lmul dX8_digest_84 ?_
      refine j_aload_n 1 dX8_digest_85 rfl rfl ?_
      refine j_getR 8 12 7 dX8_digest_86 fl_RX8_55 (by decide) rfl (by decide) (fun _ _ _ => rfl) (fun x7 => ?_)
      refine j_getL 2 2 1 dX8_digest_89 fl_RX8_282 (by decide) rfl (by decide) rfl (fun x8 => ?_)
      refine j_ladd dX8_digest_92 ?_
      exact j_lret ((31 * ((31 * x4) + x6)) + x8, s33.2.2) dX8_digest_93 rfl (fun q => q)
    · refine j_ldc2 dX8_digest_38 cL_RX8_302 ?_
      refine j_lload_n 1 dX8_digest_41 rfl rfl ?_
      refine j_lmul dX8_digest_42 ?_
      refine j_aload_n 0 dX8_digest_43 rfl rfl ?_
      refine j_iload_n 2 dX8_digest_44 rfl rfl ?_
      refine j_callV (as := [.int s33.2.1]) (fun x => some (.int x.1)) (fun x => x.2) 8 12 dX8_digest_45 ml_RX8_307 tg_X8_now im_X8_now se_X8_now rfl (by decide) (fun x hx => kX8_now κ.1 κ.2.1 v0 s33.2.1 s33.2.2 x hx) (by decide) (by decide) rfl rfl (Nat.le_of_ble_eq_true rfl) (fun q9 => ?_)
      show xJ iX8_digest κ _ 48 [(0, .ref v0), (1, .long s33.1), (3, .int s33.2.1)] [.int q9.1, .long (31 * s33.1)] q9.2 _
      refine j_i2l dX8_digest_48 ?_
      refine j_ladd dX8_digest_49 ?_
      refine j_lstore_n (L' := [(1, .long ((31 * s33.1) + ((q9.1 : Int32).toInt64))), (0, .ref v0), (3, .int s33.2.1)]) dX8_digest_50 rfl (Nat.le_of_ble_eq_true rfl) rfl ?_
      refine j_iinc (y := s33.2.1 + 1) (L' := [(3, .int (s33.2.1 + 1)), (1, .long ((31 * s33.1) + ((q9.1 : Int32).toInt64))), (0, .ref v0)]) 2 dX8_digest_51 rfl rfl (Nat.le_of_ble_eq_true rfl) rfl ?_
      refine j_goto (tgt := 33) dX8_digest_54 (by decide) ?_
      refine j_pick [2, 1, 0] rfl ?_
      exact j_again ((31 * s33.1) + ((q9.1 : Int32).toInt64), s33.2.1 + 1, q9.2) rfl rfl
  · refine j_ldc2 dX8_digest_12 cL_RX8_302 ?_
    refine j_lload_n 1 dX8_digest_15 rfl rfl ?_
    refine j_lmul dX8_digest_16 ?_
    refine j_aload_n 0 dX8_digest_17 rfl rfl ?_
    refine j_iload_n 2 dX8_digest_18 rfl rfl ?_
    refine j_callV (as := [.int s6.2.1]) (fun x => some (.int x.1)) (fun x => x.2) 8 12 dX8_digest_19 ml_RX8_304 tg_X8_count im_X8_count se_X8_count rfl (by decide) (fun x hx => kX8_count κ.1 κ.2.1 v0 s6.2.1 s6.2.2 x hx) (by decide) (by decide) rfl rfl (Nat.le_of_ble_eq_true rfl) (fun q10 => ?_)
    show xJ iX8_digest κ _ 22 [(0, .ref v0), (1, .long s6.1), (3, .int s6.2.1)] [.int q10.1, .long (31 * s6.1)] q10.2 _
    refine j_i2l dX8_digest_22 ?_
    refine j_ladd dX8_digest_23 ?_
    refine j_lstore_n (L' := [(1, .long ((31 * s6.1) + ((q10.1 : Int32).toInt64))), (0, .ref v0), (3, .int s6.2.1)]) dX8_digest_24 rfl (Nat.le_of_ble_eq_true rfl) rfl ?_
    refine j_iinc (y := s6.2.1 + 1) (L' := [(3, .int (s6.2.1 + 1)), (1, .long ((31 * s6.1) + ((q10.1 : Int32).toInt64))), (0, .ref v0)]) 2 dX8_digest_25 rfl rfl (Nat.le_of_ble_eq_true rfl) rfl ?_
    refine j_goto (tgt := 6) dX8_digest_28 (by decide) ?_
    refine j_pick [2, 1, 0] rfl ?_
    exact j_again ((31 * s6.1) + ((q10.1 : Int32).toInt64), s6.2.1 + 1, q10.2) rfl rfl
def fX9_sums_b6 (v0 : Nat) (v3 : Int32) (v4 : Int32) (h : Hp) (s6 : Int64 × Int32) : Option ((Int64 × Int32) ⊕ ((Int64))) :=
  if (v4 : Int32) ≤ s6.2 then (some (Sum.inr s6.1)) else ((xgR h v0 (9, 18) 0).bind fun x2 => (xaI h x2 10 (v3 + s6.2)).bind fun x3 => some (Sum.inl ((31 * s6.1) + ((x3 : Int32).toInt64), s6.2 + 1)))
def fX9_sums (v0 : Nat) (v1 : Int64) (v3 : Int32) (v4 : Int32) (h : Hp) : Option (Int64) :=
  (xloop (fX9_sums_b6 v0 v3 v4 h) 1000000 (v1, 0)).bind (fun r6 => some r6)
abbrev iX9_sums : xI := (cX9_sums, yX9_sums.cls, yX9_sums.name, some .long, 8, 2)
set_option maxHeartbeats 4000000 in
set_option maxRecDepth 100000 in
theorem kX9_sums (l : Launch) (η : xEnv) (v0 : Nat) (v1 : Int64) (v3 : Int32) (v4 : Int32) (h : Hp) (x : Int64) (hx : fX9_sums v0 v1 v3 v4 h = some x) : xC l η yX9_sums cX9_sums 8 (some .long) 2 [.ref v0, .long v1, .int v3, .int v4] h (some (.long x)) h := by
  refine xC_of (by decide) (Nat.le_of_ble_eq_true rfl) hx (fun κ x => κ.2.2.2.1 = some (.long x) ∧ κ.2.2.2.2 = h) ⟨rfl, rfl⟩ (fun κ => ?_)
  show xJ iX9_sums κ _ 0 [(0, .ref v0), (1, .long v1), (3, .int v3), (4, .int v4)] [] h (fX9_sums v0 v1 v3 v4 h)
  unfold fX9_sums
  refine j_lload_n 1 dX9_sums_0 rfl rfl ?_
  refine j_lstore (L' := [(5, .long v1), (0, .ref v0), (1, .long v1), (3, .int v3), (4, .int v4)]) dX9_sums_1 (Nat.le_of_ble_eq_true rfl) rfl ?_
  refine j_iconst (x := 0) dX9_sums_3 (by decide) ?_
  refine j_istore (L' := [(7, .int 0), (5, .long v1), (0, .ref v0), (1, .long v1), (3, .int v3), (4, .int v4)]) dX9_sums_4 (Nat.le_of_ble_eq_true rfl) rfl ?_
  refine j_pick [2, 4, 5, 1, 0] rfl ?_
  refine j_loop (pc := 6) (Lf := fun s6 : Int64 × Int32 => [(0, .ref v0), (3, .int v3), (4, .int v4), (5, .long s6.1), (7, .int s6.2)]) (Hf := fun s6 : Int64 × Int32 => h) (fun s6 => ?_) 1000000 (v1, 0)
  show xJ iX9_sums κ _ 6 [(0, .ref v0), (3, .int v3), (4, .int v4), (5, .long s6.1), (7, .int s6.2)] [] h (fX9_sums_b6 v0 v3 v4 h s6)
  unfold fX9_sums_b6
  refine j_iload 4 dX9_sums_6 rfl ?_
  refine j_iload 2 dX9_sums_8 rfl ?_
  refine j_icmp_ge (tgt := 38) dX9_sums_10 (by decide) (fun c1 => ?_) (fun c1 => ?_)
  · refine j_exit s6.1 ?_
    show xJ iX9_sums κ _ _ _ _ _ (some s6.1)
    refine j_lload 3 dX9_sums_38 rfl ?_
    exact j_lret s6.1 dX9_sums_40 rfl (fun q => q)
  · refine j_ldc2 dX9_sums_13 cL_RX9_264 ?_
    refine j_lload 3 dX9_sums_16 rfl ?_
    refine j_lmul dX9_sums_18 ?_
    refine j_aload_n 0 dX9_sums_19 rfl rfl ?_
    refine j_getR 9 18 0 dX9_sums_20 fl_RX9_7 (by decide) rfl (by decide) (fun _ _ _ => rfl) (fun x2 => ?_)
    refine j_iload_n 1 dX9_sums_23 rfl rfl ?_
    refine j_iload 4 dX9_sums_24 rfl ?_
    refine j_iadd dX9_sums_26 ?_
    refine j_iald dX9_sums_27 (fun x3 => ?_)
    refine j_i2l dX9_sums_28 ?_
    refine j_ladd dX9_sums_29 ?_
    refine j_lstore (L' := [(5, .long ((31 * s6.1) + ((x3 : Int32).toInt64))), (0, .ref v0), (3, .int v3), (4, .int v4), (7, .int s6.2)]) dX9_sums_30 (Nat.le_of_ble_eq_true rfl) rfl ?_
    refine j_iinc (y := s6.2 + 1) (L' := [(7, .int (s6.2 + 1)), (5, .long ((31 * s6.1) + ((x3 : Int32).toInt64))), (0, .ref v0), (3, .int v3), (4, .int v4)]) 4 dX9_sums_32 rfl rfl (Nat.le_of_ble_eq_true rfl) rfl ?_
    refine j_goto (tgt := 6) dX9_sums_35 (by decide) ?_
    refine j_pick [2, 3, 4, 1, 0] rfl ?_
    exact j_again ((31 * s6.1) + ((x3 : Int32).toInt64), s6.2 + 1) rfl rfl
def fX9_digest_b51 (v0 : Nat) (h : Hp) (s51 : Int64 × Int32) : Option ((Int64 × Int32) ⊕ ((Nat × Int64))) :=
  (xat h v0 (9, 18) (fX9_many v0 h)).bind fun x4 => if (x4 : Int32) ≤ s51.2 then (some (Sum.inr (v0, s51.1))) else ((xgR h v0 (9, 18) 0).bind fun x11 => (xaI h x11 10 (19 + s51.2)).bind fun x12 => (xgR h v0 (9, 18) 0).bind fun x13 => (xaI h x13 10 (26 + s51.2)).bind fun x14 => (xgR h v0 (9, 18) 0).bind fun x15 => (xaI h x15 10 (33 + s51.2)).bind fun x16 => (xgR h v0 (9, 18) 0).bind fun x17 => (xaI h x17 10 (40 + s51.2)).bind fun x18 => (xgR h v0 (9, 18) 0).bind fun x19 => (xaI h x19 10 (47 + s51.2)).bind fun x20 => some (Sum.inl ((31 * ((31 * ((31 * ((31 * ((31 * s51.1) + ((x12 : Int32).toInt64))) + ((x14 : Int32).toInt64))) + ((x16 : Int32).toInt64))) + ((x18 : Int32).toInt64))) + ((x20 : Int32).toInt64), s51.2 + 1)))
def fX9_digest_b6 (v0 : Nat) (h : Hp) (s6 : Int64 × Int32) : Option ((Int64 × Int32) ⊕ ((Nat × Int64))) :=
  if (7 : Int32) ≤ s6.2 then (some (Sum.inr (v0, s6.1))) else ((xat h v0 (9, 18) (fX9_counted v0 s6.2 h)).bind fun x21 => some (Sum.inl ((31 * s6.1) + ((x21 : Int32).toInt64), s6.2 + 1)))
def fX9_digest (v0 : Nat) (h : Hp) : Option (Int64) :=
  (xloop (fX9_digest_b6 v0 h) 1000000 (1381, 0)).bind (fun r6 => (xat h r6.1 (9, 18) (fX9_sums r6.1 r6.2 3 5 h)).bind fun x22 => (xat h r6.1 (9, 18) (fX9_sums r6.1 x22 9 10 h)).bind fun x23 => (xloop (fX9_digest_b51 r6.1 h) 1000000 (x23, 0)).bind (fun r51 => (xgR h r51.1 (9, 18) 0).bind fun x41 => (xaI h x41 10 1).bind fun x42 => (xat h r51.1 (9, 18) (fX9_sums r51.1 r51.2 54 (4 * x42) h)).bind fun x43 => (xgL h r51.1 (9, 18) 4).bind fun x44 => (xgL h r51.1 (9, 18) 5).bind fun x45 => some ((31 * ((31 * x43) + x44)) + x45)))
abbrev iX9_digest : xI := (cX9_digest, yX9_digest.cls, yX9_digest.name, some .long, 4, 5)
set_option maxHeartbeats 4000000 in
set_option maxRecDepth 100000 in
theorem kX9_digest (l : Launch) (η : xEnv) (v0 : Nat) (h : Hp) (x : Int64) (hx : fX9_digest v0 h = some x) : xC l η yX9_digest cX9_digest 4 (some .long) 5 [.ref v0] h (some (.long x)) h := by
  refine xC_of (by decide) (Nat.le_of_ble_eq_true rfl) hx (fun κ x => κ.2.2.2.1 = some (.long x) ∧ κ.2.2.2.2 = h) ⟨rfl, rfl⟩ (fun κ => ?_)
  show xJ iX9_digest κ _ 0 [(0, .ref v0)] [] h (fX9_digest v0 h)
  unfold fX9_digest
  refine j_ldc2 dX9_digest_0 cL_RX9_266 ?_
  refine j_lstore_n (L' := [(1, .long 1381), (0, .ref v0)]) dX9_digest_3 rfl (Nat.le_of_ble_eq_true rfl) rfl ?_
  refine j_iconst (x := 0) dX9_digest_4 (by decide) ?_
  refine j_istore_n (L' := [(3, .int 0), (1, .long 1381), (0, .ref v0)]) dX9_digest_5 rfl (Nat.le_of_ble_eq_true rfl) rfl ?_
  refine j_pick [2, 1, 0] rfl ?_
  refine j_loop (pc := 6) (Lf := fun s6 : Int64 × Int32 => [(0, .ref v0), (1, .long s6.1), (3, .int s6.2)]) (Hf := fun s6 : Int64 × Int32 => h) (fun s6 => ?_) 1000000 (1381, 0)
  show xJ iX9_digest κ _ 6 [(0, .ref v0), (1, .long s6.1), (3, .int s6.2)] [] h (fX9_digest_b6 v0 h s6)
  unfold fX9_digest_b6
  refine j_iload_n 2 dX9_digest_6 rfl rfl ?_
  refine j_bipush (x := 7) dX9_digest_7 (by decide) ?_
  refine j_icmp_ge (tgt := 31) dX9_digest_9 (by decide) (fun c1 => ?_) (fun c1 => ?_)
  · refine j_exit (v0, s6.1) ?_
    show xJ iX9_digest κ _ _ _ _ _ ((xat h v0 (9, 18) (fX9_sums v0 s6.1 3 5 h)).bind fun x2 => (xat h v0 (9, 18) (fX9_sums v0 x2 9 10 h)).bind fun x3 => (xloop (fX9_digest_b51 v0 h) 1000000 (x3, 0)).bind (fun r51 => (xgR h r51.1 (9, 18) 0).bind fun x21 => (xaI h x21 10 1).bind fun x22 => (xat h r51.1 (9, 18) (fX9_sums r51.1 r51.2 54 (4 * x22) h)).bind fun x23 => (xgL h r51.1 (9, 18) 4).bind fun x24 => (xgL h r51.1 (9, 18) 5).bind fun x25 => some ((31 * ((31 * x23) + x24)) + x25)))
    refine j_aload_n 0 dX9_digest_31 rfl rfl ?_
    refine j_lload_n 1 dX9_digest_32 rfl rfl ?_
    refine j_iconst (x := 3) dX9_digest_33 (by decide) ?_
    refine j_iconst (x := 5) dX9_digest_34 (by decide) ?_
    refine j_callV (as := [.long s6.1, .int 3, .int 5]) (fun x => some (.long x)) (fun _ => h) 9 18 dX9_digest_35 ml_RX9_268 tg_X9_sums im_X9_sums se_X9_sums rfl (by decide) (fun x hx => kX9_sums κ.1 κ.2.1 v0 s6.1 3 5 h x hx) (by decide) (by decide) rfl rfl (Nat.le_of_ble_eq_true rfl) (fun x2 => ?_)
    show xJ iX9_digest κ _ 38 [(0, .ref v0), (1, .long s6.1), (3, .int s6.2)] [.long x2] h _
    refine j_lstore_n (L' := [(1, .long x2), (0, .ref v0), (3, .int s6.2)]) dX9_digest_38 rfl (Nat.le_of_ble_eq_true rfl) rfl ?_
    refine j_aload_n 1 dX9_digest_39 rfl rfl ?_
    refine j_lload_n 0 dX9_digest_40 rfl rfl ?_
    refine j_bipush (x := 9) dX9_digest_41 (by decide) ?_
    refine j_bipush (x := 10) dX9_digest_43 (by decide) ?_
    refine j_callV (as := [.long x2, .int 9, .int 10]) (fun x => some (.long x)) (fun _ => h) 9 18 dX9_digest_45 ml_RX9_268 tg_X9_sums im_X9_sums se_X9_sums rfl (by decide) (fun x hx => kX9_sums κ.1 κ.2.1 v0 x2 9 10 h x hx) (by decide) (by decide) rfl rfl (Nat.le_of_ble_eq_true rfl) (fun x3 => ?_)
    show xJ iX9_digest κ _ 48 [(1, .long x2), (0, .ref v0), (3, .int s6.2)] [.long x3] h _
    refine j_lstore_n (L' := [(1, .long x3), (0, .ref v0), (3, .int s6.2)]) dX9_digest_48 rfl (Nat.le_of_ble_eq_true rfl) rfl ?_
    refine j_iconst (x := 0) dX9_digest_49 (by decide) ?_
    refine j_istore_n (L' := [(3, .int 0), (1, .long x3), (0, .ref v0)]) dX9_digest_50 rfl (Nat.le_of_ble_eq_true rfl) rfl ?_
    refine j_pick [2, 1, 0] rfl ?_
    refine j_loop (pc := 51) (Lf := fun s51 : Int64 × Int32 => [(0, .ref v0), (1, .long s51.1), (3, .int s51.2)]) (Hf := fun s51 : Int64 × Int32 => h) (fun s51 => ?_) 1000000 (x3, 0)
    show xJ iX9_digest κ _ 51 [(0, .ref v0), (1, .long s51.1), (3, .int s51.2)] [] h (fX9_digest_b51 v0 h s51)
    unfold fX9_digest_b51
    refine j_iload_n 2 dX9_digest_51 rfl rfl ?_
    refine j_aload_n 0 dX9_digest_52 rfl rfl ?_
    refine j_callV (as := []) (fun x => some (.int x)) (fun _ => h) 9 18 dX9_digest_53 ml_RX9_52 tg_X9_many im_X9_many se_X9_many rfl (by decide) (fun x hx => kX9_many κ.1 κ.2.1 v0 h x hx) (by decide) (by decide) rfl rfl (Nat.le_of_ble_eq_true rfl) (fun x4 => ?_)
    show xJ iX9_digest κ _ 56 [(0, .ref v0), (1, .long s51.1), (3, .int s51.2)] [.int x4, .int s51.2] h _
    refine j_icmp_ge (tgt := 144) dX9_digest_56 (by decide) (fun c5 => ?_) (fun c5 => ?_)
    · refine j_exit (v0, s51.1) ?_
      show xJ iX9_digest κ _ _ _ _ _ ((xgR h v0 (9, 18) 0).bind fun x6 => (xaI h x6 10 1).bind fun x7 => (xat h v0 (9, 18) (fX9_sums v0 s51.1 54 (4 * x7) h)).bind fun x8 => (xgL h v0 (9, 18) 4).bind fun x9 => (xgL h v0 (9, 18) 5).bind fun x10 => some ((31 * ((31 * x8) + x9)) + x10))
      refine j_aload_n 0 dX9_digest_144 rfl rfl ?_
      refine j_lload_n 1 dX9_digest_145 rfl rfl ?_
      refine j_bipush (x := 54) dX9_digest_146 (by decide) ?_
      refine j_iconst (x := 4) dX9_digest_148 (by decide) ?_
      refine j_aload_n 0 dX9_digest_149 rfl rfl ?_
      refine j_getR 9 18 0 dX9_digest_150 fl_RX9_7 (by decide) rfl (by decide) (fun _ _ _ => rfl) (fun x6 => ?_)
      refine j_iconst (x := 1) dX9_digest_153 (by decide) ?_
      refine j_iald dX9_digest_154 (fun x7 => ?_)
      refine j_imul dX9_digest_155 ?_
      refine j_callV (as := [.long s51.1, .int 54, .int (4 * x7)]) (fun x => some (.long x)) (fun _ => h) 9 18 dX9_digest_156 ml_RX9_268 tg_X9_sums im_X9_sums se_X9_sums rfl (by decide) (fun x hx => kX9_sums κ.1 κ.2.1 v0 s51.1 54 (4 * x7) h x hx) (by decide) (by decide) rfl rfl (Nat.le_of_ble_eq_true rfl) (fun x8 => ?_)
      show xJ iX9_digest κ _ 159 [(0, .ref v0), (1, .long s51.1), (3, .int s51.2)] [.long x8] h _
      refine j_lstore_n (L' := [(1, .long x8), (0, .ref v0), (3, .int s51.2)]) dX9_digest_159 rfl (Nat.le_of_ble_eq_true rfl) rfl ?_
      refine j_ldc2 dX9_digest_160 cL_RX9_264 ?_
      refine j_ldc2 dX9_digest_163 cL_RX9_264 ?_
      refine j_lload_n 0 dX9_digest_166 rfl rfl ?_
      refine j_lmul dX9_digest_167 ?_
      refine j_aload_n 1 dX9_digest_168 rfl rfl ?_
      refine j_getL 9 18 4 dX9_digest_169 fl_RX9_159 (by decide) rfl (by decide) rfl (fun x9 => ?_)
      refine j_ladd dX9_digest_172 ?_
      refine j_lmul dX9_digest_173 ?_
      refine j_aload_n 1 dX9_digest_174 rfl rfl ?_
      refine j_getL 9 18 5 dX9_digest_175 fl_RX9_23 (by decide) rfl (by decide) rfl (fun x10 => ?_)
      refine j_ladd dX9_digest_178 ?_
      exact j_lret ((31 * ((31 * x8) + x9)) + x10) dX9_digest_179 rfl (fun q => q)
    · refine j_ldc2 dX9_digest_59 cL_RX9_264 ?_
      refine j_ldc2 dX9_digest_62 cL_RX9_264 ?_
      refine j_lload_n 1 dX9_digest_65 rfl rfl ?_
      refine j_lmul dX9_digest_66 ?_
      refine j_aload_n 0 dX9_digest_67 rfl rfl ?_
      refine j_getR 9 18 0 dX9_digest_68 fl_RX9_7 (by decide) rfl (by decide) (fun _ _ _ => rfl) (fun x11 => ?_)
      refine j_bipush (x := 19) dX9_digest_71 (by decide) ?_
      refine j_iload_n 2 dX9_digest_73 rfl rfl ?_
      refine j_iadd dX9_digest_74 ?_
      refine j_iald dX9_digest_75 (fun x12 => ?_)
      refine j_i2l dX9_digest_76 ?_
      refine j_ladd dX9_digest_77 ?_
      refine j_lmul dX9_digest_78 ?_
      refine j_aload_n 0 dX9_digest_79 rfl rfl ?_
      refine j_getR 9 18 0 dX9_digest_80 fl_RX9_7 (by decide) rfl (by decide) (fun _ _ _ => rfl) (fun x13 => ?_)
      refine j_bipush (x := 26) dX9_digest_83 (by decide) ?_
      refine j_iload_n 2 dX9_digest_85 rfl rfl ?_
      refine j_iadd dX9_digest_86 ?_
      refine j_iald dX9_digest_87 (fun x14 => ?_)
      refine j_i2l dX9_digest_88 ?_
      refine j_ladd dX9_digest_89 ?_
      refine j_lstore_n (L' := [(1, .long ((31 * ((31 * s51.1) + ((x12 : Int32).toInt64))) + ((x14 : Int32).toInt64))), (0, .ref v0), (3, .int s51.2)]) dX9_digest_90 rfl (Nat.le_of_ble_eq_true rfl) rfl ?_
      refine j_ldc2 dX9_digest_91 cL_RX9_264 ?_
      refine j_ldc2 dX9_digest_94 cL_RX9_264 ?_
      refine j_ldc2 dX9_digest_97 cL_RX9_264 ?_
      refine j_lload_n 0 dX9_digest_100 rfl rfl ?_
      refine j_lmul dX9_digest_101 ?_
      refine j_aload_n 1 dX9_digest_102 rfl rfl ?_
      refine j_getR 9 18 0 dX9_digest_103 fl_RX9_7 (by decide) rfl (by decide) (fun _ _ _ => rfl) (fun x15 => ?_)
      refine j_bipush (x := 33) dX9_digest_106 (by decide) ?_
      refine j_iload_n 2 dX9_digest_108 rfl rfl ?_
      refine j_iadd dX9_digest_109 ?_
      refine j_iald dX9_digest_110 (fun x16 => ?_)
      refine j_i2l dX9_digest_111 ?_
      refine j_ladd dX9_digest_112 ?_
      refine j_lmul dX9_digest_113 ?_
      refine j_aload_n 1 dX9_digest_114 rfl rfl ?_
      refine j_getR 9 18 0 dX9_digest_115 fl_RX9_7 (by decide) rfl (by decide) (fun _ _ _ => rfl) (fun x17 => ?_)
      refine j_bipush (x := 40) dX9_digest_118 (by decide) ?_
      refine j_iload_n 2 dX9_digest_120 rfl rfl ?_
      refine j_iadd dX9_digest_121 ?_
      refine j_iald dX9_digest_122 (fun x18 => ?_)
      refine j_i2l dX9_digest_123 ?_
      refine j_ladd dX9_digest_124 ?_
      refine j_lmul dX9_digest_125 ?_
      refine j_aload_n 1 dX9_digest_126 rfl rfl ?_
      refine j_getR 9 18 0 dX9_digest_127 fl_RX9_7 (by decide) rfl (by decide) (fun _ _ _ => rfl) (fun x19 => ?_)
      refine j_bipush (x := 47) dX9_digest_130 (by decide) ?_
      refine j_iload_n 2 dX9_digest_132 rfl rfl ?_
      refine j_iadd dX9_digest_133 ?_
      refine j_iald dX9_digest_134 (fun x20 => ?_)
      refine j_i2l dX9_digest_135 ?_
      refine j_ladd dX9_digest_136 ?_
      refine j_lstore_n (L' := [(1, .long ((31 * ((31 * ((31 * ((31 * ((31 * s51.1) + ((x12 : Int32).toInt64))) + ((x14 : Int32).toInt64))) + ((x16 : Int32).toInt64))) + ((x18 : Int32).toInt64))) + ((x20 : Int32).toInt64))), (0, .ref v0), (3, .int s51.2)]) dX9_digest_137 rfl (Nat.le_of_ble_eq_true rfl) rfl ?_
      refine j_iinc (y := s51.2 + 1) (L' := [(3, .int (s51.2 + 1)), (1, .long ((31 * ((31 * ((31 * ((31 * ((31 * s51.1) + ((x12 : Int32).toInt64))) + ((x14 : Int32).toInt64))) + ((x16 : Int32).toInt64))) + ((x18 : Int32).toInt64))) + ((x20 : Int32).toInt64))), (0, .ref v0)]) 2 dX9_digest_138 rfl rfl (Nat.le_of_ble_eq_true rfl) rfl ?_
      refine j_goto (tgt := 51) dX9_digest_141 (by decide) ?_
      refine j_pick [2, 1, 0] rfl ?_
      exact j_again ((31 * ((31 * ((31 * ((31 * ((31 * s51.1) + ((x12 : Int32).toInt64))) + ((x14 : Int32).toInt64))) + ((x16 : Int32).toInt64))) + ((x18 : Int32).toInt64))) + ((x20 : Int32).toInt64), s51.2 + 1) rfl rfl
  · refine j_ldc2 dX9_digest_12 cL_RX9_264 ?_
    refine j_lload_n 1 dX9_digest_15 rfl rfl ?_
    refine j_lmul dX9_digest_16 ?_
    refine j_aload_n 0 dX9_digest_17 rfl rfl ?_
    refine j_iload_n 2 dX9_digest_18 rfl rfl ?_
    refine j_callV (as := [.int s6.2]) (fun x => some (.int x)) (fun _ => h) 9 18 dX9_digest_19 ml_RX9_261 tg_X9_counted im_X9_counted se_X9_counted rfl (by decide) (fun x hx => kX9_counted κ.1 κ.2.1 v0 s6.2 h x hx) (by decide) (by decide) rfl rfl (Nat.le_of_ble_eq_true rfl) (fun x21 => ?_)
    show xJ iX9_digest κ _ 22 [(0, .ref v0), (1, .long s6.1), (3, .int s6.2)] [.int x21, .long (31 * s6.1)] h _
    refine j_i2l dX9_digest_22 ?_
    refine j_ladd dX9_digest_23 ?_
    refine j_lstore_n (L' := [(1, .long ((31 * s6.1) + ((x21 : Int32).toInt64))), (0, .ref v0), (3, .int s6.2)]) dX9_digest_24 rfl (Nat.le_of_ble_eq_true rfl) rfl ?_
    refine j_iinc (y := s6.2 + 1) (L' := [(3, .int (s6.2 + 1)), (1, .long ((31 * s6.1) + ((x21 : Int32).toInt64))), (0, .ref v0)]) 2 dX9_digest_25 rfl rfl (Nat.le_of_ble_eq_true rfl) rfl ?_
    refine j_goto (tgt := 6) dX9_digest_28 (by decide) ?_
    refine j_pick [2, 1, 0] rfl ?_
    exact j_again ((31 * s6.1) + ((x21 : Int32).toInt64), s6.2 + 1) rfl rfl
