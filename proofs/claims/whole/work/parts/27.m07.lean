def fX0_goBack (v0 : Nat) (h : Hp) : Option (Hp) :=
  (xgI h v0 (0, 16) 15).bind fun x1 => if (0 : Int32) < x1 then ((xgI h v0 (0, 16) 15).bind fun x3 => (xpI h v0 (0, 16) 15 (x3 - 1)).bind fun h4 => (xgR h4 v0 (0, 16) 13).bind fun x5 => (xgR h4 v0 (0, 16) 14).bind fun x6 => (xgI h4 v0 (0, 16) 15).bind fun x7 => (xaR h4 x6 13 x7).bind fun x8 => (xat h4 x5 (5, 5) (fX5_take x5 x8 h4)).bind fun h9 => some h9) else (some h)
abbrev iX0_goBack : xI := (cX0_goBack, yX0_goBack.cls, yX0_goBack.name, none, 1, 3)
set_option maxHeartbeats 4000000 in
set_option maxRecDepth 100000 in
theorem kX0_goBack (l : Launch) (η : xEnv) (v0 : Nat) (h : Hp) (x : Hp) (hx : fX0_goBack v0 h = some x) : xC l η yX0_goBack cX0_goBack 1 none 3 [.ref v0] h none x := by
  refine xC_of (by decide) (Nat.le_of_ble_eq_true rfl) hx (fun κ x => κ.2.2.2.1 = none ∧ κ.2.2.2.2 = x) ⟨rfl, rfl⟩ (fun κ => ?_)
  show xJ iX0_goBack κ _ 0 [(0, .ref v0)] [] h (fX0_goBack v0 h)
  unfold fX0_goBack
  refine j_aload_n 0 dX0_goBack_0 rfl rfl ?_
  refine j_getI 0 16 15 dX0_goBack_1 fl_RX0_66 (by decide) rfl (by decide) rfl (fun x1 => ?_)
  refine j_if_gt (tgt := 8) dX0_goBack_4 (by decide) (fun c2 => ?_) (fun c2 => ?_)
  · refine j_aload_n 0 dX0_goBack_8 rfl rfl ?_
    refine j_dup dX0_goBack_9 rfl ?_
    refine j_getI 0 16 15 dX0_goBack_10 fl_RX0_66 (by decide) rfl (by decide) rfl (fun x3 => ?_)
    refine j_iconst (x := 1) dX0_goBack_13 (by decide) ?_
    refine j_isub dX0_goBack_14 ?_
    refine j_putI 0 16 15 dX0_goBack_15 fl_RX0_66 (by decide) rfl (by decide) rfl rfl (fun h4 => ?_)
    refine j_aload_n 0 dX0_goBack_18 rfl rfl ?_
    refine j_getR 0 16 13 dX0_goBack_19 fl_RX0_49 (by decide) rfl (by decide) (fun _ _ _ => rfl) (fun x5 => ?_)
    refine j_aload_n 0 dX0_goBack_22 rfl rfl ?_
    refine j_getR 0 16 14 dX0_goBack_23 fl_RX0_53 (by decide) rfl (by decide) (fun _ _ _ => rfl) (fun x6 => ?_)
    refine j_aload_n 0 dX0_goBack_26 rfl rfl ?_
    refine j_getI 0 16 15 dX0_goBack_27 fl_RX0_66 (by decide) rfl (by decide) rfl (fun x7 => ?_)
    refine j_aald13 dX0_goBack_30 (fun x8 => ?_)
    refine j_callV (as := [.ref x8]) (fun _ => none) (fun x => x) 5 5 dX0_goBack_31 ml_RX0_75 tg_X5_take im_X5_take se_X5_take rfl (by decide) (fun x hx => kX5_take κ.1 κ.2.1 x5 x8 h4 x hx) (by decide) (by decide) rfl rfl (Nat.le_of_ble_eq_true rfl) (fun h9 => ?_)
    show xJ iX0_goBack κ _ 34 [(0, .ref v0)] [] h9 _
    exact j_vret h9 dX0_goBack_34 rfl (fun q => q)
  · exact j_vret h dX0_goBack_7 rfl (fun q => q)
def fX8_undo (v0 : Nat) (h : Hp) : Option (Int32 × Hp) :=
  (xgR h v0 (8, 12) 0).bind fun x1 => (xgI h x1 (0, 16) 15).bind fun x2 => if (0 : Int32) < x2 then ((xgR h v0 (8, 12) 0).bind fun x4 => (xat h x4 (0, 16) (fX0_goBack x4 h)).bind fun h5 => (xgR h5 v0 (8, 12) 0).bind fun x6 => (xgR h5 x6 (0, 16) 13).bind fun x7 => (xgI h5 x7 (5, 5) 0).bind fun x8 => some (x8, h5)) else ((xat h v0 (8, 12) (fX8_refuseNo v0 h)).bind fun q9 => some (q9.1, q9.2))
abbrev iX8_undo : xI := (cX8_undo, yX8_undo.cls, yX8_undo.name, some .int, 1, 4)
set_option maxHeartbeats 4000000 in
set_option maxRecDepth 100000 in
theorem kX8_undo (l : Launch) (η : xEnv) (v0 : Nat) (h : Hp) (x : Int32 × Hp) (hx : fX8_undo v0 h = some x) : xC l η yX8_undo cX8_undo 1 (some .int) 4 [.ref v0] h (some (.int x.1)) x.2 := by
  refine xC_of (by decide) (Nat.le_of_ble_eq_true rfl) hx (fun κ x => κ.2.2.2.1 = some (.int x.1) ∧ κ.2.2.2.2 = x.2) ⟨rfl, rfl⟩ (fun κ => ?_)
  show xJ iX8_undo κ _ 0 [(0, .ref v0)] [] h (fX8_undo v0 h)
  unfold fX8_undo
  refine j_aload_n 0 dX8_undo_0 rfl rfl ?_
  refine j_getR 8 12 0 dX8_undo_1 fl_RX8_12 (by decide) rfl (by decide) (fun _ _ _ => rfl) (fun x1 => ?_)
  refine j_getI 0 16 15 dX8_undo_4 fl_RX8_84 (by decide) rfl (by decide) rfl (fun x2 => ?_)
  refine j_if_gt (tgt := 15) dX8_undo_7 (by decide) (fun c3 => ?_) (fun c3 => ?_)
  · refine j_aload_n 0 dX8_undo_15 rfl rfl ?_
    refine j_getR 8 12 0 dX8_undo_16 fl_RX8_12 (by decide) rfl (by decide) (fun _ _ _ => rfl) (fun x4 => ?_)
    refine j_callV (as := []) (fun _ => none) (fun x => x) 0 16 dX8_undo_19 ml_RX8_175 tg_X0_goBack im_X0_goBack se_X0_goBack rfl (by decide) (fun x hx => kX0_goBack κ.1 κ.2.1 x4 h x hx) (by decide) (by decide) rfl rfl (Nat.le_of_ble_eq_true rfl) (fun h5 => ?_)
    show xJ iX8_undo κ _ 22 [(0, .ref v0)] [] h5 _
    refine j_aload_n 0 dX8_undo_22 rfl rfl ?_
    refine j_getR 8 12 0 dX8_undo_23 fl_RX8_12 (by decide) rfl (by decide) (fun _ _ _ => rfl) (fun x6 => ?_)
    refine j_getR 0 16 13 dX8_undo_26 fl_RX8_137 (by decide) rfl (by decide) (fun _ _ _ => rfl) (fun x7 => ?_)
    refine j_getI 5 5 0 dX8_undo_29 fl_RX8_141 (by decide) rfl (by decide) rfl (fun x8 => ?_)
    exact j_iret (x8, h5) dX8_undo_32 rfl (fun q => q)
  · refine j_aload_n 0 dX8_undo_10 rfl rfl ?_
    refine j_callV (as := []) (fun x => some (.int x.1)) (fun x => x.2) 8 12 dX8_undo_11 ml_RX8_146 tg_X8_refuseNo im_X8_refuseNo se_X8_refuseNo rfl (by decide) (fun x hx => kX8_refuseNo κ.1 κ.2.1 v0 h x hx) (by decide) (by decide) rfl rfl (Nat.le_of_ble_eq_true rfl) (fun q9 => ?_)
    show xJ iX8_undo κ _ 14 [(0, .ref v0)] [.int q9.1] q9.2 _
    exact j_iret (q9.1, q9.2) dX8_undo_14 rfl (fun q => q)
def fX9_undo_b26 (v0 : Nat) (s26 : Int32 × Hp) : Option ((Int32 × Hp) ⊕ ((Nat × Hp))) :=
  if (5 : Int32) ≤ s26.1 then (some (Sum.inr (v0, s26.2))) else ((xgR s26.2 v0 (9, 18) 0).bind fun x11 => (xgR s26.2 v0 (9, 18) 0).bind fun x12 => (xgR s26.2 v0 (9, 18) 0).bind fun x13 => (xaI s26.2 x13 10 2).bind fun x14 => (xaI s26.2 x12 10 ((78 + (5 * x14)) + s26.1)).bind fun x15 => (xsI s26.2 x11 (3 + s26.1) x15).bind fun h16 => some (Sum.inl (s26.1 + 1, h16)))
def fX9_undo (v0 : Nat) (h : Hp) : Option (Int32 × Hp) :=
  (xgR h v0 (9, 18) 0).bind fun x1 => (xaI h x1 10 2).bind fun x2 => if (x2 : Int32) = 0 then ((xat h v0 (9, 18) (fX9_no v0 h)).bind fun q4 => some (q4.1, q4.2)) else ((xgR h v0 (9, 18) 0).bind fun x5 => (xaI h x5 10 2).bind fun x6 => (xsI h x5 2 (x6 - 1)).bind fun h7 => (xloop (fX9_undo_b26 v0) 1000000 (0, h7)).bind (fun r26 => (xgR r26.2 r26.1 (9, 18) 0).bind fun x17 => (xaI r26.2 x17 10 3).bind fun x18 => some (x18, r26.2)))
abbrev iX9_undo : xI := (cX9_undo, yX9_undo.cls, yX9_undo.name, some .int, 2, 3)
set_option maxHeartbeats 4000000 in
set_option maxRecDepth 100000 in
theorem kX9_undo (l : Launch) (η : xEnv) (v0 : Nat) (h : Hp) (x : Int32 × Hp) (hx : fX9_undo v0 h = some x) : xC l η yX9_undo cX9_undo 2 (some .int) 3 [.ref v0] h (some (.int x.1)) x.2 := by
  refine xC_of (by decide) (Nat.le_of_ble_eq_true rfl) hx (fun κ x => κ.2.2.2.1 = some (.int x.1) ∧ κ.2.2.2.2 = x.2) ⟨rfl, rfl⟩ (fun κ => ?_)
  show xJ iX9_undo κ _ 0 [(0, .ref v0)] [] h (fX9_undo v0 h)
  unfold fX9_undo
  refine j_aload_n 0 dX9_undo_0 rfl rfl ?_
  refine j_getR 9 18 0 dX9_undo_1 fl_RX9_7 (by decide) rfl (by decide) (fun _ _ _ => rfl) (fun x1 => ?_)
  refine j_iconst (x := 2) dX9_undo_4 (by decide) ?_
  refine j_iald dX9_undo_5 (fun x2 => ?_)
  refine j_if_ne (tgt := 14) dX9_undo_6 (by decide) (fun c3 => ?_) (fun c3 => ?_)
  · refine j_aload_n 0 dX9_undo_9 rfl rfl ?_
    refine j_callV (as := []) (fun x => some (.int x.1)) (fun x => x.2) 9 18 dX9_undo_10 ml_RX9_119 tg_X9_no im_X9_no se_X9_no rfl (by decide) (fun x hx => kX9_no κ.1 κ.2.1 v0 h x hx) (by decide) (by decide) rfl rfl (Nat.le_of_ble_eq_true rfl) (fun q4 => ?_)
    show xJ iX9_undo κ _ 13 [(0, .ref v0)] [.int q4.1] q4.2 _
    exact j_iret (q4.1, q4.2) dX9_undo_13 rfl (fun q => q)
  · refine j_aload_n 0 dX9_undo_14 rfl rfl ?_
    refine j_getR 9 18 0 dX9_undo_15 fl_RX9_7 (by decide) rfl (by decide) (fun _ _ _ => rfl) (fun x5 => ?_)
    refine j_iconst (x := 2) dX9_undo_18 (by decide) ?_
    refine j_dup2 dX9_undo_19 rfl rfl ?_
    refine j_iald dX9_undo_20 (fun x6 => ?_)
    refine j_iconst (x := 1) dX9_undo_21 (by decide) ?_
    refine j_isub dX9_undo_22 ?_
    refine j_iast dX9_undo_23 (fun h7 => ?_)
    refine j_iconst (x := 0) dX9_undo_24 (by decide) ?_
    refine j_istore_n (L' := [(1, .int 0), (0, .ref v0)]) dX9_undo_25 rfl (Nat.le_of_ble_eq_true rfl) rfl ?_
    refine j_pick [1, 0] rfl ?_
    refine j_loop (pc := 26) (Lf := fun s26 : Int32 × Hp => [(0, .ref v0), (1, .int s26.1)]) (Hf := fun s26 : Int32 × Hp => s26.2) (fun s26 => ?_) 1000000 (0, h7)
    show xJ iX9_undo κ _ 26 [(0, .ref v0), (1, .int s26.1)] [] s26.2 (fX9_undo_b26 v0 s26)
    unfold fX9_undo_b26
    refine j_iload_n 1 dX9_undo_26 rfl rfl ?_
    refine j_iconst (x := 5) dX9_undo_27 (by decide) ?_
    refine j_icmp_ge (tgt := 63) dX9_undo_28 (by decide) (fun c8 => ?_) (fun c8 => ?_)
    · refine j_exit (v0, s26.2) ?_
      show xJ iX9_undo κ _ _ _ _ _ ((xgR s26.2 v0 (9, 18) 0).bind fun x9 => (xaI s26.2 x9 10 3).bind fun x10 => some (x10, s26.2))
      refine j_aload_n 0 dX9_undo_63 rfl rfl ?_
      refine j_getR 9 18 0 dX9_undo_64 fl_RX9_7 (by decide) rfl (by decide) (fun _ _ _ => rfl) (fun x9 => ?_)
      refine j_iconst (x := 3) dX9_undo_67 (by decide) ?_
      refine j_iald dX9_undo_68 (fun x10 => ?_)
      exact j_iret (x10, s26.2) dX9_undo_69 rfl (fun q => q)
    · refine j_aload_n 0 dX9_undo_31 rfl rfl ?_
      refine j_getR 9 18 0 dX9_undo_32 fl_RX9_7 (by decide) rfl (by decide) (fun _ _ _ => rfl) (fun x11 => ?_)
      refine j_iconst (x := 3) dX9_undo_35 (by decide) ?_
      refine j_iload_n 1 dX9_undo_36 rfl rfl ?_
      refine j_iadd dX9_undo_37 ?_
      refine j_aload_n 0 dX9_undo_38 rfl rfl ?_
      refine j_getR 9 18 0 dX9_undo_39 fl_RX9_7 (by decide) rfl (by decide) (fun _ _ _ => rfl) (fun x12 => ?_)
      refine j_bipush (x := 78) dX9_undo_42 (by decide) ?_
      refine j_iconst (x := 5) dX9_undo_44 (by decide) ?_
      refine j_aload_n 0 dX9_undo_45 rfl rfl ?_
      refine j_getR 9 18 0 dX9_undo_46 fl_RX9_7 (by decide) rfl (by decide) (fun _ _ _ => rfl) (fun x13 => ?_)
      refine j_iconst (x := 2) dX9_undo_49 (by decide) ?_
      refine j_iald dX9_undo_50 (fun x14 => ?_)
      refine j_imul dX9_undo_51 ?_
      refine j_iadd dX9_undo_52 ?_
      refine j_iload_n 1 dX9_undo_53 rfl rfl ?_
      refine j_iadd dX9_undo_54 ?_
      refine j_iald dX9_undo_55 (fun x15 => ?_)
      refine j_iast dX9_undo_56 (fun h16 => ?_)
      refine j_iinc (y := s26.1 + 1) (L' := [(1, .int (s26.1 + 1)), (0, .ref v0)]) 1 dX9_undo_57 rfl rfl (Nat.le_of_ble_eq_true rfl) rfl ?_
      refine j_goto (tgt := 26) dX9_undo_60 (by decide) ?_
      refine j_pick [1, 0] rfl ?_
      exact j_again (s26.1 + 1, h16) rfl rfl
def fX8_of (v0 : Nat) (v1 : Int32) (v2 : Int32) (h : Hp) : Option (Int32 × Hp) :=
  (xgR h v0 (8, 12) 0).bind fun x1 => (xat h x1 (0, 16) (fX0_has x1 v1 h)).bind fun x2 => if (x2 : Int32) = 0 then ((xat h v0 (8, 12) (fX8_refuseBad v0 h)).bind fun q4 => some (q4.1, q4.2)) else (if (v2 : Int32) = 0 then ((xgR h v0 (8, 12) 0).bind fun x6 => (xgR h x6 (0, 16) 3).bind fun x7 => (xaI h x7 10 v1).bind fun x8 => some (x8, h)) else if (v2 : Int32) = 1 then ((xgR h v0 (8, 12) 0).bind fun x10 => (xgR h x10 (0, 16) 4).bind fun x11 => (xaI h x11 10 v1).bind fun x12 => some (x12, h)) else if (v2 : Int32) = 2 then ((xgR h v0 (8, 12) 0).bind fun x14 => (xgR h x14 (0, 16) 5).bind fun x15 => (xaI h x15 10 v1).bind fun x16 => some (x16, h)) else if (v2 : Int32) = 3 then ((xgR h v0 (8, 12) 0).bind fun x18 => (xgR h x18 (0, 16) 6).bind fun x19 => (xaI h x19 10 v1).bind fun x20 => some (x20, h)) else if (v2 : Int32) = 4 then ((xgR h v0 (8, 12) 0).bind fun x22 => (xgR h x22 (0, 16) 13).bind fun x23 => (xgI h x23 (5, 5) 1).bind fun x24 => (fX8_bit x24 v1 h).bind fun x25 => some (x25, h)) else if (v2 : Int32) = 5 then ((xgR h v0 (8, 12) 0).bind fun x27 => (xgR h x27 (0, 16) 7).bind fun x28 => (xaI h x28 10 v1).bind fun x29 => some (x29, h)) else ((xat h v0 (8, 12) (fX8_refuseBad v0 h)).bind fun q30 => some (q30.1, q30.2)))
abbrev iX8_of : xI := (cX8_of, yX8_of.cls, yX8_of.name, some .int, 3, 3)
set_option maxHeartbeats 4000000 in
set_option maxRecDepth 100000 in
theorem kX8_of (l : Launch) (η : xEnv) (v0 : Nat) (v1 : Int32) (v2 : Int32) (h : Hp) (x : Int32 × Hp) (hx : fX8_of v0 v1 v2 h = some x) : xC l η yX8_of cX8_of 3 (some .int) 3 [.ref v0, .int v1, .int v2] h (some (.int x.1)) x.2 := by
  refine xC_of (by decide) (Nat.le_of_ble_eq_true rfl) hx (fun κ x => κ.2.2.2.1 = some (.int x.1) ∧ κ.2.2.2.2 = x.2) ⟨rfl, rfl⟩ (fun κ => ?_)
  show xJ iX8_of κ _ 0 [(0, .ref v0), (1, .int v1), (2, .int v2)] [] h (fX8_of v0 v1 v2 h)
  unfold fX8_of
  refine j_aload_n 0 dX8_of_0 rfl rfl ?_
  refine j_getR 8 12 0 dX8_of_1 fl_RX8_12 (by decide) rfl (by decide) (fun _ _ _ => rfl) (fun x1 => ?_)
  refine j_iload_n 1 dX8_of_4 rfl rfl ?_
  refine j_callV (as := [.int v1]) (fun x => some (.int x)) (fun _ => h) 0 16 dX8_of_5 ml_RX8_162 tg_X0_has im_X0_has se_X0_has rfl (by decide) (fun x hx => kX0_has κ.1 κ.2.1 x1 v1 h x hx) (by decide) (by decide) rfl rfl (Nat.le_of_ble_eq_true rfl) (fun x2 => ?_)
  show xJ iX8_of κ _ 8 [(0, .ref v0), (1, .int v1), (2, .int v2)] [.int x2] h _
  refine j_if_ne (tgt := 16) dX8_of_8 (by decide) (fun c3 => ?_) (fun c3 => ?_)
  · refine j_aload_n 0 dX8_of_11 rfl rfl ?_
    refine j_callV (as := []) (fun x => some (.int x.1)) (fun x => x.2) 8 12 dX8_of_12 ml_RX8_70 tg_X8_refuseBad im_X8_refuseBad se_X8_refuseBad rfl (by decide) (fun x hx => kX8_refuseBad κ.1 κ.2.1 v0 h x hx) (by decide) (by decide) rfl rfl (Nat.le_of_ble_eq_true rfl) (fun q4 => ?_)
    show xJ iX8_of κ _ 15 [(0, .ref v0), (1, .int v1), (2, .int v2)] [.int q4.1] q4.2 _
    exact j_iret (q4.1, q4.2) dX8_of_15 rfl (fun q => q)
  · refine j_iload_n 2 dX8_of_16 rfl rfl ?_
    refine j_tabv (w := 0) (off := 39) (tgt := 56) dX8_of_17 (by decide) (by decide) (by decide) (by decide) (fun c5 => ?_) (fun c5 => ?_)
    · refine j_aload_n 0 dX8_of_56 rfl rfl ?_
      refine j_getR 8 12 0 dX8_of_57 fl_RX8_12 (by decide) rfl (by decide) (fun _ _ _ => rfl) (fun x6 => ?_)
      refine j_getR 0 16 3 dX8_of_60 fl_RX8_178 (by decide) rfl (by decide) (fun _ _ _ => rfl) (fun x7 => ?_)
      refine j_iload_n 1 dX8_of_63 rfl rfl ?_
      refine j_iald dX8_of_64 (fun x8 => ?_)
      exact j_iret (x8, h) dX8_of_65 rfl (fun q => q)
    refine j_tabv (w := 1) (off := 49) (tgt := 66) dX8_of_17 (by decide) (by decide) (by decide) (by decide) (fun c9 => ?_) (fun c9 => ?_)
    · refine j_aload_n 0 dX8_of_66 rfl rfl ?_
      refine j_getR 8 12 0 dX8_of_67 fl_RX8_12 (by decide) rfl (by decide) (fun _ _ _ => rfl) (fun x10 => ?_)
      refine j_getR 0 16 4 dX8_of_70 fl_RX8_181 (by decide) rfl (by decide) (fun _ _ _ => rfl) (fun x11 => ?_)
      refine j_iload_n 1 dX8_of_73 rfl rfl ?_
      refine j_iald dX8_of_74 (fun x12 => ?_)
      exact j_iret (x12, h) dX8_of_75 rfl (fun q => q)
    refine j_tabv (w := 2) (off := 59) (tgt := 76) dX8_of_17 (by decide) (by decide) (by decide) (by decide) (fun c13 => ?_) (fun c13 => ?_)
    · refine j_aload_n 0 dX8_of_76 rfl rfl ?_
      refine j_getR 8 12 0 dX8_of_77 fl_RX8_12 (by decide) rfl (by decide) (fun _ _ _ => rfl) (fun x14 => ?_)
      refine j_getR 0 16 5 dX8_of_80 fl_RX8_155 (by decide) rfl (by decide) (fun _ _ _ => rfl) (fun x15 => ?_)
      refine j_iload_n 1 dX8_of_83 rfl rfl ?_
      refine j_iald dX8_of_84 (fun x16 => ?_)
      exact j_iret (x16, h) dX8_of_85 rfl (fun q => q)
    refine j_tabv (w := 3) (off := 69) (tgt := 86) dX8_of_17 (by decide) (by decide) (by decide) (by decide) (fun c17 => ?_) (fun c17 => ?_)
    · refine j_aload_n 0 dX8_of_86 rfl rfl ?_
      refine j_getR 8 12 0 dX8_of_87 fl_RX8_12 (by decide) rfl (by decide) (fun _ _ _ => rfl) (fun x18 => ?_)
      refine j_getR 0 16 6 dX8_of_90 fl_RX8_184 (by decide) rfl (by decide) (fun _ _ _ => rfl) (fun x19 => ?_)
      refine j_iload_n 1 dX8_of_93 rfl rfl ?_
      refine j_iald dX8_of_94 (fun x20 => ?_)
      exact j_iret (x20, h) dX8_of_95 rfl (fun q => q)
    refine j_tabv (w := 4) (off := 79) (tgt := 96) dX8_of_17 (by decide) (by decide) (by decide) (by decide) (fun c21 => ?_) (fun c21 => ?_)
    · refine j_aload_n 0 dX8_of_96 rfl rfl ?_
      refine j_getR 8 12 0 dX8_of_97 fl_RX8_12 (by decide) rfl (by decide) (fun _ _ _ => rfl) (fun x22 => ?_)
      refine j_getR 0 16 13 dX8_of_100 fl_RX8_137 (by decide) rfl (by decide) (fun _ _ _ => rfl) (fun x23 => ?_)
      refine j_getI 5 5 1 dX8_of_103 fl_RX8_166 (by decide) rfl (by decide) rfl (fun x24 => ?_)
      refine j_iload_n 1 dX8_of_106 rfl rfl ?_
      refine j_callS (as := [.int x24, .int v1]) (fun x => some (.int x)) (fun _ => h) dX8_of_107 ml_RX8_105 tg_X8_bit st_X8_bit (fun x hx => kX8_bit κ.1 κ.2.1 x24 v1 h x hx) (by decide) (by decide) rfl rfl (Nat.le_of_ble_eq_true rfl) (fun x25 => ?_)
      show xJ iX8_of κ _ 110 [(0, .ref v0), (1, .int v1), (2, .int v2)] [.int x25] h _
      exact j_iret (x25, h) dX8_of_110 rfl (fun q => q)
    refine j_tabv (w := 5) (off := 94) (tgt := 111) dX8_of_17 (by decide) (by decide) (by decide) (by decide) (fun c26 => ?_) (fun c26 => ?_)
    · refine j_aload_n 0 dX8_of_111 rfl rfl ?_
      refine j_getR 8 12 0 dX8_of_112 fl_RX8_12 (by decide) rfl (by decide) (fun _ _ _ => rfl) (fun x27 => ?_)
      refine j_getR 0 16 7 dX8_of_115 fl_RX8_102 (by decide) rfl (by decide) (fun _ _ _ => rfl) (fun x28 => ?_)
      refine j_iload_n 1 dX8_of_118 rfl rfl ?_
      refine j_iald dX8_of_119 (fun x29 => ?_)
      exact j_iret (x29, h) dX8_of_120 rfl (fun q => q)
    refine j_tabd (tgt := 121) dX8_of_17 (by have ec5 : (v2 : Int32).toInt ≠ 0 := fun q => c5 (Int32.toInt_inj.mp (q.trans (by decide))); have ec9 : (v2 : Int32).toInt ≠ 1 := fun q => c9 (Int32.toInt_inj.mp (q.trans (by decide))); have ec13 : (v2 : Int32).toInt ≠ 2 := fun q => c13 (Int32.toInt_inj.mp (q.trans (by decide))); have ec17 : (v2 : Int32).toInt ≠ 3 := fun q => c17 (Int32.toInt_inj.mp (q.trans (by decide))); have ec21 : (v2 : Int32).toInt ≠ 4 := fun q => c21 (Int32.toInt_inj.mp (q.trans (by decide))); have ec26 : (v2 : Int32).toInt ≠ 5 := fun q => c26 (Int32.toInt_inj.mp (q.trans (by decide))); omega) (by decide) ?_
    refine j_aload_n 0 dX8_of_121 rfl rfl ?_
    refine j_callV (as := []) (fun x => some (.int x.1)) (fun x => x.2) 8 12 dX8_of_122 ml_RX8_70 tg_X8_refuseBad im_X8_refuseBad se_X8_refuseBad rfl (by decide) (fun x hx => kX8_refuseBad κ.1 κ.2.1 v0 h x hx) (by decide) (by decide) rfl rfl (Nat.le_of_ble_eq_true rfl) (fun q30 => ?_)
    show xJ iX8_of κ _ 125 [(0, .ref v0), (1, .int v1), (2, .int v2)] [.int q30.1] q30.2 _
    exact j_iret (q30.1, q30.2) dX8_of_125 rfl (fun q => q)
def fX9_of_j20 (v0 : Nat) (h : Hp) : Option (Int32 × Hp) :=
  (xat h v0 (9, 18) (fX9_bad v0 (-2) h)).bind fun q1 => some (q1.1, q1.2)
def fX9_of (v0 : Nat) (v1 : Int32) (v2 : Int32) (h : Hp) : Option (Int32 × Hp) :=
  (xat h v0 (9, 18) (fX9_isIdea v0 v1 h)).bind fun x2 => if (x2 : Int32) = 0 then (fX9_of_j20 v0 h) else ((fX9_in ((v2 : Int32).toInt64) 0 5 h).bind fun x4 => if (x4 : Int32) = 0 then (fX9_of_j20 v0 h) else (if (v2 : Int32) = 0 then ((xgR h v0 (9, 18) 0).bind fun x7 => (xaI h x7 10 (19 + v1)).bind fun x8 => some (x8, h)) else if (v2 : Int32) = 1 then ((xgR h v0 (9, 18) 0).bind fun x10 => (xaI h x10 10 (26 + v1)).bind fun x11 => some (x11, h)) else if (v2 : Int32) = 2 then ((xgR h v0 (9, 18) 0).bind fun x13 => (xaI h x13 10 (33 + v1)).bind fun x14 => some (x14, h)) else if (v2 : Int32) = 3 then ((xgR h v0 (9, 18) 0).bind fun x16 => (xaI h x16 10 (40 + v1)).bind fun x17 => some (x17, h)) else if (v2 : Int32) = 4 then ((xgR h v0 (9, 18) 0).bind fun x19 => (xaI h x19 10 4).bind fun x20 => some ((x20 >>> (v1 &&& 31)) &&& 1, h)) else ((xgR h v0 (9, 18) 0).bind fun x21 => (xaI h x21 10 (47 + v1)).bind fun x22 => some (x22, h))))
abbrev iX9_of : xI := (cX9_of, yX9_of.cls, yX9_of.name, some .int, 3, 4)
set_option maxHeartbeats 4000000 in
set_option maxRecDepth 100000 in
theorem kX9_of (l : Launch) (η : xEnv) (v0 : Nat) (v1 : Int32) (v2 : Int32) (h : Hp) (x : Int32 × Hp) (hx : fX9_of v0 v1 v2 h = some x) : xC l η yX9_of cX9_of 3 (some .int) 4 [.ref v0, .int v1, .int v2] h (some (.int x.1)) x.2 := by
  refine xC_of (by decide) (Nat.le_of_ble_eq_true rfl) hx (fun κ x => κ.2.2.2.1 = some (.int x.1) ∧ κ.2.2.2.2 = x.2) ⟨rfl, rfl⟩ (fun κ => ?_)
  show xJ iX9_of κ _ 0 [(0, .ref v0), (1, .int v1), (2, .int v2)] [] h (fX9_of v0 v1 v2 h)
  unfold fX9_of
  refine j_have (pj := 20) (Lf := fun v : Hp => [(0, .ref v0)]) (Sf := fun v : Hp => []) (Hf := fun v : Hp => v) (jf := fun v : Hp => fX9_of_j20 v0 v) (fun v => ?_) (fun hj20 => ?_)
  · generalize v = h
    show xJ iX9_of κ _ 20 [(0, .ref v0)] [] h (fX9_of_j20 v0 h)
    unfold fX9_of_j20
    refine j_aload_n 0 dX9_of_20 rfl rfl ?_
    refine j_bipush (x := (-2)) dX9_of_21 (by decide) ?_
    refine j_callV (as := [.int (-2)]) (fun x => some (.int x.1)) (fun x => x.2) 9 18 dX9_of_23 ml_RX9_64 tg_X9_bad im_X9_bad se_X9_bad rfl (by decide) (fun x hx => kX9_bad κ.1 κ.2.1 v0 (-2) h x hx) (by decide) (by decide) rfl rfl (Nat.le_of_ble_eq_true rfl) (fun q1 => ?_)
    show xJ iX9_of κ _ 26 [(0, .ref v0)] [.int q1.1] q1.2 _
    exact j_iret (q1.1, q1.2) dX9_of_26 rfl (fun q => q)
  refine j_aload_n 0 dX9_of_0 rfl rfl ?_
  refine j_iload_n 1 dX9_of_1 rfl rfl ?_
  refine j_callV (as := [.int v1]) (fun x => some (.int x)) (fun _ => h) 9 18 dX9_of_2 ml_RX9_83 tg_X9_isIdea im_X9_isIdea se_X9_isIdea rfl (by decide) (fun x hx => kX9_isIdea κ.1 κ.2.1 v0 v1 h x hx) (by decide) (by decide) rfl rfl (Nat.le_of_ble_eq_true rfl) (fun x2 => ?_)
  show xJ iX9_of κ _ 5 [(0, .ref v0), (1, .int v1), (2, .int v2)] [.int x2] h _
  refine j_if_eq (tgt := 20) dX9_of_5 (by decide) (fun c3 => ?_) (fun c3 => ?_)
  · refine j_pick [0] rfl ?_
    exact hj20 h
  · refine j_iload_n 2 dX9_of_8 rfl rfl ?_
    refine j_i2l dX9_of_9 ?_
    refine j_lconst (x := 0) dX9_of_10 (by decide) ?_
    refine j_ldc2 dX9_of_11 cL_RX9_72 ?_
    refine j_callS (as := [.long ((v2 : Int32).toInt64), .long 0, .long 5]) (fun x => some (.int x)) (fun _ => h) dX9_of_14 ml_RX9_56 tg_X9_in st_X9_in (fun x hx => kX9_in κ.1 κ.2.1 ((v2 : Int32).toInt64) 0 5 h x hx) (by decide) (by decide) rfl rfl (Nat.le_of_ble_eq_true rfl) (fun x4 => ?_)
    show xJ iX9_of κ _ 17 [(0, .ref v0), (1, .int v1), (2, .int v2)] [.int x4] h _
    refine j_if_ne (tgt := 27) dX9_of_17 (by decide) (fun c5 => ?_) (fun c5 => ?_)
    · refine j_pick [0] rfl ?_
      exact hj20 h
    · refine j_iload_n 2 dX9_of_27 rfl rfl ?_
      refine j_tabv (w := 0) (off := 36) (tgt := 64) dX9_of_28 (by decide) (by decide) (by decide) (by decide) (fun c6 => ?_) (fun c6 => ?_)
      · refine j_aload_n 0 dX9_of_64 rfl rfl ?_
        refine j_getR 9 18 0 dX9_of_65 fl_RX9_7 (by decide) rfl (by decide) (fun _ _ _ => rfl) (fun x7 => ?_)
        refine j_bipush (x := 19) dX9_of_68 (by decide) ?_
        refine j_iload_n 1 dX9_of_70 rfl rfl ?_
        refine j_iadd dX9_of_71 ?_
        refine j_iald dX9_of_72 (fun x8 => ?_)
        exact j_iret (x8, h) dX9_of_73 rfl (fun q => q)
      refine j_tabv (w := 1) (off := 46) (tgt := 74) dX9_of_28 (by decide) (by decide) (by decide) (by decide) (fun c9 => ?_) (fun c9 => ?_)
      · refine j_aload_n 0 dX9_of_74 rfl rfl ?_
        refine j_getR 9 18 0 dX9_of_75 fl_RX9_7 (by decide) rfl (by decide) (fun _ _ _ => rfl) (fun x10 => ?_)
        refine j_bipush (x := 26) dX9_of_78 (by decide) ?_
        refine j_iload_n 1 dX9_of_80 rfl rfl ?_
        refine j_iadd dX9_of_81 ?_
        refine j_iald dX9_of_82 (fun x11 => ?_)
        exact j_iret (x11, h) dX9_of_83 rfl (fun q => q)
      refine j_tabv (w := 2) (off := 56) (tgt := 84) dX9_of_28 (by decide) (by decide) (by decide) (by decide) (fun c12 => ?_) (fun c12 => ?_)
      · refine j_aload_n 0 dX9_of_84 rfl rfl ?_
        refine j_getR 9 18 0 dX9_of_85 fl_RX9_7 (by decide) rfl (by decide) (fun _ _ _ => rfl) (fun x13 => ?_)
        refine j_bipush (x := 33) dX9_of_88 (by decide) ?_
        refine j_iload_n 1 dX9_of_90 rfl rfl ?_
        refine j_iadd dX9_of_91 ?_
        refine j_iald dX9_of_92 (fun x14 => ?_)
        exact j_iret (x14, h) dX9_of_93 rfl (fun q => q)
      refine j_tabv (w := 3) (off := 66) (tgt := 94) dX9_of_28 (by decide) (by decide) (by decide) (by decide) (fun c15 => ?_) (fun c15 => ?_)
      · refine j_aload_n 0 dX9_of_94 rfl rfl ?_
        refine j_getR 9 18 0 dX9_of_95 fl_RX9_7 (by decide) rfl (by decide) (fun _ _ _ => rfl) (fun x16 => ?_)
        refine j_bipush (x := 40) dX9_of_98 (by decide) ?_
        refine j_iload_n 1 dX9_of_100 rfl rfl ?_
        refine j_iadd dX9_of_101 ?_
        refine j_iald dX9_of_102 (fun x17 => ?_)
        exact j_iret (x17, h) dX9_of_103 rfl (fun q => q)
      refine j_tabv (w := 4) (off := 76) (tgt := 104) dX9_of_28 (by decide) (by decide) (by decide) (by decide) (fun c18 => ?_) (fun c18 => ?_)
      · refine j_aload_n 0 dX9_of_104 rfl rfl ?_
        refine j_getR 9 18 0 dX9_of_105 fl_RX9_7 (by decide) rfl (by decide) (fun _ _ _ => rfl) (fun x19 => ?_)
        refine j_iconst (x := 4) dX9_of_108 (by decide) ?_
        refine j_iald dX9_of_109 (fun x20 => ?_)
        refine j_iload_n 1 dX9_of_110 rfl rfl ?_
        refine j_ishr dX9_of_111 ?_
        refine j_iconst (x := 1) dX9_of_112 (by decide) ?_
        refine j_iand dX9_of_113 ?_
        exact j_iret ((x20 >>> (v1 &&& 31)) &&& 1, h) dX9_of_114 rfl (fun q => q)
      refine j_tabd (tgt := 115) dX9_of_28 (by have ec6 : (v2 : Int32).toInt ≠ 0 := fun q => c6 (Int32.toInt_inj.mp (q.trans (by decide))); have ec9 : (v2 : Int32).toInt ≠ 1 := fun q => c9 (Int32.toInt_inj.mp (q.trans (by decide))); have ec12 : (v2 : Int32).toInt ≠ 2 := fun q => c12 (Int32.toInt_inj.mp (q.trans (by decide))); have ec15 : (v2 : Int32).toInt ≠ 3 := fun q => c15 (Int32.toInt_inj.mp (q.trans (by decide))); have ec18 : (v2 : Int32).toInt ≠ 4 := fun q => c18 (Int32.toInt_inj.mp (q.trans (by decide))); omega) (by decide) ?_
      refine j_aload_n 0 dX9_of_115 rfl rfl ?_
      refine j_getR 9 18 0 dX9_of_116 fl_RX9_7 (by decide) rfl (by decide) (fun _ _ _ => rfl) (fun x21 => ?_)
      refine j_bipush (x := 47) dX9_of_119 (by decide) ?_
      refine j_iload_n 1 dX9_of_121 rfl rfl ?_
      refine j_iadd dX9_of_122 ?_
      refine j_iald dX9_of_123 (fun x22 => ?_)
      exact j_iret (x22, h) dX9_of_124 rfl (fun q => q)
def fX8_sways_j77 (t0 : Int32) (h : Hp) : Option (Int32 × Hp) :=
  some (t0, h)
def fX8_sways_j30 (v0 : Nat) (h : Hp) : Option (Int32 × Hp) :=
  (xat h v0 (8, 12) (fX8_refuseBad v0 h)).bind fun q1 => some (q1.1, q1.2)
def fX8_sways (v0 : Nat) (v1 : Int32) (v2 : Int32) (v3 : Int32) (h : Hp) : Option (Int32 × Hp) :=
  (xgR h v0 (8, 12) 0).bind fun x2 => (xat h x2 (0, 16) (fX0_has x2 v1 h)).bind fun x3 => if (x3 : Int32) = 0 then (fX8_sways_j30 v0 h) else ((fX8_within v2 0 9 h).bind fun x5 => if (x5 : Int32) = 0 then (fX8_sways_j30 v0 h) else ((fX8_within v3 0 1 h).bind fun x7 => if (x7 : Int32) = 0 then (fX8_sways_j30 v0 h) else (if (v3 : Int32) = 0 then ((xgR h v0 (8, 12) 0).bind fun x10 => (xgR h x10 (0, 16) 3).bind fun x11 => (xaI h x11 10 v1).bind fun x12 => (xgR h v0 (8, 12) 0).bind fun x13 => (xgR h x13 (0, 16) 4).bind fun x14 => (xaI h x14 10 v1).bind fun x15 => (fX8_swayOf x12 x15 v2 h).bind fun x16 => fX8_sways_j77 x16 h) else ((xgR h v0 (8, 12) 0).bind fun x17 => (xgR h x17 (0, 16) 3).bind fun x18 => (xaI h x18 10 v1).bind fun x19 => (fX8_tallOf x19 v2 h).bind fun x20 => fX8_sways_j77 x20 h))))
abbrev iX8_sways : xI := (cX8_sways, yX8_sways.cls, yX8_sways.name, some .int, 4, 3)
set_option maxHeartbeats 4000000 in
set_option maxRecDepth 100000 in
theorem kX8_sways (l : Launch) (η : xEnv) (v0 : Nat) (v1 : Int32) (v2 : Int32) (v3 : Int32) (h : Hp) (x : Int32 × Hp) (hx : fX8_sways v0 v1 v2 v3 h = some x) : xC l η yX8_sways cX8_sways 4 (some .int) 3 [.ref v0, .int v1, .int v2, .int v3] h (some (.int x.1)) x.2 := by
  refine xC_of (by decide) (Nat.le_of_ble_eq_true rfl) hx (fun κ x => κ.2.2.2.1 = some (.int x.1) ∧ κ.2.2.2.2 = x.2) ⟨rfl, rfl⟩ (fun κ => ?_)
  show xJ iX8_sways κ _ 0 [(0, .ref v0), (1, .int v1), (2, .int v2), (3, .int v3)] [] h (fX8_sways v0 v1 v2 v3 h)
  unfold fX8_sways
  refine j_have (pj := 77) (Lf := fun v : Int32 × Hp => []) (Sf := fun v : Int32 × Hp => [.int v.1]) (Hf := fun v : Int32 × Hp => v.2) (jf := fun v : Int32 × Hp => fX8_sways_j77 v.1 v.2) (fun v => ?_) (fun hj77 => ?_)
  · obtain ⟨t0, h⟩ := v
    show xJ iX8_sways κ _ 77 [] [.int t0] h (fX8_sways_j77 t0 h)
    unfold fX8_sways_j77
    exact j_iret (t0, h) dX8_sways_77 rfl (fun q => q)
  refine j_have (pj := 30) (Lf := fun v : Hp => [(0, .ref v0)]) (Sf := fun v : Hp => []) (Hf := fun v : Hp => v) (jf := fun v : Hp => fX8_sways_j30 v0 v) (fun v => ?_) (fun hj30 => ?_)
  · generalize v = h
    show xJ iX8_sways κ _ 30 [(0, .ref v0)] [] h (fX8_sways_j30 v0 h)
    unfold fX8_sways_j30
    refine j_aload_n 0 dX8_sways_30 rfl rfl ?_
    refine j_callV (as := []) (fun x => some (.int x.1)) (fun x => x.2) 8 12 dX8_sways_31 ml_RX8_70 tg_X8_refuseBad im_X8_refuseBad se_X8_refuseBad rfl (by decide) (fun x hx => kX8_refuseBad κ.1 κ.2.1 v0 h x hx) (by decide) (by decide) rfl rfl (Nat.le_of_ble_eq_true rfl) (fun q1 => ?_)
    show xJ iX8_sways κ _ 34 [(0, .ref v0)] [.int q1.1] q1.2 _
    exact j_iret (q1.1, q1.2) dX8_sways_34 rfl (fun q => q)
  refine j_aload_n 0 dX8_sways_0 rfl rfl ?_
  refine j_getR 8 12 0 dX8_sways_1 fl_RX8_12 (by decide) rfl (by decide) (fun _ _ _ => rfl) (fun x2 => ?_)
  refine j_iload_n 1 dX8_sways_4 rfl rfl ?_
  refine j_callV (as := [.int v1]) (fun x => some (.int x)) (fun _ => h) 0 16 dX8_sways_5 ml_RX8_162 tg_X0_has im_X0_has se_X0_has rfl (by decide) (fun x hx => kX0_has κ.1 κ.2.1 x2 v1 h x hx) (by decide) (by decide) rfl rfl (Nat.le_of_ble_eq_true rfl) (fun x3 => ?_)
  show xJ iX8_sways κ _ 8 [(0, .ref v0), (1, .int v1), (2, .int v2), (3, .int v3)] [.int x3] h _
  refine j_if_eq (tgt := 30) dX8_sways_8 (by decide) (fun c4 => ?_) (fun c4 => ?_)
  · refine j_pick [0] rfl ?_
    exact hj30 h
  · refine j_iload_n 2 dX8_sways_11 rfl rfl ?_
    refine j_iconst (x := 0) dX8_sways_12 (by decide) ?_
    refine j_bipush (x := 9) dX8_sways_13 (by decide) ?_
    refine j_callS (as := [.int v2, .int 0, .int 9]) (fun x => some (.int x)) (fun _ => h) dX8_sways_15 ml_RX8_66 tg_X8_within st_X8_within (fun x hx => kX8_within κ.1 κ.2.1 v2 0 9 h x hx) (by decide) (by decide) rfl rfl (Nat.le_of_ble_eq_true rfl) (fun x5 => ?_)
    show xJ iX8_sways κ _ 18 [(0, .ref v0), (1, .int v1), (2, .int v2), (3, .int v3)] [.int x5] h _
    refine j_if_eq (tgt := 30) dX8_sways_18 (by decide) (fun c6 => ?_) (fun c6 => ?_)
    · refine j_pick [0] rfl ?_
      exact hj30 h
    · refine j_iload_n 3 dX8_sways_21 rfl rfl ?_
      refine j_iconst (x := 0) dX8_sways_22 (by decide) ?_
      refine j_iconst (x := 1) dX8_sways_23 (by decide) ?_
      refine j_callS (as := [.int v3, .int 0, .int 1]) (fun x => some (.int x)) (fun _ => h) dX8_sways_24 ml_RX8_66 tg_X8_within st_X8_within (fun x hx => kX8_within κ.1 κ.2.1 v3 0 1 h x hx) (by decide) (by decide) rfl rfl (Nat.le_of_ble_eq_true rfl) (fun x7 => ?_)
      show xJ iX8_sways κ _ 27 [(0, .ref v0), (1, .int v1), (2, .int v2), (3, .int v3)] [.int x7] h _
      refine j_if_ne (tgt := 35) dX8_sways_27 (by decide) (fun c8 => ?_) (fun c8 => ?_)
      · refine j_pick [0] rfl ?_
        exact hj30 h
      · refine j_iload_n 3 dX8_sways_35 rfl rfl ?_
        refine j_if_ne (tgt := 64) dX8_sways_36 (by decide) (fun c9 => ?_) (fun c9 => ?_)
        · refine j_aload_n 0 dX8_sways_39 rfl rfl ?_
          refine j_getR 8 12 0 dX8_sways_40 fl_RX8_12 (by decide) rfl (by decide) (fun _ _ _ => rfl) (fun x10 => ?_)
          refine j_getR 0 16 3 dX8_sways_43 fl_RX8_178 (by decide) rfl (by decide) (fun _ _ _ => rfl) (fun x11 => ?_)
          refine j_iload_n 1 dX8_sways_46 rfl rfl ?_
          refine j_iald dX8_sways_47 (fun x12 => ?_)
          refine j_aload_n 0 dX8_sways_48 rfl rfl ?_
          refine j_getR 8 12 0 dX8_sways_49 fl_RX8_12 (by decide) rfl (by decide) (fun _ _ _ => rfl) (fun x13 => ?_)
          refine j_getR 0 16 4 dX8_sways_52 fl_RX8_181 (by decide) rfl (by decide) (fun _ _ _ => rfl) (fun x14 => ?_)
          refine j_iload_n 1 dX8_sways_55 rfl rfl ?_
          refine j_iald dX8_sways_56 (fun x15 => ?_)
          refine j_iload_n 2 dX8_sways_57 rfl rfl ?_
          refine j_callS (as := [.int x12, .int x15, .int v2]) (fun x => some (.int x)) (fun _ => h) dX8_sways_58 ml_RX8_187 tg_X8_swayOf st_X8_swayOf (fun x hx => kX8_swayOf κ.1 κ.2.1 x12 x15 v2 h x hx) (by decide) (by decide) rfl rfl (Nat.le_of_ble_eq_true rfl) (fun x16 => ?_)
          show xJ iX8_sways κ _ 61 [(0, .ref v0), (1, .int v1), (2, .int v2), (3, .int v3)] [.int x16] h _
          refine j_goto (tgt := 77) dX8_sways_61 (by decide) ?_
          refine j_pick [] rfl ?_
          exact hj77 (x16, h)
        · refine j_aload_n 0 dX8_sways_64 rfl rfl ?_
          refine j_getR 8 12 0 dX8_sways_65 fl_RX8_12 (by decide) rfl (by decide) (fun _ _ _ => rfl) (fun x17 => ?_)
          refine j_getR 0 16 3 dX8_sways_68 fl_RX8_178 (by decide) rfl (by decide) (fun _ _ _ => rfl) (fun x18 => ?_)
          refine j_iload_n 1 dX8_sways_71 rfl rfl ?_
          refine j_iald dX8_sways_72 (fun x19 => ?_)
          refine j_iload_n 2 dX8_sways_73 rfl rfl ?_
          refine j_callS (as := [.int x19, .int v2]) (fun x => some (.int x)) (fun _ => h) dX8_sways_74 ml_RX8_191 tg_X8_tallOf st_X8_tallOf (fun x hx => kX8_tallOf κ.1 κ.2.1 x19 v2 h x hx) (by decide) (by decide) rfl rfl (Nat.le_of_ble_eq_true rfl) (fun x20 => ?_)
          show xJ iX8_sways κ _ 77 [(0, .ref v0), (1, .int v1), (2, .int v2), (3, .int v3)] [.int x20] h _
          refine j_pick [] rfl ?_
          exact hj77 (x20, h)
def fX9_sways_j74 (t0 : Int32) (h : Hp) : Option (Int32 × Hp) :=
  some (t0, h)
def fX9_sways_j25 (v0 : Nat) (h : Hp) : Option (Int32 × Hp) :=
  (xat h v0 (9, 18) (fX9_bad v0 (-2) h)).bind fun q1 => some (q1.1, q1.2)
def fX9_sways (v0 : Nat) (v1 : Int32) (v2 : Int32) (v3 : Int32) (h : Hp) : Option (Int32 × Hp) :=
  (xat h v0 (9, 18) (fX9_isIdea v0 v1 h)).bind fun x2 => if (x2 : Int32) = 0 then (fX9_sways_j25 v0 h) else ((fX9_isStop v2 h).bind fun x4 => if (x4 : Int32) = 0 then (fX9_sways_j25 v0 h) else ((fX9_in ((v3 : Int32).toInt64) 0 1 h).bind fun x6 => if (x6 : Int32) = 0 then (fX9_sways_j25 v0 h) else (if (v3 : Int32) = 0 then ((xgR h v0 (9, 18) 0).bind fun x9 => (xaI h x9 10 (19 + v1)).bind fun x10 => (xgR h v0 (9, 18) 0).bind fun x11 => (xaI h x11 10 (26 + v1)).bind fun x12 => (fX9_swayAs x10 x12 v2 h).bind fun x13 => fX9_sways_j74 x13 h) else ((xgR h v0 (9, 18) 0).bind fun x14 => (xaI h x14 10 (19 + v1)).bind fun x15 => (fX9_tallAs x15 v2 h).bind fun x16 => fX9_sways_j74 x16 h))))
abbrev iX9_sways : xI := (cX9_sways, yX9_sways.cls, yX9_sways.name, some .int, 4, 4)
set_option maxHeartbeats 4000000 in
set_option maxRecDepth 100000 in
theorem kX9_sways (l : Launch) (η : xEnv) (v0 : Nat) (v1 : Int32) (v2 : Int32) (v3 : Int32) (h : Hp) (x : Int32 × Hp) (hx : fX9_sways v0 v1 v2 v3 h = some x) : xC l η yX9_sways cX9_sways 4 (some .int) 4 [.ref v0, .int v1, .int v2, .int v3] h (some (.int x.1)) x.2 := by
  refine xC_of (by decide) (Nat.le_of_ble_eq_true rfl) hx (fun κ x => κ.2.2.2.1 = some (.int x.1) ∧ κ.2.2.2.2 = x.2) ⟨rfl, rfl⟩ (fun κ => ?_)
  show xJ iX9_sways κ _ 0 [(0, .ref v0), (1, .int v1), (2, .int v2), (3, .int v3)] [] h (fX9_sways v0 v1 v2 v3 h)
  unfold fX9_sways
  refine j_have (pj := 74) (Lf := fun v : Int32 × Hp => []) (Sf := fun v : Int32 × Hp => [.int v.1]) (Hf := fun v : Int32 × Hp => v.2) (jf := fun v : Int32 × Hp => fX9_sways_j74 v.1 v.2) (fun v => ?_) (fun hj74 => ?_)
  · obtain ⟨t0, h⟩ := v
    show xJ iX9_sways κ _ 74 [] [.int t0] h (fX9_sways_j74 t0 h)
    unfold fX9_sways_j74
    exact j_iret (t0, h) dX9_sways_74 rfl (fun q => q)
  refine j_have (pj := 25) (Lf := fun v : Hp => [(0, .ref v0)]) (Sf := fun v : Hp => []) (Hf := fun v : Hp => v) (jf := fun v : Hp => fX9_sways_j25 v0 v) (fun v => ?_) (fun hj25 => ?_)
  · generalize v = h
    show xJ iX9_sways κ _ 25 [(0, .ref v0)] [] h (fX9_sways_j25 v0 h)
    unfold fX9_sways_j25
    refine j_aload_n 0 dX9_sways_25 rfl rfl ?_
    refine j_bipush (x := (-2)) dX9_sways_26 (by decide) ?_
    refine j_callV (as := [.int (-2)]) (fun x => some (.int x.1)) (fun x => x.2) 9 18 dX9_sways_28 ml_RX9_64 tg_X9_bad im_X9_bad se_X9_bad rfl (by decide) (fun x hx => kX9_bad κ.1 κ.2.1 v0 (-2) h x hx) (by decide) (by decide) rfl rfl (Nat.le_of_ble_eq_true rfl) (fun q1 => ?_)
    show xJ iX9_sways κ _ 31 [(0, .ref v0)] [.int q1.1] q1.2 _
    exact j_iret (q1.1, q1.2) dX9_sways_31 rfl (fun q => q)
  refine j_aload_n 0 dX9_sways_0 rfl rfl ?_
  refine j_iload_n 1 dX9_sways_1 rfl rfl ?_
  refine j_callV (as := [.int v1]) (fun x => some (.int x)) (fun _ => h) 9 18 dX9_sways_2 ml_RX9_83 tg_X9_isIdea im_X9_isIdea se_X9_isIdea rfl (by decide) (fun x hx => kX9_isIdea κ.1 κ.2.1 v0 v1 h x hx) (by decide) (by decide) rfl rfl (Nat.le_of_ble_eq_true rfl) (fun x2 => ?_)
  show xJ iX9_sways κ _ 5 [(0, .ref v0), (1, .int v1), (2, .int v2), (3, .int v3)] [.int x2] h _
  refine j_if_eq (tgt := 25) dX9_sways_5 (by decide) (fun c3 => ?_) (fun c3 => ?_)
  · refine j_pick [0] rfl ?_
    exact hj25 h
  · refine j_iload_n 2 dX9_sways_8 rfl rfl ?_
    refine j_callS (as := [.int v2]) (fun x => some (.int x)) (fun _ => h) dX9_sways_9 ml_RX9_68 tg_X9_isStop st_X9_isStop (fun x hx => kX9_isStop κ.1 κ.2.1 v2 h x hx) (by decide) (by decide) rfl rfl (Nat.le_of_ble_eq_true rfl) (fun x4 => ?_)
    show xJ iX9_sways κ _ 12 [(0, .ref v0), (1, .int v1), (2, .int v2), (3, .int v3)] [.int x4] h _
    refine j_if_eq (tgt := 25) dX9_sways_12 (by decide) (fun c5 => ?_) (fun c5 => ?_)
    · refine j_pick [0] rfl ?_
      exact hj25 h
    · refine j_iload_n 3 dX9_sways_15 rfl rfl ?_
      refine j_i2l dX9_sways_16 ?_
      refine j_lconst (x := 0) dX9_sways_17 (by decide) ?_
      refine j_lconst (x := 1) dX9_sways_18 (by decide) ?_
      refine j_callS (as := [.long ((v3 : Int32).toInt64), .long 0, .long 1]) (fun x => some (.int x)) (fun _ => h) dX9_sways_19 ml_RX9_56 tg_X9_in st_X9_in (fun x hx => kX9_in κ.1 κ.2.1 ((v3 : Int32).toInt64) 0 1 h x hx) (by decide) (by decide) rfl rfl (Nat.le_of_ble_eq_true rfl) (fun x6 => ?_)
      show xJ iX9_sways κ _ 22 [(0, .ref v0), (1, .int v1), (2, .int v2), (3, .int v3)] [.int x6] h _
      refine j_if_ne (tgt := 32) dX9_sways_22 (by decide) (fun c7 => ?_) (fun c7 => ?_)
      · refine j_pick [0] rfl ?_
        exact hj25 h
      · refine j_iload_n 3 dX9_sways_32 rfl rfl ?_
        refine j_if_ne (tgt := 61) dX9_sways_33 (by decide) (fun c8 => ?_) (fun c8 => ?_)
        · refine j_aload_n 0 dX9_sways_36 rfl rfl ?_
          refine j_getR 9 18 0 dX9_sways_37 fl_RX9_7 (by decide) rfl (by decide) (fun _ _ _ => rfl) (fun x9 => ?_)
          refine j_bipush (x := 19) dX9_sways_40 (by decide) ?_
          refine j_iload_n 1 dX9_sways_42 rfl rfl ?_
          refine j_iadd dX9_sways_43 ?_
          refine j_iald dX9_sways_44 (fun x10 => ?_)
          refine j_aload_n 0 dX9_sways_45 rfl rfl ?_
          refine j_getR 9 18 0 dX9_sways_46 fl_RX9_7 (by decide) rfl (by decide) (fun _ _ _ => rfl) (fun x11 => ?_)
          refine j_bipush (x := 26) dX9_sways_49 (by decide) ?_
          refine j_iload_n 1 dX9_sways_51 rfl rfl ?_
          refine j_iadd dX9_sways_52 ?_
          refine j_iald dX9_sways_53 (fun x12 => ?_)
          refine j_iload_n 2 dX9_sways_54 rfl rfl ?_
          refine j_callS (as := [.int x10, .int x12, .int v2]) (fun x => some (.int x)) (fun _ => h) dX9_sways_55 ml_RX9_93 tg_X9_swayAs st_X9_swayAs (fun x hx => kX9_swayAs κ.1 κ.2.1 x10 x12 v2 h x hx) (by decide) (by decide) rfl rfl (Nat.le_of_ble_eq_true rfl) (fun x13 => ?_)
          show xJ iX9_sways κ _ 58 [(0, .ref v0), (1, .int v1), (2, .int v2), (3, .int v3)] [.int x13] h _
          refine j_goto (tgt := 74) dX9_sways_58 (by decide) ?_
          refine j_pick [] rfl ?_
          exact hj74 (x13, h)
        · refine j_aload_n 0 dX9_sways_61 rfl rfl ?_
          refine j_getR 9 18 0 dX9_sways_62 fl_RX9_7 (by decide) rfl (by decide) (fun _ _ _ => rfl) (fun x14 => ?_)
          refine j_bipush (x := 19) dX9_sways_65 (by decide) ?_
          refine j_iload_n 1 dX9_sways_67 rfl rfl ?_
          refine j_iadd dX9_sways_68 ?_
          refine j_iald dX9_sways_69 (fun x15 => ?_)
          refine j_iload_n 2 dX9_sways_70 rfl rfl ?_
          refine j_callS (as := [.int x15, .int v2]) (fun x => some (.int x)) (fun _ => h) dX9_sways_71 ml_RX9_108 tg_X9_tallAs st_X9_tallAs (fun x hx => kX9_tallAs κ.1 κ.2.1 x15 v2 h x hx) (by decide) (by decide) rfl rfl (Nat.le_of_ble_eq_true rfl) (fun x16 => ?_)
          show xJ iX9_sways κ _ 74 [(0, .ref v0), (1, .int v1), (2, .int v2), (3, .int v3)] [.int x16] h _
          refine j_pick [] rfl ?_
          exact hj74 (x16, h)
def fX8_now (v0 : Nat) (v1 : Int32) (h : Hp) : Option (Int32 × Hp) :=
  if (v1 : Int32) = 0 then ((xgR h v0 (8, 12) 0).bind fun x2 => (xgR h x2 (0, 16) 13).bind fun x3 => (xgI h x3 (5, 5) 0).bind fun x4 => some (x4, h)) else if (v1 : Int32) = 1 then ((xgR h v0 (8, 12) 0).bind fun x6 => (xgR h x6 (0, 16) 13).bind fun x7 => (xgI h x7 (5, 5) 1).bind fun x8 => some (x8, h)) else if (v1 : Int32) = 2 then ((xgR h v0 (8, 12) 0).bind fun x10 => (xgR h x10 (0, 16) 13).bind fun x11 => (xgI h x11 (5, 5) 2).bind fun x12 => some (x12, h)) else if (v1 : Int32) = 3 then ((xgR h v0 (8, 12) 0).bind fun x14 => (xgR h x14 (0, 16) 13).bind fun x15 => (xgI h x15 (5, 5) 3).bind fun x16 => some (x16, h)) else if (v1 : Int32) = 4 then ((xgR h v0 (8, 12) 0).bind fun x18 => (xgR h x18 (0, 16) 13).bind fun x19 => (xgI h x19 (5, 5) 4).bind fun x20 => some (x20, h)) else ((xat h v0 (8, 12) (fX8_refuseBad v0 h)).bind fun q21 => some (q21.1, q21.2))
abbrev iX8_now : xI := (cX8_now, yX8_now.cls, yX8_now.name, some .int, 2, 3)
set_option maxHeartbeats 4000000 in
set_option maxRecDepth 100000 in
theorem kX8_now (l : Launch) (η : xEnv) (v0 : Nat) (v1 : Int32) (h : Hp) (x : Int32 × Hp) (hx : fX8_now v0 v1 h = some x) : xC l η yX8_now cX8_now 2 (some .int) 3 [.ref v0, .int v1] h (some (.int x.1)) x.2 := by
  refine xC_of (by decide) (Nat.le_of_ble_eq_true rfl) hx (fun κ x => κ.2.2.2.1 = some (.int x.1) ∧ κ.2.2.2.2 = x.2) ⟨rfl, rfl⟩ (fun κ => ?_)
  show xJ iX8_now κ _ 0 [(0, .ref v0), (1, .int v1)] [] h (fX8_now v0 v1 h)
  unfold fX8_now
  refine j_iload_n 1 dX8_now_0 rfl rfl ?_
  refine j_tabv (w := 0) (off := 35) (tgt := 36) dX8_now_1 (by decide) (by decide) (by decide) (by decide) (fun c1 => ?_) (fun c1 => ?_)
  · refine j_aload_n 0 dX8_now_36 rfl rfl ?_
    refine j_getR 8 12 0 dX8_now_37 fl_RX8_12 (by decide) rfl (by decide) (fun _ _ _ => rfl) (fun x2 => ?_)
    refine j_getR 0 16 13 dX8_now_40 fl_RX8_137 (by decide) rfl (by decide) (fun _ _ _ => rfl) (fun x3 => ?_)
    refine j_getI 5 5 0 dX8_now_43 fl_RX8_141 (by decide) rfl (by decide) rfl (fun x4 => ?_)
    exact j_iret (x4, h) dX8_now_46 rfl (fun q => q)
  refine j_tabv (w := 1) (off := 46) (tgt := 47) dX8_now_1 (by decide) (by decide) (by decide) (by decide) (fun c5 => ?_) (fun c5 => ?_)
  · refine j_aload_n 0 dX8_now_47 rfl rfl ?_
    refine j_getR 8 12 0 dX8_now_48 fl_RX8_12 (by decide) rfl (by decide) (fun _ _ _ => rfl) (fun x6 => ?_)
    refine j_getR 0 16 13 dX8_now_51 fl_RX8_137 (by decide) rfl (by decide) (fun _ _ _ => rfl) (fun x7 => ?_)
    refine j_getI 5 5 1 dX8_now_54 fl_RX8_166 (by decide) rfl (by decide) rfl (fun x8 => ?_)
    exact j_iret (x8, h) dX8_now_57 rfl (fun q => q)
  refine j_tabv (w := 2) (off := 57) (tgt := 58) dX8_now_1 (by decide) (by decide) (by decide) (by decide) (fun c9 => ?_) (fun c9 => ?_)
  · refine j_aload_n 0 dX8_now_58 rfl rfl ?_
    refine j_getR 8 12 0 dX8_now_59 fl_RX8_12 (by decide) rfl (by decide) (fun _ _ _ => rfl) (fun x10 => ?_)
    refine j_getR 0 16 13 dX8_now_62 fl_RX8_137 (by decide) rfl (by decide) (fun _ _ _ => rfl) (fun x11 => ?_)
    refine j_getI 5 5 2 dX8_now_65 fl_RX8_194 (by decide) rfl (by decide) rfl (fun x12 => ?_)
    exact j_iret (x12, h) dX8_now_68 rfl (fun q => q)
  refine j_tabv (w := 3) (off := 68) (tgt := 69) dX8_now_1 (by decide) (by decide) (by decide) (by decide) (fun c13 => ?_) (fun c13 => ?_)
  · refine j_aload_n 0 dX8_now_69 rfl rfl ?_
    refine j_getR 8 12 0 dX8_now_70 fl_RX8_12 (by decide) rfl (by decide) (fun _ _ _ => rfl) (fun x14 => ?_)
    refine j_getR 0 16 13 dX8_now_73 fl_RX8_137 (by decide) rfl (by decide) (fun _ _ _ => rfl) (fun x15 => ?_)
    refine j_getI 5 5 3 dX8_now_76 fl_RX8_197 (by decide) rfl (by decide) rfl (fun x16 => ?_)
    exact j_iret (x16, h) dX8_now_79 rfl (fun q => q)
  refine j_tabv (w := 4) (off := 79) (tgt := 80) dX8_now_1 (by decide) (by decide) (by decide) (by decide) (fun c17 => ?_) (fun c17 => ?_)
  · refine j_aload_n 0 dX8_now_80 rfl rfl ?_
    refine j_getR 8 12 0 dX8_now_81 fl_RX8_12 (by decide) rfl (by decide) (fun _ _ _ => rfl) (fun x18 => ?_)
    refine j_getR 0 16 13 dX8_now_84 fl_RX8_137 (by decide) rfl (by decide) (fun _ _ _ => rfl) (fun x19 => ?_)
    refine j_getI 5 5 4 dX8_now_87 fl_RX8_149 (by decide) rfl (by decide) rfl (fun x20 => ?_)
    exact j_iret (x20, h) dX8_now_90 rfl (fun q => q)
  refine j_tabd (tgt := 91) dX8_now_1 (by have ec1 : (v1 : Int32).toInt ≠ 0 := fun q => c1 (Int32.toInt_inj.mp (q.trans (by decide))); have ec5 : (v1 : Int32).toInt ≠ 1 := fun q => c5 (Int32.toInt_inj.mp (q.trans (by decide))); have ec9 : (v1 : Int32).toInt ≠ 2 := fun q => c9 (Int32.toInt_inj.mp (q.trans (by decide))); have ec13 : (v1 : Int32).toInt ≠ 3 := fun q => c13 (Int32.toInt_inj.mp (q.trans (by decide))); have ec17 : (v1 : Int32).toInt ≠ 4 := fun q => c17 (Int32.toInt_inj.mp (q.trans (by decide))); omega) (by decide) ?_
  refine j_aload_n 0 dX8_now_91 rfl rfl ?_
  refine j_callV (as := []) (fun x => some (.int x.1)) (fun x => x.2) 8 12 dX8_now_92 ml_RX8_70 tg_X8_refuseBad im_X8_refuseBad se_X8_refuseBad rfl (by decide) (fun x hx => kX8_refuseBad κ.1 κ.2.1 v0 h x hx) (by decide) (by decide) rfl rfl (Nat.le_of_ble_eq_true rfl) (fun q21 => ?_)
  show xJ iX8_now κ _ 95 [(0, .ref v0), (1, .int v1)] [.int q21.1] q21.2 _
  exact j_iret (q21.1, q21.2) dX8_now_95 rfl (fun q => q)
def fX9_now_j29 (t0 : Int32) (h : Hp) : Option (Int32 × Hp) :=
  some (t0, h)
def fX9_now (v0 : Nat) (v1 : Int32) (h : Hp) : Option (Int32 × Hp) :=
  (fX9_in ((v1 : Int32).toInt64) 0 4 h).bind fun x1 => if (x1 : Int32) = 0 then ((xat h v0 (9, 18) (fX9_bad v0 (-2) h)).bind fun q3 => fX9_now_j29 q3.1 q3.2) else ((xgR h v0 (9, 18) 0).bind fun x4 => (xaI h x4 10 (3 + v1)).bind fun x5 => fX9_now_j29 x5 h)
abbrev iX9_now : xI := (cX9_now, yX9_now.cls, yX9_now.name, some .int, 2, 3)
set_option maxHeartbeats 4000000 in
set_option maxRecDepth 100000 in
theorem kX9_now (l : Launch) (η : xEnv) (v0 : Nat) (v1 : Int32) (h : Hp) (x : Int32 × Hp) (hx : fX9_now v0 v1 h = some x) : xC l η yX9_now cX9_now 2 (some .int) 3 [.ref v0, .int v1] h (some (.int x.1)) x.2 := by
  refine xC_of (by decide) (Nat.le_of_ble_eq_true rfl) hx (fun κ x => κ.2.2.2.1 = some (.int x.1) ∧ κ.2.2.2.2 = x.2) ⟨rfl, rfl⟩ (fun κ => ?_)
  show xJ iX9_now κ _ 0 [(0, .ref v0), (1, .int v1)] [] h (fX9_now v0 v1 h)
  unfold fX9_now
  refine j_have (pj := 29) (Lf := fun v : Int32 × Hp => []) (Sf := fun v : Int32 × Hp => [.int v.1]) (Hf := fun v : Int32 × Hp => v.2) (jf := fun v : Int32 × Hp => fX9_now_j29 v.1 v.2) (fun v => ?_) (fun hj29 => ?_)
  · obtain ⟨t0, h⟩ := v
    show xJ iX9_now κ _ 29 [] [.int t0] h (fX9_now_j29 t0 h)
    unfold fX9_now_j29
    exact j_iret (t0, h) dX9_now_29 rfl (fun q => q)
  refine j_iload_n 1 dX9_now_0 rfl rfl ?_
  refine j_i2l dX9_now_1 ?_
  refine j_lconst (x := 0) dX9_now_2 (by decide) ?_
  refine j_ldc2 dX9_now_3 cL_RX9_129 ?_
  refine j_callS (as := [.long ((v1 : Int32).toInt64), .long 0, .long 4]) (fun x => some (.int x)) (fun _ => h) dX9_now_6 ml_RX9_56 tg_X9_in st_X9_in (fun x hx => kX9_in κ.1 κ.2.1 ((v1 : Int32).toInt64) 0 4 h x hx) (by decide) (by decide) rfl rfl (Nat.le_of_ble_eq_true rfl) (fun x1 => ?_)
  show xJ iX9_now κ _ 9 [(0, .ref v0), (1, .int v1)] [.int x1] h _
  refine j_if_eq (tgt := 23) dX9_now_9 (by decide) (fun c2 => ?_) (fun c2 => ?_)
  · refine j_aload_n 0 dX9_now_23 rfl rfl ?_
    refine j_bipush (x := (-2)) dX9_now_24 (by decide) ?_
    refine j_callV (as := [.int (-2)]) (fun x => some (.int x.1)) (fun x => x.2) 9 18 dX9_now_26 ml_RX9_64 tg_X9_bad im_X9_bad se_X9_bad rfl (by decide) (fun x hx => kX9_bad κ.1 κ.2.1 v0 (-2) h x hx) (by decide) (by decide) rfl rfl (Nat.le_of_ble_eq_true rfl) (fun q3 => ?_)
    show xJ iX9_now κ _ 29 [(0, .ref v0), (1, .int v1)] [.int q3.1] q3.2 _
    refine j_pick [] rfl ?_
    exact hj29 (q3.1, q3.2)
  · refine j_aload_n 0 dX9_now_12 rfl rfl ?_
    refine j_getR 9 18 0 dX9_now_13 fl_RX9_7 (by decide) rfl (by decide) (fun _ _ _ => rfl) (fun x4 => ?_)
    refine j_iconst (x := 3) dX9_now_16 (by decide) ?_
    refine j_iload_n 1 dX9_now_17 rfl rfl ?_
    refine j_iadd dX9_now_18 ?_
    refine j_iald dX9_now_19 (fun x5 => ?_)
    refine j_goto (tgt := 29) dX9_now_20 (by decide) ?_
    refine j_pick [] rfl ?_
    exact hj29 (x5, h)
def fX3_boardAsTold (v0 : Nat) (v1 : Nat) (h : Hp) : Option (Hp) :=
  (xgR h v1 (0, 16) 5).bind fun x1 => (xgR h v0 (3, 3) 1).bind fun x2 => (xcp h x1 0 x2 0 7).bind fun h3 => (xpI h3 v0 (3, 3) 2 0).bind fun h4 => some h4
abbrev iX3_boardAsTold : xI := (cX3_boardAsTold, yX3_boardAsTold.cls, yX3_boardAsTold.name, none, 2, 2)
set_option maxHeartbeats 4000000 in
set_option maxRecDepth 100000 in
theorem kX3_boardAsTold (l : Launch) (η : xEnv) (v0 : Nat) (v1 : Nat) (h : Hp) (x : Hp) (hx : fX3_boardAsTold v0 v1 h = some x) : xC l η yX3_boardAsTold cX3_boardAsTold 2 none 2 [.ref v0, .ref v1] h none x := by
  refine xC_of (by decide) (Nat.le_of_ble_eq_true rfl) hx (fun κ x => κ.2.2.2.1 = none ∧ κ.2.2.2.2 = x) ⟨rfl, rfl⟩ (fun κ => ?_)
  show xJ iX3_boardAsTold κ _ 0 [(0, .ref v0), (1, .ref v1)] [] h (fX3_boardAsTold v0 v1 h)
  unfold fX3_boardAsTold
  refine j_aload_n 1 dX3_boardAsTold_0 rfl rfl ?_
  refine j_getR 0 16 5 dX3_boardAsTold_1 fl_RX3_36 (by decide) rfl (by decide) (fun _ _ _ => rfl) (fun x1 => ?_)
  refine j_iconst (x := 0) dX3_boardAsTold_4 (by decide) ?_
  refine j_aload_n 0 dX3_boardAsTold_5 rfl rfl ?_
  refine j_getR 3 3 1 dX3_boardAsTold_6 fl_RX3_18 (by decide) rfl (by decide) (fun _ _ _ => rfl) (fun x2 => ?_)
  refine j_iconst (x := 0) dX3_boardAsTold_9 (by decide) ?_
  refine j_bipush (x := 7) dX3_boardAsTold_10 (by decide) ?_
  refine j_copy dX3_boardAsTold_12 ml_RX3_39 nt_copy st_copy in_System (Nat.le_of_ble_eq_true rfl) (by decide) (fun h3 => ?_)
  refine j_aload_n 0 dX3_boardAsTold_15 rfl rfl ?_
  refine j_iconst (x := 0) dX3_boardAsTold_16 (by decide) ?_
  refine j_putI 3 3 2 dX3_boardAsTold_17 fl_RX3_45 (by decide) rfl (by decide) rfl rfl (fun h4 => ?_)
  exact j_vret h4 dX3_boardAsTold_20 rfl (fun q => q)
def fX3_goOn (v0 : Nat) (v1 : Nat) (h : Hp) : Option (Hp) :=
  (xgR h v0 (3, 3) 0).bind fun x1 => (xgR h v1 (0, 16) 13).bind fun x2 => (xat h x1 (5, 5) (fX5_take x1 x2 h)).bind fun h3 => (xat h3 v0 (3, 3) (fX3_boardAsTold v0 v1 h3)).bind fun h4 => some h4
abbrev iX3_goOn : xI := (cX3_goOn, yX3_goOn.cls, yX3_goOn.name, none, 2, 3)
set_option maxHeartbeats 4000000 in
set_option maxRecDepth 100000 in
theorem kX3_goOn (l : Launch) (η : xEnv) (v0 : Nat) (v1 : Nat) (h : Hp) (x : Hp) (hx : fX3_goOn v0 v1 h = some x) : xC l η yX3_goOn cX3_goOn 2 none 3 [.ref v0, .ref v1] h none x := by
  refine xC_of (by decide) (Nat.le_of_ble_eq_true rfl) hx (fun κ x => κ.2.2.2.1 = none ∧ κ.2.2.2.2 = x) ⟨rfl, rfl⟩ (fun κ => ?_)
  show xJ iX3_goOn κ _ 0 [(0, .ref v0), (1, .ref v1)] [] h (fX3_goOn v0 v1 h)
  unfold fX3_goOn
  refine j_aload_n 0 dX3_goOn_0 rfl rfl ?_
  refine j_getR 3 3 0 dX3_goOn_1 fl_RX3_12 (by decide) rfl (by decide) (fun _ _ _ => rfl) (fun x1 => ?_)
  refine j_aload_n 1 dX3_goOn_4 rfl rfl ?_
  refine j_getR 0 16 13 dX3_goOn_5 fl_RX3_22 (by decide) rfl (by decide) (fun _ _ _ => rfl) (fun x2 => ?_)
  refine j_callV (as := [.ref x2]) (fun _ => none) (fun x => x) 5 5 dX3_goOn_8 ml_RX3_25 tg_X5_take im_X5_take se_X5_take rfl (by decide) (fun x hx => kX5_take κ.1 κ.2.1 x1 x2 h x hx) (by decide) (by decide) rfl rfl (Nat.le_of_ble_eq_true rfl) (fun h3 => ?_)
  show xJ iX3_goOn κ _ 11 [(0, .ref v0), (1, .ref v1)] [] h3 _
  refine j_aload_n 0 dX3_goOn_11 rfl rfl ?_
  refine j_aload_n 1 dX3_goOn_12 rfl rfl ?_
  refine j_callV (as := [.ref v1]) (fun _ => none) (fun x => x) 3 3 dX3_goOn_13 ml_RX3_29 tg_X3_boardAsTold im_X3_boardAsTold se_X3_boardAsTold rfl (by decide) (fun x hx => kX3_boardAsTold κ.1 κ.2.1 v0 v1 h3 x hx) (by decide) (by decide) rfl rfl (Nat.le_of_ble_eq_true rfl) (fun h4 => ?_)
  show xJ iX3_goOn κ _ 16 [(0, .ref v0), (1, .ref v1)] [] h4 _
  exact j_vret h4 dX3_goOn_16 rfl (fun q => q)
def fX3_passThrough_b8 (v0 : Nat) (v1 : Nat) (v2 : Int32) (s8 : Int32 × Hp) : Option ((Int32 × Hp) ⊕ ((Hp))) :=
  if (v2 : Int32) < s8.1 then (some (Sum.inr s8.2)) else ((xgR s8.2 v0 (3, 3) 0).bind fun x4 => (xgR s8.2 v0 (3, 3) 1).bind fun x5 => (xgI s8.2 v0 (3, 3) 2).bind fun x6 => (xat s8.2 v1 (0, 16) (fX0_passStop v1 x4 x5 x6 s8.2)).bind fun h7 => some (Sum.inl (s8.1 + 1, h7)))
def fX3_passThrough (v0 : Nat) (v1 : Nat) (v2 : Int32) (h : Hp) : Option (Hp) :=
  (xgR h v0 (3, 3) 0).bind fun x1 => (xgI h x1 (5, 5) 0).bind fun x2 => (xloop (fX3_passThrough_b8 v0 v1 v2) 1000000 (x2, h)).bind (fun r8 => some r8)
abbrev iX3_passThrough : xI := (cX3_passThrough, yX3_passThrough.cls, yX3_passThrough.name, none, 4, 5)
set_option maxHeartbeats 4000000 in
set_option maxRecDepth 100000 in
theorem kX3_passThrough (l : Launch) (η : xEnv) (v0 : Nat) (v1 : Nat) (v2 : Int32) (h : Hp) (x : Hp) (hx : fX3_passThrough v0 v1 v2 h = some x) : xC l η yX3_passThrough cX3_passThrough 4 none 5 [.ref v0, .ref v1, .int v2] h none x := by
  refine xC_of (by decide) (Nat.le_of_ble_eq_true rfl) hx (fun κ x => κ.2.2.2.1 = none ∧ κ.2.2.2.2 = x) ⟨rfl, rfl⟩ (fun κ => ?_)
  show xJ iX3_passThrough κ _ 0 [(0, .ref v0), (1, .ref v1), (2, .int v2)] [] h (fX3_passThrough v0 v1 v2 h)
  unfold fX3_passThrough
  refine j_aload_n 0 dX3_passThrough_0 rfl rfl ?_
  refine j_getR 3 3 0 dX3_passThrough_1 fl_RX3_12 (by decide) rfl (by decide) (fun _ _ _ => rfl) (fun x1 => ?_)
  refine j_getI 5 5 0 dX3_passThrough_4 fl_RX3_49 (by decide) rfl (by decide) rfl (fun x2 => ?_)
  refine j_istore_n (L' := [(3, .int x2), (0, .ref v0), (1, .ref v1), (2, .int v2)]) dX3_passThrough_7 rfl (Nat.le_of_ble_eq_true rfl) rfl ?_
  refine j_pick [1, 2, 3, 0] rfl ?_
  refine j_loop (pc := 8) (Lf := fun s8 : Int32 × Hp => [(0, .ref v0), (1, .ref v1), (2, .int v2), (3, .int s8.1)]) (Hf := fun s8 : Int32 × Hp => s8.2) (fun s8 => ?_) 1000000 (x2, h)
  show xJ iX3_passThrough κ _ 8 [(0, .ref v0), (1, .ref v1), (2, .int v2), (3, .int s8.1)] [] s8.2 (fX3_passThrough_b8 v0 v1 v2 s8)
  unfold fX3_passThrough_b8
  refine j_iload_n 3 dX3_passThrough_8 rfl rfl ?_
  refine j_iload_n 2 dX3_passThrough_9 rfl rfl ?_
  refine j_icmp_gt (tgt := 35) dX3_passThrough_10 (by decide) (fun c3 => ?_) (fun c3 => ?_)
  · refine j_exit s8.2 ?_
    show xJ iX3_passThrough κ _ _ _ _ _ (some s8.2)
    exact j_vret s8.2 dX3_passThrough_35 rfl (fun q => q)
  · refine j_aload_n 1 dX3_passThrough_13 rfl rfl ?_
    refine j_aload_n 0 dX3_passThrough_14 rfl rfl ?_
    refine j_getR 3 3 0 dX3_passThrough_15 fl_RX3_12 (by decide) rfl (by decide) (fun _ _ _ => rfl) (fun x4 => ?_)
    refine j_aload_n 0 dX3_passThrough_18 rfl rfl ?_
    refine j_getR 3 3 1 dX3_passThrough_19 fl_RX3_18 (by decide) rfl (by decide) (fun _ _ _ => rfl) (fun x5 => ?_)
    refine j_aload_n 0 dX3_passThrough_22 rfl rfl ?_
    refine j_getI 3 3 2 dX3_passThrough_23 fl_RX3_45 (by decide) rfl (by decide) rfl (fun x6 => ?_)
    refine j_callV (as := [.ref x4, .ref x5, .int x6]) (fun _ => none) (fun x => x) 0 16 dX3_passThrough_26 ml_RX3_52 tg_X0_passStop im_X0_passStop se_X0_passStop rfl (by decide) (fun x hx => kX0_passStop κ.1 κ.2.1 v1 x4 x5 x6 s8.2 x hx) (by decide) (by decide) rfl rfl (Nat.le_of_ble_eq_true rfl) (fun h7 => ?_)
    show xJ iX3_passThrough κ _ 29 [(0, .ref v0), (1, .ref v1), (2, .int v2), (3, .int s8.1)] [] h7 _
    refine j_iinc (y := s8.1 + 1) (L' := [(3, .int (s8.1 + 1)), (0, .ref v0), (1, .ref v1), (2, .int v2)]) 3 dX3_passThrough_29 rfl rfl (Nat.le_of_ble_eq_true rfl) rfl ?_
    refine j_goto (tgt := 8) dX3_passThrough_32 (by decide) ?_
    refine j_pick [1, 2, 3, 0] rfl ?_
    exact j_again (s8.1 + 1, h7) rfl rfl
def fX8_then_j28 (v0 : Nat) (h : Hp) : Option (Int32 × Hp) :=
  (xat h v0 (8, 12) (fX8_refuseBad v0 h)).bind fun q1 => some (q1.1, q1.2)
def fX8_then (v0 : Nat) (v1 : Int32) (v2 : Int32) (h : Hp) : Option (Int32 × Hp) :=
  (xgR h v0 (8, 12) 0).bind fun x2 => (xgR h x2 (0, 16) 13).bind fun x3 => (xgI h x3 (5, 5) 0).bind fun x4 => (fX8_within v1 x4 9 h).bind fun x5 => if (x5 : Int32) = 0 then (fX8_then_j28 v0 h) else ((fX8_within v2 0 2 h).bind fun x7 => if (x7 : Int32) = 0 then (fX8_then_j28 v0 h) else ((xgR h v0 (8, 12) 3).bind fun x9 => (xgR h v0 (8, 12) 0).bind fun x10 => (xat h x9 (3, 3) (fX3_goOn x9 x10 h)).bind fun h11 => (xgR h11 v0 (8, 12) 3).bind fun x12 => (xgR h11 v0 (8, 12) 0).bind fun x13 => (xat h11 x12 (3, 3) (fX3_passThrough x12 x13 v1 h11)).bind fun h14 => if (v2 : Int32) = 0 then ((xgR h14 v0 (8, 12) 3).bind fun x16 => (xgR h14 x16 (3, 3) 0).bind fun x17 => (xgI h14 x17 (5, 5) 1).bind fun x18 => some (x18, h14)) else if (v2 : Int32) = 1 then ((xgR h14 v0 (8, 12) 0).bind fun x20 => (xgR h14 v0 (8, 12) 3).bind fun x21 => (xgR h14 x21 (3, 3) 0).bind fun x22 => (xgI h14 x22 (5, 5) 1).bind fun x23 => (xat h14 x20 (0, 16) (fX0_swayOfAll x20 x23 v1 h14)).bind fun x24 => some (x24, h14)) else ((xgR h14 v0 (8, 12) 3).bind fun x25 => (xgR h14 x25 (3, 3) 0).bind fun x26 => (xgI h14 x26 (5, 5) 4).bind fun x27 => some (x27, h14))))
abbrev iX8_then : xI := (cX8_then, yX8_then.cls, yX8_then.name, some .int, 3, 6)
set_option maxHeartbeats 4000000 in
set_option maxRecDepth 100000 in
theorem kX8_then (l : Launch) (η : xEnv) (v0 : Nat) (v1 : Int32) (v2 : Int32) (h : Hp) (x : Int32 × Hp) (hx : fX8_then v0 v1 v2 h = some x) : xC l η yX8_then cX8_then 3 (some .int) 6 [.ref v0, .int v1, .int v2] h (some (.int x.1)) x.2 := by
  refine xC_of (by decide) (Nat.le_of_ble_eq_true rfl) hx (fun κ x => κ.2.2.2.1 = some (.int x.1) ∧ κ.2.2.2.2 = x.2) ⟨rfl, rfl⟩ (fun κ => ?_)
  show xJ iX8_then κ _ 0 [(0, .ref v0), (1, .int v1), (2, .int v2)] [] h (fX8_then v0 v1 v2 h)
  unfold fX8_then
  refine j_have (pj := 28) (Lf := fun v : Hp => [(0, .ref v0)]) (Sf := fun v : Hp => []) (Hf := fun v : Hp => v) (jf := fun v : Hp => fX8_then_j28 v0 v) (fun v => ?_) (fun hj28 => ?_)
  · generalize v = h
    show xJ iX8_then κ _ 28 [(0, .ref v0)] [] h (fX8_then_j28 v0 h)
    unfold fX8_then_j28
    refine j_aload_n 0 dX8_then_28 rfl rfl ?_
    refine j_callV (as := []) (fun x => some (.int x.1)) (fun x => x.2) 8 12 dX8_then_29 ml_RX8_70 tg_X8_refuseBad im_X8_refuseBad se_X8_refuseBad rfl (by decide) (fun x hx => kX8_refuseBad κ.1 κ.2.1 v0 h x hx) (by decide) (by decide) rfl rfl (Nat.le_of_ble_eq_true rfl) (fun q1 => ?_)
    show xJ iX8_then κ _ 32 [(0, .ref v0)] [.int q1.1] q1.2 _
    exact j_iret (q1.1, q1.2) dX8_then_32 rfl (fun q => q)
  refine j_iload_n 1 dX8_then_0 rfl rfl ?_
  refine j_aload_n 0 dX8_then_1 rfl rfl ?_
  refine j_getR 8 12 0 dX8_then_2 fl_RX8_12 (by decide) rfl (by decide) (fun _ _ _ => rfl) (fun x2 => ?_)
  refine j_getR 0 16 13 dX8_then_5 fl_RX8_137 (by decide) rfl (by decide) (fun _ _ _ => rfl) (fun x3 => ?_)
  refine j_getI 5 5 0 dX8_then_8 fl_RX8_141 (by decide) rfl (by decide) rfl (fun x4 => ?_)
  refine j_bipush (x := 9) dX8_then_11 (by decide) ?_
  refine j_callS (as := [.int v1, .int x4, .int 9]) (fun x => some (.int x)) (fun _ => h) dX8_then_13 ml_RX8_66 tg_X8_within st_X8_within (fun x hx => kX8_within κ.1 κ.2.1 v1 x4 9 h x hx) (by decide) (by decide) rfl rfl (Nat.le_of_ble_eq_true rfl) (fun x5 => ?_)
  show xJ iX8_then κ _ 16 [(0, .ref v0), (1, .int v1), (2, .int v2)] [.int x5] h _
  refine j_if_eq (tgt := 28) dX8_then_16 (by decide) (fun c6 => ?_) (fun c6 => ?_)
  · refine j_pick [0] rfl ?_
    exact hj28 h
  · refine j_iload_n 2 dX8_then_19 rfl rfl ?_
    refine j_iconst (x := 0) dX8_then_20 (by decide) ?_
    refine j_iconst (x := 2) dX8_then_21 (by decide) ?_
    refine j_callS (as := [.int v2, .int 0, .int 2]) (fun x => some (.int x)) (fun _ => h) dX8_then_22 ml_RX8_66 tg_X8_within st_X8_within (fun x hx => kX8_within κ.1 κ.2.1 v2 0 2 h x hx) (by decide) (by decide) rfl rfl (Nat.le_of_ble_eq_true rfl) (fun x7 => ?_)
    show xJ iX8_then κ _ 25 [(0, .ref v0), (1, .int v1), (2, .int v2)] [.int x7] h _
    refine j_if_ne (tgt := 33) dX8_then_25 (by decide) (fun c8 => ?_) (fun c8 => ?_)
    · refine j_pick [0] rfl ?_
      exact hj28 h
    · refine j_aload_n 0 dX8_then_33 rfl rfl ?_
      refine j_getR 8 12 3 dX8_then_34 fl_RX8_27 (by decide) rfl (by decide) (fun _ _ _ => rfl) (fun x9 => ?_)
      refine j_aload_n 0 dX8_then_37 rfl rfl ?_
      refine j_getR 8 12 0 dX8_then_38 fl_RX8_12 (by decide) rfl (by decide) (fun _ _ _ => rfl) (fun x10 => ?_)
      refine j_callV (as := [.ref x10]) (fun _ => none) (fun x => x) 3 3 dX8_then_41 ml_RX8_200 tg_X3_goOn im_X3_goOn se_X3_goOn rfl (by decide) (fun x hx => kX3_goOn κ.1 κ.2.1 x9 x10 h x hx) (by decide) (by decide) rfl rfl (Nat.le_of_ble_eq_true rfl) (fun h11 => ?_)
      show xJ iX8_then κ _ 44 [(0, .ref v0), (1, .int v1), (2, .int v2)] [] h11 _
      refine j_aload_n 0 dX8_then_44 rfl rfl ?_
      refine j_getR 8 12 3 dX8_then_45 fl_RX8_27 (by decide) rfl (by decide) (fun _ _ _ => rfl) (fun x12 => ?_)
      refine j_aload_n 0 dX8_then_48 rfl rfl ?_
      refine j_getR 8 12 0 dX8_then_49 fl_RX8_12 (by decide) rfl (by decide) (fun _ _ _ => rfl) (fun x13 => ?_)
      refine j_iload_n 1 dX8_then_52 rfl rfl ?_
      refine j_callV (as := [.ref x13, .int v1]) (fun _ => none) (fun x => x) 3 3 dX8_then_53 ml_RX8_203 tg_X3_passThrough im_X3_passThrough se_X3_passThrough rfl (by decide) (fun x hx => kX3_passThrough κ.1 κ.2.1 x12 x13 v1 h11 x hx) (by decide) (by decide) rfl rfl (Nat.le_of_ble_eq_true rfl) (fun h14 => ?_)
      show xJ iX8_then κ _ 56 [(0, .ref v0), (1, .int v1), (2, .int v2)] [] h14 _
      refine j_iload_n 2 dX8_then_56 rfl rfl ?_
      refine j_lokv (w := 0) (off := 27) (tgt := 84) dX8_then_57 (by decide) (by decide) (by decide) (fun c15 => ?_) (fun c15 => ?_)
      · refine j_aload_n 0 dX8_then_84 rfl rfl ?_
        refine j_getR 8 12 3 dX8_then_85 fl_RX8_27 (by decide) rfl (by decide) (fun _ _ _ => rfl) (fun x16 => ?_)
        refine j_getR 3 3 0 dX8_then_88 fl_RX8_207 (by decide) rfl (by decide) (fun _ _ _ => rfl) (fun x17 => ?_)
        refine j_getI 5 5 1 dX8_then_91 fl_RX8_166 (by decide) rfl (by decide) rfl (fun x18 => ?_)
        exact j_iret (x18, h14) dX8_then_94 rfl (fun q => q)
      refine j_lokv (w := 1) (off := 38) (tgt := 95) dX8_then_57 (by decide) (by decide) (by decide) (fun c19 => ?_) (fun c19 => ?_)
      · refine j_aload_n 0 dX8_then_95 rfl rfl ?_
        refine j_getR 8 12 0 dX8_then_96 fl_RX8_12 (by decide) rfl (by decide) (fun _ _ _ => rfl) (fun x20 => ?_)
        refine j_aload_n 0 dX8_then_99 rfl rfl ?_
        refine j_getR 8 12 3 dX8_then_100 fl_RX8_27 (by decide) rfl (by decide) (fun _ _ _ => rfl) (fun x21 => ?_)
        refine j_getR 3 3 0 dX8_then_103 fl_RX8_207 (by decide) rfl (by decide) (fun _ _ _ => rfl) (fun x22 => ?_)
        refine j_getI 5 5 1 dX8_then_106 fl_RX8_166 (by decide) rfl (by decide) rfl (fun x23 => ?_)
        refine j_iload_n 1 dX8_then_109 rfl rfl ?_
        refine j_callV (as := [.int x23, .int v1]) (fun x => some (.int x)) (fun _ => h14) 0 16 dX8_then_110 ml_RX8_208 tg_X0_swayOfAll im_X0_swayOfAll se_X0_swayOfAll rfl (by decide) (fun x hx => kX0_swayOfAll κ.1 κ.2.1 x20 x23 v1 h14 x hx) (by decide) (by decide) rfl rfl (Nat.le_of_ble_eq_true rfl) (fun x24 => ?_)
        show xJ iX8_then κ _ 113 [(0, .ref v0), (1, .int v1), (2, .int v2)] [.int x24] h14 _
        exact j_iret (x24, h14) dX8_then_113 rfl (fun q => q)
      refine j_lokd (tgt := 114) dX8_then_57 (by decide) (by have ec15 : ¬ (0 : Int) = (v2 : Int32).toInt := fun q => c15 (Int32.toInt_inj.mp (q.symm.trans (by decide))); have ec19 : ¬ (1 : Int) = (v2 : Int32).toInt := fun q => c19 (Int32.toInt_inj.mp (q.symm.trans (by decide))); show Op.lookupswitch.offset [(0, 27), (1, 38)] 57 (v2 : Int32).toInt = 57; simp only [Op.lookupswitch.offset, if_neg ec15, if_neg ec19]) (by decide) ?_
      refine j_aload_n 0 dX8_then_114 rfl rfl ?_
      refine j_getR 8 12 3 dX8_then_115 fl_RX8_27 (by decide) rfl (by decide) (fun _ _ _ => rfl) (fun x25 => ?_)
      refine j_getR 3 3 0 dX8_then_118 fl_RX8_207 (by decide) rfl (by decide) (fun _ _ _ => rfl) (fun x26 => ?_)
      refine j_getI 5 5 4 dX8_then_121 fl_RX8_149 (by decide) rfl (by decide) rfl (fun x27 => ?_)
      exact j_iret (x27, h14) dX8_then_124 rfl (fun q => q)
def fX9_then_j87 (t0 : Int32) (h : Hp) : Option (Int32 × Hp) :=
  some (t0, h)
def fX9_then_j30 (v0 : Nat) (h : Hp) : Option (Int32 × Hp) :=
  (xat h v0 (9, 18) (fX9_bad v0 (-2) h)).bind fun q1 => some (q1.1, q1.2)
def fX9_then (v0 : Nat) (v1 : Int32) (v2 : Int32) (h : Hp) : Option (Int32 × Hp) :=
  (xgR h v0 (9, 18) 0).bind fun x2 => (xaI h x2 10 3).bind fun x3 => (fX9_in ((v1 : Int32).toInt64) ((x3 : Int32).toInt64) 9 h).bind fun x4 => if (x4 : Int32) = 0 then (fX9_then_j30 v0 h) else ((fX9_in ((v2 : Int32).toInt64) 0 2 h).bind fun x6 => if (x6 : Int32) = 0 then (fX9_then_j30 v0 h) else ((xat h v0 (9, 18) (fX9_layHand v0 h)).bind fun h8 => (xat h8 v0 (9, 18) (fX9_goTill v0 (v1 + 1) h8)).bind fun h9 => if (v2 : Int32) = 0 then ((xgR h9 v0 (9, 18) 6).bind fun x11 => (xaI h9 x11 10 4).bind fun x12 => fX9_then_j87 x12 h9) else (if (v2 : Int32) = 1 then ((xgR h9 v0 (9, 18) 6).bind fun x14 => (xaI h9 x14 10 4).bind fun x15 => (xat h9 v0 (9, 18) (fX9_swayOfAll v0 x15 v1 h9)).bind fun x16 => fX9_then_j87 x16 h9) else ((xgR h9 v0 (9, 18) 6).bind fun x17 => (xaI h9 x17 10 7).bind fun x18 => fX9_then_j87 x18 h9))))
abbrev iX9_then : xI := (cX9_then, yX9_then.cls, yX9_then.name, some .int, 3, 7)
set_option maxHeartbeats 4000000 in
set_option maxRecDepth 100000 in
theorem kX9_then (l : Launch) (η : xEnv) (v0 : Nat) (v1 : Int32) (v2 : Int32) (h : Hp) (x : Int32 × Hp) (hx : fX9_then v0 v1 v2 h = some x) : xC l η yX9_then cX9_then 3 (some .int) 7 [.ref v0, .int v1, .int v2] h (some (.int x.1)) x.2 := by
  refine xC_of (by decide) (Nat.le_of_ble_eq_true rfl) hx (fun κ x => κ.2.2.2.1 = some (.int x.1) ∧ κ.2.2.2.2 = x.2) ⟨rfl, rfl⟩ (fun κ => ?_)
  show xJ iX9_then κ _ 0 [(0, .ref v0), (1, .int v1), (2, .int v2)] [] h (fX9_then v0 v1 v2 h)
  unfold fX9_then
  refine j_have (pj := 87) (Lf := fun v : Int32 × Hp => []) (Sf := fun v : Int32 × Hp => [.int v.1]) (Hf := fun v : Int32 × Hp => v.2) (jf := fun v : Int32 × Hp => fX9_then_j87 v.1 v.2) (fun v => ?_) (fun hj87 => ?_)
  · obtain ⟨t0, h⟩ := v
    show xJ iX9_then κ _ 87 [] [.int t0] h (fX9_then_j87 t0 h)
    unfold fX9_then_j87
    exact j_iret (t0, h) dX9_then_87 rfl (fun q => q)
  refine j_have (pj := 30) (Lf := fun v : Hp => [(0, .ref v0)]) (Sf := fun v : Hp => []) (Hf := fun v : Hp => v) (jf := fun v : Hp => fX9_then_j30 v0 v) (fun v => ?_) (fun hj30 => ?_)
  · generalize v = h
    show xJ iX9_then κ _ 30 [(0, .ref v0)] [] h (fX9_then_j30 v0 h)
    unfold fX9_then_j30
    refine j_aload_n 0 dX9_then_30 rfl rfl ?_
    refine j_bipush (x := (-2)) dX9_then_31 (by decide) ?_
    refine j_callV (as := [.int (-2)]) (fun x => some (.int x.1)) (fun x => x.2) 9 18 dX9_then_33 ml_RX9_64 tg_X9_bad im_X9_bad se_X9_bad rfl (by decide) (fun x hx => kX9_bad κ.1 κ.2.1 v0 (-2) h x hx) (by decide) (by decide) rfl rfl (Nat.le_of_ble_eq_true rfl) (fun q1 => ?_)
    show xJ iX9_then κ _ 36 [(0, .ref v0)] [.int q1.1] q1.2 _
    exact j_iret (q1.1, q1.2) dX9_then_36 rfl (fun q => q)
  refine j_iload_n 1 dX9_then_0 rfl rfl ?_
  refine j_i2l dX9_then_1 ?_
  refine j_aload_n 0 dX9_then_2 rfl rfl ?_
  refine j_getR 9 18 0 dX9_then_3 fl_RX9_7 (by decide) rfl (by decide) (fun _ _ _ => rfl) (fun x2 => ?_)
  refine j_iconst (x := 3) dX9_then_6 (by decide) ?_
  refine j_iald dX9_then_7 (fun x3 => ?_)
  refine j_i2l dX9_then_8 ?_
  refine j_ldc2 dX9_then_9 cL_RX9_60 ?_
  refine j_callS (as := [.long ((v1 : Int32).toInt64), .long ((x3 : Int32).toInt64), .long 9]) (fun x => some (.int x)) (fun _ => h) dX9_then_12 ml_RX9_56 tg_X9_in st_X9_in (fun x hx => kX9_in κ.1 κ.2.1 ((v1 : Int32).toInt64) ((x3 : Int32).toInt64) 9 h x hx) (by decide) (by decide) rfl rfl (Nat.le_of_ble_eq_true rfl) (fun x4 => ?_)
  show xJ iX9_then κ _ 15 [(0, .ref v0), (1, .int v1), (2, .int v2)] [.int x4] h _
  refine j_if_eq (tgt := 30) dX9_then_15 (by decide) (fun c5 => ?_) (fun c5 => ?_)
  · refine j_pick [0] rfl ?_
    exact hj30 h
  · refine j_iload_n 2 dX9_then_18 rfl rfl ?_
    refine j_i2l dX9_then_19 ?_
    refine j_lconst (x := 0) dX9_then_20 (by decide) ?_
    refine j_ldc2 dX9_then_21 cL_RX9_131 ?_
    refine j_callS (as := [.long ((v2 : Int32).toInt64), .long 0, .long 2]) (fun x => some (.int x)) (fun _ => h) dX9_then_24 ml_RX9_56 tg_X9_in st_X9_in (fun x hx => kX9_in κ.1 κ.2.1 ((v2 : Int32).toInt64) 0 2 h x hx) (by decide) (by decide) rfl rfl (Nat.le_of_ble_eq_true rfl) (fun x6 => ?_)
    show xJ iX9_then κ _ 27 [(0, .ref v0), (1, .int v1), (2, .int v2)] [.int x6] h _
    refine j_if_ne (tgt := 37) dX9_then_27 (by decide) (fun c7 => ?_) (fun c7 => ?_)
    · refine j_pick [0] rfl ?_
      exact hj30 h
    · refine j_aload_n 0 dX9_then_37 rfl rfl ?_
      refine j_callV (as := []) (fun _ => none) (fun x => x) 9 18 dX9_then_38 ml_RX9_90 tg_X9_layHand im_X9_layHand se_X9_layHand rfl (by decide) (fun x hx => kX9_layHand κ.1 κ.2.1 v0 h x hx) (by decide) (by decide) rfl rfl (Nat.le_of_ble_eq_true rfl) (fun h8 => ?_)
      show xJ iX9_then κ _ 41 [(0, .ref v0), (1, .int v1), (2, .int v2)] [] h8 _
      refine j_aload_n 0 dX9_then_41 rfl rfl ?_
      refine j_iload_n 1 dX9_then_42 rfl rfl ?_
      refine j_iconst (x := 1) dX9_then_43 (by decide) ?_
      refine j_iadd dX9_then_44 ?_
      refine j_callV (as := [.int (v1 + 1)]) (fun _ => none) (fun x => x) 9 18 dX9_then_45 ml_RX9_125 tg_X9_goTill im_X9_goTill se_X9_goTill rfl (by decide) (fun x hx => kX9_goTill κ.1 κ.2.1 v0 (v1 + 1) h8 x hx) (by decide) (by decide) rfl rfl (Nat.le_of_ble_eq_true rfl) (fun h9 => ?_)
      show xJ iX9_then κ _ 48 [(0, .ref v0), (1, .int v1), (2, .int v2)] [] h9 _
      refine j_iload_n 2 dX9_then_48 rfl rfl ?_
      refine j_if_ne (tgt := 61) dX9_then_49 (by decide) (fun c10 => ?_) (fun c10 => ?_)
      · refine j_aload_n 0 dX9_then_52 rfl rfl ?_
        refine j_getR 9 18 6 dX9_then_53 fl_RX9_27 (by decide) rfl (by decide) (fun _ _ _ => rfl) (fun x11 => ?_)
        refine j_iconst (x := 4) dX9_then_56 (by decide) ?_
        refine j_iald dX9_then_57 (fun x12 => ?_)
        refine j_goto (tgt := 87) dX9_then_58 (by decide) ?_
        refine j_pick [] rfl ?_
        exact hj87 (x12, h9)
      · refine j_iload_n 2 dX9_then_61 rfl rfl ?_
        refine j_iconst (x := 1) dX9_then_62 (by decide) ?_
        refine j_icmp_ne (tgt := 80) dX9_then_63 (by decide) (fun c13 => ?_) (fun c13 => ?_)
        · refine j_aload_n 0 dX9_then_66 rfl rfl ?_
          refine j_aload_n 0 dX9_then_67 rfl rfl ?_
          refine j_getR 9 18 6 dX9_then_68 fl_RX9_27 (by decide) rfl (by decide) (fun _ _ _ => rfl) (fun x14 => ?_)
          refine j_iconst (x := 4) dX9_then_71 (by decide) ?_
          refine j_iald dX9_then_72 (fun x15 => ?_)
          refine j_iload_n 1 dX9_then_73 rfl rfl ?_
          refine j_callV (as := [.int x15, .int v1]) (fun x => some (.int x)) (fun _ => h9) 9 18 dX9_then_74 ml_RX9_111 tg_X9_swayOfAll im_X9_swayOfAll se_X9_swayOfAll rfl (by decide) (fun x hx => kX9_swayOfAll κ.1 κ.2.1 v0 x15 v1 h9 x hx) (by decide) (by decide) rfl rfl (Nat.le_of_ble_eq_true rfl) (fun x16 => ?_)
          show xJ iX9_then κ _ 77 [(0, .ref v0), (1, .int v1), (2, .int v2)] [.int x16] h9 _
          refine j_goto (tgt := 87) dX9_then_77 (by decide) ?_
          refine j_pick [] rfl ?_
          exact hj87 (x16, h9)
        · refine j_aload_n 0 dX9_then_80 rfl rfl ?_
          refine j_getR 9 18 6 dX9_then_81 fl_RX9_27 (by decide) rfl (by decide) (fun _ _ _ => rfl) (fun x17 => ?_)
          refine j_bipush (x := 7) dX9_then_84 (by decide) ?_
          refine j_iald dX9_then_86 (fun x18 => ?_)
          refine j_pick [] rfl ?_
          exact hj87 (x18, h9)
