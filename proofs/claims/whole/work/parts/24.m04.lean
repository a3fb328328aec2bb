def fX4_readBridge_j52 (v0 : Nat) (h : Hp) : Option (Int32 × Hp) :=
  (xat h v0 (4, 8) (fX4_readMark v0 h)).bind fun q1 => if vp_nar .boolean q1.1 = q1.1 then some (q1.1, q1.2) else none
def fX4_readBridge (v0 : Nat) (h : Hp) : Option (Int32 × Hp) :=
  (xat h v0 (4, 8) (fX4_readNumber v0 0 9 h)).bind fun q2 => if (q2.1 : Int32) = 0 then (some (0, q2.2)) else ((xgI q2.2 v0 (4, 8) 7).bind fun x4 => (xat q2.2 v0 (4, 8) (fX4_readNumber v0 1 9 q2.2)).bind fun q5 => if (q5.1 : Int32) = 0 then (some (0, q5.2)) else ((fX8_within x4 0 9 q5.2).bind fun x7 => if (x7 : Int32) = 0 then (fX4_readBridge_j52 v0 q5.2) else ((xgR q5.2 v0 (4, 8) 2).bind fun x9 => (xgR q5.2 x9 (0, 16) 1).bind fun x10 => (xgI q5.2 v0 (4, 8) 7).bind fun x11 => (xsI q5.2 x10 x4 x11).bind fun h12 => fX4_readBridge_j52 v0 h12)))
abbrev iX4_readBridge : xI := (cX4_readBridge, yX4_readBridge.cls, yX4_readBridge.name, some .boolean, 2, 7)
set_option maxHeartbeats 4000000 in
set_option maxRecDepth 100000 in
theorem kX4_readBridge (l : Launch) (η : xEnv) (v0 : Nat) (h : Hp) (x : Int32 × Hp) (hx : fX4_readBridge v0 h = some x) : xC l η yX4_readBridge cX4_readBridge 2 (some .boolean) 7 [.ref v0] h (some (.int x.1)) x.2 := by
  refine xC_of (by decide) (Nat.le_of_ble_eq_true rfl) hx (fun κ x => κ.2.2.2.1 = some (.int x.1) ∧ κ.2.2.2.2 = x.2) ⟨rfl, rfl⟩ (fun κ => ?_)
  show xJ iX4_readBridge κ _ 0 [(0, .ref v0)] [] h (fX4_readBridge v0 h)
  unfold fX4_readBridge
  refine j_have (pj := 52) (Lf := fun v : Hp => [(0, .ref v0)]) (Sf := fun v : Hp => []) (Hf := fun v : Hp => v) (jf := fun v : Hp => fX4_readBridge_j52 v0 v) (fun v => ?_) (fun hj52 => ?_)
  · generalize v = h
    show xJ iX4_readBridge κ _ 52 [(0, .ref v0)] [] h (fX4_readBridge_j52 v0 h)
    unfold fX4_readBridge_j52
    refine j_aload_n 0 dX4_readBridge_52 rfl rfl ?_
    refine j_callV (as := []) (fun x => some (.int x.1)) (fun x => x.2) 4 8 dX4_readBridge_53 ml_RX4_79 tg_X4_readMark im_X4_readMark se_X4_readMark rfl (by decide) (fun x hx => kX4_readMark κ.1 κ.2.1 v0 h x hx) (by decide) (by decide) rfl rfl (Nat.le_of_ble_eq_true rfl) (fun q1 => ?_)
    show xJ iX4_readBridge κ _ 56 [(0, .ref v0)] [.int q1.1] q1.2 _
    exact j_zretc (q1.1, q1.2) dX4_readBridge_56 rfl (fun q => q)
  refine j_aload_n 0 dX4_readBridge_0 rfl rfl ?_
  refine j_iconst (x := 0) dX4_readBridge_1 (by decide) ?_
  refine j_bipush (x := 9) dX4_readBridge_2 (by decide) ?_
  refine j_callV (as := [.int 0, .int 9]) (fun x => some (.int x.1)) (fun x => x.2) 4 8 dX4_readBridge_4 ml_RX4_69 tg_X4_readNumber im_X4_readNumber se_X4_readNumber rfl (by decide) (fun x hx => kX4_readNumber κ.1 κ.2.1 v0 0 9 h x hx) (by decide) (by decide) rfl rfl (Nat.le_of_ble_eq_true rfl) (fun q2 => ?_)
  show xJ iX4_readBridge κ _ 7 [(0, .ref v0)] [.int q2.1] q2.2 _
  refine j_if_ne (tgt := 12) dX4_readBridge_7 (by decide) (fun c3 => ?_) (fun c3 => ?_)
  · refine j_iconst (x := 0) dX4_readBridge_10 (by decide) ?_
    exact j_zret (0, q2.2) dX4_readBridge_11 rfl rfl (fun q => q)
  · refine j_aload_n 0 dX4_readBridge_12 rfl rfl ?_
    refine j_getI 4 8 7 dX4_readBridge_13 fl_RX4_73 (by decide) rfl (by decide) rfl (fun x4 => ?_)
    refine j_istore_n (L' := [(1, .int x4), (0, .ref v0)]) dX4_readBridge_16 rfl (Nat.le_of_ble_eq_true rfl) rfl ?_
    refine j_aload_n 1 dX4_readBridge_17 rfl rfl ?_
    refine j_iconst (x := 1) dX4_readBridge_18 (by decide) ?_
    refine j_bipush (x := 9) dX4_readBridge_19 (by decide) ?_
    refine j_callV (as := [.int 1, .int 9]) (fun x => some (.int x.1)) (fun x => x.2) 4 8 dX4_readBridge_21 ml_RX4_69 tg_X4_readNumber im_X4_readNumber se_X4_readNumber rfl (by decide) (fun x hx => kX4_readNumber κ.1 κ.2.1 v0 1 9 q2.2 x hx) (by decide) (by decide) rfl rfl (Nat.le_of_ble_eq_true rfl) (fun q5 => ?_)
    show xJ iX4_readBridge κ _ 24 [(1, .int x4), (0, .ref v0)] [.int q5.1] q5.2 _
    refine j_if_ne (tgt := 29) dX4_readBridge_24 (by decide) (fun c6 => ?_) (fun c6 => ?_)
    · refine j_iconst (x := 0) dX4_readBridge_27 (by decide) ?_
      exact j_zret (0, q5.2) dX4_readBridge_28 rfl rfl (fun q => q)
    · refine j_iload_n 0 dX4_readBridge_29 rfl rfl ?_
      refine j_iconst (x := 0) dX4_readBridge_30 (by decide) ?_
      refine j_bipush (x := 9) dX4_readBridge_31 (by decide) ?_
      refine j_callSN (as := [.int x4, .int 0, .int 9]) (fun x => some (.int x)) (fun _ => q5.2) dX4_readBridge_33 nl_RX4_82 tg_X8_within st_X8_within (fun x hx => kX8_within κ.1 κ.2.1 x4 0 9 q5.2 x hx) (by decide) (by decide) rfl rfl (Nat.le_of_ble_eq_true rfl) (fun x7 => ?_)
      show xJ iX4_readBridge κ _ 36 [(1, .int x4), (0, .ref v0)] [.int x7] q5.2 _
      refine j_if_eq (tgt := 52) dX4_readBridge_36 (by decide) (fun c8 => ?_) (fun c8 => ?_)
      · refine j_pick [1] rfl ?_
        exact hj52 q5.2
      · refine j_aload_n 1 dX4_readBridge_39 rfl rfl ?_
        refine j_getR 4 8 2 dX4_readBridge_40 fl_RX4_18 (by decide) rfl (by decide) (fun _ _ _ => rfl) (fun x9 => ?_)
        refine j_getR 0 16 1 dX4_readBridge_43 fl_RX4_86 (by decide) rfl (by decide) (fun _ _ _ => rfl) (fun x10 => ?_)
        refine j_iload_n 0 dX4_readBridge_46 rfl rfl ?_
        refine j_aload_n 1 dX4_readBridge_47 rfl rfl ?_
        refine j_getI 4 8 7 dX4_readBridge_48 fl_RX4_73 (by decide) rfl (by decide) rfl (fun x11 => ?_)
        refine j_iast dX4_readBridge_51 (fun h12 => ?_)
        refine j_pick [1] rfl ?_
        exact hj52 h12
def fX4_readIdea (v0 : Nat) (h : Hp) : Option (Int32 × Hp) :=
  (xgR h v0 (4, 8) 2).bind fun x1 => (xgI h x1 (0, 16) 2).bind fun x2 => if (x2 : Int32) < 7 then ((xat h v0 (4, 8) (fX4_readNumber v0 0 5 h)).bind fun q4 => if (q4.1 : Int32) = 0 then (some (0, q4.2)) else ((xgI q4.2 v0 (4, 8) 7).bind fun x6 => (xat q4.2 v0 (4, 8) (fX4_readNumber v0 1 9 q4.2)).bind fun q7 => if (q7.1 : Int32) = 0 then (some (0, q7.2)) else ((xgI q7.2 v0 (4, 8) 7).bind fun x9 => (xat q7.2 v0 (4, 8) (fX4_readNumber v0 0 8 q7.2)).bind fun q10 => if (q10.1 : Int32) = 0 then (some (0, q10.2)) else ((xgI q10.2 v0 (4, 8) 7).bind fun x12 => (xat q10.2 v0 (4, 8) (fX4_readNumber v0 (x12 + 1) 9 q10.2)).bind fun q13 => if (q13.1 : Int32) = 0 then (some (0, q13.2)) else ((xgR q13.2 v0 (4, 8) 2).bind fun x15 => (xgI q13.2 v0 (4, 8) 7).bind fun x16 => (xat q13.2 x15 (0, 16) (fX0_addIdea x15 x6 x9 x12 x16 q13.2)).bind fun h17 => (xat h17 v0 (4, 8) (fX4_readMark v0 h17)).bind fun q18 => if vp_nar .boolean q18.1 = q18.1 then some (q18.1, q18.2) else none))))) else (some (0, h))
abbrev iX4_readIdea : xI := (cX4_readIdea, yX4_readIdea.cls, yX4_readIdea.name, some .boolean, 4, 7)
set_option maxHeartbeats 4000000 in
set_option maxRecDepth 100000 in
theorem kX4_readIdea (l : Launch) (η : xEnv) (v0 : Nat) (h : Hp) (x : Int32 × Hp) (hx : fX4_readIdea v0 h = some x) : xC l η yX4_readIdea cX4_readIdea 4 (some .boolean) 7 [.ref v0] h (some (.int x.1)) x.2 := by
  refine xC_of (by decide) (Nat.le_of_ble_eq_true rfl) hx (fun κ x => κ.2.2.2.1 = some (.int x.1) ∧ κ.2.2.2.2 = x.2) ⟨rfl, rfl⟩ (fun κ => ?_)
  show xJ iX4_readIdea κ _ 0 [(0, .ref v0)] [] h (fX4_readIdea v0 h)
  unfold fX4_readIdea
  refine j_aload_n 0 dX4_readIdea_0 rfl rfl ?_
  refine j_getR 4 8 2 dX4_readIdea_1 fl_RX4_18 (by decide) rfl (by decide) (fun _ _ _ => rfl) (fun x1 => ?_)
  refine j_getI 0 16 2 dX4_readIdea_4 fl_RX4_89 (by decide) rfl (by decide) rfl (fun x2 => ?_)
  refine j_bipush (x := 7) dX4_readIdea_7 (by decide) ?_
  refine j_icmp_lt (tgt := 14) dX4_readIdea_9 (by decide) (fun c3 => ?_) (fun c3 => ?_)
  · refine j_aload_n 0 dX4_readIdea_14 rfl rfl ?_
    refine j_iconst (x := 0) dX4_readIdea_15 (by decide) ?_
    refine j_iconst (x := 5) dX4_readIdea_16 (by decide) ?_
    refine j_callV (as := [.int 0, .int 5]) (fun x => some (.int x.1)) (fun x => x.2) 4 8 dX4_readIdea_17 ml_RX4_69 tg_X4_readNumber im_X4_readNumber se_X4_readNumber rfl (by decide) (fun x hx => kX4_readNumber κ.1 κ.2.1 v0 0 5 h x hx) (by decide) (by decide) rfl rfl (Nat.le_of_ble_eq_true rfl) (fun q4 => ?_)
    show xJ iX4_readIdea κ _ 20 [(0, .ref v0)] [.int q4.1] q4.2 _
    refine j_if_ne (tgt := 25) dX4_readIdea_20 (by decide) (fun c5 => ?_) (fun c5 => ?_)
    · refine j_iconst (x := 0) dX4_readIdea_23 (by decide) ?_
      exact j_zret (0, q4.2) dX4_readIdea_24 rfl rfl (fun q => q)
    · refine j_aload_n 0 dX4_readIdea_25 rfl rfl ?_
      refine j_getI 4 8 7 dX4_readIdea_26 fl_RX4_73 (by decide) rfl (by decide) rfl (fun x6 => ?_)
      refine j_istore_n (L' := [(1, .int x6), (0, .ref v0)]) dX4_readIdea_29 rfl (Nat.le_of_ble_eq_true rfl) rfl ?_
      refine j_aload_n 1 dX4_readIdea_30 rfl rfl ?_
      refine j_iconst (x := 1) dX4_readIdea_31 (by decide) ?_
      refine j_bipush (x := 9) dX4_readIdea_32 (by decide) ?_
      refine j_callV (as := [.int 1, .int 9]) (fun x => some (.int x.1)) (fun x => x.2) 4 8 dX4_readIdea_34 ml_RX4_69 tg_X4_readNumber im_X4_readNumber se_X4_readNumber rfl (by decide) (fun x hx => kX4_readNumber κ.1 κ.2.1 v0 1 9 q4.2 x hx) (by decide) (by decide) rfl rfl (Nat.le_of_ble_eq_true rfl) (fun q7 => ?_)
      show xJ iX4_readIdea κ _ 37 [(1, .int x6), (0, .ref v0)] [.int q7.1] q7.2 _
      refine j_if_ne (tgt := 42) dX4_readIdea_37 (by decide) (fun c8 => ?_) (fun c8 => ?_)
      · refine j_iconst (x := 0) dX4_readIdea_40 (by decide) ?_
        exact j_zret (0, q7.2) dX4_readIdea_41 rfl rfl (fun q => q)
      · refine j_aload_n 1 dX4_readIdea_42 rfl rfl ?_
        refine j_getI 4 8 7 dX4_readIdea_43 fl_RX4_73 (by decide) rfl (by decide) rfl (fun x9 => ?_)
        refine j_istore_n (L' := [(2, .int x9), (1, .int x6), (0, .ref v0)]) dX4_readIdea_46 rfl (Nat.le_of_ble_eq_true rfl) rfl ?_
        refine j_aload_n 2 dX4_readIdea_47 rfl rfl ?_
        refine j_iconst (x := 0) dX4_readIdea_48 (by decide) ?_
        refine j_bipush (x := 8) dX4_readIdea_49 (by decide) ?_
        refine j_callV (as := [.int 0, .int 8]) (fun x => some (.int x.1)) (fun x => x.2) 4 8 dX4_readIdea_51 ml_RX4_69 tg_X4_readNumber im_X4_readNumber se_X4_readNumber rfl (by decide) (fun x hx => kX4_readNumber κ.1 κ.2.1 v0 0 8 q7.2 x hx) (by decide) (by decide) rfl rfl (Nat.le_of_ble_eq_true rfl) (fun q10 => ?_)
        show xJ iX4_readIdea κ _ 54 [(2, .int x9), (1, .int x6), (0, .ref v0)] [.int q10.1] q10.2 _
        refine j_if_ne (tgt := 59) dX4_readIdea_54 (by decide) (fun c11 => ?_) (fun c11 => ?_)
        · refine j_iconst (x := 0) dX4_readIdea_57 (by decide) ?_
          exact j_zret (0, q10.2) dX4_readIdea_58 rfl rfl (fun q => q)
        · refine j_aload_n 2 dX4_readIdea_59 rfl rfl ?_
          refine j_getI 4 8 7 dX4_readIdea_60 fl_RX4_73 (by decide) rfl (by decide) rfl (fun x12 => ?_)
          refine j_istore_n (L' := [(3, .int x12), (2, .int x9), (1, .int x6), (0, .ref v0)]) dX4_readIdea_63 rfl (Nat.le_of_ble_eq_true rfl) rfl ?_
          refine j_aload_n 3 dX4_readIdea_64 rfl rfl ?_
          refine j_iload_n 0 dX4_readIdea_65 rfl rfl ?_
          refine j_iconst (x := 1) dX4_readIdea_66 (by decide) ?_
          refine j_iadd dX4_readIdea_67 ?_
          refine j_bipush (x := 9) dX4_readIdea_68 (by decide) ?_
          refine j_callV (as := [.int (x12 + 1), .int 9]) (fun x => some (.int x.1)) (fun x => x.2) 4 8 dX4_readIdea_70 ml_RX4_69 tg_X4_readNumber im_X4_readNumber se_X4_readNumber rfl (by decide) (fun x hx => kX4_readNumber κ.1 κ.2.1 v0 (x12 + 1) 9 q10.2 x hx) (by decide) (by decide) rfl rfl (Nat.le_of_ble_eq_true rfl) (fun q13 => ?_)
          show xJ iX4_readIdea κ _ 73 [(3, .int x12), (2, .int x9), (1, .int x6), (0, .ref v0)] [.int q13.1] q13.2 _
          refine j_if_ne (tgt := 78) dX4_readIdea_73 (by decide) (fun c14 => ?_) (fun c14 => ?_)
          · refine j_iconst (x := 0) dX4_readIdea_76 (by decide) ?_
            exact j_zret (0, q13.2) dX4_readIdea_77 rfl rfl (fun q => q)
          · refine j_aload_n 3 dX4_readIdea_78 rfl rfl ?_
            refine j_getR 4 8 2 dX4_readIdea_79 fl_RX4_18 (by decide) rfl (by decide) (fun _ _ _ => rfl) (fun x15 => ?_)
            refine j_iload_n 2 dX4_readIdea_82 rfl rfl ?_
            refine j_iload_n 1 dX4_readIdea_83 rfl rfl ?_
            refine j_iload_n 0 dX4_readIdea_84 rfl rfl ?_
            refine j_aload_n 3 dX4_readIdea_85 rfl rfl ?_
            refine j_getI 4 8 7 dX4_readIdea_86 fl_RX4_73 (by decide) rfl (by decide) rfl (fun x16 => ?_)
            refine j_callV (as := [.int x6, .int x9, .int x12, .int x16]) (fun _ => none) (fun x => x) 0 16 dX4_readIdea_89 ml_RX4_92 tg_X0_addIdea im_X0_addIdea se_X0_addIdea rfl (by decide) (fun x hx => kX0_addIdea κ.1 κ.2.1 x15 x6 x9 x12 x16 q13.2 x hx) (by decide) (by decide) rfl rfl (Nat.le_of_ble_eq_true rfl) (fun h17 => ?_)
            show xJ iX4_readIdea κ _ 92 [(3, .int x12), (2, .int x9), (1, .int x6), (0, .ref v0)] [] h17 _
            refine j_aload_n 3 dX4_readIdea_92 rfl rfl ?_
            refine j_callV (as := []) (fun x => some (.int x.1)) (fun x => x.2) 4 8 dX4_readIdea_93 ml_RX4_79 tg_X4_readMark im_X4_readMark se_X4_readMark rfl (by decide) (fun x hx => kX4_readMark κ.1 κ.2.1 v0 h17 x hx) (by decide) (by decide) rfl rfl (Nat.le_of_ble_eq_true rfl) (fun q18 => ?_)
            show xJ iX4_readIdea κ _ 96 [(3, .int x12), (2, .int x9), (1, .int x6), (0, .ref v0)] [.int q18.1] q18.2 _
            exact j_zretc (q18.1, q18.2) dX4_readIdea_96 rfl (fun q => q)
  · refine j_iconst (x := 0) dX4_readIdea_12 (by decide) ?_
    exact j_zret (0, h) dX4_readIdea_13 rfl rfl (fun q => q)
def fX4_readQuarrel_j49  (h : Hp) : Option (Int32 × Hp) :=
  some (0, h)
def fX4_readQuarrel (v0 : Nat) (h : Hp) : Option (Int32 × Hp) :=
  (xgR h v0 (4, 8) 2).bind fun x1 => (xgI h x1 (0, 16) 2).bind fun x2 => (xat h v0 (4, 8) (fX4_readNumber v0 0 (x2 - 1) h)).bind fun q3 => if (q3.1 : Int32) = 0 then (some (0, q3.2)) else ((xgI q3.2 v0 (4, 8) 7).bind fun x5 => (xgR q3.2 v0 (4, 8) 2).bind fun x6 => (xgI q3.2 x6 (0, 16) 2).bind fun x7 => (xat q3.2 v0 (4, 8) (fX4_readNumber v0 0 (x7 - 1) q3.2)).bind fun q8 => if (q8.1 : Int32) = 0 then (fX4_readQuarrel_j49 q8.2) else ((xgI q8.2 v0 (4, 8) 7).bind fun x10 => if (x10 : Int32) = x5 then (fX4_readQuarrel_j49 q8.2) else ((xgR q8.2 v0 (4, 8) 2).bind fun x12 => (xgI q8.2 v0 (4, 8) 7).bind fun x13 => (xat q8.2 x12 (0, 16) (fX0_setQuarrel x12 x5 x13 1 q8.2)).bind fun h14 => (xat h14 v0 (4, 8) (fX4_readMark v0 h14)).bind fun q15 => if vp_nar .boolean q15.1 = q15.1 then some (q15.1, q15.2) else none)))
abbrev iX4_readQuarrel : xI := (cX4_readQuarrel, yX4_readQuarrel.cls, yX4_readQuarrel.name, some .boolean, 2, 7)
set_option maxHeartbeats 4000000 in
set_option maxRecDepth 100000 in
theorem kX4_readQuarrel (l : Launch) (η : xEnv) (v0 : Nat) (h : Hp) (x : Int32 × Hp) (hx : fX4_readQuarrel v0 h = some x) : xC l η yX4_readQuarrel cX4_readQuarrel 2 (some .boolean) 7 [.ref v0] h (some (.int x.1)) x.2 := by
  refine xC_of (by decide) (Nat.le_of_ble_eq_true rfl) hx (fun κ x => κ.2.2.2.1 = some (.int x.1) ∧ κ.2.2.2.2 = x.2) ⟨rfl, rfl⟩ (fun κ => ?_)
  show xJ iX4_readQuarrel κ _ 0 [(0, .ref v0)] [] h (fX4_readQuarrel v0 h)
  unfold fX4_readQuarrel
  refine j_have (pj := 49) (Lf := fun v : Hp => []) (Sf := fun v : Hp => []) (Hf := fun v : Hp => v) (jf := fun v : Hp => fX4_readQuarrel_j49 v) (fun v => ?_) (fun hj49 => ?_)
  · generalize v = h
    show xJ iX4_readQuarrel κ _ 49 [] [] h (fX4_readQuarrel_j49 h)
    unfold fX4_readQuarrel_j49
    refine j_iconst (x := 0) dX4_readQuarrel_49 (by decide) ?_
    exact j_zret (0, h) dX4_readQuarrel_50 rfl rfl (fun q => q)
  refine j_aload_n 0 dX4_readQuarrel_0 rfl rfl ?_
  refine j_iconst (x := 0) dX4_readQuarrel_1 (by decide) ?_
  refine j_aload_n 0 dX4_readQuarrel_2 rfl rfl ?_
  refine j_getR 4 8 2 dX4_readQuarrel_3 fl_RX4_18 (by decide) rfl (by decide) (fun _ _ _ => rfl) (fun x1 => ?_)
  refine j_getI 0 16 2 dX4_readQuarrel_6 fl_RX4_89 (by decide) rfl (by decide) rfl (fun x2 => ?_)
  refine j_iconst (x := 1) dX4_readQuarrel_9 (by decide) ?_
  refine j_isub dX4_readQuarrel_10 ?_
  refine j_callV (as := [.int 0, .int (x2 - 1)]) (fun x => some (.int x.1)) (fun x => x.2) 4 8 dX4_readQuarrel_11 ml_RX4_69 tg_X4_readNumber im_X4_readNumber se_X4_readNumber rfl (by decide) (fun x hx => kX4_readNumber κ.1 κ.2.1 v0 0 (x2 - 1) h x hx) (by decide) (by decide) rfl rfl (Nat.le_of_ble_eq_true rfl) (fun q3 => ?_)
  show xJ iX4_readQuarrel κ _ 14 [(0, .ref v0)] [.int q3.1] q3.2 _
  refine j_if_ne (tgt := 19) dX4_readQuarrel_14 (by decide) (fun c4 => ?_) (fun c4 => ?_)
  · refine j_iconst (x := 0) dX4_readQuarrel_17 (by decide) ?_
    exact j_zret (0, q3.2) dX4_readQuarrel_18 rfl rfl (fun q => q)
  · refine j_aload_n 0 dX4_readQuarrel_19 rfl rfl ?_
    refine j_getI 4 8 7 dX4_readQuarrel_20 fl_RX4_73 (by decide) rfl (by decide) rfl (fun x5 => ?_)
    refine j_istore_n (L' := [(1, .int x5), (0, .ref v0)]) dX4_readQuarrel_23 rfl (Nat.le_of_ble_eq_true rfl) rfl ?_
    refine j_aload_n 1 dX4_readQuarrel_24 rfl rfl ?_
    refine j_iconst (x := 0) dX4_readQuarrel_25 (by decide) ?_
    refine j_aload_n 1 dX4_readQuarrel_26 rfl rfl ?_
    refine j_getR 4 8 2 dX4_readQuarrel_27 fl_RX4_18 (by decide) rfl (by decide) (fun _ _ _ => rfl) (fun x6 => ?_)
    refine j_getI 0 16 2 dX4_readQuarrel_30 fl_RX4_89 (by decide) rfl (by decide) rfl (fun x7 => ?_)
    refine j_iconst (x := 1) dX4_readQuarrel_33 (by decide) ?_
    refine j_isub dX4_readQuarrel_34 ?_
    refine j_callV (as := [.int 0, .int (x7 - 1)]) (fun x => some (.int x.1)) (fun x => x.2) 4 8 dX4_readQuarrel_35 ml_RX4_69 tg_X4_readNumber im_X4_readNumber se_X4_readNumber rfl (by decide) (fun x hx => kX4_readNumber κ.1 κ.2.1 v0 0 (x7 - 1) q3.2 x hx) (by decide) (by decide) rfl rfl (Nat.le_of_ble_eq_true rfl) (fun q8 => ?_)
    show xJ iX4_readQuarrel κ _ 38 [(1, .int x5), (0, .ref v0)] [.int q8.1] q8.2 _
    refine j_if_eq (tgt := 49) dX4_readQuarrel_38 (by decide) (fun c9 => ?_) (fun c9 => ?_)
    · refine j_pick [] rfl ?_
      exact hj49 q8.2
    · refine j_aload_n 1 dX4_readQuarrel_41 rfl rfl ?_
      refine j_getI 4 8 7 dX4_readQuarrel_42 fl_RX4_73 (by decide) rfl (by decide) rfl (fun x10 => ?_)
      refine j_iload_n 0 dX4_readQuarrel_45 rfl rfl ?_
      refine j_icmp_ne (tgt := 51) dX4_readQuarrel_46 (by decide) (fun c11 => ?_) (fun c11 => ?_)
      · refine j_pick [] rfl ?_
        exact hj49 q8.2
      · refine j_aload_n 1 dX4_readQuarrel_51 rfl rfl ?_
        refine j_getR 4 8 2 dX4_readQuarrel_52 fl_RX4_18 (by decide) rfl (by decide) (fun _ _ _ => rfl) (fun x12 => ?_)
        refine j_iload_n 0 dX4_readQuarrel_55 rfl rfl ?_
        refine j_aload_n 1 dX4_readQuarrel_56 rfl rfl ?_
        refine j_getI 4 8 7 dX4_readQuarrel_57 fl_RX4_73 (by decide) rfl (by decide) rfl (fun x13 => ?_)
        refine j_iconst (x := 1) dX4_readQuarrel_60 (by decide) ?_
        refine j_callV (as := [.int x5, .int x13, .int 1]) (fun _ => none) (fun x => x) 0 16 dX4_readQuarrel_61 ml_RX4_96 tg_X0_setQuarrel im_X0_setQuarrel se_X0_setQuarrel rfl (by decide) (fun x hx => kX0_setQuarrel κ.1 κ.2.1 x12 x5 x13 1 q8.2 x hx) (by decide) (by decide) rfl rfl (Nat.le_of_ble_eq_true rfl) (fun h14 => ?_)
        show xJ iX4_readQuarrel κ _ 64 [(1, .int x5), (0, .ref v0)] [] h14 _
        refine j_aload_n 1 dX4_readQuarrel_64 rfl rfl ?_
        refine j_callV (as := []) (fun x => some (.int x.1)) (fun x => x.2) 4 8 dX4_readQuarrel_65 ml_RX4_79 tg_X4_readMark im_X4_readMark se_X4_readMark rfl (by decide) (fun x hx => kX4_readMark κ.1 κ.2.1 v0 h14 x hx) (by decide) (by decide) rfl rfl (Nat.le_of_ble_eq_true rfl) (fun q15 => ?_)
        show xJ iX4_readQuarrel κ _ 68 [(1, .int x5), (0, .ref v0)] [.int q15.1] q15.2 _
        exact j_zretc (q15.1, q15.2) dX4_readQuarrel_68 rfl (fun q => q)
def fX4_readItem (v0 : Nat) (h : Hp) : Option (Int32 × Hp) :=
  (xat h v0 (4, 8) (fX4_isWord v0 1 h)).bind fun x1 => if (x1 : Int32) = 0 then ((xat h v0 (4, 8) (fX4_isWord v0 2 h)).bind fun x3 => if (x3 : Int32) = 0 then ((xat h v0 (4, 8) (fX4_isWord v0 3 h)).bind fun x5 => if (x5 : Int32) = 0 then (some (0, h)) else ((xat h v0 (4, 8) (fX4_readQuarrel v0 h)).bind fun q7 => if vp_nar .boolean q7.1 = q7.1 then some (q7.1, q7.2) else none)) else ((xat h v0 (4, 8) (fX4_readIdea v0 h)).bind fun q8 => if vp_nar .boolean q8.1 = q8.1 then some (q8.1, q8.2) else none)) else ((xat h v0 (4, 8) (fX4_readBridge v0 h)).bind fun q9 => if vp_nar .boolean q9.1 = q9.1 then some (q9.1, q9.2) else none)
abbrev iX4_readItem : xI := (cX4_readItem, yX4_readItem.cls, yX4_readItem.name, some .boolean, 1, 11)
set_option maxHeartbeats 4000000 in
set_option maxRecDepth 100000 in
theorem kX4_readItem (l : Launch) (η : xEnv) (v0 : Nat) (h : Hp) (x : Int32 × Hp) (hx : fX4_readItem v0 h = some x) : xC l η yX4_readItem cX4_readItem 1 (some .boolean) 11 [.ref v0] h (some (.int x.1)) x.2 := by
  refine xC_of (by decide) (Nat.le_of_ble_eq_true rfl) hx (fun κ x => κ.2.2.2.1 = some (.int x.1) ∧ κ.2.2.2.2 = x.2) ⟨rfl, rfl⟩ (fun κ => ?_)
  show xJ iX4_readItem κ _ 0 [(0, .ref v0)] [] h (fX4_readItem v0 h)
  unfold fX4_readItem
  refine j_aload_n 0 dX4_readItem_0 rfl rfl ?_
  refine j_lds 1 dX4_readItem_1 (fun U hU => ⟨_, hU.2.2.2.1.2.1⟩) ?_
  refine j_callV (as := [.float 1]) (fun x => some (.int x)) (fun _ => h) 4 8 dX4_readItem_3 ml_RX4_37 tg_X4_isWord im_X4_isWord se_X4_isWord rfl (by decide) (fun x hx => kX4_isWord κ.1 κ.2.1 v0 1 h x hx) (by decide) (by decide) rfl rfl (Nat.le_of_ble_eq_true rfl) (fun x1 => ?_)
  show xJ iX4_readItem κ _ 6 [(0, .ref v0)] [.int x1] h _
  refine j_if_eq (tgt := 14) dX4_readItem_6 (by decide) (fun c2 => ?_) (fun c2 => ?_)
  · refine j_aload_n 0 dX4_readItem_14 rfl rfl ?_
    refine j_lds 2 dX4_readItem_15 (fun U hU => ⟨_, hU.2.2.2.1.2.2.1⟩) ?_
    refine j_callV (as := [.float 2]) (fun x => some (.int x)) (fun _ => h) 4 8 dX4_readItem_17 ml_RX4_37 tg_X4_isWord im_X4_isWord se_X4_isWord rfl (by decide) (fun x hx => kX4_isWord κ.1 κ.2.1 v0 2 h x hx) (by decide) (by decide) rfl rfl (Nat.le_of_ble_eq_true rfl) (fun x3 => ?_)
    show xJ iX4_readItem κ _ 20 [(0, .ref v0)] [.int x3] h _
    refine j_if_eq (tgt := 28) dX4_readItem_20 (by decide) (fun c4 => ?_) (fun c4 => ?_)
    · refine j_aload_n 0 dX4_readItem_28 rfl rfl ?_
      refine j_lds 3 dX4_readItem_29 (fun U hU => ⟨_, hU.2.2.2.1.2.2.2⟩) ?_
      refine j_callV (as := [.float 3]) (fun x => some (.int x)) (fun _ => h) 4 8 dX4_readItem_31 ml_RX4_37 tg_X4_isWord im_X4_isWord se_X4_isWord rfl (by decide) (fun x hx => kX4_isWord κ.1 κ.2.1 v0 3 h x hx) (by decide) (by decide) rfl rfl (Nat.le_of_ble_eq_true rfl) (fun x5 => ?_)
      show xJ iX4_readItem κ _ 34 [(0, .ref v0)] [.int x5] h _
      refine j_if_eq (tgt := 42) dX4_readItem_34 (by decide) (fun c6 => ?_) (fun c6 => ?_)
      · refine j_iconst (x := 0) dX4_readItem_42 (by decide) ?_
        exact j_zret (0, h) dX4_readItem_43 rfl rfl (fun q => q)
      · refine j_aload_n 0 dX4_readItem_37 rfl rfl ?_
        refine j_callV (as := []) (fun x => some (.int x.1)) (fun x => x.2) 4 8 dX4_readItem_38 ml_RX4_66 tg_X4_readQuarrel im_X4_readQuarrel se_X4_readQuarrel rfl (by decide) (fun x hx => kX4_readQuarrel κ.1 κ.2.1 v0 h x hx) (by decide) (by decide) rfl rfl (Nat.le_of_ble_eq_true rfl) (fun q7 => ?_)
        show xJ iX4_readItem κ _ 41 [(0, .ref v0)] [.int q7.1] q7.2 _
        exact j_zretc (q7.1, q7.2) dX4_readItem_41 rfl (fun q => q)
    · refine j_aload_n 0 dX4_readItem_23 rfl rfl ?_
      refine j_callV (as := []) (fun x => some (.int x.1)) (fun x => x.2) 4 8 dX4_readItem_24 ml_RX4_61 tg_X4_readIdea im_X4_readIdea se_X4_readIdea rfl (by decide) (fun x hx => kX4_readIdea κ.1 κ.2.1 v0 h x hx) (by decide) (by decide) rfl rfl (Nat.le_of_ble_eq_true rfl) (fun q8 => ?_)
      show xJ iX4_readItem κ _ 27 [(0, .ref v0)] [.int q8.1] q8.2 _
      exact j_zretc (q8.1, q8.2) dX4_readItem_27 rfl (fun q => q)
  · refine j_aload_n 0 dX4_readItem_9 rfl rfl ?_
    refine j_callV (as := []) (fun x => some (.int x.1)) (fun x => x.2) 4 8 dX4_readItem_10 ml_RX4_56 tg_X4_readBridge im_X4_readBridge se_X4_readBridge rfl (by decide) (fun x hx => kX4_readBridge κ.1 κ.2.1 v0 h x hx) (by decide) (by decide) rfl rfl (Nat.le_of_ble_eq_true rfl) (fun q9 => ?_)
    show xJ iX4_readItem κ _ 13 [(0, .ref v0)] [.int q9.1] q9.2 _
    exact j_zretc (q9.1, q9.2) dX4_readItem_13 rfl (fun q => q)
def fX4_readBus_j32  (h : Hp) : Option (Int32 × Hp) :=
  some (0, h)
def fX4_readBus_b41 (v0 : Nat) (s41 : Int32 × Hp) : Option ((Int32 × Hp) ⊕ ((Hp) ⊕ (Hp) ⊕ (Hp))) :=
  if (150 : Int32) ≤ s41.1 then (some (Sum.inr (Sum.inr (Sum.inr s41.2)))) else ((xat s41.2 v0 (4, 8) (fX4_step v0 s41.2)).bind fun h11 => (xgI h11 v0 (4, 8) 6).bind fun x12 => if (x12 : Int32) = 0 then (some (Sum.inr (Sum.inl h11))) else ((xat h11 v0 (4, 8) (fX4_readItem v0 h11)).bind fun q14 => if (q14.1 : Int32) = 0 then (some (Sum.inr (Sum.inr (Sum.inl q14.2)))) else ((xgI q14.2 v0 (4, 8) 3).bind fun x16 => (xpI q14.2 v0 (4, 8) 3 (x16 + 1)).bind fun h17 => some (Sum.inl (s41.1 + 1, h17)))))
def fX4_readBus (v0 : Nat) (h : Hp) : Option (Int32 × Hp) :=
  (xgR h v0 (4, 8) 2).bind fun x1 => (xat h x1 (0, 16) (fX0_startAnew x1 h)).bind fun h2 => (xpI h2 v0 (4, 8) 5 0).bind fun h3 => (xat h3 v0 (4, 8) (fX4_step v0 h3)).bind fun h4 => (xat h4 v0 (4, 8) (fX4_isWord v0 0 h4)).bind fun x5 => if (x5 : Int32) = 0 then (fX4_readBus_j32 h4) else ((xat h4 v0 (4, 8) (fX4_readRoom v0 h4)).bind fun q7 => if (q7.1 : Int32) = 0 then (fX4_readBus_j32 q7.2) else ((xpI q7.2 v0 (4, 8) 3 1).bind fun h9 => (xloop (fX4_readBus_b41 v0) 1000000 (0, h9)).bind (fun q => match q with | .inl r41 => (some (1, r41)) | .inr (.inl r41) => (some (0, r41)) | .inr (.inr r41) => (some (1, r41)))))
abbrev iX4_readBus : xI := (cX4_readBus, yX4_readBus.cls, yX4_readBus.name, some .boolean, 2, 12)
set_option maxHeartbeats 4000000 in
set_option maxRecDepth 100000 in
theorem kX4_readBus (l : Launch) (η : xEnv) (v0 : Nat) (h : Hp) (x : Int32 × Hp) (hx : fX4_readBus v0 h = some x) : xC l η yX4_readBus cX4_readBus 2 (some .boolean) 12 [.ref v0] h (some (.int x.1)) x.2 := by
  refine xC_of (by decide) (Nat.le_of_ble_eq_true rfl) hx (fun κ x => κ.2.2.2.1 = some (.int x.1) ∧ κ.2.2.2.2 = x.2) ⟨rfl, rfl⟩ (fun κ => ?_)
  show xJ iX4_readBus κ _ 0 [(0, .ref v0)] [] h (fX4_readBus v0 h)
  unfold fX4_readBus
  refine j_have (pj := 32) (Lf := fun v : Hp => []) (Sf := fun v : Hp => []) (Hf := fun v : Hp => v) (jf := fun v : Hp => fX4_readBus_j32 v) (fun v => ?_) (fun hj32 => ?_)
  · generalize v = h
    show xJ iX4_readBus κ _ 32 [] [] h (fX4_readBus_j32 h)
    unfold fX4_readBus_j32
    refine j_iconst (x := 0) dX4_readBus_32 (by decide) ?_
    exact j_zret (0, h) dX4_readBus_33 rfl rfl (fun q => q)
  refine j_aload_n 0 dX4_readBus_0 rfl rfl ?_
  refine j_getR 4 8 2 dX4_readBus_1 fl_RX4_18 (by decide) rfl (by decide) (fun _ _ _ => rfl) (fun x1 => ?_)
  refine j_callV (as := []) (fun _ => none) (fun x => x) 0 16 dX4_readBus_4 ml_RX4_26 tg_X0_startAnew im_X0_startAnew se_X0_startAnew rfl (by decide) (fun x hx => kX0_startAnew κ.1 κ.2.1 x1 h x hx) (by decide) (by decide) rfl rfl (Nat.le_of_ble_eq_true rfl) (fun h2 => ?_)
  show xJ iX4_readBus κ _ 7 [(0, .ref v0)] [] h2 _
  refine j_aload_n 0 dX4_readBus_7 rfl rfl ?_
  refine j_iconst (x := 0) dX4_readBus_8 (by decide) ?_
  refine j_putI 4 8 5 dX4_readBus_9 fl_RX4_29 (by decide) rfl (by decide) rfl rfl (fun h3 => ?_)
  refine j_aload_n 0 dX4_readBus_12 rfl rfl ?_
  refine j_callV (as := []) (fun _ => none) (fun x => x) 4 8 dX4_readBus_13 ml_RX4_32 tg_X4_step im_X4_step se_X4_step rfl (by decide) (fun x hx => kX4_step κ.1 κ.2.1 v0 h3 x hx) (by decide) (by decide) rfl rfl (Nat.le_of_ble_eq_true rfl) (fun h4 => ?_)
  show xJ iX4_readBus κ _ 16 [(0, .ref v0)] [] h4 _
  refine j_aload_n 0 dX4_readBus_16 rfl rfl ?_
  refine j_lds 0 dX4_readBus_17 (fun U hU => ⟨_, hU.2.2.2.1.1⟩) ?_
  refine j_callV (as := [.float 0]) (fun x => some (.int x)) (fun _ => h4) 4 8 dX4_readBus_19 ml_RX4_37 tg_X4_isWord im_X4_isWord se_X4_isWord rfl (by decide) (fun x hx => kX4_isWord κ.1 κ.2.1 v0 0 h4 x hx) (by decide) (by decide) rfl rfl (Nat.le_of_ble_eq_true rfl) (fun x5 => ?_)
  show xJ iX4_readBus κ _ 22 [(0, .ref v0)] [.int x5] h4 _
  refine j_if_eq (tgt := 32) dX4_readBus_22 (by decide) (fun c6 => ?_) (fun c6 => ?_)
  · refine j_pick [] rfl ?_
    exact hj32 h4
  · refine j_aload_n 0 dX4_readBus_25 rfl rfl ?_
    refine j_callV (as := []) (fun x => some (.int x.1)) (fun x => x.2) 4 8 dX4_readBus_26 ml_RX4_41 tg_X4_readRoom im_X4_readRoom se_X4_readRoom rfl (by decide) (fun x hx => kX4_readRoom κ.1 κ.2.1 v0 h4 x hx) (by decide) (by decide) rfl rfl (Nat.le_of_ble_eq_true rfl) (fun q7 => ?_)
    show xJ iX4_readBus κ _ 29 [(0, .ref v0)] [.int q7.1] q7.2 _
    refine j_if_ne (tgt := 34) dX4_readBus_29 (by decide) (fun c8 => ?_) (fun c8 => ?_)
    · refine j_pick [] rfl ?_
      exact hj32 q7.2
    · refine j_aload_n 0 dX4_readBus_34 rfl rfl ?_
      refine j_iconst (x := 1) dX4_readBus_35 (by decide) ?_
      refine j_putI 4 8 3 dX4_readBus_36 fl_RX4_45 (by decide) rfl (by decide) rfl rfl (fun h9 => ?_)
      refine j_iconst (x := 0) dX4_readBus_39 (by decide) ?_
      refine j_istore_n (L' := [(1, .int 0), (0, .ref v0)]) dX4_readBus_40 rfl (Nat.le_of_ble_eq_true rfl) rfl ?_
      refine j_pick [1, 0] rfl ?_
      refine j_loop (pc := 41) (Lf := fun s41 : Int32 × Hp => [(0, .ref v0), (1, .int s41.1)]) (Hf := fun s41 : Int32 × Hp => s41.2) (fun s41 => ?_) 1000000 (0, h9)
      show xJ iX4_readBus κ _ 41 [(0, .ref v0), (1, .int s41.1)] [] s41.2 (fX4_readBus_b41 v0 s41)
      unfold fX4_readBus_b41
      refine j_iload_n 1 dX4_readBus_41 rfl rfl ?_
      refine j_sipush (x := 150) dX4_readBus_42 (by decide) ?_
      refine j_icmp_ge (tgt := 86) dX4_readBus_45 (by decide) (fun c10 => ?_) (fun c10 => ?_)
      · refine j_exit (Sum.inr (Sum.inr s41.2)) ?_
        try dsimp only
        refine j_iconst (x := 1) dX4_readBus_86 (by decide) ?_
        exact j_zret (1, s41.2) dX4_readBus_87 rfl rfl (fun q => q)
      · refine j_aload_n 0 dX4_readBus_48 rfl rfl ?_
        refine j_callV (as := []) (fun _ => none) (fun x => x) 4 8 dX4_readBus_49 ml_RX4_32 tg_X4_step im_X4_step se_X4_step rfl (by decide) (fun x hx => kX4_step κ.1 κ.2.1 v0 s41.2 x hx) (by decide) (by decide) rfl rfl (Nat.le_of_ble_eq_true rfl) (fun h11 => ?_)
        show xJ iX4_readBus κ _ 52 [(0, .ref v0), (1, .int s41.1)] [] h11 _
        refine j_aload_n 0 dX4_readBus_52 rfl rfl ?_
        refine j_getI 4 8 6 dX4_readBus_53 fl_RX4_48 (by decide) rfl (by decide) rfl (fun x12 => ?_)
        refine j_if_ne (tgt := 61) dX4_readBus_56 (by decide) (fun c13 => ?_) (fun c13 => ?_)
        · refine j_exit (Sum.inl h11) ?_
          try dsimp only
          refine j_iconst (x := 1) dX4_readBus_59 (by decide) ?_
          exact j_zret (1, h11) dX4_readBus_60 rfl rfl (fun q => q)
        · refine j_aload_n 0 dX4_readBus_61 rfl rfl ?_
          refine j_callV (as := []) (fun x => some (.int x.1)) (fun x => x.2) 4 8 dX4_readBus_62 ml_RX4_51 tg_X4_readItem im_X4_readItem se_X4_readItem rfl (by decide) (fun x hx => kX4_readItem κ.1 κ.2.1 v0 h11 x hx) (by decide) (by decide) rfl rfl (Nat.le_of_ble_eq_true rfl) (fun q14 => ?_)
          show xJ iX4_readBus κ _ 65 [(0, .ref v0), (1, .int s41.1)] [.int q14.1] q14.2 _
          refine j_if_ne (tgt := 70) dX4_readBus_65 (by decide) (fun c15 => ?_) (fun c15 => ?_)
          · refine j_exit (Sum.inr (Sum.inl q14.2)) ?_
            try dsimp only
            refine j_iconst (x := 0) dX4_readBus_68 (by decide) ?_
            exact j_zret (0, q14.2) dX4_readBus_69 rfl rfl (fun q => q)
          · refine j_aload_n 0 dX4_readBus_70 rfl rfl ?_
            refine j_dup dX4_readBus_71 rfl ?_
            refine j_getI 4 8 3 dX4_readBus_72 fl_RX4_45 (by decide) rfl (by decide) rfl (fun x16 => ?_)
            refine j_iconst (x := 1) dX4_readBus_75 (by decide) ?_
            refine j_iadd dX4_readBus_76 ?_
            refine j_putI 4 8 3 dX4_readBus_77 fl_RX4_45 (by decide) rfl (by decide) rfl rfl (fun h17 => ?_)
            refine j_iinc (y := s41.1 + 1) (L' := [(1, .int (s41.1 + 1)), (0, .ref v0)]) 1 dX4_readBus_80 rfl rfl (Nat.le_of_ble_eq_true rfl) rfl ?_
            refine j_goto (tgt := 41) dX4_readBus_83 (by decide) ?_
            refine j_pick [1, 0] rfl ?_
            exact j_again (s41.1 + 1, h17) rfl rfl
def fX5_take (v0 : Nat) (v1 : Nat) (h : Hp) : Option (Hp) :=
  (xgI h v1 (5, 5) 0).bind fun x1 => (xpI h v0 (5, 5) 0 x1).bind fun h2 => (xgI h2 v1 (5, 5) 1).bind fun x3 => (xpI h2 v0 (5, 5) 1 x3).bind fun h4 => (xgI h4 v1 (5, 5) 2).bind fun x5 => (xpI h4 v0 (5, 5) 2 x5).bind fun h6 => (xgI h6 v1 (5, 5) 3).bind fun x7 => (xpI h6 v0 (5, 5) 3 x7).bind fun h8 => (xgI h8 v1 (5, 5) 4).bind fun x9 => (xpI h8 v0 (5, 5) 4 x9).bind fun h10 => some h10
abbrev iX5_take : xI := (cX5_take, yX5_take.cls, yX5_take.name, none, 2, 2)
set_option maxHeartbeats 4000000 in
set_option maxRecDepth 100000 in
theorem kX5_take (l : Launch) (η : xEnv) (v0 : Nat) (v1 : Nat) (h : Hp) (x : Hp) (hx : fX5_take v0 v1 h = some x) : xC l η yX5_take cX5_take 2 none 2 [.ref v0, .ref v1] h none x := by
  refine xC_of (by decide) (Nat.le_of_ble_eq_true rfl) hx (fun κ x => κ.2.2.2.1 = none ∧ κ.2.2.2.2 = x) ⟨rfl, rfl⟩ (fun κ => ?_)
  show xJ iX5_take κ _ 0 [(0, .ref v0), (1, .ref v1)] [] h (fX5_take v0 v1 h)
  unfold fX5_take
  refine j_aload_n 0 dX5_take_0 rfl rfl ?_
  refine j_aload_n 1 dX5_take_1 rfl rfl ?_
  refine j_getI 5 5 0 dX5_take_2 fl_RX5_7 (by decide) rfl (by decide) rfl (fun x1 => ?_)
  refine j_putI 5 5 0 dX5_take_5 fl_RX5_7 (by decide) rfl (by decide) rfl rfl (fun h2 => ?_)
  refine j_aload_n 0 dX5_take_8 rfl rfl ?_
  refine j_aload_n 1 dX5_take_9 rfl rfl ?_
  refine j_getI 5 5 1 dX5_take_10 fl_RX5_13 (by decide) rfl (by decide) rfl (fun x3 => ?_)
  refine j_putI 5 5 1 dX5_take_13 fl_RX5_13 (by decide) rfl (by decide) rfl rfl (fun h4 => ?_)
  refine j_aload_n 0 dX5_take_16 rfl rfl ?_
  refine j_aload_n 1 dX5_take_17 rfl rfl ?_
  refine j_getI 5 5 2 dX5_take_18 fl_RX5_16 (by decide) rfl (by decide) rfl (fun x5 => ?_)
  refine j_putI 5 5 2 dX5_take_21 fl_RX5_16 (by decide) rfl (by decide) rfl rfl (fun h6 => ?_)
  refine j_aload_n 0 dX5_take_24 rfl rfl ?_
  refine j_aload_n 1 dX5_take_25 rfl rfl ?_
  refine j_getI 5 5 3 dX5_take_26 fl_RX5_19 (by decide) rfl (by decide) rfl (fun x7 => ?_)
  refine j_putI 5 5 3 dX5_take_29 fl_RX5_19 (by decide) rfl (by decide) rfl rfl (fun h8 => ?_)
  refine j_aload_n 0 dX5_take_32 rfl rfl ?_
  refine j_aload_n 1 dX5_take_33 rfl rfl ?_
  refine j_getI 5 5 4 dX5_take_34 fl_RX5_22 (by decide) rfl (by decide) rfl (fun x9 => ?_)
  refine j_putI 5 5 4 dX5_take_37 fl_RX5_22 (by decide) rfl (by decide) rfl rfl (fun h10 => ?_)
  exact j_vret h10 dX5_take_40 rfl (fun q => q)
def fX0_take_b195 (v0 : Nat) (v1 : Nat) (s195 : Int32 × Hp) : Option ((Int32 × Hp) ⊕ ((Hp))) :=
  if (8 : Int32) ≤ s195.1 then (some (Sum.inr s195.2)) else ((xgR s195.2 v0 (0, 16) 14).bind fun x43 => (xaR s195.2 x43 13 s195.1).bind fun x44 => (xgR s195.2 v1 (0, 16) 14).bind fun x45 => (xaR s195.2 x45 13 s195.1).bind fun x46 => (xat s195.2 x44 (5, 5) (fX5_take x44 x46 s195.2)).bind fun h47 => some (Sum.inl (s195.1 + 1, h47)))
def fX0_take (v0 : Nat) (v1 : Nat) (h : Hp) : Option (Hp) :=
  (xgI h v1 (0, 16) 0).bind fun x1 => (xpI h v0 (0, 16) 0 x1).bind fun h2 => (xgR h2 v1 (0, 16) 1).bind fun x3 => (xgR h2 v0 (0, 16) 1).bind fun x4 => (xcp h2 x3 0 x4 0 10).bind fun h5 => (xgI h5 v1 (0, 16) 2).bind fun x6 => (xpI h5 v0 (0, 16) 2 x6).bind fun h7 => (xgR h7 v1 (0, 16) 3).bind fun x8 => (xgR h7 v0 (0, 16) 3).bind fun x9 => (xcp h7 x8 0 x9 0 7).bind fun h10 => (xgR h10 v1 (0, 16) 4).bind fun x11 => (xgR h10 v0 (0, 16) 4).bind fun x12 => (xcp h10 x11 0 x12 0 7).bind fun h13 => (xgR h13 v1 (0, 16) 5).bind fun x14 => (xgR h13 v0 (0, 16) 5).bind fun x15 => (xcp h13 x14 0 x15 0 7).bind fun h16 => (xgR h16 v1 (0, 16) 6).bind fun x17 => (xgR h16 v0 (0, 16) 6).bind fun x18 => (xcp h16 x17 0 x18 0 7).bind fun h19 => (xgR h19 v1 (0, 16) 7).bind fun x20 => (xgR h19 v0 (0, 16) 7).bind fun x21 => (xcp h19 x20 0 x21 0 7).bind fun h22 => (xgI h22 v1 (0, 16) 8).bind fun x23 => (xpI h22 v0 (0, 16) 8 x23).bind fun h24 => (xgR h24 v1 (0, 16) 9).bind fun x25 => (xgR h24 v0 (0, 16) 9).bind fun x26 => (xcp h24 x25 0 x26 0 6).bind fun h27 => (xgR h27 v1 (0, 16) 10).bind fun x28 => (xgR h27 v0 (0, 16) 10).bind fun x29 => (xcp h27 x28 0 x29 0 6).bind fun h30 => (xgR h30 v1 (0, 16) 11).bind fun x31 => (xgR h30 v0 (0, 16) 11).bind fun x32 => (xcp h30 x31 0 x32 0 6).bind fun h33 => (xgR h33 v1 (0, 16) 12).bind fun x34 => (xgR h33 v0 (0, 16) 12).bind fun x35 => (xcp h33 x34 0 x35 0 6).bind fun h36 => (xgR h36 v0 (0, 16) 13).bind fun x37 => (xgR h36 v1 (0, 16) 13).bind fun x38 => (xat h36 x37 (5, 5) (fX5_take x37 x38 h36)).bind fun h39 => (xgI h39 v1 (0, 16) 15).bind fun x40 => (xpI h39 v0 (0, 16) 15 x40).bind fun h41 => (xloop (fX0_take_b195 v0 v1) 1000000 (0, h41)).bind (fun r195 => some r195)
abbrev iX0_take : xI := (cX0_take, yX0_take.cls, yX0_take.name, none, 3, 3)
set_option maxHeartbeats 4000000 in
set_option maxRecDepth 100000 in
theorem kX0_take (l : Launch) (η : xEnv) (v0 : Nat) (v1 : Nat) (h : Hp) (x : Hp) (hx : fX0_take v0 v1 h = some x) : xC l η yX0_take cX0_take 3 none 3 [.ref v0, .ref v1] h none x := by
  refine xC_of (by decide) (Nat.le_of_ble_eq_true rfl) hx (fun κ x => κ.2.2.2.1 = none ∧ κ.2.2.2.2 = x) ⟨rfl, rfl⟩ (fun κ => ?_)
  show xJ iX0_take κ _ 0 [(0, .ref v0), (1, .ref v1)] [] h (fX0_take v0 v1 h)
  unfold fX0_take
  refine j_aload_n 0 dX0_take_0 rfl rfl ?_
  refine j_aload_n 1 dX0_take_1 rfl rfl ?_
  refine j_getI 0 16 0 dX0_take_2 fl_RX0_9 (by decide) rfl (by decide) rfl (fun x1 => ?_)
  refine j_putI 0 16 0 dX0_take_5 fl_RX0_9 (by decide) rfl (by decide) rfl rfl (fun h2 => ?_)
  refine j_aload_n 1 dX0_take_8 rfl rfl ?_
  refine j_getR 0 16 1 dX0_take_9 fl_RX0_15 (by decide) rfl (by decide) (fun _ _ _ => rfl) (fun x3 => ?_)
  refine j_iconst (x := 0) dX0_take_12 (by decide) ?_
  refine j_aload_n 0 dX0_take_13 rfl rfl ?_
  refine j_getR 0 16 1 dX0_take_14 fl_RX0_15 (by decide) rfl (by decide) (fun _ _ _ => rfl) (fun x4 => ?_)
  refine j_iconst (x := 0) dX0_take_17 (by decide) ?_
  refine j_bipush (x := 10) dX0_take_18 (by decide) ?_
  refine j_copy dX0_take_20 ml_RX0_69 nt_copy st_copy in_System (Nat.le_of_ble_eq_true rfl) (by decide) (fun h5 => ?_)
  refine j_aload_n 0 dX0_take_23 rfl rfl ?_
  refine j_aload_n 1 dX0_take_24 rfl rfl ?_
  refine j_getI 0 16 2 dX0_take_25 fl_RX0_57 (by decide) rfl (by decide) rfl (fun x6 => ?_)
  refine j_putI 0 16 2 dX0_take_28 fl_RX0_57 (by decide) rfl (by decide) rfl rfl (fun h7 => ?_)
  refine j_aload_n 1 dX0_take_31 rfl rfl ?_
  refine j_getR 0 16 3 dX0_take_32 fl_RX0_19 (by decide) rfl (by decide) (fun _ _ _ => rfl) (fun x8 => ?_)
  refine j_iconst (x := 0) dX0_take_35 (by decide) ?_
  refine j_aload_n 0 dX0_take_36 rfl rfl ?_
  refine j_getR 0 16 3 dX0_take_37 fl_RX0_19 (by decide) rfl (by decide) (fun _ _ _ => rfl) (fun x9 => ?_)
  refine j_iconst (x := 0) dX0_take_40 (by decide) ?_
  refine j_bipush (x := 7) dX0_take_41 (by decide) ?_
  refine j_copy dX0_take_43 ml_RX0_69 nt_copy st_copy in_System (Nat.le_of_ble_eq_true rfl) (by decide) (fun h10 => ?_)
  refine j_aload_n 1 dX0_take_46 rfl rfl ?_
  refine j_getR 0 16 4 dX0_take_47 fl_RX0_22 (by decide) rfl (by decide) (fun _ _ _ => rfl) (fun x11 => ?_)
  refine j_iconst (x := 0) dX0_take_50 (by decide) ?_
  refine j_aload_n 0 dX0_take_51 rfl rfl ?_
  refine j_getR 0 16 4 dX0_take_52 fl_RX0_22 (by decide) rfl (by decide) (fun _ _ _ => rfl) (fun x12 => ?_)
  refine j_iconst (x := 0) dX0_take_55 (by decide) ?_
  refine j_bipush (x := 7) dX0_take_56 (by decide) ?_
  refine j_copy dX0_take_58 ml_RX0_69 nt_copy st_copy in_System (Nat.le_of_ble_eq_true rfl) (by decide) (fun h13 => ?_)
  refine j_aload_n 1 dX0_take_61 rfl rfl ?_
  refine j_getR 0 16 5 dX0_take_62 fl_RX0_25 (by decide) rfl (by decide) (fun _ _ _ => rfl) (fun x14 => ?_)
  refine j_iconst (x := 0) dX0_take_65 (by decide) ?_
  refine j_aload_n 0 dX0_take_66 rfl rfl ?_
  refine j_getR 0 16 5 dX0_take_67 fl_RX0_25 (by decide) rfl (by decide) (fun _ _ _ => rfl) (fun x15 => ?_)
  refine j_iconst (x := 0) dX0_take_70 (by decide) ?_
  refine j_bipush (x := 7) dX0_take_71 (by decide) ?_
  refine j_copy dX0_take_73 ml_RX0_69 nt_copy st_copy in_System (Nat.le_of_ble_eq_true rfl) (by decide) (fun h16 => ?_)
  refine j_aload_n 1 dX0_take_76 rfl rfl ?_
  refine j_getR 0 16 6 dX0_take_77 fl_RX0_28 (by decide) rfl (by decide) (fun _ _ _ => rfl) (fun x17 => ?_)
  refine j_iconst (x := 0) dX0_take_80 (by decide) ?_
  refine j_aload_n 0 dX0_take_81 rfl rfl ?_
  refine j_getR 0 16 6 dX0_take_82 fl_RX0_28 (by decide) rfl (by decide) (fun _ _ _ => rfl) (fun x18 => ?_)
  refine j_iconst (x := 0) dX0_take_85 (by decide) ?_
  refine j_bipush (x := 7) dX0_take_86 (by decide) ?_
  refine j_copy dX0_take_88 ml_RX0_69 nt_copy st_copy in_System (Nat.le_of_ble_eq_true rfl) (by decide) (fun h19 => ?_)
  refine j_aload_n 1 dX0_take_91 rfl rfl ?_
  refine j_getR 0 16 7 dX0_take_92 fl_RX0_31 (by decide) rfl (by decide) (fun _ _ _ => rfl) (fun x20 => ?_)
  refine j_iconst (x := 0) dX0_take_95 (by decide) ?_
  refine j_aload_n 0 dX0_take_96 rfl rfl ?_
  refine j_getR 0 16 7 dX0_take_97 fl_RX0_31 (by decide) rfl (by decide) (fun _ _ _ => rfl) (fun x21 => ?_)
  refine j_iconst (x := 0) dX0_take_100 (by decide) ?_
  refine j_bipush (x := 7) dX0_take_101 (by decide) ?_
  refine j_copy dX0_take_103 ml_RX0_69 nt_copy st_copy in_System (Nat.le_of_ble_eq_true rfl) (by decide) (fun h22 => ?_)
  refine j_aload_n 0 dX0_take_106 rfl rfl ?_
  refine j_aload_n 1 dX0_take_107 rfl rfl ?_
  refine j_getI 0 16 8 dX0_take_108 fl_RX0_60 (by decide) rfl (by decide) rfl (fun x23 => ?_)
  refine j_putI 0 16 8 dX0_take_111 fl_RX0_60 (by decide) rfl (by decide) rfl rfl (fun h24 => ?_)
  refine j_aload_n 1 dX0_take_114 rfl rfl ?_
  refine j_getR 0 16 9 dX0_take_115 fl_RX0_34 (by decide) rfl (by decide) (fun _ _ _ => rfl) (fun x25 => ?_)
  refine j_iconst (x := 0) dX0_take_118 (by decide) ?_
  refine j_aload_n 0 dX0_take_119 rfl rfl ?_
  refine j_getR 0 16 9 dX0_take_120 fl_RX0_34 (by decide) rfl (by decide) (fun _ _ _ => rfl) (fun x26 => ?_)
  refine j_iconst (x := 0) dX0_take_123 (by decide) ?_
  refine j_bipush (x := 6) dX0_take_124 (by decide) ?_
  refine j_copy dX0_take_126 ml_RX0_69 nt_copy st_copy in_System (Nat.le_of_ble_eq_true rfl) (by decide) (fun h27 => ?_)
  refine j_aload_n 1 dX0_take_129 rfl rfl ?_
  refine j_getR 0 16 10 dX0_take_130 fl_RX0_37 (by decide) rfl (by decide) (fun _ _ _ => rfl) (fun x28 => ?_)
  refine j_iconst (x := 0) dX0_take_133 (by decide) ?_
  refine j_aload_n 0 dX0_take_134 rfl rfl ?_
  refine j_getR 0 16 10 dX0_take_135 fl_RX0_37 (by decide) rfl (by decide) (fun _ _ _ => rfl) (fun x29 => ?_)
  refine j_iconst (x := 0) dX0_take_138 (by decide) ?_
  refine j_bipush (x := 6) dX0_take_139 (by decide) ?_
  refine j_copy dX0_take_141 ml_RX0_69 nt_copy st_copy in_System (Nat.le_of_ble_eq_true rfl) (by decide) (fun h30 => ?_)
  refine j_aload_n 1 dX0_take_144 rfl rfl ?_
  refine j_getR 0 16 11 dX0_take_145 fl_RX0_40 (by decide) rfl (by decide) (fun _ _ _ => rfl) (fun x31 => ?_)
  refine j_iconst (x := 0) dX0_take_148 (by decide) ?_
  refine j_aload_n 0 dX0_take_149 rfl rfl ?_
  refine j_getR 0 16 11 dX0_take_150 fl_RX0_40 (by decide) rfl (by decide) (fun _ _ _ => rfl) (fun x32 => ?_)
  refine j_iconst (x := 0) dX0_take_153 (by decide) ?_
  refine j_bipush (x := 6) dX0_take_154 (by decide) ?_
  refine j_copy dX0_take_156 ml_RX0_69 nt_copy st_copy in_System (Nat.le_of_ble_eq_true rfl) (by decide) (fun h33 => ?_)
  refine j_aload_n 1 dX0_take_159 rfl rfl ?_
  refine j_getR 0 16 12 dX0_take_160 fl_RX0_43 (by decide) rfl (by decide) (fun _ _ _ => rfl) (fun x34 => ?_)
  refine j_iconst (x := 0) dX0_take_163 (by decide) ?_
  refine j_aload_n 0 dX0_take_164 rfl rfl ?_
  refine j_getR 0 16 12 dX0_take_165 fl_RX0_43 (by decide) rfl (by decide) (fun _ _ _ => rfl) (fun x35 => ?_)
  refine j_iconst (x := 0) dX0_take_168 (by decide) ?_
  refine j_bipush (x := 6) dX0_take_169 (by decide) ?_
  refine j_copy dX0_take_171 ml_RX0_69 nt_copy st_copy in_System (Nat.le_of_ble_eq_true rfl) (by decide) (fun h36 => ?_)
  refine j_aload_n 0 dX0_take_174 rfl rfl ?_
  refine j_getR 0 16 13 dX0_take_175 fl_RX0_49 (by decide) rfl (by decide) (fun _ _ _ => rfl) (fun x37 => ?_)
  refine j_aload_n 1 dX0_take_178 rfl rfl ?_
  refine j_getR 0 16 13 dX0_take_179 fl_RX0_49 (by decide) rfl (by decide) (fun _ _ _ => rfl) (fun x38 => ?_)
  refine j_callV (as := [.ref x38]) (fun _ => none) (fun x => x) 5 5 dX0_take_182 ml_RX0_75 tg_X5_take im_X5_take se_X5_take rfl (by decide) (fun x hx => kX5_take κ.1 κ.2.1 x37 x38 h36 x hx) (by decide) (by decide) rfl rfl (Nat.le_of_ble_eq_true rfl) (fun h39 => ?_)
  show xJ iX0_take κ _ 185 [(0, .ref v0), (1, .ref v1)] [] h39 _
  refine j_aload_n 0 dX0_take_185 rfl rfl ?_
  refine j_aload_n 1 dX0_take_186 rfl rfl ?_
  refine j_getI 0 16 15 dX0_take_187 fl_RX0_66 (by decide) rfl (by decide) rfl (fun x40 => ?_)
  refine j_putI 0 16 15 dX0_take_190 fl_RX0_66 (by decide) rfl (by decide) rfl rfl (fun h41 => ?_)
  refine j_iconst (x := 0) dX0_take_193 (by decide) ?_
  refine j_istore_n (L' := [(2, .int 0), (0, .ref v0), (1, .ref v1)]) dX0_take_194 rfl (Nat.le_of_ble_eq_true rfl) rfl ?_
  refine j_pick [1, 2, 0] rfl ?_
  refine j_loop (pc := 195) (Lf := fun s195 : Int32 × Hp => [(0, .ref v0), (1, .ref v1), (2, .int s195.1)]) (Hf := fun s195 : Int32 × Hp => s195.2) (fun s195 => ?_) 1000000 (0, h41)
  show xJ iX0_take κ _ 195 [(0, .ref v0), (1, .ref v1), (2, .int s195.1)] [] s195.2 (fX0_take_b195 v0 v1 s195)
  unfold fX0_take_b195
  refine j_iload_n 2 dX0_take_195 rfl rfl ?_
  refine j_bipush (x := 8) dX0_take_196 (by decide) ?_
  refine j_icmp_ge (tgt := 222) dX0_take_198 (by decide) (fun c42 => ?_) (fun c42 => ?_)
  · refine j_exit s195.2 ?_
    show xJ iX0_take κ _ _ _ _ _ (some s195.2)
    exact j_vret s195.2 dX0_take_222 rfl (fun q => q)
  · refine j_aload_n 0 dX0_take_201 rfl rfl ?_
    refine j_getR 0 16 14 dX0_take_202 fl_RX0_53 (by decide) rfl (by decide) (fun _ _ _ => rfl) (fun x43 => ?_)
    refine j_iload_n 2 dX0_take_205 rfl rfl ?_
    refine j_aald13 dX0_take_206 (fun x44 => ?_)
    refine j_aload_n 1 dX0_take_207 rfl rfl ?_
    refine j_getR 0 16 14 dX0_take_208 fl_RX0_53 (by decide) rfl (by decide) (fun _ _ _ => rfl) (fun x45 => ?_)
    refine j_iload_n 2 dX0_take_211 rfl rfl ?_
    refine j_aald13 dX0_take_212 (fun x46 => ?_)
    refine j_callV (as := [.ref x46]) (fun _ => none) (fun x => x) 5 5 dX0_take_213 ml_RX0_75 tg_X5_take im_X5_take se_X5_take rfl (by decide) (fun x hx => kX5_take κ.1 κ.2.1 x44 x46 s195.2 x hx) (by decide) (by decide) rfl rfl (Nat.le_of_ble_eq_true rfl) (fun h47 => ?_)
    show xJ iX0_take κ _ 216 [(0, .ref v0), (1, .ref v1), (2, .int s195.1)] [] h47 _
    refine j_iinc (y := s195.1 + 1) (L' := [(2, .int (s195.1 + 1)), (0, .ref v0), (1, .ref v1)]) 2 dX0_take_216 rfl rfl (Nat.le_of_ble_eq_true rfl) rfl ?_
    refine j_goto (tgt := 195) dX0_take_219 (by decide) ?_
    refine j_pick [1, 2, 0] rfl ?_
    exact j_again (s195.1 + 1, h47) rfl rfl
def fX8_read (v0 : Nat) (h : Hp) : Option (Int32 × Hp) :=
  (xgR h v0 (8, 12) 8).bind fun x1 => (xat h x1 (4, 8) (fX4_readBus x1 h)).bind fun q2 => if (q2.1 : Int32) = 0 then ((xgR q2.2 v0 (8, 12) 8).bind fun x4 => (xgI q2.2 x4 (4, 8) 4).bind fun x5 => some ((-10) - x5, q2.2)) else ((xgR q2.2 v0 (8, 12) 0).bind fun x6 => (xgR q2.2 v0 (8, 12) 8).bind fun x7 => (xgR q2.2 x7 (4, 8) 2).bind fun x8 => (xat q2.2 x6 (0, 16) (fX0_take x6 x8 q2.2)).bind fun h9 => (xgR h9 v0 (8, 12) 8).bind fun x10 => (xgI h9 x10 (4, 8) 3).bind fun x11 => some (x11, h9))
abbrev iX8_read : xI := (cX8_read, yX8_read.cls, yX8_read.name, some .int, 1, 13)
set_option maxHeartbeats 4000000 in
set_option maxRecDepth 100000 in
theorem kX8_read (l : Launch) (η : xEnv) (v0 : Nat) (h : Hp) (x : Int32 × Hp) (hx : fX8_read v0 h = some x) : xC l η yX8_read cX8_read 1 (some .int) 13 [.ref v0] h (some (.int x.1)) x.2 := by
  refine xC_of (by decide) (Nat.le_of_ble_eq_true rfl) hx (fun κ x => κ.2.2.2.1 = some (.int x.1) ∧ κ.2.2.2.2 = x.2) ⟨rfl, rfl⟩ (fun κ => ?_)
  show xJ iX8_read κ _ 0 [(0, .ref v0)] [] h (fX8_read v0 h)
  unfold fX8_read
  refine j_aload_n 0 dX8_read_0 rfl rfl ?_
  refine j_getR 8 12 8 dX8_read_1 fl_RX8_62 (by decide) rfl (by decide) (fun _ _ _ => rfl) (fun x1 => ?_)
  refine j_callV (as := []) (fun x => some (.int x.1)) (fun x => x.2) 4 8 dX8_read_4 ml_RX8_120 tg_X4_readBus im_X4_readBus se_X4_readBus rfl (by decide) (fun x hx => kX4_readBus κ.1 κ.2.1 x1 h x hx) (by decide) (by decide) rfl rfl (Nat.le_of_ble_eq_true rfl) (fun q2 => ?_)
  show xJ iX8_read κ _ 7 [(0, .ref v0)] [.int q2.1] q2.2 _
  refine j_if_ne (tgt := 21) dX8_read_7 (by decide) (fun c3 => ?_) (fun c3 => ?_)
  · refine j_bipush (x := (-10)) dX8_read_10 (by decide) ?_
    refine j_aload_n 0 dX8_read_12 rfl rfl ?_
    refine j_getR 8 12 8 dX8_read_13 fl_RX8_62 (by decide) rfl (by decide) (fun _ _ _ => rfl) (fun x4 => ?_)
    refine j_getI 4 8 4 dX8_read_16 fl_RX8_124 (by decide) rfl (by decide) rfl (fun x5 => ?_)
    refine j_isub dX8_read_19 ?_
    exact j_iret ((-10) - x5, q2.2) dX8_read_20 rfl (fun q => q)
  · refine j_aload_n 0 dX8_read_21 rfl rfl ?_
    refine j_getR 8 12 0 dX8_read_22 fl_RX8_12 (by decide) rfl (by decide) (fun _ _ _ => rfl) (fun x6 => ?_)
    refine j_aload_n 0 dX8_read_25 rfl rfl ?_
    refine j_getR 8 12 8 dX8_read_26 fl_RX8_62 (by decide) rfl (by decide) (fun _ _ _ => rfl) (fun x7 => ?_)
    refine j_getR 4 8 2 dX8_read_29 fl_RX8_127 (by decide) rfl (by decide) (fun _ _ _ => rfl) (fun x8 => ?_)
    refine j_callV (as := [.ref x8]) (fun _ => none) (fun x => x) 0 16 dX8_read_32 ml_RX8_130 tg_X0_take im_X0_take se_X0_take rfl (by decide) (fun x hx => kX0_take κ.1 κ.2.1 x6 x8 q2.2 x hx) (by decide) (by decide) rfl rfl (Nat.le_of_ble_eq_true rfl) (fun h9 => ?_)
    show xJ iX8_read κ _ 35 [(0, .ref v0)] [] h9 _
    refine j_aload_n 0 dX8_read_35 rfl rfl ?_
    refine j_getR 8 12 8 dX8_read_36 fl_RX8_62 (by decide) rfl (by decide) (fun _ _ _ => rfl) (fun x10 => ?_)
    refine j_getI 4 8 3 dX8_read_39 fl_RX8_134 (by decide) rfl (by decide) rfl (fun x11 => ?_)
    exact j_iret (x11, h9) dX8_read_42 rfl (fun q => q)
def fX9_isSmall (v0 : Int32) (h : Hp) : Option (Int32) :=
  (fX9_in ((v0 : Int32).toInt64) 97 122 h).bind fun x1 => if vp_nar .boolean x1 = x1 then some x1 else none
abbrev iX9_isSmall : xI := (cX9_isSmall, yX9_isSmall.cls, yX9_isSmall.name, some .boolean, 1, 3)
set_option maxHeartbeats 4000000 in
set_option maxRecDepth 100000 in
theorem kX9_isSmall (l : Launch) (η : xEnv) (v0 : Int32) (h : Hp) (x : Int32) (hx : fX9_isSmall v0 h = some x) : xC l η yX9_isSmall cX9_isSmall 1 (some .boolean) 3 [.int v0] h (some (.int x)) h := by
  refine xC_of (by decide) (Nat.le_of_ble_eq_true rfl) hx (fun κ x => κ.2.2.2.1 = some (.int x) ∧ κ.2.2.2.2 = h) ⟨rfl, rfl⟩ (fun κ => ?_)
  show xJ iX9_isSmall κ _ 0 [(0, .int v0)] [] h (fX9_isSmall v0 h)
  unfold fX9_isSmall
  refine j_iload_n 0 dX9_isSmall_0 rfl rfl ?_
  refine j_i2l dX9_isSmall_1 ?_
  refine j_ldc2 dX9_isSmall_2 cL_RX9_195 ?_
  refine j_ldc2 dX9_isSmall_5 cL_RX9_197 ?_
  refine j_callS (as := [.long ((v0 : Int32).toInt64), .long 97, .long 122]) (fun x => some (.int x)) (fun _ => h) dX9_isSmall_8 ml_RX9_56 tg_X9_in st_X9_in (fun x hx => kX9_in κ.1 κ.2.1 ((v0 : Int32).toInt64) 97 122 h x hx) (by decide) (by decide) rfl rfl (Nat.le_of_ble_eq_true rfl) (fun x1 => ?_)
  show xJ iX9_isSmall κ _ 11 [(0, .int v0)] [.int x1] h _
  exact j_zretc x1 dX9_isSmall_11 rfl (fun q => q)
def fX9_isFigure (v0 : Int32) (h : Hp) : Option (Int32) :=
  (fX9_in ((v0 : Int32).toInt64) 48 57 h).bind fun x1 => if vp_nar .boolean x1 = x1 then some x1 else none
abbrev iX9_isFigure : xI := (cX9_isFigure, yX9_isFigure.cls, yX9_isFigure.name, some .boolean, 1, 3)
set_option maxHeartbeats 4000000 in
set_option maxRecDepth 100000 in
theorem kX9_isFigure (l : Launch) (η : xEnv) (v0 : Int32) (h : Hp) (x : Int32) (hx : fX9_isFigure v0 h = some x) : xC l η yX9_isFigure cX9_isFigure 1 (some .boolean) 3 [.int v0] h (some (.int x)) h := by
  refine xC_of (by decide) (Nat.le_of_ble_eq_true rfl) hx (fun κ x => κ.2.2.2.1 = some (.int x) ∧ κ.2.2.2.2 = h) ⟨rfl, rfl⟩ (fun κ => ?_)
  show xJ iX9_isFigure κ _ 0 [(0, .int v0)] [] h (fX9_isFigure v0 h)
  unfold fX9_isFigure
  refine j_iload_n 0 dX9_isFigure_0 rfl rfl ?_
  refine j_i2l dX9_isFigure_1 ?_
  refine j_ldc2 dX9_isFigure_2 cL_RX9_199 ?_
  refine j_ldc2 dX9_isFigure_5 cL_RX9_201 ?_
  refine j_callS (as := [.long ((v0 : Int32).toInt64), .long 48, .long 57]) (fun x => some (.int x)) (fun _ => h) dX9_isFigure_8 ml_RX9_56 tg_X9_in st_X9_in (fun x hx => kX9_in κ.1 κ.2.1 ((v0 : Int32).toInt64) 48 57 h x hx) (by decide) (by decide) rfl rfl (Nat.le_of_ble_eq_true rfl) (fun x1 => ?_)
  show xJ iX9_isFigure κ _ 11 [(0, .int v0)] [.int x1] h _
  exact j_zretc x1 dX9_isFigure_11 rfl (fun q => q)
def fX9_lookAt_j299 (t0 : Int32) (t1 : Nat) (h : Hp) : Option (Hp) :=
  (xpI h t1 (9, 18) 14 t0).bind fun h1 => some h1
def fX9_lookAt_j295 (v0 : Nat) (t0 : Nat) (h : Hp) : Option (Hp) :=
  (xgI h v0 (9, 18) 14).bind fun x2 => fX9_lookAt_j299 x2 t0 h
def fX9_lookAt_j274 (v0 : Nat) (h : Hp) : Option (Hp) :=
  (xgI h v0 (9, 18) 14).bind fun x3 => if (x3 : Int32) = 2 then ((xgI h v0 (9, 18) 13).bind fun x5 => if (x5 : Int32) ≤ 2 then (fX9_lookAt_j295 v0 v0 h) else (fX9_lookAt_j299 4 v0 h)) else (fX9_lookAt_j295 v0 v0 h)
def fX9_lookAt_b218 (v0 : Nat) (s218 : Int32 × Hp) : Option ((Int32 × Hp) ⊕ ((Nat × Hp))) :=
  (xgI s218.2 v0 (9, 18) 13).bind fun x7 => if (x7 : Int32) ≤ s218.1 then (some (Sum.inr (v0, s218.2))) else (if (2 : Int32) ≤ s218.1 then (some (Sum.inr (v0, s218.2))) else ((xgI s218.2 v0 (9, 18) 14).bind fun x10 => if (x10 : Int32) = 2 then ((xgI s218.2 v0 (9, 18) 15).bind fun x12 => (xgR s218.2 v0 (9, 18) 10).bind fun x13 => (xgI s218.2 v0 (9, 18) 12).bind fun x14 => (xaI s218.2 x13 10 (x14 + s218.1)).bind fun x15 => (xpI s218.2 v0 (9, 18) 15 (((10 * x12) + x15) - 48)).bind fun h16 => some (Sum.inl (s218.1 + 1, h16))) else (some (Sum.inr (v0, s218.2)))))
def fX9_lookAt_j215 (v0 : Nat) (h : Hp) : Option (Hp) :=
  (xloop (fX9_lookAt_b218 v0) 1000000 (0, h)).bind (fun r218 => fX9_lookAt_j274 r218.1 r218.2)
def fX9_lookAt_j208 (v0 : Nat) (v3 : Int32) (t0 : Int32) (t1 : Int32) (t2 : Nat) (h : Hp) : Option ((Int32 × Hp) ⊕ ((Nat × Hp))) :=
  (xpI h t2 (9, 18) 13 (t1 + t0)).bind fun h17 => some (Sum.inl (v3, h17))
def fX9_lookAt_j193 (v0 : Nat) (t0 : Int32) (h : Hp) : Option ((Int32 × Hp) ⊕ ((Nat × Hp))) :=
  (xgI h v0 (9, 18) 13).bind fun x18 => if (t0 : Int32) = 0 then (fX9_lookAt_j208 v0 t0 0 x18 v0 h) else (fX9_lookAt_j208 v0 t0 1 x18 v0 h)
def fX9_lookAt_b136 (v0 : Nat) (s136 : Int32 × Hp) : Option ((Int32 × Hp) ⊕ ((Nat × Hp))) :=
  if (s136.1 : Int32) = 0 then (some (Sum.inr (v0, s136.2))) else ((xgI s136.2 v0 (9, 18) 12).bind fun x21 => (xgI s136.2 v0 (9, 18) 13).bind fun x22 => (xgI s136.2 v0 (9, 18) 11).bind fun x23 => if (x23 : Int32) ≤ (x21 + x22) then (some (Sum.inr (v0, s136.2))) else ((xgR s136.2 v0 (9, 18) 10).bind fun x25 => (xgI s136.2 v0 (9, 18) 12).bind fun x26 => (xgI s136.2 v0 (9, 18) 13).bind fun x27 => (xaI s136.2 x25 10 (x26 + x27)).bind fun x28 => (xgI s136.2 v0 (9, 18) 14).bind fun x29 => if (x29 : Int32) = 1 then ((fX9_isSmall x28 s136.2).bind fun x31 => fX9_lookAt_j193 v0 x31 s136.2) else ((fX9_isFigure x28 s136.2).bind fun x32 => fX9_lookAt_j193 v0 x32 s136.2)))
def fX9_lookAt_j135 (v0 : Nat) (t0 : Int32) (h : Hp) : Option (Hp) :=
  (xloop (fX9_lookAt_b136 v0) 1000000 (t0, h)).bind (fun r136 => fX9_lookAt_j215 r136.1 r136.2)
def fX9_lookAt_j114 (v0 : Nat) (t0 : Int32) (t1 : Nat) (h : Hp) : Option (Hp) :=
  (xpI h t1 (9, 18) 14 t0).bind fun h33 => (xpI h33 v0 (9, 18) 13 1).bind fun h34 => (xgI h34 v0 (9, 18) 14).bind fun x35 => if (3 : Int32) ≤ x35 then (fX9_lookAt_j135 v0 0 h34) else (fX9_lookAt_j135 v0 1 h34)
def fX9_lookAt_j43 (v0 : Nat) (h : Hp) : Option (Hp) :=
  (xpI h v0 (9, 18) 13 0).bind fun h37 => (xpI h37 v0 (9, 18) 14 0).bind fun h38 => (xpI h38 v0 (9, 18) 15 0).bind fun h39 => (xgI h39 v0 (9, 18) 12).bind fun x40 => (xgI h39 v0 (9, 18) 11).bind fun x41 => if (x40 : Int32) = x41 then (some h39) else ((xgR h39 v0 (9, 18) 10).bind fun x43 => (xgI h39 v0 (9, 18) 12).bind fun x44 => (xaI h39 x43 10 x44).bind fun x45 => (fX9_isSmall x45 h39).bind fun x46 => if (x46 : Int32) = 0 then ((fX9_isFigure x45 h39).bind fun x48 => if (x48 : Int32) = 0 then (if (x45 : Int32) = 59 then (fX9_lookAt_j114 v0 3 v0 h39) else (fX9_lookAt_j114 v0 4 v0 h39)) else (fX9_lookAt_j114 v0 2 v0 h39)) else (fX9_lookAt_j114 v0 1 v0 h39))
def fX9_lookAt_b5 (v0 : Nat) (s5 : Hp) : Option ((Hp) ⊕ ((Nat × Hp))) :=
  (xgI s5 v0 (9, 18) 12).bind fun x52 => (xgI s5 v0 (9, 18) 11).bind fun x53 => if (x53 : Int32) ≤ x52 then (some (Sum.inr (v0, s5))) else ((xgR s5 v0 (9, 18) 10).bind fun x55 => (xgI s5 v0 (9, 18) 12).bind fun x56 => (xaI s5 x55 10 x56).bind fun x57 => if (x57 : Int32) = 32 then ((xgI s5 v0 (9, 18) 12).bind fun x59 => (xpI s5 v0 (9, 18) 12 (x59 + 1)).bind fun h60 => some (Sum.inl h60)) else (some (Sum.inr (v0, s5))))
def fX9_lookAt (v0 : Nat) (v1 : Int32) (h : Hp) : Option (Hp) :=
  (xpI h v0 (9, 18) 12 v1).bind fun h51 => (xloop (fX9_lookAt_b5 v0) 1000000 h51).bind (fun r5 => fX9_lookAt_j43 r5.1 r5.2)
abbrev iX9_lookAt : xI := (cX9_lookAt, yX9_lookAt.cls, yX9_lookAt.name, none, 5, 4)
set_option maxHeartbeats 4000000 in
set_option maxRecDepth 100000 in
theorem kX9_lookAt (l : Launch) (η : xEnv) (v0 : Nat) (v1 : Int32) (h : Hp) (x : Hp) (hx : fX9_lookAt v0 v1 h = some x) : xC l η yX9_lookAt cX9_lookAt 5 none 4 [.ref v0, .int v1] h none x := by
  refine xC_of (by decide) (Nat.le_of_ble_eq_true rfl) hx (fun κ x => κ.2.2.2.1 = none ∧ κ.2.2.2.2 = x) ⟨rfl, rfl⟩ (fun κ => ?_)
  show xJ iX9_lookAt κ _ 0 [(0, .ref v0), (1, .int v1)] [] h (fX9_lookAt v0 v1 h)
  unfold fX9_lookAt
  refine j_have (pj := 299) (Lf := fun v : Int32 × Nat × Hp => []) (Sf := fun v : Int32 × Nat × Hp => [.int v.1, .ref v.2.1]) (Hf := fun v : Int32 × Nat × Hp => v.2.2) (jf := fun v : Int32 × Nat × Hp => fX9_lookAt_j299 v.1 v.2.1 v.2.2) (fun v => ?_) (fun hj299 => ?_)
  · obtain ⟨t0, t1, h⟩ := v
    show xJ iX9_lookAt κ _ 299 [] [.int t0, .ref t1] h (fX9_lookAt_j299 t0 t1 h)
    unfold fX9_lookAt_j299
    refine j_putI 9 18 14 dX9_lookAt_299 fl_RX9_209 (by decide) rfl (by decide) rfl rfl (fun h1 => ?_)
    exact j_vret h1 dX9_lookAt_302 rfl (fun q => q)
  refine j_have (pj := 295) (Lf := fun v : Nat × Hp => [(0, .ref v0)]) (Sf := fun v : Nat × Hp => [.ref v.1]) (Hf := fun v : Nat × Hp => v.2) (jf := fun v : Nat × Hp => fX9_lookAt_j295 v0 v.1 v.2) (fun v => ?_) (fun hj295 => ?_)
  · obtain ⟨t0, h⟩ := v
    show xJ iX9_lookAt κ _ 295 [(0, .ref v0)] [.ref t0] h (fX9_lookAt_j295 v0 t0 h)
    unfold fX9_lookAt_j295
    refine j_aload_n 0 dX9_lookAt_295 rfl rfl ?_
    refine j_getI 9 18 14 dX9_lookAt_296 fl_RX9_209 (by decide) rfl (by decide) rfl (fun x2 => ?_)
    refine j_pick [] rfl ?_
    exact hj299 (x2, t0, h)
  refine j_have (pj := 274) (Lf := fun v : Hp => [(0, .ref v0)]) (Sf := fun v : Hp => []) (Hf := fun v : Hp => v) (jf := fun v : Hp => fX9_lookAt_j274 v0 v) (fun v => ?_) (fun hj274 => ?_)
  · generalize v = h
    show xJ iX9_lookAt κ _ 274 [(0, .ref v0)] [] h (fX9_lookAt_j274 v0 h)
    unfold fX9_lookAt_j274
    refine j_aload_n 0 dX9_lookAt_274 rfl rfl ?_
    refine j_aload_n 0 dX9_lookAt_275 rfl rfl ?_
    refine j_getI 9 18 14 dX9_lookAt_276 fl_RX9_209 (by decide) rfl (by decide) rfl (fun x3 => ?_)
    refine j_iconst (x := 2) dX9_lookAt_279 (by decide) ?_
    refine j_icmp_ne (tgt := 295) dX9_lookAt_280 (by decide) (fun c4 => ?_) (fun c4 => ?_)
    · refine j_aload_n 0 dX9_lookAt_283 rfl rfl ?_
      refine j_getI 9 18 13 dX9_lookAt_284 fl_RX9_206 (by decide) rfl (by decide) rfl (fun x5 => ?_)
      refine j_iconst (x := 2) dX9_lookAt_287 (by decide) ?_
      refine j_icmp_le (tgt := 295) dX9_lookAt_288 (by decide) (fun c6 => ?_) (fun c6 => ?_)
      · refine j_pick [0] rfl ?_
        exact hj295 (v0, h)
      · refine j_iconst (x := 4) dX9_lookAt_291 (by decide) ?_
        refine j_goto (tgt := 299) dX9_lookAt_292 (by decide) ?_
        refine j_pick [] rfl ?_
        exact hj299 (4, v0, h)
    · refine j_pick [0] rfl ?_
      exact hj295 (v0, h)
  refine j_have (pj := 215) (Lf := fun v : Hp => [(0, .ref v0)]) (Sf := fun v : Hp => []) (Hf := fun v : Hp => v) (jf := fun v : Hp => fX9_lookAt_j215 v0 v) (fun v => ?_) (fun hj215 => ?_)
  · generalize v = h
    show xJ iX9_lookAt κ _ 215 [(0, .ref v0)] [] h (fX9_lookAt_j215 v0 h)
    unfold fX9_lookAt_j215
    refine j_iconst (x := 0) dX9_lookAt_215 (by decide) ?_
    refine j_istore (L' := [(4, .int 0), (0, .ref v0)]) dX9_lookAt_216 (Nat.le_of_ble_eq_true rfl) rfl ?_
    refine j_pick [1, 0] rfl ?_
    refine j_loop (pc := 218) (Lf := fun s218 : Int32 × Hp => [(0, .ref v0), (4, .int s218.1)]) (Hf := fun s218 : Int32 × Hp => s218.2) (fun s218 => ?_) 1000000 (0, h)
    show xJ iX9_lookAt κ _ 218 [(0, .ref v0), (4, .int s218.1)] [] s218.2 (fX9_lookAt_b218 v0 s218)
    unfold fX9_lookAt_b218
    refine j_iload 1 dX9_lookAt_218 rfl ?_
    refine j_aload_n 0 dX9_lookAt_220 rfl rfl ?_
    refine j_getI 9 18 13 dX9_lookAt_221 fl_RX9_206 (by decide) rfl (by decide) rfl (fun x7 => ?_)
    refine j_icmp_ge (tgt := 274) dX9_lookAt_224 (by decide) (fun c8 => ?_) (fun c8 => ?_)
    · refine j_exit (v0, s218.2) ?_
      show xJ iX9_lookAt κ _ _ _ _ _ (fX9_lookAt_j274 v0 s218.2)
      refine j_pick [0] rfl ?_
      exact hj274 s218.2
    · refine j_iload 1 dX9_lookAt_227 rfl ?_
      refine j_iconst (x := 2) dX9_lookAt_229 (by decide) ?_
      refine j_icmp_ge (tgt := 274) dX9_lookAt_230 (by decide) (fun c9 => ?_) (fun c9 => ?_)
      · refine j_exit (v0, s218.2) ?_
        show xJ iX9_lookAt κ _ _ _ _ _ (fX9_lookAt_j274 v0 s218.2)
        refine j_pick [0] rfl ?_
        exact hj274 s218.2
      · refine j_aload_n 0 dX9_lookAt_233 rfl rfl ?_
        refine j_getI 9 18 14 dX9_lookAt_234 fl_RX9_209 (by decide) rfl (by decide) rfl (fun x10 => ?_)
        refine j_iconst (x := 2) dX9_lookAt_237 (by decide) ?_
        refine j_icmp_ne (tgt := 274) dX9_lookAt_238 (by decide) (fun c11 => ?_) (fun c11 => ?_)
        · refine j_aload_n 0 dX9_lookAt_241 rfl rfl ?_
          refine j_bipush (x := 10) dX9_lookAt_242 (by decide) ?_
          refine j_aload_n 0 dX9_lookAt_244 rfl rfl ?_
          refine j_getI 9 18 15 dX9_lookAt_245 fl_RX9_212 (by decide) rfl (by decide) rfl (fun x12 => ?_)
          refine j_imul dX9_lookAt_248 ?_
          refine j_aload_n 0 dX9_lookAt_249 rfl rfl ?_
          refine j_getR 9 18 10 dX9_lookAt_250 fl_RX9_39 (by decide) rfl (by decide) (fun _ _ _ => rfl) (fun x13 => ?_)
          refine j_aload_n 0 dX9_lookAt_253 rfl rfl ?_
          refine j_getI 9 18 12 dX9_lookAt_254 fl_RX9_203 (by decide) rfl (by decide) rfl (fun x14 => ?_)
          refine j_iload 1 dX9_lookAt_257 rfl ?_
          refine j_iadd dX9_lookAt_259 ?_
          refine j_iald dX9_lookAt_260 (fun x15 => ?_)
          refine j_iadd dX9_lookAt_261 ?_
          refine j_bipush (x := 48) dX9_lookAt_262 (by decide) ?_
          refine j_isub dX9_lookAt_264 ?_
          refine j_putI 9 18 15 dX9_lookAt_265 fl_RX9_212 (by decide) rfl (by decide) rfl rfl (fun h16 => ?_)
          refine j_iinc (y := s218.1 + 1) (L' := [(4, .int (s218.1 + 1)), (0, .ref v0)]) 1 dX9_lookAt_268 rfl rfl (Nat.le_of_ble_eq_true rfl) rfl ?_
          refine j_goto (tgt := 218) dX9_lookAt_271 (by decide) ?_
          refine j_pick [1, 0] rfl ?_
          exact j_again (s218.1 + 1, h16) rfl rfl
        · refine j_exit (v0, s218.2) ?_
          show xJ iX9_lookAt κ _ _ _ _ _ (fX9_lookAt_j274 v0 s218.2)
          refine j_pick [0] rfl ?_
          exact hj274 s218.2
  refine j_have (pj := 135) (Lf := fun v : Int32 × Hp => [(0, .ref v0)]) (Sf := fun v : Int32 × Hp => [.int v.1]) (Hf := fun v : Int32 × Hp => v.2) (jf := fun v : Int32 × Hp => fX9_lookAt_j135 v0 v.1 v.2) (fun v => ?_) (fun hj135 => ?_)
  · obtain ⟨t0, h⟩ := v
    show xJ iX9_lookAt κ _ 135 [(0, .ref v0)] [.int t0] h (fX9_lookAt_j135 v0 t0 h)
    unfold fX9_lookAt_j135
    refine j_istore_n (L' := [(3, .int t0), (0, .ref v0)]) dX9_lookAt_135 rfl (Nat.le_of_ble_eq_true rfl) rfl ?_
    refine j_pick [1, 0] rfl ?_
    refine j_loop (pc := 136) (Lf := fun s136 : Int32 × Hp => [(0, .ref v0), (3, .int s136.1)]) (Hf := fun s136 : Int32 × Hp => s136.2) (fun s136 => ?_) 1000000 (t0, h)
    show xJ iX9_lookAt κ _ 136 [(0, .ref v0), (3, .int s136.1)] [] s136.2 (fX9_lookAt_b136 v0 s136)
    unfold fX9_lookAt_b136
    refine j_have (pj := 208) (Lf := fun v : Int32 × Int32 × Int32 × Nat × Hp => [(0, .ref v0), (3, .int v.1)]) (Sf := fun v : Int32 × Int32 × Int32 × Nat × Hp => [.int v.2.1, .int v.2.2.1, .ref v.2.2.2.1]) (Hf := fun v : Int32 × Int32 × Int32 × Nat × Hp => v.2.2.2.2) (jf := fun v : Int32 × Int32 × Int32 × Nat × Hp => fX9_lookAt_j208 v0 v.1 v.2.1 v.2.2.1 v.2.2.2.1 v.2.2.2.2) (fun v => ?_) (fun hj208 => ?_)
    · obtain ⟨v3, t0, t1, t2, h⟩ := v
      show xJ iX9_lookAt κ _ 208 [(0, .ref v0), (3, .int v3)] [.int t0, .int t1, .ref t2] h (fX9_lookAt_j208 v0 v3 t0 t1 t2 h)
      unfold fX9_lookAt_j208
      refine j_iadd dX9_lookAt_208 ?_
      refine j_putI 9 18 13 dX9_lookAt_209 fl_RX9_206 (by decide) rfl (by decide) rfl rfl (fun h17 => ?_)
      refine j_goto (tgt := 136) dX9_lookAt_212 (by decide) ?_
      refine j_pick [0, 1] rfl ?_
      exact j_again (v3, h17) rfl rfl
    refine j_have (pj := 193) (Lf := fun v : Int32 × Hp => [(0, .ref v0)]) (Sf := fun v : Int32 × Hp => [.int v.1]) (Hf := fun v : Int32 × Hp => v.2) (jf := fun v : Int32 × Hp => fX9_lookAt_j193 v0 v.1 v.2) (fun v => ?_) (fun hj193 => ?_)
    · obtain ⟨t0, h⟩ := v
      show xJ iX9_lookAt κ _ 193 [(0, .ref v0)] [.int t0] h (fX9_lookAt_j193 v0 t0 h)
      unfold fX9_lookAt_j193
      refine j_istore_n (L' := [(3, .int t0), (0, .ref v0)]) dX9_lookAt_193 rfl (Nat.le_of_ble_eq_true rfl) rfl ?_
      refine j_aload_n 1 dX9_lookAt_194 rfl rfl ?_
      refine j_dup dX9_lookAt_195 rfl ?_
      refine j_getI 9 18 13 dX9_lookAt_196 fl_RX9_206 (by decide) rfl (by decide) rfl (fun x18 => ?_)
      refine j_iload_n 0 dX9_lookAt_199 rfl rfl ?_
      refine j_if_eq (tgt := 207) dX9_lookAt_200 (by decide) (fun c19 => ?_) (fun c19 => ?_)
      · refine j_iconst (x := 0) dX9_lookAt_207 (by decide) ?_
        refine j_pick [1, 0] rfl ?_
        exact hj208 (t0, 0, x18, v0, h)
      · refine j_iconst (x := 1) dX9_lookAt_203 (by decide) ?_
        refine j_goto (tgt := 208) dX9_lookAt_204 (by decide) ?_
        refine j_pick [1, 0] rfl ?_
        exact hj208 (t0, 1, x18, v0, h)
    refine j_iload_n 1 dX9_lookAt_136 rfl rfl ?_
    refine j_if_eq (tgt := 215) dX9_lookAt_137 (by decide) (fun c20 => ?_) (fun c20 => ?_)
    · refine j_exit (v0, s136.2) ?_
      show xJ iX9_lookAt κ _ _ _ _ _ (fX9_lookAt_j215 v0 s136.2)
      refine j_pick [0] rfl ?_
      exact hj215 s136.2
    · refine j_aload_n 0 dX9_lookAt_140 rfl rfl ?_
      refine j_getI 9 18 12 dX9_lookAt_141 fl_RX9_203 (by decide) rfl (by decide) rfl (fun x21 => ?_)
      refine j_aload_n 0 dX9_lookAt_144 rfl rfl ?_
      refine j_getI 9 18 13 dX9_lookAt_145 fl_RX9_206 (by decide) rfl (by decide) rfl (fun x22 => ?_)
      refine j_iadd dX9_lookAt_148 ?_
      refine j_aload_n 0 dX9_lookAt_149 rfl rfl ?_
      refine j_getI 9 18 11 dX9_lookAt_150 fl_RX9_191 (by decide) rfl (by decide) rfl (fun x23 => ?_)
      refine j_icmp_ge (tgt := 215) dX9_lookAt_153 (by decide) (fun c24 => ?_) (fun c24 => ?_)
      · refine j_exit (v0, s136.2) ?_
        show xJ iX9_lookAt κ _ _ _ _ _ (fX9_lookAt_j215 v0 s136.2)
        refine j_pick [0] rfl ?_
        exact hj215 s136.2
      · refine j_aload_n 0 dX9_lookAt_156 rfl rfl ?_
        refine j_getR 9 18 10 dX9_lookAt_157 fl_RX9_39 (by decide) rfl (by decide) (fun _ _ _ => rfl) (fun x25 => ?_)
        refine j_aload_n 0 dX9_lookAt_160 rfl rfl ?_
        refine j_getI 9 18 12 dX9_lookAt_161 fl_RX9_203 (by decide) rfl (by decide) rfl (fun x26 => ?_)
        refine j_aload_n 0 dX9_lookAt_164 rfl rfl ?_
        refine j_getI 9 18 13 dX9_lookAt_165 fl_RX9_206 (by decide) rfl (by decide) rfl (fun x27 => ?_)
        refine j_iadd dX9_lookAt_168 ?_
        refine j_iald dX9_lookAt_169 (fun x28 => ?_)
        refine j_istore (L' := [(4, .int x28), (0, .ref v0), (3, .int s136.1)]) dX9_lookAt_170 (Nat.le_of_ble_eq_true rfl) rfl ?_
        refine j_aload_n 1 dX9_lookAt_172 rfl rfl ?_
        refine j_getI 9 18 14 dX9_lookAt_173 fl_RX9_209 (by decide) rfl (by decide) rfl (fun x29 => ?_)
        refine j_iconst (x := 1) dX9_lookAt_176 (by decide) ?_
        refine j_icmp_ne (tgt := 188) dX9_lookAt_177 (by decide) (fun c30 => ?_) (fun c30 => ?_)
        · refine j_iload 0 dX9_lookAt_180 rfl ?_
          refine j_callS (as := [.int x28]) (fun x => some (.int x)) (fun _ => s136.2) dX9_lookAt_182 ml_RX9_215 tg_X9_isSmall st_X9_isSmall (fun x hx => kX9_isSmall κ.1 κ.2.1 x28 s136.2 x hx) (by decide) (by decide) rfl rfl (Nat.le_of_ble_eq_true rfl) (fun x31 => ?_)
          show xJ iX9_lookAt κ _ 185 [(4, .int x28), (0, .ref v0), (3, .int s136.1)] [.int x31] s136.2 _
          refine j_goto (tgt := 193) dX9_lookAt_185 (by decide) ?_
          refine j_pick [1] rfl ?_
          exact hj193 (x31, s136.2)
        · refine j_iload 0 dX9_lookAt_188 rfl ?_
          refine j_callS (as := [.int x28]) (fun x => some (.int x)) (fun _ => s136.2) dX9_lookAt_190 ml_RX9_218 tg_X9_isFigure st_X9_isFigure (fun x hx => kX9_isFigure κ.1 κ.2.1 x28 s136.2 x hx) (by decide) (by decide) rfl rfl (Nat.le_of_ble_eq_true rfl) (fun x32 => ?_)
          show xJ iX9_lookAt κ _ 193 [(4, .int x28), (0, .ref v0), (3, .int s136.1)] [.int x32] s136.2 _
          refine j_pick [1] rfl ?_
          exact hj193 (x32, s136.2)
  refine j_have (pj := 114) (Lf := fun v : Int32 × Nat × Hp => [(0, .ref v0)]) (Sf := fun v : Int32 × Nat × Hp => [.int v.1, .ref v.2.1]) (Hf := fun v : Int32 × Nat × Hp => v.2.2) (jf := fun v : Int32 × Nat × Hp => fX9_lookAt_j114 v0 v.1 v.2.1 v.2.2) (fun v => ?_) (fun hj114 => ?_)
  · obtain ⟨t0, t1, h⟩ := v
    show xJ iX9_lookAt κ _ 114 [(0, .ref v0)] [.int t0, .ref t1] h (fX9_lookAt_j114 v0 t0 t1 h)
    unfold fX9_lookAt_j114
    refine j_putI 9 18 14 dX9_lookAt_114 fl_RX9_209 (by decide) rfl (by decide) rfl rfl (fun h33 => ?_)
    refine j_aload_n 0 dX9_lookAt_117 rfl rfl ?_
    refine j_iconst (x := 1) dX9_lookAt_118 (by decide) ?_
    refine j_putI 9 18 13 dX9_lookAt_119 fl_RX9_206 (by decide) rfl (by decide) rfl rfl (fun h34 => ?_)
    refine j_aload_n 0 dX9_lookAt_122 rfl rfl ?_
    refine j_getI 9 18 14 dX9_lookAt_123 fl_RX9_209 (by decide) rfl (by decide) rfl (fun x35 => ?_)
    refine j_iconst (x := 3) dX9_lookAt_126 (by decide) ?_
    refine j_icmp_ge (tgt := 134) dX9_lookAt_127 (by decide) (fun c36 => ?_) (fun c36 => ?_)
    · refine j_iconst (x := 0) dX9_lookAt_134 (by decide) ?_
      refine j_pick [0] rfl ?_
      exact hj135 (0, h34)
    · refine j_iconst (x := 1) dX9_lookAt_130 (by decide) ?_
      refine j_goto (tgt := 135) dX9_lookAt_131 (by decide) ?_
      refine j_pick [0] rfl ?_
      exact hj135 (1, h34)
  refine j_have (pj := 43) (Lf := fun v : Hp => [(0, .ref v0)]) (Sf := fun v : Hp => []) (Hf := fun v : Hp => v) (jf := fun v : Hp => fX9_lookAt_j43 v0 v) (fun v => ?_) (fun hj43 => ?_)
  · generalize v = h
    show xJ iX9_lookAt κ _ 43 [(0, .ref v0)] [] h (fX9_lookAt_j43 v0 h)
    unfold fX9_lookAt_j43
    refine j_aload_n 0 dX9_lookAt_43 rfl rfl ?_
    refine j_iconst (x := 0) dX9_lookAt_44 (by decide) ?_
    refine j_putI 9 18 13 dX9_lookAt_45 fl_RX9_206 (by decide) rfl (by decide) rfl rfl (fun h37 => ?_)
    refine j_aload_n 0 dX9_lookAt_48 rfl rfl ?_
    refine j_iconst (x := 0) dX9_lookAt_49 (by decide) ?_
    refine j_putI 9 18 14 dX9_lookAt_50 fl_RX9_209 (by decide) rfl (by decide) rfl rfl (fun h38 => ?_)
    refine j_aload_n 0 dX9_lookAt_53 rfl rfl ?_
    refine j_iconst (x := 0) dX9_lookAt_54 (by decide) ?_
    refine j_putI 9 18 15 dX9_lookAt_55 fl_RX9_212 (by decide) rfl (by decide) rfl rfl (fun h39 => ?_)
    refine j_aload_n 0 dX9_lookAt_58 rfl rfl ?_
    refine j_getI 9 18 12 dX9_lookAt_59 fl_RX9_203 (by decide) rfl (by decide) rfl (fun x40 => ?_)
    refine j_aload_n 0 dX9_lookAt_62 rfl rfl ?_
    refine j_getI 9 18 11 dX9_lookAt_63 fl_RX9_191 (by decide) rfl (by decide) rfl (fun x41 => ?_)
    refine j_icmp_ne (tgt := 70) dX9_lookAt_66 (by decide) (fun c42 => ?_) (fun c42 => ?_)
    · exact j_vret h39 dX9_lookAt_69 rfl (fun q => q)
    · refine j_aload_n 0 dX9_lookAt_70 rfl rfl ?_
      refine j_getR 9 18 10 dX9_lookAt_71 fl_RX9_39 (by decide) rfl (by decide) (fun _ _ _ => rfl) (fun x43 => ?_)
      refine j_aload_n 0 dX9_lookAt_74 rfl rfl ?_
      refine j_getI 9 18 12 dX9_lookAt_75 fl_RX9_203 (by decide) rfl (by decide) rfl (fun x44 => ?_)
      refine j_iald dX9_lookAt_78 (fun x45 => ?_)
      refine j_istore_n (L' := [(2, .int x45), (0, .ref v0)]) dX9_lookAt_79 rfl (Nat.le_of_ble_eq_true rfl) rfl ?_
      refine j_aload_n 1 dX9_lookAt_80 rfl rfl ?_
      refine j_iload_n 0 dX9_lookAt_81 rfl rfl ?_
      refine j_callS (as := [.int x45]) (fun x => some (.int x)) (fun _ => h39) dX9_lookAt_82 ml_RX9_215 tg_X9_isSmall st_X9_isSmall (fun x hx => kX9_isSmall κ.1 κ.2.1 x45 h39 x hx) (by decide) (by decide) rfl rfl (Nat.le_of_ble_eq_true rfl) (fun x46 => ?_)
      show xJ iX9_lookAt κ _ 85 [(2, .int x45), (0, .ref v0)] [.int x46, .ref v0] h39 _
      refine j_if_eq (tgt := 92) dX9_lookAt_85 (by decide) (fun c47 => ?_) (fun c47 => ?_)
      · refine j_iload_n 0 dX9_lookAt_92 rfl rfl ?_
        refine j_callS (as := [.int x45]) (fun x => some (.int x)) (fun _ => h39) dX9_lookAt_93 ml_RX9_218 tg_X9_isFigure st_X9_isFigure (fun x hx => kX9_isFigure κ.1 κ.2.1 x45 h39 x hx) (by decide) (by decide) rfl rfl (Nat.le_of_ble_eq_true rfl) (fun x48 => ?_)
        show xJ iX9_lookAt κ _ 96 [(2, .int x45), (0, .ref v0)] [.int x48, .ref v0] h39 _
        refine j_if_eq (tgt := 103) dX9_lookAt_96 (by decide) (fun c49 => ?_) (fun c49 => ?_)
        · refine j_iload_n 0 dX9_lookAt_103 rfl rfl ?_
          refine j_bipush (x := 59) dX9_lookAt_104 (by decide) ?_
          refine j_icmp_ne (tgt := 113) dX9_lookAt_106 (by decide) (fun c50 => ?_) (fun c50 => ?_)
          · refine j_iconst (x := 3) dX9_lookAt_109 (by decide) ?_
            refine j_goto (tgt := 114) dX9_lookAt_110 (by decide) ?_
            refine j_pick [1] rfl ?_
            exact hj114 (3, v0, h39)
          · refine j_iconst (x := 4) dX9_lookAt_113 (by decide) ?_
            refine j_pick [1] rfl ?_
            exact hj114 (4, v0, h39)
        · refine j_iconst (x := 2) dX9_lookAt_99 (by decide) ?_
          refine j_goto (tgt := 114) dX9_lookAt_100 (by decide) ?_
          refine j_pick [1] rfl ?_
          exact hj114 (2, v0, h39)
      · refine j_iconst (x := 1) dX9_lookAt_88 (by decide) ?_
        refine j_goto (tgt := 114) dX9_lookAt_89 (by decide) ?_
        refine j_pick [1] rfl ?_
        exact hj114 (1, v0, h39)
  refine j_aload_n 0 dX9_lookAt_0 rfl rfl ?_
  refine j_iload_n 1 dX9_lookAt_1 rfl rfl ?_
  refine j_putI 9 18 12 dX9_lookAt_2 fl_RX9_203 (by decide) rfl (by decide) rfl rfl (fun h51 => ?_)
  refine j_pick [0] rfl ?_
  refine j_loop (pc := 5) (Lf := fun s5 : Hp => [(0, .ref v0)]) (Hf := fun s5 : Hp => s5) (fun s5 => ?_) 1000000 h51
  show xJ iX9_lookAt κ _ 5 [(0, .ref v0)] [] s5 (fX9_lookAt_b5 v0 s5)
  unfold fX9_lookAt_b5
  refine j_aload_n 0 dX9_lookAt_5 rfl rfl ?_
  refine j_getI 9 18 12 dX9_lookAt_6 fl_RX9_203 (by decide) rfl (by decide) rfl (fun x52 => ?_)
  refine j_aload_n 0 dX9_lookAt_9 rfl rfl ?_
  refine j_getI 9 18 11 dX9_lookAt_10 fl_RX9_191 (by decide) rfl (by decide) rfl (fun x53 => ?_)
  refine j_icmp_ge (tgt := 43) dX9_lookAt_13 (by decide) (fun c54 => ?_) (fun c54 => ?_)
  · refine j_exit (v0, s5) ?_
    show xJ iX9_lookAt κ _ _ _ _ _ (fX9_lookAt_j43 v0 s5)
    refine j_pick [0] rfl ?_
    exact hj43 s5
  · refine j_aload_n 0 dX9_lookAt_16 rfl rfl ?_
    refine j_getR 9 18 10 dX9_lookAt_17 fl_RX9_39 (by decide) rfl (by decide) (fun _ _ _ => rfl) (fun x55 => ?_)
    refine j_aload_n 0 dX9_lookAt_20 rfl rfl ?_
    refine j_getI 9 18 12 dX9_lookAt_21 fl_RX9_203 (by decide) rfl (by decide) rfl (fun x56 => ?_)
    refine j_iald dX9_lookAt_24 (fun x57 => ?_)
    refine j_bipush (x := 32) dX9_lookAt_25 (by decide) ?_
    refine j_icmp_ne (tgt := 43) dX9_lookAt_27 (by decide) (fun c58 => ?_) (fun c58 => ?_)
    · refine j_aload_n 0 dX9_lookAt_30 rfl rfl ?_
      refine j_dup dX9_lookAt_31 rfl ?_
      refine j_getI 9 18 12 dX9_lookAt_32 fl_RX9_203 (by decide) rfl (by decide) rfl (fun x59 => ?_)
      refine j_iconst (x := 1) dX9_lookAt_35 (by decide) ?_
      refine j_iadd dX9_lookAt_36 ?_
      refine j_putI 9 18 12 dX9_lookAt_37 fl_RX9_203 (by decide) rfl (by decide) rfl rfl (fun h60 => ?_)
      refine j_goto (tgt := 5) dX9_lookAt_40 (by decide) ?_
      refine j_pick [0] rfl ?_
      exact j_again h60 rfl rfl
    · refine j_exit (v0, s5) ?_
      show xJ iX9_lookAt κ _ _ _ _ _ (fX9_lookAt_j43 v0 s5)
      refine j_pick [0] rfl ?_
      exact hj43 s5
def fX9_spells_j119 (v8 : Int32) (h : Hp) : Option (Int32) :=
  if vp_nar .boolean v8 = v8 then some v8 else none
def fX9_spells_j111 (v0 : Nat) (v1 : Int32) (v2 : Int32) (v3 : Int32) (v4 : Int32) (v5 : Int32) (v6 : Int32) (v7 : Int32) (v9 : Int32) (t0 : Int32) (h : Hp) : Option ((Int32 × Int32) ⊕ ((Int32))) :=
  some (Sum.inl (t0, v9 + 1))
def fX9_spells_j103 (v0 : Nat) (v1 : Int32) (v2 : Int32) (v3 : Int32) (v4 : Int32) (v5 : Int32) (v6 : Int32) (v7 : Int32) (v9 : Int32) (t0 : Int32) (t1 : Int32) (h : Hp) : Option ((Int32 × Int32) ⊕ ((Int32))) :=
  if (t1 : Int32) = t0 then (fX9_spells_j111 v0 v1 v2 v3 v4 v5 v6 v7 v9 1 h) else (fX9_spells_j111 v0 v1 v2 v3 v4 v5 v6 v7 v9 0 h)
def fX9_spells_b26 (v0 : Nat) (v1 : Int32) (v2 : Int32) (v3 : Int32) (v4 : Int32) (v5 : Int32) (v6 : Int32) (v7 : Int32) (h : Hp) (s26 : Int32 × Int32) : Option ((Int32 × Int32) ⊕ ((Int32))) :=
  if (v1 : Int32) ≤ s26.2 then (some (Sum.inr s26.1)) else (if (s26.1 : Int32) = 0 then (some (Sum.inr s26.1)) else ((xgR h v0 (9, 18) 10).bind fun x4 => (xgI h v0 (9, 18) 12).bind fun x5 => (xaI h x4 10 (x5 + s26.2)).bind fun x6 => if (s26.2 : Int32) = 0 then (fX9_spells_j103 v0 v1 v2 v3 v4 v5 v6 v7 s26.2 v2 x6 h) else (if (s26.2 : Int32) = 1 then (fX9_spells_j103 v0 v1 v2 v3 v4 v5 v6 v7 s26.2 v3 x6 h) else (if (s26.2 : Int32) = 2 then (fX9_spells_j103 v0 v1 v2 v3 v4 v5 v6 v7 s26.2 v4 x6 h) else (if (s26.2 : Int32) = 3 then (fX9_spells_j103 v0 v1 v2 v3 v4 v5 v6 v7 s26.2 v5 x6 h) else (if (s26.2 : Int32) = 4 then (fX9_spells_j103 v0 v1 v2 v3 v4 v5 v6 v7 s26.2 v6 x6 h) else (fX9_spells_j103 v0 v1 v2 v3 v4 v5 v6 v7 s26.2 v7 x6 h)))))))
def fX9_spells_j21 (v0 : Nat) (v1 : Int32) (v2 : Int32) (v3 : Int32) (v4 : Int32) (v5 : Int32) (v6 : Int32) (v7 : Int32) (t0 : Int32) (h : Hp) : Option (Int32) :=
  (xloop (fX9_spells_b26 v0 v1 v2 v3 v4 v5 v6 v7 h) 1000000 (t0, 0)).bind (fun r26 => fX9_spells_j119 r26 h)
def fX9_spells_j20 (v0 : Nat) (v1 : Int32) (v2 : Int32) (v3 : Int32) (v4 : Int32) (v5 : Int32) (v6 : Int32) (v7 : Int32) (h : Hp) : Option (Int32) :=
  fX9_spells_j21 v0 v1 v2 v3 v4 v5 v6 v7 0 h
def fX9_spells (v0 : Nat) (v1 : Int32) (v2 : Int32) (v3 : Int32) (v4 : Int32) (v5 : Int32) (v6 : Int32) (v7 : Int32) (h : Hp) : Option (Int32) :=
  (xgI h v0 (9, 18) 14).bind fun x12 => if (x12 : Int32) = 1 then ((xgI h v0 (9, 18) 13).bind fun x14 => if (x14 : Int32) = v1 then (fX9_spells_j21 v0 v1 v2 v3 v4 v5 v6 v7 1 h) else (fX9_spells_j20 v0 v1 v2 v3 v4 v5 v6 v7 h)) else (fX9_spells_j20 v0 v1 v2 v3 v4 v5 v6 v7 h)
abbrev iX9_spells : xI := (cX9_spells, yX9_spells.cls, yX9_spells.name, some .boolean, 10, 2)
set_option maxHeartbeats 4000000 in
set_option maxRecDepth 100000 in
theorem kX9_spells (l : Launch) (η : xEnv) (v0 : Nat) (v1 : Int32) (v2 : Int32) (v3 : Int32) (v4 : Int32) (v5 : Int32) (v6 : Int32) (v7 : Int32) (h : Hp) (x : Int32) (hx : fX9_spells v0 v1 v2 v3 v4 v5 v6 v7 h = some x) : xC l η yX9_spells cX9_spells 10 (some .boolean) 2 [.ref v0, .int v1, .int v2, .int v3, .int v4, .int v5, .int v6, .int v7] h (some (.int x)) h := by
  refine xC_of (by decide) (Nat.le_of_ble_eq_true rfl) hx (fun κ x => κ.2.2.2.1 = some (.int x) ∧ κ.2.2.2.2 = h) ⟨rfl, rfl⟩ (fun κ => ?_)
  show xJ iX9_spells κ _ 0 [(0, .ref v0), (1, .int v1), (2, .int v2), (3, .int v3), (4, .int v4), (5, .int v5), (6, .int v6), (7, .int v7)] [] h (fX9_spells v0 v1 v2 v3 v4 v5 v6 v7 h)
  unfold fX9_spells
  refine j_have (pj := 119) (Lf := fun v : Int32 => [(8, .int v)]) (Sf := fun v : Int32 => []) (Hf := fun v : Int32 => h) (jf := fun v : Int32 => fX9_spells_j119 v h) (fun v => ?_) (fun hj119 => ?_)
  · generalize v = v8
    show xJ iX9_spells κ _ 119 [(8, .int v8)] [] h (fX9_spells_j119 v8 h)
    unfold fX9_spells_j119
    refine j_iload 0 dX9_spells_119 rfl ?_
    exact j_zretc v8 dX9_spells_121 rfl (fun q => q)
  refine j_have (pj := 21) (Lf := fun v : Int32 => [(0, .ref v0), (1, .int v1), (2, .int v2), (3, .int v3), (4, .int v4), (5, .int v5), (6, .int v6), (7, .int v7)]) (Sf := fun v : Int32 => [.int v]) (Hf := fun v : Int32 => h) (jf := fun v : Int32 => fX9_spells_j21 v0 v1 v2 v3 v4 v5 v6 v7 v h) (fun v => ?_) (fun hj21 => ?_)
  · generalize v = t0
    show xJ iX9_spells κ _ 21 [(0, .ref v0), (1, .int v1), (2, .int v2), (3, .int v3), (4, .int v4), (5, .int v5), (6, .int v6), (7, .int v7)] [.int t0] h (fX9_spells_j21 v0 v1 v2 v3 v4 v5 v6 v7 t0 h)
    unfold fX9_spells_j21
    refine j_istore (L' := [(8, .int t0), (0, .ref v0), (1, .int v1), (2, .int v2), (3, .int v3), (4, .int v4), (5, .int v5), (6, .int v6), (7, .int v7)]) dX9_spells_21 (Nat.le_of_ble_eq_true rfl) rfl ?_
    refine j_iconst (x := 0) dX9_spells_23 (by decide) ?_
    refine j_istore (L' := [(9, .int 0), (8, .int t0), (0, .ref v0), (1, .int v1), (2, .int v2), (3, .int v3), (4, .int v4), (5, .int v5), (6, .int v6), (7, .int v7)]) dX9_spells_24 (Nat.le_of_ble_eq_true rfl) rfl ?_
    refine j_pick [2, 3, 4, 5, 6, 7, 8, 9, 1, 0] rfl ?_
    refine j_loop (pc := 26) (Lf := fun s26 : Int32 × Int32 => [(0, .ref v0), (1, .int v1), (2, .int v2), (3, .int v3), (4, .int v4), (5, .int v5), (6, .int v6), (7, .int v7), (8, .int s26.1), (9, .int s26.2)]) (Hf := fun s26 : Int32 × Int32 => h) (fun s26 => ?_) 1000000 (t0, 0)
    show xJ iX9_spells κ _ 26 [(0, .ref v0), (1, .int v1), (2, .int v2), (3, .int v3), (4, .int v4), (5, .int v5), (6, .int v6), (7, .int v7), (8, .int s26.1), (9, .int s26.2)] [] h (fX9_spells_b26 v0 v1 v2 v3 v4 v5 v6 v7 h s26)
    unfold fX9_spells_b26
    refine j_have (pj := 111) (Lf := fun v : Int32 × Int32 => [(0, .ref v0), (1, .int v1), (2, .int v2), (3, .int v3), (4, .int v4), (5, .int v5), (6, .int v6), (7, .int v7), (9, .int v.1)]) (Sf := fun v : Int32 × Int32 => [.int v.2]) (Hf := fun v : Int32 × Int32 => h) (jf := fun v : Int32 × Int32 => fX9_spells_j111 v0 v1 v2 v3 v4 v5 v6 v7 v.1 v.2 h) (fun v => ?_) (fun hj111 => ?_)
    · obtain ⟨v9, t0⟩ := v
      show xJ iX9_spells κ _ 111 [(0, .ref v0), (1, .int v1), (2, .int v2), (3, .int v3), (4, .int v4), (5, .int v5), (6, .int v6), (7, .int v7), (9, .int v9)] [.int t0] h (fX9_spells_j111 v0 v1 v2 v3 v4 v5 v6 v7 v9 t0 h)
      unfold fX9_spells_j111
      refine j_istore (L' := [(8, .int t0), (0, .ref v0), (1, .int v1), (2, .int v2), (3, .int v3), (4, .int v4), (5, .int v5), (6, .int v6), (7, .int v7), (9, .int v9)]) dX9_spells_111 (Nat.le_of_ble_eq_true rfl) rfl ?_
      refine j_iinc (y := v9 + 1) (L' := [(9, .int (v9 + 1)), (8, .int t0), (0, .ref v0), (1, .int v1), (2, .int v2), (3, .int v3), (4, .int v4), (5, .int v5), (6, .int v6), (7, .int v7)]) 9 dX9_spells_113 rfl rfl (Nat.le_of_ble_eq_true rfl) rfl ?_
      refine j_goto (tgt := 26) dX9_spells_116 (by decide) ?_
      refine j_pick [2, 3, 4, 5, 6, 7, 8, 9, 1, 0] rfl ?_
      exact j_again (t0, v9 + 1) rfl rfl
    refine j_have (pj := 103) (Lf := fun v : Int32 × Int32 × Int32 => [(0, .ref v0), (1, .int v1), (2, .int v2), (3, .int v3), (4, .int v4), (5, .int v5), (6, .int v6), (7, .int v7), (9, .int v.1)]) (Sf := fun v : Int32 × Int32 × Int32 => [.int v.2.1, .int v.2.2]) (Hf := fun v : Int32 × Int32 × Int32 => h) (jf := fun v : Int32 × Int32 × Int32 => fX9_spells_j103 v0 v1 v2 v3 v4 v5 v6 v7 v.1 v.2.1 v.2.2 h) (fun v => ?_) (fun hj103 => ?_)
    · obtain ⟨v9, t0, t1⟩ := v
      show xJ iX9_spells κ _ 103 [(0, .ref v0), (1, .int v1), (2, .int v2), (3, .int v3), (4, .int v4), (5, .int v5), (6, .int v6), (7, .int v7), (9, .int v9)] [.int t0, .int t1] h (fX9_spells_j103 v0 v1 v2 v3 v4 v5 v6 v7 v9 t0 t1 h)
      unfold fX9_spells_j103
      refine j_icmp_ne (tgt := 110) dX9_spells_103 (by decide) (fun c1 => ?_) (fun c1 => ?_)
      · refine j_iconst (x := 1) dX9_spells_106 (by decide) ?_
        refine j_goto (tgt := 111) dX9_spells_107 (by decide) ?_
        refine j_pick [0, 1, 2, 3, 4, 5, 6, 7, 8] rfl ?_
        exact hj111 (v9, 1)
      · refine j_iconst (x := 0) dX9_spells_110 (by decide) ?_
        refine j_pick [0, 1, 2, 3, 4, 5, 6, 7, 8] rfl ?_
        exact hj111 (v9, 0)
    refine j_iload 9 dX9_spells_26 rfl ?_
    refine j_iload_n 1 dX9_spells_28 rfl rfl ?_
    refine j_icmp_ge (tgt := 119) dX9_spells_29 (by decide) (fun c2 => ?_) (fun c2 => ?_)
    · refine j_exit s26.1 ?_
      show xJ iX9_spells κ _ _ _ _ _ (fX9_spells_j119 s26.1 h)
      refine j_pick [8] rfl ?_
      exact hj119 s26.1
    · refine j_iload 8 dX9_spells_32 rfl ?_
      refine j_if_eq (tgt := 119) dX9_spells_34 (by decide) (fun c3 => ?_) (fun c3 => ?_)
      · refine j_exit s26.1 ?_
        show xJ iX9_spells κ _ _ _ _ _ (fX9_spells_j119 s26.1 h)
        refine j_pick [8] rfl ?_
        exact hj119 s26.1
      · refine j_aload_n 0 dX9_spells_37 rfl rfl ?_
        refine j_getR 9 18 10 dX9_spells_38 fl_RX9_39 (by decide) rfl (by decide) (fun _ _ _ => rfl) (fun x4 => ?_)
        refine j_aload_n 0 dX9_spells_41 rfl rfl ?_
        refine j_getI 9 18 12 dX9_spells_42 fl_RX9_203 (by decide) rfl (by decide) rfl (fun x5 => ?_)
        refine j_iload 9 dX9_spells_45 rfl ?_
        refine j_iadd dX9_spells_47 ?_
        refine j_iald dX9_spells_48 (fun x6 => ?_)
        refine j_iload 9 dX9_spells_49 rfl ?_
        refine j_if_ne (tgt := 58) dX9_spells_51 (by decide) (fun c7 => ?_) (fun c7 => ?_)
        · refine j_iload_n 2 dX9_spells_54 rfl rfl ?_
          refine j_goto (tgt := 103) dX9_spells_55 (by decide) ?_
          refine j_pick [0, 1, 2, 3, 4, 5, 6, 7, 9] rfl ?_
          exact hj103 (s26.2, v2, x6)
        · refine j_iload 9 dX9_spells_58 rfl ?_
          refine j_iconst (x := 1) dX9_spells_60 (by decide) ?_
          refine j_icmp_ne (tgt := 68) dX9_spells_61 (by decide) (fun c8 => ?_) (fun c8 => ?_)
          · refine j_iload_n 3 dX9_spells_64 rfl rfl ?_
            refine j_goto (tgt := 103) dX9_spells_65 (by decide) ?_
            refine j_pick [0, 1, 2, 3, 4, 5, 6, 7, 9] rfl ?_
            exact hj103 (s26.2, v3, x6)
          · refine j_iload 9 dX9_spells_68 rfl ?_
            refine j_iconst (x := 2) dX9_spells_70 (by decide) ?_
            refine j_icmp_ne (tgt := 79) dX9_spells_71 (by decide) (fun c9 => ?_) (fun c9 => ?_)
            · refine j_iload 4 dX9_spells_74 rfl ?_
              refine j_goto (tgt := 103) dX9_spells_76 (by decide) ?_
              refine j_pick [0, 1, 2, 3, 4, 5, 6, 7, 9] rfl ?_
              exact hj103 (s26.2, v4, x6)
            · refine j_iload 9 dX9_spells_79 rfl ?_
              refine j_iconst (x := 3) dX9_spells_81 (by decide) ?_
              refine j_icmp_ne (tgt := 90) dX9_spells_82 (by decide) (fun c10 => ?_) (fun c10 => ?_)
              · refine j_iload 5 dX9_spells_85 rfl ?_
                refine j_goto (tgt := 103) dX9_spells_87 (by decide) ?_
                refine j_pick [0, 1, 2, 3, 4, 5, 6, 7, 9] rfl ?_
                exact hj103 (s26.2, v5, x6)
              · refine j_iload 9 dX9_spells_90 rfl ?_
                refine j_iconst (x := 4) dX9_spells_92 (by decide) ?_
                refine j_icmp_ne (tgt := 101) dX9_spells_93 (by decide) (fun c11 => ?_) (fun c11 => ?_)
                · refine j_iload 6 dX9_spells_96 rfl ?_
                  refine j_goto (tgt := 103) dX9_spells_98 (by decide) ?_
                  refine j_pick [0, 1, 2, 3, 4, 5, 6, 7, 9] rfl ?_
                  exact hj103 (s26.2, v6, x6)
                · refine j_iload 7 dX9_spells_101 rfl ?_
                  refine j_pick [0, 1, 2, 3, 4, 5, 6, 7, 9] rfl ?_
                  exact hj103 (s26.2, v7, x6)
  refine j_have (pj := 20) (Lf := fun v : Unit => [(0, .ref v0), (1, .int v1), (2, .int v2), (3, .int v3), (4, .int v4), (5, .int v5), (6, .int v6), (7, .int v7)]) (Sf := fun v : Unit => []) (Hf := fun v : Unit => h) (jf := fun v : Unit => fX9_spells_j20 v0 v1 v2 v3 v4 v5 v6 v7 h) (fun v => ?_) (fun hj20 => ?_)
  · skip
    show xJ iX9_spells κ _ 20 [(0, .ref v0), (1, .int v1), (2, .int v2), (3, .int v3), (4, .int v4), (5, .int v5), (6, .int v6), (7, .int v7)] [] h (fX9_spells_j20 v0 v1 v2 v3 v4 v5 v6 v7 h)
    unfold fX9_spells_j20
    refine j_iconst (x := 0) dX9_spells_20 (by decide) ?_
    refine j_pick [0, 1, 2, 3, 4, 5, 6, 7] rfl ?_
    exact hj21 0
  refine j_aload_n 0 dX9_spells_0 rfl rfl ?_
  refine j_getI 9 18 14 dX9_spells_1 fl_RX9_209 (by decide) rfl (by decide) rfl (fun x12 => ?_)
  refine j_iconst (x := 1) dX9_spells_4 (by decide) ?_
  refine j_icmp_ne (tgt := 20) dX9_spells_5 (by decide) (fun c13 => ?_) (fun c13 => ?_)
  · refine j_aload_n 0 dX9_spells_8 rfl rfl ?_
    refine j_getI 9 18 13 dX9_spells_9 fl_RX9_206 (by decide) rfl (by decide) rfl (fun x14 => ?_)
    refine j_iload_n 1 dX9_spells_12 rfl rfl ?_
    refine j_icmp_ne (tgt := 20) dX9_spells_13 (by decide) (fun c15 => ?_) (fun c15 => ?_)
    · refine j_iconst (x := 1) dX9_spells_16 (by decide) ?_
      refine j_goto (tgt := 21) dX9_spells_17 (by decide) ?_
      refine j_pick [0, 1, 2, 3, 4, 5, 6, 7] rfl ?_
      exact hj21 1
    · refine j_pick [0, 1, 2, 3, 4, 5, 6, 7] rfl ?_
      exact hj20 ()
  · refine j_pick [0, 1, 2, 3, 4, 5, 6, 7] rfl ?_
    exact hj20 ()
def fX9_goBehind (v0 : Nat) (h : Hp) : Option (Hp) :=
  (xgI h v0 (9, 18) 12).bind fun x1 => (xgI h v0 (9, 18) 13).bind fun x2 => (xat h v0 (9, 18) (fX9_lookAt v0 (x1 + x2) h)).bind fun h3 => some h3
abbrev iX9_goBehind : xI := (cX9_goBehind, yX9_goBehind.cls, yX9_goBehind.name, none, 1, 5)
set_option maxHeartbeats 4000000 in
set_option maxRecDepth 100000 in
theorem kX9_goBehind (l : Launch) (η : xEnv) (v0 : Nat) (h : Hp) (x : Hp) (hx : fX9_goBehind v0 h = some x) : xC l η yX9_goBehind cX9_goBehind 1 none 5 [.ref v0] h none x := by
  refine xC_of (by decide) (Nat.le_of_ble_eq_true rfl) hx (fun κ x => κ.2.2.2.1 = none ∧ κ.2.2.2.2 = x) ⟨rfl, rfl⟩ (fun κ => ?_)
  show xJ iX9_goBehind κ _ 0 [(0, .ref v0)] [] h (fX9_goBehind v0 h)
  unfold fX9_goBehind
  refine j_aload_n 0 dX9_goBehind_0 rfl rfl ?_
  refine j_aload_n 0 dX9_goBehind_1 rfl rfl ?_
  refine j_getI 9 18 12 dX9_goBehind_2 fl_RX9_203 (by decide) rfl (by decide) rfl (fun x1 => ?_)
  refine j_aload_n 0 dX9_goBehind_5 rfl rfl ?_
  refine j_getI 9 18 13 dX9_goBehind_6 fl_RX9_206 (by decide) rfl (by decide) rfl (fun x2 => ?_)
  refine j_iadd dX9_goBehind_9 ?_
  refine j_callV (as := [.int (x1 + x2)]) (fun _ => none) (fun x => x) 9 18 dX9_goBehind_10 ml_RX9_221 tg_X9_lookAt im_X9_lookAt se_X9_lookAt rfl (by decide) (fun x hx => kX9_lookAt κ.1 κ.2.1 v0 (x1 + x2) h x hx) (by decide) (by decide) rfl rfl (Nat.le_of_ble_eq_true rfl) (fun h3 => ?_)
  show xJ iX9_goBehind κ _ 13 [(0, .ref v0)] [] h3 _
  exact j_vret h3 dX9_goBehind_13 rfl (fun q => q)
def fX9_takes_j23  (h : Hp) : Option (Int32 × Hp) :=
  some (0, h)
def fX9_takes (v0 : Nat) (v1 : Int32) (v2 : Int32) (v3 : Int32) (h : Hp) : Option (Int32 × Hp) :=
  (xgI h v0 (9, 18) 14).bind fun x1 => if (x1 : Int32) = 2 then ((xgI h v0 (9, 18) 15).bind fun x3 => (fX9_in ((x3 : Int32).toInt64) ((v2 : Int32).toInt64) ((v3 : Int32).toInt64) h).bind fun x4 => if (x4 : Int32) = 0 then (fX9_takes_j23 h) else ((xgR h v0 (9, 18) 17).bind fun x6 => (xgI h v0 (9, 18) 15).bind fun x7 => (xsI h x6 v1 x7).bind fun h8 => (xat h8 v0 (9, 18) (fX9_goBehind v0 h8)).bind fun h9 => some (1, h9))) else (fX9_takes_j23 h)
abbrev iX9_takes : xI := (cX9_takes, yX9_takes.cls, yX9_takes.name, some .boolean, 4, 6)
set_option maxHeartbeats 4000000 in
set_option maxRecDepth 100000 in
theorem kX9_takes (l : Launch) (η : xEnv) (v0 : Nat) (v1 : Int32) (v2 : Int32) (v3 : Int32) (h : Hp) (x : Int32 × Hp) (hx : fX9_takes v0 v1 v2 v3 h = some x) : xC l η yX9_takes cX9_takes 4 (some .boolean) 6 [.ref v0, .int v1, .int v2, .int v3] h (some (.int x.1)) x.2 := by
  refine xC_of (by decide) (Nat.le_of_ble_eq_true rfl) hx (fun κ x => κ.2.2.2.1 = some (.int x.1) ∧ κ.2.2.2.2 = x.2) ⟨rfl, rfl⟩ (fun κ => ?_)
  show xJ iX9_takes κ _ 0 [(0, .ref v0), (1, .int v1), (2, .int v2), (3, .int v3)] [] h (fX9_takes v0 v1 v2 v3 h)
  unfold fX9_takes
  refine j_have (pj := 23) (Lf := fun v : Hp => []) (Sf := fun v : Hp => []) (Hf := fun v : Hp => v) (jf := fun v : Hp => fX9_takes_j23 v) (fun v => ?_) (fun hj23 => ?_)
  · generalize v = h
    show xJ iX9_takes κ _ 23 [] [] h (fX9_takes_j23 h)
    unfold fX9_takes_j23
    refine j_iconst (x := 0) dX9_takes_23 (by decide) ?_
    exact j_zret (0, h) dX9_takes_24 rfl rfl (fun q => q)
  refine j_aload_n 0 dX9_takes_0 rfl rfl ?_
  refine j_getI 9 18 14 dX9_takes_1 fl_RX9_209 (by decide) rfl (by decide) rfl (fun x1 => ?_)
  refine j_iconst (x := 2) dX9_takes_4 (by decide) ?_
  refine j_icmp_ne (tgt := 23) dX9_takes_5 (by decide) (fun c2 => ?_) (fun c2 => ?_)
  · refine j_aload_n 0 dX9_takes_8 rfl rfl ?_
    refine j_getI 9 18 15 dX9_takes_9 fl_RX9_212 (by decide) rfl (by decide) rfl (fun x3 => ?_)
    refine j_i2l dX9_takes_12 ?_
    refine j_iload_n 2 dX9_takes_13 rfl rfl ?_
    refine j_i2l dX9_takes_14 ?_
    refine j_iload_n 3 dX9_takes_15 rfl rfl ?_
    refine j_i2l dX9_takes_16 ?_
    refine j_callS (as := [.long ((x3 : Int32).toInt64), .long ((v2 : Int32).toInt64), .long ((v3 : Int32).toInt64)]) (fun x => some (.int x)) (fun _ => h) dX9_takes_17 ml_RX9_56 tg_X9_in st_X9_in (fun x hx => kX9_in κ.1 κ.2.1 ((x3 : Int32).toInt64) ((v2 : Int32).toInt64) ((v3 : Int32).toInt64) h x hx) (by decide) (by decide) rfl rfl (Nat.le_of_ble_eq_true rfl) (fun x4 => ?_)
    show xJ iX9_takes κ _ 20 [(0, .ref v0), (1, .int v1), (2, .int v2), (3, .int v3)] [.int x4] h _
    refine j_if_ne (tgt := 25) dX9_takes_20 (by decide) (fun c5 => ?_) (fun c5 => ?_)
    · refine j_pick [] rfl ?_
      exact hj23 h
    · refine j_aload_n 0 dX9_takes_25 rfl rfl ?_
      refine j_getR 9 18 17 dX9_takes_26 fl_RX9_45 (by decide) rfl (by decide) (fun _ _ _ => rfl) (fun x6 => ?_)
      refine j_iload_n 1 dX9_takes_29 rfl rfl ?_
      refine j_aload_n 0 dX9_takes_30 rfl rfl ?_
      refine j_getI 9 18 15 dX9_takes_31 fl_RX9_212 (by decide) rfl (by decide) rfl (fun x7 => ?_)
      refine j_iast dX9_takes_34 (fun h8 => ?_)
      refine j_aload_n 0 dX9_takes_35 rfl rfl ?_
      refine j_callV (as := []) (fun _ => none) (fun x => x) 9 18 dX9_takes_36 ml_RX9_224 tg_X9_goBehind im_X9_goBehind se_X9_goBehind rfl (by decide) (fun x hx => kX9_goBehind κ.1 κ.2.1 v0 h8 x hx) (by decide) (by decide) rfl rfl (Nat.le_of_ble_eq_true rfl) (fun h9 => ?_)
      show xJ iX9_takes κ _ 39 [(0, .ref v0), (1, .int v1), (2, .int v2), (3, .int v3)] [] h9 _
      refine j_iconst (x := 1) dX9_takes_39 (by decide) ?_
      exact j_zret (1, h9) dX9_takes_40 rfl rfl (fun q => q)
  · refine j_pick [] rfl ?_
    exact hj23 h
