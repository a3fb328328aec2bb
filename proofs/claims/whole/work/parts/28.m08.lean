def fX8_end (v0 : Nat) (v1 : Int32) (h : Hp) : Option (Int32 × Hp) :=
  (fX8_within v1 0 2 h).bind fun x1 => if (x1 : Int32) = 0 then ((xat h v0 (8, 12) (fX8_refuseBad v0 h)).bind fun q3 => some (q3.1, q3.2)) else ((xgR h v0 (8, 12) 3).bind fun x4 => (xgR h v0 (8, 12) 0).bind fun x5 => (xat h x4 (3, 3) (fX3_goOn x4 x5 h)).bind fun h6 => (xgR h6 v0 (8, 12) 3).bind fun x7 => (xgR h6 v0 (8, 12) 0).bind fun x8 => (xat h6 x7 (3, 3) (fX3_passThrough x7 x8 9 h6)).bind fun h9 => if (v1 : Int32) = 0 then ((xgR h9 v0 (8, 12) 3).bind fun x11 => (xgR h9 x11 (3, 3) 0).bind fun x12 => (xgI h9 x12 (5, 5) 2).bind fun x13 => some (x13, h9)) else if (v1 : Int32) = 1 then ((xgR h9 v0 (8, 12) 3).bind fun x15 => (xgR h9 x15 (3, 3) 0).bind fun x16 => (xgI h9 x16 (5, 5) 3).bind fun x17 => some (x17, h9)) else ((xgR h9 v0 (8, 12) 3).bind fun x18 => (xgR h9 x18 (3, 3) 0).bind fun x19 => (xgI h9 x19 (5, 5) 4).bind fun x20 => some (x20, h9)))
abbrev iX8_end : xI := (cX8_end, yX8_end.cls, yX8_end.name, some .int, 2, 6)
set_option maxHeartbeats 4000000 in
set_option maxRecDepth 100000 in
theorem kX8_end (l : Launch) (η : xEnv) (v0 : Nat) (v1 : Int32) (h : Hp) (x : Int32 × Hp) (hx : fX8_end v0 v1 h = some x) : xC l η yX8_end cX8_end 2 (some .int) 6 [.ref v0, .int v1] h (some (.int x.1)) x.2 := by
  refine xC_of (by decide) (Nat.le_of_ble_eq_true rfl) hx (fun κ x => κ.2.2.2.1 = some (.int x.1) ∧ κ.2.2.2.2 = x.2) ⟨rfl, rfl⟩ (fun κ => ?_)
  show xJ iX8_end κ _ 0 [(0, .ref v0), (1, .int v1)] [] h (fX8_end v0 v1 h)
  unfold fX8_end
  refine j_iload_n 1 dX8_end_0 rfl rfl ?_
  refine j_iconst (x := 0) dX8_end_1 (by decide) ?_
  refine j_iconst (x := 2) dX8_end_2 (by decide) ?_
  refine j_callS (as := [.int v1, .int 0, .int 2]) (fun x => some (.int x)) (fun _ => h) dX8_end_3 ml_RX8_66 tg_X8_within st_X8_within (fun x hx => kX8_within κ.1 κ.2.1 v1 0 2 h x hx) (by decide) (by decide) rfl rfl (Nat.le_of_ble_eq_true rfl) (fun x1 => ?_)
  show xJ iX8_end κ _ 6 [(0, .ref v0), (1, .int v1)] [.int x1] h _
  refine j_if_ne (tgt := 14) dX8_end_6 (by decide) (fun c2 => ?_) (fun c2 => ?_)
  · refine j_aload_n 0 dX8_end_9 rfl rfl ?_
    refine j_callV (as := []) (fun x => some (.int x.1)) (fun x => x.2) 8 12 dX8_end_10 ml_RX8_70 tg_X8_refuseBad im_X8_refuseBad se_X8_refuseBad rfl (by decide) (fun x hx => kX8_refuseBad κ.1 κ.2.1 v0 h x hx) (by decide) (by decide) rfl rfl (Nat.le_of_ble_eq_true rfl) (fun q3 => ?_)
    show xJ iX8_end κ _ 13 [(0, .ref v0), (1, .int v1)] [.int q3.1] q3.2 _
    exact j_iret (q3.1, q3.2) dX8_end_13 rfl (fun q => q)
  · refine j_aload_n 0 dX8_end_14 rfl rfl ?_
    refine j_getR 8 12 3 dX8_end_15 fl_RX8_27 (by decide) rfl (by decide) (fun _ _ _ => rfl) (fun x4 => ?_)
    refine j_aload_n 0 dX8_end_18 rfl rfl ?_
    refine j_getR 8 12 0 dX8_end_19 fl_RX8_12 (by decide) rfl (by decide) (fun _ _ _ => rfl) (fun x5 => ?_)
    refine j_callV (as := [.ref x5]) (fun _ => none) (fun x => x) 3 3 dX8_end_22 ml_RX8_200 tg_X3_goOn im_X3_goOn se_X3_goOn rfl (by decide) (fun x hx => kX3_goOn κ.1 κ.2.1 x4 x5 h x hx) (by decide) (by decide) rfl rfl (Nat.le_of_ble_eq_true rfl) (fun h6 => ?_)
    show xJ iX8_end κ _ 25 [(0, .ref v0), (1, .int v1)] [] h6 _
    refine j_aload_n 0 dX8_end_25 rfl rfl ?_
    refine j_getR 8 12 3 dX8_end_26 fl_RX8_27 (by decide) rfl (by decide) (fun _ _ _ => rfl) (fun x7 => ?_)
    refine j_aload_n 0 dX8_end_29 rfl rfl ?_
    refine j_getR 8 12 0 dX8_end_30 fl_RX8_12 (by decide) rfl (by decide) (fun _ _ _ => rfl) (fun x8 => ?_)
    refine j_bipush (x := 9) dX8_end_33 (by decide) ?_
    refine j_callV (as := [.ref x8, .int 9]) (fun _ => none) (fun x => x) 3 3 dX8_end_35 ml_RX8_203 tg_X3_passThrough im_X3_passThrough se_X3_passThrough rfl (by decide) (fun x hx => kX3_passThrough κ.1 κ.2.1 x7 x8 9 h6 x hx) (by decide) (by decide) rfl rfl (Nat.le_of_ble_eq_true rfl) (fun h9 => ?_)
    show xJ iX8_end κ _ 38 [(0, .ref v0), (1, .int v1)] [] h9 _
    refine j_iload_n 1 dX8_end_38 rfl rfl ?_
    refine j_lokv (w := 0) (off := 25) (tgt := 64) dX8_end_39 (by decide) (by decide) (by decide) (fun c10 => ?_) (fun c10 => ?_)
    · refine j_aload_n 0 dX8_end_64 rfl rfl ?_
      refine j_getR 8 12 3 dX8_end_65 fl_RX8_27 (by decide) rfl (by decide) (fun _ _ _ => rfl) (fun x11 => ?_)
      refine j_getR 3 3 0 dX8_end_68 fl_RX8_207 (by decide) rfl (by decide) (fun _ _ _ => rfl) (fun x12 => ?_)
      refine j_getI 5 5 2 dX8_end_71 fl_RX8_194 (by decide) rfl (by decide) rfl (fun x13 => ?_)
      exact j_iret (x13, h9) dX8_end_74 rfl (fun q => q)
    refine j_lokv (w := 1) (off := 36) (tgt := 75) dX8_end_39 (by decide) (by decide) (by decide) (fun c14 => ?_) (fun c14 => ?_)
    · refine j_aload_n 0 dX8_end_75 rfl rfl ?_
      refine j_getR 8 12 3 dX8_end_76 fl_RX8_27 (by decide) rfl (by decide) (fun _ _ _ => rfl) (fun x15 => ?_)
      refine j_getR 3 3 0 dX8_end_79 fl_RX8_207 (by decide) rfl (by decide) (fun _ _ _ => rfl) (fun x16 => ?_)
      refine j_getI 5 5 3 dX8_end_82 fl_RX8_197 (by decide) rfl (by decide) rfl (fun x17 => ?_)
      exact j_iret (x17, h9) dX8_end_85 rfl (fun q => q)
    refine j_lokd (tgt := 86) dX8_end_39 (by decide) (by have ec10 : ¬ (0 : Int) = (v1 : Int32).toInt := fun q => c10 (Int32.toInt_inj.mp (q.symm.trans (by decide))); have ec14 : ¬ (1 : Int) = (v1 : Int32).toInt := fun q => c14 (Int32.toInt_inj.mp (q.symm.trans (by decide))); show Op.lookupswitch.offset [(0, 25), (1, 36)] 47 (v1 : Int32).toInt = 47; simp only [Op.lookupswitch.offset, if_neg ec10, if_neg ec14]) (by decide) ?_
    refine j_aload_n 0 dX8_end_86 rfl rfl ?_
    refine j_getR 8 12 3 dX8_end_87 fl_RX8_27 (by decide) rfl (by decide) (fun _ _ _ => rfl) (fun x18 => ?_)
    refine j_getR 3 3 0 dX8_end_90 fl_RX8_207 (by decide) rfl (by decide) (fun _ _ _ => rfl) (fun x19 => ?_)
    refine j_getI 5 5 4 dX8_end_93 fl_RX8_149 (by decide) rfl (by decide) rfl (fun x20 => ?_)
    exact j_iret (x20, h9) dX8_end_96 rfl (fun q => q)
def fX9_end_j53 (t0 : Int32) (t1 : Nat) (h : Hp) : Option (Int32 × Hp) :=
  (xaI h t1 10 t0).bind fun x1 => some (x1, h)
def fX9_end (v0 : Nat) (v1 : Int32) (h : Hp) : Option (Int32 × Hp) :=
  (fX9_in ((v1 : Int32).toInt64) 0 2 h).bind fun x2 => if (x2 : Int32) = 0 then ((xat h v0 (9, 18) (fX9_bad v0 (-2) h)).bind fun q4 => some (q4.1, q4.2)) else ((xat h v0 (9, 18) (fX9_layHand v0 h)).bind fun h5 => (xat h5 v0 (9, 18) (fX9_goTill v0 10 h5)).bind fun h6 => (xgR h6 v0 (9, 18) 6).bind fun x7 => if (v1 : Int32) = 0 then (fX9_end_j53 5 x7 h6) else (if (v1 : Int32) = 1 then (fX9_end_j53 6 x7 h6) else (fX9_end_j53 7 x7 h6)))
abbrev iX9_end : xI := (cX9_end, yX9_end.cls, yX9_end.name, some .int, 2, 7)
set_option maxHeartbeats 4000000 in
set_option maxRecDepth 100000 in
theorem kX9_end (l : Launch) (η : xEnv) (v0 : Nat) (v1 : Int32) (h : Hp) (x : Int32 × Hp) (hx : fX9_end v0 v1 h = some x) : xC l η yX9_end cX9_end 2 (some .int) 7 [.ref v0, .int v1] h (some (.int x.1)) x.2 := by
  refine xC_of (by decide) (Nat.le_of_ble_eq_true rfl) hx (fun κ x => κ.2.2.2.1 = some (.int x.1) ∧ κ.2.2.2.2 = x.2) ⟨rfl, rfl⟩ (fun κ => ?_)
  show xJ iX9_end κ _ 0 [(0, .ref v0), (1, .int v1)] [] h (fX9_end v0 v1 h)
  unfold fX9_end
  refine j_have (pj := 53) (Lf := fun v : Int32 × Nat × Hp => []) (Sf := fun v : Int32 × Nat × Hp => [.int v.1, .ref v.2.1]) (Hf := fun v : Int32 × Nat × Hp => v.2.2) (jf := fun v : Int32 × Nat × Hp => fX9_end_j53 v.1 v.2.1 v.2.2) (fun v => ?_) (fun hj53 => ?_)
  · obtain ⟨t0, t1, h⟩ := v
    show xJ iX9_end κ _ 53 [] [.int t0, .ref t1] h (fX9_end_j53 t0 t1 h)
    unfold fX9_end_j53
    refine j_iald dX9_end_53 (fun x1 => ?_)
    exact j_iret (x1, h) dX9_end_54 rfl (fun q => q)
  refine j_iload_n 1 dX9_end_0 rfl rfl ?_
  refine j_i2l dX9_end_1 ?_
  refine j_lconst (x := 0) dX9_end_2 (by decide) ?_
  refine j_ldc2 dX9_end_3 cL_RX9_131 ?_
  refine j_callS (as := [.long ((v1 : Int32).toInt64), .long 0, .long 2]) (fun x => some (.int x)) (fun _ => h) dX9_end_6 ml_RX9_56 tg_X9_in st_X9_in (fun x hx => kX9_in κ.1 κ.2.1 ((v1 : Int32).toInt64) 0 2 h x hx) (by decide) (by decide) rfl rfl (Nat.le_of_ble_eq_true rfl) (fun x2 => ?_)
  show xJ iX9_end κ _ 9 [(0, .ref v0), (1, .int v1)] [.int x2] h _
  refine j_if_ne (tgt := 19) dX9_end_9 (by decide) (fun c3 => ?_) (fun c3 => ?_)
  · refine j_aload_n 0 dX9_end_12 rfl rfl ?_
    refine j_bipush (x := (-2)) dX9_end_13 (by decide) ?_
    refine j_callV (as := [.int (-2)]) (fun x => some (.int x.1)) (fun x => x.2) 9 18 dX9_end_15 ml_RX9_64 tg_X9_bad im_X9_bad se_X9_bad rfl (by decide) (fun x hx => kX9_bad κ.1 κ.2.1 v0 (-2) h x hx) (by decide) (by decide) rfl rfl (Nat.le_of_ble_eq_true rfl) (fun q4 => ?_)
    show xJ iX9_end κ _ 18 [(0, .ref v0), (1, .int v1)] [.int q4.1] q4.2 _
    exact j_iret (q4.1, q4.2) dX9_end_18 rfl (fun q => q)
  · refine j_aload_n 0 dX9_end_19 rfl rfl ?_
    refine j_callV (as := []) (fun _ => none) (fun x => x) 9 18 dX9_end_20 ml_RX9_90 tg_X9_layHand im_X9_layHand se_X9_layHand rfl (by decide) (fun x hx => kX9_layHand κ.1 κ.2.1 v0 h x hx) (by decide) (by decide) rfl rfl (Nat.le_of_ble_eq_true rfl) (fun h5 => ?_)
    show xJ iX9_end κ _ 23 [(0, .ref v0), (1, .int v1)] [] h5 _
    refine j_aload_n 0 dX9_end_23 rfl rfl ?_
    refine j_bipush (x := 10) dX9_end_24 (by decide) ?_
    refine j_callV (as := [.int 10]) (fun _ => none) (fun x => x) 9 18 dX9_end_26 ml_RX9_125 tg_X9_goTill im_X9_goTill se_X9_goTill rfl (by decide) (fun x hx => kX9_goTill κ.1 κ.2.1 v0 10 h5 x hx) (by decide) (by decide) rfl rfl (Nat.le_of_ble_eq_true rfl) (fun h6 => ?_)
    show xJ iX9_end κ _ 29 [(0, .ref v0), (1, .int v1)] [] h6 _
    refine j_aload_n 0 dX9_end_29 rfl rfl ?_
    refine j_getR 9 18 6 dX9_end_30 fl_RX9_27 (by decide) rfl (by decide) (fun _ _ _ => rfl) (fun x7 => ?_)
    refine j_iload_n 1 dX9_end_33 rfl rfl ?_
    refine j_if_ne (tgt := 41) dX9_end_34 (by decide) (fun c8 => ?_) (fun c8 => ?_)
    · refine j_iconst (x := 5) dX9_end_37 (by decide) ?_
      refine j_goto (tgt := 53) dX9_end_38 (by decide) ?_
      refine j_pick [] rfl ?_
      exact hj53 (5, x7, h6)
    · refine j_iload_n 1 dX9_end_41 rfl rfl ?_
      refine j_iconst (x := 1) dX9_end_42 (by decide) ?_
      refine j_icmp_ne (tgt := 51) dX9_end_43 (by decide) (fun c9 => ?_) (fun c9 => ?_)
      · refine j_bipush (x := 6) dX9_end_46 (by decide) ?_
        refine j_goto (tgt := 53) dX9_end_48 (by decide) ?_
        refine j_pick [] rfl ?_
        exact hj53 (6, x7, h6)
      · refine j_bipush (x := 7) dX9_end_51 (by decide) ?_
        refine j_pick [] rfl ?_
        exact hj53 (7, x7, h6)
def fX8_refuseOtherBad (v0 : Nat) (h : Hp) : Option (Int32 × Hp) :=
  (xgI h v0 (8, 12) 9).bind fun x1 => (xpI h v0 (8, 12) 9 (x1 + 1)).bind fun h2 => some ((-10), h2)
abbrev iX8_refuseOtherBad : xI := (cX8_refuseOtherBad, yX8_refuseOtherBad.cls, yX8_refuseOtherBad.name, some .int, 1, 2)
set_option maxHeartbeats 4000000 in
set_option maxRecDepth 100000 in
theorem kX8_refuseOtherBad (l : Launch) (η : xEnv) (v0 : Nat) (h : Hp) (x : Int32 × Hp) (hx : fX8_refuseOtherBad v0 h = some x) : xC l η yX8_refuseOtherBad cX8_refuseOtherBad 1 (some .int) 2 [.ref v0] h (some (.int x.1)) x.2 := by
  refine xC_of (by decide) (Nat.le_of_ble_eq_true rfl) hx (fun κ x => κ.2.2.2.1 = some (.int x.1) ∧ κ.2.2.2.2 = x.2) ⟨rfl, rfl⟩ (fun κ => ?_)
  show xJ iX8_refuseOtherBad κ _ 0 [(0, .ref v0)] [] h (fX8_refuseOtherBad v0 h)
  unfold fX8_refuseOtherBad
  refine j_aload_n 0 dX8_refuseOtherBad_0 rfl rfl ?_
  refine j_dup dX8_refuseOtherBad_1 rfl ?_
  refine j_getI 8 12 9 dX8_refuseOtherBad_2 fl_RX8_285 (by decide) rfl (by decide) rfl (fun x1 => ?_)
  refine j_iconst (x := 1) dX8_refuseOtherBad_5 (by decide) ?_
  refine j_iadd dX8_refuseOtherBad_6 ?_
  refine j_putI 8 12 9 dX8_refuseOtherBad_7 fl_RX8_285 (by decide) rfl (by decide) rfl rfl (fun h2 => ?_)
  refine j_bipush (x := (-10)) dX8_refuseOtherBad_10 (by decide) ?_
  exact j_iret ((-10), h2) dX8_refuseOtherBad_12 rfl (fun q => q)
def fX1_isCalm_j34 (v0 : Nat) (v1 : Nat) (v2 : Int32) (v3 : Int32) (v4 : Int32) (h : Hp) : Option ((Int32) ⊕ ((Unit) ⊕ (Unit))) :=
  some (Sum.inl (v4 + 1))
def fX1_isCalm_b3 (v0 : Nat) (v1 : Nat) (v2 : Int32) (v3 : Int32) (h : Hp) (s3 : Int32) : Option ((Int32) ⊕ ((Unit) ⊕ (Unit))) :=
  if (v2 : Int32) ≤ s3 then (some (Sum.inr (Sum.inr ()))) else ((xaI h v1 10 s3).bind fun x2 => if (x2 : Int32) = v3 then ((xgR h v0 (0, 16) 7).bind fun x4 => (xaI h x4 10 v2).bind fun x5 => (fX8_bit x5 s3 h).bind fun x6 => if (x6 : Int32) = 1 then (some (Sum.inr (Sum.inl ()))) else (fX1_isCalm_j34 v0 v1 v2 v3 s3 h)) else (fX1_isCalm_j34 v0 v1 v2 v3 s3 h))
def fX1_isCalm (v0 : Nat) (v1 : Nat) (v2 : Int32) (v3 : Int32) (h : Hp) : Option (Int32) :=
  (xloop (fX1_isCalm_b3 v0 v1 v2 v3 h) 1000000 0).bind (fun q => match q with | .inl r3 => (some 0) | .inr r3 => (some 1))
abbrev iX1_isCalm : xI := (cX1_isCalm, yX1_isCalm.cls, yX1_isCalm.name, some .boolean, 5, 3)
set_option maxHeartbeats 4000000 in
set_option maxRecDepth 100000 in
theorem kX1_isCalm (l : Launch) (η : xEnv) (v0 : Nat) (v1 : Nat) (v2 : Int32) (v3 : Int32) (h : Hp) (x : Int32) (hx : fX1_isCalm v0 v1 v2 v3 h = some x) : xC l η yX1_isCalm cX1_isCalm 5 (some .boolean) 3 [.ref v0, .ref v1, .int v2, .int v3] h (some (.int x)) h := by
  refine xC_of (by decide) (Nat.le_of_ble_eq_true rfl) hx (fun κ x => κ.2.2.2.1 = some (.int x) ∧ κ.2.2.2.2 = h) ⟨rfl, rfl⟩ (fun κ => ?_)
  show xJ iX1_isCalm κ _ 0 [(0, .ref v0), (1, .ref v1), (2, .int v2), (3, .int v3)] [] h (fX1_isCalm v0 v1 v2 v3 h)
  unfold fX1_isCalm
  refine j_iconst (x := 0) dX1_isCalm_0 (by decide) ?_
  refine j_istore (L' := [(4, .int 0), (0, .ref v0), (1, .ref v1), (2, .int v2), (3, .int v3)]) dX1_isCalm_1 (Nat.le_of_ble_eq_true rfl) rfl ?_
  refine j_pick [1, 2, 3, 4, 0] rfl ?_
  refine j_loop (pc := 3) (Lf := fun s3 : Int32 => [(0, .ref v0), (1, .ref v1), (2, .int v2), (3, .int v3), (4, .int s3)]) (Hf := fun s3 : Int32 => h) (fun s3 => ?_) 1000000 0
  show xJ iX1_isCalm κ _ 3 [(0, .ref v0), (1, .ref v1), (2, .int v2), (3, .int v3), (4, .int s3)] [] h (fX1_isCalm_b3 v0 v1 v2 v3 h s3)
  unfold fX1_isCalm_b3
  refine j_have (pj := 34) (Lf := fun v : Int32 => [(0, .ref v0), (1, .ref v1), (2, .int v2), (3, .int v3), (4, .int v)]) (Sf := fun v : Int32 => []) (Hf := fun v : Int32 => h) (jf := fun v : Int32 => fX1_isCalm_j34 v0 v1 v2 v3 v h) (fun v => ?_) (fun hj34 => ?_)
  · generalize v = v4
    show xJ iX1_isCalm κ _ 34 [(0, .ref v0), (1, .ref v1), (2, .int v2), (3, .int v3), (4, .int v4)] [] h (fX1_isCalm_j34 v0 v1 v2 v3 v4 h)
    unfold fX1_isCalm_j34
    refine j_iinc (y := v4 + 1) (L' := [(4, .int (v4 + 1)), (0, .ref v0), (1, .ref v1), (2, .int v2), (3, .int v3)]) 4 dX1_isCalm_34 rfl rfl (Nat.le_of_ble_eq_true rfl) rfl ?_
    refine j_goto (tgt := 3) dX1_isCalm_37 (by decide) ?_
    refine j_pick [1, 2, 3, 4, 0] rfl ?_
    exact j_again (v4 + 1) rfl rfl
  refine j_iload 4 dX1_isCalm_3 rfl ?_
  refine j_iload_n 2 dX1_isCalm_5 rfl rfl ?_
  refine j_icmp_ge (tgt := 40) dX1_isCalm_6 (by decide) (fun c1 => ?_) (fun c1 => ?_)
  · refine j_exit (Sum.inr ()) ?_
    try dsimp only
    refine j_iconst (x := 1) dX1_isCalm_40 (by decide) ?_
    exact j_zret 1 dX1_isCalm_41 rfl rfl (fun q => q)
  · refine j_aload_n 1 dX1_isCalm_9 rfl rfl ?_
    refine j_iload 4 dX1_isCalm_10 rfl ?_
    refine j_iald dX1_isCalm_12 (fun x2 => ?_)
    refine j_iload_n 3 dX1_isCalm_13 rfl rfl ?_
    refine j_icmp_ne (tgt := 34) dX1_isCalm_14 (by decide) (fun c3 => ?_) (fun c3 => ?_)
    · refine j_aload_n 0 dX1_isCalm_17 rfl rfl ?_
      refine j_getR 0 16 7 dX1_isCalm_18 fl_RX1_28 (by decide) rfl (by decide) (fun _ _ _ => rfl) (fun x4 => ?_)
      refine j_iload_n 2 dX1_isCalm_21 rfl rfl ?_
      refine j_iald dX1_isCalm_22 (fun x5 => ?_)
      refine j_iload 4 dX1_isCalm_23 rfl ?_
      refine j_callSN (as := [.int x5, .int s3]) (fun x => some (.int x)) (fun _ => h) dX1_isCalm_25 nl_RX1_31 tg_X8_bit st_X8_bit (fun x hx => kX8_bit κ.1 κ.2.1 x5 s3 h x hx) (by decide) (by decide) rfl rfl (Nat.le_of_ble_eq_true rfl) (fun x6 => ?_)
      show xJ iX1_isCalm κ _ 28 [(0, .ref v0), (1, .ref v1), (2, .int v2), (3, .int v3), (4, .int s3)] [.int x6] h _
      refine j_iconst (x := 1) dX1_isCalm_28 (by decide) ?_
      refine j_icmp_ne (tgt := 34) dX1_isCalm_29 (by decide) (fun c7 => ?_) (fun c7 => ?_)
      · refine j_exit (Sum.inl ()) ?_
        try dsimp only
        refine j_iconst (x := 0) dX1_isCalm_32 (by decide) ?_
        exact j_zret 0 dX1_isCalm_33 rfl rfl (fun q => q)
      · refine j_pick [0, 1, 2, 3, 4] rfl ?_
        exact hj34 s3
    · refine j_pick [0, 1, 2, 3, 4] rfl ?_
      exact hj34 s3
def fX1_canPlace_j14 (rf : Nat → Nat → Int32 → Int32 → Hp → Option (Int32 × Hp))  (h : Hp) : Option (Int32 × Hp) :=
  some (1, h)
def fX1_canPlace_j58 (rf : Nat → Nat → Int32 → Int32 → Hp → Option (Int32 × Hp)) (v0 : Nat) (v1 : Nat) (v2 : Int32) (v3 : Int32) (v4 : Int32) (h : Hp) : Option ((Int32 × Hp) ⊕ ((Hp) ⊕ (Hp))) :=
  some (Sum.inl (v4 + 1, h))
def fX1_canPlace_b19 (rf : Nat → Nat → Int32 → Int32 → Hp → Option (Int32 × Hp)) (v0 : Nat) (v1 : Nat) (v2 : Int32) (v3 : Int32) (s19 : Int32 × Hp) : Option ((Int32 × Hp) ⊕ ((Hp) ⊕ (Hp))) :=
  if (v3 : Int32) ≤ s19.1 then (some (Sum.inr (Sum.inr s19.2))) else ((fX1_isCalm v0 v1 v2 s19.1 s19.2).bind fun x5 => if (x5 : Int32) = 0 then (fX1_canPlace_j58 rf v0 v1 v2 v3 s19.1 s19.2) else ((xsI s19.2 v1 v2 s19.1).bind fun h7 => (rf v0 v1 (v2 + 1) v3 h7).bind fun q8 => if (q8.1 : Int32) = 0 then (fX1_canPlace_j58 rf v0 v1 v2 v3 s19.1 q8.2) else (some (Sum.inr (Sum.inl q8.2)))))
def fX1_canPlace_body (rf : Nat → Nat → Int32 → Int32 → Hp → Option (Int32 × Hp)) (v0 : Nat) (v1 : Nat) (v2 : Int32) (v3 : Int32) (h : Hp) : Option (Int32 × Hp) :=
  (xgI h v0 (0, 16) 2).bind fun x1 => if (x1 : Int32) ≤ v2 then (fX1_canPlace_j14 rf h) else (if (v2 : Int32) < 7 then ((xloop (fX1_canPlace_b19 rf v0 v1 v2 v3) 1000000 (0, h)).bind (fun q => match q with | .inl r19 => (some (1, r19)) | .inr r19 => (some (0, r19)))) else (fX1_canPlace_j14 rf h))
def fX1_canPlace : Nat → Nat → Nat → Int32 → Int32 → Hp → Option (Int32 × Hp)
  | 0 => fun _ _ _ _ _ => none
  | d + 1 => fX1_canPlace_body (fX1_canPlace d)
abbrev iX1_canPlace (d : Nat) : xI := (cX1_canPlace, yX1_canPlace.cls, yX1_canPlace.name, some .boolean, 5, d + 1 + 4)
set_option maxHeartbeats 4000000 in
set_option maxRecDepth 100000 in
theorem kX1_canPlace : ∀ (d : Nat) (l : Launch) (η : xEnv) (v0 : Nat) (v1 : Nat) (v2 : Int32) (v3 : Int32) (h : Hp) (x : Int32 × Hp) (hx : fX1_canPlace d v0 v1 v2 v3 h = some x), xC l η yX1_canPlace cX1_canPlace 5 (some .boolean) (d + 4) [.ref v0, .ref v1, .int v2, .int v3] h (some (.int x.1)) x.2
  | 0 => fun _ _ _ _ _ _ _ _ hx => by simp [fX1_canPlace] at hx
  | d + 1 => fun l η v0 v1 v2 v3 h x hx => by
    have hrec := kX1_canPlace d
    refine xC_of (by decide) (Nat.le_of_ble_eq_true rfl) hx (fun κ x => κ.2.2.2.1 = some (.int x.1) ∧ κ.2.2.2.2 = x.2) ⟨rfl, rfl⟩ (fun κ => ?_)
    show xJ (iX1_canPlace d) κ _ 0 [(0, .ref v0), (1, .ref v1), (2, .int v2), (3, .int v3)] [] h (fX1_canPlace_body (fX1_canPlace d) v0 v1 v2 v3 h)
    unfold fX1_canPlace_body
    refine j_have (pj := 14) (Lf := fun v : Hp => []) (Sf := fun v : Hp => []) (Hf := fun v : Hp => v) (jf := fun v : Hp => fX1_canPlace_j14 (fX1_canPlace d) v) (fun v => ?_) (fun hj14 => ?_)
    · generalize v = h
      show xJ (iX1_canPlace d) κ _ 14 [] [] h (fX1_canPlace_j14 (fX1_canPlace d) h)
      unfold fX1_canPlace_j14
      refine j_iconst (x := 1) dX1_canPlace_14 (by decide) ?_
      exact j_zret (1, h) dX1_canPlace_15 rfl rfl (fun q => q)
    refine j_iload_n 2 dX1_canPlace_0 rfl rfl ?_
    refine j_aload_n 0 dX1_canPlace_1 rfl rfl ?_
    refine j_getI 0 16 2 dX1_canPlace_2 fl_RX1_19 (by decide) rfl (by decide) rfl (fun x1 => ?_)
    refine j_icmp_ge (tgt := 14) dX1_canPlace_5 (by decide) (fun c2 => ?_) (fun c2 => ?_)
    · refine j_pick [] rfl ?_
      exact hj14 h
    · refine j_iload_n 2 dX1_canPlace_8 rfl rfl ?_
      refine j_bipush (x := 7) dX1_canPlace_9 (by decide) ?_
      refine j_icmp_lt (tgt := 16) dX1_canPlace_11 (by decide) (fun c3 => ?_) (fun c3 => ?_)
      · refine j_iconst (x := 0) dX1_canPlace_16 (by decide) ?_
        refine j_istore (L' := [(4, .int 0), (0, .ref v0), (1, .ref v1), (2, .int v2), (3, .int v3)]) dX1_canPlace_17 (Nat.le_of_ble_eq_true rfl) rfl ?_
        refine j_pick [1, 2, 3, 4, 0] rfl ?_
        refine j_loop (pc := 19) (Lf := fun s19 : Int32 × Hp => [(0, .ref v0), (1, .ref v1), (2, .int v2), (3, .int v3), (4, .int s19.1)]) (Hf := fun s19 : Int32 × Hp => s19.2) (fun s19 => ?_) 1000000 (0, h)
        show xJ (iX1_canPlace d) κ _ 19 [(0, .ref v0), (1, .ref v1), (2, .int v2), (3, .int v3), (4, .int s19.1)] [] s19.2 (fX1_canPlace_b19 (fX1_canPlace d) v0 v1 v2 v3 s19)
        unfold fX1_canPlace_b19
        refine j_have (pj := 58) (Lf := fun v : Int32 × Hp => [(0, .ref v0), (1, .ref v1), (2, .int v2), (3, .int v3), (4, .int v.1)]) (Sf := fun v : Int32 × Hp => []) (Hf := fun v : Int32 × Hp => v.2) (jf := fun v : Int32 × Hp => fX1_canPlace_j58 (fX1_canPlace d) v0 v1 v2 v3 v.1 v.2) (fun v => ?_) (fun hj58 => ?_)
        · obtain ⟨v4, h⟩ := v
          show xJ (iX1_canPlace d) κ _ 58 [(0, .ref v0), (1, .ref v1), (2, .int v2), (3, .int v3), (4, .int v4)] [] h (fX1_canPlace_j58 (fX1_canPlace d) v0 v1 v2 v3 v4 h)
          unfold fX1_canPlace_j58
          refine j_iinc (y := v4 + 1) (L' := [(4, .int (v4 + 1)), (0, .ref v0), (1, .ref v1), (2, .int v2), (3, .int v3)]) 4 dX1_canPlace_58 rfl rfl (Nat.le_of_ble_eq_true rfl) rfl ?_
          refine j_goto (tgt := 19) dX1_canPlace_61 (by decide) ?_
          refine j_pick [1, 2, 3, 4, 0] rfl ?_
          exact j_again (v4 + 1, h) rfl rfl
        refine j_iload 4 dX1_canPlace_19 rfl ?_
        refine j_iload_n 3 dX1_canPlace_21 rfl rfl ?_
        refine j_icmp_ge (tgt := 64) dX1_canPlace_22 (by decide) (fun c4 => ?_) (fun c4 => ?_)
        · refine j_exit (Sum.inr s19.2) ?_
          try dsimp only
          refine j_iconst (x := 0) dX1_canPlace_64 (by decide) ?_
          exact j_zret (0, s19.2) dX1_canPlace_65 rfl rfl (fun q => q)
        · refine j_aload_n 0 dX1_canPlace_25 rfl rfl ?_
          refine j_aload_n 1 dX1_canPlace_26 rfl rfl ?_
          refine j_iload_n 2 dX1_canPlace_27 rfl rfl ?_
          refine j_iload 4 dX1_canPlace_28 rfl ?_
          refine j_callS (as := [.ref v0, .ref v1, .int v2, .int s19.1]) (fun x => some (.int x)) (fun _ => s19.2) dX1_canPlace_30 ml_RX1_25 tg_X1_isCalm st_X1_isCalm (fun x hx => kX1_isCalm κ.1 κ.2.1 v0 v1 v2 s19.1 s19.2 x hx) (show 3 + 1 ≤ d + 1 + 4 by omega) (by decide) rfl rfl (Nat.le_of_ble_eq_true rfl) (fun x5 => ?_)
          show xJ (iX1_canPlace d) κ _ 33 [(0, .ref v0), (1, .ref v1), (2, .int v2), (3, .int v3), (4, .int s19.1)] [.int x5] s19.2 _
          refine j_if_ne (tgt := 39) dX1_canPlace_33 (by decide) (fun c6 => ?_) (fun c6 => ?_)
          · refine j_goto (tgt := 58) dX1_canPlace_36 (by decide) ?_
            refine j_pick [0, 1, 2, 3, 4] rfl ?_
            exact hj58 (s19.1, s19.2)
          · refine j_aload_n 1 dX1_canPlace_39 rfl rfl ?_
            refine j_iload_n 2 dX1_canPlace_40 rfl rfl ?_
            refine j_iload 4 dX1_canPlace_41 rfl ?_
            refine j_iast dX1_canPlace_43 (fun h7 => ?_)
            refine j_aload_n 0 dX1_canPlace_44 rfl rfl ?_
            refine j_aload_n 1 dX1_canPlace_45 rfl rfl ?_
            refine j_iload_n 2 dX1_canPlace_46 rfl rfl ?_
            refine j_iconst (x := 1) dX1_canPlace_47 (by decide) ?_
            refine j_iadd dX1_canPlace_48 ?_
            refine j_iload_n 3 dX1_canPlace_49 rfl rfl ?_
            refine j_callS (as := [.ref v0, .ref v1, .int (v2 + 1), .int v3]) (fun x => some (.int x.1)) (fun x => x.2) dX1_canPlace_50 ml_RX1_15 tg_X1_canPlace st_X1_canPlace (fun x hx => hrec κ.1 κ.2.1 v0 v1 (v2 + 1) v3 h7 x hx) (show d + 4 + 1 ≤ d + 1 + 4 by omega) (by decide) rfl rfl (Nat.le_of_ble_eq_true rfl) (fun q8 => ?_)
            show xJ (iX1_canPlace d) κ _ 53 [(0, .ref v0), (1, .ref v1), (2, .int v2), (3, .int v3), (4, .int s19.1)] [.int q8.1] q8.2 _
            refine j_if_eq (tgt := 58) dX1_canPlace_53 (by decide) (fun c9 => ?_) (fun c9 => ?_)
            · refine j_pick [0, 1, 2, 3, 4] rfl ?_
              exact hj58 (s19.1, q8.2)
            · refine j_exit (Sum.inl q8.2) ?_
              try dsimp only
              refine j_iconst (x := 1) dX1_canPlace_56 (by decide) ?_
              exact j_zret (1, q8.2) dX1_canPlace_57 rfl rfl (fun q => q)
      · refine j_pick [] rfl ?_
        exact hj14 h
def fX1_fewest_b2 (v0 : Nat) (v1 : Nat) (s2 : Int32 × Hp) : Option ((Int32 × Hp) ⊕ ((Int32 × Hp) ⊕ (Hp))) :=
  if (7 : Int32) < s2.1 then (some (Sum.inr (Sum.inr s2.2))) else ((xgR s2.2 v0 (1, 1) 0).bind fun x2 => (fX1_canPlace 10 v1 x2 0 s2.1 s2.2).bind fun q3 => if (q3.1 : Int32) = 0 then (some (Sum.inl (s2.1 + 1, q3.2))) else (some (Sum.inr (Sum.inl (s2.1, q3.2)))))
def fX1_fewest (v0 : Nat) (v1 : Nat) (h : Hp) : Option (Int32 × Hp) :=
  (xloop (fX1_fewest_b2 v0 v1) 1000000 (0, h)).bind (fun q => match q with | .inl r2 => (some (r2.1, r2.2)) | .inr r2 => (some (7, r2)))
abbrev iX1_fewest : xI := (cX1_fewest, yX1_fewest.cls, yX1_fewest.name, some .int, 3, 15)
set_option maxHeartbeats 4000000 in
set_option maxRecDepth 100000 in
theorem kX1_fewest (l : Launch) (η : xEnv) (v0 : Nat) (v1 : Nat) (h : Hp) (x : Int32 × Hp) (hx : fX1_fewest v0 v1 h = some x) : xC l η yX1_fewest cX1_fewest 3 (some .int) 15 [.ref v0, .ref v1] h (some (.int x.1)) x.2 := by
  refine xC_of (by decide) (Nat.le_of_ble_eq_true rfl) hx (fun κ x => κ.2.2.2.1 = some (.int x.1) ∧ κ.2.2.2.2 = x.2) ⟨rfl, rfl⟩ (fun κ => ?_)
  show xJ iX1_fewest κ _ 0 [(0, .ref v0), (1, .ref v1)] [] h (fX1_fewest v0 v1 h)
  unfold fX1_fewest
  refine j_iconst (x := 0) dX1_fewest_0 (by decide) ?_
  refine j_istore_n (L' := [(2, .int 0), (0, .ref v0), (1, .ref v1)]) dX1_fewest_1 rfl (Nat.le_of_ble_eq_true rfl) rfl ?_
  refine j_pick [1, 2, 0] rfl ?_
  refine j_loop (pc := 2) (Lf := fun s2 : Int32 × Hp => [(0, .ref v0), (1, .ref v1), (2, .int s2.1)]) (Hf := fun s2 : Int32 × Hp => s2.2) (fun s2 => ?_) 1000000 (0, h)
  show xJ iX1_fewest κ _ 2 [(0, .ref v0), (1, .ref v1), (2, .int s2.1)] [] s2.2 (fX1_fewest_b2 v0 v1 s2)
  unfold fX1_fewest_b2
  refine j_iload_n 2 dX1_fewest_2 rfl rfl ?_
  refine j_bipush (x := 7) dX1_fewest_3 (by decide) ?_
  refine j_icmp_gt (tgt := 29) dX1_fewest_5 (by decide) (fun c1 => ?_) (fun c1 => ?_)
  · refine j_exit (Sum.inr s2.2) ?_
    try dsimp only
    refine j_bipush (x := 7) dX1_fewest_29 (by decide) ?_
    exact j_iret (7, s2.2) dX1_fewest_31 rfl (fun q => q)
  · refine j_aload_n 1 dX1_fewest_8 rfl rfl ?_
    refine j_aload_n 0 dX1_fewest_9 rfl rfl ?_
    refine j_getR 1 1 0 dX1_fewest_10 fl_RX1_9 (by decide) rfl (by decide) (fun _ _ _ => rfl) (fun x2 => ?_)
    refine j_iconst (x := 0) dX1_fewest_13 (by decide) ?_
    refine j_iload_n 2 dX1_fewest_14 rfl rfl ?_
    refine j_callS (as := [.ref v1, .ref x2, .int 0, .int s2.1]) (fun x => some (.int x.1)) (fun x => x.2) dX1_fewest_15 ml_RX1_15 tg_X1_canPlace st_X1_canPlace (fun x hx => kX1_canPlace 10 κ.1 κ.2.1 v1 x2 0 s2.1 s2.2 x hx) (by decide) (by decide) rfl rfl (Nat.le_of_ble_eq_true rfl) (fun q3 => ?_)
    show xJ iX1_fewest κ _ 18 [(0, .ref v0), (1, .ref v1), (2, .int s2.1)] [.int q3.1] q3.2 _
    refine j_if_eq (tgt := 23) dX1_fewest_18 (by decide) (fun c4 => ?_) (fun c4 => ?_)
    · refine j_iinc (y := s2.1 + 1) (L' := [(2, .int (s2.1 + 1)), (0, .ref v0), (1, .ref v1)]) 2 dX1_fewest_23 rfl rfl (Nat.le_of_ble_eq_true rfl) rfl ?_
      refine j_goto (tgt := 2) dX1_fewest_26 (by decide) ?_
      refine j_pick [1, 2, 0] rfl ?_
      exact j_again (s2.1 + 1, q3.2) rfl rfl
    · refine j_exit (Sum.inl (s2.1, q3.2)) ?_
      try dsimp only
      refine j_iload_n 2 dX1_fewest_21 rfl rfl ?_
      exact j_iret (s2.1, q3.2) dX1_fewest_22 rfl (fun q => q)
def fX8_decks_j51 (t0 : Int32) (h : Hp) : Option (Int32 × Hp) :=
  some (t0, h)
def fX8_decks_j21 (v0 : Nat) (v1 : Int32) (h : Hp) : Option (Int32 × Hp) :=
  (xgR h v0 (8, 12) 4).bind fun x1 => (xgR h v0 (8, 12) 0).bind fun x2 => (xat h x1 (1, 1) (fX1_fewest x1 x2 h)).bind fun q3 => if (v1 : Int32) = (-1) then (fX8_decks_j51 q3.1 q3.2) else ((xgR q3.2 v0 (8, 12) 4).bind fun x5 => (xgR q3.2 x5 (1, 1) 0).bind fun x6 => (xaI q3.2 x6 10 v1).bind fun x7 => fX8_decks_j51 x7 q3.2)
def fX8_decks (v0 : Nat) (v1 : Int32) (h : Hp) : Option (Int32 × Hp) :=
  if (v1 : Int32) = (-1) then (fX8_decks_j21 v0 v1 h) else ((xgR h v0 (8, 12) 0).bind fun x9 => (xat h x9 (0, 16) (fX0_has x9 v1 h)).bind fun x10 => if (x10 : Int32) = 0 then ((xat h v0 (8, 12) (fX8_refuseOtherBad v0 h)).bind fun q12 => some (q12.1, q12.2)) else (fX8_decks_j21 v0 v1 h))
abbrev iX8_decks : xI := (cX8_decks, yX8_decks.cls, yX8_decks.name, some .int, 3, 16)
set_option maxHeartbeats 4000000 in
set_option maxRecDepth 100000 in
theorem kX8_decks (l : Launch) (η : xEnv) (v0 : Nat) (v1 : Int32) (h : Hp) (x : Int32 × Hp) (hx : fX8_decks v0 v1 h = some x) : xC l η yX8_decks cX8_decks 3 (some .int) 16 [.ref v0, .int v1] h (some (.int x.1)) x.2 := by
  refine xC_of (by decide) (Nat.le_of_ble_eq_true rfl) hx (fun κ x => κ.2.2.2.1 = some (.int x.1) ∧ κ.2.2.2.2 = x.2) ⟨rfl, rfl⟩ (fun κ => ?_)
  show xJ iX8_decks κ _ 0 [(0, .ref v0), (1, .int v1)] [] h (fX8_decks v0 v1 h)
  unfold fX8_decks
  refine j_have (pj := 51) (Lf := fun v : Int32 × Hp => []) (Sf := fun v : Int32 × Hp => [.int v.1]) (Hf := fun v : Int32 × Hp => v.2) (jf := fun v : Int32 × Hp => fX8_decks_j51 v.1 v.2) (fun v => ?_) (fun hj51 => ?_)
  · obtain ⟨t0, h⟩ := v
    show xJ iX8_decks κ _ 51 [] [.int t0] h (fX8_decks_j51 t0 h)
    unfold fX8_decks_j51
    exact j_iret (t0, h) dX8_decks_51 rfl (fun q => q)
  refine j_have (pj := 21) (Lf := fun v : Hp => [(0, .ref v0), (1, .int v1)]) (Sf := fun v : Hp => []) (Hf := fun v : Hp => v) (jf := fun v : Hp => fX8_decks_j21 v0 v1 v) (fun v => ?_) (fun hj21 => ?_)
  · generalize v = h
    show xJ iX8_decks κ _ 21 [(0, .ref v0), (1, .int v1)] [] h (fX8_decks_j21 v0 v1 h)
    unfold fX8_decks_j21
    refine j_aload_n 0 dX8_decks_21 rfl rfl ?_
    refine j_getR 8 12 4 dX8_decks_22 fl_RX8_34 (by decide) rfl (by decide) (fun _ _ _ => rfl) (fun x1 => ?_)
    refine j_aload_n 0 dX8_decks_25 rfl rfl ?_
    refine j_getR 8 12 0 dX8_decks_26 fl_RX8_12 (by decide) rfl (by decide) (fun _ _ _ => rfl) (fun x2 => ?_)
    refine j_callV (as := [.ref x2]) (fun x => some (.int x.1)) (fun x => x.2) 1 1 dX8_decks_29 ml_RX8_214 tg_X1_fewest im_X1_fewest se_X1_fewest rfl (by decide) (fun x hx => kX1_fewest κ.1 κ.2.1 x1 x2 h x hx) (by decide) (by decide) rfl rfl (Nat.le_of_ble_eq_true rfl) (fun q3 => ?_)
    show xJ iX8_decks κ _ 32 [(0, .ref v0), (1, .int v1)] [.int q3.1] q3.2 _
    refine j_istore_n (L' := [(2, .int q3.1), (0, .ref v0), (1, .int v1)]) dX8_decks_32 rfl (Nat.le_of_ble_eq_true rfl) rfl ?_
    refine j_iload_n 2 dX8_decks_33 rfl rfl ?_
    refine j_iconst (x := (-1)) dX8_decks_34 (by decide) ?_
    refine j_icmp_ne (tgt := 42) dX8_decks_35 (by decide) (fun c4 => ?_) (fun c4 => ?_)
    · refine j_iload_n 0 dX8_decks_38 rfl rfl ?_
      refine j_goto (tgt := 51) dX8_decks_39 (by decide) ?_
      refine j_pick [] rfl ?_
      exact hj51 (q3.1, q3.2)
    · refine j_aload_n 1 dX8_decks_42 rfl rfl ?_
      refine j_getR 8 12 4 dX8_decks_43 fl_RX8_34 (by decide) rfl (by decide) (fun _ _ _ => rfl) (fun x5 => ?_)
      refine j_getR 1 1 0 dX8_decks_46 fl_RX8_218 (by decide) rfl (by decide) (fun _ _ _ => rfl) (fun x6 => ?_)
      refine j_iload_n 2 dX8_decks_49 rfl rfl ?_
      refine j_iald dX8_decks_50 (fun x7 => ?_)
      refine j_pick [] rfl ?_
      exact hj51 (x7, q3.2)
  refine j_iload_n 1 dX8_decks_0 rfl rfl ?_
  refine j_iconst (x := (-1)) dX8_decks_1 (by decide) ?_
  refine j_icmp_eq (tgt := 21) dX8_decks_2 (by decide) (fun c8 => ?_) (fun c8 => ?_)
  · refine j_pick [0, 1] rfl ?_
    exact hj21 h
  · refine j_aload_n 0 dX8_decks_5 rfl rfl ?_
    refine j_getR 8 12 0 dX8_decks_6 fl_RX8_12 (by decide) rfl (by decide) (fun _ _ _ => rfl) (fun x9 => ?_)
    refine j_iload_n 1 dX8_decks_9 rfl rfl ?_
    refine j_callV (as := [.int v1]) (fun x => some (.int x)) (fun _ => h) 0 16 dX8_decks_10 ml_RX8_162 tg_X0_has im_X0_has se_X0_has rfl (by decide) (fun x hx => kX0_has κ.1 κ.2.1 x9 v1 h x hx) (by decide) (by decide) rfl rfl (Nat.le_of_ble_eq_true rfl) (fun x10 => ?_)
    show xJ iX8_decks κ _ 13 [(0, .ref v0), (1, .int v1)] [.int x10] h _
    refine j_if_ne (tgt := 21) dX8_decks_13 (by decide) (fun c11 => ?_) (fun c11 => ?_)
    · refine j_aload_n 0 dX8_decks_16 rfl rfl ?_
      refine j_callV (as := []) (fun x => some (.int x.1)) (fun x => x.2) 8 12 dX8_decks_17 ml_RX8_211 tg_X8_refuseOtherBad im_X8_refuseOtherBad se_X8_refuseOtherBad rfl (by decide) (fun x hx => kX8_refuseOtherBad κ.1 κ.2.1 v0 h x hx) (by decide) (by decide) rfl rfl (Nat.le_of_ble_eq_true rfl) (fun q12 => ?_)
      show xJ iX8_decks κ _ 20 [(0, .ref v0), (1, .int v1)] [.int q12.1] q12.2 _
      exact j_iret (q12.1, q12.2) dX8_decks_20 rfl (fun q => q)
    · refine j_pick [0, 1] rfl ?_
      exact hj21 h
def fX9_layDecks_j92 (v0 : Nat) (v2 : Int32) (v3 : Int32) (v5 : Int32) (v6 : Int32) (t0 : Int32) (h : Hp) : Option ((Int32 × Int32) ⊕ ((Nat × Int32 × Int32 × Int32 × Int32))) :=
  some (Sum.inl (t0, v6 + 1))
def fX9_layDecks_j91 (v0 : Nat) (v2 : Int32) (v3 : Int32) (v5 : Int32) (v6 : Int32) (h : Hp) : Option ((Int32 × Int32) ⊕ ((Nat × Int32 × Int32 × Int32 × Int32))) :=
  fX9_layDecks_j92 v0 v2 v3 v5 v6 0 h
def fX9_layDecks_j87 (v0 : Nat) (v2 : Int32) (v3 : Int32) (v5 : Int32) (v6 : Int32) (h : Hp) : Option ((Int32 × Int32) ⊕ ((Nat × Int32 × Int32 × Int32 × Int32))) :=
  fX9_layDecks_j92 v0 v2 v3 v5 v6 1 h
def fX9_layDecks_b38 (v0 : Nat) (v2 : Int32) (v3 : Int32) (v5 : Int32) (h : Hp) (s38 : Int32 × Int32) : Option ((Int32 × Int32) ⊕ ((Nat × Int32 × Int32 × Int32 × Int32))) :=
  (xat h v0 (9, 18) (fX9_many v0 h)).bind fun x7 => if (x7 : Int32) ≤ s38.2 then (some (Sum.inr (v0, v2, v3, s38.1, v5))) else (if (s38.1 : Int32) = 0 then (fX9_layDecks_j91 v0 v2 v3 v5 s38.2 h) else ((xgR h v0 (9, 18) 7).bind fun x10 => (xaI h x10 10 s38.2).bind fun x11 => (xgR h v0 (9, 18) 7).bind fun x12 => (xaI h x12 10 v5).bind fun x13 => if (x11 : Int32) = x13 then ((xgR h v0 (9, 18) 0).bind fun x15 => (xaI h x15 10 (47 + v5)).bind fun x16 => (fX9_has x16 s38.2 h).bind fun x17 => if (x17 : Int32) = 0 then (fX9_layDecks_j87 v0 v2 v3 v5 s38.2 h) else (fX9_layDecks_j91 v0 v2 v3 v5 s38.2 h)) else (fX9_layDecks_j87 v0 v2 v3 v5 s38.2 h)))
def fX9_layDecks_b13 (v0 : Nat) (v2 : Int32) (s13 : Int32 × Int32 × Int32 × Hp) : Option ((Int32 × Int32 × Int32 × Hp) ⊕ ((Int32 × Hp))) :=
  if (s13.2.2.1 : Int32) < 0 then (some (Sum.inr (s13.2.1, s13.2.2.2))) else ((xgR s13.2.2.2 v0 (9, 18) 7).bind fun x3 => if (v2 : Int32) = 0 then none else (xsI s13.2.2.2 x3 s13.2.2.1 (s13.1 - s13.1 / v2 * v2)).bind fun h5 => if (v2 : Int32) = 0 then none else (xloop (fX9_layDecks_b38 v0 v2 (s13.1 / v2) s13.2.2.1 h5) 1000000 (s13.2.1, s13.2.2.1 + 1)).bind (fun r38 => some (Sum.inl (r38.2.2.1, r38.2.2.2.1, r38.2.2.2.2 + (-1), h5))))
def fX9_layDecks (v0 : Nat) (v1 : Int32) (v2 : Int32) (h : Hp) : Option (Int32 × Hp) :=
  (xat h v0 (9, 18) (fX9_many v0 h)).bind fun x1 => (xloop (fX9_layDecks_b13 v0 v2) 1000000 (v1, 1, x1 - 1, h)).bind (fun r13 => if vp_nar .boolean r13.1 = r13.1 then some (r13.1, r13.2) else none)
abbrev iX9_layDecks : xI := (cX9_layDecks, yX9_layDecks.cls, yX9_layDecks.name, some .boolean, 7, 3)
set_option maxHeartbeats 4000000 in
set_option maxRecDepth 100000 in
theorem kX9_layDecks (l : Launch) (η : xEnv) (v0 : Nat) (v1 : Int32) (v2 : Int32) (h : Hp) (x : Int32 × Hp) (hx : fX9_layDecks v0 v1 v2 h = some x) : xC l η yX9_layDecks cX9_layDecks 7 (some .boolean) 3 [.ref v0, .int v1, .int v2] h (some (.int x.1)) x.2 := by
  refine xC_of (by decide) (Nat.le_of_ble_eq_true rfl) hx (fun κ x => κ.2.2.2.1 = some (.int x.1) ∧ κ.2.2.2.2 = x.2) ⟨rfl, rfl⟩ (fun κ => ?_)
  show xJ iX9_layDecks κ _ 0 [(0, .ref v0), (1, .int v1), (2, .int v2)] [] h (fX9_layDecks v0 v1 v2 h)
  unfold fX9_layDecks
  refine j_iload_n 1 dX9_layDecks_0 rfl rfl ?_
  refine j_istore_n (L' := [(3, .int v1), (0, .ref v0), (1, .int v1), (2, .int v2)]) dX9_layDecks_1 rfl (Nat.le_of_ble_eq_true rfl) rfl ?_
  refine j_iconst (x := 1) dX9_layDecks_2 (by decide) ?_
  refine j_istore (L' := [(4, .int 1), (3, .int v1), (0, .ref v0), (1, .int v1), (2, .int v2)]) dX9_layDecks_3 (Nat.le_of_ble_eq_true rfl) rfl ?_
  refine j_aload_n 2 dX9_layDecks_5 rfl rfl ?_
  refine j_callV (as := []) (fun x => some (.int x)) (fun _ => h) 9 18 dX9_layDecks_6 ml_RX9_52 tg_X9_many im_X9_many se_X9_many rfl (by decide) (fun x hx => kX9_many κ.1 κ.2.1 v0 h x hx) (by decide) (by decide) rfl rfl (Nat.le_of_ble_eq_true rfl) (fun x1 => ?_)
  show xJ iX9_layDecks κ _ 9 [(4, .int 1), (3, .int v1), (0, .ref v0), (1, .int v1), (2, .int v2)] [.int x1] h _
  refine j_iconst (x := 1) dX9_layDecks_9 (by decide) ?_
  refine j_isub dX9_layDecks_10 ?_
  refine j_istore (L' := [(5, .int (x1 - 1)), (4, .int 1), (3, .int v1), (0, .ref v0), (1, .int v1), (2, .int v2)]) dX9_layDecks_11 (Nat.le_of_ble_eq_true rfl) rfl ?_
  refine j_pick [3, 5, 2, 1, 0] rfl ?_
  refine j_loop (pc := 13) (Lf := fun s13 : Int32 × Int32 × Int32 × Hp => [(0, .ref v0), (2, .int v2), (3, .int s13.1), (4, .int s13.2.1), (5, .int s13.2.2.1)]) (Hf := fun s13 : Int32 × Int32 × Int32 × Hp => s13.2.2.2) (fun s13 => ?_) 1000000 (v1, 1, x1 - 1, h)
  show xJ iX9_layDecks κ _ 13 [(0, .ref v0), (2, .int v2), (3, .int s13.1), (4, .int s13.2.1), (5, .int s13.2.2.1)] [] s13.2.2.2 (fX9_layDecks_b13 v0 v2 s13)
  unfold fX9_layDecks_b13
  refine j_iload 4 dX9_layDecks_13 rfl ?_
  refine j_if_lt (tgt := 106) dX9_layDecks_15 (by decide) (fun c2 => ?_) (fun c2 => ?_)
  · refine j_exit (s13.2.1, s13.2.2.2) ?_
    show xJ iX9_layDecks κ _ _ _ _ _ (if vp_nar .boolean s13.2.1 = s13.2.1 then some (s13.2.1, s13.2.2.2) else none)
    refine j_iload 3 dX9_layDecks_106 rfl ?_
    exact j_zretc (s13.2.1, s13.2.2.2) dX9_layDecks_108 rfl (fun q => q)
  · refine j_aload_n 0 dX9_layDecks_18 rfl rfl ?_
    refine j_getR 9 18 7 dX9_layDecks_19 fl_RX9_30 (by decide) rfl (by decide) (fun _ _ _ => rfl) (fun x3 => ?_)
    refine j_iload 4 dX9_layDecks_22 rfl ?_
    refine j_iload_n 2 dX9_layDecks_24 rfl rfl ?_
    refine j_iload_n 1 dX9_layDecks_25 rfl rfl ?_
    refine j_irem dX9_layDecks_26 (fun c4 => ?_)
    refine j_iast dX9_layDecks_27 (fun h5 => ?_)
    refine j_iload_n 2 dX9_layDecks_28 rfl rfl ?_
    refine j_iload_n 1 dX9_layDecks_29 rfl rfl ?_
    refine j_idiv dX9_layDecks_30 (fun c6 => ?_)
    refine j_istore_n (L' := [(3, .int (s13.1 / v2)), (0, .ref v0), (2, .int v2), (4, .int s13.2.1), (5, .int s13.2.2.1)]) dX9_layDecks_31 rfl (Nat.le_of_ble_eq_true rfl) rfl ?_
    refine j_iload 4 dX9_layDecks_32 rfl ?_
    refine j_iconst (x := 1) dX9_layDecks_34 (by decide) ?_
    refine j_iadd dX9_layDecks_35 ?_
    refine j_istore (L' := [(6, .int (s13.2.2.1 + 1)), (3, .int (s13.1 / v2)), (0, .ref v0), (2, .int v2), (4, .int s13.2.1), (5, .int s13.2.2.1)]) dX9_layDecks_36 (Nat.le_of_ble_eq_true rfl) rfl ?_
    refine j_pick [2, 3, 1, 4, 5, 0] rfl ?_
    refine j_loop (pc := 38) (Lf := fun s38 : Int32 × Int32 => [(0, .ref v0), (2, .int v2), (3, .int (s13.1 / v2)), (4, .int s38.1), (5, .int s13.2.2.1), (6, .int s38.2)]) (Hf := fun s38 : Int32 × Int32 => h5) (fun s38 => ?_) 1000000 (s13.2.1, s13.2.2.1 + 1)
    show xJ iX9_layDecks κ _ 38 [(0, .ref v0), (2, .int v2), (3, .int (s13.1 / v2)), (4, .int s38.1), (5, .int s13.2.2.1), (6, .int s38.2)] [] h5 (fX9_layDecks_b38 v0 v2 (s13.1 / v2) s13.2.2.1 h5 s38)
    unfold fX9_layDecks_b38
    refine j_have (pj := 92) (Lf := fun v : Int32 × Int32 => [(0, .ref v0), (2, .int v2), (3, .int (s13.1 / v2)), (5, .int s13.2.2.1), (6, .int v.1)]) (Sf := fun v : Int32 × Int32 => [.int v.2]) (Hf := fun v : Int32 × Int32 => h5) (jf := fun v : Int32 × Int32 => fX9_layDecks_j92 v0 v2 (s13.1 / v2) s13.2.2.1 v.1 v.2 h5) (fun v => ?_) (fun hj92 => ?_)
    · obtain ⟨v6, t0⟩ := v
      show xJ iX9_layDecks κ _ 92 [(0, .ref v0), (2, .int v2), (3, .int (s13.1 / v2)), (5, .int s13.2.2.1), (6, .int v6)] [.int t0] h5 (fX9_layDecks_j92 v0 v2 (s13.1 / v2) s13.2.2.1 v6 t0 h5)
      unfold fX9_layDecks_j92
      refine j_istore (L' := [(4, .int t0), (0, .ref v0), (2, .int v2), (3, .int (s13.1 / v2)), (5, .int s13.2.2.1), (6, .int v6)]) dX9_layDecks_92 (Nat.le_of_ble_eq_true rfl) rfl ?_
      refine j_iinc (y := v6 + 1) (L' := [(6, .int (v6 + 1)), (4, .int t0), (0, .ref v0), (2, .int v2), (3, .int (s13.1 / v2)), (5, .int s13.2.2.1)]) 5 dX9_layDecks_94 rfl rfl (Nat.le_of_ble_eq_true rfl) rfl ?_
      refine j_goto (tgt := 38) dX9_layDecks_97 (by decide) ?_
      refine j_pick [2, 3, 4, 1, 5, 0] rfl ?_
      exact j_again (t0, v6 + 1) rfl rfl
    refine j_have (pj := 91) (Lf := fun v : Int32 => [(0, .ref v0), (2, .int v2), (3, .int (s13.1 / v2)), (5, .int s13.2.2.1), (6, .int v)]) (Sf := fun v : Int32 => []) (Hf := fun v : Int32 => h5) (jf := fun v : Int32 => fX9_layDecks_j91 v0 v2 (s13.1 / v2) s13.2.2.1 v h5) (fun v => ?_) (fun hj91 => ?_)
    · generalize v = v6
      show xJ iX9_layDecks κ _ 91 [(0, .ref v0), (2, .int v2), (3, .int (s13.1 / v2)), (5, .int s13.2.2.1), (6, .int v6)] [] h5 (fX9_layDecks_j91 v0 v2 (s13.1 / v2) s13.2.2.1 v6 h5)
      unfold fX9_layDecks_j91
      refine j_iconst (x := 0) dX9_layDecks_91 (by decide) ?_
      refine j_pick [0, 1, 2, 3, 4] rfl ?_
      exact hj92 (v6, 0)
    refine j_have (pj := 87) (Lf := fun v : Int32 => [(0, .ref v0), (2, .int v2), (3, .int (s13.1 / v2)), (5, .int s13.2.2.1), (6, .int v)]) (Sf := fun v : Int32 => []) (Hf := fun v : Int32 => h5) (jf := fun v : Int32 => fX9_layDecks_j87 v0 v2 (s13.1 / v2) s13.2.2.1 v h5) (fun v => ?_) (fun hj87 => ?_)
    · generalize v = v6
      show xJ iX9_layDecks κ _ 87 [(0, .ref v0), (2, .int v2), (3, .int (s13.1 / v2)), (5, .int s13.2.2.1), (6, .int v6)] [] h5 (fX9_layDecks_j87 v0 v2 (s13.1 / v2) s13.2.2.1 v6 h5)
      unfold fX9_layDecks_j87
      refine j_iconst (x := 1) dX9_layDecks_87 (by decide) ?_
      refine j_goto (tgt := 92) dX9_layDecks_88 (by decide) ?_
      refine j_pick [0, 1, 2, 3, 4] rfl ?_
      exact hj92 (v6, 1)
    refine j_iload 5 dX9_layDecks_38 rfl ?_
    refine j_aload_n 0 dX9_layDecks_40 rfl rfl ?_
    refine j_callV (as := []) (fun x => some (.int x)) (fun _ => h5) 9 18 dX9_layDecks_41 ml_RX9_52 tg_X9_many im_X9_many se_X9_many rfl (by decide) (fun x hx => kX9_many κ.1 κ.2.1 v0 h5 x hx) (by decide) (by decide) rfl rfl (Nat.le_of_ble_eq_true rfl) (fun x7 => ?_)
    show xJ iX9_layDecks κ _ 44 [(0, .ref v0), (2, .int v2), (3, .int (s13.1 / v2)), (4, .int s38.1), (5, .int s13.2.2.1), (6, .int s38.2)] [.int x7, .int s38.2] h5 _
    refine j_icmp_ge (tgt := 100) dX9_layDecks_44 (by decide) (fun c8 => ?_) (fun c8 => ?_)
    · refine j_exit (v0, v2, (s13.1 / v2), s38.1, s13.2.2.1) ?_
      show xJ iX9_layDecks κ _ _ _ _ _ (some (Sum.inl ((s13.1 / v2), s38.1, s13.2.2.1 + (-1), h5)))
      refine j_iinc (y := s13.2.2.1 + (-1)) (L' := [(5, .int (s13.2.2.1 + (-1))), (0, .ref v0), (2, .int v2), (3, .int (s13.1 / v2)), (4, .int s38.1), (6, .int s38.2)]) 4 dX9_layDecks_100 rfl rfl (Nat.le_of_ble_eq_true rfl) rfl ?_
      refine j_goto (tgt := 13) dX9_layDecks_103 (by decide) ?_
      refine j_pick [1, 2, 3, 4, 0] rfl ?_
      exact j_again ((s13.1 / v2), s38.1, s13.2.2.1 + (-1), h5) rfl rfl
    · refine j_iload 3 dX9_layDecks_47 rfl ?_
      refine j_if_eq (tgt := 91) dX9_layDecks_49 (by decide) (fun c9 => ?_) (fun c9 => ?_)
      · refine j_pick [0, 1, 2, 4, 5] rfl ?_
        exact hj91 s38.2
      · refine j_aload_n 0 dX9_layDecks_52 rfl rfl ?_
        refine j_getR 9 18 7 dX9_layDecks_53 fl_RX9_30 (by decide) rfl (by decide) (fun _ _ _ => rfl) (fun x10 => ?_)
        refine j_iload 5 dX9_layDecks_56 rfl ?_
        refine j_iald dX9_layDecks_58 (fun x11 => ?_)
        refine j_aload_n 0 dX9_layDecks_59 rfl rfl ?_
        refine j_getR 9 18 7 dX9_layDecks_60 fl_RX9_30 (by decide) rfl (by decide) (fun _ _ _ => rfl) (fun x12 => ?_)
        refine j_iload 4 dX9_layDecks_63 rfl ?_
        refine j_iald dX9_layDecks_65 (fun x13 => ?_)
        refine j_icmp_ne (tgt := 87) dX9_layDecks_66 (by decide) (fun c14 => ?_) (fun c14 => ?_)
        · refine j_aload_n 0 dX9_layDecks_69 rfl rfl ?_
          refine j_getR 9 18 0 dX9_layDecks_70 fl_RX9_7 (by decide) rfl (by decide) (fun _ _ _ => rfl) (fun x15 => ?_)
          refine j_bipush (x := 47) dX9_layDecks_73 (by decide) ?_
          refine j_iload 4 dX9_layDecks_75 rfl ?_
          refine j_iadd dX9_layDecks_77 ?_
          refine j_iald dX9_layDecks_78 (fun x16 => ?_)
          refine j_iload 5 dX9_layDecks_79 rfl ?_
          refine j_callS (as := [.int x16, .int s38.2]) (fun x => some (.int x)) (fun _ => h5) dX9_layDecks_81 ml_RX9_97 tg_X9_has st_X9_has (fun x hx => kX9_has κ.1 κ.2.1 x16 s38.2 h5 x hx) (by decide) (by decide) rfl rfl (Nat.le_of_ble_eq_true rfl) (fun x17 => ?_)
          show xJ iX9_layDecks κ _ 84 [(0, .ref v0), (2, .int v2), (3, .int (s13.1 / v2)), (4, .int s38.1), (5, .int s13.2.2.1), (6, .int s38.2)] [.int x17] h5 _
          refine j_if_ne (tgt := 91) dX9_layDecks_84 (by decide) (fun c18 => ?_) (fun c18 => ?_)
          · refine j_pick [0, 1, 2, 4, 5] rfl ?_
            exact hj87 s38.2
          · refine j_pick [0, 1, 2, 4, 5] rfl ?_
            exact hj91 s38.2
        · refine j_pick [0, 1, 2, 4, 5] rfl ?_
          exact hj87 s38.2
def fX9_fewestDecks_b64 (v0 : Nat) (s64 : Int32 × Hp) : Option ((Int32 × Hp) ⊕ ((Nat × Hp))) :=
  (xat s64.2 v0 (9, 18) (fX9_many v0 s64.2)).bind fun x3 => if (x3 : Int32) ≤ s64.1 then (some (Sum.inr (v0, s64.2))) else ((xgR s64.2 v0 (9, 18) 7).bind fun x6 => (xsI s64.2 x6 s64.1 s64.1).bind fun h7 => some (Sum.inl (s64.1 + 1, h7)))
def fX9_fewestDecks_b34 (v0 : Nat) (v1 : Int32) (v2 : Int32) (s34 : Int32 × Hp) : Option ((Int32 × Hp) ⊕ ((Int32 × Hp) ⊕ (Nat × Int32 × Hp))) :=
  if (v2 : Int32) ≤ s34.1 then (some (Sum.inr (Sum.inr (v0, v1, s34.2)))) else ((xat s34.2 v0 (9, 18) (fX9_layDecks v0 s34.1 v1 s34.2)).bind fun q11 => if (q11.1 : Int32) = 0 then (some (Sum.inl (s34.1 + 1, q11.2))) else (some (Sum.inr (Sum.inl (v1, q11.2)))))
def fX9_fewestDecks_b14 (v0 : Nat) (v1 : Int32) (h : Hp) (s14 : Int32 × Int32) : Option ((Int32 × Int32) ⊕ ((Nat × Int32 × Int32))) :=
  (xat h v0 (9, 18) (fX9_many v0 h)).bind fun x8 => if (x8 : Int32) ≤ s14.2 then (some (Sum.inr (v0, v1, s14.1))) else (some (Sum.inl (s14.1 * v1, s14.2 + 1)))
def fX9_fewestDecks_b2 (v0 : Nat) (s2 : Int32 × Hp) : Option ((Int32 × Hp) ⊕ ((Int32 × Hp) ⊕ (Nat × Hp))) :=
  (xat s2.2 v0 (9, 18) (fX9_many v0 s2.2)).bind fun x1 => if (x1 : Int32) ≤ s2.1 then (some (Sum.inr (Sum.inr (v0, s2.2)))) else ((xloop (fX9_fewestDecks_b14 v0 s2.1 s2.2) 1000000 (1, 0)).bind (fun r14 => (xloop (fX9_fewestDecks_b34 r14.1 r14.2.1 r14.2.2) 1000000 (0, s2.2)).bind (fun q => match q with | .inl r34 => (some (Sum.inr (Sum.inl (r34.1, r34.2)))) | .inr r34 => (some (Sum.inl (r34.2.1 + 1, r34.2.2))))))
def fX9_fewestDecks (v0 : Nat) (h : Hp) : Option (Int32 × Hp) :=
  (xloop (fX9_fewestDecks_b2 v0) 1000000 (1, h)).bind (fun q => match q with | .inl r2 => (some (r2.1, r2.2)) | .inr r2 => ((xloop (fX9_fewestDecks_b64 r2.1) 1000000 (0, r2.2)).bind (fun r64 => (xat r64.2 r64.1 (9, 18) (fX9_many r64.1 r64.2)).bind fun x18 => some (x18, r64.2))))
abbrev iX9_fewestDecks : xI := (cX9_fewestDecks, yX9_fewestDecks.cls, yX9_fewestDecks.name, some .int, 4, 4)
set_option maxHeartbeats 4000000 in
set_option maxRecDepth 100000 in
theorem kX9_fewestDecks (l : Launch) (η : xEnv) (v0 : Nat) (h : Hp) (x : Int32 × Hp) (hx : fX9_fewestDecks v0 h = some x) : xC l η yX9_fewestDecks cX9_fewestDecks 4 (some .int) 4 [.ref v0] h (some (.int x.1)) x.2 := by
  refine xC_of (by decide) (Nat.le_of_ble_eq_true rfl) hx (fun κ x => κ.2.2.2.1 = some (.int x.1) ∧ κ.2.2.2.2 = x.2) ⟨rfl, rfl⟩ (fun κ => ?_)
  show xJ iX9_fewestDecks κ _ 0 [(0, .ref v0)] [] h (fX9_fewestDecks v0 h)
  unfold fX9_fewestDecks
  refine j_iconst (x := 1) dX9_fewestDecks_0 (by decide) ?_
  refine j_istore_n (L' := [(1, .int 1), (0, .ref v0)]) dX9_fewestDecks_1 rfl (Nat.le_of_ble_eq_true rfl) rfl ?_
  refine j_pick [1, 0] rfl ?_
  refine j_loop (pc := 2) (Lf := fun s2 : Int32 × Hp => [(0, .ref v0), (1, .int s2.1)]) (Hf := fun s2 : Int32 × Hp => s2.2) (fun s2 => ?_) 1000000 (1, h)
  show xJ iX9_fewestDecks κ _ 2 [(0, .ref v0), (1, .int s2.1)] [] s2.2 (fX9_fewestDecks_b2 v0 s2)
  unfold fX9_fewestDecks_b2
  refine j_iload_n 1 dX9_fewestDecks_2 rfl rfl ?_
  refine j_aload_n 0 dX9_fewestDecks_3 rfl rfl ?_
  refine j_callV (as := []) (fun x => some (.int x)) (fun _ => s2.2) 9 18 dX9_fewestDecks_4 ml_RX9_52 tg_X9_many im_X9_many se_X9_many rfl (by decide) (fun x hx => kX9_many κ.1 κ.2.1 v0 s2.2 x hx) (by decide) (by decide) rfl rfl (Nat.le_of_ble_eq_true rfl) (fun x1 => ?_)
  show xJ iX9_fewestDecks κ _ 7 [(0, .ref v0), (1, .int s2.1)] [.int x1, .int s2.1] s2.2 _
  refine j_icmp_ge (tgt := 62) dX9_fewestDecks_7 (by decide) (fun c2 => ?_) (fun c2 => ?_)
  · refine j_exit (Sum.inr (v0, s2.2)) ?_
    try dsimp only
    refine j_iconst (x := 0) dX9_fewestDecks_62 (by decide) ?_
    refine j_istore_n (L' := [(1, .int 0), (0, .ref v0)]) dX9_fewestDecks_63 rfl (Nat.le_of_ble_eq_true rfl) rfl ?_
    refine j_pick [1, 0] rfl ?_
    refine j_loop (pc := 64) (Lf := fun s64 : Int32 × Hp => [(0, .ref v0), (1, .int s64.1)]) (Hf := fun s64 : Int32 × Hp => s64.2) (fun s64 => ?_) 1000000 (0, s2.2)
    show xJ iX9_fewestDecks κ _ 64 [(0, .ref v0), (1, .int s64.1)] [] s64.2 (fX9_fewestDecks_b64 v0 s64)
    unfold fX9_fewestDecks_b64
    refine j_iload_n 1 dX9_fewestDecks_64 rfl rfl ?_
    refine j_aload_n 0 dX9_fewestDecks_65 rfl rfl ?_
    refine j_callV (as := []) (fun x => some (.int x)) (fun _ => s64.2) 9 18 dX9_fewestDecks_66 ml_RX9_52 tg_X9_many im_X9_many se_X9_many rfl (by decide) (fun x hx => kX9_many κ.1 κ.2.1 v0 s64.2 x hx) (by decide) (by decide) rfl rfl (Nat.le_of_ble_eq_true rfl) (fun x3 => ?_)
    show xJ iX9_fewestDecks κ _ 69 [(0, .ref v0), (1, .int s64.1)] [.int x3, .int s64.1] s64.2 _
    refine j_icmp_ge (tgt := 85) dX9_fewestDecks_69 (by decide) (fun c4 => ?_) (fun c4 => ?_)
    · refine j_exit (v0, s64.2) ?_
      show xJ iX9_fewestDecks κ _ _ _ _ _ ((xat s64.2 v0 (9, 18) (fX9_many v0 s64.2)).bind fun x5 => some (x5, s64.2))
      refine j_aload_n 0 dX9_fewestDecks_85 rfl rfl ?_
      refine j_callV (as := []) (fun x => some (.int x)) (fun _ => s64.2) 9 18 dX9_fewestDecks_86 ml_RX9_52 tg_X9_many im_X9_many se_X9_many rfl (by decide) (fun x hx => kX9_many κ.1 κ.2.1 v0 s64.2 x hx) (by decide) (by decide) rfl rfl (Nat.le_of_ble_eq_true rfl) (fun x5 => ?_)
      show xJ iX9_fewestDecks κ _ 89 [(0, .ref v0), (1, .int s64.1)] [.int x5] s64.2 _
      exact j_iret (x5, s64.2) dX9_fewestDecks_89 rfl (fun q => q)
    · refine j_aload_n 0 dX9_fewestDecks_72 rfl rfl ?_
      refine j_getR 9 18 7 dX9_fewestDecks_73 fl_RX9_30 (by decide) rfl (by decide) (fun _ _ _ => rfl) (fun x6 => ?_)
      refine j_iload_n 1 dX9_fewestDecks_76 rfl rfl ?_
      refine j_iload_n 1 dX9_fewestDecks_77 rfl rfl ?_
      refine j_iast dX9_fewestDecks_78 (fun h7 => ?_)
      refine j_iinc (y := s64.1 + 1) (L' := [(1, .int (s64.1 + 1)), (0, .ref v0)]) 1 dX9_fewestDecks_79 rfl rfl (Nat.le_of_ble_eq_true rfl) rfl ?_
      refine j_goto (tgt := 64) dX9_fewestDecks_82 (by decide) ?_
      refine j_pick [1, 0] rfl ?_
      exact j_again (s64.1 + 1, h7) rfl rfl
  · refine j_iconst (x := 1) dX9_fewestDecks_10 (by decide) ?_
    refine j_istore_n (L' := [(2, .int 1), (0, .ref v0), (1, .int s2.1)]) dX9_fewestDecks_11 rfl (Nat.le_of_ble_eq_true rfl) rfl ?_
    refine j_iconst (x := 0) dX9_fewestDecks_12 (by decide) ?_
    refine j_istore_n (L' := [(3, .int 0), (2, .int 1), (0, .ref v0), (1, .int s2.1)]) dX9_fewestDecks_13 rfl (Nat.le_of_ble_eq_true rfl) rfl ?_
    refine j_pick [2, 3, 1, 0] rfl ?_
    refine j_loop (pc := 14) (Lf := fun s14 : Int32 × Int32 => [(0, .ref v0), (1, .int s2.1), (2, .int s14.1), (3, .int s14.2)]) (Hf := fun s14 : Int32 × Int32 => s2.2) (fun s14 => ?_) 1000000 (1, 0)
    show xJ iX9_fewestDecks κ _ 14 [(0, .ref v0), (1, .int s2.1), (2, .int s14.1), (3, .int s14.2)] [] s2.2 (fX9_fewestDecks_b14 v0 s2.1 s2.2 s14)
    unfold fX9_fewestDecks_b14
    refine j_iload_n 3 dX9_fewestDecks_14 rfl rfl ?_
    refine j_aload_n 0 dX9_fewestDecks_15 rfl rfl ?_
    refine j_callV (as := []) (fun x => some (.int x)) (fun _ => s2.2) 9 18 dX9_fewestDecks_16 ml_RX9_52 tg_X9_many im_X9_many se_X9_many rfl (by decide) (fun x hx => kX9_many κ.1 κ.2.1 v0 s2.2 x hx) (by decide) (by decide) rfl rfl (Nat.le_of_ble_eq_true rfl) (fun x8 => ?_)
    show xJ iX9_fewestDecks κ _ 19 [(0, .ref v0), (1, .int s2.1), (2, .int s14.1), (3, .int s14.2)] [.int x8, .int s14.2] s2.2 _
    refine j_icmp_ge (tgt := 32) dX9_fewestDecks_19 (by decide) (fun c9 => ?_) (fun c9 => ?_)
    · refine j_exit (v0, s2.1, s14.1) ?_
      try dsimp only
      refine j_iconst (x := 0) dX9_fewestDecks_32 (by decide) ?_
      refine j_istore_n (L' := [(3, .int 0), (0, .ref v0), (1, .int s2.1), (2, .int s14.1)]) dX9_fewestDecks_33 rfl (Nat.le_of_ble_eq_true rfl) rfl ?_
      refine j_pick [1, 2, 3, 0] rfl ?_
      refine j_loop (pc := 34) (Lf := fun s34 : Int32 × Hp => [(0, .ref v0), (1, .int s2.1), (2, .int s14.1), (3, .int s34.1)]) (Hf := fun s34 : Int32 × Hp => s34.2) (fun s34 => ?_) 1000000 (0, s2.2)
      show xJ iX9_fewestDecks κ _ 34 [(0, .ref v0), (1, .int s2.1), (2, .int s14.1), (3, .int s34.1)] [] s34.2 (fX9_fewestDecks_b34 v0 s2.1 s14.1 s34)
      unfold fX9_fewestDecks_b34
      refine j_iload_n 3 dX9_fewestDecks_34 rfl rfl ?_
      refine j_iload_n 2 dX9_fewestDecks_35 rfl rfl ?_
      refine j_icmp_ge (tgt := 56) dX9_fewestDecks_36 (by decide) (fun c10 => ?_) (fun c10 => ?_)
      · refine j_exit (Sum.inr (v0, s2.1, s34.2)) ?_
        try dsimp only
        refine j_iinc (y := s2.1 + 1) (L' := [(1, .int (s2.1 + 1)), (0, .ref v0), (2, .int s14.1), (3, .int s34.1)]) 1 dX9_fewestDecks_56 rfl rfl (Nat.le_of_ble_eq_true rfl) rfl ?_
        refine j_goto (tgt := 2) dX9_fewestDecks_59 (by decide) ?_
        refine j_pick [1, 0] rfl ?_
        exact j_again (s2.1 + 1, s34.2) rfl rfl
      · refine j_aload_n 0 dX9_fewestDecks_39 rfl rfl ?_
        refine j_iload_n 3 dX9_fewestDecks_40 rfl rfl ?_
        refine j_iload_n 1 dX9_fewestDecks_41 rfl rfl ?_
        refine j_callV (as := [.int s34.1, .int s2.1]) (fun x => some (.int x.1)) (fun x => x.2) 9 18 dX9_fewestDecks_42 ml_RX9_133 tg_X9_layDecks im_X9_layDecks se_X9_layDecks rfl (by decide) (fun x hx => kX9_layDecks κ.1 κ.2.1 v0 s34.1 s2.1 s34.2 x hx) (by decide) (by decide) rfl rfl (Nat.le_of_ble_eq_true rfl) (fun q11 => ?_)
        show xJ iX9_fewestDecks κ _ 45 [(0, .ref v0), (1, .int s2.1), (2, .int s14.1), (3, .int s34.1)] [.int q11.1] q11.2 _
        refine j_if_eq (tgt := 50) dX9_fewestDecks_45 (by decide) (fun c12 => ?_) (fun c12 => ?_)
        · refine j_iinc (y := s34.1 + 1) (L' := [(3, .int (s34.1 + 1)), (0, .ref v0), (1, .int s2.1), (2, .int s14.1)]) 3 dX9_fewestDecks_50 rfl rfl (Nat.le_of_ble_eq_true rfl) rfl ?_
          refine j_goto (tgt := 34) dX9_fewestDecks_53 (by decide) ?_
          refine j_pick [1, 2, 3, 0] rfl ?_
          exact j_again (s34.1 + 1, q11.2) rfl rfl
        · refine j_exit (Sum.inl (s2.1, q11.2)) ?_
          try dsimp only
          refine j_exit (Sum.inl (s2.1, q11.2)) ?_
          try dsimp only
          refine j_iload_n 1 dX9_fewestDecks_48 rfl rfl ?_
          exact j_iret (s2.1, q11.2) dX9_fewestDecks_49 rfl (fun q => q)
    · refine j_iload_n 2 dX9_fewestDecks_22 rfl rfl ?_
      refine j_iload_n 1 dX9_fewestDecks_23 rfl rfl ?_
      refine j_imul dX9_fewestDecks_24 ?_
      refine j_istore_n (L' := [(2, .int (s14.1 * s2.1)), (0, .ref v0), (1, .int s2.1), (3, .int s14.2)]) dX9_fewestDecks_25 rfl (Nat.le_of_ble_eq_true rfl) rfl ?_
      refine j_iinc (y := s14.2 + 1) (L' := [(3, .int (s14.2 + 1)), (2, .int (s14.1 * s2.1)), (0, .ref v0), (1, .int s2.1)]) 3 dX9_fewestDecks_26 rfl rfl (Nat.le_of_ble_eq_true rfl) rfl ?_
      refine j_goto (tgt := 14) dX9_fewestDecks_29 (by decide) ?_
      refine j_pick [2, 3, 1, 0] rfl ?_
      exact j_again (s14.1 * s2.1, s14.2 + 1) rfl rfl
def fX9_decks_j45 (t0 : Int32) (h : Hp) : Option (Int32 × Hp) :=
  some (t0, h)
def fX9_decks (v0 : Nat) (v1 : Int32) (h : Hp) : Option (Int32 × Hp) :=
  (xat h v0 (9, 18) (fX9_many v0 h)).bind fun x1 => (fX9_in ((v1 : Int32).toInt64) (-1) (((x1 - 1) : Int32).toInt64) h).bind fun x2 => if (x2 : Int32) = 0 then ((xat h v0 (9, 18) (fX9_bad v0 (-10) h)).bind fun q4 => some (q4.1, q4.2)) else ((xat h v0 (9, 18) (fX9_fewestDecks v0 h)).bind fun q5 => if (v1 : Int32) = (-1) then (fX9_decks_j45 q5.1 q5.2) else ((xgR q5.2 v0 (9, 18) 7).bind fun x7 => (xaI q5.2 x7 10 v1).bind fun x8 => fX9_decks_j45 x8 q5.2))
abbrev iX9_decks : xI := (cX9_decks, yX9_decks.cls, yX9_decks.name, some .int, 3, 5)
set_option maxHeartbeats 4000000 in
set_option maxRecDepth 100000 in
theorem kX9_decks (l : Launch) (η : xEnv) (v0 : Nat) (v1 : Int32) (h : Hp) (x : Int32 × Hp) (hx : fX9_decks v0 v1 h = some x) : xC l η yX9_decks cX9_decks 3 (some .int) 5 [.ref v0, .int v1] h (some (.int x.1)) x.2 := by
  refine xC_of (by decide) (Nat.le_of_ble_eq_true rfl) hx (fun κ x => κ.2.2.2.1 = some (.int x.1) ∧ κ.2.2.2.2 = x.2) ⟨rfl, rfl⟩ (fun κ => ?_)
  show xJ iX9_decks κ _ 0 [(0, .ref v0), (1, .int v1)] [] h (fX9_decks v0 v1 h)
  unfold fX9_decks
  refine j_have (pj := 45) (Lf := fun v : Int32 × Hp => []) (Sf := fun v : Int32 × Hp => [.int v.1]) (Hf := fun v : Int32 × Hp => v.2) (jf := fun v : Int32 × Hp => fX9_decks_j45 v.1 v.2) (fun v => ?_) (fun hj45 => ?_)
  · obtain ⟨t0, h⟩ := v
    show xJ iX9_decks κ _ 45 [] [.int t0] h (fX9_decks_j45 t0 h)
    unfold fX9_decks_j45
    exact j_iret (t0, h) dX9_decks_45 rfl (fun q => q)
  refine j_iload_n 1 dX9_decks_0 rfl rfl ?_
  refine j_i2l dX9_decks_1 ?_
  refine j_ldc2 dX9_decks_2 cL_RX9_136 ?_
  refine j_aload_n 0 dX9_decks_5 rfl rfl ?_
  refine j_callV (as := []) (fun x => some (.int x)) (fun _ => h) 9 18 dX9_decks_6 ml_RX9_52 tg_X9_many im_X9_many se_X9_many rfl (by decide) (fun x hx => kX9_many κ.1 κ.2.1 v0 h x hx) (by decide) (by decide) rfl rfl (Nat.le_of_ble_eq_true rfl) (fun x1 => ?_)
  show xJ iX9_decks κ _ 9 [(0, .ref v0), (1, .int v1)] [.int x1, .long (-1), .long ((v1 : Int32).toInt64)] h _
  refine j_iconst (x := 1) dX9_decks_9 (by decide) ?_
  refine j_isub dX9_decks_10 ?_
  refine j_i2l dX9_decks_11 ?_
  refine j_callS (as := [.long ((v1 : Int32).toInt64), .long (-1), .long (((x1 - 1) : Int32).toInt64)]) (fun x => some (.int x)) (fun _ => h) dX9_decks_12 ml_RX9_56 tg_X9_in st_X9_in (fun x hx => kX9_in κ.1 κ.2.1 ((v1 : Int32).toInt64) (-1) (((x1 - 1) : Int32).toInt64) h x hx) (by decide) (by decide) rfl rfl (Nat.le_of_ble_eq_true rfl) (fun x2 => ?_)
  show xJ iX9_decks κ _ 15 [(0, .ref v0), (1, .int v1)] [.int x2] h _
  refine j_if_ne (tgt := 25) dX9_decks_15 (by decide) (fun c3 => ?_) (fun c3 => ?_)
  · refine j_aload_n 0 dX9_decks_18 rfl rfl ?_
    refine j_bipush (x := (-10)) dX9_decks_19 (by decide) ?_
    refine j_callV (as := [.int (-10)]) (fun x => some (.int x.1)) (fun x => x.2) 9 18 dX9_decks_21 ml_RX9_64 tg_X9_bad im_X9_bad se_X9_bad rfl (by decide) (fun x hx => kX9_bad κ.1 κ.2.1 v0 (-10) h x hx) (by decide) (by decide) rfl rfl (Nat.le_of_ble_eq_true rfl) (fun q4 => ?_)
    show xJ iX9_decks κ _ 24 [(0, .ref v0), (1, .int v1)] [.int q4.1] q4.2 _
    exact j_iret (q4.1, q4.2) dX9_decks_24 rfl (fun q => q)
  · refine j_aload_n 0 dX9_decks_25 rfl rfl ?_
    refine j_callV (as := []) (fun x => some (.int x.1)) (fun x => x.2) 9 18 dX9_decks_26 ml_RX9_138 tg_X9_fewestDecks im_X9_fewestDecks se_X9_fewestDecks rfl (by decide) (fun x hx => kX9_fewestDecks κ.1 κ.2.1 v0 h x hx) (by decide) (by decide) rfl rfl (Nat.le_of_ble_eq_true rfl) (fun q5 => ?_)
    show xJ iX9_decks κ _ 29 [(0, .ref v0), (1, .int v1)] [.int q5.1] q5.2 _
    refine j_istore_n (L' := [(2, .int q5.1), (0, .ref v0), (1, .int v1)]) dX9_decks_29 rfl (Nat.le_of_ble_eq_true rfl) rfl ?_
    refine j_iload_n 2 dX9_decks_30 rfl rfl ?_
    refine j_iconst (x := (-1)) dX9_decks_31 (by decide) ?_
    refine j_icmp_ne (tgt := 39) dX9_decks_32 (by decide) (fun c6 => ?_) (fun c6 => ?_)
    · refine j_iload_n 0 dX9_decks_35 rfl rfl ?_
      refine j_goto (tgt := 45) dX9_decks_36 (by decide) ?_
      refine j_pick [] rfl ?_
      exact hj45 (q5.1, q5.2)
    · refine j_aload_n 1 dX9_decks_39 rfl rfl ?_
      refine j_getR 9 18 7 dX9_decks_40 fl_RX9_30 (by decide) rfl (by decide) (fun _ _ _ => rfl) (fun x7 => ?_)
      refine j_iload_n 2 dX9_decks_43 rfl rfl ?_
      refine j_iald dX9_decks_44 (fun x8 => ?_)
      refine j_pick [] rfl ?_
      exact hj45 (x8, q5.2)
def fX3_startAnew (v0 : Nat) (v1 : Nat) (h : Hp) : Option (Hp) :=
  (xgR h v0 (3, 3) 0).bind fun x1 => (xat h x1 (5, 5) (fX5_startAnew x1 h)).bind fun h2 => (xat h2 v0 (3, 3) (fX3_boardAsTold v0 v1 h2)).bind fun h3 => some h3
abbrev iX3_startAnew : xI := (cX3_startAnew, yX3_startAnew.cls, yX3_startAnew.name, none, 2, 3)
set_option maxHeartbeats 4000000 in
set_option maxRecDepth 100000 in
theorem kX3_startAnew (l : Launch) (η : xEnv) (v0 : Nat) (v1 : Nat) (h : Hp) (x : Hp) (hx : fX3_startAnew v0 v1 h = some x) : xC l η yX3_startAnew cX3_startAnew 2 none 3 [.ref v0, .ref v1] h none x := by
  refine xC_of (by decide) (Nat.le_of_ble_eq_true rfl) hx (fun κ x => κ.2.2.2.1 = none ∧ κ.2.2.2.2 = x) ⟨rfl, rfl⟩ (fun κ => ?_)
  show xJ iX3_startAnew κ _ 0 [(0, .ref v0), (1, .ref v1)] [] h (fX3_startAnew v0 v1 h)
  unfold fX3_startAnew
  refine j_aload_n 0 dX3_startAnew_0 rfl rfl ?_
  refine j_getR 3 3 0 dX3_startAnew_1 fl_RX3_12 (by decide) rfl (by decide) (fun _ _ _ => rfl) (fun x1 => ?_)
  refine j_callV (as := []) (fun _ => none) (fun x => x) 5 5 dX3_startAnew_4 ml_RX3_33 tg_X5_startAnew im_X5_startAnew se_X5_startAnew rfl (by decide) (fun x hx => kX5_startAnew κ.1 κ.2.1 x1 h x hx) (by decide) (by decide) rfl rfl (Nat.le_of_ble_eq_true rfl) (fun h2 => ?_)
  show xJ iX3_startAnew κ _ 7 [(0, .ref v0), (1, .ref v1)] [] h2 _
  refine j_aload_n 0 dX3_startAnew_7 rfl rfl ?_
  refine j_aload_n 1 dX3_startAnew_8 rfl rfl ?_
  refine j_callV (as := [.ref v1]) (fun _ => none) (fun x => x) 3 3 dX3_startAnew_9 ml_RX3_29 tg_X3_boardAsTold im_X3_boardAsTold se_X3_boardAsTold rfl (by decide) (fun x hx => kX3_boardAsTold κ.1 κ.2.1 v0 v1 h2 x hx) (by decide) (by decide) rfl rfl (Nat.le_of_ble_eq_true rfl) (fun h3 => ?_)
  show xJ iX3_startAnew κ _ 12 [(0, .ref v0), (1, .ref v1)] [] h3 _
  exact j_vret h3 dX3_startAnew_12 rfl (fun q => q)
def fX3_missing (v0 : Nat) (h : Hp) : Option (Int32) :=
  (xgR h v0 (3, 3) 0).bind fun x1 => (xgI h x1 (5, 5) 3).bind fun x2 => (xgR h v0 (3, 3) 0).bind fun x3 => (xgI h x3 (5, 5) 2).bind fun x4 => (fJ6_bitCount_0f7a4 (x2 ||| x4) h).bind fun x5 => some x5
abbrev iX3_missing : xI := (cX3_missing, yX3_missing.cls, yX3_missing.name, some .int, 1, 3)
set_option maxHeartbeats 4000000 in
set_option maxRecDepth 100000 in
theorem kX3_missing (l : Launch) (η : xEnv) (v0 : Nat) (h : Hp) (x : Int32) (hx : fX3_missing v0 h = some x) : xC l η yX3_missing cX3_missing 1 (some .int) 3 [.ref v0] h (some (.int x)) h := by
  refine xC_of (by decide) (Nat.le_of_ble_eq_true rfl) hx (fun κ x => κ.2.2.2.1 = some (.int x) ∧ κ.2.2.2.2 = h) ⟨rfl, rfl⟩ (fun κ => ?_)
  show xJ iX3_missing κ _ 0 [(0, .ref v0)] [] h (fX3_missing v0 h)
  unfold fX3_missing
  refine j_aload_n 0 dX3_missing_0 rfl rfl ?_
  refine j_getR 3 3 0 dX3_missing_1 fl_RX3_12 (by decide) rfl (by decide) (fun _ _ _ => rfl) (fun x1 => ?_)
  refine j_getI 5 5 3 dX3_missing_4 fl_RX3_56 (by decide) rfl (by decide) rfl (fun x2 => ?_)
  refine j_aload_n 0 dX3_missing_7 rfl rfl ?_
  refine j_getR 3 3 0 dX3_missing_8 fl_RX3_12 (by decide) rfl (by decide) (fun _ _ _ => rfl) (fun x3 => ?_)
  refine j_getI 5 5 2 dX3_missing_11 fl_RX3_59 (by decide) rfl (by decide) rfl (fun x4 => ?_)
  refine j_ior dX3_missing_14 ?_
  refine j_callS (as := [.int (x2 ||| x4)]) (fun x => some (.int x)) (fun _ => h) dX3_missing_15 ml_RX3_62 tg_J6_bitCount_0f7a4 st_J6_bitCount_0f7a4 (fun x hx => kJ6_bitCount_0f7a4 κ.1 κ.2.1 (x2 ||| x4) h x hx) (by decide) (by decide) rfl rfl (Nat.le_of_ble_eq_true rfl) (fun x5 => ?_)
  show xJ iX3_missing κ _ 18 [(0, .ref v0)] [.int x5] h _
  exact j_iret x5 dX3_missing_18 rfl (fun q => q)
def fX3_missingIf_j22 (v0 : Nat) (v1 : Nat) (h : Hp) : Option (Int32 × Hp) :=
  (xat h v0 (3, 3) (fX3_passThrough v0 v1 9 h)).bind fun h1 => (xat h1 v0 (3, 3) (fX3_missing v0 h1)).bind fun x2 => some (x2, h1)
def fX3_missingIf (v0 : Nat) (v1 : Nat) (v2 : Int32) (v3 : Int32) (h : Hp) : Option (Int32 × Hp) :=
  (xat h v0 (3, 3) (fX3_startAnew v0 v1 h)).bind fun h3 => (fX8_within v2 0 6 h3).bind fun x4 => if (x4 : Int32) = 0 then (fX3_missingIf_j22 v0 v1 h3) else ((xgR h3 v0 (3, 3) 1).bind fun x6 => (xsI h3 x6 v2 v3).bind fun h7 => fX3_missingIf_j22 v0 v1 h7)
abbrev iX3_missingIf : xI := (cX3_missingIf, yX3_missingIf.cls, yX3_missingIf.name, some .int, 4, 6)
set_option maxHeartbeats 4000000 in
set_option maxRecDepth 100000 in
theorem kX3_missingIf (l : Launch) (η : xEnv) (v0 : Nat) (v1 : Nat) (v2 : Int32) (v3 : Int32) (h : Hp) (x : Int32 × Hp) (hx : fX3_missingIf v0 v1 v2 v3 h = some x) : xC l η yX3_missingIf cX3_missingIf 4 (some .int) 6 [.ref v0, .ref v1, .int v2, .int v3] h (some (.int x.1)) x.2 := by
  refine xC_of (by decide) (Nat.le_of_ble_eq_true rfl) hx (fun κ x => κ.2.2.2.1 = some (.int x.1) ∧ κ.2.2.2.2 = x.2) ⟨rfl, rfl⟩ (fun κ => ?_)
  show xJ iX3_missingIf κ _ 0 [(0, .ref v0), (1, .ref v1), (2, .int v2), (3, .int v3)] [] h (fX3_missingIf v0 v1 v2 v3 h)
  unfold fX3_missingIf
  refine j_have (pj := 22) (Lf := fun v : Hp => [(0, .ref v0), (1, .ref v1)]) (Sf := fun v : Hp => []) (Hf := fun v : Hp => v) (jf := fun v : Hp => fX3_missingIf_j22 v0 v1 v) (fun v => ?_) (fun hj22 => ?_)
  · generalize v = h
    show xJ iX3_missingIf κ _ 22 [(0, .ref v0), (1, .ref v1)] [] h (fX3_missingIf_j22 v0 v1 h)
    unfold fX3_missingIf_j22
    refine j_aload_n 0 dX3_missingIf_22 rfl rfl ?_
    refine j_aload_n 1 dX3_missingIf_23 rfl rfl ?_
    refine j_bipush (x := 9) dX3_missingIf_24 (by decide) ?_
    refine j_callV (as := [.ref v1, .int 9]) (fun _ => none) (fun x => x) 3 3 dX3_missingIf_26 ml_RX3_70 tg_X3_passThrough im_X3_passThrough se_X3_passThrough rfl (by decide) (fun x hx => kX3_passThrough κ.1 κ.2.1 v0 v1 9 h x hx) (by decide) (by decide) rfl rfl (Nat.le_of_ble_eq_true rfl) (fun h1 => ?_)
    show xJ iX3_missingIf κ _ 29 [(0, .ref v0), (1, .ref v1)] [] h1 _
    refine j_aload_n 0 dX3_missingIf_29 rfl rfl ?_
    refine j_callV (as := []) (fun x => some (.int x)) (fun _ => h1) 3 3 dX3_missingIf_30 ml_RX3_74 tg_X3_missing im_X3_missing se_X3_missing rfl (by decide) (fun x hx => kX3_missing κ.1 κ.2.1 v0 h1 x hx) (by decide) (by decide) rfl rfl (Nat.le_of_ble_eq_true rfl) (fun x2 => ?_)
    show xJ iX3_missingIf κ _ 33 [(0, .ref v0), (1, .ref v1)] [.int x2] h1 _
    exact j_iret (x2, h1) dX3_missingIf_33 rfl (fun q => q)
  refine j_aload_n 0 dX3_missingIf_0 rfl rfl ?_
  refine j_aload_n 1 dX3_missingIf_1 rfl rfl ?_
  refine j_callV (as := [.ref v1]) (fun _ => none) (fun x => x) 3 3 dX3_missingIf_2 ml_RX3_68 tg_X3_startAnew im_X3_startAnew se_X3_startAnew rfl (by decide) (fun x hx => kX3_startAnew κ.1 κ.2.1 v0 v1 h x hx) (by decide) (by decide) rfl rfl (Nat.le_of_ble_eq_true rfl) (fun h3 => ?_)
  show xJ iX3_missingIf κ _ 5 [(0, .ref v0), (1, .ref v1), (2, .int v2), (3, .int v3)] [] h3 _
  refine j_iload_n 2 dX3_missingIf_5 rfl rfl ?_
  refine j_iconst (x := 0) dX3_missingIf_6 (by decide) ?_
  refine j_bipush (x := 6) dX3_missingIf_7 (by decide) ?_
  refine j_callSN (as := [.int v2, .int 0, .int 6]) (fun x => some (.int x)) (fun _ => h3) dX3_missingIf_9 nl_RX3_88 tg_X8_within st_X8_within (fun x hx => kX8_within κ.1 κ.2.1 v2 0 6 h3 x hx) (by decide) (by decide) rfl rfl (Nat.le_of_ble_eq_true rfl) (fun x4 => ?_)
  show xJ iX3_missingIf κ _ 12 [(0, .ref v0), (1, .ref v1), (2, .int v2), (3, .int v3)] [.int x4] h3 _
  refine j_if_eq (tgt := 22) dX3_missingIf_12 (by decide) (fun c5 => ?_) (fun c5 => ?_)
  · refine j_pick [0, 1] rfl ?_
    exact hj22 h3
  · refine j_aload_n 0 dX3_missingIf_15 rfl rfl ?_
    refine j_getR 3 3 1 dX3_missingIf_16 fl_RX3_18 (by decide) rfl (by decide) (fun _ _ _ => rfl) (fun x6 => ?_)
    refine j_iload_n 2 dX3_missingIf_19 rfl rfl ?_
    refine j_iload_n 3 dX3_missingIf_20 rfl rfl ?_
    refine j_iast dX3_missingIf_21 (fun h7 => ?_)
    refine j_pick [0, 1] rfl ?_
    exact hj22 h7
def fX3_betterBoarding_j75 (v0 : Nat) (v1 : Nat) (v2 : Int32) (v3 : Int32) (v4 : Int32) (v5 : Int32) (h : Hp) : Option ((Int32 × Int32 × Int32 × Hp) ⊕ ((Nat × Nat × Int32 × Int32 × Int32 × Hp))) :=
  some (Sum.inl (v2, v3, v5 + 1, h))
def fX3_betterBoarding_b34 (v0 : Nat) (v1 : Nat) (v4 : Int32) (s34 : Int32 × Int32 × Int32 × Hp) : Option ((Int32 × Int32 × Int32 × Hp) ⊕ ((Nat × Nat × Int32 × Int32 × Int32 × Hp))) :=
  (xgR s34.2.2.2 v1 (0, 16) 6).bind fun x6 => (xaI s34.2.2.2 x6 10 v4).bind fun x7 => if (x7 : Int32) ≤ s34.2.2.1 then (some (Sum.inr (v0, v1, s34.1, s34.2.1, v4, s34.2.2.2))) else ((xat s34.2.2.2 v0 (3, 3) (fX3_missingIf v0 v1 v4 s34.2.2.1 s34.2.2.2)).bind fun q9 => if (s34.1 : Int32) ≤ q9.1 then (fX3_betterBoarding_j75 v0 v1 s34.1 s34.2.1 v4 s34.2.2.1 q9.2) else (fX3_betterBoarding_j75 v0 v1 q9.1 ((10 * v4) + s34.2.2.1) v4 s34.2.2.1 q9.2))
def fX3_betterBoarding_b22 (v0 : Nat) (v1 : Nat) (s22 : Int32 × Int32 × Int32 × Hp) : Option ((Int32 × Int32 × Int32 × Hp) ⊕ ((Int32 × Hp))) :=
  (xgI s22.2.2.2 v1 (0, 16) 2).bind fun x4 => if (x4 : Int32) ≤ s22.2.2.1 then (some (Sum.inr (s22.2.1, s22.2.2.2))) else ((xloop (fX3_betterBoarding_b34 v0 v1 s22.2.2.1) 1000000 (s22.1, s22.2.1, 0, s22.2.2.2)).bind (fun r34 => some (Sum.inl (r34.2.2.1, r34.2.2.2.1, r34.2.2.2.2.1 + 1, r34.2.2.2.2.2))))
def fX3_betterBoarding (v0 : Nat) (v1 : Nat) (h : Hp) : Option (Int32 × Hp) :=
  (xat h v0 (3, 3) (fX3_startAnew v0 v1 h)).bind fun h1 => (xat h1 v0 (3, 3) (fX3_passThrough v0 v1 9 h1)).bind fun h2 => (xat h2 v0 (3, 3) (fX3_missing v0 h2)).bind fun x3 => (xloop (fX3_betterBoarding_b22 v0 v1) 1000000 (x3, (-1), 0, h2)).bind (fun r22 => some (r22.1, r22.2))
abbrev iX3_betterBoarding : xI := (cX3_betterBoarding, yX3_betterBoarding.cls, yX3_betterBoarding.name, some .int, 7, 7)
set_option maxHeartbeats 4000000 in
set_option maxRecDepth 100000 in
theorem kX3_betterBoarding (l : Launch) (η : xEnv) (v0 : Nat) (v1 : Nat) (h : Hp) (x : Int32 × Hp) (hx : fX3_betterBoarding v0 v1 h = some x) : xC l η yX3_betterBoarding cX3_betterBoarding 7 (some .int) 7 [.ref v0, .ref v1] h (some (.int x.1)) x.2 := by
  refine xC_of (by decide) (Nat.le_of_ble_eq_true rfl) hx (fun κ x => κ.2.2.2.1 = some (.int x.1) ∧ κ.2.2.2.2 = x.2) ⟨rfl, rfl⟩ (fun κ => ?_)
  show xJ iX3_betterBoarding κ _ 0 [(0, .ref v0), (1, .ref v1)] [] h (fX3_betterBoarding v0 v1 h)
  unfold fX3_betterBoarding
  refine j_aload_n 0 dX3_betterBoarding_0 rfl rfl ?_
  refine j_aload_n 1 dX3_betterBoarding_1 rfl rfl ?_
  refine j_callV (as := [.ref v1]) (fun _ => none) (fun x => x) 3 3 dX3_betterBoarding_2 ml_RX3_68 tg_X3_startAnew im_X3_startAnew se_X3_startAnew rfl (by decide) (fun x hx => kX3_startAnew κ.1 κ.2.1 v0 v1 h x hx) (by decide) (by decide) rfl rfl (Nat.le_of_ble_eq_true rfl) (fun h1 => ?_)
  show xJ iX3_betterBoarding κ _ 5 [(0, .ref v0), (1, .ref v1)] [] h1 _
  refine j_aload_n 0 dX3_betterBoarding_5 rfl rfl ?_
  refine j_aload_n 1 dX3_betterBoarding_6 rfl rfl ?_
  refine j_bipush (x := 9) dX3_betterBoarding_7 (by decide) ?_
  refine j_callV (as := [.ref v1, .int 9]) (fun _ => none) (fun x => x) 3 3 dX3_betterBoarding_9 ml_RX3_70 tg_X3_passThrough im_X3_passThrough se_X3_passThrough rfl (by decide) (fun x hx => kX3_passThrough κ.1 κ.2.1 v0 v1 9 h1 x hx) (by decide) (by decide) rfl rfl (Nat.le_of_ble_eq_true rfl) (fun h2 => ?_)
  show xJ iX3_betterBoarding κ _ 12 [(0, .ref v0), (1, .ref v1)] [] h2 _
  refine j_aload_n 0 dX3_betterBoarding_12 rfl rfl ?_
  refine j_callV (as := []) (fun x => some (.int x)) (fun _ => h2) 3 3 dX3_betterBoarding_13 ml_RX3_74 tg_X3_missing im_X3_missing se_X3_missing rfl (by decide) (fun x hx => kX3_missing κ.1 κ.2.1 v0 h2 x hx) (by decide) (by decide) rfl rfl (Nat.le_of_ble_eq_true rfl) (fun x3 => ?_)
  show xJ iX3_betterBoarding κ _ 16 [(0, .ref v0), (1, .ref v1)] [.int x3] h2 _
  refine j_istore_n (L' := [(2, .int x3), (0, .ref v0), (1, .ref v1)]) dX3_betterBoarding_16 rfl (Nat.le_of_ble_eq_true rfl) rfl ?_
  refine j_iconst (x := (-1)) dX3_betterBoarding_17 (by decide) ?_
  refine j_istore_n (L' := [(3, .int (-1)), (2, .int x3), (0, .ref v0), (1, .ref v1)]) dX3_betterBoarding_18 rfl (Nat.le_of_ble_eq_true rfl) rfl ?_
  refine j_iconst (x := 0) dX3_betterBoarding_19 (by decide) ?_
  refine j_istore (L' := [(4, .int 0), (3, .int (-1)), (2, .int x3), (0, .ref v0), (1, .ref v1)]) dX3_betterBoarding_20 (Nat.le_of_ble_eq_true rfl) rfl ?_
  refine j_pick [3, 4, 2, 1, 0] rfl ?_
  refine j_loop (pc := 22) (Lf := fun s22 : Int32 × Int32 × Int32 × Hp => [(0, .ref v0), (1, .ref v1), (2, .int s22.1), (3, .int s22.2.1), (4, .int s22.2.2.1)]) (Hf := fun s22 : Int32 × Int32 × Int32 × Hp => s22.2.2.2) (fun s22 => ?_) 1000000 (x3, (-1), 0, h2)
  show xJ iX3_betterBoarding κ _ 22 [(0, .ref v0), (1, .ref v1), (2, .int s22.1), (3, .int s22.2.1), (4, .int s22.2.2.1)] [] s22.2.2.2 (fX3_betterBoarding_b22 v0 v1 s22)
  unfold fX3_betterBoarding_b22
  refine j_iload 4 dX3_betterBoarding_22 rfl ?_
  refine j_aload_n 1 dX3_betterBoarding_24 rfl rfl ?_
  refine j_getI 0 16 2 dX3_betterBoarding_25 fl_RX3_78 (by decide) rfl (by decide) rfl (fun x4 => ?_)
  refine j_icmp_ge (tgt := 87) dX3_betterBoarding_28 (by decide) (fun c5 => ?_) (fun c5 => ?_)
  · refine j_exit (s22.2.1, s22.2.2.2) ?_
    show xJ iX3_betterBoarding κ _ _ _ _ _ (some (s22.2.1, s22.2.2.2))
    refine j_iload_n 3 dX3_betterBoarding_87 rfl rfl ?_
    exact j_iret (s22.2.1, s22.2.2.2) dX3_betterBoarding_88 rfl (fun q => q)
  · refine j_iconst (x := 0) dX3_betterBoarding_31 (by decide) ?_
    refine j_istore (L' := [(5, .int 0), (0, .ref v0), (1, .ref v1), (2, .int s22.1), (3, .int s22.2.1), (4, .int s22.2.2.1)]) dX3_betterBoarding_32 (Nat.le_of_ble_eq_true rfl) rfl ?_
    refine j_pick [1, 2, 3, 4, 5, 0] rfl ?_
    refine j_loop (pc := 34) (Lf := fun s34 : Int32 × Int32 × Int32 × Hp => [(0, .ref v0), (1, .ref v1), (2, .int s34.1), (3, .int s34.2.1), (4, .int s22.2.2.1), (5, .int s34.2.2.1)]) (Hf := fun s34 : Int32 × Int32 × Int32 × Hp => s34.2.2.2) (fun s34 => ?_) 1000000 (s22.1, s22.2.1, 0, s22.2.2.2)
    show xJ iX3_betterBoarding κ _ 34 [(0, .ref v0), (1, .ref v1), (2, .int s34.1), (3, .int s34.2.1), (4, .int s22.2.2.1), (5, .int s34.2.2.1)] [] s34.2.2.2 (fX3_betterBoarding_b34 v0 v1 s22.2.2.1 s34)
    unfold fX3_betterBoarding_b34
    refine j_have (pj := 75) (Lf := fun v : Int32 × Int32 × Int32 × Hp => [(0, .ref v0), (1, .ref v1), (2, .int v.1), (3, .int v.2.1), (4, .int s22.2.2.1), (5, .int v.2.2.1)]) (Sf := fun v : Int32 × Int32 × Int32 × Hp => []) (Hf := fun v : Int32 × Int32 × Int32 × Hp => v.2.2.2) (jf := fun v : Int32 × Int32 × Int32 × Hp => fX3_betterBoarding_j75 v0 v1 v.1 v.2.1 s22.2.2.1 v.2.2.1 v.2.2.2) (fun v => ?_) (fun hj75 => ?_)
    · obtain ⟨v2, v3, v5, h⟩ := v
      show xJ iX3_betterBoarding κ _ 75 [(0, .ref v0), (1, .ref v1), (2, .int v2), (3, .int v3), (4, .int s22.2.2.1), (5, .int v5)] [] h (fX3_betterBoarding_j75 v0 v1 v2 v3 s22.2.2.1 v5 h)
      unfold fX3_betterBoarding_j75
      refine j_iinc (y := v5 + 1) (L' := [(5, .int (v5 + 1)), (0, .ref v0), (1, .ref v1), (2, .int v2), (3, .int v3), (4, .int s22.2.2.1)]) 5 dX3_betterBoarding_75 rfl rfl (Nat.le_of_ble_eq_true rfl) rfl ?_
      refine j_goto (tgt := 34) dX3_betterBoarding_78 (by decide) ?_
      refine j_pick [1, 2, 3, 4, 5, 0] rfl ?_
      exact j_again (v2, v3, v5 + 1, h) rfl rfl
    refine j_iload 5 dX3_betterBoarding_34 rfl ?_
    refine j_aload_n 1 dX3_betterBoarding_36 rfl rfl ?_
    refine j_getR 0 16 6 dX3_betterBoarding_37 fl_RX3_81 (by decide) rfl (by decide) (fun _ _ _ => rfl) (fun x6 => ?_)
    refine j_iload 4 dX3_betterBoarding_40 rfl ?_
    refine j_iald dX3_betterBoarding_42 (fun x7 => ?_)
    refine j_icmp_ge (tgt := 81) dX3_betterBoarding_43 (by decide) (fun c8 => ?_) (fun c8 => ?_)
    · refine j_exit (v0, v1, s34.1, s34.2.1, s22.2.2.1, s34.2.2.2) ?_
      show xJ iX3_betterBoarding κ _ _ _ _ _ (some (Sum.inl (s34.1, s34.2.1, s22.2.2.1 + 1, s34.2.2.2)))
      refine j_iinc (y := s22.2.2.1 + 1) (L' := [(4, .int (s22.2.2.1 + 1)), (0, .ref v0), (1, .ref v1), (2, .int s34.1), (3, .int s34.2.1), (5, .int s34.2.2.1)]) 4 dX3_betterBoarding_81 rfl rfl (Nat.le_of_ble_eq_true rfl) rfl ?_
      refine j_goto (tgt := 22) dX3_betterBoarding_84 (by decide) ?_
      refine j_pick [1, 2, 3, 4, 0] rfl ?_
      exact j_again (s34.1, s34.2.1, s22.2.2.1 + 1, s34.2.2.2) rfl rfl
    · refine j_aload_n 0 dX3_betterBoarding_46 rfl rfl ?_
      refine j_aload_n 1 dX3_betterBoarding_47 rfl rfl ?_
      refine j_iload 4 dX3_betterBoarding_48 rfl ?_
      refine j_iload 5 dX3_betterBoarding_50 rfl ?_
      refine j_callV (as := [.ref v1, .int s22.2.2.1, .int s34.2.2.1]) (fun x => some (.int x.1)) (fun x => x.2) 3 3 dX3_betterBoarding_52 ml_RX3_84 tg_X3_missingIf im_X3_missingIf se_X3_missingIf rfl (by decide) (fun x hx => kX3_missingIf κ.1 κ.2.1 v0 v1 s22.2.2.1 s34.2.2.1 s34.2.2.2 x hx) (by decide) (by decide) rfl rfl (Nat.le_of_ble_eq_true rfl) (fun q9 => ?_)
      show xJ iX3_betterBoarding κ _ 55 [(0, .ref v0), (1, .ref v1), (2, .int s34.1), (3, .int s34.2.1), (4, .int s22.2.2.1), (5, .int s34.2.2.1)] [.int q9.1] q9.2 _
      refine j_istore (L' := [(6, .int q9.1), (0, .ref v0), (1, .ref v1), (2, .int s34.1), (3, .int s34.2.1), (4, .int s22.2.2.1), (5, .int s34.2.2.1)]) dX3_betterBoarding_55 (Nat.le_of_ble_eq_true rfl) rfl ?_
      refine j_iload 0 dX3_betterBoarding_57 rfl ?_
      refine j_iload_n 3 dX3_betterBoarding_59 rfl rfl ?_
      refine j_icmp_ge (tgt := 75) dX3_betterBoarding_60 (by decide) (fun c10 => ?_) (fun c10 => ?_)
      · refine j_pick [1, 2, 3, 4, 5, 6] rfl ?_
        exact hj75 (s34.1, s34.2.1, s34.2.2.1, q9.2)
      · refine j_iload 0 dX3_betterBoarding_63 rfl ?_
        refine j_istore_n (L' := [(2, .int q9.1), (6, .int q9.1), (0, .ref v0), (1, .ref v1), (3, .int s34.2.1), (4, .int s22.2.2.1), (5, .int s34.2.2.1)]) dX3_betterBoarding_65 rfl (Nat.le_of_ble_eq_true rfl) rfl ?_
        refine j_bipush (x := 10) dX3_betterBoarding_66 (by decide) ?_
        refine j_iload 5 dX3_betterBoarding_68 rfl ?_
        refine j_imul dX3_betterBoarding_70 ?_
        refine j_iload 6 dX3_betterBoarding_71 rfl ?_
        refine j_iadd dX3_betterBoarding_73 ?_
        refine j_istore_n (L' := [(3, .int ((10 * s22.2.2.1) + s34.2.2.1)), (2, .int q9.1), (6, .int q9.1), (0, .ref v0), (1, .ref v1), (4, .int s22.2.2.1), (5, .int s34.2.2.1)]) dX3_betterBoarding_74 rfl (Nat.le_of_ble_eq_true rfl) rfl ?_
        refine j_pick [3, 4, 1, 0, 5, 6] rfl ?_
        exact hj75 (q9.1, (10 * s22.2.2.1) + s34.2.2.1, s34.2.2.1, q9.2)
