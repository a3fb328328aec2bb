def fX8_better (v0 : Nat) (h : Hp) : Option (Int32 × Hp) :=
  (xgR h v0 (8, 12) 3).bind fun x1 => (xgR h v0 (8, 12) 0).bind fun x2 => (xat h x1 (3, 3) (fX3_betterBoarding x1 x2 h)).bind fun q3 => some (q3.1, q3.2)
abbrev iX8_better : xI := (cX8_better, yX8_better.cls, yX8_better.name, some .int, 1, 8)
set_option maxHeartbeats 4000000 in
set_option maxRecDepth 100000 in
theorem kX8_better (l : Launch) (η : xEnv) (v0 : Nat) (h : Hp) (x : Int32 × Hp) (hx : fX8_better v0 h = some x) : xC l η yX8_better cX8_better 1 (some .int) 8 [.ref v0] h (some (.int x.1)) x.2 := by
  refine xC_of (by decide) (Nat.le_of_ble_eq_true rfl) hx (fun κ x => κ.2.2.2.1 = some (.int x.1) ∧ κ.2.2.2.2 = x.2) ⟨rfl, rfl⟩ (fun κ => ?_)
  show xJ iX8_better κ _ 0 [(0, .ref v0)] [] h (fX8_better v0 h)
  unfold fX8_better
  refine j_aload_n 0 dX8_better_0 rfl rfl ?_
  refine j_getR 8 12 3 dX8_better_1 fl_RX8_27 (by decide) rfl (by decide) (fun _ _ _ => rfl) (fun x1 => ?_)
  refine j_aload_n 0 dX8_better_4 rfl rfl ?_
  refine j_getR 8 12 0 dX8_better_5 fl_RX8_12 (by decide) rfl (by decide) (fun _ _ _ => rfl) (fun x2 => ?_)
  refine j_callV (as := [.ref x2]) (fun x => some (.int x.1)) (fun x => x.2) 3 3 dX8_better_8 ml_RX8_221 tg_X3_betterBoarding im_X3_betterBoarding se_X3_betterBoarding rfl (by decide) (fun x hx => kX3_betterBoarding κ.1 κ.2.1 x1 x2 h x hx) (by decide) (by decide) rfl rfl (Nat.le_of_ble_eq_true rfl) (fun q3 => ?_)
  show xJ iX8_better κ _ 11 [(0, .ref v0)] [.int q3.1] q3.2 _
  exact j_iret (q3.1, q3.2) dX8_better_11 rfl (fun q => q)
def fX9_layStart (v0 : Nat) (h : Hp) : Option (Hp) :=
  (xat h v0 (9, 18) (fX9_layHand v0 h)).bind fun h1 => (xgR h1 v0 (9, 18) 6).bind fun x2 => (xsI h1 x2 3 0).bind fun h3 => (xgR h3 v0 (9, 18) 6).bind fun x4 => (xsI h3 x4 4 0).bind fun h5 => (xgR h5 v0 (9, 18) 6).bind fun x6 => (xsI h5 x6 5 0).bind fun h7 => (xgR h7 v0 (9, 18) 6).bind fun x8 => (xsI h7 x8 6 0).bind fun h9 => (xgR h9 v0 (9, 18) 6).bind fun x10 => (xsI h9 x10 7 0).bind fun h11 => some h11
abbrev iX9_layStart : xI := (cX9_layStart, yX9_layStart.cls, yX9_layStart.name, none, 1, 3)
set_option maxHeartbeats 4000000 in
set_option maxRecDepth 100000 in
theorem kX9_layStart (l : Launch) (η : xEnv) (v0 : Nat) (h : Hp) (x : Hp) (hx : fX9_layStart v0 h = some x) : xC l η yX9_layStart cX9_layStart 1 none 3 [.ref v0] h none x := by
  refine xC_of (by decide) (Nat.le_of_ble_eq_true rfl) hx (fun κ x => κ.2.2.2.1 = none ∧ κ.2.2.2.2 = x) ⟨rfl, rfl⟩ (fun κ => ?_)
  show xJ iX9_layStart κ _ 0 [(0, .ref v0)] [] h (fX9_layStart v0 h)
  unfold fX9_layStart
  refine j_aload_n 0 dX9_layStart_0 rfl rfl ?_
  refine j_callV (as := []) (fun _ => none) (fun x => x) 9 18 dX9_layStart_1 ml_RX9_90 tg_X9_layHand im_X9_layHand se_X9_layHand rfl (by decide) (fun x hx => kX9_layHand κ.1 κ.2.1 v0 h x hx) (by decide) (by decide) rfl rfl (Nat.le_of_ble_eq_true rfl) (fun h1 => ?_)
  show xJ iX9_layStart κ _ 4 [(0, .ref v0)] [] h1 _
  refine j_aload_n 0 dX9_layStart_4 rfl rfl ?_
  refine j_getR 9 18 6 dX9_layStart_5 fl_RX9_27 (by decide) rfl (by decide) (fun _ _ _ => rfl) (fun x2 => ?_)
  refine j_iconst (x := 3) dX9_layStart_8 (by decide) ?_
  refine j_iconst (x := 0) dX9_layStart_9 (by decide) ?_
  refine j_iast dX9_layStart_10 (fun h3 => ?_)
  refine j_aload_n 0 dX9_layStart_11 rfl rfl ?_
  refine j_getR 9 18 6 dX9_layStart_12 fl_RX9_27 (by decide) rfl (by decide) (fun _ _ _ => rfl) (fun x4 => ?_)
  refine j_iconst (x := 4) dX9_layStart_15 (by decide) ?_
  refine j_iconst (x := 0) dX9_layStart_16 (by decide) ?_
  refine j_iast dX9_layStart_17 (fun h5 => ?_)
  refine j_aload_n 0 dX9_layStart_18 rfl rfl ?_
  refine j_getR 9 18 6 dX9_layStart_19 fl_RX9_27 (by decide) rfl (by decide) (fun _ _ _ => rfl) (fun x6 => ?_)
  refine j_iconst (x := 5) dX9_layStart_22 (by decide) ?_
  refine j_iconst (x := 0) dX9_layStart_23 (by decide) ?_
  refine j_iast dX9_layStart_24 (fun h7 => ?_)
  refine j_aload_n 0 dX9_layStart_25 rfl rfl ?_
  refine j_getR 9 18 6 dX9_layStart_26 fl_RX9_27 (by decide) rfl (by decide) (fun _ _ _ => rfl) (fun x8 => ?_)
  refine j_bipush (x := 6) dX9_layStart_29 (by decide) ?_
  refine j_iconst (x := 0) dX9_layStart_31 (by decide) ?_
  refine j_iast dX9_layStart_32 (fun h9 => ?_)
  refine j_aload_n 0 dX9_layStart_33 rfl rfl ?_
  refine j_getR 9 18 6 dX9_layStart_34 fl_RX9_27 (by decide) rfl (by decide) (fun _ _ _ => rfl) (fun x10 => ?_)
  refine j_bipush (x := 7) dX9_layStart_37 (by decide) ?_
  refine j_iconst (x := 0) dX9_layStart_39 (by decide) ?_
  refine j_iast dX9_layStart_40 (fun h11 => ?_)
  exact j_vret h11 dX9_layStart_41 rfl (fun q => q)
def fX9_manyLost (v0 : Nat) (h : Hp) : Option (Int32) :=
  (xgR h v0 (9, 18) 6).bind fun x1 => (xaI h x1 10 6).bind fun x2 => (fX9_bits x2 h).bind fun x3 => (xgR h v0 (9, 18) 6).bind fun x4 => (xaI h x4 10 5).bind fun x5 => (fX9_bits x5 h).bind fun x6 => some (x3 + x6)
abbrev iX9_manyLost : xI := (cX9_manyLost, yX9_manyLost.cls, yX9_manyLost.name, some .int, 1, 3)
set_option maxHeartbeats 4000000 in
set_option maxRecDepth 100000 in
theorem kX9_manyLost (l : Launch) (η : xEnv) (v0 : Nat) (h : Hp) (x : Int32) (hx : fX9_manyLost v0 h = some x) : xC l η yX9_manyLost cX9_manyLost 1 (some .int) 3 [.ref v0] h (some (.int x)) h := by
  refine xC_of (by decide) (Nat.le_of_ble_eq_true rfl) hx (fun κ x => κ.2.2.2.1 = some (.int x) ∧ κ.2.2.2.2 = h) ⟨rfl, rfl⟩ (fun κ => ?_)
  show xJ iX9_manyLost κ _ 0 [(0, .ref v0)] [] h (fX9_manyLost v0 h)
  unfold fX9_manyLost
  refine j_aload_n 0 dX9_manyLost_0 rfl rfl ?_
  refine j_getR 9 18 6 dX9_manyLost_1 fl_RX9_27 (by decide) rfl (by decide) (fun _ _ _ => rfl) (fun x1 => ?_)
  refine j_bipush (x := 6) dX9_manyLost_4 (by decide) ?_
  refine j_iald dX9_manyLost_6 (fun x2 => ?_)
  refine j_callS (as := [.int x2]) (fun x => some (.int x)) (fun _ => h) dX9_manyLost_7 ml_RX9_105 tg_X9_bits st_X9_bits (fun x hx => kX9_bits κ.1 κ.2.1 x2 h x hx) (by decide) (by decide) rfl rfl (Nat.le_of_ble_eq_true rfl) (fun x3 => ?_)
  show xJ iX9_manyLost κ _ 10 [(0, .ref v0)] [.int x3] h _
  refine j_aload_n 0 dX9_manyLost_10 rfl rfl ?_
  refine j_getR 9 18 6 dX9_manyLost_11 fl_RX9_27 (by decide) rfl (by decide) (fun _ _ _ => rfl) (fun x4 => ?_)
  refine j_iconst (x := 5) dX9_manyLost_14 (by decide) ?_
  refine j_iald dX9_manyLost_15 (fun x5 => ?_)
  refine j_callS (as := [.int x5]) (fun x => some (.int x)) (fun _ => h) dX9_manyLost_16 ml_RX9_105 tg_X9_bits st_X9_bits (fun x hx => kX9_bits κ.1 κ.2.1 x5 h x hx) (by decide) (by decide) rfl rfl (Nat.le_of_ble_eq_true rfl) (fun x6 => ?_)
  show xJ iX9_manyLost κ _ 19 [(0, .ref v0)] [.int x6, .int x3] h _
  refine j_iadd dX9_manyLost_19 ?_
  exact j_iret (x3 + x6) dX9_manyLost_20 rfl (fun q => q)
def fX9_better_j101 (v0 : Nat) (v1 : Int32) (v3 : Int32) (v4 : Int32) (t0 : Int32) (h : Hp) : Option ((Int32 × Int32 × Int32 × Hp) ⊕ ((Nat × Int32 × Int32 × Int32 × Hp))) :=
  some (Sum.inl (v1, t0, v4 + 1, h))
def fX9_better_j84 (v0 : Nat) (v2 : Int32) (v3 : Int32) (v4 : Int32) (t0 : Int32) (h : Hp) : Option ((Int32 × Int32 × Int32 × Hp) ⊕ ((Nat × Int32 × Int32 × Int32 × Hp))) :=
  (xat h v0 (9, 18) (fX9_manyLost v0 h)).bind fun x6 => if (v2 : Int32) ≤ x6 then (fX9_better_j101 v0 t0 v3 v4 v2 h) else ((xat h v0 (9, 18) (fX9_manyLost v0 h)).bind fun x8 => fX9_better_j101 v0 t0 v3 v4 x8 h)
def fX9_better_b30 (v0 : Nat) (v3 : Int32) (s30 : Int32 × Int32 × Int32 × Hp) : Option ((Int32 × Int32 × Int32 × Hp) ⊕ ((Nat × Int32 × Int32 × Int32 × Hp))) :=
  (xgR s30.2.2.2 v0 (9, 18) 0).bind fun x9 => (xaI s30.2.2.2 x9 10 (40 + v3)).bind fun x10 => if (x10 : Int32) ≤ s30.2.2.1 then (some (Sum.inr (v0, s30.1, s30.2.1, v3, s30.2.2.2))) else ((xat s30.2.2.2 v0 (9, 18) (fX9_layStart v0 s30.2.2.2)).bind fun h12 => (xgR h12 v0 (9, 18) 6).bind fun x13 => (xsI h12 x13 (33 + v3) s30.2.2.1).bind fun h14 => (xat h14 v0 (9, 18) (fX9_goTill v0 10 h14)).bind fun h15 => (xat h15 v0 (9, 18) (fX9_manyLost v0 h15)).bind fun x16 => if (s30.2.1 : Int32) ≤ x16 then (fX9_better_j84 v0 s30.2.1 v3 s30.2.2.1 s30.1 h15) else (fX9_better_j84 v0 s30.2.1 v3 s30.2.2.1 ((10 * v3) + s30.2.2.1) h15))
def fX9_better_b19 (v0 : Nat) (s19 : Int32 × Int32 × Int32 × Hp) : Option ((Int32 × Int32 × Int32 × Hp) ⊕ ((Int32 × Hp))) :=
  (xat s19.2.2.2 v0 (9, 18) (fX9_many v0 s19.2.2.2)).bind fun x4 => if (x4 : Int32) ≤ s19.2.2.1 then (some (Sum.inr (s19.1, s19.2.2.2))) else ((xloop (fX9_better_b30 v0 s19.2.2.1) 1000000 (s19.1, s19.2.1, 0, s19.2.2.2)).bind (fun r30 => some (Sum.inl (r30.2.1, r30.2.2.1, r30.2.2.2.1 + 1, r30.2.2.2.2))))
def fX9_better (v0 : Nat) (h : Hp) : Option (Int32 × Hp) :=
  (xat h v0 (9, 18) (fX9_layStart v0 h)).bind fun h1 => (xat h1 v0 (9, 18) (fX9_goTill v0 10 h1)).bind fun h2 => (xat h2 v0 (9, 18) (fX9_manyLost v0 h2)).bind fun x3 => (xloop (fX9_better_b19 v0) 1000000 ((-1), x3, 0, h2)).bind (fun r19 => some (r19.1, r19.2))
abbrev iX9_better : xI := (cX9_better, yX9_better.cls, yX9_better.name, some .int, 5, 7)
set_option maxHeartbeats 4000000 in
set_option maxRecDepth 100000 in
theorem kX9_better (l : Launch) (η : xEnv) (v0 : Nat) (h : Hp) (x : Int32 × Hp) (hx : fX9_better v0 h = some x) : xC l η yX9_better cX9_better 5 (some .int) 7 [.ref v0] h (some (.int x.1)) x.2 := by
  refine xC_of (by decide) (Nat.le_of_ble_eq_true rfl) hx (fun κ x => κ.2.2.2.1 = some (.int x.1) ∧ κ.2.2.2.2 = x.2) ⟨rfl, rfl⟩ (fun κ => ?_)
  show xJ iX9_better κ _ 0 [(0, .ref v0)] [] h (fX9_better v0 h)
  unfold fX9_better
  refine j_aload_n 0 dX9_better_0 rfl rfl ?_
  refine j_callV (as := []) (fun _ => none) (fun x => x) 9 18 dX9_better_1 ml_RX9_141 tg_X9_layStart im_X9_layStart se_X9_layStart rfl (by decide) (fun x hx => kX9_layStart κ.1 κ.2.1 v0 h x hx) (by decide) (by decide) rfl rfl (Nat.le_of_ble_eq_true rfl) (fun h1 => ?_)
  show xJ iX9_better κ _ 4 [(0, .ref v0)] [] h1 _
  refine j_aload_n 0 dX9_better_4 rfl rfl ?_
  refine j_bipush (x := 10) dX9_better_5 (by decide) ?_
  refine j_callV (as := [.int 10]) (fun _ => none) (fun x => x) 9 18 dX9_better_7 ml_RX9_125 tg_X9_goTill im_X9_goTill se_X9_goTill rfl (by decide) (fun x hx => kX9_goTill κ.1 κ.2.1 v0 10 h1 x hx) (by decide) (by decide) rfl rfl (Nat.le_of_ble_eq_true rfl) (fun h2 => ?_)
  show xJ iX9_better κ _ 10 [(0, .ref v0)] [] h2 _
  refine j_iconst (x := (-1)) dX9_better_10 (by decide) ?_
  refine j_istore_n (L' := [(1, .int (-1)), (0, .ref v0)]) dX9_better_11 rfl (Nat.le_of_ble_eq_true rfl) rfl ?_
  refine j_aload_n 1 dX9_better_12 rfl rfl ?_
  refine j_callV (as := []) (fun x => some (.int x)) (fun _ => h2) 9 18 dX9_better_13 ml_RX9_144 tg_X9_manyLost im_X9_manyLost se_X9_manyLost rfl (by decide) (fun x hx => kX9_manyLost κ.1 κ.2.1 v0 h2 x hx) (by decide) (by decide) rfl rfl (Nat.le_of_ble_eq_true rfl) (fun x3 => ?_)
  show xJ iX9_better κ _ 16 [(1, .int (-1)), (0, .ref v0)] [.int x3] h2 _
  refine j_istore_n (L' := [(2, .int x3), (1, .int (-1)), (0, .ref v0)]) dX9_better_16 rfl (Nat.le_of_ble_eq_true rfl) rfl ?_
  refine j_iconst (x := 0) dX9_better_17 (by decide) ?_
  refine j_istore_n (L' := [(3, .int 0), (2, .int x3), (1, .int (-1)), (0, .ref v0)]) dX9_better_18 rfl (Nat.le_of_ble_eq_true rfl) rfl ?_
  refine j_pick [3, 2, 1, 0] rfl ?_
  refine j_loop (pc := 19) (Lf := fun s19 : Int32 × Int32 × Int32 × Hp => [(0, .ref v0), (1, .int s19.1), (2, .int s19.2.1), (3, .int s19.2.2.1)]) (Hf := fun s19 : Int32 × Int32 × Int32 × Hp => s19.2.2.2) (fun s19 => ?_) 1000000 ((-1), x3, 0, h2)
  show xJ iX9_better κ _ 19 [(0, .ref v0), (1, .int s19.1), (2, .int s19.2.1), (3, .int s19.2.2.1)] [] s19.2.2.2 (fX9_better_b19 v0 s19)
  unfold fX9_better_b19
  refine j_iload_n 3 dX9_better_19 rfl rfl ?_
  refine j_aload_n 0 dX9_better_20 rfl rfl ?_
  refine j_callV (as := []) (fun x => some (.int x)) (fun _ => s19.2.2.2) 9 18 dX9_better_21 ml_RX9_52 tg_X9_many im_X9_many se_X9_many rfl (by decide) (fun x hx => kX9_many κ.1 κ.2.1 v0 s19.2.2.2 x hx) (by decide) (by decide) rfl rfl (Nat.le_of_ble_eq_true rfl) (fun x4 => ?_)
  show xJ iX9_better κ _ 24 [(0, .ref v0), (1, .int s19.1), (2, .int s19.2.1), (3, .int s19.2.2.1)] [.int x4, .int s19.2.2.1] s19.2.2.2 _
  refine j_icmp_ge (tgt := 114) dX9_better_24 (by decide) (fun c5 => ?_) (fun c5 => ?_)
  · refine j_exit (s19.1, s19.2.2.2) ?_
    show xJ iX9_better κ _ _ _ _ _ (some (s19.1, s19.2.2.2))
    refine j_iload_n 1 dX9_better_114 rfl rfl ?_
    exact j_iret (s19.1, s19.2.2.2) dX9_better_115 rfl (fun q => q)
  · refine j_iconst (x := 0) dX9_better_27 (by decide) ?_
    refine j_istore (L' := [(4, .int 0), (0, .ref v0), (1, .int s19.1), (2, .int s19.2.1), (3, .int s19.2.2.1)]) dX9_better_28 (Nat.le_of_ble_eq_true rfl) rfl ?_
    refine j_pick [1, 2, 3, 4, 0] rfl ?_
    refine j_loop (pc := 30) (Lf := fun s30 : Int32 × Int32 × Int32 × Hp => [(0, .ref v0), (1, .int s30.1), (2, .int s30.2.1), (3, .int s19.2.2.1), (4, .int s30.2.2.1)]) (Hf := fun s30 : Int32 × Int32 × Int32 × Hp => s30.2.2.2) (fun s30 => ?_) 1000000 (s19.1, s19.2.1, 0, s19.2.2.2)
    show xJ iX9_better κ _ 30 [(0, .ref v0), (1, .int s30.1), (2, .int s30.2.1), (3, .int s19.2.2.1), (4, .int s30.2.2.1)] [] s30.2.2.2 (fX9_better_b30 v0 s19.2.2.1 s30)
    unfold fX9_better_b30
    refine j_have (pj := 101) (Lf := fun v : Int32 × Int32 × Int32 × Hp => [(0, .ref v0), (1, .int v.1), (3, .int s19.2.2.1), (4, .int v.2.1)]) (Sf := fun v : Int32 × Int32 × Int32 × Hp => [.int v.2.2.1]) (Hf := fun v : Int32 × Int32 × Int32 × Hp => v.2.2.2) (jf := fun v : Int32 × Int32 × Int32 × Hp => fX9_better_j101 v0 v.1 s19.2.2.1 v.2.1 v.2.2.1 v.2.2.2) (fun v => ?_) (fun hj101 => ?_)
    · obtain ⟨v1, v4, t0, h⟩ := v
      show xJ iX9_better κ _ 101 [(0, .ref v0), (1, .int v1), (3, .int s19.2.2.1), (4, .int v4)] [.int t0] h (fX9_better_j101 v0 v1 s19.2.2.1 v4 t0 h)
      unfold fX9_better_j101
      refine j_istore_n (L' := [(2, .int t0), (0, .ref v0), (1, .int v1), (3, .int s19.2.2.1), (4, .int v4)]) dX9_better_101 rfl (Nat.le_of_ble_eq_true rfl) rfl ?_
      refine j_iinc (y := v4 + 1) (L' := [(4, .int (v4 + 1)), (2, .int t0), (0, .ref v0), (1, .int v1), (3, .int s19.2.2.1)]) 4 dX9_better_102 rfl rfl (Nat.le_of_ble_eq_true rfl) rfl ?_
      refine j_goto (tgt := 30) dX9_better_105 (by decide) ?_
      refine j_pick [2, 3, 1, 4, 0] rfl ?_
      exact j_again (v1, t0, v4 + 1, h) rfl rfl
    refine j_have (pj := 84) (Lf := fun v : Int32 × Int32 × Int32 × Hp => [(0, .ref v0), (2, .int v.1), (3, .int s19.2.2.1), (4, .int v.2.1)]) (Sf := fun v : Int32 × Int32 × Int32 × Hp => [.int v.2.2.1]) (Hf := fun v : Int32 × Int32 × Int32 × Hp => v.2.2.2) (jf := fun v : Int32 × Int32 × Int32 × Hp => fX9_better_j84 v0 v.1 s19.2.2.1 v.2.1 v.2.2.1 v.2.2.2) (fun v => ?_) (fun hj84 => ?_)
    · obtain ⟨v2, v4, t0, h⟩ := v
      show xJ iX9_better κ _ 84 [(0, .ref v0), (2, .int v2), (3, .int s19.2.2.1), (4, .int v4)] [.int t0] h (fX9_better_j84 v0 v2 s19.2.2.1 v4 t0 h)
      unfold fX9_better_j84
      refine j_istore_n (L' := [(1, .int t0), (0, .ref v0), (2, .int v2), (3, .int s19.2.2.1), (4, .int v4)]) dX9_better_84 rfl (Nat.le_of_ble_eq_true rfl) rfl ?_
      refine j_aload_n 1 dX9_better_85 rfl rfl ?_
      refine j_callV (as := []) (fun x => some (.int x)) (fun _ => h) 9 18 dX9_better_86 ml_RX9_144 tg_X9_manyLost im_X9_manyLost se_X9_manyLost rfl (by decide) (fun x hx => kX9_manyLost κ.1 κ.2.1 v0 h x hx) (by decide) (by decide) rfl rfl (Nat.le_of_ble_eq_true rfl) (fun x6 => ?_)
      show xJ iX9_better κ _ 89 [(1, .int t0), (0, .ref v0), (2, .int v2), (3, .int s19.2.2.1), (4, .int v4)] [.int x6] h _
      refine j_iload_n 2 dX9_better_89 rfl rfl ?_
      refine j_icmp_ge (tgt := 100) dX9_better_90 (by decide) (fun c7 => ?_) (fun c7 => ?_)
      · refine j_iload_n 2 dX9_better_100 rfl rfl ?_
        refine j_pick [1, 0, 3, 4] rfl ?_
        exact hj101 (t0, v4, v2, h)
      · refine j_aload_n 1 dX9_better_93 rfl rfl ?_
        refine j_callV (as := []) (fun x => some (.int x)) (fun _ => h) 9 18 dX9_better_94 ml_RX9_144 tg_X9_manyLost im_X9_manyLost se_X9_manyLost rfl (by decide) (fun x hx => kX9_manyLost κ.1 κ.2.1 v0 h x hx) (by decide) (by decide) rfl rfl (Nat.le_of_ble_eq_true rfl) (fun x8 => ?_)
        show xJ iX9_better κ _ 97 [(1, .int t0), (0, .ref v0), (2, .int v2), (3, .int s19.2.2.1), (4, .int v4)] [.int x8] h _
        refine j_goto (tgt := 101) dX9_better_97 (by decide) ?_
        refine j_pick [1, 0, 3, 4] rfl ?_
        exact hj101 (t0, v4, x8, h)
    refine j_iload 4 dX9_better_30 rfl ?_
    refine j_aload_n 0 dX9_better_32 rfl rfl ?_
    refine j_getR 9 18 0 dX9_better_33 fl_RX9_7 (by decide) rfl (by decide) (fun _ _ _ => rfl) (fun x9 => ?_)
    refine j_bipush (x := 40) dX9_better_36 (by decide) ?_
    refine j_iload_n 3 dX9_better_38 rfl rfl ?_
    refine j_iadd dX9_better_39 ?_
    refine j_iald dX9_better_40 (fun x10 => ?_)
    refine j_icmp_ge (tgt := 108) dX9_better_41 (by decide) (fun c11 => ?_) (fun c11 => ?_)
    · refine j_exit (v0, s30.1, s30.2.1, s19.2.2.1, s30.2.2.2) ?_
      show xJ iX9_better κ _ _ _ _ _ (some (Sum.inl (s30.1, s30.2.1, s19.2.2.1 + 1, s30.2.2.2)))
      refine j_iinc (y := s19.2.2.1 + 1) (L' := [(3, .int (s19.2.2.1 + 1)), (0, .ref v0), (1, .int s30.1), (2, .int s30.2.1), (4, .int s30.2.2.1)]) 3 dX9_better_108 rfl rfl (Nat.le_of_ble_eq_true rfl) rfl ?_
      refine j_goto (tgt := 19) dX9_better_111 (by decide) ?_
      refine j_pick [1, 2, 3, 0] rfl ?_
      exact j_again (s30.1, s30.2.1, s19.2.2.1 + 1, s30.2.2.2) rfl rfl
    · refine j_aload_n 0 dX9_better_44 rfl rfl ?_
      refine j_callV (as := []) (fun _ => none) (fun x => x) 9 18 dX9_better_45 ml_RX9_141 tg_X9_layStart im_X9_layStart se_X9_layStart rfl (by decide) (fun x hx => kX9_layStart κ.1 κ.2.1 v0 s30.2.2.2 x hx) (by decide) (by decide) rfl rfl (Nat.le_of_ble_eq_true rfl) (fun h12 => ?_)
      show xJ iX9_better κ _ 48 [(0, .ref v0), (1, .int s30.1), (2, .int s30.2.1), (3, .int s19.2.2.1), (4, .int s30.2.2.1)] [] h12 _
      refine j_aload_n 0 dX9_better_48 rfl rfl ?_
      refine j_getR 9 18 6 dX9_better_49 fl_RX9_27 (by decide) rfl (by decide) (fun _ _ _ => rfl) (fun x13 => ?_)
      refine j_bipush (x := 33) dX9_better_52 (by decide) ?_
      refine j_iload_n 3 dX9_better_54 rfl rfl ?_
      refine j_iadd dX9_better_55 ?_
      refine j_iload 4 dX9_better_56 rfl ?_
      refine j_iast dX9_better_58 (fun h14 => ?_)
      refine j_aload_n 0 dX9_better_59 rfl rfl ?_
      refine j_bipush (x := 10) dX9_better_60 (by decide) ?_
      refine j_callV (as := [.int 10]) (fun _ => none) (fun x => x) 9 18 dX9_better_62 ml_RX9_125 tg_X9_goTill im_X9_goTill se_X9_goTill rfl (by decide) (fun x hx => kX9_goTill κ.1 κ.2.1 v0 10 h14 x hx) (by decide) (by decide) rfl rfl (Nat.le_of_ble_eq_true rfl) (fun h15 => ?_)
      show xJ iX9_better κ _ 65 [(0, .ref v0), (1, .int s30.1), (2, .int s30.2.1), (3, .int s19.2.2.1), (4, .int s30.2.2.1)] [] h15 _
      refine j_aload_n 0 dX9_better_65 rfl rfl ?_
      refine j_callV (as := []) (fun x => some (.int x)) (fun _ => h15) 9 18 dX9_better_66 ml_RX9_144 tg_X9_manyLost im_X9_manyLost se_X9_manyLost rfl (by decide) (fun x hx => kX9_manyLost κ.1 κ.2.1 v0 h15 x hx) (by decide) (by decide) rfl rfl (Nat.le_of_ble_eq_true rfl) (fun x16 => ?_)
      show xJ iX9_better κ _ 69 [(0, .ref v0), (1, .int s30.1), (2, .int s30.2.1), (3, .int s19.2.2.1), (4, .int s30.2.2.1)] [.int x16] h15 _
      refine j_iload_n 2 dX9_better_69 rfl rfl ?_
      refine j_icmp_ge (tgt := 83) dX9_better_70 (by decide) (fun c17 => ?_) (fun c17 => ?_)
      · refine j_iload_n 1 dX9_better_83 rfl rfl ?_
        refine j_pick [0, 2, 3, 4] rfl ?_
        exact hj84 (s30.2.1, s30.2.2.1, s30.1, h15)
      · refine j_bipush (x := 10) dX9_better_73 (by decide) ?_
        refine j_iload_n 3 dX9_better_75 rfl rfl ?_
        refine j_imul dX9_better_76 ?_
        refine j_iload 4 dX9_better_77 rfl ?_
        refine j_iadd dX9_better_79 ?_
        refine j_goto (tgt := 84) dX9_better_80 (by decide) ?_
        refine j_pick [0, 2, 3, 4] rfl ?_
        exact hj84 (s30.2.1, s30.2.2.1, (10 * s19.2.2.1) + s30.2.2.1, h15)
def fX3_leastLift_b2 (v0 : Nat) (v1 : Nat) (s2 : Int32 × Hp) : Option ((Int32 × Hp) ⊕ ((Int32 × Hp) ⊕ (Hp))) :=
  if (9 : Int32) ≤ s2.1 then (some (Sum.inr (Sum.inr s2.2))) else ((xat s2.2 v0 (3, 3) (fX3_startAnew v0 v1 s2.2)).bind fun h2 => (xpI h2 v0 (3, 3) 2 s2.1).bind fun h3 => (xat h3 v0 (3, 3) (fX3_passThrough v0 v1 9 h3)).bind fun h4 => (xgR h4 v0 (3, 3) 0).bind fun x5 => (xgI h4 x5 (5, 5) 2).bind fun x6 => if (x6 : Int32) = 0 then (some (Sum.inr (Sum.inl (s2.1, h4)))) else (some (Sum.inl (s2.1 + 1, h4))))
def fX3_leastLift (v0 : Nat) (v1 : Nat) (h : Hp) : Option (Int32 × Hp) :=
  (xloop (fX3_leastLift_b2 v0 v1) 1000000 (0, h)).bind (fun q => match q with | .inl r2 => (some (r2.1, r2.2)) | .inr r2 => (some (9, r2)))
abbrev iX3_leastLift : xI := (cX3_leastLift, yX3_leastLift.cls, yX3_leastLift.name, some .int, 3, 6)
set_option maxHeartbeats 4000000 in
set_option maxRecDepth 100000 in
theorem kX3_leastLift (l : Launch) (η : xEnv) (v0 : Nat) (v1 : Nat) (h : Hp) (x : Int32 × Hp) (hx : fX3_leastLift v0 v1 h = some x) : xC l η yX3_leastLift cX3_leastLift 3 (some .int) 6 [.ref v0, .ref v1] h (some (.int x.1)) x.2 := by
  refine xC_of (by decide) (Nat.le_of_ble_eq_true rfl) hx (fun κ x => κ.2.2.2.1 = some (.int x.1) ∧ κ.2.2.2.2 = x.2) ⟨rfl, rfl⟩ (fun κ => ?_)
  show xJ iX3_leastLift κ _ 0 [(0, .ref v0), (1, .ref v1)] [] h (fX3_leastLift v0 v1 h)
  unfold fX3_leastLift
  refine j_iconst (x := 0) dX3_leastLift_0 (by decide) ?_
  refine j_istore_n (L' := [(2, .int 0), (0, .ref v0), (1, .ref v1)]) dX3_leastLift_1 rfl (Nat.le_of_ble_eq_true rfl) rfl ?_
  refine j_pick [1, 2, 0] rfl ?_
  refine j_loop (pc := 2) (Lf := fun s2 : Int32 × Hp => [(0, .ref v0), (1, .ref v1), (2, .int s2.1)]) (Hf := fun s2 : Int32 × Hp => s2.2) (fun s2 => ?_) 1000000 (0, h)
  show xJ iX3_leastLift κ _ 2 [(0, .ref v0), (1, .ref v1), (2, .int s2.1)] [] s2.2 (fX3_leastLift_b2 v0 v1 s2)
  unfold fX3_leastLift_b2
  refine j_iload_n 2 dX3_leastLift_2 rfl rfl ?_
  refine j_bipush (x := 9) dX3_leastLift_3 (by decide) ?_
  refine j_icmp_ge (tgt := 43) dX3_leastLift_5 (by decide) (fun c1 => ?_) (fun c1 => ?_)
  · refine j_exit (Sum.inr s2.2) ?_
    try dsimp only
    refine j_bipush (x := 9) dX3_leastLift_43 (by decide) ?_
    exact j_iret (9, s2.2) dX3_leastLift_45 rfl (fun q => q)
  · refine j_aload_n 0 dX3_leastLift_8 rfl rfl ?_
    refine j_aload_n 1 dX3_leastLift_9 rfl rfl ?_
    refine j_callV (as := [.ref v1]) (fun _ => none) (fun x => x) 3 3 dX3_leastLift_10 ml_RX3_68 tg_X3_startAnew im_X3_startAnew se_X3_startAnew rfl (by decide) (fun x hx => kX3_startAnew κ.1 κ.2.1 v0 v1 s2.2 x hx) (by decide) (by decide) rfl rfl (Nat.le_of_ble_eq_true rfl) (fun h2 => ?_)
    show xJ iX3_leastLift κ _ 13 [(0, .ref v0), (1, .ref v1), (2, .int s2.1)] [] h2 _
    refine j_aload_n 0 dX3_leastLift_13 rfl rfl ?_
    refine j_iload_n 2 dX3_leastLift_14 rfl rfl ?_
    refine j_putI 3 3 2 dX3_leastLift_15 fl_RX3_45 (by decide) rfl (by decide) rfl rfl (fun h3 => ?_)
    refine j_aload_n 0 dX3_leastLift_18 rfl rfl ?_
    refine j_aload_n 1 dX3_leastLift_19 rfl rfl ?_
    refine j_bipush (x := 9) dX3_leastLift_20 (by decide) ?_
    refine j_callV (as := [.ref v1, .int 9]) (fun _ => none) (fun x => x) 3 3 dX3_leastLift_22 ml_RX3_70 tg_X3_passThrough im_X3_passThrough se_X3_passThrough rfl (by decide) (fun x hx => kX3_passThrough κ.1 κ.2.1 v0 v1 9 h3 x hx) (by decide) (by decide) rfl rfl (Nat.le_of_ble_eq_true rfl) (fun h4 => ?_)
    show xJ iX3_leastLift κ _ 25 [(0, .ref v0), (1, .ref v1), (2, .int s2.1)] [] h4 _
    refine j_aload_n 0 dX3_leastLift_25 rfl rfl ?_
    refine j_getR 3 3 0 dX3_leastLift_26 fl_RX3_12 (by decide) rfl (by decide) (fun _ _ _ => rfl) (fun x5 => ?_)
    refine j_getI 5 5 2 dX3_leastLift_29 fl_RX3_59 (by decide) rfl (by decide) rfl (fun x6 => ?_)
    refine j_if_ne (tgt := 37) dX3_leastLift_32 (by decide) (fun c7 => ?_) (fun c7 => ?_)
    · refine j_exit (Sum.inl (s2.1, h4)) ?_
      try dsimp only
      refine j_iload_n 2 dX3_leastLift_35 rfl rfl ?_
      exact j_iret (s2.1, h4) dX3_leastLift_36 rfl (fun q => q)
    · refine j_iinc (y := s2.1 + 1) (L' := [(2, .int (s2.1 + 1)), (0, .ref v0), (1, .ref v1)]) 2 dX3_leastLift_37 rfl rfl (Nat.le_of_ble_eq_true rfl) rfl ?_
      refine j_goto (tgt := 2) dX3_leastLift_40 (by decide) ?_
      refine j_pick [1, 2, 0] rfl ?_
      exact j_again (s2.1 + 1, h4) rfl rfl
def fX8_raise (v0 : Nat) (h : Hp) : Option (Int32 × Hp) :=
  (xgR h v0 (8, 12) 3).bind fun x1 => (xgR h v0 (8, 12) 0).bind fun x2 => (xat h x1 (3, 3) (fX3_leastLift x1 x2 h)).bind fun q3 => some (q3.1, q3.2)
abbrev iX8_raise : xI := (cX8_raise, yX8_raise.cls, yX8_raise.name, some .int, 1, 7)
set_option maxHeartbeats 4000000 in
set_option maxRecDepth 100000 in
theorem kX8_raise (l : Launch) (η : xEnv) (v0 : Nat) (h : Hp) (x : Int32 × Hp) (hx : fX8_raise v0 h = some x) : xC l η yX8_raise cX8_raise 1 (some .int) 7 [.ref v0] h (some (.int x.1)) x.2 := by
  refine xC_of (by decide) (Nat.le_of_ble_eq_true rfl) hx (fun κ x => κ.2.2.2.1 = some (.int x.1) ∧ κ.2.2.2.2 = x.2) ⟨rfl, rfl⟩ (fun κ => ?_)
  show xJ iX8_raise κ _ 0 [(0, .ref v0)] [] h (fX8_raise v0 h)
  unfold fX8_raise
  refine j_aload_n 0 dX8_raise_0 rfl rfl ?_
  refine j_getR 8 12 3 dX8_raise_1 fl_RX8_27 (by decide) rfl (by decide) (fun _ _ _ => rfl) (fun x1 => ?_)
  refine j_aload_n 0 dX8_raise_4 rfl rfl ?_
  refine j_getR 8 12 0 dX8_raise_5 fl_RX8_12 (by decide) rfl (by decide) (fun _ _ _ => rfl) (fun x2 => ?_)
  refine j_callV (as := [.ref x2]) (fun x => some (.int x.1)) (fun x => x.2) 3 3 dX8_raise_8 ml_RX8_224 tg_X3_leastLift im_X3_leastLift se_X3_leastLift rfl (by decide) (fun x hx => kX3_leastLift κ.1 κ.2.1 x1 x2 h x hx) (by decide) (by decide) rfl rfl (Nat.le_of_ble_eq_true rfl) (fun q3 => ?_)
  show xJ iX8_raise κ _ 11 [(0, .ref v0)] [.int q3.1] q3.2 _
  exact j_iret (q3.1, q3.2) dX8_raise_11 rfl (fun q => q)
def fX9_raise_j47 (v0 : Nat) (v1 : Int32) (v2 : Int32) (t0 : Int32) (t1 : Int32) (t2 : Int32) (t3 : Nat) (h : Hp) : Option ((Int32 × Hp) ⊕ ((Nat × Int32 × Hp))) :=
  (xsI h t3 t2 (t1 + t0)).bind fun h3 => some (Sum.inl (v2 + 1, h3))
def fX9_raise_b14 (v0 : Nat) (v1 : Int32) (s14 : Int32 × Hp) : Option ((Int32 × Hp) ⊕ ((Nat × Int32 × Hp))) :=
  if (10 : Int32) ≤ s14.1 then (some (Sum.inr (v0, v1, s14.2))) else ((xgR s14.2 v0 (9, 18) 6).bind fun x9 => (xaI s14.2 x9 10 (9 + s14.1)).bind fun x10 => (xgR s14.2 v0 (9, 18) 6).bind fun x11 => (xaI s14.2 x11 10 (9 + s14.1)).bind fun x12 => if (x12 : Int32) ≤ 0 then (fX9_raise_j47 v0 v1 s14.1 0 x10 (9 + s14.1) x9 s14.2) else (fX9_raise_j47 v0 v1 s14.1 v1 x10 (9 + s14.1) x9 s14.2))
def fX9_raise_b2 (v0 : Nat) (s2 : Int32 × Hp) : Option ((Int32 × Hp) ⊕ ((Int32 × Hp) ⊕ (Hp))) :=
  if (10 : Int32) ≤ s2.1 then (some (Sum.inr (Sum.inr s2.2))) else ((xat s2.2 v0 (9, 18) (fX9_layStart v0 s2.2)).bind fun h2 => (xloop (fX9_raise_b14 v0 s2.1) 1000000 (0, h2)).bind (fun r14 => (xat r14.2.2 r14.1 (9, 18) (fX9_goTill r14.1 10 r14.2.2)).bind fun h14 => (xgR h14 r14.1 (9, 18) 6).bind fun x15 => (xaI h14 x15 10 5).bind fun x16 => if (x16 : Int32) = 0 then (some (Sum.inr (Sum.inl (r14.2.1, h14)))) else (some (Sum.inl (r14.2.1 + 1, h14)))))
def fX9_raise (v0 : Nat) (h : Hp) : Option (Int32 × Hp) :=
  (xloop (fX9_raise_b2 v0) 1000000 (0, h)).bind (fun q => match q with | .inl r2 => (some (r2.1, r2.2)) | .inr r2 => (some ((-1), r2)))
abbrev iX9_raise : xI := (cX9_raise, yX9_raise.cls, yX9_raise.name, some .int, 3, 7)
set_option maxHeartbeats 4000000 in
set_option maxRecDepth 100000 in
theorem kX9_raise (l : Launch) (η : xEnv) (v0 : Nat) (h : Hp) (x : Int32 × Hp) (hx : fX9_raise v0 h = some x) : xC l η yX9_raise cX9_raise 3 (some .int) 7 [.ref v0] h (some (.int x.1)) x.2 := by
  refine xC_of (by decide) (Nat.le_of_ble_eq_true rfl) hx (fun κ x => κ.2.2.2.1 = some (.int x.1) ∧ κ.2.2.2.2 = x.2) ⟨rfl, rfl⟩ (fun κ => ?_)
  show xJ iX9_raise κ _ 0 [(0, .ref v0)] [] h (fX9_raise v0 h)
  unfold fX9_raise
  refine j_iconst (x := 0) dX9_raise_0 (by decide) ?_
  refine j_istore_n (L' := [(1, .int 0), (0, .ref v0)]) dX9_raise_1 rfl (Nat.le_of_ble_eq_true rfl) rfl ?_
  refine j_pick [1, 0] rfl ?_
  refine j_loop (pc := 2) (Lf := fun s2 : Int32 × Hp => [(0, .ref v0), (1, .int s2.1)]) (Hf := fun s2 : Int32 × Hp => s2.2) (fun s2 => ?_) 1000000 (0, h)
  show xJ iX9_raise κ _ 2 [(0, .ref v0), (1, .int s2.1)] [] s2.2 (fX9_raise_b2 v0 s2)
  unfold fX9_raise_b2
  refine j_iload_n 1 dX9_raise_2 rfl rfl ?_
  refine j_bipush (x := 10) dX9_raise_3 (by decide) ?_
  refine j_icmp_ge (tgt := 78) dX9_raise_5 (by decide) (fun c1 => ?_) (fun c1 => ?_)
  · refine j_exit (Sum.inr s2.2) ?_
    try dsimp only
    refine j_iconst (x := (-1)) dX9_raise_78 (by decide) ?_
    exact j_iret ((-1), s2.2) dX9_raise_79 rfl (fun q => q)
  · refine j_aload_n 0 dX9_raise_8 rfl rfl ?_
    refine j_callV (as := []) (fun _ => none) (fun x => x) 9 18 dX9_raise_9 ml_RX9_141 tg_X9_layStart im_X9_layStart se_X9_layStart rfl (by decide) (fun x hx => kX9_layStart κ.1 κ.2.1 v0 s2.2 x hx) (by decide) (by decide) rfl rfl (Nat.le_of_ble_eq_true rfl) (fun h2 => ?_)
    show xJ iX9_raise κ _ 12 [(0, .ref v0), (1, .int s2.1)] [] h2 _
    refine j_iconst (x := 0) dX9_raise_12 (by decide) ?_
    refine j_istore_n (L' := [(2, .int 0), (0, .ref v0), (1, .int s2.1)]) dX9_raise_13 rfl (Nat.le_of_ble_eq_true rfl) rfl ?_
    refine j_pick [1, 2, 0] rfl ?_
    refine j_loop (pc := 14) (Lf := fun s14 : Int32 × Hp => [(0, .ref v0), (1, .int s2.1), (2, .int s14.1)]) (Hf := fun s14 : Int32 × Hp => s14.2) (fun s14 => ?_) 1000000 (0, h2)
    show xJ iX9_raise κ _ 14 [(0, .ref v0), (1, .int s2.1), (2, .int s14.1)] [] s14.2 (fX9_raise_b14 v0 s2.1 s14)
    unfold fX9_raise_b14
    refine j_have (pj := 47) (Lf := fun v : Int32 × Int32 × Int32 × Int32 × Nat × Hp => [(0, .ref v0), (1, .int s2.1), (2, .int v.1)]) (Sf := fun v : Int32 × Int32 × Int32 × Int32 × Nat × Hp => [.int v.2.1, .int v.2.2.1, .int v.2.2.2.1, .ref v.2.2.2.2.1]) (Hf := fun v : Int32 × Int32 × Int32 × Int32 × Nat × Hp => v.2.2.2.2.2) (jf := fun v : Int32 × Int32 × Int32 × Int32 × Nat × Hp => fX9_raise_j47 v0 s2.1 v.1 v.2.1 v.2.2.1 v.2.2.2.1 v.2.2.2.2.1 v.2.2.2.2.2) (fun v => ?_) (fun hj47 => ?_)
    · obtain ⟨v2, t0, t1, t2, t3, h⟩ := v
      show xJ iX9_raise κ _ 47 [(0, .ref v0), (1, .int s2.1), (2, .int v2)] [.int t0, .int t1, .int t2, .ref t3] h (fX9_raise_j47 v0 s2.1 v2 t0 t1 t2 t3 h)
      unfold fX9_raise_j47
      refine j_iadd dX9_raise_47 ?_
      refine j_iast dX9_raise_48 (fun h3 => ?_)
      refine j_iinc (y := v2 + 1) (L' := [(2, .int (v2 + 1)), (0, .ref v0), (1, .int s2.1)]) 2 dX9_raise_49 rfl rfl (Nat.le_of_ble_eq_true rfl) rfl ?_
      refine j_goto (tgt := 14) dX9_raise_52 (by decide) ?_
      refine j_pick [1, 2, 0] rfl ?_
      exact j_again (v2 + 1, h3) rfl rfl
    refine j_iload_n 2 dX9_raise_14 rfl rfl ?_
    refine j_bipush (x := 10) dX9_raise_15 (by decide) ?_
    refine j_icmp_ge (tgt := 55) dX9_raise_17 (by decide) (fun c4 => ?_) (fun c4 => ?_)
    · refine j_exit (v0, s2.1, s14.2) ?_
      show xJ iX9_raise κ _ _ _ _ _ ((xat s14.2 v0 (9, 18) (fX9_goTill v0 10 s14.2)).bind fun h5 => (xgR h5 v0 (9, 18) 6).bind fun x6 => (xaI h5 x6 10 5).bind fun x7 => if (x7 : Int32) = 0 then (some (Sum.inr (Sum.inl (s2.1, h5)))) else (some (Sum.inl (s2.1 + 1, h5))))
      refine j_aload_n 0 dX9_raise_55 rfl rfl ?_
      refine j_bipush (x := 10) dX9_raise_56 (by decide) ?_
      refine j_callV (as := [.int 10]) (fun _ => none) (fun x => x) 9 18 dX9_raise_58 ml_RX9_125 tg_X9_goTill im_X9_goTill se_X9_goTill rfl (by decide) (fun x hx => kX9_goTill κ.1 κ.2.1 v0 10 s14.2 x hx) (by decide) (by decide) rfl rfl (Nat.le_of_ble_eq_true rfl) (fun h5 => ?_)
      show xJ iX9_raise κ _ 61 [(0, .ref v0), (1, .int s2.1), (2, .int s14.1)] [] h5 _
      refine j_aload_n 0 dX9_raise_61 rfl rfl ?_
      refine j_getR 9 18 6 dX9_raise_62 fl_RX9_27 (by decide) rfl (by decide) (fun _ _ _ => rfl) (fun x6 => ?_)
      refine j_iconst (x := 5) dX9_raise_65 (by decide) ?_
      refine j_iald dX9_raise_66 (fun x7 => ?_)
      refine j_if_ne (tgt := 72) dX9_raise_67 (by decide) (fun c8 => ?_) (fun c8 => ?_)
      · refine j_exit (Sum.inl (s2.1, h5)) ?_
        try dsimp only
        refine j_iload_n 1 dX9_raise_70 rfl rfl ?_
        exact j_iret (s2.1, h5) dX9_raise_71 rfl (fun q => q)
      · refine j_iinc (y := s2.1 + 1) (L' := [(1, .int (s2.1 + 1)), (0, .ref v0), (2, .int s14.1)]) 1 dX9_raise_72 rfl rfl (Nat.le_of_ble_eq_true rfl) rfl ?_
        refine j_goto (tgt := 2) dX9_raise_75 (by decide) ?_
        refine j_pick [1, 0] rfl ?_
        exact j_again (s2.1 + 1, h5) rfl rfl
    · refine j_aload_n 0 dX9_raise_20 rfl rfl ?_
      refine j_getR 9 18 6 dX9_raise_21 fl_RX9_27 (by decide) rfl (by decide) (fun _ _ _ => rfl) (fun x9 => ?_)
      refine j_bipush (x := 9) dX9_raise_24 (by decide) ?_
      refine j_iload_n 2 dX9_raise_26 rfl rfl ?_
      refine j_iadd dX9_raise_27 ?_
      refine j_dup2 dX9_raise_28 rfl rfl ?_
      refine j_iald dX9_raise_29 (fun x10 => ?_)
      refine j_aload_n 0 dX9_raise_30 rfl rfl ?_
      refine j_getR 9 18 6 dX9_raise_31 fl_RX9_27 (by decide) rfl (by decide) (fun _ _ _ => rfl) (fun x11 => ?_)
      refine j_bipush (x := 9) dX9_raise_34 (by decide) ?_
      refine j_iload_n 2 dX9_raise_36 rfl rfl ?_
      refine j_iadd dX9_raise_37 ?_
      refine j_iald dX9_raise_38 (fun x12 => ?_)
      refine j_if_le (tgt := 46) dX9_raise_39 (by decide) (fun c13 => ?_) (fun c13 => ?_)
      · refine j_iconst (x := 0) dX9_raise_46 (by decide) ?_
        refine j_pick [0, 1, 2] rfl ?_
        exact hj47 (s14.1, 0, x10, 9 + s14.1, x9, s14.2)
      · refine j_iload_n 1 dX9_raise_42 rfl rfl ?_
        refine j_goto (tgt := 47) dX9_raise_43 (by decide) ?_
        refine j_pick [0, 1, 2] rfl ?_
        exact hj47 (s14.1, s2.1, x10, 9 + s14.1, x9, s14.2)
def fX0_quarrelsIn_j32 (v0 : Nat) (v1 : Int32) (v2 : Int32) (h : Hp) : Option ((Int32) ⊕ ((Unit) ⊕ (Unit))) :=
  some (Sum.inl (v2 + 1))
def fX0_quarrelsIn_b2 (v0 : Nat) (v1 : Int32) (h : Hp) (s2 : Int32) : Option ((Int32) ⊕ ((Unit) ⊕ (Unit))) :=
  (xgI h v0 (0, 16) 2).bind fun x1 => if (x1 : Int32) ≤ s2 then (some (Sum.inr (Sum.inr ()))) else ((fX8_bit v1 s2 h).bind fun x3 => if (x3 : Int32) = 1 then ((xgR h v0 (0, 16) 7).bind fun x5 => (xaI h x5 10 s2).bind fun x6 => if (x6 &&& v1 : Int32) = 0 then (fX0_quarrelsIn_j32 v0 v1 s2 h) else (some (Sum.inr (Sum.inl ())))) else (fX0_quarrelsIn_j32 v0 v1 s2 h))
def fX0_quarrelsIn (v0 : Nat) (v1 : Int32) (h : Hp) : Option (Int32) :=
  (xloop (fX0_quarrelsIn_b2 v0 v1 h) 1000000 0).bind (fun q => match q with | .inl r2 => (some 1) | .inr r2 => (some 0))
abbrev iX0_quarrelsIn : xI := (cX0_quarrelsIn, yX0_quarrelsIn.cls, yX0_quarrelsIn.name, some .boolean, 3, 3)
set_option maxHeartbeats 4000000 in
set_option maxRecDepth 100000 in
theorem kX0_quarrelsIn (l : Launch) (η : xEnv) (v0 : Nat) (v1 : Int32) (h : Hp) (x : Int32) (hx : fX0_quarrelsIn v0 v1 h = some x) : xC l η yX0_quarrelsIn cX0_quarrelsIn 3 (some .boolean) 3 [.ref v0, .int v1] h (some (.int x)) h := by
  refine xC_of (by decide) (Nat.le_of_ble_eq_true rfl) hx (fun κ x => κ.2.2.2.1 = some (.int x) ∧ κ.2.2.2.2 = h) ⟨rfl, rfl⟩ (fun κ => ?_)
  show xJ iX0_quarrelsIn κ _ 0 [(0, .ref v0), (1, .int v1)] [] h (fX0_quarrelsIn v0 v1 h)
  unfold fX0_quarrelsIn
  refine j_iconst (x := 0) dX0_quarrelsIn_0 (by decide) ?_
  refine j_istore_n (L' := [(2, .int 0), (0, .ref v0), (1, .int v1)]) dX0_quarrelsIn_1 rfl (Nat.le_of_ble_eq_true rfl) rfl ?_
  refine j_pick [1, 2, 0] rfl ?_
  refine j_loop (pc := 2) (Lf := fun s2 : Int32 => [(0, .ref v0), (1, .int v1), (2, .int s2)]) (Hf := fun s2 : Int32 => h) (fun s2 => ?_) 1000000 0
  show xJ iX0_quarrelsIn κ _ 2 [(0, .ref v0), (1, .int v1), (2, .int s2)] [] h (fX0_quarrelsIn_b2 v0 v1 h s2)
  unfold fX0_quarrelsIn_b2
  refine j_have (pj := 32) (Lf := fun v : Int32 => [(0, .ref v0), (1, .int v1), (2, .int v)]) (Sf := fun v : Int32 => []) (Hf := fun v : Int32 => h) (jf := fun v : Int32 => fX0_quarrelsIn_j32 v0 v1 v h) (fun v => ?_) (fun hj32 => ?_)
  · generalize v = v2
    show xJ iX0_quarrelsIn κ _ 32 [(0, .ref v0), (1, .int v1), (2, .int v2)] [] h (fX0_quarrelsIn_j32 v0 v1 v2 h)
    unfold fX0_quarrelsIn_j32
    refine j_iinc (y := v2 + 1) (L' := [(2, .int (v2 + 1)), (0, .ref v0), (1, .int v1)]) 2 dX0_quarrelsIn_32 rfl rfl (Nat.le_of_ble_eq_true rfl) rfl ?_
    refine j_goto (tgt := 2) dX0_quarrelsIn_35 (by decide) ?_
    refine j_pick [1, 2, 0] rfl ?_
    exact j_again (v2 + 1) rfl rfl
  refine j_iload_n 2 dX0_quarrelsIn_2 rfl rfl ?_
  refine j_aload_n 0 dX0_quarrelsIn_3 rfl rfl ?_
  refine j_getI 0 16 2 dX0_quarrelsIn_4 fl_RX0_57 (by decide) rfl (by decide) rfl (fun x1 => ?_)
  refine j_icmp_ge (tgt := 38) dX0_quarrelsIn_7 (by decide) (fun c2 => ?_) (fun c2 => ?_)
  · refine j_exit (Sum.inr ()) ?_
    try dsimp only
    refine j_iconst (x := 0) dX0_quarrelsIn_38 (by decide) ?_
    exact j_zret 0 dX0_quarrelsIn_39 rfl rfl (fun q => q)
  · refine j_iload_n 1 dX0_quarrelsIn_10 rfl rfl ?_
    refine j_iload_n 2 dX0_quarrelsIn_11 rfl rfl ?_
    refine j_callSN (as := [.int v1, .int s2]) (fun x => some (.int x)) (fun _ => h) dX0_quarrelsIn_12 nl_RX0_125 tg_X8_bit st_X8_bit (fun x hx => kX8_bit κ.1 κ.2.1 v1 s2 h x hx) (by decide) (by decide) rfl rfl (Nat.le_of_ble_eq_true rfl) (fun x3 => ?_)
    show xJ iX0_quarrelsIn κ _ 15 [(0, .ref v0), (1, .int v1), (2, .int s2)] [.int x3] h _
    refine j_iconst (x := 1) dX0_quarrelsIn_15 (by decide) ?_
    refine j_icmp_ne (tgt := 32) dX0_quarrelsIn_16 (by decide) (fun c4 => ?_) (fun c4 => ?_)
    · refine j_aload_n 0 dX0_quarrelsIn_19 rfl rfl ?_
      refine j_getR 0 16 7 dX0_quarrelsIn_20 fl_RX0_31 (by decide) rfl (by decide) (fun _ _ _ => rfl) (fun x5 => ?_)
      refine j_iload_n 2 dX0_quarrelsIn_23 rfl rfl ?_
      refine j_iald dX0_quarrelsIn_24 (fun x6 => ?_)
      refine j_iload_n 1 dX0_quarrelsIn_25 rfl rfl ?_
      refine j_iand dX0_quarrelsIn_26 ?_
      refine j_if_eq (tgt := 32) dX0_quarrelsIn_27 (by decide) (fun c7 => ?_) (fun c7 => ?_)
      · refine j_pick [0, 1, 2] rfl ?_
        exact hj32 s2
      · refine j_exit (Sum.inl ()) ?_
        try dsimp only
        refine j_iconst (x := 1) dX0_quarrelsIn_30 (by decide) ?_
        exact j_zret 1 dX0_quarrelsIn_31 rfl rfl (fun q => q)
    · refine j_pick [0, 1, 2] rfl ?_
      exact hj32 s2
def fX6_canBe_j34 (t0 : Int32) (h : Hp) : Option (Int32) :=
  if vp_nar .boolean t0 = t0 then some t0 else none
def fX6_canBe_j33  (h : Hp) : Option (Int32) :=
  fX6_canBe_j34 0 h
def fX6_canBe (v0 : Nat) (v1 : Int32) (v2 : Int32) (v3 : Int32) (h : Hp) : Option (Int32) :=
  (fJ6_bitCount_0f7a4 v1 h).bind fun x1 => (xgI h v0 (0, 16) 0).bind fun x2 => if (x2 : Int32) < x1 then (fX6_canBe_j33 h) else ((xat h v0 (0, 16) (fX0_swayOfAll v0 v1 v2 h)).bind fun x4 => if (x4 : Int32) = v3 then ((xat h v0 (0, 16) (fX0_quarrelsIn v0 v1 h)).bind fun x6 => if (x6 : Int32) = 0 then (fX6_canBe_j34 1 h) else (fX6_canBe_j33 h)) else (fX6_canBe_j33 h))
abbrev iX6_canBe : xI := (cX6_canBe, yX6_canBe.cls, yX6_canBe.name, some .boolean, 4, 4)
set_option maxHeartbeats 4000000 in
set_option maxRecDepth 100000 in
theorem kX6_canBe (l : Launch) (η : xEnv) (v0 : Nat) (v1 : Int32) (v2 : Int32) (v3 : Int32) (h : Hp) (x : Int32) (hx : fX6_canBe v0 v1 v2 v3 h = some x) : xC l η yX6_canBe cX6_canBe 4 (some .boolean) 4 [.ref v0, .int v1, .int v2, .int v3] h (some (.int x)) h := by
  refine xC_of (by decide) (Nat.le_of_ble_eq_true rfl) hx (fun κ x => κ.2.2.2.1 = some (.int x) ∧ κ.2.2.2.2 = h) ⟨rfl, rfl⟩ (fun κ => ?_)
  show xJ iX6_canBe κ _ 0 [(0, .ref v0), (1, .int v1), (2, .int v2), (3, .int v3)] [] h (fX6_canBe v0 v1 v2 v3 h)
  unfold fX6_canBe
  refine j_have (pj := 34) (Lf := fun v : Int32 => []) (Sf := fun v : Int32 => [.int v]) (Hf := fun v : Int32 => h) (jf := fun v : Int32 => fX6_canBe_j34 v h) (fun v => ?_) (fun hj34 => ?_)
  · generalize v = t0
    show xJ iX6_canBe κ _ 34 [] [.int t0] h (fX6_canBe_j34 t0 h)
    unfold fX6_canBe_j34
    exact j_zretc t0 dX6_canBe_34 rfl (fun q => q)
  refine j_have (pj := 33) (Lf := fun v : Unit => []) (Sf := fun v : Unit => []) (Hf := fun v : Unit => h) (jf := fun v : Unit => fX6_canBe_j33 h) (fun v => ?_) (fun hj33 => ?_)
  · skip
    show xJ iX6_canBe κ _ 33 [] [] h (fX6_canBe_j33 h)
    unfold fX6_canBe_j33
    refine j_iconst (x := 0) dX6_canBe_33 (by decide) ?_
    refine j_pick [] rfl ?_
    exact hj34 0
  refine j_iload_n 1 dX6_canBe_0 rfl rfl ?_
  refine j_callS (as := [.int v1]) (fun x => some (.int x)) (fun _ => h) dX6_canBe_1 ml_RX6_28 tg_J6_bitCount_0f7a4 st_J6_bitCount_0f7a4 (fun x hx => kJ6_bitCount_0f7a4 κ.1 κ.2.1 v1 h x hx) (by decide) (by decide) rfl rfl (Nat.le_of_ble_eq_true rfl) (fun x1 => ?_)
  show xJ iX6_canBe κ _ 4 [(0, .ref v0), (1, .int v1), (2, .int v2), (3, .int v3)] [.int x1] h _
  refine j_aload_n 0 dX6_canBe_4 rfl rfl ?_
  refine j_getI 0 16 0 dX6_canBe_5 fl_RX6_34 (by decide) rfl (by decide) rfl (fun x2 => ?_)
  refine j_icmp_gt (tgt := 33) dX6_canBe_8 (by decide) (fun c3 => ?_) (fun c3 => ?_)
  · refine j_pick [] rfl ?_
    exact hj33 ()
  · refine j_aload_n 0 dX6_canBe_11 rfl rfl ?_
    refine j_iload_n 1 dX6_canBe_12 rfl rfl ?_
    refine j_iload_n 2 dX6_canBe_13 rfl rfl ?_
    refine j_callV (as := [.int v1, .int v2]) (fun x => some (.int x)) (fun _ => h) 0 16 dX6_canBe_14 ml_RX6_37 tg_X0_swayOfAll im_X0_swayOfAll se_X0_swayOfAll rfl (by decide) (fun x hx => kX0_swayOfAll κ.1 κ.2.1 v0 v1 v2 h x hx) (by decide) (by decide) rfl rfl (Nat.le_of_ble_eq_true rfl) (fun x4 => ?_)
    show xJ iX6_canBe κ _ 17 [(0, .ref v0), (1, .int v1), (2, .int v2), (3, .int v3)] [.int x4] h _
    refine j_iload_n 3 dX6_canBe_17 rfl rfl ?_
    refine j_icmp_ne (tgt := 33) dX6_canBe_18 (by decide) (fun c5 => ?_) (fun c5 => ?_)
    · refine j_aload_n 0 dX6_canBe_21 rfl rfl ?_
      refine j_iload_n 1 dX6_canBe_22 rfl rfl ?_
      refine j_callV (as := [.int v1]) (fun x => some (.int x)) (fun _ => h) 0 16 dX6_canBe_23 ml_RX6_41 tg_X0_quarrelsIn im_X0_quarrelsIn se_X0_quarrelsIn rfl (by decide) (fun x hx => kX0_quarrelsIn κ.1 κ.2.1 v0 v1 h x hx) (by decide) (by decide) rfl rfl (Nat.le_of_ble_eq_true rfl) (fun x6 => ?_)
      show xJ iX6_canBe κ _ 26 [(0, .ref v0), (1, .int v1), (2, .int v2), (3, .int v3)] [.int x6] h _
      refine j_if_ne (tgt := 33) dX6_canBe_26 (by decide) (fun c7 => ?_) (fun c7 => ?_)
      · refine j_iconst (x := 1) dX6_canBe_29 (by decide) ?_
        refine j_goto (tgt := 34) dX6_canBe_30 (by decide) ?_
        refine j_pick [] rfl ?_
        exact hj34 1
      · refine j_pick [] rfl ?_
        exact hj33 ()
    · refine j_pick [] rfl ?_
      exact hj33 ()
def fX6_find_j82 (v0 : Nat) (v1 : Nat) (v2 : Int32) (v3 : Int32) (v4 : Int32) (h : Hp) : Option ((Int32 × Hp) ⊕ ((Hp))) :=
  some (Sum.inl (v4 + 1, h))
def fX6_find_b25 (v0 : Nat) (v1 : Nat) (v2 : Int32) (v3 : Int32) (s25 : Int32 × Hp) : Option ((Int32 × Hp) ⊕ ((Hp))) :=
  (xgI s25.2 v1 (0, 16) 2).bind fun x5 => if (1 <<< (x5 &&& 31) : Int32) ≤ s25.1 then (some (Sum.inr s25.2)) else ((fX6_canBe v1 s25.1 v2 v3 s25.2).bind fun x7 => if (x7 : Int32) = 0 then (fX6_find_j82 v0 v1 v2 v3 s25.1 s25.2) else ((xgI s25.2 v0 (6, 3) 0).bind fun x9 => (xpI s25.2 v0 (6, 3) 0 (x9 + 1)).bind fun h10 => (xgI h10 v0 (6, 3) 1).bind fun x11 => (xpI h10 v0 (6, 3) 1 (x11 &&& s25.1)).bind fun h12 => (xgI h12 v0 (6, 3) 2).bind fun x13 => (xpI h12 v0 (6, 3) 2 (x13 ||| s25.1)).bind fun h14 => fX6_find_j82 v0 v1 v2 v3 s25.1 h14))
def fX6_find (v0 : Nat) (v1 : Nat) (v2 : Int32) (v3 : Int32) (h : Hp) : Option (Hp) :=
  (xpI h v0 (6, 3) 0 0).bind fun h1 => (xgI h1 v1 (0, 16) 2).bind fun x2 => (xpI h1 v0 (6, 3) 1 ((1 <<< (x2 &&& 31)) - 1)).bind fun h3 => (xpI h3 v0 (6, 3) 2 0).bind fun h4 => (xloop (fX6_find_b25 v0 v1 v2 v3) 1000000 (0, h4)).bind (fun r25 => some r25)
abbrev iX6_find : xI := (cX6_find, yX6_find.cls, yX6_find.name, none, 5, 5)
set_option maxHeartbeats 4000000 in
set_option maxRecDepth 100000 in
theorem kX6_find (l : Launch) (η : xEnv) (v0 : Nat) (v1 : Nat) (v2 : Int32) (v3 : Int32) (h : Hp) (x : Hp) (hx : fX6_find v0 v1 v2 v3 h = some x) : xC l η yX6_find cX6_find 5 none 5 [.ref v0, .ref v1, .int v2, .int v3] h none x := by
  refine xC_of (by decide) (Nat.le_of_ble_eq_true rfl) hx (fun κ x => κ.2.2.2.1 = none ∧ κ.2.2.2.2 = x) ⟨rfl, rfl⟩ (fun κ => ?_)
  show xJ iX6_find κ _ 0 [(0, .ref v0), (1, .ref v1), (2, .int v2), (3, .int v3)] [] h (fX6_find v0 v1 v2 v3 h)
  unfold fX6_find
  refine j_aload_n 0 dX6_find_0 rfl rfl ?_
  refine j_iconst (x := 0) dX6_find_1 (by decide) ?_
  refine j_putI 6 3 0 dX6_find_2 fl_RX6_7 (by decide) rfl (by decide) rfl rfl (fun h1 => ?_)
  refine j_aload_n 0 dX6_find_5 rfl rfl ?_
  refine j_iconst (x := 1) dX6_find_6 (by decide) ?_
  refine j_aload_n 1 dX6_find_7 rfl rfl ?_
  refine j_getI 0 16 2 dX6_find_8 fl_RX6_13 (by decide) rfl (by decide) rfl (fun x2 => ?_)
  refine j_ishl dX6_find_11 ?_
  refine j_iconst (x := 1) dX6_find_12 (by decide) ?_
  refine j_isub dX6_find_13 ?_
  refine j_putI 6 3 1 dX6_find_14 fl_RX6_18 (by decide) rfl (by decide) rfl rfl (fun h3 => ?_)
  refine j_aload_n 0 dX6_find_17 rfl rfl ?_
  refine j_iconst (x := 0) dX6_find_18 (by decide) ?_
  refine j_putI 6 3 2 dX6_find_19 fl_RX6_21 (by decide) rfl (by decide) rfl rfl (fun h4 => ?_)
  refine j_iconst (x := 0) dX6_find_22 (by decide) ?_
  refine j_istore (L' := [(4, .int 0), (0, .ref v0), (1, .ref v1), (2, .int v2), (3, .int v3)]) dX6_find_23 (Nat.le_of_ble_eq_true rfl) rfl ?_
  refine j_pick [1, 2, 3, 4, 0] rfl ?_
  refine j_loop (pc := 25) (Lf := fun s25 : Int32 × Hp => [(0, .ref v0), (1, .ref v1), (2, .int v2), (3, .int v3), (4, .int s25.1)]) (Hf := fun s25 : Int32 × Hp => s25.2) (fun s25 => ?_) 1000000 (0, h4)
  show xJ iX6_find κ _ 25 [(0, .ref v0), (1, .ref v1), (2, .int v2), (3, .int v3), (4, .int s25.1)] [] s25.2 (fX6_find_b25 v0 v1 v2 v3 s25)
  unfold fX6_find_b25
  refine j_have (pj := 82) (Lf := fun v : Int32 × Hp => [(0, .ref v0), (1, .ref v1), (2, .int v2), (3, .int v3), (4, .int v.1)]) (Sf := fun v : Int32 × Hp => []) (Hf := fun v : Int32 × Hp => v.2) (jf := fun v : Int32 × Hp => fX6_find_j82 v0 v1 v2 v3 v.1 v.2) (fun v => ?_) (fun hj82 => ?_)
  · obtain ⟨v4, h⟩ := v
    show xJ iX6_find κ _ 82 [(0, .ref v0), (1, .ref v1), (2, .int v2), (3, .int v3), (4, .int v4)] [] h (fX6_find_j82 v0 v1 v2 v3 v4 h)
    unfold fX6_find_j82
    refine j_iinc (y := v4 + 1) (L' := [(4, .int (v4 + 1)), (0, .ref v0), (1, .ref v1), (2, .int v2), (3, .int v3)]) 4 dX6_find_82 rfl rfl (Nat.le_of_ble_eq_true rfl) rfl ?_
    refine j_goto (tgt := 25) dX6_find_85 (by decide) ?_
    refine j_pick [1, 2, 3, 4, 0] rfl ?_
    exact j_again (v4 + 1, h) rfl rfl
  refine j_iload 4 dX6_find_25 rfl ?_
  refine j_iconst (x := 1) dX6_find_27 (by decide) ?_
  refine j_aload_n 1 dX6_find_28 rfl rfl ?_
  refine j_getI 0 16 2 dX6_find_29 fl_RX6_13 (by decide) rfl (by decide) rfl (fun x5 => ?_)
  refine j_ishl dX6_find_32 ?_
  refine j_icmp_ge (tgt := 88) dX6_find_33 (by decide) (fun c6 => ?_) (fun c6 => ?_)
  · refine j_exit s25.2 ?_
    show xJ iX6_find κ _ _ _ _ _ (some s25.2)
    exact j_vret s25.2 dX6_find_88 rfl (fun q => q)
  · refine j_aload_n 1 dX6_find_36 rfl rfl ?_
    refine j_iload 4 dX6_find_37 rfl ?_
    refine j_iload_n 2 dX6_find_39 rfl rfl ?_
    refine j_iload_n 3 dX6_find_40 rfl rfl ?_
    refine j_callS (as := [.ref v1, .int s25.1, .int v2, .int v3]) (fun x => some (.int x)) (fun _ => s25.2) dX6_find_41 ml_RX6_24 tg_X6_canBe st_X6_canBe (fun x hx => kX6_canBe κ.1 κ.2.1 v1 s25.1 v2 v3 s25.2 x hx) (by decide) (by decide) rfl rfl (Nat.le_of_ble_eq_true rfl) (fun x7 => ?_)
    show xJ iX6_find κ _ 44 [(0, .ref v0), (1, .ref v1), (2, .int v2), (3, .int v3), (4, .int s25.1)] [.int x7] s25.2 _
    refine j_if_ne (tgt := 50) dX6_find_44 (by decide) (fun c8 => ?_) (fun c8 => ?_)
    · refine j_goto (tgt := 82) dX6_find_47 (by decide) ?_
      refine j_pick [0, 1, 2, 3, 4] rfl ?_
      exact hj82 (s25.1, s25.2)
    · refine j_aload_n 0 dX6_find_50 rfl rfl ?_
      refine j_dup dX6_find_51 rfl ?_
      refine j_getI 6 3 0 dX6_find_52 fl_RX6_7 (by decide) rfl (by decide) rfl (fun x9 => ?_)
      refine j_iconst (x := 1) dX6_find_55 (by decide) ?_
      refine j_iadd dX6_find_56 ?_
      refine j_putI 6 3 0 dX6_find_57 fl_RX6_7 (by decide) rfl (by decide) rfl rfl (fun h10 => ?_)
      refine j_aload_n 0 dX6_find_60 rfl rfl ?_
      refine j_dup dX6_find_61 rfl ?_
      refine j_getI 6 3 1 dX6_find_62 fl_RX6_18 (by decide) rfl (by decide) rfl (fun x11 => ?_)
      refine j_iload 4 dX6_find_65 rfl ?_
      refine j_iand dX6_find_67 ?_
      refine j_putI 6 3 1 dX6_find_68 fl_RX6_18 (by decide) rfl (by decide) rfl rfl (fun h12 => ?_)
      refine j_aload_n 0 dX6_find_71 rfl rfl ?_
      refine j_dup dX6_find_72 rfl ?_
      refine j_getI 6 3 2 dX6_find_73 fl_RX6_21 (by decide) rfl (by decide) rfl (fun x13 => ?_)
      refine j_iload 4 dX6_find_76 rfl ?_
      refine j_ior dX6_find_78 ?_
      refine j_putI 6 3 2 dX6_find_79 fl_RX6_21 (by decide) rfl (by decide) rfl rfl (fun h14 => ?_)
      refine j_pick [0, 1, 2, 3, 4] rfl ?_
      exact hj82 (s25.1, h14)
def fX8_upstairs_j109 (t0 : Int32) (h : Hp) : Option (Int32 × Hp) :=
  some (t0, h)
def fX8_upstairs_j21 (v0 : Nat) (h : Hp) : Option (Int32 × Hp) :=
  (xat h v0 (8, 12) (fX8_refuseBad v0 h)).bind fun q1 => some (q1.1, q1.2)
def fX8_upstairs (v0 : Nat) (v1 : Int32) (v2 : Int32) (v3 : Int32) (h : Hp) : Option (Int32 × Hp) :=
  (fX8_within v1 0 9 h).bind fun x2 => if (x2 : Int32) = 0 then (fX8_upstairs_j21 v0 h) else ((fX8_within v2 0 200 h).bind fun x4 => if (x4 : Int32) = 0 then (fX8_upstairs_j21 v0 h) else ((fX8_within v3 0 2 h).bind fun x6 => if (x6 : Int32) = 0 then ((xat h v0 (8, 12) (fX8_refuseBad v0 h)).bind fun q8 => some (q8.1, q8.2)) else ((xgR h v0 (8, 12) 5).bind fun x9 => (xgR h v0 (8, 12) 0).bind fun x10 => (xat h x9 (6, 3) (fX6_find x9 x10 v1 v2 h)).bind fun h11 => if (v3 : Int32) = 0 then ((xgR h11 v0 (8, 12) 5).bind fun x13 => (xgI h11 x13 (6, 3) 0).bind fun x14 => some (x14, h11)) else if (v3 : Int32) = 1 then ((xgR h11 v0 (8, 12) 5).bind fun x16 => (xgI h11 x16 (6, 3) 0).bind fun x17 => if (x17 : Int32) = 0 then (fX8_upstairs_j109 (-1) h11) else ((xgR h11 v0 (8, 12) 5).bind fun x19 => (xgI h11 x19 (6, 3) 1).bind fun x20 => fX8_upstairs_j109 x20 h11)) else ((xgR h11 v0 (8, 12) 5).bind fun x21 => (xgI h11 x21 (6, 3) 2).bind fun x22 => some (x22, h11)))))
abbrev iX8_upstairs : xI := (cX8_upstairs, yX8_upstairs.cls, yX8_upstairs.name, some .int, 4, 6)
set_option maxHeartbeats 4000000 in
set_option maxRecDepth 100000 in
theorem kX8_upstairs (l : Launch) (η : xEnv) (v0 : Nat) (v1 : Int32) (v2 : Int32) (v3 : Int32) (h : Hp) (x : Int32 × Hp) (hx : fX8_upstairs v0 v1 v2 v3 h = some x) : xC l η yX8_upstairs cX8_upstairs 4 (some .int) 6 [.ref v0, .int v1, .int v2, .int v3] h (some (.int x.1)) x.2 := by
  refine xC_of (by decide) (Nat.le_of_ble_eq_true rfl) hx (fun κ x => κ.2.2.2.1 = some (.int x.1) ∧ κ.2.2.2.2 = x.2) ⟨rfl, rfl⟩ (fun κ => ?_)
  show xJ iX8_upstairs κ _ 0 [(0, .ref v0), (1, .int v1), (2, .int v2), (3, .int v3)] [] h (fX8_upstairs v0 v1 v2 v3 h)
  unfold fX8_upstairs
  refine j_have (pj := 109) (Lf := fun v : Int32 × Hp => []) (Sf := fun v : Int32 × Hp => [.int v.1]) (Hf := fun v : Int32 × Hp => v.2) (jf := fun v : Int32 × Hp => fX8_upstairs_j109 v.1 v.2) (fun v => ?_) (fun hj109 => ?_)
  · obtain ⟨t0, h⟩ := v
    show xJ iX8_upstairs κ _ 109 [] [.int t0] h (fX8_upstairs_j109 t0 h)
    unfold fX8_upstairs_j109
    exact j_iret (t0, h) dX8_upstairs_109 rfl (fun q => q)
  refine j_have (pj := 21) (Lf := fun v : Hp => [(0, .ref v0)]) (Sf := fun v : Hp => []) (Hf := fun v : Hp => v) (jf := fun v : Hp => fX8_upstairs_j21 v0 v) (fun v => ?_) (fun hj21 => ?_)
  · generalize v = h
    show xJ iX8_upstairs κ _ 21 [(0, .ref v0)] [] h (fX8_upstairs_j21 v0 h)
    unfold fX8_upstairs_j21
    refine j_aload_n 0 dX8_upstairs_21 rfl rfl ?_
    refine j_callV (as := []) (fun x => some (.int x.1)) (fun x => x.2) 8 12 dX8_upstairs_22 ml_RX8_70 tg_X8_refuseBad im_X8_refuseBad se_X8_refuseBad rfl (by decide) (fun x hx => kX8_refuseBad κ.1 κ.2.1 v0 h x hx) (by decide) (by decide) rfl rfl (Nat.le_of_ble_eq_true rfl) (fun q1 => ?_)
    show xJ iX8_upstairs κ _ 25 [(0, .ref v0)] [.int q1.1] q1.2 _
    exact j_iret (q1.1, q1.2) dX8_upstairs_25 rfl (fun q => q)
  refine j_iload_n 1 dX8_upstairs_0 rfl rfl ?_
  refine j_iconst (x := 0) dX8_upstairs_1 (by decide) ?_
  refine j_bipush (x := 9) dX8_upstairs_2 (by decide) ?_
  refine j_callS (as := [.int v1, .int 0, .int 9]) (fun x => some (.int x)) (fun _ => h) dX8_upstairs_4 ml_RX8_66 tg_X8_within st_X8_within (fun x hx => kX8_within κ.1 κ.2.1 v1 0 9 h x hx) (by decide) (by decide) rfl rfl (Nat.le_of_ble_eq_true rfl) (fun x2 => ?_)
  show xJ iX8_upstairs κ _ 7 [(0, .ref v0), (1, .int v1), (2, .int v2), (3, .int v3)] [.int x2] h _
  refine j_if_eq (tgt := 21) dX8_upstairs_7 (by decide) (fun c3 => ?_) (fun c3 => ?_)
  · refine j_pick [0] rfl ?_
    exact hj21 h
  · refine j_iload_n 2 dX8_upstairs_10 rfl rfl ?_
    refine j_iconst (x := 0) dX8_upstairs_11 (by decide) ?_
    refine j_sipush (x := 200) dX8_upstairs_12 (by decide) ?_
    refine j_callS (as := [.int v2, .int 0, .int 200]) (fun x => some (.int x)) (fun _ => h) dX8_upstairs_15 ml_RX8_66 tg_X8_within st_X8_within (fun x hx => kX8_within κ.1 κ.2.1 v2 0 200 h x hx) (by decide) (by decide) rfl rfl (Nat.le_of_ble_eq_true rfl) (fun x4 => ?_)
    show xJ iX8_upstairs κ _ 18 [(0, .ref v0), (1, .int v1), (2, .int v2), (3, .int v3)] [.int x4] h _
    refine j_if_ne (tgt := 26) dX8_upstairs_18 (by decide) (fun c5 => ?_) (fun c5 => ?_)
    · refine j_pick [0] rfl ?_
      exact hj21 h
    · refine j_iload_n 3 dX8_upstairs_26 rfl rfl ?_
      refine j_iconst (x := 0) dX8_upstairs_27 (by decide) ?_
      refine j_iconst (x := 2) dX8_upstairs_28 (by decide) ?_
      refine j_callS (as := [.int v3, .int 0, .int 2]) (fun x => some (.int x)) (fun _ => h) dX8_upstairs_29 ml_RX8_66 tg_X8_within st_X8_within (fun x hx => kX8_within κ.1 κ.2.1 v3 0 2 h x hx) (by decide) (by decide) rfl rfl (Nat.le_of_ble_eq_true rfl) (fun x6 => ?_)
      show xJ iX8_upstairs κ _ 32 [(0, .ref v0), (1, .int v1), (2, .int v2), (3, .int v3)] [.int x6] h _
      refine j_if_ne (tgt := 40) dX8_upstairs_32 (by decide) (fun c7 => ?_) (fun c7 => ?_)
      · refine j_aload_n 0 dX8_upstairs_35 rfl rfl ?_
        refine j_callV (as := []) (fun x => some (.int x.1)) (fun x => x.2) 8 12 dX8_upstairs_36 ml_RX8_70 tg_X8_refuseBad im_X8_refuseBad se_X8_refuseBad rfl (by decide) (fun x hx => kX8_refuseBad κ.1 κ.2.1 v0 h x hx) (by decide) (by decide) rfl rfl (Nat.le_of_ble_eq_true rfl) (fun q8 => ?_)
        show xJ iX8_upstairs κ _ 39 [(0, .ref v0), (1, .int v1), (2, .int v2), (3, .int v3)] [.int q8.1] q8.2 _
        exact j_iret (q8.1, q8.2) dX8_upstairs_39 rfl (fun q => q)
      · refine j_aload_n 0 dX8_upstairs_40 rfl rfl ?_
        refine j_getR 8 12 5 dX8_upstairs_41 fl_RX8_41 (by decide) rfl (by decide) (fun _ _ _ => rfl) (fun x9 => ?_)
        refine j_aload_n 0 dX8_upstairs_44 rfl rfl ?_
        refine j_getR 8 12 0 dX8_upstairs_45 fl_RX8_12 (by decide) rfl (by decide) (fun _ _ _ => rfl) (fun x10 => ?_)
        refine j_iload_n 1 dX8_upstairs_48 rfl rfl ?_
        refine j_iload_n 2 dX8_upstairs_49 rfl rfl ?_
        refine j_callV (as := [.ref x10, .int v1, .int v2]) (fun _ => none) (fun x => x) 6 3 dX8_upstairs_50 ml_RX8_227 tg_X6_find im_X6_find se_X6_find rfl (by decide) (fun x hx => kX6_find κ.1 κ.2.1 x9 x10 v1 v2 h x hx) (by decide) (by decide) rfl rfl (Nat.le_of_ble_eq_true rfl) (fun h11 => ?_)
        show xJ iX8_upstairs κ _ 53 [(0, .ref v0), (1, .int v1), (2, .int v2), (3, .int v3)] [] h11 _
        refine j_iload_n 3 dX8_upstairs_53 rfl rfl ?_
        refine j_lokv (w := 0) (off := 26) (tgt := 80) dX8_upstairs_54 (by decide) (by decide) (by decide) (fun c12 => ?_) (fun c12 => ?_)
        · refine j_aload_n 0 dX8_upstairs_80 rfl rfl ?_
          refine j_getR 8 12 5 dX8_upstairs_81 fl_RX8_41 (by decide) rfl (by decide) (fun _ _ _ => rfl) (fun x13 => ?_)
          refine j_getI 6 3 0 dX8_upstairs_84 fl_RX8_231 (by decide) rfl (by decide) rfl (fun x14 => ?_)
          exact j_iret (x14, h11) dX8_upstairs_87 rfl (fun q => q)
        refine j_lokv (w := 1) (off := 34) (tgt := 88) dX8_upstairs_54 (by decide) (by decide) (by decide) (fun c15 => ?_) (fun c15 => ?_)
        · refine j_aload_n 0 dX8_upstairs_88 rfl rfl ?_
          refine j_getR 8 12 5 dX8_upstairs_89 fl_RX8_41 (by decide) rfl (by decide) (fun _ _ _ => rfl) (fun x16 => ?_)
          refine j_getI 6 3 0 dX8_upstairs_92 fl_RX8_231 (by decide) rfl (by decide) rfl (fun x17 => ?_)
          refine j_if_ne (tgt := 102) dX8_upstairs_95 (by decide) (fun c18 => ?_) (fun c18 => ?_)
          · refine j_iconst (x := (-1)) dX8_upstairs_98 (by decide) ?_
            refine j_goto (tgt := 109) dX8_upstairs_99 (by decide) ?_
            refine j_pick [] rfl ?_
            exact hj109 ((-1), h11)
          · refine j_aload_n 0 dX8_upstairs_102 rfl rfl ?_
            refine j_getR 8 12 5 dX8_upstairs_103 fl_RX8_41 (by decide) rfl (by decide) (fun _ _ _ => rfl) (fun x19 => ?_)
            refine j_getI 6 3 1 dX8_upstairs_106 fl_RX8_234 (by decide) rfl (by decide) rfl (fun x20 => ?_)
            refine j_pick [] rfl ?_
            exact hj109 (x20, h11)
        refine j_lokd (tgt := 110) dX8_upstairs_54 (by decide) (by have ec12 : ¬ (0 : Int) = (v3 : Int32).toInt := fun q => c12 (Int32.toInt_inj.mp (q.symm.trans (by decide))); have ec15 : ¬ (1 : Int) = (v3 : Int32).toInt := fun q => c15 (Int32.toInt_inj.mp (q.symm.trans (by decide))); show Op.lookupswitch.offset [(0, 26), (1, 34)] 56 (v3 : Int32).toInt = 56; simp only [Op.lookupswitch.offset, if_neg ec12, if_neg ec15]) (by decide) ?_
        refine j_aload_n 0 dX8_upstairs_110 rfl rfl ?_
        refine j_getR 8 12 5 dX8_upstairs_111 fl_RX8_41 (by decide) rfl (by decide) (fun _ _ _ => rfl) (fun x21 => ?_)
        refine j_getI 6 3 2 dX8_upstairs_114 fl_RX8_237 (by decide) rfl (by decide) rfl (fun x22 => ?_)
        exact j_iret (x22, h11) dX8_upstairs_117 rfl (fun q => q)
def fX9_upstairs_j244 (t0 : Int32) (h : Hp) : Option (Int32 × Hp) :=
  some (t0, h)
def fX9_upstairs_j31 (v0 : Nat) (h : Hp) : Option (Int32 × Hp) :=
  (xat h v0 (9, 18) (fX9_bad v0 (-2) h)).bind fun q1 => some (q1.1, q1.2)
def fX9_upstairs_j205 (v0 : Nat) (v1 : Int32) (v2 : Int32) (v3 : Int32) (v5 : Int32) (v6 : Int32) (v7 : Int32) (t0 : Int32) (t1 : Int32) (h : Hp) : Option ((Int32 × Int32 × Int32 × Int32) ⊕ ((Int32 × Int32 × Int32 × Int32))) :=
  some (Sum.inl (t1 + t0, v5, v6, v7 + 1))
def fX9_upstairs_j190 (v0 : Nat) (v1 : Int32) (v2 : Int32) (v3 : Int32) (v4 : Int32) (v5 : Int32) (v7 : Int32) (v8 : Int32) (t0 : Int32) (t1 : Int32) (h : Hp) : Option ((Int32 × Int32 × Int32 × Int32) ⊕ ((Int32 × Int32 × Int32 × Int32))) :=
  if (v8 : Int32) = 0 then (fX9_upstairs_j205 v0 v1 v2 v3 v5 (t1 ||| t0) v7 0 v4 h) else (fX9_upstairs_j205 v0 v1 v2 v3 v5 (t1 ||| t0) v7 1 v4 h)
def fX9_upstairs_j174 (v0 : Nat) (v1 : Int32) (v2 : Int32) (v3 : Int32) (v4 : Int32) (v6 : Int32) (v7 : Int32) (v8 : Int32) (t0 : Int32) (t1 : Int32) (h : Hp) : Option ((Int32 × Int32 × Int32 × Int32) ⊕ ((Int32 × Int32 × Int32 × Int32))) :=
  if (v8 : Int32) = 0 then (fX9_upstairs_j190 v0 v1 v2 v3 v4 (t1 &&& t0) v7 v8 0 v6 h) else (fX9_upstairs_j190 v0 v1 v2 v3 v4 (t1 &&& t0) v7 v8 v7 v6 h)
def fX9_upstairs_j153 (v0 : Nat) (v1 : Int32) (v2 : Int32) (v3 : Int32) (v4 : Int32) (v5 : Int32) (v6 : Int32) (v7 : Int32) (v9 : Int32) (t0 : Int32) (h : Hp) : Option ((Int32 × Int32) ⊕ ((Nat × Int32 × Int32 × Int32 × Int32 × Int32 × Int32 × Int32 × Int32))) :=
  some (Sum.inl (t0, v9 + 1))
def fX9_upstairs_j152 (v0 : Nat) (v1 : Int32) (v2 : Int32) (v3 : Int32) (v4 : Int32) (v5 : Int32) (v6 : Int32) (v7 : Int32) (v9 : Int32) (h : Hp) : Option ((Int32 × Int32) ⊕ ((Nat × Int32 × Int32 × Int32 × Int32 × Int32 × Int32 × Int32 × Int32))) :=
  fX9_upstairs_j153 v0 v1 v2 v3 v4 v5 v6 v7 v9 0 h
def fX9_upstairs_j148 (v0 : Nat) (v1 : Int32) (v2 : Int32) (v3 : Int32) (v4 : Int32) (v5 : Int32) (v6 : Int32) (v7 : Int32) (v9 : Int32) (h : Hp) : Option ((Int32 × Int32) ⊕ ((Nat × Int32 × Int32 × Int32 × Int32 × Int32 × Int32 × Int32 × Int32))) :=
  fX9_upstairs_j153 v0 v1 v2 v3 v4 v5 v6 v7 v9 1 h
def fX9_upstairs_b108 (v0 : Nat) (v1 : Int32) (v2 : Int32) (v3 : Int32) (v4 : Int32) (v5 : Int32) (v6 : Int32) (v7 : Int32) (h : Hp) (s108 : Int32 × Int32) : Option ((Int32 × Int32) ⊕ ((Nat × Int32 × Int32 × Int32 × Int32 × Int32 × Int32 × Int32 × Int32))) :=
  (xat h v0 (9, 18) (fX9_many v0 h)).bind fun x12 => if (x12 : Int32) ≤ s108.2 then (some (Sum.inr (v0, v1, v2, v3, v4, v5, v6, v7, s108.1))) else (if (s108.1 : Int32) = 0 then (fX9_upstairs_j152 v0 v1 v2 v3 v4 v5 v6 v7 s108.2 h) else ((fX9_has v7 s108.2 h).bind fun x16 => if (x16 : Int32) = 0 then (fX9_upstairs_j148 v0 v1 v2 v3 v4 v5 v6 v7 s108.2 h) else ((xgR h v0 (9, 18) 0).bind fun x18 => (xaI h x18 10 (47 + s108.2)).bind fun x19 => if (v7 &&& x19 : Int32) = 0 then (fX9_upstairs_j148 v0 v1 v2 v3 v4 v5 v6 v7 s108.2 h) else (fX9_upstairs_j152 v0 v1 v2 v3 v4 v5 v6 v7 s108.2 h))))
def fX9_upstairs_j103 (v0 : Nat) (v1 : Int32) (v2 : Int32) (v3 : Int32) (v4 : Int32) (v5 : Int32) (v6 : Int32) (v7 : Int32) (t0 : Int32) (h : Hp) : Option ((Int32 × Int32 × Int32 × Int32) ⊕ ((Int32 × Int32 × Int32 × Int32))) :=
  (xloop (fX9_upstairs_b108 v0 v1 v2 v3 v4 v5 v6 v7 h) 1000000 (t0, 0)).bind (fun r108 => if (r108.2.2.2.2.2.2.2.2 : Int32) = 0 then (fX9_upstairs_j174 r108.1 r108.2.1 r108.2.2.1 r108.2.2.2.1 r108.2.2.2.2.1 r108.2.2.2.2.2.2.1 r108.2.2.2.2.2.2.2.1 r108.2.2.2.2.2.2.2.2 (-1) r108.2.2.2.2.2.1 h) else (fX9_upstairs_j174 r108.1 r108.2.1 r108.2.2.1 r108.2.2.2.1 r108.2.2.2.2.1 r108.2.2.2.2.2.2.1 r108.2.2.2.2.2.2.2.1 r108.2.2.2.2.2.2.2.2 r108.2.2.2.2.2.2.2.1 r108.2.2.2.2.2.1 h))
def fX9_upstairs_j102 (v0 : Nat) (v1 : Int32) (v2 : Int32) (v3 : Int32) (v4 : Int32) (v5 : Int32) (v6 : Int32) (v7 : Int32) (h : Hp) : Option ((Int32 × Int32 × Int32 × Int32) ⊕ ((Int32 × Int32 × Int32 × Int32))) :=
  fX9_upstairs_j103 v0 v1 v2 v3 v4 v5 v6 v7 0 h
def fX9_upstairs_b61 (v0 : Nat) (v1 : Int32) (v2 : Int32) (v3 : Int32) (h : Hp) (s61 : Int32 × Int32 × Int32 × Int32) : Option ((Int32 × Int32 × Int32 × Int32) ⊕ ((Int32 × Int32 × Int32 × Int32))) :=
  (xat h v0 (9, 18) (fX9_many v0 h)).bind fun x21 => if (1 <<< (x21 &&& 31) : Int32) ≤ s61.2.2.2 then (some (Sum.inr (v3, s61.1, s61.2.1, s61.2.2.1))) else ((fX9_bits s61.2.2.2 h).bind fun x26 => (xgR h v0 (9, 18) 0).bind fun x27 => (xaI h x27 10 8).bind fun x28 => if (x28 : Int32) < x26 then (fX9_upstairs_j102 v0 v1 v2 v3 s61.1 s61.2.1 s61.2.2.1 s61.2.2.2 h) else ((xat h v0 (9, 18) (fX9_swayOfAll v0 s61.2.2.2 v1 h)).bind fun x30 => if (x30 : Int32) = v2 then (fX9_upstairs_j103 v0 v1 v2 v3 s61.1 s61.2.1 s61.2.2.1 s61.2.2.2 1 h) else (fX9_upstairs_j102 v0 v1 v2 v3 s61.1 s61.2.1 s61.2.2.1 s61.2.2.2 h)))
def fX9_upstairs (v0 : Nat) (v1 : Int32) (v2 : Int32) (v3 : Int32) (h : Hp) : Option (Int32 × Hp) :=
  (fX9_isStop v1 h).bind fun x2 => if (x2 : Int32) = 0 then (fX9_upstairs_j31 v0 h) else ((fX9_in ((v2 : Int32).toInt64) 0 200 h).bind fun x4 => if (x4 : Int32) = 0 then (fX9_upstairs_j31 v0 h) else ((fX9_in ((v3 : Int32).toInt64) 0 2 h).bind fun x6 => if (x6 : Int32) = 0 then (fX9_upstairs_j31 v0 h) else ((xat h v0 (9, 18) (fX9_many v0 h)).bind fun x8 => (xat h v0 (9, 18) (fX9_layHand v0 h)).bind fun h9 => (xloop (fX9_upstairs_b61 v0 v1 v2 v3 h9) 1000000 (0, (1 <<< (x8 &&& 31)) - 1, 0, 0)).bind (fun r61 => if (r61.1 : Int32) = 0 then (fX9_upstairs_j244 r61.2.1 h9) else (if (r61.1 : Int32) = 2 then (fX9_upstairs_j244 r61.2.2.2 h9) else (if (r61.2.1 : Int32) = 0 then (fX9_upstairs_j244 (-1) h9) else (fX9_upstairs_j244 r61.2.2.1 h9)))))))
abbrev iX9_upstairs : xI := (cX9_upstairs, yX9_upstairs.cls, yX9_upstairs.name, some .int, 10, 5)
set_option maxHeartbeats 4000000 in
set_option maxRecDepth 100000 in
theorem kX9_upstairs (l : Launch) (η : xEnv) (v0 : Nat) (v1 : Int32) (v2 : Int32) (v3 : Int32) (h : Hp) (x : Int32 × Hp) (hx : fX9_upstairs v0 v1 v2 v3 h = some x) : xC l η yX9_upstairs cX9_upstairs 10 (some .int) 5 [.ref v0, .int v1, .int v2, .int v3] h (some (.int x.1)) x.2 := by
  refine xC_of (by decide) (Nat.le_of_ble_eq_true rfl) hx (fun κ x => κ.2.2.2.1 = some (.int x.1) ∧ κ.2.2.2.2 = x.2) ⟨rfl, rfl⟩ (fun κ => ?_)
  show xJ iX9_upstairs κ _ 0 [(0, .ref v0), (1, .int v1), (2, .int v2), (3, .int v3)] [] h (fX9_upstairs v0 v1 v2 v3 h)
  unfold fX9_upstairs
  refine j_have (pj := 244) (Lf := fun v : Int32 × Hp => []) (Sf := fun v : Int32 × Hp => [.int v.1]) (Hf := fun v : Int32 × Hp => v.2) (jf := fun v : Int32 × Hp => fX9_upstairs_j244 v.1 v.2) (fun v => ?_) (fun hj244 => ?_)
  · obtain ⟨t0, h⟩ := v
    show xJ iX9_upstairs κ _ 244 [] [.int t0] h (fX9_upstairs_j244 t0 h)
    unfold fX9_upstairs_j244
    exact j_iret (t0, h) dX9_upstairs_244 rfl (fun q => q)
  refine j_have (pj := 31) (Lf := fun v : Hp => [(0, .ref v0)]) (Sf := fun v : Hp => []) (Hf := fun v : Hp => v) (jf := fun v : Hp => fX9_upstairs_j31 v0 v) (fun v => ?_) (fun hj31 => ?_)
  · generalize v = h
    show xJ iX9_upstairs κ _ 31 [(0, .ref v0)] [] h (fX9_upstairs_j31 v0 h)
    unfold fX9_upstairs_j31
    refine j_aload_n 0 dX9_upstairs_31 rfl rfl ?_
    refine j_bipush (x := (-2)) dX9_upstairs_32 (by decide) ?_
    refine j_callV (as := [.int (-2)]) (fun x => some (.int x.1)) (fun x => x.2) 9 18 dX9_upstairs_34 ml_RX9_64 tg_X9_bad im_X9_bad se_X9_bad rfl (by decide) (fun x hx => kX9_bad κ.1 κ.2.1 v0 (-2) h x hx) (by decide) (by decide) rfl rfl (Nat.le_of_ble_eq_true rfl) (fun q1 => ?_)
    show xJ iX9_upstairs κ _ 37 [(0, .ref v0)] [.int q1.1] q1.2 _
    exact j_iret (q1.1, q1.2) dX9_upstairs_37 rfl (fun q => q)
  refine j_iload_n 1 dX9_upstairs_0 rfl rfl ?_
  refine j_callS (as := [.int v1]) (fun x => some (.int x)) (fun _ => h) dX9_upstairs_1 ml_RX9_68 tg_X9_isStop st_X9_isStop (fun x hx => kX9_isStop κ.1 κ.2.1 v1 h x hx) (by decide) (by decide) rfl rfl (Nat.le_of_ble_eq_true rfl) (fun x2 => ?_)
  show xJ iX9_upstairs κ _ 4 [(0, .ref v0), (1, .int v1), (2, .int v2), (3, .int v3)] [.int x2] h _
  refine j_if_eq (tgt := 31) dX9_upstairs_4 (by decide) (fun c3 => ?_) (fun c3 => ?_)
  · refine j_pick [0] rfl ?_
    exact hj31 h
  · refine j_iload_n 2 dX9_upstairs_7 rfl rfl ?_
    refine j_i2l dX9_upstairs_8 ?_
    refine j_lconst (x := 0) dX9_upstairs_9 (by decide) ?_
    refine j_ldc2 dX9_upstairs_10 cL_RX9_147 ?_
    refine j_callS (as := [.long ((v2 : Int32).toInt64), .long 0, .long 200]) (fun x => some (.int x)) (fun _ => h) dX9_upstairs_13 ml_RX9_56 tg_X9_in st_X9_in (fun x hx => kX9_in κ.1 κ.2.1 ((v2 : Int32).toInt64) 0 200 h x hx) (by decide) (by decide) rfl rfl (Nat.le_of_ble_eq_true rfl) (fun x4 => ?_)
    show xJ iX9_upstairs κ _ 16 [(0, .ref v0), (1, .int v1), (2, .int v2), (3, .int v3)] [.int x4] h _
    refine j_if_eq (tgt := 31) dX9_upstairs_16 (by decide) (fun c5 => ?_) (fun c5 => ?_)
    · refine j_pick [0] rfl ?_
      exact hj31 h
    · refine j_iload_n 3 dX9_upstairs_19 rfl rfl ?_
      refine j_i2l dX9_upstairs_20 ?_
      refine j_lconst (x := 0) dX9_upstairs_21 (by decide) ?_
      refine j_ldc2 dX9_upstairs_22 cL_RX9_131 ?_
      refine j_callS (as := [.long ((v3 : Int32).toInt64), .long 0, .long 2]) (fun x => some (.int x)) (fun _ => h) dX9_upstairs_25 ml_RX9_56 tg_X9_in st_X9_in (fun x hx => kX9_in κ.1 κ.2.1 ((v3 : Int32).toInt64) 0 2 h x hx) (by decide) (by decide) rfl rfl (Nat.le_of_ble_eq_true rfl) (fun x6 => ?_)
      show xJ iX9_upstairs κ _ 28 [(0, .ref v0), (1, .int v1), (2, .int v2), (3, .int v3)] [.int x6] h _
      refine j_if_ne (tgt := 38) dX9_upstairs_28 (by decide) (fun c7 => ?_) (fun c7 => ?_)
      · refine j_pick [0] rfl ?_
        exact hj31 h
      · refine j_iconst (x := 0) dX9_upstairs_38 (by decide) ?_
        refine j_istore (L' := [(4, .int 0), (0, .ref v0), (1, .int v1), (2, .int v2), (3, .int v3)]) dX9_upstairs_39 (Nat.le_of_ble_eq_true rfl) rfl ?_
        refine j_iconst (x := 1) dX9_upstairs_41 (by decide) ?_
        refine j_aload_n 1 dX9_upstairs_42 rfl rfl ?_
        refine j_callV (as := []) (fun x => some (.int x)) (fun _ => h) 9 18 dX9_upstairs_43 ml_RX9_52 tg_X9_many im_X9_many se_X9_many rfl (by decide) (fun x hx => kX9_many κ.1 κ.2.1 v0 h x hx) (by decide) (by decide) rfl rfl (Nat.le_of_ble_eq_true rfl) (fun x8 => ?_)
        show xJ iX9_upstairs κ _ 46 [(4, .int 0), (0, .ref v0), (1, .int v1), (2, .int v2), (3, .int v3)] [.int x8, .int 1] h _
        refine j_ishl dX9_upstairs_46 ?_
        refine j_iconst (x := 1) dX9_upstairs_47 (by decide) ?_
        refine j_isub dX9_upstairs_48 ?_
        refine j_istore (L' := [(5, .int ((1 <<< (x8 &&& 31)) - 1)), (4, .int 0), (0, .ref v0), (1, .int v1), (2, .int v2), (3, .int v3)]) dX9_upstairs_49 (Nat.le_of_ble_eq_true rfl) rfl ?_
        refine j_iconst (x := 0) dX9_upstairs_51 (by decide) ?_
        refine j_istore (L' := [(6, .int 0), (5, .int ((1 <<< (x8 &&& 31)) - 1)), (4, .int 0), (0, .ref v0), (1, .int v1), (2, .int v2), (3, .int v3)]) dX9_upstairs_52 (Nat.le_of_ble_eq_true rfl) rfl ?_
        refine j_aload_n 3 dX9_upstairs_54 rfl rfl ?_
        refine j_callV (as := []) (fun _ => none) (fun x => x) 9 18 dX9_upstairs_55 ml_RX9_90 tg_X9_layHand im_X9_layHand se_X9_layHand rfl (by decide) (fun x hx => kX9_layHand κ.1 κ.2.1 v0 h x hx) (by decide) (by decide) rfl rfl (Nat.le_of_ble_eq_true rfl) (fun h9 => ?_)
        show xJ iX9_upstairs κ _ 58 [(6, .int 0), (5, .int ((1 <<< (x8 &&& 31)) - 1)), (4, .int 0), (0, .ref v0), (1, .int v1), (2, .int v2), (3, .int v3)] [] h9 _
        refine j_iconst (x := 0) dX9_upstairs_58 (by decide) ?_
        refine j_istore (L' := [(7, .int 0), (6, .int 0), (5, .int ((1 <<< (x8 &&& 31)) - 1)), (4, .int 0), (0, .ref v0), (1, .int v1), (2, .int v2), (3, .int v3)]) dX9_upstairs_59 (Nat.le_of_ble_eq_true rfl) rfl ?_
        refine j_pick [4, 5, 6, 7, 3, 2, 1, 0] rfl ?_
        refine j_loop (pc := 61) (Lf := fun s61 : Int32 × Int32 × Int32 × Int32 => [(0, .ref v0), (1, .int v1), (2, .int v2), (3, .int v3), (4, .int s61.1), (5, .int s61.2.1), (6, .int s61.2.2.1), (7, .int s61.2.2.2)]) (Hf := fun s61 : Int32 × Int32 × Int32 × Int32 => h9) (fun s61 => ?_) 1000000 (0, (1 <<< (x8 &&& 31)) - 1, 0, 0)
        show xJ iX9_upstairs κ _ 61 [(0, .ref v0), (1, .int v1), (2, .int v2), (3, .int v3), (4, .int s61.1), (5, .int s61.2.1), (6, .int s61.2.2.1), (7, .int s61.2.2.2)] [] h9 (fX9_upstairs_b61 v0 v1 v2 v3 h9 s61)
        unfold fX9_upstairs_b61
        refine j_have (pj := 205) (Lf := fun v : Int32 × Int32 × Int32 × Int32 × Int32 => [(0, .ref v0), (1, .int v1), (2, .int v2), (3, .int v3), (5, .int v.1), (6, .int v.2.1), (7, .int v.2.2.1)]) (Sf := fun v : Int32 × Int32 × Int32 × Int32 × Int32 => [.int v.2.2.2.1, .int v.2.2.2.2]) (Hf := fun v : Int32 × Int32 × Int32 × Int32 × Int32 => h9) (jf := fun v : Int32 × Int32 × Int32 × Int32 × Int32 => fX9_upstairs_j205 v0 v1 v2 v3 v.1 v.2.1 v.2.2.1 v.2.2.2.1 v.2.2.2.2 h9) (fun v => ?_) (fun hj205 => ?_)
        · obtain ⟨v5, v6, v7, t0, t1⟩ := v
          show xJ iX9_upstairs κ _ 205 [(0, .ref v0), (1, .int v1), (2, .int v2), (3, .int v3), (5, .int v5), (6, .int v6), (7, .int v7)] [.int t0, .int t1] h9 (fX9_upstairs_j205 v0 v1 v2 v3 v5 v6 v7 t0 t1 h9)
          unfold fX9_upstairs_j205
          refine j_iadd dX9_upstairs_205 ?_
          refine j_istore (L' := [(4, .int (t1 + t0)), (0, .ref v0), (1, .int v1), (2, .int v2), (3, .int v3), (5, .int v5), (6, .int v6), (7, .int v7)]) dX9_upstairs_206 (Nat.le_of_ble_eq_true rfl) rfl ?_
          refine j_iinc (y := v7 + 1) (L' := [(7, .int (v7 + 1)), (4, .int (t1 + t0)), (0, .ref v0), (1, .int v1), (2, .int v2), (3, .int v3), (5, .int v5), (6, .int v6)]) 7 dX9_upstairs_208 rfl rfl (Nat.le_of_ble_eq_true rfl) rfl ?_
          refine j_goto (tgt := 61) dX9_upstairs_211 (by decide) ?_
          refine j_pick [2, 3, 4, 5, 1, 6, 7, 0] rfl ?_
          exact j_again (t1 + t0, v5, v6, v7 + 1) rfl rfl
        refine j_have (pj := 190) (Lf := fun v : Int32 × Int32 × Int32 × Int32 × Int32 × Int32 => [(0, .ref v0), (1, .int v1), (2, .int v2), (3, .int v3), (4, .int v.1), (5, .int v.2.1), (7, .int v.2.2.1), (8, .int v.2.2.2.1)]) (Sf := fun v : Int32 × Int32 × Int32 × Int32 × Int32 × Int32 => [.int v.2.2.2.2.1, .int v.2.2.2.2.2]) (Hf := fun v : Int32 × Int32 × Int32 × Int32 × Int32 × Int32 => h9) (jf := fun v : Int32 × Int32 × Int32 × Int32 × Int32 × Int32 => fX9_upstairs_j190 v0 v1 v2 v3 v.1 v.2.1 v.2.2.1 v.2.2.2.1 v.2.2.2.2.1 v.2.2.2.2.2 h9) (fun v => ?_) (fun hj190 => ?_)
        · obtain ⟨v4, v5, v7, v8, t0, t1⟩ := v
          show xJ iX9_upstairs κ _ 190 [(0, .ref v0), (1, .int v1), (2, .int v2), (3, .int v3), (4, .int v4), (5, .int v5), (7, .int v7), (8, .int v8)] [.int t0, .int t1] h9 (fX9_upstairs_j190 v0 v1 v2 v3 v4 v5 v7 v8 t0 t1 h9)
          unfold fX9_upstairs_j190
          refine j_ior dX9_upstairs_190 ?_
          refine j_istore (L' := [(6, .int (t1 ||| t0)), (0, .ref v0), (1, .int v1), (2, .int v2), (3, .int v3), (4, .int v4), (5, .int v5), (7, .int v7), (8, .int v8)]) dX9_upstairs_191 (Nat.le_of_ble_eq_true rfl) rfl ?_
          refine j_iload 5 dX9_upstairs_193 rfl ?_
          refine j_iload 8 dX9_upstairs_195 rfl ?_
          refine j_if_eq (tgt := 204) dX9_upstairs_197 (by decide) (fun c10 => ?_) (fun c10 => ?_)
          · refine j_iconst (x := 0) dX9_upstairs_204 (by decide) ?_
            refine j_pick [1, 2, 3, 4, 6, 0, 7] rfl ?_
            exact hj205 (v5, t1 ||| t0, v7, 0, v4)
          · refine j_iconst (x := 1) dX9_upstairs_200 (by decide) ?_
            refine j_goto (tgt := 205) dX9_upstairs_201 (by decide) ?_
            refine j_pick [1, 2, 3, 4, 6, 0, 7] rfl ?_
            exact hj205 (v5, t1 ||| t0, v7, 1, v4)
        refine j_have (pj := 174) (Lf := fun v : Int32 × Int32 × Int32 × Int32 × Int32 × Int32 => [(0, .ref v0), (1, .int v1), (2, .int v2), (3, .int v3), (4, .int v.1), (6, .int v.2.1), (7, .int v.2.2.1), (8, .int v.2.2.2.1)]) (Sf := fun v : Int32 × Int32 × Int32 × Int32 × Int32 × Int32 => [.int v.2.2.2.2.1, .int v.2.2.2.2.2]) (Hf := fun v : Int32 × Int32 × Int32 × Int32 × Int32 × Int32 => h9) (jf := fun v : Int32 × Int32 × Int32 × Int32 × Int32 × Int32 => fX9_upstairs_j174 v0 v1 v2 v3 v.1 v.2.1 v.2.2.1 v.2.2.2.1 v.2.2.2.2.1 v.2.2.2.2.2 h9) (fun v => ?_) (fun hj174 => ?_)
        · obtain ⟨v4, v6, v7, v8, t0, t1⟩ := v
          show xJ iX9_upstairs κ _ 174 [(0, .ref v0), (1, .int v1), (2, .int v2), (3, .int v3), (4, .int v4), (6, .int v6), (7, .int v7), (8, .int v8)] [.int t0, .int t1] h9 (fX9_upstairs_j174 v0 v1 v2 v3 v4 v6 v7 v8 t0 t1 h9)
          unfold fX9_upstairs_j174
          refine j_iand dX9_upstairs_174 ?_
          refine j_istore (L' := [(5, .int (t1 &&& t0)), (0, .ref v0), (1, .int v1), (2, .int v2), (3, .int v3), (4, .int v4), (6, .int v6), (7, .int v7), (8, .int v8)]) dX9_upstairs_175 (Nat.le_of_ble_eq_true rfl) rfl ?_
          refine j_iload 6 dX9_upstairs_177 rfl ?_
          refine j_iload 8 dX9_upstairs_179 rfl ?_
          refine j_if_eq (tgt := 189) dX9_upstairs_181 (by decide) (fun c11 => ?_) (fun c11 => ?_)
          · refine j_iconst (x := 0) dX9_upstairs_189 (by decide) ?_
            refine j_pick [1, 2, 3, 4, 5, 0, 7, 8] rfl ?_
            exact hj190 (v4, t1 &&& t0, v7, v8, 0, v6)
          · refine j_iload 7 dX9_upstairs_184 rfl ?_
            refine j_goto (tgt := 190) dX9_upstairs_186 (by decide) ?_
            refine j_pick [1, 2, 3, 4, 5, 0, 7, 8] rfl ?_
            exact hj190 (v4, t1 &&& t0, v7, v8, v7, v6)
        refine j_have (pj := 103) (Lf := fun v : Int32 × Int32 × Int32 × Int32 × Int32 => [(0, .ref v0), (1, .int v1), (2, .int v2), (3, .int v3), (4, .int v.1), (5, .int v.2.1), (6, .int v.2.2.1), (7, .int v.2.2.2.1)]) (Sf := fun v : Int32 × Int32 × Int32 × Int32 × Int32 => [.int v.2.2.2.2]) (Hf := fun v : Int32 × Int32 × Int32 × Int32 × Int32 => h9) (jf := fun v : Int32 × Int32 × Int32 × Int32 × Int32 => fX9_upstairs_j103 v0 v1 v2 v3 v.1 v.2.1 v.2.2.1 v.2.2.2.1 v.2.2.2.2 h9) (fun v => ?_) (fun hj103 => ?_)
        · obtain ⟨v4, v5, v6, v7, t0⟩ := v
          show xJ iX9_upstairs κ _ 103 [(0, .ref v0), (1, .int v1), (2, .int v2), (3, .int v3), (4, .int v4), (5, .int v5), (6, .int v6), (7, .int v7)] [.int t0] h9 (fX9_upstairs_j103 v0 v1 v2 v3 v4 v5 v6 v7 t0 h9)
          unfold fX9_upstairs_j103
          refine j_istore (L' := [(8, .int t0), (0, .ref v0), (1, .int v1), (2, .int v2), (3, .int v3), (4, .int v4), (5, .int v5), (6, .int v6), (7, .int v7)]) dX9_upstairs_103 (Nat.le_of_ble_eq_true rfl) rfl ?_
          refine j_iconst (x := 0) dX9_upstairs_105 (by decide) ?_
          refine j_istore (L' := [(9, .int 0), (8, .int t0), (0, .ref v0), (1, .int v1), (2, .int v2), (3, .int v3), (4, .int v4), (5, .int v5), (6, .int v6), (7, .int v7)]) dX9_upstairs_106 (Nat.le_of_ble_eq_true rfl) rfl ?_
          refine j_pick [2, 3, 4, 5, 6, 7, 8, 9, 1, 0] rfl ?_
          refine j_loop (pc := 108) (Lf := fun s108 : Int32 × Int32 => [(0, .ref v0), (1, .int v1), (2, .int v2), (3, .int v3), (4, .int v4), (5, .int v5), (6, .int v6), (7, .int v7), (8, .int s108.1), (9, .int s108.2)]) (Hf := fun s108 : Int32 × Int32 => h9) (fun s108 => ?_) 1000000 (t0, 0)
          show xJ iX9_upstairs κ _ 108 [(0, .ref v0), (1, .int v1), (2, .int v2), (3, .int v3), (4, .int v4), (5, .int v5), (6, .int v6), (7, .int v7), (8, .int s108.1), (9, .int s108.2)] [] h9 (fX9_upstairs_b108 v0 v1 v2 v3 v4 v5 v6 v7 h9 s108)
          unfold fX9_upstairs_b108
          refine j_have (pj := 153) (Lf := fun v : Int32 × Int32 => [(0, .ref v0), (1, .int v1), (2, .int v2), (3, .int v3), (4, .int v4), (5, .int v5), (6, .int v6), (7, .int v7), (9, .int v.1)]) (Sf := fun v : Int32 × Int32 => [.int v.2]) (Hf := fun v : Int32 × Int32 => h9) (jf := fun v : Int32 × Int32 => fX9_upstairs_j153 v0 v1 v2 v3 v4 v5 v6 v7 v.1 v.2 h9) (fun v => ?_) (fun hj153 => ?_)
          · obtain ⟨v9, t0⟩ := v
            show xJ iX9_upstairs κ _ 153 [(0, .ref v0), (1, .int v1), (2, .int v2), (3, .int v3), (4, .int v4), (5, .int v5), (6, .int v6), (7, .int v7), (9, .int v9)] [.int t0] h9 (fX9_upstairs_j153 v0 v1 v2 v3 v4 v5 v6 v7 v9 t0 h9)
            unfold fX9_upstairs_j153
            refine j_istore (L' := [(8, .int t0), (0, .ref v0), (1, .int v1), (2, .int v2), (3, .int v3), (4, .int v4), (5, .int v5), (6, .int v6), (7, .int v7), (9, .int v9)]) dX9_upstairs_153 (Nat.le_of_ble_eq_true rfl) rfl ?_
            refine j_iinc (y := v9 + 1) (L' := [(9, .int (v9 + 1)), (8, .int t0), (0, .ref v0), (1, .int v1), (2, .int v2), (3, .int v3), (4, .int v4), (5, .int v5), (6, .int v6), (7, .int v7)]) 9 dX9_upstairs_155 rfl rfl (Nat.le_of_ble_eq_true rfl) rfl ?_
            refine j_goto (tgt := 108) dX9_upstairs_158 (by decide) ?_
            refine j_pick [2, 3, 4, 5, 6, 7, 8, 9, 1, 0] rfl ?_
            exact j_again (t0, v9 + 1) rfl rfl
          refine j_have (pj := 152) (Lf := fun v : Int32 => [(0, .ref v0), (1, .int v1), (2, .int v2), (3, .int v3), (4, .int v4), (5, .int v5), (6, .int v6), (7, .int v7), (9, .int v)]) (Sf := fun v : Int32 => []) (Hf := fun v : Int32 => h9) (jf := fun v : Int32 => fX9_upstairs_j152 v0 v1 v2 v3 v4 v5 v6 v7 v h9) (fun v => ?_) (fun hj152 => ?_)
          · generalize v = v9
            show xJ iX9_upstairs κ _ 152 [(0, .ref v0), (1, .int v1), (2, .int v2), (3, .int v3), (4, .int v4), (5, .int v5), (6, .int v6), (7, .int v7), (9, .int v9)] [] h9 (fX9_upstairs_j152 v0 v1 v2 v3 v4 v5 v6 v7 v9 h9)
            unfold fX9_upstairs_j152
            refine j_iconst (x := 0) dX9_upstairs_152 (by decide) ?_
            refine j_pick [0, 1, 2, 3, 4, 5, 6, 7, 8] rfl ?_
            exact hj153 (v9, 0)
          refine j_have (pj := 148) (Lf := fun v : Int32 => [(0, .ref v0), (1, .int v1), (2, .int v2), (3, .int v3), (4, .int v4), (5, .int v5), (6, .int v6), (7, .int v7), (9, .int v)]) (Sf := fun v : Int32 => []) (Hf := fun v : Int32 => h9) (jf := fun v : Int32 => fX9_upstairs_j148 v0 v1 v2 v3 v4 v5 v6 v7 v h9) (fun v => ?_) (fun hj148 => ?_)
          · generalize v = v9
            show xJ iX9_upstairs κ _ 148 [(0, .ref v0), (1, .int v1), (2, .int v2), (3, .int v3), (4, .int v4), (5, .int v5), (6, .int v6), (7, .int v7), (9, .int v9)] [] h9 (fX9_upstairs_j148 v0 v1 v2 v3 v4 v5 v6 v7 v9 h9)
            unfold fX9_upstairs_j148
            refine j_iconst (x := 1) dX9_upstairs_148 (by decide) ?_
            refine j_goto (tgt := 153) dX9_upstairs_149 (by decide) ?_
            refine j_pick [0, 1, 2, 3, 4, 5, 6, 7, 8] rfl ?_
            exact hj153 (v9, 1)
          refine j_iload 9 dX9_upstairs_108 rfl ?_
          refine j_aload_n 0 dX9_upstairs_110 rfl rfl ?_
          refine j_callV (as := []) (fun x => some (.int x)) (fun _ => h9) 9 18 dX9_upstairs_111 ml_RX9_52 tg_X9_many im_X9_many se_X9_many rfl (by decide) (fun x hx => kX9_many κ.1 κ.2.1 v0 h9 x hx) (by decide) (by decide) rfl rfl (Nat.le_of_ble_eq_true rfl) (fun x12 => ?_)
          show xJ iX9_upstairs κ _ 114 [(0, .ref v0), (1, .int v1), (2, .int v2), (3, .int v3), (4, .int v4), (5, .int v5), (6, .int v6), (7, .int v7), (8, .int s108.1), (9, .int s108.2)] [.int x12, .int s108.2] h9 _
          refine j_icmp_ge (tgt := 161) dX9_upstairs_114 (by decide) (fun c13 => ?_) (fun c13 => ?_)
          · refine j_exit (v0, v1, v2, v3, v4, v5, v6, v7, s108.1) ?_
            show xJ iX9_upstairs κ _ _ _ _ _ (if (s108.1 : Int32) = 0 then (fX9_upstairs_j174 v0 v1 v2 v3 v4 v6 v7 s108.1 (-1) v5 h9) else (fX9_upstairs_j174 v0 v1 v2 v3 v4 v6 v7 s108.1 v7 v5 h9))
            refine j_iload 5 dX9_upstairs_161 rfl ?_
            refine j_iload 8 dX9_upstairs_163 rfl ?_
            refine j_if_eq (tgt := 173) dX9_upstairs_165 (by decide) (fun c14 => ?_) (fun c14 => ?_)
            · refine j_iconst (x := (-1)) dX9_upstairs_173 (by decide) ?_
              refine j_pick [0, 1, 2, 3, 4, 6, 7, 8] rfl ?_
              exact hj174 (v4, v6, v7, s108.1, (-1), v5)
            · refine j_iload 7 dX9_upstairs_168 rfl ?_
              refine j_goto (tgt := 174) dX9_upstairs_170 (by decide) ?_
              refine j_pick [0, 1, 2, 3, 4, 6, 7, 8] rfl ?_
              exact hj174 (v4, v6, v7, s108.1, v7, v5)
          · refine j_iload 8 dX9_upstairs_117 rfl ?_
            refine j_if_eq (tgt := 152) dX9_upstairs_119 (by decide) (fun c15 => ?_) (fun c15 => ?_)
            · refine j_pick [0, 1, 2, 3, 4, 5, 6, 7, 9] rfl ?_
              exact hj152 s108.2
            · refine j_iload 7 dX9_upstairs_122 rfl ?_
              refine j_iload 9 dX9_upstairs_124 rfl ?_
              refine j_callS (as := [.int v7, .int s108.2]) (fun x => some (.int x)) (fun _ => h9) dX9_upstairs_126 ml_RX9_97 tg_X9_has st_X9_has (fun x hx => kX9_has κ.1 κ.2.1 v7 s108.2 h9 x hx) (by decide) (by decide) rfl rfl (Nat.le_of_ble_eq_true rfl) (fun x16 => ?_)
              show xJ iX9_upstairs κ _ 129 [(0, .ref v0), (1, .int v1), (2, .int v2), (3, .int v3), (4, .int v4), (5, .int v5), (6, .int v6), (7, .int v7), (8, .int s108.1), (9, .int s108.2)] [.int x16] h9 _
              refine j_if_eq (tgt := 148) dX9_upstairs_129 (by decide) (fun c17 => ?_) (fun c17 => ?_)
              · refine j_pick [0, 1, 2, 3, 4, 5, 6, 7, 9] rfl ?_
                exact hj148 s108.2
              · refine j_iload 7 dX9_upstairs_132 rfl ?_
                refine j_aload_n 0 dX9_upstairs_134 rfl rfl ?_
                refine j_getR 9 18 0 dX9_upstairs_135 fl_RX9_7 (by decide) rfl (by decide) (fun _ _ _ => rfl) (fun x18 => ?_)
                refine j_bipush (x := 47) dX9_upstairs_138 (by decide) ?_
                refine j_iload 9 dX9_upstairs_140 rfl ?_
                refine j_iadd dX9_upstairs_142 ?_
                refine j_iald dX9_upstairs_143 (fun x19 => ?_)
                refine j_iand dX9_upstairs_144 ?_
                refine j_if_ne (tgt := 152) dX9_upstairs_145 (by decide) (fun c20 => ?_) (fun c20 => ?_)
                · refine j_pick [0, 1, 2, 3, 4, 5, 6, 7, 9] rfl ?_
                  exact hj148 s108.2
                · refine j_pick [0, 1, 2, 3, 4, 5, 6, 7, 9] rfl ?_
                  exact hj152 s108.2
        refine j_have (pj := 102) (Lf := fun v : Int32 × Int32 × Int32 × Int32 => [(0, .ref v0), (1, .int v1), (2, .int v2), (3, .int v3), (4, .int v.1), (5, .int v.2.1), (6, .int v.2.2.1), (7, .int v.2.2.2)]) (Sf := fun v : Int32 × Int32 × Int32 × Int32 => []) (Hf := fun v : Int32 × Int32 × Int32 × Int32 => h9) (jf := fun v : Int32 × Int32 × Int32 × Int32 => fX9_upstairs_j102 v0 v1 v2 v3 v.1 v.2.1 v.2.2.1 v.2.2.2 h9) (fun v => ?_) (fun hj102 => ?_)
        · obtain ⟨v4, v5, v6, v7⟩ := v
          show xJ iX9_upstairs κ _ 102 [(0, .ref v0), (1, .int v1), (2, .int v2), (3, .int v3), (4, .int v4), (5, .int v5), (6, .int v6), (7, .int v7)] [] h9 (fX9_upstairs_j102 v0 v1 v2 v3 v4 v5 v6 v7 h9)
          unfold fX9_upstairs_j102
          refine j_iconst (x := 0) dX9_upstairs_102 (by decide) ?_
          refine j_pick [0, 1, 2, 3, 4, 5, 6, 7] rfl ?_
          exact hj103 (v4, v5, v6, v7, 0)
        refine j_iload 7 dX9_upstairs_61 rfl ?_
        refine j_iconst (x := 1) dX9_upstairs_63 (by decide) ?_
        refine j_aload_n 0 dX9_upstairs_64 rfl rfl ?_
        refine j_callV (as := []) (fun x => some (.int x)) (fun _ => h9) 9 18 dX9_upstairs_65 ml_RX9_52 tg_X9_many im_X9_many se_X9_many rfl (by decide) (fun x hx => kX9_many κ.1 κ.2.1 v0 h9 x hx) (by decide) (by decide) rfl rfl (Nat.le_of_ble_eq_true rfl) (fun x21 => ?_)
        show xJ iX9_upstairs κ _ 68 [(0, .ref v0), (1, .int v1), (2, .int v2), (3, .int v3), (4, .int s61.1), (5, .int s61.2.1), (6, .int s61.2.2.1), (7, .int s61.2.2.2)] [.int x21, .int 1, .int s61.2.2.2] h9 _
        refine j_ishl dX9_upstairs_68 ?_
        refine j_icmp_ge (tgt := 214) dX9_upstairs_69 (by decide) (fun c22 => ?_) (fun c22 => ?_)
        · refine j_exit (v3, s61.1, s61.2.1, s61.2.2.1) ?_
          show xJ iX9_upstairs κ _ _ _ _ _ (if (v3 : Int32) = 0 then (fX9_upstairs_j244 s61.1 h9) else (if (v3 : Int32) = 2 then (fX9_upstairs_j244 s61.2.2.1 h9) else (if (s61.1 : Int32) = 0 then (fX9_upstairs_j244 (-1) h9) else (fX9_upstairs_j244 s61.2.1 h9))))
          refine j_iload_n 3 dX9_upstairs_214 rfl rfl ?_
          refine j_if_ne (tgt := 223) dX9_upstairs_215 (by decide) (fun c23 => ?_) (fun c23 => ?_)
          · refine j_iload 4 dX9_upstairs_218 rfl ?_
            refine j_goto (tgt := 244) dX9_upstairs_220 (by decide) ?_
            refine j_pick [] rfl ?_
            exact hj244 (s61.1, h9)
          · refine j_iload_n 3 dX9_upstairs_223 rfl rfl ?_
            refine j_iconst (x := 2) dX9_upstairs_224 (by decide) ?_
            refine j_icmp_ne (tgt := 233) dX9_upstairs_225 (by decide) (fun c24 => ?_) (fun c24 => ?_)
            · refine j_iload 6 dX9_upstairs_228 rfl ?_
              refine j_goto (tgt := 244) dX9_upstairs_230 (by decide) ?_
              refine j_pick [] rfl ?_
              exact hj244 (s61.2.2.1, h9)
            · refine j_iload 4 dX9_upstairs_233 rfl ?_
              refine j_if_ne (tgt := 242) dX9_upstairs_235 (by decide) (fun c25 => ?_) (fun c25 => ?_)
              · refine j_iconst (x := (-1)) dX9_upstairs_238 (by decide) ?_
                refine j_goto (tgt := 244) dX9_upstairs_239 (by decide) ?_
                refine j_pick [] rfl ?_
                exact hj244 ((-1), h9)
              · refine j_iload 5 dX9_upstairs_242 rfl ?_
                refine j_pick [] rfl ?_
                exact hj244 (s61.2.1, h9)
        · refine j_iload 7 dX9_upstairs_72 rfl ?_
          refine j_callS (as := [.int s61.2.2.2]) (fun x => some (.int x)) (fun _ => h9) dX9_upstairs_74 ml_RX9_105 tg_X9_bits st_X9_bits (fun x hx => kX9_bits κ.1 κ.2.1 s61.2.2.2 h9 x hx) (by decide) (by decide) rfl rfl (Nat.le_of_ble_eq_true rfl) (fun x26 => ?_)
          show xJ iX9_upstairs κ _ 77 [(0, .ref v0), (1, .int v1), (2, .int v2), (3, .int v3), (4, .int s61.1), (5, .int s61.2.1), (6, .int s61.2.2.1), (7, .int s61.2.2.2)] [.int x26] h9 _
          refine j_aload_n 0 dX9_upstairs_77 rfl rfl ?_
          refine j_getR 9 18 0 dX9_upstairs_78 fl_RX9_7 (by decide) rfl (by decide) (fun _ _ _ => rfl) (fun x27 => ?_)
          refine j_bipush (x := 8) dX9_upstairs_81 (by decide) ?_
          refine j_iald dX9_upstairs_83 (fun x28 => ?_)
          refine j_icmp_gt (tgt := 102) dX9_upstairs_84 (by decide) (fun c29 => ?_) (fun c29 => ?_)
          · refine j_pick [0, 1, 2, 3, 4, 5, 6, 7] rfl ?_
            exact hj102 (s61.1, s61.2.1, s61.2.2.1, s61.2.2.2)
          · refine j_aload_n 0 dX9_upstairs_87 rfl rfl ?_
            refine j_iload 7 dX9_upstairs_88 rfl ?_
            refine j_iload_n 1 dX9_upstairs_90 rfl rfl ?_
            refine j_callV (as := [.int s61.2.2.2, .int v1]) (fun x => some (.int x)) (fun _ => h9) 9 18 dX9_upstairs_91 ml_RX9_111 tg_X9_swayOfAll im_X9_swayOfAll se_X9_swayOfAll rfl (by decide) (fun x hx => kX9_swayOfAll κ.1 κ.2.1 v0 s61.2.2.2 v1 h9 x hx) (by decide) (by decide) rfl rfl (Nat.le_of_ble_eq_true rfl) (fun x30 => ?_)
            show xJ iX9_upstairs κ _ 94 [(0, .ref v0), (1, .int v1), (2, .int v2), (3, .int v3), (4, .int s61.1), (5, .int s61.2.1), (6, .int s61.2.2.1), (7, .int s61.2.2.2)] [.int x30] h9 _
            refine j_iload_n 2 dX9_upstairs_94 rfl rfl ?_
            refine j_icmp_ne (tgt := 102) dX9_upstairs_95 (by decide) (fun c31 => ?_) (fun c31 => ?_)
            · refine j_iconst (x := 1) dX9_upstairs_98 (by decide) ?_
              refine j_goto (tgt := 103) dX9_upstairs_99 (by decide) ?_
              refine j_pick [0, 1, 2, 3, 4, 5, 6, 7] rfl ?_
              exact hj103 (s61.1, s61.2.1, s61.2.2.1, s61.2.2.2, 1)
            · refine j_pick [0, 1, 2, 3, 4, 5, 6, 7] rfl ?_
              exact hj102 (s61.1, s61.2.1, s61.2.2.1, s61.2.2.2)
def fX0_addNote (v0 : Nat) (v1 : Int32) (v2 : Int32) (v3 : Int32) (v4 : Int32) (h : Hp) : Option (Hp) :=
  (xgI h v0 (0, 16) 8).bind fun x1 => if (x1 : Int32) < 6 then ((xgR h v0 (0, 16) 9).bind fun x3 => (xgI h v0 (0, 16) 8).bind fun x4 => (xsI h x3 x4 v1).bind fun h5 => (xgR h5 v0 (0, 16) 10).bind fun x6 => (xgI h5 v0 (0, 16) 8).bind fun x7 => (xsI h5 x6 x7 v2).bind fun h8 => (xgR h8 v0 (0, 16) 11).bind fun x9 => (xgI h8 v0 (0, 16) 8).bind fun x10 => (xsI h8 x9 x10 v3).bind fun h11 => (xgR h11 v0 (0, 16) 12).bind fun x12 => (xgI h11 v0 (0, 16) 8).bind fun x13 => (xsI h11 x12 x13 v4).bind fun h14 => (xgI h14 v0 (0, 16) 8).bind fun x15 => (xpI h14 v0 (0, 16) 8 (x15 + 1)).bind fun h16 => some h16) else (some h)
abbrev iX0_addNote : xI := (cX0_addNote, yX0_addNote.cls, yX0_addNote.name, none, 5, 2)
set_option maxHeartbeats 4000000 in
set_option maxRecDepth 100000 in
theorem kX0_addNote (l : Launch) (η : xEnv) (v0 : Nat) (v1 : Int32) (v2 : Int32) (v3 : Int32) (v4 : Int32) (h : Hp) (x : Hp) (hx : fX0_addNote v0 v1 v2 v3 v4 h = some x) : xC l η yX0_addNote cX0_addNote 5 none 2 [.ref v0, .int v1, .int v2, .int v3, .int v4] h none x := by
  refine xC_of (by decide) (Nat.le_of_ble_eq_true rfl) hx (fun κ x => κ.2.2.2.1 = none ∧ κ.2.2.2.2 = x) ⟨rfl, rfl⟩ (fun κ => ?_)
  show xJ iX0_addNote κ _ 0 [(0, .ref v0), (1, .int v1), (2, .int v2), (3, .int v3), (4, .int v4)] [] h (fX0_addNote v0 v1 v2 v3 v4 h)
  unfold fX0_addNote
  refine j_aload_n 0 dX0_addNote_0 rfl rfl ?_
  refine j_getI 0 16 8 dX0_addNote_1 fl_RX0_60 (by decide) rfl (by decide) rfl (fun x1 => ?_)
  refine j_bipush (x := 6) dX0_addNote_4 (by decide) ?_
  refine j_icmp_lt (tgt := 10) dX0_addNote_6 (by decide) (fun c2 => ?_) (fun c2 => ?_)
  · refine j_aload_n 0 dX0_addNote_10 rfl rfl ?_
    refine j_getR 0 16 9 dX0_addNote_11 fl_RX0_34 (by decide) rfl (by decide) (fun _ _ _ => rfl) (fun x3 => ?_)
    refine j_aload_n 0 dX0_addNote_14 rfl rfl ?_
    refine j_getI 0 16 8 dX0_addNote_15 fl_RX0_60 (by decide) rfl (by decide) rfl (fun x4 => ?_)
    refine j_iload_n 1 dX0_addNote_18 rfl rfl ?_
    refine j_iast dX0_addNote_19 (fun h5 => ?_)
    refine j_aload_n 0 dX0_addNote_20 rfl rfl ?_
    refine j_getR 0 16 10 dX0_addNote_21 fl_RX0_37 (by decide) rfl (by decide) (fun _ _ _ => rfl) (fun x6 => ?_)
    refine j_aload_n 0 dX0_addNote_24 rfl rfl ?_
    refine j_getI 0 16 8 dX0_addNote_25 fl_RX0_60 (by decide) rfl (by decide) rfl (fun x7 => ?_)
    refine j_iload_n 2 dX0_addNote_28 rfl rfl ?_
    refine j_iast dX0_addNote_29 (fun h8 => ?_)
    refine j_aload_n 0 dX0_addNote_30 rfl rfl ?_
    refine j_getR 0 16 11 dX0_addNote_31 fl_RX0_40 (by decide) rfl (by decide) (fun _ _ _ => rfl) (fun x9 => ?_)
    refine j_aload_n 0 dX0_addNote_34 rfl rfl ?_
    refine j_getI 0 16 8 dX0_addNote_35 fl_RX0_60 (by decide) rfl (by decide) rfl (fun x10 => ?_)
    refine j_iload_n 3 dX0_addNote_38 rfl rfl ?_
    refine j_iast dX0_addNote_39 (fun h11 => ?_)
    refine j_aload_n 0 dX0_addNote_40 rfl rfl ?_
    refine j_getR 0 16 12 dX0_addNote_41 fl_RX0_43 (by decide) rfl (by decide) (fun _ _ _ => rfl) (fun x12 => ?_)
    refine j_aload_n 0 dX0_addNote_44 rfl rfl ?_
    refine j_getI 0 16 8 dX0_addNote_45 fl_RX0_60 (by decide) rfl (by decide) rfl (fun x13 => ?_)
    refine j_iload 4 dX0_addNote_48 rfl ?_
    refine j_iast dX0_addNote_50 (fun h14 => ?_)
    refine j_aload_n 0 dX0_addNote_51 rfl rfl ?_
    refine j_dup dX0_addNote_52 rfl ?_
    refine j_getI 0 16 8 dX0_addNote_53 fl_RX0_60 (by decide) rfl (by decide) rfl (fun x15 => ?_)
    refine j_iconst (x := 1) dX0_addNote_56 (by decide) ?_
    refine j_iadd dX0_addNote_57 ?_
    refine j_putI 0 16 8 dX0_addNote_58 fl_RX0_60 (by decide) rfl (by decide) rfl rfl (fun h16 => ?_)
    exact j_vret h16 dX0_addNote_61 rfl (fun q => q)
  · exact j_vret h dX0_addNote_9 rfl (fun q => q)
def fX8_note_j47 (v0 : Nat) (h : Hp) : Option (Int32 × Hp) :=
  (xat h v0 (8, 12) (fX8_refuseBad v0 h)).bind fun q1 => some (q1.1, q1.2)
def fX8_note_j21 (v0 : Nat) (h : Hp) : Option (Int32 × Hp) :=
  (xat h v0 (8, 12) (fX8_refuseBad v0 h)).bind fun q2 => some (q2.1, q2.2)
def fX8_note (v0 : Nat) (v1 : Int32) (v2 : Int32) (v3 : Int32) (v4 : Int32) (h : Hp) : Option (Int32 × Hp) :=
  (xgR h v0 (8, 12) 0).bind fun x3 => (xat h x3 (0, 16) (fX0_has x3 v1 h)).bind fun x4 => if (x4 : Int32) = 0 then (fX8_note_j21 v0 h) else ((fX8_within v2 0 9 h).bind fun x6 => if (x6 : Int32) = 0 then (fX8_note_j21 v0 h) else ((fX8_within v3 0 40 h).bind fun x8 => if (x8 : Int32) = 0 then (fX8_note_j47 v0 h) else ((fX8_within v4 0 9 h).bind fun x10 => if (x10 : Int32) = 0 then (fX8_note_j47 v0 h) else ((xgR h v0 (8, 12) 0).bind fun x12 => (xgI h x12 (0, 16) 8).bind fun x13 => if (x13 : Int32) < 6 then ((xgR h v0 (8, 12) 0).bind fun x15 => (xat h x15 (0, 16) (fX0_addNote x15 v1 v2 v3 v4 h)).bind fun h16 => (xgR h16 v0 (8, 12) 0).bind fun x17 => (xgI h16 x17 (0, 16) 8).bind fun x18 => some (x18, h16)) else ((xat h v0 (8, 12) (fX8_refuseFull v0 h)).bind fun q19 => some (q19.1, q19.2))))))
abbrev iX8_note : xI := (cX8_note, yX8_note.cls, yX8_note.name, some .int, 5, 3)
set_option maxHeartbeats 4000000 in
set_option maxRecDepth 100000 in
theorem kX8_note (l : Launch) (η : xEnv) (v0 : Nat) (v1 : Int32) (v2 : Int32) (v3 : Int32) (v4 : Int32) (h : Hp) (x : Int32 × Hp) (hx : fX8_note v0 v1 v2 v3 v4 h = some x) : xC l η yX8_note cX8_note 5 (some .int) 3 [.ref v0, .int v1, .int v2, .int v3, .int v4] h (some (.int x.1)) x.2 := by
  refine xC_of (by decide) (Nat.le_of_ble_eq_true rfl) hx (fun κ x => κ.2.2.2.1 = some (.int x.1) ∧ κ.2.2.2.2 = x.2) ⟨rfl, rfl⟩ (fun κ => ?_)
  show xJ iX8_note κ _ 0 [(0, .ref v0), (1, .int v1), (2, .int v2), (3, .int v3), (4, .int v4)] [] h (fX8_note v0 v1 v2 v3 v4 h)
  unfold fX8_note
  refine j_have (pj := 47) (Lf := fun v : Hp => [(0, .ref v0)]) (Sf := fun v : Hp => []) (Hf := fun v : Hp => v) (jf := fun v : Hp => fX8_note_j47 v0 v) (fun v => ?_) (fun hj47 => ?_)
  · generalize v = h
    show xJ iX8_note κ _ 47 [(0, .ref v0)] [] h (fX8_note_j47 v0 h)
    unfold fX8_note_j47
    refine j_aload_n 0 dX8_note_47 rfl rfl ?_
    refine j_callV (as := []) (fun x => some (.int x.1)) (fun x => x.2) 8 12 dX8_note_48 ml_RX8_70 tg_X8_refuseBad im_X8_refuseBad se_X8_refuseBad rfl (by decide) (fun x hx => kX8_refuseBad κ.1 κ.2.1 v0 h x hx) (by decide) (by decide) rfl rfl (Nat.le_of_ble_eq_true rfl) (fun q1 => ?_)
    show xJ iX8_note κ _ 51 [(0, .ref v0)] [.int q1.1] q1.2 _
    exact j_iret (q1.1, q1.2) dX8_note_51 rfl (fun q => q)
  refine j_have (pj := 21) (Lf := fun v : Hp => [(0, .ref v0)]) (Sf := fun v : Hp => []) (Hf := fun v : Hp => v) (jf := fun v : Hp => fX8_note_j21 v0 v) (fun v => ?_) (fun hj21 => ?_)
  · generalize v = h
    show xJ iX8_note κ _ 21 [(0, .ref v0)] [] h (fX8_note_j21 v0 h)
    unfold fX8_note_j21
    refine j_aload_n 0 dX8_note_21 rfl rfl ?_
    refine j_callV (as := []) (fun x => some (.int x.1)) (fun x => x.2) 8 12 dX8_note_22 ml_RX8_70 tg_X8_refuseBad im_X8_refuseBad se_X8_refuseBad rfl (by decide) (fun x hx => kX8_refuseBad κ.1 κ.2.1 v0 h x hx) (by decide) (by decide) rfl rfl (Nat.le_of_ble_eq_true rfl) (fun q2 => ?_)
    show xJ iX8_note κ _ 25 [(0, .ref v0)] [.int q2.1] q2.2 _
    exact j_iret (q2.1, q2.2) dX8_note_25 rfl (fun q => q)
  refine j_aload_n 0 dX8_note_0 rfl rfl ?_
  refine j_getR 8 12 0 dX8_note_1 fl_RX8_12 (by decide) rfl (by decide) (fun _ _ _ => rfl) (fun x3 => ?_)
  refine j_iload_n 1 dX8_note_4 rfl rfl ?_
  refine j_callV (as := [.int v1]) (fun x => some (.int x)) (fun _ => h) 0 16 dX8_note_5 ml_RX8_162 tg_X0_has im_X0_has se_X0_has rfl (by decide) (fun x hx => kX0_has κ.1 κ.2.1 x3 v1 h x hx) (by decide) (by decide) rfl rfl (Nat.le_of_ble_eq_true rfl) (fun x4 => ?_)
  show xJ iX8_note κ _ 8 [(0, .ref v0), (1, .int v1), (2, .int v2), (3, .int v3), (4, .int v4)] [.int x4] h _
  refine j_if_eq (tgt := 21) dX8_note_8 (by decide) (fun c5 => ?_) (fun c5 => ?_)
  · refine j_pick [0] rfl ?_
    exact hj21 h
  · refine j_iload_n 2 dX8_note_11 rfl rfl ?_
    refine j_iconst (x := 0) dX8_note_12 (by decide) ?_
    refine j_bipush (x := 9) dX8_note_13 (by decide) ?_
    refine j_callS (as := [.int v2, .int 0, .int 9]) (fun x => some (.int x)) (fun _ => h) dX8_note_15 ml_RX8_66 tg_X8_within st_X8_within (fun x hx => kX8_within κ.1 κ.2.1 v2 0 9 h x hx) (by decide) (by decide) rfl rfl (Nat.le_of_ble_eq_true rfl) (fun x6 => ?_)
    show xJ iX8_note κ _ 18 [(0, .ref v0), (1, .int v1), (2, .int v2), (3, .int v3), (4, .int v4)] [.int x6] h _
    refine j_if_ne (tgt := 26) dX8_note_18 (by decide) (fun c7 => ?_) (fun c7 => ?_)
    · refine j_pick [0] rfl ?_
      exact hj21 h
    · refine j_iload_n 3 dX8_note_26 rfl rfl ?_
      refine j_iconst (x := 0) dX8_note_27 (by decide) ?_
      refine j_bipush (x := 40) dX8_note_28 (by decide) ?_
      refine j_callS (as := [.int v3, .int 0, .int 40]) (fun x => some (.int x)) (fun _ => h) dX8_note_30 ml_RX8_66 tg_X8_within st_X8_within (fun x hx => kX8_within κ.1 κ.2.1 v3 0 40 h x hx) (by decide) (by decide) rfl rfl (Nat.le_of_ble_eq_true rfl) (fun x8 => ?_)
      show xJ iX8_note κ _ 33 [(0, .ref v0), (1, .int v1), (2, .int v2), (3, .int v3), (4, .int v4)] [.int x8] h _
      refine j_if_eq (tgt := 47) dX8_note_33 (by decide) (fun c9 => ?_) (fun c9 => ?_)
      · refine j_pick [0] rfl ?_
        exact hj47 h
      · refine j_iload 4 dX8_note_36 rfl ?_
        refine j_iconst (x := 0) dX8_note_38 (by decide) ?_
        refine j_bipush (x := 9) dX8_note_39 (by decide) ?_
        refine j_callS (as := [.int v4, .int 0, .int 9]) (fun x => some (.int x)) (fun _ => h) dX8_note_41 ml_RX8_66 tg_X8_within st_X8_within (fun x hx => kX8_within κ.1 κ.2.1 v4 0 9 h x hx) (by decide) (by decide) rfl rfl (Nat.le_of_ble_eq_true rfl) (fun x10 => ?_)
        show xJ iX8_note κ _ 44 [(0, .ref v0), (1, .int v1), (2, .int v2), (3, .int v3), (4, .int v4)] [.int x10] h _
        refine j_if_ne (tgt := 52) dX8_note_44 (by decide) (fun c11 => ?_) (fun c11 => ?_)
        · refine j_pick [0] rfl ?_
          exact hj47 h
        · refine j_aload_n 0 dX8_note_52 rfl rfl ?_
          refine j_getR 8 12 0 dX8_note_53 fl_RX8_12 (by decide) rfl (by decide) (fun _ _ _ => rfl) (fun x12 => ?_)
          refine j_getI 0 16 8 dX8_note_56 fl_RX8_240 (by decide) rfl (by decide) rfl (fun x13 => ?_)
          refine j_bipush (x := 6) dX8_note_59 (by decide) ?_
          refine j_icmp_lt (tgt := 69) dX8_note_61 (by decide) (fun c14 => ?_) (fun c14 => ?_)
          · refine j_aload_n 0 dX8_note_69 rfl rfl ?_
            refine j_getR 8 12 0 dX8_note_70 fl_RX8_12 (by decide) rfl (by decide) (fun _ _ _ => rfl) (fun x15 => ?_)
            refine j_iload_n 1 dX8_note_73 rfl rfl ?_
            refine j_iload_n 2 dX8_note_74 rfl rfl ?_
            refine j_iload_n 3 dX8_note_75 rfl rfl ?_
            refine j_iload 4 dX8_note_76 rfl ?_
            refine j_callV (as := [.int v1, .int v2, .int v3, .int v4]) (fun _ => none) (fun x => x) 0 16 dX8_note_78 ml_RX8_243 tg_X0_addNote im_X0_addNote se_X0_addNote rfl (by decide) (fun x hx => kX0_addNote κ.1 κ.2.1 x15 v1 v2 v3 v4 h x hx) (by decide) (by decide) rfl rfl (Nat.le_of_ble_eq_true rfl) (fun h16 => ?_)
            show xJ iX8_note κ _ 81 [(0, .ref v0), (1, .int v1), (2, .int v2), (3, .int v3), (4, .int v4)] [] h16 _
            refine j_aload_n 0 dX8_note_81 rfl rfl ?_
            refine j_getR 8 12 0 dX8_note_82 fl_RX8_12 (by decide) rfl (by decide) (fun _ _ _ => rfl) (fun x17 => ?_)
            refine j_getI 0 16 8 dX8_note_85 fl_RX8_240 (by decide) rfl (by decide) rfl (fun x18 => ?_)
            exact j_iret (x18, h16) dX8_note_88 rfl (fun q => q)
          · refine j_aload_n 0 dX8_note_64 rfl rfl ?_
            refine j_callV (as := []) (fun x => some (.int x.1)) (fun x => x.2) 8 12 dX8_note_65 ml_RX8_91 tg_X8_refuseFull im_X8_refuseFull se_X8_refuseFull rfl (by decide) (fun x hx => kX8_refuseFull κ.1 κ.2.1 v0 h x hx) (by decide) (by decide) rfl rfl (Nat.le_of_ble_eq_true rfl) (fun q19 => ?_)
            show xJ iX8_note κ _ 68 [(0, .ref v0), (1, .int v1), (2, .int v2), (3, .int v3), (4, .int v4)] [.int q19.1] q19.2 _
            exact j_iret (q19.1, q19.2) dX8_note_68 rfl (fun q => q)
