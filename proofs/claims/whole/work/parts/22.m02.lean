def fX9_full (v0 : Nat) (h : Hp) : Option (Int32 × Hp) :=
  (xgR h v0 (9, 18) 3).bind fun x1 => (xaI h x1 10 2).bind fun x2 => (xsI h x1 2 (x2 + 1)).bind fun h3 => some ((-4), h3)
abbrev iX9_full : xI := (cX9_full, yX9_full.cls, yX9_full.name, some .int, 1, 2)
set_option maxHeartbeats 4000000 in
set_option maxRecDepth 100000 in
theorem kX9_full (l : Launch) (η : xEnv) (v0 : Nat) (h : Hp) (x : Int32 × Hp) (hx : fX9_full v0 h = some x) : xC l η yX9_full cX9_full 1 (some .int) 2 [.ref v0] h (some (.int x.1)) x.2 := by
  refine xC_of (by decide) (Nat.le_of_ble_eq_true rfl) hx (fun κ x => κ.2.2.2.1 = some (.int x.1) ∧ κ.2.2.2.2 = x.2) ⟨rfl, rfl⟩ (fun κ => ?_)
  show xJ iX9_full κ _ 0 [(0, .ref v0)] [] h (fX9_full v0 h)
  unfold fX9_full
  refine j_aload_n 0 dX9_full_0 rfl rfl ?_
  refine j_getR 9 18 3 dX9_full_1 fl_RX9_20 (by decide) rfl (by decide) (fun _ _ _ => rfl) (fun x1 => ?_)
  refine j_iconst (x := 2) dX9_full_4 (by decide) ?_
  refine j_dup2 dX9_full_5 rfl rfl ?_
  refine j_iald dX9_full_6 (fun x2 => ?_)
  refine j_iconst (x := 1) dX9_full_7 (by decide) ?_
  refine j_iadd dX9_full_8 ?_
  refine j_iast dX9_full_9 (fun h3 => ?_)
  refine j_bipush (x := (-4)) dX9_full_10 (by decide) ?_
  exact j_iret ((-4), h3) dX9_full_12 rfl (fun q => q)
def fX9_layIdea (v0 : Nat) (v1 : Int32) (v2 : Int32) (v3 : Int32) (v4 : Int32) (h : Hp) : Option (Hp) :=
  (xaI h v0 10 0).bind fun x1 => (xsI h v0 (19 + x1) v1).bind fun h2 => (xsI h2 v0 (26 + x1) v2).bind fun h3 => (xsI h3 v0 (33 + x1) v3).bind fun h4 => (xsI h4 v0 (40 + x1) v4).bind fun h5 => (xsI h5 v0 (47 + x1) 0).bind fun h6 => (xaI h6 v0 10 0).bind fun x7 => (xsI h6 v0 0 (x7 + 1)).bind fun h8 => some h8
abbrev iX9_layIdea : xI := (cX9_layIdea, yX9_layIdea.cls, yX9_layIdea.name, none, 6, 2)
set_option maxHeartbeats 4000000 in
set_option maxRecDepth 100000 in
theorem kX9_layIdea (l : Launch) (η : xEnv) (v0 : Nat) (v1 : Int32) (v2 : Int32) (v3 : Int32) (v4 : Int32) (h : Hp) (x : Hp) (hx : fX9_layIdea v0 v1 v2 v3 v4 h = some x) : xC l η yX9_layIdea cX9_layIdea 6 none 2 [.ref v0, .int v1, .int v2, .int v3, .int v4] h none x := by
  refine xC_of (by decide) (Nat.le_of_ble_eq_true rfl) hx (fun κ x => κ.2.2.2.1 = none ∧ κ.2.2.2.2 = x) ⟨rfl, rfl⟩ (fun κ => ?_)
  show xJ iX9_layIdea κ _ 0 [(0, .ref v0), (1, .int v1), (2, .int v2), (3, .int v3), (4, .int v4)] [] h (fX9_layIdea v0 v1 v2 v3 v4 h)
  unfold fX9_layIdea
  refine j_aload_n 0 dX9_layIdea_0 rfl rfl ?_
  refine j_iconst (x := 0) dX9_layIdea_1 (by decide) ?_
  refine j_iald dX9_layIdea_2 (fun x1 => ?_)
  refine j_istore (L' := [(5, .int x1), (0, .ref v0), (1, .int v1), (2, .int v2), (3, .int v3), (4, .int v4)]) dX9_layIdea_3 (Nat.le_of_ble_eq_true rfl) rfl ?_
  refine j_aload_n 1 dX9_layIdea_5 rfl rfl ?_
  refine j_bipush (x := 19) dX9_layIdea_6 (by decide) ?_
  refine j_iload 0 dX9_layIdea_8 rfl ?_
  refine j_iadd dX9_layIdea_10 ?_
  refine j_iload_n 2 dX9_layIdea_11 rfl rfl ?_
  refine j_iast dX9_layIdea_12 (fun h2 => ?_)
  refine j_aload_n 1 dX9_layIdea_13 rfl rfl ?_
  refine j_bipush (x := 26) dX9_layIdea_14 (by decide) ?_
  refine j_iload 0 dX9_layIdea_16 rfl ?_
  refine j_iadd dX9_layIdea_18 ?_
  refine j_iload_n 3 dX9_layIdea_19 rfl rfl ?_
  refine j_iast dX9_layIdea_20 (fun h3 => ?_)
  refine j_aload_n 1 dX9_layIdea_21 rfl rfl ?_
  refine j_bipush (x := 33) dX9_layIdea_22 (by decide) ?_
  refine j_iload 0 dX9_layIdea_24 rfl ?_
  refine j_iadd dX9_layIdea_26 ?_
  refine j_iload_n 4 dX9_layIdea_27 rfl rfl ?_
  refine j_iast dX9_layIdea_28 (fun h4 => ?_)
  refine j_aload_n 1 dX9_layIdea_29 rfl rfl ?_
  refine j_bipush (x := 40) dX9_layIdea_30 (by decide) ?_
  refine j_iload 0 dX9_layIdea_32 rfl ?_
  refine j_iadd dX9_layIdea_34 ?_
  refine j_iload 5 dX9_layIdea_35 rfl ?_
  refine j_iast dX9_layIdea_37 (fun h5 => ?_)
  refine j_aload_n 1 dX9_layIdea_38 rfl rfl ?_
  refine j_bipush (x := 47) dX9_layIdea_39 (by decide) ?_
  refine j_iload 0 dX9_layIdea_41 rfl ?_
  refine j_iadd dX9_layIdea_43 ?_
  refine j_iconst (x := 0) dX9_layIdea_44 (by decide) ?_
  refine j_iast dX9_layIdea_45 (fun h6 => ?_)
  refine j_aload_n 1 dX9_layIdea_46 rfl rfl ?_
  refine j_iconst (x := 0) dX9_layIdea_47 (by decide) ?_
  refine j_dup2 dX9_layIdea_48 rfl rfl ?_
  refine j_iald dX9_layIdea_49 (fun x7 => ?_)
  refine j_iconst (x := 1) dX9_layIdea_50 (by decide) ?_
  refine j_iadd dX9_layIdea_51 ?_
  refine j_iast dX9_layIdea_52 (fun h8 => ?_)
  exact j_vret h8 dX9_layIdea_53 rfl (fun q => q)
def fX9_idea_j52 (v0 : Nat) (h : Hp) : Option (Int32 × Hp) :=
  (xat h v0 (9, 18) (fX9_bad v0 (-2) h)).bind fun q1 => some (q1.1, q1.2)
def fX9_idea (v0 : Nat) (v1 : Int32) (v2 : Int32) (v3 : Int32) (v4 : Int32) (h : Hp) : Option (Int32 × Hp) :=
  (fX9_in ((v1 : Int32).toInt64) 0 5 h).bind fun x2 => if (x2 : Int32) = 0 then (fX9_idea_j52 v0 h) else ((fX9_in ((v2 : Int32).toInt64) 1 9 h).bind fun x4 => if (x4 : Int32) = 0 then (fX9_idea_j52 v0 h) else ((fX9_in ((v3 : Int32).toInt64) 0 8 h).bind fun x6 => if (x6 : Int32) = 0 then (fX9_idea_j52 v0 h) else ((fX9_in ((v4 : Int32).toInt64) (((v3 : Int32).toInt64) + 1) 9 h).bind fun x8 => if (x8 : Int32) = 0 then (fX9_idea_j52 v0 h) else ((xat h v0 (9, 18) (fX9_many v0 h)).bind fun x10 => if (x10 : Int32) = 7 then ((xat h v0 (9, 18) (fX9_full v0 h)).bind fun q12 => some (q12.1, q12.2)) else ((xgR h v0 (9, 18) 0).bind fun x13 => (fX9_layIdea x13 v1 v2 v3 v4 h).bind fun h14 => (xgR h14 v0 (9, 18) 0).bind fun x15 => (xsI h14 x15 2 0).bind fun h16 => (xat h16 v0 (9, 18) (fX9_many v0 h16)).bind fun x17 => some (x17 - 1, h16))))))
abbrev iX9_idea : xI := (cX9_idea, yX9_idea.cls, yX9_idea.name, some .int, 5, 3)
set_option maxHeartbeats 4000000 in
set_option maxRecDepth 100000 in
theorem kX9_idea (l : Launch) (η : xEnv) (v0 : Nat) (v1 : Int32) (v2 : Int32) (v3 : Int32) (v4 : Int32) (h : Hp) (x : Int32 × Hp) (hx : fX9_idea v0 v1 v2 v3 v4 h = some x) : xC l η yX9_idea cX9_idea 5 (some .int) 3 [.ref v0, .int v1, .int v2, .int v3, .int v4] h (some (.int x.1)) x.2 := by
  refine xC_of (by decide) (Nat.le_of_ble_eq_true rfl) hx (fun κ x => κ.2.2.2.1 = some (.int x.1) ∧ κ.2.2.2.2 = x.2) ⟨rfl, rfl⟩ (fun κ => ?_)
  show xJ iX9_idea κ _ 0 [(0, .ref v0), (1, .int v1), (2, .int v2), (3, .int v3), (4, .int v4)] [] h (fX9_idea v0 v1 v2 v3 v4 h)
  unfold fX9_idea
  refine j_have (pj := 52) (Lf := fun v : Hp => [(0, .ref v0)]) (Sf := fun v : Hp => []) (Hf := fun v : Hp => v) (jf := fun v : Hp => fX9_idea_j52 v0 v) (fun v => ?_) (fun hj52 => ?_)
  · generalize v = h
    show xJ iX9_idea κ _ 52 [(0, .ref v0)] [] h (fX9_idea_j52 v0 h)
    unfold fX9_idea_j52
    refine j_aload_n 0 dX9_idea_52 rfl rfl ?_
    refine j_bipush (x := (-2)) dX9_idea_53 (by decide) ?_
    refine j_callV (as := [.int (-2)]) (fun x => some (.int x.1)) (fun x => x.2) 9 18 dX9_idea_55 ml_RX9_64 tg_X9_bad im_X9_bad se_X9_bad rfl (by decide) (fun x hx => kX9_bad κ.1 κ.2.1 v0 (-2) h x hx) (by decide) (by decide) rfl rfl (Nat.le_of_ble_eq_true rfl) (fun q1 => ?_)
    show xJ iX9_idea κ _ 58 [(0, .ref v0)] [.int q1.1] q1.2 _
    exact j_iret (q1.1, q1.2) dX9_idea_58 rfl (fun q => q)
  refine j_iload_n 1 dX9_idea_0 rfl rfl ?_
  refine j_i2l dX9_idea_1 ?_
  refine j_lconst (x := 0) dX9_idea_2 (by decide) ?_
  refine j_ldc2 dX9_idea_3 cL_RX9_72 ?_
  refine j_callS (as := [.long ((v1 : Int32).toInt64), .long 0, .long 5]) (fun x => some (.int x)) (fun _ => h) dX9_idea_6 ml_RX9_56 tg_X9_in st_X9_in (fun x hx => kX9_in κ.1 κ.2.1 ((v1 : Int32).toInt64) 0 5 h x hx) (by decide) (by decide) rfl rfl (Nat.le_of_ble_eq_true rfl) (fun x2 => ?_)
  show xJ iX9_idea κ _ 9 [(0, .ref v0), (1, .int v1), (2, .int v2), (3, .int v3), (4, .int v4)] [.int x2] h _
  refine j_if_eq (tgt := 52) dX9_idea_9 (by decide) (fun c3 => ?_) (fun c3 => ?_)
  · refine j_pick [0] rfl ?_
    exact hj52 h
  · refine j_iload_n 2 dX9_idea_12 rfl rfl ?_
    refine j_i2l dX9_idea_13 ?_
    refine j_lconst (x := 1) dX9_idea_14 (by decide) ?_
    refine j_ldc2 dX9_idea_15 cL_RX9_60 ?_
    refine j_callS (as := [.long ((v2 : Int32).toInt64), .long 1, .long 9]) (fun x => some (.int x)) (fun _ => h) dX9_idea_18 ml_RX9_56 tg_X9_in st_X9_in (fun x hx => kX9_in κ.1 κ.2.1 ((v2 : Int32).toInt64) 1 9 h x hx) (by decide) (by decide) rfl rfl (Nat.le_of_ble_eq_true rfl) (fun x4 => ?_)
    show xJ iX9_idea κ _ 21 [(0, .ref v0), (1, .int v1), (2, .int v2), (3, .int v3), (4, .int v4)] [.int x4] h _
    refine j_if_eq (tgt := 52) dX9_idea_21 (by decide) (fun c5 => ?_) (fun c5 => ?_)
    · refine j_pick [0] rfl ?_
      exact hj52 h
    · refine j_iload_n 3 dX9_idea_24 rfl rfl ?_
      refine j_i2l dX9_idea_25 ?_
      refine j_lconst (x := 0) dX9_idea_26 (by decide) ?_
      refine j_ldc2 dX9_idea_27 cL_RX9_74 ?_
      refine j_callS (as := [.long ((v3 : Int32).toInt64), .long 0, .long 8]) (fun x => some (.int x)) (fun _ => h) dX9_idea_30 ml_RX9_56 tg_X9_in st_X9_in (fun x hx => kX9_in κ.1 κ.2.1 ((v3 : Int32).toInt64) 0 8 h x hx) (by decide) (by decide) rfl rfl (Nat.le_of_ble_eq_true rfl) (fun x6 => ?_)
      show xJ iX9_idea κ _ 33 [(0, .ref v0), (1, .int v1), (2, .int v2), (3, .int v3), (4, .int v4)] [.int x6] h _
      refine j_if_eq (tgt := 52) dX9_idea_33 (by decide) (fun c7 => ?_) (fun c7 => ?_)
      · refine j_pick [0] rfl ?_
        exact hj52 h
      · refine j_iload 4 dX9_idea_36 rfl ?_
        refine j_i2l dX9_idea_38 ?_
        refine j_iload_n 3 dX9_idea_39 rfl rfl ?_
        refine j_i2l dX9_idea_40 ?_
        refine j_lconst (x := 1) dX9_idea_41 (by decide) ?_
        refine j_ladd dX9_idea_42 ?_
        refine j_ldc2 dX9_idea_43 cL_RX9_60 ?_
        refine j_callS (as := [.long ((v4 : Int32).toInt64), .long (((v3 : Int32).toInt64) + 1), .long 9]) (fun x => some (.int x)) (fun _ => h) dX9_idea_46 ml_RX9_56 tg_X9_in st_X9_in (fun x hx => kX9_in κ.1 κ.2.1 ((v4 : Int32).toInt64) (((v3 : Int32).toInt64) + 1) 9 h x hx) (by decide) (by decide) rfl rfl (Nat.le_of_ble_eq_true rfl) (fun x8 => ?_)
        show xJ iX9_idea κ _ 49 [(0, .ref v0), (1, .int v1), (2, .int v2), (3, .int v3), (4, .int v4)] [.int x8] h _
        refine j_if_ne (tgt := 59) dX9_idea_49 (by decide) (fun c9 => ?_) (fun c9 => ?_)
        · refine j_pick [0] rfl ?_
          exact hj52 h
        · refine j_aload_n 0 dX9_idea_59 rfl rfl ?_
          refine j_callV (as := []) (fun x => some (.int x)) (fun _ => h) 9 18 dX9_idea_60 ml_RX9_52 tg_X9_many im_X9_many se_X9_many rfl (by decide) (fun x hx => kX9_many κ.1 κ.2.1 v0 h x hx) (by decide) (by decide) rfl rfl (Nat.le_of_ble_eq_true rfl) (fun x10 => ?_)
          show xJ iX9_idea κ _ 63 [(0, .ref v0), (1, .int v1), (2, .int v2), (3, .int v3), (4, .int v4)] [.int x10] h _
          refine j_bipush (x := 7) dX9_idea_63 (by decide) ?_
          refine j_icmp_ne (tgt := 73) dX9_idea_65 (by decide) (fun c11 => ?_) (fun c11 => ?_)
          · refine j_aload_n 0 dX9_idea_68 rfl rfl ?_
            refine j_callV (as := []) (fun x => some (.int x.1)) (fun x => x.2) 9 18 dX9_idea_69 ml_RX9_76 tg_X9_full im_X9_full se_X9_full rfl (by decide) (fun x hx => kX9_full κ.1 κ.2.1 v0 h x hx) (by decide) (by decide) rfl rfl (Nat.le_of_ble_eq_true rfl) (fun q12 => ?_)
            show xJ iX9_idea κ _ 72 [(0, .ref v0), (1, .int v1), (2, .int v2), (3, .int v3), (4, .int v4)] [.int q12.1] q12.2 _
            exact j_iret (q12.1, q12.2) dX9_idea_72 rfl (fun q => q)
          · refine j_aload_n 0 dX9_idea_73 rfl rfl ?_
            refine j_getR 9 18 0 dX9_idea_74 fl_RX9_7 (by decide) rfl (by decide) (fun _ _ _ => rfl) (fun x13 => ?_)
            refine j_iload_n 1 dX9_idea_77 rfl rfl ?_
            refine j_iload_n 2 dX9_idea_78 rfl rfl ?_
            refine j_iload_n 3 dX9_idea_79 rfl rfl ?_
            refine j_iload 4 dX9_idea_80 rfl ?_
            refine j_callS (as := [.ref x13, .int v1, .int v2, .int v3, .int v4]) (fun _ => none) (fun x => x) dX9_idea_82 ml_RX9_79 tg_X9_layIdea st_X9_layIdea (fun x hx => kX9_layIdea κ.1 κ.2.1 x13 v1 v2 v3 v4 h x hx) (by decide) (by decide) rfl rfl (Nat.le_of_ble_eq_true rfl) (fun h14 => ?_)
            show xJ iX9_idea κ _ 85 [(0, .ref v0), (1, .int v1), (2, .int v2), (3, .int v3), (4, .int v4)] [] h14 _
            refine j_aload_n 0 dX9_idea_85 rfl rfl ?_
            refine j_getR 9 18 0 dX9_idea_86 fl_RX9_7 (by decide) rfl (by decide) (fun _ _ _ => rfl) (fun x15 => ?_)
            refine j_iconst (x := 2) dX9_idea_89 (by decide) ?_
            refine j_iconst (x := 0) dX9_idea_90 (by decide) ?_
            refine j_iast dX9_idea_91 (fun h16 => ?_)
            refine j_aload_n 0 dX9_idea_92 rfl rfl ?_
            refine j_callV (as := []) (fun x => some (.int x)) (fun _ => h16) 9 18 dX9_idea_93 ml_RX9_52 tg_X9_many im_X9_many se_X9_many rfl (by decide) (fun x hx => kX9_many κ.1 κ.2.1 v0 h16 x hx) (by decide) (by decide) rfl rfl (Nat.le_of_ble_eq_true rfl) (fun x17 => ?_)
            show xJ iX9_idea κ _ 96 [(0, .ref v0), (1, .int v1), (2, .int v2), (3, .int v3), (4, .int v4)] [.int x17] h16 _
            refine j_iconst (x := 1) dX9_idea_96 (by decide) ?_
            refine j_isub dX9_idea_97 ?_
            exact j_iret (x17 - 1, h16) dX9_idea_98 rfl (fun q => q)
def fX0_has_j17 (t0 : Int32) (h : Hp) : Option (Int32) :=
  if vp_nar .boolean t0 = t0 then some t0 else none
def fX0_has_j16  (h : Hp) : Option (Int32) :=
  fX0_has_j17 0 h
def fX0_has (v0 : Nat) (v1 : Int32) (h : Hp) : Option (Int32) :=
  if (v1 : Int32) < 0 then (fX0_has_j16 h) else ((xgI h v0 (0, 16) 2).bind fun x2 => if (x2 : Int32) ≤ v1 then (fX0_has_j16 h) else (fX0_has_j17 1 h))
abbrev iX0_has : xI := (cX0_has, yX0_has.cls, yX0_has.name, some .boolean, 2, 2)
set_option maxHeartbeats 4000000 in
set_option maxRecDepth 100000 in
theorem kX0_has (l : Launch) (η : xEnv) (v0 : Nat) (v1 : Int32) (h : Hp) (x : Int32) (hx : fX0_has v0 v1 h = some x) : xC l η yX0_has cX0_has 2 (some .boolean) 2 [.ref v0, .int v1] h (some (.int x)) h := by
  refine xC_of (by decide) (Nat.le_of_ble_eq_true rfl) hx (fun κ x => κ.2.2.2.1 = some (.int x) ∧ κ.2.2.2.2 = h) ⟨rfl, rfl⟩ (fun κ => ?_)
  show xJ iX0_has κ _ 0 [(0, .ref v0), (1, .int v1)] [] h (fX0_has v0 v1 h)
  unfold fX0_has
  refine j_have (pj := 17) (Lf := fun v : Int32 => []) (Sf := fun v : Int32 => [.int v]) (Hf := fun v : Int32 => h) (jf := fun v : Int32 => fX0_has_j17 v h) (fun v => ?_) (fun hj17 => ?_)
  · generalize v = t0
    show xJ iX0_has κ _ 17 [] [.int t0] h (fX0_has_j17 t0 h)
    unfold fX0_has_j17
    exact j_zretc t0 dX0_has_17 rfl (fun q => q)
  refine j_have (pj := 16) (Lf := fun v : Unit => []) (Sf := fun v : Unit => []) (Hf := fun v : Unit => h) (jf := fun v : Unit => fX0_has_j16 h) (fun v => ?_) (fun hj16 => ?_)
  · skip
    show xJ iX0_has κ _ 16 [] [] h (fX0_has_j16 h)
    unfold fX0_has_j16
    refine j_iconst (x := 0) dX0_has_16 (by decide) ?_
    refine j_pick [] rfl ?_
    exact hj17 0
  refine j_iload_n 1 dX0_has_0 rfl rfl ?_
  refine j_if_lt (tgt := 16) dX0_has_1 (by decide) (fun c1 => ?_) (fun c1 => ?_)
  · refine j_pick [] rfl ?_
    exact hj16 ()
  · refine j_iload_n 1 dX0_has_4 rfl rfl ?_
    refine j_aload_n 0 dX0_has_5 rfl rfl ?_
    refine j_getI 0 16 2 dX0_has_6 fl_RX0_57 (by decide) rfl (by decide) rfl (fun x2 => ?_)
    refine j_icmp_ge (tgt := 16) dX0_has_9 (by decide) (fun c3 => ?_) (fun c3 => ?_)
    · refine j_pick [] rfl ?_
      exact hj16 ()
    · refine j_iconst (x := 1) dX0_has_12 (by decide) ?_
      refine j_goto (tgt := 17) dX0_has_13 (by decide) ?_
      refine j_pick [] rfl ?_
      exact hj17 1
def fX0_hasTwo_j26 (t0 : Int32) (h : Hp) : Option (Int32) :=
  if vp_nar .boolean t0 = t0 then some t0 else none
def fX0_hasTwo_j25  (h : Hp) : Option (Int32) :=
  fX0_hasTwo_j26 0 h
def fX0_hasTwo (v0 : Nat) (v1 : Int32) (v2 : Int32) (h : Hp) : Option (Int32) :=
  (xat h v0 (0, 16) (fX0_has v0 v1 h)).bind fun x1 => if (x1 : Int32) = 0 then (fX0_hasTwo_j25 h) else ((xat h v0 (0, 16) (fX0_has v0 v2 h)).bind fun x3 => if (x3 : Int32) = 0 then (fX0_hasTwo_j25 h) else (if (v1 : Int32) = v2 then (fX0_hasTwo_j25 h) else (fX0_hasTwo_j26 1 h)))
abbrev iX0_hasTwo : xI := (cX0_hasTwo, yX0_hasTwo.cls, yX0_hasTwo.name, some .boolean, 3, 3)
set_option maxHeartbeats 4000000 in
set_option maxRecDepth 100000 in
theorem kX0_hasTwo (l : Launch) (η : xEnv) (v0 : Nat) (v1 : Int32) (v2 : Int32) (h : Hp) (x : Int32) (hx : fX0_hasTwo v0 v1 v2 h = some x) : xC l η yX0_hasTwo cX0_hasTwo 3 (some .boolean) 3 [.ref v0, .int v1, .int v2] h (some (.int x)) h := by
  refine xC_of (by decide) (Nat.le_of_ble_eq_true rfl) hx (fun κ x => κ.2.2.2.1 = some (.int x) ∧ κ.2.2.2.2 = h) ⟨rfl, rfl⟩ (fun κ => ?_)
  show xJ iX0_hasTwo κ _ 0 [(0, .ref v0), (1, .int v1), (2, .int v2)] [] h (fX0_hasTwo v0 v1 v2 h)
  unfold fX0_hasTwo
  refine j_have (pj := 26) (Lf := fun v : Int32 => []) (Sf := fun v : Int32 => [.int v]) (Hf := fun v : Int32 => h) (jf := fun v : Int32 => fX0_hasTwo_j26 v h) (fun v => ?_) (fun hj26 => ?_)
  · generalize v = t0
    show xJ iX0_hasTwo κ _ 26 [] [.int t0] h (fX0_hasTwo_j26 t0 h)
    unfold fX0_hasTwo_j26
    exact j_zretc t0 dX0_hasTwo_26 rfl (fun q => q)
  refine j_have (pj := 25) (Lf := fun v : Unit => []) (Sf := fun v : Unit => []) (Hf := fun v : Unit => h) (jf := fun v : Unit => fX0_hasTwo_j25 h) (fun v => ?_) (fun hj25 => ?_)
  · skip
    show xJ iX0_hasTwo κ _ 25 [] [] h (fX0_hasTwo_j25 h)
    unfold fX0_hasTwo_j25
    refine j_iconst (x := 0) dX0_hasTwo_25 (by decide) ?_
    refine j_pick [] rfl ?_
    exact hj26 0
  refine j_aload_n 0 dX0_hasTwo_0 rfl rfl ?_
  refine j_iload_n 1 dX0_hasTwo_1 rfl rfl ?_
  refine j_callV (as := [.int v1]) (fun x => some (.int x)) (fun _ => h) 0 16 dX0_hasTwo_2 ml_RX0_79 tg_X0_has im_X0_has se_X0_has rfl (by decide) (fun x hx => kX0_has κ.1 κ.2.1 v0 v1 h x hx) (by decide) (by decide) rfl rfl (Nat.le_of_ble_eq_true rfl) (fun x1 => ?_)
  show xJ iX0_hasTwo κ _ 5 [(0, .ref v0), (1, .int v1), (2, .int v2)] [.int x1] h _
  refine j_if_eq (tgt := 25) dX0_hasTwo_5 (by decide) (fun c2 => ?_) (fun c2 => ?_)
  · refine j_pick [] rfl ?_
    exact hj25 ()
  · refine j_aload_n 0 dX0_hasTwo_8 rfl rfl ?_
    refine j_iload_n 2 dX0_hasTwo_9 rfl rfl ?_
    refine j_callV (as := [.int v2]) (fun x => some (.int x)) (fun _ => h) 0 16 dX0_hasTwo_10 ml_RX0_79 tg_X0_has im_X0_has se_X0_has rfl (by decide) (fun x hx => kX0_has κ.1 κ.2.1 v0 v2 h x hx) (by decide) (by decide) rfl rfl (Nat.le_of_ble_eq_true rfl) (fun x3 => ?_)
    show xJ iX0_hasTwo κ _ 13 [(0, .ref v0), (1, .int v1), (2, .int v2)] [.int x3] h _
    refine j_if_eq (tgt := 25) dX0_hasTwo_13 (by decide) (fun c4 => ?_) (fun c4 => ?_)
    · refine j_pick [] rfl ?_
      exact hj25 ()
    · refine j_iload_n 1 dX0_hasTwo_16 rfl rfl ?_
      refine j_iload_n 2 dX0_hasTwo_17 rfl rfl ?_
      refine j_icmp_eq (tgt := 25) dX0_hasTwo_18 (by decide) (fun c5 => ?_) (fun c5 => ?_)
      · refine j_pick [] rfl ?_
        exact hj25 ()
      · refine j_iconst (x := 1) dX0_hasTwo_21 (by decide) ?_
        refine j_goto (tgt := 26) dX0_hasTwo_22 (by decide) ?_
        refine j_pick [] rfl ?_
        exact hj26 1
def fX8_bit (v0 : Int32) (v1 : Int32) (h : Hp) : Option (Int32) :=
  some ((v0 >>> (v1 &&& 31)) &&& 1)
abbrev iX8_bit : xI := (cX8_bit, yX8_bit.cls, yX8_bit.name, some .int, 2, 2)
set_option maxHeartbeats 4000000 in
set_option maxRecDepth 100000 in
theorem kX8_bit (l : Launch) (η : xEnv) (v0 : Int32) (v1 : Int32) (h : Hp) (x : Int32) (hx : fX8_bit v0 v1 h = some x) : xC l η yX8_bit cX8_bit 2 (some .int) 2 [.int v0, .int v1] h (some (.int x)) h := by
  refine xC_of (by decide) (Nat.le_of_ble_eq_true rfl) hx (fun κ x => κ.2.2.2.1 = some (.int x) ∧ κ.2.2.2.2 = h) ⟨rfl, rfl⟩ (fun κ => ?_)
  show xJ iX8_bit κ _ 0 [(0, .int v0), (1, .int v1)] [] h (fX8_bit v0 v1 h)
  unfold fX8_bit
  refine j_iload_n 0 dX8_bit_0 rfl rfl ?_
  refine j_iload_n 1 dX8_bit_1 rfl rfl ?_
  refine j_ishr dX8_bit_2 ?_
  refine j_iconst (x := 1) dX8_bit_3 (by decide) ?_
  refine j_iand dX8_bit_4 ?_
  exact j_iret ((v0 >>> (v1 &&& 31)) &&& 1) dX8_bit_5 rfl (fun q => q)
def fX0_setQuarrel_j79 (t0 : Int32) (t1 : Int32) (t2 : Nat) (h : Hp) : Option (Hp) :=
  (xsI h t2 t1 t0).bind fun h1 => some h1
def fX0_setQuarrel_j44 (v0 : Nat) (v1 : Int32) (v2 : Int32) (v3 : Int32) (t0 : Int32) (t1 : Int32) (t2 : Nat) (h : Hp) : Option (Hp) :=
  (xsI h t2 t1 t0).bind fun h2 => (xgR h2 v0 (0, 16) 7).bind fun x3 => if (v3 : Int32) = 0 then ((xgR h2 v0 (0, 16) 7).bind fun x5 => (xaI h2 x5 10 v2).bind fun x6 => fX0_setQuarrel_j79 (x6 &&& ((1 <<< (v1 &&& 31)) ^^^ (-1))) v2 x3 h2) else ((xgR h2 v0 (0, 16) 7).bind fun x7 => (xaI h2 x7 10 v2).bind fun x8 => fX0_setQuarrel_j79 (x8 ||| (1 <<< (v1 &&& 31))) v2 x3 h2)
def fX0_setQuarrel (v0 : Nat) (v1 : Int32) (v2 : Int32) (v3 : Int32) (h : Hp) : Option (Hp) :=
  (xat h v0 (0, 16) (fX0_hasTwo v0 v1 v2 h)).bind fun x9 => if (x9 : Int32) = 0 then (some h) else ((xgR h v0 (0, 16) 7).bind fun x11 => if (v3 : Int32) = 0 then ((xgR h v0 (0, 16) 7).bind fun x13 => (xaI h x13 10 v1).bind fun x14 => fX0_setQuarrel_j44 v0 v1 v2 v3 (x14 &&& ((1 <<< (v2 &&& 31)) ^^^ (-1))) v1 x11 h) else ((xgR h v0 (0, 16) 7).bind fun x15 => (xaI h x15 10 v1).bind fun x16 => fX0_setQuarrel_j44 v0 v1 v2 v3 (x16 ||| (1 <<< (v2 &&& 31))) v1 x11 h))
abbrev iX0_setQuarrel : xI := (cX0_setQuarrel, yX0_setQuarrel.cls, yX0_setQuarrel.name, none, 4, 4)
set_option maxHeartbeats 4000000 in
set_option maxRecDepth 100000 in
theorem kX0_setQuarrel (l : Launch) (η : xEnv) (v0 : Nat) (v1 : Int32) (v2 : Int32) (v3 : Int32) (h : Hp) (x : Hp) (hx : fX0_setQuarrel v0 v1 v2 v3 h = some x) : xC l η yX0_setQuarrel cX0_setQuarrel 4 none 4 [.ref v0, .int v1, .int v2, .int v3] h none x := by
  refine xC_of (by decide) (Nat.le_of_ble_eq_true rfl) hx (fun κ x => κ.2.2.2.1 = none ∧ κ.2.2.2.2 = x) ⟨rfl, rfl⟩ (fun κ => ?_)
  show xJ iX0_setQuarrel κ _ 0 [(0, .ref v0), (1, .int v1), (2, .int v2), (3, .int v3)] [] h (fX0_setQuarrel v0 v1 v2 v3 h)
  unfold fX0_setQuarrel
  refine j_have (pj := 79) (Lf := fun v : Int32 × Int32 × Nat × Hp => []) (Sf := fun v : Int32 × Int32 × Nat × Hp => [.int v.1, .int v.2.1, .ref v.2.2.1]) (Hf := fun v : Int32 × Int32 × Nat × Hp => v.2.2.2) (jf := fun v : Int32 × Int32 × Nat × Hp => fX0_setQuarrel_j79 v.1 v.2.1 v.2.2.1 v.2.2.2) (fun v => ?_) (fun hj79 => ?_)
  · obtain ⟨t0, t1, t2, h⟩ := v
    show xJ iX0_setQuarrel κ _ 79 [] [.int t0, .int t1, .ref t2] h (fX0_setQuarrel_j79 t0 t1 t2 h)
    unfold fX0_setQuarrel_j79
    refine j_iast dX0_setQuarrel_79 (fun h1 => ?_)
    exact j_vret h1 dX0_setQuarrel_80 rfl (fun q => q)
  refine j_have (pj := 44) (Lf := fun v : Int32 × Int32 × Nat × Hp => [(0, .ref v0), (1, .int v1), (2, .int v2), (3, .int v3)]) (Sf := fun v : Int32 × Int32 × Nat × Hp => [.int v.1, .int v.2.1, .ref v.2.2.1]) (Hf := fun v : Int32 × Int32 × Nat × Hp => v.2.2.2) (jf := fun v : Int32 × Int32 × Nat × Hp => fX0_setQuarrel_j44 v0 v1 v2 v3 v.1 v.2.1 v.2.2.1 v.2.2.2) (fun v => ?_) (fun hj44 => ?_)
  · obtain ⟨t0, t1, t2, h⟩ := v
    show xJ iX0_setQuarrel κ _ 44 [(0, .ref v0), (1, .int v1), (2, .int v2), (3, .int v3)] [.int t0, .int t1, .ref t2] h (fX0_setQuarrel_j44 v0 v1 v2 v3 t0 t1 t2 h)
    unfold fX0_setQuarrel_j44
    refine j_iast dX0_setQuarrel_44 (fun h2 => ?_)
    refine j_aload_n 0 dX0_setQuarrel_45 rfl rfl ?_
    refine j_getR 0 16 7 dX0_setQuarrel_46 fl_RX0_31 (by decide) rfl (by decide) (fun _ _ _ => rfl) (fun x3 => ?_)
    refine j_iload_n 2 dX0_setQuarrel_49 rfl rfl ?_
    refine j_iload_n 3 dX0_setQuarrel_50 rfl rfl ?_
    refine j_if_eq (tgt := 67) dX0_setQuarrel_51 (by decide) (fun c4 => ?_) (fun c4 => ?_)
    · refine j_aload_n 0 dX0_setQuarrel_67 rfl rfl ?_
      refine j_getR 0 16 7 dX0_setQuarrel_68 fl_RX0_31 (by decide) rfl (by decide) (fun _ _ _ => rfl) (fun x5 => ?_)
      refine j_iload_n 2 dX0_setQuarrel_71 rfl rfl ?_
      refine j_iald dX0_setQuarrel_72 (fun x6 => ?_)
      refine j_iconst (x := 1) dX0_setQuarrel_73 (by decide) ?_
      refine j_iload_n 1 dX0_setQuarrel_74 rfl rfl ?_
      refine j_ishl dX0_setQuarrel_75 ?_
      refine j_iconst (x := (-1)) dX0_setQuarrel_76 (by decide) ?_
      refine j_ixor dX0_setQuarrel_77 ?_
      refine j_iand dX0_setQuarrel_78 ?_
      refine j_pick [] rfl ?_
      exact hj79 (x6 &&& ((1 <<< (v1 &&& 31)) ^^^ (-1)), v2, x3, h2)
    · refine j_aload_n 0 dX0_setQuarrel_54 rfl rfl ?_
      refine j_getR 0 16 7 dX0_setQuarrel_55 fl_RX0_31 (by decide) rfl (by decide) (fun _ _ _ => rfl) (fun x7 => ?_)
      refine j_iload_n 2 dX0_setQuarrel_58 rfl rfl ?_
      refine j_iald dX0_setQuarrel_59 (fun x8 => ?_)
      refine j_iconst (x := 1) dX0_setQuarrel_60 (by decide) ?_
      refine j_iload_n 1 dX0_setQuarrel_61 rfl rfl ?_
      refine j_ishl dX0_setQuarrel_62 ?_
      refine j_ior dX0_setQuarrel_63 ?_
      refine j_goto (tgt := 79) dX0_setQuarrel_64 (by decide) ?_
      refine j_pick [] rfl ?_
      exact hj79 (x8 ||| (1 <<< (v1 &&& 31)), v2, x3, h2)
  refine j_aload_n 0 dX0_setQuarrel_0 rfl rfl ?_
  refine j_iload_n 1 dX0_setQuarrel_1 rfl rfl ?_
  refine j_iload_n 2 dX0_setQuarrel_2 rfl rfl ?_
  refine j_callV (as := [.int v1, .int v2]) (fun x => some (.int x)) (fun _ => h) 0 16 dX0_setQuarrel_3 ml_RX0_83 tg_X0_hasTwo im_X0_hasTwo se_X0_hasTwo rfl (by decide) (fun x hx => kX0_hasTwo κ.1 κ.2.1 v0 v1 v2 h x hx) (by decide) (by decide) rfl rfl (Nat.le_of_ble_eq_true rfl) (fun x9 => ?_)
  show xJ iX0_setQuarrel κ _ 6 [(0, .ref v0), (1, .int v1), (2, .int v2), (3, .int v3)] [.int x9] h _
  refine j_if_ne (tgt := 10) dX0_setQuarrel_6 (by decide) (fun c10 => ?_) (fun c10 => ?_)
  · exact j_vret h dX0_setQuarrel_9 rfl (fun q => q)
  · refine j_aload_n 0 dX0_setQuarrel_10 rfl rfl ?_
    refine j_getR 0 16 7 dX0_setQuarrel_11 fl_RX0_31 (by decide) rfl (by decide) (fun _ _ _ => rfl) (fun x11 => ?_)
    refine j_iload_n 1 dX0_setQuarrel_14 rfl rfl ?_
    refine j_iload_n 3 dX0_setQuarrel_15 rfl rfl ?_
    refine j_if_eq (tgt := 32) dX0_setQuarrel_16 (by decide) (fun c12 => ?_) (fun c12 => ?_)
    · refine j_aload_n 0 dX0_setQuarrel_32 rfl rfl ?_
      refine j_getR 0 16 7 dX0_setQuarrel_33 fl_RX0_31 (by decide) rfl (by decide) (fun _ _ _ => rfl) (fun x13 => ?_)
      refine j_iload_n 1 dX0_setQuarrel_36 rfl rfl ?_
      refine j_iald dX0_setQuarrel_37 (fun x14 => ?_)
      refine j_iconst (x := 1) dX0_setQuarrel_38 (by decide) ?_
      refine j_iload_n 2 dX0_setQuarrel_39 rfl rfl ?_
      refine j_ishl dX0_setQuarrel_40 ?_
      refine j_iconst (x := (-1)) dX0_setQuarrel_41 (by decide) ?_
      refine j_ixor dX0_setQuarrel_42 ?_
      refine j_iand dX0_setQuarrel_43 ?_
      refine j_pick [0, 1, 2, 3] rfl ?_
      exact hj44 (x14 &&& ((1 <<< (v2 &&& 31)) ^^^ (-1)), v1, x11, h)
    · refine j_aload_n 0 dX0_setQuarrel_19 rfl rfl ?_
      refine j_getR 0 16 7 dX0_setQuarrel_20 fl_RX0_31 (by decide) rfl (by decide) (fun _ _ _ => rfl) (fun x15 => ?_)
      refine j_iload_n 1 dX0_setQuarrel_23 rfl rfl ?_
      refine j_iald dX0_setQuarrel_24 (fun x16 => ?_)
      refine j_iconst (x := 1) dX0_setQuarrel_25 (by decide) ?_
      refine j_iload_n 2 dX0_setQuarrel_26 rfl rfl ?_
      refine j_ishl dX0_setQuarrel_27 ?_
      refine j_ior dX0_setQuarrel_28 ?_
      refine j_goto (tgt := 44) dX0_setQuarrel_29 (by decide) ?_
      refine j_pick [0, 1, 2, 3] rfl ?_
      exact hj44 (x16 ||| (1 <<< (v2 &&& 31)), v1, x11, h)
def fX8_quarrel_j57 (v0 : Nat) (v4 : Int32) (t0 : Int32) (t1 : Int32) (t2 : Int32) (t3 : Nat) (h : Hp) : Option (Int32 × Hp) :=
  (xat h t3 (0, 16) (fX0_setQuarrel t3 t2 t1 t0 h)).bind fun h1 => (xgR h1 v0 (8, 12) 0).bind fun x2 => (xpI h1 x2 (0, 16) 15 0).bind fun h3 => some (v4, h3)
def fX8_quarrel_j21 (v0 : Nat) (h : Hp) : Option (Int32 × Hp) :=
  (xat h v0 (8, 12) (fX8_refuseBad v0 h)).bind fun q4 => some (q4.1, q4.2)
def fX8_quarrel (v0 : Nat) (v1 : Int32) (v2 : Int32) (v3 : Int32) (h : Hp) : Option (Int32 × Hp) :=
  (xgR h v0 (8, 12) 0).bind fun x5 => (xat h x5 (0, 16) (fX0_hasTwo x5 v1 v2 h)).bind fun x6 => if (x6 : Int32) = 0 then (fX8_quarrel_j21 v0 h) else ((fX8_within v3 0 1 h).bind fun x8 => if (x8 : Int32) = 0 then (fX8_quarrel_j21 v0 h) else ((xgR h v0 (8, 12) 0).bind fun x10 => (xgR h x10 (0, 16) 7).bind fun x11 => (xaI h x11 10 v1).bind fun x12 => (fX8_bit x12 v2 h).bind fun x13 => (xgR h v0 (8, 12) 0).bind fun x14 => if (v3 : Int32) = 1 then (fX8_quarrel_j57 v0 x13 1 v2 v1 x14 h) else (fX8_quarrel_j57 v0 x13 0 v2 v1 x14 h)))
abbrev iX8_quarrel : xI := (cX8_quarrel, yX8_quarrel.cls, yX8_quarrel.name, some .int, 5, 5)
set_option maxHeartbeats 4000000 in
set_option maxRecDepth 100000 in
theorem kX8_quarrel (l : Launch) (η : xEnv) (v0 : Nat) (v1 : Int32) (v2 : Int32) (v3 : Int32) (h : Hp) (x : Int32 × Hp) (hx : fX8_quarrel v0 v1 v2 v3 h = some x) : xC l η yX8_quarrel cX8_quarrel 5 (some .int) 5 [.ref v0, .int v1, .int v2, .int v3] h (some (.int x.1)) x.2 := by
  refine xC_of (by decide) (Nat.le_of_ble_eq_true rfl) hx (fun κ x => κ.2.2.2.1 = some (.int x.1) ∧ κ.2.2.2.2 = x.2) ⟨rfl, rfl⟩ (fun κ => ?_)
  show xJ iX8_quarrel κ _ 0 [(0, .ref v0), (1, .int v1), (2, .int v2), (3, .int v3)] [] h (fX8_quarrel v0 v1 v2 v3 h)
  unfold fX8_quarrel
  refine j_have (pj := 57) (Lf := fun v : Int32 × Int32 × Int32 × Int32 × Nat × Hp => [(0, .ref v0), (4, .int v.1)]) (Sf := fun v : Int32 × Int32 × Int32 × Int32 × Nat × Hp => [.int v.2.1, .int v.2.2.1, .int v.2.2.2.1, .ref v.2.2.2.2.1]) (Hf := fun v : Int32 × Int32 × Int32 × Int32 × Nat × Hp => v.2.2.2.2.2) (jf := fun v : Int32 × Int32 × Int32 × Int32 × Nat × Hp => fX8_quarrel_j57 v0 v.1 v.2.1 v.2.2.1 v.2.2.2.1 v.2.2.2.2.1 v.2.2.2.2.2) (fun v => ?_) (fun hj57 => ?_)
  · obtain ⟨v4, t0, t1, t2, t3, h⟩ := v
    show xJ iX8_quarrel κ _ 57 [(0, .ref v0), (4, .int v4)] [.int t0, .int t1, .int t2, .ref t3] h (fX8_quarrel_j57 v0 v4 t0 t1 t2 t3 h)
    unfold fX8_quarrel_j57
    refine j_callV (as := [.int t2, .int t1, .int t0]) (fun _ => none) (fun x => x) 0 16 dX8_quarrel_57 ml_RX8_109 tg_X0_setQuarrel im_X0_setQuarrel se_X0_setQuarrel rfl (by decide) (fun x hx => kX0_setQuarrel κ.1 κ.2.1 t3 t2 t1 t0 h x hx) (by decide) (by decide) rfl rfl (Nat.le_of_ble_eq_true rfl) (fun h1 => ?_)
    show xJ iX8_quarrel κ _ 60 [(0, .ref v0), (4, .int v4)] [] h1 _
    refine j_aload_n 0 dX8_quarrel_60 rfl rfl ?_
    refine j_getR 8 12 0 dX8_quarrel_61 fl_RX8_12 (by decide) rfl (by decide) (fun _ _ _ => rfl) (fun x2 => ?_)
    refine j_iconst (x := 0) dX8_quarrel_64 (by decide) ?_
    refine j_putI 0 16 15 dX8_quarrel_65 fl_RX8_84 (by decide) rfl (by decide) rfl rfl (fun h3 => ?_)
    refine j_iload 1 dX8_quarrel_68 rfl ?_
    exact j_iret (v4, h3) dX8_quarrel_70 rfl (fun q => q)
  refine j_have (pj := 21) (Lf := fun v : Hp => [(0, .ref v0)]) (Sf := fun v : Hp => []) (Hf := fun v : Hp => v) (jf := fun v : Hp => fX8_quarrel_j21 v0 v) (fun v => ?_) (fun hj21 => ?_)
  · generalize v = h
    show xJ iX8_quarrel κ _ 21 [(0, .ref v0)] [] h (fX8_quarrel_j21 v0 h)
    unfold fX8_quarrel_j21
    refine j_aload_n 0 dX8_quarrel_21 rfl rfl ?_
    refine j_callV (as := []) (fun x => some (.int x.1)) (fun x => x.2) 8 12 dX8_quarrel_22 ml_RX8_70 tg_X8_refuseBad im_X8_refuseBad se_X8_refuseBad rfl (by decide) (fun x hx => kX8_refuseBad κ.1 κ.2.1 v0 h x hx) (by decide) (by decide) rfl rfl (Nat.le_of_ble_eq_true rfl) (fun q4 => ?_)
    show xJ iX8_quarrel κ _ 25 [(0, .ref v0)] [.int q4.1] q4.2 _
    exact j_iret (q4.1, q4.2) dX8_quarrel_25 rfl (fun q => q)
  refine j_aload_n 0 dX8_quarrel_0 rfl rfl ?_
  refine j_getR 8 12 0 dX8_quarrel_1 fl_RX8_12 (by decide) rfl (by decide) (fun _ _ _ => rfl) (fun x5 => ?_)
  refine j_iload_n 1 dX8_quarrel_4 rfl rfl ?_
  refine j_iload_n 2 dX8_quarrel_5 rfl rfl ?_
  refine j_callV (as := [.int v1, .int v2]) (fun x => some (.int x)) (fun _ => h) 0 16 dX8_quarrel_6 ml_RX8_98 tg_X0_hasTwo im_X0_hasTwo se_X0_hasTwo rfl (by decide) (fun x hx => kX0_hasTwo κ.1 κ.2.1 x5 v1 v2 h x hx) (by decide) (by decide) rfl rfl (Nat.le_of_ble_eq_true rfl) (fun x6 => ?_)
  show xJ iX8_quarrel κ _ 9 [(0, .ref v0), (1, .int v1), (2, .int v2), (3, .int v3)] [.int x6] h _
  refine j_if_eq (tgt := 21) dX8_quarrel_9 (by decide) (fun c7 => ?_) (fun c7 => ?_)
  · refine j_pick [0] rfl ?_
    exact hj21 h
  · refine j_iload_n 3 dX8_quarrel_12 rfl rfl ?_
    refine j_iconst (x := 0) dX8_quarrel_13 (by decide) ?_
    refine j_iconst (x := 1) dX8_quarrel_14 (by decide) ?_
    refine j_callS (as := [.int v3, .int 0, .int 1]) (fun x => some (.int x)) (fun _ => h) dX8_quarrel_15 ml_RX8_66 tg_X8_within st_X8_within (fun x hx => kX8_within κ.1 κ.2.1 v3 0 1 h x hx) (by decide) (by decide) rfl rfl (Nat.le_of_ble_eq_true rfl) (fun x8 => ?_)
    show xJ iX8_quarrel κ _ 18 [(0, .ref v0), (1, .int v1), (2, .int v2), (3, .int v3)] [.int x8] h _
    refine j_if_ne (tgt := 26) dX8_quarrel_18 (by decide) (fun c9 => ?_) (fun c9 => ?_)
    · refine j_pick [0] rfl ?_
      exact hj21 h
    · refine j_aload_n 0 dX8_quarrel_26 rfl rfl ?_
      refine j_getR 8 12 0 dX8_quarrel_27 fl_RX8_12 (by decide) rfl (by decide) (fun _ _ _ => rfl) (fun x10 => ?_)
      refine j_getR 0 16 7 dX8_quarrel_30 fl_RX8_102 (by decide) rfl (by decide) (fun _ _ _ => rfl) (fun x11 => ?_)
      refine j_iload_n 1 dX8_quarrel_33 rfl rfl ?_
      refine j_iald dX8_quarrel_34 (fun x12 => ?_)
      refine j_iload_n 2 dX8_quarrel_35 rfl rfl ?_
      refine j_callS (as := [.int x12, .int v2]) (fun x => some (.int x)) (fun _ => h) dX8_quarrel_36 ml_RX8_105 tg_X8_bit st_X8_bit (fun x hx => kX8_bit κ.1 κ.2.1 x12 v2 h x hx) (by decide) (by decide) rfl rfl (Nat.le_of_ble_eq_true rfl) (fun x13 => ?_)
      show xJ iX8_quarrel κ _ 39 [(0, .ref v0), (1, .int v1), (2, .int v2), (3, .int v3)] [.int x13] h _
      refine j_istore (L' := [(4, .int x13), (0, .ref v0), (1, .int v1), (2, .int v2), (3, .int v3)]) dX8_quarrel_39 (Nat.le_of_ble_eq_true rfl) rfl ?_
      refine j_aload_n 1 dX8_quarrel_41 rfl rfl ?_
      refine j_getR 8 12 0 dX8_quarrel_42 fl_RX8_12 (by decide) rfl (by decide) (fun _ _ _ => rfl) (fun x14 => ?_)
      refine j_iload_n 2 dX8_quarrel_45 rfl rfl ?_
      refine j_iload_n 3 dX8_quarrel_46 rfl rfl ?_
      refine j_iload_n 4 dX8_quarrel_47 rfl rfl ?_
      refine j_iconst (x := 1) dX8_quarrel_48 (by decide) ?_
      refine j_icmp_ne (tgt := 56) dX8_quarrel_49 (by decide) (fun c15 => ?_) (fun c15 => ?_)
      · refine j_iconst (x := 1) dX8_quarrel_52 (by decide) ?_
        refine j_goto (tgt := 57) dX8_quarrel_53 (by decide) ?_
        refine j_pick [1, 0] rfl ?_
        exact hj57 (x13, 1, v2, v1, x14, h)
      · refine j_iconst (x := 0) dX8_quarrel_56 (by decide) ?_
        refine j_pick [1, 0] rfl ?_
        exact hj57 (x13, 0, v2, v1, x14, h)
def fX9_isIdea (v0 : Nat) (v1 : Int32) (h : Hp) : Option (Int32) :=
  (xat h v0 (9, 18) (fX9_many v0 h)).bind fun x1 => (fX9_in ((v1 : Int32).toInt64) 0 (((x1 - 1) : Int32).toInt64) h).bind fun x2 => if vp_nar .boolean x2 = x2 then some x2 else none
abbrev iX9_isIdea : xI := (cX9_isIdea, yX9_isIdea.cls, yX9_isIdea.name, some .boolean, 2, 3)
set_option maxHeartbeats 4000000 in
set_option maxRecDepth 100000 in
theorem kX9_isIdea (l : Launch) (η : xEnv) (v0 : Nat) (v1 : Int32) (h : Hp) (x : Int32) (hx : fX9_isIdea v0 v1 h = some x) : xC l η yX9_isIdea cX9_isIdea 2 (some .boolean) 3 [.ref v0, .int v1] h (some (.int x)) h := by
  refine xC_of (by decide) (Nat.le_of_ble_eq_true rfl) hx (fun κ x => κ.2.2.2.1 = some (.int x) ∧ κ.2.2.2.2 = h) ⟨rfl, rfl⟩ (fun κ => ?_)
  show xJ iX9_isIdea κ _ 0 [(0, .ref v0), (1, .int v1)] [] h (fX9_isIdea v0 v1 h)
  unfold fX9_isIdea
  refine j_iload_n 1 dX9_isIdea_0 rfl rfl ?_
  refine j_i2l dX9_isIdea_1 ?_
  refine j_lconst (x := 0) dX9_isIdea_2 (by decide) ?_
  refine j_aload_n 0 dX9_isIdea_3 rfl rfl ?_
  refine j_callV (as := []) (fun x => some (.int x)) (fun _ => h) 9 18 dX9_isIdea_4 ml_RX9_52 tg_X9_many im_X9_many se_X9_many rfl (by decide) (fun x hx => kX9_many κ.1 κ.2.1 v0 h x hx) (by decide) (by decide) rfl rfl (Nat.le_of_ble_eq_true rfl) (fun x1 => ?_)
  show xJ iX9_isIdea κ _ 7 [(0, .ref v0), (1, .int v1)] [.int x1, .long 0, .long ((v1 : Int32).toInt64)] h _
  refine j_iconst (x := 1) dX9_isIdea_7 (by decide) ?_
  refine j_isub dX9_isIdea_8 ?_
  refine j_i2l dX9_isIdea_9 ?_
  refine j_callS (as := [.long ((v1 : Int32).toInt64), .long 0, .long (((x1 - 1) : Int32).toInt64)]) (fun x => some (.int x)) (fun _ => h) dX9_isIdea_10 ml_RX9_56 tg_X9_in st_X9_in (fun x hx => kX9_in κ.1 κ.2.1 ((v1 : Int32).toInt64) 0 (((x1 - 1) : Int32).toInt64) h x hx) (by decide) (by decide) rfl rfl (Nat.le_of_ble_eq_true rfl) (fun x2 => ?_)
  show xJ iX9_isIdea κ _ 13 [(0, .ref v0), (1, .int v1)] [.int x2] h _
  exact j_zretc x2 dX9_isIdea_13 rfl (fun q => q)
def fX9_layFoes_j69 (t0 : Int32) (t1 : Int32) (t2 : Nat) (h : Hp) : Option (Hp) :=
  (xsI h t2 t1 t0).bind fun h1 => some h1
def fX9_layFoes_j34 (v0 : Nat) (v1 : Int32) (v2 : Int32) (v3 : Int32) (t0 : Int32) (t1 : Int32) (t2 : Nat) (h : Hp) : Option (Hp) :=
  (xsI h t2 t1 t0).bind fun h2 => if (v3 : Int32) = 0 then ((xaI h2 v0 10 (47 + v2)).bind fun x4 => fX9_layFoes_j69 (x4 &&& ((1 <<< (v1 &&& 31)) ^^^ (-1))) (47 + v2) v0 h2) else ((xaI h2 v0 10 (47 + v2)).bind fun x5 => fX9_layFoes_j69 (x5 ||| (1 <<< (v1 &&& 31))) (47 + v2) v0 h2)
def fX9_layFoes (v0 : Nat) (v1 : Int32) (v2 : Int32) (v3 : Int32) (h : Hp) : Option (Hp) :=
  if (v3 : Int32) = 0 then ((xaI h v0 10 (47 + v1)).bind fun x7 => fX9_layFoes_j34 v0 v1 v2 v3 (x7 &&& ((1 <<< (v2 &&& 31)) ^^^ (-1))) (47 + v1) v0 h) else ((xaI h v0 10 (47 + v1)).bind fun x8 => fX9_layFoes_j34 v0 v1 v2 v3 (x8 ||| (1 <<< (v2 &&& 31))) (47 + v1) v0 h)
abbrev iX9_layFoes : xI := (cX9_layFoes, yX9_layFoes.cls, yX9_layFoes.name, none, 4, 2)
set_option maxHeartbeats 4000000 in
set_option maxRecDepth 100000 in
theorem kX9_layFoes (l : Launch) (η : xEnv) (v0 : Nat) (v1 : Int32) (v2 : Int32) (v3 : Int32) (h : Hp) (x : Hp) (hx : fX9_layFoes v0 v1 v2 v3 h = some x) : xC l η yX9_layFoes cX9_layFoes 4 none 2 [.ref v0, .int v1, .int v2, .int v3] h none x := by
  refine xC_of (by decide) (Nat.le_of_ble_eq_true rfl) hx (fun κ x => κ.2.2.2.1 = none ∧ κ.2.2.2.2 = x) ⟨rfl, rfl⟩ (fun κ => ?_)
  show xJ iX9_layFoes κ _ 0 [(0, .ref v0), (1, .int v1), (2, .int v2), (3, .int v3)] [] h (fX9_layFoes v0 v1 v2 v3 h)
  unfold fX9_layFoes
  refine j_have (pj := 69) (Lf := fun v : Int32 × Int32 × Nat × Hp => []) (Sf := fun v : Int32 × Int32 × Nat × Hp => [.int v.1, .int v.2.1, .ref v.2.2.1]) (Hf := fun v : Int32 × Int32 × Nat × Hp => v.2.2.2) (jf := fun v : Int32 × Int32 × Nat × Hp => fX9_layFoes_j69 v.1 v.2.1 v.2.2.1 v.2.2.2) (fun v => ?_) (fun hj69 => ?_)
  · obtain ⟨t0, t1, t2, h⟩ := v
    show xJ iX9_layFoes κ _ 69 [] [.int t0, .int t1, .ref t2] h (fX9_layFoes_j69 t0 t1 t2 h)
    unfold fX9_layFoes_j69
    refine j_iast dX9_layFoes_69 (fun h1 => ?_)
    exact j_vret h1 dX9_layFoes_70 rfl (fun q => q)
  refine j_have (pj := 34) (Lf := fun v : Int32 × Int32 × Nat × Hp => [(0, .ref v0), (1, .int v1), (2, .int v2), (3, .int v3)]) (Sf := fun v : Int32 × Int32 × Nat × Hp => [.int v.1, .int v.2.1, .ref v.2.2.1]) (Hf := fun v : Int32 × Int32 × Nat × Hp => v.2.2.2) (jf := fun v : Int32 × Int32 × Nat × Hp => fX9_layFoes_j34 v0 v1 v2 v3 v.1 v.2.1 v.2.2.1 v.2.2.2) (fun v => ?_) (fun hj34 => ?_)
  · obtain ⟨t0, t1, t2, h⟩ := v
    show xJ iX9_layFoes κ _ 34 [(0, .ref v0), (1, .int v1), (2, .int v2), (3, .int v3)] [.int t0, .int t1, .ref t2] h (fX9_layFoes_j34 v0 v1 v2 v3 t0 t1 t2 h)
    unfold fX9_layFoes_j34
    refine j_iast dX9_layFoes_34 (fun h2 => ?_)
    refine j_aload_n 0 dX9_layFoes_35 rfl rfl ?_
    refine j_bipush (x := 47) dX9_layFoes_36 (by decide) ?_
    refine j_iload_n 2 dX9_layFoes_38 rfl rfl ?_
    refine j_iadd dX9_layFoes_39 ?_
    refine j_iload_n 3 dX9_layFoes_40 rfl rfl ?_
    refine j_if_eq (tgt := 57) dX9_layFoes_41 (by decide) (fun c3 => ?_) (fun c3 => ?_)
    · refine j_aload_n 0 dX9_layFoes_57 rfl rfl ?_
      refine j_bipush (x := 47) dX9_layFoes_58 (by decide) ?_
      refine j_iload_n 2 dX9_layFoes_60 rfl rfl ?_
      refine j_iadd dX9_layFoes_61 ?_
      refine j_iald dX9_layFoes_62 (fun x4 => ?_)
      refine j_iconst (x := 1) dX9_layFoes_63 (by decide) ?_
      refine j_iload_n 1 dX9_layFoes_64 rfl rfl ?_
      refine j_ishl dX9_layFoes_65 ?_
      refine j_iconst (x := (-1)) dX9_layFoes_66 (by decide) ?_
      refine j_ixor dX9_layFoes_67 ?_
      refine j_iand dX9_layFoes_68 ?_
      refine j_pick [] rfl ?_
      exact hj69 (x4 &&& ((1 <<< (v1 &&& 31)) ^^^ (-1)), 47 + v2, v0, h2)
    · refine j_aload_n 0 dX9_layFoes_44 rfl rfl ?_
      refine j_bipush (x := 47) dX9_layFoes_45 (by decide) ?_
      refine j_iload_n 2 dX9_layFoes_47 rfl rfl ?_
      refine j_iadd dX9_layFoes_48 ?_
      refine j_iald dX9_layFoes_49 (fun x5 => ?_)
      refine j_iconst (x := 1) dX9_layFoes_50 (by decide) ?_
      refine j_iload_n 1 dX9_layFoes_51 rfl rfl ?_
      refine j_ishl dX9_layFoes_52 ?_
      refine j_ior dX9_layFoes_53 ?_
      refine j_goto (tgt := 69) dX9_layFoes_54 (by decide) ?_
      refine j_pick [] rfl ?_
      exact hj69 (x5 ||| (1 <<< (v1 &&& 31)), 47 + v2, v0, h2)
  refine j_aload_n 0 dX9_layFoes_0 rfl rfl ?_
  refine j_bipush (x := 47) dX9_layFoes_1 (by decide) ?_
  refine j_iload_n 1 dX9_layFoes_3 rfl rfl ?_
  refine j_iadd dX9_layFoes_4 ?_
  refine j_iload_n 3 dX9_layFoes_5 rfl rfl ?_
  refine j_if_eq (tgt := 22) dX9_layFoes_6 (by decide) (fun c6 => ?_) (fun c6 => ?_)
  · refine j_aload_n 0 dX9_layFoes_22 rfl rfl ?_
    refine j_bipush (x := 47) dX9_layFoes_23 (by decide) ?_
    refine j_iload_n 1 dX9_layFoes_25 rfl rfl ?_
    refine j_iadd dX9_layFoes_26 ?_
    refine j_iald dX9_layFoes_27 (fun x7 => ?_)
    refine j_iconst (x := 1) dX9_layFoes_28 (by decide) ?_
    refine j_iload_n 2 dX9_layFoes_29 rfl rfl ?_
    refine j_ishl dX9_layFoes_30 ?_
    refine j_iconst (x := (-1)) dX9_layFoes_31 (by decide) ?_
    refine j_ixor dX9_layFoes_32 ?_
    refine j_iand dX9_layFoes_33 ?_
    refine j_pick [0, 1, 2, 3] rfl ?_
    exact hj34 (x7 &&& ((1 <<< (v2 &&& 31)) ^^^ (-1)), 47 + v1, v0, h)
  · refine j_aload_n 0 dX9_layFoes_9 rfl rfl ?_
    refine j_bipush (x := 47) dX9_layFoes_10 (by decide) ?_
    refine j_iload_n 1 dX9_layFoes_12 rfl rfl ?_
    refine j_iadd dX9_layFoes_13 ?_
    refine j_iald dX9_layFoes_14 (fun x8 => ?_)
    refine j_iconst (x := 1) dX9_layFoes_15 (by decide) ?_
    refine j_iload_n 2 dX9_layFoes_16 rfl rfl ?_
    refine j_ishl dX9_layFoes_17 ?_
    refine j_ior dX9_layFoes_18 ?_
    refine j_goto (tgt := 34) dX9_layFoes_19 (by decide) ?_
    refine j_pick [0, 1, 2, 3] rfl ?_
    exact hj34 (x8 ||| (1 <<< (v2 &&& 31)), 47 + v1, v0, h)
def fX9_quarrel_j69 (v0 : Nat) (v4 : Int32) (t0 : Int32) (t1 : Int32) (t2 : Int32) (t3 : Nat) (h : Hp) : Option (Int32 × Hp) :=
  (fX9_layFoes t3 t2 t1 t0 h).bind fun h1 => (xgR h1 v0 (9, 18) 0).bind fun x2 => (xsI h1 x2 2 0).bind fun h3 => some (v4, h3)
def fX9_quarrel_j31 (v0 : Nat) (h : Hp) : Option (Int32 × Hp) :=
  (xat h v0 (9, 18) (fX9_bad v0 (-2) h)).bind fun q4 => some (q4.1, q4.2)
def fX9_quarrel (v0 : Nat) (v1 : Int32) (v2 : Int32) (v3 : Int32) (h : Hp) : Option (Int32 × Hp) :=
  (xat h v0 (9, 18) (fX9_isIdea v0 v1 h)).bind fun x5 => if (x5 : Int32) = 0 then (fX9_quarrel_j31 v0 h) else ((xat h v0 (9, 18) (fX9_isIdea v0 v2 h)).bind fun x7 => if (x7 : Int32) = 0 then (fX9_quarrel_j31 v0 h) else (if (v1 : Int32) = v2 then (fX9_quarrel_j31 v0 h) else ((fX9_in ((v3 : Int32).toInt64) 0 1 h).bind fun x10 => if (x10 : Int32) = 0 then (fX9_quarrel_j31 v0 h) else ((xgR h v0 (9, 18) 0).bind fun x12 => (xaI h x12 10 (47 + v1)).bind fun x13 => (xgR h v0 (9, 18) 0).bind fun x14 => if (v3 : Int32) = 1 then (fX9_quarrel_j69 v0 ((x13 >>> (v2 &&& 31)) &&& 1) 1 v2 v1 x14 h) else (fX9_quarrel_j69 v0 ((x13 >>> (v2 &&& 31)) &&& 1) 0 v2 v1 x14 h)))))
abbrev iX9_quarrel : xI := (cX9_quarrel, yX9_quarrel.cls, yX9_quarrel.name, some .int, 5, 4)
set_option maxHeartbeats 4000000 in
set_option maxRecDepth 100000 in
theorem kX9_quarrel (l : Launch) (η : xEnv) (v0 : Nat) (v1 : Int32) (v2 : Int32) (v3 : Int32) (h : Hp) (x : Int32 × Hp) (hx : fX9_quarrel v0 v1 v2 v3 h = some x) : xC l η yX9_quarrel cX9_quarrel 5 (some .int) 4 [.ref v0, .int v1, .int v2, .int v3] h (some (.int x.1)) x.2 := by
  refine xC_of (by decide) (Nat.le_of_ble_eq_true rfl) hx (fun κ x => κ.2.2.2.1 = some (.int x.1) ∧ κ.2.2.2.2 = x.2) ⟨rfl, rfl⟩ (fun κ => ?_)
  show xJ iX9_quarrel κ _ 0 [(0, .ref v0), (1, .int v1), (2, .int v2), (3, .int v3)] [] h (fX9_quarrel v0 v1 v2 v3 h)
  unfold fX9_quarrel
  refine j_have (pj := 69) (Lf := fun v : Int32 × Int32 × Int32 × Int32 × Nat × Hp => [(0, .ref v0), (4, .int v.1)]) (Sf := fun v : Int32 × Int32 × Int32 × Int32 × Nat × Hp => [.int v.2.1, .int v.2.2.1, .int v.2.2.2.1, .ref v.2.2.2.2.1]) (Hf := fun v : Int32 × Int32 × Int32 × Int32 × Nat × Hp => v.2.2.2.2.2) (jf := fun v : Int32 × Int32 × Int32 × Int32 × Nat × Hp => fX9_quarrel_j69 v0 v.1 v.2.1 v.2.2.1 v.2.2.2.1 v.2.2.2.2.1 v.2.2.2.2.2) (fun v => ?_) (fun hj69 => ?_)
  · obtain ⟨v4, t0, t1, t2, t3, h⟩ := v
    show xJ iX9_quarrel κ _ 69 [(0, .ref v0), (4, .int v4)] [.int t0, .int t1, .int t2, .ref t3] h (fX9_quarrel_j69 v0 v4 t0 t1 t2 t3 h)
    unfold fX9_quarrel_j69
    refine j_callS (as := [.ref t3, .int t2, .int t1, .int t0]) (fun _ => none) (fun x => x) dX9_quarrel_69 ml_RX9_86 tg_X9_layFoes st_X9_layFoes (fun x hx => kX9_layFoes κ.1 κ.2.1 t3 t2 t1 t0 h x hx) (by decide) (by decide) rfl rfl (Nat.le_of_ble_eq_true rfl) (fun h1 => ?_)
    show xJ iX9_quarrel κ _ 72 [(0, .ref v0), (4, .int v4)] [] h1 _
    refine j_aload_n 0 dX9_quarrel_72 rfl rfl ?_
    refine j_getR 9 18 0 dX9_quarrel_73 fl_RX9_7 (by decide) rfl (by decide) (fun _ _ _ => rfl) (fun x2 => ?_)
    refine j_iconst (x := 2) dX9_quarrel_76 (by decide) ?_
    refine j_iconst (x := 0) dX9_quarrel_77 (by decide) ?_
    refine j_iast dX9_quarrel_78 (fun h3 => ?_)
    refine j_iload 1 dX9_quarrel_79 rfl ?_
    exact j_iret (v4, h3) dX9_quarrel_81 rfl (fun q => q)
  refine j_have (pj := 31) (Lf := fun v : Hp => [(0, .ref v0)]) (Sf := fun v : Hp => []) (Hf := fun v : Hp => v) (jf := fun v : Hp => fX9_quarrel_j31 v0 v) (fun v => ?_) (fun hj31 => ?_)
  · generalize v = h
    show xJ iX9_quarrel κ _ 31 [(0, .ref v0)] [] h (fX9_quarrel_j31 v0 h)
    unfold fX9_quarrel_j31
    refine j_aload_n 0 dX9_quarrel_31 rfl rfl ?_
    refine j_bipush (x := (-2)) dX9_quarrel_32 (by decide) ?_
    refine j_callV (as := [.int (-2)]) (fun x => some (.int x.1)) (fun x => x.2) 9 18 dX9_quarrel_34 ml_RX9_64 tg_X9_bad im_X9_bad se_X9_bad rfl (by decide) (fun x hx => kX9_bad κ.1 κ.2.1 v0 (-2) h x hx) (by decide) (by decide) rfl rfl (Nat.le_of_ble_eq_true rfl) (fun q4 => ?_)
    show xJ iX9_quarrel κ _ 37 [(0, .ref v0)] [.int q4.1] q4.2 _
    exact j_iret (q4.1, q4.2) dX9_quarrel_37 rfl (fun q => q)
  refine j_aload_n 0 dX9_quarrel_0 rfl rfl ?_
  refine j_iload_n 1 dX9_quarrel_1 rfl rfl ?_
  refine j_callV (as := [.int v1]) (fun x => some (.int x)) (fun _ => h) 9 18 dX9_quarrel_2 ml_RX9_83 tg_X9_isIdea im_X9_isIdea se_X9_isIdea rfl (by decide) (fun x hx => kX9_isIdea κ.1 κ.2.1 v0 v1 h x hx) (by decide) (by decide) rfl rfl (Nat.le_of_ble_eq_true rfl) (fun x5 => ?_)
  show xJ iX9_quarrel κ _ 5 [(0, .ref v0), (1, .int v1), (2, .int v2), (3, .int v3)] [.int x5] h _
  refine j_if_eq (tgt := 31) dX9_quarrel_5 (by decide) (fun c6 => ?_) (fun c6 => ?_)
  · refine j_pick [0] rfl ?_
    exact hj31 h
  · refine j_aload_n 0 dX9_quarrel_8 rfl rfl ?_
    refine j_iload_n 2 dX9_quarrel_9 rfl rfl ?_
    refine j_callV (as := [.int v2]) (fun x => some (.int x)) (fun _ => h) 9 18 dX9_quarrel_10 ml_RX9_83 tg_X9_isIdea im_X9_isIdea se_X9_isIdea rfl (by decide) (fun x hx => kX9_isIdea κ.1 κ.2.1 v0 v2 h x hx) (by decide) (by decide) rfl rfl (Nat.le_of_ble_eq_true rfl) (fun x7 => ?_)
    show xJ iX9_quarrel κ _ 13 [(0, .ref v0), (1, .int v1), (2, .int v2), (3, .int v3)] [.int x7] h _
    refine j_if_eq (tgt := 31) dX9_quarrel_13 (by decide) (fun c8 => ?_) (fun c8 => ?_)
    · refine j_pick [0] rfl ?_
      exact hj31 h
    · refine j_iload_n 1 dX9_quarrel_16 rfl rfl ?_
      refine j_iload_n 2 dX9_quarrel_17 rfl rfl ?_
      refine j_icmp_eq (tgt := 31) dX9_quarrel_18 (by decide) (fun c9 => ?_) (fun c9 => ?_)
      · refine j_pick [0] rfl ?_
        exact hj31 h
      · refine j_iload_n 3 dX9_quarrel_21 rfl rfl ?_
        refine j_i2l dX9_quarrel_22 ?_
        refine j_lconst (x := 0) dX9_quarrel_23 (by decide) ?_
        refine j_lconst (x := 1) dX9_quarrel_24 (by decide) ?_
        refine j_callS (as := [.long ((v3 : Int32).toInt64), .long 0, .long 1]) (fun x => some (.int x)) (fun _ => h) dX9_quarrel_25 ml_RX9_56 tg_X9_in st_X9_in (fun x hx => kX9_in κ.1 κ.2.1 ((v3 : Int32).toInt64) 0 1 h x hx) (by decide) (by decide) rfl rfl (Nat.le_of_ble_eq_true rfl) (fun x10 => ?_)
        show xJ iX9_quarrel κ _ 28 [(0, .ref v0), (1, .int v1), (2, .int v2), (3, .int v3)] [.int x10] h _
        refine j_if_ne (tgt := 38) dX9_quarrel_28 (by decide) (fun c11 => ?_) (fun c11 => ?_)
        · refine j_pick [0] rfl ?_
          exact hj31 h
        · refine j_aload_n 0 dX9_quarrel_38 rfl rfl ?_
          refine j_getR 9 18 0 dX9_quarrel_39 fl_RX9_7 (by decide) rfl (by decide) (fun _ _ _ => rfl) (fun x12 => ?_)
          refine j_bipush (x := 47) dX9_quarrel_42 (by decide) ?_
          refine j_iload_n 1 dX9_quarrel_44 rfl rfl ?_
          refine j_iadd dX9_quarrel_45 ?_
          refine j_iald dX9_quarrel_46 (fun x13 => ?_)
          refine j_iload_n 2 dX9_quarrel_47 rfl rfl ?_
          refine j_ishr dX9_quarrel_48 ?_
          refine j_iconst (x := 1) dX9_quarrel_49 (by decide) ?_
          refine j_iand dX9_quarrel_50 ?_
          refine j_istore (L' := [(4, .int ((x13 >>> (v2 &&& 31)) &&& 1)), (0, .ref v0), (1, .int v1), (2, .int v2), (3, .int v3)]) dX9_quarrel_51 (Nat.le_of_ble_eq_true rfl) rfl ?_
          refine j_aload_n 1 dX9_quarrel_53 rfl rfl ?_
          refine j_getR 9 18 0 dX9_quarrel_54 fl_RX9_7 (by decide) rfl (by decide) (fun _ _ _ => rfl) (fun x14 => ?_)
          refine j_iload_n 2 dX9_quarrel_57 rfl rfl ?_
          refine j_iload_n 3 dX9_quarrel_58 rfl rfl ?_
          refine j_iload_n 4 dX9_quarrel_59 rfl rfl ?_
          refine j_iconst (x := 1) dX9_quarrel_60 (by decide) ?_
          refine j_icmp_ne (tgt := 68) dX9_quarrel_61 (by decide) (fun c15 => ?_) (fun c15 => ?_)
          · refine j_iconst (x := 1) dX9_quarrel_64 (by decide) ?_
            refine j_goto (tgt := 69) dX9_quarrel_65 (by decide) ?_
            refine j_pick [1, 0] rfl ?_
            exact hj69 ((x13 >>> (v2 &&& 31)) &&& 1, 1, v2, v1, x14, h)
          · refine j_iconst (x := 0) dX9_quarrel_68 (by decide) ?_
            refine j_pick [1, 0] rfl ?_
            exact hj69 ((x13 >>> (v2 &&& 31)) &&& 1, 0, v2, v1, x14, h)
def fX4_addByte (v0 : Nat) (v1 : Int32) (h : Hp) : Option (Hp) :=
  (xgI h v0 (4, 8) 1).bind fun x1 => if (x1 : Int32) < 150 then ((xgR h v0 (4, 8) 0).bind fun x3 => (xgI h v0 (4, 8) 1).bind fun x4 => (xsI h x3 x4 v1).bind fun h5 => (xgI h5 v0 (4, 8) 1).bind fun x6 => (xpI h5 v0 (4, 8) 1 (x6 + 1)).bind fun h7 => some h7) else (some h)
abbrev iX4_addByte : xI := (cX4_addByte, yX4_addByte.cls, yX4_addByte.name, none, 2, 2)
set_option maxHeartbeats 4000000 in
set_option maxRecDepth 100000 in
theorem kX4_addByte (l : Launch) (η : xEnv) (v0 : Nat) (v1 : Int32) (h : Hp) (x : Hp) (hx : fX4_addByte v0 v1 h = some x) : xC l η yX4_addByte cX4_addByte 2 none 2 [.ref v0, .int v1] h none x := by
  refine xC_of (by decide) (Nat.le_of_ble_eq_true rfl) hx (fun κ x => κ.2.2.2.1 = none ∧ κ.2.2.2.2 = x) ⟨rfl, rfl⟩ (fun κ => ?_)
  show xJ iX4_addByte κ _ 0 [(0, .ref v0), (1, .int v1)] [] h (fX4_addByte v0 v1 h)
  unfold fX4_addByte
  refine j_aload_n 0 dX4_addByte_0 rfl rfl ?_
  refine j_getI 4 8 1 dX4_addByte_1 fl_RX4_22 (by decide) rfl (by decide) rfl (fun x1 => ?_)
  refine j_sipush (x := 150) dX4_addByte_4 (by decide) ?_
  refine j_icmp_lt (tgt := 11) dX4_addByte_7 (by decide) (fun c2 => ?_) (fun c2 => ?_)
  · refine j_aload_n 0 dX4_addByte_11 rfl rfl ?_
    refine j_getR 4 8 0 dX4_addByte_12 fl_RX4_9 (by decide) rfl (by decide) (fun _ _ _ => rfl) (fun x3 => ?_)
    refine j_aload_n 0 dX4_addByte_15 rfl rfl ?_
    refine j_getI 4 8 1 dX4_addByte_16 fl_RX4_22 (by decide) rfl (by decide) rfl (fun x4 => ?_)
    refine j_iload_n 1 dX4_addByte_19 rfl rfl ?_
    refine j_iast dX4_addByte_20 (fun h5 => ?_)
    refine j_aload_n 0 dX4_addByte_21 rfl rfl ?_
    refine j_dup dX4_addByte_22 rfl ?_
    refine j_getI 4 8 1 dX4_addByte_23 fl_RX4_22 (by decide) rfl (by decide) rfl (fun x6 => ?_)
    refine j_iconst (x := 1) dX4_addByte_26 (by decide) ?_
    refine j_iadd dX4_addByte_27 ?_
    refine j_putI 4 8 1 dX4_addByte_28 fl_RX4_22 (by decide) rfl (by decide) rfl rfl (fun h7 => ?_)
    exact j_vret h7 dX4_addByte_31 rfl (fun q => q)
  · exact j_vret h dX4_addByte_10 rfl (fun q => q)
def fX8_type (v0 : Nat) (v1 : Int32) (h : Hp) : Option (Int32 × Hp) :=
  (fX8_within v1 0 127 h).bind fun x1 => if (x1 : Int32) = 0 then ((xat h v0 (8, 12) (fX8_refuseBad v0 h)).bind fun q3 => some (q3.1, q3.2)) else ((xgR h v0 (8, 12) 8).bind fun x4 => (xgI h x4 (4, 8) 1).bind fun x5 => if (x5 : Int32) < 150 then ((xgR h v0 (8, 12) 8).bind fun x7 => (xat h x7 (4, 8) (fX4_addByte x7 v1 h)).bind fun h8 => (xgR h8 v0 (8, 12) 8).bind fun x9 => (xgI h8 x9 (4, 8) 1).bind fun x10 => some (x10, h8)) else ((xat h v0 (8, 12) (fX8_refuseFull v0 h)).bind fun q11 => some (q11.1, q11.2)))
abbrev iX8_type : xI := (cX8_type, yX8_type.cls, yX8_type.name, some .int, 2, 3)
set_option maxHeartbeats 4000000 in
set_option maxRecDepth 100000 in
theorem kX8_type (l : Launch) (η : xEnv) (v0 : Nat) (v1 : Int32) (h : Hp) (x : Int32 × Hp) (hx : fX8_type v0 v1 h = some x) : xC l η yX8_type cX8_type 2 (some .int) 3 [.ref v0, .int v1] h (some (.int x.1)) x.2 := by
  refine xC_of (by decide) (Nat.le_of_ble_eq_true rfl) hx (fun κ x => κ.2.2.2.1 = some (.int x.1) ∧ κ.2.2.2.2 = x.2) ⟨rfl, rfl⟩ (fun κ => ?_)
  show xJ iX8_type κ _ 0 [(0, .ref v0), (1, .int v1)] [] h (fX8_type v0 v1 h)
  unfold fX8_type
  refine j_iload_n 1 dX8_type_0 rfl rfl ?_
  refine j_iconst (x := 0) dX8_type_1 (by decide) ?_
  refine j_bipush (x := 127) dX8_type_2 (by decide) ?_
  refine j_callS (as := [.int v1, .int 0, .int 127]) (fun x => some (.int x)) (fun _ => h) dX8_type_4 ml_RX8_66 tg_X8_within st_X8_within (fun x hx => kX8_within κ.1 κ.2.1 v1 0 127 h x hx) (by decide) (by decide) rfl rfl (Nat.le_of_ble_eq_true rfl) (fun x1 => ?_)
  show xJ iX8_type κ _ 7 [(0, .ref v0), (1, .int v1)] [.int x1] h _
  refine j_if_ne (tgt := 15) dX8_type_7 (by decide) (fun c2 => ?_) (fun c2 => ?_)
  · refine j_aload_n 0 dX8_type_10 rfl rfl ?_
    refine j_callV (as := []) (fun x => some (.int x.1)) (fun x => x.2) 8 12 dX8_type_11 ml_RX8_70 tg_X8_refuseBad im_X8_refuseBad se_X8_refuseBad rfl (by decide) (fun x hx => kX8_refuseBad κ.1 κ.2.1 v0 h x hx) (by decide) (by decide) rfl rfl (Nat.le_of_ble_eq_true rfl) (fun q3 => ?_)
    show xJ iX8_type κ _ 14 [(0, .ref v0), (1, .int v1)] [.int q3.1] q3.2 _
    exact j_iret (q3.1, q3.2) dX8_type_14 rfl (fun q => q)
  · refine j_aload_n 0 dX8_type_15 rfl rfl ?_
    refine j_getR 8 12 8 dX8_type_16 fl_RX8_62 (by decide) rfl (by decide) (fun _ _ _ => rfl) (fun x4 => ?_)
    refine j_getI 4 8 1 dX8_type_19 fl_RX8_113 (by decide) rfl (by decide) rfl (fun x5 => ?_)
    refine j_sipush (x := 150) dX8_type_22 (by decide) ?_
    refine j_icmp_lt (tgt := 33) dX8_type_25 (by decide) (fun c6 => ?_) (fun c6 => ?_)
    · refine j_aload_n 0 dX8_type_33 rfl rfl ?_
      refine j_getR 8 12 8 dX8_type_34 fl_RX8_62 (by decide) rfl (by decide) (fun _ _ _ => rfl) (fun x7 => ?_)
      refine j_iload_n 1 dX8_type_37 rfl rfl ?_
      refine j_callV (as := [.int v1]) (fun _ => none) (fun x => x) 4 8 dX8_type_38 ml_RX8_116 tg_X4_addByte im_X4_addByte se_X4_addByte rfl (by decide) (fun x hx => kX4_addByte κ.1 κ.2.1 x7 v1 h x hx) (by decide) (by decide) rfl rfl (Nat.le_of_ble_eq_true rfl) (fun h8 => ?_)
      show xJ iX8_type κ _ 41 [(0, .ref v0), (1, .int v1)] [] h8 _
      refine j_aload_n 0 dX8_type_41 rfl rfl ?_
      refine j_getR 8 12 8 dX8_type_42 fl_RX8_62 (by decide) rfl (by decide) (fun _ _ _ => rfl) (fun x9 => ?_)
      refine j_getI 4 8 1 dX8_type_45 fl_RX8_113 (by decide) rfl (by decide) rfl (fun x10 => ?_)
      exact j_iret (x10, h8) dX8_type_48 rfl (fun q => q)
    · refine j_aload_n 0 dX8_type_28 rfl rfl ?_
      refine j_callV (as := []) (fun x => some (.int x.1)) (fun x => x.2) 8 12 dX8_type_29 ml_RX8_91 tg_X8_refuseFull im_X8_refuseFull se_X8_refuseFull rfl (by decide) (fun x hx => kX8_refuseFull κ.1 κ.2.1 v0 h x hx) (by decide) (by decide) rfl rfl (Nat.le_of_ble_eq_true rfl) (fun q11 => ?_)
      show xJ iX8_type κ _ 32 [(0, .ref v0), (1, .int v1)] [.int q11.1] q11.2 _
      exact j_iret (q11.1, q11.2) dX8_type_32 rfl (fun q => q)
def fX9_type (v0 : Nat) (v1 : Int32) (h : Hp) : Option (Int32 × Hp) :=
  (fX9_in ((v1 : Int32).toInt64) 0 127 h).bind fun x1 => if (x1 : Int32) = 0 then ((xat h v0 (9, 18) (fX9_bad v0 (-2) h)).bind fun q3 => some (q3.1, q3.2)) else ((xgI h v0 (9, 18) 11).bind fun x4 => if (x4 : Int32) = 150 then ((xat h v0 (9, 18) (fX9_full v0 h)).bind fun q6 => some (q6.1, q6.2)) else ((xgR h v0 (9, 18) 10).bind fun x7 => (xgI h v0 (9, 18) 11).bind fun x8 => (xsI h x7 x8 v1).bind fun h9 => (xgI h9 v0 (9, 18) 11).bind fun x10 => (xpI h9 v0 (9, 18) 11 (x10 + 1)).bind fun h11 => (xgI h11 v0 (9, 18) 11).bind fun x12 => some (x12, h11)))
abbrev iX9_type : xI := (cX9_type, yX9_type.cls, yX9_type.name, some .int, 2, 3)
set_option maxHeartbeats 4000000 in
set_option maxRecDepth 100000 in
theorem kX9_type (l : Launch) (η : xEnv) (v0 : Nat) (v1 : Int32) (h : Hp) (x : Int32 × Hp) (hx : fX9_type v0 v1 h = some x) : xC l η yX9_type cX9_type 2 (some .int) 3 [.ref v0, .int v1] h (some (.int x.1)) x.2 := by
  refine xC_of (by decide) (Nat.le_of_ble_eq_true rfl) hx (fun κ x => κ.2.2.2.1 = some (.int x.1) ∧ κ.2.2.2.2 = x.2) ⟨rfl, rfl⟩ (fun κ => ?_)
  show xJ iX9_type κ _ 0 [(0, .ref v0), (1, .int v1)] [] h (fX9_type v0 v1 h)
  unfold fX9_type
  refine j_iload_n 1 dX9_type_0 rfl rfl ?_
  refine j_i2l dX9_type_1 ?_
  refine j_lconst (x := 0) dX9_type_2 (by decide) ?_
  refine j_ldc2 dX9_type_3 cL_RX9_189 ?_
  refine j_callS (as := [.long ((v1 : Int32).toInt64), .long 0, .long 127]) (fun x => some (.int x)) (fun _ => h) dX9_type_6 ml_RX9_56 tg_X9_in st_X9_in (fun x hx => kX9_in κ.1 κ.2.1 ((v1 : Int32).toInt64) 0 127 h x hx) (by decide) (by decide) rfl rfl (Nat.le_of_ble_eq_true rfl) (fun x1 => ?_)
  show xJ iX9_type κ _ 9 [(0, .ref v0), (1, .int v1)] [.int x1] h _
  refine j_if_ne (tgt := 19) dX9_type_9 (by decide) (fun c2 => ?_) (fun c2 => ?_)
  · refine j_aload_n 0 dX9_type_12 rfl rfl ?_
    refine j_bipush (x := (-2)) dX9_type_13 (by decide) ?_
    refine j_callV (as := [.int (-2)]) (fun x => some (.int x.1)) (fun x => x.2) 9 18 dX9_type_15 ml_RX9_64 tg_X9_bad im_X9_bad se_X9_bad rfl (by decide) (fun x hx => kX9_bad κ.1 κ.2.1 v0 (-2) h x hx) (by decide) (by decide) rfl rfl (Nat.le_of_ble_eq_true rfl) (fun q3 => ?_)
    show xJ iX9_type κ _ 18 [(0, .ref v0), (1, .int v1)] [.int q3.1] q3.2 _
    exact j_iret (q3.1, q3.2) dX9_type_18 rfl (fun q => q)
  · refine j_aload_n 0 dX9_type_19 rfl rfl ?_
    refine j_getI 9 18 11 dX9_type_20 fl_RX9_191 (by decide) rfl (by decide) rfl (fun x4 => ?_)
    refine j_sipush (x := 150) dX9_type_23 (by decide) ?_
    refine j_icmp_ne (tgt := 34) dX9_type_26 (by decide) (fun c5 => ?_) (fun c5 => ?_)
    · refine j_aload_n 0 dX9_type_29 rfl rfl ?_
      refine j_callV (as := []) (fun x => some (.int x.1)) (fun x => x.2) 9 18 dX9_type_30 ml_RX9_76 tg_X9_full im_X9_full se_X9_full rfl (by decide) (fun x hx => kX9_full κ.1 κ.2.1 v0 h x hx) (by decide) (by decide) rfl rfl (Nat.le_of_ble_eq_true rfl) (fun q6 => ?_)
      show xJ iX9_type κ _ 33 [(0, .ref v0), (1, .int v1)] [.int q6.1] q6.2 _
      exact j_iret (q6.1, q6.2) dX9_type_33 rfl (fun q => q)
    · refine j_aload_n 0 dX9_type_34 rfl rfl ?_
      refine j_getR 9 18 10 dX9_type_35 fl_RX9_39 (by decide) rfl (by decide) (fun _ _ _ => rfl) (fun x7 => ?_)
      refine j_aload_n 0 dX9_type_38 rfl rfl ?_
      refine j_getI 9 18 11 dX9_type_39 fl_RX9_191 (by decide) rfl (by decide) rfl (fun x8 => ?_)
      refine j_iload_n 1 dX9_type_42 rfl rfl ?_
      refine j_iast dX9_type_43 (fun h9 => ?_)
      refine j_aload_n 0 dX9_type_44 rfl rfl ?_
      refine j_dup dX9_type_45 rfl ?_
      refine j_getI 9 18 11 dX9_type_46 fl_RX9_191 (by decide) rfl (by decide) rfl (fun x10 => ?_)
      refine j_iconst (x := 1) dX9_type_49 (by decide) ?_
      refine j_iadd dX9_type_50 ?_
      refine j_putI 9 18 11 dX9_type_51 fl_RX9_191 (by decide) rfl (by decide) rfl rfl (fun h11 => ?_)
      refine j_aload_n 0 dX9_type_54 rfl rfl ?_
      refine j_getI 9 18 11 dX9_type_55 fl_RX9_191 (by decide) rfl (by decide) rfl (fun x12 => ?_)
      exact j_iret (x12, h11) dX9_type_58 rfl (fun q => q)
