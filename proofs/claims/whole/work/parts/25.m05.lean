def fX9_takesQuarrel_j59  (h : Hp) : Option (Int32 × Hp) :=
  some (0, h)
def fX9_takesQuarrel (v0 : Nat) (h : Hp) : Option (Int32 × Hp) :=
  (xat h v0 (9, 18) (fX9_goBehind v0 h)).bind fun h1 => (xgR h1 v0 (9, 18) 16).bind fun x2 => (xaI h1 x2 10 0).bind fun x3 => (xat h1 v0 (9, 18) (fX9_takes v0 0 0 (x3 - 1) h1)).bind fun q4 => if (q4.1 : Int32) = 0 then (fX9_takesQuarrel_j59 q4.2) else ((xgI q4.2 v0 (9, 18) 14).bind fun x6 => if (x6 : Int32) = 2 then ((xgI q4.2 v0 (9, 18) 15).bind fun x8 => (xgR q4.2 v0 (9, 18) 17).bind fun x9 => (xaI q4.2 x9 10 0).bind fun x10 => if (x8 : Int32) = x10 then (fX9_takesQuarrel_j59 q4.2) else ((xgR q4.2 v0 (9, 18) 16).bind fun x12 => (xaI q4.2 x12 10 0).bind fun x13 => (xat q4.2 v0 (9, 18) (fX9_takes v0 1 0 (x13 - 1) q4.2)).bind fun q14 => if (q14.1 : Int32) = 0 then (fX9_takesQuarrel_j59 q14.2) else ((xgR q14.2 v0 (9, 18) 16).bind fun x16 => (xgR q14.2 v0 (9, 18) 17).bind fun x17 => (xaI q14.2 x17 10 0).bind fun x18 => (xgR q14.2 v0 (9, 18) 17).bind fun x19 => (xaI q14.2 x19 10 1).bind fun x20 => (fX9_layFoes x16 x18 x20 1 q14.2).bind fun h21 => some (1, h21)))) else (fX9_takesQuarrel_j59 q4.2))
abbrev iX9_takesQuarrel : xI := (cX9_takesQuarrel, yX9_takesQuarrel.cls, yX9_takesQuarrel.name, some .boolean, 1, 7)
set_option maxHeartbeats 4000000 in
set_option maxRecDepth 100000 in
theorem kX9_takesQuarrel (l : Launch) (η : xEnv) (v0 : Nat) (h : Hp) (x : Int32 × Hp) (hx : fX9_takesQuarrel v0 h = some x) : xC l η yX9_takesQuarrel cX9_takesQuarrel 1 (some .boolean) 7 [.ref v0] h (some (.int x.1)) x.2 := by
  refine xC_of (by decide) (Nat.le_of_ble_eq_true rfl) hx (fun κ x => κ.2.2.2.1 = some (.int x.1) ∧ κ.2.2.2.2 = x.2) ⟨rfl, rfl⟩ (fun κ => ?_)
  show xJ iX9_takesQuarrel κ _ 0 [(0, .ref v0)] [] h (fX9_takesQuarrel v0 h)
  unfold fX9_takesQuarrel
  refine j_have (pj := 59) (Lf := fun v : Hp => []) (Sf := fun v : Hp => []) (Hf := fun v : Hp => v) (jf := fun v : Hp => fX9_takesQuarrel_j59 v) (fun v => ?_) (fun hj59 => ?_)
  · generalize v = h
    show xJ iX9_takesQuarrel κ _ 59 [] [] h (fX9_takesQuarrel_j59 h)
    unfold fX9_takesQuarrel_j59
    refine j_iconst (x := 0) dX9_takesQuarrel_59 (by decide) ?_
    exact j_zret (0, h) dX9_takesQuarrel_60 rfl rfl (fun q => q)
  refine j_aload_n 0 dX9_takesQuarrel_0 rfl rfl ?_
  refine j_callV (as := []) (fun _ => none) (fun x => x) 9 18 dX9_takesQuarrel_1 ml_RX9_224 tg_X9_goBehind im_X9_goBehind se_X9_goBehind rfl (by decide) (fun x hx => kX9_goBehind κ.1 κ.2.1 v0 h x hx) (by decide) (by decide) rfl rfl (Nat.le_of_ble_eq_true rfl) (fun h1 => ?_)
  show xJ iX9_takesQuarrel κ _ 4 [(0, .ref v0)] [] h1 _
  refine j_aload_n 0 dX9_takesQuarrel_4 rfl rfl ?_
  refine j_iconst (x := 0) dX9_takesQuarrel_5 (by decide) ?_
  refine j_iconst (x := 0) dX9_takesQuarrel_6 (by decide) ?_
  refine j_aload_n 0 dX9_takesQuarrel_7 rfl rfl ?_
  refine j_getR 9 18 16 dX9_takesQuarrel_8 fl_RX9_42 (by decide) rfl (by decide) (fun _ _ _ => rfl) (fun x2 => ?_)
  refine j_iconst (x := 0) dX9_takesQuarrel_11 (by decide) ?_
  refine j_iald dX9_takesQuarrel_12 (fun x3 => ?_)
  refine j_iconst (x := 1) dX9_takesQuarrel_13 (by decide) ?_
  refine j_isub dX9_takesQuarrel_14 ?_
  refine j_callV (as := [.int 0, .int 0, .int (x3 - 1)]) (fun x => some (.int x.1)) (fun x => x.2) 9 18 dX9_takesQuarrel_15 ml_RX9_231 tg_X9_takes im_X9_takes se_X9_takes rfl (by decide) (fun x hx => kX9_takes κ.1 κ.2.1 v0 0 0 (x3 - 1) h1 x hx) (by decide) (by decide) rfl rfl (Nat.le_of_ble_eq_true rfl) (fun q4 => ?_)
  show xJ iX9_takesQuarrel κ _ 18 [(0, .ref v0)] [.int q4.1] q4.2 _
  refine j_if_eq (tgt := 59) dX9_takesQuarrel_18 (by decide) (fun c5 => ?_) (fun c5 => ?_)
  · refine j_pick [] rfl ?_
    exact hj59 q4.2
  · refine j_aload_n 0 dX9_takesQuarrel_21 rfl rfl ?_
    refine j_getI 9 18 14 dX9_takesQuarrel_22 fl_RX9_209 (by decide) rfl (by decide) rfl (fun x6 => ?_)
    refine j_iconst (x := 2) dX9_takesQuarrel_25 (by decide) ?_
    refine j_icmp_ne (tgt := 59) dX9_takesQuarrel_26 (by decide) (fun c7 => ?_) (fun c7 => ?_)
    · refine j_aload_n 0 dX9_takesQuarrel_29 rfl rfl ?_
      refine j_getI 9 18 15 dX9_takesQuarrel_30 fl_RX9_212 (by decide) rfl (by decide) rfl (fun x8 => ?_)
      refine j_aload_n 0 dX9_takesQuarrel_33 rfl rfl ?_
      refine j_getR 9 18 17 dX9_takesQuarrel_34 fl_RX9_45 (by decide) rfl (by decide) (fun _ _ _ => rfl) (fun x9 => ?_)
      refine j_iconst (x := 0) dX9_takesQuarrel_37 (by decide) ?_
      refine j_iald dX9_takesQuarrel_38 (fun x10 => ?_)
      refine j_icmp_eq (tgt := 59) dX9_takesQuarrel_39 (by decide) (fun c11 => ?_) (fun c11 => ?_)
      · refine j_pick [] rfl ?_
        exact hj59 q4.2
      · refine j_aload_n 0 dX9_takesQuarrel_42 rfl rfl ?_
        refine j_iconst (x := 1) dX9_takesQuarrel_43 (by decide) ?_
        refine j_iconst (x := 0) dX9_takesQuarrel_44 (by decide) ?_
        refine j_aload_n 0 dX9_takesQuarrel_45 rfl rfl ?_
        refine j_getR 9 18 16 dX9_takesQuarrel_46 fl_RX9_42 (by decide) rfl (by decide) (fun _ _ _ => rfl) (fun x12 => ?_)
        refine j_iconst (x := 0) dX9_takesQuarrel_49 (by decide) ?_
        refine j_iald dX9_takesQuarrel_50 (fun x13 => ?_)
        refine j_iconst (x := 1) dX9_takesQuarrel_51 (by decide) ?_
        refine j_isub dX9_takesQuarrel_52 ?_
        refine j_callV (as := [.int 1, .int 0, .int (x13 - 1)]) (fun x => some (.int x.1)) (fun x => x.2) 9 18 dX9_takesQuarrel_53 ml_RX9_231 tg_X9_takes im_X9_takes se_X9_takes rfl (by decide) (fun x hx => kX9_takes κ.1 κ.2.1 v0 1 0 (x13 - 1) q4.2 x hx) (by decide) (by decide) rfl rfl (Nat.le_of_ble_eq_true rfl) (fun q14 => ?_)
        show xJ iX9_takesQuarrel κ _ 56 [(0, .ref v0)] [.int q14.1] q14.2 _
        refine j_if_ne (tgt := 61) dX9_takesQuarrel_56 (by decide) (fun c15 => ?_) (fun c15 => ?_)
        · refine j_pick [] rfl ?_
          exact hj59 q14.2
        · refine j_aload_n 0 dX9_takesQuarrel_61 rfl rfl ?_
          refine j_getR 9 18 16 dX9_takesQuarrel_62 fl_RX9_42 (by decide) rfl (by decide) (fun _ _ _ => rfl) (fun x16 => ?_)
          refine j_aload_n 0 dX9_takesQuarrel_65 rfl rfl ?_
          refine j_getR 9 18 17 dX9_takesQuarrel_66 fl_RX9_45 (by decide) rfl (by decide) (fun _ _ _ => rfl) (fun x17 => ?_)
          refine j_iconst (x := 0) dX9_takesQuarrel_69 (by decide) ?_
          refine j_iald dX9_takesQuarrel_70 (fun x18 => ?_)
          refine j_aload_n 0 dX9_takesQuarrel_71 rfl rfl ?_
          refine j_getR 9 18 17 dX9_takesQuarrel_72 fl_RX9_45 (by decide) rfl (by decide) (fun _ _ _ => rfl) (fun x19 => ?_)
          refine j_iconst (x := 1) dX9_takesQuarrel_75 (by decide) ?_
          refine j_iald dX9_takesQuarrel_76 (fun x20 => ?_)
          refine j_iconst (x := 1) dX9_takesQuarrel_77 (by decide) ?_
          refine j_callS (as := [.ref x16, .int x18, .int x20, .int 1]) (fun _ => none) (fun x => x) dX9_takesQuarrel_78 ml_RX9_86 tg_X9_layFoes st_X9_layFoes (fun x hx => kX9_layFoes κ.1 κ.2.1 x16 x18 x20 1 q14.2 x hx) (by decide) (by decide) rfl rfl (Nat.le_of_ble_eq_true rfl) (fun h21 => ?_)
          show xJ iX9_takesQuarrel κ _ 81 [(0, .ref v0)] [] h21 _
          refine j_iconst (x := 1) dX9_takesQuarrel_81 (by decide) ?_
          exact j_zret (1, h21) dX9_takesQuarrel_82 rfl rfl (fun q => q)
    · refine j_pick [] rfl ?_
      exact hj59 q4.2
def fX9_takesItem_j68 (t0 : Int32) (h : Hp) : Option (Int32 × Hp) :=
  if vp_nar .boolean t0 = t0 then some (t0, h) else none
def fX9_takesItem_j67  (h : Hp) : Option (Int32 × Hp) :=
  fX9_takesItem_j68 0 h
def fX9_takesItem (v0 : Nat) (h : Hp) : Option (Int32 × Hp) :=
  (xat h v0 (9, 18) (fX9_spells v0 6 98 114 105 100 103 101 h)).bind fun x1 => if (x1 : Int32) = 0 then ((xat h v0 (9, 18) (fX9_spells v0 4 105 100 101 97 0 0 h)).bind fun x3 => if (x3 : Int32) = 0 then ((xat h v0 (9, 18) (fX9_isQuarrel v0 h)).bind fun q5 => if (q5.1 : Int32) = 0 then (fX9_takesItem_j67 q5.2) else ((xat q5.2 v0 (9, 18) (fX9_takesQuarrel v0 q5.2)).bind fun q7 => if (q7.1 : Int32) = 0 then (fX9_takesItem_j67 q7.2) else (fX9_takesItem_j68 1 q7.2))) else ((xat h v0 (9, 18) (fX9_takesIdea v0 h)).bind fun q9 => if vp_nar .boolean q9.1 = q9.1 then some (q9.1, q9.2) else none)) else ((xat h v0 (9, 18) (fX9_takesBridge v0 h)).bind fun q10 => if vp_nar .boolean q10.1 = q10.1 then some (q10.1, q10.2) else none)
abbrev iX9_takesItem : xI := (cX9_takesItem, yX9_takesItem.cls, yX9_takesItem.name, some .boolean, 1, 8)
set_option maxHeartbeats 4000000 in
set_option maxRecDepth 100000 in
theorem kX9_takesItem (l : Launch) (η : xEnv) (v0 : Nat) (h : Hp) (x : Int32 × Hp) (hx : fX9_takesItem v0 h = some x) : xC l η yX9_takesItem cX9_takesItem 1 (some .boolean) 8 [.ref v0] h (some (.int x.1)) x.2 := by
  refine xC_of (by decide) (Nat.le_of_ble_eq_true rfl) hx (fun κ x => κ.2.2.2.1 = some (.int x.1) ∧ κ.2.2.2.2 = x.2) ⟨rfl, rfl⟩ (fun κ => ?_)
  show xJ iX9_takesItem κ _ 0 [(0, .ref v0)] [] h (fX9_takesItem v0 h)
  unfold fX9_takesItem
  refine j_have (pj := 68) (Lf := fun v : Int32 × Hp => []) (Sf := fun v : Int32 × Hp => [.int v.1]) (Hf := fun v : Int32 × Hp => v.2) (jf := fun v : Int32 × Hp => fX9_takesItem_j68 v.1 v.2) (fun v => ?_) (fun hj68 => ?_)
  · obtain ⟨t0, h⟩ := v
    show xJ iX9_takesItem κ _ 68 [] [.int t0] h (fX9_takesItem_j68 t0 h)
    unfold fX9_takesItem_j68
    exact j_zretc (t0, h) dX9_takesItem_68 rfl (fun q => q)
  refine j_have (pj := 67) (Lf := fun v : Hp => []) (Sf := fun v : Hp => []) (Hf := fun v : Hp => v) (jf := fun v : Hp => fX9_takesItem_j67 v) (fun v => ?_) (fun hj67 => ?_)
  · generalize v = h
    show xJ iX9_takesItem κ _ 67 [] [] h (fX9_takesItem_j67 h)
    unfold fX9_takesItem_j67
    refine j_iconst (x := 0) dX9_takesItem_67 (by decide) ?_
    refine j_pick [] rfl ?_
    exact hj68 (0, h)
  refine j_aload_n 0 dX9_takesItem_0 rfl rfl ?_
  refine j_bipush (x := 6) dX9_takesItem_1 (by decide) ?_
  refine j_bipush (x := 98) dX9_takesItem_3 (by decide) ?_
  refine j_bipush (x := 114) dX9_takesItem_5 (by decide) ?_
  refine j_bipush (x := 105) dX9_takesItem_7 (by decide) ?_
  refine j_bipush (x := 100) dX9_takesItem_9 (by decide) ?_
  refine j_bipush (x := 103) dX9_takesItem_11 (by decide) ?_
  refine j_bipush (x := 101) dX9_takesItem_13 (by decide) ?_
  refine j_callV (as := [.int 6, .int 98, .int 114, .int 105, .int 100, .int 103, .int 101]) (fun x => some (.int x)) (fun _ => h) 9 18 dX9_takesItem_15 ml_RX9_227 tg_X9_spells im_X9_spells se_X9_spells rfl (by decide) (fun x hx => kX9_spells κ.1 κ.2.1 v0 6 98 114 105 100 103 101 h x hx) (by decide) (by decide) rfl rfl (Nat.le_of_ble_eq_true rfl) (fun x1 => ?_)
  show xJ iX9_takesItem κ _ 18 [(0, .ref v0)] [.int x1] h _
  refine j_if_eq (tgt := 26) dX9_takesItem_18 (by decide) (fun c2 => ?_) (fun c2 => ?_)
  · refine j_aload_n 0 dX9_takesItem_26 rfl rfl ?_
    refine j_iconst (x := 4) dX9_takesItem_27 (by decide) ?_
    refine j_bipush (x := 105) dX9_takesItem_28 (by decide) ?_
    refine j_bipush (x := 100) dX9_takesItem_30 (by decide) ?_
    refine j_bipush (x := 101) dX9_takesItem_32 (by decide) ?_
    refine j_bipush (x := 97) dX9_takesItem_34 (by decide) ?_
    refine j_iconst (x := 0) dX9_takesItem_36 (by decide) ?_
    refine j_iconst (x := 0) dX9_takesItem_37 (by decide) ?_
    refine j_callV (as := [.int 4, .int 105, .int 100, .int 101, .int 97, .int 0, .int 0]) (fun x => some (.int x)) (fun _ => h) 9 18 dX9_takesItem_38 ml_RX9_227 tg_X9_spells im_X9_spells se_X9_spells rfl (by decide) (fun x hx => kX9_spells κ.1 κ.2.1 v0 4 105 100 101 97 0 0 h x hx) (by decide) (by decide) rfl rfl (Nat.le_of_ble_eq_true rfl) (fun x3 => ?_)
    show xJ iX9_takesItem κ _ 41 [(0, .ref v0)] [.int x3] h _
    refine j_if_eq (tgt := 49) dX9_takesItem_41 (by decide) (fun c4 => ?_) (fun c4 => ?_)
    · refine j_aload_n 0 dX9_takesItem_49 rfl rfl ?_
      refine j_callV (as := []) (fun x => some (.int x.1)) (fun x => x.2) 9 18 dX9_takesItem_50 ml_RX9_241 tg_X9_isQuarrel im_X9_isQuarrel se_X9_isQuarrel rfl (by decide) (fun x hx => kX9_isQuarrel κ.1 κ.2.1 v0 h x hx) (by decide) (by decide) rfl rfl (Nat.le_of_ble_eq_true rfl) (fun q5 => ?_)
      show xJ iX9_takesItem κ _ 53 [(0, .ref v0)] [.int q5.1] q5.2 _
      refine j_if_eq (tgt := 67) dX9_takesItem_53 (by decide) (fun c6 => ?_) (fun c6 => ?_)
      · refine j_pick [] rfl ?_
        exact hj67 q5.2
      · refine j_aload_n 0 dX9_takesItem_56 rfl rfl ?_
        refine j_callV (as := []) (fun x => some (.int x.1)) (fun x => x.2) 9 18 dX9_takesItem_57 ml_RX9_244 tg_X9_takesQuarrel im_X9_takesQuarrel se_X9_takesQuarrel rfl (by decide) (fun x hx => kX9_takesQuarrel κ.1 κ.2.1 v0 q5.2 x hx) (by decide) (by decide) rfl rfl (Nat.le_of_ble_eq_true rfl) (fun q7 => ?_)
        show xJ iX9_takesItem κ _ 60 [(0, .ref v0)] [.int q7.1] q7.2 _
        refine j_if_eq (tgt := 67) dX9_takesItem_60 (by decide) (fun c8 => ?_) (fun c8 => ?_)
        · refine j_pick [] rfl ?_
          exact hj67 q7.2
        · refine j_iconst (x := 1) dX9_takesItem_63 (by decide) ?_
          refine j_goto (tgt := 68) dX9_takesItem_64 (by decide) ?_
          refine j_pick [] rfl ?_
          exact hj68 (1, q7.2)
    · refine j_aload_n 0 dX9_takesItem_44 rfl rfl ?_
      refine j_callV (as := []) (fun x => some (.int x.1)) (fun x => x.2) 9 18 dX9_takesItem_45 ml_RX9_238 tg_X9_takesIdea im_X9_takesIdea se_X9_takesIdea rfl (by decide) (fun x hx => kX9_takesIdea κ.1 κ.2.1 v0 h x hx) (by decide) (by decide) rfl rfl (Nat.le_of_ble_eq_true rfl) (fun q9 => ?_)
      show xJ iX9_takesItem κ _ 48 [(0, .ref v0)] [.int q9.1] q9.2 _
      exact j_zretc (q9.1, q9.2) dX9_takesItem_48 rfl (fun q => q)
  · refine j_aload_n 0 dX9_takesItem_21 rfl rfl ?_
    refine j_callV (as := []) (fun x => some (.int x.1)) (fun x => x.2) 9 18 dX9_takesItem_22 ml_RX9_234 tg_X9_takesBridge im_X9_takesBridge se_X9_takesBridge rfl (by decide) (fun x hx => kX9_takesBridge κ.1 κ.2.1 v0 h x hx) (by decide) (by decide) rfl rfl (Nat.le_of_ble_eq_true rfl) (fun q10 => ?_)
    show xJ iX9_takesItem κ _ 25 [(0, .ref v0)] [.int q10.1] q10.2 _
    exact j_zretc (q10.1, q10.2) dX9_takesItem_25 rfl (fun q => q)
def fX9_read_j48 (v0 : Nat) (h : Hp) : Option (Int32 × Hp) :=
  (xgI h v0 (9, 18) 12).bind fun x1 => some ((-10) - x1, h)
def fX9_read_b68 (v0 : Nat) (v1 : Int32) (s68 : Int32 × Hp) : Option ((Int32 × Hp) ⊕ ((Int32 × Hp))) :=
  if (78 : Int32) ≤ s68.1 then (some (Sum.inr (v1, s68.2))) else ((xgR s68.2 v0 (9, 18) 0).bind fun x10 => (xgR s68.2 v0 (9, 18) 16).bind fun x11 => (xaI s68.2 x11 10 s68.1).bind fun x12 => (xsI s68.2 x10 s68.1 x12).bind fun h13 => some (Sum.inl (s68.1 + 1, h13)))
def fX9_read_b26 (v0 : Nat) (s26 : Int32 × Hp) : Option ((Int32 × Hp) ⊕ ((Nat × Hp) ⊕ (Nat × Int32 × Hp))) :=
  (xgI s26.2 v0 (9, 18) 14).bind fun x7 => if (x7 : Int32) = 0 then (some (Sum.inr (Sum.inr (v0, s26.1, s26.2)))) else ((xat s26.2 v0 (9, 18) (fX9_takesItem v0 s26.2)).bind fun q14 => if (q14.1 : Int32) = 0 then (some (Sum.inr (Sum.inl (v0, q14.2)))) else ((xgI q14.2 v0 (9, 18) 14).bind fun x16 => if (x16 : Int32) = 3 then ((xat q14.2 v0 (9, 18) (fX9_goBehind v0 q14.2)).bind fun h18 => some (Sum.inl (s26.1 + 1, h18))) else (some (Sum.inr (Sum.inl (v0, q14.2))))))
def fX9_read (v0 : Nat) (h : Hp) : Option (Int32 × Hp) :=
  (xat h v0 (9, 18) (fX9_lookAt v0 0 h)).bind fun h2 => (xat h2 v0 (9, 18) (fX9_takesBus v0 h2)).bind fun q3 => if (q3.1 : Int32) = 0 then ((xgI q3.2 v0 (9, 18) 12).bind fun x5 => some ((-10) - x5, q3.2)) else ((xat q3.2 v0 (9, 18) (fX9_goBehind v0 q3.2)).bind fun h6 => (xloop (fX9_read_b26 v0) 1000000 (1, h6)).bind (fun q => match q with | .inl r26 => (fX9_read_j48 r26.1 r26.2) | .inr r26 => ((xloop (fX9_read_b68 r26.1 r26.2.1) 1000000 (0, r26.2.2)).bind (fun r68 => some (r68.1, r68.2)))))
abbrev iX9_read : xI := (cX9_read, yX9_read.cls, yX9_read.name, some .int, 3, 9)
set_option maxHeartbeats 4000000 in
set_option maxRecDepth 100000 in
theorem kX9_read (l : Launch) (η : xEnv) (v0 : Nat) (h : Hp) (x : Int32 × Hp) (hx : fX9_read v0 h = some x) : xC l η yX9_read cX9_read 3 (some .int) 9 [.ref v0] h (some (.int x.1)) x.2 := by
  refine xC_of (by decide) (Nat.le_of_ble_eq_true rfl) hx (fun κ x => κ.2.2.2.1 = some (.int x.1) ∧ κ.2.2.2.2 = x.2) ⟨rfl, rfl⟩ (fun κ => ?_)
  show xJ iX9_read κ _ 0 [(0, .ref v0)] [] h (fX9_read v0 h)
  unfold fX9_read
  refine j_have (pj := 48) (Lf := fun v : Hp => [(0, .ref v0)]) (Sf := fun v : Hp => []) (Hf := fun v : Hp => v) (jf := fun v : Hp => fX9_read_j48 v0 v) (fun v => ?_) (fun hj48 => ?_)
  · generalize v = h
    show xJ iX9_read κ _ 48 [(0, .ref v0)] [] h (fX9_read_j48 v0 h)
    unfold fX9_read_j48
    refine j_bipush (x := (-10)) dX9_read_48 (by decide) ?_
    refine j_aload_n 0 dX9_read_50 rfl rfl ?_
    refine j_getI 9 18 12 dX9_read_51 fl_RX9_203 (by decide) rfl (by decide) rfl (fun x1 => ?_)
    refine j_isub dX9_read_54 ?_
    exact j_iret ((-10) - x1, h) dX9_read_55 rfl (fun q => q)
  refine j_aload_n 0 dX9_read_0 rfl rfl ?_
  refine j_iconst (x := 0) dX9_read_1 (by decide) ?_
  refine j_callV (as := [.int 0]) (fun _ => none) (fun x => x) 9 18 dX9_read_2 ml_RX9_221 tg_X9_lookAt im_X9_lookAt se_X9_lookAt rfl (by decide) (fun x hx => kX9_lookAt κ.1 κ.2.1 v0 0 h x hx) (by decide) (by decide) rfl rfl (Nat.le_of_ble_eq_true rfl) (fun h2 => ?_)
  show xJ iX9_read κ _ 5 [(0, .ref v0)] [] h2 _
  refine j_aload_n 0 dX9_read_5 rfl rfl ?_
  refine j_callV (as := []) (fun x => some (.int x.1)) (fun x => x.2) 9 18 dX9_read_6 ml_RX9_247 tg_X9_takesBus im_X9_takesBus se_X9_takesBus rfl (by decide) (fun x hx => kX9_takesBus κ.1 κ.2.1 v0 h2 x hx) (by decide) (by decide) rfl rfl (Nat.le_of_ble_eq_true rfl) (fun q3 => ?_)
  show xJ iX9_read κ _ 9 [(0, .ref v0)] [.int q3.1] q3.2 _
  refine j_if_ne (tgt := 20) dX9_read_9 (by decide) (fun c4 => ?_) (fun c4 => ?_)
  · refine j_bipush (x := (-10)) dX9_read_12 (by decide) ?_
    refine j_aload_n 0 dX9_read_14 rfl rfl ?_
    refine j_getI 9 18 12 dX9_read_15 fl_RX9_203 (by decide) rfl (by decide) rfl (fun x5 => ?_)
    refine j_isub dX9_read_18 ?_
    exact j_iret ((-10) - x5, q3.2) dX9_read_19 rfl (fun q => q)
  · refine j_aload_n 0 dX9_read_20 rfl rfl ?_
    refine j_callV (as := []) (fun _ => none) (fun x => x) 9 18 dX9_read_21 ml_RX9_224 tg_X9_goBehind im_X9_goBehind se_X9_goBehind rfl (by decide) (fun x hx => kX9_goBehind κ.1 κ.2.1 v0 q3.2 x hx) (by decide) (by decide) rfl rfl (Nat.le_of_ble_eq_true rfl) (fun h6 => ?_)
    show xJ iX9_read κ _ 24 [(0, .ref v0)] [] h6 _
    refine j_iconst (x := 1) dX9_read_24 (by decide) ?_
    refine j_istore_n (L' := [(1, .int 1), (0, .ref v0)]) dX9_read_25 rfl (Nat.le_of_ble_eq_true rfl) rfl ?_
    refine j_pick [1, 0] rfl ?_
    refine j_loop (pc := 26) (Lf := fun s26 : Int32 × Hp => [(0, .ref v0), (1, .int s26.1)]) (Hf := fun s26 : Int32 × Hp => s26.2) (fun s26 => ?_) 1000000 (1, h6)
    show xJ iX9_read κ _ 26 [(0, .ref v0), (1, .int s26.1)] [] s26.2 (fX9_read_b26 v0 s26)
    unfold fX9_read_b26
    refine j_aload_n 0 dX9_read_26 rfl rfl ?_
    refine j_getI 9 18 14 dX9_read_27 fl_RX9_209 (by decide) rfl (by decide) rfl (fun x7 => ?_)
    refine j_if_eq (tgt := 66) dX9_read_30 (by decide) (fun c8 => ?_) (fun c8 => ?_)
    · refine j_exit (Sum.inr (v0, s26.1, s26.2)) ?_
      try dsimp only
      refine j_iconst (x := 0) dX9_read_66 (by decide) ?_
      refine j_istore_n (L' := [(2, .int 0), (0, .ref v0), (1, .int s26.1)]) dX9_read_67 rfl (Nat.le_of_ble_eq_true rfl) rfl ?_
      refine j_pick [1, 2, 0] rfl ?_
      refine j_loop (pc := 68) (Lf := fun s68 : Int32 × Hp => [(0, .ref v0), (1, .int s26.1), (2, .int s68.1)]) (Hf := fun s68 : Int32 × Hp => s68.2) (fun s68 => ?_) 1000000 (0, s26.2)
      show xJ iX9_read κ _ 68 [(0, .ref v0), (1, .int s26.1), (2, .int s68.1)] [] s68.2 (fX9_read_b68 v0 s26.1 s68)
      unfold fX9_read_b68
      refine j_iload_n 2 dX9_read_68 rfl rfl ?_
      refine j_bipush (x := 78) dX9_read_69 (by decide) ?_
      refine j_icmp_ge (tgt := 92) dX9_read_71 (by decide) (fun c9 => ?_) (fun c9 => ?_)
      · refine j_exit (s26.1, s68.2) ?_
        show xJ iX9_read κ _ _ _ _ _ (some (s26.1, s68.2))
        refine j_iload_n 1 dX9_read_92 rfl rfl ?_
        exact j_iret (s26.1, s68.2) dX9_read_93 rfl (fun q => q)
      · refine j_aload_n 0 dX9_read_74 rfl rfl ?_
        refine j_getR 9 18 0 dX9_read_75 fl_RX9_7 (by decide) rfl (by decide) (fun _ _ _ => rfl) (fun x10 => ?_)
        refine j_iload_n 2 dX9_read_78 rfl rfl ?_
        refine j_aload_n 0 dX9_read_79 rfl rfl ?_
        refine j_getR 9 18 16 dX9_read_80 fl_RX9_42 (by decide) rfl (by decide) (fun _ _ _ => rfl) (fun x11 => ?_)
        refine j_iload_n 2 dX9_read_83 rfl rfl ?_
        refine j_iald dX9_read_84 (fun x12 => ?_)
        refine j_iast dX9_read_85 (fun h13 => ?_)
        refine j_iinc (y := s68.1 + 1) (L' := [(2, .int (s68.1 + 1)), (0, .ref v0), (1, .int s26.1)]) 2 dX9_read_86 rfl rfl (Nat.le_of_ble_eq_true rfl) rfl ?_
        refine j_goto (tgt := 68) dX9_read_89 (by decide) ?_
        refine j_pick [1, 2, 0] rfl ?_
        exact j_again (s68.1 + 1, h13) rfl rfl
    · refine j_aload_n 0 dX9_read_33 rfl rfl ?_
      refine j_callV (as := []) (fun x => some (.int x.1)) (fun x => x.2) 9 18 dX9_read_34 ml_RX9_250 tg_X9_takesItem im_X9_takesItem se_X9_takesItem rfl (by decide) (fun x hx => kX9_takesItem κ.1 κ.2.1 v0 s26.2 x hx) (by decide) (by decide) rfl rfl (Nat.le_of_ble_eq_true rfl) (fun q14 => ?_)
      show xJ iX9_read κ _ 37 [(0, .ref v0), (1, .int s26.1)] [.int q14.1] q14.2 _
      refine j_if_eq (tgt := 48) dX9_read_37 (by decide) (fun c15 => ?_) (fun c15 => ?_)
      · refine j_exit (Sum.inl (v0, q14.2)) ?_
        try dsimp only
        refine j_pick [0] rfl ?_
        exact hj48 q14.2
      · refine j_aload_n 0 dX9_read_40 rfl rfl ?_
        refine j_getI 9 18 14 dX9_read_41 fl_RX9_209 (by decide) rfl (by decide) rfl (fun x16 => ?_)
        refine j_iconst (x := 3) dX9_read_44 (by decide) ?_
        refine j_icmp_eq (tgt := 56) dX9_read_45 (by decide) (fun c17 => ?_) (fun c17 => ?_)
        · refine j_aload_n 0 dX9_read_56 rfl rfl ?_
          refine j_callV (as := []) (fun _ => none) (fun x => x) 9 18 dX9_read_57 ml_RX9_224 tg_X9_goBehind im_X9_goBehind se_X9_goBehind rfl (by decide) (fun x hx => kX9_goBehind κ.1 κ.2.1 v0 q14.2 x hx) (by decide) (by decide) rfl rfl (Nat.le_of_ble_eq_true rfl) (fun h18 => ?_)
          show xJ iX9_read κ _ 60 [(0, .ref v0), (1, .int s26.1)] [] h18 _
          refine j_iinc (y := s26.1 + 1) (L' := [(1, .int (s26.1 + 1)), (0, .ref v0)]) 1 dX9_read_60 rfl rfl (Nat.le_of_ble_eq_true rfl) rfl ?_
          refine j_goto (tgt := 26) dX9_read_63 (by decide) ?_
          refine j_pick [1, 0] rfl ?_
          exact j_again (s26.1 + 1, h18) rfl rfl
        · refine j_exit (Sum.inl (v0, q14.2)) ?_
          try dsimp only
          refine j_pick [0] rfl ?_
          exact hj48 q14.2
def fX8_refuseNo (v0 : Nat) (h : Hp) : Option (Int32 × Hp) :=
  (xgI h v0 (8, 12) 10).bind fun x1 => (xpI h v0 (8, 12) 10 (x1 + 1)).bind fun h2 => some ((-3), h2)
abbrev iX8_refuseNo : xI := (cX8_refuseNo, yX8_refuseNo.cls, yX8_refuseNo.name, some .int, 1, 2)
set_option maxHeartbeats 4000000 in
set_option maxRecDepth 100000 in
theorem kX8_refuseNo (l : Launch) (η : xEnv) (v0 : Nat) (h : Hp) (x : Int32 × Hp) (hx : fX8_refuseNo v0 h = some x) : xC l η yX8_refuseNo cX8_refuseNo 1 (some .int) 2 [.ref v0] h (some (.int x.1)) x.2 := by
  refine xC_of (by decide) (Nat.le_of_ble_eq_true rfl) hx (fun κ x => κ.2.2.2.1 = some (.int x.1) ∧ κ.2.2.2.2 = x.2) ⟨rfl, rfl⟩ (fun κ => ?_)
  show xJ iX8_refuseNo κ _ 0 [(0, .ref v0)] [] h (fX8_refuseNo v0 h)
  unfold fX8_refuseNo
  refine j_aload_n 0 dX8_refuseNo_0 rfl rfl ?_
  refine j_dup dX8_refuseNo_1 rfl ?_
  refine j_getI 8 12 10 dX8_refuseNo_2 fl_RX8_288 (by decide) rfl (by decide) rfl (fun x1 => ?_)
  refine j_iconst (x := 1) dX8_refuseNo_5 (by decide) ?_
  refine j_iadd dX8_refuseNo_6 ?_
  refine j_putI 8 12 10 dX8_refuseNo_7 fl_RX8_288 (by decide) rfl (by decide) rfl rfl (fun h2 => ?_)
  refine j_bipush (x := (-3)) dX8_refuseNo_10 (by decide) ?_
  exact j_iret ((-3), h2) dX8_refuseNo_12 rfl (fun q => q)
def fX0_remember_j58 (v0 : Nat) (h : Hp) : Option (Hp) :=
  (xgR h v0 (0, 16) 14).bind fun x1 => (xgI h v0 (0, 16) 15).bind fun x2 => (xaR h x1 13 x2).bind fun x3 => (xgR h v0 (0, 16) 13).bind fun x4 => (xat h x3 (5, 5) (fX5_take x3 x4 h)).bind fun h5 => (xgI h5 v0 (0, 16) 15).bind fun x6 => (xpI h5 v0 (0, 16) 15 (x6 + 1)).bind fun h7 => some h7
def fX0_remember_b18 (v0 : Nat) (v1 : Nat) (s18 : Int32 × Hp) : Option ((Int32 × Hp) ⊕ ((Nat × Nat × Hp))) :=
  if (8 : Int32) ≤ s18.1 then (some (Sum.inr (v0, v1, s18.2))) else ((xgR s18.2 v0 (0, 16) 14).bind fun x16 => (xgR s18.2 v0 (0, 16) 14).bind fun x17 => (xaR s18.2 x17 13 s18.1).bind fun x18 => (xsR s18.2 x16 13 (s18.1 - 1) x18 (5, 5)).bind fun h19 => some (Sum.inl (s18.1 + 1, h19)))
def fX0_remember (v0 : Nat) (h : Hp) : Option (Hp) :=
  (xgI h v0 (0, 16) 15).bind fun x8 => if (x8 : Int32) < 8 then (fX0_remember_j58 v0 h) else ((xgR h v0 (0, 16) 14).bind fun x10 => (xaR h x10 13 0).bind fun x11 => (xloop (fX0_remember_b18 v0 x11) 1000000 (1, h)).bind (fun r18 => (xgR r18.2.2 r18.1 (0, 16) 14).bind fun x20 => (xsR r18.2.2 x20 13 7 r18.2.1 (5, 5)).bind fun h21 => (xpI h21 r18.1 (0, 16) 15 7).bind fun h22 => fX0_remember_j58 r18.1 h22))
abbrev iX0_remember : xI := (cX0_remember, yX0_remember.cls, yX0_remember.name, none, 3, 3)
set_option maxHeartbeats 4000000 in
set_option maxRecDepth 100000 in
theorem kX0_remember (l : Launch) (η : xEnv) (v0 : Nat) (h : Hp) (x : Hp) (hx : fX0_remember v0 h = some x) : xC l η yX0_remember cX0_remember 3 none 3 [.ref v0] h none x := by
  refine xC_of (by decide) (Nat.le_of_ble_eq_true rfl) hx (fun κ x => κ.2.2.2.1 = none ∧ κ.2.2.2.2 = x) ⟨rfl, rfl⟩ (fun κ => ?_)
  show xJ iX0_remember κ _ 0 [(0, .ref v0)] [] h (fX0_remember v0 h)
  unfold fX0_remember
  refine j_have (pj := 58) (Lf := fun v : Hp => [(0, .ref v0)]) (Sf := fun v : Hp => []) (Hf := fun v : Hp => v) (jf := fun v : Hp => fX0_remember_j58 v0 v) (fun v => ?_) (fun hj58 => ?_)
  · generalize v = h
    show xJ iX0_remember κ _ 58 [(0, .ref v0)] [] h (fX0_remember_j58 v0 h)
    unfold fX0_remember_j58
    refine j_aload_n 0 dX0_remember_58 rfl rfl ?_
    refine j_getR 0 16 14 dX0_remember_59 fl_RX0_53 (by decide) rfl (by decide) (fun _ _ _ => rfl) (fun x1 => ?_)
    refine j_aload_n 0 dX0_remember_62 rfl rfl ?_
    refine j_getI 0 16 15 dX0_remember_63 fl_RX0_66 (by decide) rfl (by decide) rfl (fun x2 => ?_)
    refine j_aald13 dX0_remember_66 (fun x3 => ?_)
    refine j_aload_n 0 dX0_remember_67 rfl rfl ?_
    refine j_getR 0 16 13 dX0_remember_68 fl_RX0_49 (by decide) rfl (by decide) (fun _ _ _ => rfl) (fun x4 => ?_)
    refine j_callV (as := [.ref x4]) (fun _ => none) (fun x => x) 5 5 dX0_remember_71 ml_RX0_75 tg_X5_take im_X5_take se_X5_take rfl (by decide) (fun x hx => kX5_take κ.1 κ.2.1 x3 x4 h x hx) (by decide) (by decide) rfl rfl (Nat.le_of_ble_eq_true rfl) (fun h5 => ?_)
    show xJ iX0_remember κ _ 74 [(0, .ref v0)] [] h5 _
    refine j_aload_n 0 dX0_remember_74 rfl rfl ?_
    refine j_dup dX0_remember_75 rfl ?_
    refine j_getI 0 16 15 dX0_remember_76 fl_RX0_66 (by decide) rfl (by decide) rfl (fun x6 => ?_)
    refine j_iconst (x := 1) dX0_remember_79 (by decide) ?_
    refine j_iadd dX0_remember_80 ?_
    refine j_putI 0 16 15 dX0_remember_81 fl_RX0_66 (by decide) rfl (by decide) rfl rfl (fun h7 => ?_)
    exact j_vret h7 dX0_remember_84 rfl (fun q => q)
  refine j_aload_n 0 dX0_remember_0 rfl rfl ?_
  refine j_getI 0 16 15 dX0_remember_1 fl_RX0_66 (by decide) rfl (by decide) rfl (fun x8 => ?_)
  refine j_bipush (x := 8) dX0_remember_4 (by decide) ?_
  refine j_icmp_lt (tgt := 58) dX0_remember_6 (by decide) (fun c9 => ?_) (fun c9 => ?_)
  · refine j_pick [0] rfl ?_
    exact hj58 h
  · refine j_aload_n 0 dX0_remember_9 rfl rfl ?_
    refine j_getR 0 16 14 dX0_remember_10 fl_RX0_53 (by decide) rfl (by decide) (fun _ _ _ => rfl) (fun x10 => ?_)
    refine j_iconst (x := 0) dX0_remember_13 (by decide) ?_
    refine j_aald13 dX0_remember_14 (fun x11 => ?_)
    refine j_astore_n (L' := [(1, .ref x11), (0, .ref v0)]) dX0_remember_15 rfl (Nat.le_of_ble_eq_true rfl) rfl ?_
    refine j_iconst (x := 1) dX0_remember_16 (by decide) ?_
    refine j_istore_n (L' := [(2, .int 1), (1, .ref x11), (0, .ref v0)]) dX0_remember_17 rfl (Nat.le_of_ble_eq_true rfl) rfl ?_
    refine j_pick [2, 1, 0] rfl ?_
    refine j_loop (pc := 18) (Lf := fun s18 : Int32 × Hp => [(0, .ref v0), (1, .ref x11), (2, .int s18.1)]) (Hf := fun s18 : Int32 × Hp => s18.2) (fun s18 => ?_) 1000000 (1, h)
    show xJ iX0_remember κ _ 18 [(0, .ref v0), (1, .ref x11), (2, .int s18.1)] [] s18.2 (fX0_remember_b18 v0 x11 s18)
    unfold fX0_remember_b18
    refine j_iload_n 2 dX0_remember_18 rfl rfl ?_
    refine j_bipush (x := 8) dX0_remember_19 (by decide) ?_
    refine j_icmp_ge (tgt := 44) dX0_remember_21 (by decide) (fun c12 => ?_) (fun c12 => ?_)
    · refine j_exit (v0, x11, s18.2) ?_
      show xJ iX0_remember κ _ _ _ _ _ ((xgR s18.2 v0 (0, 16) 14).bind fun x13 => (xsR s18.2 x13 13 7 x11 (5, 5)).bind fun h14 => (xpI h14 v0 (0, 16) 15 7).bind fun h15 => fX0_remember_j58 v0 h15)
      refine j_aload_n 0 dX0_remember_44 rfl rfl ?_
      refine j_getR 0 16 14 dX0_remember_45 fl_RX0_53 (by decide) rfl (by decide) (fun _ _ _ => rfl) (fun x13 => ?_)
      refine j_bipush (x := 7) dX0_remember_48 (by decide) ?_
      refine j_aload_n 1 dX0_remember_50 rfl rfl ?_
      refine j_aast13 dX0_remember_51 (fun h14 => ?_)
      refine j_aload_n 0 dX0_remember_52 rfl rfl ?_
      refine j_bipush (x := 7) dX0_remember_53 (by decide) ?_
      refine j_putI 0 16 15 dX0_remember_55 fl_RX0_66 (by decide) rfl (by decide) rfl rfl (fun h15 => ?_)
      refine j_pick [0] rfl ?_
      exact hj58 h15
    · refine j_aload_n 0 dX0_remember_24 rfl rfl ?_
      refine j_getR 0 16 14 dX0_remember_25 fl_RX0_53 (by decide) rfl (by decide) (fun _ _ _ => rfl) (fun x16 => ?_)
      refine j_iload_n 2 dX0_remember_28 rfl rfl ?_
      refine j_iconst (x := 1) dX0_remember_29 (by decide) ?_
      refine j_isub dX0_remember_30 ?_
      refine j_aload_n 0 dX0_remember_31 rfl rfl ?_
      refine j_getR 0 16 14 dX0_remember_32 fl_RX0_53 (by decide) rfl (by decide) (fun _ _ _ => rfl) (fun x17 => ?_)
      refine j_iload_n 2 dX0_remember_35 rfl rfl ?_
      refine j_aald13 dX0_remember_36 (fun x18 => ?_)
      refine j_aast13 dX0_remember_37 (fun h19 => ?_)
      refine j_iinc (y := s18.1 + 1) (L' := [(2, .int (s18.1 + 1)), (0, .ref v0), (1, .ref x11)]) 2 dX0_remember_38 rfl rfl (Nat.le_of_ble_eq_true rfl) rfl ?_
      refine j_goto (tgt := 18) dX0_remember_41 (by decide) ?_
      refine j_pick [1, 2, 0] rfl ?_
      exact j_again (s18.1 + 1, h19) rfl rfl
def fX0_letOff_j34 (v0 : Nat) (v1 : Nat) (v2 : Int32) (v3 : Int32) (h : Hp) : Option ((Int32 × Hp) ⊕ ((Hp))) :=
  some (Sum.inl (v3 + 1, h))
def fX0_letOff_b2 (v0 : Nat) (v1 : Nat) (v2 : Int32) (s2 : Int32 × Hp) : Option ((Int32 × Hp) ⊕ ((Hp))) :=
  (xgI s2.2 v0 (0, 16) 2).bind fun x1 => if (x1 : Int32) ≤ s2.1 then (some (Sum.inr s2.2)) else ((xgR s2.2 v0 (0, 16) 6).bind fun x3 => (xaI s2.2 x3 10 s2.1).bind fun x4 => if (x4 : Int32) = v2 then ((xgI s2.2 v1 (5, 5) 1).bind fun x6 => (xpI s2.2 v1 (5, 5) 1 (x6 &&& ((1 <<< (s2.1 &&& 31)) ^^^ (-1)))).bind fun h7 => fX0_letOff_j34 v0 v1 v2 s2.1 h7) else (fX0_letOff_j34 v0 v1 v2 s2.1 s2.2))
def fX0_letOff (v0 : Nat) (v1 : Nat) (v2 : Int32) (h : Hp) : Option (Hp) :=
  (xloop (fX0_letOff_b2 v0 v1 v2) 1000000 (0, h)).bind (fun r2 => some r2)
abbrev iX0_letOff : xI := (cX0_letOff, yX0_letOff.cls, yX0_letOff.name, none, 4, 2)
set_option maxHeartbeats 4000000 in
set_option maxRecDepth 100000 in
theorem kX0_letOff (l : Launch) (η : xEnv) (v0 : Nat) (v1 : Nat) (v2 : Int32) (h : Hp) (x : Hp) (hx : fX0_letOff v0 v1 v2 h = some x) : xC l η yX0_letOff cX0_letOff 4 none 2 [.ref v0, .ref v1, .int v2] h none x := by
  refine xC_of (by decide) (Nat.le_of_ble_eq_true rfl) hx (fun κ x => κ.2.2.2.1 = none ∧ κ.2.2.2.2 = x) ⟨rfl, rfl⟩ (fun κ => ?_)
  show xJ iX0_letOff κ _ 0 [(0, .ref v0), (1, .ref v1), (2, .int v2)] [] h (fX0_letOff v0 v1 v2 h)
  unfold fX0_letOff
  refine j_iconst (x := 0) dX0_letOff_0 (by decide) ?_
  refine j_istore_n (L' := [(3, .int 0), (0, .ref v0), (1, .ref v1), (2, .int v2)]) dX0_letOff_1 rfl (Nat.le_of_ble_eq_true rfl) rfl ?_
  refine j_pick [1, 2, 3, 0] rfl ?_
  refine j_loop (pc := 2) (Lf := fun s2 : Int32 × Hp => [(0, .ref v0), (1, .ref v1), (2, .int v2), (3, .int s2.1)]) (Hf := fun s2 : Int32 × Hp => s2.2) (fun s2 => ?_) 1000000 (0, h)
  show xJ iX0_letOff κ _ 2 [(0, .ref v0), (1, .ref v1), (2, .int v2), (3, .int s2.1)] [] s2.2 (fX0_letOff_b2 v0 v1 v2 s2)
  unfold fX0_letOff_b2
  refine j_have (pj := 34) (Lf := fun v : Int32 × Hp => [(0, .ref v0), (1, .ref v1), (2, .int v2), (3, .int v.1)]) (Sf := fun v : Int32 × Hp => []) (Hf := fun v : Int32 × Hp => v.2) (jf := fun v : Int32 × Hp => fX0_letOff_j34 v0 v1 v2 v.1 v.2) (fun v => ?_) (fun hj34 => ?_)
  · obtain ⟨v3, h⟩ := v
    show xJ iX0_letOff κ _ 34 [(0, .ref v0), (1, .ref v1), (2, .int v2), (3, .int v3)] [] h (fX0_letOff_j34 v0 v1 v2 v3 h)
    unfold fX0_letOff_j34
    refine j_iinc (y := v3 + 1) (L' := [(3, .int (v3 + 1)), (0, .ref v0), (1, .ref v1), (2, .int v2)]) 3 dX0_letOff_34 rfl rfl (Nat.le_of_ble_eq_true rfl) rfl ?_
    refine j_goto (tgt := 2) dX0_letOff_37 (by decide) ?_
    refine j_pick [1, 2, 3, 0] rfl ?_
    exact j_again (v3 + 1, h) rfl rfl
  refine j_iload_n 3 dX0_letOff_2 rfl rfl ?_
  refine j_aload_n 0 dX0_letOff_3 rfl rfl ?_
  refine j_getI 0 16 2 dX0_letOff_4 fl_RX0_57 (by decide) rfl (by decide) rfl (fun x1 => ?_)
  refine j_icmp_ge (tgt := 40) dX0_letOff_7 (by decide) (fun c2 => ?_) (fun c2 => ?_)
  · refine j_exit s2.2 ?_
    show xJ iX0_letOff κ _ _ _ _ _ (some s2.2)
    exact j_vret s2.2 dX0_letOff_40 rfl (fun q => q)
  · refine j_aload_n 0 dX0_letOff_10 rfl rfl ?_
    refine j_getR 0 16 6 dX0_letOff_11 fl_RX0_28 (by decide) rfl (by decide) (fun _ _ _ => rfl) (fun x3 => ?_)
    refine j_iload_n 3 dX0_letOff_14 rfl rfl ?_
    refine j_iald dX0_letOff_15 (fun x4 => ?_)
    refine j_iload_n 2 dX0_letOff_16 rfl rfl ?_
    refine j_icmp_ne (tgt := 34) dX0_letOff_17 (by decide) (fun c5 => ?_) (fun c5 => ?_)
    · refine j_aload_n 1 dX0_letOff_20 rfl rfl ?_
      refine j_dup dX0_letOff_21 rfl ?_
      refine j_getI 5 5 1 dX0_letOff_22 fl_RX0_109 (by decide) rfl (by decide) rfl (fun x6 => ?_)
      refine j_iconst (x := 1) dX0_letOff_25 (by decide) ?_
      refine j_iload_n 3 dX0_letOff_26 rfl rfl ?_
      refine j_ishl dX0_letOff_27 ?_
      refine j_iconst (x := (-1)) dX0_letOff_28 (by decide) ?_
      refine j_ixor dX0_letOff_29 ?_
      refine j_iand dX0_letOff_30 ?_
      refine j_putI 5 5 1 dX0_letOff_31 fl_RX0_109 (by decide) rfl (by decide) rfl rfl (fun h7 => ?_)
      refine j_pick [0, 1, 2, 3] rfl ?_
      exact hj34 (s2.1, h7)
    · refine j_pick [0, 1, 2, 3] rfl ?_
      exact hj34 (s2.1, s2.2)
def fJ6_bitCount_0f7a4 (v0 : Int32) (h : Hp) : Option (Int32) :=
  some ((((((((v0 - ((((v0 : Int32).toUInt32 >>> ((1 : Int32).toUInt32 &&& Int32.toUInt32 31)).toInt32) &&& 1431655765)) &&& 858993459) + (((((v0 - ((((v0 : Int32).toUInt32 >>> ((1 : Int32).toUInt32 &&& Int32.toUInt32 31)).toInt32) &&& 1431655765)) : Int32).toUInt32 >>> ((2 : Int32).toUInt32 &&& Int32.toUInt32 31)).toInt32) &&& 858993459)) + ((((((v0 - ((((v0 : Int32).toUInt32 >>> ((1 : Int32).toUInt32 &&& Int32.toUInt32 31)).toInt32) &&& 1431655765)) &&& 858993459) + (((((v0 - ((((v0 : Int32).toUInt32 >>> ((1 : Int32).toUInt32 &&& Int32.toUInt32 31)).toInt32) &&& 1431655765)) : Int32).toUInt32 >>> ((2 : Int32).toUInt32 &&& Int32.toUInt32 31)).toInt32) &&& 858993459)) : Int32).toUInt32 >>> ((4 : Int32).toUInt32 &&& Int32.toUInt32 31)).toInt32)) &&& 252645135) + ((((((((v0 - ((((v0 : Int32).toUInt32 >>> ((1 : Int32).toUInt32 &&& Int32.toUInt32 31)).toInt32) &&& 1431655765)) &&& 858993459) + (((((v0 - ((((v0 : Int32).toUInt32 >>> ((1 : Int32).toUInt32 &&& Int32.toUInt32 31)).toInt32) &&& 1431655765)) : Int32).toUInt32 >>> ((2 : Int32).toUInt32 &&& Int32.toUInt32 31)).toInt32) &&& 858993459)) + ((((((v0 - ((((v0 : Int32).toUInt32 >>> ((1 : Int32).toUInt32 &&& Int32.toUInt32 31)).toInt32) &&& 1431655765)) &&& 858993459) + (((((v0 - ((((v0 : Int32).toUInt32 >>> ((1 : Int32).toUInt32 &&& Int32.toUInt32 31)).toInt32) &&& 1431655765)) : Int32).toUInt32 >>> ((2 : Int32).toUInt32 &&& Int32.toUInt32 31)).toInt32) &&& 858993459)) : Int32).toUInt32 >>> ((4 : Int32).toUInt32 &&& Int32.toUInt32 31)).toInt32)) &&& 252645135) : Int32).toUInt32 >>> ((8 : Int32).toUInt32 &&& Int32.toUInt32 31)).toInt32)) + (((((((((v0 - ((((v0 : Int32).toUInt32 >>> ((1 : Int32).toUInt32 &&& Int32.toUInt32 31)).toInt32) &&& 1431655765)) &&& 858993459) + (((((v0 - ((((v0 : Int32).toUInt32 >>> ((1 : Int32).toUInt32 &&& Int32.toUInt32 31)).toInt32) &&& 1431655765)) : Int32).toUInt32 >>> ((2 : Int32).toUInt32 &&& Int32.toUInt32 31)).toInt32) &&& 858993459)) + ((((((v0 - ((((v0 : Int32).toUInt32 >>> ((1 : Int32).toUInt32 &&& Int32.toUInt32 31)).toInt32) &&& 1431655765)) &&& 858993459) + (((((v0 - ((((v0 : Int32).toUInt32 >>> ((1 : Int32).toUInt32 &&& Int32.toUInt32 31)).toInt32) &&& 1431655765)) : Int32).toUInt32 >>> ((2 : Int32).toUInt32 &&& Int32.toUInt32 31)).toInt32) &&& 858993459)) : Int32).toUInt32 >>> ((4 : Int32).toUInt32 &&& Int32.toUInt32 31)).toInt32)) &&& 252645135) + ((((((((v0 - ((((v0 : Int32).toUInt32 >>> ((1 : Int32).toUInt32 &&& Int32.toUInt32 31)).toInt32) &&& 1431655765)) &&& 858993459) + (((((v0 - ((((v0 : Int32).toUInt32 >>> ((1 : Int32).toUInt32 &&& Int32.toUInt32 31)).toInt32) &&& 1431655765)) : Int32).toUInt32 >>> ((2 : Int32).toUInt32 &&& Int32.toUInt32 31)).toInt32) &&& 858993459)) + ((((((v0 - ((((v0 : Int32).toUInt32 >>> ((1 : Int32).toUInt32 &&& Int32.toUInt32 31)).toInt32) &&& 1431655765)) &&& 858993459) + (((((v0 - ((((v0 : Int32).toUInt32 >>> ((1 : Int32).toUInt32 &&& Int32.toUInt32 31)).toInt32) &&& 1431655765)) : Int32).toUInt32 >>> ((2 : Int32).toUInt32 &&& Int32.toUInt32 31)).toInt32) &&& 858993459)) : Int32).toUInt32 >>> ((4 : Int32).toUInt32 &&& Int32.toUInt32 31)).toInt32)) &&& 252645135) : Int32).toUInt32 >>> ((8 : Int32).toUInt32 &&& Int32.toUInt32 31)).toInt32)) : Int32).toUInt32 >>> ((16 : Int32).toUInt32 &&& Int32.toUInt32 31)).toInt32)) &&& 63)
abbrev iJ6_bitCount_0f7a4 : xI := (cJ6_bitCount_0f7a4, yJ6_bitCount_0f7a4.cls, yJ6_bitCount_0f7a4.name, some .int, 1, 2)
set_option maxHeartbeats 4000000 in
set_option maxRecDepth 100000 in
theorem kJ6_bitCount_0f7a4 (l : Launch) (η : xEnv) (v0 : Int32) (h : Hp) (x : Int32) (hx : fJ6_bitCount_0f7a4 v0 h = some x) : xC l η yJ6_bitCount_0f7a4 cJ6_bitCount_0f7a4 1 (some .int) 2 [.int v0] h (some (.int x)) h := by
  refine xC_of (by decide) (Nat.le_of_ble_eq_true rfl) hx (fun κ x => κ.2.2.2.1 = some (.int x) ∧ κ.2.2.2.2 = h) ⟨rfl, rfl⟩ (fun κ => ?_)
  show xJ iJ6_bitCount_0f7a4 κ _ 0 [(0, .int v0)] [] h (fJ6_bitCount_0f7a4 v0 h)
  unfold fJ6_bitCount_0f7a4
  refine j_iload_n 0 dJ6_bitCount_0f7a4_0 rfl rfl ?_
  refine j_iload_n 0 dJ6_bitCount_0f7a4_1 rfl rfl ?_
  refine j_iconst (x := 1) dJ6_bitCount_0f7a4_2 (by decide) ?_
  refine j_iushr dJ6_bitCount_0f7a4_3 ?_
  refine j_ldcw dJ6_bitCount_0f7a4_4 ct_RJ6_265 ?_
  refine j_iand dJ6_bitCount_0f7a4_7 ?_
  refine j_isub dJ6_bitCount_0f7a4_8 ?_
  refine j_istore_n (L' := [(0, .int (v0 - ((((v0 : Int32).toUInt32 >>> ((1 : Int32).toUInt32 &&& Int32.toUInt32 31)).toInt32) &&& 1431655765)))]) dJ6_bitCount_0f7a4_9 rfl (Nat.le_of_ble_eq_true rfl) rfl ?_
  refine j_iload_n 0 dJ6_bitCount_0f7a4_10 rfl rfl ?_
  refine j_ldcw dJ6_bitCount_0f7a4_11 ct_RJ6_266 ?_
  refine j_iand dJ6_bitCount_0f7a4_14 ?_
  refine j_iload_n 0 dJ6_bitCount_0f7a4_15 rfl rfl ?_
  refine j_iconst (x := 2) dJ6_bitCount_0f7a4_16 (by decide) ?_
  refine j_iushr dJ6_bitCount_0f7a4_17 ?_
  refine j_ldcw dJ6_bitCount_0f7a4_18 ct_RJ6_266 ?_
  refine j_iand dJ6_bitCount_0f7a4_21 ?_
  refine j_iadd dJ6_bitCount_0f7a4_22 ?_
  refine j_istore_n (L' := [(0, .int (((v0 - ((((v0 : Int32).toUInt32 >>> ((1 : Int32).toUInt32 &&& Int32.toUInt32 31)).toInt32) &&& 1431655765)) &&& 858993459) + (((((v0 - ((((v0 : Int32).toUInt32 >>> ((1 : Int32).toUInt32 &&& Int32.toUInt32 31)).toInt32) &&& 1431655765)) : Int32).toUInt32 >>> ((2 : Int32).toUInt32 &&& Int32.toUInt32 31)).toInt32) &&& 858993459)))]) dJ6_bitCount_0f7a4_23 rfl (Nat.le_of_ble_eq_true rfl) rfl ?_
  refine j_iload_n 0 dJ6_bitCount_0f7a4_24 rfl rfl ?_
  refine j_iload_n 0 dJ6_bitCount_0f7a4_25 rfl rfl ?_
  refine j_iconst (x := 4) dJ6_bitCount_0f7a4_26 (by decide) ?_
  refine j_iushr dJ6_bitCount_0f7a4_27 ?_
  refine j_iadd dJ6_bitCount_0f7a4_28 ?_
  refine j_ldcw dJ6_bitCount_0f7a4_29 ct_RJ6_267 ?_
  refine j_iand dJ6_bitCount_0f7a4_32 ?_
  refine j_istore_n (L' := [(0, .int (((((v0 - ((((v0 : Int32).toUInt32 >>> ((1 : Int32).toUInt32 &&& Int32.toUInt32 31)).toInt32) &&& 1431655765)) &&& 858993459) + (((((v0 - ((((v0 : Int32).toUInt32 >>> ((1 : Int32).toUInt32 &&& Int32.toUInt32 31)).toInt32) &&& 1431655765)) : Int32).toUInt32 >>> ((2 : Int32).toUInt32 &&& Int32.toUInt32 31)).toInt32) &&& 858993459)) + ((((((v0 - ((((v0 : Int32).toUInt32 >>> ((1 : Int32).toUInt32 &&& Int32.toUInt32 31)).toInt32) &&& 1431655765)) &&& 858993459) + (((((v0 - ((((v0 : Int32).toUInt32 >>> ((1 : Int32).toUInt32 &&& Int32.toUInt32 31)).toInt32) &&& 1431655765)) : Int32).toUInt32 >>> ((2 : Int32).toUInt32 &&& Int32.toUInt32 31)).toInt32) &&& 858993459)) : Int32).toUInt32 >>> ((4 : Int32).toUInt32 &&& Int32.toUInt32 31)).toInt32)) &&& 252645135))]) dJ6_bitCount_0f7a4_33 rfl (Nat.le_of_ble_eq_true rfl) rfl ?_
  refine j_iload_n 0 dJ6_bitCount_0f7a4_34 rfl rfl ?_
  refine j_iload_n 0 dJ6_bitCount_0f7a4_35 rfl rfl ?_
  refine j_bipush (x := 8) dJ6_bitCount_0f7a4_36 (by decide) ?_
  refine j_iushr dJ6_bitCount_0f7a4_38 ?_
  refine j_iadd dJ6_bitCount_0f7a4_39 ?_
  refine j_istore_n (L' := [(0, .int ((((((v0 - ((((v0 : Int32).toUInt32 >>> ((1 : Int32).toUInt32 &&& Int32.toUInt32 31)).toInt32) &&& 1431655765)) &&& 858993459) + (((((v0 - ((((v0 : Int32).toUInt32 >>> ((1 : Int32).toUInt32 &&& Int32.toUInt32 31)).toInt32) &&& 1431655765)) : Int32).toUInt32 >>> ((2 : Int32).toUInt32 &&& Int32.toUInt32 31)).toInt32) &&& 858993459)) + ((((((v0 - ((((v0 : Int32).toUInt32 >>> ((1 : Int32).toUInt32 &&& Int32.toUInt32 31)).toInt32) &&& 1431655765)) &&& 858993459) + (((((v0 - ((((v0 : Int32).toUInt32 >>> ((1 : Int32).toUInt32 &&& Int32.toUInt32 31)).toInt32) &&& 1431655765)) : Int32).toUInt32 >>> ((2 : Int32).toUInt32 &&& Int32.toUInt32 31)).toInt32) &&& 858993459)) : Int32).toUInt32 >>> ((4 : Int32).toUInt32 &&& Int32.toUInt32 31)).toInt32)) &&& 252645135) + ((((((((v0 - ((((v0 : Int32).toUInt32 >>> ((1 : Int32).toUInt32 &&& Int32.toUInt32 31)).toInt32) &&& 1431655765)) &&& 858993459) + (((((v0 - ((((v0 : Int32).toUInt32 >>> ((1 : Int32).toUInt32 &&& Int32.toUInt32 31)).toInt32) &&& 1431655765)) : Int32).toUInt32 >>> ((2 : Int32).toUInt32 &&& Int32.toUInt32 31)).toInt32) &&& 858993459)) + ((((((v0 - ((((v0 : Int32).toUInt32 >>> ((1 : Int32).toUInt32 &&& Int32.toUInt32 31)).toInt32) &&& 1431655765)) &&& 858993459) + (((((v0 - ((((v0 : Int32).toUInt32 >>> ((1 : Int32).toUInt32 &&& Int32.toUInt32 31)).toInt32) &&& 1431655765)) : Int32).toUInt32 >>> ((2 : Int32).toUInt32 &&& Int32.toUInt32 31)).toInt32) &&& 858993459)) : Int32).toUInt32 >>> ((4 : Int32).toUInt32 &&& Int32.toUInt32 31)).toInt32)) &&& 252645135) : Int32).toUInt32 >>> ((8 : Int32).toUInt32 &&& Int32.toUInt32 31)).toInt32)))]) dJ6_bitCount_0f7a4_40 rfl (Nat.le_of_ble_eq_true rfl) rfl ?_
  refine j_iload_n 0 dJ6_bitCount_0f7a4_41 rfl rfl ?_
  refine j_iload_n 0 dJ6_bitCount_0f7a4_42 rfl rfl ?_
  refine j_bipush (x := 16) dJ6_bitCount_0f7a4_43 (by decide) ?_
  refine j_iushr dJ6_bitCount_0f7a4_45 ?_
  refine j_iadd dJ6_bitCount_0f7a4_46 ?_
  refine j_istore_n (L' := [(0, .int (((((((v0 - ((((v0 : Int32).toUInt32 >>> ((1 : Int32).toUInt32 &&& Int32.toUInt32 31)).toInt32) &&& 1431655765)) &&& 858993459) + (((((v0 - ((((v0 : Int32).toUInt32 >>> ((1 : Int32).toUInt32 &&& Int32.toUInt32 31)).toInt32) &&& 1431655765)) : Int32).toUInt32 >>> ((2 : Int32).toUInt32 &&& Int32.toUInt32 31)).toInt32) &&& 858993459)) + ((((((v0 - ((((v0 : Int32).toUInt32 >>> ((1 : Int32).toUInt32 &&& Int32.toUInt32 31)).toInt32) &&& 1431655765)) &&& 858993459) + (((((v0 - ((((v0 : Int32).toUInt32 >>> ((1 : Int32).toUInt32 &&& Int32.toUInt32 31)).toInt32) &&& 1431655765)) : Int32).toUInt32 >>> ((2 : Int32).toUInt32 &&& Int32.toUInt32 31)).toInt32) &&& 858993459)) : Int32).toUInt32 >>> ((4 : Int32).toUInt32 &&& Int32.toUInt32 31)).toInt32)) &&& 252645135) + ((((((((v0 - ((((v0 : Int32).toUInt32 >>> ((1 : Int32).toUInt32 &&& Int32.toUInt32 31)).toInt32) &&& 1431655765)) &&& 858993459) + (((((v0 - ((((v0 : Int32).toUInt32 >>> ((1 : Int32).toUInt32 &&& Int32.toUInt32 31)).toInt32) &&& 1431655765)) : Int32).toUInt32 >>> ((2 : Int32).toUInt32 &&& Int32.toUInt32 31)).toInt32) &&& 858993459)) + ((((((v0 - ((((v0 : Int32).toUInt32 >>> ((1 : Int32).toUInt32 &&& Int32.toUInt32 31)).toInt32) &&& 1431655765)) &&& 858993459) + (((((v0 - ((((v0 : Int32).toUInt32 >>> ((1 : Int32).toUInt32 &&& Int32.toUInt32 31)).toInt32) &&& 1431655765)) : Int32).toUInt32 >>> ((2 : Int32).toUInt32 &&& Int32.toUInt32 31)).toInt32) &&& 858993459)) : Int32).toUInt32 >>> ((4 : Int32).toUInt32 &&& Int32.toUInt32 31)).toInt32)) &&& 252645135) : Int32).toUInt32 >>> ((8 : Int32).toUInt32 &&& Int32.toUInt32 31)).toInt32)) + (((((((((v0 - ((((v0 : Int32).toUInt32 >>> ((1 : Int32).toUInt32 &&& Int32.toUInt32 31)).toInt32) &&& 1431655765)) &&& 858993459) + (((((v0 - ((((v0 : Int32).toUInt32 >>> ((1 : Int32).toUInt32 &&& Int32.toUInt32 31)).toInt32) &&& 1431655765)) : Int32).toUInt32 >>> ((2 : Int32).toUInt32 &&& Int32.toUInt32 31)).toInt32) &&& 858993459)) + ((((((v0 - ((((v0 : Int32).toUInt32 >>> ((1 : Int32).toUInt32 &&& Int32.toUInt32 31)).toInt32) &&& 1431655765)) &&& 858993459) + (((((v0 - ((((v0 : Int32).toUInt32 >>> ((1 : Int32).toUInt32 &&& Int32.toUInt32 31)).toInt32) &&& 1431655765)) : Int32).toUInt32 >>> ((2 : Int32).toUInt32 &&& Int32.toUInt32 31)).toInt32) &&& 858993459)) : Int32).toUInt32 >>> ((4 : Int32).toUInt32 &&& Int32.toUInt32 31)).toInt32)) &&& 252645135) + ((((((((v0 - ((((v0 : Int32).toUInt32 >>> ((1 : Int32).toUInt32 &&& Int32.toUInt32 31)).toInt32) &&& 1431655765)) &&& 858993459) + (((((v0 - ((((v0 : Int32).toUInt32 >>> ((1 : Int32).toUInt32 &&& Int32.toUInt32 31)).toInt32) &&& 1431655765)) : Int32).toUInt32 >>> ((2 : Int32).toUInt32 &&& Int32.toUInt32 31)).toInt32) &&& 858993459)) + ((((((v0 - ((((v0 : Int32).toUInt32 >>> ((1 : Int32).toUInt32 &&& Int32.toUInt32 31)).toInt32) &&& 1431655765)) &&& 858993459) + (((((v0 - ((((v0 : Int32).toUInt32 >>> ((1 : Int32).toUInt32 &&& Int32.toUInt32 31)).toInt32) &&& 1431655765)) : Int32).toUInt32 >>> ((2 : Int32).toUInt32 &&& Int32.toUInt32 31)).toInt32) &&& 858993459)) : Int32).toUInt32 >>> ((4 : Int32).toUInt32 &&& Int32.toUInt32 31)).toInt32)) &&& 252645135) : Int32).toUInt32 >>> ((8 : Int32).toUInt32 &&& Int32.toUInt32 31)).toInt32)) : Int32).toUInt32 >>> ((16 : Int32).toUInt32 &&& Int32.toUInt32 31)).toInt32)))]) dJ6_bitCount_0f7a4_47 rfl (Nat.le_of_ble_eq_true rfl) rfl ?_
  refine j_iload_n 0 dJ6_bitCount_0f7a4_48 rfl rfl ?_
  refine j_bipush (x := 63) dJ6_bitCount_0f7a4_49 (by decide) ?_
  refine j_iand dJ6_bitCount_0f7a4_51 ?_
  exact j_iret ((((((((v0 - ((((v0 : Int32).toUInt32 >>> ((1 : Int32).toUInt32 &&& Int32.toUInt32 31)).toInt32) &&& 1431655765)) &&& 858993459) + (((((v0 - ((((v0 : Int32).toUInt32 >>> ((1 : Int32).toUInt32 &&& Int32.toUInt32 31)).toInt32) &&& 1431655765)) : Int32).toUInt32 >>> ((2 : Int32).toUInt32 &&& Int32.toUInt32 31)).toInt32) &&& 858993459)) + ((((((v0 - ((((v0 : Int32).toUInt32 >>> ((1 : Int32).toUInt32 &&& Int32.toUInt32 31)).toInt32) &&& 1431655765)) &&& 858993459) + (((((v0 - ((((v0 : Int32).toUInt32 >>> ((1 : Int32).toUInt32 &&& Int32.toUInt32 31)).toInt32) &&& 1431655765)) : Int32).toUInt32 >>> ((2 : Int32).toUInt32 &&& Int32.toUInt32 31)).toInt32) &&& 858993459)) : Int32).toUInt32 >>> ((4 : Int32).toUInt32 &&& Int32.toUInt32 31)).toInt32)) &&& 252645135) + ((((((((v0 - ((((v0 : Int32).toUInt32 >>> ((1 : Int32).toUInt32 &&& Int32.toUInt32 31)).toInt32) &&& 1431655765)) &&& 858993459) + (((((v0 - ((((v0 : Int32).toUInt32 >>> ((1 : Int32).toUInt32 &&& Int32.toUInt32 31)).toInt32) &&& 1431655765)) : Int32).toUInt32 >>> ((2 : Int32).toUInt32 &&& Int32.toUInt32 31)).toInt32) &&& 858993459)) + ((((((v0 - ((((v0 : Int32).toUInt32 >>> ((1 : Int32).toUInt32 &&& Int32.toUInt32 31)).toInt32) &&& 1431655765)) &&& 858993459) + (((((v0 - ((((v0 : Int32).toUInt32 >>> ((1 : Int32).toUInt32 &&& Int32.toUInt32 31)).toInt32) &&& 1431655765)) : Int32).toUInt32 >>> ((2 : Int32).toUInt32 &&& Int32.toUInt32 31)).toInt32) &&& 858993459)) : Int32).toUInt32 >>> ((4 : Int32).toUInt32 &&& Int32.toUInt32 31)).toInt32)) &&& 252645135) : Int32).toUInt32 >>> ((8 : Int32).toUInt32 &&& Int32.toUInt32 31)).toInt32)) + (((((((((v0 - ((((v0 : Int32).toUInt32 >>> ((1 : Int32).toUInt32 &&& Int32.toUInt32 31)).toInt32) &&& 1431655765)) &&& 858993459) + (((((v0 - ((((v0 : Int32).toUInt32 >>> ((1 : Int32).toUInt32 &&& Int32.toUInt32 31)).toInt32) &&& 1431655765)) : Int32).toUInt32 >>> ((2 : Int32).toUInt32 &&& Int32.toUInt32 31)).toInt32) &&& 858993459)) + ((((((v0 - ((((v0 : Int32).toUInt32 >>> ((1 : Int32).toUInt32 &&& Int32.toUInt32 31)).toInt32) &&& 1431655765)) &&& 858993459) + (((((v0 - ((((v0 : Int32).toUInt32 >>> ((1 : Int32).toUInt32 &&& Int32.toUInt32 31)).toInt32) &&& 1431655765)) : Int32).toUInt32 >>> ((2 : Int32).toUInt32 &&& Int32.toUInt32 31)).toInt32) &&& 858993459)) : Int32).toUInt32 >>> ((4 : Int32).toUInt32 &&& Int32.toUInt32 31)).toInt32)) &&& 252645135) + ((((((((v0 - ((((v0 : Int32).toUInt32 >>> ((1 : Int32).toUInt32 &&& Int32.toUInt32 31)).toInt32) &&& 1431655765)) &&& 858993459) + (((((v0 - ((((v0 : Int32).toUInt32 >>> ((1 : Int32).toUInt32 &&& Int32.toUInt32 31)).toInt32) &&& 1431655765)) : Int32).toUInt32 >>> ((2 : Int32).toUInt32 &&& Int32.toUInt32 31)).toInt32) &&& 858993459)) + ((((((v0 - ((((v0 : Int32).toUInt32 >>> ((1 : Int32).toUInt32 &&& Int32.toUInt32 31)).toInt32) &&& 1431655765)) &&& 858993459) + (((((v0 - ((((v0 : Int32).toUInt32 >>> ((1 : Int32).toUInt32 &&& Int32.toUInt32 31)).toInt32) &&& 1431655765)) : Int32).toUInt32 >>> ((2 : Int32).toUInt32 &&& Int32.toUInt32 31)).toInt32) &&& 858993459)) : Int32).toUInt32 >>> ((4 : Int32).toUInt32 &&& Int32.toUInt32 31)).toInt32)) &&& 252645135) : Int32).toUInt32 >>> ((8 : Int32).toUInt32 &&& Int32.toUInt32 31)).toInt32)) : Int32).toUInt32 >>> ((16 : Int32).toUInt32 &&& Int32.toUInt32 31)).toInt32)) &&& 63) dJ6_bitCount_0f7a4_52 rfl (fun q => q)
def fX0_letOn_j106  (h : Hp) : Option (Hp) :=
  some h
def fX0_letOn_j100 (v0 : Nat) (v1 : Nat) (v2 : Int32) (v3 : Nat) (v4 : Int32) (h : Hp) : Option ((Int32 × Hp) ⊕ ((Hp))) :=
  some (Sum.inl (v4 + 1, h))
def fX0_letOn_j64 (v0 : Nat) (v1 : Nat) (v2 : Int32) (v3 : Nat) (v4 : Int32) (t0 : Int32) (h : Hp) : Option ((Int32 × Hp) ⊕ ((Hp))) :=
  if (t0 : Int32) = 0 then ((xgI h v1 (5, 5) 3).bind fun x2 => (xpI h v1 (5, 5) 3 (x2 ||| (1 <<< (v4 &&& 31)))).bind fun h3 => fX0_letOn_j100 v0 v1 v2 v3 v4 h3) else ((xgI h v1 (5, 5) 1).bind fun x4 => (xpI h v1 (5, 5) 1 (x4 ||| (1 <<< (v4 &&& 31)))).bind fun h5 => fX0_letOn_j100 v0 v1 v2 v3 v4 h5)
def fX0_letOn_j63 (v0 : Nat) (v1 : Nat) (v2 : Int32) (v3 : Nat) (v4 : Int32) (h : Hp) : Option ((Int32 × Hp) ⊕ ((Hp))) :=
  fX0_letOn_j64 v0 v1 v2 v3 v4 0 h
def fX0_letOn_b3 (v0 : Nat) (v1 : Nat) (v2 : Int32) (v3 : Nat) (s3 : Int32 × Hp) : Option ((Int32 × Hp) ⊕ ((Hp))) :=
  (xgI s3.2 v0 (0, 16) 2).bind fun x6 => if (x6 : Int32) ≤ s3.1 then (some (Sum.inr s3.2)) else ((xal s3.2 v3).bind fun x8 => if (x8 : Int32) ≤ s3.1 then (some (Sum.inr s3.2)) else ((xaI s3.2 v3 10 s3.1).bind fun x10 => if (x10 : Int32) = v2 then ((xgI s3.2 v1 (5, 5) 1).bind fun x12 => (fJ6_bitCount_0f7a4 x12 s3.2).bind fun x13 => (xgI s3.2 v0 (0, 16) 0).bind fun x14 => if (x14 : Int32) ≤ x13 then (fX0_letOn_j63 v0 v1 v2 v3 s3.1 s3.2) else ((xgR s3.2 v0 (0, 16) 7).bind fun x16 => (xaI s3.2 x16 10 s3.1).bind fun x17 => (xgI s3.2 v1 (5, 5) 1).bind fun x18 => if (x17 &&& x18 : Int32) = 0 then (fX0_letOn_j64 v0 v1 v2 v3 s3.1 1 s3.2) else (fX0_letOn_j63 v0 v1 v2 v3 s3.1 s3.2))) else (fX0_letOn_j100 v0 v1 v2 v3 s3.1 s3.2)))
def fX0_letOn (v0 : Nat) (v1 : Nat) (v2 : Int32) (v3 : Nat) (h : Hp) : Option (Hp) :=
  (xloop (fX0_letOn_b3 v0 v1 v2 v3) 1000000 (0, h)).bind (fun r3 => fX0_letOn_j106 r3)
abbrev iX0_letOn : xI := (cX0_letOn, yX0_letOn.cls, yX0_letOn.name, none, 6, 3)
set_option maxHeartbeats 4000000 in
set_option maxRecDepth 100000 in
theorem kX0_letOn (l : Launch) (η : xEnv) (v0 : Nat) (v1 : Nat) (v2 : Int32) (v3 : Nat) (h : Hp) (x : Hp) (hx : fX0_letOn v0 v1 v2 v3 h = some x) : xC l η yX0_letOn cX0_letOn 6 none 3 [.ref v0, .ref v1, .int v2, .ref v3] h none x := by
  refine xC_of (by decide) (Nat.le_of_ble_eq_true rfl) hx (fun κ x => κ.2.2.2.1 = none ∧ κ.2.2.2.2 = x) ⟨rfl, rfl⟩ (fun κ => ?_)
  show xJ iX0_letOn κ _ 0 [(0, .ref v0), (1, .ref v1), (2, .int v2), (3, .ref v3)] [] h (fX0_letOn v0 v1 v2 v3 h)
  unfold fX0_letOn
  refine j_have (pj := 106) (Lf := fun v : Hp => []) (Sf := fun v : Hp => []) (Hf := fun v : Hp => v) (jf := fun v : Hp => fX0_letOn_j106 v) (fun v => ?_) (fun hj106 => ?_)
  · generalize v = h
    show xJ iX0_letOn κ _ 106 [] [] h (fX0_letOn_j106 h)
    unfold fX0_letOn_j106
    exact j_vret h dX0_letOn_106 rfl (fun q => q)
  refine j_iconst (x := 0) dX0_letOn_0 (by decide) ?_
  refine j_istore (L' := [(4, .int 0), (0, .ref v0), (1, .ref v1), (2, .int v2), (3, .ref v3)]) dX0_letOn_1 (Nat.le_of_ble_eq_true rfl) rfl ?_
  refine j_pick [1, 2, 3, 4, 0] rfl ?_
  refine j_loop (pc := 3) (Lf := fun s3 : Int32 × Hp => [(0, .ref v0), (1, .ref v1), (2, .int v2), (3, .ref v3), (4, .int s3.1)]) (Hf := fun s3 : Int32 × Hp => s3.2) (fun s3 => ?_) 1000000 (0, h)
  show xJ iX0_letOn κ _ 3 [(0, .ref v0), (1, .ref v1), (2, .int v2), (3, .ref v3), (4, .int s3.1)] [] s3.2 (fX0_letOn_b3 v0 v1 v2 v3 s3)
  unfold fX0_letOn_b3
  refine j_have (pj := 100) (Lf := fun v : Int32 × Hp => [(0, .ref v0), (1, .ref v1), (2, .int v2), (3, .ref v3), (4, .int v.1)]) (Sf := fun v : Int32 × Hp => []) (Hf := fun v : Int32 × Hp => v.2) (jf := fun v : Int32 × Hp => fX0_letOn_j100 v0 v1 v2 v3 v.1 v.2) (fun v => ?_) (fun hj100 => ?_)
  · obtain ⟨v4, h⟩ := v
    show xJ iX0_letOn κ _ 100 [(0, .ref v0), (1, .ref v1), (2, .int v2), (3, .ref v3), (4, .int v4)] [] h (fX0_letOn_j100 v0 v1 v2 v3 v4 h)
    unfold fX0_letOn_j100
    refine j_iinc (y := v4 + 1) (L' := [(4, .int (v4 + 1)), (0, .ref v0), (1, .ref v1), (2, .int v2), (3, .ref v3)]) 4 dX0_letOn_100 rfl rfl (Nat.le_of_ble_eq_true rfl) rfl ?_
    refine j_goto (tgt := 3) dX0_letOn_103 (by decide) ?_
    refine j_pick [1, 2, 3, 4, 0] rfl ?_
    exact j_again (v4 + 1, h) rfl rfl
  refine j_have (pj := 64) (Lf := fun v : Int32 × Int32 × Hp => [(0, .ref v0), (1, .ref v1), (2, .int v2), (3, .ref v3), (4, .int v.1)]) (Sf := fun v : Int32 × Int32 × Hp => [.int v.2.1]) (Hf := fun v : Int32 × Int32 × Hp => v.2.2) (jf := fun v : Int32 × Int32 × Hp => fX0_letOn_j64 v0 v1 v2 v3 v.1 v.2.1 v.2.2) (fun v => ?_) (fun hj64 => ?_)
  · obtain ⟨v4, t0, h⟩ := v
    show xJ iX0_letOn κ _ 64 [(0, .ref v0), (1, .ref v1), (2, .int v2), (3, .ref v3), (4, .int v4)] [.int t0] h (fX0_letOn_j64 v0 v1 v2 v3 v4 t0 h)
    unfold fX0_letOn_j64
    refine j_istore (L' := [(5, .int t0), (0, .ref v0), (1, .ref v1), (2, .int v2), (3, .ref v3), (4, .int v4)]) dX0_letOn_64 (Nat.le_of_ble_eq_true rfl) rfl ?_
    refine j_iload 0 dX0_letOn_66 rfl ?_
    refine j_if_eq (tgt := 87) dX0_letOn_68 (by decide) (fun c1 => ?_) (fun c1 => ?_)
    · refine j_aload_n 2 dX0_letOn_87 rfl rfl ?_
      refine j_dup dX0_letOn_88 rfl ?_
      refine j_getI 5 5 3 dX0_letOn_89 fl_RX0_122 (by decide) rfl (by decide) rfl (fun x2 => ?_)
      refine j_iconst (x := 1) dX0_letOn_92 (by decide) ?_
      refine j_iload 5 dX0_letOn_93 rfl ?_
      refine j_ishl dX0_letOn_95 ?_
      refine j_ior dX0_letOn_96 ?_
      refine j_putI 5 5 3 dX0_letOn_97 fl_RX0_122 (by decide) rfl (by decide) rfl rfl (fun h3 => ?_)
      refine j_pick [1, 2, 3, 4, 5] rfl ?_
      exact hj100 (v4, h3)
    · refine j_aload_n 2 dX0_letOn_71 rfl rfl ?_
      refine j_dup dX0_letOn_72 rfl ?_
      refine j_getI 5 5 1 dX0_letOn_73 fl_RX0_109 (by decide) rfl (by decide) rfl (fun x4 => ?_)
      refine j_iconst (x := 1) dX0_letOn_76 (by decide) ?_
      refine j_iload 5 dX0_letOn_77 rfl ?_
      refine j_ishl dX0_letOn_79 ?_
      refine j_ior dX0_letOn_80 ?_
      refine j_putI 5 5 1 dX0_letOn_81 fl_RX0_109 (by decide) rfl (by decide) rfl rfl (fun h5 => ?_)
      refine j_goto (tgt := 100) dX0_letOn_84 (by decide) ?_
      refine j_pick [1, 2, 3, 4, 5] rfl ?_
      exact hj100 (v4, h5)
  refine j_have (pj := 63) (Lf := fun v : Int32 × Hp => [(0, .ref v0), (1, .ref v1), (2, .int v2), (3, .ref v3), (4, .int v.1)]) (Sf := fun v : Int32 × Hp => []) (Hf := fun v : Int32 × Hp => v.2) (jf := fun v : Int32 × Hp => fX0_letOn_j63 v0 v1 v2 v3 v.1 v.2) (fun v => ?_) (fun hj63 => ?_)
  · obtain ⟨v4, h⟩ := v
    show xJ iX0_letOn κ _ 63 [(0, .ref v0), (1, .ref v1), (2, .int v2), (3, .ref v3), (4, .int v4)] [] h (fX0_letOn_j63 v0 v1 v2 v3 v4 h)
    unfold fX0_letOn_j63
    refine j_iconst (x := 0) dX0_letOn_63 (by decide) ?_
    refine j_pick [0, 1, 2, 3, 4] rfl ?_
    exact hj64 (v4, 0, h)
  refine j_iload 4 dX0_letOn_3 rfl ?_
  refine j_aload_n 0 dX0_letOn_5 rfl rfl ?_
  refine j_getI 0 16 2 dX0_letOn_6 fl_RX0_57 (by decide) rfl (by decide) rfl (fun x6 => ?_)
  refine j_icmp_ge (tgt := 106) dX0_letOn_9 (by decide) (fun c7 => ?_) (fun c7 => ?_)
  · refine j_exit s3.2 ?_
    show xJ iX0_letOn κ _ _ _ _ _ (fX0_letOn_j106 s3.2)
    refine j_pick [] rfl ?_
    exact hj106 s3.2
  · refine j_iload 4 dX0_letOn_12 rfl ?_
    refine j_aload_n 3 dX0_letOn_14 rfl rfl ?_
    refine j_alen dX0_letOn_15 (fun x8 => ?_)
    refine j_icmp_ge (tgt := 106) dX0_letOn_16 (by decide) (fun c9 => ?_) (fun c9 => ?_)
    · refine j_exit s3.2 ?_
      show xJ iX0_letOn κ _ _ _ _ _ (fX0_letOn_j106 s3.2)
      refine j_pick [] rfl ?_
      exact hj106 s3.2
    · refine j_aload_n 3 dX0_letOn_19 rfl rfl ?_
      refine j_iload 4 dX0_letOn_20 rfl ?_
      refine j_iald dX0_letOn_22 (fun x10 => ?_)
      refine j_iload_n 2 dX0_letOn_23 rfl rfl ?_
      refine j_icmp_eq (tgt := 30) dX0_letOn_24 (by decide) (fun c11 => ?_) (fun c11 => ?_)
      · refine j_aload_n 1 dX0_letOn_30 rfl rfl ?_
        refine j_getI 5 5 1 dX0_letOn_31 fl_RX0_109 (by decide) rfl (by decide) rfl (fun x12 => ?_)
        refine j_callS (as := [.int x12]) (fun x => some (.int x)) (fun _ => s3.2) dX0_letOn_34 ml_RX0_116 tg_J6_bitCount_0f7a4 st_J6_bitCount_0f7a4 (fun x hx => kJ6_bitCount_0f7a4 κ.1 κ.2.1 x12 s3.2 x hx) (by decide) (by decide) rfl rfl (Nat.le_of_ble_eq_true rfl) (fun x13 => ?_)
        show xJ iX0_letOn κ _ 37 [(0, .ref v0), (1, .ref v1), (2, .int v2), (3, .ref v3), (4, .int s3.1)] [.int x13] s3.2 _
        refine j_aload_n 0 dX0_letOn_37 rfl rfl ?_
        refine j_getI 0 16 0 dX0_letOn_38 fl_RX0_9 (by decide) rfl (by decide) rfl (fun x14 => ?_)
        refine j_icmp_ge (tgt := 63) dX0_letOn_41 (by decide) (fun c15 => ?_) (fun c15 => ?_)
        · refine j_pick [0, 1, 2, 3, 4] rfl ?_
          exact hj63 (s3.1, s3.2)
        · refine j_aload_n 0 dX0_letOn_44 rfl rfl ?_
          refine j_getR 0 16 7 dX0_letOn_45 fl_RX0_31 (by decide) rfl (by decide) (fun _ _ _ => rfl) (fun x16 => ?_)
          refine j_iload 4 dX0_letOn_48 rfl ?_
          refine j_iald dX0_letOn_50 (fun x17 => ?_)
          refine j_aload_n 1 dX0_letOn_51 rfl rfl ?_
          refine j_getI 5 5 1 dX0_letOn_52 fl_RX0_109 (by decide) rfl (by decide) rfl (fun x18 => ?_)
          refine j_iand dX0_letOn_55 ?_
          refine j_if_ne (tgt := 63) dX0_letOn_56 (by decide) (fun c19 => ?_) (fun c19 => ?_)
          · refine j_iconst (x := 1) dX0_letOn_59 (by decide) ?_
            refine j_goto (tgt := 64) dX0_letOn_60 (by decide) ?_
            refine j_pick [0, 1, 2, 3, 4] rfl ?_
            exact hj64 (s3.1, 1, s3.2)
          · refine j_pick [0, 1, 2, 3, 4] rfl ?_
            exact hj63 (s3.1, s3.2)
      · refine j_goto (tgt := 100) dX0_letOn_27 (by decide) ?_
        refine j_pick [0, 1, 2, 3, 4] rfl ?_
        exact hj100 (s3.1, s3.2)
def fX8_tallOf (v0 : Int32) (v1 : Int32) (h : Hp) : Option (Int32) :=
  if (v0 : Int32) = 0 then (some 3) else if (v0 : Int32) = 1 then (some (3 - 1)) else if (v0 : Int32) = 2 then (some 3) else if (v0 : Int32) = 3 then (some (3 + 2)) else if (v0 : Int32) = 4 then (if (3 : Int32) = 0 then none else some ((3 - 1) + (v1 / 3))) else (some ((3 + 2) - 1))
abbrev iX8_tallOf : xI := (cX8_tallOf, yX8_tallOf.cls, yX8_tallOf.name, some .int, 5, 2)
set_option maxHeartbeats 4000000 in
set_option maxRecDepth 100000 in
theorem kX8_tallOf (l : Launch) (η : xEnv) (v0 : Int32) (v1 : Int32) (h : Hp) (x : Int32) (hx : fX8_tallOf v0 v1 h = some x) : xC l η yX8_tallOf cX8_tallOf 5 (some .int) 2 [.int v0, .int v1] h (some (.int x)) h := by
  refine xC_of (by decide) (Nat.le_of_ble_eq_true rfl) hx (fun κ x => κ.2.2.2.1 = some (.int x) ∧ κ.2.2.2.2 = h) ⟨rfl, rfl⟩ (fun κ => ?_)
  show xJ iX8_tallOf κ _ 0 [(0, .int v0), (1, .int v1)] [] h (fX8_tallOf v0 v1 h)
  unfold fX8_tallOf
  refine j_iconst (x := 3) dX8_tallOf_0 (by decide) ?_
  refine j_istore_n (L' := [(2, .int 3), (0, .int v0), (1, .int v1)]) dX8_tallOf_1 rfl (Nat.le_of_ble_eq_true rfl) rfl ?_
  refine j_iload_n 0 dX8_tallOf_2 rfl rfl ?_
  refine j_iconst (x := 1) dX8_tallOf_3 (by decide) ?_
  refine j_isub dX8_tallOf_4 ?_
  refine j_istore_n (L' := [(3, .int (3 - 1)), (2, .int 3), (0, .int v0), (1, .int v1)]) dX8_tallOf_5 rfl (Nat.le_of_ble_eq_true rfl) rfl ?_
  refine j_iload_n 1 dX8_tallOf_6 rfl rfl ?_
  refine j_iconst (x := 2) dX8_tallOf_7 (by decide) ?_
  refine j_iadd dX8_tallOf_8 ?_
  refine j_istore (L' := [(4, .int (3 + 2)), (3, .int (3 - 1)), (2, .int 3), (0, .int v0), (1, .int v1)]) dX8_tallOf_9 (Nat.le_of_ble_eq_true rfl) rfl ?_
  refine j_iload_n 3 dX8_tallOf_11 rfl rfl ?_
  refine j_tabv (w := 0) (off := 36) (tgt := 48) dX8_tallOf_12 (by decide) (by decide) (by decide) (by decide) (fun c1 => ?_) (fun c1 => ?_)
  · refine j_iload_n 2 dX8_tallOf_48 rfl rfl ?_
    exact j_iret 3 dX8_tallOf_49 rfl (fun q => q)
  refine j_tabv (w := 1) (off := 38) (tgt := 50) dX8_tallOf_12 (by decide) (by decide) (by decide) (by decide) (fun c2 => ?_) (fun c2 => ?_)
  · refine j_iload_n 1 dX8_tallOf_50 rfl rfl ?_
    exact j_iret (3 - 1) dX8_tallOf_51 rfl (fun q => q)
  refine j_tabv (w := 2) (off := 40) (tgt := 52) dX8_tallOf_12 (by decide) (by decide) (by decide) (by decide) (fun c3 => ?_) (fun c3 => ?_)
  · refine j_iload_n 2 dX8_tallOf_52 rfl rfl ?_
    exact j_iret 3 dX8_tallOf_53 rfl (fun q => q)
  refine j_tabv (w := 3) (off := 42) (tgt := 54) dX8_tallOf_12 (by decide) (by decide) (by decide) (by decide) (fun c4 => ?_) (fun c4 => ?_)
  · refine j_iload 0 dX8_tallOf_54 rfl ?_
    exact j_iret (3 + 2) dX8_tallOf_56 rfl (fun q => q)
  refine j_tabv (w := 4) (off := 45) (tgt := 57) dX8_tallOf_12 (by decide) (by decide) (by decide) (by decide) (fun c5 => ?_) (fun c5 => ?_)
  · refine j_iload_n 1 dX8_tallOf_57 rfl rfl ?_
    refine j_iload_n 4 dX8_tallOf_58 rfl rfl ?_
    refine j_iconst (x := 3) dX8_tallOf_59 (by decide) ?_
    refine j_idiv dX8_tallOf_60 (fun c6 => ?_)
    refine j_iadd dX8_tallOf_61 ?_
    exact j_iret ((3 - 1) + (v1 / 3)) dX8_tallOf_62 rfl (fun q => q)
  refine j_tabd (tgt := 63) dX8_tallOf_12 (by have ec1 : (v0 : Int32).toInt ≠ 0 := fun q => c1 (Int32.toInt_inj.mp (q.trans (by decide))); have ec2 : (v0 : Int32).toInt ≠ 1 := fun q => c2 (Int32.toInt_inj.mp (q.trans (by decide))); have ec3 : (v0 : Int32).toInt ≠ 2 := fun q => c3 (Int32.toInt_inj.mp (q.trans (by decide))); have ec4 : (v0 : Int32).toInt ≠ 3 := fun q => c4 (Int32.toInt_inj.mp (q.trans (by decide))); have ec5 : (v0 : Int32).toInt ≠ 4 := fun q => c5 (Int32.toInt_inj.mp (q.trans (by decide))); omega) (by decide) ?_
  refine j_iload 0 dX8_tallOf_63 rfl ?_
  refine j_iconst (x := 1) dX8_tallOf_65 (by decide) ?_
  refine j_isub dX8_tallOf_66 ?_
  exact j_iret ((3 + 2) - 1) dX8_tallOf_67 rfl (fun q => q)
def fX0_scrape_j85 (v0 : Nat) (v1 : Nat) (v2 : Int32) (v3 : Int32) (v4 : Int32) (h : Hp) : Option ((Int32 × Hp) ⊕ ((Hp))) :=
  some (Sum.inl (v4 + 1, h))
def fX0_scrape_b13 (v0 : Nat) (v1 : Nat) (v2 : Int32) (v3 : Int32) (s13 : Int32 × Hp) : Option ((Int32 × Hp) ⊕ ((Hp))) :=
  (xgI s13.2 v0 (0, 16) 2).bind fun x4 => if (x4 : Int32) ≤ s13.1 then (some (Sum.inr s13.2)) else ((xgI s13.2 v1 (5, 5) 1).bind fun x6 => (fX8_bit x6 s13.1 s13.2).bind fun x7 => if (x7 : Int32) = 1 then ((xgR s13.2 v0 (0, 16) 3).bind fun x9 => (xaI s13.2 x9 10 s13.1).bind fun x10 => (fX8_tallOf x10 v2 s13.2).bind fun x11 => (xgR s13.2 v0 (0, 16) 1).bind fun x12 => (xaI s13.2 x12 10 v2).bind fun x13 => if (x11 : Int32) ≤ (x13 + v3) then (fX0_scrape_j85 v0 v1 v2 v3 s13.1 s13.2) else ((xgI s13.2 v1 (5, 5) 1).bind fun x15 => (xpI s13.2 v1 (5, 5) 1 (x15 &&& ((1 <<< (s13.1 &&& 31)) ^^^ (-1)))).bind fun h16 => (xgI h16 v1 (5, 5) 2).bind fun x17 => (xpI h16 v1 (5, 5) 2 (x17 ||| (1 <<< (s13.1 &&& 31)))).bind fun h18 => fX0_scrape_j85 v0 v1 v2 v3 s13.1 h18)) else (fX0_scrape_j85 v0 v1 v2 v3 s13.1 s13.2))
def fX0_scrape (v0 : Nat) (v1 : Nat) (v2 : Int32) (v3 : Int32) (h : Hp) : Option (Hp) :=
  (xgR h v0 (0, 16) 1).bind fun x1 => (xaI h x1 10 v2).bind fun x2 => if (x2 : Int32) = 0 then (some h) else ((xloop (fX0_scrape_b13 v0 v1 v2 v3) 1000000 (0, h)).bind (fun r13 => some r13))
abbrev iX0_scrape : xI := (cX0_scrape, yX0_scrape.cls, yX0_scrape.name, none, 5, 3)
set_option maxHeartbeats 4000000 in
set_option maxRecDepth 100000 in
theorem kX0_scrape (l : Launch) (η : xEnv) (v0 : Nat) (v1 : Nat) (v2 : Int32) (v3 : Int32) (h : Hp) (x : Hp) (hx : fX0_scrape v0 v1 v2 v3 h = some x) : xC l η yX0_scrape cX0_scrape 5 none 3 [.ref v0, .ref v1, .int v2, .int v3] h none x := by
  refine xC_of (by decide) (Nat.le_of_ble_eq_true rfl) hx (fun κ x => κ.2.2.2.1 = none ∧ κ.2.2.2.2 = x) ⟨rfl, rfl⟩ (fun κ => ?_)
  show xJ iX0_scrape κ _ 0 [(0, .ref v0), (1, .ref v1), (2, .int v2), (3, .int v3)] [] h (fX0_scrape v0 v1 v2 v3 h)
  unfold fX0_scrape
  refine j_aload_n 0 dX0_scrape_0 rfl rfl ?_
  refine j_getR 0 16 1 dX0_scrape_1 fl_RX0_15 (by decide) rfl (by decide) (fun _ _ _ => rfl) (fun x1 => ?_)
  refine j_iload_n 2 dX0_scrape_4 rfl rfl ?_
  refine j_iald dX0_scrape_5 (fun x2 => ?_)
  refine j_if_ne (tgt := 10) dX0_scrape_6 (by decide) (fun c3 => ?_) (fun c3 => ?_)
  · exact j_vret h dX0_scrape_9 rfl (fun q => q)
  · refine j_iconst (x := 0) dX0_scrape_10 (by decide) ?_
    refine j_istore (L' := [(4, .int 0), (0, .ref v0), (1, .ref v1), (2, .int v2), (3, .int v3)]) dX0_scrape_11 (Nat.le_of_ble_eq_true rfl) rfl ?_
    refine j_pick [1, 2, 3, 4, 0] rfl ?_
    refine j_loop (pc := 13) (Lf := fun s13 : Int32 × Hp => [(0, .ref v0), (1, .ref v1), (2, .int v2), (3, .int v3), (4, .int s13.1)]) (Hf := fun s13 : Int32 × Hp => s13.2) (fun s13 => ?_) 1000000 (0, h)
    show xJ iX0_scrape κ _ 13 [(0, .ref v0), (1, .ref v1), (2, .int v2), (3, .int v3), (4, .int s13.1)] [] s13.2 (fX0_scrape_b13 v0 v1 v2 v3 s13)
    unfold fX0_scrape_b13
    refine j_have (pj := 85) (Lf := fun v : Int32 × Hp => [(0, .ref v0), (1, .ref v1), (2, .int v2), (3, .int v3), (4, .int v.1)]) (Sf := fun v : Int32 × Hp => []) (Hf := fun v : Int32 × Hp => v.2) (jf := fun v : Int32 × Hp => fX0_scrape_j85 v0 v1 v2 v3 v.1 v.2) (fun v => ?_) (fun hj85 => ?_)
    · obtain ⟨v4, h⟩ := v
      show xJ iX0_scrape κ _ 85 [(0, .ref v0), (1, .ref v1), (2, .int v2), (3, .int v3), (4, .int v4)] [] h (fX0_scrape_j85 v0 v1 v2 v3 v4 h)
      unfold fX0_scrape_j85
      refine j_iinc (y := v4 + 1) (L' := [(4, .int (v4 + 1)), (0, .ref v0), (1, .ref v1), (2, .int v2), (3, .int v3)]) 4 dX0_scrape_85 rfl rfl (Nat.le_of_ble_eq_true rfl) rfl ?_
      refine j_goto (tgt := 13) dX0_scrape_88 (by decide) ?_
      refine j_pick [1, 2, 3, 4, 0] rfl ?_
      exact j_again (v4 + 1, h) rfl rfl
    refine j_iload 4 dX0_scrape_13 rfl ?_
    refine j_aload_n 0 dX0_scrape_15 rfl rfl ?_
    refine j_getI 0 16 2 dX0_scrape_16 fl_RX0_57 (by decide) rfl (by decide) rfl (fun x4 => ?_)
    refine j_icmp_ge (tgt := 91) dX0_scrape_19 (by decide) (fun c5 => ?_) (fun c5 => ?_)
    · refine j_exit s13.2 ?_
      show xJ iX0_scrape κ _ _ _ _ _ (some s13.2)
      exact j_vret s13.2 dX0_scrape_91 rfl (fun q => q)
    · refine j_aload_n 1 dX0_scrape_22 rfl rfl ?_
      refine j_getI 5 5 1 dX0_scrape_23 fl_RX0_109 (by decide) rfl (by decide) rfl (fun x6 => ?_)
      refine j_iload 4 dX0_scrape_26 rfl ?_
      refine j_callSN (as := [.int x6, .int s13.1]) (fun x => some (.int x)) (fun _ => s13.2) dX0_scrape_28 nl_RX0_125 tg_X8_bit st_X8_bit (fun x hx => kX8_bit κ.1 κ.2.1 x6 s13.1 s13.2 x hx) (by decide) (by decide) rfl rfl (Nat.le_of_ble_eq_true rfl) (fun x7 => ?_)
      show xJ iX0_scrape κ _ 31 [(0, .ref v0), (1, .ref v1), (2, .int v2), (3, .int v3), (4, .int s13.1)] [.int x7] s13.2 _
      refine j_iconst (x := 1) dX0_scrape_31 (by decide) ?_
      refine j_icmp_ne (tgt := 85) dX0_scrape_32 (by decide) (fun c8 => ?_) (fun c8 => ?_)
      · refine j_aload_n 0 dX0_scrape_35 rfl rfl ?_
        refine j_getR 0 16 3 dX0_scrape_36 fl_RX0_19 (by decide) rfl (by decide) (fun _ _ _ => rfl) (fun x9 => ?_)
        refine j_iload 4 dX0_scrape_39 rfl ?_
        refine j_iald dX0_scrape_41 (fun x10 => ?_)
        refine j_iload_n 2 dX0_scrape_42 rfl rfl ?_
        refine j_callSN (as := [.int x10, .int v2]) (fun x => some (.int x)) (fun _ => s13.2) dX0_scrape_43 nl_RX0_128 tg_X8_tallOf st_X8_tallOf (fun x hx => kX8_tallOf κ.1 κ.2.1 x10 v2 s13.2 x hx) (by decide) (by decide) rfl rfl (Nat.le_of_ble_eq_true rfl) (fun x11 => ?_)
        show xJ iX0_scrape κ _ 46 [(0, .ref v0), (1, .ref v1), (2, .int v2), (3, .int v3), (4, .int s13.1)] [.int x11] s13.2 _
        refine j_aload_n 0 dX0_scrape_46 rfl rfl ?_
        refine j_getR 0 16 1 dX0_scrape_47 fl_RX0_15 (by decide) rfl (by decide) (fun _ _ _ => rfl) (fun x12 => ?_)
        refine j_iload_n 2 dX0_scrape_50 rfl rfl ?_
        refine j_iald dX0_scrape_51 (fun x13 => ?_)
        refine j_iload_n 3 dX0_scrape_52 rfl rfl ?_
        refine j_iadd dX0_scrape_53 ?_
        refine j_icmp_le (tgt := 85) dX0_scrape_54 (by decide) (fun c14 => ?_) (fun c14 => ?_)
        · refine j_pick [0, 1, 2, 3, 4] rfl ?_
          exact hj85 (s13.1, s13.2)
        · refine j_aload_n 1 dX0_scrape_57 rfl rfl ?_
          refine j_dup dX0_scrape_58 rfl ?_
          refine j_getI 5 5 1 dX0_scrape_59 fl_RX0_109 (by decide) rfl (by decide) rfl (fun x15 => ?_)
          refine j_iconst (x := 1) dX0_scrape_62 (by decide) ?_
          refine j_iload 4 dX0_scrape_63 rfl ?_
          refine j_ishl dX0_scrape_65 ?_
          refine j_iconst (x := (-1)) dX0_scrape_66 (by decide) ?_
          refine j_ixor dX0_scrape_67 ?_
          refine j_iand dX0_scrape_68 ?_
          refine j_putI 5 5 1 dX0_scrape_69 fl_RX0_109 (by decide) rfl (by decide) rfl rfl (fun h16 => ?_)
          refine j_aload_n 1 dX0_scrape_72 rfl rfl ?_
          refine j_dup dX0_scrape_73 rfl ?_
          refine j_getI 5 5 2 dX0_scrape_74 fl_RX0_131 (by decide) rfl (by decide) rfl (fun x17 => ?_)
          refine j_iconst (x := 1) dX0_scrape_77 (by decide) ?_
          refine j_iload 4 dX0_scrape_78 rfl ?_
          refine j_ishl dX0_scrape_80 ?_
          refine j_ior dX0_scrape_81 ?_
          refine j_putI 5 5 2 dX0_scrape_82 fl_RX0_131 (by decide) rfl (by decide) rfl rfl (fun h18 => ?_)
          refine j_pick [0, 1, 2, 3, 4] rfl ?_
          exact hj85 (s13.1, h18)
      · refine j_pick [0, 1, 2, 3, 4] rfl ?_
        exact hj85 (s13.1, s13.2)
def fX8_swayOf_j63 (t0 : Int32) (h : Hp) : Option (Int32) :=
  some t0
def fX8_swayOf (v0 : Int32) (v1 : Int32) (v2 : Int32) (h : Hp) : Option (Int32) :=
  if (2 : Int32) = 0 then none else if (v0 : Int32) = 0 then (some v1) else if (v0 : Int32) = 1 then (some ((v1 + 1) / 2)) else if (v0 : Int32) = 2 then (if (2 : Int32) = 0 then none else if (v2 - v2 / 2 * 2 : Int32) = 1 then (fX8_swayOf_j63 (2 * v1) h) else (fX8_swayOf_j63 v1 h)) else if (v0 : Int32) = 3 then (some v1) else if (v0 : Int32) = 4 then (some (((v1 + 1) / 2) + 1)) else (some 0)
abbrev iX8_swayOf : xI := (cX8_swayOf, yX8_swayOf.cls, yX8_swayOf.name, some .int, 5, 2)
set_option maxHeartbeats 4000000 in
set_option maxRecDepth 100000 in
theorem kX8_swayOf (l : Launch) (η : xEnv) (v0 : Int32) (v1 : Int32) (v2 : Int32) (h : Hp) (x : Int32) (hx : fX8_swayOf v0 v1 v2 h = some x) : xC l η yX8_swayOf cX8_swayOf 5 (some .int) 2 [.int v0, .int v1, .int v2] h (some (.int x)) h := by
  refine xC_of (by decide) (Nat.le_of_ble_eq_true rfl) hx (fun κ x => κ.2.2.2.1 = some (.int x) ∧ κ.2.2.2.2 = h) ⟨rfl, rfl⟩ (fun κ => ?_)
  show xJ iX8_swayOf κ _ 0 [(0, .int v0), (1, .int v1), (2, .int v2)] [] h (fX8_swayOf v0 v1 v2 h)
  unfold fX8_swayOf
  refine j_have (pj := 63) (Lf := fun v : Int32 => []) (Sf := fun v : Int32 => [.int v]) (Hf := fun v : Int32 => h) (jf := fun v : Int32 => fX8_swayOf_j63 v h) (fun v => ?_) (fun hj63 => ?_)
  · generalize v = t0
    show xJ iX8_swayOf κ _ 63 [] [.int t0] h (fX8_swayOf_j63 t0 h)
    unfold fX8_swayOf_j63
    exact j_iret t0 dX8_swayOf_63 rfl (fun q => q)
  refine j_iload_n 1 dX8_swayOf_0 rfl rfl ?_
  refine j_istore_n (L' := [(3, .int v1), (0, .int v0), (1, .int v1), (2, .int v2)]) dX8_swayOf_1 rfl (Nat.le_of_ble_eq_true rfl) rfl ?_
  refine j_iload_n 0 dX8_swayOf_2 rfl rfl ?_
  refine j_iconst (x := 1) dX8_swayOf_3 (by decide) ?_
  refine j_iadd dX8_swayOf_4 ?_
  refine j_iconst (x := 2) dX8_swayOf_5 (by decide) ?_
  refine j_idiv dX8_swayOf_6 (fun c1 => ?_)
  refine j_istore (L' := [(4, .int ((v1 + 1) / 2)), (3, .int v1), (0, .int v0), (1, .int v1), (2, .int v2)]) dX8_swayOf_7 (Nat.le_of_ble_eq_true rfl) rfl ?_
  refine j_iload_n 2 dX8_swayOf_9 rfl rfl ?_
  refine j_tabv (w := 0) (off := 34) (tgt := 44) dX8_swayOf_10 (by decide) (by decide) (by decide) (by decide) (fun c2 => ?_) (fun c2 => ?_)
  · refine j_iload_n 1 dX8_swayOf_44 rfl rfl ?_
    exact j_iret v1 dX8_swayOf_45 rfl (fun q => q)
  refine j_tabv (w := 1) (off := 36) (tgt := 46) dX8_swayOf_10 (by decide) (by decide) (by decide) (by decide) (fun c3 => ?_) (fun c3 => ?_)
  · refine j_iload 0 dX8_swayOf_46 rfl ?_
    exact j_iret ((v1 + 1) / 2) dX8_swayOf_48 rfl (fun q => q)
  refine j_tabv (w := 2) (off := 39) (tgt := 49) dX8_swayOf_10 (by decide) (by decide) (by decide) (by decide) (fun c4 => ?_) (fun c4 => ?_)
  · refine j_iload_n 4 dX8_swayOf_49 rfl rfl ?_
    refine j_iconst (x := 2) dX8_swayOf_50 (by decide) ?_
    refine j_irem dX8_swayOf_51 (fun c5 => ?_)
    refine j_iconst (x := 1) dX8_swayOf_52 (by decide) ?_
    refine j_icmp_ne (tgt := 62) dX8_swayOf_53 (by decide) (fun c6 => ?_) (fun c6 => ?_)
    · refine j_iconst (x := 2) dX8_swayOf_56 (by decide) ?_
      refine j_iload_n 1 dX8_swayOf_57 rfl rfl ?_
      refine j_imul dX8_swayOf_58 ?_
      refine j_goto (tgt := 63) dX8_swayOf_59 (by decide) ?_
      refine j_pick [] rfl ?_
      exact hj63 (2 * v1)
    · refine j_iload_n 1 dX8_swayOf_62 rfl rfl ?_
      refine j_pick [] rfl ?_
      exact hj63 v1
  refine j_tabv (w := 3) (off := 54) (tgt := 64) dX8_swayOf_10 (by decide) (by decide) (by decide) (by decide) (fun c7 => ?_) (fun c7 => ?_)
  · refine j_iload_n 1 dX8_swayOf_64 rfl rfl ?_
    exact j_iret v1 dX8_swayOf_65 rfl (fun q => q)
  refine j_tabv (w := 4) (off := 56) (tgt := 66) dX8_swayOf_10 (by decide) (by decide) (by decide) (by decide) (fun c8 => ?_) (fun c8 => ?_)
  · refine j_iload 0 dX8_swayOf_66 rfl ?_
    refine j_iconst (x := 1) dX8_swayOf_68 (by decide) ?_
    refine j_iadd dX8_swayOf_69 ?_
    exact j_iret (((v1 + 1) / 2) + 1) dX8_swayOf_70 rfl (fun q => q)
  refine j_tabd (tgt := 71) dX8_swayOf_10 (by have ec2 : (v0 : Int32).toInt ≠ 0 := fun q => c2 (Int32.toInt_inj.mp (q.trans (by decide))); have ec3 : (v0 : Int32).toInt ≠ 1 := fun q => c3 (Int32.toInt_inj.mp (q.trans (by decide))); have ec4 : (v0 : Int32).toInt ≠ 2 := fun q => c4 (Int32.toInt_inj.mp (q.trans (by decide))); have ec7 : (v0 : Int32).toInt ≠ 3 := fun q => c7 (Int32.toInt_inj.mp (q.trans (by decide))); have ec8 : (v0 : Int32).toInt ≠ 4 := fun q => c8 (Int32.toInt_inj.mp (q.trans (by decide))); omega) (by decide) ?_
  refine j_iconst (x := 0) dX8_swayOf_71 (by decide) ?_
  exact j_iret 0 dX8_swayOf_72 rfl (fun q => q)
def fX0_swayOfAll_j45 (v0 : Nat) (v1 : Int32) (v2 : Int32) (v3 : Int32) (v4 : Int32) (h : Hp) : Option ((Int32 × Int32) ⊕ ((Int32))) :=
  some (Sum.inl (v3, v4 + 1))
def fX0_swayOfAll_b5 (v0 : Nat) (v1 : Int32) (v2 : Int32) (h : Hp) (s5 : Int32 × Int32) : Option ((Int32 × Int32) ⊕ ((Int32))) :=
  (xgI h v0 (0, 16) 2).bind fun x1 => if (x1 : Int32) ≤ s5.2 then (some (Sum.inr s5.1)) else ((fX8_bit v1 s5.2 h).bind fun x3 => if (x3 : Int32) = 1 then ((xgR h v0 (0, 16) 3).bind fun x5 => (xaI h x5 10 s5.2).bind fun x6 => (xgR h v0 (0, 16) 4).bind fun x7 => (xaI h x7 10 s5.2).bind fun x8 => (fX8_swayOf x6 x8 v2 h).bind fun x9 => fX0_swayOfAll_j45 v0 v1 v2 (s5.1 + x9) s5.2 h) else (fX0_swayOfAll_j45 v0 v1 v2 s5.1 s5.2 h))
def fX0_swayOfAll (v0 : Nat) (v1 : Int32) (v2 : Int32) (h : Hp) : Option (Int32) :=
  (xloop (fX0_swayOfAll_b5 v0 v1 v2 h) 1000000 (0, 0)).bind (fun r5 => some r5)
abbrev iX0_swayOfAll : xI := (cX0_swayOfAll, yX0_swayOfAll.cls, yX0_swayOfAll.name, some .int, 5, 3)
set_option maxHeartbeats 4000000 in
set_option maxRecDepth 100000 in
theorem kX0_swayOfAll (l : Launch) (η : xEnv) (v0 : Nat) (v1 : Int32) (v2 : Int32) (h : Hp) (x : Int32) (hx : fX0_swayOfAll v0 v1 v2 h = some x) : xC l η yX0_swayOfAll cX0_swayOfAll 5 (some .int) 3 [.ref v0, .int v1, .int v2] h (some (.int x)) h := by
  refine xC_of (by decide) (Nat.le_of_ble_eq_true rfl) hx (fun κ x => κ.2.2.2.1 = some (.int x) ∧ κ.2.2.2.2 = h) ⟨rfl, rfl⟩ (fun κ => ?_)
  show xJ iX0_swayOfAll κ _ 0 [(0, .ref v0), (1, .int v1), (2, .int v2)] [] h (fX0_swayOfAll v0 v1 v2 h)
  unfold fX0_swayOfAll
  refine j_iconst (x := 0) dX0_swayOfAll_0 (by decide) ?_
  refine j_istore_n (L' := [(3, .int 0), (0, .ref v0), (1, .int v1), (2, .int v2)]) dX0_swayOfAll_1 rfl (Nat.le_of_ble_eq_true rfl) rfl ?_
  refine j_iconst (x := 0) dX0_swayOfAll_2 (by decide) ?_
  refine j_istore (L' := [(4, .int 0), (3, .int 0), (0, .ref v0), (1, .int v1), (2, .int v2)]) dX0_swayOfAll_3 (Nat.le_of_ble_eq_true rfl) rfl ?_
  refine j_pick [2, 3, 4, 1, 0] rfl ?_
  refine j_loop (pc := 5) (Lf := fun s5 : Int32 × Int32 => [(0, .ref v0), (1, .int v1), (2, .int v2), (3, .int s5.1), (4, .int s5.2)]) (Hf := fun s5 : Int32 × Int32 => h) (fun s5 => ?_) 1000000 (0, 0)
  show xJ iX0_swayOfAll κ _ 5 [(0, .ref v0), (1, .int v1), (2, .int v2), (3, .int s5.1), (4, .int s5.2)] [] h (fX0_swayOfAll_b5 v0 v1 v2 h s5)
  unfold fX0_swayOfAll_b5
  refine j_have (pj := 45) (Lf := fun v : Int32 × Int32 => [(0, .ref v0), (1, .int v1), (2, .int v2), (3, .int v.1), (4, .int v.2)]) (Sf := fun v : Int32 × Int32 => []) (Hf := fun v : Int32 × Int32 => h) (jf := fun v : Int32 × Int32 => fX0_swayOfAll_j45 v0 v1 v2 v.1 v.2 h) (fun v => ?_) (fun hj45 => ?_)
  · obtain ⟨v3, v4⟩ := v
    show xJ iX0_swayOfAll κ _ 45 [(0, .ref v0), (1, .int v1), (2, .int v2), (3, .int v3), (4, .int v4)] [] h (fX0_swayOfAll_j45 v0 v1 v2 v3 v4 h)
    unfold fX0_swayOfAll_j45
    refine j_iinc (y := v4 + 1) (L' := [(4, .int (v4 + 1)), (0, .ref v0), (1, .int v1), (2, .int v2), (3, .int v3)]) 4 dX0_swayOfAll_45 rfl rfl (Nat.le_of_ble_eq_true rfl) rfl ?_
    refine j_goto (tgt := 5) dX0_swayOfAll_48 (by decide) ?_
    refine j_pick [1, 2, 3, 4, 0] rfl ?_
    exact j_again (v3, v4 + 1) rfl rfl
  refine j_iload 4 dX0_swayOfAll_5 rfl ?_
  refine j_aload_n 0 dX0_swayOfAll_7 rfl rfl ?_
  refine j_getI 0 16 2 dX0_swayOfAll_8 fl_RX0_57 (by decide) rfl (by decide) rfl (fun x1 => ?_)
  refine j_icmp_ge (tgt := 51) dX0_swayOfAll_11 (by decide) (fun c2 => ?_) (fun c2 => ?_)
  · refine j_exit s5.1 ?_
    show xJ iX0_swayOfAll κ _ _ _ _ _ (some s5.1)
    refine j_iload_n 3 dX0_swayOfAll_51 rfl rfl ?_
    exact j_iret s5.1 dX0_swayOfAll_52 rfl (fun q => q)
  · refine j_iload_n 1 dX0_swayOfAll_14 rfl rfl ?_
    refine j_iload 4 dX0_swayOfAll_15 rfl ?_
    refine j_callSN (as := [.int v1, .int s5.2]) (fun x => some (.int x)) (fun _ => h) dX0_swayOfAll_17 nl_RX0_125 tg_X8_bit st_X8_bit (fun x hx => kX8_bit κ.1 κ.2.1 v1 s5.2 h x hx) (by decide) (by decide) rfl rfl (Nat.le_of_ble_eq_true rfl) (fun x3 => ?_)
    show xJ iX0_swayOfAll κ _ 20 [(0, .ref v0), (1, .int v1), (2, .int v2), (3, .int s5.1), (4, .int s5.2)] [.int x3] h _
    refine j_iconst (x := 1) dX0_swayOfAll_20 (by decide) ?_
    refine j_icmp_ne (tgt := 45) dX0_swayOfAll_21 (by decide) (fun c4 => ?_) (fun c4 => ?_)
    · refine j_iload_n 3 dX0_swayOfAll_24 rfl rfl ?_
      refine j_aload_n 0 dX0_swayOfAll_25 rfl rfl ?_
      refine j_getR 0 16 3 dX0_swayOfAll_26 fl_RX0_19 (by decide) rfl (by decide) (fun _ _ _ => rfl) (fun x5 => ?_)
      refine j_iload 4 dX0_swayOfAll_29 rfl ?_
      refine j_iald dX0_swayOfAll_31 (fun x6 => ?_)
      refine j_aload_n 0 dX0_swayOfAll_32 rfl rfl ?_
      refine j_getR 0 16 4 dX0_swayOfAll_33 fl_RX0_22 (by decide) rfl (by decide) (fun _ _ _ => rfl) (fun x7 => ?_)
      refine j_iload 4 dX0_swayOfAll_36 rfl ?_
      refine j_iald dX0_swayOfAll_38 (fun x8 => ?_)
      refine j_iload_n 2 dX0_swayOfAll_39 rfl rfl ?_
      refine j_callSN (as := [.int x6, .int x8, .int v2]) (fun x => some (.int x)) (fun _ => h) dX0_swayOfAll_40 nl_RX0_134 tg_X8_swayOf st_X8_swayOf (fun x hx => kX8_swayOf κ.1 κ.2.1 x6 x8 v2 h x hx) (by decide) (by decide) rfl rfl (Nat.le_of_ble_eq_true rfl) (fun x9 => ?_)
      show xJ iX0_swayOfAll κ _ 43 [(0, .ref v0), (1, .int v1), (2, .int v2), (3, .int s5.1), (4, .int s5.2)] [.int x9, .int s5.1] h _
      refine j_iadd dX0_swayOfAll_43 ?_
      refine j_istore_n (L' := [(3, .int (s5.1 + x9)), (0, .ref v0), (1, .int v1), (2, .int v2), (4, .int s5.2)]) dX0_swayOfAll_44 rfl (Nat.le_of_ble_eq_true rfl) rfl ?_
      refine j_pick [1, 2, 3, 0, 4] rfl ?_
      exact hj45 (s5.1 + x9, s5.2)
    · refine j_pick [0, 1, 2, 3, 4] rfl ?_
      exact hj45 (s5.1, s5.2)
def fX0_passStop (v0 : Nat) (v1 : Nat) (v2 : Nat) (v3 : Int32) (h : Hp) : Option (Hp) :=
  (xgI h v1 (5, 5) 0).bind fun x1 => (fX8_within x1 0 9 h).bind fun x2 => if (x2 : Int32) = 0 then (some h) else ((xat h v0 (0, 16) (fX0_letOff v0 v1 x1 h)).bind fun h4 => (xat h4 v0 (0, 16) (fX0_letOn v0 v1 x1 v2 h4)).bind fun h5 => (xat h5 v0 (0, 16) (fX0_scrape v0 v1 x1 v3 h5)).bind fun h6 => (xgI h6 v1 (5, 5) 4).bind fun x7 => (xgI h6 v1 (5, 5) 1).bind fun x8 => (xat h6 v0 (0, 16) (fX0_swayOfAll v0 x8 x1 h6)).bind fun x9 => (xpI h6 v1 (5, 5) 4 (x7 + x9)).bind fun h10 => (xpI h10 v1 (5, 5) 0 (x1 + 1)).bind fun h11 => some h11)
abbrev iX0_passStop : xI := (cX0_passStop, yX0_passStop.cls, yX0_passStop.name, none, 5, 4)
set_option maxHeartbeats 4000000 in
set_option maxRecDepth 100000 in
theorem kX0_passStop (l : Launch) (η : xEnv) (v0 : Nat) (v1 : Nat) (v2 : Nat) (v3 : Int32) (h : Hp) (x : Hp) (hx : fX0_passStop v0 v1 v2 v3 h = some x) : xC l η yX0_passStop cX0_passStop 5 none 4 [.ref v0, .ref v1, .ref v2, .int v3] h none x := by
  refine xC_of (by decide) (Nat.le_of_ble_eq_true rfl) hx (fun κ x => κ.2.2.2.1 = none ∧ κ.2.2.2.2 = x) ⟨rfl, rfl⟩ (fun κ => ?_)
  show xJ iX0_passStop κ _ 0 [(0, .ref v0), (1, .ref v1), (2, .ref v2), (3, .int v3)] [] h (fX0_passStop v0 v1 v2 v3 h)
  unfold fX0_passStop
  refine j_aload_n 1 dX0_passStop_0 rfl rfl ?_
  refine j_getI 5 5 0 dX0_passStop_1 fl_RX0_87 (by decide) rfl (by decide) rfl (fun x1 => ?_)
  refine j_istore (L' := [(4, .int x1), (0, .ref v0), (1, .ref v1), (2, .ref v2), (3, .int v3)]) dX0_passStop_4 (Nat.le_of_ble_eq_true rfl) rfl ?_
  refine j_iload 0 dX0_passStop_6 rfl ?_
  refine j_iconst (x := 0) dX0_passStop_8 (by decide) ?_
  refine j_bipush (x := 9) dX0_passStop_9 (by decide) ?_
  refine j_callSN (as := [.int x1, .int 0, .int 9]) (fun x => some (.int x)) (fun _ => h) dX0_passStop_11 nl_RX0_90 tg_X8_within st_X8_within (fun x hx => kX8_within κ.1 κ.2.1 x1 0 9 h x hx) (by decide) (by decide) rfl rfl (Nat.le_of_ble_eq_true rfl) (fun x2 => ?_)
  show xJ iX0_passStop κ _ 14 [(4, .int x1), (0, .ref v0), (1, .ref v1), (2, .ref v2), (3, .int v3)] [.int x2] h _
  refine j_if_ne (tgt := 18) dX0_passStop_14 (by decide) (fun c3 => ?_) (fun c3 => ?_)
  · exact j_vret h dX0_passStop_17 rfl (fun q => q)
  · refine j_aload_n 1 dX0_passStop_18 rfl rfl ?_
    refine j_aload_n 2 dX0_passStop_19 rfl rfl ?_
    refine j_iload 0 dX0_passStop_20 rfl ?_
    refine j_callV (as := [.ref v1, .int x1]) (fun _ => none) (fun x => x) 0 16 dX0_passStop_22 ml_RX0_94 tg_X0_letOff im_X0_letOff se_X0_letOff rfl (by decide) (fun x hx => kX0_letOff κ.1 κ.2.1 v0 v1 x1 h x hx) (by decide) (by decide) rfl rfl (Nat.le_of_ble_eq_true rfl) (fun h4 => ?_)
    show xJ iX0_passStop κ _ 25 [(4, .int x1), (0, .ref v0), (1, .ref v1), (2, .ref v2), (3, .int v3)] [] h4 _
    refine j_aload_n 1 dX0_passStop_25 rfl rfl ?_
    refine j_aload_n 2 dX0_passStop_26 rfl rfl ?_
    refine j_iload 0 dX0_passStop_27 rfl ?_
    refine j_aload_n 3 dX0_passStop_29 rfl rfl ?_
    refine j_callV (as := [.ref v1, .int x1, .ref v2]) (fun _ => none) (fun x => x) 0 16 dX0_passStop_30 ml_RX0_98 tg_X0_letOn im_X0_letOn se_X0_letOn rfl (by decide) (fun x hx => kX0_letOn κ.1 κ.2.1 v0 v1 x1 v2 h4 x hx) (by decide) (by decide) rfl rfl (Nat.le_of_ble_eq_true rfl) (fun h5 => ?_)
    show xJ iX0_passStop κ _ 33 [(4, .int x1), (0, .ref v0), (1, .ref v1), (2, .ref v2), (3, .int v3)] [] h5 _
    refine j_aload_n 1 dX0_passStop_33 rfl rfl ?_
    refine j_aload_n 2 dX0_passStop_34 rfl rfl ?_
    refine j_iload 0 dX0_passStop_35 rfl ?_
    refine j_iload_n 4 dX0_passStop_37 rfl rfl ?_
    refine j_callV (as := [.ref v1, .int x1, .int v3]) (fun _ => none) (fun x => x) 0 16 dX0_passStop_38 ml_RX0_102 tg_X0_scrape im_X0_scrape se_X0_scrape rfl (by decide) (fun x hx => kX0_scrape κ.1 κ.2.1 v0 v1 x1 v3 h5 x hx) (by decide) (by decide) rfl rfl (Nat.le_of_ble_eq_true rfl) (fun h6 => ?_)
    show xJ iX0_passStop κ _ 41 [(4, .int x1), (0, .ref v0), (1, .ref v1), (2, .ref v2), (3, .int v3)] [] h6 _
    refine j_aload_n 2 dX0_passStop_41 rfl rfl ?_
    refine j_dup dX0_passStop_42 rfl ?_
    refine j_getI 5 5 4 dX0_passStop_43 fl_RX0_106 (by decide) rfl (by decide) rfl (fun x7 => ?_)
    refine j_aload_n 1 dX0_passStop_46 rfl rfl ?_
    refine j_aload_n 2 dX0_passStop_47 rfl rfl ?_
    refine j_getI 5 5 1 dX0_passStop_48 fl_RX0_109 (by decide) rfl (by decide) rfl (fun x8 => ?_)
    refine j_iload 0 dX0_passStop_51 rfl ?_
    refine j_callV (as := [.int x8, .int x1]) (fun x => some (.int x)) (fun _ => h6) 0 16 dX0_passStop_53 ml_RX0_112 tg_X0_swayOfAll im_X0_swayOfAll se_X0_swayOfAll rfl (by decide) (fun x hx => kX0_swayOfAll κ.1 κ.2.1 v0 x8 x1 h6 x hx) (by decide) (by decide) rfl rfl (Nat.le_of_ble_eq_true rfl) (fun x9 => ?_)
    show xJ iX0_passStop κ _ 56 [(4, .int x1), (0, .ref v0), (1, .ref v1), (2, .ref v2), (3, .int v3)] [.int x9, .int x7, .ref v1] h6 _
    refine j_iadd dX0_passStop_56 ?_
    refine j_putI 5 5 4 dX0_passStop_57 fl_RX0_106 (by decide) rfl (by decide) rfl rfl (fun h10 => ?_)
    refine j_aload_n 2 dX0_passStop_60 rfl rfl ?_
    refine j_iload 0 dX0_passStop_61 rfl ?_
    refine j_iconst (x := 1) dX0_passStop_63 (by decide) ?_
    refine j_iadd dX0_passStop_64 ?_
    refine j_putI 5 5 0 dX0_passStop_65 fl_RX0_87 (by decide) rfl (by decide) rfl rfl (fun h11 => ?_)
    exact j_vret h11 dX0_passStop_68 rfl (fun q => q)
def fX8_drive_b57 (v0 : Nat) (v1 : Int32) (v2 : Int32) (s57 : Int32 × Hp) : Option ((Int32 × Hp) ⊕ ((Nat × Int32 × Hp))) :=
  if (v1 : Int32) ≤ s57.1 then (some (Sum.inr (v0, v2, s57.2))) else ((xgR s57.2 v0 (8, 12) 0).bind fun x17 => (xgR s57.2 v0 (8, 12) 0).bind fun x18 => (xgR s57.2 x18 (0, 16) 13).bind fun x19 => (xgR s57.2 v0 (8, 12) 0).bind fun x20 => (xgR s57.2 x20 (0, 16) 5).bind fun x21 => (xat s57.2 x17 (0, 16) (fX0_passStop x17 x19 x21 0 s57.2)).bind fun h22 => some (Sum.inl (s57.1 + 1, h22)))
def fX8_drive (v0 : Nat) (v1 : Int32) (h : Hp) : Option (Int32 × Hp) :=
  (fX8_within v1 1 10 h).bind fun x1 => if (x1 : Int32) = 0 then ((xat h v0 (8, 12) (fX8_refuseBad v0 h)).bind fun q3 => some (q3.1, q3.2)) else ((xgR h v0 (8, 12) 0).bind fun x4 => (xgR h x4 (0, 16) 13).bind fun x5 => (xgI h x5 (5, 5) 0).bind fun x6 => if (v1 : Int32) ≤ (10 - x6) then ((xgR h v0 (8, 12) 0).bind fun x8 => (xgR h x8 (0, 16) 13).bind fun x9 => (xgI h x9 (5, 5) 4).bind fun x10 => (xgR h v0 (8, 12) 0).bind fun x11 => (xat h x11 (0, 16) (fX0_remember x11 h)).bind fun h12 => (xloop (fX8_drive_b57 v0 v1 x10) 1000000 (0, h12)).bind (fun r57 => (xgR r57.2.2 r57.1 (8, 12) 0).bind fun x23 => (xgR r57.2.2 x23 (0, 16) 13).bind fun x24 => (xgI r57.2.2 x24 (5, 5) 4).bind fun x25 => some (x25 - r57.2.1, r57.2.2))) else ((xat h v0 (8, 12) (fX8_refuseNo v0 h)).bind fun q23 => some (q23.1, q23.2)))
abbrev iX8_drive : xI := (cX8_drive, yX8_drive.cls, yX8_drive.name, some .int, 4, 5)
set_option maxHeartbeats 4000000 in
set_option maxRecDepth 100000 in
theorem kX8_drive (l : Launch) (η : xEnv) (v0 : Nat) (v1 : Int32) (h : Hp) (x : Int32 × Hp) (hx : fX8_drive v0 v1 h = some x) : xC l η yX8_drive cX8_drive 4 (some .int) 5 [.ref v0, .int v1] h (some (.int x.1)) x.2 := by
  refine xC_of (by decide) (Nat.le_of_ble_eq_true rfl) hx (fun κ x => κ.2.2.2.1 = some (.int x.1) ∧ κ.2.2.2.2 = x.2) ⟨rfl, rfl⟩ (fun κ => ?_)
  show xJ iX8_drive κ _ 0 [(0, .ref v0), (1, .int v1)] [] h (fX8_drive v0 v1 h)
  unfold fX8_drive
  refine j_iload_n 1 dX8_drive_0 rfl rfl ?_
  refine j_iconst (x := 1) dX8_drive_1 (by decide) ?_
  refine j_bipush (x := 10) dX8_drive_2 (by decide) ?_
  refine j_callS (as := [.int v1, .int 1, .int 10]) (fun x => some (.int x)) (fun _ => h) dX8_drive_4 ml_RX8_66 tg_X8_within st_X8_within (fun x hx => kX8_within κ.1 κ.2.1 v1 1 10 h x hx) (by decide) (by decide) rfl rfl (Nat.le_of_ble_eq_true rfl) (fun x1 => ?_)
  show xJ iX8_drive κ _ 7 [(0, .ref v0), (1, .int v1)] [.int x1] h _
  refine j_if_ne (tgt := 15) dX8_drive_7 (by decide) (fun c2 => ?_) (fun c2 => ?_)
  · refine j_aload_n 0 dX8_drive_10 rfl rfl ?_
    refine j_callV (as := []) (fun x => some (.int x.1)) (fun x => x.2) 8 12 dX8_drive_11 ml_RX8_70 tg_X8_refuseBad im_X8_refuseBad se_X8_refuseBad rfl (by decide) (fun x hx => kX8_refuseBad κ.1 κ.2.1 v0 h x hx) (by decide) (by decide) rfl rfl (Nat.le_of_ble_eq_true rfl) (fun q3 => ?_)
    show xJ iX8_drive κ _ 14 [(0, .ref v0), (1, .int v1)] [.int q3.1] q3.2 _
    exact j_iret (q3.1, q3.2) dX8_drive_14 rfl (fun q => q)
  · refine j_iload_n 1 dX8_drive_15 rfl rfl ?_
    refine j_bipush (x := 10) dX8_drive_16 (by decide) ?_
    refine j_aload_n 0 dX8_drive_18 rfl rfl ?_
    refine j_getR 8 12 0 dX8_drive_19 fl_RX8_12 (by decide) rfl (by decide) (fun _ _ _ => rfl) (fun x4 => ?_)
    refine j_getR 0 16 13 dX8_drive_22 fl_RX8_137 (by decide) rfl (by decide) (fun _ _ _ => rfl) (fun x5 => ?_)
    refine j_getI 5 5 0 dX8_drive_25 fl_RX8_141 (by decide) rfl (by decide) rfl (fun x6 => ?_)
    refine j_isub dX8_drive_28 ?_
    refine j_icmp_le (tgt := 37) dX8_drive_29 (by decide) (fun c7 => ?_) (fun c7 => ?_)
    · refine j_aload_n 0 dX8_drive_37 rfl rfl ?_
      refine j_getR 8 12 0 dX8_drive_38 fl_RX8_12 (by decide) rfl (by decide) (fun _ _ _ => rfl) (fun x8 => ?_)
      refine j_getR 0 16 13 dX8_drive_41 fl_RX8_137 (by decide) rfl (by decide) (fun _ _ _ => rfl) (fun x9 => ?_)
      refine j_getI 5 5 4 dX8_drive_44 fl_RX8_149 (by decide) rfl (by decide) rfl (fun x10 => ?_)
      refine j_istore_n (L' := [(2, .int x10), (0, .ref v0), (1, .int v1)]) dX8_drive_47 rfl (Nat.le_of_ble_eq_true rfl) rfl ?_
      refine j_aload_n 1 dX8_drive_48 rfl rfl ?_
      refine j_getR 8 12 0 dX8_drive_49 fl_RX8_12 (by decide) rfl (by decide) (fun _ _ _ => rfl) (fun x11 => ?_)
      refine j_callV (as := []) (fun _ => none) (fun x => x) 0 16 dX8_drive_52 ml_RX8_152 tg_X0_remember im_X0_remember se_X0_remember rfl (by decide) (fun x hx => kX0_remember κ.1 κ.2.1 x11 h x hx) (by decide) (by decide) rfl rfl (Nat.le_of_ble_eq_true rfl) (fun h12 => ?_)
      show xJ iX8_drive κ _ 55 [(2, .int x10), (0, .ref v0), (1, .int v1)] [] h12 _
      refine j_iconst (x := 0) dX8_drive_55 (by decide) ?_
      refine j_istore_n (L' := [(3, .int 0), (2, .int x10), (0, .ref v0), (1, .int v1)]) dX8_drive_56 rfl (Nat.le_of_ble_eq_true rfl) rfl ?_
      refine j_pick [2, 3, 1, 0] rfl ?_
      refine j_loop (pc := 57) (Lf := fun s57 : Int32 × Hp => [(0, .ref v0), (1, .int v1), (2, .int x10), (3, .int s57.1)]) (Hf := fun s57 : Int32 × Hp => s57.2) (fun s57 => ?_) 1000000 (0, h12)
      show xJ iX8_drive κ _ 57 [(0, .ref v0), (1, .int v1), (2, .int x10), (3, .int s57.1)] [] s57.2 (fX8_drive_b57 v0 v1 x10 s57)
      unfold fX8_drive_b57
      refine j_iload_n 3 dX8_drive_57 rfl rfl ?_
      refine j_iload_n 1 dX8_drive_58 rfl rfl ?_
      refine j_icmp_ge (tgt := 90) dX8_drive_59 (by decide) (fun c13 => ?_) (fun c13 => ?_)
      · refine j_exit (v0, x10, s57.2) ?_
        show xJ iX8_drive κ _ _ _ _ _ ((xgR s57.2 v0 (8, 12) 0).bind fun x14 => (xgR s57.2 x14 (0, 16) 13).bind fun x15 => (xgI s57.2 x15 (5, 5) 4).bind fun x16 => some (x16 - x10, s57.2))
        refine j_aload_n 0 dX8_drive_90 rfl rfl ?_
        refine j_getR 8 12 0 dX8_drive_91 fl_RX8_12 (by decide) rfl (by decide) (fun _ _ _ => rfl) (fun x14 => ?_)
        refine j_getR 0 16 13 dX8_drive_94 fl_RX8_137 (by decide) rfl (by decide) (fun _ _ _ => rfl) (fun x15 => ?_)
        refine j_getI 5 5 4 dX8_drive_97 fl_RX8_149 (by decide) rfl (by decide) rfl (fun x16 => ?_)
        refine j_iload_n 2 dX8_drive_100 rfl rfl ?_
        refine j_isub dX8_drive_101 ?_
        exact j_iret (x16 - x10, s57.2) dX8_drive_102 rfl (fun q => q)
      · refine j_aload_n 0 dX8_drive_62 rfl rfl ?_
        refine j_getR 8 12 0 dX8_drive_63 fl_RX8_12 (by decide) rfl (by decide) (fun _ _ _ => rfl) (fun x17 => ?_)
        refine j_aload_n 0 dX8_drive_66 rfl rfl ?_
        refine j_getR 8 12 0 dX8_drive_67 fl_RX8_12 (by decide) rfl (by decide) (fun _ _ _ => rfl) (fun x18 => ?_)
        refine j_getR 0 16 13 dX8_drive_70 fl_RX8_137 (by decide) rfl (by decide) (fun _ _ _ => rfl) (fun x19 => ?_)
        refine j_aload_n 0 dX8_drive_73 rfl rfl ?_
        refine j_getR 8 12 0 dX8_drive_74 fl_RX8_12 (by decide) rfl (by decide) (fun _ _ _ => rfl) (fun x20 => ?_)
        refine j_getR 0 16 5 dX8_drive_77 fl_RX8_155 (by decide) rfl (by decide) (fun _ _ _ => rfl) (fun x21 => ?_)
        refine j_iconst (x := 0) dX8_drive_80 (by decide) ?_
        refine j_callV (as := [.ref x19, .ref x21, .int 0]) (fun _ => none) (fun x => x) 0 16 dX8_drive_81 ml_RX8_158 tg_X0_passStop im_X0_passStop se_X0_passStop rfl (by decide) (fun x hx => kX0_passStop κ.1 κ.2.1 x17 x19 x21 0 s57.2 x hx) (by decide) (by decide) rfl rfl (Nat.le_of_ble_eq_true rfl) (fun h22 => ?_)
        show xJ iX8_drive κ _ 84 [(0, .ref v0), (1, .int v1), (2, .int x10), (3, .int s57.1)] [] h22 _
        refine j_iinc (y := s57.1 + 1) (L' := [(3, .int (s57.1 + 1)), (0, .ref v0), (1, .int v1), (2, .int x10)]) 3 dX8_drive_84 rfl rfl (Nat.le_of_ble_eq_true rfl) rfl ?_
        refine j_goto (tgt := 57) dX8_drive_87 (by decide) ?_
        refine j_pick [1, 2, 3, 0] rfl ?_
        exact j_again (s57.1 + 1, h22) rfl rfl
    · refine j_aload_n 0 dX8_drive_32 rfl rfl ?_
      refine j_callV (as := []) (fun x => some (.int x.1)) (fun x => x.2) 8 12 dX8_drive_33 ml_RX8_146 tg_X8_refuseNo im_X8_refuseNo se_X8_refuseNo rfl (by decide) (fun x hx => kX8_refuseNo κ.1 κ.2.1 v0 h x hx) (by decide) (by decide) rfl rfl (Nat.le_of_ble_eq_true rfl) (fun q23 => ?_)
      show xJ iX8_drive κ _ 36 [(0, .ref v0), (1, .int v1)] [.int q23.1] q23.2 _
      exact j_iret (q23.1, q23.2) dX8_drive_36 rfl (fun q => q)
