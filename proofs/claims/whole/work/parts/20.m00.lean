def fX5_init (v0 : Nat) (h : Hp) : Option (Hp) :=
  some h
abbrev iX5_init : xI := (cX5_init, yX5_init.cls, yX5_init.name, none, 1, 2)
set_option maxHeartbeats 4000000 in
set_option maxRecDepth 100000 in
theorem kX5_init (l : Launch) (η : xEnv) (v0 : Nat) (h : Hp) (x : Hp) (hx : fX5_init v0 h = some x) : xC l η yX5_init cX5_init 1 none 2 [.ref v0] h none x := by
  refine xC_of (by decide) (Nat.le_of_ble_eq_true rfl) hx (fun κ x => κ.2.2.2.1 = none ∧ κ.2.2.2.2 = x) ⟨rfl, rfl⟩ (fun κ => ?_)
  show xJ iX5_init κ _ 0 [(0, .ref v0)] [] h (fX5_init v0 h)
  unfold fX5_init
  refine j_aload_n 0 dX5_init_0 rfl rfl ?_
  refine j_obj dX5_init_1 ml_RX5_1 im_obj cd_obj (Nat.le_of_ble_eq_true rfl) (by decide) ?_
  exact j_vret h dX5_init_4 rfl (fun q => q)
def fX0_init_b111 (v0 : Nat) (s111 : Int32 × Hp) : Option ((Int32 × Hp) ⊕ ((Hp))) :=
  if (8 : Int32) ≤ s111.1 then (some (Sum.inr s111.2)) else ((xgR s111.2 v0 (0, 16) 14).bind fun x28 => (xnew s111.2 (5, 5)).bind fun q29 => (fX5_init q29.1 q29.2).bind fun h30 => (xsR h30 x28 13 s111.1 q29.1 (5, 5)).bind fun h31 => some (Sum.inl (s111.1 + 1, h31)))
def fX0_init (v0 : Nat) (h : Hp) : Option (Hp) :=
  (xpI h v0 (0, 16) 0 4).bind fun h1 => (xna h1 10 10).bind fun q2 => (xpR q2.2 v0 (0, 16) 1 q2.1).bind fun h3 => (xna h3 10 7).bind fun q4 => (xpR q4.2 v0 (0, 16) 3 q4.1).bind fun h5 => (xna h5 10 7).bind fun q6 => (xpR q6.2 v0 (0, 16) 4 q6.1).bind fun h7 => (xna h7 10 7).bind fun q8 => (xpR q8.2 v0 (0, 16) 5 q8.1).bind fun h9 => (xna h9 10 7).bind fun q10 => (xpR q10.2 v0 (0, 16) 6 q10.1).bind fun h11 => (xna h11 10 7).bind fun q12 => (xpR q12.2 v0 (0, 16) 7 q12.1).bind fun h13 => (xna h13 10 6).bind fun q14 => (xpR q14.2 v0 (0, 16) 9 q14.1).bind fun h15 => (xna h15 10 6).bind fun q16 => (xpR q16.2 v0 (0, 16) 10 q16.1).bind fun h17 => (xna h17 10 6).bind fun q18 => (xpR q18.2 v0 (0, 16) 11 q18.1).bind fun h19 => (xna h19 10 6).bind fun q20 => (xpR q20.2 v0 (0, 16) 12 q20.1).bind fun h21 => (xnew h21 (5, 5)).bind fun q22 => (fX5_init q22.1 q22.2).bind fun h23 => (xpR h23 v0 (0, 16) 13 q22.1).bind fun h24 => (xna h24 13 8).bind fun q25 => (xpR q25.2 v0 (0, 16) 14 q25.1).bind fun h26 => (xloop (fX0_init_b111 v0) 1000000 (0, h26)).bind (fun r111 => some r111)
abbrev iX0_init : xI := (cX0_init, yX0_init.cls, yX0_init.name, none, 2, 3)
set_option maxHeartbeats 4000000 in
set_option maxRecDepth 100000 in
theorem kX0_init (l : Launch) (η : xEnv) (v0 : Nat) (h : Hp) (x : Hp) (hx : fX0_init v0 h = some x) : xC l η yX0_init cX0_init 2 none 3 [.ref v0] h none x := by
  refine xC_of (by decide) (Nat.le_of_ble_eq_true rfl) hx (fun κ x => κ.2.2.2.1 = none ∧ κ.2.2.2.2 = x) ⟨rfl, rfl⟩ (fun κ => ?_)
  show xJ iX0_init κ _ 0 [(0, .ref v0)] [] h (fX0_init v0 h)
  unfold fX0_init
  refine j_aload_n 0 dX0_init_0 rfl rfl ?_
  refine j_obj dX0_init_1 ml_RX0_3 im_obj cd_obj (Nat.le_of_ble_eq_true rfl) (by decide) ?_
  refine j_aload_n 0 dX0_init_4 rfl rfl ?_
  refine j_iconst (x := 4) dX0_init_5 (by decide) ?_
  refine j_putI 0 16 0 dX0_init_6 fl_RX0_9 (by decide) rfl (by decide) rfl rfl (fun h1 => ?_)
  refine j_aload_n 0 dX0_init_9 rfl rfl ?_
  refine j_bipush (x := 10) dX0_init_10 (by decide) ?_
  refine j_newa (ty := .int) 10 0 dX0_init_12 rfl ac_int (by simp) (fun q2 => ?_)
  refine j_putR 0 16 1 dX0_init_14 fl_RX0_15 (by decide) rfl (by decide) (Or.inr ⟨_, rfl⟩) rfl rfl rfl (fun h3 => ?_)
  refine j_aload_n 0 dX0_init_17 rfl rfl ?_
  refine j_bipush (x := 7) dX0_init_18 (by decide) ?_
  refine j_newa (ty := .int) 10 0 dX0_init_20 rfl ac_int (by simp) (fun q4 => ?_)
  refine j_putR 0 16 3 dX0_init_22 fl_RX0_19 (by decide) rfl (by decide) (Or.inr ⟨_, rfl⟩) rfl rfl rfl (fun h5 => ?_)
  refine j_aload_n 0 dX0_init_25 rfl rfl ?_
  refine j_bipush (x := 7) dX0_init_26 (by decide) ?_
  refine j_newa (ty := .int) 10 0 dX0_init_28 rfl ac_int (by simp) (fun q6 => ?_)
  refine j_putR 0 16 4 dX0_init_30 fl_RX0_22 (by decide) rfl (by decide) (Or.inr ⟨_, rfl⟩) rfl rfl rfl (fun h7 => ?_)
  refine j_aload_n 0 dX0_init_33 rfl rfl ?_
  refine j_bipush (x := 7) dX0_init_34 (by decide) ?_
  refine j_newa (ty := .int) 10 0 dX0_init_36 rfl ac_int (by simp) (fun q8 => ?_)
  refine j_putR 0 16 5 dX0_init_38 fl_RX0_25 (by decide) rfl (by decide) (Or.inr ⟨_, rfl⟩) rfl rfl rfl (fun h9 => ?_)
  refine j_aload_n 0 dX0_init_41 rfl rfl ?_
  refine j_bipush (x := 7) dX0_init_42 (by decide) ?_
  refine j_newa (ty := .int) 10 0 dX0_init_44 rfl ac_int (by simp) (fun q10 => ?_)
  refine j_putR 0 16 6 dX0_init_46 fl_RX0_28 (by decide) rfl (by decide) (Or.inr ⟨_, rfl⟩) rfl rfl rfl (fun h11 => ?_)
  refine j_aload_n 0 dX0_init_49 rfl rfl ?_
  refine j_bipush (x := 7) dX0_init_50 (by decide) ?_
  refine j_newa (ty := .int) 10 0 dX0_init_52 rfl ac_int (by simp) (fun q12 => ?_)
  refine j_putR 0 16 7 dX0_init_54 fl_RX0_31 (by decide) rfl (by decide) (Or.inr ⟨_, rfl⟩) rfl rfl rfl (fun h13 => ?_)
  refine j_aload_n 0 dX0_init_57 rfl rfl ?_
  refine j_bipush (x := 6) dX0_init_58 (by decide) ?_
  refine j_newa (ty := .int) 10 0 dX0_init_60 rfl ac_int (by simp) (fun q14 => ?_)
  refine j_putR 0 16 9 dX0_init_62 fl_RX0_34 (by decide) rfl (by decide) (Or.inr ⟨_, rfl⟩) rfl rfl rfl (fun h15 => ?_)
  refine j_aload_n 0 dX0_init_65 rfl rfl ?_
  refine j_bipush (x := 6) dX0_init_66 (by decide) ?_
  refine j_newa (ty := .int) 10 0 dX0_init_68 rfl ac_int (by simp) (fun q16 => ?_)
  refine j_putR 0 16 10 dX0_init_70 fl_RX0_37 (by decide) rfl (by decide) (Or.inr ⟨_, rfl⟩) rfl rfl rfl (fun h17 => ?_)
  refine j_aload_n 0 dX0_init_73 rfl rfl ?_
  refine j_bipush (x := 6) dX0_init_74 (by decide) ?_
  refine j_newa (ty := .int) 10 0 dX0_init_76 rfl ac_int (by simp) (fun q18 => ?_)
  refine j_putR 0 16 11 dX0_init_78 fl_RX0_40 (by decide) rfl (by decide) (Or.inr ⟨_, rfl⟩) rfl rfl rfl (fun h19 => ?_)
  refine j_aload_n 0 dX0_init_81 rfl rfl ?_
  refine j_bipush (x := 6) dX0_init_82 (by decide) ?_
  refine j_newa (ty := .int) 10 0 dX0_init_84 rfl ac_int (by simp) (fun q20 => ?_)
  refine j_putR 0 16 12 dX0_init_86 fl_RX0_43 (by decide) rfl (by decide) (Or.inr ⟨_, rfl⟩) rfl rfl rfl (fun h21 => ?_)
  refine j_aload_n 0 dX0_init_89 rfl rfl ?_
  refine j_new 5 5 dX0_init_90 cl_RX0_46 is_RX5 in_RX5 (by decide) rfl (fun q22 => ?_)
  refine j_dup dX0_init_93 rfl ?_
  refine j_callIN (as := []) (fun _ => none) (fun x => x) dX0_init_94 nl_RX0_48 tg_X5_init im_X5_init rfl (fun x hx => kX5_init κ.1 κ.2.1 q22.1 q22.2 x hx) (by decide) (by decide) rfl rfl (Nat.le_of_ble_eq_true rfl) (fun h23 => ?_)
  show xJ iX0_init κ _ 97 [(0, .ref v0)] [.ref q22.1, .ref v0] h23 _
  refine j_putR 0 16 13 dX0_init_97 fl_RX0_49 (by decide) rfl (by decide) (Or.inl ⟨_, rfl⟩) rfl rfl rfl (fun h24 => ?_)
  refine j_aload_n 0 dX0_init_100 rfl rfl ?_
  refine j_bipush (x := 8) dX0_init_101 (by decide) ?_
  refine j_newq 13 3 5 dX0_init_103 cl_RX0_46 (by simp) (fun q25 => ?_)
  refine j_putR 0 16 14 dX0_init_106 fl_RX0_53 (by decide) rfl (by decide) (Or.inr ⟨_, rfl⟩) rfl rfl rfl (fun h26 => ?_)
  refine j_iconst (x := 0) dX0_init_109 (by decide) ?_
  refine j_istore_n (L' := [(1, .int 0), (0, .ref v0)]) dX0_init_110 rfl (Nat.le_of_ble_eq_true rfl) rfl ?_
  refine j_pick [1, 0] rfl ?_
  refine j_loop (pc := 111) (Lf := fun s111 : Int32 × Hp => [(0, .ref v0), (1, .int s111.1)]) (Hf := fun s111 : Int32 × Hp => s111.2) (fun s111 => ?_) 1000000 (0, h26)
  show xJ iX0_init κ _ 111 [(0, .ref v0), (1, .int s111.1)] [] s111.2 (fX0_init_b111 v0 s111)
  unfold fX0_init_b111
  refine j_iload_n 1 dX0_init_111 rfl rfl ?_
  refine j_bipush (x := 8) dX0_init_112 (by decide) ?_
  refine j_icmp_ge (tgt := 136) dX0_init_114 (by decide) (fun c27 => ?_) (fun c27 => ?_)
  · refine j_exit s111.2 ?_
    show xJ iX0_init κ _ _ _ _ _ (some s111.2)
    exact j_vret s111.2 dX0_init_136 rfl (fun q => q)
  · refine j_aload_n 0 dX0_init_117 rfl rfl ?_
    refine j_getR 0 16 14 dX0_init_118 fl_RX0_53 (by decide) rfl (by decide) (fun _ _ _ => rfl) (fun x28 => ?_)
    refine j_iload_n 1 dX0_init_121 rfl rfl ?_
    refine j_new 5 5 dX0_init_122 cl_RX0_46 is_RX5 in_RX5 (by decide) rfl (fun q29 => ?_)
    refine j_dup dX0_init_125 rfl ?_
    refine j_callIN (as := []) (fun _ => none) (fun x => x) dX0_init_126 nl_RX0_48 tg_X5_init im_X5_init rfl (fun x hx => kX5_init κ.1 κ.2.1 q29.1 q29.2 x hx) (by decide) (by decide) rfl rfl (Nat.le_of_ble_eq_true rfl) (fun h30 => ?_)
    show xJ iX0_init κ _ 129 [(0, .ref v0), (1, .int s111.1)] [.ref q29.1, .int s111.1, .ref x28] h30 _
    refine j_aast13 dX0_init_129 (fun h31 => ?_)
    refine j_iinc (y := s111.1 + 1) (L' := [(1, .int (s111.1 + 1)), (0, .ref v0)]) 1 dX0_init_130 rfl rfl (Nat.le_of_ble_eq_true rfl) rfl ?_
    refine j_goto (tgt := 111) dX0_init_133 (by decide) ?_
    refine j_pick [1, 0] rfl ?_
    exact j_again (s111.1 + 1, h31) rfl rfl
def fX3_init (v0 : Nat) (h : Hp) : Option (Hp) :=
  (xnew h (5, 5)).bind fun q1 => (fX5_init q1.1 q1.2).bind fun h2 => (xpR h2 v0 (3, 3) 0 q1.1).bind fun h3 => (xna h3 10 7).bind fun q4 => (xpR q4.2 v0 (3, 3) 1 q4.1).bind fun h5 => some h5
abbrev iX3_init : xI := (cX3_init, yX3_init.cls, yX3_init.name, none, 1, 3)
set_option maxHeartbeats 4000000 in
set_option maxRecDepth 100000 in
theorem kX3_init (l : Launch) (η : xEnv) (v0 : Nat) (h : Hp) (x : Hp) (hx : fX3_init v0 h = some x) : xC l η yX3_init cX3_init 1 none 3 [.ref v0] h none x := by
  refine xC_of (by decide) (Nat.le_of_ble_eq_true rfl) hx (fun κ x => κ.2.2.2.1 = none ∧ κ.2.2.2.2 = x) ⟨rfl, rfl⟩ (fun κ => ?_)
  show xJ iX3_init κ _ 0 [(0, .ref v0)] [] h (fX3_init v0 h)
  unfold fX3_init
  refine j_aload_n 0 dX3_init_0 rfl rfl ?_
  refine j_obj dX3_init_1 ml_RX3_3 im_obj cd_obj (Nat.le_of_ble_eq_true rfl) (by decide) ?_
  refine j_aload_n 0 dX3_init_4 rfl rfl ?_
  refine j_new 5 5 dX3_init_5 cl_RX3_9 is_RX5 in_RX5 (by decide) rfl (fun q1 => ?_)
  refine j_dup dX3_init_8 rfl ?_
  refine j_callIN (as := []) (fun _ => none) (fun x => x) dX3_init_9 nl_RX3_11 tg_X5_init im_X5_init rfl (fun x hx => kX5_init κ.1 κ.2.1 q1.1 q1.2 x hx) (by decide) (by decide) rfl rfl (Nat.le_of_ble_eq_true rfl) (fun h2 => ?_)
  show xJ iX3_init κ _ 12 [(0, .ref v0)] [.ref q1.1, .ref v0] h2 _
  refine j_putR 3 3 0 dX3_init_12 fl_RX3_12 (by decide) rfl (by decide) (Or.inl ⟨_, rfl⟩) rfl rfl rfl (fun h3 => ?_)
  refine j_aload_n 0 dX3_init_15 rfl rfl ?_
  refine j_bipush (x := 7) dX3_init_16 (by decide) ?_
  refine j_newa (ty := .int) 10 0 dX3_init_18 rfl ac_int (by simp) (fun q4 => ?_)
  refine j_putR 3 3 1 dX3_init_20 fl_RX3_18 (by decide) rfl (by decide) (Or.inr ⟨_, rfl⟩) rfl rfl rfl (fun h5 => ?_)
  exact j_vret h5 dX3_init_23 rfl (fun q => q)
def fX1_init (v0 : Nat) (h : Hp) : Option (Hp) :=
  (xna h 10 7).bind fun q1 => (xpR q1.2 v0 (1, 1) 0 q1.1).bind fun h2 => some h2
abbrev iX1_init : xI := (cX1_init, yX1_init.cls, yX1_init.name, none, 1, 2)
set_option maxHeartbeats 4000000 in
set_option maxRecDepth 100000 in
theorem kX1_init (l : Launch) (η : xEnv) (v0 : Nat) (h : Hp) (x : Hp) (hx : fX1_init v0 h = some x) : xC l η yX1_init cX1_init 1 none 2 [.ref v0] h none x := by
  refine xC_of (by decide) (Nat.le_of_ble_eq_true rfl) hx (fun κ x => κ.2.2.2.1 = none ∧ κ.2.2.2.2 = x) ⟨rfl, rfl⟩ (fun κ => ?_)
  show xJ iX1_init κ _ 0 [(0, .ref v0)] [] h (fX1_init v0 h)
  unfold fX1_init
  refine j_aload_n 0 dX1_init_0 rfl rfl ?_
  refine j_obj dX1_init_1 ml_RX1_3 im_obj cd_obj (Nat.le_of_ble_eq_true rfl) (by decide) ?_
  refine j_aload_n 0 dX1_init_4 rfl rfl ?_
  refine j_bipush (x := 7) dX1_init_5 (by decide) ?_
  refine j_newa (ty := .int) 10 0 dX1_init_7 rfl ac_int (by simp) (fun q1 => ?_)
  refine j_putR 1 1 0 dX1_init_9 fl_RX1_9 (by decide) rfl (by decide) (Or.inr ⟨_, rfl⟩) rfl rfl rfl (fun h2 => ?_)
  exact j_vret h2 dX1_init_12 rfl (fun q => q)
def fX6_init (v0 : Nat) (h : Hp) : Option (Hp) :=
  some h
abbrev iX6_init : xI := (cX6_init, yX6_init.cls, yX6_init.name, none, 1, 2)
set_option maxHeartbeats 4000000 in
set_option maxRecDepth 100000 in
theorem kX6_init (l : Launch) (η : xEnv) (v0 : Nat) (h : Hp) (x : Hp) (hx : fX6_init v0 h = some x) : xC l η yX6_init cX6_init 1 none 2 [.ref v0] h none x := by
  refine xC_of (by decide) (Nat.le_of_ble_eq_true rfl) hx (fun κ x => κ.2.2.2.1 = none ∧ κ.2.2.2.2 = x) ⟨rfl, rfl⟩ (fun κ => ?_)
  show xJ iX6_init κ _ 0 [(0, .ref v0)] [] h (fX6_init v0 h)
  unfold fX6_init
  refine j_aload_n 0 dX6_init_0 rfl rfl ?_
  refine j_obj dX6_init_1 ml_RX6_1 im_obj cd_obj (Nat.le_of_ble_eq_true rfl) (by decide) ?_
  exact j_vret h dX6_init_4 rfl (fun q => q)
def fX7_init (v0 : Nat) (h : Hp) : Option (Hp) :=
  (xna h 10 100).bind fun q1 => (xpR q1.2 v0 (7, 4) 0 q1.1).bind fun h2 => (xna h2 10 100).bind fun q3 => (xpR q3.2 v0 (7, 4) 1 q3.1).bind fun h4 => some h4
abbrev iX7_init : xI := (cX7_init, yX7_init.cls, yX7_init.name, none, 1, 2)
set_option maxHeartbeats 4000000 in
set_option maxRecDepth 100000 in
theorem kX7_init (l : Launch) (η : xEnv) (v0 : Nat) (h : Hp) (x : Hp) (hx : fX7_init v0 h = some x) : xC l η yX7_init cX7_init 1 none 2 [.ref v0] h none x := by
  refine xC_of (by decide) (Nat.le_of_ble_eq_true rfl) hx (fun κ x => κ.2.2.2.1 = none ∧ κ.2.2.2.2 = x) ⟨rfl, rfl⟩ (fun κ => ?_)
  show xJ iX7_init κ _ 0 [(0, .ref v0)] [] h (fX7_init v0 h)
  unfold fX7_init
  refine j_aload_n 0 dX7_init_0 rfl rfl ?_
  refine j_obj dX7_init_1 ml_RX7_3 im_obj cd_obj (Nat.le_of_ble_eq_true rfl) (by decide) ?_
  refine j_aload_n 0 dX7_init_4 rfl rfl ?_
  refine j_bipush (x := 100) dX7_init_5 (by decide) ?_
  refine j_newa (ty := .int) 10 0 dX7_init_7 rfl ac_int (by simp) (fun q1 => ?_)
  refine j_putR 7 4 0 dX7_init_9 fl_RX7_9 (by decide) rfl (by decide) (Or.inr ⟨_, rfl⟩) rfl rfl rfl (fun h2 => ?_)
  refine j_aload_n 0 dX7_init_12 rfl rfl ?_
  refine j_bipush (x := 100) dX7_init_13 (by decide) ?_
  refine j_newa (ty := .int) 10 0 dX7_init_15 rfl ac_int (by simp) (fun q3 => ?_)
  refine j_putR 7 4 1 dX7_init_17 fl_RX7_15 (by decide) rfl (by decide) (Or.inr ⟨_, rfl⟩) rfl rfl rfl (fun h4 => ?_)
  exact j_vret h4 dX7_init_20 rfl (fun q => q)
def fX2_init (v0 : Nat) (h : Hp) : Option (Hp) :=
  (xpL h v0 (2, 2) 0 0).bind fun h1 => (xpL h1 v0 (2, 2) 1 1).bind fun h2 => some h2
abbrev iX2_init : xI := (cX2_init, yX2_init.cls, yX2_init.name, none, 1, 2)
set_option maxHeartbeats 4000000 in
set_option maxRecDepth 100000 in
theorem kX2_init (l : Launch) (η : xEnv) (v0 : Nat) (h : Hp) (x : Hp) (hx : fX2_init v0 h = some x) : xC l η yX2_init cX2_init 1 none 2 [.ref v0] h none x := by
  refine xC_of (by decide) (Nat.le_of_ble_eq_true rfl) hx (fun κ x => κ.2.2.2.1 = none ∧ κ.2.2.2.2 = x) ⟨rfl, rfl⟩ (fun κ => ?_)
  show xJ iX2_init κ _ 0 [(0, .ref v0)] [] h (fX2_init v0 h)
  unfold fX2_init
  refine j_aload_n 0 dX2_init_0 rfl rfl ?_
  refine j_obj dX2_init_1 ml_RX2_1 im_obj cd_obj (Nat.le_of_ble_eq_true rfl) (by decide) ?_
  refine j_aload_n 0 dX2_init_4 rfl rfl ?_
  refine j_lconst (x := 0) dX2_init_5 (by decide) ?_
  refine j_putL 2 2 0 dX2_init_6 fl_RX2_7 (by decide) rfl (by decide) rfl rfl (fun h1 => ?_)
  refine j_aload_n 0 dX2_init_9 rfl rfl ?_
  refine j_lconst (x := 1) dX2_init_10 (by decide) ?_
  refine j_putL 2 2 1 dX2_init_11 fl_RX2_13 (by decide) rfl (by decide) rfl rfl (fun h2 => ?_)
  exact j_vret h2 dX2_init_14 rfl (fun q => q)
def fX4_init (v0 : Nat) (h : Hp) : Option (Hp) :=
  (xna h 10 150).bind fun q1 => (xpR q1.2 v0 (4, 8) 0 q1.1).bind fun h2 => (xnew h2 (0, 16)).bind fun q3 => (fX0_init q3.1 q3.2).bind fun h4 => (xpR h4 v0 (4, 8) 2 q3.1).bind fun h5 => some h5
abbrev iX4_init : xI := (cX4_init, yX4_init.cls, yX4_init.name, none, 1, 4)
set_option maxHeartbeats 4000000 in
set_option maxRecDepth 100000 in
theorem kX4_init (l : Launch) (η : xEnv) (v0 : Nat) (h : Hp) (x : Hp) (hx : fX4_init v0 h = some x) : xC l η yX4_init cX4_init 1 none 4 [.ref v0] h none x := by
  refine xC_of (by decide) (Nat.le_of_ble_eq_true rfl) hx (fun κ x => κ.2.2.2.1 = none ∧ κ.2.2.2.2 = x) ⟨rfl, rfl⟩ (fun κ => ?_)
  show xJ iX4_init κ _ 0 [(0, .ref v0)] [] h (fX4_init v0 h)
  unfold fX4_init
  refine j_aload_n 0 dX4_init_0 rfl rfl ?_
  refine j_obj dX4_init_1 ml_RX4_3 im_obj cd_obj (Nat.le_of_ble_eq_true rfl) (by decide) ?_
  refine j_aload_n 0 dX4_init_4 rfl rfl ?_
  refine j_sipush (x := 150) dX4_init_5 (by decide) ?_
  refine j_newa (ty := .int) 10 0 dX4_init_8 rfl ac_int (by simp) (fun q1 => ?_)
  refine j_putR 4 8 0 dX4_init_10 fl_RX4_9 (by decide) rfl (by decide) (Or.inr ⟨_, rfl⟩) rfl rfl rfl (fun h2 => ?_)
  refine j_aload_n 0 dX4_init_13 rfl rfl ?_
  refine j_new 0 16 dX4_init_14 cl_RX4_15 is_RX0 in_RX0 (by decide) rfl (fun q3 => ?_)
  refine j_dup dX4_init_17 rfl ?_
  refine j_callI (as := []) (fun _ => none) (fun x => x) dX4_init_18 ml_RX4_17 tg_X0_init im_X0_init rfl (fun x hx => kX0_init κ.1 κ.2.1 q3.1 q3.2 x hx) (by decide) (by decide) rfl rfl (Nat.le_of_ble_eq_true rfl) (fun h4 => ?_)
  show xJ iX4_init κ _ 21 [(0, .ref v0)] [.ref q3.1, .ref v0] h4 _
  refine j_putR 4 8 2 dX4_init_21 fl_RX4_18 (by decide) rfl (by decide) (Or.inl ⟨_, rfl⟩) rfl rfl rfl (fun h5 => ?_)
  exact j_vret h5 dX4_init_24 rfl (fun q => q)
def fX8_init (v0 : Nat) (h : Hp) : Option (Hp) :=
  (xnew h (0, 16)).bind fun q1 => (fX0_init q1.1 q1.2).bind fun h2 => (xpR h2 v0 (8, 12) 0 q1.1).bind fun h3 => (xna h3 12 2).bind fun q4 => (xnew q4.2 (0, 16)).bind fun q5 => (fX0_init q5.1 q5.2).bind fun h6 => (xsR h6 q4.1 12 0 q5.1 (0, 16)).bind fun h7 => (xnew h7 (0, 16)).bind fun q8 => (fX0_init q8.1 q8.2).bind fun h9 => (xsR h9 q4.1 12 1 q8.1 (0, 16)).bind fun h10 => (xpR h10 v0 (8, 12) 1 q4.1).bind fun h11 => (xna h11 11 2).bind fun q12 => (xpR q12.2 v0 (8, 12) 2 q12.1).bind fun h13 => (xnew h13 (3, 3)).bind fun q14 => (fX3_init q14.1 q14.2).bind fun h15 => (xpR h15 v0 (8, 12) 3 q14.1).bind fun h16 => (xnew h16 (1, 1)).bind fun q17 => (fX1_init q17.1 q17.2).bind fun h18 => (xpR h18 v0 (8, 12) 4 q17.1).bind fun h19 => (xnew h19 (6, 3)).bind fun q20 => (fX6_init q20.1 q20.2).bind fun h21 => (xpR h21 v0 (8, 12) 5 q20.1).bind fun h22 => (xnew h22 (7, 4)).bind fun q23 => (fX7_init q23.1 q23.2).bind fun h24 => (xpR h24 v0 (8, 12) 6 q23.1).bind fun h25 => (xnew h25 (2, 2)).bind fun q26 => (fX2_init q26.1 q26.2).bind fun h27 => (xpR h27 v0 (8, 12) 7 q26.1).bind fun h28 => (xnew h28 (4, 8)).bind fun q29 => (fX4_init q29.1 q29.2).bind fun h30 => (xpR h30 v0 (8, 12) 8 q29.1).bind fun h31 => some h31
abbrev iX8_init : xI := (cX8_init, yX8_init.cls, yX8_init.name, none, 1, 5)
set_option maxHeartbeats 4000000 in
set_option maxRecDepth 100000 in
theorem kX8_init (l : Launch) (η : xEnv) (v0 : Nat) (h : Hp) (x : Hp) (hx : fX8_init v0 h = some x) : xC l η yX8_init cX8_init 1 none 5 [.ref v0] h none x := by
  refine xC_of (by decide) (Nat.le_of_ble_eq_true rfl) hx (fun κ x => κ.2.2.2.1 = none ∧ κ.2.2.2.2 = x) ⟨rfl, rfl⟩ (fun κ => ?_)
  show xJ iX8_init κ _ 0 [(0, .ref v0)] [] h (fX8_init v0 h)
  unfold fX8_init
  refine j_aload_n 0 dX8_init_0 rfl rfl ?_
  refine j_obj dX8_init_1 ml_RX8_3 im_obj cd_obj (Nat.le_of_ble_eq_true rfl) (by decide) ?_
  refine j_aload_n 0 dX8_init_4 rfl rfl ?_
  refine j_new 0 16 dX8_init_5 cl_RX8_9 is_RX0 in_RX0 (by decide) rfl (fun q1 => ?_)
  refine j_dup dX8_init_8 rfl ?_
  refine j_callI (as := []) (fun _ => none) (fun x => x) dX8_init_9 ml_RX8_11 tg_X0_init im_X0_init rfl (fun x hx => kX0_init κ.1 κ.2.1 q1.1 q1.2 x hx) (by decide) (by decide) rfl rfl (Nat.le_of_ble_eq_true rfl) (fun h2 => ?_)
  show xJ iX8_init κ _ 12 [(0, .ref v0)] [.ref q1.1, .ref v0] h2 _
  refine j_putR 8 12 0 dX8_init_12 fl_RX8_12 (by decide) rfl (by decide) (Or.inl ⟨_, rfl⟩) rfl rfl rfl (fun h3 => ?_)
  refine j_aload_n 0 dX8_init_15 rfl rfl ?_
  refine j_iconst (x := 2) dX8_init_16 (by decide) ?_
  refine j_newq 12 2 0 dX8_init_17 cl_RX8_9 (by simp) (fun q4 => ?_)
  refine j_dup dX8_init_20 rfl ?_
  refine j_iconst (x := 0) dX8_init_21 (by decide) ?_
  refine j_new 0 16 dX8_init_22 cl_RX8_9 is_RX0 in_RX0 (by decide) rfl (fun q5 => ?_)
  refine j_dup dX8_init_25 rfl ?_
  refine j_callI (as := []) (fun _ => none) (fun x => x) dX8_init_26 ml_RX8_11 tg_X0_init im_X0_init rfl (fun x hx => kX0_init κ.1 κ.2.1 q5.1 q5.2 x hx) (by decide) (by decide) rfl rfl (Nat.le_of_ble_eq_true rfl) (fun h6 => ?_)
  show xJ iX8_init κ _ 29 [(0, .ref v0)] [.ref q5.1, .int 0, .ref q4.1, .ref q4.1, .ref v0] h6 _
  refine j_aast12 dX8_init_29 (fun h7 => ?_)
  refine j_dup dX8_init_30 rfl ?_
  refine j_iconst (x := 1) dX8_init_31 (by decide) ?_
  refine j_new 0 16 dX8_init_32 cl_RX8_9 is_RX0 in_RX0 (by decide) rfl (fun q8 => ?_)
  refine j_dup dX8_init_35 rfl ?_
  refine j_callI (as := []) (fun _ => none) (fun x => x) dX8_init_36 ml_RX8_11 tg_X0_init im_X0_init rfl (fun x hx => kX0_init κ.1 κ.2.1 q8.1 q8.2 x hx) (by decide) (by decide) rfl rfl (Nat.le_of_ble_eq_true rfl) (fun h9 => ?_)
  show xJ iX8_init κ _ 39 [(0, .ref v0)] [.ref q8.1, .int 1, .ref q4.1, .ref q4.1, .ref v0] h9 _
  refine j_aast12 dX8_init_39 (fun h10 => ?_)
  refine j_putR 8 12 1 dX8_init_40 fl_RX8_16 (by decide) rfl (by decide) (Or.inr ⟨_, rfl⟩) rfl rfl rfl (fun h11 => ?_)
  refine j_aload_n 0 dX8_init_43 rfl rfl ?_
  refine j_iconst (x := 2) dX8_init_44 (by decide) ?_
  refine j_newa (ty := .boolean) 11 1 dX8_init_45 rfl ac_boolean (by simp) (fun q12 => ?_)
  refine j_putR 8 12 2 dX8_init_47 fl_RX8_20 (by decide) rfl (by decide) (Or.inr ⟨_, rfl⟩) rfl rfl rfl (fun h13 => ?_)
  refine j_aload_n 0 dX8_init_50 rfl rfl ?_
  refine j_new 3 3 dX8_init_51 cl_RX8_24 is_RX3 in_RX3 (by decide) rfl (fun q14 => ?_)
  refine j_dup dX8_init_54 rfl ?_
  refine j_callIN (as := []) (fun _ => none) (fun x => x) dX8_init_55 nl_RX8_26 tg_X3_init im_X3_init rfl (fun x hx => kX3_init κ.1 κ.2.1 q14.1 q14.2 x hx) (by decide) (by decide) rfl rfl (Nat.le_of_ble_eq_true rfl) (fun h15 => ?_)
  show xJ iX8_init κ _ 58 [(0, .ref v0)] [.ref q14.1, .ref v0] h15 _
  refine j_putR 8 12 3 dX8_init_58 fl_RX8_27 (by decide) rfl (by decide) (Or.inl ⟨_, rfl⟩) rfl rfl rfl (fun h16 => ?_)
  refine j_aload_n 0 dX8_init_61 rfl rfl ?_
  refine j_new 1 1 dX8_init_62 cl_RX8_31 is_RX1 in_RX1 (by decide) rfl (fun q17 => ?_)
  refine j_dup dX8_init_65 rfl ?_
  refine j_callIN (as := []) (fun _ => none) (fun x => x) dX8_init_66 nl_RX8_33 tg_X1_init im_X1_init rfl (fun x hx => kX1_init κ.1 κ.2.1 q17.1 q17.2 x hx) (by decide) (by decide) rfl rfl (Nat.le_of_ble_eq_true rfl) (fun h18 => ?_)
  show xJ iX8_init κ _ 69 [(0, .ref v0)] [.ref q17.1, .ref v0] h18 _
  refine j_putR 8 12 4 dX8_init_69 fl_RX8_34 (by decide) rfl (by decide) (Or.inl ⟨_, rfl⟩) rfl rfl rfl (fun h19 => ?_)
  refine j_aload_n 0 dX8_init_72 rfl rfl ?_
  refine j_new 6 3 dX8_init_73 cl_RX8_38 is_RX6 in_RX6 (by decide) rfl (fun q20 => ?_)
  refine j_dup dX8_init_76 rfl ?_
  refine j_callIN (as := []) (fun _ => none) (fun x => x) dX8_init_77 nl_RX8_40 tg_X6_init im_X6_init rfl (fun x hx => kX6_init κ.1 κ.2.1 q20.1 q20.2 x hx) (by decide) (by decide) rfl rfl (Nat.le_of_ble_eq_true rfl) (fun h21 => ?_)
  show xJ iX8_init κ _ 80 [(0, .ref v0)] [.ref q20.1, .ref v0] h21 _
  refine j_putR 8 12 5 dX8_init_80 fl_RX8_41 (by decide) rfl (by decide) (Or.inl ⟨_, rfl⟩) rfl rfl rfl (fun h22 => ?_)
  refine j_aload_n 0 dX8_init_83 rfl rfl ?_
  refine j_new 7 4 dX8_init_84 cl_RX8_45 is_RX7 in_RX7 (by decide) rfl (fun q23 => ?_)
  refine j_dup dX8_init_87 rfl ?_
  refine j_callIN (as := []) (fun _ => none) (fun x => x) dX8_init_88 nl_RX8_47 tg_X7_init im_X7_init rfl (fun x hx => kX7_init κ.1 κ.2.1 q23.1 q23.2 x hx) (by decide) (by decide) rfl rfl (Nat.le_of_ble_eq_true rfl) (fun h24 => ?_)
  show xJ iX8_init κ _ 91 [(0, .ref v0)] [.ref q23.1, .ref v0] h24 _
  refine j_putR 8 12 6 dX8_init_91 fl_RX8_48 (by decide) rfl (by decide) (Or.inl ⟨_, rfl⟩) rfl rfl rfl (fun h25 => ?_)
  refine j_aload_n 0 dX8_init_94 rfl rfl ?_
  refine j_new 2 2 dX8_init_95 cl_RX8_52 is_RX2 in_RX2 (by decide) rfl (fun q26 => ?_)
  refine j_dup dX8_init_98 rfl ?_
  refine j_callIN (as := []) (fun _ => none) (fun x => x) dX8_init_99 nl_RX8_54 tg_X2_init im_X2_init rfl (fun x hx => kX2_init κ.1 κ.2.1 q26.1 q26.2 x hx) (by decide) (by decide) rfl rfl (Nat.le_of_ble_eq_true rfl) (fun h27 => ?_)
  show xJ iX8_init κ _ 102 [(0, .ref v0)] [.ref q26.1, .ref v0] h27 _
  refine j_putR 8 12 7 dX8_init_102 fl_RX8_55 (by decide) rfl (by decide) (Or.inl ⟨_, rfl⟩) rfl rfl rfl (fun h28 => ?_)
  refine j_aload_n 0 dX8_init_105 rfl rfl ?_
  refine j_new 4 8 dX8_init_106 cl_RX8_59 is_RX4 in_RX4 (by decide) rfl (fun q29 => ?_)
  refine j_dup dX8_init_109 rfl ?_
  refine j_callIN (as := []) (fun _ => none) (fun x => x) dX8_init_110 nl_RX8_61 tg_X4_init im_X4_init rfl (fun x hx => kX4_init κ.1 κ.2.1 q29.1 q29.2 x hx) (by decide) (by decide) rfl rfl (Nat.le_of_ble_eq_true rfl) (fun h30 => ?_)
  show xJ iX8_init κ _ 113 [(0, .ref v0)] [.ref q29.1, .ref v0] h30 _
  refine j_putR 8 12 8 dX8_init_113 fl_RX8_62 (by decide) rfl (by decide) (Or.inl ⟨_, rfl⟩) rfl rfl rfl (fun h31 => ?_)
  exact j_vret h31 dX8_init_116 rfl (fun q => q)
def fX9_begin_b2 (v0 : Nat) (v1 : Int32) (s2 : Int32 × Hp) : Option ((Int32 × Hp) ⊕ ((Nat × Int32 × Hp))) :=
  if (78 : Int32) ≤ s2.1 then (some (Sum.inr (v0, v1, s2.2))) else ((xsI s2.2 v0 s2.1 0).bind fun h3 => some (Sum.inl (s2.1 + 1, h3)))
def fX9_begin (v0 : Nat) (v1 : Int32) (h : Hp) : Option (Hp) :=
  (xloop (fX9_begin_b2 v0 v1) 1000000 (0, h)).bind (fun r2 => (xsI r2.2.2 r2.1 8 r2.2.1).bind fun h4 => some h4)
abbrev iX9_begin : xI := (cX9_begin, yX9_begin.cls, yX9_begin.name, none, 3, 2)
set_option maxHeartbeats 4000000 in
set_option maxRecDepth 100000 in
theorem kX9_begin (l : Launch) (η : xEnv) (v0 : Nat) (v1 : Int32) (h : Hp) (x : Hp) (hx : fX9_begin v0 v1 h = some x) : xC l η yX9_begin cX9_begin 3 none 2 [.ref v0, .int v1] h none x := by
  refine xC_of (by decide) (Nat.le_of_ble_eq_true rfl) hx (fun κ x => κ.2.2.2.1 = none ∧ κ.2.2.2.2 = x) ⟨rfl, rfl⟩ (fun κ => ?_)
  show xJ iX9_begin κ _ 0 [(0, .ref v0), (1, .int v1)] [] h (fX9_begin v0 v1 h)
  unfold fX9_begin
  refine j_iconst (x := 0) dX9_begin_0 (by decide) ?_
  refine j_istore_n (L' := [(2, .int 0), (0, .ref v0), (1, .int v1)]) dX9_begin_1 rfl (Nat.le_of_ble_eq_true rfl) rfl ?_
  refine j_pick [1, 2, 0] rfl ?_
  refine j_loop (pc := 2) (Lf := fun s2 : Int32 × Hp => [(0, .ref v0), (1, .int v1), (2, .int s2.1)]) (Hf := fun s2 : Int32 × Hp => s2.2) (fun s2 => ?_) 1000000 (0, h)
  show xJ iX9_begin κ _ 2 [(0, .ref v0), (1, .int v1), (2, .int s2.1)] [] s2.2 (fX9_begin_b2 v0 v1 s2)
  unfold fX9_begin_b2
  refine j_iload_n 2 dX9_begin_2 rfl rfl ?_
  refine j_bipush (x := 78) dX9_begin_3 (by decide) ?_
  refine j_icmp_ge (tgt := 18) dX9_begin_5 (by decide) (fun c1 => ?_) (fun c1 => ?_)
  · refine j_exit (v0, v1, s2.2) ?_
    show xJ iX9_begin κ _ _ _ _ _ ((xsI s2.2 v0 8 v1).bind fun h2 => some h2)
    refine j_aload_n 0 dX9_begin_18 rfl rfl ?_
    refine j_bipush (x := 8) dX9_begin_19 (by decide) ?_
    refine j_iload_n 1 dX9_begin_21 rfl rfl ?_
    refine j_iast dX9_begin_22 (fun h2 => ?_)
    exact j_vret h2 dX9_begin_23 rfl (fun q => q)
  · refine j_aload_n 0 dX9_begin_8 rfl rfl ?_
    refine j_iload_n 2 dX9_begin_9 rfl rfl ?_
    refine j_iconst (x := 0) dX9_begin_10 (by decide) ?_
    refine j_iast dX9_begin_11 (fun h3 => ?_)
    refine j_iinc (y := s2.1 + 1) (L' := [(2, .int (s2.1 + 1)), (0, .ref v0), (1, .int v1)]) 2 dX9_begin_12 rfl rfl (Nat.le_of_ble_eq_true rfl) rfl ?_
    refine j_goto (tgt := 2) dX9_begin_15 (by decide) ?_
    refine j_pick [1, 2, 0] rfl ?_
    exact j_again (s2.1 + 1, h3) rfl rfl
def fX9_init (v0 : Nat) (h : Hp) : Option (Hp) :=
  (xna h 10 118).bind fun q1 => (xpR q1.2 v0 (9, 18) 0 q1.1).bind fun h2 => (xna h2 10 236).bind fun q3 => (xpR q3.2 v0 (9, 18) 1 q3.1).bind fun h4 => (xna h4 11 2).bind fun q5 => (xpR q5.2 v0 (9, 18) 2 q5.1).bind fun h6 => (xna h6 10 3).bind fun q7 => (xpR q7.2 v0 (9, 18) 3 q7.1).bind fun h8 => (xpL h8 v0 (9, 18) 5 1).bind fun h9 => (xna h9 10 54).bind fun q10 => (xpR q10.2 v0 (9, 18) 6 q10.1).bind fun h11 => (xna h11 10 7).bind fun q12 => (xpR q12.2 v0 (9, 18) 7 q12.1).bind fun h13 => (xna h13 10 100).bind fun q14 => (xpR q14.2 v0 (9, 18) 8 q14.1).bind fun h15 => (xna h15 10 100).bind fun q16 => (xpR q16.2 v0 (9, 18) 9 q16.1).bind fun h17 => (xna h17 10 150).bind fun q18 => (xpR q18.2 v0 (9, 18) 10 q18.1).bind fun h19 => (xna h19 10 78).bind fun q20 => (xpR q20.2 v0 (9, 18) 16 q20.1).bind fun h21 => (xna h21 10 4).bind fun q22 => (xpR q22.2 v0 (9, 18) 17 q22.1).bind fun h23 => (xgR h23 v0 (9, 18) 0).bind fun x24 => (fX9_begin x24 4 h23).bind fun h25 => some h25
abbrev iX9_init : xI := (cX9_init, yX9_init.cls, yX9_init.name, none, 1, 3)
set_option maxHeartbeats 4000000 in
set_option maxRecDepth 100000 in
theorem kX9_init (l : Launch) (η : xEnv) (v0 : Nat) (h : Hp) (x : Hp) (hx : fX9_init v0 h = some x) : xC l η yX9_init cX9_init 1 none 3 [.ref v0] h none x := by
  refine xC_of (by decide) (Nat.le_of_ble_eq_true rfl) hx (fun κ x => κ.2.2.2.1 = none ∧ κ.2.2.2.2 = x) ⟨rfl, rfl⟩ (fun κ => ?_)
  show xJ iX9_init κ _ 0 [(0, .ref v0)] [] h (fX9_init v0 h)
  unfold fX9_init
  refine j_aload_n 0 dX9_init_0 rfl rfl ?_
  refine j_obj dX9_init_1 ml_RX9_1 im_obj cd_obj (Nat.le_of_ble_eq_true rfl) (by decide) ?_
  refine j_aload_n 0 dX9_init_4 rfl rfl ?_
  refine j_bipush (x := 118) dX9_init_5 (by decide) ?_
  refine j_newa (ty := .int) 10 0 dX9_init_7 rfl ac_int (by simp) (fun q1 => ?_)
  refine j_putR 9 18 0 dX9_init_9 fl_RX9_7 (by decide) rfl (by decide) (Or.inr ⟨_, rfl⟩) rfl rfl rfl (fun h2 => ?_)
  refine j_aload_n 0 dX9_init_12 rfl rfl ?_
  refine j_sipush (x := 236) dX9_init_13 (by decide) ?_
  refine j_newa (ty := .int) 10 0 dX9_init_16 rfl ac_int (by simp) (fun q3 => ?_)
  refine j_putR 9 18 1 dX9_init_18 fl_RX9_13 (by decide) rfl (by decide) (Or.inr ⟨_, rfl⟩) rfl rfl rfl (fun h4 => ?_)
  refine j_aload_n 0 dX9_init_21 rfl rfl ?_
  refine j_iconst (x := 2) dX9_init_22 (by decide) ?_
  refine j_newa (ty := .boolean) 11 1 dX9_init_23 rfl ac_boolean (by simp) (fun q5 => ?_)
  refine j_putR 9 18 2 dX9_init_25 fl_RX9_16 (by decide) rfl (by decide) (Or.inr ⟨_, rfl⟩) rfl rfl rfl (fun h6 => ?_)
  refine j_aload_n 0 dX9_init_28 rfl rfl ?_
  refine j_iconst (x := 3) dX9_init_29 (by decide) ?_
  refine j_newa (ty := .int) 10 0 dX9_init_30 rfl ac_int (by simp) (fun q7 => ?_)
  refine j_putR 9 18 3 dX9_init_32 fl_RX9_20 (by decide) rfl (by decide) (Or.inr ⟨_, rfl⟩) rfl rfl rfl (fun h8 => ?_)
  refine j_aload_n 0 dX9_init_35 rfl rfl ?_
  refine j_lconst (x := 1) dX9_init_36 (by decide) ?_
  refine j_putL 9 18 5 dX9_init_37 fl_RX9_23 (by decide) rfl (by decide) rfl rfl (fun h9 => ?_)
  refine j_aload_n 0 dX9_init_40 rfl rfl ?_
  refine j_bipush (x := 54) dX9_init_41 (by decide) ?_
  refine j_newa (ty := .int) 10 0 dX9_init_43 rfl ac_int (by simp) (fun q10 => ?_)
  refine j_putR 9 18 6 dX9_init_45 fl_RX9_27 (by decide) rfl (by decide) (Or.inr ⟨_, rfl⟩) rfl rfl rfl (fun h11 => ?_)
  refine j_aload_n 0 dX9_init_48 rfl rfl ?_
  refine j_bipush (x := 7) dX9_init_49 (by decide) ?_
  refine j_newa (ty := .int) 10 0 dX9_init_51 rfl ac_int (by simp) (fun q12 => ?_)
  refine j_putR 9 18 7 dX9_init_53 fl_RX9_30 (by decide) rfl (by decide) (Or.inr ⟨_, rfl⟩) rfl rfl rfl (fun h13 => ?_)
  refine j_aload_n 0 dX9_init_56 rfl rfl ?_
  refine j_bipush (x := 100) dX9_init_57 (by decide) ?_
  refine j_newa (ty := .int) 10 0 dX9_init_59 rfl ac_int (by simp) (fun q14 => ?_)
  refine j_putR 9 18 8 dX9_init_61 fl_RX9_33 (by decide) rfl (by decide) (Or.inr ⟨_, rfl⟩) rfl rfl rfl (fun h15 => ?_)
  refine j_aload_n 0 dX9_init_64 rfl rfl ?_
  refine j_bipush (x := 100) dX9_init_65 (by decide) ?_
  refine j_newa (ty := .int) 10 0 dX9_init_67 rfl ac_int (by simp) (fun q16 => ?_)
  refine j_putR 9 18 9 dX9_init_69 fl_RX9_36 (by decide) rfl (by decide) (Or.inr ⟨_, rfl⟩) rfl rfl rfl (fun h17 => ?_)
  refine j_aload_n 0 dX9_init_72 rfl rfl ?_
  refine j_sipush (x := 150) dX9_init_73 (by decide) ?_
  refine j_newa (ty := .int) 10 0 dX9_init_76 rfl ac_int (by simp) (fun q18 => ?_)
  refine j_putR 9 18 10 dX9_init_78 fl_RX9_39 (by decide) rfl (by decide) (Or.inr ⟨_, rfl⟩) rfl rfl rfl (fun h19 => ?_)
  refine j_aload_n 0 dX9_init_81 rfl rfl ?_
  refine j_bipush (x := 78) dX9_init_82 (by decide) ?_
  refine j_newa (ty := .int) 10 0 dX9_init_84 rfl ac_int (by simp) (fun q20 => ?_)
  refine j_putR 9 18 16 dX9_init_86 fl_RX9_42 (by decide) rfl (by decide) (Or.inr ⟨_, rfl⟩) rfl rfl rfl (fun h21 => ?_)
  refine j_aload_n 0 dX9_init_89 rfl rfl ?_
  refine j_iconst (x := 4) dX9_init_90 (by decide) ?_
  refine j_newa (ty := .int) 10 0 dX9_init_91 rfl ac_int (by simp) (fun q22 => ?_)
  refine j_putR 9 18 17 dX9_init_93 fl_RX9_45 (by decide) rfl (by decide) (Or.inr ⟨_, rfl⟩) rfl rfl rfl (fun h23 => ?_)
  refine j_aload_n 0 dX9_init_96 rfl rfl ?_
  refine j_getR 9 18 0 dX9_init_97 fl_RX9_7 (by decide) rfl (by decide) (fun _ _ _ => rfl) (fun x24 => ?_)
  refine j_iconst (x := 4) dX9_init_100 (by decide) ?_
  refine j_callS (as := [.ref x24, .int 4]) (fun _ => none) (fun x => x) dX9_init_101 ml_RX9_48 tg_X9_begin st_X9_begin (fun x hx => kX9_begin κ.1 κ.2.1 x24 4 h23 x hx) (by decide) (by decide) rfl rfl (Nat.le_of_ble_eq_true rfl) (fun h25 => ?_)
  show xJ iX9_init κ _ 104 [(0, .ref v0)] [] h25 _
  exact j_vret h25 dX9_init_104 rfl (fun q => q)
def fX8_within_j15 (t0 : Int32) (h : Hp) : Option (Int32) :=
  if vp_nar .boolean t0 = t0 then some t0 else none
def fX8_within_j14  (h : Hp) : Option (Int32) :=
  fX8_within_j15 0 h
def fX8_within (v0 : Int32) (v1 : Int32) (v2 : Int32) (h : Hp) : Option (Int32) :=
  if (v0 : Int32) < v1 then (fX8_within_j14 h) else (if (v2 : Int32) < v0 then (fX8_within_j14 h) else (fX8_within_j15 1 h))
abbrev iX8_within : xI := (cX8_within, yX8_within.cls, yX8_within.name, some .boolean, 3, 2)
set_option maxHeartbeats 4000000 in
set_option maxRecDepth 100000 in
theorem kX8_within (l : Launch) (η : xEnv) (v0 : Int32) (v1 : Int32) (v2 : Int32) (h : Hp) (x : Int32) (hx : fX8_within v0 v1 v2 h = some x) : xC l η yX8_within cX8_within 3 (some .boolean) 2 [.int v0, .int v1, .int v2] h (some (.int x)) h := by
  refine xC_of (by decide) (Nat.le_of_ble_eq_true rfl) hx (fun κ x => κ.2.2.2.1 = some (.int x) ∧ κ.2.2.2.2 = h) ⟨rfl, rfl⟩ (fun κ => ?_)
  show xJ iX8_within κ _ 0 [(0, .int v0), (1, .int v1), (2, .int v2)] [] h (fX8_within v0 v1 v2 h)
  unfold fX8_within
  refine j_have (pj := 15) (Lf := fun v : Int32 => []) (Sf := fun v : Int32 => [.int v]) (Hf := fun v : Int32 => h) (jf := fun v : Int32 => fX8_within_j15 v h) (fun v => ?_) (fun hj15 => ?_)
  · generalize v = t0
    show xJ iX8_within κ _ 15 [] [.int t0] h (fX8_within_j15 t0 h)
    unfold fX8_within_j15
    exact j_zretc t0 dX8_within_15 rfl (fun q => q)
  refine j_have (pj := 14) (Lf := fun v : Unit => []) (Sf := fun v : Unit => []) (Hf := fun v : Unit => h) (jf := fun v : Unit => fX8_within_j14 h) (fun v => ?_) (fun hj14 => ?_)
  · skip
    show xJ iX8_within κ _ 14 [] [] h (fX8_within_j14 h)
    unfold fX8_within_j14
    refine j_iconst (x := 0) dX8_within_14 (by decide) ?_
    refine j_pick [] rfl ?_
    exact hj15 0
  refine j_iload_n 0 dX8_within_0 rfl rfl ?_
  refine j_iload_n 1 dX8_within_1 rfl rfl ?_
  refine j_icmp_lt (tgt := 14) dX8_within_2 (by decide) (fun c1 => ?_) (fun c1 => ?_)
  · refine j_pick [] rfl ?_
    exact hj14 ()
  · refine j_iload_n 0 dX8_within_5 rfl rfl ?_
    refine j_iload_n 2 dX8_within_6 rfl rfl ?_
    refine j_icmp_gt (tgt := 14) dX8_within_7 (by decide) (fun c2 => ?_) (fun c2 => ?_)
    · refine j_pick [] rfl ?_
      exact hj14 ()
    · refine j_iconst (x := 1) dX8_within_10 (by decide) ?_
      refine j_goto (tgt := 15) dX8_within_11 (by decide) ?_
      refine j_pick [] rfl ?_
      exact hj15 1
def fX8_refuseBad (v0 : Nat) (h : Hp) : Option (Int32 × Hp) :=
  (xgI h v0 (8, 12) 9).bind fun x1 => (xpI h v0 (8, 12) 9 (x1 + 1)).bind fun h2 => some ((-2), h2)
abbrev iX8_refuseBad : xI := (cX8_refuseBad, yX8_refuseBad.cls, yX8_refuseBad.name, some .int, 1, 2)
set_option maxHeartbeats 4000000 in
set_option maxRecDepth 100000 in
theorem kX8_refuseBad (l : Launch) (η : xEnv) (v0 : Nat) (h : Hp) (x : Int32 × Hp) (hx : fX8_refuseBad v0 h = some x) : xC l η yX8_refuseBad cX8_refuseBad 1 (some .int) 2 [.ref v0] h (some (.int x.1)) x.2 := by
  refine xC_of (by decide) (Nat.le_of_ble_eq_true rfl) hx (fun κ x => κ.2.2.2.1 = some (.int x.1) ∧ κ.2.2.2.2 = x.2) ⟨rfl, rfl⟩ (fun κ => ?_)
  show xJ iX8_refuseBad κ _ 0 [(0, .ref v0)] [] h (fX8_refuseBad v0 h)
  unfold fX8_refuseBad
  refine j_aload_n 0 dX8_refuseBad_0 rfl rfl ?_
  refine j_dup dX8_refuseBad_1 rfl ?_
  refine j_getI 8 12 9 dX8_refuseBad_2 fl_RX8_285 (by decide) rfl (by decide) rfl (fun x1 => ?_)
  refine j_iconst (x := 1) dX8_refuseBad_5 (by decide) ?_
  refine j_iadd dX8_refuseBad_6 ?_
  refine j_putI 8 12 9 dX8_refuseBad_7 fl_RX8_285 (by decide) rfl (by decide) rfl rfl (fun h2 => ?_)
  refine j_bipush (x := (-2)) dX8_refuseBad_10 (by decide) ?_
  exact j_iret ((-2), h2) dX8_refuseBad_12 rfl (fun q => q)
def fX5_startAnew (v0 : Nat) (h : Hp) : Option (Hp) :=
  (xpI h v0 (5, 5) 0 0).bind fun h1 => (xpI h1 v0 (5, 5) 1 0).bind fun h2 => (xpI h2 v0 (5, 5) 2 0).bind fun h3 => (xpI h3 v0 (5, 5) 3 0).bind fun h4 => (xpI h4 v0 (5, 5) 4 0).bind fun h5 => some h5
abbrev iX5_startAnew : xI := (cX5_startAnew, yX5_startAnew.cls, yX5_startAnew.name, none, 1, 2)
set_option maxHeartbeats 4000000 in
set_option maxRecDepth 100000 in
theorem kX5_startAnew (l : Launch) (η : xEnv) (v0 : Nat) (h : Hp) (x : Hp) (hx : fX5_startAnew v0 h = some x) : xC l η yX5_startAnew cX5_startAnew 1 none 2 [.ref v0] h none x := by
  refine xC_of (by decide) (Nat.le_of_ble_eq_true rfl) hx (fun κ x => κ.2.2.2.1 = none ∧ κ.2.2.2.2 = x) ⟨rfl, rfl⟩ (fun κ => ?_)
  show xJ iX5_startAnew κ _ 0 [(0, .ref v0)] [] h (fX5_startAnew v0 h)
  unfold fX5_startAnew
  refine j_aload_n 0 dX5_startAnew_0 rfl rfl ?_
  refine j_iconst (x := 0) dX5_startAnew_1 (by decide) ?_
  refine j_putI 5 5 0 dX5_startAnew_2 fl_RX5_7 (by decide) rfl (by decide) rfl rfl (fun h1 => ?_)
  refine j_aload_n 0 dX5_startAnew_5 rfl rfl ?_
  refine j_iconst (x := 0) dX5_startAnew_6 (by decide) ?_
  refine j_putI 5 5 1 dX5_startAnew_7 fl_RX5_13 (by decide) rfl (by decide) rfl rfl (fun h2 => ?_)
  refine j_aload_n 0 dX5_startAnew_10 rfl rfl ?_
  refine j_iconst (x := 0) dX5_startAnew_11 (by decide) ?_
  refine j_putI 5 5 2 dX5_startAnew_12 fl_RX5_16 (by decide) rfl (by decide) rfl rfl (fun h3 => ?_)
  refine j_aload_n 0 dX5_startAnew_15 rfl rfl ?_
  refine j_iconst (x := 0) dX5_startAnew_16 (by decide) ?_
  refine j_putI 5 5 3 dX5_startAnew_17 fl_RX5_19 (by decide) rfl (by decide) rfl rfl (fun h4 => ?_)
  refine j_aload_n 0 dX5_startAnew_20 rfl rfl ?_
  refine j_iconst (x := 0) dX5_startAnew_21 (by decide) ?_
  refine j_putI 5 5 4 dX5_startAnew_22 fl_RX5_22 (by decide) rfl (by decide) rfl rfl (fun h5 => ?_)
  exact j_vret h5 dX5_startAnew_25 rfl (fun q => q)
