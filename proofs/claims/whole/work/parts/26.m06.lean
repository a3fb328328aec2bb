def fX9_no (v0 : Nat) (h : Hp) : Option (Int32 × Hp) :=
  (xgR h v0 (9, 18) 3).bind fun x1 => (xaI h x1 10 1).bind fun x2 => (xsI h x1 1 (x2 + 1)).bind fun h3 => some ((-3), h3)
abbrev iX9_no : xI := (cX9_no, yX9_no.cls, yX9_no.name, some .int, 1, 2)
set_option maxHeartbeats 4000000 in
set_option maxRecDepth 100000 in
theorem kX9_no (l : Launch) (η : xEnv) (v0 : Nat) (h : Hp) (x : Int32 × Hp) (hx : fX9_no v0 h = some x) : xC l η yX9_no cX9_no 1 (some .int) 2 [.ref v0] h (some (.int x.1)) x.2 := by
  refine xC_of (by decide) (Nat.le_of_ble_eq_true rfl) hx (fun κ x => κ.2.2.2.1 = some (.int x.1) ∧ κ.2.2.2.2 = x.2) ⟨rfl, rfl⟩ (fun κ => ?_)
  show xJ iX9_no κ _ 0 [(0, .ref v0)] [] h (fX9_no v0 h)
  unfold fX9_no
  refine j_aload_n 0 dX9_no_0 rfl rfl ?_
  refine j_getR 9 18 3 dX9_no_1 fl_RX9_20 (by decide) rfl (by decide) (fun _ _ _ => rfl) (fun x1 => ?_)
  refine j_iconst (x := 1) dX9_no_4 (by decide) ?_
  refine j_dup2 dX9_no_5 rfl rfl ?_
  refine j_iald dX9_no_6 (fun x2 => ?_)
  refine j_iconst (x := 1) dX9_no_7 (by decide) ?_
  refine j_iadd dX9_no_8 ?_
  refine j_iast dX9_no_9 (fun h3 => ?_)
  refine j_bipush (x := (-3)) dX9_no_10 (by decide) ?_
  exact j_iret ((-3), h3) dX9_no_12 rfl (fun q => q)
def fX9_keep_b53 (v0 : Nat) (s53 : Int32 × Hp) : Option ((Int32 × Hp) ⊕ ((Nat × Hp))) :=
  if (5 : Int32) ≤ s53.1 then (some (Sum.inr (v0, s53.2))) else ((xgR s53.2 v0 (9, 18) 0).bind fun x5 => (xgR s53.2 v0 (9, 18) 0).bind fun x6 => (xaI s53.2 x6 10 2).bind fun x7 => (xgR s53.2 v0 (9, 18) 0).bind fun x8 => (xaI s53.2 x8 10 (3 + s53.1)).bind fun x9 => (xsI s53.2 x5 ((78 + (5 * x7)) + s53.1) x9).bind fun h10 => some (Sum.inl (s53.1 + 1, h10)))
def fX9_keep_j51 (v0 : Nat) (h : Hp) : Option (Hp) :=
  (xloop (fX9_keep_b53 v0) 1000000 (0, h)).bind (fun r53 => (xgR r53.2 r53.1 (9, 18) 0).bind fun x11 => (xaI r53.2 x11 10 2).bind fun x12 => (xsI r53.2 x11 2 (x12 + 1)).bind fun h13 => some h13)
def fX9_keep_b13 (v0 : Nat) (s13 : Int32 × Hp) : Option ((Int32 × Hp) ⊕ ((Nat × Hp))) :=
  if (35 : Int32) ≤ s13.1 then (some (Sum.inr (v0, s13.2))) else ((xgR s13.2 v0 (9, 18) 0).bind fun x17 => (xgR s13.2 v0 (9, 18) 0).bind fun x18 => (xaI s13.2 x18 10 (83 + s13.1)).bind fun x19 => (xsI s13.2 x17 (78 + s13.1) x19).bind fun h20 => some (Sum.inl (s13.1 + 1, h20)))
def fX9_keep (v0 : Nat) (h : Hp) : Option (Hp) :=
  (xgR h v0 (9, 18) 0).bind fun x11 => (xaI h x11 10 2).bind fun x12 => if (x12 : Int32) = 8 then ((xloop (fX9_keep_b13 v0) 1000000 (0, h)).bind (fun r13 => (xgR r13.2 r13.1 (9, 18) 0).bind fun x21 => (xsI r13.2 x21 2 7).bind fun h22 => fX9_keep_j51 r13.1 h22)) else (fX9_keep_j51 v0 h)
abbrev iX9_keep : xI := (cX9_keep, yX9_keep.cls, yX9_keep.name, none, 2, 2)
set_option maxHeartbeats 4000000 in
set_option maxRecDepth 100000 in
theorem kX9_keep (l : Launch) (η : xEnv) (v0 : Nat) (h : Hp) (x : Hp) (hx : fX9_keep v0 h = some x) : xC l η yX9_keep cX9_keep 2 none 2 [.ref v0] h none x := by
  refine xC_of (by decide) (Nat.le_of_ble_eq_true rfl) hx (fun κ x => κ.2.2.2.1 = none ∧ κ.2.2.2.2 = x) ⟨rfl, rfl⟩ (fun κ => ?_)
  show xJ iX9_keep κ _ 0 [(0, .ref v0)] [] h (fX9_keep v0 h)
  unfold fX9_keep
  refine j_have (pj := 51) (Lf := fun v : Hp => [(0, .ref v0)]) (Sf := fun v : Hp => []) (Hf := fun v : Hp => v) (jf := fun v : Hp => fX9_keep_j51 v0 v) (fun v => ?_) (fun hj51 => ?_)
  · generalize v = h
    show xJ iX9_keep κ _ 51 [(0, .ref v0)] [] h (fX9_keep_j51 v0 h)
    unfold fX9_keep_j51
    refine j_iconst (x := 0) dX9_keep_51 (by decide) ?_
    refine j_istore_n (L' := [(1, .int 0), (0, .ref v0)]) dX9_keep_52 rfl (Nat.le_of_ble_eq_true rfl) rfl ?_
    refine j_pick [1, 0] rfl ?_
    refine j_loop (pc := 53) (Lf := fun s53 : Int32 × Hp => [(0, .ref v0), (1, .int s53.1)]) (Hf := fun s53 : Int32 × Hp => s53.2) (fun s53 => ?_) 1000000 (0, h)
    show xJ iX9_keep κ _ 53 [(0, .ref v0), (1, .int s53.1)] [] s53.2 (fX9_keep_b53 v0 s53)
    unfold fX9_keep_b53
    refine j_iload_n 1 dX9_keep_53 rfl rfl ?_
    refine j_iconst (x := 5) dX9_keep_54 (by decide) ?_
    refine j_icmp_ge (tgt := 90) dX9_keep_55 (by decide) (fun c1 => ?_) (fun c1 => ?_)
    · refine j_exit (v0, s53.2) ?_
      show xJ iX9_keep κ _ _ _ _ _ ((xgR s53.2 v0 (9, 18) 0).bind fun x2 => (xaI s53.2 x2 10 2).bind fun x3 => (xsI s53.2 x2 2 (x3 + 1)).bind fun h4 => some h4)
      refine j_aload_n 0 dX9_keep_90 rfl rfl ?_
      refine j_getR 9 18 0 dX9_keep_91 fl_RX9_7 (by decide) rfl (by decide) (fun _ _ _ => rfl) (fun x2 => ?_)
      refine j_iconst (x := 2) dX9_keep_94 (by decide) ?_
      refine j_dup2 dX9_keep_95 rfl rfl ?_
      refine j_iald dX9_keep_96 (fun x3 => ?_)
      refine j_iconst (x := 1) dX9_keep_97 (by decide) ?_
      refine j_iadd dX9_keep_98 ?_
      refine j_iast dX9_keep_99 (fun h4 => ?_)
      exact j_vret h4 dX9_keep_100 rfl (fun q => q)
    · refine j_aload_n 0 dX9_keep_58 rfl rfl ?_
      refine j_getR 9 18 0 dX9_keep_59 fl_RX9_7 (by decide) rfl (by decide) (fun _ _ _ => rfl) (fun x5 => ?_)
      refine j_bipush (x := 78) dX9_keep_62 (by decide) ?_
      refine j_iconst (x := 5) dX9_keep_64 (by decide) ?_
      refine j_aload_n 0 dX9_keep_65 rfl rfl ?_
      refine j_getR 9 18 0 dX9_keep_66 fl_RX9_7 (by decide) rfl (by decide) (fun _ _ _ => rfl) (fun x6 => ?_)
      refine j_iconst (x := 2) dX9_keep_69 (by decide) ?_
      refine j_iald dX9_keep_70 (fun x7 => ?_)
      refine j_imul dX9_keep_71 ?_
      refine j_iadd dX9_keep_72 ?_
      refine j_iload_n 1 dX9_keep_73 rfl rfl ?_
      refine j_iadd dX9_keep_74 ?_
      refine j_aload_n 0 dX9_keep_75 rfl rfl ?_
      refine j_getR 9 18 0 dX9_keep_76 fl_RX9_7 (by decide) rfl (by decide) (fun _ _ _ => rfl) (fun x8 => ?_)
      refine j_iconst (x := 3) dX9_keep_79 (by decide) ?_
      refine j_iload_n 1 dX9_keep_80 rfl rfl ?_
      refine j_iadd dX9_keep_81 ?_
      refine j_iald dX9_keep_82 (fun x9 => ?_)
      refine j_iast dX9_keep_83 (fun h10 => ?_)
      refine j_iinc (y := s53.1 + 1) (L' := [(1, .int (s53.1 + 1)), (0, .ref v0)]) 1 dX9_keep_84 rfl rfl (Nat.le_of_ble_eq_true rfl) rfl ?_
      refine j_goto (tgt := 53) dX9_keep_87 (by decide) ?_
      refine j_pick [1, 0] rfl ?_
      exact j_again (s53.1 + 1, h10) rfl rfl
  refine j_aload_n 0 dX9_keep_0 rfl rfl ?_
  refine j_getR 9 18 0 dX9_keep_1 fl_RX9_7 (by decide) rfl (by decide) (fun _ _ _ => rfl) (fun x11 => ?_)
  refine j_iconst (x := 2) dX9_keep_4 (by decide) ?_
  refine j_iald dX9_keep_5 (fun x12 => ?_)
  refine j_bipush (x := 8) dX9_keep_6 (by decide) ?_
  refine j_icmp_ne (tgt := 51) dX9_keep_8 (by decide) (fun c13 => ?_) (fun c13 => ?_)
  · refine j_iconst (x := 0) dX9_keep_11 (by decide) ?_
    refine j_istore_n (L' := [(1, .int 0), (0, .ref v0)]) dX9_keep_12 rfl (Nat.le_of_ble_eq_true rfl) rfl ?_
    refine j_pick [1, 0] rfl ?_
    refine j_loop (pc := 13) (Lf := fun s13 : Int32 × Hp => [(0, .ref v0), (1, .int s13.1)]) (Hf := fun s13 : Int32 × Hp => s13.2) (fun s13 => ?_) 1000000 (0, h)
    show xJ iX9_keep κ _ 13 [(0, .ref v0), (1, .int s13.1)] [] s13.2 (fX9_keep_b13 v0 s13)
    unfold fX9_keep_b13
    refine j_iload_n 1 dX9_keep_13 rfl rfl ?_
    refine j_bipush (x := 35) dX9_keep_14 (by decide) ?_
    refine j_icmp_ge (tgt := 43) dX9_keep_16 (by decide) (fun c14 => ?_) (fun c14 => ?_)
    · refine j_exit (v0, s13.2) ?_
      show xJ iX9_keep κ _ _ _ _ _ ((xgR s13.2 v0 (9, 18) 0).bind fun x15 => (xsI s13.2 x15 2 7).bind fun h16 => fX9_keep_j51 v0 h16)
      refine j_aload_n 0 dX9_keep_43 rfl rfl ?_
      refine j_getR 9 18 0 dX9_keep_44 fl_RX9_7 (by decide) rfl (by decide) (fun _ _ _ => rfl) (fun x15 => ?_)
      refine j_iconst (x := 2) dX9_keep_47 (by decide) ?_
      refine j_bipush (x := 7) dX9_keep_48 (by decide) ?_
      refine j_iast dX9_keep_50 (fun h16 => ?_)
      refine j_pick [0] rfl ?_
      exact hj51 h16
    · refine j_aload_n 0 dX9_keep_19 rfl rfl ?_
      refine j_getR 9 18 0 dX9_keep_20 fl_RX9_7 (by decide) rfl (by decide) (fun _ _ _ => rfl) (fun x17 => ?_)
      refine j_bipush (x := 78) dX9_keep_23 (by decide) ?_
      refine j_iload_n 1 dX9_keep_25 rfl rfl ?_
      refine j_iadd dX9_keep_26 ?_
      refine j_aload_n 0 dX9_keep_27 rfl rfl ?_
      refine j_getR 9 18 0 dX9_keep_28 fl_RX9_7 (by decide) rfl (by decide) (fun _ _ _ => rfl) (fun x18 => ?_)
      refine j_bipush (x := 83) dX9_keep_31 (by decide) ?_
      refine j_iload_n 1 dX9_keep_33 rfl rfl ?_
      refine j_iadd dX9_keep_34 ?_
      refine j_iald dX9_keep_35 (fun x19 => ?_)
      refine j_iast dX9_keep_36 (fun h20 => ?_)
      refine j_iinc (y := s13.1 + 1) (L' := [(1, .int (s13.1 + 1)), (0, .ref v0)]) 1 dX9_keep_37 rfl rfl (Nat.le_of_ble_eq_true rfl) rfl ?_
      refine j_goto (tgt := 13) dX9_keep_40 (by decide) ?_
      refine j_pick [1, 0] rfl ?_
      exact j_again (s13.1 + 1, h20) rfl rfl
  · refine j_pick [0] rfl ?_
    exact hj51 h
def fX9_layHand_b2 (v0 : Nat) (s2 : Int32 × Hp) : Option ((Int32 × Hp) ⊕ ((Hp))) :=
  if (54 : Int32) ≤ s2.1 then (some (Sum.inr s2.2)) else ((xgR s2.2 v0 (9, 18) 6).bind fun x2 => (xgR s2.2 v0 (9, 18) 0).bind fun x3 => (xaI s2.2 x3 10 s2.1).bind fun x4 => (xsI s2.2 x2 s2.1 x4).bind fun h5 => some (Sum.inl (s2.1 + 1, h5)))
def fX9_layHand (v0 : Nat) (h : Hp) : Option (Hp) :=
  (xloop (fX9_layHand_b2 v0) 1000000 (0, h)).bind (fun r2 => some r2)
abbrev iX9_layHand : xI := (cX9_layHand, yX9_layHand.cls, yX9_layHand.name, none, 2, 2)
set_option maxHeartbeats 4000000 in
set_option maxRecDepth 100000 in
theorem kX9_layHand (l : Launch) (η : xEnv) (v0 : Nat) (h : Hp) (x : Hp) (hx : fX9_layHand v0 h = some x) : xC l η yX9_layHand cX9_layHand 2 none 2 [.ref v0] h none x := by
  refine xC_of (by decide) (Nat.le_of_ble_eq_true rfl) hx (fun κ x => κ.2.2.2.1 = none ∧ κ.2.2.2.2 = x) ⟨rfl, rfl⟩ (fun κ => ?_)
  show xJ iX9_layHand κ _ 0 [(0, .ref v0)] [] h (fX9_layHand v0 h)
  unfold fX9_layHand
  refine j_iconst (x := 0) dX9_layHand_0 (by decide) ?_
  refine j_istore_n (L' := [(1, .int 0), (0, .ref v0)]) dX9_layHand_1 rfl (Nat.le_of_ble_eq_true rfl) rfl ?_
  refine j_pick [1, 0] rfl ?_
  refine j_loop (pc := 2) (Lf := fun s2 : Int32 × Hp => [(0, .ref v0), (1, .int s2.1)]) (Hf := fun s2 : Int32 × Hp => s2.2) (fun s2 => ?_) 1000000 (0, h)
  show xJ iX9_layHand κ _ 2 [(0, .ref v0), (1, .int s2.1)] [] s2.2 (fX9_layHand_b2 v0 s2)
  unfold fX9_layHand_b2
  refine j_iload_n 1 dX9_layHand_2 rfl rfl ?_
  refine j_bipush (x := 54) dX9_layHand_3 (by decide) ?_
  refine j_icmp_ge (tgt := 26) dX9_layHand_5 (by decide) (fun c1 => ?_) (fun c1 => ?_)
  · refine j_exit s2.2 ?_
    show xJ iX9_layHand κ _ _ _ _ _ (some s2.2)
    exact j_vret s2.2 dX9_layHand_26 rfl (fun q => q)
  · refine j_aload_n 0 dX9_layHand_8 rfl rfl ?_
    refine j_getR 9 18 6 dX9_layHand_9 fl_RX9_27 (by decide) rfl (by decide) (fun _ _ _ => rfl) (fun x2 => ?_)
    refine j_iload_n 1 dX9_layHand_12 rfl rfl ?_
    refine j_aload_n 0 dX9_layHand_13 rfl rfl ?_
    refine j_getR 9 18 0 dX9_layHand_14 fl_RX9_7 (by decide) rfl (by decide) (fun _ _ _ => rfl) (fun x3 => ?_)
    refine j_iload_n 1 dX9_layHand_17 rfl rfl ?_
    refine j_iald dX9_layHand_18 (fun x4 => ?_)
    refine j_iast dX9_layHand_19 (fun h5 => ?_)
    refine j_iinc (y := s2.1 + 1) (L' := [(1, .int (s2.1 + 1)), (0, .ref v0)]) 1 dX9_layHand_20 rfl rfl (Nat.le_of_ble_eq_true rfl) rfl ?_
    refine j_goto (tgt := 2) dX9_layHand_23 (by decide) ?_
    refine j_pick [1, 0] rfl ?_
    exact j_again (s2.1 + 1, h5) rfl rfl
def fX9_bits_b4  (h : Hp) (s4 : Int32 × Int32) : Option ((Int32 × Int32) ⊕ ((Int32))) :=
  if (s4.2 : Int32) ≤ 0 then (some (Sum.inr s4.1)) else (some (Sum.inl (s4.1 + (s4.2 &&& 1), s4.2 >>> (1 &&& 31))))
def fX9_bits (v0 : Int32) (h : Hp) : Option (Int32) :=
  (xloop (fX9_bits_b4 h) 1000000 (0, v0)).bind (fun r4 => some r4)
abbrev iX9_bits : xI := (cX9_bits, yX9_bits.cls, yX9_bits.name, some .int, 3, 2)
set_option maxHeartbeats 4000000 in
set_option maxRecDepth 100000 in
theorem kX9_bits (l : Launch) (η : xEnv) (v0 : Int32) (h : Hp) (x : Int32) (hx : fX9_bits v0 h = some x) : xC l η yX9_bits cX9_bits 3 (some .int) 2 [.int v0] h (some (.int x)) h := by
  refine xC_of (by decide) (Nat.le_of_ble_eq_true rfl) hx (fun κ x => κ.2.2.2.1 = some (.int x) ∧ κ.2.2.2.2 = h) ⟨rfl, rfl⟩ (fun κ => ?_)
  show xJ iX9_bits κ _ 0 [(0, .int v0)] [] h (fX9_bits v0 h)
  unfold fX9_bits
  refine j_iconst (x := 0) dX9_bits_0 (by decide) ?_
  refine j_istore_n (L' := [(1, .int 0), (0, .int v0)]) dX9_bits_1 rfl (Nat.le_of_ble_eq_true rfl) rfl ?_
  refine j_iload_n 1 dX9_bits_2 rfl rfl ?_
  refine j_istore_n (L' := [(2, .int v0), (1, .int 0), (0, .int v0)]) dX9_bits_3 rfl (Nat.le_of_ble_eq_true rfl) rfl ?_
  refine j_pick [1, 0] rfl ?_
  refine j_loop (pc := 4) (Lf := fun s4 : Int32 × Int32 => [(1, .int s4.1), (2, .int s4.2)]) (Hf := fun s4 : Int32 × Int32 => h) (fun s4 => ?_) 1000000 (0, v0)
  show xJ iX9_bits κ _ 4 [(1, .int s4.1), (2, .int s4.2)] [] h (fX9_bits_b4 h s4)
  unfold fX9_bits_b4
  refine j_iload_n 1 dX9_bits_4 rfl rfl ?_
  refine j_if_le (tgt := 21) dX9_bits_5 (by decide) (fun c1 => ?_) (fun c1 => ?_)
  · refine j_exit s4.1 ?_
    show xJ iX9_bits κ _ _ _ _ _ (some s4.1)
    refine j_iload_n 0 dX9_bits_21 rfl rfl ?_
    exact j_iret s4.1 dX9_bits_22 rfl (fun q => q)
  · refine j_iload_n 0 dX9_bits_8 rfl rfl ?_
    refine j_iload_n 1 dX9_bits_9 rfl rfl ?_
    refine j_iconst (x := 1) dX9_bits_10 (by decide) ?_
    refine j_iand dX9_bits_11 ?_
    refine j_iadd dX9_bits_12 ?_
    refine j_istore_n (L' := [(1, .int (s4.1 + (s4.2 &&& 1))), (2, .int s4.2)]) dX9_bits_13 rfl (Nat.le_of_ble_eq_true rfl) rfl ?_
    refine j_iload_n 1 dX9_bits_14 rfl rfl ?_
    refine j_iconst (x := 1) dX9_bits_15 (by decide) ?_
    refine j_ishr dX9_bits_16 ?_
    refine j_istore_n (L' := [(2, .int (s4.2 >>> (1 &&& 31))), (1, .int (s4.1 + (s4.2 &&& 1)))]) dX9_bits_17 rfl (Nat.le_of_ble_eq_true rfl) rfl ?_
    refine j_goto (tgt := 4) dX9_bits_18 (by decide) ?_
    refine j_pick [1, 0] rfl ?_
    exact j_again (s4.1 + (s4.2 &&& 1), s4.2 >>> (1 &&& 31)) rfl rfl
def fX9_has_j14 (t0 : Int32) (h : Hp) : Option (Int32) :=
  if vp_nar .boolean t0 = t0 then some t0 else none
def fX9_has (v0 : Int32) (v1 : Int32) (h : Hp) : Option (Int32) :=
  if ((v0 >>> (v1 &&& 31)) &&& 1 : Int32) = 1 then (fX9_has_j14 1 h) else (fX9_has_j14 0 h)
abbrev iX9_has : xI := (cX9_has, yX9_has.cls, yX9_has.name, some .boolean, 2, 2)
set_option maxHeartbeats 4000000 in
set_option maxRecDepth 100000 in
theorem kX9_has (l : Launch) (η : xEnv) (v0 : Int32) (v1 : Int32) (h : Hp) (x : Int32) (hx : fX9_has v0 v1 h = some x) : xC l η yX9_has cX9_has 2 (some .boolean) 2 [.int v0, .int v1] h (some (.int x)) h := by
  refine xC_of (by decide) (Nat.le_of_ble_eq_true rfl) hx (fun κ x => κ.2.2.2.1 = some (.int x) ∧ κ.2.2.2.2 = h) ⟨rfl, rfl⟩ (fun κ => ?_)
  show xJ iX9_has κ _ 0 [(0, .int v0), (1, .int v1)] [] h (fX9_has v0 v1 h)
  unfold fX9_has
  refine j_have (pj := 14) (Lf := fun v : Int32 => []) (Sf := fun v : Int32 => [.int v]) (Hf := fun v : Int32 => h) (jf := fun v : Int32 => fX9_has_j14 v h) (fun v => ?_) (fun hj14 => ?_)
  · generalize v = t0
    show xJ iX9_has κ _ 14 [] [.int t0] h (fX9_has_j14 t0 h)
    unfold fX9_has_j14
    exact j_zretc t0 dX9_has_14 rfl (fun q => q)
  refine j_iload_n 0 dX9_has_0 rfl rfl ?_
  refine j_iload_n 1 dX9_has_1 rfl rfl ?_
  refine j_ishr dX9_has_2 ?_
  refine j_iconst (x := 1) dX9_has_3 (by decide) ?_
  refine j_iand dX9_has_4 ?_
  refine j_iconst (x := 1) dX9_has_5 (by decide) ?_
  refine j_icmp_ne (tgt := 13) dX9_has_6 (by decide) (fun c1 => ?_) (fun c1 => ?_)
  · refine j_iconst (x := 1) dX9_has_9 (by decide) ?_
    refine j_goto (tgt := 14) dX9_has_10 (by decide) ?_
    refine j_pick [] rfl ?_
    exact hj14 1
  · refine j_iconst (x := 0) dX9_has_13 (by decide) ?_
    refine j_pick [] rfl ?_
    exact hj14 0
def fX9_tallAs_j48  (h : Hp) : Option (Int32) :=
  some 3
def fX9_tallAs (v0 : Int32) (v1 : Int32) (h : Hp) : Option (Int32) :=
  if (v0 : Int32) = 1 then (some 2) else if (v0 : Int32) = 2 then (fX9_tallAs_j48 h) else if (v0 : Int32) = 3 then (some 5) else if (v0 : Int32) = 4 then (if (3 : Int32) = 0 then none else some (2 + (v1 / 3))) else if (v0 : Int32) = 5 then (some 4) else (fX9_tallAs_j48 h)
abbrev iX9_tallAs : xI := (cX9_tallAs, yX9_tallAs.cls, yX9_tallAs.name, some .int, 2, 2)
set_option maxHeartbeats 4000000 in
set_option maxRecDepth 100000 in
theorem kX9_tallAs (l : Launch) (η : xEnv) (v0 : Int32) (v1 : Int32) (h : Hp) (x : Int32) (hx : fX9_tallAs v0 v1 h = some x) : xC l η yX9_tallAs cX9_tallAs 2 (some .int) 2 [.int v0, .int v1] h (some (.int x)) h := by
  refine xC_of (by decide) (Nat.le_of_ble_eq_true rfl) hx (fun κ x => κ.2.2.2.1 = some (.int x) ∧ κ.2.2.2.2 = h) ⟨rfl, rfl⟩ (fun κ => ?_)
  show xJ iX9_tallAs κ _ 0 [(0, .int v0), (1, .int v1)] [] h (fX9_tallAs v0 v1 h)
  unfold fX9_tallAs
  refine j_have (pj := 48) (Lf := fun v : Unit => []) (Sf := fun v : Unit => []) (Hf := fun v : Unit => h) (jf := fun v : Unit => fX9_tallAs_j48 h) (fun v => ?_) (fun hj48 => ?_)
  · skip
    show xJ iX9_tallAs κ _ 48 [] [] h (fX9_tallAs_j48 h)
    unfold fX9_tallAs_j48
    refine j_iconst (x := 3) dX9_tallAs_48 (by decide) ?_
    exact j_iret 3 dX9_tallAs_49 rfl (fun q => q)
  refine j_iload_n 0 dX9_tallAs_0 rfl rfl ?_
  refine j_tabv (w := 1) (off := 35) (tgt := 36) dX9_tallAs_1 (by decide) (by decide) (by decide) (by decide) (fun c1 => ?_) (fun c1 => ?_)
  · refine j_iconst (x := 2) dX9_tallAs_36 (by decide) ?_
    exact j_iret 2 dX9_tallAs_37 rfl (fun q => q)
  refine j_tabv (w := 2) (off := 47) (tgt := 48) dX9_tallAs_1 (by decide) (by decide) (by decide) (by decide) (fun c2 => ?_) (fun c2 => ?_)
  · refine j_pick [] rfl ?_
    exact hj48 ()
  refine j_tabv (w := 3) (off := 37) (tgt := 38) dX9_tallAs_1 (by decide) (by decide) (by decide) (by decide) (fun c3 => ?_) (fun c3 => ?_)
  · refine j_iconst (x := 5) dX9_tallAs_38 (by decide) ?_
    exact j_iret 5 dX9_tallAs_39 rfl (fun q => q)
  refine j_tabv (w := 4) (off := 39) (tgt := 40) dX9_tallAs_1 (by decide) (by decide) (by decide) (by decide) (fun c4 => ?_) (fun c4 => ?_)
  · refine j_iconst (x := 2) dX9_tallAs_40 (by decide) ?_
    refine j_iload_n 1 dX9_tallAs_41 rfl rfl ?_
    refine j_iconst (x := 3) dX9_tallAs_42 (by decide) ?_
    refine j_idiv dX9_tallAs_43 (fun c5 => ?_)
    refine j_iadd dX9_tallAs_44 ?_
    exact j_iret (2 + (v1 / 3)) dX9_tallAs_45 rfl (fun q => q)
  refine j_tabv (w := 5) (off := 45) (tgt := 46) dX9_tallAs_1 (by decide) (by decide) (by decide) (by decide) (fun c6 => ?_) (fun c6 => ?_)
  · refine j_iconst (x := 4) dX9_tallAs_46 (by decide) ?_
    exact j_iret 4 dX9_tallAs_47 rfl (fun q => q)
  refine j_tabd (tgt := 48) dX9_tallAs_1 (by have ec1 : (v0 : Int32).toInt ≠ 1 := fun q => c1 (Int32.toInt_inj.mp (q.trans (by decide))); have ec2 : (v0 : Int32).toInt ≠ 2 := fun q => c2 (Int32.toInt_inj.mp (q.trans (by decide))); have ec3 : (v0 : Int32).toInt ≠ 3 := fun q => c3 (Int32.toInt_inj.mp (q.trans (by decide))); have ec4 : (v0 : Int32).toInt ≠ 4 := fun q => c4 (Int32.toInt_inj.mp (q.trans (by decide))); have ec6 : (v0 : Int32).toInt ≠ 5 := fun q => c6 (Int32.toInt_inj.mp (q.trans (by decide))); omega) (by decide) ?_
  refine j_pick [] rfl ?_
  exact hj48 ()
def fX9_swayAs_j63 (v1 : Int32) (h : Hp) : Option (Int32) :=
  some v1
def fX9_swayAs_j56 (t0 : Int32) (h : Hp) : Option (Int32) :=
  some t0
def fX9_swayAs (v0 : Int32) (v1 : Int32) (v2 : Int32) (h : Hp) : Option (Int32) :=
  if (2 : Int32) = 0 then none else if (v0 : Int32) = 1 then (some ((v1 + 1) / 2)) else if (v0 : Int32) = 2 then (if (2 : Int32) = 0 then none else if (v2 - v2 / 2 * 2 : Int32) = 1 then (fX9_swayAs_j56 (2 * v1) h) else (fX9_swayAs_j56 v1 h)) else if (v0 : Int32) = 3 then (fX9_swayAs_j63 v1 h) else if (v0 : Int32) = 4 then (some (((v1 + 1) / 2) + 1)) else if (v0 : Int32) = 5 then (some 0) else (fX9_swayAs_j63 v1 h)
abbrev iX9_swayAs : xI := (cX9_swayAs, yX9_swayAs.cls, yX9_swayAs.name, some .int, 4, 2)
set_option maxHeartbeats 4000000 in
set_option maxRecDepth 100000 in
theorem kX9_swayAs (l : Launch) (η : xEnv) (v0 : Int32) (v1 : Int32) (v2 : Int32) (h : Hp) (x : Int32) (hx : fX9_swayAs v0 v1 v2 h = some x) : xC l η yX9_swayAs cX9_swayAs 4 (some .int) 2 [.int v0, .int v1, .int v2] h (some (.int x)) h := by
  refine xC_of (by decide) (Nat.le_of_ble_eq_true rfl) hx (fun κ x => κ.2.2.2.1 = some (.int x) ∧ κ.2.2.2.2 = h) ⟨rfl, rfl⟩ (fun κ => ?_)
  show xJ iX9_swayAs κ _ 0 [(0, .int v0), (1, .int v1), (2, .int v2)] [] h (fX9_swayAs v0 v1 v2 h)
  unfold fX9_swayAs
  refine j_have (pj := 63) (Lf := fun v : Unit => [(1, .int v1)]) (Sf := fun v : Unit => []) (Hf := fun v : Unit => h) (jf := fun v : Unit => fX9_swayAs_j63 v1 h) (fun v => ?_) (fun hj63 => ?_)
  · skip
    show xJ iX9_swayAs κ _ 63 [(1, .int v1)] [] h (fX9_swayAs_j63 v1 h)
    unfold fX9_swayAs_j63
    refine j_iload_n 0 dX9_swayAs_63 rfl rfl ?_
    exact j_iret v1 dX9_swayAs_64 rfl (fun q => q)
  refine j_have (pj := 56) (Lf := fun v : Int32 => []) (Sf := fun v : Int32 => [.int v]) (Hf := fun v : Int32 => h) (jf := fun v : Int32 => fX9_swayAs_j56 v h) (fun v => ?_) (fun hj56 => ?_)
  · generalize v = t0
    show xJ iX9_swayAs κ _ 56 [] [.int t0] h (fX9_swayAs_j56 t0 h)
    unfold fX9_swayAs_j56
    exact j_iret t0 dX9_swayAs_56 rfl (fun q => q)
  refine j_iload_n 1 dX9_swayAs_0 rfl rfl ?_
  refine j_iconst (x := 1) dX9_swayAs_1 (by decide) ?_
  refine j_iadd dX9_swayAs_2 ?_
  refine j_iconst (x := 2) dX9_swayAs_3 (by decide) ?_
  refine j_idiv dX9_swayAs_4 (fun c1 => ?_)
  refine j_istore_n (L' := [(3, .int ((v1 + 1) / 2)), (0, .int v0), (1, .int v1), (2, .int v2)]) dX9_swayAs_5 rfl (Nat.le_of_ble_eq_true rfl) rfl ?_
  refine j_iload_n 1 dX9_swayAs_6 rfl rfl ?_
  refine j_tabv (w := 1) (off := 33) (tgt := 40) dX9_swayAs_7 (by decide) (by decide) (by decide) (by decide) (fun c2 => ?_) (fun c2 => ?_)
  · refine j_iload_n 0 dX9_swayAs_40 rfl rfl ?_
    exact j_iret ((v1 + 1) / 2) dX9_swayAs_41 rfl (fun q => q)
  refine j_tabv (w := 2) (off := 35) (tgt := 42) dX9_swayAs_7 (by decide) (by decide) (by decide) (by decide) (fun c3 => ?_) (fun c3 => ?_)
  · refine j_iload_n 3 dX9_swayAs_42 rfl rfl ?_
    refine j_iconst (x := 2) dX9_swayAs_43 (by decide) ?_
    refine j_irem dX9_swayAs_44 (fun c4 => ?_)
    refine j_iconst (x := 1) dX9_swayAs_45 (by decide) ?_
    refine j_icmp_ne (tgt := 55) dX9_swayAs_46 (by decide) (fun c5 => ?_) (fun c5 => ?_)
    · refine j_iconst (x := 2) dX9_swayAs_49 (by decide) ?_
      refine j_iload_n 2 dX9_swayAs_50 rfl rfl ?_
      refine j_imul dX9_swayAs_51 ?_
      refine j_goto (tgt := 56) dX9_swayAs_52 (by decide) ?_
      refine j_pick [] rfl ?_
      exact hj56 (2 * v1)
    · refine j_iload_n 2 dX9_swayAs_55 rfl rfl ?_
      refine j_pick [] rfl ?_
      exact hj56 v1
  refine j_tabv (w := 3) (off := 56) (tgt := 63) dX9_swayAs_7 (by decide) (by decide) (by decide) (by decide) (fun c6 => ?_) (fun c6 => ?_)
  · refine j_pick [2] rfl ?_
    exact hj63 ()
  refine j_tabv (w := 4) (off := 50) (tgt := 57) dX9_swayAs_7 (by decide) (by decide) (by decide) (by decide) (fun c7 => ?_) (fun c7 => ?_)
  · refine j_iload_n 0 dX9_swayAs_57 rfl rfl ?_
    refine j_iconst (x := 1) dX9_swayAs_58 (by decide) ?_
    refine j_iadd dX9_swayAs_59 ?_
    exact j_iret (((v1 + 1) / 2) + 1) dX9_swayAs_60 rfl (fun q => q)
  refine j_tabv (w := 5) (off := 54) (tgt := 61) dX9_swayAs_7 (by decide) (by decide) (by decide) (by decide) (fun c8 => ?_) (fun c8 => ?_)
  · refine j_iconst (x := 0) dX9_swayAs_61 (by decide) ?_
    exact j_iret 0 dX9_swayAs_62 rfl (fun q => q)
  refine j_tabd (tgt := 63) dX9_swayAs_7 (by have ec2 : (v0 : Int32).toInt ≠ 1 := fun q => c2 (Int32.toInt_inj.mp (q.trans (by decide))); have ec3 : (v0 : Int32).toInt ≠ 2 := fun q => c3 (Int32.toInt_inj.mp (q.trans (by decide))); have ec6 : (v0 : Int32).toInt ≠ 3 := fun q => c6 (Int32.toInt_inj.mp (q.trans (by decide))); have ec7 : (v0 : Int32).toInt ≠ 4 := fun q => c7 (Int32.toInt_inj.mp (q.trans (by decide))); have ec8 : (v0 : Int32).toInt ≠ 5 := fun q => c8 (Int32.toInt_inj.mp (q.trans (by decide))); omega) (by decide) ?_
  refine j_pick [2] rfl ?_
  exact hj63 ()
def fX9_swayOf (v0 : Nat) (v1 : Int32) (v2 : Int32) (h : Hp) : Option (Int32) :=
  (xgR h v0 (9, 18) 6).bind fun x1 => (xaI h x1 10 (19 + v1)).bind fun x2 => (xgR h v0 (9, 18) 6).bind fun x3 => (xaI h x3 10 (26 + v1)).bind fun x4 => (fX9_swayAs x2 x4 v2 h).bind fun x5 => some x5
abbrev iX9_swayOf : xI := (cX9_swayOf, yX9_swayOf.cls, yX9_swayOf.name, some .int, 3, 3)
set_option maxHeartbeats 4000000 in
set_option maxRecDepth 100000 in
theorem kX9_swayOf (l : Launch) (η : xEnv) (v0 : Nat) (v1 : Int32) (v2 : Int32) (h : Hp) (x : Int32) (hx : fX9_swayOf v0 v1 v2 h = some x) : xC l η yX9_swayOf cX9_swayOf 3 (some .int) 3 [.ref v0, .int v1, .int v2] h (some (.int x)) h := by
  refine xC_of (by decide) (Nat.le_of_ble_eq_true rfl) hx (fun κ x => κ.2.2.2.1 = some (.int x) ∧ κ.2.2.2.2 = h) ⟨rfl, rfl⟩ (fun κ => ?_)
  show xJ iX9_swayOf κ _ 0 [(0, .ref v0), (1, .int v1), (2, .int v2)] [] h (fX9_swayOf v0 v1 v2 h)
  unfold fX9_swayOf
  refine j_aload_n 0 dX9_swayOf_0 rfl rfl ?_
  refine j_getR 9 18 6 dX9_swayOf_1 fl_RX9_27 (by decide) rfl (by decide) (fun _ _ _ => rfl) (fun x1 => ?_)
  refine j_bipush (x := 19) dX9_swayOf_4 (by decide) ?_
  refine j_iload_n 1 dX9_swayOf_6 rfl rfl ?_
  refine j_iadd dX9_swayOf_7 ?_
  refine j_iald dX9_swayOf_8 (fun x2 => ?_)
  refine j_aload_n 0 dX9_swayOf_9 rfl rfl ?_
  refine j_getR 9 18 6 dX9_swayOf_10 fl_RX9_27 (by decide) rfl (by decide) (fun _ _ _ => rfl) (fun x3 => ?_)
  refine j_bipush (x := 26) dX9_swayOf_13 (by decide) ?_
  refine j_iload_n 1 dX9_swayOf_15 rfl rfl ?_
  refine j_iadd dX9_swayOf_16 ?_
  refine j_iald dX9_swayOf_17 (fun x4 => ?_)
  refine j_iload_n 2 dX9_swayOf_18 rfl rfl ?_
  refine j_callS (as := [.int x2, .int x4, .int v2]) (fun x => some (.int x)) (fun _ => h) dX9_swayOf_19 ml_RX9_93 tg_X9_swayAs st_X9_swayAs (fun x hx => kX9_swayAs κ.1 κ.2.1 x2 x4 v2 h x hx) (by decide) (by decide) rfl rfl (Nat.le_of_ble_eq_true rfl) (fun x5 => ?_)
  show xJ iX9_swayOf κ _ 22 [(0, .ref v0), (1, .int v1), (2, .int v2)] [.int x5] h _
  exact j_iret x5 dX9_swayOf_22 rfl (fun q => q)
def fX9_swayOfAll_j35 (v0 : Nat) (v1 : Int32) (v2 : Int32) (v4 : Int32) (t0 : Int32) (t1 : Int32) (h : Hp) : Option ((Int32 × Int32) ⊕ ((Int32))) :=
  some (Sum.inl (t1 + t0, v4 + 1))
def fX9_swayOfAll_b5 (v0 : Nat) (v1 : Int32) (v2 : Int32) (h : Hp) (s5 : Int32 × Int32) : Option ((Int32 × Int32) ⊕ ((Int32))) :=
  (xat h v0 (9, 18) (fX9_many v0 h)).bind fun x1 => if (x1 : Int32) ≤ s5.2 then (some (Sum.inr s5.1)) else ((fX9_has v1 s5.2 h).bind fun x3 => if (x3 : Int32) = 0 then (fX9_swayOfAll_j35 v0 v1 v2 s5.2 0 s5.1 h) else ((xat h v0 (9, 18) (fX9_swayOf v0 s5.2 v2 h)).bind fun x5 => fX9_swayOfAll_j35 v0 v1 v2 s5.2 x5 s5.1 h))
def fX9_swayOfAll (v0 : Nat) (v1 : Int32) (v2 : Int32) (h : Hp) : Option (Int32) :=
  (xloop (fX9_swayOfAll_b5 v0 v1 v2 h) 1000000 (0, 0)).bind (fun r5 => some r5)
abbrev iX9_swayOfAll : xI := (cX9_swayOfAll, yX9_swayOfAll.cls, yX9_swayOfAll.name, some .int, 5, 4)
set_option maxHeartbeats 4000000 in
set_option maxRecDepth 100000 in
theorem kX9_swayOfAll (l : Launch) (η : xEnv) (v0 : Nat) (v1 : Int32) (v2 : Int32) (h : Hp) (x : Int32) (hx : fX9_swayOfAll v0 v1 v2 h = some x) : xC l η yX9_swayOfAll cX9_swayOfAll 5 (some .int) 4 [.ref v0, .int v1, .int v2] h (some (.int x)) h := by
  refine xC_of (by decide) (Nat.le_of_ble_eq_true rfl) hx (fun κ x => κ.2.2.2.1 = some (.int x) ∧ κ.2.2.2.2 = h) ⟨rfl, rfl⟩ (fun κ => ?_)
  show xJ iX9_swayOfAll κ _ 0 [(0, .ref v0), (1, .int v1), (2, .int v2)] [] h (fX9_swayOfAll v0 v1 v2 h)
  unfold fX9_swayOfAll
  refine j_iconst (x := 0) dX9_swayOfAll_0 (by decide) ?_
  refine j_istore_n (L' := [(3, .int 0), (0, .ref v0), (1, .int v1), (2, .int v2)]) dX9_swayOfAll_1 rfl (Nat.le_of_ble_eq_true rfl) rfl ?_
  refine j_iconst (x := 0) dX9_swayOfAll_2 (by decide) ?_
  refine j_istore (L' := [(4, .int 0), (3, .int 0), (0, .ref v0), (1, .int v1), (2, .int v2)]) dX9_swayOfAll_3 (Nat.le_of_ble_eq_true rfl) rfl ?_
  refine j_pick [2, 3, 4, 1, 0] rfl ?_
  refine j_loop (pc := 5) (Lf := fun s5 : Int32 × Int32 => [(0, .ref v0), (1, .int v1), (2, .int v2), (3, .int s5.1), (4, .int s5.2)]) (Hf := fun s5 : Int32 × Int32 => h) (fun s5 => ?_) 1000000 (0, 0)
  show xJ iX9_swayOfAll κ _ 5 [(0, .ref v0), (1, .int v1), (2, .int v2), (3, .int s5.1), (4, .int s5.2)] [] h (fX9_swayOfAll_b5 v0 v1 v2 h s5)
  unfold fX9_swayOfAll_b5
  refine j_have (pj := 35) (Lf := fun v : Int32 × Int32 × Int32 => [(0, .ref v0), (1, .int v1), (2, .int v2), (4, .int v.1)]) (Sf := fun v : Int32 × Int32 × Int32 => [.int v.2.1, .int v.2.2]) (Hf := fun v : Int32 × Int32 × Int32 => h) (jf := fun v : Int32 × Int32 × Int32 => fX9_swayOfAll_j35 v0 v1 v2 v.1 v.2.1 v.2.2 h) (fun v => ?_) (fun hj35 => ?_)
  · obtain ⟨v4, t0, t1⟩ := v
    show xJ iX9_swayOfAll κ _ 35 [(0, .ref v0), (1, .int v1), (2, .int v2), (4, .int v4)] [.int t0, .int t1] h (fX9_swayOfAll_j35 v0 v1 v2 v4 t0 t1 h)
    unfold fX9_swayOfAll_j35
    refine j_iadd dX9_swayOfAll_35 ?_
    refine j_istore_n (L' := [(3, .int (t1 + t0)), (0, .ref v0), (1, .int v1), (2, .int v2), (4, .int v4)]) dX9_swayOfAll_36 rfl (Nat.le_of_ble_eq_true rfl) rfl ?_
    refine j_iinc (y := v4 + 1) (L' := [(4, .int (v4 + 1)), (3, .int (t1 + t0)), (0, .ref v0), (1, .int v1), (2, .int v2)]) 4 dX9_swayOfAll_37 rfl rfl (Nat.le_of_ble_eq_true rfl) rfl ?_
    refine j_goto (tgt := 5) dX9_swayOfAll_40 (by decide) ?_
    refine j_pick [2, 3, 4, 1, 0] rfl ?_
    exact j_again (t1 + t0, v4 + 1) rfl rfl
  refine j_iload 4 dX9_swayOfAll_5 rfl ?_
  refine j_aload_n 0 dX9_swayOfAll_7 rfl rfl ?_
  refine j_callV (as := []) (fun x => some (.int x)) (fun _ => h) 9 18 dX9_swayOfAll_8 ml_RX9_52 tg_X9_many im_X9_many se_X9_many rfl (by decide) (fun x hx => kX9_many κ.1 κ.2.1 v0 h x hx) (by decide) (by decide) rfl rfl (Nat.le_of_ble_eq_true rfl) (fun x1 => ?_)
  show xJ iX9_swayOfAll κ _ 11 [(0, .ref v0), (1, .int v1), (2, .int v2), (3, .int s5.1), (4, .int s5.2)] [.int x1, .int s5.2] h _
  refine j_icmp_ge (tgt := 43) dX9_swayOfAll_11 (by decide) (fun c2 => ?_) (fun c2 => ?_)
  · refine j_exit s5.1 ?_
    show xJ iX9_swayOfAll κ _ _ _ _ _ (some s5.1)
    refine j_iload_n 3 dX9_swayOfAll_43 rfl rfl ?_
    exact j_iret s5.1 dX9_swayOfAll_44 rfl (fun q => q)
  · refine j_iload_n 3 dX9_swayOfAll_14 rfl rfl ?_
    refine j_iload_n 1 dX9_swayOfAll_15 rfl rfl ?_
    refine j_iload 4 dX9_swayOfAll_16 rfl ?_
    refine j_callS (as := [.int v1, .int s5.2]) (fun x => some (.int x)) (fun _ => h) dX9_swayOfAll_18 ml_RX9_97 tg_X9_has st_X9_has (fun x hx => kX9_has κ.1 κ.2.1 v1 s5.2 h x hx) (by decide) (by decide) rfl rfl (Nat.le_of_ble_eq_true rfl) (fun x3 => ?_)
    show xJ iX9_swayOfAll κ _ 21 [(0, .ref v0), (1, .int v1), (2, .int v2), (3, .int s5.1), (4, .int s5.2)] [.int x3, .int s5.1] h _
    refine j_if_eq (tgt := 34) dX9_swayOfAll_21 (by decide) (fun c4 => ?_) (fun c4 => ?_)
    · refine j_iconst (x := 0) dX9_swayOfAll_34 (by decide) ?_
      refine j_pick [0, 1, 2, 4] rfl ?_
      exact hj35 (s5.2, 0, s5.1)
    · refine j_aload_n 0 dX9_swayOfAll_24 rfl rfl ?_
      refine j_iload 4 dX9_swayOfAll_25 rfl ?_
      refine j_iload_n 2 dX9_swayOfAll_27 rfl rfl ?_
      refine j_callV (as := [.int s5.2, .int v2]) (fun x => some (.int x)) (fun _ => h) 9 18 dX9_swayOfAll_28 ml_RX9_101 tg_X9_swayOf im_X9_swayOf se_X9_swayOf rfl (by decide) (fun x hx => kX9_swayOf κ.1 κ.2.1 v0 s5.2 v2 h x hx) (by decide) (by decide) rfl rfl (Nat.le_of_ble_eq_true rfl) (fun x5 => ?_)
      show xJ iX9_swayOfAll κ _ 31 [(0, .ref v0), (1, .int v1), (2, .int v2), (3, .int s5.1), (4, .int s5.2)] [.int x5, .int s5.1] h _
      refine j_goto (tgt := 35) dX9_swayOfAll_31 (by decide) ?_
      refine j_pick [0, 1, 2, 4] rfl ?_
      exact hj35 (s5.2, x5, s5.1)
def fX9_goStop_j282 (v0 : Nat) (v1 : Int32) (h : Hp) : Option (Hp) :=
  (xgR h v0 (9, 18) 6).bind fun x1 => (xaI h x1 10 7).bind fun x2 => (xgR h v0 (9, 18) 6).bind fun x3 => (xaI h x3 10 4).bind fun x4 => (xat h v0 (9, 18) (fX9_swayOfAll v0 x4 v1 h)).bind fun x5 => (xsI h x1 7 (x2 + x5)).bind fun h6 => (xgR h6 v0 (9, 18) 6).bind fun x7 => (xaI h6 x7 10 3).bind fun x8 => (xsI h6 x7 3 (x8 + 1)).bind fun h9 => some h9
def fX9_goStop_j46 (v0 : Nat) (v1 : Int32) (v2 : Int32) (t0 : Int32) (t1 : Int32) (t2 : Int32) (t3 : Nat) (h : Hp) : Option ((Int32 × Hp) ⊕ ((Nat × Int32 × Hp))) :=
  (xsI h t3 t2 (t1 &&& t0)).bind fun h12 => some (Sum.inl (v2 + 1, h12))
def fX9_goStop_j162 (v0 : Nat) (v1 : Int32) (v2 : Int32) (h : Hp) : Option ((Int32 × Hp) ⊕ ((Nat × Int32 × Hp))) :=
  some (Sum.inl (v2 + 1, h))
def fX9_goStop_j160 (v0 : Nat) (v1 : Int32) (v2 : Int32) (t0 : Int32) (t1 : Int32) (t2 : Int32) (t3 : Nat) (h : Hp) : Option ((Int32 × Hp) ⊕ ((Nat × Int32 × Hp))) :=
  (xsI h t3 t2 (t1 ||| t0)).bind fun h15 => fX9_goStop_j162 v0 v1 v2 h15
def fX9_goStop_j139 (v0 : Nat) (v1 : Int32) (v2 : Int32) (v3 : Int32) (t0 : Int32) (t1 : Int32) (t2 : Int32) (t3 : Nat) (h : Hp) : Option ((Int32 × Hp) ⊕ ((Nat × Int32 × Hp))) :=
  (xsI h t3 t2 (t1 ||| t0)).bind fun h16 => (xgR h16 v0 (9, 18) 6).bind fun x17 => (xaI h16 x17 10 6).bind fun x18 => if (v3 : Int32) = 0 then (fX9_goStop_j160 v0 v1 v2 (1 <<< (v2 &&& 31)) x18 6 x17 h16) else (fX9_goStop_j160 v0 v1 v2 0 x18 6 x17 h16)
def fX9_goStop_j120 (v0 : Nat) (v1 : Int32) (v2 : Int32) (t0 : Int32) (h : Hp) : Option ((Int32 × Hp) ⊕ ((Nat × Int32 × Hp))) :=
  (xgR h v0 (9, 18) 6).bind fun x20 => (xaI h x20 10 4).bind fun x21 => if (t0 : Int32) = 0 then (fX9_goStop_j139 v0 v1 v2 t0 0 x21 4 x20 h) else (fX9_goStop_j139 v0 v1 v2 t0 (1 <<< (v2 &&& 31)) x21 4 x20 h)
def fX9_goStop_j119 (v0 : Nat) (v1 : Int32) (v2 : Int32) (h : Hp) : Option ((Int32 × Hp) ⊕ ((Nat × Int32 × Hp))) :=
  fX9_goStop_j120 v0 v1 v2 0 h
def fX9_goStop_j274 (v0 : Nat) (v1 : Int32) (v2 : Int32) (t0 : Int32) (t1 : Int32) (t2 : Int32) (t3 : Nat) (h : Hp) : Option ((Int32 × Hp) ⊕ ((Nat × Int32 × Hp))) :=
  (xsI h t3 t2 (t1 &&& t0)).bind fun h25 => some (Sum.inl (v2 + 1, h25))
def fX9_goStop_j252 (v0 : Nat) (v1 : Int32) (v2 : Int32) (v3 : Int32) (t0 : Int32) (t1 : Int32) (t2 : Int32) (t3 : Nat) (h : Hp) : Option ((Int32 × Hp) ⊕ ((Nat × Int32 × Hp))) :=
  (xsI h t3 t2 (t1 ||| t0)).bind fun h26 => (xgR h26 v0 (9, 18) 6).bind fun x27 => (xaI h26 x27 10 4).bind fun x28 => if (v3 : Int32) = 0 then (fX9_goStop_j274 v0 v1 v2 (-1) x28 4 x27 h26) else (fX9_goStop_j274 v0 v1 v2 ((1 <<< (v2 &&& 31)) ^^^ (-1)) x28 4 x27 h26)
def fX9_goStop_j233 (v0 : Nat) (v1 : Int32) (v2 : Int32) (t0 : Int32) (h : Hp) : Option ((Int32 × Hp) ⊕ ((Nat × Int32 × Hp))) :=
  (xgR h v0 (9, 18) 6).bind fun x30 => (xaI h x30 10 5).bind fun x31 => if (t0 : Int32) = 0 then (fX9_goStop_j252 v0 v1 v2 t0 0 x31 5 x30 h) else (fX9_goStop_j252 v0 v1 v2 t0 (1 <<< (v2 &&& 31)) x31 5 x30 h)
def fX9_goStop_j232 (v0 : Nat) (v1 : Int32) (v2 : Int32) (h : Hp) : Option ((Int32 × Hp) ⊕ ((Nat × Int32 × Hp))) :=
  fX9_goStop_j233 v0 v1 v2 0 h
def fX9_goStop_b170 (v0 : Nat) (v1 : Int32) (s170 : Int32 × Hp) : Option ((Int32 × Hp) ⊕ ((Nat × Int32 × Hp))) :=
  (xat s170.2 v0 (9, 18) (fX9_many v0 s170.2)).bind fun x33 => if (x33 : Int32) ≤ s170.1 then (some (Sum.inr (v0, v1, s170.2))) else ((xgR s170.2 v0 (9, 18) 6).bind fun x35 => (xaI s170.2 x35 10 (9 + v1)).bind fun x36 => if (x36 : Int32) ≤ 0 then (some (Sum.inr (v0, v1, s170.2))) else ((xgR s170.2 v0 (9, 18) 6).bind fun x38 => (xaI s170.2 x38 10 4).bind fun x39 => (fX9_has x39 s170.1 s170.2).bind fun x40 => if (x40 : Int32) = 0 then (fX9_goStop_j232 v0 v1 s170.1 s170.2) else ((xgR s170.2 v0 (9, 18) 6).bind fun x42 => (xaI s170.2 x42 10 (19 + s170.1)).bind fun x43 => (fX9_tallAs x43 v1 s170.2).bind fun x44 => (xgR s170.2 v0 (9, 18) 6).bind fun x45 => (xaI s170.2 x45 10 (9 + v1)).bind fun x46 => if (x44 : Int32) ≤ x46 then (fX9_goStop_j232 v0 v1 s170.1 s170.2) else (fX9_goStop_j233 v0 v1 s170.1 1 s170.2))))
def fX9_goStop_b56 (v0 : Nat) (v1 : Int32) (s56 : Int32 × Hp) : Option ((Int32 × Hp) ⊕ ((Nat × Int32 × Hp))) :=
  (xat s56.2 v0 (9, 18) (fX9_many v0 s56.2)).bind fun x23 => if (x23 : Int32) ≤ s56.1 then (some (Sum.inr (v0, v1, s56.2))) else ((xgR s56.2 v0 (9, 18) 6).bind fun x48 => (xaI s56.2 x48 10 (33 + s56.1)).bind fun x49 => if (x49 : Int32) = v1 then ((xgR s56.2 v0 (9, 18) 6).bind fun x51 => (xaI s56.2 x51 10 4).bind fun x52 => (fX9_bits x52 s56.2).bind fun x53 => (xgR s56.2 v0 (9, 18) 6).bind fun x54 => (xaI s56.2 x54 10 8).bind fun x55 => if (x55 : Int32) ≤ x53 then (fX9_goStop_j119 v0 v1 s56.1 s56.2) else ((xgR s56.2 v0 (9, 18) 6).bind fun x57 => (xaI s56.2 x57 10 4).bind fun x58 => (xgR s56.2 v0 (9, 18) 6).bind fun x59 => (xaI s56.2 x59 10 (47 + s56.1)).bind fun x60 => if (x58 &&& x60 : Int32) = 0 then (fX9_goStop_j120 v0 v1 s56.1 1 s56.2) else (fX9_goStop_j119 v0 v1 s56.1 s56.2))) else (fX9_goStop_j162 v0 v1 s56.1 s56.2))
def fX9_goStop_b9 (v0 : Nat) (v1 : Int32) (s9 : Int32 × Hp) : Option ((Int32 × Hp) ⊕ ((Nat × Int32 × Hp))) :=
  (xat s9.2 v0 (9, 18) (fX9_many v0 s9.2)).bind fun x13 => if (x13 : Int32) ≤ s9.1 then (some (Sum.inr (v0, v1, s9.2))) else ((xgR s9.2 v0 (9, 18) 6).bind fun x62 => (xaI s9.2 x62 10 4).bind fun x63 => (xgR s9.2 v0 (9, 18) 6).bind fun x64 => (xaI s9.2 x64 10 (40 + s9.1)).bind fun x65 => if (x65 : Int32) = v1 then (fX9_goStop_j46 v0 v1 s9.1 ((1 <<< (s9.1 &&& 31)) ^^^ (-1)) x63 4 x62 s9.2) else (fX9_goStop_j46 v0 v1 s9.1 (-1) x63 4 x62 s9.2))
def fX9_goStop (v0 : Nat) (h : Hp) : Option (Hp) :=
  (xgR h v0 (9, 18) 6).bind fun x10 => (xaI h x10 10 3).bind fun x11 => (xloop (fX9_goStop_b9 v0 x11) 1000000 (0, h)).bind (fun r9 => (xloop (fX9_goStop_b56 r9.1 r9.2.1) 1000000 (0, r9.2.2)).bind (fun r56 => (xloop (fX9_goStop_b170 r56.1 r56.2.1) 1000000 (0, r56.2.2)).bind (fun r170 => fX9_goStop_j282 r170.1 r170.2.1 r170.2.2)))
abbrev iX9_goStop : xI := (cX9_goStop, yX9_goStop.cls, yX9_goStop.name, none, 4, 5)
set_option maxHeartbeats 4000000 in
set_option maxRecDepth 100000 in
theorem kX9_goStop (l : Launch) (η : xEnv) (v0 : Nat) (h : Hp) (x : Hp) (hx : fX9_goStop v0 h = some x) : xC l η yX9_goStop cX9_goStop 4 none 5 [.ref v0] h none x := by
  refine xC_of (by decide) (Nat.le_of_ble_eq_true rfl) hx (fun κ x => κ.2.2.2.1 = none ∧ κ.2.2.2.2 = x) ⟨rfl, rfl⟩ (fun κ => ?_)
  show xJ iX9_goStop κ _ 0 [(0, .ref v0)] [] h (fX9_goStop v0 h)
  unfold fX9_goStop
  refine j_have (pj := 282) (Lf := fun v : Int32 × Hp => [(0, .ref v0), (1, .int v.1)]) (Sf := fun v : Int32 × Hp => []) (Hf := fun v : Int32 × Hp => v.2) (jf := fun v : Int32 × Hp => fX9_goStop_j282 v0 v.1 v.2) (fun v => ?_) (fun hj282 => ?_)
  · obtain ⟨v1, h⟩ := v
    show xJ iX9_goStop κ _ 282 [(0, .ref v0), (1, .int v1)] [] h (fX9_goStop_j282 v0 v1 h)
    unfold fX9_goStop_j282
    refine j_aload_n 0 dX9_goStop_282 rfl rfl ?_
    refine j_getR 9 18 6 dX9_goStop_283 fl_RX9_27 (by decide) rfl (by decide) (fun _ _ _ => rfl) (fun x1 => ?_)
    refine j_bipush (x := 7) dX9_goStop_286 (by decide) ?_
    refine j_dup2 dX9_goStop_288 rfl rfl ?_
    refine j_iald dX9_goStop_289 (fun x2 => ?_)
    refine j_aload_n 0 dX9_goStop_290 rfl rfl ?_
    refine j_aload_n 0 dX9_goStop_291 rfl rfl ?_
    refine j_getR 9 18 6 dX9_goStop_292 fl_RX9_27 (by decide) rfl (by decide) (fun _ _ _ => rfl) (fun x3 => ?_)
    refine j_iconst (x := 4) dX9_goStop_295 (by decide) ?_
    refine j_iald dX9_goStop_296 (fun x4 => ?_)
    refine j_iload_n 1 dX9_goStop_297 rfl rfl ?_
    refine j_callV (as := [.int x4, .int v1]) (fun x => some (.int x)) (fun _ => h) 9 18 dX9_goStop_298 ml_RX9_111 tg_X9_swayOfAll im_X9_swayOfAll se_X9_swayOfAll rfl (by decide) (fun x hx => kX9_swayOfAll κ.1 κ.2.1 v0 x4 v1 h x hx) (by decide) (by decide) rfl rfl (Nat.le_of_ble_eq_true rfl) (fun x5 => ?_)
    show xJ iX9_goStop κ _ 301 [(0, .ref v0), (1, .int v1)] [.int x5, .int x2, .int 7, .ref x1] h _
    refine j_iadd dX9_goStop_301 ?_
    refine j_iast dX9_goStop_302 (fun h6 => ?_)
    refine j_aload_n 0 dX9_goStop_303 rfl rfl ?_
    refine j_getR 9 18 6 dX9_goStop_304 fl_RX9_27 (by decide) rfl (by decide) (fun _ _ _ => rfl) (fun x7 => ?_)
    refine j_iconst (x := 3) dX9_goStop_307 (by decide) ?_
    refine j_dup2 dX9_goStop_308 rfl rfl ?_
    refine j_iald dX9_goStop_309 (fun x8 => ?_)
    refine j_iconst (x := 1) dX9_goStop_310 (by decide) ?_
    refine j_iadd dX9_goStop_311 ?_
    refine j_iast dX9_goStop_312 (fun h9 => ?_)
    exact j_vret h9 dX9_goStop_313 rfl (fun q => q)
  refine j_aload_n 0 dX9_goStop_0 rfl rfl ?_
  refine j_getR 9 18 6 dX9_goStop_1 fl_RX9_27 (by decide) rfl (by decide) (fun _ _ _ => rfl) (fun x10 => ?_)
  refine j_iconst (x := 3) dX9_goStop_4 (by decide) ?_
  refine j_iald dX9_goStop_5 (fun x11 => ?_)
  refine j_istore_n (L' := [(1, .int x11), (0, .ref v0)]) dX9_goStop_6 rfl (Nat.le_of_ble_eq_true rfl) rfl ?_
  refine j_iconst (x := 0) dX9_goStop_7 (by decide) ?_
  refine j_istore_n (L' := [(2, .int 0), (1, .int x11), (0, .ref v0)]) dX9_goStop_8 rfl (Nat.le_of_ble_eq_true rfl) rfl ?_
  refine j_pick [2, 1, 0] rfl ?_
  refine j_loop (pc := 9) (Lf := fun s9 : Int32 × Hp => [(0, .ref v0), (1, .int x11), (2, .int s9.1)]) (Hf := fun s9 : Int32 × Hp => s9.2) (fun s9 => ?_) 1000000 (0, h)
  show xJ iX9_goStop κ _ 9 [(0, .ref v0), (1, .int x11), (2, .int s9.1)] [] s9.2 (fX9_goStop_b9 v0 x11 s9)
  unfold fX9_goStop_b9
  refine j_have (pj := 46) (Lf := fun v : Int32 × Int32 × Int32 × Int32 × Nat × Hp => [(0, .ref v0), (1, .int x11), (2, .int v.1)]) (Sf := fun v : Int32 × Int32 × Int32 × Int32 × Nat × Hp => [.int v.2.1, .int v.2.2.1, .int v.2.2.2.1, .ref v.2.2.2.2.1]) (Hf := fun v : Int32 × Int32 × Int32 × Int32 × Nat × Hp => v.2.2.2.2.2) (jf := fun v : Int32 × Int32 × Int32 × Int32 × Nat × Hp => fX9_goStop_j46 v0 x11 v.1 v.2.1 v.2.2.1 v.2.2.2.1 v.2.2.2.2.1 v.2.2.2.2.2) (fun v => ?_) (fun hj46 => ?_)
  · obtain ⟨v2, t0, t1, t2, t3, h⟩ := v
    show xJ iX9_goStop κ _ 46 [(0, .ref v0), (1, .int x11), (2, .int v2)] [.int t0, .int t1, .int t2, .ref t3] h (fX9_goStop_j46 v0 x11 v2 t0 t1 t2 t3 h)
    unfold fX9_goStop_j46
    refine j_iand dX9_goStop_46 ?_
    refine j_iast dX9_goStop_47 (fun h12 => ?_)
    refine j_iinc (y := v2 + 1) (L' := [(2, .int (v2 + 1)), (0, .ref v0), (1, .int x11)]) 2 dX9_goStop_48 rfl rfl (Nat.le_of_ble_eq_true rfl) rfl ?_
    refine j_goto (tgt := 9) dX9_goStop_51 (by decide) ?_
    refine j_pick [1, 2, 0] rfl ?_
    exact j_again (v2 + 1, h12) rfl rfl
  refine j_iload_n 2 dX9_goStop_9 rfl rfl ?_
  refine j_aload_n 0 dX9_goStop_10 rfl rfl ?_
  refine j_callV (as := []) (fun x => some (.int x)) (fun _ => s9.2) 9 18 dX9_goStop_11 ml_RX9_52 tg_X9_many im_X9_many se_X9_many rfl (by decide) (fun x hx => kX9_many κ.1 κ.2.1 v0 s9.2 x hx) (by decide) (by decide) rfl rfl (Nat.le_of_ble_eq_true rfl) (fun x13 => ?_)
  show xJ iX9_goStop κ _ 14 [(0, .ref v0), (1, .int x11), (2, .int s9.1)] [.int x13, .int s9.1] s9.2 _
  refine j_icmp_ge (tgt := 54) dX9_goStop_14 (by decide) (fun c14 => ?_) (fun c14 => ?_)
  · refine j_exit (v0, x11, s9.2) ?_
    show xJ iX9_goStop κ _ _ _ _ _ ((xloop (fX9_goStop_b56 v0 x11) 1000000 (0, s9.2)).bind (fun r56 => (xloop (fX9_goStop_b170 r56.1 r56.2.1) 1000000 (0, r56.2.2)).bind (fun r170 => fX9_goStop_j282 r170.1 r170.2.1 r170.2.2)))
    refine j_iconst (x := 0) dX9_goStop_54 (by decide) ?_
    refine j_istore_n (L' := [(2, .int 0), (0, .ref v0), (1, .int x11)]) dX9_goStop_55 rfl (Nat.le_of_ble_eq_true rfl) rfl ?_
    refine j_pick [1, 2, 0] rfl ?_
    refine j_loop (pc := 56) (Lf := fun s56 : Int32 × Hp => [(0, .ref v0), (1, .int x11), (2, .int s56.1)]) (Hf := fun s56 : Int32 × Hp => s56.2) (fun s56 => ?_) 1000000 (0, s9.2)
    show xJ iX9_goStop κ _ 56 [(0, .ref v0), (1, .int x11), (2, .int s56.1)] [] s56.2 (fX9_goStop_b56 v0 x11 s56)
    unfold fX9_goStop_b56
    refine j_have (pj := 162) (Lf := fun v : Int32 × Hp => [(0, .ref v0), (1, .int x11), (2, .int v.1)]) (Sf := fun v : Int32 × Hp => []) (Hf := fun v : Int32 × Hp => v.2) (jf := fun v : Int32 × Hp => fX9_goStop_j162 v0 x11 v.1 v.2) (fun v => ?_) (fun hj162 => ?_)
    · obtain ⟨v2, h⟩ := v
      show xJ iX9_goStop κ _ 162 [(0, .ref v0), (1, .int x11), (2, .int v2)] [] h (fX9_goStop_j162 v0 x11 v2 h)
      unfold fX9_goStop_j162
      refine j_iinc (y := v2 + 1) (L' := [(2, .int (v2 + 1)), (0, .ref v0), (1, .int x11)]) 2 dX9_goStop_162 rfl rfl (Nat.le_of_ble_eq_true rfl) rfl ?_
      refine j_goto (tgt := 56) dX9_goStop_165 (by decide) ?_
      refine j_pick [1, 2, 0] rfl ?_
      exact j_again (v2 + 1, h) rfl rfl
    refine j_have (pj := 160) (Lf := fun v : Int32 × Int32 × Int32 × Int32 × Nat × Hp => [(0, .ref v0), (1, .int x11), (2, .int v.1)]) (Sf := fun v : Int32 × Int32 × Int32 × Int32 × Nat × Hp => [.int v.2.1, .int v.2.2.1, .int v.2.2.2.1, .ref v.2.2.2.2.1]) (Hf := fun v : Int32 × Int32 × Int32 × Int32 × Nat × Hp => v.2.2.2.2.2) (jf := fun v : Int32 × Int32 × Int32 × Int32 × Nat × Hp => fX9_goStop_j160 v0 x11 v.1 v.2.1 v.2.2.1 v.2.2.2.1 v.2.2.2.2.1 v.2.2.2.2.2) (fun v => ?_) (fun hj160 => ?_)
    · obtain ⟨v2, t0, t1, t2, t3, h⟩ := v
      show xJ iX9_goStop κ _ 160 [(0, .ref v0), (1, .int x11), (2, .int v2)] [.int t0, .int t1, .int t2, .ref t3] h (fX9_goStop_j160 v0 x11 v2 t0 t1 t2 t3 h)
      unfold fX9_goStop_j160
      refine j_ior dX9_goStop_160 ?_
      refine j_iast dX9_goStop_161 (fun h15 => ?_)
      refine j_pick [0, 1, 2] rfl ?_
      exact hj162 (v2, h15)
    refine j_have (pj := 139) (Lf := fun v : Int32 × Int32 × Int32 × Int32 × Int32 × Nat × Hp => [(0, .ref v0), (1, .int x11), (2, .int v.1), (3, .int v.2.1)]) (Sf := fun v : Int32 × Int32 × Int32 × Int32 × Int32 × Nat × Hp => [.int v.2.2.1, .int v.2.2.2.1, .int v.2.2.2.2.1, .ref v.2.2.2.2.2.1]) (Hf := fun v : Int32 × Int32 × Int32 × Int32 × Int32 × Nat × Hp => v.2.2.2.2.2.2) (jf := fun v : Int32 × Int32 × Int32 × Int32 × Int32 × Nat × Hp => fX9_goStop_j139 v0 x11 v.1 v.2.1 v.2.2.1 v.2.2.2.1 v.2.2.2.2.1 v.2.2.2.2.2.1 v.2.2.2.2.2.2) (fun v => ?_) (fun hj139 => ?_)
    · obtain ⟨v2, v3, t0, t1, t2, t3, h⟩ := v
      show xJ iX9_goStop κ _ 139 [(0, .ref v0), (1, .int x11), (2, .int v2), (3, .int v3)] [.int t0, .int t1, .int t2, .ref t3] h (fX9_goStop_j139 v0 x11 v2 v3 t0 t1 t2 t3 h)
      unfold fX9_goStop_j139
      refine j_ior dX9_goStop_139 ?_
      refine j_iast dX9_goStop_140 (fun h16 => ?_)
      refine j_aload_n 0 dX9_goStop_141 rfl rfl ?_
      refine j_getR 9 18 6 dX9_goStop_142 fl_RX9_27 (by decide) rfl (by decide) (fun _ _ _ => rfl) (fun x17 => ?_)
      refine j_bipush (x := 6) dX9_goStop_145 (by decide) ?_
      refine j_dup2 dX9_goStop_147 rfl rfl ?_
      refine j_iald dX9_goStop_148 (fun x18 => ?_)
      refine j_iload_n 3 dX9_goStop_149 rfl rfl ?_
      refine j_if_eq (tgt := 157) dX9_goStop_150 (by decide) (fun c19 => ?_) (fun c19 => ?_)
      · refine j_iconst (x := 1) dX9_goStop_157 (by decide) ?_
        refine j_iload_n 2 dX9_goStop_158 rfl rfl ?_
        refine j_ishl dX9_goStop_159 ?_
        refine j_pick [0, 1, 2] rfl ?_
        exact hj160 (v2, 1 <<< (v2 &&& 31), x18, 6, x17, h16)
      · refine j_iconst (x := 0) dX9_goStop_153 (by decide) ?_
        refine j_goto (tgt := 160) dX9_goStop_154 (by decide) ?_
        refine j_pick [0, 1, 2] rfl ?_
        exact hj160 (v2, 0, x18, 6, x17, h16)
    refine j_have (pj := 120) (Lf := fun v : Int32 × Int32 × Hp => [(0, .ref v0), (1, .int x11), (2, .int v.1)]) (Sf := fun v : Int32 × Int32 × Hp => [.int v.2.1]) (Hf := fun v : Int32 × Int32 × Hp => v.2.2) (jf := fun v : Int32 × Int32 × Hp => fX9_goStop_j120 v0 x11 v.1 v.2.1 v.2.2) (fun v => ?_) (fun hj120 => ?_)
    · obtain ⟨v2, t0, h⟩ := v
      show xJ iX9_goStop κ _ 120 [(0, .ref v0), (1, .int x11), (2, .int v2)] [.int t0] h (fX9_goStop_j120 v0 x11 v2 t0 h)
      unfold fX9_goStop_j120
      refine j_istore_n (L' := [(3, .int t0), (0, .ref v0), (1, .int x11), (2, .int v2)]) dX9_goStop_120 rfl (Nat.le_of_ble_eq_true rfl) rfl ?_
      refine j_aload_n 1 dX9_goStop_121 rfl rfl ?_
      refine j_getR 9 18 6 dX9_goStop_122 fl_RX9_27 (by decide) rfl (by decide) (fun _ _ _ => rfl) (fun x20 => ?_)
      refine j_iconst (x := 4) dX9_goStop_125 (by decide) ?_
      refine j_dup2 dX9_goStop_126 rfl rfl ?_
      refine j_iald dX9_goStop_127 (fun x21 => ?_)
      refine j_iload_n 0 dX9_goStop_128 rfl rfl ?_
      refine j_if_eq (tgt := 138) dX9_goStop_129 (by decide) (fun c22 => ?_) (fun c22 => ?_)
      · refine j_iconst (x := 0) dX9_goStop_138 (by decide) ?_
        refine j_pick [1, 2, 3, 0] rfl ?_
        exact hj139 (v2, t0, 0, x21, 4, x20, h)
      · refine j_iconst (x := 1) dX9_goStop_132 (by decide) ?_
        refine j_iload_n 3 dX9_goStop_133 rfl rfl ?_
        refine j_ishl dX9_goStop_134 ?_
        refine j_goto (tgt := 139) dX9_goStop_135 (by decide) ?_
        refine j_pick [1, 2, 3, 0] rfl ?_
        exact hj139 (v2, t0, 1 <<< (v2 &&& 31), x21, 4, x20, h)
    refine j_have (pj := 119) (Lf := fun v : Int32 × Hp => [(0, .ref v0), (1, .int x11), (2, .int v.1)]) (Sf := fun v : Int32 × Hp => []) (Hf := fun v : Int32 × Hp => v.2) (jf := fun v : Int32 × Hp => fX9_goStop_j119 v0 x11 v.1 v.2) (fun v => ?_) (fun hj119 => ?_)
    · obtain ⟨v2, h⟩ := v
      show xJ iX9_goStop κ _ 119 [(0, .ref v0), (1, .int x11), (2, .int v2)] [] h (fX9_goStop_j119 v0 x11 v2 h)
      unfold fX9_goStop_j119
      refine j_iconst (x := 0) dX9_goStop_119 (by decide) ?_
      refine j_pick [0, 1, 2] rfl ?_
      exact hj120 (v2, 0, h)
    refine j_iload_n 2 dX9_goStop_56 rfl rfl ?_
    refine j_aload_n 0 dX9_goStop_57 rfl rfl ?_
    refine j_callV (as := []) (fun x => some (.int x)) (fun _ => s56.2) 9 18 dX9_goStop_58 ml_RX9_52 tg_X9_many im_X9_many se_X9_many rfl (by decide) (fun x hx => kX9_many κ.1 κ.2.1 v0 s56.2 x hx) (by decide) (by decide) rfl rfl (Nat.le_of_ble_eq_true rfl) (fun x23 => ?_)
    show xJ iX9_goStop κ _ 61 [(0, .ref v0), (1, .int x11), (2, .int s56.1)] [.int x23, .int s56.1] s56.2 _
    refine j_icmp_ge (tgt := 168) dX9_goStop_61 (by decide) (fun c24 => ?_) (fun c24 => ?_)
    · refine j_exit (v0, x11, s56.2) ?_
      show xJ iX9_goStop κ _ _ _ _ _ ((xloop (fX9_goStop_b170 v0 x11) 1000000 (0, s56.2)).bind (fun r170 => fX9_goStop_j282 r170.1 r170.2.1 r170.2.2))
      refine j_iconst (x := 0) dX9_goStop_168 (by decide) ?_
      refine j_istore_n (L' := [(2, .int 0), (0, .ref v0), (1, .int x11)]) dX9_goStop_169 rfl (Nat.le_of_ble_eq_true rfl) rfl ?_
      refine j_pick [1, 2, 0] rfl ?_
      refine j_loop (pc := 170) (Lf := fun s170 : Int32 × Hp => [(0, .ref v0), (1, .int x11), (2, .int s170.1)]) (Hf := fun s170 : Int32 × Hp => s170.2) (fun s170 => ?_) 1000000 (0, s56.2)
      show xJ iX9_goStop κ _ 170 [(0, .ref v0), (1, .int x11), (2, .int s170.1)] [] s170.2 (fX9_goStop_b170 v0 x11 s170)
      unfold fX9_goStop_b170
      refine j_have (pj := 274) (Lf := fun v : Int32 × Int32 × Int32 × Int32 × Nat × Hp => [(0, .ref v0), (1, .int x11), (2, .int v.1)]) (Sf := fun v : Int32 × Int32 × Int32 × Int32 × Nat × Hp => [.int v.2.1, .int v.2.2.1, .int v.2.2.2.1, .ref v.2.2.2.2.1]) (Hf := fun v : Int32 × Int32 × Int32 × Int32 × Nat × Hp => v.2.2.2.2.2) (jf := fun v : Int32 × Int32 × Int32 × Int32 × Nat × Hp => fX9_goStop_j274 v0 x11 v.1 v.2.1 v.2.2.1 v.2.2.2.1 v.2.2.2.2.1 v.2.2.2.2.2) (fun v => ?_) (fun hj274 => ?_)
      · obtain ⟨v2, t0, t1, t2, t3, h⟩ := v
        show xJ iX9_goStop κ _ 274 [(0, .ref v0), (1, .int x11), (2, .int v2)] [.int t0, .int t1, .int t2, .ref t3] h (fX9_goStop_j274 v0 x11 v2 t0 t1 t2 t3 h)
        unfold fX9_goStop_j274
        refine j_iand dX9_goStop_274 ?_
        refine j_iast dX9_goStop_275 (fun h25 => ?_)
        refine j_iinc (y := v2 + 1) (L' := [(2, .int (v2 + 1)), (0, .ref v0), (1, .int x11)]) 2 dX9_goStop_276 rfl rfl (Nat.le_of_ble_eq_true rfl) rfl ?_
        refine j_goto (tgt := 170) dX9_goStop_279 (by decide) ?_
        refine j_pick [1, 2, 0] rfl ?_
        exact j_again (v2 + 1, h25) rfl rfl
      refine j_have (pj := 252) (Lf := fun v : Int32 × Int32 × Int32 × Int32 × Int32 × Nat × Hp => [(0, .ref v0), (1, .int x11), (2, .int v.1), (3, .int v.2.1)]) (Sf := fun v : Int32 × Int32 × Int32 × Int32 × Int32 × Nat × Hp => [.int v.2.2.1, .int v.2.2.2.1, .int v.2.2.2.2.1, .ref v.2.2.2.2.2.1]) (Hf := fun v : Int32 × Int32 × Int32 × Int32 × Int32 × Nat × Hp => v.2.2.2.2.2.2) (jf := fun v : Int32 × Int32 × Int32 × Int32 × Int32 × Nat × Hp => fX9_goStop_j252 v0 x11 v.1 v.2.1 v.2.2.1 v.2.2.2.1 v.2.2.2.2.1 v.2.2.2.2.2.1 v.2.2.2.2.2.2) (fun v => ?_) (fun hj252 => ?_)
      · obtain ⟨v2, v3, t0, t1, t2, t3, h⟩ := v
        show xJ iX9_goStop κ _ 252 [(0, .ref v0), (1, .int x11), (2, .int v2), (3, .int v3)] [.int t0, .int t1, .int t2, .ref t3] h (fX9_goStop_j252 v0 x11 v2 v3 t0 t1 t2 t3 h)
        unfold fX9_goStop_j252
        refine j_ior dX9_goStop_252 ?_
        refine j_iast dX9_goStop_253 (fun h26 => ?_)
        refine j_aload_n 0 dX9_goStop_254 rfl rfl ?_
        refine j_getR 9 18 6 dX9_goStop_255 fl_RX9_27 (by decide) rfl (by decide) (fun _ _ _ => rfl) (fun x27 => ?_)
        refine j_iconst (x := 4) dX9_goStop_258 (by decide) ?_
        refine j_dup2 dX9_goStop_259 rfl rfl ?_
        refine j_iald dX9_goStop_260 (fun x28 => ?_)
        refine j_iload_n 3 dX9_goStop_261 rfl rfl ?_
        refine j_if_eq (tgt := 273) dX9_goStop_262 (by decide) (fun c29 => ?_) (fun c29 => ?_)
        · refine j_iconst (x := (-1)) dX9_goStop_273 (by decide) ?_
          refine j_pick [0, 1, 2] rfl ?_
          exact hj274 (v2, (-1), x28, 4, x27, h26)
        · refine j_iconst (x := 1) dX9_goStop_265 (by decide) ?_
          refine j_iload_n 2 dX9_goStop_266 rfl rfl ?_
          refine j_ishl dX9_goStop_267 ?_
          refine j_iconst (x := (-1)) dX9_goStop_268 (by decide) ?_
          refine j_ixor dX9_goStop_269 ?_
          refine j_goto (tgt := 274) dX9_goStop_270 (by decide) ?_
          refine j_pick [0, 1, 2] rfl ?_
          exact hj274 (v2, (1 <<< (v2 &&& 31)) ^^^ (-1), x28, 4, x27, h26)
      refine j_have (pj := 233) (Lf := fun v : Int32 × Int32 × Hp => [(0, .ref v0), (1, .int x11), (2, .int v.1)]) (Sf := fun v : Int32 × Int32 × Hp => [.int v.2.1]) (Hf := fun v : Int32 × Int32 × Hp => v.2.2) (jf := fun v : Int32 × Int32 × Hp => fX9_goStop_j233 v0 x11 v.1 v.2.1 v.2.2) (fun v => ?_) (fun hj233 => ?_)
      · obtain ⟨v2, t0, h⟩ := v
        show xJ iX9_goStop κ _ 233 [(0, .ref v0), (1, .int x11), (2, .int v2)] [.int t0] h (fX9_goStop_j233 v0 x11 v2 t0 h)
        unfold fX9_goStop_j233
        refine j_istore_n (L' := [(3, .int t0), (0, .ref v0), (1, .int x11), (2, .int v2)]) dX9_goStop_233 rfl (Nat.le_of_ble_eq_true rfl) rfl ?_
        refine j_aload_n 1 dX9_goStop_234 rfl rfl ?_
        refine j_getR 9 18 6 dX9_goStop_235 fl_RX9_27 (by decide) rfl (by decide) (fun _ _ _ => rfl) (fun x30 => ?_)
        refine j_iconst (x := 5) dX9_goStop_238 (by decide) ?_
        refine j_dup2 dX9_goStop_239 rfl rfl ?_
        refine j_iald dX9_goStop_240 (fun x31 => ?_)
        refine j_iload_n 0 dX9_goStop_241 rfl rfl ?_
        refine j_if_eq (tgt := 251) dX9_goStop_242 (by decide) (fun c32 => ?_) (fun c32 => ?_)
        · refine j_iconst (x := 0) dX9_goStop_251 (by decide) ?_
          refine j_pick [1, 2, 3, 0] rfl ?_
          exact hj252 (v2, t0, 0, x31, 5, x30, h)
        · refine j_iconst (x := 1) dX9_goStop_245 (by decide) ?_
          refine j_iload_n 3 dX9_goStop_246 rfl rfl ?_
          refine j_ishl dX9_goStop_247 ?_
          refine j_goto (tgt := 252) dX9_goStop_248 (by decide) ?_
          refine j_pick [1, 2, 3, 0] rfl ?_
          exact hj252 (v2, t0, 1 <<< (v2 &&& 31), x31, 5, x30, h)
      refine j_have (pj := 232) (Lf := fun v : Int32 × Hp => [(0, .ref v0), (1, .int x11), (2, .int v.1)]) (Sf := fun v : Int32 × Hp => []) (Hf := fun v : Int32 × Hp => v.2) (jf := fun v : Int32 × Hp => fX9_goStop_j232 v0 x11 v.1 v.2) (fun v => ?_) (fun hj232 => ?_)
      · obtain ⟨v2, h⟩ := v
        show xJ iX9_goStop κ _ 232 [(0, .ref v0), (1, .int x11), (2, .int v2)] [] h (fX9_goStop_j232 v0 x11 v2 h)
        unfold fX9_goStop_j232
        refine j_iconst (x := 0) dX9_goStop_232 (by decide) ?_
        refine j_pick [0, 1, 2] rfl ?_
        exact hj233 (v2, 0, h)
      refine j_iload_n 2 dX9_goStop_170 rfl rfl ?_
      refine j_aload_n 0 dX9_goStop_171 rfl rfl ?_
      refine j_callV (as := []) (fun x => some (.int x)) (fun _ => s170.2) 9 18 dX9_goStop_172 ml_RX9_52 tg_X9_many im_X9_many se_X9_many rfl (by decide) (fun x hx => kX9_many κ.1 κ.2.1 v0 s170.2 x hx) (by decide) (by decide) rfl rfl (Nat.le_of_ble_eq_true rfl) (fun x33 => ?_)
      show xJ iX9_goStop κ _ 175 [(0, .ref v0), (1, .int x11), (2, .int s170.1)] [.int x33, .int s170.1] s170.2 _
      refine j_icmp_ge (tgt := 282) dX9_goStop_175 (by decide) (fun c34 => ?_) (fun c34 => ?_)
      · refine j_exit (v0, x11, s170.2) ?_
        show xJ iX9_goStop κ _ _ _ _ _ (fX9_goStop_j282 v0 x11 s170.2)
        refine j_pick [0, 1] rfl ?_
        exact hj282 (x11, s170.2)
      · refine j_aload_n 0 dX9_goStop_178 rfl rfl ?_
        refine j_getR 9 18 6 dX9_goStop_179 fl_RX9_27 (by decide) rfl (by decide) (fun _ _ _ => rfl) (fun x35 => ?_)
        refine j_bipush (x := 9) dX9_goStop_182 (by decide) ?_
        refine j_iload_n 1 dX9_goStop_184 rfl rfl ?_
        refine j_iadd dX9_goStop_185 ?_
        refine j_iald dX9_goStop_186 (fun x36 => ?_)
        refine j_if_le (tgt := 282) dX9_goStop_187 (by decide) (fun c37 => ?_) (fun c37 => ?_)
        · refine j_exit (v0, x11, s170.2) ?_
          show xJ iX9_goStop κ _ _ _ _ _ (fX9_goStop_j282 v0 x11 s170.2)
          refine j_pick [0, 1] rfl ?_
          exact hj282 (x11, s170.2)
        · refine j_aload_n 0 dX9_goStop_190 rfl rfl ?_
          refine j_getR 9 18 6 dX9_goStop_191 fl_RX9_27 (by decide) rfl (by decide) (fun _ _ _ => rfl) (fun x38 => ?_)
          refine j_iconst (x := 4) dX9_goStop_194 (by decide) ?_
          refine j_iald dX9_goStop_195 (fun x39 => ?_)
          refine j_iload_n 2 dX9_goStop_196 rfl rfl ?_
          refine j_callS (as := [.int x39, .int s170.1]) (fun x => some (.int x)) (fun _ => s170.2) dX9_goStop_197 ml_RX9_97 tg_X9_has st_X9_has (fun x hx => kX9_has κ.1 κ.2.1 x39 s170.1 s170.2 x hx) (by decide) (by decide) rfl rfl (Nat.le_of_ble_eq_true rfl) (fun x40 => ?_)
          show xJ iX9_goStop κ _ 200 [(0, .ref v0), (1, .int x11), (2, .int s170.1)] [.int x40] s170.2 _
          refine j_if_eq (tgt := 232) dX9_goStop_200 (by decide) (fun c41 => ?_) (fun c41 => ?_)
          · refine j_pick [0, 1, 2] rfl ?_
            exact hj232 (s170.1, s170.2)
          · refine j_aload_n 0 dX9_goStop_203 rfl rfl ?_
            refine j_getR 9 18 6 dX9_goStop_204 fl_RX9_27 (by decide) rfl (by decide) (fun _ _ _ => rfl) (fun x42 => ?_)
            refine j_bipush (x := 19) dX9_goStop_207 (by decide) ?_
            refine j_iload_n 2 dX9_goStop_209 rfl rfl ?_
            refine j_iadd dX9_goStop_210 ?_
            refine j_iald dX9_goStop_211 (fun x43 => ?_)
            refine j_iload_n 1 dX9_goStop_212 rfl rfl ?_
            refine j_callS (as := [.int x43, .int x11]) (fun x => some (.int x)) (fun _ => s170.2) dX9_goStop_213 ml_RX9_108 tg_X9_tallAs st_X9_tallAs (fun x hx => kX9_tallAs κ.1 κ.2.1 x43 x11 s170.2 x hx) (by decide) (by decide) rfl rfl (Nat.le_of_ble_eq_true rfl) (fun x44 => ?_)
            show xJ iX9_goStop κ _ 216 [(0, .ref v0), (1, .int x11), (2, .int s170.1)] [.int x44] s170.2 _
            refine j_aload_n 0 dX9_goStop_216 rfl rfl ?_
            refine j_getR 9 18 6 dX9_goStop_217 fl_RX9_27 (by decide) rfl (by decide) (fun _ _ _ => rfl) (fun x45 => ?_)
            refine j_bipush (x := 9) dX9_goStop_220 (by decide) ?_
            refine j_iload_n 1 dX9_goStop_222 rfl rfl ?_
            refine j_iadd dX9_goStop_223 ?_
            refine j_iald dX9_goStop_224 (fun x46 => ?_)
            refine j_icmp_le (tgt := 232) dX9_goStop_225 (by decide) (fun c47 => ?_) (fun c47 => ?_)
            · refine j_pick [0, 1, 2] rfl ?_
              exact hj232 (s170.1, s170.2)
            · refine j_iconst (x := 1) dX9_goStop_228 (by decide) ?_
              refine j_goto (tgt := 233) dX9_goStop_229 (by decide) ?_
              refine j_pick [0, 1, 2] rfl ?_
              exact hj233 (s170.1, 1, s170.2)
    · refine j_aload_n 0 dX9_goStop_64 rfl rfl ?_
      refine j_getR 9 18 6 dX9_goStop_65 fl_RX9_27 (by decide) rfl (by decide) (fun _ _ _ => rfl) (fun x48 => ?_)
      refine j_bipush (x := 33) dX9_goStop_68 (by decide) ?_
      refine j_iload_n 2 dX9_goStop_70 rfl rfl ?_
      refine j_iadd dX9_goStop_71 ?_
      refine j_iald dX9_goStop_72 (fun x49 => ?_)
      refine j_iload_n 1 dX9_goStop_73 rfl rfl ?_
      refine j_icmp_ne (tgt := 162) dX9_goStop_74 (by decide) (fun c50 => ?_) (fun c50 => ?_)
      · refine j_aload_n 0 dX9_goStop_77 rfl rfl ?_
        refine j_getR 9 18 6 dX9_goStop_78 fl_RX9_27 (by decide) rfl (by decide) (fun _ _ _ => rfl) (fun x51 => ?_)
        refine j_iconst (x := 4) dX9_goStop_81 (by decide) ?_
        refine j_iald dX9_goStop_82 (fun x52 => ?_)
        refine j_callS (as := [.int x52]) (fun x => some (.int x)) (fun _ => s56.2) dX9_goStop_83 ml_RX9_105 tg_X9_bits st_X9_bits (fun x hx => kX9_bits κ.1 κ.2.1 x52 s56.2 x hx) (by decide) (by decide) rfl rfl (Nat.le_of_ble_eq_true rfl) (fun x53 => ?_)
        show xJ iX9_goStop κ _ 86 [(0, .ref v0), (1, .int x11), (2, .int s56.1)] [.int x53] s56.2 _
        refine j_aload_n 0 dX9_goStop_86 rfl rfl ?_
        refine j_getR 9 18 6 dX9_goStop_87 fl_RX9_27 (by decide) rfl (by decide) (fun _ _ _ => rfl) (fun x54 => ?_)
        refine j_bipush (x := 8) dX9_goStop_90 (by decide) ?_
        refine j_iald dX9_goStop_92 (fun x55 => ?_)
        refine j_icmp_ge (tgt := 119) dX9_goStop_93 (by decide) (fun c56 => ?_) (fun c56 => ?_)
        · refine j_pick [0, 1, 2] rfl ?_
          exact hj119 (s56.1, s56.2)
        · refine j_aload_n 0 dX9_goStop_96 rfl rfl ?_
          refine j_getR 9 18 6 dX9_goStop_97 fl_RX9_27 (by decide) rfl (by decide) (fun _ _ _ => rfl) (fun x57 => ?_)
          refine j_iconst (x := 4) dX9_goStop_100 (by decide) ?_
          refine j_iald dX9_goStop_101 (fun x58 => ?_)
          refine j_aload_n 0 dX9_goStop_102 rfl rfl ?_
          refine j_getR 9 18 6 dX9_goStop_103 fl_RX9_27 (by decide) rfl (by decide) (fun _ _ _ => rfl) (fun x59 => ?_)
          refine j_bipush (x := 47) dX9_goStop_106 (by decide) ?_
          refine j_iload_n 2 dX9_goStop_108 rfl rfl ?_
          refine j_iadd dX9_goStop_109 ?_
          refine j_iald dX9_goStop_110 (fun x60 => ?_)
          refine j_iand dX9_goStop_111 ?_
          refine j_if_ne (tgt := 119) dX9_goStop_112 (by decide) (fun c61 => ?_) (fun c61 => ?_)
          · refine j_iconst (x := 1) dX9_goStop_115 (by decide) ?_
            refine j_goto (tgt := 120) dX9_goStop_116 (by decide) ?_
            refine j_pick [0, 1, 2] rfl ?_
            exact hj120 (s56.1, 1, s56.2)
          · refine j_pick [0, 1, 2] rfl ?_
            exact hj119 (s56.1, s56.2)
      · refine j_pick [0, 1, 2] rfl ?_
        exact hj162 (s56.1, s56.2)
  · refine j_aload_n 0 dX9_goStop_17 rfl rfl ?_
    refine j_getR 9 18 6 dX9_goStop_18 fl_RX9_27 (by decide) rfl (by decide) (fun _ _ _ => rfl) (fun x62 => ?_)
    refine j_iconst (x := 4) dX9_goStop_21 (by decide) ?_
    refine j_dup2 dX9_goStop_22 rfl rfl ?_
    refine j_iald dX9_goStop_23 (fun x63 => ?_)
    refine j_aload_n 0 dX9_goStop_24 rfl rfl ?_
    refine j_getR 9 18 6 dX9_goStop_25 fl_RX9_27 (by decide) rfl (by decide) (fun _ _ _ => rfl) (fun x64 => ?_)
    refine j_bipush (x := 40) dX9_goStop_28 (by decide) ?_
    refine j_iload_n 2 dX9_goStop_30 rfl rfl ?_
    refine j_iadd dX9_goStop_31 ?_
    refine j_iald dX9_goStop_32 (fun x65 => ?_)
    refine j_iload_n 1 dX9_goStop_33 rfl rfl ?_
    refine j_icmp_ne (tgt := 45) dX9_goStop_34 (by decide) (fun c66 => ?_) (fun c66 => ?_)
    · refine j_iconst (x := 1) dX9_goStop_37 (by decide) ?_
      refine j_iload_n 2 dX9_goStop_38 rfl rfl ?_
      refine j_ishl dX9_goStop_39 ?_
      refine j_iconst (x := (-1)) dX9_goStop_40 (by decide) ?_
      refine j_ixor dX9_goStop_41 ?_
      refine j_goto (tgt := 46) dX9_goStop_42 (by decide) ?_
      refine j_pick [0, 1, 2] rfl ?_
      exact hj46 (s9.1, (1 <<< (s9.1 &&& 31)) ^^^ (-1), x63, 4, x62, s9.2)
    · refine j_iconst (x := (-1)) dX9_goStop_45 (by decide) ?_
      refine j_pick [0, 1, 2] rfl ?_
      exact hj46 (s9.1, (-1), x63, 4, x62, s9.2)
def fX9_goTill_b0 (v0 : Nat) (v1 : Int32) (s0 : Hp) : Option ((Hp) ⊕ ((Hp))) :=
  (xgR s0 v0 (9, 18) 6).bind fun x1 => (xaI s0 x1 10 3).bind fun x2 => if (v1 : Int32) ≤ x2 then (some (Sum.inr s0)) else ((xat s0 v0 (9, 18) (fX9_goStop v0 s0)).bind fun h4 => some (Sum.inl h4))
def fX9_goTill (v0 : Nat) (v1 : Int32) (h : Hp) : Option (Hp) :=
  (xloop (fX9_goTill_b0 v0 v1) 1000000 h).bind (fun r0 => some r0)
abbrev iX9_goTill : xI := (cX9_goTill, yX9_goTill.cls, yX9_goTill.name, none, 2, 6)
set_option maxHeartbeats 4000000 in
set_option maxRecDepth 100000 in
theorem kX9_goTill (l : Launch) (η : xEnv) (v0 : Nat) (v1 : Int32) (h : Hp) (x : Hp) (hx : fX9_goTill v0 v1 h = some x) : xC l η yX9_goTill cX9_goTill 2 none 6 [.ref v0, .int v1] h none x := by
  refine xC_of (by decide) (Nat.le_of_ble_eq_true rfl) hx (fun κ x => κ.2.2.2.1 = none ∧ κ.2.2.2.2 = x) ⟨rfl, rfl⟩ (fun κ => ?_)
  show xJ iX9_goTill κ _ 0 [(0, .ref v0), (1, .int v1)] [] h (fX9_goTill v0 v1 h)
  unfold fX9_goTill
  refine j_pick [0, 1] rfl ?_
  refine j_loop (pc := 0) (Lf := fun s0 : Hp => [(0, .ref v0), (1, .int v1)]) (Hf := fun s0 : Hp => s0) (fun s0 => ?_) 1000000 h
  show xJ iX9_goTill κ _ 0 [(0, .ref v0), (1, .int v1)] [] s0 (fX9_goTill_b0 v0 v1 s0)
  unfold fX9_goTill_b0
  refine j_aload_n 0 dX9_goTill_0 rfl rfl ?_
  refine j_getR 9 18 6 dX9_goTill_1 fl_RX9_27 (by decide) rfl (by decide) (fun _ _ _ => rfl) (fun x1 => ?_)
  refine j_iconst (x := 3) dX9_goTill_4 (by decide) ?_
  refine j_iald dX9_goTill_5 (fun x2 => ?_)
  refine j_iload_n 1 dX9_goTill_6 rfl rfl ?_
  refine j_icmp_ge (tgt := 17) dX9_goTill_7 (by decide) (fun c3 => ?_) (fun c3 => ?_)
  · refine j_exit s0 ?_
    show xJ iX9_goTill κ _ _ _ _ _ (some s0)
    exact j_vret s0 dX9_goTill_17 rfl (fun q => q)
  · refine j_aload_n 0 dX9_goTill_10 rfl rfl ?_
    refine j_callV (as := []) (fun _ => none) (fun x => x) 9 18 dX9_goTill_11 ml_RX9_114 tg_X9_goStop im_X9_goStop se_X9_goStop rfl (by decide) (fun x hx => kX9_goStop κ.1 κ.2.1 v0 s0 x hx) (by decide) (by decide) rfl rfl (Nat.le_of_ble_eq_true rfl) (fun h4 => ?_)
    show xJ iX9_goTill κ _ 14 [(0, .ref v0), (1, .int v1)] [] h4 _
    refine j_goto (tgt := 0) dX9_goTill_14 (by decide) ?_
    refine j_pick [0, 1] rfl ?_
    exact j_again h4 rfl rfl
def fX9_drive_b67 (v0 : Nat) (v2 : Int32) (s67 : Int32 × Hp) : Option ((Int32 × Hp) ⊕ ((Nat × Int32 × Hp))) :=
  if (5 : Int32) ≤ s67.1 then (some (Sum.inr (v0, v2, s67.2))) else ((xgR s67.2 v0 (9, 18) 0).bind fun x17 => (xgR s67.2 v0 (9, 18) 6).bind fun x18 => (xaI s67.2 x18 10 (3 + s67.1)).bind fun x19 => (xsI s67.2 x17 (3 + s67.1) x19).bind fun h20 => some (Sum.inl (s67.1 + 1, h20)))
def fX9_drive (v0 : Nat) (v1 : Int32) (h : Hp) : Option (Int32 × Hp) :=
  (fX9_in ((v1 : Int32).toInt64) 1 10 h).bind fun x1 => if (x1 : Int32) = 0 then ((xat h v0 (9, 18) (fX9_bad v0 (-2) h)).bind fun q3 => some (q3.1, q3.2)) else ((xgR h v0 (9, 18) 0).bind fun x4 => (xaI h x4 10 3).bind fun x5 => if (x5 + v1 : Int32) ≤ 10 then ((xgR h v0 (9, 18) 0).bind fun x7 => (xaI h x7 10 7).bind fun x8 => (xat h v0 (9, 18) (fX9_keep v0 h)).bind fun h9 => (xat h9 v0 (9, 18) (fX9_layHand v0 h9)).bind fun h10 => (xgR h10 v0 (9, 18) 0).bind fun x11 => (xaI h10 x11 10 3).bind fun x12 => (xat h10 v0 (9, 18) (fX9_goTill v0 (x12 + v1) h10)).bind fun h13 => (xloop (fX9_drive_b67 v0 x8) 1000000 (0, h13)).bind (fun r67 => (xgR r67.2.2 r67.1 (9, 18) 0).bind fun x21 => (xaI r67.2.2 x21 10 7).bind fun x22 => some (x22 - r67.2.1, r67.2.2))) else ((xat h v0 (9, 18) (fX9_no v0 h)).bind fun q21 => some (q21.1, q21.2)))
abbrev iX9_drive : xI := (cX9_drive, yX9_drive.cls, yX9_drive.name, some .int, 4, 7)
set_option maxHeartbeats 4000000 in
set_option maxRecDepth 100000 in
theorem kX9_drive (l : Launch) (η : xEnv) (v0 : Nat) (v1 : Int32) (h : Hp) (x : Int32 × Hp) (hx : fX9_drive v0 v1 h = some x) : xC l η yX9_drive cX9_drive 4 (some .int) 7 [.ref v0, .int v1] h (some (.int x.1)) x.2 := by
  refine xC_of (by decide) (Nat.le_of_ble_eq_true rfl) hx (fun κ x => κ.2.2.2.1 = some (.int x.1) ∧ κ.2.2.2.2 = x.2) ⟨rfl, rfl⟩ (fun κ => ?_)
  show xJ iX9_drive κ _ 0 [(0, .ref v0), (1, .int v1)] [] h (fX9_drive v0 v1 h)
  unfold fX9_drive
  refine j_iload_n 1 dX9_drive_0 rfl rfl ?_
  refine j_i2l dX9_drive_1 ?_
  refine j_lconst (x := 1) dX9_drive_2 (by decide) ?_
  refine j_ldc2 dX9_drive_3 cL_RX9_117 ?_
  refine j_callS (as := [.long ((v1 : Int32).toInt64), .long 1, .long 10]) (fun x => some (.int x)) (fun _ => h) dX9_drive_6 ml_RX9_56 tg_X9_in st_X9_in (fun x hx => kX9_in κ.1 κ.2.1 ((v1 : Int32).toInt64) 1 10 h x hx) (by decide) (by decide) rfl rfl (Nat.le_of_ble_eq_true rfl) (fun x1 => ?_)
  show xJ iX9_drive κ _ 9 [(0, .ref v0), (1, .int v1)] [.int x1] h _
  refine j_if_ne (tgt := 19) dX9_drive_9 (by decide) (fun c2 => ?_) (fun c2 => ?_)
  · refine j_aload_n 0 dX9_drive_12 rfl rfl ?_
    refine j_bipush (x := (-2)) dX9_drive_13 (by decide) ?_
    refine j_callV (as := [.int (-2)]) (fun x => some (.int x.1)) (fun x => x.2) 9 18 dX9_drive_15 ml_RX9_64 tg_X9_bad im_X9_bad se_X9_bad rfl (by decide) (fun x hx => kX9_bad κ.1 κ.2.1 v0 (-2) h x hx) (by decide) (by decide) rfl rfl (Nat.le_of_ble_eq_true rfl) (fun q3 => ?_)
    show xJ iX9_drive κ _ 18 [(0, .ref v0), (1, .int v1)] [.int q3.1] q3.2 _
    exact j_iret (q3.1, q3.2) dX9_drive_18 rfl (fun q => q)
  · refine j_aload_n 0 dX9_drive_19 rfl rfl ?_
    refine j_getR 9 18 0 dX9_drive_20 fl_RX9_7 (by decide) rfl (by decide) (fun _ _ _ => rfl) (fun x4 => ?_)
    refine j_iconst (x := 3) dX9_drive_23 (by decide) ?_
    refine j_iald dX9_drive_24 (fun x5 => ?_)
    refine j_iload_n 1 dX9_drive_25 rfl rfl ?_
    refine j_iadd dX9_drive_26 ?_
    refine j_bipush (x := 10) dX9_drive_27 (by decide) ?_
    refine j_icmp_le (tgt := 37) dX9_drive_29 (by decide) (fun c6 => ?_) (fun c6 => ?_)
    · refine j_aload_n 0 dX9_drive_37 rfl rfl ?_
      refine j_getR 9 18 0 dX9_drive_38 fl_RX9_7 (by decide) rfl (by decide) (fun _ _ _ => rfl) (fun x7 => ?_)
      refine j_bipush (x := 7) dX9_drive_41 (by decide) ?_
      refine j_iald dX9_drive_43 (fun x8 => ?_)
      refine j_istore_n (L' := [(2, .int x8), (0, .ref v0), (1, .int v1)]) dX9_drive_44 rfl (Nat.le_of_ble_eq_true rfl) rfl ?_
      refine j_aload_n 1 dX9_drive_45 rfl rfl ?_
      refine j_callV (as := []) (fun _ => none) (fun x => x) 9 18 dX9_drive_46 ml_RX9_122 tg_X9_keep im_X9_keep se_X9_keep rfl (by decide) (fun x hx => kX9_keep κ.1 κ.2.1 v0 h x hx) (by decide) (by decide) rfl rfl (Nat.le_of_ble_eq_true rfl) (fun h9 => ?_)
      show xJ iX9_drive κ _ 49 [(2, .int x8), (0, .ref v0), (1, .int v1)] [] h9 _
      refine j_aload_n 1 dX9_drive_49 rfl rfl ?_
      refine j_callV (as := []) (fun _ => none) (fun x => x) 9 18 dX9_drive_50 ml_RX9_90 tg_X9_layHand im_X9_layHand se_X9_layHand rfl (by decide) (fun x hx => kX9_layHand κ.1 κ.2.1 v0 h9 x hx) (by decide) (by decide) rfl rfl (Nat.le_of_ble_eq_true rfl) (fun h10 => ?_)
      show xJ iX9_drive κ _ 53 [(2, .int x8), (0, .ref v0), (1, .int v1)] [] h10 _
      refine j_aload_n 1 dX9_drive_53 rfl rfl ?_
      refine j_aload_n 1 dX9_drive_54 rfl rfl ?_
      refine j_getR 9 18 0 dX9_drive_55 fl_RX9_7 (by decide) rfl (by decide) (fun _ _ _ => rfl) (fun x11 => ?_)
      refine j_iconst (x := 3) dX9_drive_58 (by decide) ?_
      refine j_iald dX9_drive_59 (fun x12 => ?_)
      refine j_iload_n 2 dX9_drive_60 rfl rfl ?_
      refine j_iadd dX9_drive_61 ?_
      refine j_callV (as := [.int (x12 + v1)]) (fun _ => none) (fun x => x) 9 18 dX9_drive_62 ml_RX9_125 tg_X9_goTill im_X9_goTill se_X9_goTill rfl (by decide) (fun x hx => kX9_goTill κ.1 κ.2.1 v0 (x12 + v1) h10 x hx) (by decide) (by decide) rfl rfl (Nat.le_of_ble_eq_true rfl) (fun h13 => ?_)
      show xJ iX9_drive κ _ 65 [(2, .int x8), (0, .ref v0), (1, .int v1)] [] h13 _
      refine j_iconst (x := 0) dX9_drive_65 (by decide) ?_
      refine j_istore_n (L' := [(3, .int 0), (2, .int x8), (0, .ref v0), (1, .int v1)]) dX9_drive_66 rfl (Nat.le_of_ble_eq_true rfl) rfl ?_
      refine j_pick [2, 1, 0] rfl ?_
      refine j_loop (pc := 67) (Lf := fun s67 : Int32 × Hp => [(0, .ref v0), (2, .int x8), (3, .int s67.1)]) (Hf := fun s67 : Int32 × Hp => s67.2) (fun s67 => ?_) 1000000 (0, h13)
      show xJ iX9_drive κ _ 67 [(0, .ref v0), (2, .int x8), (3, .int s67.1)] [] s67.2 (fX9_drive_b67 v0 x8 s67)
      unfold fX9_drive_b67
      refine j_iload_n 2 dX9_drive_67 rfl rfl ?_
      refine j_iconst (x := 5) dX9_drive_68 (by decide) ?_
      refine j_icmp_ge (tgt := 94) dX9_drive_69 (by decide) (fun c14 => ?_) (fun c14 => ?_)
      · refine j_exit (v0, x8, s67.2) ?_
        show xJ iX9_drive κ _ _ _ _ _ ((xgR s67.2 v0 (9, 18) 0).bind fun x15 => (xaI s67.2 x15 10 7).bind fun x16 => some (x16 - x8, s67.2))
        refine j_aload_n 0 dX9_drive_94 rfl rfl ?_
        refine j_getR 9 18 0 dX9_drive_95 fl_RX9_7 (by decide) rfl (by decide) (fun _ _ _ => rfl) (fun x15 => ?_)
        refine j_bipush (x := 7) dX9_drive_98 (by decide) ?_
        refine j_iald dX9_drive_100 (fun x16 => ?_)
        refine j_iload_n 1 dX9_drive_101 rfl rfl ?_
        refine j_isub dX9_drive_102 ?_
        exact j_iret (x16 - x8, s67.2) dX9_drive_103 rfl (fun q => q)
      · refine j_aload_n 0 dX9_drive_72 rfl rfl ?_
        refine j_getR 9 18 0 dX9_drive_73 fl_RX9_7 (by decide) rfl (by decide) (fun _ _ _ => rfl) (fun x17 => ?_)
        refine j_iconst (x := 3) dX9_drive_76 (by decide) ?_
        refine j_iload_n 2 dX9_drive_77 rfl rfl ?_
        refine j_iadd dX9_drive_78 ?_
        refine j_aload_n 0 dX9_drive_79 rfl rfl ?_
        refine j_getR 9 18 6 dX9_drive_80 fl_RX9_27 (by decide) rfl (by decide) (fun _ _ _ => rfl) (fun x18 => ?_)
        refine j_iconst (x := 3) dX9_drive_83 (by decide) ?_
        refine j_iload_n 2 dX9_drive_84 rfl rfl ?_
        refine j_iadd dX9_drive_85 ?_
        refine j_iald dX9_drive_86 (fun x19 => ?_)
        refine j_iast dX9_drive_87 (fun h20 => ?_)
        refine j_iinc (y := s67.1 + 1) (L' := [(3, .int (s67.1 + 1)), (0, .ref v0), (2, .int x8)]) 2 dX9_drive_88 rfl rfl (Nat.le_of_ble_eq_true rfl) rfl ?_
        refine j_goto (tgt := 67) dX9_drive_91 (by decide) ?_
        refine j_pick [1, 2, 0] rfl ?_
        exact j_again (s67.1 + 1, h20) rfl rfl
    · refine j_aload_n 0 dX9_drive_32 rfl rfl ?_
      refine j_callV (as := []) (fun x => some (.int x.1)) (fun x => x.2) 9 18 dX9_drive_33 ml_RX9_119 tg_X9_no im_X9_no se_X9_no rfl (by decide) (fun x hx => kX9_no κ.1 κ.2.1 v0 h x hx) (by decide) (by decide) rfl rfl (Nat.le_of_ble_eq_true rfl) (fun q21 => ?_)
      show xJ iX9_drive κ _ 36 [(0, .ref v0), (1, .int v1)] [.int q21.1] q21.2 _
      exact j_iret (q21.1, q21.2) dX9_drive_36 rfl (fun q => q)
def fX8_puts (v0 : Nat) (v1 : Int32) (h : Hp) : Option (Int32 × Hp) :=
  (xgR h v0 (8, 12) 0).bind fun x1 => (xat h x1 (0, 16) (fX0_has x1 v1 h)).bind fun x2 => if (x2 : Int32) = 0 then ((xat h v0 (8, 12) (fX8_refuseBad v0 h)).bind fun q4 => some (q4.1, q4.2)) else ((xgR h v0 (8, 12) 0).bind fun x5 => (xgR h x5 (0, 16) 13).bind fun x6 => (xgI h x6 (5, 5) 1).bind fun x7 => (fX8_bit x7 v1 h).bind fun x8 => if (x8 : Int32) = 0 then ((xat h v0 (8, 12) (fX8_refuseNo v0 h)).bind fun q10 => some (q10.1, q10.2)) else ((xgR h v0 (8, 12) 0).bind fun x11 => (xat h x11 (0, 16) (fX0_remember x11 h)).bind fun h12 => (xgR h12 v0 (8, 12) 0).bind fun x13 => (xgR h12 x13 (0, 16) 13).bind fun x14 => (xgI h12 x14 (5, 5) 1).bind fun x15 => (xpI h12 x14 (5, 5) 1 (x15 &&& ((1 <<< (v1 &&& 31)) ^^^ (-1)))).bind fun h16 => (xgR h16 v0 (8, 12) 0).bind fun x17 => (xgR h16 x17 (0, 16) 13).bind fun x18 => (xgI h16 x18 (5, 5) 1).bind fun x19 => (fJ6_bitCount_0f7a4 x19 h16).bind fun x20 => some (x20, h16)))
abbrev iX8_puts : xI := (cX8_puts, yX8_puts.cls, yX8_puts.name, some .int, 2, 4)
set_option maxHeartbeats 4000000 in
set_option maxRecDepth 100000 in
theorem kX8_puts (l : Launch) (η : xEnv) (v0 : Nat) (v1 : Int32) (h : Hp) (x : Int32 × Hp) (hx : fX8_puts v0 v1 h = some x) : xC l η yX8_puts cX8_puts 2 (some .int) 4 [.ref v0, .int v1] h (some (.int x.1)) x.2 := by
  refine xC_of (by decide) (Nat.le_of_ble_eq_true rfl) hx (fun κ x => κ.2.2.2.1 = some (.int x.1) ∧ κ.2.2.2.2 = x.2) ⟨rfl, rfl⟩ (fun κ => ?_)
  show xJ iX8_puts κ _ 0 [(0, .ref v0), (1, .int v1)] [] h (fX8_puts v0 v1 h)
  unfold fX8_puts
  refine j_aload_n 0 dX8_puts_0 rfl rfl ?_
  refine j_getR 8 12 0 dX8_puts_1 fl_RX8_12 (by decide) rfl (by decide) (fun _ _ _ => rfl) (fun x1 => ?_)
  refine j_iload_n 1 dX8_puts_4 rfl rfl ?_
  refine j_callV (as := [.int v1]) (fun x => some (.int x)) (fun _ => h) 0 16 dX8_puts_5 ml_RX8_162 tg_X0_has im_X0_has se_X0_has rfl (by decide) (fun x hx => kX0_has κ.1 κ.2.1 x1 v1 h x hx) (by decide) (by decide) rfl rfl (Nat.le_of_ble_eq_true rfl) (fun x2 => ?_)
  show xJ iX8_puts κ _ 8 [(0, .ref v0), (1, .int v1)] [.int x2] h _
  refine j_if_ne (tgt := 16) dX8_puts_8 (by decide) (fun c3 => ?_) (fun c3 => ?_)
  · refine j_aload_n 0 dX8_puts_11 rfl rfl ?_
    refine j_callV (as := []) (fun x => some (.int x.1)) (fun x => x.2) 8 12 dX8_puts_12 ml_RX8_70 tg_X8_refuseBad im_X8_refuseBad se_X8_refuseBad rfl (by decide) (fun x hx => kX8_refuseBad κ.1 κ.2.1 v0 h x hx) (by decide) (by decide) rfl rfl (Nat.le_of_ble_eq_true rfl) (fun q4 => ?_)
    show xJ iX8_puts κ _ 15 [(0, .ref v0), (1, .int v1)] [.int q4.1] q4.2 _
    exact j_iret (q4.1, q4.2) dX8_puts_15 rfl (fun q => q)
  · refine j_aload_n 0 dX8_puts_16 rfl rfl ?_
    refine j_getR 8 12 0 dX8_puts_17 fl_RX8_12 (by decide) rfl (by decide) (fun _ _ _ => rfl) (fun x5 => ?_)
    refine j_getR 0 16 13 dX8_puts_20 fl_RX8_137 (by decide) rfl (by decide) (fun _ _ _ => rfl) (fun x6 => ?_)
    refine j_getI 5 5 1 dX8_puts_23 fl_RX8_166 (by decide) rfl (by decide) rfl (fun x7 => ?_)
    refine j_iload_n 1 dX8_puts_26 rfl rfl ?_
    refine j_callS (as := [.int x7, .int v1]) (fun x => some (.int x)) (fun _ => h) dX8_puts_27 ml_RX8_105 tg_X8_bit st_X8_bit (fun x hx => kX8_bit κ.1 κ.2.1 x7 v1 h x hx) (by decide) (by decide) rfl rfl (Nat.le_of_ble_eq_true rfl) (fun x8 => ?_)
    show xJ iX8_puts κ _ 30 [(0, .ref v0), (1, .int v1)] [.int x8] h _
    refine j_if_ne (tgt := 38) dX8_puts_30 (by decide) (fun c9 => ?_) (fun c9 => ?_)
    · refine j_aload_n 0 dX8_puts_33 rfl rfl ?_
      refine j_callV (as := []) (fun x => some (.int x.1)) (fun x => x.2) 8 12 dX8_puts_34 ml_RX8_146 tg_X8_refuseNo im_X8_refuseNo se_X8_refuseNo rfl (by decide) (fun x hx => kX8_refuseNo κ.1 κ.2.1 v0 h x hx) (by decide) (by decide) rfl rfl (Nat.le_of_ble_eq_true rfl) (fun q10 => ?_)
      show xJ iX8_puts κ _ 37 [(0, .ref v0), (1, .int v1)] [.int q10.1] q10.2 _
      exact j_iret (q10.1, q10.2) dX8_puts_37 rfl (fun q => q)
    · refine j_aload_n 0 dX8_puts_38 rfl rfl ?_
      refine j_getR 8 12 0 dX8_puts_39 fl_RX8_12 (by decide) rfl (by decide) (fun _ _ _ => rfl) (fun x11 => ?_)
      refine j_callV (as := []) (fun _ => none) (fun x => x) 0 16 dX8_puts_42 ml_RX8_152 tg_X0_remember im_X0_remember se_X0_remember rfl (by decide) (fun x hx => kX0_remember κ.1 κ.2.1 x11 h x hx) (by decide) (by decide) rfl rfl (Nat.le_of_ble_eq_true rfl) (fun h12 => ?_)
      show xJ iX8_puts κ _ 45 [(0, .ref v0), (1, .int v1)] [] h12 _
      refine j_aload_n 0 dX8_puts_45 rfl rfl ?_
      refine j_getR 8 12 0 dX8_puts_46 fl_RX8_12 (by decide) rfl (by decide) (fun _ _ _ => rfl) (fun x13 => ?_)
      refine j_getR 0 16 13 dX8_puts_49 fl_RX8_137 (by decide) rfl (by decide) (fun _ _ _ => rfl) (fun x14 => ?_)
      refine j_dup dX8_puts_52 rfl ?_
      refine j_getI 5 5 1 dX8_puts_53 fl_RX8_166 (by decide) rfl (by decide) rfl (fun x15 => ?_)
      refine j_iconst (x := 1) dX8_puts_56 (by decide) ?_
      refine j_iload_n 1 dX8_puts_57 rfl rfl ?_
      refine j_ishl dX8_puts_58 ?_
      refine j_iconst (x := (-1)) dX8_puts_59 (by decide) ?_
      refine j_ixor dX8_puts_60 ?_
      refine j_iand dX8_puts_61 ?_
      refine j_putI 5 5 1 dX8_puts_62 fl_RX8_166 (by decide) rfl (by decide) rfl rfl (fun h16 => ?_)
      refine j_aload_n 0 dX8_puts_65 rfl rfl ?_
      refine j_getR 8 12 0 dX8_puts_66 fl_RX8_12 (by decide) rfl (by decide) (fun _ _ _ => rfl) (fun x17 => ?_)
      refine j_getR 0 16 13 dX8_puts_69 fl_RX8_137 (by decide) rfl (by decide) (fun _ _ _ => rfl) (fun x18 => ?_)
      refine j_getI 5 5 1 dX8_puts_72 fl_RX8_166 (by decide) rfl (by decide) rfl (fun x19 => ?_)
      refine j_callS (as := [.int x19]) (fun x => some (.int x)) (fun _ => h16) dX8_puts_75 ml_RX8_169 tg_J6_bitCount_0f7a4 st_J6_bitCount_0f7a4 (fun x hx => kJ6_bitCount_0f7a4 κ.1 κ.2.1 x19 h16 x hx) (by decide) (by decide) rfl rfl (Nat.le_of_ble_eq_true rfl) (fun x20 => ?_)
      show xJ iX8_puts κ _ 78 [(0, .ref v0), (1, .int v1)] [.int x20] h16 _
      exact j_iret (x20, h16) dX8_puts_78 rfl (fun q => q)
def fX9_puts (v0 : Nat) (v1 : Int32) (h : Hp) : Option (Int32 × Hp) :=
  (xat h v0 (9, 18) (fX9_isIdea v0 v1 h)).bind fun x1 => if (x1 : Int32) = 0 then ((xat h v0 (9, 18) (fX9_bad v0 (-2) h)).bind fun q3 => some (q3.1, q3.2)) else ((xgR h v0 (9, 18) 0).bind fun x4 => (xaI h x4 10 4).bind fun x5 => (fX9_has x5 v1 h).bind fun x6 => if (x6 : Int32) = 0 then ((xat h v0 (9, 18) (fX9_no v0 h)).bind fun q8 => some (q8.1, q8.2)) else ((xat h v0 (9, 18) (fX9_keep v0 h)).bind fun h9 => (xgR h9 v0 (9, 18) 0).bind fun x10 => (xaI h9 x10 10 4).bind fun x11 => (xsI h9 x10 4 (x11 &&& ((1 <<< (v1 &&& 31)) ^^^ (-1)))).bind fun h12 => (xgR h12 v0 (9, 18) 0).bind fun x13 => (xaI h12 x13 10 4).bind fun x14 => (fX9_bits x14 h12).bind fun x15 => some (x15, h12)))
abbrev iX9_puts : xI := (cX9_puts, yX9_puts.cls, yX9_puts.name, some .int, 2, 4)
set_option maxHeartbeats 4000000 in
set_option maxRecDepth 100000 in
theorem kX9_puts (l : Launch) (η : xEnv) (v0 : Nat) (v1 : Int32) (h : Hp) (x : Int32 × Hp) (hx : fX9_puts v0 v1 h = some x) : xC l η yX9_puts cX9_puts 2 (some .int) 4 [.ref v0, .int v1] h (some (.int x.1)) x.2 := by
  refine xC_of (by decide) (Nat.le_of_ble_eq_true rfl) hx (fun κ x => κ.2.2.2.1 = some (.int x.1) ∧ κ.2.2.2.2 = x.2) ⟨rfl, rfl⟩ (fun κ => ?_)
  show xJ iX9_puts κ _ 0 [(0, .ref v0), (1, .int v1)] [] h (fX9_puts v0 v1 h)
  unfold fX9_puts
  refine j_aload_n 0 dX9_puts_0 rfl rfl ?_
  refine j_iload_n 1 dX9_puts_1 rfl rfl ?_
  refine j_callV (as := [.int v1]) (fun x => some (.int x)) (fun _ => h) 9 18 dX9_puts_2 ml_RX9_83 tg_X9_isIdea im_X9_isIdea se_X9_isIdea rfl (by decide) (fun x hx => kX9_isIdea κ.1 κ.2.1 v0 v1 h x hx) (by decide) (by decide) rfl rfl (Nat.le_of_ble_eq_true rfl) (fun x1 => ?_)
  show xJ iX9_puts κ _ 5 [(0, .ref v0), (1, .int v1)] [.int x1] h _
  refine j_if_ne (tgt := 15) dX9_puts_5 (by decide) (fun c2 => ?_) (fun c2 => ?_)
  · refine j_aload_n 0 dX9_puts_8 rfl rfl ?_
    refine j_bipush (x := (-2)) dX9_puts_9 (by decide) ?_
    refine j_callV (as := [.int (-2)]) (fun x => some (.int x.1)) (fun x => x.2) 9 18 dX9_puts_11 ml_RX9_64 tg_X9_bad im_X9_bad se_X9_bad rfl (by decide) (fun x hx => kX9_bad κ.1 κ.2.1 v0 (-2) h x hx) (by decide) (by decide) rfl rfl (Nat.le_of_ble_eq_true rfl) (fun q3 => ?_)
    show xJ iX9_puts κ _ 14 [(0, .ref v0), (1, .int v1)] [.int q3.1] q3.2 _
    exact j_iret (q3.1, q3.2) dX9_puts_14 rfl (fun q => q)
  · refine j_aload_n 0 dX9_puts_15 rfl rfl ?_
    refine j_getR 9 18 0 dX9_puts_16 fl_RX9_7 (by decide) rfl (by decide) (fun _ _ _ => rfl) (fun x4 => ?_)
    refine j_iconst (x := 4) dX9_puts_19 (by decide) ?_
    refine j_iald dX9_puts_20 (fun x5 => ?_)
    refine j_iload_n 1 dX9_puts_21 rfl rfl ?_
    refine j_callS (as := [.int x5, .int v1]) (fun x => some (.int x)) (fun _ => h) dX9_puts_22 ml_RX9_97 tg_X9_has st_X9_has (fun x hx => kX9_has κ.1 κ.2.1 x5 v1 h x hx) (by decide) (by decide) rfl rfl (Nat.le_of_ble_eq_true rfl) (fun x6 => ?_)
    show xJ iX9_puts κ _ 25 [(0, .ref v0), (1, .int v1)] [.int x6] h _
    refine j_if_ne (tgt := 33) dX9_puts_25 (by decide) (fun c7 => ?_) (fun c7 => ?_)
    · refine j_aload_n 0 dX9_puts_28 rfl rfl ?_
      refine j_callV (as := []) (fun x => some (.int x.1)) (fun x => x.2) 9 18 dX9_puts_29 ml_RX9_119 tg_X9_no im_X9_no se_X9_no rfl (by decide) (fun x hx => kX9_no κ.1 κ.2.1 v0 h x hx) (by decide) (by decide) rfl rfl (Nat.le_of_ble_eq_true rfl) (fun q8 => ?_)
      show xJ iX9_puts κ _ 32 [(0, .ref v0), (1, .int v1)] [.int q8.1] q8.2 _
      exact j_iret (q8.1, q8.2) dX9_puts_32 rfl (fun q => q)
    · refine j_aload_n 0 dX9_puts_33 rfl rfl ?_
      refine j_callV (as := []) (fun _ => none) (fun x => x) 9 18 dX9_puts_34 ml_RX9_122 tg_X9_keep im_X9_keep se_X9_keep rfl (by decide) (fun x hx => kX9_keep κ.1 κ.2.1 v0 h x hx) (by decide) (by decide) rfl rfl (Nat.le_of_ble_eq_true rfl) (fun h9 => ?_)
      show xJ iX9_puts κ _ 37 [(0, .ref v0), (1, .int v1)] [] h9 _
      refine j_aload_n 0 dX9_puts_37 rfl rfl ?_
      refine j_getR 9 18 0 dX9_puts_38 fl_RX9_7 (by decide) rfl (by decide) (fun _ _ _ => rfl) (fun x10 => ?_)
      refine j_iconst (x := 4) dX9_puts_41 (by decide) ?_
      refine j_dup2 dX9_puts_42 rfl rfl ?_
      refine j_iald dX9_puts_43 (fun x11 => ?_)
      refine j_iconst (x := 1) dX9_puts_44 (by decide) ?_
      refine j_iload_n 1 dX9_puts_45 rfl rfl ?_
      refine j_ishl dX9_puts_46 ?_
      refine j_iconst (x := (-1)) dX9_puts_47 (by decide) ?_
      refine j_ixor dX9_puts_48 ?_
      refine j_iand dX9_puts_49 ?_
      refine j_iast dX9_puts_50 (fun h12 => ?_)
      refine j_aload_n 0 dX9_puts_51 rfl rfl ?_
      refine j_getR 9 18 0 dX9_puts_52 fl_RX9_7 (by decide) rfl (by decide) (fun _ _ _ => rfl) (fun x13 => ?_)
      refine j_iconst (x := 4) dX9_puts_55 (by decide) ?_
      refine j_iald dX9_puts_56 (fun x14 => ?_)
      refine j_callS (as := [.int x14]) (fun x => some (.int x)) (fun _ => h12) dX9_puts_57 ml_RX9_105 tg_X9_bits st_X9_bits (fun x hx => kX9_bits κ.1 κ.2.1 x14 h12 x hx) (by decide) (by decide) rfl rfl (Nat.le_of_ble_eq_true rfl) (fun x15 => ?_)
      show xJ iX9_puts κ _ 60 [(0, .ref v0), (1, .int v1)] [.int x15] h12 _
      exact j_iret (x15, h12) dX9_puts_60 rfl (fun q => q)
