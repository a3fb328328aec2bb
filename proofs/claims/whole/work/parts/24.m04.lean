def fX4_readBus_j32  (h : Hp) : Option (Int32 × Hp) :=
  some (0, h)
def fX4_readBus_b41 (v0 : Nat) (s41 : Int32 × Hp) : Option ((Int32 × Hp) ⊕ ((Hp) ⊕ (Hp) ⊕ (Hp))) :=
  if (150 : Int32) ≤ s41.1 then (some (Sum.inr (Sum.inr (Sum.inr s41.2)))) else ((xat s41.2 v0 (4, 8) (fX4_step v0 s41.2)).bind fun h11 => (xgI h11 v0 (4, 8) 6).bind fun x12 => if (x12 : Int32) = 0 then (some (Sum.inr (Sum.inl h11))) else ((xat h11 v0 (4, 8) (fX4_readItem v0 h11)).bind fun q14 => if (q14.1 : Int32) = 0 then (some (Sum.inr (Sum.inr (Sum.inl q14.2)))) else ((xgI q14.2 v0 (4, 8) 3).bind fun x16 => (xpI q14.2 v0 (4, 8) 3 (x16 + 1)).bind fun h17 => some (Sum.inl (s41.1 + 1, h17)))))
def fX4_readBus (v0 : Nat) (h : Hp) : Option (Int32 × Hp) :=
  (xgR h v0 (4, 8) 2).bind fun x1 => (xat h x1 (0, 16) (fX0_startAnew x1 h)).bind fun h2 => (xpI h2 v0 (4, 8) 5 0).bind fun h3 => (xat h3 v0 (4, 8) (fX4_step v0 h3)).bind fun h4 => (xat h4 v0 (4, 8) (fX4_isWord v0 0 h4)).bind fun x5 => if (x5 : Int32) = 0 then (fX4_readBus_j32 h4) else ((xat h4 v0 (4, 8) (fX4_readRoom v0 h4)).bind fun q7 => if (q7.1 : Int32) = 0 then (fX4_readBus_j32 q7.2) else ((xpI q7.2 v0 (4, 8) 3 1).bind fun h9 => (xloop (fX4_readBus_b41 v0) 1000000 (0, h9)).bind (fun q => match q with | .inl r41 => (some (1, r41)) | .inr (.inl r41) => (some (0, r41)) | .inr (.inr r41) => (some (1, r41)))))
abbrev iX4_readBus : xI := (cX4_readBus, yX4_readBus.cls, yX4_readBus.name, some .boolean, 2, 12)
set_option maxHeartbeats 4000000 in
set_option maxRecDepth 100000 in
theorem kX4_readBus (l : Launch) (η : xEnv) (v0 : Nat) (h : Hp) (x : Int32 × Hp) (hx : fX4_readBus v0 h = some x) : xC l η yX4_readBus cX4_readBus 2 (some .boolean) 12 [.ref v0] h (some (.int x.1)) x.2 := by
  refine xC_of (by decide) (Nat.le_of_ble_eq_true rfl) hx (fun κ x => κ.2.2.2.1 = some (.int x.1) ∧ κ.2.2.2.2 = x.2) ⟨rfl, rfl⟩ (fun κ => ?_)
  show xJ iX4_readBus κ _ 0 [(0, .ref v0)] [] h (fX4_readBus v0 h)
  unfold fX4_readBus
  refine j_have (pj := 32) (Lf := fun v : Hp => []) (Sf := fun v : Hp => []) (Hf := fun v : Hp => v) (jf := fun v : Hp => fX4_readBus_j32 v) (fun v => ?_) (fun hj32 => ?_)
  · generalize v = h
    show xJ iX4_readBus κ _ 32 [] [] h (fX4_readBus_j32 h)
    unfold fX4_readBus_j32
    refine j_iconst (x := 0) dX4_readBus_32 (by decide) ?_
    exact j_zret (0, h) dX4_readBus_33 rfl rfl (fun q => q)
  refine j_aload_n 0 dX4_readBus_0 rfl rfl ?_
  refine j_getR 4 8 2 dX4_readBus_1 fl_RX4_18 (by decide) rfl (by decide) (fun _ _ _ => rfl) (fun x1 => ?_)
  refine j_callV (as := []) (fun _ => none) (fun x => x) 0 16 dX4_readBus_4 ml_RX4_26 tg_X0_startAnew im_X0_startAnew se_X0_startAnew rfl (by decide) (fun x hx => kX0_startAnew κ.1 κ.2.1 x1 h x hx) (by decide) (by decide) rfl rfl (Nat.le_of_ble_eq_true rfl) (fun h2 => ?_)
  show xJ iX4_readBus κ _ 7 [(0, .ref v0)] [] h2 _
  refine j_aload_n 0 dX4_readBus_7 rfl rfl ?_
  refine j_iconst (x := 0) dX4_readBus_8 (by decide) ?_
  refine j_putI 4 8 5 dX4_readBus_9 fl_RX4_29 (by decide) rfl (by decide) rfl rfl (fun h3 => ?_)
  refine j_aload_n 0 dX4_readBus_12 rfl rfl ?_
  refine j_callV (as := []) (fun _ => none) (fun x => x) 4 8 dX4_readBus_13 ml_RX4_32 tg_X4_step im_X4_step se_X4_step rfl (by decide) (fun x hx => kX4_step κ.1 κ.2.1 v0 h3 x hx) (by decide) (by decide) rfl rfl (Nat.le_of_ble_eq_true rfl) (fun h4 => ?_)
  show xJ iX4_readBus κ _ 16 [(0, .ref v0)] [] h4 _
  refine j_aload_n 0 dX4_readBus_16 rfl rfl ?_
  refine j_lds 0 dX4_readBus_17 (fun U hU => ⟨_, hU.2.2.2.1.1⟩) ?_
  refine j_callV (as := [.float 0]) (fun x => some (.int x)) (fun _ => h4) 4 8 dX4_readBus_19 ml_RX4_37 tg_X4_isWord im_X4_isWord se_X4_isWord rfl (by decide) (fun x hx => kX4_isWord κ.1 κ.2.1 v0 0 h4 x hx) (by decide) (by decide) rfl rfl (Nat.le_of_ble_eq_true rfl) (fun x5 => ?_)
  show xJ iX4_readBus κ _ 22 [(0, .ref v0)] [.int x5] h4 _
  refine j_if_eq (tgt := 32) dX4_readBus_22 (by decide) (fun c6 => ?_) (fun c6 => ?_)
  · refine j_pick [] rfl ?_
    exact hj32 h4
  · refine j_aload_n 0 dX4_readBus_25 rfl rfl ?_
    refine j_callV (as := []) (fun x => some (.int x.1)) (fun x => x.2) 4 8 dX4_readBus_26 ml_RX4_41 tg_X4_readRoom im_X4_readRoom se_X4_readRoom rfl (by decide) (fun x hx => kX4_readRoom κ.1 κ.2.1 v0 h4 x hx) (by decide) (by decide) rfl rfl (Nat.le_of_ble_eq_true rfl) (fun q7 => ?_)
    show xJ iX4_readBus κ _ 29 [(0, .ref v0)] [.int q7.1] q7.2 _
    refine j_if_ne (tgt := 34) dX4_readBus_29 (by decide) (fun c8 => ?_) (fun c8 => ?_)
    · refine j_pick [] rfl ?_
      exact hj32 q7.2
    · refine j_aload_n 0 dX4_readBus_34 rfl rfl ?_
      refine j_iconst (x := 1) dX4_readBus_35 (by decide) ?_
      refine j_putI 4 8 3 dX4_readBus_36 fl_RX4_45 (by decide) rfl (by decide) rfl rfl (fun h9 => ?_)
      refine j_iconst (x := 0) dX4_readBus_39 (by decide) ?_
      refine j_istore_n (L' := [(1, .int 0), (0, .ref v0)]) dX4_readBus_40 rfl (Nat.le_of_ble_eq_true rfl) rfl ?_
      refine j_pick [1, 0] rfl ?_
      refine j_loop (pc := 41) (Lf := fun s41 : Int32 × Hp => [(0, .ref v0), (1, .int s41.1)]) (Hf := fun s41 : Int32 × Hp => s41.2) (fun s41 => ?_) 1000000 (0, h9)
      show xJ iX4_readBus κ _ 41 [(0, .ref v0), (1, .int s41.1)] [] s41.2 (fX4_readBus_b41 v0 s41)
      unfold fX4_readBus_b41
      refine j_iload_n 1 dX4_readBus_41 rfl rfl ?_
      refine j_sipush (x := 150) dX4_readBus_42 (by decide) ?_
      refine j_icmp_ge (tgt := 86) dX4_readBus_45 (by decide) (fun c10 => ?_) (fun c10 => ?_)
      · refine j_exit (Sum.inr (Sum.inr s41.2)) ?_
        try dsimp only
        refine j_iconst (x := 1) dX4_readBus_86 (by decide) ?_
        exact j_zret (1, s41.2) dX4_readBus_87 rfl rfl (fun q => q)
      · refine j_aload_n 0 dX4_readBus_48 rfl rfl ?_
        refine j_callV (as := []) (fun _ => none) (fun x => x) 4 8 dX4_readBus_49 ml_RX4_32 tg_X4_step im_X4_step se_X4_step rfl (by decide) (fun x hx => kX4_step κ.1 κ.2.1 v0 s41.2 x hx) (by decide) (by decide) rfl rfl (Nat.le_of_ble_eq_true rfl) (fun h11 => ?_)
        show xJ iX4_readBus κ _ 52 [(0, .ref v0), (1, .int s41.1)] [] h11 _
        refine j_aload_n 0 dX4_readBus_52 rfl rfl ?_
        refine j_getI 4 8 6 dX4_readBus_53 fl_RX4_48 (by decide) rfl (by decide) rfl (fun x12 => ?_)
        refine j_if_ne (tgt := 61) dX4_readBus_56 (by decide) (fun c13 => ?_) (fun c13 => ?_)
        · refine j_exit (Sum.inl h11) ?_
          try dsimp only
          refine j_iconst (x := 1) dX4_readBus_59 (by decide) ?_
          exact j_zret (1, h11) dX4_readBus_60 rfl rfl (fun q => q)
        · refine j_aload_n 0 dX4_readBus_61 rfl rfl ?_
          refine j_callV (as := []) (fun x => some (.int x.1)) (fun x => x.2) 4 8 dX4_readBus_62 ml_RX4_51 tg_X4_readItem im_X4_readItem se_X4_readItem rfl (by decide) (fun x hx => kX4_readItem κ.1 κ.2.1 v0 h11 x hx) (by decide) (by decide) rfl rfl (Nat.le_of_ble_eq_true rfl) (fun q14 => ?_)
          show xJ iX4_readBus κ _ 65 [(0, .ref v0), (1, .int s41.1)] [.int q14.1] q14.2 _
          refine j_if_ne (tgt := 70) dX4_readBus_65 (by decide) (fun c15 => ?_) (fun c15 => ?_)
          · refine j_exit (Sum.inr (Sum.inl q14.2)) ?_
            try dsimp only
            refine j_iconst (x := 0) dX4_readBus_68 (by decide) ?_
            exact j_zret (0, q14.2) dX4_readBus_69 rfl rfl (fun q => q)
          · refine j_aload_n 0 dX4_readBus_70 rfl rfl ?_
            refine j_dup dX4_readBus_71 rfl ?_
            refine j_getI 4 8 3 dX4_readBus_72 fl_RX4_45 (by decide) rfl (by decide) rfl (fun x16 => ?_)
            refine j_iconst (x := 1) dX4_readBus_75 (by decide) ?_
            refine j_iadd dX4_readBus_76 ?_
            refine j_putI 4 8 3 dX4_readBus_77 fl_RX4_45 (by decide) rfl (by decide) rfl rfl (fun h17 => ?_)
            refine j_iinc (y := s41.1 + 1) (L' := [(1, .int (s41.1 + 1)), (0, .ref v0)]) 1 dX4_readBus_80 rfl rfl (Nat.le_of_ble_eq_true rfl) rfl ?_
            refine j_goto (tgt := 41) dX4_readBus_83 (by decide) ?_
            refine j_pick [1, 0] rfl ?_
            exact j_again (s41.1 + 1, h17) rfl rfl
def fX5_take (v0 : Nat) (v1 : Nat) (h : Hp) : Option (Hp) :=
  (xgI h v1 (5, 5) 0).bind fun x1 => (xpI h v0 (5, 5) 0 x1).bind fun h2 => (xgI h2 v1 (5, 5) 1).bind fun x3 => (xpI h2 v0 (5, 5) 1 x3).bind fun h4 => (xgI h4 v1 (5, 5) 2).bind fun x5 => (xpI h4 v0 (5, 5) 2 x5).bind fun h6 => (xgI h6 v1 (5, 5) 3).bind fun x7 => (xpI h6 v0 (5, 5) 3 x7).bind fun h8 => (xgI h8 v1 (5, 5) 4).bind fun x9 => (xpI h8 v0 (5, 5) 4 x9).bind fun h10 => some h10
abbrev iX5_take : xI := (cX5_take, yX5_take.cls, yX5_take.name, none, 2, 2)
set_option maxHeartbeats 4000000 in
set_option maxRecDepth 100000 in
theorem kX5_take (l : Launch) (η : xEnv) (v0 : Nat) (v1 : Nat) (h : Hp) (x : Hp) (hx : fX5_take v0 v1 h = some x) : xC l η yX5_take cX5_take 2 none 2 [.ref v0, .ref v1] h none x := by
  refine xC_of (by decide) (Nat.le_of_ble_eq_true rfl) hx (fun κ x => κ.2.2.2.1 = none ∧ κ.2.2.2.2 = x) ⟨rfl, rfl⟩ (fun κ => ?_)
  show xJ iX5_take κ _ 0 [(0, .ref v0), (1, .ref v1)] [] h (fX5_take v0 v1 h)
  unfold fX5_take
  refine j_aload_n 0 dX5_take_0 rfl rfl ?_
  refine j_aload_n 1 dX5_take_1 rfl rfl ?_
  refine j_getI 5 5 0 dX5_take_2 fl_RX5_7 (by decide) rfl (by decide) rfl (fun x1 => ?_)
  refine j_putI 5 5 0 dX5_take_5 fl_RX5_7 (by decide) rfl (by decide) rfl rfl (fun h2 => ?_)
  refine j_aload_n 0 dX5_take_8 rfl rfl ?_
  refine j_aload_n 1 dX5_take_9 rfl rfl ?_
  refine j_getI 5 5 1 dX5_take_10 fl_RX5_13 (by decide) rfl (by decide) rfl (fun x3 => ?_)
  refine j_putI 5 5 1 dX5_take_13 fl_RX5_13 (by decide) rfl (by decide) rfl rfl (fun h4 => ?_)
  refine j_aload_n 0 dX5_take_16 rfl rfl ?_
  refine j_aload_n 1 dX5_take_17 rfl rfl ?_
  refine j_getI 5 5 2 dX5_take_18 fl_RX5_16 (by decide) rfl (by decide) rfl (fun x5 => ?_)
  refine j_putI 5 5 2 dX5_take_21 fl_RX5_16 (by decide) rfl (by decide) rfl rfl (fun h6 => ?_)
  refine j_aload_n 0 dX5_take_24 rfl rfl ?_
  refine j_aload_n 1 dX5_take_25 rfl rfl ?_
  refine j_getI 5 5 3 dX5_take_26 fl_RX5_19 (by decide) rfl (by decide) rfl (fun x7 => ?_)
  refine j_putI 5 5 3 dX5_take_29 fl_RX5_19 (by decide) rfl (by decide) rfl rfl (fun h8 => ?_)
  refine j_aload_n 0 dX5_take_32 rfl rfl ?_
  refine j_aload_n 1 dX5_take_33 rfl rfl ?_
  refine j_getI 5 5 4 dX5_take_34 fl_RX5_22 (by decide) rfl (by decide) rfl (fun x9 => ?_)
  refine j_putI 5 5 4 dX5_take_37 fl_RX5_22 (by decide) rfl (by decide) rfl rfl (fun h10 => ?_)
  exact j_vret h10 dX5_take_40 rfl (fun q => q)
def fX0_take_b195 (v0 : Nat) (v1 : Nat) (s195 : Int32 × Hp) : Option ((Int32 × Hp) ⊕ ((Hp))) :=
  if (8 : Int32) ≤ s195.1 then (some (Sum.inr s195.2)) else ((xgR s195.2 v0 (0, 16) 14).bind fun x43 => (xaR s195.2 x43 13 s195.1).bind fun x44 => (xgR s195.2 v1 (0, 16) 14).bind fun x45 => (xaR s195.2 x45 13 s195.1).bind fun x46 => (xat s195.2 x44 (5, 5) (fX5_take x44 x46 s195.2)).bind fun h47 => some (Sum.inl (s195.1 + 1, h47)))
def fX0_take (v0 : Nat) (v1 : Nat) (h : Hp) : Option (Hp) :=
  (xgI h v1 (0, 16) 0).bind fun x1 => (xpI h v0 (0, 16) 0 x1).bind fun h2 => (xgR h2 v1 (0, 16) 1).bind fun x3 => (xgR h2 v0 (0, 16) 1).bind fun x4 => (xcp h2 x3 0 x4 0 10).bind fun h5 => (xgI h5 v1 (0, 16) 2).bind fun x6 => (xpI h5 v0 (0, 16) 2 x6).bind fun h7 => (xgR h7 v1 (0, 16) 3).bind fun x8 => (xgR h7 v0 (0, 16) 3).bind fun x9 => (xcp h7 x8 0 x9 0 7).bind fun h10 => (xgR h10 v1 (0, 16) 4).bind fun x11 => (xgR h10 v0 (0, 16) 4).bind fun x12 => (xcp h10 x11 0 x12 0 7).bind fun h13 => (xgR h13 v1 (0, 16) 5).bind fun x14 => (xgR h13 v0 (0, 16) 5).bind fun x15 => (xcp h13 x14 0 x15 0 7).bind fun h16 => (xgR h16 v1 (0, 16) 6).bind fun x17 => (xgR h16 v0 (0, 16) 6).bind fun x18 => (xcp h16 x17 0 x18 0 7).bind fun h19 => (xgR h19 v1 (0, 16) 7).bind fun x20 => (xgR h19 v0 (0, 16) 7).bind fun x21 => (xcp h19 x20 0 x21 0 7).bind fun h22 => (xgI h22 v1 (0, 16) 8).bind fun x23 => (xpI h22 v0 (0, 16) 8 x23).bind fun h24 => (xgR h24 v1 (0, 16) 9).bind fun x25 => (xgR h24 v0 (0, 16) 9).bind fun x26 => (xcp h24 x25 0 x26 0 6).bind fun h27 => (xgR h27 v1 (0, 16) 10).bind fun x28 => (xgR h27 v0 (0, 16) 10).bind fun x29 => (xcp h27 x28 0 x29 0 6).bind fun h30 => (xgR h30 v1 (0, 16) 11).bind fun x31 => (xgR h30 v0 (0, 16) 11).bind fun x32 => (xcp h30 x31 0 x32 0 6).bind fun h33 => (xgR h33 v1 (0, 16) 12).bind fun x34 => (xgR h33 v0 (0, 16) 12).bind fun x35 => (xcp h33 x34 0 x35 0 6).bind fun h36 => (xgR h36 v0 (0, 16) 13).bind fun x37 => (xgR h36 v1 (0, 16) 13).bind fun x38 => (xat h36 x37 (5, 5) (fX5_take x37 x38 h36)).bind fun h39 => (xgI h39 v1 (0, 16) 15).bind fun x40 => (xpI h39 v0 (0, 16) 15 x40).bind fun h41 => (xloop (fX0_take_b195 v0 v1) 1000000 (0, h41)).bind (fun r195 => some r195)
abbrev iX0_take : xI := (cX0_take, yX0_take.cls, yX0_take.name, none, 3, 3)
set_option maxHeartbeats 4000000 in
set_option maxRecDepth 100000 in
theorem kX0_take (l : Launch) (η : xEnv) (v0 : Nat) (v1 : Nat) (h : Hp) (x : Hp) (hx : fX0_take v0 v1 h = some x) : xC l η yX0_take cX0_take 3 none 3 [.ref v0, .ref v1] h none x := by
  refine xC_of (by decide) (Nat.le_of_ble_eq_true rfl) hx (fun κ x => κ.2.2.2.1 = none ∧ κ.2.2.2.2 = x) ⟨rfl, rfl⟩ (fun κ => ?_)
  show xJ iX0_take κ _ 0 [(0, .ref v0), (1, .ref v1)] [] h (fX0_take v0 v1 h)
  unfold fX0_take
  refine j_aload_n 0 dX0_take_0 rfl rfl ?_
  refine j_aload_n 1 dX0_take_1 rfl rfl ?_
  refine j_getI 0 16 0 dX0_take_2 fl_RX0_9 (by decide) rfl (by decide) rfl (fun x1 => ?_)
  refine j_putI 0 16 0 dX0_take_5 fl_RX0_9 (by decide) rfl (by decide) rfl rfl (fun h2 => ?_)
  refine j_aload_n 1 dX0_take_8 rfl rfl ?_
  refine j_getR 0 16 1 dX0_take_9 fl_RX0_15 (by decide) rfl (by decide) (fun _ _ _ => rfl) (fun x3 => ?_)
  refine j_iconst (x := 0) dX0_take_12 (by decide) ?_
  refine j_aload_n 0 dX0_take_13 rfl rfl ?_
  refine j_getR 0 16 1 dX0_take_14 fl_RX0_15 (by decide) rfl (by decide) (fun _ _ _ => rfl) (fun x4 => ?_)
  refine j_iconst (x := 0) dX0_take_17 (by decide) ?_
  refine j_bipush (x := 10) dX0_take_18 (by decide) ?_
  refine j_copy dX0_take_20 ml_RX0_69 nt_copy st_copy in_System (Nat.le_of_ble_eq_true rfl) (by decide) (fun h5 => ?_)
  refine j_aload_n 0 dX0_take_23 rfl rfl ?_
  refine j_aload_n 1 dX0_take_24 rfl rfl ?_
  refine j_getI 0 16 2 dX0_take_25 fl_RX0_57 (by decide) rfl (by decide) rfl (fun x6 => ?_)
  refine j_putI 0 16 2 dX0_take_28 fl_RX0_57 (by decide) rfl (by decide) rfl rfl (fun h7 => ?_)
  refine j_aload_n 1 dX0_take_31 rfl rfl ?_
  refine j_getR 0 16 3 dX0_take_32 fl_RX0_19 (by decide) rfl (by decide) (fun _ _ _ => rfl) (fun x8 => ?_)
  refine j_iconst (x := 0) dX0_take_35 (by decide) ?_
  refine j_aload_n 0 dX0_take_36 rfl rfl ?_
  refine j_getR 0 16 3 dX0_take_37 fl_RX0_19 (by decide) rfl (by decide) (fun _ _ _ => rfl) (fun x9 => ?_)
  refine j_iconst (x := 0) dX0_take_40 (by decide) ?_
  refine j_bipush (x := 7) dX0_take_41 (by decide) ?_
  refine j_copy dX0_take_43 ml_RX0_69 nt_copy st_copy in_System (Nat.le_of_ble_eq_true rfl) (by decide) (fun h10 => ?_)
  refine j_aload_n 1 dX0_take_46 rfl rfl ?_
  refine j_getR 0 16 4 dX0_take_47 fl_RX0_22 (by decide) rfl (by decide) (fun _ _ _ => rfl) (fun x11 => ?_)
  refine j_iconst (x := 0) dX0_take_50 (by decide) ?_
  refine j_aload_n 0 dX0_take_51 rfl rfl ?_
  refine j_getR 0 16 4 dX0_take_52 fl_RX0_22 (by decide) rfl (by decide) (fun _ _ _ => rfl) (fun x12 => ?_)
  refine j_iconst (x := 0) dX0_take_55 (by decide) ?_
  refine j_bipush (x := 7) dX0_take_56 (by decide) ?_
  refine j_copy dX0_take_58 ml_RX0_69 nt_copy st_copy in_System (Nat.le_of_ble_eq_true rfl) (by decide) (fun h13 => ?_)
  refine j_aload_n 1 dX0_take_61 rfl rfl ?_
  refine j_getR 0 16 5 dX0_take_62 fl_RX0_25 (by decide) rfl (by decide) (fun _ _ _ => rfl) (fun x14 => ?_)
  refine j_iconst (x := 0) dX0_take_65 (by decide) ?_
  refine j_aload_n 0 dX0_take_66 rfl rfl ?_
  refine j_getR 0 16 5 dX0_take_67 fl_RX0_25 (by decide) rfl (by decide) (fun _ _ _ => rfl) (fun x15 => ?_)
  refine j_iconst (x := 0) dX0_take_70 (by decide) ?_
  refine j_bipush (x := 7) dX0_take_71 (by decide) ?_
  refine j_copy dX0_take_73 ml_RX0_69 nt_copy st_copy in_System (Nat.le_of_ble_eq_true rfl) (by decide) (fun h16 => ?_)
  refine j_aload_n 1 dX0_take_76 rfl rfl ?_
  refine j_getR 0 16 6 dX0_take_77 fl_RX0_28 (by decide) rfl (by decide) (fun _ _ _ => rfl) (fun x17 => ?_)
  refine j_iconst (x := 0) dX0_take_80 (by decide) ?_
  refine j_aload_n 0 dX0_take_81 rfl rfl ?_
  refine j_getR 0 16 6 dX0_take_82 fl_RX0_28 (by decide) rfl (by decide) (fun _ _ _ => rfl) (fun x18 => ?_)
  refine j_iconst (x := 0) dX0_take_85 (by decide) ?_
  refine j_bipush (x := 7) dX0_take_86 (by decide) ?_
  refine j_copy dX0_take_88 ml_RX0_69 nt_copy st_copy in_System (Nat.le_of_ble_eq_true rfl) (by decide) (fun h19 => ?_)
  refine j_aload_n 1 dX0_take_91 rfl rfl ?_
  refine j_getR 0 16 7 dX0_take_92 fl_RX0_31 (by decide) rfl (by decide) (fun _ _ _ => rfl) (fun x20 => ?_)
  refine j_iconst (x := 0) dX0_take_95 (by decide) ?_
  refine j_aload_n 0 dX0_take_96 rfl rfl ?_
  refine j_getR 0 16 7 dX0_take_97 fl_RX0_31 (by decide) rfl (by decide) (fun _ _ _ => rfl) (fun x21 => ?_)
  refine j_iconst (x := 0) dX0_take_100 (by decide) ?_
  refine j_bipush (x := 7) dX0_take_101 (by decide) ?_
  refine j_copy dX0_take_103 ml_RX0_69 nt_copy st_copy in_System (Nat.le_of_ble_eq_true rfl) (by decide) (fun h22 => ?_)
  refine j_aload_n 0 dX0_take_106 rfl rfl ?_
  refine j_aload_n 1 dX0_take_107 rfl rfl ?_
  refine j_getI 0 16 8 dX0_take_108 fl_RX0_60 (by decide) rfl (by decide) rfl (fun x23 => ?_)
  refine j_putI 0 16 8 dX0_take_111 fl_RX0_60 (by decide) rfl (by decide) rfl rfl (fun h24 => ?_)
  refine j_aload_n 1 dX0_take_114 rfl rfl ?_
  refine j_getR 0 16 9 dX0_take_115 fl_RX0_34 (by decide) rfl (by decide) (fun _ _ _ => rfl) (fun x25 => ?_)
  refine j_iconst (x := 0) dX0_take_118 (by decide) ?_
  refine j_aload_n 0 dX0_take_119 rfl rfl ?_
  refine j_getR 0 16 9 dX0_take_120 fl_RX0_34 (by decide) rfl (by decide) (fun _ _ _ => rfl) (fun x26 => ?_)
  refine j_iconst (x := 0) dX0_take_123 (by decide) ?_
  refine j_bipush (x := 6) dX0_take_124 (by decide) ?_
  refine j_copy dX0_take_126 ml_RX0_69 nt_copy st_copy in_System (Nat.le_of_ble_eq_true rfl) (by decide) (fun h27 => ?_)
  refine j_aload_n 1 dX0_take_129 rfl rfl ?_
  refine j_getR 0 16 10 dX0_take_130 fl_RX0_37 (by decide) rfl (by decide) (fun _ _ _ => rfl) (fun x28 => ?_)
  refine j_iconst (x := 0) dX0_take_133 (by decide) ?_
  refine j_aload_n 0 dX0_take_134 rfl rfl ?_
  refine j_getR 0 16 10 dX0_take_135 fl_RX0_37 (by decide) rfl (by decide) (fun _ _ _ => rfl) (fun x29 => ?_)
  refine j_iconst (x := 0) dX0_take_138 (by decide) ?_
  refine j_bipush (x := 6) dX0_take_139 (by decide) ?_
  refine j_copy dX0_take_141 ml_RX0_69 nt_copy st_copy in_System (Nat.le_of_ble_eq_true rfl) (by decide) (fun h30 => ?_)
  refine j_aload_n 1 dX0_take_144 rfl rfl ?_
  refine j_getR 0 16 11 dX0_take_145 fl_RX0_40 (by decide) rfl (by decide) (fun _ _ _ => rfl) (fun x31 => ?_)
  refine j_iconst (x := 0) dX0_take_148 (by decide) ?_
  refine j_aload_n 0 dX0_take_149 rfl rfl ?_
  refine j_getR 0 16 11 dX0_take_150 fl_RX0_40 (by decide) rfl (by decide) (fun _ _ _ => rfl) (fun x32 => ?_)
  refine j_iconst (x := 0) dX0_take_153 (by decide) ?_
  refine j_bipush (x := 6) dX0_take_154 (by decide) ?_
  refine j_copy dX0_take_156 ml_RX0_69 nt_copy st_copy in_System (Nat.le_of_ble_eq_true rfl) (by decide) (fun h33 => ?_)
  refine j_aload_n 1 dX0_take_159 rfl rfl ?_
  refine j_getR 0 16 12 dX0_take_160 fl_RX0_43 (by decide) rfl (by decide) (fun _ _ _ => rfl) (fun x34 => ?_)
  refine j_iconst (x := 0) dX0_take_163 (by decide) ?_
  refine j_aload_n 0 dX0_take_164 rfl rfl ?_
  refine j_getR 0 16 12 dX0_take_165 fl_RX0_43 (by decide) rfl (by decide) (fun _ _ _ => rfl) (fun x35 => ?_)
  refine j_iconst (x := 0) dX0_take_168 (by decide) ?_
  refine j_bipush (x := 6) dX0_take_169 (by decide) ?_
  refine j_copy dX0_take_171 ml_RX0_69 nt_copy st_copy in_System (Nat.le_of_ble_eq_true rfl) (by decide) (fun h36 => ?_)
  refine j_aload_n 0 dX0_take_174 rfl rfl ?_
  refine j_getR 0 16 13 dX0_take_175 fl_RX0_49 (by decide) rfl (by decide) (fun _ _ _ => rfl) (fun x37 => ?_)
  refine j_aload_n 1 dX0_take_178 rfl rfl ?_
  refine j_getR 0 16 13 dX0_take_179 fl_RX0_49 (by decide) rfl (by decide) (fun _ _ _ => rfl) (fun x38 => ?_)
  refine j_callV (as := [.ref x38]) (fun _ => none) (fun x => x) 5 5 dX0_take_182 ml_RX0_75 tg_X5_take im_X5_take se_X5_take rfl (by decide) (fun x hx => kX5_take κ.1 κ.2.1 x37 x38 h36 x hx) (by decide) (by decide) rfl rfl (Nat.le_of_ble_eq_true rfl) (fun h39 => ?_)
  show xJ iX0_take κ _ 185 [(0, .ref v0), (1, .ref v1)] [] h39 _
  refine j_aload_n 0 dX0_take_185 rfl rfl ?_
  refine j_aload_n 1 dX0_take_186 rfl rfl ?_
  refine j_getI 0 16 15 dX0_take_187 fl_RX0_66 (by decide) rfl (by decide) rfl (fun x40 => ?_)
  refine j_putI 0 16 15 dX0_take_190 fl_RX0_66 (by decide) rfl (by decide) rfl rfl (fun h41 => ?_)
  refine j_iconst (x := 0) dX0_take_193 (by decide) ?_
  refine j_istore_n (L' := [(2, .int 0), (0, .ref v0), (1, .ref v1)]) dX0_take_194 rfl (Nat.le_of_ble_eq_true rfl) rfl ?_
  refine j_pick [1, 2, 0] rfl ?_
  refine j_loop (pc := 195) (Lf := fun s195 : Int32 × Hp => [(0, .ref v0), (1, .ref v1), (2, .int s195.1)]) (Hf := fun s195 : Int32 × Hp => s195.2) (fun s195 => ?_) 1000000 (0, h41)
  show xJ iX0_take κ _ 195 [(0, .ref v0), (1, .ref v1), (2, .int s195.1)] [] s195.2 (fX0_take_b195 v0 v1 s195)
  unfold fX0_take_b195
  refine j_iload_n 2 dX0_take_195 rfl rfl ?_
  refine j_bipush (x := 8) dX0_take_196 (by decide) ?_
  refine j_icmp_ge (tgt := 222) dX0_take_198 (by decide) (fun c42 => ?_) (fun c42 => ?_)
  · refine j_exit s195.2 ?_
    show xJ iX0_take κ _ _ _ _ _ (some s195.2)
    exact j_vret s195.2 dX0_take_222 rfl (fun q => q)
  · refine j_aload_n 0 dX0_take_201 rfl rfl ?_
    refine j_getR 0 16 14 dX0_take_202 fl_RX0_53 (by decide) rfl (by decide) (fun _ _ _ => rfl) (fun x43 => ?_)
    refine j_iload_n 2 dX0_take_205 rfl rfl ?_
    refine j_aald13 dX0_take_206 (fun x44 => ?_)
    refine j_aload_n 1 dX0_take_207 rfl rfl ?_
    refine j_getR 0 16 14 dX0_take_208 fl_RX0_53 (by decide) rfl (by decide) (fun _ _ _ => rfl) (fun x45 => ?_)
    refine j_iload_n 2 dX0_take_211 rfl rfl ?_
    refine j_aald13 dX0_take_212 (fun x46 => ?_)
    refine j_callV (as := [.ref x46]) (fun _ => none) (fun x => x) 5 5 dX0_take_213 ml_RX0_75 tg_X5_take im_X5_take se_X5_take rfl (by decide) (fun x hx => kX5_take κ.1 κ.2.1 x44 x46 s195.2 x hx) (by decide) (by decide) rfl rfl (Nat.le_of_ble_eq_true rfl) (fun h47 => ?_)
    show xJ iX0_take κ _ 216 [(0, .ref v0), (1, .ref v1), (2, .int s195.1)] [] h47 _
    refine j_iinc (y := s195.1 + 1) (L' := [(2, .int (s195.1 + 1)), (0, .ref v0), (1, .ref v1)]) 2 dX0_take_216 rfl rfl (Nat.le_of_ble_eq_true rfl) rfl ?_
    refine j_goto (tgt := 195) dX0_take_219 (by decide) ?_
    refine j_pick [1, 2, 0] rfl ?_
    exact j_again (s195.1 + 1, h47) rfl rfl
def fX8_read (v0 : Nat) (h : Hp) : Option (Int32 × Hp) :=
  (xgR h v0 (8, 12) 8).bind fun x1 => (xat h x1 (4, 8) (fX4_readBus x1 h)).bind fun q2 => if (q2.1 : Int32) = 0 then ((xgR q2.2 v0 (8, 12) 8).bind fun x4 => (xgI q2.2 x4 (4, 8) 4).bind fun x5 => some ((-10) - x5, q2.2)) else ((xgR q2.2 v0 (8, 12) 0).bind fun x6 => (xgR q2.2 v0 (8, 12) 8).bind fun x7 => (xgR q2.2 x7 (4, 8) 2).bind fun x8 => (xat q2.2 x6 (0, 16) (fX0_take x6 x8 q2.2)).bind fun h9 => (xgR h9 v0 (8, 12) 8).bind fun x10 => (xgI h9 x10 (4, 8) 3).bind fun x11 => some (x11, h9))
abbrev iX8_read : xI := (cX8_read, yX8_read.cls, yX8_read.name, some .int, 1, 13)
set_option maxHeartbeats 4000000 in
set_option maxRecDepth 100000 in
theorem kX8_read (l : Launch) (η : xEnv) (v0 : Nat) (h : Hp) (x : Int32 × Hp) (hx : fX8_read v0 h = some x) : xC l η yX8_read cX8_read 1 (some .int) 13 [.ref v0] h (some (.int x.1)) x.2 := by
  refine xC_of (by decide) (Nat.le_of_ble_eq_true rfl) hx (fun κ x => κ.2.2.2.1 = some (.int x.1) ∧ κ.2.2.2.2 = x.2) ⟨rfl, rfl⟩ (fun κ => ?_)
  show xJ iX8_read κ _ 0 [(0, .ref v0)] [] h (fX8_read v0 h)
  unfold fX8_read
  refine j_aload_n 0 dX8_read_0 rfl rfl ?_
  refine j_getR 8 12 8 dX8_read_1 fl_RX8_62 (by decide) rfl (by decide) (fun _ _ _ => rfl) (fun x1 => ?_)
  refine j_callV (as := []) (fun x => some (.int x.1)) (fun x => x.2) 4 8 dX8_read_4 ml_RX8_120 tg_X4_readBus im_X4_readBus se_X4_readBus rfl (by decide) (fun x hx => kX4_readBus κ.1 κ.2.1 x1 h x hx) (by decide) (by decide) rfl rfl (Nat.le_of_ble_eq_true rfl) (fun q2 => ?_)
  show xJ iX8_read κ _ 7 [(0, .ref v0)] [.int q2.1] q2.2 _
  refine j_if_ne (tgt := 21) dX8_read_7 (by decide) (fun c3 => ?_) (fun c3 => ?_)
  · refine j_bipush (x := (-10)) dX8_read_10 (by decide) ?_
    refine j_aload_n 0 dX8_read_12 rfl rfl ?_
    refine j_getR 8 12 8 dX8_read_13 fl_RX8_62 (by decide) rfl (by decide) (fun _ _ _ => rfl) (fun x4 => ?_)
    refine j_getI 4 8 4 dX8_read_16 fl_RX8_124 (by decide) rfl (by decide) rfl (fun x5 => ?_)
    refine j_isub dX8_read_19 ?_
    exact j_iret ((-10) - x5, q2.2) dX8_read_20 rfl (fun q => q)
  · refine j_aload_n 0 dX8_read_21 rfl rfl ?_
    refine j_getR 8 12 0 dX8_read_22 fl_RX8_12 (by decide) rfl (by decide) (fun _ _ _ => rfl) (fun x6 => ?_)
    refine j_aload_n 0 dX8_read_25 rfl rfl ?_
    refine j_getR 8 12 8 dX8_read_26 fl_RX8_62 (by decide) rfl (by decide) (fun _ _ _ => rfl) (fun x7 => ?_)
    refine j_getR 4 8 2 dX8_read_29 fl_RX8_127 (by decide) rfl (by decide) (fun _ _ _ => rfl) (fun x8 => ?_)
    refine j_callV (as := [.ref x8]) (fun _ => none) (fun x => x) 0 16 dX8_read_32 ml_RX8_130 tg_X0_take im_X0_take se_X0_take rfl (by decide) (fun x hx => kX0_take κ.1 κ.2.1 x6 x8 q2.2 x hx) (by decide) (by decide) rfl rfl (Nat.le_of_ble_eq_true rfl) (fun h9 => ?_)
    show xJ iX8_read κ _ 35 [(0, .ref v0)] [] h9 _
    refine j_aload_n 0 dX8_read_35 rfl rfl ?_
    refine j_getR 8 12 8 dX8_read_36 fl_RX8_62 (by decide) rfl (by decide) (fun _ _ _ => rfl) (fun x10 => ?_)
    refine j_getI 4 8 3 dX8_read_39 fl_RX8_134 (by decide) rfl (by decide) rfl (fun x11 => ?_)
    exact j_iret (x11, h9) dX8_read_42 rfl (fun q => q)
def fX9_isSmall (v0 : Int32) (h : Hp) : Option (Int32) :=
  (fX9_in ((v0 : Int32).toInt64) 97 122 h).bind fun x1 => if vp_nar .boolean x1 = x1 then some x1 else none
abbrev iX9_isSmall : xI := (cX9_isSmall, yX9_isSmall.cls, yX9_isSmall.name, some .boolean, 1, 3)
set_option maxHeartbeats 4000000 in
set_option maxRecDepth 100000 in
theorem kX9_isSmall (l : Launch) (η : xEnv) (v0 : Int32) (h : Hp) (x : Int32) (hx : fX9_isSmall v0 h = some x) : xC l η yX9_isSmall cX9_isSmall 1 (some .boolean) 3 [.int v0] h (some (.int x)) h := by
  refine xC_of (by decide) (Nat.le_of_ble_eq_true rfl) hx (fun κ x => κ.2.2.2.1 = some (.int x) ∧ κ.2.2.2.2 = h) ⟨rfl, rfl⟩ (fun κ => ?_)
  show xJ iX9_isSmall κ _ 0 [(0, .int v0)] [] h (fX9_isSmall v0 h)
  unfold fX9_isSmall
  refine j_iload_n 0 dX9_isSmall_0 rfl rfl ?_
  refine j_i2l dX9_isSmall_1 ?_
  refine j_ldc2 dX9_isSmall_2 cL_RX9_195 ?_
  refine j_ldc2 dX9_isSmall_5 cL_RX9_197 ?_
  refine j_callS (as := [.long ((v0 : Int32).toInt64), .long 97, .long 122]) (fun x => some (.int x)) (fun _ => h) dX9_isSmall_8 ml_RX9_56 tg_X9_in st_X9_in (fun x hx => kX9_in κ.1 κ.2.1 ((v0 : Int32).toInt64) 97 122 h x hx) (by decide) (by decide) rfl rfl (Nat.le_of_ble_eq_true rfl) (fun x1 => ?_)
  show xJ iX9_isSmall κ _ 11 [(0, .int v0)] [.int x1] h _
  exact j_zretc x1 dX9_isSmall_11 rfl (fun q => q)
def fX9_isFigure (v0 : Int32) (h : Hp) : Option (Int32) :=
  (fX9_in ((v0 : Int32).toInt64) 48 57 h).bind fun x1 => if vp_nar .boolean x1 = x1 then some x1 else none
abbrev iX9_isFigure : xI := (cX9_isFigure, yX9_isFigure.cls, yX9_isFigure.name, some .boolean, 1, 3)
set_option maxHeartbeats 4000000 in
set_option maxRecDepth 100000 in
theorem kX9_isFigure (l : Launch) (η : xEnv) (v0 : Int32) (h : Hp) (x : Int32) (hx : fX9_isFigure v0 h = some x) : xC l η yX9_isFigure cX9_isFigure 1 (some .boolean) 3 [.int v0] h (some (.int x)) h := by
  refine xC_of (by decide) (Nat.le_of_ble_eq_true rfl) hx (fun κ x => κ.2.2.2.1 = some (.int x) ∧ κ.2.2.2.2 = h) ⟨rfl, rfl⟩ (fun κ => ?_)
  show xJ iX9_isFigure κ _ 0 [(0, .int v0)] [] h (fX9_isFigure v0 h)
  unfold fX9_isFigure
  refine j_iload_n 0 dX9_isFigure_0 rfl rfl ?_
  refine j_i2l dX9_isFigure_1 ?_
  refine j_ldc2 dX9_isFigure_2 cL_RX9_199 ?_
  refine j_ldc2 dX9_isFigure_5 cL_RX9_201 ?_
  refine j_callS (as := [.long ((v0 : Int32).toInt64), .long 48, .long 57]) (fun x => some (.int x)) (fun _ => h) dX9_isFigure_8 ml_RX9_56 tg_X9_in st_X9_in (fun x hx => kX9_in κ.1 κ.2.1 ((v0 : Int32).toInt64) 48 57 h x hx) (by decide) (by decide) rfl rfl (Nat.le_of_ble_eq_true rfl) (fun x1 => ?_)
  show xJ iX9_isFigure κ _ 11 [(0, .int v0)] [.int x1] h _
  exact j_zretc x1 dX9_isFigure_11 rfl (fun q => q)
def fX9_lookAt_j299 (t0 : Int32) (t1 : Nat) (h : Hp) : Option (Hp) :=
  (xpI h t1 (9, 18) 14 t0).bind fun h1 => some h1
def fX9_lookAt_j295 (v0 : Nat) (t0 : Nat) (h : Hp) : Option (Hp) :=
  (xgI h v0 (9, 18) 14).bind fun x2 => fX9_lookAt_j299 x2 t0 h
def fX9_lookAt_j274 (v0 : Nat) (h : Hp) : Option (Hp) :=
  (xgI h v0 (9, 18) 14).bind fun x3 => if (x3 : Int32) = 2 then ((xgI h v0 (9, 18) 13).bind fun x5 => if (x5 : Int32) ≤ 2 then (fX9_lookAt_j295 v0 v0 h) else (fX9_lookAt_j299 4 v0 h)) else (fX9_lookAt_j295 v0 v0 h)
def fX9_lookAt_b218 (v0 : Nat) (s218 : Int32 × Hp) : Option ((Int32 × Hp) ⊕ ((Nat × Hp))) :=
  (xgI s218.2 v0 (9, 18) 13).bind fun x7 => if (x7 : Int32) ≤ s218.1 then (some (Sum.inr (v0, s218.2))) else (if (2 : Int32) ≤ s218.1 then (some (Sum.inr (v0, s218.2))) else ((xgI s218.2 v0 (9, 18) 14).bind fun x10 => if (x10 : Int32) = 2 then ((xgI s218.2 v0 (9, 18) 15).bind fun x12 => (xgR s218.2 v0 (9, 18) 10).bind fun x13 => (xgI s218.2 v0 (9, 18) 12).bind fun x14 => (xaI s218.2 x13 10 (x14 + s218.1)).bind fun x15 => (xpI s218.2 v0 (9, 18) 15 (((10 * x12) + x15) - 48)).bind fun h16 => some (Sum.inl (s218.1 + 1, h16))) else (some (Sum.inr (v0, s218.2)))))
def fX9_lookAt_j215 (v0 : Nat) (h : Hp) : Option (Hp) :=
  (xloop (fX9_lookAt_b218 v0) 1000000 (0, h)).bind (fun r218 => fX9_lookAt_j274 r218.1 r218.2)
def fX9_lookAt_j208 (v0 : Nat) (v3 : Int32) (t0 : Int32) (t1 : Int32) (t2 : Nat) (h : Hp) : Option ((Int32 × Hp) ⊕ ((Nat × Hp))) :=
  (xpI h t2 (9, 18) 13 (t1 + t0)).bind fun h17 => some (Sum.inl (v3, h17))
def fX9_lookAt_j193 (v0 : Nat) (t0 : Int32) (h : Hp) : Option ((Int32 × Hp) ⊕ ((Nat × Hp))) :=
  (xgI h v0 (9, 18) 13).bind fun x18 => if (t0 : Int32) = 0 then (fX9_lookAt_j208 v0 t0 0 x18 v0 h) else (fX9_lookAt_j208 v0 t0 1 x18 v0 h)
def fX9_lookAt_b136 (v0 : Nat) (s136 : Int32 × Hp) : Option ((Int32 × Hp) ⊕ ((Nat × Hp))) :=
  if (s136.1 : Int32) = 0 then (some (Sum.inr (v0, s136.2))) else ((xgI s136.2 v0 (9, 18) 12).bind fun x21 => (xgI s136.2 v0 (9, 18) 13).bind fun x22 => (xgI s136.2 v0 (9, 18) 11).bind fun x23 => if (x23 : Int32) ≤ (x21 + x22) then (some (Sum.inr (v0, s136.2))) else ((xgR s136.2 v0 (9, 18) 10).bind fun x25 => (xgI s136.2 v0 (9, 18) 12).bind fun x26 => (xgI s136.2 v0 (9, 18) 13).bind fun x27 => (xaI s136.2 x25 10 (x26 + x27)).bind fun x28 => (xgI s136.2 v0 (9, 18) 14).bind fun x29 => if (x29 : Int32) = 1 then ((fX9_isSmall x28 s136.2).bind fun x31 => fX9_lookAt_j193 v0 x31 s136.2) else ((fX9_isFigure x28 s136.2).bind fun x32 => fX9_lookAt_j193 v0 x32 s136.2)))
def fX9_lookAt_j135 (v0 : Nat) (t0 : Int32) (h : Hp) : Option (Hp) :=
  (xloop (fX9_lookAt_b136 v0) 1000000 (t0, h)).bind (fun r136 => fX9_lookAt_j215 r136.1 r136.2)
def fX9_lookAt_j114 (v0 : Nat) (t0 : Int32) (t1 : Nat) (h : Hp) : Option (Hp) :=
  (xpI h t1 (9, 18) 14 t0).bind fun h33 => (xpI h33 v0 (9, 18) 13 1).bind fun h34 => (xgI h34 v0 (9, 18) 14).bind fun x35 => if (3 : Int32) ≤ x35 then (fX9_lookAt_j135 v0 0 h34) else (fX9_lookAt_j135 v0 1 h34)
def fX9_lookAt_j43 (v0 : Nat) (h : Hp) : Option (Hp) :=
  (xpI h v0 (9, 18) 13 0).bind fun h37 => (xpI h37 v0 (9, 18) 14 0).bind fun h38 => (xpI h38 v0 (9, 18) 15 0).bind fun h39 => (xgI h39 v0 (9, 18) 12).bind fun x40 => (xgI h39 v0 (9, 18) 11).bind fun x41 => if (x40 : Int32) = x41 then (some h39) else ((xgR h39 v0 (9, 18) 10).bind fun x43 => (xgI h39 v0 (9, 18) 12).bind fun x44 => (xaI h39 x43 10 x44).bind fun x45 => (fX9_isSmall x45 h39).bind fun x46 => if (x46 : Int32) = 0 then ((fX9_isFigure x45 h39).bind fun x48 => if (x48 : Int32) = 0 then (if (x45 : Int32) = 59 then (fX9_lookAt_j114 v0 3 v0 h39) else (fX9_lookAt_j114 v0 4 v0 h39)) else (fX9_lookAt_j114 v0 2 v0 h39)) else (fX9_lookAt_j114 v0 1 v0 h39))
def fX9_lookAt_b5 (v0 : Nat) (s5 : Hp) : Option ((Hp) ⊕ ((Nat × Hp))) :=
  (xgI s5 v0 (9, 18) 12).bind fun x52 => (xgI s5 v0 (9, 18) 11).bind fun x53 => if (x53 : Int32) ≤ x52 then (some (Sum.inr (v0, s5))) else ((xgR s5 v0 (9, 18) 10).bind fun x55 => (xgI s5 v0 (9, 18) 12).bind fun x56 => (xaI s5 x55 10 x56).bind fun x57 => if (x57 : Int32) = 32 then ((xgI s5 v0 (9, 18) 12).bind fun x59 => (xpI s5 v0 (9, 18) 12 (x59 + 1)).bind fun h60 => some (Sum.inl h60)) else (some (Sum.inr (v0, s5))))
def fX9_lookAt (v0 : Nat) (v1 : Int32) (h : Hp) : Option (Hp) :=
  (xpI h v0 (9, 18) 12 v1).bind fun h51 => (xloop (fX9_lookAt_b5 v0) 1000000 h51).bind (fun r5 => fX9_lookAt_j43 r5.1 r5.2)
abbrev iX9_lookAt : xI := (cX9_lookAt, yX9_lookAt.cls, yX9_lookAt.name, none, 5, 4)
set_option maxHeartbeats 4000000 in
set_option maxRecDepth 100000 in
theorem kX9_lookAt (l : Launch) (η : xEnv) (v0 : Nat) (v1 : Int32) (h : Hp) (x : Hp) (hx : fX9_lookAt v0 v1 h = some x) : xC l η yX9_lookAt cX9_lookAt 5 none 4 [.ref v0, .int v1] h none x := by
  refine xC_of (by decide) (Nat.le_of_ble_eq_true rfl) hx (fun κ x => κ.2.2.2.1 = none ∧ κ.2.2.2.2 = x) ⟨rfl, rfl⟩ (fun κ => ?_)
  show xJ iX9_lookAt κ _ 0 [(0, .ref v0), (1, .int v1)] [] h (fX9_lookAt v0 v1 h)
  unfold fX9_lookAt
  refine j_have (pj := 299) (Lf := fun v : Int32 × Nat × Hp => []) (Sf := fun v : Int32 × Nat × Hp => [.int v.1, .ref v.2.1]) (Hf := fun v : Int32 × Nat × Hp => v.2.2) (jf := fun v : Int32 × Nat × Hp => fX9_lookAt_j299 v.1 v.2.1 v.2.2) (fun v => ?_) (fun hj299 => ?_)
  · obtain ⟨t0, t1, h⟩ := v
    show xJ iX9_lookAt κ _ 299 [] [.int t0, .ref t1] h (fX9_lookAt_j299 t0 t1 h)
    unfold fX9_lookAt_j299
    refine j_putI 9 18 14 dX9_lookAt_299 fl_RX9_209 (by decide) rfl (by decide) rfl rfl (fun h1 => ?_)
    exact j_vret h1 dX9_lookAt_302 rfl (fun q => q)
  refine j_have (pj := 295) (Lf := fun v : Nat × Hp => [(0, .ref v0)]) (Sf := fun v : Nat × Hp => [.ref v.1]) (Hf := fun v : Nat × Hp => v.2) (jf := fun v : Nat × Hp => fX9_lookAt_j295 v0 v.1 v.2) (fun v => ?_) (fun hj295 => ?_)
  · obtain ⟨t0, h⟩ := v
    show xJ iX9_lookAt κ _ 295 [(0, .ref v0)] [.ref t0] h (fX9_lookAt_j295 v0 t0 h)
    unfold fX9_lookAt_j295
    refine j_aload_n 0 dX9_lookAt_295 rfl rfl ?_
    refine j_getI 9 18 14 dX9_lookAt_296 fl_RX9_209 (by decide) rfl (by decide) rfl (fun x2 => ?_)
    refine j_pick [] rfl ?_
    exact hj299 (x2, t0, h)
  refine j_have (pj := 274) (Lf := fun v : Hp => [(0, .ref v0)]) (Sf := fun v : Hp => []) (Hf := fun v : Hp => v) (jf := fun v : Hp => fX9_lookAt_j274 v0 v) (fun v => ?_) (fun hj274 => ?_)
  · generalize v = h
    show xJ iX9_lookAt κ _ 274 [(0, .ref v0)] [] h (fX9_lookAt_j274 v0 h)
    unfold fX9_lookAt_j274
    refine j_aload_n 0 dX9_lookAt_274 rfl rfl ?_
    refine j_aload_n 0 dX9_lookAt_275 rfl rfl ?_
    refine j_getI 9 18 14 dX9_lookAt_276 fl_RX9_209 (by decide) rfl (by decide) rfl (fun x3 => ?_)
    refine j_iconst (x := 2) dX9_lookAt_279 (by decide) ?_
    refine j_icmp_ne (tgt := 295) dX9_lookAt_280 (by decide) (fun c4 => ?_) (fun c4 => ?_)
    · refine j_aload_n 0 dX9_lookAt_283 rfl rfl ?_
      refine j_getI 9 18 13 dX9_lookAt_284 fl_RX9_206 (by decide) rfl (by decide) rfl (fun x5 => ?_)
      refine j_iconst (x := 2) dX9_lookAt_287 (by decide) ?_
      refine j_icmp_le (tgt := 295) dX9_lookAt_288 (by decide) (fun c6 => ?_) (fun c6 => ?_)
      · refine j_pick [0] rfl ?_
        exact hj295 (v0, h)
      · refine j_iconst (x := 4) dX9_lookAt_291 (by decide) ?_
        refine j_goto (tgt := 299) dX9_lookAt_292 (by decide) ?_
        refine j_pick [] rfl ?_
        exact hj299 (4, v0, h)
    · refine j_pick [0] rfl ?_
      exact hj295 (v0, h)
  refine j_have (pj := 215) (Lf := fun v : Hp => [(0, .ref v0)]) (Sf := fun v : Hp => []) (Hf := fun v : Hp => v) (jf := fun v : Hp => fX9_lookAt_j215 v0 v) (fun v => ?_) (fun hj215 => ?_)
  · generalize v = h
    show xJ iX9_lookAt κ _ 215 [(0, .ref v0)] [] h (fX9_lookAt_j215 v0 h)
    unfold fX9_lookAt_j215
    refine j_iconst (x := 0) dX9_lookAt_215 (by decide) ?_
    refine j_istore (L' := [(4, .int 0), (0, .ref v0)]) dX9_lookAt_216 (Nat.le_of_ble_eq_true rfl) rfl ?_
    refine j_pick [1, 0] rfl ?_
    refine j_loop (pc := 218) (Lf := fun s218 : Int32 × Hp => [(0, .ref v0), (4, .int s218.1)]) (Hf := fun s218 : Int32 × Hp => s218.2) (fun s218 => ?_) 1000000 (0, h)
    show xJ iX9_lookAt κ _ 218 [(0, .ref v0), (4, .int s218.1)] [] s218.2 (fX9_lookAt_b218 v0 s218)
    unfold fX9_lookAt_b218
    refine j_iload 1 dX9_lookAt_218 rfl ?_
    refine j_aload_n 0 dX9_lookAt_220 rfl rfl ?_
    refine j_getI 9 18 13 dX9_lookAt_221 fl_RX9_206 (by decide) rfl (by decide) rfl (fun x7 => ?_)
    refine j_icmp_ge (tgt := 274) dX9_lookAt_224 (by decide) (fun c8 => ?_) (fun c8 => ?_)
    · refine j_exit (v0, s218.2) ?_
      show xJ iX9_lookAt κ _ _ _ _ _ (fX9_lookAt_j274 v0 s218.2)
      refine j_pick [0] rfl ?_
      exact hj274 s218.2
    · refine j_iload 1 dX9_lookAt_227 rfl ?_
      refine j_iconst (x := 2) dX9_lookAt_229 (by decide) ?_
      refine j_icmp_ge (tgt := 274) dX9_lookAt_230 (by decide) (fun c9 => ?_) (fun c9 => ?_)
      · refine j_exit (v0, s218.2) ?_
        show xJ iX9_lookAt κ _ _ _ _ _ (fX9_lookAt_j274 v0 s218.2)
        refine j_pick [0] rfl ?_
        exact hj274 s218.2
      · refine j_aload_n 0 dX9_lookAt_233 rfl rfl ?_
        refine j_getI 9 18 14 dX9_lookAt_234 fl_RX9_209 (by decide) rfl (by decide) rfl (fun x10 => ?_)
        refine j_iconst (x := 2) dX9_lookAt_237 (by decide) ?_
        refine j_icmp_ne (tgt := 274) dX9_lookAt_238 (by decide) (fun c11 => ?_) (fun c11 => ?_)
        · refine j_aload_n 0 dX9_lookAt_241 rfl rfl ?_
          refine j_bipush (x := 10) dX9_lookAt_242 (by decide) ?_
          refine j_aload_n 0 dX9_lookAt_244 rfl rfl ?_
          refine j_getI 9 18 15 dX9_lookAt_245 fl_RX9_212 (by decide) rfl (by decide) rfl (fun x12 => ?_)
          refine j_imul dX9_lookAt_248 ?_
          refine j_aload_n 0 dX9_lookAt_249 rfl rfl ?_
          refine j_getR 9 18 10 dX9_lookAt_250 fl_RX9_39 (by decide) rfl (by decide) (fun _ _ _ => rfl) (fun x13 => ?_)
          refine j_aload_n 0 dX9_lookAt_253 rfl rfl ?_
          refine j_getI 9 18 12 dX9_lookAt_254 fl_RX9_203 (by decide) rfl (by decide) rfl (fun x14 => ?_)
          refine j_iload 1 dX9_lookAt_257 rfl ?_
          refine j_iadd dX9_lookAt_259 ?_
          refine j_iald dX9_lookAt_260 (fun x15 => ?_)
          refine j_iadd dX9_lookAt_261 ?_
          refine j_bipush (x := 48) dX9_lookAt_262 (by decide) ?_
          refine j_isub dX9_lookAt_264 ?_
          refine j_putI 9 18 15 dX9_lookAt_265 fl_RX9_212 (by decide) rfl (by decide) rfl rfl (fun h16 => ?_)
          refine j_iinc (y := s218.1 + 1) (L' := [(4, .int (s218.1 + 1)), (0, .ref v0)]) 1 dX9_lookAt_268 rfl rfl (Nat.le_of_ble_eq_true rfl) rfl ?_
          refine j_goto (tgt := 218) dX9_lookAt_271 (by decide) ?_
          refine j_pick [1, 0] rfl ?_
          exact j_again (s218.1 + 1, h16) rfl rfl
        · refine j_exit (v0, s218.2) ?_
          show xJ iX9_lookAt κ _ _ _ _ _ (fX9_lookAt_j274 v0 s218.2)
          refine j_pick [0] rfl ?_
          exact hj274 s218.2
  refine j_have (pj := 135) (Lf := fun v : Int32 × Hp => [(0, .ref v0)]) (Sf := fun v : Int32 × Hp => [.int v.1]) (Hf := fun v : Int32 × Hp => v.2) (jf := fun v : Int32 × Hp => fX9_lookAt_j135 v0 v.1 v.2) (fun v => ?_) (fun hj135 => ?_)
  · obtain ⟨t0, h⟩ := v
    show xJ iX9_lookAt κ _ 135 [(0, .ref v0)] [.int t0] h (fX9_lookAt_j135 v0 t0 h)
    unfold fX9_lookAt_j135
    refine j_istore_n (L' := [(3, .int t0), (0, .ref v0)]) dX9_lookAt_135 rfl (Nat.le_of_ble_eq_true rfl) rfl ?_
    refine j_pick [1, 0] rfl ?_
    refine j_loop (pc := 136) (Lf := fun s136 : Int32 × Hp => [(0, .ref v0), (3, .int s136.1)]) (Hf := fun s136 : Int32 × Hp => s136.2) (fun s136 => ?_) 1000000 (t0, h)
    show xJ iX9_lookAt κ _ 136 [(0, .ref v0), (3, .int s136.1)] [] s136.2 (fX9_lookAt_b136 v0 s136)
    unfold fX9_lookAt_b136
    refine j_have (pj := 208) (Lf := fun v : Int32 × Int32 × Int32 × Nat × Hp => [(0, .ref v0), (3, .int v.1)]) (Sf := fun v : Int32 × Int32 × Int32 × Nat × Hp => [.int v.2.1, .int v.2.2.1, .ref v.2.2.2.1]) (Hf := fun v : Int32 × Int32 × Int32 × Nat × Hp => v.2.2.2.2) (jf := fun v : Int32 × Int32 × Int32 × Nat × Hp => fX9_lookAt_j208 v0 v.1 v.2.1 v.2.2.1 v.2.2.2.1 v.2.2.2.2) (fun v => ?_) (fun hj208 => ?_)
    · obtain ⟨v3, t0, t1, t2, h⟩ := v
      show xJ iX9_lookAt κ _ 208 [(0, .ref v0), (3, .int v3)] [.int t0, .int t1, .ref t2] h (fX9_lookAt_j208 v0 v3 t0 t1 t2 h)
      unfold fX9_lookAt_j208
      refine j_iadd dX9_lookAt_208 ?_
      refine j_putI 9 18 13 dX9_lookAt_209 fl_RX9_206 (by decide) rfl (by decide) rfl rfl (fun h17 => ?_)
      refine j_goto (tgt := 136) dX9_lookAt_212 (by decide) ?_
      refine j_pick [0, 1] rfl ?_
      exact j_again (v3, h17) rfl rfl
    refine j_have (pj := 193) (Lf := fun v : Int32 × Hp => [(0, .ref v0)]) (Sf := fun v : Int32 × Hp => [.int v.1]) (Hf := fun v : Int32 × Hp => v.2) (jf := fun v : Int32 × Hp => fX9_lookAt_j193 v0 v.1 v.2) (fun v => ?_) (fun hj193 => ?_)
    · obtain ⟨t0, h⟩ := v
      show xJ iX9_lookAt κ _ 193 [(0, .ref v0)] [.int t0] h (fX9_lookAt_j193 v0 t0 h)
      unfold fX9_lookAt_j193
      refine j_istore_n (L' := [(3, .int t0), (0, .ref v0)]) dX9_lookAt_193 rfl (Nat.le_of_ble_eq_true rfl) rfl ?_
      refine j_aload_n 1 dX9_lookAt_194 rfl rfl ?_
      refine j_dup dX9_lookAt_195 rfl ?_
      refine j_getI 9 18 13 dX9_lookAt_196 fl_RX9_206 (by decide) rfl (by decide) rfl (fun x18 => ?_)
      refine j_iload_n 0 dX9_lookAt_199 rfl rfl ?_
      refine j_if_eq (tgt := 207) dX9_lookAt_200 (by decide) (fun c19 => ?_) (fun c19 => ?_)
      · refine j_iconst (x := 0) dX9_lookAt_207 (by decide) ?_
        refine j_pick [1, 0] rfl ?_
        exact hj208 (t0, 0, x18, v0, h)
      · refine j_iconst (x := 1) dX9_lookAt_203 (by decide) ?_
        refine j_goto (tgt := 208) dX9_lookAt_204 (by decide) ?_
        refine j_pick [1, 0] rfl ?_
        exact hj208 (t0, 1, x18, v0, h)
    refine j_iload_n 1 dX9_lookAt_136 rfl rfl ?_
    refine j_if_eq (tgt := 215) dX9_lookAt_137 (by decide) (fun c20 => ?_) (fun c20 => ?_)
    · refine j_exit (v0, s136.2) ?_
      show xJ iX9_lookAt κ _ _ _ _ _ (fX9_lookAt_j215 v0 s136.2)
      refine j_pick [0] rfl ?_
      exact hj215 s136.2
    · refine j_aload_n 0 dX9_lookAt_140 rfl rfl ?_
      refine j_getI 9 18 12 dX9_lookAt_141 fl_RX9_203 (by decide) rfl (by decide) rfl (fun x21 => ?_)
      refine j_aload_n 0 dX9_lookAt_144 rfl rfl ?_
      refine j_getI 9 18 13 dX9_lookAt_145 fl_RX9_206 (by decide) rfl (by decide) rfl (fun x22 => ?_)
      refine j_iadd dX9_lookAt_148 ?_
      refine j_aload_n 0 dX9_lookAt_149 rfl rfl ?_
      refine j_getI 9 18 11 dX9_lookAt_150 fl_RX9_191 (by decide) rfl (by decide) rfl (fun x23 => ?_)
      refine j_icmp_ge (tgt := 215) dX9_lookAt_153 (by decide) (fun c24 => ?_) (fun c24 => ?_)
      · refine j_exit (v0, s136.2) ?_
        show xJ iX9_lookAt κ _ _ _ _ _ (fX9_lookAt_j215 v0 s136.2)
        refine j_pick [0] rfl ?_
        exact hj215 s136.2
      · refine j_aload_n 0 dX9_lookAt_156 rfl rfl ?_
        refine j_getR 9 18 10 dX9_lookAt_157 fl_RX9_39 (by decide) rfl (by decide) (fun _ _ _ => rfl) (fun x25 => ?_)
        refine j_aload_n 0 dX9_lookAt_160 rfl rfl ?_
        refine j_getI 9 18 12 dX9_lookAt_161 fl_RX9_203 (by decide) rfl (by decide) rfl (fun x26 => ?_)
        refine j_aload_n 0 dX9_lookAt_164 rfl rfl ?_
        refine j_getI 9 18 13 dX9_lookAt_165 fl_RX9_206 (by decide) rfl (by decide) rfl (fun x27 => ?_)
        refine j_iadd dX9_lookAt_168 ?_
        refine j_iald dX9_lookAt_169 (fun x28 => ?_)
        refine j_istore (L' := [(4, .int x28), (0, .ref v0), (3, .int s136.1)]) dX9_lookAt_170 (Nat.le_of_ble_eq_true rfl) rfl ?_
        refine j_aload_n 1 dX9_lookAt_172 rfl rfl ?_
        refine j_getI 9 18 14 dX9_lookAt_173 fl_RX9_209 (by decide) rfl (by decide) rfl (fun x29 => ?_)
        refine j_iconst (x := 1) dX9_lookAt_176 (by decide) ?_
        refine j_icmp_ne (tgt := 188) dX9_lookAt_177 (by decide) (fun c30 => ?_) (fun c30 => ?_)
        · refine j_iload 0 dX9_lookAt_180 rfl ?_
          refine j_callS (as := [.int x28]) (fun x => some (.int x)) (fun _ => s136.2) dX9_lookAt_182 ml_RX9_215 tg_X9_isSmall st_X9_isSmall (fun x hx => kX9_isSmall κ.1 κ.2.1 x28 s136.2 x hx) (by decide) (by decide) rfl rfl (Nat.le_of_ble_eq_true rfl) (fun x31 => ?_)
          show xJ iX9_lookAt κ _ 185 [(4, .int x28), (0, .ref v0), (3, .int s136.1)] [.int x31] s136.2 _
          refine j_goto (tgt := 193) dX9_lookAt_185 (by decide) ?_
          refine j_pick [1] rfl ?_
          exact hj193 (x31, s136.2)
        · refine j_iload 0 dX9_lookAt_188 rfl ?_
          refine j_callS (as := [.int x28]) (fun x => some (.int x)) (fun _ => s136.2) dX9_lookAt_190 ml_RX9_218 tg_X9_isFigure st_X9_isFigure (fun x hx => kX9_isFigure κ.1 κ.2.1 x28 s136.2 x hx) (by decide) (by decide) rfl rfl (Nat.le_of_ble_eq_true rfl) (fun x32 => ?_)
          show xJ iX9_lookAt κ _ 193 [(4, .int x28), (0, .ref v0), (3, .int s136.1)] [.int x32] s136.2 _
          refine j_pick [1] rfl ?_
          exact hj193 (x32, s136.2)
  refine j_have (pj := 114) (Lf := fun v : Int32 × Nat × Hp => [(0, .ref v0)]) (Sf := fun v : Int32 × Nat × Hp => [.int v.1, .ref v.2.1]) (Hf := fun v : Int32 × Nat × Hp => v.2.2) (jf := fun v : Int32 × Nat × Hp => fX9_lookAt_j114 v0 v.1 v.2.1 v.2.2) (fun v => ?_) (fun hj114 => ?_)
  · obtain ⟨t0, t1, h⟩ := v
    show xJ iX9_lookAt κ _ 114 [(0, .ref v0)] [.int t0, .ref t1] h (fX9_lookAt_j114 v0 t0 t1 h)
    unfold fX9_lookAt_j114
    refine j_putI 9 18 14 dX9_lookAt_114 fl_RX9_209 (by decide) rfl (by decide) rfl rfl (fun h33 => ?_)
    refine j_aload_n 0 dX9_lookAt_117 rfl rfl ?_
    refine j_iconst (x := 1) dX9_lookAt_118 (by decide) ?_
    refine j_putI 9 18 13 dX9_lookAt_119 fl_RX9_206 (by decide) rfl (by decide) rfl rfl (fun h34 => ?_)
    refine j_aload_n 0 dX9_lookAt_122 rfl rfl ?_
    refine j_getI 9 18 14 dX9_lookAt_123 fl_RX9_209 (by decide) rfl (by decide) rfl (fun x35 => ?_)
    refine j_iconst (x := 3) dX9_lookAt_126 (by decide) ?_
    refine j_icmp_ge (tgt := 134) dX9_lookAt_127 (by decide) (fun c36 => ?_) (fun c36 => ?_)
    · refine j_iconst (x := 0) dX9_lookAt_134 (by decide) ?_
      refine j_pick [0] rfl ?_
      exact hj135 (0, h34)
    · refine j_iconst (x := 1) dX9_lookAt_130 (by decide) ?_
      refine j_goto (tgt := 135) dX9_lookAt_131 (by decide) ?_
      refine j_pick [0] rfl ?_
      exact hj135 (1, h34)
  refine j_have (pj := 43) (Lf := fun v : Hp => [(0, .ref v0)]) (Sf := fun v : Hp => []) (Hf := fun v : Hp => v) (jf := fun v : Hp => fX9_lookAt_j43 v0 v) (fun v => ?_) (fun hj43 => ?_)
  · generalize v = h
    show xJ iX9_lookAt κ _ 43 [(0, .ref v0)] [] h (fX9_lookAt_j43 v0 h)
    unfold fX9_lookAt_j43
    refine j_aload_n 0 dX9_lookAt_43 rfl rfl ?_
    refine j_iconst (x := 0) dX9_lookAt_44 (by decide) ?_
    refine j_putI 9 18 13 dX9_lookAt_45 fl_RX9_206 (by decide) rfl (by decide) rfl rfl (fun h37 => ?_)
    refine j_aload_n 0 dX9_lookAt_48 rfl rfl ?_
    refine j_iconst (x := 0) dX9_lookAt_49 (by decide) ?_
    refine j_putI 9 18 14 dX9_lookAt_50 fl_RX9_209 (by decide) rfl (by decide) rfl rfl (fun h38 => ?_)
    refine j_aload_n 0 dX9_lookAt_53 rfl rfl ?_
    refine j_iconst (x := 0) dX9_lookAt_54 (by decide) ?_
    refine j_putI 9 18 15 dX9_lookAt_55 fl_RX9_212 (by decide) rfl (by decide) rfl rfl (fun h39 => ?_)
    refine j_aload_n 0 dX9_lookAt_58 rfl rfl ?_
    refine j_getI 9 18 12 dX9_lookAt_59 fl_RX9_203 (by decide) rfl (by decide) rfl (fun x40 => ?_)
    refine j_aload_n 0 dX9_lookAt_62 rfl rfl ?_
    refine j_getI 9 18 11 dX9_lookAt_63 fl_RX9_191 (by decide) rfl (by decide) rfl (fun x41 => ?_)
    refine j_icmp_ne (tgt := 70) dX9_lookAt_66 (by decide) (fun c42 => ?_) (fun c42 => ?_)
    · exact j_vret h39 dX9_lookAt_69 rfl (fun q => q)
    · refine j_aload_n 0 dX9_lookAt_70 rfl rfl ?_
      refine j_getR 9 18 10 dX9_lookAt_71 fl_RX9_39 (by decide) rfl (by decide) (fun _ _ _ => rfl) (fun x43 => ?_)
      refine j_aload_n 0 dX9_lookAt_74 rfl rfl ?_
      refine j_getI 9 18 12 dX9_lookAt_75 fl_RX9_203 (by decide) rfl (by decide) rfl (fun x44 => ?_)
      refine j_iald dX9_lookAt_78 (fun x45 => ?_)
      refine j_istore_n (L' := [(2, .int x45), (0, .ref v0)]) dX9_lookAt_79 rfl (Nat.le_of_ble_eq_true rfl) rfl ?_
      refine j_aload_n 1 dX9_lookAt_80 rfl rfl ?_
      refine j_iload_n 0 dX9_lookAt_81 rfl rfl ?_
      refine j_callS (as := [.int x45]) (fun x => some (.int x)) (fun _ => h39) dX9_lookAt_82 ml_RX9_215 tg_X9_isSmall st_X9_isSmall (fun x hx => kX9_isSmall κ.1 κ.2.1 x45 h39 x hx) (by decide) (by decide) rfl rfl (Nat.le_of_ble_eq_true rfl) (fun x46 => ?_)
      show xJ iX9_lookAt κ _ 85 [(2, .int x45), (0, .ref v0)] [.int x46, .ref v0] h39 _
      refine j_if_eq (tgt := 92) dX9_lookAt_85 (by decide) (fun c47 => ?_) (fun c47 => ?_)
      · refine j_iload_n 0 dX9_lookAt_92 rfl rfl ?_
        refine j_callS (as := [.int x45]) (fun x => some (.int x)) (fun _ => h39) dX9_lookAt_93 ml_RX9_218 tg_X9_isFigure st_X9_isFigure (fun x hx => kX9_isFigure κ.1 κ.2.1 x45 h39 x hx) (by decide) (by decide) rfl rfl (Nat.le_of_ble_eq_true rfl) (fun x48 => ?_)
        show xJ iX9_lookAt κ _ 96 [(2, .int x45), (0, .ref v0)] [.int x48, .ref v0] h39 _
        refine j_if_eq (tgt := 103) dX9_lookAt_96 (by decide) (fun c49 => ?_) (fun c49 => ?_)
        · refine j_iload_n 0 dX9_lookAt_103 rfl rfl ?_
          refine j_bipush (x := 59) dX9_lookAt_104 (by decide) ?_
          refine j_icmp_ne (tgt := 113) dX9_lookAt_106 (by decide) (fun c50 => ?_) (fun c50 => ?_)
          · refine j_iconst (x := 3) dX9_lookAt_109 (by decide) ?_
            refine j_goto (tgt := 114) dX9_lookAt_110 (by decide) ?_
            refine j_pick [1] rfl ?_
            exact hj114 (3, v0, h39)
          · refine j_iconst (x := 4) dX9_lookAt_113 (by decide) ?_
            refine j_pick [1] rfl ?_
            exact hj114 (4, v0, h39)
        · refine j_iconst (x := 2) dX9_lookAt_99 (by decide) ?_
          refine j_goto (tgt := 114) dX9_lookAt_100 (by decide) ?_
          refine j_pick [1] rfl ?_
          exact hj114 (2, v0, h39)
      · refine j_iconst (x := 1) dX9_lookAt_88 (by decide) ?_
        refine j_goto (tgt := 114) dX9_lookAt_89 (by decide) ?_
        refine j_pick [1] rfl ?_
        exact hj114 (1, v0, h39)
  refine j_aload_n 0 dX9_lookAt_0 rfl rfl ?_
  refine j_iload_n 1 dX9_lookAt_1 rfl rfl ?_
  refine j_putI 9 18 12 dX9_lookAt_2 fl_RX9_203 (by decide) rfl (by decide) rfl rfl (fun h51 => ?_)
  refine j_pick [0] rfl ?_
  refine j_loop (pc := 5) (Lf := fun s5 : Hp => [(0, .ref v0)]) (Hf := fun s5 : Hp => s5) (fun s5 => ?_) 1000000 h51
  show xJ iX9_lookAt κ _ 5 [(0, .ref v0)] [] s5 (fX9_lookAt_b5 v0 s5)
  unfold fX9_lookAt_b5
  refine j_aload_n 0 dX9_lookAt_5 rfl rfl ?_
  refine j_getI 9 18 12 dX9_lookAt_6 fl_RX9_203 (by decide) rfl (by decide) rfl (fun x52 => ?_)
  refine j_aload_n 0 dX9_lookAt_9 rfl rfl ?_
  refine j_getI 9 18 11 dX9_lookAt_10 fl_RX9_191 (by decide) rfl (by decide) rfl (fun x53 => ?_)
  refine j_icmp_ge (tgt := 43) dX9_lookAt_13 (by decide) (fun c54 => ?_) (fun c54 => ?_)
  · refine j_exit (v0, s5) ?_
    show xJ iX9_lookAt κ _ _ _ _ _ (fX9_lookAt_j43 v0 s5)
    refine j_pick [0] rfl ?_
    exact hj43 s5
  · refine j_aload_n 0 dX9_lookAt_16 rfl rfl ?_
    refine j_getR 9 18 10 dX9_lookAt_17 fl_RX9_39 (by decide) rfl (by decide) (fun _ _ _ => rfl) (fun x55 => ?_)
    refine j_aload_n 0 dX9_lookAt_20 rfl rfl ?_
    refine j_getI 9 18 12 dX9_lookAt_21 fl_RX9_203 (by decide) rfl (by decide) rfl (fun x56 => ?_)
    refine j_iald dX9_lookAt_24 (fun x57 => ?_)
    refine j_bipush (x := 32) dX9_lookAt_25 (by decide) ?_
    refine j_icmp_ne (tgt := 43) dX9_lookAt_27 (by decide) (fun c58 => ?_) (fun c58 => ?_)
    · refine j_aload_n 0 dX9_lookAt_30 rfl rfl ?_
      refine j_dup dX9_lookAt_31 rfl ?_
      refine j_getI 9 18 12 dX9_lookAt_32 fl_RX9_203 (by decide) rfl (by decide) rfl (fun x59 => ?_)
      refine j_iconst (x := 1) dX9_lookAt_35 (by decide) ?_
      refine j_iadd dX9_lookAt_36 ?_
      refine j_putI 9 18 12 dX9_lookAt_37 fl_RX9_203 (by decide) rfl (by decide) rfl rfl (fun h60 => ?_)
      refine j_goto (tgt := 5) dX9_lookAt_40 (by decide) ?_
      refine j_pick [0] rfl ?_
      exact j_again h60 rfl rfl
    · refine j_exit (v0, s5) ?_
      show xJ iX9_lookAt κ _ _ _ _ _ (fX9_lookAt_j43 v0 s5)
      refine j_pick [0] rfl ?_
      exact hj43 s5
def fX9_spells_j119 (v8 : Int32) (h : Hp) : Option (Int32) :=
  if vp_nar .boolean v8 = v8 then some v8 else none
def fX9_spells_j111 (v0 : Nat) (v1 : Int32) (v2 : Int32) (v3 : Int32) (v4 : Int32) (v5 : Int32) (v6 : Int32) (v7 : Int32) (v9 : Int32) (t0 : Int32) (h : Hp) : Option ((Int32 × Int32) ⊕ ((Int32))) :=
  some (Sum.inl (t0, v9 + 1))
def fX9_spells_j103 (v0 : Nat) (v1 : Int32) (v2 : Int32) (v3 : Int32) (v4 : Int32) (v5 : Int32) (v6 : Int32) (v7 : Int32) (v9 : Int32) (t0 : Int32) (t1 : Int32) (h : Hp) : Option ((Int32 × Int32) ⊕ ((Int32))) :=
  if (t1 : Int32) = t0 then (fX9_spells_j111 v0 v1 v2 v3 v4 v5 v6 v7 v9 1 h) else (fX9_spells_j111 v0 v1 v2 v3 v4 v5 v6 v7 v9 0 h)
def fX9_spells_b26 (v0 : Nat) (v1 : Int32) (v2 : Int32) (v3 : Int32) (v4 : Int32) (v5 : Int32) (v6 : Int32) (v7 : Int32) (h : Hp) (s26 : Int32 × Int32) : Option ((Int32 × Int32) ⊕ ((Int32))) :=
  if (v1 : Int32) ≤ s26.2 then (some (Sum.inr s26.1)) else (if (s26.1 : Int32) = 0 then (some (Sum.inr s26.1)) else ((xgR h v0 (9, 18) 10).bind fun x4 => (xgI h v0 (9, 18) 12).bind fun x5 => (xaI h x4 10 (x5 + s26.2)).bind fun x6 => if (s26.2 : Int32) = 0 then (fX9_spells_j103 v0 v1 v2 v3 v4 v5 v6 v7 s26.2 v2 x6 h) else (if (s26.2 : Int32) = 1 then (fX9_spells_j103 v0 v1 v2 v3 v4 v5 v6 v7 s26.2 v3 x6 h) else (if (s26.2 : Int32) = 2 then (fX9_spells_j103 v0 v1 v2 v3 v4 v5 v6 v7 s26.2 v4 x6 h) else (if (s26.2 : Int32) = 3 then (fX9_spells_j103 v0 v1 v2 v3 v4 v5 v6 v7 s26.2 v5 x6 h) else (if (s26.2 : Int32) = 4 then (fX9_spells_j103 v0 v1 v2 v3 v4 v5 v6 v7 s26.2 v6 x6 h) else (fX9_spells_j103 v0 v1 v2 v3 v4 v5 v6 v7 s26.2 v7 x6 h)))))))
def fX9_spells_j21 (v0 : Nat) (v1 : Int32) (v2 : Int32) (v3 : Int32) (v4 : Int32) (v5 : Int32) (v6 : Int32) (v7 : Int32) (t0 : Int32) (h : Hp) : Option (Int32) :=
  (xloop (fX9_spells_b26 v0 v1 v2 v3 v4 v5 v6 v7 h) 1000000 (t0, 0)).bind (fun r26 => fX9_spells_j119 r26 h)
def fX9_spells_j20 (v0 : Nat) (v1 : Int32) (v2 : Int32) (v3 : Int32) (v4 : Int32) (v5 : Int32) (v6 : Int32) (v7 : Int32) (h : Hp) : Option (Int32) :=
  fX9_spells_j21 v0 v1 v2 v3 v4 v5 v6 v7 0 h
def fX9_spells (v0 : Nat) (v1 : Int32) (v2 : Int32) (v3 : Int32) (v4 : Int32) (v5 : Int32) (v6 : Int32) (v7 : Int32) (h : Hp) : Option (Int32) :=
  (xgI h v0 (9, 18) 14).bind fun x12 => if (x12 : Int32) = 1 then ((xgI h v0 (9, 18) 13).bind fun x14 => if (x14 : Int32) = v1 then (fX9_spells_j21 v0 v1 v2 v3 v4 v5 v6 v7 1 h) else (fX9_spells_j20 v0 v1 v2 v3 v4 v5 v6 v7 h)) else (fX9_spells_j20 v0 v1 v2 v3 v4 v5 v6 v7 h)
abbrev iX9_spells : xI := (cX9_spells, yX9_spells.cls, yX9_spells.name, some .boolean, 10, 2)
set_option maxHeartbeats 4000000 in
set_option maxRecDepth 100000 in
theorem kX9_spells (l : Launch) (η : xEnv) (v0 : Nat) (v1 : Int32) (v2 : Int32) (v3 : Int32) (v4 : Int32) (v5 : Int32) (v6 : Int32) (v7 : Int32) (h : Hp) (x : Int32) (hx : fX9_spells v0 v1 v2 v3 v4 v5 v6 v7 h = some x) : xC l η yX9_spells cX9_spells 10 (some .boolean) 2 [.ref v0, .int v1, .int v2, .int v3, .int v4, .int v5, .int v6, .int v7] h (some (.int x)) h := by
  refine xC_of (by decide) (Nat.le_of_ble_eq_true rfl) hx (fun κ x => κ.2.2.2.1 = some (.int x) ∧ κ.2.2.2.2 = h) ⟨rfl, rfl⟩ (fun κ => ?_)
  show xJ iX9_spells κ _ 0 [(0, .ref v0), (1, .int v1), (2, .int v2), (3, .int v3), (4, .int v4), (5, .int v5), (6, .int v6), (7, .int v7)] [] h (fX9_spells v0 v1 v2 v3 v4 v5 v6 v7 h)
  unfold fX9_spells
  refine j_have (pj := 119) (Lf := fun v : Int32 => [(8, .int v)]) (Sf := fun v : Int32 => []) (Hf := fun v : Int32 => h) (jf := fun v : Int32 => fX9_spells_j119 v h) (fun v => ?_) (fun hj119 => ?_)
  · generalize v = v8
    show xJ iX9_spells κ _ 119 [(8, .int v8)] [] h (fX9_spells_j119 v8 h)
    unfold fX9_spells_j119
    refine j_iload 0 dX9_spells_119 rfl ?_
    exact j_zretc v8 dX9_spells_121 rfl (fun q => q)
  refine j_have (pj := 21) (Lf := fun v : Int32 => [(0, .ref v0), (1, .int v1), (2, .int v2), (3, .int v3), (4, .int v4), (5, .int v5), (6, .int v6), (7, .int v7)]) (Sf := fun v : Int32 => [.int v]) (Hf := fun v : Int32 => h) (jf := fun v : Int32 => fX9_spells_j21 v0 v1 v2 v3 v4 v5 v6 v7 v h) (fun v => ?_) (fun hj21 => ?_)
  · generalize v = t0
    show xJ iX9_spells κ _ 21 [(0, .ref v0), (1, .int v1), (2, .int v2), (3, .int v3), (4, .int v4), (5, .int v5), (6, .int v6), (7, .int v7)] [.int t0] h (fX9_spells_j21 v0 v1 v2 v3 v4 v5 v6 v7 t0 h)
    unfold fX9_spells_j21
    refine j_istore (L' := [(8, .int t0), (0, .ref v0), (1, .int v1), (2, .int v2), (3, .int v3), (4, .int v4), (5, .int v5), (6, .int v6), (7, .int v7)]) dX9_spells_21 (Nat.le_of_ble_eq_true rfl) rfl ?_
    refine j_iconst (x := 0) dX9_spells_23 (by decide) ?_
    refine j_istore (L' := [(9, .int 0), (8, .int t0), (0, .ref v0), (1, .int v1), (2, .int v2), (3, .int v3), (4, .int v4), (5, .int v5), (6, .int v6), (7, .int v7)]) dX9_spells_24 (Nat.le_of_ble_eq_true rfl) rfl ?_
    refine j_pick [2, 3, 4, 5, 6, 7, 8, 9, 1, 0] rfl ?_
    refine j_loop (pc := 26) (Lf := fun s26 : Int32 × Int32 => [(0, .ref v0), (1, .int v1), (2, .int v2), (3, .int v3), (4, .int v4), (5, .int v5), (6, .int v6), (7, .int v7), (8, .int s26.1), (9, .int s26.2)]) (Hf := fun s26 : Int32 × Int32 => h) (fun s26 => ?_) 1000000 (t0, 0)
    show xJ iX9_spells κ _ 26 [(0, .ref v0), (1, .int v1), (2, .int v2), (3, .int v3), (4, .int v4), (5, .int v5), (6, .int v6), (7, .int v7), (8, .int s26.1), (9, .int s26.2)] [] h (fX9_spells_b26 v0 v1 v2 v3 v4 v5 v6 v7 h s26)
    unfold fX9_spells_b26
    refine j_have (pj := 111) (Lf := fun v : Int32 × Int32 => [(0, .ref v0), (1, .int v1), (2, .int v2), (3, .int v3), (4, .int v4), (5, .int v5), (6, .int v6), (7, .int v7), (9, .int v.1)]) (Sf := fun v : Int32 × Int32 => [.int v.2]) (Hf := fun v : Int32 × Int32 => h) (jf := fun v : Int32 × Int32 => fX9_spells_j111 v0 v1 v2 v3 v4 v5 v6 v7 v.1 v.2 h) (fun v => ?_) (fun hj111 => ?_)
    · obtain ⟨v9, t0⟩ := v
      show xJ iX9_spells κ _ 111 [(0, .ref v0), (1, .int v1), (2, .int v2), (3, .int v3), (4, .int v4), (5, .int v5), (6, .int v6), (7, .int v7), (9, .int v9)] [.int t0] h (fX9_spells_j111 v0 v1 v2 v3 v4 v5 v6 v7 v9 t0 h)
      unfold fX9_spells_j111
      refine j_istore (L' := [(8, .int t0), (0, .ref v0), (1, .int v1), (2, .int v2), (3, .int v3), (4, .int v4), (5, .int v5), (6, .int v6), (7, .int v7), (9, .int v9)]) dX9_spells_111 (Nat.le_of_ble_eq_true rfl) rfl ?_
      refine j_iinc (y := v9 + 1) (L' := [(9, .int (v9 + 1)), (8, .int t0), (0, .ref v0), (1, .int v1), (2, .int v2), (3, .int v3), (4, .int v4), (5, .int v5), (6, .int v6), (7, .int v7)]) 9 dX9_spells_113 rfl rfl (Nat.le_of_ble_eq_true rfl) rfl ?_
      refine j_goto (tgt := 26) dX9_spells_116 (by decide) ?_
      refine j_pick [2, 3, 4, 5, 6, 7, 8, 9, 1, 0] rfl ?_
      exact j_again (t0, v9 + 1) rfl rfl
    refine j_have (pj := 103) (Lf := fun v : Int32 × Int32 × Int32 => [(0, .ref v0), (1, .int v1), (2, .int v2), (3, .int v3), (4, .int v4), (5, .int v5), (6, .int v6), (7, .int v7), (9, .int v.1)]) (Sf := fun v : Int32 × Int32 × Int32 => [.int v.2.1, .int v.2.2]) (Hf := fun v : Int32 × Int32 × Int32 => h) (jf := fun v : Int32 × Int32 × Int32 => fX9_spells_j103 v0 v1 v2 v3 v4 v5 v6 v7 v.1 v.2.1 v.2.2 h) (fun v => ?_) (fun hj103 => ?_)
    · obtain ⟨v9, t0, t1⟩ := v
      show xJ iX9_spells κ _ 103 [(0, .ref v0), (1, .int v1), (2, .int v2), (3, .int v3), (4, .int v4), (5, .int v5), (6, .int v6), (7, .int v7), (9, .int v9)] [.int t0, .int t1] h (fX9_spells_j103 v0 v1 v2 v3 v4 v5 v6 v7 v9 t0 t1 h)
      unfold fX9_spells_j103
      refine j_icmp_ne (tgt := 110) dX9_spells_103 (by decide) (fun c1 => ?_) (fun c1 => ?_)
      · refine j_iconst (x := 1) dX9_spells_106 (by decide) ?_
        refine j_goto (tgt := 111) dX9_spells_107 (by decide) ?_
        refine j_pick [0, 1, 2, 3, 4, 5, 6, 7, 8] rfl ?_
        exact hj111 (v9, 1)
      · refine j_iconst (x := 0) dX9_spells_110 (by decide) ?_
        refine j_pick [0, 1, 2, 3, 4, 5, 6, 7, 8] rfl ?_
        exact hj111 (v9, 0)
    refine j_iload 9 dX9_spells_26 rfl ?_
    refine j_iload_n 1 dX9_spells_28 rfl rfl ?_
    refine j_icmp_ge (tgt := 119) dX9_spells_29 (by decide) (fun c2 => ?_) (fun c2 => ?_)
    · refine j_exit s26.1 ?_
      show xJ iX9_spells κ _ _ _ _ _ (fX9_spells_j119 s26.1 h)
      refine j_pick [8] rfl ?_
      exact hj119 s26.1
    · refine j_iload 8 dX9_spells_32 rfl ?_
      refine j_if_eq (tgt := 119) dX9_spells_34 (by decide) (fun c3 => ?_) (fun c3 => ?_)
      · refine j_exit s26.1 ?_
        show xJ iX9_spells κ _ _ _ _ _ (fX9_spells_j119 s26.1 h)
        refine j_pick [8] rfl ?_
        exact hj119 s26.1
      · refine j_aload_n 0 dX9_spells_37 rfl rfl ?_
        refine j_getR 9 18 10 dX9_spells_38 fl_RX9_39 (by decide) rfl (by decide) (fun _ _ _ => rfl) (fun x4 => ?_)
        refine j_aload_n 0 dX9_spells_41 rfl rfl ?_
        refine j_getI 9 18 12 dX9_spells_42 fl_RX9_203 (by decide) rfl (by decide) rfl (fun x5 => ?_)
        refine j_iload 9 dX9_spells_45 rfl ?_
        refine j_iadd dX9_spells_47 ?_
        refine j_iald dX9_spells_48 (fun x6 => ?_)
        refine j_iload 9 dX9_spells_49 rfl ?_
        refine j_if_ne (tgt := 58) dX9_spells_51 (by decide) (fun c7 => ?_) (fun c7 => ?_)
        · refine j_iload_n 2 dX9_spells_54 rfl rfl ?_
          refine j_goto (tgt := 103) dX9_spells_55 (by decide) ?_
          refine j_pick [0, 1, 2, 3, 4, 5, 6, 7, 9] rfl ?_
          exact hj103 (s26.2, v2, x6)
        · refine j_iload 9 dX9_spells_58 rfl ?_
          refine j_iconst (x := 1) dX9_spells_60 (by decide) ?_
          refine j_icmp_ne (tgt := 68) dX9_spells_61 (by decide) (fun c8 => ?_) (fun c8 => ?_)
          · refine j_iload_n 3 dX9_spells_64 rfl rfl ?_
            refine j_goto (tgt := 103) dX9_spells_65 (by decide) ?_
            refine j_pick [0, 1, 2, 3, 4, 5, 6, 7, 9] rfl ?_
            exact hj103 (s26.2, v3, x6)
          · refine j_iload 9 dX9_spells_68 rfl ?_
            refine j_iconst (x := 2) dX9_spells_70 (by decide) ?_
            refine j_icmp_ne (tgt := 79) dX9_spells_71 (by decide) (fun c9 => ?_) (fun c9 => ?_)
            · refine j_iload 4 dX9_spells_74 rfl ?_
              refine j_goto (tgt := 103) dX9_spells_76 (by decide) ?_
              refine j_pick [0, 1, 2, 3, 4, 5, 6, 7, 9] rfl ?_
              exact hj103 (s26.2, v4, x6)
            · refine j_iload 9 dX9_spells_79 rfl ?_
              refine j_iconst (x := 3) dX9_spells_81 (by decide) ?_
              refine j_icmp_ne (tgt := 90) dX9_spells_82 (by decide) (fun c10 => ?_) (fun c10 => ?_)
              · refine j_iload 5 dX9_spells_85 rfl ?_
                refine j_goto (tgt := 103) dX9_spells_87 (by decide) ?_
                refine j_pick [0, 1, 2, 3, 4, 5, 6, 7, 9] rfl ?_
                exact hj103 (s26.2, v5, x6)
              · refine j_iload 9 dX9_spells_90 rfl ?_
                refine j_iconst (x := 4) dX9_spells_92 (by decide) ?_
                refine j_icmp_ne (tgt := 101) dX9_spells_93 (by decide) (fun c11 => ?_) (fun c11 => ?_)
                · refine j_iload 6 dX9_spells_96 rfl ?_
                  refine j_goto (tgt := 103) dX9_spells_98 (by decide) ?_
                  refine j_pick [0, 1, 2, 3, 4, 5, 6, 7, 9] rfl ?_
                  exact hj103 (s26.2, v6, x6)
                · refine j_iload 7 dX9_spells_101 rfl ?_
                  refine j_pick [0, 1, 2, 3, 4, 5, 6, 7, 9] rfl ?_
                  exact hj103 (s26.2, v7, x6)
  refine j_have (pj := 20) (Lf := fun v : Unit => [(0, .ref v0), (1, .int v1), (2, .int v2), (3, .int v3), (4, .int v4), (5, .int v5), (6, .int v6), (7, .int v7)]) (Sf := fun v : Unit => []) (Hf := fun v : Unit => h) (jf := fun v : Unit => fX9_spells_j20 v0 v1 v2 v3 v4 v5 v6 v7 h) (fun v => ?_) (fun hj20 => ?_)
  · skip
    show xJ iX9_spells κ _ 20 [(0, .ref v0), (1, .int v1), (2, .int v2), (3, .int v3), (4, .int v4), (5, .int v5), (6, .int v6), (7, .int v7)] [] h (fX9_spells_j20 v0 v1 v2 v3 v4 v5 v6 v7 h)
    unfold fX9_spells_j20
    refine j_iconst (x := 0) dX9_spells_20 (by decide) ?_
    refine j_pick [0, 1, 2, 3, 4, 5, 6, 7] rfl ?_
    exact hj21 0
  refine j_aload_n 0 dX9_spells_0 rfl rfl ?_
  refine j_getI 9 18 14 dX9_spells_1 fl_RX9_209 (by decide) rfl (by decide) rfl (fun x12 => ?_)
  refine j_iconst (x := 1) dX9_spells_4 (by decide) ?_
  refine j_icmp_ne (tgt := 20) dX9_spells_5 (by decide) (fun c13 => ?_) (fun c13 => ?_)
  · refine j_aload_n 0 dX9_spells_8 rfl rfl ?_
    refine j_getI 9 18 13 dX9_spells_9 fl_RX9_206 (by decide) rfl (by decide) rfl (fun x14 => ?_)
    refine j_iload_n 1 dX9_spells_12 rfl rfl ?_
    refine j_icmp_ne (tgt := 20) dX9_spells_13 (by decide) (fun c15 => ?_) (fun c15 => ?_)
    · refine j_iconst (x := 1) dX9_spells_16 (by decide) ?_
      refine j_goto (tgt := 21) dX9_spells_17 (by decide) ?_
      refine j_pick [0, 1, 2, 3, 4, 5, 6, 7] rfl ?_
      exact hj21 1
    · refine j_pick [0, 1, 2, 3, 4, 5, 6, 7] rfl ?_
      exact hj20 ()
  · refine j_pick [0, 1, 2, 3, 4, 5, 6, 7] rfl ?_
    exact hj20 ()
def fX9_goBehind (v0 : Nat) (h : Hp) : Option (Hp) :=
  (xgI h v0 (9, 18) 12).bind fun x1 => (xgI h v0 (9, 18) 13).bind fun x2 => (xat h v0 (9, 18) (fX9_lookAt v0 (x1 + x2) h)).bind fun h3 => some h3
abbrev iX9_goBehind : xI := (cX9_goBehind, yX9_goBehind.cls, yX9_goBehind.name, none, 1, 5)
set_option maxHeartbeats 4000000 in
set_option maxRecDepth 100000 in
theorem kX9_goBehind (l : Launch) (η : xEnv) (v0 : Nat) (h : Hp) (x : Hp) (hx : fX9_goBehind v0 h = some x) : xC l η yX9_goBehind cX9_goBehind 1 none 5 [.ref v0] h none x := by
  refine xC_of (by decide) (Nat.le_of_ble_eq_true rfl) hx (fun κ x => κ.2.2.2.1 = none ∧ κ.2.2.2.2 = x) ⟨rfl, rfl⟩ (fun κ => ?_)
  show xJ iX9_goBehind κ _ 0 [(0, .ref v0)] [] h (fX9_goBehind v0 h)
  unfold fX9_goBehind
  refine j_aload_n 0 dX9_goBehind_0 rfl rfl ?_
  refine j_aload_n 0 dX9_goBehind_1 rfl rfl ?_
  refine j_getI 9 18 12 dX9_goBehind_2 fl_RX9_203 (by decide) rfl (by decide) rfl (fun x1 => ?_)
  refine j_aload_n 0 dX9_goBehind_5 rfl rfl ?_
  refine j_getI 9 18 13 dX9_goBehind_6 fl_RX9_206 (by decide) rfl (by decide) rfl (fun x2 => ?_)
  refine j_iadd dX9_goBehind_9 ?_
  refine j_callV (as := [.int (x1 + x2)]) (fun _ => none) (fun x => x) 9 18 dX9_goBehind_10 ml_RX9_221 tg_X9_lookAt im_X9_lookAt se_X9_lookAt rfl (by decide) (fun x hx => kX9_lookAt κ.1 κ.2.1 v0 (x1 + x2) h x hx) (by decide) (by decide) rfl rfl (Nat.le_of_ble_eq_true rfl) (fun h3 => ?_)
  show xJ iX9_goBehind κ _ 13 [(0, .ref v0)] [] h3 _
  exact j_vret h3 dX9_goBehind_13 rfl (fun q => q)
def fX9_takes_j23  (h : Hp) : Option (Int32 × Hp) :=
  some (0, h)
def fX9_takes (v0 : Nat) (v1 : Int32) (v2 : Int32) (v3 : Int32) (h : Hp) : Option (Int32 × Hp) :=
  (xgI h v0 (9, 18) 14).bind fun x1 => if (x1 : Int32) = 2 then ((xgI h v0 (9, 18) 15).bind fun x3 => (fX9_in ((x3 : Int32).toInt64) ((v2 : Int32).toInt64) ((v3 : Int32).toInt64) h).bind fun x4 => if (x4 : Int32) = 0 then (fX9_takes_j23 h) else ((xgR h v0 (9, 18) 17).bind fun x6 => (xgI h v0 (9, 18) 15).bind fun x7 => (xsI h x6 v1 x7).bind fun h8 => (xat h8 v0 (9, 18) (fX9_goBehind v0 h8)).bind fun h9 => some (1, h9))) else (fX9_takes_j23 h)
abbrev iX9_takes : xI := (cX9_takes, yX9_takes.cls, yX9_takes.name, some .boolean, 4, 6)
set_option maxHeartbeats 4000000 in
set_option maxRecDepth 100000 in
theorem kX9_takes (l : Launch) (η : xEnv) (v0 : Nat) (v1 : Int32) (v2 : Int32) (v3 : Int32) (h : Hp) (x : Int32 × Hp) (hx : fX9_takes v0 v1 v2 v3 h = some x) : xC l η yX9_takes cX9_takes 4 (some .boolean) 6 [.ref v0, .int v1, .int v2, .int v3] h (some (.int x.1)) x.2 := by
  refine xC_of (by decide) (Nat.le_of_ble_eq_true rfl) hx (fun κ x => κ.2.2.2.1 = some (.int x.1) ∧ κ.2.2.2.2 = x.2) ⟨rfl, rfl⟩ (fun κ => ?_)
  show xJ iX9_takes κ _ 0 [(0, .ref v0), (1, .int v1), (2, .int v2), (3, .int v3)] [] h (fX9_takes v0 v1 v2 v3 h)
  unfold fX9_takes
  refine j_have (pj := 23) (Lf := fun v : Hp => []) (Sf := fun v : Hp => []) (Hf := fun v : Hp => v) (jf := fun v : Hp => fX9_takes_j23 v) (fun v => ?_) (fun hj23 => ?_)
  · generalize v = h
    show xJ iX9_takes κ _ 23 [] [] h (fX9_takes_j23 h)
    unfold fX9_takes_j23
    refine j_iconst (x := 0) dX9_takes_23 (by decide) ?_
    exact j_zret (0, h) dX9_takes_24 rfl rfl (fun q => q)
  refine j_aload_n 0 dX9_takes_0 rfl rfl ?_
  refine j_getI 9 18 14 dX9_takes_1 fl_RX9_209 (by decide) rfl (by decide) rfl (fun x1 => ?_)
  refine j_iconst (x := 2) dX9_takes_4 (by decide) ?_
  refine j_icmp_ne (tgt := 23) dX9_takes_5 (by decide) (fun c2 => ?_) (fun c2 => ?_)
  · refine j_aload_n 0 dX9_takes_8 rfl rfl ?_
    refine j_getI 9 18 15 dX9_takes_9 fl_RX9_212 (by decide) rfl (by decide) rfl (fun x3 => ?_)
    refine j_i2l dX9_takes_12 ?_
    refine j_iload_n 2 dX9_takes_13 rfl rfl ?_
    refine j_i2l dX9_takes_14 ?_
    refine j_iload_n 3 dX9_takes_15 rfl rfl ?_
    refine j_i2l dX9_takes_16 ?_
    refine j_callS (as := [.long ((x3 : Int32).toInt64), .long ((v2 : Int32).toInt64), .long ((v3 : Int32).toInt64)]) (fun x => some (.int x)) (fun _ => h) dX9_takes_17 ml_RX9_56 tg_X9_in st_X9_in (fun x hx => kX9_in κ.1 κ.2.1 ((x3 : Int32).toInt64) ((v2 : Int32).toInt64) ((v3 : Int32).toInt64) h x hx) (by decide) (by decide) rfl rfl (Nat.le_of_ble_eq_true rfl) (fun x4 => ?_)
    show xJ iX9_takes κ _ 20 [(0, .ref v0), (1, .int v1), (2, .int v2), (3, .int v3)] [.int x4] h _
    refine j_if_ne (tgt := 25) dX9_takes_20 (by decide) (fun c5 => ?_) (fun c5 => ?_)
    · refine j_pick [] rfl ?_
      exact hj23 h
    · refine j_aload_n 0 dX9_takes_25 rfl rfl ?_
      refine j_getR 9 18 17 dX9_takes_26 fl_RX9_45 (by decide) rfl (by decide) (fun _ _ _ => rfl) (fun x6 => ?_)
      refine j_iload_n 1 dX9_takes_29 rfl rfl ?_
      refine j_aload_n 0 dX9_takes_30 rfl rfl ?_
      refine j_getI 9 18 15 dX9_takes_31 fl_RX9_212 (by decide) rfl (by decide) rfl (fun x7 => ?_)
      refine j_iast dX9_takes_34 (fun h8 => ?_)
      refine j_aload_n 0 dX9_takes_35 rfl rfl ?_
      refine j_callV (as := []) (fun _ => none) (fun x => x) 9 18 dX9_takes_36 ml_RX9_224 tg_X9_goBehind im_X9_goBehind se_X9_goBehind rfl (by decide) (fun x hx => kX9_goBehind κ.1 κ.2.1 v0 h8 x hx) (by decide) (by decide) rfl rfl (Nat.le_of_ble_eq_true rfl) (fun h9 => ?_)
      show xJ iX9_takes κ _ 39 [(0, .ref v0), (1, .int v1), (2, .int v2), (3, .int v3)] [] h9 _
      refine j_iconst (x := 1) dX9_takes_39 (by decide) ?_
      exact j_zret (1, h9) dX9_takes_40 rfl rfl (fun q => q)
  · refine j_pick [] rfl ?_
    exact hj23 h
def fX9_takesBus_j62 (t0 : Int32) (h : Hp) : Option (Int32 × Hp) :=
  if vp_nar .boolean t0 = t0 then some (t0, h) else none
def fX9_takesBus (v0 : Nat) (h : Hp) : Option (Int32 × Hp) :=
  (xat h v0 (9, 18) (fX9_spells v0 3 98 117 115 0 0 0 h)).bind fun x1 => if (x1 : Int32) = 0 then (some (0, h)) else ((xat h v0 (9, 18) (fX9_goBehind v0 h)).bind fun h3 => (xat h3 v0 (9, 18) (fX9_takes v0 0 1 7 h3)).bind fun q4 => if (q4.1 : Int32) = 0 then (some (0, q4.2)) else ((xgR q4.2 v0 (9, 18) 16).bind fun x6 => (xgR q4.2 v0 (9, 18) 17).bind fun x7 => (xaI q4.2 x7 10 0).bind fun x8 => (fX9_begin x6 x8 q4.2).bind fun h9 => (xgI h9 v0 (9, 18) 14).bind fun x10 => if (x10 : Int32) = 3 then (fX9_takesBus_j62 1 h9) else (fX9_takesBus_j62 0 h9)))
abbrev iX9_takesBus : xI := (cX9_takesBus, yX9_takesBus.cls, yX9_takesBus.name, some .boolean, 1, 7)
set_option maxHeartbeats 4000000 in
set_option maxRecDepth 100000 in
theorem kX9_takesBus (l : Launch) (η : xEnv) (v0 : Nat) (h : Hp) (x : Int32 × Hp) (hx : fX9_takesBus v0 h = some x) : xC l η yX9_takesBus cX9_takesBus 1 (some .boolean) 7 [.ref v0] h (some (.int x.1)) x.2 := by
  refine xC_of (by decide) (Nat.le_of_ble_eq_true rfl) hx (fun κ x => κ.2.2.2.1 = some (.int x.1) ∧ κ.2.2.2.2 = x.2) ⟨rfl, rfl⟩ (fun κ => ?_)
  show xJ iX9_takesBus κ _ 0 [(0, .ref v0)] [] h (fX9_takesBus v0 h)
  unfold fX9_takesBus
  refine j_have (pj := 62) (Lf := fun v : Int32 × Hp => []) (Sf := fun v : Int32 × Hp => [.int v.1]) (Hf := fun v : Int32 × Hp => v.2) (jf := fun v : Int32 × Hp => fX9_takesBus_j62 v.1 v.2) (fun v => ?_) (fun hj62 => ?_)
  · obtain ⟨t0, h⟩ := v
    show xJ iX9_takesBus κ _ 62 [] [.int t0] h (fX9_takesBus_j62 t0 h)
    unfold fX9_takesBus_j62
    exact j_zretc (t0, h) dX9_takesBus_62 rfl (fun q => q)
  refine j_aload_n 0 dX9_takesBus_0 rfl rfl ?_
  refine j_iconst (x := 3) dX9_takesBus_1 (by decide) ?_
  refine j_bipush (x := 98) dX9_takesBus_2 (by decide) ?_
  refine j_bipush (x := 117) dX9_takesBus_4 (by decide) ?_
  refine j_bipush (x := 115) dX9_takesBus_6 (by decide) ?_
  refine j_iconst (x := 0) dX9_takesBus_8 (by decide) ?_
  refine j_iconst (x := 0) dX9_takesBus_9 (by decide) ?_
  refine j_iconst (x := 0) dX9_takesBus_10 (by decide) ?_
  refine j_callV (as := [.int 3, .int 98, .int 117, .int 115, .int 0, .int 0, .int 0]) (fun x => some (.int x)) (fun _ => h) 9 18 dX9_takesBus_11 ml_RX9_227 tg_X9_spells im_X9_spells se_X9_spells rfl (by decide) (fun x hx => kX9_spells κ.1 κ.2.1 v0 3 98 117 115 0 0 0 h x hx) (by decide) (by decide) rfl rfl (Nat.le_of_ble_eq_true rfl) (fun x1 => ?_)
  show xJ iX9_takesBus κ _ 14 [(0, .ref v0)] [.int x1] h _
  refine j_if_ne (tgt := 19) dX9_takesBus_14 (by decide) (fun c2 => ?_) (fun c2 => ?_)
  · refine j_iconst (x := 0) dX9_takesBus_17 (by decide) ?_
    exact j_zret (0, h) dX9_takesBus_18 rfl rfl (fun q => q)
  · refine j_aload_n 0 dX9_takesBus_19 rfl rfl ?_
    refine j_callV (as := []) (fun _ => none) (fun x => x) 9 18 dX9_takesBus_20 ml_RX9_224 tg_X9_goBehind im_X9_goBehind se_X9_goBehind rfl (by decide) (fun x hx => kX9_goBehind κ.1 κ.2.1 v0 h x hx) (by decide) (by decide) rfl rfl (Nat.le_of_ble_eq_true rfl) (fun h3 => ?_)
    show xJ iX9_takesBus κ _ 23 [(0, .ref v0)] [] h3 _
    refine j_aload_n 0 dX9_takesBus_23 rfl rfl ?_
    refine j_iconst (x := 0) dX9_takesBus_24 (by decide) ?_
    refine j_iconst (x := 1) dX9_takesBus_25 (by decide) ?_
    refine j_bipush (x := 7) dX9_takesBus_26 (by decide) ?_
    refine j_callV (as := [.int 0, .int 1, .int 7]) (fun x => some (.int x.1)) (fun x => x.2) 9 18 dX9_takesBus_28 ml_RX9_231 tg_X9_takes im_X9_takes se_X9_takes rfl (by decide) (fun x hx => kX9_takes κ.1 κ.2.1 v0 0 1 7 h3 x hx) (by decide) (by decide) rfl rfl (Nat.le_of_ble_eq_true rfl) (fun q4 => ?_)
    show xJ iX9_takesBus κ _ 31 [(0, .ref v0)] [.int q4.1] q4.2 _
    refine j_if_ne (tgt := 36) dX9_takesBus_31 (by decide) (fun c5 => ?_) (fun c5 => ?_)
    · refine j_iconst (x := 0) dX9_takesBus_34 (by decide) ?_
      exact j_zret (0, q4.2) dX9_takesBus_35 rfl rfl (fun q => q)
    · refine j_aload_n 0 dX9_takesBus_36 rfl rfl ?_
      refine j_getR 9 18 16 dX9_takesBus_37 fl_RX9_42 (by decide) rfl (by decide) (fun _ _ _ => rfl) (fun x6 => ?_)
      refine j_aload_n 0 dX9_takesBus_40 rfl rfl ?_
      refine j_getR 9 18 17 dX9_takesBus_41 fl_RX9_45 (by decide) rfl (by decide) (fun _ _ _ => rfl) (fun x7 => ?_)
      refine j_iconst (x := 0) dX9_takesBus_44 (by decide) ?_
      refine j_iald dX9_takesBus_45 (fun x8 => ?_)
      refine j_callS (as := [.ref x6, .int x8]) (fun _ => none) (fun x => x) dX9_takesBus_46 ml_RX9_48 tg_X9_begin st_X9_begin (fun x hx => kX9_begin κ.1 κ.2.1 x6 x8 q4.2 x hx) (by decide) (by decide) rfl rfl (Nat.le_of_ble_eq_true rfl) (fun h9 => ?_)
      show xJ iX9_takesBus κ _ 49 [(0, .ref v0)] [] h9 _
      refine j_aload_n 0 dX9_takesBus_49 rfl rfl ?_
      refine j_getI 9 18 14 dX9_takesBus_50 fl_RX9_209 (by decide) rfl (by decide) rfl (fun x10 => ?_)
      refine j_iconst (x := 3) dX9_takesBus_53 (by decide) ?_
      refine j_icmp_ne (tgt := 61) dX9_takesBus_54 (by decide) (fun c11 => ?_) (fun c11 => ?_)
      · refine j_iconst (x := 1) dX9_takesBus_57 (by decide) ?_
        refine j_goto (tgt := 62) dX9_takesBus_58 (by decide) ?_
        refine j_pick [] rfl ?_
        exact hj62 (1, h9)
      · refine j_iconst (x := 0) dX9_takesBus_61 (by decide) ?_
        refine j_pick [] rfl ?_
        exact hj62 (0, h9)
def fX9_takesBridge_j26  (h : Hp) : Option (Int32 × Hp) :=
  some (0, h)
def fX9_takesBridge (v0 : Nat) (h : Hp) : Option (Int32 × Hp) :=
  (xat h v0 (9, 18) (fX9_goBehind v0 h)).bind fun h1 => (xat h1 v0 (9, 18) (fX9_takes v0 0 0 9 h1)).bind fun q2 => if (q2.1 : Int32) = 0 then (fX9_takesBridge_j26 q2.2) else ((xat q2.2 v0 (9, 18) (fX9_takes v0 1 1 9 q2.2)).bind fun q4 => if (q4.1 : Int32) = 0 then (fX9_takesBridge_j26 q4.2) else ((xgR q4.2 v0 (9, 18) 16).bind fun x6 => (xgR q4.2 v0 (9, 18) 17).bind fun x7 => (xaI q4.2 x7 10 0).bind fun x8 => (xgR q4.2 v0 (9, 18) 17).bind fun x9 => (xaI q4.2 x9 10 1).bind fun x10 => (xsI q4.2 x6 (9 + x8) x10).bind fun h11 => some (1, h11)))
abbrev iX9_takesBridge : xI := (cX9_takesBridge, yX9_takesBridge.cls, yX9_takesBridge.name, some .boolean, 1, 7)
set_option maxHeartbeats 4000000 in
set_option maxRecDepth 100000 in
theorem kX9_takesBridge (l : Launch) (η : xEnv) (v0 : Nat) (h : Hp) (x : Int32 × Hp) (hx : fX9_takesBridge v0 h = some x) : xC l η yX9_takesBridge cX9_takesBridge 1 (some .boolean) 7 [.ref v0] h (some (.int x.1)) x.2 := by
  refine xC_of (by decide) (Nat.le_of_ble_eq_true rfl) hx (fun κ x => κ.2.2.2.1 = some (.int x.1) ∧ κ.2.2.2.2 = x.2) ⟨rfl, rfl⟩ (fun κ => ?_)
  show xJ iX9_takesBridge κ _ 0 [(0, .ref v0)] [] h (fX9_takesBridge v0 h)
  unfold fX9_takesBridge
  refine j_have (pj := 26) (Lf := fun v : Hp => []) (Sf := fun v : Hp => []) (Hf := fun v : Hp => v) (jf := fun v : Hp => fX9_takesBridge_j26 v) (fun v => ?_) (fun hj26 => ?_)
  · generalize v = h
    show xJ iX9_takesBridge κ _ 26 [] [] h (fX9_takesBridge_j26 h)
    unfold fX9_takesBridge_j26
    refine j_iconst (x := 0) dX9_takesBridge_26 (by decide) ?_
    exact j_zret (0, h) dX9_takesBridge_27 rfl rfl (fun q => q)
  refine j_aload_n 0 dX9_takesBridge_0 rfl rfl ?_
  refine j_callV (as := []) (fun _ => none) (fun x => x) 9 18 dX9_takesBridge_1 ml_RX9_224 tg_X9_goBehind im_X9_goBehind se_X9_goBehind rfl (by decide) (fun x hx => kX9_goBehind κ.1 κ.2.1 v0 h x hx) (by decide) (by decide) rfl rfl (Nat.le_of_ble_eq_true rfl) (fun h1 => ?_)
  show xJ iX9_takesBridge κ _ 4 [(0, .ref v0)] [] h1 _
  refine j_aload_n 0 dX9_takesBridge_4 rfl rfl ?_
  refine j_iconst (x := 0) dX9_takesBridge_5 (by decide) ?_
  refine j_iconst (x := 0) dX9_takesBridge_6 (by decide) ?_
  refine j_bipush (x := 9) dX9_takesBridge_7 (by decide) ?_
  refine j_callV (as := [.int 0, .int 0, .int 9]) (fun x => some (.int x.1)) (fun x => x.2) 9 18 dX9_takesBridge_9 ml_RX9_231 tg_X9_takes im_X9_takes se_X9_takes rfl (by decide) (fun x hx => kX9_takes κ.1 κ.2.1 v0 0 0 9 h1 x hx) (by decide) (by decide) rfl rfl (Nat.le_of_ble_eq_true rfl) (fun q2 => ?_)
  show xJ iX9_takesBridge κ _ 12 [(0, .ref v0)] [.int q2.1] q2.2 _
  refine j_if_eq (tgt := 26) dX9_takesBridge_12 (by decide) (fun c3 => ?_) (fun c3 => ?_)
  · refine j_pick [] rfl ?_
    exact hj26 q2.2
  · refine j_aload_n 0 dX9_takesBridge_15 rfl rfl ?_
    refine j_iconst (x := 1) dX9_takesBridge_16 (by decide) ?_
    refine j_iconst (x := 1) dX9_takesBridge_17 (by decide) ?_
    refine j_bipush (x := 9) dX9_takesBridge_18 (by decide) ?_
    refine j_callV (as := [.int 1, .int 1, .int 9]) (fun x => some (.int x.1)) (fun x => x.2) 9 18 dX9_takesBridge_20 ml_RX9_231 tg_X9_takes im_X9_takes se_X9_takes rfl (by decide) (fun x hx => kX9_takes κ.1 κ.2.1 v0 1 1 9 q2.2 x hx) (by decide) (by decide) rfl rfl (Nat.le_of_ble_eq_true rfl) (fun q4 => ?_)
    show xJ iX9_takesBridge κ _ 23 [(0, .ref v0)] [.int q4.1] q4.2 _
    refine j_if_ne (tgt := 28) dX9_takesBridge_23 (by decide) (fun c5 => ?_) (fun c5 => ?_)
    · refine j_pick [] rfl ?_
      exact hj26 q4.2
    · refine j_aload_n 0 dX9_takesBridge_28 rfl rfl ?_
      refine j_getR 9 18 16 dX9_takesBridge_29 fl_RX9_42 (by decide) rfl (by decide) (fun _ _ _ => rfl) (fun x6 => ?_)
      refine j_bipush (x := 9) dX9_takesBridge_32 (by decide) ?_
      refine j_aload_n 0 dX9_takesBridge_34 rfl rfl ?_
      refine j_getR 9 18 17 dX9_takesBridge_35 fl_RX9_45 (by decide) rfl (by decide) (fun _ _ _ => rfl) (fun x7 => ?_)
      refine j_iconst (x := 0) dX9_takesBridge_38 (by decide) ?_
      refine j_iald dX9_takesBridge_39 (fun x8 => ?_)
      refine j_iadd dX9_takesBridge_40 ?_
      refine j_aload_n 0 dX9_takesBridge_41 rfl rfl ?_
      refine j_getR 9 18 17 dX9_takesBridge_42 fl_RX9_45 (by decide) rfl (by decide) (fun _ _ _ => rfl) (fun x9 => ?_)
      refine j_iconst (x := 1) dX9_takesBridge_45 (by decide) ?_
      refine j_iald dX9_takesBridge_46 (fun x10 => ?_)
      refine j_iast dX9_takesBridge_47 (fun h11 => ?_)
      refine j_iconst (x := 1) dX9_takesBridge_48 (by decide) ?_
      exact j_zret (1, h11) dX9_takesBridge_49 rfl rfl (fun q => q)
def fX9_takesIdea_j67  (h : Hp) : Option (Int32 × Hp) :=
  some (0, h)
def fX9_takesIdea (v0 : Nat) (h : Hp) : Option (Int32 × Hp) :=
  (xgR h v0 (9, 18) 16).bind fun x1 => (xaI h x1 10 0).bind fun x2 => if (x2 : Int32) = 7 then (some (0, h)) else ((xat h v0 (9, 18) (fX9_goBehind v0 h)).bind fun h4 => (xat h4 v0 (9, 18) (fX9_takes v0 0 0 5 h4)).bind fun q5 => if (q5.1 : Int32) = 0 then (fX9_takesIdea_j67 q5.2) else ((xat q5.2 v0 (9, 18) (fX9_takes v0 1 1 9 q5.2)).bind fun q7 => if (q7.1 : Int32) = 0 then (fX9_takesIdea_j67 q7.2) else ((xat q7.2 v0 (9, 18) (fX9_takes v0 2 0 8 q7.2)).bind fun q9 => if (q9.1 : Int32) = 0 then (fX9_takesIdea_j67 q9.2) else ((xgR q9.2 v0 (9, 18) 17).bind fun x11 => (xaI q9.2 x11 10 2).bind fun x12 => (xat q9.2 v0 (9, 18) (fX9_takes v0 3 (x12 + 1) 9 q9.2)).bind fun q13 => if (q13.1 : Int32) = 0 then (fX9_takesIdea_j67 q13.2) else ((xgR q13.2 v0 (9, 18) 16).bind fun x15 => (xgR q13.2 v0 (9, 18) 17).bind fun x16 => (xaI q13.2 x16 10 0).bind fun x17 => (xgR q13.2 v0 (9, 18) 17).bind fun x18 => (xaI q13.2 x18 10 1).bind fun x19 => (xgR q13.2 v0 (9, 18) 17).bind fun x20 => (xaI q13.2 x20 10 2).bind fun x21 => (xgR q13.2 v0 (9, 18) 17).bind fun x22 => (xaI q13.2 x22 10 3).bind fun x23 => (fX9_layIdea x15 x17 x19 x21 x23 q13.2).bind fun h24 => some (1, h24))))))
abbrev iX9_takesIdea : xI := (cX9_takesIdea, yX9_takesIdea.cls, yX9_takesIdea.name, some .boolean, 1, 7)
set_option maxHeartbeats 4000000 in
set_option maxRecDepth 100000 in
theorem kX9_takesIdea (l : Launch) (η : xEnv) (v0 : Nat) (h : Hp) (x : Int32 × Hp) (hx : fX9_takesIdea v0 h = some x) : xC l η yX9_takesIdea cX9_takesIdea 1 (some .boolean) 7 [.ref v0] h (some (.int x.1)) x.2 := by
  refine xC_of (by decide) (Nat.le_of_ble_eq_true rfl) hx (fun κ x => κ.2.2.2.1 = some (.int x.1) ∧ κ.2.2.2.2 = x.2) ⟨rfl, rfl⟩ (fun κ => ?_)
  show xJ iX9_takesIdea κ _ 0 [(0, .ref v0)] [] h (fX9_takesIdea v0 h)
  unfold fX9_takesIdea
  refine j_have (pj := 67) (Lf := fun v : Hp => []) (Sf := fun v : Hp => []) (Hf := fun v : Hp => v) (jf := fun v : Hp => fX9_takesIdea_j67 v) (fun v => ?_) (fun hj67 => ?_)
  · generalize v = h
    show xJ iX9_takesIdea κ _ 67 [] [] h (fX9_takesIdea_j67 h)
    unfold fX9_takesIdea_j67
    refine j_iconst (x := 0) dX9_takesIdea_67 (by decide) ?_
    exact j_zret (0, h) dX9_takesIdea_68 rfl rfl (fun q => q)
  refine j_aload_n 0 dX9_takesIdea_0 rfl rfl ?_
  refine j_getR 9 18 16 dX9_takesIdea_1 fl_RX9_42 (by decide) rfl (by decide) (fun _ _ _ => rfl) (fun x1 => ?_)
  refine j_iconst (x := 0) dX9_takesIdea_4 (by decide) ?_
  refine j_iald dX9_takesIdea_5 (fun x2 => ?_)
  refine j_bipush (x := 7) dX9_takesIdea_6 (by decide) ?_
  refine j_icmp_ne (tgt := 13) dX9_takesIdea_8 (by decide) (fun c3 => ?_) (fun c3 => ?_)
  · refine j_iconst (x := 0) dX9_takesIdea_11 (by decide) ?_
    exact j_zret (0, h) dX9_takesIdea_12 rfl rfl (fun q => q)
  · refine j_aload_n 0 dX9_takesIdea_13 rfl rfl ?_
    refine j_callV (as := []) (fun _ => none) (fun x => x) 9 18 dX9_takesIdea_14 ml_RX9_224 tg_X9_goBehind im_X9_goBehind se_X9_goBehind rfl (by decide) (fun x hx => kX9_goBehind κ.1 κ.2.1 v0 h x hx) (by decide) (by decide) rfl rfl (Nat.le_of_ble_eq_true rfl) (fun h4 => ?_)
    show xJ iX9_takesIdea κ _ 17 [(0, .ref v0)] [] h4 _
    refine j_aload_n 0 dX9_takesIdea_17 rfl rfl ?_
    refine j_iconst (x := 0) dX9_takesIdea_18 (by decide) ?_
    refine j_iconst (x := 0) dX9_takesIdea_19 (by decide) ?_
    refine j_iconst (x := 5) dX9_takesIdea_20 (by decide) ?_
    refine j_callV (as := [.int 0, .int 0, .int 5]) (fun x => some (.int x.1)) (fun x => x.2) 9 18 dX9_takesIdea_21 ml_RX9_231 tg_X9_takes im_X9_takes se_X9_takes rfl (by decide) (fun x hx => kX9_takes κ.1 κ.2.1 v0 0 0 5 h4 x hx) (by decide) (by decide) rfl rfl (Nat.le_of_ble_eq_true rfl) (fun q5 => ?_)
    show xJ iX9_takesIdea κ _ 24 [(0, .ref v0)] [.int q5.1] q5.2 _
    refine j_if_eq (tgt := 67) dX9_takesIdea_24 (by decide) (fun c6 => ?_) (fun c6 => ?_)
    · refine j_pick [] rfl ?_
      exact hj67 q5.2
    · refine j_aload_n 0 dX9_takesIdea_27 rfl rfl ?_
      refine j_iconst (x := 1) dX9_takesIdea_28 (by decide) ?_
      refine j_iconst (x := 1) dX9_takesIdea_29 (by decide) ?_
      refine j_bipush (x := 9) dX9_takesIdea_30 (by decide) ?_
      refine j_callV (as := [.int 1, .int 1, .int 9]) (fun x => some (.int x.1)) (fun x => x.2) 9 18 dX9_takesIdea_32 ml_RX9_231 tg_X9_takes im_X9_takes se_X9_takes rfl (by decide) (fun x hx => kX9_takes κ.1 κ.2.1 v0 1 1 9 q5.2 x hx) (by decide) (by decide) rfl rfl (Nat.le_of_ble_eq_true rfl) (fun q7 => ?_)
      show xJ iX9_takesIdea κ _ 35 [(0, .ref v0)] [.int q7.1] q7.2 _
      refine j_if_eq (tgt := 67) dX9_takesIdea_35 (by decide) (fun c8 => ?_) (fun c8 => ?_)
      · refine j_pick [] rfl ?_
        exact hj67 q7.2
      · refine j_aload_n 0 dX9_takesIdea_38 rfl rfl ?_
        refine j_iconst (x := 2) dX9_takesIdea_39 (by decide) ?_
        refine j_iconst (x := 0) dX9_takesIdea_40 (by decide) ?_
        refine j_bipush (x := 8) dX9_takesIdea_41 (by decide) ?_
        refine j_callV (as := [.int 2, .int 0, .int 8]) (fun x => some (.int x.1)) (fun x => x.2) 9 18 dX9_takesIdea_43 ml_RX9_231 tg_X9_takes im_X9_takes se_X9_takes rfl (by decide) (fun x hx => kX9_takes κ.1 κ.2.1 v0 2 0 8 q7.2 x hx) (by decide) (by decide) rfl rfl (Nat.le_of_ble_eq_true rfl) (fun q9 => ?_)
        show xJ iX9_takesIdea κ _ 46 [(0, .ref v0)] [.int q9.1] q9.2 _
        refine j_if_eq (tgt := 67) dX9_takesIdea_46 (by decide) (fun c10 => ?_) (fun c10 => ?_)
        · refine j_pick [] rfl ?_
          exact hj67 q9.2
        · refine j_aload_n 0 dX9_takesIdea_49 rfl rfl ?_
          refine j_iconst (x := 3) dX9_takesIdea_50 (by decide) ?_
          refine j_aload_n 0 dX9_takesIdea_51 rfl rfl ?_
          refine j_getR 9 18 17 dX9_takesIdea_52 fl_RX9_45 (by decide) rfl (by decide) (fun _ _ _ => rfl) (fun x11 => ?_)
          refine j_iconst (x := 2) dX9_takesIdea_55 (by decide) ?_
          refine j_iald dX9_takesIdea_56 (fun x12 => ?_)
          refine j_iconst (x := 1) dX9_takesIdea_57 (by decide) ?_
          refine j_iadd dX9_takesIdea_58 ?_
          refine j_bipush (x := 9) dX9_takesIdea_59 (by decide) ?_
          refine j_callV (as := [.int 3, .int (x12 + 1), .int 9]) (fun x => some (.int x.1)) (fun x => x.2) 9 18 dX9_takesIdea_61 ml_RX9_231 tg_X9_takes im_X9_takes se_X9_takes rfl (by decide) (fun x hx => kX9_takes κ.1 κ.2.1 v0 3 (x12 + 1) 9 q9.2 x hx) (by decide) (by decide) rfl rfl (Nat.le_of_ble_eq_true rfl) (fun q13 => ?_)
          show xJ iX9_takesIdea κ _ 64 [(0, .ref v0)] [.int q13.1] q13.2 _
          refine j_if_ne (tgt := 69) dX9_takesIdea_64 (by decide) (fun c14 => ?_) (fun c14 => ?_)
          · refine j_pick [] rfl ?_
            exact hj67 q13.2
          · refine j_aload_n 0 dX9_takesIdea_69 rfl rfl ?_
            refine j_getR 9 18 16 dX9_takesIdea_70 fl_RX9_42 (by decide) rfl (by decide) (fun _ _ _ => rfl) (fun x15 => ?_)
            refine j_aload_n 0 dX9_takesIdea_73 rfl rfl ?_
            refine j_getR 9 18 17 dX9_takesIdea_74 fl_RX9_45 (by decide) rfl (by decide) (fun _ _ _ => rfl) (fun x16 => ?_)
            refine j_iconst (x := 0) dX9_takesIdea_77 (by decide) ?_
            refine j_iald dX9_takesIdea_78 (fun x17 => ?_)
            refine j_aload_n 0 dX9_takesIdea_79 rfl rfl ?_
            refine j_getR 9 18 17 dX9_takesIdea_80 fl_RX9_45 (by decide) rfl (by decide) (fun _ _ _ => rfl) (fun x18 => ?_)
            refine j_iconst (x := 1) dX9_takesIdea_83 (by decide) ?_
            refine j_iald dX9_takesIdea_84 (fun x19 => ?_)
            refine j_aload_n 0 dX9_takesIdea_85 rfl rfl ?_
            refine j_getR 9 18 17 dX9_takesIdea_86 fl_RX9_45 (by decide) rfl (by decide) (fun _ _ _ => rfl) (fun x20 => ?_)
            refine j_iconst (x := 2) dX9_takesIdea_89 (by decide) ?_
            refine j_iald dX9_takesIdea_90 (fun x21 => ?_)
            refine j_aload_n 0 dX9_takesIdea_91 rfl rfl ?_
            refine j_getR 9 18 17 dX9_takesIdea_92 fl_RX9_45 (by decide) rfl (by decide) (fun _ _ _ => rfl) (fun x22 => ?_)
            refine j_iconst (x := 3) dX9_takesIdea_95 (by decide) ?_
            refine j_iald dX9_takesIdea_96 (fun x23 => ?_)
            refine j_callS (as := [.ref x15, .int x17, .int x19, .int x21, .int x23]) (fun _ => none) (fun x => x) dX9_takesIdea_97 ml_RX9_79 tg_X9_layIdea st_X9_layIdea (fun x hx => kX9_layIdea κ.1 κ.2.1 x15 x17 x19 x21 x23 q13.2 x hx) (by decide) (by decide) rfl rfl (Nat.le_of_ble_eq_true rfl) (fun h24 => ?_)
            show xJ iX9_takesIdea κ _ 100 [(0, .ref v0)] [] h24 _
            refine j_iconst (x := 1) dX9_takesIdea_100 (by decide) ?_
            exact j_zret (1, h24) dX9_takesIdea_101 rfl rfl (fun q => q)
def fX9_isQuarrel_j106 (t0 : Int32) (h : Hp) : Option (Int32 × Hp) :=
  if vp_nar .boolean t0 = t0 then some (t0, h) else none
def fX9_isQuarrel_j105  (h : Hp) : Option (Int32 × Hp) :=
  fX9_isQuarrel_j106 0 h
def fX9_isQuarrel_j73 (v0 : Nat) (v1 : Int32) (v2 : Int32) (t0 : Int32) (t1 : Nat) (h : Hp) : Option (Int32 × Hp) :=
  (xpI h t1 (9, 18) 13 t0).bind fun h1 => if (v1 : Int32) = 0 then (fX9_isQuarrel_j105 h1) else (if (v2 : Int32) = 0 then (fX9_isQuarrel_j105 h1) else ((xgR h1 v0 (9, 18) 10).bind fun x4 => (xgI h1 v0 (9, 18) 12).bind fun x5 => (xaI h1 x4 10 (x5 + 6)).bind fun x6 => if (x6 : Int32) = 108 then (fX9_isQuarrel_j106 1 h1) else (fX9_isQuarrel_j105 h1)))
def fX9_isQuarrel_j37 (v0 : Nat) (v1 : Int32) (t0 : Int32) (t1 : Nat) (h : Hp) : Option (Int32 × Hp) :=
  (xpI h t1 (9, 18) 13 t0).bind fun h8 => (xat h8 v0 (9, 18) (fX9_spells v0 6 113 117 97 114 114 101 h8)).bind fun x9 => if (v1 : Int32) = 0 then ((xgI h8 v0 (9, 18) 13).bind fun x11 => fX9_isQuarrel_j73 v0 v1 x9 x11 v0 h8) else (fX9_isQuarrel_j73 v0 v1 x9 7 v0 h8)
def fX9_isQuarrel_j22 (v0 : Nat) (t0 : Int32) (h : Hp) : Option (Int32 × Hp) :=
  if (t0 : Int32) = 0 then ((xgI h v0 (9, 18) 13).bind fun x13 => fX9_isQuarrel_j37 v0 t0 x13 v0 h) else (fX9_isQuarrel_j37 v0 t0 6 v0 h)
def fX9_isQuarrel_j21 (v0 : Nat) (h : Hp) : Option (Int32 × Hp) :=
  fX9_isQuarrel_j22 v0 0 h
def fX9_isQuarrel (v0 : Nat) (h : Hp) : Option (Int32 × Hp) :=
  (xgI h v0 (9, 18) 14).bind fun x14 => if (x14 : Int32) = 1 then ((xgI h v0 (9, 18) 13).bind fun x16 => if (x16 : Int32) = 7 then (fX9_isQuarrel_j22 v0 1 h) else (fX9_isQuarrel_j21 v0 h)) else (fX9_isQuarrel_j21 v0 h)
abbrev iX9_isQuarrel : xI := (cX9_isQuarrel, yX9_isQuarrel.cls, yX9_isQuarrel.name, some .boolean, 3, 3)
set_option maxHeartbeats 4000000 in
set_option maxRecDepth 100000 in
theorem kX9_isQuarrel (l : Launch) (η : xEnv) (v0 : Nat) (h : Hp) (x : Int32 × Hp) (hx : fX9_isQuarrel v0 h = some x) : xC l η yX9_isQuarrel cX9_isQuarrel 3 (some .boolean) 3 [.ref v0] h (some (.int x.1)) x.2 := by
  refine xC_of (by decide) (Nat.le_of_ble_eq_true rfl) hx (fun κ x => κ.2.2.2.1 = some (.int x.1) ∧ κ.2.2.2.2 = x.2) ⟨rfl, rfl⟩ (fun κ => ?_)
  show xJ iX9_isQuarrel κ _ 0 [(0, .ref v0)] [] h (fX9_isQuarrel v0 h)
  unfold fX9_isQuarrel
  refine j_have (pj := 106) (Lf := fun v : Int32 × Hp => []) (Sf := fun v : Int32 × Hp => [.int v.1]) (Hf := fun v : Int32 × Hp => v.2) (jf := fun v : Int32 × Hp => fX9_isQuarrel_j106 v.1 v.2) (fun v => ?_) (fun hj106 => ?_)
  · obtain ⟨t0, h⟩ := v
    show xJ iX9_isQuarrel κ _ 106 [] [.int t0] h (fX9_isQuarrel_j106 t0 h)
    unfold fX9_isQuarrel_j106
    exact j_zretc (t0, h) dX9_isQuarrel_106 rfl (fun q => q)
  refine j_have (pj := 105) (Lf := fun v : Hp => []) (Sf := fun v : Hp => []) (Hf := fun v : Hp => v) (jf := fun v : Hp => fX9_isQuarrel_j105 v) (fun v => ?_) (fun hj105 => ?_)
  · generalize v = h
    show xJ iX9_isQuarrel κ _ 105 [] [] h (fX9_isQuarrel_j105 h)
    unfold fX9_isQuarrel_j105
    refine j_iconst (x := 0) dX9_isQuarrel_105 (by decide) ?_
    refine j_pick [] rfl ?_
    exact hj106 (0, h)
  refine j_have (pj := 73) (Lf := fun v : Int32 × Int32 × Int32 × Nat × Hp => [(0, .ref v0), (1, .int v.1), (2, .int v.2.1)]) (Sf := fun v : Int32 × Int32 × Int32 × Nat × Hp => [.int v.2.2.1, .ref v.2.2.2.1]) (Hf := fun v : Int32 × Int32 × Int32 × Nat × Hp => v.2.2.2.2) (jf := fun v : Int32 × Int32 × Int32 × Nat × Hp => fX9_isQuarrel_j73 v0 v.1 v.2.1 v.2.2.1 v.2.2.2.1 v.2.2.2.2) (fun v => ?_) (fun hj73 => ?_)
  · obtain ⟨v1, v2, t0, t1, h⟩ := v
    show xJ iX9_isQuarrel κ _ 73 [(0, .ref v0), (1, .int v1), (2, .int v2)] [.int t0, .ref t1] h (fX9_isQuarrel_j73 v0 v1 v2 t0 t1 h)
    unfold fX9_isQuarrel_j73
    refine j_putI 9 18 13 dX9_isQuarrel_73 fl_RX9_206 (by decide) rfl (by decide) rfl rfl (fun h1 => ?_)
    refine j_iload_n 1 dX9_isQuarrel_76 rfl rfl ?_
    refine j_if_eq (tgt := 105) dX9_isQuarrel_77 (by decide) (fun c2 => ?_) (fun c2 => ?_)
    · refine j_pick [] rfl ?_
      exact hj105 h1
    · refine j_iload_n 2 dX9_isQuarrel_80 rfl rfl ?_
      refine j_if_eq (tgt := 105) dX9_isQuarrel_81 (by decide) (fun c3 => ?_) (fun c3 => ?_)
      · refine j_pick [] rfl ?_
        exact hj105 h1
      · refine j_aload_n 0 dX9_isQuarrel_84 rfl rfl ?_
        refine j_getR 9 18 10 dX9_isQuarrel_85 fl_RX9_39 (by decide) rfl (by decide) (fun _ _ _ => rfl) (fun x4 => ?_)
        refine j_aload_n 0 dX9_isQuarrel_88 rfl rfl ?_
        refine j_getI 9 18 12 dX9_isQuarrel_89 fl_RX9_203 (by decide) rfl (by decide) rfl (fun x5 => ?_)
        refine j_bipush (x := 6) dX9_isQuarrel_92 (by decide) ?_
        refine j_iadd dX9_isQuarrel_94 ?_
        refine j_iald dX9_isQuarrel_95 (fun x6 => ?_)
        refine j_bipush (x := 108) dX9_isQuarrel_96 (by decide) ?_
        refine j_icmp_ne (tgt := 105) dX9_isQuarrel_98 (by decide) (fun c7 => ?_) (fun c7 => ?_)
        · refine j_iconst (x := 1) dX9_isQuarrel_101 (by decide) ?_
          refine j_goto (tgt := 106) dX9_isQuarrel_102 (by decide) ?_
          refine j_pick [] rfl ?_
          exact hj106 (1, h1)
        · refine j_pick [] rfl ?_
          exact hj105 h1
  refine j_have (pj := 37) (Lf := fun v : Int32 × Int32 × Nat × Hp => [(0, .ref v0), (1, .int v.1)]) (Sf := fun v : Int32 × Int32 × Nat × Hp => [.int v.2.1, .ref v.2.2.1]) (Hf := fun v : Int32 × Int32 × Nat × Hp => v.2.2.2) (jf := fun v : Int32 × Int32 × Nat × Hp => fX9_isQuarrel_j37 v0 v.1 v.2.1 v.2.2.1 v.2.2.2) (fun v => ?_) (fun hj37 => ?_)
  · obtain ⟨v1, t0, t1, h⟩ := v
    show xJ iX9_isQuarrel κ _ 37 [(0, .ref v0), (1, .int v1)] [.int t0, .ref t1] h (fX9_isQuarrel_j37 v0 v1 t0 t1 h)
    unfold fX9_isQuarrel_j37
    refine j_putI 9 18 13 dX9_isQuarrel_37 fl_RX9_206 (by decide) rfl (by decide) rfl rfl (fun h8 => ?_)
    refine j_aload_n 0 dX9_isQuarrel_40 rfl rfl ?_
    refine j_bipush (x := 6) dX9_isQuarrel_41 (by decide) ?_
    refine j_bipush (x := 113) dX9_isQuarrel_43 (by decide) ?_
    refine j_bipush (x := 117) dX9_isQuarrel_45 (by decide) ?_
    refine j_bipush (x := 97) dX9_isQuarrel_47 (by decide) ?_
    refine j_bipush (x := 114) dX9_isQuarrel_49 (by decide) ?_
    refine j_bipush (x := 114) dX9_isQuarrel_51 (by decide) ?_
    refine j_bipush (x := 101) dX9_isQuarrel_53 (by decide) ?_
    refine j_callV (as := [.int 6, .int 113, .int 117, .int 97, .int 114, .int 114, .int 101]) (fun x => some (.int x)) (fun _ => h8) 9 18 dX9_isQuarrel_55 ml_RX9_227 tg_X9_spells im_X9_spells se_X9_spells rfl (by decide) (fun x hx => kX9_spells κ.1 κ.2.1 v0 6 113 117 97 114 114 101 h8 x hx) (by decide) (by decide) rfl rfl (Nat.le_of_ble_eq_true rfl) (fun x9 => ?_)
    show xJ iX9_isQuarrel κ _ 58 [(0, .ref v0), (1, .int v1)] [.int x9] h8 _
    refine j_istore_n (L' := [(2, .int x9), (0, .ref v0), (1, .int v1)]) dX9_isQuarrel_58 rfl (Nat.le_of_ble_eq_true rfl) rfl ?_
    refine j_aload_n 1 dX9_isQuarrel_59 rfl rfl ?_
    refine j_iload_n 2 dX9_isQuarrel_60 rfl rfl ?_
    refine j_if_eq (tgt := 69) dX9_isQuarrel_61 (by decide) (fun c10 => ?_) (fun c10 => ?_)
    · refine j_aload_n 1 dX9_isQuarrel_69 rfl rfl ?_
      refine j_getI 9 18 13 dX9_isQuarrel_70 fl_RX9_206 (by decide) rfl (by decide) rfl (fun x11 => ?_)
      refine j_pick [1, 2, 0] rfl ?_
      exact hj73 (v1, x9, x11, v0, h8)
    · refine j_bipush (x := 7) dX9_isQuarrel_64 (by decide) ?_
      refine j_goto (tgt := 73) dX9_isQuarrel_66 (by decide) ?_
      refine j_pick [1, 2, 0] rfl ?_
      exact hj73 (v1, x9, 7, v0, h8)
  refine j_have (pj := 22) (Lf := fun v : Int32 × Hp => [(0, .ref v0)]) (Sf := fun v : Int32 × Hp => [.int v.1]) (Hf := fun v : Int32 × Hp => v.2) (jf := fun v : Int32 × Hp => fX9_isQuarrel_j22 v0 v.1 v.2) (fun v => ?_) (fun hj22 => ?_)
  · obtain ⟨t0, h⟩ := v
    show xJ iX9_isQuarrel κ _ 22 [(0, .ref v0)] [.int t0] h (fX9_isQuarrel_j22 v0 t0 h)
    unfold fX9_isQuarrel_j22
    refine j_istore_n (L' := [(1, .int t0), (0, .ref v0)]) dX9_isQuarrel_22 rfl (Nat.le_of_ble_eq_true rfl) rfl ?_
    refine j_aload_n 1 dX9_isQuarrel_23 rfl rfl ?_
    refine j_iload_n 0 dX9_isQuarrel_24 rfl rfl ?_
    refine j_if_eq (tgt := 33) dX9_isQuarrel_25 (by decide) (fun c12 => ?_) (fun c12 => ?_)
    · refine j_aload_n 1 dX9_isQuarrel_33 rfl rfl ?_
      refine j_getI 9 18 13 dX9_isQuarrel_34 fl_RX9_206 (by decide) rfl (by decide) rfl (fun x13 => ?_)
      refine j_pick [1, 0] rfl ?_
      exact hj37 (t0, x13, v0, h)
    · refine j_bipush (x := 6) dX9_isQuarrel_28 (by decide) ?_
      refine j_goto (tgt := 37) dX9_isQuarrel_30 (by decide) ?_
      refine j_pick [1, 0] rfl ?_
      exact hj37 (t0, 6, v0, h)
  refine j_have (pj := 21) (Lf := fun v : Hp => [(0, .ref v0)]) (Sf := fun v : Hp => []) (Hf := fun v : Hp => v) (jf := fun v : Hp => fX9_isQuarrel_j21 v0 v) (fun v => ?_) (fun hj21 => ?_)
  · generalize v = h
    show xJ iX9_isQuarrel κ _ 21 [(0, .ref v0)] [] h (fX9_isQuarrel_j21 v0 h)
    unfold fX9_isQuarrel_j21
    refine j_iconst (x := 0) dX9_isQuarrel_21 (by decide) ?_
    refine j_pick [0] rfl ?_
    exact hj22 (0, h)
  refine j_aload_n 0 dX9_isQuarrel_0 rfl rfl ?_
  refine j_getI 9 18 14 dX9_isQuarrel_1 fl_RX9_209 (by decide) rfl (by decide) rfl (fun x14 => ?_)
  refine j_iconst (x := 1) dX9_isQuarrel_4 (by decide) ?_
  refine j_icmp_ne (tgt := 21) dX9_isQuarrel_5 (by decide) (fun c15 => ?_) (fun c15 => ?_)
  · refine j_aload_n 0 dX9_isQuarrel_8 rfl rfl ?_
    refine j_getI 9 18 13 dX9_isQuarrel_9 fl_RX9_206 (by decide) rfl (by decide) rfl (fun x16 => ?_)
    refine j_bipush (x := 7) dX9_isQuarrel_12 (by decide) ?_
    refine j_icmp_ne (tgt := 21) dX9_isQuarrel_14 (by decide) (fun c17 => ?_) (fun c17 => ?_)
    · refine j_iconst (x := 1) dX9_isQuarrel_17 (by decide) ?_
      refine j_goto (tgt := 22) dX9_isQuarrel_18 (by decide) ?_
      refine j_pick [0] rfl ?_
      exact hj22 (1, h)
    · refine j_pick [0] rfl ?_
      exact hj21 h
  · refine j_pick [0] rfl ?_
    exact hj21 h
