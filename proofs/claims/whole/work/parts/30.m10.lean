def fX9_note_j40 (v0 : Nat) (h : Hp) : Option (Int32 × Hp) :=
  (xat h v0 (9, 18) (fX9_bad v0 (-2) h)).bind fun q1 => some (q1.1, q1.2)
def fX9_note (v0 : Nat) (v1 : Int32) (v2 : Int32) (v3 : Int32) (v4 : Int32) (h : Hp) : Option (Int32 × Hp) :=
  (xat h v0 (9, 18) (fX9_isIdea v0 v1 h)).bind fun x2 => if (x2 : Int32) = 0 then (fX9_note_j40 v0 h) else ((fX9_isStop v2 h).bind fun x4 => if (x4 : Int32) = 0 then (fX9_note_j40 v0 h) else ((fX9_in ((v3 : Int32).toInt64) 0 40 h).bind fun x6 => if (x6 : Int32) = 0 then (fX9_note_j40 v0 h) else ((fX9_in ((v4 : Int32).toInt64) 0 9 h).bind fun x8 => if (x8 : Int32) = 0 then (fX9_note_j40 v0 h) else ((xgR h v0 (9, 18) 0).bind fun x10 => (xaI h x10 10 1).bind fun x11 => if (x11 : Int32) = 6 then ((xat h v0 (9, 18) (fX9_full v0 h)).bind fun q13 => some (q13.1, q13.2)) else ((xgR h v0 (9, 18) 0).bind fun x14 => (xaI h x14 10 1).bind fun x15 => (xgR h v0 (9, 18) 0).bind fun x16 => (xsI h x16 (54 + (4 * x15)) v1).bind fun h17 => (xgR h17 v0 (9, 18) 0).bind fun x18 => (xsI h17 x18 ((54 + (4 * x15)) + 1) v2).bind fun h19 => (xgR h19 v0 (9, 18) 0).bind fun x20 => (xsI h19 x20 ((54 + (4 * x15)) + 2) v3).bind fun h21 => (xgR h21 v0 (9, 18) 0).bind fun x22 => (xsI h21 x22 ((54 + (4 * x15)) + 3) v4).bind fun h23 => (xgR h23 v0 (9, 18) 0).bind fun x24 => (xaI h23 x24 10 1).bind fun x25 => (xsI h23 x24 1 (x25 + 1)).bind fun h26 => (xgR h26 v0 (9, 18) 0).bind fun x27 => (xaI h26 x27 10 1).bind fun x28 => some (x28, h26))))))
abbrev iX9_note : xI := (cX9_note, yX9_note.cls, yX9_note.name, some .int, 6, 4)
set_option maxHeartbeats 4000000 in
set_option maxRecDepth 100000 in
theorem kX9_note (l : Launch) (η : xEnv) (v0 : Nat) (v1 : Int32) (v2 : Int32) (v3 : Int32) (v4 : Int32) (h : Hp) (x : Int32 × Hp) (hx : fX9_note v0 v1 v2 v3 v4 h = some x) : xC l η yX9_note cX9_note 6 (some .int) 4 [.ref v0, .int v1, .int v2, .int v3, .int v4] h (some (.int x.1)) x.2 := by
  refine xC_of (by decide) (Nat.le_of_ble_eq_true rfl) hx (fun κ x => κ.2.2.2.1 = some (.int x.1) ∧ κ.2.2.2.2 = x.2) ⟨rfl, rfl⟩ (fun κ => ?_)
  show xJ iX9_note κ _ 0 [(0, .ref v0), (1, .int v1), (2, .int v2), (3, .int v3), (4, .int v4)] [] h (fX9_note v0 v1 v2 v3 v4 h)
  unfold fX9_note
  refine j_have (pj := 40) (Lf := fun v : Hp => [(0, .ref v0)]) (Sf := fun v : Hp => []) (Hf := fun v : Hp => v) (jf := fun v : Hp => fX9_note_j40 v0 v) (fun v => ?_) (fun hj40 => ?_)
  · generalize v = h
    show xJ iX9_note κ _ 40 [(0, .ref v0)] [] h (fX9_note_j40 v0 h)
    unfold fX9_note_j40
    refine j_aload_n 0 dX9_note_40 rfl rfl ?_
    refine j_bipush (x := (-2)) dX9_note_41 (by decide) ?_
    refine j_callV (as := [.int (-2)]) (fun x => some (.int x.1)) (fun x => x.2) 9 18 dX9_note_43 ml_RX9_64 tg_X9_bad im_X9_bad se_X9_bad rfl (by decide) (fun x hx => kX9_bad κ.1 κ.2.1 v0 (-2) h x hx) (by decide) (by decide) rfl rfl (Nat.le_of_ble_eq_true rfl) (fun q1 => ?_)
    show xJ iX9_note κ _ 46 [(0, .ref v0)] [.int q1.1] q1.2 _
    exact j_iret (q1.1, q1.2) dX9_note_46 rfl (fun q => q)
  refine j_aload_n 0 dX9_note_0 rfl rfl ?_
  refine j_iload_n 1 dX9_note_1 rfl rfl ?_
  refine j_callV (as := [.int v1]) (fun x => some (.int x)) (fun _ => h) 9 18 dX9_note_2 ml_RX9_83 tg_X9_isIdea im_X9_isIdea se_X9_isIdea rfl (by decide) (fun x hx => kX9_isIdea κ.1 κ.2.1 v0 v1 h x hx) (by decide) (by decide) rfl rfl (Nat.le_of_ble_eq_true rfl) (fun x2 => ?_)
  show xJ iX9_note κ _ 5 [(0, .ref v0), (1, .int v1), (2, .int v2), (3, .int v3), (4, .int v4)] [.int x2] h _
  refine j_if_eq (tgt := 40) dX9_note_5 (by decide) (fun c3 => ?_) (fun c3 => ?_)
  · refine j_pick [0] rfl ?_
    exact hj40 h
  · refine j_iload_n 2 dX9_note_8 rfl rfl ?_
    refine j_callS (as := [.int v2]) (fun x => some (.int x)) (fun _ => h) dX9_note_9 ml_RX9_68 tg_X9_isStop st_X9_isStop (fun x hx => kX9_isStop κ.1 κ.2.1 v2 h x hx) (by decide) (by decide) rfl rfl (Nat.le_of_ble_eq_true rfl) (fun x4 => ?_)
    show xJ iX9_note κ _ 12 [(0, .ref v0), (1, .int v1), (2, .int v2), (3, .int v3), (4, .int v4)] [.int x4] h _
    refine j_if_eq (tgt := 40) dX9_note_12 (by decide) (fun c5 => ?_) (fun c5 => ?_)
    · refine j_pick [0] rfl ?_
      exact hj40 h
    · refine j_iload_n 3 dX9_note_15 rfl rfl ?_
      refine j_i2l dX9_note_16 ?_
      refine j_lconst (x := 0) dX9_note_17 (by decide) ?_
      refine j_ldc2 dX9_note_18 cL_RX9_149 ?_
      refine j_callS (as := [.long ((v3 : Int32).toInt64), .long 0, .long 40]) (fun x => some (.int x)) (fun _ => h) dX9_note_21 ml_RX9_56 tg_X9_in st_X9_in (fun x hx => kX9_in κ.1 κ.2.1 ((v3 : Int32).toInt64) 0 40 h x hx) (by decide) (by decide) rfl rfl (Nat.le_of_ble_eq_true rfl) (fun x6 => ?_)
      show xJ iX9_note κ _ 24 [(0, .ref v0), (1, .int v1), (2, .int v2), (3, .int v3), (4, .int v4)] [.int x6] h _
      refine j_if_eq (tgt := 40) dX9_note_24 (by decide) (fun c7 => ?_) (fun c7 => ?_)
      · refine j_pick [0] rfl ?_
        exact hj40 h
      · refine j_iload 4 dX9_note_27 rfl ?_
        refine j_i2l dX9_note_29 ?_
        refine j_lconst (x := 0) dX9_note_30 (by decide) ?_
        refine j_ldc2 dX9_note_31 cL_RX9_60 ?_
        refine j_callS (as := [.long ((v4 : Int32).toInt64), .long 0, .long 9]) (fun x => some (.int x)) (fun _ => h) dX9_note_34 ml_RX9_56 tg_X9_in st_X9_in (fun x hx => kX9_in κ.1 κ.2.1 ((v4 : Int32).toInt64) 0 9 h x hx) (by decide) (by decide) rfl rfl (Nat.le_of_ble_eq_true rfl) (fun x8 => ?_)
        show xJ iX9_note κ _ 37 [(0, .ref v0), (1, .int v1), (2, .int v2), (3, .int v3), (4, .int v4)] [.int x8] h _
        refine j_if_ne (tgt := 47) dX9_note_37 (by decide) (fun c9 => ?_) (fun c9 => ?_)
        · refine j_pick [0] rfl ?_
          exact hj40 h
        · refine j_aload_n 0 dX9_note_47 rfl rfl ?_
          refine j_getR 9 18 0 dX9_note_48 fl_RX9_7 (by decide) rfl (by decide) (fun _ _ _ => rfl) (fun x10 => ?_)
          refine j_iconst (x := 1) dX9_note_51 (by decide) ?_
          refine j_iald dX9_note_52 (fun x11 => ?_)
          refine j_bipush (x := 6) dX9_note_53 (by decide) ?_
          refine j_icmp_ne (tgt := 63) dX9_note_55 (by decide) (fun c12 => ?_) (fun c12 => ?_)
          · refine j_aload_n 0 dX9_note_58 rfl rfl ?_
            refine j_callV (as := []) (fun x => some (.int x.1)) (fun x => x.2) 9 18 dX9_note_59 ml_RX9_76 tg_X9_full im_X9_full se_X9_full rfl (by decide) (fun x hx => kX9_full κ.1 κ.2.1 v0 h x hx) (by decide) (by decide) rfl rfl (Nat.le_of_ble_eq_true rfl) (fun q13 => ?_)
            show xJ iX9_note κ _ 62 [(0, .ref v0), (1, .int v1), (2, .int v2), (3, .int v3), (4, .int v4)] [.int q13.1] q13.2 _
            exact j_iret (q13.1, q13.2) dX9_note_62 rfl (fun q => q)
          · refine j_bipush (x := 54) dX9_note_63 (by decide) ?_
            refine j_iconst (x := 4) dX9_note_65 (by decide) ?_
            refine j_aload_n 0 dX9_note_66 rfl rfl ?_
            refine j_getR 9 18 0 dX9_note_67 fl_RX9_7 (by decide) rfl (by decide) (fun _ _ _ => rfl) (fun x14 => ?_)
            refine j_iconst (x := 1) dX9_note_70 (by decide) ?_
            refine j_iald dX9_note_71 (fun x15 => ?_)
            refine j_imul dX9_note_72 ?_
            refine j_iadd dX9_note_73 ?_
            refine j_istore (L' := [(5, .int (54 + (4 * x15))), (0, .ref v0), (1, .int v1), (2, .int v2), (3, .int v3), (4, .int v4)]) dX9_note_74 (Nat.le_of_ble_eq_true rfl) rfl ?_
            refine j_aload_n 1 dX9_note_76 rfl rfl ?_
            refine j_getR 9 18 0 dX9_note_77 fl_RX9_7 (by decide) rfl (by decide) (fun _ _ _ => rfl) (fun x16 => ?_)
            refine j_iload 0 dX9_note_80 rfl ?_
            refine j_iload_n 2 dX9_note_82 rfl rfl ?_
            refine j_iast dX9_note_83 (fun h17 => ?_)
            refine j_aload_n 1 dX9_note_84 rfl rfl ?_
            refine j_getR 9 18 0 dX9_note_85 fl_RX9_7 (by decide) rfl (by decide) (fun _ _ _ => rfl) (fun x18 => ?_)
            refine j_iload 0 dX9_note_88 rfl ?_
            refine j_iconst (x := 1) dX9_note_90 (by decide) ?_
            refine j_iadd dX9_note_91 ?_
            refine j_iload_n 3 dX9_note_92 rfl rfl ?_
            refine j_iast dX9_note_93 (fun h19 => ?_)
            refine j_aload_n 1 dX9_note_94 rfl rfl ?_
            refine j_getR 9 18 0 dX9_note_95 fl_RX9_7 (by decide) rfl (by decide) (fun _ _ _ => rfl) (fun x20 => ?_)
            refine j_iload 0 dX9_note_98 rfl ?_
            refine j_iconst (x := 2) dX9_note_100 (by decide) ?_
            refine j_iadd dX9_note_101 ?_
            refine j_iload_n 4 dX9_note_102 rfl rfl ?_
            refine j_iast dX9_note_103 (fun h21 => ?_)
            refine j_aload_n 1 dX9_note_104 rfl rfl ?_
            refine j_getR 9 18 0 dX9_note_105 fl_RX9_7 (by decide) rfl (by decide) (fun _ _ _ => rfl) (fun x22 => ?_)
            refine j_iload 0 dX9_note_108 rfl ?_
            refine j_iconst (x := 3) dX9_note_110 (by decide) ?_
            refine j_iadd dX9_note_111 ?_
            refine j_iload 5 dX9_note_112 rfl ?_
            refine j_iast dX9_note_114 (fun h23 => ?_)
            refine j_aload_n 1 dX9_note_115 rfl rfl ?_
            refine j_getR 9 18 0 dX9_note_116 fl_RX9_7 (by decide) rfl (by decide) (fun _ _ _ => rfl) (fun x24 => ?_)
            refine j_iconst (x := 1) dX9_note_119 (by decide) ?_
            refine j_dup2 dX9_note_120 rfl rfl ?_
            refine j_iald dX9_note_121 (fun x25 => ?_)
            refine j_iconst (x := 1) dX9_note_122 (by decide) ?_
            refine j_iadd dX9_note_123 ?_
            refine j_iast dX9_note_124 (fun h26 => ?_)
            refine j_aload_n 1 dX9_note_125 rfl rfl ?_
            refine j_getR 9 18 0 dX9_note_126 fl_RX9_7 (by decide) rfl (by decide) (fun _ _ _ => rfl) (fun x27 => ?_)
            refine j_iconst (x := 1) dX9_note_129 (by decide) ?_
            refine j_iald dX9_note_130 (fun x28 => ?_)
            exact j_iret (x28, h26) dX9_note_131 rfl (fun q => q)
def fX8_forget (v0 : Nat) (h : Hp) : Option (Int32 × Hp) :=
  (xgR h v0 (8, 12) 0).bind fun x1 => (xgI h x1 (0, 16) 8).bind fun x2 => (xgR h v0 (8, 12) 0).bind fun x3 => (xpI h x3 (0, 16) 8 0).bind fun h4 => some (x2, h4)
abbrev iX8_forget : xI := (cX8_forget, yX8_forget.cls, yX8_forget.name, some .int, 2, 2)
set_option maxHeartbeats 4000000 in
set_option maxRecDepth 100000 in
theorem kX8_forget (l : Launch) (η : xEnv) (v0 : Nat) (h : Hp) (x : Int32 × Hp) (hx : fX8_forget v0 h = some x) : xC l η yX8_forget cX8_forget 2 (some .int) 2 [.ref v0] h (some (.int x.1)) x.2 := by
  refine xC_of (by decide) (Nat.le_of_ble_eq_true rfl) hx (fun κ x => κ.2.2.2.1 = some (.int x.1) ∧ κ.2.2.2.2 = x.2) ⟨rfl, rfl⟩ (fun κ => ?_)
  show xJ iX8_forget κ _ 0 [(0, .ref v0)] [] h (fX8_forget v0 h)
  unfold fX8_forget
  refine j_aload_n 0 dX8_forget_0 rfl rfl ?_
  refine j_getR 8 12 0 dX8_forget_1 fl_RX8_12 (by decide) rfl (by decide) (fun _ _ _ => rfl) (fun x1 => ?_)
  refine j_getI 0 16 8 dX8_forget_4 fl_RX8_240 (by decide) rfl (by decide) rfl (fun x2 => ?_)
  refine j_istore_n (L' := [(1, .int x2), (0, .ref v0)]) dX8_forget_7 rfl (Nat.le_of_ble_eq_true rfl) rfl ?_
  refine j_aload_n 1 dX8_forget_8 rfl rfl ?_
  refine j_getR 8 12 0 dX8_forget_9 fl_RX8_12 (by decide) rfl (by decide) (fun _ _ _ => rfl) (fun x3 => ?_)
  refine j_iconst (x := 0) dX8_forget_12 (by decide) ?_
  refine j_putI 0 16 8 dX8_forget_13 fl_RX8_240 (by decide) rfl (by decide) rfl rfl (fun h4 => ?_)
  refine j_iload_n 0 dX8_forget_16 rfl rfl ?_
  exact j_iret (x2, h4) dX8_forget_17 rfl (fun q => q)
def fX9_forget (v0 : Nat) (h : Hp) : Option (Int32 × Hp) :=
  (xgR h v0 (9, 18) 0).bind fun x1 => (xaI h x1 10 1).bind fun x2 => (xgR h v0 (9, 18) 0).bind fun x3 => (xsI h x3 1 0).bind fun h4 => some (x2, h4)
abbrev iX9_forget : xI := (cX9_forget, yX9_forget.cls, yX9_forget.name, some .int, 2, 2)
set_option maxHeartbeats 4000000 in
set_option maxRecDepth 100000 in
theorem kX9_forget (l : Launch) (η : xEnv) (v0 : Nat) (h : Hp) (x : Int32 × Hp) (hx : fX9_forget v0 h = some x) : xC l η yX9_forget cX9_forget 2 (some .int) 2 [.ref v0] h (some (.int x.1)) x.2 := by
  refine xC_of (by decide) (Nat.le_of_ble_eq_true rfl) hx (fun κ x => κ.2.2.2.1 = some (.int x.1) ∧ κ.2.2.2.2 = x.2) ⟨rfl, rfl⟩ (fun κ => ?_)
  show xJ iX9_forget κ _ 0 [(0, .ref v0)] [] h (fX9_forget v0 h)
  unfold fX9_forget
  refine j_aload_n 0 dX9_forget_0 rfl rfl ?_
  refine j_getR 9 18 0 dX9_forget_1 fl_RX9_7 (by decide) rfl (by decide) (fun _ _ _ => rfl) (fun x1 => ?_)
  refine j_iconst (x := 1) dX9_forget_4 (by decide) ?_
  refine j_iald dX9_forget_5 (fun x2 => ?_)
  refine j_istore_n (L' := [(1, .int x2), (0, .ref v0)]) dX9_forget_6 rfl (Nat.le_of_ble_eq_true rfl) rfl ?_
  refine j_aload_n 1 dX9_forget_7 rfl rfl ?_
  refine j_getR 9 18 0 dX9_forget_8 fl_RX9_7 (by decide) rfl (by decide) (fun _ _ _ => rfl) (fun x3 => ?_)
  refine j_iconst (x := 1) dX9_forget_11 (by decide) ?_
  refine j_iconst (x := 0) dX9_forget_12 (by decide) ?_
  refine j_iast dX9_forget_13 (fun h4 => ?_)
  refine j_iload_n 0 dX9_forget_14 rfl rfl ?_
  exact j_iret (x2, h4) dX9_forget_15 rfl (fun q => q)
def fX0_fitsNotes_j67  (h : Hp) : Option (Int32) :=
  some 0
def fX0_fitsNotes_j69 (v0 : Nat) (v1 : Int32) (v2 : Int32) (v3 : Int32) (h : Hp) : Option ((Int32) ⊕ ((Unit) ⊕ (Unit))) :=
  some (Sum.inl (v3 + 1))
def fX0_fitsNotes_b2 (v0 : Nat) (v1 : Int32) (v2 : Int32) (h : Hp) (s2 : Int32) : Option ((Int32) ⊕ ((Unit) ⊕ (Unit))) :=
  (xgI h v0 (0, 16) 8).bind fun x1 => if (x1 : Int32) ≤ s2 then (some (Sum.inr (Sum.inr ()))) else ((xgR h v0 (0, 16) 9).bind fun x3 => (xaI h x3 10 s2).bind fun x4 => if (x4 : Int32) = v1 then ((xgR h v0 (0, 16) 10).bind fun x6 => (xaI h x6 10 s2).bind fun x7 => (xgR h v0 (0, 16) 4).bind fun x8 => (xaI h x8 10 v1).bind fun x9 => (fX8_swayOf v2 x9 x7 h).bind fun x10 => (xgR h v0 (0, 16) 11).bind fun x11 => (xaI h x11 10 s2).bind fun x12 => if (x10 : Int32) = x12 then ((fX8_tallOf v2 x7 h).bind fun x14 => (xgR h v0 (0, 16) 12).bind fun x15 => (xaI h x15 10 s2).bind fun x16 => if (x14 : Int32) = x16 then (fX0_fitsNotes_j69 v0 v1 v2 s2 h) else (some (Sum.inr (Sum.inl ())))) else (some (Sum.inr (Sum.inl ())))) else (fX0_fitsNotes_j69 v0 v1 v2 s2 h))
def fX0_fitsNotes (v0 : Nat) (v1 : Int32) (v2 : Int32) (h : Hp) : Option (Int32) :=
  (xloop (fX0_fitsNotes_b2 v0 v1 v2 h) 1000000 0).bind (fun q => match q with | .inl r2 => (fX0_fitsNotes_j67 h) | .inr r2 => (some 1))
abbrev iX0_fitsNotes : xI := (cX0_fitsNotes, yX0_fitsNotes.cls, yX0_fitsNotes.name, some .boolean, 5, 3)
set_option maxHeartbeats 4000000 in
set_option maxRecDepth 100000 in
theorem kX0_fitsNotes (l : Launch) (η : xEnv) (v0 : Nat) (v1 : Int32) (v2 : Int32) (h : Hp) (x : Int32) (hx : fX0_fitsNotes v0 v1 v2 h = some x) : xC l η yX0_fitsNotes cX0_fitsNotes 5 (some .boolean) 3 [.ref v0, .int v1, .int v2] h (some (.int x)) h := by
  refine xC_of (by decide) (Nat.le_of_ble_eq_true rfl) hx (fun κ x => κ.2.2.2.1 = some (.int x) ∧ κ.2.2.2.2 = h) ⟨rfl, rfl⟩ (fun κ => ?_)
  show xJ iX0_fitsNotes κ _ 0 [(0, .ref v0), (1, .int v1), (2, .int v2)] [] h (fX0_fitsNotes v0 v1 v2 h)
  unfold fX0_fitsNotes
  refine j_have (pj := 67) (Lf := fun v : Unit => []) (Sf := fun v : Unit => []) (Hf := fun v : Unit => h) (jf := fun v : Unit => fX0_fitsNotes_j67 h) (fun v => ?_) (fun hj67 => ?_)
  · skip
    show xJ iX0_fitsNotes κ _ 67 [] [] h (fX0_fitsNotes_j67 h)
    unfold fX0_fitsNotes_j67
    refine j_iconst (x := 0) dX0_fitsNotes_67 (by decide) ?_
    exact j_zret 0 dX0_fitsNotes_68 rfl rfl (fun q => q)
  refine j_iconst (x := 0) dX0_fitsNotes_0 (by decide) ?_
  refine j_istore_n (L' := [(3, .int 0), (0, .ref v0), (1, .int v1), (2, .int v2)]) dX0_fitsNotes_1 rfl (Nat.le_of_ble_eq_true rfl) rfl ?_
  refine j_pick [1, 2, 3, 0] rfl ?_
  refine j_loop (pc := 2) (Lf := fun s2 : Int32 => [(0, .ref v0), (1, .int v1), (2, .int v2), (3, .int s2)]) (Hf := fun s2 : Int32 => h) (fun s2 => ?_) 1000000 0
  show xJ iX0_fitsNotes κ _ 2 [(0, .ref v0), (1, .int v1), (2, .int v2), (3, .int s2)] [] h (fX0_fitsNotes_b2 v0 v1 v2 h s2)
  unfold fX0_fitsNotes_b2
  refine j_have (pj := 69) (Lf := fun v : Int32 => [(0, .ref v0), (1, .int v1), (2, .int v2), (3, .int v)]) (Sf := fun v : Int32 => []) (Hf := fun v : Int32 => h) (jf := fun v : Int32 => fX0_fitsNotes_j69 v0 v1 v2 v h) (fun v => ?_) (fun hj69 => ?_)
  · generalize v = v3
    show xJ iX0_fitsNotes κ _ 69 [(0, .ref v0), (1, .int v1), (2, .int v2), (3, .int v3)] [] h (fX0_fitsNotes_j69 v0 v1 v2 v3 h)
    unfold fX0_fitsNotes_j69
    refine j_iinc (y := v3 + 1) (L' := [(3, .int (v3 + 1)), (0, .ref v0), (1, .int v1), (2, .int v2)]) 3 dX0_fitsNotes_69 rfl rfl (Nat.le_of_ble_eq_true rfl) rfl ?_
    refine j_goto (tgt := 2) dX0_fitsNotes_72 (by decide) ?_
    refine j_pick [1, 2, 3, 0] rfl ?_
    exact j_again (v3 + 1) rfl rfl
  refine j_iload_n 3 dX0_fitsNotes_2 rfl rfl ?_
  refine j_aload_n 0 dX0_fitsNotes_3 rfl rfl ?_
  refine j_getI 0 16 8 dX0_fitsNotes_4 fl_RX0_60 (by decide) rfl (by decide) rfl (fun x1 => ?_)
  refine j_icmp_ge (tgt := 75) dX0_fitsNotes_7 (by decide) (fun c2 => ?_) (fun c2 => ?_)
  · refine j_exit (Sum.inr ()) ?_
    try dsimp only
    refine j_iconst (x := 1) dX0_fitsNotes_75 (by decide) ?_
    exact j_zret 1 dX0_fitsNotes_76 rfl rfl (fun q => q)
  · refine j_aload_n 0 dX0_fitsNotes_10 rfl rfl ?_
    refine j_getR 0 16 9 dX0_fitsNotes_11 fl_RX0_34 (by decide) rfl (by decide) (fun _ _ _ => rfl) (fun x3 => ?_)
    refine j_iload_n 3 dX0_fitsNotes_14 rfl rfl ?_
    refine j_iald dX0_fitsNotes_15 (fun x4 => ?_)
    refine j_iload_n 1 dX0_fitsNotes_16 rfl rfl ?_
    refine j_icmp_eq (tgt := 23) dX0_fitsNotes_17 (by decide) (fun c5 => ?_) (fun c5 => ?_)
    · refine j_aload_n 0 dX0_fitsNotes_23 rfl rfl ?_
      refine j_getR 0 16 10 dX0_fitsNotes_24 fl_RX0_37 (by decide) rfl (by decide) (fun _ _ _ => rfl) (fun x6 => ?_)
      refine j_iload_n 3 dX0_fitsNotes_27 rfl rfl ?_
      refine j_iald dX0_fitsNotes_28 (fun x7 => ?_)
      refine j_istore (L' := [(4, .int x7), (0, .ref v0), (1, .int v1), (2, .int v2), (3, .int s2)]) dX0_fitsNotes_29 (Nat.le_of_ble_eq_true rfl) rfl ?_
      refine j_iload_n 3 dX0_fitsNotes_31 rfl rfl ?_
      refine j_aload_n 1 dX0_fitsNotes_32 rfl rfl ?_
      refine j_getR 0 16 4 dX0_fitsNotes_33 fl_RX0_22 (by decide) rfl (by decide) (fun _ _ _ => rfl) (fun x8 => ?_)
      refine j_iload_n 2 dX0_fitsNotes_36 rfl rfl ?_
      refine j_iald dX0_fitsNotes_37 (fun x9 => ?_)
      refine j_iload 0 dX0_fitsNotes_38 rfl ?_
      refine j_callSN (as := [.int v2, .int x9, .int x7]) (fun x => some (.int x)) (fun _ => h) dX0_fitsNotes_40 nl_RX0_134 tg_X8_swayOf st_X8_swayOf (fun x hx => kX8_swayOf κ.1 κ.2.1 v2 x9 x7 h x hx) (by decide) (by decide) rfl rfl (Nat.le_of_ble_eq_true rfl) (fun x10 => ?_)
      show xJ iX0_fitsNotes κ _ 43 [(4, .int x7), (0, .ref v0), (1, .int v1), (2, .int v2), (3, .int s2)] [.int x10] h _
      refine j_aload_n 1 dX0_fitsNotes_43 rfl rfl ?_
      refine j_getR 0 16 11 dX0_fitsNotes_44 fl_RX0_40 (by decide) rfl (by decide) (fun _ _ _ => rfl) (fun x11 => ?_)
      refine j_iload_n 4 dX0_fitsNotes_47 rfl rfl ?_
      refine j_iald dX0_fitsNotes_48 (fun x12 => ?_)
      refine j_icmp_ne (tgt := 67) dX0_fitsNotes_49 (by decide) (fun c13 => ?_) (fun c13 => ?_)
      · refine j_iload_n 3 dX0_fitsNotes_52 rfl rfl ?_
        refine j_iload 0 dX0_fitsNotes_53 rfl ?_
        refine j_callSN (as := [.int v2, .int x7]) (fun x => some (.int x)) (fun _ => h) dX0_fitsNotes_55 nl_RX0_128 tg_X8_tallOf st_X8_tallOf (fun x hx => kX8_tallOf κ.1 κ.2.1 v2 x7 h x hx) (by decide) (by decide) rfl rfl (Nat.le_of_ble_eq_true rfl) (fun x14 => ?_)
        show xJ iX0_fitsNotes κ _ 58 [(4, .int x7), (0, .ref v0), (1, .int v1), (2, .int v2), (3, .int s2)] [.int x14] h _
        refine j_aload_n 1 dX0_fitsNotes_58 rfl rfl ?_
        refine j_getR 0 16 12 dX0_fitsNotes_59 fl_RX0_43 (by decide) rfl (by decide) (fun _ _ _ => rfl) (fun x15 => ?_)
        refine j_iload_n 4 dX0_fitsNotes_62 rfl rfl ?_
        refine j_iald dX0_fitsNotes_63 (fun x16 => ?_)
        refine j_icmp_eq (tgt := 69) dX0_fitsNotes_64 (by decide) (fun c17 => ?_) (fun c17 => ?_)
        · refine j_pick [1, 2, 3, 4] rfl ?_
          exact hj69 s2
        · refine j_exit (Sum.inl ()) ?_
          try dsimp only
          refine j_pick [] rfl ?_
          exact hj67 ()
      · refine j_exit (Sum.inl ()) ?_
        try dsimp only
        refine j_pick [] rfl ?_
        exact hj67 ()
    · refine j_goto (tgt := 69) dX0_fitsNotes_20 (by decide) ?_
      refine j_pick [0, 1, 2, 3] rfl ?_
      exact hj69 s2
def fX0_kindsByNotes_j25 (v0 : Nat) (v1 : Int32) (v2 : Int32) (v3 : Int32) (h : Hp) : Option ((Int32 × Int32) ⊕ ((Int32))) :=
  some (Sum.inl (v2, v3 + 1))
def fX0_kindsByNotes_b4 (v0 : Nat) (v1 : Int32) (h : Hp) (s4 : Int32 × Int32) : Option ((Int32 × Int32) ⊕ ((Int32))) :=
  if (6 : Int32) ≤ s4.2 then (some (Sum.inr s4.1)) else ((xat h v0 (0, 16) (fX0_fitsNotes v0 v1 s4.2 h)).bind fun x2 => if (x2 : Int32) = 0 then (fX0_kindsByNotes_j25 v0 v1 s4.1 s4.2 h) else (fX0_kindsByNotes_j25 v0 v1 (s4.1 ||| (1 <<< (s4.2 &&& 31))) s4.2 h))
def fX0_kindsByNotes (v0 : Nat) (v1 : Int32) (h : Hp) : Option (Int32) :=
  (xloop (fX0_kindsByNotes_b4 v0 v1 h) 1000000 (0, 0)).bind (fun r4 => some r4)
abbrev iX0_kindsByNotes : xI := (cX0_kindsByNotes, yX0_kindsByNotes.cls, yX0_kindsByNotes.name, some .int, 4, 4)
set_option maxHeartbeats 4000000 in
set_option maxRecDepth 100000 in
theorem kX0_kindsByNotes (l : Launch) (η : xEnv) (v0 : Nat) (v1 : Int32) (h : Hp) (x : Int32) (hx : fX0_kindsByNotes v0 v1 h = some x) : xC l η yX0_kindsByNotes cX0_kindsByNotes 4 (some .int) 4 [.ref v0, .int v1] h (some (.int x)) h := by
  refine xC_of (by decide) (Nat.le_of_ble_eq_true rfl) hx (fun κ x => κ.2.2.2.1 = some (.int x) ∧ κ.2.2.2.2 = h) ⟨rfl, rfl⟩ (fun κ => ?_)
  show xJ iX0_kindsByNotes κ _ 0 [(0, .ref v0), (1, .int v1)] [] h (fX0_kindsByNotes v0 v1 h)
  unfold fX0_kindsByNotes
  refine j_iconst (x := 0) dX0_kindsByNotes_0 (by decide) ?_
  refine j_istore_n (L' := [(2, .int 0), (0, .ref v0), (1, .int v1)]) dX0_kindsByNotes_1 rfl (Nat.le_of_ble_eq_true rfl) rfl ?_
  refine j_iconst (x := 0) dX0_kindsByNotes_2 (by decide) ?_
  refine j_istore_n (L' := [(3, .int 0), (2, .int 0), (0, .ref v0), (1, .int v1)]) dX0_kindsByNotes_3 rfl (Nat.le_of_ble_eq_true rfl) rfl ?_
  refine j_pick [2, 3, 1, 0] rfl ?_
  refine j_loop (pc := 4) (Lf := fun s4 : Int32 × Int32 => [(0, .ref v0), (1, .int v1), (2, .int s4.1), (3, .int s4.2)]) (Hf := fun s4 : Int32 × Int32 => h) (fun s4 => ?_) 1000000 (0, 0)
  show xJ iX0_kindsByNotes κ _ 4 [(0, .ref v0), (1, .int v1), (2, .int s4.1), (3, .int s4.2)] [] h (fX0_kindsByNotes_b4 v0 v1 h s4)
  unfold fX0_kindsByNotes_b4
  refine j_have (pj := 25) (Lf := fun v : Int32 × Int32 => [(0, .ref v0), (1, .int v1), (2, .int v.1), (3, .int v.2)]) (Sf := fun v : Int32 × Int32 => []) (Hf := fun v : Int32 × Int32 => h) (jf := fun v : Int32 × Int32 => fX0_kindsByNotes_j25 v0 v1 v.1 v.2 h) (fun v => ?_) (fun hj25 => ?_)
  · obtain ⟨v2, v3⟩ := v
    show xJ iX0_kindsByNotes κ _ 25 [(0, .ref v0), (1, .int v1), (2, .int v2), (3, .int v3)] [] h (fX0_kindsByNotes_j25 v0 v1 v2 v3 h)
    unfold fX0_kindsByNotes_j25
    refine j_iinc (y := v3 + 1) (L' := [(3, .int (v3 + 1)), (0, .ref v0), (1, .int v1), (2, .int v2)]) 3 dX0_kindsByNotes_25 rfl rfl (Nat.le_of_ble_eq_true rfl) rfl ?_
    refine j_goto (tgt := 4) dX0_kindsByNotes_28 (by decide) ?_
    refine j_pick [1, 2, 3, 0] rfl ?_
    exact j_again (v2, v3 + 1) rfl rfl
  refine j_iload_n 3 dX0_kindsByNotes_4 rfl rfl ?_
  refine j_bipush (x := 6) dX0_kindsByNotes_5 (by decide) ?_
  refine j_icmp_ge (tgt := 31) dX0_kindsByNotes_7 (by decide) (fun c1 => ?_) (fun c1 => ?_)
  · refine j_exit s4.1 ?_
    show xJ iX0_kindsByNotes κ _ _ _ _ _ (some s4.1)
    refine j_iload_n 2 dX0_kindsByNotes_31 rfl rfl ?_
    exact j_iret s4.1 dX0_kindsByNotes_32 rfl (fun q => q)
  · refine j_aload_n 0 dX0_kindsByNotes_10 rfl rfl ?_
    refine j_iload_n 1 dX0_kindsByNotes_11 rfl rfl ?_
    refine j_iload_n 3 dX0_kindsByNotes_12 rfl rfl ?_
    refine j_callV (as := [.int v1, .int s4.2]) (fun x => some (.int x)) (fun _ => h) 0 16 dX0_kindsByNotes_13 ml_RX0_138 tg_X0_fitsNotes im_X0_fitsNotes se_X0_fitsNotes rfl (by decide) (fun x hx => kX0_fitsNotes κ.1 κ.2.1 v0 v1 s4.2 h x hx) (by decide) (by decide) rfl rfl (Nat.le_of_ble_eq_true rfl) (fun x2 => ?_)
    show xJ iX0_kindsByNotes κ _ 16 [(0, .ref v0), (1, .int v1), (2, .int s4.1), (3, .int s4.2)] [.int x2] h _
    refine j_if_eq (tgt := 25) dX0_kindsByNotes_16 (by decide) (fun c3 => ?_) (fun c3 => ?_)
    · refine j_pick [0, 1, 2, 3] rfl ?_
      exact hj25 (s4.1, s4.2)
    · refine j_iload_n 2 dX0_kindsByNotes_19 rfl rfl ?_
      refine j_iconst (x := 1) dX0_kindsByNotes_20 (by decide) ?_
      refine j_iload_n 3 dX0_kindsByNotes_21 rfl rfl ?_
      refine j_ishl dX0_kindsByNotes_22 ?_
      refine j_ior dX0_kindsByNotes_23 ?_
      refine j_istore_n (L' := [(2, .int (s4.1 ||| (1 <<< (s4.2 &&& 31)))), (0, .ref v0), (1, .int v1), (3, .int s4.2)]) dX0_kindsByNotes_24 rfl (Nat.le_of_ble_eq_true rfl) rfl ?_
      refine j_pick [1, 2, 0, 3] rfl ?_
      exact hj25 (s4.1 ||| (1 <<< (s4.2 &&& 31)), s4.2)
def fX8_is (v0 : Nat) (v1 : Int32) (h : Hp) : Option (Int32 × Hp) :=
  (xgR h v0 (8, 12) 0).bind fun x1 => (xat h x1 (0, 16) (fX0_has x1 v1 h)).bind fun x2 => if (x2 : Int32) = 0 then ((xat h v0 (8, 12) (fX8_refuseBad v0 h)).bind fun q4 => some (q4.1, q4.2)) else ((xgR h v0 (8, 12) 0).bind fun x5 => (xat h x5 (0, 16) (fX0_kindsByNotes x5 v1 h)).bind fun x6 => some (x6, h))
abbrev iX8_is : xI := (cX8_is, yX8_is.cls, yX8_is.name, some .int, 2, 5)
set_option maxHeartbeats 4000000 in
set_option maxRecDepth 100000 in
theorem kX8_is (l : Launch) (η : xEnv) (v0 : Nat) (v1 : Int32) (h : Hp) (x : Int32 × Hp) (hx : fX8_is v0 v1 h = some x) : xC l η yX8_is cX8_is 2 (some .int) 5 [.ref v0, .int v1] h (some (.int x.1)) x.2 := by
  refine xC_of (by decide) (Nat.le_of_ble_eq_true rfl) hx (fun κ x => κ.2.2.2.1 = some (.int x.1) ∧ κ.2.2.2.2 = x.2) ⟨rfl, rfl⟩ (fun κ => ?_)
  show xJ iX8_is κ _ 0 [(0, .ref v0), (1, .int v1)] [] h (fX8_is v0 v1 h)
  unfold fX8_is
  refine j_aload_n 0 dX8_is_0 rfl rfl ?_
  refine j_getR 8 12 0 dX8_is_1 fl_RX8_12 (by decide) rfl (by decide) (fun _ _ _ => rfl) (fun x1 => ?_)
  refine j_iload_n 1 dX8_is_4 rfl rfl ?_
  refine j_callV (as := [.int v1]) (fun x => some (.int x)) (fun _ => h) 0 16 dX8_is_5 ml_RX8_162 tg_X0_has im_X0_has se_X0_has rfl (by decide) (fun x hx => kX0_has κ.1 κ.2.1 x1 v1 h x hx) (by decide) (by decide) rfl rfl (Nat.le_of_ble_eq_true rfl) (fun x2 => ?_)
  show xJ iX8_is κ _ 8 [(0, .ref v0), (1, .int v1)] [.int x2] h _
  refine j_if_ne (tgt := 16) dX8_is_8 (by decide) (fun c3 => ?_) (fun c3 => ?_)
  · refine j_aload_n 0 dX8_is_11 rfl rfl ?_
    refine j_callV (as := []) (fun x => some (.int x.1)) (fun x => x.2) 8 12 dX8_is_12 ml_RX8_70 tg_X8_refuseBad im_X8_refuseBad se_X8_refuseBad rfl (by decide) (fun x hx => kX8_refuseBad κ.1 κ.2.1 v0 h x hx) (by decide) (by decide) rfl rfl (Nat.le_of_ble_eq_true rfl) (fun q4 => ?_)
    show xJ iX8_is κ _ 15 [(0, .ref v0), (1, .int v1)] [.int q4.1] q4.2 _
    exact j_iret (q4.1, q4.2) dX8_is_15 rfl (fun q => q)
  · refine j_aload_n 0 dX8_is_16 rfl rfl ?_
    refine j_getR 8 12 0 dX8_is_17 fl_RX8_12 (by decide) rfl (by decide) (fun _ _ _ => rfl) (fun x5 => ?_)
    refine j_iload_n 1 dX8_is_20 rfl rfl ?_
    refine j_callV (as := [.int v1]) (fun x => some (.int x)) (fun _ => h) 0 16 dX8_is_21 ml_RX8_246 tg_X0_kindsByNotes im_X0_kindsByNotes se_X0_kindsByNotes rfl (by decide) (fun x hx => kX0_kindsByNotes κ.1 κ.2.1 x5 v1 h x hx) (by decide) (by decide) rfl rfl (Nat.le_of_ble_eq_true rfl) (fun x6 => ?_)
    show xJ iX8_is κ _ 24 [(0, .ref v0), (1, .int v1)] [.int x6] h _
    exact j_iret (x6, h) dX8_is_24 rfl (fun q => q)
def fX9_kindsOf_j146 (v0 : Nat) (v1 : Int32) (v3 : Int32) (t0 : Int32) (t1 : Int32) (h : Hp) : Option ((Int32 × Int32) ⊕ ((Int32))) :=
  some (Sum.inl (t1 ||| t0, v3 + 1))
def fX9_kindsOf_j125 (v0 : Nat) (v1 : Int32) (v2 : Int32) (v3 : Int32) (v5 : Int32) (t0 : Int32) (h : Hp) : Option ((Int32 × Int32) ⊕ ((Nat × Int32 × Int32 × Int32 × Int32))) :=
  some (Sum.inl (t0, v5 + 1))
def fX9_kindsOf_j124 (v0 : Nat) (v1 : Int32) (v2 : Int32) (v3 : Int32) (v5 : Int32) (h : Hp) : Option ((Int32 × Int32) ⊕ ((Nat × Int32 × Int32 × Int32 × Int32))) :=
  fX9_kindsOf_j125 v0 v1 v2 v3 v5 0 h
def fX9_kindsOf_j120 (v0 : Nat) (v1 : Int32) (v2 : Int32) (v3 : Int32) (v5 : Int32) (h : Hp) : Option ((Int32 × Int32) ⊕ ((Nat × Int32 × Int32 × Int32 × Int32))) :=
  fX9_kindsOf_j125 v0 v1 v2 v3 v5 1 h
def fX9_kindsOf_j97 (v0 : Nat) (v1 : Int32) (v2 : Int32) (v3 : Int32) (v4 : Int32) (v5 : Int32) (v6 : Int32) (t0 : Int32) (h : Hp) : Option ((Int32 × Int32) ⊕ ((Nat × Int32 × Int32 × Int32 × Int32))) :=
  if (v4 : Int32) = 0 then (fX9_kindsOf_j124 v0 v1 v2 v3 v5 h) else ((xgR h v0 (9, 18) 0).bind fun x3 => (xaI h x3 10 v6).bind fun x4 => if (x4 : Int32) = v1 then (if (t0 : Int32) = 0 then (fX9_kindsOf_j124 v0 v1 v2 v3 v5 h) else (fX9_kindsOf_j120 v0 v1 v2 v3 v5 h)) else (fX9_kindsOf_j120 v0 v1 v2 v3 v5 h))
def fX9_kindsOf_j96 (v0 : Nat) (v1 : Int32) (v2 : Int32) (v3 : Int32) (v4 : Int32) (v5 : Int32) (v6 : Int32) (h : Hp) : Option ((Int32 × Int32) ⊕ ((Nat × Int32 × Int32 × Int32 × Int32))) :=
  fX9_kindsOf_j97 v0 v1 v2 v3 v4 v5 v6 0 h
def fX9_kindsOf_b16 (v0 : Nat) (v1 : Int32) (v2 : Int32) (v3 : Int32) (h : Hp) (s16 : Int32 × Int32) : Option ((Int32 × Int32) ⊕ ((Nat × Int32 × Int32 × Int32 × Int32))) :=
  (xgR h v0 (9, 18) 0).bind fun x7 => (xaI h x7 10 1).bind fun x8 => if (x8 : Int32) ≤ s16.2 then (some (Sum.inr (v0, v1, v2, v3, s16.1))) else ((xgR h v0 (9, 18) 0).bind fun x11 => (xaI h x11 10 ((54 + (4 * s16.2)) + 1)).bind fun x12 => (xgR h v0 (9, 18) 0).bind fun x13 => (xaI h x13 10 (26 + v1)).bind fun x14 => (fX9_swayAs v3 x14 x12 h).bind fun x15 => (xgR h v0 (9, 18) 0).bind fun x16 => (xaI h x16 10 ((54 + (4 * s16.2)) + 2)).bind fun x17 => if (x15 : Int32) = x17 then ((fX9_tallAs v3 x12 h).bind fun x19 => (xgR h v0 (9, 18) 0).bind fun x20 => (xaI h x20 10 ((54 + (4 * s16.2)) + 3)).bind fun x21 => if (x19 : Int32) = x21 then (fX9_kindsOf_j97 v0 v1 v2 v3 s16.1 s16.2 (54 + (4 * s16.2)) 1 h) else (fX9_kindsOf_j96 v0 v1 v2 v3 s16.1 s16.2 (54 + (4 * s16.2)) h)) else (fX9_kindsOf_j96 v0 v1 v2 v3 s16.1 s16.2 (54 + (4 * s16.2)) h))
def fX9_kindsOf_b4 (v0 : Nat) (v1 : Int32) (h : Hp) (s4 : Int32 × Int32) : Option ((Int32 × Int32) ⊕ ((Int32))) :=
  if (6 : Int32) ≤ s4.2 then (some (Sum.inr s4.1)) else ((xloop (fX9_kindsOf_b16 v0 v1 s4.1 s4.2 h) 1000000 (1, 0)).bind (fun r16 => if (r16.2.2.2.2 : Int32) = 0 then (fX9_kindsOf_j146 r16.1 r16.2.1 r16.2.2.2.1 0 r16.2.2.1 h) else (fX9_kindsOf_j146 r16.1 r16.2.1 r16.2.2.2.1 (1 <<< (r16.2.2.2.1 &&& 31)) r16.2.2.1 h)))
def fX9_kindsOf (v0 : Nat) (v1 : Int32) (h : Hp) : Option (Int32) :=
  (xloop (fX9_kindsOf_b4 v0 v1 h) 1000000 (0, 0)).bind (fun r4 => some r4)
abbrev iX9_kindsOf : xI := (cX9_kindsOf, yX9_kindsOf.cls, yX9_kindsOf.name, some .int, 9, 3)
set_option maxHeartbeats 4000000 in
set_option maxRecDepth 100000 in
theorem kX9_kindsOf (l : Launch) (η : xEnv) (v0 : Nat) (v1 : Int32) (h : Hp) (x : Int32) (hx : fX9_kindsOf v0 v1 h = some x) : xC l η yX9_kindsOf cX9_kindsOf 9 (some .int) 3 [.ref v0, .int v1] h (some (.int x)) h := by
  refine xC_of (by decide) (Nat.le_of_ble_eq_true rfl) hx (fun κ x => κ.2.2.2.1 = some (.int x) ∧ κ.2.2.2.2 = h) ⟨rfl, rfl⟩ (fun κ => ?_)
  show xJ iX9_kindsOf κ _ 0 [(0, .ref v0), (1, .int v1)] [] h (fX9_kindsOf v0 v1 h)
  unfold fX9_kindsOf
  refine j_iconst (x := 0) dX9_kindsOf_0 (by decide) ?_
  refine j_istore_n (L' := [(2, .int 0), (0, .ref v0), (1, .int v1)]) dX9_kindsOf_1 rfl (Nat.le_of_ble_eq_true rfl) rfl ?_
  refine j_iconst (x := 0) dX9_kindsOf_2 (by decide) ?_
  refine j_istore_n (L' := [(3, .int 0), (2, .int 0), (0, .ref v0), (1, .int v1)]) dX9_kindsOf_3 rfl (Nat.le_of_ble_eq_true rfl) rfl ?_
  refine j_pick [2, 3, 1, 0] rfl ?_
  refine j_loop (pc := 4) (Lf := fun s4 : Int32 × Int32 => [(0, .ref v0), (1, .int v1), (2, .int s4.1), (3, .int s4.2)]) (Hf := fun s4 : Int32 × Int32 => h) (fun s4 => ?_) 1000000 (0, 0)
  show xJ iX9_kindsOf κ _ 4 [(0, .ref v0), (1, .int v1), (2, .int s4.1), (3, .int s4.2)] [] h (fX9_kindsOf_b4 v0 v1 h s4)
  unfold fX9_kindsOf_b4
  refine j_have (pj := 146) (Lf := fun v : Int32 × Int32 × Int32 => [(0, .ref v0), (1, .int v1), (3, .int v.1)]) (Sf := fun v : Int32 × Int32 × Int32 => [.int v.2.1, .int v.2.2]) (Hf := fun v : Int32 × Int32 × Int32 => h) (jf := fun v : Int32 × Int32 × Int32 => fX9_kindsOf_j146 v0 v1 v.1 v.2.1 v.2.2 h) (fun v => ?_) (fun hj146 => ?_)
  · obtain ⟨v3, t0, t1⟩ := v
    show xJ iX9_kindsOf κ _ 146 [(0, .ref v0), (1, .int v1), (3, .int v3)] [.int t0, .int t1] h (fX9_kindsOf_j146 v0 v1 v3 t0 t1 h)
    unfold fX9_kindsOf_j146
    refine j_ior dX9_kindsOf_146 ?_
    refine j_istore_n (L' := [(2, .int (t1 ||| t0)), (0, .ref v0), (1, .int v1), (3, .int v3)]) dX9_kindsOf_147 rfl (Nat.le_of_ble_eq_true rfl) rfl ?_
    refine j_iinc (y := v3 + 1) (L' := [(3, .int (v3 + 1)), (2, .int (t1 ||| t0)), (0, .ref v0), (1, .int v1)]) 3 dX9_kindsOf_148 rfl rfl (Nat.le_of_ble_eq_true rfl) rfl ?_
    refine j_goto (tgt := 4) dX9_kindsOf_151 (by decide) ?_
    refine j_pick [2, 3, 1, 0] rfl ?_
    exact j_again (t1 ||| t0, v3 + 1) rfl rfl
  refine j_iload_n 3 dX9_kindsOf_4 rfl rfl ?_
  refine j_bipush (x := 6) dX9_kindsOf_5 (by decide) ?_
  refine j_icmp_ge (tgt := 154) dX9_kindsOf_7 (by decide) (fun c1 => ?_) (fun c1 => ?_)
  · refine j_exit s4.1 ?_
    show xJ iX9_kindsOf κ _ _ _ _ _ (some s4.1)
    refine j_iload_n 2 dX9_kindsOf_154 rfl rfl ?_
    exact j_iret s4.1 dX9_kindsOf_155 rfl (fun q => q)
  · refine j_iconst (x := 1) dX9_kindsOf_10 (by decide) ?_
    refine j_istore (L' := [(4, .int 1), (0, .ref v0), (1, .int v1), (2, .int s4.1), (3, .int s4.2)]) dX9_kindsOf_11 (Nat.le_of_ble_eq_true rfl) rfl ?_
    refine j_iconst (x := 0) dX9_kindsOf_13 (by decide) ?_
    refine j_istore (L' := [(5, .int 0), (4, .int 1), (0, .ref v0), (1, .int v1), (2, .int s4.1), (3, .int s4.2)]) dX9_kindsOf_14 (Nat.le_of_ble_eq_true rfl) rfl ?_
    refine j_pick [2, 3, 4, 5, 1, 0] rfl ?_
    refine j_loop (pc := 16) (Lf := fun s16 : Int32 × Int32 => [(0, .ref v0), (1, .int v1), (2, .int s4.1), (3, .int s4.2), (4, .int s16.1), (5, .int s16.2)]) (Hf := fun s16 : Int32 × Int32 => h) (fun s16 => ?_) 1000000 (1, 0)
    show xJ iX9_kindsOf κ _ 16 [(0, .ref v0), (1, .int v1), (2, .int s4.1), (3, .int s4.2), (4, .int s16.1), (5, .int s16.2)] [] h (fX9_kindsOf_b16 v0 v1 s4.1 s4.2 h s16)
    unfold fX9_kindsOf_b16
    refine j_have (pj := 125) (Lf := fun v : Int32 × Int32 => [(0, .ref v0), (1, .int v1), (2, .int s4.1), (3, .int s4.2), (5, .int v.1)]) (Sf := fun v : Int32 × Int32 => [.int v.2]) (Hf := fun v : Int32 × Int32 => h) (jf := fun v : Int32 × Int32 => fX9_kindsOf_j125 v0 v1 s4.1 s4.2 v.1 v.2 h) (fun v => ?_) (fun hj125 => ?_)
    · obtain ⟨v5, t0⟩ := v
      show xJ iX9_kindsOf κ _ 125 [(0, .ref v0), (1, .int v1), (2, .int s4.1), (3, .int s4.2), (5, .int v5)] [.int t0] h (fX9_kindsOf_j125 v0 v1 s4.1 s4.2 v5 t0 h)
      unfold fX9_kindsOf_j125
      refine j_istore (L' := [(4, .int t0), (0, .ref v0), (1, .int v1), (2, .int s4.1), (3, .int s4.2), (5, .int v5)]) dX9_kindsOf_125 (Nat.le_of_ble_eq_true rfl) rfl ?_
      refine j_iinc (y := v5 + 1) (L' := [(5, .int (v5 + 1)), (4, .int t0), (0, .ref v0), (1, .int v1), (2, .int s4.1), (3, .int s4.2)]) 5 dX9_kindsOf_127 rfl rfl (Nat.le_of_ble_eq_true rfl) rfl ?_
      refine j_goto (tgt := 16) dX9_kindsOf_130 (by decide) ?_
      refine j_pick [2, 3, 4, 5, 1, 0] rfl ?_
      exact j_again (t0, v5 + 1) rfl rfl
    refine j_have (pj := 124) (Lf := fun v : Int32 => [(0, .ref v0), (1, .int v1), (2, .int s4.1), (3, .int s4.2), (5, .int v)]) (Sf := fun v : Int32 => []) (Hf := fun v : Int32 => h) (jf := fun v : Int32 => fX9_kindsOf_j124 v0 v1 s4.1 s4.2 v h) (fun v => ?_) (fun hj124 => ?_)
    · generalize v = v5
      show xJ iX9_kindsOf κ _ 124 [(0, .ref v0), (1, .int v1), (2, .int s4.1), (3, .int s4.2), (5, .int v5)] [] h (fX9_kindsOf_j124 v0 v1 s4.1 s4.2 v5 h)
      unfold fX9_kindsOf_j124
      refine j_iconst (x := 0) dX9_kindsOf_124 (by decide) ?_
      refine j_pick [0, 1, 2, 3, 4] rfl ?_
      exact hj125 (v5, 0)
    refine j_have (pj := 120) (Lf := fun v : Int32 => [(0, .ref v0), (1, .int v1), (2, .int s4.1), (3, .int s4.2), (5, .int v)]) (Sf := fun v : Int32 => []) (Hf := fun v : Int32 => h) (jf := fun v : Int32 => fX9_kindsOf_j120 v0 v1 s4.1 s4.2 v h) (fun v => ?_) (fun hj120 => ?_)
    · generalize v = v5
      show xJ iX9_kindsOf κ _ 120 [(0, .ref v0), (1, .int v1), (2, .int s4.1), (3, .int s4.2), (5, .int v5)] [] h (fX9_kindsOf_j120 v0 v1 s4.1 s4.2 v5 h)
      unfold fX9_kindsOf_j120
      refine j_iconst (x := 1) dX9_kindsOf_120 (by decide) ?_
      refine j_goto (tgt := 125) dX9_kindsOf_121 (by decide) ?_
      refine j_pick [0, 1, 2, 3, 4] rfl ?_
      exact hj125 (v5, 1)
    refine j_have (pj := 97) (Lf := fun v : Int32 × Int32 × Int32 × Int32 => [(0, .ref v0), (1, .int v1), (2, .int s4.1), (3, .int s4.2), (4, .int v.1), (5, .int v.2.1), (6, .int v.2.2.1)]) (Sf := fun v : Int32 × Int32 × Int32 × Int32 => [.int v.2.2.2]) (Hf := fun v : Int32 × Int32 × Int32 × Int32 => h) (jf := fun v : Int32 × Int32 × Int32 × Int32 => fX9_kindsOf_j97 v0 v1 s4.1 s4.2 v.1 v.2.1 v.2.2.1 v.2.2.2 h) (fun v => ?_) (fun hj97 => ?_)
    · obtain ⟨v4, v5, v6, t0⟩ := v
      show xJ iX9_kindsOf κ _ 97 [(0, .ref v0), (1, .int v1), (2, .int s4.1), (3, .int s4.2), (4, .int v4), (5, .int v5), (6, .int v6)] [.int t0] h (fX9_kindsOf_j97 v0 v1 s4.1 s4.2 v4 v5 v6 t0 h)
      unfold fX9_kindsOf_j97
      refine j_istore (L' := [(8, .int t0), (0, .ref v0), (1, .int v1), (2, .int s4.1), (3, .int s4.2), (4, .int v4), (5, .int v5), (6, .int v6)]) dX9_kindsOf_97 (Nat.le_of_ble_eq_true rfl) rfl ?_
      refine j_iload 5 dX9_kindsOf_99 rfl ?_
      refine j_if_eq (tgt := 124) dX9_kindsOf_101 (by decide) (fun c2 => ?_) (fun c2 => ?_)
      · refine j_pick [1, 2, 3, 4, 6] rfl ?_
        exact hj124 v5
      · refine j_aload_n 1 dX9_kindsOf_104 rfl rfl ?_
        refine j_getR 9 18 0 dX9_kindsOf_105 fl_RX9_7 (by decide) rfl (by decide) (fun _ _ _ => rfl) (fun x3 => ?_)
        refine j_iload 7 dX9_kindsOf_108 rfl ?_
        refine j_iald dX9_kindsOf_110 (fun x4 => ?_)
        refine j_iload_n 2 dX9_kindsOf_111 rfl rfl ?_
        refine j_icmp_ne (tgt := 120) dX9_kindsOf_112 (by decide) (fun c5 => ?_) (fun c5 => ?_)
        · refine j_iload 0 dX9_kindsOf_115 rfl ?_
          refine j_if_eq (tgt := 124) dX9_kindsOf_117 (by decide) (fun c6 => ?_) (fun c6 => ?_)
          · refine j_pick [1, 2, 3, 4, 6] rfl ?_
            exact hj124 v5
          · refine j_pick [1, 2, 3, 4, 6] rfl ?_
            exact hj120 v5
        · refine j_pick [1, 2, 3, 4, 6] rfl ?_
          exact hj120 v5
    refine j_have (pj := 96) (Lf := fun v : Int32 × Int32 × Int32 => [(0, .ref v0), (1, .int v1), (2, .int s4.1), (3, .int s4.2), (4, .int v.1), (5, .int v.2.1), (6, .int v.2.2)]) (Sf := fun v : Int32 × Int32 × Int32 => []) (Hf := fun v : Int32 × Int32 × Int32 => h) (jf := fun v : Int32 × Int32 × Int32 => fX9_kindsOf_j96 v0 v1 s4.1 s4.2 v.1 v.2.1 v.2.2 h) (fun v => ?_) (fun hj96 => ?_)
    · obtain ⟨v4, v5, v6⟩ := v
      show xJ iX9_kindsOf κ _ 96 [(0, .ref v0), (1, .int v1), (2, .int s4.1), (3, .int s4.2), (4, .int v4), (5, .int v5), (6, .int v6)] [] h (fX9_kindsOf_j96 v0 v1 s4.1 s4.2 v4 v5 v6 h)
      unfold fX9_kindsOf_j96
      refine j_iconst (x := 0) dX9_kindsOf_96 (by decide) ?_
      refine j_pick [0, 1, 2, 3, 4, 5, 6] rfl ?_
      exact hj97 (v4, v5, v6, 0)
    refine j_iload 5 dX9_kindsOf_16 rfl ?_
    refine j_aload_n 0 dX9_kindsOf_18 rfl rfl ?_
    refine j_getR 9 18 0 dX9_kindsOf_19 fl_RX9_7 (by decide) rfl (by decide) (fun _ _ _ => rfl) (fun x7 => ?_)
    refine j_iconst (x := 1) dX9_kindsOf_22 (by decide) ?_
    refine j_iald dX9_kindsOf_23 (fun x8 => ?_)
    refine j_icmp_ge (tgt := 133) dX9_kindsOf_24 (by decide) (fun c9 => ?_) (fun c9 => ?_)
    · refine j_exit (v0, v1, s4.1, s4.2, s16.1) ?_
      show xJ iX9_kindsOf κ _ _ _ _ _ (if (s16.1 : Int32) = 0 then (fX9_kindsOf_j146 v0 v1 s4.2 0 s4.1 h) else (fX9_kindsOf_j146 v0 v1 s4.2 (1 <<< (s4.2 &&& 31)) s4.1 h))
      refine j_iload_n 2 dX9_kindsOf_133 rfl rfl ?_
      refine j_iload 4 dX9_kindsOf_134 rfl ?_
      refine j_if_eq (tgt := 145) dX9_kindsOf_136 (by decide) (fun c10 => ?_) (fun c10 => ?_)
      · refine j_iconst (x := 0) dX9_kindsOf_145 (by decide) ?_
        refine j_pick [0, 1, 3] rfl ?_
        exact hj146 (s4.2, 0, s4.1)
      · refine j_iconst (x := 1) dX9_kindsOf_139 (by decide) ?_
        refine j_iload_n 3 dX9_kindsOf_140 rfl rfl ?_
        refine j_ishl dX9_kindsOf_141 ?_
        refine j_goto (tgt := 146) dX9_kindsOf_142 (by decide) ?_
        refine j_pick [0, 1, 3] rfl ?_
        exact hj146 (s4.2, 1 <<< (s4.2 &&& 31), s4.1)
    · refine j_bipush (x := 54) dX9_kindsOf_27 (by decide) ?_
      refine j_iconst (x := 4) dX9_kindsOf_29 (by decide) ?_
      refine j_iload 5 dX9_kindsOf_30 rfl ?_
      refine j_imul dX9_kindsOf_32 ?_
      refine j_iadd dX9_kindsOf_33 ?_
      refine j_istore (L' := [(6, .int (54 + (4 * s16.2))), (0, .ref v0), (1, .int v1), (2, .int s4.1), (3, .int s4.2), (4, .int s16.1), (5, .int s16.2)]) dX9_kindsOf_34 (Nat.le_of_ble_eq_true rfl) rfl ?_
      refine j_aload_n 1 dX9_kindsOf_36 rfl rfl ?_
      refine j_getR 9 18 0 dX9_kindsOf_37 fl_RX9_7 (by decide) rfl (by decide) (fun _ _ _ => rfl) (fun x11 => ?_)
      refine j_iload 0 dX9_kindsOf_40 rfl ?_
      refine j_iconst (x := 1) dX9_kindsOf_42 (by decide) ?_
      refine j_iadd dX9_kindsOf_43 ?_
      refine j_iald dX9_kindsOf_44 (fun x12 => ?_)
      refine j_istore (L' := [(7, .int x12), (6, .int (54 + (4 * s16.2))), (0, .ref v0), (1, .int v1), (2, .int s4.1), (3, .int s4.2), (4, .int s16.1), (5, .int s16.2)]) dX9_kindsOf_45 (Nat.le_of_ble_eq_true rfl) rfl ?_
      refine j_iload_n 5 dX9_kindsOf_47 rfl rfl ?_
      refine j_aload_n 2 dX9_kindsOf_48 rfl rfl ?_
      refine j_getR 9 18 0 dX9_kindsOf_49 fl_RX9_7 (by decide) rfl (by decide) (fun _ _ _ => rfl) (fun x13 => ?_)
      refine j_bipush (x := 26) dX9_kindsOf_52 (by decide) ?_
      refine j_iload_n 3 dX9_kindsOf_54 rfl rfl ?_
      refine j_iadd dX9_kindsOf_55 ?_
      refine j_iald dX9_kindsOf_56 (fun x14 => ?_)
      refine j_iload 0 dX9_kindsOf_57 rfl ?_
      refine j_callS (as := [.int s4.2, .int x14, .int x12]) (fun x => some (.int x)) (fun _ => h) dX9_kindsOf_59 ml_RX9_93 tg_X9_swayAs st_X9_swayAs (fun x hx => kX9_swayAs κ.1 κ.2.1 s4.2 x14 x12 h x hx) (by decide) (by decide) rfl rfl (Nat.le_of_ble_eq_true rfl) (fun x15 => ?_)
      show xJ iX9_kindsOf κ _ 62 [(7, .int x12), (6, .int (54 + (4 * s16.2))), (0, .ref v0), (1, .int v1), (2, .int s4.1), (3, .int s4.2), (4, .int s16.1), (5, .int s16.2)] [.int x15] h _
      refine j_aload_n 2 dX9_kindsOf_62 rfl rfl ?_
      refine j_getR 9 18 0 dX9_kindsOf_63 fl_RX9_7 (by decide) rfl (by decide) (fun _ _ _ => rfl) (fun x16 => ?_)
      refine j_iload 1 dX9_kindsOf_66 rfl ?_
      refine j_iconst (x := 2) dX9_kindsOf_68 (by decide) ?_
      refine j_iadd dX9_kindsOf_69 ?_
      refine j_iald dX9_kindsOf_70 (fun x17 => ?_)
      refine j_icmp_ne (tgt := 96) dX9_kindsOf_71 (by decide) (fun c18 => ?_) (fun c18 => ?_)
      · refine j_iload_n 5 dX9_kindsOf_74 rfl rfl ?_
        refine j_iload 0 dX9_kindsOf_75 rfl ?_
        refine j_callS (as := [.int s4.2, .int x12]) (fun x => some (.int x)) (fun _ => h) dX9_kindsOf_77 ml_RX9_108 tg_X9_tallAs st_X9_tallAs (fun x hx => kX9_tallAs κ.1 κ.2.1 s4.2 x12 h x hx) (by decide) (by decide) rfl rfl (Nat.le_of_ble_eq_true rfl) (fun x19 => ?_)
        show xJ iX9_kindsOf κ _ 80 [(7, .int x12), (6, .int (54 + (4 * s16.2))), (0, .ref v0), (1, .int v1), (2, .int s4.1), (3, .int s4.2), (4, .int s16.1), (5, .int s16.2)] [.int x19] h _
        refine j_aload_n 2 dX9_kindsOf_80 rfl rfl ?_
        refine j_getR 9 18 0 dX9_kindsOf_81 fl_RX9_7 (by decide) rfl (by decide) (fun _ _ _ => rfl) (fun x20 => ?_)
        refine j_iload 1 dX9_kindsOf_84 rfl ?_
        refine j_iconst (x := 3) dX9_kindsOf_86 (by decide) ?_
        refine j_iadd dX9_kindsOf_87 ?_
        refine j_iald dX9_kindsOf_88 (fun x21 => ?_)
        refine j_icmp_ne (tgt := 96) dX9_kindsOf_89 (by decide) (fun c22 => ?_) (fun c22 => ?_)
        · refine j_iconst (x := 1) dX9_kindsOf_92 (by decide) ?_
          refine j_goto (tgt := 97) dX9_kindsOf_93 (by decide) ?_
          refine j_pick [2, 3, 4, 5, 6, 7, 1] rfl ?_
          exact hj97 (s16.1, s16.2, 54 + (4 * s16.2), 1)
        · refine j_pick [2, 3, 4, 5, 6, 7, 1] rfl ?_
          exact hj96 (s16.1, s16.2, 54 + (4 * s16.2))
      · refine j_pick [2, 3, 4, 5, 6, 7, 1] rfl ?_
        exact hj96 (s16.1, s16.2, 54 + (4 * s16.2))
def fX9_is_j22 (t0 : Int32) (h : Hp) : Option (Int32 × Hp) :=
  some (t0, h)
def fX9_is (v0 : Nat) (v1 : Int32) (h : Hp) : Option (Int32 × Hp) :=
  (xat h v0 (9, 18) (fX9_isIdea v0 v1 h)).bind fun x1 => if (x1 : Int32) = 0 then ((xat h v0 (9, 18) (fX9_bad v0 (-2) h)).bind fun q3 => fX9_is_j22 q3.1 q3.2) else ((xat h v0 (9, 18) (fX9_kindsOf v0 v1 h)).bind fun x4 => fX9_is_j22 x4 h)
abbrev iX9_is : xI := (cX9_is, yX9_is.cls, yX9_is.name, some .int, 2, 4)
set_option maxHeartbeats 4000000 in
set_option maxRecDepth 100000 in
theorem kX9_is (l : Launch) (η : xEnv) (v0 : Nat) (v1 : Int32) (h : Hp) (x : Int32 × Hp) (hx : fX9_is v0 v1 h = some x) : xC l η yX9_is cX9_is 2 (some .int) 4 [.ref v0, .int v1] h (some (.int x.1)) x.2 := by
  refine xC_of (by decide) (Nat.le_of_ble_eq_true rfl) hx (fun κ x => κ.2.2.2.1 = some (.int x.1) ∧ κ.2.2.2.2 = x.2) ⟨rfl, rfl⟩ (fun κ => ?_)
  show xJ iX9_is κ _ 0 [(0, .ref v0), (1, .int v1)] [] h (fX9_is v0 v1 h)
  unfold fX9_is
  refine j_have (pj := 22) (Lf := fun v : Int32 × Hp => []) (Sf := fun v : Int32 × Hp => [.int v.1]) (Hf := fun v : Int32 × Hp => v.2) (jf := fun v : Int32 × Hp => fX9_is_j22 v.1 v.2) (fun v => ?_) (fun hj22 => ?_)
  · obtain ⟨t0, h⟩ := v
    show xJ iX9_is κ _ 22 [] [.int t0] h (fX9_is_j22 t0 h)
    unfold fX9_is_j22
    exact j_iret (t0, h) dX9_is_22 rfl (fun q => q)
  refine j_aload_n 0 dX9_is_0 rfl rfl ?_
  refine j_iload_n 1 dX9_is_1 rfl rfl ?_
  refine j_callV (as := [.int v1]) (fun x => some (.int x)) (fun _ => h) 9 18 dX9_is_2 ml_RX9_83 tg_X9_isIdea im_X9_isIdea se_X9_isIdea rfl (by decide) (fun x hx => kX9_isIdea κ.1 κ.2.1 v0 v1 h x hx) (by decide) (by decide) rfl rfl (Nat.le_of_ble_eq_true rfl) (fun x1 => ?_)
  show xJ iX9_is κ _ 5 [(0, .ref v0), (1, .int v1)] [.int x1] h _
  refine j_if_eq (tgt := 16) dX9_is_5 (by decide) (fun c2 => ?_) (fun c2 => ?_)
  · refine j_aload_n 0 dX9_is_16 rfl rfl ?_
    refine j_bipush (x := (-2)) dX9_is_17 (by decide) ?_
    refine j_callV (as := [.int (-2)]) (fun x => some (.int x.1)) (fun x => x.2) 9 18 dX9_is_19 ml_RX9_64 tg_X9_bad im_X9_bad se_X9_bad rfl (by decide) (fun x hx => kX9_bad κ.1 κ.2.1 v0 (-2) h x hx) (by decide) (by decide) rfl rfl (Nat.le_of_ble_eq_true rfl) (fun q3 => ?_)
    show xJ iX9_is κ _ 22 [(0, .ref v0), (1, .int v1)] [.int q3.1] q3.2 _
    refine j_pick [] rfl ?_
    exact hj22 (q3.1, q3.2)
  · refine j_aload_n 0 dX9_is_8 rfl rfl ?_
    refine j_iload_n 1 dX9_is_9 rfl rfl ?_
    refine j_callV (as := [.int v1]) (fun x => some (.int x)) (fun _ => h) 9 18 dX9_is_10 ml_RX9_151 tg_X9_kindsOf im_X9_kindsOf se_X9_kindsOf rfl (by decide) (fun x hx => kX9_kindsOf κ.1 κ.2.1 v0 v1 h x hx) (by decide) (by decide) rfl rfl (Nat.le_of_ble_eq_true rfl) (fun x4 => ?_)
    show xJ iX9_is κ _ 13 [(0, .ref v0), (1, .int v1)] [.int x4] h _
    refine j_goto (tgt := 22) dX9_is_13 (by decide) ?_
    refine j_pick [] rfl ?_
    exact hj22 (x4, h)
def fX8_countAlike_j56 (v0 : Int32) (v1 : Int32) (v2 : Int32) (v3 : Int32) (v4 : Int32) (v5 : Int32) (h : Hp) : Option ((Int32 × Int32) ⊕ ((Int32))) :=
  some (Sum.inl (v4, v5 + 1))
def fX8_countAlike_b6 (v0 : Int32) (v1 : Int32) (v2 : Int32) (v3 : Int32) (h : Hp) (s6 : Int32 × Int32) : Option ((Int32 × Int32) ⊕ ((Int32))) :=
  if (6 : Int32) ≤ s6.2 then (some (Sum.inr s6.1)) else ((fX8_bit v0 s6.2 h).bind fun x2 => if (x2 : Int32) = 1 then ((fX8_swayOf s6.2 v2 v3 h).bind fun x4 => (fX8_swayOf v1 v2 v3 h).bind fun x5 => if (x4 : Int32) = x5 then ((fX8_tallOf s6.2 v3 h).bind fun x7 => (fX8_tallOf v1 v3 h).bind fun x8 => if (x7 : Int32) = x8 then (fX8_countAlike_j56 v0 v1 v2 v3 (s6.1 + 1) s6.2 h) else (fX8_countAlike_j56 v0 v1 v2 v3 s6.1 s6.2 h)) else (fX8_countAlike_j56 v0 v1 v2 v3 s6.1 s6.2 h)) else (fX8_countAlike_j56 v0 v1 v2 v3 s6.1 s6.2 h))
def fX8_countAlike (v0 : Int32) (v1 : Int32) (v2 : Int32) (v3 : Int32) (h : Hp) : Option (Int32) :=
  (xloop (fX8_countAlike_b6 v0 v1 v2 v3 h) 1000000 (0, 0)).bind (fun r6 => some r6)
abbrev iX8_countAlike : xI := (cX8_countAlike, yX8_countAlike.cls, yX8_countAlike.name, some .int, 6, 3)
set_option maxHeartbeats 4000000 in
set_option maxRecDepth 100000 in
theorem kX8_countAlike (l : Launch) (η : xEnv) (v0 : Int32) (v1 : Int32) (v2 : Int32) (v3 : Int32) (h : Hp) (x : Int32) (hx : fX8_countAlike v0 v1 v2 v3 h = some x) : xC l η yX8_countAlike cX8_countAlike 6 (some .int) 3 [.int v0, .int v1, .int v2, .int v3] h (some (.int x)) h := by
  refine xC_of (by decide) (Nat.le_of_ble_eq_true rfl) hx (fun κ x => κ.2.2.2.1 = some (.int x) ∧ κ.2.2.2.2 = h) ⟨rfl, rfl⟩ (fun κ => ?_)
  show xJ iX8_countAlike κ _ 0 [(0, .int v0), (1, .int v1), (2, .int v2), (3, .int v3)] [] h (fX8_countAlike v0 v1 v2 v3 h)
  unfold fX8_countAlike
  refine j_iconst (x := 0) dX8_countAlike_0 (by decide) ?_
  refine j_istore (L' := [(4, .int 0), (0, .int v0), (1, .int v1), (2, .int v2), (3, .int v3)]) dX8_countAlike_1 (Nat.le_of_ble_eq_true rfl) rfl ?_
  refine j_iconst (x := 0) dX8_countAlike_3 (by decide) ?_
  refine j_istore (L' := [(5, .int 0), (4, .int 0), (0, .int v0), (1, .int v1), (2, .int v2), (3, .int v3)]) dX8_countAlike_4 (Nat.le_of_ble_eq_true rfl) rfl ?_
  refine j_pick [2, 3, 4, 5, 1, 0] rfl ?_
  refine j_loop (pc := 6) (Lf := fun s6 : Int32 × Int32 => [(0, .int v0), (1, .int v1), (2, .int v2), (3, .int v3), (4, .int s6.1), (5, .int s6.2)]) (Hf := fun s6 : Int32 × Int32 => h) (fun s6 => ?_) 1000000 (0, 0)
  show xJ iX8_countAlike κ _ 6 [(0, .int v0), (1, .int v1), (2, .int v2), (3, .int v3), (4, .int s6.1), (5, .int s6.2)] [] h (fX8_countAlike_b6 v0 v1 v2 v3 h s6)
  unfold fX8_countAlike_b6
  refine j_have (pj := 56) (Lf := fun v : Int32 × Int32 => [(0, .int v0), (1, .int v1), (2, .int v2), (3, .int v3), (4, .int v.1), (5, .int v.2)]) (Sf := fun v : Int32 × Int32 => []) (Hf := fun v : Int32 × Int32 => h) (jf := fun v : Int32 × Int32 => fX8_countAlike_j56 v0 v1 v2 v3 v.1 v.2 h) (fun v => ?_) (fun hj56 => ?_)
  · obtain ⟨v4, v5⟩ := v
    show xJ iX8_countAlike κ _ 56 [(0, .int v0), (1, .int v1), (2, .int v2), (3, .int v3), (4, .int v4), (5, .int v5)] [] h (fX8_countAlike_j56 v0 v1 v2 v3 v4 v5 h)
    unfold fX8_countAlike_j56
    refine j_iinc (y := v5 + 1) (L' := [(5, .int (v5 + 1)), (0, .int v0), (1, .int v1), (2, .int v2), (3, .int v3), (4, .int v4)]) 5 dX8_countAlike_56 rfl rfl (Nat.le_of_ble_eq_true rfl) rfl ?_
    refine j_goto (tgt := 6) dX8_countAlike_59 (by decide) ?_
    refine j_pick [1, 2, 3, 4, 5, 0] rfl ?_
    exact j_again (v4, v5 + 1) rfl rfl
  refine j_iload 5 dX8_countAlike_6 rfl ?_
  refine j_bipush (x := 6) dX8_countAlike_8 (by decide) ?_
  refine j_icmp_ge (tgt := 62) dX8_countAlike_10 (by decide) (fun c1 => ?_) (fun c1 => ?_)
  · refine j_exit s6.1 ?_
    show xJ iX8_countAlike κ _ _ _ _ _ (some s6.1)
    refine j_iload 4 dX8_countAlike_62 rfl ?_
    exact j_iret s6.1 dX8_countAlike_64 rfl (fun q => q)
  · refine j_iload_n 0 dX8_countAlike_13 rfl rfl ?_
    refine j_iload 5 dX8_countAlike_14 rfl ?_
    refine j_callS (as := [.int v0, .int s6.2]) (fun x => some (.int x)) (fun _ => h) dX8_countAlike_16 ml_RX8_105 tg_X8_bit st_X8_bit (fun x hx => kX8_bit κ.1 κ.2.1 v0 s6.2 h x hx) (by decide) (by decide) rfl rfl (Nat.le_of_ble_eq_true rfl) (fun x2 => ?_)
    show xJ iX8_countAlike κ _ 19 [(0, .int v0), (1, .int v1), (2, .int v2), (3, .int v3), (4, .int s6.1), (5, .int s6.2)] [.int x2] h _
    refine j_iconst (x := 1) dX8_countAlike_19 (by decide) ?_
    refine j_icmp_ne (tgt := 56) dX8_countAlike_20 (by decide) (fun c3 => ?_) (fun c3 => ?_)
    · refine j_iload 5 dX8_countAlike_23 rfl ?_
      refine j_iload_n 2 dX8_countAlike_25 rfl rfl ?_
      refine j_iload_n 3 dX8_countAlike_26 rfl rfl ?_
      refine j_callS (as := [.int s6.2, .int v2, .int v3]) (fun x => some (.int x)) (fun _ => h) dX8_countAlike_27 ml_RX8_187 tg_X8_swayOf st_X8_swayOf (fun x hx => kX8_swayOf κ.1 κ.2.1 s6.2 v2 v3 h x hx) (by decide) (by decide) rfl rfl (Nat.le_of_ble_eq_true rfl) (fun x4 => ?_)
      show xJ iX8_countAlike κ _ 30 [(0, .int v0), (1, .int v1), (2, .int v2), (3, .int v3), (4, .int s6.1), (5, .int s6.2)] [.int x4] h _
      refine j_iload_n 1 dX8_countAlike_30 rfl rfl ?_
      refine j_iload_n 2 dX8_countAlike_31 rfl rfl ?_
      refine j_iload_n 3 dX8_countAlike_32 rfl rfl ?_
      refine j_callS (as := [.int v1, .int v2, .int v3]) (fun x => some (.int x)) (fun _ => h) dX8_countAlike_33 ml_RX8_187 tg_X8_swayOf st_X8_swayOf (fun x hx => kX8_swayOf κ.1 κ.2.1 v1 v2 v3 h x hx) (by decide) (by decide) rfl rfl (Nat.le_of_ble_eq_true rfl) (fun x5 => ?_)
      show xJ iX8_countAlike κ _ 36 [(0, .int v0), (1, .int v1), (2, .int v2), (3, .int v3), (4, .int s6.1), (5, .int s6.2)] [.int x5, .int x4] h _
      refine j_icmp_ne (tgt := 56) dX8_countAlike_36 (by decide) (fun c6 => ?_) (fun c6 => ?_)
      · refine j_iload 5 dX8_countAlike_39 rfl ?_
        refine j_iload_n 3 dX8_countAlike_41 rfl rfl ?_
        refine j_callS (as := [.int s6.2, .int v3]) (fun x => some (.int x)) (fun _ => h) dX8_countAlike_42 ml_RX8_191 tg_X8_tallOf st_X8_tallOf (fun x hx => kX8_tallOf κ.1 κ.2.1 s6.2 v3 h x hx) (by decide) (by decide) rfl rfl (Nat.le_of_ble_eq_true rfl) (fun x7 => ?_)
        show xJ iX8_countAlike κ _ 45 [(0, .int v0), (1, .int v1), (2, .int v2), (3, .int v3), (4, .int s6.1), (5, .int s6.2)] [.int x7] h _
        refine j_iload_n 1 dX8_countAlike_45 rfl rfl ?_
        refine j_iload_n 3 dX8_countAlike_46 rfl rfl ?_
        refine j_callS (as := [.int v1, .int v3]) (fun x => some (.int x)) (fun _ => h) dX8_countAlike_47 ml_RX8_191 tg_X8_tallOf st_X8_tallOf (fun x hx => kX8_tallOf κ.1 κ.2.1 v1 v3 h x hx) (by decide) (by decide) rfl rfl (Nat.le_of_ble_eq_true rfl) (fun x8 => ?_)
        show xJ iX8_countAlike κ _ 50 [(0, .int v0), (1, .int v1), (2, .int v2), (3, .int v3), (4, .int s6.1), (5, .int s6.2)] [.int x8, .int x7] h _
        refine j_icmp_ne (tgt := 56) dX8_countAlike_50 (by decide) (fun c9 => ?_) (fun c9 => ?_)
        · refine j_iinc (y := s6.1 + 1) (L' := [(4, .int (s6.1 + 1)), (0, .int v0), (1, .int v1), (2, .int v2), (3, .int v3), (5, .int s6.2)]) 4 dX8_countAlike_53 rfl rfl (Nat.le_of_ble_eq_true rfl) rfl ?_
          refine j_pick [1, 2, 3, 4, 0, 5] rfl ?_
          exact hj56 (s6.1 + 1, s6.2)
        · refine j_pick [0, 1, 2, 3, 4, 5] rfl ?_
          exact hj56 (s6.1, s6.2)
      · refine j_pick [0, 1, 2, 3, 4, 5] rfl ?_
        exact hj56 (s6.1, s6.2)
    · refine j_pick [0, 1, 2, 3, 4, 5] rfl ?_
      exact hj56 (s6.1, s6.2)
def fX8_mostAlike_j35 (v0 : Int32) (v1 : Int32) (v2 : Int32) (v3 : Int32) (v4 : Int32) (h : Hp) : Option ((Int32 × Int32) ⊕ ((Int32))) :=
  some (Sum.inl (v3, v4 + 1))
def fX8_mostAlike_b5 (v0 : Int32) (v1 : Int32) (v2 : Int32) (h : Hp) (s5 : Int32 × Int32) : Option ((Int32 × Int32) ⊕ ((Int32))) :=
  if (6 : Int32) ≤ s5.2 then (some (Sum.inr s5.1)) else ((fX8_bit v0 s5.2 h).bind fun x2 => if (x2 : Int32) = 1 then ((fX8_countAlike v0 s5.2 v1 v2 h).bind fun x4 => fX8_mostAlike_j35 v0 v1 v2 (if (s5.1 : Int32) < x4 then x4 else s5.1) s5.2 h) else (fX8_mostAlike_j35 v0 v1 v2 s5.1 s5.2 h))
def fX8_mostAlike (v0 : Int32) (v1 : Int32) (v2 : Int32) (h : Hp) : Option (Int32) :=
  (xloop (fX8_mostAlike_b5 v0 v1 v2 h) 1000000 (0, 0)).bind (fun r5 => some r5)
abbrev iX8_mostAlike : xI := (cX8_mostAlike, yX8_mostAlike.cls, yX8_mostAlike.name, some .int, 5, 4)
set_option maxHeartbeats 4000000 in
set_option maxRecDepth 100000 in
theorem kX8_mostAlike (l : Launch) (η : xEnv) (v0 : Int32) (v1 : Int32) (v2 : Int32) (h : Hp) (x : Int32) (hx : fX8_mostAlike v0 v1 v2 h = some x) : xC l η yX8_mostAlike cX8_mostAlike 5 (some .int) 4 [.int v0, .int v1, .int v2] h (some (.int x)) h := by
  refine xC_of (by decide) (Nat.le_of_ble_eq_true rfl) hx (fun κ x => κ.2.2.2.1 = some (.int x) ∧ κ.2.2.2.2 = h) ⟨rfl, rfl⟩ (fun κ => ?_)
  show xJ iX8_mostAlike κ _ 0 [(0, .int v0), (1, .int v1), (2, .int v2)] [] h (fX8_mostAlike v0 v1 v2 h)
  unfold fX8_mostAlike
  refine j_iconst (x := 0) dX8_mostAlike_0 (by decide) ?_
  refine j_istore_n (L' := [(3, .int 0), (0, .int v0), (1, .int v1), (2, .int v2)]) dX8_mostAlike_1 rfl (Nat.le_of_ble_eq_true rfl) rfl ?_
  refine j_iconst (x := 0) dX8_mostAlike_2 (by decide) ?_
  refine j_istore (L' := [(4, .int 0), (3, .int 0), (0, .int v0), (1, .int v1), (2, .int v2)]) dX8_mostAlike_3 (Nat.le_of_ble_eq_true rfl) rfl ?_
  refine j_pick [2, 3, 4, 1, 0] rfl ?_
  refine j_loop (pc := 5) (Lf := fun s5 : Int32 × Int32 => [(0, .int v0), (1, .int v1), (2, .int v2), (3, .int s5.1), (4, .int s5.2)]) (Hf := fun s5 : Int32 × Int32 => h) (fun s5 => ?_) 1000000 (0, 0)
  show xJ iX8_mostAlike κ _ 5 [(0, .int v0), (1, .int v1), (2, .int v2), (3, .int s5.1), (4, .int s5.2)] [] h (fX8_mostAlike_b5 v0 v1 v2 h s5)
  unfold fX8_mostAlike_b5
  refine j_have (pj := 35) (Lf := fun v : Int32 × Int32 => [(0, .int v0), (1, .int v1), (2, .int v2), (3, .int v.1), (4, .int v.2)]) (Sf := fun v : Int32 × Int32 => []) (Hf := fun v : Int32 × Int32 => h) (jf := fun v : Int32 × Int32 => fX8_mostAlike_j35 v0 v1 v2 v.1 v.2 h) (fun v => ?_) (fun hj35 => ?_)
  · obtain ⟨v3, v4⟩ := v
    show xJ iX8_mostAlike κ _ 35 [(0, .int v0), (1, .int v1), (2, .int v2), (3, .int v3), (4, .int v4)] [] h (fX8_mostAlike_j35 v0 v1 v2 v3 v4 h)
    unfold fX8_mostAlike_j35
    refine j_iinc (y := v4 + 1) (L' := [(4, .int (v4 + 1)), (0, .int v0), (1, .int v1), (2, .int v2), (3, .int v3)]) 4 dX8_mostAlike_35 rfl rfl (Nat.le_of_ble_eq_true rfl) rfl ?_
    refine j_goto (tgt := 5) dX8_mostAlike_38 (by decide) ?_
    refine j_pick [1, 2, 3, 4, 0] rfl ?_
    exact j_again (v3, v4 + 1) rfl rfl
  refine j_iload 4 dX8_mostAlike_5 rfl ?_
  refine j_bipush (x := 6) dX8_mostAlike_7 (by decide) ?_
  refine j_icmp_ge (tgt := 41) dX8_mostAlike_9 (by decide) (fun c1 => ?_) (fun c1 => ?_)
  · refine j_exit s5.1 ?_
    show xJ iX8_mostAlike κ _ _ _ _ _ (some s5.1)
    refine j_iload_n 3 dX8_mostAlike_41 rfl rfl ?_
    exact j_iret s5.1 dX8_mostAlike_42 rfl (fun q => q)
  · refine j_iload_n 0 dX8_mostAlike_12 rfl rfl ?_
    refine j_iload 4 dX8_mostAlike_13 rfl ?_
    refine j_callS (as := [.int v0, .int s5.2]) (fun x => some (.int x)) (fun _ => h) dX8_mostAlike_15 ml_RX8_105 tg_X8_bit st_X8_bit (fun x hx => kX8_bit κ.1 κ.2.1 v0 s5.2 h x hx) (by decide) (by decide) rfl rfl (Nat.le_of_ble_eq_true rfl) (fun x2 => ?_)
    show xJ iX8_mostAlike κ _ 18 [(0, .int v0), (1, .int v1), (2, .int v2), (3, .int s5.1), (4, .int s5.2)] [.int x2] h _
    refine j_iconst (x := 1) dX8_mostAlike_18 (by decide) ?_
    refine j_icmp_ne (tgt := 35) dX8_mostAlike_19 (by decide) (fun c3 => ?_) (fun c3 => ?_)
    · refine j_iload_n 3 dX8_mostAlike_22 rfl rfl ?_
      refine j_iload_n 0 dX8_mostAlike_23 rfl rfl ?_
      refine j_iload 4 dX8_mostAlike_24 rfl ?_
      refine j_iload_n 1 dX8_mostAlike_26 rfl rfl ?_
      refine j_iload_n 2 dX8_mostAlike_27 rfl rfl ?_
      refine j_callS (as := [.int v0, .int s5.2, .int v1, .int v2]) (fun x => some (.int x)) (fun _ => h) dX8_mostAlike_28 ml_RX8_317 tg_X8_countAlike st_X8_countAlike (fun x hx => kX8_countAlike κ.1 κ.2.1 v0 s5.2 v1 v2 h x hx) (by decide) (by decide) rfl rfl (Nat.le_of_ble_eq_true rfl) (fun x4 => ?_)
      show xJ iX8_mostAlike κ _ 31 [(0, .int v0), (1, .int v1), (2, .int v2), (3, .int s5.1), (4, .int s5.2)] [.int x4, .int s5.1] h _
      refine j_mmax dX8_mostAlike_31 ml_RX8_321 (by decide) (Nat.le_of_ble_eq_true rfl) ?_
      refine j_istore_n (L' := [(3, .int (if (s5.1 : Int32) < x4 then x4 else s5.1)), (0, .int v0), (1, .int v1), (2, .int v2), (4, .int s5.2)]) dX8_mostAlike_34 rfl (Nat.le_of_ble_eq_true rfl) rfl ?_
      refine j_pick [1, 2, 3, 0, 4] rfl ?_
      exact hj35 (if (s5.1 : Int32) < x4 then x4 else s5.1, s5.2)
    · refine j_pick [0, 1, 2, 3, 4] rfl ?_
      exact hj35 (s5.1, s5.2)
def fX8_bestLook_j46 (v0 : Int32) (v1 : Int32) (v2 : Int32) (v3 : Int32) (v4 : Int32) (h : Hp) : Option ((Int32 × Int32 × Int32) ⊕ ((Int32))) :=
  some (Sum.inl (v2, v3, v4 + 1))
def fX8_bestLook_b18 (v0 : Int32) (v1 : Int32) (h : Hp) (s18 : Int32 × Int32 × Int32) : Option ((Int32 × Int32 × Int32) ⊕ ((Int32))) :=
  if (10 : Int32) ≤ s18.2.2 then (some (Sum.inr s18.1)) else ((fX8_mostAlike v0 v1 s18.2.2 h).bind fun x4 => if (s18.2.1 : Int32) ≤ x4 then (fX8_bestLook_j46 v0 v1 s18.1 s18.2.1 s18.2.2 h) else (fX8_bestLook_j46 v0 v1 s18.2.2 x4 s18.2.2 h))
def fX8_bestLook (v0 : Int32) (v1 : Int32) (h : Hp) : Option (Int32) :=
  if (v0 : Int32) = 0 then (some (-1)) else ((fX8_mostAlike v0 v1 0 h).bind fun x2 => (xloop (fX8_bestLook_b18 v0 v1 h) 1000000 (0, x2, 1)).bind (fun r18 => some r18))
abbrev iX8_bestLook : xI := (cX8_bestLook, yX8_bestLook.cls, yX8_bestLook.name, some .int, 6, 5)
set_option maxHeartbeats 4000000 in
set_option maxRecDepth 100000 in
theorem kX8_bestLook (l : Launch) (η : xEnv) (v0 : Int32) (v1 : Int32) (h : Hp) (x : Int32) (hx : fX8_bestLook v0 v1 h = some x) : xC l η yX8_bestLook cX8_bestLook 6 (some .int) 5 [.int v0, .int v1] h (some (.int x)) h := by
  refine xC_of (by decide) (Nat.le_of_ble_eq_true rfl) hx (fun κ x => κ.2.2.2.1 = some (.int x) ∧ κ.2.2.2.2 = h) ⟨rfl, rfl⟩ (fun κ => ?_)
  show xJ iX8_bestLook κ _ 0 [(0, .int v0), (1, .int v1)] [] h (fX8_bestLook v0 v1 h)
  unfold fX8_bestLook
  refine j_iload_n 0 dX8_bestLook_0 rfl rfl ?_
  refine j_if_ne (tgt := 6) dX8_bestLook_1 (by decide) (fun c1 => ?_) (fun c1 => ?_)
  · refine j_iconst (x := (-1)) dX8_bestLook_4 (by decide) ?_
    exact j_iret (-1) dX8_bestLook_5 rfl (fun q => q)
  · refine j_iconst (x := 0) dX8_bestLook_6 (by decide) ?_
    refine j_istore_n (L' := [(2, .int 0), (0, .int v0), (1, .int v1)]) dX8_bestLook_7 rfl (Nat.le_of_ble_eq_true rfl) rfl ?_
    refine j_iload_n 1 dX8_bestLook_8 rfl rfl ?_
    refine j_iload_n 2 dX8_bestLook_9 rfl rfl ?_
    refine j_iconst (x := 0) dX8_bestLook_10 (by decide) ?_
    refine j_callS (as := [.int v0, .int v1, .int 0]) (fun x => some (.int x)) (fun _ => h) dX8_bestLook_11 ml_RX8_314 tg_X8_mostAlike st_X8_mostAlike (fun x hx => kX8_mostAlike κ.1 κ.2.1 v0 v1 0 h x hx) (by decide) (by decide) rfl rfl (Nat.le_of_ble_eq_true rfl) (fun x2 => ?_)
    show xJ iX8_bestLook κ _ 14 [(2, .int 0), (0, .int v0), (1, .int v1)] [.int x2] h _
    refine j_istore_n (L' := [(3, .int x2), (2, .int 0), (0, .int v0), (1, .int v1)]) dX8_bestLook_14 rfl (Nat.le_of_ble_eq_true rfl) rfl ?_
    refine j_iconst (x := 1) dX8_bestLook_15 (by decide) ?_
    refine j_istore (L' := [(4, .int 1), (3, .int x2), (2, .int 0), (0, .int v0), (1, .int v1)]) dX8_bestLook_16 (Nat.le_of_ble_eq_true rfl) rfl ?_
    refine j_pick [3, 4, 2, 1, 0] rfl ?_
    refine j_loop (pc := 18) (Lf := fun s18 : Int32 × Int32 × Int32 => [(0, .int v0), (1, .int v1), (2, .int s18.1), (3, .int s18.2.1), (4, .int s18.2.2)]) (Hf := fun s18 : Int32 × Int32 × Int32 => h) (fun s18 => ?_) 1000000 (0, x2, 1)
    show xJ iX8_bestLook κ _ 18 [(0, .int v0), (1, .int v1), (2, .int s18.1), (3, .int s18.2.1), (4, .int s18.2.2)] [] h (fX8_bestLook_b18 v0 v1 h s18)
    unfold fX8_bestLook_b18
    refine j_have (pj := 46) (Lf := fun v : Int32 × Int32 × Int32 => [(0, .int v0), (1, .int v1), (2, .int v.1), (3, .int v.2.1), (4, .int v.2.2)]) (Sf := fun v : Int32 × Int32 × Int32 => []) (Hf := fun v : Int32 × Int32 × Int32 => h) (jf := fun v : Int32 × Int32 × Int32 => fX8_bestLook_j46 v0 v1 v.1 v.2.1 v.2.2 h) (fun v => ?_) (fun hj46 => ?_)
    · obtain ⟨v2, v3, v4⟩ := v
      show xJ iX8_bestLook κ _ 46 [(0, .int v0), (1, .int v1), (2, .int v2), (3, .int v3), (4, .int v4)] [] h (fX8_bestLook_j46 v0 v1 v2 v3 v4 h)
      unfold fX8_bestLook_j46
      refine j_iinc (y := v4 + 1) (L' := [(4, .int (v4 + 1)), (0, .int v0), (1, .int v1), (2, .int v2), (3, .int v3)]) 4 dX8_bestLook_46 rfl rfl (Nat.le_of_ble_eq_true rfl) rfl ?_
      refine j_goto (tgt := 18) dX8_bestLook_49 (by decide) ?_
      refine j_pick [1, 2, 3, 4, 0] rfl ?_
      exact j_again (v2, v3, v4 + 1) rfl rfl
    refine j_iload 4 dX8_bestLook_18 rfl ?_
    refine j_bipush (x := 10) dX8_bestLook_20 (by decide) ?_
    refine j_icmp_ge (tgt := 52) dX8_bestLook_22 (by decide) (fun c3 => ?_) (fun c3 => ?_)
    · refine j_exit s18.1 ?_
      show xJ iX8_bestLook κ _ _ _ _ _ (some s18.1)
      refine j_iload_n 2 dX8_bestLook_52 rfl rfl ?_
      exact j_iret s18.1 dX8_bestLook_53 rfl (fun q => q)
    · refine j_iload_n 0 dX8_bestLook_25 rfl rfl ?_
      refine j_iload_n 1 dX8_bestLook_26 rfl rfl ?_
      refine j_iload 4 dX8_bestLook_27 rfl ?_
      refine j_callS (as := [.int v0, .int v1, .int s18.2.2]) (fun x => some (.int x)) (fun _ => h) dX8_bestLook_29 ml_RX8_314 tg_X8_mostAlike st_X8_mostAlike (fun x hx => kX8_mostAlike κ.1 κ.2.1 v0 v1 s18.2.2 h x hx) (by decide) (by decide) rfl rfl (Nat.le_of_ble_eq_true rfl) (fun x4 => ?_)
      show xJ iX8_bestLook κ _ 32 [(0, .int v0), (1, .int v1), (2, .int s18.1), (3, .int s18.2.1), (4, .int s18.2.2)] [.int x4] h _
      refine j_istore (L' := [(5, .int x4), (0, .int v0), (1, .int v1), (2, .int s18.1), (3, .int s18.2.1), (4, .int s18.2.2)]) dX8_bestLook_32 (Nat.le_of_ble_eq_true rfl) rfl ?_
      refine j_iload 0 dX8_bestLook_34 rfl ?_
      refine j_iload_n 4 dX8_bestLook_36 rfl rfl ?_
      refine j_icmp_ge (tgt := 46) dX8_bestLook_37 (by decide) (fun c5 => ?_) (fun c5 => ?_)
      · refine j_pick [1, 2, 3, 4, 5] rfl ?_
        exact hj46 (s18.1, s18.2.1, s18.2.2)
      · refine j_iload 0 dX8_bestLook_40 rfl ?_
        refine j_istore_n (L' := [(3, .int x4), (5, .int x4), (0, .int v0), (1, .int v1), (2, .int s18.1), (4, .int s18.2.2)]) dX8_bestLook_42 rfl (Nat.le_of_ble_eq_true rfl) rfl ?_
        refine j_iload 5 dX8_bestLook_43 rfl ?_
        refine j_istore_n (L' := [(2, .int s18.2.2), (3, .int x4), (5, .int x4), (0, .int v0), (1, .int v1), (4, .int s18.2.2)]) dX8_bestLook_45 rfl (Nat.le_of_ble_eq_true rfl) rfl ?_
        refine j_pick [3, 4, 0, 1, 5] rfl ?_
        exact hj46 (s18.2.2, x4, s18.2.2)
def fX8_look (v0 : Nat) (v1 : Int32) (h : Hp) : Option (Int32 × Hp) :=
  (xgR h v0 (8, 12) 0).bind fun x1 => (xat h x1 (0, 16) (fX0_has x1 v1 h)).bind fun x2 => if (x2 : Int32) = 0 then ((xat h v0 (8, 12) (fX8_refuseBad v0 h)).bind fun q4 => some (q4.1, q4.2)) else ((xgR h v0 (8, 12) 0).bind fun x5 => (xat h x5 (0, 16) (fX0_kindsByNotes x5 v1 h)).bind fun x6 => (xgR h v0 (8, 12) 0).bind fun x7 => (xgR h x7 (0, 16) 4).bind fun x8 => (xaI h x8 10 v1).bind fun x9 => (fX8_bestLook x6 x9 h).bind fun x10 => some (x10, h))
abbrev iX8_look : xI := (cX8_look, yX8_look.cls, yX8_look.name, some .int, 2, 6)
set_option maxHeartbeats 4000000 in
set_option maxRecDepth 100000 in
theorem kX8_look (l : Launch) (η : xEnv) (v0 : Nat) (v1 : Int32) (h : Hp) (x : Int32 × Hp) (hx : fX8_look v0 v1 h = some x) : xC l η yX8_look cX8_look 2 (some .int) 6 [.ref v0, .int v1] h (some (.int x.1)) x.2 := by
  refine xC_of (by decide) (Nat.le_of_ble_eq_true rfl) hx (fun κ x => κ.2.2.2.1 = some (.int x.1) ∧ κ.2.2.2.2 = x.2) ⟨rfl, rfl⟩ (fun κ => ?_)
  show xJ iX8_look κ _ 0 [(0, .ref v0), (1, .int v1)] [] h (fX8_look v0 v1 h)
  unfold fX8_look
  refine j_aload_n 0 dX8_look_0 rfl rfl ?_
  refine j_getR 8 12 0 dX8_look_1 fl_RX8_12 (by decide) rfl (by decide) (fun _ _ _ => rfl) (fun x1 => ?_)
  refine j_iload_n 1 dX8_look_4 rfl rfl ?_
  refine j_callV (as := [.int v1]) (fun x => some (.int x)) (fun _ => h) 0 16 dX8_look_5 ml_RX8_162 tg_X0_has im_X0_has se_X0_has rfl (by decide) (fun x hx => kX0_has κ.1 κ.2.1 x1 v1 h x hx) (by decide) (by decide) rfl rfl (Nat.le_of_ble_eq_true rfl) (fun x2 => ?_)
  show xJ iX8_look κ _ 8 [(0, .ref v0), (1, .int v1)] [.int x2] h _
  refine j_if_ne (tgt := 16) dX8_look_8 (by decide) (fun c3 => ?_) (fun c3 => ?_)
  · refine j_aload_n 0 dX8_look_11 rfl rfl ?_
    refine j_callV (as := []) (fun x => some (.int x.1)) (fun x => x.2) 8 12 dX8_look_12 ml_RX8_70 tg_X8_refuseBad im_X8_refuseBad se_X8_refuseBad rfl (by decide) (fun x hx => kX8_refuseBad κ.1 κ.2.1 v0 h x hx) (by decide) (by decide) rfl rfl (Nat.le_of_ble_eq_true rfl) (fun q4 => ?_)
    show xJ iX8_look κ _ 15 [(0, .ref v0), (1, .int v1)] [.int q4.1] q4.2 _
    exact j_iret (q4.1, q4.2) dX8_look_15 rfl (fun q => q)
  · refine j_aload_n 0 dX8_look_16 rfl rfl ?_
    refine j_getR 8 12 0 dX8_look_17 fl_RX8_12 (by decide) rfl (by decide) (fun _ _ _ => rfl) (fun x5 => ?_)
    refine j_iload_n 1 dX8_look_20 rfl rfl ?_
    refine j_callV (as := [.int v1]) (fun x => some (.int x)) (fun _ => h) 0 16 dX8_look_21 ml_RX8_246 tg_X0_kindsByNotes im_X0_kindsByNotes se_X0_kindsByNotes rfl (by decide) (fun x hx => kX0_kindsByNotes κ.1 κ.2.1 x5 v1 h x hx) (by decide) (by decide) rfl rfl (Nat.le_of_ble_eq_true rfl) (fun x6 => ?_)
    show xJ iX8_look κ _ 24 [(0, .ref v0), (1, .int v1)] [.int x6] h _
    refine j_aload_n 0 dX8_look_24 rfl rfl ?_
    refine j_getR 8 12 0 dX8_look_25 fl_RX8_12 (by decide) rfl (by decide) (fun _ _ _ => rfl) (fun x7 => ?_)
    refine j_getR 0 16 4 dX8_look_28 fl_RX8_181 (by decide) rfl (by decide) (fun _ _ _ => rfl) (fun x8 => ?_)
    refine j_iload_n 1 dX8_look_31 rfl rfl ?_
    refine j_iald dX8_look_32 (fun x9 => ?_)
    refine j_callS (as := [.int x6, .int x9]) (fun x => some (.int x)) (fun _ => h) dX8_look_33 ml_RX8_249 tg_X8_bestLook st_X8_bestLook (fun x hx => kX8_bestLook κ.1 κ.2.1 x6 x9 h x hx) (by decide) (by decide) rfl rfl (Nat.le_of_ble_eq_true rfl) (fun x10 => ?_)
    show xJ iX8_look κ _ 36 [(0, .ref v0), (1, .int v1)] [.int x10] h _
    exact j_iret (x10, h) dX8_look_36 rfl (fun q => q)
def fX9_areAlike_j33 (t0 : Int32) (h : Hp) : Option (Int32) :=
  if vp_nar .boolean t0 = t0 then some t0 else none
def fX9_areAlike_j32  (h : Hp) : Option (Int32) :=
  fX9_areAlike_j33 0 h
def fX9_areAlike (v0 : Int32) (v1 : Int32) (v2 : Int32) (v3 : Int32) (h : Hp) : Option (Int32) :=
  (fX9_swayAs v0 v2 v3 h).bind fun x1 => (fX9_swayAs v1 v2 v3 h).bind fun x2 => if (x1 : Int32) = x2 then ((fX9_tallAs v0 v3 h).bind fun x4 => (fX9_tallAs v1 v3 h).bind fun x5 => if (x4 : Int32) = x5 then (fX9_areAlike_j33 1 h) else (fX9_areAlike_j32 h)) else (fX9_areAlike_j32 h)
abbrev iX9_areAlike : xI := (cX9_areAlike, yX9_areAlike.cls, yX9_areAlike.name, some .boolean, 4, 3)
set_option maxHeartbeats 4000000 in
set_option maxRecDepth 100000 in
theorem kX9_areAlike (l : Launch) (η : xEnv) (v0 : Int32) (v1 : Int32) (v2 : Int32) (v3 : Int32) (h : Hp) (x : Int32) (hx : fX9_areAlike v0 v1 v2 v3 h = some x) : xC l η yX9_areAlike cX9_areAlike 4 (some .boolean) 3 [.int v0, .int v1, .int v2, .int v3] h (some (.int x)) h := by
  refine xC_of (by decide) (Nat.le_of_ble_eq_true rfl) hx (fun κ x => κ.2.2.2.1 = some (.int x) ∧ κ.2.2.2.2 = h) ⟨rfl, rfl⟩ (fun κ => ?_)
  show xJ iX9_areAlike κ _ 0 [(0, .int v0), (1, .int v1), (2, .int v2), (3, .int v3)] [] h (fX9_areAlike v0 v1 v2 v3 h)
  unfold fX9_areAlike
  refine j_have (pj := 33) (Lf := fun v : Int32 => []) (Sf := fun v : Int32 => [.int v]) (Hf := fun v : Int32 => h) (jf := fun v : Int32 => fX9_areAlike_j33 v h) (fun v => ?_) (fun hj33 => ?_)
  · generalize v = t0
    show xJ iX9_areAlike κ _ 33 [] [.int t0] h (fX9_areAlike_j33 t0 h)
    unfold fX9_areAlike_j33
    exact j_zretc t0 dX9_areAlike_33 rfl (fun q => q)
  refine j_have (pj := 32) (Lf := fun v : Unit => []) (Sf := fun v : Unit => []) (Hf := fun v : Unit => h) (jf := fun v : Unit => fX9_areAlike_j32 h) (fun v => ?_) (fun hj32 => ?_)
  · skip
    show xJ iX9_areAlike κ _ 32 [] [] h (fX9_areAlike_j32 h)
    unfold fX9_areAlike_j32
    refine j_iconst (x := 0) dX9_areAlike_32 (by decide) ?_
    refine j_pick [] rfl ?_
    exact hj33 0
  refine j_iload_n 0 dX9_areAlike_0 rfl rfl ?_
  refine j_iload_n 2 dX9_areAlike_1 rfl rfl ?_
  refine j_iload_n 3 dX9_areAlike_2 rfl rfl ?_
  refine j_callS (as := [.int v0, .int v2, .int v3]) (fun x => some (.int x)) (fun _ => h) dX9_areAlike_3 ml_RX9_93 tg_X9_swayAs st_X9_swayAs (fun x hx => kX9_swayAs κ.1 κ.2.1 v0 v2 v3 h x hx) (by decide) (by decide) rfl rfl (Nat.le_of_ble_eq_true rfl) (fun x1 => ?_)
  show xJ iX9_areAlike κ _ 6 [(0, .int v0), (1, .int v1), (2, .int v2), (3, .int v3)] [.int x1] h _
  refine j_iload_n 1 dX9_areAlike_6 rfl rfl ?_
  refine j_iload_n 2 dX9_areAlike_7 rfl rfl ?_
  refine j_iload_n 3 dX9_areAlike_8 rfl rfl ?_
  refine j_callS (as := [.int v1, .int v2, .int v3]) (fun x => some (.int x)) (fun _ => h) dX9_areAlike_9 ml_RX9_93 tg_X9_swayAs st_X9_swayAs (fun x hx => kX9_swayAs κ.1 κ.2.1 v1 v2 v3 h x hx) (by decide) (by decide) rfl rfl (Nat.le_of_ble_eq_true rfl) (fun x2 => ?_)
  show xJ iX9_areAlike κ _ 12 [(0, .int v0), (1, .int v1), (2, .int v2), (3, .int v3)] [.int x2, .int x1] h _
  refine j_icmp_ne (tgt := 32) dX9_areAlike_12 (by decide) (fun c3 => ?_) (fun c3 => ?_)
  · refine j_iload_n 0 dX9_areAlike_15 rfl rfl ?_
    refine j_iload_n 3 dX9_areAlike_16 rfl rfl ?_
    refine j_callS (as := [.int v0, .int v3]) (fun x => some (.int x)) (fun _ => h) dX9_areAlike_17 ml_RX9_108 tg_X9_tallAs st_X9_tallAs (fun x hx => kX9_tallAs κ.1 κ.2.1 v0 v3 h x hx) (by decide) (by decide) rfl rfl (Nat.le_of_ble_eq_true rfl) (fun x4 => ?_)
    show xJ iX9_areAlike κ _ 20 [(0, .int v0), (1, .int v1), (2, .int v2), (3, .int v3)] [.int x4] h _
    refine j_iload_n 1 dX9_areAlike_20 rfl rfl ?_
    refine j_iload_n 3 dX9_areAlike_21 rfl rfl ?_
    refine j_callS (as := [.int v1, .int v3]) (fun x => some (.int x)) (fun _ => h) dX9_areAlike_22 ml_RX9_108 tg_X9_tallAs st_X9_tallAs (fun x hx => kX9_tallAs κ.1 κ.2.1 v1 v3 h x hx) (by decide) (by decide) rfl rfl (Nat.le_of_ble_eq_true rfl) (fun x5 => ?_)
    show xJ iX9_areAlike κ _ 25 [(0, .int v0), (1, .int v1), (2, .int v2), (3, .int v3)] [.int x5, .int x4] h _
    refine j_icmp_ne (tgt := 32) dX9_areAlike_25 (by decide) (fun c6 => ?_) (fun c6 => ?_)
    · refine j_iconst (x := 1) dX9_areAlike_28 (by decide) ?_
      refine j_goto (tgt := 33) dX9_areAlike_29 (by decide) ?_
      refine j_pick [] rfl ?_
      exact hj33 1
    · refine j_pick [] rfl ?_
      exact hj32 ()
  · refine j_pick [] rfl ?_
    exact hj32 ()
def fX9_look_j180 (v3 : Int32) (h : Hp) : Option (Int32 × Hp) :=
  some (v3, h)
def fX9_look_j172 (v0 : Nat) (v1 : Int32) (v2 : Int32) (v3 : Int32) (v5 : Int32) (t0 : Int32) (h : Hp) : Option ((Int32 × Int32 × Int32) ⊕ ((Int32))) :=
  some (Sum.inl (v3, t0, v5 + 1))
def fX9_look_j157 (v0 : Nat) (v1 : Int32) (v2 : Int32) (v4 : Int32) (v5 : Int32) (v6 : Int32) (t0 : Int32) (h : Hp) : Option ((Int32 × Int32 × Int32) ⊕ ((Int32))) :=
  if (v4 : Int32) ≤ v6 then (fX9_look_j172 v0 v1 v2 t0 v5 v4 h) else (fX9_look_j172 v0 v1 v2 t0 v5 v6 h)
def fX9_look_j136 (v0 : Nat) (v1 : Int32) (v2 : Int32) (v3 : Int32) (v4 : Int32) (v5 : Int32) (v7 : Int32) (t0 : Int32) (h : Hp) : Option ((Int32 × Int32) ⊕ ((Nat × Int32 × Int32 × Int32 × Int32 × Int32 × Int32))) :=
  some (Sum.inl (t0, v7 + 1))
def fX9_look_j122 (v0 : Nat) (v1 : Int32) (v2 : Int32) (v3 : Int32) (v4 : Int32) (v5 : Int32) (v6 : Int32) (v7 : Int32) (v8 : Int32) (h : Hp) : Option ((Int32 × Int32) ⊕ ((Nat × Int32 × Int32 × Int32 × Int32 × Int32 × Int32))) :=
  if (v8 : Int32) ≤ v6 then (fX9_look_j136 v0 v1 v2 v3 v4 v5 v7 v6 h) else (fX9_look_j136 v0 v1 v2 v3 v4 v5 v7 v8 h)
def fX9_look_j113 (v0 : Nat) (v1 : Int32) (v2 : Int32) (v3 : Int32) (v4 : Int32) (v5 : Int32) (v6 : Int32) (v7 : Int32) (v9 : Int32) (t0 : Int32) (t1 : Int32) (h : Hp) : Option ((Int32 × Int32) ⊕ ((Nat × Int32 × Int32 × Int32 × Int32 × Int32 × Int32 × Int32 × Int32))) :=
  some (Sum.inl (t1 + t0, v9 + 1))
def fX9_look_j112 (v0 : Nat) (v1 : Int32) (v2 : Int32) (v3 : Int32) (v4 : Int32) (v5 : Int32) (v6 : Int32) (v7 : Int32) (v9 : Int32) (t0 : Int32) (h : Hp) : Option ((Int32 × Int32) ⊕ ((Nat × Int32 × Int32 × Int32 × Int32 × Int32 × Int32 × Int32 × Int32))) :=
  fX9_look_j113 v0 v1 v2 v3 v4 v5 v6 v7 v9 0 t0 h
def fX9_look_b60 (v0 : Nat) (v1 : Int32) (v2 : Int32) (v3 : Int32) (v4 : Int32) (v5 : Int32) (v6 : Int32) (v7 : Int32) (h : Hp) (s60 : Int32 × Int32) : Option ((Int32 × Int32) ⊕ ((Nat × Int32 × Int32 × Int32 × Int32 × Int32 × Int32 × Int32 × Int32))) :=
  if (6 : Int32) ≤ s60.2 then (some (Sum.inr (v0, v1, v2, v3, v4, v5, v6, v7, s60.1))) else ((fX9_has v2 v7 h).bind fun x12 => if (x12 : Int32) = 0 then (some (Sum.inr (v0, v1, v2, v3, v4, v5, v6, v7, s60.1))) else ((fX9_has v2 s60.2 h).bind fun x14 => if (x14 : Int32) = 0 then (fX9_look_j112 v0 v1 v2 v3 v4 v5 v6 v7 s60.2 s60.1 h) else ((xgR h v0 (9, 18) 0).bind fun x16 => (xaI h x16 10 (26 + v1)).bind fun x17 => (fX9_areAlike v7 s60.2 x17 v5 h).bind fun x18 => if (x18 : Int32) = 0 then (fX9_look_j112 v0 v1 v2 v3 v4 v5 v6 v7 s60.2 s60.1 h) else (fX9_look_j113 v0 v1 v2 v3 v4 v5 v6 v7 s60.2 1 s60.1 h))))
def fX9_look_b47 (v0 : Nat) (v1 : Int32) (v2 : Int32) (v3 : Int32) (v4 : Int32) (v5 : Int32) (h : Hp) (s47 : Int32 × Int32) : Option ((Int32 × Int32) ⊕ ((Nat × Int32 × Int32 × Int32 × Int32 × Int32 × Int32))) :=
  if (6 : Int32) ≤ s47.2 then (some (Sum.inr (v0, v1, v2, v3, v4, v5, s47.1))) else ((xloop (fX9_look_b60 v0 v1 v2 v3 v4 v5 s47.1 s47.2 h) 1000000 (0, 0)).bind (fun r60 => fX9_look_j122 r60.1 r60.2.1 r60.2.2.1 r60.2.2.2.1 r60.2.2.2.2.1 r60.2.2.2.2.2.1 r60.2.2.2.2.2.2.1 r60.2.2.2.2.2.2.2.1 r60.2.2.2.2.2.2.2.2 h))
def fX9_look_b30 (v0 : Nat) (v1 : Int32) (v2 : Int32) (h : Hp) (s30 : Int32 × Int32 × Int32) : Option ((Int32 × Int32 × Int32) ⊕ ((Int32))) :=
  if (10 : Int32) ≤ s30.2.2 then (some (Sum.inr s30.1)) else (if (v2 : Int32) ≤ 0 then (some (Sum.inr s30.1)) else ((xloop (fX9_look_b47 v0 v1 v2 s30.1 s30.2.1 s30.2.2 h) 1000000 (0, 0)).bind (fun r47 => if (r47.2.2.2.2.1 : Int32) ≤ r47.2.2.2.2.2.2 then (fX9_look_j157 r47.1 r47.2.1 r47.2.2.1 r47.2.2.2.2.1 r47.2.2.2.2.2.1 r47.2.2.2.2.2.2 r47.2.2.2.1 h) else (fX9_look_j157 r47.1 r47.2.1 r47.2.2.1 r47.2.2.2.2.1 r47.2.2.2.2.2.1 r47.2.2.2.2.2.2 r47.2.2.2.2.2.1 h))))
def fX9_look (v0 : Nat) (v1 : Int32) (h : Hp) : Option (Int32 × Hp) :=
  (xat h v0 (9, 18) (fX9_isIdea v0 v1 h)).bind fun x1 => if (x1 : Int32) = 0 then ((xat h v0 (9, 18) (fX9_bad v0 (-2) h)).bind fun q3 => some (q3.1, q3.2)) else ((xat h v0 (9, 18) (fX9_kindsOf v0 v1 h)).bind fun x4 => (xloop (fX9_look_b30 v0 v1 x4 h) 1000000 ((-1), 1000000, 0)).bind (fun r30 => fX9_look_j180 r30 h))
abbrev iX9_look : xI := (cX9_look, yX9_look.cls, yX9_look.name, some .int, 10, 4)
set_option maxHeartbeats 4000000 in
set_option maxRecDepth 100000 in
theorem kX9_look (l : Launch) (η : xEnv) (v0 : Nat) (v1 : Int32) (h : Hp) (x : Int32 × Hp) (hx : fX9_look v0 v1 h = some x) : xC l η yX9_look cX9_look 10 (some .int) 4 [.ref v0, .int v1] h (some (.int x.1)) x.2 := by
  refine xC_of (by decide) (Nat.le_of_ble_eq_true rfl) hx (fun κ x => κ.2.2.2.1 = some (.int x.1) ∧ κ.2.2.2.2 = x.2) ⟨rfl, rfl⟩ (fun κ => ?_)
  show xJ iX9_look κ _ 0 [(0, .ref v0), (1, .int v1)] [] h (fX9_look v0 v1 h)
  unfold fX9_look
  refine j_have (pj := 180) (Lf := fun v : Int32 × Hp => [(3, .int v.1)]) (Sf := fun v : Int32 × Hp => []) (Hf := fun v : Int32 × Hp => v.2) (jf := fun v : Int32 × Hp => fX9_look_j180 v.1 v.2) (fun v => ?_) (fun hj180 => ?_)
  · obtain ⟨v3, h⟩ := v
    show xJ iX9_look κ _ 180 [(3, .int v3)] [] h (fX9_look_j180 v3 h)
    unfold fX9_look_j180
    refine j_iload_n 0 dX9_look_180 rfl rfl ?_
    exact j_iret (v3, h) dX9_look_181 rfl (fun q => q)
  refine j_aload_n 0 dX9_look_0 rfl rfl ?_
  refine j_iload_n 1 dX9_look_1 rfl rfl ?_
  refine j_callV (as := [.int v1]) (fun x => some (.int x)) (fun _ => h) 9 18 dX9_look_2 ml_RX9_83 tg_X9_isIdea im_X9_isIdea se_X9_isIdea rfl (by decide) (fun x hx => kX9_isIdea κ.1 κ.2.1 v0 v1 h x hx) (by decide) (by decide) rfl rfl (Nat.le_of_ble_eq_true rfl) (fun x1 => ?_)
  show xJ iX9_look κ _ 5 [(0, .ref v0), (1, .int v1)] [.int x1] h _
  refine j_if_ne (tgt := 15) dX9_look_5 (by decide) (fun c2 => ?_) (fun c2 => ?_)
  · refine j_aload_n 0 dX9_look_8 rfl rfl ?_
    refine j_bipush (x := (-2)) dX9_look_9 (by decide) ?_
    refine j_callV (as := [.int (-2)]) (fun x => some (.int x.1)) (fun x => x.2) 9 18 dX9_look_11 ml_RX9_64 tg_X9_bad im_X9_bad se_X9_bad rfl (by decide) (fun x hx => kX9_bad κ.1 κ.2.1 v0 (-2) h x hx) (by decide) (by decide) rfl rfl (Nat.le_of_ble_eq_true rfl) (fun q3 => ?_)
    show xJ iX9_look κ _ 14 [(0, .ref v0), (1, .int v1)] [.int q3.1] q3.2 _
    exact j_iret (q3.1, q3.2) dX9_look_14 rfl (fun q => q)
  · refine j_aload_n 0 dX9_look_15 rfl rfl ?_
    refine j_iload_n 1 dX9_look_16 rfl rfl ?_
    refine j_callV (as := [.int v1]) (fun x => some (.int x)) (fun _ => h) 9 18 dX9_look_17 ml_RX9_151 tg_X9_kindsOf im_X9_kindsOf se_X9_kindsOf rfl (by decide) (fun x hx => kX9_kindsOf κ.1 κ.2.1 v0 v1 h x hx) (by decide) (by decide) rfl rfl (Nat.le_of_ble_eq_true rfl) (fun x4 => ?_)
    show xJ iX9_look κ _ 20 [(0, .ref v0), (1, .int v1)] [.int x4] h _
    refine j_istore_n (L' := [(2, .int x4), (0, .ref v0), (1, .int v1)]) dX9_look_20 rfl (Nat.le_of_ble_eq_true rfl) rfl ?_
    refine j_iconst (x := (-1)) dX9_look_21 (by decide) ?_
    refine j_istore_n (L' := [(3, .int (-1)), (2, .int x4), (0, .ref v0), (1, .int v1)]) dX9_look_22 rfl (Nat.le_of_ble_eq_true rfl) rfl ?_
    refine j_ldc dX9_look_23 ct_RX9_154 ?_
    refine j_istore (L' := [(4, .int 1000000), (3, .int (-1)), (2, .int x4), (0, .ref v0), (1, .int v1)]) dX9_look_25 (Nat.le_of_ble_eq_true rfl) rfl ?_
    refine j_iconst (x := 0) dX9_look_27 (by decide) ?_
    refine j_istore (L' := [(5, .int 0), (4, .int 1000000), (3, .int (-1)), (2, .int x4), (0, .ref v0), (1, .int v1)]) dX9_look_28 (Nat.le_of_ble_eq_true rfl) rfl ?_
    refine j_pick [4, 5, 3, 2, 1, 0] rfl ?_
    refine j_loop (pc := 30) (Lf := fun s30 : Int32 × Int32 × Int32 => [(0, .ref v0), (1, .int v1), (2, .int x4), (3, .int s30.1), (4, .int s30.2.1), (5, .int s30.2.2)]) (Hf := fun s30 : Int32 × Int32 × Int32 => h) (fun s30 => ?_) 1000000 ((-1), 1000000, 0)
    show xJ iX9_look κ _ 30 [(0, .ref v0), (1, .int v1), (2, .int x4), (3, .int s30.1), (4, .int s30.2.1), (5, .int s30.2.2)] [] h (fX9_look_b30 v0 v1 x4 h s30)
    unfold fX9_look_b30
    refine j_have (pj := 172) (Lf := fun v : Int32 × Int32 × Int32 => [(0, .ref v0), (1, .int v1), (2, .int x4), (3, .int v.1), (5, .int v.2.1)]) (Sf := fun v : Int32 × Int32 × Int32 => [.int v.2.2]) (Hf := fun v : Int32 × Int32 × Int32 => h) (jf := fun v : Int32 × Int32 × Int32 => fX9_look_j172 v0 v1 x4 v.1 v.2.1 v.2.2 h) (fun v => ?_) (fun hj172 => ?_)
    · obtain ⟨v3, v5, t0⟩ := v
      show xJ iX9_look κ _ 172 [(0, .ref v0), (1, .int v1), (2, .int x4), (3, .int v3), (5, .int v5)] [.int t0] h (fX9_look_j172 v0 v1 x4 v3 v5 t0 h)
      unfold fX9_look_j172
      refine j_istore (L' := [(4, .int t0), (0, .ref v0), (1, .int v1), (2, .int x4), (3, .int v3), (5, .int v5)]) dX9_look_172 (Nat.le_of_ble_eq_true rfl) rfl ?_
      refine j_iinc (y := v5 + 1) (L' := [(5, .int (v5 + 1)), (4, .int t0), (0, .ref v0), (1, .int v1), (2, .int x4), (3, .int v3)]) 5 dX9_look_174 rfl rfl (Nat.le_of_ble_eq_true rfl) rfl ?_
      refine j_goto (tgt := 30) dX9_look_177 (by decide) ?_
      refine j_pick [2, 3, 4, 5, 1, 0] rfl ?_
      exact j_again (v3, t0, v5 + 1) rfl rfl
    refine j_have (pj := 157) (Lf := fun v : Int32 × Int32 × Int32 × Int32 => [(0, .ref v0), (1, .int v1), (2, .int x4), (4, .int v.1), (5, .int v.2.1), (6, .int v.2.2.1)]) (Sf := fun v : Int32 × Int32 × Int32 × Int32 => [.int v.2.2.2]) (Hf := fun v : Int32 × Int32 × Int32 × Int32 => h) (jf := fun v : Int32 × Int32 × Int32 × Int32 => fX9_look_j157 v0 v1 x4 v.1 v.2.1 v.2.2.1 v.2.2.2 h) (fun v => ?_) (fun hj157 => ?_)
    · obtain ⟨v4, v5, v6, t0⟩ := v
      show xJ iX9_look κ _ 157 [(0, .ref v0), (1, .int v1), (2, .int x4), (4, .int v4), (5, .int v5), (6, .int v6)] [.int t0] h (fX9_look_j157 v0 v1 x4 v4 v5 v6 t0 h)
      unfold fX9_look_j157
      refine j_istore_n (L' := [(3, .int t0), (0, .ref v0), (1, .int v1), (2, .int x4), (4, .int v4), (5, .int v5), (6, .int v6)]) dX9_look_157 rfl (Nat.le_of_ble_eq_true rfl) rfl ?_
      refine j_iload 6 dX9_look_158 rfl ?_
      refine j_iload 4 dX9_look_160 rfl ?_
      refine j_icmp_ge (tgt := 170) dX9_look_162 (by decide) (fun c5 => ?_) (fun c5 => ?_)
      · refine j_iload 4 dX9_look_170 rfl ?_
        refine j_pick [1, 2, 3, 0, 5] rfl ?_
        exact hj172 (t0, v5, v4)
      · refine j_iload 6 dX9_look_165 rfl ?_
        refine j_goto (tgt := 172) dX9_look_167 (by decide) ?_
        refine j_pick [1, 2, 3, 0, 5] rfl ?_
        exact hj172 (t0, v5, v6)
    refine j_iload 5 dX9_look_30 rfl ?_
    refine j_bipush (x := 10) dX9_look_32 (by decide) ?_
    refine j_icmp_ge (tgt := 180) dX9_look_34 (by decide) (fun c6 => ?_) (fun c6 => ?_)
    · refine j_exit s30.1 ?_
      show xJ iX9_look κ _ _ _ _ _ (fX9_look_j180 s30.1 h)
      refine j_pick [3] rfl ?_
      exact hj180 (s30.1, h)
    · refine j_iload_n 2 dX9_look_37 rfl rfl ?_
      refine j_if_le (tgt := 180) dX9_look_38 (by decide) (fun c7 => ?_) (fun c7 => ?_)
      · refine j_exit s30.1 ?_
        show xJ iX9_look κ _ _ _ _ _ (fX9_look_j180 s30.1 h)
        refine j_pick [3] rfl ?_
        exact hj180 (s30.1, h)
      · refine j_iconst (x := 0) dX9_look_41 (by decide) ?_
        refine j_istore (L' := [(6, .int 0), (0, .ref v0), (1, .int v1), (2, .int x4), (3, .int s30.1), (4, .int s30.2.1), (5, .int s30.2.2)]) dX9_look_42 (Nat.le_of_ble_eq_true rfl) rfl ?_
        refine j_iconst (x := 0) dX9_look_44 (by decide) ?_
        refine j_istore (L' := [(7, .int 0), (6, .int 0), (0, .ref v0), (1, .int v1), (2, .int x4), (3, .int s30.1), (4, .int s30.2.1), (5, .int s30.2.2)]) dX9_look_45 (Nat.le_of_ble_eq_true rfl) rfl ?_
        refine j_pick [2, 3, 4, 5, 6, 7, 1, 0] rfl ?_
        refine j_loop (pc := 47) (Lf := fun s47 : Int32 × Int32 => [(0, .ref v0), (1, .int v1), (2, .int x4), (3, .int s30.1), (4, .int s30.2.1), (5, .int s30.2.2), (6, .int s47.1), (7, .int s47.2)]) (Hf := fun s47 : Int32 × Int32 => h) (fun s47 => ?_) 1000000 (0, 0)
        show xJ iX9_look κ _ 47 [(0, .ref v0), (1, .int v1), (2, .int x4), (3, .int s30.1), (4, .int s30.2.1), (5, .int s30.2.2), (6, .int s47.1), (7, .int s47.2)] [] h (fX9_look_b47 v0 v1 x4 s30.1 s30.2.1 s30.2.2 h s47)
        unfold fX9_look_b47
        refine j_have (pj := 136) (Lf := fun v : Int32 × Int32 => [(0, .ref v0), (1, .int v1), (2, .int x4), (3, .int s30.1), (4, .int s30.2.1), (5, .int s30.2.2), (7, .int v.1)]) (Sf := fun v : Int32 × Int32 => [.int v.2]) (Hf := fun v : Int32 × Int32 => h) (jf := fun v : Int32 × Int32 => fX9_look_j136 v0 v1 x4 s30.1 s30.2.1 s30.2.2 v.1 v.2 h) (fun v => ?_) (fun hj136 => ?_)
        · obtain ⟨v7, t0⟩ := v
          show xJ iX9_look κ _ 136 [(0, .ref v0), (1, .int v1), (2, .int x4), (3, .int s30.1), (4, .int s30.2.1), (5, .int s30.2.2), (7, .int v7)] [.int t0] h (fX9_look_j136 v0 v1 x4 s30.1 s30.2.1 s30.2.2 v7 t0 h)
          unfold fX9_look_j136
          refine j_istore (L' := [(6, .int t0), (0, .ref v0), (1, .int v1), (2, .int x4), (3, .int s30.1), (4, .int s30.2.1), (5, .int s30.2.2), (7, .int v7)]) dX9_look_136 (Nat.le_of_ble_eq_true rfl) rfl ?_
          refine j_iinc (y := v7 + 1) (L' := [(7, .int (v7 + 1)), (6, .int t0), (0, .ref v0), (1, .int v1), (2, .int x4), (3, .int s30.1), (4, .int s30.2.1), (5, .int s30.2.2)]) 7 dX9_look_138 rfl rfl (Nat.le_of_ble_eq_true rfl) rfl ?_
          refine j_goto (tgt := 47) dX9_look_141 (by decide) ?_
          refine j_pick [2, 3, 4, 5, 6, 7, 1, 0] rfl ?_
          exact j_again (t0, v7 + 1) rfl rfl
        refine j_have (pj := 122) (Lf := fun v : Int32 × Int32 × Int32 => [(0, .ref v0), (1, .int v1), (2, .int x4), (3, .int s30.1), (4, .int s30.2.1), (5, .int s30.2.2), (6, .int v.1), (7, .int v.2.1), (8, .int v.2.2)]) (Sf := fun v : Int32 × Int32 × Int32 => []) (Hf := fun v : Int32 × Int32 × Int32 => h) (jf := fun v : Int32 × Int32 × Int32 => fX9_look_j122 v0 v1 x4 s30.1 s30.2.1 s30.2.2 v.1 v.2.1 v.2.2 h) (fun v => ?_) (fun hj122 => ?_)
        · obtain ⟨v6, v7, v8⟩ := v
          show xJ iX9_look κ _ 122 [(0, .ref v0), (1, .int v1), (2, .int x4), (3, .int s30.1), (4, .int s30.2.1), (5, .int s30.2.2), (6, .int v6), (7, .int v7), (8, .int v8)] [] h (fX9_look_j122 v0 v1 x4 s30.1 s30.2.1 s30.2.2 v6 v7 v8 h)
          unfold fX9_look_j122
          refine j_iload 8 dX9_look_122 rfl ?_
          refine j_iload 6 dX9_look_124 rfl ?_
          refine j_icmp_le (tgt := 134) dX9_look_126 (by decide) (fun c8 => ?_) (fun c8 => ?_)
          · refine j_iload 6 dX9_look_134 rfl ?_
            refine j_pick [0, 1, 2, 3, 4, 5, 7] rfl ?_
            exact hj136 (v7, v6)
          · refine j_iload 8 dX9_look_129 rfl ?_
            refine j_goto (tgt := 136) dX9_look_131 (by decide) ?_
            refine j_pick [0, 1, 2, 3, 4, 5, 7] rfl ?_
            exact hj136 (v7, v8)
        refine j_iload 7 dX9_look_47 rfl ?_
        refine j_bipush (x := 6) dX9_look_49 (by decide) ?_
        refine j_icmp_ge (tgt := 144) dX9_look_51 (by decide) (fun c9 => ?_) (fun c9 => ?_)
        · refine j_exit (v0, v1, x4, s30.1, s30.2.1, s30.2.2, s47.1) ?_
          show xJ iX9_look κ _ _ _ _ _ (if (s30.2.1 : Int32) ≤ s47.1 then (fX9_look_j157 v0 v1 x4 s30.2.1 s30.2.2 s47.1 s30.1 h) else (fX9_look_j157 v0 v1 x4 s30.2.1 s30.2.2 s47.1 s30.2.2 h))
          refine j_iload 6 dX9_look_144 rfl ?_
          refine j_iload 4 dX9_look_146 rfl ?_
          refine j_icmp_ge (tgt := 156) dX9_look_148 (by decide) (fun c10 => ?_) (fun c10 => ?_)
          · refine j_iload_n 3 dX9_look_156 rfl rfl ?_
            refine j_pick [0, 1, 2, 4, 5, 6] rfl ?_
            exact hj157 (s30.2.1, s30.2.2, s47.1, s30.1)
          · refine j_iload 5 dX9_look_151 rfl ?_
            refine j_goto (tgt := 157) dX9_look_153 (by decide) ?_
            refine j_pick [0, 1, 2, 4, 5, 6] rfl ?_
            exact hj157 (s30.2.1, s30.2.2, s47.1, s30.2.2)
        · refine j_iconst (x := 0) dX9_look_54 (by decide) ?_
          refine j_istore (L' := [(8, .int 0), (0, .ref v0), (1, .int v1), (2, .int x4), (3, .int s30.1), (4, .int s30.2.1), (5, .int s30.2.2), (6, .int s47.1), (7, .int s47.2)]) dX9_look_55 (Nat.le_of_ble_eq_true rfl) rfl ?_
          refine j_iconst (x := 0) dX9_look_57 (by decide) ?_
          refine j_istore (L' := [(9, .int 0), (8, .int 0), (0, .ref v0), (1, .int v1), (2, .int x4), (3, .int s30.1), (4, .int s30.2.1), (5, .int s30.2.2), (6, .int s47.1), (7, .int s47.2)]) dX9_look_58 (Nat.le_of_ble_eq_true rfl) rfl ?_
          refine j_pick [2, 3, 4, 5, 6, 7, 8, 9, 1, 0] rfl ?_
          refine j_loop (pc := 60) (Lf := fun s60 : Int32 × Int32 => [(0, .ref v0), (1, .int v1), (2, .int x4), (3, .int s30.1), (4, .int s30.2.1), (5, .int s30.2.2), (6, .int s47.1), (7, .int s47.2), (8, .int s60.1), (9, .int s60.2)]) (Hf := fun s60 : Int32 × Int32 => h) (fun s60 => ?_) 1000000 (0, 0)
          show xJ iX9_look κ _ 60 [(0, .ref v0), (1, .int v1), (2, .int x4), (3, .int s30.1), (4, .int s30.2.1), (5, .int s30.2.2), (6, .int s47.1), (7, .int s47.2), (8, .int s60.1), (9, .int s60.2)] [] h (fX9_look_b60 v0 v1 x4 s30.1 s30.2.1 s30.2.2 s47.1 s47.2 h s60)
          unfold fX9_look_b60
          refine j_have (pj := 113) (Lf := fun v : Int32 × Int32 × Int32 => [(0, .ref v0), (1, .int v1), (2, .int x4), (3, .int s30.1), (4, .int s30.2.1), (5, .int s30.2.2), (6, .int s47.1), (7, .int s47.2), (9, .int v.1)]) (Sf := fun v : Int32 × Int32 × Int32 => [.int v.2.1, .int v.2.2]) (Hf := fun v : Int32 × Int32 × Int32 => h) (jf := fun v : Int32 × Int32 × Int32 => fX9_look_j113 v0 v1 x4 s30.1 s30.2.1 s30.2.2 s47.1 s47.2 v.1 v.2.1 v.2.2 h) (fun v => ?_) (fun hj113 => ?_)
          · obtain ⟨v9, t0, t1⟩ := v
            show xJ iX9_look κ _ 113 [(0, .ref v0), (1, .int v1), (2, .int x4), (3, .int s30.1), (4, .int s30.2.1), (5, .int s30.2.2), (6, .int s47.1), (7, .int s47.2), (9, .int v9)] [.int t0, .int t1] h (fX9_look_j113 v0 v1 x4 s30.1 s30.2.1 s30.2.2 s47.1 s47.2 v9 t0 t1 h)
            unfold fX9_look_j113
            refine j_iadd dX9_look_113 ?_
            refine j_istore (L' := [(8, .int (t1 + t0)), (0, .ref v0), (1, .int v1), (2, .int x4), (3, .int s30.1), (4, .int s30.2.1), (5, .int s30.2.2), (6, .int s47.1), (7, .int s47.2), (9, .int v9)]) dX9_look_114 (Nat.le_of_ble_eq_true rfl) rfl ?_
            refine j_iinc (y := v9 + 1) (L' := [(9, .int (v9 + 1)), (8, .int (t1 + t0)), (0, .ref v0), (1, .int v1), (2, .int x4), (3, .int s30.1), (4, .int s30.2.1), (5, .int s30.2.2), (6, .int s47.1), (7, .int s47.2)]) 9 dX9_look_116 rfl rfl (Nat.le_of_ble_eq_true rfl) rfl ?_
            refine j_goto (tgt := 60) dX9_look_119 (by decide) ?_
            refine j_pick [2, 3, 4, 5, 6, 7, 8, 9, 1, 0] rfl ?_
            exact j_again (t1 + t0, v9 + 1) rfl rfl
          refine j_have (pj := 112) (Lf := fun v : Int32 × Int32 => [(0, .ref v0), (1, .int v1), (2, .int x4), (3, .int s30.1), (4, .int s30.2.1), (5, .int s30.2.2), (6, .int s47.1), (7, .int s47.2), (9, .int v.1)]) (Sf := fun v : Int32 × Int32 => [.int v.2]) (Hf := fun v : Int32 × Int32 => h) (jf := fun v : Int32 × Int32 => fX9_look_j112 v0 v1 x4 s30.1 s30.2.1 s30.2.2 s47.1 s47.2 v.1 v.2 h) (fun v => ?_) (fun hj112 => ?_)
          · obtain ⟨v9, t0⟩ := v
            show xJ iX9_look κ _ 112 [(0, .ref v0), (1, .int v1), (2, .int x4), (3, .int s30.1), (4, .int s30.2.1), (5, .int s30.2.2), (6, .int s47.1), (7, .int s47.2), (9, .int v9)] [.int t0] h (fX9_look_j112 v0 v1 x4 s30.1 s30.2.1 s30.2.2 s47.1 s47.2 v9 t0 h)
            unfold fX9_look_j112
            refine j_iconst (x := 0) dX9_look_112 (by decide) ?_
            refine j_pick [0, 1, 2, 3, 4, 5, 6, 7, 8] rfl ?_
            exact hj113 (v9, 0, t0)
          refine j_iload 9 dX9_look_60 rfl ?_
          refine j_bipush (x := 6) dX9_look_62 (by decide) ?_
          refine j_icmp_ge (tgt := 122) dX9_look_64 (by decide) (fun c11 => ?_) (fun c11 => ?_)
          · refine j_exit (v0, v1, x4, s30.1, s30.2.1, s30.2.2, s47.1, s47.2, s60.1) ?_
            show xJ iX9_look κ _ _ _ _ _ (fX9_look_j122 v0 v1 x4 s30.1 s30.2.1 s30.2.2 s47.1 s47.2 s60.1 h)
            refine j_pick [0, 1, 2, 3, 4, 5, 6, 7, 8] rfl ?_
            exact hj122 (s47.1, s47.2, s60.1)
          · refine j_iload_n 2 dX9_look_67 rfl rfl ?_
            refine j_iload 7 dX9_look_68 rfl ?_
            refine j_callS (as := [.int x4, .int s47.2]) (fun x => some (.int x)) (fun _ => h) dX9_look_70 ml_RX9_97 tg_X9_has st_X9_has (fun x hx => kX9_has κ.1 κ.2.1 x4 s47.2 h x hx) (by decide) (by decide) rfl rfl (Nat.le_of_ble_eq_true rfl) (fun x12 => ?_)
            show xJ iX9_look κ _ 73 [(0, .ref v0), (1, .int v1), (2, .int x4), (3, .int s30.1), (4, .int s30.2.1), (5, .int s30.2.2), (6, .int s47.1), (7, .int s47.2), (8, .int s60.1), (9, .int s60.2)] [.int x12] h _
            refine j_if_eq (tgt := 122) dX9_look_73 (by decide) (fun c13 => ?_) (fun c13 => ?_)
            · refine j_exit (v0, v1, x4, s30.1, s30.2.1, s30.2.2, s47.1, s47.2, s60.1) ?_
              show xJ iX9_look κ _ _ _ _ _ (fX9_look_j122 v0 v1 x4 s30.1 s30.2.1 s30.2.2 s47.1 s47.2 s60.1 h)
              refine j_pick [0, 1, 2, 3, 4, 5, 6, 7, 8] rfl ?_
              exact hj122 (s47.1, s47.2, s60.1)
            · refine j_iload 8 dX9_look_76 rfl ?_
              refine j_iload_n 2 dX9_look_78 rfl rfl ?_
              refine j_iload 9 dX9_look_79 rfl ?_
              refine j_callS (as := [.int x4, .int s60.2]) (fun x => some (.int x)) (fun _ => h) dX9_look_81 ml_RX9_97 tg_X9_has st_X9_has (fun x hx => kX9_has κ.1 κ.2.1 x4 s60.2 h x hx) (by decide) (by decide) rfl rfl (Nat.le_of_ble_eq_true rfl) (fun x14 => ?_)
              show xJ iX9_look κ _ 84 [(0, .ref v0), (1, .int v1), (2, .int x4), (3, .int s30.1), (4, .int s30.2.1), (5, .int s30.2.2), (6, .int s47.1), (7, .int s47.2), (8, .int s60.1), (9, .int s60.2)] [.int x14, .int s60.1] h _
              refine j_if_eq (tgt := 112) dX9_look_84 (by decide) (fun c15 => ?_) (fun c15 => ?_)
              · refine j_pick [0, 1, 2, 3, 4, 5, 6, 7, 9] rfl ?_
                exact hj112 (s60.2, s60.1)
              · refine j_iload 7 dX9_look_87 rfl ?_
                refine j_iload 9 dX9_look_89 rfl ?_
                refine j_aload_n 0 dX9_look_91 rfl rfl ?_
                refine j_getR 9 18 0 dX9_look_92 fl_RX9_7 (by decide) rfl (by decide) (fun _ _ _ => rfl) (fun x16 => ?_)
                refine j_bipush (x := 26) dX9_look_95 (by decide) ?_
                refine j_iload_n 1 dX9_look_97 rfl rfl ?_
                refine j_iadd dX9_look_98 ?_
                refine j_iald dX9_look_99 (fun x17 => ?_)
                refine j_iload 5 dX9_look_100 rfl ?_
                refine j_callS (as := [.int s47.2, .int s60.2, .int x17, .int s30.2.2]) (fun x => some (.int x)) (fun _ => h) dX9_look_102 ml_RX9_155 tg_X9_areAlike st_X9_areAlike (fun x hx => kX9_areAlike κ.1 κ.2.1 s47.2 s60.2 x17 s30.2.2 h x hx) (by decide) (by decide) rfl rfl (Nat.le_of_ble_eq_true rfl) (fun x18 => ?_)
                show xJ iX9_look κ _ 105 [(0, .ref v0), (1, .int v1), (2, .int x4), (3, .int s30.1), (4, .int s30.2.1), (5, .int s30.2.2), (6, .int s47.1), (7, .int s47.2), (8, .int s60.1), (9, .int s60.2)] [.int x18, .int s60.1] h _
                refine j_if_eq (tgt := 112) dX9_look_105 (by decide) (fun c19 => ?_) (fun c19 => ?_)
                · refine j_pick [0, 1, 2, 3, 4, 5, 6, 7, 9] rfl ?_
                  exact hj112 (s60.2, s60.1)
                · refine j_iconst (x := 1) dX9_look_108 (by decide) ?_
                  refine j_goto (tgt := 113) dX9_look_109 (by decide) ?_
                  refine j_pick [0, 1, 2, 3, 4, 5, 6, 7, 9] rfl ?_
                  exact hj113 (s60.2, 1, s60.1)
