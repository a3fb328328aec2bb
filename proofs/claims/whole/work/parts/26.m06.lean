def fX8_doubtTall (h : Hp) : Option (Int32) :=
  (fX8_plainTall h).bind fun x1 => some (x1 + 2)
abbrev iX8_doubtTall : xI := (cX8_doubtTall, yX8_doubtTall.cls, yX8_doubtTall.name, some .int, 0, 3)
set_option maxHeartbeats 4000000 in
set_option maxRecDepth 100000 in
theorem kX8_doubtTall (l : Launch) (η : xEnv) (h : Hp) (x : Int32) (hx : fX8_doubtTall h = some x) : xC l η yX8_doubtTall cX8_doubtTall 0 (some .int) 3 [] h (some (.int x)) h := by
  refine xC_of (by decide) (Nat.le_of_ble_eq_true rfl) hx (fun κ x => κ.2.2.2.1 = some (.int x) ∧ κ.2.2.2.2 = h) ⟨rfl, rfl⟩ (fun κ => ?_)
  show xJ iX8_doubtTall κ _ 0 [] [] h (fX8_doubtTall h)
  unfold fX8_doubtTall
  refine j_callS (as := []) (fun x => some (.int x)) (fun _ => h) dX8_doubtTall_0 ml_RX8_320 tg_X8_plainTall st_X8_plainTall (fun x hx => kX8_plainTall κ.1 κ.2.1 h x hx) (by decide) (by decide) rfl rfl (Nat.le_of_ble_eq_true rfl) (fun x1 => ?_)
  show xJ iX8_doubtTall κ _ 3 [] [.int x1] h _
  refine j_iconst (x := 2) dX8_doubtTall_3 (by decide) ?_
  refine j_iadd dX8_doubtTall_4 ?_
  exact j_iret (x1 + 2) dX8_doubtTall_5 rfl (fun q => q)
def fX8_tallOf (v0 : Int32) (v1 : Int32) (h : Hp) : Option (Int32) :=
  if (v0 : Int32) = 0 then ((fX8_plainTall h).bind fun x2 => some x2) else if (v0 : Int32) = 1 then ((fX8_economyTall h).bind fun x4 => some x4) else if (v0 : Int32) = 2 then ((fX8_plainTall h).bind fun x6 => some x6) else if (v0 : Int32) = 3 then ((fX8_doubtTall h).bind fun x8 => some x8) else if (v0 : Int32) = 4 then ((fX8_economyTall h).bind fun x10 => if (3 : Int32) = 0 then none else some (x10 + (v1 / 3))) else ((fX8_doubtTall h).bind fun x12 => some (x12 - 1))
abbrev iX8_tallOf : xI := (cX8_tallOf, yX8_tallOf.cls, yX8_tallOf.name, some .int, 2, 4)
set_option maxHeartbeats 4000000 in
set_option maxRecDepth 100000 in
theorem kX8_tallOf (l : Launch) (η : xEnv) (v0 : Int32) (v1 : Int32) (h : Hp) (x : Int32) (hx : fX8_tallOf v0 v1 h = some x) : xC l η yX8_tallOf cX8_tallOf 2 (some .int) 4 [.int v0, .int v1] h (some (.int x)) h := by
  refine xC_of (by decide) (Nat.le_of_ble_eq_true rfl) hx (fun κ x => κ.2.2.2.1 = some (.int x) ∧ κ.2.2.2.2 = h) ⟨rfl, rfl⟩ (fun κ => ?_)
  show xJ iX8_tallOf κ _ 0 [(0, .int v0), (1, .int v1)] [] h (fX8_tallOf v0 v1 h)
  unfold fX8_tallOf
  refine j_iload_n 0 dX8_tallOf_0 rfl rfl ?_
  refine j_tabv (w := 0) (off := 35) (tgt := 36) dX8_tallOf_1 (by decide) (by decide) (by decide) (by decide) (fun c1 => ?_) (fun c1 => ?_)
  · refine j_callS (as := []) (fun x => some (.int x)) (fun _ => h) dX8_tallOf_36 ml_RX8_320 tg_X8_plainTall st_X8_plainTall (fun x hx => kX8_plainTall κ.1 κ.2.1 h x hx) (by decide) (by decide) rfl rfl (Nat.le_of_ble_eq_true rfl) (fun x2 => ?_)
    show xJ iX8_tallOf κ _ 39 [(0, .int v0), (1, .int v1)] [.int x2] h _
    exact j_iret x2 dX8_tallOf_39 rfl (fun q => q)
  refine j_tabv (w := 1) (off := 39) (tgt := 40) dX8_tallOf_1 (by decide) (by decide) (by decide) (by decide) (fun c3 => ?_) (fun c3 => ?_)
  · refine j_callS (as := []) (fun x => some (.int x)) (fun _ => h) dX8_tallOf_40 ml_RX8_323 tg_X8_economyTall st_X8_economyTall (fun x hx => kX8_economyTall κ.1 κ.2.1 h x hx) (by decide) (by decide) rfl rfl (Nat.le_of_ble_eq_true rfl) (fun x4 => ?_)
    show xJ iX8_tallOf κ _ 43 [(0, .int v0), (1, .int v1)] [.int x4] h _
    exact j_iret x4 dX8_tallOf_43 rfl (fun q => q)
  refine j_tabv (w := 2) (off := 43) (tgt := 44) dX8_tallOf_1 (by decide) (by decide) (by decide) (by decide) (fun c5 => ?_) (fun c5 => ?_)
  · refine j_callS (as := []) (fun x => some (.int x)) (fun _ => h) dX8_tallOf_44 ml_RX8_320 tg_X8_plainTall st_X8_plainTall (fun x hx => kX8_plainTall κ.1 κ.2.1 h x hx) (by decide) (by decide) rfl rfl (Nat.le_of_ble_eq_true rfl) (fun x6 => ?_)
    show xJ iX8_tallOf κ _ 47 [(0, .int v0), (1, .int v1)] [.int x6] h _
    exact j_iret x6 dX8_tallOf_47 rfl (fun q => q)
  refine j_tabv (w := 3) (off := 47) (tgt := 48) dX8_tallOf_1 (by decide) (by decide) (by decide) (by decide) (fun c7 => ?_) (fun c7 => ?_)
  · refine j_callS (as := []) (fun x => some (.int x)) (fun _ => h) dX8_tallOf_48 ml_RX8_326 tg_X8_doubtTall st_X8_doubtTall (fun x hx => kX8_doubtTall κ.1 κ.2.1 h x hx) (by decide) (by decide) rfl rfl (Nat.le_of_ble_eq_true rfl) (fun x8 => ?_)
    show xJ iX8_tallOf κ _ 51 [(0, .int v0), (1, .int v1)] [.int x8] h _
    exact j_iret x8 dX8_tallOf_51 rfl (fun q => q)
  refine j_tabv (w := 4) (off := 51) (tgt := 52) dX8_tallOf_1 (by decide) (by decide) (by decide) (by decide) (fun c9 => ?_) (fun c9 => ?_)
  · refine j_callS (as := []) (fun x => some (.int x)) (fun _ => h) dX8_tallOf_52 ml_RX8_323 tg_X8_economyTall st_X8_economyTall (fun x hx => kX8_economyTall κ.1 κ.2.1 h x hx) (by decide) (by decide) rfl rfl (Nat.le_of_ble_eq_true rfl) (fun x10 => ?_)
    show xJ iX8_tallOf κ _ 55 [(0, .int v0), (1, .int v1)] [.int x10] h _
    refine j_iload_n 1 dX8_tallOf_55 rfl rfl ?_
    refine j_iconst (x := 3) dX8_tallOf_56 (by decide) ?_
    refine j_idiv dX8_tallOf_57 (fun c11 => ?_)
    refine j_iadd dX8_tallOf_58 ?_
    exact j_iret (x10 + (v1 / 3)) dX8_tallOf_59 rfl (fun q => q)
  refine j_tabd (tgt := 60) dX8_tallOf_1 (by have ec1 : (v0 : Int32).toInt ≠ 0 := fun q => c1 (Int32.toInt_inj.mp (q.trans (by decide))); have ec3 : (v0 : Int32).toInt ≠ 1 := fun q => c3 (Int32.toInt_inj.mp (q.trans (by decide))); have ec5 : (v0 : Int32).toInt ≠ 2 := fun q => c5 (Int32.toInt_inj.mp (q.trans (by decide))); have ec7 : (v0 : Int32).toInt ≠ 3 := fun q => c7 (Int32.toInt_inj.mp (q.trans (by decide))); have ec9 : (v0 : Int32).toInt ≠ 4 := fun q => c9 (Int32.toInt_inj.mp (q.trans (by decide))); omega) (by decide) ?_
  refine j_callS (as := []) (fun x => some (.int x)) (fun _ => h) dX8_tallOf_60 ml_RX8_326 tg_X8_doubtTall st_X8_doubtTall (fun x hx => kX8_doubtTall κ.1 κ.2.1 h x hx) (by decide) (by decide) rfl rfl (Nat.le_of_ble_eq_true rfl) (fun x12 => ?_)
  show xJ iX8_tallOf κ _ 63 [(0, .int v0), (1, .int v1)] [.int x12] h _
  refine j_iconst (x := 1) dX8_tallOf_63 (by decide) ?_
  refine j_isub dX8_tallOf_64 ?_
  exact j_iret (x12 - 1) dX8_tallOf_65 rfl (fun q => q)
def fX0_scrape_j85 (v0 : Nat) (v1 : Nat) (v2 : Int32) (v3 : Int32) (v4 : Int32) (h : Hp) : Option ((Int32 × Hp) ⊕ ((Hp))) :=
  some (Sum.inl (v4 + 1, h))
def fX0_scrape_b13 (v0 : Nat) (v1 : Nat) (v2 : Int32) (v3 : Int32) (s13 : Int32 × Hp) : Option ((Int32 × Hp) ⊕ ((Hp))) :=
  (xgI s13.2 v0 (0, 16) 2).bind fun x4 => if (x4 : Int32) ≤ s13.1 then (some (Sum.inr s13.2)) else ((xgI s13.2 v1 (5, 5) 1).bind fun x6 => (fX8_bit x6 s13.1 s13.2).bind fun x7 => if (x7 : Int32) = 1 then ((xgR s13.2 v0 (0, 16) 3).bind fun x9 => (xaI s13.2 x9 10 s13.1).bind fun x10 => (fX8_tallOf x10 v2 s13.2).bind fun x11 => (xgR s13.2 v0 (0, 16) 1).bind fun x12 => (xaI s13.2 x12 10 v2).bind fun x13 => if (x11 : Int32) ≤ (x13 + v3) then (fX0_scrape_j85 v0 v1 v2 v3 s13.1 s13.2) else ((xgI s13.2 v1 (5, 5) 1).bind fun x15 => (xpI s13.2 v1 (5, 5) 1 (x15 &&& ((1 <<< (s13.1 &&& 31)) ^^^ (-1)))).bind fun h16 => (xgI h16 v1 (5, 5) 2).bind fun x17 => (xpI h16 v1 (5, 5) 2 (x17 ||| (1 <<< (s13.1 &&& 31)))).bind fun h18 => fX0_scrape_j85 v0 v1 v2 v3 s13.1 h18)) else (fX0_scrape_j85 v0 v1 v2 v3 s13.1 s13.2))
def fX0_scrape (v0 : Nat) (v1 : Nat) (v2 : Int32) (v3 : Int32) (h : Hp) : Option (Hp) :=
  (xgR h v0 (0, 16) 1).bind fun x1 => (xaI h x1 10 v2).bind fun x2 => if (x2 : Int32) = 0 then (some h) else ((xloop (fX0_scrape_b13 v0 v1 v2 v3) 1000000 (0, h)).bind (fun r13 => some r13))
abbrev iX0_scrape : xI := (cX0_scrape, yX0_scrape.cls, yX0_scrape.name, none, 5, 5)
set_option maxHeartbeats 4000000 in
set_option maxRecDepth 100000 in
theorem kX0_scrape (l : Launch) (η : xEnv) (v0 : Nat) (v1 : Nat) (v2 : Int32) (v3 : Int32) (h : Hp) (x : Hp) (hx : fX0_scrape v0 v1 v2 v3 h = some x) : xC l η yX0_scrape cX0_scrape 5 none 5 [.ref v0, .ref v1, .int v2, .int v3] h none x := by
  refine xC_of (by decide) (Nat.le_of_ble_eq_true rfl) hx (fun κ x => κ.2.2.2.1 = none ∧ κ.2.2.2.2 = x) ⟨rfl, rfl⟩ (fun κ => ?_)
  show xJ iX0_scrape κ _ 0 [(0, .ref v0), (1, .ref v1), (2, .int v2), (3, .int v3)] [] h (fX0_scrape v0 v1 v2 v3 h)
  unfold fX0_scrape
  refine j_aload_n 0 dX0_scrape_0 rfl rfl ?_
  refine j_getR 0 16 1 dX0_scrape_1 fl_RX0_15 (by decide) rfl (by decide) (fun _ _ _ => rfl) (fun x1 => ?_)
  refine j_iload_n 2 dX0_scrape_4 rfl rfl ?_
  refine j_iald dX0_scrape_5 (fun x2 => ?_)
  refine j_if_ne (tgt := 10) dX0_scrape_6 (by decide) (fun c3 => ?_) (fun c3 => ?_)
  · exact j_vret h dX0_scrape_9 rfl (fun q => q)
  · refine j_iconst (x := 0) dX0_scrape_10 (by decide) ?_
    refine j_istore (L' := [(4, .int 0), (0, .ref v0), (1, .ref v1), (2, .int v2), (3, .int v3)]) dX0_scrape_11 (Nat.le_of_ble_eq_true rfl) rfl ?_
    refine j_pick [1, 2, 3, 4, 0] rfl ?_
    refine j_loop (pc := 13) (Lf := fun s13 : Int32 × Hp => [(0, .ref v0), (1, .ref v1), (2, .int v2), (3, .int v3), (4, .int s13.1)]) (Hf := fun s13 : Int32 × Hp => s13.2) (fun s13 => ?_) 1000000 (0, h)
    show xJ iX0_scrape κ _ 13 [(0, .ref v0), (1, .ref v1), (2, .int v2), (3, .int v3), (4, .int s13.1)] [] s13.2 (fX0_scrape_b13 v0 v1 v2 v3 s13)
    unfold fX0_scrape_b13
    refine j_have (pj := 85) (Lf := fun v : Int32 × Hp => [(0, .ref v0), (1, .ref v1), (2, .int v2), (3, .int v3), (4, .int v.1)]) (Sf := fun v : Int32 × Hp => []) (Hf := fun v : Int32 × Hp => v.2) (jf := fun v : Int32 × Hp => fX0_scrape_j85 v0 v1 v2 v3 v.1 v.2) (fun v => ?_) (fun hj85 => ?_)
    · obtain ⟨v4, h⟩ := v
      show xJ iX0_scrape κ _ 85 [(0, .ref v0), (1, .ref v1), (2, .int v2), (3, .int v3), (4, .int v4)] [] h (fX0_scrape_j85 v0 v1 v2 v3 v4 h)
      unfold fX0_scrape_j85
      refine j_iinc (y := v4 + 1) (L' := [(4, .int (v4 + 1)), (0, .ref v0), (1, .ref v1), (2, .int v2), (3, .int v3)]) 4 dX0_scrape_85 rfl rfl (Nat.le_of_ble_eq_true rfl) rfl ?_
      refine j_goto (tgt := 13) dX0_scrape_88 (by decide) ?_
      refine j_pick [1, 2, 3, 4, 0] rfl ?_
      exact j_again (v4 + 1, h) rfl rfl
    refine j_iload 4 dX0_scrape_13 rfl ?_
    refine j_aload_n 0 dX0_scrape_15 rfl rfl ?_
    refine j_getI 0 16 2 dX0_scrape_16 fl_RX0_57 (by decide) rfl (by decide) rfl (fun x4 => ?_)
    refine j_icmp_ge (tgt := 91) dX0_scrape_19 (by decide) (fun c5 => ?_) (fun c5 => ?_)
    · refine j_exit s13.2 ?_
      show xJ iX0_scrape κ _ _ _ _ _ (some s13.2)
      exact j_vret s13.2 dX0_scrape_91 rfl (fun q => q)
    · refine j_aload_n 1 dX0_scrape_22 rfl rfl ?_
      refine j_getI 5 5 1 dX0_scrape_23 fl_RX0_109 (by decide) rfl (by decide) rfl (fun x6 => ?_)
      refine j_iload 4 dX0_scrape_26 rfl ?_
      refine j_callSN (as := [.int x6, .int s13.1]) (fun x => some (.int x)) (fun _ => s13.2) dX0_scrape_28 nl_RX0_125 tg_X8_bit st_X8_bit (fun x hx => kX8_bit κ.1 κ.2.1 x6 s13.1 s13.2 x hx) (by decide) (by decide) rfl rfl (Nat.le_of_ble_eq_true rfl) (fun x7 => ?_)
      show xJ iX0_scrape κ _ 31 [(0, .ref v0), (1, .ref v1), (2, .int v2), (3, .int v3), (4, .int s13.1)] [.int x7] s13.2 _
      refine j_iconst (x := 1) dX0_scrape_31 (by decide) ?_
      refine j_icmp_ne (tgt := 85) dX0_scrape_32 (by decide) (fun c8 => ?_) (fun c8 => ?_)
      · refine j_aload_n 0 dX0_scrape_35 rfl rfl ?_
        refine j_getR 0 16 3 dX0_scrape_36 fl_RX0_19 (by decide) rfl (by decide) (fun _ _ _ => rfl) (fun x9 => ?_)
        refine j_iload 4 dX0_scrape_39 rfl ?_
        refine j_iald dX0_scrape_41 (fun x10 => ?_)
        refine j_iload_n 2 dX0_scrape_42 rfl rfl ?_
        refine j_callSN (as := [.int x10, .int v2]) (fun x => some (.int x)) (fun _ => s13.2) dX0_scrape_43 nl_RX0_128 tg_X8_tallOf st_X8_tallOf (fun x hx => kX8_tallOf κ.1 κ.2.1 x10 v2 s13.2 x hx) (by decide) (by decide) rfl rfl (Nat.le_of_ble_eq_true rfl) (fun x11 => ?_)
        show xJ iX0_scrape κ _ 46 [(0, .ref v0), (1, .ref v1), (2, .int v2), (3, .int v3), (4, .int s13.1)] [.int x11] s13.2 _
        refine j_aload_n 0 dX0_scrape_46 rfl rfl ?_
        refine j_getR 0 16 1 dX0_scrape_47 fl_RX0_15 (by decide) rfl (by decide) (fun _ _ _ => rfl) (fun x12 => ?_)
        refine j_iload_n 2 dX0_scrape_50 rfl rfl ?_
        refine j_iald dX0_scrape_51 (fun x13 => ?_)
        refine j_iload_n 3 dX0_scrape_52 rfl rfl ?_
        refine j_iadd dX0_scrape_53 ?_
        refine j_icmp_le (tgt := 85) dX0_scrape_54 (by decide) (fun c14 => ?_) (fun c14 => ?_)
        · refine j_pick [0, 1, 2, 3, 4] rfl ?_
          exact hj85 (s13.1, s13.2)
        · refine j_aload_n 1 dX0_scrape_57 rfl rfl ?_
          refine j_dup dX0_scrape_58 rfl ?_
          refine j_getI 5 5 1 dX0_scrape_59 fl_RX0_109 (by decide) rfl (by decide) rfl (fun x15 => ?_)
          refine j_iconst (x := 1) dX0_scrape_62 (by decide) ?_
          refine j_iload 4 dX0_scrape_63 rfl ?_
          refine j_ishl dX0_scrape_65 ?_
          refine j_iconst (x := (-1)) dX0_scrape_66 (by decide) ?_
          refine j_ixor dX0_scrape_67 ?_
          refine j_iand dX0_scrape_68 ?_
          refine j_putI 5 5 1 dX0_scrape_69 fl_RX0_109 (by decide) rfl (by decide) rfl rfl (fun h16 => ?_)
          refine j_aload_n 1 dX0_scrape_72 rfl rfl ?_
          refine j_dup dX0_scrape_73 rfl ?_
          refine j_getI 5 5 2 dX0_scrape_74 fl_RX0_131 (by decide) rfl (by decide) rfl (fun x17 => ?_)
          refine j_iconst (x := 1) dX0_scrape_77 (by decide) ?_
          refine j_iload 4 dX0_scrape_78 rfl ?_
          refine j_ishl dX0_scrape_80 ?_
          refine j_ior dX0_scrape_81 ?_
          refine j_putI 5 5 2 dX0_scrape_82 fl_RX0_131 (by decide) rfl (by decide) rfl rfl (fun h18 => ?_)
          refine j_pick [0, 1, 2, 3, 4] rfl ?_
          exact hj85 (s13.1, h18)
      · refine j_pick [0, 1, 2, 3, 4] rfl ?_
        exact hj85 (s13.1, s13.2)
def fX8_plainSway (v0 : Int32) (h : Hp) : Option (Int32) :=
  some v0
abbrev iX8_plainSway : xI := (cX8_plainSway, yX8_plainSway.cls, yX8_plainSway.name, some .int, 1, 2)
set_option maxHeartbeats 4000000 in
set_option maxRecDepth 100000 in
theorem kX8_plainSway (l : Launch) (η : xEnv) (v0 : Int32) (h : Hp) (x : Int32) (hx : fX8_plainSway v0 h = some x) : xC l η yX8_plainSway cX8_plainSway 1 (some .int) 2 [.int v0] h (some (.int x)) h := by
  refine xC_of (by decide) (Nat.le_of_ble_eq_true rfl) hx (fun κ x => κ.2.2.2.1 = some (.int x) ∧ κ.2.2.2.2 = h) ⟨rfl, rfl⟩ (fun κ => ?_)
  show xJ iX8_plainSway κ _ 0 [(0, .int v0)] [] h (fX8_plainSway v0 h)
  unfold fX8_plainSway
  refine j_iload_n 0 dX8_plainSway_0 rfl rfl ?_
  exact j_iret v0 dX8_plainSway_1 rfl (fun q => q)
def fX8_economySway (v0 : Int32) (h : Hp) : Option (Int32) :=
  (fX8_plainSway v0 h).bind fun x1 => if (2 : Int32) = 0 then none else some ((x1 + 1) / 2)
abbrev iX8_economySway : xI := (cX8_economySway, yX8_economySway.cls, yX8_economySway.name, some .int, 1, 3)
set_option maxHeartbeats 4000000 in
set_option maxRecDepth 100000 in
theorem kX8_economySway (l : Launch) (η : xEnv) (v0 : Int32) (h : Hp) (x : Int32) (hx : fX8_economySway v0 h = some x) : xC l η yX8_economySway cX8_economySway 1 (some .int) 3 [.int v0] h (some (.int x)) h := by
  refine xC_of (by decide) (Nat.le_of_ble_eq_true rfl) hx (fun κ x => κ.2.2.2.1 = some (.int x) ∧ κ.2.2.2.2 = h) ⟨rfl, rfl⟩ (fun κ => ?_)
  show xJ iX8_economySway κ _ 0 [(0, .int v0)] [] h (fX8_economySway v0 h)
  unfold fX8_economySway
  refine j_iload_n 0 dX8_economySway_0 rfl rfl ?_
  refine j_callS (as := [.int v0]) (fun x => some (.int x)) (fun _ => h) dX8_economySway_1 ml_RX8_314 tg_X8_plainSway st_X8_plainSway (fun x hx => kX8_plainSway κ.1 κ.2.1 v0 h x hx) (by decide) (by decide) rfl rfl (Nat.le_of_ble_eq_true rfl) (fun x1 => ?_)
  show xJ iX8_economySway κ _ 4 [(0, .int v0)] [.int x1] h _
  refine j_iconst (x := 1) dX8_economySway_4 (by decide) ?_
  refine j_iadd dX8_economySway_5 ?_
  refine j_iconst (x := 2) dX8_economySway_6 (by decide) ?_
  refine j_idiv dX8_economySway_7 (fun c2 => ?_)
  exact j_iret ((x1 + 1) / 2) dX8_economySway_8 rfl (fun q => q)
def fX8_swayOf_j66 (t0 : Int32) (h : Hp) : Option (Int32) :=
  some t0
def fX8_swayOf (v0 : Int32) (v1 : Int32) (v2 : Int32) (h : Hp) : Option (Int32) :=
  if (v0 : Int32) = 0 then ((fX8_plainSway v1 h).bind fun x2 => some x2) else if (v0 : Int32) = 1 then ((fX8_economySway v1 h).bind fun x4 => some x4) else if (v0 : Int32) = 2 then (if (2 : Int32) = 0 then none else if (v2 - v2 / 2 * 2 : Int32) = 1 then ((fX8_plainSway v1 h).bind fun x8 => fX8_swayOf_j66 (2 * x8) h) else ((fX8_plainSway v1 h).bind fun x9 => fX8_swayOf_j66 x9 h)) else if (v0 : Int32) = 3 then ((fX8_plainSway v1 h).bind fun x11 => some x11) else if (v0 : Int32) = 4 then ((fX8_economySway v1 h).bind fun x13 => some (x13 + 1)) else (some 0)
abbrev iX8_swayOf : xI := (cX8_swayOf, yX8_swayOf.cls, yX8_swayOf.name, some .int, 3, 4)
set_option maxHeartbeats 4000000 in
set_option maxRecDepth 100000 in
theorem kX8_swayOf (l : Launch) (η : xEnv) (v0 : Int32) (v1 : Int32) (v2 : Int32) (h : Hp) (x : Int32) (hx : fX8_swayOf v0 v1 v2 h = some x) : xC l η yX8_swayOf cX8_swayOf 3 (some .int) 4 [.int v0, .int v1, .int v2] h (some (.int x)) h := by
  refine xC_of (by decide) (Nat.le_of_ble_eq_true rfl) hx (fun κ x => κ.2.2.2.1 = some (.int x) ∧ κ.2.2.2.2 = h) ⟨rfl, rfl⟩ (fun κ => ?_)
  show xJ iX8_swayOf κ _ 0 [(0, .int v0), (1, .int v1), (2, .int v2)] [] h (fX8_swayOf v0 v1 v2 h)
  unfold fX8_swayOf
  refine j_have (pj := 66) (Lf := fun v : Int32 => []) (Sf := fun v : Int32 => [.int v]) (Hf := fun v : Int32 => h) (jf := fun v : Int32 => fX8_swayOf_j66 v h) (fun v => ?_) (fun hj66 => ?_)
  · generalize v = t0
    show xJ iX8_swayOf κ _ 66 [] [.int t0] h (fX8_swayOf_j66 t0 h)
    unfold fX8_swayOf_j66
    exact j_iret t0 dX8_swayOf_66 rfl (fun q => q)
  refine j_iload_n 0 dX8_swayOf_0 rfl rfl ?_
  refine j_tabv (w := 0) (off := 35) (tgt := 36) dX8_swayOf_1 (by decide) (by decide) (by decide) (by decide) (fun c1 => ?_) (fun c1 => ?_)
  · refine j_iload_n 1 dX8_swayOf_36 rfl rfl ?_
    refine j_callS (as := [.int v1]) (fun x => some (.int x)) (fun _ => h) dX8_swayOf_37 ml_RX8_314 tg_X8_plainSway st_X8_plainSway (fun x hx => kX8_plainSway κ.1 κ.2.1 v1 h x hx) (by decide) (by decide) rfl rfl (Nat.le_of_ble_eq_true rfl) (fun x2 => ?_)
    show xJ iX8_swayOf κ _ 40 [(0, .int v0), (1, .int v1), (2, .int v2)] [.int x2] h _
    exact j_iret x2 dX8_swayOf_40 rfl (fun q => q)
  refine j_tabv (w := 1) (off := 40) (tgt := 41) dX8_swayOf_1 (by decide) (by decide) (by decide) (by decide) (fun c3 => ?_) (fun c3 => ?_)
  · refine j_iload_n 1 dX8_swayOf_41 rfl rfl ?_
    refine j_callS (as := [.int v1]) (fun x => some (.int x)) (fun _ => h) dX8_swayOf_42 ml_RX8_317 tg_X8_economySway st_X8_economySway (fun x hx => kX8_economySway κ.1 κ.2.1 v1 h x hx) (by decide) (by decide) rfl rfl (Nat.le_of_ble_eq_true rfl) (fun x4 => ?_)
    show xJ iX8_swayOf κ _ 45 [(0, .int v0), (1, .int v1), (2, .int v2)] [.int x4] h _
    exact j_iret x4 dX8_swayOf_45 rfl (fun q => q)
  refine j_tabv (w := 2) (off := 45) (tgt := 46) dX8_swayOf_1 (by decide) (by decide) (by decide) (by decide) (fun c5 => ?_) (fun c5 => ?_)
  · refine j_iload_n 2 dX8_swayOf_46 rfl rfl ?_
    refine j_iconst (x := 2) dX8_swayOf_47 (by decide) ?_
    refine j_irem dX8_swayOf_48 (fun c6 => ?_)
    refine j_iconst (x := 1) dX8_swayOf_49 (by decide) ?_
    refine j_icmp_ne (tgt := 62) dX8_swayOf_50 (by decide) (fun c7 => ?_) (fun c7 => ?_)
    · refine j_iconst (x := 2) dX8_swayOf_53 (by decide) ?_
      refine j_iload_n 1 dX8_swayOf_54 rfl rfl ?_
      refine j_callS (as := [.int v1]) (fun x => some (.int x)) (fun _ => h) dX8_swayOf_55 ml_RX8_314 tg_X8_plainSway st_X8_plainSway (fun x hx => kX8_plainSway κ.1 κ.2.1 v1 h x hx) (by decide) (by decide) rfl rfl (Nat.le_of_ble_eq_true rfl) (fun x8 => ?_)
      show xJ iX8_swayOf κ _ 58 [(0, .int v0), (1, .int v1), (2, .int v2)] [.int x8, .int 2] h _
      refine j_imul dX8_swayOf_58 ?_
      refine j_goto (tgt := 66) dX8_swayOf_59 (by decide) ?_
      refine j_pick [] rfl ?_
      exact hj66 (2 * x8)
    · refine j_iload_n 1 dX8_swayOf_62 rfl rfl ?_
      refine j_callS (as := [.int v1]) (fun x => some (.int x)) (fun _ => h) dX8_swayOf_63 ml_RX8_314 tg_X8_plainSway st_X8_plainSway (fun x hx => kX8_plainSway κ.1 κ.2.1 v1 h x hx) (by decide) (by decide) rfl rfl (Nat.le_of_ble_eq_true rfl) (fun x9 => ?_)
      show xJ iX8_swayOf κ _ 66 [(0, .int v0), (1, .int v1), (2, .int v2)] [.int x9] h _
      refine j_pick [] rfl ?_
      exact hj66 x9
  refine j_tabv (w := 3) (off := 66) (tgt := 67) dX8_swayOf_1 (by decide) (by decide) (by decide) (by decide) (fun c10 => ?_) (fun c10 => ?_)
  · refine j_iload_n 1 dX8_swayOf_67 rfl rfl ?_
    refine j_callS (as := [.int v1]) (fun x => some (.int x)) (fun _ => h) dX8_swayOf_68 ml_RX8_314 tg_X8_plainSway st_X8_plainSway (fun x hx => kX8_plainSway κ.1 κ.2.1 v1 h x hx) (by decide) (by decide) rfl rfl (Nat.le_of_ble_eq_true rfl) (fun x11 => ?_)
    show xJ iX8_swayOf κ _ 71 [(0, .int v0), (1, .int v1), (2, .int v2)] [.int x11] h _
    exact j_iret x11 dX8_swayOf_71 rfl (fun q => q)
  refine j_tabv (w := 4) (off := 71) (tgt := 72) dX8_swayOf_1 (by decide) (by decide) (by decide) (by decide) (fun c12 => ?_) (fun c12 => ?_)
  · refine j_iload_n 1 dX8_swayOf_72 rfl rfl ?_
    refine j_callS (as := [.int v1]) (fun x => some (.int x)) (fun _ => h) dX8_swayOf_73 ml_RX8_317 tg_X8_economySway st_X8_economySway (fun x hx => kX8_economySway κ.1 κ.2.1 v1 h x hx) (by decide) (by decide) rfl rfl (Nat.le_of_ble_eq_true rfl) (fun x13 => ?_)
    show xJ iX8_swayOf κ _ 76 [(0, .int v0), (1, .int v1), (2, .int v2)] [.int x13] h _
    refine j_iconst (x := 1) dX8_swayOf_76 (by decide) ?_
    refine j_iadd dX8_swayOf_77 ?_
    exact j_iret (x13 + 1) dX8_swayOf_78 rfl (fun q => q)
  refine j_tabd (tgt := 79) dX8_swayOf_1 (by have ec1 : (v0 : Int32).toInt ≠ 0 := fun q => c1 (Int32.toInt_inj.mp (q.trans (by decide))); have ec3 : (v0 : Int32).toInt ≠ 1 := fun q => c3 (Int32.toInt_inj.mp (q.trans (by decide))); have ec5 : (v0 : Int32).toInt ≠ 2 := fun q => c5 (Int32.toInt_inj.mp (q.trans (by decide))); have ec10 : (v0 : Int32).toInt ≠ 3 := fun q => c10 (Int32.toInt_inj.mp (q.trans (by decide))); have ec12 : (v0 : Int32).toInt ≠ 4 := fun q => c12 (Int32.toInt_inj.mp (q.trans (by decide))); omega) (by decide) ?_
  refine j_iconst (x := 0) dX8_swayOf_79 (by decide) ?_
  exact j_iret 0 dX8_swayOf_80 rfl (fun q => q)
def fX0_swayOfAll_j45 (v0 : Nat) (v1 : Int32) (v2 : Int32) (v3 : Int32) (v4 : Int32) (h : Hp) : Option ((Int32 × Int32) ⊕ ((Int32))) :=
  some (Sum.inl (v3, v4 + 1))
def fX0_swayOfAll_b5 (v0 : Nat) (v1 : Int32) (v2 : Int32) (h : Hp) (s5 : Int32 × Int32) : Option ((Int32 × Int32) ⊕ ((Int32))) :=
  (xgI h v0 (0, 16) 2).bind fun x1 => if (x1 : Int32) ≤ s5.2 then (some (Sum.inr s5.1)) else ((fX8_bit v1 s5.2 h).bind fun x3 => if (x3 : Int32) = 1 then ((xgR h v0 (0, 16) 3).bind fun x5 => (xaI h x5 10 s5.2).bind fun x6 => (xgR h v0 (0, 16) 4).bind fun x7 => (xaI h x7 10 s5.2).bind fun x8 => (fX8_swayOf x6 x8 v2 h).bind fun x9 => fX0_swayOfAll_j45 v0 v1 v2 (s5.1 + x9) s5.2 h) else (fX0_swayOfAll_j45 v0 v1 v2 s5.1 s5.2 h))
def fX0_swayOfAll (v0 : Nat) (v1 : Int32) (v2 : Int32) (h : Hp) : Option (Int32) :=
  (xloop (fX0_swayOfAll_b5 v0 v1 v2 h) 1000000 (0, 0)).bind (fun r5 => some r5)
abbrev iX0_swayOfAll : xI := (cX0_swayOfAll, yX0_swayOfAll.cls, yX0_swayOfAll.name, some .int, 5, 5)
set_option maxHeartbeats 4000000 in
set_option maxRecDepth 100000 in
theorem kX0_swayOfAll (l : Launch) (η : xEnv) (v0 : Nat) (v1 : Int32) (v2 : Int32) (h : Hp) (x : Int32) (hx : fX0_swayOfAll v0 v1 v2 h = some x) : xC l η yX0_swayOfAll cX0_swayOfAll 5 (some .int) 5 [.ref v0, .int v1, .int v2] h (some (.int x)) h := by
  refine xC_of (by decide) (Nat.le_of_ble_eq_true rfl) hx (fun κ x => κ.2.2.2.1 = some (.int x) ∧ κ.2.2.2.2 = h) ⟨rfl, rfl⟩ (fun κ => ?_)
  show xJ iX0_swayOfAll κ _ 0 [(0, .ref v0), (1, .int v1), (2, .int v2)] [] h (fX0_swayOfAll v0 v1 v2 h)
  unfold fX0_swayOfAll
  refine j_iconst (x := 0) dX0_swayOfAll_0 (by decide) ?_
  refine j_istore_n (L' := [(3, .int 0), (0, .ref v0), (1, .int v1), (2, .int v2)]) dX0_swayOfAll_1 rfl (Nat.le_of_ble_eq_true rfl) rfl ?_
  refine j_iconst (x := 0) dX0_swayOfAll_2 (by decide) ?_
  refine j_istore (L' := [(4, .int 0), (3, .int 0), (0, .ref v0), (1, .int v1), (2, .int v2)]) dX0_swayOfAll_3 (Nat.le_of_ble_eq_true rfl) rfl ?_
  refine j_pick [2, 3, 4, 1, 0] rfl ?_
  refine j_loop (pc := 5) (Lf := fun s5 : Int32 × Int32 => [(0, .ref v0), (1, .int v1), (2, .int v2), (3, .int s5.1), (4, .int s5.2)]) (Hf := fun s5 : Int32 × Int32 => h) (fun s5 => ?_) 1000000 (0, 0)
  show xJ iX0_swayOfAll κ _ 5 [(0, .ref v0), (1, .int v1), (2, .int v2), (3, .int s5.1), (4, .int s5.2)] [] h (fX0_swayOfAll_b5 v0 v1 v2 h s5)
  unfold fX0_swayOfAll_b5
  refine j_have (pj := 45) (Lf := fun v : Int32 × Int32 => [(0, .ref v0), (1, .int v1), (2, .int v2), (3, .int v.1), (4, .int v.2)]) (Sf := fun v : Int32 × Int32 => []) (Hf := fun v : Int32 × Int32 => h) (jf := fun v : Int32 × Int32 => fX0_swayOfAll_j45 v0 v1 v2 v.1 v.2 h) (fun v => ?_) (fun hj45 => ?_)
  · obtain ⟨v3, v4⟩ := v
    show xJ iX0_swayOfAll κ _ 45 [(0, .ref v0), (1, .int v1), (2, .int v2), (3, .int v3), (4, .int v4)] [] h (fX0_swayOfAll_j45 v0 v1 v2 v3 v4 h)
    unfold fX0_swayOfAll_j45
    refine j_iinc (y := v4 + 1) (L' := [(4, .int (v4 + 1)), (0, .ref v0), (1, .int v1), (2, .int v2), (3, .int v3)]) 4 dX0_swayOfAll_45 rfl rfl (Nat.le_of_ble_eq_true rfl) rfl ?_
    refine j_goto (tgt := 5) dX0_swayOfAll_48 (by decide) ?_
    refine j_pick [1, 2, 3, 4, 0] rfl ?_
    exact j_again (v3, v4 + 1) rfl rfl
  refine j_iload 4 dX0_swayOfAll_5 rfl ?_
  refine j_aload_n 0 dX0_swayOfAll_7 rfl rfl ?_
  refine j_getI 0 16 2 dX0_swayOfAll_8 fl_RX0_57 (by decide) rfl (by decide) rfl (fun x1 => ?_)
  refine j_icmp_ge (tgt := 51) dX0_swayOfAll_11 (by decide) (fun c2 => ?_) (fun c2 => ?_)
  · refine j_exit s5.1 ?_
    show xJ iX0_swayOfAll κ _ _ _ _ _ (some s5.1)
    refine j_iload_n 3 dX0_swayOfAll_51 rfl rfl ?_
    exact j_iret s5.1 dX0_swayOfAll_52 rfl (fun q => q)
  · refine j_iload_n 1 dX0_swayOfAll_14 rfl rfl ?_
    refine j_iload 4 dX0_swayOfAll_15 rfl ?_
    refine j_callSN (as := [.int v1, .int s5.2]) (fun x => some (.int x)) (fun _ => h) dX0_swayOfAll_17 nl_RX0_125 tg_X8_bit st_X8_bit (fun x hx => kX8_bit κ.1 κ.2.1 v1 s5.2 h x hx) (by decide) (by decide) rfl rfl (Nat.le_of_ble_eq_true rfl) (fun x3 => ?_)
    show xJ iX0_swayOfAll κ _ 20 [(0, .ref v0), (1, .int v1), (2, .int v2), (3, .int s5.1), (4, .int s5.2)] [.int x3] h _
    refine j_iconst (x := 1) dX0_swayOfAll_20 (by decide) ?_
    refine j_icmp_ne (tgt := 45) dX0_swayOfAll_21 (by decide) (fun c4 => ?_) (fun c4 => ?_)
    · refine j_iload_n 3 dX0_swayOfAll_24 rfl rfl ?_
      refine j_aload_n 0 dX0_swayOfAll_25 rfl rfl ?_
      refine j_getR 0 16 3 dX0_swayOfAll_26 fl_RX0_19 (by decide) rfl (by decide) (fun _ _ _ => rfl) (fun x5 => ?_)
      refine j_iload 4 dX0_swayOfAll_29 rfl ?_
      refine j_iald dX0_swayOfAll_31 (fun x6 => ?_)
      refine j_aload_n 0 dX0_swayOfAll_32 rfl rfl ?_
      refine j_getR 0 16 4 dX0_swayOfAll_33 fl_RX0_22 (by decide) rfl (by decide) (fun _ _ _ => rfl) (fun x7 => ?_)
      refine j_iload 4 dX0_swayOfAll_36 rfl ?_
      refine j_iald dX0_swayOfAll_38 (fun x8 => ?_)
      refine j_iload_n 2 dX0_swayOfAll_39 rfl rfl ?_
      refine j_callSN (as := [.int x6, .int x8, .int v2]) (fun x => some (.int x)) (fun _ => h) dX0_swayOfAll_40 nl_RX0_134 tg_X8_swayOf st_X8_swayOf (fun x hx => kX8_swayOf κ.1 κ.2.1 x6 x8 v2 h x hx) (by decide) (by decide) rfl rfl (Nat.le_of_ble_eq_true rfl) (fun x9 => ?_)
      show xJ iX0_swayOfAll κ _ 43 [(0, .ref v0), (1, .int v1), (2, .int v2), (3, .int s5.1), (4, .int s5.2)] [.int x9, .int s5.1] h _
      refine j_iadd dX0_swayOfAll_43 ?_
      refine j_istore_n (L' := [(3, .int (s5.1 + x9)), (0, .ref v0), (1, .int v1), (2, .int v2), (4, .int s5.2)]) dX0_swayOfAll_44 rfl (Nat.le_of_ble_eq_true rfl) rfl ?_
      refine j_pick [1, 2, 3, 0, 4] rfl ?_
      exact hj45 (s5.1 + x9, s5.2)
    · refine j_pick [0, 1, 2, 3, 4] rfl ?_
      exact hj45 (s5.1, s5.2)
def fX0_passStop (v0 : Nat) (v1 : Nat) (v2 : Nat) (v3 : Int32) (h : Hp) : Option (Hp) :=
  (xgI h v1 (5, 5) 0).bind fun x1 => (fX8_within x1 0 9 h).bind fun x2 => if (x2 : Int32) = 0 then (some h) else ((xat h v0 (0, 16) (fX0_letOff v0 v1 x1 h)).bind fun h4 => (xat h4 v0 (0, 16) (fX0_letOn v0 v1 x1 v2 h4)).bind fun h5 => (xat h5 v0 (0, 16) (fX0_scrape v0 v1 x1 v3 h5)).bind fun h6 => (xgI h6 v1 (5, 5) 4).bind fun x7 => (xgI h6 v1 (5, 5) 1).bind fun x8 => (xat h6 v0 (0, 16) (fX0_swayOfAll v0 x8 x1 h6)).bind fun x9 => (xpI h6 v1 (5, 5) 4 (x7 + x9)).bind fun h10 => (xpI h10 v1 (5, 5) 0 (x1 + 1)).bind fun h11 => some h11)
abbrev iX0_passStop : xI := (cX0_passStop, yX0_passStop.cls, yX0_passStop.name, none, 5, 6)
set_option maxHeartbeats 4000000 in
set_option maxRecDepth 100000 in
theorem kX0_passStop (l : Launch) (η : xEnv) (v0 : Nat) (v1 : Nat) (v2 : Nat) (v3 : Int32) (h : Hp) (x : Hp) (hx : fX0_passStop v0 v1 v2 v3 h = some x) : xC l η yX0_passStop cX0_passStop 5 none 6 [.ref v0, .ref v1, .ref v2, .int v3] h none x := by
  refine xC_of (by decide) (Nat.le_of_ble_eq_true rfl) hx (fun κ x => κ.2.2.2.1 = none ∧ κ.2.2.2.2 = x) ⟨rfl, rfl⟩ (fun κ => ?_)
  show xJ iX0_passStop κ _ 0 [(0, .ref v0), (1, .ref v1), (2, .ref v2), (3, .int v3)] [] h (fX0_passStop v0 v1 v2 v3 h)
  unfold fX0_passStop
  refine j_aload_n 1 dX0_passStop_0 rfl rfl ?_
  refine j_getI 5 5 0 dX0_passStop_1 fl_RX0_91 (by decide) rfl (by decide) rfl (fun x1 => ?_)
  refine j_istore (L' := [(4, .int x1), (0, .ref v0), (1, .ref v1), (2, .ref v2), (3, .int v3)]) dX0_passStop_4 (Nat.le_of_ble_eq_true rfl) rfl ?_
  refine j_iload 0 dX0_passStop_6 rfl ?_
  refine j_iconst (x := 0) dX0_passStop_8 (by decide) ?_
  refine j_bipush (x := 9) dX0_passStop_9 (by decide) ?_
  refine j_callSN (as := [.int x1, .int 0, .int 9]) (fun x => some (.int x)) (fun _ => h) dX0_passStop_11 nl_RX0_79 tg_X8_within st_X8_within (fun x hx => kX8_within κ.1 κ.2.1 x1 0 9 h x hx) (by decide) (by decide) rfl rfl (Nat.le_of_ble_eq_true rfl) (fun x2 => ?_)
  show xJ iX0_passStop κ _ 14 [(4, .int x1), (0, .ref v0), (1, .ref v1), (2, .ref v2), (3, .int v3)] [.int x2] h _
  refine j_if_ne (tgt := 18) dX0_passStop_14 (by decide) (fun c3 => ?_) (fun c3 => ?_)
  · exact j_vret h dX0_passStop_17 rfl (fun q => q)
  · refine j_aload_n 1 dX0_passStop_18 rfl rfl ?_
    refine j_aload_n 2 dX0_passStop_19 rfl rfl ?_
    refine j_iload 0 dX0_passStop_20 rfl ?_
    refine j_callV (as := [.ref v1, .int x1]) (fun _ => none) (fun x => x) 0 16 dX0_passStop_22 ml_RX0_94 tg_X0_letOff im_X0_letOff se_X0_letOff rfl (by decide) (fun x hx => kX0_letOff κ.1 κ.2.1 v0 v1 x1 h x hx) (by decide) (by decide) rfl rfl (Nat.le_of_ble_eq_true rfl) (fun h4 => ?_)
    show xJ iX0_passStop κ _ 25 [(4, .int x1), (0, .ref v0), (1, .ref v1), (2, .ref v2), (3, .int v3)] [] h4 _
    refine j_aload_n 1 dX0_passStop_25 rfl rfl ?_
    refine j_aload_n 2 dX0_passStop_26 rfl rfl ?_
    refine j_iload 0 dX0_passStop_27 rfl ?_
    refine j_aload_n 3 dX0_passStop_29 rfl rfl ?_
    refine j_callV (as := [.ref v1, .int x1, .ref v2]) (fun _ => none) (fun x => x) 0 16 dX0_passStop_30 ml_RX0_98 tg_X0_letOn im_X0_letOn se_X0_letOn rfl (by decide) (fun x hx => kX0_letOn κ.1 κ.2.1 v0 v1 x1 v2 h4 x hx) (by decide) (by decide) rfl rfl (Nat.le_of_ble_eq_true rfl) (fun h5 => ?_)
    show xJ iX0_passStop κ _ 33 [(4, .int x1), (0, .ref v0), (1, .ref v1), (2, .ref v2), (3, .int v3)] [] h5 _
    refine j_aload_n 1 dX0_passStop_33 rfl rfl ?_
    refine j_aload_n 2 dX0_passStop_34 rfl rfl ?_
    refine j_iload 0 dX0_passStop_35 rfl ?_
    refine j_iload_n 4 dX0_passStop_37 rfl rfl ?_
    refine j_callV (as := [.ref v1, .int x1, .int v3]) (fun _ => none) (fun x => x) 0 16 dX0_passStop_38 ml_RX0_102 tg_X0_scrape im_X0_scrape se_X0_scrape rfl (by decide) (fun x hx => kX0_scrape κ.1 κ.2.1 v0 v1 x1 v3 h5 x hx) (by decide) (by decide) rfl rfl (Nat.le_of_ble_eq_true rfl) (fun h6 => ?_)
    show xJ iX0_passStop κ _ 41 [(4, .int x1), (0, .ref v0), (1, .ref v1), (2, .ref v2), (3, .int v3)] [] h6 _
    refine j_aload_n 2 dX0_passStop_41 rfl rfl ?_
    refine j_dup dX0_passStop_42 rfl ?_
    refine j_getI 5 5 4 dX0_passStop_43 fl_RX0_106 (by decide) rfl (by decide) rfl (fun x7 => ?_)
    refine j_aload_n 1 dX0_passStop_46 rfl rfl ?_
    refine j_aload_n 2 dX0_passStop_47 rfl rfl ?_
    refine j_getI 5 5 1 dX0_passStop_48 fl_RX0_109 (by decide) rfl (by decide) rfl (fun x8 => ?_)
    refine j_iload 0 dX0_passStop_51 rfl ?_
    refine j_callV (as := [.int x8, .int x1]) (fun x => some (.int x)) (fun _ => h6) 0 16 dX0_passStop_53 ml_RX0_112 tg_X0_swayOfAll im_X0_swayOfAll se_X0_swayOfAll rfl (by decide) (fun x hx => kX0_swayOfAll κ.1 κ.2.1 v0 x8 x1 h6 x hx) (by decide) (by decide) rfl rfl (Nat.le_of_ble_eq_true rfl) (fun x9 => ?_)
    show xJ iX0_passStop κ _ 56 [(4, .int x1), (0, .ref v0), (1, .ref v1), (2, .ref v2), (3, .int v3)] [.int x9, .int x7, .ref v1] h6 _
    refine j_iadd dX0_passStop_56 ?_
    refine j_putI 5 5 4 dX0_passStop_57 fl_RX0_106 (by decide) rfl (by decide) rfl rfl (fun h10 => ?_)
    refine j_aload_n 2 dX0_passStop_60 rfl rfl ?_
    refine j_iload 0 dX0_passStop_61 rfl ?_
    refine j_iconst (x := 1) dX0_passStop_63 (by decide) ?_
    refine j_iadd dX0_passStop_64 ?_
    refine j_putI 5 5 0 dX0_passStop_65 fl_RX0_91 (by decide) rfl (by decide) rfl rfl (fun h11 => ?_)
    exact j_vret h11 dX0_passStop_68 rfl (fun q => q)
def fX8_drive_b57 (v0 : Nat) (v1 : Int32) (v2 : Int32) (s57 : Int32 × Hp) : Option ((Int32 × Hp) ⊕ ((Nat × Int32 × Hp))) :=
  if (v1 : Int32) ≤ s57.1 then (some (Sum.inr (v0, v2, s57.2))) else ((xgR s57.2 v0 (8, 12) 0).bind fun x17 => (xgR s57.2 v0 (8, 12) 0).bind fun x18 => (xgR s57.2 x18 (0, 16) 13).bind fun x19 => (xgR s57.2 v0 (8, 12) 0).bind fun x20 => (xgR s57.2 x20 (0, 16) 5).bind fun x21 => (xat s57.2 x17 (0, 16) (fX0_passStop x17 x19 x21 0 s57.2)).bind fun h22 => some (Sum.inl (s57.1 + 1, h22)))
def fX8_drive (v0 : Nat) (v1 : Int32) (h : Hp) : Option (Int32 × Hp) :=
  (fX8_within v1 1 10 h).bind fun x1 => if (x1 : Int32) = 0 then ((xat h v0 (8, 12) (fX8_refuseBad v0 h)).bind fun q3 => some (q3.1, q3.2)) else ((xgR h v0 (8, 12) 0).bind fun x4 => (xgR h x4 (0, 16) 13).bind fun x5 => (xgI h x5 (5, 5) 0).bind fun x6 => if (v1 : Int32) ≤ (10 - x6) then ((xgR h v0 (8, 12) 0).bind fun x8 => (xgR h x8 (0, 16) 13).bind fun x9 => (xgI h x9 (5, 5) 4).bind fun x10 => (xgR h v0 (8, 12) 0).bind fun x11 => (xat h x11 (0, 16) (fX0_remember x11 h)).bind fun h12 => (xloop (fX8_drive_b57 v0 v1 x10) 1000000 (0, h12)).bind (fun r57 => (xgR r57.2.2 r57.1 (8, 12) 0).bind fun x23 => (xgR r57.2.2 x23 (0, 16) 13).bind fun x24 => (xgI r57.2.2 x24 (5, 5) 4).bind fun x25 => some (x25 - r57.2.1, r57.2.2))) else ((xat h v0 (8, 12) (fX8_refuseNo v0 h)).bind fun q23 => some (q23.1, q23.2)))
abbrev iX8_drive : xI := (cX8_drive, yX8_drive.cls, yX8_drive.name, some .int, 4, 7)
set_option maxHeartbeats 4000000 in
set_option maxRecDepth 100000 in
theorem kX8_drive (l : Launch) (η : xEnv) (v0 : Nat) (v1 : Int32) (h : Hp) (x : Int32 × Hp) (hx : fX8_drive v0 v1 h = some x) : xC l η yX8_drive cX8_drive 4 (some .int) 7 [.ref v0, .int v1] h (some (.int x.1)) x.2 := by
  refine xC_of (by decide) (Nat.le_of_ble_eq_true rfl) hx (fun κ x => κ.2.2.2.1 = some (.int x.1) ∧ κ.2.2.2.2 = x.2) ⟨rfl, rfl⟩ (fun κ => ?_)
  show xJ iX8_drive κ _ 0 [(0, .ref v0), (1, .int v1)] [] h (fX8_drive v0 v1 h)
  unfold fX8_drive
  refine j_iload_n 1 dX8_drive_0 rfl rfl ?_
  refine j_iconst (x := 1) dX8_drive_1 (by decide) ?_
  refine j_bipush (x := 10) dX8_drive_2 (by decide) ?_
  refine j_callS (as := [.int v1, .int 1, .int 10]) (fun x => some (.int x)) (fun _ => h) dX8_drive_4 ml_RX8_66 tg_X8_within st_X8_within (fun x hx => kX8_within κ.1 κ.2.1 v1 1 10 h x hx) (by decide) (by decide) rfl rfl (Nat.le_of_ble_eq_true rfl) (fun x1 => ?_)
  show xJ iX8_drive κ _ 7 [(0, .ref v0), (1, .int v1)] [.int x1] h _
  refine j_if_ne (tgt := 15) dX8_drive_7 (by decide) (fun c2 => ?_) (fun c2 => ?_)
  · refine j_aload_n 0 dX8_drive_10 rfl rfl ?_
    refine j_callV (as := []) (fun x => some (.int x.1)) (fun x => x.2) 8 12 dX8_drive_11 ml_RX8_70 tg_X8_refuseBad im_X8_refuseBad se_X8_refuseBad rfl (by decide) (fun x hx => kX8_refuseBad κ.1 κ.2.1 v0 h x hx) (by decide) (by decide) rfl rfl (Nat.le_of_ble_eq_true rfl) (fun q3 => ?_)
    show xJ iX8_drive κ _ 14 [(0, .ref v0), (1, .int v1)] [.int q3.1] q3.2 _
    exact j_iret (q3.1, q3.2) dX8_drive_14 rfl (fun q => q)
  · refine j_iload_n 1 dX8_drive_15 rfl rfl ?_
    refine j_bipush (x := 10) dX8_drive_16 (by decide) ?_
    refine j_aload_n 0 dX8_drive_18 rfl rfl ?_
    refine j_getR 8 12 0 dX8_drive_19 fl_RX8_12 (by decide) rfl (by decide) (fun _ _ _ => rfl) (fun x4 => ?_)
    refine j_getR 0 16 13 dX8_drive_22 fl_RX8_137 (by decide) rfl (by decide) (fun _ _ _ => rfl) (fun x5 => ?_)
    refine j_getI 5 5 0 dX8_drive_25 fl_RX8_141 (by decide) rfl (by decide) rfl (fun x6 => ?_)
    refine j_isub dX8_drive_28 ?_
    refine j_icmp_le (tgt := 37) dX8_drive_29 (by decide) (fun c7 => ?_) (fun c7 => ?_)
    · refine j_aload_n 0 dX8_drive_37 rfl rfl ?_
      refine j_getR 8 12 0 dX8_drive_38 fl_RX8_12 (by decide) rfl (by decide) (fun _ _ _ => rfl) (fun x8 => ?_)
      refine j_getR 0 16 13 dX8_drive_41 fl_RX8_137 (by decide) rfl (by decide) (fun _ _ _ => rfl) (fun x9 => ?_)
      refine j_getI 5 5 4 dX8_drive_44 fl_RX8_149 (by decide) rfl (by decide) rfl (fun x10 => ?_)
      refine j_istore_n (L' := [(2, .int x10), (0, .ref v0), (1, .int v1)]) dX8_drive_47 rfl (Nat.le_of_ble_eq_true rfl) rfl ?_
      refine j_aload_n 1 dX8_drive_48 rfl rfl ?_
      refine j_getR 8 12 0 dX8_drive_49 fl_RX8_12 (by decide) rfl (by decide) (fun _ _ _ => rfl) (fun x11 => ?_)
      refine j_callV (as := []) (fun _ => none) (fun x => x) 0 16 dX8_drive_52 ml_RX8_152 tg_X0_remember im_X0_remember se_X0_remember rfl (by decide) (fun x hx => kX0_remember κ.1 κ.2.1 x11 h x hx) (by decide) (by decide) rfl rfl (Nat.le_of_ble_eq_true rfl) (fun h12 => ?_)
      show xJ iX8_drive κ _ 55 [(2, .int x10), (0, .ref v0), (1, .int v1)] [] h12 _
      refine j_iconst (x := 0) dX8_drive_55 (by decide) ?_
      refine j_istore_n (L' := [(3, .int 0), (2, .int x10), (0, .ref v0), (1, .int v1)]) dX8_drive_56 rfl (Nat.le_of_ble_eq_true rfl) rfl ?_
      refine j_pick [2, 3, 1, 0] rfl ?_
      refine j_loop (pc := 57) (Lf := fun s57 : Int32 × Hp => [(0, .ref v0), (1, .int v1), (2, .int x10), (3, .int s57.1)]) (Hf := fun s57 : Int32 × Hp => s57.2) (fun s57 => ?_) 1000000 (0, h12)
      show xJ iX8_drive κ _ 57 [(0, .ref v0), (1, .int v1), (2, .int x10), (3, .int s57.1)] [] s57.2 (fX8_drive_b57 v0 v1 x10 s57)
      unfold fX8_drive_b57
      refine j_iload_n 3 dX8_drive_57 rfl rfl ?_
      refine j_iload_n 1 dX8_drive_58 rfl rfl ?_
      refine j_icmp_ge (tgt := 90) dX8_drive_59 (by decide) (fun c13 => ?_) (fun c13 => ?_)
      · refine j_exit (v0, x10, s57.2) ?_
        show xJ iX8_drive κ _ _ _ _ _ ((xgR s57.2 v0 (8, 12) 0).bind fun x14 => (xgR s57.2 x14 (0, 16) 13).bind fun x15 => (xgI s57.2 x15 (5, 5) 4).bind fun x16 => some (x16 - x10, s57.2))
        refine j_aload_n 0 dX8_drive_90 rfl rfl ?_
        refine j_getR 8 12 0 dX8_drive_91 fl_RX8_12 (by decide) rfl (by decide) (fun _ _ _ => rfl) (fun x14 => ?_)
        refine j_getR 0 16 13 dX8_drive_94 fl_RX8_137 (by decide) rfl (by decide) (fun _ _ _ => rfl) (fun x15 => ?_)
        refine j_getI 5 5 4 dX8_drive_97 fl_RX8_149 (by decide) rfl (by decide) rfl (fun x16 => ?_)
        refine j_iload_n 2 dX8_drive_100 rfl rfl ?_
        refine j_isub dX8_drive_101 ?_
        exact j_iret (x16 - x10, s57.2) dX8_drive_102 rfl (fun q => q)
      · refine j_aload_n 0 dX8_drive_62 rfl rfl ?_
        refine j_getR 8 12 0 dX8_drive_63 fl_RX8_12 (by decide) rfl (by decide) (fun _ _ _ => rfl) (fun x17 => ?_)
        refine j_aload_n 0 dX8_drive_66 rfl rfl ?_
        refine j_getR 8 12 0 dX8_drive_67 fl_RX8_12 (by decide) rfl (by decide) (fun _ _ _ => rfl) (fun x18 => ?_)
        refine j_getR 0 16 13 dX8_drive_70 fl_RX8_137 (by decide) rfl (by decide) (fun _ _ _ => rfl) (fun x19 => ?_)
        refine j_aload_n 0 dX8_drive_73 rfl rfl ?_
        refine j_getR 8 12 0 dX8_drive_74 fl_RX8_12 (by decide) rfl (by decide) (fun _ _ _ => rfl) (fun x20 => ?_)
        refine j_getR 0 16 5 dX8_drive_77 fl_RX8_155 (by decide) rfl (by decide) (fun _ _ _ => rfl) (fun x21 => ?_)
        refine j_iconst (x := 0) dX8_drive_80 (by decide) ?_
        refine j_callV (as := [.ref x19, .ref x21, .int 0]) (fun _ => none) (fun x => x) 0 16 dX8_drive_81 ml_RX8_158 tg_X0_passStop im_X0_passStop se_X0_passStop rfl (by decide) (fun x hx => kX0_passStop κ.1 κ.2.1 x17 x19 x21 0 s57.2 x hx) (by decide) (by decide) rfl rfl (Nat.le_of_ble_eq_true rfl) (fun h22 => ?_)
        show xJ iX8_drive κ _ 84 [(0, .ref v0), (1, .int v1), (2, .int x10), (3, .int s57.1)] [] h22 _
        refine j_iinc (y := s57.1 + 1) (L' := [(3, .int (s57.1 + 1)), (0, .ref v0), (1, .int v1), (2, .int x10)]) 3 dX8_drive_84 rfl rfl (Nat.le_of_ble_eq_true rfl) rfl ?_
        refine j_goto (tgt := 57) dX8_drive_87 (by decide) ?_
        refine j_pick [1, 2, 3, 0] rfl ?_
        exact j_again (s57.1 + 1, h22) rfl rfl
    · refine j_aload_n 0 dX8_drive_32 rfl rfl ?_
      refine j_callV (as := []) (fun x => some (.int x.1)) (fun x => x.2) 8 12 dX8_drive_33 ml_RX8_146 tg_X8_refuseNo im_X8_refuseNo se_X8_refuseNo rfl (by decide) (fun x hx => kX8_refuseNo κ.1 κ.2.1 v0 h x hx) (by decide) (by decide) rfl rfl (Nat.le_of_ble_eq_true rfl) (fun q23 => ?_)
      show xJ iX8_drive κ _ 36 [(0, .ref v0), (1, .int v1)] [.int q23.1] q23.2 _
      exact j_iret (q23.1, q23.2) dX8_drive_36 rfl (fun q => q)
def fX9_no (v0 : Nat) (h : Hp) : Option (Int32 × Hp) :=
  (xgR h v0 (9, 18) 3).bind fun x1 => (xaI h x1 10 1).bind fun x2 => (xsI h x1 1 (x2 + 1)).bind fun h3 => some ((-3), h3)
abbrev iX9_no : xI := (cX9_no, yX9_no.cls, yX9_no.name, some .int, 1, 2)
set_option maxHeartbeats 4000000 in
set_option maxRecDepth 100000 in
theorem kX9_no (l : Launch) (η : xEnv) (v0 : Nat) (h : Hp) (x : Int32 × Hp) (hx : fX9_no v0 h = some x) : xC l η yX9_no cX9_no 1 (some .int) 2 [.ref v0] h (some (.int x.1)) x.2 := by
  refine xC_of (by decide) (Nat.le_of_ble_eq_true rfl) hx (fun κ x => κ.2.2.2.1 = some (.int x.1) ∧ κ.2.2.2.2 = x.2) ⟨rfl, rfl⟩ (fun κ => ?_)
  show xJ iX9_no κ _ 0 [(0, .ref v0)] [] h (fX9_no v0 h)
  unfold fX9_no
  refine j_aload_n 0 dX9_no_0 rfl rfl ?_
  refine j_getR 9 18 3 dX9_no_1 fl_RX9_20 (by decide) rfl (by decide) (fun _ _ _ => rfl) (fun x1 => ?_)
  refine j_iconst (x := 1) dX9_no_4 (by decide) ?_
  refine j_dup2 dX9_no_5 rfl rfl ?_
  refine j_iald dX9_no_6 (fun x2 => ?_)
  refine j_iconst (x := 1) dX9_no_7 (by decide) ?_
  refine j_iadd dX9_no_8 ?_
  refine j_iast dX9_no_9 (fun h3 => ?_)
  refine j_bipush (x := (-3)) dX9_no_10 (by decide) ?_
  exact j_iret ((-3), h3) dX9_no_12 rfl (fun q => q)
def fX9_keep_b53 (v0 : Nat) (s53 : Int32 × Hp) : Option ((Int32 × Hp) ⊕ ((Nat × Hp))) :=
  if (5 : Int32) ≤ s53.1 then (some (Sum.inr (v0, s53.2))) else ((xgR s53.2 v0 (9, 18) 0).bind fun x5 => (xgR s53.2 v0 (9, 18) 0).bind fun x6 => (xaI s53.2 x6 10 2).bind fun x7 => (xgR s53.2 v0 (9, 18) 0).bind fun x8 => (xaI s53.2 x8 10 (3 + s53.1)).bind fun x9 => (xsI s53.2 x5 ((78 + (5 * x7)) + s53.1) x9).bind fun h10 => some (Sum.inl (s53.1 + 1, h10)))
def fX9_keep_j51 (v0 : Nat) (h : Hp) : Option (Hp) :=
  (xloop (fX9_keep_b53 v0) 1000000 (0, h)).bind (fun r53 => (xgR r53.2 r53.1 (9, 18) 0).bind fun x11 => (xaI r53.2 x11 10 2).bind fun x12 => (xsI r53.2 x11 2 (x12 + 1)).bind fun h13 => some h13)
def fX9_keep_b13 (v0 : Nat) (s13 : Int32 × Hp) : Option ((Int32 × Hp) ⊕ ((Nat × Hp))) :=
  if (35 : Int32) ≤ s13.1 then (some (Sum.inr (v0, s13.2))) else ((xgR s13.2 v0 (9, 18) 0).bind fun x17 => (xgR s13.2 v0 (9, 18) 0).bind fun x18 => (xaI s13.2 x18 10 (83 + s13.1)).bind fun x19 => (xsI s13.2 x17 (78 + s13.1) x19).bind fun h20 => some (Sum.inl (s13.1 + 1, h20)))
def fX9_keep (v0 : Nat) (h : Hp) : Option (Hp) :=
  (xgR h v0 (9, 18) 0).bind fun x11 => (xaI h x11 10 2).bind fun x12 => if (x12 : Int32) = 8 then ((xloop (fX9_keep_b13 v0) 1000000 (0, h)).bind (fun r13 => (xgR r13.2 r13.1 (9, 18) 0).bind fun x21 => (xsI r13.2 x21 2 7).bind fun h22 => fX9_keep_j51 r13.1 h22)) else (fX9_keep_j51 v0 h)
abbrev iX9_keep : xI := (cX9_keep, yX9_keep.cls, yX9_keep.name, none, 2, 2)
set_option maxHeartbeats 4000000 in
set_option maxRecDepth 100000 in
theorem kX9_keep (l : Launch) (η : xEnv) (v0 : Nat) (h : Hp) (x : Hp) (hx : fX9_keep v0 h = some x) : xC l η yX9_keep cX9_keep 2 none 2 [.ref v0] h none x := by
  refine xC_of (by decide) (Nat.le_of_ble_eq_true rfl) hx (fun κ x => κ.2.2.2.1 = none ∧ κ.2.2.2.2 = x) ⟨rfl, rfl⟩ (fun κ => ?_)
  show xJ iX9_keep κ _ 0 [(0, .ref v0)] [] h (fX9_keep v0 h)
  unfold fX9_keep
  refine j_have (pj := 51) (Lf := fun v : Hp => [(0, .ref v0)]) (Sf := fun v : Hp => []) (Hf := fun v : Hp => v) (jf := fun v : Hp => fX9_keep_j51 v0 v) (fun v => ?_) (fun hj51 => ?_)
  · generalize v = h
    show xJ iX9_keep κ _ 51 [(0, .ref v0)] [] h (fX9_keep_j51 v0 h)
    unfold fX9_keep_j51
    refine j_iconst (x := 0) dX9_keep_51 (by decide) ?_
    refine j_istore_n (L' := [(1, .int 0), (0, .ref v0)]) dX9_keep_52 rfl (Nat.le_of_ble_eq_true rfl) rfl ?_
    refine j_pick [1, 0] rfl ?_
    refine j_loop (pc := 53) (Lf := fun s53 : Int32 × Hp => [(0, .ref v0), (1, .int s53.1)]) (Hf := fun s53 : Int32 × Hp => s53.2) (fun s53 => ?_) 1000000 (0, h)
    show xJ iX9_keep κ _ 53 [(0, .ref v0), (1, .int s53.1)] [] s53.2 (fX9_keep_b53 v0 s53)
    unfold fX9_keep_b53
    refine j_iload_n 1 dX9_keep_53 rfl rfl ?_
    refine j_iconst (x := 5) dX9_keep_54 (by decide) ?_
    refine j_icmp_ge (tgt := 90) dX9_keep_55 (by decide) (fun c1 => ?_) (fun c1 => ?_)
    · refine j_exit (v0, s53.2) ?_
      show xJ iX9_keep κ _ _ _ _ _ ((xgR s53.2 v0 (9, 18) 0).bind fun x2 => (xaI s53.2 x2 10 2).bind fun x3 => (xsI s53.2 x2 2 (x3 + 1)).bind fun h4 => some h4)
      refine j_aload_n 0 dX9_keep_90 rfl rfl ?_
      refine j_getR 9 18 0 dX9_keep_91 fl_RX9_7 (by decide) rfl (by decide) (fun _ _ _ => rfl) (fun x2 => ?_)
      refine j_iconst (x := 2) dX9_keep_94 (by decide) ?_
      refine j_dup2 dX9_keep_95 rfl rfl ?_
      refine j_iald dX9_keep_96 (fun x3 => ?_)
      refine j_iconst (x := 1) dX9_keep_97 (by decide) ?_
      refine j_iadd dX9_keep_98 ?_
      refine j_iast dX9_keep_99 (fun h4 => ?_)
      exact j_vret h4 dX9_keep_100 rfl (fun q => q)
    · refine j_aload_n 0 dX9_keep_58 rfl rfl ?_
      refine j_getR 9 18 0 dX9_keep_59 fl_RX9_7 (by decide) rfl (by decide) (fun _ _ _ => rfl) (fun x5 => ?_)
      refine j_bipush (x := 78) dX9_keep_62 (by decide) ?_
      refine j_iconst (x := 5) dX9_keep_64 (by decide) ?_
      refine j_aload_n 0 dX9_keep_65 rfl rfl ?_
      refine j_getR 9 18 0 dX9_keep_66 fl_RX9_7 (by decide) rfl (by decide) (fun _ _ _ => rfl) (fun x6 => ?_)
      refine j_iconst (x := 2) dX9_keep_69 (by decide) ?_
      refine j_iald dX9_keep_70 (fun x7 => ?_)
      refine j_imul dX9_keep_71 ?_
      refine j_iadd dX9_keep_72 ?_
      refine j_iload_n 1 dX9_keep_73 rfl rfl ?_
      refine j_iadd dX9_keep_74 ?_
      refine j_aload_n 0 dX9_keep_75 rfl rfl ?_
      refine j_getR 9 18 0 dX9_keep_76 fl_RX9_7 (by decide) rfl (by decide) (fun _ _ _ => rfl) (fun x8 => ?_)
      refine j_iconst (x := 3) dX9_keep_79 (by decide) ?_
      refine j_iload_n 1 dX9_keep_80 rfl rfl ?_
      refine j_iadd dX9_keep_81 ?_
      refine j_iald dX9_keep_82 (fun x9 => ?_)
      refine j_iast dX9_keep_83 (fun h10 => ?_)
      refine j_iinc (y := s53.1 + 1) (L' := [(1, .int (s53.1 + 1)), (0, .ref v0)]) 1 dX9_keep_84 rfl rfl (Nat.le_of_ble_eq_true rfl) rfl ?_
      refine j_goto (tgt := 53) dX9_keep_87 (by decide) ?_
      refine j_pick [1, 0] rfl ?_
      exact j_again (s53.1 + 1, h10) rfl rfl
  refine j_aload_n 0 dX9_keep_0 rfl rfl ?_
  refine j_getR 9 18 0 dX9_keep_1 fl_RX9_7 (by decide) rfl (by decide) (fun _ _ _ => rfl) (fun x11 => ?_)
  refine j_iconst (x := 2) dX9_keep_4 (by decide) ?_
  refine j_iald dX9_keep_5 (fun x12 => ?_)
  refine j_bipush (x := 8) dX9_keep_6 (by decide) ?_
  refine j_icmp_ne (tgt := 51) dX9_keep_8 (by decide) (fun c13 => ?_) (fun c13 => ?_)
  · refine j_iconst (x := 0) dX9_keep_11 (by decide) ?_
    refine j_istore_n (L' := [(1, .int 0), (0, .ref v0)]) dX9_keep_12 rfl (Nat.le_of_ble_eq_true rfl) rfl ?_
    refine j_pick [1, 0] rfl ?_
    refine j_loop (pc := 13) (Lf := fun s13 : Int32 × Hp => [(0, .ref v0), (1, .int s13.1)]) (Hf := fun s13 : Int32 × Hp => s13.2) (fun s13 => ?_) 1000000 (0, h)
    show xJ iX9_keep κ _ 13 [(0, .ref v0), (1, .int s13.1)] [] s13.2 (fX9_keep_b13 v0 s13)
    unfold fX9_keep_b13
    refine j_iload_n 1 dX9_keep_13 rfl rfl ?_
    refine j_bipush (x := 35) dX9_keep_14 (by decide) ?_
    refine j_icmp_ge (tgt := 43) dX9_keep_16 (by decide) (fun c14 => ?_) (fun c14 => ?_)
    · refine j_exit (v0, s13.2) ?_
      show xJ iX9_keep κ _ _ _ _ _ ((xgR s13.2 v0 (9, 18) 0).bind fun x15 => (xsI s13.2 x15 2 7).bind fun h16 => fX9_keep_j51 v0 h16)
      refine j_aload_n 0 dX9_keep_43 rfl rfl ?_
      refine j_getR 9 18 0 dX9_keep_44 fl_RX9_7 (by decide) rfl (by decide) (fun _ _ _ => rfl) (fun x15 => ?_)
      refine j_iconst (x := 2) dX9_keep_47 (by decide) ?_
      refine j_bipush (x := 7) dX9_keep_48 (by decide) ?_
      refine j_iast dX9_keep_50 (fun h16 => ?_)
      refine j_pick [0] rfl ?_
      exact hj51 h16
    · refine j_aload_n 0 dX9_keep_19 rfl rfl ?_
      refine j_getR 9 18 0 dX9_keep_20 fl_RX9_7 (by decide) rfl (by decide) (fun _ _ _ => rfl) (fun x17 => ?_)
      refine j_bipush (x := 78) dX9_keep_23 (by decide) ?_
      refine j_iload_n 1 dX9_keep_25 rfl rfl ?_
      refine j_iadd dX9_keep_26 ?_
      refine j_aload_n 0 dX9_keep_27 rfl rfl ?_
      refine j_getR 9 18 0 dX9_keep_28 fl_RX9_7 (by decide) rfl (by decide) (fun _ _ _ => rfl) (fun x18 => ?_)
      refine j_bipush (x := 83) dX9_keep_31 (by decide) ?_
      refine j_iload_n 1 dX9_keep_33 rfl rfl ?_
      refine j_iadd dX9_keep_34 ?_
      refine j_iald dX9_keep_35 (fun x19 => ?_)
      refine j_iast dX9_keep_36 (fun h20 => ?_)
      refine j_iinc (y := s13.1 + 1) (L' := [(1, .int (s13.1 + 1)), (0, .ref v0)]) 1 dX9_keep_37 rfl rfl (Nat.le_of_ble_eq_true rfl) rfl ?_
      refine j_goto (tgt := 13) dX9_keep_40 (by decide) ?_
      refine j_pick [1, 0] rfl ?_
      exact j_again (s13.1 + 1, h20) rfl rfl
  · refine j_pick [0] rfl ?_
    exact hj51 h
def fX9_layHand_b2 (v0 : Nat) (s2 : Int32 × Hp) : Option ((Int32 × Hp) ⊕ ((Hp))) :=
  if (54 : Int32) ≤ s2.1 then (some (Sum.inr s2.2)) else ((xgR s2.2 v0 (9, 18) 6).bind fun x2 => (xgR s2.2 v0 (9, 18) 0).bind fun x3 => (xaI s2.2 x3 10 s2.1).bind fun x4 => (xsI s2.2 x2 s2.1 x4).bind fun h5 => some (Sum.inl (s2.1 + 1, h5)))
def fX9_layHand (v0 : Nat) (h : Hp) : Option (Hp) :=
  (xloop (fX9_layHand_b2 v0) 1000000 (0, h)).bind (fun r2 => some r2)
abbrev iX9_layHand : xI := (cX9_layHand, yX9_layHand.cls, yX9_layHand.name, none, 2, 2)
set_option maxHeartbeats 4000000 in
set_option maxRecDepth 100000 in
theorem kX9_layHand (l : Launch) (η : xEnv) (v0 : Nat) (h : Hp) (x : Hp) (hx : fX9_layHand v0 h = some x) : xC l η yX9_layHand cX9_layHand 2 none 2 [.ref v0] h none x := by
  refine xC_of (by decide) (Nat.le_of_ble_eq_true rfl) hx (fun κ x => κ.2.2.2.1 = none ∧ κ.2.2.2.2 = x) ⟨rfl, rfl⟩ (fun κ => ?_)
  show xJ iX9_layHand κ _ 0 [(0, .ref v0)] [] h (fX9_layHand v0 h)
  unfold fX9_layHand
  refine j_iconst (x := 0) dX9_layHand_0 (by decide) ?_
  refine j_istore_n (L' := [(1, .int 0), (0, .ref v0)]) dX9_layHand_1 rfl (Nat.le_of_ble_eq_true rfl) rfl ?_
  refine j_pick [1, 0] rfl ?_
  refine j_loop (pc := 2) (Lf := fun s2 : Int32 × Hp => [(0, .ref v0), (1, .int s2.1)]) (Hf := fun s2 : Int32 × Hp => s2.2) (fun s2 => ?_) 1000000 (0, h)
  show xJ iX9_layHand κ _ 2 [(0, .ref v0), (1, .int s2.1)] [] s2.2 (fX9_layHand_b2 v0 s2)
  unfold fX9_layHand_b2
  refine j_iload_n 1 dX9_layHand_2 rfl rfl ?_
  refine j_bipush (x := 54) dX9_layHand_3 (by decide) ?_
  refine j_icmp_ge (tgt := 26) dX9_layHand_5 (by decide) (fun c1 => ?_) (fun c1 => ?_)
  · refine j_exit s2.2 ?_
    show xJ iX9_layHand κ _ _ _ _ _ (some s2.2)
    exact j_vret s2.2 dX9_layHand_26 rfl (fun q => q)
  · refine j_aload_n 0 dX9_layHand_8 rfl rfl ?_
    refine j_getR 9 18 6 dX9_layHand_9 fl_RX9_27 (by decide) rfl (by decide) (fun _ _ _ => rfl) (fun x2 => ?_)
    refine j_iload_n 1 dX9_layHand_12 rfl rfl ?_
    refine j_aload_n 0 dX9_layHand_13 rfl rfl ?_
    refine j_getR 9 18 0 dX9_layHand_14 fl_RX9_7 (by decide) rfl (by decide) (fun _ _ _ => rfl) (fun x3 => ?_)
    refine j_iload_n 1 dX9_layHand_17 rfl rfl ?_
    refine j_iald dX9_layHand_18 (fun x4 => ?_)
    refine j_iast dX9_layHand_19 (fun h5 => ?_)
    refine j_iinc (y := s2.1 + 1) (L' := [(1, .int (s2.1 + 1)), (0, .ref v0)]) 1 dX9_layHand_20 rfl rfl (Nat.le_of_ble_eq_true rfl) rfl ?_
    refine j_goto (tgt := 2) dX9_layHand_23 (by decide) ?_
    refine j_pick [1, 0] rfl ?_
    exact j_again (s2.1 + 1, h5) rfl rfl
def fX9_bits_b4  (h : Hp) (s4 : Int32 × Int32) : Option ((Int32 × Int32) ⊕ ((Int32))) :=
  if (s4.2 : Int32) ≤ 0 then (some (Sum.inr s4.1)) else (some (Sum.inl (s4.1 + (s4.2 &&& 1), s4.2 >>> (1 &&& 31))))
def fX9_bits (v0 : Int32) (h : Hp) : Option (Int32) :=
  (xloop (fX9_bits_b4 h) 1000000 (0, v0)).bind (fun r4 => some r4)
abbrev iX9_bits : xI := (cX9_bits, yX9_bits.cls, yX9_bits.name, some .int, 3, 2)
set_option maxHeartbeats 4000000 in
set_option maxRecDepth 100000 in
theorem kX9_bits (l : Launch) (η : xEnv) (v0 : Int32) (h : Hp) (x : Int32) (hx : fX9_bits v0 h = some x) : xC l η yX9_bits cX9_bits 3 (some .int) 2 [.int v0] h (some (.int x)) h := by
  refine xC_of (by decide) (Nat.le_of_ble_eq_true rfl) hx (fun κ x => κ.2.2.2.1 = some (.int x) ∧ κ.2.2.2.2 = h) ⟨rfl, rfl⟩ (fun κ => ?_)
  show xJ iX9_bits κ _ 0 [(0, .int v0)] [] h (fX9_bits v0 h)
  unfold fX9_bits
  refine j_iconst (x := 0) dX9_bits_0 (by decide) ?_
  refine j_istore_n (L' := [(1, .int 0), (0, .int v0)]) dX9_bits_1 rfl (Nat.le_of_ble_eq_true rfl) rfl ?_
  refine j_iload_n 1 dX9_bits_2 rfl rfl ?_
  refine j_istore_n (L' := [(2, .int v0), (1, .int 0), (0, .int v0)]) dX9_bits_3 rfl (Nat.le_of_ble_eq_true rfl) rfl ?_
  refine j_pick [1, 0] rfl ?_
  refine j_loop (pc := 4) (Lf := fun s4 : Int32 × Int32 => [(1, .int s4.1), (2, .int s4.2)]) (Hf := fun s4 : Int32 × Int32 => h) (fun s4 => ?_) 1000000 (0, v0)
  show xJ iX9_bits κ _ 4 [(1, .int s4.1), (2, .int s4.2)] [] h (fX9_bits_b4 h s4)
  unfold fX9_bits_b4
  refine j_iload_n 1 dX9_bits_4 rfl rfl ?_
  refine j_if_le (tgt := 21) dX9_bits_5 (by decide) (fun c1 => ?_) (fun c1 => ?_)
  · refine j_exit s4.1 ?_
    show xJ iX9_bits κ _ _ _ _ _ (some s4.1)
    refine j_iload_n 0 dX9_bits_21 rfl rfl ?_
    exact j_iret s4.1 dX9_bits_22 rfl (fun q => q)
  · refine j_iload_n 0 dX9_bits_8 rfl rfl ?_
    refine j_iload_n 1 dX9_bits_9 rfl rfl ?_
    refine j_iconst (x := 1) dX9_bits_10 (by decide) ?_
    refine j_iand dX9_bits_11 ?_
    refine j_iadd dX9_bits_12 ?_
    refine j_istore_n (L' := [(1, .int (s4.1 + (s4.2 &&& 1))), (2, .int s4.2)]) dX9_bits_13 rfl (Nat.le_of_ble_eq_true rfl) rfl ?_
    refine j_iload_n 1 dX9_bits_14 rfl rfl ?_
    refine j_iconst (x := 1) dX9_bits_15 (by decide) ?_
    refine j_ishr dX9_bits_16 ?_
    refine j_istore_n (L' := [(2, .int (s4.2 >>> (1 &&& 31))), (1, .int (s4.1 + (s4.2 &&& 1)))]) dX9_bits_17 rfl (Nat.le_of_ble_eq_true rfl) rfl ?_
    refine j_goto (tgt := 4) dX9_bits_18 (by decide) ?_
    refine j_pick [1, 0] rfl ?_
    exact j_again (s4.1 + (s4.2 &&& 1), s4.2 >>> (1 &&& 31)) rfl rfl
def fX9_has_j14 (t0 : Int32) (h : Hp) : Option (Int32) :=
  if vp_nar .boolean t0 = t0 then some t0 else none
def fX9_has (v0 : Int32) (v1 : Int32) (h : Hp) : Option (Int32) :=
  if ((v0 >>> (v1 &&& 31)) &&& 1 : Int32) = 1 then (fX9_has_j14 1 h) else (fX9_has_j14 0 h)
abbrev iX9_has : xI := (cX9_has, yX9_has.cls, yX9_has.name, some .boolean, 2, 2)
set_option maxHeartbeats 4000000 in
set_option maxRecDepth 100000 in
theorem kX9_has (l : Launch) (η : xEnv) (v0 : Int32) (v1 : Int32) (h : Hp) (x : Int32) (hx : fX9_has v0 v1 h = some x) : xC l η yX9_has cX9_has 2 (some .boolean) 2 [.int v0, .int v1] h (some (.int x)) h := by
  refine xC_of (by decide) (Nat.le_of_ble_eq_true rfl) hx (fun κ x => κ.2.2.2.1 = some (.int x) ∧ κ.2.2.2.2 = h) ⟨rfl, rfl⟩ (fun κ => ?_)
  show xJ iX9_has κ _ 0 [(0, .int v0), (1, .int v1)] [] h (fX9_has v0 v1 h)
  unfold fX9_has
  refine j_have (pj := 14) (Lf := fun v : Int32 => []) (Sf := fun v : Int32 => [.int v]) (Hf := fun v : Int32 => h) (jf := fun v : Int32 => fX9_has_j14 v h) (fun v => ?_) (fun hj14 => ?_)
  · generalize v = t0
    show xJ iX9_has κ _ 14 [] [.int t0] h (fX9_has_j14 t0 h)
    unfold fX9_has_j14
    exact j_zretc t0 dX9_has_14 rfl (fun q => q)
  refine j_iload_n 0 dX9_has_0 rfl rfl ?_
  refine j_iload_n 1 dX9_has_1 rfl rfl ?_
  refine j_ishr dX9_has_2 ?_
  refine j_iconst (x := 1) dX9_has_3 (by decide) ?_
  refine j_iand dX9_has_4 ?_
  refine j_iconst (x := 1) dX9_has_5 (by decide) ?_
  refine j_icmp_ne (tgt := 13) dX9_has_6 (by decide) (fun c1 => ?_) (fun c1 => ?_)
  · refine j_iconst (x := 1) dX9_has_9 (by decide) ?_
    refine j_goto (tgt := 14) dX9_has_10 (by decide) ?_
    refine j_pick [] rfl ?_
    exact hj14 1
  · refine j_iconst (x := 0) dX9_has_13 (by decide) ?_
    refine j_pick [] rfl ?_
    exact hj14 0
