def fX9_two_j143 (t0 : Int32) (h : Hp) : Option (Int32 × Hp) :=
  some (t0, h)
def fX9_two_j26 (v0 : Nat) (h : Hp) : Option (Int32 × Hp) :=
  (xat h v0 (9, 18) (fX9_bad v0 (-10) h)).bind fun q1 => some (q1.1, q1.2)
def fX9_two_j62 (v0 : Nat) (v1 : Int32) (v2 : Int32) (v3 : Int32) (v4 : Int32) (h : Hp) : Option ((Int32 × Hp) ⊕ ((Nat × Int32 × Int32 × Int32 × Hp))) :=
  some (Sum.inl (v4 + 1, h))
def fX9_two_j125 (v0 : Nat) (v1 : Int32) (v2 : Int32) (v3 : Int32) (v4 : Int32) (v5 : Int32) (v6 : Int32) (h : Hp) : Option ((Int32 × Int32 × Int32) ⊕ ((Int32 × Int32 × Int32))) :=
  some (Sum.inl (v4, v5, v6 + 1))
def fX9_two_j120 (v0 : Nat) (v1 : Int32) (v2 : Int32) (v3 : Int32) (v4 : Int32) (v6 : Int32) (t0 : Int32) (h : Hp) : Option ((Int32 × Int32 × Int32) ⊕ ((Int32 × Int32 × Int32))) :=
  fX9_two_j125 v0 v1 v2 v3 (v4 + 1) t0 v6 h
def fX9_two_b78 (v0 : Nat) (v1 : Int32) (v2 : Int32) (v3 : Int32) (h : Hp) (s78 : Int32 × Int32 × Int32) : Option ((Int32 × Int32 × Int32) ⊕ ((Int32 × Int32 × Int32))) :=
  if (100 : Int32) ≤ s78.2.2 then (some (Sum.inr (v3, s78.1, s78.2.1))) else ((xat h v0 (9, 18) (fX9_isPair v0 v1 v2 s78.2.2 h)).bind fun x11 => if (x11 : Int32) = 0 then (fX9_two_j125 v0 v1 v2 v3 s78.1 s78.2.1 s78.2.2 h) else ((xat h v0 (9, 18) (fX9_rests v0 v1 v2 s78.2.2 h)).bind fun x13 => if (x13 : Int32) = 0 then (fX9_two_j125 v0 v1 v2 v3 s78.1 s78.2.1 s78.2.2 h) else (if (s78.1 : Int32) = v3 then (fX9_two_j120 v0 v1 v2 v3 s78.1 s78.2.2 s78.2.2 h) else (fX9_two_j120 v0 v1 v2 v3 s78.1 s78.2.2 s78.2.1 h))))
def fX9_two_b36 (v0 : Nat) (v1 : Int32) (v2 : Int32) (v3 : Int32) (s36 : Int32 × Hp) : Option ((Int32 × Hp) ⊕ ((Nat × Int32 × Int32 × Int32 × Hp))) :=
  if (100 : Int32) ≤ s36.1 then (some (Sum.inr (v0, v1, v2, v3, s36.2))) else ((xat s36.2 v0 (9, 18) (fX9_isPair v0 v1 v2 s36.1 s36.2)).bind fun x16 => if (x16 : Int32) = 0 then (fX9_two_j62 v0 v1 v2 v3 s36.1 s36.2) else ((xat s36.2 v0 (9, 18) (fX9_layPair v0 v1 v2 s36.1 s36.2)).bind fun h18 => fX9_two_j62 v0 v1 v2 v3 s36.1 h18))
def fX9_two (v0 : Nat) (v1 : Int32) (v2 : Int32) (v3 : Int32) (h : Hp) : Option (Int32 × Hp) :=
  (xat h v0 (9, 18) (fX9_isIdea v0 v1 h)).bind fun x2 => if (x2 : Int32) = 0 then (fX9_two_j26 v0 h) else ((xat h v0 (9, 18) (fX9_isIdea v0 v2 h)).bind fun x4 => if (x4 : Int32) = 0 then (fX9_two_j26 v0 h) else (if (v1 : Int32) = v2 then (fX9_two_j26 v0 h) else (if ((-1) : Int32) ≤ v3 then ((xloop (fX9_two_b36 v0 v1 v2 v3) 1000000 (0, h)).bind (fun r36 => (xloop (fX9_two_b78 r36.1 r36.2.1 r36.2.2.1 r36.2.2.2.1 r36.2.2.2.2) 1000000 (0, (-5), 0)).bind (fun r78 => if (r78.1 : Int32) = (-1) then (fX9_two_j143 r78.2.1 r36.2.2.2.2) else (fX9_two_j143 r78.2.2 r36.2.2.2.2)))) else (fX9_two_j26 v0 h))))
abbrev iX9_two : xI := (cX9_two, yX9_two.cls, yX9_two.name, some .int, 7, 7)
set_option maxHeartbeats 4000000 in
set_option maxRecDepth 100000 in
theorem kX9_two (l : Launch) (η : xEnv) (v0 : Nat) (v1 : Int32) (v2 : Int32) (v3 : Int32) (h : Hp) (x : Int32 × Hp) (hx : fX9_two v0 v1 v2 v3 h = some x) : xC l η yX9_two cX9_two 7 (some .int) 7 [.ref v0, .int v1, .int v2, .int v3] h (some (.int x.1)) x.2 := by
  refine xC_of (by decide) (Nat.le_of_ble_eq_true rfl) hx (fun κ x => κ.2.2.2.1 = some (.int x.1) ∧ κ.2.2.2.2 = x.2) ⟨rfl, rfl⟩ (fun κ => ?_)
  show xJ iX9_two κ _ 0 [(0, .ref v0), (1, .int v1), (2, .int v2), (3, .int v3)] [] h (fX9_two v0 v1 v2 v3 h)
  unfold fX9_two
  refine j_have (pj := 143) (Lf := fun v : Int32 × Hp => []) (Sf := fun v : Int32 × Hp => [.int v.1]) (Hf := fun v : Int32 × Hp => v.2) (jf := fun v : Int32 × Hp => fX9_two_j143 v.1 v.2) (fun v => ?_) (fun hj143 => ?_)
  · obtain ⟨t0, h⟩ := v
    show xJ iX9_two κ _ 143 [] [.int t0] h (fX9_two_j143 t0 h)
    unfold fX9_two_j143
    exact j_iret (t0, h) dX9_two_143 rfl (fun q => q)
  refine j_have (pj := 26) (Lf := fun v : Hp => [(0, .ref v0)]) (Sf := fun v : Hp => []) (Hf := fun v : Hp => v) (jf := fun v : Hp => fX9_two_j26 v0 v) (fun v => ?_) (fun hj26 => ?_)
  · generalize v = h
    show xJ iX9_two κ _ 26 [(0, .ref v0)] [] h (fX9_two_j26 v0 h)
    unfold fX9_two_j26
    refine j_aload_n 0 dX9_two_26 rfl rfl ?_
    refine j_bipush (x := (-10)) dX9_two_27 (by decide) ?_
    refine j_callV (as := [.int (-10)]) (fun x => some (.int x.1)) (fun x => x.2) 9 18 dX9_two_29 ml_RX9_64 tg_X9_bad im_X9_bad se_X9_bad rfl (by decide) (fun x hx => kX9_bad κ.1 κ.2.1 v0 (-10) h x hx) (by decide) (by decide) rfl rfl (Nat.le_of_ble_eq_true rfl) (fun q1 => ?_)
    show xJ iX9_two κ _ 32 [(0, .ref v0)] [.int q1.1] q1.2 _
    exact j_iret (q1.1, q1.2) dX9_two_32 rfl (fun q => q)
  refine j_aload_n 0 dX9_two_0 rfl rfl ?_
  refine j_iload_n 1 dX9_two_1 rfl rfl ?_
  refine j_callV (as := [.int v1]) (fun x => some (.int x)) (fun _ => h) 9 18 dX9_two_2 ml_RX9_83 tg_X9_isIdea im_X9_isIdea se_X9_isIdea rfl (by decide) (fun x hx => kX9_isIdea κ.1 κ.2.1 v0 v1 h x hx) (by decide) (by decide) rfl rfl (Nat.le_of_ble_eq_true rfl) (fun x2 => ?_)
  show xJ iX9_two κ _ 5 [(0, .ref v0), (1, .int v1), (2, .int v2), (3, .int v3)] [.int x2] h _
  refine j_if_eq (tgt := 26) dX9_two_5 (by decide) (fun c3 => ?_) (fun c3 => ?_)
  · refine j_pick [0] rfl ?_
    exact hj26 h
  · refine j_aload_n 0 dX9_two_8 rfl rfl ?_
    refine j_iload_n 2 dX9_two_9 rfl rfl ?_
    refine j_callV (as := [.int v2]) (fun x => some (.int x)) (fun _ => h) 9 18 dX9_two_10 ml_RX9_83 tg_X9_isIdea im_X9_isIdea se_X9_isIdea rfl (by decide) (fun x hx => kX9_isIdea κ.1 κ.2.1 v0 v2 h x hx) (by decide) (by decide) rfl rfl (Nat.le_of_ble_eq_true rfl) (fun x4 => ?_)
    show xJ iX9_two κ _ 13 [(0, .ref v0), (1, .int v1), (2, .int v2), (3, .int v3)] [.int x4] h _
    refine j_if_eq (tgt := 26) dX9_two_13 (by decide) (fun c5 => ?_) (fun c5 => ?_)
    · refine j_pick [0] rfl ?_
      exact hj26 h
    · refine j_iload_n 1 dX9_two_16 rfl rfl ?_
      refine j_iload_n 2 dX9_two_17 rfl rfl ?_
      refine j_icmp_eq (tgt := 26) dX9_two_18 (by decide) (fun c6 => ?_) (fun c6 => ?_)
      · refine j_pick [0] rfl ?_
        exact hj26 h
      · refine j_iload_n 3 dX9_two_21 rfl rfl ?_
        refine j_iconst (x := (-1)) dX9_two_22 (by decide) ?_
        refine j_icmp_ge (tgt := 33) dX9_two_23 (by decide) (fun c7 => ?_) (fun c7 => ?_)
        · refine j_iconst (x := 0) dX9_two_33 (by decide) ?_
          refine j_istore (L' := [(4, .int 0), (0, .ref v0), (1, .int v1), (2, .int v2), (3, .int v3)]) dX9_two_34 (Nat.le_of_ble_eq_true rfl) rfl ?_
          refine j_pick [1, 2, 3, 4, 0] rfl ?_
          refine j_loop (pc := 36) (Lf := fun s36 : Int32 × Hp => [(0, .ref v0), (1, .int v1), (2, .int v2), (3, .int v3), (4, .int s36.1)]) (Hf := fun s36 : Int32 × Hp => s36.2) (fun s36 => ?_) 1000000 (0, h)
          show xJ iX9_two κ _ 36 [(0, .ref v0), (1, .int v1), (2, .int v2), (3, .int v3), (4, .int s36.1)] [] s36.2 (fX9_two_b36 v0 v1 v2 v3 s36)
          unfold fX9_two_b36
          refine j_have (pj := 62) (Lf := fun v : Int32 × Hp => [(0, .ref v0), (1, .int v1), (2, .int v2), (3, .int v3), (4, .int v.1)]) (Sf := fun v : Int32 × Hp => []) (Hf := fun v : Int32 × Hp => v.2) (jf := fun v : Int32 × Hp => fX9_two_j62 v0 v1 v2 v3 v.1 v.2) (fun v => ?_) (fun hj62 => ?_)
          · obtain ⟨v4, h⟩ := v
            show xJ iX9_two κ _ 62 [(0, .ref v0), (1, .int v1), (2, .int v2), (3, .int v3), (4, .int v4)] [] h (fX9_two_j62 v0 v1 v2 v3 v4 h)
            unfold fX9_two_j62
            refine j_iinc (y := v4 + 1) (L' := [(4, .int (v4 + 1)), (0, .ref v0), (1, .int v1), (2, .int v2), (3, .int v3)]) 4 dX9_two_62 rfl rfl (Nat.le_of_ble_eq_true rfl) rfl ?_
            refine j_goto (tgt := 36) dX9_two_65 (by decide) ?_
            refine j_pick [1, 2, 3, 4, 0] rfl ?_
            exact j_again (v4 + 1, h) rfl rfl
          refine j_iload 4 dX9_two_36 rfl ?_
          refine j_bipush (x := 100) dX9_two_38 (by decide) ?_
          refine j_icmp_ge (tgt := 68) dX9_two_40 (by decide) (fun c8 => ?_) (fun c8 => ?_)
          · refine j_exit (v0, v1, v2, v3, s36.2) ?_
            show xJ iX9_two κ _ _ _ _ _ ((xloop (fX9_two_b78 v0 v1 v2 v3 s36.2) 1000000 (0, (-5), 0)).bind (fun r78 => if (r78.1 : Int32) = (-1) then (fX9_two_j143 r78.2.1 s36.2) else (fX9_two_j143 r78.2.2 s36.2)))
            refine j_iconst (x := 0) dX9_two_68 (by decide) ?_
            refine j_istore (L' := [(4, .int 0), (0, .ref v0), (1, .int v1), (2, .int v2), (3, .int v3)]) dX9_two_69 (Nat.le_of_ble_eq_true rfl) rfl ?_
            refine j_bipush (x := (-5)) dX9_two_71 (by decide) ?_
            refine j_istore (L' := [(5, .int (-5)), (4, .int 0), (0, .ref v0), (1, .int v1), (2, .int v2), (3, .int v3)]) dX9_two_73 (Nat.le_of_ble_eq_true rfl) rfl ?_
            refine j_iconst (x := 0) dX9_two_75 (by decide) ?_
            refine j_istore (L' := [(6, .int 0), (5, .int (-5)), (4, .int 0), (0, .ref v0), (1, .int v1), (2, .int v2), (3, .int v3)]) dX9_two_76 (Nat.le_of_ble_eq_true rfl) rfl ?_
            refine j_pick [3, 4, 5, 6, 2, 1, 0] rfl ?_
            refine j_loop (pc := 78) (Lf := fun s78 : Int32 × Int32 × Int32 => [(0, .ref v0), (1, .int v1), (2, .int v2), (3, .int v3), (4, .int s78.1), (5, .int s78.2.1), (6, .int s78.2.2)]) (Hf := fun s78 : Int32 × Int32 × Int32 => s36.2) (fun s78 => ?_) 1000000 (0, (-5), 0)
            show xJ iX9_two κ _ 78 [(0, .ref v0), (1, .int v1), (2, .int v2), (3, .int v3), (4, .int s78.1), (5, .int s78.2.1), (6, .int s78.2.2)] [] s36.2 (fX9_two_b78 v0 v1 v2 v3 s36.2 s78)
            unfold fX9_two_b78
            refine j_have (pj := 125) (Lf := fun v : Int32 × Int32 × Int32 => [(0, .ref v0), (1, .int v1), (2, .int v2), (3, .int v3), (4, .int v.1), (5, .int v.2.1), (6, .int v.2.2)]) (Sf := fun v : Int32 × Int32 × Int32 => []) (Hf := fun v : Int32 × Int32 × Int32 => s36.2) (jf := fun v : Int32 × Int32 × Int32 => fX9_two_j125 v0 v1 v2 v3 v.1 v.2.1 v.2.2 s36.2) (fun v => ?_) (fun hj125 => ?_)
            · obtain ⟨v4, v5, v6⟩ := v
              show xJ iX9_two κ _ 125 [(0, .ref v0), (1, .int v1), (2, .int v2), (3, .int v3), (4, .int v4), (5, .int v5), (6, .int v6)] [] s36.2 (fX9_two_j125 v0 v1 v2 v3 v4 v5 v6 s36.2)
              unfold fX9_two_j125
              refine j_iinc (y := v6 + 1) (L' := [(6, .int (v6 + 1)), (0, .ref v0), (1, .int v1), (2, .int v2), (3, .int v3), (4, .int v4), (5, .int v5)]) 6 dX9_two_125 rfl rfl (Nat.le_of_ble_eq_true rfl) rfl ?_
              refine j_goto (tgt := 78) dX9_two_128 (by decide) ?_
              refine j_pick [1, 2, 3, 4, 5, 6, 0] rfl ?_
              exact j_again (v4, v5, v6 + 1) rfl rfl
            refine j_have (pj := 120) (Lf := fun v : Int32 × Int32 × Int32 => [(0, .ref v0), (1, .int v1), (2, .int v2), (3, .int v3), (4, .int v.1), (6, .int v.2.1)]) (Sf := fun v : Int32 × Int32 × Int32 => [.int v.2.2]) (Hf := fun v : Int32 × Int32 × Int32 => s36.2) (jf := fun v : Int32 × Int32 × Int32 => fX9_two_j120 v0 v1 v2 v3 v.1 v.2.1 v.2.2 s36.2) (fun v => ?_) (fun hj120 => ?_)
            · obtain ⟨v4, v6, t0⟩ := v
              show xJ iX9_two κ _ 120 [(0, .ref v0), (1, .int v1), (2, .int v2), (3, .int v3), (4, .int v4), (6, .int v6)] [.int t0] s36.2 (fX9_two_j120 v0 v1 v2 v3 v4 v6 t0 s36.2)
              unfold fX9_two_j120
              refine j_istore (L' := [(5, .int t0), (0, .ref v0), (1, .int v1), (2, .int v2), (3, .int v3), (4, .int v4), (6, .int v6)]) dX9_two_120 (Nat.le_of_ble_eq_true rfl) rfl ?_
              refine j_iinc (y := v4 + 1) (L' := [(4, .int (v4 + 1)), (5, .int t0), (0, .ref v0), (1, .int v1), (2, .int v2), (3, .int v3), (6, .int v6)]) 5 dX9_two_122 rfl rfl (Nat.le_of_ble_eq_true rfl) rfl ?_
              refine j_pick [2, 3, 4, 5, 0, 1, 6] rfl ?_
              exact hj125 (v4 + 1, t0, v6)
            refine j_iload 6 dX9_two_78 rfl ?_
            refine j_bipush (x := 100) dX9_two_80 (by decide) ?_
            refine j_icmp_ge (tgt := 131) dX9_two_82 (by decide) (fun c9 => ?_) (fun c9 => ?_)
            · refine j_exit (v3, s78.1, s78.2.1) ?_
              show xJ iX9_two κ _ _ _ _ _ (if (v3 : Int32) = (-1) then (fX9_two_j143 s78.1 s36.2) else (fX9_two_j143 s78.2.1 s36.2))
              refine j_iload_n 3 dX9_two_131 rfl rfl ?_
              refine j_iconst (x := (-1)) dX9_two_132 (by decide) ?_
              refine j_icmp_ne (tgt := 141) dX9_two_133 (by decide) (fun c10 => ?_) (fun c10 => ?_)
              · refine j_iload 4 dX9_two_136 rfl ?_
                refine j_goto (tgt := 143) dX9_two_138 (by decide) ?_
                refine j_pick [] rfl ?_
                exact hj143 (s78.1, s36.2)
              · refine j_iload 5 dX9_two_141 rfl ?_
                refine j_pick [] rfl ?_
                exact hj143 (s78.2.1, s36.2)
            · refine j_aload_n 0 dX9_two_85 rfl rfl ?_
              refine j_iload_n 1 dX9_two_86 rfl rfl ?_
              refine j_iload_n 2 dX9_two_87 rfl rfl ?_
              refine j_iload 6 dX9_two_88 rfl ?_
              refine j_callV (as := [.int v1, .int v2, .int s78.2.2]) (fun x => some (.int x)) (fun _ => s36.2) 9 18 dX9_two_90 ml_RX9_168 tg_X9_isPair im_X9_isPair se_X9_isPair rfl (by decide) (fun x hx => kX9_isPair κ.1 κ.2.1 v0 v1 v2 s78.2.2 s36.2 x hx) (by decide) (by decide) rfl rfl (Nat.le_of_ble_eq_true rfl) (fun x11 => ?_)
              show xJ iX9_two κ _ 93 [(0, .ref v0), (1, .int v1), (2, .int v2), (3, .int v3), (4, .int s78.1), (5, .int s78.2.1), (6, .int s78.2.2)] [.int x11] s36.2 _
              refine j_if_eq (tgt := 125) dX9_two_93 (by decide) (fun c12 => ?_) (fun c12 => ?_)
              · refine j_pick [0, 1, 2, 3, 4, 5, 6] rfl ?_
                exact hj125 (s78.1, s78.2.1, s78.2.2)
              · refine j_aload_n 0 dX9_two_96 rfl rfl ?_
                refine j_iload_n 1 dX9_two_97 rfl rfl ?_
                refine j_iload_n 2 dX9_two_98 rfl rfl ?_
                refine j_iload 6 dX9_two_99 rfl ?_
                refine j_callV (as := [.int v1, .int v2, .int s78.2.2]) (fun x => some (.int x)) (fun _ => s36.2) 9 18 dX9_two_101 ml_RX9_176 tg_X9_rests im_X9_rests se_X9_rests rfl (by decide) (fun x hx => kX9_rests κ.1 κ.2.1 v0 v1 v2 s78.2.2 s36.2 x hx) (by decide) (by decide) rfl rfl (Nat.le_of_ble_eq_true rfl) (fun x13 => ?_)
                show xJ iX9_two κ _ 104 [(0, .ref v0), (1, .int v1), (2, .int v2), (3, .int v3), (4, .int s78.1), (5, .int s78.2.1), (6, .int s78.2.2)] [.int x13] s36.2 _
                refine j_if_eq (tgt := 125) dX9_two_104 (by decide) (fun c14 => ?_) (fun c14 => ?_)
                · refine j_pick [0, 1, 2, 3, 4, 5, 6] rfl ?_
                  exact hj125 (s78.1, s78.2.1, s78.2.2)
                · refine j_iload 4 dX9_two_107 rfl ?_
                  refine j_iload_n 3 dX9_two_109 rfl rfl ?_
                  refine j_icmp_ne (tgt := 118) dX9_two_110 (by decide) (fun c15 => ?_) (fun c15 => ?_)
                  · refine j_iload 6 dX9_two_113 rfl ?_
                    refine j_goto (tgt := 120) dX9_two_115 (by decide) ?_
                    refine j_pick [0, 1, 2, 3, 4, 6] rfl ?_
                    exact hj120 (s78.1, s78.2.2, s78.2.2)
                  · refine j_iload 5 dX9_two_118 rfl ?_
                    refine j_pick [0, 1, 2, 3, 4, 6] rfl ?_
                    exact hj120 (s78.1, s78.2.2, s78.2.1)
          · refine j_aload_n 0 dX9_two_43 rfl rfl ?_
            refine j_iload_n 1 dX9_two_44 rfl rfl ?_
            refine j_iload_n 2 dX9_two_45 rfl rfl ?_
            refine j_iload 4 dX9_two_46 rfl ?_
            refine j_callV (as := [.int v1, .int v2, .int s36.1]) (fun x => some (.int x)) (fun _ => s36.2) 9 18 dX9_two_48 ml_RX9_168 tg_X9_isPair im_X9_isPair se_X9_isPair rfl (by decide) (fun x hx => kX9_isPair κ.1 κ.2.1 v0 v1 v2 s36.1 s36.2 x hx) (by decide) (by decide) rfl rfl (Nat.le_of_ble_eq_true rfl) (fun x16 => ?_)
            show xJ iX9_two κ _ 51 [(0, .ref v0), (1, .int v1), (2, .int v2), (3, .int v3), (4, .int s36.1)] [.int x16] s36.2 _
            refine j_if_eq (tgt := 62) dX9_two_51 (by decide) (fun c17 => ?_) (fun c17 => ?_)
            · refine j_pick [0, 1, 2, 3, 4] rfl ?_
              exact hj62 (s36.1, s36.2)
            · refine j_aload_n 0 dX9_two_54 rfl rfl ?_
              refine j_iload_n 1 dX9_two_55 rfl rfl ?_
              refine j_iload_n 2 dX9_two_56 rfl rfl ?_
              refine j_iload 4 dX9_two_57 rfl ?_
              refine j_callV (as := [.int v1, .int v2, .int s36.1]) (fun _ => none) (fun x => x) 9 18 dX9_two_59 ml_RX9_172 tg_X9_layPair im_X9_layPair se_X9_layPair rfl (by decide) (fun x hx => kX9_layPair κ.1 κ.2.1 v0 v1 v2 s36.1 s36.2 x hx) (by decide) (by decide) rfl rfl (Nat.le_of_ble_eq_true rfl) (fun h18 => ?_)
              show xJ iX9_two κ _ 62 [(0, .ref v0), (1, .int v1), (2, .int v2), (3, .int v3), (4, .int s36.1)] [] h18 _
              refine j_pick [0, 1, 2, 3, 4] rfl ?_
              exact hj62 (s36.1, h18)
        · refine j_pick [0] rfl ?_
          exact hj26 h
def fX8_bell (v0 : Nat) (v1 : Int32) (h : Hp) : Option (Int32 × Hp) :=
  (fX8_within v1 0 10 h).bind fun x1 => if (x1 : Int32) = 0 then ((xat h v0 (8, 12) (fX8_refuseBad v0 h)).bind fun q3 => some (q3.1, q3.2)) else ((xgR h v0 (8, 12) 0).bind fun x4 => (xgR h x4 (0, 16) 13).bind fun x5 => (xgI h x5 (5, 5) 0).bind fun x6 => (xgR h v0 (8, 12) 7).bind fun x7 => (xgR h v0 (8, 12) 0).bind fun x8 => (xgR h v0 (8, 12) 0).bind fun x9 => (xgR h x9 (0, 16) 13).bind fun x10 => (xgI h x10 (5, 5) 1).bind fun x11 => (xat h x8 (0, 16) (fX0_swayOfAll x8 x11 (if (9 : Int32) < x6 then 9 else x6) h)).bind fun x12 => (xat h x7 (2, 2) (fX2_become x7 (((x12 : Int32).toInt64) * (((10 - v1) : Int32).toInt64)) 10 h)).bind fun h13 => some (1, h13))
abbrev iX8_bell : xI := (cX8_bell, yX8_bell.cls, yX8_bell.name, some .int, 3, 4)
set_option maxHeartbeats 4000000 in
set_option maxRecDepth 100000 in
theorem kX8_bell (l : Launch) (η : xEnv) (v0 : Nat) (v1 : Int32) (h : Hp) (x : Int32 × Hp) (hx : fX8_bell v0 v1 h = some x) : xC l η yX8_bell cX8_bell 3 (some .int) 4 [.ref v0, .int v1] h (some (.int x.1)) x.2 := by
  refine xC_of (by decide) (Nat.le_of_ble_eq_true rfl) hx (fun κ x => κ.2.2.2.1 = some (.int x.1) ∧ κ.2.2.2.2 = x.2) ⟨rfl, rfl⟩ (fun κ => ?_)
  show xJ iX8_bell κ _ 0 [(0, .ref v0), (1, .int v1)] [] h (fX8_bell v0 v1 h)
  unfold fX8_bell
  refine j_iload_n 1 dX8_bell_0 rfl rfl ?_
  refine j_iconst (x := 0) dX8_bell_1 (by decide) ?_
  refine j_bipush (x := 10) dX8_bell_2 (by decide) ?_
  refine j_callS (as := [.int v1, .int 0, .int 10]) (fun x => some (.int x)) (fun _ => h) dX8_bell_4 ml_RX8_66 tg_X8_within st_X8_within (fun x hx => kX8_within κ.1 κ.2.1 v1 0 10 h x hx) (by decide) (by decide) rfl rfl (Nat.le_of_ble_eq_true rfl) (fun x1 => ?_)
  show xJ iX8_bell κ _ 7 [(0, .ref v0), (1, .int v1)] [.int x1] h _
  refine j_if_ne (tgt := 15) dX8_bell_7 (by decide) (fun c2 => ?_) (fun c2 => ?_)
  · refine j_aload_n 0 dX8_bell_10 rfl rfl ?_
    refine j_callV (as := []) (fun x => some (.int x.1)) (fun x => x.2) 8 12 dX8_bell_11 ml_RX8_70 tg_X8_refuseBad im_X8_refuseBad se_X8_refuseBad rfl (by decide) (fun x hx => kX8_refuseBad κ.1 κ.2.1 v0 h x hx) (by decide) (by decide) rfl rfl (Nat.le_of_ble_eq_true rfl) (fun q3 => ?_)
    show xJ iX8_bell κ _ 14 [(0, .ref v0), (1, .int v1)] [.int q3.1] q3.2 _
    exact j_iret (q3.1, q3.2) dX8_bell_14 rfl (fun q => q)
  · refine j_aload_n 0 dX8_bell_15 rfl rfl ?_
    refine j_getR 8 12 0 dX8_bell_16 fl_RX8_12 (by decide) rfl (by decide) (fun _ _ _ => rfl) (fun x4 => ?_)
    refine j_getR 0 16 13 dX8_bell_19 fl_RX8_137 (by decide) rfl (by decide) (fun _ _ _ => rfl) (fun x5 => ?_)
    refine j_getI 5 5 0 dX8_bell_22 fl_RX8_141 (by decide) rfl (by decide) rfl (fun x6 => ?_)
    refine j_bipush (x := 9) dX8_bell_25 (by decide) ?_
    refine j_mmin dX8_bell_27 ml_RX8_266 (by decide) (Nat.le_of_ble_eq_true rfl) ?_
    refine j_istore_n (L' := [(2, .int (if (9 : Int32) < x6 then 9 else x6)), (0, .ref v0), (1, .int v1)]) dX8_bell_30 rfl (Nat.le_of_ble_eq_true rfl) rfl ?_
    refine j_aload_n 1 dX8_bell_31 rfl rfl ?_
    refine j_getR 8 12 7 dX8_bell_32 fl_RX8_55 (by decide) rfl (by decide) (fun _ _ _ => rfl) (fun x7 => ?_)
    refine j_aload_n 1 dX8_bell_35 rfl rfl ?_
    refine j_getR 8 12 0 dX8_bell_36 fl_RX8_12 (by decide) rfl (by decide) (fun _ _ _ => rfl) (fun x8 => ?_)
    refine j_aload_n 1 dX8_bell_39 rfl rfl ?_
    refine j_getR 8 12 0 dX8_bell_40 fl_RX8_12 (by decide) rfl (by decide) (fun _ _ _ => rfl) (fun x9 => ?_)
    refine j_getR 0 16 13 dX8_bell_43 fl_RX8_137 (by decide) rfl (by decide) (fun _ _ _ => rfl) (fun x10 => ?_)
    refine j_getI 5 5 1 dX8_bell_46 fl_RX8_166 (by decide) rfl (by decide) rfl (fun x11 => ?_)
    refine j_iload_n 0 dX8_bell_49 rfl rfl ?_
    refine j_callV (as := [.int x11, .int (if (9 : Int32) < x6 then 9 else x6)]) (fun x => some (.int x)) (fun _ => h) 0 16 dX8_bell_50 ml_RX8_208 tg_X0_swayOfAll im_X0_swayOfAll se_X0_swayOfAll rfl (by decide) (fun x hx => kX0_swayOfAll κ.1 κ.2.1 x8 x11 (if (9 : Int32) < x6 then 9 else x6) h x hx) (by decide) (by decide) rfl rfl (Nat.le_of_ble_eq_true rfl) (fun x12 => ?_)
    show xJ iX8_bell κ _ 53 [(2, .int (if (9 : Int32) < x6 then 9 else x6)), (0, .ref v0), (1, .int v1)] [.int x12, .ref x7] h _
    refine j_i2l dX8_bell_53 ?_
    refine j_bipush (x := 10) dX8_bell_54 (by decide) ?_
    refine j_iload_n 2 dX8_bell_56 rfl rfl ?_
    refine j_isub dX8_bell_57 ?_
    refine j_i2l dX8_bell_58 ?_
    refine j_lmul dX8_bell_59 ?_
    refine j_ldc2 dX8_bell_60 cL_RX8_271 ?_
    refine j_callV (as := [.long (((x12 : Int32).toInt64) * (((10 - v1) : Int32).toInt64)), .long 10]) (fun _ => none) (fun x => x) 2 2 dX8_bell_63 ml_RX8_252 tg_X2_become im_X2_become se_X2_become rfl (by decide) (fun x hx => kX2_become κ.1 κ.2.1 x7 (((x12 : Int32).toInt64) * (((10 - v1) : Int32).toInt64)) 10 h x hx) (by decide) (by decide) rfl rfl (Nat.le_of_ble_eq_true rfl) (fun h13 => ?_)
    show xJ iX8_bell κ _ 66 [(2, .int (if (9 : Int32) < x6 then 9 else x6)), (0, .ref v0), (1, .int v1)] [] h13 _
    refine j_iconst (x := 1) dX8_bell_66 (by decide) ?_
    exact j_iret (1, h13) dX8_bell_67 rfl (fun q => q)
def fX9_bell_j45 (v0 : Nat) (v1 : Int32) (t0 : Int32) (h : Hp) : Option (Int32 × Hp) :=
  (xgR h v0 (9, 18) 6).bind fun x1 => (xaI h x1 10 4).bind fun x2 => (xat h v0 (9, 18) (fX9_swayOfAll v0 x2 t0 h)).bind fun x3 => (xat h v0 (9, 18) (fX9_fraction v0 (((x3 : Int32).toInt64) * (((10 - v1) : Int32).toInt64)) 10 h)).bind fun h4 => some (1, h4)
def fX9_bell (v0 : Nat) (v1 : Int32) (h : Hp) : Option (Int32 × Hp) :=
  (fX9_in ((v1 : Int32).toInt64) 0 10 h).bind fun x5 => if (x5 : Int32) = 0 then ((xat h v0 (9, 18) (fX9_bad v0 (-2) h)).bind fun q7 => some (q7.1, q7.2)) else ((xat h v0 (9, 18) (fX9_layHand v0 h)).bind fun h8 => (xgR h8 v0 (9, 18) 6).bind fun x9 => (xaI h8 x9 10 3).bind fun x10 => if (x10 : Int32) = 10 then (fX9_bell_j45 v0 v1 9 h8) else ((xgR h8 v0 (9, 18) 6).bind fun x12 => (xaI h8 x12 10 3).bind fun x13 => fX9_bell_j45 v0 v1 x13 h8))
abbrev iX9_bell : xI := (cX9_bell, yX9_bell.cls, yX9_bell.name, some .int, 3, 5)
set_option maxHeartbeats 4000000 in
set_option maxRecDepth 100000 in
theorem kX9_bell (l : Launch) (η : xEnv) (v0 : Nat) (v1 : Int32) (h : Hp) (x : Int32 × Hp) (hx : fX9_bell v0 v1 h = some x) : xC l η yX9_bell cX9_bell 3 (some .int) 5 [.ref v0, .int v1] h (some (.int x.1)) x.2 := by
  refine xC_of (by decide) (Nat.le_of_ble_eq_true rfl) hx (fun κ x => κ.2.2.2.1 = some (.int x.1) ∧ κ.2.2.2.2 = x.2) ⟨rfl, rfl⟩ (fun κ => ?_)
  show xJ iX9_bell κ _ 0 [(0, .ref v0), (1, .int v1)] [] h (fX9_bell v0 v1 h)
  unfold fX9_bell
  refine j_have (pj := 45) (Lf := fun v : Int32 × Hp => [(0, .ref v0), (1, .int v1)]) (Sf := fun v : Int32 × Hp => [.int v.1]) (Hf := fun v : Int32 × Hp => v.2) (jf := fun v : Int32 × Hp => fX9_bell_j45 v0 v1 v.1 v.2) (fun v => ?_) (fun hj45 => ?_)
  · obtain ⟨t0, h⟩ := v
    show xJ iX9_bell κ _ 45 [(0, .ref v0), (1, .int v1)] [.int t0] h (fX9_bell_j45 v0 v1 t0 h)
    unfold fX9_bell_j45
    refine j_istore_n (L' := [(2, .int t0), (0, .ref v0), (1, .int v1)]) dX9_bell_45 rfl (Nat.le_of_ble_eq_true rfl) rfl ?_
    refine j_aload_n 1 dX9_bell_46 rfl rfl ?_
    refine j_aload_n 1 dX9_bell_47 rfl rfl ?_
    refine j_aload_n 1 dX9_bell_48 rfl rfl ?_
    refine j_getR 9 18 6 dX9_bell_49 fl_RX9_27 (by decide) rfl (by decide) (fun _ _ _ => rfl) (fun x1 => ?_)
    refine j_iconst (x := 4) dX9_bell_52 (by decide) ?_
    refine j_iald dX9_bell_53 (fun x2 => ?_)
    refine j_iload_n 0 dX9_bell_54 rfl rfl ?_
    refine j_callV (as := [.int x2, .int t0]) (fun x => some (.int x)) (fun _ => h) 9 18 dX9_bell_55 ml_RX9_111 tg_X9_swayOfAll im_X9_swayOfAll se_X9_swayOfAll rfl (by decide) (fun x hx => kX9_swayOfAll κ.1 κ.2.1 v0 x2 t0 h x hx) (by decide) (by decide) rfl rfl (Nat.le_of_ble_eq_true rfl) (fun x3 => ?_)
    show xJ iX9_bell κ _ 58 [(2, .int t0), (0, .ref v0), (1, .int v1)] [.int x3, .ref v0] h _
    refine j_i2l dX9_bell_58 ?_
    refine j_bipush (x := 10) dX9_bell_59 (by decide) ?_
    refine j_iload_n 2 dX9_bell_61 rfl rfl ?_
    refine j_isub dX9_bell_62 ?_
    refine j_i2l dX9_bell_63 ?_
    refine j_lmul dX9_bell_64 ?_
    refine j_ldc2 dX9_bell_65 cL_RX9_117 ?_
    refine j_callV (as := [.long (((x3 : Int32).toInt64) * (((10 - v1) : Int32).toInt64)), .long 10]) (fun _ => none) (fun x => x) 9 18 dX9_bell_68 ml_RX9_164 tg_X9_fraction im_X9_fraction se_X9_fraction rfl (by decide) (fun x hx => kX9_fraction κ.1 κ.2.1 v0 (((x3 : Int32).toInt64) * (((10 - v1) : Int32).toInt64)) 10 h x hx) (by decide) (by decide) rfl rfl (Nat.le_of_ble_eq_true rfl) (fun h4 => ?_)
    show xJ iX9_bell κ _ 71 [(2, .int t0), (0, .ref v0), (1, .int v1)] [] h4 _
    refine j_iconst (x := 1) dX9_bell_71 (by decide) ?_
    exact j_iret (1, h4) dX9_bell_72 rfl (fun q => q)
  refine j_iload_n 1 dX9_bell_0 rfl rfl ?_
  refine j_i2l dX9_bell_1 ?_
  refine j_lconst (x := 0) dX9_bell_2 (by decide) ?_
  refine j_ldc2 dX9_bell_3 cL_RX9_117 ?_
  refine j_callS (as := [.long ((v1 : Int32).toInt64), .long 0, .long 10]) (fun x => some (.int x)) (fun _ => h) dX9_bell_6 ml_RX9_56 tg_X9_in st_X9_in (fun x hx => kX9_in κ.1 κ.2.1 ((v1 : Int32).toInt64) 0 10 h x hx) (by decide) (by decide) rfl rfl (Nat.le_of_ble_eq_true rfl) (fun x5 => ?_)
  show xJ iX9_bell κ _ 9 [(0, .ref v0), (1, .int v1)] [.int x5] h _
  refine j_if_ne (tgt := 19) dX9_bell_9 (by decide) (fun c6 => ?_) (fun c6 => ?_)
  · refine j_aload_n 0 dX9_bell_12 rfl rfl ?_
    refine j_bipush (x := (-2)) dX9_bell_13 (by decide) ?_
    refine j_callV (as := [.int (-2)]) (fun x => some (.int x.1)) (fun x => x.2) 9 18 dX9_bell_15 ml_RX9_64 tg_X9_bad im_X9_bad se_X9_bad rfl (by decide) (fun x hx => kX9_bad κ.1 κ.2.1 v0 (-2) h x hx) (by decide) (by decide) rfl rfl (Nat.le_of_ble_eq_true rfl) (fun q7 => ?_)
    show xJ iX9_bell κ _ 18 [(0, .ref v0), (1, .int v1)] [.int q7.1] q7.2 _
    exact j_iret (q7.1, q7.2) dX9_bell_18 rfl (fun q => q)
  · refine j_aload_n 0 dX9_bell_19 rfl rfl ?_
    refine j_callV (as := []) (fun _ => none) (fun x => x) 9 18 dX9_bell_20 ml_RX9_90 tg_X9_layHand im_X9_layHand se_X9_layHand rfl (by decide) (fun x hx => kX9_layHand κ.1 κ.2.1 v0 h x hx) (by decide) (by decide) rfl rfl (Nat.le_of_ble_eq_true rfl) (fun h8 => ?_)
    show xJ iX9_bell κ _ 23 [(0, .ref v0), (1, .int v1)] [] h8 _
    refine j_aload_n 0 dX9_bell_23 rfl rfl ?_
    refine j_getR 9 18 6 dX9_bell_24 fl_RX9_27 (by decide) rfl (by decide) (fun _ _ _ => rfl) (fun x9 => ?_)
    refine j_iconst (x := 3) dX9_bell_27 (by decide) ?_
    refine j_iald dX9_bell_28 (fun x10 => ?_)
    refine j_bipush (x := 10) dX9_bell_29 (by decide) ?_
    refine j_icmp_ne (tgt := 39) dX9_bell_31 (by decide) (fun c11 => ?_) (fun c11 => ?_)
    · refine j_bipush (x := 9) dX9_bell_34 (by decide) ?_
      refine j_goto (tgt := 45) dX9_bell_36 (by decide) ?_
      refine j_pick [0, 1] rfl ?_
      exact hj45 (9, h8)
    · refine j_aload_n 0 dX9_bell_39 rfl rfl ?_
      refine j_getR 9 18 6 dX9_bell_40 fl_RX9_27 (by decide) rfl (by decide) (fun _ _ _ => rfl) (fun x12 => ?_)
      refine j_iconst (x := 3) dX9_bell_43 (by decide) ?_
      refine j_iald dX9_bell_44 (fun x13 => ?_)
      refine j_pick [0, 1] rfl ?_
      exact hj45 (x13, h8)
def fX3_levyOfDays_j82 (v0 : Nat) (v1 : Nat) (v3 : Int32) (v4 : Int64) (v6 : Int32) (v7 : Int32) (v8 : Int32) (h : Hp) : Option ((Int64 × Int32 × Hp) ⊕ ((Nat × Nat × Int32 × Int64 × Int32 × Int32 × Hp))) :=
  some (Sum.inl (v4, v8 + 1, h))
def fX3_levyOfDays_b24 (v0 : Nat) (v1 : Nat) (v3 : Int32) (v6 : Int32) (v7 : Int32) (s24 : Int64 × Int32 × Hp) : Option ((Int64 × Int32 × Hp) ⊕ ((Nat × Nat × Int32 × Int64 × Int32 × Int32 × Hp))) :=
  (xgI s24.2.2 v1 (0, 16) 2).bind fun x3 => if (x3 : Int32) ≤ s24.2.1 then (some (Sum.inr (v0, v1, v3, s24.1, v6, v7, s24.2.2))) else (if (2147483648 : Int64) = 0 then none else (xgR s24.2.2 v1 (0, 16) 6).bind fun x9 => (xaI s24.2.2 x9 10 s24.2.1).bind fun x10 => if (x10 : Int32) ≤ 0 then (fX3_levyOfDays_j82 v0 v1 v3 (((s24.1 * 1103515245) + 12345) - ((s24.1 * 1103515245) + 12345) / 2147483648 * 2147483648) v6 v7 s24.2.1 s24.2.2) else ((xgR s24.2.2 v0 (3, 3) 1).bind fun x12 => if (65536 : Int64) = 0 then none else (xgR s24.2.2 v1 (0, 16) 6).bind fun x14 => (xaI s24.2.2 x14 10 s24.2.1).bind fun x15 => if ((x15 : Int32).toInt64 : Int64) = 0 then none else (xsI s24.2.2 x12 s24.2.1 (((((((s24.1 * 1103515245) + 12345) - ((s24.1 * 1103515245) + 12345) / 2147483648 * 2147483648) / 65536) - ((((s24.1 * 1103515245) + 12345) - ((s24.1 * 1103515245) + 12345) / 2147483648 * 2147483648) / 65536) / ((x15 : Int32).toInt64) * ((x15 : Int32).toInt64)) : Int64).toInt32)).bind fun h17 => fX3_levyOfDays_j82 v0 v1 v3 (((s24.1 * 1103515245) + 12345) - ((s24.1 * 1103515245) + 12345) / 2147483648 * 2147483648) v6 v7 s24.2.1 h17))
def fX3_levyOfDays_b10 (v0 : Nat) (v1 : Nat) (v3 : Int32) (s10 : Int64 × Int32 × Int32 × Hp) : Option ((Int64 × Int32 × Int32 × Hp) ⊕ ((Int32 × Hp))) :=
  if (v3 : Int32) ≤ s10.2.2.1 then (some (Sum.inr (s10.2.1, s10.2.2.2))) else ((xat s10.2.2.2 v0 (3, 3) (fX3_startAnew v0 v1 s10.2.2.2)).bind fun h2 => (xloop (fX3_levyOfDays_b24 v0 v1 v3 s10.2.1 s10.2.2.1) 1000000 (s10.1, 0, h2)).bind (fun r24 => (xat r24.2.2.2.2.2.2 r24.1 (3, 3) (fX3_passThrough r24.1 r24.2.1 9 r24.2.2.2.2.2.2)).bind fun h18 => (xgR h18 r24.1 (3, 3) 0).bind fun x19 => (xgI h18 x19 (5, 5) 4).bind fun x20 => some (Sum.inl (r24.2.2.2.1, r24.2.2.2.2.1 + x20, r24.2.2.2.2.2.1 + 1, h18))))
def fX3_levyOfDays (v0 : Nat) (v1 : Nat) (v2 : Int32) (v3 : Int32) (h : Hp) : Option (Int32 × Hp) :=
  (xloop (fX3_levyOfDays_b10 v0 v1 v3) 1000000 ((v2 : Int32).toInt64, 0, 0, h)).bind (fun r10 => some (r10.1, r10.2))
abbrev iX3_levyOfDays : xI := (cX3_levyOfDays, yX3_levyOfDays.cls, yX3_levyOfDays.name, some .int, 9, 6)
set_option maxHeartbeats 4000000 in
set_option maxRecDepth 100000 in
theorem kX3_levyOfDays (l : Launch) (η : xEnv) (v0 : Nat) (v1 : Nat) (v2 : Int32) (v3 : Int32) (h : Hp) (x : Int32 × Hp) (hx : fX3_levyOfDays v0 v1 v2 v3 h = some x) : xC l η yX3_levyOfDays cX3_levyOfDays 9 (some .int) 6 [.ref v0, .ref v1, .int v2, .int v3] h (some (.int x.1)) x.2 := by
  refine xC_of (by decide) (Nat.le_of_ble_eq_true rfl) hx (fun κ x => κ.2.2.2.1 = some (.int x.1) ∧ κ.2.2.2.2 = x.2) ⟨rfl, rfl⟩ (fun κ => ?_)
  show xJ iX3_levyOfDays κ _ 0 [(0, .ref v0), (1, .ref v1), (2, .int v2), (3, .int v3)] [] h (fX3_levyOfDays v0 v1 v2 v3 h)
  unfold fX3_levyOfDays
  refine j_iload_n 2 dX3_levyOfDays_0 rfl rfl ?_
  refine j_i2l dX3_levyOfDays_1 ?_
  refine j_lstore (L' := [(4, .long ((v2 : Int32).toInt64)), (0, .ref v0), (1, .ref v1), (2, .int v2), (3, .int v3)]) dX3_levyOfDays_2 (Nat.le_of_ble_eq_true rfl) rfl ?_
  refine j_iconst (x := 0) dX3_levyOfDays_4 (by decide) ?_
  refine j_istore (L' := [(6, .int 0), (4, .long ((v2 : Int32).toInt64)), (0, .ref v0), (1, .ref v1), (2, .int v2), (3, .int v3)]) dX3_levyOfDays_5 (Nat.le_of_ble_eq_true rfl) rfl ?_
  refine j_iconst (x := 0) dX3_levyOfDays_7 (by decide) ?_
  refine j_istore (L' := [(7, .int 0), (6, .int 0), (4, .long ((v2 : Int32).toInt64)), (0, .ref v0), (1, .ref v1), (2, .int v2), (3, .int v3)]) dX3_levyOfDays_8 (Nat.le_of_ble_eq_true rfl) rfl ?_
  refine j_pick [3, 4, 6, 2, 1, 0] rfl ?_
  refine j_loop (pc := 10) (Lf := fun s10 : Int64 × Int32 × Int32 × Hp => [(0, .ref v0), (1, .ref v1), (3, .int v3), (4, .long s10.1), (6, .int s10.2.1), (7, .int s10.2.2.1)]) (Hf := fun s10 : Int64 × Int32 × Int32 × Hp => s10.2.2.2) (fun s10 => ?_) 1000000 ((v2 : Int32).toInt64, 0, 0, h)
  show xJ iX3_levyOfDays κ _ 10 [(0, .ref v0), (1, .ref v1), (3, .int v3), (4, .long s10.1), (6, .int s10.2.1), (7, .int s10.2.2.1)] [] s10.2.2.2 (fX3_levyOfDays_b10 v0 v1 v3 s10)
  unfold fX3_levyOfDays_b10
  refine j_iload 5 dX3_levyOfDays_10 rfl ?_
  refine j_iload_n 2 dX3_levyOfDays_12 rfl rfl ?_
  refine j_icmp_ge (tgt := 113) dX3_levyOfDays_13 (by decide) (fun c1 => ?_) (fun c1 => ?_)
  · refine j_exit (s10.2.1, s10.2.2.2) ?_
    show xJ iX3_levyOfDays κ _ _ _ _ _ (some (s10.2.1, s10.2.2.2))
    refine j_iload 4 dX3_levyOfDays_113 rfl ?_
    exact j_iret (s10.2.1, s10.2.2.2) dX3_levyOfDays_115 rfl (fun q => q)
  · refine j_aload_n 0 dX3_levyOfDays_16 rfl rfl ?_
    refine j_aload_n 1 dX3_levyOfDays_17 rfl rfl ?_
    refine j_callV (as := [.ref v1]) (fun _ => none) (fun x => x) 3 3 dX3_levyOfDays_18 ml_RX3_68 tg_X3_startAnew im_X3_startAnew se_X3_startAnew rfl (by decide) (fun x hx => kX3_startAnew κ.1 κ.2.1 v0 v1 s10.2.2.2 x hx) (by decide) (by decide) rfl rfl (Nat.le_of_ble_eq_true rfl) (fun h2 => ?_)
    show xJ iX3_levyOfDays κ _ 21 [(0, .ref v0), (1, .ref v1), (3, .int v3), (4, .long s10.1), (6, .int s10.2.1), (7, .int s10.2.2.1)] [] h2 _
    refine j_iconst (x := 0) dX3_levyOfDays_21 (by decide) ?_
    refine j_istore (L' := [(8, .int 0), (0, .ref v0), (1, .ref v1), (3, .int v3), (4, .long s10.1), (6, .int s10.2.1), (7, .int s10.2.2.1)]) dX3_levyOfDays_22 (Nat.le_of_ble_eq_true rfl) rfl ?_
    refine j_pick [1, 2, 3, 4, 5, 6, 0] rfl ?_
    refine j_loop (pc := 24) (Lf := fun s24 : Int64 × Int32 × Hp => [(0, .ref v0), (1, .ref v1), (3, .int v3), (4, .long s24.1), (6, .int s10.2.1), (7, .int s10.2.2.1), (8, .int s24.2.1)]) (Hf := fun s24 : Int64 × Int32 × Hp => s24.2.2) (fun s24 => ?_) 1000000 (s10.1, 0, h2)
    show xJ iX3_levyOfDays κ _ 24 [(0, .ref v0), (1, .ref v1), (3, .int v3), (4, .long s24.1), (6, .int s10.2.1), (7, .int s10.2.2.1), (8, .int s24.2.1)] [] s24.2.2 (fX3_levyOfDays_b24 v0 v1 v3 s10.2.1 s10.2.2.1 s24)
    unfold fX3_levyOfDays_b24
    refine j_have (pj := 82) (Lf := fun v : Int64 × Int32 × Hp => [(0, .ref v0), (1, .ref v1), (3, .int v3), (4, .long v.1), (6, .int s10.2.1), (7, .int s10.2.2.1), (8, .int v.2.1)]) (Sf := fun v : Int64 × Int32 × Hp => []) (Hf := fun v : Int64 × Int32 × Hp => v.2.2) (jf := fun v : Int64 × Int32 × Hp => fX3_levyOfDays_j82 v0 v1 v3 v.1 s10.2.1 s10.2.2.1 v.2.1 v.2.2) (fun v => ?_) (fun hj82 => ?_)
    · obtain ⟨v4, v8, h⟩ := v
      show xJ iX3_levyOfDays κ _ 82 [(0, .ref v0), (1, .ref v1), (3, .int v3), (4, .long v4), (6, .int s10.2.1), (7, .int s10.2.2.1), (8, .int v8)] [] h (fX3_levyOfDays_j82 v0 v1 v3 v4 s10.2.1 s10.2.2.1 v8 h)
      unfold fX3_levyOfDays_j82
      refine j_iinc (y := v8 + 1) (L' := [(8, .int (v8 + 1)), (0, .ref v0), (1, .ref v1), (3, .int v3), (4, .long v4), (6, .int s10.2.1), (7, .int s10.2.2.1)]) 6 dX3_levyOfDays_82 rfl rfl (Nat.le_of_ble_eq_true rfl) rfl ?_
      refine j_goto (tgt := 24) dX3_levyOfDays_85 (by decide) ?_
      refine j_pick [1, 2, 3, 4, 5, 6, 0] rfl ?_
      exact j_again (v4, v8 + 1, h) rfl rfl
    refine j_iload 6 dX3_levyOfDays_24 rfl ?_
    refine j_aload_n 1 dX3_levyOfDays_26 rfl rfl ?_
    refine j_getI 0 16 2 dX3_levyOfDays_27 fl_RX3_78 (by decide) rfl (by decide) rfl (fun x3 => ?_)
    refine j_icmp_ge (tgt := 88) dX3_levyOfDays_30 (by decide) (fun c4 => ?_) (fun c4 => ?_)
    · refine j_exit (v0, v1, v3, s24.1, s10.2.1, s10.2.2.1, s24.2.2) ?_
      show xJ iX3_levyOfDays κ _ _ _ _ _ ((xat s24.2.2 v0 (3, 3) (fX3_passThrough v0 v1 9 s24.2.2)).bind fun h5 => (xgR h5 v0 (3, 3) 0).bind fun x6 => (xgI h5 x6 (5, 5) 4).bind fun x7 => some (Sum.inl (s24.1, s10.2.1 + x7, s10.2.2.1 + 1, h5)))
      refine j_aload_n 0 dX3_levyOfDays_88 rfl rfl ?_
      refine j_aload_n 1 dX3_levyOfDays_89 rfl rfl ?_
      refine j_bipush (x := 9) dX3_levyOfDays_90 (by decide) ?_
      refine j_callV (as := [.ref v1, .int 9]) (fun _ => none) (fun x => x) 3 3 dX3_levyOfDays_92 ml_RX3_70 tg_X3_passThrough im_X3_passThrough se_X3_passThrough rfl (by decide) (fun x hx => kX3_passThrough κ.1 κ.2.1 v0 v1 9 s24.2.2 x hx) (by decide) (by decide) rfl rfl (Nat.le_of_ble_eq_true rfl) (fun h5 => ?_)
      show xJ iX3_levyOfDays κ _ 95 [(0, .ref v0), (1, .ref v1), (3, .int v3), (4, .long s24.1), (6, .int s10.2.1), (7, .int s10.2.2.1), (8, .int s24.2.1)] [] h5 _
      refine j_iload 4 dX3_levyOfDays_95 rfl ?_
      refine j_aload_n 0 dX3_levyOfDays_97 rfl rfl ?_
      refine j_getR 3 3 0 dX3_levyOfDays_98 fl_RX3_12 (by decide) rfl (by decide) (fun _ _ _ => rfl) (fun x6 => ?_)
      refine j_getI 5 5 4 dX3_levyOfDays_101 fl_RX3_100 (by decide) rfl (by decide) rfl (fun x7 => ?_)
      refine j_iadd dX3_levyOfDays_104 ?_
      refine j_istore (L' := [(6, .int (s10.2.1 + x7)), (0, .ref v0), (1, .ref v1), (3, .int v3), (4, .long s24.1), (7, .int s10.2.2.1), (8, .int s24.2.1)]) dX3_levyOfDays_105 (Nat.le_of_ble_eq_true rfl) rfl ?_
      refine j_iinc (y := s10.2.2.1 + 1) (L' := [(7, .int (s10.2.2.1 + 1)), (6, .int (s10.2.1 + x7)), (0, .ref v0), (1, .ref v1), (3, .int v3), (4, .long s24.1), (8, .int s24.2.1)]) 5 dX3_levyOfDays_107 rfl rfl (Nat.le_of_ble_eq_true rfl) rfl ?_
      refine j_goto (tgt := 10) dX3_levyOfDays_110 (by decide) ?_
      refine j_pick [2, 3, 4, 5, 1, 0] rfl ?_
      exact j_again (s24.1, s10.2.1 + x7, s10.2.2.1 + 1, h5) rfl rfl
    · refine j_lload 3 dX3_levyOfDays_33 rfl ?_
      refine j_ldc2 dX3_levyOfDays_35 cL_RX3_92 ?_
      refine j_lmul dX3_levyOfDays_38 ?_
      refine j_ldc2 dX3_levyOfDays_39 cL_RX3_94 ?_
      refine j_ladd dX3_levyOfDays_42 ?_
      refine j_ldc2 dX3_levyOfDays_43 cL_RX3_96 ?_
      refine j_lrem dX3_levyOfDays_46 (fun c8 => ?_)
      refine j_lstore (L' := [(4, .long (((s24.1 * 1103515245) + 12345) - ((s24.1 * 1103515245) + 12345) / 2147483648 * 2147483648)), (0, .ref v0), (1, .ref v1), (3, .int v3), (6, .int s10.2.1), (7, .int s10.2.2.1), (8, .int s24.2.1)]) dX3_levyOfDays_47 (Nat.le_of_ble_eq_true rfl) rfl ?_
      refine j_aload_n 2 dX3_levyOfDays_49 rfl rfl ?_
      refine j_getR 0 16 6 dX3_levyOfDays_50 fl_RX3_81 (by decide) rfl (by decide) (fun _ _ _ => rfl) (fun x9 => ?_)
      refine j_iload 6 dX3_levyOfDays_53 rfl ?_
      refine j_iald dX3_levyOfDays_55 (fun x10 => ?_)
      refine j_if_le (tgt := 82) dX3_levyOfDays_56 (by decide) (fun c11 => ?_) (fun c11 => ?_)
      · refine j_pick [1, 2, 3, 0, 4, 5, 6] rfl ?_
        exact hj82 (((s24.1 * 1103515245) + 12345) - ((s24.1 * 1103515245) + 12345) / 2147483648 * 2147483648, s24.2.1, s24.2.2)
      · refine j_aload_n 1 dX3_levyOfDays_59 rfl rfl ?_
        refine j_getR 3 3 1 dX3_levyOfDays_60 fl_RX3_18 (by decide) rfl (by decide) (fun _ _ _ => rfl) (fun x12 => ?_)
        refine j_iload 6 dX3_levyOfDays_63 rfl ?_
        refine j_lload 0 dX3_levyOfDays_65 rfl ?_
        refine j_ldc2 dX3_levyOfDays_67 cL_RX3_98 ?_
        refine j_ldiv dX3_levyOfDays_70 (fun c13 => ?_)
        refine j_aload_n 2 dX3_levyOfDays_71 rfl rfl ?_
        refine j_getR 0 16 6 dX3_levyOfDays_72 fl_RX3_81 (by decide) rfl (by decide) (fun _ _ _ => rfl) (fun x14 => ?_)
        refine j_iload 6 dX3_levyOfDays_75 rfl ?_
        refine j_iald dX3_levyOfDays_77 (fun x15 => ?_)
        refine j_i2l dX3_levyOfDays_78 ?_
        refine j_lrem dX3_levyOfDays_79 (fun c16 => ?_)
        refine j_l2i dX3_levyOfDays_80 ?_
        refine j_iast dX3_levyOfDays_81 (fun h17 => ?_)
        refine j_pick [1, 2, 3, 0, 4, 5, 6] rfl ?_
        exact hj82 (((s24.1 * 1103515245) + 12345) - ((s24.1 * 1103515245) + 12345) / 2147483648 * 2147483648, s24.2.1, h17)
def fX8_days_j21 (v0 : Nat) (h : Hp) : Option (Int32 × Hp) :=
  (xat h v0 (8, 12) (fX8_refuseBad v0 h)).bind fun q1 => some (q1.1, q1.2)
def fX8_days (v0 : Nat) (v1 : Int32) (v2 : Int32) (h : Hp) : Option (Int32 × Hp) :=
  (fX8_within v1 0 999999 h).bind fun x2 => if (x2 : Int32) = 0 then (fX8_days_j21 v0 h) else ((fX8_within v2 0 60 h).bind fun x4 => if (x4 : Int32) = 0 then (fX8_days_j21 v0 h) else ((xgR h v0 (8, 12) 3).bind fun x6 => (xgR h v0 (8, 12) 0).bind fun x7 => (xat h x6 (3, 3) (fX3_levyOfDays x6 x7 v1 v2 h)).bind fun q8 => some (q8.1, q8.2)))
abbrev iX8_days : xI := (cX8_days, yX8_days.cls, yX8_days.name, some .int, 3, 7)
set_option maxHeartbeats 4000000 in
set_option maxRecDepth 100000 in
theorem kX8_days (l : Launch) (η : xEnv) (v0 : Nat) (v1 : Int32) (v2 : Int32) (h : Hp) (x : Int32 × Hp) (hx : fX8_days v0 v1 v2 h = some x) : xC l η yX8_days cX8_days 3 (some .int) 7 [.ref v0, .int v1, .int v2] h (some (.int x.1)) x.2 := by
  refine xC_of (by decide) (Nat.le_of_ble_eq_true rfl) hx (fun κ x => κ.2.2.2.1 = some (.int x.1) ∧ κ.2.2.2.2 = x.2) ⟨rfl, rfl⟩ (fun κ => ?_)
  show xJ iX8_days κ _ 0 [(0, .ref v0), (1, .int v1), (2, .int v2)] [] h (fX8_days v0 v1 v2 h)
  unfold fX8_days
  refine j_have (pj := 21) (Lf := fun v : Hp => [(0, .ref v0)]) (Sf := fun v : Hp => []) (Hf := fun v : Hp => v) (jf := fun v : Hp => fX8_days_j21 v0 v) (fun v => ?_) (fun hj21 => ?_)
  · generalize v = h
    show xJ iX8_days κ _ 21 [(0, .ref v0)] [] h (fX8_days_j21 v0 h)
    unfold fX8_days_j21
    refine j_aload_n 0 dX8_days_21 rfl rfl ?_
    refine j_callV (as := []) (fun x => some (.int x.1)) (fun x => x.2) 8 12 dX8_days_22 ml_RX8_70 tg_X8_refuseBad im_X8_refuseBad se_X8_refuseBad rfl (by decide) (fun x hx => kX8_refuseBad κ.1 κ.2.1 v0 h x hx) (by decide) (by decide) rfl rfl (Nat.le_of_ble_eq_true rfl) (fun q1 => ?_)
    show xJ iX8_days κ _ 25 [(0, .ref v0)] [.int q1.1] q1.2 _
    exact j_iret (q1.1, q1.2) dX8_days_25 rfl (fun q => q)
  refine j_iload_n 1 dX8_days_0 rfl rfl ?_
  refine j_iconst (x := 0) dX8_days_1 (by decide) ?_
  refine j_ldcw dX8_days_2 ct_RX8_273 ?_
  refine j_callS (as := [.int v1, .int 0, .int 999999]) (fun x => some (.int x)) (fun _ => h) dX8_days_5 ml_RX8_66 tg_X8_within st_X8_within (fun x hx => kX8_within κ.1 κ.2.1 v1 0 999999 h x hx) (by decide) (by decide) rfl rfl (Nat.le_of_ble_eq_true rfl) (fun x2 => ?_)
  show xJ iX8_days κ _ 8 [(0, .ref v0), (1, .int v1), (2, .int v2)] [.int x2] h _
  refine j_if_eq (tgt := 21) dX8_days_8 (by decide) (fun c3 => ?_) (fun c3 => ?_)
  · refine j_pick [0] rfl ?_
    exact hj21 h
  · refine j_iload_n 2 dX8_days_11 rfl rfl ?_
    refine j_iconst (x := 0) dX8_days_12 (by decide) ?_
    refine j_bipush (x := 60) dX8_days_13 (by decide) ?_
    refine j_callS (as := [.int v2, .int 0, .int 60]) (fun x => some (.int x)) (fun _ => h) dX8_days_15 ml_RX8_66 tg_X8_within st_X8_within (fun x hx => kX8_within κ.1 κ.2.1 v2 0 60 h x hx) (by decide) (by decide) rfl rfl (Nat.le_of_ble_eq_true rfl) (fun x4 => ?_)
    show xJ iX8_days κ _ 18 [(0, .ref v0), (1, .int v1), (2, .int v2)] [.int x4] h _
    refine j_if_ne (tgt := 26) dX8_days_18 (by decide) (fun c5 => ?_) (fun c5 => ?_)
    · refine j_pick [0] rfl ?_
      exact hj21 h
    · refine j_aload_n 0 dX8_days_26 rfl rfl ?_
      refine j_getR 8 12 3 dX8_days_27 fl_RX8_27 (by decide) rfl (by decide) (fun _ _ _ => rfl) (fun x6 => ?_)
      refine j_aload_n 0 dX8_days_30 rfl rfl ?_
      refine j_getR 8 12 0 dX8_days_31 fl_RX8_12 (by decide) rfl (by decide) (fun _ _ _ => rfl) (fun x7 => ?_)
      refine j_iload_n 1 dX8_days_34 rfl rfl ?_
      refine j_iload_n 2 dX8_days_35 rfl rfl ?_
      refine j_callV (as := [.ref x7, .int v1, .int v2]) (fun x => some (.int x.1)) (fun x => x.2) 3 3 dX8_days_36 ml_RX8_274 tg_X3_levyOfDays im_X3_levyOfDays se_X3_levyOfDays rfl (by decide) (fun x hx => kX3_levyOfDays κ.1 κ.2.1 x6 x7 v1 v2 h x hx) (by decide) (by decide) rfl rfl (Nat.le_of_ble_eq_true rfl) (fun q8 => ?_)
      show xJ iX8_days κ _ 39 [(0, .ref v0), (1, .int v1), (2, .int v2)] [.int q8.1] q8.2 _
      exact j_iret (q8.1, q8.2) dX8_days_39 rfl (fun q => q)
def fX9_days_j24 (v0 : Nat) (h : Hp) : Option (Int32 × Hp) :=
  (xat h v0 (9, 18) (fX9_bad v0 (-2) h)).bind fun q1 => some (q1.1, q1.2)
def fX9_days_b53 (v0 : Nat) (v2 : Int32) (v5 : Int32) (v6 : Int32) (s53 : Int64 × Int32 × Hp) : Option ((Int64 × Int32 × Hp) ⊕ ((Nat × Int32 × Int64 × Int32 × Int32 × Hp))) :=
  (xat s53.2.2 v0 (9, 18) (fX9_many v0 s53.2.2)).bind fun x8 => if (x8 : Int32) ≤ s53.2.1 then (some (Sum.inr (v0, v2, s53.1, v5, v6, s53.2.2))) else (if (2147483648 : Int64) = 0 then none else (xgR s53.2.2 v0 (9, 18) 6).bind fun x14 => if (65536 : Int64) = 0 then none else (xgR s53.2.2 v0 (9, 18) 6).bind fun x16 => (xaI s53.2.2 x16 10 (40 + s53.2.1)).bind fun x17 => if ((x17 : Int32).toInt64 : Int64) = 0 then none else (xsI s53.2.2 x14 (33 + s53.2.1) (((((((s53.1 * 1103515245) + 12345) - ((s53.1 * 1103515245) + 12345) / 2147483648 * 2147483648) / 65536) - ((((s53.1 * 1103515245) + 12345) - ((s53.1 * 1103515245) + 12345) / 2147483648 * 2147483648) / 65536) / ((x17 : Int32).toInt64) * ((x17 : Int32).toInt64)) : Int64).toInt32)).bind fun h19 => some (Sum.inl (((s53.1 * 1103515245) + 12345) - ((s53.1 * 1103515245) + 12345) / 2147483648 * 2147483648, s53.2.1 + 1, h19)))
def fX9_days_b40 (v0 : Nat) (v2 : Int32) (s40 : Int64 × Int32 × Int32 × Hp) : Option ((Int64 × Int32 × Int32 × Hp) ⊕ ((Int32 × Hp))) :=
  if (v2 : Int32) ≤ s40.2.2.1 then (some (Sum.inr (s40.2.1, s40.2.2.2))) else ((xat s40.2.2.2 v0 (9, 18) (fX9_layStart v0 s40.2.2.2)).bind fun h7 => (xloop (fX9_days_b53 v0 v2 s40.2.1 s40.2.2.1) 1000000 (s40.1, 0, h7)).bind (fun r53 => (xat r53.2.2.2.2.2 r53.1 (9, 18) (fX9_goTill r53.1 10 r53.2.2.2.2.2)).bind fun h20 => (xgR h20 r53.1 (9, 18) 6).bind fun x21 => (xaI h20 x21 10 7).bind fun x22 => some (Sum.inl (r53.2.2.1, r53.2.2.2.1 + x22, r53.2.2.2.2.1 + 1, h20))))
def fX9_days (v0 : Nat) (v1 : Int32) (v2 : Int32) (h : Hp) : Option (Int32 × Hp) :=
  (fX9_in ((v1 : Int32).toInt64) 0 999999 h).bind fun x2 => if (x2 : Int32) = 0 then (fX9_days_j24 v0 h) else ((fX9_in ((v2 : Int32).toInt64) 0 60 h).bind fun x4 => if (x4 : Int32) = 0 then (fX9_days_j24 v0 h) else ((xloop (fX9_days_b40 v0 v2) 1000000 ((v1 : Int32).toInt64, 0, 0, h)).bind (fun r40 => some (r40.1, r40.2))))
abbrev iX9_days : xI := (cX9_days, yX9_days.cls, yX9_days.name, some .int, 8, 7)
set_option maxHeartbeats 4000000 in
set_option maxRecDepth 100000 in
theorem kX9_days (l : Launch) (η : xEnv) (v0 : Nat) (v1 : Int32) (v2 : Int32) (h : Hp) (x : Int32 × Hp) (hx : fX9_days v0 v1 v2 h = some x) : xC l η yX9_days cX9_days 8 (some .int) 7 [.ref v0, .int v1, .int v2] h (some (.int x.1)) x.2 := by
  refine xC_of (by decide) (Nat.le_of_ble_eq_true rfl) hx (fun κ x => κ.2.2.2.1 = some (.int x.1) ∧ κ.2.2.2.2 = x.2) ⟨rfl, rfl⟩ (fun κ => ?_)
  show xJ iX9_days κ _ 0 [(0, .ref v0), (1, .int v1), (2, .int v2)] [] h (fX9_days v0 v1 v2 h)
  unfold fX9_days
  refine j_have (pj := 24) (Lf := fun v : Hp => [(0, .ref v0)]) (Sf := fun v : Hp => []) (Hf := fun v : Hp => v) (jf := fun v : Hp => fX9_days_j24 v0 v) (fun v => ?_) (fun hj24 => ?_)
  · generalize v = h
    show xJ iX9_days κ _ 24 [(0, .ref v0)] [] h (fX9_days_j24 v0 h)
    unfold fX9_days_j24
    refine j_aload_n 0 dX9_days_24 rfl rfl ?_
    refine j_bipush (x := (-2)) dX9_days_25 (by decide) ?_
    refine j_callV (as := [.int (-2)]) (fun x => some (.int x.1)) (fun x => x.2) 9 18 dX9_days_27 ml_RX9_64 tg_X9_bad im_X9_bad se_X9_bad rfl (by decide) (fun x hx => kX9_bad κ.1 κ.2.1 v0 (-2) h x hx) (by decide) (by decide) rfl rfl (Nat.le_of_ble_eq_true rfl) (fun q1 => ?_)
    show xJ iX9_days κ _ 30 [(0, .ref v0)] [.int q1.1] q1.2 _
    exact j_iret (q1.1, q1.2) dX9_days_30 rfl (fun q => q)
  refine j_iload_n 1 dX9_days_0 rfl rfl ?_
  refine j_i2l dX9_days_1 ?_
  refine j_lconst (x := 0) dX9_days_2 (by decide) ?_
  refine j_ldc2 dX9_days_3 cL_RX9_179 ?_
  refine j_callS (as := [.long ((v1 : Int32).toInt64), .long 0, .long 999999]) (fun x => some (.int x)) (fun _ => h) dX9_days_6 ml_RX9_56 tg_X9_in st_X9_in (fun x hx => kX9_in κ.1 κ.2.1 ((v1 : Int32).toInt64) 0 999999 h x hx) (by decide) (by decide) rfl rfl (Nat.le_of_ble_eq_true rfl) (fun x2 => ?_)
  show xJ iX9_days κ _ 9 [(0, .ref v0), (1, .int v1), (2, .int v2)] [.int x2] h _
  refine j_if_eq (tgt := 24) dX9_days_9 (by decide) (fun c3 => ?_) (fun c3 => ?_)
  · refine j_pick [0] rfl ?_
    exact hj24 h
  · refine j_iload_n 2 dX9_days_12 rfl rfl ?_
    refine j_i2l dX9_days_13 ?_
    refine j_lconst (x := 0) dX9_days_14 (by decide) ?_
    refine j_ldc2 dX9_days_15 cL_RX9_162 ?_
    refine j_callS (as := [.long ((v2 : Int32).toInt64), .long 0, .long 60]) (fun x => some (.int x)) (fun _ => h) dX9_days_18 ml_RX9_56 tg_X9_in st_X9_in (fun x hx => kX9_in κ.1 κ.2.1 ((v2 : Int32).toInt64) 0 60 h x hx) (by decide) (by decide) rfl rfl (Nat.le_of_ble_eq_true rfl) (fun x4 => ?_)
    show xJ iX9_days κ _ 21 [(0, .ref v0), (1, .int v1), (2, .int v2)] [.int x4] h _
    refine j_if_ne (tgt := 31) dX9_days_21 (by decide) (fun c5 => ?_) (fun c5 => ?_)
    · refine j_pick [0] rfl ?_
      exact hj24 h
    · refine j_iload_n 1 dX9_days_31 rfl rfl ?_
      refine j_i2l dX9_days_32 ?_
      refine j_lstore_n (L' := [(3, .long ((v1 : Int32).toInt64)), (0, .ref v0), (1, .int v1), (2, .int v2)]) dX9_days_33 rfl (Nat.le_of_ble_eq_true rfl) rfl ?_
      refine j_iconst (x := 0) dX9_days_34 (by decide) ?_
      refine j_istore (L' := [(5, .int 0), (3, .long ((v1 : Int32).toInt64)), (0, .ref v0), (1, .int v1), (2, .int v2)]) dX9_days_35 (Nat.le_of_ble_eq_true rfl) rfl ?_
      refine j_iconst (x := 0) dX9_days_37 (by decide) ?_
      refine j_istore (L' := [(6, .int 0), (5, .int 0), (3, .long ((v1 : Int32).toInt64)), (0, .ref v0), (1, .int v1), (2, .int v2)]) dX9_days_38 (Nat.le_of_ble_eq_true rfl) rfl ?_
      refine j_pick [3, 5, 2, 1, 0] rfl ?_
      refine j_loop (pc := 40) (Lf := fun s40 : Int64 × Int32 × Int32 × Hp => [(0, .ref v0), (2, .int v2), (3, .long s40.1), (5, .int s40.2.1), (6, .int s40.2.2.1)]) (Hf := fun s40 : Int64 × Int32 × Int32 × Hp => s40.2.2.2) (fun s40 => ?_) 1000000 ((v1 : Int32).toInt64, 0, 0, h)
      show xJ iX9_days κ _ 40 [(0, .ref v0), (2, .int v2), (3, .long s40.1), (5, .int s40.2.1), (6, .int s40.2.2.1)] [] s40.2.2.2 (fX9_days_b40 v0 v2 s40)
      unfold fX9_days_b40
      refine j_iload 4 dX9_days_40 rfl ?_
      refine j_iload_n 1 dX9_days_42 rfl rfl ?_
      refine j_icmp_ge (tgt := 134) dX9_days_43 (by decide) (fun c6 => ?_) (fun c6 => ?_)
      · refine j_exit (s40.2.1, s40.2.2.2) ?_
        show xJ iX9_days κ _ _ _ _ _ (some (s40.2.1, s40.2.2.2))
        refine j_iload 3 dX9_days_134 rfl ?_
        exact j_iret (s40.2.1, s40.2.2.2) dX9_days_136 rfl (fun q => q)
      · refine j_aload_n 0 dX9_days_46 rfl rfl ?_
        refine j_callV (as := []) (fun _ => none) (fun x => x) 9 18 dX9_days_47 ml_RX9_141 tg_X9_layStart im_X9_layStart se_X9_layStart rfl (by decide) (fun x hx => kX9_layStart κ.1 κ.2.1 v0 s40.2.2.2 x hx) (by decide) (by decide) rfl rfl (Nat.le_of_ble_eq_true rfl) (fun h7 => ?_)
        show xJ iX9_days κ _ 50 [(0, .ref v0), (2, .int v2), (3, .long s40.1), (5, .int s40.2.1), (6, .int s40.2.2.1)] [] h7 _
        refine j_iconst (x := 0) dX9_days_50 (by decide) ?_
        refine j_istore (L' := [(7, .int 0), (0, .ref v0), (2, .int v2), (3, .long s40.1), (5, .int s40.2.1), (6, .int s40.2.2.1)]) dX9_days_51 (Nat.le_of_ble_eq_true rfl) rfl ?_
        refine j_pick [1, 2, 3, 4, 5, 0] rfl ?_
        refine j_loop (pc := 53) (Lf := fun s53 : Int64 × Int32 × Hp => [(0, .ref v0), (2, .int v2), (3, .long s53.1), (5, .int s40.2.1), (6, .int s40.2.2.1), (7, .int s53.2.1)]) (Hf := fun s53 : Int64 × Int32 × Hp => s53.2.2) (fun s53 => ?_) 1000000 (s40.1, 0, h7)
        show xJ iX9_days κ _ 53 [(0, .ref v0), (2, .int v2), (3, .long s53.1), (5, .int s40.2.1), (6, .int s40.2.2.1), (7, .int s53.2.1)] [] s53.2.2 (fX9_days_b53 v0 v2 s40.2.1 s40.2.2.1 s53)
        unfold fX9_days_b53
        refine j_iload 5 dX9_days_53 rfl ?_
        refine j_aload_n 0 dX9_days_55 rfl rfl ?_
        refine j_callV (as := []) (fun x => some (.int x)) (fun _ => s53.2.2) 9 18 dX9_days_56 ml_RX9_52 tg_X9_many im_X9_many se_X9_many rfl (by decide) (fun x hx => kX9_many κ.1 κ.2.1 v0 s53.2.2 x hx) (by decide) (by decide) rfl rfl (Nat.le_of_ble_eq_true rfl) (fun x8 => ?_)
        show xJ iX9_days κ _ 59 [(0, .ref v0), (2, .int v2), (3, .long s53.1), (5, .int s40.2.1), (6, .int s40.2.2.1), (7, .int s53.2.1)] [.int x8, .int s53.2.1] s53.2.2 _
        refine j_icmp_ge (tgt := 110) dX9_days_59 (by decide) (fun c9 => ?_) (fun c9 => ?_)
        · refine j_exit (v0, v2, s53.1, s40.2.1, s40.2.2.1, s53.2.2) ?_
          show xJ iX9_days κ _ _ _ _ _ ((xat s53.2.2 v0 (9, 18) (fX9_goTill v0 10 s53.2.2)).bind fun h10 => (xgR h10 v0 (9, 18) 6).bind fun x11 => (xaI h10 x11 10 7).bind fun x12 => some (Sum.inl (s53.1, s40.2.1 + x12, s40.2.2.1 + 1, h10)))
          refine j_aload_n 0 dX9_days_110 rfl rfl ?_
          refine j_bipush (x := 10) dX9_days_111 (by decide) ?_
          refine j_callV (as := [.int 10]) (fun _ => none) (fun x => x) 9 18 dX9_days_113 ml_RX9_125 tg_X9_goTill im_X9_goTill se_X9_goTill rfl (by decide) (fun x hx => kX9_goTill κ.1 κ.2.1 v0 10 s53.2.2 x hx) (by decide) (by decide) rfl rfl (Nat.le_of_ble_eq_true rfl) (fun h10 => ?_)
          show xJ iX9_days κ _ 116 [(0, .ref v0), (2, .int v2), (3, .long s53.1), (5, .int s40.2.1), (6, .int s40.2.2.1), (7, .int s53.2.1)] [] h10 _
          refine j_iload 3 dX9_days_116 rfl ?_
          refine j_aload_n 0 dX9_days_118 rfl rfl ?_
          refine j_getR 9 18 6 dX9_days_119 fl_RX9_27 (by decide) rfl (by decide) (fun _ _ _ => rfl) (fun x11 => ?_)
          refine j_bipush (x := 7) dX9_days_122 (by decide) ?_
          refine j_iald dX9_days_124 (fun x12 => ?_)
          refine j_iadd dX9_days_125 ?_
          refine j_istore (L' := [(5, .int (s40.2.1 + x12)), (0, .ref v0), (2, .int v2), (3, .long s53.1), (6, .int s40.2.2.1), (7, .int s53.2.1)]) dX9_days_126 (Nat.le_of_ble_eq_true rfl) rfl ?_
          refine j_iinc (y := s40.2.2.1 + 1) (L' := [(6, .int (s40.2.2.1 + 1)), (5, .int (s40.2.1 + x12)), (0, .ref v0), (2, .int v2), (3, .long s53.1), (7, .int s53.2.1)]) 4 dX9_days_128 rfl rfl (Nat.le_of_ble_eq_true rfl) rfl ?_
          refine j_goto (tgt := 40) dX9_days_131 (by decide) ?_
          refine j_pick [2, 3, 4, 1, 0] rfl ?_
          exact j_again (s53.1, s40.2.1 + x12, s40.2.2.1 + 1, h10) rfl rfl
        · refine j_lload_n 2 dX9_days_62 rfl rfl ?_
          refine j_ldc2 dX9_days_63 cL_RX9_181 ?_
          refine j_lmul dX9_days_66 ?_
          refine j_ldc2 dX9_days_67 cL_RX9_183 ?_
          refine j_ladd dX9_days_70 ?_
          refine j_ldc2 dX9_days_71 cL_RX9_185 ?_
          refine j_lrem dX9_days_74 (fun c13 => ?_)
          refine j_lstore_n (L' := [(3, .long (((s53.1 * 1103515245) + 12345) - ((s53.1 * 1103515245) + 12345) / 2147483648 * 2147483648)), (0, .ref v0), (2, .int v2), (5, .int s40.2.1), (6, .int s40.2.2.1), (7, .int s53.2.1)]) dX9_days_75 rfl (Nat.le_of_ble_eq_true rfl) rfl ?_
          refine j_aload_n 1 dX9_days_76 rfl rfl ?_
          refine j_getR 9 18 6 dX9_days_77 fl_RX9_27 (by decide) rfl (by decide) (fun _ _ _ => rfl) (fun x14 => ?_)
          refine j_bipush (x := 33) dX9_days_80 (by decide) ?_
          refine j_iload 5 dX9_days_82 rfl ?_
          refine j_iadd dX9_days_84 ?_
          refine j_lload_n 0 dX9_days_85 rfl rfl ?_
          refine j_ldc2 dX9_days_86 cL_RX9_187 ?_
          refine j_ldiv dX9_days_89 (fun c15 => ?_)
          refine j_aload_n 1 dX9_days_90 rfl rfl ?_
          refine j_getR 9 18 6 dX9_days_91 fl_RX9_27 (by decide) rfl (by decide) (fun _ _ _ => rfl) (fun x16 => ?_)
          refine j_bipush (x := 40) dX9_days_94 (by decide) ?_
          refine j_iload 5 dX9_days_96 rfl ?_
          refine j_iadd dX9_days_98 ?_
          refine j_iald dX9_days_99 (fun x17 => ?_)
          refine j_i2l dX9_days_100 ?_
          refine j_lrem dX9_days_101 (fun c18 => ?_)
          refine j_l2i dX9_days_102 ?_
          refine j_iast dX9_days_103 (fun h19 => ?_)
          refine j_iinc (y := s53.2.1 + 1) (L' := [(7, .int (s53.2.1 + 1)), (3, .long (((s53.1 * 1103515245) + 12345) - ((s53.1 * 1103515245) + 12345) / 2147483648 * 2147483648)), (0, .ref v0), (2, .int v2), (5, .int s40.2.1), (6, .int s40.2.2.1)]) 5 dX9_days_104 rfl rfl (Nat.le_of_ble_eq_true rfl) rfl ?_
          refine j_goto (tgt := 53) dX9_days_107 (by decide) ?_
          refine j_pick [2, 3, 1, 4, 5, 0] rfl ?_
          exact j_again (((s53.1 * 1103515245) + 12345) - ((s53.1 * 1103515245) + 12345) / 2147483648 * 2147483648, s53.2.1 + 1, h19) rfl rfl
def fX8_part (v0 : Nat) (v1 : Int32) (h : Hp) : Option (Int64 × Hp) :=
  if (v1 : Int32) = 0 then ((xgR h v0 (8, 12) 7).bind fun x2 => (xgL h x2 (2, 2) 0).bind fun x3 => some (x3, h)) else if (v1 : Int32) = 1 then ((xgR h v0 (8, 12) 7).bind fun x5 => (xgL h x5 (2, 2) 1).bind fun x6 => some (x6, h)) else ((xat h v0 (8, 12) (fX8_refuseBad v0 h)).bind fun q7 => some ((q7.1 : Int32).toInt64, q7.2))
abbrev iX8_part : xI := (cX8_part, yX8_part.cls, yX8_part.name, some .long, 2, 3)
set_option maxHeartbeats 4000000 in
set_option maxRecDepth 100000 in
theorem kX8_part (l : Launch) (η : xEnv) (v0 : Nat) (v1 : Int32) (h : Hp) (x : Int64 × Hp) (hx : fX8_part v0 v1 h = some x) : xC l η yX8_part cX8_part 2 (some .long) 3 [.ref v0, .int v1] h (some (.long x.1)) x.2 := by
  refine xC_of (by decide) (Nat.le_of_ble_eq_true rfl) hx (fun κ x => κ.2.2.2.1 = some (.long x.1) ∧ κ.2.2.2.2 = x.2) ⟨rfl, rfl⟩ (fun κ => ?_)
  show xJ iX8_part κ _ 0 [(0, .ref v0), (1, .int v1)] [] h (fX8_part v0 v1 h)
  unfold fX8_part
  refine j_iload_n 1 dX8_part_0 rfl rfl ?_
  refine j_lokv (w := 0) (off := 27) (tgt := 28) dX8_part_1 (by decide) (by decide) (by decide) (fun c1 => ?_) (fun c1 => ?_)
  · refine j_aload_n 0 dX8_part_28 rfl rfl ?_
    refine j_getR 8 12 7 dX8_part_29 fl_RX8_55 (by decide) rfl (by decide) (fun _ _ _ => rfl) (fun x2 => ?_)
    refine j_getL 2 2 0 dX8_part_32 fl_RX8_278 (by decide) rfl (by decide) rfl (fun x3 => ?_)
    exact j_lret (x3, h) dX8_part_35 rfl (fun q => q)
  refine j_lokv (w := 1) (off := 35) (tgt := 36) dX8_part_1 (by decide) (by decide) (by decide) (fun c4 => ?_) (fun c4 => ?_)
  · refine j_aload_n 0 dX8_part_36 rfl rfl ?_
    refine j_getR 8 12 7 dX8_part_37 fl_RX8_55 (by decide) rfl (by decide) (fun _ _ _ => rfl) (fun x5 => ?_)
    refine j_getL 2 2 1 dX8_part_40 fl_RX8_282 (by decide) rfl (by decide) rfl (fun x6 => ?_)
    exact j_lret (x6, h) dX8_part_43 rfl (fun q => q)
  refine j_lokd (tgt := 44) dX8_part_1 (by decide) (by have ec1 : ¬ (0 : Int) = (v1 : Int32).toInt := fun q => c1 (Int32.toInt_inj.mp (q.symm.trans (by decide))); have ec4 : ¬ (1 : Int) = (v1 : Int32).toInt := fun q => c4 (Int32.toInt_inj.mp (q.symm.trans (by decide))); show Op.lookupswitch.offset [(0, 27), (1, 35)] 43 (v1 : Int32).toInt = 43; simp only [Op.lookupswitch.offset, if_neg ec1, if_neg ec4]) (by decide) ?_
  refine j_aload_n 0 dX8_part_44 rfl rfl ?_
  refine j_callV (as := []) (fun x => some (.int x.1)) (fun x => x.2) 8 12 dX8_part_45 ml_RX8_70 tg_X8_refuseBad im_X8_refuseBad se_X8_refuseBad rfl (by decide) (fun x hx => kX8_refuseBad κ.1 κ.2.1 v0 h x hx) (by decide) (by decide) rfl rfl (Nat.le_of_ble_eq_true rfl) (fun q7 => ?_)
  show xJ iX8_part κ _ 48 [(0, .ref v0), (1, .int v1)] [.int q7.1] q7.2 _
  refine j_i2l dX8_part_48 ?_
  exact j_lret ((q7.1 : Int32).toInt64, q7.2) dX8_part_49 rfl (fun q => q)
def fX9_part_j30 (t0 : Int64) (h : Hp) : Option (Int64 × Hp) :=
  some (t0, h)
def fX9_part (v0 : Nat) (v1 : Int32) (h : Hp) : Option (Int64 × Hp) :=
  if (v1 : Int32) = 0 then ((xgL h v0 (9, 18) 4).bind fun x2 => fX9_part_j30 x2 h) else (if (v1 : Int32) = 1 then ((xgL h v0 (9, 18) 5).bind fun x4 => fX9_part_j30 x4 h) else ((xat h v0 (9, 18) (fX9_bad v0 (-2) h)).bind fun q5 => fX9_part_j30 ((q5.1 : Int32).toInt64) q5.2))
abbrev iX9_part : xI := (cX9_part, yX9_part.cls, yX9_part.name, some .long, 2, 3)
set_option maxHeartbeats 4000000 in
set_option maxRecDepth 100000 in
theorem kX9_part (l : Launch) (η : xEnv) (v0 : Nat) (v1 : Int32) (h : Hp) (x : Int64 × Hp) (hx : fX9_part v0 v1 h = some x) : xC l η yX9_part cX9_part 2 (some .long) 3 [.ref v0, .int v1] h (some (.long x.1)) x.2 := by
  refine xC_of (by decide) (Nat.le_of_ble_eq_true rfl) hx (fun κ x => κ.2.2.2.1 = some (.long x.1) ∧ κ.2.2.2.2 = x.2) ⟨rfl, rfl⟩ (fun κ => ?_)
  show xJ iX9_part κ _ 0 [(0, .ref v0), (1, .int v1)] [] h (fX9_part v0 v1 h)
  unfold fX9_part
  refine j_have (pj := 30) (Lf := fun v : Int64 × Hp => []) (Sf := fun v : Int64 × Hp => [.long v.1]) (Hf := fun v : Int64 × Hp => v.2) (jf := fun v : Int64 × Hp => fX9_part_j30 v.1 v.2) (fun v => ?_) (fun hj30 => ?_)
  · obtain ⟨t0, h⟩ := v
    show xJ iX9_part κ _ 30 [] [.long t0] h (fX9_part_j30 t0 h)
    unfold fX9_part_j30
    exact j_lret (t0, h) dX9_part_30 rfl (fun q => q)
  refine j_iload_n 1 dX9_part_0 rfl rfl ?_
  refine j_if_ne (tgt := 11) dX9_part_1 (by decide) (fun c1 => ?_) (fun c1 => ?_)
  · refine j_aload_n 0 dX9_part_4 rfl rfl ?_
    refine j_getL 9 18 4 dX9_part_5 fl_RX9_159 (by decide) rfl (by decide) rfl (fun x2 => ?_)
    refine j_goto (tgt := 30) dX9_part_8 (by decide) ?_
    refine j_pick [] rfl ?_
    exact hj30 (x2, h)
  · refine j_iload_n 1 dX9_part_11 rfl rfl ?_
    refine j_iconst (x := 1) dX9_part_12 (by decide) ?_
    refine j_icmp_ne (tgt := 23) dX9_part_13 (by decide) (fun c3 => ?_) (fun c3 => ?_)
    · refine j_aload_n 0 dX9_part_16 rfl rfl ?_
      refine j_getL 9 18 5 dX9_part_17 fl_RX9_23 (by decide) rfl (by decide) rfl (fun x4 => ?_)
      refine j_goto (tgt := 30) dX9_part_20 (by decide) ?_
      refine j_pick [] rfl ?_
      exact hj30 (x4, h)
    · refine j_aload_n 0 dX9_part_23 rfl rfl ?_
      refine j_bipush (x := (-2)) dX9_part_24 (by decide) ?_
      refine j_callV (as := [.int (-2)]) (fun x => some (.int x.1)) (fun x => x.2) 9 18 dX9_part_26 ml_RX9_64 tg_X9_bad im_X9_bad se_X9_bad rfl (by decide) (fun x hx => kX9_bad κ.1 κ.2.1 v0 (-2) h x hx) (by decide) (by decide) rfl rfl (Nat.le_of_ble_eq_true rfl) (fun q5 => ?_)
      show xJ iX9_part κ _ 29 [(0, .ref v0), (1, .int v1)] [.int q5.1] q5.2 _
      refine j_i2l dX9_part_29 ?_
      refine j_pick [] rfl ?_
      exact hj30 ((q5.1 : Int32).toInt64, q5.2)
def fX8_image (v0 : Nat) (v1 : Int32) (h : Hp) : Option (Int32 × Hp) :=
  (fX8_within v1 0 1 h).bind fun x1 => if (x1 : Int32) = 0 then ((xat h v0 (8, 12) (fX8_refuseBad v0 h)).bind fun q3 => some (q3.1, q3.2)) else ((xgR h v0 (8, 12) 1).bind fun x4 => (xaR h x4 12 v1).bind fun x5 => (xgR h v0 (8, 12) 0).bind fun x6 => (xat h x5 (0, 16) (fX0_take x5 x6 h)).bind fun h7 => (xgR h7 v0 (8, 12) 2).bind fun x8 => (xsZ h7 x8 v1 1).bind fun h9 => some (1, h9))
abbrev iX8_image : xI := (cX8_image, yX8_image.cls, yX8_image.name, some .int, 2, 4)
set_option maxHeartbeats 4000000 in
set_option maxRecDepth 100000 in
theorem kX8_image (l : Launch) (η : xEnv) (v0 : Nat) (v1 : Int32) (h : Hp) (x : Int32 × Hp) (hx : fX8_image v0 v1 h = some x) : xC l η yX8_image cX8_image 2 (some .int) 4 [.ref v0, .int v1] h (some (.int x.1)) x.2 := by
  refine xC_of (by decide) (Nat.le_of_ble_eq_true rfl) hx (fun κ x => κ.2.2.2.1 = some (.int x.1) ∧ κ.2.2.2.2 = x.2) ⟨rfl, rfl⟩ (fun κ => ?_)
  show xJ iX8_image κ _ 0 [(0, .ref v0), (1, .int v1)] [] h (fX8_image v0 v1 h)
  unfold fX8_image
  refine j_iload_n 1 dX8_image_0 rfl rfl ?_
  refine j_iconst (x := 0) dX8_image_1 (by decide) ?_
  refine j_iconst (x := 1) dX8_image_2 (by decide) ?_
  refine j_callS (as := [.int v1, .int 0, .int 1]) (fun x => some (.int x)) (fun _ => h) dX8_image_3 ml_RX8_66 tg_X8_within st_X8_within (fun x hx => kX8_within κ.1 κ.2.1 v1 0 1 h x hx) (by decide) (by decide) rfl rfl (Nat.le_of_ble_eq_true rfl) (fun x1 => ?_)
  show xJ iX8_image κ _ 6 [(0, .ref v0), (1, .int v1)] [.int x1] h _
  refine j_if_ne (tgt := 14) dX8_image_6 (by decide) (fun c2 => ?_) (fun c2 => ?_)
  · refine j_aload_n 0 dX8_image_9 rfl rfl ?_
    refine j_callV (as := []) (fun x => some (.int x.1)) (fun x => x.2) 8 12 dX8_image_10 ml_RX8_70 tg_X8_refuseBad im_X8_refuseBad se_X8_refuseBad rfl (by decide) (fun x hx => kX8_refuseBad κ.1 κ.2.1 v0 h x hx) (by decide) (by decide) rfl rfl (Nat.le_of_ble_eq_true rfl) (fun q3 => ?_)
    show xJ iX8_image κ _ 13 [(0, .ref v0), (1, .int v1)] [.int q3.1] q3.2 _
    exact j_iret (q3.1, q3.2) dX8_image_13 rfl (fun q => q)
  · refine j_aload_n 0 dX8_image_14 rfl rfl ?_
    refine j_getR 8 12 1 dX8_image_15 fl_RX8_16 (by decide) rfl (by decide) (fun _ _ _ => rfl) (fun x4 => ?_)
    refine j_iload_n 1 dX8_image_18 rfl rfl ?_
    refine j_aald12 dX8_image_19 (fun x5 => ?_)
    refine j_aload_n 0 dX8_image_20 rfl rfl ?_
    refine j_getR 8 12 0 dX8_image_21 fl_RX8_12 (by decide) rfl (by decide) (fun _ _ _ => rfl) (fun x6 => ?_)
    refine j_callV (as := [.ref x6]) (fun _ => none) (fun x => x) 0 16 dX8_image_24 ml_RX8_130 tg_X0_take im_X0_take se_X0_take rfl (by decide) (fun x hx => kX0_take κ.1 κ.2.1 x5 x6 h x hx) (by decide) (by decide) rfl rfl (Nat.le_of_ble_eq_true rfl) (fun h7 => ?_)
    show xJ iX8_image κ _ 27 [(0, .ref v0), (1, .int v1)] [] h7 _
    refine j_aload_n 0 dX8_image_27 rfl rfl ?_
    refine j_getR 8 12 2 dX8_image_28 fl_RX8_20 (by decide) rfl (by decide) (fun _ _ _ => rfl) (fun x8 => ?_)
    refine j_iload_n 1 dX8_image_31 rfl rfl ?_
    refine j_iconst (x := 1) dX8_image_32 (by decide) ?_
    refine j_zast dX8_image_33 (fun h9 => ?_)
    refine j_iconst (x := 1) dX8_image_34 (by decide) ?_
    exact j_iret (1, h9) dX8_image_35 rfl (fun q => q)
def fX9_image_b19 (v0 : Nat) (v1 : Int32) (s19 : Int32 × Hp) : Option ((Int32 × Hp) ⊕ ((Nat × Int32 × Hp))) :=
  if (118 : Int32) ≤ s19.1 then (some (Sum.inr (v0, v1, s19.2))) else ((xgR s19.2 v0 (9, 18) 1).bind fun x7 => (xgR s19.2 v0 (9, 18) 0).bind fun x8 => (xaI s19.2 x8 10 s19.1).bind fun x9 => (xsI s19.2 x7 ((118 * v1) + s19.1) x9).bind fun h10 => some (Sum.inl (s19.1 + 1, h10)))
def fX9_image (v0 : Nat) (v1 : Int32) (h : Hp) : Option (Int32 × Hp) :=
  (fX9_in ((v1 : Int32).toInt64) 0 1 h).bind fun x1 => if (x1 : Int32) = 0 then ((xat h v0 (9, 18) (fX9_bad v0 (-2) h)).bind fun q3 => some (q3.1, q3.2)) else ((xloop (fX9_image_b19 v0 v1) 1000000 (0, h)).bind (fun r19 => (xgR r19.2.2 r19.1 (9, 18) 2).bind fun x11 => (xsZ r19.2.2 x11 r19.2.1 1).bind fun h12 => some (1, h12)))
abbrev iX9_image : xI := (cX9_image, yX9_image.cls, yX9_image.name, some .int, 3, 3)
set_option maxHeartbeats 4000000 in
set_option maxRecDepth 100000 in
theorem kX9_image (l : Launch) (η : xEnv) (v0 : Nat) (v1 : Int32) (h : Hp) (x : Int32 × Hp) (hx : fX9_image v0 v1 h = some x) : xC l η yX9_image cX9_image 3 (some .int) 3 [.ref v0, .int v1] h (some (.int x.1)) x.2 := by
  refine xC_of (by decide) (Nat.le_of_ble_eq_true rfl) hx (fun κ x => κ.2.2.2.1 = some (.int x.1) ∧ κ.2.2.2.2 = x.2) ⟨rfl, rfl⟩ (fun κ => ?_)
  show xJ iX9_image κ _ 0 [(0, .ref v0), (1, .int v1)] [] h (fX9_image v0 v1 h)
  unfold fX9_image
  refine j_iload_n 1 dX9_image_0 rfl rfl ?_
  refine j_i2l dX9_image_1 ?_
  refine j_lconst (x := 0) dX9_image_2 (by decide) ?_
  refine j_lconst (x := 1) dX9_image_3 (by decide) ?_
  refine j_callS (as := [.long ((v1 : Int32).toInt64), .long 0, .long 1]) (fun x => some (.int x)) (fun _ => h) dX9_image_4 ml_RX9_56 tg_X9_in st_X9_in (fun x hx => kX9_in κ.1 κ.2.1 ((v1 : Int32).toInt64) 0 1 h x hx) (by decide) (by decide) rfl rfl (Nat.le_of_ble_eq_true rfl) (fun x1 => ?_)
  show xJ iX9_image κ _ 7 [(0, .ref v0), (1, .int v1)] [.int x1] h _
  refine j_if_ne (tgt := 17) dX9_image_7 (by decide) (fun c2 => ?_) (fun c2 => ?_)
  · refine j_aload_n 0 dX9_image_10 rfl rfl ?_
    refine j_bipush (x := (-2)) dX9_image_11 (by decide) ?_
    refine j_callV (as := [.int (-2)]) (fun x => some (.int x.1)) (fun x => x.2) 9 18 dX9_image_13 ml_RX9_64 tg_X9_bad im_X9_bad se_X9_bad rfl (by decide) (fun x hx => kX9_bad κ.1 κ.2.1 v0 (-2) h x hx) (by decide) (by decide) rfl rfl (Nat.le_of_ble_eq_true rfl) (fun q3 => ?_)
    show xJ iX9_image κ _ 16 [(0, .ref v0), (1, .int v1)] [.int q3.1] q3.2 _
    exact j_iret (q3.1, q3.2) dX9_image_16 rfl (fun q => q)
  · refine j_iconst (x := 0) dX9_image_17 (by decide) ?_
    refine j_istore_n (L' := [(2, .int 0), (0, .ref v0), (1, .int v1)]) dX9_image_18 rfl (Nat.le_of_ble_eq_true rfl) rfl ?_
    refine j_pick [1, 2, 0] rfl ?_
    refine j_loop (pc := 19) (Lf := fun s19 : Int32 × Hp => [(0, .ref v0), (1, .int v1), (2, .int s19.1)]) (Hf := fun s19 : Int32 × Hp => s19.2) (fun s19 => ?_) 1000000 (0, h)
    show xJ iX9_image κ _ 19 [(0, .ref v0), (1, .int v1), (2, .int s19.1)] [] s19.2 (fX9_image_b19 v0 v1 s19)
    unfold fX9_image_b19
    refine j_iload_n 2 dX9_image_19 rfl rfl ?_
    refine j_bipush (x := 118) dX9_image_20 (by decide) ?_
    refine j_icmp_ge (tgt := 48) dX9_image_22 (by decide) (fun c4 => ?_) (fun c4 => ?_)
    · refine j_exit (v0, v1, s19.2) ?_
      show xJ iX9_image κ _ _ _ _ _ ((xgR s19.2 v0 (9, 18) 2).bind fun x5 => (xsZ s19.2 x5 v1 1).bind fun h6 => some (1, h6))
      refine j_aload_n 0 dX9_image_48 rfl rfl ?_
      refine j_getR 9 18 2 dX9_image_49 fl_RX9_16 (by decide) rfl (by decide) (fun _ _ _ => rfl) (fun x5 => ?_)
      refine j_iload_n 1 dX9_image_52 rfl rfl ?_
      refine j_iconst (x := 1) dX9_image_53 (by decide) ?_
      refine j_zast dX9_image_54 (fun h6 => ?_)
      refine j_iconst (x := 1) dX9_image_55 (by decide) ?_
      exact j_iret (1, h6) dX9_image_56 rfl (fun q => q)
    · refine j_aload_n 0 dX9_image_25 rfl rfl ?_
      refine j_getR 9 18 1 dX9_image_26 fl_RX9_13 (by decide) rfl (by decide) (fun _ _ _ => rfl) (fun x7 => ?_)
      refine j_bipush (x := 118) dX9_image_29 (by decide) ?_
      refine j_iload_n 1 dX9_image_31 rfl rfl ?_
      refine j_imul dX9_image_32 ?_
      refine j_iload_n 2 dX9_image_33 rfl rfl ?_
      refine j_iadd dX9_image_34 ?_
      refine j_aload_n 0 dX9_image_35 rfl rfl ?_
      refine j_getR 9 18 0 dX9_image_36 fl_RX9_7 (by decide) rfl (by decide) (fun _ _ _ => rfl) (fun x8 => ?_)
      refine j_iload_n 2 dX9_image_39 rfl rfl ?_
      refine j_iald dX9_image_40 (fun x9 => ?_)
      refine j_iast dX9_image_41 (fun h10 => ?_)
      refine j_iinc (y := s19.1 + 1) (L' := [(2, .int (s19.1 + 1)), (0, .ref v0), (1, .int v1)]) 2 dX9_image_42 rfl rfl (Nat.le_of_ble_eq_true rfl) rfl ?_
      refine j_goto (tgt := 19) dX9_image_45 (by decide) ?_
      refine j_pick [1, 2, 0] rfl ?_
      exact j_again (s19.1 + 1, h10) rfl rfl
def fX8_from (v0 : Nat) (v1 : Int32) (h : Hp) : Option (Int32 × Hp) :=
  (fX8_within v1 0 1 h).bind fun x1 => if (x1 : Int32) = 0 then ((xat h v0 (8, 12) (fX8_refuseBad v0 h)).bind fun q3 => some (q3.1, q3.2)) else ((xgR h v0 (8, 12) 2).bind fun x4 => (xaI h x4 11 v1).bind fun x5 => if (x5 : Int32) = 0 then ((xat h v0 (8, 12) (fX8_refuseNo v0 h)).bind fun q7 => some (q7.1, q7.2)) else ((xgR h v0 (8, 12) 0).bind fun x8 => (xgR h v0 (8, 12) 1).bind fun x9 => (xaR h x9 12 v1).bind fun x10 => (xat h x8 (0, 16) (fX0_take x8 x10 h)).bind fun h11 => some (1, h11)))
abbrev iX8_from : xI := (cX8_from, yX8_from.cls, yX8_from.name, some .int, 2, 4)
set_option maxHeartbeats 4000000 in
set_option maxRecDepth 100000 in
theorem kX8_from (l : Launch) (η : xEnv) (v0 : Nat) (v1 : Int32) (h : Hp) (x : Int32 × Hp) (hx : fX8_from v0 v1 h = some x) : xC l η yX8_from cX8_from 2 (some .int) 4 [.ref v0, .int v1] h (some (.int x.1)) x.2 := by
  refine xC_of (by decide) (Nat.le_of_ble_eq_true rfl) hx (fun κ x => κ.2.2.2.1 = some (.int x.1) ∧ κ.2.2.2.2 = x.2) ⟨rfl, rfl⟩ (fun κ => ?_)
  show xJ iX8_from κ _ 0 [(0, .ref v0), (1, .int v1)] [] h (fX8_from v0 v1 h)
  unfold fX8_from
  refine j_iload_n 1 dX8_from_0 rfl rfl ?_
  refine j_iconst (x := 0) dX8_from_1 (by decide) ?_
  refine j_iconst (x := 1) dX8_from_2 (by decide) ?_
  refine j_callS (as := [.int v1, .int 0, .int 1]) (fun x => some (.int x)) (fun _ => h) dX8_from_3 ml_RX8_66 tg_X8_within st_X8_within (fun x hx => kX8_within κ.1 κ.2.1 v1 0 1 h x hx) (by decide) (by decide) rfl rfl (Nat.le_of_ble_eq_true rfl) (fun x1 => ?_)
  show xJ iX8_from κ _ 6 [(0, .ref v0), (1, .int v1)] [.int x1] h _
  refine j_if_ne (tgt := 14) dX8_from_6 (by decide) (fun c2 => ?_) (fun c2 => ?_)
  · refine j_aload_n 0 dX8_from_9 rfl rfl ?_
    refine j_callV (as := []) (fun x => some (.int x.1)) (fun x => x.2) 8 12 dX8_from_10 ml_RX8_70 tg_X8_refuseBad im_X8_refuseBad se_X8_refuseBad rfl (by decide) (fun x hx => kX8_refuseBad κ.1 κ.2.1 v0 h x hx) (by decide) (by decide) rfl rfl (Nat.le_of_ble_eq_true rfl) (fun q3 => ?_)
    show xJ iX8_from κ _ 13 [(0, .ref v0), (1, .int v1)] [.int q3.1] q3.2 _
    exact j_iret (q3.1, q3.2) dX8_from_13 rfl (fun q => q)
  · refine j_aload_n 0 dX8_from_14 rfl rfl ?_
    refine j_getR 8 12 2 dX8_from_15 fl_RX8_20 (by decide) rfl (by decide) (fun _ _ _ => rfl) (fun x4 => ?_)
    refine j_iload_n 1 dX8_from_18 rfl rfl ?_
    refine j_zald dX8_from_19 (fun x5 => ?_)
    refine j_if_ne (tgt := 28) dX8_from_20 (by decide) (fun c6 => ?_) (fun c6 => ?_)
    · refine j_aload_n 0 dX8_from_23 rfl rfl ?_
      refine j_callV (as := []) (fun x => some (.int x.1)) (fun x => x.2) 8 12 dX8_from_24 ml_RX8_146 tg_X8_refuseNo im_X8_refuseNo se_X8_refuseNo rfl (by decide) (fun x hx => kX8_refuseNo κ.1 κ.2.1 v0 h x hx) (by decide) (by decide) rfl rfl (Nat.le_of_ble_eq_true rfl) (fun q7 => ?_)
      show xJ iX8_from κ _ 27 [(0, .ref v0), (1, .int v1)] [.int q7.1] q7.2 _
      exact j_iret (q7.1, q7.2) dX8_from_27 rfl (fun q => q)
    · refine j_aload_n 0 dX8_from_28 rfl rfl ?_
      refine j_getR 8 12 0 dX8_from_29 fl_RX8_12 (by decide) rfl (by decide) (fun _ _ _ => rfl) (fun x8 => ?_)
      refine j_aload_n 0 dX8_from_32 rfl rfl ?_
      refine j_getR 8 12 1 dX8_from_33 fl_RX8_16 (by decide) rfl (by decide) (fun _ _ _ => rfl) (fun x9 => ?_)
      refine j_iload_n 1 dX8_from_36 rfl rfl ?_
      refine j_aald12 dX8_from_37 (fun x10 => ?_)
      refine j_callV (as := [.ref x10]) (fun _ => none) (fun x => x) 0 16 dX8_from_38 ml_RX8_130 tg_X0_take im_X0_take se_X0_take rfl (by decide) (fun x hx => kX0_take κ.1 κ.2.1 x8 x10 h x hx) (by decide) (by decide) rfl rfl (Nat.le_of_ble_eq_true rfl) (fun h11 => ?_)
      show xJ iX8_from κ _ 41 [(0, .ref v0), (1, .int v1)] [] h11 _
      refine j_iconst (x := 1) dX8_from_41 (by decide) ?_
      exact j_iret (1, h11) dX8_from_42 rfl (fun q => q)
def fX9_from_b33 (v0 : Nat) (v1 : Int32) (s33 : Int32 × Hp) : Option ((Int32 × Hp) ⊕ ((Hp))) :=
  if (118 : Int32) ≤ s33.1 then (some (Sum.inr s33.2)) else ((xgR s33.2 v0 (9, 18) 0).bind fun x9 => (xgR s33.2 v0 (9, 18) 1).bind fun x10 => (xaI s33.2 x10 10 ((118 * v1) + s33.1)).bind fun x11 => (xsI s33.2 x9 s33.1 x11).bind fun h12 => some (Sum.inl (s33.1 + 1, h12)))
def fX9_from (v0 : Nat) (v1 : Int32) (h : Hp) : Option (Int32 × Hp) :=
  (fX9_in ((v1 : Int32).toInt64) 0 1 h).bind fun x1 => if (x1 : Int32) = 0 then ((xat h v0 (9, 18) (fX9_bad v0 (-2) h)).bind fun q3 => some (q3.1, q3.2)) else ((xgR h v0 (9, 18) 2).bind fun x4 => (xaI h x4 11 v1).bind fun x5 => if (x5 : Int32) = 0 then ((xat h v0 (9, 18) (fX9_no v0 h)).bind fun q7 => some (q7.1, q7.2)) else ((xloop (fX9_from_b33 v0 v1) 1000000 (0, h)).bind (fun r33 => some (1, r33))))
abbrev iX9_from : xI := (cX9_from, yX9_from.cls, yX9_from.name, some .int, 3, 3)
set_option maxHeartbeats 4000000 in
set_option maxRecDepth 100000 in
theorem kX9_from (l : Launch) (η : xEnv) (v0 : Nat) (v1 : Int32) (h : Hp) (x : Int32 × Hp) (hx : fX9_from v0 v1 h = some x) : xC l η yX9_from cX9_from 3 (some .int) 3 [.ref v0, .int v1] h (some (.int x.1)) x.2 := by
  refine xC_of (by decide) (Nat.le_of_ble_eq_true rfl) hx (fun κ x => κ.2.2.2.1 = some (.int x.1) ∧ κ.2.2.2.2 = x.2) ⟨rfl, rfl⟩ (fun κ => ?_)
  show xJ iX9_from κ _ 0 [(0, .ref v0), (1, .int v1)] [] h (fX9_from v0 v1 h)
  unfold fX9_from
  refine j_iload_n 1 dX9_from_0 rfl rfl ?_
  refine j_i2l dX9_from_1 ?_
  refine j_lconst (x := 0) dX9_from_2 (by decide) ?_
  refine j_lconst (x := 1) dX9_from_3 (by decide) ?_
  refine j_callS (as := [.long ((v1 : Int32).toInt64), .long 0, .long 1]) (fun x => some (.int x)) (fun _ => h) dX9_from_4 ml_RX9_56 tg_X9_in st_X9_in (fun x hx => kX9_in κ.1 κ.2.1 ((v1 : Int32).toInt64) 0 1 h x hx) (by decide) (by decide) rfl rfl (Nat.le_of_ble_eq_true rfl) (fun x1 => ?_)
  show xJ iX9_from κ _ 7 [(0, .ref v0), (1, .int v1)] [.int x1] h _
  refine j_if_ne (tgt := 17) dX9_from_7 (by decide) (fun c2 => ?_) (fun c2 => ?_)
  · refine j_aload_n 0 dX9_from_10 rfl rfl ?_
    refine j_bipush (x := (-2)) dX9_from_11 (by decide) ?_
    refine j_callV (as := [.int (-2)]) (fun x => some (.int x.1)) (fun x => x.2) 9 18 dX9_from_13 ml_RX9_64 tg_X9_bad im_X9_bad se_X9_bad rfl (by decide) (fun x hx => kX9_bad κ.1 κ.2.1 v0 (-2) h x hx) (by decide) (by decide) rfl rfl (Nat.le_of_ble_eq_true rfl) (fun q3 => ?_)
    show xJ iX9_from κ _ 16 [(0, .ref v0), (1, .int v1)] [.int q3.1] q3.2 _
    exact j_iret (q3.1, q3.2) dX9_from_16 rfl (fun q => q)
  · refine j_aload_n 0 dX9_from_17 rfl rfl ?_
    refine j_getR 9 18 2 dX9_from_18 fl_RX9_16 (by decide) rfl (by decide) (fun _ _ _ => rfl) (fun x4 => ?_)
    refine j_iload_n 1 dX9_from_21 rfl rfl ?_
    refine j_zald dX9_from_22 (fun x5 => ?_)
    refine j_if_ne (tgt := 31) dX9_from_23 (by decide) (fun c6 => ?_) (fun c6 => ?_)
    · refine j_aload_n 0 dX9_from_26 rfl rfl ?_
      refine j_callV (as := []) (fun x => some (.int x.1)) (fun x => x.2) 9 18 dX9_from_27 ml_RX9_119 tg_X9_no im_X9_no se_X9_no rfl (by decide) (fun x hx => kX9_no κ.1 κ.2.1 v0 h x hx) (by decide) (by decide) rfl rfl (Nat.le_of_ble_eq_true rfl) (fun q7 => ?_)
      show xJ iX9_from κ _ 30 [(0, .ref v0), (1, .int v1)] [.int q7.1] q7.2 _
      exact j_iret (q7.1, q7.2) dX9_from_30 rfl (fun q => q)
    · refine j_iconst (x := 0) dX9_from_31 (by decide) ?_
      refine j_istore_n (L' := [(2, .int 0), (0, .ref v0), (1, .int v1)]) dX9_from_32 rfl (Nat.le_of_ble_eq_true rfl) rfl ?_
      refine j_pick [1, 2, 0] rfl ?_
      refine j_loop (pc := 33) (Lf := fun s33 : Int32 × Hp => [(0, .ref v0), (1, .int v1), (2, .int s33.1)]) (Hf := fun s33 : Int32 × Hp => s33.2) (fun s33 => ?_) 1000000 (0, h)
      show xJ iX9_from κ _ 33 [(0, .ref v0), (1, .int v1), (2, .int s33.1)] [] s33.2 (fX9_from_b33 v0 v1 s33)
      unfold fX9_from_b33
      refine j_iload_n 2 dX9_from_33 rfl rfl ?_
      refine j_bipush (x := 118) dX9_from_34 (by decide) ?_
      refine j_icmp_ge (tgt := 62) dX9_from_36 (by decide) (fun c8 => ?_) (fun c8 => ?_)
      · refine j_exit s33.2 ?_
        show xJ iX9_from κ _ _ _ _ _ (some (1, s33.2))
        refine j_iconst (x := 1) dX9_from_62 (by decide) ?_
        exact j_iret (1, s33.2) dX9_from_63 rfl (fun q => q)
      · refine j_aload_n 0 dX9_from_39 rfl rfl ?_
        refine j_getR 9 18 0 dX9_from_40 fl_RX9_7 (by decide) rfl (by decide) (fun _ _ _ => rfl) (fun x9 => ?_)
        refine j_iload_n 2 dX9_from_43 rfl rfl ?_
        refine j_aload_n 0 dX9_from_44 rfl rfl ?_
        refine j_getR 9 18 1 dX9_from_45 fl_RX9_13 (by decide) rfl (by decide) (fun _ _ _ => rfl) (fun x10 => ?_)
        refine j_bipush (x := 118) dX9_from_48 (by decide) ?_
        refine j_iload_n 1 dX9_from_50 rfl rfl ?_
        refine j_imul dX9_from_51 ?_
        refine j_iload_n 2 dX9_from_52 rfl rfl ?_
        refine j_iadd dX9_from_53 ?_
        refine j_iald dX9_from_54 (fun x11 => ?_)
        refine j_iast dX9_from_55 (fun h12 => ?_)
        refine j_iinc (y := s33.1 + 1) (L' := [(2, .int (s33.1 + 1)), (0, .ref v0), (1, .int v1)]) 2 dX9_from_56 rfl rfl (Nat.le_of_ble_eq_true rfl) rfl ?_
        refine j_goto (tgt := 33) dX9_from_59 (by decide) ?_
        refine j_pick [1, 2, 0] rfl ?_
        exact j_again (s33.1 + 1, h12) rfl rfl
def fX8_status (v0 : Nat) (v1 : Int32) (h : Hp) : Option (Int32 × Hp) :=
  if (v1 : Int32) = 0 then ((xgI h v0 (8, 12) 9).bind fun x2 => some (x2, h)) else if (v1 : Int32) = 1 then ((xgI h v0 (8, 12) 10).bind fun x4 => some (x4, h)) else if (v1 : Int32) = 2 then ((xgI h v0 (8, 12) 11).bind fun x6 => some (x6, h)) else ((xat h v0 (8, 12) (fX8_refuseBad v0 h)).bind fun q7 => some ((-1), q7.2))
abbrev iX8_status : xI := (cX8_status, yX8_status.cls, yX8_status.name, some .int, 2, 3)
set_option maxHeartbeats 4000000 in
set_option maxRecDepth 100000 in
theorem kX8_status (l : Launch) (η : xEnv) (v0 : Nat) (v1 : Int32) (h : Hp) (x : Int32 × Hp) (hx : fX8_status v0 v1 h = some x) : xC l η yX8_status cX8_status 2 (some .int) 3 [.ref v0, .int v1] h (some (.int x.1)) x.2 := by
  refine xC_of (by decide) (Nat.le_of_ble_eq_true rfl) hx (fun κ x => κ.2.2.2.1 = some (.int x.1) ∧ κ.2.2.2.2 = x.2) ⟨rfl, rfl⟩ (fun κ => ?_)
  show xJ iX8_status κ _ 0 [(0, .ref v0), (1, .int v1)] [] h (fX8_status v0 v1 h)
  unfold fX8_status
  refine j_iload_n 1 dX8_status_0 rfl rfl ?_
  refine j_tabv (w := 0) (off := 27) (tgt := 28) dX8_status_1 (by decide) (by decide) (by decide) (by decide) (fun c1 => ?_) (fun c1 => ?_)
  · refine j_aload_n 0 dX8_status_28 rfl rfl ?_
    refine j_getI 8 12 9 dX8_status_29 fl_RX8_285 (by decide) rfl (by decide) rfl (fun x2 => ?_)
    exact j_iret (x2, h) dX8_status_32 rfl (fun q => q)
  refine j_tabv (w := 1) (off := 32) (tgt := 33) dX8_status_1 (by decide) (by decide) (by decide) (by decide) (fun c3 => ?_) (fun c3 => ?_)
  · refine j_aload_n 0 dX8_status_33 rfl rfl ?_
    refine j_getI 8 12 10 dX8_status_34 fl_RX8_288 (by decide) rfl (by decide) rfl (fun x4 => ?_)
    exact j_iret (x4, h) dX8_status_37 rfl (fun q => q)
  refine j_tabv (w := 2) (off := 37) (tgt := 38) dX8_status_1 (by decide) (by decide) (by decide) (by decide) (fun c5 => ?_) (fun c5 => ?_)
  · refine j_aload_n 0 dX8_status_38 rfl rfl ?_
    refine j_getI 8 12 11 dX8_status_39 fl_RX8_291 (by decide) rfl (by decide) rfl (fun x6 => ?_)
    exact j_iret (x6, h) dX8_status_42 rfl (fun q => q)
  refine j_tabd (tgt := 43) dX8_status_1 (by have ec1 : (v1 : Int32).toInt ≠ 0 := fun q => c1 (Int32.toInt_inj.mp (q.trans (by decide))); have ec3 : (v1 : Int32).toInt ≠ 1 := fun q => c3 (Int32.toInt_inj.mp (q.trans (by decide))); have ec5 : (v1 : Int32).toInt ≠ 2 := fun q => c5 (Int32.toInt_inj.mp (q.trans (by decide))); omega) (by decide) ?_
  refine j_aload_n 0 dX8_status_43 rfl rfl ?_
  refine j_callV (as := []) (fun x => some (.int x.1)) (fun x => x.2) 8 12 dX8_status_44 ml_RX8_70 tg_X8_refuseBad im_X8_refuseBad se_X8_refuseBad rfl (by decide) (fun x hx => kX8_refuseBad κ.1 κ.2.1 v0 h x hx) (by decide) (by decide) rfl rfl (Nat.le_of_ble_eq_true rfl) (fun q7 => ?_)
  show xJ iX8_status κ _ 47 [(0, .ref v0), (1, .int v1)] [.int q7.1] q7.2 _
  refine j_pop dX8_status_47 rfl ?_
  refine j_iconst (x := (-1)) dX8_status_48 (by decide) ?_
  exact j_iret ((-1), q7.2) dX8_status_49 rfl (fun q => q)
def fX9_status_j26 (t0 : Int32) (h : Hp) : Option (Int32 × Hp) :=
  some (t0, h)
def fX9_status (v0 : Nat) (v1 : Int32) (h : Hp) : Option (Int32 × Hp) :=
  (fX9_in ((v1 : Int32).toInt64) 0 2 h).bind fun x1 => if (x1 : Int32) = 0 then ((xat h v0 (9, 18) (fX9_bad v0 (-1) h)).bind fun q3 => fX9_status_j26 q3.1 q3.2) else ((xgR h v0 (9, 18) 3).bind fun x4 => (xaI h x4 10 v1).bind fun x5 => fX9_status_j26 x5 h)
abbrev iX9_status : xI := (cX9_status, yX9_status.cls, yX9_status.name, some .int, 2, 3)
set_option maxHeartbeats 4000000 in
set_option maxRecDepth 100000 in
theorem kX9_status (l : Launch) (η : xEnv) (v0 : Nat) (v1 : Int32) (h : Hp) (x : Int32 × Hp) (hx : fX9_status v0 v1 h = some x) : xC l η yX9_status cX9_status 2 (some .int) 3 [.ref v0, .int v1] h (some (.int x.1)) x.2 := by
  refine xC_of (by decide) (Nat.le_of_ble_eq_true rfl) hx (fun κ x => κ.2.2.2.1 = some (.int x.1) ∧ κ.2.2.2.2 = x.2) ⟨rfl, rfl⟩ (fun κ => ?_)
  show xJ iX9_status κ _ 0 [(0, .ref v0), (1, .int v1)] [] h (fX9_status v0 v1 h)
  unfold fX9_status
  refine j_have (pj := 26) (Lf := fun v : Int32 × Hp => []) (Sf := fun v : Int32 × Hp => [.int v.1]) (Hf := fun v : Int32 × Hp => v.2) (jf := fun v : Int32 × Hp => fX9_status_j26 v.1 v.2) (fun v => ?_) (fun hj26 => ?_)
  · obtain ⟨t0, h⟩ := v
    show xJ iX9_status κ _ 26 [] [.int t0] h (fX9_status_j26 t0 h)
    unfold fX9_status_j26
    exact j_iret (t0, h) dX9_status_26 rfl (fun q => q)
  refine j_iload_n 1 dX9_status_0 rfl rfl ?_
  refine j_i2l dX9_status_1 ?_
  refine j_lconst (x := 0) dX9_status_2 (by decide) ?_
  refine j_ldc2 dX9_status_3 cL_RX9_131 ?_
  refine j_callS (as := [.long ((v1 : Int32).toInt64), .long 0, .long 2]) (fun x => some (.int x)) (fun _ => h) dX9_status_6 ml_RX9_56 tg_X9_in st_X9_in (fun x hx => kX9_in κ.1 κ.2.1 ((v1 : Int32).toInt64) 0 2 h x hx) (by decide) (by decide) rfl rfl (Nat.le_of_ble_eq_true rfl) (fun x1 => ?_)
  show xJ iX9_status κ _ 9 [(0, .ref v0), (1, .int v1)] [.int x1] h _
  refine j_if_eq (tgt := 21) dX9_status_9 (by decide) (fun c2 => ?_) (fun c2 => ?_)
  · refine j_aload_n 0 dX9_status_21 rfl rfl ?_
    refine j_iconst (x := (-1)) dX9_status_22 (by decide) ?_
    refine j_callV (as := [.int (-1)]) (fun x => some (.int x.1)) (fun x => x.2) 9 18 dX9_status_23 ml_RX9_64 tg_X9_bad im_X9_bad se_X9_bad rfl (by decide) (fun x hx => kX9_bad κ.1 κ.2.1 v0 (-1) h x hx) (by decide) (by decide) rfl rfl (Nat.le_of_ble_eq_true rfl) (fun q3 => ?_)
    show xJ iX9_status κ _ 26 [(0, .ref v0), (1, .int v1)] [.int q3.1] q3.2 _
    refine j_pick [] rfl ?_
    exact hj26 (q3.1, q3.2)
  · refine j_aload_n 0 dX9_status_12 rfl rfl ?_
    refine j_getR 9 18 3 dX9_status_13 fl_RX9_20 (by decide) rfl (by decide) (fun _ _ _ => rfl) (fun x4 => ?_)
    refine j_iload_n 1 dX9_status_16 rfl rfl ?_
    refine j_iald dX9_status_17 (fun x5 => ?_)
    refine j_goto (tgt := 26) dX9_status_18 (by decide) ?_
    refine j_pick [] rfl ?_
    exact hj26 (x5, h)
