section OPREAD
variable {h : Hp}
theorem Inv_read {h h' : Hp} (H : Inv h) (h1 : h'.1 = h.1) (hR : h'.2.2 = h.2.2) (hI : ∀ a, keep a → a ≠ 76 → a ≠ 99 → h'.2.1 a = h.2.1 a) (e76 : h'.2.1 76 1 = h.2.1 76 1) (e99 : h'.2.1 99 11 = h.2.1 99 11) (hB : RB h' 1 (h'.2.1 100)) (hW : WF (h'.2.1 100)) : Inv h' := by
  obtain ⟨g, -, -, ⟨i0, i1⟩, t, fr, st, q1, q2, q3⟩ := H
  have k : ∀ a, keep a → a ≠ 76 → a ≠ 99 → h'.2.1 a = h.2.1 a := hI
  refine ⟨⟨h1.trans g.1, by rw [hR]; exact g.2⟩, hB, hW, ⟨IM_keep i0 (fun a ha => k a (by unfold keep; omega) (by omega) (by omega)) (by omega) (by rw [hR]), IM_keep i1 (fun a ha => k a (by unfold keep; omega) (by omega) (by omega)) (by omega) (by rw [hR])⟩, ?_, ?_, ?_, PS_keep q1 (by rw [hR]), PS_keep q2 (by rw [hR]), PS_keep q3 (by rw [hR])⟩
  · unfold TX
    rw [e76, e99, k 77 (by unfold keep; omega) (by omega) (by omega), k 108 (by unfold keep; omega) (by omega) (by omega)]
    exact t
  · unfold FR; rw [hR]; exact fr
  · unfold ST
    rw [k 0 (by unfold keep; omega) (by omega) (by omega), k 103 (by unfold keep; omega) (by omega) (by omega)]
    exact st
theorem R78 {b : Nat} {f f' : Nat → Int32} (e : ∀ k, k < 78 → f' k = f k) (R : RB h b f) (G : GRw f) : RB h b f' ∧ WF f' := by
  obtain ⟨W, u0⟩ := G
  have n7 := (n_eq W).2.1
  have q6 := (q_eq W).2
  have e1 : nn f' = nn f := by unfold nn; rw [e 0 (by omega)]
  have e2 : nq f' = nq f := by unfold nq; rw [e 1 (by omega)]
  have e3 : nu f' = 0 := by rw [← u0]; unfold nu; rw [e 2 (by omega)]
  obtain ⟨⟨a1, a2, a3, a4⟩, r2, r3, r4, r5, π, p1, p2, p3⟩ := R
  obtain ⟨w1, w2, w3, w4, w5, w6⟩ := W
  constructor
  · refine ⟨?_, ?_, ?_, ?_, ?_, π, p1, p2, ?_⟩
    · rw [e 0 (by omega), e 1 (by omega), e 2 (by omega), e 8 (by omega)]; exact ⟨a1, a2, a3, a4⟩
    · intro c hc; rw [e _ (by omega)]; exact r2 c hc
    · intro s hs; rw [e _ (by omega)]; exact r3 s hs
    · intro i hi; rw [e1] at hi; rw [e _ (by omega), e _ (by omega), e _ (by omega), e _ (by omega), e _ (by omega)]; exact r4 i hi
    · intro q hq; rw [e2] at hq; rw [e _ (by omega), e _ (by omega), e _ (by omega), e _ (by omega)]; exact r5 q hq
    · intro u c h8 hu; rw [e3] at hu; omega
  · refine ⟨?_, ?_, ?_, ?_, ?_, ?_⟩
    · rw [e 0 (by omega), e 1 (by omega), e 2 (by omega), e 3 (by omega), e 4 (by omega), e 5 (by omega), e 6 (by omega), e 8 (by omega)]; exact w1
    · intro s hs; rw [e _ (by omega)]; exact w2 s hs
    · intro i hi; rw [e1] at hi; unfold WI; rw [e1, e _ (by omega), e _ (by omega), e _ (by omega), e _ (by omega), e _ (by omega)]; exact w3 i hi
    · intro i o hi ho; rw [e1] at hi ho; rw [e _ (by omega), e _ (by omega)]; exact w4 i o hi ho
    · intro q hq; rw [e2] at hq; rw [e _ (by omega), e _ (by omega)]; exact w5 q hq
    · intro u hu; rw [e3] at hu; omega
theorem op_read (H : Inv h) : Op (fX8_read 0 h) (fX9_read 99) := by
  have g := H.1
  have W := H.2.2.1
  obtain ⟨tx1, tx2, tx3⟩ := H.2.2.2.2.1
  obtain ⟨T, hT⟩ : ∃ T, T = h.2.1 108 := ⟨_, rfl⟩
  obtain ⟨n, hn⟩ : ∃ n, n = (h.2.1 99 11).toInt.toNat := ⟨_, rfl⟩
  have t11 : h.2.1 99 11 = nI n := by rw [hn]; exact nI_n tx2.1
  have C : TC h T n := ⟨tx1.trans t11, fun j hj => by rw [hT]; exact (tx3 j (by rw [← hn]; exact hj)).1⟩
  have B : BY T n := ⟨by have := tx2.2; have := tx2.1; omega, fun j hj => by rw [hT]; exact (tx3 j (by rw [← hn]; exact hj)).2⟩
  have TMk : ∀ h' : Hp, h'.2.1 99 = h.2.1 99 → h'.2.1 108 = h.2.1 108 → TM h' T n := fun h' a b => ⟨by rw [a]; exact t11, fun j _ => by rw [b, hT]⟩
  have P78 := H.2.2.2.2.2.2.2.2.2
  obtain ⟨h1, K1, C1, Z1⟩ := head_c g C B P78
  have g1 := KP_GH g K1
  have rd : ∀ a, a ∉ RDS ↔ ¬ (a = 76 ∨ (78 ≤ a ∧ a < 99)) := by
    intro a
    simp only [RDS, List.mem_cons, List.not_mem_nil, or_false]
    omega
  have mr : ∀ a, a ∉ MRS ↔ ¬ (a = 99 ∨ a = 109 ∨ a = 110) := by
    intro a
    simp only [MRS, List.mem_cons, List.not_mem_nil, or_false]
  -- a fault: nothing is told anew
  have flt : ∀ (s : Nat) (hc : Hp), KP RDS h hc → TC hc T n → hc.2.1 76 4 = nI s → fX4_readBus 76 h = some (0, hc) → ∀ hm, KP MRS hc hm → TM hm T n → fX9_read 99 hc = some (-10 - nI s, hm) → Op (fX8_read 0 h) (fX9_read 99) := by
    intro s hc Kc Cc e4 oc hm Km Cm om
    have gc := KP_GH g Kc
    have cel : ∀ a, ¬ (a = 76 ∨ (78 ≤ a ∧ a < 99)) → ¬ (a = 99 ∨ a = 109 ∨ a = 110) → hm.2.1 a = h.2.1 a := fun a y1 y2 => (Km.2.2 a ((mr a).mpr y2)).trans (Kc.2.2 a ((rd a).mpr y1))
    refine ⟨-10 - nI s, hc, hm, ?_, gc, om, ?_⟩
    · simp only [fX8_read]
      rw [gR0_8 g, Option.bind_some, gT76 g, oc, Option.bind_some]
      simp only [if_true]
      rw [gR0_8 gc, Option.bind_some, gI76 gc, Option.bind_some, e4]
    · refine Inv_read H (Km.1.trans Kc.1) (Km.2.1.trans Kc.2.1) (fun a ha y1 y2 => cel a (by unfold keep at ha; omega) (by unfold keep at ha; omega)) ?_ ?_ ?_ ?_
      · rw [Km.2.2 76 ((mr 76).mpr (by omega))]; exact Cc.1.trans C.1.symm
      · exact Cm.1.trans t11.symm
      · rw [cel 100 (by omega) (by omega)]
        exact RB_keep H.2.1 (fun a y1 y2 => cel a (by omega) (by omega)) (by rw [Km.2.1, Kc.2.1])
      · rw [cel 100 (by omega) (by omega)]; exact W
  rcases Z1 with ⟨s, hs, oc, e4⟩ | ⟨x0, hx, S1, R1, i1, lp1⟩
  · obtain ⟨h2, K2, C2, Z2⟩ := head_m g1 (TMk h1 (K1.2.2 99 (by decide)) (K1.2.2 108 (by decide))) B
    rcases Z2 with ⟨s', hs', om⟩ | ⟨x0, hx, -⟩
    · rw [hs] at hs'
      simp only [Sum.inl.injEq] at hs'
      subst hs'
      exact flt s h1 K1 C1 e4 oc h2 K2 C2 om
    · rw [hs] at hx; simp at hx
  · obtain ⟨G, p1, pn⟩ := hdr_g hx
    obtain ⟨N, s1, s2, sN⟩ := sq_stop (T := T) pn G
    obtain ⟨GN, -, -⟩ := sq_inv (T := T) pn G N s2
    obtain ⟨r, hc, er, Kc, Cc, Zc⟩ := loop_c B pn p1 G s1 s2 sN K1 S1 R1 i1
    have oc := lp1 r er
    have gc := KP_GH g Kc
    rcases Zc with ⟨k0, rfl, i3, Rc⟩ | ⟨k0, s, hs, rfl, e4⟩
    · have P1 : PS hc 1 := by
        obtain ⟨-, -, -, -, -, π, p1, p2, -⟩ := H.2.1
        exact PS_keep (h := h) ⟨π, p1, p2⟩ (by rw [Kc.2.1])
      obtain ⟨h5, e5, S5, R5⟩ := Take_e gc (Or.inl rfl) hb78 (by decide) Rc GN.1 P1
      have g5 := SB_GH gc S5
      obtain ⟨h2, K2, C2, Z2⟩ := head_m g5 (TMk h5 (by rw [S5.2.2 99 (by omega)]; exact Kc.2.2 99 (by decide)) (by rw [S5.2.2 108 (by omega)]; exact Kc.2.2 108 (by decide))) B
      rcases Z2 with ⟨s', hs', -⟩ | ⟨x0', hx', M2, A2, lp2⟩
      · rw [hx] at hs'; simp at hs'
      · rw [hx] at hx'
        simp only [Sum.inr.injEq] at hx'
        subst hx'
        obtain ⟨r2, hm, er2, Km, Cm, gm, Zm⟩ := rloop_m B pn G s1 s2 sN K2 M2 A2
        have om := lp2 r2 er2
        rcases Zm with ⟨-, rfl, Am⟩ | ⟨km, -⟩
        · have cp := copy_m (v := nI (N + 1)) gm
          have c100 : hm.2.1 100 = h.2.1 100 := by rw [Km.2.2 100 (by decide), S5.2.2 100 (by omega)]; exact Kc.2.2 100 (by decide)
          rw [c100] at cp
          generalize hF : (fun k => if k < 78 then hm.2.1 109 k else h.2.1 100 k) = F at cp
          have F78 : ∀ k, k < 78 → F k = (sq T n x0 N).1 k := fun k hk => by rw [← hF]; simp only []; rw [if_pos hk]; exact Am k hk
          have cel : ∀ a, ¬ (a = 76 ∨ (78 ≤ a ∧ a < 99)) → ¬ (a = 99 ∨ a = 109 ∨ a = 110) → a ≠ 100 → ¬ (1 ≤ a ∧ a < 22) → (sF hm 100 F).2.1 a = h.2.1 a := fun a y1 y2 y3 y4 => by
            rw [sF_ne y3, Km.2.2 a ((mr a).mpr y2), S5.2.2 a (by omega)]; exact Kc.2.2 a ((rd a).mpr y1)
          have R6 := R78 F78 R5 GN
          refine ⟨nI (N + 1), h5, sF hm 100 F, ?_, g5, ?_, ?_⟩
          · simp only [fX8_read]
            rw [gR0_8 g, Option.bind_some, gT76 g, oc, Option.bind_some]
            simp only []
            rw [if_neg (show ¬ (1 : Int32) = 0 by decide), gR0_0 gc, Option.bind_some, gR0_8 gc, Option.bind_some, gR76_2 gc, Option.bind_some, gT1 gc, e5, Option.bind_some, gR0_8 g5, Option.bind_some, gI76 g5, Option.bind_some, S5.2.2 76 (by omega), i3]
          · rw [om]
            simp only []
            rw [cp, Option.bind_some]
          · refine Inv_read H (Km.1.trans (S5.1.trans Kc.1)) (Km.2.1.trans (S5.2.1.trans Kc.2.1)) (fun a ha y1 y2 => cel a (by unfold keep at ha; omega) (by unfold keep at ha; omega) (by unfold keep at ha; omega) (by unfold keep at ha; omega)) ?_ ?_ ?_ ?_
            · rw [sF_ne (by decide), Km.2.2 76 ((mr 76).mpr (by omega)), S5.2.2 76 (by omega)]; exact Cc.1.trans C.1.symm
            · rw [sF_ne (by decide)]; exact Cm.1.trans t11.symm
            · rw [sF_eq]
              exact RB_keep R6.1 (fun a y1 y2 => by rw [sF_ne (by omega)]; exact Km.2.2 a ((mr a).mpr (by omega))) (by show hm.2.2.2 _ = _; rw [Km.2.1])
            · rw [sF_eq]; exact R6.2
        · exact absurd k0 km
    · obtain ⟨h2, K2, C2, Z2⟩ := head_m gc (TMk hc (Kc.2.2 99 (by decide)) (Kc.2.2 108 (by decide))) B
      rcases Z2 with ⟨s', hs', -⟩ | ⟨x0', hx', M2, A2, lp2⟩
      · rw [hx] at hs'; simp at hs'
      · rw [hx] at hx'
        simp only [Sum.inr.injEq] at hx'
        subst hx'
        obtain ⟨r2, hm, er2, Km, Cm, gm, Zm⟩ := rloop_m B pn G s1 s2 sN K2 M2 A2
        have om := lp2 r2 er2
        rcases Zm with ⟨km, -⟩ | ⟨-, s', hs', rfl, e12⟩
        · exact absurd km k0
        · rw [hs] at hs'
          simp only [Sum.inl.injEq] at hs'
          subst hs'
          refine flt s hc Kc Cc e4 oc hm Km Cm ?_
          rw [om]
          simp only [fX9_read_j48]
          rw [gI99 gm, Option.bind_some, e12]
end OPREAD
