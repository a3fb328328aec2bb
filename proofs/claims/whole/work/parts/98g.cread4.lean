section CREAD4
variable {h : Hp} {T : Nat → Int32} {n : Nat}
theorem RB_room {b : Nat} {r r' : Int32} (R : RB h b (f0w r)) : RB (sF h b (upd (h.2.1 b) 0 r')) b (f0w r') := by
  obtain ⟨⟨b1, b2, b3, b4⟩, h2, h3, h4, h5, π, p1, p2, p3⟩ := R
  refine ⟨?_, ?_, ?_, ?_, ?_, π, p1, p2, ?_⟩
  · rw [sF_eq]
    simp only [upd_e]
    exact ⟨b1, b2, b3, rfl⟩
  · intro c hc; rw [sF_ne (by omega), f0w_0 (by omega)]; have := h2 c hc; rw [f0w_0 (by omega)] at this; exact this
  · intro s hs; rw [sF_ne (by omega), f0w_0 (by omega)]; have := h3 s hs; rw [f0w_0 (by omega)] at this; exact this
  · intro i hi; rw [f0w_n.1] at hi; omega
  · intro q hq; rw [f0w_n.2.1] at hq; omega
  · intro u c h8 hu; rw [f0w_n.2.2] at hu; omega
theorem room_c {h0 : Hp} {it : Int32} {p : Nat} {r : Int32} (B : BY T n) (S : CS h T n p) (K : KP RDS h0 h) (i : h.2.1 76 3 = it) (R : RB h 78 (f0w r)) : CO h0 T n it (fX4_readRoom 76 h) (if nOk T n p 1 7 = true then pMk T n (Sum.inr (f0w (tV T n p), tE T n p)) else Sum.inl (tS T n p)) := by
  obtain ⟨h1, x1, K1, i1, s1, S1, v1⟩ := readNum_e S B 1 7
  have K1' := RDS_76 K K1
  simp only [fX4_readRoom]
  rw [gT76 S.1, x1, Option.bind_some]
  by_cases q1 : nOk T n p 1 7 = true
  · simp only [q1, if_true, ne10, if_false]
    have R1 := RB_76 K1 R
    rw [gR76_2 S1.1, Option.bind_some, gI76 S1.1, Option.bind_some, v1 q1, e_pI (gb0 S1.1 hb78), Option.bind_some]
    have SS : SB 78 h1 (sF h1 78 (upd (h1.2.1 78) 0 (tV T n p))) := SB_F (SB_rfl 78 h1) (by omega) _
    exact mark_tail B (CS_SB S1 SS) (RDS_SB K1' SS) (by rw [sF_ne (by decide), i1]; exact i) (RB_room R1)
  · simp only [q1, if_false]
    exact ⟨h1, K1', by rw [i1]; exact i, S1.2.1, Or.inl ⟨_, rfl, rfl, s1⟩⟩
theorem head_c (g : GH h) (C : TC h T n) (B : BY T n) (P : PS h 78) : ∃ h', KP RDS h h' ∧ TC h' T n ∧ ((∃ s, hdr T n = Sum.inl s ∧ fX4_readBus 76 h = some (0, h') ∧ h'.2.1 76 4 = nI s) ∨ (∃ x0, hdr T n = Sum.inr x0 ∧ CS h' T n x0.2 ∧ RB h' 78 x0.1 ∧ h'.2.1 76 3 = 1 ∧ ∀ r : Hp ⊕ (Hp ⊕ Hp), xloop (fX4_readBus_b41 76) 1000000 (0, h') = some r → fX4_readBus 76 h = match r with | .inl r41 => (some (1, r41)) | .inr (.inl r41) => (some (0, r41)) | .inr (.inr r41) => (some (1, r41)))) := by
  have b := B.1
  obtain ⟨h2, e2, g2, r2, c0, c1, c11, co⟩ := startAnew_e (h := h) (b := 78) g hb78
  have S2 : SB 78 h h2 := ⟨g2.1.trans g.1.symm, r2, fun a ha => co a (by omega) (by omega) (by omega)⟩
  have R2 : RB h2 78 (f0w 4) := by
    obtain ⟨π, p1, p2⟩ := P
    refine ⟨?_, ?_, ?_, ?_, ?_, π, ?_, p2, ?_⟩
    · rw [c0]; simp only [upd_e]; exact ⟨rfl, rfl, rfl, rfl⟩
    · intro c hc
      rw [c11, f0w_0 (by omega)]
      rcases (by omega : c = 0 ∨ c = 1 ∨ c = 2 ∨ c = 3 ∨ c = 4) with rfl | rfl | rfl | rfl | rfl <;> simp [upd_e]
    · intro s hs; rw [c1, f0w_0 (by omega)]; simp only []; rw [if_pos hs]
    · intro i hi; rw [f0w_n.1] at hi; omega
    · intro q hq; rw [f0w_n.2.1] at hq; omega
    · intro u hu; rw [r2]; exact p1 u hu
    · intro u c h8 hu; rw [f0w_n.2.2] at hu; omega
  have C2 : TC h2 T n := ⟨by rw [S2.2.2 76 (by omega)]; exact C.1, by rw [S2.2.2 77 (by omega)]; exact C.2⟩
  have K3 : KP [76] h2 (sF h2 76 (upd (h2.2.1 76) 5 0)) := KP_F (KP_rfl _ _) (by decide) _
  have K3' := RDS_76 (RDS_SB (KP_rfl RDS h) S2) K3
  have C3 : TC (sF h2 76 (upd (h2.2.1 76) 5 0)) T n := TC_F C2 (by simp [upd_e])
  have g3 : GH (sF h2 76 (upd (h2.2.1 76) 5 0)) := g2
  obtain ⟨F, ee, f4, f5, f6, fl⟩ := step_e (p := 0) g3 C3 B (by omega) (by rw [sF_eq]; simp [upd_e]; rfl)
  have tb := t_b (T := T) (n := n) (p := 0) (by omega)
  generalize hh3 : sF h2 76 (upd (h2.2.1 76) 5 0) = h3 at *
  have K4 : KP [76] h3 (sF h3 76 F) := KP_F (KP_rfl _ _) (by decide) _
  have C4 : TC (sF h3 76 F) T n := TC_F C3 (fl 1 (by omega))
  have S4 : CS (sF h3 76 F) T n (tE T n 0) := ⟨g3, C4, by rw [sF_eq]; exact f5, tb.2.2.1⟩
  have R4 := RB_76 K4 (RB_76 K3 R2)
  have K4' := RDS_76 K3' K4
  have g4 : GH (sF h3 76 F) := g3
  have w0 := isWord_e (i := 0) (p := 0) g4 C4 B (by omega) (by decide) (by rw [sF_eq]; exact f4) (by rw [sF_eq]; exact f5) (by rw [sF_eq]; exact f6)
  rw [show (0 : UInt32).toNat = 0 from rfl] at w0
  have f4' : (sF h3 76 F).2.1 76 4 = nI (tS T n 0) := by rw [sF_eq]; exact f4
  generalize hh4 : sF h3 76 F = h4 at *
  have run0 : ¬ wB T n 0 0 = true → fX4_readBus 76 h = some (0, h4) := by
    intro q
    simp only [fX4_readBus, fX4_readBus_j32]
    rw [gR76_2 g, Option.bind_some, e_at (gb0 g hb78), e2, Option.bind_some, pI76 g2, Option.bind_some, hh3, gT76 g3, ee, Option.bind_some, gT76 g4, w0, Option.bind_some, if_neg q]
    exact if_pos rfl
  have run1 : ∀ h5, wB T n 0 0 = true → fX4_readRoom 76 h4 = some (0, h5) → fX4_readBus 76 h = some (0, h5) := by
    intro h5 q oc
    simp only [fX4_readBus, fX4_readBus_j32]
    rw [gR76_2 g, Option.bind_some, e_at (gb0 g hb78), e2, Option.bind_some, pI76 g2, Option.bind_some, hh3, gT76 g3, ee, Option.bind_some, gT76 g4, w0, Option.bind_some, if_pos q, if_neg (by decide), gT76 g4, oc, Option.bind_some]
    exact if_pos rfl
  have run2 : ∀ h5 r, wB T n 0 0 = true → GH h5 → fX4_readRoom 76 h4 = some (1, h5) → xloop (fX4_readBus_b41 76) 1000000 (0, sF h5 76 (upd (h5.2.1 76) 3 1)) = some r → fX4_readBus 76 h = match r with | .inl r41 => (some (1, r41)) | .inr (.inl r41) => (some (0, r41)) | .inr (.inr r41) => (some (1, r41)) := by
    intro h5 r q g5 oc hr
    simp only [fX4_readBus, fX4_readBus_j32]
    rw [gR76_2 g, Option.bind_some, e_at (gb0 g hb78), e2, Option.bind_some, pI76 g2, Option.bind_some, hh3, gT76 g3, ee, Option.bind_some, gT76 g4, w0, Option.bind_some, if_pos q, if_neg (by decide), gT76 g4, oc, Option.bind_some]
    simp only []
    rw [if_neg (show ¬ (1 : Int32) = 0 by decide), pI76 g5, Option.bind_some, hr, Option.bind_some]
    rfl
  unfold hdr
  by_cases q0 : wB T n 0 0 = true
  · rw [if_pos q0]
    obtain ⟨h5, K5, i5, C5, Z⟩ := room_c (it := h4.2.1 76 3) B S4 K4' rfl R4
    rcases Z with ⟨s, z, oc, e4⟩ | ⟨f, q, z, oc, S5, R5⟩
    · refine ⟨h5, K5, C5, Or.inl ⟨s, z, ?_, e4⟩⟩
      exact run1 h5 q0 oc
    · have KF : KP [76] h5 (sF h5 76 (upd (h5.2.1 76) 3 1)) := KP_F (KP_rfl _ _) (by decide) _
      refine ⟨sF h5 76 (upd (h5.2.1 76) 3 1), RDS_76 K5 KF, TC_F C5 (by simp [upd_e]), Or.inr ⟨(f, q), z, ⟨S5.1, TC_F C5 (by simp [upd_e]), by rw [sF_eq]; simp only [upd_e]; exact S5.2.2.1, S5.2.2.2⟩, RB_76 KF R5, by rw [sF_eq]; simp [upd_e], ?_⟩⟩
      intro r hr
      exact run2 h5 r q0 S5.1 oc hr
  · rw [if_neg q0]
    exact ⟨h4, K4', C4, Or.inl ⟨_, rfl, run0 q0, f4'⟩⟩
theorem hdr_g {x0 : (Nat → Int32) × Nat} (e : hdr T n = Sum.inr x0) : GRw x0.1 ∧ 1 ≤ x0.2 ∧ x0.2 ≤ n := by
  have t1 := t_b (T := T) (n := n) (p := 0) (by omega)
  have t2 := t_b (T := T) t1.2.2.1
  have t3 := t_b (T := T) t2.2.2.1
  unfold hdr at e
  by_cases q0 : wB T n 0 0 = true
  · rw [if_pos q0] at e
    by_cases q1 : nOk T n (tE T n 0) 1 7 = true
    · rw [if_pos q1] at e
      have v := nOk_v q1
      rw [t32_1, t32_7] at v
      simp only [pMk] at e
      by_cases k : tK T n (tE T n (tE T n 0)) = 3
      · rw [if_pos k] at e
        simp only [Sum.inr.injEq] at e
        subst e
        have k0 : tK T n 0 ≠ 0 := fun z => by unfold wB at q0; simp [z] at q0
        have t0 := t_k (T := T) (n := n) (p := 0) (by omega) k0
        refine ⟨⟨f0w_WF v, f0w_n.2.2⟩, ?_, ?_⟩
        · show 1 ≤ tE T n (tE T n (tE T n 0)); omega
        · show tE T n (tE T n (tE T n 0)) ≤ n; omega
      · rw [if_neg k] at e; simp at e
    · rw [if_neg q1] at e; simp at e
  · rw [if_neg q0] at e; simp at e
end CREAD4
