section CREAD2
variable {h : Hp} {T : Nat → Int32} {n : Nat}
theorem idea_c {h0 : Hp} {it : Int32} {f : Nat → Int32} {p s : Nat} (B : BY T n) (S : CS h T n p) (K : KP RDS h0 h) (i : h.2.1 76 3 = it) (e4 : h.2.1 76 4 = nI s) (R : RB h 78 f) (W : WF f) : CO h0 T n it (fX4_readIdea 76 h) (pMk T n (if f 0 = 7 then Sum.inl s else pId T n f p)) := by
  obtain ⟨n0, n7, -⟩ := n_eq W
  have b2 : h.2.1 78 2 = nI (nn f) := R.1.1.trans n0
  simp only [fX4_readIdea]
  rw [gR76_2 S.1, Option.bind_some, gIb S.1 hb78, Option.bind_some, b2]
  by_cases z7 : nn f = 7
  · have f7 : f 0 = 7 := by rw [n0, z7]; rfl
    rw [if_neg (by rw [z7]; decide), if_pos f7]
    exact ⟨h, K, i, S.2.1, Or.inl ⟨s, rfl, rfl, e4⟩⟩
  have l7 : nn f < 7 := by omega
  have f7 : ¬ f 0 = 7 := fun q => z7 (by rw [n0] at q; exact (nI_eq (b := 7) (by omega) (by omega)).mp q)
  rw [if_pos (lt7 l7), if_neg f7]
  unfold pId
  obtain ⟨h1, x1, K1, i1, s1, S1, v1⟩ := readNum_e S B 0 5
  have K1' := RDS_76 K K1
  rw [gT76 S.1, x1, Option.bind_some]
  by_cases q1 : nOk T n p 0 5 = true
  · simp only [q1, if_true, ne10, if_false]
    obtain ⟨h2, x2, K2, i2, s2, S2, v2⟩ := readNum_e S1 B 1 9
    have K2' := RDS_76 K1' K2
    rw [gI76 S1.1, Option.bind_some, v1 q1, gT76 S1.1, x2, Option.bind_some]
    by_cases q2 : nOk T n (tE T n p) 1 9 = true
    · simp only [q2, if_true, ne10, if_false]
      obtain ⟨h3, x3, K3, i3, s3, S3, v3⟩ := readNum_e S2 B 0 8
      have K3' := RDS_76 K2' K3
      rw [gI76 S2.1, Option.bind_some, v2 q2, gT76 S2.1, x3, Option.bind_some]
      by_cases q3 : nOk T n (tE T n (tE T n p)) 0 8 = true
      · simp only [q3, if_true, ne10, if_false]
        obtain ⟨h4, x4, K4, i4, s4, S4, v4⟩ := readNum_e S3 B (tV T n (tE T n (tE T n p)) + 1) 9
        have K4' := RDS_76 K3' K4
        rw [gI76 S3.1, Option.bind_some, v3 q3, gT76 S3.1, x4, Option.bind_some]
        by_cases q4 : nOk T n (tE T n (tE T n (tE T n p))) (tV T n (tE T n (tE T n p)) + 1) 9 = true
        · simp only [q4, if_true, ne10, if_false]
          have R4 := RB_76 K4 (RB_76 K3 (RB_76 K2 (RB_76 K1 R)))
          obtain ⟨h5, x5, SS, R5⟩ := addIdea_e (k := tV T n p) (ft := tV T n (tE T n p)) (on := tV T n (tE T n (tE T n p))) (off := tV T n (tE T n (tE T n (tE T n p)))) S4.1 hb78 R4 W l7
          rw [gR76_2 S4.1, Option.bind_some, gI76 S4.1, Option.bind_some, v4 q4, e_at (gb0 S4.1 hb78), x5, Option.bind_some]
          exact mark_tail B (CS_SB S4 SS) (RDS_SB K4' SS) (by rw [SS.2.2 76 (by omega), i4, i3, i2, i1]; exact i) R5
        · simp only [q4, if_false]
          exact ⟨h4, K4', by rw [i4, i3, i2, i1]; exact i, S4.2.1, Or.inl ⟨_, rfl, rfl, s4⟩⟩
      · simp only [q3, if_false]
        exact ⟨h3, K3', by rw [i3, i2, i1]; exact i, S3.2.1, Or.inl ⟨_, rfl, rfl, s3⟩⟩
    · simp only [q2, if_false]
      exact ⟨h2, K2', by rw [i2, i1]; exact i, S2.2.1, Or.inl ⟨_, rfl, rfl, s2⟩⟩
  · simp only [q1, if_false]
    exact ⟨h1, K1', by rw [i1]; exact i, S1.2.1, Or.inl ⟨_, rfl, rfl, s1⟩⟩
theorem nOk_i {f : Nat → Int32} {p : Nat} (W : WF f) (q : nOk T n p 0 (f 0 - 1) = true) : ∃ a, a < nn f ∧ tV T n p = nI a := by
  have r := nOk_v q
  rw [(n_eq W).2.2, t32_0] at r
  exact ⟨(tV T n p).toInt.toNat, by omega, nI_n r.1⟩
theorem quarrel_c {h0 : Hp} {it : Int32} {f : Nat → Int32} {p : Nat} (B : BY T n) (S : CS h T n p) (K : KP RDS h0 h) (i : h.2.1 76 3 = it) (R : RB h 78 f) (W : WF f) : CO h0 T n it (fX4_readQuarrel 76 h) (pMk T n (pQu T n f p)) := by
  have n7 := (n_eq W).2.1
  have b2 : h.2.1 78 2 = f 0 := R.1.1
  simp only [fX4_readQuarrel, fX4_readQuarrel_j49]
  obtain ⟨h1, x1, K1, i1, s1, S1, v1⟩ := readNum_e S B 0 (f 0 - 1)
  have K1' := RDS_76 K K1
  have R1 := RB_76 K1 R
  rw [gR76_2 S.1, Option.bind_some, gIb S.1 hb78, Option.bind_some, b2, gT76 S.1, x1, Option.bind_some]
  unfold pQu
  by_cases q1 : nOk T n p 0 (f 0 - 1) = true
  · simp only [q1, if_true, ne10, if_false]
    obtain ⟨h2, x2, K2, i2, s2, S2, v2⟩ := readNum_e S1 B 0 (f 0 - 1)
    have K2' := RDS_76 K1' K2
    have R2 := RB_76 K2 R1
    obtain ⟨a, ha, ea⟩ := nOk_i W q1
    rw [gI76 S1.1, Option.bind_some, v1 q1, gR76_2 S1.1, Option.bind_some, gIb S1.1 hb78, Option.bind_some, R1.1.1, gT76 S1.1, x2, Option.bind_some]
    by_cases q2 : nOk T n (tE T n p) 0 (f 0 - 1) = true
    · simp only [q2, if_true, ne10, if_false, true_and]
      obtain ⟨c, hc, ec⟩ := nOk_i W q2
      rw [gI76 S2.1, Option.bind_some, v2 q2]
      by_cases q3 : tV T n (tE T n p) = tV T n p
      · rw [if_pos q3, if_neg (fun z => z q3)]
        exact ⟨h2, K2', by rw [i2, i1]; exact i, S2.2.1, Or.inl ⟨_, rfl, rfl, s2⟩⟩
      · rw [if_neg q3, if_pos q3]
        have hac : a ≠ c := fun z => q3 (by rw [ea, ec, z])
        obtain ⟨h5, x5, SS, R5⟩ := setQ_e S2.1 hb78 R2 W ha hc hac
        rw [gR76_2 S2.1, Option.bind_some, Option.bind_some, e_at (gb0 S2.1 hb78), ea, ec, x5, Option.bind_some, show (nI a).toInt.toNat = a from nI_tt (by omega), show (nI c).toInt.toNat = c from nI_tt (by omega)]
        exact mark_tail B (CS_SB S2 SS) (RDS_SB K2' SS) (by rw [SS.2.2 76 (by omega), i2, i1]; exact i) R5
    · simp only [q2, if_false, false_and]
      exact ⟨h2, K2', by rw [i2, i1]; exact i, S2.2.1, Or.inl ⟨_, rfl, rfl, s2⟩⟩
  · simp only [q1, if_false]
    exact ⟨h1, K1', by rw [i1]; exact i, S1.2.1, Or.inl ⟨_, rfl, rfl, s1⟩⟩
theorem item_c {h0 : Hp} {it : Int32} {f : Nat → Int32} {p : Nat} (B : BY T n) (S : CS h T n (tE T n p)) (hp : p ≤ n) (e4 : h.2.1 76 4 = nI (tS T n p)) (e6 : h.2.1 76 6 = nI (tK T n p)) (K : KP RDS h0 h) (i : h.2.1 76 3 = it) (R : RB h 78 f) (W : WF f) : CO h0 T n it (fX4_readItem 76 h) (pMk T n (pBody T n f p)) := by
  have g := S.1
  have w1 := isWord_e (i := 1) g S.2.1 B hp (by decide) e4 S.2.2.1 e6
  have w2 := isWord_e (i := 2) g S.2.1 B hp (by decide) e4 S.2.2.1 e6
  have w3 := isWord_e (i := 3) g S.2.1 B hp (by decide) e4 S.2.2.1 e6
  rw [show (1 : UInt32).toNat = 1 from rfl] at w1
  rw [show (2 : UInt32).toNat = 2 from rfl] at w2
  rw [show (3 : UInt32).toNat = 3 from rfl] at w3
  simp only [fX4_readItem]
  rw [gT76 g, w1, Option.bind_some]
  unfold pBody
  by_cases q1 : wB T n p 1 = true
  · simp only [q1, if_true, ne10, if_false]
    rw [gT76 g]
    exact CO_w (bridge_c B S K i R W)
  · simp only [q1, if_true, if_false]
    rw [gT76 g, w2, Option.bind_some]
    by_cases q2 : wB T n p 2 = true
    · simp only [q2, if_true, ne10, if_false]
      rw [gT76 g]
      exact CO_w (idea_c B S K i e4 R W)
    · simp only [q2, if_true, if_false]
      rw [gT76 g, w3, Option.bind_some]
      by_cases q3 : wB T n p 3 = true
      · simp only [q3, if_true, ne10, if_false]
        rw [gT76 g]
        exact CO_w (quarrel_c B S K i R W)
      · simp only [q3, if_true, if_false]
        exact ⟨h, K, i, S.2.1, Or.inl ⟨_, rfl, rfl, e4⟩⟩
/-- rows that are read: as told, nothing of the ride, nothing to undo -/
def GRw (f : Nat → Int32) : Prop := WF f ∧ nu f = 0
theorem pBody_g {f f' : Nat → Int32} {p q : Nat} (hp : p ≤ n) (G : GRw f) (e : pBody T n f p = Sum.inr (f', q)) : GRw f' ∧ tE T n p ≤ q ∧ q ≤ n := by
  obtain ⟨W, u0⟩ := G
  obtain ⟨n0, n7, n1⟩ := n_eq W
  have t1 := t_b (T := T) hp
  have t2 := t_b (T := T) t1.2.2.1
  have t3 := t_b (T := T) t2.2.2.1
  have t4 := t_b (T := T) t3.2.2.1
  have t5 := t_b (T := T) t4.2.2.1
  unfold pBody at e
  by_cases q1 : wB T n p 1 = true
  · rw [if_pos q1] at e
    unfold pBr at e
    by_cases r1 : nOk T n (tE T n p) 0 9 = true
    · rw [if_pos r1] at e
      by_cases r2 : nOk T n (tE T n (tE T n p)) 1 9 = true
      · rw [if_pos r2] at e
        simp only [Sum.inr.injEq, Prod.mk.injEq] at e
        obtain ⟨rfl, rfl⟩ := e
        have v1 := nOk_v r1
        have v2 := nOk_v r2
        rw [t32_0, t32_9] at v1
        rw [t32_1, t32_9] at v2
        have w := WF_h (a := (tV T n (tE T n p)).toInt.toNat) (x := tV T n (tE T n (tE T n p))) W (by omega) (by unfold rg; omega)
        exact ⟨⟨w.1, w.2.2.1.trans u0⟩, by omega, by omega⟩
      · rw [if_neg r2] at e; simp at e
    · rw [if_neg r1] at e; simp at e
  · rw [if_neg q1] at e
    by_cases q2 : wB T n p 2 = true
    · rw [if_pos q2] at e
      by_cases f7 : f 0 = 7
      · rw [if_pos f7] at e; simp at e
      · rw [if_neg f7] at e
        have l7 : nn f < 7 := by
          have : nn f ≠ 7 := fun z => f7 (by rw [n0, z]; rfl)
          omega
        unfold pId at e
        by_cases r1 : nOk T n (tE T n p) 0 5 = true
        · rw [if_pos r1] at e
          by_cases r2 : nOk T n (tE T n (tE T n p)) 1 9 = true
          · rw [if_pos r2] at e
            by_cases r3 : nOk T n (tE T n (tE T n (tE T n p))) 0 8 = true
            · rw [if_pos r3] at e
              by_cases r4 : nOk T n (tE T n (tE T n (tE T n (tE T n p)))) (tV T n (tE T n (tE T n (tE T n p))) + 1) 9 = true
              · rw [if_pos r4] at e
                simp only [Sum.inr.injEq, Prod.mk.injEq] at e
                obtain ⟨rfl, rfl⟩ := e
                have v1 := nOk_v r1
                have v2 := nOk_v r2
                have v3 := nOk_v r3
                have v4 := nOk_v r4
                rw [t32_0, t32_5] at v1
                rw [t32_1, t32_9] at v2
                rw [t32_0, t32_8] at v3
                have e3 : (tV T n (tE T n (tE T n (tE T n p))) + 1).toInt = (tV T n (tE T n (tE T n (tE T n p)))).toInt + 1 := fb_addI (by simp; omega) (by simp; omega)
                rw [e3, t32_9] at v4
                exact ⟨⟨WF_I W l7 v1 v2 v3 v4, (layI_n l7).2.2.trans u0⟩, by omega, by omega⟩
              · rw [if_neg r4] at e; simp at e
            · rw [if_neg r3] at e; simp at e
          · rw [if_neg r2] at e; simp at e
        · rw [if_neg r1] at e; simp at e
    · rw [if_neg q2] at e
      by_cases q3 : wB T n p 3 = true
      · rw [if_pos q3] at e
        unfold pQu at e
        by_cases r1 : nOk T n (tE T n p) 0 (f 0 - 1) = true
        · rw [if_pos r1] at e
          by_cases r2 : nOk T n (tE T n (tE T n p)) 0 (f 0 - 1) = true ∧ ¬ tV T n (tE T n (tE T n p)) = tV T n (tE T n p)
          · rw [if_pos r2] at e
            simp only [Sum.inr.injEq, Prod.mk.injEq] at e
            obtain ⟨rfl, rfl⟩ := e
            obtain ⟨a, ha, ea⟩ := nOk_i W r1
            obtain ⟨c, hc, ec⟩ := nOk_i W r2.1
            have hac : a ≠ c := fun z => r2.2 (by rw [ea, ec, z])
            rw [ea, ec, show (nI a).toInt.toNat = a from nI_tt (by omega), show (nI c).toInt.toNat = c from nI_tt (by omega)]
            exact ⟨⟨WF_Q W ha hc hac, (layQ_n W ha hc hac).2.2.trans u0⟩, by omega, by omega⟩
          · rw [if_neg r2] at e; simp at e
        · rw [if_neg r1] at e; simp at e
      · rw [if_neg q3] at e; simp at e
theorem pItem_g {f f' : Nat → Int32} {p q : Nat} (hp : p ≤ n) (G : GRw f) (hk : tK T n p ≠ 0) (e : pMk T n (pBody T n f p) = Sum.inr (f', q)) : GRw f' ∧ p < q ∧ q ≤ n := by
  cases r : pBody T n f p with
  | inl s => rw [r] at e; simp [pMk] at e
  | inr x =>
    rw [r] at e
    obtain ⟨G', l1, l2⟩ := pBody_g hp G (show pBody T n f p = Sum.inr (x.1, x.2) from r)
    have t1 := t_b (T := T) hp
    have t2 := t_k (T := T) hp hk
    have t3 := t_b (T := T) l2
    simp only [pMk] at e
    by_cases k : tK T n x.2 = 3
    · rw [if_pos k] at e
      simp only [Sum.inr.injEq, Prod.mk.injEq] at e
      obtain ⟨rfl, rfl⟩ := e
      exact ⟨G', by omega, by omega⟩
    · rw [if_neg k] at e; simp at e
end CREAD2
