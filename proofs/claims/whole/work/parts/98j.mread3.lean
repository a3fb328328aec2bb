section MREAD3
variable {h : Hp} {T : Nat → Int32} {n : Nat}
theorem a109 (g : GH h) : xaI h 109 10 0 = some (h.2.1 109 0) := e_aI (i := 0) (gs109 g) (k := 0) rfl (by decide) (by decide)
theorem s109 (g : GH h) (x : Int32) : xsI h 109 0 x = some (sF h 109 (upd (h.2.1 109) 0 x)) := e_sI (i := 0) (gs109 g) (k := 0) rfl (by decide) (by decide)
theorem layI_m {m : Nat} {k ft on off : Int32} (g : GH h) (hm : m < 7) (e : h.2.1 109 0 = nI m) : fX9_layIdea 109 k ft on off h = some (sF h 109 (upd (upd (upd (upd (upd (upd (h.2.1 109) (19 + m) k) (26 + m) ft) (33 + m) on) (40 + m) off) (47 + m) 0) 0 (nI (m + 1)))) := by
  have gg : ∀ F, GH (sF h 109 F) := fun F => g
  have v : upd (upd (upd (upd (upd (h.2.1 109) (19 + m) k) (26 + m) ft) (33 + m) on) (40 + m) off) (47 + m) 0 0 = nI m := by
    simp only [upd_e]; rw [if_neg (by omega), if_neg (by omega), if_neg (by omega), if_neg (by omega), if_neg (by omega)]; exact e
  simp only [fX9_layIdea]
  rw [a109 g, Option.bind_some, e, la19, sN109 g (by omega), Option.bind_some, la26, sN109 (gg _) (by omega), Option.bind_some, sF_s, sF_eq, la33, sN109 (gg _) (by omega), Option.bind_some, sF_s, sF_eq, la40, sN109 (gg _) (by omega), Option.bind_some, sF_s, sF_eq, la47, sN109 (gg _) (by omega), Option.bind_some, sF_s, sF_eq, a109 (gg _), Option.bind_some, sF_eq, v, nI_1, s109 (gg _), Option.bind_some, sF_s, sF_eq]
theorem layQ_m {a c : Nat} (g : GH h) (ha : a < 7) (hc : c < 7) (hac : a ≠ c) : fX9_layFoes 109 (nI a) (nI c) 1 h = some (sF h 109 (layQ (h.2.1 109) a c)) := by
  have gg : ∀ F, GH (sF h 109 F) := fun F => g
  have v : ∀ x, upd (h.2.1 109) (47 + a) x (47 + c) = h.2.1 109 (47 + c) := fun x => by rw [upd_e, if_neg (by omega)]
  simp only [fX9_layFoes, fX9_layFoes_j34, fX9_layFoes_j69]
  rw [if_neg (by decide), la47, aN109 g (by omega), Option.bind_some, sN109 g (by omega), Option.bind_some, if_neg (by decide), la47, aN109 (gg _) (by omega), Option.bind_some, sF_eq, v, sN109 (gg _) (by omega), Option.bind_some, sF_s, sF_eq]
  rfl
theorem idea_m {h0 : Hp} {f : Nat → Int32} {p : Nat} (B : BY T n) (S : MS h T n p) (K : KP MRS h0 h) (A : AN h f) (W : WF f) : MO h0 T n (fX9_takesIdea 99 h) (if f 0 = 7 then Sum.inl (tS T n p) else pId T n f (tE T n p)) := by
  obtain ⟨n0, n7, -⟩ := n_eq W
  simp only [fX9_takesIdea, fX9_takesIdea_j67]
  rw [gR99_16 S.1, Option.bind_some, a109 S.1, Option.bind_some, A 0 (by omega)]
  by_cases f7 : f 0 = 7
  · rw [if_pos f7, if_pos f7]
    exact ⟨h, K, S.2.1, Or.inl ⟨_, rfl, rfl, S.2.2.2.1⟩⟩
  rw [if_neg f7, if_neg f7]
  have l7 : nn f < 7 := by
    have : nn f ≠ 7 := fun z => f7 (by rw [n0, z]; rfl)
    omega
  obtain ⟨h1, e1, K1, S1⟩ := goBehind_e S B
  have K1' := KM_t K K1 (by decide)
  have A1 := AN_k K1 (by decide) A
  rw [gT99 S.1, e1, Option.bind_some]
  unfold pId
  have t1 := takes_e (i := 0) (v := 0) (lo := 0) (hi := 5) S1 B (by omega) rfl
  by_cases q1 : nOk T n (tE T n p) 0 5 = true
  · obtain ⟨h2, e2, K2, S2, v2⟩ := t1.1 q1
    have K2' := KM_t K1' K2 (by decide)
    have A2 := AN_k K2 (by decide) A1
    simp only [q1, if_true]
    rw [gT99 S1.1, e2, Option.bind_some]
    simp only [ne10, if_false]
    have t2 := takes_e (i := 1) (v := 1) (lo := 1) (hi := 9) S2 B (by omega) rfl
    by_cases q2 : nOk T n (tE T n (tE T n p)) 1 9 = true
    · obtain ⟨h3, e3, K3, S3, v3⟩ := t2.1 q2
      have K3' := KM_t K2' K3 (by decide)
      have A3 := AN_k K3 (by decide) A2
      simp only [q2, if_true]
      rw [gT99 S2.1, e3, Option.bind_some]
      simp only [ne10, if_false]
      have t3 := takes_e (i := 2) (v := 2) (lo := 0) (hi := 8) S3 B (by omega) rfl
      by_cases q3 : nOk T n (tE T n (tE T n (tE T n p))) 0 8 = true
      · obtain ⟨h4, e4, K4, S4, v4⟩ := t3.1 q3
        have K4' := KM_t K3' K4 (by decide)
        have A4 := AN_k K4 (by decide) A3
        simp only [q3, if_true]
        rw [gT99 S3.1, e4, Option.bind_some]
        simp only [ne10, if_false]
        have w2 : h4.2.1 110 2 = tV T n (tE T n (tE T n (tE T n p))) := by rw [v4]; simp [upd_e]
        have t4 := takes_e (i := 3) (v := 3) (lo := tV T n (tE T n (tE T n (tE T n p))) + 1) (hi := 9) S4 B (by omega) rfl
        rw [gR99_17 S4.1, Option.bind_some, a110 (v := 2) S4.1 (i := 2) (by omega) rfl, Option.bind_some, w2]
        by_cases q4 : nOk T n (tE T n (tE T n (tE T n (tE T n p)))) (tV T n (tE T n (tE T n (tE T n p))) + 1) 9 = true
        · obtain ⟨h5, e5, K5, S5, v5⟩ := t4.1 q4
          have K5' := KM_t K4' K5 (by decide)
          have A5 := AN_k K5 (by decide) A4
          simp only [q4, if_true]
          rw [gT99 S4.1, e5, Option.bind_some]
          simp only [ne10, if_false]
          have x0 : h5.2.1 110 0 = tV T n (tE T n p) := by rw [v5, v4, v3, v2]; simp [upd_e]
          have x1 : h5.2.1 110 1 = tV T n (tE T n (tE T n p)) := by rw [v5, v4, v3]; simp [upd_e]
          have x2 : h5.2.1 110 2 = tV T n (tE T n (tE T n (tE T n p))) := by rw [v5, v4]; simp [upd_e]
          have x3 : h5.2.1 110 3 = tV T n (tE T n (tE T n (tE T n (tE T n p)))) := by rw [v5]; simp [upd_e]
          have z0 : h5.2.1 109 0 = nI (nn f) := by rw [A5 0 (by omega)]; exact n0
          simp only [gR99_16 S5.1, gR99_17 S5.1, Option.bind_some, a110 (v := 0) S5.1 (i := 0) (by omega) rfl, a110 (v := 1) S5.1 (i := 1) (by omega) rfl, a110 (v := 2) S5.1 (i := 2) (by omega) rfl, a110 (v := 3) S5.1 (i := 3) (by omega) rfl, x0, x1, x2, x3, layI_m S5.1 l7 z0]
          refine ⟨_, KM_t K5' (KP_F (KP_rfl [109] h5) (by decide) _) (by decide), (MS_109 S5).2.1, Or.inr ⟨_, _, rfl, rfl, MS_109 S5, ?_⟩⟩
          intro k hk
          rw [sF_eq]
          unfold layI
          simp only [upd_e]
          rw [A5 k hk]
        · simp only [q4, if_false]
          rw [gT99 S4.1, t4.2 q4, Option.bind_some]
          exact ⟨h4, K4', S4.2.1, Or.inl ⟨_, rfl, if_pos rfl, S4.2.2.2.1⟩⟩
      · simp only [q3, if_false]
        rw [gT99 S3.1, t3.2 q3, Option.bind_some]
        exact ⟨h3, K3', S3.2.1, Or.inl ⟨_, rfl, if_pos rfl, S3.2.2.2.1⟩⟩
    · simp only [q2, if_false]
      rw [gT99 S2.1, t2.2 q2, Option.bind_some]
      exact ⟨h2, K2', S2.2.1, Or.inl ⟨_, rfl, if_pos rfl, S2.2.2.2.1⟩⟩
  · simp only [q1, if_false]
    rw [gT99 S1.1, t1.2 q1, Option.bind_some]
    exact ⟨h1, K1', S1.2.1, Or.inl ⟨_, rfl, if_pos rfl, S1.2.2.2.1⟩⟩
theorem quarrel_m {h0 : Hp} {f : Nat → Int32} {p : Nat} (B : BY T n) (S : MS h T n p) (K : KP MRS h0 h) (A : AN h f) (W : WF f) : MO h0 T n (fX9_takesQuarrel 99 h) (pQu T n f (tE T n p)) := by
  obtain ⟨n0, n7, -⟩ := n_eq W
  obtain ⟨h1, e1, K1, S1⟩ := goBehind_e S B
  have K1' := KM_t K K1 (by decide)
  have A1 := AN_k K1 (by decide) A
  simp only [fX9_takesQuarrel, fX9_takesQuarrel_j59]
  rw [gT99 S.1, e1, Option.bind_some, gR99_16 S1.1, Option.bind_some, a109 S1.1, Option.bind_some, A1 0 (by omega)]
  unfold pQu
  have t1 := takes_e (i := 0) (v := 0) (lo := 0) (hi := f 0 - 1) S1 B (by omega) rfl
  by_cases q1 : nOk T n (tE T n p) 0 (f 0 - 1) = true
  · obtain ⟨h2, e2, K2, S2, v2⟩ := t1.1 q1
    have K2' := KM_t K1' K2 (by decide)
    have A2 := AN_k K2 (by decide) A1
    simp only [q1, if_true]
    rw [gT99 S1.1, e2, Option.bind_some]
    simp only [ne10, if_false]
    obtain ⟨a, ha, ea⟩ := nOk_i W q1
    have t2 := takes_e (i := 1) (v := 1) (lo := 0) (hi := f 0 - 1) S2 B (by omega) rfl
    have w0 : h2.2.1 110 0 = tV T n (tE T n p) := by rw [v2]; simp [upd_e]
    have k5 : tK T n (tE T n (tE T n p)) < 5 := lK_5
    rw [gI99 S2.1, Option.bind_some, S2.2.2.2.2.2.1]
    by_cases k2 : tK T n (tE T n (tE T n p)) = 2
    · rw [k2, if_pos (by rfl), gI99 S2.1, Option.bind_some, S2.2.2.2.2.2.2 k2, gR99_17 S2.1, Option.bind_some, a110 (v := 0) S2.1 (i := 0) (by omega) rfl, Option.bind_some, w0]
      by_cases q3 : tV T n (tE T n (tE T n p)) = tV T n (tE T n p)
      · rw [if_pos q3, if_neg (fun z => z.2 q3)]
        exact ⟨h2, K2', S2.2.1, Or.inl ⟨_, rfl, rfl, S2.2.2.2.1⟩⟩
      · rw [if_neg q3, gR99_16 S2.1, Option.bind_some, a109 S2.1, Option.bind_some, A2 0 (by omega)]
        by_cases q2 : nOk T n (tE T n (tE T n p)) 0 (f 0 - 1) = true
        · obtain ⟨h3, e3, K3, S3, v3⟩ := t2.1 q2
          have K3' := KM_t K2' K3 (by decide)
          have A3 := AN_k K3 (by decide) A2
          rw [if_pos ⟨q2, q3⟩, gT99 S2.1, e3, Option.bind_some]
          simp only [ne10, if_false]
          obtain ⟨c, hc, ec⟩ := nOk_i W q2
          have hac : a ≠ c := fun z => q3 (by rw [ea, ec, z])
          have x0 : h3.2.1 110 0 = nI a := by rw [v3, ← ea]; simp only [upd_e]; exact w0
          have x1 : h3.2.1 110 1 = nI c := by rw [v3, ← ec]; simp [upd_e]
          simp only [gR99_16 S3.1, gR99_17 S3.1, Option.bind_some, a110 (v := 0) S3.1 (i := 0) (by omega) rfl, a110 (v := 1) S3.1 (i := 1) (by omega) rfl, x0, x1, layQ_m S3.1 (show a < 7 by omega) (show c < 7 by omega) hac]
          rw [ea, ec, show (nI a).toInt.toNat = a from nI_tt (by omega), show (nI c).toInt.toNat = c from nI_tt (by omega)]
          refine ⟨_, KM_t K3' (KP_F (KP_rfl [109] h3) (by decide) _) (by decide), (MS_109 S3).2.1, Or.inr ⟨_, _, rfl, rfl, MS_109 S3, ?_⟩⟩
          intro k hk
          rw [sF_eq]
          unfold layQ
          simp only [upd_e]
          rw [A3 k hk, A3 (47 + a) (by omega), A3 (47 + c) (by omega)]
        · rw [if_neg (fun z => q2 z.1), gT99 S2.1, t2.2 q2, Option.bind_some]
          exact ⟨h2, K2', S2.2.1, Or.inl ⟨_, rfl, if_pos rfl, S2.2.2.2.1⟩⟩
    · have kn : ¬ nI (tK T n (tE T n (tE T n p))) = 2 := fun z => k2 ((nI_eq (b := 2) (by omega) (by omega)).mp z)
      have q2 : ¬ nOk T n (tE T n (tE T n p)) 0 (f 0 - 1) = true := fun z => by simp only [nOk, decide_eq_true_eq] at z; exact k2 z.1
      rw [if_neg kn, if_neg (fun z => q2 z.1)]
      exact ⟨h2, K2', S2.2.1, Or.inl ⟨_, rfl, rfl, S2.2.2.2.1⟩⟩
  · simp only [q1, if_false]
    rw [gT99 S1.1, t1.2 q1, Option.bind_some]
    exact ⟨h1, K1', S1.2.1, Or.inl ⟨_, rfl, if_pos rfl, S1.2.2.2.1⟩⟩
theorem item_m {h0 : Hp} {f : Nat → Int32} {p : Nat} (B : BY T n) (S : MS h T n p) (K : KP MRS h0 h) (A : AN h f) (W : WF f) : MO h0 T n (fX9_takesItem 99 h) (pBody T n f p) := by
  have g := S.1
  have w1 := spellW (i := 1) (a := 98) (b := 114) (c := 105) (d := 100) (e := 103) (f := 101) (sz := 6) S B (by decide) ⟨rfl, rfl, rfl, rfl, rfl, rfl, rfl⟩
  have w2 := spellW (i := 2) (a := 105) (b := 100) (c := 101) (d := 97) (e := 0) (f := 0) (sz := 4) S B (by decide) ⟨rfl, rfl, rfl, rfl, rfl, rfl, rfl⟩
  have w3 := isQ_e S B
  simp only [fX9_takesItem, fX9_takesItem_j67, fX9_takesItem_j68]
  rw [gT99 g, w1, Option.bind_some]
  unfold pBody
  by_cases q1 : wB T n p 1 = true
  · simp only [q1, if_true, ne10, if_false]
    rw [gT99 g]
    exact MO_w (bridge_m B S K A)
  · simp only [q1, if_true, if_false]
    rw [gT99 g, w2, Option.bind_some]
    by_cases q2 : wB T n p 2 = true
    · simp only [q2, if_true, ne10, if_false]
      rw [gT99 g]
      exact MO_w (idea_m B S K A W)
    · simp only [q2, if_true, if_false]
      rw [gT99 g, w3, Option.bind_some]
      by_cases q3 : wB T n p 3 = true
      · simp only [q3, if_true, ne10, if_false]
        rw [gT99 g]
        obtain ⟨h', K', t, Z⟩ := quarrel_m B S K A W
        refine ⟨h', K', t, ?_⟩
        rcases Z with ⟨s, r, e, q⟩ | ⟨f', p', r, e, q⟩
        · exact Or.inl ⟨s, r, by rw [e, Option.bind_some]; simp only [if_true]; exact if_pos (show vp_nar .boolean 0 = 0 from rfl), q⟩
        · exact Or.inr ⟨f', p', r, by rw [e, Option.bind_some]; simp only [ne10, if_false, Bool.false_eq_true, if_true]; exact if_pos (show vp_nar .boolean 1 = 1 from rfl), q⟩
      · simp only [q3, if_true, if_false]
        exact ⟨h, K, S.2.1, Or.inl ⟨_, rfl, if_pos (show vp_nar .boolean 0 = 0 from rfl), S.2.2.2.1⟩⟩
end MREAD3
