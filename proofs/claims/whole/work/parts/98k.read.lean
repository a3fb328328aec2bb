section READ
variable {h : Hp} {T : Nat → Int32} {n : Nat}
theorem rloop_m {x0 : (Nat → Int32) × Nat} {N : Nat} {h0 : Hp} (B : BY T n) (hp : x0.2 ≤ n) (G : GRw x0.1) (s1 : stp T n (sq T n x0 N)) (s2 : ∀ i, i < N → ¬ stp T n (sq T n x0 i)) (sN : x0.2 + N ≤ n) (K : KP MRS h0 h) (S : MS h T n x0.2) (A : AN h x0.1) : ∃ r h', xloop (fX9_read_b26 99) 1000000 (1, h) = some r ∧ KP MRS h0 h' ∧ TM h' T n ∧ GH h' ∧ ((tK T n (sq T n x0 N).2 = 0 ∧ r = Sum.inr (99, nI (N + 1), h') ∧ AN h' (sq T n x0 N).1) ∨ (tK T n (sq T n x0 N).2 ≠ 0 ∧ ∃ s, pMk T n (pBody T n (sq T n x0 N).1 (sq T n x0 N).2) = Sum.inl s ∧ r = Sum.inl (99, h') ∧ h'.2.1 99 12 = nI s)) := by
  have b := B.1
  have lp : ∃ r, xloop (fX9_read_b26 99) 1000000 (1, h) = some r ∧ ∃ h', KP MRS h0 h' ∧ TM h' T n ∧ GH h' ∧ ((tK T n (sq T n x0 N).2 = 0 ∧ r = Sum.inr (99, nI (N + 1), h') ∧ AN h' (sq T n x0 N).1) ∨ (tK T n (sq T n x0 N).2 ≠ 0 ∧ ∃ s, pMk T n (pBody T n (sq T n x0 N).1 (sq T n x0 N).2) = Sum.inl s ∧ r = Sum.inl (99, h') ∧ h'.2.1 99 12 = nI s)) := by
    refine xloop_i (body := fX9_read_b26 99) (fun i st => st.1 = nI (i + 1) ∧ KP MRS h0 st.2 ∧ MS st.2 T n (sq T n x0 i).2 ∧ AN st.2 (sq T n x0 i).1) (fun r => ∃ h', KP MRS h0 h' ∧ TM h' T n ∧ GH h' ∧ ((tK T n (sq T n x0 N).2 = 0 ∧ r = Sum.inr (99, nI (N + 1), h') ∧ AN h' (sq T n x0 N).1) ∨ (tK T n (sq T n x0 N).2 ≠ 0 ∧ ∃ s, pMk T n (pBody T n (sq T n x0 N).1 (sq T n x0 N).2) = Sum.inl s ∧ r = Sum.inl (99, h') ∧ h'.2.1 99 12 = nI s))) N (by omega) ?_ ?_ ⟨rfl, K, S, A⟩
    · intro i st hi ⟨a1, aK, aS, aA⟩
      left
      obtain ⟨g', -, -⟩ := sq_inv (T := T) hp G i (fun j hj => s2 j (by omega))
      obtain ⟨k, e⟩ := nstp (s2 i hi)
      have k5 : tK T n (sq T n x0 i).2 < 5 := lK_5
      have kz : ¬ nI (tK T n (sq T n x0 i).2) = 0 := nI_ne0 (Nat.pos_of_ne_zero k) (by omega)
      obtain ⟨h2, K2, C2, Z⟩ := item_m B aS aK aA g'.1
      rcases Z with ⟨s, z, -⟩ | ⟨f, q, z, oc, S2, A2⟩
      · rw [z] at e; simp [pMk] at e
      · rw [z] at e
        simp only [pMk] at e
        have k3 : tK T n q = 3 := by
          apply Classical.byContradiction
          intro nk
          rw [if_neg nk] at e; simp at e
        rw [if_pos k3] at e
        simp only [Sum.inr.injEq] at e
        obtain ⟨h3, e3, K3, S3⟩ := goBehind_e S2 B
        have zq : sq T n x0 (i + 1) = (f, tE T n q) := e.symm
        refine ⟨(nI (i + 2), h3), ?_, rfl, KM_t K2 K3 (by decide), by rw [zq]; exact S3, by rw [zq]; exact AN_k K3 (by decide) A2⟩
        simp only [fX9_read_b26]
        rw [gI99 aS.1, Option.bind_some, aS.2.2.2.2.2.1, if_neg kz, gT99 aS.1, oc, Option.bind_some]
        simp only []
        rw [if_neg (show ¬ (1 : Int32) = 0 by decide), gI99 S2.1, Option.bind_some, S2.2.2.2.2.2.1, k3, if_pos (by rfl), gT99 S2.1, e3, Option.bind_some, a1, nI_1]
    · intro st ⟨a1, aK, aS, aA⟩
      obtain ⟨g', -, -⟩ := sq_inv (T := T) hp G N s2
      by_cases k : tK T n (sq T n x0 N).2 = 0
      · refine ⟨Sum.inr (99, st.1, st.2), ?_, st.2, aK, aS.2.1, aS.1, Or.inl ⟨k, by rw [a1], aA⟩⟩
        simp only [fX9_read_b26]
        rw [gI99 aS.1, Option.bind_some, aS.2.2.2.2.2.1, k, if_pos nI_0]
      · have k5 : tK T n (sq T n x0 N).2 < 5 := lK_5
        have kz : ¬ nI (tK T n (sq T n x0 N).2) = 0 := nI_ne0 (Nat.pos_of_ne_zero k) (by omega)
        obtain ⟨h2, K2, C2, Z⟩ := item_m B aS aK aA g'.1
        have g2 := KP_GH aS.1 (KP_t (KP_rfl [] st.2) (KP_rfl [] st.2) (U := []) (by decide) (by decide))
        rcases Z with ⟨s, z, oc, e4⟩ | ⟨f, q, z, oc, S2, A2⟩
        · have gh2 : GH h2 := ⟨K2.1.trans (aK.1.symm.trans aS.1.1), by rw [K2.2.1, ← aK.2.1]; exact aS.1.2⟩
          refine ⟨Sum.inl (99, h2), ?_, h2, K2, C2, gh2, Or.inr ⟨k, s, by rw [z]; rfl, rfl, e4⟩⟩
          simp only [fX9_read_b26]
          rw [gI99 aS.1, Option.bind_some, aS.2.2.2.2.2.1, if_neg kz, gT99 aS.1, oc, Option.bind_some]
          exact if_pos rfl
        · have nk : ¬ tK T n q = 3 := by
            intro k3
            rcases s1 with s1 | ⟨s, s1⟩
            · exact k s1
            · rw [z] at s1
              simp only [pMk] at s1
              rw [if_pos k3] at s1; simp at s1
          have k5' : tK T n q < 5 := lK_5
          have nk' : ¬ nI (tK T n q) = 3 := fun y => nk ((nI_eq (b := 3) (by omega) (by omega)).mp y)
          refine ⟨Sum.inl (99, h2), ?_, h2, K2, C2, S2.1, Or.inr ⟨k, tS T n q, by rw [z]; simp only [pMk]; rw [if_neg nk], rfl, S2.2.2.2.1⟩⟩
          simp only [fX9_read_b26]
          rw [gI99 aS.1, Option.bind_some, aS.2.2.2.2.2.1, if_neg kz, gT99 aS.1, oc, Option.bind_some]
          simp only []
          rw [if_neg (show ¬ (1 : Int32) = 0 by decide), gI99 S2.1, Option.bind_some, S2.2.2.2.2.2.1, if_neg nk']
  obtain ⟨r, er, h', Z⟩ := lp
  exact ⟨r, h', er, Z⟩
theorem head_m (g : GH h) (C : TM h T n) (B : BY T n) : ∃ h', KP MRS h h' ∧ TM h' T n ∧ ((∃ s, hdr T n = Sum.inl s ∧ fX9_read 99 h = some (-10 - nI s, h')) ∨ (∃ x0, hdr T n = Sum.inr x0 ∧ MS h' T n x0.2 ∧ AN h' x0.1 ∧ ∀ r : (Nat × Hp) ⊕ (Nat × Int32 × Hp), xloop (fX9_read_b26 99) 1000000 (1, h') = some r → fX9_read 99 h = match r with | .inl r26 => (fX9_read_j48 r26.1 r26.2) | .inr r26 => ((xloop (fX9_read_b68 r26.1 r26.2.1) 1000000 (0, r26.2.2)).bind (fun r68 => some (r68.1, r68.2))))) := by
  obtain ⟨h1, e1, K1, S1⟩ := look_MS (p := 0) g C B (by omega)
  have e1' : fX9_lookAt 99 0 h = some h1 := e1
  have K1' := KM_t (KP_rfl MRS h) K1 (by decide)
  have w0 := spellW (i := 0) (a := 98) (b := 117) (c := 115) (d := 0) (e := 0) (f := 0) (sz := 3) S1 B (by decide) ⟨rfl, rfl, rfl, rfl, rfl, rfl, rfl⟩
  have fault : ∀ h2 s, fX9_takesBus 99 h1 = some (0, h2) → GH h2 → h2.2.1 99 12 = nI s → fX9_read 99 h = some (-10 - nI s, h2) := by
    intro h2 s oc g2 e12
    simp only [fX9_read]
    rw [gT99 g, e1', Option.bind_some, gT99 S1.1, oc, Option.bind_some]
    simp only [if_true]
    rw [gI99 g2, Option.bind_some, e12]
  unfold hdr
  by_cases q0 : wB T n 0 0 = true
  · rw [if_pos q0]
    obtain ⟨h2, e2, K2, S2⟩ := goBehind_e S1 B
    have K2' := KM_t K1' K2 (by decide)
    have t1 := takes_e (i := 0) (v := 0) (lo := 1) (hi := 7) S2 B (by omega) rfl
    by_cases q1 : nOk T n (tE T n 0) 1 7 = true
    · rw [if_pos q1]
      obtain ⟨h3, e3, K3, S3, v3⟩ := t1.1 q1
      have K3' := KM_t K2' K3 (by decide)
      have x0 : h3.2.1 110 0 = tV T n (tE T n 0) := by rw [v3]; simp [upd_e]
      have bg := begin_e (h := h3) (gs109 S3.1) (by decide) (by decide) (tV T n (tE T n 0))
      have S4 := MS_109 (F := fun k => if k = 8 then tV T n (tE T n 0) else if k < 78 then 0 else h3.2.1 109 k) S3
      have K4 : KP [109] h3 (sF h3 109 (fun k => if k = 8 then tV T n (tE T n 0) else if k < 78 then 0 else h3.2.1 109 k)) := KP_F (KP_rfl _ _) (by decide) _
      have A4 : AN (sF h3 109 (fun k => if k = 8 then tV T n (tE T n 0) else if k < 78 then 0 else h3.2.1 109 k)) (f0w (tV T n (tE T n 0))) := by
        intro k hk
        rw [sF_eq]
        unfold f0w
        by_cases y : k = 8
        · rw [if_pos y, if_pos y]
        · rw [if_neg y, if_neg y, if_pos hk]
      generalize hh4 : sF h3 109 (fun k => if k = 8 then tV T n (tE T n 0) else if k < 78 then 0 else h3.2.1 109 k) = h4 at *
      have K4' := KM_t K3' K4 (by decide)
      have k5 : tK T n (tE T n (tE T n 0)) < 5 := lK_5
      have oc : fX9_takesBus 99 h1 = some (if tK T n (tE T n (tE T n 0)) = 3 then 1 else 0, h4) := by
        simp only [fX9_takesBus, fX9_takesBus_j62]
        rw [gT99 S1.1, w0, Option.bind_some, if_pos q0, if_neg (by decide), gT99 S1.1, e2, Option.bind_some, gT99 S2.1, e3, Option.bind_some]
        simp only []
        rw [if_neg (show ¬ (1 : Int32) = 0 by decide), gR99_16 S3.1, Option.bind_some, gR99_17 S3.1, Option.bind_some, a110 (v := 0) S3.1 (i := 0) (by omega) rfl, Option.bind_some, x0, bg, Option.bind_some, gI99 S4.1, Option.bind_some, S4.2.2.2.2.2.1, if_pos (show vp_nar .boolean 0 = 0 from rfl), if_pos (show vp_nar .boolean 1 = 1 from rfl)]
        by_cases k3 : tK T n (tE T n (tE T n 0)) = 3
        · rw [k3, if_pos (by rfl), if_pos rfl]
        · have : ¬ nI (tK T n (tE T n (tE T n 0))) = 3 := fun y => k3 ((nI_eq (b := 3) (by omega) (by omega)).mp y)
          rw [if_neg this, if_neg k3]
      simp only [pMk]
      by_cases k3 : tK T n (tE T n (tE T n 0)) = 3
      · rw [if_pos k3] at oc ⊢
        obtain ⟨h5, e5, K5, S5⟩ := goBehind_e S4 B
        refine ⟨h5, KM_t K4' K5 (by decide), S5.2.1, Or.inr ⟨_, rfl, S5, AN_k K5 (by decide) A4, ?_⟩⟩
        intro r hr
        simp only [fX9_read]
        rw [gT99 g, e1', Option.bind_some, gT99 S1.1, oc, Option.bind_some]
        simp only []
        rw [if_neg (show ¬ (1 : Int32) = 0 by decide), gT99 S4.1, e5, Option.bind_some, hr, Option.bind_some]
        rfl
      · rw [if_neg k3] at oc ⊢
        exact ⟨h4, K4', S4.2.1, Or.inl ⟨_, rfl, fault h4 _ oc S4.1 S4.2.2.2.1⟩⟩
    · rw [if_neg q1]
      have oc : fX9_takesBus 99 h1 = some (0, h2) := by
        simp only [fX9_takesBus]
        rw [gT99 S1.1, w0, Option.bind_some, if_pos q0, if_neg (by decide), gT99 S1.1, e2, Option.bind_some, gT99 S2.1, t1.2 q1, Option.bind_some]
        exact if_pos rfl
      exact ⟨h2, K2', S2.2.1, Or.inl ⟨_, rfl, fault h2 _ oc S2.1 S2.2.2.2.1⟩⟩
  · rw [if_neg q0]
    have oc : fX9_takesBus 99 h1 = some (0, h1) := by
      simp only [fX9_takesBus]
      rw [gT99 S1.1, w0, Option.bind_some, if_neg q0, if_pos rfl]
    exact ⟨h1, K1', S1.2.1, Or.inl ⟨_, rfl, fault h1 _ oc S1.1 S1.2.2.2.1⟩⟩
theorem copy_m {v : Int32} (g : GH h) : xloop (fX9_read_b68 99 v) 1000000 (0, h) = some (v, sF h 100 (fun k => if k < 78 then h.2.1 109 k else h.2.1 100 k)) := by
  have gg : ∀ F, GH (sF h 100 F) := fun F => g
  refine xloop_c (fun i => (nI i, sF h 100 (fun k => if k < i then h.2.1 109 k else h.2.1 100 k))) _ 78 (by decide) ?_ ?_ ?_
  · intro i hi
    simp only [fX9_read_b68]
    rw [if_neg (by rw [show (78 : Int32) = nI 78 from rfl, le_nI (by omega) (by omega)]; omega), gR99_0 (gg _), Option.bind_some, gR99_16 (gg _), Option.bind_some, aN109 (gg _) (by omega), Option.bind_some, sN100 (gg _) (by omega), Option.bind_some, sF_s, nI_1]
    congr 4
    funext k
    simp only [upd_e, sF_I, if_true]
    by_cases z1 : k = i
    · subst z1; rw [if_pos rfl, if_neg (by omega), if_pos (by omega)]
    · rw [if_neg z1]
      by_cases z2 : k < i
      · rw [if_pos z2, if_pos (by omega)]
      · rw [if_neg z2, if_neg (by omega)]
  · simp only [fX9_read_b68]
    rw [if_pos (by decide)]
  · have : (fun k => if k < 0 then h.2.1 109 k else h.2.1 100 k) = h.2.1 100 := by funext k; rw [if_neg (by omega)]
    rw [this, sF_same]; rfl
end READ
