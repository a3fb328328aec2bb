section CREAD3
variable {h : Hp} {T : Nat → Int32} {n : Nat}
def f0w (r : Int32) : Nat → Int32 := fun k => if k = 8 then r else 0
def hdr (T : Nat → Int32) (n : Nat) : Nat ⊕ ((Nat → Int32) × Nat) :=
  if wB T n 0 0 = true then (if nOk T n (tE T n 0) 1 7 = true then pMk T n (Sum.inr (f0w (tV T n (tE T n 0)), tE T n (tE T n 0))) else Sum.inl (tS T n (tE T n 0))) else Sum.inl (tS T n 0)
theorem f0w_n {r : Int32} : nn (f0w r) = 0 ∧ nq (f0w r) = 0 ∧ nu (f0w r) = 0 := ⟨rfl, rfl, rfl⟩
theorem f0w_0 {r : Int32} {k : Nat} (hk : k ≠ 8) : f0w r k = 0 := by unfold f0w; rw [if_neg hk]
theorem f0w_WF {r : Int32} (hr : rg r 1 7) : WF (f0w r) := by
  obtain ⟨n0, n1, n2⟩ := f0w_n (r := r)
  have z : rg (0 : Int32) 0 0 := by unfold rg; decide
  refine ⟨⟨?_, ?_, ?_, ?_, ?_, ?_, ?_, hr⟩, ?_, ?_, ?_, ?_, ?_⟩
  · rw [f0w_0 (by decide)]; simp [rg]
  · rw [f0w_0 (by decide)]; simp [rg]
  · rw [f0w_0 (by decide)]; simp [rg]
  · rw [f0w_0 (by decide)]; simp [rg]
  · rw [f0w_0 (by decide)]; simp [rg]
  · rw [f0w_0 (by decide)]; simp [rg]
  · rw [f0w_0 (by decide)]; simp [rg]
  · intro s hs; rw [f0w_0 (by omega)]; simp [rg]
  · intro i hi; rw [n0] at hi; omega
  · intro i o hi; rw [n0] at hi; omega
  · intro q hq; rw [n1] at hq; omega
  · intro u hu; rw [n2] at hu; omega
def nx (T : Nat → Int32) (n : Nat) (x : (Nat → Int32) × Nat) : (Nat → Int32) × Nat := match pMk T n (pBody T n x.1 x.2) with | .inr y => y | .inl _ => x
def sq (T : Nat → Int32) (n : Nat) (x0 : (Nat → Int32) × Nat) : Nat → (Nat → Int32) × Nat
  | 0 => x0
  | i + 1 => nx T n (sq T n x0 i)
def stp (T : Nat → Int32) (n : Nat) (x : (Nat → Int32) × Nat) : Prop := tK T n x.2 = 0 ∨ ∃ s, pMk T n (pBody T n x.1 x.2) = Sum.inl s
theorem nstp {x : (Nat → Int32) × Nat} (h : ¬ stp T n x) : tK T n x.2 ≠ 0 ∧ pMk T n (pBody T n x.1 x.2) = Sum.inr (nx T n x) := by
  refine ⟨fun q => h (Or.inl q), ?_⟩
  cases r : pMk T n (pBody T n x.1 x.2) with
  | inl s => exact absurd (Or.inr ⟨s, r⟩) h
  | inr y => unfold nx; rw [r]
theorem sq_inv {x0 : (Nat → Int32) × Nat} (hp : x0.2 ≤ n) (G : GRw x0.1) : ∀ i, (∀ j, j < i → ¬ stp T n (sq T n x0 j)) → GRw (sq T n x0 i).1 ∧ x0.2 + i ≤ (sq T n x0 i).2 ∧ (sq T n x0 i).2 ≤ n
  | 0, _ => ⟨G, Nat.le_refl _, hp⟩
  | i + 1, H => by
    obtain ⟨g, l1, l2⟩ := sq_inv hp G i (fun j hj => H j (by omega))
    obtain ⟨k, e⟩ := nstp (H i (by omega))
    obtain ⟨g', a1, a2⟩ := pItem_g l2 g k (show pMk T n (pBody T n (sq T n x0 i).1 (sq T n x0 i).2) = Sum.inr ((nx T n (sq T n x0 i)).1, (nx T n (sq T n x0 i)).2) from e)
    exact ⟨g', by show _ ≤ (nx T n (sq T n x0 i)).2; omega, a2⟩
theorem sq_stop {x0 : (Nat → Int32) × Nat} (hp : x0.2 ≤ n) (G : GRw x0.1) : ∃ N, stp T n (sq T n x0 N) ∧ (∀ i, i < N → ¬ stp T n (sq T n x0 i)) ∧ x0.2 + N ≤ n := by
  have E : ∃ i, stp T n (sq T n x0 i) := by
    apply Classical.byContradiction
    intro no
    have := sq_inv (T := T) hp G (n + 1) (fun j _ q => no ⟨j, q⟩)
    omega
  obtain ⟨N, h1, h2⟩ := pk_least (fun i => stp T n (sq T n x0 i)) E
  have := sq_inv (T := T) hp G N h2
  exact ⟨N, h1, h2, by omega⟩
theorem loop_c {x0 : (Nat → Int32) × Nat} {N : Nat} {h0 : Hp} (B : BY T n) (hp : x0.2 ≤ n) (p1 : 1 ≤ x0.2) (G : GRw x0.1) (s1 : stp T n (sq T n x0 N)) (s2 : ∀ i, i < N → ¬ stp T n (sq T n x0 i)) (sN : x0.2 + N ≤ n) (K : KP RDS h0 h) (S : CS h T n x0.2) (R : RB h 78 x0.1) (i3 : h.2.1 76 3 = 1) : ∃ r h', xloop (fX4_readBus_b41 76) 1000000 (0, h) = some r ∧ KP RDS h0 h' ∧ TC h' T n ∧ ((tK T n (sq T n x0 N).2 = 0 ∧ r = Sum.inl h' ∧ h'.2.1 76 3 = nI (N + 1) ∧ RB h' 78 (sq T n x0 N).1) ∨ (tK T n (sq T n x0 N).2 ≠ 0 ∧ ∃ s, pMk T n (pBody T n (sq T n x0 N).1 (sq T n x0 N).2) = Sum.inl s ∧ r = Sum.inr (Sum.inl h') ∧ h'.2.1 76 4 = nI s)) := by
  have b := B.1
  have lp : ∃ r, xloop (fX4_readBus_b41 76) 1000000 (0, h) = some r ∧ ∃ h', KP RDS h0 h' ∧ TC h' T n ∧ ((tK T n (sq T n x0 N).2 = 0 ∧ r = Sum.inl h' ∧ h'.2.1 76 3 = nI (N + 1) ∧ RB h' 78 (sq T n x0 N).1) ∨ (tK T n (sq T n x0 N).2 ≠ 0 ∧ ∃ s, pMk T n (pBody T n (sq T n x0 N).1 (sq T n x0 N).2) = Sum.inl s ∧ r = Sum.inr (Sum.inl h') ∧ h'.2.1 76 4 = nI s)) := by
    refine xloop_i (body := fX4_readBus_b41 76) (fun i st => st.1 = nI i ∧ KP RDS h0 st.2 ∧ CS st.2 T n (sq T n x0 i).2 ∧ RB st.2 78 (sq T n x0 i).1 ∧ st.2.2.1 76 3 = nI (i + 1)) (fun r => ∃ h', KP RDS h0 h' ∧ TC h' T n ∧ ((tK T n (sq T n x0 N).2 = 0 ∧ r = Sum.inl h' ∧ h'.2.1 76 3 = nI (N + 1) ∧ RB h' 78 (sq T n x0 N).1) ∨ (tK T n (sq T n x0 N).2 ≠ 0 ∧ ∃ s, pMk T n (pBody T n (sq T n x0 N).1 (sq T n x0 N).2) = Sum.inl s ∧ r = Sum.inr (Sum.inl h') ∧ h'.2.1 76 4 = nI s))) N (by omega) ?_ ?_ ⟨rfl, K, S, R, i3⟩
    · intro i st hi ⟨a1, aK, aS, aR, a3⟩
      left
      obtain ⟨g', -, -⟩ := sq_inv (T := T) hp G i (fun j hj => s2 j (by omega))
      obtain ⟨k, e⟩ := nstp (s2 i hi)
      obtain ⟨g, C, e5, hq⟩ := aS
      obtain ⟨F, ee, f4, f5, f6, fl⟩ := step_e g C B hq e5
      have tb := t_b (T := T) hq
      have K1 : KP [76] st.2 (sF st.2 76 F) := KP_F (KP_rfl _ _) (by decide) _
      have C1 : TC (sF st.2 76 F) T n := TC_F C (fl 1 (by omega))
      have S1 : CS (sF st.2 76 F) T n (tE T n (sq T n x0 i).2) := ⟨g, C1, by rw [sF_eq]; exact f5, tb.2.2.1⟩
      have i1 : (sF st.2 76 F).2.1 76 3 = nI (i + 1) := by rw [sF_eq, fl 3 (by omega)]; exact a3
      obtain ⟨h2, K2, i2, C2, Z⟩ := item_c B S1 hq (by rw [sF_eq]; exact f4) (by rw [sF_eq]; exact f6) (RDS_76 aK K1) i1 (RB_76 K1 aR) g'.1
      have kz : ¬ nI (tK T n (sq T n x0 i).2) = 0 := nI_ne0 (Nat.pos_of_ne_zero k) (by have : tK T n (sq T n x0 i).2 < 5 := lK_5; omega)
      rcases Z with ⟨s, z, -⟩ | ⟨f, q, z, oc, S2, R2⟩
      · rw [e] at z; exact absurd z (by simp)
      · rw [e] at z
        simp only [Sum.inr.injEq] at z
        have zq : sq T n x0 (i + 1) = (f, q) := z
        have KF : KP [76] h2 (sF h2 76 (upd (h2.2.1 76) 3 (nI (i + 2)))) := KP_F (KP_rfl _ _) (by decide) _
        refine ⟨(nI (i + 1), sF h2 76 (upd (h2.2.1 76) 3 (nI (i + 2)))), ?_, rfl, RDS_76 K2 KF, ?_, ?_, ?_⟩
        · simp only [fX4_readBus_b41]
          rw [a1, if_neg (by rw [show (150 : Int32) = nI 150 from rfl, le_nI (by omega) (by omega)]; omega), gT76 g, ee, Option.bind_some, gI76 (show GH (sF st.2 76 F) from g), Option.bind_some, sF_eq, f6, if_neg kz, gT76 (show GH (sF st.2 76 F) from g), oc, Option.bind_some]
          simp only []
          rw [if_neg (show ¬ (1 : Int32) = 0 by decide), gI76 S2.1, Option.bind_some, i2, pI76 S2.1, Option.bind_some, nI_1, nI_1]
        · rw [zq]
          exact ⟨S2.1, TC_F C2 (by simp [upd_e]), by rw [sF_eq]; simp only [upd_e]; exact S2.2.2.1, S2.2.2.2⟩
        · rw [zq]; exact RB_76 KF R2
        · rw [sF_eq]; simp [upd_e]
    · intro st ⟨a1, aK, aS, aR, a3⟩
      obtain ⟨g', -, -⟩ := sq_inv (T := T) hp G N s2
      obtain ⟨g, C, e5, hq⟩ := aS
      obtain ⟨F, ee, f4, f5, f6, fl⟩ := step_e g C B hq e5
      have tb := t_b (T := T) hq
      have K1 : KP [76] st.2 (sF st.2 76 F) := KP_F (KP_rfl _ _) (by decide) _
      have C1 : TC (sF st.2 76 F) T n := TC_F C (fl 1 (by omega))
      have S1 : CS (sF st.2 76 F) T n (tE T n (sq T n x0 N).2) := ⟨g, C1, by rw [sF_eq]; exact f5, tb.2.2.1⟩
      have i1 : (sF st.2 76 F).2.1 76 3 = nI (N + 1) := by rw [sF_eq, fl 3 (by omega)]; exact a3
      by_cases k : tK T n (sq T n x0 N).2 = 0
      · refine ⟨Sum.inl (sF st.2 76 F), ?_, sF st.2 76 F, RDS_76 aK K1, C1, Or.inl ⟨k, rfl, i1, RB_76 K1 aR⟩⟩
        simp only [fX4_readBus_b41]
        rw [a1, if_neg (by rw [show (150 : Int32) = nI 150 from rfl, le_nI (by omega) (by omega)]; omega), gT76 g, ee, Option.bind_some, gI76 (show GH (sF st.2 76 F) from g), Option.bind_some, sF_eq, f6, k, if_pos nI_0]
      · have kz : ¬ nI (tK T n (sq T n x0 N).2) = 0 := nI_ne0 (Nat.pos_of_ne_zero k) (by have : tK T n (sq T n x0 N).2 < 5 := lK_5; omega)
        obtain ⟨h2, K2, i2, C2, Z⟩ := item_c B S1 hq (by rw [sF_eq]; exact f4) (by rw [sF_eq]; exact f6) (RDS_76 aK K1) i1 (RB_76 K1 aR) g'.1
        rcases Z with ⟨s, z, oc, e4⟩ | ⟨f, q, z, -⟩
        · refine ⟨Sum.inr (Sum.inl h2), ?_, h2, K2, C2, Or.inr ⟨k, s, z, rfl, e4⟩⟩
          simp only [fX4_readBus_b41]
          rw [a1, if_neg (by rw [show (150 : Int32) = nI 150 from rfl, le_nI (by omega) (by omega)]; omega), gT76 g, ee, Option.bind_some, gI76 (show GH (sF st.2 76 F) from g), Option.bind_some, sF_eq, f6, if_neg kz, gT76 (show GH (sF st.2 76 F) from g), oc, Option.bind_some]
          exact if_pos rfl
        · rcases s1 with s1 | ⟨s, s1⟩
          · exact absurd s1 k
          · rw [s1] at z; exact absurd z (by simp)
  obtain ⟨r, er, h', K', C', Z⟩ := lp
  exact ⟨r, h', er, K', C', Z⟩
end CREAD3
