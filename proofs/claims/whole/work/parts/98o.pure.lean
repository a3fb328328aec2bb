theorem pure_law (η : xEnv) (hL : η.2.2.2.2.1 ≤ 320) : ∃ hf, fL_law η xh0 = some (1, hf) ∧ xn hf ≤ 600000 ∧ xm hf ≤ 7302250 := by
  obtain ⟨h2, h4, e2, l2, e4, I⟩ := first
  have lp : ∃ r, xloop (fL_law_b18 η 100 0 99) 1000000 (0, h4) = some r ∧ ∃ h, r = (Sum.inr (Sum.inr (Sum.inr (Sum.inr (Sum.inr (Sum.inr (Sum.inr (Sum.inr (Sum.inr (Sum.inr (Sum.inr (Sum.inr (Sum.inr (Sum.inr (Sum.inr (Sum.inr (Sum.inr (Sum.inr (Sum.inr (Sum.inr (Sum.inr (Sum.inr (Sum.inr (Sum.inr (Sum.inr (Sum.inr (Sum.inr (Sum.inr (Sum.inr (Sum.inr (Sum.inr (Sum.inr (Sum.inr (Sum.inr h)))))))))))))))))))))))))))))))))) ∧ Inv h := by
    refine xloop_i (body := fL_law_b18 η 100 0 99) (fun i st => st.1 = nI (5 * i) ∧ Inv st.2) (fun r => ∃ h, r = (Sum.inr (Sum.inr (Sum.inr (Sum.inr (Sum.inr (Sum.inr (Sum.inr (Sum.inr (Sum.inr (Sum.inr (Sum.inr (Sum.inr (Sum.inr (Sum.inr (Sum.inr (Sum.inr (Sum.inr (Sum.inr (Sum.inr (Sum.inr (Sum.inr (Sum.inr (Sum.inr (Sum.inr (Sum.inr (Sum.inr (Sum.inr (Sum.inr (Sum.inr (Sum.inr (Sum.inr (Sum.inr (Sum.inr (Sum.inr h)))))))))))))))))))))))))))))))))) ∧ Inv h) (η.2.2.2.2.1 / 5) (by omega) ?_ ?_ ⟨rfl, I⟩
    · intro i st hi ⟨a1, aI⟩
      left
      obtain ⟨h', e, I'⟩ := law_step (j := 5 * i) hL (by omega) aI
      refine ⟨(nI (5 * i + 5), h'), ?_, ?_, I'⟩
      · rw [← e, ← a1]
      · show nI (5 * i + 5) = nI (5 * (i + 1)); rw [show 5 * (i + 1) = 5 * i + 5 by omega]
    · intro st ⟨a1, aI⟩
      obtain ⟨r, e, hr⟩ := law_end (h := st.2) (j := 5 * (η.2.2.2.2.1 / 5)) hL (by omega) (by omega)
      refine ⟨r, ?_, st.2, hr, aI⟩
      rw [← e, ← a1]
  obtain ⟨r, er, hf, rfl, If⟩ := lp
  refine ⟨hf, ?_, ?_, ?_⟩
  · have n1 : xnew xh0 (8, 12) = some (0, xadd xh0 (8, 12)) := rfl
    have n2 : xnew h2 (9, 18) = some (99, xadd h2 (9, 18)) := by unfold xnew; rw [l2]
    simp only [fL_law]
    rw [n1, Option.bind_some, e2, Option.bind_some, n2, Option.bind_some, e4, Option.bind_some, er, Option.bind_some]
  · unfold xn; rw [If.1.1]; decide
  · unfold xm; rw [If.1.1]; decide
