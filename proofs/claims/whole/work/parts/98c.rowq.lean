section ROWQ
variable {h : Hp}
theorem layQ_f {f : Nat → Int32} {a b : Nat} (W : WF f) (ha : a < nn f) (hb : b < nn f) (hab : a ≠ b) : (∀ j, j ≠ 47 + a → j ≠ 47 + b → layQ f a b j = f j) ∧ (∃ q, q < 2 ^ nn f ∧ layQ f a b (47 + a) = nI q) ∧ (∃ q, q < 2 ^ nn f ∧ layQ f a b (47 + b) = nI q) ∧ (∀ o, o < 7 → bt1 (layQ f a b (47 + a)) o = if o = b then 1 else bt1 (f (47 + a)) o) ∧ (∀ o, o < 7 → bt1 (layQ f a b (47 + b)) o = if o = a then 1 else bt1 (f (47 + b)) o) ∧ layQ f a b (47 + a) = (f (47 + a) ||| ((1 : Int32) <<< (nI b &&& 31))) ∧ layQ f a b (47 + b) = (f (47 + b) ||| ((1 : Int32) <<< (nI a &&& 31))) := by
  have n7 := (n_eq W).2.1
  have p7 := pw7 n7
  have ea : layQ f a b (47 + a) = (f (47 + a) ||| ((1 : Int32) <<< (nI b &&& 31))) := by unfold layQ; simp only [upd_e]; rw [if_neg (by omega), if_pos trivial]
  have eb : layQ f a b (47 + b) = (f (47 + b) ||| ((1 : Int32) <<< (nI a &&& 31))) := by unfold layQ; simp only [upd_e]; rw [if_pos trivial]
  obtain ⟨q, hq, eq⟩ := foes_n W ha
  obtain ⟨r, hr, er⟩ := foes_n W hb
  have lq := or_lt (nn f) n7 q hq b hb
  have lr := or_lt (nn f) n7 r hr a ha
  have xq := or_bit q (by omega) b (by omega)
  have xr := or_bit r (by omega) a (by omega)
  refine ⟨fun j z1 z2 => by unfold layQ; simp [upd_e, z1, z2], ⟨q ||| 2 ^ b, lq, by rw [ea, eq, xq]⟩, ⟨r ||| 2 ^ a, lr, by rw [eb, er, xr]⟩, ?_, ?_, ea, eb⟩
  · intro o ho
    rw [ea, eq, xq, bt1_nI (by omega) (by omega), bt1_nI (by omega) (by omega), or_b1 q (by omega) b (by omega) o ho]
    by_cases z : o = b
    · rw [if_pos z, if_pos z]; rfl
    · rw [if_neg z, if_neg z]
  · intro o ho
    rw [eb, er, xr, bt1_nI (by omega) (by omega), bt1_nI (by omega) (by omega), or_b1 r (by omega) a (by omega) o ho]
    by_cases z : o = a
    · rw [if_pos z, if_pos z]; rfl
    · rw [if_neg z, if_neg z]
theorem layQ_n {f : Nat → Int32} {a b : Nat} (W : WF f) (ha : a < nn f) (hb : b < nn f) (hab : a ≠ b) : nn (layQ f a b) = nn f ∧ nq (layQ f a b) = nq f ∧ nu (layQ f a b) = nu f := by
  obtain ⟨ho, -⟩ := layQ_f W ha hb hab
  refine ⟨?_, ?_, ?_⟩
  · unfold nn; rw [ho 0 (by omega) (by omega)]
  · unfold nq; rw [ho 1 (by omega) (by omega)]
  · unfold nu; rw [ho 2 (by omega) (by omega)]
theorem WF_Q {f : Nat → Int32} {a b : Nat} (W : WF f) (ha : a < nn f) (hb : b < nn f) (hab : a ≠ b) : WF (layQ f a b) := by
  obtain ⟨ho, hX, hY, sX, sY, -, -⟩ := layQ_f W ha hb hab
  obtain ⟨e0, e1, e2⟩ := layQ_n W ha hb hab
  have n7 := (n_eq W).2.1
  have q6 := (q_eq W).2
  have u8 := (u_eq W).2
  obtain ⟨⟨a0, a1, a2, a3, a4, a5, a6, a8⟩, w2, w3, w4, w5, w6⟩ := W
  generalize layQ f a b = f' at *
  have tw := pwI (nn f)
  have t7 := pw7 n7
  refine ⟨⟨?_, ?_, ?_, ?_, ?_, ?_, ?_, ?_⟩, ?_, ?_, ?_, ?_, ?_⟩
  · rw [ho _ (by omega) (by omega)]; exact a0
  · rw [ho _ (by omega) (by omega)]; exact a1
  · rw [ho _ (by omega) (by omega)]; exact a2
  · rw [ho _ (by omega) (by omega)]; exact a3
  · rw [ho _ (by omega) (by omega)]; exact a4
  · rw [ho _ (by omega) (by omega)]; exact a5
  · rw [ho _ (by omega) (by omega)]; exact a6
  · rw [ho _ (by omega) (by omega)]; exact a8
  · intro c hc; rw [ho _ (by omega) (by omega)]; exact w2 c hc
  · intro i hi
    rw [e0] at hi
    have := w3 i hi
    unfold WI at this ⊢
    rw [e0, ho (19 + i) (by omega) (by omega), ho (26 + i) (by omega) (by omega), ho (33 + i) (by omega) (by omega), ho (40 + i) (by omega) (by omega)]
    refine ⟨this.1, this.2.1, this.2.2.1, this.2.2.2.1, ?_⟩
    by_cases ca : i = a
    · subst ca
      obtain ⟨q, hq, e⟩ := hX
      rw [e, nI_toInt (by omega)]; omega
    · by_cases cb : i = b
      · subst cb
        obtain ⟨q, hq, e⟩ := hY
        rw [e, nI_toInt (by omega)]; omega
      · rw [ho (47 + i) (by omega) (by omega)]; exact this.2.2.2.2
  · intro i o hi hi2
    rw [e0] at hi hi2
    have key : ∀ i o, i < nn f → o < nn f → bt1 (f' (47 + i)) o = if (i = a ∧ o = b) ∨ (i = b ∧ o = a) then 1 else bt1 (f (47 + i)) o := by
      intro i o hi ho2
      by_cases ca : i = a
      · subst ca
        rw [sX o (by omega)]
        by_cases ob : o = b <;> simp [ob, hab]
      · by_cases cb : i = b
        · subst cb
          rw [sY o (by omega)]
          by_cases oa : o = a <;> simp [oa, ca]
        · rw [ho (47 + i) (by omega) (by omega)]; simp [ca, cb]
    rw [key i o hi hi2, key o i hi2 hi, w4 i o hi hi2]
    by_cases z1 : i = a ∧ o = b
    · simp [z1.1, z1.2]
    · by_cases z2 : i = b ∧ o = a
      · simp [z2.1, z2.2]
      · rw [if_neg (by omega), if_neg (by omega)]
  · intro q hq
    rw [e1] at hq
    rw [ho _ (by omega) (by omega), ho _ (by omega) (by omega)]; exact w5 q hq
  · intro u hu
    rw [e2] at hu
    rw [ho _ (by omega) (by omega), ho _ (by omega) (by omega), ho _ (by omega) (by omega), ho _ (by omega) (by omega)]; exact w6 u hu
theorem setQ_e {b a c : Nat} {f : Nat → Int32} (g : GH h) (hb : isB b) (R : RB h b f) (W : WF f) (ha : a < nn f) (hc : c < nn f) (hac : a ≠ c) : ∃ h', fX0_setQuarrel b (nI a) (nI c) 1 h = some h' ∧ SB b h h' ∧ RB h' b (layQ f a c) := by
  obtain ⟨ho, -, -, -, -, X, Y⟩ := layQ_f W ha hc hac
  obtain ⟨e0, e1, e2⟩ := layQ_n W ha hc hac
  obtain ⟨n0, n7, n1⟩ := n_eq W
  have q6 := (q_eq W).2
  obtain ⟨⟨b1, b2, b3, b4⟩, h2, h3, h4, h5, π, p1, p2, p3⟩ := R
  have ra := (h4 a ha).2.2.2.2
  have rc := (h4 c hc).2.2.2.2
  generalize layQ f a c = f' at *
  have ht : fX0_hasTwo b (nI a) (nI c) h = some 1 := by
    rw [hasTwo_e g hb, b1, nn_t W, inb_ok (by rw [nI_toInt (by omega)]; omega), inb_ok (by rw [nI_toInt (by omega)]; omega), if_neg]
    intro z
    rcases z with z | z | z
    · exact absurd z (by decide)
    · exact absurd z (by decide)
    · exact hac ((nI_eq (by omega) (by omega)).mp z)
  generalize hh1 : sF h (b + 6) (upd (h.2.1 (b + 6)) a (f' (47 + a))) = h1
  have S1 : SB b h h1 := by rw [← hh1]; exact SB_F (SB_rfl b h) (by omega) _
  have g1 := SB_GH g S1
  have r1 : h1.2.1 (b + 6) c = f (47 + c) := by rw [← hh1, sF_eq, upd_e, if_neg (by omega)]; exact rc
  have S2 : SB b h (sF h1 (b + 6) (upd (h1.2.1 (b + 6)) c (f' (47 + c)))) := SB_F S1 (by omega) _
  refine ⟨sF h1 (b + 6) (upd (h1.2.1 (b + 6)) c (f' (47 + c))), ?_, S2, ?_⟩
  · simp only [fX0_setQuarrel, fX0_setQuarrel_j44, fX0_setQuarrel_j79]
    rw [e_at (gb0 g hb), ht, Option.bind_some, if_neg (by decide), gRb7 g hb, Option.bind_some, if_neg (by decide), Option.bind_some, aNb6 g hb (by omega), Option.bind_some, ra, ← X, sNb6 g hb (by omega), Option.bind_some, hh1, gRb7 g1 hb, Option.bind_some, if_neg (by decide), Option.bind_some, aNb6 g1 hb (by omega), Option.bind_some, r1, ← Y, sNb6 g1 hb (by omega), Option.bind_some]
  · have w6 : (sF h1 (b + 6) (upd (h1.2.1 (b + 6)) c (f' (47 + c)))).2.1 (b + 6) = upd (upd (h.2.1 (b + 6)) a (f' (47 + a))) c (f' (47 + c)) := by rw [sF_eq, ← hh1, sF_eq]
    have wo : ∀ x, x ≠ b + 6 → (sF h1 (b + 6) (upd (h1.2.1 (b + 6)) c (f' (47 + c)))).2.1 x = h.2.1 x := fun x hx => by rw [sF_ne hx, ← hh1, sF_ne hx]
    refine ⟨?_, ?_, ?_, ?_, ?_, π, ?_, p2, ?_⟩
    · rw [wo _ (by omega), ho 0 (by omega) (by omega), ho 1 (by omega) (by omega), ho 2 (by omega) (by omega), ho 8 (by omega) (by omega)]; exact ⟨b1, b2, b3, b4⟩
    · intro j hj; rw [wo _ (by omega), ho _ (by omega) (by omega)]; exact h2 j hj
    · intro j hj; rw [wo _ (by omega), ho _ (by omega) (by omega)]; exact h3 j hj
    · intro i hi
      rw [e0] at hi
      obtain ⟨c1, c2, c3, c4, c5⟩ := h4 i hi
      rw [wo _ (by omega), wo _ (by omega), wo _ (by omega), wo _ (by omega), w6, ho (19 + i) (by omega) (by omega), ho (26 + i) (by omega) (by omega), ho (33 + i) (by omega) (by omega), ho (40 + i) (by omega) (by omega)]
      refine ⟨c1, c2, c3, c4, ?_⟩
      simp only [upd_e]
      by_cases y : i = c
      · rw [if_pos y, y]
      · rw [if_neg y]
        by_cases y2 : i = a
        · rw [if_pos y2, y2]
        · rw [if_neg y2, ho _ (by omega) (by omega)]; exact c5
    · intro q hq
      rw [e1] at hq
      rw [wo _ (by omega), wo _ (by omega), wo _ (by omega), wo _ (by omega), ho _ (by omega) (by omega), ho _ (by omega) (by omega), ho _ (by omega) (by omega), ho _ (by omega) (by omega)]; exact h5 q hq
    · intro u hu; rw [S2.2.1]; exact p1 u hu
    · intro u j h8 hu hj
      rw [e2] at hu
      have := (p1 u h8).1
      rw [wo _ (by omega), ho _ (by omega) (by omega)]; exact p3 u j h8 hu hj
end ROWQ
