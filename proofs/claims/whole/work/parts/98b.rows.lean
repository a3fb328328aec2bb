section ROWS
variable {h : Hp}
def layI (f : Nat → Int32) (k ft on off : Int32) : Nat → Int32 := upd (upd (upd (upd (upd (upd f (19 + nn f) k) (26 + nn f) ft) (33 + nn f) on) (40 + nn f) off) (47 + nn f) 0) 0 (nI (nn f + 1))
def layQ (f : Nat → Int32) (a b : Nat) : Nat → Int32 := upd (upd f (47 + a) (f (47 + a) ||| ((1 : Int32) <<< (nI b &&& 31)))) (47 + b) (f (47 + b) ||| ((1 : Int32) <<< (nI a &&& 31)))
theorem layI_f {f : Nat → Int32} {k ft on off : Int32} (n7 : nn f < 7) : (∀ j, j ≠ 19 + nn f → j ≠ 26 + nn f → j ≠ 33 + nn f → j ≠ 40 + nn f → j ≠ 47 + nn f → j ≠ 0 → layI f k ft on off j = f j) ∧ layI f k ft on off 0 = nI (nn f + 1) ∧ layI f k ft on off (19 + nn f) = k ∧ layI f k ft on off (26 + nn f) = ft ∧ layI f k ft on off (33 + nn f) = on ∧ layI f k ft on off (40 + nn f) = off ∧ layI f k ft on off (47 + nn f) = 0 := by
  unfold layI
  refine ⟨fun j z1 z2 z3 z4 z5 z6 => by simp [upd_e, z1, z2, z3, z4, z5, z6], by simp [upd_e], ?_, ?_, ?_, ?_, ?_⟩ <;> simp (disch := omega) [pk_us, pk_un]
theorem layI_n {f : Nat → Int32} {k ft on off : Int32} (n7 : nn f < 7) : nn (layI f k ft on off) = nn f + 1 ∧ nq (layI f k ft on off) = nq f ∧ nu (layI f k ft on off) = nu f := by
  obtain ⟨ho, f0, -⟩ := layI_f (k := k) (ft := ft) (on := on) (off := off) n7
  refine ⟨?_, ?_, ?_⟩
  · show (layI f k ft on off 0).toInt.toNat = _; rw [f0]; exact nI_tt (by omega)
  · unfold nq; rw [ho 1 (by omega) (by omega) (by omega) (by omega) (by omega) (by omega)]
  · unfold nu; rw [ho 2 (by omega) (by omega) (by omega) (by omega) (by omega) (by omega)]
theorem WF_I {f : Nat → Int32} {k ft on off : Int32} (W : WF f) (n7 : nn f < 7) (q1 : rg k 0 5) (q2 : rg ft 1 9) (q3 : rg on 0 8) (q4 : on.toInt + 1 ≤ off.toInt ∧ off.toInt ≤ 9) : WF (layI f k ft on off) := by
  obtain ⟨ho, f0, f19, f26, f33, f40, f47⟩ := layI_f (k := k) (ft := ft) (on := on) (off := off) n7
  obtain ⟨e0, e1, e2⟩ := layI_n (k := k) (ft := ft) (on := on) (off := off) n7
  have W0 := W
  obtain ⟨⟨a0, a1, a2, a3, a4, a5, a6, a8⟩, w2, w3, w4, w5, w6⟩ := W
  generalize layI f k ft on off = f' at *
  generalize hN : nn f = n at *
  unfold rg at q3
  refine ⟨⟨?_, ?_, ?_, ?_, ?_, ?_, ?_, ?_⟩, ?_, ?_, ?_, ?_, ?_⟩
  · rw [f0]; unfold rg; rw [nI_toInt (by omega)]; omega
  · rw [ho _ (by omega) (by omega) (by omega) (by omega) (by omega) (by omega)]; exact a1
  · rw [ho _ (by omega) (by omega) (by omega) (by omega) (by omega) (by omega)]; exact a2
  · rw [ho _ (by omega) (by omega) (by omega) (by omega) (by omega) (by omega)]; exact a3
  · rw [ho _ (by omega) (by omega) (by omega) (by omega) (by omega) (by omega)]; exact a4
  · rw [ho _ (by omega) (by omega) (by omega) (by omega) (by omega) (by omega)]; exact a5
  · rw [ho _ (by omega) (by omega) (by omega) (by omega) (by omega) (by omega)]; exact a6
  · rw [ho _ (by omega) (by omega) (by omega) (by omega) (by omega) (by omega)]; exact a8
  · intro c hc; rw [ho _ (by omega) (by omega) (by omega) (by omega) (by omega) (by omega)]; exact w2 c hc
  · intro i hi
    rw [e0] at hi
    have hp : (2 : Int) ^ n ≤ 2 ^ (n + 1) := by rw [Int.pow_succ]; have : (0 : Int) < 2 ^ n := Int.pow_pos (by omega); omega
    by_cases hin : i = n
    · subst hin
      unfold WI
      rw [f19, f26, f33, f40, f47, e0]
      refine ⟨q1, q2, q3, ⟨by omega, by omega⟩, by simp, ?_⟩
      have : (0 : Int) < 2 ^ (i + 1) := Int.pow_pos (by omega)
      simpa using this
    · have := w3 i (by omega)
      unfold WI at this ⊢
      rw [e0, ho _ (by omega) (by omega) (by omega) (by omega) (by omega) (by omega), ho _ (by omega) (by omega) (by omega) (by omega) (by omega) (by omega), ho _ (by omega) (by omega) (by omega) (by omega) (by omega) (by omega), ho _ (by omega) (by omega) (by omega) (by omega) (by omega) (by omega), ho _ (by omega) (by omega) (by omega) (by omega) (by omega) (by omega)]
      rw [hN] at this
      exact ⟨this.1, this.2.1, this.2.2.1, this.2.2.2.1, this.2.2.2.2.1, by have := this.2.2.2.2.2; omega⟩
  · intro i o hi hi2
    rw [e0] at hi hi2
    have z0 : ∀ c, c < n → bt1 (f (47 + c)) n = 0 := by
      intro c hc
      obtain ⟨q, hq, eq⟩ := foes_n W0 (i := c) (by omega)
      rw [hN] at hq
      have := pw7 (show n ≤ 7 by omega)
      rw [eq, bt1_nI (by omega) (by omega), hi_b0 n (by omega) q hq n (by omega) (Nat.le_refl _)]; rfl
    have zz : ∀ c, c < 8 → bt1 0 c = 0 := by decide
    by_cases h1 : i = n <;> by_cases h2 : o = n
    · subst h1; subst h2; rfl
    · subst h1
      rw [f47, ho (47 + o) (by omega) (by omega) (by omega) (by omega) (by omega) (by omega), z0 o (by omega), zz o (by omega)]
    · subst h2
      rw [f47, ho (47 + i) (by omega) (by omega) (by omega) (by omega) (by omega) (by omega), z0 i (by omega), zz i (by omega)]
    · rw [ho (47 + i) (by omega) (by omega) (by omega) (by omega) (by omega) (by omega), ho (47 + o) (by omega) (by omega) (by omega) (by omega) (by omega) (by omega)]
      exact w4 i o (by omega) (by omega)
  · intro q hq
    rw [e1] at hq
    have q6 : q < 6 := by have := (q_eq W0).2; omega
    rw [ho _ (by omega) (by omega) (by omega) (by omega) (by omega) (by omega), ho _ (by omega) (by omega) (by omega) (by omega) (by omega) (by omega)]; exact w5 q hq
  · intro u hu
    rw [e2] at hu
    rw [ho _ (by omega) (by omega) (by omega) (by omega) (by omega) (by omega), ho _ (by omega) (by omega) (by omega) (by omega) (by omega) (by omega), ho _ (by omega) (by omega) (by omega) (by omega) (by omega) (by omega), ho _ (by omega) (by omega) (by omega) (by omega) (by omega) (by omega)]; exact w6 u hu
theorem addIdea_e {b : Nat} {f : Nat → Int32} {k ft on off : Int32} (g : GH h) (hb : isB b) (R : RB h b f) (W : WF f) (n7 : nn f < 7) : ∃ h', fX0_addIdea b k ft on off h = some h' ∧ SB b h h' ∧ RB h' b (layI f k ft on off) := by
  obtain ⟨ho, f0, f19, f26, f33, f40, f47⟩ := layI_f (k := k) (ft := ft) (on := on) (off := off) n7
  obtain ⟨e0, e1, e2⟩ := layI_n (k := k) (ft := ft) (on := on) (off := off) n7
  obtain ⟨n0, -, -⟩ := n_eq W
  have q6 := (q_eq W).2
  obtain ⟨⟨b1, b2, b3, b4⟩, h2, h3, h4, h5, π, p1, p2, p3⟩ := R
  have bn : h.2.1 b 2 = nI (nn f) := b1.trans n0
  generalize layI f k ft on off = f' at *
  generalize hN : nn f = n at *
  generalize hh5 : sF h (b + 2) (upd (h.2.1 (b + 2)) n k) = h5' at *
  have S5 : SB b h h5' := by rw [← hh5]; exact SB_F (SB_rfl b h) (by omega) _
  generalize hh8 : sF h5' (b + 3) (upd (h5'.2.1 (b + 3)) n ft) = h8' at *
  have S8 : SB b h h8' := by rw [← hh8]; exact SB_F S5 (by omega) _
  generalize hh11 : sF h8' (b + 4) (upd (h8'.2.1 (b + 4)) n on) = h11' at *
  have S11 : SB b h h11' := by rw [← hh11]; exact SB_F S8 (by omega) _
  generalize hh14 : sF h11' (b + 5) (upd (h11'.2.1 (b + 5)) n off) = h14' at *
  have S14 : SB b h h14' := by rw [← hh14]; exact SB_F S11 (by omega) _
  generalize hh17 : sF h14' (b + 6) (upd (h14'.2.1 (b + 6)) n 0) = h17' at *
  have S17 : SB b h h17' := by rw [← hh17]; exact SB_F S14 (by omega) _
  have o5 : ∀ a, a ≠ b + 2 → h5'.2.1 a = h.2.1 a := fun a ha => by rw [← hh5]; exact sF_ne ha
  have o8 : ∀ a, a ≠ b + 3 → h8'.2.1 a = h5'.2.1 a := fun a ha => by rw [← hh8]; exact sF_ne ha
  have o11 : ∀ a, a ≠ b + 4 → h11'.2.1 a = h8'.2.1 a := fun a ha => by rw [← hh11]; exact sF_ne ha
  have o14 : ∀ a, a ≠ b + 5 → h14'.2.1 a = h11'.2.1 a := fun a ha => by rw [← hh14]; exact sF_ne ha
  have o17 : ∀ a, a ≠ b + 6 → h17'.2.1 a = h14'.2.1 a := fun a ha => by rw [← hh17]; exact sF_ne ha
  have c5 : h5'.2.1 b = h.2.1 b := o5 b (by omega)
  have c8 : h8'.2.1 b = h.2.1 b := (o8 b (by omega)).trans c5
  have c11 : h11'.2.1 b = h.2.1 b := (o11 b (by omega)).trans c8
  have c14 : h14'.2.1 b = h.2.1 b := (o14 b (by omega)).trans c11
  have c17 : h17'.2.1 b = h.2.1 b := (o17 b (by omega)).trans c14
  have g5 := SB_GH g S5
  have g8 := SB_GH g S8
  have g11 := SB_GH g S11
  have g14 := SB_GH g S14
  have g17 := SB_GH g S17
  have SF : SB b h (sF h17' b (upd (h.2.1 b) 2 (nI (n + 1)))) := SB_F S17 (by omega) _
  refine ⟨sF h17' b (upd (h.2.1 b) 2 (nI (n + 1))), ?_, SF, ?_⟩
  · simp only [fX0_addIdea]
    rw [gIb g hb, Option.bind_some, bn, if_pos (lt7 n7), gRb3 g hb, Option.bind_some, Option.bind_some, sNb2 g hb (by omega), Option.bind_some, hh5, gRb4 g5 hb, Option.bind_some, gIb g5 hb, Option.bind_some, c5, bn, sNb3 g5 hb (by omega), Option.bind_some, hh8, gRb5 g8 hb, Option.bind_some, gIb g8 hb, Option.bind_some, c8, bn, sNb4 g8 hb (by omega), Option.bind_some, hh11, gRb6 g11 hb, Option.bind_some, gIb g11 hb, Option.bind_some, c11, bn, sNb5 g11 hb (by omega), Option.bind_some, hh14, gRb7 g14 hb, Option.bind_some, gIb g14 hb, Option.bind_some, c14, bn, sNb6 g14 hb (by omega), Option.bind_some, hh17, gIb g17 hb, Option.bind_some, c17, bn, nI_1, e_pI (gb0 g17 hb), Option.bind_some, c17]
  · have w2 : (sF h17' b (upd (h.2.1 b) 2 (nI (n + 1)))).2.1 (b + 2) = upd (h.2.1 (b + 2)) n k := by rw [sF_ne (by omega), o17 _ (by omega), o14 _ (by omega), o11 _ (by omega), o8 _ (by omega), ← hh5, sF_eq]
    have w3 : (sF h17' b (upd (h.2.1 b) 2 (nI (n + 1)))).2.1 (b + 3) = upd (h.2.1 (b + 3)) n ft := by rw [sF_ne (by omega), o17 _ (by omega), o14 _ (by omega), o11 _ (by omega), ← hh8, sF_eq, o5 _ (by omega)]
    have w4 : (sF h17' b (upd (h.2.1 b) 2 (nI (n + 1)))).2.1 (b + 4) = upd (h.2.1 (b + 4)) n on := by rw [sF_ne (by omega), o17 _ (by omega), o14 _ (by omega), ← hh11, sF_eq, o8 _ (by omega), o5 _ (by omega)]
    have w5 : (sF h17' b (upd (h.2.1 b) 2 (nI (n + 1)))).2.1 (b + 5) = upd (h.2.1 (b + 5)) n off := by rw [sF_ne (by omega), o17 _ (by omega), ← hh14, sF_eq, o11 _ (by omega), o8 _ (by omega), o5 _ (by omega)]
    have w6 : (sF h17' b (upd (h.2.1 b) 2 (nI (n + 1)))).2.1 (b + 6) = upd (h.2.1 (b + 6)) n 0 := by rw [sF_ne (by omega), ← hh17, sF_eq, o14 _ (by omega), o11 _ (by omega), o8 _ (by omega), o5 _ (by omega)]
    have wo : ∀ a, a ≠ b → a ≠ b + 2 → a ≠ b + 3 → a ≠ b + 4 → a ≠ b + 5 → a ≠ b + 6 → (sF h17' b (upd (h.2.1 b) 2 (nI (n + 1)))).2.1 a = h.2.1 a := fun a y0 y2 y3 y4 y5 y6 => by rw [sF_ne y0, o17 _ y6, o14 _ y5, o11 _ y4, o8 _ y3, o5 _ y2]
    refine ⟨?_, ?_, ?_, ?_, ?_, π, ?_, p2, ?_⟩
    · rw [sF_eq, f0, ho 1 (by omega) (by omega) (by omega) (by omega) (by omega) (by omega), ho 2 (by omega) (by omega) (by omega) (by omega) (by omega) (by omega), ho 8 (by omega) (by omega) (by omega) (by omega) (by omega) (by omega)]
      simp only [upd_e]
      exact ⟨rfl, b2, b3, b4⟩
    · intro c hc; rw [wo _ (by omega) (by omega) (by omega) (by omega) (by omega) (by omega), ho _ (by omega) (by omega) (by omega) (by omega) (by omega) (by omega)]; exact h2 c hc
    · intro c hc; rw [wo _ (by omega) (by omega) (by omega) (by omega) (by omega) (by omega), ho _ (by omega) (by omega) (by omega) (by omega) (by omega) (by omega)]; exact h3 c hc
    · intro c hc
      rw [e0] at hc
      rw [w2, w3, w4, w5, w6]
      simp only [upd_e]
      by_cases hcn : c = n
      · subst hcn; rw [f19, f26, f33, f40, f47]; simp
      · have := h4 c (by omega)
        rw [ho _ (by omega) (by omega) (by omega) (by omega) (by omega) (by omega), ho _ (by omega) (by omega) (by omega) (by omega) (by omega) (by omega), ho _ (by omega) (by omega) (by omega) (by omega) (by omega) (by omega), ho _ (by omega) (by omega) (by omega) (by omega) (by omega) (by omega), ho _ (by omega) (by omega) (by omega) (by omega) (by omega) (by omega), if_neg hcn, if_neg hcn, if_neg hcn, if_neg hcn, if_neg hcn]
        exact this
    · intro c hc
      rw [e1] at hc
      rw [wo _ (by omega) (by omega) (by omega) (by omega) (by omega) (by omega), wo _ (by omega) (by omega) (by omega) (by omega) (by omega) (by omega), wo _ (by omega) (by omega) (by omega) (by omega) (by omega) (by omega), wo _ (by omega) (by omega) (by omega) (by omega) (by omega) (by omega), ho _ (by omega) (by omega) (by omega) (by omega) (by omega) (by omega), ho _ (by omega) (by omega) (by omega) (by omega) (by omega) (by omega), ho _ (by omega) (by omega) (by omega) (by omega) (by omega) (by omega), ho _ (by omega) (by omega) (by omega) (by omega) (by omega) (by omega)]
      exact h5 c hc
    · intro u hu
      rw [SF.2.1]; exact p1 u hu
    · intro u c h8 hu hc
      rw [e2] at hu
      have := (p1 u h8).1
      rw [wo _ (by omega) (by omega) (by omega) (by omega) (by omega) (by omega), ho _ (by omega) (by omega) (by omega) (by omega) (by omega) (by omega)]
      exact p3 u c h8 hu hc
theorem RB_h {b a : Nat} {f : Nat → Int32} {x : Int32} (R : RB h b f) (W : WF f) (ha : a < 10) : RB (sF h (b + 1) (upd (h.2.1 (b + 1)) a x)) b (upd f (9 + a) x) := by
  have n7 := (n_eq W).2.1
  have q6 := (q_eq W).2
  have fo : ∀ j, j ≠ 9 + a → upd f (9 + a) x j = f j := fun j hj => by rw [upd_e, if_neg hj]
  have e0 : nn (upd f (9 + a) x) = nn f := by unfold nn; rw [fo 0 (by omega)]
  have e1 : nq (upd f (9 + a) x) = nq f := by unfold nq; rw [fo 1 (by omega)]
  have e2 : nu (upd f (9 + a) x) = nu f := by unfold nu; rw [fo 2 (by omega)]
  obtain ⟨⟨b1, b2, b3, b4⟩, h2, h3, h4, h5, π, p1, p2, p3⟩ := R
  refine ⟨?_, ?_, ?_, ?_, ?_, π, p1, p2, ?_⟩
  · rw [sF_ne (by omega), fo 0 (by omega), fo 1 (by omega), fo 2 (by omega), fo 8 (by omega)]; exact ⟨b1, b2, b3, b4⟩
  · intro c hc; rw [sF_ne (by omega), fo _ (by omega)]; exact h2 c hc
  · intro s hs
    rw [sF_eq]
    simp only [upd_e]
    by_cases y : s = a
    · rw [if_pos y, if_pos (by omega)]
    · rw [if_neg y, if_neg (by omega)]; exact h3 s hs
  · intro c hc; rw [e0] at hc
    rw [sF_ne (by omega), sF_ne (by omega), sF_ne (by omega), sF_ne (by omega), sF_ne (by omega), fo _ (by omega), fo _ (by omega), fo _ (by omega), fo _ (by omega), fo _ (by omega)]; exact h4 c hc
  · intro c hc; rw [e1] at hc
    rw [sF_ne (by omega), sF_ne (by omega), sF_ne (by omega), sF_ne (by omega), fo _ (by omega), fo _ (by omega), fo _ (by omega), fo _ (by omega)]; exact h5 c hc
  · intro u c h8 hu hc; rw [e2] at hu
    rw [sF_ne (by omega), fo _ (by omega)]; exact p3 u c h8 hu hc
theorem WF_h {a : Nat} {f : Nat → Int32} {x : Int32} (W : WF f) (ha : a < 10) (hx : rg x 0 9) : WF (upd f (9 + a) x) ∧ nn (upd f (9 + a) x) = nn f ∧ nu (upd f (9 + a) x) = nu f ∧ nq (upd f (9 + a) x) = nq f := by
  have n7 := (n_eq W).2.1
  have q6 := (q_eq W).2
  have u8 := (u_eq W).2
  have fo : ∀ j, j ≠ 9 + a → upd f (9 + a) x j = f j := fun j hj => by rw [upd_e, if_neg hj]
  have e0 : nn (upd f (9 + a) x) = nn f := by unfold nn; rw [fo 0 (by omega)]
  have e1 : nq (upd f (9 + a) x) = nq f := by unfold nq; rw [fo 1 (by omega)]
  have e2 : nu (upd f (9 + a) x) = nu f := by unfold nu; rw [fo 2 (by omega)]
  obtain ⟨w1, w2, w3, w4, w5, w6⟩ := W
  refine ⟨⟨?_, ?_, ?_, ?_, ?_, ?_⟩, e0, e2, e1⟩
  · rw [fo 0 (by omega), fo 1 (by omega), fo 2 (by omega), fo 3 (by omega), fo 4 (by omega), fo 5 (by omega), fo 6 (by omega), fo 8 (by omega)]; exact w1
  · intro s hs
    rw [upd_e]
    by_cases y : s = a
    · rw [if_pos (by omega)]; exact hx
    · rw [if_neg (by omega)]; exact w2 s hs
  · intro i hi; rw [e0] at hi; unfold WI; rw [e0, fo _ (by omega), fo _ (by omega), fo _ (by omega), fo _ (by omega), fo _ (by omega)]; exact w3 i hi
  · intro i o hi ho; rw [e0] at hi ho; rw [fo _ (by omega), fo _ (by omega)]; exact w4 i o hi ho
  · intro q hq; rw [e1] at hq; rw [fo _ (by omega), fo _ (by omega)]; exact w5 q hq
  · intro u hu; rw [e2] at hu; rw [fo _ (by omega), fo _ (by omega), fo _ (by omega), fo _ (by omega)]; exact w6 u hu
end ROWS
