section IMG
variable {h : Hp}
theorem nn_c {f f' : Nat → Int32} (e : ∀ k, k < 118 → f' k = f k) : nn f' = nn f ∧ nq f' = nq f ∧ nu f' = nu f := by
  unfold nn nq nu
  rw [e 0 (by omega), e 1 (by omega), e 2 (by omega)]; exact ⟨rfl, rfl, rfl⟩
theorem RB_c {b : Nat} {f f' : Nat → Int32} (e : ∀ k, k < 118 → f' k = f k) (R : RB h b f) (W : WF f) : RB h b f' := by
  obtain ⟨⟨a1, a2, a3, a4⟩, r2, r3, r4, r5, π, p1, p2, p3⟩ := R
  obtain ⟨e1, e2, e3⟩ := nn_c e
  have n7 := (n_eq W).2.1
  have q6 := (q_eq W).2
  refine ⟨?_, ?_, ?_, ?_, ?_, π, p1, p2, ?_⟩
  · rw [e 0 (by omega), e 1 (by omega), e 2 (by omega), e 8 (by omega)]; exact ⟨a1, a2, a3, a4⟩
  · intro c hc; rw [e _ (by omega)]; exact r2 c hc
  · intro s hs; rw [e _ (by omega)]; exact r3 s hs
  · intro i hi; rw [e1] at hi; rw [e _ (by omega), e _ (by omega), e _ (by omega), e _ (by omega), e _ (by omega)]; exact r4 i hi
  · intro q hq; rw [e2] at hq; rw [e _ (by omega), e _ (by omega), e _ (by omega), e _ (by omega)]; exact r5 q hq
  · intro u c h8 hu hc; rw [e3] at hu; rw [e _ (by omega)]; exact p3 u c h8 hu hc
theorem WF_c {f f' : Nat → Int32} (e : ∀ k, k < 118 → f' k = f k) (W : WF f) : WF f' := by
  obtain ⟨e1, e2, e3⟩ := nn_c e
  have n7 := (n_eq W).2.1
  have q6 := (q_eq W).2
  have u8 := (u_eq W).2
  obtain ⟨w1, w2, w3, w4, w5, w6⟩ := W
  refine ⟨?_, ?_, ?_, ?_, ?_, ?_⟩
  · rw [e 0 (by omega), e 1 (by omega), e 2 (by omega), e 3 (by omega), e 4 (by omega), e 5 (by omega), e 6 (by omega), e 8 (by omega)]; exact w1
  · intro s hs; rw [e _ (by omega)]; exact w2 s hs
  · intro i hi; rw [e1] at hi; unfold WI; rw [e1, e _ (by omega), e _ (by omega), e _ (by omega), e _ (by omega), e _ (by omega)]; exact w3 i hi
  · intro i o hi ho; rw [e1] at hi ho; rw [e _ (by omega), e _ (by omega)]; exact w4 i o hi ho
  · intro q hq; rw [e2] at hq; rw [e _ (by omega), e _ (by omega)]; exact w5 q hq
  · intro u hu; rw [e3] at hu; rw [e _ (by omega), e _ (by omega), e _ (by omega), e _ (by omega)]; exact w6 u hu
/-- the image's bus -/
def ib (i : Nat) : Nat := if i = 0 then 23 else 44
theorem ib_B (i : Nat) : isB (ib i) ∧ ib i ≠ 1 := by
  unfold ib; split
  · exact ⟨Or.inr (Or.inl rfl), by decide⟩
  · exact ⟨Or.inr (Or.inr (Or.inl rfl)), by decide⟩
theorem img_R (g : GH h) {i : Nat} (hi : i < 2) : xgR h 0 (8, 12) 1 = some 22 ∧ xaR h 22 12 (nI i) = some (ib i) := by
  refine ⟨gR0_1 g, ?_⟩
  rw [e_aR (gs22 g) rfl hi (by decide)]
  rcases (by omega : i = 0 ∨ i = 1) with rfl | rfl
  · exact g.2.2.2.1.1
  · exact g.2.2.2.1.2.1
theorem op_image (H : Inv h) (v : Int32) : Op (fX8_image 0 v h) (fX9_image 99 v) := by
  have g := H.1
  by_cases q1 : ¬ (0 ≤ v.toInt ∧ v.toInt ≤ 1)
  · refine Op_bad H (-2) 0 (by omega) ?_ ?_
    · simp (disch := first | exact g | exact GH_F2 g | exact GH_F2 (GH_F2 g) | exact GH_F2 (GH_F2 (GH_F2 g)) | exact GH_F2 (GH_F2 (GH_F2 (GH_F2 g))) | exact GH_F2 (GH_F2 (GH_F2 (GH_F2 (GH_F2 g)))) | exact GH_F2 (GH_F2 (GH_F2 (GH_F2 (GH_F2 (GH_F2 g))))) | exact GH_F2 (GH_F2 (GH_F2 (GH_F2 (GH_F2 (GH_F2 (GH_F2 g)))))) | exact GH_F2 (GH_F2 (GH_F2 (GH_F2 (GH_F2 (GH_F2 (GH_F2 (GH_F2 g))))))) | exact GH_F2 (GH_F2 (GH_F2 (GH_F2 (GH_F2 (GH_F2 (GH_F2 (GH_F2 (GH_F2 g)))))))) | omega | decide) [fX8_image, inb_no q1, gR0_0, gR0_1, gR0_2, gR0_3, gR0_4, gR0_5, gR0_6, gR0_7, gR0_8, gR66_0, gR66_1, gR69_0, gR72_0, gR72_1, gR76_0, gR76_2, gR1_1, gR1_3, gR1_4, gR1_5, gR1_6, gR1_7, gR1_9, gR1_10, gR1_11, gR1_12, gR1_13, gR1_14, gI0, pI0, gT0, gI1, pI1, gT1, gI12, pI12, gT12, gI66, pI66, gT66, gI67, pI67, gT67, gI69, pI69, gT69, gI71, pI71, gT71, gI72, pI72, gT72, gI75, pI75, gT75, gI76, pI76, gT76, aI2, aI3, aI4, aI5, aI6, aI7, aI8, aI9, aI10, aI11, aI65, aI68, aI70, aI73, aI74, aI77, sI2, sI3, sI4, sI5, sI6, sI7, sI8, sI9, sI10, sI11, sI68, sI70, sI73, sI74, sI77, aN2, aN3, aN4, aN5, aN6, aN7, aN8, aN9, aN10, aN11, aN65, aN68, aN70, aN73, aN74, aN77, sN2, sN3, sN4, sN5, sN6, sN7, sN8, sN9, sN10, sN11, sN68, sN70, sN73, sN74, sN77, sZN65, sZ65, refuseBad_e, refuseNo_e, refuseFull_e, refuseOther_e, -Int32.toInt_add, -Int32.toInt_sub, nI_tt, nI_c, la1, lb1, la2, lb2, la3, lb3, la4, lb4, la5, lb5, la6, lb6, la7, lb7, la8, lb8, la9, lb9, la10, lb10, la19, lb19, la26, lb26, la33, lb33, la40, lb40, la47, lb47, la54, lb54, la78, lb78, la83, lb83, la118, lb118, lm2, lm4, lm5, lm10, lm118, t32_0, t64_0, t32_1, t64_1, t32_2, t64_2, t32_3, t64_3, t32_4, t64_4, t32_5, t64_5, t32_6, t64_6, t32_7, t64_7, t32_8, t64_8, t32_9, t64_9, t32_10, t64_10, t32_40, t64_40, t32_60, t64_60, t32_127, t64_127, t32_150, t64_150, t32_200, t64_200, t32_999999, t64_999999, reduceIte, ne01, ne02, ne03, ne04, ne05, ne06, ne07, ne10, ne12, ne13, ne14, ne15, ne16, ne17, ne20, ne21, ne23, ne24, ne25, ne26, ne27, ne30, ne31, ne32, ne34, ne35, ne36, ne37, ne40, ne41, ne42, ne43, ne45, ne46, ne47, ne50, ne51, ne52, ne53, ne54, ne56, ne57, ne60, ne61, ne62, ne63, ne64, ne65, ne67, ne70, ne71, ne72, ne73, ne74, ne75, ne76, eq0, eq1, eq2, eq3, eq4, eq5, eq6, eq7, bit_e, GH_F2, sF_I, sF_s, sF_1, sF_R, sF_L, Option.bind_some, i64_i, in_e, within_e]
    · intro h1 g e
      simp (disch := first | exact g | exact GH_F2 g | exact GH_F2 (GH_F2 g) | exact GH_F2 (GH_F2 (GH_F2 g)) | exact GH_F2 (GH_F2 (GH_F2 (GH_F2 g))) | exact GH_F2 (GH_F2 (GH_F2 (GH_F2 (GH_F2 g)))) | exact GH_F2 (GH_F2 (GH_F2 (GH_F2 (GH_F2 (GH_F2 g))))) | exact GH_F2 (GH_F2 (GH_F2 (GH_F2 (GH_F2 (GH_F2 (GH_F2 g)))))) | exact GH_F2 (GH_F2 (GH_F2 (GH_F2 (GH_F2 (GH_F2 (GH_F2 (GH_F2 g))))))) | exact GH_F2 (GH_F2 (GH_F2 (GH_F2 (GH_F2 (GH_F2 (GH_F2 (GH_F2 (GH_F2 g)))))))) | omega | decide) [fX9_image, inb_no q1, gR99_0, gR99_1, gR99_2, gR99_3, gR99_6, gR99_7, gR99_8, gR99_9, gR99_10, gR99_16, gR99_17, gI99, pI99, gT99, aI100, aI101, aI102, aI103, aI104, aI105, aI106, aI107, aI108, aI109, aI110, sI100, sI101, sI103, sI104, sI105, sI106, sI107, sI108, sI109, sI110, aN100, aN101, aN102, aN103, aN104, aN105, aN106, aN107, aN108, aN109, aN110, sN100, sN101, sN103, sN104, sN105, sN106, sN107, sN108, sN109, sN110, sZN102, sZ102, bad_e, no_e, full_e, many_e, isIdea_e, isStop_e, -Int32.toInt_add, -Int32.toInt_sub, nI_tt, nI_c, la1, lb1, la2, lb2, la3, lb3, la4, lb4, la5, lb5, la6, lb6, la7, lb7, la8, lb8, la9, lb9, la10, lb10, la19, lb19, la26, lb26, la33, lb33, la40, lb40, la47, lb47, la54, lb54, la78, lb78, la83, lb83, la118, lb118, lm2, lm4, lm5, lm10, lm118, t32_0, t64_0, t32_1, t64_1, t32_2, t64_2, t32_3, t64_3, t32_4, t64_4, t32_5, t64_5, t32_6, t64_6, t32_7, t64_7, t32_8, t64_8, t32_9, t64_9, t32_10, t64_10, t32_40, t64_40, t32_60, t64_60, t32_127, t64_127, t32_150, t64_150, t32_200, t64_200, t32_999999, t64_999999, reduceIte, ne01, ne02, ne03, ne04, ne05, ne06, ne07, ne10, ne12, ne13, ne14, ne15, ne16, ne17, ne20, ne21, ne23, ne24, ne25, ne26, ne27, ne30, ne31, ne32, ne34, ne35, ne36, ne37, ne40, ne41, ne42, ne43, ne45, ne46, ne47, ne50, ne51, ne52, ne53, ne54, ne56, ne57, ne60, ne61, ne62, ne63, ne64, ne65, ne67, ne70, ne71, ne72, ne73, ne74, ne75, ne76, eq0, eq1, eq2, eq3, eq4, eq5, eq6, eq7, bit_e, GH_F2, sF_I, sF_s, sF_1, sF_R, sF_L, Option.bind_some, i64_i, in_e, within_e]
  replace q1 := Classical.not_not.mp q1
  have i1 := inb_ok q1
  obtain ⟨i, hi, rfl⟩ := i32_nI (n := 2) (v := v) (by omega)
  obtain ⟨bB, b1⟩ := ib_B i
  obtain ⟨x1, x2⟩ := img_R g hi
  have W := H.2.2.1
  obtain ⟨i0, i1'⟩ := H.2.2.2.1
  obtain ⟨p0, p1, p2⟩ := H.2.2.2.2.2.2.2
  have P : PS h (ib i) := by unfold ib; split <;> assumption
  obtain ⟨h1, e1, S1, R1⟩ := Take_e g bB (Or.inl rfl) b1 H.2.1 W P
  have g1 := SB_GH g S1
  have bi : (ib i = 23 ∧ i = 0) ∨ (ib i = 44 ∧ i = 1) := by unfold ib; split <;> omega
  have g2 : GH (sF h1 65 (upd (h1.2.1 65) i 1)) := g1
  have l := image19_e (h := sF h1 65 (upd (h1.2.1 65) i 1)) g2 hi
  have c100 : (sF h1 65 (upd (h1.2.1 65) i 1)).2.1 100 = h.2.1 100 := by rw [sF_ne (by decide)]; exact S1.2.2 100 (by omega)
  have c101 : (sF h1 65 (upd (h1.2.1 65) i 1)).2.1 101 = h.2.1 101 := by rw [sF_ne (by decide)]; exact S1.2.2 101 (by omega)
  have c65 : h1.2.1 65 = h.2.1 65 := S1.2.2 65 (by omega)
  have c102 : (sF h1 65 (upd (h1.2.1 65) i 1)).2.1 102 = h.2.1 102 := by rw [sF_ne (by decide)]; exact S1.2.2 102 (by omega)
  rw [c100, c101] at l
  generalize hK : (fun k => if 118 * i ≤ k ∧ k < 118 * i + 118 then h.2.1 100 (k - 118 * i) else h.2.1 101 k) = K at l
  have g3 : GH (sF (sF h1 65 (upd (h1.2.1 65) i 1)) 101 K) := g1
  refine ⟨1, sF h1 65 (upd (h1.2.1 65) i 1), sF (sF (sF h1 65 (upd (h1.2.1 65) i 1)) 101 K) 102 (upd (h.2.1 102) i 1), ?_, g1, ?_, ?_⟩
  · simp only [fX8_image]
    rw [within_e, Option.bind_some]
    simp only [t32_0, t32_1]
    rw [i1, if_neg (by decide), x1, Option.bind_some, x2, Option.bind_some, gR0_0 g, Option.bind_some, e_at (gb0 g bB), e1, Option.bind_some, gR0_2 g1, Option.bind_some, sZN65 g1 hi, Option.bind_some]
    rfl
  · simp only [fX9_image]
    rw [in_e, Option.bind_some, i64_i]
    simp only [t64_0, t64_1]
    rw [i1, if_neg (by decide), l, Option.bind_some]
    simp only []
    rw [gR99_2 g3, Option.bind_some, sZN102 g3 hi, Option.bind_some, sF_ne (by decide), c102]
    rfl
  · have cel : ∀ a, a ≠ 65 → a ≠ 101 → a ≠ 102 → ¬ (ib i ≤ a ∧ a < ib i + 21) → (sF (sF (sF h1 65 (upd (h1.2.1 65) i 1)) 101 K) 102 (upd (h.2.1 102) i 1)).2.1 a = h.2.1 a := fun a y1 y2 y3 y4 => by rw [sF_ne y3, sF_ne y2, sF_ne y1]; exact S1.2.2 a y4
    have z65 : (sF (sF (sF h1 65 (upd (h1.2.1 65) i 1)) 101 K) 102 (upd (h.2.1 102) i 1)).2.1 65 = upd (h.2.1 65) i 1 := by rw [sF_ne (by decide), sF_ne (by decide), sF_eq, c65]
    have z101 : (sF (sF (sF h1 65 (upd (h1.2.1 65) i 1)) 101 K) 102 (upd (h.2.1 102) i 1)).2.1 101 = K := by rw [sF_ne (by decide), sF_eq]
    have z102 : (sF (sF (sF h1 65 (upd (h1.2.1 65) i 1)) 101 K) 102 (upd (h.2.1 102) i 1)).2.1 102 = upd (h.2.1 102) i 1 := sF_eq
    have zb : ∀ a, ib i ≤ a → a < ib i + 21 → (sF (sF (sF h1 65 (upd (h1.2.1 65) i 1)) 101 K) 102 (upd (h.2.1 102) i 1)).2.1 a = h1.2.1 a := fun a y1 y2 => by rw [sF_ne (by omega), sF_ne (by omega), sF_ne (by omega)]
    have zR : (sF (sF (sF h1 65 (upd (h1.2.1 65) i 1)) 101 K) 102 (upd (h.2.1 102) i 1)).2.2 = h.2.2 := S1.2.1
    have g4 : GH (sF (sF (sF h1 65 (upd (h1.2.1 65) i 1)) 101 K) 102 (upd (h.2.1 102) i 1)) := g1
    generalize sF (sF (sF h1 65 (upd (h1.2.1 65) i 1)) 101 K) 102 (upd (h.2.1 102) i 1) = h3 at cel z65 z101 z102 zb zR g4
    have zR2 : ∀ a, h3.2.2.2 a = h.2.2.2 a := fun a => by rw [zR]
    have Kself : ∀ k, k < 118 → K (118 * i + k) = h.2.1 100 k := fun k hk => by
      rw [← hK]; simp only []; rw [if_pos (by omega)]; exact congrArg (h.2.1 100) (by omega)
    have Rn : RB h3 (ib i) (fun k => K (118 * i + k)) := RB_c (fun k hk => Kself k hk) (RB_keep R1 zb (by rw [zR2, S1.2.1])) W
    have Wn : WF (fun k => K (118 * i + k)) := WF_c (fun k hk => Kself k hk) W
    have own : ∀ c, c = ib i → IM h3 i c := fun c hc => by
      subst hc
      unfold IM
      rw [z65, z102, z101]
      simp only [upd_e, if_true]
      exact ⟨trivial, Or.inr ⟨trivial, Rn, Wn⟩⟩
    have oth : ∀ j c, j < 2 → j ≠ i → (c = 23 ∨ c = 44) → c ≠ ib i → IM h j c → IM h3 j c := by
      intro j c hj hji hc hci I
      have ke : ∀ k, k < 118 → K (118 * j + k) = h.2.1 101 (118 * j + k) := fun k hk => by
        rw [← hK]; simp only []; rw [if_neg (by omega)]
      unfold IM at I ⊢
      rw [z65, z102, z101]
      simp only [upd_e]
      rw [if_neg hji, if_neg hji]
      refine ⟨I.1, I.2.imp id (fun q => ⟨q.1, ?_, ?_⟩)⟩
      · exact RB_c (fun k hk => ke k hk) (RB_keep q.2.1 (fun a y1 y2 => cel a (by omega) (by omega) (by omega) (by omega)) (zR2 _)) q.2.2
      · exact WF_c (fun k hk => ke k hk) q.2.2
    have z100 : h3.2.1 100 = h.2.1 100 := cel 100 (by omega) (by omega) (by omega) (by omega)
    refine ⟨g4, ?_, ?_, ⟨?_, ?_⟩, ?_, ?_, ?_, PS_keep p0 (zR2 _), PS_keep p1 (zR2 _), PS_keep p2 (zR2 _)⟩
    · rw [z100]; exact RB_keep H.2.1 (fun a y1 y2 => cel a (by omega) (by omega) (by omega) (by omega)) (zR2 _)
    · rw [z100]; exact W
    · rcases bi with ⟨y1, y2⟩ | ⟨y1, y2⟩
      · subst y2; exact own 23 y1.symm
      · subst y2; exact oth 0 23 (by omega) (by omega) (Or.inl rfl) (by omega) i0
    · rcases bi with ⟨y1, y2⟩ | ⟨y1, y2⟩
      · subst y2; exact oth 1 44 (by omega) (by omega) (Or.inr rfl) (by omega) i1'
      · subst y2; exact own 44 y1.symm
    · unfold TX
      rw [cel 76 (by omega) (by omega) (by omega) (by omega), cel 99 (by omega) (by omega) (by omega) (by omega), cel 77 (by omega) (by omega) (by omega) (by omega), cel 108 (by omega) (by omega) (by omega) (by omega)]
      exact H.2.2.2.2.1
    · unfold FR; rw [zR]; exact H.2.2.2.2.2.1
    · unfold ST
      rw [cel 0 (by omega) (by omega) (by omega) (by omega), cel 103 (by omega) (by omega) (by omega) (by omega)]
      exact H.2.2.2.2.2.2.1
theorem op_from (H : Inv h) (v : Int32) : Op (fX8_from 0 v h) (fX9_from 99 v) := by
  have g := H.1
  by_cases q1 : ¬ (0 ≤ v.toInt ∧ v.toInt ≤ 1)
  · refine Op_bad H (-2) 0 (by omega) ?_ ?_
    · simp (disch := first | exact g | exact GH_F2 g | exact GH_F2 (GH_F2 g) | exact GH_F2 (GH_F2 (GH_F2 g)) | exact GH_F2 (GH_F2 (GH_F2 (GH_F2 g))) | exact GH_F2 (GH_F2 (GH_F2 (GH_F2 (GH_F2 g)))) | exact GH_F2 (GH_F2 (GH_F2 (GH_F2 (GH_F2 (GH_F2 g))))) | exact GH_F2 (GH_F2 (GH_F2 (GH_F2 (GH_F2 (GH_F2 (GH_F2 g)))))) | exact GH_F2 (GH_F2 (GH_F2 (GH_F2 (GH_F2 (GH_F2 (GH_F2 (GH_F2 g))))))) | exact GH_F2 (GH_F2 (GH_F2 (GH_F2 (GH_F2 (GH_F2 (GH_F2 (GH_F2 (GH_F2 g)))))))) | omega | decide) [fX8_from, inb_no q1, gR0_0, gR0_1, gR0_2, gR0_3, gR0_4, gR0_5, gR0_6, gR0_7, gR0_8, gR66_0, gR66_1, gR69_0, gR72_0, gR72_1, gR76_0, gR76_2, gR1_1, gR1_3, gR1_4, gR1_5, gR1_6, gR1_7, gR1_9, gR1_10, gR1_11, gR1_12, gR1_13, gR1_14, gI0, pI0, gT0, gI1, pI1, gT1, gI12, pI12, gT12, gI66, pI66, gT66, gI67, pI67, gT67, gI69, pI69, gT69, gI71, pI71, gT71, gI72, pI72, gT72, gI75, pI75, gT75, gI76, pI76, gT76, aI2, aI3, aI4, aI5, aI6, aI7, aI8, aI9, aI10, aI11, aI65, aI68, aI70, aI73, aI74, aI77, sI2, sI3, sI4, sI5, sI6, sI7, sI8, sI9, sI10, sI11, sI68, sI70, sI73, sI74, sI77, aN2, aN3, aN4, aN5, aN6, aN7, aN8, aN9, aN10, aN11, aN65, aN68, aN70, aN73, aN74, aN77, sN2, sN3, sN4, sN5, sN6, sN7, sN8, sN9, sN10, sN11, sN68, sN70, sN73, sN74, sN77, sZN65, sZ65, refuseBad_e, refuseNo_e, refuseFull_e, refuseOther_e, -Int32.toInt_add, -Int32.toInt_sub, nI_tt, nI_c, la1, lb1, la2, lb2, la3, lb3, la4, lb4, la5, lb5, la6, lb6, la7, lb7, la8, lb8, la9, lb9, la10, lb10, la19, lb19, la26, lb26, la33, lb33, la40, lb40, la47, lb47, la54, lb54, la78, lb78, la83, lb83, la118, lb118, lm2, lm4, lm5, lm10, lm118, t32_0, t64_0, t32_1, t64_1, t32_2, t64_2, t32_3, t64_3, t32_4, t64_4, t32_5, t64_5, t32_6, t64_6, t32_7, t64_7, t32_8, t64_8, t32_9, t64_9, t32_10, t64_10, t32_40, t64_40, t32_60, t64_60, t32_127, t64_127, t32_150, t64_150, t32_200, t64_200, t32_999999, t64_999999, reduceIte, ne01, ne02, ne03, ne04, ne05, ne06, ne07, ne10, ne12, ne13, ne14, ne15, ne16, ne17, ne20, ne21, ne23, ne24, ne25, ne26, ne27, ne30, ne31, ne32, ne34, ne35, ne36, ne37, ne40, ne41, ne42, ne43, ne45, ne46, ne47, ne50, ne51, ne52, ne53, ne54, ne56, ne57, ne60, ne61, ne62, ne63, ne64, ne65, ne67, ne70, ne71, ne72, ne73, ne74, ne75, ne76, eq0, eq1, eq2, eq3, eq4, eq5, eq6, eq7, bit_e, GH_F2, sF_I, sF_s, sF_1, sF_R, sF_L, Option.bind_some, i64_i, in_e, within_e]
    · intro h1 g e
      simp (disch := first | exact g | exact GH_F2 g | exact GH_F2 (GH_F2 g) | exact GH_F2 (GH_F2 (GH_F2 g)) | exact GH_F2 (GH_F2 (GH_F2 (GH_F2 g))) | exact GH_F2 (GH_F2 (GH_F2 (GH_F2 (GH_F2 g)))) | exact GH_F2 (GH_F2 (GH_F2 (GH_F2 (GH_F2 (GH_F2 g))))) | exact GH_F2 (GH_F2 (GH_F2 (GH_F2 (GH_F2 (GH_F2 (GH_F2 g)))))) | exact GH_F2 (GH_F2 (GH_F2 (GH_F2 (GH_F2 (GH_F2 (GH_F2 (GH_F2 g))))))) | exact GH_F2 (GH_F2 (GH_F2 (GH_F2 (GH_F2 (GH_F2 (GH_F2 (GH_F2 (GH_F2 g)))))))) | omega | decide) [fX9_from, inb_no q1, gR99_0, gR99_1, gR99_2, gR99_3, gR99_6, gR99_7, gR99_8, gR99_9, gR99_10, gR99_16, gR99_17, gI99, pI99, gT99, aI100, aI101, aI102, aI103, aI104, aI105, aI106, aI107, aI108, aI109, aI110, sI100, sI101, sI103, sI104, sI105, sI106, sI107, sI108, sI109, sI110, aN100, aN101, aN102, aN103, aN104, aN105, aN106, aN107, aN108, aN109, aN110, sN100, sN101, sN103, sN104, sN105, sN106, sN107, sN108, sN109, sN110, sZN102, sZ102, bad_e, no_e, full_e, many_e, isIdea_e, isStop_e, -Int32.toInt_add, -Int32.toInt_sub, nI_tt, nI_c, la1, lb1, la2, lb2, la3, lb3, la4, lb4, la5, lb5, la6, lb6, la7, lb7, la8, lb8, la9, lb9, la10, lb10, la19, lb19, la26, lb26, la33, lb33, la40, lb40, la47, lb47, la54, lb54, la78, lb78, la83, lb83, la118, lb118, lm2, lm4, lm5, lm10, lm118, t32_0, t64_0, t32_1, t64_1, t32_2, t64_2, t32_3, t64_3, t32_4, t64_4, t32_5, t64_5, t32_6, t64_6, t32_7, t64_7, t32_8, t64_8, t32_9, t64_9, t32_10, t64_10, t32_40, t64_40, t32_60, t64_60, t32_127, t64_127, t32_150, t64_150, t32_200, t64_200, t32_999999, t64_999999, reduceIte, ne01, ne02, ne03, ne04, ne05, ne06, ne07, ne10, ne12, ne13, ne14, ne15, ne16, ne17, ne20, ne21, ne23, ne24, ne25, ne26, ne27, ne30, ne31, ne32, ne34, ne35, ne36, ne37, ne40, ne41, ne42, ne43, ne45, ne46, ne47, ne50, ne51, ne52, ne53, ne54, ne56, ne57, ne60, ne61, ne62, ne63, ne64, ne65, ne67, ne70, ne71, ne72, ne73, ne74, ne75, ne76, eq0, eq1, eq2, eq3, eq4, eq5, eq6, eq7, bit_e, GH_F2, sF_I, sF_s, sF_1, sF_R, sF_L, Option.bind_some, i64_i, in_e, within_e]
  replace q1 := Classical.not_not.mp q1
  have i1 := inb_ok q1
  obtain ⟨i, hi, rfl⟩ := i32_nI (n := 2) (v := v) (by omega)
  obtain ⟨bB, b1⟩ := ib_B i
  obtain ⟨x1, x2⟩ := img_R g hi
  have W := H.2.2.1
  have I : IM h i (ib i) := by
    rcases (by omega : i = 0 ∨ i = 1) with rfl | rfl
    · exact H.2.2.2.1.1
    · exact H.2.2.2.1.2
  have P1 : PS h 1 := by
    obtain ⟨-, -, -, -, -, π, p1, p2, -⟩ := H.2.1
    exact ⟨π, p1, p2⟩
  rcases I.2 with k0 | ⟨k1, R, WI'⟩
  · refine Op_bad H (-3) 1 (by omega) ?_ ?_
    · simp only [fX8_from]
      rw [within_e, Option.bind_some]
      simp only [t32_0, t32_1]
      rw [i1, if_neg (by decide), gR0_2 g, Option.bind_some, aN65 g hi, Option.bind_some, I.1, k0, if_pos rfl, gT0 g, refuseNo_e g, Option.bind_some]
    · intro h1 g e
      simp only [fX9_from]
      rw [in_e, Option.bind_some, i64_i]
      simp only [t64_0, t64_1]
      rw [i1, if_neg (by decide), gR99_2 g, Option.bind_some, aN102 g hi, Option.bind_some, e 102 (by decide), k0, if_pos rfl, gT99 g, no_e g, Option.bind_some]
  obtain ⟨h1, e1, S1, R1⟩ := Take_e g (Or.inl rfl) bB b1.symm R WI' P1
  have g1 := SB_GH g S1
  have l := from33_e g1 hi
  have c100 : h1.2.1 100 = h.2.1 100 := S1.2.2 100 (by omega)
  have c101 : h1.2.1 101 = h.2.1 101 := S1.2.2 101 (by omega)
  have c102 : h1.2.1 102 = h.2.1 102 := S1.2.2 102 (by omega)
  rw [c100, c101] at l
  generalize hK : (fun k => if k < 118 then h.2.1 101 (118 * i + k) else h.2.1 100 k) = K at l
  have ke : ∀ k, k < 118 → K k = h.2.1 101 (118 * i + k) := fun k hk => by rw [← hK]; simp only []; rw [if_pos hk]
  have z100 : (sF h1 100 K).2.1 100 = K := sF_eq
  refine ⟨1, h1, sF h1 100 K, ?_, g1, ?_, ?_⟩
  · simp only [fX8_from]
    rw [within_e, Option.bind_some]
    simp only [t32_0, t32_1]
    rw [i1, if_neg (by decide), gR0_2 g, Option.bind_some, aN65 g hi, Option.bind_some, I.1, k1, if_neg (by decide), gR0_0 g, Option.bind_some, x1, Option.bind_some, x2, Option.bind_some, gT1 g, e1, Option.bind_some]
  · simp only [fX9_from]
    rw [in_e, Option.bind_some, i64_i]
    simp only [t64_0, t64_1]
    rw [i1, if_neg (by decide), gR99_2 g1, Option.bind_some, aN102 g1 hi, Option.bind_some, c102, k1, if_neg (by decide), l, Option.bind_some]
  · refine Inv_bus H S1.1 (fun a _ => by show h1.2.2.2 a = _; rw [S1.2.1]) (fun a ha => ?_) (by show h1.2.2.1 = _; rw [S1.2.1]) ?_ ?_
    · unfold keep at ha; rw [sF_ne (by omega)]; exact S1.2.2 a (by omega)
    · rw [z100]
      exact RB_c ke (RB_keep R1 (fun a y1 y2 => sF_ne (by omega)) rfl) WI'
    · rw [z100]; exact WF_c ke WI'
end IMG
