section OPS15
variable {h : Hp}
theorem op_then (H : Inv h) (v w : Int32) : Op (fX8_then 0 v w h) (fX9_then 99 v w) := by
  have g := H.1
  have W := H.2.2.1
  have r0 := H.2.1.2.1 0 (by omega)
  simp only [Nat.reduceAdd] at r0
  obtain ⟨k0, hk0, ek⟩ := k0_of H
  have tk0 : (nI k0).toInt = (k0 : Int) := nI_toInt (by omega)
  by_cases q1 : ¬ ((k0 : Int) ≤ v.toInt ∧ v.toInt ≤ 9)
  · refine Op_bad H (-2) 0 (by omega) ?_ ?_
    · simp (disch := first | exact g | exact GH_F2 g | exact GH_F2 (GH_F2 g) | exact GH_F2 (GH_F2 (GH_F2 g)) | exact GH_F2 (GH_F2 (GH_F2 (GH_F2 g))) | exact GH_F2 (GH_F2 (GH_F2 (GH_F2 (GH_F2 g)))) | exact GH_F2 (GH_F2 (GH_F2 (GH_F2 (GH_F2 (GH_F2 g))))) | exact GH_F2 (GH_F2 (GH_F2 (GH_F2 (GH_F2 (GH_F2 (GH_F2 g)))))) | exact GH_F2 (GH_F2 (GH_F2 (GH_F2 (GH_F2 (GH_F2 (GH_F2 (GH_F2 g))))))) | exact GH_F2 (GH_F2 (GH_F2 (GH_F2 (GH_F2 (GH_F2 (GH_F2 (GH_F2 (GH_F2 g)))))))) | omega | decide) [fX8_then, fX8_then_j28, r0, ek, tk0, inb_no q1, gR0_0, gR0_1, gR0_2, gR0_3, gR0_4, gR0_5, gR0_6, gR0_7, gR0_8, gR66_0, gR66_1, gR69_0, gR72_0, gR72_1, gR76_0, gR76_2, gR1_1, gR1_3, gR1_4, gR1_5, gR1_6, gR1_7, gR1_9, gR1_10, gR1_11, gR1_12, gR1_13, gR1_14, gI0, pI0, gT0, gI1, pI1, gT1, gI12, pI12, gT12, gI66, pI66, gT66, gI67, pI67, gT67, gI69, pI69, gT69, gI71, pI71, gT71, gI72, pI72, gT72, gI75, pI75, gT75, gI76, pI76, gT76, aI2, aI3, aI4, aI5, aI6, aI7, aI8, aI9, aI10, aI11, aI65, aI68, aI70, aI73, aI74, aI77, sI2, sI3, sI4, sI5, sI6, sI7, sI8, sI9, sI10, sI11, sI68, sI70, sI73, sI74, sI77, aN2, aN3, aN4, aN5, aN6, aN7, aN8, aN9, aN10, aN11, aN65, aN68, aN70, aN73, aN74, aN77, sN2, sN3, sN4, sN5, sN6, sN7, sN8, sN9, sN10, sN11, sN68, sN70, sN73, sN74, sN77, sZN65, sZ65, refuseBad_e, refuseNo_e, refuseFull_e, refuseOther_e, -Int32.toInt_add, -Int32.toInt_sub, nI_tt, nI_c, la1, lb1, la2, lb2, la3, lb3, la4, lb4, la5, lb5, la6, lb6, la7, lb7, la8, lb8, la9, lb9, la10, lb10, la19, lb19, la26, lb26, la33, lb33, la40, lb40, la47, lb47, la54, lb54, la78, lb78, la83, lb83, la118, lb118, lm2, lm4, lm5, lm10, lm118, t32_0, t64_0, t32_1, t64_1, t32_2, t64_2, t32_3, t64_3, t32_4, t64_4, t32_5, t64_5, t32_6, t64_6, t32_7, t64_7, t32_8, t64_8, t32_9, t64_9, t32_10, t64_10, t32_40, t64_40, t32_60, t64_60, t32_127, t64_127, t32_150, t64_150, t32_200, t64_200, t32_999999, t64_999999, reduceIte, ne01, ne02, ne03, ne04, ne05, ne06, ne07, ne10, ne12, ne13, ne14, ne15, ne16, ne17, ne20, ne21, ne23, ne24, ne25, ne26, ne27, ne30, ne31, ne32, ne34, ne35, ne36, ne37, ne40, ne41, ne42, ne43, ne45, ne46, ne47, ne50, ne51, ne52, ne53, ne54, ne56, ne57, ne60, ne61, ne62, ne63, ne64, ne65, ne67, ne70, ne71, ne72, ne73, ne74, ne75, ne76, eq0, eq1, eq2, eq3, eq4, eq5, eq6, eq7, bit_e, GH_F2, sF_I, sF_s, sF_1, sF_R, sF_L, Option.bind_some, i64_i, in_e, within_e]
    · intro h1 g e
      simp (disch := first | exact g | exact GH_F2 g | exact GH_F2 (GH_F2 g) | exact GH_F2 (GH_F2 (GH_F2 g)) | exact GH_F2 (GH_F2 (GH_F2 (GH_F2 g))) | exact GH_F2 (GH_F2 (GH_F2 (GH_F2 (GH_F2 g)))) | exact GH_F2 (GH_F2 (GH_F2 (GH_F2 (GH_F2 (GH_F2 g))))) | exact GH_F2 (GH_F2 (GH_F2 (GH_F2 (GH_F2 (GH_F2 (GH_F2 g)))))) | exact GH_F2 (GH_F2 (GH_F2 (GH_F2 (GH_F2 (GH_F2 (GH_F2 (GH_F2 g))))))) | exact GH_F2 (GH_F2 (GH_F2 (GH_F2 (GH_F2 (GH_F2 (GH_F2 (GH_F2 (GH_F2 g)))))))) | omega | decide) [fX9_then, fX9_then_j30, e 100 (by decide), ek, tk0, inb_no q1, gR99_0, gR99_1, gR99_2, gR99_3, gR99_6, gR99_7, gR99_8, gR99_9, gR99_10, gR99_16, gR99_17, gI99, pI99, gT99, aI100, aI101, aI102, aI103, aI104, aI105, aI106, aI107, aI108, aI109, aI110, sI100, sI101, sI103, sI104, sI105, sI106, sI107, sI108, sI109, sI110, aN100, aN101, aN102, aN103, aN104, aN105, aN106, aN107, aN108, aN109, aN110, sN100, sN101, sN103, sN104, sN105, sN106, sN107, sN108, sN109, sN110, sZN102, sZ102, bad_e, no_e, full_e, many_e, isIdea_e, isStop_e, -Int32.toInt_add, -Int32.toInt_sub, nI_tt, nI_c, la1, lb1, la2, lb2, la3, lb3, la4, lb4, la5, lb5, la6, lb6, la7, lb7, la8, lb8, la9, lb9, la10, lb10, la19, lb19, la26, lb26, la33, lb33, la40, lb40, la47, lb47, la54, lb54, la78, lb78, la83, lb83, la118, lb118, lm2, lm4, lm5, lm10, lm118, t32_0, t64_0, t32_1, t64_1, t32_2, t64_2, t32_3, t64_3, t32_4, t64_4, t32_5, t64_5, t32_6, t64_6, t32_7, t64_7, t32_8, t64_8, t32_9, t64_9, t32_10, t64_10, t32_40, t64_40, t32_60, t64_60, t32_127, t64_127, t32_150, t64_150, t32_200, t64_200, t32_999999, t64_999999, reduceIte, ne01, ne02, ne03, ne04, ne05, ne06, ne07, ne10, ne12, ne13, ne14, ne15, ne16, ne17, ne20, ne21, ne23, ne24, ne25, ne26, ne27, ne30, ne31, ne32, ne34, ne35, ne36, ne37, ne40, ne41, ne42, ne43, ne45, ne46, ne47, ne50, ne51, ne52, ne53, ne54, ne56, ne57, ne60, ne61, ne62, ne63, ne64, ne65, ne67, ne70, ne71, ne72, ne73, ne74, ne75, ne76, eq0, eq1, eq2, eq3, eq4, eq5, eq6, eq7, bit_e, GH_F2, sF_I, sF_s, sF_1, sF_R, sF_L, Option.bind_some, i64_i, in_e, within_e]
  replace q1 := Classical.not_not.mp q1
  by_cases q2 : ¬ (0 ≤ w.toInt ∧ w.toInt ≤ 2)
  · refine Op_bad H (-2) 0 (by omega) ?_ ?_
    · simp (disch := first | exact g | exact GH_F2 g | exact GH_F2 (GH_F2 g) | exact GH_F2 (GH_F2 (GH_F2 g)) | exact GH_F2 (GH_F2 (GH_F2 (GH_F2 g))) | exact GH_F2 (GH_F2 (GH_F2 (GH_F2 (GH_F2 g)))) | exact GH_F2 (GH_F2 (GH_F2 (GH_F2 (GH_F2 (GH_F2 g))))) | exact GH_F2 (GH_F2 (GH_F2 (GH_F2 (GH_F2 (GH_F2 (GH_F2 g)))))) | exact GH_F2 (GH_F2 (GH_F2 (GH_F2 (GH_F2 (GH_F2 (GH_F2 (GH_F2 g))))))) | exact GH_F2 (GH_F2 (GH_F2 (GH_F2 (GH_F2 (GH_F2 (GH_F2 (GH_F2 (GH_F2 g)))))))) | omega | decide) [fX8_then, fX8_then_j28, r0, ek, tk0, inb_ok q1, inb_no q2, gR0_0, gR0_1, gR0_2, gR0_3, gR0_4, gR0_5, gR0_6, gR0_7, gR0_8, gR66_0, gR66_1, gR69_0, gR72_0, gR72_1, gR76_0, gR76_2, gR1_1, gR1_3, gR1_4, gR1_5, gR1_6, gR1_7, gR1_9, gR1_10, gR1_11, gR1_12, gR1_13, gR1_14, gI0, pI0, gT0, gI1, pI1, gT1, gI12, pI12, gT12, gI66, pI66, gT66, gI67, pI67, gT67, gI69, pI69, gT69, gI71, pI71, gT71, gI72, pI72, gT72, gI75, pI75, gT75, gI76, pI76, gT76, aI2, aI3, aI4, aI5, aI6, aI7, aI8, aI9, aI10, aI11, aI65, aI68, aI70, aI73, aI74, aI77, sI2, sI3, sI4, sI5, sI6, sI7, sI8, sI9, sI10, sI11, sI68, sI70, sI73, sI74, sI77, aN2, aN3, aN4, aN5, aN6, aN7, aN8, aN9, aN10, aN11, aN65, aN68, aN70, aN73, aN74, aN77, sN2, sN3, sN4, sN5, sN6, sN7, sN8, sN9, sN10, sN11, sN68, sN70, sN73, sN74, sN77, sZN65, sZ65, refuseBad_e, refuseNo_e, refuseFull_e, refuseOther_e, -Int32.toInt_add, -Int32.toInt_sub, nI_tt, nI_c, la1, lb1, la2, lb2, la3, lb3, la4, lb4, la5, lb5, la6, lb6, la7, lb7, la8, lb8, la9, lb9, la10, lb10, la19, lb19, la26, lb26, la33, lb33, la40, lb40, la47, lb47, la54, lb54, la78, lb78, la83, lb83, la118, lb118, lm2, lm4, lm5, lm10, lm118, t32_0, t64_0, t32_1, t64_1, t32_2, t64_2, t32_3, t64_3, t32_4, t64_4, t32_5, t64_5, t32_6, t64_6, t32_7, t64_7, t32_8, t64_8, t32_9, t64_9, t32_10, t64_10, t32_40, t64_40, t32_60, t64_60, t32_127, t64_127, t32_150, t64_150, t32_200, t64_200, t32_999999, t64_999999, reduceIte, ne01, ne02, ne03, ne04, ne05, ne06, ne07, ne10, ne12, ne13, ne14, ne15, ne16, ne17, ne20, ne21, ne23, ne24, ne25, ne26, ne27, ne30, ne31, ne32, ne34, ne35, ne36, ne37, ne40, ne41, ne42, ne43, ne45, ne46, ne47, ne50, ne51, ne52, ne53, ne54, ne56, ne57, ne60, ne61, ne62, ne63, ne64, ne65, ne67, ne70, ne71, ne72, ne73, ne74, ne75, ne76, eq0, eq1, eq2, eq3, eq4, eq5, eq6, eq7, bit_e, GH_F2, sF_I, sF_s, sF_1, sF_R, sF_L, Option.bind_some, i64_i, in_e, within_e]
    · intro h1 g e
      simp (disch := first | exact g | exact GH_F2 g | exact GH_F2 (GH_F2 g) | exact GH_F2 (GH_F2 (GH_F2 g)) | exact GH_F2 (GH_F2 (GH_F2 (GH_F2 g))) | exact GH_F2 (GH_F2 (GH_F2 (GH_F2 (GH_F2 g)))) | exact GH_F2 (GH_F2 (GH_F2 (GH_F2 (GH_F2 (GH_F2 g))))) | exact GH_F2 (GH_F2 (GH_F2 (GH_F2 (GH_F2 (GH_F2 (GH_F2 g)))))) | exact GH_F2 (GH_F2 (GH_F2 (GH_F2 (GH_F2 (GH_F2 (GH_F2 (GH_F2 g))))))) | exact GH_F2 (GH_F2 (GH_F2 (GH_F2 (GH_F2 (GH_F2 (GH_F2 (GH_F2 (GH_F2 g)))))))) | omega | decide) [fX9_then, fX9_then_j30, e 100 (by decide), ek, tk0, inb_ok q1, inb_no q2, gR99_0, gR99_1, gR99_2, gR99_3, gR99_6, gR99_7, gR99_8, gR99_9, gR99_10, gR99_16, gR99_17, gI99, pI99, gT99, aI100, aI101, aI102, aI103, aI104, aI105, aI106, aI107, aI108, aI109, aI110, sI100, sI101, sI103, sI104, sI105, sI106, sI107, sI108, sI109, sI110, aN100, aN101, aN102, aN103, aN104, aN105, aN106, aN107, aN108, aN109, aN110, sN100, sN101, sN103, sN104, sN105, sN106, sN107, sN108, sN109, sN110, sZN102, sZ102, bad_e, no_e, full_e, many_e, isIdea_e, isStop_e, -Int32.toInt_add, -Int32.toInt_sub, nI_tt, nI_c, la1, lb1, la2, lb2, la3, lb3, la4, lb4, la5, lb5, la6, lb6, la7, lb7, la8, lb8, la9, lb9, la10, lb10, la19, lb19, la26, lb26, la33, lb33, la40, lb40, la47, lb47, la54, lb54, la78, lb78, la83, lb83, la118, lb118, lm2, lm4, lm5, lm10, lm118, t32_0, t64_0, t32_1, t64_1, t32_2, t64_2, t32_3, t64_3, t32_4, t64_4, t32_5, t64_5, t32_6, t64_6, t32_7, t64_7, t32_8, t64_8, t32_9, t64_9, t32_10, t64_10, t32_40, t64_40, t32_60, t64_60, t32_127, t64_127, t32_150, t64_150, t32_200, t64_200, t32_999999, t64_999999, reduceIte, ne01, ne02, ne03, ne04, ne05, ne06, ne07, ne10, ne12, ne13, ne14, ne15, ne16, ne17, ne20, ne21, ne23, ne24, ne25, ne26, ne27, ne30, ne31, ne32, ne34, ne35, ne36, ne37, ne40, ne41, ne42, ne43, ne45, ne46, ne47, ne50, ne51, ne52, ne53, ne54, ne56, ne57, ne60, ne61, ne62, ne63, ne64, ne65, ne67, ne70, ne71, ne72, ne73, ne74, ne75, ne76, eq0, eq1, eq2, eq3, eq4, eq5, eq6, eq7, bit_e, GH_F2, sF_I, sF_s, sF_1, sF_R, sF_L, Option.bind_some, i64_i, in_e, within_e]
  replace q2 := Classical.not_not.mp q2
  have i1 : inb v.toInt (k0 : Int) 9 = 1 := inb_ok q1
  have i2 : inb w.toInt 0 2 = 1 := inb_ok q2
  obtain ⟨s, hs, rfl⟩ := i32_nI (n := 10) (v := v) (by omega)
  rw [nI_toInt (by omega)] at q1
  obtain ⟨h0, h1, h2, B, T, go, g0, th, g1, c1, c2, c3, c4, oth, Bt, lh, g2, gt, b4, b5, b6, b7, HB, I2, l1, l2, l3⟩ := go_both H (k0 := k0) (M := s + 1 - k0) (e := nI s) ek (by omega) (by rw [show k0 + (s + 1 - k0) = s + 1 by omega, nI_1]) (fun m hm => by rw [fa_lt, nI_toInt (by omega), nI_toInt (by omega)]; omega)
  rw [show k0 + (s + 1 - k0) = s + 1 by omega] at gt
  have g3 : GH (sF h1 104 B) := g1
  have y100 : h1.2.1 100 = h.2.1 100 := oth 100 (by decide) (by decide) (by decide)
  have sw1 := swayAll_e (u := T.1.1) (s := nI s) g1 Bt W
  have sw2 := mswayAll_e (h := sF h1 104 B) (u := T.1.1) (s := nI s) g3 (by simpa [sF_I, y100] using (n_eq W).1) W (by simpa [sF_I] using HB)
  have cls : ∀ r, (if w = 0 then some (nI T.1.1, h1) else if w = 1 then some (swN (h.2.1 100) (nI s) T.1.1 (nn (h.2.1 100)), h1) else some (T.2, h1)) = some (r, h1) → fX8_then 0 (nI s) w h = some (r, h1) := by
    intro r hr
    rw [← hr]
    simp only [fX8_then]
    rw [gR0_0 g, Option.bind_some, gR1_13 g, Option.bind_some, gI12 g, Option.bind_some, r0, ek, within_e, Option.bind_some, tk0]
    simp only [t32_9]
    rw [i1, if_neg (by decide), within_e, Option.bind_some]
    simp only [t32_0, t32_2]
    rw [i2, if_neg (by decide), gR0_3 g, Option.bind_some, Option.bind_some, gT66 g, go, Option.bind_some, gR0_3 g0, Option.bind_some, gR0_0 g0, Option.bind_some, gT66 g0, th, Option.bind_some]
    by_cases w0 : w = 0
    · rw [if_pos w0, if_pos w0, gR0_3 g1, Option.bind_some, gR66_0 g1, Option.bind_some, gI67 g1, Option.bind_some, c1]
    · rw [if_neg w0, if_neg w0]
      by_cases w1 : w = 1
      · rw [if_pos w1, if_pos w1, gR0_0 g1, Option.bind_some, gR0_3 g1, Option.bind_some, gR66_0 g1, Option.bind_some, gI67 g1, Option.bind_some, c1, gT1 g1, sw1, Option.bind_some]
      · rw [if_neg w1, if_neg w1, gR0_3 g1, Option.bind_some, gR66_0 g1, Option.bind_some, gI67 g1, Option.bind_some, c4]
  have mod : ∀ r, (if w = 0 then some (nI T.1.1, sF h1 104 B) else if w = 1 then some (swN (h.2.1 100) (nI s) T.1.1 (nn (h.2.1 100)), sF h1 104 B) else some (T.2, sF h1 104 B)) = some (r, sF h1 104 B) → fX9_then 99 (nI s) w h1 = some (r, sF h1 104 B) := by
    intro r hr
    rw [← hr]
    simp only [fX9_then, fX9_then_j87]
    rw [gR99_0 g1, Option.bind_some, aI100 g1 (by decide) (by decide), Option.bind_some]
    simp only [t32_3, Int.reduceToNat]
    rw [y100, ek, in_e, i64_i, i64_i, Option.bind_some, tk0]
    simp only [t64_9]
    rw [i1, if_neg (by decide), in_e, i64_i, Option.bind_some]
    simp only [t64_0, t64_2]
    rw [i2, if_neg (by decide), gT99 g1, lh, Option.bind_some, gT99 g2, nI_1, gt, Option.bind_some, gR99_6 g3, Option.bind_some]
    simp only [Option.bind_some, a104_4 g3, a104_7 g3, gT99 g3, sF_I, if_true, b4, b7, sw2]
  by_cases v0 : w = 0
  · exact ⟨_, h1, sF h1 104 B, cls _ (by rw [if_pos v0]), g1, mod _ (by rw [if_pos v0]), I2⟩
  · by_cases v1 : w = 1
    · exact ⟨_, h1, sF h1 104 B, cls _ (by rw [if_neg v0, if_pos v1]), g1, mod _ (by rw [if_neg v0, if_pos v1]), I2⟩
    · exact ⟨_, h1, sF h1 104 B, cls _ (by rw [if_neg v0, if_neg v1]), g1, mod _ (by rw [if_neg v0, if_neg v1]), I2⟩
end OPS15
