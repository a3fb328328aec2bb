theorem upd_e (f : Nat → Int32) (k : Nat) (x : Int32) (j : Nat) : upd f k x j = if j = k then x else f j := rfl
/-- only the bus's own cell has changed -/
theorem RB_b {h h' : Hp} {f f' : Nat → Int32} {F : Nat → Int32} {b : Nat} (H : RB h b f) (hF : h'.2.1 b = F) (hI : ∀ a, b < a → a < b + 21 → h'.2.1 a = h.2.1 a) (hR : h'.2.2.2 (b + 12) = h.2.2.2 (b + 12)) (hf : F 2 = f' 0 ∧ F 8 = f' 1 ∧ F 15 = f' 2 ∧ F 0 = f' 8) (ho : ∀ k, k ≠ 0 → k ≠ 1 → k ≠ 2 → k ≠ 8 → f' k = f k) (n1 : nn f' ≤ nn f) (n2 : nq f' ≤ nq f) (n3 : nu f' ≤ nu f) : RB h' b f' := by
  obtain ⟨-, h2, h3, h4, h5, π, p1, p2, p3⟩ := H
  have e : ∀ k, 0 < k → k < 21 → h'.2.1 (b + k) = h.2.1 (b + k) := fun k h0 hk => hI _ (by omega) (by omega)
  refine ⟨by rw [hF]; exact hf, ?_, ?_, ?_, ?_, π, by rw [hR]; exact p1, p2, ?_⟩
  · intro c hc; rw [e 11 (by omega) (by omega), ho _ (by omega) (by omega) (by omega) (by omega)]; exact h2 c hc
  · intro c hc; rw [e 1 (by omega) (by omega), ho _ (by omega) (by omega) (by omega) (by omega)]; exact h3 c hc
  · intro c hc
    rw [e 2 (by omega) (by omega), e 3 (by omega) (by omega), e 4 (by omega) (by omega), e 5 (by omega) (by omega), e 6 (by omega) (by omega), ho (19 + c) (by omega) (by omega) (by omega) (by omega), ho (26 + c) (by omega) (by omega) (by omega) (by omega), ho (33 + c) (by omega) (by omega) (by omega) (by omega), ho (40 + c) (by omega) (by omega) (by omega) (by omega), ho (47 + c) (by omega) (by omega) (by omega) (by omega)]
    exact h4 c (by omega)
  · intro c hc
    rw [e 7 (by omega) (by omega), e 8 (by omega) (by omega), e 9 (by omega) (by omega), e 10 (by omega) (by omega), ho (54 + 4 * c) (by omega) (by omega) (by omega) (by omega), ho (54 + 4 * c + 1) (by omega) (by omega) (by omega) (by omega), ho (54 + 4 * c + 2) (by omega) (by omega) (by omega) (by omega), ho (54 + 4 * c + 3) (by omega) (by omega) (by omega) (by omega)]
    exact h5 c (by omega)
  · intro u c h8 hu hc
    rw [hI (b + 13 + π u) (by omega) (by have := (p1 u h8).1; omega), ho _ (by omega) (by omega) (by omega) (by omega)]
    exact p3 u c h8 (by omega) hc
theorem WF_b {f f' : Nat → Int32} (H : WF f) (ho : ∀ k, k ≠ 0 → k ≠ 1 → k ≠ 2 → k ≠ 8 → f' k = f k) (n1 : nn f' = nn f) (n2 : nq f' ≤ nq f) (n3 : nu f' ≤ nu f) (r0 : rg (f' 0) 0 7) (r1 : rg (f' 1) 0 6) (r2 : rg (f' 2) 0 8) (r8 : rg (f' 8) 1 7) : WF f' := by
  obtain ⟨⟨a0, a1, a2, a3, a4, a5, a6, a8⟩, h2, h3, h4, h5, h6⟩ := H
  refine ⟨⟨r0, r1, r2, ?_, ?_, ?_, ?_, r8⟩, ?_, ?_, ?_, ?_, ?_⟩
  · rw [ho 3 (by omega) (by omega) (by omega) (by omega)]; exact a3
  · rw [ho 4 (by omega) (by omega) (by omega) (by omega)]; exact a4
  · rw [ho 5 (by omega) (by omega) (by omega) (by omega)]; exact a5
  · rw [ho 6 (by omega) (by omega) (by omega) (by omega)]; exact a6
  · intro s hs; rw [ho _ (by omega) (by omega) (by omega) (by omega)]; exact h2 s hs
  · intro i hi
    have := h3 i (by omega)
    unfold WI at this ⊢
    rw [n1, ho (19 + i) (by omega) (by omega) (by omega) (by omega), ho (26 + i) (by omega) (by omega) (by omega) (by omega), ho (33 + i) (by omega) (by omega) (by omega) (by omega), ho (40 + i) (by omega) (by omega) (by omega) (by omega), ho (47 + i) (by omega) (by omega) (by omega) (by omega)]
    exact this
  · intro i o hi ho2; rw [ho (47 + i) (by omega) (by omega) (by omega) (by omega), ho (47 + o) (by omega) (by omega) (by omega) (by omega)]; exact h4 i o (by omega) (by omega)
  · intro q hq; rw [ho (54 + 4 * q) (by omega) (by omega) (by omega) (by omega), ho (54 + 4 * q + 1) (by omega) (by omega) (by omega) (by omega)]; exact h5 q (by omega)
  · intro u hu; rw [ho (78 + 5 * u) (by omega) (by omega) (by omega) (by omega), ho (78 + 5 * u + 1) (by omega) (by omega) (by omega) (by omega), ho (78 + 5 * u + 2) (by omega) (by omega) (by omega) (by omega), ho (78 + 5 * u + 3) (by omega) (by omega) (by omega) (by omega)]; exact h6 u (by omega)
section OPS1
variable {h : Hp}
theorem op_room (H : Inv h) (v : Int32) : Op (fX8_room 0 v h) (fX9_room 99 v) := by
  have g := H.1
  obtain ⟨b1, b2, b3, b4⟩ := H.2.1.1
  by_cases hv : 1 ≤ v.toInt ∧ v.toInt ≤ 7
  · refine ⟨h.2.1 1 0, sF h 1 (upd (upd (h.2.1 1) 0 v) 15 0), sF (sF h 1 (upd (upd (h.2.1 1) 0 v) 15 0)) 100 (upd (upd (h.2.1 100) 8 v) 2 0), ?_, g, ?_, ?_⟩
    · simp (maxDischargeDepth := 30) [fX8_room, inb_ok hv, g, gR0_0, gR0_1, gR0_2, gR0_3, gR0_4, gR0_5, gR0_6, gR0_7, gR0_8, gR66_0, gR66_1, gR69_0, gR72_0, gR72_1, gR76_0, gR76_2, gR1_1, gR1_3, gR1_4, gR1_5, gR1_6, gR1_7, gR1_9, gR1_10, gR1_11, gR1_12, gR1_13, gR1_14, gI0, pI0, gT0, gI1, pI1, gT1, gI12, pI12, gT12, gI66, pI66, gT66, gI67, pI67, gT67, gI69, pI69, gT69, gI71, pI71, gT71, gI72, pI72, gT72, gI75, pI75, gT75, gI76, pI76, gT76, aI2, aI3, aI4, aI5, aI6, aI7, aI8, aI9, aI10, aI11, aI65, aI68, aI70, aI73, aI74, aI77, sI2, sI3, sI4, sI5, sI6, sI7, sI8, sI9, sI10, sI11, sI68, sI70, sI73, sI74, sI77, aN2, aN3, aN4, aN5, aN6, aN7, aN8, aN9, aN10, aN11, aN65, aN68, aN70, aN73, aN74, aN77, sN2, sN3, sN4, sN5, sN6, sN7, sN8, sN9, sN10, sN11, sN68, sN70, sN73, sN74, sN77, sZN65, sZ65, refuseBad_e, refuseNo_e, refuseFull_e, refuseOther_e, -Int32.toInt_add, -Int32.toInt_sub, nI_tt, nI_c, la1, lb1, la2, lb2, la3, lb3, la4, lb4, la5, lb5, la6, lb6, la7, lb7, la8, lb8, la9, lb9, la10, lb10, la19, lb19, la26, lb26, la33, lb33, la40, lb40, la47, lb47, la54, lb54, la78, lb78, la83, lb83, la118, lb118, lm2, lm4, lm5, lm10, lm118, t32_0, t64_0, t32_1, t64_1, t32_2, t64_2, t32_3, t64_3, t32_4, t64_4, t32_5, t64_5, t32_6, t64_6, t32_7, t64_7, t32_8, t64_8, t32_9, t64_9, t32_10, t64_10, t32_40, t64_40, t32_60, t64_60, t32_127, t64_127, t32_150, t64_150, t32_200, t64_200, t32_999999, t64_999999, reduceIte, ne01, ne02, ne03, ne04, ne05, ne06, ne07, ne10, ne12, ne13, ne14, ne15, ne16, ne17, ne20, ne21, ne23, ne24, ne25, ne26, ne27, ne30, ne31, ne32, ne34, ne35, ne36, ne37, ne40, ne41, ne42, ne43, ne45, ne46, ne47, ne50, ne51, ne52, ne53, ne54, ne56, ne57, ne60, ne61, ne62, ne63, ne64, ne65, ne67, ne70, ne71, ne72, ne73, ne74, ne75, ne76, eq0, eq1, eq2, eq3, eq4, eq5, eq6, eq7, bit_e, GH_F2, sF_I, sF_s, sF_1, sF_R, sF_L, Option.bind_some, i64_i, in_e, within_e]
    · simp (maxDischargeDepth := 30) [fX9_room, inb_ok hv, g, b4, gR99_0, gR99_1, gR99_2, gR99_3, gR99_6, gR99_7, gR99_8, gR99_9, gR99_10, gR99_16, gR99_17, gI99, pI99, gT99, aI100, aI101, aI102, aI103, aI104, aI105, aI106, aI107, aI108, aI109, aI110, sI100, sI101, sI103, sI104, sI105, sI106, sI107, sI108, sI109, sI110, aN100, aN101, aN102, aN103, aN104, aN105, aN106, aN107, aN108, aN109, aN110, sN100, sN101, sN103, sN104, sN105, sN106, sN107, sN108, sN109, sN110, sZN102, sZ102, bad_e, no_e, full_e, many_e, isIdea_e, isStop_e, -Int32.toInt_add, -Int32.toInt_sub, nI_tt, nI_c, la1, lb1, la2, lb2, la3, lb3, la4, lb4, la5, lb5, la6, lb6, la7, lb7, la8, lb8, la9, lb9, la10, lb10, la19, lb19, la26, lb26, la33, lb33, la40, lb40, la47, lb47, la54, lb54, la78, lb78, la83, lb83, la118, lb118, lm2, lm4, lm5, lm10, lm118, t32_0, t64_0, t32_1, t64_1, t32_2, t64_2, t32_3, t64_3, t32_4, t64_4, t32_5, t64_5, t32_6, t64_6, t32_7, t64_7, t32_8, t64_8, t32_9, t64_9, t32_10, t64_10, t32_40, t64_40, t32_60, t64_60, t32_127, t64_127, t32_150, t64_150, t32_200, t64_200, t32_999999, t64_999999, reduceIte, ne01, ne02, ne03, ne04, ne05, ne06, ne07, ne10, ne12, ne13, ne14, ne15, ne16, ne17, ne20, ne21, ne23, ne24, ne25, ne26, ne27, ne30, ne31, ne32, ne34, ne35, ne36, ne37, ne40, ne41, ne42, ne43, ne45, ne46, ne47, ne50, ne51, ne52, ne53, ne54, ne56, ne57, ne60, ne61, ne62, ne63, ne64, ne65, ne67, ne70, ne71, ne72, ne73, ne74, ne75, ne76, eq0, eq1, eq2, eq3, eq4, eq5, eq6, eq7, bit_e, GH_F2, sF_I, sF_s, sF_1, sF_R, sF_L, Option.bind_some, i64_i, in_e, within_e]
    · refine Inv_bus H rfl (fun _ _ => rfl) ?_ rfl ?_ ?_
      · intro a ha; unfold keep at ha; simp only [sF_I]; rw [if_neg (by omega), if_neg (by omega)]
      · refine RB_b H.2.1 rfl ?_ rfl ?_ ?_ ?_ ?_ ?_
        · intro a h1 h2; simp only [sF_I]; rw [if_neg (by omega), if_neg (by omega)]
        · simp [upd_e, sF_I, b1, b2]
        · intro k h0 h1 h2 h8; simp [upd_e, sF_I, h2, h8]
        · simp [nn, upd_e, sF_I]
        · simp [nq, upd_e, sF_I]
        · simp [nu, upd_e, sF_I]
      · obtain ⟨⟨a0, a1, a2, a3, a4, a5, a6, a8⟩, -⟩ := H.2.2.1
        refine WF_b H.2.2.1 ?_ ?_ ?_ ?_ ?_ ?_ ?_ ?_
        · intro k h0 h1 h2 h8; simp [upd_e, sF_I, h2, h8]
        · simp [nn, upd_e, sF_I]
        · simp [nq, upd_e, sF_I]
        · simp [nu, upd_e, sF_I]
        · simpa [upd_e, sF_I] using a0
        · simpa [upd_e, sF_I] using a1
        · simp [upd_e, sF_I, rg]
        · simpa [upd_e, sF_I, rg] using hv
  · refine Op_bad H (-2) 0 (by omega) ?_ ?_
    · simp (maxDischargeDepth := 30) [fX8_room, inb_no hv, g, gR0_0, gR0_1, gR0_2, gR0_3, gR0_4, gR0_5, gR0_6, gR0_7, gR0_8, gR66_0, gR66_1, gR69_0, gR72_0, gR72_1, gR76_0, gR76_2, gR1_1, gR1_3, gR1_4, gR1_5, gR1_6, gR1_7, gR1_9, gR1_10, gR1_11, gR1_12, gR1_13, gR1_14, gI0, pI0, gT0, gI1, pI1, gT1, gI12, pI12, gT12, gI66, pI66, gT66, gI67, pI67, gT67, gI69, pI69, gT69, gI71, pI71, gT71, gI72, pI72, gT72, gI75, pI75, gT75, gI76, pI76, gT76, aI2, aI3, aI4, aI5, aI6, aI7, aI8, aI9, aI10, aI11, aI65, aI68, aI70, aI73, aI74, aI77, sI2, sI3, sI4, sI5, sI6, sI7, sI8, sI9, sI10, sI11, sI68, sI70, sI73, sI74, sI77, aN2, aN3, aN4, aN5, aN6, aN7, aN8, aN9, aN10, aN11, aN65, aN68, aN70, aN73, aN74, aN77, sN2, sN3, sN4, sN5, sN6, sN7, sN8, sN9, sN10, sN11, sN68, sN70, sN73, sN74, sN77, sZN65, sZ65, refuseBad_e, refuseNo_e, refuseFull_e, refuseOther_e, -Int32.toInt_add, -Int32.toInt_sub, nI_tt, nI_c, la1, lb1, la2, lb2, la3, lb3, la4, lb4, la5, lb5, la6, lb6, la7, lb7, la8, lb8, la9, lb9, la10, lb10, la19, lb19, la26, lb26, la33, lb33, la40, lb40, la47, lb47, la54, lb54, la78, lb78, la83, lb83, la118, lb118, lm2, lm4, lm5, lm10, lm118, t32_0, t64_0, t32_1, t64_1, t32_2, t64_2, t32_3, t64_3, t32_4, t64_4, t32_5, t64_5, t32_6, t64_6, t32_7, t64_7, t32_8, t64_8, t32_9, t64_9, t32_10, t64_10, t32_40, t64_40, t32_60, t64_60, t32_127, t64_127, t32_150, t64_150, t32_200, t64_200, t32_999999, t64_999999, reduceIte, ne01, ne02, ne03, ne04, ne05, ne06, ne07, ne10, ne12, ne13, ne14, ne15, ne16, ne17, ne20, ne21, ne23, ne24, ne25, ne26, ne27, ne30, ne31, ne32, ne34, ne35, ne36, ne37, ne40, ne41, ne42, ne43, ne45, ne46, ne47, ne50, ne51, ne52, ne53, ne54, ne56, ne57, ne60, ne61, ne62, ne63, ne64, ne65, ne67, ne70, ne71, ne72, ne73, ne74, ne75, ne76, eq0, eq1, eq2, eq3, eq4, eq5, eq6, eq7, bit_e, GH_F2, sF_I, sF_s, sF_1, sF_R, sF_L, Option.bind_some, i64_i, in_e, within_e]
    · intro h1 g1 e
      simp (maxDischargeDepth := 30) [fX9_room, inb_no hv, g1, gR99_0, gR99_1, gR99_2, gR99_3, gR99_6, gR99_7, gR99_8, gR99_9, gR99_10, gR99_16, gR99_17, gI99, pI99, gT99, aI100, aI101, aI102, aI103, aI104, aI105, aI106, aI107, aI108, aI109, aI110, sI100, sI101, sI103, sI104, sI105, sI106, sI107, sI108, sI109, sI110, aN100, aN101, aN102, aN103, aN104, aN105, aN106, aN107, aN108, aN109, aN110, sN100, sN101, sN103, sN104, sN105, sN106, sN107, sN108, sN109, sN110, sZN102, sZ102, bad_e, no_e, full_e, many_e, isIdea_e, isStop_e, -Int32.toInt_add, -Int32.toInt_sub, nI_tt, nI_c, la1, lb1, la2, lb2, la3, lb3, la4, lb4, la5, lb5, la6, lb6, la7, lb7, la8, lb8, la9, lb9, la10, lb10, la19, lb19, la26, lb26, la33, lb33, la40, lb40, la47, lb47, la54, lb54, la78, lb78, la83, lb83, la118, lb118, lm2, lm4, lm5, lm10, lm118, t32_0, t64_0, t32_1, t64_1, t32_2, t64_2, t32_3, t64_3, t32_4, t64_4, t32_5, t64_5, t32_6, t64_6, t32_7, t64_7, t32_8, t64_8, t32_9, t64_9, t32_10, t64_10, t32_40, t64_40, t32_60, t64_60, t32_127, t64_127, t32_150, t64_150, t32_200, t64_200, t32_999999, t64_999999, reduceIte, ne01, ne02, ne03, ne04, ne05, ne06, ne07, ne10, ne12, ne13, ne14, ne15, ne16, ne17, ne20, ne21, ne23, ne24, ne25, ne26, ne27, ne30, ne31, ne32, ne34, ne35, ne36, ne37, ne40, ne41, ne42, ne43, ne45, ne46, ne47, ne50, ne51, ne52, ne53, ne54, ne56, ne57, ne60, ne61, ne62, ne63, ne64, ne65, ne67, ne70, ne71, ne72, ne73, ne74, ne75, ne76, eq0, eq1, eq2, eq3, eq4, eq5, eq6, eq7, bit_e, GH_F2, sF_I, sF_s, sF_1, sF_R, sF_L, Option.bind_some, i64_i, in_e, within_e]
end OPS1
