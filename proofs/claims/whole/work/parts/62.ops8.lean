section OPS8
variable {h : Hp}
theorem le_nI {k n : Nat} (hk : k < 2 ^ 31) (hn : n < 2 ^ 31) : nI n ≤ nI k ↔ n ≤ k := by rw [fa_le, nI_toInt hk, nI_toInt hn]; omega
theorem ten_le {k : Nat} (hk : k < 2 ^ 31) : ((10 : Int32) ≤ nI k) ↔ 10 ≤ k := le_nI (n := 10) hk (by decide)
theorem n78_le {k : Nat} (hk : k < 2 ^ 31) : ((78 : Int32) ≤ nI k) ↔ 78 ≤ k := le_nI (n := 78) hk (by decide)
theorem startAnew_e {b : Nat} (g : GH h) (hb : isB b) : ∃ h', fX0_startAnew b h = some h' ∧ GH h' ∧ h'.2.2 = h.2.2 ∧ h'.2.1 b = upd (upd (upd (upd (h.2.1 b) 0 4) 2 0) 8 0) 15 0 ∧ h'.2.1 (b + 1) = (fun s => if s < 10 then 0 else h.2.1 (b + 1) s) ∧ h'.2.1 (b + 11) = upd (upd (upd (upd (upd (h.2.1 (b + 11)) 0 0) 1 0) 2 0) 3 0) 4 0 ∧ ∀ a, a ≠ b → a ≠ b + 1 → a ≠ b + 11 → h'.2.1 a = h.2.1 a := by
  generalize hh1 : sF h b (upd (h.2.1 b) 0 4) = h1
  have g1 : GH h1 := by rw [← hh1]; exact g
  have hl : xloop (fX0_startAnew_b7 b) 1000000 (0, h1) = some (b, sF h1 (b + 1) (fun s => if s < 10 then 0 else h1.2.1 (b + 1) s)) := by
    refine xloop_c (fun i => (nI i, sF h1 (b + 1) (fun s => if s < i then 0 else h1.2.1 (b + 1) s))) _ 10 (by decide) ?_ ?_ ?_
    · intro i hi
      simp only [fX0_startAnew_b7]
      rw [if_neg (by rw [ten_le (by omega)]; omega)]
      rw [gRb1 (h := sF h1 _ _) g1 hb, Option.bind_some, sNb1 (h := sF h1 _ _) g1 hb (by omega), Option.bind_some, nI_1, sF_s]
      congr 4
      funext s
      simp only [upd_e, sF_I, if_pos]
      by_cases h1 : s = i
      · subst h1; simp
      · by_cases h2 : s < i
        · simp [h1, h2, show s < i + 1 by omega]
        · simp [h1, h2, show ¬ s < i + 1 by omega]
    · simp only [fX0_startAnew_b7]
      rw [if_pos (by rw [ten_le (by omega)]; omega)]
    · simp [nI_0]; rw [sF_same]
  generalize hh2 : sF h1 (b + 1) (fun s => if s < 10 then 0 else h1.2.1 (b + 1) s) = h2 at hl
  have g2 : GH h2 := by rw [← hh2]; exact g1
  refine ⟨sF (sF (sF h2 b (upd (upd (h2.2.1 b) 2 0) 8 0)) (b + 11) (upd (upd (upd (upd (upd (h2.2.1 (b + 11)) 0 0) 1 0) 2 0) 3 0) 4 0)) b (upd (upd (upd (h2.2.1 b) 2 0) 8 0) 15 0), ?_, g2, ?_, ?_, ?_, ?_, ?_⟩
  · simp only [fX0_startAnew, pIb g hb, Option.bind_some, hh1, hl]
    simp (disch := first | exact g2 | exact GH_F2 g2 | exact GH_F2 (GH_F2 g2) | exact GH_F2 (GH_F2 (GH_F2 g2)) | exact hb | omega) [pIb, gRb13, gTr, fX5_startAnew, pIr, sF_s, sF_I]
  · rw [← hh2, ← hh1]; rfl
  · rw [← hh2, ← hh1]; simp [sF_I]
  · rw [← hh2, ← hh1]; simp [sF_I]
  · rw [← hh2, ← hh1]; simp [sF_I]
  · intro a h1 h2 h3; rw [← hh2, ← hh1]; simp [sF_I, h1, h2, h3]
theorem begin_e {a n : Nat} (hs : h.1[a]? = some (10, n)) (hn : 78 ≤ n) (hn2 : n < 1000) (r : Int32) : fX9_begin a r h = some (sF h a (fun k => if k = 8 then r else if k < 78 then 0 else h.2.1 a k)) := by
  have hl : xloop (fX9_begin_b2 a r) 1000000 (0, h) = some (a, r, sF h a (fun s => if s < 78 then 0 else h.2.1 a s)) := by
    refine xloop_c (fun i => (nI i, sF h a (fun s => if s < i then 0 else h.2.1 a s))) _ 78 (by decide) ?_ ?_ ?_
    · intro i hi
      simp only [fX9_begin_b2]
      rw [if_neg (by rw [n78_le (by omega)]; omega)]
      rw [e_sI (h := sF h a _) hs rfl (by omega) (by omega), Option.bind_some, nI_1, sF_s]
      congr 4
      funext s
      simp only [upd_e, sF_I, if_pos]
      by_cases h1 : s = i
      · subst h1; simp
      · by_cases h2 : s < i
        · simp [h1, h2, show s < i + 1 by omega]
        · simp [h1, h2, show ¬ s < i + 1 by omega]
    · simp only [fX9_begin_b2]
      rw [if_pos (by rw [n78_le (by omega)]; omega)]
    · simp [nI_0]; rw [sF_same]
  simp only [fX9_begin, hl, Option.bind_some]
  rw [e_sI (h := sF h a _) (k := 8) (i := 8) hs rfl (by omega) (by omega), Option.bind_some, sF_s]
  congr 2
  funext s
  simp only [upd_e, sF_I, if_pos]
theorem op_bus (H : Inv h) (v : Int32) : Op (fX8_bus 0 v h) (fX9_bus 99 v) := by
  have g := H.1
  obtain ⟨b1, b2, b3, b4⟩ := H.2.1.1
  by_cases q1 : ¬ (1 ≤ v.toInt ∧ v.toInt ≤ 7)
  · refine Op_bad H (-2) 0 (by omega) ?_ ?_
    · simp (disch := first | exact g | exact GH_F2 g | exact GH_F2 (GH_F2 g) | exact GH_F2 (GH_F2 (GH_F2 g)) | exact GH_F2 (GH_F2 (GH_F2 (GH_F2 g))) | exact GH_F2 (GH_F2 (GH_F2 (GH_F2 (GH_F2 g)))) | exact GH_F2 (GH_F2 (GH_F2 (GH_F2 (GH_F2 (GH_F2 g))))) | exact GH_F2 (GH_F2 (GH_F2 (GH_F2 (GH_F2 (GH_F2 (GH_F2 g)))))) | exact GH_F2 (GH_F2 (GH_F2 (GH_F2 (GH_F2 (GH_F2 (GH_F2 (GH_F2 g))))))) | exact GH_F2 (GH_F2 (GH_F2 (GH_F2 (GH_F2 (GH_F2 (GH_F2 (GH_F2 (GH_F2 g)))))))) | omega | decide) [fX8_bus, inb_no q1, gR0_0, gR0_1, gR0_2, gR0_3, gR0_4, gR0_5, gR0_6, gR0_7, gR0_8, gR66_0, gR66_1, gR69_0, gR72_0, gR72_1, gR76_0, gR76_2, gR1_1, gR1_3, gR1_4, gR1_5, gR1_6, gR1_7, gR1_9, gR1_10, gR1_11, gR1_12, gR1_13, gR1_14, gI0, pI0, gT0, gI1, pI1, gT1, gI12, pI12, gT12, gI66, pI66, gT66, gI67, pI67, gT67, gI69, pI69, gT69, gI71, pI71, gT71, gI72, pI72, gT72, gI75, pI75, gT75, gI76, pI76, gT76, aI2, aI3, aI4, aI5, aI6, aI7, aI8, aI9, aI10, aI11, aI65, aI68, aI70, aI73, aI74, aI77, sI2, sI3, sI4, sI5, sI6, sI7, sI8, sI9, sI10, sI11, sI68, sI70, sI73, sI74, sI77, aN2, aN3, aN4, aN5, aN6, aN7, aN8, aN9, aN10, aN11, aN65, aN68, aN70, aN73, aN74, aN77, sN2, sN3, sN4, sN5, sN6, sN7, sN8, sN9, sN10, sN11, sN68, sN70, sN73, sN74, sN77, sZN65, sZ65, refuseBad_e, refuseNo_e, refuseFull_e, refuseOther_e, -Int32.toInt_add, -Int32.toInt_sub, nI_tt, nI_c, la1, lb1, la2, lb2, la3, lb3, la4, lb4, la5, lb5, la6, lb6, la7, lb7, la8, lb8, la9, lb9, la10, lb10, la19, lb19, la26, lb26, la33, lb33, la40, lb40, la47, lb47, la54, lb54, la78, lb78, la83, lb83, la118, lb118, lm2, lm4, lm5, lm10, lm118, t32_0, t64_0, t32_1, t64_1, t32_2, t64_2, t32_3, t64_3, t32_4, t64_4, t32_5, t64_5, t32_6, t64_6, t32_7, t64_7, t32_8, t64_8, t32_9, t64_9, t32_10, t64_10, t32_40, t64_40, t32_60, t64_60, t32_127, t64_127, t32_150, t64_150, t32_200, t64_200, t32_999999, t64_999999, reduceIte, ne01, ne02, ne03, ne04, ne05, ne06, ne07, ne10, ne12, ne13, ne14, ne15, ne16, ne17, ne20, ne21, ne23, ne24, ne25, ne26, ne27, ne30, ne31, ne32, ne34, ne35, ne36, ne37, ne40, ne41, ne42, ne43, ne45, ne46, ne47, ne50, ne51, ne52, ne53, ne54, ne56, ne57, ne60, ne61, ne62, ne63, ne64, ne65, ne67, ne70, ne71, ne72, ne73, ne74, ne75, ne76, eq0, eq1, eq2, eq3, eq4, eq5, eq6, eq7, bit_e, GH_F2, sF_I, sF_s, sF_1, sF_R, sF_L, Option.bind_some, i64_i, in_e, within_e]
    · intro h1 g e
      simp (disch := first | exact g | exact GH_F2 g | exact GH_F2 (GH_F2 g) | exact GH_F2 (GH_F2 (GH_F2 g)) | exact GH_F2 (GH_F2 (GH_F2 (GH_F2 g))) | exact GH_F2 (GH_F2 (GH_F2 (GH_F2 (GH_F2 g)))) | exact GH_F2 (GH_F2 (GH_F2 (GH_F2 (GH_F2 (GH_F2 g))))) | exact GH_F2 (GH_F2 (GH_F2 (GH_F2 (GH_F2 (GH_F2 (GH_F2 g)))))) | exact GH_F2 (GH_F2 (GH_F2 (GH_F2 (GH_F2 (GH_F2 (GH_F2 (GH_F2 g))))))) | exact GH_F2 (GH_F2 (GH_F2 (GH_F2 (GH_F2 (GH_F2 (GH_F2 (GH_F2 (GH_F2 g)))))))) | omega | decide) [fX9_bus, inb_no q1, gR99_0, gR99_1, gR99_2, gR99_3, gR99_6, gR99_7, gR99_8, gR99_9, gR99_10, gR99_16, gR99_17, gI99, pI99, gT99, aI100, aI101, aI102, aI103, aI104, aI105, aI106, aI107, aI108, aI109, aI110, sI100, sI101, sI103, sI104, sI105, sI106, sI107, sI108, sI109, sI110, aN100, aN101, aN102, aN103, aN104, aN105, aN106, aN107, aN108, aN109, aN110, sN100, sN101, sN103, sN104, sN105, sN106, sN107, sN108, sN109, sN110, sZN102, sZ102, bad_e, no_e, full_e, many_e, isIdea_e, isStop_e, -Int32.toInt_add, -Int32.toInt_sub, nI_tt, nI_c, la1, lb1, la2, lb2, la3, lb3, la4, lb4, la5, lb5, la6, lb6, la7, lb7, la8, lb8, la9, lb9, la10, lb10, la19, lb19, la26, lb26, la33, lb33, la40, lb40, la47, lb47, la54, lb54, la78, lb78, la83, lb83, la118, lb118, lm2, lm4, lm5, lm10, lm118, t32_0, t64_0, t32_1, t64_1, t32_2, t64_2, t32_3, t64_3, t32_4, t64_4, t32_5, t64_5, t32_6, t64_6, t32_7, t64_7, t32_8, t64_8, t32_9, t64_9, t32_10, t64_10, t32_40, t64_40, t32_60, t64_60, t32_127, t64_127, t32_150, t64_150, t32_200, t64_200, t32_999999, t64_999999, reduceIte, ne01, ne02, ne03, ne04, ne05, ne06, ne07, ne10, ne12, ne13, ne14, ne15, ne16, ne17, ne20, ne21, ne23, ne24, ne25, ne26, ne27, ne30, ne31, ne32, ne34, ne35, ne36, ne37, ne40, ne41, ne42, ne43, ne45, ne46, ne47, ne50, ne51, ne52, ne53, ne54, ne56, ne57, ne60, ne61, ne62, ne63, ne64, ne65, ne67, ne70, ne71, ne72, ne73, ne74, ne75, ne76, eq0, eq1, eq2, eq3, eq4, eq5, eq6, eq7, bit_e, GH_F2, sF_I, sF_s, sF_1, sF_R, sF_L, Option.bind_some, i64_i, in_e, within_e]
  replace q1 := Classical.not_not.mp q1
  obtain ⟨h', e1, g', e2, e3, e4, e5, e6⟩ := startAnew_e (h := h) g (Or.inl rfl)
  simp only [Nat.reduceAdd] at e4 e5 e6
  generalize hf' : (fun k => if k = 8 then v else if k < 78 then 0 else h.2.1 100 k) = f'
  refine ⟨h.2.1 1 2, sF h' 1 (upd (h'.2.1 1) 0 v), sF (sF h' 1 (upd (h'.2.1 1) 0 v)) 100 f', ?_, g', ?_, ?_⟩
  · simp (disch := first | exact g | exact GH_F2 g | exact GH_F2 (GH_F2 g) | exact GH_F2 (GH_F2 (GH_F2 g)) | exact GH_F2 (GH_F2 (GH_F2 (GH_F2 g))) | exact GH_F2 (GH_F2 (GH_F2 (GH_F2 (GH_F2 g)))) | exact GH_F2 (GH_F2 (GH_F2 (GH_F2 (GH_F2 (GH_F2 g))))) | exact GH_F2 (GH_F2 (GH_F2 (GH_F2 (GH_F2 (GH_F2 (GH_F2 g)))))) | exact GH_F2 (GH_F2 (GH_F2 (GH_F2 (GH_F2 (GH_F2 (GH_F2 (GH_F2 g))))))) | exact GH_F2 (GH_F2 (GH_F2 (GH_F2 (GH_F2 (GH_F2 (GH_F2 (GH_F2 (GH_F2 g)))))))) | omega | decide) [fX8_bus, inb_ok q1, e1, g', gR0_0, gR0_1, gR0_2, gR0_3, gR0_4, gR0_5, gR0_6, gR0_7, gR0_8, gR66_0, gR66_1, gR69_0, gR72_0, gR72_1, gR76_0, gR76_2, gR1_1, gR1_3, gR1_4, gR1_5, gR1_6, gR1_7, gR1_9, gR1_10, gR1_11, gR1_12, gR1_13, gR1_14, gI0, pI0, gT0, gI1, pI1, gT1, gI12, pI12, gT12, gI66, pI66, gT66, gI67, pI67, gT67, gI69, pI69, gT69, gI71, pI71, gT71, gI72, pI72, gT72, gI75, pI75, gT75, gI76, pI76, gT76, aI2, aI3, aI4, aI5, aI6, aI7, aI8, aI9, aI10, aI11, aI65, aI68, aI70, aI73, aI74, aI77, sI2, sI3, sI4, sI5, sI6, sI7, sI8, sI9, sI10, sI11, sI68, sI70, sI73, sI74, sI77, aN2, aN3, aN4, aN5, aN6, aN7, aN8, aN9, aN10, aN11, aN65, aN68, aN70, aN73, aN74, aN77, sN2, sN3, sN4, sN5, sN6, sN7, sN8, sN9, sN10, sN11, sN68, sN70, sN73, sN74, sN77, sZN65, sZ65, refuseBad_e, refuseNo_e, refuseFull_e, refuseOther_e, -Int32.toInt_add, -Int32.toInt_sub, nI_tt, nI_c, la1, lb1, la2, lb2, la3, lb3, la4, lb4, la5, lb5, la6, lb6, la7, lb7, la8, lb8, la9, lb9, la10, lb10, la19, lb19, la26, lb26, la33, lb33, la40, lb40, la47, lb47, la54, lb54, la78, lb78, la83, lb83, la118, lb118, lm2, lm4, lm5, lm10, lm118, t32_0, t64_0, t32_1, t64_1, t32_2, t64_2, t32_3, t64_3, t32_4, t64_4, t32_5, t64_5, t32_6, t64_6, t32_7, t64_7, t32_8, t64_8, t32_9, t64_9, t32_10, t64_10, t32_40, t64_40, t32_60, t64_60, t32_127, t64_127, t32_150, t64_150, t32_200, t64_200, t32_999999, t64_999999, reduceIte, ne01, ne02, ne03, ne04, ne05, ne06, ne07, ne10, ne12, ne13, ne14, ne15, ne16, ne17, ne20, ne21, ne23, ne24, ne25, ne26, ne27, ne30, ne31, ne32, ne34, ne35, ne36, ne37, ne40, ne41, ne42, ne43, ne45, ne46, ne47, ne50, ne51, ne52, ne53, ne54, ne56, ne57, ne60, ne61, ne62, ne63, ne64, ne65, ne67, ne70, ne71, ne72, ne73, ne74, ne75, ne76, eq0, eq1, eq2, eq3, eq4, eq5, eq6, eq7, bit_e, GH_F2, sF_I, sF_s, sF_1, sF_R, sF_L, Option.bind_some, i64_i, in_e, within_e]
  · have gg : GH (sF h' 1 (upd (h'.2.1 1) 0 v)) := g'
    simp only [fX9_bus, in_e, i64_i, inb_ok q1, Option.bind_some, t64_1, t64_7, gT99 gg, many_e gg, gR99_0 gg, begin_e (gs100 gg) (by decide) (by decide), ne10, if_false, sF_I]
    rw [b1, e6 100 (by decide) (by decide) (by decide)]
    simp [e6, hf']
  · have f0 : ∀ k, k < 78 → k ≠ 8 → f' k = 0 := fun k h1 h2 => by rw [← hf']; simp [h1, h2]
    have f8 : f' 8 = v := by rw [← hf']; simp
    have n0 : nn f' = 0 := by unfold nn; rw [f0 0 (by omega) (by omega)]; rfl
    have n1 : nq f' = 0 := by unfold nq; rw [f0 1 (by omega) (by omega)]; rfl
    have n2 : nu f' = 0 := by unfold nu; rw [f0 2 (by omega) (by omega)]; rfl
    obtain ⟨-, h2, h3, h4, h5, π, p1, p2, p3⟩ := H.2.1
    refine Inv_bus H (g'.1.trans g.1.symm) (fun a _ => by show h'.2.2.2 a = _; rw [e2]) ?_ (by show h'.2.2.1 = _; rw [e2]) ?_ ?_
    · intro a ha; unfold keep at ha; simp only [sF_I]; rw [if_neg (by omega), if_neg (by omega)]; exact e6 a (by omega) (by omega) (by omega)
    · show RB _ 1 f'
      refine ⟨?_, ?_, ?_, ?_, ?_, π, ?_, p2, ?_⟩
      · rw [f0 0 (by omega) (by omega), f0 1 (by omega) (by omega), f0 2 (by omega) (by omega), f8]
        simp [sF_I, e3, upd_e]
      · intro c hc
        rw [f0 _ (by omega) (by omega)]
        simp [sF_I, e5, upd_e]
        omega
      · intro c hc
        rw [f0 _ (by omega) (by omega)]
        simp [sF_I, e4]
        omega
      · intro c hc; rw [n0] at hc; omega
      · intro c hc; rw [n1] at hc; omega
      · intro u hu; show _ ∧ h'.2.2.2 _ _ = _; rw [e2]; exact p1 u hu
      · intro u c h8 hu; rw [n2] at hu; omega
    · show WF f'
      refine ⟨⟨?_, ?_, ?_, ?_, ?_, ?_, ?_, ?_⟩, ?_, ?_, ?_, ?_, ?_⟩
      · rw [f0 _ (by omega) (by omega)]; simp [rg]
      · rw [f0 _ (by omega) (by omega)]; simp [rg]
      · rw [f0 _ (by omega) (by omega)]; simp [rg]
      · rw [f0 _ (by omega) (by omega)]; simp [rg]
      · rw [f0 _ (by omega) (by omega)]; simp [rg]
      · rw [f0 _ (by omega) (by omega)]; simp [rg]
      · rw [f0 _ (by omega) (by omega)]; simp [rg]
      · rw [f8]; exact q1
      · intro c hc; rw [f0 _ (by omega) (by omega)]; simp [rg]
      · intro i hi; rw [n0] at hi; omega
      · intro i o hi; rw [n0] at hi; omega
      · intro q hq; rw [n1] at hq; omega
      · intro u hu; rw [n2] at hu; omega
end OPS8
