section DRIVE
variable {h : Hp}
theorem op_drive (H : Inv h) (v : Int32) : Op (fX8_drive 0 v h) (fX9_drive 99 v) := by
  have g := H.1
  have hb : isB 1 := Or.inl rfl
  by_cases q1 : ¬ (1 ≤ v.toInt ∧ v.toInt ≤ 10)
  · refine Op_bad H (-2) 0 (by omega) ?_ ?_
    · simp (disch := first | exact g | exact GH_F2 g | exact GH_F2 (GH_F2 g) | exact GH_F2 (GH_F2 (GH_F2 g)) | exact GH_F2 (GH_F2 (GH_F2 (GH_F2 g))) | exact GH_F2 (GH_F2 (GH_F2 (GH_F2 (GH_F2 g)))) | exact GH_F2 (GH_F2 (GH_F2 (GH_F2 (GH_F2 (GH_F2 g))))) | exact GH_F2 (GH_F2 (GH_F2 (GH_F2 (GH_F2 (GH_F2 (GH_F2 g)))))) | exact GH_F2 (GH_F2 (GH_F2 (GH_F2 (GH_F2 (GH_F2 (GH_F2 (GH_F2 g))))))) | exact GH_F2 (GH_F2 (GH_F2 (GH_F2 (GH_F2 (GH_F2 (GH_F2 (GH_F2 (GH_F2 g)))))))) | omega | decide) [fX8_drive, inb_no q1, gR0_0, gR0_1, gR0_2, gR0_3, gR0_4, gR0_5, gR0_6, gR0_7, gR0_8, gR66_0, gR66_1, gR69_0, gR72_0, gR72_1, gR76_0, gR76_2, gR1_1, gR1_3, gR1_4, gR1_5, gR1_6, gR1_7, gR1_9, gR1_10, gR1_11, gR1_12, gR1_13, gR1_14, gI0, pI0, gT0, gI1, pI1, gT1, gI12, pI12, gT12, gI66, pI66, gT66, gI67, pI67, gT67, gI69, pI69, gT69, gI71, pI71, gT71, gI72, pI72, gT72, gI75, pI75, gT75, gI76, pI76, gT76, aI2, aI3, aI4, aI5, aI6, aI7, aI8, aI9, aI10, aI11, aI65, aI68, aI70, aI73, aI74, aI77, sI2, sI3, sI4, sI5, sI6, sI7, sI8, sI9, sI10, sI11, sI68, sI70, sI73, sI74, sI77, aN2, aN3, aN4, aN5, aN6, aN7, aN8, aN9, aN10, aN11, aN65, aN68, aN70, aN73, aN74, aN77, sN2, sN3, sN4, sN5, sN6, sN7, sN8, sN9, sN10, sN11, sN68, sN70, sN73, sN74, sN77, sZN65, sZ65, refuseBad_e, refuseNo_e, refuseFull_e, refuseOther_e, -Int32.toInt_add, -Int32.toInt_sub, nI_tt, nI_c, la1, lb1, la2, lb2, la3, lb3, la4, lb4, la5, lb5, la6, lb6, la7, lb7, la8, lb8, la9, lb9, la10, lb10, la19, lb19, la26, lb26, la33, lb33, la40, lb40, la47, lb47, la54, lb54, la78, lb78, la83, lb83, la118, lb118, lm2, lm4, lm5, lm10, lm118, t32_0, t64_0, t32_1, t64_1, t32_2, t64_2, t32_3, t64_3, t32_4, t64_4, t32_5, t64_5, t32_6, t64_6, t32_7, t64_7, t32_8, t64_8, t32_9, t64_9, t32_10, t64_10, t32_40, t64_40, t32_60, t64_60, t32_127, t64_127, t32_150, t64_150, t32_200, t64_200, t32_999999, t64_999999, reduceIte, ne01, ne02, ne03, ne04, ne05, ne06, ne07, ne10, ne12, ne13, ne14, ne15, ne16, ne17, ne20, ne21, ne23, ne24, ne25, ne26, ne27, ne30, ne31, ne32, ne34, ne35, ne36, ne37, ne40, ne41, ne42, ne43, ne45, ne46, ne47, ne50, ne51, ne52, ne53, ne54, ne56, ne57, ne60, ne61, ne62, ne63, ne64, ne65, ne67, ne70, ne71, ne72, ne73, ne74, ne75, ne76, eq0, eq1, eq2, eq3, eq4, eq5, eq6, eq7, bit_e, GH_F2, sF_I, sF_s, sF_1, sF_R, sF_L, Option.bind_some, i64_i, in_e, within_e]
    · intro h1 g e
      simp (disch := first | exact g | exact GH_F2 g | exact GH_F2 (GH_F2 g) | exact GH_F2 (GH_F2 (GH_F2 g)) | exact GH_F2 (GH_F2 (GH_F2 (GH_F2 g))) | exact GH_F2 (GH_F2 (GH_F2 (GH_F2 (GH_F2 g)))) | exact GH_F2 (GH_F2 (GH_F2 (GH_F2 (GH_F2 (GH_F2 g))))) | exact GH_F2 (GH_F2 (GH_F2 (GH_F2 (GH_F2 (GH_F2 (GH_F2 g)))))) | exact GH_F2 (GH_F2 (GH_F2 (GH_F2 (GH_F2 (GH_F2 (GH_F2 (GH_F2 g))))))) | exact GH_F2 (GH_F2 (GH_F2 (GH_F2 (GH_F2 (GH_F2 (GH_F2 (GH_F2 (GH_F2 g)))))))) | omega | decide) [fX9_drive, inb_no q1, gR99_0, gR99_1, gR99_2, gR99_3, gR99_6, gR99_7, gR99_8, gR99_9, gR99_10, gR99_16, gR99_17, gI99, pI99, gT99, aI100, aI101, aI102, aI103, aI104, aI105, aI106, aI107, aI108, aI109, aI110, sI100, sI101, sI103, sI104, sI105, sI106, sI107, sI108, sI109, sI110, aN100, aN101, aN102, aN103, aN104, aN105, aN106, aN107, aN108, aN109, aN110, sN100, sN101, sN103, sN104, sN105, sN106, sN107, sN108, sN109, sN110, sZN102, sZ102, bad_e, no_e, full_e, many_e, isIdea_e, isStop_e, -Int32.toInt_add, -Int32.toInt_sub, nI_tt, nI_c, la1, lb1, la2, lb2, la3, lb3, la4, lb4, la5, lb5, la6, lb6, la7, lb7, la8, lb8, la9, lb9, la10, lb10, la19, lb19, la26, lb26, la33, lb33, la40, lb40, la47, lb47, la54, lb54, la78, lb78, la83, lb83, la118, lb118, lm2, lm4, lm5, lm10, lm118, t32_0, t64_0, t32_1, t64_1, t32_2, t64_2, t32_3, t64_3, t32_4, t64_4, t32_5, t64_5, t32_6, t64_6, t32_7, t64_7, t32_8, t64_8, t32_9, t64_9, t32_10, t64_10, t32_40, t64_40, t32_60, t64_60, t32_127, t64_127, t32_150, t64_150, t32_200, t64_200, t32_999999, t64_999999, reduceIte, ne01, ne02, ne03, ne04, ne05, ne06, ne07, ne10, ne12, ne13, ne14, ne15, ne16, ne17, ne20, ne21, ne23, ne24, ne25, ne26, ne27, ne30, ne31, ne32, ne34, ne35, ne36, ne37, ne40, ne41, ne42, ne43, ne45, ne46, ne47, ne50, ne51, ne52, ne53, ne54, ne56, ne57, ne60, ne61, ne62, ne63, ne64, ne65, ne67, ne70, ne71, ne72, ne73, ne74, ne75, ne76, eq0, eq1, eq2, eq3, eq4, eq5, eq6, eq7, bit_e, GH_F2, sF_I, sF_s, sF_1, sF_R, sF_L, Option.bind_some, i64_i, in_e, within_e]
  replace q1 := Classical.not_not.mp q1
  have W := H.2.2.1
  have r0 := H.2.1.2.1 0 (by omega)
  have r1 := H.2.1.2.1 1 (by omega)
  have r2 := H.2.1.2.1 2 (by omega)
  have r3 := H.2.1.2.1 3 (by omega)
  have r4 := H.2.1.2.1 4 (by omega)
  simp only [Nat.reduceAdd] at r0 r1 r2 r3 r4
  obtain ⟨M, hM, rfl⟩ := i32_nI (n := 11) (v := v) (by omega)
  rw [nI_toInt (by omega)] at q1
  have w3 := W.1.2.2.2.1
  obtain ⟨k0, hk0, ek⟩ : ∃ k0, k0 ≤ 10 ∧ h.2.1 100 3 = nI k0 := ⟨(h.2.1 100 3).toInt.toNat, by have := w3.1; have := w3.2; omega, nI_n w3.1⟩
  obtain ⟨u, hu, eu⟩ := up_n W.1.2.2.2.2.1
  obtain ⟨c, hc, ec⟩ := up_n W.1.2.2.2.2.2.1
  obtain ⟨l, hl, el⟩ := up_n W.1.2.2.2.2.2.2.1
  have i1 : inb (nI M).toInt 1 10 = 1 := inb_ok ⟨by rw [nI_toInt (by omega)]; omega, by rw [nI_toInt (by omega)]; omega⟩
  have t1 : (nI M ≤ 10 - nI k0) ↔ k0 + M ≤ 10 := by
    have : (10 : Int32) - nI k0 = nI (10 - k0) := by
      rw [show (10 : Int32) = nI (10 - k0 + k0) by rw [Nat.sub_add_cancel hk0]; rfl, ← nI_add]; simp
    rw [this, le_nI (by omega) (by omega)]; omega
  have t2 : (nI k0 + nI M ≤ 10) ↔ k0 + M ≤ 10 := by
    rw [nI_add, show (10 : Int32) = nI 10 from rfl, le_nI (by omega) (by omega)]
  by_cases q2 : ¬ k0 + M ≤ 10
  · refine Op_bad H (-3) 1 (by omega) ?_ ?_
    · simp (disch := first | exact g | exact GH_F2 g | exact GH_F2 (GH_F2 g) | exact GH_F2 (GH_F2 (GH_F2 g)) | exact GH_F2 (GH_F2 (GH_F2 (GH_F2 g))) | exact GH_F2 (GH_F2 (GH_F2 (GH_F2 (GH_F2 g)))) | exact GH_F2 (GH_F2 (GH_F2 (GH_F2 (GH_F2 (GH_F2 g))))) | exact GH_F2 (GH_F2 (GH_F2 (GH_F2 (GH_F2 (GH_F2 (GH_F2 g)))))) | exact GH_F2 (GH_F2 (GH_F2 (GH_F2 (GH_F2 (GH_F2 (GH_F2 (GH_F2 g))))))) | exact GH_F2 (GH_F2 (GH_F2 (GH_F2 (GH_F2 (GH_F2 (GH_F2 (GH_F2 (GH_F2 g)))))))) | omega | decide) [fX8_drive, i1, r0, ek, t1, q2, gR0_0, gR0_1, gR0_2, gR0_3, gR0_4, gR0_5, gR0_6, gR0_7, gR0_8, gR66_0, gR66_1, gR69_0, gR72_0, gR72_1, gR76_0, gR76_2, gR1_1, gR1_3, gR1_4, gR1_5, gR1_6, gR1_7, gR1_9, gR1_10, gR1_11, gR1_12, gR1_13, gR1_14, gI0, pI0, gT0, gI1, pI1, gT1, gI12, pI12, gT12, gI66, pI66, gT66, gI67, pI67, gT67, gI69, pI69, gT69, gI71, pI71, gT71, gI72, pI72, gT72, gI75, pI75, gT75, gI76, pI76, gT76, aI2, aI3, aI4, aI5, aI6, aI7, aI8, aI9, aI10, aI11, aI65, aI68, aI70, aI73, aI74, aI77, sI2, sI3, sI4, sI5, sI6, sI7, sI8, sI9, sI10, sI11, sI68, sI70, sI73, sI74, sI77, aN2, aN3, aN4, aN5, aN6, aN7, aN8, aN9, aN10, aN11, aN65, aN68, aN70, aN73, aN74, aN77, sN2, sN3, sN4, sN5, sN6, sN7, sN8, sN9, sN10, sN11, sN68, sN70, sN73, sN74, sN77, sZN65, sZ65, refuseBad_e, refuseNo_e, refuseFull_e, refuseOther_e, -Int32.toInt_add, -Int32.toInt_sub, nI_tt, nI_c, la1, lb1, la2, lb2, la3, lb3, la4, lb4, la5, lb5, la6, lb6, la7, lb7, la8, lb8, la9, lb9, la10, lb10, la19, lb19, la26, lb26, la33, lb33, la40, lb40, la47, lb47, la54, lb54, la78, lb78, la83, lb83, la118, lb118, lm2, lm4, lm5, lm10, lm118, t32_0, t64_0, t32_1, t64_1, t32_2, t64_2, t32_3, t64_3, t32_4, t64_4, t32_5, t64_5, t32_6, t64_6, t32_7, t64_7, t32_8, t64_8, t32_9, t64_9, t32_10, t64_10, t32_40, t64_40, t32_60, t64_60, t32_127, t64_127, t32_150, t64_150, t32_200, t64_200, t32_999999, t64_999999, reduceIte, ne01, ne02, ne03, ne04, ne05, ne06, ne07, ne10, ne12, ne13, ne14, ne15, ne16, ne17, ne20, ne21, ne23, ne24, ne25, ne26, ne27, ne30, ne31, ne32, ne34, ne35, ne36, ne37, ne40, ne41, ne42, ne43, ne45, ne46, ne47, ne50, ne51, ne52, ne53, ne54, ne56, ne57, ne60, ne61, ne62, ne63, ne64, ne65, ne67, ne70, ne71, ne72, ne73, ne74, ne75, ne76, eq0, eq1, eq2, eq3, eq4, eq5, eq6, eq7, bit_e, GH_F2, sF_I, sF_s, sF_1, sF_R, sF_L, Option.bind_some, i64_i, in_e, within_e]
    · intro h1 g e
      have := e 100 (by decide)
      simp only [fX9_drive, in_e, i64_i, t64_1, t64_10, i1, Option.bind_some, ne10, if_false, gR99_0 g, aI100 g (i := 3) (by decide) (by decide), t32_3, Int.reduceToNat, this, ek, t2, q2, if_false, gT99 g, no_e g]
  replace q2 := Classical.not_not.mp q2
  obtain ⟨h', e1, g', e2, e3, e4, R⟩ := remember_e g hb H.2.1 W
  have z12 : h'.2.1 12 = h.2.1 12 := e4 12 (by omega) (by omega)
  have z100 : h'.2.1 100 = h.2.1 100 := e4 100 (by omega) (by omega)
  have z5 : h'.2.1 5 = h.2.1 5 := e4 5 (by omega) (by omega)
  have W' := WF_kF W
  have B' := BT_of R W'
  generalize hfk : kF (h.2.1 100) = fk at R W' B'
  have fe : ∀ k, k ≠ 2 → k < 78 → fk k = h.2.1 100 k := fun k h1 h2 => by rw [← hfk]; exact kF_lo h1 h2
  have n7 := (n_eq W').2.1
  generalize hlv : h.2.1 100 7 = lev at r4
  have hx : (((u, c, l), lev) : (Nat × Nat × Nat) × Int32).1.1 < 128 ∧ (((u, c, l), lev) : (Nat × Nat × Nat) × Int32).1.2.1 < 128 ∧ (((u, c, l), lev) : (Nat × Nat × Nat) × Int32).1.2.2 < 128 := ⟨hu, hc, hl⟩
  have ho : ∀ i, i < nn fk → h'.2.1 5 i = (fun i => fk (33 + i)) i := fun i hi => (R.2.2.2.1 i hi).2.2.1
  have gg : ∀ a F, GH (sF h' a F) := fun a F => g'
  have lp : xloop (fX8_drive_b57 0 (nI M) lev) 1000000 (0, h') = some (0, lev, sF h' 12 (rwN (h'.2.1 12) (tr fk (fun i => fk (33 + i)) (fun k => fk (9 + k) + 0) (fun k => decide (fk (9 + k) = 0)) k0 ((u, c, l), lev) M).1 (tr fk (fun i => fk (33 + i)) (fun k => fk (9 + k) + 0) (fun k => decide (fk (9 + k) = 0)) k0 ((u, c, l), lev) M).2 (nI (k0 + M)))) := by
    refine xloop_c (fun m => (nI m, sF h' 12 (rwN (h'.2.1 12) (tr fk (fun i => fk (33 + i)) (fun k => fk (9 + k) + 0) (fun k => decide (fk (9 + k) = 0)) k0 ((u, c, l), lev) m).1 (tr fk (fun i => fk (33 + i)) (fun k => fk (9 + k) + 0) (fun k => decide (fk (9 + k) = 0)) k0 ((u, c, l), lev) m).2 (nI (k0 + m))))) _ M (by omega) ?_ ?_ ?_
    · intro m hm
      have pm := pass_m (h := h') (r := 12) (w := 5) (k0 := k0) (m := m) (lift := 0) g' (Or.inl rfl) (Or.inl rfl) B' W' (by omega) ho hx (h'.2.1 12)
      simp only [fX8_drive_b57]
      rw [if_neg (by rw [le_nI (by omega) (by omega)]; omega), gR0_0 (gg _ _), Option.bind_some, Option.bind_some, gR1_13 (gg _ _), Option.bind_some, Option.bind_some, gR1_5 (gg _ _), Option.bind_some, gT1 (gg _ _), pm, Option.bind_some, nI_1]
    · simp only [fX8_drive_b57]
      rw [if_pos (by rw [le_nI (by omega) (by omega)]; omega)]
    · simp only [tr, Nat.add_zero]
      rw [rwN_same (by rw [z12, r0, ek]) (by rw [z12, r1, eu]) (by rw [z12, r2, ec]) (by rw [z12, r3, el]) (by rw [z12, r4]), sF_same]; rfl
  have tq := tr_eq (f := fk) (on := fun i => fk (33 + i)) (hgt := fun k => fk (9 + k) + 0) (hgt' := fun k => fk (9 + k)) (sk := fun k => decide (fk (9 + k) = 0)) (sk' := fun k => decide (fk (9 + k) ≤ 0)) (k0 := k0) (y := ((u, c, l), lev)) (fun k hk => ⟨by simp, hz (W'.2.1 k hk)⟩) M q2
  have lt := tr_lt (f := fk) (on := fun i => fk (33 + i)) (hgt := fun k => fk (9 + k)) (sk := fun k => decide (fk (9 + k) ≤ 0)) (k0 := k0) n7 hx M
  rw [tq] at lp
  generalize hT : tr fk (fun i => fk (33 + i)) (fun k => fk (9 + k)) (fun k => decide (fk (9 + k) ≤ 0)) k0 ((u, c, l), lev) M = T at lp lt
  generalize hF : rwN (h'.2.1 12) T.1 T.2 (nI (k0 + M)) = F at lp
  generalize hA : (fun k => if k < 54 then fk k else h'.2.1 104 k) = A
  generalize hB : rwH A T.1 T.2 (nI (k0 + M)) = B
  generalize hf2 : (fun k => if 3 ≤ k ∧ k < 3 + 5 then B k else fk k) = f2
  have a_lo : ∀ k, k < 54 → A k = fk k := fun k hk => by rw [← hA]; simp only []; rw [if_pos hk]
  have f2b : ∀ k, 3 ≤ k ∧ k ≤ 7 → f2 k = B k := fun k hk => by rw [← hf2]; simp only []; rw [if_pos (by omega)]
  refine ⟨T.2 - lev, sF h' 12 F, sF (sF (sF h' 12 F) 104 B) 100 f2, ?_, g', ?_, ?_⟩
  · simp only [fX8_drive]
    rw [within_e, Option.bind_some]
    simp only [t32_1, t32_10]
    rw [i1, if_neg (by decide), gR0_0 g, Option.bind_some, gR1_13 g, Option.bind_some, gI12 g, Option.bind_some, r0, ek, if_pos (t1.mpr q2), Option.bind_some, gR1_13 g, Option.bind_some, gI12 g, Option.bind_some, r4, Option.bind_some, gT1 g, e1, Option.bind_some, lp, Option.bind_some]
    simp only []
    rw [gR0_0 (gg _ _), Option.bind_some, gR1_13 (gg _ _), Option.bind_some, gI12 (gg _ _), Option.bind_some]
    have : F 4 = T.2 := by rw [← hF]; simp [rwN]
    simp only [sF_I, if_true]
    rw [this]
  · have g1 : GH (sF h' 12 F) := g'
    have kk := keep_e g1 (by simpa [sF_I, z100] using W)
    have y100 : (sF h' 12 F).2.1 100 = h.2.1 100 := by simp [sF_I, z100]
    have y104 : (sF h' 12 F).2.1 104 = h'.2.1 104 := by simp [sF_I]
    rw [y100, hfk] at kk
    generalize hh1 : sF h' 12 F = h1 at g1 kk y100 y104
    have g2 : ∀ a F, GH (sF h1 a F) := fun a F => g1
    have lh := layHand_e (g2 100 fk)
    have lh2 : (fun k => if k < 54 then (sF h1 100 fk).2.1 100 k else (sF h1 100 fk).2.1 104 k) = A := by
      rw [← hA]; funext k; simp [sF_I, y104]
    rw [lh2] at lh
    have g3 : GH (sF (sF h1 100 fk) 104 A) := g1
    have gt := goTill_e (h := sF (sF h1 100 fk) 104 A) (f := fk) (on := fun i => fk (33 + i)) (hgt := fun k => fk (9 + k)) (k0 := k0) (M := M) (y := ((u, c, l), lev)) g3 (by simpa [sF_I] using (n_eq W').1) W' (by
      simp only [sF_I, if_true]
      exact ⟨a_lo 8 (by omega), fun i hi => ⟨a_lo _ (by omega), a_lo _ (by omega), a_lo _ (by omega), a_lo _ (by omega), a_lo _ (by omega)⟩⟩) q2 hx (by simp only [sF_I, if_true]; rw [a_lo 3 (by omega), fe 3 (by omega) (by omega), ek]) (by simp only [sF_I, if_true]; rw [a_lo 4 (by omega), fe 4 (by omega) (by omega), eu]) (by simp only [sF_I, if_true]; rw [a_lo 5 (by omega), fe 5 (by omega) (by omega), ec]) (by simp only [sF_I, if_true]; rw [a_lo 6 (by omega), fe 6 (by omega) (by omega), el]) (by simp only [sF_I, if_true]; rw [a_lo 7 (by omega), fe 7 (by omega) (by omega), hlv]) (fun k hk => by simp only [sF_I, if_true]; exact a_lo _ (by omega))
    rw [hT, sF_s] at gt
    simp only [sF_I, if_true] at gt
    rw [hB] at gt
    have g4 : GH (sF (sF h1 100 fk) 104 B) := g1
    have dl := drive67_e (v := lev) g4
    have dl2 : (fun k => if 3 ≤ k ∧ k < 3 + 5 then (sF (sF h1 100 fk) 104 B).2.1 104 k else (sF (sF h1 100 fk) 104 B).2.1 100 k) = f2 := by
      rw [← hf2]; funext k; simp [sF_I]
    rw [dl2, sF_c h1 (by decide : (100 : Nat) ≠ 104), sF_s] at dl
    have B7 : f2 7 = T.2 := by rw [f2b 7 (by omega), ← hB]; simp [rwH]
    simp only [fX9_drive]
    rw [in_e, i64_i, Option.bind_some]
    simp only [t64_1, t64_10]
    rw [i1, if_neg (by decide), gR99_0 g1, Option.bind_some, aI100 g1 (by decide) (by decide), Option.bind_some]
    simp only [t32_3, Int.reduceToNat, y100]
    rw [ek, if_pos (t2.mpr q2), Option.bind_some, aI100 g1 (by decide) (by decide), Option.bind_some, gT99 g1, kk, Option.bind_some, gT99 (g2 _ _), lh, Option.bind_some, gR99_0 g3, Option.bind_some, aI100 g3 (by decide) (by decide), Option.bind_some]
    simp only [t32_3, t32_7, Int.reduceToNat, y100, sF_I, Nat.reduceEqDiff, if_true, if_false]
    rw [fe 3 (by omega) (by omega), ek, nI_add, gT99 g3, gt, Option.bind_some, hlv, sF_c h1 (by decide : (100 : Nat) ≠ 104), dl, Option.bind_some]
    simp only []
    have g5 : GH (sF (sF h1 104 B) 100 f2) := g1
    rw [gR99_0 g5, Option.bind_some, aI100 g5 (by decide) (by decide), Option.bind_some]
    simp only [t32_7, Int.reduceToNat, sF_I, if_true]
    rw [B7]
  · have b3 : f2 3 = nI (k0 + M) := by rw [f2b 3 (by omega), ← hB]; simp [rwH]
    have b4 : f2 4 = nI T.1.1 := by rw [f2b 4 (by omega), ← hB]; simp [rwH]
    have b5 : f2 5 = nI T.1.2.1 := by rw [f2b 5 (by omega), ← hB]; simp [rwH]
    have b6 : f2 6 = nI T.1.2.2 := by rw [f2b 6 (by omega), ← hB]; simp [rwH]
    have b7 : f2 7 = T.2 := by rw [f2b 7 (by omega), ← hB]; simp [rwH]
    rw [sF_c h' (by decide : (12 : Nat) ≠ 104)]
    refine Inv_ride H (h' := sF h' 104 B) (f1 := fk) g' e2 e3 ?_ (RB_keep R (fun a h1 h2 => by simp only [sF_I]; rw [if_neg (by omega)]) rfl) W' ?_ ?_ ?_ ?_ ?_ ?_
    · intro a ha; unfold keep at ha; simp only [sF_I]; rw [if_neg (by omega)]; exact e4 a (by omega) (by omega)
    · intro k hk; rw [← hf2]; simp only []; rw [if_neg (by omega)]
    · intro j hj
      rw [← hF]
      rcases (by omega : j = 0 ∨ j = 1 ∨ j = 2 ∨ j = 3 ∨ j = 4) with rfl | rfl | rfl | rfl | rfl
      · simp [rwN, b3]
      · simp [rwN, b4]
      · simp [rwN, b5]
      · simp [rwN, b6]
      · simp [rwN, b7]
    · rw [b3]; unfold rg; rw [nI_toInt (by omega)]; omega
    · rw [b4]; unfold rg; rw [nI_toInt (by omega)]; omega
    · rw [b5]; unfold rg; rw [nI_toInt (by omega)]; omega
    · rw [b6]; unfold rg; rw [nI_toInt (by omega)]; omega
end DRIVE
