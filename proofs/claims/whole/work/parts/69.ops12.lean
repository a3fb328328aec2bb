section OPS12
variable {h : Hp}
def uF (f : Nat → Int32) (u : Nat) : Nat → Int32 := fun k => if 3 ≤ k ∧ k < 8 then f (78 + 5 * u + (k - 3)) else if k = 2 then nI u else f k
theorem undo_l (g : GH h) {u : Nat} (hu : u < 8) (e : h.2.1 100 2 = nI u) : xloop (fX9_undo_b26 99) 1000000 (0, h) = some (99, sF h 100 (fun k => if 3 ≤ k ∧ k < 3 + 5 then h.2.1 100 (78 + 5 * u + (k - 3)) else h.2.1 100 k)) := by
  refine xloop_c (fun c => (nI c, sF h 100 (fun k => if 3 ≤ k ∧ k < 3 + c then h.2.1 100 (78 + 5 * u + (k - 3)) else h.2.1 100 k))) _ 5 (by decide) ?_ ?_ ?_
  · intro c hc
    have ht : ¬ ((5 : Int32) ≤ nI c) := by rw [show (5 : Int32) = nI 5 from rfl, le_nI (by omega) (by omega)]; omega
    have h2 : ¬ (3 ≤ 2 ∧ 2 < 3 + c) := by omega
    have i1 : 78 + 5 * nI u + nI c = nI (78 + 5 * u + c) := by simp only [lm5, la78]; exact (nI_add _ _)
    have i2 : 3 + nI c = nI (3 + c) := by simp only [la3]
    simp only [fX9_undo_b26]
    rw [if_neg ht, gR99_0 (h := sF h 100 _) g, Option.bind_some, Option.bind_some, Option.bind_some, aI100 (h := sF h 100 _) g (by decide) (by decide), Option.bind_some]
    simp only [sF_I, if_true, t32_2, Int.reduceToNat]
    rw [if_neg h2, e, i1, aN100 (h := sF h 100 _) g (by omega), Option.bind_some, i2, sN100 (h := sF h 100 _) g (by omega), Option.bind_some, sF_s, nI_1]
    congr 4
    funext k
    simp only [upd_e, sF_I, if_true]
    by_cases z1 : k = 3 + c
    · subst z1
      rw [if_pos rfl, if_neg (by omega), if_pos (by omega)]; exact congrArg (h.2.1 100) (by omega)
    · rw [if_neg z1]
      by_cases z2 : 3 ≤ k ∧ k < 3 + c
      · rw [if_pos z2, if_pos (by omega)]
      · rw [if_neg z2, if_neg (by omega)]
  · simp only [fX9_undo_b26]
    rw [if_pos (by decide)]
  · have : (fun k => if 3 ≤ k ∧ k < 3 + 0 then h.2.1 100 (78 + 5 * u + (k - 3)) else h.2.1 100 k) = h.2.1 100 := by funext k; rw [if_neg (by omega)]
    rw [this, sF_same]; rfl
theorem op_undo (H : Inv h) : Op (fX8_undo 0 h) (fX9_undo 99) := by
  have g := H.1
  obtain ⟨b1, b2, b3, b4⟩ := H.2.1.1
  obtain ⟨n0, n8⟩ := u_eq H.2.2.1
  by_cases q1 : nu (h.2.1 100) = 0
  · have n0' : h.2.1 100 2 = 0 := by rw [n0, q1]; rfl
    refine Op_bad H (-3) 1 (by omega) ?_ ?_
    · simp (disch := first | exact g | exact GH_F2 g | exact GH_F2 (GH_F2 g) | exact GH_F2 (GH_F2 (GH_F2 g)) | exact GH_F2 (GH_F2 (GH_F2 (GH_F2 g))) | exact GH_F2 (GH_F2 (GH_F2 (GH_F2 (GH_F2 g)))) | exact GH_F2 (GH_F2 (GH_F2 (GH_F2 (GH_F2 (GH_F2 g))))) | exact GH_F2 (GH_F2 (GH_F2 (GH_F2 (GH_F2 (GH_F2 (GH_F2 g)))))) | exact GH_F2 (GH_F2 (GH_F2 (GH_F2 (GH_F2 (GH_F2 (GH_F2 (GH_F2 g))))))) | exact GH_F2 (GH_F2 (GH_F2 (GH_F2 (GH_F2 (GH_F2 (GH_F2 (GH_F2 (GH_F2 g)))))))) | omega | decide) [fX8_undo, b3, n0', gR0_0, gR0_1, gR0_2, gR0_3, gR0_4, gR0_5, gR0_6, gR0_7, gR0_8, gR66_0, gR66_1, gR69_0, gR72_0, gR72_1, gR76_0, gR76_2, gR1_1, gR1_3, gR1_4, gR1_5, gR1_6, gR1_7, gR1_9, gR1_10, gR1_11, gR1_12, gR1_13, gR1_14, gI0, pI0, gT0, gI1, pI1, gT1, gI12, pI12, gT12, gI66, pI66, gT66, gI67, pI67, gT67, gI69, pI69, gT69, gI71, pI71, gT71, gI72, pI72, gT72, gI75, pI75, gT75, gI76, pI76, gT76, aI2, aI3, aI4, aI5, aI6, aI7, aI8, aI9, aI10, aI11, aI65, aI68, aI70, aI73, aI74, aI77, sI2, sI3, sI4, sI5, sI6, sI7, sI8, sI9, sI10, sI11, sI68, sI70, sI73, sI74, sI77, aN2, aN3, aN4, aN5, aN6, aN7, aN8, aN9, aN10, aN11, aN65, aN68, aN70, aN73, aN74, aN77, sN2, sN3, sN4, sN5, sN6, sN7, sN8, sN9, sN10, sN11, sN68, sN70, sN73, sN74, sN77, sZN65, sZ65, refuseBad_e, refuseNo_e, refuseFull_e, refuseOther_e, -Int32.toInt_add, -Int32.toInt_sub, nI_tt, nI_c, la1, lb1, la2, lb2, la3, lb3, la4, lb4, la5, lb5, la6, lb6, la7, lb7, la8, lb8, la9, lb9, la10, lb10, la19, lb19, la26, lb26, la33, lb33, la40, lb40, la47, lb47, la54, lb54, la78, lb78, la83, lb83, la118, lb118, lm2, lm4, lm5, lm10, lm118, t32_0, t64_0, t32_1, t64_1, t32_2, t64_2, t32_3, t64_3, t32_4, t64_4, t32_5, t64_5, t32_6, t64_6, t32_7, t64_7, t32_8, t64_8, t32_9, t64_9, t32_10, t64_10, t32_40, t64_40, t32_60, t64_60, t32_127, t64_127, t32_150, t64_150, t32_200, t64_200, t32_999999, t64_999999, reduceIte, ne01, ne02, ne03, ne04, ne05, ne06, ne07, ne10, ne12, ne13, ne14, ne15, ne16, ne17, ne20, ne21, ne23, ne24, ne25, ne26, ne27, ne30, ne31, ne32, ne34, ne35, ne36, ne37, ne40, ne41, ne42, ne43, ne45, ne46, ne47, ne50, ne51, ne52, ne53, ne54, ne56, ne57, ne60, ne61, ne62, ne63, ne64, ne65, ne67, ne70, ne71, ne72, ne73, ne74, ne75, ne76, eq0, eq1, eq2, eq3, eq4, eq5, eq6, eq7, bit_e, GH_F2, sF_I, sF_s, sF_1, sF_R, sF_L, Option.bind_some, i64_i, in_e, within_e]
    · intro h1 g e
      simp (disch := first | exact g | exact GH_F2 g | exact GH_F2 (GH_F2 g) | exact GH_F2 (GH_F2 (GH_F2 g)) | exact GH_F2 (GH_F2 (GH_F2 (GH_F2 g))) | exact GH_F2 (GH_F2 (GH_F2 (GH_F2 (GH_F2 g)))) | exact GH_F2 (GH_F2 (GH_F2 (GH_F2 (GH_F2 (GH_F2 g))))) | exact GH_F2 (GH_F2 (GH_F2 (GH_F2 (GH_F2 (GH_F2 (GH_F2 g)))))) | exact GH_F2 (GH_F2 (GH_F2 (GH_F2 (GH_F2 (GH_F2 (GH_F2 (GH_F2 g))))))) | exact GH_F2 (GH_F2 (GH_F2 (GH_F2 (GH_F2 (GH_F2 (GH_F2 (GH_F2 (GH_F2 g)))))))) | omega | decide) [fX9_undo, e 100 (by decide), n0', gR99_0, gR99_1, gR99_2, gR99_3, gR99_6, gR99_7, gR99_8, gR99_9, gR99_10, gR99_16, gR99_17, gI99, pI99, gT99, aI100, aI101, aI102, aI103, aI104, aI105, aI106, aI107, aI108, aI109, aI110, sI100, sI101, sI103, sI104, sI105, sI106, sI107, sI108, sI109, sI110, aN100, aN101, aN102, aN103, aN104, aN105, aN106, aN107, aN108, aN109, aN110, sN100, sN101, sN103, sN104, sN105, sN106, sN107, sN108, sN109, sN110, sZN102, sZ102, bad_e, no_e, full_e, many_e, isIdea_e, isStop_e, -Int32.toInt_add, -Int32.toInt_sub, nI_tt, nI_c, la1, lb1, la2, lb2, la3, lb3, la4, lb4, la5, lb5, la6, lb6, la7, lb7, la8, lb8, la9, lb9, la10, lb10, la19, lb19, la26, lb26, la33, lb33, la40, lb40, la47, lb47, la54, lb54, la78, lb78, la83, lb83, la118, lb118, lm2, lm4, lm5, lm10, lm118, t32_0, t64_0, t32_1, t64_1, t32_2, t64_2, t32_3, t64_3, t32_4, t64_4, t32_5, t64_5, t32_6, t64_6, t32_7, t64_7, t32_8, t64_8, t32_9, t64_9, t32_10, t64_10, t32_40, t64_40, t32_60, t64_60, t32_127, t64_127, t32_150, t64_150, t32_200, t64_200, t32_999999, t64_999999, reduceIte, ne01, ne02, ne03, ne04, ne05, ne06, ne07, ne10, ne12, ne13, ne14, ne15, ne16, ne17, ne20, ne21, ne23, ne24, ne25, ne26, ne27, ne30, ne31, ne32, ne34, ne35, ne36, ne37, ne40, ne41, ne42, ne43, ne45, ne46, ne47, ne50, ne51, ne52, ne53, ne54, ne56, ne57, ne60, ne61, ne62, ne63, ne64, ne65, ne67, ne70, ne71, ne72, ne73, ne74, ne75, ne76, eq0, eq1, eq2, eq3, eq4, eq5, eq6, eq7, bit_e, GH_F2, sF_I, sF_s, sF_1, sF_R, sF_L, Option.bind_some, i64_i, in_e, within_e]
  obtain ⟨u, hu⟩ : ∃ u, nu (h.2.1 100) = u + 1 := ⟨nu (h.2.1 100) - 1, by omega⟩
  rw [hu] at n0 n8
  have l0 : (0 : Int32) < nI (u + 1) := by rw [fa_lt, nI_toInt (by omega)]; show (0 : Int) < ((u + 1 : Nat) : Int); omega
  have ne0 : ¬ nI (u + 1) = 0 := nI_ne (b := 0) (by omega) (by decide) (by omega)
  obtain ⟨π, p1, p2, p3⟩ := H.2.1.2.2.2.2.2
  obtain ⟨c1, c2⟩ := p1 u (by omega)
  have hb : isB 1 := Or.inl rfl
  have g1 : GH (sF h 1 (upd (h.2.1 1) 15 (nI u))) := g
  have W := H.2.2.1
  have w6 := W.2.2.2.2.2 u (by omega)
  refine ⟨h.2.1 100 (78 + 5 * u), sF (sF h 1 (upd (h.2.1 1) 15 (nI u))) 12 (tk (h.2.1 12) (h.2.1 (1 + 13 + π u))), sF (sF (sF h 1 (upd (h.2.1 1) 15 (nI u))) 12 (tk (h.2.1 12) (h.2.1 (1 + 13 + π u)))) 100 (uF (h.2.1 100) u), ?_, g, ?_, ?_⟩
  · have tke := take_e (h := sF h 1 (upd (h.2.1 1) 15 (nI u))) (a := 12) (b := 1 + 13 + π u) (gsr g1 hb) (gsp g1 hb c1) (by omega)
    simp only [sF_I] at tke
    rw [if_neg (by omega), if_neg (by omega)] at tke
    have p30 := p3 u 0 (by omega) (by omega) (by omega)
    have ga : GH (sF (sF h 1 (upd (h.2.1 1) 15 (nI u))) 12 (tk (h.2.1 12) (h.2.1 (1 + 13 + π u)))) := g
    have hg : fX0_goBack 1 h = some (sF (sF h 1 (upd (h.2.1 1) 15 (nI u))) 12 (tk (h.2.1 12) (h.2.1 (1 + 13 + π u)))) := by
      simp only [fX0_goBack]
      rw [gIb g hb, Option.bind_some, b3, n0, if_pos l0, Option.bind_some, pIb g hb, Option.bind_some, nI_pred, gRb13 g1 hb, Option.bind_some, gRb14 g1 hb, Option.bind_some, gIb g1 hb, Option.bind_some]
      simp only [sF_I, if_true, upd_e]
      rw [e_aR (k := u) (gsq g1 hb) rfl (by omega) (by decide), sF_R, c2, Option.bind_some, e_at (gsr g1 hb), tke]; rfl
    simp only [fX8_undo]
    rw [gR0_0 g, Option.bind_some, gI1 g, Option.bind_some, b3, n0, if_pos l0, Option.bind_some, e_at (gb0 g hb), hg, Option.bind_some, gR0_0 ga, Option.bind_some, gR1_13 ga, Option.bind_some, gI12 ga, Option.bind_some]
    simp only [sF_I, if_true, tk]
    rw [if_pos (by omega), p30]; rfl
  · have ga : GH (sF (sF h 1 (upd (h.2.1 1) 15 (nI u))) 12 (tk (h.2.1 12) (h.2.1 (1 + 13 + π u)))) := g
    generalize hh : sF (sF h 1 (upd (h.2.1 1) 15 (nI u))) 12 (tk (h.2.1 12) (h.2.1 (1 + 13 + π u))) = h1 at ga
    have z100 : h1.2.1 100 = h.2.1 100 := by rw [← hh]; rfl
    have gb : GH (sF h1 100 (upd (h.2.1 100) 2 (nI u))) := ga
    have ll := undo_l gb (u := u) (by omega) (by simp [sF_I, upd_e])
    simp only [sF_s, sF_I, if_true] at ll
    simp only [fX9_undo]
    rw [gR99_0 ga, Option.bind_some, aI100 ga (by decide) (by decide), Option.bind_some]
    simp only [t32_2, Int.reduceToNat]
    rw [z100, n0, if_neg ne0, Option.bind_some, aI100 ga (by decide) (by decide), Option.bind_some, sI100 ga (by decide) (by decide), Option.bind_some]
    simp only [t32_2, Int.reduceToNat]
    rw [z100, n0, nI_pred, ll, Option.bind_some]
    simp only []
    rw [gR99_0 (h := sF h1 100 _) ga, Option.bind_some, aI100 (h := sF h1 100 _) ga (by decide) (by decide), Option.bind_some]
    simp only [t32_3, Int.reduceToNat, sF_I, if_true]
    have hk : (fun k => if 3 ≤ k ∧ k < 3 + 5 then upd (h.2.1 100) 2 (nI u) (78 + 5 * u + (k - 3)) else upd (h.2.1 100) 2 (nI u) k) = uF (h.2.1 100) u := by
      funext k; simp only [uF, upd_e]
      by_cases z : 3 ≤ k ∧ k < 8
      · rw [if_pos (by omega), if_pos z, if_neg (by omega)]
      · rw [if_neg (by omega), if_neg z]
    rw [hk]; simp only [upd_e]
    rw [if_pos (by omega), if_neg (by omega)]; rfl
  · have f2 : uF (h.2.1 100) u 2 = nI u := by simp [uF]
    have fo : ∀ k, k ≠ 2 → ¬ (3 ≤ k ∧ k ≤ 7) → uF (h.2.1 100) u k = h.2.1 100 k := fun k h1 h2 => by simp only [uF]; rw [if_neg (by omega), if_neg h1]
    have fr : ∀ c, c < 5 → uF (h.2.1 100) u (3 + c) = h.2.1 100 (78 + 5 * u + c) := fun c hc => by simp only [uF]; rw [if_pos (by omega)]; exact congrArg (h.2.1 100) (by omega)
    have e2 : nu (uF (h.2.1 100) u) = u := by unfold nu; rw [f2]; exact nI_tt (by omega)
    refine Inv_bus H rfl (fun _ _ => rfl) ?_ rfl ?_ ?_
    · intro a ha; unfold keep at ha; simp only [sF_I]; rw [if_neg (by omega), if_neg (by omega), if_neg (by omega)]
    · show RB _ 1 (uF (h.2.1 100) u)
      refine RB_p H.2.1 W ?_ ?_ ?_ (fun k _ h2 h3 => fo k h2 h3) ?_ ⟨π, p1, p2, ?_⟩
      · intro k hk; simp [sF_I, upd_e, hk]
      · rw [f2]; simp [sF_I, upd_e]
      · intro a h1 h2; simp only [sF_I]; rw [if_neg (by omega), if_neg (by omega), if_neg (by omega)]
      · intro c hc
        rw [fr c hc]; show tk (h.2.1 12) (h.2.1 (1 + 13 + π u)) c = _; simp only [tk]; rw [if_pos hc]
        exact p3 u c (by omega) (by omega) hc
      · intro v c h8 hv hc
        rw [e2] at hv
        have := (p1 v h8).1
        simp only [sF_I]; rw [if_neg (by omega), if_neg (by omega), if_neg (by omega), fo _ (by omega) (by omega)]
        exact p3 v c h8 (by omega) hc
    · show WF (uF (h.2.1 100) u)
      have fr0 := fr 0 (by omega)
      simp only [Nat.add_zero] at fr0
      refine WF_p W (fun k _ h2 h3 => fo k h2 h3) ?_ ?_ ?_ ?_ ?_ ?_
      · rw [f2]; unfold rg; rw [nI_toInt (by omega)]; omega
      · rw [fr0]; exact w6.1
      · rw [fr 1 (by omega)]; exact w6.2.1
      · rw [fr 2 (by omega)]; exact w6.2.2.1
      · rw [fr 3 (by omega)]; exact w6.2.2.2
      · intro v hv
        rw [e2] at hv
        rw [fo _ (by omega) (by omega), fo _ (by omega) (by omega), fo _ (by omega) (by omega), fo _ (by omega) (by omega)]; exact W.2.2.2.2.2 v (by omega)
end OPS12
