section SETS
variable {h : Hp}
theorem shl_n : ∀ n, n ≤ 7 → (1 : Int32) <<< (nI n &&& 31) = nI (2 ^ n) := by decide +kernel
def qok (f : Nat → Int32) (v i : Nat) : Bool := decide (bt1 (nI v) i = 1 → f (47 + i) &&& nI v = 0)
def canB (f : Nat → Int32) (s x : Int32) (v : Nat) : Bool := decide (¬ f 8 < nI (bcn v)) && decide (swN f s v (nn f) = x) && allB (qok f v) (nn f)
theorem quarIn_e {f : Nat → Int32} {v : Nat} (J : JX h f) : fX0_quarrelsIn 1 (nI v) h = some (if allB (qok f v) (nn f) = true then 0 else 1) := by
  have g := J.1
  have n7 := (n_eq J.2.2.1).2.1
  have B := J.2.1
  have lp : ∃ r, xloop (fX0_quarrelsIn_b2 1 (nI v) h) 1000000 0 = some r ∧ ((r = Sum.inl () ∧ allB (qok f v) (nn f) = false) ∨ (r = Sum.inr () ∧ allB (qok f v) (nn f) = true)) := by
    refine xloop_i (body := fX0_quarrelsIn_b2 1 (nI v) h) (fun i st => st = nI i ∧ allB (qok f v) i = true) (fun r => (r = Sum.inl () ∧ allB (qok f v) (nn f) = false) ∨ (r = Sum.inr () ∧ allB (qok f v) (nn f) = true)) (nn f) (by omega) ?_ ?_ ⟨rfl, rfl⟩
    · intro i st hi ⟨a1, a2⟩
      subst a1
      have hd : fX0_quarrelsIn_b2 1 (nI v) h (nI i) = if bt1 (nI v) i = 1 then (if f (47 + i) &&& nI v = 0 then some (Sum.inl (nI (i + 1))) else some (Sum.inr (Sum.inl ()))) else some (Sum.inl (nI (i + 1))) := by
        simp only [fX0_quarrelsIn_b2, fX0_quarrelsIn_j32]
        rw [gI1 g, Option.bind_some, B.1, if_neg (by rw [le_nI (by omega) (by omega)]; omega), bit_e, Option.bind_some, gR1_7 g, Option.bind_some, aN7 g (by omega), Option.bind_some, (B.2.2.2 i hi).2.2.2, nI_1]
        rfl
      rw [hd]
      by_cases z1 : bt1 (nI v) i = 1
      · by_cases z2 : f (47 + i) &&& nI v = 0
        · left
          rw [if_pos z1, if_pos z2]
          exact ⟨_, rfl, rfl, by simp only [allB]; rw [a2]; simp [qok, z2]⟩
        · right
          rw [if_pos z1, if_neg z2]
          exact ⟨_, rfl, Or.inl ⟨rfl, allB_no (q := i) (by simp [qok, z1, z2]) _ hi⟩⟩
      · left
        rw [if_neg z1]
        exact ⟨_, rfl, rfl, by simp only [allB]; rw [a2]; simp [qok, z1]⟩
    · intro st ⟨a1, a2⟩
      subst a1
      refine ⟨Sum.inr (), ?_, Or.inr ⟨rfl, a2⟩⟩
      simp only [fX0_quarrelsIn_b2]
      rw [gI1 g, Option.bind_some, B.1, if_pos (by rw [le_nI (by omega) (by omega)]; omega)]
  obtain ⟨r, er, hr⟩ := lp
  simp only [fX0_quarrelsIn]
  rw [er, Option.bind_some]
  rcases hr with ⟨rfl, e⟩ | ⟨rfl, e⟩
  · rw [e]; rfl
  · rw [e]; rfl
theorem canBe_e {f : Nat → Int32} {v : Nat} {s x : Int32} (J : JX h f) (hv : v < 128) : fX6_canBe 1 (nI v) s x h = some (if canB f s x v = true then 1 else 0) := by
  have g := J.1
  have B := J.2.1
  simp only [fX6_canBe, fX6_canBe_j33, fX6_canBe_j34]
  rw [if_pos (show vp_nar .boolean 0 = 0 from rfl), if_pos (show vp_nar .boolean 1 = 1 from rfl), bcnt_e hv, Option.bind_some, gI1 g, Option.bind_some, B.2.1, gT1 g, swayAll_e g B J.2.2.1, Option.bind_some, gT1 g, quarIn_e J, Option.bind_some]
  by_cases z1 : f 8 < nI (bcn v)
  · simp [canB, z1]
  · by_cases z2 : swN f s v (nn f) = x
    · by_cases z3 : allB (qok f v) (nn f) = true
      · simp [canB, z1, z2, z3]
      · simp [canB, z1, z2, z3]
    · simp [canB, z1, z2]
def sN (f : Nat → Int32) (s x : Int32) : Nat → Int32 × Int32 × Int32
  | 0 => (0, nI (2 ^ nn f) - 1, 0)
  | v + 1 => if canB f s x v = true then ((sN f s x v).1 + 1, (sN f s x v).2.1 &&& nI v, (sN f s x v).2.2 ||| nI v) else sN f s x v
def g3 (F : Nat → Int32) (p : Int32 × Int32 × Int32) : Nat → Int32 := upd (upd (upd F 0 p.1) 1 p.2.1) 2 p.2.2
theorem find_c {f : Nat → Int32} {s x : Int32} (J : JX h f) : fX6_find 71 1 s x h = some (sF h 71 (g3 (h.2.1 71) (sN f s x (2 ^ nn f)))) := by
  have g := J.1
  have n7 := (n_eq J.2.2.1).2.1
  have B := J.2.1
  have p7 := pw7 n7
  have gg : ∀ F, GH (sF h 71 F) := fun F => g
  have JJ : ∀ F, JX (sF h 71 F) f := fun F => JX_k (KP_F (KP_rfl [71] h) (by decide) F) (by decide) J
  have lp : xloop (fX6_find_b25 71 1 s x) 1000000 (0, sF h 71 (g3 (h.2.1 71) (sN f s x 0))) = some (sF h 71 (g3 (h.2.1 71) (sN f s x (2 ^ nn f)))) := by
    refine xloop_c (fun v => (nI v, sF h 71 (g3 (h.2.1 71) (sN f s x v)))) _ (2 ^ nn f) (by omega) ?_ ?_ rfl
    · intro v hv
      simp only [fX6_find_b25, fX6_find_j82]
      rw [gI1 (gg _), Option.bind_some, (JJ _).2.1.1, shl_n _ n7, if_neg (by rw [le_nI (by omega) (by omega)]; omega), canBe_e (JJ _) (by omega), Option.bind_some]
      by_cases z : canB f s x v = true
      · simp only [sN, z, if_true]
        rw [if_neg (by decide), gI71 (gg _), Option.bind_some, pI71 (gg _), Option.bind_some, sF_s, gI71 (gg _), Option.bind_some, pI71 (gg _), Option.bind_some, sF_s, gI71 (gg _), Option.bind_some, pI71 (gg _), Option.bind_some, sF_s, nI_1]
        simp only [sF_I, if_true]
        congr 4
        generalize sN f s x v = p
        funext k
        simp only [g3, upd_e]
        by_cases k2 : k = 2
        · simp [k2]
        · by_cases k1 : k = 1
          · simp [k1]
          · by_cases k0 : k = 0
            · simp [k0]
            · simp [k0, k1, k2]
      · have zf : canB f s x v = false := by simpa using z
        simp only [sN, zf]
        rw [nI_1]
        simp
    · simp only [fX6_find_b25]
      rw [gI1 (gg _), Option.bind_some, (JJ _).2.1.1, shl_n _ n7, if_pos (by rw [le_nI (by omega) (by omega)]; omega)]
  simp only [fX6_find]
  rw [pI71 g, Option.bind_some, gI1 (gg _), Option.bind_some, (JJ _).2.1.1, shl_n _ n7, pI71 (gg _), Option.bind_some, sF_s, pI71 (gg _), Option.bind_some, sF_s]
  simp only [sF_I, if_true]
  have lp' : xloop (fX6_find_b25 71 1 s x) 1000000 (0, sF h 71 (upd (upd (upd (h.2.1 71) 0 0) 1 (nI (2 ^ nn f) - 1)) 2 0)) = some (sF h 71 (g3 (h.2.1 71) (sN f s x (2 ^ nn f)))) := lp
  rw [lp', Option.bind_some]
theorem find_m {f on : Nat → Int32} {s x v3 : Int32} (M : MX h f) (HR0 : HR (h.2.1 104) f on) : xloop (fX9_upstairs_b61 99 s x v3 h) 1000000 (0, nI (2 ^ nn f) - 1, 0, 0) = some (v3, sN f s x (2 ^ nn f)) := by
  have g := M.1
  have W := M.2.1
  have n7 := (n_eq W).2.1
  have p7 := pw7 n7
  have e0 : h.2.1 100 0 = nI (nn f) := by rw [M.2.2]; exact (n_eq W).1
  have inn : ∀ (v : Nat) (v4 v5 v6 t : Int32), (t = 0 ∨ t = 1) → xloop (fX9_upstairs_b108 99 s x v3 v4 v5 v6 (nI v) h) 1000000 (t, 0) = some (99, s, x, v3, v4, v5, v6, nI v, if t = 1 ∧ allB (qok f v) (nn f) = true then 1 else 0) := by
    intro v v4 v5 v6 t ht
    refine xloop_c (fun i => (if t = 1 ∧ allB (qok f v) i = true then 1 else 0, nI i)) _ (nn f) (by omega) ?_ ?_ ?_
    · intro i hi
      simp only [fX9_upstairs_b108, fX9_upstairs_j152, fX9_upstairs_j148, fX9_upstairs_j153]
      rw [many_at g e0, Option.bind_some, if_neg (by rw [le_nI (by omega) (by omega)]; omega), has_bt, Option.bind_some, gR99_0 g, Option.bind_some, la47, aN100 g (by omega), Option.bind_some, M.2.2, Int32.and_comm, nI_1]
      by_cases z0 : t = 1 ∧ allB (qok f v) i = true
      · by_cases z1 : bt1 (nI v) i = 1
        · by_cases z2 : f (47 + i) &&& nI v = 0
          · simp [z0, z1, z2, qok, allB]
          · simp [z0, z1, z2, qok, allB]
        · simp [z0, z1, qok, allB]
      · have z1 : ¬ (t = 1 ∧ allB (qok f v) (i + 1) = true) := fun q => z0 ⟨q.1, by have := q.2; simp only [allB, Bool.and_eq_true] at this; exact this.1⟩
        rw [if_neg z0, if_pos rfl, if_neg z1]
    · simp only [fX9_upstairs_b108]
      rw [many_at g e0, Option.bind_some, if_pos (by rw [le_nI (by omega) (by omega)]; omega)]
    · rcases ht with rfl | rfl
      · simp; rfl
      · simp [allB]; rfl
  refine xloop_c (fun v => ((sN f s x v).1, (sN f s x v).2.1, (sN f s x v).2.2, nI v)) _ (2 ^ nn f) (by omega) ?_ ?_ rfl
  · intro v hv
    have a8 : xaI h 100 10 8 = some (h.2.1 100 8) := aN100 g (i := 8) (by omega)
    simp only [fX9_upstairs_b61, fX9_upstairs_j102, fX9_upstairs_j103, fX9_upstairs_j174, fX9_upstairs_j190, fX9_upstairs_j205]
    rw [many_at g e0, Option.bind_some, shl_n _ n7, if_neg (by rw [le_nI (by omega) (by omega)]; omega), bits_e (by omega), Option.bind_some, gR99_0 g, Option.bind_some, a8, Option.bind_some, M.2.2, gT99 g, mswayAll_e g e0 W HR0, Option.bind_some, inn v _ _ _ 0 (Or.inl rfl), inn v _ _ _ 1 (Or.inr rfl), Option.bind_some, Option.bind_some]
    simp only [nI_1, and_m1, or_z]
    generalize hp : sN f s x v = p
    have hn : sN f s x (v + 1) = if canB f s x v = true then (p.1 + 1, p.2.1 &&& nI v, p.2.2 ||| nI v) else p := by rw [← hp]; rfl
    rw [hn]
    by_cases z1 : f 8 < nI (bcn v)
    · simp [canB, z1]
    · by_cases z2 : swN f s v (nn f) = x
      · by_cases z3 : allB (qok f v) (nn f) = true
        · simp [canB, z1, z2, z3]
        · simp [canB, z1, z2, z3]
      · simp [canB, z1, z2]
  · simp only [fX9_upstairs_b61]
    rw [many_at g e0, Option.bind_some, shl_n _ n7, if_pos (by rw [le_nI (by omega) (by omega)]; omega)]
theorem op_upstairs (H : Inv h) (v w z : Int32) : Op (fX8_upstairs 0 v w z h) (fX9_upstairs 99 v w z) := by
  have g := H.1
  have W := H.2.2.1
  have n7 := (n_eq W).2.1
  by_cases q1 : ¬ (0 ≤ v.toInt ∧ v.toInt ≤ 9)
  · refine Op_bad H (-2) 0 (by omega) ?_ ?_
    · simp (disch := first | exact g | exact GH_F2 g | exact GH_F2 (GH_F2 g) | exact GH_F2 (GH_F2 (GH_F2 g)) | exact GH_F2 (GH_F2 (GH_F2 (GH_F2 g))) | exact GH_F2 (GH_F2 (GH_F2 (GH_F2 (GH_F2 g)))) | exact GH_F2 (GH_F2 (GH_F2 (GH_F2 (GH_F2 (GH_F2 g))))) | exact GH_F2 (GH_F2 (GH_F2 (GH_F2 (GH_F2 (GH_F2 (GH_F2 g)))))) | exact GH_F2 (GH_F2 (GH_F2 (GH_F2 (GH_F2 (GH_F2 (GH_F2 (GH_F2 g))))))) | exact GH_F2 (GH_F2 (GH_F2 (GH_F2 (GH_F2 (GH_F2 (GH_F2 (GH_F2 (GH_F2 g)))))))) | omega | decide) [fX8_upstairs, fX8_upstairs_j21, inb_no q1, gR0_0, gR0_1, gR0_2, gR0_3, gR0_4, gR0_5, gR0_6, gR0_7, gR0_8, gR66_0, gR66_1, gR69_0, gR72_0, gR72_1, gR76_0, gR76_2, gR1_1, gR1_3, gR1_4, gR1_5, gR1_6, gR1_7, gR1_9, gR1_10, gR1_11, gR1_12, gR1_13, gR1_14, gI0, pI0, gT0, gI1, pI1, gT1, gI12, pI12, gT12, gI66, pI66, gT66, gI67, pI67, gT67, gI69, pI69, gT69, gI71, pI71, gT71, gI72, pI72, gT72, gI75, pI75, gT75, gI76, pI76, gT76, aI2, aI3, aI4, aI5, aI6, aI7, aI8, aI9, aI10, aI11, aI65, aI68, aI70, aI73, aI74, aI77, sI2, sI3, sI4, sI5, sI6, sI7, sI8, sI9, sI10, sI11, sI68, sI70, sI73, sI74, sI77, aN2, aN3, aN4, aN5, aN6, aN7, aN8, aN9, aN10, aN11, aN65, aN68, aN70, aN73, aN74, aN77, sN2, sN3, sN4, sN5, sN6, sN7, sN8, sN9, sN10, sN11, sN68, sN70, sN73, sN74, sN77, sZN65, sZ65, refuseBad_e, refuseNo_e, refuseFull_e, refuseOther_e, -Int32.toInt_add, -Int32.toInt_sub, nI_tt, nI_c, la1, lb1, la2, lb2, la3, lb3, la4, lb4, la5, lb5, la6, lb6, la7, lb7, la8, lb8, la9, lb9, la10, lb10, la19, lb19, la26, lb26, la33, lb33, la40, lb40, la47, lb47, la54, lb54, la78, lb78, la83, lb83, la118, lb118, lm2, lm4, lm5, lm10, lm118, t32_0, t64_0, t32_1, t64_1, t32_2, t64_2, t32_3, t64_3, t32_4, t64_4, t32_5, t64_5, t32_6, t64_6, t32_7, t64_7, t32_8, t64_8, t32_9, t64_9, t32_10, t64_10, t32_40, t64_40, t32_60, t64_60, t32_127, t64_127, t32_150, t64_150, t32_200, t64_200, t32_999999, t64_999999, reduceIte, ne01, ne02, ne03, ne04, ne05, ne06, ne07, ne10, ne12, ne13, ne14, ne15, ne16, ne17, ne20, ne21, ne23, ne24, ne25, ne26, ne27, ne30, ne31, ne32, ne34, ne35, ne36, ne37, ne40, ne41, ne42, ne43, ne45, ne46, ne47, ne50, ne51, ne52, ne53, ne54, ne56, ne57, ne60, ne61, ne62, ne63, ne64, ne65, ne67, ne70, ne71, ne72, ne73, ne74, ne75, ne76, eq0, eq1, eq2, eq3, eq4, eq5, eq6, eq7, bit_e, GH_F2, sF_I, sF_s, sF_1, sF_R, sF_L, Option.bind_some, i64_i, in_e, within_e]
    · intro h1 g e
      simp (disch := first | exact g | exact GH_F2 g | exact GH_F2 (GH_F2 g) | exact GH_F2 (GH_F2 (GH_F2 g)) | exact GH_F2 (GH_F2 (GH_F2 (GH_F2 g))) | exact GH_F2 (GH_F2 (GH_F2 (GH_F2 (GH_F2 g)))) | exact GH_F2 (GH_F2 (GH_F2 (GH_F2 (GH_F2 (GH_F2 g))))) | exact GH_F2 (GH_F2 (GH_F2 (GH_F2 (GH_F2 (GH_F2 (GH_F2 g)))))) | exact GH_F2 (GH_F2 (GH_F2 (GH_F2 (GH_F2 (GH_F2 (GH_F2 (GH_F2 g))))))) | exact GH_F2 (GH_F2 (GH_F2 (GH_F2 (GH_F2 (GH_F2 (GH_F2 (GH_F2 (GH_F2 g)))))))) | omega | decide) [fX9_upstairs, fX9_upstairs_j31, inb_no q1, gR99_0, gR99_1, gR99_2, gR99_3, gR99_6, gR99_7, gR99_8, gR99_9, gR99_10, gR99_16, gR99_17, gI99, pI99, gT99, aI100, aI101, aI102, aI103, aI104, aI105, aI106, aI107, aI108, aI109, aI110, sI100, sI101, sI103, sI104, sI105, sI106, sI107, sI108, sI109, sI110, aN100, aN101, aN102, aN103, aN104, aN105, aN106, aN107, aN108, aN109, aN110, sN100, sN101, sN103, sN104, sN105, sN106, sN107, sN108, sN109, sN110, sZN102, sZ102, bad_e, no_e, full_e, many_e, isIdea_e, isStop_e, -Int32.toInt_add, -Int32.toInt_sub, nI_tt, nI_c, la1, lb1, la2, lb2, la3, lb3, la4, lb4, la5, lb5, la6, lb6, la7, lb7, la8, lb8, la9, lb9, la10, lb10, la19, lb19, la26, lb26, la33, lb33, la40, lb40, la47, lb47, la54, lb54, la78, lb78, la83, lb83, la118, lb118, lm2, lm4, lm5, lm10, lm118, t32_0, t64_0, t32_1, t64_1, t32_2, t64_2, t32_3, t64_3, t32_4, t64_4, t32_5, t64_5, t32_6, t64_6, t32_7, t64_7, t32_8, t64_8, t32_9, t64_9, t32_10, t64_10, t32_40, t64_40, t32_60, t64_60, t32_127, t64_127, t32_150, t64_150, t32_200, t64_200, t32_999999, t64_999999, reduceIte, ne01, ne02, ne03, ne04, ne05, ne06, ne07, ne10, ne12, ne13, ne14, ne15, ne16, ne17, ne20, ne21, ne23, ne24, ne25, ne26, ne27, ne30, ne31, ne32, ne34, ne35, ne36, ne37, ne40, ne41, ne42, ne43, ne45, ne46, ne47, ne50, ne51, ne52, ne53, ne54, ne56, ne57, ne60, ne61, ne62, ne63, ne64, ne65, ne67, ne70, ne71, ne72, ne73, ne74, ne75, ne76, eq0, eq1, eq2, eq3, eq4, eq5, eq6, eq7, bit_e, GH_F2, sF_I, sF_s, sF_1, sF_R, sF_L, Option.bind_some, i64_i, in_e, within_e]
  replace q1 := Classical.not_not.mp q1
  by_cases q2 : ¬ (0 ≤ w.toInt ∧ w.toInt ≤ 200)
  · refine Op_bad H (-2) 0 (by omega) ?_ ?_
    · simp (disch := first | exact g | exact GH_F2 g | exact GH_F2 (GH_F2 g) | exact GH_F2 (GH_F2 (GH_F2 g)) | exact GH_F2 (GH_F2 (GH_F2 (GH_F2 g))) | exact GH_F2 (GH_F2 (GH_F2 (GH_F2 (GH_F2 g)))) | exact GH_F2 (GH_F2 (GH_F2 (GH_F2 (GH_F2 (GH_F2 g))))) | exact GH_F2 (GH_F2 (GH_F2 (GH_F2 (GH_F2 (GH_F2 (GH_F2 g)))))) | exact GH_F2 (GH_F2 (GH_F2 (GH_F2 (GH_F2 (GH_F2 (GH_F2 (GH_F2 g))))))) | exact GH_F2 (GH_F2 (GH_F2 (GH_F2 (GH_F2 (GH_F2 (GH_F2 (GH_F2 (GH_F2 g)))))))) | omega | decide) [fX8_upstairs, fX8_upstairs_j21, inb_ok q1, inb_no q2, gR0_0, gR0_1, gR0_2, gR0_3, gR0_4, gR0_5, gR0_6, gR0_7, gR0_8, gR66_0, gR66_1, gR69_0, gR72_0, gR72_1, gR76_0, gR76_2, gR1_1, gR1_3, gR1_4, gR1_5, gR1_6, gR1_7, gR1_9, gR1_10, gR1_11, gR1_12, gR1_13, gR1_14, gI0, pI0, gT0, gI1, pI1, gT1, gI12, pI12, gT12, gI66, pI66, gT66, gI67, pI67, gT67, gI69, pI69, gT69, gI71, pI71, gT71, gI72, pI72, gT72, gI75, pI75, gT75, gI76, pI76, gT76, aI2, aI3, aI4, aI5, aI6, aI7, aI8, aI9, aI10, aI11, aI65, aI68, aI70, aI73, aI74, aI77, sI2, sI3, sI4, sI5, sI6, sI7, sI8, sI9, sI10, sI11, sI68, sI70, sI73, sI74, sI77, aN2, aN3, aN4, aN5, aN6, aN7, aN8, aN9, aN10, aN11, aN65, aN68, aN70, aN73, aN74, aN77, sN2, sN3, sN4, sN5, sN6, sN7, sN8, sN9, sN10, sN11, sN68, sN70, sN73, sN74, sN77, sZN65, sZ65, refuseBad_e, refuseNo_e, refuseFull_e, refuseOther_e, -Int32.toInt_add, -Int32.toInt_sub, nI_tt, nI_c, la1, lb1, la2, lb2, la3, lb3, la4, lb4, la5, lb5, la6, lb6, la7, lb7, la8, lb8, la9, lb9, la10, lb10, la19, lb19, la26, lb26, la33, lb33, la40, lb40, la47, lb47, la54, lb54, la78, lb78, la83, lb83, la118, lb118, lm2, lm4, lm5, lm10, lm118, t32_0, t64_0, t32_1, t64_1, t32_2, t64_2, t32_3, t64_3, t32_4, t64_4, t32_5, t64_5, t32_6, t64_6, t32_7, t64_7, t32_8, t64_8, t32_9, t64_9, t32_10, t64_10, t32_40, t64_40, t32_60, t64_60, t32_127, t64_127, t32_150, t64_150, t32_200, t64_200, t32_999999, t64_999999, reduceIte, ne01, ne02, ne03, ne04, ne05, ne06, ne07, ne10, ne12, ne13, ne14, ne15, ne16, ne17, ne20, ne21, ne23, ne24, ne25, ne26, ne27, ne30, ne31, ne32, ne34, ne35, ne36, ne37, ne40, ne41, ne42, ne43, ne45, ne46, ne47, ne50, ne51, ne52, ne53, ne54, ne56, ne57, ne60, ne61, ne62, ne63, ne64, ne65, ne67, ne70, ne71, ne72, ne73, ne74, ne75, ne76, eq0, eq1, eq2, eq3, eq4, eq5, eq6, eq7, bit_e, GH_F2, sF_I, sF_s, sF_1, sF_R, sF_L, Option.bind_some, i64_i, in_e, within_e]
    · intro h1 g e
      simp (disch := first | exact g | exact GH_F2 g | exact GH_F2 (GH_F2 g) | exact GH_F2 (GH_F2 (GH_F2 g)) | exact GH_F2 (GH_F2 (GH_F2 (GH_F2 g))) | exact GH_F2 (GH_F2 (GH_F2 (GH_F2 (GH_F2 g)))) | exact GH_F2 (GH_F2 (GH_F2 (GH_F2 (GH_F2 (GH_F2 g))))) | exact GH_F2 (GH_F2 (GH_F2 (GH_F2 (GH_F2 (GH_F2 (GH_F2 g)))))) | exact GH_F2 (GH_F2 (GH_F2 (GH_F2 (GH_F2 (GH_F2 (GH_F2 (GH_F2 g))))))) | exact GH_F2 (GH_F2 (GH_F2 (GH_F2 (GH_F2 (GH_F2 (GH_F2 (GH_F2 (GH_F2 g)))))))) | omega | decide) [fX9_upstairs, fX9_upstairs_j31, inb_ok q1, inb_no q2, gR99_0, gR99_1, gR99_2, gR99_3, gR99_6, gR99_7, gR99_8, gR99_9, gR99_10, gR99_16, gR99_17, gI99, pI99, gT99, aI100, aI101, aI102, aI103, aI104, aI105, aI106, aI107, aI108, aI109, aI110, sI100, sI101, sI103, sI104, sI105, sI106, sI107, sI108, sI109, sI110, aN100, aN101, aN102, aN103, aN104, aN105, aN106, aN107, aN108, aN109, aN110, sN100, sN101, sN103, sN104, sN105, sN106, sN107, sN108, sN109, sN110, sZN102, sZ102, bad_e, no_e, full_e, many_e, isIdea_e, isStop_e, -Int32.toInt_add, -Int32.toInt_sub, nI_tt, nI_c, la1, lb1, la2, lb2, la3, lb3, la4, lb4, la5, lb5, la6, lb6, la7, lb7, la8, lb8, la9, lb9, la10, lb10, la19, lb19, la26, lb26, la33, lb33, la40, lb40, la47, lb47, la54, lb54, la78, lb78, la83, lb83, la118, lb118, lm2, lm4, lm5, lm10, lm118, t32_0, t64_0, t32_1, t64_1, t32_2, t64_2, t32_3, t64_3, t32_4, t64_4, t32_5, t64_5, t32_6, t64_6, t32_7, t64_7, t32_8, t64_8, t32_9, t64_9, t32_10, t64_10, t32_40, t64_40, t32_60, t64_60, t32_127, t64_127, t32_150, t64_150, t32_200, t64_200, t32_999999, t64_999999, reduceIte, ne01, ne02, ne03, ne04, ne05, ne06, ne07, ne10, ne12, ne13, ne14, ne15, ne16, ne17, ne20, ne21, ne23, ne24, ne25, ne26, ne27, ne30, ne31, ne32, ne34, ne35, ne36, ne37, ne40, ne41, ne42, ne43, ne45, ne46, ne47, ne50, ne51, ne52, ne53, ne54, ne56, ne57, ne60, ne61, ne62, ne63, ne64, ne65, ne67, ne70, ne71, ne72, ne73, ne74, ne75, ne76, eq0, eq1, eq2, eq3, eq4, eq5, eq6, eq7, bit_e, GH_F2, sF_I, sF_s, sF_1, sF_R, sF_L, Option.bind_some, i64_i, in_e, within_e]
  replace q2 := Classical.not_not.mp q2
  by_cases q3 : ¬ (0 ≤ z.toInt ∧ z.toInt ≤ 2)
  · refine Op_bad H (-2) 0 (by omega) ?_ ?_
    · simp (disch := first | exact g | exact GH_F2 g | exact GH_F2 (GH_F2 g) | exact GH_F2 (GH_F2 (GH_F2 g)) | exact GH_F2 (GH_F2 (GH_F2 (GH_F2 g))) | exact GH_F2 (GH_F2 (GH_F2 (GH_F2 (GH_F2 g)))) | exact GH_F2 (GH_F2 (GH_F2 (GH_F2 (GH_F2 (GH_F2 g))))) | exact GH_F2 (GH_F2 (GH_F2 (GH_F2 (GH_F2 (GH_F2 (GH_F2 g)))))) | exact GH_F2 (GH_F2 (GH_F2 (GH_F2 (GH_F2 (GH_F2 (GH_F2 (GH_F2 g))))))) | exact GH_F2 (GH_F2 (GH_F2 (GH_F2 (GH_F2 (GH_F2 (GH_F2 (GH_F2 (GH_F2 g)))))))) | omega | decide) [fX8_upstairs, fX8_upstairs_j21, inb_ok q1, inb_ok q2, inb_no q3, gR0_0, gR0_1, gR0_2, gR0_3, gR0_4, gR0_5, gR0_6, gR0_7, gR0_8, gR66_0, gR66_1, gR69_0, gR72_0, gR72_1, gR76_0, gR76_2, gR1_1, gR1_3, gR1_4, gR1_5, gR1_6, gR1_7, gR1_9, gR1_10, gR1_11, gR1_12, gR1_13, gR1_14, gI0, pI0, gT0, gI1, pI1, gT1, gI12, pI12, gT12, gI66, pI66, gT66, gI67, pI67, gT67, gI69, pI69, gT69, gI71, pI71, gT71, gI72, pI72, gT72, gI75, pI75, gT75, gI76, pI76, gT76, aI2, aI3, aI4, aI5, aI6, aI7, aI8, aI9, aI10, aI11, aI65, aI68, aI70, aI73, aI74, aI77, sI2, sI3, sI4, sI5, sI6, sI7, sI8, sI9, sI10, sI11, sI68, sI70, sI73, sI74, sI77, aN2, aN3, aN4, aN5, aN6, aN7, aN8, aN9, aN10, aN11, aN65, aN68, aN70, aN73, aN74, aN77, sN2, sN3, sN4, sN5, sN6, sN7, sN8, sN9, sN10, sN11, sN68, sN70, sN73, sN74, sN77, sZN65, sZ65, refuseBad_e, refuseNo_e, refuseFull_e, refuseOther_e, -Int32.toInt_add, -Int32.toInt_sub, nI_tt, nI_c, la1, lb1, la2, lb2, la3, lb3, la4, lb4, la5, lb5, la6, lb6, la7, lb7, la8, lb8, la9, lb9, la10, lb10, la19, lb19, la26, lb26, la33, lb33, la40, lb40, la47, lb47, la54, lb54, la78, lb78, la83, lb83, la118, lb118, lm2, lm4, lm5, lm10, lm118, t32_0, t64_0, t32_1, t64_1, t32_2, t64_2, t32_3, t64_3, t32_4, t64_4, t32_5, t64_5, t32_6, t64_6, t32_7, t64_7, t32_8, t64_8, t32_9, t64_9, t32_10, t64_10, t32_40, t64_40, t32_60, t64_60, t32_127, t64_127, t32_150, t64_150, t32_200, t64_200, t32_999999, t64_999999, reduceIte, ne01, ne02, ne03, ne04, ne05, ne06, ne07, ne10, ne12, ne13, ne14, ne15, ne16, ne17, ne20, ne21, ne23, ne24, ne25, ne26, ne27, ne30, ne31, ne32, ne34, ne35, ne36, ne37, ne40, ne41, ne42, ne43, ne45, ne46, ne47, ne50, ne51, ne52, ne53, ne54, ne56, ne57, ne60, ne61, ne62, ne63, ne64, ne65, ne67, ne70, ne71, ne72, ne73, ne74, ne75, ne76, eq0, eq1, eq2, eq3, eq4, eq5, eq6, eq7, bit_e, GH_F2, sF_I, sF_s, sF_1, sF_R, sF_L, Option.bind_some, i64_i, in_e, within_e]
    · intro h1 g e
      simp (disch := first | exact g | exact GH_F2 g | exact GH_F2 (GH_F2 g) | exact GH_F2 (GH_F2 (GH_F2 g)) | exact GH_F2 (GH_F2 (GH_F2 (GH_F2 g))) | exact GH_F2 (GH_F2 (GH_F2 (GH_F2 (GH_F2 g)))) | exact GH_F2 (GH_F2 (GH_F2 (GH_F2 (GH_F2 (GH_F2 g))))) | exact GH_F2 (GH_F2 (GH_F2 (GH_F2 (GH_F2 (GH_F2 (GH_F2 g)))))) | exact GH_F2 (GH_F2 (GH_F2 (GH_F2 (GH_F2 (GH_F2 (GH_F2 (GH_F2 g))))))) | exact GH_F2 (GH_F2 (GH_F2 (GH_F2 (GH_F2 (GH_F2 (GH_F2 (GH_F2 (GH_F2 g)))))))) | omega | decide) [fX9_upstairs, fX9_upstairs_j31, inb_ok q1, inb_ok q2, inb_no q3, gR99_0, gR99_1, gR99_2, gR99_3, gR99_6, gR99_7, gR99_8, gR99_9, gR99_10, gR99_16, gR99_17, gI99, pI99, gT99, aI100, aI101, aI102, aI103, aI104, aI105, aI106, aI107, aI108, aI109, aI110, sI100, sI101, sI103, sI104, sI105, sI106, sI107, sI108, sI109, sI110, aN100, aN101, aN102, aN103, aN104, aN105, aN106, aN107, aN108, aN109, aN110, sN100, sN101, sN103, sN104, sN105, sN106, sN107, sN108, sN109, sN110, sZN102, sZ102, bad_e, no_e, full_e, many_e, isIdea_e, isStop_e, -Int32.toInt_add, -Int32.toInt_sub, nI_tt, nI_c, la1, lb1, la2, lb2, la3, lb3, la4, lb4, la5, lb5, la6, lb6, la7, lb7, la8, lb8, la9, lb9, la10, lb10, la19, lb19, la26, lb26, la33, lb33, la40, lb40, la47, lb47, la54, lb54, la78, lb78, la83, lb83, la118, lb118, lm2, lm4, lm5, lm10, lm118, t32_0, t64_0, t32_1, t64_1, t32_2, t64_2, t32_3, t64_3, t32_4, t64_4, t32_5, t64_5, t32_6, t64_6, t32_7, t64_7, t32_8, t64_8, t32_9, t64_9, t32_10, t64_10, t32_40, t64_40, t32_60, t64_60, t32_127, t64_127, t32_150, t64_150, t32_200, t64_200, t32_999999, t64_999999, reduceIte, ne01, ne02, ne03, ne04, ne05, ne06, ne07, ne10, ne12, ne13, ne14, ne15, ne16, ne17, ne20, ne21, ne23, ne24, ne25, ne26, ne27, ne30, ne31, ne32, ne34, ne35, ne36, ne37, ne40, ne41, ne42, ne43, ne45, ne46, ne47, ne50, ne51, ne52, ne53, ne54, ne56, ne57, ne60, ne61, ne62, ne63, ne64, ne65, ne67, ne70, ne71, ne72, ne73, ne74, ne75, ne76, eq0, eq1, eq2, eq3, eq4, eq5, eq6, eq7, bit_e, GH_F2, sF_I, sF_s, sF_1, sF_R, sF_L, Option.bind_some, i64_i, in_e, within_e]
  replace q3 := Classical.not_not.mp q3
  have i1 := inb_ok q1
  have i2 := inb_ok q2
  have i3 := inb_ok q3
  generalize hf : h.2.1 100 = f at *
  have J : JX h f := by rw [← hf]; exact JX_of H
  generalize hp : sN f v w (2 ^ nn f) = p
  have fc := find_c (s := v) (x := w) J
  rw [hp] at fc
  generalize hh : sF h 71 (g3 (h.2.1 71) p) = h1 at fc
  have g1 : GH h1 := by rw [← hh]; exact g
  have K1 : KP [71] h h1 := by rw [← hh]; exact KP_F (KP_rfl _ h) (by decide) _
  have c0 : h1.2.1 71 0 = p.1 := by rw [← hh]; simp [sF_I, g3, upd_e]
  have c1 : h1.2.1 71 1 = p.2.1 := by rw [← hh]; simp [sF_I, g3, upd_e]
  have c2 : h1.2.1 71 2 = p.2.2 := by rw [← hh]; simp [sF_I, g3, upd_e]
  have M1 : MX h1 f := ⟨g1, W, by rw [K1.2.2 100 (by decide)]; exact hf⟩
  obtain ⟨A, e3, a⟩ := hand_e M1
  have K2 : KP [104] h1 (sF h1 104 A) := KP_F (KP_rfl _ h1) (by decide) _
  have M2 := MX_k K2 (by decide) M1
  have fm := find_m (h := sF h1 104 A) (s := v) (x := w) (v3 := z) M2 (by simpa [sF_I] using hand_HR n7 a)
  rw [hp] at fm
  have I2 : Inv (sF h1 104 A) := KP_Inv H (KP_t K1 K2 (U := [71, 104]) (by decide) (by decide)) (by decide)
  have e0 : h1.2.1 100 0 = nI (nn f) := by rw [M1.2.2]; exact (n_eq W).1
  have cls : fX8_upstairs 0 v w z h = some (if z = 0 then p.1 else if z = 1 then (if p.1 = 0 then -1 else p.2.1) else p.2.2, h1) := by
    simp only [fX8_upstairs, fX8_upstairs_j109]
    rw [within_e, Option.bind_some]
    simp only [t32_0, t32_9]
    rw [i1, if_neg (by decide), within_e, Option.bind_some]
    simp only [t32_0, t32_200]
    rw [i2, if_neg (by decide), within_e, Option.bind_some]
    simp only [t32_0, t32_2]
    rw [i3, if_neg (by decide), gR0_5 g, Option.bind_some, gR0_0 g, Option.bind_some, gT71 g, fc, Option.bind_some]
    simp only [gR0_5 g1, gI71 g1, Option.bind_some, c0, c1, c2]
    by_cases z0 : z = 0
    · simp only [z0, if_true]
    · by_cases z1 : z = 1
      · by_cases z2 : p.1 = 0
        · simp only [z0, z1, z2, if_true, ne10, if_false]
        · simp only [z0, z1, z2, if_true, ne10, if_false]
      · simp only [z0, z1, if_false]
  have mod : fX9_upstairs 99 v w z h1 = some (if z = 0 then p.1 else if z = 1 then (if p.1 = 0 then -1 else p.2.1) else p.2.2, sF h1 104 A) := by
    simp only [fX9_upstairs, fX9_upstairs_j244]
    rw [isStop_e g1, Option.bind_some, i1, if_neg (by decide), in_e, Option.bind_some, i64_i]
    simp only [t64_0, t64_200]
    rw [i2, if_neg (by decide), in_e, Option.bind_some, i64_i]
    simp only [t64_0, t64_2]
    rw [i3, if_neg (by decide), many_at g1 e0, Option.bind_some, gT99 g1, e3, Option.bind_some, shl_n _ n7, fm, Option.bind_some]
    simp only []
    by_cases z0 : z = 0
    · simp only [z0, if_true]
    · by_cases z1 : z = 1
      · by_cases z2 : p.1 = 0
        · simp only [z0, z1, z2, if_true, ne10, ne12, if_false]
        · simp only [z0, z1, z2, if_true, ne10, ne12, if_false]
      · have z2 : z = 2 := by
          have h0 : z.toInt ≠ 0 := fun q => z0 (by rw [fa_eq, q]; rfl)
          have h1 : z.toInt ≠ 1 := fun q => z1 (by rw [fa_eq, q]; rfl)
          rw [fa_eq, t32_2]; omega
        simp only [z2, if_true, ne20, ne21, if_false]
  exact ⟨_, h1, _, cls, g1, mod, I2⟩
end SETS
