section FRAC
variable {h : Hp}
theorem lg_eq0 (x : Int64) : lg_cmp x 0 = 0 ↔ x = 0 := by
  constructor
  · intro z
    have a := lg_lt x 0
    have b := lg_gt x 0
    rw [z, t64_0] at a b
    have c : ¬ (0 : Int32) < 0 := by decide
    rw [fa_eq64, t64_0]
    have a' : ¬ x.toInt < 0 := fun q => c (a.mpr q)
    have b' : ¬ 0 < x.toInt := fun q => c (b.mpr q)
    omega
  · intro z; subst z; decide
theorem rem64 (a b : Int64) : a - a / b * b = Int64.ofInt (a.toInt.tmod b.toInt) := by
  have h1 : a / b = Int64.ofInt (a.toInt.tdiv b.toInt) := by
    apply Int64.toInt_inj.mp
    rw [Int64.toInt_div, Int64.toInt_ofInt]
  have h2 : a - a / b * b = Int64.ofInt a.toInt - Int64.ofInt (a.toInt.tdiv b.toInt) * Int64.ofInt b.toInt := by
    rw [h1, Int64.ofInt_toInt, Int64.ofInt_toInt]
  rw [h2, ← Int64.ofInt_mul, ← Int64.ofInt_sub, Int.tmod_def, Int.mul_comm]
theorem rem_abs (a : Int64) {b : Int64} (hb : ¬ b = 0) : (a - a / b * b).toInt.natAbs < b.toInt.natAbs := by
  have b0 : b.toInt ≠ 0 := fun z => hb (by rw [fa_eq64, z, t64_0])
  have l : (a.toInt.tmod b.toInt).natAbs < b.toInt.natAbs := by
    rw [Int.natAbs_tmod]; exact Nat.mod_lt _ (by omega)
  have r := fb_rngL b
  rw [rem64, Int64.toInt_ofInt_of_le (by omega) (by omega)]
  exact l
theorem gcd_both : ∀ (n : Nat) (a b : Int64), b.toInt.natAbs ≤ n → (¬ b = 0 ∨ ¬ a = 0) → ∃ d, ¬ d = 0 ∧ (∀ (step fuel : Nat) (h : Hp), step + n < 100 → n < fuel → xloop (fX2_commonDivisor_b9 h) fuel (a, b, nI step) = some d) ∧ ∀ (v0 : Nat) (v1 v3 : Int64) (h : Hp) (fuel : Nat), n < fuel → xloop (fX9_fraction_b6 v0 v1 v3 h) fuel (a, b) = some (v0, v1, v3, d) := by
  intro n
  induction n with
  | zero =>
    intro a b hb h0
    have b0 : b = 0 := by rw [fa_eq64, t64_0]; omega
    subst b0
    refine ⟨a, h0.resolve_left (fun z => z rfl), ?_, ?_⟩
    · intro step fuel h h1 h2
      obtain ⟨f, rfl⟩ : ∃ f, fuel = f + 1 := ⟨fuel - 1, by omega⟩
      have e : fX2_commonDivisor_b9 h (a, 0, nI step) = some (Sum.inr a) := by
        simp only [fX2_commonDivisor_b9]
        rw [if_neg (by rw [show (100 : Int32) = nI 100 from rfl, le_nI (by omega) (by omega)]; omega), if_pos ((lg_eq0 0).mpr rfl)]
      simp only [xloop, e]
    · intro v0 v1 v3 h fuel h2
      obtain ⟨f, rfl⟩ : ∃ f, fuel = f + 1 := ⟨fuel - 1, by omega⟩
      have e : fX9_fraction_b6 v0 v1 v3 h (a, 0) = some (Sum.inr (v0, v1, v3, a)) := by
        simp only [fX9_fraction_b6]
        rw [if_pos ((lg_eq0 0).mpr rfl)]
      simp only [xloop, e]
  | succ n ih =>
    intro a b hb h0
    by_cases b0 : b = 0
    · subst b0
      refine ⟨a, h0.resolve_left (fun z => z rfl), ?_, ?_⟩
      · intro step fuel h h1 h2
        obtain ⟨f, rfl⟩ : ∃ f, fuel = f + 1 := ⟨fuel - 1, by omega⟩
        have e : fX2_commonDivisor_b9 h (a, 0, nI step) = some (Sum.inr a) := by
          simp only [fX2_commonDivisor_b9]
          rw [if_neg (by rw [show (100 : Int32) = nI 100 from rfl, le_nI (by omega) (by omega)]; omega), if_pos ((lg_eq0 0).mpr rfl)]
        simp only [xloop, e]
      · intro v0 v1 v3 h fuel h2
        obtain ⟨f, rfl⟩ : ∃ f, fuel = f + 1 := ⟨fuel - 1, by omega⟩
        have e : fX9_fraction_b6 v0 v1 v3 h (a, 0) = some (Sum.inr (v0, v1, v3, a)) := by
          simp only [fX9_fraction_b6]
          rw [if_pos ((lg_eq0 0).mpr rfl)]
        simp only [xloop, e]
    · have ra := rem_abs a b0
      obtain ⟨d, hd, e1, e2⟩ := ih b (a - a / b * b) (by omega) (Or.inr b0)
      refine ⟨d, hd, ?_, ?_⟩
      · intro step fuel h h1 h2
        obtain ⟨f, rfl⟩ : ∃ f, fuel = f + 1 := ⟨fuel - 1, by omega⟩
        have e : fX2_commonDivisor_b9 h (a, b, nI step) = some (Sum.inl (b, a - a / b * b, nI (step + 1))) := by
          simp only [fX2_commonDivisor_b9]
          rw [if_neg (by rw [show (100 : Int32) = nI 100 from rfl, le_nI (by omega) (by omega)]; omega), if_neg (fun z => b0 ((lg_eq0 b).mp z)), if_neg b0, nI_1]
        simp only [xloop, e]
        exact e1 (step + 1) f h (by omega) (by omega)
      · intro v0 v1 v3 h fuel h2
        obtain ⟨f, rfl⟩ : ∃ f, fuel = f + 1 := ⟨fuel - 1, by omega⟩
        have e : fX9_fraction_b6 v0 v1 v3 h (a, b) = some (Sum.inl (b, a - a / b * b)) := by
          simp only [fX9_fraction_b6]
          rw [if_neg (fun z => b0 ((lg_eq0 b).mp z)), if_neg b0]
        simp only [xloop, e]
        exact e2 v0 v1 v3 h f (by omega)
/-- both sides make the same fraction -/
theorem frac_both (a : Int64) {b : Int64} (hb : ¬ b = 0) (hb2 : b.toInt.natAbs ≤ 60) : ∃ x y, (∀ h, GH h → fX2_become 75 a b h = some (sL (sL h 75 0 x) 75 1 y)) ∧ ∀ h, GH h → fX9_fraction 99 a b h = some (sL (sL h 99 4 x) 99 5 y) := by
  obtain ⟨d, hd, e1, e2⟩ := gcd_both 60 a b hb2 (Or.inl hb)
  refine ⟨a / d, b / d, ?_, ?_⟩
  · intro h g
    have e := e1 0 1000000 h (by omega) (by omega)
    have g2 : GH (sL h 75 0 (a / d)) := g
    simp only [fX2_become, fX2_commonDivisor, fX2_commonDivisor_j44]
    rw [show ((a, b, (0 : Int32)) : Int64 × Int64 × Int32) = (a, b, nI 0) from rfl, e, Option.bind_some, Option.bind_some, if_neg (fun z => hd ((lg_eq0 d).mp z)), if_neg hd, e_pL (gs75 g), Option.bind_some, if_neg hd, e_pL (gs75 g2), Option.bind_some]
  · intro h g
    have e := e2 99 a b h 1000000 (by omega)
    have g2 : GH (sL h 99 4 (a / d)) := g
    simp only [fX9_fraction]
    rw [e, Option.bind_some]
    simp only []
    rw [if_neg hd, e_pL (gs99 g), Option.bind_some, if_neg hd, e_pL (gs99 g2), Option.bind_some]
theorem Inv_frac {S : List Nat} {h h' : Hp} (H : Inv h) (h1 : h'.1 = h.1) (hR : h'.2.2.2 = h.2.2.2) (hI : ∀ a, a ∉ S → h'.2.1 a = h.2.1 a) (hS : ∀ a ∈ S, (66 ≤ a ∧ a < 75) ∨ (104 ≤ a ∧ a < 108) ∨ a = 109 ∨ a = 110) (fr : FR h') : Inv h' := by
  obtain ⟨a, b, c, d⟩ := h'
  have K : KP S h (a, b, h.2.2) := ⟨h1, rfl, hI⟩
  have I := KP_Inv H K hS
  have e : d = h.2.2.2 := hR
  subst e
  exact ⟨I.1, I.2.1, I.2.2.1, I.2.2.2.1, I.2.2.2.2.1, fr, I.2.2.2.2.2.2.1, I.2.2.2.2.2.2.2⟩
/-- the journey on from the ride as it stands, to its end -/
def tn (f : Nat → Int32) : (Nat × Nat × Nat) × Int32 := tr f (fun i => f (33 + i)) (fun k => f (9 + k)) (fun k => decide (f (9 + k) ≤ 0)) (f 3).toInt.toNat (((f 4).toInt.toNat, (f 5).toInt.toNat, (f 6).toInt.toNat), f 7) (10 - (f 3).toInt.toNat)
theorem ride_n {f : Nat → Int32} (W : WF f) : f 3 = nI (f 3).toInt.toNat ∧ (f 3).toInt.toNat ≤ 10 ∧ f 4 = nI (f 4).toInt.toNat ∧ (f 4).toInt.toNat < 128 ∧ f 5 = nI (f 5).toInt.toNat ∧ (f 5).toInt.toNat < 128 ∧ f 6 = nI (f 6).toInt.toNat ∧ (f 6).toInt.toNat < 128 := by
  have w3 := W.1.2.2.2.1
  have w4 := W.1.2.2.2.2.1
  have w5 := W.1.2.2.2.2.2.1
  have w6 := W.1.2.2.2.2.2.2.1
  unfold rg at w3 w4 w5 w6
  exact ⟨nI_n w3.1, by omega, nI_n w4.1, by omega, nI_n w5.1, by omega, nI_n w6.1, by omega⟩
theorem go_c {f : Nat → Int32} (J : JX h f) (hr : ∀ c, c < 5 → h.2.1 12 c = f (3 + c)) : ∃ h0 h1, fX3_goOn 66 1 h = some h0 ∧ GH h0 ∧ fX3_passThrough 66 1 9 h0 = some h1 ∧ KP [66, 67, 68] h h1 ∧ h1.2.1 67 4 = (tn f).2 := by
  have W := J.2.2.1
  have n7 := (n_eq W).2.1
  obtain ⟨a3, b3, a4, b4, a5, b5, a6, b6⟩ := ride_n W
  have g := J.1
  have go := goOn_e g
  have K0 : KP [66, 67, 68] h (sF (sF (sF h 67 (tk (h.2.1 67) (h.2.1 12))) 68 (fun k => if k < 7 then h.2.1 5 k else h.2.1 68 k)) 66 (upd (h.2.1 66) 2 0)) := KP_F (KP_F (KP_F (KP_rfl _ h) (by decide) _) (by decide) _) (by decide) _
  generalize hh0 : sF (sF (sF h 67 (tk (h.2.1 67) (h.2.1 12))) 68 (fun k => if k < 7 then h.2.1 5 k else h.2.1 68 k)) 66 (upd (h.2.1 66) 2 0) = h0 at go K0
  have J0 := JX_k K0 (by decide) J
  have th := through_e (h := h0) (f := f) (on := fun i => f (33 + i)) (k0 := (f 3).toInt.toNat) (M := 10 - (f 3).toInt.toNat) (y := (((f 4).toInt.toNat, (f 5).toInt.toNat, (f 6).toInt.toNat), f 7)) (lift := 0) (e := 9) (F := f) J0.1 J0.2.1 W (by omega) (by rw [show (f 3).toInt.toNat + (10 - (f 3).toInt.toNat) = 10 by omega]; rfl) (fun m hm => by rw [fa_lt, nI_toInt (by omega)]; show (9 : Int) < _ ↔ _; omega) (fun i hi => by rw [← hh0]; simp [sF_I, show i < 7 by omega]; exact J.2.2.2 i hi) ⟨b4, b5, b6⟩ (by rw [← hh0]; simp [sF_I, upd_e]) (by rw [← hh0]; simp [sF_I, tk]; exact (hr 0 (by omega)).trans a3) (by rw [← hh0]; simp [sF_I, tk]; exact (hr 1 (by omega)).trans a4) (by rw [← hh0]; simp [sF_I, tk]; exact (hr 2 (by omega)).trans a5) (by rw [← hh0]; simp [sF_I, tk]; exact (hr 3 (by omega)).trans a6) (by rw [← hh0]; simp [sF_I, tk]; exact hr 4 (by omega))
  have tq := tr_eq (f := f) (on := fun i => f (33 + i)) (hgt := fun k => f (9 + k) + 0) (hgt' := fun k => f (9 + k)) (sk := fun k => decide (f (9 + k) = 0)) (sk' := fun k => decide (f (9 + k) ≤ 0)) (k0 := (f 3).toInt.toNat) (y := (((f 4).toInt.toNat, (f 5).toInt.toNat, (f 6).toInt.toNat), f 7)) (fun k hk => ⟨by simp, hz (W.2.1 k hk)⟩) (10 - (f 3).toInt.toNat) (by omega)
  rw [tq] at th
  refine ⟨h0, _, go, J0.1, th, KP_F K0 (by decide) _, ?_⟩
  simp [sF_I, rwN, tn]
theorem hand_e {f : Nat → Int32} (M : MX h f) : ∃ A, fX9_layHand 99 h = some (sF h 104 A) ∧ ∀ k, k < 54 → A k = f k :=
  ⟨_, layHand_e M.1, fun k hk => by rw [if_pos hk, M.2.2]⟩
theorem hand_HR {A f : Nat → Int32} (n7 : nn f ≤ 7) (a : ∀ k, k < 54 → A k = f k) : HR A f (fun i => f (33 + i)) :=
  ⟨a 8 (by omega), fun i hi => ⟨a _ (by omega), a _ (by omega), a _ (by omega), a _ (by omega), a _ (by omega)⟩⟩
theorem go_m {f : Nat → Int32} (M : MX h f) : ∃ h0 h1, fX9_layHand 99 h = some h0 ∧ GH h0 ∧ fX9_goTill 99 10 h0 = some h1 ∧ KP [104] h h1 ∧ h1.2.1 104 7 = (tn f).2 := by
  have W := M.2.1
  have n7 := (n_eq W).2.1
  obtain ⟨a3, b3, a4, b4, a5, b5, a6, b6⟩ := ride_n W
  obtain ⟨A, e1, a⟩ := hand_e M
  have K1 : KP [104] h (sF h 104 A) := KP_F (KP_rfl _ h) (by decide) _
  have M1 := MX_k K1 (by decide) M
  have gt := goTill_e (h := sF h 104 A) (f := f) (on := fun i => f (33 + i)) (hgt := fun k => f (9 + k)) (k0 := (f 3).toInt.toNat) (M := 10 - (f 3).toInt.toNat) (y := (((f 4).toInt.toNat, (f 5).toInt.toNat, (f 6).toInt.toNat), f 7)) M1.1 (by rw [M1.2.2]; exact (n_eq W).1) W (by simpa [sF_I] using hand_HR n7 a) (by omega) ⟨b4, b5, b6⟩ (by simp only [sF_I, if_true]; rw [a 3 (by omega)]; exact a3) (by simp only [sF_I, if_true]; rw [a 4 (by omega)]; exact a4) (by simp only [sF_I, if_true]; rw [a 5 (by omega)]; exact a5) (by simp only [sF_I, if_true]; rw [a 6 (by omega)]; exact a6) (by simp only [sF_I, if_true]; rw [a 7 (by omega)]) (fun k hk => by simp only [sF_I, if_true]; exact a _ (by omega))
  rw [show (f 3).toInt.toNat + (10 - (f 3).toInt.toNat) = 10 by omega] at gt
  refine ⟨_, _, e1, M1.1, gt, KP_F K1 (by decide) _, ?_⟩
  simp [sF_I, rwH, tn]
theorem op_fare (H : Inv h) (v : Int32) : Op (fX8_fare 0 v h) (fX9_fare 99 v) := by
  have g := H.1
  by_cases q1 : ¬ (1 ≤ v.toInt ∧ v.toInt ≤ 60)
  · refine Op_bad H (-2) 0 (by omega) ?_ ?_
    · simp (disch := first | exact g | exact GH_F2 g | exact GH_F2 (GH_F2 g) | exact GH_F2 (GH_F2 (GH_F2 g)) | exact GH_F2 (GH_F2 (GH_F2 (GH_F2 g))) | exact GH_F2 (GH_F2 (GH_F2 (GH_F2 (GH_F2 g)))) | exact GH_F2 (GH_F2 (GH_F2 (GH_F2 (GH_F2 (GH_F2 g))))) | exact GH_F2 (GH_F2 (GH_F2 (GH_F2 (GH_F2 (GH_F2 (GH_F2 g)))))) | exact GH_F2 (GH_F2 (GH_F2 (GH_F2 (GH_F2 (GH_F2 (GH_F2 (GH_F2 g))))))) | exact GH_F2 (GH_F2 (GH_F2 (GH_F2 (GH_F2 (GH_F2 (GH_F2 (GH_F2 (GH_F2 g)))))))) | omega | decide) [fX8_fare, inb_no q1, gR0_0, gR0_1, gR0_2, gR0_3, gR0_4, gR0_5, gR0_6, gR0_7, gR0_8, gR66_0, gR66_1, gR69_0, gR72_0, gR72_1, gR76_0, gR76_2, gR1_1, gR1_3, gR1_4, gR1_5, gR1_6, gR1_7, gR1_9, gR1_10, gR1_11, gR1_12, gR1_13, gR1_14, gI0, pI0, gT0, gI1, pI1, gT1, gI12, pI12, gT12, gI66, pI66, gT66, gI67, pI67, gT67, gI69, pI69, gT69, gI71, pI71, gT71, gI72, pI72, gT72, gI75, pI75, gT75, gI76, pI76, gT76, aI2, aI3, aI4, aI5, aI6, aI7, aI8, aI9, aI10, aI11, aI65, aI68, aI70, aI73, aI74, aI77, sI2, sI3, sI4, sI5, sI6, sI7, sI8, sI9, sI10, sI11, sI68, sI70, sI73, sI74, sI77, aN2, aN3, aN4, aN5, aN6, aN7, aN8, aN9, aN10, aN11, aN65, aN68, aN70, aN73, aN74, aN77, sN2, sN3, sN4, sN5, sN6, sN7, sN8, sN9, sN10, sN11, sN68, sN70, sN73, sN74, sN77, sZN65, sZ65, refuseBad_e, refuseNo_e, refuseFull_e, refuseOther_e, -Int32.toInt_add, -Int32.toInt_sub, nI_tt, nI_c, la1, lb1, la2, lb2, la3, lb3, la4, lb4, la5, lb5, la6, lb6, la7, lb7, la8, lb8, la9, lb9, la10, lb10, la19, lb19, la26, lb26, la33, lb33, la40, lb40, la47, lb47, la54, lb54, la78, lb78, la83, lb83, la118, lb118, lm2, lm4, lm5, lm10, lm118, t32_0, t64_0, t32_1, t64_1, t32_2, t64_2, t32_3, t64_3, t32_4, t64_4, t32_5, t64_5, t32_6, t64_6, t32_7, t64_7, t32_8, t64_8, t32_9, t64_9, t32_10, t64_10, t32_40, t64_40, t32_60, t64_60, t32_127, t64_127, t32_150, t64_150, t32_200, t64_200, t32_999999, t64_999999, reduceIte, ne01, ne02, ne03, ne04, ne05, ne06, ne07, ne10, ne12, ne13, ne14, ne15, ne16, ne17, ne20, ne21, ne23, ne24, ne25, ne26, ne27, ne30, ne31, ne32, ne34, ne35, ne36, ne37, ne40, ne41, ne42, ne43, ne45, ne46, ne47, ne50, ne51, ne52, ne53, ne54, ne56, ne57, ne60, ne61, ne62, ne63, ne64, ne65, ne67, ne70, ne71, ne72, ne73, ne74, ne75, ne76, eq0, eq1, eq2, eq3, eq4, eq5, eq6, eq7, bit_e, GH_F2, sF_I, sF_s, sF_1, sF_R, sF_L, Option.bind_some, i64_i, in_e, within_e]
    · intro h1 g e
      simp (disch := first | exact g | exact GH_F2 g | exact GH_F2 (GH_F2 g) | exact GH_F2 (GH_F2 (GH_F2 g)) | exact GH_F2 (GH_F2 (GH_F2 (GH_F2 g))) | exact GH_F2 (GH_F2 (GH_F2 (GH_F2 (GH_F2 g)))) | exact GH_F2 (GH_F2 (GH_F2 (GH_F2 (GH_F2 (GH_F2 g))))) | exact GH_F2 (GH_F2 (GH_F2 (GH_F2 (GH_F2 (GH_F2 (GH_F2 g)))))) | exact GH_F2 (GH_F2 (GH_F2 (GH_F2 (GH_F2 (GH_F2 (GH_F2 (GH_F2 g))))))) | exact GH_F2 (GH_F2 (GH_F2 (GH_F2 (GH_F2 (GH_F2 (GH_F2 (GH_F2 (GH_F2 g)))))))) | omega | decide) [fX9_fare, inb_no q1, gR99_0, gR99_1, gR99_2, gR99_3, gR99_6, gR99_7, gR99_8, gR99_9, gR99_10, gR99_16, gR99_17, gI99, pI99, gT99, aI100, aI101, aI102, aI103, aI104, aI105, aI106, aI107, aI108, aI109, aI110, sI100, sI101, sI103, sI104, sI105, sI106, sI107, sI108, sI109, sI110, aN100, aN101, aN102, aN103, aN104, aN105, aN106, aN107, aN108, aN109, aN110, sN100, sN101, sN103, sN104, sN105, sN106, sN107, sN108, sN109, sN110, sZN102, sZ102, bad_e, no_e, full_e, many_e, isIdea_e, isStop_e, -Int32.toInt_add, -Int32.toInt_sub, nI_tt, nI_c, la1, lb1, la2, lb2, la3, lb3, la4, lb4, la5, lb5, la6, lb6, la7, lb7, la8, lb8, la9, lb9, la10, lb10, la19, lb19, la26, lb26, la33, lb33, la40, lb40, la47, lb47, la54, lb54, la78, lb78, la83, lb83, la118, lb118, lm2, lm4, lm5, lm10, lm118, t32_0, t64_0, t32_1, t64_1, t32_2, t64_2, t32_3, t64_3, t32_4, t64_4, t32_5, t64_5, t32_6, t64_6, t32_7, t64_7, t32_8, t64_8, t32_9, t64_9, t32_10, t64_10, t32_40, t64_40, t32_60, t64_60, t32_127, t64_127, t32_150, t64_150, t32_200, t64_200, t32_999999, t64_999999, reduceIte, ne01, ne02, ne03, ne04, ne05, ne06, ne07, ne10, ne12, ne13, ne14, ne15, ne16, ne17, ne20, ne21, ne23, ne24, ne25, ne26, ne27, ne30, ne31, ne32, ne34, ne35, ne36, ne37, ne40, ne41, ne42, ne43, ne45, ne46, ne47, ne50, ne51, ne52, ne53, ne54, ne56, ne57, ne60, ne61, ne62, ne63, ne64, ne65, ne67, ne70, ne71, ne72, ne73, ne74, ne75, ne76, eq0, eq1, eq2, eq3, eq4, eq5, eq6, eq7, bit_e, GH_F2, sF_I, sF_s, sF_1, sF_R, sF_L, Option.bind_some, i64_i, in_e, within_e]
  replace q1 := Classical.not_not.mp q1
  have i1 := inb_ok q1
  obtain ⟨h0, h1, e0, g0, e1, K1, lv⟩ := go_c (JX_of H) (fun c hc => H.2.1.2.1 c hc)
  have g1 := KP_GH g K1
  obtain ⟨x, y, c1, c2⟩ := frac_both (tn (h.2.1 100)).2.toInt64 (b := v.toInt64) (fun z => by rw [fa_eq64, i64_i, t64_0] at z; omega) (by rw [i64_i]; omega)
  have M1 := MX_of H K1
  have M2 : MX (sL (sL h1 75 0 x) 75 1 y) (h.2.1 100) := M1
  obtain ⟨h3, h4, e3, g3, e4, K4, lm⟩ := go_m M2
  have g4 := KP_GH M2.1 K4
  refine ⟨1, sL (sL h1 75 0 x) 75 1 y, sL (sL h4 99 4 x) 99 5 y, ?_, g1, ?_, ?_⟩
  · simp only [fX8_fare]
    rw [within_e, Option.bind_some]
    simp only [t32_1, t32_60]
    rw [i1, if_neg (by decide), gR0_3 g, Option.bind_some, gR0_0 g, Option.bind_some, gT66 g, e0, Option.bind_some, gR0_3 g0, Option.bind_some, gR0_0 g0, Option.bind_some, gT66 g0, e1, Option.bind_some, gR0_7 g1, Option.bind_some, gR0_3 g1, Option.bind_some, gR66_0 g1, Option.bind_some, gI67 g1, Option.bind_some, lv, gT75 g1, c1 h1 g1, Option.bind_some]
  · simp only [fX9_fare]
    rw [in_e, Option.bind_some, i64_i]
    simp only [t64_1, t64_60]
    rw [i1, if_neg (by decide), gT99 M2.1, e3, Option.bind_some, gT99 g3, e4, Option.bind_some, gR99_6 g4, Option.bind_some, a104_7 g4, Option.bind_some, lm, gT99 g4, c2 h4 g4, Option.bind_some]
  · have L4 : h4.2.2.1 = (sL (sL h1 75 0 x) 75 1 y).2.2.1 := by rw [K4.2.1]
    refine Inv_frac (S := [66, 67, 68, 104]) H (K4.1.trans K1.1) (by show h4.2.2.2 = _; rw [K4.2.1]; show h1.2.2.2 = _; rw [K1.2.1]) (fun a ha => ?_) (by decide) ?_
    · show h4.2.1 a = _
      rw [K4.2.2 a (fun z => ha (by simp at z; simp [z]))]
      exact K1.2.2 a (fun z => ha (by simp at z ⊢; omega))
    · unfold FR
      simp only [sL]
      rw [L4]
      simp [sL]
theorem op_bell (H : Inv h) (v : Int32) : Op (fX8_bell 0 v h) (fX9_bell 99 v) := by
  have g := H.1
  have W := H.2.2.1
  have n7 := (n_eq W).2.1
  by_cases q1 : ¬ (0 ≤ v.toInt ∧ v.toInt ≤ 10)
  · refine Op_bad H (-2) 0 (by omega) ?_ ?_
    · simp (disch := first | exact g | exact GH_F2 g | exact GH_F2 (GH_F2 g) | exact GH_F2 (GH_F2 (GH_F2 g)) | exact GH_F2 (GH_F2 (GH_F2 (GH_F2 g))) | exact GH_F2 (GH_F2 (GH_F2 (GH_F2 (GH_F2 g)))) | exact GH_F2 (GH_F2 (GH_F2 (GH_F2 (GH_F2 (GH_F2 g))))) | exact GH_F2 (GH_F2 (GH_F2 (GH_F2 (GH_F2 (GH_F2 (GH_F2 g)))))) | exact GH_F2 (GH_F2 (GH_F2 (GH_F2 (GH_F2 (GH_F2 (GH_F2 (GH_F2 g))))))) | exact GH_F2 (GH_F2 (GH_F2 (GH_F2 (GH_F2 (GH_F2 (GH_F2 (GH_F2 (GH_F2 g)))))))) | omega | decide) [fX8_bell, inb_no q1, gR0_0, gR0_1, gR0_2, gR0_3, gR0_4, gR0_5, gR0_6, gR0_7, gR0_8, gR66_0, gR66_1, gR69_0, gR72_0, gR72_1, gR76_0, gR76_2, gR1_1, gR1_3, gR1_4, gR1_5, gR1_6, gR1_7, gR1_9, gR1_10, gR1_11, gR1_12, gR1_13, gR1_14, gI0, pI0, gT0, gI1, pI1, gT1, gI12, pI12, gT12, gI66, pI66, gT66, gI67, pI67, gT67, gI69, pI69, gT69, gI71, pI71, gT71, gI72, pI72, gT72, gI75, pI75, gT75, gI76, pI76, gT76, aI2, aI3, aI4, aI5, aI6, aI7, aI8, aI9, aI10, aI11, aI65, aI68, aI70, aI73, aI74, aI77, sI2, sI3, sI4, sI5, sI6, sI7, sI8, sI9, sI10, sI11, sI68, sI70, sI73, sI74, sI77, aN2, aN3, aN4, aN5, aN6, aN7, aN8, aN9, aN10, aN11, aN65, aN68, aN70, aN73, aN74, aN77, sN2, sN3, sN4, sN5, sN6, sN7, sN8, sN9, sN10, sN11, sN68, sN70, sN73, sN74, sN77, sZN65, sZ65, refuseBad_e, refuseNo_e, refuseFull_e, refuseOther_e, -Int32.toInt_add, -Int32.toInt_sub, nI_tt, nI_c, la1, lb1, la2, lb2, la3, lb3, la4, lb4, la5, lb5, la6, lb6, la7, lb7, la8, lb8, la9, lb9, la10, lb10, la19, lb19, la26, lb26, la33, lb33, la40, lb40, la47, lb47, la54, lb54, la78, lb78, la83, lb83, la118, lb118, lm2, lm4, lm5, lm10, lm118, t32_0, t64_0, t32_1, t64_1, t32_2, t64_2, t32_3, t64_3, t32_4, t64_4, t32_5, t64_5, t32_6, t64_6, t32_7, t64_7, t32_8, t64_8, t32_9, t64_9, t32_10, t64_10, t32_40, t64_40, t32_60, t64_60, t32_127, t64_127, t32_150, t64_150, t32_200, t64_200, t32_999999, t64_999999, reduceIte, ne01, ne02, ne03, ne04, ne05, ne06, ne07, ne10, ne12, ne13, ne14, ne15, ne16, ne17, ne20, ne21, ne23, ne24, ne25, ne26, ne27, ne30, ne31, ne32, ne34, ne35, ne36, ne37, ne40, ne41, ne42, ne43, ne45, ne46, ne47, ne50, ne51, ne52, ne53, ne54, ne56, ne57, ne60, ne61, ne62, ne63, ne64, ne65, ne67, ne70, ne71, ne72, ne73, ne74, ne75, ne76, eq0, eq1, eq2, eq3, eq4, eq5, eq6, eq7, bit_e, GH_F2, sF_I, sF_s, sF_1, sF_R, sF_L, Option.bind_some, i64_i, in_e, within_e]
    · intro h1 g e
      simp (disch := first | exact g | exact GH_F2 g | exact GH_F2 (GH_F2 g) | exact GH_F2 (GH_F2 (GH_F2 g)) | exact GH_F2 (GH_F2 (GH_F2 (GH_F2 g))) | exact GH_F2 (GH_F2 (GH_F2 (GH_F2 (GH_F2 g)))) | exact GH_F2 (GH_F2 (GH_F2 (GH_F2 (GH_F2 (GH_F2 g))))) | exact GH_F2 (GH_F2 (GH_F2 (GH_F2 (GH_F2 (GH_F2 (GH_F2 g)))))) | exact GH_F2 (GH_F2 (GH_F2 (GH_F2 (GH_F2 (GH_F2 (GH_F2 (GH_F2 g))))))) | exact GH_F2 (GH_F2 (GH_F2 (GH_F2 (GH_F2 (GH_F2 (GH_F2 (GH_F2 (GH_F2 g)))))))) | omega | decide) [fX9_bell, inb_no q1, gR99_0, gR99_1, gR99_2, gR99_3, gR99_6, gR99_7, gR99_8, gR99_9, gR99_10, gR99_16, gR99_17, gI99, pI99, gT99, aI100, aI101, aI102, aI103, aI104, aI105, aI106, aI107, aI108, aI109, aI110, sI100, sI101, sI103, sI104, sI105, sI106, sI107, sI108, sI109, sI110, aN100, aN101, aN102, aN103, aN104, aN105, aN106, aN107, aN108, aN109, aN110, sN100, sN101, sN103, sN104, sN105, sN106, sN107, sN108, sN109, sN110, sZN102, sZ102, bad_e, no_e, full_e, many_e, isIdea_e, isStop_e, -Int32.toInt_add, -Int32.toInt_sub, nI_tt, nI_c, la1, lb1, la2, lb2, la3, lb3, la4, lb4, la5, lb5, la6, lb6, la7, lb7, la8, lb8, la9, lb9, la10, lb10, la19, lb19, la26, lb26, la33, lb33, la40, lb40, la47, lb47, la54, lb54, la78, lb78, la83, lb83, la118, lb118, lm2, lm4, lm5, lm10, lm118, t32_0, t64_0, t32_1, t64_1, t32_2, t64_2, t32_3, t64_3, t32_4, t64_4, t32_5, t64_5, t32_6, t64_6, t32_7, t64_7, t32_8, t64_8, t32_9, t64_9, t32_10, t64_10, t32_40, t64_40, t32_60, t64_60, t32_127, t64_127, t32_150, t64_150, t32_200, t64_200, t32_999999, t64_999999, reduceIte, ne01, ne02, ne03, ne04, ne05, ne06, ne07, ne10, ne12, ne13, ne14, ne15, ne16, ne17, ne20, ne21, ne23, ne24, ne25, ne26, ne27, ne30, ne31, ne32, ne34, ne35, ne36, ne37, ne40, ne41, ne42, ne43, ne45, ne46, ne47, ne50, ne51, ne52, ne53, ne54, ne56, ne57, ne60, ne61, ne62, ne63, ne64, ne65, ne67, ne70, ne71, ne72, ne73, ne74, ne75, ne76, eq0, eq1, eq2, eq3, eq4, eq5, eq6, eq7, bit_e, GH_F2, sF_I, sF_s, sF_1, sF_R, sF_L, Option.bind_some, i64_i, in_e, within_e]
  replace q1 := Classical.not_not.mp q1
  have i1 := inb_ok q1
  obtain ⟨a3, b3, a4, b4, -⟩ := ride_n W
  have r0 := H.2.1.2.1 0 (by omega)
  have r1 := H.2.1.2.1 1 (by omega)
  simp only [Nat.reduceAdd] at r0 r1
  have sw := fun s => swayAll_e (u := (h.2.1 100 4).toInt.toNat) (s := s) g (BT_of H.2.1 W) W
  rw [← a4] at sw
  have se : (if (9 : Int32) < h.2.1 100 3 then 9 else h.2.1 100 3) = if h.2.1 100 3 = 10 then 9 else h.2.1 100 3 := by
    rw [a3]
    have : ∀ k, k ≤ 10 → (if (9 : Int32) < nI k then 9 else nI k) = if nI k = 10 then 9 else nI k := by decide
    exact this _ b3
  generalize hs : (if h.2.1 100 3 = 10 then 9 else h.2.1 100 3) = s at se
  obtain ⟨x, y, c1, c2⟩ := frac_both ((swN (h.2.1 100) s (h.2.1 100 4).toInt.toNat (nn (h.2.1 100))).toInt64 * (10 - v).toInt64) (b := 10) (by decide) (by decide)
  have M2 : MX (sL (sL h 75 0 x) 75 1 y) (h.2.1 100) := ⟨g, W, rfl⟩
  obtain ⟨A, e3, a⟩ := hand_e M2
  have g3 : GH (sF (sL (sL h 75 0 x) 75 1 y) 104 A) := g
  have sm := fun s => mswayAll_e (h := sF (sL (sL h 75 0 x) 75 1 y) 104 A) (f := h.2.1 100) (on := fun i => h.2.1 100 (33 + i)) (u := (h.2.1 100 4).toInt.toNat) (s := s) g3 (n_eq W).1 W (by simpa [sF_I] using hand_HR n7 a)
  rw [← a4] at sm
  have m3 : (sF (sL (sL h 75 0 x) 75 1 y) 104 A).2.1 104 3 = h.2.1 100 3 := by simp only [sF_I, if_true]; exact a 3 (by omega)
  have m4 : (sF (sL (sL h 75 0 x) 75 1 y) 104 A).2.1 104 4 = h.2.1 100 4 := by simp only [sF_I, if_true]; exact a 4 (by omega)
  refine ⟨1, sL (sL h 75 0 x) 75 1 y, sL (sL (sF (sL (sL h 75 0 x) 75 1 y) 104 A) 99 4 x) 99 5 y, ?_, g, ?_, ?_⟩
  · simp only [fX8_bell]
    rw [within_e, Option.bind_some]
    simp only [t32_0, t32_10]
    rw [i1, if_neg (by decide), gR0_0 g, Option.bind_some, gR1_13 g, Option.bind_some, gI12 g, Option.bind_some, gR0_7 g, Option.bind_some, Option.bind_some, Option.bind_some, gR1_13 g, Option.bind_some, gI12 g, Option.bind_some, r0, r1, se, gT1 g, sw, Option.bind_some, gT75 g, c1 h g, Option.bind_some]
  · simp only [fX9_bell, fX9_bell_j45]
    rw [in_e, Option.bind_some, i64_i]
    simp only [t64_0, t64_10]
    rw [i1, if_neg (by decide), gT99 M2.1, e3, Option.bind_some]
    simp only [gR99_6 g3, a104_3 g3, a104_4 g3, Option.bind_some, m3, m4, gT99 g3, sm]
    by_cases z : h.2.1 100 3 = 10
    · rw [if_pos z] at hs
      rw [if_pos z, hs, c2 _ g3, Option.bind_some]
    · rw [if_neg z] at hs
      rw [if_neg z, hs, c2 _ g3, Option.bind_some]
  · refine Inv_frac (S := [104]) H rfl rfl (fun a ha => ?_) (by decide) ?_
    · show (sF (sL (sL h 75 0 x) 75 1 y) 104 A).2.1 a = _
      simp only [sF_I]; rw [if_neg (fun z => ha (by simp [z]))]; rfl
    · unfold FR
      simp [sL, sF]
end FRAC
