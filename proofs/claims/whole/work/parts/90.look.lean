section LOOK
variable {h : Hp}
def allB (p : Nat → Bool) : Nat → Bool
  | 0 => true
  | q + 1 => allB p q && p q
theorem allB_no {p : Nat → Bool} {q : Nat} (hq : p q = false) : ∀ n, q < n → allB p n = false
  | 0, h => by omega
  | n + 1, h => by
    simp only [allB]
    by_cases z : q = n
    · subst z; rw [hq]; simp
    · rw [allB_no hq n (by omega)]; simp
theorem allB_no2 {p : Nat → Bool} {m : Nat} (hm : allB p m = false) : ∀ n, m ≤ n → allB p n = false
  | 0, h => by rw [← hm]; congr 1; omega
  | n + 1, h => by
    by_cases z : m = n + 1
    · rw [← z]; exact hm
    · simp only [allB]; rw [allB_no2 hm n (by omega)]; simp
theorem allB_spec {p : Nat → Bool} : ∀ n, allB p n = true ↔ ∀ q, q < n → p q = true
  | 0 => by simp [allB]
  | n + 1 => by
    simp only [allB, Bool.and_eq_true, allB_spec n]
    constructor
    · intro ⟨a, b⟩ q hq
      by_cases z : q = n
      · rw [z]; exact b
      · exact a q (by omega)
    · intro a
      exact ⟨fun q hq => a q (by omega), a n (by omega)⟩
/-- the note q doesn't speak against idea i being of kind kd -/
def nok (f : Nat → Int32) (i : Nat) (kd : Int32) (q : Nat) : Bool := decide (f (54 + 4 * q) = nI i → swS kd (f (26 + i)) (f (54 + 4 * q + 1)) = f (54 + 4 * q + 2) ∧ taS kd (f (54 + 4 * q + 1)) = f (54 + 4 * q + 3))
theorem kd_rg {k : Nat} (hk : k < 6) : rg (nI k) 0 5 := by unfold rg; rw [nI_toInt (by omega)]; omega
theorem fits_e (H : Inv h) {i k : Nat} (hi : i < nn (h.2.1 100)) (hk : k < 6) : fX0_fitsNotes 1 (nI i) (nI k) h = some (if allB (nok (h.2.1 100) i (nI k)) (nq (h.2.1 100)) = true then 1 else 0) := by
  have g := H.1
  have W := H.2.2.1
  have n7 := (n_eq W).2.1
  obtain ⟨q1, q6⟩ := q_eq W
  have e8 : h.2.1 1 8 = nI (nq (h.2.1 100)) := H.2.1.1.2.1.trans q1
  have e4 : h.2.1 4 i = h.2.1 100 (26 + i) := (H.2.1.2.2.2.1 i hi).2.1
  generalize hp : nok (h.2.1 100) i (nI k) = p
  have lp : ∃ r, xloop (fX0_fitsNotes_b2 1 (nI i) (nI k) h) 1000000 0 = some r ∧ ((r = Sum.inl () ∧ allB p (nq (h.2.1 100)) = false) ∨ (r = Sum.inr () ∧ allB p (nq (h.2.1 100)) = true)) := by
    refine xloop_i (body := fX0_fitsNotes_b2 1 (nI i) (nI k) h) (fun q st => st = nI q ∧ allB p q = true) (fun r => (r = Sum.inl () ∧ allB p (nq (h.2.1 100)) = false) ∨ (r = Sum.inr () ∧ allB p (nq (h.2.1 100)) = true)) (nq (h.2.1 100)) (by omega) ?_ ?_ ⟨rfl, rfl⟩
    · intro q st hq ⟨a1, a2⟩
      subst a1
      obtain ⟨b1, b2, b3, b4⟩ := H.2.1.2.2.2.2.1 q hq
      simp only [Nat.reduceAdd] at b1 b2 b3 b4
      have hd : fX0_fitsNotes_b2 1 (nI i) (nI k) h (nI q) = if h.2.1 100 (54 + 4 * q) = nI i then (if swS (nI k) (h.2.1 100 (26 + i)) (h.2.1 100 (54 + 4 * q + 1)) = h.2.1 100 (54 + 4 * q + 2) then (if taS (nI k) (h.2.1 100 (54 + 4 * q + 1)) = h.2.1 100 (54 + 4 * q + 3) then some (Sum.inl (nI (q + 1))) else some (Sum.inr (Sum.inl ()))) else some (Sum.inr (Sum.inl ()))) else some (Sum.inl (nI (q + 1))) := by
        simp only [fX0_fitsNotes_b2, fX0_fitsNotes_j69]
        rw [gI1 g, Option.bind_some, e8, if_neg (by rw [le_nI (by omega) (by omega)]; omega)]
        simp only [gR1_9 g, gR1_10 g, gR1_11 g, gR1_12 g, gR1_4 g, aN8 g (show q < 6 by omega), aN9 g (show q < 6 by omega), aN10 g (show q < 6 by omega), aN11 g (show q < 6 by omega), aN4 g (show i < 7 by omega), Option.bind_some, swayOf_e (kd_rg hk), tallOf_e (kd_rg hk), b1, b2, b3, b4, e4, nI_1]
      rw [hd]
      by_cases z1 : h.2.1 100 (54 + 4 * q) = nI i
      · by_cases z2 : swS (nI k) (h.2.1 100 (26 + i)) (h.2.1 100 (54 + 4 * q + 1)) = h.2.1 100 (54 + 4 * q + 2)
        · by_cases z3 : taS (nI k) (h.2.1 100 (54 + 4 * q + 1)) = h.2.1 100 (54 + 4 * q + 3)
          · left
            rw [if_pos z1, if_pos z2, if_pos z3]
            exact ⟨_, rfl, rfl, by simp only [allB]; rw [a2, ← hp]; simp [nok, z2, z3]⟩
          · right
            rw [if_pos z1, if_pos z2, if_neg z3]
            exact ⟨_, rfl, Or.inl ⟨rfl, allB_no (q := q) (by rw [← hp]; simp [nok, z1, z3]) _ hq⟩⟩
        · right
          rw [if_pos z1, if_neg z2]
          exact ⟨_, rfl, Or.inl ⟨rfl, allB_no (q := q) (by rw [← hp]; simp [nok, z1, z2]) _ hq⟩⟩
      · left
        rw [if_neg z1]
        exact ⟨_, rfl, rfl, by simp only [allB]; rw [a2, ← hp]; simp [nok, z1]⟩
    · intro st ⟨a1, a2⟩
      subst a1
      refine ⟨Sum.inr (), ?_, Or.inr ⟨rfl, a2⟩⟩
      simp only [fX0_fitsNotes_b2]
      rw [gI1 g, Option.bind_some, e8, if_pos (by rw [le_nI (by omega) (by omega)]; omega)]
  obtain ⟨r, er, hr⟩ := lp
  simp only [fX0_fitsNotes, fX0_fitsNotes_j67]
  rw [er, Option.bind_some]
  rcases hr with ⟨rfl, e⟩ | ⟨rfl, e⟩
  · rw [e]; rfl
  · rw [e]; rfl
def kdN (f : Nat → Int32) (i : Nat) : Nat → Nat
  | 0 => 0
  | k + 1 => if allB (nok f i (nI k)) (nq f) = true then kdN f i k ||| 2 ^ k else kdN f i k
theorem kdN_lt {f : Nat → Int32} {i : Nat} : ∀ k, k ≤ 6 → kdN f i k < 128
  | 0, _ => by simp [kdN]
  | k + 1, hk => by
    have := kdN_lt (f := f) (i := i) k (by omega)
    simp only [kdN]
    split
    · exact or_lt 7 (by omega) _ this k (by omega)
    · exact this
theorem kinds_c (H : Inv h) {i : Nat} (hi : i < nn (h.2.1 100)) : fX0_kindsByNotes 1 (nI i) h = some (nI (kdN (h.2.1 100) i 6)) := by
  have g := H.1
  have lp : xloop (fX0_kindsByNotes_b4 1 (nI i) h) 1000000 (0, 0) = some (nI (kdN (h.2.1 100) i 6)) := by
    refine xloop_c (fun k => (nI (kdN (h.2.1 100) i k), nI k)) _ 6 (by decide) ?_ ?_ rfl
    · intro k hk
      have lt := kdN_lt (f := h.2.1 100) (i := i) k (by omega)
      simp only [fX0_kindsByNotes_b4, fX0_kindsByNotes_j25]
      rw [if_neg (by rw [show (6 : Int32) = nI 6 from rfl, le_nI (by omega) (by omega)]; omega), gT1 g, fits_e H hi hk, Option.bind_some, or_bit _ lt k (by omega), nI_1]
      by_cases z : allB (nok (h.2.1 100) i (nI k)) (nq (h.2.1 100)) = true
      · simp only [z, if_true, ne10, if_false, kdN]
      · simp only [z, if_false, if_true, kdN]; rfl
    · simp only [fX0_kindsByNotes_b4]
      rw [if_pos (by decide)]
  simp only [fX0_kindsByNotes]
  rw [lp, Option.bind_some]
theorem kinds_m {f : Nat → Int32} (M : MX h f) {i : Nat} (hi : i < nn f) : fX9_kindsOf 99 (nI i) h = some (nI (kdN f i 6)) := by
  have g := M.1
  have W := M.2.1
  have e := M.2.2
  have n7 := (n_eq W).2.1
  obtain ⟨q1, q6⟩ := q_eq W
  have inn : ∀ (k : Nat) (v : Int32), k < 6 → xloop (fX9_kindsOf_b16 99 (nI i) v (nI k) h) 1000000 (1, 0) = some (99, nI i, v, nI k, if allB (nok f i (nI k)) (nq f) = true then 1 else 0) := by
    intro k v hk
    refine xloop_c (fun q => (if allB (nok f i (nI k)) q = true then 1 else 0, nI q)) _ (nq f) (by omega) ?_ ?_ rfl
    · intro q hq
      have i1 : (54 : Int32) + 4 * nI q = nI (54 + 4 * q) := by rw [lm4, la54]
      have i2 : nI (54 + 4 * q) + 1 = nI (54 + 4 * q + 1) := lb1 _
      have i3 : nI (54 + 4 * q) + 2 = nI (54 + 4 * q + 2) := lb2 _
      have i4 : nI (54 + 4 * q) + 3 = nI (54 + 4 * q + 3) := lb3 _
      have a1 : xaI h 100 10 1 = some (h.2.1 100 1) := aN100 g (i := 1) (by omega)
      simp only [fX9_kindsOf_b16, fX9_kindsOf_j97, fX9_kindsOf_j96, fX9_kindsOf_j124, fX9_kindsOf_j120, fX9_kindsOf_j125]
      simp only [gR99_0 g, Option.bind_some, a1, e, q1, i1, i2, i3, i4, la26, aN100 g (show 54 + 4 * q < 118 by omega), aN100 g (show 54 + 4 * q + 1 < 118 by omega), aN100 g (show 54 + 4 * q + 2 < 118 by omega), aN100 g (show 54 + 4 * q + 3 < 118 by omega), aN100 g (show 26 + i < 118 by omega), swayAs_e (kd_rg hk), tallAs_e (kd_rg hk), nI_1]
      rw [if_neg (by rw [le_nI (by omega) (by omega)]; omega)]
      simp only [allB]
      by_cases z0 : allB (nok f i (nI k)) q = true
      · by_cases z1 : f (54 + 4 * q) = nI i
        · by_cases z2 : swS (nI k) (f (26 + i)) (f (54 + 4 * q + 1)) = f (54 + 4 * q + 2)
          · by_cases z3 : taS (nI k) (f (54 + 4 * q + 1)) = f (54 + 4 * q + 3)
            · simp [z0, z1, z2, z3, nok]
            · simp [z0, z1, z2, z3, nok]
          · simp [z0, z1, z2, nok]
        · simp [z0, z1, nok]
      · simp [z0]
    · simp only [fX9_kindsOf_b16]
      have a1 : xaI h 100 10 1 = some (h.2.1 100 1) := aN100 g (i := 1) (by omega)
      rw [gR99_0 g, Option.bind_some, a1, Option.bind_some, e, q1, if_pos (by rw [le_nI (by omega) (by omega)]; omega)]
  have lp : xloop (fX9_kindsOf_b4 99 (nI i) h) 1000000 (0, 0) = some (nI (kdN f i 6)) := by
    refine xloop_c (fun k => (nI (kdN f i k), nI k)) _ 6 (by decide) ?_ ?_ rfl
    · intro k hk
      have lt := kdN_lt (f := f) (i := i) k (by omega)
      simp only [fX9_kindsOf_b4, fX9_kindsOf_j146]
      rw [if_neg (by rw [show (6 : Int32) = nI 6 from rfl, le_nI (by omega) (by omega)]; omega), inn k _ hk, Option.bind_some]
      simp only []
      rw [or_bit _ lt k (by omega), or_z, nI_1]
      by_cases z : allB (nok f i (nI k)) (nq f) = true
      · simp only [z, if_true, ne10, if_false, kdN]
      · simp only [z, if_false, if_true, kdN]; rfl
    · simp only [fX9_kindsOf_b4]
      rw [if_pos (by decide)]
  simp only [fX9_kindsOf]
  rw [lp, Option.bind_some]
theorem MX_self (H : Inv h) : MX h (h.2.1 100) := ⟨H.1, H.2.2.1, rfl⟩
theorem op_is (H : Inv h) (v : Int32) : Op (fX8_is 0 v h) (fX9_is 99 v) := by
  have g := H.1
  by_cases q1 : ¬ (0 ≤ v.toInt ∧ v.toInt ≤ (nn (h.2.1 100) : Int) - 1)
  · refine Op_bad H (-2) 0 (by omega) ?_ ?_
    · simp (disch := first | exact g | exact GH_F2 g | exact GH_F2 (GH_F2 g) | exact GH_F2 (GH_F2 (GH_F2 g)) | exact GH_F2 (GH_F2 (GH_F2 (GH_F2 g))) | exact GH_F2 (GH_F2 (GH_F2 (GH_F2 (GH_F2 g)))) | exact GH_F2 (GH_F2 (GH_F2 (GH_F2 (GH_F2 (GH_F2 g))))) | exact GH_F2 (GH_F2 (GH_F2 (GH_F2 (GH_F2 (GH_F2 (GH_F2 g)))))) | exact GH_F2 (GH_F2 (GH_F2 (GH_F2 (GH_F2 (GH_F2 (GH_F2 (GH_F2 g))))))) | exact GH_F2 (GH_F2 (GH_F2 (GH_F2 (GH_F2 (GH_F2 (GH_F2 (GH_F2 (GH_F2 g)))))))) | omega | decide) [fX8_is, has_1 H, inb_no q1, gR0_0, gR0_1, gR0_2, gR0_3, gR0_4, gR0_5, gR0_6, gR0_7, gR0_8, gR66_0, gR66_1, gR69_0, gR72_0, gR72_1, gR76_0, gR76_2, gR1_1, gR1_3, gR1_4, gR1_5, gR1_6, gR1_7, gR1_9, gR1_10, gR1_11, gR1_12, gR1_13, gR1_14, gI0, pI0, gT0, gI1, pI1, gT1, gI12, pI12, gT12, gI66, pI66, gT66, gI67, pI67, gT67, gI69, pI69, gT69, gI71, pI71, gT71, gI72, pI72, gT72, gI75, pI75, gT75, gI76, pI76, gT76, aI2, aI3, aI4, aI5, aI6, aI7, aI8, aI9, aI10, aI11, aI65, aI68, aI70, aI73, aI74, aI77, sI2, sI3, sI4, sI5, sI6, sI7, sI8, sI9, sI10, sI11, sI68, sI70, sI73, sI74, sI77, aN2, aN3, aN4, aN5, aN6, aN7, aN8, aN9, aN10, aN11, aN65, aN68, aN70, aN73, aN74, aN77, sN2, sN3, sN4, sN5, sN6, sN7, sN8, sN9, sN10, sN11, sN68, sN70, sN73, sN74, sN77, sZN65, sZ65, refuseBad_e, refuseNo_e, refuseFull_e, refuseOther_e, -Int32.toInt_add, -Int32.toInt_sub, nI_tt, nI_c, la1, lb1, la2, lb2, la3, lb3, la4, lb4, la5, lb5, la6, lb6, la7, lb7, la8, lb8, la9, lb9, la10, lb10, la19, lb19, la26, lb26, la33, lb33, la40, lb40, la47, lb47, la54, lb54, la78, lb78, la83, lb83, la118, lb118, lm2, lm4, lm5, lm10, lm118, t32_0, t64_0, t32_1, t64_1, t32_2, t64_2, t32_3, t64_3, t32_4, t64_4, t32_5, t64_5, t32_6, t64_6, t32_7, t64_7, t32_8, t64_8, t32_9, t64_9, t32_10, t64_10, t32_40, t64_40, t32_60, t64_60, t32_127, t64_127, t32_150, t64_150, t32_200, t64_200, t32_999999, t64_999999, reduceIte, ne01, ne02, ne03, ne04, ne05, ne06, ne07, ne10, ne12, ne13, ne14, ne15, ne16, ne17, ne20, ne21, ne23, ne24, ne25, ne26, ne27, ne30, ne31, ne32, ne34, ne35, ne36, ne37, ne40, ne41, ne42, ne43, ne45, ne46, ne47, ne50, ne51, ne52, ne53, ne54, ne56, ne57, ne60, ne61, ne62, ne63, ne64, ne65, ne67, ne70, ne71, ne72, ne73, ne74, ne75, ne76, eq0, eq1, eq2, eq3, eq4, eq5, eq6, eq7, bit_e, GH_F2, sF_I, sF_s, sF_1, sF_R, sF_L, Option.bind_some, i64_i, in_e, within_e]
    · intro h1 g e
      simp (disch := first | exact g | exact GH_F2 g | exact GH_F2 (GH_F2 g) | exact GH_F2 (GH_F2 (GH_F2 g)) | exact GH_F2 (GH_F2 (GH_F2 (GH_F2 g))) | exact GH_F2 (GH_F2 (GH_F2 (GH_F2 (GH_F2 g)))) | exact GH_F2 (GH_F2 (GH_F2 (GH_F2 (GH_F2 (GH_F2 g))))) | exact GH_F2 (GH_F2 (GH_F2 (GH_F2 (GH_F2 (GH_F2 (GH_F2 g)))))) | exact GH_F2 (GH_F2 (GH_F2 (GH_F2 (GH_F2 (GH_F2 (GH_F2 (GH_F2 g))))))) | exact GH_F2 (GH_F2 (GH_F2 (GH_F2 (GH_F2 (GH_F2 (GH_F2 (GH_F2 (GH_F2 g)))))))) | omega | decide) [fX9_is, fX9_is_j22, isI_at H g (e 100 (by decide)), inb_no q1, gR99_0, gR99_1, gR99_2, gR99_3, gR99_6, gR99_7, gR99_8, gR99_9, gR99_10, gR99_16, gR99_17, gI99, pI99, gT99, aI100, aI101, aI102, aI103, aI104, aI105, aI106, aI107, aI108, aI109, aI110, sI100, sI101, sI103, sI104, sI105, sI106, sI107, sI108, sI109, sI110, aN100, aN101, aN102, aN103, aN104, aN105, aN106, aN107, aN108, aN109, aN110, sN100, sN101, sN103, sN104, sN105, sN106, sN107, sN108, sN109, sN110, sZN102, sZ102, bad_e, no_e, full_e, many_e, isIdea_e, isStop_e, -Int32.toInt_add, -Int32.toInt_sub, nI_tt, nI_c, la1, lb1, la2, lb2, la3, lb3, la4, lb4, la5, lb5, la6, lb6, la7, lb7, la8, lb8, la9, lb9, la10, lb10, la19, lb19, la26, lb26, la33, lb33, la40, lb40, la47, lb47, la54, lb54, la78, lb78, la83, lb83, la118, lb118, lm2, lm4, lm5, lm10, lm118, t32_0, t64_0, t32_1, t64_1, t32_2, t64_2, t32_3, t64_3, t32_4, t64_4, t32_5, t64_5, t32_6, t64_6, t32_7, t64_7, t32_8, t64_8, t32_9, t64_9, t32_10, t64_10, t32_40, t64_40, t32_60, t64_60, t32_127, t64_127, t32_150, t64_150, t32_200, t64_200, t32_999999, t64_999999, reduceIte, ne01, ne02, ne03, ne04, ne05, ne06, ne07, ne10, ne12, ne13, ne14, ne15, ne16, ne17, ne20, ne21, ne23, ne24, ne25, ne26, ne27, ne30, ne31, ne32, ne34, ne35, ne36, ne37, ne40, ne41, ne42, ne43, ne45, ne46, ne47, ne50, ne51, ne52, ne53, ne54, ne56, ne57, ne60, ne61, ne62, ne63, ne64, ne65, ne67, ne70, ne71, ne72, ne73, ne74, ne75, ne76, eq0, eq1, eq2, eq3, eq4, eq5, eq6, eq7, bit_e, GH_F2, sF_I, sF_s, sF_1, sF_R, sF_L, Option.bind_some, i64_i, in_e, within_e]
  replace q1 := Classical.not_not.mp q1
  have i1 := inb_ok q1
  obtain ⟨i, hi, rfl⟩ := i32_nI (n := nn (h.2.1 100)) (v := v) (by omega)
  refine Op_id H (nI (kdN (h.2.1 100) i 6)) ?_ ?_
  · simp only [fX8_is]
    rw [gR0_0 g, Option.bind_some, gT1 g, has_1 H, Option.bind_some, i1, if_neg (by decide), Option.bind_some, gT1 g, kinds_c H hi, Option.bind_some]
  · simp only [fX9_is, fX9_is_j22]
    rw [gT99 g, isI_1 H, Option.bind_some, i1, if_neg (by decide), gT99 g, kinds_m (MX_self H) hi, Option.bind_some]
/-- how many kinds of the set are like a at stop s -/
def lkN (u a : Nat) (ft s : Int32) : Nat → Nat
  | 0 => 0
  | b + 1 => if bt1 (nI u) b = 1 ∧ swS (nI b) ft s = swS (nI a) ft s ∧ taS (nI b) s = taS (nI a) s then lkN u a ft s b + 1 else lkN u a ft s b
theorem lkN_le {u a : Nat} {ft s : Int32} : ∀ b, lkN u a ft s b ≤ b
  | 0 => Nat.le_refl _
  | b + 1 => by
    have := lkN_le (u := u) (a := a) (ft := ft) (s := s) b
    simp only [lkN]; split <;> omega
def msN (u : Nat) (ft s : Int32) : Nat → Nat
  | 0 => 0
  | a + 1 => if bt1 (nI u) a = 1 then (if msN u ft s a < lkN u a ft s 6 then lkN u a ft s 6 else msN u ft s a) else msN u ft s a
theorem msN_le {u : Nat} {ft s : Int32} : ∀ a, msN u ft s a ≤ 6
  | 0 => by simp [msN]
  | a + 1 => by
    have := msN_le (u := u) (ft := ft) (s := s) a
    have := lkN_le (u := u) (a := a) (ft := ft) (s := s) 6
    simp only [msN]; split
    · split <;> omega
    · omega
def beN (u : Nat) (ft : Int32) : Nat → Nat × Nat
  | 0 => (0, msN u ft (nI 0) 6)
  | s + 1 => if (beN u ft s).2 ≤ msN u ft (nI (s + 1)) 6 then beN u ft s else (s + 1, msN u ft (nI (s + 1)) 6)
theorem beN_le {u : Nat} {ft : Int32} : ∀ s, (beN u ft s).2 ≤ 6
  | 0 => msN_le 6
  | s + 1 => by
    have := beN_le (u := u) (ft := ft) s
    have := msN_le (u := u) (ft := ft) (s := nI (s + 1)) 6
    simp only [beN]; split <;> omega
theorem alike_c {u a : Nat} {ft s : Int32} (ha : a < 6) (h : Hp) : fX8_countAlike (nI u) (nI a) ft s h = some (nI (lkN u a ft s 6)) := by
  have lp : xloop (fX8_countAlike_b6 (nI u) (nI a) ft s h) 1000000 (0, 0) = some (nI (lkN u a ft s 6)) := by
    refine xloop_c (fun b => (nI (lkN u a ft s b), nI b)) _ 6 (by decide) ?_ ?_ rfl
    · intro b hb
      simp only [fX8_countAlike_b6, fX8_countAlike_j56]
      rw [if_neg (by rw [show (6 : Int32) = nI 6 from rfl, le_nI (by omega) (by omega)]; omega), bit_e, Option.bind_some]
      simp only [swayOf_e (kd_rg hb), swayOf_e (kd_rg ha), tallOf_e (kd_rg hb), tallOf_e (kd_rg ha), Option.bind_some, nI_1]
      show (if bt1 (nI u) b = 1 then _ else _) = _
      simp only [lkN]
      by_cases z1 : bt1 (nI u) b = 1
      · by_cases z2 : swS (nI b) ft s = swS (nI a) ft s
        · by_cases z3 : taS (nI b) s = taS (nI a) s
          · simp only [z1, z2, z3, and_self, if_true]
          · simp only [z1, z2, z3, and_false, if_true, if_false]
        · simp only [z1, z2, false_and, and_false, if_true, if_false]
      · simp only [z1, false_and, if_false]
    · simp only [fX8_countAlike_b6]
      rw [if_pos (by decide)]
  simp only [fX8_countAlike]
  rw [lp, Option.bind_some]
theorem most_c {u : Nat} {ft s : Int32} (h : Hp) : fX8_mostAlike (nI u) ft s h = some (nI (msN u ft s 6)) := by
  have lp : xloop (fX8_mostAlike_b5 (nI u) ft s h) 1000000 (0, 0) = some (nI (msN u ft s 6)) := by
    refine xloop_c (fun a => (nI (msN u ft s a), nI a)) _ 6 (by decide) ?_ ?_ rfl
    · intro a ha
      have l1 := msN_le (u := u) (ft := ft) (s := s) a
      have l2 := lkN_le (u := u) (a := a) (ft := ft) (s := s) 6
      simp only [fX8_mostAlike_b5, fX8_mostAlike_j35]
      rw [if_neg (by rw [show (6 : Int32) = nI 6 from rfl, le_nI (by omega) (by omega)]; omega), bit_e, Option.bind_some, alike_c ha, Option.bind_some, nI_1]
      show (if bt1 (nI u) a = 1 then _ else _) = _
      simp only [msN, nI_ltI (show msN u ft s a < 2 ^ 31 by omega) (show lkN u a ft s 6 < 2 ^ 31 by omega)]
      by_cases z1 : bt1 (nI u) a = 1
      · by_cases z2 : msN u ft s a < lkN u a ft s 6
        · simp only [z1, z2, if_true]
        · simp only [z1, z2, if_true, if_false]
      · simp only [z1, if_false]
    · simp only [fX8_mostAlike_b5]
      rw [if_pos (by decide)]
  simp only [fX8_mostAlike]
  rw [lp, Option.bind_some]
theorem best_c {u : Nat} {ft : Int32} (hu : u < 128) (h : Hp) : fX8_bestLook (nI u) ft h = some (if u = 0 then -1 else nI (beN u ft 9).1) := by
  simp only [fX8_bestLook]
  by_cases z : u = 0
  · subst z; rw [if_pos nI_0, if_pos rfl]
  · rw [if_neg (nI_ne0 (by omega) (by omega)), if_neg z]
    have lp : xloop (fX8_bestLook_b18 (nI u) ft h) 1000000 (0, nI (msN u ft 0 6), 1) = some (nI (beN u ft 9).1) := by
      refine xloop_c (fun s => (nI (beN u ft s).1, nI (beN u ft s).2, nI (s + 1))) _ 9 (by decide) ?_ ?_ rfl
      · intro s hs
        have l1 := beN_le (u := u) (ft := ft) s
        have l2 := msN_le (u := u) (ft := ft) (s := nI (s + 1)) 6
        simp only [fX8_bestLook_b18, fX8_bestLook_j46]
        rw [if_neg (by rw [show (10 : Int32) = nI 10 from rfl, le_nI (by omega) (by omega)]; omega), most_c, Option.bind_some, nI_1]
        simp only [beN, nI_leI (show (beN u ft s).2 < 2 ^ 31 by omega) (show msN u ft (nI (s + 1)) 6 < 2 ^ 31 by omega)]
        by_cases q : (beN u ft s).2 ≤ msN u ft (nI (s + 1)) 6
        · simp only [q, if_true]
        · simp only [q, if_false]
      · simp only [fX8_bestLook_b18]
        rw [if_pos (by decide)]
    rw [most_c, Option.bind_some, lp, Option.bind_some]
theorem areAlike_e {a b : Nat} {ft s : Int32} (ha : a < 6) (hb : b < 6) (h : Hp) : fX9_areAlike (nI a) (nI b) ft s h = some (if swS (nI b) ft s = swS (nI a) ft s ∧ taS (nI b) s = taS (nI a) s then 1 else 0) := by
  simp only [fX9_areAlike, fX9_areAlike_j32, fX9_areAlike_j33]
  rw [if_pos (show vp_nar .boolean 0 = 0 from rfl), if_pos (show vp_nar .boolean 1 = 1 from rfl)]
  simp only [swayAs_e (kd_rg hb), swayAs_e (kd_rg ha), tallAs_e (kd_rg hb), tallAs_e (kd_rg ha), Option.bind_some]
  by_cases z2 : swS (nI b) ft s = swS (nI a) ft s
  · by_cases z3 : taS (nI b) s = taS (nI a) s
    · simp [z2, z3]
    · have z4 : ¬ taS (nI a) s = taS (nI b) s := fun q => z3 q.symm
      simp [z2, z3, z4]
  · have z4 : ¬ swS (nI a) ft s = swS (nI b) ft s := fun q => z2 q.symm
    simp [z2, z4]
theorem most_m {f : Nat → Int32} {u i : Nat} {v3 v4 : Int32} {s : Int32} (M : MX h f) (hi : i < nn f) : xloop (fX9_look_b47 99 (nI i) (nI u) v3 v4 s h) 1000000 (0, 0) = some (99, nI i, nI u, v3, v4, s, nI (msN u (f (26 + i)) s 6)) := by
  have g := M.1
  have n7 := (n_eq M.2.1).2.1
  have e26 : xaI h 100 10 (nI (26 + i)) = some (f (26 + i)) := by rw [aN100 g (by omega), M.2.2]
  have inn : ∀ (a : Nat) (v6 : Int32), a < 6 → xloop (fX9_look_b60 99 (nI i) (nI u) v3 v4 s v6 (nI a) h) 1000000 (0, 0) = some (99, nI i, nI u, v3, v4, s, v6, nI a, if bt1 (nI u) a = 1 then nI (lkN u a (f (26 + i)) s 6) else 0) := by
    intro a v6 ha
    by_cases za : bt1 (nI u) a = 1
    · rw [if_pos za]
      refine xloop_c (fun b => (nI (lkN u a (f (26 + i)) s b), nI b)) _ 6 (by decide) ?_ ?_ rfl
      · intro b hb
        simp only [fX9_look_b60, fX9_look_j112, fX9_look_j113]
        rw [if_neg (by rw [show (6 : Int32) = nI 6 from rfl, le_nI (by omega) (by omega)]; omega), has_bt, Option.bind_some, if_pos za, if_neg (by decide), has_bt, Option.bind_some, gR99_0 g, Option.bind_some, la26, e26, Option.bind_some, areAlike_e ha hb, Option.bind_some, nI_1]
        simp only [lkN]
        by_cases z1 : bt1 (nI u) b = 1
        · by_cases z2 : swS (nI b) (f (26 + i)) s = swS (nI a) (f (26 + i)) s ∧ taS (nI b) s = taS (nI a) s
          · simp [z1, z2, nI_1]
          · rw [if_neg (show ¬ (bt1 (nI u) b = 1 ∧ swS (nI b) (f (26 + i)) s = swS (nI a) (f (26 + i)) s ∧ taS (nI b) s = taS (nI a) s) from fun q => z2 q.2), if_pos z1, if_neg (by decide), if_neg z2, if_pos rfl]; simp
        · rw [if_neg (show ¬ (bt1 (nI u) b = 1 ∧ swS (nI b) (f (26 + i)) s = swS (nI a) (f (26 + i)) s ∧ taS (nI b) s = taS (nI a) s) from fun q => z1 q.1), if_neg z1, if_pos rfl]; simp
      · simp only [fX9_look_b60]
        rw [if_pos (by decide)]
    · rw [if_neg za]
      refine xloop_c (fun b => ((0 : Int32), nI b)) _ 0 (by decide) ?_ ?_ rfl
      · intro b hb; omega
      · simp only [fX9_look_b60]
        rw [if_neg (by decide), has_bt, Option.bind_some, if_neg za, if_pos rfl]
  refine xloop_c (fun a => (nI (msN u (f (26 + i)) s a), nI a)) _ 6 (by decide) ?_ ?_ rfl
  · intro a ha
    have l1 := msN_le (u := u) (ft := f (26 + i)) (s := s) a
    have l2 := lkN_le (u := u) (a := a) (ft := f (26 + i)) (s := s) 6
    simp only [fX9_look_b47, fX9_look_j122, fX9_look_j136]
    rw [if_neg (by rw [show (6 : Int32) = nI 6 from rfl, le_nI (by omega) (by omega)]; omega), inn a _ ha, Option.bind_some]
    simp only []
    rw [nI_1]
    simp only [msN]
    by_cases z1 : bt1 (nI u) a = 1
    · rw [if_pos z1, if_pos z1]
      by_cases z2 : msN u (f (26 + i)) s a < lkN u a (f (26 + i)) s 6
      · rw [if_pos z2, if_neg (by rw [le_nI (by omega) (by omega)]; omega)]
      · rw [if_neg z2, if_pos (by rw [le_nI (by omega) (by omega)]; omega)]
    · rw [if_neg z1, if_neg z1, if_pos (nI_pos' (by omega))]
  · simp only [fX9_look_b47]
    rw [if_pos (by decide)]
theorem best_m {f : Nat → Int32} {u i : Nat} (M : MX h f) (hi : i < nn f) (hu : u < 128) : xloop (fX9_look_b30 99 (nI i) (nI u) h) 1000000 (-1, 1000000, 0) = some (if u = 0 then -1 else nI (beN u (f (26 + i)) 9).1) := by
  by_cases z : u = 0
  · subst z
    rw [if_pos rfl]
    refine xloop_c (fun s => ((-1 : Int32), (1000000 : Int32), nI s)) _ 0 (by decide) (fun i hi => by omega) ?_ rfl
    simp only [fX9_look_b30]
    rw [if_neg (by decide), if_pos (by decide)]
  · rw [if_neg z]
    refine xloop_c (fun s => ((if s = 0 then -1 else nI (beN u (f (26 + i)) (s - 1)).1), (if s = 0 then 1000000 else nI (beN u (f (26 + i)) (s - 1)).2), nI s)) _ 10 (by decide) ?_ ?_ rfl
    · intro s hs
      simp only [fX9_look_b30, fX9_look_j157, fX9_look_j172]
      rw [if_neg (by rw [show (10 : Int32) = nI 10 from rfl, le_nI (by omega) (by omega)]; omega), if_neg (nI_nle (by omega) (by omega)), most_m M hi, Option.bind_some]
      simp only []
      rw [nI_1, if_neg (show ¬ s + 1 = 0 by omega), if_neg (show ¬ s + 1 = 0 by omega), Nat.add_sub_cancel]
      have l2 := msN_le (u := u) (ft := f (26 + i)) (s := nI s) 6
      cases s with
      | zero =>
        simp only [if_true, beN]
        rw [if_neg (by rw [show (1000000 : Int32) = nI 1000000 from rfl, le_nI (by omega) (by omega)]; omega), if_neg (by rw [show (1000000 : Int32) = nI 1000000 from rfl, le_nI (by omega) (by omega)]; omega)]
      | succ s =>
        have l1 := beN_le (u := u) (ft := f (26 + i)) s
        rw [if_neg (show ¬ s + 1 = 0 by omega), if_neg (show ¬ s + 1 = 0 by omega), Nat.add_sub_cancel]
        simp only [beN, nI_leI (show (beN u (f (26 + i)) s).2 < 2 ^ 31 by omega) (show msN u (f (26 + i)) (nI (s + 1)) 6 < 2 ^ 31 by omega)]
        by_cases q : (beN u (f (26 + i)) s).2 ≤ msN u (f (26 + i)) (nI (s + 1)) 6
        · simp only [q, if_true]
        · simp only [q, if_false]
    · simp only [fX9_look_b30]
      rw [if_pos (by decide)]
      rfl
theorem op_look (H : Inv h) (v : Int32) : Op (fX8_look 0 v h) (fX9_look 99 v) := by
  have g := H.1
  have n7 := (n_eq H.2.2.1).2.1
  by_cases q1 : ¬ (0 ≤ v.toInt ∧ v.toInt ≤ (nn (h.2.1 100) : Int) - 1)
  · refine Op_bad H (-2) 0 (by omega) ?_ ?_
    · simp (disch := first | exact g | exact GH_F2 g | exact GH_F2 (GH_F2 g) | exact GH_F2 (GH_F2 (GH_F2 g)) | exact GH_F2 (GH_F2 (GH_F2 (GH_F2 g))) | exact GH_F2 (GH_F2 (GH_F2 (GH_F2 (GH_F2 g)))) | exact GH_F2 (GH_F2 (GH_F2 (GH_F2 (GH_F2 (GH_F2 g))))) | exact GH_F2 (GH_F2 (GH_F2 (GH_F2 (GH_F2 (GH_F2 (GH_F2 g)))))) | exact GH_F2 (GH_F2 (GH_F2 (GH_F2 (GH_F2 (GH_F2 (GH_F2 (GH_F2 g))))))) | exact GH_F2 (GH_F2 (GH_F2 (GH_F2 (GH_F2 (GH_F2 (GH_F2 (GH_F2 (GH_F2 g)))))))) | omega | decide) [fX8_look, has_1 H, inb_no q1, gR0_0, gR0_1, gR0_2, gR0_3, gR0_4, gR0_5, gR0_6, gR0_7, gR0_8, gR66_0, gR66_1, gR69_0, gR72_0, gR72_1, gR76_0, gR76_2, gR1_1, gR1_3, gR1_4, gR1_5, gR1_6, gR1_7, gR1_9, gR1_10, gR1_11, gR1_12, gR1_13, gR1_14, gI0, pI0, gT0, gI1, pI1, gT1, gI12, pI12, gT12, gI66, pI66, gT66, gI67, pI67, gT67, gI69, pI69, gT69, gI71, pI71, gT71, gI72, pI72, gT72, gI75, pI75, gT75, gI76, pI76, gT76, aI2, aI3, aI4, aI5, aI6, aI7, aI8, aI9, aI10, aI11, aI65, aI68, aI70, aI73, aI74, aI77, sI2, sI3, sI4, sI5, sI6, sI7, sI8, sI9, sI10, sI11, sI68, sI70, sI73, sI74, sI77, aN2, aN3, aN4, aN5, aN6, aN7, aN8, aN9, aN10, aN11, aN65, aN68, aN70, aN73, aN74, aN77, sN2, sN3, sN4, sN5, sN6, sN7, sN8, sN9, sN10, sN11, sN68, sN70, sN73, sN74, sN77, sZN65, sZ65, refuseBad_e, refuseNo_e, refuseFull_e, refuseOther_e, -Int32.toInt_add, -Int32.toInt_sub, nI_tt, nI_c, la1, lb1, la2, lb2, la3, lb3, la4, lb4, la5, lb5, la6, lb6, la7, lb7, la8, lb8, la9, lb9, la10, lb10, la19, lb19, la26, lb26, la33, lb33, la40, lb40, la47, lb47, la54, lb54, la78, lb78, la83, lb83, la118, lb118, lm2, lm4, lm5, lm10, lm118, t32_0, t64_0, t32_1, t64_1, t32_2, t64_2, t32_3, t64_3, t32_4, t64_4, t32_5, t64_5, t32_6, t64_6, t32_7, t64_7, t32_8, t64_8, t32_9, t64_9, t32_10, t64_10, t32_40, t64_40, t32_60, t64_60, t32_127, t64_127, t32_150, t64_150, t32_200, t64_200, t32_999999, t64_999999, reduceIte, ne01, ne02, ne03, ne04, ne05, ne06, ne07, ne10, ne12, ne13, ne14, ne15, ne16, ne17, ne20, ne21, ne23, ne24, ne25, ne26, ne27, ne30, ne31, ne32, ne34, ne35, ne36, ne37, ne40, ne41, ne42, ne43, ne45, ne46, ne47, ne50, ne51, ne52, ne53, ne54, ne56, ne57, ne60, ne61, ne62, ne63, ne64, ne65, ne67, ne70, ne71, ne72, ne73, ne74, ne75, ne76, eq0, eq1, eq2, eq3, eq4, eq5, eq6, eq7, bit_e, GH_F2, sF_I, sF_s, sF_1, sF_R, sF_L, Option.bind_some, i64_i, in_e, within_e]
    · intro h1 g e
      simp (disch := first | exact g | exact GH_F2 g | exact GH_F2 (GH_F2 g) | exact GH_F2 (GH_F2 (GH_F2 g)) | exact GH_F2 (GH_F2 (GH_F2 (GH_F2 g))) | exact GH_F2 (GH_F2 (GH_F2 (GH_F2 (GH_F2 g)))) | exact GH_F2 (GH_F2 (GH_F2 (GH_F2 (GH_F2 (GH_F2 g))))) | exact GH_F2 (GH_F2 (GH_F2 (GH_F2 (GH_F2 (GH_F2 (GH_F2 g)))))) | exact GH_F2 (GH_F2 (GH_F2 (GH_F2 (GH_F2 (GH_F2 (GH_F2 (GH_F2 g))))))) | exact GH_F2 (GH_F2 (GH_F2 (GH_F2 (GH_F2 (GH_F2 (GH_F2 (GH_F2 (GH_F2 g)))))))) | omega | decide) [fX9_look, isI_at H g (e 100 (by decide)), inb_no q1, gR99_0, gR99_1, gR99_2, gR99_3, gR99_6, gR99_7, gR99_8, gR99_9, gR99_10, gR99_16, gR99_17, gI99, pI99, gT99, aI100, aI101, aI102, aI103, aI104, aI105, aI106, aI107, aI108, aI109, aI110, sI100, sI101, sI103, sI104, sI105, sI106, sI107, sI108, sI109, sI110, aN100, aN101, aN102, aN103, aN104, aN105, aN106, aN107, aN108, aN109, aN110, sN100, sN101, sN103, sN104, sN105, sN106, sN107, sN108, sN109, sN110, sZN102, sZ102, bad_e, no_e, full_e, many_e, isIdea_e, isStop_e, -Int32.toInt_add, -Int32.toInt_sub, nI_tt, nI_c, la1, lb1, la2, lb2, la3, lb3, la4, lb4, la5, lb5, la6, lb6, la7, lb7, la8, lb8, la9, lb9, la10, lb10, la19, lb19, la26, lb26, la33, lb33, la40, lb40, la47, lb47, la54, lb54, la78, lb78, la83, lb83, la118, lb118, lm2, lm4, lm5, lm10, lm118, t32_0, t64_0, t32_1, t64_1, t32_2, t64_2, t32_3, t64_3, t32_4, t64_4, t32_5, t64_5, t32_6, t64_6, t32_7, t64_7, t32_8, t64_8, t32_9, t64_9, t32_10, t64_10, t32_40, t64_40, t32_60, t64_60, t32_127, t64_127, t32_150, t64_150, t32_200, t64_200, t32_999999, t64_999999, reduceIte, ne01, ne02, ne03, ne04, ne05, ne06, ne07, ne10, ne12, ne13, ne14, ne15, ne16, ne17, ne20, ne21, ne23, ne24, ne25, ne26, ne27, ne30, ne31, ne32, ne34, ne35, ne36, ne37, ne40, ne41, ne42, ne43, ne45, ne46, ne47, ne50, ne51, ne52, ne53, ne54, ne56, ne57, ne60, ne61, ne62, ne63, ne64, ne65, ne67, ne70, ne71, ne72, ne73, ne74, ne75, ne76, eq0, eq1, eq2, eq3, eq4, eq5, eq6, eq7, bit_e, GH_F2, sF_I, sF_s, sF_1, sF_R, sF_L, Option.bind_some, i64_i, in_e, within_e]
  replace q1 := Classical.not_not.mp q1
  have i1 := inb_ok q1
  obtain ⟨i, hi, rfl⟩ := i32_nI (n := nn (h.2.1 100)) (v := v) (by omega)
  have lt := kdN_lt (f := h.2.1 100) (i := i) 6 (by omega)
  have e4 : h.2.1 4 i = h.2.1 100 (26 + i) := (H.2.1.2.2.2.1 i hi).2.1
  refine Op_id H (if kdN (h.2.1 100) i 6 = 0 then -1 else nI (beN (kdN (h.2.1 100) i 6) (h.2.1 100 (26 + i)) 9).1) ?_ ?_
  · simp only [fX8_look]
    rw [gR0_0 g, Option.bind_some, gT1 g, has_1 H, Option.bind_some, i1, if_neg (by decide), Option.bind_some, gT1 g, kinds_c H hi, Option.bind_some, Option.bind_some, gR1_4 g, Option.bind_some, aN4 g (by omega), Option.bind_some, e4, best_c lt, Option.bind_some]
  · simp only [fX9_look, fX9_look_j180]
    rw [gT99 g, isI_1 H, Option.bind_some, i1, if_neg (by decide), gT99 g, kinds_m (MX_self H) hi, Option.bind_some, best_m (MX_self H) hi lt, Option.bind_some]
end LOOK
