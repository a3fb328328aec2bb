section DAYS
variable {h : Hp}
def lcg (x : Int64) : Int64 := ((x * 1103515245) + 12345) - ((x * 1103515245) + 12345) / 2147483648 * 2147483648
def bd (x : Int64) (o : Int32) : Int32 := (lcg x / 65536 - lcg x / 65536 / o.toInt64 * o.toInt64).toInt32
def lcN (x : Int64) : Nat → Int64
  | 0 => x
  | i + 1 => lcg (lcN x i)
def onD (f : Nat → Int32) (x : Int64) : Nat → Int32 := fun i => bd (lcN x i) (f (40 + i))
def dyN (f : Nat → Int32) (x : Int64) : Nat → Int64 × Int32
  | 0 => (x, 0)
  | d + 1 => (lcN (dyN f x d).1 (nn f), (dyN f x d).2 + (sn f (onD f (dyN f x d).1) 0).2)
theorem off_64 {f : Nat → Int32} (W : WF f) {i : Nat} (hi : i < nn f) : ¬ (f (40 + i)).toInt64 = 0 ∧ ¬ f (40 + i) ≤ 0 := by
  have w := (W.2.2.1 i hi).2.2.2.1.1
  constructor
  · intro z
    rw [fa_eq64, i64_i, t64_0] at z
    omega
  · intro z
    rw [fa_le, t32_0] at z
    omega
theorem days_c {f : Nat → Int32} {x : Int64} {v : Int32} {n : Nat} (J : JX h f) (hn : n ≤ 60) (hv : v.toInt64 = x) : ∃ h', fX3_levyOfDays 66 1 v (nI n) h = some ((dyN f x n).2, h') ∧ KP [66, 67, 68] h h' := by
  have W := J.2.2.1
  have n7 := (n_eq W).2.1
  have lp : ∃ r, xloop (fX3_levyOfDays_b10 66 1 (nI n)) 1000000 (v.toInt64, 0, 0, h) = some r ∧ r.1 = (dyN f x n).2 ∧ KP [66, 67, 68] h r.2 := by
    refine xloop_i (body := fX3_levyOfDays_b10 66 1 (nI n)) (fun d st => st.1 = (dyN f x d).1 ∧ st.2.1 = (dyN f x d).2 ∧ st.2.2.1 = nI d ∧ KP [66, 67, 68] h st.2.2.2) (fun r => r.1 = (dyN f x n).2 ∧ KP [66, 67, 68] h r.2) n (by omega) ?_ ?_ ⟨hv, rfl, rfl, KP_rfl _ h⟩
    · intro d st hd ⟨a1, a2, a3, aK⟩
      left
      have J0 := JX_k aK (by decide) J
      obtain ⟨t1, e1, K1, b1, l1, z1⟩ := jstart_e J0.1
      have K1' := KP_t aK K1 (fun _ z => z) (fun _ z => z) (U := [66, 67, 68])
      have li : ∃ r, xloop (fX3_levyOfDays_b24 66 1 (nI n) st.2.1 st.2.2.1) 1000000 (st.1, 0, t1) = some r ∧ r.1 = 66 ∧ r.2.1 = 1 ∧ r.2.2.2.1 = lcN st.1 (nn f) ∧ r.2.2.2.2.1 = st.2.1 ∧ r.2.2.2.2.2.1 = st.2.2.1 ∧ KP [66, 67, 68] h r.2.2.2.2.2.2 ∧ (∀ j, j < nn f → r.2.2.2.2.2.2.2.1 68 j = onD f st.1 j) ∧ r.2.2.2.2.2.2.2.1 66 2 = 0 ∧ ∀ j, j < 5 → r.2.2.2.2.2.2.2.1 67 j = 0 := by
        refine xloop_i (body := fX3_levyOfDays_b24 66 1 (nI n) st.2.1 st.2.2.1) (fun i t => t.1 = lcN st.1 i ∧ t.2.1 = nI i ∧ KP [66, 67, 68] h t.2.2 ∧ (∀ j, j < i → t.2.2.2.1 68 j = onD f st.1 j) ∧ t.2.2.2.1 66 2 = 0 ∧ ∀ j, j < 5 → t.2.2.2.1 67 j = 0) (fun r => r.1 = 66 ∧ r.2.1 = 1 ∧ r.2.2.2.1 = lcN st.1 (nn f) ∧ r.2.2.2.2.1 = st.2.1 ∧ r.2.2.2.2.2.1 = st.2.2.1 ∧ KP [66, 67, 68] h r.2.2.2.2.2.2 ∧ (∀ j, j < nn f → r.2.2.2.2.2.2.2.1 68 j = onD f st.1 j) ∧ r.2.2.2.2.2.2.2.1 66 2 = 0 ∧ ∀ j, j < 5 → r.2.2.2.2.2.2.2.1 67 j = 0) (nn f) (by omega) ?_ ?_ ⟨rfl, rfl, K1', fun j hj => by omega, l1, z1⟩
        · intro i t hi ⟨c1, c2, cK, c3, c4, c5⟩
          left
          have Jt := JX_k cK (by decide) J
          obtain ⟨w1, w2⟩ := off_64 W hi
          refine ⟨(lcg t.1, t.2.1 + 1, sF t.2.2 68 (upd (t.2.2.2.1 68) i (bd t.1 (f (40 + i))))), ?_, ?_, ?_, KP_F cK (by decide) _, ?_, ?_, ?_⟩
          · simp only [fX3_levyOfDays_b24, fX3_levyOfDays_j82]
            rw [gI1 Jt.1, Option.bind_some, Jt.2.1.1, c2, if_neg (by rw [le_nI (by omega) (by omega)]; omega), if_neg (by decide), gR1_6 Jt.1, Option.bind_some, aN6 Jt.1 (by omega), Option.bind_some, (Jt.2.1.2.2.2 i hi).2.2.1, if_neg w2, gR66_1 Jt.1, Option.bind_some, if_neg (by decide), Option.bind_some, aN6 Jt.1 (by omega), Option.bind_some, (Jt.2.1.2.2.2 i hi).2.2.1, if_neg w1, sN68 Jt.1 (by omega), Option.bind_some]
            first | done | rfl
          · simp only [lcN]; rw [c1]
          · simp only []; rw [c2, nI_1]
          · intro j hj
            simp only [sF_I, if_true, upd_e]
            by_cases z : j = i
            · rw [if_pos z, z, c1]; rfl
            · rw [if_neg z]; exact c3 j (by omega)
          · simpa [sF_I] using c4
          · intro j hj; simpa [sF_I] using c5 j hj
        · intro t ⟨c1, c2, cK, c3, c4, c5⟩
          have Jt := JX_k cK (by decide) J
          refine ⟨(66, 1, nI n, t.1, st.2.1, st.2.2.1, t.2.2), ?_, rfl, rfl, c1, rfl, rfl, cK, c3, c4, c5⟩
          simp only [fX3_levyOfDays_b24]
          rw [gI1 Jt.1, Option.bind_some, Jt.2.1.1, c2, if_pos (by rw [le_nI (by omega) (by omega)]; omega)]
      obtain ⟨r, er, r1, r2, r3, r4, r5, rK, r6, r7, r8⟩ := li
      have Jr := JX_k rK (by decide) J
      obtain ⟨h3, e3, K3, u, c, l, w⟩ := jrun_e (h := r.2.2.2.2.2.2) (f := f) (on := onD f st.1) (lift := 0) Jr.1 Jr.2.1 W r6 r7 r8
      have K4 := KP_t rK K3 (fun _ z => z) (fun _ z => z) (U := [66, 67, 68])
      have J3 := JX_k K4 (by decide) J
      refine ⟨(lcN st.1 (nn f), st.2.1 + (sn f (onD f st.1) 0).2, st.2.2.1 + 1, h3), ?_, ?_, ?_, ?_, K4⟩
      · simp only [fX3_levyOfDays_b10]
        rw [a3, if_neg (by rw [le_nI (by omega) (by omega)]; omega), gT66 J0.1, e1, Option.bind_some, ← a3, er, Option.bind_some, r1, r2, r3, r4, r5, gT66 Jr.1, e3, Option.bind_some, gR66_0 J3.1, Option.bind_some, gI67 J3.1, Option.bind_some, w]
      · simp only [dyN]; rw [a1]
      · simp only [dyN]; rw [a1, a2]
      · simp only []; rw [a3, nI_1]
    · intro st ⟨a1, a2, a3, aK⟩
      refine ⟨(st.2.1, st.2.2.2), ?_, a2, aK⟩
      simp only [fX3_levyOfDays_b10]
      rw [a3, if_pos (by rw [le_nI (by omega) (by omega)]; omega)]
  obtain ⟨r, er, r1, rK⟩ := lp
  refine ⟨r.2, ?_, rK⟩
  simp only [fX3_levyOfDays]
  rw [er, Option.bind_some, r1]
theorem days_m {f : Nat → Int32} {x : Int64} {v : Int32} {n : Nat} (M : MX h f) (hn : n ≤ 60) (hv : v.toInt64 = x) : ∃ h', xloop (fX9_days_b40 99 (nI n)) 1000000 (v.toInt64, 0, 0, h) = some ((dyN f x n).2, h') ∧ KP [104] h h' := by
  have W := M.2.1
  have n7 := (n_eq W).2.1
  have e0 : ∀ h', MX h' f → h'.2.1 100 0 = nI (nn f) := fun h' m => by rw [m.2.2]; exact (n_eq W).1
  have lp : ∃ r, xloop (fX9_days_b40 99 (nI n)) 1000000 (v.toInt64, 0, 0, h) = some r ∧ r.1 = (dyN f x n).2 ∧ KP [104] h r.2 := by
    refine xloop_i (body := fX9_days_b40 99 (nI n)) (fun d st => st.1 = (dyN f x d).1 ∧ st.2.1 = (dyN f x d).2 ∧ st.2.2.1 = nI d ∧ KP [104] h st.2.2.2) (fun r => r.1 = (dyN f x n).2 ∧ KP [104] h r.2) n (by omega) ?_ ?_ ⟨hv, rfl, rfl, KP_rfl _ h⟩
    · intro d st hd ⟨a1, a2, a3, aK⟩
      left
      have M0 := MX_k aK (by decide) M
      obtain ⟨A, e1, A1, A2⟩ := mst_e M0
      have K1 : KP [104] h (sF st.2.2.2 104 A) := KP_F aK (by decide) _
      have A0 : (sF st.2.2.2 104 A).2.1 104 = A := by simp [sF_I]
      have li : ∃ r, xloop (fX9_days_b53 99 (nI n) st.2.1 st.2.2.1) 1000000 (st.1, 0, sF st.2.2.2 104 A) = some r ∧ r.1 = 99 ∧ r.2.2.1 = lcN st.1 (nn f) ∧ r.2.2.2.1 = st.2.1 ∧ r.2.2.2.2.1 = st.2.2.1 ∧ KP [104] h r.2.2.2.2.2 ∧ (∀ j, j < nn f → r.2.2.2.2.2.2.1 104 (33 + j) = onD f st.1 j) ∧ ∀ k, k < 54 → (k < 33 ∨ 40 ≤ k) → r.2.2.2.2.2.2.1 104 k = A k := by
        refine xloop_i (body := fX9_days_b53 99 (nI n) st.2.1 st.2.2.1) (fun i t => t.1 = lcN st.1 i ∧ t.2.1 = nI i ∧ KP [104] h t.2.2 ∧ (∀ j, j < i → t.2.2.2.1 104 (33 + j) = onD f st.1 j) ∧ ∀ k, k < 54 → (k < 33 ∨ 40 ≤ k) → t.2.2.2.1 104 k = A k) (fun r => r.1 = 99 ∧ r.2.2.1 = lcN st.1 (nn f) ∧ r.2.2.2.1 = st.2.1 ∧ r.2.2.2.2.1 = st.2.2.1 ∧ KP [104] h r.2.2.2.2.2 ∧ (∀ j, j < nn f → r.2.2.2.2.2.2.1 104 (33 + j) = onD f st.1 j) ∧ ∀ k, k < 54 → (k < 33 ∨ 40 ≤ k) → r.2.2.2.2.2.2.1 104 k = A k) (nn f) (by omega) ?_ ?_ ⟨rfl, rfl, K1, fun j hj => by omega, fun k _ _ => by simp [sF_I]⟩
        · intro i t hi ⟨c1, c2, cK, c3, c4⟩
          left
          have Mt := MX_k cK (by decide) M
          obtain ⟨w1, w2⟩ := off_64 W hi
          have o : t.2.2.2.1 104 (40 + i) = f (40 + i) := by rw [c4 _ (by omega) (by omega)]; exact A2 _ (by omega) (by omega)
          refine ⟨(lcg t.1, t.2.1 + 1, sF t.2.2 104 (upd (t.2.2.2.1 104) (33 + i) (bd t.1 (f (40 + i))))), ?_, ?_, ?_, KP_F cK (by decide) _, ?_, ?_⟩
          · simp only [fX9_days_b53]
            rw [many_at Mt.1 (e0 _ Mt), Option.bind_some, c2, if_neg (by rw [le_nI (by omega) (by omega)]; omega), if_neg (by decide), gR99_6 Mt.1, Option.bind_some, if_neg (by decide), Option.bind_some, la40, aN104 Mt.1 (by omega), Option.bind_some, o, if_neg w1, la33, sN104 Mt.1 (by omega), Option.bind_some]
            first | done | rfl
          · simp only [lcN]; rw [c1]
          · simp only []; rw [c2, nI_1]
          · intro j hj
            simp only [sF_I, if_true, upd_e]
            by_cases z : j = i
            · rw [if_pos (by omega), z, c1]; rfl
            · rw [if_neg (by omega)]; exact c3 j (by omega)
          · intro k hk hk2; simp only [sF_I, if_true, upd_e]; rw [if_neg (by omega)]; exact c4 k hk hk2
        · intro t ⟨c1, c2, cK, c3, c4⟩
          have Mt := MX_k cK (by decide) M
          refine ⟨(99, nI n, t.1, st.2.1, st.2.2.1, t.2.2), ?_, rfl, c1, rfl, rfl, cK, c3, c4⟩
          simp only [fX9_days_b53]
          rw [many_at Mt.1 (e0 _ Mt), Option.bind_some, c2, if_pos (by rw [le_nI (by omega) (by omega)]; omega)]
      obtain ⟨r, er, r1, r3, r4, r5, rK, r6, r7⟩ := li
      have Mr := MX_k rK (by decide) M
      obtain ⟨h3, e3, K3, u, c, l, w⟩ := mrun_e (h := r.2.2.2.2.2) (f := f) (on := onD f st.1) (lift := 0) Mr.1 (e0 _ Mr) W (rg09 (r := 0) (by omega)) (by
        refine ⟨?_, fun i hi => ⟨?_, ?_, r6 i hi, ?_, ?_⟩⟩ <;> (rw [r7 _ (by omega) (by omega)]; exact A2 _ (by omega) (by omega))) (fun j hj => by rw [r7 _ (by omega) (by omega)]; exact A1 j hj) (fun k hk => by rw [r7 _ (by omega) (by omega), A2 _ (by omega) (by omega)]; exact h_zero k)
      have K4 := KP_t rK K3 (fun _ z => z) (fun _ z => z) (U := [104])
      have M3 := MX_k K4 (by decide) M
      refine ⟨(lcN st.1 (nn f), st.2.1 + (sn f (onD f st.1) 0).2, st.2.2.1 + 1, h3), ?_, ?_, ?_, ?_, K4⟩
      · simp only [fX9_days_b40]
        rw [a3, if_neg (by rw [le_nI (by omega) (by omega)]; omega), gT99 M0.1, e1, Option.bind_some, ← a3, er, Option.bind_some, r1, r3, r4, r5, gT99 Mr.1, e3, Option.bind_some, gR99_6 M3.1, Option.bind_some, a104_7 M3.1, Option.bind_some, w]
      · simp only [dyN]; rw [a1]
      · simp only [dyN]; rw [a1, a2]
      · simp only []; rw [a3, nI_1]
    · intro st ⟨a1, a2, a3, aK⟩
      refine ⟨(st.2.1, st.2.2.2), ?_, a2, aK⟩
      simp only [fX9_days_b40]
      rw [a3, if_pos (by rw [le_nI (by omega) (by omega)]; omega)]
  obtain ⟨r, er, r1, rK⟩ := lp
  exact ⟨r.2, by rw [er, ← r1], rK⟩
theorem op_days (H : Inv h) (v w : Int32) : Op (fX8_days 0 v w h) (fX9_days 99 v w) := by
  have g := H.1
  by_cases q1 : ¬ (0 ≤ v.toInt ∧ v.toInt ≤ 999999)
  · refine Op_bad H (-2) 0 (by omega) ?_ ?_
    · simp (disch := first | exact g | exact GH_F2 g | exact GH_F2 (GH_F2 g) | exact GH_F2 (GH_F2 (GH_F2 g)) | exact GH_F2 (GH_F2 (GH_F2 (GH_F2 g))) | exact GH_F2 (GH_F2 (GH_F2 (GH_F2 (GH_F2 g)))) | exact GH_F2 (GH_F2 (GH_F2 (GH_F2 (GH_F2 (GH_F2 g))))) | exact GH_F2 (GH_F2 (GH_F2 (GH_F2 (GH_F2 (GH_F2 (GH_F2 g)))))) | exact GH_F2 (GH_F2 (GH_F2 (GH_F2 (GH_F2 (GH_F2 (GH_F2 (GH_F2 g))))))) | exact GH_F2 (GH_F2 (GH_F2 (GH_F2 (GH_F2 (GH_F2 (GH_F2 (GH_F2 (GH_F2 g)))))))) | omega | decide) [fX8_days, fX8_days_j21, inb_no q1, gR0_0, gR0_1, gR0_2, gR0_3, gR0_4, gR0_5, gR0_6, gR0_7, gR0_8, gR66_0, gR66_1, gR69_0, gR72_0, gR72_1, gR76_0, gR76_2, gR1_1, gR1_3, gR1_4, gR1_5, gR1_6, gR1_7, gR1_9, gR1_10, gR1_11, gR1_12, gR1_13, gR1_14, gI0, pI0, gT0, gI1, pI1, gT1, gI12, pI12, gT12, gI66, pI66, gT66, gI67, pI67, gT67, gI69, pI69, gT69, gI71, pI71, gT71, gI72, pI72, gT72, gI75, pI75, gT75, gI76, pI76, gT76, aI2, aI3, aI4, aI5, aI6, aI7, aI8, aI9, aI10, aI11, aI65, aI68, aI70, aI73, aI74, aI77, sI2, sI3, sI4, sI5, sI6, sI7, sI8, sI9, sI10, sI11, sI68, sI70, sI73, sI74, sI77, aN2, aN3, aN4, aN5, aN6, aN7, aN8, aN9, aN10, aN11, aN65, aN68, aN70, aN73, aN74, aN77, sN2, sN3, sN4, sN5, sN6, sN7, sN8, sN9, sN10, sN11, sN68, sN70, sN73, sN74, sN77, sZN65, sZ65, refuseBad_e, refuseNo_e, refuseFull_e, refuseOther_e, -Int32.toInt_add, -Int32.toInt_sub, nI_tt, nI_c, la1, lb1, la2, lb2, la3, lb3, la4, lb4, la5, lb5, la6, lb6, la7, lb7, la8, lb8, la9, lb9, la10, lb10, la19, lb19, la26, lb26, la33, lb33, la40, lb40, la47, lb47, la54, lb54, la78, lb78, la83, lb83, la118, lb118, lm2, lm4, lm5, lm10, lm118, t32_0, t64_0, t32_1, t64_1, t32_2, t64_2, t32_3, t64_3, t32_4, t64_4, t32_5, t64_5, t32_6, t64_6, t32_7, t64_7, t32_8, t64_8, t32_9, t64_9, t32_10, t64_10, t32_40, t64_40, t32_60, t64_60, t32_127, t64_127, t32_150, t64_150, t32_200, t64_200, t32_999999, t64_999999, reduceIte, ne01, ne02, ne03, ne04, ne05, ne06, ne07, ne10, ne12, ne13, ne14, ne15, ne16, ne17, ne20, ne21, ne23, ne24, ne25, ne26, ne27, ne30, ne31, ne32, ne34, ne35, ne36, ne37, ne40, ne41, ne42, ne43, ne45, ne46, ne47, ne50, ne51, ne52, ne53, ne54, ne56, ne57, ne60, ne61, ne62, ne63, ne64, ne65, ne67, ne70, ne71, ne72, ne73, ne74, ne75, ne76, eq0, eq1, eq2, eq3, eq4, eq5, eq6, eq7, bit_e, GH_F2, sF_I, sF_s, sF_1, sF_R, sF_L, Option.bind_some, i64_i, in_e, within_e]
    · intro h1 g e
      simp (disch := first | exact g | exact GH_F2 g | exact GH_F2 (GH_F2 g) | exact GH_F2 (GH_F2 (GH_F2 g)) | exact GH_F2 (GH_F2 (GH_F2 (GH_F2 g))) | exact GH_F2 (GH_F2 (GH_F2 (GH_F2 (GH_F2 g)))) | exact GH_F2 (GH_F2 (GH_F2 (GH_F2 (GH_F2 (GH_F2 g))))) | exact GH_F2 (GH_F2 (GH_F2 (GH_F2 (GH_F2 (GH_F2 (GH_F2 g)))))) | exact GH_F2 (GH_F2 (GH_F2 (GH_F2 (GH_F2 (GH_F2 (GH_F2 (GH_F2 g))))))) | exact GH_F2 (GH_F2 (GH_F2 (GH_F2 (GH_F2 (GH_F2 (GH_F2 (GH_F2 (GH_F2 g)))))))) | omega | decide) [fX9_days, fX9_days_j24, inb_no q1, gR99_0, gR99_1, gR99_2, gR99_3, gR99_6, gR99_7, gR99_8, gR99_9, gR99_10, gR99_16, gR99_17, gI99, pI99, gT99, aI100, aI101, aI102, aI103, aI104, aI105, aI106, aI107, aI108, aI109, aI110, sI100, sI101, sI103, sI104, sI105, sI106, sI107, sI108, sI109, sI110, aN100, aN101, aN102, aN103, aN104, aN105, aN106, aN107, aN108, aN109, aN110, sN100, sN101, sN103, sN104, sN105, sN106, sN107, sN108, sN109, sN110, sZN102, sZ102, bad_e, no_e, full_e, many_e, isIdea_e, isStop_e, -Int32.toInt_add, -Int32.toInt_sub, nI_tt, nI_c, la1, lb1, la2, lb2, la3, lb3, la4, lb4, la5, lb5, la6, lb6, la7, lb7, la8, lb8, la9, lb9, la10, lb10, la19, lb19, la26, lb26, la33, lb33, la40, lb40, la47, lb47, la54, lb54, la78, lb78, la83, lb83, la118, lb118, lm2, lm4, lm5, lm10, lm118, t32_0, t64_0, t32_1, t64_1, t32_2, t64_2, t32_3, t64_3, t32_4, t64_4, t32_5, t64_5, t32_6, t64_6, t32_7, t64_7, t32_8, t64_8, t32_9, t64_9, t32_10, t64_10, t32_40, t64_40, t32_60, t64_60, t32_127, t64_127, t32_150, t64_150, t32_200, t64_200, t32_999999, t64_999999, reduceIte, ne01, ne02, ne03, ne04, ne05, ne06, ne07, ne10, ne12, ne13, ne14, ne15, ne16, ne17, ne20, ne21, ne23, ne24, ne25, ne26, ne27, ne30, ne31, ne32, ne34, ne35, ne36, ne37, ne40, ne41, ne42, ne43, ne45, ne46, ne47, ne50, ne51, ne52, ne53, ne54, ne56, ne57, ne60, ne61, ne62, ne63, ne64, ne65, ne67, ne70, ne71, ne72, ne73, ne74, ne75, ne76, eq0, eq1, eq2, eq3, eq4, eq5, eq6, eq7, bit_e, GH_F2, sF_I, sF_s, sF_1, sF_R, sF_L, Option.bind_some, i64_i, in_e, within_e]
  replace q1 := Classical.not_not.mp q1
  by_cases q2 : ¬ (0 ≤ w.toInt ∧ w.toInt ≤ 60)
  · refine Op_bad H (-2) 0 (by omega) ?_ ?_
    · simp (disch := first | exact g | exact GH_F2 g | exact GH_F2 (GH_F2 g) | exact GH_F2 (GH_F2 (GH_F2 g)) | exact GH_F2 (GH_F2 (GH_F2 (GH_F2 g))) | exact GH_F2 (GH_F2 (GH_F2 (GH_F2 (GH_F2 g)))) | exact GH_F2 (GH_F2 (GH_F2 (GH_F2 (GH_F2 (GH_F2 g))))) | exact GH_F2 (GH_F2 (GH_F2 (GH_F2 (GH_F2 (GH_F2 (GH_F2 g)))))) | exact GH_F2 (GH_F2 (GH_F2 (GH_F2 (GH_F2 (GH_F2 (GH_F2 (GH_F2 g))))))) | exact GH_F2 (GH_F2 (GH_F2 (GH_F2 (GH_F2 (GH_F2 (GH_F2 (GH_F2 (GH_F2 g)))))))) | omega | decide) [fX8_days, fX8_days_j21, inb_ok q1, inb_no q2, gR0_0, gR0_1, gR0_2, gR0_3, gR0_4, gR0_5, gR0_6, gR0_7, gR0_8, gR66_0, gR66_1, gR69_0, gR72_0, gR72_1, gR76_0, gR76_2, gR1_1, gR1_3, gR1_4, gR1_5, gR1_6, gR1_7, gR1_9, gR1_10, gR1_11, gR1_12, gR1_13, gR1_14, gI0, pI0, gT0, gI1, pI1, gT1, gI12, pI12, gT12, gI66, pI66, gT66, gI67, pI67, gT67, gI69, pI69, gT69, gI71, pI71, gT71, gI72, pI72, gT72, gI75, pI75, gT75, gI76, pI76, gT76, aI2, aI3, aI4, aI5, aI6, aI7, aI8, aI9, aI10, aI11, aI65, aI68, aI70, aI73, aI74, aI77, sI2, sI3, sI4, sI5, sI6, sI7, sI8, sI9, sI10, sI11, sI68, sI70, sI73, sI74, sI77, aN2, aN3, aN4, aN5, aN6, aN7, aN8, aN9, aN10, aN11, aN65, aN68, aN70, aN73, aN74, aN77, sN2, sN3, sN4, sN5, sN6, sN7, sN8, sN9, sN10, sN11, sN68, sN70, sN73, sN74, sN77, sZN65, sZ65, refuseBad_e, refuseNo_e, refuseFull_e, refuseOther_e, -Int32.toInt_add, -Int32.toInt_sub, nI_tt, nI_c, la1, lb1, la2, lb2, la3, lb3, la4, lb4, la5, lb5, la6, lb6, la7, lb7, la8, lb8, la9, lb9, la10, lb10, la19, lb19, la26, lb26, la33, lb33, la40, lb40, la47, lb47, la54, lb54, la78, lb78, la83, lb83, la118, lb118, lm2, lm4, lm5, lm10, lm118, t32_0, t64_0, t32_1, t64_1, t32_2, t64_2, t32_3, t64_3, t32_4, t64_4, t32_5, t64_5, t32_6, t64_6, t32_7, t64_7, t32_8, t64_8, t32_9, t64_9, t32_10, t64_10, t32_40, t64_40, t32_60, t64_60, t32_127, t64_127, t32_150, t64_150, t32_200, t64_200, t32_999999, t64_999999, reduceIte, ne01, ne02, ne03, ne04, ne05, ne06, ne07, ne10, ne12, ne13, ne14, ne15, ne16, ne17, ne20, ne21, ne23, ne24, ne25, ne26, ne27, ne30, ne31, ne32, ne34, ne35, ne36, ne37, ne40, ne41, ne42, ne43, ne45, ne46, ne47, ne50, ne51, ne52, ne53, ne54, ne56, ne57, ne60, ne61, ne62, ne63, ne64, ne65, ne67, ne70, ne71, ne72, ne73, ne74, ne75, ne76, eq0, eq1, eq2, eq3, eq4, eq5, eq6, eq7, bit_e, GH_F2, sF_I, sF_s, sF_1, sF_R, sF_L, Option.bind_some, i64_i, in_e, within_e]
    · intro h1 g e
      simp (disch := first | exact g | exact GH_F2 g | exact GH_F2 (GH_F2 g) | exact GH_F2 (GH_F2 (GH_F2 g)) | exact GH_F2 (GH_F2 (GH_F2 (GH_F2 g))) | exact GH_F2 (GH_F2 (GH_F2 (GH_F2 (GH_F2 g)))) | exact GH_F2 (GH_F2 (GH_F2 (GH_F2 (GH_F2 (GH_F2 g))))) | exact GH_F2 (GH_F2 (GH_F2 (GH_F2 (GH_F2 (GH_F2 (GH_F2 g)))))) | exact GH_F2 (GH_F2 (GH_F2 (GH_F2 (GH_F2 (GH_F2 (GH_F2 (GH_F2 g))))))) | exact GH_F2 (GH_F2 (GH_F2 (GH_F2 (GH_F2 (GH_F2 (GH_F2 (GH_F2 (GH_F2 g)))))))) | omega | decide) [fX9_days, fX9_days_j24, inb_ok q1, inb_no q2, gR99_0, gR99_1, gR99_2, gR99_3, gR99_6, gR99_7, gR99_8, gR99_9, gR99_10, gR99_16, gR99_17, gI99, pI99, gT99, aI100, aI101, aI102, aI103, aI104, aI105, aI106, aI107, aI108, aI109, aI110, sI100, sI101, sI103, sI104, sI105, sI106, sI107, sI108, sI109, sI110, aN100, aN101, aN102, aN103, aN104, aN105, aN106, aN107, aN108, aN109, aN110, sN100, sN101, sN103, sN104, sN105, sN106, sN107, sN108, sN109, sN110, sZN102, sZ102, bad_e, no_e, full_e, many_e, isIdea_e, isStop_e, -Int32.toInt_add, -Int32.toInt_sub, nI_tt, nI_c, la1, lb1, la2, lb2, la3, lb3, la4, lb4, la5, lb5, la6, lb6, la7, lb7, la8, lb8, la9, lb9, la10, lb10, la19, lb19, la26, lb26, la33, lb33, la40, lb40, la47, lb47, la54, lb54, la78, lb78, la83, lb83, la118, lb118, lm2, lm4, lm5, lm10, lm118, t32_0, t64_0, t32_1, t64_1, t32_2, t64_2, t32_3, t64_3, t32_4, t64_4, t32_5, t64_5, t32_6, t64_6, t32_7, t64_7, t32_8, t64_8, t32_9, t64_9, t32_10, t64_10, t32_40, t64_40, t32_60, t64_60, t32_127, t64_127, t32_150, t64_150, t32_200, t64_200, t32_999999, t64_999999, reduceIte, ne01, ne02, ne03, ne04, ne05, ne06, ne07, ne10, ne12, ne13, ne14, ne15, ne16, ne17, ne20, ne21, ne23, ne24, ne25, ne26, ne27, ne30, ne31, ne32, ne34, ne35, ne36, ne37, ne40, ne41, ne42, ne43, ne45, ne46, ne47, ne50, ne51, ne52, ne53, ne54, ne56, ne57, ne60, ne61, ne62, ne63, ne64, ne65, ne67, ne70, ne71, ne72, ne73, ne74, ne75, ne76, eq0, eq1, eq2, eq3, eq4, eq5, eq6, eq7, bit_e, GH_F2, sF_I, sF_s, sF_1, sF_R, sF_L, Option.bind_some, i64_i, in_e, within_e]
  replace q2 := Classical.not_not.mp q2
  have i1 := inb_ok q1
  have i2 := inb_ok q2
  obtain ⟨n, hn, rfl⟩ := i32_nI (n := 61) (v := w) (by omega)
  obtain ⟨h1, e1, K1⟩ := days_c (v := v) (n := n) (JX_of H) (by omega) rfl
  have M1 := MX_of H K1
  obtain ⟨h2, e2, K2⟩ := days_m (v := v) (n := n) M1 (by omega) rfl
  refine ⟨(dyN (h.2.1 100) v.toInt64 n).2, h1, h2, ?_, KP_GH g K1, ?_, KP_Inv H (KP_t K1 K2 (U := [66, 67, 68, 104]) (by decide) (by decide)) (by decide)⟩
  · simp only [fX8_days]
    rw [within_e, Option.bind_some]
    simp only [t32_0, t32_999999]
    rw [i1, if_neg (by decide), within_e, Option.bind_some]
    simp only [t32_0, t32_60]
    rw [i2, if_neg (by decide), gR0_3 g, Option.bind_some, gR0_0 g, Option.bind_some, gT66 g, e1, Option.bind_some]
  · simp only [fX9_days]
    rw [in_e, Option.bind_some, i64_i]
    simp only [t64_0, t64_999999]
    rw [i1, if_neg (by decide), in_e, Option.bind_some, i64_i]
    simp only [t64_0, t64_60]
    rw [i2, if_neg (by decide), e2, Option.bind_some]
end DAYS
