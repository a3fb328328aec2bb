section STOP4
variable {h : Hp}
theorem a104_3 (g : GH h) : xaI h 104 10 3 = some (h.2.1 104 3) := e_aI (i := 3) (gs104 g) (k := 3) rfl (by decide) (by decide)
theorem s104_3 (g : GH h) (x : Int32) : xsI h 104 3 x = some (sF h 104 (upd (h.2.1 104) 3 x)) := e_sI (i := 3) (gs104 g) (k := 3) rfl (by decide) (by decide)
theorem a104_4 (g : GH h) : xaI h 104 10 4 = some (h.2.1 104 4) := e_aI (i := 4) (gs104 g) (k := 4) rfl (by decide) (by decide)
theorem s104_4 (g : GH h) (x : Int32) : xsI h 104 4 x = some (sF h 104 (upd (h.2.1 104) 4 x)) := e_sI (i := 4) (gs104 g) (k := 4) rfl (by decide) (by decide)
theorem a104_5 (g : GH h) : xaI h 104 10 5 = some (h.2.1 104 5) := e_aI (i := 5) (gs104 g) (k := 5) rfl (by decide) (by decide)
theorem s104_5 (g : GH h) (x : Int32) : xsI h 104 5 x = some (sF h 104 (upd (h.2.1 104) 5 x)) := e_sI (i := 5) (gs104 g) (k := 5) rfl (by decide) (by decide)
theorem a104_6 (g : GH h) : xaI h 104 10 6 = some (h.2.1 104 6) := e_aI (i := 6) (gs104 g) (k := 6) rfl (by decide) (by decide)
theorem s104_6 (g : GH h) (x : Int32) : xsI h 104 6 x = some (sF h 104 (upd (h.2.1 104) 6 x)) := e_sI (i := 6) (gs104 g) (k := 6) rfl (by decide) (by decide)
theorem a104_7 (g : GH h) : xaI h 104 10 7 = some (h.2.1 104 7) := e_aI (i := 7) (gs104 g) (k := 7) rfl (by decide) (by decide)
theorem s104_7 (g : GH h) (x : Int32) : xsI h 104 7 x = some (sF h 104 (upd (h.2.1 104) 7 x)) := e_sI (i := 7) (gs104 g) (k := 7) rfl (by decide) (by decide)
theorem a104_8 (g : GH h) : xaI h 104 10 8 = some (h.2.1 104 8) := e_aI (i := 8) (gs104 g) (k := 8) rfl (by decide) (by decide)
theorem s104_8 (g : GH h) (x : Int32) : xsI h 104 8 x = some (sF h 104 (upd (h.2.1 104) 8 x)) := e_sI (i := 8) (gs104 g) (k := 8) rfl (by decide) (by decide)
theorem and_m1 (x : Int32) : x &&& (-1) = x := by simp
theorem or_z (x : Int32) : x ||| 0 = x := by simp
/-- what the model's hand must show -/
def HR (K f on : Nat → Int32) : Prop := K 8 = f 8 ∧ ∀ i, i < nn f → K (19 + i) = f (19 + i) ∧ K (26 + i) = f (26 + i) ∧ K (33 + i) = on i ∧ K (40 + i) = f (40 + i) ∧ K (47 + i) = f (47 + i)
theorem HR_u {K f on : Nat → Int32} {j : Nat} {x : Int32} (H : HR K f on) (hj : 3 ≤ j ∧ j ≤ 7) : HR (upd K j x) f on := by
  refine ⟨?_, fun i hi => ?_⟩
  · rw [upd_e, if_neg (by omega)]; exact H.1
  · rw [upd_e, upd_e, upd_e, upd_e, upd_e, if_neg (by omega), if_neg (by omega), if_neg (by omega), if_neg (by omega), if_neg (by omega)]; exact H.2 i hi
theorem many_at {f : Nat → Int32} (g : GH h) (e : h.2.1 100 0 = nI (nn f)) : xat h 99 (9, 18) (fX9_many 99 h) = some (nI (nn f)) := by
  rw [gT99 g, many_e g, e]
theorem go9_e {f on : Nat → Int32} {u : Nat} {s : Int32} (g : GH h) (eN : h.2.1 100 0 = nI (nn f)) (n7 : nn f ≤ 7) (HR0 : HR (h.2.1 104) f on) (hu : u < 128) (e : h.2.1 104 4 = nI u) : xloop (fX9_goStop_b9 99 s) 1000000 (0, h) = some (99, s, sF h 104 (upd (h.2.1 104) 4 (nI (offN f s u (nn f))))) := by
  refine xloop_c (fun i => (nI i, sF h 104 (upd (h.2.1 104) 4 (nI (offN f s u i))))) _ (nn f) (by omega) ?_ ?_ ?_
  · intro i hi
    have lt := offN_lt (f := f) (s := s) hu i
    simp only [offN]
    generalize hq : offN f s u i = q at lt
    have H' := HR_u (j := 4) (x := nI q) HR0 (by omega)
    generalize hh : sF h 104 (upd (h.2.1 104) 4 (nI q)) = h1
    have g' : GH h1 := by rw [← hh]; exact g
    have e' : h1.2.1 100 0 = nI (nn f) := by rw [← hh]; exact eN
    have rr : h1.2.1 104 = upd (h.2.1 104) 4 (nI q) := by rw [← hh]; rfl
    have s1 : ∀ F, sF h1 104 F = sF h 104 F := fun F => by rw [← hh, sF_s]
    have r4 : upd (h.2.1 104) 4 (nI q) 4 = nI q := by simp [upd_e]
    have u1 : ∀ y, upd (upd (h.2.1 104) 4 (nI q)) 4 y = upd (h.2.1 104) 4 y := fun y => by funext k; simp only [upd_e]; by_cases z : k = 4 <;> simp [z]
    simp only [fX9_goStop_b9, fX9_goStop_j46]
    rw [many_at g' e', Option.bind_some, if_neg (by rw [le_nI (by omega) (by omega)]; omega), gR99_6 g', Option.bind_some, a104_4 g', Option.bind_some, Option.bind_some, la40, aN104 g' (by omega), Option.bind_some, rr, r4, (H'.2 i hi).2.2.2.1, off_bit _ lt i (by omega), and_m1, s104_4 g', s104_4 g', Option.bind_some, Option.bind_some, s1, s1, rr, u1, u1, nI_1]
    by_cases z : f (40 + i) = s
    · rw [if_pos z, if_pos z]
    · rw [if_neg z, if_neg z]
  · simp only [fX9_goStop_b9]
    rw [many_at (h := sF h 104 _) g eN, Option.bind_some, if_pos (by rw [le_nI (by omega) (by omega)]; omega)]
  · simp only [offN]; rw [upd_self e, sF_same]; rfl
theorem go56_e {f on : Nat → Int32} {p : Nat × Nat} {s : Int32} (g : GH h) (eN : h.2.1 100 0 = nI (nn f)) (n7 : nn f ≤ 7) (HR0 : HR (h.2.1 104) f on) (hp : p.1 < 128 ∧ p.2 < 128) (e1 : h.2.1 104 4 = nI p.1) (e3 : h.2.1 104 6 = nI p.2) : xloop (fX9_goStop_b56 99 s) 1000000 (0, h) = some (99, s, sF h 104 (upd (upd (h.2.1 104) 4 (nI (onN f on s p (nn f)).1)) 6 (nI (onN f on s p (nn f)).2))) := by
  refine xloop_c (fun i => (nI i, sF h 104 (upd (upd (h.2.1 104) 4 (nI (onN f on s p i).1)) 6 (nI (onN f on s p i).2)))) _ (nn f) (by omega) ?_ ?_ ?_
  · intro i hi
    obtain ⟨l1, l2⟩ := onN_lt (f := f) (on := on) (s := s) hp i (by omega)
    simp only [onN]
    generalize hq : onN f on s p i = q at l1 l2
    have H' := HR_u (j := 6) (x := nI q.2) (HR_u (j := 4) (x := nI q.1) HR0 (by omega)) (by omega)
    generalize hK : upd (upd (h.2.1 104) 4 (nI q.1)) 6 (nI q.2) = K at H'
    have k4 : K 4 = nI q.1 := by rw [← hK]; simp [upd_e]
    have k6 : K 6 = nI q.2 := by rw [← hK]; simp [upd_e]
    have gg : ∀ F, GH (sF h 104 F) := fun F => g
    have o1 := or_bit _ l1 i (by omega)
    have o2 := or_bit _ l2 i (by omega)
    have w0 : upd K 4 (nI q.1) = K := upd_self k4
    have w1 : upd K 6 (nI (q.2 ||| 2 ^ i)) = upd (upd (h.2.1 104) 4 (nI q.1)) 6 (nI (q.2 ||| 2 ^ i)) := by
      rw [← hK]; funext k; simp only [upd_e]; by_cases z : k = 6 <;> simp [z]
    have w2 : upd (upd K 4 (nI (q.1 ||| 2 ^ i))) 6 (nI q.2) = upd (upd (h.2.1 104) 4 (nI (q.1 ||| 2 ^ i))) 6 (nI q.2) := by
      rw [← hK]; funext k; simp only [upd_e]; by_cases z : k = 6 <;> by_cases z2 : k = 4 <;> simp [z, z2]
    have w3 : upd K 4 (nI (q.1 ||| 2 ^ i)) 6 = nI q.2 := by rw [upd_e, if_neg (by omega), k6]
    have yes : fX9_goStop_j120 99 s (nI i) 1 (sF h 104 K) = some (Sum.inl (nI (i + 1), sF h 104 (upd (upd (h.2.1 104) 4 (nI (q.1 ||| 2 ^ i))) 6 (nI q.2)))) := by
      simp only [fX9_goStop_j120, fX9_goStop_j139, fX9_goStop_j160, fX9_goStop_j162, ne10, if_false]
      rw [gR99_6 (gg _), Option.bind_some, a104_4 (gg _), Option.bind_some]
      simp only [sF_I, if_true]
      rw [k4, o1, s104_4 (gg _), Option.bind_some, sF_s, gR99_6 (gg _), Option.bind_some, a104_6 (gg _), Option.bind_some]
      simp only [sF_I, if_true]
      rw [w3, or_z, s104_6 (gg _), Option.bind_some, sF_s, nI_1]
      simp only [sF_I, if_true]
      rw [w2]
    have no : fX9_goStop_j120 99 s (nI i) 0 (sF h 104 K) = some (Sum.inl (nI (i + 1), sF h 104 (upd (upd (h.2.1 104) 4 (nI q.1)) 6 (nI (q.2 ||| 2 ^ i))))) := by
      simp only [fX9_goStop_j120, fX9_goStop_j139, fX9_goStop_j160, fX9_goStop_j162, if_true]
      rw [gR99_6 (gg _), Option.bind_some, a104_4 (gg _), Option.bind_some]
      simp only [sF_I, if_true]
      rw [k4, or_z, s104_4 (gg _), Option.bind_some, sF_s, gR99_6 (gg _), Option.bind_some, a104_6 (gg _), Option.bind_some]
      simp only [sF_I, if_true]
      rw [w0, k6, o2, s104_6 (gg _), Option.bind_some, sF_s, nI_1]
      simp only [sF_I, if_true]
      rw [w1]
    simp only [fX9_goStop_b56, fX9_goStop_j119, fX9_goStop_j162]
    rw [many_at (h := sF h 104 K) (gg _) eN, Option.bind_some, if_neg (by rw [le_nI (by omega) (by omega)]; omega), gR99_6 (gg _), Option.bind_some, la33, aN104 (gg _) (by omega), Option.bind_some]
    simp only [sF_I, if_true]
    rw [(H'.2 i hi).2.2.1]
    by_cases z1 : on i = s
    · rw [if_pos z1, if_pos z1, Option.bind_some, a104_4 (gg _), Option.bind_some]
      simp only [sF_I, if_true]
      rw [k4, bits_e l1, Option.bind_some, Option.bind_some, a104_8 (gg _), Option.bind_some]
      simp only [sF_I, if_true]
      rw [H'.1]
      by_cases z2 : f 8 ≤ nI (bcn q.1)
      · rw [if_pos z2, if_pos (Or.inl z2), no]
      · rw [if_neg z2, Option.bind_some, a104_4 (gg _), Option.bind_some, Option.bind_some, la47, aN104 (gg _) (by omega), Option.bind_some]
        simp only [sF_I, if_true]
        rw [k4, (H'.2 i hi).2.2.2.2, Int32.and_comm]
        by_cases z3 : f (47 + i) &&& nI q.1 = 0
        · rw [if_pos z3, if_neg (fun z => z.elim z2 (fun w => w z3)), yes]
        · rw [if_neg z3, if_pos (Or.inr z3), no]
    · rw [if_neg z1, if_neg z1, nI_1, hK]
  · simp only [fX9_goStop_b56]
    rw [many_at (h := sF h 104 _) g eN, Option.bind_some, if_pos (by rw [le_nI (by omega) (by omega)]; omega)]
  · simp only [onN]; rw [upd_self e1, upd_self e3, sF_same]; rfl
end STOP4
