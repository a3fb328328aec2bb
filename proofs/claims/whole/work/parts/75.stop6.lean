section STOP6
variable {h : Hp}
def rwH (F : Nat → Int32) (x : Nat × Nat × Nat) (lv st : Int32) : Nat → Int32 := fun j => if j = 3 then st else if j = 4 then nI x.1 else if j = 5 then nI x.2.1 else if j = 6 then nI x.2.2 else if j = 7 then lv else F j
theorem goStop_e {f on : Nat → Int32} {k : Nat} {x : Nat × Nat × Nat} {hg : Int32} (g : GH h) (eN : h.2.1 100 0 = nI (nn f)) (W : WF f) (H0 : HR (h.2.1 104) f on) (hk : k < 10) (hx : x.1 < 128 ∧ x.2.1 < 128 ∧ x.2.2 < 128) (e3 : h.2.1 104 3 = nI k) (e4 : h.2.1 104 4 = nI x.1) (e5 : h.2.1 104 5 = nI x.2.1) (e6 : h.2.1 104 6 = nI x.2.2) (eh : h.2.1 104 (9 + k) = hg) : fX9_goStop 99 h = some (sF h 104 (rwH (h.2.1 104) (stN f on (nI k) (decide (hg ≤ 0)) hg x) (h.2.1 104 7 + swN f (nI k) (stN f on (nI k) (decide (hg ≤ 0)) hg x).1 (nn f)) (nI (k + 1)))) := by
  have n7 := (n_eq W).2.1
  have gg : ∀ F, GH (sF h 104 F) := fun F => g
  have a1 := go9_e (s := nI k) g eN n7 H0 hx.1 e4
  have l1 := offN_lt (f := f) (s := nI k) hx.1 (nn f)
  have H1 := HR_u (j := 4) (x := nI (offN f (nI k) x.1 (nn f))) H0 (by omega)
  have a2 := go56_e (h := sF h 104 (upd (h.2.1 104) 4 (nI (offN f (nI k) x.1 (nn f))))) (on := on) (p := (offN f (nI k) x.1 (nn f), x.2.2)) (s := nI k) (gg _) eN n7 (by simpa [sF_I] using H1) ⟨l1, hx.2.2⟩ (by simp [sF_I, upd_e]) (by simp [sF_I, upd_e, e6])
  have l2 := onN_lt (f := f) (on := on) (s := nI k) (p := (offN f (nI k) x.1 (nn f), x.2.2)) ⟨l1, hx.2.2⟩ (nn f) n7
  rw [sF_s] at a2
  simp only [sF_I, if_true] at a2
  generalize hp : onN f on (nI k) (offN f (nI k) x.1 (nn f), x.2.2) (nn f) = p at a2 l2
  have H2 := HR_u (j := 6) (x := nI p.2) (HR_u (j := 4) (x := nI p.1) H1 (by omega)) (by omega)
  generalize hK : upd (upd (upd (h.2.1 104) 4 (nI (offN f (nI k) x.1 (nn f)))) 4 (nI p.1)) 6 (nI p.2) = K at a2 H2
  have k4 : K 4 = nI p.1 := by rw [← hK]; simp [upd_e]
  have k5 : K 5 = nI x.2.1 := by rw [← hK]; simp [upd_e, e5]
  have k9 : K (9 + k) = hg := by rw [← hK]; simp only [upd_e]; rw [if_neg (by omega), if_neg (by omega), if_neg (by omega), eh]
  have fin : ∀ (F : Nat → Int32) (u : Nat), HR F f on → F 4 = nI u → fX9_goStop_j282 99 (nI k) (sF h 104 F) = some (sF h 104 (upd (upd F 7 (F 7 + swN f (nI k) u (nn f))) 3 (F 3 + 1))) := by
    intro F u HF e
    have gF := gg F
    simp only [fX9_goStop_j282]
    rw [gR99_6 gF, Option.bind_some, a104_7 gF, Option.bind_some, Option.bind_some, a104_4 gF, Option.bind_some, gT99 gF]
    simp only [sF_I, if_true]
    rw [e, mswayAll_e (h := sF h 104 F) gF eN W (by simpa [sF_I] using HF), Option.bind_some, s104_7 gF, Option.bind_some, sF_s, gR99_6 (gg _), Option.bind_some, a104_3 (gg _), Option.bind_some, s104_3 (gg _), Option.bind_some, sF_s]
    simp only [sF_I, if_true]
    rfl
  have hst : stN f on (nI k) (decide (hg ≤ 0)) hg x = if hg ≤ 0 then (p.1, x.2.1, p.2) else ((scN f (nI k) hg (p.1, x.2.1) (nn f)).1, (scN f (nI k) hg (p.1, x.2.1) (nn f)).2, p.2) := by
    unfold stN; rw [hp]; by_cases z : hg ≤ 0 <;> simp [z]
  simp only [fX9_goStop]
  rw [gR99_6 g, Option.bind_some, a104_3 g, Option.bind_some, e3, a1, Option.bind_some]
  simp only []
  rw [a2, Option.bind_some]
  simp only []
  rw [hst]
  by_cases z : hg ≤ 0
  · rw [go170_no (h := sF h 104 K) (f := f) (gg _) eN n7 hk (by simp only [sF_I, if_true]; rw [k9]; exact z), Option.bind_some, if_pos z]
    simp only []
    rw [fin K p.1 H2 k4]
    congr 2
    funext j
    rw [← hK]
    simp only [upd_e, rwH]
    by_cases j3 : j = 3
    · simp [j3, e3, nI_1]
    · by_cases j4 : j = 4
      · simp [j4]
      · by_cases j5 : j = 5
        · simp [j5, e5]
        · by_cases j6 : j = 6
          · simp [j6]
          · by_cases j7 : j = 7
            · simp [j7]
            · simp [j3, j4, j5, j6, j7]
  · have a3 := go170_e (h := sF h 104 K) (on := on) (p := (p.1, x.2.1)) (gg _) eN W (by simpa [sF_I] using H2) hk ⟨l2.1, hx.2.1⟩ (by simpa [sF_I] using k4) (by simpa [sF_I] using k5) (by simpa [sF_I] using k9) z
    rw [sF_s] at a3
    simp only [sF_I, if_true] at a3
    rw [a3, Option.bind_some, if_neg z]
    simp only []
    generalize hq : scN f (nI k) hg (p.1, x.2.1) (nn f) = q
    rw [fin _ q.1 (HR_u (HR_u H2 (by omega)) (by omega)) (by simp [upd_e])]
    congr 2
    funext j
    rw [← hK]
    simp only [upd_e, rwH]
    by_cases j3 : j = 3
    · simp [j3, e3, nI_1]
    · by_cases j4 : j = 4
      · simp [j4]
      · by_cases j5 : j = 5
        · simp [j5]
        · by_cases j6 : j = 6
          · simp [j6]
          · by_cases j7 : j = 7
            · simp [j7]
            · simp [j3, j4, j5, j6, j7]
end STOP6
