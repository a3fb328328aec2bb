section MORE
variable {h : Hp}
theorem layStart_e (g : GH h) : fX9_layStart 99 h = some (sF h 104 (rwH (fun k => if k < 54 then h.2.1 100 k else h.2.1 104 k) (0, 0, 0) 0 0)) := by
  have gg : ∀ F, GH (sF h 104 F) := fun F => g
  simp only [fX9_layStart]
  rw [gT99 g, layHand_e g, Option.bind_some, gR99_6 (gg _), Option.bind_some, s104_3 (gg _), Option.bind_some, sF_s, gR99_6 (gg _), Option.bind_some, s104_4 (gg _), Option.bind_some, sF_s, gR99_6 (gg _), Option.bind_some, s104_5 (gg _), Option.bind_some, sF_s, gR99_6 (gg _), Option.bind_some, s104_6 (gg _), Option.bind_some, sF_s, gR99_6 (gg _), Option.bind_some, s104_7 (gg _), Option.bind_some, sF_s]
  simp only [sF_I, if_true]
  congr 2
  funext j
  simp only [upd_e, rwH]
  by_cases j3 : j = 3
  · simp [j3]
  · by_cases j4 : j = 4
    · simp [j4]; rfl
    · by_cases j5 : j = 5
      · simp [j5]; rfl
      · by_cases j6 : j = 6
        · simp [j6]; rfl
        · by_cases j7 : j = 7
          · simp [j7]
          · simp [j3, j4, j5, j6, j7]
theorem image19_e (g : GH h) {i : Nat} (hi : i < 2) : xloop (fX9_image_b19 99 (nI i)) 1000000 (0, h) = some (99, nI i, sF h 101 (fun k => if 118 * i ≤ k ∧ k < 118 * i + 118 then h.2.1 100 (k - 118 * i) else h.2.1 101 k)) := by
  have gg : ∀ F, GH (sF h 101 F) := fun F => g
  refine xloop_c (fun c => (nI c, sF h 101 (fun k => if 118 * i ≤ k ∧ k < 118 * i + c then h.2.1 100 (k - 118 * i) else h.2.1 101 k))) _ 118 (by decide) ?_ ?_ ?_
  · intro c hc
    have i1 : 118 * nI i + nI c = nI (118 * i + c) := by simp only [lm118]; exact (nI_add _ _)
    simp only [fX9_image_b19]
    rw [if_neg (by rw [show (118 : Int32) = nI 118 from rfl, le_nI (by omega) (by omega)]; omega), gR99_1 (gg _), Option.bind_some, gR99_0 (gg _), Option.bind_some, aN100 (gg _) (by omega), Option.bind_some, i1, sN101 (gg _) (by omega), Option.bind_some, sF_s, nI_1]
    congr 4
    funext k
    simp only [upd_e, sF_I, if_true]
    by_cases z1 : k = 118 * i + c
    · subst z1; rw [if_pos rfl, if_neg (by omega), if_pos (by omega)]; exact congrArg (h.2.1 100) (by omega)
    · rw [if_neg z1]
      by_cases z2 : 118 * i ≤ k ∧ k < 118 * i + c
      · rw [if_pos z2, if_pos (by omega)]
      · rw [if_neg z2, if_neg (by omega)]
  · simp only [fX9_image_b19]
    rw [if_pos (by decide)]
  · have : (fun k => if 118 * i ≤ k ∧ k < 118 * i + 0 then h.2.1 100 (k - 118 * i) else h.2.1 101 k) = h.2.1 101 := by funext k; rw [if_neg (by omega)]
    rw [this, sF_same]; rfl
theorem from33_e (g : GH h) {i : Nat} (hi : i < 2) : xloop (fX9_from_b33 99 (nI i)) 1000000 (0, h) = some (sF h 100 (fun k => if k < 118 then h.2.1 101 (118 * i + k) else h.2.1 100 k)) := by
  have gg : ∀ F, GH (sF h 100 F) := fun F => g
  refine xloop_c (fun c => (nI c, sF h 100 (fun k => if k < c then h.2.1 101 (118 * i + k) else h.2.1 100 k))) _ 118 (by decide) ?_ ?_ ?_
  · intro c hc
    have i1 : 118 * nI i + nI c = nI (118 * i + c) := by simp only [lm118]; exact (nI_add _ _)
    simp only [fX9_from_b33]
    rw [if_neg (by rw [show (118 : Int32) = nI 118 from rfl, le_nI (by omega) (by omega)]; omega), gR99_0 (gg _), Option.bind_some, gR99_1 (gg _), Option.bind_some, i1, aN101 (gg _) (by omega), Option.bind_some, sN100 (gg _) (by omega), Option.bind_some, sF_s, nI_1]
    congr 4
    funext k
    simp only [upd_e, sF_I, if_true]
    by_cases z1 : k = c
    · subst z1; rw [if_pos rfl, if_neg (by omega), if_pos (by omega)]
    · rw [if_neg z1]
      by_cases z2 : k < c
      · rw [if_pos z2, if_pos (by omega)]
      · rw [if_neg z2, if_neg (by omega)]
  · simp only [fX9_from_b33]
    rw [if_pos (by decide)]
  · have : (fun k => if k < 0 then h.2.1 101 (118 * i + k) else h.2.1 100 k) = h.2.1 100 := by funext k; rw [if_neg (by omega)]
    rw [this, sF_same]; rfl
end MORE
