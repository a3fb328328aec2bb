section OPS13
variable {h : Hp}
theorem sF_c (h : Hp) {a b : Nat} (hab : a ≠ b) (F G : Nat → Int32) : sF (sF h a F) b G = sF (sF h b G) a F := by
  unfold sF; congr 2; funext c
  by_cases z : c = a
  · subst z; simp [hab]
  · simp [z]
theorem tr_eq {f on hgt hgt' : Nat → Int32} {sk sk' : Nat → Bool} {k0 : Nat} {y : (Nat × Nat × Nat) × Int32} (H : ∀ k, k < 10 → hgt k = hgt' k ∧ sk k = sk' k) : ∀ m, k0 + m ≤ 10 → tr f on hgt sk k0 y m = tr f on hgt' sk' k0 y m
  | 0, _ => rfl
  | m + 1, hm => by
    obtain ⟨h1, h2⟩ := H (k0 + m) (by omega)
    simp only [tr]
    rw [tr_eq H m (by omega), h1, h2]
theorem hz {x : Int32} (r : rg x 0 9) : decide (x = 0) = decide (x ≤ 0) := by
  have := r.1
  by_cases z : x = 0
  · subst z; decide
  · have : ¬ x ≤ 0 := by
      intro q; rw [fa_le] at q; apply z; rw [fa_eq]; have : (0 : Int32).toInt = 0 := rfl; omega
    simp [z, this]
theorem drive67_e {v : Int32} (g : GH h) : xloop (fX9_drive_b67 99 v) 1000000 (0, h) = some (99, v, sF h 100 (fun k => if 3 ≤ k ∧ k < 3 + 5 then h.2.1 104 k else h.2.1 100 k)) := by
  refine xloop_c (fun c => (nI c, sF h 100 (fun k => if 3 ≤ k ∧ k < 3 + c then h.2.1 104 k else h.2.1 100 k))) _ 5 (by decide) ?_ ?_ ?_
  · intro c hc
    have gg : ∀ F, GH (sF h 100 F) := fun F => g
    simp only [fX9_drive_b67]
    rw [if_neg (by rw [show (5 : Int32) = nI 5 from rfl, le_nI (by omega) (by omega)]; omega), gR99_0 (gg _), Option.bind_some, gR99_6 (gg _), Option.bind_some, la3, aN104 (gg _) (by omega), Option.bind_some, sN100 (gg _) (by omega), Option.bind_some, sF_s, nI_1]
    congr 4
    funext k
    simp only [upd_e, sF_I, if_true]
    by_cases z1 : k = 3 + c
    · subst z1; rw [if_pos rfl, if_neg (by omega), if_pos (by omega)]
    · rw [if_neg z1]
      by_cases z2 : 3 ≤ k ∧ k < 3 + c
      · rw [if_pos z2, if_pos (by omega)]
      · rw [if_neg z2, if_neg (by omega)]
  · simp only [fX9_drive_b67]
    rw [if_pos (by decide)]
  · have : (fun k => if 3 ≤ k ∧ k < 3 + 0 then h.2.1 104 k else h.2.1 100 k) = h.2.1 100 := by funext k; rw [if_neg (by omega)]
    rw [this, sF_same]; rfl
end OPS13
