section KEEP
variable {h : Hp}
def kJ (f : Nat → Int32) (u : Nat) : Nat → Int32 := fun k => if k = 2 then nI (u + 1) else if 78 + 5 * u ≤ k ∧ k < 78 + 5 * u + 5 then f (3 + (k - (78 + 5 * u))) else f k
def kS (f : Nat → Int32) : Nat → Int32 := fun k => if k = 2 then 7 else if 78 ≤ k ∧ k < 113 then f (k + 5) else f k
def kF (f : Nat → Int32) : Nat → Int32 := if nu f = 8 then kJ (kS f) 7 else kJ f (nu f)
theorem u_eq {f : Nat → Int32} (H : WF f) : f 2 = nI (nu f) ∧ nu f ≤ 8 := by
  obtain ⟨⟨-, -, a1, -⟩, -⟩ := H
  have := a1.1; have := a1.2
  exact ⟨nI_n a1.1, by unfold nu; omega⟩
theorem keep51_e (g : GH h) {u : Nat} (hu : u < 8) (e : h.2.1 100 2 = nI u) : fX9_keep_j51 99 h = some (sF h 100 (kJ (h.2.1 100) u)) := by
  have hl : xloop (fX9_keep_b53 99) 1000000 (0, h) = some (99, sF h 100 (fun k => if 78 + 5 * u ≤ k ∧ k < 78 + 5 * u + 5 then h.2.1 100 (3 + (k - (78 + 5 * u))) else h.2.1 100 k)) := by
    refine xloop_c (fun c => (nI c, sF h 100 (fun k => if 78 + 5 * u ≤ k ∧ k < 78 + 5 * u + c then h.2.1 100 (3 + (k - (78 + 5 * u))) else h.2.1 100 k))) _ 5 (by decide) ?_ ?_ ?_
    · intro c hc
      have ht : ¬ ((5 : Int32) ≤ nI c) := by rw [show (5 : Int32) = nI 5 from rfl, le_nI (by omega) (by omega)]; omega
      have h2 : ¬ (78 + 5 * u ≤ 2 ∧ 2 < 78 + 5 * u + c) := by omega
      have h3 : ¬ (78 + 5 * u ≤ 3 + c ∧ 3 + c < 78 + 5 * u + c) := by omega
      have i1 : 78 + 5 * nI u + nI c = nI (78 + 5 * u + c) := by simp only [lm5, la78]; exact (nI_add _ _)
      have i2 : 3 + nI c = nI (3 + c) := by simp only [la3]
      simp only [fX9_keep_b53]
      rw [if_neg ht, gR99_0 (h := sF h 100 _) g, Option.bind_some, Option.bind_some, aI100 (h := sF h 100 _) g (by decide) (by decide), Option.bind_some, Option.bind_some]
      simp only [sF_I, if_true]
      rw [i2, aN100 (h := sF h 100 _) g (by omega), Option.bind_some]
      simp only [sF_I, if_true, t32_2, Int.reduceToNat]
      rw [if_neg h2, if_neg h3, e, i1, sN100 (h := sF h 100 _) g (by omega), Option.bind_some, sF_s, nI_1]
      congr 4
      funext k
      simp only [upd_e, sF_I, if_true]
      by_cases z1 : k = 78 + 5 * u + c
      · subst z1
        rw [if_pos rfl, if_pos (by omega)]; exact congrArg (h.2.1 100) (by omega)
      · rw [if_neg z1]
        by_cases z2 : 78 + 5 * u ≤ k ∧ k < 78 + 5 * u + c
        · rw [if_pos z2, if_pos (by omega)]
        · rw [if_neg z2, if_neg (by omega)]
    · simp only [fX9_keep_b53]
      rw [if_pos (by decide)]
    · have : (fun k => if 78 + 5 * u ≤ k ∧ k < 78 + 5 * u + 0 then h.2.1 100 (3 + (k - (78 + 5 * u))) else h.2.1 100 k) = h.2.1 100 := by funext k; rw [if_neg (by omega)]
      rw [this, sF_same]; rfl
  simp only [fX9_keep_j51, hl, Option.bind_some]
  have h2 : ¬ (78 + 5 * u ≤ 2 ∧ 2 < 78 + 5 * u + 5) := by omega
  rw [gR99_0 (h := sF h 100 _) g, Option.bind_some, aI100 (h := sF h 100 _) g (by decide) (by decide), Option.bind_some, sI100 (h := sF h 100 _) g (by decide) (by decide), Option.bind_some, sF_s]
  simp only [sF_I, if_true, t32_2, Int.reduceToNat]
  rw [if_neg h2, e, nI_1]
  rfl
theorem keep_e (g : GH h) (W : WF (h.2.1 100)) : fX9_keep 99 h = some (sF h 100 (kF (h.2.1 100))) := by
  obtain ⟨n0, n8⟩ := u_eq W
  have hl : xloop (fX9_keep_b13 99) 1000000 (0, h) = some (99, sF h 100 (fun k => if 78 ≤ k ∧ k < 78 + 35 then h.2.1 100 (k + 5) else h.2.1 100 k)) := by
    refine xloop_c (fun c => (nI c, sF h 100 (fun k => if 78 ≤ k ∧ k < 78 + c then h.2.1 100 (k + 5) else h.2.1 100 k))) _ 35 (by decide) ?_ ?_ ?_
    · intro c hc
      have ht : ¬ ((35 : Int32) ≤ nI c) := by rw [show (35 : Int32) = nI 35 from rfl, le_nI (by omega) (by omega)]; omega
      have i1 : 78 + nI c = nI (78 + c) := by simp only [la78]
      have i2 : 83 + nI c = nI (83 + c) := by simp only [la83]
      simp only [fX9_keep_b13]
      rw [if_neg ht, gR99_0 (h := sF h 100 _) g, Option.bind_some, Option.bind_some, i2, aN100 (h := sF h 100 _) g (by omega), Option.bind_some, i1, sN100 (h := sF h 100 _) g (by omega), Option.bind_some, sF_s, nI_1]
      congr 4
      funext k
      simp only [upd_e, sF_I, if_true]
      by_cases z1 : k = 78 + c
      · subst z1
        rw [if_pos rfl, if_neg (by omega), if_pos (by omega)]; exact congrArg (h.2.1 100) (by omega)
      · rw [if_neg z1]
        by_cases z2 : 78 ≤ k ∧ k < 78 + c
        · rw [if_pos z2, if_pos (by omega)]
        · rw [if_neg z2, if_neg (by omega)]
    · simp only [fX9_keep_b13]
      rw [if_pos (by decide)]
    · have : (fun k => if 78 ≤ k ∧ k < 78 + 0 then h.2.1 100 (k + 5) else h.2.1 100 k) = h.2.1 100 := by funext k; rw [if_neg (by omega)]
      rw [this, sF_same]; rfl
  unfold kF
  by_cases q : nu (h.2.1 100) = 8
  · rw [if_pos q]
    rw [q] at n0
    have n0' : h.2.1 100 2 = 8 := n0
    simp only [fX9_keep]
    rw [gR99_0 g, Option.bind_some, aI100 g (by decide) (by decide), Option.bind_some]
    simp only [t32_2, Int.reduceToNat]
    rw [if_pos n0', hl, Option.bind_some]
    simp only []
    rw [gR99_0 (h := sF h 100 _) g, Option.bind_some, sI100 (h := sF h 100 _) g (by decide) (by decide), Option.bind_some, sF_s]
    simp only [t32_2, Int.reduceToNat, sF_I, if_true]
    have hk : (upd (fun k => if 78 ≤ k ∧ k < 78 + 35 then h.2.1 100 (k + 5) else h.2.1 100 k) 2 7) = kS (h.2.1 100) := by
      funext k; simp only [upd_e, kS]
    rw [hk, keep51_e (h := sF h 100 _) g (u := 7) (by decide) (by simp [sF_I, kS]; rfl), sF_s]
    simp only [sF_I, if_true]
  · rw [if_neg q]
    have n8' : ¬ h.2.1 100 2 = 8 := by rw [n0]; exact nI_ne (b := 8) (by omega) (by decide) q
    simp only [fX9_keep]
    rw [gR99_0 g, Option.bind_some, aI100 g (by decide) (by decide), Option.bind_some]
    simp only [t32_2, Int.reduceToNat]
    rw [if_neg n8', keep51_e g (by omega) n0]
end KEEP
