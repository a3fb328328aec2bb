section INIT
/-- what the first heap shows, by trial -/
def iniB (h : Hp) : Bool := decide (h.1 = SH) && ([1, 23, 44, 78].all fun b => decide (h.2.2.2 b 1 = some (b + 1) ∧ h.2.2.2 b 3 = some (b + 2) ∧ h.2.2.2 b 4 = some (b + 3) ∧ h.2.2.2 b 5 = some (b + 4) ∧ h.2.2.2 b 6 = some (b + 5) ∧ h.2.2.2 b 7 = some (b + 6) ∧ h.2.2.2 b 9 = some (b + 7) ∧ h.2.2.2 b 10 = some (b + 8) ∧ h.2.2.2 b 11 = some (b + 9) ∧ h.2.2.2 b 12 = some (b + 10) ∧ h.2.2.2 b 13 = some (b + 11) ∧ h.2.2.2 b 14 = some (b + 12)) && allB (fun u => decide (h.2.2.2 (b + 12) u = some (b + 13 + u))) 8)
def iniC (h : Hp) : Bool := decide (h.2.2.2 0 0 = some 1 ∧ h.2.2.2 0 1 = some 22 ∧ h.2.2.2 0 2 = some 65 ∧ h.2.2.2 0 3 = some 66 ∧ h.2.2.2 0 4 = some 69 ∧ h.2.2.2 0 5 = some 71 ∧ h.2.2.2 0 6 = some 72 ∧ h.2.2.2 0 7 = some 75 ∧ h.2.2.2 0 8 = some 76) && decide (h.2.2.2 22 0 = some 23 ∧ h.2.2.2 22 1 = some 44 ∧ h.2.2.2 66 0 = some 67 ∧ h.2.2.2 66 1 = some 68 ∧ h.2.2.2 69 0 = some 70 ∧ h.2.2.2 72 0 = some 73 ∧ h.2.2.2 72 1 = some 74 ∧ h.2.2.2 76 0 = some 77 ∧ h.2.2.2 76 2 = some 78) && decide (h.2.2.2 99 0 = some 100 ∧ h.2.2.2 99 1 = some 101 ∧ h.2.2.2 99 2 = some 102 ∧ h.2.2.2 99 3 = some 103 ∧ h.2.2.2 99 6 = some 104 ∧ h.2.2.2 99 7 = some 105 ∧ h.2.2.2 99 8 = some 106 ∧ h.2.2.2 99 9 = some 107 ∧ h.2.2.2 99 10 = some 108 ∧ h.2.2.2 99 16 = some 109 ∧ h.2.2.2 99 17 = some 110)
def iniD (h : Hp) : Bool := allB (fun k => decide (h.2.1 100 k = f0w 4 k)) 78 && decide (h.2.1 1 2 = 0 ∧ h.2.1 1 8 = 0 ∧ h.2.1 1 15 = 0 ∧ h.2.1 1 0 = 4) && allB (fun c => decide (h.2.1 12 c = 0)) 5 && allB (fun c => decide (h.2.1 2 c = 0)) 10 && decide (h.2.1 65 0 = 0 ∧ h.2.1 65 1 = 0 ∧ h.2.1 102 0 = 0 ∧ h.2.1 102 1 = 0) && decide (h.2.1 76 1 = 0 ∧ h.2.1 99 11 = 0) && decide (h.2.2.1 75 0 = h.2.2.1 99 4 ∧ h.2.2.1 75 1 = h.2.2.1 99 5) && decide (h.2.1 0 9 = 0 ∧ h.2.1 0 10 = 0 ∧ h.2.1 0 11 = 0 ∧ h.2.1 103 0 = 0 ∧ h.2.1 103 1 = 0 ∧ h.2.1 103 2 = 0)
def hpA : Option Hp := fX8_init 0 (xadd xh0 (8, 12))
def hpB : Option Hp := hpA.bind fun h2 => fX9_init 99 (xadd h2 (9, 18))
set_option maxRecDepth 100000 in
theorem hpA_ok : hpA.map (fun h => h.1.length) = some 99 := by decide +kernel
set_option maxRecDepth 100000 in
theorem hpB_B : hpB.map iniB = some true := by decide +kernel
set_option maxRecDepth 100000 in
theorem hpB_C : hpB.map iniC = some true := by decide +kernel
set_option maxRecDepth 100000 in
theorem hpB_D : hpB.map iniD = some true := by decide +kernel
theorem ini_Inv {h : Hp} (b : iniB h = true) (c : iniC h = true) (d : iniD h = true) : Inv h := by
  simp only [iniB, Bool.and_eq_true, decide_eq_true_eq, List.all_cons, List.all_nil, Bool.and_true] at b
  simp only [iniC, Bool.and_eq_true, decide_eq_true_eq] at c
  simp only [iniD, Bool.and_eq_true, decide_eq_true_eq, allB_spec] at d
  obtain ⟨b0, b1, b23, b44, b78⟩ := b
  obtain ⟨⟨c1, c2⟩, c3⟩ := c
  obtain ⟨⟨⟨⟨⟨⟨⟨d1, d2⟩, d3⟩, d4⟩, d5⟩, d6⟩, d7⟩, d8⟩ := d
  have g : GH h := by
    refine ⟨b0, ?_, c1, c2, c3⟩
    intro k hk
    rcases hk with rfl | rfl | rfl | rfl
    · exact b1.1
    · exact b23.1
    · exact b44.1
    · exact b78.1
  have ps : ∀ k, allB (fun u => decide (h.2.2.2 (k + 12) u = some (k + 13 + u))) 8 = true → PS h k := by
    intro k hk
    rw [allB_spec] at hk
    exact ⟨fun u => u, fun u hu => ⟨hu, by have := hk u hu; simp only [decide_eq_true_eq] at this; exact this⟩, fun u v _ _ e => e⟩
  have e : ∀ k, k < 78 → h.2.1 100 k = f0w 4 k := d1
  have W0 : WF (f0w 4) := f0w_WF (by unfold rg; decide)
  have R0 : RB h 1 (f0w 4) := by
    obtain ⟨π, p1, p2⟩ := ps 1 b1.2
    refine ⟨⟨d2.1, d2.2.1, d2.2.2.1, d2.2.2.2⟩, ?_, ?_, ?_, ?_, π, p1, p2, ?_⟩
    · intro j hj; rw [f0w_0 (by omega)]; exact d3 j hj
    · intro j hj; rw [f0w_0 (by omega)]; exact d4 j hj
    · intro i hi; rw [f0w_n.1] at hi; omega
    · intro q hq; rw [f0w_n.2.1] at hq; omega
    · intro u j h8 hu; rw [f0w_n.2.2] at hu; omega
  obtain ⟨R1, W1⟩ := R78 e R0 ⟨W0, f0w_n.2.2⟩
  refine ⟨g, R1, W1, ⟨⟨d5.1.trans d5.2.2.1.symm, Or.inl d5.2.2.1⟩, ⟨d5.2.1.trans d5.2.2.2.symm, Or.inl d5.2.2.2⟩⟩, ⟨d6.1.trans d6.2.symm, ?_, ?_⟩, d7, ⟨d8.1.trans d8.2.2.2.1.symm, d8.2.1.trans d8.2.2.2.2.1.symm, d8.2.2.1.trans d8.2.2.2.2.2.symm⟩, ps 23 b23.2, ps 44 b44.2, ps 78 b78.2⟩
  · rw [d6.2]; unfold rg; decide
  · intro j hj; rw [d6.2] at hj; simp at hj
theorem first : ∃ h2 h4, fX8_init 0 (xadd xh0 (8, 12)) = some h2 ∧ h2.1.length = 99 ∧ fX9_init 99 (xadd h2 (9, 18)) = some h4 ∧ Inv h4 := by
  have a := hpA_ok
  cases e : hpA with
  | none => rw [e] at a; simp at a
  | some h2 =>
    rw [e] at a
    simp only [Option.map_some, Option.some.injEq] at a
    have eB : hpB = fX9_init 99 (xadd h2 (9, 18)) := by unfold hpB; rw [e, Option.bind_some]
    have b := hpB_B
    have c := hpB_C
    have d := hpB_D
    rw [eB] at b c d
    cases e4 : fX9_init 99 (xadd h2 (9, 18)) with
    | none => rw [e4] at b; simp at b
    | some h4 =>
      rw [e4] at b c d
      simp only [Option.map_some, Option.some.injEq] at b c d
      exact ⟨h2, h4, e, a, e4, ini_Inv b c d⟩
end INIT
