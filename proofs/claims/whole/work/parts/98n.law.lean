section LAW
variable {h : Hp}
theorem op_case {ρ : Type} {c : Option (Int32 × Hp)} {m : Hp → Option (Int32 × Hp)} {s : Int32} {E : Int32 × Hp → Int32 × Hp → Option ((Int32 × Hp) ⊕ ρ)} (H : Inv h) (O : Op c m) : ∃ h2, ((xat h 0 (8, 12) c).bind fun q => (xat q.2 99 (9, 18) (m q.2)).bind fun q' => if q.1 = q'.1 then some (Sum.inl (s, q'.2)) else E q q') = some (Sum.inl (s, h2)) ∧ Inv h2 := by
  obtain ⟨r, h1, h2, e1, g1, e2, I2⟩ := O
  refine ⟨h2, ?_, I2⟩
  rw [gT0 H.1, e1, Option.bind_some, gT99 g1, e2, Option.bind_some]
  exact if_pos rfl
theorem lg_self (r : Int64) : lg_cmp r r = 0 := by
  have a := lg_lt r r
  have b := lg_gt r r
  have a' : ¬ lg_cmp r r < 0 := fun z => by have := a.mp z; omega
  have b' : ¬ 0 < lg_cmp r r := fun z => by have := b.mp z; omega
  rcases fa_three (lg_cmp r r) 0 with z | z | z
  · exact absurd z a'
  · exact z
  · exact absurd z b'
theorem op_caseL {ρ : Type} {c : Option (Int64 × Hp)} {m : Hp → Option (Int64 × Hp)} {s : Int32} {E : Int64 × Hp → Int64 × Hp → Option ((Int32 × Hp) ⊕ ρ)} (H : Inv h) (O : OpL c m) : ∃ h2, ((xat h 0 (8, 12) c).bind fun q => (xat q.2 99 (9, 18) (m q.2)).bind fun q' => if lg_cmp q.1 q'.1 = 0 then some (Sum.inl (s, q'.2)) else E q q') = some (Sum.inl (s, h2)) ∧ Inv h2 := by
  obtain ⟨r, h1, h2, e1, g1, e2, I2⟩ := O
  refine ⟨h2, ?_, I2⟩
  rw [gT0 H.1, e1, Option.bind_some, gT99 g1, e2, Option.bind_some]
  exact if_pos (lg_self r)
theorem op_caseD {ρ : Type} {s : Int32} {E : Int64 × Hp → Int64 → Option ((Int32 × Hp) ⊕ ρ)} (H : Inv h) : ∃ h2, ((xat h 0 (8, 12) (fX8_digest 0 h)).bind fun q => (xat q.2 99 (9, 18) (fX9_digest 99 q.2)).bind fun x => if lg_cmp q.1 x = 0 then some (Sum.inl (s, q.2)) else E q x) = some (Sum.inl (s, h2)) ∧ Inv h2 := by
  obtain ⟨d, e1, e2⟩ := op_digest H
  refine ⟨h, ?_, H⟩
  rw [gT0 H.1, e1, Option.bind_some, gT99 H.1, e2, Option.bind_some]
  exact if_pos (lg_self d)
theorem xsx_e {η : xEnv} {j : Nat} (hL : η.2.2.2.2.1 ≤ 320) (hj : j < η.2.2.2.2.1) : xsx η (nI j) = some (η.2.2.2.2.2 j) := by
  unfold xsx
  rw [if_pos ⟨by rw [nI_toInt (by omega)]; omega, by rw [nI_toInt (by omega)]; omega⟩, nI_c (by omega)]
set_option maxHeartbeats 4000000 in
theorem law_step {η : xEnv} {j : Nat} (hL : η.2.2.2.2.1 ≤ 320) (hj : j + 5 ≤ η.2.2.2.2.1) (H : Inv h) : ∃ h2, fL_law_b18 η 100 0 99 (nI j, h) = some (Sum.inl (nI (j + 5), h2)) ∧ Inv h2 := by
  have x0 := xsx_e hL (j := j) (by omega)
  have x1 := xsx_e hL (j := j + 1) (by omega)
  have x2 := xsx_e hL (j := j + 2) (by omega)
  have x3 := xsx_e hL (j := j + 3) (by omega)
  have x4 := xsx_e hL (j := j + 4) (by omega)
  have cd : ¬ ((Int32.ofNat η.2.2.2.2.1) - 5 : Int32) < nI j := by
    have e : (Int32.ofNat η.2.2.2.2.1) - 5 = nI (η.2.2.2.2.1 - 5) := by
      show nI η.2.2.2.2.1 - nI 5 = _
      exact pk_sub (by omega)
    rw [e, nI_ltI (by omega) (by omega)]; omega
  simp only [fL_law_b18, fL_law_j1078, lb1, lb2, lb3, lb4, lb5, x0, x1, x2, x3, x4, Option.bind_some]
  rw [if_neg cd]
  generalize (η.2.2.2.2.2 j &&& 63) = cs
  generalize η.2.2.2.2.2 (j + 1) = v1
  generalize η.2.2.2.2.2 (j + 2) = v2
  generalize η.2.2.2.2.2 (j + 3) = v3
  generalize η.2.2.2.2.2 (j + 4) = v4
  by_cases c0 : cs = 0
  · rw [if_pos c0]
    exact op_case H (op_bus H v1)
  rw [if_neg c0]
  by_cases c1 : cs = 1
  · rw [if_pos c1]
    exact op_case H (op_room H v1)
  rw [if_neg c1]
  by_cases c2 : cs = 2
  · rw [if_pos c2]
    exact op_case H (op_bridge H v1 v2)
  rw [if_neg c2]
  by_cases c3 : cs = 3
  · rw [if_pos c3]
    exact op_case H (op_idea H v1 v2 v3 v4)
  rw [if_neg c3]
  by_cases c4 : cs = 4
  · rw [if_pos c4]
    exact op_case H (op_quarrel H v1 v2 v3)
  rw [if_neg c4]
  by_cases c5 : cs = 5
  · rw [if_pos c5]
    exact op_case H (op_type H v1)
  rw [if_neg c5]
  by_cases c6 : cs = 6
  · rw [if_pos c6]
    exact op_case H (op_clear H )
  rw [if_neg c6]
  by_cases c7 : cs = 7
  · rw [if_pos c7]
    exact op_case H (op_read H )
  rw [if_neg c7]
  by_cases c8 : cs = 8
  · rw [if_pos c8]
    exact op_case H (op_drive H v1)
  rw [if_neg c8]
  by_cases c9 : cs = 9
  · rw [if_pos c9]
    exact op_case H (op_puts H v1)
  rw [if_neg c9]
  by_cases c10 : cs = 10
  · rw [if_pos c10]
    exact op_case H (op_undo H )
  rw [if_neg c10]
  by_cases c11 : cs = 11
  · rw [if_pos c11]
    exact op_case H (op_of H v1 v2)
  rw [if_neg c11]
  by_cases c12 : cs = 12
  · rw [if_pos c12]
    exact op_case H (op_sways H v1 v2 v3)
  rw [if_neg c12]
  by_cases c13 : cs = 13
  · rw [if_pos c13]
    exact op_case H (op_now H v1)
  rw [if_neg c13]
  by_cases c14 : cs = 14
  · rw [if_pos c14]
    exact op_case H (op_then H v1 v2)
  rw [if_neg c14]
  by_cases c15 : cs = 15
  · rw [if_pos c15]
    exact op_case H (op_end H v1)
  rw [if_neg c15]
  by_cases c16 : cs = 16
  · rw [if_pos c16]
    exact op_case H (op_decks H v1)
  rw [if_neg c16]
  by_cases c17 : cs = 17
  · rw [if_pos c17]
    exact op_case H (op_better H )
  rw [if_neg c17]
  by_cases c18 : cs = 18
  · rw [if_pos c18]
    exact op_case H (op_raise H )
  rw [if_neg c18]
  by_cases c19 : cs = 19
  · rw [if_pos c19]
    exact op_case H (op_upstairs H v1 v2 v3)
  rw [if_neg c19]
  by_cases c20 : cs = 20
  · rw [if_pos c20]
    exact op_case H (op_note H v1 v2 v3 v4)
  rw [if_neg c20]
  by_cases c21 : cs = 21
  · rw [if_pos c21]
    exact op_case H (op_forget H )
  rw [if_neg c21]
  by_cases c22 : cs = 22
  · rw [if_pos c22]
    exact op_case H (op_is H v1)
  rw [if_neg c22]
  by_cases c23 : cs = 23
  · rw [if_pos c23]
    exact op_case H (op_look H v1)
  rw [if_neg c23]
  by_cases c24 : cs = 24
  · rw [if_pos c24]
    exact op_case H (op_fare H v1)
  rw [if_neg c24]
  by_cases c25 : cs = 25
  · rw [if_pos c25]
    exact op_case H (op_two H v1 v2 v3)
  rw [if_neg c25]
  by_cases c26 : cs = 26
  · rw [if_pos c26]
    exact op_case H (op_bell H v1)
  rw [if_neg c26]
  by_cases c27 : cs = 27
  · rw [if_pos c27]
    exact op_case H (op_days H v1 v2)
  rw [if_neg c27]
  by_cases c28 : cs = 28
  · rw [if_pos c28]
    exact op_caseL H (op_part H v1)
  rw [if_neg c28]
  by_cases c29 : cs = 29
  · rw [if_pos c29]
    exact op_case H (op_image H v1)
  rw [if_neg c29]
  by_cases c30 : cs = 30
  · rw [if_pos c30]
    exact op_case H (op_from H v1)
  rw [if_neg c30]
  by_cases c31 : cs = 31
  · rw [if_pos c31]
    exact op_case H (op_status H v1)
  rw [if_neg c31]
  by_cases c32 : cs = 32
  · rw [if_pos c32]
    exact op_case H (op_count H v1)
  rw [if_neg c32]
  by_cases c33 : cs = 33
  · rw [if_pos c33]
    exact op_caseD H
  rw [if_neg c33]
  exact ⟨h, rfl, H⟩
theorem law_end {η : xEnv} {j : Nat} (hL : η.2.2.2.2.1 ≤ 320) (hj : η.2.2.2.2.1 < j + 5) (hj2 : j ≤ 320) : ∃ r, fL_law_b18 η 100 0 99 (nI j, h) = some (Sum.inr r) ∧ r = (Sum.inr (Sum.inr (Sum.inr (Sum.inr (Sum.inr (Sum.inr (Sum.inr (Sum.inr (Sum.inr (Sum.inr (Sum.inr (Sum.inr (Sum.inr (Sum.inr (Sum.inr (Sum.inr (Sum.inr (Sum.inr (Sum.inr (Sum.inr (Sum.inr (Sum.inr (Sum.inr (Sum.inr (Sum.inr (Sum.inr (Sum.inr (Sum.inr (Sum.inr (Sum.inr (Sum.inr (Sum.inr (Sum.inr (Sum.inr h)))))))))))))))))))))))))))))))))) := by
  have cd : ((Int32.ofNat η.2.2.2.2.1) - 5 : Int32) < nI j := by
    show nI η.2.2.2.2.1 - nI 5 < nI j
    rw [fa_lt, pk_sub_toInt (by omega) (by omega), nI_toInt (by omega)]
    omega
  refine ⟨_, ?_, rfl⟩
  simp only [fL_law_b18]
  rw [if_pos cd]
end LAW
