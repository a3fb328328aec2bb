theorem lg_lt (x y : Int64) : lg_cmp x y < 0 ↔ x.toInt < y.toInt := by
  unfold lg_cmp
  simp only [gt_iff_lt, fa_lt64, fa_eq64]
  split
  · simp; omega
  · split
    · simp; omega
    · simp; omega
theorem lg_gt (x y : Int64) : 0 < lg_cmp x y ↔ y.toInt < x.toInt := by
  unfold lg_cmp
  simp only [gt_iff_lt, fa_lt64, fa_eq64]
  split
  · simp; omega
  · split
    · simp; omega
    · simp; omega
def inb (v lo hi : Int) : Int32 := if v < lo ∨ hi < v then 0 else 1
theorem in_e (v lo hi : Int64) (h : Hp) : fX9_in v lo hi h = some (inb v.toInt lo.toInt hi.toInt) := by
  unfold fX9_in fX9_in_j17 fX9_in_j18 inb
  rw [if_pos (show vp_nar .boolean 0 = 0 from rfl), if_pos (show vp_nar .boolean 1 = 1 from rfl)]
  simp only [lg_lt, lg_gt]
  by_cases h1 : v.toInt < lo.toInt
  · simp [h1]
  · by_cases h2 : hi.toInt < v.toInt
    · simp [h1, h2]
    · simp [h1, h2]
theorem within_e (v lo hi : Int32) (h : Hp) : fX8_within v lo hi h = some (inb v.toInt lo.toInt hi.toInt) := by
  unfold fX8_within fX8_within_j14 fX8_within_j15 inb
  rw [if_pos (show vp_nar .boolean 0 = 0 from rfl), if_pos (show vp_nar .boolean 1 = 1 from rfl)]
  simp only [fa_lt]
  by_cases h1 : v.toInt < lo.toInt
  · simp [h1]
  · by_cases h2 : hi.toInt < v.toInt
    · simp [h1, h2]
    · simp [h1, h2]
theorem inb_0 {v lo hi : Int} : inb v lo hi = 0 ↔ ¬ (lo ≤ v ∧ v ≤ hi) := by
  unfold inb; split <;> simp <;> omega
theorem inb_ok {v lo hi : Int} (h : lo ≤ v ∧ v ≤ hi) : inb v lo hi = 1 := by unfold inb; rw [if_neg (by omega)]
theorem inb_no {v lo hi : Int} (h : ¬ (lo ≤ v ∧ v ≤ hi)) : inb v lo hi = 0 := inb_0.mpr h
theorem i64_i (x : Int32) : x.toInt64.toInt = x.toInt := Int32.toInt_toInt64 x
section SM
variable {h : Hp}
theorem refuseBad_e (g : GH h) : fX8_refuseBad 0 h = some (-2, sF h 0 (upd (h.2.1 0) 9 (h.2.1 0 9 + 1))) := by
  simp only [fX8_refuseBad, gI0 g, pI0 g, Option.bind_some]
theorem refuseNo_e (g : GH h) : fX8_refuseNo 0 h = some (-3, sF h 0 (upd (h.2.1 0) 10 (h.2.1 0 10 + 1))) := by
  simp only [fX8_refuseNo, gI0 g, pI0 g, Option.bind_some]
theorem refuseFull_e (g : GH h) : fX8_refuseFull 0 h = some (-4, sF h 0 (upd (h.2.1 0) 11 (h.2.1 0 11 + 1))) := by
  simp only [fX8_refuseFull, gI0 g, pI0 g, Option.bind_some]
theorem refuseOther_e (g : GH h) : fX8_refuseOtherBad 0 h = some (-10, sF h 0 (upd (h.2.1 0) 9 (h.2.1 0 9 + 1))) := by
  simp only [fX8_refuseOtherBad, gI0 g, pI0 g, Option.bind_some]
theorem bad_e (g : GH h) (t : Int32) : fX9_bad 99 t h = some (t, sF h 103 (upd (h.2.1 103) 0 (h.2.1 103 0 + 1))) := by
  simp [fX9_bad, gR99_3 g, aI103 g, sI103 g]
theorem no_e (g : GH h) : fX9_no 99 h = some (-3, sF h 103 (upd (h.2.1 103) 1 (h.2.1 103 1 + 1))) := by
  simp [fX9_no, gR99_3 g, aI103 g, sI103 g]
theorem full_e (g : GH h) : fX9_full 99 h = some (-4, sF h 103 (upd (h.2.1 103) 2 (h.2.1 103 2 + 1))) := by
  simp [fX9_full, gR99_3 g, aI103 g, sI103 g]
theorem many_e (g : GH h) : fX9_many 99 h = some (h.2.1 100 0) := by
  simp [fX9_many, gR99_0 g, aI100 g]
theorem isIdea_e (g : GH h) (i : Int32) : fX9_isIdea 99 i h = some (inb i.toInt 0 (h.2.1 100 0 - 1).toInt) := by
  simp only [fX9_isIdea, gT99 g, many_e g, Option.bind_some, in_e, i64_i]
  rw [if_pos]
  · rfl
  · unfold inb; split <;> rfl
theorem isStop_e (g : GH h) (i : Int32) : fX9_isStop i h = some (inb i.toInt 0 9) := by
  simp only [fX9_isStop, Option.bind_some, in_e, i64_i]
  rw [if_pos]
  · rfl
  · unfold inb; split <;> rfl
theorem has_e {b : Nat} (g : GH h) (hb : isB b) (i : Int32) : fX0_has b i h = some (inb i.toInt 0 ((h.2.1 b 2).toInt - 1)) := by
  simp only [fX0_has, fX0_has_j16, fX0_has_j17, gIb g hb, Option.bind_some]
  rw [if_pos (show vp_nar .boolean 0 = 0 from rfl), if_pos (show vp_nar .boolean 1 = 1 from rfl)]
  have e0 : (0 : Int32).toInt = 0 := by decide
  unfold inb
  by_cases z : i < 0
  · rw [if_pos z, if_pos]
    rw [fa_lt] at z; omega
  · rw [if_neg z]
    by_cases y : h.2.1 b 2 ≤ i
    · rw [if_pos y, if_pos]
      rw [fa_le] at y; omega
    · rw [if_neg y, if_neg]
      rw [fa_lt] at z; rw [fa_le] at y; omega
end SM
