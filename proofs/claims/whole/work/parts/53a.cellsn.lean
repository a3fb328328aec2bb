/-! array cells at a number -/
section CELLSN
variable {h : Hp}
theorem aN2 (g : GH h) {i : Nat} (h1 : i < 10) : xaI h 2 10 (nI i) = some (h.2.1 2 i) := e_aI (gs2 g) rfl h1 (by decide)
theorem sN2 (g : GH h) {i : Nat} {x : Int32} (h1 : i < 10) : xsI h 2 (nI i) x = some (sF h 2 (upd (h.2.1 2) i x)) := e_sI (gs2 g) rfl h1 (by decide)
theorem aN3 (g : GH h) {i : Nat} (h1 : i < 7) : xaI h 3 10 (nI i) = some (h.2.1 3 i) := e_aI (gs3 g) rfl h1 (by decide)
theorem sN3 (g : GH h) {i : Nat} {x : Int32} (h1 : i < 7) : xsI h 3 (nI i) x = some (sF h 3 (upd (h.2.1 3) i x)) := e_sI (gs3 g) rfl h1 (by decide)
theorem aN4 (g : GH h) {i : Nat} (h1 : i < 7) : xaI h 4 10 (nI i) = some (h.2.1 4 i) := e_aI (gs4 g) rfl h1 (by decide)
theorem sN4 (g : GH h) {i : Nat} {x : Int32} (h1 : i < 7) : xsI h 4 (nI i) x = some (sF h 4 (upd (h.2.1 4) i x)) := e_sI (gs4 g) rfl h1 (by decide)
theorem aN5 (g : GH h) {i : Nat} (h1 : i < 7) : xaI h 5 10 (nI i) = some (h.2.1 5 i) := e_aI (gs5 g) rfl h1 (by decide)
theorem sN5 (g : GH h) {i : Nat} {x : Int32} (h1 : i < 7) : xsI h 5 (nI i) x = some (sF h 5 (upd (h.2.1 5) i x)) := e_sI (gs5 g) rfl h1 (by decide)
theorem aN6 (g : GH h) {i : Nat} (h1 : i < 7) : xaI h 6 10 (nI i) = some (h.2.1 6 i) := e_aI (gs6 g) rfl h1 (by decide)
theorem sN6 (g : GH h) {i : Nat} {x : Int32} (h1 : i < 7) : xsI h 6 (nI i) x = some (sF h 6 (upd (h.2.1 6) i x)) := e_sI (gs6 g) rfl h1 (by decide)
theorem aN7 (g : GH h) {i : Nat} (h1 : i < 7) : xaI h 7 10 (nI i) = some (h.2.1 7 i) := e_aI (gs7 g) rfl h1 (by decide)
theorem sN7 (g : GH h) {i : Nat} {x : Int32} (h1 : i < 7) : xsI h 7 (nI i) x = some (sF h 7 (upd (h.2.1 7) i x)) := e_sI (gs7 g) rfl h1 (by decide)
theorem aN8 (g : GH h) {i : Nat} (h1 : i < 6) : xaI h 8 10 (nI i) = some (h.2.1 8 i) := e_aI (gs8 g) rfl h1 (by decide)
theorem sN8 (g : GH h) {i : Nat} {x : Int32} (h1 : i < 6) : xsI h 8 (nI i) x = some (sF h 8 (upd (h.2.1 8) i x)) := e_sI (gs8 g) rfl h1 (by decide)
theorem aN9 (g : GH h) {i : Nat} (h1 : i < 6) : xaI h 9 10 (nI i) = some (h.2.1 9 i) := e_aI (gs9 g) rfl h1 (by decide)
theorem sN9 (g : GH h) {i : Nat} {x : Int32} (h1 : i < 6) : xsI h 9 (nI i) x = some (sF h 9 (upd (h.2.1 9) i x)) := e_sI (gs9 g) rfl h1 (by decide)
theorem aN10 (g : GH h) {i : Nat} (h1 : i < 6) : xaI h 10 10 (nI i) = some (h.2.1 10 i) := e_aI (gs10 g) rfl h1 (by decide)
theorem sN10 (g : GH h) {i : Nat} {x : Int32} (h1 : i < 6) : xsI h 10 (nI i) x = some (sF h 10 (upd (h.2.1 10) i x)) := e_sI (gs10 g) rfl h1 (by decide)
theorem aN11 (g : GH h) {i : Nat} (h1 : i < 6) : xaI h 11 10 (nI i) = some (h.2.1 11 i) := e_aI (gs11 g) rfl h1 (by decide)
theorem sN11 (g : GH h) {i : Nat} {x : Int32} (h1 : i < 6) : xsI h 11 (nI i) x = some (sF h 11 (upd (h.2.1 11) i x)) := e_sI (gs11 g) rfl h1 (by decide)
theorem aN65 (g : GH h) {i : Nat} (h1 : i < 2) : xaI h 65 11 (nI i) = some (h.2.1 65 i) := e_aI (gs65 g) rfl h1 (by decide)
theorem sZN65 (g : GH h) {i : Nat} {x : Int32} (h1 : i < 2) : xsZ h 65 (nI i) x = some (sF h 65 (upd (h.2.1 65) i (vp_nar .boolean x))) := e_sZ (gs65 g) rfl h1 (by decide)
theorem aN68 (g : GH h) {i : Nat} (h1 : i < 7) : xaI h 68 10 (nI i) = some (h.2.1 68 i) := e_aI (gs68 g) rfl h1 (by decide)
theorem sN68 (g : GH h) {i : Nat} {x : Int32} (h1 : i < 7) : xsI h 68 (nI i) x = some (sF h 68 (upd (h.2.1 68) i x)) := e_sI (gs68 g) rfl h1 (by decide)
theorem aN70 (g : GH h) {i : Nat} (h1 : i < 7) : xaI h 70 10 (nI i) = some (h.2.1 70 i) := e_aI (gs70 g) rfl h1 (by decide)
theorem sN70 (g : GH h) {i : Nat} {x : Int32} (h1 : i < 7) : xsI h 70 (nI i) x = some (sF h 70 (upd (h.2.1 70) i x)) := e_sI (gs70 g) rfl h1 (by decide)
theorem aN73 (g : GH h) {i : Nat} (h1 : i < 100) : xaI h 73 10 (nI i) = some (h.2.1 73 i) := e_aI (gs73 g) rfl h1 (by decide)
theorem sN73 (g : GH h) {i : Nat} {x : Int32} (h1 : i < 100) : xsI h 73 (nI i) x = some (sF h 73 (upd (h.2.1 73) i x)) := e_sI (gs73 g) rfl h1 (by decide)
theorem aN74 (g : GH h) {i : Nat} (h1 : i < 100) : xaI h 74 10 (nI i) = some (h.2.1 74 i) := e_aI (gs74 g) rfl h1 (by decide)
theorem sN74 (g : GH h) {i : Nat} {x : Int32} (h1 : i < 100) : xsI h 74 (nI i) x = some (sF h 74 (upd (h.2.1 74) i x)) := e_sI (gs74 g) rfl h1 (by decide)
theorem aN77 (g : GH h) {i : Nat} (h1 : i < 150) : xaI h 77 10 (nI i) = some (h.2.1 77 i) := e_aI (gs77 g) rfl h1 (by decide)
theorem sN77 (g : GH h) {i : Nat} {x : Int32} (h1 : i < 150) : xsI h 77 (nI i) x = some (sF h 77 (upd (h.2.1 77) i x)) := e_sI (gs77 g) rfl h1 (by decide)
theorem aN100 (g : GH h) {i : Nat} (h1 : i < 118) : xaI h 100 10 (nI i) = some (h.2.1 100 i) := e_aI (gs100 g) rfl h1 (by decide)
theorem sN100 (g : GH h) {i : Nat} {x : Int32} (h1 : i < 118) : xsI h 100 (nI i) x = some (sF h 100 (upd (h.2.1 100) i x)) := e_sI (gs100 g) rfl h1 (by decide)
theorem aN101 (g : GH h) {i : Nat} (h1 : i < 236) : xaI h 101 10 (nI i) = some (h.2.1 101 i) := e_aI (gs101 g) rfl h1 (by decide)
theorem sN101 (g : GH h) {i : Nat} {x : Int32} (h1 : i < 236) : xsI h 101 (nI i) x = some (sF h 101 (upd (h.2.1 101) i x)) := e_sI (gs101 g) rfl h1 (by decide)
theorem aN102 (g : GH h) {i : Nat} (h1 : i < 2) : xaI h 102 11 (nI i) = some (h.2.1 102 i) := e_aI (gs102 g) rfl h1 (by decide)
theorem sZN102 (g : GH h) {i : Nat} {x : Int32} (h1 : i < 2) : xsZ h 102 (nI i) x = some (sF h 102 (upd (h.2.1 102) i (vp_nar .boolean x))) := e_sZ (gs102 g) rfl h1 (by decide)
theorem aN103 (g : GH h) {i : Nat} (h1 : i < 3) : xaI h 103 10 (nI i) = some (h.2.1 103 i) := e_aI (gs103 g) rfl h1 (by decide)
theorem sN103 (g : GH h) {i : Nat} {x : Int32} (h1 : i < 3) : xsI h 103 (nI i) x = some (sF h 103 (upd (h.2.1 103) i x)) := e_sI (gs103 g) rfl h1 (by decide)
theorem aN104 (g : GH h) {i : Nat} (h1 : i < 54) : xaI h 104 10 (nI i) = some (h.2.1 104 i) := e_aI (gs104 g) rfl h1 (by decide)
theorem sN104 (g : GH h) {i : Nat} {x : Int32} (h1 : i < 54) : xsI h 104 (nI i) x = some (sF h 104 (upd (h.2.1 104) i x)) := e_sI (gs104 g) rfl h1 (by decide)
theorem aN105 (g : GH h) {i : Nat} (h1 : i < 7) : xaI h 105 10 (nI i) = some (h.2.1 105 i) := e_aI (gs105 g) rfl h1 (by decide)
theorem sN105 (g : GH h) {i : Nat} {x : Int32} (h1 : i < 7) : xsI h 105 (nI i) x = some (sF h 105 (upd (h.2.1 105) i x)) := e_sI (gs105 g) rfl h1 (by decide)
theorem aN106 (g : GH h) {i : Nat} (h1 : i < 100) : xaI h 106 10 (nI i) = some (h.2.1 106 i) := e_aI (gs106 g) rfl h1 (by decide)
theorem sN106 (g : GH h) {i : Nat} {x : Int32} (h1 : i < 100) : xsI h 106 (nI i) x = some (sF h 106 (upd (h.2.1 106) i x)) := e_sI (gs106 g) rfl h1 (by decide)
theorem aN107 (g : GH h) {i : Nat} (h1 : i < 100) : xaI h 107 10 (nI i) = some (h.2.1 107 i) := e_aI (gs107 g) rfl h1 (by decide)
theorem sN107 (g : GH h) {i : Nat} {x : Int32} (h1 : i < 100) : xsI h 107 (nI i) x = some (sF h 107 (upd (h.2.1 107) i x)) := e_sI (gs107 g) rfl h1 (by decide)
theorem aN108 (g : GH h) {i : Nat} (h1 : i < 150) : xaI h 108 10 (nI i) = some (h.2.1 108 i) := e_aI (gs108 g) rfl h1 (by decide)
theorem sN108 (g : GH h) {i : Nat} {x : Int32} (h1 : i < 150) : xsI h 108 (nI i) x = some (sF h 108 (upd (h.2.1 108) i x)) := e_sI (gs108 g) rfl h1 (by decide)
theorem aN109 (g : GH h) {i : Nat} (h1 : i < 78) : xaI h 109 10 (nI i) = some (h.2.1 109 i) := e_aI (gs109 g) rfl h1 (by decide)
theorem sN109 (g : GH h) {i : Nat} {x : Int32} (h1 : i < 78) : xsI h 109 (nI i) x = some (sF h 109 (upd (h.2.1 109) i x)) := e_sI (gs109 g) rfl h1 (by decide)
theorem aN110 (g : GH h) {i : Nat} (h1 : i < 4) : xaI h 110 10 (nI i) = some (h.2.1 110 i) := e_aI (gs110 g) rfl h1 (by decide)
theorem sN110 (g : GH h) {i : Nat} {x : Int32} (h1 : i < 4) : xsI h 110 (nI i) x = some (sF h 110 (upd (h.2.1 110) i x)) := e_sI (gs110 g) rfl h1 (by decide)
theorem aNb1 {b : Nat} (g : GH h) (hb : isB b) {i : Nat} (h1 : i < 10) : xaI h (b + 1) 10 (nI i) = some (h.2.1 (b + 1) i) := e_aI (gb1 g hb) rfl h1 (by decide)
theorem sNb1 {b : Nat} (g : GH h) (hb : isB b) {i : Nat} {x : Int32} (h1 : i < 10) : xsI h (b + 1) (nI i) x = some (sF h (b + 1) (upd (h.2.1 (b + 1)) i x)) := e_sI (gb1 g hb) rfl h1 (by decide)
theorem aNb2 {b : Nat} (g : GH h) (hb : isB b) {i : Nat} (h1 : i < 7) : xaI h (b + 2) 10 (nI i) = some (h.2.1 (b + 2) i) := e_aI (gb2 g hb) rfl h1 (by decide)
theorem sNb2 {b : Nat} (g : GH h) (hb : isB b) {i : Nat} {x : Int32} (h1 : i < 7) : xsI h (b + 2) (nI i) x = some (sF h (b + 2) (upd (h.2.1 (b + 2)) i x)) := e_sI (gb2 g hb) rfl h1 (by decide)
theorem aNb3 {b : Nat} (g : GH h) (hb : isB b) {i : Nat} (h1 : i < 7) : xaI h (b + 3) 10 (nI i) = some (h.2.1 (b + 3) i) := e_aI (gb3 g hb) rfl h1 (by decide)
theorem sNb3 {b : Nat} (g : GH h) (hb : isB b) {i : Nat} {x : Int32} (h1 : i < 7) : xsI h (b + 3) (nI i) x = some (sF h (b + 3) (upd (h.2.1 (b + 3)) i x)) := e_sI (gb3 g hb) rfl h1 (by decide)
theorem aNb4 {b : Nat} (g : GH h) (hb : isB b) {i : Nat} (h1 : i < 7) : xaI h (b + 4) 10 (nI i) = some (h.2.1 (b + 4) i) := e_aI (gb4 g hb) rfl h1 (by decide)
theorem sNb4 {b : Nat} (g : GH h) (hb : isB b) {i : Nat} {x : Int32} (h1 : i < 7) : xsI h (b + 4) (nI i) x = some (sF h (b + 4) (upd (h.2.1 (b + 4)) i x)) := e_sI (gb4 g hb) rfl h1 (by decide)
theorem aNb5 {b : Nat} (g : GH h) (hb : isB b) {i : Nat} (h1 : i < 7) : xaI h (b + 5) 10 (nI i) = some (h.2.1 (b + 5) i) := e_aI (gb5 g hb) rfl h1 (by decide)
theorem sNb5 {b : Nat} (g : GH h) (hb : isB b) {i : Nat} {x : Int32} (h1 : i < 7) : xsI h (b + 5) (nI i) x = some (sF h (b + 5) (upd (h.2.1 (b + 5)) i x)) := e_sI (gb5 g hb) rfl h1 (by decide)
theorem aNb6 {b : Nat} (g : GH h) (hb : isB b) {i : Nat} (h1 : i < 7) : xaI h (b + 6) 10 (nI i) = some (h.2.1 (b + 6) i) := e_aI (gb6 g hb) rfl h1 (by decide)
theorem sNb6 {b : Nat} (g : GH h) (hb : isB b) {i : Nat} {x : Int32} (h1 : i < 7) : xsI h (b + 6) (nI i) x = some (sF h (b + 6) (upd (h.2.1 (b + 6)) i x)) := e_sI (gb6 g hb) rfl h1 (by decide)
theorem aNb7 {b : Nat} (g : GH h) (hb : isB b) {i : Nat} (h1 : i < 6) : xaI h (b + 7) 10 (nI i) = some (h.2.1 (b + 7) i) := e_aI (gb7 g hb) rfl h1 (by decide)
theorem sNb7 {b : Nat} (g : GH h) (hb : isB b) {i : Nat} {x : Int32} (h1 : i < 6) : xsI h (b + 7) (nI i) x = some (sF h (b + 7) (upd (h.2.1 (b + 7)) i x)) := e_sI (gb7 g hb) rfl h1 (by decide)
theorem aNb8 {b : Nat} (g : GH h) (hb : isB b) {i : Nat} (h1 : i < 6) : xaI h (b + 8) 10 (nI i) = some (h.2.1 (b + 8) i) := e_aI (gb8 g hb) rfl h1 (by decide)
theorem sNb8 {b : Nat} (g : GH h) (hb : isB b) {i : Nat} {x : Int32} (h1 : i < 6) : xsI h (b + 8) (nI i) x = some (sF h (b + 8) (upd (h.2.1 (b + 8)) i x)) := e_sI (gb8 g hb) rfl h1 (by decide)
theorem aNb9 {b : Nat} (g : GH h) (hb : isB b) {i : Nat} (h1 : i < 6) : xaI h (b + 9) 10 (nI i) = some (h.2.1 (b + 9) i) := e_aI (gb9 g hb) rfl h1 (by decide)
theorem sNb9 {b : Nat} (g : GH h) (hb : isB b) {i : Nat} {x : Int32} (h1 : i < 6) : xsI h (b + 9) (nI i) x = some (sF h (b + 9) (upd (h.2.1 (b + 9)) i x)) := e_sI (gb9 g hb) rfl h1 (by decide)
theorem aNb10 {b : Nat} (g : GH h) (hb : isB b) {i : Nat} (h1 : i < 6) : xaI h (b + 10) 10 (nI i) = some (h.2.1 (b + 10) i) := e_aI (gb10 g hb) rfl h1 (by decide)
theorem sNb10 {b : Nat} (g : GH h) (hb : isB b) {i : Nat} {x : Int32} (h1 : i < 6) : xsI h (b + 10) (nI i) x = some (sF h (b + 10) (upd (h.2.1 (b + 10)) i x)) := e_sI (gb10 g hb) rfl h1 (by decide)
end CELLSN
theorem lit_add (m k : Nat) : (OfNat.ofNat m : Int32) + nI k = nI (m + k) := by rw [fa_lit, nI_add]
theorem nI_p1 (k : Nat) : nI k + 1 = nI (k + 1) := nI_1 k
theorem bit_e (x i : Int32) (h : Hp) : fX8_bit x i h = some ((x >>> (i &&& 31)) &&& 1) := rfl
theorem i32_nI {v : Int32} {n : Nat} (h : 0 ≤ v.toInt ∧ v.toInt < n) : ∃ k, k < n ∧ v = nI k := ⟨v.toInt.toNat, by omega, nI_n h.1⟩
theorem hasTwo_e {h : Hp} {b : Nat} (g : GH h) (hb : isB b) (i j : Int32) : fX0_hasTwo b i j h = some (if inb i.toInt 0 ((h.2.1 b 2).toInt - 1) = 0 ∨ inb j.toInt 0 ((h.2.1 b 2).toInt - 1) = 0 ∨ i = j then 0 else 1) := by
  simp only [fX0_hasTwo, fX0_hasTwo_j25, fX0_hasTwo_j26, gTb g hb, has_e g hb, Option.bind_some]
  rw [if_pos (show vp_nar .boolean 0 = 0 from rfl), if_pos (show vp_nar .boolean 1 = 1 from rfl)]
  generalize ((h.2.1 b 2).toInt - 1) = z
  by_cases h1 : inb i.toInt 0 z = 0
  · simp [h1]
  · by_cases h2 : inb j.toInt 0 z = 0
    · simp [h1, h2]
    · by_cases h3 : i = j <;> simp [h1, h2, h3]

theorem ne01 : (((0 : Int32) = 1) = False) := by simp
theorem ne02 : (((0 : Int32) = 2) = False) := by simp
theorem ne03 : (((0 : Int32) = 3) = False) := by simp
theorem ne04 : (((0 : Int32) = 4) = False) := by simp
theorem ne05 : (((0 : Int32) = 5) = False) := by simp
theorem ne06 : (((0 : Int32) = 6) = False) := by simp
theorem ne07 : (((0 : Int32) = 7) = False) := by simp
theorem ne10 : (((1 : Int32) = 0) = False) := by simp
theorem ne12 : (((1 : Int32) = 2) = False) := by simp
theorem ne13 : (((1 : Int32) = 3) = False) := by simp
theorem ne14 : (((1 : Int32) = 4) = False) := by simp
theorem ne15 : (((1 : Int32) = 5) = False) := by simp
theorem ne16 : (((1 : Int32) = 6) = False) := by simp
theorem ne17 : (((1 : Int32) = 7) = False) := by simp
theorem ne20 : (((2 : Int32) = 0) = False) := by simp
theorem ne21 : (((2 : Int32) = 1) = False) := by simp
theorem ne23 : (((2 : Int32) = 3) = False) := by simp
theorem ne24 : (((2 : Int32) = 4) = False) := by simp
theorem ne25 : (((2 : Int32) = 5) = False) := by simp
theorem ne26 : (((2 : Int32) = 6) = False) := by simp
theorem ne27 : (((2 : Int32) = 7) = False) := by simp
theorem ne30 : (((3 : Int32) = 0) = False) := by simp
theorem ne31 : (((3 : Int32) = 1) = False) := by simp
theorem ne32 : (((3 : Int32) = 2) = False) := by simp
theorem ne34 : (((3 : Int32) = 4) = False) := by simp
theorem ne35 : (((3 : Int32) = 5) = False) := by simp
theorem ne36 : (((3 : Int32) = 6) = False) := by simp
theorem ne37 : (((3 : Int32) = 7) = False) := by simp
theorem ne40 : (((4 : Int32) = 0) = False) := by simp
theorem ne41 : (((4 : Int32) = 1) = False) := by simp
theorem ne42 : (((4 : Int32) = 2) = False) := by simp
theorem ne43 : (((4 : Int32) = 3) = False) := by simp
theorem ne45 : (((4 : Int32) = 5) = False) := by simp
theorem ne46 : (((4 : Int32) = 6) = False) := by simp
theorem ne47 : (((4 : Int32) = 7) = False) := by simp
theorem ne50 : (((5 : Int32) = 0) = False) := by simp
theorem ne51 : (((5 : Int32) = 1) = False) := by simp
theorem ne52 : (((5 : Int32) = 2) = False) := by simp
theorem ne53 : (((5 : Int32) = 3) = False) := by simp
theorem ne54 : (((5 : Int32) = 4) = False) := by simp
theorem ne56 : (((5 : Int32) = 6) = False) := by simp
theorem ne57 : (((5 : Int32) = 7) = False) := by simp
theorem ne60 : (((6 : Int32) = 0) = False) := by simp
theorem ne61 : (((6 : Int32) = 1) = False) := by simp
theorem ne62 : (((6 : Int32) = 2) = False) := by simp
theorem ne63 : (((6 : Int32) = 3) = False) := by simp
theorem ne64 : (((6 : Int32) = 4) = False) := by simp
theorem ne65 : (((6 : Int32) = 5) = False) := by simp
theorem ne67 : (((6 : Int32) = 7) = False) := by simp
theorem ne70 : (((7 : Int32) = 0) = False) := by simp
theorem ne71 : (((7 : Int32) = 1) = False) := by simp
theorem ne72 : (((7 : Int32) = 2) = False) := by simp
theorem ne73 : (((7 : Int32) = 3) = False) := by simp
theorem ne74 : (((7 : Int32) = 4) = False) := by simp
theorem ne75 : (((7 : Int32) = 5) = False) := by simp
theorem ne76 : (((7 : Int32) = 6) = False) := by simp
theorem eq0 : (((0 : Int32) = 0) = True) := by simp
theorem eq1 : (((1 : Int32) = 1) = True) := by simp
theorem eq2 : (((2 : Int32) = 2) = True) := by simp
theorem eq3 : (((3 : Int32) = 3) = True) := by simp
theorem eq4 : (((4 : Int32) = 4) = True) := by simp
theorem eq5 : (((5 : Int32) = 5) = True) := by simp
theorem eq6 : (((6 : Int32) = 6) = True) := by simp
theorem eq7 : (((7 : Int32) = 7) = True) := by simp
theorem nI_tt {k : Nat} (h : k < 2 ^ 31) : (nI k).toInt.toNat = k := by rw [nI_toInt h]; omega
theorem la1 (k : Nat) : (1 : Int32) + nI k = nI (1 + k) := lit_add 1 k
theorem lb1 (k : Nat) : nI k + (1 : Int32) = nI (k + 1) := by rw [Int32.add_comm, la1, Nat.add_comm]
theorem la2 (k : Nat) : (2 : Int32) + nI k = nI (2 + k) := lit_add 2 k
theorem lb2 (k : Nat) : nI k + (2 : Int32) = nI (k + 2) := by rw [Int32.add_comm, la2, Nat.add_comm]
theorem la3 (k : Nat) : (3 : Int32) + nI k = nI (3 + k) := lit_add 3 k
theorem lb3 (k : Nat) : nI k + (3 : Int32) = nI (k + 3) := by rw [Int32.add_comm, la3, Nat.add_comm]
theorem la4 (k : Nat) : (4 : Int32) + nI k = nI (4 + k) := lit_add 4 k
theorem lb4 (k : Nat) : nI k + (4 : Int32) = nI (k + 4) := by rw [Int32.add_comm, la4, Nat.add_comm]
theorem la5 (k : Nat) : (5 : Int32) + nI k = nI (5 + k) := lit_add 5 k
theorem lb5 (k : Nat) : nI k + (5 : Int32) = nI (k + 5) := by rw [Int32.add_comm, la5, Nat.add_comm]
theorem la6 (k : Nat) : (6 : Int32) + nI k = nI (6 + k) := lit_add 6 k
theorem lb6 (k : Nat) : nI k + (6 : Int32) = nI (k + 6) := by rw [Int32.add_comm, la6, Nat.add_comm]
theorem la7 (k : Nat) : (7 : Int32) + nI k = nI (7 + k) := lit_add 7 k
theorem lb7 (k : Nat) : nI k + (7 : Int32) = nI (k + 7) := by rw [Int32.add_comm, la7, Nat.add_comm]
theorem la8 (k : Nat) : (8 : Int32) + nI k = nI (8 + k) := lit_add 8 k
theorem lb8 (k : Nat) : nI k + (8 : Int32) = nI (k + 8) := by rw [Int32.add_comm, la8, Nat.add_comm]
theorem la9 (k : Nat) : (9 : Int32) + nI k = nI (9 + k) := lit_add 9 k
theorem lb9 (k : Nat) : nI k + (9 : Int32) = nI (k + 9) := by rw [Int32.add_comm, la9, Nat.add_comm]
theorem la10 (k : Nat) : (10 : Int32) + nI k = nI (10 + k) := lit_add 10 k
theorem lb10 (k : Nat) : nI k + (10 : Int32) = nI (k + 10) := by rw [Int32.add_comm, la10, Nat.add_comm]
theorem la19 (k : Nat) : (19 : Int32) + nI k = nI (19 + k) := lit_add 19 k
theorem lb19 (k : Nat) : nI k + (19 : Int32) = nI (k + 19) := by rw [Int32.add_comm, la19, Nat.add_comm]
theorem la26 (k : Nat) : (26 : Int32) + nI k = nI (26 + k) := lit_add 26 k
theorem lb26 (k : Nat) : nI k + (26 : Int32) = nI (k + 26) := by rw [Int32.add_comm, la26, Nat.add_comm]
theorem la33 (k : Nat) : (33 : Int32) + nI k = nI (33 + k) := lit_add 33 k
theorem lb33 (k : Nat) : nI k + (33 : Int32) = nI (k + 33) := by rw [Int32.add_comm, la33, Nat.add_comm]
theorem la40 (k : Nat) : (40 : Int32) + nI k = nI (40 + k) := lit_add 40 k
theorem lb40 (k : Nat) : nI k + (40 : Int32) = nI (k + 40) := by rw [Int32.add_comm, la40, Nat.add_comm]
theorem la47 (k : Nat) : (47 : Int32) + nI k = nI (47 + k) := lit_add 47 k
theorem lb47 (k : Nat) : nI k + (47 : Int32) = nI (k + 47) := by rw [Int32.add_comm, la47, Nat.add_comm]
theorem la54 (k : Nat) : (54 : Int32) + nI k = nI (54 + k) := lit_add 54 k
theorem lb54 (k : Nat) : nI k + (54 : Int32) = nI (k + 54) := by rw [Int32.add_comm, la54, Nat.add_comm]
theorem la78 (k : Nat) : (78 : Int32) + nI k = nI (78 + k) := lit_add 78 k
theorem lb78 (k : Nat) : nI k + (78 : Int32) = nI (k + 78) := by rw [Int32.add_comm, la78, Nat.add_comm]
theorem la83 (k : Nat) : (83 : Int32) + nI k = nI (83 + k) := lit_add 83 k
theorem lb83 (k : Nat) : nI k + (83 : Int32) = nI (k + 83) := by rw [Int32.add_comm, la83, Nat.add_comm]
theorem la118 (k : Nat) : (118 : Int32) + nI k = nI (118 + k) := lit_add 118 k
theorem lb118 (k : Nat) : nI k + (118 : Int32) = nI (k + 118) := by rw [Int32.add_comm, la118, Nat.add_comm]
theorem lm2 (k : Nat) : (2 : Int32) * nI k = nI (2 * k) := by rw [← pk_mul]; rfl
theorem lm4 (k : Nat) : (4 : Int32) * nI k = nI (4 * k) := by rw [← pk_mul]; rfl
theorem lm5 (k : Nat) : (5 : Int32) * nI k = nI (5 * k) := by rw [← pk_mul]; rfl
theorem lm10 (k : Nat) : (10 : Int32) * nI k = nI (10 * k) := by rw [← pk_mul]; rfl
theorem lm118 (k : Nat) : (118 : Int32) * nI k = nI (118 * k) := by rw [← pk_mul]; rfl
theorem t32_0 : (0 : Int32).toInt = 0 := by decide
theorem t64_0 : (0 : Int64).toInt = 0 := by decide
theorem t32_1 : (1 : Int32).toInt = 1 := by decide
theorem t64_1 : (1 : Int64).toInt = 1 := by decide
theorem t32_2 : (2 : Int32).toInt = 2 := by decide
theorem t64_2 : (2 : Int64).toInt = 2 := by decide
theorem t32_3 : (3 : Int32).toInt = 3 := by decide
theorem t64_3 : (3 : Int64).toInt = 3 := by decide
theorem t32_4 : (4 : Int32).toInt = 4 := by decide
theorem t64_4 : (4 : Int64).toInt = 4 := by decide
theorem t32_5 : (5 : Int32).toInt = 5 := by decide
theorem t64_5 : (5 : Int64).toInt = 5 := by decide
theorem t32_6 : (6 : Int32).toInt = 6 := by decide
theorem t64_6 : (6 : Int64).toInt = 6 := by decide
theorem t32_7 : (7 : Int32).toInt = 7 := by decide
theorem t64_7 : (7 : Int64).toInt = 7 := by decide
theorem t32_8 : (8 : Int32).toInt = 8 := by decide
theorem t64_8 : (8 : Int64).toInt = 8 := by decide
theorem t32_9 : (9 : Int32).toInt = 9 := by decide
theorem t64_9 : (9 : Int64).toInt = 9 := by decide
theorem t32_10 : (10 : Int32).toInt = 10 := by decide
theorem t64_10 : (10 : Int64).toInt = 10 := by decide
theorem t32_40 : (40 : Int32).toInt = 40 := by decide
theorem t64_40 : (40 : Int64).toInt = 40 := by decide
theorem t32_60 : (60 : Int32).toInt = 60 := by decide
theorem t64_60 : (60 : Int64).toInt = 60 := by decide
theorem t32_127 : (127 : Int32).toInt = 127 := by decide
theorem t64_127 : (127 : Int64).toInt = 127 := by decide
theorem t32_150 : (150 : Int32).toInt = 150 := by decide
theorem t64_150 : (150 : Int64).toInt = 150 := by decide
theorem t32_200 : (200 : Int32).toInt = 200 := by decide
theorem t64_200 : (200 : Int64).toInt = 200 := by decide
theorem t32_999999 : (999999 : Int32).toInt = 999999 := by decide
theorem t64_999999 : (999999 : Int64).toInt = 999999 := by decide
