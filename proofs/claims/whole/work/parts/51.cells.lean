/-! the cells of the run, by their numbers: reading and writing them (g : GH h) -/
section CELLS
variable {h : Hp}
theorem gs0 (g : GH h) : h.1[0]? = some (8, 12) := by rw [g.1]; rfl
theorem gs22 (g : GH h) : h.1[22]? = some (12, 2) := by rw [g.1]; rfl
theorem gs65 (g : GH h) : h.1[65]? = some (11, 2) := by rw [g.1]; rfl
theorem gs66 (g : GH h) : h.1[66]? = some (3, 3) := by rw [g.1]; rfl
theorem gs67 (g : GH h) : h.1[67]? = some (5, 5) := by rw [g.1]; rfl
theorem gs68 (g : GH h) : h.1[68]? = some (10, 7) := by rw [g.1]; rfl
theorem gs69 (g : GH h) : h.1[69]? = some (1, 1) := by rw [g.1]; rfl
theorem gs70 (g : GH h) : h.1[70]? = some (10, 7) := by rw [g.1]; rfl
theorem gs71 (g : GH h) : h.1[71]? = some (6, 3) := by rw [g.1]; rfl
theorem gs72 (g : GH h) : h.1[72]? = some (7, 4) := by rw [g.1]; rfl
theorem gs73 (g : GH h) : h.1[73]? = some (10, 100) := by rw [g.1]; rfl
theorem gs74 (g : GH h) : h.1[74]? = some (10, 100) := by rw [g.1]; rfl
theorem gs75 (g : GH h) : h.1[75]? = some (2, 2) := by rw [g.1]; rfl
theorem gs76 (g : GH h) : h.1[76]? = some (4, 8) := by rw [g.1]; rfl
theorem gs77 (g : GH h) : h.1[77]? = some (10, 150) := by rw [g.1]; rfl
theorem gs99 (g : GH h) : h.1[99]? = some (9, 18) := by rw [g.1]; rfl
theorem gs100 (g : GH h) : h.1[100]? = some (10, 118) := by rw [g.1]; rfl
theorem gs101 (g : GH h) : h.1[101]? = some (10, 236) := by rw [g.1]; rfl
theorem gs102 (g : GH h) : h.1[102]? = some (11, 2) := by rw [g.1]; rfl
theorem gs103 (g : GH h) : h.1[103]? = some (10, 3) := by rw [g.1]; rfl
theorem gs104 (g : GH h) : h.1[104]? = some (10, 54) := by rw [g.1]; rfl
theorem gs105 (g : GH h) : h.1[105]? = some (10, 7) := by rw [g.1]; rfl
theorem gs106 (g : GH h) : h.1[106]? = some (10, 100) := by rw [g.1]; rfl
theorem gs107 (g : GH h) : h.1[107]? = some (10, 100) := by rw [g.1]; rfl
theorem gs108 (g : GH h) : h.1[108]? = some (10, 150) := by rw [g.1]; rfl
theorem gs109 (g : GH h) : h.1[109]? = some (10, 78) := by rw [g.1]; rfl
theorem gs110 (g : GH h) : h.1[110]? = some (10, 4) := by rw [g.1]; rfl
theorem gb0 {b : Nat} (g : GH h) (hb : isB b) : h.1[b]? = some (0, 16) := by rw [g.1]; exact shB hb 0 (by decide)
theorem gb1 {b : Nat} (g : GH h) (hb : isB b) : h.1[b + 1]? = some (10, 10) := by rw [g.1, shB hb 1 (by decide)]; rfl
theorem gb2 {b : Nat} (g : GH h) (hb : isB b) : h.1[b + 2]? = some (10, 7) := by rw [g.1, shB hb 2 (by decide)]; rfl
theorem gb3 {b : Nat} (g : GH h) (hb : isB b) : h.1[b + 3]? = some (10, 7) := by rw [g.1, shB hb 3 (by decide)]; rfl
theorem gb4 {b : Nat} (g : GH h) (hb : isB b) : h.1[b + 4]? = some (10, 7) := by rw [g.1, shB hb 4 (by decide)]; rfl
theorem gb5 {b : Nat} (g : GH h) (hb : isB b) : h.1[b + 5]? = some (10, 7) := by rw [g.1, shB hb 5 (by decide)]; rfl
theorem gb6 {b : Nat} (g : GH h) (hb : isB b) : h.1[b + 6]? = some (10, 7) := by rw [g.1, shB hb 6 (by decide)]; rfl
theorem gb7 {b : Nat} (g : GH h) (hb : isB b) : h.1[b + 7]? = some (10, 6) := by rw [g.1, shB hb 7 (by decide)]; rfl
theorem gb8 {b : Nat} (g : GH h) (hb : isB b) : h.1[b + 8]? = some (10, 6) := by rw [g.1, shB hb 8 (by decide)]; rfl
theorem gb9 {b : Nat} (g : GH h) (hb : isB b) : h.1[b + 9]? = some (10, 6) := by rw [g.1, shB hb 9 (by decide)]; rfl
theorem gb10 {b : Nat} (g : GH h) (hb : isB b) : h.1[b + 10]? = some (10, 6) := by rw [g.1, shB hb 10 (by decide)]; rfl
theorem gb11 {b : Nat} (g : GH h) (hb : isB b) : h.1[b + 11]? = some (5, 5) := by rw [g.1, shB hb 11 (by decide)]; rfl
theorem gb12 {b : Nat} (g : GH h) (hb : isB b) : h.1[b + 12]? = some (13, 8) := by rw [g.1, shB hb 12 (by decide)]; rfl
theorem gb13 {b : Nat} (g : GH h) (hb : isB b) : h.1[b + 13]? = some (5, 5) := by rw [g.1, shB hb 13 (by decide)]; rfl
theorem gb14 {b : Nat} (g : GH h) (hb : isB b) : h.1[b + 14]? = some (5, 5) := by rw [g.1, shB hb 14 (by decide)]; rfl
theorem gb15 {b : Nat} (g : GH h) (hb : isB b) : h.1[b + 15]? = some (5, 5) := by rw [g.1, shB hb 15 (by decide)]; rfl
theorem gb16 {b : Nat} (g : GH h) (hb : isB b) : h.1[b + 16]? = some (5, 5) := by rw [g.1, shB hb 16 (by decide)]; rfl
theorem gb17 {b : Nat} (g : GH h) (hb : isB b) : h.1[b + 17]? = some (5, 5) := by rw [g.1, shB hb 17 (by decide)]; rfl
theorem gb18 {b : Nat} (g : GH h) (hb : isB b) : h.1[b + 18]? = some (5, 5) := by rw [g.1, shB hb 18 (by decide)]; rfl
theorem gb19 {b : Nat} (g : GH h) (hb : isB b) : h.1[b + 19]? = some (5, 5) := by rw [g.1, shB hb 19 (by decide)]; rfl
theorem gb20 {b : Nat} (g : GH h) (hb : isB b) : h.1[b + 20]? = some (5, 5) := by rw [g.1, shB hb 20 (by decide)]; rfl
theorem gs1 (g : GH h) : h.1[1]? = some (0, 16) := by rw [g.1]; rfl
theorem gs2 (g : GH h) : h.1[2]? = some (10, 10) := by rw [g.1]; rfl
theorem gs3 (g : GH h) : h.1[3]? = some (10, 7) := by rw [g.1]; rfl
theorem gs4 (g : GH h) : h.1[4]? = some (10, 7) := by rw [g.1]; rfl
theorem gs5 (g : GH h) : h.1[5]? = some (10, 7) := by rw [g.1]; rfl
theorem gs6 (g : GH h) : h.1[6]? = some (10, 7) := by rw [g.1]; rfl
theorem gs7 (g : GH h) : h.1[7]? = some (10, 7) := by rw [g.1]; rfl
theorem gs8 (g : GH h) : h.1[8]? = some (10, 6) := by rw [g.1]; rfl
theorem gs9 (g : GH h) : h.1[9]? = some (10, 6) := by rw [g.1]; rfl
theorem gs10 (g : GH h) : h.1[10]? = some (10, 6) := by rw [g.1]; rfl
theorem gs11 (g : GH h) : h.1[11]? = some (10, 6) := by rw [g.1]; rfl
theorem gs12 (g : GH h) : h.1[12]? = some (5, 5) := by rw [g.1]; rfl
theorem gs13 (g : GH h) : h.1[13]? = some (13, 8) := by rw [g.1]; rfl
theorem gs14 (g : GH h) : h.1[14]? = some (5, 5) := by rw [g.1]; rfl
theorem gs15 (g : GH h) : h.1[15]? = some (5, 5) := by rw [g.1]; rfl
theorem gs16 (g : GH h) : h.1[16]? = some (5, 5) := by rw [g.1]; rfl
theorem gs17 (g : GH h) : h.1[17]? = some (5, 5) := by rw [g.1]; rfl
theorem gs18 (g : GH h) : h.1[18]? = some (5, 5) := by rw [g.1]; rfl
theorem gs19 (g : GH h) : h.1[19]? = some (5, 5) := by rw [g.1]; rfl
theorem gs20 (g : GH h) : h.1[20]? = some (5, 5) := by rw [g.1]; rfl
theorem gs21 (g : GH h) : h.1[21]? = some (5, 5) := by rw [g.1]; rfl
theorem gR0_0 (g : GH h) : xgR h 0 (8, 12) 0 = some 1 := by rw [e_gR (gs0 g)]; simp [g.2.2.1, g.2.2.2.1, g.2.2.2.2]
theorem gR0_1 (g : GH h) : xgR h 0 (8, 12) 1 = some 22 := by rw [e_gR (gs0 g)]; simp [g.2.2.1, g.2.2.2.1, g.2.2.2.2]
theorem gR0_2 (g : GH h) : xgR h 0 (8, 12) 2 = some 65 := by rw [e_gR (gs0 g)]; simp [g.2.2.1, g.2.2.2.1, g.2.2.2.2]
theorem gR0_3 (g : GH h) : xgR h 0 (8, 12) 3 = some 66 := by rw [e_gR (gs0 g)]; simp [g.2.2.1, g.2.2.2.1, g.2.2.2.2]
theorem gR0_4 (g : GH h) : xgR h 0 (8, 12) 4 = some 69 := by rw [e_gR (gs0 g)]; simp [g.2.2.1, g.2.2.2.1, g.2.2.2.2]
theorem gR0_5 (g : GH h) : xgR h 0 (8, 12) 5 = some 71 := by rw [e_gR (gs0 g)]; simp [g.2.2.1, g.2.2.2.1, g.2.2.2.2]
theorem gR0_6 (g : GH h) : xgR h 0 (8, 12) 6 = some 72 := by rw [e_gR (gs0 g)]; simp [g.2.2.1, g.2.2.2.1, g.2.2.2.2]
theorem gR0_7 (g : GH h) : xgR h 0 (8, 12) 7 = some 75 := by rw [e_gR (gs0 g)]; simp [g.2.2.1, g.2.2.2.1, g.2.2.2.2]
theorem gR0_8 (g : GH h) : xgR h 0 (8, 12) 8 = some 76 := by rw [e_gR (gs0 g)]; simp [g.2.2.1, g.2.2.2.1, g.2.2.2.2]
theorem gR66_0 (g : GH h) : xgR h 66 (3, 3) 0 = some 67 := by rw [e_gR (gs66 g)]; simp [g.2.2.1, g.2.2.2.1, g.2.2.2.2]
theorem gR66_1 (g : GH h) : xgR h 66 (3, 3) 1 = some 68 := by rw [e_gR (gs66 g)]; simp [g.2.2.1, g.2.2.2.1, g.2.2.2.2]
theorem gR69_0 (g : GH h) : xgR h 69 (1, 1) 0 = some 70 := by rw [e_gR (gs69 g)]; simp [g.2.2.1, g.2.2.2.1, g.2.2.2.2]
theorem gR72_0 (g : GH h) : xgR h 72 (7, 4) 0 = some 73 := by rw [e_gR (gs72 g)]; simp [g.2.2.1, g.2.2.2.1, g.2.2.2.2]
theorem gR72_1 (g : GH h) : xgR h 72 (7, 4) 1 = some 74 := by rw [e_gR (gs72 g)]; simp [g.2.2.1, g.2.2.2.1, g.2.2.2.2]
theorem gR76_0 (g : GH h) : xgR h 76 (4, 8) 0 = some 77 := by rw [e_gR (gs76 g)]; simp [g.2.2.1, g.2.2.2.1, g.2.2.2.2]
theorem gR76_2 (g : GH h) : xgR h 76 (4, 8) 2 = some 78 := by rw [e_gR (gs76 g)]; simp [g.2.2.1, g.2.2.2.1, g.2.2.2.2]
theorem gR99_0 (g : GH h) : xgR h 99 (9, 18) 0 = some 100 := by rw [e_gR (gs99 g)]; simp [g.2.2.1, g.2.2.2.1, g.2.2.2.2]
theorem gR99_1 (g : GH h) : xgR h 99 (9, 18) 1 = some 101 := by rw [e_gR (gs99 g)]; simp [g.2.2.1, g.2.2.2.1, g.2.2.2.2]
theorem gR99_2 (g : GH h) : xgR h 99 (9, 18) 2 = some 102 := by rw [e_gR (gs99 g)]; simp [g.2.2.1, g.2.2.2.1, g.2.2.2.2]
theorem gR99_3 (g : GH h) : xgR h 99 (9, 18) 3 = some 103 := by rw [e_gR (gs99 g)]; simp [g.2.2.1, g.2.2.2.1, g.2.2.2.2]
theorem gR99_6 (g : GH h) : xgR h 99 (9, 18) 6 = some 104 := by rw [e_gR (gs99 g)]; simp [g.2.2.1, g.2.2.2.1, g.2.2.2.2]
theorem gR99_7 (g : GH h) : xgR h 99 (9, 18) 7 = some 105 := by rw [e_gR (gs99 g)]; simp [g.2.2.1, g.2.2.2.1, g.2.2.2.2]
theorem gR99_8 (g : GH h) : xgR h 99 (9, 18) 8 = some 106 := by rw [e_gR (gs99 g)]; simp [g.2.2.1, g.2.2.2.1, g.2.2.2.2]
theorem gR99_9 (g : GH h) : xgR h 99 (9, 18) 9 = some 107 := by rw [e_gR (gs99 g)]; simp [g.2.2.1, g.2.2.2.1, g.2.2.2.2]
theorem gR99_10 (g : GH h) : xgR h 99 (9, 18) 10 = some 108 := by rw [e_gR (gs99 g)]; simp [g.2.2.1, g.2.2.2.1, g.2.2.2.2]
theorem gR99_16 (g : GH h) : xgR h 99 (9, 18) 16 = some 109 := by rw [e_gR (gs99 g)]; simp [g.2.2.1, g.2.2.2.1, g.2.2.2.2]
theorem gR99_17 (g : GH h) : xgR h 99 (9, 18) 17 = some 110 := by rw [e_gR (gs99 g)]; simp [g.2.2.1, g.2.2.2.1, g.2.2.2.2]
theorem gRb1 {b : Nat} (g : GH h) (hb : isB b) : xgR h b (0, 16) 1 = some (b + 1) := by rw [e_gR (gb0 g hb)]; simp [g.2.1 b hb]
theorem gR1_1 (g : GH h) : xgR h 1 (0, 16) 1 = some 2 := gRb1 g (Or.inl rfl)
theorem gRb3 {b : Nat} (g : GH h) (hb : isB b) : xgR h b (0, 16) 3 = some (b + 2) := by rw [e_gR (gb0 g hb)]; simp [g.2.1 b hb]
theorem gR1_3 (g : GH h) : xgR h 1 (0, 16) 3 = some 3 := gRb3 g (Or.inl rfl)
theorem gRb4 {b : Nat} (g : GH h) (hb : isB b) : xgR h b (0, 16) 4 = some (b + 3) := by rw [e_gR (gb0 g hb)]; simp [g.2.1 b hb]
theorem gR1_4 (g : GH h) : xgR h 1 (0, 16) 4 = some 4 := gRb4 g (Or.inl rfl)
theorem gRb5 {b : Nat} (g : GH h) (hb : isB b) : xgR h b (0, 16) 5 = some (b + 4) := by rw [e_gR (gb0 g hb)]; simp [g.2.1 b hb]
theorem gR1_5 (g : GH h) : xgR h 1 (0, 16) 5 = some 5 := gRb5 g (Or.inl rfl)
theorem gRb6 {b : Nat} (g : GH h) (hb : isB b) : xgR h b (0, 16) 6 = some (b + 5) := by rw [e_gR (gb0 g hb)]; simp [g.2.1 b hb]
theorem gR1_6 (g : GH h) : xgR h 1 (0, 16) 6 = some 6 := gRb6 g (Or.inl rfl)
theorem gRb7 {b : Nat} (g : GH h) (hb : isB b) : xgR h b (0, 16) 7 = some (b + 6) := by rw [e_gR (gb0 g hb)]; simp [g.2.1 b hb]
theorem gR1_7 (g : GH h) : xgR h 1 (0, 16) 7 = some 7 := gRb7 g (Or.inl rfl)
theorem gRb9 {b : Nat} (g : GH h) (hb : isB b) : xgR h b (0, 16) 9 = some (b + 7) := by rw [e_gR (gb0 g hb)]; simp [g.2.1 b hb]
theorem gR1_9 (g : GH h) : xgR h 1 (0, 16) 9 = some 8 := gRb9 g (Or.inl rfl)
theorem gRb10 {b : Nat} (g : GH h) (hb : isB b) : xgR h b (0, 16) 10 = some (b + 8) := by rw [e_gR (gb0 g hb)]; simp [g.2.1 b hb]
theorem gR1_10 (g : GH h) : xgR h 1 (0, 16) 10 = some 9 := gRb10 g (Or.inl rfl)
theorem gRb11 {b : Nat} (g : GH h) (hb : isB b) : xgR h b (0, 16) 11 = some (b + 9) := by rw [e_gR (gb0 g hb)]; simp [g.2.1 b hb]
theorem gR1_11 (g : GH h) : xgR h 1 (0, 16) 11 = some 10 := gRb11 g (Or.inl rfl)
theorem gRb12 {b : Nat} (g : GH h) (hb : isB b) : xgR h b (0, 16) 12 = some (b + 10) := by rw [e_gR (gb0 g hb)]; simp [g.2.1 b hb]
theorem gR1_12 (g : GH h) : xgR h 1 (0, 16) 12 = some 11 := gRb12 g (Or.inl rfl)
theorem gRb13 {b : Nat} (g : GH h) (hb : isB b) : xgR h b (0, 16) 13 = some (b + 11) := by rw [e_gR (gb0 g hb)]; simp [g.2.1 b hb]
theorem gR1_13 (g : GH h) : xgR h 1 (0, 16) 13 = some 12 := gRb13 g (Or.inl rfl)
theorem gRb14 {b : Nat} (g : GH h) (hb : isB b) : xgR h b (0, 16) 14 = some (b + 12) := by rw [e_gR (gb0 g hb)]; simp [g.2.1 b hb]
theorem gR1_14 (g : GH h) : xgR h 1 (0, 16) 14 = some 13 := gRb14 g (Or.inl rfl)
theorem gI0 (g : GH h) (j : Nat) : xgI h 0 (8, 12) j = some (h.2.1 0 j) := e_gI (gs0 g) j
theorem pI0 (g : GH h) (j : Nat) (x : Int32) : xpI h 0 (8, 12) j x = some (sF h 0 (upd (h.2.1 0) j x)) := e_pI (gs0 g) j x
theorem gT0 {α : Type} (g : GH h) (o : Option α) : xat h 0 (8, 12) o = o := e_at (gs0 g) o
theorem gI1 (g : GH h) (j : Nat) : xgI h 1 (0, 16) j = some (h.2.1 1 j) := e_gI (gs1 g) j
theorem pI1 (g : GH h) (j : Nat) (x : Int32) : xpI h 1 (0, 16) j x = some (sF h 1 (upd (h.2.1 1) j x)) := e_pI (gs1 g) j x
theorem gT1 {α : Type} (g : GH h) (o : Option α) : xat h 1 (0, 16) o = o := e_at (gs1 g) o
theorem gI12 (g : GH h) (j : Nat) : xgI h 12 (5, 5) j = some (h.2.1 12 j) := e_gI (gs12 g) j
theorem pI12 (g : GH h) (j : Nat) (x : Int32) : xpI h 12 (5, 5) j x = some (sF h 12 (upd (h.2.1 12) j x)) := e_pI (gs12 g) j x
theorem gT12 {α : Type} (g : GH h) (o : Option α) : xat h 12 (5, 5) o = o := e_at (gs12 g) o
theorem gI66 (g : GH h) (j : Nat) : xgI h 66 (3, 3) j = some (h.2.1 66 j) := e_gI (gs66 g) j
theorem pI66 (g : GH h) (j : Nat) (x : Int32) : xpI h 66 (3, 3) j x = some (sF h 66 (upd (h.2.1 66) j x)) := e_pI (gs66 g) j x
theorem gT66 {α : Type} (g : GH h) (o : Option α) : xat h 66 (3, 3) o = o := e_at (gs66 g) o
theorem gI67 (g : GH h) (j : Nat) : xgI h 67 (5, 5) j = some (h.2.1 67 j) := e_gI (gs67 g) j
theorem pI67 (g : GH h) (j : Nat) (x : Int32) : xpI h 67 (5, 5) j x = some (sF h 67 (upd (h.2.1 67) j x)) := e_pI (gs67 g) j x
theorem gT67 {α : Type} (g : GH h) (o : Option α) : xat h 67 (5, 5) o = o := e_at (gs67 g) o
theorem gI69 (g : GH h) (j : Nat) : xgI h 69 (1, 1) j = some (h.2.1 69 j) := e_gI (gs69 g) j
theorem pI69 (g : GH h) (j : Nat) (x : Int32) : xpI h 69 (1, 1) j x = some (sF h 69 (upd (h.2.1 69) j x)) := e_pI (gs69 g) j x
theorem gT69 {α : Type} (g : GH h) (o : Option α) : xat h 69 (1, 1) o = o := e_at (gs69 g) o
theorem gI71 (g : GH h) (j : Nat) : xgI h 71 (6, 3) j = some (h.2.1 71 j) := e_gI (gs71 g) j
theorem pI71 (g : GH h) (j : Nat) (x : Int32) : xpI h 71 (6, 3) j x = some (sF h 71 (upd (h.2.1 71) j x)) := e_pI (gs71 g) j x
theorem gT71 {α : Type} (g : GH h) (o : Option α) : xat h 71 (6, 3) o = o := e_at (gs71 g) o
theorem gI72 (g : GH h) (j : Nat) : xgI h 72 (7, 4) j = some (h.2.1 72 j) := e_gI (gs72 g) j
theorem pI72 (g : GH h) (j : Nat) (x : Int32) : xpI h 72 (7, 4) j x = some (sF h 72 (upd (h.2.1 72) j x)) := e_pI (gs72 g) j x
theorem gT72 {α : Type} (g : GH h) (o : Option α) : xat h 72 (7, 4) o = o := e_at (gs72 g) o
theorem gI75 (g : GH h) (j : Nat) : xgI h 75 (2, 2) j = some (h.2.1 75 j) := e_gI (gs75 g) j
theorem pI75 (g : GH h) (j : Nat) (x : Int32) : xpI h 75 (2, 2) j x = some (sF h 75 (upd (h.2.1 75) j x)) := e_pI (gs75 g) j x
theorem gT75 {α : Type} (g : GH h) (o : Option α) : xat h 75 (2, 2) o = o := e_at (gs75 g) o
theorem gI76 (g : GH h) (j : Nat) : xgI h 76 (4, 8) j = some (h.2.1 76 j) := e_gI (gs76 g) j
theorem pI76 (g : GH h) (j : Nat) (x : Int32) : xpI h 76 (4, 8) j x = some (sF h 76 (upd (h.2.1 76) j x)) := e_pI (gs76 g) j x
theorem gT76 {α : Type} (g : GH h) (o : Option α) : xat h 76 (4, 8) o = o := e_at (gs76 g) o
theorem gI99 (g : GH h) (j : Nat) : xgI h 99 (9, 18) j = some (h.2.1 99 j) := e_gI (gs99 g) j
theorem pI99 (g : GH h) (j : Nat) (x : Int32) : xpI h 99 (9, 18) j x = some (sF h 99 (upd (h.2.1 99) j x)) := e_pI (gs99 g) j x
theorem gT99 {α : Type} (g : GH h) (o : Option α) : xat h 99 (9, 18) o = o := e_at (gs99 g) o
theorem gIb {b : Nat} (g : GH h) (hb : isB b) (j : Nat) : xgI h b (0, 16) j = some (h.2.1 b j) := e_gI (gb0 g hb) j
theorem pIb {b : Nat} (g : GH h) (hb : isB b) (j : Nat) (x : Int32) : xpI h b (0, 16) j x = some (sF h b (upd (h.2.1 b) j x)) := e_pI (gb0 g hb) j x
theorem gTb {α : Type} {b : Nat} (g : GH h) (hb : isB b) (o : Option α) : xat h b (0, 16) o = o := e_at (gb0 g hb) o
theorem gIr {b : Nat} (g : GH h) (hb : isB b) (j : Nat) : xgI h (b + 11) (5, 5) j = some (h.2.1 (b + 11) j) := e_gI (gb11 g hb) j
theorem pIr {b : Nat} (g : GH h) (hb : isB b) (j : Nat) (x : Int32) : xpI h (b + 11) (5, 5) j x = some (sF h (b + 11) (upd (h.2.1 (b + 11)) j x)) := e_pI (gb11 g hb) j x
theorem gTr {α : Type} {b : Nat} (g : GH h) (hb : isB b) (o : Option α) : xat h (b + 11) (5, 5) o = o := e_at (gb11 g hb) o
theorem aI65 (g : GH h) {i : Int32} (h0 : 0 ≤ i.toInt) (h1 : i.toInt < 2) : xaI h 65 11 i = some (h.2.1 65 i.toInt.toNat) := e_aI (gs65 g) (nI_n h0) (by omega) (by decide)
theorem sZ65 (g : GH h) {i : Int32} {x : Int32} (h0 : 0 ≤ i.toInt) (h1 : i.toInt < 2) : xsZ h 65 i x = some (sF h 65 (upd (h.2.1 65) i.toInt.toNat (vp_nar .boolean x))) := e_sZ (gs65 g) (nI_n h0) (by omega) (by decide)
theorem aI68 (g : GH h) {i : Int32} (h0 : 0 ≤ i.toInt) (h1 : i.toInt < 7) : xaI h 68 10 i = some (h.2.1 68 i.toInt.toNat) := e_aI (gs68 g) (nI_n h0) (by omega) (by decide)
theorem sI68 (g : GH h) {i : Int32} {x : Int32} (h0 : 0 ≤ i.toInt) (h1 : i.toInt < 7) : xsI h 68 i x = some (sF h 68 (upd (h.2.1 68) i.toInt.toNat x)) := e_sI (gs68 g) (nI_n h0) (by omega) (by decide)
theorem aI70 (g : GH h) {i : Int32} (h0 : 0 ≤ i.toInt) (h1 : i.toInt < 7) : xaI h 70 10 i = some (h.2.1 70 i.toInt.toNat) := e_aI (gs70 g) (nI_n h0) (by omega) (by decide)
theorem sI70 (g : GH h) {i : Int32} {x : Int32} (h0 : 0 ≤ i.toInt) (h1 : i.toInt < 7) : xsI h 70 i x = some (sF h 70 (upd (h.2.1 70) i.toInt.toNat x)) := e_sI (gs70 g) (nI_n h0) (by omega) (by decide)
theorem aI73 (g : GH h) {i : Int32} (h0 : 0 ≤ i.toInt) (h1 : i.toInt < 100) : xaI h 73 10 i = some (h.2.1 73 i.toInt.toNat) := e_aI (gs73 g) (nI_n h0) (by omega) (by decide)
theorem sI73 (g : GH h) {i : Int32} {x : Int32} (h0 : 0 ≤ i.toInt) (h1 : i.toInt < 100) : xsI h 73 i x = some (sF h 73 (upd (h.2.1 73) i.toInt.toNat x)) := e_sI (gs73 g) (nI_n h0) (by omega) (by decide)
theorem aI74 (g : GH h) {i : Int32} (h0 : 0 ≤ i.toInt) (h1 : i.toInt < 100) : xaI h 74 10 i = some (h.2.1 74 i.toInt.toNat) := e_aI (gs74 g) (nI_n h0) (by omega) (by decide)
theorem sI74 (g : GH h) {i : Int32} {x : Int32} (h0 : 0 ≤ i.toInt) (h1 : i.toInt < 100) : xsI h 74 i x = some (sF h 74 (upd (h.2.1 74) i.toInt.toNat x)) := e_sI (gs74 g) (nI_n h0) (by omega) (by decide)
theorem aI77 (g : GH h) {i : Int32} (h0 : 0 ≤ i.toInt) (h1 : i.toInt < 150) : xaI h 77 10 i = some (h.2.1 77 i.toInt.toNat) := e_aI (gs77 g) (nI_n h0) (by omega) (by decide)
theorem sI77 (g : GH h) {i : Int32} {x : Int32} (h0 : 0 ≤ i.toInt) (h1 : i.toInt < 150) : xsI h 77 i x = some (sF h 77 (upd (h.2.1 77) i.toInt.toNat x)) := e_sI (gs77 g) (nI_n h0) (by omega) (by decide)
theorem aI100 (g : GH h) {i : Int32} (h0 : 0 ≤ i.toInt) (h1 : i.toInt < 118) : xaI h 100 10 i = some (h.2.1 100 i.toInt.toNat) := e_aI (gs100 g) (nI_n h0) (by omega) (by decide)
theorem sI100 (g : GH h) {i : Int32} {x : Int32} (h0 : 0 ≤ i.toInt) (h1 : i.toInt < 118) : xsI h 100 i x = some (sF h 100 (upd (h.2.1 100) i.toInt.toNat x)) := e_sI (gs100 g) (nI_n h0) (by omega) (by decide)
theorem aI101 (g : GH h) {i : Int32} (h0 : 0 ≤ i.toInt) (h1 : i.toInt < 236) : xaI h 101 10 i = some (h.2.1 101 i.toInt.toNat) := e_aI (gs101 g) (nI_n h0) (by omega) (by decide)
theorem sI101 (g : GH h) {i : Int32} {x : Int32} (h0 : 0 ≤ i.toInt) (h1 : i.toInt < 236) : xsI h 101 i x = some (sF h 101 (upd (h.2.1 101) i.toInt.toNat x)) := e_sI (gs101 g) (nI_n h0) (by omega) (by decide)
theorem aI102 (g : GH h) {i : Int32} (h0 : 0 ≤ i.toInt) (h1 : i.toInt < 2) : xaI h 102 11 i = some (h.2.1 102 i.toInt.toNat) := e_aI (gs102 g) (nI_n h0) (by omega) (by decide)
theorem sZ102 (g : GH h) {i : Int32} {x : Int32} (h0 : 0 ≤ i.toInt) (h1 : i.toInt < 2) : xsZ h 102 i x = some (sF h 102 (upd (h.2.1 102) i.toInt.toNat (vp_nar .boolean x))) := e_sZ (gs102 g) (nI_n h0) (by omega) (by decide)
theorem aI103 (g : GH h) {i : Int32} (h0 : 0 ≤ i.toInt) (h1 : i.toInt < 3) : xaI h 103 10 i = some (h.2.1 103 i.toInt.toNat) := e_aI (gs103 g) (nI_n h0) (by omega) (by decide)
theorem sI103 (g : GH h) {i : Int32} {x : Int32} (h0 : 0 ≤ i.toInt) (h1 : i.toInt < 3) : xsI h 103 i x = some (sF h 103 (upd (h.2.1 103) i.toInt.toNat x)) := e_sI (gs103 g) (nI_n h0) (by omega) (by decide)
theorem aI104 (g : GH h) {i : Int32} (h0 : 0 ≤ i.toInt) (h1 : i.toInt < 54) : xaI h 104 10 i = some (h.2.1 104 i.toInt.toNat) := e_aI (gs104 g) (nI_n h0) (by omega) (by decide)
theorem sI104 (g : GH h) {i : Int32} {x : Int32} (h0 : 0 ≤ i.toInt) (h1 : i.toInt < 54) : xsI h 104 i x = some (sF h 104 (upd (h.2.1 104) i.toInt.toNat x)) := e_sI (gs104 g) (nI_n h0) (by omega) (by decide)
theorem aI105 (g : GH h) {i : Int32} (h0 : 0 ≤ i.toInt) (h1 : i.toInt < 7) : xaI h 105 10 i = some (h.2.1 105 i.toInt.toNat) := e_aI (gs105 g) (nI_n h0) (by omega) (by decide)
theorem sI105 (g : GH h) {i : Int32} {x : Int32} (h0 : 0 ≤ i.toInt) (h1 : i.toInt < 7) : xsI h 105 i x = some (sF h 105 (upd (h.2.1 105) i.toInt.toNat x)) := e_sI (gs105 g) (nI_n h0) (by omega) (by decide)
theorem aI106 (g : GH h) {i : Int32} (h0 : 0 ≤ i.toInt) (h1 : i.toInt < 100) : xaI h 106 10 i = some (h.2.1 106 i.toInt.toNat) := e_aI (gs106 g) (nI_n h0) (by omega) (by decide)
theorem sI106 (g : GH h) {i : Int32} {x : Int32} (h0 : 0 ≤ i.toInt) (h1 : i.toInt < 100) : xsI h 106 i x = some (sF h 106 (upd (h.2.1 106) i.toInt.toNat x)) := e_sI (gs106 g) (nI_n h0) (by omega) (by decide)
theorem aI107 (g : GH h) {i : Int32} (h0 : 0 ≤ i.toInt) (h1 : i.toInt < 100) : xaI h 107 10 i = some (h.2.1 107 i.toInt.toNat) := e_aI (gs107 g) (nI_n h0) (by omega) (by decide)
theorem sI107 (g : GH h) {i : Int32} {x : Int32} (h0 : 0 ≤ i.toInt) (h1 : i.toInt < 100) : xsI h 107 i x = some (sF h 107 (upd (h.2.1 107) i.toInt.toNat x)) := e_sI (gs107 g) (nI_n h0) (by omega) (by decide)
theorem aI108 (g : GH h) {i : Int32} (h0 : 0 ≤ i.toInt) (h1 : i.toInt < 150) : xaI h 108 10 i = some (h.2.1 108 i.toInt.toNat) := e_aI (gs108 g) (nI_n h0) (by omega) (by decide)
theorem sI108 (g : GH h) {i : Int32} {x : Int32} (h0 : 0 ≤ i.toInt) (h1 : i.toInt < 150) : xsI h 108 i x = some (sF h 108 (upd (h.2.1 108) i.toInt.toNat x)) := e_sI (gs108 g) (nI_n h0) (by omega) (by decide)
theorem aI109 (g : GH h) {i : Int32} (h0 : 0 ≤ i.toInt) (h1 : i.toInt < 78) : xaI h 109 10 i = some (h.2.1 109 i.toInt.toNat) := e_aI (gs109 g) (nI_n h0) (by omega) (by decide)
theorem sI109 (g : GH h) {i : Int32} {x : Int32} (h0 : 0 ≤ i.toInt) (h1 : i.toInt < 78) : xsI h 109 i x = some (sF h 109 (upd (h.2.1 109) i.toInt.toNat x)) := e_sI (gs109 g) (nI_n h0) (by omega) (by decide)
theorem aI110 (g : GH h) {i : Int32} (h0 : 0 ≤ i.toInt) (h1 : i.toInt < 4) : xaI h 110 10 i = some (h.2.1 110 i.toInt.toNat) := e_aI (gs110 g) (nI_n h0) (by omega) (by decide)
theorem sI110 (g : GH h) {i : Int32} {x : Int32} (h0 : 0 ≤ i.toInt) (h1 : i.toInt < 4) : xsI h 110 i x = some (sF h 110 (upd (h.2.1 110) i.toInt.toNat x)) := e_sI (gs110 g) (nI_n h0) (by omega) (by decide)
theorem aI2 (g : GH h) {i : Int32} (h0 : 0 ≤ i.toInt) (h1 : i.toInt < 10) : xaI h 2 10 i = some (h.2.1 2 i.toInt.toNat) := e_aI (gs2 g) (nI_n h0) (by omega) (by decide)
theorem sI2 (g : GH h) {i : Int32} {x : Int32} (h0 : 0 ≤ i.toInt) (h1 : i.toInt < 10) : xsI h 2 i x = some (sF h 2 (upd (h.2.1 2) i.toInt.toNat x)) := e_sI (gs2 g) (nI_n h0) (by omega) (by decide)
theorem aI3 (g : GH h) {i : Int32} (h0 : 0 ≤ i.toInt) (h1 : i.toInt < 7) : xaI h 3 10 i = some (h.2.1 3 i.toInt.toNat) := e_aI (gs3 g) (nI_n h0) (by omega) (by decide)
theorem sI3 (g : GH h) {i : Int32} {x : Int32} (h0 : 0 ≤ i.toInt) (h1 : i.toInt < 7) : xsI h 3 i x = some (sF h 3 (upd (h.2.1 3) i.toInt.toNat x)) := e_sI (gs3 g) (nI_n h0) (by omega) (by decide)
theorem aI4 (g : GH h) {i : Int32} (h0 : 0 ≤ i.toInt) (h1 : i.toInt < 7) : xaI h 4 10 i = some (h.2.1 4 i.toInt.toNat) := e_aI (gs4 g) (nI_n h0) (by omega) (by decide)
theorem sI4 (g : GH h) {i : Int32} {x : Int32} (h0 : 0 ≤ i.toInt) (h1 : i.toInt < 7) : xsI h 4 i x = some (sF h 4 (upd (h.2.1 4) i.toInt.toNat x)) := e_sI (gs4 g) (nI_n h0) (by omega) (by decide)
theorem aI5 (g : GH h) {i : Int32} (h0 : 0 ≤ i.toInt) (h1 : i.toInt < 7) : xaI h 5 10 i = some (h.2.1 5 i.toInt.toNat) := e_aI (gs5 g) (nI_n h0) (by omega) (by decide)
theorem sI5 (g : GH h) {i : Int32} {x : Int32} (h0 : 0 ≤ i.toInt) (h1 : i.toInt < 7) : xsI h 5 i x = some (sF h 5 (upd (h.2.1 5) i.toInt.toNat x)) := e_sI (gs5 g) (nI_n h0) (by omega) (by decide)
theorem aI6 (g : GH h) {i : Int32} (h0 : 0 ≤ i.toInt) (h1 : i.toInt < 7) : xaI h 6 10 i = some (h.2.1 6 i.toInt.toNat) := e_aI (gs6 g) (nI_n h0) (by omega) (by decide)
theorem sI6 (g : GH h) {i : Int32} {x : Int32} (h0 : 0 ≤ i.toInt) (h1 : i.toInt < 7) : xsI h 6 i x = some (sF h 6 (upd (h.2.1 6) i.toInt.toNat x)) := e_sI (gs6 g) (nI_n h0) (by omega) (by decide)
theorem aI7 (g : GH h) {i : Int32} (h0 : 0 ≤ i.toInt) (h1 : i.toInt < 7) : xaI h 7 10 i = some (h.2.1 7 i.toInt.toNat) := e_aI (gs7 g) (nI_n h0) (by omega) (by decide)
theorem sI7 (g : GH h) {i : Int32} {x : Int32} (h0 : 0 ≤ i.toInt) (h1 : i.toInt < 7) : xsI h 7 i x = some (sF h 7 (upd (h.2.1 7) i.toInt.toNat x)) := e_sI (gs7 g) (nI_n h0) (by omega) (by decide)
theorem aI8 (g : GH h) {i : Int32} (h0 : 0 ≤ i.toInt) (h1 : i.toInt < 6) : xaI h 8 10 i = some (h.2.1 8 i.toInt.toNat) := e_aI (gs8 g) (nI_n h0) (by omega) (by decide)
theorem sI8 (g : GH h) {i : Int32} {x : Int32} (h0 : 0 ≤ i.toInt) (h1 : i.toInt < 6) : xsI h 8 i x = some (sF h 8 (upd (h.2.1 8) i.toInt.toNat x)) := e_sI (gs8 g) (nI_n h0) (by omega) (by decide)
theorem aI9 (g : GH h) {i : Int32} (h0 : 0 ≤ i.toInt) (h1 : i.toInt < 6) : xaI h 9 10 i = some (h.2.1 9 i.toInt.toNat) := e_aI (gs9 g) (nI_n h0) (by omega) (by decide)
theorem sI9 (g : GH h) {i : Int32} {x : Int32} (h0 : 0 ≤ i.toInt) (h1 : i.toInt < 6) : xsI h 9 i x = some (sF h 9 (upd (h.2.1 9) i.toInt.toNat x)) := e_sI (gs9 g) (nI_n h0) (by omega) (by decide)
theorem aI10 (g : GH h) {i : Int32} (h0 : 0 ≤ i.toInt) (h1 : i.toInt < 6) : xaI h 10 10 i = some (h.2.1 10 i.toInt.toNat) := e_aI (gs10 g) (nI_n h0) (by omega) (by decide)
theorem sI10 (g : GH h) {i : Int32} {x : Int32} (h0 : 0 ≤ i.toInt) (h1 : i.toInt < 6) : xsI h 10 i x = some (sF h 10 (upd (h.2.1 10) i.toInt.toNat x)) := e_sI (gs10 g) (nI_n h0) (by omega) (by decide)
theorem aI11 (g : GH h) {i : Int32} (h0 : 0 ≤ i.toInt) (h1 : i.toInt < 6) : xaI h 11 10 i = some (h.2.1 11 i.toInt.toNat) := e_aI (gs11 g) (nI_n h0) (by omega) (by decide)
theorem sI11 (g : GH h) {i : Int32} {x : Int32} (h0 : 0 ≤ i.toInt) (h1 : i.toInt < 6) : xsI h 11 i x = some (sF h 11 (upd (h.2.1 11) i.toInt.toNat x)) := e_sI (gs11 g) (nI_n h0) (by omega) (by decide)
theorem aIb1 {b : Nat} (g : GH h) (hb : isB b) {i : Int32} (h0 : 0 ≤ i.toInt) (h1 : i.toInt < 10) : xaI h (b + 1) 10 i = some (h.2.1 (b + 1) i.toInt.toNat) := e_aI (gb1 g hb) (nI_n h0) (by omega) (by decide)
theorem sIb1 {b : Nat} (g : GH h) (hb : isB b) {i : Int32} {x : Int32} (h0 : 0 ≤ i.toInt) (h1 : i.toInt < 10) : xsI h (b + 1) i x = some (sF h (b + 1) (upd (h.2.1 (b + 1)) i.toInt.toNat x)) := e_sI (gb1 g hb) (nI_n h0) (by omega) (by decide)
theorem aIb2 {b : Nat} (g : GH h) (hb : isB b) {i : Int32} (h0 : 0 ≤ i.toInt) (h1 : i.toInt < 7) : xaI h (b + 2) 10 i = some (h.2.1 (b + 2) i.toInt.toNat) := e_aI (gb2 g hb) (nI_n h0) (by omega) (by decide)
theorem sIb2 {b : Nat} (g : GH h) (hb : isB b) {i : Int32} {x : Int32} (h0 : 0 ≤ i.toInt) (h1 : i.toInt < 7) : xsI h (b + 2) i x = some (sF h (b + 2) (upd (h.2.1 (b + 2)) i.toInt.toNat x)) := e_sI (gb2 g hb) (nI_n h0) (by omega) (by decide)
theorem aIb3 {b : Nat} (g : GH h) (hb : isB b) {i : Int32} (h0 : 0 ≤ i.toInt) (h1 : i.toInt < 7) : xaI h (b + 3) 10 i = some (h.2.1 (b + 3) i.toInt.toNat) := e_aI (gb3 g hb) (nI_n h0) (by omega) (by decide)
theorem sIb3 {b : Nat} (g : GH h) (hb : isB b) {i : Int32} {x : Int32} (h0 : 0 ≤ i.toInt) (h1 : i.toInt < 7) : xsI h (b + 3) i x = some (sF h (b + 3) (upd (h.2.1 (b + 3)) i.toInt.toNat x)) := e_sI (gb3 g hb) (nI_n h0) (by omega) (by decide)
theorem aIb4 {b : Nat} (g : GH h) (hb : isB b) {i : Int32} (h0 : 0 ≤ i.toInt) (h1 : i.toInt < 7) : xaI h (b + 4) 10 i = some (h.2.1 (b + 4) i.toInt.toNat) := e_aI (gb4 g hb) (nI_n h0) (by omega) (by decide)
theorem sIb4 {b : Nat} (g : GH h) (hb : isB b) {i : Int32} {x : Int32} (h0 : 0 ≤ i.toInt) (h1 : i.toInt < 7) : xsI h (b + 4) i x = some (sF h (b + 4) (upd (h.2.1 (b + 4)) i.toInt.toNat x)) := e_sI (gb4 g hb) (nI_n h0) (by omega) (by decide)
theorem aIb5 {b : Nat} (g : GH h) (hb : isB b) {i : Int32} (h0 : 0 ≤ i.toInt) (h1 : i.toInt < 7) : xaI h (b + 5) 10 i = some (h.2.1 (b + 5) i.toInt.toNat) := e_aI (gb5 g hb) (nI_n h0) (by omega) (by decide)
theorem sIb5 {b : Nat} (g : GH h) (hb : isB b) {i : Int32} {x : Int32} (h0 : 0 ≤ i.toInt) (h1 : i.toInt < 7) : xsI h (b + 5) i x = some (sF h (b + 5) (upd (h.2.1 (b + 5)) i.toInt.toNat x)) := e_sI (gb5 g hb) (nI_n h0) (by omega) (by decide)
theorem aIb6 {b : Nat} (g : GH h) (hb : isB b) {i : Int32} (h0 : 0 ≤ i.toInt) (h1 : i.toInt < 7) : xaI h (b + 6) 10 i = some (h.2.1 (b + 6) i.toInt.toNat) := e_aI (gb6 g hb) (nI_n h0) (by omega) (by decide)
theorem sIb6 {b : Nat} (g : GH h) (hb : isB b) {i : Int32} {x : Int32} (h0 : 0 ≤ i.toInt) (h1 : i.toInt < 7) : xsI h (b + 6) i x = some (sF h (b + 6) (upd (h.2.1 (b + 6)) i.toInt.toNat x)) := e_sI (gb6 g hb) (nI_n h0) (by omega) (by decide)
theorem aIb7 {b : Nat} (g : GH h) (hb : isB b) {i : Int32} (h0 : 0 ≤ i.toInt) (h1 : i.toInt < 6) : xaI h (b + 7) 10 i = some (h.2.1 (b + 7) i.toInt.toNat) := e_aI (gb7 g hb) (nI_n h0) (by omega) (by decide)
theorem sIb7 {b : Nat} (g : GH h) (hb : isB b) {i : Int32} {x : Int32} (h0 : 0 ≤ i.toInt) (h1 : i.toInt < 6) : xsI h (b + 7) i x = some (sF h (b + 7) (upd (h.2.1 (b + 7)) i.toInt.toNat x)) := e_sI (gb7 g hb) (nI_n h0) (by omega) (by decide)
theorem aIb8 {b : Nat} (g : GH h) (hb : isB b) {i : Int32} (h0 : 0 ≤ i.toInt) (h1 : i.toInt < 6) : xaI h (b + 8) 10 i = some (h.2.1 (b + 8) i.toInt.toNat) := e_aI (gb8 g hb) (nI_n h0) (by omega) (by decide)
theorem sIb8 {b : Nat} (g : GH h) (hb : isB b) {i : Int32} {x : Int32} (h0 : 0 ≤ i.toInt) (h1 : i.toInt < 6) : xsI h (b + 8) i x = some (sF h (b + 8) (upd (h.2.1 (b + 8)) i.toInt.toNat x)) := e_sI (gb8 g hb) (nI_n h0) (by omega) (by decide)
theorem aIb9 {b : Nat} (g : GH h) (hb : isB b) {i : Int32} (h0 : 0 ≤ i.toInt) (h1 : i.toInt < 6) : xaI h (b + 9) 10 i = some (h.2.1 (b + 9) i.toInt.toNat) := e_aI (gb9 g hb) (nI_n h0) (by omega) (by decide)
theorem sIb9 {b : Nat} (g : GH h) (hb : isB b) {i : Int32} {x : Int32} (h0 : 0 ≤ i.toInt) (h1 : i.toInt < 6) : xsI h (b + 9) i x = some (sF h (b + 9) (upd (h.2.1 (b + 9)) i.toInt.toNat x)) := e_sI (gb9 g hb) (nI_n h0) (by omega) (by decide)
theorem aIb10 {b : Nat} (g : GH h) (hb : isB b) {i : Int32} (h0 : 0 ≤ i.toInt) (h1 : i.toInt < 6) : xaI h (b + 10) 10 i = some (h.2.1 (b + 10) i.toInt.toNat) := e_aI (gb10 g hb) (nI_n h0) (by omega) (by decide)
theorem sIb10 {b : Nat} (g : GH h) (hb : isB b) {i : Int32} {x : Int32} (h0 : 0 ≤ i.toInt) (h1 : i.toInt < 6) : xsI h (b + 10) i x = some (sF h (b + 10) (upd (h.2.1 (b + 10)) i.toInt.toNat x)) := e_sI (gb10 g hb) (nI_n h0) (by omega) (by decide)
end CELLS
