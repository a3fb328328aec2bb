/-! THE PURE PART: what the functions answer. The cells: 0 IdeasDeck; buses at 1, 23, 44 (images), 78 (the reader's), each 21 cells; 22 images; 65 kept; 66 Journey, 67 its ride, 68 boarding; 69 Decks, 70; 71 Sets; 72 Two, 73, 74; 75 Fraction; 76 Reader, 77 text; 99 the model, 100 told, 101 kept, 102 isKept, 103 refused, 104 hand, 105 lies, 106 his, 107 theirs, 108 bytes, 109 anew, 110 values. -/
def busSh : List (Nat × Nat) := [(0, 16), (10, 10), (10, 7), (10, 7), (10, 7), (10, 7), (10, 7), (10, 6), (10, 6), (10, 6), (10, 6), (5, 5), (13, 8), (5, 5), (5, 5), (5, 5), (5, 5), (5, 5), (5, 5), (5, 5), (5, 5)]
def SH : List (Nat × Nat) := (8, 12) :: (busSh ++ ((12, 2) :: (busSh ++ (busSh ++ ([(11, 2), (3, 3), (5, 5), (10, 7), (1, 1), (10, 7), (6, 3), (7, 4), (10, 100), (10, 100), (2, 2), (4, 8), (10, 150)] ++ (busSh ++ [(9, 18), (10, 118), (10, 236), (11, 2), (10, 3), (10, 54), (10, 7), (10, 100), (10, 100), (10, 150), (10, 78), (10, 4)]))))))
def isB (b : Nat) : Prop := b = 1 ∨ b = 23 ∨ b = 44 ∨ b = 78
theorem shB {b : Nat} (hb : isB b) : ∀ k, k < 21 → SH[b + k]? = busSh[k]? := by
  rcases hb with rfl | rfl | rfl | rfl <;> decide
/-- rows of ints, replaced whole -/
def sF (h : Hp) (a : Nat) (g : Nat → Int32) : Hp := (h.1, fun a' => if a' = a then g else h.2.1 a', h.2.2)
theorem sI_F (h : Hp) (a j : Nat) (x : Int32) : sI h a j x = sF h a (upd (h.2.1 a) j x) := by
  unfold sI sF
  congr 2
  funext a' j'
  by_cases ha : a' = a
  · subst ha
    by_cases hj : j' = j <;> simp [upd, hj]
  · simp [ha]
theorem sF_1 (h : Hp) (a : Nat) (g : Nat → Int32) : (sF h a g).1 = h.1 := rfl
theorem sF_R (h : Hp) (a : Nat) (g : Nat → Int32) : (sF h a g).2.2.2 = h.2.2.2 := rfl
theorem sF_L (h : Hp) (a : Nat) (g : Nat → Int32) : (sF h a g).2.2.1 = h.2.2.1 := rfl
theorem sF_I (h : Hp) (a a' : Nat) (g : Nat → Int32) : (sF h a g).2.1 a' = if a' = a then g else h.2.1 a' := rfl
theorem sF_s (h : Hp) (a : Nat) (g g' : Nat → Int32) : sF (sF h a g) a g' = sF h a g' := by
  unfold sF; congr 2; funext a'; by_cases ha : a' = a <;> simp [ha]
theorem sF_same (h : Hp) (a : Nat) : sF h a (h.2.1 a) = h := by
  unfold sF
  have : (fun a' => if a' = a then h.2.1 a else h.2.1 a') = h.2.1 := by funext a'; by_cases ha : a' = a <;> simp [ha]
  rw [this]
theorem nI_n {x : Int32} (h : 0 ≤ x.toInt) : x = nI x.toInt.toNat := by
  have h2 := (fb_rng x).2
  rw [fa_eq, nI_toInt (by omega)]
  omega
theorem nI_c {k : Nat} (h : k < 2 ^ 31) : (nI k).toNatClampNeg = k := nI_clamp h
-- reading and writing the abstract heap
section RW
variable {h : Hp} {a : Nat} {s : Nat × Nat}
theorem e_gI (hs : h.1[a]? = some s) (j : Nat) : xgI h a s j = some (h.2.1 a j) := by unfold xgI; rw [if_pos hs]
theorem e_gL (hs : h.1[a]? = some s) (j : Nat) : xgL h a s j = some (h.2.2.1 a j) := by unfold xgL; rw [if_pos hs]
theorem e_gR (hs : h.1[a]? = some s) (j : Nat) : xgR h a s j = h.2.2.2 a j := by unfold xgR; rw [if_pos hs]
theorem e_pI (hs : h.1[a]? = some s) (j : Nat) (x : Int32) : xpI h a s j x = some (sF h a (upd (h.2.1 a) j x)) := by unfold xpI; rw [if_pos hs, sI_F]
theorem e_pL (hs : h.1[a]? = some s) (j : Nat) (x : Int64) : xpL h a s j x = some (sL h a j x) := by unfold xpL; rw [if_pos hs]
theorem e_at {α : Type} (hs : h.1[a]? = some s) (o : Option α) : xat h a s o = o := by unfold xat; rw [if_pos hs]
theorem e_aI {kk n k : Nat} {i : Int32} (hs : h.1[a]? = some (kk, n)) (hi : i = nI k) (hk : k < n) (hn : n < 2 ^ 31) : xaI h a kk i = some (h.2.1 a k) := by
  subst hi
  unfold xaI
  rw [hs, Option.bind_some, if_pos ⟨rfl, by rw [nI_toInt (by omega)]; omega, by rw [nI_toInt (by omega)]; simp only; omega⟩, nI_c (by omega)]
theorem e_aR {kk n k : Nat} {i : Int32} (hs : h.1[a]? = some (kk, n)) (hi : i = nI k) (hk : k < n) (hn : n < 2 ^ 31) : xaR h a kk i = h.2.2.2 a k := by
  subst hi
  unfold xaR
  rw [hs, Option.bind_some, if_pos ⟨rfl, by rw [nI_toInt (by omega)]; omega, by rw [nI_toInt (by omega)]; simp only; omega⟩, nI_c (by omega)]
theorem e_sI {n k : Nat} {i x : Int32} (hs : h.1[a]? = some (10, n)) (hi : i = nI k) (hk : k < n) (hn : n < 2 ^ 31) : xsI h a i x = some (sF h a (upd (h.2.1 a) k x)) := by
  subst hi
  unfold xsI
  rw [hs, Option.bind_some, if_pos ⟨rfl, by rw [nI_toInt (by omega)]; omega, by rw [nI_toInt (by omega)]; simp only; omega⟩, nI_c (by omega), sI_F]
theorem e_sZ {n k : Nat} {i x : Int32} (hs : h.1[a]? = some (11, n)) (hi : i = nI k) (hk : k < n) (hn : n < 2 ^ 31) : xsZ h a i x = some (sF h a (upd (h.2.1 a) k (vp_nar .boolean x))) := by
  subst hi
  unfold xsZ
  rw [hs, Option.bind_some, if_pos ⟨rfl, by rw [nI_toInt (by omega)]; omega, by rw [nI_toInt (by omega)]; simp only; omega⟩, nI_c (by omega), sI_F]
end RW
/-- a loop that counts -/
theorem xloop_n {σ ρ : Type} {body : σ → Option (σ ⊕ ρ)} (st : Nat → σ) (r : ρ) (N : Nat) (hs : ∀ i, i < N → body (st i) = some (.inl (st (i + 1)))) (hx : body (st N) = some (.inr r)) : ∀ (k i fuel : Nat), i + k = N → k < fuel → xloop body fuel (st i) = some r := by
  intro k
  induction k with
  | zero =>
    intro i fuel hi hf
    obtain ⟨f, rfl⟩ : ∃ f, fuel = f + 1 := ⟨fuel - 1, by omega⟩
    have e : i = N := by omega
    subst e
    simp [xloop, hx]
  | succ k ih =>
    intro i fuel hi hf
    obtain ⟨f, rfl⟩ : ∃ f, fuel = f + 1 := ⟨fuel - 1, by omega⟩
    simp only [xloop, hs i (by omega)]
    exact ih (i + 1) f (by omega) (by omega)
theorem xloop_c {σ ρ : Type} {body : σ → Option (σ ⊕ ρ)} (st : Nat → σ) (r : ρ) (N : Nat) (hN : N < 1000000) (hs : ∀ i, i < N → body (st i) = some (.inl (st (i + 1)))) (hx : body (st N) = some (.inr r)) {s0 : σ} (h0 : s0 = st 0) : xloop body 1000000 s0 = some r := by
  subst h0
  exact xloop_n st r N hs hx N 0 1000000 (by omega) hN
/-- the heaps of the run: their cells' kinds, and the references that never change -/
def GR (R : Nat → Nat → Option Nat) : Prop :=
  (∀ b, isB b → R b 1 = some (b + 1) ∧ R b 3 = some (b + 2) ∧ R b 4 = some (b + 3) ∧ R b 5 = some (b + 4) ∧ R b 6 = some (b + 5) ∧ R b 7 = some (b + 6) ∧ R b 9 = some (b + 7) ∧ R b 10 = some (b + 8) ∧ R b 11 = some (b + 9) ∧ R b 12 = some (b + 10) ∧ R b 13 = some (b + 11) ∧ R b 14 = some (b + 12)) ∧
  (R 0 0 = some 1 ∧ R 0 1 = some 22 ∧ R 0 2 = some 65 ∧ R 0 3 = some 66 ∧ R 0 4 = some 69 ∧ R 0 5 = some 71 ∧ R 0 6 = some 72 ∧ R 0 7 = some 75 ∧ R 0 8 = some 76) ∧
  (R 22 0 = some 23 ∧ R 22 1 = some 44 ∧ R 66 0 = some 67 ∧ R 66 1 = some 68 ∧ R 69 0 = some 70 ∧ R 72 0 = some 73 ∧ R 72 1 = some 74 ∧ R 76 0 = some 77 ∧ R 76 2 = some 78) ∧
  (R 99 0 = some 100 ∧ R 99 1 = some 101 ∧ R 99 2 = some 102 ∧ R 99 3 = some 103 ∧ R 99 6 = some 104 ∧ R 99 7 = some 105 ∧ R 99 8 = some 106 ∧ R 99 9 = some 107 ∧ R 99 10 = some 108 ∧ R 99 16 = some 109 ∧ R 99 17 = some 110)
def GH (h : Hp) : Prop := h.1 = SH ∧ GR h.2.2.2
theorem GH_F {h : Hp} {a : Nat} {g : Nat → Int32} : GH (sF h a g) = GH h := rfl
theorem GH_F2 {h : Hp} {a : Nat} {F : Nat → Int32} (g : GH h) : GH (sF h a F) := g
