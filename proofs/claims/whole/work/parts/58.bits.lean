theorem sm_l : ∀ n, n < 32 → ((nI n &&& 31).toBitVec.smod 32).toNat = n := by decide +kernel
theorem bt1_nI {q o : Nat} (hq : q < 2 ^ 31) (ho : o < 31) : bt1 (nI q) o = nI (q / 2 ^ o % 2) := by
  unfold bt1
  rw [pk_shrN hq _ o (sm_l o (by omega))]
  have h : q / 2 ^ o < 2 ^ 32 := by
    have := Nat.div_le_self q (2 ^ o)
    omega
  have e := pk_andN h (m := 1) 1 (by decide)
  rw [e]
theorem or_bit : ∀ q, q < 128 → ∀ b, b < 7 → nI q ||| ((1 : Int32) <<< (nI b &&& 31)) = nI (q ||| 2 ^ b) := by decide +kernel
theorem off_bit : ∀ q, q < 128 → ∀ b, b < 7 → nI q &&& (((1 : Int32) <<< (nI b &&& 31)) ^^^ (-1)) = nI (q &&& (127 - 2 ^ b)) := by decide +kernel
theorem or_b1 : ∀ q, q < 128 → ∀ b, b < 7 → ∀ o, o < 7 → (q ||| 2 ^ b) / 2 ^ o % 2 = if o = b then 1 else q / 2 ^ o % 2 := by decide +kernel
theorem off_b1 : ∀ q, q < 128 → ∀ b, b < 7 → ∀ o, o < 7 → (q &&& (127 - 2 ^ b)) / 2 ^ o % 2 = if o = b then 0 else q / 2 ^ o % 2 := by decide +kernel
theorem or_lt : ∀ n, n ≤ 7 → ∀ q, q < 2 ^ n → ∀ b, b < n → (q ||| 2 ^ b) < 2 ^ n := by decide +kernel
theorem off_lt : ∀ n, n ≤ 7 → ∀ q, q < 2 ^ n → ∀ b, b < n → (q &&& (127 - 2 ^ b)) < 2 ^ n := by decide +kernel
theorem hi_b0 : ∀ n, n ≤ 7 → ∀ q, q < 2 ^ n → ∀ o, o < 8 → n ≤ o → q / 2 ^ o % 2 = 0 := by decide +kernel
theorem pw7 {n : Nat} (h : n ≤ 7) : 2 ^ n ≤ 128 := by
  have : ∀ n, n ≤ 7 → 2 ^ n ≤ 128 := by decide
  exact this n h
theorem pwI (n : Nat) : ((2 ^ n : Nat) : Int) = 2 ^ n := by simp
/-- what an idea's foes are, as a number -/
theorem foes_n {f : Nat → Int32} (H : WF f) {i : Nat} (hi : i < nn f) : ∃ q, q < 2 ^ nn f ∧ f (47 + i) = nI q := by
  obtain ⟨-, -, -, -, h0, h1⟩ := H.2.2.1 i hi
  refine ⟨(f (47 + i)).toInt.toNat, ?_, nI_n h0⟩
  have e := pwI (nn f)
  omega
