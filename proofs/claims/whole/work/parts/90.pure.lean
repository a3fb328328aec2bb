theorem pure_law (η : xEnv) (hL : η.2.2.2.2.1 ≤ 320) : ∃ hf, fL_law η xh0 = some (1, hf) ∧ xn hf ≤ 600000 ∧ xm hf ≤ 7302250 := sorry
