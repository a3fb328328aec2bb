section THROUGH
variable {h : Hp}
theorem xcp7_e {a b : Nat} (ha : h.1[a]? = some (10, 7)) (hb : h.1[b]? = some (10, 7)) : xcp h a 0 b 0 7 = some (sF h b (fun k => if k < 7 then h.2.1 a k else h.2.1 b k)) := by
  unfold xcp
  rw [ha, Option.bind_some, hb, Option.bind_some, if_pos (by decide)]
  unfold scp sF
  congr 3
  funext c k
  by_cases z : c = b
  · subst z
    by_cases z2 : k < 7
    · simp [z2, va_cpy]
    · simp [z2, va_cpy]
  · simp [z]
theorem goOn_e (g : GH h) : fX3_goOn 66 1 h = some (sF (sF (sF h 67 (tk (h.2.1 67) (h.2.1 12))) 68 (fun k => if k < 7 then h.2.1 5 k else h.2.1 68 k)) 66 (upd (h.2.1 66) 2 0)) := by
  have gg : ∀ a F, GH (sF h a F) := fun a F => g
  have g2 : ∀ a F b G, GH (sF (sF h a F) b G) := fun a F b G => g
  simp only [fX3_goOn, fX3_boardAsTold]
  rw [gR66_0 g, Option.bind_some, gR1_13 g, Option.bind_some, gT67 g, take_e (gs67 g) (gs12 g) (by decide), Option.bind_some, gT66 (gg _ _), gR1_5 (gg _ _), Option.bind_some, gR66_1 (gg _ _), Option.bind_some, xcp7_e (gs5 (gg _ _)) (gs68 (gg _ _)), Option.bind_some, pI66 (g2 _ _ _ _), Option.bind_some]
  simp [sF_I]
/-- the journey from stop k0 through stop k0 + M - 1 -/
theorem through_e {f on F : Nat → Int32} {k0 M : Nat} {y : (Nat × Nat × Nat) × Int32} {lift e : Int32} (g : GH h) (B : BT h f) (W : WF f) (hM : k0 + M ≤ 10) (he : e + 1 = nI (k0 + M)) (he2 : ∀ m, k0 + m ≤ 10 → (e < nI (k0 + m) ↔ M ≤ m)) (ho : ∀ i, i < nn f → h.2.1 68 i = on i) (hx : y.1.1 < 128 ∧ y.1.2.1 < 128 ∧ y.1.2.2 < 128) (hl : h.2.1 66 2 = lift) (e0 : h.2.1 67 0 = nI k0) (e1 : h.2.1 67 1 = nI y.1.1) (e2 : h.2.1 67 2 = nI y.1.2.1) (e3 : h.2.1 67 3 = nI y.1.2.2) (e4 : h.2.1 67 4 = y.2) : fX3_passThrough 66 1 e h = some (sF h 67 (rwN (h.2.1 67) (tr f on (fun k => f (9 + k) + lift) (fun k => decide (f (9 + k) = 0)) k0 y M).1 (tr f on (fun k => f (9 + k) + lift) (fun k => decide (f (9 + k) = 0)) k0 y M).2 (nI (k0 + M)))) := by
  have gg : ∀ F, GH (sF h 67 F) := fun F => g
  have lp : xloop (fX3_passThrough_b8 66 1 e) 1000000 (nI k0, h) = some (sF h 67 (rwN (h.2.1 67) (tr f on (fun k => f (9 + k) + lift) (fun k => decide (f (9 + k) = 0)) k0 y M).1 (tr f on (fun k => f (9 + k) + lift) (fun k => decide (f (9 + k) = 0)) k0 y M).2 (nI (k0 + M)))) := by
    refine xloop_c (fun m => (nI (k0 + m), sF h 67 (rwN (h.2.1 67) (tr f on (fun k => f (9 + k) + lift) (fun k => decide (f (9 + k) = 0)) k0 y m).1 (tr f on (fun k => f (9 + k) + lift) (fun k => decide (f (9 + k) = 0)) k0 y m).2 (nI (k0 + m))))) _ M (by omega) ?_ ?_ ?_
    · intro m hm
      have pm := pass_m (h := h) (r := 67) (w := 68) (k0 := k0) (m := m) (lift := lift) g (Or.inr rfl) (Or.inr rfl) B W (by omega) ho hx (h.2.1 67)
      simp only [fX3_passThrough_b8]
      rw [if_neg (by rw [he2 m (by omega)]; omega), gR66_0 (gg _), Option.bind_some, gR66_1 (gg _), Option.bind_some, gI66 (gg _), Option.bind_some, gT1 (gg _)]
      have : ∀ F, (sF h 67 F).2.1 66 2 = lift := fun F => by simp [sF_I, hl]
      rw [this, pm, Option.bind_some, nI_1]; rfl
    · simp only [fX3_passThrough_b8]
      rw [if_pos (by rw [he2 M hM]; omega)]
    · simp only [tr, Nat.add_zero]
      rw [rwN_same e0 e1 e2 e3 e4, sF_same]
  simp only [fX3_passThrough]
  rw [gR66_0 g, Option.bind_some, gI67 g, Option.bind_some, e0, lp, Option.bind_some]
end THROUGH
