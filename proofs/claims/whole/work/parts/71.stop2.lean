section STOP2
variable {h : Hp}
def isW (w : Nat) : Prop := w = 5 ∨ w = 68
theorem gsW {w : Nat} (g : GH h) (hw : isW w) : h.1[w]? = some (10, 7) := by
  rw [g.1]; rcases hw with rfl | rfl <;> rfl
theorem xal_7 {w : Nat} (hs : h.1[w]? = some (10, 7)) : xal h w = some (nI 7) := by
  unfold xal; rw [hs, Option.bind_some, if_pos rfl]; rfl
theorem letOn_e {f on : Nat → Int32} {r w : Nat} {p : Nat × Nat} {s : Int32} (g : GH h) (hr : isR r) (hw : isW w) (B : BT h f) (n7 : nn f ≤ 7) (ho : ∀ i, i < nn f → h.2.1 w i = on i) (hp : p.1 < 128 ∧ p.2 < 128) (e1 : h.2.1 r 1 = nI p.1) (e3 : h.2.1 r 3 = nI p.2) : fX0_letOn 1 r s w h = some (sF h r (upd (upd (h.2.1 r) 1 (nI (onN f on s p (nn f)).1)) 3 (nI (onN f on s p (nn f)).2))) := by
  have hb : isB 1 := Or.inl rfl
  have hrw : ¬ w = r := by rcases hr with rfl | rfl <;> rcases hw with rfl | rfl <;> decide
  have hl : xloop (fX0_letOn_b3 1 r s w) 1000000 (0, h) = some (sF h r (upd (upd (h.2.1 r) 1 (nI (onN f on s p (nn f)).1)) 3 (nI (onN f on s p (nn f)).2))) := by
    refine xloop_c (fun i => (nI i, sF h r (upd (upd (h.2.1 r) 1 (nI (onN f on s p i).1)) 3 (nI (onN f on s p i).2)))) _ (nn f) (by omega) ?_ ?_ ?_
    · intro i hi
      obtain ⟨l1, l2⟩ := onN_lt (f := f) (on := on) (s := s) hp i (by omega)
      simp only [onN]
      generalize hq : onN f on s p i = q at l1 l2
      generalize hh : sF h r (upd (upd (h.2.1 r) 1 (nI q.1)) 3 (nI q.2)) = h1
      have g' : GH h1 := by rw [← hh]; exact g
      have B' : BT h1 f := by rw [← hh]; exact BT_F B hr
      have w1 : h1.2.1 w = h.2.1 w := by rw [← hh]; simp [sF_I, hrw]
      have r1 : h1.2.1 r 1 = nI q.1 := by rw [← hh]; simp [sF_I, upd_e]
      have r3 : h1.2.1 r 3 = nI q.2 := by rw [← hh]; simp [sF_I, upd_e]
      have rr : h1.2.1 r = upd (upd (h.2.1 r) 1 (nI q.1)) 3 (nI q.2) := by rw [← hh]; simp [sF_I]
      have s1 : ∀ F, sF h1 r F = sF h r F := fun F => by rw [← hh, sF_s]
      have hal : xal h1 w = some (nI 7) := xal_7 (gsW g' hw)
      have u3 : upd (upd (upd (h.2.1 r) 1 (nI q.1)) 3 (nI q.2)) 3 (nI (q.2 ||| 2 ^ i)) = upd (upd (h.2.1 r) 1 (nI q.1)) 3 (nI (q.2 ||| 2 ^ i)) := by
        funext k; simp only [upd_e]; by_cases z : k = 3 <;> simp [z]
      have u1 : upd (upd (upd (h.2.1 r) 1 (nI q.1)) 3 (nI q.2)) 1 (nI (q.1 ||| 2 ^ i)) = upd (upd (h.2.1 r) 1 (nI (q.1 ||| 2 ^ i))) 3 (nI q.2) := by
        funext k; simp only [upd_e]; by_cases z : k = 3 <;> by_cases z2 : k = 1 <;> simp [z, z2]
      simp only [fX0_letOn_b3, fX0_letOn_j63, fX0_letOn_j64, fX0_letOn_j100]
      rw [gIb g' hb, Option.bind_some, B'.1, if_neg (by rw [le_nI (by omega) (by omega)]; omega), hal, Option.bind_some, if_neg (by rw [le_nI (by omega) (by omega)]; omega), e_aI (gsW g' hw) rfl (by omega) (by decide), Option.bind_some, w1, ho i hi, nI_1]
      by_cases z1 : on i = s
      · rw [if_pos z1, if_pos z1]
        have o1 := or_bit _ l1 i (by omega)
        have o2 := or_bit _ l2 i (by omega)
        rw [e_gI (gsR g' hr), Option.bind_some, r1, bcnt_e l1, Option.bind_some, gIb g' hb, Option.bind_some, B'.2.1, gRb7 g' hb]
        simp only [Option.bind_some, if_true, ne10, if_false]
        rw [e_gI (gsR g' hr), r3, o1]
        simp only [Option.bind_some]
        rw [o2, e_pI (gsR g' hr), e_pI (gsR g' hr)]
        simp only [Option.bind_some]
        rw [s1, s1, rr, u3, u1]
        by_cases z2 : f 8 ≤ nI (bcn q.1)
        · rw [if_pos z2, if_pos (Or.inl z2)]
        · rw [if_neg z2, aNb6 g' hb (by omega), Option.bind_some, (B'.2.2.2 i hi).2.2.2]
          by_cases z3 : f (47 + i) &&& nI q.1 = 0
          · rw [if_pos z3, if_neg (fun z => z.elim z2 (fun w => w z3))]
          · rw [if_neg z3, if_pos (Or.inr z3)]
      · rw [if_neg z1, if_neg z1, ← hh]
    · simp only [fX0_letOn_b3]
      have g' : GH (sF h r (upd (upd (h.2.1 r) 1 (nI (onN f on s p (nn f)).1)) 3 (nI (onN f on s p (nn f)).2))) := g
      rw [gIb g' hb, Option.bind_some, (BT_F B hr).1, if_pos (by rw [le_nI (by omega) (by omega)]; omega)]
    · simp only [onN]; rw [upd_self e1, upd_self e3, sF_same]; rfl
  simp only [fX0_letOn, fX0_letOn_j106, hl, Option.bind_some]
theorem scrape_e {f : Nat → Int32} {r k : Nat} {p : Nat × Nat} {lift : Int32} (g : GH h) (hr : isR r) (B : BT h f) (W : WF f) (hk : k < 10) (hp : p.1 < 128 ∧ p.2 < 128) (e1 : h.2.1 r 1 = nI p.1) (e3 : h.2.1 r 2 = nI p.2) : fX0_scrape 1 r (nI k) lift h = some (if f (9 + k) = 0 then h else sF h r (upd (upd (h.2.1 r) 1 (nI (scN f (nI k) (f (9 + k) + lift) p (nn f)).1)) 2 (nI (scN f (nI k) (f (9 + k) + lift) p (nn f)).2))) := by
  have n7 := (n_eq W).2.1
  have hb : isB 1 := Or.inl rfl
  have hl : xloop (fX0_scrape_b13 1 r (nI k) lift) 1000000 (0, h) = some (sF h r (upd (upd (h.2.1 r) 1 (nI (scN f (nI k) (f (9 + k) + lift) p (nn f)).1)) 2 (nI (scN f (nI k) (f (9 + k) + lift) p (nn f)).2))) := by
    refine xloop_c (fun i => (nI i, sF h r (upd (upd (h.2.1 r) 1 (nI (scN f (nI k) (f (9 + k) + lift) p i).1)) 2 (nI (scN f (nI k) (f (9 + k) + lift) p i).2)))) _ (nn f) (by omega) ?_ ?_ ?_
    · intro i hi
      obtain ⟨l1, l2⟩ := scN_lt (f := f) (s := nI k) (hg := f (9 + k) + lift) hp i (by omega)
      simp only [scN]
      generalize hq : scN f (nI k) (f (9 + k) + lift) p i = q at l1 l2
      generalize hh : sF h r (upd (upd (h.2.1 r) 1 (nI q.1)) 2 (nI q.2)) = h1
      have g' : GH h1 := by rw [← hh]; exact g
      have B' : BT h1 f := by rw [← hh]; exact BT_F B hr
      have r1 : h1.2.1 r 1 = nI q.1 := by rw [← hh]; simp [sF_I, upd_e]
      have rr : h1.2.1 r = upd (upd (h.2.1 r) 1 (nI q.1)) 2 (nI q.2) := by rw [← hh]; simp [sF_I]
      have s1 : ∀ F, sF h1 r F = sF h r F := fun F => by rw [← hh, sF_s]
      have gg : ∀ F, GH (sF h r F) := fun F => g
      have u1 : upd (upd (upd (upd (h.2.1 r) 1 (nI q.1)) 2 (nI q.2)) 1 (nI (q.1 &&& (127 - 2 ^ i)))) 2 (nI (q.2 ||| 2 ^ i)) = upd (upd (h.2.1 r) 1 (nI (q.1 &&& (127 - 2 ^ i)))) 2 (nI (q.2 ||| 2 ^ i)) := by
        funext k; simp only [upd_e]; by_cases z : k = 2 <;> by_cases z2 : k = 1 <;> simp [z, z2]
      simp only [fX0_scrape_b13, fX0_scrape_j85]
      rw [gIb g' hb, Option.bind_some, B'.1, if_neg (by rw [le_nI (by omega) (by omega)]; omega), e_gI (gsR g' hr), Option.bind_some, r1, bit_e, Option.bind_some, gRb3 g' hb, Option.bind_some, aNb2 g' hb (by omega), Option.bind_some, (B'.2.2.2 i hi).1, tallOf_e (W.2.2.1 i hi).1, Option.bind_some, gRb1 g' hb, Option.bind_some, aNb1 g' hb hk, Option.bind_some, B'.2.2.1 k hk, Option.bind_some, off_bit _ l1 i (by omega), e_pI (gsR g' hr), Option.bind_some, s1, rr, e_gI (gsR (gg _) hr), Option.bind_some, e_pI (gsR (gg _) hr), Option.bind_some, sF_s, nI_1]
      simp only [sF_I, if_true]
      have v2 : upd (upd (upd (h.2.1 r) 1 (nI q.1)) 2 (nI q.2)) 1 (nI (q.1 &&& (127 - 2 ^ i))) 2 = nI q.2 := by simp [upd_e]
      rw [v2, or_bit _ l2 i (by omega), u1]
      show (if bt1 (nI q.1) i = 1 then _ else _) = _
      by_cases z1 : bt1 (nI q.1) i = 1
      · by_cases z2 : taS (f (19 + i)) (nI k) ≤ f (9 + k) + lift
        · rw [if_pos z1, if_pos z2, if_neg (by simp [z2]), ← hh]
        · rw [if_pos z1, if_neg z2, if_pos ⟨z1, z2⟩]
      · rw [if_neg z1, if_neg (by simp [z1]), ← hh]
    · simp only [fX0_scrape_b13]
      have g' : GH (sF h r (upd (upd (h.2.1 r) 1 (nI (scN f (nI k) (f (9 + k) + lift) p (nn f)).1)) 2 (nI (scN f (nI k) (f (9 + k) + lift) p (nn f)).2))) := g
      rw [gIb g' hb, Option.bind_some, (BT_F B hr).1, if_pos (by rw [le_nI (by omega) (by omega)]; omega)]
    · simp only [scN]; rw [upd_self e1, upd_self e3, sF_same]; rfl
  simp only [fX0_scrape]
  rw [gRb1 g hb, Option.bind_some, aNb1 g hb hk, Option.bind_some, B.2.2.1 k hk]
  by_cases z : f (9 + k) = 0
  · rw [if_pos z, if_pos z]
  · rw [if_neg z, if_neg z, hl, Option.bind_some]
end STOP2
