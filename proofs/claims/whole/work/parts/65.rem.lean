section REM
variable {h : Hp}
/-- a row of references, replaced whole -/
def rR (h : Hp) (a : Nat) (F : Nat → Option Nat) : Hp := (h.1, h.2.1, h.2.2.1, fun a' => if a' = a then F else h.2.2.2 a')
theorem rR_1 (h : Hp) (a : Nat) (F : Nat → Option Nat) : (rR h a F).1 = h.1 := rfl
theorem rR_I (h : Hp) (a : Nat) (F : Nat → Option Nat) : (rR h a F).2.1 = h.2.1 := rfl
theorem rR_L (h : Hp) (a : Nat) (F : Nat → Option Nat) : (rR h a F).2.2.1 = h.2.2.1 := rfl
theorem rR_R (h : Hp) (a a' : Nat) (F : Nat → Option Nat) : (rR h a F).2.2.2 a' = if a' = a then F else h.2.2.2 a' := rfl
theorem rR_s (h : Hp) (a : Nat) (F F' : Nat → Option Nat) : rR (rR h a F) a F' = rR h a F' := by
  unfold rR; congr 3; funext a'; by_cases ha : a' = a <;> simp [ha]
theorem rR_same (h : Hp) (a : Nat) : rR h a (h.2.2.2 a) = h := by
  unfold rR
  have : (fun a' => if a' = a then h.2.2.2 a else h.2.2.2 a') = h.2.2.2 := by funext a'; by_cases ha : a' = a <;> simp [ha]
  rw [this]
theorem GH_r {b : Nat} (g : GH h) (hb : isB b) (F : Nat → Option Nat) : GH (rR h (b + 12) F) := by
  refine ⟨g.1, GR_keep g.2 (fun a h1 h2 h3 h4 => ?_)⟩
  show (if a = b + 12 then F else h.2.2.2 a) = _
  rw [if_neg (by rcases hb with rfl | rfl | rfl | rfl <;> omega)]
theorem e_sR {kk n k r a : Nat} {i : Int32} {sr : Nat × Nat} (hs : h.1[a]? = some (kk, n)) (hr : h.1[r]? = some sr) (hi : i = nI k) (hk : k < n) (hn : n < 2 ^ 31) : xsR h a kk i r sr = some (rR h a (fun j => if j = k then some r else h.2.2.2 a j)) := by
  subst hi
  unfold xsR
  rw [hs, Option.bind_some, if_pos ⟨rfl, hr, by rw [nI_toInt (by omega)]; omega, by rw [nI_toInt (by omega)]; simp only; omega⟩, nI_clamp (by omega)]
  unfold sR rR
  congr 4
  funext a' j'
  by_cases h1 : a' = a
  · subst h1; simp
  · simp [h1]
theorem gsp {b k : Nat} (g : GH h) (hb : isB b) (hk : k < 8) : h.1[b + 13 + k]? = some (5, 5) := by
  rw [g.1, Nat.add_assoc, shB hb (13 + k) (by omega)]
  rcases (by omega : k = 0 ∨ k = 1 ∨ k = 2 ∨ k = 3 ∨ k = 4 ∨ k = 5 ∨ k = 6 ∨ k = 7) with rfl | rfl | rfl | rfl | rfl | rfl | rfl | rfl <;> rfl
theorem gsq {b : Nat} (g : GH h) (hb : isB b) : h.1[b + 12]? = some (13, 8) := by
  rw [g.1, shB hb 12 (by omega)]; rfl
theorem gsr {b : Nat} (g : GH h) (hb : isB b) : h.1[b + 11]? = some (5, 5) := by
  rw [g.1, shB hb 11 (by omega)]; rfl
def tk (F G : Nat → Int32) : Nat → Int32 := fun k => if k < 5 then G k else F k
theorem take_e {a b : Nat} (ha : h.1[a]? = some (5, 5)) (hb : h.1[b]? = some (5, 5)) (hab : a ≠ b) : fX5_take a b h = some (sF h a (tk (h.2.1 a) (h.2.1 b))) := by
  have hba : ¬ b = a := fun e => hab e.symm
  simp only [fX5_take, e_gI hb, Option.bind_some]
  rw [e_pI ha, Option.bind_some, e_gI (h := sF h a _) hb, Option.bind_some, e_pI (h := sF h a _) ha, Option.bind_some, sF_s, e_gI (h := sF h a _) hb, Option.bind_some, e_pI (h := sF h a _) ha, Option.bind_some, sF_s, e_gI (h := sF h a _) hb, Option.bind_some, e_pI (h := sF h a _) ha, Option.bind_some, sF_s, e_gI (h := sF h a _) hb, Option.bind_some, e_pI (h := sF h a _) ha, Option.bind_some, sF_s]
  simp only [sF_I, hba, if_false, if_true]
  congr 2
  funext k
  simp only [upd_e, tk]
  by_cases h5 : k < 5
  · rcases (by omega : k = 0 ∨ k = 1 ∨ k = 2 ∨ k = 3 ∨ k = 4) with rfl | rfl | rfl | rfl | rfl <;> simp
  · simp [h5, show k ≠ 0 by omega, show k ≠ 1 by omega, show k ≠ 2 by omega, show k ≠ 3 by omega, show k ≠ 4 by omega]
theorem rem58_e {b p u : Nat} (g : GH h) (hb : isB b) (hu : u < 8) (e : h.2.1 b 15 = nI u) (hp : p < 8) (ep : h.2.2.2 (b + 12) u = some (b + 13 + p)) : fX0_remember_j58 b h = some (sF (sF h (b + 13 + p) (tk (h.2.1 (b + 13 + p)) (h.2.1 (b + 11)))) b (upd (h.2.1 b) 15 (nI (u + 1)))) := by
  simp only [fX0_remember_j58, gRb14 g hb, Option.bind_some, gIb g hb, e]
  rw [e_aR (gsq g hb) rfl hu (by decide), ep, Option.bind_some, gRb13 g hb, Option.bind_some, e_at (gsp g hb hp), take_e (gsp g hb hp) (gsr g hb) (by omega), Option.bind_some, gIb (h := sF h _ _) g hb, Option.bind_some, pIb (h := sF h _ _) g hb, Option.bind_some]
  simp only [sF_I]
  rw [if_neg (by omega), e, nI_1]
theorem rem_rot {b : Nat} (g : GH h) (hb : isB b) (π : Nat → Nat) (hp : ∀ u, u < 8 → π u < 8 ∧ h.2.2.2 (b + 12) u = some (b + 13 + π u)) (x : Nat) : xloop (fX0_remember_b18 b x) 1000000 (1, h) = some (b, x, rR h (b + 12) (fun j => if j < 7 then h.2.2.2 (b + 12) (j + 1) else h.2.2.2 (b + 12) j)) := by
  refine xloop_c (fun i => (nI (i + 1), rR h (b + 12) (fun j => if j < i then h.2.2.2 (b + 12) (j + 1) else h.2.2.2 (b + 12) j))) _ 7 (by decide) ?_ ?_ ?_
  · intro i hi
    have g' : GH (rR h (b + 12) (fun j => if j < i then h.2.2.2 (b + 12) (j + 1) else h.2.2.2 (b + 12) j)) := GH_r g hb _
    obtain ⟨p1, p2⟩ := hp (i + 1) (by omega)
    simp only [fX0_remember_b18]
    rw [if_neg (by rw [show (8 : Int32) = nI 8 from rfl, le_nI (by omega) (by omega)]; omega)]
    rw [gRb14 g' hb, Option.bind_some, Option.bind_some, e_aR (gsq g' hb) rfl (by omega) (by decide)]
    simp only [rR_R, if_true]
    rw [if_neg (by omega), p2, Option.bind_some, e_sR (gsq g' hb) (gsp g' hb p1) (nI_pred i) (by omega) (by decide), Option.bind_some, nI_1, rR_s]
    congr 4
    funext j
    simp only [rR_R, if_true]
    by_cases h1 : j = i
    · subst h1; simp [p2]
    · by_cases h2 : j < i
      · simp [h1, h2, show j < i + 1 by omega]
      · simp [h1, h2, show ¬ j < i + 1 by omega]
  · simp only [fX0_remember_b18]
    rw [if_pos (by decide)]
  · simp [rR_same]; rfl
end REM
