/-! THE RELATION: the class's cells beside the model's -/
def nn (f : Nat → Int32) : Nat := (f 0).toInt.toNat
def nq (f : Nat → Int32) : Nat := (f 1).toInt.toNat
def nu (f : Nat → Int32) : Nat := (f 2).toInt.toNat
/-- the class's bus at b shows the model's row f (as far as it counts) -/
def RB (h : Hp) (b : Nat) (f : Nat → Int32) : Prop :=
  (h.2.1 b 2 = f 0 ∧ h.2.1 b 8 = f 1 ∧ h.2.1 b 15 = f 2 ∧ h.2.1 b 0 = f 8) ∧
  (∀ c, c < 5 → h.2.1 (b + 11) c = f (3 + c)) ∧
  (∀ s, s < 10 → h.2.1 (b + 1) s = f (9 + s)) ∧
  (∀ i, i < nn f → h.2.1 (b + 2) i = f (19 + i) ∧ h.2.1 (b + 3) i = f (26 + i) ∧ h.2.1 (b + 4) i = f (33 + i) ∧ h.2.1 (b + 5) i = f (40 + i) ∧ h.2.1 (b + 6) i = f (47 + i)) ∧
  (∀ q, q < nq f → h.2.1 (b + 7) q = f (54 + 4 * q) ∧ h.2.1 (b + 8) q = f (54 + 4 * q + 1) ∧ h.2.1 (b + 9) q = f (54 + 4 * q + 2) ∧ h.2.1 (b + 10) q = f (54 + 4 * q + 3)) ∧
  (∃ π : Nat → Nat, (∀ u, u < 8 → π u < 8 ∧ h.2.2.2 (b + 12) u = some (b + 13 + π u)) ∧ (∀ u v, u < 8 → v < 8 → π u = π v → u = v) ∧ ∀ u c, u < 8 → u < nu f → c < 5 → h.2.1 (b + 13 + π u) c = f (78 + 5 * u + c))
def rg (x : Int32) (lo hi : Int) : Prop := lo ≤ x.toInt ∧ x.toInt ≤ hi
/-- one idea of a row is as told -/
def WI (f : Nat → Int32) (i : Nat) : Prop := rg (f (19 + i)) 0 5 ∧ rg (f (26 + i)) 1 9 ∧ rg (f (33 + i)) 0 8 ∧ rg (f (40 + i)) 1 9 ∧ (0 ≤ (f (47 + i)).toInt ∧ (f (47 + i)).toInt < 2 ^ nn f)
def bt1 (x : Int32) (i : Nat) : Int32 := (x >>> (nI i &&& 31)) &&& 1
def WF (f : Nat → Int32) : Prop :=
  (rg (f 0) 0 7 ∧ rg (f 1) 0 6 ∧ rg (f 2) 0 8 ∧ rg (f 3) 0 10 ∧ rg (f 4) 0 127 ∧ rg (f 5) 0 127 ∧ rg (f 6) 0 127 ∧ rg (f 8) 1 7) ∧
  (∀ s, s < 10 → rg (f (9 + s)) 0 9) ∧ (∀ i, i < nn f → WI f i) ∧
  (∀ i o, i < nn f → o < nn f → bt1 (f (47 + i)) o = bt1 (f (47 + o)) i) ∧
  (∀ q, q < nq f → rg (f (54 + 4 * q)) 0 6 ∧ rg (f (54 + 4 * q + 1)) 0 9) ∧
  (∀ u, u < nu f → rg (f (78 + 5 * u)) 0 10 ∧ rg (f (78 + 5 * u + 1)) 0 127 ∧ rg (f (78 + 5 * u + 2)) 0 127 ∧ rg (f (78 + 5 * u + 3)) 0 127)
def IM (h : Hp) (i b : Nat) : Prop := h.2.1 65 i = h.2.1 102 i ∧ (h.2.1 102 i = 0 ∨ h.2.1 102 i = 1 ∧ RB h b (fun k => h.2.1 101 (118 * i + k)) ∧ WF (fun k => h.2.1 101 (118 * i + k)))
def TX (h : Hp) : Prop := h.2.1 76 1 = h.2.1 99 11 ∧ rg (h.2.1 99 11) 0 150 ∧ ∀ j, j < (h.2.1 99 11).toInt.toNat → h.2.1 77 j = h.2.1 108 j ∧ rg (h.2.1 108 j) 0 127
def FR (h : Hp) : Prop := h.2.2.1 75 0 = h.2.2.1 99 4 ∧ h.2.2.1 75 1 = h.2.2.1 99 5
def ST (h : Hp) : Prop := h.2.1 0 9 = h.2.1 103 0 ∧ h.2.1 0 10 = h.2.1 103 1 ∧ h.2.1 0 11 = h.2.1 103 2
def PS (h : Hp) (b : Nat) : Prop := ∃ π : Nat → Nat, (∀ u, u < 8 → π u < 8 ∧ h.2.2.2 (b + 12) u = some (b + 13 + π u)) ∧ (∀ u v, u < 8 → v < 8 → π u = π v → u = v)
def Inv (h : Hp) : Prop := GH h ∧ RB h 1 (h.2.1 100) ∧ WF (h.2.1 100) ∧ (IM h 0 23 ∧ IM h 1 44) ∧ TX h ∧ FR h ∧ ST h ∧ (PS h 23 ∧ PS h 44 ∧ PS h 78)
theorem RB_keep {h h' : Hp} {b : Nat} {f : Nat → Int32} (H : RB h b f) (hI : ∀ a, b ≤ a → a < b + 21 → h'.2.1 a = h.2.1 a) (hR : h'.2.2.2 (b + 12) = h.2.2.2 (b + 12)) : RB h' b f := by
  obtain ⟨⟨a1, a2, a3, a4⟩, h2, h3, h4, h5, π, p1, p2, p3⟩ := H
  have e : ∀ k, k < 21 → h'.2.1 (b + k) = h.2.1 (b + k) := fun k hk => hI _ (by omega) (by omega)
  refine ⟨?_, ?_, ?_, ?_, ?_, π, ?_, p2, ?_⟩
  · rw [hI b (by omega) (by omega)]; exact ⟨a1, a2, a3, a4⟩
  · rw [e 11 (by omega)]; exact h2
  · rw [e 1 (by omega)]; exact h3
  · rw [e 2 (by omega), e 3 (by omega), e 4 (by omega), e 5 (by omega), e 6 (by omega)]; exact h4
  · rw [e 7 (by omega), e 8 (by omega), e 9 (by omega), e 10 (by omega)]; exact h5
  · rw [hR]; exact p1
  · intro u c h8 hu hc
    rw [hI (b + 13 + π u) (by omega) (by have := (p1 u h8).1; omega)]; exact p3 u c h8 hu hc
def keep (a : Nat) : Prop := a = 0 ∨ (22 ≤ a ∧ a < 66) ∨ (75 ≤ a ∧ a < 78) ∨ a = 99 ∨ a = 101 ∨ a = 102 ∨ a = 103 ∨ a = 108
theorem PS_keep {h h' : Hp} {b : Nat} (H : PS h b) (hR : h'.2.2.2 (b + 12) = h.2.2.2 (b + 12)) : PS h' b := by
  obtain ⟨π, p1, p2⟩ := H
  exact ⟨π, by rw [hR]; exact p1, p2⟩
theorem GR_keep {R R' : Nat → Nat → Option Nat} (H : GR R) (hR : ∀ a, a ≠ 13 → a ≠ 35 → a ≠ 56 → a ≠ 90 → R' a = R a) : GR R' := by
  obtain ⟨h1, h2, h3, h4⟩ := H
  refine ⟨fun b hb => ?_, ?_, ?_, ?_⟩
  · rw [hR b (by rcases hb with rfl | rfl | rfl | rfl <;> decide) (by rcases hb with rfl | rfl | rfl | rfl <;> decide) (by rcases hb with rfl | rfl | rfl | rfl <;> decide) (by rcases hb with rfl | rfl | rfl | rfl <;> decide)]
    exact h1 b hb
  · rw [hR 0 (by decide) (by decide) (by decide) (by decide)]; exact h2
  · rw [hR 22 (by decide) (by decide) (by decide) (by decide), hR 66 (by decide) (by decide) (by decide) (by decide), hR 69 (by decide) (by decide) (by decide) (by decide), hR 72 (by decide) (by decide) (by decide) (by decide), hR 76 (by decide) (by decide) (by decide) (by decide)]; exact h3
  · rw [hR 99 (by decide) (by decide) (by decide) (by decide)]; exact h4
theorem IM_keep {h h' : Hp} {i b : Nat} (H : IM h i b) (hI : ∀ a, (22 ≤ a ∧ a < 66) ∨ a = 101 ∨ a = 102 → h'.2.1 a = h.2.1 a) (hb : 23 ≤ b ∧ b < 45) (hR : h'.2.2.2 (b + 12) = h.2.2.2 (b + 12)) : IM h' i b := by
  unfold IM
  rw [hI 65 (by omega), hI 102 (by omega), hI 101 (by omega)]
  refine ⟨H.1, H.2.imp id (fun q => ⟨q.1, RB_keep q.2.1 (fun a h1 h2 => hI a (by omega)) hR, q.2.2⟩)⟩
/-- only the main bus and the rows at hand have changed -/
theorem Inv_bus {h h' : Hp} (H : Inv h) (h1 : h'.1 = h.1) (hR : ∀ a, a ≠ 13 → h'.2.2.2 a = h.2.2.2 a) (hI : ∀ a, keep a → h'.2.1 a = h.2.1 a) (hL : h'.2.2.1 = h.2.2.1) (hB : RB h' 1 (h'.2.1 100)) (hW : WF (h'.2.1 100)) : Inv h' := by
  obtain ⟨g, -, -, ⟨i0, i1⟩, t, fr, st, q1, q2, q3⟩ := H
  refine ⟨⟨h1.trans g.1, GR_keep g.2 (fun a b _ _ _ => hR a b)⟩, hB, hW, ⟨IM_keep i0 (fun a ha => hI a (by unfold keep; omega)) (by omega) (hR _ (by omega)), IM_keep i1 (fun a ha => hI a (by unfold keep; omega)) (by omega) (hR _ (by omega))⟩, ?_, ?_, ?_, PS_keep q1 (hR _ (by omega)), PS_keep q2 (hR _ (by omega)), PS_keep q3 (hR _ (by omega))⟩
  · unfold TX
    rw [hI 76 (by unfold keep; omega), hI 99 (by unfold keep; omega), hI 77 (by unfold keep; omega), hI 108 (by unfold keep; omega)]
    exact t
  · unfold FR; rw [hL]; exact fr
  · unfold ST
    rw [hI 0 (by unfold keep; omega), hI 103 (by unfold keep; omega)]
    exact st
/-- a refused call: both count it -/
theorem Inv_ref {h : Hp} (H : Inv h) (k : Nat) (hk : k < 3) : Inv (sF (sF h 0 (upd (h.2.1 0) (9 + k) (h.2.1 0 (9 + k) + 1))) 103 (upd (h.2.1 103) k (h.2.1 103 k + 1))) := by
  obtain ⟨g, hB, hW, ⟨i0, i1⟩, t, fr, st, q⟩ := H
  refine ⟨g, RB_keep hB ?_ rfl, hW, ⟨IM_keep i0 ?_ (by omega) rfl, IM_keep i1 ?_ (by omega) rfl⟩, t, fr, ?_, q⟩
  · intro a ha hb; simp only [sF_I]; rw [if_neg (by omega), if_neg (by omega)]
  · intro a ha; simp only [sF_I]; rw [if_neg (by omega), if_neg (by omega)]
  · intro a ha; simp only [sF_I]; rw [if_neg (by omega), if_neg (by omega)]
  · obtain ⟨s1, s2, s3⟩ := st
    unfold ST
    simp only [sF_I, if_pos, if_neg, Nat.reduceEqDiff, reduceIte, upd]
    rcases (by omega : k = 0 ∨ k = 1 ∨ k = 2) with rfl | rfl | rfl <;> simp [s1, s2, s3]
def Op (c : Option (Int32 × Hp)) (m : Hp → Option (Int32 × Hp)) : Prop := ∃ r h1 h2, c = some (r, h1) ∧ GH h1 ∧ m h1 = some (r, h2) ∧ Inv h2
theorem Op_bad {h : Hp} {c : Option (Int32 × Hp)} {m : Hp → Option (Int32 × Hp)} (H : Inv h) (r : Int32) (k : Nat) (hk : k < 3) (hc : c = some (r, sF h 0 (upd (h.2.1 0) (9 + k) (h.2.1 0 (9 + k) + 1)))) (hm : ∀ h1 : Hp, GH h1 → (∀ a, a ≠ 0 → h1.2.1 a = h.2.1 a) → m h1 = some (r, sF h1 103 (upd (h1.2.1 103) k (h1.2.1 103 k + 1)))) : Op c m :=
  ⟨r, _, _, hc, H.1, hm (sF h 0 (upd (h.2.1 0) (9 + k) (h.2.1 0 (9 + k) + 1))) H.1 (fun a ha => by simp [sF_I, ha]), Inv_ref H k hk⟩
