section TAKE
variable {h : Hp}
theorem xcp10_e {a b : Nat} (ha : h.1[a]? = some (10, 10)) (hb : h.1[b]? = some (10, 10)) : xcp h a 0 b 0 10 = some (sF h b (fun k => if k < 10 then h.2.1 a k else h.2.1 b k)) := by
  unfold xcp
  rw [ha, Option.bind_some, hb, Option.bind_some, if_pos (by decide)]
  unfold scp sF
  congr 3
  funext c k
  by_cases z : c = b
  · subst z
    by_cases z2 : k < 10
    · simp [z2, va_cpy]
    · simp [z2, va_cpy]
  · simp [z]
theorem xcp6_e {a b : Nat} (ha : h.1[a]? = some (10, 6)) (hb : h.1[b]? = some (10, 6)) : xcp h a 0 b 0 6 = some (sF h b (fun k => if k < 6 then h.2.1 a k else h.2.1 b k)) := by
  unfold xcp
  rw [ha, Option.bind_some, hb, Option.bind_some, if_pos (by decide)]
  unfold scp sF
  congr 3
  funext c k
  by_cases z : c = b
  · subst z
    by_cases z2 : k < 6
    · simp [z2, va_cpy]
    · simp [z2, va_cpy]
  · simp [z]
/-- nothing but the bus at b has changed, and no reference -/
def SB (b : Nat) (h h' : Hp) : Prop := h'.1 = h.1 ∧ h'.2.2 = h.2.2 ∧ ∀ a, ¬ (b ≤ a ∧ a < b + 21) → h'.2.1 a = h.2.1 a
theorem SB_rfl (b : Nat) (h : Hp) : SB b h h := ⟨rfl, rfl, fun _ _ => rfl⟩
theorem SB_F {b a : Nat} {h h' : Hp} (S : SB b h h') (ha : b ≤ a ∧ a < b + 21) (F : Nat → Int32) : SB b h (sF h' a F) :=
  ⟨S.1, S.2.1, fun x hx => by
    have ne : ¬ x = a := fun z => hx (by rw [z]; exact ha)
    simp only [sF_I]; rw [if_neg ne]; exact S.2.2 x hx⟩
theorem SB_GH {b : Nat} {h h' : Hp} (g : GH h) (S : SB b h h') : GH h' := ⟨S.1.trans g.1, by rw [S.2.1]; exact g.2⟩
theorem sF_ne {h : Hp} {a b : Nat} {F : Nat → Int32} (hab : b ≠ a) : (sF h a F).2.1 b = h.2.1 b := by simp only [sF_I]; rw [if_neg hab]
theorem sF_eq {h : Hp} {a : Nat} {F : Nat → Int32} : (sF h a F).2.1 a = F := by simp [sF_I]
theorem cp10_e {b c k : Nat} {hi : Hp} (S : SB b h hi) (hk : k < 21) (hc : ¬ (b ≤ c + k ∧ c + k < b + 21)) (s1 : h.1[c + k]? = some (10, 10)) (s2 : h.1[b + k]? = some (10, 10)) : ∃ hj, xcp hi (c + k) 0 (b + k) 0 10 = some hj ∧ SB b h hj ∧ (∀ i, i < 10 → hj.2.1 (b + k) i = h.2.1 (c + k) i) ∧ ∀ a, a ≠ b + k → hj.2.1 a = hi.2.1 a := by
  refine ⟨_, xcp10_e (by rw [S.1]; exact s1) (by rw [S.1]; exact s2), SB_F S (by omega) _, ?_, ?_⟩
  · intro i hi'
    rw [sF_eq, if_pos hi', S.2.2 _ hc]
  · intro a ha
    exact sF_ne ha
theorem cp7_e {b c k : Nat} {hi : Hp} (S : SB b h hi) (hk : k < 21) (hc : ¬ (b ≤ c + k ∧ c + k < b + 21)) (s1 : h.1[c + k]? = some (10, 7)) (s2 : h.1[b + k]? = some (10, 7)) : ∃ hj, xcp hi (c + k) 0 (b + k) 0 7 = some hj ∧ SB b h hj ∧ (∀ i, i < 7 → hj.2.1 (b + k) i = h.2.1 (c + k) i) ∧ ∀ a, a ≠ b + k → hj.2.1 a = hi.2.1 a := by
  refine ⟨_, xcp7_e (by rw [S.1]; exact s1) (by rw [S.1]; exact s2), SB_F S (by omega) _, ?_, ?_⟩
  · intro i hi'
    rw [sF_eq, if_pos hi', S.2.2 _ hc]
  · intro a ha
    exact sF_ne ha
theorem cp6_e {b c k : Nat} {hi : Hp} (S : SB b h hi) (hk : k < 21) (hc : ¬ (b ≤ c + k ∧ c + k < b + 21)) (s1 : h.1[c + k]? = some (10, 6)) (s2 : h.1[b + k]? = some (10, 6)) : ∃ hj, xcp hi (c + k) 0 (b + k) 0 6 = some hj ∧ SB b h hj ∧ (∀ i, i < 6 → hj.2.1 (b + k) i = h.2.1 (c + k) i) ∧ ∀ a, a ≠ b + k → hj.2.1 a = hi.2.1 a := by
  refine ⟨_, xcp6_e (by rw [S.1]; exact s1) (by rw [S.1]; exact s2), SB_F S (by omega) _, ?_, ?_⟩
  · intro i hi'
    rw [sF_eq, if_pos hi', S.2.2 _ hc]
  · intro a ha
    exact sF_ne ha
theorem buses {b c : Nat} (hb : isB b) (hc : isB c) (hbc : b ≠ c) : ∀ k, k < 21 → ¬ (b ≤ c + k ∧ c + k < b + 21) := by
  intro k hk
  rcases hb with rfl | rfl | rfl | rfl <;> rcases hc with rfl | rfl | rfl | rfl <;> omega
theorem Take_e {b c : Nat} {f : Nat → Int32} (g : GH h) (hb : isB b) (hc : isB c) (hbc : b ≠ c) (R : RB h c f) (W : WF f) (P : PS h b) : ∃ h', fX0_take b c h = some h' ∧ SB b h h' ∧ RB h' b f := by
  have D := buses hb hc hbc
  have c0 := D 0 (by omega)
  simp only [Nat.add_zero] at c0
  have n7 := (n_eq W).2.1
  have q6 := (q_eq W).2
  have u8 := (u_eq W).2
  have ng : ∀ hi, SB b h hi → GH hi := fun hi S => SB_GH g S
  have rc : ∀ hi, SB b h hi → hi.2.1 c = h.2.1 c := fun hi S => S.2.2 c c0
  generalize hh2 : sF h b (upd (h.2.1 b) 0 (h.2.1 c 0)) = h2
  have S2 : SB b h h2 := by rw [← hh2]; exact SB_F (SB_rfl b h) (by omega) _
  have o2 : ∀ a, a ≠ b → h2.2.1 a = h.2.1 a := fun a ha => by rw [← hh2]; exact sF_ne ha
  have w2 : h2.2.1 b = upd (h.2.1 b) 0 (h.2.1 c 0) := by rw [← hh2]; exact sF_eq
  obtain ⟨h5, e5, S5, v1, o5⟩ := cp10_e (k := 1) S2 (by omega) (D 1 (by omega)) (gb1 g hc) (gb1 g hb)
  generalize hh7 : sF h5 b (upd (h5.2.1 b) 2 (h.2.1 c 2)) = h7
  have S7 : SB b h h7 := by rw [← hh7]; exact SB_F S5 (by omega) _
  have o7 : ∀ a, a ≠ b → h7.2.1 a = h5.2.1 a := fun a ha => by rw [← hh7]; exact sF_ne ha
  have w7 : h7.2.1 b = upd (h5.2.1 b) 2 (h.2.1 c 2) := by rw [← hh7]; exact sF_eq
  obtain ⟨h10, e10, S10, v2, o10⟩ := cp7_e (k := 2) S7 (by omega) (D 2 (by omega)) (gb2 g hc) (gb2 g hb)
  obtain ⟨h13, e13, S13, v3, o13⟩ := cp7_e (k := 3) S10 (by omega) (D 3 (by omega)) (gb3 g hc) (gb3 g hb)
  obtain ⟨h16, e16, S16, v4, o16⟩ := cp7_e (k := 4) S13 (by omega) (D 4 (by omega)) (gb4 g hc) (gb4 g hb)
  obtain ⟨h19, e19, S19, v5, o19⟩ := cp7_e (k := 5) S16 (by omega) (D 5 (by omega)) (gb5 g hc) (gb5 g hb)
  obtain ⟨h22, e22, S22, v6, o22⟩ := cp7_e (k := 6) S19 (by omega) (D 6 (by omega)) (gb6 g hc) (gb6 g hb)
  generalize hh24 : sF h22 b (upd (h22.2.1 b) 8 (h.2.1 c 8)) = h24
  have S24 : SB b h h24 := by rw [← hh24]; exact SB_F S22 (by omega) _
  have o24 : ∀ a, a ≠ b → h24.2.1 a = h22.2.1 a := fun a ha => by rw [← hh24]; exact sF_ne ha
  have w24 : h24.2.1 b = upd (h22.2.1 b) 8 (h.2.1 c 8) := by rw [← hh24]; exact sF_eq
  obtain ⟨h27, e27, S27, v7, o27⟩ := cp6_e (k := 7) S24 (by omega) (D 7 (by omega)) (gb7 g hc) (gb7 g hb)
  obtain ⟨h30, e30, S30, v8, o30⟩ := cp6_e (k := 8) S27 (by omega) (D 8 (by omega)) (gb8 g hc) (gb8 g hb)
  obtain ⟨h33, e33, S33, v9, o33⟩ := cp6_e (k := 9) S30 (by omega) (D 9 (by omega)) (gb9 g hc) (gb9 g hb)
  obtain ⟨h36, e36, S36, v10, o36⟩ := cp6_e (k := 10) S33 (by omega) (D 10 (by omega)) (gb10 g hc) (gb10 g hb)
  generalize hh39 : sF h36 (b + 11) (tk (h36.2.1 (b + 11)) (h36.2.1 (c + 11))) = h39
  have S39 : SB b h h39 := by rw [← hh39]; exact SB_F S36 (by omega) _
  have o39 : ∀ a, a ≠ b + 11 → h39.2.1 a = h36.2.1 a := fun a ha => by rw [← hh39]; exact sF_ne ha
  have v11 : ∀ i, i < 5 → h39.2.1 (b + 11) i = h.2.1 (c + 11) i := fun i hi => by rw [← hh39, sF_eq]; simp only [tk]; rw [if_pos hi, S36.2.2 _ (D 11 (by omega))]
  generalize hh41 : sF h39 b (upd (h39.2.1 b) 15 (h.2.1 c 15)) = h41
  have S41 : SB b h h41 := by rw [← hh41]; exact SB_F S39 (by omega) _
  have o41 : ∀ a, a ≠ b → h41.2.1 a = h39.2.1 a := fun a ha => by rw [← hh41]; exact sF_ne ha
  have w41 : h41.2.1 b = upd (h39.2.1 b) 15 (h.2.1 c 15) := by rw [← hh41]; exact sF_eq
  have z1 : h41.2.1 (b + 1) = h5.2.1 (b + 1) := by rw [o41 (b + 1) (by omega), o39 (b + 1) (by omega), o36 (b + 1) (by omega), o33 (b + 1) (by omega), o30 (b + 1) (by omega), o27 (b + 1) (by omega), o24 (b + 1) (by omega), o22 (b + 1) (by omega), o19 (b + 1) (by omega), o16 (b + 1) (by omega), o13 (b + 1) (by omega), o10 (b + 1) (by omega), o7 (b + 1) (by omega)]
  have z2 : h41.2.1 (b + 2) = h10.2.1 (b + 2) := by rw [o41 (b + 2) (by omega), o39 (b + 2) (by omega), o36 (b + 2) (by omega), o33 (b + 2) (by omega), o30 (b + 2) (by omega), o27 (b + 2) (by omega), o24 (b + 2) (by omega), o22 (b + 2) (by omega), o19 (b + 2) (by omega), o16 (b + 2) (by omega), o13 (b + 2) (by omega)]
  have z3 : h41.2.1 (b + 3) = h13.2.1 (b + 3) := by rw [o41 (b + 3) (by omega), o39 (b + 3) (by omega), o36 (b + 3) (by omega), o33 (b + 3) (by omega), o30 (b + 3) (by omega), o27 (b + 3) (by omega), o24 (b + 3) (by omega), o22 (b + 3) (by omega), o19 (b + 3) (by omega), o16 (b + 3) (by omega)]
  have z4 : h41.2.1 (b + 4) = h16.2.1 (b + 4) := by rw [o41 (b + 4) (by omega), o39 (b + 4) (by omega), o36 (b + 4) (by omega), o33 (b + 4) (by omega), o30 (b + 4) (by omega), o27 (b + 4) (by omega), o24 (b + 4) (by omega), o22 (b + 4) (by omega), o19 (b + 4) (by omega)]
  have z5 : h41.2.1 (b + 5) = h19.2.1 (b + 5) := by rw [o41 (b + 5) (by omega), o39 (b + 5) (by omega), o36 (b + 5) (by omega), o33 (b + 5) (by omega), o30 (b + 5) (by omega), o27 (b + 5) (by omega), o24 (b + 5) (by omega), o22 (b + 5) (by omega)]
  have z6 : h41.2.1 (b + 6) = h22.2.1 (b + 6) := by rw [o41 (b + 6) (by omega), o39 (b + 6) (by omega), o36 (b + 6) (by omega), o33 (b + 6) (by omega), o30 (b + 6) (by omega), o27 (b + 6) (by omega), o24 (b + 6) (by omega)]
  have z7 : h41.2.1 (b + 7) = h27.2.1 (b + 7) := by rw [o41 (b + 7) (by omega), o39 (b + 7) (by omega), o36 (b + 7) (by omega), o33 (b + 7) (by omega), o30 (b + 7) (by omega)]
  have z8 : h41.2.1 (b + 8) = h30.2.1 (b + 8) := by rw [o41 (b + 8) (by omega), o39 (b + 8) (by omega), o36 (b + 8) (by omega), o33 (b + 8) (by omega)]
  have z9 : h41.2.1 (b + 9) = h33.2.1 (b + 9) := by rw [o41 (b + 9) (by omega), o39 (b + 9) (by omega), o36 (b + 9) (by omega)]
  have z10 : h41.2.1 (b + 10) = h36.2.1 (b + 10) := by rw [o41 (b + 10) (by omega), o39 (b + 10) (by omega)]
  have z11 : h41.2.1 (b + 11) = h39.2.1 (b + 11) := by rw [o41 (b + 11) (by omega)]
  have zb : h41.2.1 b = upd (upd (upd (upd (h.2.1 b) 0 (h.2.1 c 0)) 2 (h.2.1 c 2)) 8 (h.2.1 c 8)) 15 (h.2.1 c 15) := by
    rw [w41, o39 b (by omega), o36 b (by omega), o33 b (by omega), o30 b (by omega), o27 b (by omega), w24, o22 b (by omega), o19 b (by omega), o16 b (by omega), o13 b (by omega), o10 b (by omega), w7, o5 b (by omega), w2]
  obtain ⟨π, p1, p2⟩ := P
  obtain ⟨⟨a1, a2, a3, a4⟩, r2, r3, r4, r5, π', p1', p2', p3'⟩ := R
  have lp : ∃ r, xloop (fX0_take_b195 b c) 1000000 (0, h41) = some r ∧ SB b h r ∧ (∀ a, ¬ (b + 13 ≤ a ∧ a < b + 21) → r.2.1 a = h41.2.1 a) ∧ ∀ u, u < 8 → ∀ j, j < 5 → r.2.1 (b + 13 + π u) j = h.2.1 (c + 13 + π' u) j := by
    refine xloop_i (body := fX0_take_b195 b c) (fun i st => st.1 = nI i ∧ SB b h st.2 ∧ (∀ a, ¬ (b + 13 ≤ a ∧ a < b + 21) → st.2.2.1 a = h41.2.1 a) ∧ ∀ u, u < i → ∀ j, j < 5 → st.2.2.1 (b + 13 + π u) j = h.2.1 (c + 13 + π' u) j) (fun r => SB b h r ∧ (∀ a, ¬ (b + 13 ≤ a ∧ a < b + 21) → r.2.1 a = h41.2.1 a) ∧ ∀ u, u < 8 → ∀ j, j < 5 → r.2.1 (b + 13 + π u) j = h.2.1 (c + 13 + π' u) j) 8 (by omega) ?_ ?_ ⟨rfl, S41, fun _ _ => rfl, fun u hu => by omega⟩
    · intro i st hi ⟨t1, tS, tO, tV⟩
      left
      have gt := ng _ tS
      obtain ⟨l1, l2⟩ := p1 i hi
      obtain ⟨l3, l4⟩ := p1' i hi
      have dne : ¬ (b ≤ c + 13 + π' i ∧ c + 13 + π' i < b + 21) := by have := D (13 + π' i) (by omega); rw [← Nat.add_assoc] at this; exact this
      have tk1 := take_e (h := st.2) (a := b + 13 + π i) (b := c + 13 + π' i) (gsp gt hb l1) (gsp gt hc l3) (by omega)
      refine ⟨(nI (i + 1), sF st.2 (b + 13 + π i) (tk (st.2.2.1 (b + 13 + π i)) (st.2.2.1 (c + 13 + π' i)))), ?_, rfl, SB_F tS (by omega) _, ?_, ?_⟩
      · simp only [fX0_take_b195]
        rw [t1, if_neg (by rw [show (8 : Int32) = nI 8 from rfl, le_nI (by omega) (by omega)]; omega), gRb14 gt hb, Option.bind_some, e_aR (gsq gt hb) rfl hi (by decide), tS.2.1, l2, Option.bind_some, gRb14 gt hc, Option.bind_some, e_aR (gsq gt hc) rfl hi (by decide), tS.2.1, l4, Option.bind_some, e_at (gsp gt hb l1), tk1, Option.bind_some, nI_1]
      · intro a ha
        rw [sF_ne (by omega)]; exact tO a ha
      · intro u hu j hj
        by_cases y : u = i
        · subst y; rw [sF_eq]; simp only [tk]; rw [if_pos hj, tS.2.2 _ dne]
        · have ne : π u ≠ π i := fun q => y (p2 u i (by omega) hi q)
          rw [sF_ne (by omega)]; exact tV u (by omega) j hj
    · intro st ⟨t1, tS, tO, tV⟩
      refine ⟨st.2, ?_, tS, tO, tV⟩
      simp only [fX0_take_b195]
      rw [t1, if_pos (by decide)]
  obtain ⟨r, er, rS, rO, rV⟩ := lp
  refine ⟨r, ?_, rS, ⟨?_, ?_, ?_, ?_, ?_, π, ?_, p2, ?_⟩⟩
  · simp only [fX0_take]
    rw [gIb g hc, Option.bind_some, e_pI (gb0 g hb), Option.bind_some, hh2, gRb1 (ng _ S2) hc, Option.bind_some, gRb1 (ng _ S2) hb, Option.bind_some, e5, Option.bind_some, gIb (ng _ S5) hc, Option.bind_some, rc _ S5, e_pI (gb0 (ng _ S5) hb), Option.bind_some, hh7, gRb3 (ng _ S7) hc, Option.bind_some, gRb3 (ng _ S7) hb, Option.bind_some, e10, Option.bind_some, gRb4 (ng _ S10) hc, Option.bind_some, gRb4 (ng _ S10) hb, Option.bind_some, e13, Option.bind_some, gRb5 (ng _ S13) hc, Option.bind_some, gRb5 (ng _ S13) hb, Option.bind_some, e16, Option.bind_some, gRb6 (ng _ S16) hc, Option.bind_some, gRb6 (ng _ S16) hb, Option.bind_some, e19, Option.bind_some, gRb7 (ng _ S19) hc, Option.bind_some, gRb7 (ng _ S19) hb, Option.bind_some, e22, Option.bind_some, gIb (ng _ S22) hc, Option.bind_some, rc _ S22, e_pI (gb0 (ng _ S22) hb), Option.bind_some, hh24, gRb9 (ng _ S24) hc, Option.bind_some, gRb9 (ng _ S24) hb, Option.bind_some, e27, Option.bind_some, gRb10 (ng _ S27) hc, Option.bind_some, gRb10 (ng _ S27) hb, Option.bind_some, e30, Option.bind_some, gRb11 (ng _ S30) hc, Option.bind_some, gRb11 (ng _ S30) hb, Option.bind_some, e33, Option.bind_some, gRb12 (ng _ S33) hc, Option.bind_some, gRb12 (ng _ S33) hb, Option.bind_some, e36, Option.bind_some, gRb13 (ng _ S36) hb, Option.bind_some, gRb13 (ng _ S36) hc, Option.bind_some, e_at (gsr (ng _ S36) hb), take_e (gsr (ng _ S36) hb) (gsr (ng _ S36) hc) (by omega), Option.bind_some, hh39, gIb (ng _ S39) hc, Option.bind_some, rc _ S39, e_pI (gb0 (ng _ S39) hb), Option.bind_some, hh41, er, Option.bind_some]
  · rw [rO b (by omega), zb]
    simp only [upd_e]
    exact ⟨a1, a2, a3, a4⟩
  · intro j hj; rw [rO _ (by omega), z11, v11 j hj]; exact r2 j hj
  · intro s hs; rw [rO _ (by omega), z1, v1 s hs]; exact r3 s hs
  · intro i hi
    rw [rO _ (by omega), rO _ (by omega), rO _ (by omega), rO _ (by omega), rO _ (by omega), z2, z3, z4, z5, z6, v2 i (by omega), v3 i (by omega), v4 i (by omega), v5 i (by omega), v6 i (by omega)]
    exact r4 i hi
  · intro q hq
    rw [rO _ (by omega), rO _ (by omega), rO _ (by omega), rO _ (by omega), z7, z8, z9, z10, v7 q (by omega), v8 q (by omega), v9 q (by omega), v10 q (by omega)]
    exact r5 q hq
  · rw [rS.2.1]; exact p1
  · intro u j h8 hu hj
    rw [rV u h8 j hj]; exact p3' u j h8 hu hj
end TAKE
