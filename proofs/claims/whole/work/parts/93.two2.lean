section TWO2
variable {h : Hp}
theorem div10 : ∀ p, p < 100 → nI p / 10 = nI (p / 10) ∧ nI p - nI p / 10 * 10 = nI (p % 10) := by decide +kernel
theorem layPair_e {f : Nat → Int32} {a b p : Nat} (M : MX h f) (ha : a < nn f) (hb : b < nn f) (hab : a ≠ b) (hp : p < 100) : ∃ h', fX9_layPair 99 (nI a) (nI b) (nI p) h = some h' ∧ KP [104, 106, 107] h h' ∧ h'.2.1 106 = upd (h.2.1 106) p (gA f a b (p / 10) (p % 10)) ∧ h'.2.1 107 = upd (h.2.1 107) p (gB f a b (p / 10) (p % 10)) := by
  have W := M.2.1
  have n7 := (n_eq W).2.1
  obtain ⟨d1, d2⟩ := div10 p hp
  obtain ⟨A, e1, A1, A2⟩ := mst_e M
  generalize hA' : upd (upd A (33 + a) (nI (p / 10))) (33 + b) (nI (p % 10)) = A'
  have K1 : KP [104, 106, 107] h (sF h 104 A) := KP_F (KP_rfl _ h) (by decide) _
  have g1 := KP_GH M.1 K1
  have g2 : GH (sF h 104 (upd A (33 + a) (nI (p / 10)))) := M.1
  have g3 : GH (sF h 104 A') := M.1
  have g4 : GH (sF (sF h 104 A') 106 (upd (h.2.1 106) p 0)) := M.1
  have K4 : KP [104, 106, 107] h (sF (sF (sF h 104 A') 106 (upd (h.2.1 106) p 0)) 107 (upd (h.2.1 107) p 0)) := KP_F (KP_F (KP_F (KP_rfl _ h) (by decide) _) (by decide) _) (by decide) _
  have o : ∀ k, k ≠ 33 + a → k ≠ 33 + b → A' k = A k := fun k q1 q2 => by rw [← hA']; simp only [upd_e]; rw [if_neg q2, if_neg q1]
  have S4 : HS (sF (sF (sF h 104 A') 106 (upd (h.2.1 106) p 0)) 107 (upd (h.2.1 107) p 0)) f (on2 f a b (p / 10) (p % 10)) 0 := by
    have c : (sF (sF (sF h 104 A') 106 (upd (h.2.1 106) p 0)) 107 (upd (h.2.1 107) p 0)).2.1 104 = A' := by simp [sF_I]
    unfold HS
    rw [c]
    refine ⟨⟨?_, fun i hi => ⟨?_, ?_, ?_, ?_, ?_⟩⟩, fun k hk => ?_, ?_, ?_, ?_, ?_, ?_⟩
    · rw [o _ (by omega) (by omega)]; exact A2 _ (by omega) (by omega)
    · rw [o _ (by omega) (by omega)]; exact A2 _ (by omega) (by omega)
    · rw [o _ (by omega) (by omega)]; exact A2 _ (by omega) (by omega)
    · rw [← hA']; simp only [upd_e, on2]
      by_cases y1 : i = b
      · rw [if_pos (by omega), if_pos y1]
      · rw [if_neg (by omega), if_neg y1]
        by_cases y2 : i = a
        · rw [if_pos (by omega), if_pos y2]
        · rw [if_neg (by omega), if_neg y2]; exact A2 _ (by omega) (by omega)
    · rw [o _ (by omega) (by omega)]; exact A2 _ (by omega) (by omega)
    · rw [o _ (by omega) (by omega)]; exact A2 _ (by omega) (by omega)
    · rw [o _ (by omega) (by omega)]; exact A2 _ (by omega) (by omega)
    · rw [o _ (by omega) (by omega)]; exact A1 0 (by omega)
    · rw [o _ (by omega) (by omega)]; exact A1 1 (by omega)
    · rw [o _ (by omega) (by omega)]; exact A1 2 (by omega)
    · rw [o _ (by omega) (by omega)]; exact A1 3 (by omega)
    · rw [o _ (by omega) (by omega)]; exact A1 4 (by omega)
  generalize hh4 : sF (sF (sF h 104 A') 106 (upd (h.2.1 106) p 0)) 107 (upd (h.2.1 107) p 0) = h4 at K4 S4
  have x6 : h4.2.1 106 = upd (h.2.1 106) p 0 := by rw [← hh4]; simp [sF_I]
  have x7 : h4.2.1 107 = upd (h.2.1 107) p 0 := by rw [← hh4]; simp [sF_I]
  generalize hon : on2 f a b (p / 10) (p % 10) = on at S4
  have lp : ∃ r, xloop (fX9_layPair_b44 99 (nI a) (nI b) (nI p)) 1000000 h4 = some r ∧ KP [104, 106, 107] h r ∧ r.2.1 106 = upd (h.2.1 106) p (gn f on a 10) ∧ r.2.1 107 = upd (h.2.1 107) p (gn f on b 10) := by
    refine xloop_i (body := fX9_layPair_b44 99 (nI a) (nI b) (nI p)) (fun m st => KP [104, 106, 107] h st ∧ HS st f on m ∧ st.2.1 106 = upd (h.2.1 106) p (gn f on a m) ∧ st.2.1 107 = upd (h.2.1 107) p (gn f on b m)) (fun r => KP [104, 106, 107] h r ∧ r.2.1 106 = upd (h.2.1 106) p (gn f on a 10) ∧ r.2.1 107 = upd (h.2.1 107) p (gn f on b 10)) 10 (by omega) ?_ ?_ ⟨K4, S4, x6, x7⟩
    · intro m st hm ⟨aK, aS, a6, a7⟩
      left
      have Mt := MX_k aK (by decide) M
      obtain ⟨t1, e, K, S'⟩ := goOne_e Mt aS hm
      have M1 := MX_k K (by decide) Mt
      have g5 : GH (sF t1 106 (upd (h.2.1 106) p (gn f on a (m + 1)))) := M1.1
      have t6 : t1.2.1 106 = upd (h.2.1 106) p (gn f on a m) := (K.2.2 106 (by decide)).trans a6
      have t7 : t1.2.1 107 = upd (h.2.1 107) p (gn f on b m) := (K.2.2 107 (by decide)).trans a7
      have v6 : t1.2.1 106 p = gn f on a m := by rw [t6]; simp [upd_e]
      have v7 : t1.2.1 107 p = gn f on b m := by rw [t7]; simp [upd_e]
      have u4 : t1.2.1 104 4 = nI (sm f on 0 (m + 1)).1.1 := S'.2.2.2.1
      refine ⟨sF (sF t1 106 (upd (h.2.1 106) p (gn f on a (m + 1)))) 107 (upd (h.2.1 107) p (gn f on b (m + 1))), ?_, KP_F (KP_F (KP_t aK K (by decide) (by decide)) (by decide) _) (by decide) _, ?_, ?_, ?_⟩
      · have q1 : gn f on a m + ((nI (sm f on 0 (m + 1)).1.1 >>> (nI a &&& 31)) &&& 1) = gn f on a (m + 1) := rfl
        have q2 : gn f on b m + ((nI (sm f on 0 (m + 1)).1.1 >>> (nI b &&& 31)) &&& 1) = gn f on b (m + 1) := rfl
        have w6 : upd (t1.2.1 106) p (gn f on a (m + 1)) = upd (h.2.1 106) p (gn f on a (m + 1)) := by rw [t6, fa_upd_twice]
        have w7 : upd (t1.2.1 107) p (gn f on b (m + 1)) = upd (h.2.1 107) p (gn f on b (m + 1)) := by rw [t7, fa_upd_twice]
        simp only [fX9_layPair_b44]
        rw [gR99_6 Mt.1, Option.bind_some, a104_3 Mt.1, Option.bind_some, aS.2.2.1, if_neg (by rw [show (10 : Int32) = nI 10 from rfl, le_nI (by omega) (by omega)]; omega), gT99 Mt.1, e, Option.bind_some, gR99_8 M1.1, Option.bind_some, aN106 M1.1 hp, Option.bind_some, gR99_6 M1.1, Option.bind_some, a104_4 M1.1, Option.bind_some, v6, u4, q1, sN106 M1.1 hp, Option.bind_some, w6, gR99_9 g5, Option.bind_some, aN107 g5 hp, Option.bind_some, gR99_6 g5, Option.bind_some, a104_4 g5, Option.bind_some]
        have s7 : (sF t1 106 (upd (h.2.1 106) p (gn f on a (m + 1)))).2.1 107 = t1.2.1 107 := by simp [sF_I]
        have s4 : (sF t1 106 (upd (h.2.1 106) p (gn f on a (m + 1)))).2.1 104 = t1.2.1 104 := by simp [sF_I]
        rw [s7, s4, v7, u4, q2, sN107 g5 hp, Option.bind_some, s7, w7]
      · obtain ⟨c0, c1, c2, c3, c4, c5, c6⟩ := S'
        have s4 : (sF (sF t1 106 (upd (h.2.1 106) p (gn f on a (m + 1)))) 107 (upd (h.2.1 107) p (gn f on b (m + 1)))).2.1 104 = t1.2.1 104 := by simp [sF_I]
        unfold HS
        rw [s4]
        exact ⟨c0, c1, c2, c3, c4, c5, c6⟩
      · simp [sF_I]
      · simp [sF_I]
    · intro st ⟨aK, aS, a6, a7⟩
      have Mt := MX_k aK (by decide) M
      refine ⟨st, ?_, aK, a6, a7⟩
      simp only [fX9_layPair_b44]
      rw [gR99_6 Mt.1, Option.bind_some, a104_3 Mt.1, Option.bind_some, aS.2.2.1, if_pos (by decide)]
  obtain ⟨r, er, rK, r6, r7⟩ := lp
  subst hon
  refine ⟨r, ?_, rK, r6, r7⟩
  simp only [fX9_layPair]
  rw [gT99 M.1, e1, Option.bind_some, gR99_6 g1, Option.bind_some, if_neg (by decide), d1, la33, sN104 g1 (by omega), Option.bind_some, sF_s]
  simp only [sF_I, if_true]
  rw [gR99_6 g2, Option.bind_some, if_neg (by decide), ← d1, d2, la33, d1, sN104 g2 (by omega), Option.bind_some, sF_s]
  simp only [sF_I, if_true]
  rw [hA', gR99_8 g3, Option.bind_some, sN106 g3 hp, Option.bind_some]
  have s6 : (sF h 104 A').2.1 106 = h.2.1 106 := by simp [sF_I]
  have s7 : (sF (sF h 104 A') 106 (upd (h.2.1 106) p 0)).2.1 107 = h.2.1 107 := by simp [sF_I]
  rw [s6, gR99_9 g4, Option.bind_some, sN107 g4 hp, Option.bind_some, s7, hh4, er, Option.bind_some]
def rsB (G1 G2 : Nat → Nat → Int32) (oA oB i j : Nat) : Bool := allB (fun o => decide (G1 o j ≤ G1 i j)) oA && allB (fun o => decide (G2 i o ≤ G2 i j)) oB
theorem rests_c {f : Nat → Int32} {a b oA oB i j : Nat} (g : GH h) (T : GT h f a b oA oB oA 0) (hA : oA ≤ 9) (hB : oB ≤ 9) (hi : i < oA) (hj : j < oB) : fX7_rests 72 (nI i) (nI j) h = some (if rsB (gA f a b) (gB f a b) oA oB i j = true then 1 else 0) := by
  obtain ⟨t1, t2, t3⟩ := T
  have t3' : ∀ i' j', i' < oA → j' < oB → h.2.1 73 (10 * i' + j') = gA f a b i' j' ∧ h.2.1 74 (10 * i' + j') = gB f a b i' j' := fun i' j' q1 q2 => t3 i' j' q2 (Or.inl q1)
  have l1 : ∃ r, xloop (fX7_rests_b2 72 (nI i) (nI j) h) 1000000 0 = some r ∧ ((r = Sum.inl () ∧ allB (fun o => decide (gA f a b o j ≤ gA f a b i j)) oA = false) ∨ (r = Sum.inr (72, nI i, nI j) ∧ allB (fun o => decide (gA f a b o j ≤ gA f a b i j)) oA = true)) := by
    refine xloop_i (body := fX7_rests_b2 72 (nI i) (nI j) h) (fun o st => st = nI o ∧ allB (fun o => decide (gA f a b o j ≤ gA f a b i j)) o = true) (fun r => (r = Sum.inl () ∧ allB (fun o => decide (gA f a b o j ≤ gA f a b i j)) oA = false) ∨ (r = Sum.inr (72, nI i, nI j) ∧ allB (fun o => decide (gA f a b o j ≤ gA f a b i j)) oA = true)) oA (by omega) ?_ ?_ ⟨rfl, rfl⟩
    · intro o st ho ⟨a1, a2⟩
      subst a1
      have hd : fX7_rests_b2 72 (nI i) (nI j) h (nI o) = if gA f a b o j ≤ gA f a b i j then some (Sum.inl (nI (o + 1))) else some (Sum.inr (Sum.inl ())) := by
        simp only [fX7_rests_b2]
        rw [gI72 g, Option.bind_some, t1, if_neg (by rw [le_nI (by omega) (by omega)]; omega), gR72_0 g, Option.bind_some, lm10, nI_add, aN73 g (by omega), Option.bind_some, Option.bind_some, lm10, nI_add, aN73 g (by omega), Option.bind_some, (t3' o j ho hj).1, (t3' i j hi hj).1, nI_1]
      rw [hd]
      by_cases z : gA f a b o j ≤ gA f a b i j
      · left; rw [if_pos z]
        exact ⟨_, rfl, rfl, by simp only [allB]; rw [a2]; simp [z]⟩
      · right; rw [if_neg z]
        exact ⟨_, rfl, Or.inl ⟨rfl, allB_no (q := o) (by simp [z]) _ ho⟩⟩
    · intro st ⟨a1, a2⟩
      subst a1
      refine ⟨_, ?_, Or.inr ⟨rfl, a2⟩⟩
      simp only [fX7_rests_b2]
      rw [gI72 g, Option.bind_some, t1, if_pos (by rw [le_nI (by omega) (by omega)]; omega)]
  have l2 : ∃ r, xloop (fX7_rests_b45 72 (nI i) (nI j) h) 1000000 0 = some r ∧ ((r = Sum.inl () ∧ allB (fun o => decide (gB f a b i o ≤ gB f a b i j)) oB = false) ∨ (r = Sum.inr () ∧ allB (fun o => decide (gB f a b i o ≤ gB f a b i j)) oB = true)) := by
    refine xloop_i (body := fX7_rests_b45 72 (nI i) (nI j) h) (fun o st => st = nI o ∧ allB (fun o => decide (gB f a b i o ≤ gB f a b i j)) o = true) (fun r => (r = Sum.inl () ∧ allB (fun o => decide (gB f a b i o ≤ gB f a b i j)) oB = false) ∨ (r = Sum.inr () ∧ allB (fun o => decide (gB f a b i o ≤ gB f a b i j)) oB = true)) oB (by omega) ?_ ?_ ⟨rfl, rfl⟩
    · intro o st ho ⟨a1, a2⟩
      subst a1
      have hd : fX7_rests_b45 72 (nI i) (nI j) h (nI o) = if gB f a b i o ≤ gB f a b i j then some (Sum.inl (nI (o + 1))) else some (Sum.inr (Sum.inl ())) := by
        simp only [fX7_rests_b45]
        rw [gI72 g, Option.bind_some, t2, if_neg (by rw [le_nI (by omega) (by omega)]; omega), gR72_1 g, Option.bind_some, lm10, nI_add, aN74 g (by omega), Option.bind_some, Option.bind_some, nI_add, aN74 g (by omega), Option.bind_some, (t3' i o hi ho).2, (t3' i j hi hj).2, nI_1]
      rw [hd]
      by_cases z : gB f a b i o ≤ gB f a b i j
      · left; rw [if_pos z]
        exact ⟨_, rfl, rfl, by simp only [allB]; rw [a2]; simp [z]⟩
      · right; rw [if_neg z]
        exact ⟨_, rfl, Or.inl ⟨rfl, allB_no (q := o) (by simp [z]) _ ho⟩⟩
    · intro st ⟨a1, a2⟩
      subst a1
      refine ⟨_, ?_, Or.inr ⟨rfl, a2⟩⟩
      simp only [fX7_rests_b45]
      rw [gI72 g, Option.bind_some, t2, if_pos (by rw [le_nI (by omega) (by omega)]; omega)]
  obtain ⟨r1, e1, c1⟩ := l1
  obtain ⟨r2, e2, c2⟩ := l2
  simp only [fX7_rests]
  rw [e1, Option.bind_some]
  rcases c1 with ⟨rfl, q1⟩ | ⟨rfl, q1⟩
  · simp [rsB, q1]
  · simp only []
    rw [e2, Option.bind_some]
    rcases c2 with ⟨rfl, q2⟩ | ⟨rfl, q2⟩
    · simp [rsB, q2]
    · simp [rsB, q1, q2]
/-- what the model has counted -/
def HT (h : Hp) (f : Nat → Int32) (a b oA oB P : Nat) : Prop := ∀ p, p < P → p / 10 < oA → p % 10 < oB → h.2.1 106 p = gA f a b (p / 10) (p % 10) ∧ h.2.1 107 p = gB f a b (p / 10) (p % 10)
theorem isPair_e {f : Nat → Int32} {a b oA oB p : Nat} (M : MX h f) (ha : a < nn f) (hb : b < nn f) (A1 : f (40 + a) = nI oA) (B1 : f (40 + b) = nI oB) (hA : oA ≤ 9) (hB : oB ≤ 9) (hp : p < 100) : fX9_isPair 99 (nI a) (nI b) (nI p) h = some (if p / 10 < oA ∧ p % 10 < oB then 1 else 0) := by
  have g := M.1
  have n7 := (n_eq M.2.1).2.1
  obtain ⟨d1, d2⟩ := div10 p hp
  simp only [fX9_isPair, fX9_isPair_j36, fX9_isPair_j37]
  rw [if_pos (show vp_nar .boolean 0 = 0 from rfl), if_pos (show vp_nar .boolean 1 = 1 from rfl), if_neg (show ¬ (10 : Int32) = 0 by decide), gR99_0 g, Option.bind_some, la40, aN100 g (by omega), Option.bind_some, if_neg (show ¬ (10 : Int32) = 0 by decide), Option.bind_some, la40, aN100 g (by omega), Option.bind_some, M.2.2, A1, B1, d2, d1]
  simp only [nI_leI (show oA < 2 ^ 31 by omega) (show p / 10 < 2 ^ 31 by omega), nI_leI (show oB < 2 ^ 31 by omega) (show p % 10 < 2 ^ 31 by omega)]
  by_cases z1 : oA ≤ p / 10
  · rw [if_pos z1, if_neg (by omega)]
  · by_cases z2 : oB ≤ p % 10
    · rw [if_neg z1, if_pos z2, if_neg (by omega)]
    · rw [if_neg z1, if_neg z2, if_pos (by omega)]
theorem rests_m {f : Nat → Int32} {a b oA oB p : Nat} (M : MX h f) (ha : a < nn f) (hb : b < nn f) (A1 : f (40 + a) = nI oA) (B1 : f (40 + b) = nI oB) (hA : oA ≤ 9) (hB : oB ≤ 9) (hp : p < 100) (T : HT h f a b oA oB 100) (p1 : p / 10 < oA) (p2 : p % 10 < oB) : fX9_rests 99 (nI a) (nI b) (nI p) h = some (if rsB (gA f a b) (gB f a b) oA oB (p / 10) (p % 10) = true then 1 else 0) := by
  have g := M.1
  have n7 := (n_eq M.2.1).2.1
  obtain ⟨d1, d2⟩ := div10 p hp
  have e40 : ∀ c, c < nn f → xaI h 100 10 (nI (40 + c)) = some (f (40 + c)) := fun c hc => by rw [aN100 g (by omega), M.2.2]
  have tp := T p hp p1 p2
  generalize hi : p / 10 = i at *
  generalize hj : p % 10 = j at *
  have ep : p = 10 * i + j := by omega
  have l1 : xloop (fX9_rests_b6 99 (nI a) (nI b) (nI p) h) 1000000 (1, 0) = some (99, nI b, nI p, if allB (fun o => decide (gA f a b o j ≤ gA f a b i j)) oA = true then 1 else 0) := by
    refine xloop_c (fun o => (if allB (fun o => decide (gA f a b o j ≤ gA f a b i j)) o = true then 1 else 0, nI o)) _ oA (by omega) ?_ ?_ rfl
    · intro o ho
      have to := T (10 * o + j) (by omega) (by omega) (by omega)
      rw [show (10 * o + j) / 10 = o by omega, show (10 * o + j) % 10 = j by omega] at to
      simp only [fX9_rests_b6, fX9_rests_j53, fX9_rests_j54]
      rw [gR99_0 g, Option.bind_some, la40, e40 a ha, Option.bind_some, A1, if_neg (by rw [le_nI (by omega) (by omega)]; omega), gR99_8 g, Option.bind_some, if_neg (show ¬ (10 : Int32) = 0 by decide), d2, lm10, nI_add, aN106 g (by omega), Option.bind_some, Option.bind_some, aN106 g hp, Option.bind_some, to.1, tp.1, nI_1]
      have z3 : gA f a b i j < gA f a b o j ↔ ¬ gA f a b o j ≤ gA f a b i j := by rw [fa_lt, fa_le]; omega
      by_cases z0 : allB (fun o => decide (gA f a b o j ≤ gA f a b i j)) o = true
      · by_cases z1 : gA f a b o j ≤ gA f a b i j
        · simp [z0, z1, z3, allB]
        · simp [z0, z1, z3, allB]
      · simp [z0, allB]
    · simp only [fX9_rests_b6]
      rw [gR99_0 g, Option.bind_some, la40, e40 a ha, Option.bind_some, A1, if_pos (by rw [le_nI (by omega) (by omega)]; omega)]
  have l2 : ∀ t : Int32, (t = 0 ∨ t = 1) → xloop (fX9_rests_b65 99 (nI b) (nI p) h) 1000000 (t, 0) = some (if t = 1 ∧ allB (fun o => decide (gB f a b i o ≤ gB f a b i j)) oB = true then 1 else 0) := by
    intro t ht
    refine xloop_c (fun o => (if t = 1 ∧ allB (fun o => decide (gB f a b i o ≤ gB f a b i j)) o = true then 1 else 0, nI o)) _ oB (by omega) ?_ ?_ ?_
    · intro o ho
      have to := T (10 * i + o) (by omega) (by omega) (by omega)
      rw [show (10 * i + o) / 10 = i by omega, show (10 * i + o) % 10 = o by omega] at to
      have ix : nI i * 10 + nI o = nI (10 * i + o) := by rw [Int32.mul_comm, lm10, nI_add]
      simp only [fX9_rests_b65, fX9_rests_j112, fX9_rests_j113]
      rw [gR99_0 g, Option.bind_some, la40, e40 b hb, Option.bind_some, B1, if_neg (by rw [le_nI (by omega) (by omega)]; omega), gR99_9 g, Option.bind_some, if_neg (show ¬ (10 : Int32) = 0 by decide), d1, ix, aN107 g (by omega), Option.bind_some, Option.bind_some, aN107 g hp, Option.bind_some, to.2, tp.2, nI_1]
      have z3 : gB f a b i j < gB f a b i o ↔ ¬ gB f a b i o ≤ gB f a b i j := by rw [fa_lt, fa_le]; omega
      by_cases z0 : t = 1 ∧ allB (fun o => decide (gB f a b i o ≤ gB f a b i j)) o = true
      · by_cases z1 : gB f a b i o ≤ gB f a b i j
        · simp [z0, z1, z3, allB]
        · simp [z0, z1, z3, allB]
      · have z1 : ¬ (t = 1 ∧ allB (fun o => decide (gB f a b i o ≤ gB f a b i j)) (o + 1) = true) := fun q => z0 ⟨q.1, by have := q.2; simp only [allB, Bool.and_eq_true] at this; exact this.1⟩
        rw [if_neg z0, if_pos rfl, if_neg z1]
    · simp only [fX9_rests_b65]
      rw [gR99_0 g, Option.bind_some, la40, e40 b hb, Option.bind_some, B1, if_pos (by rw [le_nI (by omega) (by omega)]; omega)]
    · rcases ht with rfl | rfl
      · simp; rfl
      · simp [allB]; rfl
  simp only [fX9_rests]
  rw [l1, Option.bind_some]
  simp only []
  by_cases q1 : allB (fun o => decide (gA f a b o j ≤ gA f a b i j)) oA = true
  · by_cases q2 : allB (fun o => decide (gB f a b i o ≤ gB f a b i j)) oB = true
    · rw [if_pos q1, l2 1 (Or.inr rfl), Option.bind_some, if_pos (⟨rfl, q2⟩ : (1 : Int32) = 1 ∧ _), if_pos (show vp_nar .boolean 1 = 1 from rfl)]; simp [rsB, q1, q2]
    · rw [if_pos q1, l2 1 (Or.inr rfl), Option.bind_some, if_neg (fun z : (1 : Int32) = 1 ∧ allB (fun o => decide (gB f a b i o ≤ gB f a b i j)) oB = true => q2 z.2), if_pos (show vp_nar .boolean 0 = 0 from rfl)]; simp [rsB, q2]
  · rw [if_neg q1, l2 0 (Or.inl rfl), Option.bind_some, if_neg (fun z : (0 : Int32) = 1 ∧ allB (fun o => decide (gB f a b i o ≤ gB f a b i j)) oB = true => by simp at z), if_pos (show vp_nar .boolean 0 = 0 from rfl)]; simp [rsB, q1]
end TWO2
