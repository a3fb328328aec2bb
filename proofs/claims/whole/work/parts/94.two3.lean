section TWO3
variable {h : Hp}
def ctN (ok : Nat → Bool) : Nat → Nat
  | 0 => 0
  | p + 1 => if ok p = true then ctN ok p + 1 else ctN ok p
def isN (ok : Nat → Bool) (k : Int32) : Nat → Int32
  | 0 => -5
  | p + 1 => if ok p = true ∧ nI (ctN ok p) = k then nI p else isN ok k p
theorem ctN_le {ok : Nat → Bool} : ∀ p, ctN ok p ≤ p
  | 0 => Nat.le_refl _
  | p + 1 => by
    have := ctN_le (ok := ok) p
    simp only [ctN]; split <;> omega
theorem ctN_mono {ok : Nat → Bool} {p : Nat} : ∀ q, p ≤ q → ctN ok p ≤ ctN ok q
  | 0, h => by rw [show p = 0 by omega]; exact Nat.le_refl _
  | q + 1, h => by
    by_cases z : p = q + 1
    · rw [z]; exact Nat.le_refl _
    · have := ctN_mono (ok := ok) (p := p) q (by omega)
      simp only [ctN]; split <;> omega
theorem ct_flat {ok : Nat → Bool} {k : Int32} {p : Nat} : ∀ q, p ≤ q → (∀ r, p ≤ r → r < q → ok r = false) → ctN ok q = ctN ok p ∧ isN ok k q = isN ok k p
  | 0, h, _ => by rw [show p = 0 by omega]; exact ⟨rfl, rfl⟩
  | q + 1, h, H => by
    by_cases z : p = q + 1
    · rw [z]; exact ⟨rfl, rfl⟩
    · have := ct_flat (ok := ok) (k := k) (p := p) q (by omega) (fun r h1 h2 => H r h1 (by omega))
      have e := H q (by omega) (by omega)
      simp only [ctN, isN, e]
      simpa using this
theorem is_found {ok : Nat → Bool} {k : Int32} {p0 : Nat} (h1 : ok p0 = true) (h2 : nI (ctN ok p0) = k) : ∀ p, p0 < p → p ≤ 1000 → isN ok k p = nI p0
  | 0, h, _ => by omega
  | p + 1, h, hp => by
    simp only [isN]
    by_cases z : p = p0
    · subst z; rw [if_pos ⟨h1, h2⟩]
    · rw [if_neg, is_found h1 h2 p (by omega) (by omega)]
      intro q
      have m := ctN_mono (ok := ok) (p := p0 + 1) p (by omega)
      have s : ctN ok (p0 + 1) = ctN ok p0 + 1 := by simp only [ctN]; rw [if_pos h1]
      have l1 := ctN_le (ok := ok) p
      have l2 := ctN_le (ok := ok) p0
      have := (nI_eq (a := ctN ok p) (b := ctN ok p0) (by omega) (by omega)).mp (q.2.trans h2.symm)
      omega
def okP (f : Nat → Int32) (a b oA oB p : Nat) : Bool := decide (p / 10 < oA ∧ p % 10 < oB) && rsB (gA f a b) (gB f a b) oA oB (p / 10) (p % 10)
theorem okP_in {f : Nat → Int32} {a b oA oB i j : Nat} (hi : i < oA) (hj : j < oB) (hB : oB ≤ 9) : okP f a b oA oB (10 * i + j) = rsB (gA f a b) (gB f a b) oA oB i j := by
  unfold okP
  rw [show (10 * i + j) / 10 = i by omega, show (10 * i + j) % 10 = j by omega]
  simp [hi, hj]
theorem okP_out {f : Nat → Int32} {a b oA oB p : Nat} (hp : ¬ (p / 10 < oA ∧ p % 10 < oB)) : okP f a b oA oB p = false := by
  unfold okP; simp only [hp, decide_false, Bool.false_and]
theorem two_m {f : Nat → Int32} {a b oA oB : Nat} {k : Int32} (M : MX h f) (ha : a < nn f) (hb : b < nn f) (A1 : f (40 + a) = nI oA) (B1 : f (40 + b) = nI oB) (hA : oA ≤ 9) (hB : oB ≤ 9) (T : HT h f a b oA oB 100) : xloop (fX9_two_b78 99 (nI a) (nI b) k h) 1000000 (0, -5, 0) = some (k, nI (ctN (okP f a b oA oB) 100), isN (okP f a b oA oB) k 100) := by
  refine xloop_c (fun p => (nI (ctN (okP f a b oA oB) p), isN (okP f a b oA oB) k p, nI p)) _ 100 (by decide) ?_ ?_ rfl
  · intro p hp
    simp only [fX9_two_b78, fX9_two_j120, fX9_two_j125]
    rw [if_neg (by rw [show (100 : Int32) = nI 100 from rfl, le_nI (by omega) (by omega)]; omega), gT99 M.1, isPair_e M ha hb A1 B1 hA hB hp, Option.bind_some]
    by_cases z : p / 10 < oA ∧ p % 10 < oB
    · rw [if_pos z, if_neg (by decide), gT99 M.1, rests_m M ha hb A1 B1 hA hB hp T z.1 z.2, Option.bind_some]
      have e : okP f a b oA oB p = rsB (gA f a b) (gB f a b) oA oB (p / 10) (p % 10) := by unfold okP; simp [z]
      simp only [ctN, isN]
      generalize okP f a b oA oB = ok at e
      rw [e]
      by_cases z2 : rsB (gA f a b) (gB f a b) oA oB (p / 10) (p % 10) = true
      · by_cases z3 : nI (ctN ok p) = k
        · simp [z2, z3, nI_1]
          rw [← z3, nI_1]
        · simp [z2, z3, nI_1]
      · simp [z2, nI_1]
    · have e := okP_out (f := f) (a := a) (b := b) z
      rw [if_neg z, if_pos rfl]
      simp only [ctN, isN, e, nI_1]
      simp
  · simp only [fX9_two_b78]
    rw [if_pos (by decide)]
theorem resting_c {f : Nat → Int32} {a b oA oB : Nat} (g : GH h) (T : GT h f a b oA oB oA 0) (hA : oA ≤ 9) (hB : oB ≤ 9) : fX7_resting 72 h = some (nI (ctN (okP f a b oA oB) 100)) := by
  have fl : ∀ i, i < oA → ctN (okP f a b oA oB) (10 * (i + 1)) = ctN (okP f a b oA oB) (10 * i + oB) := fun i hi => (ct_flat (k := 0) (10 * (i + 1)) (by omega) (fun r h1 h2 => okP_out (by omega))).1
  have fe : ctN (okP f a b oA oB) 100 = ctN (okP f a b oA oB) (10 * oA) := (ct_flat (k := 0) 100 (by omega) (fun r h1 h2 => okP_out (by omega))).1
  have lp : xloop (fX7_resting_b4 72 h) 1000000 (0, 0) = some (nI (ctN (okP f a b oA oB) 100)) := by
    rw [fe]
    refine xloop_c (fun i => (nI (ctN (okP f a b oA oB) (10 * i)), nI i)) _ oA (by omega) ?_ ?_ rfl
    · intro i hi
      have li : xloop (fX7_resting_b14 72 (nI i) h) 1000000 (nI (ctN (okP f a b oA oB) (10 * i)), 0) = some (72, nI (ctN (okP f a b oA oB) (10 * i + oB)), nI i) := by
        refine xloop_c (fun j => (nI (ctN (okP f a b oA oB) (10 * i + j)), nI j)) _ oB (by omega) ?_ ?_ rfl
        · intro j hj
          simp only [fX7_resting_b14, fX7_resting_j34]
          rw [gI72 g, Option.bind_some, T.2.1, if_neg (by rw [le_nI (by omega) (by omega)]; omega), gT72 g, rests_c g T hA hB hi hj, Option.bind_some, ← okP_in hi hj hB]
          have e : ctN (okP f a b oA oB) (10 * i + (j + 1)) = if okP f a b oA oB (10 * i + j) = true then ctN (okP f a b oA oB) (10 * i + j) + 1 else ctN (okP f a b oA oB) (10 * i + j) := rfl
          rw [e]
          by_cases z : okP f a b oA oB (10 * i + j) = true
          · simp [z, nI_1]
          · simp [z, nI_1]
        · simp only [fX7_resting_b14]
          rw [gI72 g, Option.bind_some, T.2.1, if_pos (by rw [le_nI (by omega) (by omega)]; omega)]
      simp only [fX7_resting_b4]
      rw [gI72 g, Option.bind_some, T.1, if_neg (by rw [le_nI (by omega) (by omega)]; omega), li, Option.bind_some, fl i hi, nI_1]
    · simp only [fX7_resting_b4]
      rw [gI72 g, Option.bind_some, T.1, if_pos (by rw [le_nI (by omega) (by omega)]; omega)]
  simp only [fX7_resting]
  rw [lp, Option.bind_some]
theorem restingAt_c {f : Nat → Int32} {a b oA oB : Nat} {k : Int32} (g : GH h) (T : GT h f a b oA oB oA 0) (hA : oA ≤ 9) (hB : oB ≤ 9) : fX7_restingAt 72 k h = some (isN (okP f a b oA oB) k 100) := by
  have fl : ∀ i, i < oA → ctN (okP f a b oA oB) (10 * (i + 1)) = ctN (okP f a b oA oB) (10 * i + oB) ∧ isN (okP f a b oA oB) k (10 * (i + 1)) = isN (okP f a b oA oB) k (10 * i + oB) := fun i hi => ct_flat (10 * (i + 1)) (by omega) (fun r h1 h2 => okP_out (by omega))
  have fe : isN (okP f a b oA oB) k 100 = isN (okP f a b oA oB) k (10 * oA) := (ct_flat 100 (by omega) (fun r h1 h2 => okP_out (by omega))).2
  generalize hok : okP f a b oA oB = ok at fl fe
  have lp : ∃ r, xloop (fX7_restingAt_b4 72 k h) 1000000 (0, 0) = some r ∧ ((∃ i j, r = Sum.inl (nI i, nI j) ∧ isN ok k 100 = nI (10 * i + j)) ∨ (r = Sum.inr () ∧ isN ok k 100 = -5)) := by
    refine xloop_i (body := fX7_restingAt_b4 72 k h) (fun i st => st.1 = nI (ctN ok (10 * i)) ∧ st.2 = nI i ∧ isN ok k (10 * i) = -5) (fun r => (∃ i j, r = Sum.inl (nI i, nI j) ∧ isN ok k 100 = nI (10 * i + j)) ∨ (r = Sum.inr () ∧ isN ok k 100 = -5)) oA (by omega) ?_ ?_ ⟨rfl, rfl, rfl⟩
    · intro i st hi ⟨a1, a2, a3⟩
      have li : ∃ r, xloop (fX7_restingAt_b15 72 k (nI i) h) 1000000 (st.1, 0) = some r ∧ ((∃ j, r = Sum.inl (nI i, nI j) ∧ isN ok k 100 = nI (10 * i + j)) ∨ (r = Sum.inr (72, k, nI (ctN ok (10 * (i + 1))), nI i) ∧ isN ok k (10 * (i + 1)) = -5)) := by
        refine xloop_i (body := fX7_restingAt_b15 72 k (nI i) h) (fun j t => t.1 = nI (ctN ok (10 * i + j)) ∧ t.2 = nI j ∧ isN ok k (10 * i + j) = -5) (fun r => (∃ j, r = Sum.inl (nI i, nI j) ∧ isN ok k 100 = nI (10 * i + j)) ∨ (r = Sum.inr (72, k, nI (ctN ok (10 * (i + 1))), nI i) ∧ isN ok k (10 * (i + 1)) = -5)) oB (by omega) ?_ ?_ ⟨a1, rfl, a3⟩
        · intro j t hj ⟨c1, c2, c3⟩
          have hd : fX7_restingAt_b15 72 k (nI i) h t = if ok (10 * i + j) = true then (if nI (ctN ok (10 * i + j)) = k then some (Sum.inr (Sum.inl (nI i, nI j))) else some (Sum.inl (nI (ctN ok (10 * i + j) + 1), nI (j + 1)))) else some (Sum.inl (nI (ctN ok (10 * i + j)), nI (j + 1))) := by
            simp only [fX7_restingAt_b15, fX7_restingAt_j53]
            rw [gI72 g, Option.bind_some, T.2.1, c1, c2, if_neg (by rw [le_nI (by omega) (by omega)]; omega), gT72 g, rests_c g T hA hB hi hj, Option.bind_some, ← okP_in hi hj hB, hok, nI_1, nI_1]
            by_cases z : ok (10 * i + j) = true
            · simp only [z, if_true, ne10, if_false]
            · simp only [z, if_true, if_false]; rfl
          have e1 : ctN ok (10 * i + (j + 1)) = if ok (10 * i + j) = true then ctN ok (10 * i + j) + 1 else ctN ok (10 * i + j) := rfl
          have e2 : isN ok k (10 * i + (j + 1)) = if ok (10 * i + j) = true ∧ nI (ctN ok (10 * i + j)) = k then nI (10 * i + j) else isN ok k (10 * i + j) := rfl
          by_cases z1 : ok (10 * i + j) = true
          · by_cases z2 : nI (ctN ok (10 * i + j)) = k
            · right
              rw [if_pos z1, if_pos z2] at hd
              exact ⟨_, hd, Or.inl ⟨j, rfl, is_found z1 z2 100 (by omega) (by omega)⟩⟩
            · left
              rw [if_pos z1, if_neg z2] at hd
              exact ⟨_, hd, by rw [e1, if_pos z1], rfl, by rw [e2, if_neg (fun q => z2 q.2)]; exact c3⟩
          · left
            rw [if_neg z1] at hd
            exact ⟨_, hd, by rw [e1, if_neg z1], rfl, by rw [e2, if_neg (fun q => z1 q.1)]; exact c3⟩
        · intro t ⟨c1, c2, c3⟩
          refine ⟨_, ?_, Or.inr ⟨rfl, by rw [(fl i hi).2]; exact c3⟩⟩
          simp only [fX7_restingAt_b15]
          rw [gI72 g, Option.bind_some, T.2.1, c1, c2, if_pos (by rw [le_nI (by omega) (by omega)]; omega), (fl i hi).1]
      obtain ⟨r, er, hr⟩ := li
      rcases hr with ⟨j, rfl, e⟩ | ⟨rfl, e⟩
      · right
        refine ⟨Sum.inl (nI i, nI j), ?_, Or.inl ⟨i, j, rfl, e⟩⟩
        simp only [fX7_restingAt_b4]
        rw [gI72 g, Option.bind_some, T.1, a2, if_neg (by rw [le_nI (by omega) (by omega)]; omega), er, Option.bind_some]
      · left
        refine ⟨(nI (ctN ok (10 * (i + 1))), nI i + 1), ?_, rfl, nI_1 i, e⟩
        simp only [fX7_restingAt_b4]
        rw [gI72 g, Option.bind_some, T.1, a2, if_neg (by rw [le_nI (by omega) (by omega)]; omega), er, Option.bind_some]
    · intro st ⟨a1, a2, a3⟩
      refine ⟨Sum.inr (), ?_, Or.inr ⟨rfl, by rw [fe]; exact a3⟩⟩
      simp only [fX7_restingAt_b4]
      rw [gI72 g, Option.bind_some, T.1, a2, if_pos (by rw [le_nI (by omega) (by omega)]; omega)]
  obtain ⟨r, er, hr⟩ := lp
  simp only [fX7_restingAt]
  rw [er, Option.bind_some]
  rcases hr with ⟨i, j, rfl, e⟩ | ⟨rfl, e⟩
  · simp only []; rw [e, lm10, nI_add]
  · simp only []; rw [e]
theorem play_m {f : Nat → Int32} {a b oA oB : Nat} {k : Int32} (M : MX h f) (ha : a < nn f) (hb : b < nn f) (hab : a ≠ b) (A1 : f (40 + a) = nI oA) (B1 : f (40 + b) = nI oB) (hA : oA ≤ 9) (hB : oB ≤ 9) : ∃ h', xloop (fX9_two_b36 99 (nI a) (nI b) k) 1000000 (0, h) = some (99, nI a, nI b, k, h') ∧ KP [104, 106, 107] h h' ∧ HT h' f a b oA oB 100 := by
  have lp : ∃ r, xloop (fX9_two_b36 99 (nI a) (nI b) k) 1000000 (0, h) = some r ∧ ∃ h', r = (99, nI a, nI b, k, h') ∧ KP [104, 106, 107] h h' ∧ HT h' f a b oA oB 100 := by
    refine xloop_i (body := fX9_two_b36 99 (nI a) (nI b) k) (fun p st => st.1 = nI p ∧ KP [104, 106, 107] h st.2 ∧ HT st.2 f a b oA oB p) (fun r => ∃ h', r = (99, nI a, nI b, k, h') ∧ KP [104, 106, 107] h h' ∧ HT h' f a b oA oB 100) 100 (by omega) ?_ ?_ ⟨rfl, KP_rfl _ h, fun p hp => by omega⟩
    · intro p st hp ⟨a1, aK, aT⟩
      left
      have Mt := MX_k aK (by decide) M
      have ip := isPair_e Mt ha hb A1 B1 hA hB hp
      by_cases z : p / 10 < oA ∧ p % 10 < oB
      · obtain ⟨h', e, K, x6, x7⟩ := layPair_e Mt ha hb hab hp
        refine ⟨(nI (p + 1), h'), ?_, rfl, KP_t aK K (fun _ z => z) (fun _ z => z), ?_⟩
        · simp only [fX9_two_b36, fX9_two_j62]
          rw [a1, if_neg (by rw [show (100 : Int32) = nI 100 from rfl, le_nI (by omega) (by omega)]; omega), gT99 Mt.1, ip, Option.bind_some, if_pos z, if_neg (by decide), gT99 Mt.1, e, Option.bind_some, nI_1]
        · intro q hq q1 q2
          rw [x6, x7]
          simp only [upd_e]
          by_cases y : q = p
          · rw [if_pos y, if_pos y, y]; exact ⟨rfl, rfl⟩
          · rw [if_neg y, if_neg y]; exact aT q (by omega) q1 q2
      · refine ⟨(nI (p + 1), st.2), ?_, rfl, aK, fun q hq q1 q2 => aT q (by
          by_cases y : q = p
          · subst y; exact absurd ⟨q1, q2⟩ z
          · omega) q1 q2⟩
        simp only [fX9_two_b36, fX9_two_j62]
        rw [a1, if_neg (by rw [show (100 : Int32) = nI 100 from rfl, le_nI (by omega) (by omega)]; omega), gT99 Mt.1, ip, Option.bind_some, if_neg z, if_pos rfl, nI_1]
    · intro st ⟨a1, aK, aT⟩
      refine ⟨_, ?_, st.2, rfl, aK, aT⟩
      simp only [fX9_two_b36]
      rw [a1, if_pos (by decide)]
  obtain ⟨r, er, h', rfl, K, T⟩ := lp
  exact ⟨h', er, K, T⟩
theorem op_two (H : Inv h) (v w z : Int32) : Op (fX8_two 0 v w z h) (fX9_two 99 v w z) := by
  have g := H.1
  have W := H.2.2.1
  have n7 := (n_eq W).2.1
  by_cases q1 : ¬ (0 ≤ v.toInt ∧ v.toInt ≤ (nn (h.2.1 100) : Int) - 1)
  · refine Op_bad H (-10) 0 (by omega) ?_ ?_
    · simp (disch := first | exact g | exact GH_F2 g | exact GH_F2 (GH_F2 g) | exact GH_F2 (GH_F2 (GH_F2 g)) | exact GH_F2 (GH_F2 (GH_F2 (GH_F2 g))) | exact GH_F2 (GH_F2 (GH_F2 (GH_F2 (GH_F2 g)))) | exact GH_F2 (GH_F2 (GH_F2 (GH_F2 (GH_F2 (GH_F2 g))))) | exact GH_F2 (GH_F2 (GH_F2 (GH_F2 (GH_F2 (GH_F2 (GH_F2 g)))))) | exact GH_F2 (GH_F2 (GH_F2 (GH_F2 (GH_F2 (GH_F2 (GH_F2 (GH_F2 g))))))) | exact GH_F2 (GH_F2 (GH_F2 (GH_F2 (GH_F2 (GH_F2 (GH_F2 (GH_F2 (GH_F2 g)))))))) | omega | decide) [fX8_two, fX8_two_j17, hasTwo_1 H, inb_no q1, gR0_0, gR0_1, gR0_2, gR0_3, gR0_4, gR0_5, gR0_6, gR0_7, gR0_8, gR66_0, gR66_1, gR69_0, gR72_0, gR72_1, gR76_0, gR76_2, gR1_1, gR1_3, gR1_4, gR1_5, gR1_6, gR1_7, gR1_9, gR1_10, gR1_11, gR1_12, gR1_13, gR1_14, gI0, pI0, gT0, gI1, pI1, gT1, gI12, pI12, gT12, gI66, pI66, gT66, gI67, pI67, gT67, gI69, pI69, gT69, gI71, pI71, gT71, gI72, pI72, gT72, gI75, pI75, gT75, gI76, pI76, gT76, aI2, aI3, aI4, aI5, aI6, aI7, aI8, aI9, aI10, aI11, aI65, aI68, aI70, aI73, aI74, aI77, sI2, sI3, sI4, sI5, sI6, sI7, sI8, sI9, sI10, sI11, sI68, sI70, sI73, sI74, sI77, aN2, aN3, aN4, aN5, aN6, aN7, aN8, aN9, aN10, aN11, aN65, aN68, aN70, aN73, aN74, aN77, sN2, sN3, sN4, sN5, sN6, sN7, sN8, sN9, sN10, sN11, sN68, sN70, sN73, sN74, sN77, sZN65, sZ65, refuseBad_e, refuseNo_e, refuseFull_e, refuseOther_e, -Int32.toInt_add, -Int32.toInt_sub, nI_tt, nI_c, la1, lb1, la2, lb2, la3, lb3, la4, lb4, la5, lb5, la6, lb6, la7, lb7, la8, lb8, la9, lb9, la10, lb10, la19, lb19, la26, lb26, la33, lb33, la40, lb40, la47, lb47, la54, lb54, la78, lb78, la83, lb83, la118, lb118, lm2, lm4, lm5, lm10, lm118, t32_0, t64_0, t32_1, t64_1, t32_2, t64_2, t32_3, t64_3, t32_4, t64_4, t32_5, t64_5, t32_6, t64_6, t32_7, t64_7, t32_8, t64_8, t32_9, t64_9, t32_10, t64_10, t32_40, t64_40, t32_60, t64_60, t32_127, t64_127, t32_150, t64_150, t32_200, t64_200, t32_999999, t64_999999, reduceIte, ne01, ne02, ne03, ne04, ne05, ne06, ne07, ne10, ne12, ne13, ne14, ne15, ne16, ne17, ne20, ne21, ne23, ne24, ne25, ne26, ne27, ne30, ne31, ne32, ne34, ne35, ne36, ne37, ne40, ne41, ne42, ne43, ne45, ne46, ne47, ne50, ne51, ne52, ne53, ne54, ne56, ne57, ne60, ne61, ne62, ne63, ne64, ne65, ne67, ne70, ne71, ne72, ne73, ne74, ne75, ne76, eq0, eq1, eq2, eq3, eq4, eq5, eq6, eq7, bit_e, GH_F2, sF_I, sF_s, sF_1, sF_R, sF_L, Option.bind_some, i64_i, in_e, within_e]
    · intro h1 g e
      simp (disch := first | exact g | exact GH_F2 g | exact GH_F2 (GH_F2 g) | exact GH_F2 (GH_F2 (GH_F2 g)) | exact GH_F2 (GH_F2 (GH_F2 (GH_F2 g))) | exact GH_F2 (GH_F2 (GH_F2 (GH_F2 (GH_F2 g)))) | exact GH_F2 (GH_F2 (GH_F2 (GH_F2 (GH_F2 (GH_F2 g))))) | exact GH_F2 (GH_F2 (GH_F2 (GH_F2 (GH_F2 (GH_F2 (GH_F2 g)))))) | exact GH_F2 (GH_F2 (GH_F2 (GH_F2 (GH_F2 (GH_F2 (GH_F2 (GH_F2 g))))))) | exact GH_F2 (GH_F2 (GH_F2 (GH_F2 (GH_F2 (GH_F2 (GH_F2 (GH_F2 (GH_F2 g)))))))) | omega | decide) [fX9_two, fX9_two_j26, isI_at H g (e 100 (by decide)), inb_no q1, gR99_0, gR99_1, gR99_2, gR99_3, gR99_6, gR99_7, gR99_8, gR99_9, gR99_10, gR99_16, gR99_17, gI99, pI99, gT99, aI100, aI101, aI102, aI103, aI104, aI105, aI106, aI107, aI108, aI109, aI110, sI100, sI101, sI103, sI104, sI105, sI106, sI107, sI108, sI109, sI110, aN100, aN101, aN102, aN103, aN104, aN105, aN106, aN107, aN108, aN109, aN110, sN100, sN101, sN103, sN104, sN105, sN106, sN107, sN108, sN109, sN110, sZN102, sZ102, bad_e, no_e, full_e, many_e, isIdea_e, isStop_e, -Int32.toInt_add, -Int32.toInt_sub, nI_tt, nI_c, la1, lb1, la2, lb2, la3, lb3, la4, lb4, la5, lb5, la6, lb6, la7, lb7, la8, lb8, la9, lb9, la10, lb10, la19, lb19, la26, lb26, la33, lb33, la40, lb40, la47, lb47, la54, lb54, la78, lb78, la83, lb83, la118, lb118, lm2, lm4, lm5, lm10, lm118, t32_0, t64_0, t32_1, t64_1, t32_2, t64_2, t32_3, t64_3, t32_4, t64_4, t32_5, t64_5, t32_6, t64_6, t32_7, t64_7, t32_8, t64_8, t32_9, t64_9, t32_10, t64_10, t32_40, t64_40, t32_60, t64_60, t32_127, t64_127, t32_150, t64_150, t32_200, t64_200, t32_999999, t64_999999, reduceIte, ne01, ne02, ne03, ne04, ne05, ne06, ne07, ne10, ne12, ne13, ne14, ne15, ne16, ne17, ne20, ne21, ne23, ne24, ne25, ne26, ne27, ne30, ne31, ne32, ne34, ne35, ne36, ne37, ne40, ne41, ne42, ne43, ne45, ne46, ne47, ne50, ne51, ne52, ne53, ne54, ne56, ne57, ne60, ne61, ne62, ne63, ne64, ne65, ne67, ne70, ne71, ne72, ne73, ne74, ne75, ne76, eq0, eq1, eq2, eq3, eq4, eq5, eq6, eq7, bit_e, GH_F2, sF_I, sF_s, sF_1, sF_R, sF_L, Option.bind_some, i64_i, in_e, within_e]
  replace q1 := Classical.not_not.mp q1
  by_cases q2 : ¬ (0 ≤ w.toInt ∧ w.toInt ≤ (nn (h.2.1 100) : Int) - 1)
  · refine Op_bad H (-10) 0 (by omega) ?_ ?_
    · simp (disch := first | exact g | exact GH_F2 g | exact GH_F2 (GH_F2 g) | exact GH_F2 (GH_F2 (GH_F2 g)) | exact GH_F2 (GH_F2 (GH_F2 (GH_F2 g))) | exact GH_F2 (GH_F2 (GH_F2 (GH_F2 (GH_F2 g)))) | exact GH_F2 (GH_F2 (GH_F2 (GH_F2 (GH_F2 (GH_F2 g))))) | exact GH_F2 (GH_F2 (GH_F2 (GH_F2 (GH_F2 (GH_F2 (GH_F2 g)))))) | exact GH_F2 (GH_F2 (GH_F2 (GH_F2 (GH_F2 (GH_F2 (GH_F2 (GH_F2 g))))))) | exact GH_F2 (GH_F2 (GH_F2 (GH_F2 (GH_F2 (GH_F2 (GH_F2 (GH_F2 (GH_F2 g)))))))) | omega | decide) [fX8_two, fX8_two_j17, hasTwo_1 H, inb_ok q1, inb_no q2, gR0_0, gR0_1, gR0_2, gR0_3, gR0_4, gR0_5, gR0_6, gR0_7, gR0_8, gR66_0, gR66_1, gR69_0, gR72_0, gR72_1, gR76_0, gR76_2, gR1_1, gR1_3, gR1_4, gR1_5, gR1_6, gR1_7, gR1_9, gR1_10, gR1_11, gR1_12, gR1_13, gR1_14, gI0, pI0, gT0, gI1, pI1, gT1, gI12, pI12, gT12, gI66, pI66, gT66, gI67, pI67, gT67, gI69, pI69, gT69, gI71, pI71, gT71, gI72, pI72, gT72, gI75, pI75, gT75, gI76, pI76, gT76, aI2, aI3, aI4, aI5, aI6, aI7, aI8, aI9, aI10, aI11, aI65, aI68, aI70, aI73, aI74, aI77, sI2, sI3, sI4, sI5, sI6, sI7, sI8, sI9, sI10, sI11, sI68, sI70, sI73, sI74, sI77, aN2, aN3, aN4, aN5, aN6, aN7, aN8, aN9, aN10, aN11, aN65, aN68, aN70, aN73, aN74, aN77, sN2, sN3, sN4, sN5, sN6, sN7, sN8, sN9, sN10, sN11, sN68, sN70, sN73, sN74, sN77, sZN65, sZ65, refuseBad_e, refuseNo_e, refuseFull_e, refuseOther_e, -Int32.toInt_add, -Int32.toInt_sub, nI_tt, nI_c, la1, lb1, la2, lb2, la3, lb3, la4, lb4, la5, lb5, la6, lb6, la7, lb7, la8, lb8, la9, lb9, la10, lb10, la19, lb19, la26, lb26, la33, lb33, la40, lb40, la47, lb47, la54, lb54, la78, lb78, la83, lb83, la118, lb118, lm2, lm4, lm5, lm10, lm118, t32_0, t64_0, t32_1, t64_1, t32_2, t64_2, t32_3, t64_3, t32_4, t64_4, t32_5, t64_5, t32_6, t64_6, t32_7, t64_7, t32_8, t64_8, t32_9, t64_9, t32_10, t64_10, t32_40, t64_40, t32_60, t64_60, t32_127, t64_127, t32_150, t64_150, t32_200, t64_200, t32_999999, t64_999999, reduceIte, ne01, ne02, ne03, ne04, ne05, ne06, ne07, ne10, ne12, ne13, ne14, ne15, ne16, ne17, ne20, ne21, ne23, ne24, ne25, ne26, ne27, ne30, ne31, ne32, ne34, ne35, ne36, ne37, ne40, ne41, ne42, ne43, ne45, ne46, ne47, ne50, ne51, ne52, ne53, ne54, ne56, ne57, ne60, ne61, ne62, ne63, ne64, ne65, ne67, ne70, ne71, ne72, ne73, ne74, ne75, ne76, eq0, eq1, eq2, eq3, eq4, eq5, eq6, eq7, bit_e, GH_F2, sF_I, sF_s, sF_1, sF_R, sF_L, Option.bind_some, i64_i, in_e, within_e]
    · intro h1 g e
      simp (disch := first | exact g | exact GH_F2 g | exact GH_F2 (GH_F2 g) | exact GH_F2 (GH_F2 (GH_F2 g)) | exact GH_F2 (GH_F2 (GH_F2 (GH_F2 g))) | exact GH_F2 (GH_F2 (GH_F2 (GH_F2 (GH_F2 g)))) | exact GH_F2 (GH_F2 (GH_F2 (GH_F2 (GH_F2 (GH_F2 g))))) | exact GH_F2 (GH_F2 (GH_F2 (GH_F2 (GH_F2 (GH_F2 (GH_F2 g)))))) | exact GH_F2 (GH_F2 (GH_F2 (GH_F2 (GH_F2 (GH_F2 (GH_F2 (GH_F2 g))))))) | exact GH_F2 (GH_F2 (GH_F2 (GH_F2 (GH_F2 (GH_F2 (GH_F2 (GH_F2 (GH_F2 g)))))))) | omega | decide) [fX9_two, fX9_two_j26, isI_at H g (e 100 (by decide)), inb_ok q1, inb_no q2, gR99_0, gR99_1, gR99_2, gR99_3, gR99_6, gR99_7, gR99_8, gR99_9, gR99_10, gR99_16, gR99_17, gI99, pI99, gT99, aI100, aI101, aI102, aI103, aI104, aI105, aI106, aI107, aI108, aI109, aI110, sI100, sI101, sI103, sI104, sI105, sI106, sI107, sI108, sI109, sI110, aN100, aN101, aN102, aN103, aN104, aN105, aN106, aN107, aN108, aN109, aN110, sN100, sN101, sN103, sN104, sN105, sN106, sN107, sN108, sN109, sN110, sZN102, sZ102, bad_e, no_e, full_e, many_e, isIdea_e, isStop_e, -Int32.toInt_add, -Int32.toInt_sub, nI_tt, nI_c, la1, lb1, la2, lb2, la3, lb3, la4, lb4, la5, lb5, la6, lb6, la7, lb7, la8, lb8, la9, lb9, la10, lb10, la19, lb19, la26, lb26, la33, lb33, la40, lb40, la47, lb47, la54, lb54, la78, lb78, la83, lb83, la118, lb118, lm2, lm4, lm5, lm10, lm118, t32_0, t64_0, t32_1, t64_1, t32_2, t64_2, t32_3, t64_3, t32_4, t64_4, t32_5, t64_5, t32_6, t64_6, t32_7, t64_7, t32_8, t64_8, t32_9, t64_9, t32_10, t64_10, t32_40, t64_40, t32_60, t64_60, t32_127, t64_127, t32_150, t64_150, t32_200, t64_200, t32_999999, t64_999999, reduceIte, ne01, ne02, ne03, ne04, ne05, ne06, ne07, ne10, ne12, ne13, ne14, ne15, ne16, ne17, ne20, ne21, ne23, ne24, ne25, ne26, ne27, ne30, ne31, ne32, ne34, ne35, ne36, ne37, ne40, ne41, ne42, ne43, ne45, ne46, ne47, ne50, ne51, ne52, ne53, ne54, ne56, ne57, ne60, ne61, ne62, ne63, ne64, ne65, ne67, ne70, ne71, ne72, ne73, ne74, ne75, ne76, eq0, eq1, eq2, eq3, eq4, eq5, eq6, eq7, bit_e, GH_F2, sF_I, sF_s, sF_1, sF_R, sF_L, Option.bind_some, i64_i, in_e, within_e]
  replace q2 := Classical.not_not.mp q2
  by_cases q3 : v = w
  · refine Op_bad H (-10) 0 (by omega) ?_ ?_
    · simp (disch := first | exact g | exact GH_F2 g | exact GH_F2 (GH_F2 g) | exact GH_F2 (GH_F2 (GH_F2 g)) | exact GH_F2 (GH_F2 (GH_F2 (GH_F2 g))) | exact GH_F2 (GH_F2 (GH_F2 (GH_F2 (GH_F2 g)))) | exact GH_F2 (GH_F2 (GH_F2 (GH_F2 (GH_F2 (GH_F2 g))))) | exact GH_F2 (GH_F2 (GH_F2 (GH_F2 (GH_F2 (GH_F2 (GH_F2 g)))))) | exact GH_F2 (GH_F2 (GH_F2 (GH_F2 (GH_F2 (GH_F2 (GH_F2 (GH_F2 g))))))) | exact GH_F2 (GH_F2 (GH_F2 (GH_F2 (GH_F2 (GH_F2 (GH_F2 (GH_F2 (GH_F2 g)))))))) | omega | decide) [fX8_two, fX8_two_j17, hasTwo_1 H, inb_ok q1, inb_ok q2, q3, gR0_0, gR0_1, gR0_2, gR0_3, gR0_4, gR0_5, gR0_6, gR0_7, gR0_8, gR66_0, gR66_1, gR69_0, gR72_0, gR72_1, gR76_0, gR76_2, gR1_1, gR1_3, gR1_4, gR1_5, gR1_6, gR1_7, gR1_9, gR1_10, gR1_11, gR1_12, gR1_13, gR1_14, gI0, pI0, gT0, gI1, pI1, gT1, gI12, pI12, gT12, gI66, pI66, gT66, gI67, pI67, gT67, gI69, pI69, gT69, gI71, pI71, gT71, gI72, pI72, gT72, gI75, pI75, gT75, gI76, pI76, gT76, aI2, aI3, aI4, aI5, aI6, aI7, aI8, aI9, aI10, aI11, aI65, aI68, aI70, aI73, aI74, aI77, sI2, sI3, sI4, sI5, sI6, sI7, sI8, sI9, sI10, sI11, sI68, sI70, sI73, sI74, sI77, aN2, aN3, aN4, aN5, aN6, aN7, aN8, aN9, aN10, aN11, aN65, aN68, aN70, aN73, aN74, aN77, sN2, sN3, sN4, sN5, sN6, sN7, sN8, sN9, sN10, sN11, sN68, sN70, sN73, sN74, sN77, sZN65, sZ65, refuseBad_e, refuseNo_e, refuseFull_e, refuseOther_e, -Int32.toInt_add, -Int32.toInt_sub, nI_tt, nI_c, la1, lb1, la2, lb2, la3, lb3, la4, lb4, la5, lb5, la6, lb6, la7, lb7, la8, lb8, la9, lb9, la10, lb10, la19, lb19, la26, lb26, la33, lb33, la40, lb40, la47, lb47, la54, lb54, la78, lb78, la83, lb83, la118, lb118, lm2, lm4, lm5, lm10, lm118, t32_0, t64_0, t32_1, t64_1, t32_2, t64_2, t32_3, t64_3, t32_4, t64_4, t32_5, t64_5, t32_6, t64_6, t32_7, t64_7, t32_8, t64_8, t32_9, t64_9, t32_10, t64_10, t32_40, t64_40, t32_60, t64_60, t32_127, t64_127, t32_150, t64_150, t32_200, t64_200, t32_999999, t64_999999, reduceIte, ne01, ne02, ne03, ne04, ne05, ne06, ne07, ne10, ne12, ne13, ne14, ne15, ne16, ne17, ne20, ne21, ne23, ne24, ne25, ne26, ne27, ne30, ne31, ne32, ne34, ne35, ne36, ne37, ne40, ne41, ne42, ne43, ne45, ne46, ne47, ne50, ne51, ne52, ne53, ne54, ne56, ne57, ne60, ne61, ne62, ne63, ne64, ne65, ne67, ne70, ne71, ne72, ne73, ne74, ne75, ne76, eq0, eq1, eq2, eq3, eq4, eq5, eq6, eq7, bit_e, GH_F2, sF_I, sF_s, sF_1, sF_R, sF_L, Option.bind_some, i64_i, in_e, within_e]
    · intro h1 g e
      simp (disch := first | exact g | exact GH_F2 g | exact GH_F2 (GH_F2 g) | exact GH_F2 (GH_F2 (GH_F2 g)) | exact GH_F2 (GH_F2 (GH_F2 (GH_F2 g))) | exact GH_F2 (GH_F2 (GH_F2 (GH_F2 (GH_F2 g)))) | exact GH_F2 (GH_F2 (GH_F2 (GH_F2 (GH_F2 (GH_F2 g))))) | exact GH_F2 (GH_F2 (GH_F2 (GH_F2 (GH_F2 (GH_F2 (GH_F2 g)))))) | exact GH_F2 (GH_F2 (GH_F2 (GH_F2 (GH_F2 (GH_F2 (GH_F2 (GH_F2 g))))))) | exact GH_F2 (GH_F2 (GH_F2 (GH_F2 (GH_F2 (GH_F2 (GH_F2 (GH_F2 (GH_F2 g)))))))) | omega | decide) [fX9_two, fX9_two_j26, isI_at H g (e 100 (by decide)), inb_ok q1, inb_ok q2, q3, gR99_0, gR99_1, gR99_2, gR99_3, gR99_6, gR99_7, gR99_8, gR99_9, gR99_10, gR99_16, gR99_17, gI99, pI99, gT99, aI100, aI101, aI102, aI103, aI104, aI105, aI106, aI107, aI108, aI109, aI110, sI100, sI101, sI103, sI104, sI105, sI106, sI107, sI108, sI109, sI110, aN100, aN101, aN102, aN103, aN104, aN105, aN106, aN107, aN108, aN109, aN110, sN100, sN101, sN103, sN104, sN105, sN106, sN107, sN108, sN109, sN110, sZN102, sZ102, bad_e, no_e, full_e, many_e, isIdea_e, isStop_e, -Int32.toInt_add, -Int32.toInt_sub, nI_tt, nI_c, la1, lb1, la2, lb2, la3, lb3, la4, lb4, la5, lb5, la6, lb6, la7, lb7, la8, lb8, la9, lb9, la10, lb10, la19, lb19, la26, lb26, la33, lb33, la40, lb40, la47, lb47, la54, lb54, la78, lb78, la83, lb83, la118, lb118, lm2, lm4, lm5, lm10, lm118, t32_0, t64_0, t32_1, t64_1, t32_2, t64_2, t32_3, t64_3, t32_4, t64_4, t32_5, t64_5, t32_6, t64_6, t32_7, t64_7, t32_8, t64_8, t32_9, t64_9, t32_10, t64_10, t32_40, t64_40, t32_60, t64_60, t32_127, t64_127, t32_150, t64_150, t32_200, t64_200, t32_999999, t64_999999, reduceIte, ne01, ne02, ne03, ne04, ne05, ne06, ne07, ne10, ne12, ne13, ne14, ne15, ne16, ne17, ne20, ne21, ne23, ne24, ne25, ne26, ne27, ne30, ne31, ne32, ne34, ne35, ne36, ne37, ne40, ne41, ne42, ne43, ne45, ne46, ne47, ne50, ne51, ne52, ne53, ne54, ne56, ne57, ne60, ne61, ne62, ne63, ne64, ne65, ne67, ne70, ne71, ne72, ne73, ne74, ne75, ne76, eq0, eq1, eq2, eq3, eq4, eq5, eq6, eq7, bit_e, GH_F2, sF_I, sF_s, sF_1, sF_R, sF_L, Option.bind_some, i64_i, in_e, within_e]
  have i1 := inb_ok q1
  have i2 := inb_ok q2
  have h2 : fX0_hasTwo 1 v w h = some 1 := by rw [hasTwo_1 H, i1, i2]; simp [q3]
  by_cases q4 : ¬ (-1 : Int32) ≤ z
  · refine Op_bad H (-10) 0 (by omega) ?_ ?_
    · simp only [fX8_two, fX8_two_j17]
      rw [gR0_0 g, Option.bind_some, gT1 g, h2, Option.bind_some, if_neg (by decide), if_neg q4, gT0 g, refuseOther_e g, Option.bind_some]
    · intro h1 g e
      simp only [fX9_two, fX9_two_j26]
      rw [gT99 g, isI_at H g (e 100 (by decide)), Option.bind_some, i1, if_neg (by decide), gT99 g, isI_at H g (e 100 (by decide)), Option.bind_some, i2, if_neg (by decide), if_neg q3, if_neg q4, gT99 g, bad_e g, Option.bind_some]
  replace q4 := Classical.not_not.mp q4
  obtain ⟨a, ha, rfl⟩ := i32_nI (n := nn (h.2.1 100)) (v := v) (by omega)
  obtain ⟨b, hb, rfl⟩ := i32_nI (n := nn (h.2.1 100)) (v := w) (by omega)
  have hab : a ≠ b := fun q => q3 (by rw [q])
  obtain ⟨h1, e1, K1, T1⟩ := play_e (JX_of H) h2 ha hb hab
  have g1 := KP_GH g K1
  obtain ⟨A1, A2, A3⟩ := off_n W ha
  obtain ⟨B1, B2, B3⟩ := off_n W hb
  have M1 : MX h1 (h.2.1 100) := ⟨g1, W, K1.2.2 100 (by decide)⟩
  obtain ⟨h3, e3, K3, T3⟩ := play_m (k := z) M1 ha hb hab A1 B1 A3 B3
  have M3 := MX_k K3 (by decide) M1
  have tm := two_m (k := z) M3 ha hb A1 B1 A3 B3 T3
  have rc := resting_c g1 T1 A3 B3
  have ra := restingAt_c (k := z) g1 T1 A3 B3
  generalize okP (h.2.1 100) a b (h.2.1 100 (40 + a)).toInt.toNat (h.2.1 100 (40 + b)).toInt.toNat = ok at tm rc ra
  refine ⟨if z = -1 then nI (ctN ok 100) else isN ok z 100, h1, h3, ?_, g1, ?_, KP_Inv H (KP_t K1 K3 (U := [66, 67, 68, 72, 73, 74, 104, 106, 107]) (by decide) (by decide)) (by decide)⟩
  · simp only [fX8_two]
    rw [gR0_0 g, Option.bind_some, gT1 g, h2, Option.bind_some, if_neg (by decide), if_pos q4, gR0_6 g, Option.bind_some, Option.bind_some, gR0_3 g, Option.bind_some, gT72 g, e1, Option.bind_some, gR0_6 g1, Option.bind_some, gT72 g1, rc, Option.bind_some, Option.bind_some, gT72 g1, ra, Option.bind_some]
    by_cases zz : z = -1
    · rw [if_pos zz, if_pos zz]
    · rw [if_neg zz, if_neg zz]
  · have ii := isI_at H g1 (K1.2.2 100 (by decide))
    simp only [fX9_two, fX9_two_j143]
    rw [gT99 g1, ii, Option.bind_some, i1, if_neg (by decide), gT99 g1, ii, Option.bind_some, i2, if_neg (by decide), if_neg q3, if_pos q4, e3, Option.bind_some]
    simp only []
    rw [tm, Option.bind_some]
    simp only []
    by_cases zz : z = -1
    · rw [if_pos zz, if_pos zz]
    · rw [if_neg zz, if_neg zz]
end TWO3
