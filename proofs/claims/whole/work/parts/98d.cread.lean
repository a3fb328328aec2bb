section CREAD
variable {h : Hp} {T : Nat → Int32} {n : Nat}
def nOk (T : Nat → Int32) (n p : Nat) (lo hi : Int32) : Bool := decide (tK T n p = 2 ∧ lo.toInt ≤ (tV T n p).toInt ∧ (tV T n p).toInt ≤ hi.toInt)
def wB (T : Nat → Int32) (n p i : Nat) : Bool := decide (tK T n p = 1 ∧ tE T n p - tS T n p = xlit.getD i 0) && allB (fun j => decide (T (tS T n p + j) = (xbyt.getD i []).getD j 0)) (xlit.getD i 0)
def pBr (T : Nat → Int32) (n : Nat) (f : Nat → Int32) (p : Nat) : Nat ⊕ ((Nat → Int32) × Nat) :=
  if nOk T n p 0 9 = true then (if nOk T n (tE T n p) 1 9 = true then Sum.inr (upd f (9 + (tV T n p).toInt.toNat) (tV T n (tE T n p)), tE T n (tE T n p)) else Sum.inl (tS T n (tE T n p))) else Sum.inl (tS T n p)
def pId (T : Nat → Int32) (n : Nat) (f : Nat → Int32) (p : Nat) : Nat ⊕ ((Nat → Int32) × Nat) :=
  if nOk T n p 0 5 = true then (if nOk T n (tE T n p) 1 9 = true then (if nOk T n (tE T n (tE T n p)) 0 8 = true then (if nOk T n (tE T n (tE T n (tE T n p))) (tV T n (tE T n (tE T n p)) + 1) 9 = true then Sum.inr (layI f (tV T n p) (tV T n (tE T n p)) (tV T n (tE T n (tE T n p))) (tV T n (tE T n (tE T n (tE T n p)))), tE T n (tE T n (tE T n (tE T n p)))) else Sum.inl (tS T n (tE T n (tE T n (tE T n p))))) else Sum.inl (tS T n (tE T n (tE T n p)))) else Sum.inl (tS T n (tE T n p))) else Sum.inl (tS T n p)
def pQu (T : Nat → Int32) (n : Nat) (f : Nat → Int32) (p : Nat) : Nat ⊕ ((Nat → Int32) × Nat) :=
  if nOk T n p 0 (f 0 - 1) = true then (if nOk T n (tE T n p) 0 (f 0 - 1) = true ∧ ¬ tV T n (tE T n p) = tV T n p then Sum.inr (layQ f (tV T n p).toInt.toNat (tV T n (tE T n p)).toInt.toNat, tE T n (tE T n p)) else Sum.inl (tS T n (tE T n p))) else Sum.inl (tS T n p)
def pBody (T : Nat → Int32) (n : Nat) (f : Nat → Int32) (p : Nat) : Nat ⊕ ((Nat → Int32) × Nat) :=
  if wB T n p 1 = true then pBr T n f (tE T n p) else if wB T n p 2 = true then (if f 0 = 7 then Sum.inl (tS T n p) else pId T n f (tE T n p)) else if wB T n p 3 = true then pQu T n f (tE T n p) else Sum.inl (tS T n p)
def pMk (T : Nat → Int32) (n : Nat) (r : Nat ⊕ ((Nat → Int32) × Nat)) : Nat ⊕ ((Nat → Int32) × Nat) :=
  match r with
  | .inl s => Sum.inl s
  | .inr x => if tK T n x.2 = 3 then Sum.inr (x.1, tE T n x.2) else Sum.inl (tS T n x.2)
/-- the class's reader stands at p -/
def CS (h : Hp) (T : Nat → Int32) (n p : Nat) : Prop := GH h ∧ TC h T n ∧ h.2.1 76 5 = nI p ∧ p ≤ n
theorem readNum_e {p : Nat} (S : CS h T n p) (B : BY T n) (lo hi : Int32) : ∃ h', fX4_readNumber 76 lo hi h = some (if nOk T n p lo hi = true then 1 else 0, h') ∧ KP [76] h h' ∧ h'.2.1 76 3 = h.2.1 76 3 ∧ h'.2.1 76 4 = nI (tS T n p) ∧ CS h' T n (tE T n p) ∧ (nOk T n p lo hi = true → h'.2.1 76 7 = tV T n p) := by
  obtain ⟨g, C, e5, hp⟩ := S
  obtain ⟨F, e, f4, f5, f6, fl⟩ := step_e g C B hp e5
  have tb := t_b (T := T) hp
  have k5 : tK T n p < 5 := lK_5
  have g' : GH (sF h 76 F) := g
  have C' : TC (sF h 76 F) T n := TC_F C (fl 1 (by omega))
  by_cases k : tK T n p = 2
  · have hv := value_e g' C' B tb.2.1 tb.2.2.1 (by rw [sF_eq]; exact f4) (by rw [sF_eq]; exact f5)
    have g2 : GH (sF h 76 (upd F 7 (tV T n p))) := g
    have C2 : TC (sF h 76 (upd F 7 (tV T n p))) T n := TC_F C (by rw [upd_e, if_neg (by decide)]; exact fl 1 (by omega))
    refine ⟨sF h 76 (upd F 7 (tV T n p)), ?_, KP_F (KP_rfl _ h) (by decide) _, by rw [sF_eq, upd_e, if_neg (by decide)]; exact fl 3 (by omega), by rw [sF_eq, upd_e, if_neg (by decide)]; exact f4, ⟨g2, C2, by rw [sF_eq, upd_e, if_neg (by decide)]; exact f5, tb.2.2.1⟩, fun _ => by rw [sF_eq, upd_e, if_pos rfl]⟩
    simp only [fX4_readNumber]
    have e7 : vN T (tS T n p) (tE T n p - tS T n p) = tV T n p := rfl
    have u7 : upd F 7 (tV T n p) 7 = tV T n p := by rw [upd_e, if_pos rfl]
    rw [gT76 g, e, Option.bind_some, gI76 g', Option.bind_some, sF_eq, f6, k, if_pos (by rfl), gT76 g', hv, Option.bind_some, pI76 g', Option.bind_some, sF_s, sF_eq, e7, gI76 g2, Option.bind_some, sF_eq, u7, within_e, Option.bind_some]
    by_cases z : lo.toInt ≤ (tV T n p).toInt ∧ (tV T n p).toInt ≤ hi.toInt
    · rw [inb_ok z, if_pos (show vp_nar .boolean 1 = 1 from rfl)]; simp [nOk, k, z]
    · rw [inb_no z, if_pos (show vp_nar .boolean 0 = 0 from rfl)]; simp only [nOk, k, z, and_false, decide_false]; rfl
  · refine ⟨sF h 76 F, ?_, KP_F (KP_rfl _ h) (by decide) _, by rw [sF_eq]; exact fl 3 (by omega), by rw [sF_eq]; exact f4, ⟨g', C', by rw [sF_eq]; exact f5, tb.2.2.1⟩, ?_⟩
    · simp only [fX4_readNumber]
      rw [gT76 g, e, Option.bind_some, gI76 g', Option.bind_some, sF_eq, f6]
      have : ¬ nI (tK T n p) = 2 := fun q => k ((nI_eq (b := 2) (by omega) (by omega)).mp q)
      rw [if_neg this]; simp only [nOk, k, false_and, decide_false]; rfl
    · intro q
      simp only [nOk, decide_eq_true_eq] at q
      exact absurd q.1 k
theorem readMark_e {p : Nat} (S : CS h T n p) (B : BY T n) : ∃ h', fX4_readMark 76 h = some (if tK T n p = 3 then 1 else 0, h') ∧ KP [76] h h' ∧ h'.2.1 76 3 = h.2.1 76 3 ∧ h'.2.1 76 4 = nI (tS T n p) ∧ CS h' T n (tE T n p) := by
  obtain ⟨g, C, e5, hp⟩ := S
  obtain ⟨F, e, f4, f5, f6, fl⟩ := step_e g C B hp e5
  have tb := t_b (T := T) hp
  have k5 : tK T n p < 5 := lK_5
  have g' : GH (sF h 76 F) := g
  have C' : TC (sF h 76 F) T n := TC_F C (fl 1 (by omega))
  refine ⟨sF h 76 F, ?_, KP_F (KP_rfl _ h) (by decide) _, by rw [sF_eq]; exact fl 3 (by omega), by rw [sF_eq]; exact f4, ⟨g', C', by rw [sF_eq]; exact f5, tb.2.2.1⟩⟩
  simp only [fX4_readMark, fX4_readMark_j17]
  rw [gT76 g, e, Option.bind_some, gI76 g', Option.bind_some, sF_eq, f6, if_pos (show vp_nar .boolean 0 = 0 from rfl), if_pos (show vp_nar .boolean 1 = 1 from rfl)]
  by_cases k : tK T n p = 3
  · rw [k, if_pos (by rfl), if_pos rfl]
  · have : ¬ nI (tK T n p) = 3 := fun q => k ((nI_eq (b := 3) (by omega) (by omega)).mp q)
    rw [if_neg this, if_neg k]
theorem xl_7 : ∀ i, i < 4 → xlit.getD i 0 ≤ 7 := by decide
theorem isWord_e {p : Nat} {i : UInt32} (g : GH h) (C : TC h T n) (B : BY T n) (hp : p ≤ n) (hi : i.toNat < 4) (e4 : h.2.1 76 4 = nI (tS T n p)) (e5 : h.2.1 76 5 = nI (tE T n p)) (e6 : h.2.1 76 6 = nI (tK T n p)) : fX4_isWord 76 i h = some (if wB T n p i.toNat = true then 1 else 0) := by
  have b := B.1
  have tb := t_b (T := T) hp
  have k5 : tK T n p < 5 := lK_5
  have x7 := xl_7 i.toNat hi
  have xs : xsl i = some (nI (xlit.getD i.toNat 0)) := by unfold xsl; rw [if_pos hi]
  simp only [fX4_isWord, fX4_isWord_j24]
  rw [gI76 g, Option.bind_some, e6]
  by_cases k : tK T n p = 1
  · rw [k, if_pos (by rfl), gI76 g, Option.bind_some, e5, gI76 g, Option.bind_some, e4, pk_sub tb.2.1, xs, Option.bind_some]
    by_cases l : tE T n p - tS T n p = xlit.getD i.toNat 0
    · rw [if_pos (by rw [l])]
      generalize hL : xlit.getD i.toNat 0 = L at *
      have lp : ∃ r, xloop (fX4_isWord_b28 76 i h) 1000000 0 = some r ∧ ((r = Sum.inl () ∧ allB (fun j => decide (T (tS T n p + j) = (xbyt.getD i.toNat []).getD j 0)) L = false) ∨ (r = Sum.inr () ∧ allB (fun j => decide (T (tS T n p + j) = (xbyt.getD i.toNat []).getD j 0)) L = true)) := by
        refine xloop_i (body := fX4_isWord_b28 76 i h) (fun j st => st = nI j ∧ allB (fun j => decide (T (tS T n p + j) = (xbyt.getD i.toNat []).getD j 0)) j = true) (fun r => (r = Sum.inl () ∧ allB (fun j => decide (T (tS T n p + j) = (xbyt.getD i.toNat []).getD j 0)) L = false) ∨ (r = Sum.inr () ∧ allB (fun j => decide (T (tS T n p + j) = (xbyt.getD i.toNat []).getD j 0)) L = true)) L (by omega) ?_ ?_ ⟨rfl, rfl⟩
        · intro j st hj ⟨a1, a2⟩
          subst a1
          have xc : xsc i (nI j) = some ((xbyt.getD i.toNat []).getD j 0) := by
            unfold xsc; rw [if_pos ⟨hi, by rw [nI_toInt (by omega)]; omega, by rw [nI_toInt (by omega), hL]; omega⟩, nI_c (by omega)]
          have hd : fX4_isWord_b28 76 i h (nI j) = if T (tS T n p + j) = (xbyt.getD i.toNat []).getD j 0 then some (Sum.inl (nI (j + 1))) else some (Sum.inr (Sum.inl ())) := by
            simp only [fX4_isWord_b28]
            rw [xs, Option.bind_some, if_neg (by rw [le_nI (by omega) (by omega)]; omega), gI76 g, Option.bind_some, e4, nI_add, gT76 g, byteAt_e g C B (by omega), Option.bind_some, if_pos (by omega), xc, Option.bind_some, nI_1]
          rw [hd]
          by_cases z : T (tS T n p + j) = (xbyt.getD i.toNat []).getD j 0
          · left; rw [if_pos z]
            exact ⟨_, rfl, rfl, by simp only [allB]; rw [a2]; simp only [z, decide_true, Bool.and_self]⟩
          · right; rw [if_neg z]
            exact ⟨_, rfl, Or.inl ⟨rfl, allB_no (q := j) (by simp only [z, decide_false]) _ hj⟩⟩
        · intro st ⟨a1, a2⟩
          subst a1
          refine ⟨_, ?_, Or.inr ⟨rfl, a2⟩⟩
          simp only [fX4_isWord_b28]
          rw [xs, Option.bind_some, if_pos (by rw [le_nI (by omega) (by omega)]; omega)]
      obtain ⟨r, er, hr⟩ := lp
      rw [er, Option.bind_some]
      unfold wB
      rw [hL]
      rcases hr with ⟨rfl, q⟩ | ⟨rfl, q⟩
      · rw [q]; simp
      · rw [q]; simp [k, l]
    · rw [if_neg (fun q => l ((nI_eq (by omega) (by omega)).mp q))]
      unfold wB; simp only [l, and_false, decide_false, Bool.false_and]; rfl
  · have : ¬ nI (tK T n p) = 1 := fun q => k ((nI_eq (b := 1) (by omega) (by omega)).mp q)
    rw [if_neg this]
    unfold wB; simp only [k, false_and, decide_false, Bool.false_and]; rfl
def RDS : List Nat := [76, 78, 79, 80, 81, 82, 83, 84, 85, 86, 87, 88, 89, 90, 91, 92, 93, 94, 95, 96, 97, 98]
theorem RDS_SB {h0 h h' : Hp} (K : KP RDS h0 h) (S : SB 78 h h') : KP RDS h0 h' :=
  ⟨S.1.trans K.1, S.2.1.trans K.2.1, fun a ha => (S.2.2 a (fun z => ha (by simp only [RDS, List.mem_cons, List.not_mem_nil, or_false]; omega))).trans (K.2.2 a ha)⟩
theorem RDS_76 {h0 h h' : Hp} (K : KP RDS h0 h) (S : KP [76] h h') : KP RDS h0 h' := KP_t K S (fun _ z => z) (by decide)
theorem CS_SB {h h' : Hp} {p : Nat} (C : CS h T n p) (S : SB 78 h h') : CS h' T n p := by
  obtain ⟨g, c, e5, hp⟩ := C
  have e76 : h'.2.1 76 = h.2.1 76 := S.2.2 76 (by omega)
  have e77 : h'.2.1 77 = h.2.1 77 := S.2.2 77 (by omega)
  exact ⟨SB_GH g S, ⟨by rw [e76]; exact c.1, by rw [e77]; exact c.2⟩, by rw [e76]; exact e5, hp⟩
theorem RB_76 {h h' : Hp} {f : Nat → Int32} (S : KP [76] h h') (R : RB h 78 f) : RB h' 78 f :=
  RB_keep R (fun a h1 h2 => S.2.2 a (by simp; omega)) (by rw [S.2.1])
/-- what the class's reading of an item comes to -/
def CO (h0 : Hp) (T : Nat → Int32) (n : Nat) (it : Int32) (o : Option (Int32 × Hp)) (res : Nat ⊕ ((Nat → Int32) × Nat)) : Prop := ∃ h', KP RDS h0 h' ∧ h'.2.1 76 3 = it ∧ TC h' T n ∧ ((∃ s, res = Sum.inl s ∧ o = some (0, h') ∧ h'.2.1 76 4 = nI s) ∨ (∃ f q, res = Sum.inr (f, q) ∧ o = some (1, h') ∧ CS h' T n q ∧ RB h' 78 f))
theorem CO_w {h0 : Hp} {it : Int32} {o : Option (Int32 × Hp)} {res : Nat ⊕ ((Nat → Int32) × Nat)} (c : CO h0 T n it o res) : CO h0 T n it (o.bind fun q => if vp_nar .boolean q.1 = q.1 then some (q.1, q.2) else none) res := by
  obtain ⟨h', K, i, t, ⟨s, r, e, q⟩ | ⟨f, p, r, e, q⟩⟩ := c
  · exact ⟨h', K, i, t, Or.inl ⟨s, r, by rw [e, Option.bind_some]; exact if_pos (show vp_nar .boolean 0 = 0 from rfl), q⟩⟩
  · exact ⟨h', K, i, t, Or.inr ⟨f, p, r, by rw [e, Option.bind_some]; exact if_pos (show vp_nar .boolean 1 = 1 from rfl), q⟩⟩
theorem mark_tail {h0 : Hp} {it : Int32} {f : Nat → Int32} {p : Nat} (B : BY T n) (S : CS h T n p) (K : KP RDS h0 h) (i : h.2.1 76 3 = it) (R : RB h 78 f) : CO h0 T n it ((xat h 76 (4, 8) (fX4_readMark 76 h)).bind fun q => if vp_nar .boolean q.1 = q.1 then some (q.1, q.2) else none) (pMk T n (Sum.inr (f, p))) := by
  rw [gT76 S.1]
  refine CO_w ?_
  obtain ⟨h', e, K', e3, e4, S'⟩ := readMark_e S B
  refine ⟨h', RDS_76 K K', e3.trans i, S'.2.1, ?_⟩
  by_cases k : tK T n p = 3
  · rw [if_pos k] at e
    exact Or.inr ⟨f, tE T n p, by simp only [pMk]; rw [if_pos k], e, S', RB_76 K' R⟩
  · rw [if_neg k] at e
    exact Or.inl ⟨tS T n p, by simp only [pMk]; rw [if_neg k], e, e4⟩
theorem nOk_v {p : Nat} {lo hi : Int32} (q : nOk T n p lo hi = true) : lo.toInt ≤ (tV T n p).toInt ∧ (tV T n p).toInt ≤ hi.toInt := by
  simp only [nOk, decide_eq_true_eq] at q; exact q.2
theorem hb78 : isB 78 := Or.inr (Or.inr (Or.inr rfl))
theorem bridge_c {h0 : Hp} {it : Int32} {f : Nat → Int32} {p : Nat} (B : BY T n) (S : CS h T n p) (K : KP RDS h0 h) (i : h.2.1 76 3 = it) (R : RB h 78 f) (W : WF f) : CO h0 T n it (fX4_readBridge 76 h) (pMk T n (pBr T n f p)) := by
  obtain ⟨h1, e1, K1, i1, s1, S1, v1⟩ := readNum_e S B 0 9
  have K1' := RDS_76 K K1
  simp only [fX4_readBridge, fX4_readBridge_j52]
  rw [gT76 S.1, e1, Option.bind_some]
  unfold pBr
  by_cases q1 : nOk T n p 0 9 = true
  · simp only [q1, if_true, ne10, if_false]
    obtain ⟨h2, e2, K2, i2, s2, S2, v2⟩ := readNum_e S1 B 1 9
    have K2' := RDS_76 K1' K2
    have r1 := nOk_v q1
    rw [t32_0, t32_9] at r1
    obtain ⟨a, ha, ea⟩ : ∃ a, a < 10 ∧ tV T n p = nI a := ⟨(tV T n p).toInt.toNat, by omega, nI_n r1.1⟩
    rw [gI76 S1.1, Option.bind_some, v1 q1, gT76 S1.1, e2, Option.bind_some]
    by_cases q2 : nOk T n (tE T n p) 1 9 = true
    · simp only [q2, if_true, ne10, if_false]
      have R2 := RB_76 K2 (RB_76 K1 R)
      have iw : inb (nI a).toInt (0 : Int32).toInt (9 : Int32).toInt = 1 := inb_ok (by rw [nI_toInt (by omega), t32_0, t32_9]; omega)
      rw [ea, within_e, Option.bind_some, iw, if_neg (by decide), gR76_2 S2.1, Option.bind_some, gRb1 S2.1 hb78, Option.bind_some, gI76 S2.1, Option.bind_some, v2 q2, sNb1 S2.1 hb78 ha, Option.bind_some, show (nI a).toInt.toNat = a from nI_tt (by omega)]
      have SS : SB 78 h2 (sF h2 (78 + 1) (upd (h2.2.1 (78 + 1)) a (tV T n (tE T n p)))) := SB_F (SB_rfl 78 h2) (by omega) _
      exact mark_tail B (CS_SB S2 SS) (RDS_SB K2' SS) (by rw [sF_ne (by decide), i2, i1]; exact i) (RB_h R2 W ha)
    · simp only [q2, if_false]
      exact ⟨h2, K2', by rw [i2, i1]; exact i, S2.2.1, Or.inl ⟨_, rfl, rfl, s2⟩⟩
  · simp only [q1, if_false]
    exact ⟨h1, K1', by rw [i1]; exact i, S1.2.1, Or.inl ⟨_, rfl, rfl, s1⟩⟩
end CREAD
