section MREAD
variable {h : Hp} {T : Nat → Int32} {n : Nat}
/-- the model has looked at the token at p -/
def MS (h : Hp) (T : Nat → Int32) (n p : Nat) : Prop := GH h ∧ TM h T n ∧ p ≤ n ∧ h.2.1 99 12 = nI (tS T n p) ∧ h.2.1 99 13 = nI (tE T n p - tS T n p) ∧ h.2.1 99 14 = nI (tK T n p) ∧ (tK T n p = 2 → h.2.1 99 15 = tV T n p)
theorem look_MS {p : Nat} (g : GH h) (C : TM h T n) (B : BY T n) (hp : p ≤ n) : ∃ h', fX9_lookAt 99 (nI p) h = some h' ∧ KP [99] h h' ∧ MS h' T n p := by
  obtain ⟨F, e, f12, f13, f14, f15, fl⟩ := lookAt_e g C B hp
  exact ⟨_, e, KP_F (KP_rfl _ h) (by decide) _, g, TM_F C (fl 11 (by omega)), hp, by rw [sF_eq]; exact f12, by rw [sF_eq]; exact f13, by rw [sF_eq]; exact f14, fun k => by rw [sF_eq]; exact f15 k⟩
theorem goBehind_e {p : Nat} (S : MS h T n p) (B : BY T n) : ∃ h', fX9_goBehind 99 h = some h' ∧ KP [99] h h' ∧ MS h' T n (tE T n p) := by
  obtain ⟨g, C, hp, e12, e13, e14, e15⟩ := S
  have tb := t_b (T := T) hp
  obtain ⟨h', e, K, S'⟩ := look_MS g C B tb.2.2.1
  refine ⟨h', ?_, K, S'⟩
  simp only [fX9_goBehind]
  rw [gI99 g, Option.bind_some, e12, gI99 g, Option.bind_some, e13, nI_add, show tS T n p + (tE T n p - tS T n p) = tE T n p by omega, gT99 g, e, Option.bind_some]
theorem MS_110 {p : Nat} {F : Nat → Int32} (S : MS h T n p) : MS (sF h 110 F) T n p := by
  obtain ⟨g, C, hp, e12, e13, e14, e15⟩ := S
  exact ⟨g, ⟨by rw [sF_ne (by decide)]; exact C.1, fun j hj => by rw [sF_ne (by decide)]; exact C.2 j hj⟩, hp, by rw [sF_ne (by decide)]; exact e12, by rw [sF_ne (by decide)]; exact e13, by rw [sF_ne (by decide)]; exact e14, fun k => by rw [sF_ne (by decide)]; exact e15 k⟩
theorem MS_109 {p : Nat} {F : Nat → Int32} (S : MS h T n p) : MS (sF h 109 F) T n p := by
  obtain ⟨g, C, hp, e12, e13, e14, e15⟩ := S
  exact ⟨g, ⟨by rw [sF_ne (by decide)]; exact C.1, fun j hj => by rw [sF_ne (by decide)]; exact C.2 j hj⟩, hp, by rw [sF_ne (by decide)]; exact e12, by rw [sF_ne (by decide)]; exact e13, by rw [sF_ne (by decide)]; exact e14, fun k => by rw [sF_ne (by decide)]; exact e15 k⟩
theorem takes_e {p i : Nat} {v lo hi : Int32} (S : MS h T n p) (B : BY T n) (hi4 : i < 4) (hv : v = nI i) : (nOk T n p lo hi = true → ∃ h', fX9_takes 99 v lo hi h = some (1, h') ∧ KP [99, 110] h h' ∧ MS h' T n (tE T n p) ∧ h'.2.1 110 = upd (h.2.1 110) i (tV T n p)) ∧ (¬ nOk T n p lo hi = true → fX9_takes 99 v lo hi h = some (0, h)) := by
  have S0 := S
  obtain ⟨g, C, hp, e12, e13, e14, e15⟩ := S
  have k5 : tK T n p < 5 := lK_5
  subst hv
  constructor
  · intro q
    have q' := q
    simp only [nOk, decide_eq_true_eq] at q'
    obtain ⟨k, v1, v2⟩ := q'
    obtain ⟨h', e, K, S'⟩ := goBehind_e (MS_110 (F := upd (h.2.1 110) i (tV T n p)) S0) B
    have g1 : GH (sF h 110 (upd (h.2.1 110) i (tV T n p))) := g
    refine ⟨h', ?_, KP_t (KP_F (KP_rfl [110] h) (by decide) _) K (by decide) (by decide), S', ?_⟩
    · simp only [fX9_takes]
      rw [gI99 g, Option.bind_some, e14, k, if_pos (by rfl), gI99 g, Option.bind_some, e15 k, in_e, Option.bind_some, i64_i, i64_i, i64_i, inb_ok ⟨v1, v2⟩, if_neg (by decide), gR99_17 g, Option.bind_some, Option.bind_some, sN110 g hi4, Option.bind_some, gT99 g1, e, Option.bind_some]
    · rw [K.2.2 110 (by decide), sF_eq]
  · intro q
    simp only [fX9_takes, fX9_takes_j23]
    rw [gI99 g, Option.bind_some, e14]
    by_cases k : tK T n p = 2
    · rw [k, if_pos (by rfl), gI99 g, Option.bind_some, e15 k, in_e, Option.bind_some, i64_i, i64_i, i64_i]
      have : ¬ (lo.toInt ≤ (tV T n p).toInt ∧ (tV T n p).toInt ≤ hi.toInt) := fun z => q (by simp only [nOk, decide_eq_true_eq]; exact ⟨k, z⟩)
      rw [inb_no this, if_pos rfl]
    · have : ¬ nI (tK T n p) = 2 := fun z => k ((nI_eq (b := 2) (by omega) (by omega)).mp z)
      rw [if_neg this]
theorem spells_e {s L M k : Nat} {w : Nat → Int32} {a b c d e f sz : Int32} (g : GH h) (C : TM h T n) (B : BY T n) (hL : L ≤ 6) (hM : M ≤ 150) (hk : k < 5) (e12 : h.2.1 99 12 = nI s) (e13 : h.2.1 99 13 = nI M) (e14 : h.2.1 99 14 = nI k) (hs : M = L → s + L ≤ n) (hw : sz = nI L ∧ a = w 0 ∧ b = w 1 ∧ c = w 2 ∧ d = w 3 ∧ e = w 4 ∧ f = w 5) : fX9_spells 99 sz a b c d e f h = some (if (decide (k = 1 ∧ M = L) && allB (fun j => decide (T (s + j) = w j)) L) = true then 1 else 0) := by
  have b150 := B.1
  obtain ⟨rfl, rfl, rfl, rfl, rfl, rfl, rfl⟩ := hw
  generalize hp : (fun j => decide (T (s + j) = w j)) = p
  have l0 : xloop (fX9_spells_b26 99 (nI L) (w 0) (w 1) (w 2) (w 3) (w 4) (w 5) h) 1000000 (0, 0) = some 0 := by
    refine xloop_c (fun k => ((0 : Int32), nI k)) _ 0 (by omega) (fun i hi => by omega) ?_ rfl
    simp only [fX9_spells_b26]
    by_cases z : nI L ≤ nI 0
    · rw [if_pos z]
    · rw [if_neg z, if_pos trivial]
  have l1 : M = L → ∃ r, xloop (fX9_spells_b26 99 (nI L) (w 0) (w 1) (w 2) (w 3) (w 4) (w 5) h) 1000000 (1, 0) = some r ∧ r = if allB p L = true then 1 else 0 := by
    intro eM
    have hs' := hs eM
    refine xloop_i (body := fX9_spells_b26 99 (nI L) (w 0) (w 1) (w 2) (w 3) (w 4) (w 5) h) (fun j st => st = (if allB p j = true then 1 else 0, nI j)) (fun r => r = if allB p L = true then 1 else 0) L (by omega) ?_ ?_ (by simp [allB]; rfl)
    · intro j st hj a1
      subst a1
      by_cases z : allB p j = true
      · left
        have pj : p j = decide (T (s + j) = w j) := by rw [← hp]
        have nxt : allB p (j + 1) = decide (T (s + j) = w j) := by simp only [allB]; rw [z, pj]; simp
        refine ⟨(if allB p (j + 1) = true then 1 else 0, nI (j + 1)), ?_, rfl⟩
        rw [nxt]
        simp only [fX9_spells_b26, fX9_spells_j103, fX9_spells_j111]
        rw [if_neg (by rw [le_nI (by omega) (by omega)]; omega), if_pos z, if_neg (by decide), gR99_10 g, Option.bind_some, gI99 g, Option.bind_some, e12, nI_add, aN108 g (by omega), Option.bind_some, C.2 _ (by omega), nI_1]
        by_cases y : T (s + j) = w j
        · rcases (by omega : j = 0 ∨ j = 1 ∨ j = 2 ∨ j = 3 ∨ j = 4 ∨ j = 5) with rfl | rfl | rfl | rfl | rfl | rfl
          · rw [if_pos (by rfl), if_pos y]; simp only [y, decide_true, if_true]
          · rw [if_neg (by decide), if_pos (by rfl), if_pos y]; simp [y]
          · rw [if_neg (by decide), if_neg (by decide), if_pos (by rfl), if_pos y]; simp [y]
          · rw [if_neg (by decide), if_neg (by decide), if_neg (by decide), if_pos (by rfl), if_pos y]; simp [y]
          · rw [if_neg (by decide), if_neg (by decide), if_neg (by decide), if_neg (by decide), if_pos (by rfl), if_pos y]; simp [y]
          · rw [if_neg (by decide), if_neg (by decide), if_neg (by decide), if_neg (by decide), if_neg (by decide), if_pos y]; simp [y]
        · rcases (by omega : j = 0 ∨ j = 1 ∨ j = 2 ∨ j = 3 ∨ j = 4 ∨ j = 5) with rfl | rfl | rfl | rfl | rfl | rfl
          · rw [if_pos (by rfl), if_neg y]; simp only [y, decide_false]; rfl
          · rw [if_neg (by decide), if_pos (by rfl), if_neg y]; simp [y]
          · rw [if_neg (by decide), if_neg (by decide), if_pos (by rfl), if_neg y]; simp [y]
          · rw [if_neg (by decide), if_neg (by decide), if_neg (by decide), if_pos (by rfl), if_neg y]; simp [y]
          · rw [if_neg (by decide), if_neg (by decide), if_neg (by decide), if_neg (by decide), if_pos (by rfl), if_neg y]; simp [y]
          · rw [if_neg (by decide), if_neg (by decide), if_neg (by decide), if_neg (by decide), if_neg (by decide), if_neg y]; simp [y]
      · right
        have zf : allB p j = false := by simpa using z
        refine ⟨0, ?_, by rw [allB_no2 zf L (by omega)]; rfl⟩
        simp only [fX9_spells_b26]
        rw [if_neg (by rw [le_nI (by omega) (by omega)]; omega), if_neg z, if_pos rfl]
    · intro st a1
      subst a1
      refine ⟨_, ?_, rfl⟩
      simp only [fX9_spells_b26]
      rw [if_pos (by rw [le_nI (by omega) (by omega)]; omega)]
  simp only [fX9_spells, fX9_spells_j20, fX9_spells_j21, fX9_spells_j119]
  rw [gI99 g, Option.bind_some, e14]
  by_cases k1 : k = 1
  · rw [k1, if_pos (by rfl), gI99 g, Option.bind_some, e13]
    by_cases m1 : M = L
    · obtain ⟨r, er, hr⟩ := l1 m1
      rw [if_pos (by rw [m1]), er, Option.bind_some, hr]
      by_cases z : allB p L = true
      · rw [if_pos z, if_pos (show vp_nar .boolean 1 = 1 from rfl)]; simp [m1, z]
      · rw [if_neg z, if_pos (show vp_nar .boolean 0 = 0 from rfl)]; simp [z]
    · rw [if_neg (fun z => m1 ((nI_eq (by omega) (by omega)).mp z)), l0, Option.bind_some, if_pos (show vp_nar .boolean 0 = 0 from rfl)]
      simp [m1]
  · have : ¬ nI k = 1 := fun z => k1 ((nI_eq (b := 1) (by omega) (by omega)).mp z)
    rw [if_neg this, l0, Option.bind_some, if_pos (show vp_nar .boolean 0 = 0 from rfl)]
    simp [k1]
end MREAD
