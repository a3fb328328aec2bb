section MREAD2
variable {h : Hp} {T : Nat → Int32} {n : Nat}
def wlet (i j : Nat) : Int32 := (xbyt.getD i []).getD j 0
theorem wB_e {p i : Nat} : wB T n p i = (decide (tK T n p = 1 ∧ tE T n p - tS T n p = xlit.getD i 0) && allB (fun j => decide (T (tS T n p + j) = wlet i j)) (xlit.getD i 0)) := rfl
theorem spellW {p i : Nat} {a b c d e f sz : Int32} (S : MS h T n p) (B : BY T n) (hL : xlit.getD i 0 ≤ 6) (hw : sz = nI (xlit.getD i 0) ∧ a = wlet i 0 ∧ b = wlet i 1 ∧ c = wlet i 2 ∧ d = wlet i 3 ∧ e = wlet i 4 ∧ f = wlet i 5) : fX9_spells 99 sz a b c d e f h = some (if wB T n p i = true then 1 else 0) := by
  obtain ⟨g, C, hp, e12, e13, e14, e15⟩ := S
  have tb := t_b (T := T) hp
  have b := B.1
  rw [wB_e]
  exact spells_e g C B hL (by omega) lK_5 e12 e13 e14 (fun q => by omega) hw
theorem isQ_e {p : Nat} (S : MS h T n p) (B : BY T n) : fX9_isQuarrel 99 h = some (if wB T n p 3 = true then 1 else 0, h) := by
  have S0 := S
  obtain ⟨g, C, hp, e12, e13, e14, e15⟩ := S
  have tb := t_b (T := T) hp
  have b := B.1
  have k5 : tK T n p < 5 := lK_5
  have nf : ¬ (tK T n p = 1 ∧ tE T n p - tS T n p = 7) → wB T n p 3 = false := by
    intro q
    rw [wB_e]
    have : ¬ (tK T n p = 1 ∧ tE T n p - tS T n p = xlit.getD 3 0) := q
    simp only [this, decide_false, Bool.false_and]
  have no : ¬ (tK T n p = 1 ∧ tE T n p - tS T n p = 7) → fX9_isQuarrel_j22 99 0 h = some (0, h) := by
    intro q
    have u : sF h 99 (upd (h.2.1 99) 13 (nI (tE T n p - tS T n p))) = h := by rw [← e13, fa_upd_same rfl, sF_same]
    have sp := spells_e (w := wlet 3) (L := 6) (a := 113) (b := 117) (c := 97) (d := 114) (e := 114) (f := 101) (sz := 6) g C B (by omega) (by omega) lK_5 e12 e13 e14 (fun q => by omega) ⟨rfl, rfl, rfl, rfl, rfl, rfl, rfl⟩
    simp only [fX9_isQuarrel_j22, fX9_isQuarrel_j37, fX9_isQuarrel_j73, fX9_isQuarrel_j105, fX9_isQuarrel_j106]
    rw [if_pos trivial, gI99 g, Option.bind_some, e13, pI99 g, Option.bind_some, u, gT99 g, sp, Option.bind_some]
    simp only [if_true]
    rw [gI99 g, Option.bind_some, e13, pI99 g, Option.bind_some, u, if_pos (show vp_nar .boolean 0 = 0 from rfl)]
  simp only [fX9_isQuarrel, fX9_isQuarrel_j21]
  rw [gI99 g, Option.bind_some, e14]
  by_cases k1 : tK T n p = 1
  · rw [k1, if_pos (by rfl), gI99 g, Option.bind_some, e13]
    by_cases m7 : tE T n p - tS T n p = 7
    · rw [if_pos (by rw [m7]; rfl)]
      have g8 : GH (sF h 99 (upd (h.2.1 99) 13 6)) := g
      have u : sF (sF h 99 (upd (h.2.1 99) 13 6)) 99 (upd ((sF h 99 (upd (h.2.1 99) 13 6)).2.1 99) 13 7) = h := by
        rw [sF_s, sF_eq, fa_upd_twice]
        have : h.2.1 99 13 = 7 := by rw [e13, m7]; rfl
        rw [fa_upd_same this, sF_same]
      have sp := spells_e (h := sF h 99 (upd (h.2.1 99) 13 6)) (s := tS T n p) (M := 6) (k := 1) (w := wlet 3) (L := 6) (a := 113) (b := 117) (c := 97) (d := 114) (e := 114) (f := 101) (sz := 6) g8 (TM_F C (by simp [upd_e])) B (by omega) (by omega) (by omega) (by rw [sF_eq]; simp only [upd_e]; exact e12) (by rw [sF_eq]; simp [upd_e]; rfl) (by rw [sF_eq]; simp only [upd_e]; rw [← k1]; exact e14) (fun _ => by omega) ⟨rfl, rfl, rfl, rfl, rfl, rfl, rfl⟩
      have a6 : xaI h 108 10 (nI (tS T n p) + 6) = some (T (tS T n p + 6)) := by rw [lb6, aN108 g (by omega), C.2 _ (by omega)]
      have wq : wB T n p 3 = (allB (fun j => decide (T (tS T n p + j) = wlet 3 j)) 6 && decide (T (tS T n p + 6) = 108)) := by
        rw [wB_e, show xlit.getD 3 0 = 7 from rfl]
        simp only [k1, m7, and_self, decide_true, Bool.true_and]
        rfl
      simp only [fX9_isQuarrel_j22, fX9_isQuarrel_j37, fX9_isQuarrel_j73, fX9_isQuarrel_j105, fX9_isQuarrel_j106]
      rw [if_neg (by decide), pI99 g, Option.bind_some, gT99 g8, sp, Option.bind_some, if_neg (by decide), pI99 g8, Option.bind_some, u, if_neg (by decide), gR99_10 g, Option.bind_some, gI99 g, Option.bind_some, e12, a6, Option.bind_some, if_pos (show vp_nar .boolean 0 = 0 from rfl), if_pos (show vp_nar .boolean 1 = 1 from rfl), wq]
      by_cases z1 : allB (fun j => decide (T (tS T n p + j) = wlet 3 j)) 6 = true
      · by_cases z2 : T (tS T n p + 6) = 108
        · simp [z1, z2]
        · simp [z1, z2]
      · simp [z1]
    · have q : ¬ (tK T n p = 1 ∧ tE T n p - tS T n p = 7) := fun z => m7 z.2
      have m7' : ¬ nI (tE T n p - tS T n p) = 7 := fun z => m7 ((nI_eq (b := 7) (by omega) (by omega)).mp z)
      rw [if_neg m7', no q, nf q]
      rfl
  · have q : ¬ (tK T n p = 1 ∧ tE T n p - tS T n p = 7) := fun z => k1 z.1
    have : ¬ nI (tK T n p) = 1 := fun z => k1 ((nI_eq (b := 1) (by omega) (by omega)).mp z)
    rw [if_neg this, no q, nf q]
    rfl
def MRS : List Nat := [99, 109, 110]
def AN (h : Hp) (f : Nat → Int32) : Prop := ∀ k, k < 78 → h.2.1 109 k = f k
/-- what the model's reading of an item comes to, ahead of its mark -/
def MO (h0 : Hp) (T : Nat → Int32) (n : Nat) (o : Option (Int32 × Hp)) (res : Nat ⊕ ((Nat → Int32) × Nat)) : Prop := ∃ h', KP MRS h0 h' ∧ TM h' T n ∧ ((∃ s, res = Sum.inl s ∧ o = some (0, h') ∧ h'.2.1 99 12 = nI s) ∨ (∃ f q, res = Sum.inr (f, q) ∧ o = some (1, h') ∧ MS h' T n q ∧ AN h' f))
theorem MO_w {h0 : Hp} {o : Option (Int32 × Hp)} {res : Nat ⊕ ((Nat → Int32) × Nat)} (c : MO h0 T n o res) : MO h0 T n (o.bind fun q => if vp_nar .boolean q.1 = q.1 then some (q.1, q.2) else none) res := by
  obtain ⟨h', K, t, ⟨s, r, e, q⟩ | ⟨f, p, r, e, q⟩⟩ := c
  · exact ⟨h', K, t, Or.inl ⟨s, r, by rw [e, Option.bind_some]; exact if_pos (show vp_nar .boolean 0 = 0 from rfl), q⟩⟩
  · exact ⟨h', K, t, Or.inr ⟨f, p, r, by rw [e, Option.bind_some]; exact if_pos (show vp_nar .boolean 1 = 1 from rfl), q⟩⟩
theorem KM_t {S : List Nat} {h0 h h' : Hp} (K : KP MRS h0 h) (K' : KP S h h') (hS : ∀ x ∈ S, x ∈ MRS) : KP MRS h0 h' := KP_t K K' (fun _ z => z) hS
theorem AN_k {S : List Nat} {h h' : Hp} {f : Nat → Int32} (K : KP S h h') (hS : 109 ∉ S) (A : AN h f) : AN h' f := fun k hk => by rw [K.2.2 109 hS]; exact A k hk
theorem a110 {i : Nat} {v : Int32} (g : GH h) (hi : i < 4) (hv : v = nI i) : xaI h 110 10 v = some (h.2.1 110 i) := by rw [hv]; exact aN110 g hi
theorem bridge_m {h0 : Hp} {f : Nat → Int32} {p : Nat} (B : BY T n) (S : MS h T n p) (K : KP MRS h0 h) (A : AN h f) : MO h0 T n (fX9_takesBridge 99 h) (pBr T n f (tE T n p)) := by
  obtain ⟨h1, e1, K1, S1⟩ := goBehind_e S B
  have K1' := KM_t K K1 (by decide)
  have A1 := AN_k K1 (by decide) A
  simp only [fX9_takesBridge, fX9_takesBridge_j26]
  rw [gT99 S.1, e1, Option.bind_some]
  unfold pBr
  have t1 := takes_e (i := 0) (v := 0) (lo := 0) (hi := 9) S1 B (by omega) rfl
  by_cases q1 : nOk T n (tE T n p) 0 9 = true
  · obtain ⟨h2, e2, K2, S2, v2⟩ := t1.1 q1
    have K2' := KM_t K1' K2 (by decide)
    have A2 := AN_k K2 (by decide) A1
    simp only [q1, if_true]
    rw [gT99 S1.1, e2, Option.bind_some]
    simp only [ne10, if_false]
    have r1 := nOk_v q1
    rw [t32_0, t32_9] at r1
    obtain ⟨a, ha, ea⟩ : ∃ a, a < 10 ∧ tV T n (tE T n p) = nI a := ⟨(tV T n (tE T n p)).toInt.toNat, by omega, nI_n r1.1⟩
    have t2 := takes_e (i := 1) (v := 1) (lo := 1) (hi := 9) S2 B (by omega) rfl
    by_cases q2 : nOk T n (tE T n (tE T n p)) 1 9 = true
    · obtain ⟨h3, e3, K3, S3, v3⟩ := t2.1 q2
      have K3' := KM_t K2' K3 (by decide)
      have A3 := AN_k K3 (by decide) A2
      simp only [q2, if_true]
      rw [gT99 S2.1, e3, Option.bind_some]
      simp only [ne10, if_false]
      have w0 : h3.2.1 110 0 = nI a := by rw [v3, v2, ← ea]; simp [upd_e]
      have w1 : h3.2.1 110 1 = tV T n (tE T n (tE T n p)) := by rw [v3]; simp [upd_e]
      rw [gR99_16 S3.1, Option.bind_some, gR99_17 S3.1, Option.bind_some, a110 (v := 0) S3.1 (i := 0) (by omega) rfl, Option.bind_some, Option.bind_some, a110 (v := 1) S3.1 (i := 1) (by omega) rfl, Option.bind_some, w0, w1, la9, sN109 S3.1 (by omega), Option.bind_some, ea, show (nI a).toInt.toNat = a from nI_tt (by omega)]
      refine ⟨_, KM_t K3' (KP_F (KP_rfl [109] h3) (by decide) _) (by decide), (MS_109 S3).2.1, Or.inr ⟨_, _, rfl, rfl, MS_109 S3, ?_⟩⟩
      intro k hk
      rw [sF_eq]
      simp only [upd_e]
      by_cases y : k = 9 + a
      · rw [if_pos y, if_pos y]
      · rw [if_neg y, if_neg y]; exact A3 k hk
    · simp only [q2, if_false]
      rw [gT99 S2.1, t2.2 q2, Option.bind_some]
      exact ⟨h2, K2', S2.2.1, Or.inl ⟨_, rfl, if_pos rfl, S2.2.2.2.1⟩⟩
  · simp only [q1, if_false]
    rw [gT99 S1.1, t1.2 q1, Option.bind_some]
    exact ⟨h1, K1', S1.2.1, Or.inl ⟨_, rfl, if_pos rfl, S1.2.2.2.1⟩⟩
end MREAD2
