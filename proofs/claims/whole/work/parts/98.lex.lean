section LEX
variable {h : Hp}
def scn (P : Nat → Bool) : Nat → Nat → Nat
  | 0, p => p
  | m + 1, p => if P p = true then scn P m (p + 1) else p
theorem scn_b {P : Nat → Bool} : ∀ m p, p ≤ scn P m p ∧ scn P m p ≤ p + m
  | 0, p => ⟨Nat.le_refl _, Nat.le_refl _⟩
  | m + 1, p => by
    have := scn_b (P := P) m (p + 1)
    simp only [scn]; split <;> omega
theorem scn_1 {P : Nat → Bool} {m p : Nat} (h : P p = true) : p + 1 ≤ scn P (m + 1) p := by
  simp only [scn]; rw [if_pos h]; exact (scn_b m (p + 1)).1
def isL (c : Int32) : Bool := decide (97 ≤ c.toInt ∧ c.toInt ≤ 122)
def isF (c : Int32) : Bool := decide (48 ≤ c.toInt ∧ c.toInt ≤ 57)
def lS (T : Nat → Int32) (n p : Nat) : Nat := scn (fun j => decide (T j = 32)) (n - p) p
def lE (T : Nat → Int32) (n s : Nat) : Nat := if s = n then s else if isL (T s) = true then scn (fun j => isL (T j)) (n - s) s else if isF (T s) = true then scn (fun j => isF (T j)) (n - s) s else s + 1
def lK (T : Nat → Int32) (n s : Nat) : Nat := if s = n then 0 else if isL (T s) = true then 1 else if isF (T s) = true then (if lE T n s - s ≤ 2 then 2 else 4) else if T s = 59 then 3 else 4
def vN (T : Nat → Int32) (s : Nat) : Nat → Int32
  | 0 => 0
  | k + 1 => 10 * vN T s k + T (s + k) - 48
def tS (T : Nat → Int32) (n p : Nat) : Nat := lS T n p
def tE (T : Nat → Int32) (n p : Nat) : Nat := lE T n (lS T n p)
def tK (T : Nat → Int32) (n p : Nat) : Nat := lK T n (lS T n p)
def tV (T : Nat → Int32) (n p : Nat) : Int32 := vN T (lS T n p) (lE T n (lS T n p) - lS T n p)
theorem lS_b {T : Nat → Int32} {n p : Nat} (hp : p ≤ n) : p ≤ lS T n p ∧ lS T n p ≤ n := by
  have := scn_b (P := fun j => decide (T j = 32)) (n - p) p
  unfold lS; omega
theorem lE_b {T : Nat → Int32} {n s : Nat} (hs : s ≤ n) : s ≤ lE T n s ∧ lE T n s ≤ n ∧ (s < n → s < lE T n s) := by
  have a := scn_b (P := fun j => isL (T j)) (n - s) s
  have b := scn_b (P := fun j => isF (T j)) (n - s) s
  unfold lE
  by_cases z : s = n
  · rw [if_pos z]; omega
  · rw [if_neg z]
    by_cases z1 : isL (T s) = true
    · rw [if_pos z1]
      have c := scn_1 (P := fun j => isL (T j)) (m := n - s - 1) (p := s) z1
      rw [show n - s - 1 + 1 = n - s by omega] at c
      omega
    · rw [if_neg z1]
      by_cases z2 : isF (T s) = true
      · rw [if_pos z2]
        have c := scn_1 (P := fun j => isF (T j)) (m := n - s - 1) (p := s) z2
        rw [show n - s - 1 + 1 = n - s by omega] at c
        omega
      · rw [if_neg z2]; omega
theorem t_b {T : Nat → Int32} {n p : Nat} (hp : p ≤ n) : p ≤ tS T n p ∧ tS T n p ≤ tE T n p ∧ tE T n p ≤ n ∧ tS T n p ≤ n := by
  have a := lS_b (T := T) hp
  have b := lE_b (T := T) a.2
  unfold tS tE; omega
theorem t_k {T : Nat → Int32} {n p : Nat} (hp : p ≤ n) (hk : tK T n p ≠ 0) : tS T n p < tE T n p ∧ tS T n p < n := by
  have a := lS_b (T := T) hp
  have b := lE_b (T := T) a.2
  have c : lS T n p ≠ n := fun z => hk (by unfold tK lK; rw [if_pos z])
  unfold tS tE; omega
theorem lK_5 {T : Nat → Int32} {n s : Nat} : lK T n s < 5 := by
  unfold lK; split
  · omega
  · split
    · omega
    · split
      · split <;> omega
      · split <;> omega
/-- the text as the class has it, and as the model has it -/
def TC (h : Hp) (T : Nat → Int32) (n : Nat) : Prop := h.2.1 76 1 = nI n ∧ ∀ j, j < n → h.2.1 77 j = T j
def TM (h : Hp) (T : Nat → Int32) (n : Nat) : Prop := h.2.1 99 11 = nI n ∧ ∀ j, j < n → h.2.1 108 j = T j
def BY (T : Nat → Int32) (n : Nat) : Prop := n ≤ 150 ∧ ∀ j, j < n → rg (T j) 0 127
theorem TC_F {T F : Nat → Int32} {n : Nat} (C : TC h T n) (e : F 1 = h.2.1 76 1) : TC (sF h 76 F) T n := ⟨by rw [sF_eq, e]; exact C.1, fun j hj => by rw [sF_ne (by decide)]; exact C.2 j hj⟩
theorem TM_F {T F : Nat → Int32} {n : Nat} (C : TM h T n) (e : F 11 = h.2.1 99 11) : TM (sF h 99 F) T n := ⟨by rw [sF_eq, e]; exact C.1, fun j hj => by rw [sF_ne (by decide)]; exact C.2 j hj⟩
theorem byteAt_e {T : Nat → Int32} {n j : Nat} (g : GH h) (C : TC h T n) (B : BY T n) (hj : j ≤ 200) : fX4_byteAt 76 (nI j) h = some (if j < n then T j else -1) := by
  have b := B.1
  simp only [fX4_byteAt, fX4_byteAt_j21, fX4_byteAt_j22]
  rw [if_neg (nI_pos (by omega)), gI76 g, Option.bind_some, C.1]
  by_cases z : j < n
  · rw [if_neg (by rw [le_nI (by omega) (by omega)]; omega), if_pos z, gR76_0 g, Option.bind_some, aN77 g (by omega), Option.bind_some, C.2 j z]
  · rw [if_pos (by rw [le_nI (by omega) (by omega)]; omega), if_neg z]
theorem isLet_e (c : Int32) (h : Hp) : fX8_within c 97 122 h = some (if isL c = true then 1 else 0) := by
  rw [within_e]
  have e : inb c.toInt (97 : Int32).toInt (122 : Int32).toInt = if isL c = true then 1 else 0 := by
    unfold isL
    by_cases z : 97 ≤ c.toInt ∧ c.toInt ≤ 122
    · rw [inb_ok (show (97 : Int32).toInt ≤ c.toInt ∧ c.toInt ≤ (122 : Int32).toInt from z)]; simp [z]
    · rw [inb_no (show ¬ ((97 : Int32).toInt ≤ c.toInt ∧ c.toInt ≤ (122 : Int32).toInt) from z)]; simp only [z, decide_false]; rfl
  rw [e]
theorem isFig_e (c : Int32) (h : Hp) : fX8_within c 48 57 h = some (if isF c = true then 1 else 0) := by
  rw [within_e]
  have e : inb c.toInt (48 : Int32).toInt (57 : Int32).toInt = if isF c = true then 1 else 0 := by
    unfold isF
    by_cases z : 48 ≤ c.toInt ∧ c.toInt ≤ 57
    · rw [inb_ok (show (48 : Int32).toInt ≤ c.toInt ∧ c.toInt ≤ (57 : Int32).toInt from z)]; simp [z]
    · rw [inb_no (show ¬ ((48 : Int32).toInt ≤ c.toInt ∧ c.toInt ≤ (57 : Int32).toInt) from z)]; simp only [z, decide_false]; rfl
  rw [e]
theorem misL_e (c : Int32) (h : Hp) : fX9_isSmall c h = some (if isL c = true then 1 else 0) := by
  simp only [fX9_isSmall]
  rw [in_e, Option.bind_some, i64_i]
  have e : inb c.toInt (97 : Int64).toInt (122 : Int64).toInt = if isL c = true then 1 else 0 := by
    unfold isL
    by_cases z : 97 ≤ c.toInt ∧ c.toInt ≤ 122
    · rw [inb_ok (show (97 : Int64).toInt ≤ c.toInt ∧ c.toInt ≤ (122 : Int64).toInt from z)]; simp [z]
    · rw [inb_no (show ¬ ((97 : Int64).toInt ≤ c.toInt ∧ c.toInt ≤ (122 : Int64).toInt) from z)]; simp only [z, decide_false]; rfl
  rw [e]
  cases isL c <;> rfl
theorem misF_e (c : Int32) (h : Hp) : fX9_isFigure c h = some (if isF c = true then 1 else 0) := by
  simp only [fX9_isFigure]
  rw [in_e, Option.bind_some, i64_i]
  have e : inb c.toInt (48 : Int64).toInt (57 : Int64).toInt = if isF c = true then 1 else 0 := by
    unfold isF
    by_cases z : 48 ≤ c.toInt ∧ c.toInt ≤ 57
    · rw [inb_ok (show (48 : Int64).toInt ≤ c.toInt ∧ c.toInt ≤ (57 : Int64).toInt from z)]; simp [z]
    · rw [inb_no (show ¬ ((48 : Int64).toInt ≤ c.toInt ∧ c.toInt ≤ (57 : Int64).toInt) from z)]; simp only [z, decide_false]; rfl
  rw [e]
  cases isF c <;> rfl
theorem scan_loop {body : Int32 → Option (Int32 ⊕ (Int32 ⊕ Nat))} {P : Nat → Bool} {n : Nat} (hb : ∀ j, j < n → body (nI j) = if P j = true then some (Sum.inl (nI (j + 1))) else some (Sum.inr (Sum.inl (nI j)))) (he : body (nI n) = some (Sum.inr (Sum.inr 76))) : ∀ (m p fuel : Nat), p + m = n → m < fuel → ∃ r, xloop body fuel (nI p) = some r ∧ (r = Sum.inl (nI (scn P m p)) ∨ (r = Sum.inr 76 ∧ scn P m p = n)) := by
  intro m
  induction m with
  | zero =>
    intro p fuel hp hf
    obtain ⟨f, rfl⟩ : ∃ f, fuel = f + 1 := ⟨fuel - 1, by omega⟩
    have e : p = n := by omega
    subst e
    exact ⟨_, by simp only [xloop, he], Or.inr ⟨rfl, rfl⟩⟩
  | succ m ih =>
    intro p fuel hp hf
    obtain ⟨f, rfl⟩ : ∃ f, fuel = f + 1 := ⟨fuel - 1, by omega⟩
    have b := hb p (by omega)
    simp only [scn]
    by_cases z : P p = true
    · rw [if_pos z] at b ⊢
      obtain ⟨r, er, hr⟩ := ih (p + 1) f (by omega) (by omega)
      exact ⟨r, by simp only [xloop, b]; exact er, hr⟩
    · rw [if_neg z] at b ⊢
      exact ⟨_, by simp only [xloop, b], Or.inl rfl⟩
theorem run_e {T : Nat → Int32} {n p : Nat} {lo hi : Int32} {P : Nat → Bool} (g : GH h) (C : TC h T n) (B : BY T n) (hp : p ≤ n) (hP : ∀ j, P j = decide (lo.toInt ≤ (T j).toInt ∧ (T j).toInt ≤ hi.toInt)) : fX4_endOfRun 76 (nI p) lo hi h = some (nI (scn P (n - p) p)) := by
  have b := B.1
  obtain ⟨r, er, hr⟩ := scan_loop (body := fX4_endOfRun_b12 76 lo hi h) (P := P) (n := n) (fun j hj => by
    have a7 := aN77 g (show j < 150 by omega)
    simp only [fX4_endOfRun_b12, gI76 g, Option.bind_some, C.1, gR76_0 g, a7, C.2 j hj]
    rw [if_neg (by rw [le_nI (by omega) (by omega)]; omega), if_neg (by rw [show (150 : Int32) = nI 150 from rfl, le_nI (by omega) (by omega)]; omega), nI_1, hP j]
    by_cases z1 : T j < lo
    · rw [if_pos z1, if_neg]
      rw [fa_lt] at z1; rw [decide_eq_true_eq]; omega
    · rw [if_neg z1]
      by_cases z2 : T j ≤ hi
      · rw [if_pos z2, if_pos]
        rw [fa_lt] at z1; rw [fa_le] at z2; rw [decide_eq_true_eq]; omega
      · rw [if_neg z2, if_neg]
        rw [fa_le] at z2; rw [decide_eq_true_eq]; omega) (by
    simp only [fX4_endOfRun_b12]
    rw [gI76 g, Option.bind_some, C.1, if_pos (by rw [le_nI (by omega) (by omega)]; omega)]) (n - p) p 1000000 (by omega) (by omega)
  simp only [fX4_endOfRun, fX4_endOfRun_j51, fX4_endOfRun_j60]
  rw [if_pos (by rw [show (0 : Int32) = nI 0 from rfl, le_nI (by omega) (by omega)]; omega), er, Option.bind_some]
  rcases hr with rfl | ⟨rfl, e⟩
  · rfl
  · simp only []; rw [gI76 g, Option.bind_some, C.1, e]
theorem d32_e (x : Int32) : decide (x = 32) = decide ((32 : Int32).toInt ≤ x.toInt ∧ x.toInt ≤ (32 : Int32).toInt) := by
  rw [decide_eq_decide, fa_eq]; omega
theorem blanks_e {T : Nat → Int32} {n p : Nat} (g : GH h) (C : TC h T n) (B : BY T n) (hp : p ≤ n) : fX4_endOfRun 76 (nI p) 32 32 h = some (nI (lS T n p)) := run_e g C B hp (fun j => d32_e (T j))
theorem letters_e {T : Nat → Int32} {n p : Nat} (g : GH h) (C : TC h T n) (B : BY T n) (hp : p ≤ n) : fX4_endOfRun 76 (nI p) 97 122 h = some (nI (scn (fun j => isL (T j)) (n - p) p)) := run_e g C B hp (fun j => rfl)
theorem figures_e {T : Nat → Int32} {n p : Nat} (g : GH h) (C : TC h T n) (B : BY T n) (hp : p ≤ n) : fX4_endOfRun 76 (nI p) 48 57 h = some (nI (scn (fun j => isF (T j)) (n - p) p)) := run_e g C B hp (fun j => rfl)
theorem value_e {T : Nat → Int32} {n s e : Nat} (g : GH h) (C : TC h T n) (B : BY T n) (hs : s ≤ e) (he : e ≤ n) (e4 : h.2.1 76 4 = nI s) (e5 : h.2.1 76 5 = nI e) : fX4_valueOfFigures 76 h = some (vN T s (e - s)) := by
  have b := B.1
  have lp : xloop (fX4_valueOfFigures_b7 76 h) 1000000 (0, nI s) = some (vN T s (e - s)) := by
    refine xloop_c (fun k => (vN T s k, nI (s + k))) _ (e - s) (by omega) ?_ ?_ rfl
    · intro k hk
      simp only [fX4_valueOfFigures_b7]
      rw [gI76 g, Option.bind_some, e5, if_neg (by rw [le_nI (by omega) (by omega)]; omega), gT76 g, byteAt_e g C B (by omega), Option.bind_some, if_pos (by omega), nI_1]
      rfl
    · simp only [fX4_valueOfFigures_b7]
      rw [gI76 g, Option.bind_some, e5, if_pos (by rw [le_nI (by omega) (by omega)]; omega)]
  simp only [fX4_valueOfFigures]
  rw [gI76 g, Option.bind_some, e4, lp, Option.bind_some]
theorem step_e {T : Nat → Int32} {n p : Nat} (g : GH h) (C : TC h T n) (B : BY T n) (hp : p ≤ n) (e5 : h.2.1 76 5 = nI p) : ∃ F, fX4_step 76 h = some (sF h 76 F) ∧ F 4 = nI (tS T n p) ∧ F 5 = nI (tE T n p) ∧ F 6 = nI (tK T n p) ∧ ∀ j, j < 4 → F j = h.2.1 76 j := by
  have b := B.1
  have sb := lS_b (T := T) hp
  have eb := lE_b (T := T) sb.2
  have bl := blanks_e g C B hp
  have ht : tE T n p = lE T n (lS T n p) := rfl
  have hkk : tK T n p = lK T n (lS T n p) := rfl
  have hts : tS T n p = lS T n p := rfl
  rw [ht, hkk, hts]
  generalize lS T n p = s at *
  have gg : ∀ F, GH (sF h 76 F) := fun F => g
  have c1 : TC (sF h 76 (upd (h.2.1 76) 4 (nI s))) T n := TC_F C (by simp [upd_e])
  have u44 : upd (h.2.1 76) 4 (nI s) 4 = nI s := by simp [upd_e]
  have lo : ∀ (X Y Z W : Int32) (a b' c : Nat), 4 ≤ a → 4 ≤ b' → 4 ≤ c → ∀ j, j < 4 → upd (upd (upd (upd (h.2.1 76) 4 X) a Y) b' Z) c W j = h.2.1 76 j := fun X Y Z W a b' c h1 h2 h3 j hj => by
    simp only [upd_e]; rw [if_neg (by omega), if_neg (by omega), if_neg (by omega), if_neg (by omega)]
  by_cases z : s = n
  · refine ⟨upd (upd (upd (upd (h.2.1 76) 4 (nI s)) 6 0) 5 (nI s)) 5 (nI s), ?_, ?_, ?_, ?_, lo _ _ _ _ _ _ _ (by omega) (by omega) (by omega)⟩
    · simp only [fX4_step, fX4_step_j158]
      rw [gI76 g, Option.bind_some, e5, gT76 g, bl, Option.bind_some, pI76 g, Option.bind_some, gI76 (gg _), Option.bind_some, sF_eq, u44, gT76 (gg _), byteAt_e (gg _) c1 B (by omega), Option.bind_some, if_neg (show ¬ s < n by omega), if_pos rfl, pI76 (gg _), Option.bind_some, sF_s, gI76 (gg _), Option.bind_some, pI76 (gg _), Option.bind_some, sF_s, sF_eq, sF_eq]
      simp [upd_e, fa_upd_twice]
    · simp [upd_e]
    · simp [upd_e, lE, z]
    · simp [upd_e, lK, z]; rfl
  · have zl : s < n := by omega
    have tb := B.2 s zl
    have tn : ¬ T s = -1 := fun q => by rw [q] at tb; have := tb.1; simp at this
    have pre : ∀ X : Int32 → Option Hp, (fX4_byteAt 76 (nI s) (sF h 76 (upd (h.2.1 76) 4 (nI s)))).bind X = X (T s) := fun X => by rw [byteAt_e (gg _) c1 B (by omega), Option.bind_some, if_pos zl]
    by_cases zL : isL (T s) = true
    · have e : lE T n s = scn (fun j => isL (T j)) (n - s) s := by unfold lE; rw [if_neg z, if_pos zL]
      have k : lK T n s = 1 := by unfold lK; rw [if_neg z, if_pos zL]
      refine ⟨upd (upd (upd (upd (h.2.1 76) 4 (nI s)) 6 1) 5 (nI (lE T n s))) 5 (nI (lE T n s)), ?_, ?_, ?_, ?_, lo _ _ _ _ _ _ _ (by omega) (by omega) (by omega)⟩
      · have c2 : TC (sF h 76 (upd (upd (h.2.1 76) 4 (nI s)) 6 1)) T n := TC_F C (by simp [upd_e])
        have v4 : upd (upd (h.2.1 76) 4 (nI s)) 6 1 4 = nI s := by simp [upd_e]
        simp only [fX4_step, fX4_step_j158]
        rw [gI76 g, Option.bind_some, e5, gT76 g, bl, Option.bind_some, pI76 g, Option.bind_some, gI76 (gg _), Option.bind_some, sF_eq, u44, gT76 (gg _), pre, if_neg tn, isLet_e, Option.bind_some, if_pos zL, if_neg (by decide), pI76 (gg _), Option.bind_some, sF_s, sF_eq, gI76 (gg _), Option.bind_some, sF_eq, v4, gT76 (gg _), letters_e (gg _) c2 B (by omega), Option.bind_some, ← e, pI76 (gg _), Option.bind_some, sF_s, sF_eq, fa_upd_twice]
      · simp [upd_e]
      · simp [upd_e]
      · rw [k]; simp [upd_e]; rfl
    · by_cases zF : isF (T s) = true
      · have e : lE T n s = scn (fun j => isF (T j)) (n - s) s := by unfold lE; rw [if_neg z, if_neg zL, if_pos zF]
        have eg := eb.1
        have el := eb.2.1
        have v4 : upd (upd (h.2.1 76) 4 (nI s)) 5 (nI (lE T n s)) 4 = nI s := by simp [upd_e]
        have v5 : upd (upd (h.2.1 76) 4 (nI s)) 5 (nI (lE T n s)) 5 = nI (lE T n s) := by simp [upd_e]
        have run : fX4_step 76 h = if (2 : Int32) < nI (lE T n s) - nI s then fX4_step_j127 4 76 (sF h 76 (upd (upd (h.2.1 76) 4 (nI s)) 5 (nI (lE T n s)))) else fX4_step_j127 2 76 (sF h 76 (upd (upd (h.2.1 76) 4 (nI s)) 5 (nI (lE T n s)))) := by
          simp only [fX4_step]
          rw [gI76 g, Option.bind_some, e5, gT76 g, bl, Option.bind_some, pI76 g, Option.bind_some, gI76 (gg _), Option.bind_some, sF_eq, u44, gT76 (gg _), pre, if_neg tn, isLet_e, Option.bind_some, if_neg zL, if_pos rfl, isFig_e, Option.bind_some, if_pos zF, if_neg (by decide), Option.bind_some, gT76 (gg _), figures_e (gg _) c1 B (by omega), Option.bind_some, ← e, pI76 (gg _), Option.bind_some, sF_s, sF_eq, gI76 (gg _), Option.bind_some, gI76 (gg _), Option.bind_some, sF_eq, v4, v5]
        rw [run, pk_sub eg, show (2 : Int32) = nI 2 from rfl]
        by_cases zz : lE T n s - s ≤ 2
        · have k : lK T n s = 2 := by unfold lK; rw [if_neg z, if_neg zL, if_pos zF, if_pos zz]
          rw [if_neg (by rw [nI_ltI (by omega) (by omega)]; omega)]
          refine ⟨upd (upd (upd (upd (h.2.1 76) 4 (nI s)) 5 (nI (lE T n s))) 6 2) 6 2, ?_, ?_, ?_, ?_, lo _ _ _ _ _ _ _ (by omega) (by omega) (by omega)⟩
          · simp only [fX4_step_j127, fX4_step_j158]
            rw [show nI 2 = (2 : Int32) from rfl, pI76 (gg _), Option.bind_some, sF_s, sF_eq, fa_upd_twice]
          · simp [upd_e]
          · simp [upd_e]
          · rw [k]; simp [upd_e]; rfl
        · have k : lK T n s = 4 := by unfold lK; rw [if_neg z, if_neg zL, if_pos zF, if_neg zz]
          rw [if_pos (by rw [nI_ltI (by omega) (by omega)]; omega)]
          refine ⟨upd (upd (upd (upd (h.2.1 76) 4 (nI s)) 5 (nI (lE T n s))) 6 4) 6 4, ?_, ?_, ?_, ?_, lo _ _ _ _ _ _ _ (by omega) (by omega) (by omega)⟩
          · simp only [fX4_step_j127, fX4_step_j158]
            rw [pI76 (gg _), Option.bind_some, sF_s, sF_eq, fa_upd_twice]
          · simp [upd_e]
          · simp [upd_e]
          · rw [k]; simp [upd_e]; rfl
      · have e : lE T n s = s + 1 := by unfold lE; rw [if_neg z, if_neg zL, if_neg zF]
        have fin : ∀ x : Int32, fX4_step_j145 76 x 76 (sF h 76 (upd (h.2.1 76) 4 (nI s))) = some (sF h 76 (upd (upd (upd (upd (h.2.1 76) 4 (nI s)) 6 x) 5 (nI (s + 1))) 5 (nI (s + 1)))) := by
          intro x
          have v4 : upd (upd (h.2.1 76) 4 (nI s)) 6 x 4 = nI s := by simp [upd_e]
          simp only [fX4_step_j145, fX4_step_j158]
          rw [pI76 (gg _), Option.bind_some, sF_s, sF_eq, gI76 (gg _), Option.bind_some, sF_eq, v4, nI_1, pI76 (gg _), Option.bind_some, sF_s, sF_eq, fa_upd_twice]
        have run : fX4_step 76 h = if T s = 59 then some (sF h 76 (upd (upd (upd (upd (h.2.1 76) 4 (nI s)) 6 3) 5 (nI (s + 1))) 5 (nI (s + 1)))) else some (sF h 76 (upd (upd (upd (upd (h.2.1 76) 4 (nI s)) 6 4) 5 (nI (s + 1))) 5 (nI (s + 1)))) := by
          simp only [fX4_step]
          rw [gI76 g, Option.bind_some, e5, gT76 g, bl, Option.bind_some, pI76 g, Option.bind_some, gI76 (gg _), Option.bind_some, sF_eq, u44, gT76 (gg _), pre, if_neg tn, isLet_e, Option.bind_some, if_neg zL, if_pos rfl, isFig_e, Option.bind_some, if_neg zF, if_pos rfl, fin, fin]
        rw [run, e]
        by_cases zm : T s = 59
        · have k : lK T n s = 3 := by unfold lK; rw [if_neg z, if_neg zL, if_neg zF, if_pos zm]
          rw [if_pos zm]
          refine ⟨_, rfl, ?_, ?_, ?_, lo _ _ _ _ _ _ _ (by omega) (by omega) (by omega)⟩
          · simp [upd_e]
          · simp [upd_e]
          · rw [k]; simp [upd_e]; rfl
        · have k : lK T n s = 4 := by unfold lK; rw [if_neg z, if_neg zL, if_neg zF, if_neg zm]
          rw [if_neg zm]
          refine ⟨_, rfl, ?_, ?_, ?_, lo _ _ _ _ _ _ _ (by omega) (by omega) (by omega)⟩
          · simp [upd_e]
          · simp [upd_e]
          · rw [k]; simp [upd_e]; rfl
end LEX
