section MLEX
variable {h : Hp}
theorem scan_loop2 {σ ρ : Type} {body : σ → Option (σ ⊕ ρ)} (st : Nat → σ) (rr : Nat → ρ) {P : Nat → Bool} {n : Nat} (hb : ∀ j, j < n → body (st j) = if P j = true then some (Sum.inl (st (j + 1))) else some (Sum.inr (rr j))) (he : body (st n) = some (Sum.inr (rr n))) : ∀ (m p fuel : Nat), p + m = n → m < fuel → xloop body fuel (st p) = some (rr (scn P m p)) := by
  intro m
  induction m with
  | zero =>
    intro p fuel hp hf
    obtain ⟨f, rfl⟩ : ∃ f, fuel = f + 1 := ⟨fuel - 1, by omega⟩
    have e : p = n := by omega
    subst e
    simp only [xloop, he, scn]
  | succ m ih =>
    intro p fuel hp hf
    obtain ⟨f, rfl⟩ : ∃ f, fuel = f + 1 := ⟨fuel - 1, by omega⟩
    have b := hb p (by omega)
    simp only [scn]
    by_cases z : P p = true
    · rw [if_pos z] at b ⊢
      simp only [xloop, b]
      exact ih (p + 1) f (by omega) (by omega)
    · rw [if_neg z] at b ⊢
      simp only [xloop, b]
theorem scan_loop3 {σ ρ : Type} {body : σ → Option (σ ⊕ ρ)} (st st' : Nat → σ) (rr : Nat → ρ) {P : Nat → Bool} {n : Nat} {lo : Nat} (hb : ∀ j, lo ≤ j → j < n → body (st j) = if P j = true then some (Sum.inl (st (j + 1))) else some (Sum.inl (st' j))) (he : body (st n) = some (Sum.inr (rr n))) (hs : ∀ j, body (st' j) = some (Sum.inr (rr j))) : ∀ (m p fuel : Nat), lo ≤ p → p + m = n → m + 1 < fuel → xloop body fuel (st p) = some (rr (scn P m p)) := by
  intro m
  induction m with
  | zero =>
    intro p fuel hlo hp hf
    obtain ⟨f, rfl⟩ : ∃ f, fuel = f + 1 := ⟨fuel - 1, by omega⟩
    have e : p = n := by omega
    subst e
    simp only [xloop, he, scn]
  | succ m ih =>
    intro p fuel hlo hp hf
    obtain ⟨f, rfl⟩ : ∃ f, fuel = f + 2 := ⟨fuel - 2, by omega⟩
    have b := hb p hlo (by omega)
    simp only [scn]
    by_cases z : P p = true
    · rw [if_pos z] at b ⊢
      simp only [xloop, b]
      exact ih (p + 1) (f + 1) (by omega) (by omega) (by omega)
    · rw [if_neg z] at b ⊢
      simp only [xloop, b, hs]
def M4 (A : Nat → Int32) (a b c d : Int32) : Nat → Int32 := upd (upd (upd (upd A 12 a) 13 b) 14 c) 15 d
theorem M4_12 {A : Nat → Int32} {a b c d : Int32} : M4 A a b c d 12 = a := by simp [M4, upd_e]
theorem M4_13 {A : Nat → Int32} {a b c d : Int32} : M4 A a b c d 13 = b := by simp [M4, upd_e]
theorem M4_14 {A : Nat → Int32} {a b c d : Int32} : M4 A a b c d 14 = c := by simp [M4, upd_e]
theorem M4_15 {A : Nat → Int32} {a b c d : Int32} : M4 A a b c d 15 = d := by simp [M4, upd_e]
theorem M4_lo {A : Nat → Int32} {a b c d : Int32} {j : Nat} (hj : j < 12) : M4 A a b c d j = A j := by
  simp only [M4, upd_e]; rw [if_neg (by omega), if_neg (by omega), if_neg (by omega), if_neg (by omega)]
theorem M4_u13 {A : Nat → Int32} {a b c d x : Int32} : upd (M4 A a b c d) 13 x = M4 A a x c d := by
  funext j; simp only [M4, upd_e]
  by_cases j5 : j = 15
  · simp [j5]
  · by_cases j4 : j = 14
    · simp [j4]
    · by_cases j3 : j = 13
      · simp [j3]
      · simp [j3, j4, j5]
theorem M4_u14 {A : Nat → Int32} {a b c d x : Int32} : upd (M4 A a b c d) 14 x = M4 A a b x d := by
  funext j; simp only [M4, upd_e]
  by_cases j5 : j = 15
  · simp [j5]
  · by_cases j4 : j = 14
    · simp [j4]
    · simp [j4, j5]
theorem M4_u15 {A : Nat → Int32} {a b c d x : Int32} : upd (M4 A a b c d) 15 x = M4 A a b c x := by
  funext j; simp only [M4, upd_e]
  by_cases j5 : j = 15
  · simp [j5]
  · simp [j5]
theorem lookAt_e {T : Nat → Int32} {n p : Nat} (g : GH h) (C : TM h T n) (B : BY T n) (hp : p ≤ n) : ∃ F, fX9_lookAt 99 (nI p) h = some (sF h 99 F) ∧ F 12 = nI (tS T n p) ∧ F 13 = nI (tE T n p - tS T n p) ∧ F 14 = nI (tK T n p) ∧ (tK T n p = 2 → F 15 = tV T n p) ∧ ∀ j, j < 12 → F j = h.2.1 99 j := by
  have b := B.1
  have sb := lS_b (T := T) hp
  have eb := lE_b (T := T) sb.2
  have gg : ∀ F, GH (sF h 99 F) := fun F => g
  have e11 : ∀ F : Nat → Int32, F 11 = h.2.1 99 11 → (sF h 99 F).2.1 99 11 = nI n := fun F e => by rw [sF_eq, e]; exact C.1
  have e108 : ∀ F j, j < n → xaI (sF h 99 F) 108 10 (nI j) = some (T j) := fun F j hj => by rw [aN108 (gg F) (by omega), sF_ne (by decide), C.2 j hj]
  have l5 : xloop (fX9_lookAt_b5 99) 1000000 (sF h 99 (upd (h.2.1 99) 12 (nI p))) = some (99, sF h 99 (upd (h.2.1 99) 12 (nI (lS T n p)))) := by
    refine scan_loop2 (body := fX9_lookAt_b5 99) (fun q => sF h 99 (upd (h.2.1 99) 12 (nI q))) (fun q => (99, sF h 99 (upd (h.2.1 99) 12 (nI q)))) (P := fun j => decide (T j = 32)) (n := n) ?_ ?_ (n - p) p 1000000 (by omega) (by omega)
    · intro j hj
      have v12 : (sF h 99 (upd (h.2.1 99) 12 (nI j))).2.1 99 12 = nI j := by rw [sF_eq]; simp [upd_e]
      have v11 := e11 (upd (h.2.1 99) 12 (nI j)) (by simp [upd_e])
      simp only [fX9_lookAt_b5]
      rw [gI99 (gg _), Option.bind_some, v12, gI99 (gg _), Option.bind_some, v11, if_neg (by rw [le_nI (by omega) (by omega)]; omega), gR99_10 (gg _), Option.bind_some, Option.bind_some, e108 _ j hj, Option.bind_some, Option.bind_some, pI99 (gg _), Option.bind_some, sF_s, sF_eq, nI_1, fa_upd_twice]
      by_cases z : T j = 32
      · simp [z]
      · simp [z]
    · have v12 : (sF h 99 (upd (h.2.1 99) 12 (nI n))).2.1 99 12 = nI n := by rw [sF_eq]; simp [upd_e]
      have v11 := e11 (upd (h.2.1 99) 12 (nI n)) (by simp [upd_e])
      simp only [fX9_lookAt_b5]
      rw [gI99 (gg _), Option.bind_some, v12, gI99 (gg _), Option.bind_some, v11, if_pos (by rw [le_nI (by omega) (by omega)]; omega)]
  have ht : tE T n p = lE T n (lS T n p) := rfl
  have hkk : tK T n p = lK T n (lS T n p) := rfl
  have hv : tV T n p = vN T (lS T n p) (lE T n (lS T n p) - lS T n p) := rfl
  have hts : tS T n p = lS T n p := rfl
  rw [ht, hkk, hv, hts]
  generalize lS T n p = s at *
  have pre : fX9_lookAt 99 (nI p) h = fX9_lookAt_j43 99 (sF h 99 (upd (h.2.1 99) 12 (nI s))) := by
    simp only [fX9_lookAt]
    rw [pI99 g, Option.bind_some, l5, Option.bind_some]
  have g0 := gg (M4 (h.2.1 99) (nI s) 0 0 0)
  have r0 : upd (upd (upd (upd (h.2.1 99) 12 (nI s)) 13 0) 14 0) 15 0 = M4 (h.2.1 99) (nI s) 0 0 0 := rfl
  have v12 : ∀ x y z, (sF h 99 (M4 (h.2.1 99) (nI s) x y z)).2.1 99 12 = nI s := fun x y z => by rw [sF_eq]; exact M4_12
  have v13 : ∀ x y z, (sF h 99 (M4 (h.2.1 99) (nI s) x y z)).2.1 99 13 = x := fun x y z => by rw [sF_eq]; exact M4_13
  have v14 : ∀ x y z, (sF h 99 (M4 (h.2.1 99) (nI s) x y z)).2.1 99 14 = y := fun x y z => by rw [sF_eq]; exact M4_14
  have v15 : ∀ x y z, (sF h 99 (M4 (h.2.1 99) (nI s) x y z)).2.1 99 15 = z := fun x y z => by rw [sF_eq]; exact M4_15
  have v11 : ∀ x y z, (sF h 99 (M4 (h.2.1 99) (nI s) x y z)).2.1 99 11 = nI n := fun x y z => e11 _ (M4_lo (by omega))
  by_cases z : s = n
  · refine ⟨M4 (h.2.1 99) (nI s) 0 0 0, ?_, M4_12, ?_, ?_, ?_, fun j hj => M4_lo hj⟩
    · rw [pre]
      simp only [fX9_lookAt_j43]
      rw [pI99 (gg _), Option.bind_some, sF_s, sF_eq, pI99 (gg _), Option.bind_some, sF_s, sF_eq, pI99 (gg _), Option.bind_some, sF_s, sF_eq, r0, gI99 g0, Option.bind_some, v12, gI99 g0, Option.bind_some, v11, z, if_pos rfl]
    · rw [M4_13]; simp [lE, z]; rfl
    · rw [M4_14]; simp [lK, z]; rfl
    · intro q; simp [lK, z] at q
  have zl : s < n := by omega
  have zn : ¬ nI s = nI n := fun q => z ((nI_eq (by omega) (by omega)).mp q)
  have run : fX9_lookAt 99 (nI p) h = if isL (T s) = true then fX9_lookAt_j114 99 1 99 (sF h 99 (M4 (h.2.1 99) (nI s) 0 0 0)) else if isF (T s) = true then fX9_lookAt_j114 99 2 99 (sF h 99 (M4 (h.2.1 99) (nI s) 0 0 0)) else if T s = 59 then fX9_lookAt_j114 99 3 99 (sF h 99 (M4 (h.2.1 99) (nI s) 0 0 0)) else fX9_lookAt_j114 99 4 99 (sF h 99 (M4 (h.2.1 99) (nI s) 0 0 0)) := by
    rw [pre]
    simp only [fX9_lookAt_j43]
    rw [pI99 (gg _), Option.bind_some, sF_s, sF_eq, pI99 (gg _), Option.bind_some, sF_s, sF_eq, pI99 (gg _), Option.bind_some, sF_s, sF_eq, r0, gI99 g0, Option.bind_some, v12, gI99 g0, Option.bind_some, v11, if_neg zn, gR99_10 g0, Option.bind_some, Option.bind_some, e108 _ s zl, Option.bind_some, misL_e, Option.bind_some, misF_e, Option.bind_some]
    by_cases z1 : isL (T s) = true
    · rw [if_pos z1, if_pos z1, if_neg (by decide)]
    · rw [if_neg z1, if_neg z1, if_pos rfl]
      by_cases z2 : isF (T s) = true
      · rw [if_pos z2, if_pos z2, if_neg (by decide)]
      · rw [if_neg z2, if_neg z2, if_pos rfl]
  have run2 : ∀ t : Int32, fX9_lookAt_j114 99 t 99 (sF h 99 (M4 (h.2.1 99) (nI s) 0 0 0)) = if (3 : Int32) ≤ t then fX9_lookAt_j135 99 0 (sF h 99 (M4 (h.2.1 99) (nI s) (nI 1) t 0)) else fX9_lookAt_j135 99 1 (sF h 99 (M4 (h.2.1 99) (nI s) (nI 1) t 0)) := by
    intro t
    simp only [fX9_lookAt_j114]
    rw [pI99 (gg _), Option.bind_some, sF_s, sF_eq, M4_u14, pI99 (gg _), Option.bind_some, sF_s, sF_eq, M4_u13, gI99 (gg _), Option.bind_some, show (1 : Int32) = nI 1 from rfl, v14]
  have l218n : ∀ (x t : Int32) (L : Nat), 1 ≤ L → L ≤ 150 → ¬ t = 2 → xloop (fX9_lookAt_b218 99) 1000000 (0, sF h 99 (M4 (h.2.1 99) (nI s) (nI L) t x)) = some (99, sF h 99 (M4 (h.2.1 99) (nI s) (nI L) t x)) := by
    intro x t L h1 h2 h3
    refine xloop_c (fun k => (nI k, sF h 99 (M4 (h.2.1 99) (nI s) (nI L) t x))) _ 0 (by omega) (fun i hi => by omega) ?_ rfl
    simp only [fX9_lookAt_b218]
    rw [gI99 (gg _), Option.bind_some, v13, if_neg (by rw [le_nI (by omega) (by omega)]; omega), if_neg (by decide), gI99 (gg _), Option.bind_some, v14, if_neg h3]
  have l218y : ∀ (L : Nat), 1 ≤ L → s + L ≤ n → xloop (fX9_lookAt_b218 99) 1000000 (0, sF h 99 (M4 (h.2.1 99) (nI s) (nI L) 2 0)) = some (99, sF h 99 (M4 (h.2.1 99) (nI s) (nI L) 2 (vN T s (if L ≤ 2 then L else 2)))) := by
    intro L h1 h2
    refine xloop_c (fun k => (nI k, sF h 99 (M4 (h.2.1 99) (nI s) (nI L) 2 (vN T s k)))) _ (if L ≤ 2 then L else 2) (by split <;> omega) ?_ ?_ rfl
    · intro k hk
      have k2 : k < L ∧ k < 2 := by split at hk <;> omega
      simp only [fX9_lookAt_b218]
      rw [gI99 (gg _), Option.bind_some, v13, if_neg (by rw [le_nI (by omega) (by omega)]; omega), if_neg (by rw [show (2 : Int32) = nI 2 from rfl, le_nI (by omega) (by omega)]; omega), gI99 (gg _), Option.bind_some, v14, if_pos rfl, gI99 (gg _), Option.bind_some, v15, gR99_10 (gg _), Option.bind_some, gI99 (gg _), Option.bind_some, v12, nI_add, e108 _ (s + k) (by omega), Option.bind_some, pI99 (gg _), Option.bind_some, sF_s, sF_eq, M4_u15, nI_1]
      rfl
    · simp only [fX9_lookAt_b218]
      rw [gI99 (gg _), Option.bind_some, v13]
      by_cases q : L ≤ 2
      · rw [if_pos q, if_pos (by rw [le_nI (by omega) (by omega)]; omega)]
      · rw [if_neg q, if_neg (by rw [le_nI (by omega) (by omega)]; omega), if_pos (by decide)]
  have j274n : ∀ (x t : Int32) (L : Nat), ¬ t = 2 → fX9_lookAt_j274 99 (sF h 99 (M4 (h.2.1 99) (nI s) (nI L) t x)) = some (sF h 99 (M4 (h.2.1 99) (nI s) (nI L) t x)) := by
    intro x t L h3
    simp only [fX9_lookAt_j274, fX9_lookAt_j295, fX9_lookAt_j299]
    rw [gI99 (gg _), Option.bind_some, v14, if_neg h3, Option.bind_some, pI99 (gg _), Option.bind_some, sF_s, sF_eq, M4_u14]
  have j274y : ∀ (x : Int32) (L : Nat), L ≤ 150 → fX9_lookAt_j274 99 (sF h 99 (M4 (h.2.1 99) (nI s) (nI L) 2 x)) = some (sF h 99 (M4 (h.2.1 99) (nI s) (nI L) (if L ≤ 2 then 2 else 4) x)) := by
    intro x L hL
    simp only [fX9_lookAt_j274, fX9_lookAt_j295, fX9_lookAt_j299]
    rw [gI99 (gg _), Option.bind_some, v14, if_pos rfl, gI99 (gg _), Option.bind_some, v13, Option.bind_some, pI99 (gg _), pI99 (gg _), Option.bind_some, Option.bind_some, sF_s, sF_s, sF_eq, M4_u14, M4_u14]
    by_cases q : L ≤ 2
    · rw [if_pos (by rw [show (2 : Int32) = nI 2 from rfl, le_nI (by omega) (by omega)]; omega), if_pos q]
    · rw [if_neg (by rw [show (2 : Int32) = nI 2 from rfl, le_nI (by omega) (by omega)]; omega), if_neg q]
  have l136n : ∀ (t : Int32), xloop (fX9_lookAt_b136 99) 1000000 (0, sF h 99 (M4 (h.2.1 99) (nI s) (nI 1) t 0)) = some (99, sF h 99 (M4 (h.2.1 99) (nI s) (nI 1) t 0)) := by
    intro t
    refine xloop_c (fun k => (nI k, sF h 99 (M4 (h.2.1 99) (nI s) (nI 1) t 0))) _ 0 (by omega) (fun i hi => by omega) ?_ rfl
    simp only [fX9_lookAt_b136]
    rw [if_pos nI_0]
  have l136y : ∀ (t : Int32) (P : Int32 → Bool), (t = 1 ∧ P = isL) ∨ (t = 2 ∧ P = isF) → xloop (fX9_lookAt_b136 99) 1000000 (1, sF h 99 (M4 (h.2.1 99) (nI s) (nI 1) t 0)) = some (99, sF h 99 (M4 (h.2.1 99) (nI s) (nI (scn (fun j => P (T j)) (n - (s + 1)) (s + 1) - s)) t 0)) := by
    intro t P hP
    have d1 : ∀ q, s + 1 ≤ q → nI s + nI (q - s) = nI q := fun q hq => by rw [nI_add, show s + (q - s) = q by omega]
    have := scan_loop3 (body := fX9_lookAt_b136 99) (fun q => (1, sF h 99 (M4 (h.2.1 99) (nI s) (nI (q - s)) t 0))) (fun q => (0, sF h 99 (M4 (h.2.1 99) (nI s) (nI (q - s)) t 0))) (fun q => (99, sF h 99 (M4 (h.2.1 99) (nI s) (nI (q - s)) t 0))) (P := fun j => P (T j)) (n := n) (lo := s + 1) (fun j h1 h2 => by
      simp only [fX9_lookAt_b136, fX9_lookAt_j193, fX9_lookAt_j208]
      rw [if_neg (by decide), gI99 (gg _), Option.bind_some, v12, gI99 (gg _), Option.bind_some, v13, gI99 (gg _), Option.bind_some, v11, d1 j h1, if_neg (by rw [le_nI (by omega) (by omega)]; omega), gR99_10 (gg _), Option.bind_some, Option.bind_some, Option.bind_some, d1 j h1, e108 _ j h2, Option.bind_some, gI99 (gg _), Option.bind_some, v14, misL_e, misF_e, Option.bind_some, Option.bind_some, Option.bind_some]
      have w : ∀ x, xpI (sF h 99 (M4 (h.2.1 99) (nI s) (nI (j - s)) t 0)) 99 (9, 18) 13 x = some (sF h 99 (M4 (h.2.1 99) (nI s) x t 0)) := fun x => by rw [pI99 (gg _), sF_s, sF_eq, M4_u13]
      simp only [w, Option.bind_some]
      have y0 : nI (j - s) + 0 = nI (j - s) := by simp
      have y1 : nI (j - s) + 1 = nI (j + 1 - s) := by rw [nI_1, show j - s + 1 = j + 1 - s by omega]
      rw [y0, y1]
      rcases hP with ⟨rfl, rfl⟩ | ⟨rfl, rfl⟩
      · rw [if_pos rfl]
        cases isL (T j) <;> rfl
      · rw [if_neg (by decide)]
        cases isF (T j) <;> rfl) (by
      simp only [fX9_lookAt_b136]
      rw [if_neg (by decide), gI99 (gg _), Option.bind_some, v12, gI99 (gg _), Option.bind_some, v13, gI99 (gg _), Option.bind_some, v11, d1 n (by omega), if_pos (by rw [le_nI (by omega) (by omega)]; omega)]) (fun j => by
      simp only [fX9_lookAt_b136]
      rw [if_pos trivial]) (n - (s + 1)) (s + 1) 1000000 (Nat.le_refl _) (by omega) (by omega)
    rw [show s + 1 - s = 1 by omega] at this
    exact this
  have j135 : ∀ (t g' : Int32) (L : Nat), 1 ≤ L → L ≤ 150 → ¬ t = 2 → xloop (fX9_lookAt_b136 99) 1000000 (g', sF h 99 (M4 (h.2.1 99) (nI s) (nI 1) t 0)) = some (99, sF h 99 (M4 (h.2.1 99) (nI s) (nI L) t 0)) → fX9_lookAt_j135 99 g' (sF h 99 (M4 (h.2.1 99) (nI s) (nI 1) t 0)) = some (sF h 99 (M4 (h.2.1 99) (nI s) (nI L) t 0)) := by
    intro t g' L h1 h2 h3 hl
    simp only [fX9_lookAt_j135, fX9_lookAt_j215]
    rw [hl, Option.bind_some]
    simp only []
    rw [l218n 0 t L h1 h2 h3, Option.bind_some]
    simp only []
    rw [j274n 0 t L h3]
  by_cases zL : isL (T s) = true
  · have e : lE T n s = scn (fun j => isL (T j)) (n - (s + 1)) (s + 1) := by
      unfold lE; rw [if_neg z, if_pos zL, show n - s = n - (s + 1) + 1 by omega]; simp only [scn]; rw [if_pos zL]
    have k : lK T n s = 1 := by unfold lK; rw [if_neg z, if_pos zL]
    have e3 := eb.2.2 zl
    have lp := l136y 1 isL (Or.inl ⟨rfl, rfl⟩)
    rw [← e] at lp
    refine ⟨M4 (h.2.1 99) (nI s) (nI (lE T n s - s)) 1 0, ?_, M4_12, M4_13, ?_, ?_, fun j hj => M4_lo hj⟩
    · rw [run, if_pos zL, run2, if_neg (by decide), j135 1 1 (lE T n s - s) (by omega) (by omega) (by decide) lp]
    · rw [M4_14, k]; rfl
    · intro q; rw [k] at q; omega
  · by_cases zF : isF (T s) = true
    · have e : lE T n s = scn (fun j => isF (T j)) (n - (s + 1)) (s + 1) := by
        unfold lE; rw [if_neg z, if_neg zL, if_pos zF, show n - s = n - (s + 1) + 1 by omega]; simp only [scn]; rw [if_pos zF]
      have e3 := eb.2.2 zl
      have e4 := eb.2.1
      have k : lK T n s = if lE T n s - s ≤ 2 then 2 else 4 := by unfold lK; rw [if_neg z, if_neg zL, if_pos zF]
      have lp := l136y 2 isF (Or.inr ⟨rfl, rfl⟩)
      rw [← e] at lp
      refine ⟨M4 (h.2.1 99) (nI s) (nI (lE T n s - s)) (if lE T n s - s ≤ 2 then 2 else 4) (vN T s (if lE T n s - s ≤ 2 then lE T n s - s else 2)), ?_, M4_12, M4_13, ?_, ?_, fun j hj => M4_lo hj⟩
      · rw [run, if_neg zL, if_pos zF, run2, if_neg (by decide)]
        simp only [fX9_lookAt_j135, fX9_lookAt_j215]
        rw [lp, Option.bind_some]
        simp only []
        rw [l218y (lE T n s - s) (by omega) (by omega), Option.bind_some]
        simp only []
        rw [j274y _ (lE T n s - s) (by omega)]
      · rw [M4_14, k]
        by_cases q : lE T n s - s ≤ 2
        · rw [if_pos q, if_pos q]; rfl
        · rw [if_neg q, if_neg q]; rfl
      · intro q
        rw [k] at q
        have q2 : lE T n s - s ≤ 2 := by
          by_cases q3 : lE T n s - s ≤ 2
          · exact q3
          · rw [if_neg q3] at q; omega
        rw [M4_15, if_pos q2]
    · have e : lE T n s = s + 1 := by unfold lE; rw [if_neg z, if_neg zL, if_neg zF]
      have m1 : nI (s + 1 - s) = nI 1 := by rw [show s + 1 - s = 1 by omega]
      rw [e, m1]
      by_cases zm : T s = 59
      · have k : lK T n s = 3 := by unfold lK; rw [if_neg z, if_neg zL, if_neg zF, if_pos zm]
        refine ⟨M4 (h.2.1 99) (nI s) (nI 1) 3 0, ?_, M4_12, M4_13, ?_, ?_, fun j hj => M4_lo hj⟩
        · rw [run, if_neg zL, if_neg zF, if_pos zm, run2, if_pos (by decide), j135 3 0 1 (by omega) (by omega) (by decide) (l136n 3)]
        · rw [M4_14, k]; rfl
        · intro q; rw [k] at q; omega
      · have k : lK T n s = 4 := by unfold lK; rw [if_neg z, if_neg zL, if_neg zF, if_neg zm]
        refine ⟨M4 (h.2.1 99) (nI s) (nI 1) 4 0, ?_, M4_12, M4_13, ?_, ?_, fun j hj => M4_lo hj⟩
        · rw [run, if_neg zL, if_neg zF, if_neg zm, run2, if_pos (by decide), j135 4 0 1 (by omega) (by omega) (by decide) (l136n 4)]
        · rw [M4_14, k]; rfl
        · intro q; rw [k] at q; omega
end MLEX
