section DECKS
variable {h : Hp}
/-- the j-th of the L digits of p, to base k -/
def dg (k L p j : Nat) : Nat := p / k ^ (L - 1 - j) % k
theorem dg_up {k n L p c j : Nat} (hc : c / k ^ (n - L) = p) (hj : j < L) (hL : L ≤ n) : dg k n c j = dg k L p j := by
  unfold dg
  rw [show n - 1 - j = (n - L) + (L - 1 - j) by omega, Nat.pow_add, ← Nat.div_div_eq_div_mul, hc]
theorem dg_child {k i p t j : Nat} (ht : t < k) (hj : j < i) : dg k (i + 1) (p * k + t) j = dg k i p j := by
  unfold dg
  rw [show i + 1 - 1 - j = 1 + (i - 1 - j) by omega, Nat.pow_add, Nat.pow_one, ← Nat.div_div_eq_div_mul]
  congr 2
  rw [Nat.mul_comm, Nat.mul_add_div (by omega), Nat.div_eq_of_lt ht, Nat.add_zero]
theorem dg_last {k i p t : Nat} (ht : t < k) : dg k (i + 1) (p * k + t) i = t := by
  unfold dg
  rw [show i + 1 - 1 - i = 0 by omega, Nat.pow_zero, Nat.div_one, Nat.mul_comm, Nat.mul_add_mod, Nat.mod_eq_of_lt ht]
theorem dg_lt {k L p j : Nat} (hk : 0 < k) : dg k L p j < k := Nat.mod_lt _ hk
/-- none quarrel on the decks of the code c -/
def vl (f : Nat → Int32) (n k c : Nat) : Prop := ∀ a, a < n → ∀ o, o < a → ¬ (dg k n c o = dg k n c a ∧ bt1 (f (47 + a)) o = 1)
def cmB (f : Nat → Int32) (G : Nat → Int32) (i : Nat) (t : Int32) (o : Nat) : Bool := decide (¬ (G o = t ∧ bt1 (f (47 + i)) o = 1))
theorem calm_e {f : Nat → Int32} {i : Nat} {t : Int32} (J : JX h f) (hi : i < nn f) : fX1_isCalm 1 70 (nI i) t h = some (if allB (cmB f (h.2.1 70) i t) i = true then 1 else 0) := by
  have g := J.1
  have n7 := (n_eq J.2.2.1).2.1
  have e7 := (J.2.1.2.2.2 i hi).2.2.2
  generalize hp : cmB f (h.2.1 70) i t = p
  have lp : ∃ r, xloop (fX1_isCalm_b3 1 70 (nI i) t h) 1000000 0 = some r ∧ ((r = Sum.inl () ∧ allB p i = false) ∨ (r = Sum.inr () ∧ allB p i = true)) := by
    refine xloop_i (body := fX1_isCalm_b3 1 70 (nI i) t h) (fun q st => st = nI q ∧ allB p q = true) (fun r => (r = Sum.inl () ∧ allB p i = false) ∨ (r = Sum.inr () ∧ allB p i = true)) i (by omega) ?_ ?_ ⟨rfl, rfl⟩
    · intro q st hq ⟨a1, a2⟩
      subst a1
      have hd : fX1_isCalm_b3 1 70 (nI i) t h (nI q) = if h.2.1 70 q = t then (if bt1 (f (47 + i)) q = 1 then some (Sum.inr (Sum.inl ())) else some (Sum.inl (nI (q + 1)))) else some (Sum.inl (nI (q + 1))) := by
        simp only [fX1_isCalm_b3, fX1_isCalm_j34]
        rw [if_neg (by rw [le_nI (by omega) (by omega)]; omega), aN70 g (by omega), Option.bind_some, gR1_7 g, Option.bind_some, aN7 g (by omega), Option.bind_some, bit_e, Option.bind_some, e7, nI_1]
        rfl
      rw [hd]
      by_cases z1 : h.2.1 70 q = t
      · by_cases z2 : bt1 (f (47 + i)) q = 1
        · right
          rw [if_pos z1, if_pos z2]
          exact ⟨_, rfl, Or.inl ⟨rfl, allB_no (q := q) (by rw [← hp]; simp [cmB, z1, z2]) _ hq⟩⟩
        · left
          rw [if_pos z1, if_neg z2]
          exact ⟨_, rfl, rfl, by simp only [allB]; rw [a2, ← hp]; simp [cmB, z2]⟩
      · left
        rw [if_neg z1]
        exact ⟨_, rfl, rfl, by simp only [allB]; rw [a2, ← hp]; simp [cmB, z1]⟩
    · intro st ⟨a1, a2⟩
      subst a1
      refine ⟨Sum.inr (), ?_, Or.inr ⟨rfl, a2⟩⟩
      simp only [fX1_isCalm_b3]
      rw [if_pos (by rw [le_nI (by omega) (by omega)]; omega)]
  obtain ⟨r, er, hr⟩ := lp
  simp only [fX1_isCalm]
  rw [er, Option.bind_some]
  rcases hr with ⟨rfl, e⟩ | ⟨rfl, e⟩
  · rw [e]; rfl
  · rw [e]; rfl
theorem place_e {f : Nat → Int32} {k : Nat} (J : JX h f) (k0 : 0 < k) (k7 : k ≤ 7) : ∀ (m i p fuel : Nat) (h' : Hp), i + m = nn f → m < fuel → KP [70] h h' → (∀ j, j < i → h'.2.1 70 j = nI (dg k i p j)) → (∀ a, a < i → ∀ o, o < a → ¬ (dg k i p o = dg k i p a ∧ bt1 (f (47 + a)) o = 1)) → ∃ h2, KP [70] h h2 ∧ ((∃ c, p * k ^ m ≤ c ∧ c < (p + 1) * k ^ m ∧ vl f (nn f) k c ∧ (∀ c', p * k ^ m ≤ c' → c' < c → ¬ vl f (nn f) k c') ∧ fX1_canPlace fuel 1 70 (nI i) (nI k) h' = some (1, h2) ∧ ∀ j, j < nn f → h2.2.1 70 j = nI (dg k (nn f) c j)) ∨ ((∀ c, p * k ^ m ≤ c → c < (p + 1) * k ^ m → ¬ vl f (nn f) k c) ∧ fX1_canPlace fuel 1 70 (nI i) (nI k) h' = some (0, h2) ∧ ∀ j, j < i → h2.2.1 70 j = nI (dg k i p j))) := by
  have n7 := (n_eq J.2.2.1).2.1
  intro m
  induction m with
  | zero =>
    intro i p fuel h' hi hf K D V
    obtain ⟨d, rfl⟩ : ∃ d, fuel = d + 1 := ⟨fuel - 1, by omega⟩
    have J' := JX_k K (by decide) J
    have ei : i = nn f := by omega
    subst ei
    refine ⟨h', K, Or.inl ⟨p, by simp, by simp, V, fun c' q1 q2 => by simp at q1; omega, ?_, D⟩⟩
    simp only [fX1_canPlace, fX1_canPlace_body, fX1_canPlace_j14]
    rw [gI1 J'.1, Option.bind_some, J'.2.1.1, if_pos (by rw [le_nI (by omega) (by omega)]; omega)]
  | succ m ih =>
    intro i p fuel h' hi hf K D V
    obtain ⟨d, rfl⟩ : ∃ d, fuel = d + 1 := ⟨fuel - 1, by omega⟩
    have J' := JX_k K (by decide) J
    have e1 : p * k ^ (m + 1) = (p * k) * k ^ m := by rw [Nat.pow_succ, Nat.mul_comm (k ^ m) k, Nat.mul_assoc]
    have e2 : (p + 1) * k ^ (m + 1) = (p * k + k) * k ^ m := by rw [Nat.pow_succ, Nat.mul_comm (k ^ m) k, ← Nat.mul_assoc, Nat.add_mul, Nat.one_mul]
    have Kp : 0 < k ^ m := Nat.pow_pos k0
    have cd : ∀ t c, (p * k + t) * k ^ m ≤ c → c < (p * k + t + 1) * k ^ m → c / k ^ (nn f - (i + 1)) = p * k + t := fun t c q1 q2 => by
      rw [show nn f - (i + 1) = m by omega]
      exact Nat.div_eq_of_lt_le (by rw [Nat.mul_comm] at q1; rw [Nat.mul_comm]; exact q1) (by rw [Nat.mul_comm] at q2; rw [Nat.mul_comm]; exact q2)
    have lp : ∃ r, xloop (fX1_canPlace_b19 (fX1_canPlace d) 1 70 (nI i) (nI k)) 1000000 (0, h') = some r ∧ ((∃ h2, r = Sum.inl h2 ∧ KP [70] h h2 ∧ ∃ c, p * k ^ (m + 1) ≤ c ∧ c < (p + 1) * k ^ (m + 1) ∧ vl f (nn f) k c ∧ (∀ c', p * k ^ (m + 1) ≤ c' → c' < c → ¬ vl f (nn f) k c') ∧ ∀ j, j < nn f → h2.2.1 70 j = nI (dg k (nn f) c j)) ∨ (∃ h2, r = Sum.inr h2 ∧ KP [70] h h2 ∧ (∀ c, p * k ^ (m + 1) ≤ c → c < (p + 1) * k ^ (m + 1) → ¬ vl f (nn f) k c) ∧ ∀ j, j < i → h2.2.1 70 j = nI (dg k i p j))) := by
      refine xloop_i (body := fX1_canPlace_b19 (fX1_canPlace d) 1 70 (nI i) (nI k)) (fun t st => st.1 = nI t ∧ KP [70] h st.2 ∧ (∀ j, j < i → st.2.2.1 70 j = nI (dg k i p j)) ∧ ∀ c, p * k ^ (m + 1) ≤ c → c < (p * k + t) * k ^ m → ¬ vl f (nn f) k c) (fun r => (∃ h2, r = Sum.inl h2 ∧ KP [70] h h2 ∧ ∃ c, p * k ^ (m + 1) ≤ c ∧ c < (p + 1) * k ^ (m + 1) ∧ vl f (nn f) k c ∧ (∀ c', p * k ^ (m + 1) ≤ c' → c' < c → ¬ vl f (nn f) k c') ∧ ∀ j, j < nn f → h2.2.1 70 j = nI (dg k (nn f) c j)) ∨ (∃ h2, r = Sum.inr h2 ∧ KP [70] h h2 ∧ (∀ c, p * k ^ (m + 1) ≤ c → c < (p + 1) * k ^ (m + 1) → ¬ vl f (nn f) k c) ∧ ∀ j, j < i → h2.2.1 70 j = nI (dg k i p j))) k (by omega) ?_ ?_ ⟨rfl, K, D, fun c q1 q2 => by rw [e1] at q1; rw [Nat.add_zero] at q2; omega⟩
      · intro t st ht ⟨a1, aK, aD, aN⟩
        have Jt := JX_k aK (by decide) J
        have ca := calm_e (h := st.2) (t := nI t) Jt (show i < nn f by omega)
        have hi' : ∀ c, (p * k + t) * k ^ m ≤ c → c < (p * k + t + 1) * k ^ m → (∀ j, j < i → dg k (nn f) c j = dg k i p j) ∧ dg k (nn f) c i = t := fun c q1 q2 => ⟨fun j hj => (dg_up (cd t c q1 q2) (by omega) (by omega)).trans (dg_child ht hj), (dg_up (cd t c q1 q2) (by omega) (by omega)).trans (dg_last ht)⟩
        have lo : p * k ^ (m + 1) ≤ (p * k + t) * k ^ m := by rw [e1]; exact Nat.mul_le_mul_right _ (by omega)
        have hiB : (p * k + t + 1) * k ^ m ≤ (p + 1) * k ^ (m + 1) := by rw [e2]; exact Nat.mul_le_mul_right _ (by omega)
        by_cases z : allB (cmB f (st.2.2.1 70) i (nI t)) i = true
        · have zz := (allB_spec i).mp z
          have calm : ∀ o, o < i → ¬ (dg k i p o = t ∧ bt1 (f (47 + i)) o = 1) := by
            intro o ho q
            have := zz o ho
            simp only [cmB, decide_eq_true_eq] at this
            exact this ⟨by rw [aD o ho, q.1], q.2⟩
          have K2 : KP [70] h (sF st.2 70 (upd (st.2.2.1 70) i (nI t))) := KP_F aK (by decide) _
          obtain ⟨h3, K3, R3⟩ := ih (i + 1) (p * k + t) d (sF st.2 70 (upd (st.2.2.1 70) i (nI t))) (by omega) (by omega) K2 (by
            intro j hj
            rw [sF_eq, upd_e]
            by_cases y : j = i
            · rw [if_pos y, y, dg_last ht]
            · rw [if_neg y, dg_child ht (by omega)]; exact aD j (by omega)) (by
            intro a ha o ho q
            by_cases y : a = i
            · subst y
              rw [dg_last ht, dg_child ht ho] at q
              exact calm o ho q
            · rw [dg_child ht (show a < i by omega), dg_child ht (show o < i by omega)] at q
              exact V a (by omega) o ho q)
          have hd : ∀ r, fX1_canPlace d 1 70 (nI (i + 1)) (nI k) (sF st.2 70 (upd (st.2.2.1 70) i (nI t))) = some (r, h3) → fX1_canPlace_b19 (fX1_canPlace d) 1 70 (nI i) (nI k) st = if r = 0 then some (Sum.inl (nI (t + 1), h3)) else some (Sum.inr (Sum.inl h3)) := by
            intro r hr
            simp only [fX1_canPlace_b19, fX1_canPlace_j58]
            rw [a1, if_neg (by rw [le_nI (by omega) (by omega)]; omega), ca, Option.bind_some, if_pos z, if_neg (by decide), sN70 Jt.1 (by omega), Option.bind_some, nI_1, hr, Option.bind_some, nI_1]
          rcases R3 with ⟨c, c1, c2, c3, c4, c5, c6⟩ | ⟨n1, n2, n3⟩
          · right
            refine ⟨_, (hd 1 c5).trans (if_neg (by decide)), Or.inl ⟨h3, rfl, K3, c, by omega, by omega, c3, fun c' q1 q2 => ?_, c6⟩⟩
            by_cases y : c' < (p * k + t) * k ^ m
            · exact aN c' q1 y
            · exact c4 c' (by omega) q2
          · left
            refine ⟨_, (hd 0 n2).trans (if_pos rfl), rfl, K3, fun j hj => by rw [n3 j (by omega), dg_child ht hj], fun c q1 q2 => ?_⟩
            by_cases y : c < (p * k + t) * k ^ m
            · exact aN c q1 y
            · exact n1 c (by omega) (by rw [Nat.add_assoc]; exact q2)
        · left
          refine ⟨(nI (t + 1), st.2), ?_, rfl, aK, aD, fun c q1 q2 => ?_⟩
          · simp only [fX1_canPlace_b19, fX1_canPlace_j58]
            rw [a1, if_neg (by rw [le_nI (by omega) (by omega)]; omega), ca, Option.bind_some, if_neg z, if_pos rfl, nI_1]
          · by_cases y : c < (p * k + t) * k ^ m
            · exact aN c q1 y
            · intro vv
              obtain ⟨y1, y2⟩ := hi' c (by omega) (by rw [Nat.add_assoc]; exact q2)
              apply z
              rw [allB_spec]
              intro o ho
              simp only [cmB, decide_eq_true_eq]
              intro w
              rw [aD o ho] at w
              have l1 := dg_lt (k := k) (L := i) (p := p) (j := o) k0
              refine vv i (by omega) o ho ⟨?_, w.2⟩
              rw [y1 o ho, y2]
              exact (nI_eq (by omega) (by omega)).mp w.1
      · intro st ⟨a1, aK, aD, aN⟩
        refine ⟨Sum.inr st.2, ?_, Or.inr ⟨st.2, rfl, aK, fun c q1 q2 => aN c q1 (by rw [← e2]; exact q2), aD⟩⟩
        simp only [fX1_canPlace_b19]
        rw [a1, if_pos (by rw [le_nI (by omega) (by omega)]; omega)]
    obtain ⟨r, er, hr⟩ := lp
    rcases hr with ⟨h2, rfl, K2, c, c1, c2, c3, c4, c5⟩ | ⟨h2, rfl, K2, n1, n2⟩
    · refine ⟨h2, K2, Or.inl ⟨c, c1, c2, c3, c4, ?_, c5⟩⟩
      simp only [fX1_canPlace, fX1_canPlace_body]
      rw [gI1 J'.1, Option.bind_some, J'.2.1.1, if_neg (by rw [le_nI (by omega) (by omega)]; omega), if_pos (lt7 (by omega)), er, Option.bind_some]
    · refine ⟨h2, K2, Or.inr ⟨n1, ?_, n2⟩⟩
      simp only [fX1_canPlace, fX1_canPlace_body]
      rw [gI1 J'.1, Option.bind_some, J'.2.1.1, if_neg (by rw [le_nI (by omega) (by omega)]; omega), if_pos (lt7 (by omega)), er, Option.bind_some]
theorem fullP_e {f : Nat → Int32} (J : JX h f) (Q : ∀ a, a < nn f → ∀ o, o < a → bt1 (f (47 + a)) o = 1) : ∀ (m i fuel : Nat) (h' : Hp), i + m = nn f → m < fuel → KP [70] h h' → (∀ j, j < i → h'.2.1 70 j = nI j) → ∃ h2, KP [70] h h2 ∧ fX1_canPlace fuel 1 70 (nI i) (nI (nn f)) h' = some (1, h2) ∧ ∀ j, j < nn f → h2.2.1 70 j = nI j := by
  have n7 := (n_eq J.2.2.1).2.1
  intro m
  induction m with
  | zero =>
    intro i fuel h' hi hf K D
    obtain ⟨d, rfl⟩ : ∃ d, fuel = d + 1 := ⟨fuel - 1, by omega⟩
    have J' := JX_k K (by decide) J
    have ei : i = nn f := by omega
    subst ei
    refine ⟨h', K, ?_, D⟩
    simp only [fX1_canPlace, fX1_canPlace_body, fX1_canPlace_j14]
    rw [gI1 J'.1, Option.bind_some, J'.2.1.1, if_pos (by rw [le_nI (by omega) (by omega)]; omega)]
  | succ m ih =>
    intro i fuel h' hi hf K D
    obtain ⟨d, rfl⟩ : ∃ d, fuel = d + 1 := ⟨fuel - 1, by omega⟩
    have J' := JX_k K (by decide) J
    have K2 : KP [70] h (sF h' 70 (upd (h'.2.1 70) i (nI i))) := KP_F K (by decide) _
    obtain ⟨h3, K3, e3, D3⟩ := ih (i + 1) d (sF h' 70 (upd (h'.2.1 70) i (nI i))) (by omega) (by omega) K2 (by
      intro j hj
      rw [sF_eq, upd_e]
      by_cases y : j = i
      · rw [if_pos y, y]
      · rw [if_neg y]; exact D j (by omega))
    have ca := fun t => calm_e (h := h') (i := i) (t := nI t) J' (by omega)
    have lp : ∃ r, xloop (fX1_canPlace_b19 (fX1_canPlace d) 1 70 (nI i) (nI (nn f))) 1000000 (0, h') = some r ∧ r = Sum.inl h3 := by
      refine xloop_i (body := fX1_canPlace_b19 (fX1_canPlace d) 1 70 (nI i) (nI (nn f))) (fun t st => st.1 = nI t ∧ st.2 = h') (fun r => r = Sum.inl h3) i (by omega) ?_ ?_ ⟨rfl, rfl⟩
      · intro t st ht ⟨a1, a2⟩
        left
        refine ⟨(nI (t + 1), h'), ?_, rfl, rfl⟩
        have z : ¬ allB (cmB f (h'.2.1 70) i (nI t)) i = true := by
          rw [allB_no (q := t) (by simp [cmB, D t ht, Q i (by omega) t ht]) _ ht]; decide
        simp only [fX1_canPlace_b19, fX1_canPlace_j58]
        rw [a1, a2, if_neg (by rw [le_nI (by omega) (by omega)]; omega), ca t, Option.bind_some, if_neg z, if_pos rfl, nI_1]
      · intro st ⟨a1, a2⟩
        refine ⟨_, ?_, rfl⟩
        have z : allB (cmB f (h'.2.1 70) i (nI i)) i = true := by
          rw [allB_spec]
          intro o ho
          simp only [cmB, decide_eq_true_eq]
          intro w
          rw [D o ho, nI_eq (by omega) (by omega)] at w
          omega
        simp only [fX1_canPlace_b19]
        rw [a1, a2, if_neg (by rw [le_nI (by omega) (by omega)]; omega), ca i, Option.bind_some, if_pos z, if_neg (by decide), sN70 J'.1 (by omega), Option.bind_some, nI_1, e3, Option.bind_some]
        exact if_neg (show ¬ (1 : Int32) = 0 by decide)
    obtain ⟨r, er, rfl⟩ := lp
    refine ⟨h3, K3, ?_, D3⟩
    simp only [fX1_canPlace, fX1_canPlace_body]
    rw [gI1 J'.1, Option.bind_some, J'.2.1.1, if_neg (by rw [le_nI (by omega) (by omega)]; omega), if_pos (lt7 (by omega)), er, Option.bind_some]
end DECKS
