section DECKS3
variable {h : Hp}
theorem enc_e {k : Nat} (col : Nat → Nat) : ∀ n, (∀ i, i < n → col i < k) → ∃ c, c < k ^ n ∧ ∀ i, i < n → dg k n c i = col i
  | 0, _ => ⟨0, by simp, fun i hi => by omega⟩
  | n + 1, hc => by
    obtain ⟨c, c1, c2⟩ := enc_e col n (fun i hi => hc i (by omega))
    have l := hc n (by omega)
    refine ⟨c * k + col n, ?_, ?_⟩
    · rw [Nat.pow_succ]
      have : (c + 1) * k ≤ k ^ n * k := Nat.mul_le_mul_right _ (by omega)
      rw [Nat.add_mul] at this
      omega
    · intro i hi
      by_cases y : i = n
      · rw [y]; exact dg_last l
      · rw [dg_child l (by omega)]; exact c2 i (by omega)
def ex (f : Nat → Int32) (k : Nat) : Prop := ∃ c, c < k ^ nn f ∧ vl f (nn f) k c
theorem all_quarrel {f : Nat → Int32} (no : ∀ k, 1 ≤ k → k < nn f → ¬ ex f k) : ∀ a, a < nn f → ∀ o, o < a → bt1 (f (47 + a)) o = 1 := by
  intro x hx o ho
  apply Classical.byContradiction
  intro nq
  apply no (nn f - 1) (by omega) (by omega)
  obtain ⟨c, c1, c2⟩ := enc_e (k := nn f - 1) (fun i => if i < x then i else if i = x then o else i - 1) (nn f) (fun i hi => by
    split
    · omega
    · split
      · omega
      · omega)
  refine ⟨c, c1, ?_⟩
  intro a ha p hp ⟨q1, q2⟩
  rw [c2 a ha, c2 p (by omega)] at q1
  by_cases a1 : a < x
  · rw [if_pos (by omega), if_pos a1] at q1; omega
  · rw [if_neg a1] at q1
    by_cases a2 : a = x
    · rw [if_pos (by omega), if_pos a2] at q1
      subst a2 q1
      exact nq q2
    · rw [if_neg a2] at q1
      by_cases p1 : p < x
      · rw [if_pos p1] at q1; omega
      · rw [if_neg p1] at q1
        by_cases p2 : p = x
        · rw [if_pos p2] at q1; omega
        · rw [if_neg p2] at q1; omega
theorem zero_e {f : Nat → Int32} {h' : Hp} (J : JX h' f) (n1 : 1 ≤ nn f) : fX1_canPlace 10 1 70 0 0 h' = some (0, h') := by
  have n7 := (n_eq J.2.2.1).2.1
  have lp : xloop (fX1_canPlace_b19 (fX1_canPlace 9) 1 70 0 0) 1000000 (0, h') = some (Sum.inr h') := by
    refine xloop_c (fun t => (nI t, h')) _ 0 (by omega) (fun i hi => by omega) ?_ rfl
    simp only [fX1_canPlace_b19]
    rw [if_pos (by decide)]
  simp only [fX1_canPlace, fX1_canPlace_body]
  rw [gI1 J.1, Option.bind_some, J.2.1.1, if_neg (by rw [show (0 : Int32) = nI 0 from rfl, le_nI (by omega) (by omega)]; omega), if_pos (by decide)]
  rw [show (fX1_canPlace_body (fX1_canPlace_body (fX1_canPlace_body (fX1_canPlace_body (fX1_canPlace_body (fX1_canPlace_body (fX1_canPlace_body (fX1_canPlace_body (fX1_canPlace_body (fun _ _ _ _ _ => none)))))))))) = fX1_canPlace 9 from rfl, lp, Option.bind_some]
def LD (f : Nat → Int32) (k c : Nat) : Prop := c < k ^ nn f ∧ vl f (nn f) k c ∧ ∀ c', c' < c → ¬ vl f (nn f) k c'
theorem LD_u {f : Nat → Int32} {k c d : Nat} (a : LD f k c) (b : LD f k d) : c = d := by
  rcases Nat.lt_trichotomy c d with q | q | q
  · exact absurd a.2.1 (b.2.2 c q)
  · exact q
  · exact absurd b.2.1 (a.2.2 d q)
theorem place0 {f : Nat → Int32} {k : Nat} {h' : Hp} (J : JX h f) (k0 : 0 < k) (k7 : k ≤ 7) (K : KP [70] h h') : ∃ h2, KP [70] h h2 ∧ ((∃ c, LD f k c ∧ fX1_canPlace 10 1 70 0 (nI k) h' = some (1, h2) ∧ ∀ j, j < nn f → h2.2.1 70 j = nI (dg k (nn f) c j)) ∨ (¬ ex f k ∧ fX1_canPlace 10 1 70 0 (nI k) h' = some (0, h2))) := by
  have n7 := (n_eq J.2.2.1).2.1
  obtain ⟨h2, K2, R⟩ := place_e J k0 k7 (nn f) 0 0 10 h' (by omega) (by omega) K (fun j hj => by omega) (fun a ha => by omega)
  refine ⟨h2, K2, ?_⟩
  simp only [Nat.zero_mul, Nat.zero_add, Nat.one_mul] at R
  rcases R with ⟨c, -, c2, c3, c4, c5, c6⟩ | ⟨n1, n2, -⟩
  · exact Or.inl ⟨c, ⟨c2, c3, fun c' q => c4 c' (by omega) q⟩, c5, c6⟩
  · exact Or.inr ⟨fun ⟨c, q1, q2⟩ => n1 c (by omega) q1 q2, n2⟩
theorem fewest_c1 {f : Nat → Int32} {R : Nat} (J : JX h f) (n1 : 1 ≤ nn f) (R1 : 1 ≤ R) (R7 : R ≤ 7) (eR : ex f R) (no : ∀ k, 1 ≤ k → k < R → ¬ ex f k) : ∃ h' c, fX1_fewest 69 1 h = some (nI R, h') ∧ KP [70] h h' ∧ LD f R c ∧ ∀ j, j < nn f → h'.2.1 70 j = nI (dg R (nn f) c j) := by
  have lp : ∃ r, xloop (fX1_fewest_b2 69 1) 1000000 (0, h) = some r ∧ ∃ h' c, r = Sum.inl (nI R, h') ∧ KP [70] h h' ∧ LD f R c ∧ ∀ j, j < nn f → h'.2.1 70 j = nI (dg R (nn f) c j) := by
    refine xloop_i (body := fX1_fewest_b2 69 1) (fun t st => st.1 = nI t ∧ KP [70] h st.2) (fun r => ∃ h' c, r = Sum.inl (nI R, h') ∧ KP [70] h h' ∧ LD f R c ∧ ∀ j, j < nn f → h'.2.1 70 j = nI (dg R (nn f) c j)) R (by omega) ?_ ?_ ⟨rfl, KP_rfl _ h⟩
    · intro t st ht ⟨a1, aK⟩
      left
      have Jt := JX_k aK (by decide) J
      have pl : ∃ h2, KP [70] h h2 ∧ fX1_canPlace 10 1 70 0 (nI t) st.2 = some (0, h2) := by
        by_cases t0 : t = 0
        · subst t0; exact ⟨st.2, aK, zero_e Jt n1⟩
        · obtain ⟨h2, K2, R⟩ := place0 (k := t) J (by omega) (by omega) aK
          rcases R with ⟨c, c1, -⟩ | ⟨-, e⟩
          · exact absurd ⟨c, c1.1, c1.2.1⟩ (no t (by omega) ht)
          · exact ⟨h2, K2, e⟩
      obtain ⟨h2, K2, e⟩ := pl
      refine ⟨(nI (t + 1), h2), ?_, rfl, K2⟩
      simp only [fX1_fewest_b2]
      rw [a1, if_neg (by rw [show (7 : Int32) = nI 7 from rfl, nI_ltI (by omega) (by omega)]; omega), gR69_0 Jt.1, Option.bind_some, e, Option.bind_some, nI_1]
      exact if_pos rfl
    · intro st ⟨a1, aK⟩
      have Jt := JX_k aK (by decide) J
      obtain ⟨h2, K2, R3⟩ := place0 J (by omega) R7 aK
      rcases R3 with ⟨c, c1, e, c3⟩ | ⟨ne, -⟩
      · refine ⟨_, ?_, h2, c, rfl, K2, c1, c3⟩
        simp only [fX1_fewest_b2]
        rw [a1, if_neg (by rw [show (7 : Int32) = nI 7 from rfl, nI_ltI (by omega) (by omega)]; omega), gR69_0 Jt.1, Option.bind_some, e, Option.bind_some]
        exact if_neg (show ¬ (1 : Int32) = 0 by decide)
      · exact absurd eR ne
  obtain ⟨r, er, h', c, rfl, K, c1, c2⟩ := lp
  refine ⟨h', c, ?_, K, c1, c2⟩
  simp only [fX1_fewest]
  rw [er, Option.bind_some]
theorem fewest_c2 {f : Nat → Int32} (J : JX h f) (no : ∀ k, 1 ≤ k → k < nn f → ¬ ex f k) : ∃ h', fX1_fewest 69 1 h = some (nI (nn f), h') ∧ KP [70] h h' ∧ ∀ j, j < nn f → h'.2.1 70 j = nI j := by
  have n7 := (n_eq J.2.2.1).2.1
  have Q := all_quarrel no
  have lp : ∃ r, xloop (fX1_fewest_b2 69 1) 1000000 (0, h) = some r ∧ ∃ h', r = Sum.inl (nI (nn f), h') ∧ KP [70] h h' ∧ ∀ j, j < nn f → h'.2.1 70 j = nI j := by
    refine xloop_i (body := fX1_fewest_b2 69 1) (fun t st => st.1 = nI t ∧ KP [70] h st.2) (fun r => ∃ h', r = Sum.inl (nI (nn f), h') ∧ KP [70] h h' ∧ ∀ j, j < nn f → h'.2.1 70 j = nI j) (nn f) (by omega) ?_ ?_ ⟨rfl, KP_rfl _ h⟩
    · intro t st ht ⟨a1, aK⟩
      left
      have Jt := JX_k aK (by decide) J
      have pl : ∃ h2, KP [70] h h2 ∧ fX1_canPlace 10 1 70 0 (nI t) st.2 = some (0, h2) := by
        by_cases t0 : t = 0
        · subst t0; exact ⟨st.2, aK, zero_e Jt (by omega)⟩
        · obtain ⟨h2, K2, R⟩ := place0 (k := t) J (by omega) (by omega) aK
          rcases R with ⟨c, c1, -⟩ | ⟨-, e⟩
          · exact absurd ⟨c, c1.1, c1.2.1⟩ (no t (by omega) ht)
          · exact ⟨h2, K2, e⟩
      obtain ⟨h2, K2, e⟩ := pl
      refine ⟨(nI (t + 1), h2), ?_, rfl, K2⟩
      simp only [fX1_fewest_b2]
      rw [a1, if_neg (by rw [show (7 : Int32) = nI 7 from rfl, nI_ltI (by omega) (by omega)]; omega), gR69_0 Jt.1, Option.bind_some, e, Option.bind_some, nI_1]
      exact if_pos rfl
    · intro st ⟨a1, aK⟩
      have Jt := JX_k aK (by decide) J
      obtain ⟨h2, K2, e, c3⟩ := fullP_e J Q (nn f) 0 10 st.2 (by omega) (by omega) aK (fun j hj => by omega)
      refine ⟨_, ?_, h2, rfl, K2, c3⟩
      simp only [fX1_fewest_b2]
      rw [a1, if_neg (by rw [show (7 : Int32) = nI 7 from rfl, nI_ltI (by omega) (by omega)]; omega), gR69_0 Jt.1, Option.bind_some, show (0 : Int32) = nI 0 from rfl, e, Option.bind_some]
      exact if_neg (show ¬ (1 : Int32) = 0 by decide)
  obtain ⟨r, er, h', rfl, K, c2⟩ := lp
  refine ⟨h', ?_, K, c2⟩
  simp only [fX1_fewest]
  rw [er, Option.bind_some]
theorem one_m {f : Nat → Int32} {k : Nat} (M : MX h f) (k0 : 0 < k) (kn : k < nn f) : ∃ h2, KP [105] h h2 ∧ ((∃ c, LD f k c ∧ fX9_fewestDecks_b2 99 (nI k, h) = some (Sum.inr (Sum.inl (nI k, h2))) ∧ ∀ j, j < nn f → h2.2.1 105 j = nI (dg k (nn f) c j)) ∨ (¬ ex f k ∧ fX9_fewestDecks_b2 99 (nI k, h) = some (Sum.inl (nI (k + 1), h2)))) := by
  have W := M.2.1
  have n7 := (n_eq W).2.1
  have e0 : ∀ h', MX h' f → h'.2.1 100 0 = nI (nn f) := fun h' m => by rw [m.2.2]; exact (n_eq W).1
  have pl := pw_lt (n := nn f) (k := k) (by omega) n7
  have l1 : xloop (fX9_fewestDecks_b14 99 (nI k) h) 1000000 (1, 0) = some (99, nI k, nI (k ^ nn f)) := by
    refine xloop_c (fun i => (nI (k ^ i), nI i)) _ (nn f) (by omega) ?_ ?_ rfl
    · intro i hi
      simp only [fX9_fewestDecks_b14]
      rw [many_at M.1 (e0 _ M), Option.bind_some, if_neg (by rw [le_nI (by omega) (by omega)]; omega), pk_mul, nI_1, Nat.pow_succ]
    · simp only [fX9_fewestDecks_b14]
      rw [many_at M.1 (e0 _ M), Option.bind_some, if_pos (by rw [le_nI (by omega) (by omega)]; omega)]
  have l2 : ∃ r, xloop (fX9_fewestDecks_b34 99 (nI k) (nI (k ^ nn f))) 1000000 (0, h) = some r ∧ ((∃ h2 c, r = Sum.inl (nI k, h2) ∧ KP [105] h h2 ∧ LD f k c ∧ ∀ j, j < nn f → h2.2.1 105 j = nI (dg k (nn f) c j)) ∨ (∃ h2, r = Sum.inr (99, nI k, h2) ∧ KP [105] h h2 ∧ ¬ ex f k)) := by
    refine xloop_i (body := fX9_fewestDecks_b34 99 (nI k) (nI (k ^ nn f))) (fun c st => st.1 = nI c ∧ KP [105] h st.2 ∧ ∀ c', c' < c → ¬ vl f (nn f) k c') (fun r => (∃ h2 c, r = Sum.inl (nI k, h2) ∧ KP [105] h h2 ∧ LD f k c ∧ ∀ j, j < nn f → h2.2.1 105 j = nI (dg k (nn f) c j)) ∨ (∃ h2, r = Sum.inr (99, nI k, h2) ∧ KP [105] h h2 ∧ ¬ ex f k)) (k ^ nn f) (by omega) ?_ ?_ ⟨rfl, KP_rfl _ h, fun c' q => by omega⟩
    · intro c st hc ⟨a1, aK, aN⟩
      have Mt := MX_k aK (by decide) M
      obtain ⟨h2, e, K2, D2⟩ := layD_e (c := c) Mt k0 (by omega) (by omega)
      have K3 := KP_t aK K2 (fun _ z => z) (fun _ z => z) (U := [105])
      have hd : fX9_fewestDecks_b34 99 (nI k) (nI (k ^ nn f)) st = if (if avB f (nn f) k c (nn f) = true then (1 : Int32) else 0) = 0 then some (Sum.inl (nI (c + 1), h2)) else some (Sum.inr (Sum.inl (nI k, h2))) := by
        simp only [fX9_fewestDecks_b34]
        rw [a1, if_neg (by rw [le_nI (by omega) (by omega)]; omega), gT99 Mt.1, e, Option.bind_some, nI_1]
      by_cases z : avB f (nn f) k c (nn f) = true
      · right
        rw [if_pos z, if_neg (by decide)] at hd
        exact ⟨_, hd, Or.inl ⟨h2, c, rfl, K3, ⟨hc, (avB_vl W k c).mp z, aN⟩, D2⟩⟩
      · left
        rw [if_neg z, if_pos rfl] at hd
        refine ⟨_, hd, rfl, K3, fun c' q => ?_⟩
        by_cases y : c' = c
        · rw [y]; exact fun w => z ((avB_vl W k c).mpr w)
        · exact aN c' (by omega)
    · intro st ⟨a1, aK, aN⟩
      refine ⟨_, ?_, Or.inr ⟨st.2, rfl, aK, fun ⟨c, q1, q2⟩ => aN c q1 q2⟩⟩
      simp only [fX9_fewestDecks_b34]
      rw [a1, if_pos (by rw [le_nI (by omega) (by omega)]; omega)]
  obtain ⟨r, er, hr⟩ := l2
  rcases hr with ⟨h2, c, rfl, K2, c1, c2⟩ | ⟨h2, rfl, K2, ne⟩
  · refine ⟨h2, K2, Or.inl ⟨c, c1, ?_, c2⟩⟩
    simp only [fX9_fewestDecks_b2]
    rw [many_at M.1 (e0 _ M), Option.bind_some, if_neg (by rw [le_nI (by omega) (by omega)]; omega), l1, Option.bind_some]
    simp only []
    rw [er, Option.bind_some]
  · refine ⟨h2, K2, Or.inr ⟨ne, ?_⟩⟩
    simp only [fX9_fewestDecks_b2]
    rw [many_at M.1 (e0 _ M), Option.bind_some, if_neg (by rw [le_nI (by omega) (by omega)]; omega), l1, Option.bind_some]
    simp only []
    rw [er, Option.bind_some, ← nI_1]
theorem fewest_m1 {f : Nat → Int32} {R : Nat} (M : MX h f) (R1 : 1 ≤ R) (Rn : R < nn f) (eR : ex f R) (no : ∀ k, 1 ≤ k → k < R → ¬ ex f k) : ∃ h' c, fX9_fewestDecks 99 h = some (nI R, h') ∧ KP [105] h h' ∧ LD f R c ∧ ∀ j, j < nn f → h'.2.1 105 j = nI (dg R (nn f) c j) := by
  have n7 := (n_eq M.2.1).2.1
  have lp : ∃ r, xloop (fX9_fewestDecks_b2 99) 1000000 (1, h) = some r ∧ ∃ h' c, r = Sum.inl (nI R, h') ∧ KP [105] h h' ∧ LD f R c ∧ ∀ j, j < nn f → h'.2.1 105 j = nI (dg R (nn f) c j) := by
    refine xloop_i (body := fX9_fewestDecks_b2 99) (fun s st => st.1 = nI (s + 1) ∧ KP [105] h st.2) (fun r => ∃ h' c, r = Sum.inl (nI R, h') ∧ KP [105] h h' ∧ LD f R c ∧ ∀ j, j < nn f → h'.2.1 105 j = nI (dg R (nn f) c j)) (R - 1) (by omega) ?_ ?_ ⟨rfl, KP_rfl _ h⟩
    · intro s st hs ⟨a1, aK⟩
      left
      have Mt := MX_k aK (by decide) M
      obtain ⟨h2, K2, Z⟩ := one_m (k := s + 1) Mt (by omega) (by omega)
      rcases Z with ⟨c, c1, -⟩ | ⟨-, e⟩
      · exact absurd ⟨c, c1.1, c1.2.1⟩ (no (s + 1) (by omega) (by omega))
      · exact ⟨_, by rw [← e, ← a1], rfl, KP_t aK K2 (fun _ z => z) (fun _ z => z)⟩
    · intro st ⟨a1, aK⟩
      rw [show R - 1 + 1 = R by omega] at a1
      have Mt := MX_k aK (by decide) M
      obtain ⟨h2, K2, Z⟩ := one_m (k := R) Mt (by omega) Rn
      rcases Z with ⟨c, c1, e, c3⟩ | ⟨ne, -⟩
      · exact ⟨_, by rw [← e, ← a1], h2, c, rfl, KP_t aK K2 (fun _ z => z) (fun _ z => z), c1, c3⟩
      · exact absurd eR ne
  obtain ⟨r, er, h', c, rfl, K, c1, c2⟩ := lp
  refine ⟨h', c, ?_, K, c1, c2⟩
  simp only [fX9_fewestDecks]
  rw [er, Option.bind_some]
theorem fewest_m2 {f : Nat → Int32} (M : MX h f) (no : ∀ k, 1 ≤ k → k < nn f → ¬ ex f k) : ∃ h', fX9_fewestDecks 99 h = some (nI (nn f), h') ∧ KP [105] h h' ∧ ∀ j, j < nn f → h'.2.1 105 j = nI j := by
  have W := M.2.1
  have n7 := (n_eq W).2.1
  have e0 : ∀ h', MX h' f → h'.2.1 100 0 = nI (nn f) := fun h' m => by rw [m.2.2]; exact (n_eq W).1
  have lp : ∃ r, xloop (fX9_fewestDecks_b2 99) 1000000 (1, h) = some r ∧ ∃ h', r = Sum.inr (99, h') ∧ KP [105] h h' := by
    refine xloop_i (body := fX9_fewestDecks_b2 99) (fun s st => st.1 = nI (s + 1) ∧ KP [105] h st.2) (fun r => ∃ h', r = Sum.inr (99, h') ∧ KP [105] h h') (nn f - 1) (by omega) ?_ ?_ ⟨rfl, KP_rfl _ h⟩
    · intro s st hs ⟨a1, aK⟩
      left
      have Mt := MX_k aK (by decide) M
      obtain ⟨h2, K2, Z⟩ := one_m (k := s + 1) Mt (by omega) (by omega)
      rcases Z with ⟨c, c1, -⟩ | ⟨-, e⟩
      · exact absurd ⟨c, c1.1, c1.2.1⟩ (no (s + 1) (by omega) (by omega))
      · exact ⟨_, by rw [← e, ← a1], rfl, KP_t aK K2 (fun _ z => z) (fun _ z => z)⟩
    · intro st ⟨a1, aK⟩
      have Mt := MX_k aK (by decide) M
      refine ⟨_, ?_, st.2, rfl, aK⟩
      simp only [fX9_fewestDecks_b2]
      rw [many_at Mt.1 (e0 _ Mt), Option.bind_some, a1, if_pos (by rw [le_nI (by omega) (by omega)]; omega)]
  obtain ⟨r, er, h1, rfl, K1⟩ := lp
  have l2 : ∃ r, xloop (fX9_fewestDecks_b64 99) 1000000 (0, h1) = some r ∧ r.1 = 99 ∧ KP [105] h r.2 ∧ ∀ j, j < nn f → r.2.2.1 105 j = nI j := by
    refine xloop_i (body := fX9_fewestDecks_b64 99) (fun i st => st.1 = nI i ∧ KP [105] h st.2 ∧ ∀ j, j < i → st.2.2.1 105 j = nI j) (fun r => r.1 = 99 ∧ KP [105] h r.2 ∧ ∀ j, j < nn f → r.2.2.1 105 j = nI j) (nn f) (by omega) ?_ ?_ ⟨rfl, K1, fun j hj => by omega⟩
    · intro i st hi ⟨a1, aK, aD⟩
      left
      have Mt := MX_k aK (by decide) M
      refine ⟨(nI (i + 1), sF st.2 105 (upd (st.2.2.1 105) i (nI i))), ?_, rfl, KP_F aK (by decide) _, ?_⟩
      · simp only [fX9_fewestDecks_b64]
        rw [many_at Mt.1 (e0 _ Mt), Option.bind_some, a1, if_neg (by rw [le_nI (by omega) (by omega)]; omega), gR99_7 Mt.1, Option.bind_some, sN105 Mt.1 (by omega), Option.bind_some, nI_1]
      · intro j hj
        rw [sF_eq, upd_e]
        by_cases y : j = i
        · rw [if_pos y, y]
        · rw [if_neg y]; exact aD j (by omega)
    · intro st ⟨a1, aK, aD⟩
      have Mt := MX_k aK (by decide) M
      refine ⟨(99, st.2), ?_, rfl, aK, aD⟩
      simp only [fX9_fewestDecks_b64]
      rw [many_at Mt.1 (e0 _ Mt), Option.bind_some, a1, if_pos (by rw [le_nI (by omega) (by omega)]; omega)]
  obtain ⟨r2, er2, r1, rK, rD⟩ := l2
  have Mr := MX_k rK (by decide) M
  refine ⟨r2.2, ?_, rK, rD⟩
  simp only [fX9_fewestDecks]
  rw [er, Option.bind_some]
  simp only []
  rw [er2, Option.bind_some, r1, many_at Mr.1 (e0 _ Mr), Option.bind_some]
theorem decks_both {f : Nat → Int32} (J : JX h f) : ∃ (R : Nat) (D : Nat → Nat) (h1 : Hp), fX1_fewest 69 1 h = some (nI R, h1) ∧ KP [70] h h1 ∧ (∀ j, j < nn f → h1.2.1 70 j = nI (D j)) ∧ ∀ hm, MX hm f → ∃ h2, fX9_fewestDecks 99 hm = some (nI R, h2) ∧ KP [105] hm h2 ∧ ∀ j, j < nn f → h2.2.1 105 j = nI (D j) := by
  have n7 := (n_eq J.2.2.1).2.1
  by_cases E : ∃ k, 1 ≤ k ∧ k < nn f ∧ ex f k
  · obtain ⟨R, ⟨R1, R2, R3⟩, R4⟩ := pk_least (fun k => 1 ≤ k ∧ k < nn f ∧ ex f k) E
    have no : ∀ k, 1 ≤ k → k < R → ¬ ex f k := fun k q1 q2 q3 => R4 k q2 ⟨q1, by omega, q3⟩
    obtain ⟨h1, c, e1, K1, L1, D1⟩ := fewest_c1 J (by omega) R1 (by omega) R3 no
    refine ⟨R, fun j => dg R (nn f) c j, h1, e1, K1, D1, fun hm M => ?_⟩
    obtain ⟨h2, c', e2, K2, L2, D2⟩ := fewest_m1 M R1 R2 R3 no
    rw [LD_u L2 L1] at D2
    exact ⟨h2, e2, K2, D2⟩
  · have no : ∀ k, 1 ≤ k → k < nn f → ¬ ex f k := fun k q1 q2 q3 => E ⟨k, q1, q2, q3⟩
    obtain ⟨h1, e1, K1, D1⟩ := fewest_c2 J no
    refine ⟨nn f, fun j => j, h1, e1, K1, D1, fun hm M => ?_⟩
    exact fewest_m2 M no
theorem op_decks (H : Inv h) (v : Int32) : Op (fX8_decks 0 v h) (fX9_decks 99 v) := by
  have g := H.1
  have W := H.2.2.1
  have n7 := (n_eq W).2.1
  have n1 := (n_eq W).2.2
  have e0 : ∀ h' : Hp, h'.2.1 100 = h.2.1 100 → h'.2.1 100 0 = nI (nn (h.2.1 100)) := fun h' e => by rw [e]; exact (n_eq W).1
  have m1 : ((nI (nn (h.2.1 100)) - 1) : Int32).toInt = (nn (h.2.1 100) : Int) - 1 := by rw [← (n_eq W).1]; exact n1
  have tm : ((-1 : Int64)).toInt = -1 := by decide
  by_cases q1 : ¬ (-1 ≤ v.toInt ∧ v.toInt ≤ (nn (h.2.1 100) : Int) - 1)
  · have vm : ¬ v = -1 := fun z => q1 (by rw [z, show ((-1 : Int32)).toInt = -1 by decide]; omega)
    refine Op_bad H (-10) 0 (by omega) ?_ ?_
    · simp only [fX8_decks]
      rw [if_neg vm, gR0_0 g, Option.bind_some, gT1 g, has_1 H, Option.bind_some, inb_no (by omega), if_pos rfl, gT0 g, refuseOther_e g, Option.bind_some]
    · intro h1 g e
      simp only [fX9_decks]
      rw [many_at g (e0 h1 (e 100 (by decide))), Option.bind_some, in_e, Option.bind_some, i64_i, i64_i, m1, tm, inb_no q1, if_pos rfl, gT99 g, bad_e g, Option.bind_some]
  replace q1 := Classical.not_not.mp q1
  have i1 := inb_ok q1
  obtain ⟨R, D, h1, e1, K1, D1, mm⟩ := decks_both (JX_of H)
  have g1 := KP_GH g K1
  have M1 : MX h1 (h.2.1 100) := ⟨g1, W, K1.2.2 100 (by decide)⟩
  obtain ⟨h2, e2, K2, D2⟩ := mm h1 M1
  have g2 := KP_GH g1 K2
  have I2 : Inv h2 := KP_Inv H (KP_t K1 K2 (U := [70, 105]) (by decide) (by decide)) (by decide)
  by_cases vm : v = -1
  · refine ⟨nI R, h1, h2, ?_, g1, ?_, I2⟩
    · simp only [fX8_decks, fX8_decks_j21, fX8_decks_j51]
      rw [if_pos vm, gR0_4 g, Option.bind_some, gR0_0 g, Option.bind_some, gT69 g, e1, Option.bind_some, if_pos vm]
    · simp only [fX9_decks, fX9_decks_j45]
      rw [many_at g1 (e0 h1 M1.2.2), Option.bind_some, in_e, Option.bind_some, i64_i, i64_i, m1, tm, i1, if_neg (by decide), gT99 g1, e2, Option.bind_some, if_pos vm]
  · have v0 : 0 ≤ v.toInt := by
      have : v.toInt ≠ -1 := fun z => vm (by rw [fa_eq, z]; decide)
      omega
    obtain ⟨i, hi, rfl⟩ := i32_nI (n := nn (h.2.1 100)) (v := v) (by omega)
    have i2 : inb (nI i).toInt 0 ((nn (h.2.1 100) : Int) - 1) = 1 := inb_ok ⟨v0, q1.2⟩
    refine ⟨nI (D i), h1, h2, ?_, g1, ?_, I2⟩
    · simp only [fX8_decks, fX8_decks_j21, fX8_decks_j51]
      rw [if_neg vm, gR0_0 g, Option.bind_some, gT1 g, has_1 H, Option.bind_some, i2, if_neg (by decide), gR0_4 g, Option.bind_some, Option.bind_some, gT69 g, e1, Option.bind_some, if_neg vm, gR0_4 g1, Option.bind_some, gR69_0 g1, Option.bind_some, aN70 g1 (by omega), Option.bind_some, D1 i hi]
    · simp only [fX9_decks, fX9_decks_j45]
      rw [many_at g1 (e0 h1 M1.2.2), Option.bind_some, in_e, Option.bind_some, i64_i, i64_i, m1, tm, i1, if_neg (by decide), gT99 g1, e2, Option.bind_some, if_neg vm, gR99_7 g2, Option.bind_some, aN105 g2 (by omega), Option.bind_some, D2 i hi]
end DECKS3
