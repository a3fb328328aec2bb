section DECKS2
variable {h : Hp}
def pvB (f : Nat → Int32) (n k c i o : Nat) : Bool := decide (¬ (dg k n c o = dg k n c i ∧ bt1 (f (47 + i)) o = 1))
def avB (f : Nat → Int32) (n k c : Nat) (s : Nat) : Bool := allB (fun s => allB (fun q => pvB f n k c (n - 1 - s) (n - s + q)) s) s
theorem avB_vl {f : Nat → Int32} (W : WF f) (k c : Nat) : avB f (nn f) k c (nn f) = true ↔ vl f (nn f) k c := by
  have sy := W.2.2.2.1
  unfold avB vl
  rw [allB_spec]
  constructor
  · intro H a ha o ho q
    have := H (nn f - 1 - o) (by omega)
    rw [allB_spec] at this
    have := this (a - (o + 1)) (by omega)
    rw [show nn f - 1 - (nn f - 1 - o) = o by omega, show nn f - (nn f - 1 - o) + (a - (o + 1)) = a by omega] at this
    simp only [pvB, decide_eq_true_eq] at this
    exact this ⟨q.1.symm, by rw [sy o a (by omega) ha]; exact q.2⟩
  · intro H s hs
    rw [allB_spec]
    intro q hq
    simp only [pvB, decide_eq_true_eq]
    intro w
    exact H (nn f - s + q) (by omega) (nn f - 1 - s) (by omega) ⟨w.1.symm, by rw [sy (nn f - s + q) (nn f - 1 - s) (by omega) (by omega)]; exact w.2⟩
theorem pw_lt {n k : Nat} (hk : k < 7) (hn : n ≤ 7) : k ^ n ≤ 279936 := by
  have h1 : k ^ n ≤ 6 ^ n := Nat.pow_le_pow_left (by omega) n
  have h2 : 6 ^ n ≤ 6 ^ 7 := Nat.pow_le_pow_right (by omega) hn
  have h3 : 6 ^ 7 = 279936 := by decide
  omega
theorem layD_e {f : Nat → Int32} {k c : Nat} (M : MX h f) (k0 : 0 < k) (k7 : k < 7) (hc : c < 1000000) : ∃ h', fX9_layDecks 99 (nI c) (nI k) h = some (if avB f (nn f) k c (nn f) = true then 1 else 0, h') ∧ KP [105] h h' ∧ ∀ j, j < nn f → h'.2.1 105 j = nI (dg k (nn f) c j) := by
  have W := M.2.1
  have n7 := (n_eq W).2.1
  have e0 : ∀ h', MX h' f → h'.2.1 100 0 = nI (nn f) := fun h' m => by rw [m.2.2]; exact (n_eq W).1
  have dl : ∀ j, dg k (nn f) c j < k := fun j => dg_lt k0
  generalize hn : nn f = n at *
  have kn : ¬ nI k = 0 := nI_ne0 k0 (by omega)
  have lp : ∃ r, xloop (fX9_layDecks_b13 99 (nI k)) 1000000 (nI c, 1, nI n - 1, h) = some r ∧ r.1 = (if avB f n k c n = true then 1 else 0) ∧ KP [105] h r.2 ∧ ∀ j, j < n → r.2.2.1 105 j = nI (dg k n c j) := by
    refine xloop_i (body := fX9_layDecks_b13 99 (nI k)) (fun s st => st.1 = nI (c / k ^ s) ∧ st.2.1 = (if avB f n k c s = true then 1 else 0) ∧ st.2.2.1 = nI (n - s) - 1 ∧ KP [105] h st.2.2.2 ∧ ∀ j, n - s ≤ j → j < n → st.2.2.2.2.1 105 j = nI (dg k n c j)) (fun r => r.1 = (if avB f n k c n = true then 1 else 0) ∧ KP [105] h r.2 ∧ ∀ j, j < n → r.2.2.1 105 j = nI (dg k n c j)) n (by omega) ?_ ?_ ⟨by simp, by simp [avB, allB], by simp, KP_rfl _ h, fun j q1 q2 => by omega⟩
    · intro s st hs ⟨a1, a2, a3, aK, aD⟩
      left
      have Mt := MX_k aK (by decide) M
      have cs : c / k ^ s < 2 ^ 31 := by have := Nat.div_le_self c (k ^ s); omega
      have i1 : nI (n - s) - 1 = nI (n - 1 - s) := by rw [show n - s = (n - 1 - s) + 1 by omega]; exact nI_pred _
      have dd : nI (c / k ^ s) - nI (c / k ^ s) / nI k * nI k = nI (dg k n c (n - 1 - s)) := by
        rw [pk_rem cs k0 (by omega)]; unfold dg; rw [show n - 1 - (n - 1 - s) = s by omega]
      have dv : nI (c / k ^ s) / nI k = nI (c / k ^ (s + 1)) := by
        rw [pk_div cs k0 (by omega), Nat.div_div_eq_div_mul, Nat.pow_succ]
      have K2 : KP [105] h (sF st.2.2.2 105 (upd (st.2.2.2.2.1 105) (n - 1 - s) (nI (dg k n c (n - 1 - s))))) := KP_F aK (by decide) _
      have M2 := MX_k K2 (by decide) M
      have D2 : ∀ j, n - 1 - s ≤ j → j < n → (sF st.2.2.2 105 (upd (st.2.2.2.2.1 105) (n - 1 - s) (nI (dg k n c (n - 1 - s))))).2.1 105 j = nI (dg k n c j) := by
        intro j q1 q2
        rw [sF_eq, upd_e]
        by_cases y : j = n - 1 - s
        · rw [if_pos y, y]
        · rw [if_neg y]; exact aD j (by omega) q2
      generalize hh5 : sF st.2.2.2 105 (upd (st.2.2.2.2.1 105) (n - 1 - s) (nI (dg k n c (n - 1 - s)))) = h5 at K2 M2 D2
      have nx : avB f n k c (s + 1) = (avB f n k c s && allB (fun q => pvB f n k c (n - 1 - s) (n - s + q)) s) := rfl
      have li : ∀ v3, xloop (fX9_layDecks_b38 99 (nI k) v3 (nI (n - 1 - s)) h5) 1000000 (if avB f n k c s = true then 1 else 0, nI (n - s)) = some (99, nI k, v3, if avB f n k c (s + 1) = true then 1 else 0, nI (n - 1 - s)) := by
        intro v3
        rw [nx]
        refine xloop_c (fun q => (if (avB f n k c s && allB (fun q => pvB f n k c (n - 1 - s) (n - s + q)) q) = true then 1 else 0, nI (n - s + q))) _ s (by omega) ?_ ?_ (by simp [allB])
        · intro q hq
          have b1 := D2 (n - 1 - s) (by omega) (by omega)
          have b2 := D2 (n - s + q) (by omega) (by omega)
          have l1 := dl (n - 1 - s)
          have l2 := dl (n - s + q)
          have qe : (nI (dg k n c (n - s + q)) = nI (dg k n c (n - 1 - s))) ↔ dg k n c (n - s + q) = dg k n c (n - 1 - s) := nI_eq (by omega) (by omega)
          simp only [fX9_layDecks_b38, fX9_layDecks_j91, fX9_layDecks_j87, fX9_layDecks_j92]
          rw [many_at M2.1 (by rw [hn]; exact e0 _ M2), hn, Option.bind_some, if_neg (by rw [le_nI (by omega) (by omega)]; omega), gR99_7 M2.1, Option.bind_some, aN105 M2.1 (by omega), Option.bind_some, Option.bind_some, aN105 M2.1 (by omega), Option.bind_some, gR99_0 M2.1, Option.bind_some, la47, aN100 M2.1 (by omega), Option.bind_some, M2.2.2, has_bt, Option.bind_some, b1, b2, nI_1]
          simp only [qe, Nat.add_assoc]
          by_cases z0 : avB f n k c s = true
          · by_cases z1 : allB (fun q => pvB f n k c (n - 1 - s) (n - s + q)) q = true
            · by_cases z2 : dg k n c (n - s + q) = dg k n c (n - 1 - s)
              · by_cases z3 : bt1 (f (47 + (n - 1 - s))) (n - s + q) = 1
                · have pq : pvB f n k c (n - 1 - s) (n - s + q) = false := by simp [pvB, z2, z3]
                  simp [z0, z1, z2, z3, allB, pq]
                · have pq : pvB f n k c (n - 1 - s) (n - s + q) = true := by simp [pvB, z3]
                  simp [z0, z1, z2, z3, allB, pq]
              · have pq : pvB f n k c (n - 1 - s) (n - s + q) = true := by simp [pvB, z2]
                simp [z0, z1, z2, allB, pq]
            · simp [z0, z1, allB]
          · simp [z0]
        · simp only [fX9_layDecks_b38]
          rw [many_at M2.1 (by rw [hn]; exact e0 _ M2), hn, Option.bind_some, if_pos (by rw [le_nI (by omega) (by omega)]; omega)]
      refine ⟨(nI (c / k ^ (s + 1)), if avB f n k c (s + 1) = true then 1 else 0, nI (n - (s + 1)) - 1, h5), ?_, rfl, rfl, rfl, K2, fun j q1 q2 => D2 j (by omega) q2⟩
      simp only [fX9_layDecks_b13]
      rw [a3, i1, if_neg (nI_pos (by omega)), gR99_7 Mt.1, Option.bind_some, if_neg kn, a1, dd, sN105 Mt.1 (by omega), Option.bind_some, hh5, if_neg kn, dv, nI_1, show n - 1 - s + 1 = n - s by omega, a2, li, Option.bind_some]
      simp only []
      rw [show n - (s + 1) = n - 1 - s by omega, Int32.sub_eq_add_neg]
    · intro st ⟨a1, a2, a3, aK, aD⟩
      refine ⟨(st.2.1, st.2.2.2), ?_, a2, aK, fun j hj => aD j (by omega) hj⟩
      simp only [fX9_layDecks_b13]
      rw [a3, Nat.sub_self, if_pos (by decide)]
  obtain ⟨r, er, r1, rK, rD⟩ := lp
  refine ⟨r.2, ?_, rK, rD⟩
  simp only [fX9_layDecks]
  rw [many_at M.1 (by rw [hn]; exact e0 _ M), hn, Option.bind_some, er, Option.bind_some, r1]
  by_cases z : avB f n k c n = true
  · rw [if_pos z, if_pos (show vp_nar .boolean 1 = 1 from rfl)]
  · rw [if_neg z, if_pos (show vp_nar .boolean 0 = 0 from rfl)]
end DECKS2
