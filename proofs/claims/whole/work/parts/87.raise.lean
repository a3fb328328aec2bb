section RAISE
variable {h : Hp}
theorem ta5 {k : Int32} {m : Nat} (hk : rg k 0 5) (hm : m < 10) : (taS k (nI m)).toInt ≤ 5 := by
  have q : ∀ m, m < 10 → (taS 0 (nI m)).toInt ≤ 5 ∧ (taS 1 (nI m)).toInt ≤ 5 ∧ (taS 2 (nI m)).toInt ≤ 5 ∧ (taS 3 (nI m)).toInt ≤ 5 ∧ (taS 4 (nI m)).toInt ≤ 5 ∧ (taS 5 (nI m)).toInt ≤ 5 := by decide
  obtain ⟨q0, q1, q2, q3, q4, q5⟩ := q m hm
  rcases k_cases hk with rfl | rfl | rfl | rfl | rfl | rfl <;> assumption
theorem scN_no {f : Nat → Int32} {s hg : Int32} {p : Nat × Nat} (hh : ∀ i, i < nn f → taS (f (19 + i)) s ≤ hg) : ∀ i, i ≤ nn f → scN f s hg p i = p
  | 0, _ => rfl
  | i + 1, hi => by
    simp only [scN]
    rw [scN_no hh i (by omega), if_neg]
    intro z; exact z.2 (hh i (by omega))
theorem sm_no {f on : Nat → Int32} (W : WF f) : ∀ m, m ≤ 10 → (sm f on (nI 4) m).1.2.1 = 0
  | 0, _ => rfl
  | m + 1, hm => by
    have ih := sm_no (f := f) (on := on) W m (by omega)
    have w := W.2.1 m (by omega)
    have e : ∀ x : Nat × Nat × Nat, x.2.1 = 0 → (stN f on (nI m) (decide (f (9 + m) = 0)) (f (9 + m) + nI 4) x).2.1 = 0 := by
      intro x hx
      unfold stN
      by_cases z : f (9 + m) = 0
      · rw [if_pos (by simp [z])]; exact hx
      · rw [if_neg (by simp [z]), scN_no (fun i hi => ?_) _ (Nat.le_refl _)]
        · exact hx
        · obtain ⟨a, ha, ea⟩ : ∃ a, a < 10 ∧ f (9 + m) = nI a := ⟨(f (9 + m)).toInt.toNat, by have := w.1; have := w.2; omega, nI_n w.1⟩
          have a0 : a ≠ 0 := fun q => z (by rw [ea, q]; rfl)
          have t := ta5 (m := m) (W.2.2.1 i hi).1 (by omega)
          rw [ea, nI_add, fa_le, nI_toInt (by omega)]
          omega
    have := e _ ih
    simpa [sm, tr] using this
theorem least_p (p : Nat → Prop) (hp : p 4) : ∃ R, R ≤ 4 ∧ p R ∧ ∀ r, r < R → ¬ p r := by
  by_cases p0 : p 0
  · exact ⟨0, by omega, p0, fun r hr => by omega⟩
  by_cases p1 : p 1
  · exact ⟨1, by omega, p1, fun r hr => by rw [show r = 0 by omega]; exact p0⟩
  by_cases p2 : p 2
  · exact ⟨2, by omega, p2, fun r hr => by rcases (by omega : r = 0 ∨ r = 1) with rfl | rfl <;> assumption⟩
  by_cases p3 : p 3
  · exact ⟨3, by omega, p3, fun r hr => by rcases (by omega : r = 0 ∨ r = 1 ∨ r = 2) with rfl | rfl | rfl <;> assumption⟩
  · exact ⟨4, by omega, hp, fun r hr => by rcases (by omega : r = 0 ∨ r = 1 ∨ r = 2 ∨ r = 3) with rfl | rfl | rfl | rfl <;> assumption⟩
theorem raise_c {f : Nat → Int32} {R : Nat} (J : JX h f) (hR : R ≤ 4) (h1 : (sn f (fun j => f (33 + j)) (nI R)).1.2.1 = 0) (h2 : ∀ r, r < R → ¬ (sn f (fun j => f (33 + j)) (nI r)).1.2.1 = 0) : ∃ h', fX3_leastLift 66 1 h = some (nI R, h') ∧ KP [66, 67, 68] h h' := by
  have W := J.2.2.1
  have n7 := (n_eq W).2.1
  have one : ∀ r t, r < 9 → KP [66, 67, 68] h t → ∃ h', KP [66, 67, 68] h h' ∧ fX3_leastLift_b2 66 1 (nI r, t) = if (sn f (fun j => f (33 + j)) (nI r)).1.2.1 = 0 then some (Sum.inr (Sum.inl (nI r, h'))) else some (Sum.inl (nI (r + 1), h')) := by
    intro r t hr K
    have J0 := JX_k K (by decide) J
    obtain ⟨t1, e1, K1, b1, l1, z1⟩ := jstart_e J0.1
    have K1' := KP_t K K1 (fun _ z => z) (fun _ z => z) (U := [66, 67, 68])
    have J1 := JX_k K1' (by decide) J
    have K2 : KP [66, 67, 68] h (sF t1 66 (upd (t1.2.1 66) 2 (nI r))) := KP_F K1' (by decide) _
    have J2 := JX_k K2 (by decide) J
    obtain ⟨h3, e3, K3, u, c, l, v⟩ := jrun_e (h := sF t1 66 (upd (t1.2.1 66) 2 (nI r))) (f := f) (on := fun j => f (33 + j)) (lift := nI r) J2.1 J2.2.1 W (fun j hj => by simp only [sF_I]; rw [if_neg (by decide), b1 j (by omega)]; exact J0.2.2.2 j hj) (by simp [sF_I, upd_e]) (fun j hj => by simpa [sF_I] using z1 j hj)
    have K4 := KP_t K2 K3 (fun _ z => z) (fun _ z => z) (U := [66, 67, 68])
    have J3 := JX_k K4 (by decide) J
    have lt := sm_lt (f := f) (on := fun j => f (33 + j)) (lift := nI r) n7 10
    refine ⟨h3, K4, ?_⟩
    simp only [fX3_leastLift_b2]
    rw [if_neg (by rw [show (9 : Int32) = nI 9 from rfl, le_nI (by omega) (by omega)]; omega), gT66 J0.1, e1, Option.bind_some, pI66 J1.1, Option.bind_some, gT66 J2.1, e3, Option.bind_some, gR66_0 J3.1, Option.bind_some, gI67 J3.1, Option.bind_some, c, nI_1]
    by_cases z : (sn f (fun j => f (33 + j)) (nI r)).1.2.1 = 0
    · rw [if_pos z, z, if_pos nI_0]
    · rw [if_neg z, if_neg (nI_ne0 (Nat.pos_of_ne_zero z) (by have := lt.2.1; unfold sn; omega))]
  have lp : ∃ r, xloop (fX3_leastLift_b2 66 1) 1000000 (0, h) = some r ∧ ∃ h', r = Sum.inl (nI R, h') ∧ KP [66, 67, 68] h h' := by
    refine xloop_i (body := fX3_leastLift_b2 66 1) (fun i st => st.1 = nI i ∧ KP [66, 67, 68] h st.2) (fun r => ∃ h', r = Sum.inl (nI R, h') ∧ KP [66, 67, 68] h h') R (by omega) ?_ ?_ ⟨rfl, KP_rfl _ h⟩
    · intro i st hi ⟨a1, aK⟩
      left
      obtain ⟨h', K', e⟩ := one i st.2 (by omega) aK
      rw [if_neg (h2 i hi)] at e
      exact ⟨_, by rw [← e, ← a1], rfl, K'⟩
    · intro st ⟨a1, aK⟩
      obtain ⟨h', K', e⟩ := one R st.2 (by omega) aK
      rw [if_pos h1] at e
      exact ⟨_, by rw [← e, ← a1], h', rfl, K'⟩
  obtain ⟨r, er, h', rfl, K⟩ := lp
  refine ⟨h', ?_, K⟩
  simp only [fX3_leastLift]
  rw [er, Option.bind_some]
theorem raise14_e {r : Nat} (g : GH h) : xloop (fX9_raise_b14 99 (nI r)) 1000000 (0, h) = some (99, nI r, sF h 104 (fun k => if 9 ≤ k ∧ k < 9 + 10 then (if h.2.1 104 k ≤ 0 then h.2.1 104 k + 0 else h.2.1 104 k + nI r) else h.2.1 104 k)) := by
  refine xloop_c (fun s => (nI s, sF h 104 (fun k => if 9 ≤ k ∧ k < 9 + s then (if h.2.1 104 k ≤ 0 then h.2.1 104 k + 0 else h.2.1 104 k + nI r) else h.2.1 104 k))) _ 10 (by decide) ?_ ?_ ?_
  · intro s hs
    have gg : ∀ F, GH (sF h 104 F) := fun F => g
    generalize hF : (fun k => if 9 ≤ k ∧ k < 9 + s then (if h.2.1 104 k ≤ 0 then h.2.1 104 k + 0 else h.2.1 104 k + nI r) else h.2.1 104 k) = F
    have F9 : F (9 + s) = h.2.1 104 (9 + s) := by rw [← hF]; simp only []; rw [if_neg (by omega)]
    have g0 := gg F
    simp only [fX9_raise_b14, fX9_raise_j47]
    rw [if_neg (by rw [show (10 : Int32) = nI 10 from rfl, le_nI (by omega) (by omega)]; omega)]
    simp only [gR99_6 g0, la9, aN104 g0 (show 9 + s < 54 by omega), sN104 g0 (show 9 + s < 54 by omega), Option.bind_some, sF_s, sF_I, if_true, nI_1, F9]
    rw [← hF]
    have e : ∀ X, upd (fun k => if 9 ≤ k ∧ k < 9 + s then (if h.2.1 104 k ≤ 0 then h.2.1 104 k + 0 else h.2.1 104 k + nI r) else h.2.1 104 k) (9 + s) X = fun k => if k = 9 + s then X else if 9 ≤ k ∧ k < 9 + s then (if h.2.1 104 k ≤ 0 then h.2.1 104 k + 0 else h.2.1 104 k + nI r) else h.2.1 104 k := fun X => by funext k; rw [upd_e]
    have e2 : (fun k => if 9 ≤ k ∧ k < 9 + (s + 1) then (if h.2.1 104 k ≤ 0 then h.2.1 104 k + 0 else h.2.1 104 k + nI r) else h.2.1 104 k) = fun k => if k = 9 + s then (if h.2.1 104 (9 + s) ≤ 0 then h.2.1 104 (9 + s) + 0 else h.2.1 104 (9 + s) + nI r) else if 9 ≤ k ∧ k < 9 + s then (if h.2.1 104 k ≤ 0 then h.2.1 104 k + 0 else h.2.1 104 k + nI r) else h.2.1 104 k := by
      funext k
      by_cases z1 : k = 9 + s
      · subst z1; rw [if_pos (by omega), if_pos rfl]
      · rw [if_neg z1]
        by_cases z2 : 9 ≤ k ∧ k < 9 + s
        · rw [if_pos z2, if_pos (by omega)]
        · rw [if_neg z2, if_neg (by omega)]
    rw [e, e, e2]
    by_cases z : h.2.1 104 (9 + s) ≤ 0
    · simp only [z, if_true]
    · simp only [z, if_false]
  · simp only [fX9_raise_b14]
    rw [if_pos (by decide)]
  · have : (fun k => if 9 ≤ k ∧ k < 9 + 0 then (if h.2.1 104 k ≤ 0 then h.2.1 104 k + 0 else h.2.1 104 k + nI r) else h.2.1 104 k) = h.2.1 104 := by funext k; rw [if_neg (by omega)]
    rw [this, sF_same]; rfl
theorem raise_m {f : Nat → Int32} {R : Nat} (M : MX h f) (hR : R ≤ 4) (h1 : (sn f (fun j => f (33 + j)) (nI R)).1.2.1 = 0) (h2 : ∀ r, r < R → ¬ (sn f (fun j => f (33 + j)) (nI r)).1.2.1 = 0) : ∃ h', fX9_raise 99 h = some (nI R, h') ∧ KP [104] h h' := by
  have W := M.2.1
  have n7 := (n_eq W).2.1
  have e0 : ∀ h', MX h' f → h'.2.1 100 0 = nI (nn f) := fun h' m => by rw [m.2.2]; exact (n_eq W).1
  have one : ∀ r t, r < 9 → KP [104] h t → ∃ h', KP [104] h h' ∧ fX9_raise_b2 99 (nI r, t) = if (sn f (fun j => f (33 + j)) (nI r)).1.2.1 = 0 then some (Sum.inr (Sum.inl (nI r, h'))) else some (Sum.inl (nI (r + 1), h')) := by
    intro r t hr K
    have M0 := MX_k K (by decide) M
    obtain ⟨A, e1, A1, A2⟩ := mst_e M0
    have K1 : KP [104] h (sF t 104 A) := KP_F K (by decide) _
    have M1 := MX_k K1 (by decide) M
    have l14 := raise14_e (h := sF t 104 A) (r := r) M1.1
    have A0 : (sF t 104 A).2.1 104 = A := by simp [sF_I]
    rw [A0, sF_s] at l14
    generalize hC : (fun k => if 9 ≤ k ∧ k < 9 + 10 then (if A k ≤ 0 then A k + 0 else A k + nI r) else A k) = C at l14
    have c_hi : ∀ k, ¬ (9 ≤ k ∧ k < 19) → C k = A k := fun k hk => by rw [← hC]; simp only []; rw [if_neg (by omega)]
    have K2 : KP [104] h (sF t 104 C) := KP_F K (by decide) _
    have M2 := MX_k K2 (by decide) M
    obtain ⟨h3, e3, K3, u, c, l, v⟩ := mrun_e (h := sF t 104 C) (f := f) (on := fun j => f (33 + j)) (lift := nI r) M2.1 (e0 _ M2) W (rg09 (by omega)) (by
      simp only [sF_I, if_true]
      refine ⟨?_, fun i hi => ⟨?_, ?_, ?_, ?_, ?_⟩⟩ <;> (rw [c_hi _ (by omega)]; exact A2 _ (by omega) (by omega))) (fun j hj => by simp only [sF_I, if_true]; rw [c_hi _ (by omega)]; exact A1 j hj) (fun k hk => by
        simp only [sF_I, if_true]
        rw [← hC]
        simp only []
        rw [if_pos (by omega), A2 _ (by omega) (by omega)]
        have w := hz (W.2.1 k hk)
        by_cases z : f (9 + k) = 0
        · rw [if_pos z, z]; rfl
        · have z2 : ¬ f (9 + k) ≤ 0 := by simpa [z] using w
          rw [if_neg z, if_neg z2])
    have K4 := KP_t K2 K3 (fun _ z => z) (fun _ z => z) (U := [104])
    have M3 := MX_k K4 (by decide) M
    have lt := sm_lt (f := f) (on := fun j => f (33 + j)) (lift := nI r) n7 10
    refine ⟨h3, K4, ?_⟩
    simp only [fX9_raise_b2]
    rw [if_neg (by rw [show (10 : Int32) = nI 10 from rfl, le_nI (by omega) (by omega)]; omega), gT99 M0.1, e1, Option.bind_some, l14, Option.bind_some]
    simp only []
    rw [gT99 M2.1, e3, Option.bind_some, gR99_6 M3.1, Option.bind_some, a104_5 M3.1, Option.bind_some, c, nI_1]
    by_cases z : (sn f (fun j => f (33 + j)) (nI r)).1.2.1 = 0
    · rw [if_pos z, z, if_pos nI_0]
    · rw [if_neg z, if_neg (nI_ne0 (Nat.pos_of_ne_zero z) (by have := lt.2.1; unfold sn; omega))]
  have lp : ∃ r, xloop (fX9_raise_b2 99) 1000000 (0, h) = some r ∧ ∃ h', r = Sum.inl (nI R, h') ∧ KP [104] h h' := by
    refine xloop_i (body := fX9_raise_b2 99) (fun i st => st.1 = nI i ∧ KP [104] h st.2) (fun r => ∃ h', r = Sum.inl (nI R, h') ∧ KP [104] h h') R (by omega) ?_ ?_ ⟨rfl, KP_rfl _ h⟩
    · intro i st hi ⟨a1, aK⟩
      left
      obtain ⟨h', K', e⟩ := one i st.2 (by omega) aK
      rw [if_neg (h2 i hi)] at e
      exact ⟨_, by rw [← e, ← a1], rfl, K'⟩
    · intro st ⟨a1, aK⟩
      obtain ⟨h', K', e⟩ := one R st.2 (by omega) aK
      rw [if_pos h1] at e
      exact ⟨_, by rw [← e, ← a1], h', rfl, K'⟩
  obtain ⟨r, er, h', rfl, K⟩ := lp
  refine ⟨h', ?_, K⟩
  simp only [fX9_raise]
  rw [er, Option.bind_some]
theorem op_raise (H : Inv h) : Op (fX8_raise 0 h) (fX9_raise 99) := by
  have g := H.1
  obtain ⟨R, hR, r1, r2⟩ := least_p (fun r => (sn (h.2.1 100) (fun j => h.2.1 100 (33 + j)) (nI r)).1.2.1 = 0) (sm_no H.2.2.1 10 (by omega))
  obtain ⟨h1, e1, K1⟩ := raise_c (JX_of H) hR r1 r2
  obtain ⟨h2, e2, K2⟩ := raise_m (MX_of H K1) hR r1 r2
  refine ⟨_, h1, h2, ?_, KP_GH g K1, e2, KP_Inv H (KP_t K1 K2 (U := [66, 67, 68, 104]) (by decide) (by decide)) (by decide)⟩
  simp only [fX8_raise]
  rw [gR0_3 g, Option.bind_some, gR0_0 g, Option.bind_some, gT66 g, e1, Option.bind_some]
end RAISE
