section BETTER2
variable {h : Hp}
theorem mst_e {f : Nat → Int32} (M : MX h f) : ∃ A, fX9_layStart 99 h = some (sF h 104 A) ∧ (∀ j, j < 5 → A (3 + j) = 0) ∧ ∀ k, 8 ≤ k → k < 54 → A k = f k := by
  refine ⟨_, layStart_e M.1, ?_, ?_⟩
  · intro j hj
    rcases (by omega : j = 0 ∨ j = 1 ∨ j = 2 ∨ j = 3 ∨ j = 4) with rfl | rfl | rfl | rfl | rfl <;> simp [rwH] <;> rfl
  · intro k h1 h2
    simp only [rwH]
    rw [if_neg (by omega), if_neg (by omega), if_neg (by omega), if_neg (by omega), if_neg (by omega), if_pos h2, M.2.2]
theorem h_zero {f : Nat → Int32} (k : Nat) : f (9 + k) = if f (9 + k) = 0 then 0 else f (9 + k) + 0 := by
  by_cases z : f (9 + k) = 0
  · rw [if_pos z]; exact z
  · rw [if_neg z]; simp
theorem rg09 {r : Nat} (hr : r < 10) : rg (nI r) 0 9 := by unfold rg; rw [nI_toInt (by omega)]; omega
theorem better_m {f : Nat → Int32} (M : MX h f) : ∃ h', fX9_better 99 h = some ((bG f (nn f)).2, h') ∧ KP [104] h h' := by
  have W := M.2.1
  have n7 := (n_eq W).2.1
  have e0 : ∀ h', MX h' f → h'.2.1 100 0 = nI (nn f) := fun h' m => by rw [m.2.2]; exact (n_eq W).1
  obtain ⟨A, e1, A1, A2⟩ := mst_e M
  have K1 : KP [104] h (sF h 104 A) := KP_F (KP_rfl _ h) (by decide) _
  have M1 := MX_k K1 (by decide) M
  obtain ⟨h3, e3, K3, u, c, l, v⟩ := mrun_e (h := sF h 104 A) (f := f) (on := fun j => f (33 + j)) (lift := 0) M1.1 (e0 _ M1) W (rg09 (r := 0) (by omega)) (by
    simp only [sF_I, if_true]
    exact ⟨A2 8 (by omega) (by omega), fun i hi => ⟨A2 _ (by omega) (by omega), A2 _ (by omega) (by omega), A2 _ (by omega) (by omega), A2 _ (by omega) (by omega), A2 _ (by omega) (by omega)⟩⟩) (fun j hj => by simpa [sF_I] using A1 j hj) (fun k hk => by simp only [sF_I, if_true]; rw [A2 _ (by omega) (by omega)]; exact h_zero k)
  have M3 := MX_k K3 (by decide) M1
  have lp : ∃ r, xloop (fX9_better_b19 99) 1000000 (-1, nI (lost f (fun j => f (33 + j))), 0, h3) = some r ∧ r.1 = (bG f (nn f)).2 ∧ KP [104] h r.2 := by
    refine xloop_i (body := fX9_better_b19 99) (fun i st => st.2.1 = (bG f i).1 ∧ st.1 = (bG f i).2 ∧ st.2.2.1 = nI i ∧ KP [104] h st.2.2.2) (fun r => r.1 = (bG f (nn f)).2 ∧ KP [104] h r.2) (nn f) (by omega) ?_ ?_ ⟨rfl, rfl, rfl, KP_t K1 K3 (fun _ z => z) (fun _ z => z)⟩
    · intro i st hi ⟨a1, a2, a3, aK⟩
      left
      have Mi := MX_k aK (by decide) M
      obtain ⟨o1, o2, o3⟩ := off_n W hi
      have li : ∃ r, xloop (fX9_better_b30 99 (nI i)) 1000000 (st.1, st.2.1, 0, st.2.2.2) = some r ∧ r.2.2.1 = (bF f i (bG f i) (f (40 + i)).toInt.toNat).1 ∧ r.2.1 = (bF f i (bG f i) (f (40 + i)).toInt.toNat).2 ∧ r.2.2.2.1 = nI i ∧ KP [104] h r.2.2.2.2 := by
        refine xloop_i (body := fX9_better_b30 99 (nI i)) (fun s t => t.2.1 = (bF f i (bG f i) s).1 ∧ t.1 = (bF f i (bG f i) s).2 ∧ t.2.2.1 = nI s ∧ KP [104] h t.2.2.2) (fun r => r.2.2.1 = (bF f i (bG f i) (f (40 + i)).toInt.toNat).1 ∧ r.2.1 = (bF f i (bG f i) (f (40 + i)).toInt.toNat).2 ∧ r.2.2.2.1 = nI i ∧ KP [104] h r.2.2.2.2) (f (40 + i)).toInt.toNat (by omega) ?_ ?_ ⟨a1, a2, rfl, aK⟩
        · intro s t hs ⟨c1, c2, c3, cK⟩
          left
          have Mt := MX_k cK (by decide) M
          obtain ⟨A', e1', A1', A2'⟩ := mst_e Mt
          have K1' : KP [104] h (sF t.2.2.2 104 A') := KP_F cK (by decide) _
          have M1' := MX_k K1' (by decide) M
          have K2' : KP [104] h (sF (sF t.2.2.2 104 A') 104 (upd A' (33 + i) (nI s))) := KP_F K1' (by decide) _
          have M2' := MX_k K2' (by decide) M
          obtain ⟨h4, e4, K4, u', c', l', v'⟩ := mrun_e (h := sF (sF t.2.2.2 104 A') 104 (upd A' (33 + i) (nI s))) (f := f) (on := onI f i (nI s)) (lift := 0) M2'.1 (e0 _ M2') W (rg09 (r := 0) (by omega)) (by
            simp only [sF_I, if_true]
            refine ⟨?_, fun j hj => ⟨?_, ?_, ?_, ?_, ?_⟩⟩
            · rw [upd_e, if_neg (by omega)]; exact A2' 8 (by omega) (by omega)
            · rw [upd_e, if_neg (by omega)]; exact A2' _ (by omega) (by omega)
            · rw [upd_e, if_neg (by omega)]; exact A2' _ (by omega) (by omega)
            · rw [upd_e]; unfold onI
              by_cases z : j = i
              · rw [if_pos (by omega), if_pos z]
              · rw [if_neg (by omega), if_neg z]; exact A2' _ (by omega) (by omega)
            · rw [upd_e, if_neg (by omega)]; exact A2' _ (by omega) (by omega)
            · rw [upd_e, if_neg (by omega)]; exact A2' _ (by omega) (by omega)) (fun j hj => by simp only [sF_I, if_true]; rw [upd_e, if_neg (by omega)]; exact A1' j hj) (fun k hk => by simp only [sF_I, if_true]; rw [upd_e, if_neg (by omega), A2' _ (by omega) (by omega)]; exact h_zero k)
          have K5 := KP_t K2' K4 (fun _ z => z) (fun _ z => z) (U := [104])
          have g4 := KP_GH M2'.1 K4
          have ml := manyLost_e g4 n7 l' c'
          have nx : ¬ f (40 + i) ≤ nI s := by rw [o1, le_nI (by omega) (by omega)]; omega
          have A0 : (sF t.2.2.2 104 A').2.1 104 = A' := by simp [sF_I]
          by_cases q : (bF f i (bG f i) s).1 ≤ nI (lost f (onI f i (nI s)))
          · refine ⟨(t.1, t.2.1, t.2.2.1 + 1, h4), ?_, ?_, ?_, ?_, K5⟩
            · simp only [fX9_better_b30, fX9_better_j84, fX9_better_j101]
              rw [gR99_0 Mt.1, Option.bind_some, la40, aN100 Mt.1 (by omega), Option.bind_some, Mt.2.2, c3, if_neg nx, gT99 Mt.1, e1', Option.bind_some, gR99_6 M1'.1, Option.bind_some, la33, sN104 M1'.1 (by omega), Option.bind_some, A0, gT99 M2'.1, e4, Option.bind_some, gT99 g4, ml, Option.bind_some, c1, if_pos q, Option.bind_some, if_pos q]
            · simp only [bF]; rw [if_pos q]; exact c1
            · simp only [bF]; rw [if_pos q]; exact c2
            · simp only []; rw [c3, nI_1]
          · refine ⟨(10 * nI i + nI s, nI (lost f (onI f i (nI s))), t.2.2.1 + 1, h4), ?_, ?_, ?_, ?_, K5⟩
            · simp only [fX9_better_b30, fX9_better_j84, fX9_better_j101]
              rw [gR99_0 Mt.1, Option.bind_some, la40, aN100 Mt.1 (by omega), Option.bind_some, Mt.2.2, c3, if_neg nx, gT99 Mt.1, e1', Option.bind_some, gR99_6 M1'.1, Option.bind_some, la33, sN104 M1'.1 (by omega), Option.bind_some, A0, gT99 M2'.1, e4, Option.bind_some, gT99 g4, ml, Option.bind_some, c1, if_neg q, Option.bind_some, if_neg q, Option.bind_some]
            · simp only [bF]; rw [if_neg q]
            · simp only [bF]; rw [if_neg q]
            · simp only []; rw [c3, nI_1]
        · intro t ⟨c1, c2, c3, cK⟩
          have Mt := MX_k cK (by decide) M
          refine ⟨(99, t.1, t.2.1, nI i, t.2.2.2), ?_, c1, c2, rfl, cK⟩
          simp only [fX9_better_b30]
          rw [gR99_0 Mt.1, Option.bind_some, la40, aN100 Mt.1 (by omega), Option.bind_some, Mt.2.2, c3, if_pos (by rw [← o1]; exact Int32.le_refl _)]
      obtain ⟨r, er, r1, r2, r3, rK⟩ := li
      refine ⟨(r.2.1, r.2.2.1, r.2.2.2.1 + 1, r.2.2.2.2), ?_, r1, r2, ?_, rK⟩
      · simp only [fX9_better_b19]
        rw [many_at Mi.1 (e0 _ Mi), Option.bind_some, a3, if_neg (by rw [le_nI (by omega) (by omega)]; omega), er, Option.bind_some]
      · simp only []; rw [r3, nI_1]
    · intro st ⟨a1, a2, a3, aK⟩
      have Mi := MX_k aK (by decide) M
      refine ⟨(st.1, st.2.2.2), ?_, a2, aK⟩
      simp only [fX9_better_b19]
      rw [many_at Mi.1 (e0 _ Mi), Option.bind_some, a3, if_pos (by rw [le_nI (by omega) (by omega)]; omega)]
  obtain ⟨r, er, r1, rK⟩ := lp
  refine ⟨r.2, ?_, rK⟩
  simp only [fX9_better]
  rw [gT99 M.1, e1, Option.bind_some, gT99 M1.1, e3, Option.bind_some, gT99 M3.1, manyLost_e M3.1 n7 l c, Option.bind_some, er, Option.bind_some, r1]
theorem MX_of (H : Inv h) {h1 : Hp} (K : KP [66, 67, 68] h h1) : MX h1 (h.2.1 100) := ⟨KP_GH H.1 K, H.2.2.1, K.2.2 100 (by decide)⟩
theorem op_better (H : Inv h) : Op (fX8_better 0 h) (fX9_better 99) := by
  have g := H.1
  obtain ⟨h1, e1, K1⟩ := better_c (JX_of H)
  obtain ⟨h2, e2, K2⟩ := better_m (MX_of H K1)
  refine ⟨_, h1, h2, ?_, KP_GH g K1, e2, KP_Inv H (KP_t K1 K2 (U := [66, 67, 68, 104]) (by decide) (by decide)) (by decide)⟩
  simp only [fX8_better]
  rw [gR0_3 g, Option.bind_some, gR0_0 g, Option.bind_some, gT66 g, e1, Option.bind_some]
end BETTER2
