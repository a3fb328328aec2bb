section BOTH
variable {h : Hp}
theorem k0_of (H : Inv h) : ∃ k0, k0 ≤ 10 ∧ h.2.1 100 3 = nI k0 := by
  have w3 := H.2.2.1.1.2.2.2.1
  exact ⟨(h.2.1 100 3).toInt.toNat, by have := w3.1; have := w3.2; omega, nI_n w3.1⟩
/-- on from the ride as it stands, through M stops, class and model -/
theorem go_both (H : Inv h) {k0 M : Nat} {e : Int32} (ek : h.2.1 100 3 = nI k0) (hM : k0 + M ≤ 10) (he : e + 1 = nI (k0 + M)) (he2 : ∀ m, k0 + m ≤ 10 → (e < nI (k0 + m) ↔ M ≤ m)) : ∃ h0 h1 h2 B T, fX3_goOn 66 1 h = some h0 ∧ GH h0 ∧ fX3_passThrough 66 1 e h0 = some h1 ∧ GH h1 ∧ h1.2.1 67 1 = nI T.1.1 ∧ h1.2.1 67 2 = nI T.1.2.1 ∧ h1.2.1 67 3 = nI T.1.2.2 ∧ h1.2.1 67 4 = T.2 ∧ (∀ a, a ≠ 66 → a ≠ 67 → a ≠ 68 → h1.2.1 a = h.2.1 a) ∧ BT h1 (h.2.1 100) ∧ fX9_layHand 99 h1 = some h2 ∧ GH h2 ∧ fX9_goTill 99 (nI (k0 + M)) h2 = some (sF h1 104 B) ∧ B 4 = nI T.1.1 ∧ B 5 = nI T.1.2.1 ∧ B 6 = nI T.1.2.2 ∧ B 7 = T.2 ∧ HR B (h.2.1 100) (fun i => h.2.1 100 (33 + i)) ∧ Inv (sF h1 104 B) ∧ (T : (Nat × Nat × Nat) × Int32).1.1 < 128 ∧ T.1.2.1 < 128 ∧ T.1.2.2 < 128 := by
  have g := H.1
  have W := H.2.2.1
  have n7 := (n_eq W).2.1
  have B0 := BT_of H.2.1 W
  have r0 := H.2.1.2.1 0 (by omega)
  have r1 := H.2.1.2.1 1 (by omega)
  have r2 := H.2.1.2.1 2 (by omega)
  have r3 := H.2.1.2.1 3 (by omega)
  have r4 := H.2.1.2.1 4 (by omega)
  simp only [Nat.reduceAdd] at r0 r1 r2 r3 r4
  obtain ⟨u, hu, eu⟩ := up_n W.1.2.2.2.2.1
  obtain ⟨c, hc, ec⟩ := up_n W.1.2.2.2.2.2.1
  obtain ⟨l, hl, el⟩ := up_n W.1.2.2.2.2.2.2.1
  generalize hf : h.2.1 100 = f at *
  have hx : (((u, c, l), f 7) : (Nat × Nat × Nat) × Int32).1.1 < 128 ∧ (((u, c, l), f 7) : (Nat × Nat × Nat) × Int32).1.2.1 < 128 ∧ (((u, c, l), f 7) : (Nat × Nat × Nat) × Int32).1.2.2 < 128 := ⟨hu, hc, hl⟩
  have go := goOn_e g
  generalize hh0 : sF (sF (sF h 67 (tk (h.2.1 67) (h.2.1 12))) 68 (fun k => if k < 7 then h.2.1 5 k else h.2.1 68 k)) 66 (upd (h.2.1 66) 2 0) = h0 at go
  have g0 : GH h0 := by rw [← hh0]; exact g
  have B1 : BT h0 f := by rw [← hh0]; exact B0
  have th := through_e (h := h0) (f := f) (on := fun i => f (33 + i)) (k0 := k0) (M := M) (y := ((u, c, l), f 7)) (lift := 0) (e := e) (F := f) g0 B1 W hM he he2 (fun i hi => by rw [← hh0]; simp [sF_I, show i < 7 by omega]; exact (H.2.1.2.2.2.1 i (by rw [hf]; exact hi)).2.2.1.trans (by rw [hf])) hx (by rw [← hh0]; simp [sF_I, upd_e]) (by rw [← hh0]; simp [sF_I, tk, r0, ek]) (by rw [← hh0]; simp [sF_I, tk, r1, eu]) (by rw [← hh0]; simp [sF_I, tk, r2, ec]) (by rw [← hh0]; simp [sF_I, tk, r3, el]) (by rw [← hh0]; simp [sF_I, tk, r4])
  have tq := tr_eq (f := f) (on := fun i => f (33 + i)) (hgt := fun k => f (9 + k) + 0) (hgt' := fun k => f (9 + k)) (sk := fun k => decide (f (9 + k) = 0)) (sk' := fun k => decide (f (9 + k) ≤ 0)) (k0 := k0) (y := ((u, c, l), f 7)) (fun k hk => ⟨by simp, hz (W.2.1 k hk)⟩) M hM
  have lt := tr_lt (f := f) (on := fun i => f (33 + i)) (hgt := fun k => f (9 + k)) (sk := fun k => decide (f (9 + k) ≤ 0)) (k0 := k0) n7 hx M
  rw [tq] at th
  generalize hT : tr f (fun i => f (33 + i)) (fun k => f (9 + k)) (fun k => decide (f (9 + k) ≤ 0)) k0 ((u, c, l), f 7) M = T at th lt
  generalize hh1 : sF h0 67 (rwN (h0.2.1 67) T.1 T.2 (nI (k0 + M))) = h1 at th
  have g1 : GH h1 := by rw [← hh1]; exact g0
  have oth : ∀ a, a ≠ 66 → a ≠ 67 → a ≠ 68 → h1.2.1 a = h.2.1 a := fun a z1 z2 z3 => by rw [← hh1, ← hh0]; simp [sF_I, z1, z2, z3]
  have y100 : h1.2.1 100 = f := by rw [oth 100 (by decide) (by decide) (by decide), hf]
  have lh := layHand_e g1
  rw [y100] at lh
  generalize hA : (fun k => if k < 54 then f k else h1.2.1 104 k) = A at lh
  have a_lo : ∀ k, k < 54 → A k = f k := fun k hk => by rw [← hA]; simp only []; rw [if_pos hk]
  have HRA : HR A f (fun i => f (33 + i)) := ⟨a_lo 8 (by omega), fun i hi => ⟨a_lo _ (by omega), a_lo _ (by omega), a_lo _ (by omega), a_lo _ (by omega), a_lo _ (by omega)⟩⟩
  have g3 : GH (sF h1 104 A) := g1
  have gt := goTill_e (h := sF h1 104 A) (f := f) (on := fun i => f (33 + i)) (hgt := fun k => f (9 + k)) (k0 := k0) (M := M) (y := ((u, c, l), f 7)) g3 (by simpa [sF_I, y100] using (n_eq W).1) W (by simpa [sF_I] using HRA) hM hx (by simp only [sF_I, if_true]; rw [a_lo 3 (by omega), ek]) (by simp only [sF_I, if_true]; rw [a_lo 4 (by omega), eu]) (by simp only [sF_I, if_true]; rw [a_lo 5 (by omega), ec]) (by simp only [sF_I, if_true]; rw [a_lo 6 (by omega), el]) (by simp only [sF_I, if_true]; rw [a_lo 7 (by omega)]) (fun k hk => by simp only [sF_I, if_true]; exact a_lo _ (by omega))
  rw [hT, sF_s] at gt
  simp only [sF_I, if_true] at gt
  refine ⟨h0, h1, sF h1 104 A, rwH A T.1 T.2 (nI (k0 + M)), T, go, g0, th, g1, ?_, ?_, ?_, ?_, oth, ?_, lh, g3, gt, ?_, ?_, ?_, ?_, HR_rw _ _ _ HRA, ?_, lt⟩
  · rw [← hh1]; simp [sF_I, rwN]
  · rw [← hh1]; simp [sF_I, rwN]
  · rw [← hh1]; simp [sF_I, rwN]
  · rw [← hh1]; simp [sF_I, rwN]
  · rw [← hh1]; exact BT_F B1 (Or.inr rfl)
  · simp [rwH]
  · simp [rwH]
  · simp [rwH]
  · simp [rwH]
  · have z : ∀ a, a ≠ 66 → a ≠ 67 → a ≠ 68 → a ≠ 104 → (sF h1 104 (rwH A T.1 T.2 (nI (k0 + M)))).2.1 a = h.2.1 a := fun a z1 z2 z3 z4 => by simp only [sF_I]; rw [if_neg z4]; exact oth a z1 z2 z3
    have e22 : h1.2.2 = h.2.2 := by rw [← hh1, ← hh0]; rfl
    refine Inv_bus H (g1.1.trans g.1.symm) (fun a _ => by show h1.2.2.2 a = _; rw [e22]) (fun a ha => z a (by unfold keep at ha; omega) (by unfold keep at ha; omega) (by unfold keep at ha; omega) (by unfold keep at ha; omega)) (by show h1.2.2.1 = _; rw [e22]) ?_ ?_
    · rw [z 100 (by omega) (by omega) (by omega) (by omega), hf]
      exact RB_keep (hf ▸ H.2.1) (fun a h1 h2 => z a (by omega) (by omega) (by omega) (by omega)) (by show h1.2.2.2 _ = _; rw [e22])
    · rw [z 100 (by omega) (by omega) (by omega) (by omega), hf]; exact W
end BOTH
