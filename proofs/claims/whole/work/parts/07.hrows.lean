section XH
variable {X : Type} {ι : xI} {κ : xK} {K : X → Prop} {pc : Nat} {L : List (Nat × Value)} {st : List Value} {h : Hp}
theorem xif_some {α : Type} {c : Prop} {hc : Decidable c} {x y : α} (h : (if c then some x else none) = some y) : c ∧ x = y := by
  by_cases hq : c
  · rw [if_pos hq] at h; exact ⟨hq, Option.some.inj h⟩
  · rw [if_neg hq] at h; cases h
theorem xif_o {α : Type} {c : Prop} {hc : Decidable c} {x : Option α} {y : α} (h : (if c then x else none) = some y) : c ∧ x = some y := by
  by_cases hq : c
  · rw [if_pos hq] at h; exact ⟨hq, h⟩
  · rw [if_neg hq] at h; cases h
theorem j_getI {a idx : Nat} {f : Int32 → Option X} (ci N j : Nat) (hd : decode ι.1 pc = .ok (.getfield idx, 3)) (hl : Cond.fieldLink ι.2.1 idx (xtb ci j).1 (xtb ci j).2.1 (xtb ci j).2.2.1 ∈ xT) (hc : ci < 10) (hN : xnf ci = N) (hj : j < N) (hty : xty ci j = .int) (k : ∀ x, xJ ι κ K (pc + 3) L (.int x :: st) h (f x)) : xJ ι κ K pc L (.ref a :: st) h ((xgI h a (ci, N) j).bind f) := fun v e kv => by
  obtain ⟨x, e1, e2⟩ := Option.bind_eq_some_iff.mp e
  obtain ⟨hk, rfl⟩ := xif_some e1
  refine ⟨(k _ v e2 kv).1, fun b1 b2 p e' s m args below meth c hA H locs ls h1 h2 h3 => ?_⟩
  obtain ⟨c1, c2, c3, c4⟩ := xcls ci hc
  rw [hN] at c1 c2
  refine va_get hA.1 hA.2.1 hA.2.2.2.2.2.1 c2 hA.2.2.2.2.1 hA.2.2.2.2.2.2.2.2.1.1 h2 a (by rw [xw_get hk, xe_obj hc]) c1 j hj (hA.2.2.2.2.2.1 _ hl) (fun _ q => q) (by rw [xfs_get hj, hty]; rfl) hd ((k _ v e2 kv).2 b1 b2 p e' s m args below meth c hA H locs ls h1 h2 h3)
theorem j_getL {a idx : Nat} {f : Int64 → Option X} (ci N j : Nat) (hd : decode ι.1 pc = .ok (.getfield idx, 3)) (hl : Cond.fieldLink ι.2.1 idx (xtb ci j).1 (xtb ci j).2.1 (xtb ci j).2.2.1 ∈ xT) (hc : ci < 10) (hN : xnf ci = N) (hj : j < N) (hty : xty ci j = .long) (k : ∀ x, xJ ι κ K (pc + 3) L (.long x :: st) h (f x)) : xJ ι κ K pc L (.ref a :: st) h ((xgL h a (ci, N) j).bind f) := fun v e kv => by
  obtain ⟨x, e1, e2⟩ := Option.bind_eq_some_iff.mp e
  obtain ⟨hk, rfl⟩ := xif_some e1
  refine ⟨(k _ v e2 kv).1, fun b1 b2 p e' s m args below meth c hA H locs ls h1 h2 h3 => ?_⟩
  obtain ⟨c1, c2, c3, c4⟩ := xcls ci hc
  rw [hN] at c1 c2
  refine va_get hA.1 hA.2.1 hA.2.2.2.2.2.1 c2 hA.2.2.2.2.1 hA.2.2.2.2.2.2.2.2.1.1 h2 a (by rw [xw_get hk, xe_obj hc]) c1 j hj (hA.2.2.2.2.2.1 _ hl) (fun _ q => q) (by rw [xfs_get hj, hty]; rfl) hd ((k _ v e2 kv).2 b1 b2 p e' s m args below meth c hA H locs ls h1 h2 h3)
theorem j_getR {a idx : Nat} {f : Nat → Option X} (ci N j : Nat) (hd : decode ι.1 pc = .ok (.getfield idx, 3)) (hl : Cond.fieldLink ι.2.1 idx (xtb ci j).1 (xtb ci j).2.1 (xtb ci j).2.2.1 ∈ xT) (hc : ci < 10) (hN : xnf ci = N) (hj : j < N) (hty : ∀ (η : xEnv) (h : Hp) (a : Nat), xv η h a (xty ci j) j = va_rf ((h.2.2.2 a j).map (fun r => η.1 + r))) (k : ∀ x, xJ ι κ K (pc + 3) L (.ref x :: st) h (f x)) : xJ ι κ K pc L (.ref a :: st) h ((xgR h a (ci, N) j).bind f) := fun v e kv => by
  obtain ⟨x, e1, e2⟩ := Option.bind_eq_some_iff.mp e
  have hx := (xif_o e1).2
  have hk := (xif_o e1).1
  refine ⟨(k _ v e2 kv).1, fun b1 b2 p e' s m args below meth c hA H locs ls h1 h2 h3 => ?_⟩
  obtain ⟨c1, c2, c3, c4⟩ := xcls ci hc
  rw [hN] at c1 c2
  refine va_get hA.1 hA.2.1 hA.2.2.2.2.2.1 c2 hA.2.2.2.2.1 hA.2.2.2.2.2.2.2.2.1.1 h2 a (by rw [xw_get hk, xe_obj hc]) c1 j hj (hA.2.2.2.2.2.1 _ hl) (fun _ q => q) (by rw [xfs_get hj, hty, hx]; rfl) hd ((k _ v e2 kv).2 b1 b2 p e' s m args below meth c hA H locs ls h1 h2 h3)
theorem j_putI {a idx : Nat} {x : Int32} {f : Hp → Option X} (ci N j : Nat) (hd : decode ι.1 pc = .ok (.putfield idx, 3)) (hl : Cond.fieldLink ι.2.1 idx (xtb ci j).1 (xtb ci j).2.1 (xtb ci j).2.2.1 ∈ xT) (hc : ci < 10) (hN : xnf ci = N) (hj : j < N) (hty : xty ci j = .int) (hfin : (xtb ci j).2.2.2 = false) (k : ∀ h', xJ ι κ K (pc + 3) L st h' (f h')) : xJ ι κ K pc L (.int x :: .ref a :: st) h ((xpI h a (ci, N) j x).bind f) := fun v e kv => by
  obtain ⟨h', e1, e2⟩ := Option.bind_eq_some_iff.mp e
  obtain ⟨hk, rfl⟩ := xif_some e1
  refine ⟨(k _ v e2 kv).1, fun b1 b2 p e' s m args below meth c hA H locs ls h1 h2 h3 => ?_⟩
  obtain ⟨c1, c2, c3, c4⟩ := xcls ci hc
  rw [hN] at c1 c2 c3 c4
  refine va_put hA.1 hA.2.1 hA.2.2.2.2.2.1 c2 (xty ci) c3 c4 hA.2.2.2.2.1 hA.2.2.2.2.2.2.2.2.1.1 h2 (xw_D _ _) h3 a (by rw [xw_get hk, xe_obj hc]) c1 j hj (hA.2.2.2.2.2.1 _ hl) (fun _ q => q) hfin (ty := .int) (by rw [c3 j hj, hty]) rfl rfl (by simp [xfs]; exact hj) hd (fun H1 locs1 g1 g2 g3 => ?_)
  refine (k _ v e2 kv).2 b1 b2 p e' s m args below meth c hA H1 locs1 ls h1 ?_ g3
  rw [← xw_set (h' := sI h a j x) hk rfl (xe_obj hc) (fun k2 s' hk2 => xe_off ?_ ?_ ?_)]
  · rw [xfs_set (h' := sI h a j x)] at g1
    · exact g1
    · rw [hty]; simp [xv, sI, cv]
    · intro k2 hk2; unfold xv; simp [sI, hk2]
  all_goals (funext z; simp [sI, hk2])
theorem j_putL {a idx : Nat} {x : Int64} {f : Hp → Option X} (ci N j : Nat) (hd : decode ι.1 pc = .ok (.putfield idx, 3)) (hl : Cond.fieldLink ι.2.1 idx (xtb ci j).1 (xtb ci j).2.1 (xtb ci j).2.2.1 ∈ xT) (hc : ci < 10) (hN : xnf ci = N) (hj : j < N) (hty : xty ci j = .long) (hfin : (xtb ci j).2.2.2 = false) (k : ∀ h', xJ ι κ K (pc + 3) L st h' (f h')) : xJ ι κ K pc L (.long x :: .ref a :: st) h ((xpL h a (ci, N) j x).bind f) := fun v e kv => by
  obtain ⟨h', e1, e2⟩ := Option.bind_eq_some_iff.mp e
  obtain ⟨hk, rfl⟩ := xif_some e1
  refine ⟨(k _ v e2 kv).1, fun b1 b2 p e' s m args below meth c hA H locs ls h1 h2 h3 => ?_⟩
  obtain ⟨c1, c2, c3, c4⟩ := xcls ci hc
  rw [hN] at c1 c2 c3 c4
  refine va_put hA.1 hA.2.1 hA.2.2.2.2.2.1 c2 (xty ci) c3 c4 hA.2.2.2.2.1 hA.2.2.2.2.2.2.2.2.1.1 h2 (xw_D _ _) h3 a (by rw [xw_get hk, xe_obj hc]) c1 j hj (hA.2.2.2.2.2.1 _ hl) (fun _ q => q) hfin (ty := .long) (by rw [c3 j hj, hty]) rfl rfl (by simp [xfs]; exact hj) hd (fun H1 locs1 g1 g2 g3 => ?_)
  refine (k _ v e2 kv).2 b1 b2 p e' s m args below meth c hA H1 locs1 ls h1 ?_ g3
  rw [← xw_set (h' := sL h a j x) hk rfl (xe_obj hc) (fun k2 s' hk2 => xe_off ?_ ?_ ?_)]
  · rw [xfs_set (h' := sL h a j x)] at g1
    · exact g1
    · rw [hty]; simp [xv, sL, cv]
    · intro k2 hk2; unfold xv; simp [sL, hk2]
  all_goals (funext z; simp [sL, hk2])
theorem j_putR {a r idx : Nat} {f : Hp → Option X} (ci N j : Nat) (hd : decode ι.1 pc = .ok (.putfield idx, 3)) (hl : Cond.fieldLink ι.2.1 idx (xtb ci j).1 (xtb ci j).2.1 (xtb ci j).2.2.1 ∈ xT) (hc : ci < 10) (hN : xnf ci = N) (hj : j < N) (hty : (∃ C, xty ci j = .object C) ∨ ∃ C, xty ci j = .array C) (hfin : (xtb ci j).2.2.2 = true) (hi : ι.2.2.1 = "<init>") (hdecl : (xtb ci j).1 = ι.2.1) (k : ∀ h', xJ ι κ K (pc + 3) L st h' (f h')) : xJ ι κ K pc L (.ref r :: .ref a :: st) h ((xpR h a (ci, N) j r).bind f) := fun v e kv => by
  obtain ⟨h', e1, e2⟩ := Option.bind_eq_some_iff.mp e
  obtain ⟨hk, rfl⟩ := xif_some e1
  refine ⟨(k _ v e2 kv).1, fun b1 b2 p e' s m args below meth c hA H locs ls h1 h2 h3 => ?_⟩
  obtain ⟨c1, c2, c3, c4⟩ := xcls ci hc
  rw [hN] at c1 c2 c3 c4
  refine va_putF hA.1 hA.2.1 hA.2.2.2.2.2.1 c2 (xty ci) c3 c4 hA.2.2.2.2.1 hA.2.2.2.2.2.2.2.2.1.1 h2 (xw_D _ _) h3 a (by rw [xw_get hk, xe_obj hc]) c1 j hj (hA.2.2.2.2.2.1 _ hl) (fun _ q => q) hfin (hA.2.2.2.2.2.2.2.1.trans hi) hdecl (ty := xty ci j) (c3 j hj) (by rcases hty with ⟨C, q⟩ | ⟨C, q⟩ <;> rw [q] <;> rfl) (by rcases hty with ⟨C, q⟩ | ⟨C, q⟩ <;> rw [q] <;> rfl) (by simp [xfs]; exact hj) hd (fun H1 locs1 g1 g2 g3 => ?_)
  refine (k _ v e2 kv).2 b1 b2 p e' s m args below meth c hA H1 locs1 ls h1 ?_ g3
  rw [← xw_set (h' := sR h a j r) hk rfl (xe_obj hc) (fun k2 s' hk2 => xe_off ?_ ?_ ?_)]
  · rw [xfs_set (h' := sR h a j r)] at g1
    · exact g1
    · rcases hty with ⟨C, q⟩ | ⟨C, q⟩ <;> rw [q] <;> simp [xv, sR, va_rf, cv]
    · intro k2 hk2; unfold xv; simp [sR, hk2]
  all_goals (funext z; simp [sR, hk2])
theorem j_iald {a : Nat} {i : Int32} {f : Int32 → Option X} (hd : decode ι.1 pc = .ok (.iaload, 1)) (k : ∀ x, xJ ι κ K (pc + 1) L (.int x :: st) h (f x)) : xJ ι κ K pc L (.int i :: .ref a :: st) h ((xaI h a 10 i).bind f) := fun v e kv => by
  obtain ⟨x, e1, e2⟩ := Option.bind_eq_some_iff.mp e
  obtain ⟨⟨s1, s2⟩, hk, e3⟩ := Option.bind_eq_some_iff.mp e1
  obtain ⟨⟨q1, q2, q3⟩, rfl⟩ := xif_some e3
  simp only at q1 q3
  subst q1
  refine ⟨(k _ v e2 kv).1, fun b1 b2 p e' s m args below meth c hA H locs ls h1 h2 h3 => ?_⟩
  exact va_iald hA.1 hA.2.1 hA.2.2.2.2.2.2.2.2.1.1 h2 a 0 (cA := κ.2.1.2.2.1 0) (n := s2) (f := h.2.1 a) (by rw [xw_get hk]; rfl) rfl (xi_of q2 q3) hd ((k _ v e2 kv).2 b1 b2 p e' s m args below meth c hA H locs ls h1 h2 h3)
theorem j_zald {a : Nat} {i : Int32} {f : Int32 → Option X} (hd : decode ι.1 pc = .ok (.baload, 1)) (k : ∀ x, xJ ι κ K (pc + 1) L (.int x :: st) h (f x)) : xJ ι κ K pc L (.int i :: .ref a :: st) h ((xaI h a 11 i).bind f) := fun v e kv => by
  obtain ⟨x, e1, e2⟩ := Option.bind_eq_some_iff.mp e
  obtain ⟨⟨s1, s2⟩, hk, e3⟩ := Option.bind_eq_some_iff.mp e1
  obtain ⟨⟨q1, q2, q3⟩, rfl⟩ := xif_some e3
  simp only at q1 q3
  subst q1
  refine ⟨(k _ v e2 kv).1, fun b1 b2 p e' s m args below meth c hA H locs ls h1 h2 h3 => ?_⟩
  exact va_zald hA.1 hA.2.1 hA.2.2.2.2.2.2.2.2.1.1 h2 a 1 (cA := κ.2.1.2.2.1 1) (n := s2) (f := h.2.1 a) (by rw [xw_get hk]; rfl) rfl (xi_of q2 q3) hd ((k _ v e2 kv).2 b1 b2 p e' s m args below meth c hA H locs ls h1 h2 h3)
theorem j_aald12 {a : Nat} {i : Int32} {f : Nat → Option X} (hd : decode ι.1 pc = .ok (.aaload, 1)) (k : ∀ x, xJ ι κ K (pc + 1) L (.ref x :: st) h (f x)) : xJ ι κ K pc L (.int i :: .ref a :: st) h ((xaR h a 12 i).bind f) := fun v e kv => by
  obtain ⟨x, e1, e2⟩ := Option.bind_eq_some_iff.mp e
  obtain ⟨⟨s1, s2⟩, hk, e3⟩ := Option.bind_eq_some_iff.mp e1
  obtain ⟨⟨q1, q2, q3⟩, hx⟩ := xif_o e3
  simp only at q1 q3
  subst q1
  refine ⟨(k _ v e2 kv).1, fun b1 b2 p e' s m args below meth c hA H locs ls h1 h2 h3 => ?_⟩
  have hw := (k x v e2 kv).2 b1 b2 p e' s m args below meth c hA H locs ls h1 h2 h3
  refine va_aldq hA.1 hA.2.1 hA.2.2.2.2.2.2.2.2.1.1 h2 a 2 (cA := κ.2.1.2.2.1 2) (n := s2) (f := fun j => (h.2.2.2 a j).map (fun r => κ.2.1.1 + r)) (by rw [xw_get hk]; rfl) rfl (xi_of q2 q3) hd ?_
  rw [hx]
  exact hw
theorem j_aald13 {a : Nat} {i : Int32} {f : Nat → Option X} (hd : decode ι.1 pc = .ok (.aaload, 1)) (k : ∀ x, xJ ι κ K (pc + 1) L (.ref x :: st) h (f x)) : xJ ι κ K pc L (.int i :: .ref a :: st) h ((xaR h a 13 i).bind f) := fun v e kv => by
  obtain ⟨x, e1, e2⟩ := Option.bind_eq_some_iff.mp e
  obtain ⟨⟨s1, s2⟩, hk, e3⟩ := Option.bind_eq_some_iff.mp e1
  obtain ⟨⟨q1, q2, q3⟩, hx⟩ := xif_o e3
  simp only at q1 q3
  subst q1
  refine ⟨(k _ v e2 kv).1, fun b1 b2 p e' s m args below meth c hA H locs ls h1 h2 h3 => ?_⟩
  have hw := (k x v e2 kv).2 b1 b2 p e' s m args below meth c hA H locs ls h1 h2 h3
  refine va_aldq hA.1 hA.2.1 hA.2.2.2.2.2.2.2.2.1.1 h2 a 3 (cA := κ.2.1.2.2.1 3) (n := s2) (f := fun j => (h.2.2.2 a j).map (fun r => κ.2.1.1 + r)) (by rw [xw_get hk]; rfl) rfl (xi_of q2 q3) hd ?_
  rw [hx]
  exact hw
theorem j_iast {a : Nat} {i x : Int32} {f : Hp → Option X} (hd : decode ι.1 pc = .ok (.iastore, 1)) (k : ∀ h', xJ ι κ K (pc + 1) L st h' (f h')) : xJ ι κ K pc L (.int x :: .int i :: .ref a :: st) h ((xsI h a i x).bind f) := fun v e kv => by
  obtain ⟨h', e1, e2⟩ := Option.bind_eq_some_iff.mp e
  obtain ⟨⟨s1, s2⟩, hk, e3⟩ := Option.bind_eq_some_iff.mp e1
  obtain ⟨⟨q1, q2, q3⟩, rfl⟩ := xif_some e3
  simp only at q1 q3
  subst q1
  refine ⟨(k _ v e2 kv).1, fun b1 b2 p e' s m args below meth c hA H locs ls h1 h2 h3 => ?_⟩
  refine va_iast hA.1 hA.2.1 hA.2.2.2.2.2.2.2.2.1.1 h2 (xw_D _ _) h3 a 0 (cA := κ.2.1.2.2.1 0) (n := s2) (f := h.2.1 a) (by rw [xw_get hk]; rfl) rfl (xi_of q2 q3) hd (fun H1 locs1 g1 g2 g3 => ?_)
  refine (k _ v e2 kv).2 b1 b2 p e' s m args below meth c hA H1 locs1 ls h1 ?_ g3
  rw [← xw_set (h' := sI h a i.toNatClampNeg x) hk rfl ?_ (fun k2 s' hk2 => xe_off ?_ ?_ ?_)]
  · exact g1
  · unfold xe
    simp only [sI, upd]
    first | rfl | (simp; funext z; by_cases hz : z = i.toNatClampNeg <;> simp [hz, upd])
  all_goals (funext z; simp [sI, hk2])
theorem j_zast {a : Nat} {i x : Int32} {f : Hp → Option X} (hd : decode ι.1 pc = .ok (.bastore, 1)) (k : ∀ h', xJ ι κ K (pc + 1) L st h' (f h')) : xJ ι κ K pc L (.int x :: .int i :: .ref a :: st) h ((xsZ h a i x).bind f) := fun v e kv => by
  obtain ⟨h', e1, e2⟩ := Option.bind_eq_some_iff.mp e
  obtain ⟨⟨s1, s2⟩, hk, e3⟩ := Option.bind_eq_some_iff.mp e1
  obtain ⟨⟨q1, q2, q3⟩, rfl⟩ := xif_some e3
  simp only at q1 q3
  subst q1
  refine ⟨(k _ v e2 kv).1, fun b1 b2 p e' s m args below meth c hA H locs ls h1 h2 h3 => ?_⟩
  refine va_zast hA.1 hA.2.1 hA.2.2.2.2.2.2.2.2.1.1 h2 (xw_D _ _) h3 a 1 (cA := κ.2.1.2.2.1 1) (n := s2) (f := h.2.1 a) (by rw [xw_get hk]; rfl) rfl (xi_of q2 q3) hd (fun H1 locs1 g1 g2 g3 => ?_)
  refine (k _ v e2 kv).2 b1 b2 p e' s m args below meth c hA H1 locs1 ls h1 ?_ g3
  rw [← xw_set (h' := sI h a i.toNatClampNeg (vp_nar .boolean x)) hk rfl ?_ (fun k2 s' hk2 => xe_off ?_ ?_ ?_)]
  · exact g1
  · unfold xe
    simp only [sI, upd]
    first | rfl | (simp; funext z; by_cases hz : z = i.toNatClampNeg <;> simp [hz, upd])
  all_goals (funext z; simp [sI, hk2])
theorem j_aast12 {a r : Nat} {i : Int32} {f : Hp → Option X} (hd : decode ι.1 pc = .ok (.aastore, 1)) (k : ∀ h', xJ ι κ K (pc + 1) L st h' (f h')) : xJ ι κ K pc L (.ref r :: .int i :: .ref a :: st) h ((xsR h a 12 i r (0, 16)).bind f) := fun v e kv => by
  obtain ⟨h', e1, e2⟩ := Option.bind_eq_some_iff.mp e
  obtain ⟨⟨s1, s2⟩, hk, e3⟩ := Option.bind_eq_some_iff.mp e1
  obtain ⟨⟨q1, q0, q2, q3⟩, rfl⟩ := xif_some e3
  simp only at q1 q3
  subst q1
  refine ⟨(k _ v e2 kv).1, fun b1 b2 p e' s m args below meth c hA H locs ls h1 h2 h3 => ?_⟩
  refine va_astq hA.1 hA.2.1 hA.2.2.2.2.2.2.2.2.1.1 h2 (xw_D _ _) h3 a 2 r 0 (cA := κ.2.1.2.2.1 2) (r := (xr 0, xtb 0, xnf 0)) (n := s2) (vs := xfs κ.2.1 h r 0 16) (f := fun j => (h.2.2.2 a j).map (fun r => κ.2.1.1 + r)) (by rw [xw_get hk]; rfl) rfl (by rw [xw_get q0]; rfl) (xcls 0 (by decide)).1 (xi_of q2 q3) hd (fun H1 locs1 g1 g2 g3 => ?_)
  refine (k _ v e2 kv).2 b1 b2 p e' s m args below meth c hA H1 locs1 ls h1 ?_ g3
  rw [← xw_set (h' := sR h a i.toNatClampNeg r) hk rfl ?_ (fun k2 s' hk2 => xe_off ?_ ?_ ?_)]
  · exact g1
  · unfold xe
    simp [sR]
    funext z; by_cases hz : z = i.toNatClampNeg <;> simp [hz, va_up]
  all_goals (funext z; simp [sR, hk2])
theorem j_aast13 {a r : Nat} {i : Int32} {f : Hp → Option X} (hd : decode ι.1 pc = .ok (.aastore, 1)) (k : ∀ h', xJ ι κ K (pc + 1) L st h' (f h')) : xJ ι κ K pc L (.ref r :: .int i :: .ref a :: st) h ((xsR h a 13 i r (5, 5)).bind f) := fun v e kv => by
  obtain ⟨h', e1, e2⟩ := Option.bind_eq_some_iff.mp e
  obtain ⟨⟨s1, s2⟩, hk, e3⟩ := Option.bind_eq_some_iff.mp e1
  obtain ⟨⟨q1, q0, q2, q3⟩, rfl⟩ := xif_some e3
  simp only at q1 q3
  subst q1
  refine ⟨(k _ v e2 kv).1, fun b1 b2 p e' s m args below meth c hA H locs ls h1 h2 h3 => ?_⟩
  refine va_astq hA.1 hA.2.1 hA.2.2.2.2.2.2.2.2.1.1 h2 (xw_D _ _) h3 a 3 r 5 (cA := κ.2.1.2.2.1 3) (r := (xr 5, xtb 5, xnf 5)) (n := s2) (vs := xfs κ.2.1 h r 5 5) (f := fun j => (h.2.2.2 a j).map (fun r => κ.2.1.1 + r)) (by rw [xw_get hk]; rfl) rfl (by rw [xw_get q0]; rfl) (xcls 5 (by decide)).1 (xi_of q2 q3) hd (fun H1 locs1 g1 g2 g3 => ?_)
  refine (k _ v e2 kv).2 b1 b2 p e' s m args below meth c hA H1 locs1 ls h1 ?_ g3
  rw [← xw_set (h' := sR h a i.toNatClampNeg r) hk rfl ?_ (fun k2 s' hk2 => xe_off ?_ ?_ ?_)]
  · exact g1
  · unfold xe
    simp [sR]
    funext z; by_cases hz : z = i.toNatClampNeg <;> simp [hz, va_up]
  all_goals (funext z; simp [sR, hk2])
theorem j_alen {a : Nat} {f : Int32 → Option X} (hd : decode ι.1 pc = .ok (.arraylength, 1)) (k : ∀ x, xJ ι κ K (pc + 1) L (.int x :: st) h (f x)) : xJ ι κ K pc L (.ref a :: st) h ((xal h a).bind f) := fun v e kv => by
  obtain ⟨x, e1, e2⟩ := Option.bind_eq_some_iff.mp e
  obtain ⟨⟨s1, s2⟩, hk, e3⟩ := Option.bind_eq_some_iff.mp e1
  obtain ⟨q1, rfl⟩ := xif_some e3
  simp only at q1
  subst q1
  refine ⟨(k _ v e2 kv).1, fun b1 b2 p e' s m args below meth c hA H locs ls h1 h2 h3 => ?_⟩
  exact va_alen hA.1 hA.2.1 hA.2.2.2.2.2.2.2.2.1.1 h2 a 0 (cA := κ.2.1.2.2.1 0) (x := (s2, .inl (h.2.1 a))) (by rw [xw_get hk]; rfl) (ty := .int) rfl rfl hd ((k _ v e2 kv).2 b1 b2 p e' s m args below meth c hA H locs ls h1 h2 h3)
theorem j_copy {a0 a1 idx : Nat} {sp dp n : Int32} {f : Hp → Option X} (hd : decode ι.1 pc = .ok (.invokestatic idx, 3)) (hl : Cond.methodLink ι.2.1 idx arraycopyName ∈ xT) (hn : Cond.native arraycopyName ∈ xT) (hs : Cond.static arraycopyName ∈ xT) (hi : Cond.initialized "java/lang/System" ∈ xT) (hst : (st.map fun v => v.category).sum ≤ 8) (hdp : 2 ≤ ι.2.2.2.2.2) (k : ∀ h', xJ ι κ K (pc + 3) L st h' (f h')) : xJ ι κ K pc L (.int n :: .int dp :: .ref a1 :: .int sp :: .ref a0 :: st) h ((xcp h a0 sp a1 dp n).bind f) := fun v e kv => by
  obtain ⟨h', e1, e2⟩ := Option.bind_eq_some_iff.mp e
  obtain ⟨⟨s1, s2⟩, hk0, e3⟩ := Option.bind_eq_some_iff.mp e1
  obtain ⟨⟨t1, t2⟩, hk1, e4⟩ := Option.bind_eq_some_iff.mp e3
  obtain ⟨⟨q1, q2, q3, q4, q5, q6, q7⟩, rfl⟩ := xif_some e4
  simp only at q1 q2 q6 q7
  subst q1
  subst q2
  refine ⟨(k _ v e2 kv).1, fun b1 b2 p e' s m args below meth c hA H locs ls h1 h2 h3 => ?_⟩
  have nn : ∀ y : Int32, 0 ≤ y.toInt → ¬ y < 0 ∧ (y.toNatClampNeg : Int) = y.toInt := fun y hy => ⟨fun q => by have := Int32.lt_iff_toInt_lt.mp q; simp at this; omega, by show ((y.toInt.toNat : Nat) : Int) = y.toInt; omega⟩
  obtain ⟨g1, g2⟩ := nn sp q3
  obtain ⟨g3, g4⟩ := nn dp q4
  obtain ⟨g5, g6⟩ := nn n q5
  refine va_copyi hA.1 hA.2.1 (hA.2.2.2.1.trans h1.1.symm) hA.2.2.2.2.1 (hA.2.2.2.2.2.1 _ hl) (hA.2.2.2.2.2.1 _ hn) (hA.2.2.2.2.2.1 _ hs) (hA.2.2.2.2.2.1 _ hi) hA.2.2.2.2.2.2.2.2.1.1 h2 (xw_D _ _) h3 a0 a1 0 0 (c0 := κ.2.1.2.2.1 0) (c1 := κ.2.1.2.2.1 0) (n0 := s2) (n1 := t2) (f := h.2.1 a0) (g := h.2.1 a1) (ty := .int) (by rw [xw_get hk0]; rfl) (by rw [xw_get hk1]; rfl) rfl rfl rfl g1 g3 g5 (by omega) (by omega) (fun _ _ => rfl) ?_ ?_ hd (fun H1 locs1 z1 z2 z3 => ?_)
  · show 1 ≤ (xR ι κ).frames
    simp only [xR]; omega
  · show _ ≤ (xR ι κ).locals
    simp only [xR, List.map_map]
    have hq : (st.map ((fun v => v.category) ∘ cv κ.2.1)).sum = (st.map fun v => v.category).sum := by congr 1; apply List.map_congr_left; intro v _; exact cv_cat _ v
    have hw : nativeFrameWords "java/lang/System" "arraycopy" 5 ≤ 40 := by decide
    omega
  · refine (k _ v e2 kv).2 b1 b2 p e' s m args below meth c hA H1 locs1 ls h1 ?_ z3
    rw [← xw_set (h := h) (h' := scp h a0 sp a1 dp n) hk1 rfl ?_ (fun k2 s' hk2 => xe_off ?_ ?_ ?_)]
    · exact z1
    · unfold xe
      simp [scp]
    · funext z; simp [hk2, scp]
    · rfl
    · rfl
end XH
