section TRAJ
variable {h : Hp}
/-- who is up, scraped, left, and the levy, after m stops from stop k0 on -/
def tr (f on : Nat → Int32) (hgt : Nat → Int32) (sk : Nat → Bool) (k0 : Nat) (y : (Nat × Nat × Nat) × Int32) : Nat → (Nat × Nat × Nat) × Int32
  | 0 => y
  | m + 1 => (stN f on (nI (k0 + m)) (sk (k0 + m)) (hgt (k0 + m)) (tr f on hgt sk k0 y m).1, (tr f on hgt sk k0 y m).2 + swN f (nI (k0 + m)) (stN f on (nI (k0 + m)) (sk (k0 + m)) (hgt (k0 + m)) (tr f on hgt sk k0 y m).1).1 (nn f))
theorem tr_lt {f on hgt : Nat → Int32} {sk : Nat → Bool} {k0 : Nat} {y : (Nat × Nat × Nat) × Int32} (n7 : nn f ≤ 7) (hx : y.1.1 < 128 ∧ y.1.2.1 < 128 ∧ y.1.2.2 < 128) : ∀ m, (tr f on hgt sk k0 y m).1.1 < 128 ∧ (tr f on hgt sk k0 y m).1.2.1 < 128 ∧ (tr f on hgt sk k0 y m).1.2.2 < 128
  | 0 => hx
  | m + 1 => stN_lt n7 (tr_lt n7 hx m)
theorem rwN_rwN (F : Nat → Int32) (x y : Nat × Nat × Nat) (a b c d : Int32) : rwN (rwN F x a b) y c d = rwN F y c d := by
  funext j; simp only [rwN]
  by_cases j0 : j = 0
  · simp [j0]
  · by_cases j1 : j = 1
    · simp [j1]
    · by_cases j2 : j = 2
      · simp [j2]
      · by_cases j3 : j = 3
        · simp [j3]
        · by_cases j4 : j = 4
          · simp [j4]
          · simp [j0, j1, j2, j3, j4]
theorem rwH_rwH (F : Nat → Int32) (x y : Nat × Nat × Nat) (a b c d : Int32) : rwH (rwH F x a b) y c d = rwH F y c d := by
  funext j; simp only [rwH]
  by_cases j0 : j = 3
  · simp [j0]
  · by_cases j1 : j = 4
    · simp [j1]
    · by_cases j2 : j = 5
      · simp [j2]
      · by_cases j3 : j = 6
        · simp [j3]
        · by_cases j4 : j = 7
          · simp [j4]
          · simp [j0, j1, j2, j3, j4]
theorem rwN_same {F : Nat → Int32} {x : Nat × Nat × Nat} {a b : Int32} (e0 : F 0 = b) (e1 : F 1 = nI x.1) (e2 : F 2 = nI x.2.1) (e3 : F 3 = nI x.2.2) (e4 : F 4 = a) : rwN F x a b = F := by
  funext j; simp only [rwN]
  by_cases j0 : j = 0
  · simp [j0, e0]
  · by_cases j1 : j = 1
    · simp [j1, e1]
    · by_cases j2 : j = 2
      · simp [j2, e2]
      · by_cases j3 : j = 3
        · simp [j3, e3]
        · by_cases j4 : j = 4
          · simp [j4, e4]
          · simp [j0, j1, j2, j3, j4]
theorem rwH_same {F : Nat → Int32} {x : Nat × Nat × Nat} {a b : Int32} (e0 : F 3 = b) (e1 : F 4 = nI x.1) (e2 : F 5 = nI x.2.1) (e3 : F 6 = nI x.2.2) (e4 : F 7 = a) : rwH F x a b = F := by
  funext j; simp only [rwH]
  by_cases j0 : j = 3
  · simp [j0, e0]
  · by_cases j1 : j = 4
    · simp [j1, e1]
    · by_cases j2 : j = 5
      · simp [j2, e2]
      · by_cases j3 : j = 6
        · simp [j3, e3]
        · by_cases j4 : j = 7
          · simp [j4, e4]
          · simp [j0, j1, j2, j3, j4]
theorem HR_rw {K f on : Nat → Int32} (x : Nat × Nat × Nat) (a b : Int32) (H : HR K f on) : HR (rwH K x a b) f on := by
  have e : ∀ j, 8 ≤ j → rwH K x a b j = K j := fun j hj => by simp only [rwH]; rw [if_neg (by omega), if_neg (by omega), if_neg (by omega), if_neg (by omega), if_neg (by omega)]
  refine ⟨by rw [e 8 (by omega)]; exact H.1, fun i hi => ?_⟩
  rw [e _ (by omega), e _ (by omega), e _ (by omega), e _ (by omega), e _ (by omega)]; exact H.2 i hi
/-- one stop of the class, from the m-th state to the next -/
theorem pass_m {f on : Nat → Int32} {r w k0 m : Nat} {y : (Nat × Nat × Nat) × Int32} {lift : Int32} (g : GH h) (hr : isR r) (hw : isW w) (B : BT h f) (W : WF f) (hk : k0 + m < 10) (ho : ∀ i, i < nn f → h.2.1 w i = on i) (hx : y.1.1 < 128 ∧ y.1.2.1 < 128 ∧ y.1.2.2 < 128) (F : Nat → Int32) : fX0_passStop 1 r w lift (sF h r (rwN F (tr f on (fun k => f (9 + k) + lift) (fun k => decide (f (9 + k) = 0)) k0 y m).1 (tr f on (fun k => f (9 + k) + lift) (fun k => decide (f (9 + k) = 0)) k0 y m).2 (nI (k0 + m)))) = some (sF h r (rwN F (tr f on (fun k => f (9 + k) + lift) (fun k => decide (f (9 + k) = 0)) k0 y (m + 1)).1 (tr f on (fun k => f (9 + k) + lift) (fun k => decide (f (9 + k) = 0)) k0 y (m + 1)).2 (nI (k0 + (m + 1))))) := by
  have n7 := (n_eq W).2.1
  have hrw : ¬ w = r := by rcases hr with rfl | rfl <;> rcases hw with rfl | rfl <;> decide
  have lt := tr_lt (f := f) (on := on) (hgt := fun k => f (9 + k) + lift) (sk := fun k => decide (f (9 + k) = 0)) (k0 := k0) n7 hx m
  simp only [tr]
  generalize tr f on (fun k => f (9 + k) + lift) (fun k => decide (f (9 + k) = 0)) k0 y m = z at lt
  rw [passStop_e (h := sF h r (rwN F z.1 z.2 (nI (k0 + m)))) (f := f) (on := on) (r := r) (w := w) (k := k0 + m) (x := z.1) (lift := lift) g hr hw (BT_F B hr) W hk (fun i hi => by simp only [sF_I]; rw [if_neg hrw]; exact ho i hi) lt (by simp [sF_I, rwN]) (by simp [sF_I, rwN]) (by simp [sF_I, rwN]) (by simp [sF_I, rwN]), sF_s]
  simp only [sF_I, if_true]
  rw [rwN_rwN]
  simp [rwN, Nat.add_assoc]
theorem goTill_e {f on hgt : Nat → Int32} {k0 M : Nat} {y : (Nat × Nat × Nat) × Int32} (g : GH h) (eN : h.2.1 100 0 = nI (nn f)) (W : WF f) (H0 : HR (h.2.1 104) f on) (hk : k0 + M ≤ 10) (hx : y.1.1 < 128 ∧ y.1.2.1 < 128 ∧ y.1.2.2 < 128) (e3 : h.2.1 104 3 = nI k0) (e4 : h.2.1 104 4 = nI y.1.1) (e5 : h.2.1 104 5 = nI y.1.2.1) (e6 : h.2.1 104 6 = nI y.1.2.2) (e7 : h.2.1 104 7 = y.2) (eh : ∀ k, k < 10 → h.2.1 104 (9 + k) = hgt k) : fX9_goTill 99 (nI (k0 + M)) h = some (sF h 104 (rwH (h.2.1 104) (tr f on hgt (fun k => decide (hgt k ≤ 0)) k0 y M).1 (tr f on hgt (fun k => decide (hgt k ≤ 0)) k0 y M).2 (nI (k0 + M)))) := by
  have n7 := (n_eq W).2.1
  have gg : ∀ F, GH (sF h 104 F) := fun F => g
  have hl : xloop (fX9_goTill_b0 99 (nI (k0 + M))) 1000000 h = some (sF h 104 (rwH (h.2.1 104) (tr f on hgt (fun k => decide (hgt k ≤ 0)) k0 y M).1 (tr f on hgt (fun k => decide (hgt k ≤ 0)) k0 y M).2 (nI (k0 + M)))) := by
    refine xloop_c (fun m => sF h 104 (rwH (h.2.1 104) (tr f on hgt (fun k => decide (hgt k ≤ 0)) k0 y m).1 (tr f on hgt (fun k => decide (hgt k ≤ 0)) k0 y m).2 (nI (k0 + m)))) _ M (by omega) ?_ ?_ ?_
    · intro m hm
      have lt := tr_lt (f := f) (on := on) (hgt := hgt) (sk := fun k => decide (hgt k ≤ 0)) (k0 := k0) n7 hx m
      simp only [tr]
      generalize tr f on hgt (fun k => decide (hgt k ≤ 0)) k0 y m = z at lt
      simp only [fX9_goTill_b0]
      rw [gR99_6 (gg _), Option.bind_some, a104_3 (gg _), Option.bind_some]
      simp only [sF_I, if_true]
      have r3 : rwH (h.2.1 104) z.1 z.2 (nI (k0 + m)) 3 = nI (k0 + m) := by simp [rwH]
      have r9 : rwH (h.2.1 104) z.1 z.2 (nI (k0 + m)) (9 + (k0 + m)) = hgt (k0 + m) := by
        simp only [rwH]; rw [if_neg (by omega), if_neg (by omega), if_neg (by omega), if_neg (by omega), if_neg (by omega)]; exact eh _ (by omega)
      rw [r3, if_neg (by rw [le_nI (by omega) (by omega)]; omega), gT99 (gg _), goStop_e (h := sF h 104 (rwH (h.2.1 104) z.1 z.2 (nI (k0 + m)))) (f := f) (on := on) (k := k0 + m) (x := z.1) (hg := hgt (k0 + m)) (gg _) eN W (by simpa [sF_I] using HR_rw z.1 z.2 (nI (k0 + m)) H0) (by omega) lt (by simp [sF_I, rwH]) (by simp [sF_I, rwH]) (by simp [sF_I, rwH]) (by simp [sF_I, rwH]) (by simpa [sF_I] using r9), Option.bind_some, sF_s]
      simp only [sF_I, if_true]
      rw [rwH_rwH]
      simp [rwH, Nat.add_assoc]
    · simp only [fX9_goTill_b0]
      rw [gR99_6 (gg _), Option.bind_some, a104_3 (gg _), Option.bind_some]
      simp only [sF_I, if_true]
      have r3 : ∀ z w, rwH (h.2.1 104) z w (nI (k0 + M)) 3 = nI (k0 + M) := fun z w => by simp [rwH]
      rw [r3, if_pos (by rw [le_nI (by omega) (by omega)]; omega)]
    · simp only [tr, Nat.add_zero]
      rw [rwH_same e3 e4 e5 e6 e7, sF_same]
  simp only [fX9_goTill, hl, Option.bind_some]
theorem layHand_e (g : GH h) : fX9_layHand 99 h = some (sF h 104 (fun k => if k < 54 then h.2.1 100 k else h.2.1 104 k)) := by
  have hl : xloop (fX9_layHand_b2 99) 1000000 (0, h) = some (sF h 104 (fun k => if k < 54 then h.2.1 100 k else h.2.1 104 k)) := by
    refine xloop_c (fun i => (nI i, sF h 104 (fun k => if k < i then h.2.1 100 k else h.2.1 104 k))) _ 54 (by decide) ?_ ?_ ?_
    · intro i hi
      have gg : ∀ F, GH (sF h 104 F) := fun F => g
      simp only [fX9_layHand_b2]
      rw [if_neg (by rw [show (54 : Int32) = nI 54 from rfl, le_nI (by omega) (by omega)]; omega), gR99_6 (gg _), Option.bind_some, gR99_0 (gg _), Option.bind_some, aN100 (gg _) (by omega), Option.bind_some, sN104 (gg _) (by omega), Option.bind_some, sF_s, nI_1]
      congr 4
      funext k
      simp only [upd_e, sF_I, if_true]
      by_cases h1 : k = i
      · subst h1; simp
      · by_cases h2 : k < i
        · simp [h1, h2, show k < i + 1 by omega]
        · simp [h1, h2, show ¬ k < i + 1 by omega]
    · simp only [fX9_layHand_b2]
      rw [if_pos (by decide)]
    · have : (fun k => if k < 0 then h.2.1 100 k else h.2.1 104 k) = h.2.1 104 := by funext k; rw [if_neg (by omega)]
      rw [this, sF_same]; rfl
  simp only [fX9_layHand, hl, Option.bind_some]
end TRAJ
