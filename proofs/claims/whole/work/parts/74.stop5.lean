section STOP5
variable {h : Hp}
theorem has_bt (x : Int32) (i : Nat) (h : Hp) : fX9_has x (nI i) h = some (if bt1 x i = 1 then 1 else 0) := has9_e x (nI i) h
theorem go170_no {f : Nat → Int32} {k : Nat} (g : GH h) (eN : h.2.1 100 0 = nI (nn f)) (n7 : nn f ≤ 7) (hk : k < 10) (e : h.2.1 104 (9 + k) ≤ 0) : xloop (fX9_goStop_b170 99 (nI k)) 1000000 (0, h) = some (99, nI k, h) := by
  refine xloop_c (fun _ => (0, h)) _ 0 (by decide) (fun i hi => by omega) ?_ rfl
  simp only [fX9_goStop_b170]
  rw [many_at g eN, Option.bind_some]
  by_cases z : nI (nn f) ≤ 0
  · rw [if_pos z]
  · rw [if_neg z, gR99_6 g, Option.bind_some, la9, aN104 g (by omega), Option.bind_some, if_pos e]
theorem go170_e {f on : Nat → Int32} {p : Nat × Nat} {k : Nat} {hg : Int32} (g : GH h) (eN : h.2.1 100 0 = nI (nn f)) (W : WF f) (HR0 : HR (h.2.1 104) f on) (hk : k < 10) (hp : p.1 < 128 ∧ p.2 < 128) (e1 : h.2.1 104 4 = nI p.1) (e3 : h.2.1 104 5 = nI p.2) (eh : h.2.1 104 (9 + k) = hg) (hh : ¬ hg ≤ 0) : xloop (fX9_goStop_b170 99 (nI k)) 1000000 (0, h) = some (99, nI k, sF h 104 (upd (upd (h.2.1 104) 4 (nI (scN f (nI k) hg p (nn f)).1)) 5 (nI (scN f (nI k) hg p (nn f)).2))) := by
  have n7 := (n_eq W).2.1
  refine xloop_c (fun i => (nI i, sF h 104 (upd (upd (h.2.1 104) 4 (nI (scN f (nI k) hg p i).1)) 5 (nI (scN f (nI k) hg p i).2)))) _ (nn f) (by omega) ?_ ?_ ?_
  · intro i hi
    obtain ⟨l1, l2⟩ := scN_lt (f := f) (s := nI k) (hg := hg) hp i (by omega)
    simp only [scN]
    generalize hq : scN f (nI k) hg p i = q at l1 l2
    have H' := HR_u (j := 5) (x := nI q.2) (HR_u (j := 4) (x := nI q.1) HR0 (by omega)) (by omega)
    generalize hK : upd (upd (h.2.1 104) 4 (nI q.1)) 5 (nI q.2) = K at H'
    have k4 : K 4 = nI q.1 := by rw [← hK]; simp [upd_e]
    have k5 : K 5 = nI q.2 := by rw [← hK]; simp [upd_e]
    have k9 : K (9 + k) = hg := by rw [← hK]; simp only [upd_e]; rw [if_neg (by omega), if_neg (by omega), eh]
    have gg : ∀ F, GH (sF h 104 F) := fun F => g
    have o1 := off_bit _ l1 i (by omega)
    have o2 := or_bit _ l2 i (by omega)
    have w0 : upd K 5 (nI q.2) = K := upd_self k5
    have w00 : upd K 4 (nI q.1) = K := upd_self k4
    have w2 : upd (upd K 5 (nI (q.2 ||| 2 ^ i))) 4 (nI (q.1 &&& (127 - 2 ^ i))) = upd (upd (h.2.1 104) 4 (nI (q.1 &&& (127 - 2 ^ i)))) 5 (nI (q.2 ||| 2 ^ i)) := by
      rw [← hK]; funext k; simp only [upd_e]; by_cases z : k = 5 <;> by_cases z2 : k = 4 <;> simp [z, z2]
    have w3 : upd K 5 (nI (q.2 ||| 2 ^ i)) 4 = nI q.1 := by rw [upd_e, if_neg (by omega), k4]
    have yes : fX9_goStop_j233 99 (nI k) (nI i) 1 (sF h 104 K) = some (Sum.inl (nI (i + 1), sF h 104 (upd (upd (h.2.1 104) 4 (nI (q.1 &&& (127 - 2 ^ i)))) 5 (nI (q.2 ||| 2 ^ i))))) := by
      simp only [fX9_goStop_j233, fX9_goStop_j252, fX9_goStop_j274, ne10, if_false]
      rw [gR99_6 (gg _), Option.bind_some, a104_5 (gg _), Option.bind_some]
      simp only [sF_I, if_true]
      rw [k5, o2, s104_5 (gg _), Option.bind_some, sF_s, gR99_6 (gg _), Option.bind_some, a104_4 (gg _), Option.bind_some]
      simp only [sF_I, if_true]
      rw [w3, o1, s104_4 (gg _), Option.bind_some, sF_s, nI_1]
      simp only [sF_I, if_true]
      rw [w2]
    have no : fX9_goStop_j233 99 (nI k) (nI i) 0 (sF h 104 K) = some (Sum.inl (nI (i + 1), sF h 104 K)) := by
      simp only [fX9_goStop_j233, fX9_goStop_j252, fX9_goStop_j274, if_true]
      rw [gR99_6 (gg _), Option.bind_some, a104_5 (gg _), Option.bind_some]
      simp only [sF_I, if_true]
      rw [k5, or_z, s104_5 (gg _), Option.bind_some, sF_s, gR99_6 (gg _), Option.bind_some, a104_4 (gg _), Option.bind_some]
      simp only [sF_I, if_true]
      rw [w0, k4, and_m1, s104_4 (gg _), Option.bind_some, sF_s, nI_1]
      simp only [sF_I, if_true]
      rw [w00]
    simp only [fX9_goStop_b170, fX9_goStop_j232]
    rw [many_at (h := sF h 104 K) (gg _) eN, Option.bind_some, if_neg (by rw [le_nI (by omega) (by omega)]; omega), gR99_6 (gg _), Option.bind_some, la9, aN104 (gg _) (by omega), Option.bind_some]
    simp only [sF_I, if_true]
    rw [k9, if_neg hh, Option.bind_some, a104_4 (gg _), Option.bind_some]
    simp only [sF_I, if_true]
    rw [k4, has_bt, Option.bind_some]
    by_cases z1 : bt1 (nI q.1) i = 1
    · rw [if_pos z1, if_neg (by decide), Option.bind_some, la19, aN104 (gg _) (by omega), Option.bind_some]
      simp only [sF_I, if_true]
      rw [(H'.2 i hi).1, tallAs_e (W.2.2.1 i hi).1, Option.bind_some, Option.bind_some, aN104 (gg _) (by omega), Option.bind_some]
      simp only [sF_I, if_true]
      rw [k9]
      by_cases z2 : taS (f (19 + i)) (nI k) ≤ hg
      · rw [if_pos z2, if_neg (fun z => z.2 z2), no, hK]
      · rw [if_neg z2, if_pos ⟨z1, z2⟩, yes]
    · rw [if_neg z1, if_pos rfl, if_neg (fun z => z1 z.1), no, hK]
  · simp only [fX9_goStop_b170]
    rw [many_at (h := sF h 104 _) g eN, Option.bind_some, if_pos (by rw [le_nI (by omega) (by omega)]; omega)]
  · simp only [scN]; rw [upd_self e1, upd_self e3, sF_same]; rfl
theorem mswayAll_e {f on : Nat → Int32} {u : Nat} {s : Int32} (g : GH h) (eN : h.2.1 100 0 = nI (nn f)) (W : WF f) (HR0 : HR (h.2.1 104) f on) : fX9_swayOfAll 99 (nI u) s h = some (swN f s u (nn f)) := by
  have n7 := (n_eq W).2.1
  have hl : xloop (fX9_swayOfAll_b5 99 (nI u) s h) 1000000 (0, 0) = some (swN f s u (nn f)) := by
    refine xloop_c (fun i => (swN f s u i, nI i)) _ (nn f) (by omega) ?_ ?_ rfl
    · intro i hi
      simp only [fX9_swayOfAll_b5, fX9_swayOfAll_j35, fX9_swayOf]
      rw [many_at g eN, Option.bind_some, if_neg (by rw [le_nI (by omega) (by omega)]; omega), has_bt, Option.bind_some, gT99 g, gR99_6 g, Option.bind_some, la19, aN104 g (by omega), Option.bind_some, Option.bind_some, la26, aN104 g (by omega), Option.bind_some, (HR0.2 i hi).1, (HR0.2 i hi).2.1, swayAs_e (W.2.2.1 i hi).1, Option.bind_some, Option.bind_some, nI_1]
      simp only [swN]
      by_cases q : bt1 (nI u) i = 1
      · simp only [q, if_true]; rw [if_neg (by decide)]
      · simp only [q, if_false, if_true]; simp
    · simp only [fX9_swayOfAll_b5]
      rw [many_at g eN, Option.bind_some, if_pos (by rw [le_nI (by omega) (by omega)]; omega)]
  simp only [fX9_swayOfAll, hl, Option.bind_some]
end STOP5
