section STOP3
variable {h : Hp}
/-- who is up, scraped off, left behind after a stop -/
def stN (f on : Nat → Int32) (s : Int32) (sk : Bool) (hg : Int32) (x : Nat × Nat × Nat) : Nat × Nat × Nat :=
  if sk = true then ((onN f on s (offN f s x.1 (nn f), x.2.2) (nn f)).1, x.2.1, (onN f on s (offN f s x.1 (nn f), x.2.2) (nn f)).2)
  else ((scN f s hg ((onN f on s (offN f s x.1 (nn f), x.2.2) (nn f)).1, x.2.1) (nn f)).1, (scN f s hg ((onN f on s (offN f s x.1 (nn f), x.2.2) (nn f)).1, x.2.1) (nn f)).2, (onN f on s (offN f s x.1 (nn f), x.2.2) (nn f)).2)
def rwN (F : Nat → Int32) (x : Nat × Nat × Nat) (lv st : Int32) : Nat → Int32 := fun j => if j = 0 then st else if j = 1 then nI x.1 else if j = 2 then nI x.2.1 else if j = 3 then nI x.2.2 else if j = 4 then lv else F j
theorem stN_lt {f on : Nat → Int32} {s hg : Int32} {sk : Bool} {x : Nat × Nat × Nat} (n7 : nn f ≤ 7) (hx : x.1 < 128 ∧ x.2.1 < 128 ∧ x.2.2 < 128) : (stN f on s sk hg x).1 < 128 ∧ (stN f on s sk hg x).2.1 < 128 ∧ (stN f on s sk hg x).2.2 < 128 := by
  have h1 := offN_lt (f := f) (s := s) hx.1 (nn f)
  have h2 := onN_lt (f := f) (on := on) (s := s) (p := (offN f s x.1 (nn f), x.2.2)) ⟨h1, hx.2.2⟩ (nn f) n7
  have h3 := scN_lt (f := f) (s := s) (hg := hg) (p := ((onN f on s (offN f s x.1 (nn f), x.2.2) (nn f)).1, x.2.1)) ⟨h2.1, hx.2.1⟩ (nn f) n7
  unfold stN
  split
  · exact ⟨h2.1, hx.2.1, h2.2⟩
  · exact ⟨h3.1, h3.2, h2.2⟩
theorem k9 {k : Nat} (hk : k < 10) : inb (nI k).toInt 0 9 = 1 := inb_ok ⟨by rw [nI_toInt (by omega)]; omega, by rw [nI_toInt (by omega)]; omega⟩
theorem passStop_e {f on : Nat → Int32} {r w k : Nat} {x : Nat × Nat × Nat} {lift : Int32} (g : GH h) (hr : isR r) (hw : isW w) (B : BT h f) (W : WF f) (hk : k < 10) (ho : ∀ i, i < nn f → h.2.1 w i = on i) (hx : x.1 < 128 ∧ x.2.1 < 128 ∧ x.2.2 < 128) (e0 : h.2.1 r 0 = nI k) (e1 : h.2.1 r 1 = nI x.1) (e2 : h.2.1 r 2 = nI x.2.1) (e3 : h.2.1 r 3 = nI x.2.2) : fX0_passStop 1 r w lift h = some (sF h r (rwN (h.2.1 r) (stN f on (nI k) (decide (f (9 + k) = 0)) (f (9 + k) + lift) x) (h.2.1 r 4 + swN f (nI k) (stN f on (nI k) (decide (f (9 + k) = 0)) (f (9 + k) + lift) x).1 (nn f)) (nI (k + 1)))) := by
  have n7 := (n_eq W).2.1
  have hb : isB 1 := Or.inl rfl
  have hrw : ¬ w = r := by rcases hr with rfl | rfl <;> rcases hw with rfl | rfl <;> decide
  have a1 := letOff_e (s := nI k) g hr B n7 hx.1 e1
  have l1 := offN_lt (f := f) (s := nI k) hx.1 (nn f)
  have gg : ∀ F, GH (sF h r F) := fun F => g
  have a2 := letOn_e (h := sF h r (upd (h.2.1 r) 1 (nI (offN f (nI k) x.1 (nn f))))) (on := on) (w := w) (p := (offN f (nI k) x.1 (nn f), x.2.2)) (s := nI k) (gg _) hr hw (BT_F B hr) n7 (fun i hi => by simp only [sF_I]; rw [if_neg hrw]; exact ho i hi) ⟨l1, hx.2.2⟩ (by simp [sF_I, upd_e]) (by simp [sF_I, upd_e, e3])
  have l2 := onN_lt (f := f) (on := on) (s := nI k) (p := (offN f (nI k) x.1 (nn f), x.2.2)) ⟨l1, hx.2.2⟩ (nn f) n7
  rw [sF_s] at a2
  simp only [sF_I, if_true] at a2
  have a3 := fun F q1 q2 q3 => scrape_e (h := sF h r F) (f := f) (r := r) (k := k) (p := ((onN f on (nI k) (offN f (nI k) x.1 (nn f), x.2.2) (nn f)).1, x.2.1)) (lift := lift) (gg F) hr (BT_F B hr) W hk q1 q2 q3
  have a4 := fun F u => swayAll_e (h := sF h r F) (f := f) (u := u) (s := nI k) (gg F) (BT_F B hr) W
  simp only [fX0_passStop]
  rw [e_gI (gsR g hr), Option.bind_some, e0, within_e, Option.bind_some]
  simp only [t32_0, t32_9]
  rw [k9 hk, if_neg (by decide), e_at (gb0 g hb), a1, Option.bind_some, e_at (gb0 (gg _) hb), a2, Option.bind_some, e_at (gb0 (gg _) hb), a3 _ ⟨l2.1, hx.2.1⟩ (by simp [sF_I, upd_e]) (by simp [sF_I, upd_e, e2]), Option.bind_some]
  by_cases z : f (9 + k) = 0
  · rw [if_pos z, e_gI (gsR (gg _) hr), Option.bind_some, e_gI (gsR (gg _) hr), Option.bind_some]
    simp only [sF_I, if_true]
    have v1 : upd (upd (upd (h.2.1 r) 1 (nI (offN f (nI k) x.1 (nn f)))) 1 (nI (onN f on (nI k) (offN f (nI k) x.1 (nn f), x.2.2) (nn f)).1)) 3 (nI (onN f on (nI k) (offN f (nI k) x.1 (nn f), x.2.2) (nn f)).2) 1 = nI (onN f on (nI k) (offN f (nI k) x.1 (nn f), x.2.2) (nn f)).1 := by simp [upd_e]
    rw [v1, e_at (gb0 (gg _) hb), a4, Option.bind_some, e_pI (gsR (gg _) hr), Option.bind_some, sF_s, e_pI (gsR (gg _) hr), Option.bind_some, sF_s]
    simp only [sF_I, if_true, stN, z, decide_true]
    congr 2
    funext j
    simp only [upd_e, rwN, nI_1]
    by_cases j0 : j = 0
    · simp [j0]
    · by_cases j1 : j = 1
      · simp [j1]
      · by_cases j2 : j = 2
        · simp [j2, e2]
        · by_cases j3 : j = 3
          · simp [j3]
          · by_cases j4 : j = 4
            · simp [j4]
            · simp [j0, j1, j2, j3, j4]
  · rw [if_neg z, sF_s, e_gI (gsR (gg _) hr), Option.bind_some, e_gI (gsR (gg _) hr), Option.bind_some]
    simp only [sF_I, if_true]
    have dz : decide (f (9 + k) = 0) = false := by simp [z]
    generalize hp : onN f on (nI k) (offN f (nI k) x.1 (nn f), x.2.2) (nn f) = p
    generalize hq : scN f (nI k) (f (9 + k) + lift) (p.1, x.2.1) (nn f) = q
    have hst : stN f on (nI k) (decide (f (9 + k) = 0)) (f (9 + k) + lift) x = (q.1, q.2, p.2) := by
      rw [dz]; unfold stN; rw [if_neg (by decide), hp, hq]
    rw [hst]
    have v1 : ∀ F : Nat → Int32, upd (upd F 1 (nI q.1)) 2 (nI q.2) 1 = nI q.1 := fun F => by simp [upd_e]
    rw [v1, e_at (gb0 (gg _) hb), a4, Option.bind_some, e_pI (gsR (gg _) hr), Option.bind_some, sF_s, e_pI (gsR (gg _) hr), Option.bind_some, sF_s]
    simp only [sF_I, if_true]
    congr 2
    funext j
    simp only [upd_e, rwN, nI_1]
    by_cases j0 : j = 0
    · simp [j0]
    · by_cases j1 : j = 1
      · simp [j1]
      · by_cases j2 : j = 2
        · simp [j2]
        · by_cases j3 : j = 3
          · simp [j3]
          · by_cases j4 : j = 4
            · simp [j4]
            · simp [j0, j1, j2, j3, j4]
end STOP3
