section BETTER
variable {h : Hp}
theorem bc_or : ∀ a, a < 128 → ∀ b, b < 128 → a &&& b = 0 → bcn (a ||| b) = bcn a + bcn b ∧ (a ||| b) < 128 := by decide +kernel
theorem bc_and : ∀ a, a < 128 → ∀ b, b < 128 → (∀ i, i < 7 → a / 2 ^ i % 2 = 1 → b / 2 ^ i % 2 = 0) → a &&& b = 0 := by decide +kernel
theorem offN_sub {f : Nat → Int32} {s : Int32} {u : Nat} (hu : u < 128) {o : Nat} (ho : o < 7) : ∀ i, i ≤ 7 → offN f s u i / 2 ^ o % 2 = 1 → u / 2 ^ o % 2 = 1
  | 0, _ => fun e => e
  | i + 1, hi => by
    have ih := offN_sub (f := f) (s := s) hu ho i (by omega)
    have b := off_b1 _ (offN_lt (f := f) (s := s) hu i) i (by omega) o ho
    simp only [offN]
    split
    · rw [b]; split
      · intro z; omega
      · exact ih
    · exact ih
theorem onN_spec {f on : Nat → Int32} {s : Int32} {p : Nat × Nat} (hp : p.1 < 128 ∧ p.2 < 128) {o : Nat} (ho : o < 7) : ∀ i, i ≤ 7 → (i ≤ o → (onN f on s p i).1 / 2 ^ o % 2 = p.1 / 2 ^ o % 2 ∧ (onN f on s p i).2 / 2 ^ o % 2 = p.2 / 2 ^ o % 2) ∧ (((onN f on s p i).1 / 2 ^ o % 2 = p.1 / 2 ^ o % 2 ∧ (onN f on s p i).2 / 2 ^ o % 2 = p.2 / 2 ^ o % 2) ∨ (on o = s ∧ (((onN f on s p i).1 / 2 ^ o % 2 = 1 ∧ (onN f on s p i).2 / 2 ^ o % 2 = p.2 / 2 ^ o % 2) ∨ ((onN f on s p i).1 / 2 ^ o % 2 = p.1 / 2 ^ o % 2 ∧ (onN f on s p i).2 / 2 ^ o % 2 = 1))))
  | 0, _ => ⟨fun _ => ⟨rfl, rfl⟩, Or.inl ⟨rfl, rfl⟩⟩
  | i + 1, hi => by
    have ih := onN_spec (f := f) (on := on) (s := s) hp ho i (by omega)
    obtain ⟨l1, l2⟩ := onN_lt (f := f) (on := on) (s := s) hp i (by omega)
    have b1 := or_b1 _ l1 i (by omega) o ho
    have b2 := or_b1 _ l2 i (by omega) o ho
    simp only [onN]
    generalize onN f on s p i = q at ih l1 l2 b1 b2
    by_cases z1 : on i = s
    · rw [if_pos z1]
      by_cases zo : o = i
      · subst zo
        obtain ⟨i1, i2⟩ := ih.1 (Nat.le_refl _)
        rw [if_pos rfl] at b1 b2
        refine ⟨fun z => absurd z (by omega), Or.inr ⟨z1, ?_⟩⟩
        split
        · exact Or.inr ⟨i1, b2⟩
        · exact Or.inl ⟨b1, i2⟩
      · rw [if_neg zo] at b1 b2
        split
        · simp only [b2]; exact ⟨fun z => ih.1 (by omega), ih.2⟩
        · simp only [b1]; exact ⟨fun z => ih.1 (by omega), ih.2⟩
    · rw [if_neg z1]
      exact ⟨fun z => ih.1 (by omega), ih.2⟩
theorem scN_spec {f : Nat → Int32} {s hg : Int32} {p : Nat × Nat} (hp : p.1 < 128 ∧ p.2 < 128) {o : Nat} (ho : o < 7) : ∀ i, i ≤ 7 → ((scN f s hg p i).1 / 2 ^ o % 2 = 1 → p.1 / 2 ^ o % 2 = 1) ∧ ((scN f s hg p i).2 / 2 ^ o % 2 = 1 → p.2 / 2 ^ o % 2 = 1 ∨ p.1 / 2 ^ o % 2 = 1)
  | 0, _ => ⟨fun e => e, fun e => Or.inl e⟩
  | i + 1, hi => by
    have ih := scN_spec (f := f) (s := s) (hg := hg) hp ho i (by omega)
    obtain ⟨l1, l2⟩ := scN_lt (f := f) (s := s) (hg := hg) hp i (by omega)
    have b1 := off_b1 _ l1 i (by omega) o ho
    have b2 := or_b1 _ l2 i (by omega) o ho
    simp only [scN]
    generalize scN f s hg p i = q at ih l1 l2 b1 b2
    split
    · rename_i z
      simp only [b1, b2]
      by_cases zo : o = i
      · subst zo
        rw [if_pos rfl, if_pos rfl]
        have e := z.1
        rw [bt1_nI (by omega) (by omega)] at e
        have e2 : q.1 / 2 ^ o % 2 = 1 := (nI_eq (a := q.1 / 2 ^ o % 2) (b := 1) (by omega) (by omega)).mp e
        exact ⟨fun w => by omega, fun _ => Or.inr (ih.1 e2)⟩
      · rw [if_neg zo, if_neg zo]; exact ih
    · exact ih
/-- the ideas left behind are neither up nor scraped; all have got on before stop m -/
def dj (on : Nat → Int32) (m : Nat) (x : Nat × Nat × Nat) : Prop := ∀ i, i < 7 → (x.2.2 / 2 ^ i % 2 = 1 → x.1 / 2 ^ i % 2 = 0 ∧ x.2.1 / 2 ^ i % 2 = 0) ∧ (x.1 / 2 ^ i % 2 = 1 ∨ x.2.1 / 2 ^ i % 2 = 1 ∨ x.2.2 / 2 ^ i % 2 = 1 → ∃ k, k < m ∧ on i = nI k)
theorem dj_step {f on : Nat → Int32} {m : Nat} {sk : Bool} {hg : Int32} {x : Nat × Nat × Nat} (n7 : nn f ≤ 7) (hm : m < 10) (hx : x.1 < 128 ∧ x.2.1 < 128 ∧ x.2.2 < 128) (D : dj on m x) : dj on (m + 1) (stN f on (nI m) sk hg x) := by
  intro o ho
  obtain ⟨d1, d2⟩ := D o ho
  have l1 := offN_lt (f := f) (s := nI m) hx.1 (nn f)
  have a := offN_sub (f := f) (s := nI m) hx.1 ho (nn f) n7
  have l2 := onN_lt (f := f) (on := on) (s := nI m) (p := (offN f (nI m) x.1 (nn f), x.2.2)) ⟨l1, hx.2.2⟩ (nn f) n7
  have b := (onN_spec (f := f) (on := on) (s := nI m) (p := (offN f (nI m) x.1 (nn f), x.2.2)) ⟨l1, hx.2.2⟩ ho (nn f) n7).2
  have c := scN_spec (f := f) (s := nI m) (hg := hg) (p := ((onN f on (nI m) (offN f (nI m) x.1 (nn f), x.2.2) (nn f)).1, x.2.1)) ⟨l2.1, hx.2.1⟩ ho (nn f) n7
  have e : ∃ u c', stN f on (nI m) sk hg x = (u, c', (onN f on (nI m) (offN f (nI m) x.1 (nn f), x.2.2) (nn f)).2) ∧ (u / 2 ^ o % 2 = 1 → (onN f on (nI m) (offN f (nI m) x.1 (nn f), x.2.2) (nn f)).1 / 2 ^ o % 2 = 1) ∧ (c' / 2 ^ o % 2 = 1 → x.2.1 / 2 ^ o % 2 = 1 ∨ (onN f on (nI m) (offN f (nI m) x.1 (nn f), x.2.2) (nn f)).1 / 2 ^ o % 2 = 1) := by
    unfold stN
    split
    · exact ⟨_, _, rfl, fun z => z, fun z => Or.inl z⟩
    · exact ⟨_, _, rfl, c.1, c.2⟩
  obtain ⟨u3, c3, est, c1, c2⟩ := e
  rw [est]
  simp only []
  generalize onN f on (nI m) (offN f (nI m) x.1 (nn f), x.2.2) (nn f) = q at b c1 c2
  simp only [] at b
  have w : ∀ y : Nat, y / 2 ^ o % 2 = 0 ∨ y / 2 ^ o % 2 = 1 := fun y => by omega
  by_cases z : on o = nI m
  · have no : ∀ P : Prop, (∃ k, k < m ∧ on o = nI k) → P := by
      intro P ⟨k, hk, e⟩
      rw [z, nI_eq (by omega) (by omega)] at e
      omega
    have U : x.1 / 2 ^ o % 2 = 0 := (w x.1).resolve_right (fun q => no _ (d2 (Or.inl q)))
    have C : x.2.1 / 2 ^ o % 2 = 0 := (w x.2.1).resolve_right (fun q => no _ (d2 (Or.inr (Or.inl q))))
    have L : x.2.2 / 2 ^ o % 2 = 0 := (w x.2.2).resolve_right (fun q => no _ (d2 (Or.inr (Or.inr q))))
    have u1 : offN f (nI m) x.1 (nn f) / 2 ^ o % 2 = 0 := (w _).resolve_right (fun q => by have := a q; omega)
    refine ⟨fun l3 => ?_, fun _ => ⟨m, by omega, z⟩⟩
    rw [u1, L] at b
    have q1 : q.1 / 2 ^ o % 2 = 0 := by
      rcases b with b | ⟨-, b | b⟩
      · omega
      · omega
      · exact b.1
    exact ⟨(w u3).resolve_right (fun y => by have := c1 y; omega), (w c3).resolve_right (fun y => by have := c2 y; omega)⟩
  · have b' : q.1 / 2 ^ o % 2 = offN f (nI m) x.1 (nn f) / 2 ^ o % 2 ∧ q.2 / 2 ^ o % 2 = x.2.2 / 2 ^ o % 2 := b.resolve_right (fun y => z y.1)
    have mo : (∃ k, k < m ∧ on o = nI k) → ∃ k, k < m + 1 ∧ on o = nI k := fun ⟨k, hk, e⟩ => ⟨k, by omega, e⟩
    have up : q.1 / 2 ^ o % 2 = 1 → x.1 / 2 ^ o % 2 = 1 := fun y => a (by rw [← b'.1]; exact y)
    refine ⟨fun l3 => ?_, fun y => mo (d2 ?_)⟩
    · rw [b'.2] at l3
      obtain ⟨d3, d4⟩ := d1 l3
      have q1 : q.1 / 2 ^ o % 2 = 0 := (w _).resolve_right (fun y => by have := up y; omega)
      exact ⟨(w u3).resolve_right (fun y => by have := c1 y; omega), (w c3).resolve_right (fun y => by have := c2 y; omega)⟩
    · rcases y with y | y | y
      · exact Or.inl (up (c1 y))
      · rcases c2 y with t | t
        · exact Or.inr (Or.inl t)
        · exact Or.inl (up t)
      · exact Or.inr (Or.inr (by rw [← b'.2]; exact y))
theorem dj_sm {f on : Nat → Int32} {lift : Int32} (n7 : nn f ≤ 7) : ∀ m, m ≤ 10 → dj on m (sm f on lift m).1
  | 0, _ => fun i hi => by simp [sm, tr]
  | m + 1, hm => by
    have ih := dj_sm (f := f) (on := on) (lift := lift) n7 m (by omega)
    have := dj_step (f := f) (sk := decide (f (9 + (0 + m)) = 0)) (hg := f (9 + (0 + m)) + lift) n7 (by omega) (sm_lt n7 m) ih
    simpa [sm, tr] using this
def lost (f on : Nat → Int32) : Nat := bcn (sn f on 0).1.2.2 + bcn (sn f on 0).1.2.1
theorem lost_e {f on : Nat → Int32} (n7 : nn f ≤ 7) : bcn ((sn f on 0).1.2.2 ||| (sn f on 0).1.2.1) = lost f on ∧ ((sn f on 0).1.2.2 ||| (sn f on 0).1.2.1) < 128 := by
  have l := sm_lt (f := f) (on := on) (lift := 0) n7 10
  have d := dj_sm (f := f) (on := on) (lift := 0) n7 10 (by omega)
  exact bc_or _ l.2.2 _ l.2.1 (bc_and _ l.2.2 _ l.2.1 (fun i hi e => ((d i hi).1 e).2))
theorem missing_e {f on : Nat → Int32} (g : GH h) (n7 : nn f ≤ 7) (e3 : h.2.1 67 3 = nI (sn f on 0).1.2.2) (e2 : h.2.1 67 2 = nI (sn f on 0).1.2.1) : fX3_missing 66 h = some (nI (lost f on)) := by
  obtain ⟨h1, h2⟩ := lost_e (f := f) (on := on) n7
  simp only [fX3_missing, gR66_0 g, gI67 g, Option.bind_some, e3, e2, fa_or, bcnt_e h2, h1]
theorem manyLost_e {f on : Nat → Int32} (g : GH h) (n7 : nn f ≤ 7) (e3 : h.2.1 104 6 = nI (sn f on 0).1.2.2) (e2 : h.2.1 104 5 = nI (sn f on 0).1.2.1) : fX9_manyLost 99 h = some (nI (lost f on)) := by
  have l := sm_lt (f := f) (on := on) (lift := 0) n7 10
  simp only [fX9_manyLost, gR99_6 g, a104_6 g, a104_5 g, Option.bind_some, e3, e2, bits_e (show (sn f on 0).1.2.2 < 128 from l.2.2), bits_e (show (sn f on 0).1.2.1 < 128 from l.2.1), nI_add, lost]
/-- what a journey of the class reads -/
def JX (h : Hp) (f : Nat → Int32) : Prop := GH h ∧ BT h f ∧ WF f ∧ ∀ i, i < nn f → h.2.1 5 i = f (33 + i)
theorem JX_of (H : Inv h) : JX h (h.2.1 100) := ⟨H.1, BT_of H.2.1 H.2.2.1, H.2.2.1, fun i hi => (H.2.1.2.2.2.1 i hi).2.2.1⟩
theorem JX_k {S : List Nat} {h h' : Hp} {f : Nat → Int32} (K : KP S h h') (hS : ∀ a ∈ S, 66 ≤ a) (J : JX h f) : JX h' f :=
  ⟨KP_GH J.1 K, KP_BT K hS J.2.1, J.2.2.1, fun i hi => by rw [K.2.2 5 (fun z => by have := hS 5 z; omega)]; exact J.2.2.2 i hi⟩
def MX (h : Hp) (f : Nat → Int32) : Prop := GH h ∧ WF f ∧ h.2.1 100 = f
theorem MX_k {S : List Nat} {h h' : Hp} {f : Nat → Int32} (K : KP S h h') (hS : ∀ a ∈ S, a ≠ 100) (M : MX h f) : MX h' f :=
  ⟨KP_GH M.1 K, M.2.1, by rw [K.2.2 100 (fun z => hS 100 z rfl)]; exact M.2.2⟩
def onI (f : Nat → Int32) (i : Nat) (s : Int32) : Nat → Int32 := fun j => if j = i then s else f (33 + j)
theorem missIf_e {f : Nat → Int32} {i : Nat} {s : Int32} (J : JX h f) (hi : i < nn f) : ∃ h', fX3_missingIf 66 1 (nI i) s h = some (nI (lost f (onI f i s)), h') ∧ KP [66, 67, 68] h h' := by
  have n7 := (n_eq J.2.2.1).2.1
  obtain ⟨h1, e1, K1, b1, l1, z1⟩ := jstart_e J.1
  have g1 := KP_GH J.1 K1
  have K2 : KP [66, 67, 68] h (sF h1 68 (upd (h1.2.1 68) i s)) := KP_F K1 (by decide) _
  have J2 := JX_k K2 (by decide) J
  obtain ⟨h3, e3, K3, u, c, l, v⟩ := jrun_e (h := sF h1 68 (upd (h1.2.1 68) i s)) (f := f) (on := onI f i s) (lift := 0) J2.1 J2.2.1 J.2.2.1 (fun j hj => by
    simp only [sF_I, if_true, upd_e, onI]
    by_cases z : j = i
    · rw [if_pos z, if_pos z]
    · rw [if_neg z, if_neg z, b1 j (by omega)]; exact J.2.2.2 j hj) (by simpa [sF_I] using l1) (fun j hj => by simpa [sF_I] using z1 j hj)
  have g3 := KP_GH J2.1 K3
  refine ⟨h3, ?_, KP_t K2 K3 (fun _ z => z) (fun _ z => z)⟩
  have i1 : inb (nI i).toInt (0 : Int32).toInt (6 : Int32).toInt = 1 := inb_ok (by rw [nI_toInt (by omega), t32_0, t32_6]; omega)
  simp only [fX3_missingIf, fX3_missingIf_j22]
  rw [gT66 J.1, e1, Option.bind_some, within_e, Option.bind_some, i1, if_neg (by decide), gR66_1 g1, Option.bind_some, sN68 g1 (by omega), Option.bind_some, gT66 J2.1, e3, Option.bind_some, gT66 g3, missing_e g3 n7 l c, Option.bind_some]
def bF (f : Nat → Int32) (i : Nat) (p : Int32 × Int32) : Nat → Int32 × Int32
  | 0 => p
  | s + 1 => if (bF f i p s).1 ≤ nI (lost f (onI f i (nI s))) then bF f i p s else (nI (lost f (onI f i (nI s))), 10 * nI i + nI s)
def bG (f : Nat → Int32) : Nat → Int32 × Int32
  | 0 => (nI (lost f (fun j => f (33 + j))), -1)
  | i + 1 => bF f i (bG f i) (f (40 + i)).toInt.toNat
theorem off_n {f : Nat → Int32} (W : WF f) {i : Nat} (hi : i < nn f) : f (40 + i) = nI (f (40 + i)).toInt.toNat ∧ 1 ≤ (f (40 + i)).toInt.toNat ∧ (f (40 + i)).toInt.toNat ≤ 9 := by
  have w := (W.2.2.1 i hi).2.2.2.1
  exact ⟨nI_n (by have := w.1; omega), by have := w.1; omega, by have := w.2; omega⟩
theorem better_c {f : Nat → Int32} (J : JX h f) : ∃ h', fX3_betterBoarding 66 1 h = some ((bG f (nn f)).2, h') ∧ KP [66, 67, 68] h h' := by
  have W := J.2.2.1
  have n7 := (n_eq W).2.1
  obtain ⟨h1, e1, K1, b1, l1, z1⟩ := jstart_e J.1
  have J1 := JX_k K1 (by decide) J
  obtain ⟨h3, e3, K3, u, c, l, v⟩ := jrun_e (h := h1) (f := f) (on := fun j => f (33 + j)) (lift := 0) J1.1 J1.2.1 W (fun j hj => by rw [b1 j (by omega)]; exact J.2.2.2 j hj) l1 z1
  have g3 := KP_GH J1.1 K3
  have lp : ∃ r, xloop (fX3_betterBoarding_b22 66 1) 1000000 (nI (lost f (fun j => f (33 + j))), -1, 0, h3) = some r ∧ r.1 = (bG f (nn f)).2 ∧ KP [66, 67, 68] h r.2 := by
    refine xloop_i (body := fX3_betterBoarding_b22 66 1) (fun i st => st.1 = (bG f i).1 ∧ st.2.1 = (bG f i).2 ∧ st.2.2.1 = nI i ∧ KP [66, 67, 68] h st.2.2.2) (fun r => r.1 = (bG f (nn f)).2 ∧ KP [66, 67, 68] h r.2) (nn f) (by omega) ?_ ?_ ⟨rfl, rfl, rfl, KP_t K1 K3 (fun _ z => z) (fun _ z => z)⟩
    · intro i st hi ⟨a1, a2, a3, aK⟩
      left
      have Ji := JX_k aK (by decide) J
      obtain ⟨o1, o2, o3⟩ := off_n W hi
      have li : ∃ r, xloop (fX3_betterBoarding_b34 66 1 (nI i)) 1000000 (st.1, st.2.1, 0, st.2.2.2) = some r ∧ r.2.2.1 = (bF f i (bG f i) (f (40 + i)).toInt.toNat).1 ∧ r.2.2.2.1 = (bF f i (bG f i) (f (40 + i)).toInt.toNat).2 ∧ r.2.2.2.2.1 = nI i ∧ KP [66, 67, 68] h r.2.2.2.2.2 := by
        refine xloop_i (body := fX3_betterBoarding_b34 66 1 (nI i)) (fun s t => t.1 = (bF f i (bG f i) s).1 ∧ t.2.1 = (bF f i (bG f i) s).2 ∧ t.2.2.1 = nI s ∧ KP [66, 67, 68] h t.2.2.2) (fun r => r.2.2.1 = (bF f i (bG f i) (f (40 + i)).toInt.toNat).1 ∧ r.2.2.2.1 = (bF f i (bG f i) (f (40 + i)).toInt.toNat).2 ∧ r.2.2.2.2.1 = nI i ∧ KP [66, 67, 68] h r.2.2.2.2.2) (f (40 + i)).toInt.toNat (by omega) ?_ ?_ ⟨a1, a2, rfl, aK⟩
        · intro s t hs ⟨c1, c2, c3, cK⟩
          left
          have Jt := JX_k cK (by decide) J
          obtain ⟨h4, e4, K4⟩ := missIf_e (s := nI s) Jt hi
          have K5 := KP_t cK K4 (fun _ z => z) (fun _ z => z) (U := [66, 67, 68])
          have nx : ¬ f (40 + i) ≤ nI s := by rw [o1, le_nI (by omega) (by omega)]; omega
          by_cases q : (bF f i (bG f i) s).1 ≤ nI (lost f (onI f i (nI s)))
          · refine ⟨(t.1, t.2.1, t.2.2.1 + 1, h4), ?_, ?_, ?_, ?_, K5⟩
            · simp only [fX3_betterBoarding_b34, fX3_betterBoarding_j75]
              rw [gR1_6 Jt.1, Option.bind_some, aN6 Jt.1 (by omega), Option.bind_some, (Jt.2.1.2.2.2 i hi).2.2.1, c3, if_neg nx, gT66 Jt.1, e4, Option.bind_some, c1, if_pos q]
            · simp only [bF]; rw [if_pos q]; exact c1
            · simp only [bF]; rw [if_pos q]; exact c2
            · simp only []; rw [c3, nI_1]
          · refine ⟨(nI (lost f (onI f i (nI s))), 10 * nI i + nI s, t.2.2.1 + 1, h4), ?_, ?_, ?_, ?_, K5⟩
            · simp only [fX3_betterBoarding_b34, fX3_betterBoarding_j75]
              rw [gR1_6 Jt.1, Option.bind_some, aN6 Jt.1 (by omega), Option.bind_some, (Jt.2.1.2.2.2 i hi).2.2.1, c3, if_neg nx, gT66 Jt.1, e4, Option.bind_some, c1, if_neg q]
            · simp only [bF]; rw [if_neg q]
            · simp only [bF]; rw [if_neg q]
            · simp only []; rw [c3, nI_1]
        · intro t ⟨c1, c2, c3, cK⟩
          have Jt := JX_k cK (by decide) J
          refine ⟨(66, 1, t.1, t.2.1, nI i, t.2.2.2), ?_, c1, c2, rfl, cK⟩
          simp only [fX3_betterBoarding_b34]
          rw [gR1_6 Jt.1, Option.bind_some, aN6 Jt.1 (by omega), Option.bind_some, (Jt.2.1.2.2.2 i hi).2.2.1, c3, if_pos (by rw [← o1]; exact Int32.le_refl _)]
      obtain ⟨r, er, r1, r2, r3, rK⟩ := li
      refine ⟨(r.2.2.1, r.2.2.2.1, r.2.2.2.2.1 + 1, r.2.2.2.2.2), ?_, r1, r2, ?_, rK⟩
      · simp only [fX3_betterBoarding_b22]
        rw [gI1 Ji.1, Option.bind_some, Ji.2.1.1, a3, if_neg (by rw [le_nI (by omega) (by omega)]; omega), er, Option.bind_some]
      · simp only []; rw [r3, nI_1]
    · intro st ⟨a1, a2, a3, aK⟩
      have Ji := JX_k aK (by decide) J
      refine ⟨(st.2.1, st.2.2.2), ?_, a2, aK⟩
      simp only [fX3_betterBoarding_b22]
      rw [gI1 Ji.1, Option.bind_some, Ji.2.1.1, a3, if_pos (by rw [le_nI (by omega) (by omega)]; omega)]
  obtain ⟨r, er, r1, rK⟩ := lp
  refine ⟨r.2, ?_, rK⟩
  simp only [fX3_betterBoarding]
  rw [gT66 J.1, e1, Option.bind_some, gT66 J1.1, e3, Option.bind_some, gT66 g3, missing_e g3 n7 l c, Option.bind_some, er, Option.bind_some, r1]
end BETTER
