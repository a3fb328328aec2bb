section STOP
variable {h : Hp}
/-! passing one stop, as plain functions of what was told -/
def offN (f : Nat → Int32) (s : Int32) (u : Nat) : Nat → Nat
  | 0 => u
  | i + 1 => if f (40 + i) = s then offN f s u i &&& (127 - 2 ^ i) else offN f s u i
def onN (f on : Nat → Int32) (s : Int32) (p : Nat × Nat) : Nat → Nat × Nat
  | 0 => p
  | i + 1 => if on i = s then (if f 8 ≤ nI (bcn (onN f on s p i).1) ∨ ¬ f (47 + i) &&& nI (onN f on s p i).1 = 0 then ((onN f on s p i).1, (onN f on s p i).2 ||| 2 ^ i) else ((onN f on s p i).1 ||| 2 ^ i, (onN f on s p i).2)) else onN f on s p i
def scN (f : Nat → Int32) (s hg : Int32) (p : Nat × Nat) : Nat → Nat × Nat
  | 0 => p
  | i + 1 => if bt1 (nI (scN f s hg p i).1) i = 1 ∧ ¬ taS (f (19 + i)) s ≤ hg then ((scN f s hg p i).1 &&& (127 - 2 ^ i), (scN f s hg p i).2 ||| 2 ^ i) else scN f s hg p i
def swN (f : Nat → Int32) (s : Int32) (u : Nat) : Nat → Int32
  | 0 => 0
  | i + 1 => if bt1 (nI u) i = 1 then swN f s u i + swS (f (19 + i)) (f (26 + i)) s else swN f s u i
theorem offN_lt {f : Nat → Int32} {s : Int32} {u : Nat} (hu : u < 128) : ∀ i, offN f s u i < 128
  | 0 => hu
  | i + 1 => by
    have := offN_lt (f := f) (s := s) hu i
    have h2 : offN f s u i &&& (127 - 2 ^ i) ≤ offN f s u i := Nat.and_le_left
    simp only [offN]; split <;> omega
theorem onN_lt {f on : Nat → Int32} {s : Int32} {p : Nat × Nat} (hu : p.1 < 128 ∧ p.2 < 128) : ∀ i, i ≤ 7 → (onN f on s p i).1 < 128 ∧ (onN f on s p i).2 < 128
  | 0, _ => hu
  | i + 1, hi => by
    have := onN_lt (f := f) (on := on) (s := s) hu i (by omega)
    have h1 := or_lt 7 (by omega) _ this.1 i (by omega)
    have h2 := or_lt 7 (by omega) _ this.2 i (by omega)
    simp only [onN]
    split
    · split
      · exact ⟨this.1, h2⟩
      · exact ⟨h1, this.2⟩
    · exact this
theorem scN_lt {f : Nat → Int32} {s hg : Int32} {p : Nat × Nat} (hu : p.1 < 128 ∧ p.2 < 128) : ∀ i, i ≤ 7 → (scN f s hg p i).1 < 128 ∧ (scN f s hg p i).2 < 128
  | 0, _ => hu
  | i + 1, hi => by
    have := scN_lt (f := f) (s := s) (hg := hg) hu i (by omega)
    have h1 : (scN f s hg p i).1 &&& (127 - 2 ^ i) ≤ (scN f s hg p i).1 := Nat.and_le_left
    have h2 := or_lt 7 (by omega) _ this.2 i (by omega)
    simp only [scN]
    split
    · exact ⟨by omega, h2⟩
    · exact this
/-- what a class's bus at 1 must show for a stop to be passed -/
def BT (h : Hp) (f : Nat → Int32) : Prop := h.2.1 1 2 = nI (nn f) ∧ h.2.1 1 0 = f 8 ∧ (∀ s, s < 10 → h.2.1 2 s = f (9 + s)) ∧ ∀ i, i < nn f → h.2.1 3 i = f (19 + i) ∧ h.2.1 4 i = f (26 + i) ∧ h.2.1 6 i = f (40 + i) ∧ h.2.1 7 i = f (47 + i)
theorem BT_of {f : Nat → Int32} (R : RB h 1 f) (W : WF f) : BT h f :=
  ⟨R.1.1.trans (n_eq W).1, R.1.2.2.2, R.2.2.1, fun i hi => ⟨(R.2.2.2.1 i hi).1, (R.2.2.2.1 i hi).2.1, (R.2.2.2.1 i hi).2.2.2.1, (R.2.2.2.1 i hi).2.2.2.2⟩⟩
def isR (r : Nat) : Prop := r = 12 ∨ r = 67
theorem BT_F {f F : Nat → Int32} {r : Nat} (B : BT h f) (hr : isR r) : BT (sF h r F) f := by
  rcases hr with rfl | rfl <;> exact B
theorem gsR {r : Nat} (g : GH h) (hr : isR r) : h.1[r]? = some (5, 5) := by
  rw [g.1]; rcases hr with rfl | rfl <;> rfl
theorem upd_self {f : Nat → Int32} {k : Nat} {x : Int32} (e : f k = x) : upd f k x = f := by
  funext j; rw [upd_e]; split
  · rename_i z; rw [z, e]
  · rfl
theorem letOff_e {f : Nat → Int32} {r u : Nat} {s : Int32} (g : GH h) (hr : isR r) (B : BT h f) (n7 : nn f ≤ 7) (hu : u < 128) (e : h.2.1 r 1 = nI u) : fX0_letOff 1 r s h = some (sF h r (upd (h.2.1 r) 1 (nI (offN f s u (nn f))))) := by
  have hb : isB 1 := Or.inl rfl
  have hl : xloop (fX0_letOff_b2 1 r s) 1000000 (0, h) = some (sF h r (upd (h.2.1 r) 1 (nI (offN f s u (nn f))))) := by
    refine xloop_c (fun i => (nI i, sF h r (upd (h.2.1 r) 1 (nI (offN f s u i))))) _ (nn f) (by omega) ?_ ?_ ?_
    · intro i hi
      have g' : GH (sF h r (upd (h.2.1 r) 1 (nI (offN f s u i)))) := g
      have B' : BT (sF h r (upd (h.2.1 r) 1 (nI (offN f s u i)))) f := BT_F B hr
      have lt := offN_lt (f := f) (s := s) hu i
      simp only [fX0_letOff_b2, fX0_letOff_j34]
      rw [gIb g' hb, Option.bind_some, B'.1, if_neg (by rw [le_nI (by omega) (by omega)]; omega), gRb6 g' hb, Option.bind_some, aNb5 g' hb (by omega), Option.bind_some, (B'.2.2.2 i hi).2.2.1]
      by_cases q : f (40 + i) = s
      · rw [if_pos q, e_gI (gsR g' hr), Option.bind_some, e_pI (gsR g' hr), Option.bind_some, sF_s, nI_1]
        simp only [sF_I, if_true, offN, q]
        congr 4
        funext k
        simp only [upd_e]
        by_cases z : k = 1
        · rw [if_pos z, if_pos z, if_pos trivial, off_bit _ lt i (by omega)]
        · rw [if_neg z, if_neg z, if_neg z]
      · rw [if_neg q, nI_1]
        simp only [offN, q, if_false]
    · simp only [fX0_letOff_b2]
      have g' : GH (sF h r (upd (h.2.1 r) 1 (nI (offN f s u (nn f))))) := g
      rw [gIb g' hb, Option.bind_some, (BT_F B hr).1, if_pos (by rw [le_nI (by omega) (by omega)]; omega)]
    · simp only [offN]; rw [upd_self e, sF_same]; rfl
  simp only [fX0_letOff, hl, Option.bind_some]
theorem swayAll_e {f : Nat → Int32} {u : Nat} {s : Int32} (g : GH h) (B : BT h f) (W : WF f) : fX0_swayOfAll 1 (nI u) s h = some (swN f s u (nn f)) := by
  have n7 := (n_eq W).2.1
  have hb : isB 1 := Or.inl rfl
  have hl : xloop (fX0_swayOfAll_b5 1 (nI u) s h) 1000000 (0, 0) = some (swN f s u (nn f)) := by
    refine xloop_c (fun i => (swN f s u i, nI i)) _ (nn f) (by omega) ?_ ?_ rfl
    · intro i hi
      simp only [fX0_swayOfAll_b5, fX0_swayOfAll_j45]
      rw [gIb g hb, Option.bind_some, B.1, if_neg (by rw [le_nI (by omega) (by omega)]; omega), bit_e, Option.bind_some, gRb3 g hb, Option.bind_some, aNb2 g hb (by omega), Option.bind_some, gRb4 g hb, Option.bind_some, aNb3 g hb (by omega), Option.bind_some, (B.2.2.2 i hi).1, (B.2.2.2 i hi).2.1, swayOf_e (W.2.2.1 i hi).1, Option.bind_some, nI_1]
      show (if bt1 (nI u) i = 1 then _ else _) = _
      simp only [swN]
      by_cases q : bt1 (nI u) i = 1
      · simp only [q, if_true]
      · simp only [q, if_false]
    · simp only [fX0_swayOfAll_b5]
      rw [gIb g hb, Option.bind_some, B.1, if_pos (by rw [le_nI (by omega) (by omega)]; omega)]
  simp only [fX0_swayOfAll, hl, Option.bind_some]
end STOP
