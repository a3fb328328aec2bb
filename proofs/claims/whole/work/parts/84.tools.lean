section TOOLS
variable {h : Hp}
/-- a loop that counts, with an exit on the way -/
theorem xloop_i0 {σ ρ : Type} {body : σ → Option (σ ⊕ ρ)} (P : Nat → σ → Prop) (Q : ρ → Prop) (N : Nat) (hs : ∀ i s, i < N → P i s → (∃ s', body s = some (.inl s') ∧ P (i + 1) s') ∨ ∃ r, body s = some (.inr r) ∧ Q r) (hx : ∀ s, P N s → ∃ r, body s = some (.inr r) ∧ Q r) : ∀ (k i fuel : Nat) (s : σ), i + k = N → k < fuel → P i s → ∃ r, xloop body fuel s = some r ∧ Q r := by
  intro k
  induction k with
  | zero =>
    intro i fuel s hi hf hP
    obtain ⟨f, rfl⟩ : ∃ f, fuel = f + 1 := ⟨fuel - 1, by omega⟩
    have e : i = N := by omega
    subst e
    obtain ⟨r, hr, q⟩ := hx s hP
    exact ⟨r, by simp only [xloop, hr], q⟩
  | succ k ih =>
    intro i fuel s hi hf hP
    obtain ⟨f, rfl⟩ : ∃ f, fuel = f + 1 := ⟨fuel - 1, by omega⟩
    rcases hs i s (by omega) hP with ⟨s', e, hP'⟩ | ⟨r, e, q⟩
    · obtain ⟨r, hr, q⟩ := ih (i + 1) f s' (by omega) (by omega) hP'
      exact ⟨r, by simp only [xloop, e]; exact hr, q⟩
    · exact ⟨r, by simp only [xloop, e], q⟩
theorem xloop_i {σ ρ : Type} {body : σ → Option (σ ⊕ ρ)} (P : Nat → σ → Prop) (Q : ρ → Prop) (N : Nat) (hN : N < 1000000) (hs : ∀ i s, i < N → P i s → (∃ s', body s = some (.inl s') ∧ P (i + 1) s') ∨ ∃ r, body s = some (.inr r) ∧ Q r) (hx : ∀ s, P N s → ∃ r, body s = some (.inr r) ∧ Q r) {s0 : σ} (h0 : P 0 s0) : ∃ r, xloop body 1000000 s0 = some r ∧ Q r :=
  xloop_i0 P Q N hs hx N 0 1000000 s0 (by omega) hN h0
/-- nothing but the cells of S has changed -/
def KP (S : List Nat) (h h' : Hp) : Prop := h'.1 = h.1 ∧ h'.2.2 = h.2.2 ∧ ∀ a, a ∉ S → h'.2.1 a = h.2.1 a
theorem KP_rfl (S : List Nat) (h : Hp) : KP S h h := ⟨rfl, rfl, fun _ _ => rfl⟩
theorem KP_t {S T U : List Nat} {h h1 h2 : Hp} (a : KP S h h1) (b : KP T h1 h2) (hS : ∀ x ∈ S, x ∈ U) (hT : ∀ x ∈ T, x ∈ U) : KP U h h2 :=
  ⟨b.1.trans a.1, b.2.1.trans a.2.1, fun x hx => (b.2.2 x (fun z => hx (hT x z))).trans (a.2.2 x (fun z => hx (hS x z)))⟩
theorem KP_F {S : List Nat} {h h' : Hp} (K : KP S h h') {a : Nat} (ha : a ∈ S) (F : Nat → Int32) : KP S h (sF h' a F) :=
  ⟨K.1, K.2.1, fun x hx => by
    have ne : ¬ x = a := fun z => hx (by rw [z]; exact ha)
    simp only [sF_I]; rw [if_neg ne]; exact K.2.2 x hx⟩
theorem KP_GH {S : List Nat} {h h' : Hp} (g : GH h) (K : KP S h h') : GH h' := ⟨K.1.trans g.1, by rw [K.2.1]; exact g.2⟩
theorem KP_BT {S : List Nat} {h h' : Hp} {f : Nat → Int32} (K : KP S h h') (hS : ∀ a ∈ S, 66 ≤ a) (B : BT h f) : BT h' f := by
  have e : ∀ a, a < 66 → h'.2.1 a = h.2.1 a := fun a ha => K.2.2 a (fun z => by have := hS a z; omega)
  unfold BT
  rw [e 1 (by omega), e 2 (by omega), e 3 (by omega), e 4 (by omega), e 6 (by omega), e 7 (by omega)]
  exact B
theorem KP_Inv {S : List Nat} {h h' : Hp} (H : Inv h) (K : KP S h h') (hS : ∀ a ∈ S, (66 ≤ a ∧ a < 75) ∨ (104 ≤ a ∧ a < 108) ∨ a = 109 ∨ a = 110) : Inv h' := by
  have e : ∀ a, ¬ ((66 ≤ a ∧ a < 75) ∨ (104 ≤ a ∧ a < 108) ∨ a = 109 ∨ a = 110) → h'.2.1 a = h.2.1 a := fun a ha => K.2.2 a (fun z => ha (hS a z))
  refine Inv_bus H K.1 (fun a _ => by rw [K.2.1]) (fun a ha => e a (by unfold keep at ha; omega)) (by rw [K.2.1]) ?_ ?_
  · rw [e 100 (by omega)]
    exact RB_keep H.2.1 (fun a h1 h2 => e a (by omega)) (by rw [K.2.1])
  · rw [e 100 (by omega)]; exact H.2.2.1
theorem tr_eq2 {f on hgt hgt' : Nat → Int32} {sk sk' : Nat → Bool} {k0 : Nat} {y : (Nat × Nat × Nat) × Int32} (H : ∀ k, k < 10 → sk k = sk' k ∧ (sk k = false → hgt k = hgt' k)) : ∀ m, k0 + m ≤ 10 → tr f on hgt sk k0 y m = tr f on hgt' sk' k0 y m
  | 0, _ => rfl
  | m + 1, hm => by
    obtain ⟨h1, h2⟩ := H (k0 + m) (by omega)
    have e : ∀ x, stN f on (nI (k0 + m)) (sk (k0 + m)) (hgt (k0 + m)) x = stN f on (nI (k0 + m)) (sk' (k0 + m)) (hgt' (k0 + m)) x := by
      intro x
      rw [← h1]
      cases hs : sk (k0 + m)
      · rw [h2 hs]
      · unfold stN; rw [if_pos rfl, if_pos rfl]
    simp only [tr]
    rw [tr_eq2 H m (by omega), e]
/-- a whole journey from stop 0 on, nobody up: after m stops -/
def sm (f on : Nat → Int32) (lift : Int32) (m : Nat) : (Nat × Nat × Nat) × Int32 := tr f on (fun k => f (9 + k) + lift) (fun k => decide (f (9 + k) = 0)) 0 ((0, 0, 0), 0) m
def sn (f on : Nat → Int32) (lift : Int32) : (Nat × Nat × Nat) × Int32 := sm f on lift 10
theorem sm_lt {f on : Nat → Int32} {lift : Int32} (n7 : nn f ≤ 7) (m : Nat) : (sm f on lift m).1.1 < 128 ∧ (sm f on lift m).1.2.1 < 128 ∧ (sm f on lift m).1.2.2 < 128 :=
  tr_lt n7 ⟨by decide, by decide, by decide⟩ m
theorem jstart_e (g : GH h) : ∃ h', fX3_startAnew 66 1 h = some h' ∧ KP [66, 67, 68] h h' ∧ (∀ i, i < 7 → h'.2.1 68 i = h.2.1 5 i) ∧ h'.2.1 66 2 = 0 ∧ ∀ j, j < 5 → h'.2.1 67 j = 0 := by
  have gg : ∀ a F, GH (sF h a F) := fun a F => g
  have g2 : ∀ a F b G, GH (sF (sF h a F) b G) := fun a F b G => g
  refine ⟨sF (sF (sF h 67 (upd (upd (upd (upd (upd (h.2.1 67) 0 0) 1 0) 2 0) 3 0) 4 0)) 68 (fun k => if k < 7 then h.2.1 5 k else h.2.1 68 k)) 66 (upd (h.2.1 66) 2 0), ?_, ?_, ?_, ?_, ?_⟩
  · simp only [fX3_startAnew, fX3_boardAsTold, fX5_startAnew]
    rw [gR66_0 g, Option.bind_some, gT67 g, pI67 g, Option.bind_some, pI67 (gg _ _), Option.bind_some, sF_s, pI67 (gg _ _), Option.bind_some, sF_s, pI67 (gg _ _), Option.bind_some, sF_s, pI67 (gg _ _), Option.bind_some, sF_s, Option.bind_some, gT66 (gg _ _), gR1_5 (gg _ _), Option.bind_some, gR66_1 (gg _ _), Option.bind_some, xcp7_e (gs5 (gg _ _)) (gs68 (gg _ _)), Option.bind_some, pI66 (g2 _ _ _ _), Option.bind_some, Option.bind_some]
    simp [sF_I]
  · exact KP_F (KP_F (KP_F (KP_rfl _ h) (by decide) _) (by decide) _) (by decide) _
  · intro i hi; simp [sF_I, hi]
  · simp [sF_I, upd_e]
  · intro j hj
    rcases (by omega : j = 0 ∨ j = 1 ∨ j = 2 ∨ j = 3 ∨ j = 4) with rfl | rfl | rfl | rfl | rfl <;> simp [sF_I, upd_e]
theorem jrun_e {f on : Nat → Int32} {lift : Int32} (g : GH h) (B : BT h f) (W : WF f) (ho : ∀ i, i < nn f → h.2.1 68 i = on i) (hl : h.2.1 66 2 = lift) (hz : ∀ j, j < 5 → h.2.1 67 j = 0) : ∃ h', fX3_passThrough 66 1 9 h = some h' ∧ KP [66, 67, 68] h h' ∧ h'.2.1 67 1 = nI (sn f on lift).1.1 ∧ h'.2.1 67 2 = nI (sn f on lift).1.2.1 ∧ h'.2.1 67 3 = nI (sn f on lift).1.2.2 ∧ h'.2.1 67 4 = (sn f on lift).2 := by
  have th := through_e (h := h) (f := f) (on := on) (k0 := 0) (M := 10) (y := ((0, 0, 0), 0)) (lift := lift) (e := 9) (F := f) g B W (by omega) (by rfl) (fun m hm => by rw [fa_lt, nI_toInt (by omega)]; show (9 : Int) < _ ↔ _; omega) ho ⟨by decide, by decide, by decide⟩ hl (hz 0 (by omega)) (hz 1 (by omega)) (hz 2 (by omega)) (hz 3 (by omega)) (hz 4 (by omega))
  refine ⟨_, th, KP_F (KP_rfl _ h) (by decide) _, ?_, ?_, ?_, ?_⟩ <;> simp [sF_I, rwN, sn, sm]
theorem mrun_e {f on : Nat → Int32} {lift : Int32} (g : GH h) (eN : h.2.1 100 0 = nI (nn f)) (W : WF f) (hl : rg lift 0 9) (H0 : HR (h.2.1 104) f on) (hz : ∀ j, j < 5 → h.2.1 104 (3 + j) = 0) (eh : ∀ k, k < 10 → h.2.1 104 (9 + k) = if f (9 + k) = 0 then 0 else f (9 + k) + lift) : ∃ h', fX9_goTill 99 10 h = some h' ∧ KP [104] h h' ∧ h'.2.1 104 4 = nI (sn f on lift).1.1 ∧ h'.2.1 104 5 = nI (sn f on lift).1.2.1 ∧ h'.2.1 104 6 = nI (sn f on lift).1.2.2 ∧ h'.2.1 104 7 = (sn f on lift).2 := by
  have gt := goTill_e (h := h) (f := f) (on := on) (hgt := fun k => if f (9 + k) = 0 then 0 else f (9 + k) + lift) (k0 := 0) (M := 10) (y := ((0, 0, 0), 0)) g eN W H0 (by omega) ⟨by decide, by decide, by decide⟩ (hz 0 (by omega)) (hz 1 (by omega)) (hz 2 (by omega)) (hz 3 (by omega)) (hz 4 (by omega)) eh
  have tq := tr_eq2 (f := f) (on := on) (hgt := fun k => f (9 + k) + lift) (hgt' := fun k => if f (9 + k) = 0 then 0 else f (9 + k) + lift) (sk := fun k => decide (f (9 + k) = 0)) (sk' := fun k => decide ((if f (9 + k) = 0 then 0 else f (9 + k) + lift) ≤ 0)) (k0 := 0) (y := ((0, 0, 0), 0)) (fun k hk => by
    have w := W.2.1 k hk
    by_cases z : f (9 + k) = 0
    · simp [z]
    · have z2 : ¬ f (9 + k) + lift ≤ 0 := by
        have z3 : (f (9 + k)).toInt ≠ 0 := fun q => z (by rw [fa_eq, q]; rfl)
        obtain ⟨a, ha, ea⟩ : ∃ a, a < 10 ∧ f (9 + k) = nI a := ⟨(f (9 + k)).toInt.toNat, by have := w.1; have := w.2; omega, nI_n w.1⟩
        obtain ⟨b, hb, eb⟩ : ∃ b, b < 10 ∧ lift = nI b := ⟨lift.toInt.toNat, by have := hl.1; have := hl.2; omega, nI_n hl.1⟩
        rw [ea, nI_toInt (by omega)] at z3
        rw [ea, eb, nI_add]
        exact nI_nle (by omega) (by omega)
      simp [z, z2]) 10 (by omega)
  rw [← tq] at gt
  refine ⟨_, gt, KP_F (KP_rfl _ h) (by decide) _, ?_, ?_, ?_, ?_⟩ <;> simp [sF_I, rwH, sn, sm]
end TOOLS
