section TWO
variable {h : Hp}
/-- the class's journey stands before stop m -/
def JS (h : Hp) (f on : Nat → Int32) (m : Nat) : Prop := (∀ i, i < nn f → h.2.1 68 i = on i) ∧ h.2.1 66 2 = 0 ∧ h.2.1 67 0 = nI m ∧ h.2.1 67 1 = nI (sm f on 0 m).1.1 ∧ h.2.1 67 2 = nI (sm f on 0 m).1.2.1 ∧ h.2.1 67 3 = nI (sm f on 0 m).1.2.2 ∧ h.2.1 67 4 = (sm f on 0 m).2
theorem sm_S {f on : Nat → Int32} {lift : Int32} (m : Nat) : sm f on lift (m + 1) = (stN f on (nI m) (decide (f (9 + m) = 0)) (f (9 + m) + lift) (sm f on lift m).1, (sm f on lift m).2 + swN f (nI m) (stN f on (nI m) (decide (f (9 + m) = 0)) (f (9 + m) + lift) (sm f on lift m).1).1 (nn f)) := by
  simp [sm, tr]
theorem passOne_e {f on : Nat → Int32} {m : Nat} (J : JX h f) (S : JS h f on m) (hm : m < 10) : ∃ h', fX0_passStop 1 67 68 0 h = some h' ∧ KP [67] h h' ∧ JS h' f on (m + 1) := by
  have g := J.1
  have W := J.2.2.1
  have n7 := (n_eq W).2.1
  obtain ⟨s0, s1, s2, s3, s4, s5, s6⟩ := S
  have lt := sm_lt (f := f) (on := on) (lift := 0) n7 m
  have ps := passStop_e (h := h) (f := f) (on := on) (r := 67) (w := 68) (k := m) (x := (sm f on 0 m).1) (lift := 0) g (Or.inr rfl) (Or.inr rfl) J.2.1 W hm s0 lt s2 s3 s4 s5
  refine ⟨sF h 67 (rwN (h.2.1 67) (sm f on 0 (m + 1)).1 (sm f on 0 (m + 1)).2 (nI (m + 1))), ?_, KP_F (KP_rfl _ h) (by decide) _, ?_⟩
  · rw [ps, s6, sm_S]
  · refine ⟨fun i hi => by simpa [sF_I] using s0 i hi, by simpa [sF_I] using s1, ?_, ?_, ?_, ?_, ?_⟩ <;> simp [sF_I, rwN]
/-- the model's journey stands before stop m -/
def HS (h : Hp) (f on : Nat → Int32) (m : Nat) : Prop := HR (h.2.1 104) f on ∧ (∀ k, k < 10 → h.2.1 104 (9 + k) = f (9 + k)) ∧ h.2.1 104 3 = nI m ∧ h.2.1 104 4 = nI (sm f on 0 m).1.1 ∧ h.2.1 104 5 = nI (sm f on 0 m).1.2.1 ∧ h.2.1 104 6 = nI (sm f on 0 m).1.2.2 ∧ h.2.1 104 7 = (sm f on 0 m).2
theorem goOne_e {f on : Nat → Int32} {m : Nat} (M : MX h f) (S : HS h f on m) (hm : m < 10) : ∃ h', fX9_goStop 99 h = some h' ∧ KP [104] h h' ∧ HS h' f on (m + 1) := by
  have g := M.1
  have W := M.2.1
  have n7 := (n_eq W).2.1
  have e0 : h.2.1 100 0 = nI (nn f) := by rw [M.2.2]; exact (n_eq W).1
  obtain ⟨s0, s1, s2, s3, s4, s5, s6⟩ := S
  have lt := sm_lt (f := f) (on := on) (lift := 0) n7 m
  have gs := goStop_e (h := h) (f := f) (on := on) (k := m) (x := (sm f on 0 m).1) (hg := f (9 + m)) g e0 W s0 hm lt s2 s3 s4 s5 (s1 m hm)
  have e : stN f on (nI m) (decide (f (9 + m) ≤ 0)) (f (9 + m)) (sm f on 0 m).1 = (sm f on 0 (m + 1)).1 := by
    rw [sm_S, ← hz (W.2.1 m hm)]; simp
  rw [e, s6] at gs
  have e7 : (sm f on 0 m).2 + swN f (nI m) (sm f on 0 (m + 1)).1.1 (nn f) = (sm f on 0 (m + 1)).2 := by rw [sm_S]
  rw [e7] at gs
  refine ⟨_, gs, KP_F (KP_rfl _ h) (by decide) _, ?_⟩
  have o : ∀ j, 8 ≤ j → rwH (h.2.1 104) (sm f on 0 (m + 1)).1 (sm f on 0 (m + 1)).2 (nI (m + 1)) j = h.2.1 104 j := fun j hj => by simp only [rwH]; rw [if_neg (by omega), if_neg (by omega), if_neg (by omega), if_neg (by omega), if_neg (by omega)]
  refine ⟨by simpa [sF_I] using HR_rw _ _ _ s0, fun k hk => by simp only [sF_I, if_true]; rw [o _ (by omega)]; exact s1 k hk, ?_, ?_, ?_, ?_, ?_⟩ <;> simp [sF_I, rwH]
def gn (f on : Nat → Int32) (a : Nat) : Nat → Int32
  | 0 => 0
  | m + 1 => gn f on a m + bt1 (nI (sm f on 0 (m + 1)).1.1) a
theorem countStops_e {f on : Nat → Int32} {a b p : Nat} (J : JX h f) (S : JS h f on 0) (hp : p < 100) : ∃ h', fX7_countStops 72 1 66 (nI a) (nI b) (nI p) h = some h' ∧ KP [66, 67, 68, 73, 74] h h' ∧ h'.2.1 73 = upd (h.2.1 73) p (gn f on a 10) ∧ h'.2.1 74 = upd (h.2.1 74) p (gn f on b 10) := by
  have lp : ∃ r, xloop (fX7_countStops_b9 72 1 66 (nI a) (nI b) (nI p)) 1000000 (0, 0, 0, h) = some r ∧ r.1 = 72 ∧ r.2.1 = nI p ∧ r.2.2.1 = gn f on a 10 ∧ r.2.2.2.1 = gn f on b 10 ∧ KP [67] h r.2.2.2.2 := by
    refine xloop_i (body := fX7_countStops_b9 72 1 66 (nI a) (nI b) (nI p)) (fun m st => st.1 = gn f on a m ∧ st.2.1 = gn f on b m ∧ st.2.2.1 = nI m ∧ KP [67] h st.2.2.2 ∧ JS st.2.2.2 f on m) (fun r => r.1 = 72 ∧ r.2.1 = nI p ∧ r.2.2.1 = gn f on a 10 ∧ r.2.2.2.1 = gn f on b 10 ∧ KP [67] h r.2.2.2.2) 10 (by omega) ?_ ?_ ⟨rfl, rfl, rfl, KP_rfl _ h, S⟩
    · intro m st hm ⟨a1, a2, a3, aK, aS⟩
      left
      have Jt := JX_k aK (by decide) J
      obtain ⟨h', e, K, S'⟩ := passOne_e Jt aS hm
      have g' := KP_GH Jt.1 K
      refine ⟨(gn f on a (m + 1), gn f on b (m + 1), nI (m + 1), h'), ?_, rfl, rfl, rfl, KP_t aK K (fun _ z => z) (fun _ z => z), S'⟩
      simp only [fX7_countStops_b9]
      rw [a3, if_neg (by rw [show (10 : Int32) = nI 10 from rfl, le_nI (by omega) (by omega)]; omega), gR66_0 Jt.1, Option.bind_some, gR66_1 Jt.1, Option.bind_some, gI66 Jt.1, Option.bind_some, aS.2.1, gT1 Jt.1, e, Option.bind_some]
      simp only [gR66_0 g', gI67 g', Option.bind_some, S'.2.2.2.1, bit_e, a1, a2, nI_1]
      rfl
    · intro st ⟨a1, a2, a3, aK, aS⟩
      refine ⟨(72, nI p, st.1, st.2.1, st.2.2.2), ?_, rfl, rfl, a1, a2, aK⟩
      simp only [fX7_countStops_b9]
      rw [a3, if_pos (by decide)]
  obtain ⟨r, er, r1, r2, r3, r4, rK⟩ := lp
  have gr := KP_GH J.1 rK
  have g2 : GH (sF r.2.2.2.2 73 (upd (r.2.2.2.2.2.1 73) p (gn f on a 10))) := gr
  refine ⟨sF (sF r.2.2.2.2 73 (upd (r.2.2.2.2.2.1 73) p (gn f on a 10))) 74 (upd (r.2.2.2.2.2.1 74) p (gn f on b 10)), ?_, KP_F (KP_F (KP_t rK (KP_rfl [67] _) (by decide) (by decide)) (by decide) _) (by decide) _, ?_, ?_⟩
  · simp only [fX7_countStops]
    rw [er, Option.bind_some, r1, r2, r3, r4, gR72_0 gr, Option.bind_some, sN73 gr hp, Option.bind_some, gR72_1 g2, Option.bind_some, sN74 g2 hp, Option.bind_some]
    simp [sF_I]
  · simp only [sF_I]; rw [if_neg (by decide), if_pos trivial, rK.2.2 73 (by decide)]
  · simp only [sF_I]; rw [if_pos trivial, rK.2.2 74 (by decide)]
def on2 (f : Nat → Int32) (a b i j : Nat) : Nat → Int32 := fun k => if k = b then nI j else if k = a then nI i else f (33 + k)
def gA (f : Nat → Int32) (a b i j : Nat) : Int32 := gn f (on2 f a b i j) a 10
def gB (f : Nat → Int32) (a b i j : Nat) : Int32 := gn f (on2 f a b i j) b 10
theorem js_0 {f on : Nat → Int32} (b1 : ∀ i, i < nn f → h.2.1 68 i = on i) (l1 : h.2.1 66 2 = 0) (z1 : ∀ j, j < 5 → h.2.1 67 j = 0) : JS h f on 0 :=
  ⟨b1, l1, z1 0 (by omega), z1 1 (by omega), z1 2 (by omega), z1 3 (by omega), z1 4 (by omega)⟩
/-- what the class has counted: all pairs before (i, j) -/
def GT (h : Hp) (f : Nat → Int32) (a b oA oB i j : Nat) : Prop := h.2.1 72 2 = nI oA ∧ h.2.1 72 3 = nI oB ∧ ∀ i' j', j' < oB → (i' < i ∨ (i' = i ∧ j' < j)) → h.2.1 73 (10 * i' + j') = gA f a b i' j' ∧ h.2.1 74 (10 * i' + j') = gB f a b i' j'
theorem play_e {f : Nat → Int32} {a b : Nat} (J : JX h f) (ht : fX0_hasTwo 1 (nI a) (nI b) h = some 1) (ha : a < nn f) (hb : b < nn f) (hab : a ≠ b) : ∃ h', fX7_play 72 1 66 (nI a) (nI b) h = some h' ∧ KP [66, 67, 68, 72, 73, 74] h h' ∧ GT h' f a b (f (40 + a)).toInt.toNat (f (40 + b)).toInt.toNat (f (40 + a)).toInt.toNat 0 := by
  have g := J.1
  have W := J.2.2.1
  have n7 := (n_eq W).2.1
  obtain ⟨A1, A2, A3⟩ := off_n W ha
  obtain ⟨B1, B2, B3⟩ := off_n W hb
  generalize (f (40 + a)).toInt.toNat = oA at *
  generalize (f (40 + b)).toInt.toNat = oB at *
  have gg : ∀ F, GH (sF h 72 F) := fun F => g
  have JJ : ∀ F, JX (sF h 72 F) f := fun F => JX_k (KP_F (KP_rfl [72] h) (by decide) F) (by decide) J
  have lp : ∃ r, xloop (fX7_play_b35 72 1 66 (nI a) (nI b)) 1000000 (0, sF h 72 (upd (upd (h.2.1 72) 2 (nI oA)) 3 (nI oB))) = some r ∧ KP [66, 67, 68, 72, 73, 74] h r ∧ GT r f a b oA oB oA 0 := by
    refine xloop_i (body := fX7_play_b35 72 1 66 (nI a) (nI b)) (fun i st => st.1 = nI i ∧ KP [66, 67, 68, 72, 73, 74] h st.2 ∧ GT st.2 f a b oA oB i 0) (fun r => KP [66, 67, 68, 72, 73, 74] h r ∧ GT r f a b oA oB oA 0) oA (by omega) ?_ ?_ ⟨rfl, KP_F (KP_rfl _ h) (by decide) _, by simp [sF_I, upd_e], by simp [sF_I, upd_e], fun i' j' _ q => by omega⟩
    · intro i st hi ⟨a1, aK, aG⟩
      left
      have Ji := JX_k aK (by decide) J
      have li : ∃ r, xloop (fX7_play_b47 72 1 66 (nI a) (nI b) (nI i)) 1000000 (0, st.2) = some r ∧ r.2.2.2.2.2.1 = nI i ∧ KP [66, 67, 68, 72, 73, 74] h r.2.2.2.2.2.2 ∧ GT r.2.2.2.2.2.2 f a b oA oB i oB := by
        refine xloop_i (body := fX7_play_b47 72 1 66 (nI a) (nI b) (nI i)) (fun j t => t.1 = nI j ∧ KP [66, 67, 68, 72, 73, 74] h t.2 ∧ GT t.2 f a b oA oB i j) (fun r => r.2.2.2.2.2.1 = nI i ∧ KP [66, 67, 68, 72, 73, 74] h r.2.2.2.2.2.2 ∧ GT r.2.2.2.2.2.2 f a b oA oB i oB) oB (by omega) ?_ ?_ ⟨rfl, aK, aG⟩
        · intro j t hj ⟨c1, cK, cG⟩
          left
          have Jt := JX_k cK (by decide) J
          obtain ⟨t1, e1, K1, b1, l1, z1⟩ := jstart_e Jt.1
          have K1' : KP [66, 67, 68, 72, 73, 74] h t1 := KP_t cK K1 (by decide) (by decide)
          have J1 := JX_k K1' (by decide) J
          have K2' : KP [66, 67, 68, 72, 73, 74] h (sF t1 68 (upd (t1.2.1 68) a (nI i))) := KP_F K1' (by decide) _
          have J2 := JX_k K2' (by decide) J
          have K3' : KP [66, 67, 68, 72, 73, 74] h (sF (sF t1 68 (upd (t1.2.1 68) a (nI i))) 68 (upd (upd (t1.2.1 68) a (nI i)) b (nI j))) := KP_F K2' (by decide) _
          have J3 := JX_k K3' (by decide) J
          have S3 : JS (sF (sF t1 68 (upd (t1.2.1 68) a (nI i))) 68 (upd (upd (t1.2.1 68) a (nI i)) b (nI j))) f (on2 f a b i j) 0 := by
            refine js_0 (fun k hk => ?_) (by simpa [sF_I] using l1) (fun q hq => by simpa [sF_I] using z1 q hq)
            simp only [sF_I, if_true, upd_e, on2]
            by_cases y1 : k = b
            · rw [if_pos y1, if_pos y1]
            · rw [if_neg y1, if_neg y1]
              by_cases y2 : k = a
              · rw [if_pos y2, if_pos y2]
              · rw [if_neg y2, if_neg y2, b1 k (by omega)]; exact Jt.2.2.2 k hk
          obtain ⟨h4, e4, K4, x73, x74⟩ := countStops_e (a := a) (b := b) (p := 10 * i + j) J3 S3 (by omega)
          have K5 : KP [66, 67, 68, 72, 73, 74] h h4 := KP_t K3' K4 (by decide) (by decide)
          have f73 : ∀ c, c = 72 ∨ c = 73 ∨ c = 74 → (sF (sF t1 68 (upd (t1.2.1 68) a (nI i))) 68 (upd (upd (t1.2.1 68) a (nI i)) b (nI j))).2.1 c = t.2.2.1 c := by
            intro c hc
            simp only [sF_I]; rw [if_neg (by omega), if_neg (by omega)]
            exact K1.2.2 c (by rcases hc with rfl | rfl | rfl <;> decide)
          refine ⟨(nI (j + 1), h4), ?_, rfl, K5, ?_, ?_, ?_⟩
          · simp only [fX7_play_b47]
            rw [gI72 Jt.1, Option.bind_some, cG.2.1, c1, if_neg (by rw [le_nI (by omega) (by omega)]; omega), gT66 Jt.1, e1, Option.bind_some, gR66_1 J1.1, Option.bind_some, sN68 J1.1 (by omega), Option.bind_some, gR66_1 J2.1, Option.bind_some, sN68 J2.1 (by omega), Option.bind_some]
            simp only [sF_I, if_true]
            rw [gT72 J3.1, lm10, nI_add, e4, Option.bind_some, nI_1]
          · rw [K4.2.2 72 (by decide), f73 72 (by omega)]; exact cG.1
          · rw [K4.2.2 72 (by decide), f73 72 (by omega)]; exact cG.2.1
          · intro i' j' hj' q
            rw [x73, x74, f73 73 (by omega), f73 74 (by omega)]
            simp only [upd_e]
            by_cases y : i' = i ∧ j' = j
            · rw [if_pos (by omega), if_pos (by omega), y.1, y.2]; exact ⟨rfl, rfl⟩
            · rw [if_neg (by omega), if_neg (by omega)]
              exact cG.2.2 i' j' hj' (by omega)
        · intro t ⟨c1, cK, cG⟩
          have Jt := JX_k cK (by decide) J
          refine ⟨(72, 1, 66, nI a, nI b, nI i, t.2), ?_, rfl, cK, cG⟩
          simp only [fX7_play_b47]
          rw [gI72 Jt.1, Option.bind_some, cG.2.1, c1, if_pos (by rw [le_nI (by omega) (by omega)]; omega)]
      obtain ⟨r, er, r1, rK, rG⟩ := li
      refine ⟨(nI (i + 1), r.2.2.2.2.2.2), ?_, rfl, rK, rG.1, rG.2.1, fun i' j' hj' q => rG.2.2 i' j' hj' (by omega)⟩
      simp only [fX7_play_b35]
      rw [gI72 Ji.1, Option.bind_some, aG.1, a1, if_neg (by rw [le_nI (by omega) (by omega)]; omega), er, Option.bind_some, r1, nI_1]
    · intro st ⟨a1, aK, aG⟩
      have Ji := JX_k aK (by decide) J
      refine ⟨st.2, ?_, aK, aG⟩
      simp only [fX7_play_b35]
      rw [gI72 Ji.1, Option.bind_some, aG.1, a1, if_pos (by rw [le_nI (by omega) (by omega)]; omega)]
  obtain ⟨r, er, rK, rG⟩ := lp
  refine ⟨r, ?_, rK, rG⟩
  simp only [fX7_play]
  rw [gT1 g, ht, Option.bind_some, if_neg (by decide), gR1_6 g, Option.bind_some, aN6 g (by omega), Option.bind_some, (J.2.1.2.2.2 a ha).2.2.1, pI72 g, Option.bind_some, gR1_6 (gg _), Option.bind_some, aN6 (gg _) (by omega), Option.bind_some, ((JJ _).2.1.2.2.2 b hb).2.2.1, pI72 (gg _), Option.bind_some, sF_s]
  simp only [sF_I, if_true]
  rw [A1, B1, er, Option.bind_some]
end TWO
