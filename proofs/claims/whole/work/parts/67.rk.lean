section RK
variable {h : Hp}
def kU (f : Nat → Int32) : Nat := if nu f = 8 then 7 else nu f
theorem kU_lt {f : Nat → Int32} (W : WF f) : kU f < 8 := by
  have := (u_eq W).2; unfold kU; split <;> omega
theorem kF_lo {f : Nat → Int32} {k : Nat} (h2 : k ≠ 2) (h78 : k < 78) : kF f k = f k := by
  unfold kF
  by_cases q : nu f = 8
  · rw [if_pos q]; simp only [kJ]; rw [if_neg h2, if_neg (by omega)]; simp only [kS]; rw [if_neg h2, if_neg (by omega)]
  · rw [if_neg q]; simp only [kJ]; rw [if_neg h2, if_neg (by omega)]
theorem kF_2 (f : Nat → Int32) : kF f 2 = nI (kU f + 1) := by
  unfold kF kU
  by_cases q : nu f = 8
  · rw [if_pos q, if_pos q]; rfl
  · rw [if_neg q, if_neg q]; rfl
theorem kF_nu {f : Nat → Int32} (W : WF f) : nu (kF f) = kU f + 1 := by
  have := kU_lt W
  show (kF f 2).toInt.toNat = _
  rw [kF_2]; exact nI_tt (by omega)
theorem kF_last {f : Nat → Int32} {c : Nat} (hc : c < 5) : kF f (78 + 5 * kU f + c) = f (3 + c) := by
  unfold kF kU
  by_cases q : nu f = 8
  · rw [if_pos q, if_pos q]; simp only [kJ]; rw [if_neg (by omega), if_pos (by omega)]; simp only [kS]; rw [if_neg (by omega), if_neg (by omega)]; exact congrArg f (by omega)
  · rw [if_neg q, if_neg q]; simp only [kJ]; rw [if_neg (by omega), if_pos (by omega)]; exact congrArg f (by omega)
theorem kF_past {f : Nat → Int32} {u c : Nat} (hu : u < kU f) (hc : c < 5) (h8 : u < 8) : kF f (78 + 5 * u + c) = f (78 + 5 * (if nu f = 8 then u + 1 else u) + c) := by
  unfold kU at hu
  unfold kF
  by_cases q : nu f = 8
  · rw [if_pos q] at hu
    rw [if_pos q, if_pos q]; simp only [kJ]; rw [if_neg (by omega), if_neg (by omega)]; simp only [kS]; rw [if_neg (by omega), if_pos (by omega)]; exact congrArg f (by omega)
  · rw [if_neg q] at hu
    rw [if_neg q, if_neg q]; simp only [kJ]; rw [if_neg (by omega), if_neg (by omega)]
theorem WF_p {f f' : Nat → Int32} (W : WF f) (ho : ∀ k, k < 78 → k ≠ 2 → ¬ (3 ≤ k ∧ k ≤ 7) → f' k = f k) (r2 : rg (f' 2) 0 8) (r3 : rg (f' 3) 0 10) (r4 : rg (f' 4) 0 127) (r5 : rg (f' 5) 0 127) (r6 : rg (f' 6) 0 127) (hp : ∀ u, u < nu f' → rg (f' (78 + 5 * u)) 0 10 ∧ rg (f' (78 + 5 * u + 1)) 0 127 ∧ rg (f' (78 + 5 * u + 2)) 0 127 ∧ rg (f' (78 + 5 * u + 3)) 0 127) : WF f' := by
  have n7 := (n_eq W).2.1
  have n6 := (q_eq W).2
  obtain ⟨⟨a0, a1, a2, a3, a4, a5, a6, a8⟩, w2, w3, w4, w5, w6⟩ := W
  have e0 : nn f' = nn f := by unfold nn; rw [ho 0 (by omega) (by omega) (by omega)]
  have e1 : nq f' = nq f := by unfold nq; rw [ho 1 (by omega) (by omega) (by omega)]
  refine ⟨⟨?_, ?_, r2, r3, r4, r5, r6, ?_⟩, ?_, ?_, ?_, ?_, hp⟩
  · rw [ho 0 (by omega) (by omega) (by omega)]; exact a0
  · rw [ho 1 (by omega) (by omega) (by omega)]; exact a1
  · rw [ho 8 (by omega) (by omega) (by omega)]; exact a8
  · intro c hc; rw [ho _ (by omega) (by omega) (by omega)]; exact w2 c hc
  · intro i hi
    rw [e0] at hi
    have := w3 i hi
    unfold WI at this ⊢
    rw [e0, ho _ (by omega) (by omega) (by omega), ho _ (by omega) (by omega) (by omega), ho _ (by omega) (by omega) (by omega), ho _ (by omega) (by omega) (by omega), ho _ (by omega) (by omega) (by omega)]
    exact this
  · intro i o hi hi2
    rw [e0] at hi hi2
    rw [ho _ (by omega) (by omega) (by omega), ho _ (by omega) (by omega) (by omega)]
    exact w4 i o hi hi2
  · intro q hq
    rw [e1] at hq
    rw [ho _ (by omega) (by omega) (by omega), ho _ (by omega) (by omega) (by omega)]; exact w5 q (by omega)
theorem WF_kF {f : Nat → Int32} (W : WF f) : WF (kF f) := by
  have l := kU_lt W
  have n8 := (u_eq W).2
  have W0 := W
  obtain ⟨⟨a0, a1, a2, a3, a4, a5, a6, a8⟩, w2, w3, w4, w5, w6⟩ := W
  refine WF_p W0 (fun k h1 h2 _ => kF_lo h2 h1) ?_ ?_ ?_ ?_ ?_ ?_
  · rw [kF_2]; unfold rg; rw [nI_toInt (by omega)]; omega
  · rw [kF_lo (by omega) (by omega)]; exact a3
  · rw [kF_lo (by omega) (by omega)]; exact a4
  · rw [kF_lo (by omega) (by omega)]; exact a5
  · rw [kF_lo (by omega) (by omega)]; exact a6
  · intro u hu
    rw [kF_nu W0] at hu
    by_cases q : u = kU f
    · subst q
      have h0 := kF_last (f := f) (c := 0) (by omega)
      rw [Nat.add_zero] at h0
      rw [h0, kF_last (c := 1) (by omega), kF_last (c := 2) (by omega), kF_last (c := 3) (by omega)]
      exact ⟨a3, a4, a5, a6⟩
    · have h0 := kF_past (f := f) (u := u) (c := 0) (by omega) (by omega) (by omega)
      rw [Nat.add_zero, Nat.add_zero] at h0
      rw [h0, kF_past (c := 1) (by omega) (by omega) (by omega), kF_past (c := 2) (by omega) (by omega) (by omega), kF_past (c := 3) (by omega) (by omega) (by omega)]
      refine w6 _ ?_
      have : u < kU f := by omega
      unfold kU at this
      split
      · rename_i q8; rw [if_pos q8] at this; omega
      · rename_i q8; rw [if_neg q8] at this; omega
/-- the ride and the past may change, all else as it was -/
theorem RB_p {h h' : Hp} {b : Nat} {f f' : Nat → Int32} (R : RB h b f) (W : WF f) (hb : ∀ k, k ≠ 15 → h'.2.1 b k = h.2.1 b k) (h15 : h'.2.1 b 15 = f' 2) (hI : ∀ a, b < a → a < b + 11 → h'.2.1 a = h.2.1 a) (ho : ∀ k, k < 78 → k ≠ 2 → ¬ (3 ≤ k ∧ k ≤ 7) → f' k = f k) (hr : ∀ c, c < 5 → h'.2.1 (b + 11) c = f' (3 + c)) (hp : ∃ π : Nat → Nat, (∀ u, u < 8 → π u < 8 ∧ h'.2.2.2 (b + 12) u = some (b + 13 + π u)) ∧ (∀ u v, u < 8 → v < 8 → π u = π v → u = v) ∧ ∀ u c, u < 8 → u < nu f' → c < 5 → h'.2.1 (b + 13 + π u) c = f' (78 + 5 * u + c)) : RB h' b f' := by
  have n7 := (n_eq W).2.1
  have n6 := (q_eq W).2
  obtain ⟨⟨b1, b2, b3, b4⟩, h2, h3, h4, h5, -⟩ := R
  have e0 : nn f' = nn f := by unfold nn; rw [ho 0 (by omega) (by omega) (by omega)]
  have e1 : nq f' = nq f := by unfold nq; rw [ho 1 (by omega) (by omega) (by omega)]
  refine ⟨⟨?_, ?_, h15, ?_⟩, hr, ?_, ?_, ?_, hp⟩
  · rw [hb 2 (by omega), ho 0 (by omega) (by omega) (by omega)]; exact b1
  · rw [hb 8 (by omega), ho 1 (by omega) (by omega) (by omega)]; exact b2
  · rw [hb 0 (by omega), ho 8 (by omega) (by omega) (by omega)]; exact b4
  · intro s hs; rw [hI _ (by omega) (by omega), ho _ (by omega) (by omega) (by omega)]; exact h3 s hs
  · intro i hi
    rw [e0] at hi
    rw [hI _ (by omega) (by omega), hI _ (by omega) (by omega), hI _ (by omega) (by omega), hI _ (by omega) (by omega), hI _ (by omega) (by omega), ho _ (by omega) (by omega) (by omega), ho _ (by omega) (by omega) (by omega), ho _ (by omega) (by omega) (by omega), ho _ (by omega) (by omega) (by omega), ho _ (by omega) (by omega) (by omega)]
    exact h4 i hi
  · intro q hq
    rw [e1] at hq
    rw [hI _ (by omega) (by omega), hI _ (by omega) (by omega), hI _ (by omega) (by omega), hI _ (by omega) (by omega), ho _ (by omega) (by omega) (by omega), ho _ (by omega) (by omega) (by omega), ho _ (by omega) (by omega) (by omega), ho _ (by omega) (by omega) (by omega)]
    exact h5 q hq
theorem remember_e {b : Nat} {f : Nat → Int32} (g : GH h) (hb : isB b) (R : RB h b f) (W : WF f) : ∃ h', fX0_remember b h = some h' ∧ GH h' ∧ h'.2.2.1 = h.2.2.1 ∧ (∀ a, a ≠ b + 12 → h'.2.2.2 a = h.2.2.2 a) ∧ (∀ a, a ≠ b → ¬ (b + 13 ≤ a ∧ a < b + 21) → h'.2.1 a = h.2.1 a) ∧ RB h' b (kF f) := by
  have R0 := R
  obtain ⟨⟨b1, b2, b3, b4⟩, h2, h3, h4, h5, π, p1, p2, p3⟩ := R
  obtain ⟨n0, n8⟩ := u_eq W
  have l := kU_lt W
  by_cases q : nu f = 8
  · have hk : kU f = 7 := by unfold kU; rw [if_pos q]
    rw [q] at n0
    obtain ⟨c1, c2⟩ := p1 0 (by omega)
    generalize hF : (fun j => if j < 7 then h.2.2.2 (b + 12) (j + 1) else h.2.2.2 (b + 12) j) = F at *
    generalize hF2 : (fun j => if j = 7 then some (b + 13 + π 0) else F j) = F2
    have g1 : GH (sF (rR h (b + 12) F2) b (upd (h.2.1 b) 15 7)) := GH_r g hb F2
    have gF : GH (rR h (b + 12) F) := GH_r g hb F
    have e7 : F2 7 = some (b + 13 + π 0) := by rw [← hF2]; simp
    refine ⟨sF (sF (sF (rR h (b + 12) F2) b (upd (h.2.1 b) 15 7)) (b + 13 + π 0) (tk (h.2.1 (b + 13 + π 0)) (h.2.1 (b + 11)))) b (upd (h.2.1 b) 15 8), ?_, g1, ?_, ?_, ?_, ?_⟩
    · simp only [fX0_remember]
      rw [gIb g hb, Option.bind_some, b3, n0, if_neg (by decide), gRb14 g hb, Option.bind_some, e_aR (i := 0) (gsq g hb) (k := 0) rfl (by omega) (by decide), c2, Option.bind_some, rem_rot g hb π p1, Option.bind_some, hF]
      simp only []
      rw [gRb14 gF hb, Option.bind_some, e_sR (i := 7) (k := 7) (gsq gF hb) (gsp gF hb c1) rfl (by omega) (by decide), Option.bind_some, rR_s]
      simp only [rR_R, if_true]
      rw [hF2, pIb (h := rR h (b + 12) F2) (GH_r g hb F2) hb, Option.bind_some]
      simp only [rR_I]
      rw [rem58_e g1 hb (u := 7) (by omega) (by simp [sF_I, upd_e]; rfl) c1 (by simp only [sF_R, rR_R, if_true]; exact e7)]
      simp only [sF_I, if_true, rR_I]
      rw [if_neg (by omega), if_neg (by omega)]
      congr 2
      funext k
      simp only [upd_e]
      by_cases z : k = 15 <;> simp [z]
      rfl
    · rfl
    · intro a ha; simp only [sF_R, rR_R]; rw [if_neg ha]
    · intro a ha hb2; simp only [sF_I, rR_I]; rw [if_neg ha, if_neg (by omega), if_neg ha]
    · refine RB_p R0 W ?_ ?_ ?_ (fun k h1 h2 _ => kF_lo h2 h1) ?_ ⟨fun u => if u = 7 then π 0 else π (u + 1), ?_, ?_, ?_⟩
      · intro k hk; simp [sF_I, upd_e, hk]
      · rw [kF_2, hk]; simp [sF_I, upd_e]; rfl
      · intro a h1 h2; simp only [sF_I, rR_I]; rw [if_neg (by omega), if_neg (by omega), if_neg (by omega)]
      · intro c hc; simp only [sF_I, rR_I]; rw [if_neg (by omega), if_neg (by omega), if_neg (by omega), kF_lo (by omega) (by omega)]; exact h2 c hc
      · intro u hu
        simp only [sF_R, rR_R, if_true]
        by_cases z : u = 7
        · subst z; rw [if_pos rfl]; exact ⟨c1, e7⟩
        · rw [if_neg z, ← hF2, ← hF]; simp only []; rw [if_neg z, if_pos (by omega)]; exact p1 (u + 1) (by omega)
      · intro u v hu hv he
        simp only [] at he
        by_cases z1 : u = 7 <;> by_cases z2 : v = 7
        · omega
        · rw [if_pos z1, if_neg z2] at he; have := p2 _ _ (by omega) (by omega) he; omega
        · rw [if_neg z1, if_pos z2] at he; have := p2 _ _ (by omega) (by omega) he; omega
        · rw [if_neg z1, if_neg z2] at he; have := p2 _ _ (by omega) (by omega) he; omega
      · intro u c h8 hu hc
        simp only [sF_I, rR_I]
        by_cases z : u = 7
        · rw [if_pos z, if_neg (by omega), if_pos rfl, z]
          have := kF_last (f := f) hc
          rw [hk] at this
          rw [this]; simp only [tk]; rw [if_pos hc]; exact h2 c hc
        · have : π (u + 1) ≠ π 0 := fun e => by have := p2 _ _ (by omega) (by omega) e; omega
          rw [if_neg z, if_neg (by omega), if_neg (by omega), if_neg (by omega), kF_past (by omega) hc h8, if_pos q]
          exact p3 (u + 1) c (by omega) (by omega) hc
  · have hk : kU f = nu f := by unfold kU; rw [if_neg q]
    obtain ⟨c1, c2⟩ := p1 (nu f) (by omega)
    refine ⟨sF (sF h (b + 13 + π (nu f)) (tk (h.2.1 (b + 13 + π (nu f))) (h.2.1 (b + 11)))) b (upd (h.2.1 b) 15 (nI (nu f + 1))), ?_, ?_, ?_, ?_, ?_, ?_⟩
    · simp only [fX0_remember]
      rw [gIb g hb, Option.bind_some, b3, if_pos (by rw [n0, fa_lt, nI_toInt (by omega)]; show (nu f : Int) < 8; omega), rem58_e g hb (by omega) (b3.trans n0) c1 c2]
    · exact g
    · rfl
    · intro a ha; rfl
    · intro a ha hb2; simp only [sF_I]; rw [if_neg ha, if_neg (by omega)]
    · refine RB_p R0 W ?_ ?_ ?_ (fun k h1 h2 _ => kF_lo h2 h1) ?_ ⟨π, p1, p2, ?_⟩
      · intro k hk; simp [sF_I, upd_e, hk]
      · rw [kF_2, hk]; simp [sF_I, upd_e]
      · intro a h1 h2; simp only [sF_I]; rw [if_neg (by omega), if_neg (by omega)]
      · intro c hc; simp only [sF_I]; rw [if_neg (by omega), if_neg (by omega), kF_lo (by omega) (by omega)]; exact h2 c hc
      · intro u c h8 hu hc
        rw [kF_nu W] at hu
        simp only [sF_I]
        rw [if_neg (by omega)]
        by_cases z : u = nu f
        · rw [z, if_pos rfl]
          have := kF_last (f := f) hc
          rw [hk] at this
          rw [this]; simp only [tk]; rw [if_pos hc]; exact h2 c hc
        · have : π u ≠ π (nu f) := fun e => z (p2 _ _ (by omega) (by omega) e)
          rw [if_neg (by omega), kF_past (by omega) hc h8, if_neg q]
          exact p3 u c (by omega) (by omega) hc
end RK
