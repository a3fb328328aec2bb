def xokt : FieldType → Bool
  | .int => true | .long => true | .object _ => true | .array _ => true | _ => false
theorem xokt_all : ∀ ci, ci < 10 → ∀ j, j < xnf ci → xokt (xty ci j) = true := by decide +kernel
theorem xadd_at {η : xEnv} {h : Hp} {s : Nat × Nat} {ty : FieldType} {j : Nat} (ho : xokt ty = true) : defaultValue ty = xv η (xadd h s) h.1.length ty j := by
  cases ty <;> first | (simp [xokt] at ho; done) | (simp [xv, xadd, va_rf, defaultValue])
theorem xw_add {η : xEnv} {h : Hp} {s : Nat × Nat} : xw η (xadd h s) = xw η h ++ [(η.1 + xn h, xe η (xadd h s) h.1.length s)] := by
  apply List.ext_getElem?
  intro k
  by_cases hk : k < h.1.length
  · rw [List.getElem?_append_left (by rw [xw_len]; exact hk)]
    have h1 : h.1[k]? = some h.1[k] := List.getElem?_eq_getElem hk
    rw [xw_get h1, xw_get (h := xadd h s) (s := h.1[k]) (by simp only [xadd]; rw [List.getElem?_append_left hk]; exact h1)]
    congr 2
    apply xe_off <;> (funext z; simp [xadd, Nat.ne_of_lt hk])
  · rw [List.getElem?_append_right (by rw [xw_len]; unfold xn; omega), xw_len]
    by_cases hk2 : k = h.1.length
    · subst hk2
      rw [xw_get (h := xadd h s) (s := s) (by simp [xadd])]
      simp [xn]
    · rw [List.getElem?_eq_none (by rw [xw_len]; simp only [xn, xadd, List.length_append, List.length_cons, List.length_nil]; omega), List.getElem?_eq_none (by simp only [List.length_cons, List.length_nil, xn]; omega)]
theorem xn_add (h : Hp) (s : Nat × Nat) : xn (xadd h s) = xn h + 1 := by simp [xn, xadd]
theorem xm_add (h : Hp) (s : Nat × Nat) : xm (xadd h s) = xm h + s.2 := by simp [xm, xadd]
/-- the new cell's address -/
theorem xq_eq {η : xEnv} {h : Hp} {H1 : Heap} {q : Nat} {e : va_E} (hP : va_P η.2.1 vwCl (xw η h ++ [(q, e)]) H1) (hD : va_D (xA η) (xw η h ++ [(q, e)])) (hz : H1.size ≤ η.1 + xn h + 1) : q = η.1 + xn h := by
  have hl : (xw η h ++ [(q, e)])[xn h]? = some (q, e) := by rw [List.getElem?_append_right (by rw [xw_len]; exact Nat.le_refl _), xw_len]; simp
  have h1 : q < H1.size := (hP _ _ hl).lt
  have h2 : η.1 ≤ q := hD.2 _ _ hl
  rcases Nat.lt_or_ge q (η.1 + xn h) with h3 | h3
  · exfalso
    have hk : q - η.1 < h.1.length := by unfold xn at h3; omega
    have h4 : (xw η h ++ [(q, e)])[q - η.1]? = some (η.1 + (q - η.1), xe η h (q - η.1) h.1[q - η.1]) := by
      rw [List.getElem?_append_left (by rw [xw_len]; exact hk), xw_get (List.getElem?_eq_getElem hk)]
    have h5 := hD.1 _ _ _ _ hl h4 (by show q = η.1 + (q - η.1); omega)
    unfold xn at h5
    omega
  · omega
theorem xcat (η : xEnv) (st : List Value) : ((st.map (cv η)).map fun v => v.category).sum = (st.map fun v => v.category).sum := by
  rw [List.map_map]; congr 1; apply List.map_congr_left; intro v _; exact cv_cat _ v
section XN
variable {X : Type} {ι : xI} {κ : xK} {K : X → Prop} {pc : Nat} {L : List (Nat × Value)} {st : List Value} {h : Hp}
theorem j_new {idx : Nat} {f : Nat × Hp → Option X} (ci N : Nat) (hd : decode ι.1 pc = .ok (.new idx, 3)) (hcl : Cond.classLink ι.2.1 idx (xr ci) ∈ xT) (hins : Cond.instantiable (xr ci) N ∈ xT) (hini : Cond.initialized (xr ci) ∈ xT) (hc : ci < 10) (hN : xnf ci = N) (k : ∀ q : Nat × Hp, xJ ι κ K (pc + 3) L (.ref q.1 :: st) q.2 (f q)) : xJ ι κ K pc L st h ((xnew h (ci, N)).bind f) := fun v e kv => by
  simp only [xnew, Option.bind_some] at e
  have hk := k _ v e kv
  have hB : xB κ (xadd h (ci, N)) := hk.1
  unfold xB at hB
  rw [xn_add, xm_add] at hB
  refine ⟨⟨by omega, by simp only at hB; omega⟩, fun b1 b2 p e' s m args below meth c hA H locs ls h1 h2 h3 => ?_⟩
  obtain ⟨c1, c2, c3, c4⟩ := xcls ci hc
  rw [hN] at c1 c2 c3 c4
  refine va_new (ci := ci) (fs := xfs κ.2.1 (xadd h (ci, N)) h.1.length ci N) hA.1 hA.2.1 hA.2.2.2.2.2.1 c2 (xty ci) c3 hA.2.2.2.2.1 (hA.2.2.2.2.2.1 _ hcl) (hA.2.2.2.2.2.1 _ hins) (hA.2.2.2.2.2.1 _ hini) hA.2.2.2.2.2.2.2.2.1.1 h2 (xw_D _ _) h3 ?_ c1 (fun j hj => ?_) ?_ ?_ hd (fun q H1 g1 g2 g3 => ?_)
  · intro q hq
    have := hA.2.2.2.2.2.2.2.2.2
    show κ.2.1.1 ≤ q
    omega
  · rw [vp_V, List.getD_eq_getElem?_getD, xfs_get hj]
    exact xadd_at (xokt_all ci hc j (by rw [hN]; exact hj))
  · show _ ≤ xn κ.2.2.2.2 - κ.2.2.1.1
    omega
  · show _ ≤ xm κ.2.2.2.2 - κ.2.2.1.2
    simp only at hB
    omega
  · have ee : xn h - κ.2.2.1.1 + 1 = xn (xadd h (ci, N)) - κ.2.2.1.1 := by rw [xn_add]; omega
    have em : xm h - κ.2.2.1.2 + N = xm (xadd h (ci, N)) - κ.2.2.1.2 := by rw [xm_add]; show _ = xm h + N - _; omega
    rw [ee, em]
    refine xW_size (fun hz => ?_)
    have hq : q = κ.2.1.1 + xn h := xq_eq g1 g2 (by rw [hA.2.2.2.2.2.2.2.2.2, xn_add] at hz; omega)
    subst hq
    refine hk.2 (by rw [xn_add]; omega) (by rw [xm_add]; omega) p e' s m args below meth c hA H1 locs ls h1 ?_ g3
    show va_P _ _ (xw κ.2.1 (xadd h (ci, N))) H1
    rw [xw_add, xe_obj hc]
    exact g1
theorem j_newa {n : Int32} {f : Nat × Hp → Option X} {aty : ArrayType} (kk t0 : Nat) {ty : FieldType} (hd : decode ι.1 pc = .ok (.newarray aty, 2)) (hty : newarray.typeOf aty = ty) (hcl : Cond.arrayClass ty ∈ xT) (ht : kk = 10 ∧ t0 = 0 ∧ ty = .int ∨ kk = 11 ∧ t0 = 1 ∧ ty = .boolean) (k : ∀ q : Nat × Hp, xJ ι κ K (pc + 2) L (.ref q.1 :: st) q.2 (f q)) : xJ ι κ K pc L (.int n :: st) h ((xna h kk n).bind f) := fun v e kv => by
  obtain ⟨x, e1, e2⟩ := Option.bind_eq_some_iff.mp e
  obtain ⟨⟨n0, n1⟩, rfl⟩ := xif_some e1
  have hk := k _ v e2 kv
  have hB : xB κ (xadd h (kk, n.toNatClampNeg)) := hk.1
  unfold xB at hB
  rw [xn_add, xm_add] at hB
  simp only at hB
  have hnn : (n.toNatClampNeg : Int) = n.toInt := by show ((n.toInt.toNat : Nat) : Int) = n.toInt; omega
  refine ⟨⟨by omega, by omega⟩, fun b1 b2 p e' s m args below meth c hA H locs ls h1 h2 h3 => ?_⟩
  have hU := hA.2.2.2.2.2.2.2.2.1
  refine va_newa (atype := aty) (ty := ty) (n := n) (N' := n.toNatClampNeg) (a0 := (n.toNatClampNeg, .inl (fun _ => 0))) hA.1 hA.2.1 (by rw [hty]; exact hA.2.2.2.2.2.1 _ hcl) hty hU.1 h2 (xw_D _ _) h3 ?_ (fun cA => ?_) ?_ rfl ?_ ?_ ?_ hd (fun q cA H1 g0 g1 g2 g3 => ?_)
  · intro q hq
    have := hA.2.2.2.2.2.2.2.2.2
    show κ.2.1.1 ≤ q
    omega
  · rcases ht with ⟨-, -, rfl⟩ | ⟨-, -, rfl⟩ <;> rfl
  · intro q; have := Int32.lt_iff_toInt_lt.mp q; simp at this; omega
  · have : componentBytes ty ≤ 8 := by rcases ht with ⟨-, -, rfl⟩ | ⟨-, -, rfl⟩ <;> decide
    have h2 : n.toNatClampNeg * componentBytes ty ≤ 1000000 * 8 := Nat.mul_le_mul (by omega) this
    omega
  · show _ ≤ xn κ.2.2.2.2 - κ.2.2.1.1
    omega
  · show _ ≤ xm κ.2.2.2.2 - κ.2.2.1.2
    omega
  · have ee : xn h - κ.2.2.1.1 + 1 = xn (xadd h (kk, n.toNatClampNeg)) - κ.2.2.1.1 := by rw [xn_add]; omega
    have em : xm h - κ.2.2.1.2 + n.toNatClampNeg = xm (xadd h (kk, n.toNatClampNeg)) - κ.2.2.1.2 := by rw [xm_add]; show _ = xm h + n.toNatClampNeg - _; omega
    rw [ee, em]
    refine xW_size (fun hz => ?_)
    have hq : q = κ.2.1.1 + xn h := xq_eq g1 g2 (by rw [hA.2.2.2.2.2.2.2.2.2, xn_add] at hz; omega)
    subst hq
    have hcA : cA = κ.2.1.2.2.1 t0 := by
      have z1 := (g0.2 4 (cA, ty) (by rw [List.getElem?_append_right (by simp [xt])]; simp [xt])).2
      rcases ht with ⟨-, rfl, rfl⟩ | ⟨-, rfl, rfl⟩
      · have z2 := (hU.1.2 0 (κ.2.1.2.2.1 0, .int) rfl).2
        exact Option.some.inj (z1.symm.trans z2)
      · have z2 := (hU.1.2 1 (κ.2.1.2.2.1 1, .boolean) rfl).2
        exact Option.some.inj (z1.symm.trans z2)
    subst hcA
    refine hk.2 (by rw [xn_add]; omega) (by rw [xm_add]; omega) p e' s m args below meth c hA H1 locs ls h1 ?_ g3
    show va_P _ _ (xw κ.2.1 (xadd h (kk, n.toNatClampNeg))) H1
    rw [xw_add]
    have he : xe κ.2.1 (xadd h (kk, n.toNatClampNeg)) h.1.length (kk, n.toNatClampNeg) = .inl (κ.2.1.2.2.1 t0, n.toNatClampNeg, .inl (fun _ => 0)) := by
      rcases ht with ⟨rfl, rfl, -⟩ | ⟨rfl, rfl, -⟩ <;> simp [xe, xadd]
    rw [he]
    exact g1
theorem j_newq {n : Int32} {idx : Nat} {f : Nat × Hp → Option X} (kk t0 ci : Nat) (hd : decode ι.1 pc = .ok (.anewarray idx, 3)) (hcl : Cond.classLink ι.2.1 idx (xr ci) ∈ xT) (ht : kk = 12 ∧ t0 = 2 ∧ ci = 0 ∨ kk = 13 ∧ t0 = 3 ∧ ci = 5) (k : ∀ q : Nat × Hp, xJ ι κ K (pc + 3) L (.ref q.1 :: st) q.2 (f q)) : xJ ι κ K pc L (.int n :: st) h ((xna h kk n).bind f) := fun v e kv => by
  obtain ⟨x, e1, e2⟩ := Option.bind_eq_some_iff.mp e
  obtain ⟨⟨n0, n1⟩, rfl⟩ := xif_some e1
  have hk := k _ v e2 kv
  have hB : xB κ (xadd h (kk, n.toNatClampNeg)) := hk.1
  unfold xB at hB
  rw [xn_add, xm_add] at hB
  simp only at hB
  have hnn : (n.toNatClampNeg : Int) = n.toInt := by show ((n.toInt.toNat : Nat) : Int) = n.toInt; omega
  refine ⟨⟨by omega, by omega⟩, fun b1 b2 p e' s m args below meth c hA H locs ls h1 h2 h3 => ?_⟩
  have hU := hA.2.2.2.2.2.2.2.2.1
  refine va_newq (C := xr ci) (n := n) (N' := n.toNatClampNeg) hA.1 hA.2.1 hA.2.2.2.2.1 (hA.2.2.2.2.2.1 _ hcl) ?_ hU.1 h2 (xw_D _ _) h3 ?_ ?_ rfl ?_ ?_ ?_ hd (fun q cA H1 g0 g1 g2 g3 => ?_)
  · rcases ht with ⟨-, -, rfl⟩ | ⟨-, -, rfl⟩
    · exact hU.2.2.1.2
    · exact hU.2.2.1.1
  · intro q hq
    have := hA.2.2.2.2.2.2.2.2.2
    show κ.2.1.1 ≤ q
    omega
  · intro q; have := Int32.lt_iff_toInt_lt.mp q; simp at this; omega
  · omega
  · show _ ≤ xn κ.2.2.2.2 - κ.2.2.1.1
    omega
  · show _ ≤ xm κ.2.2.2.2 - κ.2.2.1.2
    omega
  · have ee : xn h - κ.2.2.1.1 + 1 = xn (xadd h (kk, n.toNatClampNeg)) - κ.2.2.1.1 := by rw [xn_add]; omega
    have em : xm h - κ.2.2.1.2 + n.toNatClampNeg = xm (xadd h (kk, n.toNatClampNeg)) - κ.2.2.1.2 := by rw [xm_add]; show _ = xm h + n.toNatClampNeg - _; omega
    rw [ee, em]
    refine xW_size (fun hz => ?_)
    have hq : q = κ.2.1.1 + xn h := xq_eq g1 g2 (by rw [hA.2.2.2.2.2.2.2.2.2, xn_add] at hz; omega)
    subst hq
    have hcA : cA = κ.2.1.2.2.1 t0 := by
      have z1 := (g0.2 4 (cA, .object (xr ci)) (by rw [List.getElem?_append_right (by simp [xt])]; simp [xt])).2
      obtain ⟨_, _, -, -, -, z1⟩ := z1
      rcases ht with ⟨-, rfl, rfl⟩ | ⟨-, rfl, rfl⟩
      · obtain ⟨_, _, -, -, -, z2⟩ := (hU.1.2 2 (κ.2.1.2.2.1 2, .object RX0) rfl).2
        exact Option.some.inj (z1.symm.trans z2)
      · obtain ⟨_, _, -, -, -, z2⟩ := (hU.1.2 3 (κ.2.1.2.2.1 3, .object RX5) rfl).2
        exact Option.some.inj (z1.symm.trans z2)
    subst hcA
    refine hk.2 (by rw [xn_add]; omega) (by rw [xm_add]; omega) p e' s m args below meth c hA H1 locs ls h1 ?_ g3
    show va_P _ _ (xw κ.2.1 (xadd h (kk, n.toNatClampNeg))) H1
    rw [xw_add]
    have he : xe κ.2.1 (xadd h (kk, n.toNatClampNeg)) h.1.length (kk, n.toNatClampNeg) = .inl (κ.2.1.2.2.1 t0, n.toNatClampNeg, .inr (.inr (.inr (.inr (fun _ => none))))) := by
      rcases ht with ⟨rfl, rfl, -⟩ | ⟨rfl, rfl, -⟩ <;> simp [xe, xadd]
    rw [he]
    exact g1
theorem j_obj {a idx : Nat} {o : Option X} (hd : decode ι.1 pc = .ok (.invokespecial idx, 3)) (hl : Cond.methodLink ι.2.1 idx objectInit ∈ xT) (hi : Cond.instanceMethod objectInit ∈ xT) (hcd : Cond.code objectInit ⟨#[0xb1]⟩ 1 none ∈ xT) (hst : (st.map fun v => v.category).sum ≤ 8) (hdp : 1 ≤ ι.2.2.2.2.2) (k : xJ ι κ K (pc + 3) L st h o) : xJ ι κ K pc L (.ref a :: st) h o := fun v e kv => ⟨(k v e kv).1, fun b1 b2 p e' s m args below meth c hA H locs ls h1 h2 h3 => by
  refine W.objInit hA.1 hA.2.1 hA.2.2.2.2.1 (hA.2.2.2.2.2.1 _ hl) (hA.2.2.2.2.2.1 _ hi) (hA.2.2.2.2.2.1 _ hcd) rfl (h1.1.trans hA.2.2.2.1.symm) rfl hd ?_ ?_ ((k v e kv).2 b1 b2 p e' s m args below meth c hA H locs ls h1 h2 h3)
  · show 1 ≤ (xR ι κ).frames
    exact hdp
  · have := lv_room (m := m) (pc := pc) (ls := ls) (rest := st.map (cv κ.2.1)) (st := st.map (cv κ.2.1)) (by rw [xcat]; exact hst)
    show _ ≤ 60 * ι.2.2.2.2.2
    have h9 : 2 * (F0 m pc ls ((.ref a :: st).map (cv κ.2.1))).monitorRoom = 2 * (F0 m pc ls (st.map (cv κ.2.1))).monitorRoom := rfl
    omega⟩
end XN
