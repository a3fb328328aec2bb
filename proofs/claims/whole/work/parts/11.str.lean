/-- literals: length and characters -/
def xsl (i : UInt32) : Option Int32 := if i.toNat < 4 then some (nI (xlit.getD i.toNat 0)) else none
def xsc (i : UInt32) (k : Int32) : Option Int32 := if i.toNat < 4 ∧ 0 ≤ k.toInt ∧ k.toInt < xlit.getD i.toNat 0 then some ((xbyt.getD i.toNat []).getD k.toNatClampNeg 0) else none
section XS
variable {X : Type} {ι : xI} {κ : xK} {K : X → Prop} {pc : Nat} {L : List (Nat × Value)} {st : List Value} {h : Hp}
theorem xzn {v0 : Int32} (h : vp_nar .boolean v0 = v0) : narrow .boolean (.int v0) = .int v0 := by
  have : narrow .boolean (.int v0) = .int (vp_nar .boolean v0) := rfl
  rw [this, h]
theorem j_zretc {v0 : Int32} (x : X) (hd : decode ι.1 pc = .ok (.ireturn, 1)) (hr : ι.2.2.2.1 = some .boolean) (hk : K x → κ.2.2.2.1 = some (.int v0) ∧ κ.2.2.2.2 = h) : xJ ι κ K pc L [.int v0] h (if vp_nar .boolean v0 = v0 then some x else none) := fun v e kv => by
  obtain ⟨hz, e1⟩ := xif_o e
  exact j_zret (L := L) x hd hr (xzn hz) hk v e1 kv
theorem j_lds (i : UInt32) {idx : Nat} {o : Option X} (hd : decode ι.1 pc = .ok (.ldc idx, 2)) (hr : ∀ U, xU κ.2.1 U → ∃ tx, vk_R ι.2.1 idx tx (κ.2.1.2.2.2.1 i.toNat) U) (k : xJ ι κ K (pc + 2) L (.float i :: st) h o) : xJ ι κ K pc L st h o := fun v e kv => ⟨(k v e kv).1, fun a b p e' s m args below meth c hA H locs ls h1 h2 h3 => by
  obtain ⟨tx, ht⟩ := hr s hA.2.2.2.2.2.2.2.2.1
  exact va_ldcS hA.1 hA.2.1 hA.2.2.2.2.1 ht hd ((k v e kv).2 a b p e' s m args below meth c hA H locs ls h1 h2 h3)⟩
end XS
section XS3
variable {X : Type} {ι : xI} {κ : xK} {K : X → Prop} {pc : Nat} {L : List (Nat × Value)} {st : List Value} {h : Hp} {o : Option X}
theorem cd_max : Cond.code Lib.Math.max.name Lib.Math.max.code 2 (some .int) ∈ xT := tg_J9_max_7cf53.1
theorem cd_min : Cond.code Lib.Math.min.name Lib.Math.min.code 2 (some .int) ∈ xT := tg_J9_min_7cf53.1
theorem j_mmax {x y : Int32} {idx : Nat} (hd : decode ι.1 pc = .ok (.invokestatic idx, 3)) (hl : Cond.methodLink ι.2.1 idx yJ9_max_7cf53 ∈ xT) (hdp : 1 ≤ ι.2.2.2.2.2) (hst : (st.map fun v => v.category).sum ≤ 8) (k : xJ ι κ K (pc + 3) L (.int (if x < y then y else x) :: st) h o) : xJ ι κ K pc L (.int y :: .int x :: st) h o := fun v e kv => ⟨(k v e kv).1, fun a b p e' s m args below meth c hA H locs ls h1 h2 h3 => by
  have hB := (k v e kv).1
  refine va_mmax hA.1 hA.2.1 (hA.2.2.2.1.trans h1.1.symm) hA.2.2.2.2.1 (hA.2.2.2.2.2.1 _ hl) (hA.2.2.2.2.2.1 _ st_J9_max_7cf53) (hA.2.2.2.2.2.1 _ in_RJ9) (hA.2.2.2.2.2.1 _ cd_max) hdp ?_ ?_ ?_ hd ((k v e kv).2 a b p e' s m args below meth c hA H locs ls h1 h2 h3)
  · rw [xcat]; show _ ≤ 60 * ι.2.2.2.2.2; omega
  · show _ ≤ xn κ.2.2.2.2 - κ.2.2.1.1; have := hB.1; omega
  · show _ ≤ xm κ.2.2.2.2 - κ.2.2.1.2; have := hB.2; omega⟩
theorem j_mmin {x y : Int32} {idx : Nat} (hd : decode ι.1 pc = .ok (.invokestatic idx, 3)) (hl : Cond.methodLink ι.2.1 idx yJ9_min_7cf53 ∈ xT) (hdp : 1 ≤ ι.2.2.2.2.2) (hst : (st.map fun v => v.category).sum ≤ 8) (k : xJ ι κ K (pc + 3) L (.int (if y < x then y else x) :: st) h o) : xJ ι κ K pc L (.int y :: .int x :: st) h o := fun v e kv => ⟨(k v e kv).1, fun a b p e' s m args below meth c hA H locs ls h1 h2 h3 => by
  have hB := (k v e kv).1
  refine va_mmin hA.1 hA.2.1 (hA.2.2.2.1.trans h1.1.symm) hA.2.2.2.2.1 (hA.2.2.2.2.2.1 _ hl) (hA.2.2.2.2.2.1 _ st_J9_min_7cf53) (hA.2.2.2.2.2.1 _ in_RJ9) (hA.2.2.2.2.2.1 _ cd_min) hdp ?_ ?_ ?_ hd ((k v e kv).2 a b p e' s m args below meth c hA H locs ls h1 h2 h3)
  · rw [xcat]; show _ ≤ 60 * ι.2.2.2.2.2; omega
  · show _ ≤ xn κ.2.2.2.2 - κ.2.2.1.1; have := hB.1; omega
  · show _ ≤ xm κ.2.2.2.2 - κ.2.2.1.2; have := hB.2; omega⟩
end XS3
