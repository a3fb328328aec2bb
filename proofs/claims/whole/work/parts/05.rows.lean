theorem xl_at {η : xEnv} {ls : Array Slot} {nL : Nat} {L : List (Nat × Value)} (h : lv_has ls nL (L.map (cq η))) {j i : Nat} {v : Value} (hj : L[j]? = some (i, v)) : ls[i]? = some (.val (cv η v)) := lv_at h j (by rw [List.getElem?_map, hj]; rfl)
theorem xl_f1 (η : xEnv) (i : Nat) : ∀ L : List (Nat × Value), (L.map (cq η)).filter (fun q => !(q.1 == i) && !(q.1 + 1 == i && q.2.category == 2)) = (L.filter (fun q => !(q.1 == i) && !(q.1 + 1 == i && q.2.category == 2))).map (cq η)
  | [] => rfl
  | q :: L => by
    have ih := xl_f1 η i L
    simp only [List.map_cons, List.filter_cons, cq, cv_cat] at ih ⊢
    split <;> simp_all [cq]
theorem xl_f2 (η : xEnv) (i : Nat) : ∀ L : List (Nat × Value), (L.map (cq η)).filter (fun q => !(q.1 == i) && (!(q.1 == i + 1) && !(q.1 + 1 == i && q.2.category == 2))) = (L.filter (fun q => !(q.1 == i) && (!(q.1 == i + 1) && !(q.1 + 1 == i && q.2.category == 2)))).map (cq η)
  | [] => rfl
  | q :: L => by
    have ih := xl_f2 η i L
    simp only [List.map_cons, List.filter_cons, cq, cv_cat] at ih ⊢
    split <;> simp_all [cq]
section XR
variable {X : Type} {ι : xI} {κ : xK} {K : X → Prop} {pc : Nat} {L L' : List (Nat × Value)} {st : List Value} {h : Hp} {o : Option X}
/-- fewer locals, in another order -/
theorem j_pick (ks : List Nat) (hl : lv_pick L ks = L') (k : xJ ι κ K pc L' st h o) : xJ ι κ K pc L st h o := fun v e kv => ⟨(k v e kv).1, fun a b p e' s m args below meth c hA H locs ls h1 h2 h3 => (k v e kv).2 a b p e' s m args below meth c hA H locs ls (by
  refine ⟨h1.1, h1.2.1, fun q hq => ?_⟩
  rw [← hl] at hq
  obtain ⟨q0, hq0, rfl⟩ := List.mem_map.mp hq
  obtain ⟨k, -, hk⟩ := List.mem_filterMap.mp hq0
  exact h1.2.2 _ (List.mem_map.mpr ⟨q0, List.mem_of_getElem? hk, rfl⟩)) h2 h3⟩
/-- a place that is come to from several sides -/
theorem j_have {α : Type} {Lf : α → List (Nat × Value)} {Sf : α → List Value} {Hf : α → Hp} {jf : α → Option X} {pj : Nat} (hj : ∀ a, xJ ι κ K pj (Lf a) (Sf a) (Hf a) (jf a)) (kk : (∀ a, xJ ι κ K pj (Lf a) (Sf a) (Hf a) (jf a)) → xJ ι κ K pc L st h o) : xJ ι κ K pc L st h o := kk hj
/-- a loop with fuel -/
def xloop {σ ρ : Type} (body : σ → Option (σ ⊕ ρ)) : Nat → σ → Option ρ
  | 0, _ => none
  | n + 1, s => match body s with
    | none => none
    | some (.inl s') => xloop body n s'
    | some (.inr r) => some r
def xKl {σ ρ : Type} (ι : xI) (κ : xK) (K : X → Prop) (pc : Nat) (Lf : σ → List (Nat × Value)) (Hf : σ → Hp) (k : ρ → Option X) : σ ⊕ ρ → Prop
  | .inl s => xB κ (Hf s) ∧ xG ι κ pc (Lf s) [] (Hf s)
  | .inr r => ∃ x, k r = some x ∧ K x
theorem j_loop {σ ρ : Type} {body : σ → Option (σ ⊕ ρ)} {k : ρ → Option X} {Lf : σ → List (Nat × Value)} {Hf : σ → Hp} (hb : ∀ s, xJ ι κ (xKl ι κ K pc Lf Hf k) pc (Lf s) [] (Hf s) (body s)) : ∀ (n : Nat) (s : σ), xJ ι κ K pc (Lf s) [] (Hf s) ((xloop body n s).bind k)
  | 0, s => fun x e _ => by simp [xloop] at e
  | n + 1, s => fun x e kx => by
    cases hs : body s with
    | none => simp [xloop, hs] at e
    | some v =>
      cases v with
      | inl s' =>
        simp only [xloop, hs] at e
        exact hb s (.inl s') hs (j_loop hb n s' x e kx)
      | inr r =>
        simp only [xloop, hs, Option.bind_some] at e
        exact hb s (.inr r) hs ⟨x, e, kx⟩
/-- the loop goes on: its head is reached again -/
theorem j_again {σ ρ : Type} {k : ρ → Option X} {Lf : σ → List (Nat × Value)} {Hf : σ → Hp} (s : σ) (hL : L = Lf s) (hH : h = Hf s) : xJ ι κ (xKl ι κ K pc Lf Hf k) pc L [] h (some (.inl s)) := by
  subst hL; subst hH
  intro x e kx
  cases e
  exact kx
/-- the loop is left -/
theorem j_exit {σ ρ : Type} {k : ρ → Option X} {Lf : σ → List (Nat × Value)} {Hf : σ → Hp} {pl : Nat} (r : ρ) (hr : xJ ι κ K pc L st h (k r)) : xJ ι κ (xKl ι κ K pl Lf Hf k) pc L st h (some (.inr r)) := by
  intro x e kx
  cases e
  obtain ⟨x2, e2, k2⟩ := kx
  exact hr x2 e2 k2

theorem j_iadd {x y : Int32} (hd : decode ι.1 pc = .ok (.iadd, 1)) (k : xJ ι κ K (pc + 1) L (.int (x + y) :: st) h o) : xJ ι κ K pc L (.int y :: .int x :: st) h o := fun v e kv => ⟨(k v e kv).1, fun a b p e' s m args below meth c hA H locs ls h1 h2 h3 => lv_iadd hA.1 hA.2.1 hd ((k v e kv).2 a b p e' s m args below meth c hA H locs ls h1 h2 h3)⟩
theorem j_isub {x y : Int32} (hd : decode ι.1 pc = .ok (.isub, 1)) (k : xJ ι κ K (pc + 1) L (.int (x - y) :: st) h o) : xJ ι κ K pc L (.int y :: .int x :: st) h o := fun v e kv => ⟨(k v e kv).1, fun a b p e' s m args below meth c hA H locs ls h1 h2 h3 => lv_isub hA.1 hA.2.1 hd ((k v e kv).2 a b p e' s m args below meth c hA H locs ls h1 h2 h3)⟩
theorem j_imul {x y : Int32} (hd : decode ι.1 pc = .ok (.imul, 1)) (k : xJ ι κ K (pc + 1) L (.int (x * y) :: st) h o) : xJ ι κ K pc L (.int y :: .int x :: st) h o := fun v e kv => ⟨(k v e kv).1, fun a b p e' s m args below meth c hA H locs ls h1 h2 h3 => lv_imul hA.1 hA.2.1 hd ((k v e kv).2 a b p e' s m args below meth c hA H locs ls h1 h2 h3)⟩
theorem j_iand {x y : Int32} (hd : decode ι.1 pc = .ok (.iand, 1)) (k : xJ ι κ K (pc + 1) L (.int (x &&& y) :: st) h o) : xJ ι κ K pc L (.int y :: .int x :: st) h o := fun v e kv => ⟨(k v e kv).1, fun a b p e' s m args below meth c hA H locs ls h1 h2 h3 => lv_iand hA.1 hA.2.1 hd ((k v e kv).2 a b p e' s m args below meth c hA H locs ls h1 h2 h3)⟩
theorem j_ior {x y : Int32} (hd : decode ι.1 pc = .ok (.ior, 1)) (k : xJ ι κ K (pc + 1) L (.int (x ||| y) :: st) h o) : xJ ι κ K pc L (.int y :: .int x :: st) h o := fun v e kv => ⟨(k v e kv).1, fun a b p e' s m args below meth c hA H locs ls h1 h2 h3 => lv_ior hA.1 hA.2.1 hd ((k v e kv).2 a b p e' s m args below meth c hA H locs ls h1 h2 h3)⟩
theorem j_ixor {x y : Int32} (hd : decode ι.1 pc = .ok (.ixor, 1)) (k : xJ ι κ K (pc + 1) L (.int (x ^^^ y) :: st) h o) : xJ ι κ K pc L (.int y :: .int x :: st) h o := fun v e kv => ⟨(k v e kv).1, fun a b p e' s m args below meth c hA H locs ls h1 h2 h3 => lv_ixor hA.1 hA.2.1 hd ((k v e kv).2 a b p e' s m args below meth c hA H locs ls h1 h2 h3)⟩
theorem j_ishl {x y : Int32} (hd : decode ι.1 pc = .ok (.ishl, 1)) (k : xJ ι κ K (pc + 1) L (.int (x <<< (y &&& 31)) :: st) h o) : xJ ι κ K pc L (.int y :: .int x :: st) h o := fun v e kv => ⟨(k v e kv).1, fun a b p e' s m args below meth c hA H locs ls h1 h2 h3 => lv_ishl hA.1 hA.2.1 hd ((k v e kv).2 a b p e' s m args below meth c hA H locs ls h1 h2 h3)⟩
theorem j_ishr {x y : Int32} (hd : decode ι.1 pc = .ok (.ishr, 1)) (k : xJ ι κ K (pc + 1) L (.int (x >>> (y &&& 31)) :: st) h o) : xJ ι κ K pc L (.int y :: .int x :: st) h o := fun v e kv => ⟨(k v e kv).1, fun a b p e' s m args below meth c hA H locs ls h1 h2 h3 => lv_ishr hA.1 hA.2.1 hd ((k v e kv).2 a b p e' s m args below meth c hA H locs ls h1 h2 h3)⟩
theorem j_iushr {x y : Int32} (hd : decode ι.1 pc = .ok (.iushr, 1)) (k : xJ ι κ K (pc + 1) L (.int (x.toUInt32 >>> (y.toUInt32 &&& Int32.toUInt32 31)).toInt32 :: st) h o) : xJ ι κ K pc L (.int y :: .int x :: st) h o := fun v e kv => ⟨(k v e kv).1, fun a b p e' s m args below meth c hA H locs ls h1 h2 h3 => lv_iushr hA.1 hA.2.1 hd rfl ((k v e kv).2 a b p e' s m args below meth c hA H locs ls h1 h2 h3)⟩
theorem j_ladd {x y : Int64} (hd : decode ι.1 pc = .ok (.ladd, 1)) (k : xJ ι κ K (pc + 1) L (.long (x + y) :: st) h o) : xJ ι κ K pc L (.long y :: .long x :: st) h o := fun v e kv => ⟨(k v e kv).1, fun a b p e' s m args below meth c hA H locs ls h1 h2 h3 => lv_ladd hA.1 hA.2.1 hd ((k v e kv).2 a b p e' s m args below meth c hA H locs ls h1 h2 h3)⟩
theorem j_lmul {x y : Int64} (hd : decode ι.1 pc = .ok (.lmul, 1)) (k : xJ ι κ K (pc + 1) L (.long (x * y) :: st) h o) : xJ ι κ K pc L (.long y :: .long x :: st) h o := fun v e kv => ⟨(k v e kv).1, fun a b p e' s m args below meth c hA H locs ls h1 h2 h3 => lv_lmul hA.1 hA.2.1 hd ((k v e kv).2 a b p e' s m args below meth c hA H locs ls h1 h2 h3)⟩
theorem j_lcmp {x y : Int64} (hd : decode ι.1 pc = .ok (.lcmp, 1)) (k : xJ ι κ K (pc + 1) L (.int (lg_cmp x y) :: st) h o) : xJ ι κ K pc L (.long y :: .long x :: st) h o := fun v e kv => ⟨(k v e kv).1, fun a b p e' s m args below meth c hA H locs ls h1 h2 h3 => W.lcmp hA.1 hA.2.1 hd ((k v e kv).2 a b p e' s m args below meth c hA H locs ls h1 h2 h3)⟩
theorem j_i2l {x : Int32} (hd : decode ι.1 pc = .ok (.i2l, 1)) (k : xJ ι κ K (pc + 1) L (.long x.toInt64 :: st) h o) : xJ ι κ K pc L (.int x :: st) h o := fun v e kv => ⟨(k v e kv).1, fun a b p e' s m args below meth c hA H locs ls h1 h2 h3 => lv_i2l hA.1 hA.2.1 hd rfl ((k v e kv).2 a b p e' s m args below meth c hA H locs ls h1 h2 h3)⟩
theorem j_l2i {x : Int64} (hd : decode ι.1 pc = .ok (.l2i, 1)) (k : xJ ι κ K (pc + 1) L (.int x.toInt32 :: st) h o) : xJ ι κ K pc L (.long x :: st) h o := fun v e kv => ⟨(k v e kv).1, fun a b p e' s m args below meth c hA H locs ls h1 h2 h3 => lv_l2i hA.1 hA.2.1 hd rfl ((k v e kv).2 a b p e' s m args below meth c hA H locs ls h1 h2 h3)⟩
theorem j_iconst {n : Int} {x : Int32} (hd : decode ι.1 pc = .ok (.iconst n, 1)) (hx : Int32.ofInt n = x) (k : xJ ι κ K (pc + 1) L (.int x :: st) h o) : xJ ι κ K pc L (st) h o := fun v e kv => ⟨(k v e kv).1, fun a b p e' s m args below meth c hA H locs ls h1 h2 h3 => lv_iconst hA.1 hA.2.1 hd hx ((k v e kv).2 a b p e' s m args below meth c hA H locs ls h1 h2 h3)⟩
theorem j_bipush {n : Int} {x : Int32} (hd : decode ι.1 pc = .ok (.bipush n, 2)) (hx : (Int8.ofInt n).toInt32 = x) (k : xJ ι κ K (pc + 2) L (.int x :: st) h o) : xJ ι κ K pc L (st) h o := fun v e kv => ⟨(k v e kv).1, fun a b p e' s m args below meth c hA H locs ls h1 h2 h3 => lv_bipush hA.1 hA.2.1 hd hx ((k v e kv).2 a b p e' s m args below meth c hA H locs ls h1 h2 h3)⟩
theorem j_sipush {n : Int} {x : Int32} (hd : decode ι.1 pc = .ok (.sipush n, 3)) (hx : (Int16.ofInt n).toInt32 = x) (k : xJ ι κ K (pc + 3) L (.int x :: st) h o) : xJ ι κ K pc L (st) h o := fun v e kv => ⟨(k v e kv).1, fun a b p e' s m args below meth c hA H locs ls h1 h2 h3 => lv_sipush hA.1 hA.2.1 hd hx ((k v e kv).2 a b p e' s m args below meth c hA H locs ls h1 h2 h3)⟩
theorem j_lconst {n : Fin 2} {x : Int64} (hd : decode ι.1 pc = .ok (.lconst n, 1)) (hx : Int64.ofNat (n : Nat) = x) (k : xJ ι κ K (pc + 1) L (.long x :: st) h o) : xJ ι κ K pc L (st) h o := fun v e kv => ⟨(k v e kv).1, fun a b p e' s m args below meth c hA H locs ls h1 h2 h3 => lv_lconst hA.1 hA.2.1 hd hx ((k v e kv).2 a b p e' s m args below meth c hA H locs ls h1 h2 h3)⟩
theorem j_ldc {i : Nat} {x : Int32} (hd : decode ι.1 pc = .ok (.ldc i, 2)) (hx : Cond.constant ι.2.1 i x ∈ xT) (k : xJ ι κ K (pc + 2) L (.int x :: st) h o) : xJ ι κ K pc L (st) h o := fun v e kv => ⟨(k v e kv).1, fun a b p e' s m args below meth c hA H locs ls h1 h2 h3 => lv_ldc hA.1 hA.2.1 hA.2.2.2.2.1 (hA.2.2.2.2.2.1 _ hx) hd ((k v e kv).2 a b p e' s m args below meth c hA H locs ls h1 h2 h3)⟩
theorem j_ldcw {i : Nat} {x : Int32} (hd : decode ι.1 pc = .ok (.ldc_w i, 3)) (hx : Cond.constant ι.2.1 i x ∈ xT) (k : xJ ι κ K (pc + 3) L (.int x :: st) h o) : xJ ι κ K pc L (st) h o := fun v e kv => ⟨(k v e kv).1, fun a b p e' s m args below meth c hA H locs ls h1 h2 h3 => lv_ldcw hA.1 hA.2.1 hA.2.2.2.2.1 (hA.2.2.2.2.2.1 _ hx) hd ((k v e kv).2 a b p e' s m args below meth c hA H locs ls h1 h2 h3)⟩
theorem j_ldc2 {i : Nat} {x : Int64} (hd : decode ι.1 pc = .ok (.ldc2_w i, 3)) (hx : Cond.constantLong ι.2.1 i x ∈ xT) (k : xJ ι κ K (pc + 3) L (.long x :: st) h o) : xJ ι κ K pc L (st) h o := fun v e kv => ⟨(k v e kv).1, fun a b p e' s m args below meth c hA H locs ls h1 h2 h3 => lv_ldc2 hA.1 hA.2.1 hA.2.2.2.2.1 (hA.2.2.2.2.2.1 _ hx) hd ((k v e kv).2 a b p e' s m args below meth c hA H locs ls h1 h2 h3)⟩
theorem j_dup {v0 : Value} (hd : decode ι.1 pc = .ok (.dup, 1)) (hv : v0.category = 1) (k : xJ ι κ K (pc + 1) L (v0 :: v0 :: st) h o) : xJ ι κ K pc L (v0 :: st) h o := fun v e kv => ⟨(k v e kv).1, fun a b p e' s m args below meth c hA H locs ls h1 h2 h3 => lv_dup hA.1 hA.2.1 hd (by rw [cv_cat]; exact hv) ((k v e kv).2 a b p e' s m args below meth c hA H locs ls h1 h2 h3)⟩
theorem j_dup2 {v0 v1 : Value} (hd : decode ι.1 pc = .ok (.dup2, 1)) (hv : v0.category = 1) (hv1 : v1.category = 1) (k : xJ ι κ K (pc + 1) L (v0 :: v1 :: v0 :: v1 :: st) h o) : xJ ι κ K pc L (v0 :: v1 :: st) h o := fun v e kv => ⟨(k v e kv).1, fun a b p e' s m args below meth c hA H locs ls h1 h2 h3 => lv_dup2_11 hA.1 hA.2.1 hd (by rw [cv_cat]; exact hv) (by rw [cv_cat]; exact hv1) ((k v e kv).2 a b p e' s m args below meth c hA H locs ls h1 h2 h3)⟩
theorem j_pop {v0 : Value} (hd : decode ι.1 pc = .ok (.pop, 1)) (hv : v0.category = 1) (k : xJ ι κ K (pc + 1) L (st) h o) : xJ ι κ K pc L (v0 :: st) h o := fun v e kv => ⟨(k v e kv).1, fun a b p e' s m args below meth c hA H locs ls h1 h2 h3 => lv_pop hA.1 hA.2.1 hd (by rw [cv_cat]; exact hv) ((k v e kv).2 a b p e' s m args below meth c hA H locs ls h1 h2 h3)⟩
theorem j_iload_n {f : Fin 4} {i : Nat} {x : Int32} (j : Nat) (hd : decode ι.1 pc = .ok (.iload_n f, 1)) (hi : (f : Nat) = i) (hj : L[j]? = some (i, .int x)) (k : xJ ι κ K (pc + 1) L (.int x :: st) h o) : xJ ι κ K pc L (st) h o := fun v e kv => ⟨(k v e kv).1, fun a b p e' s m args below meth c hA H locs ls h1 h2 h3 => lv_iload_n hA.1 hA.2.1 hd hi (xl_at h1 hj) ((k v e kv).2 a b p e' s m args below meth c hA H locs ls h1 h2 h3)⟩
theorem j_iload {i : Nat} {x : Int32} (j : Nat) (hd : decode ι.1 pc = .ok (.iload i, 2)) (hj : L[j]? = some (i, .int x)) (k : xJ ι κ K (pc + 2) L (.int x :: st) h o) : xJ ι κ K pc L (st) h o := fun v e kv => ⟨(k v e kv).1, fun a b p e' s m args below meth c hA H locs ls h1 h2 h3 => lv_iload hA.1 hA.2.1 hd (xl_at h1 hj) ((k v e kv).2 a b p e' s m args below meth c hA H locs ls h1 h2 h3)⟩
theorem j_lload_n {f : Fin 4} {i : Nat} {x : Int64} (j : Nat) (hd : decode ι.1 pc = .ok (.lload_n f, 1)) (hi : (f : Nat) = i) (hj : L[j]? = some (i, .long x)) (k : xJ ι κ K (pc + 1) L (.long x :: st) h o) : xJ ι κ K pc L (st) h o := fun v e kv => ⟨(k v e kv).1, fun a b p e' s m args below meth c hA H locs ls h1 h2 h3 => lv_lload_n hA.1 hA.2.1 hd hi (xl_at h1 hj) ((k v e kv).2 a b p e' s m args below meth c hA H locs ls h1 h2 h3)⟩
theorem j_lload {i : Nat} {x : Int64} (j : Nat) (hd : decode ι.1 pc = .ok (.lload i, 2)) (hj : L[j]? = some (i, .long x)) (k : xJ ι κ K (pc + 2) L (.long x :: st) h o) : xJ ι κ K pc L (st) h o := fun v e kv => ⟨(k v e kv).1, fun a b p e' s m args below meth c hA H locs ls h1 h2 h3 => lv_lload hA.1 hA.2.1 hd (xl_at h1 hj) ((k v e kv).2 a b p e' s m args below meth c hA H locs ls h1 h2 h3)⟩
theorem j_aload_n {f : Fin 4} {i : Nat} {x : Nat} (j : Nat) (hd : decode ι.1 pc = .ok (.aload_n f, 1)) (hi : (f : Nat) = i) (hj : L[j]? = some (i, .ref x)) (k : xJ ι κ K (pc + 1) L (.ref x :: st) h o) : xJ ι κ K pc L (st) h o := fun v e kv => ⟨(k v e kv).1, fun a b p e' s m args below meth c hA H locs ls h1 h2 h3 => lv_aload_n hA.1 hA.2.1 hd hi (xl_at h1 hj) ((k v e kv).2 a b p e' s m args below meth c hA H locs ls h1 h2 h3)⟩
theorem j_sload_n {f : Fin 4} {i : Nat} {x : UInt32} (j : Nat) (hd : decode ι.1 pc = .ok (.aload_n f, 1)) (hi : (f : Nat) = i) (hj : L[j]? = some (i, .float x)) (k : xJ ι κ K (pc + 1) L (.float x :: st) h o) : xJ ι κ K pc L (st) h o := fun v e kv => ⟨(k v e kv).1, fun a b p e' s m args below meth c hA H locs ls h1 h2 h3 => lv_aload_n hA.1 hA.2.1 hd hi (xl_at h1 hj) ((k v e kv).2 a b p e' s m args below meth c hA H locs ls h1 h2 h3)⟩
theorem j_istore_n {f : Fin 4} {i : Nat} {x : Int32} (hd : decode ι.1 pc = .ok (.istore_n f, 1)) (hi : (f : Nat) = i) (hn : i < ι.2.2.2.2.1) (hL : (i, Value.int x) :: L.filter (fun q => !(q.1 == i) && !(q.1 + 1 == i && q.2.category == 2)) = L') (k : xJ ι κ K (pc + 1) L' st h o) : xJ ι κ K pc L (.int x :: st) h o := fun v e kv => ⟨(k v e kv).1, fun a b p e' s m args below meth c hA H locs ls h1 h2 h3 => lv_istore_n (lv' := L'.map (cq κ.2.1)) hA.1 hA.2.1 hd hi h1 hn (by rw [xl_f1 κ.2.1, ← hL]; rfl) (fun ls' h1' => (k v e kv).2 a b p e' s m args below meth c hA H locs ls' h1' h2 h3)⟩
theorem j_istore {i : Nat} {x : Int32} (hd : decode ι.1 pc = .ok (.istore i, 2)) (hn : i < ι.2.2.2.2.1) (hL : (i, Value.int x) :: L.filter (fun q => !(q.1 == i) && !(q.1 + 1 == i && q.2.category == 2)) = L') (k : xJ ι κ K (pc + 2) L' st h o) : xJ ι κ K pc L (.int x :: st) h o := fun v e kv => ⟨(k v e kv).1, fun a b p e' s m args below meth c hA H locs ls h1 h2 h3 => lv_istore (lv' := L'.map (cq κ.2.1)) hA.1 hA.2.1 hd h1 hn (by rw [xl_f1 κ.2.1, ← hL]; rfl) (fun ls' h1' => (k v e kv).2 a b p e' s m args below meth c hA H locs ls' h1' h2 h3)⟩
theorem j_astore_n {f : Fin 4} {i : Nat} {x : Nat} (hd : decode ι.1 pc = .ok (.astore_n f, 1)) (hi : (f : Nat) = i) (hn : i < ι.2.2.2.2.1) (hL : (i, Value.ref x) :: L.filter (fun q => !(q.1 == i) && !(q.1 + 1 == i && q.2.category == 2)) = L') (k : xJ ι κ K (pc + 1) L' st h o) : xJ ι κ K pc L (.ref x :: st) h o := fun v e kv => ⟨(k v e kv).1, fun a b p e' s m args below meth c hA H locs ls h1 h2 h3 => lv_astore_n (lv' := L'.map (cq κ.2.1)) hA.1 hA.2.1 hd hi h1 hn (by rw [xl_f1 κ.2.1, ← hL]; rfl) (fun ls' h1' => (k v e kv).2 a b p e' s m args below meth c hA H locs ls' h1' h2 h3)⟩
theorem j_lstore_n {f : Fin 4} {i : Nat} {x : Int64} (hd : decode ι.1 pc = .ok (.lstore_n f, 1)) (hi : (f : Nat) = i) (hn : i + 1 < ι.2.2.2.2.1) (hL : (i, Value.long x) :: L.filter (fun q => !(q.1 == i) && (!(q.1 == i + 1) && !(q.1 + 1 == i && q.2.category == 2))) = L') (k : xJ ι κ K (pc + 1) L' st h o) : xJ ι κ K pc L (.long x :: st) h o := fun v e kv => ⟨(k v e kv).1, fun a b p e' s m args below meth c hA H locs ls h1 h2 h3 => lv_lstore_n (lv' := L'.map (cq κ.2.1)) hA.1 hA.2.1 hd hi h1 hn (by rw [xl_f2 κ.2.1, ← hL]; rfl) (fun ls' h1' => (k v e kv).2 a b p e' s m args below meth c hA H locs ls' h1' h2 h3)⟩
theorem j_lstore {i : Nat} {x : Int64} (hd : decode ι.1 pc = .ok (.lstore i, 2)) (hn : i + 1 < ι.2.2.2.2.1) (hL : (i, Value.long x) :: L.filter (fun q => !(q.1 == i) && (!(q.1 == i + 1) && !(q.1 + 1 == i && q.2.category == 2))) = L') (k : xJ ι κ K (pc + 2) L' st h o) : xJ ι κ K pc L (.long x :: st) h o := fun v e kv => ⟨(k v e kv).1, fun a b p e' s m args below meth c hA H locs ls h1 h2 h3 => lv_lstore (lv' := L'.map (cq κ.2.1)) hA.1 hA.2.1 hd h1 hn (by rw [xl_f2 κ.2.1, ← hL]; rfl) (fun ls' h1' => (k v e kv).2 a b p e' s m args below meth c hA H locs ls' h1' h2 h3)⟩
theorem j_iinc {i : Nat} {n : Int} {x y : Int32} (j : Nat) (hd : decode ι.1 pc = .ok (.iinc i n, 3)) (hj : L[j]? = some (i, .int x)) (hy : x + Int32.ofInt n = y) (hn : i < ι.2.2.2.2.1) (hL : (i, Value.int y) :: L.filter (fun q => !(q.1 == i) && !(q.1 + 1 == i && q.2.category == 2)) = L') (k : xJ ι κ K (pc + 3) L' st h o) : xJ ι κ K pc L st h o := fun v e kv => ⟨(k v e kv).1, fun a b p e' s m args below meth c hA H locs ls h1 h2 h3 => lv_iinc (k := j) (lv' := L'.map (cq κ.2.1)) hA.1 hA.2.1 hd h1 (by rw [List.getElem?_map, hj]; rfl) hy hn (by rw [xl_f1 κ.2.1, ← hL]; rfl) (fun ls' h1' => (k v e kv).2 a b p e' s m args below meth c hA H locs ls' h1' h2 h3)⟩
theorem j_goto {off : Int} {tgt : Nat} (hd : decode ι.1 pc = .ok (.goto off, 3)) (ht : (pc : Int) + off = (tgt : Int)) (k : xJ ι κ K tgt L st h o) : xJ ι κ K pc L st h o := fun v e kv => ⟨(k v e kv).1, fun a b p e' s m args below meth c hA H locs ls h1 h2 h3 => lv_goto hA.1 hA.2.1 hd ht ((k v e kv).2 a b p e' s m args below meth c hA H locs ls h1 h2 h3)⟩
theorem j_idiv {x y : Int32} (hd : decode ι.1 pc = .ok (.idiv, 1)) (k : ¬ y = 0 → xJ ι κ K (pc + 1) L (.int (x / y) :: st) h o) : xJ ι κ K pc L (.int y :: .int x :: st) h (if y = 0 then none else o) := fun v e kv => by
  by_cases hy : y = 0
  · rw [if_pos hy] at e; cases e
  · rw [if_neg hy] at e
    exact ⟨(k hy v e kv).1, fun a b p e' s m args below meth c hA H locs ls h1 h2 h3 => lv_idiv hA.1 hA.2.1 hd hy ((k hy v e kv).2 a b p e' s m args below meth c hA H locs ls h1 h2 h3)⟩
theorem j_irem {x y : Int32} (hd : decode ι.1 pc = .ok (.irem, 1)) (k : ¬ y = 0 → xJ ι κ K (pc + 1) L (.int (x - x / y * y) :: st) h o) : xJ ι κ K pc L (.int y :: .int x :: st) h (if y = 0 then none else o) := fun v e kv => by
  by_cases hy : y = 0
  · rw [if_pos hy] at e; cases e
  · rw [if_neg hy] at e
    exact ⟨(k hy v e kv).1, fun a b p e' s m args below meth c hA H locs ls h1 h2 h3 => lv_irem hA.1 hA.2.1 hd hy ((k hy v e kv).2 a b p e' s m args below meth c hA H locs ls h1 h2 h3)⟩
theorem j_ldiv {x y : Int64} (hd : decode ι.1 pc = .ok (.ldiv, 1)) (k : ¬ y = 0 → xJ ι κ K (pc + 1) L (.long (x / y) :: st) h o) : xJ ι κ K pc L (.long y :: .long x :: st) h (if y = 0 then none else o) := fun v e kv => by
  by_cases hy : y = 0
  · rw [if_pos hy] at e; cases e
  · rw [if_neg hy] at e
    exact ⟨(k hy v e kv).1, fun a b p e' s m args below meth c hA H locs ls h1 h2 h3 => lv_ldiv hA.1 hA.2.1 hd hy ((k hy v e kv).2 a b p e' s m args below meth c hA H locs ls h1 h2 h3)⟩
theorem j_lrem {x y : Int64} (hd : decode ι.1 pc = .ok (.lrem, 1)) (k : ¬ y = 0 → xJ ι κ K (pc + 1) L (.long (x - x / y * y) :: st) h o) : xJ ι κ K pc L (.long y :: .long x :: st) h (if y = 0 then none else o) := fun v e kv => by
  by_cases hy : y = 0
  · rw [if_pos hy] at e; cases e
  · rw [if_neg hy] at e
    exact ⟨(k hy v e kv).1, fun a b p e' s m args below meth c hA H locs ls h1 h2 h3 => lv_lrem hA.1 hA.2.1 hd hy ((k hy v e kv).2 a b p e' s m args below meth c hA H locs ls h1 h2 h3)⟩
theorem j_if_eq {x : Int32} {off : Int} {tgt : Nat} {o1 o2 : Option X} (hd : decode ι.1 pc = .ok (.ifCond .eq off, 3)) (ht : (pc : Int) + off = (tgt : Int)) (kt : x = 0 → xJ ι κ K tgt L st h o1) (kf : ¬ x = 0 → xJ ι κ K (pc + 3) L st h o2) : xJ ι κ K pc L (.int x :: st) h (if x = 0 then o1 else o2) := fun v e kv => by
  refine ⟨?_, fun a b p e' s m args below meth c hA H locs ls h1 h2 h3 => lv_if_eq hA.1 hA.2.1 hd ht (fun hc => (kt hc v (by rw [if_pos hc] at e; exact e) kv).2 a b p e' s m args below meth c hA H locs ls h1 h2 h3) (fun hc => (kf hc v (by rw [if_neg hc] at e; exact e) kv).2 a b p e' s m args below meth c hA H locs ls h1 h2 h3)⟩
  by_cases hc : x = 0
  · exact (kt hc v (by rw [if_pos hc] at e; exact e) kv).1
  · exact (kf hc v (by rw [if_neg hc] at e; exact e) kv).1
theorem j_icmp_eq {x y : Int32} {off : Int} {tgt : Nat} {o1 o2 : Option X} (hd : decode ι.1 pc = .ok (.if_icmp .eq off, 3)) (ht : (pc : Int) + off = (tgt : Int)) (kt : x = y → xJ ι κ K tgt L st h o1) (kf : ¬ x = y → xJ ι κ K (pc + 3) L st h o2) : xJ ι κ K pc L (.int y :: .int x :: st) h (if x = y then o1 else o2) := fun v e kv => by
  refine ⟨?_, fun a b p e' s m args below meth c hA H locs ls h1 h2 h3 => lv_icmp_eq hA.1 hA.2.1 hd ht (fun hc => (kt hc v (by rw [if_pos hc] at e; exact e) kv).2 a b p e' s m args below meth c hA H locs ls h1 h2 h3) (fun hc => (kf hc v (by rw [if_neg hc] at e; exact e) kv).2 a b p e' s m args below meth c hA H locs ls h1 h2 h3)⟩
  by_cases hc : x = y
  · exact (kt hc v (by rw [if_pos hc] at e; exact e) kv).1
  · exact (kf hc v (by rw [if_neg hc] at e; exact e) kv).1
theorem j_if_ne {x : Int32} {off : Int} {tgt : Nat} {o1 o2 : Option X} (hd : decode ι.1 pc = .ok (.ifCond .ne off, 3)) (ht : (pc : Int) + off = (tgt : Int)) (kt : x = 0 → xJ ι κ K (pc + 3) L st h o1) (kf : ¬ x = 0 → xJ ι κ K tgt L st h o2) : xJ ι κ K pc L (.int x :: st) h (if x = 0 then o1 else o2) := fun v e kv => by
  refine ⟨?_, fun a b p e' s m args below meth c hA H locs ls h1 h2 h3 => lv_if_ne hA.1 hA.2.1 hd ht (fun hc => (kf hc v (by rw [if_neg hc] at e; exact e) kv).2 a b p e' s m args below meth c hA H locs ls h1 h2 h3) (fun hc => (kt hc v (by rw [if_pos hc] at e; exact e) kv).2 a b p e' s m args below meth c hA H locs ls h1 h2 h3)⟩
  by_cases hc : x = 0
  · exact (kt hc v (by rw [if_pos hc] at e; exact e) kv).1
  · exact (kf hc v (by rw [if_neg hc] at e; exact e) kv).1
theorem j_icmp_ne {x y : Int32} {off : Int} {tgt : Nat} {o1 o2 : Option X} (hd : decode ι.1 pc = .ok (.if_icmp .ne off, 3)) (ht : (pc : Int) + off = (tgt : Int)) (kt : x = y → xJ ι κ K (pc + 3) L st h o1) (kf : ¬ x = y → xJ ι κ K tgt L st h o2) : xJ ι κ K pc L (.int y :: .int x :: st) h (if x = y then o1 else o2) := fun v e kv => by
  refine ⟨?_, fun a b p e' s m args below meth c hA H locs ls h1 h2 h3 => lv_icmp_ne hA.1 hA.2.1 hd ht (fun hc => (kf hc v (by rw [if_neg hc] at e; exact e) kv).2 a b p e' s m args below meth c hA H locs ls h1 h2 h3) (fun hc => (kt hc v (by rw [if_pos hc] at e; exact e) kv).2 a b p e' s m args below meth c hA H locs ls h1 h2 h3)⟩
  by_cases hc : x = y
  · exact (kt hc v (by rw [if_pos hc] at e; exact e) kv).1
  · exact (kf hc v (by rw [if_neg hc] at e; exact e) kv).1
theorem j_if_lt {x : Int32} {off : Int} {tgt : Nat} {o1 o2 : Option X} (hd : decode ι.1 pc = .ok (.ifCond .lt off, 3)) (ht : (pc : Int) + off = (tgt : Int)) (kt : x < 0 → xJ ι κ K tgt L st h o1) (kf : ¬ x < 0 → xJ ι κ K (pc + 3) L st h o2) : xJ ι κ K pc L (.int x :: st) h (if x < 0 then o1 else o2) := fun v e kv => by
  refine ⟨?_, fun a b p e' s m args below meth c hA H locs ls h1 h2 h3 => lv_if_lt hA.1 hA.2.1 hd ht (fun hc => (kt hc v (by rw [if_pos hc] at e; exact e) kv).2 a b p e' s m args below meth c hA H locs ls h1 h2 h3) (fun hc => (kf hc v (by rw [if_neg hc] at e; exact e) kv).2 a b p e' s m args below meth c hA H locs ls h1 h2 h3)⟩
  by_cases hc : x < 0
  · exact (kt hc v (by rw [if_pos hc] at e; exact e) kv).1
  · exact (kf hc v (by rw [if_neg hc] at e; exact e) kv).1
theorem j_icmp_lt {x y : Int32} {off : Int} {tgt : Nat} {o1 o2 : Option X} (hd : decode ι.1 pc = .ok (.if_icmp .lt off, 3)) (ht : (pc : Int) + off = (tgt : Int)) (kt : x < y → xJ ι κ K tgt L st h o1) (kf : ¬ x < y → xJ ι κ K (pc + 3) L st h o2) : xJ ι κ K pc L (.int y :: .int x :: st) h (if x < y then o1 else o2) := fun v e kv => by
  refine ⟨?_, fun a b p e' s m args below meth c hA H locs ls h1 h2 h3 => lv_icmp_lt hA.1 hA.2.1 hd ht (fun hc => (kt hc v (by rw [if_pos hc] at e; exact e) kv).2 a b p e' s m args below meth c hA H locs ls h1 h2 h3) (fun hc => (kf hc v (by rw [if_neg hc] at e; exact e) kv).2 a b p e' s m args below meth c hA H locs ls h1 h2 h3)⟩
  by_cases hc : x < y
  · exact (kt hc v (by rw [if_pos hc] at e; exact e) kv).1
  · exact (kf hc v (by rw [if_neg hc] at e; exact e) kv).1
theorem j_if_ge {x : Int32} {off : Int} {tgt : Nat} {o1 o2 : Option X} (hd : decode ι.1 pc = .ok (.ifCond .ge off, 3)) (ht : (pc : Int) + off = (tgt : Int)) (kt : 0 ≤ x → xJ ι κ K tgt L st h o1) (kf : ¬ 0 ≤ x → xJ ι κ K (pc + 3) L st h o2) : xJ ι κ K pc L (.int x :: st) h (if 0 ≤ x then o1 else o2) := fun v e kv => by
  refine ⟨?_, fun a b p e' s m args below meth c hA H locs ls h1 h2 h3 => lv_if_ge hA.1 hA.2.1 hd ht (fun hc => (kt hc v (by rw [if_pos hc] at e; exact e) kv).2 a b p e' s m args below meth c hA H locs ls h1 h2 h3) (fun hc => (kf hc v (by rw [if_neg hc] at e; exact e) kv).2 a b p e' s m args below meth c hA H locs ls h1 h2 h3)⟩
  by_cases hc : 0 ≤ x
  · exact (kt hc v (by rw [if_pos hc] at e; exact e) kv).1
  · exact (kf hc v (by rw [if_neg hc] at e; exact e) kv).1
theorem j_icmp_ge {x y : Int32} {off : Int} {tgt : Nat} {o1 o2 : Option X} (hd : decode ι.1 pc = .ok (.if_icmp .ge off, 3)) (ht : (pc : Int) + off = (tgt : Int)) (kt : y ≤ x → xJ ι κ K tgt L st h o1) (kf : ¬ y ≤ x → xJ ι κ K (pc + 3) L st h o2) : xJ ι κ K pc L (.int y :: .int x :: st) h (if y ≤ x then o1 else o2) := fun v e kv => by
  refine ⟨?_, fun a b p e' s m args below meth c hA H locs ls h1 h2 h3 => lv_icmp_ge hA.1 hA.2.1 hd ht (fun hc => (kt hc v (by rw [if_pos hc] at e; exact e) kv).2 a b p e' s m args below meth c hA H locs ls h1 h2 h3) (fun hc => (kf hc v (by rw [if_neg hc] at e; exact e) kv).2 a b p e' s m args below meth c hA H locs ls h1 h2 h3)⟩
  by_cases hc : y ≤ x
  · exact (kt hc v (by rw [if_pos hc] at e; exact e) kv).1
  · exact (kf hc v (by rw [if_neg hc] at e; exact e) kv).1
theorem j_if_gt {x : Int32} {off : Int} {tgt : Nat} {o1 o2 : Option X} (hd : decode ι.1 pc = .ok (.ifCond .gt off, 3)) (ht : (pc : Int) + off = (tgt : Int)) (kt : 0 < x → xJ ι κ K tgt L st h o1) (kf : ¬ 0 < x → xJ ι κ K (pc + 3) L st h o2) : xJ ι κ K pc L (.int x :: st) h (if 0 < x then o1 else o2) := fun v e kv => by
  refine ⟨?_, fun a b p e' s m args below meth c hA H locs ls h1 h2 h3 => lv_if_gt hA.1 hA.2.1 hd ht (fun hc => (kt hc v (by rw [if_pos hc] at e; exact e) kv).2 a b p e' s m args below meth c hA H locs ls h1 h2 h3) (fun hc => (kf hc v (by rw [if_neg hc] at e; exact e) kv).2 a b p e' s m args below meth c hA H locs ls h1 h2 h3)⟩
  by_cases hc : 0 < x
  · exact (kt hc v (by rw [if_pos hc] at e; exact e) kv).1
  · exact (kf hc v (by rw [if_neg hc] at e; exact e) kv).1
theorem j_icmp_gt {x y : Int32} {off : Int} {tgt : Nat} {o1 o2 : Option X} (hd : decode ι.1 pc = .ok (.if_icmp .gt off, 3)) (ht : (pc : Int) + off = (tgt : Int)) (kt : y < x → xJ ι κ K tgt L st h o1) (kf : ¬ y < x → xJ ι κ K (pc + 3) L st h o2) : xJ ι κ K pc L (.int y :: .int x :: st) h (if y < x then o1 else o2) := fun v e kv => by
  refine ⟨?_, fun a b p e' s m args below meth c hA H locs ls h1 h2 h3 => lv_icmp_gt hA.1 hA.2.1 hd ht (fun hc => (kt hc v (by rw [if_pos hc] at e; exact e) kv).2 a b p e' s m args below meth c hA H locs ls h1 h2 h3) (fun hc => (kf hc v (by rw [if_neg hc] at e; exact e) kv).2 a b p e' s m args below meth c hA H locs ls h1 h2 h3)⟩
  by_cases hc : y < x
  · exact (kt hc v (by rw [if_pos hc] at e; exact e) kv).1
  · exact (kf hc v (by rw [if_neg hc] at e; exact e) kv).1
theorem j_if_le {x : Int32} {off : Int} {tgt : Nat} {o1 o2 : Option X} (hd : decode ι.1 pc = .ok (.ifCond .le off, 3)) (ht : (pc : Int) + off = (tgt : Int)) (kt : x ≤ 0 → xJ ι κ K tgt L st h o1) (kf : ¬ x ≤ 0 → xJ ι κ K (pc + 3) L st h o2) : xJ ι κ K pc L (.int x :: st) h (if x ≤ 0 then o1 else o2) := fun v e kv => by
  refine ⟨?_, fun a b p e' s m args below meth c hA H locs ls h1 h2 h3 => lv_if_le hA.1 hA.2.1 hd ht (fun hc => (kt hc v (by rw [if_pos hc] at e; exact e) kv).2 a b p e' s m args below meth c hA H locs ls h1 h2 h3) (fun hc => (kf hc v (by rw [if_neg hc] at e; exact e) kv).2 a b p e' s m args below meth c hA H locs ls h1 h2 h3)⟩
  by_cases hc : x ≤ 0
  · exact (kt hc v (by rw [if_pos hc] at e; exact e) kv).1
  · exact (kf hc v (by rw [if_neg hc] at e; exact e) kv).1
theorem j_icmp_le {x y : Int32} {off : Int} {tgt : Nat} {o1 o2 : Option X} (hd : decode ι.1 pc = .ok (.if_icmp .le off, 3)) (ht : (pc : Int) + off = (tgt : Int)) (kt : x ≤ y → xJ ι κ K tgt L st h o1) (kf : ¬ x ≤ y → xJ ι κ K (pc + 3) L st h o2) : xJ ι κ K pc L (.int y :: .int x :: st) h (if x ≤ y then o1 else o2) := fun v e kv => by
  refine ⟨?_, fun a b p e' s m args below meth c hA H locs ls h1 h2 h3 => lv_icmp_le hA.1 hA.2.1 hd ht (fun hc => (kt hc v (by rw [if_pos hc] at e; exact e) kv).2 a b p e' s m args below meth c hA H locs ls h1 h2 h3) (fun hc => (kf hc v (by rw [if_neg hc] at e; exact e) kv).2 a b p e' s m args below meth c hA H locs ls h1 h2 h3)⟩
  by_cases hc : x ≤ y
  · exact (kt hc v (by rw [if_pos hc] at e; exact e) kv).1
  · exact (kf hc v (by rw [if_neg hc] at e; exact e) kv).1
theorem j_tabv {dflt lo hi : Int} {offs : Array Int} {len : Nat} {x w : Int32} {off : Int} {tgt : Nat} {o1 o2 : Option X} (hd : decode ι.1 pc = .ok (.tableswitch dflt lo hi offs, len)) (g1 : ¬ w.toInt < lo) (g2 : ¬ hi < w.toInt) (ho : offs[(w.toInt - lo).toNat]? = some off) (ht : (pc : Int) + off = (tgt : Int)) (kt : x = w → xJ ι κ K tgt L st h o1) (kf : ¬ x = w → xJ ι κ K pc L (.int x :: st) h o2) : xJ ι κ K pc L (.int x :: st) h (if x = w then o1 else o2) := fun v e kv => by
  by_cases hc : x = w
  · rw [if_pos hc] at e
    subst hc
    exact ⟨(kt rfl v e kv).1, fun a b p e' s m args below meth c hA H locs ls h1 h2 h3 => lv_tableIn hA.1 hA.2.1 hd g1 g2 ho ht ((kt rfl v e kv).2 a b p e' s m args below meth c hA H locs ls h1 h2 h3)⟩
  · rw [if_neg hc] at e
    exact kf hc v e kv
theorem j_tabd {dflt lo hi : Int} {offs : Array Int} {len : Nat} {x : Int32} {tgt : Nat} (hd : decode ι.1 pc = .ok (.tableswitch dflt lo hi offs, len)) (hx : x.toInt < lo ∨ hi < x.toInt) (ht : (pc : Int) + dflt = (tgt : Int)) (k : xJ ι κ K tgt L st h o) : xJ ι κ K pc L (.int x :: st) h o := fun v e kv => ⟨(k v e kv).1, fun a b p e' s m args below meth c hA H locs ls h1 h2 h3 => lv_tableOut hA.1 hA.2.1 hd hx ht ((k v e kv).2 a b p e' s m args below meth c hA H locs ls h1 h2 h3)⟩
theorem j_lokv {dflt : Int} {ps : Array (Int × Int)} {len : Nat} {x w : Int32} {off : Int} {tgt : Nat} {o1 o2 : Option X} (hd : decode ι.1 pc = .ok (.lookupswitch dflt ps, len)) (hp : (ps.toList.zip (ps.toList.drop 1)).all (fun (a, next) => a.1 < next.1) = true) (ho : Op.lookupswitch.offset ps.toList dflt w.toInt = off) (ht : (pc : Int) + off = (tgt : Int)) (kt : x = w → xJ ι κ K tgt L st h o1) (kf : ¬ x = w → xJ ι κ K pc L (.int x :: st) h o2) : xJ ι κ K pc L (.int x :: st) h (if x = w then o1 else o2) := fun v e kv => by
  by_cases hc : x = w
  · rw [if_pos hc] at e
    subst hc
    exact ⟨(kt rfl v e kv).1, fun a b p e' s m args below meth c hA H locs ls h1 h2 h3 => lv_lookup hA.1 hA.2.1 hd hp ho ht ((kt rfl v e kv).2 a b p e' s m args below meth c hA H locs ls h1 h2 h3)⟩
  · rw [if_neg hc] at e
    exact kf hc v e kv
theorem j_lokd {dflt : Int} {ps : Array (Int × Int)} {len : Nat} {x : Int32} {tgt : Nat} (hd : decode ι.1 pc = .ok (.lookupswitch dflt ps, len)) (hp : (ps.toList.zip (ps.toList.drop 1)).all (fun (a, next) => a.1 < next.1) = true) (ho : Op.lookupswitch.offset ps.toList dflt x.toInt = dflt) (ht : (pc : Int) + dflt = (tgt : Int)) (k : xJ ι κ K tgt L st h o) : xJ ι κ K pc L (.int x :: st) h o := fun v e kv => ⟨(k v e kv).1, fun a b p e' s m args below meth c hA H locs ls h1 h2 h3 => lv_lookup hA.1 hA.2.1 hd hp ho ht ((k v e kv).2 a b p e' s m args below meth c hA H locs ls h1 h2 h3)⟩

theorem j_iret {v0 : Int32} (x : X) (hd : decode ι.1 pc = .ok (.ireturn, 1)) (hr : ι.2.2.2.1 = some .int) (hk : K x → κ.2.2.2.1 = some (.int v0) ∧ κ.2.2.2.2 = h) : xJ ι κ K pc L [.int v0] h (some x) := fun v e kv => by
  cases e
  obtain ⟨hk1, hk2⟩ := hk kv
  refine ⟨by unfold xB; rw [hk2]; exact ⟨Nat.le_refl _, Nat.le_refl _⟩, fun a b p e' s m args below meth c hA H locs ls h1 h2 h3 => ?_⟩
  have hl := hA.2.2.2.2.2.2.1
  unfold xZ
  rw [hk2]
  exact W.iret hA.1 hA.2.1 (hA.2.2.1.trans hr) (fun t ht hW => ⟨by rw [hk1]; rfl, by rw [ht]; exact h2, h3.F ht⟩) h3.2.2 hd hl
theorem j_zret {v0 : Int32} (x : X) (hd : decode ι.1 pc = .ok (.ireturn, 1)) (hr : ι.2.2.2.1 = some .boolean) (hz : narrow .boolean (.int v0) = .int v0) (hk : K x → κ.2.2.2.1 = some (.int v0) ∧ κ.2.2.2.2 = h) : xJ ι κ K pc L [.int v0] h (some x) := fun v e kv => by
  cases e
  obtain ⟨hk1, hk2⟩ := hk kv
  refine ⟨by unfold xB; rw [hk2]; exact ⟨Nat.le_refl _, Nat.le_refl _⟩, fun a b p e' s m args below meth c hA H locs ls h1 h2 h3 => ?_⟩
  have hl := hA.2.2.2.2.2.2.1
  unfold xZ
  rw [hk2]
  exact W.zret hA.1 hA.2.1 (hA.2.2.1.trans hr) hz (fun t ht hW => ⟨by rw [hk1]; rfl, by rw [ht]; exact h2, h3.F ht⟩) h3.2.2 hd hl
theorem j_lret {v0 : Int64} (x : X) (hd : decode ι.1 pc = .ok (.lreturn, 1)) (hr : ι.2.2.2.1 = some .long) (hk : K x → κ.2.2.2.1 = some (.long v0) ∧ κ.2.2.2.2 = h) : xJ ι κ K pc L [.long v0] h (some x) := fun v e kv => by
  cases e
  obtain ⟨hk1, hk2⟩ := hk kv
  refine ⟨by unfold xB; rw [hk2]; exact ⟨Nat.le_refl _, Nat.le_refl _⟩, fun a b p e' s m args below meth c hA H locs ls h1 h2 h3 => ?_⟩
  have hl := hA.2.2.2.2.2.2.1
  unfold xZ
  rw [hk2]
  exact W.lret hA.1 hA.2.1 (hA.2.2.1.trans hr) (fun t ht hW => ⟨by rw [hk1]; rfl, by rw [ht]; exact h2, h3.F ht⟩) h3.2.2 hd hl
theorem j_vret (x : X) (hd : decode ι.1 pc = .ok (.return_, 1)) (hr : ι.2.2.2.1 = none) (hk : K x → κ.2.2.2.1 = none ∧ κ.2.2.2.2 = h) : xJ ι κ K pc L [] h (some x) := fun v e kv => by
  cases e
  obtain ⟨hk1, hk2⟩ := hk kv
  refine ⟨by unfold xB; rw [hk2]; exact ⟨Nat.le_refl _, Nat.le_refl _⟩, fun a b p e' s m args below meth c hA H locs ls h1 h2 h3 => ?_⟩
  have hl := hA.2.2.2.2.2.2.1
  unfold xZ
  rw [hk2]
  exact W.vret hA.1 hA.2.1 (hA.2.2.1.trans hr) (fun t ht hW => ⟨by rw [hk1]; rfl, by rw [ht]; exact h2, h3.F ht⟩) h3.2.2 hd hl
end XR
