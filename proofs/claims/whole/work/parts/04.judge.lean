theorem xU_blind {η : xEnv} {U : State} {g : JFrame} {mk : MethodId} {a : Array Value} (h : xU η U) : xU η (U.calling g mk a) := by
  obtain ⟨h1, h2, ⟨h3, h4⟩, ⟨r1, r2, r3, r4⟩, h6, ⟨x1, x2, x3⟩, h7, h8⟩ := h
  refine ⟨va_K.moved (u := U) (U := U.calling g mk a) (Vm.Alike.refl U.vm) h1, fun w hw => ?_, ⟨va_AO.moved (u := U) (U := U.calling g mk a) (Vm.Alike.refl U.vm) h3, va_AO.moved (u := U) (U := U.calling g mk a) (Vm.Alike.refl U.vm) h4⟩, ⟨r1.same rfl, r2.same rfl, r3.same rfl, r4.same rfl⟩, vk_S.moved (u := U) (U := U.calling g mk a) (Vm.Alike.refl U.vm) h6, ⟨va_X.moved (u := U) (U := U.calling g mk a) (Vm.Alike.refl U.vm) x1, x2, x3⟩, va_Z.moved (u := U) (U := U.calling g mk a) (Vm.Alike.refl U.vm) h7, h8.imp (va_Z.moved (u := U) (U := U.calling g mk a) (Vm.Alike.refl U.vm)) (va_Z.moved (u := U) (U := U.calling g mk a) (Vm.Alike.refl U.vm))⟩
  have hn := (List.mem_filter.mp hw).2
  have ho : w.onTables = true := by cases w <;> first | rfl | (simp at hn)
  exact va_Nw.same ho (u := U) (U := U.calling g mk a) rfl (h2 w hw)
theorem xU_at {η : xEnv} {s U : State} {H : Heap} {locs : List Loc} (h : xU η s) (hS : va_S (xA η) s.heap H locs) (hU : U.heap = H) (hW : s.WarmedH U.vm) : xU η U := by
  obtain ⟨h1, h2, ⟨h3, h4⟩, ⟨r1, r2, r3, r4⟩, h6, ⟨x1, x2, x3⟩, h7, h8⟩ := h
  refine ⟨va_K.moved hW.alike h1, fun w hw => ?_, ⟨va_AO.moved hW.alike h3, va_AO.moved hW.alike h4⟩, ⟨r1.warm hW, r2.warm hW, r3.warm hW, r4.warm hW⟩, vk_S.moved hW.alike (vk_S.kept h6 (fun a h1 h2 => by rw [hU]; exact hS.2.1 a h1 h2)), ⟨va_X.moved hW.alike (va_X.kept x1 (by rw [hU]; exact hS.2.1 _ x2 x3)), by rw [hU]; exact Nat.lt_of_lt_of_le x2 hS.1, x3⟩, va_Z.moved hW.alike (va_Z.kept h7 (fun a h1 h2 => by rw [hU]; exact hS.2.1 a h1 h2)), h8.imp (fun q => va_Z.moved hW.alike (va_Z.kept q (fun a h1 h2 => by rw [hU]; exact hS.2.1 a h1 h2))) (fun q => va_Z.moved hW.alike (va_Z.kept q (fun a h1 h2 => by rw [hU]; exact hS.2.1 a h1 h2)))⟩
  have hn := (List.mem_filter.mp hw).2
  cases w with
  | methodLinkNest a i x b => exact va_Nw.warmM hW (h2 _ hw)
  | _ => simp at hn
/-- a method's own data: code, class, name, answer's type, locals, how deep its calls go -/
abbrev xI : Type := ByteArray × String × String × Option FieldType × Nat × Nat
/-- a call's data: the launch, the start, the counts at its begin, its answer and the heap at its end -/
abbrev xK : Type := Launch × xEnv × (Nat × Nat) × (Option Value × Hp)
def xR (ι : xI) (κ : xK) : Jvm.Room := { frames := ι.2.2.2.2.2, cells := xn κ.2.2.2.2 - κ.2.2.1.1, slots := xm κ.2.2.2.2 - κ.2.2.1.2, locals := 60 * ι.2.2.2.2.2 }
/-- what a contract's end says: the answer, the heap as the abstract one, nothing else changed -/
def xQ (η : xEnv) (r : Option Value) (hf : Hp) : Array Value → State → Outcome → State → Prop := fun _ st oc t =>
  oc = .returned (r.map (cv η)) ∧ va_P η.2.1 vwCl (xw η hf) t.heap ∧ va_F (xA η) st t
def xZ (κ : xK) (below : List Frame) (args : Array Value) (s : State) : State → Prop := MQ below (xQ κ.2.1 κ.2.2.2.1 κ.2.2.2.2) args s (xn κ.2.2.2.2 - κ.2.2.1.1) (xm κ.2.2.2.2 - κ.2.2.1.2) (xA κ.2.1)
/-- what is known in a method's body -/
def xAm (ι : xI) (κ : xK) (p : Program) (s : State) (m : MethodId) (args : Array Value) (meth : Method) (c : Code) : Prop :=
  p.tables.exec = Jvm.exec ∧ c.code = ι.1 ∧ meth.sig.returnType = ι.2.2.2.1 ∧ c.maxLocals = ι.2.2.2.2.1 ∧
  s.vm.findClass ι.2.1 = some m.cls ∧ (∀ w ∈ xT, w.before args s = true) ∧ meth.locks = false ∧ meth.name = ι.2.2.1 ∧
  xU κ.2.1 s ∧ s.heap.size = κ.2.1.1 + κ.2.2.1.1
def xG (ι : xI) (κ : xK) (pc : Nat) (L : List (Nat × Value)) (st : List Value) (h : Hp) : Prop :=
  κ.2.2.1.1 ≤ xn h → κ.2.2.1.2 ≤ xm h → ∀ (p : Program) (e : Env) (s : State) (m : MethodId) (args : Array Value) (below : List Frame) (meth : Method) (c : Code), xAm ι κ p s m args meth c →
  ∀ (H : Heap) (locs : List Loc) (ls : Array Slot), lv_has ls ι.2.2.2.2.1 (L.map (cq κ.2.1)) → va_P κ.2.1.2.1 vwCl (xw κ.2.1 h) H → va_S (xA κ.2.1) s.heap H locs →
    W p κ.1 e (xR ι κ) s m args below meth c H locs (xn h - κ.2.2.1.1) (xm h - κ.2.2.1.2) (xZ κ below args s) (F0 m pc ls (st.map (cv κ.2.1)))
def xB (κ : xK) (h : Hp) : Prop := xn h ≤ xn κ.2.2.2.2 ∧ xm h ≤ xm κ.2.2.2.2
def xJ {X : Type} (ι : xI) (κ : xK) (K : X → Prop) (pc : Nat) (L : List (Nat × Value)) (st : List Value) (h : Hp) (o : Option X) : Prop :=
  ∀ x, o = some x → K x → xB κ h ∧ xG ι κ pc L st h
/-- A CONTRACT: with these abstract arguments, from this abstract heap, method y answers r and leaves the abstract heap hf; d: how deep its calls go -/
def xC (l : Launch) (η : xEnv) (y : MethodName) (b : ByteArray) (n : Nat) (ret : Option FieldType) (d : Nat) (as : List Value) (h : Hp) (r : Option Value) (hf : Hp) : Prop :=
  (xn h ≤ xn hf ∧ xm h ≤ xm hf) ∧
  Met l y (Cond.code y b n ret :: xT) ({ frames := d, cells := xn hf - xn h, slots := xm hf - xm h, locals := 60 * d } : Jvm.Room)
    (va_Pc (as.map (cv η)) (fun U => U.heap.size = η.1 + xn h ∧ va_P η.2.1 vwCl (xw η h) U.heap ∧ xU η U)) (xQ η r hf) (xn hf - xn h) (xm hf - xm h) (xA η)
theorem xw_size {η : xEnv} {h : Hp} {H : Heap} (hP : va_P η.2.1 vwCl (xw η h) H) (hz : η.1 ≤ H.size) : η.1 + xn h ≤ H.size := by
  rcases Nat.eq_zero_or_pos (xn h) with h0 | h0
  · omega
  · have hl : xn h - 1 < h.1.length := by unfold xn at h0 ⊢; omega
    have h1 := (hP (xn h - 1) _ (xw_get (List.getElem?_eq_getElem hl))).lt
    have h2 : η.1 + (xn h - 1) < H.size := h1
    omega
/-- the heap's size, out of the counts -/
theorem xW_size {p : Program} {l : Launch} {e : Env} {R : Jvm.Room} {s : State} {m : MethodId} {args : Array Value} {below : List Frame} {meth : Method} {c : Code} {H : Heap} {locs : List Loc} {cells slots : Nat} {Q : State → Prop} {g : JFrame} (k : H.size ≤ s.heap.size + cells → W p l e R s m args below meth c H locs cells slots Q g) : W p l e R s m args below meth c H locs cells slots Q g := by
  intro T hT X
  have h := X.same.2.2.1
  have h2 : H.size ≤ s.heap.size + cells := by rw [← hT]; exact h
  exact k h2 T hT X
theorem lv_args_cv (η : xEnv) : ∀ (as : List Value) (i : Nat), lv_args i (as.map (cv η)) = (lv_args i as).map (cq η)
  | [], _ => rfl
  | v :: vs, i => by
    show (i, cv η v) :: lv_args (if (cv η v).category = 2 then i + 2 else i + 1) (vs.map (cv η)) = (i, cv η v) :: (lv_args (if v.category = 2 then i + 2 else i + 1) vs).map (cq η)
    rw [cv_cat, lv_args_cv η vs]
theorem lg_sl_cv (η : xEnv) : ∀ (as : List Value), (lg_sl (as.map (cv η))).length = (lg_sl as).length
  | [] => rfl
  | v :: vs => by
    have ih := lg_sl_cv η vs
    simp only [lg_sl, List.map_cons, List.flatMap_cons, List.length_append, cv_cat] at ih ⊢
    rw [ih]
    split <;> rfl
/-- a contract out of the body's walk -/
theorem xC_of {l : Launch} {η : xEnv} {y : MethodName} {b : ByteArray} {n d : Nat} {ret : Option FieldType} {as : List Value} {h : Hp} {r : Option Value} {hf : Hp} {X : Type} {x : X} {o : Option X}
    (hy : plainName y.cls = true) (hn : (lg_sl as).length ≤ n) (ho : o = some x) (K : xK → X → Prop) (hK : K (l, η, (xn h, xm h), (r, hf)) x)
    (body : ∀ κ : xK, xJ (b, y.cls, y.name, ret, n, d) κ (K κ) 0 (lv_args 0 as) [] h o) : xC l η y b n ret d as h r hf := by
  obtain ⟨hB, hG⟩ := body (l, η, (xn h, xm h), (r, hf)) x ho hK
  refine ⟨hB, Met.ofW (cc := b) (maxL := n) (ret := ret) hy rfl ?_⟩
  intro p e s m args below meth c s₁ B hml hv
  obtain ⟨rfl, hsz, hP, hU⟩ := hv
  have hts := atoms_spec (ws := Cond.code y b n ret :: xT) B.pre
  have hl := lv_entry (as.map (cv η)) (n := n) (by rw [lg_sl_cv]; exact hn)
  rw [lg_entry_eq]
  have hk := hG (Nat.le_refl _) (Nat.le_refl _) p e s m _ below meth c ⟨B.exec, B.bytes, B.returns, hml, findClass_of_methodNamed B.named, fun w hw => hts w (List.mem_cons_of_mem _ hw), B.notSynchronized, (name_of_methodNamed B.named B.method).1, hU, hsz⟩ s.heap [] _ (by rw [← lv_args_cv]; exact hl) hP va_S.rf
  rw [Nat.sub_self, Nat.sub_self] at hk
  exact hk
