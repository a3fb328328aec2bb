/-- what the tables say of a method that is called -/
def xtg (y : MethodName) (b : ByteArray) (n : Nat) (ret : Option FieldType) (np : Nat) : Prop := Cond.code y b n ret ∈ xT ∧ Cond.initialized y.cls ∈ xT ∧ y.cls ≠ "java/lang/invoke/MethodHandle" ∧ y.cls ≠ "java/lang/invoke/VarHandle" ∧ (parseMethodDescriptor y.desc).map (fun d => d.parameters.length) = some np
theorem xcallW {p : Program} {l : Launch} {e : Env} {R : Jvm.Room} {s : State} {m : MethodId} {args : Array Value} {below : List Frame} {meth : Method} {c : Code} {H H0 : Heap} {locs : List Loc} {cells slots mc ms : Nat} {Q : State → Prop} {pc : Nat} {ls : Array Slot} {st0 rest : List Value} {η : xEnv} {r : Option Value} {hf : Hp} {a : Array Value}
    (hr : va_Run p l e R s m args below meth c H locs cells slots mc ms (F0 m pc ls st0) rest (xQ η r hf a) (xA η)) (hS : va_S (xA η) H0 H locs)
    (kk : ∀ (H1 : Heap) (locs1 : List Loc), va_P η.2.1 vwCl (xw η hf) H1 → va_S (xA η) H0 H1 locs1 → W p l e R s m args below meth c H1 locs1 (cells + mc) (slots + ms) Q (F0 m (pc + 3) ls ((r.map (cv η)).toList ++ rest))) : W p l e R s m args below meth c H locs cells slots Q (F0 m pc ls st0) := by
  intro T hT X
  obtain ⟨v, st₀, t, T', L, h0, X', hL, e1, e2, ⟨hv, hp, hz, hk⟩, st⟩ := hr T hT X
  cases hv
  rw [h0] at hz hk
  obtain ⟨t2, a1, b1⟩ := kk T'.heap (locs ++ L) (by rw [e1]; exact hp)
    ⟨Nat.le_trans hS.1 (by rw [e1]; exact hz), fun q h1 h2 => by rw [e1, hk q (Nat.lt_of_lt_of_le h1 hS.1) h2]; exact hS.2.1 q h1 h2, fun q hq => by
      rcases List.mem_append.mp hq with h | h
      · exact hS.2.2 q h
      · exact hL q h⟩ T' rfl X'
  exact ⟨t2, st t2 a1, b1⟩
theorem xpre {η : xEnv} {as : List Value} {h : Hp} : FrameBlind (va_Pc (as.map (cv η)) (fun U => U.heap.size = η.1 + xn h ∧ va_P η.2.1 vwCl (xw η h) U.heap ∧ xU η U)) := fun a U g mk q => ⟨q.1, q.2.1, q.2.2.1, xU_blind q.2.2.2⟩
section XQ
variable {X : Type} {ι : xI} {κ : xK} {K : X → Prop} {pc : Nat} {L : List (Nat × Value)} {st : List Value} {h : Hp}
/-- the counts at a call -/
theorem xcnt {h : Hp} {hf : Hp} (b1 : κ.2.2.1.1 ≤ xn h) (b2 : κ.2.2.1.2 ≤ xm h) (hc : xn h ≤ xn hf ∧ xm h ≤ xm hf) (hB : xB κ hf) : (xn h - κ.2.2.1.1 + (xn hf - xn h) ≤ xn κ.2.2.2.2 - κ.2.2.1.1 ∧ xm h - κ.2.2.1.2 + (xm hf - xm h) ≤ xm κ.2.2.2.2 - κ.2.2.1.2) ∧ xn h - κ.2.2.1.1 + (xn hf - xn h) = xn hf - κ.2.2.1.1 ∧ xm h - κ.2.2.1.2 + (xm hf - xm h) = xm hf - κ.2.2.1.2 := by
  obtain ⟨c1, c2⟩ := hB
  refine ⟨⟨?_, ?_⟩, ?_, ?_⟩ <;> omega
theorem j_callS {Y : Type} {oc : Option Y} {f : Y → Option X} {y : MethodName} {b : ByteArray} {n d np idx : Nat} {ret : Option FieldType} {as ST : List Value} (rv : Y → Option Value) (rh : Y → Hp) (hd : decode ι.1 pc = .ok (.invokestatic idx, 3)) (hl : Cond.methodLink ι.2.1 idx y ∈ xT) (ht : xtg y b n ret np) (hs : Cond.static y ∈ xT) (hC : ∀ x, oc = some x → xC κ.1 κ.2.1 y b n ret d as h (rv x) (rh x)) (hdp : d + 1 ≤ ι.2.2.2.2.2) (hn : n ≤ 40) (hnp : as.length = np) (hST : as.reverse ++ st = ST) (hst : (st.map fun v => v.category).sum ≤ 8) (k : ∀ x, xJ ι κ K (pc + 3) L ((rv x).toList ++ st) (rh x) (f x)) : xJ ι κ K pc L ST h ((oc).bind f) := fun v e kv => by
  obtain ⟨x, e1, e2⟩ := Option.bind_eq_some_iff.mp e
  obtain ⟨hm, hM⟩ := hC x e1
  obtain ⟨hB, hG⟩ := k x v e2 kv
  subst hST
  refine ⟨⟨Nat.le_trans hm.1 hB.1, Nat.le_trans hm.2 hB.2⟩, fun b1 b2 p e' s m args below meth c hA H locs ls h1 h2 h3 => ?_⟩
  obtain ⟨hf, hq1, hq2⟩ := xcnt b1 b2 hm hB
  have hts := hA.2.2.2.2.2.1
  have hU := hA.2.2.2.2.2.2.2.2.1
  have hR : d + 1 ≤ (xR ι κ).frames ∧ 8 + (n + 11) + 60 * d ≤ (xR ι κ).locals := ⟨hdp, by show _ ≤ 60 * ι.2.2.2.2.2; omega⟩
  refine xW_size (fun hz => ?_)
  have hsz : H.size = κ.2.1.1 + xn h := by
    have q1 := xw_size h2 (by have := h3.1; have := hA.2.2.2.2.2.2.2.2.2; omega)
    have q2 := hA.2.2.2.2.2.2.2.2.2
    omega
  refine xcallW (r := rv x) (hf := rh x) (rest := st.map (cv κ.2.1)) (va_runS (As := as.map (cv κ.2.1)) (rest := st.map (cv κ.2.1)) ⟨hA.1, hA.2.1, hA.2.2.2.1, hA.2.2.2.2.1, hts⟩ hM ⟨callB_of np hts (xT_good ht.1) rfl rfl rfl (hts _ ht.2.1) (hts _ hl) ht.2.2 hR, hts _ hs⟩ ⟨xpre, fun U hUh hW => ⟨by simp [cv], by rw [hUh]; exact hsz, by rw [hUh]; exact h2, xU_at hU h3 hUh hW⟩⟩ rfl (by rw [List.length_map]; exact hnp) h1.1 (by simp [cv]) (lv_room (by rw [xcat]; exact hst)) hd hf) h3 (fun H1 locs1 g1 g3 => ?_)
  rw [hq1, hq2]
  have hw := hG (Nat.le_trans b1 hm.1) (Nat.le_trans b2 hm.2) p e' s m args below meth c hA H1 locs1 ls h1 g1 g3
  have hmap : ((rv x).map (cv κ.2.1)).toList ++ st.map (cv κ.2.1) = ((rv x).toList ++ st).map (cv κ.2.1) := by
    rw [List.map_append]; congr 1; cases rv x <;> rfl
  rw [hmap]
  exact hw
theorem j_callSN {Y : Type} {oc : Option Y} {f : Y → Option X} {host : String} {y : MethodName} {b : ByteArray} {n d np idx : Nat} {ret : Option FieldType} {as ST : List Value} (rv : Y → Option Value) (rh : Y → Hp) (hd : decode ι.1 pc = .ok (.invokestatic idx, 3)) (hl : Cond.methodLinkNest ι.2.1 idx y host ∈ xnest) (ht : xtg y b n ret np) (hs : Cond.static y ∈ xT) (hC : ∀ x, oc = some x → xC κ.1 κ.2.1 y b n ret d as h (rv x) (rh x)) (hdp : d + 1 ≤ ι.2.2.2.2.2) (hn : n ≤ 40) (hnp : as.length = np) (hST : as.reverse ++ st = ST) (hst : (st.map fun v => v.category).sum ≤ 8) (k : ∀ x, xJ ι κ K (pc + 3) L ((rv x).toList ++ st) (rh x) (f x)) : xJ ι κ K pc L ST h ((oc).bind f) := fun v e kv => by
  obtain ⟨x, e1, e2⟩ := Option.bind_eq_some_iff.mp e
  obtain ⟨hm, hM⟩ := hC x e1
  obtain ⟨hB, hG⟩ := k x v e2 kv
  subst hST
  refine ⟨⟨Nat.le_trans hm.1 hB.1, Nat.le_trans hm.2 hB.2⟩, fun b1 b2 p e' s m args below meth c hA H locs ls h1 h2 h3 => ?_⟩
  obtain ⟨hf, hq1, hq2⟩ := xcnt b1 b2 hm hB
  have hts := hA.2.2.2.2.2.1
  have hU := hA.2.2.2.2.2.2.2.2.1
  have hR : d + 1 ≤ (xR ι κ).frames ∧ 8 + (n + 11) + 60 * d ≤ (xR ι κ).locals := ⟨hdp, by show _ ≤ 60 * ι.2.2.2.2.2; omega⟩
  refine xW_size (fun hz => ?_)
  have hsz : H.size = κ.2.1.1 + xn h := by
    have q1 := xw_size h2 (by have := h3.1; have := hA.2.2.2.2.2.2.2.2.2; omega)
    have q2 := hA.2.2.2.2.2.2.2.2.2
    omega
  refine xcallW (r := rv x) (hf := rh x) (rest := st.map (cv κ.2.1)) (va_runSN (As := as.map (cv κ.2.1)) (rest := st.map (cv κ.2.1)) ⟨hA.1, hA.2.1, hA.2.2.2.1, hA.2.2.2.2.1, hts⟩ hM ⟨va_cnB np hts (xT_good ht.1) rfl rfl rfl (hU.2.1 _ hl) (hts _ ht.2.1) ht.2.2 hR, hts _ hs, trivial⟩ ⟨xpre, fun U hUh hW => ⟨by simp [cv], by rw [hUh]; exact hsz, by rw [hUh]; exact h2, xU_at hU h3 hUh hW⟩⟩ rfl (by rw [List.length_map]; exact hnp) h1.1 (by simp [cv]) (lv_room (by rw [xcat]; exact hst)) hd hf) h3 (fun H1 locs1 g1 g3 => ?_)
  rw [hq1, hq2]
  have hw := hG (Nat.le_trans b1 hm.1) (Nat.le_trans b2 hm.2) p e' s m args below meth c hA H1 locs1 ls h1 g1 g3
  have hmap : ((rv x).map (cv κ.2.1)).toList ++ st.map (cv κ.2.1) = ((rv x).toList ++ st).map (cv κ.2.1) := by
    rw [List.map_append]; congr 1; cases rv x <;> rfl
  rw [hmap]
  exact hw
theorem j_callV {Y : Type} {oc : Option Y} {f : Y → Option X} {a : Nat} {y : MethodName} {b : ByteArray} {n d np idx : Nat} {ret : Option FieldType} {as ST : List Value} (rv : Y → Option Value) (rh : Y → Hp) (ci N : Nat) (hd : decode ι.1 pc = .ok (.invokevirtual idx, 3)) (hl : Cond.methodLink ι.2.1 idx y ∈ xT) (ht : xtg y b n ret np) (hi : Cond.instanceMethod y ∈ xT) (hse : Cond.selects y.cls y y ∈ xT) (hcl : xr ci = y.cls) (hc : ci < 10) (hC : ∀ x, oc = some x → xC κ.1 κ.2.1 y b n ret d (.ref a :: as) h (rv x) (rh x)) (hdp : d + 1 ≤ ι.2.2.2.2.2) (hn : n ≤ 40) (hnp : as.length = np) (hST : as.reverse ++ .ref a :: st = ST) (hst : (st.map fun v => v.category).sum ≤ 8) (k : ∀ x, xJ ι κ K (pc + 3) L ((rv x).toList ++ st) (rh x) (f x)) : xJ ι κ K pc L ST h ((xat h a (ci, N) oc).bind f) := fun v e kv => by
  obtain ⟨x, e1, e2⟩ := Option.bind_eq_some_iff.mp e
  obtain ⟨hk0, e1⟩ := xif_o e1
  obtain ⟨hm, hM⟩ := hC x e1
  obtain ⟨hB, hG⟩ := k x v e2 kv
  subst hST
  refine ⟨⟨Nat.le_trans hm.1 hB.1, Nat.le_trans hm.2 hB.2⟩, fun b1 b2 p e' s m args below meth c hA H locs ls h1 h2 h3 => ?_⟩
  obtain ⟨hf, hq1, hq2⟩ := xcnt b1 b2 hm hB
  have hts := hA.2.2.2.2.2.1
  have hU := hA.2.2.2.2.2.2.2.2.1
  have hR : d + 1 ≤ (xR ι κ).frames ∧ 8 + (n + 11) + 60 * d ≤ (xR ι κ).locals := ⟨hdp, by show _ ≤ 60 * ι.2.2.2.2.2; omega⟩
  refine xW_size (fun hz => ?_)
  have hsz : H.size = κ.2.1.1 + xn h := by
    have q1 := xw_size h2 (by have := h3.1; have := hA.2.2.2.2.2.2.2.2.2; omega)
    have q2 := hA.2.2.2.2.2.2.2.2.2
    omega
  have hrec := va_recv hU.1 h2 (xcls ci hc).1 (show (xw κ.2.1 h)[a]? = some (κ.2.1.1 + a, .inr (ci, xfs κ.2.1 h a ci N)) by rw [xw_get hk0, xe_obj hc])
  simp only [hcl] at hrec
  refine xcallW (r := rv x) (hf := rh x) (rest := st.map (cv κ.2.1)) (va_runV (b := κ.2.1.1 + a) (As := as.map (cv κ.2.1)) (rest := st.map (cv κ.2.1)) ⟨hA.1, hA.2.1, hA.2.2.2.1, hA.2.2.2.2.1, hts⟩ hM ⟨callB_of np hts (xT_good ht.1) rfl rfl rfl (hts _ ht.2.1) (hts _ hl) ht.2.2 hR, hts _ hi, hts _ hse⟩ ⟨xpre, hrec, fun U hUh hW => ⟨by simp [cv], by rw [hUh]; exact hsz, by rw [hUh]; exact h2, xU_at hU h3 hUh hW⟩⟩ rfl (by rw [List.length_map]; exact hnp) h1.1 (by simp [cv]) (lv_room (by rw [xcat]; exact hst)) hd hf) h3 (fun H1 locs1 g1 g3 => ?_)
  rw [hq1, hq2]
  have hw := hG (Nat.le_trans b1 hm.1) (Nat.le_trans b2 hm.2) p e' s m args below meth c hA H1 locs1 ls h1 g1 g3
  have hmap : ((rv x).map (cv κ.2.1)).toList ++ st.map (cv κ.2.1) = ((rv x).toList ++ st).map (cv κ.2.1) := by
    rw [List.map_append]; congr 1; cases rv x <;> rfl
  rw [hmap]
  exact hw
theorem j_callI {Y : Type} {oc : Option Y} {f : Y → Option X} {a : Nat} {y : MethodName} {b : ByteArray} {n d np idx : Nat} {as ST : List Value} (rv : Y → Option Value) (rh : Y → Hp) (hd : decode ι.1 pc = .ok (.invokespecial idx, 3)) (hl : Cond.methodLink ι.2.1 idx y ∈ xT) (ht : xtg y b n none np) (hi : Cond.instanceMethod y ∈ xT) (hnm : y.name = "<init>") (hC : ∀ x, oc = some x → xC κ.1 κ.2.1 y b n none d (.ref a :: as) h (rv x) (rh x)) (hdp : d + 1 ≤ ι.2.2.2.2.2) (hn : n ≤ 40) (hnp : as.length = np) (hST : as.reverse ++ .ref a :: st = ST) (hst : (st.map fun v => v.category).sum ≤ 8) (k : ∀ x, xJ ι κ K (pc + 3) L ((rv x).toList ++ st) (rh x) (f x)) : xJ ι κ K pc L ST h ((oc).bind f) := fun v e kv => by
  obtain ⟨x, e1, e2⟩ := Option.bind_eq_some_iff.mp e
  obtain ⟨hm, hM⟩ := hC x e1
  obtain ⟨hB, hG⟩ := k x v e2 kv
  subst hST
  refine ⟨⟨Nat.le_trans hm.1 hB.1, Nat.le_trans hm.2 hB.2⟩, fun b1 b2 p e' s m args below meth c hA H locs ls h1 h2 h3 => ?_⟩
  obtain ⟨hf, hq1, hq2⟩ := xcnt b1 b2 hm hB
  have hts := hA.2.2.2.2.2.1
  have hU := hA.2.2.2.2.2.2.2.2.1
  have hR : d + 1 ≤ (xR ι κ).frames ∧ 8 + (n + 11) + 60 * d ≤ (xR ι κ).locals := ⟨hdp, by show _ ≤ 60 * ι.2.2.2.2.2; omega⟩
  refine xW_size (fun hz => ?_)
  have hsz : H.size = κ.2.1.1 + xn h := by
    have q1 := xw_size h2 (by have := h3.1; have := hA.2.2.2.2.2.2.2.2.2; omega)
    have q2 := hA.2.2.2.2.2.2.2.2.2
    omega
  refine xcallW (r := rv x) (hf := rh x) (rest := st.map (cv κ.2.1)) (va_runI (b := κ.2.1.1 + a) (As := as.map (cv κ.2.1)) (rest := st.map (cv κ.2.1)) ⟨hA.1, hA.2.1, hA.2.2.2.1, hA.2.2.2.2.1, hts⟩ hM ⟨callB_of np hts (xT_good ht.1) rfl rfl rfl (hts _ ht.2.1) (hts _ hl) ht.2.2 hR, hnm, hts _ hi⟩ ⟨xpre, fun U hUh hW => ⟨by simp [cv], by rw [hUh]; exact hsz, by rw [hUh]; exact h2, xU_at hU h3 hUh hW⟩⟩ rfl (by rw [List.length_map]; exact hnp) h1.1 (by simp [cv]) (lv_room (by rw [xcat]; exact hst)) hd hf) h3 (fun H1 locs1 g1 g3 => ?_)
  rw [hq1, hq2]
  have hw := hG (Nat.le_trans b1 hm.1) (Nat.le_trans b2 hm.2) p e' s m args below meth c hA H1 locs1 ls h1 g1 g3
  have hmap : ((rv x).map (cv κ.2.1)).toList ++ st.map (cv κ.2.1) = ((rv x).toList ++ st).map (cv κ.2.1) := by
    rw [List.map_append]; congr 1; cases rv x <;> rfl
  rw [hmap]
  exact hw
theorem j_callIN {Y : Type} {oc : Option Y} {f : Y → Option X} {a : Nat} {host : String} {y : MethodName} {b : ByteArray} {n d np idx : Nat} {as ST : List Value} (rv : Y → Option Value) (rh : Y → Hp) (hd : decode ι.1 pc = .ok (.invokespecial idx, 3)) (hl : Cond.methodLinkNest ι.2.1 idx y host ∈ xnest) (ht : xtg y b n none np) (hi : Cond.instanceMethod y ∈ xT) (hnm : y.name = "<init>") (hC : ∀ x, oc = some x → xC κ.1 κ.2.1 y b n none d (.ref a :: as) h (rv x) (rh x)) (hdp : d + 1 ≤ ι.2.2.2.2.2) (hn : n ≤ 40) (hnp : as.length = np) (hST : as.reverse ++ .ref a :: st = ST) (hst : (st.map fun v => v.category).sum ≤ 8) (k : ∀ x, xJ ι κ K (pc + 3) L ((rv x).toList ++ st) (rh x) (f x)) : xJ ι κ K pc L ST h ((oc).bind f) := fun v e kv => by
  obtain ⟨x, e1, e2⟩ := Option.bind_eq_some_iff.mp e
  obtain ⟨hm, hM⟩ := hC x e1
  obtain ⟨hB, hG⟩ := k x v e2 kv
  subst hST
  refine ⟨⟨Nat.le_trans hm.1 hB.1, Nat.le_trans hm.2 hB.2⟩, fun b1 b2 p e' s m args below meth c hA H locs ls h1 h2 h3 => ?_⟩
  obtain ⟨hf, hq1, hq2⟩ := xcnt b1 b2 hm hB
  have hts := hA.2.2.2.2.2.1
  have hU := hA.2.2.2.2.2.2.2.2.1
  have hR : d + 1 ≤ (xR ι κ).frames ∧ 8 + (n + 11) + 60 * d ≤ (xR ι κ).locals := ⟨hdp, by show _ ≤ 60 * ι.2.2.2.2.2; omega⟩
  refine xW_size (fun hz => ?_)
  have hsz : H.size = κ.2.1.1 + xn h := by
    have q1 := xw_size h2 (by have := h3.1; have := hA.2.2.2.2.2.2.2.2.2; omega)
    have q2 := hA.2.2.2.2.2.2.2.2.2
    omega
  refine xcallW (r := rv x) (hf := rh x) (rest := st.map (cv κ.2.1)) (va_runIN (b := κ.2.1.1 + a) (As := as.map (cv κ.2.1)) (rest := st.map (cv κ.2.1)) ⟨hA.1, hA.2.1, hA.2.2.2.1, hA.2.2.2.2.1, hts⟩ hM ⟨va_cnB np hts (xT_good ht.1) rfl rfl rfl (hU.2.1 _ hl) (hts _ ht.2.1) ht.2.2 hR, hnm, hts _ hi⟩ ⟨xpre, fun U hUh hW => ⟨by simp [cv], by rw [hUh]; exact hsz, by rw [hUh]; exact h2, xU_at hU h3 hUh hW⟩⟩ rfl (by rw [List.length_map]; exact hnp) h1.1 (by simp [cv]) (lv_room (by rw [xcat]; exact hst)) hd hf) h3 (fun H1 locs1 g1 g3 => ?_)
  rw [hq1, hq2]
  have hw := hG (Nat.le_trans b1 hm.1) (Nat.le_trans b2 hm.2) p e' s m args below meth c hA H1 locs1 ls h1 g1 g3
  have hmap : ((rv x).map (cv κ.2.1)).toList ++ st.map (cv κ.2.1) = ((rv x).toList ++ st).map (cv κ.2.1) := by
    rw [List.map_append]; congr 1; cases rv x <;> rfl
  rw [hmap]
  exact hw
end XQ
