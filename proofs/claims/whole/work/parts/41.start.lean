/-! THE CLAIM OUT OF ONE WALK OF THE LAW'S BODY. Your part is whole_start (and what it stands on); all else here is the same for every law, but numbers. -/
def R_law : String := "IdeasDeckLaw"
def lw_P (b : Addr) (xs : List Int32) (args : Array Value) (s : State) : Prop := args = #[.ref b] ∧ s.IntsAt b xs ∧ xs.length ≤ 320 ∧ (Jvm.Cond.and given_1 narrow_1).before args s = true
def lw_Q (_ : Array Value) (s : State) (o : Outcome) (t : State) : Prop := o = .returned (some (.int 1)) ∧ Framed s o t [] 600000 7302250
def lw_Z (below : List Frame) (a : Array Value) (s : State) : State → Prop := fun t => ∃ o, t.status = .running ∧ Ended t below o ∧ lw_Q a s o t
/-- the law's own end, with 1 on the stack, nothing written that was there before, its room as the claim has it -/
theorem lw_ret {p : Program} {l : Launch} {e : Env} {s : State} {m : MethodId} {below : List Frame} {meth : Method} {c : Code} {b : Nat} (hx : p.tables.exec = Jvm.exec) (hb : c.code = code) (hr : meth.sig.returnType = ret) (hlocks : meth.locks = false) {pc : Nat} {H : Heap} {ls : Array Slot} (hdg : decode code pc = .ok (.ireturn, 1)) : W p l e room_1 s m #[Value.ref b] below meth c H [] 600000 7302250 (lw_Z below #[Value.ref b] s) (F0 m pc ls [.int 1]) := by
  intro T hT X
  obtain ⟨fs, hret, hrun, hended, hW, hframe⟩ := X.leave (v := some (.int 1)) (hlocks := hlocks) (fun h => by rw [hr] at h; cases h)
  have hmeth' : T.vm.method? m = some meth := X.method'
  refine ⟨T.setFrames fs, ?_, .returned (some (.int 1)), hrun, hended, rfl, ⟨_, rfl⟩, hW, hframe⟩
  jvm_step X.here [X.here.top, hx, hb, hdg, hmeth', hr, ret, narrow_b1]
  (try refine ⟨rfl, ?_⟩); (try refine ⟨rfl, ?_⟩)
  first | (intro acts; rw [hret _ acts rfl rfl rfl]) | rw [hret _ _ rfl rfl rfl]
  exact Steps.refl _
/-- what holds at the law's entry: the machine, the code, the tables' words (any of lw_tbl by 'hts w (by decide +kernel)'), the script of L ints xs at the cell b, what the Statement gives of the start (any of its parts by flat_of_before) -/
def lw_At (p : Program) (s : State) (m : MethodId) (meth : Method) (c : Code) (b L : Nat) (xs : Nat → Int32) : Prop :=
  p.tables.exec = Jvm.exec ∧ c.code = code ∧ meth.sig.returnType = ret ∧ c.maxLocals = 4 ∧ s.vm.findClass R_law = some m.cls ∧ (∀ w ∈ lw_tbl, w.before #[Value.ref b] s = true) ∧ va_X b L xs s s.heap ∧ b < s.heap.size ∧ meth.locks = false ∧ (Jvm.Cond.and given_1 narrow_1).before #[Value.ref b] s = true
def xh0 : Hp := ([], fun _ _ => 0, fun _ _ => 0, fun _ _ => none)
theorem xW_room {p : Program} {l : Launch} {e : Env} {R R' : Jvm.Room} {s : State} {m : MethodId} {args : Array Value} {below : List Frame} {meth : Method} {c : Code} {H : Heap} {locs : List Loc} {cells slots : Nat} {Q Q' : State → Prop} {g : JFrame} (h1 : R'.frames ≤ R.frames) (h2 : R'.cells ≤ R.cells) (h3 : R'.slots ≤ R.slots) (h4 : R'.locals ≤ R.locals) (hQ : ∀ t, Q t → Q' t) (k : W p l e R' s m args below meth c H locs cells slots Q g) : W p l e R s m args below meth c H locs cells slots Q' g := by
  intro T hT X
  have hr : s.hasRoom e.platform R' = true := by
    have h := X.room
    simp only [State.hasRoom, Bool.and_eq_true, decide_eq_true_eq] at h ⊢
    obtain ⟨⟨⟨⟨a1, a2⟩, a3⟩, a4⟩, a5⟩ := h
    exact ⟨⟨⟨⟨by omega, by omega⟩, by omega⟩, by omega⟩, a5⟩
  obtain ⟨t, a1, b1⟩ := k T hT { X with room := hr }
  exact ⟨t, a1, hQ t b1⟩
theorem xarr {s : State} {args : Array Value} {ty : FieldType} (h : (Cond.arrayClass ty).before args s = true) : ∃ cA, ArrOfT s cA ty ∧ s.vm.findClass ("[" ++ ty.toString) = some cA := by
  obtain ⟨c, k, comp, h1, h2, h3⟩ := Cond.arrayClass_spec h
  exact ⟨c, fun n z => ⟨fun k h => (by cases h), k, h2, comp, h3⟩, h1⟩
theorem xover {s : State} {args : Array Value} {C : String} (h : (Cond.arrayOver (.object C)).before args s = true) : ∃ cA, ArrOfT s cA (.object C) ∧ va_RA s cA (.object C) := by
  obtain ⟨comp, c, k, h1, h2, h3, h4, h5⟩ := Cond.arrayOver_spec h
  exact ⟨c, fun n z => ⟨fun k h => (by cases h), k, h3, comp, h4⟩, k, comp, h3, h4, h1, h5⟩
def xtm (i : Nat) : Term := .string "IdeasDeck$Reader" ([35, 54, 59, 64].getD i 0)
set_option maxHeartbeats 4000000 in
set_option maxRecDepth 100000 in
theorem xtexts {s : State} {b : Nat} {A : Nat → Prop} (hgv : (Jvm.Cond.and given_1 narrow_1).before #[Value.ref b] s = true) (hA : ∀ a : Nat, a < s.heap.size → ¬ A a) : ∃ adK adV : Nat → Nat, vk_S 4 xlit xbyt adK adV A s s.heap ∧ ∀ i : Nat, i < 4 → (xtm i).eval #[Value.ref b] s none [] s = some (.ref (adK i)) := by
  have hs := flat_of_before _ hgv
  refine vk_Sof (tm := xtm) (fun i _ => xlit31 i) ?_ ?_ ?_ ?_ ?_ ?_ hA
  · intro i hi
    match i, hi with
    | 0, _ => exact hs (.exactly (.string "IdeasDeck$Reader" 35) "java/lang/String") (by decide +kernel)
    | 1, _ => exact hs (.exactly (.string "IdeasDeck$Reader" 54) "java/lang/String") (by decide +kernel)
    | 2, _ => exact hs (.exactly (.string "IdeasDeck$Reader" 59) "java/lang/String") (by decide +kernel)
    | 3, _ => exact hs (.exactly (.string "IdeasDeck$Reader" 64) "java/lang/String") (by decide +kernel)
  · intro i hi
    match i, hi with
    | 0, _ => exact hs (.eq (.field (.string "IdeasDeck$Reader" 35) "java/lang/String" "coder" "B") (.int 0)) (by decide +kernel)
    | 1, _ => exact hs (.eq (.field (.string "IdeasDeck$Reader" 54) "java/lang/String" "coder" "B") (.int 0)) (by decide +kernel)
    | 2, _ => exact hs (.eq (.field (.string "IdeasDeck$Reader" 59) "java/lang/String" "coder" "B") (.int 0)) (by decide +kernel)
    | 3, _ => exact hs (.eq (.field (.string "IdeasDeck$Reader" 64) "java/lang/String" "coder" "B") (.int 0)) (by decide +kernel)
  · intro i hi
    match i, hi with
    | 0, _ => exact hs (.arrayOf (.field (.string "IdeasDeck$Reader" 35) "java/lang/String" "value" "[B") .byte) (by decide +kernel)
    | 1, _ => exact hs (.arrayOf (.field (.string "IdeasDeck$Reader" 54) "java/lang/String" "value" "[B") .byte) (by decide +kernel)
    | 2, _ => exact hs (.arrayOf (.field (.string "IdeasDeck$Reader" 59) "java/lang/String" "value" "[B") .byte) (by decide +kernel)
    | 3, _ => exact hs (.arrayOf (.field (.string "IdeasDeck$Reader" 64) "java/lang/String" "value" "[B") .byte) (by decide +kernel)
  · intro i hi
    match i, hi with
    | 0, _ => exact hs (.eq (.length (.field (.string "IdeasDeck$Reader" 35) "java/lang/String" "value" "[B")) (.int 3)) (by decide +kernel)
    | 1, _ => exact hs (.eq (.length (.field (.string "IdeasDeck$Reader" 54) "java/lang/String" "value" "[B")) (.int 6)) (by decide +kernel)
    | 2, _ => exact hs (.eq (.length (.field (.string "IdeasDeck$Reader" 59) "java/lang/String" "value" "[B")) (.int 4)) (by decide +kernel)
    | 3, _ => exact hs (.eq (.length (.field (.string "IdeasDeck$Reader" 64) "java/lang/String" "value" "[B")) (.int 7)) (by decide +kernel)
  · intro i hi j hj
    have key : ∀ i, i < 4 → ∀ j, j < xlit.getD i 0 → Cond.eq (.elem (.field (xtm i) "java/lang/String" "value" "[B") (.int (Int32.ofNat j))) (.int ((xbyt.getD i []).getD j 0)) ∈ flatC (Jvm.Cond.and given_1 narrow_1) := by decide +kernel
    exact hs _ (key i hi j hj)
  · intro i j hi hj hij
    have key : ∀ i, i < 4 → ∀ j, j < 4 → i ≠ j → Cond.not (Cond.eq (xtm i) (xtm j)) ∈ flatC (Jvm.Cond.and given_1 narrow_1) ∨ Cond.not (Cond.eq (xtm j) (xtm i)) ∈ flatC (Jvm.Cond.and given_1 narrow_1) := by decide +kernel
    exact (key i hi j hj hij).imp (hs _) (hs _)
set_option maxHeartbeats 4000000 in
set_option maxRecDepth 100000 in
/-- the start, as the judgement wants it -/
theorem xstart {s : State} {b L : Nat} {xs : Nat → Int32} (hts : ∀ w ∈ lw_tbl, w.before #[Value.ref b] s = true) (hX : va_X b L xs s s.heap) (hbl : b < s.heap.size) (hgv : (Jvm.Cond.and given_1 narrow_1).before #[Value.ref b] s = true) : ∃ η : xEnv, η.1 = s.heap.size ∧ η.2.2.2.1 100 = b ∧ η.2.2.2.2.1 = L ∧ η.2.2.2.2.2 = xs ∧ xU η s := by
  have hs := flat_of_before _ hgv
  have htt : ∀ (i : Nat) (w : Cond), tables_1[i]? = some w → w.before #[Value.ref b] s = true := fun i w h => hts w (List.mem_append_right _ (List.mem_of_getElem? h))
  have hkn : ∀ ci, ci < 10 → ∃ (cC : ClassId) (iS : Nat → Nat), u_Kn s (xr ci) (xtb ci) (xnf ci) cC iS := by
    intro ci hc
    have hin := (xcls ci hc).2.1
    have hT : ∀ w ∈ xT, w.before #[Value.ref b] s = true := fun w h => hts w (List.mem_filter.mp h).1
    have hinst : Cond.instantiable (xr ci) (xnf ci) ∈ xT := by
      match ci, hc with
      | 0, _ => exact is_RX0
      | 1, _ => exact is_RX1
      | 2, _ => exact is_RX2
      | 3, _ => exact is_RX3
      | 4, _ => exact is_RX4
      | 5, _ => exact is_RX5
      | 6, _ => exact is_RX6
      | 7, _ => exact is_RX7
      | 8, _ => exact is_RX8
      | 9, _ => exact is_RX9
    exact u_known hT hin (hT _ hinst)
  have hch : ∀ ci : Nat, ∃ q : ClassId × (Nat → Nat), ci < 10 → u_Kn s (xr ci) (xtb ci) (xnf ci) q.1 q.2 := by
    intro ci
    by_cases hc : ci < 10
    · obtain ⟨cC, iS, h⟩ := hkn ci hc
      exact ⟨(cC, iS), fun _ => h⟩
    · exact ⟨(0, fun _ => 0), fun h => absurd h hc⟩
  obtain ⟨dq, hdq⟩ := Classical.axiomOfChoice hch
  obtain ⟨cI, aI1, aI2⟩ := xarr (hts _ (List.mem_filter.mp ac_int).1)
  obtain ⟨cZ, aZ1, aZ2⟩ := xarr (hts _ (List.mem_filter.mp ac_boolean).1)
  have ho5 : (Cond.arrayOver (.object RX5)).before #[Value.ref b] s = true := hts _ (List.mem_append_right _ (by decide +kernel))
  have ho0 : (Cond.arrayOver (.object RX0)).before #[Value.ref b] s = true := hts _ (List.mem_append_right _ (by decide +kernel))
  obtain ⟨cR, aR1, aR2⟩ := xover ho5
  obtain ⟨cB, aB1, aB2⟩ := xover ho0
  have hA : ∀ a : Nat, a < s.heap.size → ¬ (fun q => s.heap.size ≤ q) a := fun a h q => Nat.not_lt.mpr q h
  obtain ⟨adK, adV, hvS, hev⟩ := xtexts hgv hA
  have hZc := va_Zof (A := fun q => s.heap.size ≤ q) (hts (.laysStatic "java/lang/String" "COMPACT_STRINGS" "Z") (List.mem_append_right _ (by decide +kernel))) (hts (.initialized "java/lang/String") (List.mem_append_right _ (by decide +kernel))) (va_eqi (hs (.eq (.static "java/lang/String" "COMPACT_STRINGS" "Z") (.int 1)) (by decide +kernel))) hA
  have hZf := va_Zqof (A := fun q => s.heap.size ≤ q) (hts (.laysStatic "jdk/internal/util/Preconditions" "SIOOBE_FORMATTER" "Ljava/util/function/BiFunction;") (List.mem_append_right _ (by decide +kernel))) (hts (.initialized "jdk/internal/util/Preconditions") (List.mem_append_right _ (by decide +kernel))) (hs (.isRef (.static "jdk/internal/util/Preconditions" "SIOOBE_FORMATTER" "Ljava/util/function/BiFunction;")) (by decide +kernel)) hA
  have hZ2 : ∃ t : Nat, va_Z "jdk/internal/util/Preconditions" "SIOOBE_FORMATTER" "Ljava/util/function/BiFunction;" .null (fun q => s.heap.size ≤ q) s s.heap ∨ va_Z "jdk/internal/util/Preconditions" "SIOOBE_FORMATTER" "Ljava/util/function/BiFunction;" (.ref t) (fun q => s.heap.size ≤ q) s s.heap := by
    rcases hZf with h | ⟨t, h⟩
    · exact ⟨0, Or.inl h⟩
    · exact ⟨t, Or.inr h⟩
  obtain ⟨tf, hZ2⟩ := hZ2
  let ad : Nat → Nat := fun i => if i < 4 then adK i else if i = 100 then b else if i = 101 then tf else adV (i - 200)
  let cA : Nat → ClassId := fun i => if i = 0 then cI else if i = 1 then cZ else if i = 2 then cB else cR
  refine ⟨(s.heap.size, (fun ci => (dq ci).1, fun ci => (dq ci).2), cA, ad, L, xs), rfl, rfl, rfl, rfl, ?_⟩
  refine ⟨⟨fun c q hq => ?_, fun k q hq => ?_⟩, fun w hw => ?_, ⟨va_AO.of ho5, va_AO.of ho0⟩, ⟨?_, ?_, ?_, ?_⟩, ?_, ⟨hX, hbl, hA b hbl⟩, hZc, hZ2⟩
  · have hc : c < 10 := (List.getElem?_eq_some_iff.mp hq).1
    have e := (xcls c hc).1
    cases hq.symm.trans e
    exact hdq c hc
  · have hk : k < 4 := (List.getElem?_eq_some_iff.mp hq).1
    match k, hk, hq with
    | 0, _, hq => cases hq; exact ⟨aI1, aI2⟩
    | 1, _, hq => cases hq; exact ⟨aZ1, aZ2⟩
    | 2, _, hq => cases hq; exact ⟨aB1, aB2⟩
    | 3, _, hq => cases hq; exact ⟨aR1, aR2⟩
  · have hn := List.mem_filter.mp hw
    have ho : w.onTables = true := by cases w <;> first | rfl | (simp at hn)
    exact va_Nw.of ho (hts w hn.1)
  · exact vk_R.of (hts (.stringRef "IdeasDeck$Reader" 35 "bus") (List.mem_append_right _ (by decide +kernel))) (hev 0 (by decide))
  · exact vk_R.of (hts (.stringRef "IdeasDeck$Reader" 54 "bridge") (List.mem_append_right _ (by decide +kernel))) (hev 1 (by decide))
  · exact vk_R.of (hts (.stringRef "IdeasDeck$Reader" 59 "idea") (List.mem_append_right _ (by decide +kernel))) (hev 2 (by decide))
  · exact vk_R.of (hts (.stringRef "IdeasDeck$Reader" 64 "quarrel") (List.mem_append_right _ (by decide +kernel))) (hev 3 (by decide))
  · refine ⟨fun i hi => ?_, fun i j hi hj e => ?_⟩
    · have e1 : ad i = adK i := if_pos hi
      have e2 : ad (200 + i) = adV i := by
        show (if 200 + i < 4 then adK (200 + i) else if 200 + i = 100 then b else if 200 + i = 101 then tf else adV (200 + i - 200)) = adV i
        rw [if_neg (by omega), if_neg (by omega), if_neg (by omega), show 200 + i - 200 = i by omega]
      have hh := hvS.1 i hi
      show va_O "java/lang/String" (ad i) _ s s.heap ∧ va_OF "java/lang/String" "coder" "B" (.int 0) (ad i) _ s s.heap ∧ va_OF "java/lang/String" "value" "[B" (.ref (ad (200 + i))) (ad i) _ s s.heap ∧ va_T .byte (ad (200 + i)) _ _ _ s s.heap
      rw [e1, e2]
      exact hh
    · have e1 : ad i = adK i := if_pos hi
      have e2 : ad j = adK j := if_pos hj
      have e' : ad i = ad j := e
      rw [e1, e2] at e'
      exact hvS.2 i j hi hj e'
/-- the law's walk, out of what its pure function answers -/
theorem whole_of (hpure : ∀ η : xEnv, η.2.2.2.2.1 ≤ 320 → ∃ hf, fL_law η xh0 = some (1, hf) ∧ xn hf ≤ 600000 ∧ xm hf ≤ 7302250) {p : Program} {e : Env} {s : State} {m : MethodId} {below : List Frame} {meth : Method} {c : Code} (l : Launch) {b L : Nat} {xs : Nat → Int32} (hL : L ≤ 320) (C0 : lw_At p s m meth c b L xs) : W p l e room_1 s m #[Value.ref b] below meth c s.heap [] 0 0 (lw_Z below #[Value.ref b] s) (entryFrame m ([Value.ref b] : List Value).toArray 4) := by
  obtain ⟨hx, hb, hr, hml, hown, hts, hX, hbl, hlocks, hgv⟩ := C0
  obtain ⟨η, e1, e2, e3, e4, hU⟩ := xstart hts hX hbl hgv
  obtain ⟨hf, hp, hn, hm⟩ := hpure η (by rw [e3]; exact hL)
  have hJ := kL_law meth.name (l, η, (0, 0), (some (.int 1), hf)) xh0 (1, hf) hp ⟨rfl, rfl⟩
  have hl := lv_entry ([.ref b]) (n := 4) (Nat.le_of_ble_eq_true rfl)
  rw [lg_entry_eq]
  have hk := hJ.2 (Nat.zero_le _) (Nat.zero_le _) p e s m #[Value.ref b] below meth c ⟨hx, hb, hr, hml, hown, fun w hw => hts w (List.mem_filter.mp hw).1, hlocks, rfl, hU, e1.symm⟩ s.heap [] _ (by
    have : ([(0, Value.float 100)] : List (Nat × Value)).map (cq η) = [(0, .ref b)] := by
      show [(0, Value.ref (η.2.2.2.1 100))] = _
      rw [e2]
    show lv_has _ 4 (([(0, Value.float 100)] : List (Nat × Value)).map (cq η))
    rw [this]
    exact hl) (fun k q h => by simp [xw, xh0] at h) va_S.rf
  refine xW_room (R' := xR (iL_law meth.name) (l, η, (0, 0), (some (.int 1), hf))) ?_ ?_ ?_ ?_ ?_ hk
  · exact Nat.le_of_ble_eq_true rfl
  · show xn hf - 0 ≤ 600000; omega
  · show xm hf - 0 ≤ 7302250; omega
  · exact Nat.le_of_ble_eq_true rfl
  · rintro t ⟨o, h1, h2, ⟨h3, -, -⟩, Lc, ⟨h4, h5, h6⟩, h7⟩
    refine ⟨o, h1, h2, h3, h4, h5, ?_⟩
    have h8 := State.sameButNew.drop_fresh (L := []) (J := Lc) h6 (fun x hx => by have := h7 x hx; rw [← e1]; exact this)
    obtain ⟨a1, a2, a3, a4, a5, a6⟩ := h8
    have q1 : xn hf - 0 ≤ 600000 := by omega
    have q2 : xm hf - 0 ≤ 7302250 := by omega
    exact ⟨a1, a2, Nat.le_trans a3 (Nat.add_le_add_left q1 _), a4, Nat.le_trans a5 q2, a6⟩
