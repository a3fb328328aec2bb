theorem xi200 {i : UInt32} (hi : i.toNat < 4) : (200 + i).toNat = 200 + i.toNat := by
  rw [UInt32.toNat_add]; show (200 + i.toNat) % 4294967296 = _; omega
section XT
variable {X : Type} {ι : xI} {κ : xK} {K : X → Prop} {pc : Nat} {L : List (Nat × Value)} {st : List Value} {h : Hp} {o : Option X}
theorem j_compact {idx : Nat} (hd : decode ι.1 pc = .ok (.getstatic idx, 3)) (hl : Cond.fieldLink ι.2.1 idx "java/lang/String" "COMPACT_STRINGS" "Z" ∈ xT) (k : xJ ι κ K (pc + 3) L (.int 1 :: st) h o) : xJ ι κ K pc L st h o := fun v e kv => ⟨(k v e kv).1, fun a b p e' s m args below meth c hA H locs ls h1 h2 h3 =>
  va_gets hA.1 hA.2.1 hA.2.2.2.2.2.2.2.2.1.2.2.2.2.2.2.1 h3 hA.2.2.2.2.1 (hA.2.2.2.2.2.1 _ hl) (fun _ q => q) hd ((k v e kv).2 a b p e' s m args below meth c hA H locs ls h1 h2 h3)⟩
theorem j_fmt {idx : Nat} (hd : decode ι.1 pc = .ok (.getstatic idx, 3)) (hl : Cond.fieldLink ι.2.1 idx "jdk/internal/util/Preconditions" "SIOOBE_FORMATTER" "Ljava/util/function/BiFunction;" ∈ xT) (k1 : xJ ι κ K (pc + 3) L (.null :: st) h o) (k2 : xJ ι κ K (pc + 3) L (.float 101 :: st) h o) : xJ ι κ K pc L st h o := fun v e kv => ⟨(k1 v e kv).1, fun a b p e' s m args below meth c hA H locs ls h1 h2 h3 => by
  rcases hA.2.2.2.2.2.2.2.2.1.2.2.2.2.2.2.2 with hz | hz
  · exact va_gets hA.1 hA.2.1 hz h3 hA.2.2.2.2.1 (hA.2.2.2.2.2.1 _ hl) (fun _ q => q) hd ((k1 v e kv).2 a b p e' s m args below meth c hA H locs ls h1 h2 h3)
  · exact va_gets hA.1 hA.2.1 hz h3 hA.2.2.2.2.1 (hA.2.2.2.2.2.1 _ hl) (fun _ q => q) hd ((k2 v e kv).2 a b p e' s m args below meth c hA H locs ls h1 h2 h3)⟩
theorem j_litC {i : UInt32} (hi : i.toNat < 4) {idx : Nat} (hd : decode ι.1 pc = .ok (.getfield idx, 3)) (hl : Cond.fieldLink ι.2.1 idx "java/lang/String" "coder" "B" ∈ xT) (k : xJ ι κ K (pc + 3) L (.int 0 :: st) h o) : xJ ι κ K pc L (.float i :: st) h o := fun v e kv => ⟨(k v e kv).1, fun a b p e' s m args below meth c hA H locs ls h1 h2 h3 =>
  vk_getf hA.1 hA.2.1 (hA.2.2.2.2.2.2.2.2.1.2.2.2.2.1.1 i.toNat hi).2.1 h3 hA.2.2.2.2.1 (hA.2.2.2.2.2.1 _ hl) (fun _ q => q) hd ((k v e kv).2 a b p e' s m args below meth c hA H locs ls h1 h2 h3)⟩
theorem j_litV {i : UInt32} (hi : i.toNat < 4) {idx : Nat} (hd : decode ι.1 pc = .ok (.getfield idx, 3)) (hl : Cond.fieldLink ι.2.1 idx "java/lang/String" "value" "[B" ∈ xT) (k : xJ ι κ K (pc + 3) L (.float (200 + i) :: st) h o) : xJ ι κ K pc L (.float i :: st) h o := fun v e kv => ⟨(k v e kv).1, fun a b p e' s m args below meth c hA H locs ls h1 h2 h3 => by
  have hw := (k v e kv).2 a b p e' s m args below meth c hA H locs ls h1 h2 h3
  simp only [List.map_cons, cv, xi200 hi] at hw ⊢
  exact vk_getf hA.1 hA.2.1 (hA.2.2.2.2.2.2.2.2.1.2.2.2.2.1.1 i.toNat hi).2.2.1 h3 hA.2.2.2.2.1 (hA.2.2.2.2.2.1 _ hl) (fun _ q => q) hd hw⟩
theorem j_litN {i : UInt32} (hi : i.toNat < 4) (hd : decode ι.1 pc = .ok (.arraylength, 1)) (k : xJ ι κ K (pc + 1) L (.int (Int32.ofNat (xlit.getD i.toNat 0)) :: st) h o) : xJ ι κ K pc L (.float (200 + i) :: st) h o := fun v e kv => ⟨(k v e kv).1, fun a b p e' s m args below meth c hA H locs ls h1 h2 h3 => by
  have hw := (k v e kv).2 a b p e' s m args below meth c hA H locs ls h1 h2 h3
  obtain ⟨cell, q1, q2, q3, q4, q5, q6⟩ := ((hA.2.2.2.2.2.2.2.2.1.2.2.2.2.1.1 i.toNat hi).2.2.2).kept h3.2.1
  simp only [List.map_cons, cv, xi200 hi] at hw ⊢
  exact W.alen hA.1 hA.2.1 q1 q2 q5 rfl rfl hd hw⟩
theorem j_litB {i : UInt32} (hi : i.toNat < 4) {x : Int32} (hx : vp_in x (xlit.getD i.toNat 0)) (hd : decode ι.1 pc = .ok (.baload, 1)) (k : xJ ι κ K (pc + 1) L (.int ((xbyt.getD i.toNat []).getD x.toNatClampNeg 0) :: st) h o) : xJ ι κ K pc L (.int x :: .float (200 + i) :: st) h o := fun v e kv => ⟨(k v e kv).1, fun a b p e' s m args below meth c hA H locs ls h1 h2 h3 => by
  have hw := (k v e kv).2 a b p e' s m args below meth c hA H locs ls h1 h2 h3
  simp only [List.map_cons, cv, xi200 hi] at hw ⊢
  exact va_tb hA.1 hA.2.1 (hA.2.2.2.2.2.2.2.2.1.2.2.2.2.1.1 i.toNat hi).2.2.2 h3 hx rfl hd hw⟩
theorem j_i2c {x y : Int32} (hd : decode ι.1 pc = .ok (.i2c, 1)) (hy : (x.toUInt32 % 65536).toInt32 = y) (k : xJ ι κ K (pc + 1) L (.int y :: st) h o) : xJ ι κ K pc L (.int x :: st) h o := fun v e kv => ⟨(k v e kv).1, fun a b p e' s m args below meth c hA H locs ls h1 h2 h3 => lv_i2c hA.1 hA.2.1 hd hy ((k v e kv).2 a b p e' s m args below meth c hA H locs ls h1 h2 h3)⟩
theorem j_nret {v0 : Int32} {ty : FieldType} (x : X) (hd : decode ι.1 pc = .ok (.ireturn, 1)) (hr : ι.2.2.2.1 = some ty) (hz : narrow ty (.int v0) = .int v0) (hk : K x → κ.2.2.2.1 = some (.int v0) ∧ κ.2.2.2.2 = h) : xJ ι κ K pc L [.int v0] h (some x) := fun v e kv => by
  cases e
  obtain ⟨hk1, hk2⟩ := hk kv
  refine ⟨by unfold xB; rw [hk2]; exact ⟨Nat.le_refl _, Nat.le_refl _⟩, fun a b p e' s m args below meth c hA H locs ls h1 h2 h3 => ?_⟩
  have hl := hA.2.2.2.2.2.2.1
  unfold xZ
  rw [hk2]
  exact W.zret hA.1 hA.2.1 (hA.2.2.1.trans hr) hz (fun t ht hW => ⟨by rw [hk1]; rfl, by rw [ht]; exact h2, h3.F ht⟩) h3.2.2 hd hl
/-- a call on a literal -/
theorem j_callL {Y : Type} {oc : Option Y} {f : Y → Option X} {i : UInt32} {y : MethodName} {b : ByteArray} {n d np idx : Nat} {ret : Option FieldType} {as ST : List Value} (rv : Y → Option Value) (hi : i.toNat < 4) (hd : decode ι.1 pc = .ok (.invokevirtual idx, 3)) (hl : Cond.methodLink ι.2.1 idx y ∈ xT) (ht : xtg y b n ret np) (him : Cond.instanceMethod y ∈ xT) (hse : Cond.selects "java/lang/String" y y ∈ xT) (hC : ∀ x, oc = some x → xC κ.1 κ.2.1 y b n ret d (.float i :: as) h (rv x) h) (hdp : d + 1 ≤ ι.2.2.2.2.2) (hn : n ≤ 40) (hnp : as.length = np) (hST : as.reverse ++ .float i :: st = ST) (hst : (st.map fun v => v.category).sum ≤ 8) (k : ∀ x, xJ ι κ K (pc + 3) L ((rv x).toList ++ st) h (f x)) : xJ ι κ K pc L ST h (oc.bind f) := fun v e kv => by
  obtain ⟨x, e1, e2⟩ := Option.bind_eq_some_iff.mp e
  obtain ⟨hm, hM⟩ := hC x e1
  obtain ⟨hB, hG⟩ := k x v e2 kv
  subst hST
  refine ⟨hB, fun b1 b2 p e' s m args below meth c hA H locs ls h1 h2 h3 => ?_⟩
  obtain ⟨hf, hq1, hq2⟩ := xcnt b1 b2 hm hB
  have hts := hA.2.2.2.2.2.1
  have hU := hA.2.2.2.2.2.2.2.2.1
  have hR : d + 1 ≤ (xR ι κ).frames ∧ 8 + (n + 11) + 60 * d ≤ (xR ι κ).locals := ⟨hdp, by show _ ≤ 60 * ι.2.2.2.2.2; omega⟩
  refine xW_size (fun hz => ?_)
  have hsz : H.size = κ.2.1.1 + xn h := by
    have q1 := xw_size h2 (by have := h3.1; have := hA.2.2.2.2.2.2.2.2.2; omega)
    have q2 := hA.2.2.2.2.2.2.2.2.2
    omega
  have hrec := vk_recv hU.2.2.2.2.1 hi h3
  refine xcallW (r := rv x) (hf := h) (rest := st.map (cv κ.2.1)) (va_runV (C := "java/lang/String") (b := κ.2.1.2.2.2.1 i.toNat) (As := as.map (cv κ.2.1)) (rest := st.map (cv κ.2.1)) ⟨hA.1, hA.2.1, hA.2.2.2.1, hA.2.2.2.2.1, hts⟩ hM ⟨callB_of np hts (xT_good ht.1) rfl rfl rfl (hts _ ht.2.1) (hts _ hl) ht.2.2 hR, hts _ him, hts _ hse⟩ ⟨xpre, hrec, fun U hUh hW => ⟨by simp [cv], by rw [hUh]; exact hsz, by rw [hUh]; exact h2, xU_at hU h3 hUh hW⟩⟩ rfl (by rw [List.length_map]; exact hnp) h1.1 (by simp [cv]) (lv_room (by rw [xcat]; exact hst)) hd hf) h3 (fun H1 locs1 g1 g3 => ?_)
  rw [hq1, hq2]
  have hw := hG b1 b2 p e' s m args below meth c hA H1 locs1 ls h1 g1 g3
  have hmap : ((rv x).map (cv κ.2.1)).toList ++ st.map (cv κ.2.1) = ((rv x).toList ++ st).map (cv κ.2.1) := by
    rw [List.map_append]; congr 1; cases rv x <;> rfl
  rw [hmap]
  exact hw
end XT
abbrev iJ0_coder : xI := (cJ0_coder_7d493, yJ0_coder_7d493.cls, yJ0_coder_7d493.name, some .byte, 1, 2)
theorem kJ_coder (l : Launch) (η : xEnv) (i : UInt32) (hi : i.toNat < 4) (h : Hp) : xC l η yJ0_coder_7d493 cJ0_coder_7d493 1 (some .byte) 2 [.float i] h (some (.int 0)) h := by
  refine xC_of (x := ()) (by decide) (Nat.le_of_ble_eq_true rfl) rfl (fun κ _ => κ.2.2.2.1 = some (.int 0) ∧ κ.2.2.2.2 = h) ⟨rfl, rfl⟩ (fun κ => ?_)
  show xJ iJ0_coder κ _ 0 [(0, .float i)] [] h (some ())
  refine j_compact dJ0_coder_7d493_0 fl_RJ0_38 ?_
  have hif : (some () : Option Unit) = if (1 : Int32) = 0 then none else some () := rfl
  rw [hif]
  refine j_if_eq (tgt := 13) dJ0_coder_7d493_3 (by decide) (fun c => absurd c (by decide)) (fun c => ?_)
  refine j_sload_n 0 dJ0_coder_7d493_6 rfl rfl ?_
  refine j_litC hi dJ0_coder_7d493_7 fl_RJ0_15 ?_
  refine j_goto (tgt := 14) dJ0_coder_7d493_10 (by decide) ?_
  exact j_nret () dJ0_coder_7d493_14 rfl rfl (fun q => q)
abbrev iJ0_length : xI := (cJ0_length_8abf5, yJ0_length_8abf5.cls, yJ0_length_8abf5.name, some .int, 1, 3)
theorem kJ_length (l : Launch) (η : xEnv) (i : UInt32) (hi : i.toNat < 4) (h : Hp) : xC l η yJ0_length_8abf5 cJ0_length_8abf5 1 (some .int) 3 [.float i] h (some (.int (nI (xlit.getD i.toNat 0)))) h := by
  refine xC_of (x := ()) (by decide) (Nat.le_of_ble_eq_true rfl) (o := (some () : Option Unit).bind fun _ => some ()) rfl (fun κ _ => κ.2.2.2.1 = some (.int (nI (xlit.getD i.toNat 0))) ∧ κ.2.2.2.2 = h) ⟨rfl, rfl⟩ (fun κ => ?_)
  show xJ iJ0_length κ _ 0 [(0, .float i)] [] h _
  refine j_sload_n 0 dJ0_length_8abf5_0 rfl rfl ?_
  refine j_litV hi dJ0_length_8abf5_1 fl_RJ0_9 ?_
  refine j_litN hi dJ0_length_8abf5_4 ?_
  refine j_sload_n 0 dJ0_length_8abf5_5 rfl rfl ?_
  refine j_callL (as := []) (fun _ => some (.int 0)) hi dJ0_length_8abf5_6 ml_RJ0_335 tg_J0_coder_7d493 im_J0_coder_7d493 se_J0_coder_7d493 (fun _ _ => kJ_coder κ.1 κ.2.1 i hi h) (by decide) (by decide) rfl rfl (Nat.le_of_ble_eq_true rfl) (fun _ => ?_)
  show xJ iJ0_length κ _ 9 [(0, .float i)] [.int 0, .int (Int32.ofNat (xlit.getD i.toNat 0))] h _
  refine j_ishr dJ0_length_8abf5_9 ?_
  refine j_iret () dJ0_length_8abf5_10 rfl (fun q => ⟨?_, q.2⟩)
  rw [q.1]
  congr 2
  exact (sb_shr0 _).symm
abbrev iJ0_isLatin1 : xI := (cJ0_isLatin1_aae02, yJ0_isLatin1_aae02.cls, yJ0_isLatin1_aae02.name, some .boolean, 1, 2)
theorem kJ_isLatin1 (l : Launch) (η : xEnv) (i : UInt32) (hi : i.toNat < 4) (h : Hp) : xC l η yJ0_isLatin1_aae02 cJ0_isLatin1_aae02 1 (some .boolean) 2 [.float i] h (some (.int 1)) h := by
  refine xC_of (x := ()) (by decide) (Nat.le_of_ble_eq_true rfl) rfl (fun κ _ => κ.2.2.2.1 = some (.int 1) ∧ κ.2.2.2.2 = h) ⟨rfl, rfl⟩ (fun κ => ?_)
  show xJ iJ0_isLatin1 κ _ 0 [(0, .float i)] [] h (some ())
  refine j_compact dJ0_isLatin1_aae02_0 fl_RJ0_38 ?_
  have hif : (some () : Option Unit) = if (1 : Int32) = 0 then none else (if (0 : Int32) = 0 then some () else none) := rfl
  rw [hif]
  refine j_if_eq (tgt := 17) dJ0_isLatin1_aae02_3 (by decide) (fun c => absurd c (by decide)) (fun c => ?_)
  refine j_sload_n 0 dJ0_isLatin1_aae02_6 rfl rfl ?_
  refine j_litC hi dJ0_isLatin1_aae02_7 fl_RJ0_15 ?_
  refine j_if_ne (tgt := 17) dJ0_isLatin1_aae02_10 (by decide) (fun c => ?_) (fun c => absurd rfl c)
  refine j_iconst (x := 1) dJ0_isLatin1_aae02_13 (by decide) ?_
  refine j_goto (tgt := 18) dJ0_isLatin1_aae02_14 (by decide) ?_
  exact j_zret () dJ0_isLatin1_aae02_18 rfl rfl (fun q => q)
abbrev iJ3_check : xI := (cJ3_checkIndex_8e157, yJ3_checkIndex_8e157.cls, yJ3_checkIndex_8e157.name, some .int, 3, 2)
theorem kJ_check (l : Launch) (η : xEnv) (x n : Int32) (w : Value) (hw : w.category = 1) (h0 : ¬ x < 0) (h1 : x < n) (h : Hp) : xC l η yJ3_checkIndex_8e157 cJ3_checkIndex_8e157 3 (some .int) 2 [.int x, .int n, w] h (some (.int x)) h := by
  refine xC_of (x := ()) (by decide) (by cases w <;> first | (simp [Value.category] at hw; done) | (simp [lg_sl, Value.category]; done)) (o := if x < 0 then none else if x < n then some () else none) (by rw [if_neg h0, if_pos h1]) (fun κ _ => κ.2.2.2.1 = some (.int x) ∧ κ.2.2.2.2 = h) ⟨rfl, rfl⟩ (fun κ => ?_)
  show xJ iJ3_check κ _ 0 [(0, .int x), (1, .int n), (2, w)] [] h _
  refine j_iload_n 0 dJ3_checkIndex_8e157_0 rfl rfl ?_
  refine j_if_lt (tgt := 9) dJ3_checkIndex_8e157_1 (by decide) (fun c => absurd c h0) (fun c => ?_)
  refine j_iload_n 0 dJ3_checkIndex_8e157_4 rfl rfl ?_
  refine j_iload_n 1 dJ3_checkIndex_8e157_5 rfl rfl ?_
  refine j_icmp_lt (tgt := 16) dJ3_checkIndex_8e157_6 (by decide) (fun c => ?_) (fun c => absurd h1 c)
  refine j_iload_n 0 dJ3_checkIndex_8e157_16 rfl rfl ?_
  exact j_iret () dJ3_checkIndex_8e157_17 rfl (fun q => q)
abbrev iJ0_check : xI := (cJ0_checkIndex_df160, yJ0_checkIndex_df160.cls, yJ0_checkIndex_df160.name, none, 2, 3)
theorem kJ_scheck (l : Launch) (η : xEnv) (x n : Int32) (h0 : ¬ x < 0) (h1 : x < n) (h : Hp) : xC l η yJ0_checkIndex_df160 cJ0_checkIndex_df160 2 none 3 [.int x, .int n] h none h := by
  refine xC_of (x := ()) (by decide) (Nat.le_of_ble_eq_true rfl) (o := (some () : Option Unit).bind fun _ => some ()) rfl (fun κ _ => κ.2.2.2.1 = none ∧ κ.2.2.2.2 = h) ⟨rfl, rfl⟩ (fun κ => ?_)
  show xJ iJ0_check κ _ 0 [(0, .int x), (1, .int n)] [] h _
  refine j_iload_n 0 dJ0_checkIndex_df160_0 rfl rfl ?_
  refine j_iload_n 1 dJ0_checkIndex_df160_1 rfl rfl ?_
  refine j_fmt dJ0_checkIndex_df160_2 fl_RJ0_1053 ?_ ?_
  · refine j_callS (as := [.int x, .int n, .null]) (fun _ => some (.int x)) (fun _ => h) dJ0_checkIndex_df160_5 ml_RJ0_1059 tg_J3_checkIndex_8e157 st_J3_checkIndex_8e157 (fun _ _ => kJ_check κ.1 κ.2.1 x n .null rfl h0 h1 h) (by decide) (by decide) rfl rfl (Nat.le_of_ble_eq_true rfl) (fun _ => ?_)
    show xJ iJ0_check κ _ 8 [(0, .int x), (1, .int n)] [.int x] h _
    refine j_pop dJ0_checkIndex_df160_8 rfl ?_
    exact j_vret () dJ0_checkIndex_df160_9 rfl (fun q => q)
  · refine j_callS (as := [.int x, .int n, .float 101]) (fun _ => some (.int x)) (fun _ => h) dJ0_checkIndex_df160_5 ml_RJ0_1059 tg_J3_checkIndex_8e157 st_J3_checkIndex_8e157 (fun _ _ => kJ_check κ.1 κ.2.1 x n (.float 101) rfl h0 h1 h) (by decide) (by decide) rfl rfl (Nat.le_of_ble_eq_true rfl) (fun _ => ?_)
    show xJ iJ0_check κ _ 8 [(0, .int x), (1, .int n)] [.int x] h _
    refine j_pop dJ0_checkIndex_df160_8 rfl ?_
    exact j_vret () dJ0_checkIndex_df160_9 rfl (fun q => q)
theorem xlits : ∀ i, i < 4 → ∀ j, j < xlit.getD i 0 → ((((xbyt.getD i []).getD j 0) &&& 255).toUInt32 % 65536).toInt32 = (xbyt.getD i []).getD j 0 ∧ narrow .char (.int ((xbyt.getD i []).getD j 0)) = .int ((xbyt.getD i []).getD j 0) := by
  intro i hi
  match i, hi with
  | 0, _ => decide
  | 1, _ => decide
  | 2, _ => decide
  | 3, _ => decide
theorem xlit31 (i : Nat) : xlit.getD i 0 < 2 ^ 31 := by
  match i with
  | 0 => decide
  | 1 => decide
  | 2 => decide
  | 3 => decide
  | n + 4 => simp [xlit]
abbrev iJ1_charAt : xI := (cJ1_charAt_3b067, yJ1_charAt_3b067.cls, yJ1_charAt_3b067.name, some .char, 2, 4)
theorem kJ_lchar (l : Launch) (η : xEnv) (i : UInt32) (hi : i.toNat < 4) (x : Int32) (h0 : 0 ≤ x.toInt) (h1 : x.toInt < xlit.getD i.toNat 0) (h : Hp) : xC l η yJ1_charAt_3b067 cJ1_charAt_3b067 2 (some .char) 4 [.float (200 + i), .int x] h (some (.int ((xbyt.getD i.toNat []).getD x.toNatClampNeg 0))) h := by
  refine xC_of (x := ()) (by decide) (Nat.le_of_ble_eq_true rfl) (o := (some () : Option Unit).bind fun _ => some ()) rfl (fun κ _ => κ.2.2.2.1 = some (.int ((xbyt.getD i.toNat []).getD x.toNatClampNeg 0)) ∧ κ.2.2.2.2 = h) ⟨rfl, rfl⟩ (fun κ => ?_)
  show xJ iJ1_charAt κ _ 0 [(0, .float (200 + i)), (1, .int x)] [] h _
  have hj : x.toNatClampNeg < xlit.getD i.toNat 0 := by show x.toInt.toNat < _; omega
  obtain ⟨z1, z2⟩ := xlits i.toNat hi _ hj
  have hb : x < Int32.ofNat (xlit.getD i.toNat 0) := by
    rw [Int32.lt_iff_toInt_lt]
    have := nI_toInt (xlit31 i.toNat)
    unfold nI at this
    rw [this]; exact h1
  have hn : ¬ x < 0 := fun q => by have := Int32.lt_iff_toInt_lt.mp q; simp at this; omega
  refine j_iload_n 1 dJ1_charAt_3b067_0 rfl rfl ?_
  refine j_sload_n 0 dJ1_charAt_3b067_1 rfl rfl ?_
  refine j_litN hi dJ1_charAt_3b067_2 ?_
  refine j_callS (as := [.int x, .int (Int32.ofNat (xlit.getD i.toNat 0))]) (fun _ => none) (fun _ => h) dJ1_charAt_3b067_3 ml_RJ1_9 tg_J0_checkIndex_df160 st_J0_checkIndex_df160 (fun _ _ => kJ_scheck κ.1 κ.2.1 x _ hn hb h) (by decide) (by decide) rfl rfl (Nat.le_of_ble_eq_true rfl) (fun _ => ?_)
  show xJ iJ1_charAt κ _ 6 [(0, .float (200 + i)), (1, .int x)] [] h _
  refine j_sload_n 0 dJ1_charAt_3b067_6 rfl rfl ?_
  refine j_iload_n 1 dJ1_charAt_3b067_7 rfl rfl ?_
  refine j_litB hi (xi_of h0 h1) dJ1_charAt_3b067_8 ?_
  refine j_sipush (x := 255) dJ1_charAt_3b067_9 (by decide) ?_
  refine j_iand dJ1_charAt_3b067_12 ?_
  refine j_i2c dJ1_charAt_3b067_13 z1 ?_
  exact j_nret () dJ1_charAt_3b067_14 rfl z2 (fun q => q)
abbrev iJ0_charAt : xI := (cJ0_charAt_5068e, yJ0_charAt_5068e.cls, yJ0_charAt_5068e.name, some .char, 2, 5)
theorem kJ_charAt (l : Launch) (η : xEnv) (i : UInt32) (hi : i.toNat < 4) (x : Int32) (h0 : 0 ≤ x.toInt) (h1 : x.toInt < xlit.getD i.toNat 0) (h : Hp) : xC l η yJ0_charAt_5068e cJ0_charAt_5068e 2 (some .char) 5 [.float i, .int x] h (some (.int ((xbyt.getD i.toNat []).getD x.toNatClampNeg 0))) h := by
  refine xC_of (x := ()) (by decide) (Nat.le_of_ble_eq_true rfl) (o := (some () : Option Unit).bind fun _ => if (1 : Int32) = 0 then none else ((some () : Option Unit).bind fun _ => some ())) rfl (fun κ _ => κ.2.2.2.1 = some (.int ((xbyt.getD i.toNat []).getD x.toNatClampNeg 0)) ∧ κ.2.2.2.2 = h) ⟨rfl, rfl⟩ (fun κ => ?_)
  show xJ iJ0_charAt κ _ 0 [(0, .float i), (1, .int x)] [] h _
  have hj : x.toNatClampNeg < xlit.getD i.toNat 0 := by show x.toInt.toNat < _; omega
  obtain ⟨z1, z2⟩ := xlits i.toNat hi _ hj
  refine j_sload_n 0 dJ0_charAt_5068e_0 rfl rfl ?_
  refine j_callL (as := []) (fun _ => some (.int 1)) hi dJ0_charAt_5068e_1 ml_RJ0_492 tg_J0_isLatin1_aae02 im_J0_isLatin1_aae02 se_J0_isLatin1_aae02 (fun _ _ => kJ_isLatin1 κ.1 κ.2.1 i hi h) (by decide) (by decide) rfl rfl (Nat.le_of_ble_eq_true rfl) (fun _ => ?_)
  show xJ iJ0_charAt κ _ 4 [(0, .float i), (1, .int x)] [.int 1] h _
  refine j_if_eq (tgt := 16) dJ0_charAt_5068e_4 (by decide) (fun c => absurd c (by decide)) (fun c => ?_)
  refine j_sload_n 0 dJ0_charAt_5068e_7 rfl rfl ?_
  refine j_litV hi dJ0_charAt_5068e_8 fl_RJ0_9 ?_
  refine j_iload_n 1 dJ0_charAt_5068e_11 rfl rfl ?_
  refine j_callS (as := [.float (200 + i), .int x]) (fun _ => some (.int ((xbyt.getD i.toNat []).getD x.toNatClampNeg 0))) (fun _ => h) dJ0_charAt_5068e_12 ml_RJ0_495 tg_J1_charAt_3b067 st_J1_charAt_3b067 (fun _ _ => kJ_lchar κ.1 κ.2.1 i hi x h0 h1 h) (by decide) (by decide) rfl rfl (Nat.le_of_ble_eq_true rfl) (fun _ => ?_)
  show xJ iJ0_charAt κ _ 15 [(0, .float i), (1, .int x)] [.int ((xbyt.getD i.toNat []).getD x.toNatClampNeg 0)] h _
  exact j_nret () dJ0_charAt_5068e_15 rfl z2 (fun q => q)
section XS2
variable {X : Type} {ι : xI} {κ : xK} {K : X → Prop} {pc : Nat} {L : List (Nat × Value)} {st : List Value} {h : Hp}
theorem j_slen {i : UInt32} {idx : Nat} {f : Int32 → Option X} (hd : decode ι.1 pc = .ok (.invokevirtual idx, 3)) (hl : Cond.methodLink ι.2.1 idx yJ0_length_8abf5 ∈ xT) (hdp : 10 ≤ ι.2.2.2.2.2) (hst : (st.map fun v => v.category).sum ≤ 8) (k : ∀ x, xJ ι κ K (pc + 3) L (.int x :: st) h (f x)) : xJ ι κ K pc L (.float i :: st) h ((xsl i).bind f) := fun v e kv => by
  obtain ⟨x, e1, -⟩ := Option.bind_eq_some_iff.mp e
  obtain ⟨hi, -⟩ := xif_some e1
  exact j_callL (as := []) (fun x => some (.int x)) hi hd hl tg_J0_length_8abf5 im_J0_length_8abf5 se_J0_length_8abf5 (fun x hx => by obtain ⟨-, rfl⟩ := xif_some hx; exact kJ_length κ.1 κ.2.1 i hi h) (by omega) (by decide) rfl rfl hst k v e kv
theorem j_schar {i : UInt32} {j : Int32} {idx : Nat} {f : Int32 → Option X} (hd : decode ι.1 pc = .ok (.invokevirtual idx, 3)) (hl : Cond.methodLink ι.2.1 idx yJ0_charAt_5068e ∈ xT) (hdp : 10 ≤ ι.2.2.2.2.2) (hst : (st.map fun v => v.category).sum ≤ 8) (k : ∀ x, xJ ι κ K (pc + 3) L (.int x :: st) h (f x)) : xJ ι κ K pc L (.int j :: .float i :: st) h ((xsc i j).bind f) := fun v e kv => by
  obtain ⟨x, e1, -⟩ := Option.bind_eq_some_iff.mp e
  obtain ⟨⟨hi, h0, h1⟩, -⟩ := xif_some e1
  exact j_callL (as := [.int j]) (fun x => some (.int x)) hi hd hl tg_J0_charAt_5068e im_J0_charAt_5068e se_J0_charAt_5068e (fun x hx => by obtain ⟨-, rfl⟩ := xif_some hx; exact kJ_charAt κ.1 κ.2.1 i hi j h0 h1 h) (by omega) (by decide) rfl rfl hst k v e kv
/-- the script -/
def xsx (η : xEnv) (i : Int32) : Option Int32 := if 0 ≤ i.toInt ∧ i.toInt < η.2.2.2.2.1 then some (η.2.2.2.2.2 i.toNatClampNeg) else none
theorem j_sld {i : Int32} {f : Int32 → Option X} (hd : decode ι.1 pc = .ok (.iaload, 1)) (k : ∀ x, xJ ι κ K (pc + 1) L (.int x :: st) h (f x)) : xJ ι κ K pc L (.int i :: .float 100 :: st) h ((xsx κ.2.1 i).bind f) := fun v e kv => by
  obtain ⟨x, e1, e2⟩ := Option.bind_eq_some_iff.mp e
  obtain ⟨⟨q1, q2⟩, rfl⟩ := xif_some e1
  exact ⟨(k _ v e2 kv).1, fun a b p e' s m args below meth c hA H locs ls h1 h2 h3 =>
    va_sld hA.1 hA.2.1 hA.2.2.2.2.2.2.2.2.1.2.2.2.2.2.1.1 hA.2.2.2.2.2.2.2.2.1.2.2.2.2.2.1.2.1 hA.2.2.2.2.2.2.2.2.1.2.2.2.2.2.1.2.2 h3 (xi_of q1 q2) hd ((k _ v e2 kv).2 a b p e' s m args below meth c hA H locs ls h1 h2 h3)⟩
theorem j_slenA {o : Option X} (hd : decode ι.1 pc = .ok (.arraylength, 1)) (k : xJ ι κ K (pc + 1) L (.int (Int32.ofNat κ.2.1.2.2.2.2.1) :: st) h o) : xJ ι κ K pc L (.float 100 :: st) h o := fun v e kv =>
  ⟨(k v e kv).1, fun a b p e' s m args below meth c hA H locs ls h1 h2 h3 =>
    va_slen hA.1 hA.2.1 hA.2.2.2.2.2.2.2.2.1.2.2.2.2.2.1.1 hA.2.2.2.2.2.2.2.2.1.2.2.2.2.2.1.2.1 hA.2.2.2.2.2.2.2.2.1.2.2.2.2.2.1.2.2 h3 hd ((k v e kv).2 a b p e' s m args below meth c hA H locs ls h1 h2 h3)⟩
end XS2
