/-! what the heap's instructions do to the abstract heap -/
def sI (h : Hp) (a j : Nat) (x : Int32) : Hp := (h.1, fun a' j' => if a' = a ∧ j' = j then x else h.2.1 a' j', h.2.2)
def sL (h : Hp) (a j : Nat) (x : Int64) : Hp := (h.1, h.2.1, fun a' j' => if a' = a ∧ j' = j then x else h.2.2.1 a' j', h.2.2.2)
def sR (h : Hp) (a j : Nat) (r : Nat) : Hp := (h.1, h.2.1, h.2.2.1, fun a' j' => if a' = a ∧ j' = j then some r else h.2.2.2 a' j')
def xgI (h : Hp) (a : Nat) (s : Nat × Nat) (j : Nat) : Option Int32 := if h.1[a]? = some s then some (h.2.1 a j) else none
def xgL (h : Hp) (a : Nat) (s : Nat × Nat) (j : Nat) : Option Int64 := if h.1[a]? = some s then some (h.2.2.1 a j) else none
def xgR (h : Hp) (a : Nat) (s : Nat × Nat) (j : Nat) : Option Nat := if h.1[a]? = some s then h.2.2.2 a j else none
def xpI (h : Hp) (a : Nat) (s : Nat × Nat) (j : Nat) (x : Int32) : Option Hp := if h.1[a]? = some s then some (sI h a j x) else none
def xpL (h : Hp) (a : Nat) (s : Nat × Nat) (j : Nat) (x : Int64) : Option Hp := if h.1[a]? = some s then some (sL h a j x) else none
def xpR (h : Hp) (a : Nat) (s : Nat × Nat) (j : Nat) (r : Nat) : Option Hp := if h.1[a]? = some s then some (sR h a j r) else none
def xat {α : Type} (h : Hp) (a : Nat) (s : Nat × Nat) (o : Option α) : Option α := if h.1[a]? = some s then o else none
def xaI (h : Hp) (a kk : Nat) (i : Int32) : Option Int32 := (h.1[a]?).bind fun s => if s.1 = kk ∧ 0 ≤ i.toInt ∧ i.toInt < s.2 then some (h.2.1 a i.toNatClampNeg) else none
def xaR (h : Hp) (a kk : Nat) (i : Int32) : Option Nat := (h.1[a]?).bind fun s => if s.1 = kk ∧ 0 ≤ i.toInt ∧ i.toInt < s.2 then h.2.2.2 a i.toNatClampNeg else none
def xsI (h : Hp) (a : Nat) (i : Int32) (x : Int32) : Option Hp := (h.1[a]?).bind fun s => if s.1 = 10 ∧ 0 ≤ i.toInt ∧ i.toInt < s.2 then some (sI h a i.toNatClampNeg x) else none
def xsZ (h : Hp) (a : Nat) (i : Int32) (x : Int32) : Option Hp := (h.1[a]?).bind fun s => if s.1 = 11 ∧ 0 ≤ i.toInt ∧ i.toInt < s.2 then some (sI h a i.toNatClampNeg (vp_nar .boolean x)) else none
def xsR (h : Hp) (a kk : Nat) (i : Int32) (r : Nat) (sr : Nat × Nat) : Option Hp := (h.1[a]?).bind fun s => if s.1 = kk ∧ h.1[r]? = some sr ∧ 0 ≤ i.toInt ∧ i.toInt < s.2 then some (sR h a i.toNatClampNeg r) else none
def xal (h : Hp) (a : Nat) : Option Int32 := (h.1[a]?).bind fun s => if s.1 = 10 then some (Int32.ofNat s.2) else none
def xadd (h : Hp) (s : Nat × Nat) : Hp := (h.1 ++ [s], fun a j => if a = h.1.length then 0 else h.2.1 a j, fun a j => if a = h.1.length then 0 else h.2.2.1 a j, fun a j => if a = h.1.length then none else h.2.2.2 a j)
def xnew (h : Hp) (s : Nat × Nat) : Option (Nat × Hp) := some (h.1.length, xadd h s)
def xna (h : Hp) (kk : Nat) (n : Int32) : Option (Nat × Hp) := if 0 ≤ n.toInt ∧ n.toInt ≤ 1000000 then some (h.1.length, xadd h (kk, n.toNatClampNeg)) else none
def scp (h : Hp) (a0 : Nat) (sp : Int32) (a1 : Nat) (dp n : Int32) : Hp := (h.1, fun a j => if a = a1 then va_cpy (h.2.1 a0) (h.2.1 a1) sp.toNatClampNeg dp.toNatClampNeg n.toNatClampNeg j else h.2.1 a j, h.2.2)
def xcp (h : Hp) (a0 : Nat) (sp : Int32) (a1 : Nat) (dp n : Int32) : Option Hp := (h.1[a0]?).bind fun s0 => (h.1[a1]?).bind fun s1 => if s0.1 = 10 ∧ s1.1 = 10 ∧ 0 ≤ sp.toInt ∧ 0 ≤ dp.toInt ∧ 0 ≤ n.toInt ∧ sp.toInt + n.toInt ≤ s0.2 ∧ dp.toInt + n.toInt ≤ s1.2 then some (scp h a0 sp a1 dp n) else none
/-- the classes by their numbers -/
def xr (ci : Nat) : String := match ci with
  | 0 => RX0 | 1 => RX1 | 2 => RX2 | 3 => RX3 | 4 => RX4 | 5 => RX5 | 6 => RX6 | 7 => RX7 | 8 => RX8 | _ => RX9
def xtb (ci : Nat) : u_T := match ci with
  | 0 => TX0 | 1 => TX1 | 2 => TX2 | 3 => TX3 | 4 => TX4 | 5 => TX5 | 6 => TX6 | 7 => TX7 | 8 => TX8 | _ => TX9
def xnf (ci : Nat) : Nat := match ci with
  | 0 => 16 | 1 => 1 | 2 => 2 | 3 => 3 | 4 => 8 | 5 => 5 | 6 => 3 | 7 => 4 | 8 => 12 | _ => 18
theorem xin0 : ∀ w ∈ u_ws RX0 TX0 16, w ∈ lw_tbl ∧ goodWord w = true := by decide +kernel
theorem xin1 : ∀ w ∈ u_ws RX1 TX1 1, w ∈ lw_tbl ∧ goodWord w = true := by decide +kernel
theorem xin2 : ∀ w ∈ u_ws RX2 TX2 2, w ∈ lw_tbl ∧ goodWord w = true := by decide +kernel
theorem xin3 : ∀ w ∈ u_ws RX3 TX3 3, w ∈ lw_tbl ∧ goodWord w = true := by decide +kernel
theorem xin4 : ∀ w ∈ u_ws RX4 TX4 8, w ∈ lw_tbl ∧ goodWord w = true := by decide +kernel
theorem xin5 : ∀ w ∈ u_ws RX5 TX5 5, w ∈ lw_tbl ∧ goodWord w = true := by decide +kernel
theorem xin6 : ∀ w ∈ u_ws RX6 TX6 3, w ∈ lw_tbl ∧ goodWord w = true := by decide +kernel
theorem xin7 : ∀ w ∈ u_ws RX7 TX7 4, w ∈ lw_tbl ∧ goodWord w = true := by decide +kernel
theorem xin8 : ∀ w ∈ u_ws RX8 TX8 12, w ∈ lw_tbl ∧ goodWord w = true := by decide +kernel
theorem xin9 : ∀ w ∈ u_ws RX9 TX9 18, w ∈ lw_tbl ∧ goodWord w = true := by decide +kernel
theorem xcls (ci : Nat) (hc : ci < 10) : vwCl[ci]? = some (xr ci, xtb ci, xnf ci) ∧ (∀ w ∈ u_ws (xr ci) (xtb ci) (xnf ci), w ∈ xT) ∧ (∀ k, k < xnf ci → parseFieldDescriptor (xtb ci k).2.2.1 = some (xty ci k)) ∧ (∀ a, a < xnf ci → ∀ b, b < xnf ci → a ≠ b → (xtb ci a).2.1 ≠ (xtb ci b).2.1) := by
  match ci, hc with
  | 0, _ => exact ⟨rfl, fun w h => xT_mem (xin0 w h).1 (xin0 w h).2, tyX0_ok, nmX0⟩
  | 1, _ => exact ⟨rfl, fun w h => xT_mem (xin1 w h).1 (xin1 w h).2, tyX1_ok, nmX1⟩
  | 2, _ => exact ⟨rfl, fun w h => xT_mem (xin2 w h).1 (xin2 w h).2, tyX2_ok, nmX2⟩
  | 3, _ => exact ⟨rfl, fun w h => xT_mem (xin3 w h).1 (xin3 w h).2, tyX3_ok, nmX3⟩
  | 4, _ => exact ⟨rfl, fun w h => xT_mem (xin4 w h).1 (xin4 w h).2, tyX4_ok, nmX4⟩
  | 5, _ => exact ⟨rfl, fun w h => xT_mem (xin5 w h).1 (xin5 w h).2, tyX5_ok, nmX5⟩
  | 6, _ => exact ⟨rfl, fun w h => xT_mem (xin6 w h).1 (xin6 w h).2, tyX6_ok, nmX6⟩
  | 7, _ => exact ⟨rfl, fun w h => xT_mem (xin7 w h).1 (xin7 w h).2, tyX7_ok, nmX7⟩
  | 8, _ => exact ⟨rfl, fun w h => xT_mem (xin8 w h).1 (xin8 w h).2, tyX8_ok, nmX8⟩
  | 9, _ => exact ⟨rfl, fun w h => xT_mem (xin9 w h).1 (xin9 w h).2, tyX9_ok, nmX9⟩
  | n + 10, h => omega
theorem xe_obj {η : xEnv} {h : Hp} {a ci N : Nat} (hc : ci < 10) : xe η h a (ci, N) = .inr (ci, xfs η h a ci N) := by
  unfold xe
  simp only
  rw [if_neg (by omega), if_neg (by omega), if_neg (by omega), if_neg (by omega)]
theorem xfs_get {η : xEnv} {h : Hp} {a ci N j : Nat} (hj : j < N) : (xfs η h a ci N)[j]? = some (xv η h a (xty ci j) j) := by
  simp [xfs, hj]
theorem xfs_set {η : xEnv} {h h' : Hp} {a ci N j : Nat} {v : Value} (hj : xv η h' a (xty ci j) j = v) (ho : ∀ k, k ≠ j → xv η h' a (xty ci k) k = xv η h a (xty ci k) k) : (xfs η h a ci N).set j v = xfs η h' a ci N := by
  apply List.ext_getElem?
  intro k
  by_cases hk : k = j
  · subst hk
    by_cases hN : k < N
    · rw [List.getElem?_set_self (by simp [xfs, hN]), xfs_get hN, hj]
    · rw [List.getElem?_eq_none (by simp [xfs]; omega), List.getElem?_eq_none (by simp [xfs]; omega)]
  · rw [List.getElem?_set_ne (Ne.symm hk)]
    simp only [xfs, List.getElem?_map]
    cases hx : (List.range N)[k]? with
    | none => rfl
    | some y =>
      have : y = k := by
        have := List.getElem?_eq_some_iff.mp hx
        obtain ⟨h1, h2⟩ := this
        simpa using h2.symm
      subst this
      simp [ho y hk]
theorem xw_set {η : xEnv} {h h' : Hp} {a : Nat} {s : Nat × Nat} {e : va_E} (hs : h.1[a]? = some s) (hh : h'.1 = h.1) (he : xe η h' a s = e) (ho : ∀ k s', k ≠ a → xe η h' k s' = xe η h k s') : (xw η h).set a (η.1 + a, e) = xw η h' := by
  apply List.ext_getElem?
  intro k
  have hl : a < h.1.length := (List.getElem?_eq_some_iff.mp hs).1
  by_cases hk : k = a
  · subst hk
    rw [List.getElem?_set_self (by rw [xw_len]; exact hl), xw_get (h := h') (s := s) (by rw [hh]; exact hs), he]
  · rw [List.getElem?_set_ne (Ne.symm hk)]
    cases hx : h.1[k]? with
    | none =>
      rw [List.getElem?_eq_none (by rw [xw_len]; simpa [xn] using hx), List.getElem?_eq_none (by rw [xw_len]; simpa [xn, hh] using hx)]
    | some s' =>
      rw [xw_get hx, xw_get (h := h') (by rw [hh]; exact hx), ho k s' hk]
theorem xe_off {η : xEnv} {h h' : Hp} {k : Nat} {s : Nat × Nat} (hI : h'.2.1 k = h.2.1 k) (hL : h'.2.2.1 k = h.2.2.1 k) (hR : h'.2.2.2 k = h.2.2.2 k) : xe η h' k s = xe η h k s := by
  unfold xe xfs xv
  rw [hI, hL, hR]
theorem xi_of {i : Int32} {n : Nat} (h1 : 0 ≤ i.toInt) (h2 : i.toInt < n) : vp_in i n := vp_in_iff.mpr ⟨h1, h2⟩
