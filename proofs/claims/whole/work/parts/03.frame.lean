/-! THE FRAME: an abstract heap (kinds and sizes of the cells; what they hold by cell and place, as ints, longs, references), how the machine's heap shows it, and the judgement xJ: 'if the pure computation o answers x, the machine goes as x says'. -/
abbrev Hp : Type := List (Nat × Nat) × (Nat → Nat → Int32) × (Nat → Nat → Int64) × (Nat → Nat → Option Nat)
def xn (h : Hp) : Nat := h.1.length
def xm (h : Hp) : Nat := (h.1.map Prod.snd).sum
/-- what the claim's start fixes: the first address of ours, the classes' numbers and slots, the array classes, where the literals lie (0 .. 3; the script 100, a JDK static 101, the literals' bytes 200 ..), the script's length and ints -/
abbrev xEnv : Type := Nat × va_G × (Nat → ClassId) × (Nat → Nat) × Nat × (Nat → Int32)
def xA (η : xEnv) : Nat → Prop := fun q => η.1 ≤ q
/-- abstract values: a reference is a cell's number; a 'float' is a literal's number (the program has no floats) -/
def cv (η : xEnv) : Value → Value
  | .ref k => .ref (η.1 + k)
  | .float i => .ref (η.2.2.2.1 i.toNat)
  | v => v
def cq (η : xEnv) (q : Nat × Value) : Nat × Value := (q.1, cv η q.2)
theorem cv_cat (η : xEnv) (v : Value) : (cv η v).category = v.category := by cases v <;> rfl
def xty (ci : Nat) : Nat → FieldType := match ci with
  | 0 => tyX0
  | 1 => tyX1
  | 2 => tyX2
  | 3 => tyX3
  | 4 => tyX4
  | 5 => tyX5
  | 6 => tyX6
  | 7 => tyX7
  | 8 => tyX8
  | _ => tyX9
def xv (η : xEnv) (h : Hp) (k : Nat) (ty : FieldType) (j : Nat) : Value := match ty with
  | .long => .long (h.2.2.1 k j)
  | .object _ => va_rf ((h.2.2.2 k j).map (fun r => η.1 + r))
  | .array _ => va_rf ((h.2.2.2 k j).map (fun r => η.1 + r))
  | _ => .int (h.2.1 k j)
def xfs (η : xEnv) (h : Hp) (k : Nat) (ci N : Nat) : List Value := (List.range N).map (fun j => xv η h k (xty ci j) j)
def xe (η : xEnv) (h : Hp) (k : Nat) (s : Nat × Nat) : va_E :=
  if s.1 = 10 then .inl (η.2.2.1 0, s.2, .inl (h.2.1 k))
  else if s.1 = 11 then .inl (η.2.2.1 1, s.2, .inl (h.2.1 k))
  else if s.1 = 12 then .inl (η.2.2.1 2, s.2, .inr (.inr (.inr (.inr (fun j => (h.2.2.2 k j).map (fun r => η.1 + r))))))
  else if s.1 = 13 then .inl (η.2.2.1 3, s.2, .inr (.inr (.inr (.inr (fun j => (h.2.2.2 k j).map (fun r => η.1 + r))))))
  else .inr (s.1, xfs η h k s.1 s.2)
def xw (η : xEnv) (h : Hp) : va_W := h.1.mapIdx (fun k s => (η.1 + k, xe η h k s))
def xt (η : xEnv) : List (ClassId × FieldType) := [(η.2.2.1 0, .int), (η.2.2.1 1, .boolean), (η.2.2.1 2, .object RX0), (η.2.2.1 3, .object RX5)]
theorem xw_get {η : xEnv} {h : Hp} {k : Nat} {s : Nat × Nat} (hk : h.1[k]? = some s) : (xw η h)[k]? = some (η.1 + k, xe η h k s) := by
  simp [xw, List.getElem?_mapIdx, hk]
theorem xw_inv {η : xEnv} {h : Hp} {k : Nat} {q : Nat × va_E} (hq : (xw η h)[k]? = some q) : ∃ s, h.1[k]? = some s ∧ q = (η.1 + k, xe η h k s) := by
  simp only [xw, List.getElem?_mapIdx, Option.map_eq_some_iff] at hq
  obtain ⟨s, h1, h2⟩ := hq
  exact ⟨s, h1, h2.symm⟩
theorem xw_len (η : xEnv) (h : Hp) : (xw η h).length = xn h := by simp [xw, xn]
theorem xw_D (η : xEnv) (h : Hp) : va_D (xA η) (xw η h) := by
  refine ⟨fun i j p q hi hj e => ?_, fun k q hk => ?_⟩
  · obtain ⟨_, -, rfl⟩ := xw_inv hi
    obtain ⟨_, -, rfl⟩ := xw_inv hj
    have e' : η.1 + i = η.1 + j := e
    omega
  · obtain ⟨_, -, rfl⟩ := xw_inv hk
    exact Nat.le_add_right _ _
/-- the words that every method has: the tables' steady ones -/
def xT : List Cond := lw_tbl.filter (fun w => goodWord w)
theorem xT_mem {w : Cond} (h : w ∈ lw_tbl) (g : goodWord w = true) : w ∈ xT := List.mem_filter.mpr ⟨h, g⟩
theorem xT_of {w : Cond} (h : w ∈ tables_1) (g : goodWord w = true) : w ∈ xT := xT_mem (List.mem_append_right _ h) g
theorem xT_good {y : MethodName} {b : ByteArray} {n : Nat} {ret : Option FieldType} (h : Cond.code y b n ret ∈ xT) : GoodIn xT (Cond.code y b n ret :: xT) := by
  intro w hw
  have hx : w ∈ xT := (List.mem_cons.mp hw).elim (fun e => e ▸ h) id
  exact ⟨hx, good_of_word (List.mem_filter.mp hx).2⟩
/-- what is carried of the tables beside the steady words -/
def xnest : List Cond := lw_tbl.filter (fun w => match w with | .methodLinkNest .. => true | _ => false)
def xlit : List Nat := [3, 6, 4, 7]
def xbyt : List (List Int32) := [[98, 117, 115], [98, 114, 105, 100, 103, 101], [105, 100, 101, 97], [113, 117, 97, 114, 114, 101, 108]]
def xU (η : xEnv) (U : State) : Prop :=
  va_K η.2.1 vwCl (xt η) U ∧ (∀ w ∈ xnest, va_Nw w U) ∧ (va_AO RX5 U ∧ va_AO RX0 U) ∧
  (vk_R RX4 35 "bus" (η.2.2.2.1 0) U ∧ vk_R RX4 54 "bridge" (η.2.2.2.1 1) U ∧ vk_R RX4 59 "idea" (η.2.2.2.1 2) U ∧ vk_R RX4 64 "quarrel" (η.2.2.2.1 3) U) ∧
  vk_S 4 xlit xbyt η.2.2.2.1 (fun i => η.2.2.2.1 (200 + i)) (xA η) U U.heap ∧
  (va_X (η.2.2.2.1 100) η.2.2.2.2.1 η.2.2.2.2.2 U U.heap ∧ η.2.2.2.1 100 < U.heap.size ∧ ¬ xA η (η.2.2.2.1 100)) ∧
  va_Z "java/lang/String" "COMPACT_STRINGS" "Z" (.int 1) (xA η) U U.heap ∧
  (va_Z "jdk/internal/util/Preconditions" "SIOOBE_FORMATTER" "Ljava/util/function/BiFunction;" .null (xA η) U U.heap ∨ va_Z "jdk/internal/util/Preconditions" "SIOOBE_FORMATTER" "Ljava/util/function/BiFunction;" (.ref (η.2.2.2.1 101)) (xA η) U U.heap)
