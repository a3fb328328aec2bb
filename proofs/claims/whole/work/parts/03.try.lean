theorem tg_good : ∀ w ∈ tables_1, goodWord w = true ∨ k2_isCode w = true := by
  have h : tables_1.all (fun w => goodWord w || k2_isCode w) = true := by decide +kernel
  intro w hw
  have := List.all_eq_true.mp h w hw
  simpa using this
theorem tg_0 : Cond.code yX0_has cX0_has 2 (some .boolean) ∈ tables_1 := List.mem_of_getElem? (i := 300) (by decide +kernel)
