/-! the law's code: printed by wip/p34/gen.py -/
theorem ok_86 : ∀ x ∈ ab_c86, ab_OkE ab_mt 86 ab_m86 x := (List.forall_mem_append.mpr ⟨ok_86_0, ok_86_1⟩)
