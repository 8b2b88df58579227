/-! the names are apart -/
theorem st_lt : ∀ j : Nat, j < 13 → ∀ i : Nat, i < j → Cond.not (Cond.eq (stK i) (stK j)) ∈ flatC (Jvm.Cond.and given_1 narrow_1) := by decide +kernel
