/-! the letters of the names -/
theorem st_el : ∀ i : Nat, i < 13 → ∀ j : Nat, j < stL.getD i 0 → Cond.eq (.elem (stV i) (.int (Int32.ofNat j))) (.int ((stB.getD i []).getD j 0)) ∈ flatC (Jvm.Cond.and given_1 narrow_1) := by decide +kernel
