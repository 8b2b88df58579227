/-! what the start gives: the constants, the classes; then the law from its entry -/
theorem sa_n : ∀ q ∈ saT, q.2.2.length < 2 ^ 31 := by decide
theorem sa_arr : ∀ q ∈ saT, Cond.arrayOf (.static q.1 q.2.1 "[I") .int ∈ flatC (Jvm.Cond.and given_1 narrow_1) := by decide +kernel
theorem sa_len : ∀ q ∈ saT, Cond.eq (.length (.static q.1 q.2.1 "[I")) (.int (Int32.ofNat q.2.2.length)) ∈ flatC (Jvm.Cond.and given_1 narrow_1) := by decide +kernel
theorem sa_el : ∀ q ∈ saT, ∀ j : Nat, j < q.2.2.length → Cond.eq (.elem (.static q.1 q.2.1 "[I") (.int (Int32.ofNat j))) (.int (q.2.2.getD j 0)) ∈ flatC (Jvm.Cond.and given_1 narrow_1) := by decide +kernel
theorem sa_lay : ∀ q ∈ saT, Cond.laysStatic q.1 q.2.1 "[I" ∈ lw_tbl := by decide +kernel
theorem sa_ini : ∀ q ∈ saT, Cond.initialized q.1 ∈ lw_tbl := by decide +kernel
theorem nw_m : ∀ q ∈ nwM, Cond.methodLinkNest q.1 q.2.1 q.2.2.1 q.2.2.2 ∈ lw_tbl := by decide +kernel
theorem nw_f : ∀ q ∈ nwF, Cond.fieldLinkNest q.1 q.2.1 q.2.2.1 q.2.2.2.1 q.2.2.2.2.1 q.2.2.2.2.2 ∈ lw_tbl := by decide +kernel
abbrev stK (i : Nat) : Term := .string RX3 (stT.getD i (0, "")).1
abbrev stV (i : Nat) : Term := .field (stK i) "java/lang/String" "value" "[B"
theorem st_ex : ∀ i : Nat, i < 13 → Cond.exactly (stK i) "java/lang/String" ∈ flatC (Jvm.Cond.and given_1 narrow_1) := by decide +kernel
theorem st_co : ∀ i : Nat, i < 13 → Cond.eq (.field (stK i) "java/lang/String" "coder" "B") (.int 0) ∈ flatC (Jvm.Cond.and given_1 narrow_1) := by decide +kernel
theorem st_ar : ∀ i : Nat, i < 13 → Cond.arrayOf (stV i) .byte ∈ flatC (Jvm.Cond.and given_1 narrow_1) := by decide +kernel
theorem st_le : ∀ i : Nat, i < 13 → Cond.eq (.length (stV i)) (.int (Int32.ofNat (stL.getD i 0))) ∈ flatC (Jvm.Cond.and given_1 narrow_1) := by decide +kernel
theorem st_n : ∀ i : Nat, i < 13 → stL.getD i 0 < 2 ^ 31 := by decide
theorem st_ref : ∀ q ∈ stT, Cond.stringRef RX3 q.1 q.2 ∈ lw_tbl := by decide +kernel
