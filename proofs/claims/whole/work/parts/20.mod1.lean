def okS (s : Nat → Int32) : Prop := 0 ≤ (s 0).toInt ∧ (s 0).toInt ≤ 8 ∧ ∀ k : Nat, (k : Int) < (s 0).toInt → ¬ s (10 + 5 * k + 1) = 0
theorem its_toInt {o w : Int32} (h0 : 0 ≤ o.toInt) (h : o.toInt < 8) (w0 : 0 ≤ w.toInt) (w4 : w.toInt ≤ 4) : ((10 : Int32) + (5 : Int32) * o + w).toInt = 10 + 5 * o.toInt + w.toInt := by
  have e5 : (5 : Int32).toInt = 5 := rfl
  have e10 : (10 : Int32).toInt = 10 := rfl
  have m1 : ((5 : Int32) * o).toInt = 5 * o.toInt := i32_mulE (a := 5) (b := o) (by rw [e5]; omega) (by rw [e5]; omega)
  have m2 : ((10 : Int32) + (5 : Int32) * o).toInt = 10 + ((5 : Int32) * o).toInt := i32_addE (a := 10) (b := (5 : Int32) * o) (by omega) (by omega)
  have m3 : ((10 : Int32) + (5 : Int32) * o + w).toInt = ((10 : Int32) + (5 : Int32) * o).toInt + w.toInt := i32_addE (a := (10 : Int32) + (5 : Int32) * o) (b := w) (by omega) (by omega)
  omega
theorem its_toInt0 {o : Int32} (h0 : 0 ≤ o.toInt) (h : o.toInt < 8) : ((10 : Int32) + (5 : Int32) * o).toInt = 10 + 5 * o.toInt := by
  have e5 : (5 : Int32).toInt = 5 := rfl
  have e10 : (10 : Int32).toInt = 10 := rfl
  have m1 : ((5 : Int32) * o).toInt = 5 * o.toInt := i32_mulE (a := 5) (b := o) (by rw [e5]; omega) (by rw [e5]; omega)
  have m2 : ((10 : Int32) + (5 : Int32) * o).toInt = 10 + ((5 : Int32) * o).toInt := i32_addE (a := 10) (b := (5 : Int32) * o) (by omega) (by omega)
  omega
theorem its_in {o w : Int32} (h : vp_in o 8) (hw : 0 ≤ w.toInt ∧ w.toInt ≤ 4) : vp_in ((10 : Int32) + (5 : Int32) * o + w) 50 := by
  rw [vp_in_iff] at h
  have e := its_toInt (o := o) (w := w) h.1 (by omega) hw.1 hw.2
  exact vpI (by omega) (by omega)
theorem its_in0 {o : Int32} (h : vp_in o 8) : vp_in ((10 : Int32) + (5 : Int32) * o) 50 := by
  rw [vp_in_iff] at h
  have e := its_toInt0 (o := o) h.1 (by omega)
  exact vpI (by omega) (by omega)
theorem its_ix {o w : Int32} (h0 : 0 ≤ o.toInt) (h : o.toInt < 8) (w0 : 0 ≤ w.toInt) (w4 : w.toInt ≤ 4) : ((10 : Int32) + (5 : Int32) * o + w).toNatClampNeg = 10 + 5 * o.toNatClampNeg + w.toNatClampNeg := by
  have e := its_toInt (o := o) (w := w) h0 h w0 w4
  show ((10 : Int32) + (5 : Int32) * o + w).toInt.toNat = 10 + 5 * o.toInt.toNat + w.toInt.toNat
  omega

-- X6_isIn
def f_X6_isIn (x0 : Int64) (x2 : Int64) (x4 : Int64) : Int32 := if ((lg_cmp x0 x2) < 0) then (0 : Int32) else (if (0 < (lg_cmp x0 x4)) then (0 : Int32) else (1 : Int32))
theorem qd_X6_isIn : yX6_isIn.cls ≠ "java/lang/invoke/MethodHandle" ∧ yX6_isIn.cls ≠ "java/lang/invoke/VarHandle" ∧ (parseMethodDescriptor yX6_isIn.desc).map (fun d => d.parameters.length) = some 3 := by decide +kernel
abbrev rmX6_isIn : Room := { frames := 0, cells := 0, slots := 0, locals := 0 }
set_option maxHeartbeats 4000000 in
set_option maxRecDepth 100000 in
theorem c_X6_isIn (τ : SX) (x0 : Int64) (x2 : Int64) (x4 : Int64) (sz : Nat) : McI τ yX6_isIn wsX6_isIn rmX6_isIn .boolean [.long x0, .long x2, .long x4] [] (fun _ : Unit => []) (f_X6_isIn x0 x2 x4, ()) sz := by
  refine mc_I (cc := cX6_isIn) (own := RX6) [(0, .long x0), (2, .long x2), (4, .long x4)] rfl (by decide) rfl rfl (Nat.le_of_ble_eq_true rfl) (fun κ C hR => ?_)
  unfold f_X6_isIn at hR
  refine j_lload_n C dX6_isIn_0 1 rfl rfl 0 rfl ?_
  refine j_lload_n C dX6_isIn_1 2 rfl rfl 1 rfl ?_
  refine j_lcmp C dX6_isIn_2 3 rfl ?_
  refine j_if_lt C dX6_isIn_3 17 rfl 6 rfl (fun c1 => ?_) (fun c1 => ?_)
  · rw [if_pos c1] at hR
    refine j_iconst (v := 0) C dX6_isIn_17 18 rfl (by decide) ?_
    exact Rt.ret (hR) (show narrow .boolean (.int (0 : Int32)) = .int (0 : Int32) from rfl) dX6_isIn_18
  · rw [if_neg c1] at hR
    refine j_lload_n C dX6_isIn_6 7 rfl rfl 0 rfl ?_
    refine j_lload C dX6_isIn_7 9 rfl 2 rfl ?_
    refine j_lcmp C dX6_isIn_9 10 rfl ?_
    refine j_if_gt C dX6_isIn_10 17 rfl 13 rfl (fun c2 => ?_) (fun c2 => ?_)
    · rw [if_pos c2] at hR
      refine j_iconst (v := 0) C dX6_isIn_17 18 rfl (by decide) ?_
      exact Rt.ret (hR) (show narrow .boolean (.int (0 : Int32)) = .int (0 : Int32) from rfl) dX6_isIn_18
    · rw [if_neg c2] at hR
      refine j_iconst (v := 1) C dX6_isIn_13 14 rfl (by decide) ?_
      refine j_goto C dX6_isIn_14 18 rfl ?_
      exact Rt.ret (hR) (show narrow .boolean (.int (1 : Int32)) = .int (1 : Int32) from rfl) dX6_isIn_18

-- X6_isCorner
def f_X6_isCorner (x0 : Int32) : Int32 := if (x0 < 0) then (0 : Int32) else (if (12 ≤ x0) then (0 : Int32) else (1 : Int32))
theorem qd_X6_isCorner : yX6_isCorner.cls ≠ "java/lang/invoke/MethodHandle" ∧ yX6_isCorner.cls ≠ "java/lang/invoke/VarHandle" ∧ (parseMethodDescriptor yX6_isCorner.desc).map (fun d => d.parameters.length) = some 1 := by decide +kernel
abbrev rmX6_isCorner : Room := { frames := 0, cells := 0, slots := 0, locals := 0 }
set_option maxHeartbeats 4000000 in
set_option maxRecDepth 100000 in
theorem c_X6_isCorner (τ : SX) (x0 : Int32) (sz : Nat) : McI τ yX6_isCorner wsX6_isCorner rmX6_isCorner .boolean [.int x0] [] (fun _ : Unit => []) (f_X6_isCorner x0, ()) sz := by
  refine mc_I (cc := cX6_isCorner) (own := RX6) [(0, .int x0)] rfl (by decide) rfl rfl (Nat.le_of_ble_eq_true rfl) (fun κ C hR => ?_)
  unfold f_X6_isCorner at hR
  refine j_iload_n C dX6_isCorner_0 1 rfl rfl 0 rfl ?_
  refine j_if_lt C dX6_isCorner_1 14 rfl 4 rfl (fun c1 => ?_) (fun c1 => ?_)
  · rw [if_pos c1] at hR
    refine j_iconst (v := 0) C dX6_isCorner_14 15 rfl (by decide) ?_
    exact Rt.ret (hR) (show narrow .boolean (.int (0 : Int32)) = .int (0 : Int32) from rfl) dX6_isCorner_15
  · rw [if_neg c1] at hR
    refine j_iload_n C dX6_isCorner_4 5 rfl rfl 0 rfl ?_
    refine j_bipush (v := 12) C dX6_isCorner_5 7 rfl (by decide) ?_
    refine j_icmp_ge C dX6_isCorner_7 14 rfl 10 rfl (fun c2 => ?_) (fun c2 => ?_)
    · rw [if_pos c2] at hR
      refine j_iconst (v := 0) C dX6_isCorner_14 15 rfl (by decide) ?_
      exact Rt.ret (hR) (show narrow .boolean (.int (0 : Int32)) = .int (0 : Int32) from rfl) dX6_isCorner_15
    · rw [if_neg c2] at hR
      refine j_iconst (v := 1) C dX6_isCorner_10 11 rfl (by decide) ?_
      refine j_goto C dX6_isCorner_11 15 rfl ?_
      exact Rt.ret (hR) (show narrow .boolean (.int (1 : Int32)) = .int (1 : Int32) from rfl) dX6_isCorner_15

-- X6_least
def f_X6_least (x0 : Int32) (x1 : Int32) : Int32 := if (x1 ≤ x0) then x1 else x0
theorem qd_X6_least : yX6_least.cls ≠ "java/lang/invoke/MethodHandle" ∧ yX6_least.cls ≠ "java/lang/invoke/VarHandle" ∧ (parseMethodDescriptor yX6_least.desc).map (fun d => d.parameters.length) = some 2 := by decide +kernel
abbrev rmX6_least : Room := { frames := 0, cells := 0, slots := 0, locals := 0 }
set_option maxHeartbeats 4000000 in
set_option maxRecDepth 100000 in
theorem c_X6_least (τ : SX) (x0 : Int32) (x1 : Int32) (sz : Nat) : McI τ yX6_least wsX6_least rmX6_least .int [.int x0, .int x1] [] (fun _ : Unit => []) (f_X6_least x0 x1, ()) sz := by
  refine mc_I (cc := cX6_least) (own := RX6) [(0, .int x0), (1, .int x1)] rfl (by decide) rfl rfl (Nat.le_of_ble_eq_true rfl) (fun κ C hR => ?_)
  unfold f_X6_least at hR
  refine j_iload_n C dX6_least_0 1 rfl rfl 0 rfl ?_
  refine j_iload_n C dX6_least_1 2 rfl rfl 1 rfl ?_
  refine j_icmp_ge C dX6_least_2 9 rfl 5 rfl (fun c1 => ?_) (fun c1 => ?_)
  · rw [if_pos c1] at hR
    refine j_iload_n C dX6_least_9 10 rfl rfl 1 rfl ?_
    exact Rt.ret (hR) rfl dX6_least_10
  · rw [if_neg c1] at hR
    refine j_iload_n C dX6_least_5 6 rfl rfl 0 rfl ?_
    refine j_goto C dX6_least_6 10 rfl ?_
    exact Rt.ret (hR) rfl dX6_least_10

-- X6_greatest
def f_X6_greatest (x0 : Int32) (x1 : Int32) : Int32 := if (x0 ≤ x1) then x1 else x0
theorem qd_X6_greatest : yX6_greatest.cls ≠ "java/lang/invoke/MethodHandle" ∧ yX6_greatest.cls ≠ "java/lang/invoke/VarHandle" ∧ (parseMethodDescriptor yX6_greatest.desc).map (fun d => d.parameters.length) = some 2 := by decide +kernel
abbrev rmX6_greatest : Room := { frames := 0, cells := 0, slots := 0, locals := 0 }
set_option maxHeartbeats 4000000 in
set_option maxRecDepth 100000 in
theorem c_X6_greatest (τ : SX) (x0 : Int32) (x1 : Int32) (sz : Nat) : McI τ yX6_greatest wsX6_greatest rmX6_greatest .int [.int x0, .int x1] [] (fun _ : Unit => []) (f_X6_greatest x0 x1, ()) sz := by
  refine mc_I (cc := cX6_greatest) (own := RX6) [(0, .int x0), (1, .int x1)] rfl (by decide) rfl rfl (Nat.le_of_ble_eq_true rfl) (fun κ C hR => ?_)
  unfold f_X6_greatest at hR
  refine j_iload_n C dX6_greatest_0 1 rfl rfl 0 rfl ?_
  refine j_iload_n C dX6_greatest_1 2 rfl rfl 1 rfl ?_
  refine j_icmp_le C dX6_greatest_2 9 rfl 5 rfl (fun c1 => ?_) (fun c1 => ?_)
  · rw [if_pos c1] at hR
    refine j_iload_n C dX6_greatest_9 10 rfl rfl 1 rfl ?_
    exact Rt.ret (hR) rfl dX6_greatest_10
  · rw [if_neg c1] at hR
    refine j_iload_n C dX6_greatest_5 6 rfl rfl 0 rfl ?_
    refine j_goto C dX6_greatest_6 10 rfl ?_
    exact Rt.ret (hR) rfl dX6_greatest_10

-- X6_within
def f_X6_within (x0 : Int32) : Int32 := if (0 ≤ x0) then (if (x0 ≤ 8) then x0 else (8 : Int32)) else (0 : Int32)
theorem qd_X6_within : yX6_within.cls ≠ "java/lang/invoke/MethodHandle" ∧ yX6_within.cls ≠ "java/lang/invoke/VarHandle" ∧ (parseMethodDescriptor yX6_within.desc).map (fun d => d.parameters.length) = some 1 := by decide +kernel
abbrev rmX6_within : Room := { frames := 0, cells := 0, slots := 0, locals := 0 }
set_option maxHeartbeats 4000000 in
set_option maxRecDepth 100000 in
theorem c_X6_within (τ : SX) (x0 : Int32) (sz : Nat) : McI τ yX6_within wsX6_within rmX6_within .int [.int x0] [] (fun _ : Unit => []) (f_X6_within x0, ()) sz := by
  refine mc_I (cc := cX6_within) (own := RX6) [(0, .int x0)] rfl (by decide) rfl rfl (Nat.le_of_ble_eq_true rfl) (fun κ C hR => ?_)
  unfold f_X6_within at hR
  refine j_iload_n C dX6_within_0 1 rfl rfl 0 rfl ?_
  refine j_if_ge C dX6_within_1 8 rfl 4 rfl (fun c1 => ?_) (fun c1 => ?_)
  · rw [if_pos c1] at hR
    refine j_iload_n C dX6_within_8 9 rfl rfl 0 rfl ?_
    refine j_bipush (v := 8) C dX6_within_9 11 rfl (by decide) ?_
    refine j_icmp_le C dX6_within_11 19 rfl 14 rfl (fun c2 => ?_) (fun c2 => ?_)
    · rw [if_pos c2] at hR
      refine j_iload_n C dX6_within_19 20 rfl rfl 0 rfl ?_
      exact Rt.ret (hR) rfl dX6_within_20
    · rw [if_neg c2] at hR
      refine j_bipush (v := 8) C dX6_within_14 16 rfl (by decide) ?_
      refine j_goto C dX6_within_16 20 rfl ?_
      exact Rt.ret (hR) rfl dX6_within_20
  · rw [if_neg c1] at hR
    refine j_iconst (v := 0) C dX6_within_4 5 rfl (by decide) ?_
    refine j_goto C dX6_within_5 20 rfl ?_
    exact Rt.ret (hR) rfl dX6_within_20

-- X6_isUnder
def f_X6_isUnder (x0 : Int32) (x1 : Int32) : Int32 := if (x1 = 0) then (1 : Int32) else (if (x0 = x1) then (1 : Int32) else (if (x1 = 1) then (if (x0 = 3) then (1 : Int32) else (if (x1 = 2) then (if (x0 = 4) then (1 : Int32) else (0 : Int32)) else (0 : Int32))) else (if (x1 = 2) then (if (x0 = 4) then (1 : Int32) else (0 : Int32)) else (0 : Int32))))
theorem qd_X6_isUnder : yX6_isUnder.cls ≠ "java/lang/invoke/MethodHandle" ∧ yX6_isUnder.cls ≠ "java/lang/invoke/VarHandle" ∧ (parseMethodDescriptor yX6_isUnder.desc).map (fun d => d.parameters.length) = some 2 := by decide +kernel
abbrev rmX6_isUnder : Room := { frames := 0, cells := 0, slots := 0, locals := 0 }
set_option maxHeartbeats 4000000 in
set_option maxRecDepth 100000 in
theorem c_X6_isUnder (τ : SX) (x0 : Int32) (x1 : Int32) (sz : Nat) : McI τ yX6_isUnder wsX6_isUnder rmX6_isUnder .boolean [.int x0, .int x1] [] (fun _ : Unit => []) (f_X6_isUnder x0 x1, ()) sz := by
  refine mc_I (cc := cX6_isUnder) (own := RX6) [(0, .int x0), (1, .int x1)] rfl (by decide) rfl rfl (Nat.le_of_ble_eq_true rfl) (fun κ C hR => ?_)
  unfold f_X6_isUnder at hR
  refine j_iload_n C dX6_isUnder_0 1 rfl rfl 1 rfl ?_
  refine j_if_eq C dX6_isUnder_1 29 rfl 4 rfl (fun c1 => ?_) (fun c1 => ?_)
  · rw [if_pos c1] at hR
    refine j_iconst (v := 1) C dX6_isUnder_29 30 rfl (by decide) ?_
    refine j_goto C dX6_isUnder_30 34 rfl ?_
    exact Rt.ret (hR) (show narrow .boolean (.int (1 : Int32)) = .int (1 : Int32) from rfl) dX6_isUnder_34
  · rw [if_neg c1] at hR
    refine j_iload_n C dX6_isUnder_4 5 rfl rfl 0 rfl ?_
    refine j_iload_n C dX6_isUnder_5 6 rfl rfl 1 rfl ?_
    refine j_icmp_eq C dX6_isUnder_6 29 rfl 9 rfl (fun c2 => ?_) (fun c2 => ?_)
    · rw [if_pos c2] at hR
      refine j_iconst (v := 1) C dX6_isUnder_29 30 rfl (by decide) ?_
      refine j_goto C dX6_isUnder_30 34 rfl ?_
      exact Rt.ret (hR) (show narrow .boolean (.int (1 : Int32)) = .int (1 : Int32) from rfl) dX6_isUnder_34
    · rw [if_neg c2] at hR
      refine j_iload_n C dX6_isUnder_9 10 rfl rfl 1 rfl ?_
      refine j_iconst (v := 1) C dX6_isUnder_10 11 rfl (by decide) ?_
      refine j_icmp_ne C dX6_isUnder_11 19 rfl 14 rfl (fun c3 => ?_) (fun c3 => ?_)
      · rw [if_neg c3] at hR
        refine j_iload_n C dX6_isUnder_19 20 rfl rfl 1 rfl ?_
        refine j_iconst (v := 2) C dX6_isUnder_20 21 rfl (by decide) ?_
        refine j_icmp_ne C dX6_isUnder_21 33 rfl 24 rfl (fun c7 => ?_) (fun c7 => ?_)
        · rw [if_neg c7] at hR
          refine j_iconst (v := 0) C dX6_isUnder_33 34 rfl (by decide) ?_
          exact Rt.ret (hR) (show narrow .boolean (.int (0 : Int32)) = .int (0 : Int32) from rfl) dX6_isUnder_34
        · rw [if_pos c7] at hR
          refine j_iload_n C dX6_isUnder_24 25 rfl rfl 0 rfl ?_
          refine j_iconst (v := 4) C dX6_isUnder_25 26 rfl (by decide) ?_
          refine j_icmp_ne C dX6_isUnder_26 33 rfl 29 rfl (fun c8 => ?_) (fun c8 => ?_)
          · rw [if_neg c8] at hR
            refine j_iconst (v := 0) C dX6_isUnder_33 34 rfl (by decide) ?_
            exact Rt.ret (hR) (show narrow .boolean (.int (0 : Int32)) = .int (0 : Int32) from rfl) dX6_isUnder_34
          · rw [if_pos c8] at hR
            refine j_iconst (v := 1) C dX6_isUnder_29 30 rfl (by decide) ?_
            refine j_goto C dX6_isUnder_30 34 rfl ?_
            exact Rt.ret (hR) (show narrow .boolean (.int (1 : Int32)) = .int (1 : Int32) from rfl) dX6_isUnder_34
      · rw [if_pos c3] at hR
        refine j_iload_n C dX6_isUnder_14 15 rfl rfl 0 rfl ?_
        refine j_iconst (v := 3) C dX6_isUnder_15 16 rfl (by decide) ?_
        refine j_icmp_eq C dX6_isUnder_16 29 rfl 19 rfl (fun c4 => ?_) (fun c4 => ?_)
        · rw [if_pos c4] at hR
          refine j_iconst (v := 1) C dX6_isUnder_29 30 rfl (by decide) ?_
          refine j_goto C dX6_isUnder_30 34 rfl ?_
          exact Rt.ret (hR) (show narrow .boolean (.int (1 : Int32)) = .int (1 : Int32) from rfl) dX6_isUnder_34
        · rw [if_neg c4] at hR
          refine j_iload_n C dX6_isUnder_19 20 rfl rfl 1 rfl ?_
          refine j_iconst (v := 2) C dX6_isUnder_20 21 rfl (by decide) ?_
          refine j_icmp_ne C dX6_isUnder_21 33 rfl 24 rfl (fun c5 => ?_) (fun c5 => ?_)
          · rw [if_neg c5] at hR
            refine j_iconst (v := 0) C dX6_isUnder_33 34 rfl (by decide) ?_
            exact Rt.ret (hR) (show narrow .boolean (.int (0 : Int32)) = .int (0 : Int32) from rfl) dX6_isUnder_34
          · rw [if_pos c5] at hR
            refine j_iload_n C dX6_isUnder_24 25 rfl rfl 0 rfl ?_
            refine j_iconst (v := 4) C dX6_isUnder_25 26 rfl (by decide) ?_
            refine j_icmp_ne C dX6_isUnder_26 33 rfl 29 rfl (fun c6 => ?_) (fun c6 => ?_)
            · rw [if_neg c6] at hR
              refine j_iconst (v := 0) C dX6_isUnder_33 34 rfl (by decide) ?_
              exact Rt.ret (hR) (show narrow .boolean (.int (0 : Int32)) = .int (0 : Int32) from rfl) dX6_isUnder_34
            · rw [if_pos c6] at hR
              refine j_iconst (v := 1) C dX6_isUnder_29 30 rfl (by decide) ?_
              refine j_goto C dX6_isUnder_30 34 rfl ?_
              exact Rt.ret (hR) (show narrow .boolean (.int (1 : Int32)) = .int (1 : Int32) from rfl) dX6_isUnder_34

-- X6_isAlpha
def f_X6_isAlpha (x0 : Int32) : Int32 := if (x0 < 97) then (0 : Int32) else (if (122 < x0) then (0 : Int32) else (1 : Int32))
theorem qd_X6_isAlpha : yX6_isAlpha.cls ≠ "java/lang/invoke/MethodHandle" ∧ yX6_isAlpha.cls ≠ "java/lang/invoke/VarHandle" ∧ (parseMethodDescriptor yX6_isAlpha.desc).map (fun d => d.parameters.length) = some 1 := by decide +kernel
abbrev rmX6_isAlpha : Room := { frames := 0, cells := 0, slots := 0, locals := 0 }
set_option maxHeartbeats 4000000 in
set_option maxRecDepth 100000 in
theorem c_X6_isAlpha (τ : SX) (x0 : Int32) (sz : Nat) : McI τ yX6_isAlpha wsX6_isAlpha rmX6_isAlpha .boolean [.int x0] [] (fun _ : Unit => []) (f_X6_isAlpha x0, ()) sz := by
  refine mc_I (cc := cX6_isAlpha) (own := RX6) [(0, .int x0)] rfl (by decide) rfl rfl (Nat.le_of_ble_eq_true rfl) (fun κ C hR => ?_)
  unfold f_X6_isAlpha at hR
  refine j_iload_n C dX6_isAlpha_0 1 rfl rfl 0 rfl ?_
  refine j_bipush (v := 97) C dX6_isAlpha_1 3 rfl (by decide) ?_
  refine j_icmp_lt C dX6_isAlpha_3 16 rfl 6 rfl (fun c1 => ?_) (fun c1 => ?_)
  · rw [if_pos c1] at hR
    refine j_iconst (v := 0) C dX6_isAlpha_16 17 rfl (by decide) ?_
    exact Rt.ret (hR) (show narrow .boolean (.int (0 : Int32)) = .int (0 : Int32) from rfl) dX6_isAlpha_17
  · rw [if_neg c1] at hR
    refine j_iload_n C dX6_isAlpha_6 7 rfl rfl 0 rfl ?_
    refine j_bipush (v := 122) C dX6_isAlpha_7 9 rfl (by decide) ?_
    refine j_icmp_gt C dX6_isAlpha_9 16 rfl 12 rfl (fun c2 => ?_) (fun c2 => ?_)
    · rw [if_pos c2] at hR
      refine j_iconst (v := 0) C dX6_isAlpha_16 17 rfl (by decide) ?_
      exact Rt.ret (hR) (show narrow .boolean (.int (0 : Int32)) = .int (0 : Int32) from rfl) dX6_isAlpha_17
    · rw [if_neg c2] at hR
      refine j_iconst (v := 1) C dX6_isAlpha_12 13 rfl (by decide) ?_
      refine j_goto C dX6_isAlpha_13 17 rfl ?_
      exact Rt.ret (hR) (show narrow .boolean (.int (1 : Int32)) = .int (1 : Int32) from rfl) dX6_isAlpha_17

-- X6_isDigit
def f_X6_isDigit (x0 : Int32) : Int32 := if (x0 < 48) then (0 : Int32) else (if (57 < x0) then (0 : Int32) else (1 : Int32))
theorem qd_X6_isDigit : yX6_isDigit.cls ≠ "java/lang/invoke/MethodHandle" ∧ yX6_isDigit.cls ≠ "java/lang/invoke/VarHandle" ∧ (parseMethodDescriptor yX6_isDigit.desc).map (fun d => d.parameters.length) = some 1 := by decide +kernel
abbrev rmX6_isDigit : Room := { frames := 0, cells := 0, slots := 0, locals := 0 }
set_option maxHeartbeats 4000000 in
set_option maxRecDepth 100000 in
theorem c_X6_isDigit (τ : SX) (x0 : Int32) (sz : Nat) : McI τ yX6_isDigit wsX6_isDigit rmX6_isDigit .boolean [.int x0] [] (fun _ : Unit => []) (f_X6_isDigit x0, ()) sz := by
  refine mc_I (cc := cX6_isDigit) (own := RX6) [(0, .int x0)] rfl (by decide) rfl rfl (Nat.le_of_ble_eq_true rfl) (fun κ C hR => ?_)
  unfold f_X6_isDigit at hR
  refine j_iload_n C dX6_isDigit_0 1 rfl rfl 0 rfl ?_
  refine j_bipush (v := 48) C dX6_isDigit_1 3 rfl (by decide) ?_
  refine j_icmp_lt C dX6_isDigit_3 16 rfl 6 rfl (fun c1 => ?_) (fun c1 => ?_)
  · rw [if_pos c1] at hR
    refine j_iconst (v := 0) C dX6_isDigit_16 17 rfl (by decide) ?_
    exact Rt.ret (hR) (show narrow .boolean (.int (0 : Int32)) = .int (0 : Int32) from rfl) dX6_isDigit_17
  · rw [if_neg c1] at hR
    refine j_iload_n C dX6_isDigit_6 7 rfl rfl 0 rfl ?_
    refine j_bipush (v := 57) C dX6_isDigit_7 9 rfl (by decide) ?_
    refine j_icmp_gt C dX6_isDigit_9 16 rfl 12 rfl (fun c2 => ?_) (fun c2 => ?_)
    · rw [if_pos c2] at hR
      refine j_iconst (v := 0) C dX6_isDigit_16 17 rfl (by decide) ?_
      exact Rt.ret (hR) (show narrow .boolean (.int (0 : Int32)) = .int (0 : Int32) from rfl) dX6_isDigit_17
    · rw [if_neg c2] at hR
      refine j_iconst (v := 1) C dX6_isDigit_12 13 rfl (by decide) ?_
      refine j_goto C dX6_isDigit_13 17 rfl ?_
      exact Rt.ret (hR) (show narrow .boolean (.int (1 : Int32)) = .int (1 : Int32) from rfl) dX6_isDigit_17

-- X6_isLong
def f_X6_isLong (x0 : Int32) : Int32 := (f_X6_isIn ((x0 : Int32).toInt64) (1 : Int64) (60 : Int64))
theorem kX6_isLong_c201 : Cond.constantLong RX6 201 60 ∈ wsX6_isLong := by decide +kernel
theorem kX6_isLong_iRX6 : Cond.initialized yX6_isIn.cls ∈ wsX6_isLong := by decide +kernel
theorem kX6_isLong_sX6_isIn : Cond.static yX6_isIn ∈ wsX6_isLong := by decide +kernel
theorem kX6_isLong_m57 : Cond.methodLink RX6 57 yX6_isIn ∈ wsX6_isLong := by decide +kernel
theorem qd_X6_isLong : yX6_isLong.cls ≠ "java/lang/invoke/MethodHandle" ∧ yX6_isLong.cls ≠ "java/lang/invoke/VarHandle" ∧ (parseMethodDescriptor yX6_isLong.desc).map (fun d => d.parameters.length) = some 1 := by decide +kernel
abbrev rmX6_isLong : Room := { frames := 1, cells := 0, slots := 0, locals := 25 }
set_option maxHeartbeats 4000000 in
set_option maxRecDepth 100000 in
theorem c_X6_isLong (τ : SX) (x0 : Int32) (sz : Nat) : McI τ yX6_isLong wsX6_isLong rmX6_isLong .boolean [.int x0] [] (fun _ : Unit => []) (f_X6_isLong x0, ()) sz := by
  refine mc_I (cc := cX6_isLong) (own := RX6) [(0, .int x0)] rfl (by decide) rfl rfl (Nat.le_of_ble_eq_true rfl) (fun κ C hR => ?_)
  unfold f_X6_isLong at hR
  refine j_iload_n C dX6_isLong_0 1 rfl rfl 0 rfl ?_
  refine j_i2l C dX6_isLong_1 2 rfl ?_
  refine j_lconst (v := 1) C dX6_isLong_2 3 rfl (by decide) ?_
  refine j_ldc2 C dX6_isLong_3 6 rfl kX6_isLong_c201 ?_
  refine j_cs0I (na := 3) C dX6_isLong_6 9 rfl (c_X6_isIn τ  ((x0 : Int32).toInt64) (1 : Int64) (60 : Int64) ) rfl ggX6_isLong_X6_isIn rfl rfl rfl kX6_isLong_iRX6 kX6_isLong_m57 kX6_isLong_sX6_isIn qd_X6_isIn rfl ⟨by decide, by decide⟩ ⟨by decide, by decide⟩ rfl (Nat.le_of_ble_eq_true rfl) (fun r1 u1 hX1 hn1 => ?_)
  obtain rfl := (Prod.mk.inj hX1).1
  exact Rt.ret (hR) (by assumption) dX6_isLong_9

-- X6_isShort
def f_X6_isShort (x0 : Int32) : Int32 := (f_X6_isIn ((x0 : Int32).toInt64) (1 : Int64) (30 : Int64))
theorem kX6_isShort_c211 : Cond.constantLong RX6 211 30 ∈ wsX6_isShort := by decide +kernel
theorem kX6_isShort_iRX6 : Cond.initialized yX6_isIn.cls ∈ wsX6_isShort := by decide +kernel
theorem kX6_isShort_sX6_isIn : Cond.static yX6_isIn ∈ wsX6_isShort := by decide +kernel
theorem kX6_isShort_m57 : Cond.methodLink RX6 57 yX6_isIn ∈ wsX6_isShort := by decide +kernel
theorem qd_X6_isShort : yX6_isShort.cls ≠ "java/lang/invoke/MethodHandle" ∧ yX6_isShort.cls ≠ "java/lang/invoke/VarHandle" ∧ (parseMethodDescriptor yX6_isShort.desc).map (fun d => d.parameters.length) = some 1 := by decide +kernel
abbrev rmX6_isShort : Room := { frames := 1, cells := 0, slots := 0, locals := 25 }
set_option maxHeartbeats 4000000 in
set_option maxRecDepth 100000 in
theorem c_X6_isShort (τ : SX) (x0 : Int32) (sz : Nat) : McI τ yX6_isShort wsX6_isShort rmX6_isShort .boolean [.int x0] [] (fun _ : Unit => []) (f_X6_isShort x0, ()) sz := by
  refine mc_I (cc := cX6_isShort) (own := RX6) [(0, .int x0)] rfl (by decide) rfl rfl (Nat.le_of_ble_eq_true rfl) (fun κ C hR => ?_)
  unfold f_X6_isShort at hR
  refine j_iload_n C dX6_isShort_0 1 rfl rfl 0 rfl ?_
  refine j_i2l C dX6_isShort_1 2 rfl ?_
  refine j_lconst (v := 1) C dX6_isShort_2 3 rfl (by decide) ?_
  refine j_ldc2 C dX6_isShort_3 6 rfl kX6_isShort_c211 ?_
  refine j_cs0I (na := 3) C dX6_isShort_6 9 rfl (c_X6_isIn τ  ((x0 : Int32).toInt64) (1 : Int64) (30 : Int64) ) rfl ggX6_isShort_X6_isIn rfl rfl rfl kX6_isShort_iRX6 kX6_isShort_m57 kX6_isShort_sX6_isIn qd_X6_isIn rfl ⟨by decide, by decide⟩ ⟨by decide, by decide⟩ rfl (Nat.le_of_ble_eq_true rfl) (fun r1 u1 hX1 hn1 => ?_)
  obtain rfl := (Prod.mk.inj hX1).1
  exact Rt.ret (hR) (by assumption) dX6_isShort_9

-- X6_isSheet
def f_X6_isSheet (x0 : Int32) : Int32 := (f_X6_isIn ((x0 : Int32).toInt64) (0 : Int64) (3 : Int64))
theorem kX6_isSheet_c148 : Cond.constantLong RX6 148 3 ∈ wsX6_isSheet := by decide +kernel
theorem kX6_isSheet_iRX6 : Cond.initialized yX6_isIn.cls ∈ wsX6_isSheet := by decide +kernel
theorem kX6_isSheet_sX6_isIn : Cond.static yX6_isIn ∈ wsX6_isSheet := by decide +kernel
theorem kX6_isSheet_m57 : Cond.methodLink RX6 57 yX6_isIn ∈ wsX6_isSheet := by decide +kernel
theorem qd_X6_isSheet : yX6_isSheet.cls ≠ "java/lang/invoke/MethodHandle" ∧ yX6_isSheet.cls ≠ "java/lang/invoke/VarHandle" ∧ (parseMethodDescriptor yX6_isSheet.desc).map (fun d => d.parameters.length) = some 1 := by decide +kernel
abbrev rmX6_isSheet : Room := { frames := 1, cells := 0, slots := 0, locals := 25 }
set_option maxHeartbeats 4000000 in
set_option maxRecDepth 100000 in
theorem c_X6_isSheet (τ : SX) (x0 : Int32) (sz : Nat) : McI τ yX6_isSheet wsX6_isSheet rmX6_isSheet .boolean [.int x0] [] (fun _ : Unit => []) (f_X6_isSheet x0, ()) sz := by
  refine mc_I (cc := cX6_isSheet) (own := RX6) [(0, .int x0)] rfl (by decide) rfl rfl (Nat.le_of_ble_eq_true rfl) (fun κ C hR => ?_)
  unfold f_X6_isSheet at hR
  refine j_iload_n C dX6_isSheet_0 1 rfl rfl 0 rfl ?_
  refine j_i2l C dX6_isSheet_1 2 rfl ?_
  refine j_lconst (v := 0) C dX6_isSheet_2 3 rfl (by decide) ?_
  refine j_ldc2 C dX6_isSheet_3 6 rfl kX6_isSheet_c148 ?_
  refine j_cs0I (na := 3) C dX6_isSheet_6 9 rfl (c_X6_isIn τ  ((x0 : Int32).toInt64) (0 : Int64) (3 : Int64) ) rfl ggX6_isSheet_X6_isIn rfl rfl rfl kX6_isSheet_iRX6 kX6_isSheet_m57 kX6_isSheet_sX6_isIn qd_X6_isIn rfl ⟨by decide, by decide⟩ ⟨by decide, by decide⟩ rfl (Nat.le_of_ble_eq_true rfl) (fun r1 u1 hX1 hn1 => ?_)
  obtain rfl := (Prod.mk.inj hX1).1
  exact Rt.ret (hR) (by assumption) dX6_isSheet_9

-- X6_isShelf
def f_X6_isShelf (x0 : Int32) : Int32 := (f_X6_isIn ((x0 : Int32).toInt64) (0 : Int64) (3 : Int64))
theorem kX6_isShelf_c148 : Cond.constantLong RX6 148 3 ∈ wsX6_isShelf := by decide +kernel
theorem kX6_isShelf_iRX6 : Cond.initialized yX6_isIn.cls ∈ wsX6_isShelf := by decide +kernel
theorem kX6_isShelf_sX6_isIn : Cond.static yX6_isIn ∈ wsX6_isShelf := by decide +kernel
theorem kX6_isShelf_m57 : Cond.methodLink RX6 57 yX6_isIn ∈ wsX6_isShelf := by decide +kernel
theorem qd_X6_isShelf : yX6_isShelf.cls ≠ "java/lang/invoke/MethodHandle" ∧ yX6_isShelf.cls ≠ "java/lang/invoke/VarHandle" ∧ (parseMethodDescriptor yX6_isShelf.desc).map (fun d => d.parameters.length) = some 1 := by decide +kernel
abbrev rmX6_isShelf : Room := { frames := 1, cells := 0, slots := 0, locals := 25 }
set_option maxHeartbeats 4000000 in
set_option maxRecDepth 100000 in
theorem c_X6_isShelf (τ : SX) (x0 : Int32) (sz : Nat) : McI τ yX6_isShelf wsX6_isShelf rmX6_isShelf .boolean [.int x0] [] (fun _ : Unit => []) (f_X6_isShelf x0, ()) sz := by
  refine mc_I (cc := cX6_isShelf) (own := RX6) [(0, .int x0)] rfl (by decide) rfl rfl (Nat.le_of_ble_eq_true rfl) (fun κ C hR => ?_)
  unfold f_X6_isShelf at hR
  refine j_iload_n C dX6_isShelf_0 1 rfl rfl 0 rfl ?_
  refine j_i2l C dX6_isShelf_1 2 rfl ?_
  refine j_lconst (v := 0) C dX6_isShelf_2 3 rfl (by decide) ?_
  refine j_ldc2 C dX6_isShelf_3 6 rfl kX6_isShelf_c148 ?_
  refine j_cs0I (na := 3) C dX6_isShelf_6 9 rfl (c_X6_isIn τ  ((x0 : Int32).toInt64) (0 : Int64) (3 : Int64) ) rfl ggX6_isShelf_X6_isIn rfl rfl rfl kX6_isShelf_iRX6 kX6_isShelf_m57 kX6_isShelf_sX6_isIn qd_X6_isIn rfl ⟨by decide, by decide⟩ ⟨by decide, by decide⟩ rfl (Nat.le_of_ble_eq_true rfl) (fun r1 u1 hX1 hn1 => ?_)
  obtain rfl := (Prod.mk.inj hX1).1
  exact Rt.ret (hR) (by assumption) dX6_isShelf_9

-- X6_stepsOff
def f_X6_stepsOff (x0 : Int32) (x1 : Int32) : Int32 := pr1 (if (x1 ≤ x0) then (x0 - x1) else (x1 - x0)) (fun j2_0 => (f_X6_least j2_0 ((12 : Int32) - j2_0)))
theorem kX6_stepsOff_iRX6 : Cond.initialized yX6_least.cls ∈ wsX6_stepsOff := by decide +kernel
theorem kX6_stepsOff_sX6_least : Cond.static yX6_least ∈ wsX6_stepsOff := by decide +kernel
theorem kX6_stepsOff_m177 : Cond.methodLink RX6 177 yX6_least ∈ wsX6_stepsOff := by decide +kernel
theorem qd_X6_stepsOff : yX6_stepsOff.cls ≠ "java/lang/invoke/MethodHandle" ∧ yX6_stepsOff.cls ≠ "java/lang/invoke/VarHandle" ∧ (parseMethodDescriptor yX6_stepsOff.desc).map (fun d => d.parameters.length) = some 2 := by decide +kernel
abbrev rmX6_stepsOff : Room := { frames := 1, cells := 0, slots := 0, locals := 21 }
set_option maxHeartbeats 4000000 in
set_option maxRecDepth 100000 in
theorem c_X6_stepsOff (τ : SX) (x0 : Int32) (x1 : Int32) (sz : Nat) : McI τ yX6_stepsOff wsX6_stepsOff rmX6_stepsOff .int [.int x0, .int x1] [] (fun _ : Unit => []) (f_X6_stepsOff x0 x1, ()) sz := by
  refine mc_I (cc := cX6_stepsOff) (own := RX6) [(0, .int x0), (1, .int x1)] rfl (by decide) rfl rfl (Nat.le_of_ble_eq_true rfl) (fun κ C hR => ?_)
  unfold f_X6_stepsOff at hR
  refine j_iload_n C dX6_stepsOff_0 1 rfl rfl 0 rfl ?_
  refine j_iload_n C dX6_stepsOff_1 2 rfl rfl 1 rfl ?_
  have J2 : ∀ (j2_0 : Int32), Rt τ κ cX6_stepsOff .int (fun _ : Unit => []) (((f_X6_least j2_0 ((12 : Int32) - j2_0)), ())) → J τ κ 0 0 [] [(0, .int x0), (1, .int x1)] 14 [.int j2_0] := by
    intro j2_0  hR
    refine j_istore_n C dX6_stepsOff_14 15 rfl rfl (by decide) [(2, .int j2_0), (0, .int x0), (1, .int x1)] rfl ?_
    refine j_iload_n C dX6_stepsOff_15 16 rfl rfl 0 rfl ?_
    refine j_bipush (v := 12) C dX6_stepsOff_16 18 rfl (by decide) ?_
    refine j_iload_n C dX6_stepsOff_18 19 rfl rfl 0 rfl ?_
    refine j_isub C dX6_stepsOff_19 20 rfl ?_
    refine j_cs0I (na := 2) C dX6_stepsOff_20 23 rfl (c_X6_least τ  j2_0 ((12 : Int32) - j2_0) ) rfl ggX6_stepsOff_X6_least rfl rfl rfl kX6_stepsOff_iRX6 kX6_stepsOff_m177 kX6_stepsOff_sX6_least qd_X6_least rfl ⟨by decide, by decide⟩ ⟨by decide, by decide⟩ rfl (Nat.le_of_ble_eq_true rfl) (fun r2 u2 hX2 hn2 => ?_)
    obtain rfl := (Prod.mk.inj hX2).1
    exact Rt.ret (hR) rfl dX6_stepsOff_23
  refine j_icmp_ge C dX6_stepsOff_2 11 rfl 5 rfl (fun c1 => ?_) (fun c1 => ?_)
  · rw [if_pos c1] at hR
    refine j_iload_n C dX6_stepsOff_11 12 rfl rfl 0 rfl ?_
    refine j_iload_n C dX6_stepsOff_12 13 rfl rfl 1 rfl ?_
    refine j_isub C dX6_stepsOff_13 14 rfl ?_
    rw [pr1_mk (x0 - x1)] at hR
    exact j_lv [0, 1] [(0, .int x0), (1, .int x1)] rfl (J2 _  hR)
  · rw [if_neg c1] at hR
    refine j_iload_n C dX6_stepsOff_5 6 rfl rfl 1 rfl ?_
    refine j_iload_n C dX6_stepsOff_6 7 rfl rfl 0 rfl ?_
    refine j_isub C dX6_stepsOff_7 8 rfl ?_
    refine j_goto C dX6_stepsOff_8 14 rfl ?_
    rw [pr1_mk (x1 - x0)] at hR
    exact j_lv [0, 1] [(0, .int x0), (1, .int x1)] rfl (J2 _  hR)

-- X6_isOne
def f_X6_isOne (ss : Nat → Int32) (x1 : Int32) : Int32 := if (x1 < 0) then (0 : Int32) else (if ((ss 0) ≤ x1) then (0 : Int32) else (1 : Int32))
theorem kX6_isOne_f7 : Cond.fieldLink RX6 7 "TwoMinutesModel" "s" "[I" ∈ wsX6_isOne := by decide +kernel
theorem qd_X6_isOne : yX6_isOne.cls = RX6 ∧ yX6_isOne.cls ≠ "java/lang/invoke/MethodHandle" ∧ yX6_isOne.cls ≠ "java/lang/invoke/VarHandle" ∧ (parseMethodDescriptor yX6_isOne.desc).map (fun d => d.parameters.length) = some 1 := by decide +kernel
abbrev rmX6_isOne : Room := { frames := 0, cells := 0, slots := 0, locals := 0 }
set_option maxHeartbeats 4000000 in
set_option maxRecDepth 100000 in
theorem c_X6_isOne (τ : SX) (a : Nat → Nat) (ss : Nat → Int32) (mhd : Nat → Int32) (mas : Nat → Int32) (mbf : Nat → Int32) (mih : Int32) (mtp : Nat → Int32) (mtn : Int32) (mtk : Int32) (mfr : Int32) (mtt : Int32) (mvl : Int32) (miw : Int32) (mld : Nat → Int32) (mrw : Nat → Int32) (mrn : Int32) (mso : Nat → Int32) (msz : Nat → Int32) (mnu : Nat → Int32) (mhw : Nat → Int32) (mhh : Nat → Int32) (mhm : Nat → Int32) (mbo : Nat → Int32) (mrr : Int32) (mak : Int32) (man : Int32) (maa : Int32) (mip : Int32) (x1 : Int32) (hok : okS ss) (sz : Nat) : McI τ yX6_isOne wsX6_isOne rmX6_isOne .boolean [.ref (a 0), .int x1] (wM τ a ss mhd mas mbf mih mtp mtn mtk mfr mtt mvl miw mld mrw mrn mso msz mnu mhw mhh mhm mbo mrr mak man maa mip) (fun _ : Unit => (wM τ a ss mhd mas mbf mih mtp mtn mtk mfr mtt mvl miw mld mrw mrn mso msz mnu mhw mhh mhm mbo mrr mak man maa mip)) (f_X6_isOne ss x1, ()) sz := by
  refine mc_I (cc := cX6_isOne) (own := RX6) [(0, .ref (a 0)), (1, .int x1)] rfl (by decide) rfl rfl (Nat.le_of_ble_eq_true rfl) (fun κ C hR => ?_)
  have hiX6 : ∀ w ∈ wsX60, w ∈ wsX6_isOne := fun w h => List.mem_cons_of_mem _ (List.mem_append_right _ h)
  unfold f_X6_isOne at hR
  refine j_iload_n C dX6_isOne_0 1 rfl rfl 1 rfl ?_
  refine j_if_lt C dX6_isOne_1 18 rfl 4 rfl (fun c1 => ?_) (fun c1 => ?_)
  · rw [if_pos c1] at hR
    refine j_iconst (v := 0) C dX6_isOne_18 19 rfl (by decide) ?_
    exact Rt.ret (hR) (show narrow .boolean (.int (0 : Int32)) = .int (0 : Int32) from rfl) dX6_isOne_19
  · rw [if_neg c1] at hR
    refine j_iload_n C dX6_isOne_4 5 rfl rfl 1 rfl ?_
    refine j_aload_n C dX6_isOne_5 6 rfl rfl 0 rfl ?_
    refine j_get C dX6_isOne_6 9 rfl hiX6 0 rfl rfl 0 (by decide) rfl kX6_isOne_f7 rfl ?_
    refine j_iconst (v := 0) C dX6_isOne_9 10 rfl (by decide) ?_
    refine j_iald C dX6_isOne_10 11 rfl 1 rfl (by unfold vp_in; decide) 0 rfl ?_
    refine j_icmp_ge C dX6_isOne_11 18 rfl 14 rfl (fun c2 => ?_) (fun c2 => ?_)
    · rw [if_pos c2] at hR
      refine j_iconst (v := 0) C dX6_isOne_18 19 rfl (by decide) ?_
      exact Rt.ret (hR) (show narrow .boolean (.int (0 : Int32)) = .int (0 : Int32) from rfl) dX6_isOne_19
    · rw [if_neg c2] at hR
      refine j_iconst (v := 1) C dX6_isOne_14 15 rfl (by decide) ?_
      refine j_goto C dX6_isOne_15 19 rfl ?_
      exact Rt.ret (hR) (show narrow .boolean (.int (1 : Int32)) = .int (1 : Int32) from rfl) dX6_isOne_19

-- X6_its
def f_X6_its (ss : Nat → Int32) (x1 : Int32) (x2 : Int32) : Int32 := (ss ((((10 : Int32) + ((5 : Int32) * x1)) + x2)).toNatClampNeg)
theorem kX6_its_f7 : Cond.fieldLink RX6 7 "TwoMinutesModel" "s" "[I" ∈ wsX6_its := by decide +kernel
theorem qd_X6_its : yX6_its.cls = RX6 ∧ yX6_its.cls ≠ "java/lang/invoke/MethodHandle" ∧ yX6_its.cls ≠ "java/lang/invoke/VarHandle" ∧ (parseMethodDescriptor yX6_its.desc).map (fun d => d.parameters.length) = some 2 := by decide +kernel
abbrev rmX6_its : Room := { frames := 0, cells := 0, slots := 0, locals := 0 }
set_option maxHeartbeats 4000000 in
set_option maxRecDepth 100000 in
theorem c_X6_its (τ : SX) (a : Nat → Nat) (ss : Nat → Int32) (mhd : Nat → Int32) (mas : Nat → Int32) (mbf : Nat → Int32) (mih : Int32) (mtp : Nat → Int32) (mtn : Int32) (mtk : Int32) (mfr : Int32) (mtt : Int32) (mvl : Int32) (miw : Int32) (mld : Nat → Int32) (mrw : Nat → Int32) (mrn : Int32) (mso : Nat → Int32) (msz : Nat → Int32) (mnu : Nat → Int32) (mhw : Nat → Int32) (mhh : Nat → Int32) (mhm : Nat → Int32) (mbo : Nat → Int32) (mrr : Int32) (mak : Int32) (man : Int32) (maa : Int32) (mip : Int32) (x1 : Int32) (x2 : Int32) (hi : vp_in ((10 : Int32) + (5 : Int32) * x1 + x2) 50) (sz : Nat) : McI τ yX6_its wsX6_its rmX6_its .int [.ref (a 0), .int x1, .int x2] (wM τ a ss mhd mas mbf mih mtp mtn mtk mfr mtt mvl miw mld mrw mrn mso msz mnu mhw mhh mhm mbo mrr mak man maa mip) (fun _ : Unit => (wM τ a ss mhd mas mbf mih mtp mtn mtk mfr mtt mvl miw mld mrw mrn mso msz mnu mhw mhh mhm mbo mrr mak man maa mip)) (f_X6_its ss x1 x2, ()) sz := by
  refine mc_I (cc := cX6_its) (own := RX6) [(0, .ref (a 0)), (1, .int x1), (2, .int x2)] rfl (by decide) rfl rfl (Nat.le_of_ble_eq_true rfl) (fun κ C hR => ?_)
  have hiX6 : ∀ w ∈ wsX60, w ∈ wsX6_its := fun w h => List.mem_cons_of_mem _ (List.mem_append_right _ h)
  unfold f_X6_its at hR
  refine j_aload_n C dX6_its_0 1 rfl rfl 0 rfl ?_
  refine j_get C dX6_its_1 4 rfl hiX6 0 rfl rfl 0 (by decide) rfl kX6_its_f7 rfl ?_
  refine j_bipush (v := 10) C dX6_its_4 6 rfl (by decide) ?_
  refine j_iconst (v := 5) C dX6_its_6 7 rfl (by decide) ?_
  refine j_iload_n C dX6_its_7 8 rfl rfl 1 rfl ?_
  refine j_imul C dX6_its_8 9 rfl ?_
  refine j_iadd C dX6_its_9 10 rfl ?_
  refine j_iload_n C dX6_its_10 11 rfl rfl 2 rfl ?_
  refine j_iadd C dX6_its_11 12 rfl ?_
  refine j_iald C dX6_its_12 13 rfl 1 rfl (by first | assumption | decide | exact ok_bt (by assumption) (by first | assumption | omega) (by omega) | exact vp_in_iff.mpr ⟨by omega, by omega⟩ | omega) ((((10 : Int32) + ((5 : Int32) * x1)) + x2)).toNatClampNeg rfl ?_
  exact Rt.ret (hR) rfl dX6_its_13

theorem ok_bt {ss : Nat → Int32} {o : Int32} (h : okS ss) (h0 : 0 ≤ o.toInt) (h1 : o.toInt < (ss 0).toInt) : ¬ f_X6_its ss o 1 = 0 := by
  unfold f_X6_its
  have h8 := h.2.1
  rw [its_ix h0 (by omega) (by decide) (by decide)]
  have e : (o.toNatClampNeg : Int) = o.toInt := by show ((o.toInt.toNat : Nat) : Int) = o.toInt; omega
  exact h.2.2 o.toNatClampNeg (by omega)

-- X6_becomes
def f_X6_becomes (ss : Nat → Int32) (x1 : Int32) (x2 : Int32) : Int32 × (Nat → Int32) := ((ss (x1).toNatClampNeg), (upd ss (x1).toNatClampNeg x2))
theorem kX6_becomes_f7 : Cond.fieldLink RX6 7 "TwoMinutesModel" "s" "[I" ∈ wsX6_becomes := by decide +kernel
theorem qd_X6_becomes : yX6_becomes.cls = RX6 ∧ yX6_becomes.cls ≠ "java/lang/invoke/MethodHandle" ∧ yX6_becomes.cls ≠ "java/lang/invoke/VarHandle" ∧ (parseMethodDescriptor yX6_becomes.desc).map (fun d => d.parameters.length) = some 2 := by decide +kernel
abbrev rmX6_becomes : Room := { frames := 0, cells := 0, slots := 0, locals := 0 }
set_option maxHeartbeats 4000000 in
set_option maxRecDepth 100000 in
theorem c_X6_becomes (τ : SX) (a : Nat → Nat) (ss : Nat → Int32) (mhd : Nat → Int32) (mas : Nat → Int32) (mbf : Nat → Int32) (mih : Int32) (mtp : Nat → Int32) (mtn : Int32) (mtk : Int32) (mfr : Int32) (mtt : Int32) (mvl : Int32) (miw : Int32) (mld : Nat → Int32) (mrw : Nat → Int32) (mrn : Int32) (mso : Nat → Int32) (msz : Nat → Int32) (mnu : Nat → Int32) (mhw : Nat → Int32) (mhh : Nat → Int32) (mhm : Nat → Int32) (mbo : Nat → Int32) (mrr : Int32) (mak : Int32) (man : Int32) (maa : Int32) (mip : Int32) (x1 : Int32) (x2 : Int32) (hi : vp_in x1 50) (sz : Nat) : McI τ yX6_becomes wsX6_becomes rmX6_becomes .int [.ref (a 0), .int x1, .int x2] (wM τ a ss mhd mas mbf mih mtp mtn mtk mfr mtt mvl miw mld mrw mrn mso msz mnu mhw mhh mhm mbo mrr mak man maa mip) (fun u : (Nat → Int32) => (wM τ a u mhd mas mbf mih mtp mtn mtk mfr mtt mvl miw mld mrw mrn mso msz mnu mhw mhh mhm mbo mrr mak man maa mip)) (f_X6_becomes ss x1 x2) sz := by
  refine mc_I (cc := cX6_becomes) (own := RX6) [(0, .ref (a 0)), (1, .int x1), (2, .int x2)] rfl (by decide) rfl rfl (Nat.le_of_ble_eq_true rfl) (fun κ C hR => ?_)
  have hiX6 : ∀ w ∈ wsX60, w ∈ wsX6_becomes := fun w h => List.mem_cons_of_mem _ (List.mem_append_right _ h)
  unfold f_X6_becomes at hR
  refine j_aload_n C dX6_becomes_0 1 rfl rfl 0 rfl ?_
  refine j_get C dX6_becomes_1 4 rfl hiX6 0 rfl rfl 0 (by decide) rfl kX6_becomes_f7 rfl ?_
  refine j_iload_n C dX6_becomes_4 5 rfl rfl 1 rfl ?_
  refine j_iald C dX6_becomes_5 6 rfl 1 rfl (by first | assumption | decide | exact ok_bt (by assumption) (by first | assumption | omega) (by omega) | exact vp_in_iff.mpr ⟨by omega, by omega⟩ | omega) (x1).toNatClampNeg rfl ?_
  refine j_istore_n C dX6_becomes_6 7 rfl rfl (by decide) [(3, .int (ss (x1).toNatClampNeg)), (0, .ref (a 0)), (1, .int x1), (2, .int x2)] rfl ?_
  refine j_aload_n C dX6_becomes_7 8 rfl rfl 1 rfl ?_
  refine j_get C dX6_becomes_8 11 rfl hiX6 0 rfl rfl 0 (by decide) rfl kX6_becomes_f7 rfl ?_
  refine j_iload_n C dX6_becomes_11 12 rfl rfl 2 rfl ?_
  refine j_iload_n C dX6_becomes_12 13 rfl rfl 3 rfl ?_
  refine j_iast C dX6_becomes_13 14 rfl 1 rfl (by first | assumption | decide | exact ok_bt (by assumption) (by first | assumption | omega) (by omega) | exact vp_in_iff.mpr ⟨by omega, by omega⟩ | omega) (x1).toNatClampNeg rfl (wM τ a (upd ss (x1).toNatClampNeg x2) mhd mas mbf mih mtp mtn mtk mfr mtt mvl miw mld mrw mrn mso msz mnu mhw mhh mhm mbo mrr mak man maa mip) rfl ?_
  refine j_iload_n C dX6_becomes_14 15 rfl rfl 0 rfl ?_
  exact Rt.ret (hR) rfl dX6_becomes_15

-- X6_copyRow
def l_X6_copyRow__sa_2 (ss : Nat → Int32) : Nat → Int32 → (Nat → Int32) → Int32 × (Nat → Int32)
  | 0, x2, mas => (x2, mas)
  | N + 1, x2, mas => if (50 ≤ x2) then (x2, mas) else (l_X6_copyRow__sa_2 ss N (x2 + 1) (upd mas (x2).toNatClampNeg (ss (x2).toNatClampNeg)))
def f_X6_copyRow__sa (ss : Nat → Int32) (mas : Nat → Int32) : (Nat → Int32) := pr2 (l_X6_copyRow__sa_2 ss 300 (0 : Int32) mas) (fun x2_1 mas_1 => (mas_1))
theorem qd_X6_copyRow__sa : yX6_copyRow.cls ≠ "java/lang/invoke/MethodHandle" ∧ yX6_copyRow.cls ≠ "java/lang/invoke/VarHandle" ∧ (parseMethodDescriptor yX6_copyRow.desc).map (fun d => d.parameters.length) = some 2 := by decide +kernel
abbrev rmX6_copyRow__sa : Room := { frames := 0, cells := 0, slots := 0, locals := 0 }
set_option maxHeartbeats 4000000 in
set_option maxRecDepth 100000 in
theorem L_X6_copyRow__sa_2 {τ : SX} {κ : KX} (C : Cx τ κ cX6_copyRow RX6 wsX6_copyRow rmX6_copyRow__sa 3) (a : Nat → Nat) (ss : Nat → Int32) (mhd : Nat → Int32) (mbf : Nat → Int32) (mih : Int32) (mtp : Nat → Int32) (mtn : Int32) (mtk : Int32) (mfr : Int32) (mtt : Int32) (mvl : Int32) (miw : Int32) (mld : Nat → Int32) (mrw : Nat → Int32) (mrn : Int32) (mso : Nat → Int32) (msz : Nat → Int32) (mnu : Nat → Int32) (mhw : Nat → Int32) (mhh : Nat → Int32) (mhm : Nat → Int32) (mbo : Nat → Int32) (mrr : Int32) (mak : Int32) (man : Int32) (maa : Int32) (mip : Int32) (Φ : Int32 × (Nat → Int32) → Prop) (hE : ∀ (x2 : Int32) (mas : Nat → Int32), Φ (x2, mas) → J τ κ 0 0 (wM τ a ss mhd mas mbf mih mtp mtn mtk mfr mtt mvl miw mld mrw mrn mso msz mnu mhw mhh mhm mbo mrr mak man maa mip) [(0, .ref (a 1)), (1, .ref (a 3)), (2, .int x2)] 20 []) : ∀ (N : Nat) (x2 : Int32) (mas : Nat → Int32), ((50 : Int) - x2.toInt).toNat < N → (0 ≤ x2.toInt) → (x2.toInt ≤ 50) → Φ (l_X6_copyRow__sa_2 ss N x2 mas) → J τ κ 0 0 (wM τ a ss mhd mas mbf mih mtp mtn mtk mfr mtt mvl miw mld mrw mrn mso msz mnu mhw mhh mhm mbo mrr mak man maa mip) [(0, .ref (a 1)), (1, .ref (a 3)), (2, .int x2)] 2 [] := by
  intro N
  induction N with
  | zero => intro x2 mas hm; exact absurd hm (Nat.not_lt_zero _)
  | succ N ih =>
    intro x2 mas hm h0 h1 hR
    rw [l_X6_copyRow__sa_2] at hR
    refine j_iload_n C dX6_copyRow_2 3 rfl rfl 2 rfl ?_
    refine j_bipush (v := 50) C dX6_copyRow_3 5 rfl (by decide) ?_
    refine j_icmp_ge C dX6_copyRow_5 20 rfl 8 rfl (fun c2 => ?_) (fun c2 => ?_)
    · rw [if_pos c2] at hR
      exact j_lv [0, 1, 2] [(0, .ref (a 1)), (1, .ref (a 3)), (2, .int x2)] rfl (hE _ _  hR)
    · rw [if_neg c2] at hR
      have hs := cnt_step (B := 50) h0 (by decide) (by decide) c2
      refine j_aload_n C dX6_copyRow_8 9 rfl rfl 1 rfl ?_
      refine j_iload_n C dX6_copyRow_9 10 rfl rfl 2 rfl ?_
      refine j_aload_n C dX6_copyRow_10 11 rfl rfl 0 rfl ?_
      refine j_iload_n C dX6_copyRow_11 12 rfl rfl 2 rfl ?_
      refine j_iald C dX6_copyRow_12 13 rfl 1 rfl (by first | assumption | decide | exact ok_bt (by assumption) (by first | assumption | omega) (by omega) | exact vp_in_iff.mpr ⟨by omega, by omega⟩ | omega) (x2).toNatClampNeg rfl ?_
      refine j_iast C dX6_copyRow_13 14 rfl 3 rfl (by first | assumption | decide | exact ok_bt (by assumption) (by first | assumption | omega) (by omega) | exact vp_in_iff.mpr ⟨by omega, by omega⟩ | omega) (x2).toNatClampNeg rfl (wM τ a ss mhd (upd mas (x2).toNatClampNeg (ss (x2).toNatClampNeg)) mbf mih mtp mtn mtk mfr mtt mvl miw mld mrw mrn mso msz mnu mhw mhh mhm mbo mrr mak man maa mip) rfl ?_
      refine j_iinc (v := (x2 + 1)) C dX6_copyRow_14 17 rfl 2 rfl rfl (by decide) [(2, .int (x2 + 1)), (0, .ref (a 1)), (1, .ref (a 3))] rfl ?_
      refine j_goto C dX6_copyRow_17 2 rfl ?_
      exact j_lv [1, 2, 0] [(0, .ref (a 1)), (1, .ref (a 3)), (2, .int (x2 + 1))] rfl (ih _ _ (by have := hs.2.2.1; omega) hs.1 hs.2.1 hR)
set_option maxHeartbeats 4000000 in
set_option maxRecDepth 100000 in
theorem c_X6_copyRow__sa (τ : SX) (a : Nat → Nat) (ss : Nat → Int32) (mhd : Nat → Int32) (mas : Nat → Int32) (mbf : Nat → Int32) (mih : Int32) (mtp : Nat → Int32) (mtn : Int32) (mtk : Int32) (mfr : Int32) (mtt : Int32) (mvl : Int32) (miw : Int32) (mld : Nat → Int32) (mrw : Nat → Int32) (mrn : Int32) (mso : Nat → Int32) (msz : Nat → Int32) (mnu : Nat → Int32) (mhw : Nat → Int32) (mhh : Nat → Int32) (mhm : Nat → Int32) (mbo : Nat → Int32) (mrr : Int32) (mak : Int32) (man : Int32) (maa : Int32) (mip : Int32) (sz : Nat) : McV τ yX6_copyRow wsX6_copyRow rmX6_copyRow__sa [.ref (a 1), .ref (a 3)] (wM τ a ss mhd mas mbf mih mtp mtn mtk mfr mtt mvl miw mld mrw mrn mso msz mnu mhw mhh mhm mbo mrr mak man maa mip) (fun u : (Nat → Int32) => (wM τ a ss mhd u mbf mih mtp mtn mtk mfr mtt mvl miw mld mrw mrn mso msz mnu mhw mhh mhm mbo mrr mak man maa mip)) (f_X6_copyRow__sa ss mas) 0 0 sz := by
  refine mc_V (cc := cX6_copyRow) (own := RX6) [(0, .ref (a 1)), (1, .ref (a 3))] rfl (by decide) rfl rfl (Nat.le_of_ble_eq_true rfl) (fun κ C _ hR => ?_)
  unfold f_X6_copyRow__sa at hR
  refine j_iconst (v := 0) C dX6_copyRow_0 1 rfl (by decide) ?_
  refine j_istore_n C dX6_copyRow_1 2 rfl rfl (by decide) [(2, .int 0), (0, .ref (a 1)), (1, .ref (a 3))] rfl ?_
  refine j_lv [1, 2, 0] [(0, .ref (a 1)), (1, .ref (a 3)), (2, .int 0)] rfl (L_X6_copyRow__sa_2 C a ss mhd mbf mih mtp mtn mtk mfr mtt mvl miw mld mrw mrn mso msz mnu mhw mhh mhm mbo mrr mak man maa mip   (fun (o : Int32 × (Nat → Int32)) => RtV τ κ cX6_copyRow 0 0 (fun u : (Nat → Int32) => (wM τ a ss mhd u mbf mih mtp mtn mtk mfr mtt mvl miw mld mrw mrn mso msz mnu mhw mhh mhm mbo mrr mak man maa mip)) (pr2 o (fun x2_1 mas_1 => (mas_1)))) (fun x2_1 mas_1  hR => ?_) 300 (0 : Int32) mas (by decide) (by decide) (by decide) hR)
  rw [pr2_mk x2_1 mas_1] at hR
  exact hR _ _ dX6_copyRow_20

-- X6_copyRow
def l_X6_copyRow__as_2 (mas : Nat → Int32) : Nat → Int32 → (Nat → Int32) → Int32 × (Nat → Int32)
  | 0, x2, ss => (x2, ss)
  | N + 1, x2, ss => if (50 ≤ x2) then (x2, ss) else (l_X6_copyRow__as_2 mas N (x2 + 1) (upd ss (x2).toNatClampNeg (mas (x2).toNatClampNeg)))
def f_X6_copyRow__as (ss : Nat → Int32) (mas : Nat → Int32) : (Nat → Int32) := pr2 (l_X6_copyRow__as_2 mas 300 (0 : Int32) ss) (fun x2_1 ss_1 => (ss_1))
theorem qd_X6_copyRow__as : yX6_copyRow.cls ≠ "java/lang/invoke/MethodHandle" ∧ yX6_copyRow.cls ≠ "java/lang/invoke/VarHandle" ∧ (parseMethodDescriptor yX6_copyRow.desc).map (fun d => d.parameters.length) = some 2 := by decide +kernel
abbrev rmX6_copyRow__as : Room := { frames := 0, cells := 0, slots := 0, locals := 0 }
set_option maxHeartbeats 4000000 in
set_option maxRecDepth 100000 in
theorem L_X6_copyRow__as_2 {τ : SX} {κ : KX} (C : Cx τ κ cX6_copyRow RX6 wsX6_copyRow rmX6_copyRow__as 3) (a : Nat → Nat) (mhd : Nat → Int32) (mas : Nat → Int32) (mbf : Nat → Int32) (mih : Int32) (mtp : Nat → Int32) (mtn : Int32) (mtk : Int32) (mfr : Int32) (mtt : Int32) (mvl : Int32) (miw : Int32) (mld : Nat → Int32) (mrw : Nat → Int32) (mrn : Int32) (mso : Nat → Int32) (msz : Nat → Int32) (mnu : Nat → Int32) (mhw : Nat → Int32) (mhh : Nat → Int32) (mhm : Nat → Int32) (mbo : Nat → Int32) (mrr : Int32) (mak : Int32) (man : Int32) (maa : Int32) (mip : Int32) (Φ : Int32 × (Nat → Int32) → Prop) (hE : ∀ (x2 : Int32) (ss : Nat → Int32), Φ (x2, ss) → J τ κ 0 0 (wM τ a ss mhd mas mbf mih mtp mtn mtk mfr mtt mvl miw mld mrw mrn mso msz mnu mhw mhh mhm mbo mrr mak man maa mip) [(0, .ref (a 3)), (1, .ref (a 1)), (2, .int x2)] 20 []) : ∀ (N : Nat) (x2 : Int32) (ss : Nat → Int32), ((50 : Int) - x2.toInt).toNat < N → (0 ≤ x2.toInt) → (x2.toInt ≤ 50) → Φ (l_X6_copyRow__as_2 mas N x2 ss) → J τ κ 0 0 (wM τ a ss mhd mas mbf mih mtp mtn mtk mfr mtt mvl miw mld mrw mrn mso msz mnu mhw mhh mhm mbo mrr mak man maa mip) [(0, .ref (a 3)), (1, .ref (a 1)), (2, .int x2)] 2 [] := by
  intro N
  induction N with
  | zero => intro x2 ss hm; exact absurd hm (Nat.not_lt_zero _)
  | succ N ih =>
    intro x2 ss hm h0 h1 hR
    rw [l_X6_copyRow__as_2] at hR
    refine j_iload_n C dX6_copyRow_2 3 rfl rfl 2 rfl ?_
    refine j_bipush (v := 50) C dX6_copyRow_3 5 rfl (by decide) ?_
    refine j_icmp_ge C dX6_copyRow_5 20 rfl 8 rfl (fun c2 => ?_) (fun c2 => ?_)
    · rw [if_pos c2] at hR
      exact j_lv [0, 1, 2] [(0, .ref (a 3)), (1, .ref (a 1)), (2, .int x2)] rfl (hE _ _  hR)
    · rw [if_neg c2] at hR
      have hs := cnt_step (B := 50) h0 (by decide) (by decide) c2
      refine j_aload_n C dX6_copyRow_8 9 rfl rfl 1 rfl ?_
      refine j_iload_n C dX6_copyRow_9 10 rfl rfl 2 rfl ?_
      refine j_aload_n C dX6_copyRow_10 11 rfl rfl 0 rfl ?_
      refine j_iload_n C dX6_copyRow_11 12 rfl rfl 2 rfl ?_
      refine j_iald C dX6_copyRow_12 13 rfl 3 rfl (by first | assumption | decide | exact ok_bt (by assumption) (by first | assumption | omega) (by omega) | exact vp_in_iff.mpr ⟨by omega, by omega⟩ | omega) (x2).toNatClampNeg rfl ?_
      refine j_iast C dX6_copyRow_13 14 rfl 1 rfl (by first | assumption | decide | exact ok_bt (by assumption) (by first | assumption | omega) (by omega) | exact vp_in_iff.mpr ⟨by omega, by omega⟩ | omega) (x2).toNatClampNeg rfl (wM τ a (upd ss (x2).toNatClampNeg (mas (x2).toNatClampNeg)) mhd mas mbf mih mtp mtn mtk mfr mtt mvl miw mld mrw mrn mso msz mnu mhw mhh mhm mbo mrr mak man maa mip) rfl ?_
      refine j_iinc (v := (x2 + 1)) C dX6_copyRow_14 17 rfl 2 rfl rfl (by decide) [(2, .int (x2 + 1)), (0, .ref (a 3)), (1, .ref (a 1))] rfl ?_
      refine j_goto C dX6_copyRow_17 2 rfl ?_
      exact j_lv [1, 2, 0] [(0, .ref (a 3)), (1, .ref (a 1)), (2, .int (x2 + 1))] rfl (ih _ _ (by have := hs.2.2.1; omega) hs.1 hs.2.1 hR)
set_option maxHeartbeats 4000000 in
set_option maxRecDepth 100000 in
theorem c_X6_copyRow__as (τ : SX) (a : Nat → Nat) (ss : Nat → Int32) (mhd : Nat → Int32) (mas : Nat → Int32) (mbf : Nat → Int32) (mih : Int32) (mtp : Nat → Int32) (mtn : Int32) (mtk : Int32) (mfr : Int32) (mtt : Int32) (mvl : Int32) (miw : Int32) (mld : Nat → Int32) (mrw : Nat → Int32) (mrn : Int32) (mso : Nat → Int32) (msz : Nat → Int32) (mnu : Nat → Int32) (mhw : Nat → Int32) (mhh : Nat → Int32) (mhm : Nat → Int32) (mbo : Nat → Int32) (mrr : Int32) (mak : Int32) (man : Int32) (maa : Int32) (mip : Int32) (sz : Nat) : McV τ yX6_copyRow wsX6_copyRow rmX6_copyRow__as [.ref (a 3), .ref (a 1)] (wM τ a ss mhd mas mbf mih mtp mtn mtk mfr mtt mvl miw mld mrw mrn mso msz mnu mhw mhh mhm mbo mrr mak man maa mip) (fun u : (Nat → Int32) => (wM τ a u mhd mas mbf mih mtp mtn mtk mfr mtt mvl miw mld mrw mrn mso msz mnu mhw mhh mhm mbo mrr mak man maa mip)) (f_X6_copyRow__as ss mas) 0 0 sz := by
  refine mc_V (cc := cX6_copyRow) (own := RX6) [(0, .ref (a 3)), (1, .ref (a 1))] rfl (by decide) rfl rfl (Nat.le_of_ble_eq_true rfl) (fun κ C _ hR => ?_)
  unfold f_X6_copyRow__as at hR
  refine j_iconst (v := 0) C dX6_copyRow_0 1 rfl (by decide) ?_
  refine j_istore_n C dX6_copyRow_1 2 rfl rfl (by decide) [(2, .int 0), (0, .ref (a 3)), (1, .ref (a 1))] rfl ?_
  refine j_lv [1, 2, 0] [(0, .ref (a 3)), (1, .ref (a 1)), (2, .int 0)] rfl (L_X6_copyRow__as_2 C a mhd mas mbf mih mtp mtn mtk mfr mtt mvl miw mld mrw mrn mso msz mnu mhw mhh mhm mbo mrr mak man maa mip   (fun (o : Int32 × (Nat → Int32)) => RtV τ κ cX6_copyRow 0 0 (fun u : (Nat → Int32) => (wM τ a u mhd mas mbf mih mtp mtn mtk mfr mtt mvl miw mld mrw mrn mso msz mnu mhw mhh mhm mbo mrr mak man maa mip)) (pr2 o (fun x2_1 ss_1 => (ss_1)))) (fun x2_1 ss_1  hR => ?_) 300 (0 : Int32) ss (by decide) (by decide) (by decide) hR)
  rw [pr2_mk x2_1 ss_1] at hR
  exact hR _ _ dX6_copyRow_20

-- X6_copyRow
def l_X6_copyRow__sb_2 (ss : Nat → Int32) : Nat → Int32 → (Nat → Int32) → Int32 × (Nat → Int32)
  | 0, x2, mbf => (x2, mbf)
  | N + 1, x2, mbf => if (50 ≤ x2) then (x2, mbf) else (l_X6_copyRow__sb_2 ss N (x2 + 1) (upd mbf (x2).toNatClampNeg (ss (x2).toNatClampNeg)))
def f_X6_copyRow__sb (ss : Nat → Int32) (mbf : Nat → Int32) : (Nat → Int32) := pr2 (l_X6_copyRow__sb_2 ss 300 (0 : Int32) mbf) (fun x2_1 mbf_1 => (mbf_1))
theorem qd_X6_copyRow__sb : yX6_copyRow.cls ≠ "java/lang/invoke/MethodHandle" ∧ yX6_copyRow.cls ≠ "java/lang/invoke/VarHandle" ∧ (parseMethodDescriptor yX6_copyRow.desc).map (fun d => d.parameters.length) = some 2 := by decide +kernel
abbrev rmX6_copyRow__sb : Room := { frames := 0, cells := 0, slots := 0, locals := 0 }
set_option maxHeartbeats 4000000 in
set_option maxRecDepth 100000 in
theorem L_X6_copyRow__sb_2 {τ : SX} {κ : KX} (C : Cx τ κ cX6_copyRow RX6 wsX6_copyRow rmX6_copyRow__sb 3) (a : Nat → Nat) (ss : Nat → Int32) (mhd : Nat → Int32) (mas : Nat → Int32) (mih : Int32) (mtp : Nat → Int32) (mtn : Int32) (mtk : Int32) (mfr : Int32) (mtt : Int32) (mvl : Int32) (miw : Int32) (mld : Nat → Int32) (mrw : Nat → Int32) (mrn : Int32) (mso : Nat → Int32) (msz : Nat → Int32) (mnu : Nat → Int32) (mhw : Nat → Int32) (mhh : Nat → Int32) (mhm : Nat → Int32) (mbo : Nat → Int32) (mrr : Int32) (mak : Int32) (man : Int32) (maa : Int32) (mip : Int32) (Φ : Int32 × (Nat → Int32) → Prop) (hE : ∀ (x2 : Int32) (mbf : Nat → Int32), Φ (x2, mbf) → J τ κ 0 0 (wM τ a ss mhd mas mbf mih mtp mtn mtk mfr mtt mvl miw mld mrw mrn mso msz mnu mhw mhh mhm mbo mrr mak man maa mip) [(0, .ref (a 1)), (1, .ref (a 4)), (2, .int x2)] 20 []) : ∀ (N : Nat) (x2 : Int32) (mbf : Nat → Int32), ((50 : Int) - x2.toInt).toNat < N → (0 ≤ x2.toInt) → (x2.toInt ≤ 50) → Φ (l_X6_copyRow__sb_2 ss N x2 mbf) → J τ κ 0 0 (wM τ a ss mhd mas mbf mih mtp mtn mtk mfr mtt mvl miw mld mrw mrn mso msz mnu mhw mhh mhm mbo mrr mak man maa mip) [(0, .ref (a 1)), (1, .ref (a 4)), (2, .int x2)] 2 [] := by
  intro N
  induction N with
  | zero => intro x2 mbf hm; exact absurd hm (Nat.not_lt_zero _)
  | succ N ih =>
    intro x2 mbf hm h0 h1 hR
    rw [l_X6_copyRow__sb_2] at hR
    refine j_iload_n C dX6_copyRow_2 3 rfl rfl 2 rfl ?_
    refine j_bipush (v := 50) C dX6_copyRow_3 5 rfl (by decide) ?_
    refine j_icmp_ge C dX6_copyRow_5 20 rfl 8 rfl (fun c2 => ?_) (fun c2 => ?_)
    · rw [if_pos c2] at hR
      exact j_lv [0, 1, 2] [(0, .ref (a 1)), (1, .ref (a 4)), (2, .int x2)] rfl (hE _ _  hR)
    · rw [if_neg c2] at hR
      have hs := cnt_step (B := 50) h0 (by decide) (by decide) c2
      refine j_aload_n C dX6_copyRow_8 9 rfl rfl 1 rfl ?_
      refine j_iload_n C dX6_copyRow_9 10 rfl rfl 2 rfl ?_
      refine j_aload_n C dX6_copyRow_10 11 rfl rfl 0 rfl ?_
      refine j_iload_n C dX6_copyRow_11 12 rfl rfl 2 rfl ?_
      refine j_iald C dX6_copyRow_12 13 rfl 1 rfl (by first | assumption | decide | exact ok_bt (by assumption) (by first | assumption | omega) (by omega) | exact vp_in_iff.mpr ⟨by omega, by omega⟩ | omega) (x2).toNatClampNeg rfl ?_
      refine j_iast C dX6_copyRow_13 14 rfl 4 rfl (by first | assumption | decide | exact ok_bt (by assumption) (by first | assumption | omega) (by omega) | exact vp_in_iff.mpr ⟨by omega, by omega⟩ | omega) (x2).toNatClampNeg rfl (wM τ a ss mhd mas (upd mbf (x2).toNatClampNeg (ss (x2).toNatClampNeg)) mih mtp mtn mtk mfr mtt mvl miw mld mrw mrn mso msz mnu mhw mhh mhm mbo mrr mak man maa mip) rfl ?_
      refine j_iinc (v := (x2 + 1)) C dX6_copyRow_14 17 rfl 2 rfl rfl (by decide) [(2, .int (x2 + 1)), (0, .ref (a 1)), (1, .ref (a 4))] rfl ?_
      refine j_goto C dX6_copyRow_17 2 rfl ?_
      exact j_lv [1, 2, 0] [(0, .ref (a 1)), (1, .ref (a 4)), (2, .int (x2 + 1))] rfl (ih _ _ (by have := hs.2.2.1; omega) hs.1 hs.2.1 hR)
set_option maxHeartbeats 4000000 in
set_option maxRecDepth 100000 in
theorem c_X6_copyRow__sb (τ : SX) (a : Nat → Nat) (ss : Nat → Int32) (mhd : Nat → Int32) (mas : Nat → Int32) (mbf : Nat → Int32) (mih : Int32) (mtp : Nat → Int32) (mtn : Int32) (mtk : Int32) (mfr : Int32) (mtt : Int32) (mvl : Int32) (miw : Int32) (mld : Nat → Int32) (mrw : Nat → Int32) (mrn : Int32) (mso : Nat → Int32) (msz : Nat → Int32) (mnu : Nat → Int32) (mhw : Nat → Int32) (mhh : Nat → Int32) (mhm : Nat → Int32) (mbo : Nat → Int32) (mrr : Int32) (mak : Int32) (man : Int32) (maa : Int32) (mip : Int32) (sz : Nat) : McV τ yX6_copyRow wsX6_copyRow rmX6_copyRow__sb [.ref (a 1), .ref (a 4)] (wM τ a ss mhd mas mbf mih mtp mtn mtk mfr mtt mvl miw mld mrw mrn mso msz mnu mhw mhh mhm mbo mrr mak man maa mip) (fun u : (Nat → Int32) => (wM τ a ss mhd mas u mih mtp mtn mtk mfr mtt mvl miw mld mrw mrn mso msz mnu mhw mhh mhm mbo mrr mak man maa mip)) (f_X6_copyRow__sb ss mbf) 0 0 sz := by
  refine mc_V (cc := cX6_copyRow) (own := RX6) [(0, .ref (a 1)), (1, .ref (a 4))] rfl (by decide) rfl rfl (Nat.le_of_ble_eq_true rfl) (fun κ C _ hR => ?_)
  unfold f_X6_copyRow__sb at hR
  refine j_iconst (v := 0) C dX6_copyRow_0 1 rfl (by decide) ?_
  refine j_istore_n C dX6_copyRow_1 2 rfl rfl (by decide) [(2, .int 0), (0, .ref (a 1)), (1, .ref (a 4))] rfl ?_
  refine j_lv [1, 2, 0] [(0, .ref (a 1)), (1, .ref (a 4)), (2, .int 0)] rfl (L_X6_copyRow__sb_2 C a ss mhd mas mih mtp mtn mtk mfr mtt mvl miw mld mrw mrn mso msz mnu mhw mhh mhm mbo mrr mak man maa mip   (fun (o : Int32 × (Nat → Int32)) => RtV τ κ cX6_copyRow 0 0 (fun u : (Nat → Int32) => (wM τ a ss mhd mas u mih mtp mtn mtk mfr mtt mvl miw mld mrw mrn mso msz mnu mhw mhh mhm mbo mrr mak man maa mip)) (pr2 o (fun x2_1 mbf_1 => (mbf_1)))) (fun x2_1 mbf_1  hR => ?_) 300 (0 : Int32) mbf (by decide) (by decide) (by decide) hR)
  rw [pr2_mk x2_1 mbf_1] at hR
  exact hR _ _ dX6_copyRow_20

-- X6_copyRow
def l_X6_copyRow__bs_2 (mbf : Nat → Int32) : Nat → Int32 → (Nat → Int32) → Int32 × (Nat → Int32)
  | 0, x2, ss => (x2, ss)
  | N + 1, x2, ss => if (50 ≤ x2) then (x2, ss) else (l_X6_copyRow__bs_2 mbf N (x2 + 1) (upd ss (x2).toNatClampNeg (mbf (x2).toNatClampNeg)))
def f_X6_copyRow__bs (ss : Nat → Int32) (mbf : Nat → Int32) : (Nat → Int32) := pr2 (l_X6_copyRow__bs_2 mbf 300 (0 : Int32) ss) (fun x2_1 ss_1 => (ss_1))
theorem qd_X6_copyRow__bs : yX6_copyRow.cls ≠ "java/lang/invoke/MethodHandle" ∧ yX6_copyRow.cls ≠ "java/lang/invoke/VarHandle" ∧ (parseMethodDescriptor yX6_copyRow.desc).map (fun d => d.parameters.length) = some 2 := by decide +kernel
abbrev rmX6_copyRow__bs : Room := { frames := 0, cells := 0, slots := 0, locals := 0 }
set_option maxHeartbeats 4000000 in
set_option maxRecDepth 100000 in
theorem L_X6_copyRow__bs_2 {τ : SX} {κ : KX} (C : Cx τ κ cX6_copyRow RX6 wsX6_copyRow rmX6_copyRow__bs 3) (a : Nat → Nat) (mhd : Nat → Int32) (mas : Nat → Int32) (mbf : Nat → Int32) (mih : Int32) (mtp : Nat → Int32) (mtn : Int32) (mtk : Int32) (mfr : Int32) (mtt : Int32) (mvl : Int32) (miw : Int32) (mld : Nat → Int32) (mrw : Nat → Int32) (mrn : Int32) (mso : Nat → Int32) (msz : Nat → Int32) (mnu : Nat → Int32) (mhw : Nat → Int32) (mhh : Nat → Int32) (mhm : Nat → Int32) (mbo : Nat → Int32) (mrr : Int32) (mak : Int32) (man : Int32) (maa : Int32) (mip : Int32) (Φ : Int32 × (Nat → Int32) → Prop) (hE : ∀ (x2 : Int32) (ss : Nat → Int32), Φ (x2, ss) → J τ κ 0 0 (wM τ a ss mhd mas mbf mih mtp mtn mtk mfr mtt mvl miw mld mrw mrn mso msz mnu mhw mhh mhm mbo mrr mak man maa mip) [(0, .ref (a 4)), (1, .ref (a 1)), (2, .int x2)] 20 []) : ∀ (N : Nat) (x2 : Int32) (ss : Nat → Int32), ((50 : Int) - x2.toInt).toNat < N → (0 ≤ x2.toInt) → (x2.toInt ≤ 50) → Φ (l_X6_copyRow__bs_2 mbf N x2 ss) → J τ κ 0 0 (wM τ a ss mhd mas mbf mih mtp mtn mtk mfr mtt mvl miw mld mrw mrn mso msz mnu mhw mhh mhm mbo mrr mak man maa mip) [(0, .ref (a 4)), (1, .ref (a 1)), (2, .int x2)] 2 [] := by
  intro N
  induction N with
  | zero => intro x2 ss hm; exact absurd hm (Nat.not_lt_zero _)
  | succ N ih =>
    intro x2 ss hm h0 h1 hR
    rw [l_X6_copyRow__bs_2] at hR
    refine j_iload_n C dX6_copyRow_2 3 rfl rfl 2 rfl ?_
    refine j_bipush (v := 50) C dX6_copyRow_3 5 rfl (by decide) ?_
    refine j_icmp_ge C dX6_copyRow_5 20 rfl 8 rfl (fun c2 => ?_) (fun c2 => ?_)
    · rw [if_pos c2] at hR
      exact j_lv [0, 1, 2] [(0, .ref (a 4)), (1, .ref (a 1)), (2, .int x2)] rfl (hE _ _  hR)
    · rw [if_neg c2] at hR
      have hs := cnt_step (B := 50) h0 (by decide) (by decide) c2
      refine j_aload_n C dX6_copyRow_8 9 rfl rfl 1 rfl ?_
      refine j_iload_n C dX6_copyRow_9 10 rfl rfl 2 rfl ?_
      refine j_aload_n C dX6_copyRow_10 11 rfl rfl 0 rfl ?_
      refine j_iload_n C dX6_copyRow_11 12 rfl rfl 2 rfl ?_
      refine j_iald C dX6_copyRow_12 13 rfl 4 rfl (by first | assumption | decide | exact ok_bt (by assumption) (by first | assumption | omega) (by omega) | exact vp_in_iff.mpr ⟨by omega, by omega⟩ | omega) (x2).toNatClampNeg rfl ?_
      refine j_iast C dX6_copyRow_13 14 rfl 1 rfl (by first | assumption | decide | exact ok_bt (by assumption) (by first | assumption | omega) (by omega) | exact vp_in_iff.mpr ⟨by omega, by omega⟩ | omega) (x2).toNatClampNeg rfl (wM τ a (upd ss (x2).toNatClampNeg (mbf (x2).toNatClampNeg)) mhd mas mbf mih mtp mtn mtk mfr mtt mvl miw mld mrw mrn mso msz mnu mhw mhh mhm mbo mrr mak man maa mip) rfl ?_
      refine j_iinc (v := (x2 + 1)) C dX6_copyRow_14 17 rfl 2 rfl rfl (by decide) [(2, .int (x2 + 1)), (0, .ref (a 4)), (1, .ref (a 1))] rfl ?_
      refine j_goto C dX6_copyRow_17 2 rfl ?_
      exact j_lv [1, 2, 0] [(0, .ref (a 4)), (1, .ref (a 1)), (2, .int (x2 + 1))] rfl (ih _ _ (by have := hs.2.2.1; omega) hs.1 hs.2.1 hR)
set_option maxHeartbeats 4000000 in
set_option maxRecDepth 100000 in
theorem c_X6_copyRow__bs (τ : SX) (a : Nat → Nat) (ss : Nat → Int32) (mhd : Nat → Int32) (mas : Nat → Int32) (mbf : Nat → Int32) (mih : Int32) (mtp : Nat → Int32) (mtn : Int32) (mtk : Int32) (mfr : Int32) (mtt : Int32) (mvl : Int32) (miw : Int32) (mld : Nat → Int32) (mrw : Nat → Int32) (mrn : Int32) (mso : Nat → Int32) (msz : Nat → Int32) (mnu : Nat → Int32) (mhw : Nat → Int32) (mhh : Nat → Int32) (mhm : Nat → Int32) (mbo : Nat → Int32) (mrr : Int32) (mak : Int32) (man : Int32) (maa : Int32) (mip : Int32) (sz : Nat) : McV τ yX6_copyRow wsX6_copyRow rmX6_copyRow__bs [.ref (a 4), .ref (a 1)] (wM τ a ss mhd mas mbf mih mtp mtn mtk mfr mtt mvl miw mld mrw mrn mso msz mnu mhw mhh mhm mbo mrr mak man maa mip) (fun u : (Nat → Int32) => (wM τ a u mhd mas mbf mih mtp mtn mtk mfr mtt mvl miw mld mrw mrn mso msz mnu mhw mhh mhm mbo mrr mak man maa mip)) (f_X6_copyRow__bs ss mbf) 0 0 sz := by
  refine mc_V (cc := cX6_copyRow) (own := RX6) [(0, .ref (a 4)), (1, .ref (a 1))] rfl (by decide) rfl rfl (Nat.le_of_ble_eq_true rfl) (fun κ C _ hR => ?_)
  unfold f_X6_copyRow__bs at hR
  refine j_iconst (v := 0) C dX6_copyRow_0 1 rfl (by decide) ?_
  refine j_istore_n C dX6_copyRow_1 2 rfl rfl (by decide) [(2, .int 0), (0, .ref (a 4)), (1, .ref (a 1))] rfl ?_
  refine j_lv [1, 2, 0] [(0, .ref (a 4)), (1, .ref (a 1)), (2, .int 0)] rfl (L_X6_copyRow__bs_2 C a mhd mas mbf mih mtp mtn mtk mfr mtt mvl miw mld mrw mrn mso msz mnu mhw mhh mhm mbo mrr mak man maa mip   (fun (o : Int32 × (Nat → Int32)) => RtV τ κ cX6_copyRow 0 0 (fun u : (Nat → Int32) => (wM τ a u mhd mas mbf mih mtp mtn mtk mfr mtt mvl miw mld mrw mrn mso msz mnu mhw mhh mhm mbo mrr mak man maa mip)) (pr2 o (fun x2_1 ss_1 => (ss_1)))) (fun x2_1 ss_1  hR => ?_) 300 (0 : Int32) ss (by decide) (by decide) (by decide) hR)
  rw [pr2_mk x2_1 ss_1] at hR
  exact hR _ _ dX6_copyRow_20

-- X6_sounds
def f_X6_sounds (ss : Nat → Int32) (x1 : Int32) : Int32 := pr1 (if ((((ss 1) + (f_X6_its ss x1 (2 : Int32))) - ((ss 1) + (f_X6_its ss x1 (2 : Int32))) / (f_X6_its ss x1 (1 : Int32)) * (f_X6_its ss x1 (1 : Int32))) = 0) then (1 : Int32) else (0 : Int32)) (fun j22_0 => pr1 (if (j22_0 = 0) then (0 : Int32) else (if ((ss 3) < (ss 7)) then (0 : Int32) else (1 : Int32))) (fun j32_0 => pr1 (if (j22_0 = 0) then (0 : Int32) else (if (((ss 1) - (ss 1) / 2 * 2) = 0) then (1 : Int32) else (0 : Int32))) (fun j59_0 => (if (f_X6_its ss x1 (0 : Int32)) = 1 then j32_0 else (if (f_X6_its ss x1 (0 : Int32)) = 2 then j59_0 else (if (f_X6_its ss x1 (0 : Int32)) = 3 then (if (j32_0 = 0) then (if (((ss 1) - (ss 1) / 7 * 7) = 0) then (1 : Int32) else (0 : Int32)) else (1 : Int32)) else (if (f_X6_its ss x1 (0 : Int32)) = 4 then (if (j59_0 = 0) then (if ((ss 3) = ((2 : Int32) * (f_X6_its ss x1 (1 : Int32)))) then (1 : Int32) else (0 : Int32)) else (1 : Int32)) else (if (f_X6_its ss x1 (0 : Int32)) = 5 then (if ((ss 3) < (ss 8)) then (0 : Int32) else (1 : Int32)) else j22_0))))))))
theorem kX6_sounds_f7 : Cond.fieldLink RX6 7 "TwoMinutesModel" "s" "[I" ∈ wsX6_sounds := by decide +kernel
theorem qd_X6_sounds : yX6_sounds.cls = RX6 ∧ yX6_sounds.cls ≠ "java/lang/invoke/MethodHandle" ∧ yX6_sounds.cls ≠ "java/lang/invoke/VarHandle" ∧ (parseMethodDescriptor yX6_sounds.desc).map (fun d => d.parameters.length) = some 1 := by decide +kernel
abbrev rmX6_sounds : Room := { frames := 1, cells := 0, slots := 0, locals := 22 }
set_option maxHeartbeats 4000000 in
set_option maxRecDepth 100000 in
theorem c_X6_sounds (τ : SX) (a : Nat → Nat) (ss : Nat → Int32) (mhd : Nat → Int32) (mas : Nat → Int32) (mbf : Nat → Int32) (mih : Int32) (mtp : Nat → Int32) (mtn : Int32) (mtk : Int32) (mfr : Int32) (mtt : Int32) (mvl : Int32) (miw : Int32) (mld : Nat → Int32) (mrw : Nat → Int32) (mrn : Int32) (mso : Nat → Int32) (msz : Nat → Int32) (mnu : Nat → Int32) (mhw : Nat → Int32) (mhh : Nat → Int32) (mhm : Nat → Int32) (mbo : Nat → Int32) (mrr : Int32) (mak : Int32) (man : Int32) (maa : Int32) (mip : Int32) (x1 : Int32) (hv : vp_in x1 8) (hb : ¬ f_X6_its ss x1 1 = 0) (sz : Nat) : McI τ yX6_sounds wsX6_sounds rmX6_sounds .boolean [.ref (a 0), .int x1] (wM τ a ss mhd mas mbf mih mtp mtn mtk mfr mtt mvl miw mld mrw mrn mso msz mnu mhw mhh mhm mbo mrr mak man maa mip) (fun _ : Unit => (wM τ a ss mhd mas mbf mih mtp mtn mtk mfr mtt mvl miw mld mrw mrn mso msz mnu mhw mhh mhm mbo mrr mak man maa mip)) (f_X6_sounds ss x1, ()) sz := by
  refine mc_I (cc := cX6_sounds) (own := RX6) [(0, .ref (a 0)), (1, .int x1)] rfl (by decide) rfl rfl (Nat.le_of_ble_eq_true rfl) (fun κ C hR => ?_)
  have hiX6 : ∀ w ∈ wsX60, w ∈ wsX6_sounds := fun w h => List.mem_cons_of_mem _ (List.mem_append_right _ h)
  unfold f_X6_sounds at hR
  refine j_aload_n C dX6_sounds_0 1 rfl rfl 0 rfl ?_
  refine j_iload_n C dX6_sounds_1 2 rfl rfl 1 rfl ?_
  refine j_iconst (v := 1) C dX6_sounds_2 3 rfl (by decide) ?_
  refine j_cv0I (na := 2) C dX6_sounds_3 6 rfl (c_X6_its τ a ss mhd mas mbf mih mtp mtn mtk mfr mtt mvl miw mld mrw mrn mso msz mnu mhw mhh mhm mbo mrr mak man maa mip x1 (1 : Int32) (its_in (o := x1) (w := 1) (by first | assumption | exact vp_in_iff.mpr ⟨by omega, by omega⟩) (by decide))) gX6_sounds_X6_its rfl rfl rfl qd_X6_its rfl ⟨by decide, by decide⟩ ⟨by decide, by decide⟩ rfl (Nat.le_of_ble_eq_true rfl) rfl 6 0 rfl rfl (fun r1 u1 hX1 hn1 => ?_)
  obtain rfl := (Prod.mk.inj hX1).1
  refine j_istore_n C dX6_sounds_6 7 rfl rfl (by decide) [(2, .int (f_X6_its ss x1 (1 : Int32))), (0, .ref (a 0)), (1, .int x1)] rfl ?_
  refine j_aload_n C dX6_sounds_7 8 rfl rfl 1 rfl ?_
  refine j_get C dX6_sounds_8 11 rfl hiX6 0 rfl rfl 0 (by decide) rfl kX6_sounds_f7 rfl ?_
  refine j_iconst (v := 1) C dX6_sounds_11 12 rfl (by decide) ?_
  refine j_iald C dX6_sounds_12 13 rfl 1 rfl (by unfold vp_in; decide) 1 rfl ?_
  refine j_aload_n C dX6_sounds_13 14 rfl rfl 1 rfl ?_
  refine j_iload_n C dX6_sounds_14 15 rfl rfl 2 rfl ?_
  refine j_iconst (v := 2) C dX6_sounds_15 16 rfl (by decide) ?_
  refine j_cv0I (na := 2) C dX6_sounds_16 19 rfl (c_X6_its τ a ss mhd mas mbf mih mtp mtn mtk mfr mtt mvl miw mld mrw mrn mso msz mnu mhw mhh mhm mbo mrr mak man maa mip x1 (2 : Int32) (its_in (o := x1) (w := 2) (by first | assumption | exact vp_in_iff.mpr ⟨by omega, by omega⟩) (by decide))) gX6_sounds_X6_its rfl rfl rfl qd_X6_its rfl ⟨by decide, by decide⟩ ⟨by decide, by decide⟩ rfl (Nat.le_of_ble_eq_true rfl) rfl 6 0 rfl rfl (fun r2 u2 hX2 hn2 => ?_)
  obtain rfl := (Prod.mk.inj hX2).1
  refine j_iadd C dX6_sounds_19 20 rfl ?_
  refine j_iload_n C dX6_sounds_20 21 rfl rfl 0 rfl ?_
  refine j_irem C dX6_sounds_21 22 rfl (by first | assumption | decide | exact ok_bt (by assumption) (by first | assumption | omega) (by omega) | exact vp_in_iff.mpr ⟨by omega, by omega⟩ | omega) ?_
  have J22 : ∀ (j22_0 : Int32), (narrow .boolean (.int j22_0) = .int j22_0) → Rt τ κ cX6_sounds .boolean (fun _ : Unit => (wM τ a ss mhd mas mbf mih mtp mtn mtk mfr mtt mvl miw mld mrw mrn mso msz mnu mhw mhh mhm mbo mrr mak man maa mip)) ((pr1 (if (j22_0 = 0) then (0 : Int32) else (if ((ss 3) < (ss 7)) then (0 : Int32) else (1 : Int32))) (fun j32_0 => pr1 (if (j22_0 = 0) then (0 : Int32) else (if (((ss 1) - (ss 1) / 2 * 2) = 0) then (1 : Int32) else (0 : Int32))) (fun j59_0 => (if (f_X6_its ss x1 (0 : Int32)) = 1 then j32_0 else (if (f_X6_its ss x1 (0 : Int32)) = 2 then j59_0 else (if (f_X6_its ss x1 (0 : Int32)) = 3 then (if (j32_0 = 0) then (if (((ss 1) - (ss 1) / 7 * 7) = 0) then (1 : Int32) else (0 : Int32)) else (1 : Int32)) else (if (f_X6_its ss x1 (0 : Int32)) = 4 then (if (j59_0 = 0) then (if ((ss 3) = ((2 : Int32) * (f_X6_its ss x1 (1 : Int32)))) then (1 : Int32) else (0 : Int32)) else (1 : Int32)) else (if (f_X6_its ss x1 (0 : Int32)) = 5 then (if ((ss 3) < (ss 8)) then (0 : Int32) else (1 : Int32)) else j22_0))))))), ())) → J τ κ 0 0 (wM τ a ss mhd mas mbf mih mtp mtn mtk mfr mtt mvl miw mld mrw mrn mso msz mnu mhw mhh mhm mbo mrr mak man maa mip) [(0, .ref (a 0)), (1, .int x1), (2, .int (f_X6_its ss x1 (1 : Int32)))] 30 [.int j22_0] := by
    intro j22_0 hzJ22 hR
    refine j_istore_n C dX6_sounds_30 31 rfl rfl (by decide) [(3, .int j22_0), (0, .ref (a 0)), (1, .int x1), (2, .int (f_X6_its ss x1 (1 : Int32)))] rfl ?_
    refine j_iload_n C dX6_sounds_31 32 rfl rfl 0 rfl ?_
    have J32 : ∀ (j32_0 : Int32), (narrow .boolean (.int j32_0) = .int j32_0) → Rt τ κ cX6_sounds .boolean (fun _ : Unit => (wM τ a ss mhd mas mbf mih mtp mtn mtk mfr mtt mvl miw mld mrw mrn mso msz mnu mhw mhh mhm mbo mrr mak man maa mip)) ((pr1 (if (j22_0 = 0) then (0 : Int32) else (if (((ss 1) - (ss 1) / 2 * 2) = 0) then (1 : Int32) else (0 : Int32))) (fun j59_0 => (if (f_X6_its ss x1 (0 : Int32)) = 1 then j32_0 else (if (f_X6_its ss x1 (0 : Int32)) = 2 then j59_0 else (if (f_X6_its ss x1 (0 : Int32)) = 3 then (if (j32_0 = 0) then (if (((ss 1) - (ss 1) / 7 * 7) = 0) then (1 : Int32) else (0 : Int32)) else (1 : Int32)) else (if (f_X6_its ss x1 (0 : Int32)) = 4 then (if (j59_0 = 0) then (if ((ss 3) = ((2 : Int32) * (f_X6_its ss x1 (1 : Int32)))) then (1 : Int32) else (0 : Int32)) else (1 : Int32)) else (if (f_X6_its ss x1 (0 : Int32)) = 5 then (if ((ss 3) < (ss 8)) then (0 : Int32) else (1 : Int32)) else j22_0)))))), ())) → J τ κ 0 0 (wM τ a ss mhd mas mbf mih mtp mtn mtk mfr mtt mvl miw mld mrw mrn mso msz mnu mhw mhh mhm mbo mrr mak man maa mip) [(0, .ref (a 0)), (1, .int x1), (2, .int (f_X6_its ss x1 (1 : Int32))), (3, .int j22_0)] 56 [.int j32_0] := by
      intro j32_0 hzJ32 hR
      refine j_istore C dX6_sounds_56 58 rfl (by decide) [(4, .int j32_0), (0, .ref (a 0)), (1, .int x1), (2, .int (f_X6_its ss x1 (1 : Int32))), (3, .int j22_0)] rfl ?_
      refine j_iload_n C dX6_sounds_58 59 rfl rfl 4 rfl ?_
      have J59 : ∀ (j59_0 : Int32), (narrow .boolean (.int j59_0) = .int j59_0) → Rt τ κ cX6_sounds .boolean (fun _ : Unit => (wM τ a ss mhd mas mbf mih mtp mtn mtk mfr mtt mvl miw mld mrw mrn mso msz mnu mhw mhh mhm mbo mrr mak man maa mip)) (((if (f_X6_its ss x1 (0 : Int32)) = 1 then j32_0 else (if (f_X6_its ss x1 (0 : Int32)) = 2 then j59_0 else (if (f_X6_its ss x1 (0 : Int32)) = 3 then (if (j32_0 = 0) then (if (((ss 1) - (ss 1) / 7 * 7) = 0) then (1 : Int32) else (0 : Int32)) else (1 : Int32)) else (if (f_X6_its ss x1 (0 : Int32)) = 4 then (if (j59_0 = 0) then (if ((ss 3) = ((2 : Int32) * (f_X6_its ss x1 (1 : Int32)))) then (1 : Int32) else (0 : Int32)) else (1 : Int32)) else (if (f_X6_its ss x1 (0 : Int32)) = 5 then (if ((ss 3) < (ss 8)) then (0 : Int32) else (1 : Int32)) else j22_0))))), ())) → J τ κ 0 0 (wM τ a ss mhd mas mbf mih mtp mtn mtk mfr mtt mvl miw mld mrw mrn mso msz mnu mhw mhh mhm mbo mrr mak man maa mip) [(0, .ref (a 0)), (1, .int x1), (2, .int (f_X6_its ss x1 (1 : Int32))), (3, .int j22_0), (4, .int j32_0)] 78 [.int j59_0] := by
        intro j59_0 hzJ59 hR
        refine j_istore C dX6_sounds_78 80 rfl (by decide) [(5, .int j59_0), (0, .ref (a 0)), (1, .int x1), (2, .int (f_X6_its ss x1 (1 : Int32))), (3, .int j22_0), (4, .int j32_0)] rfl ?_
        refine j_aload_n C dX6_sounds_80 81 rfl rfl 1 rfl ?_
        refine j_iload_n C dX6_sounds_81 82 rfl rfl 2 rfl ?_
        refine j_iconst (v := 0) C dX6_sounds_82 83 rfl (by decide) ?_
        refine j_cv0I (na := 2) C dX6_sounds_83 86 rfl (c_X6_its τ a ss mhd mas mbf mih mtp mtn mtk mfr mtt mvl miw mld mrw mrn mso msz mnu mhw mhh mhm mbo mrr mak man maa mip x1 (0 : Int32) (its_in (o := x1) (w := 0) (by first | assumption | exact vp_in_iff.mpr ⟨by omega, by omega⟩) (by decide))) gX6_sounds_X6_its rfl rfl rfl qd_X6_its rfl ⟨by decide, by decide⟩ ⟨by decide, by decide⟩ rfl (Nat.le_of_ble_eq_true rfl) rfl 6 0 rfl rfl (fun r8 u8 hX8 hn8 => ?_)
        obtain rfl := (Prod.mk.inj hX8).1
        by_cases c9 : (f_X6_its ss x1 (0 : Int32)) = 1
        · rw [if_pos c9] at hR
          refine j_tabIn C dX6_sounds_86 (by rw [c9]; decide) (by rw [c9]; decide) (by rw [c9]; rfl) 120 rfl ?_
          refine j_iload C dX6_sounds_120 122 rfl 5 rfl ?_
          exact Rt.ret (hR) (by assumption) dX6_sounds_122
        rw [if_neg c9] at hR
        by_cases c10 : (f_X6_its ss x1 (0 : Int32)) = 2
        · rw [if_pos c10] at hR
          refine j_tabIn C dX6_sounds_86 (by rw [c10]; decide) (by rw [c10]; decide) (by rw [c10]; rfl) 123 rfl ?_
          refine j_iload C dX6_sounds_123 125 rfl 0 rfl ?_
          exact Rt.ret (hR) (by assumption) dX6_sounds_125
        rw [if_neg c10] at hR
        by_cases c13 : (f_X6_its ss x1 (0 : Int32)) = 3
        · rw [if_pos c13] at hR
          refine j_tabIn C dX6_sounds_86 (by rw [c13]; decide) (by rw [c13]; decide) (by rw [c13]; rfl) 126 rfl ?_
          refine j_iload C dX6_sounds_126 128 rfl 5 rfl ?_
          refine j_if_ne C dX6_sounds_128 143 rfl 131 rfl (fun c11 => ?_) (fun c11 => ?_)
          · rw [if_neg c11] at hR
            refine j_iconst (v := 1) C dX6_sounds_143 144 rfl (by decide) ?_
            refine j_goto C dX6_sounds_144 148 rfl ?_
            exact Rt.ret (hR) (show narrow .boolean (.int (1 : Int32)) = .int (1 : Int32) from rfl) dX6_sounds_148
          · rw [if_pos c11] at hR
            refine j_aload_n C dX6_sounds_131 132 rfl rfl 1 rfl ?_
            refine j_get C dX6_sounds_132 135 rfl hiX6 0 rfl rfl 0 (by decide) rfl kX6_sounds_f7 rfl ?_
            refine j_iconst (v := 1) C dX6_sounds_135 136 rfl (by decide) ?_
            refine j_iald C dX6_sounds_136 137 rfl 1 rfl (by unfold vp_in; decide) 1 rfl ?_
            refine j_bipush (v := 7) C dX6_sounds_137 139 rfl (by decide) ?_
            refine j_irem C dX6_sounds_139 140 rfl (by decide) ?_
            refine j_if_ne C dX6_sounds_140 147 rfl 143 rfl (fun c12 => ?_) (fun c12 => ?_)
            · rw [if_neg c12] at hR
              refine j_iconst (v := 0) C dX6_sounds_147 148 rfl (by decide) ?_
              exact Rt.ret (hR) (show narrow .boolean (.int (0 : Int32)) = .int (0 : Int32) from rfl) dX6_sounds_148
            · rw [if_pos c12] at hR
              refine j_iconst (v := 1) C dX6_sounds_143 144 rfl (by decide) ?_
              refine j_goto C dX6_sounds_144 148 rfl ?_
              exact Rt.ret (hR) (show narrow .boolean (.int (1 : Int32)) = .int (1 : Int32) from rfl) dX6_sounds_148
        rw [if_neg c13] at hR
        by_cases c16 : (f_X6_its ss x1 (0 : Int32)) = 4
        · rw [if_pos c16] at hR
          refine j_tabIn C dX6_sounds_86 (by rw [c16]; decide) (by rw [c16]; decide) (by rw [c16]; rfl) 149 rfl ?_
          refine j_iload C dX6_sounds_149 151 rfl 0 rfl ?_
          refine j_if_ne C dX6_sounds_151 166 rfl 154 rfl (fun c14 => ?_) (fun c14 => ?_)
          · rw [if_neg c14] at hR
            refine j_iconst (v := 1) C dX6_sounds_166 167 rfl (by decide) ?_
            refine j_goto C dX6_sounds_167 171 rfl ?_
            exact Rt.ret (hR) (show narrow .boolean (.int (1 : Int32)) = .int (1 : Int32) from rfl) dX6_sounds_171
          · rw [if_pos c14] at hR
            refine j_aload_n C dX6_sounds_154 155 rfl rfl 1 rfl ?_
            refine j_get C dX6_sounds_155 158 rfl hiX6 0 rfl rfl 0 (by decide) rfl kX6_sounds_f7 rfl ?_
            refine j_iconst (v := 3) C dX6_sounds_158 159 rfl (by decide) ?_
            refine j_iald C dX6_sounds_159 160 rfl 1 rfl (by unfold vp_in; decide) 3 rfl ?_
            refine j_iconst (v := 2) C dX6_sounds_160 161 rfl (by decide) ?_
            refine j_iload_n C dX6_sounds_161 162 rfl rfl 3 rfl ?_
            refine j_imul C dX6_sounds_162 163 rfl ?_
            refine j_icmp_ne C dX6_sounds_163 170 rfl 166 rfl (fun c15 => ?_) (fun c15 => ?_)
            · rw [if_neg c15] at hR
              refine j_iconst (v := 0) C dX6_sounds_170 171 rfl (by decide) ?_
              exact Rt.ret (hR) (show narrow .boolean (.int (0 : Int32)) = .int (0 : Int32) from rfl) dX6_sounds_171
            · rw [if_pos c15] at hR
              refine j_iconst (v := 1) C dX6_sounds_166 167 rfl (by decide) ?_
              refine j_goto C dX6_sounds_167 171 rfl ?_
              exact Rt.ret (hR) (show narrow .boolean (.int (1 : Int32)) = .int (1 : Int32) from rfl) dX6_sounds_171
        rw [if_neg c16] at hR
        by_cases c18 : (f_X6_its ss x1 (0 : Int32)) = 5
        · rw [if_pos c18] at hR
          refine j_tabIn C dX6_sounds_86 (by rw [c18]; decide) (by rw [c18]; decide) (by rw [c18]; rfl) 172 rfl ?_
          refine j_aload_n C dX6_sounds_172 173 rfl rfl 1 rfl ?_
          refine j_get C dX6_sounds_173 176 rfl hiX6 0 rfl rfl 0 (by decide) rfl kX6_sounds_f7 rfl ?_
          refine j_iconst (v := 3) C dX6_sounds_176 177 rfl (by decide) ?_
          refine j_iald C dX6_sounds_177 178 rfl 1 rfl (by unfold vp_in; decide) 3 rfl ?_
          refine j_aload_n C dX6_sounds_178 179 rfl rfl 1 rfl ?_
          refine j_get C dX6_sounds_179 182 rfl hiX6 0 rfl rfl 0 (by decide) rfl kX6_sounds_f7 rfl ?_
          refine j_bipush (v := 8) C dX6_sounds_182 184 rfl (by decide) ?_
          refine j_iald C dX6_sounds_184 185 rfl 1 rfl (by unfold vp_in; decide) 8 rfl ?_
          refine j_icmp_lt C dX6_sounds_185 192 rfl 188 rfl (fun c17 => ?_) (fun c17 => ?_)
          · rw [if_pos c17] at hR
            refine j_iconst (v := 0) C dX6_sounds_192 193 rfl (by decide) ?_
            exact Rt.ret (hR) (show narrow .boolean (.int (0 : Int32)) = .int (0 : Int32) from rfl) dX6_sounds_193
          · rw [if_neg c17] at hR
            refine j_iconst (v := 1) C dX6_sounds_188 189 rfl (by decide) ?_
            refine j_goto C dX6_sounds_189 193 rfl ?_
            exact Rt.ret (hR) (show narrow .boolean (.int (1 : Int32)) = .int (1 : Int32) from rfl) dX6_sounds_193
        rw [if_neg c18] at hR
        refine j_tabOut C dX6_sounds_86 (by have n9 := lv_neT (a := 1) c9 (by decide); have n10 := lv_neT (a := 2) c10 (by decide); have n13 := lv_neT (a := 3) c13 (by decide); have n16 := lv_neT (a := 4) c16 (by decide); have n18 := lv_neT (a := 5) c18 (by decide); omega) 194 rfl ?_
        refine j_iload_n C dX6_sounds_194 195 rfl rfl 4 rfl ?_
        exact Rt.ret (hR) (by assumption) dX6_sounds_195
      refine j_if_eq C dX6_sounds_59 77 rfl 62 rfl (fun c6 => ?_) (fun c6 => ?_)
      · rw [if_pos c6] at hR
        refine j_iconst (v := 0) C dX6_sounds_77 78 rfl (by decide) ?_
        rw [pr1_mk (0 : Int32)] at hR
        exact j_lv [1, 2, 3, 4, 0] [(0, .ref (a 0)), (1, .int x1), (2, .int (f_X6_its ss x1 (1 : Int32))), (3, .int j22_0), (4, .int j32_0)] rfl (J59 _ (rfl) hR)
      · rw [if_neg c6] at hR
        refine j_aload_n C dX6_sounds_62 63 rfl rfl 1 rfl ?_
        refine j_get C dX6_sounds_63 66 rfl hiX6 0 rfl rfl 0 (by decide) rfl kX6_sounds_f7 rfl ?_
        refine j_iconst (v := 1) C dX6_sounds_66 67 rfl (by decide) ?_
        refine j_iald C dX6_sounds_67 68 rfl 1 rfl (by unfold vp_in; decide) 1 rfl ?_
        refine j_iconst (v := 2) C dX6_sounds_68 69 rfl (by decide) ?_
        refine j_irem C dX6_sounds_69 70 rfl (by decide) ?_
        refine j_if_ne C dX6_sounds_70 77 rfl 73 rfl (fun c7 => ?_) (fun c7 => ?_)
        · rw [if_neg c7] at hR
          refine j_iconst (v := 0) C dX6_sounds_77 78 rfl (by decide) ?_
          rw [pr1_mk (0 : Int32)] at hR
          exact j_lv [1, 2, 3, 4, 0] [(0, .ref (a 0)), (1, .int x1), (2, .int (f_X6_its ss x1 (1 : Int32))), (3, .int j22_0), (4, .int j32_0)] rfl (J59 _ (rfl) hR)
        · rw [if_pos c7] at hR
          refine j_iconst (v := 1) C dX6_sounds_73 74 rfl (by decide) ?_
          refine j_goto C dX6_sounds_74 78 rfl ?_
          rw [pr1_mk (1 : Int32)] at hR
          exact j_lv [1, 2, 3, 4, 0] [(0, .ref (a 0)), (1, .int x1), (2, .int (f_X6_its ss x1 (1 : Int32))), (3, .int j22_0), (4, .int j32_0)] rfl (J59 _ (rfl) hR)
    refine j_if_eq C dX6_sounds_32 55 rfl 35 rfl (fun c4 => ?_) (fun c4 => ?_)
    · rw [if_pos c4] at hR
      refine j_iconst (v := 0) C dX6_sounds_55 56 rfl (by decide) ?_
      rw [pr1_mk (0 : Int32)] at hR
      exact j_lv [1, 2, 3, 0] [(0, .ref (a 0)), (1, .int x1), (2, .int (f_X6_its ss x1 (1 : Int32))), (3, .int j22_0)] rfl (J32 _ (rfl) hR)
    · rw [if_neg c4] at hR
      refine j_aload_n C dX6_sounds_35 36 rfl rfl 1 rfl ?_
      refine j_get C dX6_sounds_36 39 rfl hiX6 0 rfl rfl 0 (by decide) rfl kX6_sounds_f7 rfl ?_
      refine j_iconst (v := 3) C dX6_sounds_39 40 rfl (by decide) ?_
      refine j_iald C dX6_sounds_40 41 rfl 1 rfl (by unfold vp_in; decide) 3 rfl ?_
      refine j_aload_n C dX6_sounds_41 42 rfl rfl 1 rfl ?_
      refine j_get C dX6_sounds_42 45 rfl hiX6 0 rfl rfl 0 (by decide) rfl kX6_sounds_f7 rfl ?_
      refine j_bipush (v := 7) C dX6_sounds_45 47 rfl (by decide) ?_
      refine j_iald C dX6_sounds_47 48 rfl 1 rfl (by unfold vp_in; decide) 7 rfl ?_
      refine j_icmp_lt C dX6_sounds_48 55 rfl 51 rfl (fun c5 => ?_) (fun c5 => ?_)
      · rw [if_pos c5] at hR
        refine j_iconst (v := 0) C dX6_sounds_55 56 rfl (by decide) ?_
        rw [pr1_mk (0 : Int32)] at hR
        exact j_lv [1, 2, 3, 0] [(0, .ref (a 0)), (1, .int x1), (2, .int (f_X6_its ss x1 (1 : Int32))), (3, .int j22_0)] rfl (J32 _ (rfl) hR)
      · rw [if_neg c5] at hR
        refine j_iconst (v := 1) C dX6_sounds_51 52 rfl (by decide) ?_
        refine j_goto C dX6_sounds_52 56 rfl ?_
        rw [pr1_mk (1 : Int32)] at hR
        exact j_lv [1, 2, 3, 0] [(0, .ref (a 0)), (1, .int x1), (2, .int (f_X6_its ss x1 (1 : Int32))), (3, .int j22_0)] rfl (J32 _ (rfl) hR)
  refine j_if_ne C dX6_sounds_22 29 rfl 25 rfl (fun c3 => ?_) (fun c3 => ?_)
  · rw [if_neg c3] at hR
    refine j_iconst (v := 0) C dX6_sounds_29 30 rfl (by decide) ?_
    rw [pr1_mk (0 : Int32)] at hR
    exact j_lv [1, 2, 0] [(0, .ref (a 0)), (1, .int x1), (2, .int (f_X6_its ss x1 (1 : Int32)))] rfl (J22 _ (rfl) hR)
  · rw [if_pos c3] at hR
    refine j_iconst (v := 1) C dX6_sounds_25 26 rfl (by decide) ?_
    refine j_goto C dX6_sounds_26 30 rfl ?_
    rw [pr1_mk (1 : Int32)] at hR
    exact j_lv [1, 2, 0] [(0, .ref (a 0)), (1, .int x1), (2, .int (f_X6_its ss x1 (1 : Int32)))] rfl (J22 _ (rfl) hR)

-- X6_reaches
def f_X6_reaches (ss : Nat → Int32) (x1 : Int32) : Int32 := (if (f_X6_its ss x1 (0 : Int32)) = 1 then ((2 : Int32) + (ss 7)) else (if (f_X6_its ss x1 (0 : Int32)) = 2 then (1 : Int32) else (if (f_X6_its ss x1 (0 : Int32)) = 3 then ((2 : Int32) * ((2 : Int32) + (ss 7))) else (if (f_X6_its ss x1 (0 : Int32)) = 4 then ((1 : Int32) + ((f_X6_its ss x1 (2 : Int32)) / 3)) else (if (f_X6_its ss x1 (0 : Int32)) = 5 then (6 : Int32) else (2 : Int32))))))
theorem kX6_reaches_f7 : Cond.fieldLink RX6 7 "TwoMinutesModel" "s" "[I" ∈ wsX6_reaches := by decide +kernel
theorem qd_X6_reaches : yX6_reaches.cls = RX6 ∧ yX6_reaches.cls ≠ "java/lang/invoke/MethodHandle" ∧ yX6_reaches.cls ≠ "java/lang/invoke/VarHandle" ∧ (parseMethodDescriptor yX6_reaches.desc).map (fun d => d.parameters.length) = some 1 := by decide +kernel
abbrev rmX6_reaches : Room := { frames := 1, cells := 0, slots := 0, locals := 22 }
set_option maxHeartbeats 4000000 in
set_option maxRecDepth 100000 in
theorem c_X6_reaches (τ : SX) (a : Nat → Nat) (ss : Nat → Int32) (mhd : Nat → Int32) (mas : Nat → Int32) (mbf : Nat → Int32) (mih : Int32) (mtp : Nat → Int32) (mtn : Int32) (mtk : Int32) (mfr : Int32) (mtt : Int32) (mvl : Int32) (miw : Int32) (mld : Nat → Int32) (mrw : Nat → Int32) (mrn : Int32) (mso : Nat → Int32) (msz : Nat → Int32) (mnu : Nat → Int32) (mhw : Nat → Int32) (mhh : Nat → Int32) (mhm : Nat → Int32) (mbo : Nat → Int32) (mrr : Int32) (mak : Int32) (man : Int32) (maa : Int32) (mip : Int32) (x1 : Int32) (hv : vp_in x1 8) (sz : Nat) : McI τ yX6_reaches wsX6_reaches rmX6_reaches .int [.ref (a 0), .int x1] (wM τ a ss mhd mas mbf mih mtp mtn mtk mfr mtt mvl miw mld mrw mrn mso msz mnu mhw mhh mhm mbo mrr mak man maa mip) (fun _ : Unit => (wM τ a ss mhd mas mbf mih mtp mtn mtk mfr mtt mvl miw mld mrw mrn mso msz mnu mhw mhh mhm mbo mrr mak man maa mip)) (f_X6_reaches ss x1, ()) sz := by
  refine mc_I (cc := cX6_reaches) (own := RX6) [(0, .ref (a 0)), (1, .int x1)] rfl (by decide) rfl rfl (Nat.le_of_ble_eq_true rfl) (fun κ C hR => ?_)
  have hiX6 : ∀ w ∈ wsX60, w ∈ wsX6_reaches := fun w h => List.mem_cons_of_mem _ (List.mem_append_right _ h)
  unfold f_X6_reaches at hR
  refine j_aload_n C dX6_reaches_0 1 rfl rfl 0 rfl ?_
  refine j_iload_n C dX6_reaches_1 2 rfl rfl 1 rfl ?_
  refine j_iconst (v := 0) C dX6_reaches_2 3 rfl (by decide) ?_
  refine j_cv0I (na := 2) C dX6_reaches_3 6 rfl (c_X6_its τ a ss mhd mas mbf mih mtp mtn mtk mfr mtt mvl miw mld mrw mrn mso msz mnu mhw mhh mhm mbo mrr mak man maa mip x1 (0 : Int32) (its_in (o := x1) (w := 0) (by first | assumption | exact vp_in_iff.mpr ⟨by omega, by omega⟩) (by decide))) gX6_reaches_X6_its rfl rfl rfl qd_X6_its rfl ⟨by decide, by decide⟩ ⟨by decide, by decide⟩ rfl (Nat.le_of_ble_eq_true rfl) rfl 6 0 rfl rfl (fun r1 u1 hX1 hn1 => ?_)
  obtain rfl := (Prod.mk.inj hX1).1
  by_cases c2 : (f_X6_its ss x1 (0 : Int32)) = 1
  · rw [if_pos c2] at hR
    refine j_tabIn C dX6_reaches_6 (by rw [c2]; decide) (by rw [c2]; decide) (by rw [c2]; rfl) 40 rfl ?_
    refine j_iconst (v := 2) C dX6_reaches_40 41 rfl (by decide) ?_
    refine j_aload_n C dX6_reaches_41 42 rfl rfl 0 rfl ?_
    refine j_get C dX6_reaches_42 45 rfl hiX6 0 rfl rfl 0 (by decide) rfl kX6_reaches_f7 rfl ?_
    refine j_bipush (v := 7) C dX6_reaches_45 47 rfl (by decide) ?_
    refine j_iald C dX6_reaches_47 48 rfl 1 rfl (by unfold vp_in; decide) 7 rfl ?_
    refine j_iadd C dX6_reaches_48 49 rfl ?_
    exact Rt.ret (hR) rfl dX6_reaches_49
  rw [if_neg c2] at hR
  by_cases c3 : (f_X6_its ss x1 (0 : Int32)) = 2
  · rw [if_pos c3] at hR
    refine j_tabIn C dX6_reaches_6 (by rw [c3]; decide) (by rw [c3]; decide) (by rw [c3]; rfl) 50 rfl ?_
    refine j_iconst (v := 1) C dX6_reaches_50 51 rfl (by decide) ?_
    exact Rt.ret (hR) rfl dX6_reaches_51
  rw [if_neg c3] at hR
  by_cases c4 : (f_X6_its ss x1 (0 : Int32)) = 3
  · rw [if_pos c4] at hR
    refine j_tabIn C dX6_reaches_6 (by rw [c4]; decide) (by rw [c4]; decide) (by rw [c4]; rfl) 52 rfl ?_
    refine j_iconst (v := 2) C dX6_reaches_52 53 rfl (by decide) ?_
    refine j_iconst (v := 2) C dX6_reaches_53 54 rfl (by decide) ?_
    refine j_aload_n C dX6_reaches_54 55 rfl rfl 0 rfl ?_
    refine j_get C dX6_reaches_55 58 rfl hiX6 0 rfl rfl 0 (by decide) rfl kX6_reaches_f7 rfl ?_
    refine j_bipush (v := 7) C dX6_reaches_58 60 rfl (by decide) ?_
    refine j_iald C dX6_reaches_60 61 rfl 1 rfl (by unfold vp_in; decide) 7 rfl ?_
    refine j_iadd C dX6_reaches_61 62 rfl ?_
    refine j_imul C dX6_reaches_62 63 rfl ?_
    exact Rt.ret (hR) rfl dX6_reaches_63
  rw [if_neg c4] at hR
  by_cases c6 : (f_X6_its ss x1 (0 : Int32)) = 4
  · rw [if_pos c6] at hR
    refine j_tabIn C dX6_reaches_6 (by rw [c6]; decide) (by rw [c6]; decide) (by rw [c6]; rfl) 64 rfl ?_
    refine j_iconst (v := 1) C dX6_reaches_64 65 rfl (by decide) ?_
    refine j_aload_n C dX6_reaches_65 66 rfl rfl 0 rfl ?_
    refine j_iload_n C dX6_reaches_66 67 rfl rfl 1 rfl ?_
    refine j_iconst (v := 2) C dX6_reaches_67 68 rfl (by decide) ?_
    refine j_cv0I (na := 2) C dX6_reaches_68 71 rfl (c_X6_its τ a ss mhd mas mbf mih mtp mtn mtk mfr mtt mvl miw mld mrw mrn mso msz mnu mhw mhh mhm mbo mrr mak man maa mip x1 (2 : Int32) (its_in (o := x1) (w := 2) (by first | assumption | exact vp_in_iff.mpr ⟨by omega, by omega⟩) (by decide))) gX6_reaches_X6_its rfl rfl rfl qd_X6_its rfl ⟨by decide, by decide⟩ ⟨by decide, by decide⟩ rfl (Nat.le_of_ble_eq_true rfl) rfl 6 0 rfl rfl (fun r5 u5 hX5 hn5 => ?_)
    obtain rfl := (Prod.mk.inj hX5).1
    refine j_iconst (v := 3) C dX6_reaches_71 72 rfl (by decide) ?_
    refine j_idiv C dX6_reaches_72 73 rfl (by decide) ?_
    refine j_iadd C dX6_reaches_73 74 rfl ?_
    exact Rt.ret (hR) rfl dX6_reaches_74
  rw [if_neg c6] at hR
  by_cases c7 : (f_X6_its ss x1 (0 : Int32)) = 5
  · rw [if_pos c7] at hR
    refine j_tabIn C dX6_reaches_6 (by rw [c7]; decide) (by rw [c7]; decide) (by rw [c7]; rfl) 75 rfl ?_
    refine j_bipush (v := 6) C dX6_reaches_75 77 rfl (by decide) ?_
    exact Rt.ret (hR) rfl dX6_reaches_77
  rw [if_neg c7] at hR
  refine j_tabOut C dX6_reaches_6 (by have n2 := lv_neT (a := 1) c2 (by decide); have n3 := lv_neT (a := 2) c3 (by decide); have n4 := lv_neT (a := 3) c4 (by decide); have n6 := lv_neT (a := 4) c6 (by decide); have n7 := lv_neT (a := 5) c7 (by decide); omega) 78 rfl ?_
  refine j_iconst (v := 2) C dX6_reaches_78 79 rfl (by decide) ?_
  exact Rt.ret (hR) rfl dX6_reaches_79

-- X6_sounding
def l_X6_sounding_4 (ss : Nat → Int32) : Nat → Int32 → Int32 → Int32 × Int32
  | 0, x1, x2 => (x1, x2)
  | N + 1, x1, x2 => if ((ss 0) ≤ x2) then (x1, x2) else (pr1 (if ((f_X6_sounds ss x2) = 0) then (0 : Int32) else ((1 : Int32) <<< (x2 &&& 31))) (fun j20_0 => l_X6_sounding_4 ss N (x1 ||| j20_0) (x2 + 1)))
def f_X6_sounding (ss : Nat → Int32) : Int32 := pr2 (l_X6_sounding_4 ss 300 (0 : Int32) (0 : Int32)) (fun x1_1 x2_1 => x1_1)
theorem kX6_sounding_f7 : Cond.fieldLink RX6 7 "TwoMinutesModel" "s" "[I" ∈ wsX6_sounding := by decide +kernel
theorem qd_X6_sounding : yX6_sounding.cls = RX6 ∧ yX6_sounding.cls ≠ "java/lang/invoke/MethodHandle" ∧ yX6_sounding.cls ≠ "java/lang/invoke/VarHandle" ∧ (parseMethodDescriptor yX6_sounding.desc).map (fun d => d.parameters.length) = some 0 := by decide +kernel
abbrev rmX6_sounding : Room := { frames := 2, cells := 0, slots := 0, locals := 47 }
set_option maxHeartbeats 4000000 in
set_option maxRecDepth 100000 in
theorem L_X6_sounding_4 {τ : SX} {κ : KX} (C : Cx τ κ cX6_sounding RX6 wsX6_sounding rmX6_sounding 3) (a : Nat → Nat) (ss : Nat → Int32) (mhd : Nat → Int32) (mas : Nat → Int32) (mbf : Nat → Int32) (mih : Int32) (mtp : Nat → Int32) (mtn : Int32) (mtk : Int32) (mfr : Int32) (mtt : Int32) (mvl : Int32) (miw : Int32) (mld : Nat → Int32) (mrw : Nat → Int32) (mrn : Int32) (mso : Nat → Int32) (msz : Nat → Int32) (mnu : Nat → Int32) (mhw : Nat → Int32) (mhh : Nat → Int32) (mhm : Nat → Int32) (mbo : Nat → Int32) (mrr : Int32) (mak : Int32) (man : Int32) (maa : Int32) (mip : Int32) (hok : okS ss) (Φ : Int32 × Int32 → Prop) (hE : ∀ (x1 : Int32) (x2 : Int32), Φ (x1, x2) → J τ κ 0 0 (wM τ a ss mhd mas mbf mih mtp mtn mtk mfr mtt mvl miw mld mrw mrn mso msz mnu mhw mhh mhm mbo mrr mak man maa mip) [(0, .ref (a 0)), (1, .int x1), (2, .int x2)] 38 []) : ∀ (N : Nat) (x1 : Int32) (x2 : Int32), ((8 : Int) - x2.toInt).toNat < N → (0 ≤ x2.toInt) → (x2.toInt ≤ 8) → Φ (l_X6_sounding_4 ss N x1 x2) → J τ κ 0 0 (wM τ a ss mhd mas mbf mih mtp mtn mtk mfr mtt mvl miw mld mrw mrn mso msz mnu mhw mhh mhm mbo mrr mak man maa mip) [(0, .ref (a 0)), (1, .int x1), (2, .int x2)] 4 [] := by
  have hiX6 : ∀ w ∈ wsX60, w ∈ wsX6_sounding := fun w h => List.mem_cons_of_mem _ (List.mem_append_right _ h)
  intro N
  induction N with
  | zero => intro x1 x2 hm; exact absurd hm (Nat.not_lt_zero _)
  | succ N ih =>
    intro x1 x2 hm h0 h1 hR
    rw [l_X6_sounding_4] at hR
    refine j_iload_n C dX6_sounding_4 5 rfl rfl 2 rfl ?_
    refine j_aload_n C dX6_sounding_5 6 rfl rfl 0 rfl ?_
    refine j_get C dX6_sounding_6 9 rfl hiX6 0 rfl rfl 0 (by decide) rfl kX6_sounding_f7 rfl ?_
    refine j_iconst (v := 0) C dX6_sounding_9 10 rfl (by decide) ?_
    refine j_iald C dX6_sounding_10 11 rfl 1 rfl (by unfold vp_in; decide) 0 rfl ?_
    refine j_icmp_ge C dX6_sounding_11 38 rfl 14 rfl (fun c2 => ?_) (fun c2 => ?_)
    · rw [if_pos c2] at hR
      exact j_lv [0, 1, 2] [(0, .ref (a 0)), (1, .int x1), (2, .int x2)] rfl (hE _ _  hR)
    · rw [if_neg c2] at hR
      have hs := cnt_step (B := 8) h0 (hok.2.1) (by decide) c2
      have hlt := mt i32_le.mpr c2
      refine j_iload_n C dX6_sounding_14 15 rfl rfl 1 rfl ?_
      refine j_aload_n C dX6_sounding_15 16 rfl rfl 0 rfl ?_
      refine j_iload_n C dX6_sounding_16 17 rfl rfl 2 rfl ?_
      refine j_cv0I (na := 1) C dX6_sounding_17 20 rfl (c_X6_sounds τ a ss mhd mas mbf mih mtp mtn mtk mfr mtt mvl miw mld mrw mrn mso msz mnu mhw mhh mhm mbo mrr mak man maa mip x2 (by first | assumption | decide | exact ok_bt (by assumption) (by first | assumption | omega) (by omega) | exact vp_in_iff.mpr ⟨by omega, by omega⟩ | omega) (by first | assumption | decide | exact ok_bt (by assumption) (by first | assumption | omega) (by omega) | exact vp_in_iff.mpr ⟨by omega, by omega⟩ | omega)) gX6_sounding_X6_sounds rfl rfl rfl qd_X6_sounds rfl ⟨by decide, by decide⟩ ⟨by decide, by decide⟩ rfl (Nat.le_of_ble_eq_true rfl) rfl 6 0 rfl rfl (fun r3 u3 hX3 hn3 => ?_)
      obtain rfl := (Prod.mk.inj hX3).1
      have J20 : ∀ (j20_0 : Int32), Φ (l_X6_sounding_4 ss N (x1 ||| j20_0) (x2 + 1)) → J τ κ 0 0 (wM τ a ss mhd mas mbf mih mtp mtn mtk mfr mtt mvl miw mld mrw mrn mso msz mnu mhw mhh mhm mbo mrr mak man maa mip) [(0, .ref (a 0)), (1, .int x1), (2, .int x2)] 30 [.int j20_0, .int x1] := by
        intro j20_0  hR
        refine j_ior C dX6_sounding_30 31 rfl ?_
        refine j_istore_n C dX6_sounding_31 32 rfl rfl (by decide) [(1, .int (x1 ||| j20_0)), (0, .ref (a 0)), (2, .int x2)] rfl ?_
        refine j_iinc (v := (x2 + 1)) C dX6_sounding_32 35 rfl 2 rfl rfl (by decide) [(2, .int (x2 + 1)), (1, .int (x1 ||| j20_0)), (0, .ref (a 0))] rfl ?_
        refine j_goto C dX6_sounding_35 4 rfl ?_
        exact j_lv [2, 1, 0] [(0, .ref (a 0)), (1, .int (x1 ||| j20_0)), (2, .int (x2 + 1))] rfl (ih _ _ (by have := hs.2.2.1; omega) hs.1 hs.2.1 hR)
      refine j_if_eq C dX6_sounding_20 29 rfl 23 rfl (fun c4 => ?_) (fun c4 => ?_)
      · rw [if_pos c4] at hR
        refine j_iconst (v := 0) C dX6_sounding_29 30 rfl (by decide) ?_
        rw [pr1_mk (0 : Int32)] at hR
        exact j_lv [0, 1, 2] [(0, .ref (a 0)), (1, .int x1), (2, .int x2)] rfl (J20 _  hR)
      · rw [if_neg c4] at hR
        refine j_iconst (v := 1) C dX6_sounding_23 24 rfl (by decide) ?_
        refine j_iload_n C dX6_sounding_24 25 rfl rfl 2 rfl ?_
        refine j_ishl C dX6_sounding_25 26 rfl ?_
        refine j_goto C dX6_sounding_26 30 rfl ?_
        rw [pr1_mk ((1 : Int32) <<< (x2 &&& 31))] at hR
        exact j_lv [0, 1, 2] [(0, .ref (a 0)), (1, .int x1), (2, .int x2)] rfl (J20 _  hR)
set_option maxHeartbeats 4000000 in
set_option maxRecDepth 100000 in
theorem c_X6_sounding (τ : SX) (a : Nat → Nat) (ss : Nat → Int32) (mhd : Nat → Int32) (mas : Nat → Int32) (mbf : Nat → Int32) (mih : Int32) (mtp : Nat → Int32) (mtn : Int32) (mtk : Int32) (mfr : Int32) (mtt : Int32) (mvl : Int32) (miw : Int32) (mld : Nat → Int32) (mrw : Nat → Int32) (mrn : Int32) (mso : Nat → Int32) (msz : Nat → Int32) (mnu : Nat → Int32) (mhw : Nat → Int32) (mhh : Nat → Int32) (mhm : Nat → Int32) (mbo : Nat → Int32) (mrr : Int32) (mak : Int32) (man : Int32) (maa : Int32) (mip : Int32) (hok : okS ss) (sz : Nat) : McI τ yX6_sounding wsX6_sounding rmX6_sounding .int [.ref (a 0)] (wM τ a ss mhd mas mbf mih mtp mtn mtk mfr mtt mvl miw mld mrw mrn mso msz mnu mhw mhh mhm mbo mrr mak man maa mip) (fun _ : Unit => (wM τ a ss mhd mas mbf mih mtp mtn mtk mfr mtt mvl miw mld mrw mrn mso msz mnu mhw mhh mhm mbo mrr mak man maa mip)) (f_X6_sounding ss, ()) sz := by
  refine mc_I (cc := cX6_sounding) (own := RX6) [(0, .ref (a 0))] rfl (by decide) rfl rfl (Nat.le_of_ble_eq_true rfl) (fun κ C hR => ?_)
  have hiX6 : ∀ w ∈ wsX60, w ∈ wsX6_sounding := fun w h => List.mem_cons_of_mem _ (List.mem_append_right _ h)
  unfold f_X6_sounding at hR
  refine j_iconst (v := 0) C dX6_sounding_0 1 rfl (by decide) ?_
  refine j_istore_n C dX6_sounding_1 2 rfl rfl (by decide) [(1, .int 0), (0, .ref (a 0))] rfl ?_
  refine j_iconst (v := 0) C dX6_sounding_2 3 rfl (by decide) ?_
  refine j_istore_n C dX6_sounding_3 4 rfl rfl (by decide) [(2, .int 0), (1, .int 0), (0, .ref (a 0))] rfl ?_
  refine j_lv [2, 1, 0] [(0, .ref (a 0)), (1, .int 0), (2, .int 0)] rfl (L_X6_sounding_4 C a ss mhd mas mbf mih mtp mtn mtk mfr mtt mvl miw mld mrw mrn mso msz mnu mhw mhh mhm mbo mrr mak man maa mip  hok (fun (o : Int32 × Int32) => Rt τ κ cX6_sounding .int (fun _ : Unit => (wM τ a ss mhd mas mbf mih mtp mtn mtk mfr mtt mvl miw mld mrw mrn mso msz mnu mhw mhh mhm mbo mrr mak man maa mip)) ((pr2 o (fun x1_1 x2_1 => x1_1), ()))) (fun x1_1 x2_1  hR => ?_) 300 (0 : Int32) (0 : Int32) (by decide) (by decide) (by decide) hR)
  rw [pr2_mk x1_1 x2_1] at hR
  refine j_iload_n C dX6_sounding_38 39 rfl rfl 1 rfl ?_
  exact Rt.ret (hR) rfl dX6_sounding_39

-- X6_heardOf
def l_X6_heardOf_5 (ss : Nat → Int32) (x1 : Int32) (x2 : Int32) : Nat → Int32 → Int32 → Int32 × Int32
  | 0, x3, x4 => (x3, x4)
  | N + 1, x3, x4 => if ((ss 0) ≤ x4) then (x3, x4) else (pr1 (if (((x1 >>> (x4 &&& 31)) &&& 1) = 1) then (if ((f_X6_reaches ss x4) < (f_X6_stepsOff (f_X6_its ss x4 (3 : Int32)) x2)) then (0 : Int32) else ((1 : Int32) <<< (x4 &&& 31))) else (0 : Int32)) (fun j24_0 => l_X6_heardOf_5 ss x1 x2 N (x3 ||| j24_0) (x4 + 1)))
def f_X6_heardOf (ss : Nat → Int32) (x1 : Int32) (x2 : Int32) : Int32 := pr2 (l_X6_heardOf_5 ss x1 x2 300 (0 : Int32) (0 : Int32)) (fun x3_1 x4_1 => x3_1)
theorem kX6_heardOf_f7 : Cond.fieldLink RX6 7 "TwoMinutesModel" "s" "[I" ∈ wsX6_heardOf := by decide +kernel
theorem kX6_heardOf_iRX6 : Cond.initialized yX6_stepsOff.cls ∈ wsX6_heardOf := by decide +kernel
theorem kX6_heardOf_sX6_stepsOff : Cond.static yX6_stepsOff ∈ wsX6_heardOf := by decide +kernel
theorem kX6_heardOf_m180 : Cond.methodLink RX6 180 yX6_stepsOff ∈ wsX6_heardOf := by decide +kernel
theorem qd_X6_heardOf : yX6_heardOf.cls = RX6 ∧ yX6_heardOf.cls ≠ "java/lang/invoke/MethodHandle" ∧ yX6_heardOf.cls ≠ "java/lang/invoke/VarHandle" ∧ (parseMethodDescriptor yX6_heardOf.desc).map (fun d => d.parameters.length) = some 2 := by decide +kernel
abbrev rmX6_heardOf : Room := { frames := 2, cells := 0, slots := 0, locals := 43 }
set_option maxHeartbeats 4000000 in
set_option maxRecDepth 100000 in
theorem L_X6_heardOf_5 {τ : SX} {κ : KX} (C : Cx τ κ cX6_heardOf RX6 wsX6_heardOf rmX6_heardOf 5) (a : Nat → Nat) (ss : Nat → Int32) (mhd : Nat → Int32) (mas : Nat → Int32) (mbf : Nat → Int32) (mih : Int32) (mtp : Nat → Int32) (mtn : Int32) (mtk : Int32) (mfr : Int32) (mtt : Int32) (mvl : Int32) (miw : Int32) (mld : Nat → Int32) (mrw : Nat → Int32) (mrn : Int32) (mso : Nat → Int32) (msz : Nat → Int32) (mnu : Nat → Int32) (mhw : Nat → Int32) (mhh : Nat → Int32) (mhm : Nat → Int32) (mbo : Nat → Int32) (mrr : Int32) (mak : Int32) (man : Int32) (maa : Int32) (mip : Int32) (x1 : Int32) (x2 : Int32) (hok : okS ss) (Φ : Int32 × Int32 → Prop) (hE : ∀ (x3 : Int32) (x4 : Int32), Φ (x3, x4) → J τ κ 0 0 (wM τ a ss mhd mas mbf mih mtp mtn mtk mfr mtt mvl miw mld mrw mrn mso msz mnu mhw mhh mhm mbo mrr mak man maa mip) [(0, .ref (a 0)), (1, .int x1), (2, .int x2), (3, .int x3), (4, .int x4)] 63 []) : ∀ (N : Nat) (x3 : Int32) (x4 : Int32), ((8 : Int) - x4.toInt).toNat < N → (0 ≤ x4.toInt) → (x4.toInt ≤ 8) → Φ (l_X6_heardOf_5 ss x1 x2 N x3 x4) → J τ κ 0 0 (wM τ a ss mhd mas mbf mih mtp mtn mtk mfr mtt mvl miw mld mrw mrn mso msz mnu mhw mhh mhm mbo mrr mak man maa mip) [(0, .ref (a 0)), (1, .int x1), (2, .int x2), (3, .int x3), (4, .int x4)] 5 [] := by
  have hiX6 : ∀ w ∈ wsX60, w ∈ wsX6_heardOf := fun w h => List.mem_cons_of_mem _ (List.mem_append_right _ h)
  intro N
  induction N with
  | zero => intro x3 x4 hm; exact absurd hm (Nat.not_lt_zero _)
  | succ N ih =>
    intro x3 x4 hm h0 h1 hR
    rw [l_X6_heardOf_5] at hR
    refine j_iload C dX6_heardOf_5 7 rfl 4 rfl ?_
    refine j_aload_n C dX6_heardOf_7 8 rfl rfl 0 rfl ?_
    refine j_get C dX6_heardOf_8 11 rfl hiX6 0 rfl rfl 0 (by decide) rfl kX6_heardOf_f7 rfl ?_
    refine j_iconst (v := 0) C dX6_heardOf_11 12 rfl (by decide) ?_
    refine j_iald C dX6_heardOf_12 13 rfl 1 rfl (by unfold vp_in; decide) 0 rfl ?_
    refine j_icmp_ge C dX6_heardOf_13 63 rfl 16 rfl (fun c2 => ?_) (fun c2 => ?_)
    · rw [if_pos c2] at hR
      exact j_lv [0, 1, 2, 3, 4] [(0, .ref (a 0)), (1, .int x1), (2, .int x2), (3, .int x3), (4, .int x4)] rfl (hE _ _  hR)
    · rw [if_neg c2] at hR
      have hs := cnt_step (B := 8) h0 (hok.2.1) (by decide) c2
      refine j_iload_n C dX6_heardOf_16 17 rfl rfl 3 rfl ?_
      refine j_iload_n C dX6_heardOf_17 18 rfl rfl 1 rfl ?_
      refine j_iload C dX6_heardOf_18 20 rfl 4 rfl ?_
      refine j_ishr C dX6_heardOf_20 21 rfl ?_
      refine j_iconst (v := 1) C dX6_heardOf_21 22 rfl (by decide) ?_
      refine j_iand C dX6_heardOf_22 23 rfl ?_
      refine j_iconst (v := 1) C dX6_heardOf_23 24 rfl (by decide) ?_
      have J24 : ∀ (j24_0 : Int32), Φ (l_X6_heardOf_5 ss x1 x2 N (x3 ||| j24_0) (x4 + 1)) → J τ κ 0 0 (wM τ a ss mhd mas mbf mih mtp mtn mtk mfr mtt mvl miw mld mrw mrn mso msz mnu mhw mhh mhm mbo mrr mak man maa mip) [(0, .ref (a 0)), (1, .int x1), (2, .int x2), (3, .int x3), (4, .int x4)] 55 [.int j24_0, .int x3] := by
        intro j24_0  hR
        refine j_ior C dX6_heardOf_55 56 rfl ?_
        refine j_istore_n C dX6_heardOf_56 57 rfl rfl (by decide) [(3, .int (x3 ||| j24_0)), (0, .ref (a 0)), (1, .int x1), (2, .int x2), (4, .int x4)] rfl ?_
        refine j_iinc (v := (x4 + 1)) C dX6_heardOf_57 60 rfl 4 rfl rfl (by decide) [(4, .int (x4 + 1)), (3, .int (x3 ||| j24_0)), (0, .ref (a 0)), (1, .int x1), (2, .int x2)] rfl ?_
        refine j_goto C dX6_heardOf_60 5 rfl ?_
        exact j_lv [2, 3, 4, 1, 0] [(0, .ref (a 0)), (1, .int x1), (2, .int x2), (3, .int (x3 ||| j24_0)), (4, .int (x4 + 1))] rfl (ih _ _ (by have := hs.2.2.1; omega) hs.1 hs.2.1 hR)
      refine j_icmp_ne C dX6_heardOf_24 54 rfl 27 rfl (fun c3 => ?_) (fun c3 => ?_)
      · rw [if_neg c3] at hR
        refine j_iconst (v := 0) C dX6_heardOf_54 55 rfl (by decide) ?_
        rw [pr1_mk (0 : Int32)] at hR
        exact j_lv [0, 1, 2, 3, 4] [(0, .ref (a 0)), (1, .int x1), (2, .int x2), (3, .int x3), (4, .int x4)] rfl (J24 _  hR)
      · rw [if_pos c3] at hR
        refine j_aload_n C dX6_heardOf_27 28 rfl rfl 0 rfl ?_
        refine j_iload C dX6_heardOf_28 30 rfl 4 rfl ?_
        refine j_iconst (v := 3) C dX6_heardOf_30 31 rfl (by decide) ?_
        refine j_cv0I (na := 2) C dX6_heardOf_31 34 rfl (c_X6_its τ a ss mhd mas mbf mih mtp mtn mtk mfr mtt mvl miw mld mrw mrn mso msz mnu mhw mhh mhm mbo mrr mak man maa mip x4 (3 : Int32) (its_in (o := x4) (w := 3) (by first | assumption | exact vp_in_iff.mpr ⟨by omega, by omega⟩) (by decide))) gX6_heardOf_X6_its rfl rfl rfl qd_X6_its rfl ⟨by decide, by decide⟩ ⟨by decide, by decide⟩ rfl (Nat.le_of_ble_eq_true rfl) rfl 6 0 rfl rfl (fun r4 u4 hX4 hn4 => ?_)
        obtain rfl := (Prod.mk.inj hX4).1
        refine j_iload_n C dX6_heardOf_34 35 rfl rfl 2 rfl ?_
        refine j_cs0I (na := 2) C dX6_heardOf_35 38 rfl (c_X6_stepsOff τ  (f_X6_its ss x4 (3 : Int32)) x2 ) rfl ggX6_heardOf_X6_stepsOff rfl rfl rfl kX6_heardOf_iRX6 kX6_heardOf_m180 kX6_heardOf_sX6_stepsOff qd_X6_stepsOff rfl ⟨by decide, by decide⟩ ⟨by decide, by decide⟩ rfl (Nat.le_of_ble_eq_true rfl) (fun r5 u5 hX5 hn5 => ?_)
        obtain rfl := (Prod.mk.inj hX5).1
        refine j_aload_n C dX6_heardOf_38 39 rfl rfl 0 rfl ?_
        refine j_iload C dX6_heardOf_39 41 rfl 4 rfl ?_
        refine j_cv0I (na := 1) C dX6_heardOf_41 44 rfl (c_X6_reaches τ a ss mhd mas mbf mih mtp mtn mtk mfr mtt mvl miw mld mrw mrn mso msz mnu mhw mhh mhm mbo mrr mak man maa mip x4 (by first | assumption | decide | exact ok_bt (by assumption) (by first | assumption | omega) (by omega) | exact vp_in_iff.mpr ⟨by omega, by omega⟩ | omega)) gX6_heardOf_X6_reaches rfl rfl rfl qd_X6_reaches rfl ⟨by decide, by decide⟩ ⟨by decide, by decide⟩ rfl (Nat.le_of_ble_eq_true rfl) rfl 6 0 rfl rfl (fun r6 u6 hX6 hn6 => ?_)
        obtain rfl := (Prod.mk.inj hX6).1
        refine j_icmp_gt C dX6_heardOf_44 54 rfl 47 rfl (fun c7 => ?_) (fun c7 => ?_)
        · rw [if_pos c7] at hR
          refine j_iconst (v := 0) C dX6_heardOf_54 55 rfl (by decide) ?_
          rw [pr1_mk (0 : Int32)] at hR
          exact j_lv [0, 1, 2, 3, 4] [(0, .ref (a 0)), (1, .int x1), (2, .int x2), (3, .int x3), (4, .int x4)] rfl (J24 _  hR)
        · rw [if_neg c7] at hR
          refine j_iconst (v := 1) C dX6_heardOf_47 48 rfl (by decide) ?_
          refine j_iload C dX6_heardOf_48 50 rfl 4 rfl ?_
          refine j_ishl C dX6_heardOf_50 51 rfl ?_
          refine j_goto C dX6_heardOf_51 55 rfl ?_
          rw [pr1_mk ((1 : Int32) <<< (x4 &&& 31))] at hR
          exact j_lv [0, 1, 2, 3, 4] [(0, .ref (a 0)), (1, .int x1), (2, .int x2), (3, .int x3), (4, .int x4)] rfl (J24 _  hR)
set_option maxHeartbeats 4000000 in
set_option maxRecDepth 100000 in
theorem c_X6_heardOf (τ : SX) (a : Nat → Nat) (ss : Nat → Int32) (mhd : Nat → Int32) (mas : Nat → Int32) (mbf : Nat → Int32) (mih : Int32) (mtp : Nat → Int32) (mtn : Int32) (mtk : Int32) (mfr : Int32) (mtt : Int32) (mvl : Int32) (miw : Int32) (mld : Nat → Int32) (mrw : Nat → Int32) (mrn : Int32) (mso : Nat → Int32) (msz : Nat → Int32) (mnu : Nat → Int32) (mhw : Nat → Int32) (mhh : Nat → Int32) (mhm : Nat → Int32) (mbo : Nat → Int32) (mrr : Int32) (mak : Int32) (man : Int32) (maa : Int32) (mip : Int32) (x1 : Int32) (x2 : Int32) (hok : okS ss) (sz : Nat) : McI τ yX6_heardOf wsX6_heardOf rmX6_heardOf .int [.ref (a 0), .int x1, .int x2] (wM τ a ss mhd mas mbf mih mtp mtn mtk mfr mtt mvl miw mld mrw mrn mso msz mnu mhw mhh mhm mbo mrr mak man maa mip) (fun _ : Unit => (wM τ a ss mhd mas mbf mih mtp mtn mtk mfr mtt mvl miw mld mrw mrn mso msz mnu mhw mhh mhm mbo mrr mak man maa mip)) (f_X6_heardOf ss x1 x2, ()) sz := by
  refine mc_I (cc := cX6_heardOf) (own := RX6) [(0, .ref (a 0)), (1, .int x1), (2, .int x2)] rfl (by decide) rfl rfl (Nat.le_of_ble_eq_true rfl) (fun κ C hR => ?_)
  have hiX6 : ∀ w ∈ wsX60, w ∈ wsX6_heardOf := fun w h => List.mem_cons_of_mem _ (List.mem_append_right _ h)
  unfold f_X6_heardOf at hR
  refine j_iconst (v := 0) C dX6_heardOf_0 1 rfl (by decide) ?_
  refine j_istore_n C dX6_heardOf_1 2 rfl rfl (by decide) [(3, .int 0), (0, .ref (a 0)), (1, .int x1), (2, .int x2)] rfl ?_
  refine j_iconst (v := 0) C dX6_heardOf_2 3 rfl (by decide) ?_
  refine j_istore C dX6_heardOf_3 5 rfl (by decide) [(4, .int 0), (3, .int 0), (0, .ref (a 0)), (1, .int x1), (2, .int x2)] rfl ?_
  refine j_lv [2, 3, 4, 1, 0] [(0, .ref (a 0)), (1, .int x1), (2, .int x2), (3, .int 0), (4, .int 0)] rfl (L_X6_heardOf_5 C a ss mhd mas mbf mih mtp mtn mtk mfr mtt mvl miw mld mrw mrn mso msz mnu mhw mhh mhm mbo mrr mak man maa mip x1 x2 hok (fun (o : Int32 × Int32) => Rt τ κ cX6_heardOf .int (fun _ : Unit => (wM τ a ss mhd mas mbf mih mtp mtn mtk mfr mtt mvl miw mld mrw mrn mso msz mnu mhw mhh mhm mbo mrr mak man maa mip)) ((pr2 o (fun x3_1 x4_1 => x3_1), ()))) (fun x3_1 x4_1  hR => ?_) 300 (0 : Int32) (0 : Int32) (by decide) (by decide) (by decide) hR)
  rw [pr2_mk x3_1 x4_1] at hR
  refine j_iload_n C dX6_heardOf_63 64 rfl rfl 3 rfl ?_
  exact Rt.ret (hR) rfl dX6_heardOf_64

-- X6_thoseAt
def l_X6_thoseAt_4 (ss : Nat → Int32) (x1 : Int32) : Nat → Int32 → Int32 → Int32 × Int32
  | 0, x2, x3 => (x2, x3)
  | N + 1, x2, x3 => if ((ss 0) ≤ x3) then (x2, x3) else (pr1 (if ((f_X6_its ss x3 (3 : Int32)) = x1) then ((1 : Int32) <<< (x3 &&& 31)) else (0 : Int32)) (fun j22_0 => l_X6_thoseAt_4 ss x1 N (x2 ||| j22_0) (x3 + 1)))
def f_X6_thoseAt (ss : Nat → Int32) (x1 : Int32) : Int32 := pr2 (l_X6_thoseAt_4 ss x1 300 (0 : Int32) (0 : Int32)) (fun x2_1 x3_1 => x2_1)
theorem kX6_thoseAt_f7 : Cond.fieldLink RX6 7 "TwoMinutesModel" "s" "[I" ∈ wsX6_thoseAt := by decide +kernel
theorem qd_X6_thoseAt : yX6_thoseAt.cls = RX6 ∧ yX6_thoseAt.cls ≠ "java/lang/invoke/MethodHandle" ∧ yX6_thoseAt.cls ≠ "java/lang/invoke/VarHandle" ∧ (parseMethodDescriptor yX6_thoseAt.desc).map (fun d => d.parameters.length) = some 1 := by decide +kernel
abbrev rmX6_thoseAt : Room := { frames := 1, cells := 0, slots := 0, locals := 22 }
set_option maxHeartbeats 4000000 in
set_option maxRecDepth 100000 in
theorem L_X6_thoseAt_4 {τ : SX} {κ : KX} (C : Cx τ κ cX6_thoseAt RX6 wsX6_thoseAt rmX6_thoseAt 4) (a : Nat → Nat) (ss : Nat → Int32) (mhd : Nat → Int32) (mas : Nat → Int32) (mbf : Nat → Int32) (mih : Int32) (mtp : Nat → Int32) (mtn : Int32) (mtk : Int32) (mfr : Int32) (mtt : Int32) (mvl : Int32) (miw : Int32) (mld : Nat → Int32) (mrw : Nat → Int32) (mrn : Int32) (mso : Nat → Int32) (msz : Nat → Int32) (mnu : Nat → Int32) (mhw : Nat → Int32) (mhh : Nat → Int32) (mhm : Nat → Int32) (mbo : Nat → Int32) (mrr : Int32) (mak : Int32) (man : Int32) (maa : Int32) (mip : Int32) (x1 : Int32) (hok : okS ss) (Φ : Int32 × Int32 → Prop) (hE : ∀ (x2 : Int32) (x3 : Int32), Φ (x2, x3) → J τ κ 0 0 (wM τ a ss mhd mas mbf mih mtp mtn mtk mfr mtt mvl miw mld mrw mrn mso msz mnu mhw mhh mhm mbo mrr mak man maa mip) [(0, .ref (a 0)), (1, .int x1), (2, .int x2), (3, .int x3)] 40 []) : ∀ (N : Nat) (x2 : Int32) (x3 : Int32), ((8 : Int) - x3.toInt).toNat < N → (0 ≤ x3.toInt) → (x3.toInt ≤ 8) → Φ (l_X6_thoseAt_4 ss x1 N x2 x3) → J τ κ 0 0 (wM τ a ss mhd mas mbf mih mtp mtn mtk mfr mtt mvl miw mld mrw mrn mso msz mnu mhw mhh mhm mbo mrr mak man maa mip) [(0, .ref (a 0)), (1, .int x1), (2, .int x2), (3, .int x3)] 4 [] := by
  have hiX6 : ∀ w ∈ wsX60, w ∈ wsX6_thoseAt := fun w h => List.mem_cons_of_mem _ (List.mem_append_right _ h)
  intro N
  induction N with
  | zero => intro x2 x3 hm; exact absurd hm (Nat.not_lt_zero _)
  | succ N ih =>
    intro x2 x3 hm h0 h1 hR
    rw [l_X6_thoseAt_4] at hR
    refine j_iload_n C dX6_thoseAt_4 5 rfl rfl 3 rfl ?_
    refine j_aload_n C dX6_thoseAt_5 6 rfl rfl 0 rfl ?_
    refine j_get C dX6_thoseAt_6 9 rfl hiX6 0 rfl rfl 0 (by decide) rfl kX6_thoseAt_f7 rfl ?_
    refine j_iconst (v := 0) C dX6_thoseAt_9 10 rfl (by decide) ?_
    refine j_iald C dX6_thoseAt_10 11 rfl 1 rfl (by unfold vp_in; decide) 0 rfl ?_
    refine j_icmp_ge C dX6_thoseAt_11 40 rfl 14 rfl (fun c2 => ?_) (fun c2 => ?_)
    · rw [if_pos c2] at hR
      exact j_lv [0, 1, 2, 3] [(0, .ref (a 0)), (1, .int x1), (2, .int x2), (3, .int x3)] rfl (hE _ _  hR)
    · rw [if_neg c2] at hR
      have hs := cnt_step (B := 8) h0 (hok.2.1) (by decide) c2
      refine j_iload_n C dX6_thoseAt_14 15 rfl rfl 2 rfl ?_
      refine j_aload_n C dX6_thoseAt_15 16 rfl rfl 0 rfl ?_
      refine j_iload_n C dX6_thoseAt_16 17 rfl rfl 3 rfl ?_
      refine j_iconst (v := 3) C dX6_thoseAt_17 18 rfl (by decide) ?_
      refine j_cv0I (na := 2) C dX6_thoseAt_18 21 rfl (c_X6_its τ a ss mhd mas mbf mih mtp mtn mtk mfr mtt mvl miw mld mrw mrn mso msz mnu mhw mhh mhm mbo mrr mak man maa mip x3 (3 : Int32) (its_in (o := x3) (w := 3) (by first | assumption | exact vp_in_iff.mpr ⟨by omega, by omega⟩) (by decide))) gX6_thoseAt_X6_its rfl rfl rfl qd_X6_its rfl ⟨by decide, by decide⟩ ⟨by decide, by decide⟩ rfl (Nat.le_of_ble_eq_true rfl) rfl 6 0 rfl rfl (fun r3 u3 hX3 hn3 => ?_)
      obtain rfl := (Prod.mk.inj hX3).1
      refine j_iload_n C dX6_thoseAt_21 22 rfl rfl 1 rfl ?_
      have J22 : ∀ (j22_0 : Int32), Φ (l_X6_thoseAt_4 ss x1 N (x2 ||| j22_0) (x3 + 1)) → J τ κ 0 0 (wM τ a ss mhd mas mbf mih mtp mtn mtk mfr mtt mvl miw mld mrw mrn mso msz mnu mhw mhh mhm mbo mrr mak man maa mip) [(0, .ref (a 0)), (1, .int x1), (2, .int x2), (3, .int x3)] 32 [.int j22_0, .int x2] := by
        intro j22_0  hR
        refine j_ior C dX6_thoseAt_32 33 rfl ?_
        refine j_istore_n C dX6_thoseAt_33 34 rfl rfl (by decide) [(2, .int (x2 ||| j22_0)), (0, .ref (a 0)), (1, .int x1), (3, .int x3)] rfl ?_
        refine j_iinc (v := (x3 + 1)) C dX6_thoseAt_34 37 rfl 3 rfl rfl (by decide) [(3, .int (x3 + 1)), (2, .int (x2 ||| j22_0)), (0, .ref (a 0)), (1, .int x1)] rfl ?_
        refine j_goto C dX6_thoseAt_37 4 rfl ?_
        exact j_lv [2, 3, 1, 0] [(0, .ref (a 0)), (1, .int x1), (2, .int (x2 ||| j22_0)), (3, .int (x3 + 1))] rfl (ih _ _ (by have := hs.2.2.1; omega) hs.1 hs.2.1 hR)
      refine j_icmp_ne C dX6_thoseAt_22 31 rfl 25 rfl (fun c4 => ?_) (fun c4 => ?_)
      · rw [if_neg c4] at hR
        refine j_iconst (v := 0) C dX6_thoseAt_31 32 rfl (by decide) ?_
        rw [pr1_mk (0 : Int32)] at hR
        exact j_lv [0, 1, 2, 3] [(0, .ref (a 0)), (1, .int x1), (2, .int x2), (3, .int x3)] rfl (J22 _  hR)
      · rw [if_pos c4] at hR
        refine j_iconst (v := 1) C dX6_thoseAt_25 26 rfl (by decide) ?_
        refine j_iload_n C dX6_thoseAt_26 27 rfl rfl 3 rfl ?_
        refine j_ishl C dX6_thoseAt_27 28 rfl ?_
        refine j_goto C dX6_thoseAt_28 32 rfl ?_
        rw [pr1_mk ((1 : Int32) <<< (x3 &&& 31))] at hR
        exact j_lv [0, 1, 2, 3] [(0, .ref (a 0)), (1, .int x1), (2, .int x2), (3, .int x3)] rfl (J22 _  hR)
set_option maxHeartbeats 4000000 in
set_option maxRecDepth 100000 in
theorem c_X6_thoseAt (τ : SX) (a : Nat → Nat) (ss : Nat → Int32) (mhd : Nat → Int32) (mas : Nat → Int32) (mbf : Nat → Int32) (mih : Int32) (mtp : Nat → Int32) (mtn : Int32) (mtk : Int32) (mfr : Int32) (mtt : Int32) (mvl : Int32) (miw : Int32) (mld : Nat → Int32) (mrw : Nat → Int32) (mrn : Int32) (mso : Nat → Int32) (msz : Nat → Int32) (mnu : Nat → Int32) (mhw : Nat → Int32) (mhh : Nat → Int32) (mhm : Nat → Int32) (mbo : Nat → Int32) (mrr : Int32) (mak : Int32) (man : Int32) (maa : Int32) (mip : Int32) (x1 : Int32) (hok : okS ss) (sz : Nat) : McI τ yX6_thoseAt wsX6_thoseAt rmX6_thoseAt .int [.ref (a 0), .int x1] (wM τ a ss mhd mas mbf mih mtp mtn mtk mfr mtt mvl miw mld mrw mrn mso msz mnu mhw mhh mhm mbo mrr mak man maa mip) (fun _ : Unit => (wM τ a ss mhd mas mbf mih mtp mtn mtk mfr mtt mvl miw mld mrw mrn mso msz mnu mhw mhh mhm mbo mrr mak man maa mip)) (f_X6_thoseAt ss x1, ()) sz := by
  refine mc_I (cc := cX6_thoseAt) (own := RX6) [(0, .ref (a 0)), (1, .int x1)] rfl (by decide) rfl rfl (Nat.le_of_ble_eq_true rfl) (fun κ C hR => ?_)
  have hiX6 : ∀ w ∈ wsX60, w ∈ wsX6_thoseAt := fun w h => List.mem_cons_of_mem _ (List.mem_append_right _ h)
  unfold f_X6_thoseAt at hR
  refine j_iconst (v := 0) C dX6_thoseAt_0 1 rfl (by decide) ?_
  refine j_istore_n C dX6_thoseAt_1 2 rfl rfl (by decide) [(2, .int 0), (0, .ref (a 0)), (1, .int x1)] rfl ?_
  refine j_iconst (v := 0) C dX6_thoseAt_2 3 rfl (by decide) ?_
  refine j_istore_n C dX6_thoseAt_3 4 rfl rfl (by decide) [(3, .int 0), (2, .int 0), (0, .ref (a 0)), (1, .int x1)] rfl ?_
  refine j_lv [2, 3, 1, 0] [(0, .ref (a 0)), (1, .int x1), (2, .int 0), (3, .int 0)] rfl (L_X6_thoseAt_4 C a ss mhd mas mbf mih mtp mtn mtk mfr mtt mvl miw mld mrw mrn mso msz mnu mhw mhh mhm mbo mrr mak man maa mip x1 hok (fun (o : Int32 × Int32) => Rt τ κ cX6_thoseAt .int (fun _ : Unit => (wM τ a ss mhd mas mbf mih mtp mtn mtk mfr mtt mvl miw mld mrw mrn mso msz mnu mhw mhh mhm mbo mrr mak man maa mip)) ((pr2 o (fun x2_1 x3_1 => x2_1), ()))) (fun x2_1 x3_1  hR => ?_) 300 (0 : Int32) (0 : Int32) (by decide) (by decide) (by decide) hR)
  rw [pr2_mk x2_1 x3_1] at hR
  refine j_iload_n C dX6_thoseAt_40 41 rfl rfl 2 rfl ?_
  exact Rt.ret (hR) rfl dX6_thoseAt_41

-- X6_noises
def l_X6_noises_4 (ss : Nat → Int32) : Nat → Int32 → Int32 → Int32 × Int32
  | 0, x1, x2 => (x1, x2)
  | N + 1, x1, x2 => if ((ss 0) ≤ x2) then (x1, x2) else (l_X6_noises_4 ss N (x1 + (f_X6_its ss x2 (4 : Int32))) (x2 + 1))
def f_X6_noises (ss : Nat → Int32) : Int32 := pr2 (l_X6_noises_4 ss 300 (0 : Int32) (0 : Int32)) (fun x1_1 x2_1 => x1_1)
theorem kX6_noises_f7 : Cond.fieldLink RX6 7 "TwoMinutesModel" "s" "[I" ∈ wsX6_noises := by decide +kernel
theorem qd_X6_noises : yX6_noises.cls = RX6 ∧ yX6_noises.cls ≠ "java/lang/invoke/MethodHandle" ∧ yX6_noises.cls ≠ "java/lang/invoke/VarHandle" ∧ (parseMethodDescriptor yX6_noises.desc).map (fun d => d.parameters.length) = some 0 := by decide +kernel
abbrev rmX6_noises : Room := { frames := 1, cells := 0, slots := 0, locals := 22 }
set_option maxHeartbeats 4000000 in
set_option maxRecDepth 100000 in
theorem L_X6_noises_4 {τ : SX} {κ : KX} (C : Cx τ κ cX6_noises RX6 wsX6_noises rmX6_noises 3) (a : Nat → Nat) (ss : Nat → Int32) (mhd : Nat → Int32) (mas : Nat → Int32) (mbf : Nat → Int32) (mih : Int32) (mtp : Nat → Int32) (mtn : Int32) (mtk : Int32) (mfr : Int32) (mtt : Int32) (mvl : Int32) (miw : Int32) (mld : Nat → Int32) (mrw : Nat → Int32) (mrn : Int32) (mso : Nat → Int32) (msz : Nat → Int32) (mnu : Nat → Int32) (mhw : Nat → Int32) (mhh : Nat → Int32) (mhm : Nat → Int32) (mbo : Nat → Int32) (mrr : Int32) (mak : Int32) (man : Int32) (maa : Int32) (mip : Int32) (hok : okS ss) (Φ : Int32 × Int32 → Prop) (hE : ∀ (x1 : Int32) (x2 : Int32), Φ (x1, x2) → J τ κ 0 0 (wM τ a ss mhd mas mbf mih mtp mtn mtk mfr mtt mvl miw mld mrw mrn mso msz mnu mhw mhh mhm mbo mrr mak man maa mip) [(0, .ref (a 0)), (1, .int x1), (2, .int x2)] 29 []) : ∀ (N : Nat) (x1 : Int32) (x2 : Int32), ((8 : Int) - x2.toInt).toNat < N → (0 ≤ x2.toInt) → (x2.toInt ≤ 8) → Φ (l_X6_noises_4 ss N x1 x2) → J τ κ 0 0 (wM τ a ss mhd mas mbf mih mtp mtn mtk mfr mtt mvl miw mld mrw mrn mso msz mnu mhw mhh mhm mbo mrr mak man maa mip) [(0, .ref (a 0)), (1, .int x1), (2, .int x2)] 4 [] := by
  have hiX6 : ∀ w ∈ wsX60, w ∈ wsX6_noises := fun w h => List.mem_cons_of_mem _ (List.mem_append_right _ h)
  intro N
  induction N with
  | zero => intro x1 x2 hm; exact absurd hm (Nat.not_lt_zero _)
  | succ N ih =>
    intro x1 x2 hm h0 h1 hR
    rw [l_X6_noises_4] at hR
    refine j_iload_n C dX6_noises_4 5 rfl rfl 2 rfl ?_
    refine j_aload_n C dX6_noises_5 6 rfl rfl 0 rfl ?_
    refine j_get C dX6_noises_6 9 rfl hiX6 0 rfl rfl 0 (by decide) rfl kX6_noises_f7 rfl ?_
    refine j_iconst (v := 0) C dX6_noises_9 10 rfl (by decide) ?_
    refine j_iald C dX6_noises_10 11 rfl 1 rfl (by unfold vp_in; decide) 0 rfl ?_
    refine j_icmp_ge C dX6_noises_11 29 rfl 14 rfl (fun c2 => ?_) (fun c2 => ?_)
    · rw [if_pos c2] at hR
      exact j_lv [0, 1, 2] [(0, .ref (a 0)), (1, .int x1), (2, .int x2)] rfl (hE _ _  hR)
    · rw [if_neg c2] at hR
      have hs := cnt_step (B := 8) h0 (hok.2.1) (by decide) c2
      refine j_iload_n C dX6_noises_14 15 rfl rfl 1 rfl ?_
      refine j_aload_n C dX6_noises_15 16 rfl rfl 0 rfl ?_
      refine j_iload_n C dX6_noises_16 17 rfl rfl 2 rfl ?_
      refine j_iconst (v := 4) C dX6_noises_17 18 rfl (by decide) ?_
      refine j_cv0I (na := 2) C dX6_noises_18 21 rfl (c_X6_its τ a ss mhd mas mbf mih mtp mtn mtk mfr mtt mvl miw mld mrw mrn mso msz mnu mhw mhh mhm mbo mrr mak man maa mip x2 (4 : Int32) (its_in (o := x2) (w := 4) (by first | assumption | exact vp_in_iff.mpr ⟨by omega, by omega⟩) (by decide))) gX6_noises_X6_its rfl rfl rfl qd_X6_its rfl ⟨by decide, by decide⟩ ⟨by decide, by decide⟩ rfl (Nat.le_of_ble_eq_true rfl) rfl 6 0 rfl rfl (fun r3 u3 hX3 hn3 => ?_)
      obtain rfl := (Prod.mk.inj hX3).1
      refine j_iadd C dX6_noises_21 22 rfl ?_
      refine j_istore_n C dX6_noises_22 23 rfl rfl (by decide) [(1, .int (x1 + (f_X6_its ss x2 (4 : Int32)))), (0, .ref (a 0)), (2, .int x2)] rfl ?_
      refine j_iinc (v := (x2 + 1)) C dX6_noises_23 26 rfl 2 rfl rfl (by decide) [(2, .int (x2 + 1)), (1, .int (x1 + (f_X6_its ss x2 (4 : Int32)))), (0, .ref (a 0))] rfl ?_
      refine j_goto C dX6_noises_26 4 rfl ?_
      exact j_lv [2, 1, 0] [(0, .ref (a 0)), (1, .int (x1 + (f_X6_its ss x2 (4 : Int32)))), (2, .int (x2 + 1))] rfl (ih _ _ (by have := hs.2.2.1; omega) hs.1 hs.2.1 hR)
set_option maxHeartbeats 4000000 in
set_option maxRecDepth 100000 in
theorem c_X6_noises (τ : SX) (a : Nat → Nat) (ss : Nat → Int32) (mhd : Nat → Int32) (mas : Nat → Int32) (mbf : Nat → Int32) (mih : Int32) (mtp : Nat → Int32) (mtn : Int32) (mtk : Int32) (mfr : Int32) (mtt : Int32) (mvl : Int32) (miw : Int32) (mld : Nat → Int32) (mrw : Nat → Int32) (mrn : Int32) (mso : Nat → Int32) (msz : Nat → Int32) (mnu : Nat → Int32) (mhw : Nat → Int32) (mhh : Nat → Int32) (mhm : Nat → Int32) (mbo : Nat → Int32) (mrr : Int32) (mak : Int32) (man : Int32) (maa : Int32) (mip : Int32) (hok : okS ss) (sz : Nat) : McI τ yX6_noises wsX6_noises rmX6_noises .int [.ref (a 0)] (wM τ a ss mhd mas mbf mih mtp mtn mtk mfr mtt mvl miw mld mrw mrn mso msz mnu mhw mhh mhm mbo mrr mak man maa mip) (fun _ : Unit => (wM τ a ss mhd mas mbf mih mtp mtn mtk mfr mtt mvl miw mld mrw mrn mso msz mnu mhw mhh mhm mbo mrr mak man maa mip)) (f_X6_noises ss, ()) sz := by
  refine mc_I (cc := cX6_noises) (own := RX6) [(0, .ref (a 0))] rfl (by decide) rfl rfl (Nat.le_of_ble_eq_true rfl) (fun κ C hR => ?_)
  have hiX6 : ∀ w ∈ wsX60, w ∈ wsX6_noises := fun w h => List.mem_cons_of_mem _ (List.mem_append_right _ h)
  unfold f_X6_noises at hR
  refine j_iconst (v := 0) C dX6_noises_0 1 rfl (by decide) ?_
  refine j_istore_n C dX6_noises_1 2 rfl rfl (by decide) [(1, .int 0), (0, .ref (a 0))] rfl ?_
  refine j_iconst (v := 0) C dX6_noises_2 3 rfl (by decide) ?_
  refine j_istore_n C dX6_noises_3 4 rfl rfl (by decide) [(2, .int 0), (1, .int 0), (0, .ref (a 0))] rfl ?_
  refine j_lv [2, 1, 0] [(0, .ref (a 0)), (1, .int 0), (2, .int 0)] rfl (L_X6_noises_4 C a ss mhd mas mbf mih mtp mtn mtk mfr mtt mvl miw mld mrw mrn mso msz mnu mhw mhh mhm mbo mrr mak man maa mip  hok (fun (o : Int32 × Int32) => Rt τ κ cX6_noises .int (fun _ : Unit => (wM τ a ss mhd mas mbf mih mtp mtn mtk mfr mtt mvl miw mld mrw mrn mso msz mnu mhw mhh mhm mbo mrr mak man maa mip)) ((pr2 o (fun x1_1 x2_1 => x1_1), ()))) (fun x1_1 x2_1  hR => ?_) 300 (0 : Int32) (0 : Int32) (by decide) (by decide) (by decide) hR)
  rw [pr2_mk x1_1 x2_1] at hR
  refine j_iload_n C dX6_noises_29 30 rfl rfl 1 rfl ?_
  exact Rt.ret (hR) rfl dX6_noises_30

