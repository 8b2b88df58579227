-- J6_numberOfTrailingZeros_0f7a4
def f_J6_numberOfTrailingZeros_0f7a4 (x0 : Int32) : Int32 := if (0 < ((x0 ^^^ (-1)) &&& (x0 - 1))) then (pr2 (if (((x0 ^^^ (-1)) &&& (x0 - 1)) ≤ 65536) then (((x0 ^^^ (-1)) &&& (x0 - 1)), (1 : Int32)) else (pr1 ((((x0 ^^^ (-1)) &&& (x0 - 1)).toUInt32 >>> ((16 : Int32).toUInt32 &&& Int32.toUInt32 31)).toInt32) (fun n3 => (n3, (17 : Int32))))) (fun j23_0 j23_1 => pr2 (if (j23_0 ≤ 256) then (j23_0, j23_1) else (((j23_0.toUInt32 >>> ((8 : Int32).toUInt32 &&& Int32.toUInt32 31)).toInt32), (j23_1 + 8))) (fun j38_0 j38_1 => pr2 (if (j38_0 ≤ 16) then (j38_0, j38_1) else (((j38_0.toUInt32 >>> ((4 : Int32).toUInt32 &&& Int32.toUInt32 31)).toInt32), (j38_1 + 4))) (fun j52_0 j52_1 => pr2 (if (j52_0 ≤ 4) then (j52_0, j52_1) else (((j52_0.toUInt32 >>> ((2 : Int32).toUInt32 &&& Int32.toUInt32 31)).toInt32), (j52_1 + 2))) (fun j64_0 j64_1 => (j64_1 + ((j64_0.toUInt32 >>> ((1 : Int32).toUInt32 &&& Int32.toUInt32 31)).toInt32))))))) else (((x0 ^^^ (-1)) &&& (x0 - 1)) &&& 32)
theorem kJ6_numberOfTrailingZeros_0f7a4_c264 : Cond.constant RJ6 264 65536 ∈ wsJ6_numberOfTrailingZeros_0f7a4 := by decide +kernel
theorem qd_J6_numberOfTrailingZeros_0f7a4 : yJ6_numberOfTrailingZeros_0f7a4.cls ≠ "java/lang/invoke/MethodHandle" ∧ yJ6_numberOfTrailingZeros_0f7a4.cls ≠ "java/lang/invoke/VarHandle" ∧ (parseMethodDescriptor yJ6_numberOfTrailingZeros_0f7a4.desc).map (fun d => d.parameters.length) = some 1 := by decide +kernel
abbrev rmJ6_numberOfTrailingZeros_0f7a4 : Room := { frames := 0, cells := 0, slots := 0, locals := 0 }
set_option maxHeartbeats 4000000 in
set_option maxRecDepth 100000 in
theorem c_J6_numberOfTrailingZeros_0f7a4 (τ : SX) (x0 : Int32) (sz : Nat) : McI τ yJ6_numberOfTrailingZeros_0f7a4 wsJ6_numberOfTrailingZeros_0f7a4 rmJ6_numberOfTrailingZeros_0f7a4 .int [.int x0] [] (fun _ : Unit => []) (f_J6_numberOfTrailingZeros_0f7a4 x0, ()) sz := by
  refine mc_I (cc := cJ6_numberOfTrailingZeros_0f7a4) (own := RJ6) [(0, .int x0)] rfl (by decide) rfl rfl (Nat.le_of_ble_eq_true rfl) (fun κ C hR => ?_)
  unfold f_J6_numberOfTrailingZeros_0f7a4 at hR
  refine j_iload_n C dJ6_numberOfTrailingZeros_0f7a4_0 1 rfl rfl 0 rfl ?_
  refine j_iconst (v := (-1)) C dJ6_numberOfTrailingZeros_0f7a4_1 2 rfl (by decide) ?_
  refine j_ixor C dJ6_numberOfTrailingZeros_0f7a4_2 3 rfl ?_
  refine j_iload_n C dJ6_numberOfTrailingZeros_0f7a4_3 4 rfl rfl 0 rfl ?_
  refine j_iconst (v := 1) C dJ6_numberOfTrailingZeros_0f7a4_4 5 rfl (by decide) ?_
  refine j_isub C dJ6_numberOfTrailingZeros_0f7a4_5 6 rfl ?_
  refine j_iand C dJ6_numberOfTrailingZeros_0f7a4_6 7 rfl ?_
  refine j_istore_n C dJ6_numberOfTrailingZeros_0f7a4_7 8 rfl rfl (by decide) [(0, .int ((x0 ^^^ (-1)) &&& (x0 - 1)))] rfl ?_
  refine j_iload_n C dJ6_numberOfTrailingZeros_0f7a4_8 9 rfl rfl 0 rfl ?_
  refine j_if_gt C dJ6_numberOfTrailingZeros_0f7a4_9 17 rfl 12 rfl (fun c1 => ?_) (fun c1 => ?_)
  · rw [if_pos c1] at hR
    refine j_iconst (v := 1) C dJ6_numberOfTrailingZeros_0f7a4_17 18 rfl (by decide) ?_
    refine j_istore_n C dJ6_numberOfTrailingZeros_0f7a4_18 19 rfl rfl (by decide) [(1, .int 1), (0, .int ((x0 ^^^ (-1)) &&& (x0 - 1)))] rfl ?_
    refine j_iload_n C dJ6_numberOfTrailingZeros_0f7a4_19 20 rfl rfl 1 rfl ?_
    refine j_ldcw C dJ6_numberOfTrailingZeros_0f7a4_20 23 rfl kJ6_numberOfTrailingZeros_0f7a4_c264 ?_
    have J23 : ∀ (j23_0 : Int32) (j23_1 : Int32), Rt τ κ cJ6_numberOfTrailingZeros_0f7a4 .int (fun _ : Unit => []) ((pr2 (if (j23_0 ≤ 256) then (j23_0, j23_1) else (((j23_0.toUInt32 >>> ((8 : Int32).toUInt32 &&& Int32.toUInt32 31)).toInt32), (j23_1 + 8))) (fun j38_0 j38_1 => pr2 (if (j38_0 ≤ 16) then (j38_0, j38_1) else (((j38_0.toUInt32 >>> ((4 : Int32).toUInt32 &&& Int32.toUInt32 31)).toInt32), (j38_1 + 4))) (fun j52_0 j52_1 => pr2 (if (j52_0 ≤ 4) then (j52_0, j52_1) else (((j52_0.toUInt32 >>> ((2 : Int32).toUInt32 &&& Int32.toUInt32 31)).toInt32), (j52_1 + 2))) (fun j64_0 j64_1 => (j64_1 + ((j64_0.toUInt32 >>> ((1 : Int32).toUInt32 &&& Int32.toUInt32 31)).toInt32))))), ())) → J τ κ 0 0 [] [(0, .int j23_0), (1, .int j23_1)] 34 [] := by
      intro j23_0 j23_1  hR
      refine j_iload_n C dJ6_numberOfTrailingZeros_0f7a4_34 35 rfl rfl 0 rfl ?_
      refine j_sipush (v := 256) C dJ6_numberOfTrailingZeros_0f7a4_35 38 rfl (by decide) ?_
      have J38 : ∀ (j38_0 : Int32) (j38_1 : Int32), Rt τ κ cJ6_numberOfTrailingZeros_0f7a4 .int (fun _ : Unit => []) ((pr2 (if (j38_0 ≤ 16) then (j38_0, j38_1) else (((j38_0.toUInt32 >>> ((4 : Int32).toUInt32 &&& Int32.toUInt32 31)).toInt32), (j38_1 + 4))) (fun j52_0 j52_1 => pr2 (if (j52_0 ≤ 4) then (j52_0, j52_1) else (((j52_0.toUInt32 >>> ((2 : Int32).toUInt32 &&& Int32.toUInt32 31)).toInt32), (j52_1 + 2))) (fun j64_0 j64_1 => (j64_1 + ((j64_0.toUInt32 >>> ((1 : Int32).toUInt32 &&& Int32.toUInt32 31)).toInt32)))), ())) → J τ κ 0 0 [] [(0, .int j38_0), (1, .int j38_1)] 49 [] := by
        intro j38_0 j38_1  hR
        refine j_iload_n C dJ6_numberOfTrailingZeros_0f7a4_49 50 rfl rfl 0 rfl ?_
        refine j_bipush (v := 16) C dJ6_numberOfTrailingZeros_0f7a4_50 52 rfl (by decide) ?_
        have J52 : ∀ (j52_0 : Int32) (j52_1 : Int32), Rt τ κ cJ6_numberOfTrailingZeros_0f7a4 .int (fun _ : Unit => []) ((pr2 (if (j52_0 ≤ 4) then (j52_0, j52_1) else (((j52_0.toUInt32 >>> ((2 : Int32).toUInt32 &&& Int32.toUInt32 31)).toInt32), (j52_1 + 2))) (fun j64_0 j64_1 => (j64_1 + ((j64_0.toUInt32 >>> ((1 : Int32).toUInt32 &&& Int32.toUInt32 31)).toInt32))), ())) → J τ κ 0 0 [] [(0, .int j52_0), (1, .int j52_1)] 62 [] := by
          intro j52_0 j52_1  hR
          refine j_iload_n C dJ6_numberOfTrailingZeros_0f7a4_62 63 rfl rfl 0 rfl ?_
          refine j_iconst (v := 4) C dJ6_numberOfTrailingZeros_0f7a4_63 64 rfl (by decide) ?_
          have J64 : ∀ (j64_0 : Int32) (j64_1 : Int32), Rt τ κ cJ6_numberOfTrailingZeros_0f7a4 .int (fun _ : Unit => []) (((j64_1 + ((j64_0.toUInt32 >>> ((1 : Int32).toUInt32 &&& Int32.toUInt32 31)).toInt32)), ())) → J τ κ 0 0 [] [(0, .int j64_0), (1, .int j64_1)] 74 [] := by
            intro j64_0 j64_1  hR
            refine j_iload_n C dJ6_numberOfTrailingZeros_0f7a4_74 75 rfl rfl 1 rfl ?_
            refine j_iload_n C dJ6_numberOfTrailingZeros_0f7a4_75 76 rfl rfl 0 rfl ?_
            refine j_iconst (v := 1) C dJ6_numberOfTrailingZeros_0f7a4_76 77 rfl (by decide) ?_
            refine j_iushr C dJ6_numberOfTrailingZeros_0f7a4_77 78 rfl ?_
            refine j_iadd C dJ6_numberOfTrailingZeros_0f7a4_78 79 rfl ?_
            exact Rt.ret (hR) rfl dJ6_numberOfTrailingZeros_0f7a4_79
          refine j_icmp_le C dJ6_numberOfTrailingZeros_0f7a4_64 74 rfl 67 rfl (fun c6 => ?_) (fun c6 => ?_)
          · rw [if_pos c6] at hR
            rw [pr2_mk j52_0 j52_1] at hR
            exact j_lv [0, 1] [(0, .int j52_0), (1, .int j52_1)] rfl (J64 _ _  hR)
          · rw [if_neg c6] at hR
            refine j_iinc (v := (j52_1 + 2)) C dJ6_numberOfTrailingZeros_0f7a4_67 70 rfl 1 rfl rfl (by decide) [(1, .int (j52_1 + 2)), (0, .int j52_0)] rfl ?_
            refine j_iload_n C dJ6_numberOfTrailingZeros_0f7a4_70 71 rfl rfl 1 rfl ?_
            refine j_iconst (v := 2) C dJ6_numberOfTrailingZeros_0f7a4_71 72 rfl (by decide) ?_
            refine j_iushr C dJ6_numberOfTrailingZeros_0f7a4_72 73 rfl ?_
            refine j_istore_n C dJ6_numberOfTrailingZeros_0f7a4_73 74 rfl rfl (by decide) [(0, .int ((j52_0.toUInt32 >>> ((2 : Int32).toUInt32 &&& Int32.toUInt32 31)).toInt32)), (1, .int (j52_1 + 2))] rfl ?_
            rw [pr2_mk ((j52_0.toUInt32 >>> ((2 : Int32).toUInt32 &&& Int32.toUInt32 31)).toInt32) (j52_1 + 2)] at hR
            exact j_lv [0, 1] [(0, .int ((j52_0.toUInt32 >>> ((2 : Int32).toUInt32 &&& Int32.toUInt32 31)).toInt32)), (1, .int (j52_1 + 2))] rfl (J64 _ _  hR)
        refine j_icmp_le C dJ6_numberOfTrailingZeros_0f7a4_52 62 rfl 55 rfl (fun c5 => ?_) (fun c5 => ?_)
        · rw [if_pos c5] at hR
          rw [pr2_mk j38_0 j38_1] at hR
          exact j_lv [0, 1] [(0, .int j38_0), (1, .int j38_1)] rfl (J52 _ _  hR)
        · rw [if_neg c5] at hR
          refine j_iinc (v := (j38_1 + 4)) C dJ6_numberOfTrailingZeros_0f7a4_55 58 rfl 1 rfl rfl (by decide) [(1, .int (j38_1 + 4)), (0, .int j38_0)] rfl ?_
          refine j_iload_n C dJ6_numberOfTrailingZeros_0f7a4_58 59 rfl rfl 1 rfl ?_
          refine j_iconst (v := 4) C dJ6_numberOfTrailingZeros_0f7a4_59 60 rfl (by decide) ?_
          refine j_iushr C dJ6_numberOfTrailingZeros_0f7a4_60 61 rfl ?_
          refine j_istore_n C dJ6_numberOfTrailingZeros_0f7a4_61 62 rfl rfl (by decide) [(0, .int ((j38_0.toUInt32 >>> ((4 : Int32).toUInt32 &&& Int32.toUInt32 31)).toInt32)), (1, .int (j38_1 + 4))] rfl ?_
          rw [pr2_mk ((j38_0.toUInt32 >>> ((4 : Int32).toUInt32 &&& Int32.toUInt32 31)).toInt32) (j38_1 + 4)] at hR
          exact j_lv [0, 1] [(0, .int ((j38_0.toUInt32 >>> ((4 : Int32).toUInt32 &&& Int32.toUInt32 31)).toInt32)), (1, .int (j38_1 + 4))] rfl (J52 _ _  hR)
      refine j_icmp_le C dJ6_numberOfTrailingZeros_0f7a4_38 49 rfl 41 rfl (fun c4 => ?_) (fun c4 => ?_)
      · rw [if_pos c4] at hR
        rw [pr2_mk j23_0 j23_1] at hR
        exact j_lv [0, 1] [(0, .int j23_0), (1, .int j23_1)] rfl (J38 _ _  hR)
      · rw [if_neg c4] at hR
        refine j_iinc (v := (j23_1 + 8)) C dJ6_numberOfTrailingZeros_0f7a4_41 44 rfl 1 rfl rfl (by decide) [(1, .int (j23_1 + 8)), (0, .int j23_0)] rfl ?_
        refine j_iload_n C dJ6_numberOfTrailingZeros_0f7a4_44 45 rfl rfl 1 rfl ?_
        refine j_bipush (v := 8) C dJ6_numberOfTrailingZeros_0f7a4_45 47 rfl (by decide) ?_
        refine j_iushr C dJ6_numberOfTrailingZeros_0f7a4_47 48 rfl ?_
        refine j_istore_n C dJ6_numberOfTrailingZeros_0f7a4_48 49 rfl rfl (by decide) [(0, .int ((j23_0.toUInt32 >>> ((8 : Int32).toUInt32 &&& Int32.toUInt32 31)).toInt32)), (1, .int (j23_1 + 8))] rfl ?_
        rw [pr2_mk ((j23_0.toUInt32 >>> ((8 : Int32).toUInt32 &&& Int32.toUInt32 31)).toInt32) (j23_1 + 8)] at hR
        exact j_lv [0, 1] [(0, .int ((j23_0.toUInt32 >>> ((8 : Int32).toUInt32 &&& Int32.toUInt32 31)).toInt32)), (1, .int (j23_1 + 8))] rfl (J38 _ _  hR)
    refine j_icmp_le C dJ6_numberOfTrailingZeros_0f7a4_23 34 rfl 26 rfl (fun c2 => ?_) (fun c2 => ?_)
    · rw [if_pos c2] at hR
      rw [pr2_mk ((x0 ^^^ (-1)) &&& (x0 - 1)) (1 : Int32)] at hR
      exact j_lv [1, 0] [(0, .int ((x0 ^^^ (-1)) &&& (x0 - 1))), (1, .int 1)] rfl (J23 _ _  hR)
    · rw [if_neg c2] at hR
      refine j_iinc (v := 17) C dJ6_numberOfTrailingZeros_0f7a4_26 29 rfl 0 rfl rfl (by decide) [(1, .int 17), (0, .int ((x0 ^^^ (-1)) &&& (x0 - 1)))] rfl ?_
      refine j_iload_n C dJ6_numberOfTrailingZeros_0f7a4_29 30 rfl rfl 1 rfl ?_
      refine j_bipush (v := 16) C dJ6_numberOfTrailingZeros_0f7a4_30 32 rfl (by decide) ?_
      refine j_iushr C dJ6_numberOfTrailingZeros_0f7a4_32 33 rfl ?_
      refine j_nmi (fun n3 en3 => ?_)
      rw [← en3] at hR; rw [pr1_mk n3] at hR
      refine j_istore_n C dJ6_numberOfTrailingZeros_0f7a4_33 34 rfl rfl (by decide) [(0, .int n3), (1, .int 17)] rfl ?_
      rw [pr2_mk n3 (17 : Int32)] at hR
      exact j_lv [0, 1] [(0, .int n3), (1, .int 17)] rfl (J23 _ _  hR)
  · rw [if_neg c1] at hR
    refine j_iload_n C dJ6_numberOfTrailingZeros_0f7a4_12 13 rfl rfl 0 rfl ?_
    refine j_bipush (v := 32) C dJ6_numberOfTrailingZeros_0f7a4_13 15 rfl (by decide) ?_
    refine j_iand C dJ6_numberOfTrailingZeros_0f7a4_15 16 rfl ?_
    exact Rt.ret (hR) rfl dJ6_numberOfTrailingZeros_0f7a4_16

-- X5_seconds main now
def l_X5_seconds_14 (nlw : Nat → Int32) (nkd : Nat → Int32) (nbt : Nat → Int32) (nph : Nat → Int32) (ncn : Nat → Int32) (nct : Int32) (x1 : Int32) : Nat → Int32 → (Nat → Int32) → Int32 → Int32 → Int32 → Int32 → Int32 × (Nat → Int32) × Int32 × Int32 × Int32 × Int32
  | 0, x2, nno, nsc, nrn, nlg, ndn => (x2, nno, nsc, nrn, nlg, ndn)
  | N + 1, x2, nno, nsc, nrn, nlg, ndn => if (x1 ≤ x2) then (x2, nno, nsc, nrn, nlg, ndn) else (pr6 (f_X4_pass nlw nkd nbt nph ncn nno nct nsc nrn nlg ndn) (fun r5 nno_5 nsc_5 nrn_5 nlg_5 ndn_5 => l_X5_seconds_14 nlw nkd nbt nph ncn nct x1 N (x2 + 1) nno_5 nsc_5 nrn_5 nlg_5 ndn_5))
def f_X5_seconds (nlw : Nat → Int32) (nkd : Nat → Int32) (nbt : Nat → Int32) (nph : Nat → Int32) (ncn : Nat → Int32) (nno : Nat → Int32) (nct : Int32) (nsc : Int32) (nrn : Int32) (nlg : Int32) (ndn : Int32) (x1 : Int32) : Int32 × (Nat → Int32) × Int32 × Int32 × Int32 × Int32 := if ((f_X5_isIn x1 (1 : Int32) (60 : Int32)) = 0) then (((-1) : Int32), nno, nsc, nrn, nlg, ndn) else (pr6 (l_X5_seconds_14 nlw nkd nbt nph ncn nct x1 300 (0 : Int32) nno nsc nrn nlg ndn) (fun x2_3 nno_3 nsc_3 nrn_3 nlg_3 ndn_3 => (nrn_3, nno_3, nsc_3, nrn_3, nlg_3, ndn_3)))
theorem kX5_seconds_iRX5 : Cond.initialized yX5_isIn.cls ∈ wsX5_seconds := by decide +kernel
theorem kX5_seconds_sX5_isIn : Cond.static yX5_isIn ∈ wsX5_seconds := by decide +kernel
theorem kX5_seconds_m79 : Cond.methodLink RX5 79 yX5_isIn ∈ wsX5_seconds := by decide +kernel
theorem kX5_seconds_f10 : Cond.fieldLink RX5 10 "TwoMinutes" "now" "LTwoMinutes$Town;" ∈ wsX5_seconds := by decide +kernel
theorem kX5_seconds_f142 : Cond.fieldLink RX5 142 "TwoMinutes$Town" "run" "I" ∈ wsX5_seconds := by decide +kernel
theorem qd_X5_seconds : yX5_seconds.cls = RX5 ∧ yX5_seconds.cls ≠ "java/lang/invoke/MethodHandle" ∧ yX5_seconds.cls ≠ "java/lang/invoke/VarHandle" ∧ (parseMethodDescriptor yX5_seconds.desc).map (fun d => d.parameters.length) = some 1 := by decide +kernel
abbrev rmX5_seconds : Room := { frames := 5, cells := 0, slots := 0, locals := 107 }
set_option maxHeartbeats 4000000 in
set_option maxRecDepth 100000 in
theorem L_X5_seconds_14 {τ : SX} {κ : KX} (C : Cx τ κ cX5_seconds RX5 wsX5_seconds rmX5_seconds 3) (a : Nat → Nat) (rws : Nat → Int32) (isv : Int32) (rc : Int32) (nlw : Nat → Int32) (nkd : Nat → Int32) (nbt : Nat → Int32) (nph : Nat → Int32) (ncn : Nat → Int32) (nct : Int32) (nzz : Int32) (x1 : Int32) (hrc0 : 0 ≤ rc.toInt) (hrc : rc.toInt ≤ 10) (hn0 : 0 ≤ nct.toInt) (hn : nct.toInt ≤ 8) (hx : x1.toInt ≤ 60) (Φ : Int32 × (Nat → Int32) × Int32 × Int32 × Int32 × Int32 → Prop) (hE : ∀ (x2 : Int32) (nno : Nat → Int32) (nsc : Int32) (nrn : Int32) (nlg : Int32) (ndn : Int32), Φ (x2, nno, nsc, nrn, nlg, ndn) → J τ κ 0 0 ((wX τ a rws isv rc) ++ (wT τ (fun j => a (10 + j)) nlw nkd nbt nph ncn nno nct nsc nrn nlg ndn nzz)) [(0, .ref (a 0)), (1, .int x1), (2, .int x2)] 33 []) : ∀ (N : Nat) (x2 : Int32) (nno : Nat → Int32) (nsc : Int32) (nrn : Int32) (nlg : Int32) (ndn : Int32), ((60 : Int) - x2.toInt).toNat < N → (0 ≤ x2.toInt) → (x2.toInt ≤ 60) → Φ (l_X5_seconds_14 nlw nkd nbt nph ncn nct x1 N x2 nno nsc nrn nlg ndn) → J τ κ 0 0 ((wX τ a rws isv rc) ++ (wT τ (fun j => a (10 + j)) nlw nkd nbt nph ncn nno nct nsc nrn nlg ndn nzz)) [(0, .ref (a 0)), (1, .int x1), (2, .int x2)] 14 [] := by
  have hiX4 : ∀ w ∈ wsX40, w ∈ wsX5_seconds := fun w h => List.mem_cons_of_mem _ (List.mem_append_right _ h)
  have hiX5 : ∀ w ∈ wsX50, w ∈ wsX5_seconds := fun w h => List.mem_cons_of_mem _ (List.mem_append_left _ (List.mem_append_right _ h))
  intro N
  induction N with
  | zero => intro x2 nno nsc nrn nlg ndn hm; exact absurd hm (Nat.not_lt_zero _)
  | succ N ih =>
    intro x2 nno nsc nrn nlg ndn hm h0 h1 hR
    rw [l_X5_seconds_14] at hR
    refine j_iload_n C dX5_seconds_14 15 rfl rfl 2 rfl ?_
    refine j_iload_n C dX5_seconds_15 16 rfl rfl 1 rfl ?_
    refine j_icmp_ge C dX5_seconds_16 33 rfl 19 rfl (fun c4 => ?_) (fun c4 => ?_)
    · rw [if_pos c4] at hR
      exact j_lv [0, 1, 2] [(0, .ref (a 0)), (1, .int x1), (2, .int x2)] rfl (hE _ _ _ _ _ _  hR)
    · rw [if_neg c4] at hR
      have hs := cnt_step (B := 60) h0 (hx) (by decide) c4
      refine j_aload_n C dX5_seconds_19 20 rfl rfl 0 rfl ?_
      refine j_get C dX5_seconds_20 23 rfl hiX5 0 rfl rfl 0 (by decide) rfl kX5_seconds_f10 rfl ?_
      refine j_cvI (na := 0) C dX5_seconds_23 26 rfl (c_X4_pass τ (fun j => a (10 + j)) nlw nkd nbt nph ncn nno nct nsc nrn nlg ndn nzz (by first | assumption | decide | exact in_has (by assumption) hn0 hn | exact (in_trial (by assumption) hn0 hn).1 | exact (in_trial (by assumption) hn0 hn).2.2 | exact in_isIn4 (by assumption) | exact in_isIn60 (by assumption) | exact in_isIn30 (by assumption) | exact in_sheet (by assumption) | exact in_shelf (by assumption) | exact vp_in_iff.mpr ⟨by omega, by omega⟩ | exact nz_nle (by assumption) | exact nz_lt (by assumption) | omega)) gX5_seconds_X4_pass rfl rfl rfl qd_X4_pass rfl ⟨by decide, by decide⟩ ⟨by decide, by decide⟩ rfl (Nat.le_of_ble_eq_true rfl) [4, 5, 6, 7, 8, 9, 10] [0, 1, 2, 3] [0, 1, 2, 3, 4, 5, 6, 7, 8, 9, 10] ((wX τ a rws isv rc)) rfl (by decide) rfl (by decide) (by decide) 4 0 rfl rfl (fun u => ((wX τ a rws isv rc) ++ (wT τ (fun j => a (10 + j)) nlw nkd nbt nph ncn u.1 nct u.2.1 u.2.2.1 u.2.2.2.1 u.2.2.2.2 nzz))) (fun _ => rfl) (by decide) (fun r5 u5 hX5 hn5 => ?_)
      obtain ⟨nno_5, nsc_5, nrn_5, nlg_5, ndn_5⟩ := u5
      rw [hX5] at hR; rw [pr6_mk r5 nno_5 nsc_5 nrn_5 nlg_5 ndn_5] at hR
      refine j_pop C dX5_seconds_26 27 rfl rfl ?_
      refine j_iinc (v := (x2 + 1)) C dX5_seconds_27 30 rfl 2 rfl rfl (by decide) [(2, .int (x2 + 1)), (0, .ref (a 0)), (1, .int x1)] rfl ?_
      refine j_goto C dX5_seconds_30 14 rfl ?_
      exact j_lv [1, 2, 0] [(0, .ref (a 0)), (1, .int x1), (2, .int (x2 + 1))] rfl (ih _ _ _ _ _ _ (by have := hs.2.2.1; omega) hs.1 hs.2.1 hR)
set_option maxHeartbeats 4000000 in
set_option maxRecDepth 100000 in
theorem c_X5_seconds (τ : SX) (a : Nat → Nat) (rws : Nat → Int32) (isv : Int32) (rc : Int32) (nlw : Nat → Int32) (nkd : Nat → Int32) (nbt : Nat → Int32) (nph : Nat → Int32) (ncn : Nat → Int32) (nno : Nat → Int32) (nct : Int32) (nsc : Int32) (nrn : Int32) (nlg : Int32) (ndn : Int32) (nzz : Int32) (x1 : Int32) (hrc0 : 0 ≤ rc.toInt) (hrc : rc.toInt ≤ 10) (hn0 : 0 ≤ nct.toInt) (hn : nct.toInt ≤ 8) (sz : Nat) : McI τ yX5_seconds wsX5_seconds rmX5_seconds .int [.ref (a 0), .int x1] ((wX τ a rws isv rc) ++ (wT τ (fun j => a (10 + j)) nlw nkd nbt nph ncn nno nct nsc nrn nlg ndn nzz)) (fun u : (Nat → Int32) × Int32 × Int32 × Int32 × Int32 => ((wX τ a rws isv rc) ++ (wT τ (fun j => a (10 + j)) nlw nkd nbt nph ncn u.1 nct u.2.1 u.2.2.1 u.2.2.2.1 u.2.2.2.2 nzz))) (f_X5_seconds nlw nkd nbt nph ncn nno nct nsc nrn nlg ndn x1) sz := by
  refine mc_I (cc := cX5_seconds) (own := RX5) [(0, .ref (a 0)), (1, .int x1)] rfl (by decide) rfl rfl (Nat.le_of_ble_eq_true rfl) (fun κ C hR => ?_)
  have hiX4 : ∀ w ∈ wsX40, w ∈ wsX5_seconds := fun w h => List.mem_cons_of_mem _ (List.mem_append_right _ h)
  have hiX5 : ∀ w ∈ wsX50, w ∈ wsX5_seconds := fun w h => List.mem_cons_of_mem _ (List.mem_append_left _ (List.mem_append_right _ h))
  unfold f_X5_seconds at hR
  refine j_iload_n C dX5_seconds_0 1 rfl rfl 1 rfl ?_
  refine j_iconst (v := 1) C dX5_seconds_1 2 rfl (by decide) ?_
  refine j_bipush (v := 60) C dX5_seconds_2 4 rfl (by decide) ?_
  refine j_cs0I (na := 3) C dX5_seconds_4 7 rfl (c_X5_isIn τ  x1 (1 : Int32) (60 : Int32) ) rfl ggX5_seconds_X5_isIn rfl rfl rfl kX5_seconds_iRX5 kX5_seconds_m79 kX5_seconds_sX5_isIn qd_X5_isIn rfl ⟨by decide, by decide⟩ ⟨by decide, by decide⟩ rfl (Nat.le_of_ble_eq_true rfl) (fun r1 u1 hX1 hn1 => ?_)
  obtain rfl := (Prod.mk.inj hX1).1
  refine j_if_ne C dX5_seconds_7 12 rfl 10 rfl (fun c2 => ?_) (fun c2 => ?_)
  · rw [if_neg c2] at hR
    refine j_iconst (v := 0) C dX5_seconds_12 13 rfl (by decide) ?_
    refine j_istore_n C dX5_seconds_13 14 rfl rfl (by decide) [(2, .int 0), (0, .ref (a 0)), (1, .int x1)] rfl ?_
    refine j_lv [1, 2, 0] [(0, .ref (a 0)), (1, .int x1), (2, .int 0)] rfl (L_X5_seconds_14 C a rws isv rc nlw nkd nbt nph ncn nct nzz x1 hrc0 hrc hn0 hn (in_isIn60 (by assumption)) (fun (o : Int32 × (Nat → Int32) × Int32 × Int32 × Int32 × Int32) => Rt τ κ cX5_seconds .int (fun u : (Nat → Int32) × Int32 × Int32 × Int32 × Int32 => ((wX τ a rws isv rc) ++ (wT τ (fun j => a (10 + j)) nlw nkd nbt nph ncn u.1 nct u.2.1 u.2.2.1 u.2.2.2.1 u.2.2.2.2 nzz))) (pr6 o (fun x2_3 nno_3 nsc_3 nrn_3 nlg_3 ndn_3 => (nrn_3, nno_3, nsc_3, nrn_3, nlg_3, ndn_3)))) (fun x2_3 nno_3 nsc_3 nrn_3 nlg_3 ndn_3  hR => ?_) 300 (0 : Int32) nno nsc nrn nlg ndn (by decide) (by decide) (by decide) hR)
    rw [pr6_mk x2_3 nno_3 nsc_3 nrn_3 nlg_3 ndn_3] at hR
    refine j_aload_n C dX5_seconds_33 34 rfl rfl 0 rfl ?_
    refine j_get C dX5_seconds_34 37 rfl hiX5 0 rfl rfl 0 (by decide) rfl kX5_seconds_f10 rfl ?_
    refine j_get C dX5_seconds_37 40 rfl hiX4 4 rfl rfl 8 (by decide) rfl kX5_seconds_f142 rfl ?_
    exact Rt.ret (hR) rfl dX5_seconds_40
  · rw [if_pos c2] at hR
    refine j_iconst (v := (-1)) C dX5_seconds_10 11 rfl (by decide) ?_
    exact Rt.ret (hR) rfl dX5_seconds_11

-- X5_second main now
def f_X5_second (nlw : Nat → Int32) (nkd : Nat → Int32) (nbt : Nat → Int32) (nph : Nat → Int32) (ncn : Nat → Int32) (nno : Nat → Int32) (nct : Int32) (nsc : Int32) (nrn : Int32) (nlg : Int32) (ndn : Int32) (nzz : Int32) : Int32 × (Nat → Int32) × Int32 × Int32 × Int32 × Int32 × Int32 := pr6 (f_X4_passByDraws nlw nkd nbt nph ncn nno nct nsc nrn nlg ndn nzz) (fun nno_1 nsc_1 nrn_1 nlg_1 ndn_1 nzz_1 => (nrn_1, nno_1, nsc_1, nrn_1, nlg_1, ndn_1, nzz_1))
theorem kX5_second_f10 : Cond.fieldLink RX5 10 "TwoMinutes" "now" "LTwoMinutes$Town;" ∈ wsX5_second := by decide +kernel
theorem kX5_second_f142 : Cond.fieldLink RX5 142 "TwoMinutes$Town" "run" "I" ∈ wsX5_second := by decide +kernel
theorem qd_X5_second : yX5_second.cls = RX5 ∧ yX5_second.cls ≠ "java/lang/invoke/MethodHandle" ∧ yX5_second.cls ≠ "java/lang/invoke/VarHandle" ∧ (parseMethodDescriptor yX5_second.desc).map (fun d => d.parameters.length) = some 0 := by decide +kernel
abbrev rmX5_second : Room := { frames := 5, cells := 0, slots := 0, locals := 108 }
set_option maxHeartbeats 4000000 in
set_option maxRecDepth 100000 in
theorem c_X5_second (τ : SX) (a : Nat → Nat) (rws : Nat → Int32) (isv : Int32) (rc : Int32) (nlw : Nat → Int32) (nkd : Nat → Int32) (nbt : Nat → Int32) (nph : Nat → Int32) (ncn : Nat → Int32) (nno : Nat → Int32) (nct : Int32) (nsc : Int32) (nrn : Int32) (nlg : Int32) (ndn : Int32) (nzz : Int32) (hrc0 : 0 ≤ rc.toInt) (hrc : rc.toInt ≤ 10) (hn0 : 0 ≤ nct.toInt) (hn : nct.toInt ≤ 8) (sz : Nat) : McI τ yX5_second wsX5_second rmX5_second .int [.ref (a 0)] ((wX τ a rws isv rc) ++ (wT τ (fun j => a (10 + j)) nlw nkd nbt nph ncn nno nct nsc nrn nlg ndn nzz)) (fun u : (Nat → Int32) × Int32 × Int32 × Int32 × Int32 × Int32 => ((wX τ a rws isv rc) ++ (wT τ (fun j => a (10 + j)) nlw nkd nbt nph ncn u.1 nct u.2.1 u.2.2.1 u.2.2.2.1 u.2.2.2.2.1 u.2.2.2.2.2))) (f_X5_second nlw nkd nbt nph ncn nno nct nsc nrn nlg ndn nzz) sz := by
  refine mc_I (cc := cX5_second) (own := RX5) [(0, .ref (a 0))] rfl (by decide) rfl rfl (Nat.le_of_ble_eq_true rfl) (fun κ C hR => ?_)
  have hiX4 : ∀ w ∈ wsX40, w ∈ wsX5_second := fun w h => List.mem_cons_of_mem _ (List.mem_append_right _ h)
  have hiX5 : ∀ w ∈ wsX50, w ∈ wsX5_second := fun w h => List.mem_cons_of_mem _ (List.mem_append_left _ (List.mem_append_right _ h))
  unfold f_X5_second at hR
  refine j_aload_n C dX5_second_0 1 rfl rfl 0 rfl ?_
  refine j_get C dX5_second_1 4 rfl hiX5 0 rfl rfl 0 (by decide) rfl kX5_second_f10 rfl ?_
  refine j_cvV (na := 0) C dX5_second_4 7 rfl (c_X4_passByDraws τ (fun j => a (10 + j)) nlw nkd nbt nph ncn nno nct nsc nrn nlg ndn nzz (by first | assumption | decide | exact in_has (by assumption) hn0 hn | exact (in_trial (by assumption) hn0 hn).1 | exact (in_trial (by assumption) hn0 hn).2.2 | exact in_isIn4 (by assumption) | exact in_isIn60 (by assumption) | exact in_isIn30 (by assumption) | exact in_sheet (by assumption) | exact in_shelf (by assumption) | exact vp_in_iff.mpr ⟨by omega, by omega⟩ | exact nz_nle (by assumption) | exact nz_lt (by assumption) | omega)) gX5_second_X4_passByDraws rfl rfl rfl qd_X4_passByDraws rfl ⟨by decide, by decide⟩ ⟨by decide, by decide⟩ rfl (Nat.le_of_ble_eq_true rfl) [4, 5, 6, 7, 8, 9, 10] [0, 1, 2, 3] [0, 1, 2, 3, 4, 5, 6, 7, 8, 9, 10] ((wX τ a rws isv rc)) rfl (by decide) rfl (by decide) (by decide) 4 0 rfl rfl (fun u => ((wX τ a rws isv rc) ++ (wT τ (fun j => a (10 + j)) nlw nkd nbt nph ncn u.1 nct u.2.1 u.2.2.1 u.2.2.2.1 u.2.2.2.2.1 u.2.2.2.2.2))) (fun _ => rfl) (by decide) (fun u1 hX1 => ?_)
  obtain ⟨nno_1, nsc_1, nrn_1, nlg_1, ndn_1, nzz_1⟩ := u1
  rw [hX1] at hR; rw [pr6_mk nno_1 nsc_1 nrn_1 nlg_1 ndn_1 nzz_1] at hR
  refine j_aload_n C dX5_second_7 8 rfl rfl 0 rfl ?_
  refine j_get C dX5_second_8 11 rfl hiX5 0 rfl rfl 0 (by decide) rfl kX5_second_f10 rfl ?_
  refine j_get C dX5_second_11 14 rfl hiX4 4 rfl rfl 8 (by decide) rfl kX5_second_f142 rfl ?_
  exact Rt.ret (hR) rfl dX5_second_14

-- X5_runBehind main tried now
def l_X5_runBehind_13 (tlw : Nat → Int32) (tkd : Nat → Int32) (tbt : Nat → Int32) (tph : Nat → Int32) (tcn : Nat → Int32) (tct : Int32) (x1 : Int32) : Nat → Int32 → (Nat → Int32) → Int32 → Int32 → Int32 → Int32 → Int32 × (Nat → Int32) × Int32 × Int32 × Int32 × Int32
  | 0, x2, tno, tsc, trn, tlg, tdn => (x2, tno, tsc, trn, tlg, tdn)
  | N + 1, x2, tno, tsc, trn, tlg, tdn => if (x1 ≤ x2) then (x2, tno, tsc, trn, tlg, tdn) else (pr6 (f_X4_pass tlw tkd tbt tph tcn tno tct tsc trn tlg tdn) (fun r4 tno_4 tsc_4 trn_4 tlg_4 tdn_4 => l_X5_runBehind_13 tlw tkd tbt tph tcn tct x1 N (x2 + 1) tno_4 tsc_4 trn_4 tlg_4 tdn_4))
def f_X5_runBehind (nlw : Nat → Int32) (nkd : Nat → Int32) (nbt : Nat → Int32) (nph : Nat → Int32) (ncn : Nat → Int32) (nno : Nat → Int32) (nct : Int32) (nsc : Int32) (nrn : Int32) (nlg : Int32) (ndn : Int32) (nzz : Int32) (tlw : Nat → Int32) (tkd : Nat → Int32) (tbt : Nat → Int32) (tph : Nat → Int32) (tcn : Nat → Int32) (tno : Nat → Int32) (x1 : Int32) : Int32 × (Nat → Int32) × (Nat → Int32) × (Nat → Int32) × (Nat → Int32) × (Nat → Int32) × (Nat → Int32) × Int32 × Int32 × Int32 × Int32 × Int32 × Int32 := pr6 (l_X5_runBehind_13 (va_cpy nlw tlw 0 0 4) (va_cpy nkd tkd 0 0 8) (va_cpy nbt tbt 0 0 8) (va_cpy nph tph 0 0 8) (va_cpy ncn tcn 0 0 8) nct x1 300 (0 : Int32) (va_cpy nno tno 0 0 8) nsc nrn nlg ndn) (fun x2_2 tno_2 tsc_2 trn_2 tlg_2 tdn_2 => (trn_2, (va_cpy nlw tlw 0 0 4), (va_cpy nkd tkd 0 0 8), (va_cpy nbt tbt 0 0 8), (va_cpy nph tph 0 0 8), (va_cpy ncn tcn 0 0 8), tno_2, nct, tsc_2, trn_2, tlg_2, tdn_2, nzz))
theorem kX5_runBehind_f16 : Cond.fieldLink RX5 16 "TwoMinutes" "tried" "LTwoMinutes$Town;" ∈ wsX5_runBehind := by decide +kernel
theorem kX5_runBehind_f10 : Cond.fieldLink RX5 10 "TwoMinutes" "now" "LTwoMinutes$Town;" ∈ wsX5_runBehind := by decide +kernel
theorem kX5_runBehind_f142 : Cond.fieldLink RX5 142 "TwoMinutes$Town" "run" "I" ∈ wsX5_runBehind := by decide +kernel
theorem qd_X5_runBehind : yX5_runBehind.cls = RX5 ∧ yX5_runBehind.cls ≠ "java/lang/invoke/MethodHandle" ∧ yX5_runBehind.cls ≠ "java/lang/invoke/VarHandle" ∧ (parseMethodDescriptor yX5_runBehind.desc).map (fun d => d.parameters.length) = some 1 := by decide +kernel
abbrev rmX5_runBehind : Room := { frames := 5, cells := 0, slots := 0, locals := 107 }
set_option maxHeartbeats 4000000 in
set_option maxRecDepth 100000 in
theorem L_X5_runBehind_13 {τ : SX} {κ : KX} (C : Cx τ κ cX5_runBehind RX5 wsX5_runBehind rmX5_runBehind 3) (a : Nat → Nat) (rws : Nat → Int32) (isv : Int32) (rc : Int32) (nlw : Nat → Int32) (nkd : Nat → Int32) (nbt : Nat → Int32) (nph : Nat → Int32) (ncn : Nat → Int32) (nno : Nat → Int32) (nct : Int32) (nsc : Int32) (nrn : Int32) (nlg : Int32) (ndn : Int32) (nzz : Int32) (tlw : Nat → Int32) (tkd : Nat → Int32) (tbt : Nat → Int32) (tph : Nat → Int32) (tcn : Nat → Int32) (tct : Int32) (tzz : Int32) (x1 : Int32) (hrc0 : 0 ≤ rc.toInt) (hrc : rc.toInt ≤ 10) (hn0 : 0 ≤ nct.toInt) (hn : nct.toInt ≤ 8) (hx : x1.toInt ≤ 60) (htc : tct.toInt ≤ 8) (Φ : Int32 × (Nat → Int32) × Int32 × Int32 × Int32 × Int32 → Prop) (hE : ∀ (x2 : Int32) (tno : Nat → Int32) (tsc : Int32) (trn : Int32) (tlg : Int32) (tdn : Int32), Φ (x2, tno, tsc, trn, tlg, tdn) → J τ κ 0 0 ((wX τ a rws isv rc) ++ (wT τ (fun j => a (10 + j)) nlw nkd nbt nph ncn nno nct nsc nrn nlg ndn nzz) ++ (wT τ (fun j => a (20 + j)) tlw tkd tbt tph tcn tno tct tsc trn tlg tdn tzz)) [(0, .ref (a 0)), (1, .int x1), (2, .int x2)] 32 []) : ∀ (N : Nat) (x2 : Int32) (tno : Nat → Int32) (tsc : Int32) (trn : Int32) (tlg : Int32) (tdn : Int32), ((60 : Int) - x2.toInt).toNat < N → (0 ≤ x2.toInt) → (x2.toInt ≤ 60) → Φ (l_X5_runBehind_13 tlw tkd tbt tph tcn tct x1 N x2 tno tsc trn tlg tdn) → J τ κ 0 0 ((wX τ a rws isv rc) ++ (wT τ (fun j => a (10 + j)) nlw nkd nbt nph ncn nno nct nsc nrn nlg ndn nzz) ++ (wT τ (fun j => a (20 + j)) tlw tkd tbt tph tcn tno tct tsc trn tlg tdn tzz)) [(0, .ref (a 0)), (1, .int x1), (2, .int x2)] 13 [] := by
  have hiX4 : ∀ w ∈ wsX40, w ∈ wsX5_runBehind := fun w h => List.mem_cons_of_mem _ (List.mem_append_right _ h)
  have hiX5 : ∀ w ∈ wsX50, w ∈ wsX5_runBehind := fun w h => List.mem_cons_of_mem _ (List.mem_append_left _ (List.mem_append_right _ h))
  intro N
  induction N with
  | zero => intro x2 tno tsc trn tlg tdn hm; exact absurd hm (Nat.not_lt_zero _)
  | succ N ih =>
    intro x2 tno tsc trn tlg tdn hm h0 h1 hR
    rw [l_X5_runBehind_13] at hR
    refine j_iload_n C dX5_runBehind_13 14 rfl rfl 2 rfl ?_
    refine j_iload_n C dX5_runBehind_14 15 rfl rfl 1 rfl ?_
    refine j_icmp_ge C dX5_runBehind_15 32 rfl 18 rfl (fun c3 => ?_) (fun c3 => ?_)
    · rw [if_pos c3] at hR
      exact j_lv [0, 1, 2] [(0, .ref (a 0)), (1, .int x1), (2, .int x2)] rfl (hE _ _ _ _ _ _  hR)
    · rw [if_neg c3] at hR
      have hs := cnt_step (B := 60) h0 (hx) (by decide) c3
      refine j_aload_n C dX5_runBehind_18 19 rfl rfl 0 rfl ?_
      refine j_get C dX5_runBehind_19 22 rfl hiX5 0 rfl rfl 1 (by decide) rfl kX5_runBehind_f16 rfl ?_
      refine j_cvI (na := 0) C dX5_runBehind_22 25 rfl (c_X4_pass τ (fun j => a (20 + j)) tlw tkd tbt tph tcn tno tct tsc trn tlg tdn tzz (by first | assumption | decide | exact in_has (by assumption) hn0 hn | exact (in_trial (by assumption) hn0 hn).1 | exact (in_trial (by assumption) hn0 hn).2.2 | exact in_isIn4 (by assumption) | exact in_isIn60 (by assumption) | exact in_isIn30 (by assumption) | exact in_sheet (by assumption) | exact in_shelf (by assumption) | exact vp_in_iff.mpr ⟨by omega, by omega⟩ | exact nz_nle (by assumption) | exact nz_lt (by assumption) | omega)) gX5_runBehind_X4_pass rfl rfl rfl qd_X4_pass rfl ⟨by decide, by decide⟩ ⟨by decide, by decide⟩ rfl (Nat.le_of_ble_eq_true rfl) [11, 12, 13, 14, 15, 16, 17] [0, 1, 2, 3, 4, 5, 6, 7, 8, 9, 10] [0, 1, 2, 3, 4, 5, 6, 7, 8, 9, 10, 11, 12, 13, 14, 15, 16, 17] ((wX τ a rws isv rc) ++ (wT τ (fun j => a (10 + j)) nlw nkd nbt nph ncn nno nct nsc nrn nlg ndn nzz)) rfl (by decide) rfl (by decide) (by decide) 4 0 rfl rfl (fun u => ((wX τ a rws isv rc) ++ (wT τ (fun j => a (10 + j)) nlw nkd nbt nph ncn nno nct nsc nrn nlg ndn nzz) ++ (wT τ (fun j => a (20 + j)) tlw tkd tbt tph tcn u.1 tct u.2.1 u.2.2.1 u.2.2.2.1 u.2.2.2.2 tzz))) (fun _ => rfl) (by decide) (fun r4 u4 hX4 hn4 => ?_)
      obtain ⟨tno_4, tsc_4, trn_4, tlg_4, tdn_4⟩ := u4
      rw [hX4] at hR; rw [pr6_mk r4 tno_4 tsc_4 trn_4 tlg_4 tdn_4] at hR
      refine j_pop C dX5_runBehind_25 26 rfl rfl ?_
      refine j_iinc (v := (x2 + 1)) C dX5_runBehind_26 29 rfl 2 rfl rfl (by decide) [(2, .int (x2 + 1)), (0, .ref (a 0)), (1, .int x1)] rfl ?_
      refine j_goto C dX5_runBehind_29 13 rfl ?_
      exact j_lv [1, 2, 0] [(0, .ref (a 0)), (1, .int x1), (2, .int (x2 + 1))] rfl (ih _ _ _ _ _ _ (by have := hs.2.2.1; omega) hs.1 hs.2.1 hR)
set_option maxHeartbeats 4000000 in
set_option maxRecDepth 100000 in
theorem c_X5_runBehind (τ : SX) (a : Nat → Nat) (rws : Nat → Int32) (isv : Int32) (rc : Int32) (nlw : Nat → Int32) (nkd : Nat → Int32) (nbt : Nat → Int32) (nph : Nat → Int32) (ncn : Nat → Int32) (nno : Nat → Int32) (nct : Int32) (nsc : Int32) (nrn : Int32) (nlg : Int32) (ndn : Int32) (nzz : Int32) (tlw : Nat → Int32) (tkd : Nat → Int32) (tbt : Nat → Int32) (tph : Nat → Int32) (tcn : Nat → Int32) (tno : Nat → Int32) (tct : Int32) (tsc : Int32) (trn : Int32) (tlg : Int32) (tdn : Int32) (tzz : Int32) (x1 : Int32) (hrc0 : 0 ≤ rc.toInt) (hrc : rc.toInt ≤ 10) (hn0 : 0 ≤ nct.toInt) (hn : nct.toInt ≤ 8) (hx : x1.toInt ≤ 60) (sz : Nat) : McI τ yX5_runBehind wsX5_runBehind rmX5_runBehind .int [.ref (a 0), .int x1] ((wX τ a rws isv rc) ++ (wT τ (fun j => a (10 + j)) nlw nkd nbt nph ncn nno nct nsc nrn nlg ndn nzz) ++ (wT τ (fun j => a (20 + j)) tlw tkd tbt tph tcn tno tct tsc trn tlg tdn tzz)) (fun u : (Nat → Int32) × (Nat → Int32) × (Nat → Int32) × (Nat → Int32) × (Nat → Int32) × (Nat → Int32) × Int32 × Int32 × Int32 × Int32 × Int32 × Int32 => ((wX τ a rws isv rc) ++ (wT τ (fun j => a (10 + j)) nlw nkd nbt nph ncn nno nct nsc nrn nlg ndn nzz) ++ (wT τ (fun j => a (20 + j)) u.1 u.2.1 u.2.2.1 u.2.2.2.1 u.2.2.2.2.1 u.2.2.2.2.2.1 u.2.2.2.2.2.2.1 u.2.2.2.2.2.2.2.1 u.2.2.2.2.2.2.2.2.1 u.2.2.2.2.2.2.2.2.2.1 u.2.2.2.2.2.2.2.2.2.2.1 u.2.2.2.2.2.2.2.2.2.2.2))) (f_X5_runBehind nlw nkd nbt nph ncn nno nct nsc nrn nlg ndn nzz tlw tkd tbt tph tcn tno x1) sz := by
  refine mc_I (cc := cX5_runBehind) (own := RX5) [(0, .ref (a 0)), (1, .int x1)] rfl (by decide) rfl rfl (Nat.le_of_ble_eq_true rfl) (fun κ C hR => ?_)
  have hiX4 : ∀ w ∈ wsX40, w ∈ wsX5_runBehind := fun w h => List.mem_cons_of_mem _ (List.mem_append_right _ h)
  have hiX5 : ∀ w ∈ wsX50, w ∈ wsX5_runBehind := fun w h => List.mem_cons_of_mem _ (List.mem_append_left _ (List.mem_append_right _ h))
  unfold f_X5_runBehind at hR
  refine j_aload_n C dX5_runBehind_0 1 rfl rfl 0 rfl ?_
  refine j_get C dX5_runBehind_1 4 rfl hiX5 0 rfl rfl 1 (by decide) rfl kX5_runBehind_f16 rfl ?_
  refine j_aload_n C dX5_runBehind_4 5 rfl rfl 0 rfl ?_
  refine j_get C dX5_runBehind_5 8 rfl hiX5 0 rfl rfl 0 (by decide) rfl kX5_runBehind_f10 rfl ?_
  refine j_cvV (na := 1) C dX5_runBehind_8 11 rfl (c_X4_copyFrom τ (fun j => a (20 + j)) (fun j => a (10 + j)) tlw tkd tbt tph tcn tno tct tsc trn tlg tdn tzz nlw nkd nbt nph ncn nno nct nsc nrn nlg ndn nzz ) gX5_runBehind_X4_copyFrom rfl rfl rfl qd_X4_copyFrom rfl ⟨by decide, by decide⟩ ⟨by decide, by decide⟩ rfl (Nat.le_of_ble_eq_true rfl) [11, 12, 13, 14, 15, 16, 17, 4, 5, 6, 7, 8, 9, 10] [0, 1, 2, 3] [0, 1, 2, 3, 11, 12, 13, 14, 15, 16, 17, 4, 5, 6, 7, 8, 9, 10] ((wX τ a rws isv rc)) rfl (by decide) rfl (by decide) (by decide) 4 0 rfl rfl (fun u => ((wX τ a rws isv rc) ++ (wT τ (fun j => a (10 + j)) nlw nkd nbt nph ncn nno nct nsc nrn nlg ndn nzz) ++ (wT τ (fun j => a (20 + j)) u.1 u.2.1 u.2.2.1 u.2.2.2.1 u.2.2.2.2.1 u.2.2.2.2.2.1 u.2.2.2.2.2.2.1 u.2.2.2.2.2.2.2.1 u.2.2.2.2.2.2.2.2.1 u.2.2.2.2.2.2.2.2.2.1 u.2.2.2.2.2.2.2.2.2.2.1 u.2.2.2.2.2.2.2.2.2.2.2))) (fun _ => rfl) (by decide) (fun u1 hX1 => ?_)
  obtain ⟨tlw_1, tkd_1, tbt_1, tph_1, tcn_1, tno_1, tct_1, tsc_1, trn_1, tlg_1, tdn_1, tzz_1⟩ := u1
  simp only [f_X4_copyFrom, Prod.mk.injEq] at hX1
  obtain ⟨rfl, rfl, rfl, rfl, rfl, rfl, rfl, rfl, rfl, rfl, rfl, rfl⟩ := hX1
  refine j_iconst (v := 0) C dX5_runBehind_11 12 rfl (by decide) ?_
  refine j_istore_n C dX5_runBehind_12 13 rfl rfl (by decide) [(2, .int 0), (0, .ref (a 0)), (1, .int x1)] rfl ?_
  refine j_lv [1, 2, 0] [(0, .ref (a 0)), (1, .int x1), (2, .int 0)] rfl (L_X5_runBehind_13 C a rws isv rc nlw nkd nbt nph ncn nno nct nsc nrn nlg ndn nzz (va_cpy nlw tlw 0 0 4) (va_cpy nkd tkd 0 0 8) (va_cpy nbt tbt 0 0 8) (va_cpy nph tph 0 0 8) (va_cpy ncn tcn 0 0 8) nct nzz x1 hrc0 hrc hn0 hn hx (hn) (fun (o : Int32 × (Nat → Int32) × Int32 × Int32 × Int32 × Int32) => Rt τ κ cX5_runBehind .int (fun u : (Nat → Int32) × (Nat → Int32) × (Nat → Int32) × (Nat → Int32) × (Nat → Int32) × (Nat → Int32) × Int32 × Int32 × Int32 × Int32 × Int32 × Int32 => ((wX τ a rws isv rc) ++ (wT τ (fun j => a (10 + j)) nlw nkd nbt nph ncn nno nct nsc nrn nlg ndn nzz) ++ (wT τ (fun j => a (20 + j)) u.1 u.2.1 u.2.2.1 u.2.2.2.1 u.2.2.2.2.1 u.2.2.2.2.2.1 u.2.2.2.2.2.2.1 u.2.2.2.2.2.2.2.1 u.2.2.2.2.2.2.2.2.1 u.2.2.2.2.2.2.2.2.2.1 u.2.2.2.2.2.2.2.2.2.2.1 u.2.2.2.2.2.2.2.2.2.2.2))) (pr6 o (fun x2_2 tno_2 tsc_2 trn_2 tlg_2 tdn_2 => (trn_2, (va_cpy nlw tlw 0 0 4), (va_cpy nkd tkd 0 0 8), (va_cpy nbt tbt 0 0 8), (va_cpy nph tph 0 0 8), (va_cpy ncn tcn 0 0 8), tno_2, nct, tsc_2, trn_2, tlg_2, tdn_2, nzz)))) (fun x2_2 tno_2 tsc_2 trn_2 tlg_2 tdn_2  hR => ?_) 300 (0 : Int32) (va_cpy nno tno 0 0 8) nsc nrn nlg ndn (by decide) (by decide) (by decide) hR)
  rw [pr6_mk x2_2 tno_2 tsc_2 trn_2 tlg_2 tdn_2] at hR
  refine j_aload_n C dX5_runBehind_32 33 rfl rfl 0 rfl ?_
  refine j_get C dX5_runBehind_33 36 rfl hiX5 0 rfl rfl 1 (by decide) rfl kX5_runBehind_f16 rfl ?_
  refine j_get C dX5_runBehind_36 39 rfl hiX4 11 rfl rfl 8 (by decide) rfl kX5_runBehind_f142 rfl ?_
  exact Rt.ret (hR) rfl dX5_runBehind_39

-- X5_spoilt main now tried
def l_X5_spoilt_32 (nlw : Nat → Int32) (nkd : Nat → Int32) (nbt : Nat → Int32) (nph : Nat → Int32) (ncn : Nat → Int32) (nno : Nat → Int32) (nct : Int32) (nsc : Int32) (nrn : Int32) (nlg : Int32) (ndn : Int32) (x1 : Int32) (x2 : Int32) : Nat → Int32 → Int32 → Int32 → (Nat → Int32) → (Nat → Int32) → (Nat → Int32) → (Nat → Int32) → (Nat → Int32) → (Nat → Int32) → Int32 → Int32 → Int32 → Int32 → Int32 → Int32 → Int32 × Int32 × Int32 × (Nat → Int32) × (Nat → Int32) × (Nat → Int32) × (Nat → Int32) × (Nat → Int32) × (Nat → Int32) × Int32 × Int32 × Int32 × Int32 × Int32 × Int32
  | 0, x3, x4, x5, tlw, tkd, tbt, tph, tcn, tno, tct, tsc, trn, tlg, tdn, tzz => (x3, x4, x5, tlw, tkd, tbt, tph, tcn, tno, tct, tsc, trn, tlg, tdn, tzz)
  | N + 1, x3, x4, x5, tlw, tkd, tbt, tph, tcn, tno, tct, tsc, trn, tlg, tdn, tzz => if (x1 ≤ x5) then (x3, x4, x5, tlw, tkd, tbt, tph, tcn, tno, tct, tsc, trn, tlg, tdn, tzz) else (pr6 (f_X4_passByDraws (va_cpy nlw tlw 0 0 4) (va_cpy nkd tkd 0 0 8) (va_cpy nbt tbt 0 0 8) (va_cpy nph tph 0 0 8) (va_cpy ncn tcn 0 0 8) (va_cpy nno tno 0 0 8) nct nsc nrn nlg ndn x4) (fun tno_7 tsc_7 trn_7 tlg_7 tdn_7 tzz_7 => pr1 (if (x2 ≤ trn_7) then x3 else (x3 + 1)) (fun j82_0 => l_X5_spoilt_32 nlw nkd nbt nph ncn nno nct nsc nrn nlg ndn x1 x2 N j82_0 tzz_7 (x5 + 1) (va_cpy nlw tlw 0 0 4) (va_cpy nkd tkd 0 0 8) (va_cpy nbt tbt 0 0 8) (va_cpy nph tph 0 0 8) (va_cpy ncn tcn 0 0 8) tno_7 nct tsc_7 trn_7 tlg_7 tdn_7 tzz_7)))
def f_X5_spoilt (nlw : Nat → Int32) (nkd : Nat → Int32) (nbt : Nat → Int32) (nph : Nat → Int32) (ncn : Nat → Int32) (nno : Nat → Int32) (nct : Int32) (nsc : Int32) (nrn : Int32) (nlg : Int32) (ndn : Int32) (nzz : Int32) (tlw : Nat → Int32) (tkd : Nat → Int32) (tbt : Nat → Int32) (tph : Nat → Int32) (tcn : Nat → Int32) (tno : Nat → Int32) (tct : Int32) (tsc : Int32) (trn : Int32) (tlg : Int32) (tdn : Int32) (tzz : Int32) (x1 : Int32) : Int32 × (Nat → Int32) × (Nat → Int32) × (Nat → Int32) × (Nat → Int32) × (Nat → Int32) × (Nat → Int32) × Int32 × Int32 × Int32 × Int32 × Int32 × Int32 := if ((f_X5_isIn x1 (1 : Int32) (30 : Int32)) = 0) then (((-1) : Int32), tlw, tkd, tbt, tph, tcn, tno, tct, tsc, trn, tlg, tdn, tzz) else (pr13 (f_X5_runBehind nlw nkd nbt nph ncn nno nct nsc nrn nlg ndn nzz tlw tkd tbt tph tcn tno (1 : Int32)) (fun r3 tlw_3 tkd_3 tbt_3 tph_3 tcn_3 tno_3 tct_3 tsc_3 trn_3 tlg_3 tdn_3 tzz_3 => pr15 (l_X5_spoilt_32 nlw nkd nbt nph ncn nno nct nsc nrn nlg ndn x1 r3 300 (0 : Int32) nzz (0 : Int32) tlw_3 tkd_3 tbt_3 tph_3 tcn_3 tno_3 tct_3 tsc_3 trn_3 tlg_3 tdn_3 tzz_3) (fun x3_4 x4_4 x5_4 tlw_4 tkd_4 tbt_4 tph_4 tcn_4 tno_4 tct_4 tsc_4 trn_4 tlg_4 tdn_4 tzz_4 => (x3_4, tlw_4, tkd_4, tbt_4, tph_4, tcn_4, tno_4, tct_4, tsc_4, trn_4, tlg_4, tdn_4, tzz_4))))
theorem kX5_spoilt_iRX5 : Cond.initialized yX5_isIn.cls ∈ wsX5_spoilt := by decide +kernel
theorem kX5_spoilt_sX5_isIn : Cond.static yX5_isIn ∈ wsX5_spoilt := by decide +kernel
theorem kX5_spoilt_m79 : Cond.methodLink RX5 79 yX5_isIn ∈ wsX5_spoilt := by decide +kernel
theorem kX5_spoilt_f10 : Cond.fieldLink RX5 10 "TwoMinutes" "now" "LTwoMinutes$Town;" ∈ wsX5_spoilt := by decide +kernel
theorem kX5_spoilt_f145 : Cond.fieldLink RX5 145 "TwoMinutes$Town" "z" "I" ∈ wsX5_spoilt := by decide +kernel
theorem kX5_spoilt_f16 : Cond.fieldLink RX5 16 "TwoMinutes" "tried" "LTwoMinutes$Town;" ∈ wsX5_spoilt := by decide +kernel
theorem kX5_spoilt_f142 : Cond.fieldLink RX5 142 "TwoMinutes$Town" "run" "I" ∈ wsX5_spoilt := by decide +kernel
theorem qd_X5_spoilt : yX5_spoilt.cls = RX5 ∧ yX5_spoilt.cls ≠ "java/lang/invoke/MethodHandle" ∧ yX5_spoilt.cls ≠ "java/lang/invoke/VarHandle" ∧ (parseMethodDescriptor yX5_spoilt.desc).map (fun d => d.parameters.length) = some 1 := by decide +kernel
abbrev rmX5_spoilt : Room := { frames := 6, cells := 0, slots := 0, locals := 129 }
set_option maxHeartbeats 4000000 in
set_option maxRecDepth 100000 in
theorem L_X5_spoilt_32 {τ : SX} {κ : KX} (C : Cx τ κ cX5_spoilt RX5 wsX5_spoilt rmX5_spoilt 6) (a : Nat → Nat) (rws : Nat → Int32) (isv : Int32) (rc : Int32) (nlw : Nat → Int32) (nkd : Nat → Int32) (nbt : Nat → Int32) (nph : Nat → Int32) (ncn : Nat → Int32) (nno : Nat → Int32) (nct : Int32) (nsc : Int32) (nrn : Int32) (nlg : Int32) (ndn : Int32) (nzz : Int32) (x1 : Int32) (x2 : Int32) (hrc0 : 0 ≤ rc.toInt) (hrc : rc.toInt ≤ 10) (hn0 : 0 ≤ nct.toInt) (hn : nct.toInt ≤ 8) (hx : x1.toInt ≤ 60) (Φ : Int32 × Int32 × Int32 × (Nat → Int32) × (Nat → Int32) × (Nat → Int32) × (Nat → Int32) × (Nat → Int32) × (Nat → Int32) × Int32 × Int32 × Int32 × Int32 × Int32 × Int32 → Prop) (hE : ∀ (x3 : Int32) (x4 : Int32) (x5 : Int32) (tlw : Nat → Int32) (tkd : Nat → Int32) (tbt : Nat → Int32) (tph : Nat → Int32) (tcn : Nat → Int32) (tno : Nat → Int32) (tct : Int32) (tsc : Int32) (trn : Int32) (tlg : Int32) (tdn : Int32) (tzz : Int32), Φ (x3, x4, x5, tlw, tkd, tbt, tph, tcn, tno, tct, tsc, trn, tlg, tdn, tzz) → J τ κ 0 0 ((wX τ a rws isv rc) ++ (wT τ (fun j => a (10 + j)) nlw nkd nbt nph ncn nno nct nsc nrn nlg ndn nzz) ++ (wT τ (fun j => a (20 + j)) tlw tkd tbt tph tcn tno tct tsc trn tlg tdn tzz)) [(0, .ref (a 0)), (1, .int x1), (2, .int x2), (3, .int x3), (4, .int x4), (5, .int x5)] 94 []) : ∀ (N : Nat) (x3 : Int32) (x4 : Int32) (x5 : Int32) (tlw : Nat → Int32) (tkd : Nat → Int32) (tbt : Nat → Int32) (tph : Nat → Int32) (tcn : Nat → Int32) (tno : Nat → Int32) (tct : Int32) (tsc : Int32) (trn : Int32) (tlg : Int32) (tdn : Int32) (tzz : Int32), ((60 : Int) - x5.toInt).toNat < N → (0 ≤ x5.toInt) → (x5.toInt ≤ 60) → Φ (l_X5_spoilt_32 nlw nkd nbt nph ncn nno nct nsc nrn nlg ndn x1 x2 N x3 x4 x5 tlw tkd tbt tph tcn tno tct tsc trn tlg tdn tzz) → J τ κ 0 0 ((wX τ a rws isv rc) ++ (wT τ (fun j => a (10 + j)) nlw nkd nbt nph ncn nno nct nsc nrn nlg ndn nzz) ++ (wT τ (fun j => a (20 + j)) tlw tkd tbt tph tcn tno tct tsc trn tlg tdn tzz)) [(0, .ref (a 0)), (1, .int x1), (2, .int x2), (3, .int x3), (4, .int x4), (5, .int x5)] 32 [] := by
  have hiX4 : ∀ w ∈ wsX40, w ∈ wsX5_spoilt := fun w h => List.mem_cons_of_mem _ (List.mem_append_right _ h)
  have hiX5 : ∀ w ∈ wsX50, w ∈ wsX5_spoilt := fun w h => List.mem_cons_of_mem _ (List.mem_append_left _ (List.mem_append_right _ h))
  intro N
  induction N with
  | zero => intro x3 x4 x5 tlw tkd tbt tph tcn tno tct tsc trn tlg tdn tzz hm; exact absurd hm (Nat.not_lt_zero _)
  | succ N ih =>
    intro x3 x4 x5 tlw tkd tbt tph tcn tno tct tsc trn tlg tdn tzz hm h0 h1 hR
    rw [l_X5_spoilt_32] at hR
    refine j_iload C dX5_spoilt_32 34 rfl 5 rfl ?_
    refine j_iload_n C dX5_spoilt_34 35 rfl rfl 1 rfl ?_
    refine j_icmp_ge C dX5_spoilt_35 94 rfl 38 rfl (fun c5 => ?_) (fun c5 => ?_)
    · rw [if_pos c5] at hR
      exact j_lv [0, 1, 2, 3, 4, 5] [(0, .ref (a 0)), (1, .int x1), (2, .int x2), (3, .int x3), (4, .int x4), (5, .int x5)] rfl (hE _ _ _ _ _ _ _ _ _ _ _ _ _ _ _  hR)
    · rw [if_neg c5] at hR
      have hs := cnt_step (B := 60) h0 (hx) (by decide) c5
      refine j_aload_n C dX5_spoilt_38 39 rfl rfl 0 rfl ?_
      refine j_get C dX5_spoilt_39 42 rfl hiX5 0 rfl rfl 1 (by decide) rfl kX5_spoilt_f16 rfl ?_
      refine j_aload_n C dX5_spoilt_42 43 rfl rfl 0 rfl ?_
      refine j_get C dX5_spoilt_43 46 rfl hiX5 0 rfl rfl 0 (by decide) rfl kX5_spoilt_f10 rfl ?_
      refine j_cvV (na := 1) C dX5_spoilt_46 49 rfl (c_X4_copyFrom τ (fun j => a (20 + j)) (fun j => a (10 + j)) tlw tkd tbt tph tcn tno tct tsc trn tlg tdn tzz nlw nkd nbt nph ncn nno nct nsc nrn nlg ndn nzz ) gX5_spoilt_X4_copyFrom rfl rfl rfl qd_X4_copyFrom rfl ⟨by decide, by decide⟩ ⟨by decide, by decide⟩ rfl (Nat.le_of_ble_eq_true rfl) [11, 12, 13, 14, 15, 16, 17, 4, 5, 6, 7, 8, 9, 10] [0, 1, 2, 3] [0, 1, 2, 3, 11, 12, 13, 14, 15, 16, 17, 4, 5, 6, 7, 8, 9, 10] ((wX τ a rws isv rc)) rfl (by decide) rfl (by decide) (by decide) 4 0 rfl rfl (fun u => ((wX τ a rws isv rc) ++ (wT τ (fun j => a (10 + j)) nlw nkd nbt nph ncn nno nct nsc nrn nlg ndn nzz) ++ (wT τ (fun j => a (20 + j)) u.1 u.2.1 u.2.2.1 u.2.2.2.1 u.2.2.2.2.1 u.2.2.2.2.2.1 u.2.2.2.2.2.2.1 u.2.2.2.2.2.2.2.1 u.2.2.2.2.2.2.2.2.1 u.2.2.2.2.2.2.2.2.2.1 u.2.2.2.2.2.2.2.2.2.2.1 u.2.2.2.2.2.2.2.2.2.2.2))) (fun _ => rfl) (by decide) (fun u6 hX6 => ?_)
      obtain ⟨tlw_6, tkd_6, tbt_6, tph_6, tcn_6, tno_6, tct_6, tsc_6, trn_6, tlg_6, tdn_6, tzz_6⟩ := u6
      simp only [f_X4_copyFrom, Prod.mk.injEq] at hX6
      obtain ⟨rfl, rfl, rfl, rfl, rfl, rfl, rfl, rfl, rfl, rfl, rfl, rfl⟩ := hX6
      refine j_aload_n C dX5_spoilt_49 50 rfl rfl 0 rfl ?_
      refine j_get C dX5_spoilt_50 53 rfl hiX5 0 rfl rfl 1 (by decide) rfl kX5_spoilt_f16 rfl ?_
      refine j_iload C dX5_spoilt_53 55 rfl 4 rfl ?_
      refine j_put C dX5_spoilt_55 58 rfl hiX4 tyX4_ok nmX4 11 rfl rfl 11 (by decide) rfl kX5_spoilt_f145 rfl rfl rfl (Nat.le_of_ble_eq_true rfl) ((wX τ a rws isv rc) ++ (wT τ (fun j => a (10 + j)) nlw nkd nbt nph ncn nno nct nsc nrn nlg ndn nzz) ++ (wT τ (fun j => a (20 + j)) (va_cpy nlw tlw 0 0 4) (va_cpy nkd tkd 0 0 8) (va_cpy nbt tbt 0 0 8) (va_cpy nph tph 0 0 8) (va_cpy ncn tcn 0 0 8) (va_cpy nno tno 0 0 8) nct nsc nrn nlg ndn x4)) rfl ?_
      refine j_aload_n C dX5_spoilt_58 59 rfl rfl 0 rfl ?_
      refine j_get C dX5_spoilt_59 62 rfl hiX5 0 rfl rfl 1 (by decide) rfl kX5_spoilt_f16 rfl ?_
      refine j_cvV (na := 0) C dX5_spoilt_62 65 rfl (c_X4_passByDraws τ (fun j => a (20 + j)) (va_cpy nlw tlw 0 0 4) (va_cpy nkd tkd 0 0 8) (va_cpy nbt tbt 0 0 8) (va_cpy nph tph 0 0 8) (va_cpy ncn tcn 0 0 8) (va_cpy nno tno 0 0 8) nct nsc nrn nlg ndn x4 (by first | assumption | decide | exact in_has (by assumption) hn0 hn | exact (in_trial (by assumption) hn0 hn).1 | exact (in_trial (by assumption) hn0 hn).2.2 | exact in_isIn4 (by assumption) | exact in_isIn60 (by assumption) | exact in_isIn30 (by assumption) | exact in_sheet (by assumption) | exact in_shelf (by assumption) | exact vp_in_iff.mpr ⟨by omega, by omega⟩ | exact nz_nle (by assumption) | exact nz_lt (by assumption) | omega)) gX5_spoilt_X4_passByDraws rfl rfl rfl qd_X4_passByDraws rfl ⟨by decide, by decide⟩ ⟨by decide, by decide⟩ rfl (Nat.le_of_ble_eq_true rfl) [11, 12, 13, 14, 15, 16, 17] [0, 1, 2, 3, 4, 5, 6, 7, 8, 9, 10] [0, 1, 2, 3, 4, 5, 6, 7, 8, 9, 10, 11, 12, 13, 14, 15, 16, 17] ((wX τ a rws isv rc) ++ (wT τ (fun j => a (10 + j)) nlw nkd nbt nph ncn nno nct nsc nrn nlg ndn nzz)) rfl (by decide) rfl (by decide) (by decide) 4 0 rfl rfl (fun u => ((wX τ a rws isv rc) ++ (wT τ (fun j => a (10 + j)) nlw nkd nbt nph ncn nno nct nsc nrn nlg ndn nzz) ++ (wT τ (fun j => a (20 + j)) (va_cpy nlw tlw 0 0 4) (va_cpy nkd tkd 0 0 8) (va_cpy nbt tbt 0 0 8) (va_cpy nph tph 0 0 8) (va_cpy ncn tcn 0 0 8) u.1 nct u.2.1 u.2.2.1 u.2.2.2.1 u.2.2.2.2.1 u.2.2.2.2.2))) (fun _ => rfl) (by decide) (fun u7 hX7 => ?_)
      obtain ⟨tno_7, tsc_7, trn_7, tlg_7, tdn_7, tzz_7⟩ := u7
      rw [hX7] at hR; rw [pr6_mk tno_7 tsc_7 trn_7 tlg_7 tdn_7 tzz_7] at hR
      refine j_aload_n C dX5_spoilt_65 66 rfl rfl 0 rfl ?_
      refine j_get C dX5_spoilt_66 69 rfl hiX5 0 rfl rfl 1 (by decide) rfl kX5_spoilt_f16 rfl ?_
      refine j_get C dX5_spoilt_69 72 rfl hiX4 11 rfl rfl 11 (by decide) rfl kX5_spoilt_f145 rfl ?_
      refine j_istore C dX5_spoilt_72 74 rfl (by decide) [(4, .int tzz_7), (0, .ref (a 0)), (1, .int x1), (2, .int x2), (3, .int x3), (5, .int x5)] rfl ?_
      refine j_aload_n C dX5_spoilt_74 75 rfl rfl 1 rfl ?_
      refine j_get C dX5_spoilt_75 78 rfl hiX5 0 rfl rfl 1 (by decide) rfl kX5_spoilt_f16 rfl ?_
      refine j_get C dX5_spoilt_78 81 rfl hiX4 11 rfl rfl 8 (by decide) rfl kX5_spoilt_f142 rfl ?_
      refine j_iload_n C dX5_spoilt_81 82 rfl rfl 3 rfl ?_
      have J82 : ∀ (j82_0 : Int32), Φ (l_X5_spoilt_32 nlw nkd nbt nph ncn nno nct nsc nrn nlg ndn x1 x2 N j82_0 tzz_7 (x5 + 1) (va_cpy nlw tlw 0 0 4) (va_cpy nkd tkd 0 0 8) (va_cpy nbt tbt 0 0 8) (va_cpy nph tph 0 0 8) (va_cpy ncn tcn 0 0 8) tno_7 nct tsc_7 trn_7 tlg_7 tdn_7 tzz_7) → J τ κ 0 0 ((wX τ a rws isv rc) ++ (wT τ (fun j => a (10 + j)) nlw nkd nbt nph ncn nno nct nsc nrn nlg ndn nzz) ++ (wT τ (fun j => a (20 + j)) (va_cpy nlw tlw 0 0 4) (va_cpy nkd tkd 0 0 8) (va_cpy nbt tbt 0 0 8) (va_cpy nph tph 0 0 8) (va_cpy ncn tcn 0 0 8) tno_7 nct tsc_7 trn_7 tlg_7 tdn_7 tzz_7)) [(0, .ref (a 0)), (1, .int x1), (2, .int x2), (3, .int j82_0), (4, .int tzz_7), (5, .int x5)] 88 [] := by
        intro j82_0  hR
        refine j_iinc (v := (x5 + 1)) C dX5_spoilt_88 91 rfl 5 rfl rfl (by decide) [(5, .int (x5 + 1)), (0, .ref (a 0)), (1, .int x1), (2, .int x2), (3, .int j82_0), (4, .int tzz_7)] rfl ?_
        refine j_goto C dX5_spoilt_91 32 rfl ?_
        exact j_lv [1, 2, 3, 4, 5, 0] [(0, .ref (a 0)), (1, .int x1), (2, .int x2), (3, .int j82_0), (4, .int tzz_7), (5, .int (x5 + 1))] rfl (ih _ _ _ _ _ _ _ _ _ _ _ _ _ _ _ (by have := hs.2.2.1; omega) hs.1 hs.2.1 hR)
      refine j_icmp_ge C dX5_spoilt_82 88 rfl 85 rfl (fun c8 => ?_) (fun c8 => ?_)
      · rw [if_pos c8] at hR
        rw [pr1_mk x3] at hR
        exact j_lv [1, 2, 3, 4, 0, 5] [(0, .ref (a 0)), (1, .int x1), (2, .int x2), (3, .int x3), (4, .int tzz_7), (5, .int x5)] rfl (J82 _  hR)
      · rw [if_neg c8] at hR
        refine j_iinc (v := (x3 + 1)) C dX5_spoilt_85 88 rfl 4 rfl rfl (by decide) [(3, .int (x3 + 1)), (4, .int tzz_7), (0, .ref (a 0)), (1, .int x1), (2, .int x2), (5, .int x5)] rfl ?_
        rw [pr1_mk (x3 + 1)] at hR
        exact j_lv [2, 3, 4, 0, 1, 5] [(0, .ref (a 0)), (1, .int x1), (2, .int x2), (3, .int (x3 + 1)), (4, .int tzz_7), (5, .int x5)] rfl (J82 _  hR)
set_option maxHeartbeats 4000000 in
set_option maxRecDepth 100000 in
theorem c_X5_spoilt (τ : SX) (a : Nat → Nat) (rws : Nat → Int32) (isv : Int32) (rc : Int32) (nlw : Nat → Int32) (nkd : Nat → Int32) (nbt : Nat → Int32) (nph : Nat → Int32) (ncn : Nat → Int32) (nno : Nat → Int32) (nct : Int32) (nsc : Int32) (nrn : Int32) (nlg : Int32) (ndn : Int32) (nzz : Int32) (tlw : Nat → Int32) (tkd : Nat → Int32) (tbt : Nat → Int32) (tph : Nat → Int32) (tcn : Nat → Int32) (tno : Nat → Int32) (tct : Int32) (tsc : Int32) (trn : Int32) (tlg : Int32) (tdn : Int32) (tzz : Int32) (x1 : Int32) (hrc0 : 0 ≤ rc.toInt) (hrc : rc.toInt ≤ 10) (hn0 : 0 ≤ nct.toInt) (hn : nct.toInt ≤ 8) (sz : Nat) : McI τ yX5_spoilt wsX5_spoilt rmX5_spoilt .int [.ref (a 0), .int x1] ((wX τ a rws isv rc) ++ (wT τ (fun j => a (10 + j)) nlw nkd nbt nph ncn nno nct nsc nrn nlg ndn nzz) ++ (wT τ (fun j => a (20 + j)) tlw tkd tbt tph tcn tno tct tsc trn tlg tdn tzz)) (fun u : (Nat → Int32) × (Nat → Int32) × (Nat → Int32) × (Nat → Int32) × (Nat → Int32) × (Nat → Int32) × Int32 × Int32 × Int32 × Int32 × Int32 × Int32 => ((wX τ a rws isv rc) ++ (wT τ (fun j => a (10 + j)) nlw nkd nbt nph ncn nno nct nsc nrn nlg ndn nzz) ++ (wT τ (fun j => a (20 + j)) u.1 u.2.1 u.2.2.1 u.2.2.2.1 u.2.2.2.2.1 u.2.2.2.2.2.1 u.2.2.2.2.2.2.1 u.2.2.2.2.2.2.2.1 u.2.2.2.2.2.2.2.2.1 u.2.2.2.2.2.2.2.2.2.1 u.2.2.2.2.2.2.2.2.2.2.1 u.2.2.2.2.2.2.2.2.2.2.2))) (f_X5_spoilt nlw nkd nbt nph ncn nno nct nsc nrn nlg ndn nzz tlw tkd tbt tph tcn tno tct tsc trn tlg tdn tzz x1) sz := by
  refine mc_I (cc := cX5_spoilt) (own := RX5) [(0, .ref (a 0)), (1, .int x1)] rfl (by decide) rfl rfl (Nat.le_of_ble_eq_true rfl) (fun κ C hR => ?_)
  have hiX4 : ∀ w ∈ wsX40, w ∈ wsX5_spoilt := fun w h => List.mem_cons_of_mem _ (List.mem_append_right _ h)
  have hiX5 : ∀ w ∈ wsX50, w ∈ wsX5_spoilt := fun w h => List.mem_cons_of_mem _ (List.mem_append_left _ (List.mem_append_right _ h))
  unfold f_X5_spoilt at hR
  refine j_iload_n C dX5_spoilt_0 1 rfl rfl 1 rfl ?_
  refine j_iconst (v := 1) C dX5_spoilt_1 2 rfl (by decide) ?_
  refine j_bipush (v := 30) C dX5_spoilt_2 4 rfl (by decide) ?_
  refine j_cs0I (na := 3) C dX5_spoilt_4 7 rfl (c_X5_isIn τ  x1 (1 : Int32) (30 : Int32) ) rfl ggX5_spoilt_X5_isIn rfl rfl rfl kX5_spoilt_iRX5 kX5_spoilt_m79 kX5_spoilt_sX5_isIn qd_X5_isIn rfl ⟨by decide, by decide⟩ ⟨by decide, by decide⟩ rfl (Nat.le_of_ble_eq_true rfl) (fun r1 u1 hX1 hn1 => ?_)
  obtain rfl := (Prod.mk.inj hX1).1
  refine j_if_ne C dX5_spoilt_7 12 rfl 10 rfl (fun c2 => ?_) (fun c2 => ?_)
  · rw [if_neg c2] at hR
    refine j_aload_n C dX5_spoilt_12 13 rfl rfl 0 rfl ?_
    refine j_iconst (v := 1) C dX5_spoilt_13 14 rfl (by decide) ?_
    refine j_cv0I (na := 1) C dX5_spoilt_14 17 rfl (c_X5_runBehind τ a rws isv rc nlw nkd nbt nph ncn nno nct nsc nrn nlg ndn nzz tlw tkd tbt tph tcn tno tct tsc trn tlg tdn tzz (1 : Int32) (by first | assumption | decide | exact in_has (by assumption) hn0 hn | exact (in_trial (by assumption) hn0 hn).1 | exact (in_trial (by assumption) hn0 hn).2.2 | exact in_isIn4 (by assumption) | exact in_isIn60 (by assumption) | exact in_isIn30 (by assumption) | exact in_sheet (by assumption) | exact in_shelf (by assumption) | exact vp_in_iff.mpr ⟨by omega, by omega⟩ | exact nz_nle (by assumption) | exact nz_lt (by assumption) | omega) (by first | assumption | decide | exact in_has (by assumption) hn0 hn | exact (in_trial (by assumption) hn0 hn).1 | exact (in_trial (by assumption) hn0 hn).2.2 | exact in_isIn4 (by assumption) | exact in_isIn60 (by assumption) | exact in_isIn30 (by assumption) | exact in_sheet (by assumption) | exact in_shelf (by assumption) | exact vp_in_iff.mpr ⟨by omega, by omega⟩ | exact nz_nle (by assumption) | exact nz_lt (by assumption) | omega) (by first | assumption | decide | exact in_has (by assumption) hn0 hn | exact (in_trial (by assumption) hn0 hn).1 | exact (in_trial (by assumption) hn0 hn).2.2 | exact in_isIn4 (by assumption) | exact in_isIn60 (by assumption) | exact in_isIn30 (by assumption) | exact in_sheet (by assumption) | exact in_shelf (by assumption) | exact vp_in_iff.mpr ⟨by omega, by omega⟩ | exact nz_nle (by assumption) | exact nz_lt (by assumption) | omega) (by first | assumption | decide | exact in_has (by assumption) hn0 hn | exact (in_trial (by assumption) hn0 hn).1 | exact (in_trial (by assumption) hn0 hn).2.2 | exact in_isIn4 (by assumption) | exact in_isIn60 (by assumption) | exact in_isIn30 (by assumption) | exact in_sheet (by assumption) | exact in_shelf (by assumption) | exact vp_in_iff.mpr ⟨by omega, by omega⟩ | exact nz_nle (by assumption) | exact nz_lt (by assumption) | omega) (by first | assumption | decide | exact in_has (by assumption) hn0 hn | exact (in_trial (by assumption) hn0 hn).1 | exact (in_trial (by assumption) hn0 hn).2.2 | exact in_isIn4 (by assumption) | exact in_isIn60 (by assumption) | exact in_isIn30 (by assumption) | exact in_sheet (by assumption) | exact in_shelf (by assumption) | exact vp_in_iff.mpr ⟨by omega, by omega⟩ | exact nz_nle (by assumption) | exact nz_lt (by assumption) | omega)) gX5_spoilt_X5_runBehind rfl rfl rfl qd_X5_runBehind rfl ⟨by decide, by decide⟩ ⟨by decide, by decide⟩ rfl (Nat.le_of_ble_eq_true rfl) rfl 5 0 rfl rfl (fun r3 u3 hX3 hn3 => ?_)
    obtain ⟨tlw_3, tkd_3, tbt_3, tph_3, tcn_3, tno_3, tct_3, tsc_3, trn_3, tlg_3, tdn_3, tzz_3⟩ := u3
    rw [hX3] at hR; rw [pr13_mk r3 tlw_3 tkd_3 tbt_3 tph_3 tcn_3 tno_3 tct_3 tsc_3 trn_3 tlg_3 tdn_3 tzz_3] at hR
    refine j_istore_n C dX5_spoilt_17 18 rfl rfl (by decide) [(2, .int r3), (0, .ref (a 0)), (1, .int x1)] rfl ?_
    refine j_iconst (v := 0) C dX5_spoilt_18 19 rfl (by decide) ?_
    refine j_istore_n C dX5_spoilt_19 20 rfl rfl (by decide) [(3, .int 0), (2, .int r3), (0, .ref (a 0)), (1, .int x1)] rfl ?_
    refine j_aload_n C dX5_spoilt_20 21 rfl rfl 2 rfl ?_
    refine j_get C dX5_spoilt_21 24 rfl hiX5 0 rfl rfl 0 (by decide) rfl kX5_spoilt_f10 rfl ?_
    refine j_get C dX5_spoilt_24 27 rfl hiX4 4 rfl rfl 11 (by decide) rfl kX5_spoilt_f145 rfl ?_
    refine j_istore C dX5_spoilt_27 29 rfl (by decide) [(4, .int nzz), (3, .int 0), (2, .int r3), (0, .ref (a 0)), (1, .int x1)] rfl ?_
    refine j_iconst (v := 0) C dX5_spoilt_29 30 rfl (by decide) ?_
    refine j_istore C dX5_spoilt_30 32 rfl (by decide) [(5, .int 0), (4, .int nzz), (3, .int 0), (2, .int r3), (0, .ref (a 0)), (1, .int x1)] rfl ?_
    refine j_lv [4, 5, 3, 2, 1, 0] [(0, .ref (a 0)), (1, .int x1), (2, .int r3), (3, .int 0), (4, .int nzz), (5, .int 0)] rfl (L_X5_spoilt_32 C a rws isv rc nlw nkd nbt nph ncn nno nct nsc nrn nlg ndn nzz x1 r3 hrc0 hrc hn0 hn (in_isIn30 (by assumption)) (fun (o : Int32 × Int32 × Int32 × (Nat → Int32) × (Nat → Int32) × (Nat → Int32) × (Nat → Int32) × (Nat → Int32) × (Nat → Int32) × Int32 × Int32 × Int32 × Int32 × Int32 × Int32) => Rt τ κ cX5_spoilt .int (fun u : (Nat → Int32) × (Nat → Int32) × (Nat → Int32) × (Nat → Int32) × (Nat → Int32) × (Nat → Int32) × Int32 × Int32 × Int32 × Int32 × Int32 × Int32 => ((wX τ a rws isv rc) ++ (wT τ (fun j => a (10 + j)) nlw nkd nbt nph ncn nno nct nsc nrn nlg ndn nzz) ++ (wT τ (fun j => a (20 + j)) u.1 u.2.1 u.2.2.1 u.2.2.2.1 u.2.2.2.2.1 u.2.2.2.2.2.1 u.2.2.2.2.2.2.1 u.2.2.2.2.2.2.2.1 u.2.2.2.2.2.2.2.2.1 u.2.2.2.2.2.2.2.2.2.1 u.2.2.2.2.2.2.2.2.2.2.1 u.2.2.2.2.2.2.2.2.2.2.2))) (pr15 o (fun x3_4 x4_4 x5_4 tlw_4 tkd_4 tbt_4 tph_4 tcn_4 tno_4 tct_4 tsc_4 trn_4 tlg_4 tdn_4 tzz_4 => (x3_4, tlw_4, tkd_4, tbt_4, tph_4, tcn_4, tno_4, tct_4, tsc_4, trn_4, tlg_4, tdn_4, tzz_4)))) (fun x3_4 x4_4 x5_4 tlw_4 tkd_4 tbt_4 tph_4 tcn_4 tno_4 tct_4 tsc_4 trn_4 tlg_4 tdn_4 tzz_4  hR => ?_) 300 (0 : Int32) nzz (0 : Int32) tlw_3 tkd_3 tbt_3 tph_3 tcn_3 tno_3 tct_3 tsc_3 trn_3 tlg_3 tdn_3 tzz_3 (by decide) (by decide) (by decide) hR)
    rw [pr15_mk x3_4 x4_4 x5_4 tlw_4 tkd_4 tbt_4 tph_4 tcn_4 tno_4 tct_4 tsc_4 trn_4 tlg_4 tdn_4 tzz_4] at hR
    refine j_iload_n C dX5_spoilt_94 95 rfl rfl 3 rfl ?_
    exact Rt.ret (hR) rfl dX5_spoilt_95
  · rw [if_pos c2] at hR
    refine j_iconst (v := (-1)) C dX5_spoilt_10 11 rfl (by decide) ?_
    exact Rt.ret (hR) rfl dX5_spoilt_11

-- X5_lasts main now tried
def f_X5_lasts (nlw : Nat → Int32) (nkd : Nat → Int32) (nbt : Nat → Int32) (nph : Nat → Int32) (ncn : Nat → Int32) (nno : Nat → Int32) (nct : Int32) (nsc : Int32) (nrn : Int32) (nlg : Int32) (ndn : Int32) (nzz : Int32) (tlw : Nat → Int32) (tkd : Nat → Int32) (tbt : Nat → Int32) (tph : Nat → Int32) (tcn : Nat → Int32) (tno : Nat → Int32) (tct : Int32) (tsc : Int32) (trn : Int32) (tlg : Int32) (tdn : Int32) (tzz : Int32) (x1 : Int32) : Int32 × (Nat → Int32) × (Nat → Int32) × (Nat → Int32) × (Nat → Int32) × (Nat → Int32) × (Nat → Int32) × Int32 × Int32 × Int32 × Int32 × Int32 × Int32 := if ((f_X5_isIn x1 (0 : Int32) (60 : Int32)) = 0) then (((-1) : Int32), tlw, tkd, tbt, tph, tcn, tno, tct, tsc, trn, tlg, tdn, tzz) else (pr13 (f_X5_runBehind nlw nkd nbt nph ncn nno nct nsc nrn nlg ndn nzz tlw tkd tbt tph tcn tno x1) (fun r3 tlw_3 tkd_3 tbt_3 tph_3 tcn_3 tno_3 tct_3 tsc_3 trn_3 tlg_3 tdn_3 tzz_3 => (r3, tlw_3, tkd_3, tbt_3, tph_3, tcn_3, tno_3, tct_3, tsc_3, trn_3, tlg_3, tdn_3, tzz_3)))
theorem kX5_lasts_iRX5 : Cond.initialized yX5_isIn.cls ∈ wsX5_lasts := by decide +kernel
theorem kX5_lasts_sX5_isIn : Cond.static yX5_isIn ∈ wsX5_lasts := by decide +kernel
theorem kX5_lasts_m79 : Cond.methodLink RX5 79 yX5_isIn ∈ wsX5_lasts := by decide +kernel
theorem qd_X5_lasts : yX5_lasts.cls = RX5 ∧ yX5_lasts.cls ≠ "java/lang/invoke/MethodHandle" ∧ yX5_lasts.cls ≠ "java/lang/invoke/VarHandle" ∧ (parseMethodDescriptor yX5_lasts.desc).map (fun d => d.parameters.length) = some 1 := by decide +kernel
abbrev rmX5_lasts : Room := { frames := 6, cells := 0, slots := 0, locals := 129 }
set_option maxHeartbeats 4000000 in
set_option maxRecDepth 100000 in
theorem c_X5_lasts (τ : SX) (a : Nat → Nat) (rws : Nat → Int32) (isv : Int32) (rc : Int32) (nlw : Nat → Int32) (nkd : Nat → Int32) (nbt : Nat → Int32) (nph : Nat → Int32) (ncn : Nat → Int32) (nno : Nat → Int32) (nct : Int32) (nsc : Int32) (nrn : Int32) (nlg : Int32) (ndn : Int32) (nzz : Int32) (tlw : Nat → Int32) (tkd : Nat → Int32) (tbt : Nat → Int32) (tph : Nat → Int32) (tcn : Nat → Int32) (tno : Nat → Int32) (tct : Int32) (tsc : Int32) (trn : Int32) (tlg : Int32) (tdn : Int32) (tzz : Int32) (x1 : Int32) (hrc0 : 0 ≤ rc.toInt) (hrc : rc.toInt ≤ 10) (hn0 : 0 ≤ nct.toInt) (hn : nct.toInt ≤ 8) (sz : Nat) : McI τ yX5_lasts wsX5_lasts rmX5_lasts .int [.ref (a 0), .int x1] ((wX τ a rws isv rc) ++ (wT τ (fun j => a (10 + j)) nlw nkd nbt nph ncn nno nct nsc nrn nlg ndn nzz) ++ (wT τ (fun j => a (20 + j)) tlw tkd tbt tph tcn tno tct tsc trn tlg tdn tzz)) (fun u : (Nat → Int32) × (Nat → Int32) × (Nat → Int32) × (Nat → Int32) × (Nat → Int32) × (Nat → Int32) × Int32 × Int32 × Int32 × Int32 × Int32 × Int32 => ((wX τ a rws isv rc) ++ (wT τ (fun j => a (10 + j)) nlw nkd nbt nph ncn nno nct nsc nrn nlg ndn nzz) ++ (wT τ (fun j => a (20 + j)) u.1 u.2.1 u.2.2.1 u.2.2.2.1 u.2.2.2.2.1 u.2.2.2.2.2.1 u.2.2.2.2.2.2.1 u.2.2.2.2.2.2.2.1 u.2.2.2.2.2.2.2.2.1 u.2.2.2.2.2.2.2.2.2.1 u.2.2.2.2.2.2.2.2.2.2.1 u.2.2.2.2.2.2.2.2.2.2.2))) (f_X5_lasts nlw nkd nbt nph ncn nno nct nsc nrn nlg ndn nzz tlw tkd tbt tph tcn tno tct tsc trn tlg tdn tzz x1) sz := by
  refine mc_I (cc := cX5_lasts) (own := RX5) [(0, .ref (a 0)), (1, .int x1)] rfl (by decide) rfl rfl (Nat.le_of_ble_eq_true rfl) (fun κ C hR => ?_)
  have hiX4 : ∀ w ∈ wsX40, w ∈ wsX5_lasts := fun w h => List.mem_cons_of_mem _ (List.mem_append_right _ h)
  have hiX5 : ∀ w ∈ wsX50, w ∈ wsX5_lasts := fun w h => List.mem_cons_of_mem _ (List.mem_append_left _ (List.mem_append_right _ h))
  unfold f_X5_lasts at hR
  refine j_iload_n C dX5_lasts_0 1 rfl rfl 1 rfl ?_
  refine j_iconst (v := 0) C dX5_lasts_1 2 rfl (by decide) ?_
  refine j_bipush (v := 60) C dX5_lasts_2 4 rfl (by decide) ?_
  refine j_cs0I (na := 3) C dX5_lasts_4 7 rfl (c_X5_isIn τ  x1 (0 : Int32) (60 : Int32) ) rfl ggX5_lasts_X5_isIn rfl rfl rfl kX5_lasts_iRX5 kX5_lasts_m79 kX5_lasts_sX5_isIn qd_X5_isIn rfl ⟨by decide, by decide⟩ ⟨by decide, by decide⟩ rfl (Nat.le_of_ble_eq_true rfl) (fun r1 u1 hX1 hn1 => ?_)
  obtain rfl := (Prod.mk.inj hX1).1
  refine j_if_eq C dX5_lasts_7 18 rfl 10 rfl (fun c2 => ?_) (fun c2 => ?_)
  · rw [if_pos c2] at hR
    refine j_iconst (v := (-1)) C dX5_lasts_18 19 rfl (by decide) ?_
    exact Rt.ret (hR) rfl dX5_lasts_19
  · rw [if_neg c2] at hR
    refine j_aload_n C dX5_lasts_10 11 rfl rfl 0 rfl ?_
    refine j_iload_n C dX5_lasts_11 12 rfl rfl 1 rfl ?_
    refine j_cv0I (na := 1) C dX5_lasts_12 15 rfl (c_X5_runBehind τ a rws isv rc nlw nkd nbt nph ncn nno nct nsc nrn nlg ndn nzz tlw tkd tbt tph tcn tno tct tsc trn tlg tdn tzz x1 (by first | assumption | decide | exact in_has (by assumption) hn0 hn | exact (in_trial (by assumption) hn0 hn).1 | exact (in_trial (by assumption) hn0 hn).2.2 | exact in_isIn4 (by assumption) | exact in_isIn60 (by assumption) | exact in_isIn30 (by assumption) | exact in_sheet (by assumption) | exact in_shelf (by assumption) | exact vp_in_iff.mpr ⟨by omega, by omega⟩ | exact nz_nle (by assumption) | exact nz_lt (by assumption) | omega) (by first | assumption | decide | exact in_has (by assumption) hn0 hn | exact (in_trial (by assumption) hn0 hn).1 | exact (in_trial (by assumption) hn0 hn).2.2 | exact in_isIn4 (by assumption) | exact in_isIn60 (by assumption) | exact in_isIn30 (by assumption) | exact in_sheet (by assumption) | exact in_shelf (by assumption) | exact vp_in_iff.mpr ⟨by omega, by omega⟩ | exact nz_nle (by assumption) | exact nz_lt (by assumption) | omega) (by first | assumption | decide | exact in_has (by assumption) hn0 hn | exact (in_trial (by assumption) hn0 hn).1 | exact (in_trial (by assumption) hn0 hn).2.2 | exact in_isIn4 (by assumption) | exact in_isIn60 (by assumption) | exact in_isIn30 (by assumption) | exact in_sheet (by assumption) | exact in_shelf (by assumption) | exact vp_in_iff.mpr ⟨by omega, by omega⟩ | exact nz_nle (by assumption) | exact nz_lt (by assumption) | omega) (by first | assumption | decide | exact in_has (by assumption) hn0 hn | exact (in_trial (by assumption) hn0 hn).1 | exact (in_trial (by assumption) hn0 hn).2.2 | exact in_isIn4 (by assumption) | exact in_isIn60 (by assumption) | exact in_isIn30 (by assumption) | exact in_sheet (by assumption) | exact in_shelf (by assumption) | exact vp_in_iff.mpr ⟨by omega, by omega⟩ | exact nz_nle (by assumption) | exact nz_lt (by assumption) | omega) (by first | assumption | decide | exact in_has (by assumption) hn0 hn | exact (in_trial (by assumption) hn0 hn).1 | exact (in_trial (by assumption) hn0 hn).2.2 | exact in_isIn4 (by assumption) | exact in_isIn60 (by assumption) | exact in_isIn30 (by assumption) | exact in_sheet (by assumption) | exact in_shelf (by assumption) | exact vp_in_iff.mpr ⟨by omega, by omega⟩ | exact nz_nle (by assumption) | exact nz_lt (by assumption) | omega)) gX5_lasts_X5_runBehind rfl rfl rfl qd_X5_runBehind rfl ⟨by decide, by decide⟩ ⟨by decide, by decide⟩ rfl (Nat.le_of_ble_eq_true rfl) rfl 5 0 rfl rfl (fun r3 u3 hX3 hn3 => ?_)
    obtain ⟨tlw_3, tkd_3, tbt_3, tph_3, tcn_3, tno_3, tct_3, tsc_3, trn_3, tlg_3, tdn_3, tzz_3⟩ := u3
    rw [hX3] at hR; rw [pr13_mk r3 tlw_3 tkd_3 tbt_3 tph_3 tcn_3 tno_3 tct_3 tsc_3 trn_3 tlg_3 tdn_3 tzz_3] at hR
    refine j_goto C dX5_lasts_15 19 rfl ?_
    exact Rt.ret (hR) rfl dX5_lasts_19

-- X5_length main tried now
def f_X5_length (nlw : Nat → Int32) (nkd : Nat → Int32) (nbt : Nat → Int32) (nph : Nat → Int32) (ncn : Nat → Int32) (nno : Nat → Int32) (nct : Int32) (nsc : Int32) (nrn : Int32) (nlg : Int32) (ndn : Int32) (nzz : Int32) (tlw : Nat → Int32) (tkd : Nat → Int32) (tbt : Nat → Int32) (tph : Nat → Int32) (tcn : Nat → Int32) (tno : Nat → Int32) (tct : Int32) (tsc : Int32) (trn : Int32) (tlg : Int32) (tdn : Int32) (tzz : Int32) (x1 : Int32) : Int32 × (Nat → Int32) × (Nat → Int32) × (Nat → Int32) × (Nat → Int32) × (Nat → Int32) × (Nat → Int32) × Int32 × Int32 × Int32 × Int32 × Int32 × Int32 := if ((f_X5_isIn x1 (1 : Int32) (60 : Int32)) = 0) then (((-1) : Int32), tlw, tkd, tbt, tph, tcn, tno, tct, tsc, trn, tlg, tdn, tzz) else (pr5 (f_X4_longestWithin (va_cpy nlw tlw 0 0 4) (va_cpy nkd tkd 0 0 8) (va_cpy nbt tbt 0 0 8) (va_cpy nph tph 0 0 8) nct nsc nrn nlg ndn x1) (fun r4 tsc_4 trn_4 tlg_4 tdn_4 => (r4, (va_cpy nlw tlw 0 0 4), (va_cpy nkd tkd 0 0 8), (va_cpy nbt tbt 0 0 8), (va_cpy nph tph 0 0 8), (va_cpy ncn tcn 0 0 8), (va_cpy nno tno 0 0 8), nct, tsc_4, trn_4, tlg_4, tdn_4, nzz)))
theorem kX5_length_iRX5 : Cond.initialized yX5_isIn.cls ∈ wsX5_length := by decide +kernel
theorem kX5_length_sX5_isIn : Cond.static yX5_isIn ∈ wsX5_length := by decide +kernel
theorem kX5_length_m79 : Cond.methodLink RX5 79 yX5_isIn ∈ wsX5_length := by decide +kernel
theorem kX5_length_f16 : Cond.fieldLink RX5 16 "TwoMinutes" "tried" "LTwoMinutes$Town;" ∈ wsX5_length := by decide +kernel
theorem kX5_length_f10 : Cond.fieldLink RX5 10 "TwoMinutes" "now" "LTwoMinutes$Town;" ∈ wsX5_length := by decide +kernel
theorem qd_X5_length : yX5_length.cls = RX5 ∧ yX5_length.cls ≠ "java/lang/invoke/MethodHandle" ∧ yX5_length.cls ≠ "java/lang/invoke/VarHandle" ∧ (parseMethodDescriptor yX5_length.desc).map (fun d => d.parameters.length) = some 1 := by decide +kernel
abbrev rmX5_length : Room := { frames := 5, cells := 0, slots := 0, locals := 109 }
set_option maxHeartbeats 4000000 in
set_option maxRecDepth 100000 in
theorem c_X5_length (τ : SX) (a : Nat → Nat) (rws : Nat → Int32) (isv : Int32) (rc : Int32) (nlw : Nat → Int32) (nkd : Nat → Int32) (nbt : Nat → Int32) (nph : Nat → Int32) (ncn : Nat → Int32) (nno : Nat → Int32) (nct : Int32) (nsc : Int32) (nrn : Int32) (nlg : Int32) (ndn : Int32) (nzz : Int32) (tlw : Nat → Int32) (tkd : Nat → Int32) (tbt : Nat → Int32) (tph : Nat → Int32) (tcn : Nat → Int32) (tno : Nat → Int32) (tct : Int32) (tsc : Int32) (trn : Int32) (tlg : Int32) (tdn : Int32) (tzz : Int32) (x1 : Int32) (hrc0 : 0 ≤ rc.toInt) (hrc : rc.toInt ≤ 10) (hn0 : 0 ≤ nct.toInt) (hn : nct.toInt ≤ 8) (sz : Nat) : McI τ yX5_length wsX5_length rmX5_length .int [.ref (a 0), .int x1] ((wX τ a rws isv rc) ++ (wT τ (fun j => a (10 + j)) nlw nkd nbt nph ncn nno nct nsc nrn nlg ndn nzz) ++ (wT τ (fun j => a (20 + j)) tlw tkd tbt tph tcn tno tct tsc trn tlg tdn tzz)) (fun u : (Nat → Int32) × (Nat → Int32) × (Nat → Int32) × (Nat → Int32) × (Nat → Int32) × (Nat → Int32) × Int32 × Int32 × Int32 × Int32 × Int32 × Int32 => ((wX τ a rws isv rc) ++ (wT τ (fun j => a (10 + j)) nlw nkd nbt nph ncn nno nct nsc nrn nlg ndn nzz) ++ (wT τ (fun j => a (20 + j)) u.1 u.2.1 u.2.2.1 u.2.2.2.1 u.2.2.2.2.1 u.2.2.2.2.2.1 u.2.2.2.2.2.2.1 u.2.2.2.2.2.2.2.1 u.2.2.2.2.2.2.2.2.1 u.2.2.2.2.2.2.2.2.2.1 u.2.2.2.2.2.2.2.2.2.2.1 u.2.2.2.2.2.2.2.2.2.2.2))) (f_X5_length nlw nkd nbt nph ncn nno nct nsc nrn nlg ndn nzz tlw tkd tbt tph tcn tno tct tsc trn tlg tdn tzz x1) sz := by
  refine mc_I (cc := cX5_length) (own := RX5) [(0, .ref (a 0)), (1, .int x1)] rfl (by decide) rfl rfl (Nat.le_of_ble_eq_true rfl) (fun κ C hR => ?_)
  have hiX4 : ∀ w ∈ wsX40, w ∈ wsX5_length := fun w h => List.mem_cons_of_mem _ (List.mem_append_right _ h)
  have hiX5 : ∀ w ∈ wsX50, w ∈ wsX5_length := fun w h => List.mem_cons_of_mem _ (List.mem_append_left _ (List.mem_append_right _ h))
  unfold f_X5_length at hR
  refine j_iload_n C dX5_length_0 1 rfl rfl 1 rfl ?_
  refine j_iconst (v := 1) C dX5_length_1 2 rfl (by decide) ?_
  refine j_bipush (v := 60) C dX5_length_2 4 rfl (by decide) ?_
  refine j_cs0I (na := 3) C dX5_length_4 7 rfl (c_X5_isIn τ  x1 (1 : Int32) (60 : Int32) ) rfl ggX5_length_X5_isIn rfl rfl rfl kX5_length_iRX5 kX5_length_m79 kX5_length_sX5_isIn qd_X5_isIn rfl ⟨by decide, by decide⟩ ⟨by decide, by decide⟩ rfl (Nat.le_of_ble_eq_true rfl) (fun r1 u1 hX1 hn1 => ?_)
  obtain rfl := (Prod.mk.inj hX1).1
  refine j_if_ne C dX5_length_7 12 rfl 10 rfl (fun c2 => ?_) (fun c2 => ?_)
  · rw [if_neg c2] at hR
    refine j_aload_n C dX5_length_12 13 rfl rfl 0 rfl ?_
    refine j_get C dX5_length_13 16 rfl hiX5 0 rfl rfl 1 (by decide) rfl kX5_length_f16 rfl ?_
    refine j_aload_n C dX5_length_16 17 rfl rfl 0 rfl ?_
    refine j_get C dX5_length_17 20 rfl hiX5 0 rfl rfl 0 (by decide) rfl kX5_length_f10 rfl ?_
    refine j_cvV (na := 1) C dX5_length_20 23 rfl (c_X4_copyFrom τ (fun j => a (20 + j)) (fun j => a (10 + j)) tlw tkd tbt tph tcn tno tct tsc trn tlg tdn tzz nlw nkd nbt nph ncn nno nct nsc nrn nlg ndn nzz ) gX5_length_X4_copyFrom rfl rfl rfl qd_X4_copyFrom rfl ⟨by decide, by decide⟩ ⟨by decide, by decide⟩ rfl (Nat.le_of_ble_eq_true rfl) [11, 12, 13, 14, 15, 16, 17, 4, 5, 6, 7, 8, 9, 10] [0, 1, 2, 3] [0, 1, 2, 3, 11, 12, 13, 14, 15, 16, 17, 4, 5, 6, 7, 8, 9, 10] ((wX τ a rws isv rc)) rfl (by decide) rfl (by decide) (by decide) 4 0 rfl rfl (fun u => ((wX τ a rws isv rc) ++ (wT τ (fun j => a (10 + j)) nlw nkd nbt nph ncn nno nct nsc nrn nlg ndn nzz) ++ (wT τ (fun j => a (20 + j)) u.1 u.2.1 u.2.2.1 u.2.2.2.1 u.2.2.2.2.1 u.2.2.2.2.2.1 u.2.2.2.2.2.2.1 u.2.2.2.2.2.2.2.1 u.2.2.2.2.2.2.2.2.1 u.2.2.2.2.2.2.2.2.2.1 u.2.2.2.2.2.2.2.2.2.2.1 u.2.2.2.2.2.2.2.2.2.2.2))) (fun _ => rfl) (by decide) (fun u3 hX3 => ?_)
    obtain ⟨tlw_3, tkd_3, tbt_3, tph_3, tcn_3, tno_3, tct_3, tsc_3, trn_3, tlg_3, tdn_3, tzz_3⟩ := u3
    simp only [f_X4_copyFrom, Prod.mk.injEq] at hX3
    obtain ⟨rfl, rfl, rfl, rfl, rfl, rfl, rfl, rfl, rfl, rfl, rfl, rfl⟩ := hX3
    refine j_aload_n C dX5_length_23 24 rfl rfl 0 rfl ?_
    refine j_get C dX5_length_24 27 rfl hiX5 0 rfl rfl 1 (by decide) rfl kX5_length_f16 rfl ?_
    refine j_iload_n C dX5_length_27 28 rfl rfl 1 rfl ?_
    refine j_cvI (na := 1) C dX5_length_28 31 rfl (c_X4_longestWithin τ (fun j => a (20 + j)) (va_cpy nlw tlw 0 0 4) (va_cpy nkd tkd 0 0 8) (va_cpy nbt tbt 0 0 8) (va_cpy nph tph 0 0 8) (va_cpy ncn tcn 0 0 8) (va_cpy nno tno 0 0 8) nct nsc nrn nlg ndn nzz x1 (by first | assumption | decide | exact in_has (by assumption) hn0 hn | exact (in_trial (by assumption) hn0 hn).1 | exact (in_trial (by assumption) hn0 hn).2.2 | exact in_isIn4 (by assumption) | exact in_isIn60 (by assumption) | exact in_isIn30 (by assumption) | exact in_sheet (by assumption) | exact in_shelf (by assumption) | exact vp_in_iff.mpr ⟨by omega, by omega⟩ | exact nz_nle (by assumption) | exact nz_lt (by assumption) | omega) (by first | assumption | decide | exact in_has (by assumption) hn0 hn | exact (in_trial (by assumption) hn0 hn).1 | exact (in_trial (by assumption) hn0 hn).2.2 | exact in_isIn4 (by assumption) | exact in_isIn60 (by assumption) | exact in_isIn30 (by assumption) | exact in_sheet (by assumption) | exact in_shelf (by assumption) | exact vp_in_iff.mpr ⟨by omega, by omega⟩ | exact nz_nle (by assumption) | exact nz_lt (by assumption) | omega)) gX5_length_X4_longestWithin rfl rfl rfl qd_X4_longestWithin rfl ⟨by decide, by decide⟩ ⟨by decide, by decide⟩ rfl (Nat.le_of_ble_eq_true rfl) [11, 12, 13, 14, 15, 16, 17] [0, 1, 2, 3, 4, 5, 6, 7, 8, 9, 10] [0, 1, 2, 3, 4, 5, 6, 7, 8, 9, 10, 11, 12, 13, 14, 15, 16, 17] ((wX τ a rws isv rc) ++ (wT τ (fun j => a (10 + j)) nlw nkd nbt nph ncn nno nct nsc nrn nlg ndn nzz)) rfl (by decide) rfl (by decide) (by decide) 4 0 rfl rfl (fun u => ((wX τ a rws isv rc) ++ (wT τ (fun j => a (10 + j)) nlw nkd nbt nph ncn nno nct nsc nrn nlg ndn nzz) ++ (wT τ (fun j => a (20 + j)) (va_cpy nlw tlw 0 0 4) (va_cpy nkd tkd 0 0 8) (va_cpy nbt tbt 0 0 8) (va_cpy nph tph 0 0 8) (va_cpy ncn tcn 0 0 8) (va_cpy nno tno 0 0 8) nct u.1 u.2.1 u.2.2.1 u.2.2.2 nzz))) (fun _ => rfl) (by decide) (fun r4 u4 hX4 hn4 => ?_)
    obtain ⟨tsc_4, trn_4, tlg_4, tdn_4⟩ := u4
    rw [hX4] at hR; rw [pr5_mk r4 tsc_4 trn_4 tlg_4 tdn_4] at hR
    exact Rt.ret (hR) rfl dX5_length_31
  · rw [if_pos c2] at hR
    refine j_iconst (v := (-1)) C dX5_length_10 11 rfl (by decide) ?_
    exact Rt.ret (hR) rfl dX5_length_11

-- X5_kept main tried now
def l_X5_kept_13 (tlw : Nat → Int32) (tkd : Nat → Int32) (tbt : Nat → Int32) (tph : Nat → Int32) (tcn : Nat → Int32) (tct : Int32) (tzz : Int32) : Nat → Int32 → (Nat → Int32) → Int32 → Int32 → Int32 → Int32 → (Int32 × (Nat → Int32) × Int32 × Int32 × Int32 × Int32) ⊕ (Int32 × (Nat → Int32) × (Nat → Int32) × (Nat → Int32) × (Nat → Int32) × (Nat → Int32) × (Nat → Int32) × Int32 × Int32 × Int32 × Int32 × Int32 × Int32)
  | 0, x1, tno, tsc, trn, tlg, tdn => Sum.inl (x1, tno, tsc, trn, tlg, tdn)
  | N + 1, x1, tno, tsc, trn, tlg, tdn => if (60 ≤ x1) then (Sum.inl (x1, tno, tsc, trn, tlg, tdn)) else (if (tdn = 0) then (pr6 (f_X4_pass tlw tkd tbt tph tcn tno tct tsc trn tlg tdn) (fun r5 tno_5 tsc_5 trn_5 tlg_5 tdn_5 => if (tdn_5 = 1) then (Sum.inr ((x1 + 1), tlw, tkd, tbt, tph, tcn, tno_5, tct, tsc_5, trn_5, tlg_5, tdn_5, tzz)) else (l_X5_kept_13 tlw tkd tbt tph tcn tct tzz N (x1 + 1) tno_5 tsc_5 trn_5 tlg_5 tdn_5))) else (Sum.inl (x1, tno, tsc, trn, tlg, tdn)))
def f_X5_kept (nlw : Nat → Int32) (nkd : Nat → Int32) (nbt : Nat → Int32) (nph : Nat → Int32) (ncn : Nat → Int32) (nno : Nat → Int32) (nct : Int32) (nsc : Int32) (nrn : Int32) (nlg : Int32) (ndn : Int32) (nzz : Int32) (tlw : Nat → Int32) (tkd : Nat → Int32) (tbt : Nat → Int32) (tph : Nat → Int32) (tcn : Nat → Int32) (tno : Nat → Int32) : Int32 × (Nat → Int32) × (Nat → Int32) × (Nat → Int32) × (Nat → Int32) × (Nat → Int32) × (Nat → Int32) × Int32 × Int32 × Int32 × Int32 × Int32 × Int32 := sm (l_X5_kept_13 (va_cpy nlw tlw 0 0 4) (va_cpy nkd tkd 0 0 8) (va_cpy nbt tbt 0 0 8) (va_cpy nph tph 0 0 8) (va_cpy ncn tcn 0 0 8) nct nzz 300 (0 : Int32) (va_cpy nno tno 0 0 8) nsc nrn nlg ndn) (fun (z2 : Int32 × (Nat → Int32) × Int32 × Int32 × Int32 × Int32) => pr6 z2 (fun x1_2 tno_2 tsc_2 trn_2 tlg_2 tdn_2 => if (tdn_2 = 1) then ((0 : Int32), (va_cpy nlw tlw 0 0 4), (va_cpy nkd tkd 0 0 8), (va_cpy nbt tbt 0 0 8), (va_cpy nph tph 0 0 8), (va_cpy ncn tcn 0 0 8), tno_2, nct, tsc_2, trn_2, tlg_2, tdn_2, nzz) else (((-3) : Int32), (va_cpy nlw tlw 0 0 4), (va_cpy nkd tkd 0 0 8), (va_cpy nbt tbt 0 0 8), (va_cpy nph tph 0 0 8), (va_cpy ncn tcn 0 0 8), tno_2, nct, tsc_2, trn_2, tlg_2, tdn_2, nzz))) (fun X => X)
theorem kX5_kept_f16 : Cond.fieldLink RX5 16 "TwoMinutes" "tried" "LTwoMinutes$Town;" ∈ wsX5_kept := by decide +kernel
theorem kX5_kept_f10 : Cond.fieldLink RX5 10 "TwoMinutes" "now" "LTwoMinutes$Town;" ∈ wsX5_kept := by decide +kernel
theorem kX5_kept_f160 : Cond.fieldLink RX5 160 "TwoMinutes$Town" "done" "I" ∈ wsX5_kept := by decide +kernel
theorem qd_X5_kept : yX5_kept.cls = RX5 ∧ yX5_kept.cls ≠ "java/lang/invoke/MethodHandle" ∧ yX5_kept.cls ≠ "java/lang/invoke/VarHandle" ∧ (parseMethodDescriptor yX5_kept.desc).map (fun d => d.parameters.length) = some 0 := by decide +kernel
abbrev rmX5_kept : Room := { frames := 5, cells := 0, slots := 0, locals := 107 }
set_option maxHeartbeats 4000000 in
set_option maxRecDepth 100000 in
theorem L_X5_kept_13 {τ : SX} {κ : KX} (C : Cx τ κ cX5_kept RX5 wsX5_kept rmX5_kept 2) (a : Nat → Nat) (rws : Nat → Int32) (isv : Int32) (rc : Int32) (nlw : Nat → Int32) (nkd : Nat → Int32) (nbt : Nat → Int32) (nph : Nat → Int32) (ncn : Nat → Int32) (nno : Nat → Int32) (nct : Int32) (nsc : Int32) (nrn : Int32) (nlg : Int32) (ndn : Int32) (nzz : Int32) (tlw : Nat → Int32) (tkd : Nat → Int32) (tbt : Nat → Int32) (tph : Nat → Int32) (tcn : Nat → Int32) (tct : Int32) (tzz : Int32) (hrc0 : 0 ≤ rc.toInt) (hrc : rc.toInt ≤ 10) (hn0 : 0 ≤ nct.toInt) (hn : nct.toInt ≤ 8) (htc : tct.toInt ≤ 8) (Φ : (Int32 × (Nat → Int32) × Int32 × Int32 × Int32 × Int32) ⊕ (Int32 × (Nat → Int32) × (Nat → Int32) × (Nat → Int32) × (Nat → Int32) × (Nat → Int32) × (Nat → Int32) × Int32 × Int32 × Int32 × Int32 × Int32 × Int32) → Prop) (hE : ∀ (x1 : Int32) (tno : Nat → Int32) (tsc : Int32) (trn : Int32) (tlg : Int32) (tdn : Int32), Φ (Sum.inl (x1, tno, tsc, trn, tlg, tdn)) → J τ κ 0 0 ((wX τ a rws isv rc) ++ (wT τ (fun j => a (10 + j)) nlw nkd nbt nph ncn nno nct nsc nrn nlg ndn nzz) ++ (wT τ (fun j => a (20 + j)) tlw tkd tbt tph tcn tno tct tsc trn tlg tdn tzz)) [(0, .ref (a 0)), (1, .int x1)] 58 []) (hRet : ∀ X, Φ (Sum.inr X) → Rt τ κ cX5_kept .int (fun u : (Nat → Int32) × (Nat → Int32) × (Nat → Int32) × (Nat → Int32) × (Nat → Int32) × (Nat → Int32) × Int32 × Int32 × Int32 × Int32 × Int32 × Int32 => ((wX τ a rws isv rc) ++ (wT τ (fun j => a (10 + j)) nlw nkd nbt nph ncn nno nct nsc nrn nlg ndn nzz) ++ (wT τ (fun j => a (20 + j)) u.1 u.2.1 u.2.2.1 u.2.2.2.1 u.2.2.2.2.1 u.2.2.2.2.2.1 u.2.2.2.2.2.2.1 u.2.2.2.2.2.2.2.1 u.2.2.2.2.2.2.2.2.1 u.2.2.2.2.2.2.2.2.2.1 u.2.2.2.2.2.2.2.2.2.2.1 u.2.2.2.2.2.2.2.2.2.2.2))) (X)) : ∀ (N : Nat) (x1 : Int32) (tno : Nat → Int32) (tsc : Int32) (trn : Int32) (tlg : Int32) (tdn : Int32), ((60 : Int) - x1.toInt).toNat < N → (0 ≤ x1.toInt) → (x1.toInt ≤ 60) → Φ (l_X5_kept_13 tlw tkd tbt tph tcn tct tzz N x1 tno tsc trn tlg tdn) → J τ κ 0 0 ((wX τ a rws isv rc) ++ (wT τ (fun j => a (10 + j)) nlw nkd nbt nph ncn nno nct nsc nrn nlg ndn nzz) ++ (wT τ (fun j => a (20 + j)) tlw tkd tbt tph tcn tno tct tsc trn tlg tdn tzz)) [(0, .ref (a 0)), (1, .int x1)] 13 [] := by
  have hiX4 : ∀ w ∈ wsX40, w ∈ wsX5_kept := fun w h => List.mem_cons_of_mem _ (List.mem_append_right _ h)
  have hiX5 : ∀ w ∈ wsX50, w ∈ wsX5_kept := fun w h => List.mem_cons_of_mem _ (List.mem_append_left _ (List.mem_append_right _ h))
  intro N
  induction N with
  | zero => intro x1 tno tsc trn tlg tdn hm; exact absurd hm (Nat.not_lt_zero _)
  | succ N ih =>
    intro x1 tno tsc trn tlg tdn hm h0 h1 hR
    rw [l_X5_kept_13] at hR
    refine j_iload_n C dX5_kept_13 14 rfl rfl 1 rfl ?_
    refine j_bipush (v := 60) C dX5_kept_14 16 rfl (by decide) ?_
    refine j_icmp_ge C dX5_kept_16 58 rfl 19 rfl (fun c3 => ?_) (fun c3 => ?_)
    · rw [if_pos c3] at hR
      exact j_lv [0, 1] [(0, .ref (a 0)), (1, .int x1)] rfl (hE _ _ _ _ _ _  hR)
    · rw [if_neg c3] at hR
      have hs := cnt_step (B := 60) h0 (by decide) (by decide) c3
      refine j_aload_n C dX5_kept_19 20 rfl rfl 0 rfl ?_
      refine j_get C dX5_kept_20 23 rfl hiX5 0 rfl rfl 1 (by decide) rfl kX5_kept_f16 rfl ?_
      refine j_get C dX5_kept_23 26 rfl hiX4 11 rfl rfl 10 (by decide) rfl kX5_kept_f160 rfl ?_
      refine j_if_ne C dX5_kept_26 58 rfl 29 rfl (fun c4 => ?_) (fun c4 => ?_)
      · rw [if_neg c4] at hR
        exact j_lv [0, 1] [(0, .ref (a 0)), (1, .int x1)] rfl (hE _ _ _ _ _ _  hR)
      · rw [if_pos c4] at hR
        refine j_aload_n C dX5_kept_29 30 rfl rfl 0 rfl ?_
        refine j_get C dX5_kept_30 33 rfl hiX5 0 rfl rfl 1 (by decide) rfl kX5_kept_f16 rfl ?_
        refine j_cvI (na := 0) C dX5_kept_33 36 rfl (c_X4_pass τ (fun j => a (20 + j)) tlw tkd tbt tph tcn tno tct tsc trn tlg tdn tzz (by first | assumption | decide | exact in_has (by assumption) hn0 hn | exact (in_trial (by assumption) hn0 hn).1 | exact (in_trial (by assumption) hn0 hn).2.2 | exact in_isIn4 (by assumption) | exact in_isIn60 (by assumption) | exact in_isIn30 (by assumption) | exact in_sheet (by assumption) | exact in_shelf (by assumption) | exact vp_in_iff.mpr ⟨by omega, by omega⟩ | exact nz_nle (by assumption) | exact nz_lt (by assumption) | omega)) gX5_kept_X4_pass rfl rfl rfl qd_X4_pass rfl ⟨by decide, by decide⟩ ⟨by decide, by decide⟩ rfl (Nat.le_of_ble_eq_true rfl) [11, 12, 13, 14, 15, 16, 17] [0, 1, 2, 3, 4, 5, 6, 7, 8, 9, 10] [0, 1, 2, 3, 4, 5, 6, 7, 8, 9, 10, 11, 12, 13, 14, 15, 16, 17] ((wX τ a rws isv rc) ++ (wT τ (fun j => a (10 + j)) nlw nkd nbt nph ncn nno nct nsc nrn nlg ndn nzz)) rfl (by decide) rfl (by decide) (by decide) 4 0 rfl rfl (fun u => ((wX τ a rws isv rc) ++ (wT τ (fun j => a (10 + j)) nlw nkd nbt nph ncn nno nct nsc nrn nlg ndn nzz) ++ (wT τ (fun j => a (20 + j)) tlw tkd tbt tph tcn u.1 tct u.2.1 u.2.2.1 u.2.2.2.1 u.2.2.2.2 tzz))) (fun _ => rfl) (by decide) (fun r5 u5 hX5 hn5 => ?_)
        obtain ⟨tno_5, tsc_5, trn_5, tlg_5, tdn_5⟩ := u5
        rw [hX5] at hR; rw [pr6_mk r5 tno_5 tsc_5 trn_5 tlg_5 tdn_5] at hR
        refine j_pop C dX5_kept_36 37 rfl rfl ?_
        refine j_aload_n C dX5_kept_37 38 rfl rfl 0 rfl ?_
        refine j_get C dX5_kept_38 41 rfl hiX5 0 rfl rfl 1 (by decide) rfl kX5_kept_f16 rfl ?_
        refine j_get C dX5_kept_41 44 rfl hiX4 11 rfl rfl 10 (by decide) rfl kX5_kept_f160 rfl ?_
        refine j_iconst (v := 1) C dX5_kept_44 45 rfl (by decide) ?_
        refine j_icmp_ne C dX5_kept_45 52 rfl 48 rfl (fun c6 => ?_) (fun c6 => ?_)
        · rw [if_neg c6] at hR
          refine j_iinc (v := (x1 + 1)) C dX5_kept_52 55 rfl 1 rfl rfl (by decide) [(1, .int (x1 + 1)), (0, .ref (a 0))] rfl ?_
          refine j_goto C dX5_kept_55 13 rfl ?_
          exact j_lv [1, 0] [(0, .ref (a 0)), (1, .int (x1 + 1))] rfl (ih _ _ _ _ _ _ (by have := hs.2.2.1; omega) hs.1 hs.2.1 hR)
        · rw [if_pos c6] at hR
          refine j_iload_n C dX5_kept_48 49 rfl rfl 1 rfl ?_
          refine j_iconst (v := 1) C dX5_kept_49 50 rfl (by decide) ?_
          refine j_iadd C dX5_kept_50 51 rfl ?_
          exact Rt.ret (hRet _ hR) rfl dX5_kept_51
set_option maxHeartbeats 4000000 in
set_option maxRecDepth 100000 in
theorem c_X5_kept (τ : SX) (a : Nat → Nat) (rws : Nat → Int32) (isv : Int32) (rc : Int32) (nlw : Nat → Int32) (nkd : Nat → Int32) (nbt : Nat → Int32) (nph : Nat → Int32) (ncn : Nat → Int32) (nno : Nat → Int32) (nct : Int32) (nsc : Int32) (nrn : Int32) (nlg : Int32) (ndn : Int32) (nzz : Int32) (tlw : Nat → Int32) (tkd : Nat → Int32) (tbt : Nat → Int32) (tph : Nat → Int32) (tcn : Nat → Int32) (tno : Nat → Int32) (tct : Int32) (tsc : Int32) (trn : Int32) (tlg : Int32) (tdn : Int32) (tzz : Int32) (hrc0 : 0 ≤ rc.toInt) (hrc : rc.toInt ≤ 10) (hn0 : 0 ≤ nct.toInt) (hn : nct.toInt ≤ 8) (sz : Nat) : McI τ yX5_kept wsX5_kept rmX5_kept .int [.ref (a 0)] ((wX τ a rws isv rc) ++ (wT τ (fun j => a (10 + j)) nlw nkd nbt nph ncn nno nct nsc nrn nlg ndn nzz) ++ (wT τ (fun j => a (20 + j)) tlw tkd tbt tph tcn tno tct tsc trn tlg tdn tzz)) (fun u : (Nat → Int32) × (Nat → Int32) × (Nat → Int32) × (Nat → Int32) × (Nat → Int32) × (Nat → Int32) × Int32 × Int32 × Int32 × Int32 × Int32 × Int32 => ((wX τ a rws isv rc) ++ (wT τ (fun j => a (10 + j)) nlw nkd nbt nph ncn nno nct nsc nrn nlg ndn nzz) ++ (wT τ (fun j => a (20 + j)) u.1 u.2.1 u.2.2.1 u.2.2.2.1 u.2.2.2.2.1 u.2.2.2.2.2.1 u.2.2.2.2.2.2.1 u.2.2.2.2.2.2.2.1 u.2.2.2.2.2.2.2.2.1 u.2.2.2.2.2.2.2.2.2.1 u.2.2.2.2.2.2.2.2.2.2.1 u.2.2.2.2.2.2.2.2.2.2.2))) (f_X5_kept nlw nkd nbt nph ncn nno nct nsc nrn nlg ndn nzz tlw tkd tbt tph tcn tno) sz := by
  refine mc_I (cc := cX5_kept) (own := RX5) [(0, .ref (a 0))] rfl (by decide) rfl rfl (Nat.le_of_ble_eq_true rfl) (fun κ C hR => ?_)
  have hiX4 : ∀ w ∈ wsX40, w ∈ wsX5_kept := fun w h => List.mem_cons_of_mem _ (List.mem_append_right _ h)
  have hiX5 : ∀ w ∈ wsX50, w ∈ wsX5_kept := fun w h => List.mem_cons_of_mem _ (List.mem_append_left _ (List.mem_append_right _ h))
  unfold f_X5_kept at hR
  refine j_aload_n C dX5_kept_0 1 rfl rfl 0 rfl ?_
  refine j_get C dX5_kept_1 4 rfl hiX5 0 rfl rfl 1 (by decide) rfl kX5_kept_f16 rfl ?_
  refine j_aload_n C dX5_kept_4 5 rfl rfl 0 rfl ?_
  refine j_get C dX5_kept_5 8 rfl hiX5 0 rfl rfl 0 (by decide) rfl kX5_kept_f10 rfl ?_
  refine j_cvV (na := 1) C dX5_kept_8 11 rfl (c_X4_copyFrom τ (fun j => a (20 + j)) (fun j => a (10 + j)) tlw tkd tbt tph tcn tno tct tsc trn tlg tdn tzz nlw nkd nbt nph ncn nno nct nsc nrn nlg ndn nzz ) gX5_kept_X4_copyFrom rfl rfl rfl qd_X4_copyFrom rfl ⟨by decide, by decide⟩ ⟨by decide, by decide⟩ rfl (Nat.le_of_ble_eq_true rfl) [11, 12, 13, 14, 15, 16, 17, 4, 5, 6, 7, 8, 9, 10] [0, 1, 2, 3] [0, 1, 2, 3, 11, 12, 13, 14, 15, 16, 17, 4, 5, 6, 7, 8, 9, 10] ((wX τ a rws isv rc)) rfl (by decide) rfl (by decide) (by decide) 4 0 rfl rfl (fun u => ((wX τ a rws isv rc) ++ (wT τ (fun j => a (10 + j)) nlw nkd nbt nph ncn nno nct nsc nrn nlg ndn nzz) ++ (wT τ (fun j => a (20 + j)) u.1 u.2.1 u.2.2.1 u.2.2.2.1 u.2.2.2.2.1 u.2.2.2.2.2.1 u.2.2.2.2.2.2.1 u.2.2.2.2.2.2.2.1 u.2.2.2.2.2.2.2.2.1 u.2.2.2.2.2.2.2.2.2.1 u.2.2.2.2.2.2.2.2.2.2.1 u.2.2.2.2.2.2.2.2.2.2.2))) (fun _ => rfl) (by decide) (fun u1 hX1 => ?_)
  obtain ⟨tlw_1, tkd_1, tbt_1, tph_1, tcn_1, tno_1, tct_1, tsc_1, trn_1, tlg_1, tdn_1, tzz_1⟩ := u1
  simp only [f_X4_copyFrom, Prod.mk.injEq] at hX1
  obtain ⟨rfl, rfl, rfl, rfl, rfl, rfl, rfl, rfl, rfl, rfl, rfl, rfl⟩ := hX1
  refine j_iconst (v := 0) C dX5_kept_11 12 rfl (by decide) ?_
  refine j_istore_n C dX5_kept_12 13 rfl rfl (by decide) [(1, .int 0), (0, .ref (a 0))] rfl ?_
  refine j_lv [1, 0] [(0, .ref (a 0)), (1, .int 0)] rfl (L_X5_kept_13 C a rws isv rc nlw nkd nbt nph ncn nno nct nsc nrn nlg ndn nzz (va_cpy nlw tlw 0 0 4) (va_cpy nkd tkd 0 0 8) (va_cpy nbt tbt 0 0 8) (va_cpy nph tph 0 0 8) (va_cpy ncn tcn 0 0 8) nct nzz  hrc0 hrc hn0 hn (hn) (fun (o : (Int32 × (Nat → Int32) × Int32 × Int32 × Int32 × Int32) ⊕ (Int32 × (Nat → Int32) × (Nat → Int32) × (Nat → Int32) × (Nat → Int32) × (Nat → Int32) × (Nat → Int32) × Int32 × Int32 × Int32 × Int32 × Int32 × Int32)) => Rt τ κ cX5_kept .int (fun u : (Nat → Int32) × (Nat → Int32) × (Nat → Int32) × (Nat → Int32) × (Nat → Int32) × (Nat → Int32) × Int32 × Int32 × Int32 × Int32 × Int32 × Int32 => ((wX τ a rws isv rc) ++ (wT τ (fun j => a (10 + j)) nlw nkd nbt nph ncn nno nct nsc nrn nlg ndn nzz) ++ (wT τ (fun j => a (20 + j)) u.1 u.2.1 u.2.2.1 u.2.2.2.1 u.2.2.2.2.1 u.2.2.2.2.2.1 u.2.2.2.2.2.2.1 u.2.2.2.2.2.2.2.1 u.2.2.2.2.2.2.2.2.1 u.2.2.2.2.2.2.2.2.2.1 u.2.2.2.2.2.2.2.2.2.2.1 u.2.2.2.2.2.2.2.2.2.2.2))) (sm o (fun (z : Int32 × (Nat → Int32) × Int32 × Int32 × Int32 × Int32) => pr6 z (fun x1_2 tno_2 tsc_2 trn_2 tlg_2 tdn_2 => if (tdn_2 = 1) then ((0 : Int32), (va_cpy nlw tlw 0 0 4), (va_cpy nkd tkd 0 0 8), (va_cpy nbt tbt 0 0 8), (va_cpy nph tph 0 0 8), (va_cpy ncn tcn 0 0 8), tno_2, nct, tsc_2, trn_2, tlg_2, tdn_2, nzz) else (((-3) : Int32), (va_cpy nlw tlw 0 0 4), (va_cpy nkd tkd 0 0 8), (va_cpy nbt tbt 0 0 8), (va_cpy nph tph 0 0 8), (va_cpy ncn tcn 0 0 8), tno_2, nct, tsc_2, trn_2, tlg_2, tdn_2, nzz))) (fun X => X))) (fun x1_2 tno_2 tsc_2 trn_2 tlg_2 tdn_2  hR => ?_) (fun X hR => by rw [sm_inr] at hR; exact hR) 300 (0 : Int32) (va_cpy nno tno 0 0 8) nsc nrn nlg ndn (by decide) (by decide) (by decide) hR)
  rw [sm_inl, pr6_mk x1_2 tno_2 tsc_2 trn_2 tlg_2 tdn_2] at hR
  refine j_aload_n C dX5_kept_58 59 rfl rfl 0 rfl ?_
  refine j_get C dX5_kept_59 62 rfl hiX5 0 rfl rfl 1 (by decide) rfl kX5_kept_f16 rfl ?_
  refine j_get C dX5_kept_62 65 rfl hiX4 11 rfl rfl 10 (by decide) rfl kX5_kept_f160 rfl ?_
  refine j_iconst (v := 1) C dX5_kept_65 66 rfl (by decide) ?_
  refine j_icmp_ne C dX5_kept_66 73 rfl 69 rfl (fun c7 => ?_) (fun c7 => ?_)
  · rw [if_neg c7] at hR
    refine j_bipush (v := (-3)) C dX5_kept_73 75 rfl (by decide) ?_
    exact Rt.ret (hR) rfl dX5_kept_75
  · rw [if_pos c7] at hR
    refine j_iconst (v := 0) C dX5_kept_69 70 rfl (by decide) ?_
    refine j_goto C dX5_kept_70 75 rfl ?_
    exact Rt.ret (hR) rfl dX5_kept_75

-- X5_broken main tried now
def l_X5_broken_24 (tlw : Nat → Int32) (tkd : Nat → Int32) (tbt : Nat → Int32) (tph : Nat → Int32) (tcn : Nat → Int32) (tct : Int32) (tzz : Int32) (x1 : Int32) : Nat → Int32 → (Nat → Int32) → Int32 → Int32 → Int32 → Int32 → (Int32 × (Nat → Int32) × Int32 × Int32 × Int32 × Int32) ⊕ (Int32 × (Nat → Int32) × (Nat → Int32) × (Nat → Int32) × (Nat → Int32) × (Nat → Int32) × (Nat → Int32) × Int32 × Int32 × Int32 × Int32 × Int32 × Int32)
  | 0, x2, tno, tsc, trn, tlg, tdn => Sum.inl (x2, tno, tsc, trn, tlg, tdn)
  | N + 1, x2, tno, tsc, trn, tlg, tdn => if (60 < x2) then (Sum.inl (x2, tno, tsc, trn, tlg, tdn)) else (pr6 (f_X4_pass tlw tkd tbt tph tcn tno tct tsc trn tlg tdn) (fun r6 tno_6 tsc_6 trn_6 tlg_6 tdn_6 => if (r6 = 0) then (l_X5_broken_24 tlw tkd tbt tph tcn tct tzz x1 N (x2 + 1) tno_6 tsc_6 trn_6 tlg_6 tdn_6) else (if (x1 = 0) then (Sum.inr (x2, tlw, tkd, tbt, tph, tcn, tno_6, tct, tsc_6, trn_6, tlg_6, tdn_6, tzz)) else (Sum.inr ((f_J6_numberOfTrailingZeros_0f7a4 r6), tlw, tkd, tbt, tph, tcn, tno_6, tct, tsc_6, trn_6, tlg_6, tdn_6, tzz)))))
def f_X5_broken (nlw : Nat → Int32) (nkd : Nat → Int32) (nbt : Nat → Int32) (nph : Nat → Int32) (ncn : Nat → Int32) (nno : Nat → Int32) (nct : Int32) (nsc : Int32) (nrn : Int32) (nlg : Int32) (ndn : Int32) (nzz : Int32) (tlw : Nat → Int32) (tkd : Nat → Int32) (tbt : Nat → Int32) (tph : Nat → Int32) (tcn : Nat → Int32) (tno : Nat → Int32) (tct : Int32) (tsc : Int32) (trn : Int32) (tlg : Int32) (tdn : Int32) (tzz : Int32) (x1 : Int32) : Int32 × (Nat → Int32) × (Nat → Int32) × (Nat → Int32) × (Nat → Int32) × (Nat → Int32) × (Nat → Int32) × Int32 × Int32 × Int32 × Int32 × Int32 × Int32 := if ((f_X5_isIn x1 (0 : Int32) (1 : Int32)) = 0) then (((-1) : Int32), tlw, tkd, tbt, tph, tcn, tno, tct, tsc, trn, tlg, tdn, tzz) else (sm (l_X5_broken_24 (va_cpy nlw tlw 0 0 4) (va_cpy nkd tkd 0 0 8) (va_cpy nbt tbt 0 0 8) (va_cpy nph tph 0 0 8) (va_cpy ncn tcn 0 0 8) nct nzz x1 300 (1 : Int32) (va_cpy nno tno 0 0 8) nsc nrn nlg ndn) (fun (z4 : Int32 × (Nat → Int32) × Int32 × Int32 × Int32 × Int32) => pr6 z4 (fun x2_4 tno_4 tsc_4 trn_4 tlg_4 tdn_4 => (((-3) : Int32), (va_cpy nlw tlw 0 0 4), (va_cpy nkd tkd 0 0 8), (va_cpy nbt tbt 0 0 8), (va_cpy nph tph 0 0 8), (va_cpy ncn tcn 0 0 8), tno_4, nct, tsc_4, trn_4, tlg_4, tdn_4, nzz))) (fun X => X))
theorem kX5_broken_iRX5 : Cond.initialized yX5_isIn.cls ∈ wsX5_broken := by decide +kernel
theorem kX5_broken_sX5_isIn : Cond.static yX5_isIn ∈ wsX5_broken := by decide +kernel
theorem kX5_broken_m79 : Cond.methodLink RX5 79 yX5_isIn ∈ wsX5_broken := by decide +kernel
theorem kX5_broken_f16 : Cond.fieldLink RX5 16 "TwoMinutes" "tried" "LTwoMinutes$Town;" ∈ wsX5_broken := by decide +kernel
theorem kX5_broken_f10 : Cond.fieldLink RX5 10 "TwoMinutes" "now" "LTwoMinutes$Town;" ∈ wsX5_broken := by decide +kernel
theorem kX5_broken_iRJ6 : Cond.initialized yJ6_numberOfTrailingZeros_0f7a4.cls ∈ wsX5_broken := by decide +kernel
theorem kX5_broken_sJ6_numberOfTrailingZeros_0f7a4 : Cond.static yJ6_numberOfTrailingZeros_0f7a4 ∈ wsX5_broken := by decide +kernel
theorem kX5_broken_m172 : Cond.methodLink RX5 172 yJ6_numberOfTrailingZeros_0f7a4 ∈ wsX5_broken := by decide +kernel
theorem qd_X5_broken : yX5_broken.cls = RX5 ∧ yX5_broken.cls ≠ "java/lang/invoke/MethodHandle" ∧ yX5_broken.cls ≠ "java/lang/invoke/VarHandle" ∧ (parseMethodDescriptor yX5_broken.desc).map (fun d => d.parameters.length) = some 1 := by decide +kernel
abbrev rmX5_broken : Room := { frames := 5, cells := 0, slots := 0, locals := 107 }
set_option maxHeartbeats 4000000 in
set_option maxRecDepth 100000 in
theorem L_X5_broken_24 {τ : SX} {κ : KX} (C : Cx τ κ cX5_broken RX5 wsX5_broken rmX5_broken 4) (a : Nat → Nat) (rws : Nat → Int32) (isv : Int32) (rc : Int32) (nlw : Nat → Int32) (nkd : Nat → Int32) (nbt : Nat → Int32) (nph : Nat → Int32) (ncn : Nat → Int32) (nno : Nat → Int32) (nct : Int32) (nsc : Int32) (nrn : Int32) (nlg : Int32) (ndn : Int32) (nzz : Int32) (tlw : Nat → Int32) (tkd : Nat → Int32) (tbt : Nat → Int32) (tph : Nat → Int32) (tcn : Nat → Int32) (tct : Int32) (tzz : Int32) (x1 : Int32) (hrc0 : 0 ≤ rc.toInt) (hrc : rc.toInt ≤ 10) (hn0 : 0 ≤ nct.toInt) (hn : nct.toInt ≤ 8) (htc : tct.toInt ≤ 8) (Φ : (Int32 × (Nat → Int32) × Int32 × Int32 × Int32 × Int32) ⊕ (Int32 × (Nat → Int32) × (Nat → Int32) × (Nat → Int32) × (Nat → Int32) × (Nat → Int32) × (Nat → Int32) × Int32 × Int32 × Int32 × Int32 × Int32 × Int32) → Prop) (hE : ∀ (x2 : Int32) (tno : Nat → Int32) (tsc : Int32) (trn : Int32) (tlg : Int32) (tdn : Int32), Φ (Sum.inl (x2, tno, tsc, trn, tlg, tdn)) → J τ κ 0 0 ((wX τ a rws isv rc) ++ (wT τ (fun j => a (10 + j)) nlw nkd nbt nph ncn nno nct nsc nrn nlg ndn nzz) ++ (wT τ (fun j => a (20 + j)) tlw tkd tbt tph tcn tno tct tsc trn tlg tdn tzz)) [(0, .ref (a 0)), (1, .int x1), (2, .int x2)] 61 []) (hRet : ∀ X, Φ (Sum.inr X) → Rt τ κ cX5_broken .int (fun u : (Nat → Int32) × (Nat → Int32) × (Nat → Int32) × (Nat → Int32) × (Nat → Int32) × (Nat → Int32) × Int32 × Int32 × Int32 × Int32 × Int32 × Int32 => ((wX τ a rws isv rc) ++ (wT τ (fun j => a (10 + j)) nlw nkd nbt nph ncn nno nct nsc nrn nlg ndn nzz) ++ (wT τ (fun j => a (20 + j)) u.1 u.2.1 u.2.2.1 u.2.2.2.1 u.2.2.2.2.1 u.2.2.2.2.2.1 u.2.2.2.2.2.2.1 u.2.2.2.2.2.2.2.1 u.2.2.2.2.2.2.2.2.1 u.2.2.2.2.2.2.2.2.2.1 u.2.2.2.2.2.2.2.2.2.2.1 u.2.2.2.2.2.2.2.2.2.2.2))) (X)) : ∀ (N : Nat) (x2 : Int32) (tno : Nat → Int32) (tsc : Int32) (trn : Int32) (tlg : Int32) (tdn : Int32), ((61 : Int) - x2.toInt).toNat < N → (0 ≤ x2.toInt) → (x2.toInt ≤ 61) → Φ (l_X5_broken_24 tlw tkd tbt tph tcn tct tzz x1 N x2 tno tsc trn tlg tdn) → J τ κ 0 0 ((wX τ a rws isv rc) ++ (wT τ (fun j => a (10 + j)) nlw nkd nbt nph ncn nno nct nsc nrn nlg ndn nzz) ++ (wT τ (fun j => a (20 + j)) tlw tkd tbt tph tcn tno tct tsc trn tlg tdn tzz)) [(0, .ref (a 0)), (1, .int x1), (2, .int x2)] 24 [] := by
  have hiX4 : ∀ w ∈ wsX40, w ∈ wsX5_broken := fun w h => List.mem_cons_of_mem _ (List.mem_append_right _ h)
  have hiX5 : ∀ w ∈ wsX50, w ∈ wsX5_broken := fun w h => List.mem_cons_of_mem _ (List.mem_append_left _ (List.mem_append_right _ h))
  intro N
  induction N with
  | zero => intro x2 tno tsc trn tlg tdn hm; exact absurd hm (Nat.not_lt_zero _)
  | succ N ih =>
    intro x2 tno tsc trn tlg tdn hm h0 h1 hR
    rw [l_X5_broken_24] at hR
    refine j_iload_n C dX5_broken_24 25 rfl rfl 2 rfl ?_
    refine j_bipush (v := 60) C dX5_broken_25 27 rfl (by decide) ?_
    refine j_icmp_gt C dX5_broken_27 61 rfl 30 rfl (fun c5 => ?_) (fun c5 => ?_)
    · rw [if_pos c5] at hR
      exact j_lv [0, 1, 2] [(0, .ref (a 0)), (1, .int x1), (2, .int x2)] rfl (hE _ _ _ _ _ _  hR)
    · rw [if_neg c5] at hR
      have hs := cnt_stepL (B := 61) h0 (by decide) (by decide) c5
      refine j_aload_n C dX5_broken_30 31 rfl rfl 0 rfl ?_
      refine j_get C dX5_broken_31 34 rfl hiX5 0 rfl rfl 1 (by decide) rfl kX5_broken_f16 rfl ?_
      refine j_cvI (na := 0) C dX5_broken_34 37 rfl (c_X4_pass τ (fun j => a (20 + j)) tlw tkd tbt tph tcn tno tct tsc trn tlg tdn tzz (by first | assumption | decide | exact in_has (by assumption) hn0 hn | exact (in_trial (by assumption) hn0 hn).1 | exact (in_trial (by assumption) hn0 hn).2.2 | exact in_isIn4 (by assumption) | exact in_isIn60 (by assumption) | exact in_isIn30 (by assumption) | exact in_sheet (by assumption) | exact in_shelf (by assumption) | exact vp_in_iff.mpr ⟨by omega, by omega⟩ | exact nz_nle (by assumption) | exact nz_lt (by assumption) | omega)) gX5_broken_X4_pass rfl rfl rfl qd_X4_pass rfl ⟨by decide, by decide⟩ ⟨by decide, by decide⟩ rfl (Nat.le_of_ble_eq_true rfl) [11, 12, 13, 14, 15, 16, 17] [0, 1, 2, 3, 4, 5, 6, 7, 8, 9, 10] [0, 1, 2, 3, 4, 5, 6, 7, 8, 9, 10, 11, 12, 13, 14, 15, 16, 17] ((wX τ a rws isv rc) ++ (wT τ (fun j => a (10 + j)) nlw nkd nbt nph ncn nno nct nsc nrn nlg ndn nzz)) rfl (by decide) rfl (by decide) (by decide) 4 0 rfl rfl (fun u => ((wX τ a rws isv rc) ++ (wT τ (fun j => a (10 + j)) nlw nkd nbt nph ncn nno nct nsc nrn nlg ndn nzz) ++ (wT τ (fun j => a (20 + j)) tlw tkd tbt tph tcn u.1 tct u.2.1 u.2.2.1 u.2.2.2.1 u.2.2.2.2 tzz))) (fun _ => rfl) (by decide) (fun r6 u6 hX6 hn6 => ?_)
      obtain ⟨tno_6, tsc_6, trn_6, tlg_6, tdn_6⟩ := u6
      rw [hX6] at hR; rw [pr6_mk r6 tno_6 tsc_6 trn_6 tlg_6 tdn_6] at hR
      refine j_istore_n C dX5_broken_37 38 rfl rfl (by decide) [(3, .int r6), (0, .ref (a 0)), (1, .int x1), (2, .int x2)] rfl ?_
      refine j_iload_n C dX5_broken_38 39 rfl rfl 0 rfl ?_
      refine j_if_eq C dX5_broken_39 55 rfl 42 rfl (fun c7 => ?_) (fun c7 => ?_)
      · rw [if_pos c7] at hR
        refine j_iinc (v := (x2 + 1)) C dX5_broken_55 58 rfl 3 rfl rfl (by decide) [(2, .int (x2 + 1)), (3, .int r6), (0, .ref (a 0)), (1, .int x1)] rfl ?_
        refine j_goto C dX5_broken_58 24 rfl ?_
        exact j_lv [2, 3, 0] [(0, .ref (a 0)), (1, .int x1), (2, .int (x2 + 1))] rfl (ih _ _ _ _ _ _ (by have := hs.2.2.1; omega) hs.1 hs.2.1 hR)
      · rw [if_neg c7] at hR
        refine j_iload_n C dX5_broken_42 43 rfl rfl 2 rfl ?_
        refine j_if_ne C dX5_broken_43 50 rfl 46 rfl (fun c8 => ?_) (fun c8 => ?_)
        · rw [if_neg c8] at hR
          refine j_iload_n C dX5_broken_50 51 rfl rfl 0 rfl ?_
          refine j_cs0I (na := 1) C dX5_broken_51 54 rfl (c_J6_numberOfTrailingZeros_0f7a4 τ  r6 ) rfl ggX5_broken_J6_numberOfTrailingZeros_0f7a4 rfl rfl rfl kX5_broken_iRJ6 kX5_broken_m172 kX5_broken_sJ6_numberOfTrailingZeros_0f7a4 qd_J6_numberOfTrailingZeros_0f7a4 rfl ⟨by decide, by decide⟩ ⟨by decide, by decide⟩ rfl (Nat.le_of_ble_eq_true rfl) (fun r9 u9 hX9 hn9 => ?_)
          obtain rfl := (Prod.mk.inj hX9).1
          exact Rt.ret (hRet _ hR) rfl dX5_broken_54
        · rw [if_pos c8] at hR
          refine j_iload_n C dX5_broken_46 47 rfl rfl 3 rfl ?_
          refine j_goto C dX5_broken_47 54 rfl ?_
          exact Rt.ret (hRet _ hR) rfl dX5_broken_54
set_option maxHeartbeats 4000000 in
set_option maxRecDepth 100000 in
theorem c_X5_broken (τ : SX) (a : Nat → Nat) (rws : Nat → Int32) (isv : Int32) (rc : Int32) (nlw : Nat → Int32) (nkd : Nat → Int32) (nbt : Nat → Int32) (nph : Nat → Int32) (ncn : Nat → Int32) (nno : Nat → Int32) (nct : Int32) (nsc : Int32) (nrn : Int32) (nlg : Int32) (ndn : Int32) (nzz : Int32) (tlw : Nat → Int32) (tkd : Nat → Int32) (tbt : Nat → Int32) (tph : Nat → Int32) (tcn : Nat → Int32) (tno : Nat → Int32) (tct : Int32) (tsc : Int32) (trn : Int32) (tlg : Int32) (tdn : Int32) (tzz : Int32) (x1 : Int32) (hrc0 : 0 ≤ rc.toInt) (hrc : rc.toInt ≤ 10) (hn0 : 0 ≤ nct.toInt) (hn : nct.toInt ≤ 8) (sz : Nat) : McI τ yX5_broken wsX5_broken rmX5_broken .int [.ref (a 0), .int x1] ((wX τ a rws isv rc) ++ (wT τ (fun j => a (10 + j)) nlw nkd nbt nph ncn nno nct nsc nrn nlg ndn nzz) ++ (wT τ (fun j => a (20 + j)) tlw tkd tbt tph tcn tno tct tsc trn tlg tdn tzz)) (fun u : (Nat → Int32) × (Nat → Int32) × (Nat → Int32) × (Nat → Int32) × (Nat → Int32) × (Nat → Int32) × Int32 × Int32 × Int32 × Int32 × Int32 × Int32 => ((wX τ a rws isv rc) ++ (wT τ (fun j => a (10 + j)) nlw nkd nbt nph ncn nno nct nsc nrn nlg ndn nzz) ++ (wT τ (fun j => a (20 + j)) u.1 u.2.1 u.2.2.1 u.2.2.2.1 u.2.2.2.2.1 u.2.2.2.2.2.1 u.2.2.2.2.2.2.1 u.2.2.2.2.2.2.2.1 u.2.2.2.2.2.2.2.2.1 u.2.2.2.2.2.2.2.2.2.1 u.2.2.2.2.2.2.2.2.2.2.1 u.2.2.2.2.2.2.2.2.2.2.2))) (f_X5_broken nlw nkd nbt nph ncn nno nct nsc nrn nlg ndn nzz tlw tkd tbt tph tcn tno tct tsc trn tlg tdn tzz x1) sz := by
  refine mc_I (cc := cX5_broken) (own := RX5) [(0, .ref (a 0)), (1, .int x1)] rfl (by decide) rfl rfl (Nat.le_of_ble_eq_true rfl) (fun κ C hR => ?_)
  have hiX4 : ∀ w ∈ wsX40, w ∈ wsX5_broken := fun w h => List.mem_cons_of_mem _ (List.mem_append_right _ h)
  have hiX5 : ∀ w ∈ wsX50, w ∈ wsX5_broken := fun w h => List.mem_cons_of_mem _ (List.mem_append_left _ (List.mem_append_right _ h))
  unfold f_X5_broken at hR
  refine j_iload_n C dX5_broken_0 1 rfl rfl 1 rfl ?_
  refine j_iconst (v := 0) C dX5_broken_1 2 rfl (by decide) ?_
  refine j_iconst (v := 1) C dX5_broken_2 3 rfl (by decide) ?_
  refine j_cs0I (na := 3) C dX5_broken_3 6 rfl (c_X5_isIn τ  x1 (0 : Int32) (1 : Int32) ) rfl ggX5_broken_X5_isIn rfl rfl rfl kX5_broken_iRX5 kX5_broken_m79 kX5_broken_sX5_isIn qd_X5_isIn rfl ⟨by decide, by decide⟩ ⟨by decide, by decide⟩ rfl (Nat.le_of_ble_eq_true rfl) (fun r1 u1 hX1 hn1 => ?_)
  obtain rfl := (Prod.mk.inj hX1).1
  refine j_if_ne C dX5_broken_6 11 rfl 9 rfl (fun c2 => ?_) (fun c2 => ?_)
  · rw [if_neg c2] at hR
    refine j_aload_n C dX5_broken_11 12 rfl rfl 0 rfl ?_
    refine j_get C dX5_broken_12 15 rfl hiX5 0 rfl rfl 1 (by decide) rfl kX5_broken_f16 rfl ?_
    refine j_aload_n C dX5_broken_15 16 rfl rfl 0 rfl ?_
    refine j_get C dX5_broken_16 19 rfl hiX5 0 rfl rfl 0 (by decide) rfl kX5_broken_f10 rfl ?_
    refine j_cvV (na := 1) C dX5_broken_19 22 rfl (c_X4_copyFrom τ (fun j => a (20 + j)) (fun j => a (10 + j)) tlw tkd tbt tph tcn tno tct tsc trn tlg tdn tzz nlw nkd nbt nph ncn nno nct nsc nrn nlg ndn nzz ) gX5_broken_X4_copyFrom rfl rfl rfl qd_X4_copyFrom rfl ⟨by decide, by decide⟩ ⟨by decide, by decide⟩ rfl (Nat.le_of_ble_eq_true rfl) [11, 12, 13, 14, 15, 16, 17, 4, 5, 6, 7, 8, 9, 10] [0, 1, 2, 3] [0, 1, 2, 3, 11, 12, 13, 14, 15, 16, 17, 4, 5, 6, 7, 8, 9, 10] ((wX τ a rws isv rc)) rfl (by decide) rfl (by decide) (by decide) 4 0 rfl rfl (fun u => ((wX τ a rws isv rc) ++ (wT τ (fun j => a (10 + j)) nlw nkd nbt nph ncn nno nct nsc nrn nlg ndn nzz) ++ (wT τ (fun j => a (20 + j)) u.1 u.2.1 u.2.2.1 u.2.2.2.1 u.2.2.2.2.1 u.2.2.2.2.2.1 u.2.2.2.2.2.2.1 u.2.2.2.2.2.2.2.1 u.2.2.2.2.2.2.2.2.1 u.2.2.2.2.2.2.2.2.2.1 u.2.2.2.2.2.2.2.2.2.2.1 u.2.2.2.2.2.2.2.2.2.2.2))) (fun _ => rfl) (by decide) (fun u3 hX3 => ?_)
    obtain ⟨tlw_3, tkd_3, tbt_3, tph_3, tcn_3, tno_3, tct_3, tsc_3, trn_3, tlg_3, tdn_3, tzz_3⟩ := u3
    simp only [f_X4_copyFrom, Prod.mk.injEq] at hX3
    obtain ⟨rfl, rfl, rfl, rfl, rfl, rfl, rfl, rfl, rfl, rfl, rfl, rfl⟩ := hX3
    refine j_iconst (v := 1) C dX5_broken_22 23 rfl (by decide) ?_
    refine j_istore_n C dX5_broken_23 24 rfl rfl (by decide) [(2, .int 1), (0, .ref (a 0)), (1, .int x1)] rfl ?_
    refine j_lv [1, 2, 0] [(0, .ref (a 0)), (1, .int x1), (2, .int 1)] rfl (L_X5_broken_24 C a rws isv rc nlw nkd nbt nph ncn nno nct nsc nrn nlg ndn nzz (va_cpy nlw tlw 0 0 4) (va_cpy nkd tkd 0 0 8) (va_cpy nbt tbt 0 0 8) (va_cpy nph tph 0 0 8) (va_cpy ncn tcn 0 0 8) nct nzz x1 hrc0 hrc hn0 hn (hn) (fun (o : (Int32 × (Nat → Int32) × Int32 × Int32 × Int32 × Int32) ⊕ (Int32 × (Nat → Int32) × (Nat → Int32) × (Nat → Int32) × (Nat → Int32) × (Nat → Int32) × (Nat → Int32) × Int32 × Int32 × Int32 × Int32 × Int32 × Int32)) => Rt τ κ cX5_broken .int (fun u : (Nat → Int32) × (Nat → Int32) × (Nat → Int32) × (Nat → Int32) × (Nat → Int32) × (Nat → Int32) × Int32 × Int32 × Int32 × Int32 × Int32 × Int32 => ((wX τ a rws isv rc) ++ (wT τ (fun j => a (10 + j)) nlw nkd nbt nph ncn nno nct nsc nrn nlg ndn nzz) ++ (wT τ (fun j => a (20 + j)) u.1 u.2.1 u.2.2.1 u.2.2.2.1 u.2.2.2.2.1 u.2.2.2.2.2.1 u.2.2.2.2.2.2.1 u.2.2.2.2.2.2.2.1 u.2.2.2.2.2.2.2.2.1 u.2.2.2.2.2.2.2.2.2.1 u.2.2.2.2.2.2.2.2.2.2.1 u.2.2.2.2.2.2.2.2.2.2.2))) (sm o (fun (z : Int32 × (Nat → Int32) × Int32 × Int32 × Int32 × Int32) => pr6 z (fun x2_4 tno_4 tsc_4 trn_4 tlg_4 tdn_4 => (((-3) : Int32), (va_cpy nlw tlw 0 0 4), (va_cpy nkd tkd 0 0 8), (va_cpy nbt tbt 0 0 8), (va_cpy nph tph 0 0 8), (va_cpy ncn tcn 0 0 8), tno_4, nct, tsc_4, trn_4, tlg_4, tdn_4, nzz))) (fun X => X))) (fun x2_4 tno_4 tsc_4 trn_4 tlg_4 tdn_4  hR => ?_) (fun X hR => by rw [sm_inr] at hR; exact hR) 300 (1 : Int32) (va_cpy nno tno 0 0 8) nsc nrn nlg ndn (by decide) (by decide) (by decide) hR)
    rw [sm_inl, pr6_mk x2_4 tno_4 tsc_4 trn_4 tlg_4 tdn_4] at hR
    refine j_bipush (v := (-3)) C dX5_broken_61 63 rfl (by decide) ?_
    exact Rt.ret (hR) rfl dX5_broken_63
  · rw [if_pos c2] at hR
    refine j_iconst (v := (-1)) C dX5_broken_9 10 rfl (by decide) ?_
    exact Rt.ret (hR) rfl dX5_broken_10

