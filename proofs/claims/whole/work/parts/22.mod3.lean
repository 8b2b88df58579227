theorem i32_sub1' {i : Int32} (h : 0 ≤ i.toInt) : (i - 1).toInt = i.toInt - 1 := by
  have h0 := Int32.toInt_lt i
  exact i32_subE (a := i) (b := 1) (by rw [show (1 : Int32).toInt = 1 from rfl]; omega) (by rw [show (1 : Int32).toInt = 1 from rfl]; omega)

theorem in6_4 {x : Int32} (c : ¬ f_X6_isIn x.toInt64 0 3 = 0) : vp_in x 4 := by
  have h := in6 c
  rw [show (0 : Int64).toInt = 0 from rfl, show (3 : Int64).toInt = 3 from rfl] at h
  exact vpI h.1 (by omega)
theorem in_sh6 {x : Int32} (c : ¬ f_X6_isSheet x = 0) : vp_in x 4 := in6_4 c
theorem in_sf6 {x : Int32} (c : ¬ f_X6_isShelf x = 0) : vp_in x 4 := in6_4 c
theorem law_in {x : Int32} (h : vp_in x 4) : vp_in ((6 : Int32) + x) 50 := by
  rw [vp_in_iff] at h
  have e : ((6 : Int32) + x).toInt = 6 + x.toInt := i32_addE (a := 6) (b := x) (by rw [show (6 : Int32).toInt = 6 from rfl]; omega) (by rw [show (6 : Int32).toInt = 6 from rfl]; omega)
  exact vpI (by omega) (by omega)
theorem nu_in {x y : Int32} (h : vp_in x 4) (h2 : vp_in y 40) : vp_in ((40 : Int32) * x + y) 160 := by
  rw [vp_in_iff] at h h2
  have e4 : (40 : Int32).toInt = 40 := rfl
  have m1 : ((40 : Int32) * x).toInt = 40 * x.toInt := i32_mulE (a := 40) (b := x) (by rw [e4]; omega) (by rw [e4]; omega)
  have m2 : ((40 : Int32) * x + y).toInt = ((40 : Int32) * x).toInt + y.toInt := i32_addE (a := (40 : Int32) * x) (b := y) (by omega) (by omega)
  exact vpI (by omega) (by omega)
theorem in6_sz {x y : Int32} (c : ¬ f_X6_isIn x.toInt64 0 (y - 1).toInt64 = 0) (h0 : 0 ≤ y.toInt) : 0 ≤ x.toInt ∧ x.toInt < y.toInt := by
  have h := in6 c
  rw [Int32.toInt_toInt64, i32_sub1' h0, show (0 : Int64).toInt = 0 from rfl] at h
  omega
theorem sz40 {x y : Int32} (c : ¬ f_X6_isIn x.toInt64 0 (y - 1).toInt64 = 0) (h : 0 ≤ y.toInt ∧ y.toInt ≤ 40) : vp_in x 40 := by
  have a := in6_sz c h.1
  exact vpI a.1 (by omega)
theorem vps6 {x y : Int32} (c : ¬ f_X6_isIn x.toInt64 0 (y - 1).toInt64 = 0) (h0 : 0 ≤ y.toInt) (h : y.toInt ≤ 30) : vp_in x 30 := by
  have a := in6_sz c h0
  exact vpI a.1 (by omega)
theorem n_in {ss : Nat → Int32} (h : okS ss) (c : (ss 0).toInt < 8) : vp_in (ss 0) 8 := vpI h.1 c

-- X6_set
def f_X6_set (ss : Nat → Int32) (x1 : Int32) (x2 : Int32) : Int32 × (Nat → Int32) := if ((f_X6_isIn ((x1 : Int32).toInt64) (0 : Int64) (3 : Int64)) = 0) then (((-1) : Int32), ss) else (pr1 (if (x1 = 0) then (1 : Int64) else (0 : Int64)) (fun j15_0 => pr1 (if (x1 = 1) then (9 : Int64) else (99 : Int64)) (fun j25_0 => if ((f_X6_isIn ((x2 : Int32).toInt64) j15_0 j25_0) = 0) then (((-1) : Int32), ss) else (pr2 (f_X6_becomes ss ((6 : Int32) + x1) x2) (fun r7 ss_7 => (r7, ss_7))))))
theorem kX6_set_c148 : Cond.constantLong RX6 148 3 ∈ wsX6_set := by decide +kernel
theorem kX6_set_iRX6 : Cond.initialized yX6_isIn.cls ∈ wsX6_set := by decide +kernel
theorem kX6_set_sX6_isIn : Cond.static yX6_isIn ∈ wsX6_set := by decide +kernel
theorem kX6_set_m57 : Cond.methodLink RX6 57 yX6_isIn ∈ wsX6_set := by decide +kernel
theorem kX6_set_c150 : Cond.constantLong RX6 150 9 ∈ wsX6_set := by decide +kernel
theorem kX6_set_c152 : Cond.constantLong RX6 152 99 ∈ wsX6_set := by decide +kernel
theorem qd_X6_set : yX6_set.cls = RX6 ∧ yX6_set.cls ≠ "java/lang/invoke/MethodHandle" ∧ yX6_set.cls ≠ "java/lang/invoke/VarHandle" ∧ (parseMethodDescriptor yX6_set.desc).map (fun d => d.parameters.length) = some 2 := by decide +kernel
abbrev rmX6_set : Room := { frames := 1, cells := 0, slots := 0, locals := 25 }
set_option maxHeartbeats 4000000 in
set_option maxRecDepth 100000 in
theorem c_X6_set (τ : SX) (a : Nat → Nat) (ss : Nat → Int32) (mhd : Nat → Int32) (mas : Nat → Int32) (mbf : Nat → Int32) (mih : Int32) (mtp : Nat → Int32) (mtn : Int32) (mtk : Int32) (mfr : Int32) (mtt : Int32) (mvl : Int32) (miw : Int32) (mld : Nat → Int32) (mrw : Nat → Int32) (mrn : Int32) (mso : Nat → Int32) (msz : Nat → Int32) (mnu : Nat → Int32) (mhw : Nat → Int32) (mhh : Nat → Int32) (mhm : Nat → Int32) (mbo : Nat → Int32) (mrr : Int32) (mak : Int32) (man : Int32) (maa : Int32) (mip : Int32) (x1 : Int32) (x2 : Int32) (hok : okS ss) (sz : Nat) : McI τ yX6_set wsX6_set rmX6_set .int [.ref (a 0), .int x1, .int x2] (wM τ a ss mhd mas mbf mih mtp mtn mtk mfr mtt mvl miw mld mrw mrn mso msz mnu mhw mhh mhm mbo mrr mak man maa mip) (fun u : (Nat → Int32) => (wM τ a u mhd mas mbf mih mtp mtn mtk mfr mtt mvl miw mld mrw mrn mso msz mnu mhw mhh mhm mbo mrr mak man maa mip)) (f_X6_set ss x1 x2) sz := by
  refine mc_I (cc := cX6_set) (own := RX6) [(0, .ref (a 0)), (1, .int x1), (2, .int x2)] rfl (by decide) rfl rfl (Nat.le_of_ble_eq_true rfl) (fun κ C hR => ?_)
  have hiX6 : ∀ w ∈ wsX60, w ∈ wsX6_set := fun w h => List.mem_cons_of_mem _ (List.mem_append_right _ h)
  unfold f_X6_set at hR
  refine j_iload_n C dX6_set_0 1 rfl rfl 1 rfl ?_
  refine j_i2l C dX6_set_1 2 rfl ?_
  refine j_lconst (v := 0) C dX6_set_2 3 rfl (by decide) ?_
  refine j_ldc2 C dX6_set_3 6 rfl kX6_set_c148 ?_
  refine j_cs0I (na := 3) C dX6_set_6 9 rfl (c_X6_isIn τ  ((x1 : Int32).toInt64) (0 : Int64) (3 : Int64) ) rfl ggX6_set_X6_isIn rfl rfl rfl kX6_set_iRX6 kX6_set_m57 kX6_set_sX6_isIn qd_X6_isIn rfl ⟨by decide, by decide⟩ ⟨by decide, by decide⟩ rfl (Nat.le_of_ble_eq_true rfl) (fun r1 u1 hX1 hn1 => ?_)
  obtain rfl := (Prod.mk.inj hX1).1
  refine j_if_eq C dX6_set_9 55 rfl 12 rfl (fun c2 => ?_) (fun c2 => ?_)
  · rw [if_pos c2] at hR
    refine j_iconst (v := (-1)) C dX6_set_55 56 rfl (by decide) ?_
    exact Rt.ret (hR) rfl dX6_set_56
  · rw [if_neg c2] at hR
    refine j_iload_n C dX6_set_12 13 rfl rfl 2 rfl ?_
    refine j_i2l C dX6_set_13 14 rfl ?_
    refine j_iload_n C dX6_set_14 15 rfl rfl 1 rfl ?_
    have J15 : ∀ (j15_0 : Int64), Rt τ κ cX6_set .int (fun u : (Nat → Int32) => (wM τ a u mhd mas mbf mih mtp mtn mtk mfr mtt mvl miw mld mrw mrn mso msz mnu mhw mhh mhm mbo mrr mak man maa mip)) (pr1 (if (x1 = 1) then (9 : Int64) else (99 : Int64)) (fun j25_0 => if ((f_X6_isIn ((x2 : Int32).toInt64) j15_0 j25_0) = 0) then (((-1) : Int32), ss) else (pr2 (f_X6_becomes ss ((6 : Int32) + x1) x2) (fun r7 ss_7 => (r7, ss_7))))) → J τ κ 0 0 (wM τ a ss mhd mas mbf mih mtp mtn mtk mfr mtt mvl miw mld mrw mrn mso msz mnu mhw mhh mhm mbo mrr mak man maa mip) [(0, .ref (a 0)), (1, .int x1), (2, .int x2)] 23 [.long j15_0, .long ((x2 : Int32).toInt64)] := by
      intro j15_0  hR
      refine j_iload_n C dX6_set_23 24 rfl rfl 1 rfl ?_
      refine j_iconst (v := 1) C dX6_set_24 25 rfl (by decide) ?_
      have J25 : ∀ (j25_0 : Int64), Rt τ κ cX6_set .int (fun u : (Nat → Int32) => (wM τ a u mhd mas mbf mih mtp mtn mtk mfr mtt mvl miw mld mrw mrn mso msz mnu mhw mhh mhm mbo mrr mak man maa mip)) (if ((f_X6_isIn ((x2 : Int32).toInt64) j15_0 j25_0) = 0) then (((-1) : Int32), ss) else (pr2 (f_X6_becomes ss ((6 : Int32) + x1) x2) (fun r7 ss_7 => (r7, ss_7)))) → J τ κ 0 0 (wM τ a ss mhd mas mbf mih mtp mtn mtk mfr mtt mvl miw mld mrw mrn mso msz mnu mhw mhh mhm mbo mrr mak man maa mip) [(0, .ref (a 0)), (1, .int x1), (2, .int x2)] 37 [.long j25_0, .long j15_0, .long ((x2 : Int32).toInt64)] := by
        intro j25_0  hR
        refine j_cs0I (na := 3) C dX6_set_37 40 rfl (c_X6_isIn τ  ((x2 : Int32).toInt64) j15_0 j25_0 ) rfl ggX6_set_X6_isIn rfl rfl rfl kX6_set_iRX6 kX6_set_m57 kX6_set_sX6_isIn qd_X6_isIn rfl ⟨by decide, by decide⟩ ⟨by decide, by decide⟩ rfl (Nat.le_of_ble_eq_true rfl) (fun r5 u5 hX5 hn5 => ?_)
        obtain rfl := (Prod.mk.inj hX5).1
        refine j_if_eq C dX6_set_40 55 rfl 43 rfl (fun c6 => ?_) (fun c6 => ?_)
        · rw [if_pos c6] at hR
          refine j_iconst (v := (-1)) C dX6_set_55 56 rfl (by decide) ?_
          exact Rt.ret (hR) rfl dX6_set_56
        · rw [if_neg c6] at hR
          refine j_aload_n C dX6_set_43 44 rfl rfl 0 rfl ?_
          refine j_bipush (v := 6) C dX6_set_44 46 rfl (by decide) ?_
          refine j_iload_n C dX6_set_46 47 rfl rfl 1 rfl ?_
          refine j_iadd C dX6_set_47 48 rfl ?_
          refine j_iload_n C dX6_set_48 49 rfl rfl 2 rfl ?_
          refine j_cv0I (na := 2) C dX6_set_49 52 rfl (c_X6_becomes τ a ss mhd mas mbf mih mtp mtn mtk mfr mtt mvl miw mld mrw mrn mso msz mnu mhw mhh mhm mbo mrr mak man maa mip ((6 : Int32) + x1) x2 (law_in (in6_4 (x := x1) c2))) gX6_set_X6_becomes rfl rfl rfl qd_X6_becomes rfl ⟨by decide, by decide⟩ ⟨by decide, by decide⟩ rfl (Nat.le_of_ble_eq_true rfl) rfl 6 0 rfl rfl (fun r7 u7 hX7 hn7 => ?_)
          obtain ⟨ss_7, rfl⟩ : ∃ z, z = u7 := ⟨_, rfl⟩
          rw [hX7] at hR; rw [pr2_mk r7 ss_7] at hR
          refine j_goto C dX6_set_52 56 rfl ?_
          exact Rt.ret (hR) rfl dX6_set_56
      refine j_icmp_ne C dX6_set_25 34 rfl 28 rfl (fun c4 => ?_) (fun c4 => ?_)
      · rw [if_neg c4] at hR
        refine j_ldc2 C dX6_set_34 37 rfl kX6_set_c152 ?_
        rw [pr1_mk (99 : Int64)] at hR
        exact j_lv [0, 1, 2] [(0, .ref (a 0)), (1, .int x1), (2, .int x2)] rfl (J25 _  hR)
      · rw [if_pos c4] at hR
        refine j_ldc2 C dX6_set_28 31 rfl kX6_set_c150 ?_
        refine j_goto C dX6_set_31 37 rfl ?_
        rw [pr1_mk (9 : Int64)] at hR
        exact j_lv [0, 1, 2] [(0, .ref (a 0)), (1, .int x1), (2, .int x2)] rfl (J25 _  hR)
    refine j_if_ne C dX6_set_15 22 rfl 18 rfl (fun c3 => ?_) (fun c3 => ?_)
    · rw [if_neg c3] at hR
      refine j_lconst (v := 0) C dX6_set_22 23 rfl (by decide) ?_
      rw [pr1_mk (0 : Int64)] at hR
      exact j_lv [0, 1, 2] [(0, .ref (a 0)), (1, .int x1), (2, .int x2)] rfl (J15 _  hR)
    · rw [if_pos c3] at hR
      refine j_lconst (v := 1) C dX6_set_18 19 rfl (by decide) ?_
      refine j_goto C dX6_set_19 23 rfl ?_
      rw [pr1_mk (1 : Int64)] at hR
      exact j_lv [0, 1, 2] [(0, .ref (a 0)), (1, .int x1), (2, .int x2)] rfl (J15 _  hR)

-- X6_lawOf
def f_X6_lawOf (ss : Nat → Int32) (x1 : Int32) : Int32 := if ((f_X6_isIn ((x1 : Int32).toInt64) (0 : Int64) (3 : Int64)) = 0) then ((-1) : Int32) else (ss (((6 : Int32) + x1)).toNatClampNeg)
theorem kX6_lawOf_c148 : Cond.constantLong RX6 148 3 ∈ wsX6_lawOf := by decide +kernel
theorem kX6_lawOf_iRX6 : Cond.initialized yX6_isIn.cls ∈ wsX6_lawOf := by decide +kernel
theorem kX6_lawOf_sX6_isIn : Cond.static yX6_isIn ∈ wsX6_lawOf := by decide +kernel
theorem kX6_lawOf_m57 : Cond.methodLink RX6 57 yX6_isIn ∈ wsX6_lawOf := by decide +kernel
theorem kX6_lawOf_f7 : Cond.fieldLink RX6 7 "TwoMinutesModel" "s" "[I" ∈ wsX6_lawOf := by decide +kernel
theorem qd_X6_lawOf : yX6_lawOf.cls = RX6 ∧ yX6_lawOf.cls ≠ "java/lang/invoke/MethodHandle" ∧ yX6_lawOf.cls ≠ "java/lang/invoke/VarHandle" ∧ (parseMethodDescriptor yX6_lawOf.desc).map (fun d => d.parameters.length) = some 1 := by decide +kernel
abbrev rmX6_lawOf : Room := { frames := 1, cells := 0, slots := 0, locals := 25 }
set_option maxHeartbeats 4000000 in
set_option maxRecDepth 100000 in
theorem c_X6_lawOf (τ : SX) (a : Nat → Nat) (ss : Nat → Int32) (mhd : Nat → Int32) (mas : Nat → Int32) (mbf : Nat → Int32) (mih : Int32) (mtp : Nat → Int32) (mtn : Int32) (mtk : Int32) (mfr : Int32) (mtt : Int32) (mvl : Int32) (miw : Int32) (mld : Nat → Int32) (mrw : Nat → Int32) (mrn : Int32) (mso : Nat → Int32) (msz : Nat → Int32) (mnu : Nat → Int32) (mhw : Nat → Int32) (mhh : Nat → Int32) (mhm : Nat → Int32) (mbo : Nat → Int32) (mrr : Int32) (mak : Int32) (man : Int32) (maa : Int32) (mip : Int32) (x1 : Int32) (sz : Nat) : McI τ yX6_lawOf wsX6_lawOf rmX6_lawOf .int [.ref (a 0), .int x1] (wM τ a ss mhd mas mbf mih mtp mtn mtk mfr mtt mvl miw mld mrw mrn mso msz mnu mhw mhh mhm mbo mrr mak man maa mip) (fun _ : Unit => (wM τ a ss mhd mas mbf mih mtp mtn mtk mfr mtt mvl miw mld mrw mrn mso msz mnu mhw mhh mhm mbo mrr mak man maa mip)) (f_X6_lawOf ss x1, ()) sz := by
  refine mc_I (cc := cX6_lawOf) (own := RX6) [(0, .ref (a 0)), (1, .int x1)] rfl (by decide) rfl rfl (Nat.le_of_ble_eq_true rfl) (fun κ C hR => ?_)
  have hiX6 : ∀ w ∈ wsX60, w ∈ wsX6_lawOf := fun w h => List.mem_cons_of_mem _ (List.mem_append_right _ h)
  unfold f_X6_lawOf at hR
  refine j_iload_n C dX6_lawOf_0 1 rfl rfl 1 rfl ?_
  refine j_i2l C dX6_lawOf_1 2 rfl ?_
  refine j_lconst (v := 0) C dX6_lawOf_2 3 rfl (by decide) ?_
  refine j_ldc2 C dX6_lawOf_3 6 rfl kX6_lawOf_c148 ?_
  refine j_cs0I (na := 3) C dX6_lawOf_6 9 rfl (c_X6_isIn τ  ((x1 : Int32).toInt64) (0 : Int64) (3 : Int64) ) rfl ggX6_lawOf_X6_isIn rfl rfl rfl kX6_lawOf_iRX6 kX6_lawOf_m57 kX6_lawOf_sX6_isIn qd_X6_isIn rfl ⟨by decide, by decide⟩ ⟨by decide, by decide⟩ rfl (Nat.le_of_ble_eq_true rfl) (fun r1 u1 hX1 hn1 => ?_)
  obtain rfl := (Prod.mk.inj hX1).1
  refine j_if_eq C dX6_lawOf_9 24 rfl 12 rfl (fun c2 => ?_) (fun c2 => ?_)
  · rw [if_pos c2] at hR
    refine j_iconst (v := (-1)) C dX6_lawOf_24 25 rfl (by decide) ?_
    exact Rt.ret (hR) rfl dX6_lawOf_25
  · rw [if_neg c2] at hR
    refine j_aload_n C dX6_lawOf_12 13 rfl rfl 0 rfl ?_
    refine j_get C dX6_lawOf_13 16 rfl hiX6 0 rfl rfl 0 (by decide) rfl kX6_lawOf_f7 rfl ?_
    refine j_bipush (v := 6) C dX6_lawOf_16 18 rfl (by decide) ?_
    refine j_iload_n C dX6_lawOf_18 19 rfl rfl 1 rfl ?_
    refine j_iadd C dX6_lawOf_19 20 rfl ?_
    refine j_iald C dX6_lawOf_20 21 rfl 1 rfl (law_in (in6_4 (x := x1) c2)) (((6 : Int32) + x1)).toNatClampNeg rfl ?_
    refine j_goto C dX6_lawOf_21 25 rfl ?_
    exact Rt.ret (hR) rfl dX6_lawOf_25

-- X6_of
def f_X6_of (ss : Nat → Int32) (x1 : Int32) (x2 : Int32) : Int32 := if ((f_X6_isOne ss x1) = 0) then ((-1) : Int32) else (if ((f_X6_isIn ((x2 : Int32).toInt64) (0 : Int64) (6 : Int64)) = 0) then ((-1) : Int32) else (if (5 ≤ x2) then (if (x2 = 6) then (f_X6_reaches ss x1) else (if ((f_X6_sounds ss x1) = 0) then (0 : Int32) else (1 : Int32))) else (f_X6_its ss x1 x2)))
theorem kX6_of_c169 : Cond.constantLong RX6 169 6 ∈ wsX6_of := by decide +kernel
theorem kX6_of_iRX6 : Cond.initialized yX6_isIn.cls ∈ wsX6_of := by decide +kernel
theorem kX6_of_sX6_isIn : Cond.static yX6_isIn ∈ wsX6_of := by decide +kernel
theorem kX6_of_m57 : Cond.methodLink RX6 57 yX6_isIn ∈ wsX6_of := by decide +kernel
theorem qd_X6_of : yX6_of.cls = RX6 ∧ yX6_of.cls ≠ "java/lang/invoke/MethodHandle" ∧ yX6_of.cls ≠ "java/lang/invoke/VarHandle" ∧ (parseMethodDescriptor yX6_of.desc).map (fun d => d.parameters.length) = some 2 := by decide +kernel
abbrev rmX6_of : Room := { frames := 2, cells := 0, slots := 0, locals := 47 }
set_option maxHeartbeats 4000000 in
set_option maxRecDepth 100000 in
theorem c_X6_of (τ : SX) (a : Nat → Nat) (ss : Nat → Int32) (mhd : Nat → Int32) (mas : Nat → Int32) (mbf : Nat → Int32) (mih : Int32) (mtp : Nat → Int32) (mtn : Int32) (mtk : Int32) (mfr : Int32) (mtt : Int32) (mvl : Int32) (miw : Int32) (mld : Nat → Int32) (mrw : Nat → Int32) (mrn : Int32) (mso : Nat → Int32) (msz : Nat → Int32) (mnu : Nat → Int32) (mhw : Nat → Int32) (mhh : Nat → Int32) (mhm : Nat → Int32) (mbo : Nat → Int32) (mrr : Int32) (mak : Int32) (man : Int32) (maa : Int32) (mip : Int32) (x1 : Int32) (x2 : Int32) (hok : okS ss) (sz : Nat) : McI τ yX6_of wsX6_of rmX6_of .int [.ref (a 0), .int x1, .int x2] (wM τ a ss mhd mas mbf mih mtp mtn mtk mfr mtt mvl miw mld mrw mrn mso msz mnu mhw mhh mhm mbo mrr mak man maa mip) (fun _ : Unit => (wM τ a ss mhd mas mbf mih mtp mtn mtk mfr mtt mvl miw mld mrw mrn mso msz mnu mhw mhh mhm mbo mrr mak man maa mip)) (f_X6_of ss x1 x2, ()) sz := by
  refine mc_I (cc := cX6_of) (own := RX6) [(0, .ref (a 0)), (1, .int x1), (2, .int x2)] rfl (by decide) rfl rfl (Nat.le_of_ble_eq_true rfl) (fun κ C hR => ?_)
  have hiX6 : ∀ w ∈ wsX60, w ∈ wsX6_of := fun w h => List.mem_cons_of_mem _ (List.mem_append_right _ h)
  unfold f_X6_of at hR
  refine j_aload_n C dX6_of_0 1 rfl rfl 0 rfl ?_
  refine j_iload_n C dX6_of_1 2 rfl rfl 1 rfl ?_
  refine j_cv0I (na := 1) C dX6_of_2 5 rfl (c_X6_isOne τ a ss mhd mas mbf mih mtp mtn mtk mfr mtt mvl miw mld mrw mrn mso msz mnu mhw mhh mhm mbo mrr mak man maa mip x1 (by first | assumption | (unfold vp_in; decide))) gX6_of_X6_isOne rfl rfl rfl qd_X6_isOne rfl ⟨by decide, by decide⟩ ⟨by decide, by decide⟩ rfl (Nat.le_of_ble_eq_true rfl) rfl 6 0 rfl rfl (fun r1 u1 hX1 hn1 => ?_)
  obtain rfl := (Prod.mk.inj hX1).1
  refine j_if_eq C dX6_of_5 20 rfl 8 rfl (fun c2 => ?_) (fun c2 => ?_)
  · rw [if_pos c2] at hR
    refine j_iconst (v := (-1)) C dX6_of_20 21 rfl (by decide) ?_
    exact Rt.ret (hR) rfl dX6_of_21
  · rw [if_neg c2] at hR
    refine j_iload_n C dX6_of_8 9 rfl rfl 2 rfl ?_
    refine j_i2l C dX6_of_9 10 rfl ?_
    refine j_lconst (v := 0) C dX6_of_10 11 rfl (by decide) ?_
    refine j_ldc2 C dX6_of_11 14 rfl kX6_of_c169 ?_
    refine j_cs0I (na := 3) C dX6_of_14 17 rfl (c_X6_isIn τ  ((x2 : Int32).toInt64) (0 : Int64) (6 : Int64) ) rfl ggX6_of_X6_isIn rfl rfl rfl kX6_of_iRX6 kX6_of_m57 kX6_of_sX6_isIn qd_X6_isIn rfl ⟨by decide, by decide⟩ ⟨by decide, by decide⟩ rfl (Nat.le_of_ble_eq_true rfl) (fun r3 u3 hX3 hn3 => ?_)
    obtain rfl := (Prod.mk.inj hX3).1
    refine j_if_ne C dX6_of_17 22 rfl 20 rfl (fun c4 => ?_) (fun c4 => ?_)
    · rw [if_neg c4] at hR
      refine j_iload_n C dX6_of_22 23 rfl rfl 2 rfl ?_
      refine j_iconst (v := 5) C dX6_of_23 24 rfl (by decide) ?_
      refine j_icmp_ge C dX6_of_24 36 rfl 27 rfl (fun c5 => ?_) (fun c5 => ?_)
      · rw [if_pos c5] at hR
        refine j_iload_n C dX6_of_36 37 rfl rfl 2 rfl ?_
        refine j_bipush (v := 6) C dX6_of_37 39 rfl (by decide) ?_
        refine j_icmp_ne C dX6_of_39 50 rfl 42 rfl (fun c6 => ?_) (fun c6 => ?_)
        · rw [if_neg c6] at hR
          refine j_aload_n C dX6_of_50 51 rfl rfl 0 rfl ?_
          refine j_iload_n C dX6_of_51 52 rfl rfl 1 rfl ?_
          refine j_cv0I (na := 1) C dX6_of_52 55 rfl (c_X6_sounds τ a ss mhd mas mbf mih mtp mtn mtk mfr mtt mvl miw mld mrw mrn mso msz mnu mhw mhh mhm mbo mrr mak man maa mip x1 (m_one c2 hok) (ok_bt hok (m_oneI c2).1 (m_oneI c2).2)) gX6_of_X6_sounds rfl rfl rfl qd_X6_sounds rfl ⟨by decide, by decide⟩ ⟨by decide, by decide⟩ rfl (Nat.le_of_ble_eq_true rfl) rfl 6 0 rfl rfl (fun r8 u8 hX8 hn8 => ?_)
          obtain rfl := (Prod.mk.inj hX8).1
          refine j_if_eq C dX6_of_55 62 rfl 58 rfl (fun c9 => ?_) (fun c9 => ?_)
          · rw [if_pos c9] at hR
            refine j_iconst (v := 0) C dX6_of_62 63 rfl (by decide) ?_
            exact Rt.ret (hR) rfl dX6_of_63
          · rw [if_neg c9] at hR
            refine j_iconst (v := 1) C dX6_of_58 59 rfl (by decide) ?_
            refine j_goto C dX6_of_59 63 rfl ?_
            exact Rt.ret (hR) rfl dX6_of_63
        · rw [if_pos c6] at hR
          refine j_aload_n C dX6_of_42 43 rfl rfl 0 rfl ?_
          refine j_iload_n C dX6_of_43 44 rfl rfl 1 rfl ?_
          refine j_cv0I (na := 1) C dX6_of_44 47 rfl (c_X6_reaches τ a ss mhd mas mbf mih mtp mtn mtk mfr mtt mvl miw mld mrw mrn mso msz mnu mhw mhh mhm mbo mrr mak man maa mip x1 (m_one c2 hok)) gX6_of_X6_reaches rfl rfl rfl qd_X6_reaches rfl ⟨by decide, by decide⟩ ⟨by decide, by decide⟩ rfl (Nat.le_of_ble_eq_true rfl) rfl 6 0 rfl rfl (fun r7 u7 hX7 hn7 => ?_)
          obtain rfl := (Prod.mk.inj hX7).1
          refine j_goto C dX6_of_47 63 rfl ?_
          exact Rt.ret (hR) rfl dX6_of_63
      · rw [if_neg c5] at hR
        refine j_aload_n C dX6_of_27 28 rfl rfl 0 rfl ?_
        refine j_iload_n C dX6_of_28 29 rfl rfl 1 rfl ?_
        refine j_iload_n C dX6_of_29 30 rfl rfl 2 rfl ?_
        refine j_cv0I (na := 2) C dX6_of_30 33 rfl (c_X6_its τ a ss mhd mas mbf mih mtp mtn mtk mfr mtt mvl miw mld mrw mrn mso msz mnu mhw mhh mhm mbo mrr mak man maa mip x1 x2 (its_in (o := x1) (w := x2) (m_one c2 hok) (by have h := in6 (x := x2) c4; have h2 := mt i32_le.mpr c5; rw [show (0 : Int64).toInt = 0 from rfl] at h; rw [show (5 : Int32).toInt = 5 from rfl] at h2; omega))) gX6_of_X6_its rfl rfl rfl qd_X6_its rfl ⟨by decide, by decide⟩ ⟨by decide, by decide⟩ rfl (Nat.le_of_ble_eq_true rfl) rfl 6 0 rfl rfl (fun r10 u10 hX10 hn10 => ?_)
        obtain rfl := (Prod.mk.inj hX10).1
        refine j_goto C dX6_of_33 63 rfl ?_
        exact Rt.ret (hR) rfl dX6_of_63
    · rw [if_pos c4] at hR
      refine j_iconst (v := (-1)) C dX6_of_20 21 rfl (by decide) ?_
      exact Rt.ret (hR) rfl dX6_of_21

-- X6_mind
def f_X6_mind (ss : Nat → Int32) (x1 : Int32) (x2 : Int32) : Int32 × (Nat → Int32) := if ((f_X6_isOne ss x1) = 0) then (((-1) : Int32), ss) else (if ((f_X6_isIn ((x2 : Int32).toInt64) (0 : Int64) (5 : Int64)) = 0) then (((-1) : Int32), ss) else (pr2 (f_X6_becomes ss ((10 : Int32) + ((5 : Int32) * x1)) x2) (fun r5 ss_5 => (r5, ss_5))))
theorem kX6_mind_c158 : Cond.constantLong RX6 158 5 ∈ wsX6_mind := by decide +kernel
theorem kX6_mind_iRX6 : Cond.initialized yX6_isIn.cls ∈ wsX6_mind := by decide +kernel
theorem kX6_mind_sX6_isIn : Cond.static yX6_isIn ∈ wsX6_mind := by decide +kernel
theorem kX6_mind_m57 : Cond.methodLink RX6 57 yX6_isIn ∈ wsX6_mind := by decide +kernel
theorem qd_X6_mind : yX6_mind.cls = RX6 ∧ yX6_mind.cls ≠ "java/lang/invoke/MethodHandle" ∧ yX6_mind.cls ≠ "java/lang/invoke/VarHandle" ∧ (parseMethodDescriptor yX6_mind.desc).map (fun d => d.parameters.length) = some 2 := by decide +kernel
abbrev rmX6_mind : Room := { frames := 1, cells := 0, slots := 0, locals := 25 }
set_option maxHeartbeats 4000000 in
set_option maxRecDepth 100000 in
theorem c_X6_mind (τ : SX) (a : Nat → Nat) (ss : Nat → Int32) (mhd : Nat → Int32) (mas : Nat → Int32) (mbf : Nat → Int32) (mih : Int32) (mtp : Nat → Int32) (mtn : Int32) (mtk : Int32) (mfr : Int32) (mtt : Int32) (mvl : Int32) (miw : Int32) (mld : Nat → Int32) (mrw : Nat → Int32) (mrn : Int32) (mso : Nat → Int32) (msz : Nat → Int32) (mnu : Nat → Int32) (mhw : Nat → Int32) (mhh : Nat → Int32) (mhm : Nat → Int32) (mbo : Nat → Int32) (mrr : Int32) (mak : Int32) (man : Int32) (maa : Int32) (mip : Int32) (x1 : Int32) (x2 : Int32) (hok : okS ss) (sz : Nat) : McI τ yX6_mind wsX6_mind rmX6_mind .int [.ref (a 0), .int x1, .int x2] (wM τ a ss mhd mas mbf mih mtp mtn mtk mfr mtt mvl miw mld mrw mrn mso msz mnu mhw mhh mhm mbo mrr mak man maa mip) (fun u : (Nat → Int32) => (wM τ a u mhd mas mbf mih mtp mtn mtk mfr mtt mvl miw mld mrw mrn mso msz mnu mhw mhh mhm mbo mrr mak man maa mip)) (f_X6_mind ss x1 x2) sz := by
  refine mc_I (cc := cX6_mind) (own := RX6) [(0, .ref (a 0)), (1, .int x1), (2, .int x2)] rfl (by decide) rfl rfl (Nat.le_of_ble_eq_true rfl) (fun κ C hR => ?_)
  have hiX6 : ∀ w ∈ wsX60, w ∈ wsX6_mind := fun w h => List.mem_cons_of_mem _ (List.mem_append_right _ h)
  unfold f_X6_mind at hR
  refine j_aload_n C dX6_mind_0 1 rfl rfl 0 rfl ?_
  refine j_iload_n C dX6_mind_1 2 rfl rfl 1 rfl ?_
  refine j_cv0I (na := 1) C dX6_mind_2 5 rfl (c_X6_isOne τ a ss mhd mas mbf mih mtp mtn mtk mfr mtt mvl miw mld mrw mrn mso msz mnu mhw mhh mhm mbo mrr mak man maa mip x1 (by first | assumption | (unfold vp_in; decide))) gX6_mind_X6_isOne rfl rfl rfl qd_X6_isOne rfl ⟨by decide, by decide⟩ ⟨by decide, by decide⟩ rfl (Nat.le_of_ble_eq_true rfl) rfl 6 0 rfl rfl (fun r1 u1 hX1 hn1 => ?_)
  obtain rfl := (Prod.mk.inj hX1).1
  refine j_if_eq C dX6_mind_5 34 rfl 8 rfl (fun c2 => ?_) (fun c2 => ?_)
  · rw [if_pos c2] at hR
    refine j_iconst (v := (-1)) C dX6_mind_34 35 rfl (by decide) ?_
    exact Rt.ret (hR) rfl dX6_mind_35
  · rw [if_neg c2] at hR
    refine j_iload_n C dX6_mind_8 9 rfl rfl 2 rfl ?_
    refine j_i2l C dX6_mind_9 10 rfl ?_
    refine j_lconst (v := 0) C dX6_mind_10 11 rfl (by decide) ?_
    refine j_ldc2 C dX6_mind_11 14 rfl kX6_mind_c158 ?_
    refine j_cs0I (na := 3) C dX6_mind_14 17 rfl (c_X6_isIn τ  ((x2 : Int32).toInt64) (0 : Int64) (5 : Int64) ) rfl ggX6_mind_X6_isIn rfl rfl rfl kX6_mind_iRX6 kX6_mind_m57 kX6_mind_sX6_isIn qd_X6_isIn rfl ⟨by decide, by decide⟩ ⟨by decide, by decide⟩ rfl (Nat.le_of_ble_eq_true rfl) (fun r3 u3 hX3 hn3 => ?_)
    obtain rfl := (Prod.mk.inj hX3).1
    refine j_if_eq C dX6_mind_17 34 rfl 20 rfl (fun c4 => ?_) (fun c4 => ?_)
    · rw [if_pos c4] at hR
      refine j_iconst (v := (-1)) C dX6_mind_34 35 rfl (by decide) ?_
      exact Rt.ret (hR) rfl dX6_mind_35
    · rw [if_neg c4] at hR
      refine j_aload_n C dX6_mind_20 21 rfl rfl 0 rfl ?_
      refine j_bipush (v := 10) C dX6_mind_21 23 rfl (by decide) ?_
      refine j_iconst (v := 5) C dX6_mind_23 24 rfl (by decide) ?_
      refine j_iload_n C dX6_mind_24 25 rfl rfl 1 rfl ?_
      refine j_imul C dX6_mind_25 26 rfl ?_
      refine j_iadd C dX6_mind_26 27 rfl ?_
      refine j_iload_n C dX6_mind_27 28 rfl rfl 2 rfl ?_
      refine j_cv0I (na := 2) C dX6_mind_28 31 rfl (c_X6_becomes τ a ss mhd mas mbf mih mtp mtn mtk mfr mtt mvl miw mld mrw mrn mso msz mnu mhw mhh mhm mbo mrr mak man maa mip ((10 : Int32) + ((5 : Int32) * x1)) x2 (its_in0 (m_one c2 hok))) gX6_mind_X6_becomes rfl rfl rfl qd_X6_becomes rfl ⟨by decide, by decide⟩ ⟨by decide, by decide⟩ rfl (Nat.le_of_ble_eq_true rfl) rfl 6 0 rfl rfl (fun r5 u5 hX5 hn5 => ?_)
      obtain ⟨ss_5, rfl⟩ : ∃ z, z = u5 := ⟨_, rfl⟩
      rw [hX5] at hR; rw [pr2_mk r5 ss_5] at hR
      refine j_goto C dX6_mind_31 35 rfl ?_
      exact Rt.ret (hR) rfl dX6_mind_35

-- X6_bring
def f_X6_bring (ss : Nat → Int32) (x1 : Int32) (x2 : Int32) : Int32 × (Nat → Int32) := if ((f_X6_isOne ss x1) = 0) then (((-1) : Int32), ss) else (if ((f_X6_isCorner x2) = 0) then (((-1) : Int32), ss) else (pr2 (f_X6_becomes ss (((10 : Int32) + ((5 : Int32) * x1)) + 3) x2) (fun r5 ss_5 => (r5, ss_5))))
theorem kX6_bring_iRX6 : Cond.initialized yX6_isCorner.cls ∈ wsX6_bring := by decide +kernel
theorem kX6_bring_sX6_isCorner : Cond.static yX6_isCorner ∈ wsX6_bring := by decide +kernel
theorem kX6_bring_m160 : Cond.methodLink RX6 160 yX6_isCorner ∈ wsX6_bring := by decide +kernel
theorem qd_X6_bring : yX6_bring.cls = RX6 ∧ yX6_bring.cls ≠ "java/lang/invoke/MethodHandle" ∧ yX6_bring.cls ≠ "java/lang/invoke/VarHandle" ∧ (parseMethodDescriptor yX6_bring.desc).map (fun d => d.parameters.length) = some 2 := by decide +kernel
abbrev rmX6_bring : Room := { frames := 1, cells := 0, slots := 0, locals := 23 }
set_option maxHeartbeats 4000000 in
set_option maxRecDepth 100000 in
theorem c_X6_bring (τ : SX) (a : Nat → Nat) (ss : Nat → Int32) (mhd : Nat → Int32) (mas : Nat → Int32) (mbf : Nat → Int32) (mih : Int32) (mtp : Nat → Int32) (mtn : Int32) (mtk : Int32) (mfr : Int32) (mtt : Int32) (mvl : Int32) (miw : Int32) (mld : Nat → Int32) (mrw : Nat → Int32) (mrn : Int32) (mso : Nat → Int32) (msz : Nat → Int32) (mnu : Nat → Int32) (mhw : Nat → Int32) (mhh : Nat → Int32) (mhm : Nat → Int32) (mbo : Nat → Int32) (mrr : Int32) (mak : Int32) (man : Int32) (maa : Int32) (mip : Int32) (x1 : Int32) (x2 : Int32) (hok : okS ss) (sz : Nat) : McI τ yX6_bring wsX6_bring rmX6_bring .int [.ref (a 0), .int x1, .int x2] (wM τ a ss mhd mas mbf mih mtp mtn mtk mfr mtt mvl miw mld mrw mrn mso msz mnu mhw mhh mhm mbo mrr mak man maa mip) (fun u : (Nat → Int32) => (wM τ a u mhd mas mbf mih mtp mtn mtk mfr mtt mvl miw mld mrw mrn mso msz mnu mhw mhh mhm mbo mrr mak man maa mip)) (f_X6_bring ss x1 x2) sz := by
  refine mc_I (cc := cX6_bring) (own := RX6) [(0, .ref (a 0)), (1, .int x1), (2, .int x2)] rfl (by decide) rfl rfl (Nat.le_of_ble_eq_true rfl) (fun κ C hR => ?_)
  have hiX6 : ∀ w ∈ wsX60, w ∈ wsX6_bring := fun w h => List.mem_cons_of_mem _ (List.mem_append_right _ h)
  unfold f_X6_bring at hR
  refine j_aload_n C dX6_bring_0 1 rfl rfl 0 rfl ?_
  refine j_iload_n C dX6_bring_1 2 rfl rfl 1 rfl ?_
  refine j_cv0I (na := 1) C dX6_bring_2 5 rfl (c_X6_isOne τ a ss mhd mas mbf mih mtp mtn mtk mfr mtt mvl miw mld mrw mrn mso msz mnu mhw mhh mhm mbo mrr mak man maa mip x1 (by first | assumption | (unfold vp_in; decide))) gX6_bring_X6_isOne rfl rfl rfl qd_X6_isOne rfl ⟨by decide, by decide⟩ ⟨by decide, by decide⟩ rfl (Nat.le_of_ble_eq_true rfl) rfl 6 0 rfl rfl (fun r1 u1 hX1 hn1 => ?_)
  obtain rfl := (Prod.mk.inj hX1).1
  refine j_if_eq C dX6_bring_5 31 rfl 8 rfl (fun c2 => ?_) (fun c2 => ?_)
  · rw [if_pos c2] at hR
    refine j_iconst (v := (-1)) C dX6_bring_31 32 rfl (by decide) ?_
    exact Rt.ret (hR) rfl dX6_bring_32
  · rw [if_neg c2] at hR
    refine j_iload_n C dX6_bring_8 9 rfl rfl 2 rfl ?_
    refine j_cs0I (na := 1) C dX6_bring_9 12 rfl (c_X6_isCorner τ  x2 ) rfl ggX6_bring_X6_isCorner rfl rfl rfl kX6_bring_iRX6 kX6_bring_m160 kX6_bring_sX6_isCorner qd_X6_isCorner rfl ⟨by decide, by decide⟩ ⟨by decide, by decide⟩ rfl (Nat.le_of_ble_eq_true rfl) (fun r3 u3 hX3 hn3 => ?_)
    obtain rfl := (Prod.mk.inj hX3).1
    refine j_if_eq C dX6_bring_12 31 rfl 15 rfl (fun c4 => ?_) (fun c4 => ?_)
    · rw [if_pos c4] at hR
      refine j_iconst (v := (-1)) C dX6_bring_31 32 rfl (by decide) ?_
      exact Rt.ret (hR) rfl dX6_bring_32
    · rw [if_neg c4] at hR
      refine j_aload_n C dX6_bring_15 16 rfl rfl 0 rfl ?_
      refine j_bipush (v := 10) C dX6_bring_16 18 rfl (by decide) ?_
      refine j_iconst (v := 5) C dX6_bring_18 19 rfl (by decide) ?_
      refine j_iload_n C dX6_bring_19 20 rfl rfl 1 rfl ?_
      refine j_imul C dX6_bring_20 21 rfl ?_
      refine j_iadd C dX6_bring_21 22 rfl ?_
      refine j_iconst (v := 3) C dX6_bring_22 23 rfl (by decide) ?_
      refine j_iadd C dX6_bring_23 24 rfl ?_
      refine j_iload_n C dX6_bring_24 25 rfl rfl 2 rfl ?_
      refine j_cv0I (na := 2) C dX6_bring_25 28 rfl (c_X6_becomes τ a ss mhd mas mbf mih mtp mtn mtk mfr mtt mvl miw mld mrw mrn mso msz mnu mhw mhh mhm mbo mrr mak man maa mip (((10 : Int32) + ((5 : Int32) * x1)) + 3) x2 (its_in (w := 3) (m_one c2 hok) (by decide))) gX6_bring_X6_becomes rfl rfl rfl qd_X6_becomes rfl ⟨by decide, by decide⟩ ⟨by decide, by decide⟩ rfl (Nat.le_of_ble_eq_true rfl) rfl 6 0 rfl rfl (fun r5 u5 hX5 hn5 => ?_)
      obtain ⟨ss_5, rfl⟩ : ∃ z, z = u5 := ⟨_, rfl⟩
      rw [hX5] at hR; rw [pr2_mk r5 ss_5] at hR
      refine j_goto C dX6_bring_28 32 rfl ?_
      exact Rt.ret (hR) rfl dX6_bring_32

-- X6_corner
def f_X6_corner (ss : Nat → Int32) (x1 : Int32) (x2 : Int32) : Int32 := if ((f_X6_isCorner x1) = 0) then ((-1) : Int32) else (if ((f_X6_isIn ((x2 : Int32).toInt64) (0 : Int64) (1 : Int64)) = 0) then ((-1) : Int32) else (if (x2 = 0) then (f_X6_thoseAt ss x1) else (f_X6_heardOf ss (f_X6_sounding ss) x1)))
theorem kX6_corner_iRX6 : Cond.initialized yX6_isIn.cls ∈ wsX6_corner := by decide +kernel
theorem kX6_corner_sX6_isCorner : Cond.static yX6_isCorner ∈ wsX6_corner := by decide +kernel
theorem kX6_corner_m160 : Cond.methodLink RX6 160 yX6_isCorner ∈ wsX6_corner := by decide +kernel
theorem kX6_corner_sX6_isIn : Cond.static yX6_isIn ∈ wsX6_corner := by decide +kernel
theorem kX6_corner_m57 : Cond.methodLink RX6 57 yX6_isIn ∈ wsX6_corner := by decide +kernel
theorem qd_X6_corner : yX6_corner.cls = RX6 ∧ yX6_corner.cls ≠ "java/lang/invoke/MethodHandle" ∧ yX6_corner.cls ≠ "java/lang/invoke/VarHandle" ∧ (parseMethodDescriptor yX6_corner.desc).map (fun d => d.parameters.length) = some 2 := by decide +kernel
abbrev rmX6_corner : Room := { frames := 3, cells := 0, slots := 0, locals := 69 }
set_option maxHeartbeats 4000000 in
set_option maxRecDepth 100000 in
theorem c_X6_corner (τ : SX) (a : Nat → Nat) (ss : Nat → Int32) (mhd : Nat → Int32) (mas : Nat → Int32) (mbf : Nat → Int32) (mih : Int32) (mtp : Nat → Int32) (mtn : Int32) (mtk : Int32) (mfr : Int32) (mtt : Int32) (mvl : Int32) (miw : Int32) (mld : Nat → Int32) (mrw : Nat → Int32) (mrn : Int32) (mso : Nat → Int32) (msz : Nat → Int32) (mnu : Nat → Int32) (mhw : Nat → Int32) (mhh : Nat → Int32) (mhm : Nat → Int32) (mbo : Nat → Int32) (mrr : Int32) (mak : Int32) (man : Int32) (maa : Int32) (mip : Int32) (x1 : Int32) (x2 : Int32) (hok : okS ss) (sz : Nat) : McI τ yX6_corner wsX6_corner rmX6_corner .int [.ref (a 0), .int x1, .int x2] (wM τ a ss mhd mas mbf mih mtp mtn mtk mfr mtt mvl miw mld mrw mrn mso msz mnu mhw mhh mhm mbo mrr mak man maa mip) (fun _ : Unit => (wM τ a ss mhd mas mbf mih mtp mtn mtk mfr mtt mvl miw mld mrw mrn mso msz mnu mhw mhh mhm mbo mrr mak man maa mip)) (f_X6_corner ss x1 x2, ()) sz := by
  refine mc_I (cc := cX6_corner) (own := RX6) [(0, .ref (a 0)), (1, .int x1), (2, .int x2)] rfl (by decide) rfl rfl (Nat.le_of_ble_eq_true rfl) (fun κ C hR => ?_)
  have hiX6 : ∀ w ∈ wsX60, w ∈ wsX6_corner := fun w h => List.mem_cons_of_mem _ (List.mem_append_right _ h)
  unfold f_X6_corner at hR
  refine j_iload_n C dX6_corner_0 1 rfl rfl 1 rfl ?_
  refine j_cs0I (na := 1) C dX6_corner_1 4 rfl (c_X6_isCorner τ  x1 ) rfl ggX6_corner_X6_isCorner rfl rfl rfl kX6_corner_iRX6 kX6_corner_m160 kX6_corner_sX6_isCorner qd_X6_isCorner rfl ⟨by decide, by decide⟩ ⟨by decide, by decide⟩ rfl (Nat.le_of_ble_eq_true rfl) (fun r1 u1 hX1 hn1 => ?_)
  obtain rfl := (Prod.mk.inj hX1).1
  refine j_if_eq C dX6_corner_4 17 rfl 7 rfl (fun c2 => ?_) (fun c2 => ?_)
  · rw [if_pos c2] at hR
    refine j_iconst (v := (-1)) C dX6_corner_17 18 rfl (by decide) ?_
    exact Rt.ret (hR) rfl dX6_corner_18
  · rw [if_neg c2] at hR
    refine j_iload_n C dX6_corner_7 8 rfl rfl 2 rfl ?_
    refine j_i2l C dX6_corner_8 9 rfl ?_
    refine j_lconst (v := 0) C dX6_corner_9 10 rfl (by decide) ?_
    refine j_lconst (v := 1) C dX6_corner_10 11 rfl (by decide) ?_
    refine j_cs0I (na := 3) C dX6_corner_11 14 rfl (c_X6_isIn τ  ((x2 : Int32).toInt64) (0 : Int64) (1 : Int64) ) rfl ggX6_corner_X6_isIn rfl rfl rfl kX6_corner_iRX6 kX6_corner_m57 kX6_corner_sX6_isIn qd_X6_isIn rfl ⟨by decide, by decide⟩ ⟨by decide, by decide⟩ rfl (Nat.le_of_ble_eq_true rfl) (fun r3 u3 hX3 hn3 => ?_)
    obtain rfl := (Prod.mk.inj hX3).1
    refine j_if_ne C dX6_corner_14 19 rfl 17 rfl (fun c4 => ?_) (fun c4 => ?_)
    · rw [if_neg c4] at hR
      refine j_iload_n C dX6_corner_19 20 rfl rfl 2 rfl ?_
      refine j_if_ne C dX6_corner_20 31 rfl 23 rfl (fun c5 => ?_) (fun c5 => ?_)
      · rw [if_neg c5] at hR
        refine j_aload_n C dX6_corner_31 32 rfl rfl 0 rfl ?_
        refine j_aload_n C dX6_corner_32 33 rfl rfl 0 rfl ?_
        refine j_cv0I (na := 0) C dX6_corner_33 36 rfl (c_X6_sounding τ a ss mhd mas mbf mih mtp mtn mtk mfr mtt mvl miw mld mrw mrn mso msz mnu mhw mhh mhm mbo mrr mak man maa mip (by first | assumption | (unfold vp_in; decide))) gX6_corner_X6_sounding rfl rfl rfl qd_X6_sounding rfl ⟨by decide, by decide⟩ ⟨by decide, by decide⟩ rfl (Nat.le_of_ble_eq_true rfl) rfl 6 0 rfl rfl (fun r7 u7 hX7 hn7 => ?_)
        obtain rfl := (Prod.mk.inj hX7).1
        refine j_iload_n C dX6_corner_36 37 rfl rfl 1 rfl ?_
        refine j_cv0I (na := 2) C dX6_corner_37 40 rfl (c_X6_heardOf τ a ss mhd mas mbf mih mtp mtn mtk mfr mtt mvl miw mld mrw mrn mso msz mnu mhw mhh mhm mbo mrr mak man maa mip (f_X6_sounding ss) x1 (by first | assumption | (unfold vp_in; decide))) gX6_corner_X6_heardOf rfl rfl rfl qd_X6_heardOf rfl ⟨by decide, by decide⟩ ⟨by decide, by decide⟩ rfl (Nat.le_of_ble_eq_true rfl) rfl 6 0 rfl rfl (fun r8 u8 hX8 hn8 => ?_)
        obtain rfl := (Prod.mk.inj hX8).1
        exact Rt.ret (hR) rfl dX6_corner_40
      · rw [if_pos c5] at hR
        refine j_aload_n C dX6_corner_23 24 rfl rfl 0 rfl ?_
        refine j_iload_n C dX6_corner_24 25 rfl rfl 1 rfl ?_
        refine j_cv0I (na := 1) C dX6_corner_25 28 rfl (c_X6_thoseAt τ a ss mhd mas mbf mih mtp mtn mtk mfr mtt mvl miw mld mrw mrn mso msz mnu mhw mhh mhm mbo mrr mak man maa mip x1 (by first | assumption | (unfold vp_in; decide))) gX6_corner_X6_thoseAt rfl rfl rfl qd_X6_thoseAt rfl ⟨by decide, by decide⟩ ⟨by decide, by decide⟩ rfl (Nat.le_of_ble_eq_true rfl) rfl 6 0 rfl rfl (fun r6 u6 hX6 hn6 => ?_)
        obtain rfl := (Prod.mk.inj hX6).1
        refine j_goto C dX6_corner_28 40 rfl ?_
        exact Rt.ret (hR) rfl dX6_corner_40
    · rw [if_pos c4] at hR
      refine j_iconst (v := (-1)) C dX6_corner_17 18 rfl (by decide) ?_
      exact Rt.ret (hR) rfl dX6_corner_18

-- X6_isRow
def f_X6_isRow (mrn : Int32) (x1 : Int32) (x2 : Int32) : Int32 := if ((f_X6_isIn ((x1 : Int32).toInt64) (0 : Int64) (((mrn - 1) : Int32).toInt64)) = 0) then (0 : Int32) else (if ((f_X6_isIn ((x2 : Int32).toInt64) (0 : Int64) (2 : Int64)) = 0) then (0 : Int32) else (1 : Int32))
theorem kX6_isRow_f145 : Cond.fieldLink RX6 145 "TwoMinutesModel" "rowN" "I" ∈ wsX6_isRow := by decide +kernel
theorem kX6_isRow_iRX6 : Cond.initialized yX6_isIn.cls ∈ wsX6_isRow := by decide +kernel
theorem kX6_isRow_sX6_isIn : Cond.static yX6_isIn ∈ wsX6_isRow := by decide +kernel
theorem kX6_isRow_m57 : Cond.methodLink RX6 57 yX6_isIn ∈ wsX6_isRow := by decide +kernel
theorem kX6_isRow_c258 : Cond.constantLong RX6 258 2 ∈ wsX6_isRow := by decide +kernel
theorem qd_X6_isRow : yX6_isRow.cls = RX6 ∧ yX6_isRow.cls ≠ "java/lang/invoke/MethodHandle" ∧ yX6_isRow.cls ≠ "java/lang/invoke/VarHandle" ∧ (parseMethodDescriptor yX6_isRow.desc).map (fun d => d.parameters.length) = some 2 := by decide +kernel
abbrev rmX6_isRow : Room := { frames := 1, cells := 0, slots := 0, locals := 25 }
set_option maxHeartbeats 4000000 in
set_option maxRecDepth 100000 in
theorem c_X6_isRow (τ : SX) (a : Nat → Nat) (ss : Nat → Int32) (mhd : Nat → Int32) (mas : Nat → Int32) (mbf : Nat → Int32) (mih : Int32) (mtp : Nat → Int32) (mtn : Int32) (mtk : Int32) (mfr : Int32) (mtt : Int32) (mvl : Int32) (miw : Int32) (mld : Nat → Int32) (mrw : Nat → Int32) (mrn : Int32) (mso : Nat → Int32) (msz : Nat → Int32) (mnu : Nat → Int32) (mhw : Nat → Int32) (mhh : Nat → Int32) (mhm : Nat → Int32) (mbo : Nat → Int32) (mrr : Int32) (mak : Int32) (man : Int32) (maa : Int32) (mip : Int32) (x1 : Int32) (x2 : Int32) (sz : Nat) : McI τ yX6_isRow wsX6_isRow rmX6_isRow .boolean [.ref (a 0), .int x1, .int x2] (wM τ a ss mhd mas mbf mih mtp mtn mtk mfr mtt mvl miw mld mrw mrn mso msz mnu mhw mhh mhm mbo mrr mak man maa mip) (fun _ : Unit => (wM τ a ss mhd mas mbf mih mtp mtn mtk mfr mtt mvl miw mld mrw mrn mso msz mnu mhw mhh mhm mbo mrr mak man maa mip)) (f_X6_isRow mrn x1 x2, ()) sz := by
  refine mc_I (cc := cX6_isRow) (own := RX6) [(0, .ref (a 0)), (1, .int x1), (2, .int x2)] rfl (by decide) rfl rfl (Nat.le_of_ble_eq_true rfl) (fun κ C hR => ?_)
  have hiX6 : ∀ w ∈ wsX60, w ∈ wsX6_isRow := fun w h => List.mem_cons_of_mem _ (List.mem_append_right _ h)
  unfold f_X6_isRow at hR
  refine j_iload_n C dX6_isRow_0 1 rfl rfl 1 rfl ?_
  refine j_i2l C dX6_isRow_1 2 rfl ?_
  refine j_lconst (v := 0) C dX6_isRow_2 3 rfl (by decide) ?_
  refine j_aload_n C dX6_isRow_3 4 rfl rfl 0 rfl ?_
  refine j_get C dX6_isRow_4 7 rfl hiX6 0 rfl rfl 14 (by decide) rfl kX6_isRow_f145 rfl ?_
  refine j_iconst (v := 1) C dX6_isRow_7 8 rfl (by decide) ?_
  refine j_isub C dX6_isRow_8 9 rfl ?_
  refine j_i2l C dX6_isRow_9 10 rfl ?_
  refine j_cs0I (na := 3) C dX6_isRow_10 13 rfl (c_X6_isIn τ  ((x1 : Int32).toInt64) (0 : Int64) (((mrn - 1) : Int32).toInt64) ) rfl ggX6_isRow_X6_isIn rfl rfl rfl kX6_isRow_iRX6 kX6_isRow_m57 kX6_isRow_sX6_isIn qd_X6_isIn rfl ⟨by decide, by decide⟩ ⟨by decide, by decide⟩ rfl (Nat.le_of_ble_eq_true rfl) (fun r1 u1 hX1 hn1 => ?_)
  obtain rfl := (Prod.mk.inj hX1).1
  refine j_if_eq C dX6_isRow_13 32 rfl 16 rfl (fun c2 => ?_) (fun c2 => ?_)
  · rw [if_pos c2] at hR
    refine j_iconst (v := 0) C dX6_isRow_32 33 rfl (by decide) ?_
    exact Rt.ret (hR) (show narrow .boolean (.int (0 : Int32)) = .int (0 : Int32) from rfl) dX6_isRow_33
  · rw [if_neg c2] at hR
    refine j_iload_n C dX6_isRow_16 17 rfl rfl 2 rfl ?_
    refine j_i2l C dX6_isRow_17 18 rfl ?_
    refine j_lconst (v := 0) C dX6_isRow_18 19 rfl (by decide) ?_
    refine j_ldc2 C dX6_isRow_19 22 rfl kX6_isRow_c258 ?_
    refine j_cs0I (na := 3) C dX6_isRow_22 25 rfl (c_X6_isIn τ  ((x2 : Int32).toInt64) (0 : Int64) (2 : Int64) ) rfl ggX6_isRow_X6_isIn rfl rfl rfl kX6_isRow_iRX6 kX6_isRow_m57 kX6_isRow_sX6_isIn qd_X6_isIn rfl ⟨by decide, by decide⟩ ⟨by decide, by decide⟩ rfl (Nat.le_of_ble_eq_true rfl) (fun r3 u3 hX3 hn3 => ?_)
    obtain rfl := (Prod.mk.inj hX3).1
    refine j_if_eq C dX6_isRow_25 32 rfl 28 rfl (fun c4 => ?_) (fun c4 => ?_)
    · rw [if_pos c4] at hR
      refine j_iconst (v := 0) C dX6_isRow_32 33 rfl (by decide) ?_
      exact Rt.ret (hR) (show narrow .boolean (.int (0 : Int32)) = .int (0 : Int32) from rfl) dX6_isRow_33
    · rw [if_neg c4] at hR
      refine j_iconst (v := 1) C dX6_isRow_28 29 rfl (by decide) ?_
      refine j_goto C dX6_isRow_29 33 rfl ?_
      exact Rt.ret (hR) (show narrow .boolean (.int (1 : Int32)) = .int (1 : Int32) from rfl) dX6_isRow_33

theorem row_in {n x y : Int32} (c : ¬ f_X6_isRow n x y = 0) (h0 : 0 ≤ n.toInt) (h : n.toInt ≤ 10) : vp_in ((3 : Int32) * x + y) 30 := by
  unfold f_X6_isRow at c
  by_cases c1 : f_X6_isIn x.toInt64 0 (n - 1).toInt64 = 0
  · rw [if_pos c1] at c; exact absurd rfl c
  · rw [if_neg c1] at c
    by_cases c2 : f_X6_isIn y.toInt64 0 2 = 0
    · rw [if_pos c2] at c; exact absurd rfl c
    · have a1 := in6_sz c1 h0
      have a2 := in6 c2
      rw [show (0 : Int64).toInt = 0 from rfl, show (2 : Int64).toInt = 2 from rfl] at a2
      have e3 : (3 : Int32).toInt = 3 := rfl
      have m1 : ((3 : Int32) * x).toInt = 3 * x.toInt := i32_mulE (a := 3) (b := x) (by rw [e3]; omega) (by rw [e3]; omega)
      have m2 : ((3 : Int32) * x + y).toInt = ((3 : Int32) * x).toInt + y.toInt := i32_addE (a := (3 : Int32) * x) (b := y) (by omega) (by omega)
      exact vpI (by omega) (by omega)

-- X6_row
def f_X6_row (mrw : Nat → Int32) (mrn : Int32) (x1 : Int32) (x2 : Int32) : Int32 := if ((f_X6_isRow mrn x1 x2) = 0) then ((-9) : Int32) else (mrw ((((3 : Int32) * x1) + x2)).toNatClampNeg)
theorem kX6_row_f28 : Cond.fieldLink RX6 28 "TwoMinutesModel" "rows" "[I" ∈ wsX6_row := by decide +kernel
theorem qd_X6_row : yX6_row.cls = RX6 ∧ yX6_row.cls ≠ "java/lang/invoke/MethodHandle" ∧ yX6_row.cls ≠ "java/lang/invoke/VarHandle" ∧ (parseMethodDescriptor yX6_row.desc).map (fun d => d.parameters.length) = some 2 := by decide +kernel
abbrev rmX6_row : Room := { frames := 2, cells := 0, slots := 0, locals := 47 }
set_option maxHeartbeats 4000000 in
set_option maxRecDepth 100000 in
theorem c_X6_row (τ : SX) (a : Nat → Nat) (ss : Nat → Int32) (mhd : Nat → Int32) (mas : Nat → Int32) (mbf : Nat → Int32) (mih : Int32) (mtp : Nat → Int32) (mtn : Int32) (mtk : Int32) (mfr : Int32) (mtt : Int32) (mvl : Int32) (miw : Int32) (mld : Nat → Int32) (mrw : Nat → Int32) (mrn : Int32) (mso : Nat → Int32) (msz : Nat → Int32) (mnu : Nat → Int32) (mhw : Nat → Int32) (mhh : Nat → Int32) (mhm : Nat → Int32) (mbo : Nat → Int32) (mrr : Int32) (mak : Int32) (man : Int32) (maa : Int32) (mip : Int32) (x1 : Int32) (x2 : Int32) (hr0 : 0 ≤ mrn.toInt) (hr : mrn.toInt ≤ 10) (sz : Nat) : McI τ yX6_row wsX6_row rmX6_row .int [.ref (a 0), .int x1, .int x2] (wM τ a ss mhd mas mbf mih mtp mtn mtk mfr mtt mvl miw mld mrw mrn mso msz mnu mhw mhh mhm mbo mrr mak man maa mip) (fun _ : Unit => (wM τ a ss mhd mas mbf mih mtp mtn mtk mfr mtt mvl miw mld mrw mrn mso msz mnu mhw mhh mhm mbo mrr mak man maa mip)) (f_X6_row mrw mrn x1 x2, ()) sz := by
  refine mc_I (cc := cX6_row) (own := RX6) [(0, .ref (a 0)), (1, .int x1), (2, .int x2)] rfl (by decide) rfl rfl (Nat.le_of_ble_eq_true rfl) (fun κ C hR => ?_)
  have hiX6 : ∀ w ∈ wsX60, w ∈ wsX6_row := fun w h => List.mem_cons_of_mem _ (List.mem_append_right _ h)
  unfold f_X6_row at hR
  refine j_aload_n C dX6_row_0 1 rfl rfl 0 rfl ?_
  refine j_iload_n C dX6_row_1 2 rfl rfl 1 rfl ?_
  refine j_iload_n C dX6_row_2 3 rfl rfl 2 rfl ?_
  refine j_cv0I (na := 2) C dX6_row_3 6 rfl (c_X6_isRow τ a ss mhd mas mbf mih mtp mtn mtk mfr mtt mvl miw mld mrw mrn mso msz mnu mhw mhh mhm mbo mrr mak man maa mip x1 x2 ) gX6_row_X6_isRow rfl rfl rfl qd_X6_isRow rfl ⟨by decide, by decide⟩ ⟨by decide, by decide⟩ rfl (Nat.le_of_ble_eq_true rfl) rfl 6 0 rfl rfl (fun r1 u1 hX1 hn1 => ?_)
  obtain rfl := (Prod.mk.inj hX1).1
  refine j_if_eq C dX6_row_6 22 rfl 9 rfl (fun c2 => ?_) (fun c2 => ?_)
  · rw [if_pos c2] at hR
    refine j_bipush (v := (-9)) C dX6_row_22 24 rfl (by decide) ?_
    exact Rt.ret (hR) rfl dX6_row_24
  · rw [if_neg c2] at hR
    refine j_aload_n C dX6_row_9 10 rfl rfl 0 rfl ?_
    refine j_get C dX6_row_10 13 rfl hiX6 0 rfl rfl 13 (by decide) rfl kX6_row_f28 rfl ?_
    refine j_iconst (v := 3) C dX6_row_13 14 rfl (by decide) ?_
    refine j_iload_n C dX6_row_14 15 rfl rfl 1 rfl ?_
    refine j_imul C dX6_row_15 16 rfl ?_
    refine j_iload_n C dX6_row_16 17 rfl rfl 2 rfl ?_
    refine j_iadd C dX6_row_17 18 rfl ?_
    refine j_iald C dX6_row_18 19 rfl 7 rfl (row_in c2 hr0 hr) ((((3 : Int32) * x1) + x2)).toNatClampNeg rfl ?_
    refine j_goto C dX6_row_19 24 rfl ?_
    exact Rt.ret (hR) rfl dX6_row_24

-- X6_alterRow
def f_X6_alterRow (mrw : Nat → Int32) (mrn : Int32) (x1 : Int32) (x2 : Int32) (x3 : Int32) : Int32 × (Nat → Int32) := if ((f_X6_isRow mrn x1 x2) = 0) then (((-9) : Int32), mrw) else ((mrw ((((3 : Int32) * x1) + x2)).toNatClampNeg), (upd mrw ((((3 : Int32) * x1) + x2)).toNatClampNeg x3))
theorem kX6_alterRow_f28 : Cond.fieldLink RX6 28 "TwoMinutesModel" "rows" "[I" ∈ wsX6_alterRow := by decide +kernel
theorem qd_X6_alterRow : yX6_alterRow.cls = RX6 ∧ yX6_alterRow.cls ≠ "java/lang/invoke/MethodHandle" ∧ yX6_alterRow.cls ≠ "java/lang/invoke/VarHandle" ∧ (parseMethodDescriptor yX6_alterRow.desc).map (fun d => d.parameters.length) = some 3 := by decide +kernel
abbrev rmX6_alterRow : Room := { frames := 2, cells := 0, slots := 0, locals := 47 }
set_option maxHeartbeats 4000000 in
set_option maxRecDepth 100000 in
theorem c_X6_alterRow (τ : SX) (a : Nat → Nat) (ss : Nat → Int32) (mhd : Nat → Int32) (mas : Nat → Int32) (mbf : Nat → Int32) (mih : Int32) (mtp : Nat → Int32) (mtn : Int32) (mtk : Int32) (mfr : Int32) (mtt : Int32) (mvl : Int32) (miw : Int32) (mld : Nat → Int32) (mrw : Nat → Int32) (mrn : Int32) (mso : Nat → Int32) (msz : Nat → Int32) (mnu : Nat → Int32) (mhw : Nat → Int32) (mhh : Nat → Int32) (mhm : Nat → Int32) (mbo : Nat → Int32) (mrr : Int32) (mak : Int32) (man : Int32) (maa : Int32) (mip : Int32) (x1 : Int32) (x2 : Int32) (x3 : Int32) (hr0 : 0 ≤ mrn.toInt) (hr : mrn.toInt ≤ 10) (sz : Nat) : McI τ yX6_alterRow wsX6_alterRow rmX6_alterRow .int [.ref (a 0), .int x1, .int x2, .int x3] (wM τ a ss mhd mas mbf mih mtp mtn mtk mfr mtt mvl miw mld mrw mrn mso msz mnu mhw mhh mhm mbo mrr mak man maa mip) (fun u : (Nat → Int32) => (wM τ a ss mhd mas mbf mih mtp mtn mtk mfr mtt mvl miw mld u mrn mso msz mnu mhw mhh mhm mbo mrr mak man maa mip)) (f_X6_alterRow mrw mrn x1 x2 x3) sz := by
  refine mc_I (cc := cX6_alterRow) (own := RX6) [(0, .ref (a 0)), (1, .int x1), (2, .int x2), (3, .int x3)] rfl (by decide) rfl rfl (Nat.le_of_ble_eq_true rfl) (fun κ C hR => ?_)
  have hiX6 : ∀ w ∈ wsX60, w ∈ wsX6_alterRow := fun w h => List.mem_cons_of_mem _ (List.mem_append_right _ h)
  unfold f_X6_alterRow at hR
  refine j_aload_n C dX6_alterRow_0 1 rfl rfl 0 rfl ?_
  refine j_iload_n C dX6_alterRow_1 2 rfl rfl 1 rfl ?_
  refine j_iload_n C dX6_alterRow_2 3 rfl rfl 2 rfl ?_
  refine j_cv0I (na := 2) C dX6_alterRow_3 6 rfl (c_X6_isRow τ a ss mhd mas mbf mih mtp mtn mtk mfr mtt mvl miw mld mrw mrn mso msz mnu mhw mhh mhm mbo mrr mak man maa mip x1 x2 ) gX6_alterRow_X6_isRow rfl rfl rfl qd_X6_isRow rfl ⟨by decide, by decide⟩ ⟨by decide, by decide⟩ rfl (Nat.le_of_ble_eq_true rfl) rfl 6 0 rfl rfl (fun r1 u1 hX1 hn1 => ?_)
  obtain rfl := (Prod.mk.inj hX1).1
  refine j_if_ne C dX6_alterRow_6 12 rfl 9 rfl (fun c2 => ?_) (fun c2 => ?_)
  · rw [if_neg c2] at hR
    refine j_aload_n C dX6_alterRow_12 13 rfl rfl 0 rfl ?_
    refine j_get C dX6_alterRow_13 16 rfl hiX6 0 rfl rfl 13 (by decide) rfl kX6_alterRow_f28 rfl ?_
    refine j_iconst (v := 3) C dX6_alterRow_16 17 rfl (by decide) ?_
    refine j_iload_n C dX6_alterRow_17 18 rfl rfl 1 rfl ?_
    refine j_imul C dX6_alterRow_18 19 rfl ?_
    refine j_iload_n C dX6_alterRow_19 20 rfl rfl 2 rfl ?_
    refine j_iadd C dX6_alterRow_20 21 rfl ?_
    refine j_iald C dX6_alterRow_21 22 rfl 7 rfl (row_in c2 hr0 hr) ((((3 : Int32) * x1) + x2)).toNatClampNeg rfl ?_
    refine j_istore C dX6_alterRow_22 24 rfl (by decide) [(4, .int (mrw ((((3 : Int32) * x1) + x2)).toNatClampNeg)), (0, .ref (a 0)), (1, .int x1), (2, .int x2), (3, .int x3)] rfl ?_
    refine j_aload_n C dX6_alterRow_24 25 rfl rfl 1 rfl ?_
    refine j_get C dX6_alterRow_25 28 rfl hiX6 0 rfl rfl 13 (by decide) rfl kX6_alterRow_f28 rfl ?_
    refine j_iconst (v := 3) C dX6_alterRow_28 29 rfl (by decide) ?_
    refine j_iload_n C dX6_alterRow_29 30 rfl rfl 2 rfl ?_
    refine j_imul C dX6_alterRow_30 31 rfl ?_
    refine j_iload_n C dX6_alterRow_31 32 rfl rfl 3 rfl ?_
    refine j_iadd C dX6_alterRow_32 33 rfl ?_
    refine j_iload_n C dX6_alterRow_33 34 rfl rfl 4 rfl ?_
    refine j_iast C dX6_alterRow_34 35 rfl 7 rfl (row_in c2 hr0 hr) ((((3 : Int32) * x1) + x2)).toNatClampNeg rfl (wM τ a ss mhd mas mbf mih mtp mtn mtk mfr mtt mvl miw mld (upd mrw ((((3 : Int32) * x1) + x2)).toNatClampNeg x3) mrn mso msz mnu mhw mhh mhm mbo mrr mak man maa mip) rfl ?_
    refine j_iload C dX6_alterRow_35 37 rfl 0 rfl ?_
    exact Rt.ret (hR) rfl dX6_alterRow_37
  · rw [if_pos c2] at hR
    refine j_bipush (v := (-9)) C dX6_alterRow_9 11 rfl (by decide) ?_
    exact Rt.ret (hR) rfl dX6_alterRow_11

-- X6_lacks
def f_X6_lacks (mso : Nat → Int32) (x1 : Int32) (x2 : Int32) : Int32 := if (0 ≤ (mso (x1).toNatClampNeg)) then (if ((mso (x1).toNatClampNeg) = x2) then (0 : Int32) else ((-13) : Int32)) else ((-11) : Int32)
theorem kX6_lacks_f31 : Cond.fieldLink RX6 31 "TwoMinutesModel" "sortOf" "[I" ∈ wsX6_lacks := by decide +kernel
theorem qd_X6_lacks : yX6_lacks.cls = RX6 ∧ yX6_lacks.cls ≠ "java/lang/invoke/MethodHandle" ∧ yX6_lacks.cls ≠ "java/lang/invoke/VarHandle" ∧ (parseMethodDescriptor yX6_lacks.desc).map (fun d => d.parameters.length) = some 2 := by decide +kernel
abbrev rmX6_lacks : Room := { frames := 0, cells := 0, slots := 0, locals := 0 }
set_option maxHeartbeats 4000000 in
set_option maxRecDepth 100000 in
theorem c_X6_lacks (τ : SX) (a : Nat → Nat) (ss : Nat → Int32) (mhd : Nat → Int32) (mas : Nat → Int32) (mbf : Nat → Int32) (mih : Int32) (mtp : Nat → Int32) (mtn : Int32) (mtk : Int32) (mfr : Int32) (mtt : Int32) (mvl : Int32) (miw : Int32) (mld : Nat → Int32) (mrw : Nat → Int32) (mrn : Int32) (mso : Nat → Int32) (msz : Nat → Int32) (mnu : Nat → Int32) (mhw : Nat → Int32) (mhh : Nat → Int32) (mhm : Nat → Int32) (mbo : Nat → Int32) (mrr : Int32) (mak : Int32) (man : Int32) (maa : Int32) (mip : Int32) (x1 : Int32) (x2 : Int32) (hv : vp_in x1 4) (sz : Nat) : McI τ yX6_lacks wsX6_lacks rmX6_lacks .int [.ref (a 0), .int x1, .int x2] (wM τ a ss mhd mas mbf mih mtp mtn mtk mfr mtt mvl miw mld mrw mrn mso msz mnu mhw mhh mhm mbo mrr mak man maa mip) (fun _ : Unit => (wM τ a ss mhd mas mbf mih mtp mtn mtk mfr mtt mvl miw mld mrw mrn mso msz mnu mhw mhh mhm mbo mrr mak man maa mip)) (f_X6_lacks mso x1 x2, ()) sz := by
  refine mc_I (cc := cX6_lacks) (own := RX6) [(0, .ref (a 0)), (1, .int x1), (2, .int x2)] rfl (by decide) rfl rfl (Nat.le_of_ble_eq_true rfl) (fun κ C hR => ?_)
  have hiX6 : ∀ w ∈ wsX60, w ∈ wsX6_lacks := fun w h => List.mem_cons_of_mem _ (List.mem_append_right _ h)
  unfold f_X6_lacks at hR
  refine j_aload_n C dX6_lacks_0 1 rfl rfl 0 rfl ?_
  refine j_get C dX6_lacks_1 4 rfl hiX6 0 rfl rfl 15 (by decide) rfl kX6_lacks_f31 rfl ?_
  refine j_iload_n C dX6_lacks_4 5 rfl rfl 1 rfl ?_
  refine j_iald C dX6_lacks_5 6 rfl 8 rfl (by first | assumption | (unfold vp_in; decide)) (x1).toNatClampNeg rfl ?_
  refine j_if_ge C dX6_lacks_6 14 rfl 9 rfl (fun c1 => ?_) (fun c1 => ?_)
  · rw [if_pos c1] at hR
    refine j_aload_n C dX6_lacks_14 15 rfl rfl 0 rfl ?_
    refine j_get C dX6_lacks_15 18 rfl hiX6 0 rfl rfl 15 (by decide) rfl kX6_lacks_f31 rfl ?_
    refine j_iload_n C dX6_lacks_18 19 rfl rfl 1 rfl ?_
    refine j_iald C dX6_lacks_19 20 rfl 8 rfl (by first | assumption | (unfold vp_in; decide)) (x1).toNatClampNeg rfl ?_
    refine j_iload_n C dX6_lacks_20 21 rfl rfl 2 rfl ?_
    refine j_icmp_eq C dX6_lacks_21 29 rfl 24 rfl (fun c2 => ?_) (fun c2 => ?_)
    · rw [if_pos c2] at hR
      refine j_iconst (v := 0) C dX6_lacks_29 30 rfl (by decide) ?_
      exact Rt.ret (hR) rfl dX6_lacks_30
    · rw [if_neg c2] at hR
      refine j_bipush (v := (-13)) C dX6_lacks_24 26 rfl (by decide) ?_
      refine j_goto C dX6_lacks_26 30 rfl ?_
      exact Rt.ret (hR) rfl dX6_lacks_30
  · rw [if_neg c1] at hR
    refine j_bipush (v := (-11)) C dX6_lacks_9 11 rfl (by decide) ?_
    refine j_goto C dX6_lacks_11 30 rfl ?_
    exact Rt.ret (hR) rfl dX6_lacks_30

-- X6_item
def f_X6_item (mso : Nat → Int32) (msz : Nat → Int32) (mnu : Nat → Int32) (x1 : Int32) (x2 : Int32) (x3 : Int32) : Int32 := if ((f_X6_isSheet x1) = 0) then ((-1) : Int32) else (if ((f_X6_isIn ((x2 : Int32).toInt64) (0 : Int64) (3 : Int64)) = 0) then ((-1) : Int32) else (if ((f_X6_lacks mso x1 x2) = 0) then (if ((f_X6_isIn ((x3 : Int32).toInt64) (0 : Int64) ((((msz (x1).toNatClampNeg) - 1) : Int32).toInt64)) = 0) then ((-12) : Int32) else (mnu ((((40 : Int32) * x1) + x3)).toNatClampNeg)) else (f_X6_lacks mso x1 x2)))
theorem kX6_item_iRX6 : Cond.initialized yX6_isIn.cls ∈ wsX6_item := by decide +kernel
theorem kX6_item_sX6_isSheet : Cond.static yX6_isSheet ∈ wsX6_item := by decide +kernel
theorem kX6_item_m238 : Cond.methodLink RX6 238 yX6_isSheet ∈ wsX6_item := by decide +kernel
theorem kX6_item_c148 : Cond.constantLong RX6 148 3 ∈ wsX6_item := by decide +kernel
theorem kX6_item_sX6_isIn : Cond.static yX6_isIn ∈ wsX6_item := by decide +kernel
theorem kX6_item_m57 : Cond.methodLink RX6 57 yX6_isIn ∈ wsX6_item := by decide +kernel
theorem kX6_item_f34 : Cond.fieldLink RX6 34 "TwoMinutesModel" "sizeOf" "[I" ∈ wsX6_item := by decide +kernel
theorem kX6_item_f37 : Cond.fieldLink RX6 37 "TwoMinutesModel" "numbers" "[I" ∈ wsX6_item := by decide +kernel
theorem qd_X6_item : yX6_item.cls = RX6 ∧ yX6_item.cls ≠ "java/lang/invoke/MethodHandle" ∧ yX6_item.cls ≠ "java/lang/invoke/VarHandle" ∧ (parseMethodDescriptor yX6_item.desc).map (fun d => d.parameters.length) = some 3 := by decide +kernel
abbrev rmX6_item : Room := { frames := 2, cells := 0, slots := 0, locals := 45 }
set_option maxHeartbeats 4000000 in
set_option maxRecDepth 100000 in
theorem c_X6_item (τ : SX) (a : Nat → Nat) (ss : Nat → Int32) (mhd : Nat → Int32) (mas : Nat → Int32) (mbf : Nat → Int32) (mih : Int32) (mtp : Nat → Int32) (mtn : Int32) (mtk : Int32) (mfr : Int32) (mtt : Int32) (mvl : Int32) (miw : Int32) (mld : Nat → Int32) (mrw : Nat → Int32) (mrn : Int32) (mso : Nat → Int32) (msz : Nat → Int32) (mnu : Nat → Int32) (mhw : Nat → Int32) (mhh : Nat → Int32) (mhm : Nat → Int32) (mbo : Nat → Int32) (mrr : Int32) (mak : Int32) (man : Int32) (maa : Int32) (mip : Int32) (x1 : Int32) (x2 : Int32) (x3 : Int32) (hsz : ∀ i : Nat, 0 ≤ (msz i).toInt ∧ (msz i).toInt ≤ 40) (sz : Nat) : McI τ yX6_item wsX6_item rmX6_item .int [.ref (a 0), .int x1, .int x2, .int x3] (wM τ a ss mhd mas mbf mih mtp mtn mtk mfr mtt mvl miw mld mrw mrn mso msz mnu mhw mhh mhm mbo mrr mak man maa mip) (fun _ : Unit => (wM τ a ss mhd mas mbf mih mtp mtn mtk mfr mtt mvl miw mld mrw mrn mso msz mnu mhw mhh mhm mbo mrr mak man maa mip)) (f_X6_item mso msz mnu x1 x2 x3, ()) sz := by
  refine mc_I (cc := cX6_item) (own := RX6) [(0, .ref (a 0)), (1, .int x1), (2, .int x2), (3, .int x3)] rfl (by decide) rfl rfl (Nat.le_of_ble_eq_true rfl) (fun κ C hR => ?_)
  have hiX6 : ∀ w ∈ wsX60, w ∈ wsX6_item := fun w h => List.mem_cons_of_mem _ (List.mem_append_right _ h)
  unfold f_X6_item at hR
  refine j_iload_n C dX6_item_0 1 rfl rfl 1 rfl ?_
  refine j_cs0I (na := 1) C dX6_item_1 4 rfl (c_X6_isSheet τ  x1 ) rfl ggX6_item_X6_isSheet rfl rfl rfl kX6_item_iRX6 kX6_item_m238 kX6_item_sX6_isSheet qd_X6_isSheet rfl ⟨by decide, by decide⟩ ⟨by decide, by decide⟩ rfl (Nat.le_of_ble_eq_true rfl) (fun r1 u1 hX1 hn1 => ?_)
  obtain rfl := (Prod.mk.inj hX1).1
  refine j_if_eq C dX6_item_4 19 rfl 7 rfl (fun c2 => ?_) (fun c2 => ?_)
  · rw [if_pos c2] at hR
    refine j_iconst (v := (-1)) C dX6_item_19 20 rfl (by decide) ?_
    exact Rt.ret (hR) rfl dX6_item_20
  · rw [if_neg c2] at hR
    refine j_iload_n C dX6_item_7 8 rfl rfl 2 rfl ?_
    refine j_i2l C dX6_item_8 9 rfl ?_
    refine j_lconst (v := 0) C dX6_item_9 10 rfl (by decide) ?_
    refine j_ldc2 C dX6_item_10 13 rfl kX6_item_c148 ?_
    refine j_cs0I (na := 3) C dX6_item_13 16 rfl (c_X6_isIn τ  ((x2 : Int32).toInt64) (0 : Int64) (3 : Int64) ) rfl ggX6_item_X6_isIn rfl rfl rfl kX6_item_iRX6 kX6_item_m57 kX6_item_sX6_isIn qd_X6_isIn rfl ⟨by decide, by decide⟩ ⟨by decide, by decide⟩ rfl (Nat.le_of_ble_eq_true rfl) (fun r3 u3 hX3 hn3 => ?_)
    obtain rfl := (Prod.mk.inj hX3).1
    refine j_if_ne C dX6_item_16 21 rfl 19 rfl (fun c4 => ?_) (fun c4 => ?_)
    · rw [if_neg c4] at hR
      refine j_aload_n C dX6_item_21 22 rfl rfl 0 rfl ?_
      refine j_iload_n C dX6_item_22 23 rfl rfl 1 rfl ?_
      refine j_iload_n C dX6_item_23 24 rfl rfl 2 rfl ?_
      refine j_cv0I (na := 2) C dX6_item_24 27 rfl (c_X6_lacks τ a ss mhd mas mbf mih mtp mtn mtk mfr mtt mvl miw mld mrw mrn mso msz mnu mhw mhh mhm mbo mrr mak man maa mip x1 x2 (in_sh6 c2)) gX6_item_X6_lacks rfl rfl rfl qd_X6_lacks rfl ⟨by decide, by decide⟩ ⟨by decide, by decide⟩ rfl (Nat.le_of_ble_eq_true rfl) rfl 6 0 rfl rfl (fun r5 u5 hX5 hn5 => ?_)
      obtain rfl := (Prod.mk.inj hX5).1
      refine j_if_eq C dX6_item_27 37 rfl 30 rfl (fun c6 => ?_) (fun c6 => ?_)
      · rw [if_pos c6] at hR
        refine j_iload_n C dX6_item_37 38 rfl rfl 3 rfl ?_
        refine j_i2l C dX6_item_38 39 rfl ?_
        refine j_lconst (v := 0) C dX6_item_39 40 rfl (by decide) ?_
        refine j_aload_n C dX6_item_40 41 rfl rfl 0 rfl ?_
        refine j_get C dX6_item_41 44 rfl hiX6 0 rfl rfl 16 (by decide) rfl kX6_item_f34 rfl ?_
        refine j_iload_n C dX6_item_44 45 rfl rfl 1 rfl ?_
        refine j_iald C dX6_item_45 46 rfl 9 rfl (in_sh6 c2) (x1).toNatClampNeg rfl ?_
        refine j_iconst (v := 1) C dX6_item_46 47 rfl (by decide) ?_
        refine j_isub C dX6_item_47 48 rfl ?_
        refine j_i2l C dX6_item_48 49 rfl ?_
        refine j_cs0I (na := 3) C dX6_item_49 52 rfl (c_X6_isIn τ  ((x3 : Int32).toInt64) (0 : Int64) ((((msz (x1).toNatClampNeg) - 1) : Int32).toInt64) ) rfl ggX6_item_X6_isIn rfl rfl rfl kX6_item_iRX6 kX6_item_m57 kX6_item_sX6_isIn qd_X6_isIn rfl ⟨by decide, by decide⟩ ⟨by decide, by decide⟩ rfl (Nat.le_of_ble_eq_true rfl) (fun r7 u7 hX7 hn7 => ?_)
        obtain rfl := (Prod.mk.inj hX7).1
        refine j_if_eq C dX6_item_52 69 rfl 55 rfl (fun c8 => ?_) (fun c8 => ?_)
        · rw [if_pos c8] at hR
          refine j_bipush (v := (-12)) C dX6_item_69 71 rfl (by decide) ?_
          exact Rt.ret (hR) rfl dX6_item_71
        · rw [if_neg c8] at hR
          refine j_aload_n C dX6_item_55 56 rfl rfl 0 rfl ?_
          refine j_get C dX6_item_56 59 rfl hiX6 0 rfl rfl 17 (by decide) rfl kX6_item_f37 rfl ?_
          refine j_bipush (v := 40) C dX6_item_59 61 rfl (by decide) ?_
          refine j_iload_n C dX6_item_61 62 rfl rfl 1 rfl ?_
          refine j_imul C dX6_item_62 63 rfl ?_
          refine j_iload_n C dX6_item_63 64 rfl rfl 3 rfl ?_
          refine j_iadd C dX6_item_64 65 rfl ?_
          refine j_iald C dX6_item_65 66 rfl 10 rfl (nu_in (in_sh6 c2) (sz40 c8 (hsz _))) ((((40 : Int32) * x1) + x3)).toNatClampNeg rfl ?_
          refine j_goto C dX6_item_66 71 rfl ?_
          exact Rt.ret (hR) rfl dX6_item_71
      · rw [if_neg c6] at hR
        refine j_aload_n C dX6_item_30 31 rfl rfl 0 rfl ?_
        refine j_iload_n C dX6_item_31 32 rfl rfl 1 rfl ?_
        refine j_iload_n C dX6_item_32 33 rfl rfl 2 rfl ?_
        refine j_cv0I (na := 2) C dX6_item_33 36 rfl (c_X6_lacks τ a ss mhd mas mbf mih mtp mtn mtk mfr mtt mvl miw mld mrw mrn mso msz mnu mhw mhh mhm mbo mrr mak man maa mip x1 x2 (in_sh6 c2)) gX6_item_X6_lacks rfl rfl rfl qd_X6_lacks rfl ⟨by decide, by decide⟩ ⟨by decide, by decide⟩ rfl (Nat.le_of_ble_eq_true rfl) rfl 6 0 rfl rfl (fun r9 u9 hX9 hn9 => ?_)
        obtain rfl := (Prod.mk.inj hX9).1
        exact Rt.ret (hR) rfl dX6_item_36
    · rw [if_pos c4] at hR
      refine j_iconst (v := (-1)) C dX6_item_19 20 rfl (by decide) ?_
      exact Rt.ret (hR) rfl dX6_item_20

-- X6_put
def f_X6_put (mso : Nat → Int32) (msz : Nat → Int32) (mnu : Nat → Int32) (x1 : Int32) (x2 : Int32) (x3 : Int32) : Int32 × (Nat → Int32) := if ((f_X6_isSheet x1) = 0) then (((-1) : Int32), mnu) else (if (0 ≤ (mso (x1).toNatClampNeg)) then (if ((f_X6_isIn ((x2 : Int32).toInt64) (0 : Int64) ((((msz (x1).toNatClampNeg) - 1) : Int32).toInt64)) = 0) then (((-12) : Int32), mnu) else (pr1 (if ((mso (x1).toNatClampNeg) = 0) then ((x3 : Int32).toInt8.toInt32) else (if ((mso (x1).toNatClampNeg) = 1) then ((x3 : Int32).toInt16.toInt32) else x3)) (fun j58_0 => ((1 : Int32), (upd mnu ((((40 : Int32) * x1) + x2)).toNatClampNeg j58_0))))) else (((-11) : Int32), mnu))
theorem kX6_put_iRX6 : Cond.initialized yX6_isIn.cls ∈ wsX6_put := by decide +kernel
theorem kX6_put_sX6_isSheet : Cond.static yX6_isSheet ∈ wsX6_put := by decide +kernel
theorem kX6_put_m238 : Cond.methodLink RX6 238 yX6_isSheet ∈ wsX6_put := by decide +kernel
theorem kX6_put_f31 : Cond.fieldLink RX6 31 "TwoMinutesModel" "sortOf" "[I" ∈ wsX6_put := by decide +kernel
theorem kX6_put_f34 : Cond.fieldLink RX6 34 "TwoMinutesModel" "sizeOf" "[I" ∈ wsX6_put := by decide +kernel
theorem kX6_put_sX6_isIn : Cond.static yX6_isIn ∈ wsX6_put := by decide +kernel
theorem kX6_put_m57 : Cond.methodLink RX6 57 yX6_isIn ∈ wsX6_put := by decide +kernel
theorem kX6_put_f37 : Cond.fieldLink RX6 37 "TwoMinutesModel" "numbers" "[I" ∈ wsX6_put := by decide +kernel
theorem qd_X6_put : yX6_put.cls = RX6 ∧ yX6_put.cls ≠ "java/lang/invoke/MethodHandle" ∧ yX6_put.cls ≠ "java/lang/invoke/VarHandle" ∧ (parseMethodDescriptor yX6_put.desc).map (fun d => d.parameters.length) = some 3 := by decide +kernel
abbrev rmX6_put : Room := { frames := 2, cells := 0, slots := 0, locals := 45 }
set_option maxHeartbeats 4000000 in
set_option maxRecDepth 100000 in
theorem c_X6_put (τ : SX) (a : Nat → Nat) (ss : Nat → Int32) (mhd : Nat → Int32) (mas : Nat → Int32) (mbf : Nat → Int32) (mih : Int32) (mtp : Nat → Int32) (mtn : Int32) (mtk : Int32) (mfr : Int32) (mtt : Int32) (mvl : Int32) (miw : Int32) (mld : Nat → Int32) (mrw : Nat → Int32) (mrn : Int32) (mso : Nat → Int32) (msz : Nat → Int32) (mnu : Nat → Int32) (mhw : Nat → Int32) (mhh : Nat → Int32) (mhm : Nat → Int32) (mbo : Nat → Int32) (mrr : Int32) (mak : Int32) (man : Int32) (maa : Int32) (mip : Int32) (x1 : Int32) (x2 : Int32) (x3 : Int32) (hsz : ∀ i : Nat, 0 ≤ (msz i).toInt ∧ (msz i).toInt ≤ 40) (sz : Nat) : McI τ yX6_put wsX6_put rmX6_put .int [.ref (a 0), .int x1, .int x2, .int x3] (wM τ a ss mhd mas mbf mih mtp mtn mtk mfr mtt mvl miw mld mrw mrn mso msz mnu mhw mhh mhm mbo mrr mak man maa mip) (fun u : (Nat → Int32) => (wM τ a ss mhd mas mbf mih mtp mtn mtk mfr mtt mvl miw mld mrw mrn mso msz u mhw mhh mhm mbo mrr mak man maa mip)) (f_X6_put mso msz mnu x1 x2 x3) sz := by
  refine mc_I (cc := cX6_put) (own := RX6) [(0, .ref (a 0)), (1, .int x1), (2, .int x2), (3, .int x3)] rfl (by decide) rfl rfl (Nat.le_of_ble_eq_true rfl) (fun κ C hR => ?_)
  have hiX6 : ∀ w ∈ wsX60, w ∈ wsX6_put := fun w h => List.mem_cons_of_mem _ (List.mem_append_right _ h)
  unfold f_X6_put at hR
  refine j_iload_n C dX6_put_0 1 rfl rfl 1 rfl ?_
  refine j_cs0I (na := 1) C dX6_put_1 4 rfl (c_X6_isSheet τ  x1 ) rfl ggX6_put_X6_isSheet rfl rfl rfl kX6_put_iRX6 kX6_put_m238 kX6_put_sX6_isSheet qd_X6_isSheet rfl ⟨by decide, by decide⟩ ⟨by decide, by decide⟩ rfl (Nat.le_of_ble_eq_true rfl) (fun r1 u1 hX1 hn1 => ?_)
  obtain rfl := (Prod.mk.inj hX1).1
  refine j_if_ne C dX6_put_4 9 rfl 7 rfl (fun c2 => ?_) (fun c2 => ?_)
  · rw [if_neg c2] at hR
    refine j_aload_n C dX6_put_9 10 rfl rfl 0 rfl ?_
    refine j_get C dX6_put_10 13 rfl hiX6 0 rfl rfl 15 (by decide) rfl kX6_put_f31 rfl ?_
    refine j_iload_n C dX6_put_13 14 rfl rfl 1 rfl ?_
    refine j_iald C dX6_put_14 15 rfl 8 rfl (in_sh6 c2) (x1).toNatClampNeg rfl ?_
    refine j_if_ge C dX6_put_15 21 rfl 18 rfl (fun c3 => ?_) (fun c3 => ?_)
    · rw [if_pos c3] at hR
      refine j_iload_n C dX6_put_21 22 rfl rfl 2 rfl ?_
      refine j_i2l C dX6_put_22 23 rfl ?_
      refine j_lconst (v := 0) C dX6_put_23 24 rfl (by decide) ?_
      refine j_aload_n C dX6_put_24 25 rfl rfl 0 rfl ?_
      refine j_get C dX6_put_25 28 rfl hiX6 0 rfl rfl 16 (by decide) rfl kX6_put_f34 rfl ?_
      refine j_iload_n C dX6_put_28 29 rfl rfl 1 rfl ?_
      refine j_iald C dX6_put_29 30 rfl 9 rfl (in_sh6 c2) (x1).toNatClampNeg rfl ?_
      refine j_iconst (v := 1) C dX6_put_30 31 rfl (by decide) ?_
      refine j_isub C dX6_put_31 32 rfl ?_
      refine j_i2l C dX6_put_32 33 rfl ?_
      refine j_cs0I (na := 3) C dX6_put_33 36 rfl (c_X6_isIn τ  ((x2 : Int32).toInt64) (0 : Int64) ((((msz (x1).toNatClampNeg) - 1) : Int32).toInt64) ) rfl ggX6_put_X6_isIn rfl rfl rfl kX6_put_iRX6 kX6_put_m57 kX6_put_sX6_isIn qd_X6_isIn rfl ⟨by decide, by decide⟩ ⟨by decide, by decide⟩ rfl (Nat.le_of_ble_eq_true rfl) (fun r4 u4 hX4 hn4 => ?_)
      obtain rfl := (Prod.mk.inj hX4).1
      refine j_if_ne C dX6_put_36 42 rfl 39 rfl (fun c5 => ?_) (fun c5 => ?_)
      · rw [if_neg c5] at hR
        refine j_aload_n C dX6_put_42 43 rfl rfl 0 rfl ?_
        refine j_get C dX6_put_43 46 rfl hiX6 0 rfl rfl 17 (by decide) rfl kX6_put_f37 rfl ?_
        refine j_bipush (v := 40) C dX6_put_46 48 rfl (by decide) ?_
        refine j_iload_n C dX6_put_48 49 rfl rfl 1 rfl ?_
        refine j_imul C dX6_put_49 50 rfl ?_
        refine j_iload_n C dX6_put_50 51 rfl rfl 2 rfl ?_
        refine j_iadd C dX6_put_51 52 rfl ?_
        refine j_aload_n C dX6_put_52 53 rfl rfl 0 rfl ?_
        refine j_get C dX6_put_53 56 rfl hiX6 0 rfl rfl 15 (by decide) rfl kX6_put_f31 rfl ?_
        refine j_iload_n C dX6_put_56 57 rfl rfl 1 rfl ?_
        refine j_iald C dX6_put_57 58 rfl 8 rfl (in_sh6 c2) (x1).toNatClampNeg rfl ?_
        have J58 : ∀ (j58_0 : Int32), Rt τ κ cX6_put .int (fun u : (Nat → Int32) => (wM τ a ss mhd mas mbf mih mtp mtn mtk mfr mtt mvl miw mld mrw mrn mso msz u mhw mhh mhm mbo mrr mak man maa mip)) (((1 : Int32), (upd mnu ((((40 : Int32) * x1) + x2)).toNatClampNeg j58_0))) → J τ κ 0 0 (wM τ a ss mhd mas mbf mih mtp mtn mtk mfr mtt mvl miw mld mrw mrn mso msz mnu mhw mhh mhm mbo mrr mak man maa mip) [(0, .ref (a 0)), (1, .int x1), (2, .int x2), (3, .int x3)] 82 [.int j58_0, .int (((40 : Int32) * x1) + x2), .ref (a 10)] := by
          intro j58_0  hR
          refine j_iast C dX6_put_82 83 rfl 10 rfl (nu_in (in_sh6 c2) (sz40 c5 (hsz _))) ((((40 : Int32) * x1) + x2)).toNatClampNeg rfl (wM τ a ss mhd mas mbf mih mtp mtn mtk mfr mtt mvl miw mld mrw mrn mso msz (upd mnu ((((40 : Int32) * x1) + x2)).toNatClampNeg j58_0) mhw mhh mhm mbo mrr mak man maa mip) rfl ?_
          refine j_iconst (v := 1) C dX6_put_83 84 rfl (by decide) ?_
          exact Rt.ret (hR) rfl dX6_put_84
        refine j_if_ne C dX6_put_58 66 rfl 61 rfl (fun c6 => ?_) (fun c6 => ?_)
        · rw [if_neg c6] at hR
          refine j_aload_n C dX6_put_66 67 rfl rfl 0 rfl ?_
          refine j_get C dX6_put_67 70 rfl hiX6 0 rfl rfl 15 (by decide) rfl kX6_put_f31 rfl ?_
          refine j_iload_n C dX6_put_70 71 rfl rfl 1 rfl ?_
          refine j_iald C dX6_put_71 72 rfl 8 rfl (in_sh6 c2) (x1).toNatClampNeg rfl ?_
          refine j_iconst (v := 1) C dX6_put_72 73 rfl (by decide) ?_
          refine j_icmp_ne C dX6_put_73 81 rfl 76 rfl (fun c7 => ?_) (fun c7 => ?_)
          · rw [if_neg c7] at hR
            refine j_iload_n C dX6_put_81 82 rfl rfl 3 rfl ?_
            rw [pr1_mk x3] at hR
            exact j_lv [0, 1, 2, 3] [(0, .ref (a 0)), (1, .int x1), (2, .int x2), (3, .int x3)] rfl (J58 _  hR)
          · rw [if_pos c7] at hR
            refine j_iload_n C dX6_put_76 77 rfl rfl 3 rfl ?_
            refine j_i2s C dX6_put_77 78 rfl ?_
            refine j_goto C dX6_put_78 82 rfl ?_
            rw [pr1_mk ((x3 : Int32).toInt16.toInt32)] at hR
            exact j_lv [0, 1, 2, 3] [(0, .ref (a 0)), (1, .int x1), (2, .int x2), (3, .int x3)] rfl (J58 _  hR)
        · rw [if_pos c6] at hR
          refine j_iload_n C dX6_put_61 62 rfl rfl 3 rfl ?_
          refine j_i2b C dX6_put_62 63 rfl ?_
          refine j_goto C dX6_put_63 82 rfl ?_
          rw [pr1_mk ((x3 : Int32).toInt8.toInt32)] at hR
          exact j_lv [0, 1, 2, 3] [(0, .ref (a 0)), (1, .int x1), (2, .int x2), (3, .int x3)] rfl (J58 _  hR)
      · rw [if_pos c5] at hR
        refine j_bipush (v := (-12)) C dX6_put_39 41 rfl (by decide) ?_
        exact Rt.ret (hR) rfl dX6_put_41
    · rw [if_neg c3] at hR
      refine j_bipush (v := (-11)) C dX6_put_18 20 rfl (by decide) ?_
      exact Rt.ret (hR) rfl dX6_put_20
  · rw [if_pos c2] at hR
    refine j_iconst (v := (-1)) C dX6_put_7 8 rfl (by decide) ?_
    exact Rt.ret (hR) rfl dX6_put_8

-- X6_heldOn
def f_X6_heldOn (ss : Nat → Int32) (mhw : Nat → Int32) (mhh : Nat → Int32) (x1 : Int32) : Int32 := if ((mhw (x1).toNatClampNeg) = 1) then (if ((f_X6_isOne ss (mhh (x1).toNatClampNeg)) = 0) then (0 : Int32) else (mhw (x1).toNatClampNeg)) else (mhw (x1).toNatClampNeg)
theorem kX6_heldOn_f40 : Cond.fieldLink RX6 40 "TwoMinutesModel" "holdsWhat" "[I" ∈ wsX6_heldOn := by decide +kernel
theorem kX6_heldOn_f43 : Cond.fieldLink RX6 43 "TwoMinutesModel" "holdsWhich" "[I" ∈ wsX6_heldOn := by decide +kernel
theorem qd_X6_heldOn : yX6_heldOn.cls = RX6 ∧ yX6_heldOn.cls ≠ "java/lang/invoke/MethodHandle" ∧ yX6_heldOn.cls ≠ "java/lang/invoke/VarHandle" ∧ (parseMethodDescriptor yX6_heldOn.desc).map (fun d => d.parameters.length) = some 1 := by decide +kernel
abbrev rmX6_heldOn : Room := { frames := 1, cells := 0, slots := 0, locals := 21 }
set_option maxHeartbeats 4000000 in
set_option maxRecDepth 100000 in
theorem c_X6_heldOn (τ : SX) (a : Nat → Nat) (ss : Nat → Int32) (mhd : Nat → Int32) (mas : Nat → Int32) (mbf : Nat → Int32) (mih : Int32) (mtp : Nat → Int32) (mtn : Int32) (mtk : Int32) (mfr : Int32) (mtt : Int32) (mvl : Int32) (miw : Int32) (mld : Nat → Int32) (mrw : Nat → Int32) (mrn : Int32) (mso : Nat → Int32) (msz : Nat → Int32) (mnu : Nat → Int32) (mhw : Nat → Int32) (mhh : Nat → Int32) (mhm : Nat → Int32) (mbo : Nat → Int32) (mrr : Int32) (mak : Int32) (man : Int32) (maa : Int32) (mip : Int32) (x1 : Int32) (hok : okS ss) (hv : vp_in x1 4) (sz : Nat) : McI τ yX6_heldOn wsX6_heldOn rmX6_heldOn .int [.ref (a 0), .int x1] (wM τ a ss mhd mas mbf mih mtp mtn mtk mfr mtt mvl miw mld mrw mrn mso msz mnu mhw mhh mhm mbo mrr mak man maa mip) (fun _ : Unit => (wM τ a ss mhd mas mbf mih mtp mtn mtk mfr mtt mvl miw mld mrw mrn mso msz mnu mhw mhh mhm mbo mrr mak man maa mip)) (f_X6_heldOn ss mhw mhh x1, ()) sz := by
  refine mc_I (cc := cX6_heldOn) (own := RX6) [(0, .ref (a 0)), (1, .int x1)] rfl (by decide) rfl rfl (Nat.le_of_ble_eq_true rfl) (fun κ C hR => ?_)
  have hiX6 : ∀ w ∈ wsX60, w ∈ wsX6_heldOn := fun w h => List.mem_cons_of_mem _ (List.mem_append_right _ h)
  unfold f_X6_heldOn at hR
  refine j_aload_n C dX6_heldOn_0 1 rfl rfl 0 rfl ?_
  refine j_get C dX6_heldOn_1 4 rfl hiX6 0 rfl rfl 18 (by decide) rfl kX6_heldOn_f40 rfl ?_
  refine j_iload_n C dX6_heldOn_4 5 rfl rfl 1 rfl ?_
  refine j_iald C dX6_heldOn_5 6 rfl 11 rfl (by first | assumption | (unfold vp_in; decide)) (x1).toNatClampNeg rfl ?_
  refine j_iconst (v := 1) C dX6_heldOn_6 7 rfl (by decide) ?_
  refine j_icmp_ne C dX6_heldOn_7 27 rfl 10 rfl (fun c1 => ?_) (fun c1 => ?_)
  · rw [if_neg c1] at hR
    refine j_aload_n C dX6_heldOn_27 28 rfl rfl 0 rfl ?_
    refine j_get C dX6_heldOn_28 31 rfl hiX6 0 rfl rfl 18 (by decide) rfl kX6_heldOn_f40 rfl ?_
    refine j_iload_n C dX6_heldOn_31 32 rfl rfl 1 rfl ?_
    refine j_iald C dX6_heldOn_32 33 rfl 11 rfl (by first | assumption | (unfold vp_in; decide)) (x1).toNatClampNeg rfl ?_
    exact Rt.ret (hR) rfl dX6_heldOn_33
  · rw [if_pos c1] at hR
    refine j_aload_n C dX6_heldOn_10 11 rfl rfl 0 rfl ?_
    refine j_aload_n C dX6_heldOn_11 12 rfl rfl 0 rfl ?_
    refine j_get C dX6_heldOn_12 15 rfl hiX6 0 rfl rfl 19 (by decide) rfl kX6_heldOn_f43 rfl ?_
    refine j_iload_n C dX6_heldOn_15 16 rfl rfl 1 rfl ?_
    refine j_iald C dX6_heldOn_16 17 rfl 12 rfl (by first | assumption | (unfold vp_in; decide)) (x1).toNatClampNeg rfl ?_
    refine j_cv0I (na := 1) C dX6_heldOn_17 20 rfl (c_X6_isOne τ a ss mhd mas mbf mih mtp mtn mtk mfr mtt mvl miw mld mrw mrn mso msz mnu mhw mhh mhm mbo mrr mak man maa mip (mhh (x1).toNatClampNeg) (by first | assumption | (unfold vp_in; decide))) gX6_heldOn_X6_isOne rfl rfl rfl qd_X6_isOne rfl ⟨by decide, by decide⟩ ⟨by decide, by decide⟩ rfl (Nat.le_of_ble_eq_true rfl) rfl 6 0 rfl rfl (fun r2 u2 hX2 hn2 => ?_)
    obtain rfl := (Prod.mk.inj hX2).1
    refine j_if_ne C dX6_heldOn_20 27 rfl 23 rfl (fun c3 => ?_) (fun c3 => ?_)
    · rw [if_neg c3] at hR
      refine j_aload_n C dX6_heldOn_27 28 rfl rfl 0 rfl ?_
      refine j_get C dX6_heldOn_28 31 rfl hiX6 0 rfl rfl 18 (by decide) rfl kX6_heldOn_f40 rfl ?_
      refine j_iload_n C dX6_heldOn_31 32 rfl rfl 1 rfl ?_
      refine j_iald C dX6_heldOn_32 33 rfl 11 rfl (by first | assumption | (unfold vp_in; decide)) (x1).toNatClampNeg rfl ?_
      exact Rt.ret (hR) rfl dX6_heldOn_33
    · rw [if_pos c3] at hR
      refine j_iconst (v := 0) C dX6_heldOn_23 24 rfl (by decide) ?_
      refine j_goto C dX6_heldOn_24 33 rfl ?_
      exact Rt.ret (hR) rfl dX6_heldOn_33

theorem held1 {ss mhw mhh : Nat → Int32} {x : Int32} (c : f_X6_heldOn ss mhw mhh x = 1) (h : okS ss) : vp_in (mhh x.toNatClampNeg) 8 := by
  unfold f_X6_heldOn at c
  by_cases c1 : mhw x.toNatClampNeg = 1
  · rw [if_pos c1] at c
    by_cases c2 : f_X6_isOne ss (mhh x.toNatClampNeg) = 0
    · rw [if_pos c2] at c; exact absurd c (by decide)
    · exact m_one c2 h
  · rw [if_neg c1] at c; exact absurd c c1

-- X6_taken
def f_X6_taken (ss : Nat → Int32) (mhw : Nat → Int32) (mhh : Nat → Int32) (mhm : Nat → Int32) (x1 : Int32) (x2 : Int32) : Int32 := if ((f_X6_isShelf x1) = 0) then ((-1) : Int32) else (if ((f_X6_isIn ((x2 : Int32).toInt64) (0 : Int64) (13 : Int64)) = 0) then ((-1) : Int32) else (if ((f_X6_isIn ((x2 : Int32).toInt64) (6 : Int64) (9 : Int64)) = 0) then (if ((f_X6_heldOn ss mhw mhh x1) = 0) then ((-11) : Int32) else (if (10 ≤ x2) then (if ((f_X6_heldOn ss mhw mhh x1) = 2) then (if ((mhh (x1).toNatClampNeg) = (x2 - 10)) then (mhm (x1).toNatClampNeg) else ((-13) : Int32)) else ((-13) : Int32)) else (if ((f_X6_heldOn ss mhw mhh x1) = 1) then (if ((f_X6_isUnder (f_X6_its ss (mhh (x1).toNatClampNeg) (0 : Int32)) x2) = 0) then ((-13) : Int32) else (mhh (x1).toNatClampNeg)) else ((-13) : Int32)))) else ((-1) : Int32)))
theorem kX6_taken_iRX6 : Cond.initialized yX6_isUnder.cls ∈ wsX6_taken := by decide +kernel
theorem kX6_taken_sX6_isShelf : Cond.static yX6_isShelf ∈ wsX6_taken := by decide +kernel
theorem kX6_taken_m270 : Cond.methodLink RX6 270 yX6_isShelf ∈ wsX6_taken := by decide +kernel
theorem kX6_taken_c273 : Cond.constantLong RX6 273 13 ∈ wsX6_taken := by decide +kernel
theorem kX6_taken_sX6_isIn : Cond.static yX6_isIn ∈ wsX6_taken := by decide +kernel
theorem kX6_taken_m57 : Cond.methodLink RX6 57 yX6_isIn ∈ wsX6_taken := by decide +kernel
theorem kX6_taken_c169 : Cond.constantLong RX6 169 6 ∈ wsX6_taken := by decide +kernel
theorem kX6_taken_c150 : Cond.constantLong RX6 150 9 ∈ wsX6_taken := by decide +kernel
theorem kX6_taken_f43 : Cond.fieldLink RX6 43 "TwoMinutesModel" "holdsWhich" "[I" ∈ wsX6_taken := by decide +kernel
theorem kX6_taken_f46 : Cond.fieldLink RX6 46 "TwoMinutesModel" "holdsMany" "[I" ∈ wsX6_taken := by decide +kernel
theorem kX6_taken_sX6_isUnder : Cond.static yX6_isUnder ∈ wsX6_taken := by decide +kernel
theorem kX6_taken_m278 : Cond.methodLink RX6 278 yX6_isUnder ∈ wsX6_taken := by decide +kernel
theorem qd_X6_taken : yX6_taken.cls = RX6 ∧ yX6_taken.cls ≠ "java/lang/invoke/MethodHandle" ∧ yX6_taken.cls ≠ "java/lang/invoke/VarHandle" ∧ (parseMethodDescriptor yX6_taken.desc).map (fun d => d.parameters.length) = some 2 := by decide +kernel
abbrev rmX6_taken : Room := { frames := 2, cells := 0, slots := 0, locals := 45 }
set_option maxHeartbeats 4000000 in
set_option maxRecDepth 100000 in
theorem c_X6_taken (τ : SX) (a : Nat → Nat) (ss : Nat → Int32) (mhd : Nat → Int32) (mas : Nat → Int32) (mbf : Nat → Int32) (mih : Int32) (mtp : Nat → Int32) (mtn : Int32) (mtk : Int32) (mfr : Int32) (mtt : Int32) (mvl : Int32) (miw : Int32) (mld : Nat → Int32) (mrw : Nat → Int32) (mrn : Int32) (mso : Nat → Int32) (msz : Nat → Int32) (mnu : Nat → Int32) (mhw : Nat → Int32) (mhh : Nat → Int32) (mhm : Nat → Int32) (mbo : Nat → Int32) (mrr : Int32) (mak : Int32) (man : Int32) (maa : Int32) (mip : Int32) (x1 : Int32) (x2 : Int32) (hok : okS ss) (sz : Nat) : McI τ yX6_taken wsX6_taken rmX6_taken .int [.ref (a 0), .int x1, .int x2] (wM τ a ss mhd mas mbf mih mtp mtn mtk mfr mtt mvl miw mld mrw mrn mso msz mnu mhw mhh mhm mbo mrr mak man maa mip) (fun _ : Unit => (wM τ a ss mhd mas mbf mih mtp mtn mtk mfr mtt mvl miw mld mrw mrn mso msz mnu mhw mhh mhm mbo mrr mak man maa mip)) (f_X6_taken ss mhw mhh mhm x1 x2, ()) sz := by
  refine mc_I (cc := cX6_taken) (own := RX6) [(0, .ref (a 0)), (1, .int x1), (2, .int x2)] rfl (by decide) rfl rfl (Nat.le_of_ble_eq_true rfl) (fun κ C hR => ?_)
  have hiX6 : ∀ w ∈ wsX60, w ∈ wsX6_taken := fun w h => List.mem_cons_of_mem _ (List.mem_append_right _ h)
  unfold f_X6_taken at hR
  refine j_iload_n C dX6_taken_0 1 rfl rfl 1 rfl ?_
  refine j_cs0I (na := 1) C dX6_taken_1 4 rfl (c_X6_isShelf τ  x1 ) rfl ggX6_taken_X6_isShelf rfl rfl rfl kX6_taken_iRX6 kX6_taken_m270 kX6_taken_sX6_isShelf qd_X6_isShelf rfl ⟨by decide, by decide⟩ ⟨by decide, by decide⟩ rfl (Nat.le_of_ble_eq_true rfl) (fun r1 u1 hX1 hn1 => ?_)
  obtain rfl := (Prod.mk.inj hX1).1
  refine j_if_eq C dX6_taken_4 33 rfl 7 rfl (fun c2 => ?_) (fun c2 => ?_)
  · rw [if_pos c2] at hR
    refine j_iconst (v := (-1)) C dX6_taken_33 34 rfl (by decide) ?_
    exact Rt.ret (hR) rfl dX6_taken_34
  · rw [if_neg c2] at hR
    refine j_iload_n C dX6_taken_7 8 rfl rfl 2 rfl ?_
    refine j_i2l C dX6_taken_8 9 rfl ?_
    refine j_lconst (v := 0) C dX6_taken_9 10 rfl (by decide) ?_
    refine j_ldc2 C dX6_taken_10 13 rfl kX6_taken_c273 ?_
    refine j_cs0I (na := 3) C dX6_taken_13 16 rfl (c_X6_isIn τ  ((x2 : Int32).toInt64) (0 : Int64) (13 : Int64) ) rfl ggX6_taken_X6_isIn rfl rfl rfl kX6_taken_iRX6 kX6_taken_m57 kX6_taken_sX6_isIn qd_X6_isIn rfl ⟨by decide, by decide⟩ ⟨by decide, by decide⟩ rfl (Nat.le_of_ble_eq_true rfl) (fun r3 u3 hX3 hn3 => ?_)
    obtain rfl := (Prod.mk.inj hX3).1
    refine j_if_eq C dX6_taken_16 33 rfl 19 rfl (fun c4 => ?_) (fun c4 => ?_)
    · rw [if_pos c4] at hR
      refine j_iconst (v := (-1)) C dX6_taken_33 34 rfl (by decide) ?_
      exact Rt.ret (hR) rfl dX6_taken_34
    · rw [if_neg c4] at hR
      refine j_iload_n C dX6_taken_19 20 rfl rfl 2 rfl ?_
      refine j_i2l C dX6_taken_20 21 rfl ?_
      refine j_ldc2 C dX6_taken_21 24 rfl kX6_taken_c169 ?_
      refine j_ldc2 C dX6_taken_24 27 rfl kX6_taken_c150 ?_
      refine j_cs0I (na := 3) C dX6_taken_27 30 rfl (c_X6_isIn τ  ((x2 : Int32).toInt64) (6 : Int64) (9 : Int64) ) rfl ggX6_taken_X6_isIn rfl rfl rfl kX6_taken_iRX6 kX6_taken_m57 kX6_taken_sX6_isIn qd_X6_isIn rfl ⟨by decide, by decide⟩ ⟨by decide, by decide⟩ rfl (Nat.le_of_ble_eq_true rfl) (fun r5 u5 hX5 hn5 => ?_)
      obtain rfl := (Prod.mk.inj hX5).1
      refine j_if_eq C dX6_taken_30 35 rfl 33 rfl (fun c6 => ?_) (fun c6 => ?_)
      · rw [if_pos c6] at hR
        refine j_aload_n C dX6_taken_35 36 rfl rfl 0 rfl ?_
        refine j_iload_n C dX6_taken_36 37 rfl rfl 1 rfl ?_
        refine j_cv0I (na := 1) C dX6_taken_37 40 rfl (c_X6_heldOn τ a ss mhd mas mbf mih mtp mtn mtk mfr mtt mvl miw mld mrw mrn mso msz mnu mhw mhh mhm mbo mrr mak man maa mip x1 hok (in_sf6 c2)) gX6_taken_X6_heldOn rfl rfl rfl qd_X6_heldOn rfl ⟨by decide, by decide⟩ ⟨by decide, by decide⟩ rfl (Nat.le_of_ble_eq_true rfl) rfl 6 0 rfl rfl (fun r7 u7 hX7 hn7 => ?_)
        obtain rfl := (Prod.mk.inj hX7).1
        refine j_istore_n C dX6_taken_40 41 rfl rfl (by decide) [(3, .int (f_X6_heldOn ss mhw mhh x1)), (0, .ref (a 0)), (1, .int x1), (2, .int x2)] rfl ?_
        refine j_iload_n C dX6_taken_41 42 rfl rfl 0 rfl ?_
        refine j_if_ne C dX6_taken_42 48 rfl 45 rfl (fun c8 => ?_) (fun c8 => ?_)
        · rw [if_neg c8] at hR
          refine j_iload_n C dX6_taken_48 49 rfl rfl 3 rfl ?_
          refine j_bipush (v := 10) C dX6_taken_49 51 rfl (by decide) ?_
          refine j_icmp_ge C dX6_taken_51 89 rfl 54 rfl (fun c9 => ?_) (fun c9 => ?_)
          · rw [if_pos c9] at hR
            refine j_iload_n C dX6_taken_89 90 rfl rfl 0 rfl ?_
            refine j_iconst (v := 2) C dX6_taken_90 91 rfl (by decide) ?_
            refine j_icmp_ne C dX6_taken_91 116 rfl 94 rfl (fun c10 => ?_) (fun c10 => ?_)
            · rw [if_neg c10] at hR
              refine j_bipush (v := (-13)) C dX6_taken_116 118 rfl (by decide) ?_
              exact Rt.ret (hR) rfl dX6_taken_118
            · rw [if_pos c10] at hR
              refine j_aload_n C dX6_taken_94 95 rfl rfl 1 rfl ?_
              refine j_get C dX6_taken_95 98 rfl hiX6 0 rfl rfl 19 (by decide) rfl kX6_taken_f43 rfl ?_
              refine j_iload_n C dX6_taken_98 99 rfl rfl 2 rfl ?_
              refine j_iald C dX6_taken_99 100 rfl 12 rfl (in_sf6 c2) (x1).toNatClampNeg rfl ?_
              refine j_iload_n C dX6_taken_100 101 rfl rfl 3 rfl ?_
              refine j_bipush (v := 10) C dX6_taken_101 103 rfl (by decide) ?_
              refine j_isub C dX6_taken_103 104 rfl ?_
              refine j_icmp_ne C dX6_taken_104 116 rfl 107 rfl (fun c11 => ?_) (fun c11 => ?_)
              · rw [if_neg c11] at hR
                refine j_bipush (v := (-13)) C dX6_taken_116 118 rfl (by decide) ?_
                exact Rt.ret (hR) rfl dX6_taken_118
              · rw [if_pos c11] at hR
                refine j_aload_n C dX6_taken_107 108 rfl rfl 1 rfl ?_
                refine j_get C dX6_taken_108 111 rfl hiX6 0 rfl rfl 20 (by decide) rfl kX6_taken_f46 rfl ?_
                refine j_iload_n C dX6_taken_111 112 rfl rfl 2 rfl ?_
                refine j_iald C dX6_taken_112 113 rfl 13 rfl (in_sf6 c2) (x1).toNatClampNeg rfl ?_
                refine j_goto C dX6_taken_113 118 rfl ?_
                exact Rt.ret (hR) rfl dX6_taken_118
          · rw [if_neg c9] at hR
            refine j_iload_n C dX6_taken_54 55 rfl rfl 0 rfl ?_
            refine j_iconst (v := 1) C dX6_taken_55 56 rfl (by decide) ?_
            refine j_icmp_ne C dX6_taken_56 86 rfl 59 rfl (fun c12 => ?_) (fun c12 => ?_)
            · rw [if_neg c12] at hR
              refine j_bipush (v := (-13)) C dX6_taken_86 88 rfl (by decide) ?_
              exact Rt.ret (hR) rfl dX6_taken_88
            · rw [if_pos c12] at hR
              refine j_aload_n C dX6_taken_59 60 rfl rfl 1 rfl ?_
              refine j_aload_n C dX6_taken_60 61 rfl rfl 1 rfl ?_
              refine j_get C dX6_taken_61 64 rfl hiX6 0 rfl rfl 19 (by decide) rfl kX6_taken_f43 rfl ?_
              refine j_iload_n C dX6_taken_64 65 rfl rfl 2 rfl ?_
              refine j_iald C dX6_taken_65 66 rfl 12 rfl (in_sf6 c2) (x1).toNatClampNeg rfl ?_
              refine j_iconst (v := 0) C dX6_taken_66 67 rfl (by decide) ?_
              refine j_cv0I (na := 2) C dX6_taken_67 70 rfl (c_X6_its τ a ss mhd mas mbf mih mtp mtn mtk mfr mtt mvl miw mld mrw mrn mso msz mnu mhw mhh mhm mbo mrr mak man maa mip (mhh (x1).toNatClampNeg) (0 : Int32) (its_in (w := 0) (held1 c12 hok) (by decide))) gX6_taken_X6_its rfl rfl rfl qd_X6_its rfl ⟨by decide, by decide⟩ ⟨by decide, by decide⟩ rfl (Nat.le_of_ble_eq_true rfl) rfl 6 0 rfl rfl (fun r13 u13 hX13 hn13 => ?_)
              obtain rfl := (Prod.mk.inj hX13).1
              refine j_iload_n C dX6_taken_70 71 rfl rfl 3 rfl ?_
              refine j_cs0I (na := 2) C dX6_taken_71 74 rfl (c_X6_isUnder τ  (f_X6_its ss (mhh (x1).toNatClampNeg) (0 : Int32)) x2 ) rfl ggX6_taken_X6_isUnder rfl rfl rfl kX6_taken_iRX6 kX6_taken_m278 kX6_taken_sX6_isUnder qd_X6_isUnder rfl ⟨by decide, by decide⟩ ⟨by decide, by decide⟩ rfl (Nat.le_of_ble_eq_true rfl) (fun r14 u14 hX14 hn14 => ?_)
              obtain rfl := (Prod.mk.inj hX14).1
              refine j_if_eq C dX6_taken_74 86 rfl 77 rfl (fun c15 => ?_) (fun c15 => ?_)
              · rw [if_pos c15] at hR
                refine j_bipush (v := (-13)) C dX6_taken_86 88 rfl (by decide) ?_
                exact Rt.ret (hR) rfl dX6_taken_88
              · rw [if_neg c15] at hR
                refine j_aload_n C dX6_taken_77 78 rfl rfl 1 rfl ?_
                refine j_get C dX6_taken_78 81 rfl hiX6 0 rfl rfl 19 (by decide) rfl kX6_taken_f43 rfl ?_
                refine j_iload_n C dX6_taken_81 82 rfl rfl 2 rfl ?_
                refine j_iald C dX6_taken_82 83 rfl 12 rfl (in_sf6 c2) (x1).toNatClampNeg rfl ?_
                refine j_goto C dX6_taken_83 88 rfl ?_
                exact Rt.ret (hR) rfl dX6_taken_88
        · rw [if_pos c8] at hR
          refine j_bipush (v := (-11)) C dX6_taken_45 47 rfl (by decide) ?_
          exact Rt.ret (hR) rfl dX6_taken_47
      · rw [if_neg c6] at hR
        refine j_iconst (v := (-1)) C dX6_taken_33 34 rfl (by decide) ?_
        exact Rt.ret (hR) rfl dX6_taken_34

-- X6_trace
def f_X6_trace (mbo : Nat → Int32) (mrr : Int32) (x1 : Int32) : Int32 := if ((f_X6_isIn ((x1 : Int32).toInt64) (0 : Int64) (((mrr - 1) : Int32).toInt64)) = 0) then ((-3) : Int32) else (mbo (x1).toNatClampNeg)
theorem kX6_trace_f281 : Cond.fieldLink RX6 281 "TwoMinutesModel" "ran" "I" ∈ wsX6_trace := by decide +kernel
theorem kX6_trace_iRX6 : Cond.initialized yX6_isIn.cls ∈ wsX6_trace := by decide +kernel
theorem kX6_trace_sX6_isIn : Cond.static yX6_isIn ∈ wsX6_trace := by decide +kernel
theorem kX6_trace_m57 : Cond.methodLink RX6 57 yX6_isIn ∈ wsX6_trace := by decide +kernel
theorem kX6_trace_f49 : Cond.fieldLink RX6 49 "TwoMinutesModel" "bodies" "[I" ∈ wsX6_trace := by decide +kernel
theorem qd_X6_trace : yX6_trace.cls = RX6 ∧ yX6_trace.cls ≠ "java/lang/invoke/MethodHandle" ∧ yX6_trace.cls ≠ "java/lang/invoke/VarHandle" ∧ (parseMethodDescriptor yX6_trace.desc).map (fun d => d.parameters.length) = some 1 := by decide +kernel
abbrev rmX6_trace : Room := { frames := 1, cells := 0, slots := 0, locals := 25 }
set_option maxHeartbeats 4000000 in
set_option maxRecDepth 100000 in
theorem c_X6_trace (τ : SX) (a : Nat → Nat) (ss : Nat → Int32) (mhd : Nat → Int32) (mas : Nat → Int32) (mbf : Nat → Int32) (mih : Int32) (mtp : Nat → Int32) (mtn : Int32) (mtk : Int32) (mfr : Int32) (mtt : Int32) (mvl : Int32) (miw : Int32) (mld : Nat → Int32) (mrw : Nat → Int32) (mrn : Int32) (mso : Nat → Int32) (msz : Nat → Int32) (mnu : Nat → Int32) (mhw : Nat → Int32) (mhh : Nat → Int32) (mhm : Nat → Int32) (mbo : Nat → Int32) (mrr : Int32) (mak : Int32) (man : Int32) (maa : Int32) (mip : Int32) (x1 : Int32) (hr0 : 0 ≤ mrr.toInt) (hr : mrr.toInt ≤ 30) (sz : Nat) : McI τ yX6_trace wsX6_trace rmX6_trace .int [.ref (a 0), .int x1] (wM τ a ss mhd mas mbf mih mtp mtn mtk mfr mtt mvl miw mld mrw mrn mso msz mnu mhw mhh mhm mbo mrr mak man maa mip) (fun _ : Unit => (wM τ a ss mhd mas mbf mih mtp mtn mtk mfr mtt mvl miw mld mrw mrn mso msz mnu mhw mhh mhm mbo mrr mak man maa mip)) (f_X6_trace mbo mrr x1, ()) sz := by
  refine mc_I (cc := cX6_trace) (own := RX6) [(0, .ref (a 0)), (1, .int x1)] rfl (by decide) rfl rfl (Nat.le_of_ble_eq_true rfl) (fun κ C hR => ?_)
  have hiX6 : ∀ w ∈ wsX60, w ∈ wsX6_trace := fun w h => List.mem_cons_of_mem _ (List.mem_append_right _ h)
  unfold f_X6_trace at hR
  refine j_iload_n C dX6_trace_0 1 rfl rfl 1 rfl ?_
  refine j_i2l C dX6_trace_1 2 rfl ?_
  refine j_lconst (v := 0) C dX6_trace_2 3 rfl (by decide) ?_
  refine j_aload_n C dX6_trace_3 4 rfl rfl 0 rfl ?_
  refine j_get C dX6_trace_4 7 rfl hiX6 0 rfl rfl 22 (by decide) rfl kX6_trace_f281 rfl ?_
  refine j_iconst (v := 1) C dX6_trace_7 8 rfl (by decide) ?_
  refine j_isub C dX6_trace_8 9 rfl ?_
  refine j_i2l C dX6_trace_9 10 rfl ?_
  refine j_cs0I (na := 3) C dX6_trace_10 13 rfl (c_X6_isIn τ  ((x1 : Int32).toInt64) (0 : Int64) (((mrr - 1) : Int32).toInt64) ) rfl ggX6_trace_X6_isIn rfl rfl rfl kX6_trace_iRX6 kX6_trace_m57 kX6_trace_sX6_isIn qd_X6_isIn rfl ⟨by decide, by decide⟩ ⟨by decide, by decide⟩ rfl (Nat.le_of_ble_eq_true rfl) (fun r1 u1 hX1 hn1 => ?_)
  obtain rfl := (Prod.mk.inj hX1).1
  refine j_if_eq C dX6_trace_13 25 rfl 16 rfl (fun c2 => ?_) (fun c2 => ?_)
  · rw [if_pos c2] at hR
    refine j_bipush (v := (-3)) C dX6_trace_25 27 rfl (by decide) ?_
    exact Rt.ret (hR) rfl dX6_trace_27
  · rw [if_neg c2] at hR
    refine j_aload_n C dX6_trace_16 17 rfl rfl 0 rfl ?_
    refine j_get C dX6_trace_17 20 rfl hiX6 0 rfl rfl 21 (by decide) rfl kX6_trace_f49 rfl ?_
    refine j_iload_n C dX6_trace_20 21 rfl rfl 1 rfl ?_
    refine j_iald C dX6_trace_21 22 rfl 14 rfl (vps6 c2 hr0 hr) (x1).toNatClampNeg rfl ?_
    refine j_goto C dX6_trace_22 27 rfl ?_
    exact Rt.ret (hR) rfl dX6_trace_27

-- X6_many
def l_X6_many_61 (ss : Nat → Int32) : Nat → Int32 → Int32 → Int32 × Int32
  | 0, x2, x3 => (x2, x3)
  | N + 1, x2, x3 => if (12 ≤ x3) then (x2, x3) else (pr1 (if ((f_X6_thoseAt ss x3) = 0) then (0 : Int32) else (1 : Int32)) (fun j73_0 => l_X6_many_61 ss N (x2 + j73_0) (x3 + 1)))
def l_X6_many_93 (ss : Nat → Int32) : Nat → Int32 → Int32 → Int32 × Int32
  | 0, x2, x3 => (x2, x3)
  | N + 1, x2, x3 => if ((ss 0) ≤ x3) then (x2, x3) else (pr1 (if ((f_X6_its ss x3 (4 : Int32)) ≤ 0) then (0 : Int32) else (1 : Int32)) (fun j110_0 => l_X6_many_93 ss N (x2 + j110_0) (x3 + 1)))
def f_X6_many (ss : Nat → Int32) (mtn : Int32) (mrn : Int32) (mrr : Int32) (x1 : Int32) : Int32 := (if x1 = 0 then (ss 0) else (if x1 = 1 then (f_X6_size (f_X6_sounding ss)) else (if x1 = 2 then (pr2 (l_X6_many_61 ss 300 (0 : Int32) (0 : Int32)) (fun x2_5 x3_5 => x2_5)) else (if x1 = 3 then (pr2 (l_X6_many_93 ss 300 (0 : Int32) (0 : Int32)) (fun x2_10 x3_10 => x2_10)) else (if x1 = 4 then mrn else (if x1 = 5 then mtn else (if x1 = 6 then mrr else ((-1) : Int32))))))))
theorem kX6_many_f7 : Cond.fieldLink RX6 7 "TwoMinutesModel" "s" "[I" ∈ wsX6_many := by decide +kernel
theorem kX6_many_iRX6 : Cond.initialized yX6_size.cls ∈ wsX6_many := by decide +kernel
theorem kX6_many_sX6_size : Cond.static yX6_size ∈ wsX6_many := by decide +kernel
theorem kX6_many_m192 : Cond.methodLink RX6 192 yX6_size ∈ wsX6_many := by decide +kernel
theorem kX6_many_f145 : Cond.fieldLink RX6 145 "TwoMinutesModel" "rowN" "I" ∈ wsX6_many := by decide +kernel
theorem kX6_many_f61 : Cond.fieldLink RX6 61 "TwoMinutesModel" "taped" "I" ∈ wsX6_many := by decide +kernel
theorem kX6_many_f281 : Cond.fieldLink RX6 281 "TwoMinutesModel" "ran" "I" ∈ wsX6_many := by decide +kernel
theorem qd_X6_many : yX6_many.cls = RX6 ∧ yX6_many.cls ≠ "java/lang/invoke/MethodHandle" ∧ yX6_many.cls ≠ "java/lang/invoke/VarHandle" ∧ (parseMethodDescriptor yX6_many.desc).map (fun d => d.parameters.length) = some 1 := by decide +kernel
abbrev rmX6_many : Room := { frames := 3, cells := 0, slots := 0, locals := 69 }
set_option maxHeartbeats 4000000 in
set_option maxRecDepth 100000 in
theorem L_X6_many_61 {τ : SX} {κ : KX} (C : Cx τ κ cX6_many RX6 wsX6_many rmX6_many 4) (a : Nat → Nat) (ss : Nat → Int32) (mhd : Nat → Int32) (mas : Nat → Int32) (mbf : Nat → Int32) (mih : Int32) (mtp : Nat → Int32) (mtn : Int32) (mtk : Int32) (mfr : Int32) (mtt : Int32) (mvl : Int32) (miw : Int32) (mld : Nat → Int32) (mrw : Nat → Int32) (mrn : Int32) (mso : Nat → Int32) (msz : Nat → Int32) (mnu : Nat → Int32) (mhw : Nat → Int32) (mhh : Nat → Int32) (mhm : Nat → Int32) (mbo : Nat → Int32) (mrr : Int32) (mak : Int32) (man : Int32) (maa : Int32) (mip : Int32) (x1 : Int32) (hok : okS ss) (Φ : Int32 × Int32 → Prop) (hE : ∀ (x2 : Int32) (x3 : Int32), Φ (x2, x3) → J τ κ 0 0 (wM τ a ss mhd mas mbf mih mtp mtn mtk mfr mtt mvl miw mld mrw mrn mso msz mnu mhw mhh mhm mbo mrr mak man maa mip) [(0, .ref (a 0)), (1, .int x1), (2, .int x2), (3, .int x3)] 89 []) : ∀ (N : Nat) (x2 : Int32) (x3 : Int32), ((12 : Int) - x3.toInt).toNat < N → (0 ≤ x3.toInt) → (x3.toInt ≤ 12) → Φ (l_X6_many_61 ss N x2 x3) → J τ κ 0 0 (wM τ a ss mhd mas mbf mih mtp mtn mtk mfr mtt mvl miw mld mrw mrn mso msz mnu mhw mhh mhm mbo mrr mak man maa mip) [(0, .ref (a 0)), (1, .int x1), (2, .int x2), (3, .int x3)] 61 [] := by
  have hiX6 : ∀ w ∈ wsX60, w ∈ wsX6_many := fun w h => List.mem_cons_of_mem _ (List.mem_append_right _ h)
  intro N
  induction N with
  | zero => intro x2 x3 hm; exact absurd hm (Nat.not_lt_zero _)
  | succ N ih =>
    intro x2 x3 hm h0 h1 hR
    rw [l_X6_many_61] at hR
    refine j_iload_n C dX6_many_61 62 rfl rfl 3 rfl ?_
    refine j_bipush (v := 12) C dX6_many_62 64 rfl (by decide) ?_
    refine j_icmp_ge C dX6_many_64 89 rfl 67 rfl (fun c6 => ?_) (fun c6 => ?_)
    · rw [if_pos c6] at hR
      exact j_lv [0, 1, 2, 3] [(0, .ref (a 0)), (1, .int x1), (2, .int x2), (3, .int x3)] rfl (hE _ _  hR)
    · rw [if_neg c6] at hR
      have hs := cnt_step (B := 12) h0 (by decide) (by decide) c6
      refine j_iload_n C dX6_many_67 68 rfl rfl 2 rfl ?_
      refine j_aload_n C dX6_many_68 69 rfl rfl 0 rfl ?_
      refine j_iload_n C dX6_many_69 70 rfl rfl 3 rfl ?_
      refine j_cv0I (na := 1) C dX6_many_70 73 rfl (c_X6_thoseAt τ a ss mhd mas mbf mih mtp mtn mtk mfr mtt mvl miw mld mrw mrn mso msz mnu mhw mhh mhm mbo mrr mak man maa mip x3 (by first | assumption | (unfold vp_in; decide))) gX6_many_X6_thoseAt rfl rfl rfl qd_X6_thoseAt rfl ⟨by decide, by decide⟩ ⟨by decide, by decide⟩ rfl (Nat.le_of_ble_eq_true rfl) rfl 6 0 rfl rfl (fun r7 u7 hX7 hn7 => ?_)
      obtain rfl := (Prod.mk.inj hX7).1
      have J73 : ∀ (j73_0 : Int32), Φ (l_X6_many_61 ss N (x2 + j73_0) (x3 + 1)) → J τ κ 0 0 (wM τ a ss mhd mas mbf mih mtp mtn mtk mfr mtt mvl miw mld mrw mrn mso msz mnu mhw mhh mhm mbo mrr mak man maa mip) [(0, .ref (a 0)), (1, .int x1), (2, .int x2), (3, .int x3)] 81 [.int j73_0, .int x2] := by
        intro j73_0  hR
        refine j_iadd C dX6_many_81 82 rfl ?_
        refine j_istore_n C dX6_many_82 83 rfl rfl (by decide) [(2, .int (x2 + j73_0)), (0, .ref (a 0)), (1, .int x1), (3, .int x3)] rfl ?_
        refine j_iinc (v := (x3 + 1)) C dX6_many_83 86 rfl 3 rfl rfl (by decide) [(3, .int (x3 + 1)), (2, .int (x2 + j73_0)), (0, .ref (a 0)), (1, .int x1)] rfl ?_
        refine j_goto C dX6_many_86 61 rfl ?_
        exact j_lv [2, 3, 1, 0] [(0, .ref (a 0)), (1, .int x1), (2, .int (x2 + j73_0)), (3, .int (x3 + 1))] rfl (ih _ _ (by have := hs.2.2.1; omega) hs.1 hs.2.1 hR)
      refine j_if_ne C dX6_many_73 80 rfl 76 rfl (fun c8 => ?_) (fun c8 => ?_)
      · rw [if_neg c8] at hR
        refine j_iconst (v := 1) C dX6_many_80 81 rfl (by decide) ?_
        rw [pr1_mk (1 : Int32)] at hR
        exact j_lv [0, 1, 2, 3] [(0, .ref (a 0)), (1, .int x1), (2, .int x2), (3, .int x3)] rfl (J73 _  hR)
      · rw [if_pos c8] at hR
        refine j_iconst (v := 0) C dX6_many_76 77 rfl (by decide) ?_
        refine j_goto C dX6_many_77 81 rfl ?_
        rw [pr1_mk (0 : Int32)] at hR
        exact j_lv [0, 1, 2, 3] [(0, .ref (a 0)), (1, .int x1), (2, .int x2), (3, .int x3)] rfl (J73 _  hR)
set_option maxHeartbeats 4000000 in
set_option maxRecDepth 100000 in
theorem L_X6_many_93 {τ : SX} {κ : KX} (C : Cx τ κ cX6_many RX6 wsX6_many rmX6_many 4) (a : Nat → Nat) (ss : Nat → Int32) (mhd : Nat → Int32) (mas : Nat → Int32) (mbf : Nat → Int32) (mih : Int32) (mtp : Nat → Int32) (mtn : Int32) (mtk : Int32) (mfr : Int32) (mtt : Int32) (mvl : Int32) (miw : Int32) (mld : Nat → Int32) (mrw : Nat → Int32) (mrn : Int32) (mso : Nat → Int32) (msz : Nat → Int32) (mnu : Nat → Int32) (mhw : Nat → Int32) (mhh : Nat → Int32) (mhm : Nat → Int32) (mbo : Nat → Int32) (mrr : Int32) (mak : Int32) (man : Int32) (maa : Int32) (mip : Int32) (x1 : Int32) (hok : okS ss) (Φ : Int32 × Int32 → Prop) (hE : ∀ (x2 : Int32) (x3 : Int32), Φ (x2, x3) → J τ κ 0 0 (wM τ a ss mhd mas mbf mih mtp mtn mtk mfr mtt mvl miw mld mrw mrn mso msz mnu mhw mhh mhm mbo mrr mak man maa mip) [(0, .ref (a 0)), (1, .int x1), (2, .int x2), (3, .int x3)] 126 []) : ∀ (N : Nat) (x2 : Int32) (x3 : Int32), ((8 : Int) - x3.toInt).toNat < N → (0 ≤ x3.toInt) → (x3.toInt ≤ 8) → Φ (l_X6_many_93 ss N x2 x3) → J τ κ 0 0 (wM τ a ss mhd mas mbf mih mtp mtn mtk mfr mtt mvl miw mld mrw mrn mso msz mnu mhw mhh mhm mbo mrr mak man maa mip) [(0, .ref (a 0)), (1, .int x1), (2, .int x2), (3, .int x3)] 93 [] := by
  have hiX6 : ∀ w ∈ wsX60, w ∈ wsX6_many := fun w h => List.mem_cons_of_mem _ (List.mem_append_right _ h)
  intro N
  induction N with
  | zero => intro x2 x3 hm; exact absurd hm (Nat.not_lt_zero _)
  | succ N ih =>
    intro x2 x3 hm h0 h1 hR
    rw [l_X6_many_93] at hR
    refine j_iload_n C dX6_many_93 94 rfl rfl 3 rfl ?_
    refine j_aload_n C dX6_many_94 95 rfl rfl 0 rfl ?_
    refine j_get C dX6_many_95 98 rfl hiX6 0 rfl rfl 0 (by decide) rfl kX6_many_f7 rfl ?_
    refine j_iconst (v := 0) C dX6_many_98 99 rfl (by decide) ?_
    refine j_iald C dX6_many_99 100 rfl 1 rfl (by unfold vp_in; decide) 0 rfl ?_
    refine j_icmp_ge C dX6_many_100 126 rfl 103 rfl (fun c11 => ?_) (fun c11 => ?_)
    · rw [if_pos c11] at hR
      exact j_lv [0, 1, 2, 3] [(0, .ref (a 0)), (1, .int x1), (2, .int x2), (3, .int x3)] rfl (hE _ _  hR)
    · rw [if_neg c11] at hR
      have hs := cnt_step (B := 8) h0 (hok.2.1) (by decide) c11
      refine j_iload_n C dX6_many_103 104 rfl rfl 2 rfl ?_
      refine j_aload_n C dX6_many_104 105 rfl rfl 0 rfl ?_
      refine j_iload_n C dX6_many_105 106 rfl rfl 3 rfl ?_
      refine j_iconst (v := 4) C dX6_many_106 107 rfl (by decide) ?_
      refine j_cv0I (na := 2) C dX6_many_107 110 rfl (c_X6_its τ a ss mhd mas mbf mih mtp mtn mtk mfr mtt mvl miw mld mrw mrn mso msz mnu mhw mhh mhm mbo mrr mak man maa mip x3 (4 : Int32) (its_in (o := x3) (w := 4) (vp_in_iff.mpr ⟨by omega, by omega⟩) (by decide))) gX6_many_X6_its rfl rfl rfl qd_X6_its rfl ⟨by decide, by decide⟩ ⟨by decide, by decide⟩ rfl (Nat.le_of_ble_eq_true rfl) rfl 6 0 rfl rfl (fun r12 u12 hX12 hn12 => ?_)
      obtain rfl := (Prod.mk.inj hX12).1
      have J110 : ∀ (j110_0 : Int32), Φ (l_X6_many_93 ss N (x2 + j110_0) (x3 + 1)) → J τ κ 0 0 (wM τ a ss mhd mas mbf mih mtp mtn mtk mfr mtt mvl miw mld mrw mrn mso msz mnu mhw mhh mhm mbo mrr mak man maa mip) [(0, .ref (a 0)), (1, .int x1), (2, .int x2), (3, .int x3)] 118 [.int j110_0, .int x2] := by
        intro j110_0  hR
        refine j_iadd C dX6_many_118 119 rfl ?_
        refine j_istore_n C dX6_many_119 120 rfl rfl (by decide) [(2, .int (x2 + j110_0)), (0, .ref (a 0)), (1, .int x1), (3, .int x3)] rfl ?_
        refine j_iinc (v := (x3 + 1)) C dX6_many_120 123 rfl 3 rfl rfl (by decide) [(3, .int (x3 + 1)), (2, .int (x2 + j110_0)), (0, .ref (a 0)), (1, .int x1)] rfl ?_
        refine j_goto C dX6_many_123 93 rfl ?_
        exact j_lv [2, 3, 1, 0] [(0, .ref (a 0)), (1, .int x1), (2, .int (x2 + j110_0)), (3, .int (x3 + 1))] rfl (ih _ _ (by have := hs.2.2.1; omega) hs.1 hs.2.1 hR)
      refine j_if_le C dX6_many_110 117 rfl 113 rfl (fun c13 => ?_) (fun c13 => ?_)
      · rw [if_pos c13] at hR
        refine j_iconst (v := 0) C dX6_many_117 118 rfl (by decide) ?_
        rw [pr1_mk (0 : Int32)] at hR
        exact j_lv [0, 1, 2, 3] [(0, .ref (a 0)), (1, .int x1), (2, .int x2), (3, .int x3)] rfl (J110 _  hR)
      · rw [if_neg c13] at hR
        refine j_iconst (v := 1) C dX6_many_113 114 rfl (by decide) ?_
        refine j_goto C dX6_many_114 118 rfl ?_
        rw [pr1_mk (1 : Int32)] at hR
        exact j_lv [0, 1, 2, 3] [(0, .ref (a 0)), (1, .int x1), (2, .int x2), (3, .int x3)] rfl (J110 _  hR)
set_option maxHeartbeats 4000000 in
set_option maxRecDepth 100000 in
theorem c_X6_many (τ : SX) (a : Nat → Nat) (ss : Nat → Int32) (mhd : Nat → Int32) (mas : Nat → Int32) (mbf : Nat → Int32) (mih : Int32) (mtp : Nat → Int32) (mtn : Int32) (mtk : Int32) (mfr : Int32) (mtt : Int32) (mvl : Int32) (miw : Int32) (mld : Nat → Int32) (mrw : Nat → Int32) (mrn : Int32) (mso : Nat → Int32) (msz : Nat → Int32) (mnu : Nat → Int32) (mhw : Nat → Int32) (mhh : Nat → Int32) (mhm : Nat → Int32) (mbo : Nat → Int32) (mrr : Int32) (mak : Int32) (man : Int32) (maa : Int32) (mip : Int32) (x1 : Int32) (hok : okS ss) (sz : Nat) : McI τ yX6_many wsX6_many rmX6_many .int [.ref (a 0), .int x1] (wM τ a ss mhd mas mbf mih mtp mtn mtk mfr mtt mvl miw mld mrw mrn mso msz mnu mhw mhh mhm mbo mrr mak man maa mip) (fun _ : Unit => (wM τ a ss mhd mas mbf mih mtp mtn mtk mfr mtt mvl miw mld mrw mrn mso msz mnu mhw mhh mhm mbo mrr mak man maa mip)) (f_X6_many ss mtn mrn mrr x1, ()) sz := by
  refine mc_I (cc := cX6_many) (own := RX6) [(0, .ref (a 0)), (1, .int x1)] rfl (by decide) rfl rfl (Nat.le_of_ble_eq_true rfl) (fun κ C hR => ?_)
  have hiX6 : ∀ w ∈ wsX60, w ∈ wsX6_many := fun w h => List.mem_cons_of_mem _ (List.mem_append_right _ h)
  unfold f_X6_many at hR
  refine j_iconst (v := 0) C dX6_many_0 1 rfl (by decide) ?_
  refine j_istore_n C dX6_many_1 2 rfl rfl (by decide) [(2, .int 0), (0, .ref (a 0)), (1, .int x1)] rfl ?_
  refine j_iload_n C dX6_many_2 3 rfl rfl 2 rfl ?_
  by_cases c1 : x1 = 0
  · rw [if_pos c1] at hR
    refine j_tabIn C dX6_many_3 (by rw [c1]; decide) (by rw [c1]; decide) (by rw [c1]; rfl) 44 rfl ?_
    refine j_aload_n C dX6_many_44 45 rfl rfl 1 rfl ?_
    refine j_get C dX6_many_45 48 rfl hiX6 0 rfl rfl 0 (by decide) rfl kX6_many_f7 rfl ?_
    refine j_iconst (v := 0) C dX6_many_48 49 rfl (by decide) ?_
    refine j_iald C dX6_many_49 50 rfl 1 rfl (by unfold vp_in; decide) 0 rfl ?_
    exact Rt.ret (hR) rfl dX6_many_50
  rw [if_neg c1] at hR
  by_cases c4 : x1 = 1
  · rw [if_pos c4] at hR
    refine j_tabIn C dX6_many_3 (by rw [c4]; decide) (by rw [c4]; decide) (by rw [c4]; rfl) 51 rfl ?_
    refine j_aload_n C dX6_many_51 52 rfl rfl 1 rfl ?_
    refine j_cv0I (na := 0) C dX6_many_52 55 rfl (c_X6_sounding τ a ss mhd mas mbf mih mtp mtn mtk mfr mtt mvl miw mld mrw mrn mso msz mnu mhw mhh mhm mbo mrr mak man maa mip (by first | assumption | (unfold vp_in; decide))) gX6_many_X6_sounding rfl rfl rfl qd_X6_sounding rfl ⟨by decide, by decide⟩ ⟨by decide, by decide⟩ rfl (Nat.le_of_ble_eq_true rfl) rfl 6 0 rfl rfl (fun r2 u2 hX2 hn2 => ?_)
    obtain rfl := (Prod.mk.inj hX2).1
    refine j_cs0I (na := 1) C dX6_many_55 58 rfl (c_X6_size τ  (f_X6_sounding ss) ) rfl ggX6_many_X6_size rfl rfl rfl kX6_many_iRX6 kX6_many_m192 kX6_many_sX6_size qd_X6_size rfl ⟨by decide, by decide⟩ ⟨by decide, by decide⟩ rfl (Nat.le_of_ble_eq_true rfl) (fun r3 u3 hX3 hn3 => ?_)
    obtain rfl := (Prod.mk.inj hX3).1
    exact Rt.ret (hR) rfl dX6_many_58
  rw [if_neg c4] at hR
  by_cases c9 : x1 = 2
  · rw [if_pos c9] at hR
    refine j_tabIn C dX6_many_3 (by rw [c9]; decide) (by rw [c9]; decide) (by rw [c9]; rfl) 59 rfl ?_
    refine j_iconst (v := 0) C dX6_many_59 60 rfl (by decide) ?_
    refine j_istore_n C dX6_many_60 61 rfl rfl (by decide) [(3, .int 0), (2, .int 0), (0, .ref (a 0)), (1, .int x1)] rfl ?_
    refine j_lv [2, 3, 1, 0] [(0, .ref (a 0)), (1, .int x1), (2, .int 0), (3, .int 0)] rfl (L_X6_many_61 C a ss mhd mas mbf mih mtp mtn mtk mfr mtt mvl miw mld mrw mrn mso msz mnu mhw mhh mhm mbo mrr mak man maa mip x1 hok (fun (o : Int32 × Int32) => Rt τ κ cX6_many .int (fun _ : Unit => (wM τ a ss mhd mas mbf mih mtp mtn mtk mfr mtt mvl miw mld mrw mrn mso msz mnu mhw mhh mhm mbo mrr mak man maa mip)) ((pr2 o (fun x2_5 x3_5 => x2_5), ()))) (fun x2_5 x3_5  hR => ?_) 300 (0 : Int32) (0 : Int32) (by decide) (by decide) (by decide) hR)
    rw [pr2_mk x2_5 x3_5] at hR
    refine j_iload_n C dX6_many_89 90 rfl rfl 2 rfl ?_
    exact Rt.ret (hR) rfl dX6_many_90
  rw [if_neg c9] at hR
  by_cases c14 : x1 = 3
  · rw [if_pos c14] at hR
    refine j_tabIn C dX6_many_3 (by rw [c14]; decide) (by rw [c14]; decide) (by rw [c14]; rfl) 91 rfl ?_
    refine j_iconst (v := 0) C dX6_many_91 92 rfl (by decide) ?_
    refine j_istore_n C dX6_many_92 93 rfl rfl (by decide) [(3, .int 0), (2, .int 0), (0, .ref (a 0)), (1, .int x1)] rfl ?_
    refine j_lv [2, 3, 1, 0] [(0, .ref (a 0)), (1, .int x1), (2, .int 0), (3, .int 0)] rfl (L_X6_many_93 C a ss mhd mas mbf mih mtp mtn mtk mfr mtt mvl miw mld mrw mrn mso msz mnu mhw mhh mhm mbo mrr mak man maa mip x1 hok (fun (o : Int32 × Int32) => Rt τ κ cX6_many .int (fun _ : Unit => (wM τ a ss mhd mas mbf mih mtp mtn mtk mfr mtt mvl miw mld mrw mrn mso msz mnu mhw mhh mhm mbo mrr mak man maa mip)) ((pr2 o (fun x2_10 x3_10 => x2_10), ()))) (fun x2_10 x3_10  hR => ?_) 300 (0 : Int32) (0 : Int32) (by decide) (by decide) (by decide) hR)
    rw [pr2_mk x2_10 x3_10] at hR
    refine j_iload_n C dX6_many_126 127 rfl rfl 2 rfl ?_
    exact Rt.ret (hR) rfl dX6_many_127
  rw [if_neg c14] at hR
  by_cases c15 : x1 = 4
  · rw [if_pos c15] at hR
    refine j_tabIn C dX6_many_3 (by rw [c15]; decide) (by rw [c15]; decide) (by rw [c15]; rfl) 128 rfl ?_
    refine j_aload_n C dX6_many_128 129 rfl rfl 1 rfl ?_
    refine j_get C dX6_many_129 132 rfl hiX6 0 rfl rfl 14 (by decide) rfl kX6_many_f145 rfl ?_
    exact Rt.ret (hR) rfl dX6_many_132
  rw [if_neg c15] at hR
  by_cases c16 : x1 = 5
  · rw [if_pos c16] at hR
    refine j_tabIn C dX6_many_3 (by rw [c16]; decide) (by rw [c16]; decide) (by rw [c16]; rfl) 133 rfl ?_
    refine j_aload_n C dX6_many_133 134 rfl rfl 1 rfl ?_
    refine j_get C dX6_many_134 137 rfl hiX6 0 rfl rfl 6 (by decide) rfl kX6_many_f61 rfl ?_
    exact Rt.ret (hR) rfl dX6_many_137
  rw [if_neg c16] at hR
  by_cases c17 : x1 = 6
  · rw [if_pos c17] at hR
    refine j_tabIn C dX6_many_3 (by rw [c17]; decide) (by rw [c17]; decide) (by rw [c17]; rfl) 138 rfl ?_
    refine j_aload_n C dX6_many_138 139 rfl rfl 1 rfl ?_
    refine j_get C dX6_many_139 142 rfl hiX6 0 rfl rfl 22 (by decide) rfl kX6_many_f281 rfl ?_
    exact Rt.ret (hR) rfl dX6_many_142
  rw [if_neg c17] at hR
  refine j_tabOut C dX6_many_3 (by have n1 := lv_neT (a := 0) c1 (by decide); have n4 := lv_neT (a := 1) c4 (by decide); have n9 := lv_neT (a := 2) c9 (by decide); have n14 := lv_neT (a := 3) c14 (by decide); have n15 := lv_neT (a := 4) c15 (by decide); have n16 := lv_neT (a := 5) c16 (by decide); have n17 := lv_neT (a := 6) c17 (by decide); omega) 143 rfl ?_
  refine j_iconst (v := (-1)) C dX6_many_143 144 rfl (by decide) ?_
  exact Rt.ret (hR) rfl dX6_many_144

-- X6_keep
def l_X6_keep_2 (ss : Nat → Int32) : Nat → Int32 → (Nat → Int32) → Int32 × (Nat → Int32)
  | 0, x1, mhd => (x1, mhd)
  | N + 1, x1, mhd => if (50 ≤ x1) then (x1, mhd) else (l_X6_keep_2 ss N (x1 + 1) (upd mhd (x1).toNatClampNeg (ss (x1).toNatClampNeg)))
def f_X6_keep (ss : Nat → Int32) (mhd : Nat → Int32) : Int32 × (Nat → Int32) × Int32 := pr2 (l_X6_keep_2 ss 300 (0 : Int32) mhd) (fun x1_1 mhd_1 => ((1 : Int32), mhd_1, (1 : Int32)))
theorem kX6_keep_f13 : Cond.fieldLink RX6 13 "TwoMinutesModel" "held" "[I" ∈ wsX6_keep := by decide +kernel
theorem kX6_keep_f7 : Cond.fieldLink RX6 7 "TwoMinutesModel" "s" "[I" ∈ wsX6_keep := by decide +kernel
theorem kX6_keep_f326 : Cond.fieldLink RX6 326 "TwoMinutesModel" "isHeld" "Z" ∈ wsX6_keep := by decide +kernel
theorem qd_X6_keep : yX6_keep.cls = RX6 ∧ yX6_keep.cls ≠ "java/lang/invoke/MethodHandle" ∧ yX6_keep.cls ≠ "java/lang/invoke/VarHandle" ∧ (parseMethodDescriptor yX6_keep.desc).map (fun d => d.parameters.length) = some 0 := by decide +kernel
abbrev rmX6_keep : Room := { frames := 0, cells := 0, slots := 0, locals := 0 }
set_option maxHeartbeats 4000000 in
set_option maxRecDepth 100000 in
theorem L_X6_keep_2 {τ : SX} {κ : KX} (C : Cx τ κ cX6_keep RX6 wsX6_keep rmX6_keep 2) (a : Nat → Nat) (ss : Nat → Int32) (mas : Nat → Int32) (mbf : Nat → Int32) (mih : Int32) (mtp : Nat → Int32) (mtn : Int32) (mtk : Int32) (mfr : Int32) (mtt : Int32) (mvl : Int32) (miw : Int32) (mld : Nat → Int32) (mrw : Nat → Int32) (mrn : Int32) (mso : Nat → Int32) (msz : Nat → Int32) (mnu : Nat → Int32) (mhw : Nat → Int32) (mhh : Nat → Int32) (mhm : Nat → Int32) (mbo : Nat → Int32) (mrr : Int32) (mak : Int32) (man : Int32) (maa : Int32) (mip : Int32) (Φ : Int32 × (Nat → Int32) → Prop) (hE : ∀ (x1 : Int32) (mhd : Nat → Int32), Φ (x1, mhd) → J τ κ 0 0 (wM τ a ss mhd mas mbf mih mtp mtn mtk mfr mtt mvl miw mld mrw mrn mso msz mnu mhw mhh mhm mbo mrr mak man maa mip) [(0, .ref (a 0)), (1, .int x1)] 26 []) : ∀ (N : Nat) (x1 : Int32) (mhd : Nat → Int32), ((50 : Int) - x1.toInt).toNat < N → (0 ≤ x1.toInt) → (x1.toInt ≤ 50) → Φ (l_X6_keep_2 ss N x1 mhd) → J τ κ 0 0 (wM τ a ss mhd mas mbf mih mtp mtn mtk mfr mtt mvl miw mld mrw mrn mso msz mnu mhw mhh mhm mbo mrr mak man maa mip) [(0, .ref (a 0)), (1, .int x1)] 2 [] := by
  have hiX6 : ∀ w ∈ wsX60, w ∈ wsX6_keep := fun w h => List.mem_cons_of_mem _ (List.mem_append_right _ h)
  intro N
  induction N with
  | zero => intro x1 mhd hm; exact absurd hm (Nat.not_lt_zero _)
  | succ N ih =>
    intro x1 mhd hm h0 h1 hR
    rw [l_X6_keep_2] at hR
    refine j_iload_n C dX6_keep_2 3 rfl rfl 1 rfl ?_
    refine j_bipush (v := 50) C dX6_keep_3 5 rfl (by decide) ?_
    refine j_icmp_ge C dX6_keep_5 26 rfl 8 rfl (fun c2 => ?_) (fun c2 => ?_)
    · rw [if_pos c2] at hR
      exact j_lv [0, 1] [(0, .ref (a 0)), (1, .int x1)] rfl (hE _ _  hR)
    · rw [if_neg c2] at hR
      have hs := cnt_step (B := 50) h0 (by decide) (by decide) c2
      refine j_aload_n C dX6_keep_8 9 rfl rfl 0 rfl ?_
      refine j_get C dX6_keep_9 12 rfl hiX6 0 rfl rfl 1 (by decide) rfl kX6_keep_f13 rfl ?_
      refine j_iload_n C dX6_keep_12 13 rfl rfl 1 rfl ?_
      refine j_aload_n C dX6_keep_13 14 rfl rfl 0 rfl ?_
      refine j_get C dX6_keep_14 17 rfl hiX6 0 rfl rfl 0 (by decide) rfl kX6_keep_f7 rfl ?_
      refine j_iload_n C dX6_keep_17 18 rfl rfl 1 rfl ?_
      refine j_iald C dX6_keep_18 19 rfl 1 rfl (by first | assumption | exact vp_in_iff.mpr ⟨by omega, by omega⟩) (x1).toNatClampNeg rfl ?_
      refine j_iast C dX6_keep_19 20 rfl 2 rfl (by first | assumption | exact vp_in_iff.mpr ⟨by omega, by omega⟩) (x1).toNatClampNeg rfl (wM τ a ss (upd mhd (x1).toNatClampNeg (ss (x1).toNatClampNeg)) mas mbf mih mtp mtn mtk mfr mtt mvl miw mld mrw mrn mso msz mnu mhw mhh mhm mbo mrr mak man maa mip) rfl ?_
      refine j_iinc (v := (x1 + 1)) C dX6_keep_20 23 rfl 1 rfl rfl (by decide) [(1, .int (x1 + 1)), (0, .ref (a 0))] rfl ?_
      refine j_goto C dX6_keep_23 2 rfl ?_
      exact j_lv [1, 0] [(0, .ref (a 0)), (1, .int (x1 + 1))] rfl (ih _ _ (by have := hs.2.2.1; omega) hs.1 hs.2.1 hR)
set_option maxHeartbeats 4000000 in
set_option maxRecDepth 100000 in
theorem c_X6_keep (τ : SX) (a : Nat → Nat) (ss : Nat → Int32) (mhd : Nat → Int32) (mas : Nat → Int32) (mbf : Nat → Int32) (mih : Int32) (mtp : Nat → Int32) (mtn : Int32) (mtk : Int32) (mfr : Int32) (mtt : Int32) (mvl : Int32) (miw : Int32) (mld : Nat → Int32) (mrw : Nat → Int32) (mrn : Int32) (mso : Nat → Int32) (msz : Nat → Int32) (mnu : Nat → Int32) (mhw : Nat → Int32) (mhh : Nat → Int32) (mhm : Nat → Int32) (mbo : Nat → Int32) (mrr : Int32) (mak : Int32) (man : Int32) (maa : Int32) (mip : Int32) (sz : Nat) : McI τ yX6_keep wsX6_keep rmX6_keep .int [.ref (a 0)] (wM τ a ss mhd mas mbf mih mtp mtn mtk mfr mtt mvl miw mld mrw mrn mso msz mnu mhw mhh mhm mbo mrr mak man maa mip) (fun u : (Nat → Int32) × Int32 => (wM τ a ss u.1 mas mbf u.2 mtp mtn mtk mfr mtt mvl miw mld mrw mrn mso msz mnu mhw mhh mhm mbo mrr mak man maa mip)) (f_X6_keep ss mhd) sz := by
  refine mc_I (cc := cX6_keep) (own := RX6) [(0, .ref (a 0))] rfl (by decide) rfl rfl (Nat.le_of_ble_eq_true rfl) (fun κ C hR => ?_)
  have hiX6 : ∀ w ∈ wsX60, w ∈ wsX6_keep := fun w h => List.mem_cons_of_mem _ (List.mem_append_right _ h)
  unfold f_X6_keep at hR
  refine j_iconst (v := 0) C dX6_keep_0 1 rfl (by decide) ?_
  refine j_istore_n C dX6_keep_1 2 rfl rfl (by decide) [(1, .int 0), (0, .ref (a 0))] rfl ?_
  refine j_lv [1, 0] [(0, .ref (a 0)), (1, .int 0)] rfl (L_X6_keep_2 C a ss mas mbf mih mtp mtn mtk mfr mtt mvl miw mld mrw mrn mso msz mnu mhw mhh mhm mbo mrr mak man maa mip   (fun (o : Int32 × (Nat → Int32)) => Rt τ κ cX6_keep .int (fun u : (Nat → Int32) × Int32 => (wM τ a ss u.1 mas mbf u.2 mtp mtn mtk mfr mtt mvl miw mld mrw mrn mso msz mnu mhw mhh mhm mbo mrr mak man maa mip)) (pr2 o (fun x1_1 mhd_1 => ((1 : Int32), mhd_1, (1 : Int32))))) (fun x1_1 mhd_1  hR => ?_) 300 (0 : Int32) mhd (by decide) (by decide) (by decide) hR)
  rw [pr2_mk x1_1 mhd_1] at hR
  refine j_aload_n C dX6_keep_26 27 rfl rfl 0 rfl ?_
  refine j_iconst (v := 1) C dX6_keep_27 28 rfl (by decide) ?_
  refine j_put C dX6_keep_28 31 rfl hiX6 tyX6_ok nmX6 0 rfl rfl 4 (by decide) rfl kX6_keep_f326 rfl rfl rfl (Nat.le_of_ble_eq_true rfl) (wM τ a ss mhd_1 mas mbf 1 mtp mtn mtk mfr mtt mvl miw mld mrw mrn mso msz mnu mhw mhh mhm mbo mrr mak man maa mip) rfl ?_
  refine j_iconst (v := 1) C dX6_keep_31 32 rfl (by decide) ?_
  exact Rt.ret (hR) rfl dX6_keep_32

-- X6_again
def l_X6_again_12 (mhd : Nat → Int32) : Nat → Int32 → (Nat → Int32) → Int32 × (Nat → Int32)
  | 0, x1, ss => (x1, ss)
  | N + 1, x1, ss => if (50 ≤ x1) then (x1, ss) else (l_X6_again_12 mhd N (x1 + 1) (upd ss (x1).toNatClampNeg (mhd (x1).toNatClampNeg)))
def f_X6_again (ss : Nat → Int32) (mhd : Nat → Int32) (mih : Int32) : Int32 × (Nat → Int32) := if (mih = 0) then (((-3) : Int32), ss) else (pr2 (l_X6_again_12 mhd 300 (0 : Int32) ss) (fun x1_2 ss_2 => ((ss_2 0), ss_2)))
theorem kX6_again_f326 : Cond.fieldLink RX6 326 "TwoMinutesModel" "isHeld" "Z" ∈ wsX6_again := by decide +kernel
theorem kX6_again_f7 : Cond.fieldLink RX6 7 "TwoMinutesModel" "s" "[I" ∈ wsX6_again := by decide +kernel
theorem kX6_again_f13 : Cond.fieldLink RX6 13 "TwoMinutesModel" "held" "[I" ∈ wsX6_again := by decide +kernel
theorem qd_X6_again : yX6_again.cls = RX6 ∧ yX6_again.cls ≠ "java/lang/invoke/MethodHandle" ∧ yX6_again.cls ≠ "java/lang/invoke/VarHandle" ∧ (parseMethodDescriptor yX6_again.desc).map (fun d => d.parameters.length) = some 0 := by decide +kernel
abbrev rmX6_again : Room := { frames := 0, cells := 0, slots := 0, locals := 0 }
set_option maxHeartbeats 4000000 in
set_option maxRecDepth 100000 in
theorem L_X6_again_12 {τ : SX} {κ : KX} (C : Cx τ κ cX6_again RX6 wsX6_again rmX6_again 2) (a : Nat → Nat) (mhd : Nat → Int32) (mas : Nat → Int32) (mbf : Nat → Int32) (mih : Int32) (mtp : Nat → Int32) (mtn : Int32) (mtk : Int32) (mfr : Int32) (mtt : Int32) (mvl : Int32) (miw : Int32) (mld : Nat → Int32) (mrw : Nat → Int32) (mrn : Int32) (mso : Nat → Int32) (msz : Nat → Int32) (mnu : Nat → Int32) (mhw : Nat → Int32) (mhh : Nat → Int32) (mhm : Nat → Int32) (mbo : Nat → Int32) (mrr : Int32) (mak : Int32) (man : Int32) (maa : Int32) (mip : Int32) (Φ : Int32 × (Nat → Int32) → Prop) (hE : ∀ (x1 : Int32) (ss : Nat → Int32), Φ (x1, ss) → J τ κ 0 0 (wM τ a ss mhd mas mbf mih mtp mtn mtk mfr mtt mvl miw mld mrw mrn mso msz mnu mhw mhh mhm mbo mrr mak man maa mip) [(0, .ref (a 0)), (1, .int x1)] 36 []) : ∀ (N : Nat) (x1 : Int32) (ss : Nat → Int32), ((50 : Int) - x1.toInt).toNat < N → (0 ≤ x1.toInt) → (x1.toInt ≤ 50) → Φ (l_X6_again_12 mhd N x1 ss) → J τ κ 0 0 (wM τ a ss mhd mas mbf mih mtp mtn mtk mfr mtt mvl miw mld mrw mrn mso msz mnu mhw mhh mhm mbo mrr mak man maa mip) [(0, .ref (a 0)), (1, .int x1)] 12 [] := by
  have hiX6 : ∀ w ∈ wsX60, w ∈ wsX6_again := fun w h => List.mem_cons_of_mem _ (List.mem_append_right _ h)
  intro N
  induction N with
  | zero => intro x1 ss hm; exact absurd hm (Nat.not_lt_zero _)
  | succ N ih =>
    intro x1 ss hm h0 h1 hR
    rw [l_X6_again_12] at hR
    refine j_iload_n C dX6_again_12 13 rfl rfl 1 rfl ?_
    refine j_bipush (v := 50) C dX6_again_13 15 rfl (by decide) ?_
    refine j_icmp_ge C dX6_again_15 36 rfl 18 rfl (fun c3 => ?_) (fun c3 => ?_)
    · rw [if_pos c3] at hR
      exact j_lv [0, 1] [(0, .ref (a 0)), (1, .int x1)] rfl (hE _ _  hR)
    · rw [if_neg c3] at hR
      have hs := cnt_step (B := 50) h0 (by decide) (by decide) c3
      refine j_aload_n C dX6_again_18 19 rfl rfl 0 rfl ?_
      refine j_get C dX6_again_19 22 rfl hiX6 0 rfl rfl 0 (by decide) rfl kX6_again_f7 rfl ?_
      refine j_iload_n C dX6_again_22 23 rfl rfl 1 rfl ?_
      refine j_aload_n C dX6_again_23 24 rfl rfl 0 rfl ?_
      refine j_get C dX6_again_24 27 rfl hiX6 0 rfl rfl 1 (by decide) rfl kX6_again_f13 rfl ?_
      refine j_iload_n C dX6_again_27 28 rfl rfl 1 rfl ?_
      refine j_iald C dX6_again_28 29 rfl 2 rfl (by first | assumption | exact vp_in_iff.mpr ⟨by omega, by omega⟩) (x1).toNatClampNeg rfl ?_
      refine j_iast C dX6_again_29 30 rfl 1 rfl (by first | assumption | exact vp_in_iff.mpr ⟨by omega, by omega⟩) (x1).toNatClampNeg rfl (wM τ a (upd ss (x1).toNatClampNeg (mhd (x1).toNatClampNeg)) mhd mas mbf mih mtp mtn mtk mfr mtt mvl miw mld mrw mrn mso msz mnu mhw mhh mhm mbo mrr mak man maa mip) rfl ?_
      refine j_iinc (v := (x1 + 1)) C dX6_again_30 33 rfl 1 rfl rfl (by decide) [(1, .int (x1 + 1)), (0, .ref (a 0))] rfl ?_
      refine j_goto C dX6_again_33 12 rfl ?_
      exact j_lv [1, 0] [(0, .ref (a 0)), (1, .int (x1 + 1))] rfl (ih _ _ (by have := hs.2.2.1; omega) hs.1 hs.2.1 hR)
set_option maxHeartbeats 4000000 in
set_option maxRecDepth 100000 in
theorem c_X6_again (τ : SX) (a : Nat → Nat) (ss : Nat → Int32) (mhd : Nat → Int32) (mas : Nat → Int32) (mbf : Nat → Int32) (mih : Int32) (mtp : Nat → Int32) (mtn : Int32) (mtk : Int32) (mfr : Int32) (mtt : Int32) (mvl : Int32) (miw : Int32) (mld : Nat → Int32) (mrw : Nat → Int32) (mrn : Int32) (mso : Nat → Int32) (msz : Nat → Int32) (mnu : Nat → Int32) (mhw : Nat → Int32) (mhh : Nat → Int32) (mhm : Nat → Int32) (mbo : Nat → Int32) (mrr : Int32) (mak : Int32) (man : Int32) (maa : Int32) (mip : Int32) (sz : Nat) : McI τ yX6_again wsX6_again rmX6_again .int [.ref (a 0)] (wM τ a ss mhd mas mbf mih mtp mtn mtk mfr mtt mvl miw mld mrw mrn mso msz mnu mhw mhh mhm mbo mrr mak man maa mip) (fun u : (Nat → Int32) => (wM τ a u mhd mas mbf mih mtp mtn mtk mfr mtt mvl miw mld mrw mrn mso msz mnu mhw mhh mhm mbo mrr mak man maa mip)) (f_X6_again ss mhd mih) sz := by
  refine mc_I (cc := cX6_again) (own := RX6) [(0, .ref (a 0))] rfl (by decide) rfl rfl (Nat.le_of_ble_eq_true rfl) (fun κ C hR => ?_)
  have hiX6 : ∀ w ∈ wsX60, w ∈ wsX6_again := fun w h => List.mem_cons_of_mem _ (List.mem_append_right _ h)
  unfold f_X6_again at hR
  refine j_aload_n C dX6_again_0 1 rfl rfl 0 rfl ?_
  refine j_get C dX6_again_1 4 rfl hiX6 0 rfl rfl 4 (by decide) rfl kX6_again_f326 rfl ?_
  refine j_if_ne C dX6_again_4 10 rfl 7 rfl (fun c1 => ?_) (fun c1 => ?_)
  · rw [if_neg c1] at hR
    refine j_iconst (v := 0) C dX6_again_10 11 rfl (by decide) ?_
    refine j_istore_n C dX6_again_11 12 rfl rfl (by decide) [(1, .int 0), (0, .ref (a 0))] rfl ?_
    refine j_lv [1, 0] [(0, .ref (a 0)), (1, .int 0)] rfl (L_X6_again_12 C a mhd mas mbf mih mtp mtn mtk mfr mtt mvl miw mld mrw mrn mso msz mnu mhw mhh mhm mbo mrr mak man maa mip   (fun (o : Int32 × (Nat → Int32)) => Rt τ κ cX6_again .int (fun u : (Nat → Int32) => (wM τ a u mhd mas mbf mih mtp mtn mtk mfr mtt mvl miw mld mrw mrn mso msz mnu mhw mhh mhm mbo mrr mak man maa mip)) (pr2 o (fun x1_2 ss_2 => ((ss_2 0), ss_2)))) (fun x1_2 ss_2  hR => ?_) 300 (0 : Int32) ss (by decide) (by decide) (by decide) hR)
    rw [pr2_mk x1_2 ss_2] at hR
    refine j_aload_n C dX6_again_36 37 rfl rfl 0 rfl ?_
    refine j_get C dX6_again_37 40 rfl hiX6 0 rfl rfl 0 (by decide) rfl kX6_again_f7 rfl ?_
    refine j_iconst (v := 0) C dX6_again_40 41 rfl (by decide) ?_
    refine j_iald C dX6_again_41 42 rfl 1 rfl (by unfold vp_in; decide) 0 rfl ?_
    exact Rt.ret (hR) rfl dX6_again_42
  · rw [if_pos c1] at hR
    refine j_bipush (v := (-3)) C dX6_again_7 9 rfl (by decide) ?_
    exact Rt.ret (hR) rfl dX6_again_9

-- X6_comes
def f_X6_comes (ss : Nat → Int32) (x1 : Int32) (x2 : Int32) (x3 : Int32) (x4 : Int32) : (Nat → Int32) := ((upd (upd (upd (upd (upd (upd ss (((10 : Int32) + ((5 : Int32) * (ss 0)))).toNatClampNeg x1) ((((10 : Int32) + ((5 : Int32) * (ss 0))) + 1)).toNatClampNeg x2) ((((10 : Int32) + ((5 : Int32) * (ss 0))) + 2)).toNatClampNeg x3) ((((10 : Int32) + ((5 : Int32) * (ss 0))) + 3)).toNatClampNeg x4) ((((10 : Int32) + ((5 : Int32) * (ss 0))) + 4)).toNatClampNeg 0) 0 (((upd (upd (upd (upd (upd ss (((10 : Int32) + ((5 : Int32) * (ss 0)))).toNatClampNeg x1) ((((10 : Int32) + ((5 : Int32) * (ss 0))) + 1)).toNatClampNeg x2) ((((10 : Int32) + ((5 : Int32) * (ss 0))) + 2)).toNatClampNeg x3) ((((10 : Int32) + ((5 : Int32) * (ss 0))) + 3)).toNatClampNeg x4) ((((10 : Int32) + ((5 : Int32) * (ss 0))) + 4)).toNatClampNeg 0) 0) + 1)))
theorem kX6_comes_f7 : Cond.fieldLink RX6 7 "TwoMinutesModel" "s" "[I" ∈ wsX6_comes := by decide +kernel
theorem qd_X6_comes : yX6_comes.cls = RX6 ∧ yX6_comes.cls ≠ "java/lang/invoke/MethodHandle" ∧ yX6_comes.cls ≠ "java/lang/invoke/VarHandle" ∧ (parseMethodDescriptor yX6_comes.desc).map (fun d => d.parameters.length) = some 4 := by decide +kernel
abbrev rmX6_comes : Room := { frames := 0, cells := 0, slots := 0, locals := 0 }
set_option maxHeartbeats 4000000 in
set_option maxRecDepth 100000 in
theorem c_X6_comes (τ : SX) (a : Nat → Nat) (ss : Nat → Int32) (mhd : Nat → Int32) (mas : Nat → Int32) (mbf : Nat → Int32) (mih : Int32) (mtp : Nat → Int32) (mtn : Int32) (mtk : Int32) (mfr : Int32) (mtt : Int32) (mvl : Int32) (miw : Int32) (mld : Nat → Int32) (mrw : Nat → Int32) (mrn : Int32) (mso : Nat → Int32) (msz : Nat → Int32) (mnu : Nat → Int32) (mhw : Nat → Int32) (mhh : Nat → Int32) (mhm : Nat → Int32) (mbo : Nat → Int32) (mrr : Int32) (mak : Int32) (man : Int32) (maa : Int32) (mip : Int32) (x1 : Int32) (x2 : Int32) (x3 : Int32) (x4 : Int32) (hok : okS ss) (hlt : (ss 0).toInt < 8) (sz : Nat) : McV τ yX6_comes wsX6_comes rmX6_comes [.ref (a 0), .int x1, .int x2, .int x3, .int x4] (wM τ a ss mhd mas mbf mih mtp mtn mtk mfr mtt mvl miw mld mrw mrn mso msz mnu mhw mhh mhm mbo mrr mak man maa mip) (fun u : (Nat → Int32) => (wM τ a u mhd mas mbf mih mtp mtn mtk mfr mtt mvl miw mld mrw mrn mso msz mnu mhw mhh mhm mbo mrr mak man maa mip)) (f_X6_comes ss x1 x2 x3 x4) 0 0 sz := by
  refine mc_V (cc := cX6_comes) (own := RX6) [(0, .ref (a 0)), (1, .int x1), (2, .int x2), (3, .int x3), (4, .int x4)] rfl (by decide) rfl rfl (Nat.le_of_ble_eq_true rfl) (fun κ C _ hR => ?_)
  have hiX6 : ∀ w ∈ wsX60, w ∈ wsX6_comes := fun w h => List.mem_cons_of_mem _ (List.mem_append_right _ h)
  unfold f_X6_comes at hR
  refine j_bipush (v := 10) C dX6_comes_0 2 rfl (by decide) ?_
  refine j_iconst (v := 5) C dX6_comes_2 3 rfl (by decide) ?_
  refine j_aload_n C dX6_comes_3 4 rfl rfl 0 rfl ?_
  refine j_get C dX6_comes_4 7 rfl hiX6 0 rfl rfl 0 (by decide) rfl kX6_comes_f7 rfl ?_
  refine j_iconst (v := 0) C dX6_comes_7 8 rfl (by decide) ?_
  refine j_iald C dX6_comes_8 9 rfl 1 rfl (by unfold vp_in; decide) 0 rfl ?_
  refine j_imul C dX6_comes_9 10 rfl ?_
  refine j_iadd C dX6_comes_10 11 rfl ?_
  refine j_istore C dX6_comes_11 13 rfl (by decide) [(5, .int ((10 : Int32) + ((5 : Int32) * (ss 0)))), (0, .ref (a 0)), (1, .int x1), (2, .int x2), (3, .int x3), (4, .int x4)] rfl ?_
  refine j_aload_n C dX6_comes_13 14 rfl rfl 1 rfl ?_
  refine j_get C dX6_comes_14 17 rfl hiX6 0 rfl rfl 0 (by decide) rfl kX6_comes_f7 rfl ?_
  refine j_iload C dX6_comes_17 19 rfl 0 rfl ?_
  refine j_iload_n C dX6_comes_19 20 rfl rfl 2 rfl ?_
  refine j_iast C dX6_comes_20 21 rfl 1 rfl (its_in0 (n_in hok hlt)) (((10 : Int32) + ((5 : Int32) * (ss 0)))).toNatClampNeg rfl (wM τ a (upd ss (((10 : Int32) + ((5 : Int32) * (ss 0)))).toNatClampNeg x1) mhd mas mbf mih mtp mtn mtk mfr mtt mvl miw mld mrw mrn mso msz mnu mhw mhh mhm mbo mrr mak man maa mip) rfl ?_
  refine j_aload_n C dX6_comes_21 22 rfl rfl 1 rfl ?_
  refine j_get C dX6_comes_22 25 rfl hiX6 0 rfl rfl 0 (by decide) rfl kX6_comes_f7 rfl ?_
  refine j_iload C dX6_comes_25 27 rfl 0 rfl ?_
  refine j_iconst (v := 1) C dX6_comes_27 28 rfl (by decide) ?_
  refine j_iadd C dX6_comes_28 29 rfl ?_
  refine j_iload_n C dX6_comes_29 30 rfl rfl 3 rfl ?_
  refine j_iast C dX6_comes_30 31 rfl 1 rfl (its_in (w := 1) (n_in hok hlt) (by decide)) ((((10 : Int32) + ((5 : Int32) * (ss 0))) + 1)).toNatClampNeg rfl (wM τ a (upd (upd ss (((10 : Int32) + ((5 : Int32) * (ss 0)))).toNatClampNeg x1) ((((10 : Int32) + ((5 : Int32) * (ss 0))) + 1)).toNatClampNeg x2) mhd mas mbf mih mtp mtn mtk mfr mtt mvl miw mld mrw mrn mso msz mnu mhw mhh mhm mbo mrr mak man maa mip) rfl ?_
  refine j_aload_n C dX6_comes_31 32 rfl rfl 1 rfl ?_
  refine j_get C dX6_comes_32 35 rfl hiX6 0 rfl rfl 0 (by decide) rfl kX6_comes_f7 rfl ?_
  refine j_iload C dX6_comes_35 37 rfl 0 rfl ?_
  refine j_iconst (v := 2) C dX6_comes_37 38 rfl (by decide) ?_
  refine j_iadd C dX6_comes_38 39 rfl ?_
  refine j_iload_n C dX6_comes_39 40 rfl rfl 4 rfl ?_
  refine j_iast C dX6_comes_40 41 rfl 1 rfl (its_in (w := 2) (n_in hok hlt) (by decide)) ((((10 : Int32) + ((5 : Int32) * (ss 0))) + 2)).toNatClampNeg rfl (wM τ a (upd (upd (upd ss (((10 : Int32) + ((5 : Int32) * (ss 0)))).toNatClampNeg x1) ((((10 : Int32) + ((5 : Int32) * (ss 0))) + 1)).toNatClampNeg x2) ((((10 : Int32) + ((5 : Int32) * (ss 0))) + 2)).toNatClampNeg x3) mhd mas mbf mih mtp mtn mtk mfr mtt mvl miw mld mrw mrn mso msz mnu mhw mhh mhm mbo mrr mak man maa mip) rfl ?_
  refine j_aload_n C dX6_comes_41 42 rfl rfl 1 rfl ?_
  refine j_get C dX6_comes_42 45 rfl hiX6 0 rfl rfl 0 (by decide) rfl kX6_comes_f7 rfl ?_
  refine j_iload C dX6_comes_45 47 rfl 0 rfl ?_
  refine j_iconst (v := 3) C dX6_comes_47 48 rfl (by decide) ?_
  refine j_iadd C dX6_comes_48 49 rfl ?_
  refine j_iload C dX6_comes_49 51 rfl 5 rfl ?_
  refine j_iast C dX6_comes_51 52 rfl 1 rfl (its_in (w := 3) (n_in hok hlt) (by decide)) ((((10 : Int32) + ((5 : Int32) * (ss 0))) + 3)).toNatClampNeg rfl (wM τ a (upd (upd (upd (upd ss (((10 : Int32) + ((5 : Int32) * (ss 0)))).toNatClampNeg x1) ((((10 : Int32) + ((5 : Int32) * (ss 0))) + 1)).toNatClampNeg x2) ((((10 : Int32) + ((5 : Int32) * (ss 0))) + 2)).toNatClampNeg x3) ((((10 : Int32) + ((5 : Int32) * (ss 0))) + 3)).toNatClampNeg x4) mhd mas mbf mih mtp mtn mtk mfr mtt mvl miw mld mrw mrn mso msz mnu mhw mhh mhm mbo mrr mak man maa mip) rfl ?_
  refine j_aload_n C dX6_comes_52 53 rfl rfl 1 rfl ?_
  refine j_get C dX6_comes_53 56 rfl hiX6 0 rfl rfl 0 (by decide) rfl kX6_comes_f7 rfl ?_
  refine j_iload C dX6_comes_56 58 rfl 0 rfl ?_
  refine j_iconst (v := 4) C dX6_comes_58 59 rfl (by decide) ?_
  refine j_iadd C dX6_comes_59 60 rfl ?_
  refine j_iconst (v := 0) C dX6_comes_60 61 rfl (by decide) ?_
  refine j_iast C dX6_comes_61 62 rfl 1 rfl (its_in (w := 4) (n_in hok hlt) (by decide)) ((((10 : Int32) + ((5 : Int32) * (ss 0))) + 4)).toNatClampNeg rfl (wM τ a (upd (upd (upd (upd (upd ss (((10 : Int32) + ((5 : Int32) * (ss 0)))).toNatClampNeg x1) ((((10 : Int32) + ((5 : Int32) * (ss 0))) + 1)).toNatClampNeg x2) ((((10 : Int32) + ((5 : Int32) * (ss 0))) + 2)).toNatClampNeg x3) ((((10 : Int32) + ((5 : Int32) * (ss 0))) + 3)).toNatClampNeg x4) ((((10 : Int32) + ((5 : Int32) * (ss 0))) + 4)).toNatClampNeg 0) mhd mas mbf mih mtp mtn mtk mfr mtt mvl miw mld mrw mrn mso msz mnu mhw mhh mhm mbo mrr mak man maa mip) rfl ?_
  refine j_aload_n C dX6_comes_62 63 rfl rfl 1 rfl ?_
  refine j_get C dX6_comes_63 66 rfl hiX6 0 rfl rfl 0 (by decide) rfl kX6_comes_f7 rfl ?_
  refine j_iconst (v := 0) C dX6_comes_66 67 rfl (by decide) ?_
  refine j_dup2 C dX6_comes_67 68 rfl rfl rfl ?_
  refine j_iald C dX6_comes_68 69 rfl 1 rfl (by unfold vp_in; decide) 0 rfl ?_
  refine j_iconst (v := 1) C dX6_comes_69 70 rfl (by decide) ?_
  refine j_iadd C dX6_comes_70 71 rfl ?_
  refine j_iast C dX6_comes_71 72 rfl 1 rfl (by unfold vp_in; decide) 0 rfl (wM τ a (upd (upd (upd (upd (upd (upd ss (((10 : Int32) + ((5 : Int32) * (ss 0)))).toNatClampNeg x1) ((((10 : Int32) + ((5 : Int32) * (ss 0))) + 1)).toNatClampNeg x2) ((((10 : Int32) + ((5 : Int32) * (ss 0))) + 2)).toNatClampNeg x3) ((((10 : Int32) + ((5 : Int32) * (ss 0))) + 3)).toNatClampNeg x4) ((((10 : Int32) + ((5 : Int32) * (ss 0))) + 4)).toNatClampNeg 0) 0 (((upd (upd (upd (upd (upd ss (((10 : Int32) + ((5 : Int32) * (ss 0)))).toNatClampNeg x1) ((((10 : Int32) + ((5 : Int32) * (ss 0))) + 1)).toNatClampNeg x2) ((((10 : Int32) + ((5 : Int32) * (ss 0))) + 2)).toNatClampNeg x3) ((((10 : Int32) + ((5 : Int32) * (ss 0))) + 3)).toNatClampNeg x4) ((((10 : Int32) + ((5 : Int32) * (ss 0))) + 4)).toNatClampNeg 0) 0) + 1)) mhd mas mbf mih mtp mtn mtk mfr mtt mvl miw mld mrw mrn mso msz mnu mhw mhh mhm mbo mrr mak man maa mip) rfl ?_
  exact hR _ _ dX6_comes_72

-- X6_person
def f_X6_person (ss : Nat → Int32) (x1 : Int32) (x2 : Int32) (x3 : Int32) (x4 : Int32) : Int32 × (Nat → Int32) := if ((f_X6_isIn ((x1 : Int32).toInt64) (0 : Int64) (5 : Int64)) = 0) then (((-1) : Int32), ss) else (if ((f_X6_isIn ((x2 : Int32).toInt64) (1 : Int64) (9 : Int64)) = 0) then (((-1) : Int32), ss) else (if ((f_X6_isIn ((x3 : Int32).toInt64) (0 : Int64) (8 : Int64)) = 0) then (((-1) : Int32), ss) else (if ((f_X6_isCorner x4) = 0) then (((-1) : Int32), ss) else (if ((ss 0) = 8) then (((-2) : Int32), ss) else (pr1 (f_X6_comes ss x1 x2 x3 x4) (fun ss_10 => (((ss_10 0) - 1), ss_10)))))))
theorem kX6_person_c158 : Cond.constantLong RX6 158 5 ∈ wsX6_person := by decide +kernel
theorem kX6_person_iRX6 : Cond.initialized yX6_isCorner.cls ∈ wsX6_person := by decide +kernel
theorem kX6_person_sX6_isIn : Cond.static yX6_isIn ∈ wsX6_person := by decide +kernel
theorem kX6_person_m57 : Cond.methodLink RX6 57 yX6_isIn ∈ wsX6_person := by decide +kernel
theorem kX6_person_c150 : Cond.constantLong RX6 150 9 ∈ wsX6_person := by decide +kernel
theorem kX6_person_c55 : Cond.constantLong RX6 55 8 ∈ wsX6_person := by decide +kernel
theorem kX6_person_sX6_isCorner : Cond.static yX6_isCorner ∈ wsX6_person := by decide +kernel
theorem kX6_person_m160 : Cond.methodLink RX6 160 yX6_isCorner ∈ wsX6_person := by decide +kernel
theorem kX6_person_f7 : Cond.fieldLink RX6 7 "TwoMinutesModel" "s" "[I" ∈ wsX6_person := by decide +kernel
theorem qd_X6_person : yX6_person.cls = RX6 ∧ yX6_person.cls ≠ "java/lang/invoke/MethodHandle" ∧ yX6_person.cls ≠ "java/lang/invoke/VarHandle" ∧ (parseMethodDescriptor yX6_person.desc).map (fun d => d.parameters.length) = some 4 := by decide +kernel
abbrev rmX6_person : Room := { frames := 1, cells := 0, slots := 0, locals := 25 }
set_option maxHeartbeats 4000000 in
set_option maxRecDepth 100000 in
theorem c_X6_person (τ : SX) (a : Nat → Nat) (ss : Nat → Int32) (mhd : Nat → Int32) (mas : Nat → Int32) (mbf : Nat → Int32) (mih : Int32) (mtp : Nat → Int32) (mtn : Int32) (mtk : Int32) (mfr : Int32) (mtt : Int32) (mvl : Int32) (miw : Int32) (mld : Nat → Int32) (mrw : Nat → Int32) (mrn : Int32) (mso : Nat → Int32) (msz : Nat → Int32) (mnu : Nat → Int32) (mhw : Nat → Int32) (mhh : Nat → Int32) (mhm : Nat → Int32) (mbo : Nat → Int32) (mrr : Int32) (mak : Int32) (man : Int32) (maa : Int32) (mip : Int32) (x1 : Int32) (x2 : Int32) (x3 : Int32) (x4 : Int32) (hok : okS ss) (sz : Nat) : McI τ yX6_person wsX6_person rmX6_person .int [.ref (a 0), .int x1, .int x2, .int x3, .int x4] (wM τ a ss mhd mas mbf mih mtp mtn mtk mfr mtt mvl miw mld mrw mrn mso msz mnu mhw mhh mhm mbo mrr mak man maa mip) (fun u : (Nat → Int32) => (wM τ a u mhd mas mbf mih mtp mtn mtk mfr mtt mvl miw mld mrw mrn mso msz mnu mhw mhh mhm mbo mrr mak man maa mip)) (f_X6_person ss x1 x2 x3 x4) sz := by
  refine mc_I (cc := cX6_person) (own := RX6) [(0, .ref (a 0)), (1, .int x1), (2, .int x2), (3, .int x3), (4, .int x4)] rfl (by decide) rfl rfl (Nat.le_of_ble_eq_true rfl) (fun κ C hR => ?_)
  have hiX6 : ∀ w ∈ wsX60, w ∈ wsX6_person := fun w h => List.mem_cons_of_mem _ (List.mem_append_right _ h)
  unfold f_X6_person at hR
  refine j_iload_n C dX6_person_0 1 rfl rfl 1 rfl ?_
  refine j_i2l C dX6_person_1 2 rfl ?_
  refine j_lconst (v := 0) C dX6_person_2 3 rfl (by decide) ?_
  refine j_ldc2 C dX6_person_3 6 rfl kX6_person_c158 ?_
  refine j_cs0I (na := 3) C dX6_person_6 9 rfl (c_X6_isIn τ  ((x1 : Int32).toInt64) (0 : Int64) (5 : Int64) ) rfl ggX6_person_X6_isIn rfl rfl rfl kX6_person_iRX6 kX6_person_m57 kX6_person_sX6_isIn qd_X6_isIn rfl ⟨by decide, by decide⟩ ⟨by decide, by decide⟩ rfl (Nat.le_of_ble_eq_true rfl) (fun r1 u1 hX1 hn1 => ?_)
  obtain rfl := (Prod.mk.inj hX1).1
  refine j_if_eq C dX6_person_9 44 rfl 12 rfl (fun c2 => ?_) (fun c2 => ?_)
  · rw [if_pos c2] at hR
    refine j_iconst (v := (-1)) C dX6_person_44 45 rfl (by decide) ?_
    exact Rt.ret (hR) rfl dX6_person_45
  · rw [if_neg c2] at hR
    refine j_iload_n C dX6_person_12 13 rfl rfl 2 rfl ?_
    refine j_i2l C dX6_person_13 14 rfl ?_
    refine j_lconst (v := 1) C dX6_person_14 15 rfl (by decide) ?_
    refine j_ldc2 C dX6_person_15 18 rfl kX6_person_c150 ?_
    refine j_cs0I (na := 3) C dX6_person_18 21 rfl (c_X6_isIn τ  ((x2 : Int32).toInt64) (1 : Int64) (9 : Int64) ) rfl ggX6_person_X6_isIn rfl rfl rfl kX6_person_iRX6 kX6_person_m57 kX6_person_sX6_isIn qd_X6_isIn rfl ⟨by decide, by decide⟩ ⟨by decide, by decide⟩ rfl (Nat.le_of_ble_eq_true rfl) (fun r3 u3 hX3 hn3 => ?_)
    obtain rfl := (Prod.mk.inj hX3).1
    refine j_if_eq C dX6_person_21 44 rfl 24 rfl (fun c4 => ?_) (fun c4 => ?_)
    · rw [if_pos c4] at hR
      refine j_iconst (v := (-1)) C dX6_person_44 45 rfl (by decide) ?_
      exact Rt.ret (hR) rfl dX6_person_45
    · rw [if_neg c4] at hR
      refine j_iload_n C dX6_person_24 25 rfl rfl 3 rfl ?_
      refine j_i2l C dX6_person_25 26 rfl ?_
      refine j_lconst (v := 0) C dX6_person_26 27 rfl (by decide) ?_
      refine j_ldc2 C dX6_person_27 30 rfl kX6_person_c55 ?_
      refine j_cs0I (na := 3) C dX6_person_30 33 rfl (c_X6_isIn τ  ((x3 : Int32).toInt64) (0 : Int64) (8 : Int64) ) rfl ggX6_person_X6_isIn rfl rfl rfl kX6_person_iRX6 kX6_person_m57 kX6_person_sX6_isIn qd_X6_isIn rfl ⟨by decide, by decide⟩ ⟨by decide, by decide⟩ rfl (Nat.le_of_ble_eq_true rfl) (fun r5 u5 hX5 hn5 => ?_)
      obtain rfl := (Prod.mk.inj hX5).1
      refine j_if_eq C dX6_person_33 44 rfl 36 rfl (fun c6 => ?_) (fun c6 => ?_)
      · rw [if_pos c6] at hR
        refine j_iconst (v := (-1)) C dX6_person_44 45 rfl (by decide) ?_
        exact Rt.ret (hR) rfl dX6_person_45
      · rw [if_neg c6] at hR
        refine j_iload C dX6_person_36 38 rfl 4 rfl ?_
        refine j_cs0I (na := 1) C dX6_person_38 41 rfl (c_X6_isCorner τ  x4 ) rfl ggX6_person_X6_isCorner rfl rfl rfl kX6_person_iRX6 kX6_person_m160 kX6_person_sX6_isCorner qd_X6_isCorner rfl ⟨by decide, by decide⟩ ⟨by decide, by decide⟩ rfl (Nat.le_of_ble_eq_true rfl) (fun r7 u7 hX7 hn7 => ?_)
        obtain rfl := (Prod.mk.inj hX7).1
        refine j_if_ne C dX6_person_41 46 rfl 44 rfl (fun c8 => ?_) (fun c8 => ?_)
        · rw [if_neg c8] at hR
          refine j_aload_n C dX6_person_46 47 rfl rfl 0 rfl ?_
          refine j_get C dX6_person_47 50 rfl hiX6 0 rfl rfl 0 (by decide) rfl kX6_person_f7 rfl ?_
          refine j_iconst (v := 0) C dX6_person_50 51 rfl (by decide) ?_
          refine j_iald C dX6_person_51 52 rfl 1 rfl (by unfold vp_in; decide) 0 rfl ?_
          refine j_bipush (v := 8) C dX6_person_52 54 rfl (by decide) ?_
          refine j_icmp_ne C dX6_person_54 60 rfl 57 rfl (fun c9 => ?_) (fun c9 => ?_)
          · rw [if_neg c9] at hR
            refine j_aload_n C dX6_person_60 61 rfl rfl 0 rfl ?_
            refine j_iload_n C dX6_person_61 62 rfl rfl 1 rfl ?_
            refine j_iload_n C dX6_person_62 63 rfl rfl 2 rfl ?_
            refine j_iload_n C dX6_person_63 64 rfl rfl 3 rfl ?_
            refine j_iload C dX6_person_64 66 rfl 4 rfl ?_
            refine j_cv0V (na := 4) C dX6_person_66 69 rfl (c_X6_comes τ a ss mhd mas mbf mih mtp mtn mtk mfr mtt mvl miw mld mrw mrn mso msz mnu mhw mhh mhm mbo mrr mak man maa mip x1 x2 x3 x4 hok (by have h8 := hok.2.1; have h9 := mt i32_eq.mpr c9; rw [show (8 : Int32).toInt = 8 from rfl] at h9; omega)) gX6_person_X6_comes rfl rfl rfl qd_X6_comes rfl ⟨by decide, by decide⟩ ⟨by decide, by decide⟩ rfl (Nat.le_of_ble_eq_true rfl) rfl 6 0 rfl rfl (fun u10 hX10 => ?_)
            obtain ⟨ss_10, rfl⟩ : ∃ z, z = u10 := ⟨_, rfl⟩
            rw [hX10] at hR; rw [pr1_mk ss_10] at hR
            refine j_aload_n C dX6_person_69 70 rfl rfl 0 rfl ?_
            refine j_get C dX6_person_70 73 rfl hiX6 0 rfl rfl 0 (by decide) rfl kX6_person_f7 rfl ?_
            refine j_iconst (v := 0) C dX6_person_73 74 rfl (by decide) ?_
            refine j_iald C dX6_person_74 75 rfl 1 rfl (by unfold vp_in; decide) 0 rfl ?_
            refine j_iconst (v := 1) C dX6_person_75 76 rfl (by decide) ?_
            refine j_isub C dX6_person_76 77 rfl ?_
            exact Rt.ret (hR) rfl dX6_person_77
          · rw [if_pos c9] at hR
            refine j_bipush (v := (-2)) C dX6_person_57 59 rfl (by decide) ?_
            exact Rt.ret (hR) rfl dX6_person_59
        · rw [if_pos c8] at hR
          refine j_iconst (v := (-1)) C dX6_person_44 45 rfl (by decide) ?_
          exact Rt.ret (hR) rfl dX6_person_45

-- X6_change
def f_X6_change (ss : Nat → Int32) (x1 : Int32) (x2 : Int32) (x3 : Int32) : Int32 × (Nat → Int32) := pr1 (if ((f_X6_isOne ss x1) = 0) then (0 : Int32) else (if (x2 = 1) then (if ((f_X6_isIn ((x3 : Int32).toInt64) (1 : Int64) (9 : Int64)) = 0) then (if (x2 = 2) then (if ((f_X6_isIn ((x3 : Int32).toInt64) (0 : Int64) (8 : Int64)) = 0) then (0 : Int32) else (1 : Int32)) else (0 : Int32)) else (1 : Int32)) else (if (x2 = 2) then (if ((f_X6_isIn ((x3 : Int32).toInt64) (0 : Int64) (8 : Int64)) = 0) then (0 : Int32) else (1 : Int32)) else (0 : Int32)))) (fun j5_0 => if (j5_0 = 0) then (((-1) : Int32), ss) else (pr2 (f_X6_becomes ss (((10 : Int32) + ((5 : Int32) * x1)) + x2) x3) (fun r13 ss_13 => (r13, ss_13))))
theorem kX6_change_c150 : Cond.constantLong RX6 150 9 ∈ wsX6_change := by decide +kernel
theorem kX6_change_iRX6 : Cond.initialized yX6_isIn.cls ∈ wsX6_change := by decide +kernel
theorem kX6_change_sX6_isIn : Cond.static yX6_isIn ∈ wsX6_change := by decide +kernel
theorem kX6_change_m57 : Cond.methodLink RX6 57 yX6_isIn ∈ wsX6_change := by decide +kernel
theorem kX6_change_c55 : Cond.constantLong RX6 55 8 ∈ wsX6_change := by decide +kernel
theorem qd_X6_change : yX6_change.cls = RX6 ∧ yX6_change.cls ≠ "java/lang/invoke/MethodHandle" ∧ yX6_change.cls ≠ "java/lang/invoke/VarHandle" ∧ (parseMethodDescriptor yX6_change.desc).map (fun d => d.parameters.length) = some 3 := by decide +kernel
abbrev rmX6_change : Room := { frames := 1, cells := 0, slots := 0, locals := 25 }
set_option maxHeartbeats 4000000 in
set_option maxRecDepth 100000 in
theorem c_X6_change (τ : SX) (a : Nat → Nat) (ss : Nat → Int32) (mhd : Nat → Int32) (mas : Nat → Int32) (mbf : Nat → Int32) (mih : Int32) (mtp : Nat → Int32) (mtn : Int32) (mtk : Int32) (mfr : Int32) (mtt : Int32) (mvl : Int32) (miw : Int32) (mld : Nat → Int32) (mrw : Nat → Int32) (mrn : Int32) (mso : Nat → Int32) (msz : Nat → Int32) (mnu : Nat → Int32) (mhw : Nat → Int32) (mhh : Nat → Int32) (mhm : Nat → Int32) (mbo : Nat → Int32) (mrr : Int32) (mak : Int32) (man : Int32) (maa : Int32) (mip : Int32) (x1 : Int32) (x2 : Int32) (x3 : Int32) (hok : okS ss) (sz : Nat) : McI τ yX6_change wsX6_change rmX6_change .int [.ref (a 0), .int x1, .int x2, .int x3] (wM τ a ss mhd mas mbf mih mtp mtn mtk mfr mtt mvl miw mld mrw mrn mso msz mnu mhw mhh mhm mbo mrr mak man maa mip) (fun u : (Nat → Int32) => (wM τ a u mhd mas mbf mih mtp mtn mtk mfr mtt mvl miw mld mrw mrn mso msz mnu mhw mhh mhm mbo mrr mak man maa mip)) (f_X6_change ss x1 x2 x3) sz := by
  refine mc_I (cc := cX6_change) (own := RX6) [(0, .ref (a 0)), (1, .int x1), (2, .int x2), (3, .int x3)] rfl (by decide) rfl rfl (Nat.le_of_ble_eq_true rfl) (fun κ C hR => ?_)
  have hiX6 : ∀ w ∈ wsX60, w ∈ wsX6_change := fun w h => List.mem_cons_of_mem _ (List.mem_append_right _ h)
  unfold f_X6_change at hR
  refine j_aload_n C dX6_change_0 1 rfl rfl 0 rfl ?_
  refine j_iload_n C dX6_change_1 2 rfl rfl 1 rfl ?_
  refine j_cv0I (na := 1) C dX6_change_2 5 rfl (c_X6_isOne τ a ss mhd mas mbf mih mtp mtn mtk mfr mtt mvl miw mld mrw mrn mso msz mnu mhw mhh mhm mbo mrr mak man maa mip x1 (by first | assumption | (unfold vp_in; decide))) gX6_change_X6_isOne rfl rfl rfl qd_X6_isOne rfl ⟨by decide, by decide⟩ ⟨by decide, by decide⟩ rfl (Nat.le_of_ble_eq_true rfl) rfl 6 0 rfl rfl (fun r1 u1 hX1 hn1 => ?_)
  obtain rfl := (Prod.mk.inj hX1).1
  have J5 : ∀ (j5_0 : Int32), (¬ j5_0 = 0 → vp_in (((10 : Int32) + ((5 : Int32) * x1)) + x2) 50) → Rt τ κ cX6_change .int (fun u : (Nat → Int32) => (wM τ a u mhd mas mbf mih mtp mtn mtk mfr mtt mvl miw mld mrw mrn mso msz mnu mhw mhh mhm mbo mrr mak man maa mip)) (if (j5_0 = 0) then (((-1) : Int32), ss) else (pr2 (f_X6_becomes ss (((10 : Int32) + ((5 : Int32) * x1)) + x2) x3) (fun r13 ss_13 => (r13, ss_13)))) → J τ κ 0 0 (wM τ a ss mhd mas mbf mih mtp mtn mtk mfr mtt mvl miw mld mrw mrn mso msz mnu mhw mhh mhm mbo mrr mak man maa mip) [(0, .ref (a 0)), (1, .int x1), (2, .int x2), (3, .int x3)] 47 [.int j5_0] := by
    intro j5_0 hj hR
    refine j_istore C dX6_change_47 49 rfl (by decide) [(4, .int j5_0), (0, .ref (a 0)), (1, .int x1), (2, .int x2), (3, .int x3)] rfl ?_
    refine j_iload C dX6_change_49 51 rfl 0 rfl ?_
    refine j_if_eq C dX6_change_51 70 rfl 54 rfl (fun c12 => ?_) (fun c12 => ?_)
    · rw [if_pos c12] at hR
      refine j_iconst (v := (-1)) C dX6_change_70 71 rfl (by decide) ?_
      exact Rt.ret (hR) rfl dX6_change_71
    · rw [if_neg c12] at hR
      refine j_aload_n C dX6_change_54 55 rfl rfl 1 rfl ?_
      refine j_bipush (v := 10) C dX6_change_55 57 rfl (by decide) ?_
      refine j_iconst (v := 5) C dX6_change_57 58 rfl (by decide) ?_
      refine j_iload_n C dX6_change_58 59 rfl rfl 2 rfl ?_
      refine j_imul C dX6_change_59 60 rfl ?_
      refine j_iadd C dX6_change_60 61 rfl ?_
      refine j_iload_n C dX6_change_61 62 rfl rfl 3 rfl ?_
      refine j_iadd C dX6_change_62 63 rfl ?_
      refine j_iload_n C dX6_change_63 64 rfl rfl 4 rfl ?_
      refine j_cv0I (na := 2) C dX6_change_64 67 rfl (c_X6_becomes τ a ss mhd mas mbf mih mtp mtn mtk mfr mtt mvl miw mld mrw mrn mso msz mnu mhw mhh mhm mbo mrr mak man maa mip (((10 : Int32) + ((5 : Int32) * x1)) + x2) x3 (hj c12)) gX6_change_X6_becomes rfl rfl rfl qd_X6_becomes rfl ⟨by decide, by decide⟩ ⟨by decide, by decide⟩ rfl (Nat.le_of_ble_eq_true rfl) rfl 6 0 rfl rfl (fun r13 u13 hX13 hn13 => ?_)
      obtain ⟨ss_13, rfl⟩ : ∃ z, z = u13 := ⟨_, rfl⟩
      rw [hX13] at hR; rw [pr2_mk r13 ss_13] at hR
      refine j_goto C dX6_change_67 71 rfl ?_
      exact Rt.ret (hR) rfl dX6_change_71
  refine j_if_eq C dX6_change_5 46 rfl 8 rfl (fun c2 => ?_) (fun c2 => ?_)
  · rw [if_pos c2] at hR
    refine j_iconst (v := 0) C dX6_change_46 47 rfl (by decide) ?_
    rw [pr1_mk (0 : Int32)] at hR
    exact j_lv [0, 1, 2, 3] [(0, .ref (a 0)), (1, .int x1), (2, .int x2), (3, .int x3)] rfl (J5 _ (by first | exact fun h => absurd rfl h | exact fun _ => its_in (m_one (by assumption) hok) (by rw [(by assumption : x2 = 1)]; decide) | exact fun _ => its_in (m_one (by assumption) hok) (by rw [(by assumption : x2 = 2)]; decide)) hR)
  · rw [if_neg c2] at hR
    refine j_iload_n C dX6_change_8 9 rfl rfl 2 rfl ?_
    refine j_iconst (v := 1) C dX6_change_9 10 rfl (by decide) ?_
    refine j_icmp_ne C dX6_change_10 25 rfl 13 rfl (fun c3 => ?_) (fun c3 => ?_)
    · rw [if_neg c3] at hR
      refine j_iload_n C dX6_change_25 26 rfl rfl 2 rfl ?_
      refine j_iconst (v := 2) C dX6_change_26 27 rfl (by decide) ?_
      refine j_icmp_ne C dX6_change_27 46 rfl 30 rfl (fun c9 => ?_) (fun c9 => ?_)
      · rw [if_neg c9] at hR
        refine j_iconst (v := 0) C dX6_change_46 47 rfl (by decide) ?_
        rw [pr1_mk (0 : Int32)] at hR
        exact j_lv [0, 1, 2, 3] [(0, .ref (a 0)), (1, .int x1), (2, .int x2), (3, .int x3)] rfl (J5 _ (by first | exact fun h => absurd rfl h | exact fun _ => its_in (m_one (by assumption) hok) (by rw [(by assumption : x2 = 1)]; decide) | exact fun _ => its_in (m_one (by assumption) hok) (by rw [(by assumption : x2 = 2)]; decide)) hR)
      · rw [if_pos c9] at hR
        refine j_iload_n C dX6_change_30 31 rfl rfl 3 rfl ?_
        refine j_i2l C dX6_change_31 32 rfl ?_
        refine j_lconst (v := 0) C dX6_change_32 33 rfl (by decide) ?_
        refine j_ldc2 C dX6_change_33 36 rfl kX6_change_c55 ?_
        refine j_cs0I (na := 3) C dX6_change_36 39 rfl (c_X6_isIn τ  ((x3 : Int32).toInt64) (0 : Int64) (8 : Int64) ) rfl ggX6_change_X6_isIn rfl rfl rfl kX6_change_iRX6 kX6_change_m57 kX6_change_sX6_isIn qd_X6_isIn rfl ⟨by decide, by decide⟩ ⟨by decide, by decide⟩ rfl (Nat.le_of_ble_eq_true rfl) (fun r10 u10 hX10 hn10 => ?_)
        obtain rfl := (Prod.mk.inj hX10).1
        refine j_if_eq C dX6_change_39 46 rfl 42 rfl (fun c11 => ?_) (fun c11 => ?_)
        · rw [if_pos c11] at hR
          refine j_iconst (v := 0) C dX6_change_46 47 rfl (by decide) ?_
          rw [pr1_mk (0 : Int32)] at hR
          exact j_lv [0, 1, 2, 3] [(0, .ref (a 0)), (1, .int x1), (2, .int x2), (3, .int x3)] rfl (J5 _ (by first | exact fun h => absurd rfl h | exact fun _ => its_in (m_one (by assumption) hok) (by rw [(by assumption : x2 = 1)]; decide) | exact fun _ => its_in (m_one (by assumption) hok) (by rw [(by assumption : x2 = 2)]; decide)) hR)
        · rw [if_neg c11] at hR
          refine j_iconst (v := 1) C dX6_change_42 43 rfl (by decide) ?_
          refine j_goto C dX6_change_43 47 rfl ?_
          rw [pr1_mk (1 : Int32)] at hR
          exact j_lv [0, 1, 2, 3] [(0, .ref (a 0)), (1, .int x1), (2, .int x2), (3, .int x3)] rfl (J5 _ (by first | exact fun h => absurd rfl h | exact fun _ => its_in (m_one (by assumption) hok) (by rw [(by assumption : x2 = 1)]; decide) | exact fun _ => its_in (m_one (by assumption) hok) (by rw [(by assumption : x2 = 2)]; decide)) hR)
    · rw [if_pos c3] at hR
      refine j_iload_n C dX6_change_13 14 rfl rfl 3 rfl ?_
      refine j_i2l C dX6_change_14 15 rfl ?_
      refine j_lconst (v := 1) C dX6_change_15 16 rfl (by decide) ?_
      refine j_ldc2 C dX6_change_16 19 rfl kX6_change_c150 ?_
      refine j_cs0I (na := 3) C dX6_change_19 22 rfl (c_X6_isIn τ  ((x3 : Int32).toInt64) (1 : Int64) (9 : Int64) ) rfl ggX6_change_X6_isIn rfl rfl rfl kX6_change_iRX6 kX6_change_m57 kX6_change_sX6_isIn qd_X6_isIn rfl ⟨by decide, by decide⟩ ⟨by decide, by decide⟩ rfl (Nat.le_of_ble_eq_true rfl) (fun r4 u4 hX4 hn4 => ?_)
      obtain rfl := (Prod.mk.inj hX4).1
      refine j_if_ne C dX6_change_22 42 rfl 25 rfl (fun c5 => ?_) (fun c5 => ?_)
      · rw [if_neg c5] at hR
        refine j_iconst (v := 1) C dX6_change_42 43 rfl (by decide) ?_
        refine j_goto C dX6_change_43 47 rfl ?_
        rw [pr1_mk (1 : Int32)] at hR
        exact j_lv [0, 1, 2, 3] [(0, .ref (a 0)), (1, .int x1), (2, .int x2), (3, .int x3)] rfl (J5 _ (by first | exact fun h => absurd rfl h | exact fun _ => its_in (m_one (by assumption) hok) (by rw [(by assumption : x2 = 1)]; decide) | exact fun _ => its_in (m_one (by assumption) hok) (by rw [(by assumption : x2 = 2)]; decide)) hR)
      · rw [if_pos c5] at hR
        refine j_iload_n C dX6_change_25 26 rfl rfl 2 rfl ?_
        refine j_iconst (v := 2) C dX6_change_26 27 rfl (by decide) ?_
        refine j_icmp_ne C dX6_change_27 46 rfl 30 rfl (fun c6 => ?_) (fun c6 => ?_)
        · rw [if_neg c6] at hR
          refine j_iconst (v := 0) C dX6_change_46 47 rfl (by decide) ?_
          rw [pr1_mk (0 : Int32)] at hR
          exact j_lv [0, 1, 2, 3] [(0, .ref (a 0)), (1, .int x1), (2, .int x2), (3, .int x3)] rfl (J5 _ (by first | exact fun h => absurd rfl h | exact fun _ => its_in (m_one (by assumption) hok) (by rw [(by assumption : x2 = 1)]; decide) | exact fun _ => its_in (m_one (by assumption) hok) (by rw [(by assumption : x2 = 2)]; decide)) hR)
        · rw [if_pos c6] at hR
          refine j_iload_n C dX6_change_30 31 rfl rfl 3 rfl ?_
          refine j_i2l C dX6_change_31 32 rfl ?_
          refine j_lconst (v := 0) C dX6_change_32 33 rfl (by decide) ?_
          refine j_ldc2 C dX6_change_33 36 rfl kX6_change_c55 ?_
          refine j_cs0I (na := 3) C dX6_change_36 39 rfl (c_X6_isIn τ  ((x3 : Int32).toInt64) (0 : Int64) (8 : Int64) ) rfl ggX6_change_X6_isIn rfl rfl rfl kX6_change_iRX6 kX6_change_m57 kX6_change_sX6_isIn qd_X6_isIn rfl ⟨by decide, by decide⟩ ⟨by decide, by decide⟩ rfl (Nat.le_of_ble_eq_true rfl) (fun r7 u7 hX7 hn7 => ?_)
          obtain rfl := (Prod.mk.inj hX7).1
          refine j_if_eq C dX6_change_39 46 rfl 42 rfl (fun c8 => ?_) (fun c8 => ?_)
          · rw [if_pos c8] at hR
            refine j_iconst (v := 0) C dX6_change_46 47 rfl (by decide) ?_
            rw [pr1_mk (0 : Int32)] at hR
            exact j_lv [0, 1, 2, 3] [(0, .ref (a 0)), (1, .int x1), (2, .int x2), (3, .int x3)] rfl (J5 _ (by first | exact fun h => absurd rfl h | exact fun _ => its_in (m_one (by assumption) hok) (by rw [(by assumption : x2 = 1)]; decide) | exact fun _ => its_in (m_one (by assumption) hok) (by rw [(by assumption : x2 = 2)]; decide)) hR)
          · rw [if_neg c8] at hR
            refine j_iconst (v := 1) C dX6_change_42 43 rfl (by decide) ?_
            refine j_goto C dX6_change_43 47 rfl ?_
            rw [pr1_mk (1 : Int32)] at hR
            exact j_lv [0, 1, 2, 3] [(0, .ref (a 0)), (1, .int x1), (2, .int x2), (3, .int x3)] rfl (J5 _ (by first | exact fun h => absurd rfl h | exact fun _ => its_in (m_one (by assumption) hok) (by rw [(by assumption : x2 = 1)]; decide) | exact fun _ => its_in (m_one (by assumption) hok) (by rw [(by assumption : x2 = 2)]; decide)) hR)

-- X6_shelf
def f_X6_shelf (ss : Nat → Int32) (mso : Nat → Int32) (msz : Nat → Int32) (mhw : Nat → Int32) (mhh : Nat → Int32) (mhm : Nat → Int32) (x1 : Int32) (x2 : Int32) (x3 : Int32) : Int32 × (Nat → Int32) × (Nat → Int32) × (Nat → Int32) := if ((f_X6_isShelf x1) = 0) then (((-1) : Int32), mhw, mhh, mhm) else (if ((f_X6_isIn ((x2 : Int32).toInt64) (0 : Int64) (2 : Int64)) = 0) then (((-1) : Int32), mhw, mhh, mhm) else (if (x2 = 0) then (if ((f_X6_isOne ss x3) = 0) then (((-1) : Int32), mhw, mhh, mhm) else (if (x2 = 1) then (if ((f_X6_isSheet x3) = 0) then (((-1) : Int32), mhw, mhh, mhm) else (pr1 (if (x2 = 1) then (if ((mso (x3).toNatClampNeg) < 0) then (0 : Int32) else (1 : Int32)) else (0 : Int32)) (fun j47_0 => pr1 (if (x2 = 0) then (1 : Int32) else (if (j47_0 = 0) then (0 : Int32) else (2 : Int32))) (fun j72_0 => pr1 (if (x2 = 0) then x3 else (if (j47_0 = 0) then (0 : Int32) else (mso (x3).toNatClampNeg))) (fun j96_0 => pr1 (if (j47_0 = 0) then (0 : Int32) else (msz (x3).toNatClampNeg)) (fun j126_0 => ((1 : Int32), (upd mhw (x1).toNatClampNeg j72_0), (upd mhh (x1).toNatClampNeg j96_0), (upd mhm (x1).toNatClampNeg j126_0)))))))) else (pr1 (if (x2 = 1) then (if ((mso (x3).toNatClampNeg) < 0) then (0 : Int32) else (1 : Int32)) else (0 : Int32)) (fun j47_0 => pr1 (if (x2 = 0) then (1 : Int32) else (if (j47_0 = 0) then (0 : Int32) else (2 : Int32))) (fun j72_0 => pr1 (if (x2 = 0) then x3 else (if (j47_0 = 0) then (0 : Int32) else (mso (x3).toNatClampNeg))) (fun j96_0 => pr1 (if (j47_0 = 0) then (0 : Int32) else (msz (x3).toNatClampNeg)) (fun j126_0 => ((1 : Int32), (upd mhw (x1).toNatClampNeg j72_0), (upd mhh (x1).toNatClampNeg j96_0), (upd mhm (x1).toNatClampNeg j126_0))))))))) else (if (x2 = 1) then (if ((f_X6_isSheet x3) = 0) then (((-1) : Int32), mhw, mhh, mhm) else (pr1 (if (x2 = 1) then (if ((mso (x3).toNatClampNeg) < 0) then (0 : Int32) else (1 : Int32)) else (0 : Int32)) (fun j47_0 => pr1 (if (x2 = 0) then (1 : Int32) else (if (j47_0 = 0) then (0 : Int32) else (2 : Int32))) (fun j72_0 => pr1 (if (x2 = 0) then x3 else (if (j47_0 = 0) then (0 : Int32) else (mso (x3).toNatClampNeg))) (fun j96_0 => pr1 (if (j47_0 = 0) then (0 : Int32) else (msz (x3).toNatClampNeg)) (fun j126_0 => ((1 : Int32), (upd mhw (x1).toNatClampNeg j72_0), (upd mhh (x1).toNatClampNeg j96_0), (upd mhm (x1).toNatClampNeg j126_0)))))))) else (pr1 (if (x2 = 1) then (if ((mso (x3).toNatClampNeg) < 0) then (0 : Int32) else (1 : Int32)) else (0 : Int32)) (fun j47_0 => pr1 (if (x2 = 0) then (1 : Int32) else (if (j47_0 = 0) then (0 : Int32) else (2 : Int32))) (fun j72_0 => pr1 (if (x2 = 0) then x3 else (if (j47_0 = 0) then (0 : Int32) else (mso (x3).toNatClampNeg))) (fun j96_0 => pr1 (if (j47_0 = 0) then (0 : Int32) else (msz (x3).toNatClampNeg)) (fun j126_0 => ((1 : Int32), (upd mhw (x1).toNatClampNeg j72_0), (upd mhh (x1).toNatClampNeg j96_0), (upd mhm (x1).toNatClampNeg j126_0))))))))))
theorem kX6_shelf_iRX6 : Cond.initialized yX6_isSheet.cls ∈ wsX6_shelf := by decide +kernel
theorem kX6_shelf_sX6_isShelf : Cond.static yX6_isShelf ∈ wsX6_shelf := by decide +kernel
theorem kX6_shelf_m270 : Cond.methodLink RX6 270 yX6_isShelf ∈ wsX6_shelf := by decide +kernel
theorem kX6_shelf_c258 : Cond.constantLong RX6 258 2 ∈ wsX6_shelf := by decide +kernel
theorem kX6_shelf_sX6_isIn : Cond.static yX6_isIn ∈ wsX6_shelf := by decide +kernel
theorem kX6_shelf_m57 : Cond.methodLink RX6 57 yX6_isIn ∈ wsX6_shelf := by decide +kernel
theorem kX6_shelf_sX6_isSheet : Cond.static yX6_isSheet ∈ wsX6_shelf := by decide +kernel
theorem kX6_shelf_m238 : Cond.methodLink RX6 238 yX6_isSheet ∈ wsX6_shelf := by decide +kernel
theorem kX6_shelf_f31 : Cond.fieldLink RX6 31 "TwoMinutesModel" "sortOf" "[I" ∈ wsX6_shelf := by decide +kernel
theorem kX6_shelf_f40 : Cond.fieldLink RX6 40 "TwoMinutesModel" "holdsWhat" "[I" ∈ wsX6_shelf := by decide +kernel
theorem kX6_shelf_f43 : Cond.fieldLink RX6 43 "TwoMinutesModel" "holdsWhich" "[I" ∈ wsX6_shelf := by decide +kernel
theorem kX6_shelf_f46 : Cond.fieldLink RX6 46 "TwoMinutesModel" "holdsMany" "[I" ∈ wsX6_shelf := by decide +kernel
theorem kX6_shelf_f34 : Cond.fieldLink RX6 34 "TwoMinutesModel" "sizeOf" "[I" ∈ wsX6_shelf := by decide +kernel
theorem qd_X6_shelf : yX6_shelf.cls = RX6 ∧ yX6_shelf.cls ≠ "java/lang/invoke/MethodHandle" ∧ yX6_shelf.cls ≠ "java/lang/invoke/VarHandle" ∧ (parseMethodDescriptor yX6_shelf.desc).map (fun d => d.parameters.length) = some 3 := by decide +kernel
abbrev rmX6_shelf : Room := { frames := 2, cells := 0, slots := 0, locals := 45 }
set_option maxHeartbeats 4000000 in
set_option maxRecDepth 100000 in
theorem c_X6_shelf (τ : SX) (a : Nat → Nat) (ss : Nat → Int32) (mhd : Nat → Int32) (mas : Nat → Int32) (mbf : Nat → Int32) (mih : Int32) (mtp : Nat → Int32) (mtn : Int32) (mtk : Int32) (mfr : Int32) (mtt : Int32) (mvl : Int32) (miw : Int32) (mld : Nat → Int32) (mrw : Nat → Int32) (mrn : Int32) (mso : Nat → Int32) (msz : Nat → Int32) (mnu : Nat → Int32) (mhw : Nat → Int32) (mhh : Nat → Int32) (mhm : Nat → Int32) (mbo : Nat → Int32) (mrr : Int32) (mak : Int32) (man : Int32) (maa : Int32) (mip : Int32) (x1 : Int32) (x2 : Int32) (x3 : Int32) (hok : okS ss) (sz : Nat) : McI τ yX6_shelf wsX6_shelf rmX6_shelf .int [.ref (a 0), .int x1, .int x2, .int x3] (wM τ a ss mhd mas mbf mih mtp mtn mtk mfr mtt mvl miw mld mrw mrn mso msz mnu mhw mhh mhm mbo mrr mak man maa mip) (fun u : (Nat → Int32) × (Nat → Int32) × (Nat → Int32) => (wM τ a ss mhd mas mbf mih mtp mtn mtk mfr mtt mvl miw mld mrw mrn mso msz mnu u.1 u.2.1 u.2.2 mbo mrr mak man maa mip)) (f_X6_shelf ss mso msz mhw mhh mhm x1 x2 x3) sz := by
  refine mc_I (cc := cX6_shelf) (own := RX6) [(0, .ref (a 0)), (1, .int x1), (2, .int x2), (3, .int x3)] rfl (by decide) rfl rfl (Nat.le_of_ble_eq_true rfl) (fun κ C hR => ?_)
  have hiX6 : ∀ w ∈ wsX60, w ∈ wsX6_shelf := fun w h => List.mem_cons_of_mem _ (List.mem_append_right _ h)
  unfold f_X6_shelf at hR
  refine j_iload_n C dX6_shelf_0 1 rfl rfl 1 rfl ?_
  refine j_cs0I (na := 1) C dX6_shelf_1 4 rfl (c_X6_isShelf τ  x1 ) rfl ggX6_shelf_X6_isShelf rfl rfl rfl kX6_shelf_iRX6 kX6_shelf_m270 kX6_shelf_sX6_isShelf qd_X6_isShelf rfl ⟨by decide, by decide⟩ ⟨by decide, by decide⟩ rfl (Nat.le_of_ble_eq_true rfl) (fun r1 u1 hX1 hn1 => ?_)
  obtain rfl := (Prod.mk.inj hX1).1
  refine j_if_eq C dX6_shelf_4 43 rfl 7 rfl (fun c2 => ?_) (fun c2 => ?_)
  · rw [if_pos c2] at hR
    refine j_iconst (v := (-1)) C dX6_shelf_43 44 rfl (by decide) ?_
    exact Rt.ret (hR) rfl dX6_shelf_44
  · rw [if_neg c2] at hR
    refine j_iload_n C dX6_shelf_7 8 rfl rfl 2 rfl ?_
    refine j_i2l C dX6_shelf_8 9 rfl ?_
    refine j_lconst (v := 0) C dX6_shelf_9 10 rfl (by decide) ?_
    refine j_ldc2 C dX6_shelf_10 13 rfl kX6_shelf_c258 ?_
    refine j_cs0I (na := 3) C dX6_shelf_13 16 rfl (c_X6_isIn τ  ((x2 : Int32).toInt64) (0 : Int64) (2 : Int64) ) rfl ggX6_shelf_X6_isIn rfl rfl rfl kX6_shelf_iRX6 kX6_shelf_m57 kX6_shelf_sX6_isIn qd_X6_isIn rfl ⟨by decide, by decide⟩ ⟨by decide, by decide⟩ rfl (Nat.le_of_ble_eq_true rfl) (fun r3 u3 hX3 hn3 => ?_)
    obtain rfl := (Prod.mk.inj hX3).1
    refine j_if_eq C dX6_shelf_16 43 rfl 19 rfl (fun c4 => ?_) (fun c4 => ?_)
    · rw [if_pos c4] at hR
      refine j_iconst (v := (-1)) C dX6_shelf_43 44 rfl (by decide) ?_
      exact Rt.ret (hR) rfl dX6_shelf_44
    · rw [if_neg c4] at hR
      refine j_iload_n C dX6_shelf_19 20 rfl rfl 2 rfl ?_
      refine j_if_ne C dX6_shelf_20 31 rfl 23 rfl (fun c5 => ?_) (fun c5 => ?_)
      · rw [if_neg c5] at hR
        refine j_iload_n C dX6_shelf_31 32 rfl rfl 2 rfl ?_
        refine j_iconst (v := 1) C dX6_shelf_32 33 rfl (by decide) ?_
        refine j_icmp_ne C dX6_shelf_33 45 rfl 36 rfl (fun c25 => ?_) (fun c25 => ?_)
        · rw [if_neg c25] at hR
          refine j_iload_n C dX6_shelf_45 46 rfl rfl 2 rfl ?_
          refine j_iconst (v := 1) C dX6_shelf_46 47 rfl (by decide) ?_
          have J47 : ∀ (j47_0 : Int32), (¬ j47_0 = 0 → vp_in x3 4) → Rt τ κ cX6_shelf .int (fun u : (Nat → Int32) × (Nat → Int32) × (Nat → Int32) => (wM τ a ss mhd mas mbf mih mtp mtn mtk mfr mtt mvl miw mld mrw mrn mso msz mnu u.1 u.2.1 u.2.2 mbo mrr mak man maa mip)) (pr1 (if (x2 = 0) then (1 : Int32) else (if (j47_0 = 0) then (0 : Int32) else (2 : Int32))) (fun j72_0 => pr1 (if (x2 = 0) then x3 else (if (j47_0 = 0) then (0 : Int32) else (mso (x3).toNatClampNeg))) (fun j96_0 => pr1 (if (j47_0 = 0) then (0 : Int32) else (msz (x3).toNatClampNeg)) (fun j126_0 => ((1 : Int32), (upd mhw (x1).toNatClampNeg j72_0), (upd mhh (x1).toNatClampNeg j96_0), (upd mhm (x1).toNatClampNeg j126_0)))))) → J τ κ 0 0 (wM τ a ss mhd mas mbf mih mtp mtn mtk mfr mtt mvl miw mld mrw mrn mso msz mnu mhw mhh mhm mbo mrr mak man maa mip) [(0, .ref (a 0)), (1, .int x1), (2, .int x2), (3, .int x3)] 64 [.int j47_0] := by
            intro j47_0 hj hR
            refine j_istore C dX6_shelf_64 66 rfl (by decide) [(4, .int j47_0), (0, .ref (a 0)), (1, .int x1), (2, .int x2), (3, .int x3)] rfl ?_
            refine j_aload_n C dX6_shelf_66 67 rfl rfl 1 rfl ?_
            refine j_get C dX6_shelf_67 70 rfl hiX6 0 rfl rfl 18 (by decide) rfl kX6_shelf_f40 rfl ?_
            refine j_iload_n C dX6_shelf_70 71 rfl rfl 2 rfl ?_
            refine j_iload_n C dX6_shelf_71 72 rfl rfl 3 rfl ?_
            have J72 : ∀ (j72_0 : Int32), Rt τ κ cX6_shelf .int (fun u : (Nat → Int32) × (Nat → Int32) × (Nat → Int32) => (wM τ a ss mhd mas mbf mih mtp mtn mtk mfr mtt mvl miw mld mrw mrn mso msz mnu u.1 u.2.1 u.2.2 mbo mrr mak man maa mip)) (pr1 (if (x2 = 0) then x3 else (if (j47_0 = 0) then (0 : Int32) else (mso (x3).toNatClampNeg))) (fun j96_0 => pr1 (if (j47_0 = 0) then (0 : Int32) else (msz (x3).toNatClampNeg)) (fun j126_0 => ((1 : Int32), (upd mhw (x1).toNatClampNeg j72_0), (upd mhh (x1).toNatClampNeg j96_0), (upd mhm (x1).toNatClampNeg j126_0))))) → J τ κ 0 0 (wM τ a ss mhd mas mbf mih mtp mtn mtk mfr mtt mvl miw mld mrw mrn mso msz mnu mhw mhh mhm mbo mrr mak man maa mip) [(0, .ref (a 0)), (1, .int x1), (2, .int x2), (3, .int x3), (4, .int j47_0)] 89 [.int j72_0, .int x1, .ref (a 11)] := by
              intro j72_0  hR
              refine j_iast C dX6_shelf_89 90 rfl 11 rfl (in_sf6 c2) (x1).toNatClampNeg rfl (wM τ a ss mhd mas mbf mih mtp mtn mtk mfr mtt mvl miw mld mrw mrn mso msz mnu (upd mhw (x1).toNatClampNeg j72_0) mhh mhm mbo mrr mak man maa mip) rfl ?_
              refine j_aload_n C dX6_shelf_90 91 rfl rfl 0 rfl ?_
              refine j_get C dX6_shelf_91 94 rfl hiX6 0 rfl rfl 19 (by decide) rfl kX6_shelf_f43 rfl ?_
              refine j_iload_n C dX6_shelf_94 95 rfl rfl 1 rfl ?_
              refine j_iload_n C dX6_shelf_95 96 rfl rfl 2 rfl ?_
              have J96 : ∀ (j96_0 : Int32), Rt τ κ cX6_shelf .int (fun u : (Nat → Int32) × (Nat → Int32) × (Nat → Int32) => (wM τ a ss mhd mas mbf mih mtp mtn mtk mfr mtt mvl miw mld mrw mrn mso msz mnu u.1 u.2.1 u.2.2 mbo mrr mak man maa mip)) (pr1 (if (j47_0 = 0) then (0 : Int32) else (msz (x3).toNatClampNeg)) (fun j126_0 => ((1 : Int32), (upd mhw (x1).toNatClampNeg j72_0), (upd mhh (x1).toNatClampNeg j96_0), (upd mhm (x1).toNatClampNeg j126_0)))) → J τ κ 0 0 (wM τ a ss mhd mas mbf mih mtp mtn mtk mfr mtt mvl miw mld mrw mrn mso msz mnu (upd mhw (x1).toNatClampNeg j72_0) mhh mhm mbo mrr mak man maa mip) [(0, .ref (a 0)), (1, .int x1), (2, .int x2), (3, .int x3), (4, .int j47_0)] 118 [.int j96_0, .int x1, .ref (a 12)] := by
                intro j96_0  hR
                refine j_iast C dX6_shelf_118 119 rfl 12 rfl (in_sf6 c2) (x1).toNatClampNeg rfl (wM τ a ss mhd mas mbf mih mtp mtn mtk mfr mtt mvl miw mld mrw mrn mso msz mnu (upd mhw (x1).toNatClampNeg j72_0) (upd mhh (x1).toNatClampNeg j96_0) mhm mbo mrr mak man maa mip) rfl ?_
                refine j_aload_n C dX6_shelf_119 120 rfl rfl 0 rfl ?_
                refine j_get C dX6_shelf_120 123 rfl hiX6 0 rfl rfl 20 (by decide) rfl kX6_shelf_f46 rfl ?_
                refine j_iload_n C dX6_shelf_123 124 rfl rfl 1 rfl ?_
                refine j_iload C dX6_shelf_124 126 rfl 4 rfl ?_
                have J126 : ∀ (j126_0 : Int32), Rt τ κ cX6_shelf .int (fun u : (Nat → Int32) × (Nat → Int32) × (Nat → Int32) => (wM τ a ss mhd mas mbf mih mtp mtn mtk mfr mtt mvl miw mld mrw mrn mso msz mnu u.1 u.2.1 u.2.2 mbo mrr mak man maa mip)) (((1 : Int32), (upd mhw (x1).toNatClampNeg j72_0), (upd mhh (x1).toNatClampNeg j96_0), (upd mhm (x1).toNatClampNeg j126_0))) → J τ κ 0 0 (wM τ a ss mhd mas mbf mih mtp mtn mtk mfr mtt mvl miw mld mrw mrn mso msz mnu (upd mhw (x1).toNatClampNeg j72_0) (upd mhh (x1).toNatClampNeg j96_0) mhm mbo mrr mak man maa mip) [(0, .ref (a 0)), (1, .int x1), (2, .int x2), (3, .int x3), (4, .int j47_0)] 139 [.int j126_0, .int x1, .ref (a 13)] := by
                  intro j126_0  hR
                  refine j_iast C dX6_shelf_139 140 rfl 13 rfl (in_sf6 c2) (x1).toNatClampNeg rfl (wM τ a ss mhd mas mbf mih mtp mtn mtk mfr mtt mvl miw mld mrw mrn mso msz mnu (upd mhw (x1).toNatClampNeg j72_0) (upd mhh (x1).toNatClampNeg j96_0) (upd mhm (x1).toNatClampNeg j126_0) mbo mrr mak man maa mip) rfl ?_
                  refine j_iconst (v := 1) C dX6_shelf_140 141 rfl (by decide) ?_
                  exact Rt.ret (hR) rfl dX6_shelf_141
                refine j_if_eq C dX6_shelf_126 138 rfl 129 rfl (fun c41 => ?_) (fun c41 => ?_)
                · rw [if_pos c41] at hR
                  refine j_iconst (v := 0) C dX6_shelf_138 139 rfl (by decide) ?_
                  rw [pr1_mk (0 : Int32)] at hR
                  exact j_lv [0, 1, 2, 3, 4] [(0, .ref (a 0)), (1, .int x1), (2, .int x2), (3, .int x3), (4, .int j47_0)] rfl (J126 _  hR)
                · rw [if_neg c41] at hR
                  refine j_aload_n C dX6_shelf_129 130 rfl rfl 0 rfl ?_
                  refine j_get C dX6_shelf_130 133 rfl hiX6 0 rfl rfl 16 (by decide) rfl kX6_shelf_f34 rfl ?_
                  refine j_iload_n C dX6_shelf_133 134 rfl rfl 3 rfl ?_
                  refine j_iald C dX6_shelf_134 135 rfl 9 rfl (hj c41) (x3).toNatClampNeg rfl ?_
                  refine j_goto C dX6_shelf_135 139 rfl ?_
                  rw [pr1_mk (msz (x3).toNatClampNeg)] at hR
                  exact j_lv [0, 1, 2, 3, 4] [(0, .ref (a 0)), (1, .int x1), (2, .int x2), (3, .int x3), (4, .int j47_0)] rfl (J126 _  hR)
              refine j_if_ne C dX6_shelf_96 103 rfl 99 rfl (fun c39 => ?_) (fun c39 => ?_)
              · rw [if_neg c39] at hR
                refine j_iload C dX6_shelf_103 105 rfl 4 rfl ?_
                refine j_if_eq C dX6_shelf_105 117 rfl 108 rfl (fun c40 => ?_) (fun c40 => ?_)
                · rw [if_pos c40] at hR
                  refine j_iconst (v := 0) C dX6_shelf_117 118 rfl (by decide) ?_
                  rw [pr1_mk (0 : Int32)] at hR
                  exact j_lv [0, 1, 2, 3, 4] [(0, .ref (a 0)), (1, .int x1), (2, .int x2), (3, .int x3), (4, .int j47_0)] rfl (J96 _  hR)
                · rw [if_neg c40] at hR
                  refine j_aload_n C dX6_shelf_108 109 rfl rfl 0 rfl ?_
                  refine j_get C dX6_shelf_109 112 rfl hiX6 0 rfl rfl 15 (by decide) rfl kX6_shelf_f31 rfl ?_
                  refine j_iload_n C dX6_shelf_112 113 rfl rfl 3 rfl ?_
                  refine j_iald C dX6_shelf_113 114 rfl 8 rfl (hj c40) (x3).toNatClampNeg rfl ?_
                  refine j_goto C dX6_shelf_114 118 rfl ?_
                  rw [pr1_mk (mso (x3).toNatClampNeg)] at hR
                  exact j_lv [0, 1, 2, 3, 4] [(0, .ref (a 0)), (1, .int x1), (2, .int x2), (3, .int x3), (4, .int j47_0)] rfl (J96 _  hR)
              · rw [if_pos c39] at hR
                refine j_iload_n C dX6_shelf_99 100 rfl rfl 3 rfl ?_
                refine j_goto C dX6_shelf_100 118 rfl ?_
                rw [pr1_mk x3] at hR
                exact j_lv [0, 1, 2, 3, 4] [(0, .ref (a 0)), (1, .int x1), (2, .int x2), (3, .int x3), (4, .int j47_0)] rfl (J96 _  hR)
            refine j_if_ne C dX6_shelf_72 79 rfl 75 rfl (fun c37 => ?_) (fun c37 => ?_)
            · rw [if_neg c37] at hR
              refine j_iload C dX6_shelf_79 81 rfl 0 rfl ?_
              refine j_if_eq C dX6_shelf_81 88 rfl 84 rfl (fun c38 => ?_) (fun c38 => ?_)
              · rw [if_pos c38] at hR
                refine j_iconst (v := 0) C dX6_shelf_88 89 rfl (by decide) ?_
                rw [pr1_mk (0 : Int32)] at hR
                exact j_lv [1, 2, 3, 4, 0] [(0, .ref (a 0)), (1, .int x1), (2, .int x2), (3, .int x3), (4, .int j47_0)] rfl (J72 _  hR)
              · rw [if_neg c38] at hR
                refine j_iconst (v := 2) C dX6_shelf_84 85 rfl (by decide) ?_
                refine j_goto C dX6_shelf_85 89 rfl ?_
                rw [pr1_mk (2 : Int32)] at hR
                exact j_lv [1, 2, 3, 4, 0] [(0, .ref (a 0)), (1, .int x1), (2, .int x2), (3, .int x3), (4, .int j47_0)] rfl (J72 _  hR)
            · rw [if_pos c37] at hR
              refine j_iconst (v := 1) C dX6_shelf_75 76 rfl (by decide) ?_
              refine j_goto C dX6_shelf_76 89 rfl ?_
              rw [pr1_mk (1 : Int32)] at hR
              exact j_lv [1, 2, 3, 4, 0] [(0, .ref (a 0)), (1, .int x1), (2, .int x2), (3, .int x3), (4, .int j47_0)] rfl (J72 _  hR)
          refine j_icmp_ne C dX6_shelf_47 63 rfl 50 rfl (fun c35 => ?_) (fun c35 => ?_)
          · rw [if_neg c35] at hR
            refine j_iconst (v := 0) C dX6_shelf_63 64 rfl (by decide) ?_
            rw [pr1_mk (0 : Int32)] at hR
            exact j_lv [0, 1, 2, 3] [(0, .ref (a 0)), (1, .int x1), (2, .int x2), (3, .int x3)] rfl (J47 _ (by first | exact fun h => absurd rfl h | exact fun _ => in_sh6 (by assumption) | exact absurd (by assumption : x2 = 1) (by assumption : ¬ x2 = 1) | exact absurd ((by assumption : x2 = 0).symm.trans (by assumption : x2 = 1)) (by decide)) hR)
          · rw [if_pos c35] at hR
            refine j_aload_n C dX6_shelf_50 51 rfl rfl 0 rfl ?_
            refine j_get C dX6_shelf_51 54 rfl hiX6 0 rfl rfl 15 (by decide) rfl kX6_shelf_f31 rfl ?_
            refine j_iload_n C dX6_shelf_54 55 rfl rfl 3 rfl ?_
            refine j_iald C dX6_shelf_55 56 rfl 8 rfl (by first | exact in_sh6 c27 | exact absurd (by assumption : x2 = 1) (by assumption : ¬ x2 = 1) | exact absurd ((by assumption : x2 = 0).symm.trans (by assumption : x2 = 1)) (by decide)) (x3).toNatClampNeg rfl ?_
            refine j_if_lt C dX6_shelf_56 63 rfl 59 rfl (fun c36 => ?_) (fun c36 => ?_)
            · rw [if_pos c36] at hR
              refine j_iconst (v := 0) C dX6_shelf_63 64 rfl (by decide) ?_
              rw [pr1_mk (0 : Int32)] at hR
              exact j_lv [0, 1, 2, 3] [(0, .ref (a 0)), (1, .int x1), (2, .int x2), (3, .int x3)] rfl (J47 _ (by first | exact fun h => absurd rfl h | exact fun _ => in_sh6 (by assumption) | exact absurd (by assumption : x2 = 1) (by assumption : ¬ x2 = 1) | exact absurd ((by assumption : x2 = 0).symm.trans (by assumption : x2 = 1)) (by decide)) hR)
            · rw [if_neg c36] at hR
              refine j_iconst (v := 1) C dX6_shelf_59 60 rfl (by decide) ?_
              refine j_goto C dX6_shelf_60 64 rfl ?_
              rw [pr1_mk (1 : Int32)] at hR
              exact j_lv [0, 1, 2, 3] [(0, .ref (a 0)), (1, .int x1), (2, .int x2), (3, .int x3)] rfl (J47 _ (by first | exact fun h => absurd rfl h | exact fun _ => in_sh6 (by assumption) | exact absurd (by assumption : x2 = 1) (by assumption : ¬ x2 = 1) | exact absurd ((by assumption : x2 = 0).symm.trans (by assumption : x2 = 1)) (by decide)) hR)
        · rw [if_pos c25] at hR
          refine j_iload_n C dX6_shelf_36 37 rfl rfl 3 rfl ?_
          refine j_cs0I (na := 1) C dX6_shelf_37 40 rfl (c_X6_isSheet τ  x3 ) rfl ggX6_shelf_X6_isSheet rfl rfl rfl kX6_shelf_iRX6 kX6_shelf_m238 kX6_shelf_sX6_isSheet qd_X6_isSheet rfl ⟨by decide, by decide⟩ ⟨by decide, by decide⟩ rfl (Nat.le_of_ble_eq_true rfl) (fun r26 u26 hX26 hn26 => ?_)
          obtain rfl := (Prod.mk.inj hX26).1
          refine j_if_ne C dX6_shelf_40 45 rfl 43 rfl (fun c27 => ?_) (fun c27 => ?_)
          · rw [if_neg c27] at hR
            refine j_iload_n C dX6_shelf_45 46 rfl rfl 2 rfl ?_
            refine j_iconst (v := 1) C dX6_shelf_46 47 rfl (by decide) ?_
            have J47 : ∀ (j47_0 : Int32), (¬ j47_0 = 0 → vp_in x3 4) → Rt τ κ cX6_shelf .int (fun u : (Nat → Int32) × (Nat → Int32) × (Nat → Int32) => (wM τ a ss mhd mas mbf mih mtp mtn mtk mfr mtt mvl miw mld mrw mrn mso msz mnu u.1 u.2.1 u.2.2 mbo mrr mak man maa mip)) (pr1 (if (x2 = 0) then (1 : Int32) else (if (j47_0 = 0) then (0 : Int32) else (2 : Int32))) (fun j72_0 => pr1 (if (x2 = 0) then x3 else (if (j47_0 = 0) then (0 : Int32) else (mso (x3).toNatClampNeg))) (fun j96_0 => pr1 (if (j47_0 = 0) then (0 : Int32) else (msz (x3).toNatClampNeg)) (fun j126_0 => ((1 : Int32), (upd mhw (x1).toNatClampNeg j72_0), (upd mhh (x1).toNatClampNeg j96_0), (upd mhm (x1).toNatClampNeg j126_0)))))) → J τ κ 0 0 (wM τ a ss mhd mas mbf mih mtp mtn mtk mfr mtt mvl miw mld mrw mrn mso msz mnu mhw mhh mhm mbo mrr mak man maa mip) [(0, .ref (a 0)), (1, .int x1), (2, .int x2), (3, .int x3)] 64 [.int j47_0] := by
              intro j47_0 hj hR
              refine j_istore C dX6_shelf_64 66 rfl (by decide) [(4, .int j47_0), (0, .ref (a 0)), (1, .int x1), (2, .int x2), (3, .int x3)] rfl ?_
              refine j_aload_n C dX6_shelf_66 67 rfl rfl 1 rfl ?_
              refine j_get C dX6_shelf_67 70 rfl hiX6 0 rfl rfl 18 (by decide) rfl kX6_shelf_f40 rfl ?_
              refine j_iload_n C dX6_shelf_70 71 rfl rfl 2 rfl ?_
              refine j_iload_n C dX6_shelf_71 72 rfl rfl 3 rfl ?_
              have J72 : ∀ (j72_0 : Int32), Rt τ κ cX6_shelf .int (fun u : (Nat → Int32) × (Nat → Int32) × (Nat → Int32) => (wM τ a ss mhd mas mbf mih mtp mtn mtk mfr mtt mvl miw mld mrw mrn mso msz mnu u.1 u.2.1 u.2.2 mbo mrr mak man maa mip)) (pr1 (if (x2 = 0) then x3 else (if (j47_0 = 0) then (0 : Int32) else (mso (x3).toNatClampNeg))) (fun j96_0 => pr1 (if (j47_0 = 0) then (0 : Int32) else (msz (x3).toNatClampNeg)) (fun j126_0 => ((1 : Int32), (upd mhw (x1).toNatClampNeg j72_0), (upd mhh (x1).toNatClampNeg j96_0), (upd mhm (x1).toNatClampNeg j126_0))))) → J τ κ 0 0 (wM τ a ss mhd mas mbf mih mtp mtn mtk mfr mtt mvl miw mld mrw mrn mso msz mnu mhw mhh mhm mbo mrr mak man maa mip) [(0, .ref (a 0)), (1, .int x1), (2, .int x2), (3, .int x3), (4, .int j47_0)] 89 [.int j72_0, .int x1, .ref (a 11)] := by
                intro j72_0  hR
                refine j_iast C dX6_shelf_89 90 rfl 11 rfl (in_sf6 c2) (x1).toNatClampNeg rfl (wM τ a ss mhd mas mbf mih mtp mtn mtk mfr mtt mvl miw mld mrw mrn mso msz mnu (upd mhw (x1).toNatClampNeg j72_0) mhh mhm mbo mrr mak man maa mip) rfl ?_
                refine j_aload_n C dX6_shelf_90 91 rfl rfl 0 rfl ?_
                refine j_get C dX6_shelf_91 94 rfl hiX6 0 rfl rfl 19 (by decide) rfl kX6_shelf_f43 rfl ?_
                refine j_iload_n C dX6_shelf_94 95 rfl rfl 1 rfl ?_
                refine j_iload_n C dX6_shelf_95 96 rfl rfl 2 rfl ?_
                have J96 : ∀ (j96_0 : Int32), Rt τ κ cX6_shelf .int (fun u : (Nat → Int32) × (Nat → Int32) × (Nat → Int32) => (wM τ a ss mhd mas mbf mih mtp mtn mtk mfr mtt mvl miw mld mrw mrn mso msz mnu u.1 u.2.1 u.2.2 mbo mrr mak man maa mip)) (pr1 (if (j47_0 = 0) then (0 : Int32) else (msz (x3).toNatClampNeg)) (fun j126_0 => ((1 : Int32), (upd mhw (x1).toNatClampNeg j72_0), (upd mhh (x1).toNatClampNeg j96_0), (upd mhm (x1).toNatClampNeg j126_0)))) → J τ κ 0 0 (wM τ a ss mhd mas mbf mih mtp mtn mtk mfr mtt mvl miw mld mrw mrn mso msz mnu (upd mhw (x1).toNatClampNeg j72_0) mhh mhm mbo mrr mak man maa mip) [(0, .ref (a 0)), (1, .int x1), (2, .int x2), (3, .int x3), (4, .int j47_0)] 118 [.int j96_0, .int x1, .ref (a 12)] := by
                  intro j96_0  hR
                  refine j_iast C dX6_shelf_118 119 rfl 12 rfl (in_sf6 c2) (x1).toNatClampNeg rfl (wM τ a ss mhd mas mbf mih mtp mtn mtk mfr mtt mvl miw mld mrw mrn mso msz mnu (upd mhw (x1).toNatClampNeg j72_0) (upd mhh (x1).toNatClampNeg j96_0) mhm mbo mrr mak man maa mip) rfl ?_
                  refine j_aload_n C dX6_shelf_119 120 rfl rfl 0 rfl ?_
                  refine j_get C dX6_shelf_120 123 rfl hiX6 0 rfl rfl 20 (by decide) rfl kX6_shelf_f46 rfl ?_
                  refine j_iload_n C dX6_shelf_123 124 rfl rfl 1 rfl ?_
                  refine j_iload C dX6_shelf_124 126 rfl 4 rfl ?_
                  have J126 : ∀ (j126_0 : Int32), Rt τ κ cX6_shelf .int (fun u : (Nat → Int32) × (Nat → Int32) × (Nat → Int32) => (wM τ a ss mhd mas mbf mih mtp mtn mtk mfr mtt mvl miw mld mrw mrn mso msz mnu u.1 u.2.1 u.2.2 mbo mrr mak man maa mip)) (((1 : Int32), (upd mhw (x1).toNatClampNeg j72_0), (upd mhh (x1).toNatClampNeg j96_0), (upd mhm (x1).toNatClampNeg j126_0))) → J τ κ 0 0 (wM τ a ss mhd mas mbf mih mtp mtn mtk mfr mtt mvl miw mld mrw mrn mso msz mnu (upd mhw (x1).toNatClampNeg j72_0) (upd mhh (x1).toNatClampNeg j96_0) mhm mbo mrr mak man maa mip) [(0, .ref (a 0)), (1, .int x1), (2, .int x2), (3, .int x3), (4, .int j47_0)] 139 [.int j126_0, .int x1, .ref (a 13)] := by
                    intro j126_0  hR
                    refine j_iast C dX6_shelf_139 140 rfl 13 rfl (in_sf6 c2) (x1).toNatClampNeg rfl (wM τ a ss mhd mas mbf mih mtp mtn mtk mfr mtt mvl miw mld mrw mrn mso msz mnu (upd mhw (x1).toNatClampNeg j72_0) (upd mhh (x1).toNatClampNeg j96_0) (upd mhm (x1).toNatClampNeg j126_0) mbo mrr mak man maa mip) rfl ?_
                    refine j_iconst (v := 1) C dX6_shelf_140 141 rfl (by decide) ?_
                    exact Rt.ret (hR) rfl dX6_shelf_141
                  refine j_if_eq C dX6_shelf_126 138 rfl 129 rfl (fun c34 => ?_) (fun c34 => ?_)
                  · rw [if_pos c34] at hR
                    refine j_iconst (v := 0) C dX6_shelf_138 139 rfl (by decide) ?_
                    rw [pr1_mk (0 : Int32)] at hR
                    exact j_lv [0, 1, 2, 3, 4] [(0, .ref (a 0)), (1, .int x1), (2, .int x2), (3, .int x3), (4, .int j47_0)] rfl (J126 _  hR)
                  · rw [if_neg c34] at hR
                    refine j_aload_n C dX6_shelf_129 130 rfl rfl 0 rfl ?_
                    refine j_get C dX6_shelf_130 133 rfl hiX6 0 rfl rfl 16 (by decide) rfl kX6_shelf_f34 rfl ?_
                    refine j_iload_n C dX6_shelf_133 134 rfl rfl 3 rfl ?_
                    refine j_iald C dX6_shelf_134 135 rfl 9 rfl (hj c34) (x3).toNatClampNeg rfl ?_
                    refine j_goto C dX6_shelf_135 139 rfl ?_
                    rw [pr1_mk (msz (x3).toNatClampNeg)] at hR
                    exact j_lv [0, 1, 2, 3, 4] [(0, .ref (a 0)), (1, .int x1), (2, .int x2), (3, .int x3), (4, .int j47_0)] rfl (J126 _  hR)
                refine j_if_ne C dX6_shelf_96 103 rfl 99 rfl (fun c32 => ?_) (fun c32 => ?_)
                · rw [if_neg c32] at hR
                  refine j_iload C dX6_shelf_103 105 rfl 4 rfl ?_
                  refine j_if_eq C dX6_shelf_105 117 rfl 108 rfl (fun c33 => ?_) (fun c33 => ?_)
                  · rw [if_pos c33] at hR
                    refine j_iconst (v := 0) C dX6_shelf_117 118 rfl (by decide) ?_
                    rw [pr1_mk (0 : Int32)] at hR
                    exact j_lv [0, 1, 2, 3, 4] [(0, .ref (a 0)), (1, .int x1), (2, .int x2), (3, .int x3), (4, .int j47_0)] rfl (J96 _  hR)
                  · rw [if_neg c33] at hR
                    refine j_aload_n C dX6_shelf_108 109 rfl rfl 0 rfl ?_
                    refine j_get C dX6_shelf_109 112 rfl hiX6 0 rfl rfl 15 (by decide) rfl kX6_shelf_f31 rfl ?_
                    refine j_iload_n C dX6_shelf_112 113 rfl rfl 3 rfl ?_
                    refine j_iald C dX6_shelf_113 114 rfl 8 rfl (hj c33) (x3).toNatClampNeg rfl ?_
                    refine j_goto C dX6_shelf_114 118 rfl ?_
                    rw [pr1_mk (mso (x3).toNatClampNeg)] at hR
                    exact j_lv [0, 1, 2, 3, 4] [(0, .ref (a 0)), (1, .int x1), (2, .int x2), (3, .int x3), (4, .int j47_0)] rfl (J96 _  hR)
                · rw [if_pos c32] at hR
                  refine j_iload_n C dX6_shelf_99 100 rfl rfl 3 rfl ?_
                  refine j_goto C dX6_shelf_100 118 rfl ?_
                  rw [pr1_mk x3] at hR
                  exact j_lv [0, 1, 2, 3, 4] [(0, .ref (a 0)), (1, .int x1), (2, .int x2), (3, .int x3), (4, .int j47_0)] rfl (J96 _  hR)
              refine j_if_ne C dX6_shelf_72 79 rfl 75 rfl (fun c30 => ?_) (fun c30 => ?_)
              · rw [if_neg c30] at hR
                refine j_iload C dX6_shelf_79 81 rfl 0 rfl ?_
                refine j_if_eq C dX6_shelf_81 88 rfl 84 rfl (fun c31 => ?_) (fun c31 => ?_)
                · rw [if_pos c31] at hR
                  refine j_iconst (v := 0) C dX6_shelf_88 89 rfl (by decide) ?_
                  rw [pr1_mk (0 : Int32)] at hR
                  exact j_lv [1, 2, 3, 4, 0] [(0, .ref (a 0)), (1, .int x1), (2, .int x2), (3, .int x3), (4, .int j47_0)] rfl (J72 _  hR)
                · rw [if_neg c31] at hR
                  refine j_iconst (v := 2) C dX6_shelf_84 85 rfl (by decide) ?_
                  refine j_goto C dX6_shelf_85 89 rfl ?_
                  rw [pr1_mk (2 : Int32)] at hR
                  exact j_lv [1, 2, 3, 4, 0] [(0, .ref (a 0)), (1, .int x1), (2, .int x2), (3, .int x3), (4, .int j47_0)] rfl (J72 _  hR)
              · rw [if_pos c30] at hR
                refine j_iconst (v := 1) C dX6_shelf_75 76 rfl (by decide) ?_
                refine j_goto C dX6_shelf_76 89 rfl ?_
                rw [pr1_mk (1 : Int32)] at hR
                exact j_lv [1, 2, 3, 4, 0] [(0, .ref (a 0)), (1, .int x1), (2, .int x2), (3, .int x3), (4, .int j47_0)] rfl (J72 _  hR)
            refine j_icmp_ne C dX6_shelf_47 63 rfl 50 rfl (fun c28 => ?_) (fun c28 => ?_)
            · rw [if_neg c28] at hR
              refine j_iconst (v := 0) C dX6_shelf_63 64 rfl (by decide) ?_
              rw [pr1_mk (0 : Int32)] at hR
              exact j_lv [0, 1, 2, 3] [(0, .ref (a 0)), (1, .int x1), (2, .int x2), (3, .int x3)] rfl (J47 _ (by first | exact fun h => absurd rfl h | exact fun _ => in_sh6 (by assumption) | exact absurd (by assumption : x2 = 1) (by assumption : ¬ x2 = 1) | exact absurd ((by assumption : x2 = 0).symm.trans (by assumption : x2 = 1)) (by decide)) hR)
            · rw [if_pos c28] at hR
              refine j_aload_n C dX6_shelf_50 51 rfl rfl 0 rfl ?_
              refine j_get C dX6_shelf_51 54 rfl hiX6 0 rfl rfl 15 (by decide) rfl kX6_shelf_f31 rfl ?_
              refine j_iload_n C dX6_shelf_54 55 rfl rfl 3 rfl ?_
              refine j_iald C dX6_shelf_55 56 rfl 8 rfl (by first | exact in_sh6 c27 | exact absurd (by assumption : x2 = 1) (by assumption : ¬ x2 = 1) | exact absurd ((by assumption : x2 = 0).symm.trans (by assumption : x2 = 1)) (by decide)) (x3).toNatClampNeg rfl ?_
              refine j_if_lt C dX6_shelf_56 63 rfl 59 rfl (fun c29 => ?_) (fun c29 => ?_)
              · rw [if_pos c29] at hR
                refine j_iconst (v := 0) C dX6_shelf_63 64 rfl (by decide) ?_
                rw [pr1_mk (0 : Int32)] at hR
                exact j_lv [0, 1, 2, 3] [(0, .ref (a 0)), (1, .int x1), (2, .int x2), (3, .int x3)] rfl (J47 _ (by first | exact fun h => absurd rfl h | exact fun _ => in_sh6 (by assumption) | exact absurd (by assumption : x2 = 1) (by assumption : ¬ x2 = 1) | exact absurd ((by assumption : x2 = 0).symm.trans (by assumption : x2 = 1)) (by decide)) hR)
              · rw [if_neg c29] at hR
                refine j_iconst (v := 1) C dX6_shelf_59 60 rfl (by decide) ?_
                refine j_goto C dX6_shelf_60 64 rfl ?_
                rw [pr1_mk (1 : Int32)] at hR
                exact j_lv [0, 1, 2, 3] [(0, .ref (a 0)), (1, .int x1), (2, .int x2), (3, .int x3)] rfl (J47 _ (by first | exact fun h => absurd rfl h | exact fun _ => in_sh6 (by assumption) | exact absurd (by assumption : x2 = 1) (by assumption : ¬ x2 = 1) | exact absurd ((by assumption : x2 = 0).symm.trans (by assumption : x2 = 1)) (by decide)) hR)
          · rw [if_pos c27] at hR
            refine j_iconst (v := (-1)) C dX6_shelf_43 44 rfl (by decide) ?_
            exact Rt.ret (hR) rfl dX6_shelf_44
      · rw [if_pos c5] at hR
        refine j_aload_n C dX6_shelf_23 24 rfl rfl 0 rfl ?_
        refine j_iload_n C dX6_shelf_24 25 rfl rfl 3 rfl ?_
        refine j_cv0I (na := 1) C dX6_shelf_25 28 rfl (c_X6_isOne τ a ss mhd mas mbf mih mtp mtn mtk mfr mtt mvl miw mld mrw mrn mso msz mnu mhw mhh mhm mbo mrr mak man maa mip x3 (by first | assumption | (unfold vp_in; decide))) gX6_shelf_X6_isOne rfl rfl rfl qd_X6_isOne rfl ⟨by decide, by decide⟩ ⟨by decide, by decide⟩ rfl (Nat.le_of_ble_eq_true rfl) rfl 6 0 rfl rfl (fun r6 u6 hX6 hn6 => ?_)
        obtain rfl := (Prod.mk.inj hX6).1
        refine j_if_eq C dX6_shelf_28 43 rfl 31 rfl (fun c7 => ?_) (fun c7 => ?_)
        · rw [if_pos c7] at hR
          refine j_iconst (v := (-1)) C dX6_shelf_43 44 rfl (by decide) ?_
          exact Rt.ret (hR) rfl dX6_shelf_44
        · rw [if_neg c7] at hR
          refine j_iload_n C dX6_shelf_31 32 rfl rfl 2 rfl ?_
          refine j_iconst (v := 1) C dX6_shelf_32 33 rfl (by decide) ?_
          refine j_icmp_ne C dX6_shelf_33 45 rfl 36 rfl (fun c8 => ?_) (fun c8 => ?_)
          · rw [if_neg c8] at hR
            refine j_iload_n C dX6_shelf_45 46 rfl rfl 2 rfl ?_
            refine j_iconst (v := 1) C dX6_shelf_46 47 rfl (by decide) ?_
            have J47 : ∀ (j47_0 : Int32), (¬ j47_0 = 0 → vp_in x3 4) → Rt τ κ cX6_shelf .int (fun u : (Nat → Int32) × (Nat → Int32) × (Nat → Int32) => (wM τ a ss mhd mas mbf mih mtp mtn mtk mfr mtt mvl miw mld mrw mrn mso msz mnu u.1 u.2.1 u.2.2 mbo mrr mak man maa mip)) (pr1 (if (x2 = 0) then (1 : Int32) else (if (j47_0 = 0) then (0 : Int32) else (2 : Int32))) (fun j72_0 => pr1 (if (x2 = 0) then x3 else (if (j47_0 = 0) then (0 : Int32) else (mso (x3).toNatClampNeg))) (fun j96_0 => pr1 (if (j47_0 = 0) then (0 : Int32) else (msz (x3).toNatClampNeg)) (fun j126_0 => ((1 : Int32), (upd mhw (x1).toNatClampNeg j72_0), (upd mhh (x1).toNatClampNeg j96_0), (upd mhm (x1).toNatClampNeg j126_0)))))) → J τ κ 0 0 (wM τ a ss mhd mas mbf mih mtp mtn mtk mfr mtt mvl miw mld mrw mrn mso msz mnu mhw mhh mhm mbo mrr mak man maa mip) [(0, .ref (a 0)), (1, .int x1), (2, .int x2), (3, .int x3)] 64 [.int j47_0] := by
              intro j47_0 hj hR
              refine j_istore C dX6_shelf_64 66 rfl (by decide) [(4, .int j47_0), (0, .ref (a 0)), (1, .int x1), (2, .int x2), (3, .int x3)] rfl ?_
              refine j_aload_n C dX6_shelf_66 67 rfl rfl 1 rfl ?_
              refine j_get C dX6_shelf_67 70 rfl hiX6 0 rfl rfl 18 (by decide) rfl kX6_shelf_f40 rfl ?_
              refine j_iload_n C dX6_shelf_70 71 rfl rfl 2 rfl ?_
              refine j_iload_n C dX6_shelf_71 72 rfl rfl 3 rfl ?_
              have J72 : ∀ (j72_0 : Int32), Rt τ κ cX6_shelf .int (fun u : (Nat → Int32) × (Nat → Int32) × (Nat → Int32) => (wM τ a ss mhd mas mbf mih mtp mtn mtk mfr mtt mvl miw mld mrw mrn mso msz mnu u.1 u.2.1 u.2.2 mbo mrr mak man maa mip)) (pr1 (if (x2 = 0) then x3 else (if (j47_0 = 0) then (0 : Int32) else (mso (x3).toNatClampNeg))) (fun j96_0 => pr1 (if (j47_0 = 0) then (0 : Int32) else (msz (x3).toNatClampNeg)) (fun j126_0 => ((1 : Int32), (upd mhw (x1).toNatClampNeg j72_0), (upd mhh (x1).toNatClampNeg j96_0), (upd mhm (x1).toNatClampNeg j126_0))))) → J τ κ 0 0 (wM τ a ss mhd mas mbf mih mtp mtn mtk mfr mtt mvl miw mld mrw mrn mso msz mnu mhw mhh mhm mbo mrr mak man maa mip) [(0, .ref (a 0)), (1, .int x1), (2, .int x2), (3, .int x3), (4, .int j47_0)] 89 [.int j72_0, .int x1, .ref (a 11)] := by
                intro j72_0  hR
                refine j_iast C dX6_shelf_89 90 rfl 11 rfl (in_sf6 c2) (x1).toNatClampNeg rfl (wM τ a ss mhd mas mbf mih mtp mtn mtk mfr mtt mvl miw mld mrw mrn mso msz mnu (upd mhw (x1).toNatClampNeg j72_0) mhh mhm mbo mrr mak man maa mip) rfl ?_
                refine j_aload_n C dX6_shelf_90 91 rfl rfl 0 rfl ?_
                refine j_get C dX6_shelf_91 94 rfl hiX6 0 rfl rfl 19 (by decide) rfl kX6_shelf_f43 rfl ?_
                refine j_iload_n C dX6_shelf_94 95 rfl rfl 1 rfl ?_
                refine j_iload_n C dX6_shelf_95 96 rfl rfl 2 rfl ?_
                have J96 : ∀ (j96_0 : Int32), Rt τ κ cX6_shelf .int (fun u : (Nat → Int32) × (Nat → Int32) × (Nat → Int32) => (wM τ a ss mhd mas mbf mih mtp mtn mtk mfr mtt mvl miw mld mrw mrn mso msz mnu u.1 u.2.1 u.2.2 mbo mrr mak man maa mip)) (pr1 (if (j47_0 = 0) then (0 : Int32) else (msz (x3).toNatClampNeg)) (fun j126_0 => ((1 : Int32), (upd mhw (x1).toNatClampNeg j72_0), (upd mhh (x1).toNatClampNeg j96_0), (upd mhm (x1).toNatClampNeg j126_0)))) → J τ κ 0 0 (wM τ a ss mhd mas mbf mih mtp mtn mtk mfr mtt mvl miw mld mrw mrn mso msz mnu (upd mhw (x1).toNatClampNeg j72_0) mhh mhm mbo mrr mak man maa mip) [(0, .ref (a 0)), (1, .int x1), (2, .int x2), (3, .int x3), (4, .int j47_0)] 118 [.int j96_0, .int x1, .ref (a 12)] := by
                  intro j96_0  hR
                  refine j_iast C dX6_shelf_118 119 rfl 12 rfl (in_sf6 c2) (x1).toNatClampNeg rfl (wM τ a ss mhd mas mbf mih mtp mtn mtk mfr mtt mvl miw mld mrw mrn mso msz mnu (upd mhw (x1).toNatClampNeg j72_0) (upd mhh (x1).toNatClampNeg j96_0) mhm mbo mrr mak man maa mip) rfl ?_
                  refine j_aload_n C dX6_shelf_119 120 rfl rfl 0 rfl ?_
                  refine j_get C dX6_shelf_120 123 rfl hiX6 0 rfl rfl 20 (by decide) rfl kX6_shelf_f46 rfl ?_
                  refine j_iload_n C dX6_shelf_123 124 rfl rfl 1 rfl ?_
                  refine j_iload C dX6_shelf_124 126 rfl 4 rfl ?_
                  have J126 : ∀ (j126_0 : Int32), Rt τ κ cX6_shelf .int (fun u : (Nat → Int32) × (Nat → Int32) × (Nat → Int32) => (wM τ a ss mhd mas mbf mih mtp mtn mtk mfr mtt mvl miw mld mrw mrn mso msz mnu u.1 u.2.1 u.2.2 mbo mrr mak man maa mip)) (((1 : Int32), (upd mhw (x1).toNatClampNeg j72_0), (upd mhh (x1).toNatClampNeg j96_0), (upd mhm (x1).toNatClampNeg j126_0))) → J τ κ 0 0 (wM τ a ss mhd mas mbf mih mtp mtn mtk mfr mtt mvl miw mld mrw mrn mso msz mnu (upd mhw (x1).toNatClampNeg j72_0) (upd mhh (x1).toNatClampNeg j96_0) mhm mbo mrr mak man maa mip) [(0, .ref (a 0)), (1, .int x1), (2, .int x2), (3, .int x3), (4, .int j47_0)] 139 [.int j126_0, .int x1, .ref (a 13)] := by
                    intro j126_0  hR
                    refine j_iast C dX6_shelf_139 140 rfl 13 rfl (in_sf6 c2) (x1).toNatClampNeg rfl (wM τ a ss mhd mas mbf mih mtp mtn mtk mfr mtt mvl miw mld mrw mrn mso msz mnu (upd mhw (x1).toNatClampNeg j72_0) (upd mhh (x1).toNatClampNeg j96_0) (upd mhm (x1).toNatClampNeg j126_0) mbo mrr mak man maa mip) rfl ?_
                    refine j_iconst (v := 1) C dX6_shelf_140 141 rfl (by decide) ?_
                    exact Rt.ret (hR) rfl dX6_shelf_141
                  refine j_if_eq C dX6_shelf_126 138 rfl 129 rfl (fun c24 => ?_) (fun c24 => ?_)
                  · rw [if_pos c24] at hR
                    refine j_iconst (v := 0) C dX6_shelf_138 139 rfl (by decide) ?_
                    rw [pr1_mk (0 : Int32)] at hR
                    exact j_lv [0, 1, 2, 3, 4] [(0, .ref (a 0)), (1, .int x1), (2, .int x2), (3, .int x3), (4, .int j47_0)] rfl (J126 _  hR)
                  · rw [if_neg c24] at hR
                    refine j_aload_n C dX6_shelf_129 130 rfl rfl 0 rfl ?_
                    refine j_get C dX6_shelf_130 133 rfl hiX6 0 rfl rfl 16 (by decide) rfl kX6_shelf_f34 rfl ?_
                    refine j_iload_n C dX6_shelf_133 134 rfl rfl 3 rfl ?_
                    refine j_iald C dX6_shelf_134 135 rfl 9 rfl (hj c24) (x3).toNatClampNeg rfl ?_
                    refine j_goto C dX6_shelf_135 139 rfl ?_
                    rw [pr1_mk (msz (x3).toNatClampNeg)] at hR
                    exact j_lv [0, 1, 2, 3, 4] [(0, .ref (a 0)), (1, .int x1), (2, .int x2), (3, .int x3), (4, .int j47_0)] rfl (J126 _  hR)
                refine j_if_ne C dX6_shelf_96 103 rfl 99 rfl (fun c22 => ?_) (fun c22 => ?_)
                · rw [if_neg c22] at hR
                  refine j_iload C dX6_shelf_103 105 rfl 4 rfl ?_
                  refine j_if_eq C dX6_shelf_105 117 rfl 108 rfl (fun c23 => ?_) (fun c23 => ?_)
                  · rw [if_pos c23] at hR
                    refine j_iconst (v := 0) C dX6_shelf_117 118 rfl (by decide) ?_
                    rw [pr1_mk (0 : Int32)] at hR
                    exact j_lv [0, 1, 2, 3, 4] [(0, .ref (a 0)), (1, .int x1), (2, .int x2), (3, .int x3), (4, .int j47_0)] rfl (J96 _  hR)
                  · rw [if_neg c23] at hR
                    refine j_aload_n C dX6_shelf_108 109 rfl rfl 0 rfl ?_
                    refine j_get C dX6_shelf_109 112 rfl hiX6 0 rfl rfl 15 (by decide) rfl kX6_shelf_f31 rfl ?_
                    refine j_iload_n C dX6_shelf_112 113 rfl rfl 3 rfl ?_
                    refine j_iald C dX6_shelf_113 114 rfl 8 rfl (hj c23) (x3).toNatClampNeg rfl ?_
                    refine j_goto C dX6_shelf_114 118 rfl ?_
                    rw [pr1_mk (mso (x3).toNatClampNeg)] at hR
                    exact j_lv [0, 1, 2, 3, 4] [(0, .ref (a 0)), (1, .int x1), (2, .int x2), (3, .int x3), (4, .int j47_0)] rfl (J96 _  hR)
                · rw [if_pos c22] at hR
                  refine j_iload_n C dX6_shelf_99 100 rfl rfl 3 rfl ?_
                  refine j_goto C dX6_shelf_100 118 rfl ?_
                  rw [pr1_mk x3] at hR
                  exact j_lv [0, 1, 2, 3, 4] [(0, .ref (a 0)), (1, .int x1), (2, .int x2), (3, .int x3), (4, .int j47_0)] rfl (J96 _  hR)
              refine j_if_ne C dX6_shelf_72 79 rfl 75 rfl (fun c20 => ?_) (fun c20 => ?_)
              · rw [if_neg c20] at hR
                refine j_iload C dX6_shelf_79 81 rfl 0 rfl ?_
                refine j_if_eq C dX6_shelf_81 88 rfl 84 rfl (fun c21 => ?_) (fun c21 => ?_)
                · rw [if_pos c21] at hR
                  refine j_iconst (v := 0) C dX6_shelf_88 89 rfl (by decide) ?_
                  rw [pr1_mk (0 : Int32)] at hR
                  exact j_lv [1, 2, 3, 4, 0] [(0, .ref (a 0)), (1, .int x1), (2, .int x2), (3, .int x3), (4, .int j47_0)] rfl (J72 _  hR)
                · rw [if_neg c21] at hR
                  refine j_iconst (v := 2) C dX6_shelf_84 85 rfl (by decide) ?_
                  refine j_goto C dX6_shelf_85 89 rfl ?_
                  rw [pr1_mk (2 : Int32)] at hR
                  exact j_lv [1, 2, 3, 4, 0] [(0, .ref (a 0)), (1, .int x1), (2, .int x2), (3, .int x3), (4, .int j47_0)] rfl (J72 _  hR)
              · rw [if_pos c20] at hR
                refine j_iconst (v := 1) C dX6_shelf_75 76 rfl (by decide) ?_
                refine j_goto C dX6_shelf_76 89 rfl ?_
                rw [pr1_mk (1 : Int32)] at hR
                exact j_lv [1, 2, 3, 4, 0] [(0, .ref (a 0)), (1, .int x1), (2, .int x2), (3, .int x3), (4, .int j47_0)] rfl (J72 _  hR)
            refine j_icmp_ne C dX6_shelf_47 63 rfl 50 rfl (fun c18 => ?_) (fun c18 => ?_)
            · rw [if_neg c18] at hR
              refine j_iconst (v := 0) C dX6_shelf_63 64 rfl (by decide) ?_
              rw [pr1_mk (0 : Int32)] at hR
              exact j_lv [0, 1, 2, 3] [(0, .ref (a 0)), (1, .int x1), (2, .int x2), (3, .int x3)] rfl (J47 _ (by first | exact fun h => absurd rfl h | exact fun _ => in_sh6 (by assumption) | exact absurd (by assumption : x2 = 1) (by assumption : ¬ x2 = 1) | exact absurd ((by assumption : x2 = 0).symm.trans (by assumption : x2 = 1)) (by decide)) hR)
            · rw [if_pos c18] at hR
              refine j_aload_n C dX6_shelf_50 51 rfl rfl 0 rfl ?_
              refine j_get C dX6_shelf_51 54 rfl hiX6 0 rfl rfl 15 (by decide) rfl kX6_shelf_f31 rfl ?_
              refine j_iload_n C dX6_shelf_54 55 rfl rfl 3 rfl ?_
              refine j_iald C dX6_shelf_55 56 rfl 8 rfl (by first | exact in_sh6 c10 | exact absurd (by assumption : x2 = 1) (by assumption : ¬ x2 = 1) | exact absurd ((by assumption : x2 = 0).symm.trans (by assumption : x2 = 1)) (by decide)) (x3).toNatClampNeg rfl ?_
              refine j_if_lt C dX6_shelf_56 63 rfl 59 rfl (fun c19 => ?_) (fun c19 => ?_)
              · rw [if_pos c19] at hR
                refine j_iconst (v := 0) C dX6_shelf_63 64 rfl (by decide) ?_
                rw [pr1_mk (0 : Int32)] at hR
                exact j_lv [0, 1, 2, 3] [(0, .ref (a 0)), (1, .int x1), (2, .int x2), (3, .int x3)] rfl (J47 _ (by first | exact fun h => absurd rfl h | exact fun _ => in_sh6 (by assumption) | exact absurd (by assumption : x2 = 1) (by assumption : ¬ x2 = 1) | exact absurd ((by assumption : x2 = 0).symm.trans (by assumption : x2 = 1)) (by decide)) hR)
              · rw [if_neg c19] at hR
                refine j_iconst (v := 1) C dX6_shelf_59 60 rfl (by decide) ?_
                refine j_goto C dX6_shelf_60 64 rfl ?_
                rw [pr1_mk (1 : Int32)] at hR
                exact j_lv [0, 1, 2, 3] [(0, .ref (a 0)), (1, .int x1), (2, .int x2), (3, .int x3)] rfl (J47 _ (by first | exact fun h => absurd rfl h | exact fun _ => in_sh6 (by assumption) | exact absurd (by assumption : x2 = 1) (by assumption : ¬ x2 = 1) | exact absurd ((by assumption : x2 = 0).symm.trans (by assumption : x2 = 1)) (by decide)) hR)
          · rw [if_pos c8] at hR
            refine j_iload_n C dX6_shelf_36 37 rfl rfl 3 rfl ?_
            refine j_cs0I (na := 1) C dX6_shelf_37 40 rfl (c_X6_isSheet τ  x3 ) rfl ggX6_shelf_X6_isSheet rfl rfl rfl kX6_shelf_iRX6 kX6_shelf_m238 kX6_shelf_sX6_isSheet qd_X6_isSheet rfl ⟨by decide, by decide⟩ ⟨by decide, by decide⟩ rfl (Nat.le_of_ble_eq_true rfl) (fun r9 u9 hX9 hn9 => ?_)
            obtain rfl := (Prod.mk.inj hX9).1
            refine j_if_ne C dX6_shelf_40 45 rfl 43 rfl (fun c10 => ?_) (fun c10 => ?_)
            · rw [if_neg c10] at hR
              refine j_iload_n C dX6_shelf_45 46 rfl rfl 2 rfl ?_
              refine j_iconst (v := 1) C dX6_shelf_46 47 rfl (by decide) ?_
              have J47 : ∀ (j47_0 : Int32), (¬ j47_0 = 0 → vp_in x3 4) → Rt τ κ cX6_shelf .int (fun u : (Nat → Int32) × (Nat → Int32) × (Nat → Int32) => (wM τ a ss mhd mas mbf mih mtp mtn mtk mfr mtt mvl miw mld mrw mrn mso msz mnu u.1 u.2.1 u.2.2 mbo mrr mak man maa mip)) (pr1 (if (x2 = 0) then (1 : Int32) else (if (j47_0 = 0) then (0 : Int32) else (2 : Int32))) (fun j72_0 => pr1 (if (x2 = 0) then x3 else (if (j47_0 = 0) then (0 : Int32) else (mso (x3).toNatClampNeg))) (fun j96_0 => pr1 (if (j47_0 = 0) then (0 : Int32) else (msz (x3).toNatClampNeg)) (fun j126_0 => ((1 : Int32), (upd mhw (x1).toNatClampNeg j72_0), (upd mhh (x1).toNatClampNeg j96_0), (upd mhm (x1).toNatClampNeg j126_0)))))) → J τ κ 0 0 (wM τ a ss mhd mas mbf mih mtp mtn mtk mfr mtt mvl miw mld mrw mrn mso msz mnu mhw mhh mhm mbo mrr mak man maa mip) [(0, .ref (a 0)), (1, .int x1), (2, .int x2), (3, .int x3)] 64 [.int j47_0] := by
                intro j47_0 hj hR
                refine j_istore C dX6_shelf_64 66 rfl (by decide) [(4, .int j47_0), (0, .ref (a 0)), (1, .int x1), (2, .int x2), (3, .int x3)] rfl ?_
                refine j_aload_n C dX6_shelf_66 67 rfl rfl 1 rfl ?_
                refine j_get C dX6_shelf_67 70 rfl hiX6 0 rfl rfl 18 (by decide) rfl kX6_shelf_f40 rfl ?_
                refine j_iload_n C dX6_shelf_70 71 rfl rfl 2 rfl ?_
                refine j_iload_n C dX6_shelf_71 72 rfl rfl 3 rfl ?_
                have J72 : ∀ (j72_0 : Int32), Rt τ κ cX6_shelf .int (fun u : (Nat → Int32) × (Nat → Int32) × (Nat → Int32) => (wM τ a ss mhd mas mbf mih mtp mtn mtk mfr mtt mvl miw mld mrw mrn mso msz mnu u.1 u.2.1 u.2.2 mbo mrr mak man maa mip)) (pr1 (if (x2 = 0) then x3 else (if (j47_0 = 0) then (0 : Int32) else (mso (x3).toNatClampNeg))) (fun j96_0 => pr1 (if (j47_0 = 0) then (0 : Int32) else (msz (x3).toNatClampNeg)) (fun j126_0 => ((1 : Int32), (upd mhw (x1).toNatClampNeg j72_0), (upd mhh (x1).toNatClampNeg j96_0), (upd mhm (x1).toNatClampNeg j126_0))))) → J τ κ 0 0 (wM τ a ss mhd mas mbf mih mtp mtn mtk mfr mtt mvl miw mld mrw mrn mso msz mnu mhw mhh mhm mbo mrr mak man maa mip) [(0, .ref (a 0)), (1, .int x1), (2, .int x2), (3, .int x3), (4, .int j47_0)] 89 [.int j72_0, .int x1, .ref (a 11)] := by
                  intro j72_0  hR
                  refine j_iast C dX6_shelf_89 90 rfl 11 rfl (in_sf6 c2) (x1).toNatClampNeg rfl (wM τ a ss mhd mas mbf mih mtp mtn mtk mfr mtt mvl miw mld mrw mrn mso msz mnu (upd mhw (x1).toNatClampNeg j72_0) mhh mhm mbo mrr mak man maa mip) rfl ?_
                  refine j_aload_n C dX6_shelf_90 91 rfl rfl 0 rfl ?_
                  refine j_get C dX6_shelf_91 94 rfl hiX6 0 rfl rfl 19 (by decide) rfl kX6_shelf_f43 rfl ?_
                  refine j_iload_n C dX6_shelf_94 95 rfl rfl 1 rfl ?_
                  refine j_iload_n C dX6_shelf_95 96 rfl rfl 2 rfl ?_
                  have J96 : ∀ (j96_0 : Int32), Rt τ κ cX6_shelf .int (fun u : (Nat → Int32) × (Nat → Int32) × (Nat → Int32) => (wM τ a ss mhd mas mbf mih mtp mtn mtk mfr mtt mvl miw mld mrw mrn mso msz mnu u.1 u.2.1 u.2.2 mbo mrr mak man maa mip)) (pr1 (if (j47_0 = 0) then (0 : Int32) else (msz (x3).toNatClampNeg)) (fun j126_0 => ((1 : Int32), (upd mhw (x1).toNatClampNeg j72_0), (upd mhh (x1).toNatClampNeg j96_0), (upd mhm (x1).toNatClampNeg j126_0)))) → J τ κ 0 0 (wM τ a ss mhd mas mbf mih mtp mtn mtk mfr mtt mvl miw mld mrw mrn mso msz mnu (upd mhw (x1).toNatClampNeg j72_0) mhh mhm mbo mrr mak man maa mip) [(0, .ref (a 0)), (1, .int x1), (2, .int x2), (3, .int x3), (4, .int j47_0)] 118 [.int j96_0, .int x1, .ref (a 12)] := by
                    intro j96_0  hR
                    refine j_iast C dX6_shelf_118 119 rfl 12 rfl (in_sf6 c2) (x1).toNatClampNeg rfl (wM τ a ss mhd mas mbf mih mtp mtn mtk mfr mtt mvl miw mld mrw mrn mso msz mnu (upd mhw (x1).toNatClampNeg j72_0) (upd mhh (x1).toNatClampNeg j96_0) mhm mbo mrr mak man maa mip) rfl ?_
                    refine j_aload_n C dX6_shelf_119 120 rfl rfl 0 rfl ?_
                    refine j_get C dX6_shelf_120 123 rfl hiX6 0 rfl rfl 20 (by decide) rfl kX6_shelf_f46 rfl ?_
                    refine j_iload_n C dX6_shelf_123 124 rfl rfl 1 rfl ?_
                    refine j_iload C dX6_shelf_124 126 rfl 4 rfl ?_
                    have J126 : ∀ (j126_0 : Int32), Rt τ κ cX6_shelf .int (fun u : (Nat → Int32) × (Nat → Int32) × (Nat → Int32) => (wM τ a ss mhd mas mbf mih mtp mtn mtk mfr mtt mvl miw mld mrw mrn mso msz mnu u.1 u.2.1 u.2.2 mbo mrr mak man maa mip)) (((1 : Int32), (upd mhw (x1).toNatClampNeg j72_0), (upd mhh (x1).toNatClampNeg j96_0), (upd mhm (x1).toNatClampNeg j126_0))) → J τ κ 0 0 (wM τ a ss mhd mas mbf mih mtp mtn mtk mfr mtt mvl miw mld mrw mrn mso msz mnu (upd mhw (x1).toNatClampNeg j72_0) (upd mhh (x1).toNatClampNeg j96_0) mhm mbo mrr mak man maa mip) [(0, .ref (a 0)), (1, .int x1), (2, .int x2), (3, .int x3), (4, .int j47_0)] 139 [.int j126_0, .int x1, .ref (a 13)] := by
                      intro j126_0  hR
                      refine j_iast C dX6_shelf_139 140 rfl 13 rfl (in_sf6 c2) (x1).toNatClampNeg rfl (wM τ a ss mhd mas mbf mih mtp mtn mtk mfr mtt mvl miw mld mrw mrn mso msz mnu (upd mhw (x1).toNatClampNeg j72_0) (upd mhh (x1).toNatClampNeg j96_0) (upd mhm (x1).toNatClampNeg j126_0) mbo mrr mak man maa mip) rfl ?_
                      refine j_iconst (v := 1) C dX6_shelf_140 141 rfl (by decide) ?_
                      exact Rt.ret (hR) rfl dX6_shelf_141
                    refine j_if_eq C dX6_shelf_126 138 rfl 129 rfl (fun c17 => ?_) (fun c17 => ?_)
                    · rw [if_pos c17] at hR
                      refine j_iconst (v := 0) C dX6_shelf_138 139 rfl (by decide) ?_
                      rw [pr1_mk (0 : Int32)] at hR
                      exact j_lv [0, 1, 2, 3, 4] [(0, .ref (a 0)), (1, .int x1), (2, .int x2), (3, .int x3), (4, .int j47_0)] rfl (J126 _  hR)
                    · rw [if_neg c17] at hR
                      refine j_aload_n C dX6_shelf_129 130 rfl rfl 0 rfl ?_
                      refine j_get C dX6_shelf_130 133 rfl hiX6 0 rfl rfl 16 (by decide) rfl kX6_shelf_f34 rfl ?_
                      refine j_iload_n C dX6_shelf_133 134 rfl rfl 3 rfl ?_
                      refine j_iald C dX6_shelf_134 135 rfl 9 rfl (hj c17) (x3).toNatClampNeg rfl ?_
                      refine j_goto C dX6_shelf_135 139 rfl ?_
                      rw [pr1_mk (msz (x3).toNatClampNeg)] at hR
                      exact j_lv [0, 1, 2, 3, 4] [(0, .ref (a 0)), (1, .int x1), (2, .int x2), (3, .int x3), (4, .int j47_0)] rfl (J126 _  hR)
                  refine j_if_ne C dX6_shelf_96 103 rfl 99 rfl (fun c15 => ?_) (fun c15 => ?_)
                  · rw [if_neg c15] at hR
                    refine j_iload C dX6_shelf_103 105 rfl 4 rfl ?_
                    refine j_if_eq C dX6_shelf_105 117 rfl 108 rfl (fun c16 => ?_) (fun c16 => ?_)
                    · rw [if_pos c16] at hR
                      refine j_iconst (v := 0) C dX6_shelf_117 118 rfl (by decide) ?_
                      rw [pr1_mk (0 : Int32)] at hR
                      exact j_lv [0, 1, 2, 3, 4] [(0, .ref (a 0)), (1, .int x1), (2, .int x2), (3, .int x3), (4, .int j47_0)] rfl (J96 _  hR)
                    · rw [if_neg c16] at hR
                      refine j_aload_n C dX6_shelf_108 109 rfl rfl 0 rfl ?_
                      refine j_get C dX6_shelf_109 112 rfl hiX6 0 rfl rfl 15 (by decide) rfl kX6_shelf_f31 rfl ?_
                      refine j_iload_n C dX6_shelf_112 113 rfl rfl 3 rfl ?_
                      refine j_iald C dX6_shelf_113 114 rfl 8 rfl (hj c16) (x3).toNatClampNeg rfl ?_
                      refine j_goto C dX6_shelf_114 118 rfl ?_
                      rw [pr1_mk (mso (x3).toNatClampNeg)] at hR
                      exact j_lv [0, 1, 2, 3, 4] [(0, .ref (a 0)), (1, .int x1), (2, .int x2), (3, .int x3), (4, .int j47_0)] rfl (J96 _  hR)
                  · rw [if_pos c15] at hR
                    refine j_iload_n C dX6_shelf_99 100 rfl rfl 3 rfl ?_
                    refine j_goto C dX6_shelf_100 118 rfl ?_
                    rw [pr1_mk x3] at hR
                    exact j_lv [0, 1, 2, 3, 4] [(0, .ref (a 0)), (1, .int x1), (2, .int x2), (3, .int x3), (4, .int j47_0)] rfl (J96 _  hR)
                refine j_if_ne C dX6_shelf_72 79 rfl 75 rfl (fun c13 => ?_) (fun c13 => ?_)
                · rw [if_neg c13] at hR
                  refine j_iload C dX6_shelf_79 81 rfl 0 rfl ?_
                  refine j_if_eq C dX6_shelf_81 88 rfl 84 rfl (fun c14 => ?_) (fun c14 => ?_)
                  · rw [if_pos c14] at hR
                    refine j_iconst (v := 0) C dX6_shelf_88 89 rfl (by decide) ?_
                    rw [pr1_mk (0 : Int32)] at hR
                    exact j_lv [1, 2, 3, 4, 0] [(0, .ref (a 0)), (1, .int x1), (2, .int x2), (3, .int x3), (4, .int j47_0)] rfl (J72 _  hR)
                  · rw [if_neg c14] at hR
                    refine j_iconst (v := 2) C dX6_shelf_84 85 rfl (by decide) ?_
                    refine j_goto C dX6_shelf_85 89 rfl ?_
                    rw [pr1_mk (2 : Int32)] at hR
                    exact j_lv [1, 2, 3, 4, 0] [(0, .ref (a 0)), (1, .int x1), (2, .int x2), (3, .int x3), (4, .int j47_0)] rfl (J72 _  hR)
                · rw [if_pos c13] at hR
                  refine j_iconst (v := 1) C dX6_shelf_75 76 rfl (by decide) ?_
                  refine j_goto C dX6_shelf_76 89 rfl ?_
                  rw [pr1_mk (1 : Int32)] at hR
                  exact j_lv [1, 2, 3, 4, 0] [(0, .ref (a 0)), (1, .int x1), (2, .int x2), (3, .int x3), (4, .int j47_0)] rfl (J72 _  hR)
              refine j_icmp_ne C dX6_shelf_47 63 rfl 50 rfl (fun c11 => ?_) (fun c11 => ?_)
              · rw [if_neg c11] at hR
                refine j_iconst (v := 0) C dX6_shelf_63 64 rfl (by decide) ?_
                rw [pr1_mk (0 : Int32)] at hR
                exact j_lv [0, 1, 2, 3] [(0, .ref (a 0)), (1, .int x1), (2, .int x2), (3, .int x3)] rfl (J47 _ (by first | exact fun h => absurd rfl h | exact fun _ => in_sh6 (by assumption) | exact absurd (by assumption : x2 = 1) (by assumption : ¬ x2 = 1) | exact absurd ((by assumption : x2 = 0).symm.trans (by assumption : x2 = 1)) (by decide)) hR)
              · rw [if_pos c11] at hR
                refine j_aload_n C dX6_shelf_50 51 rfl rfl 0 rfl ?_
                refine j_get C dX6_shelf_51 54 rfl hiX6 0 rfl rfl 15 (by decide) rfl kX6_shelf_f31 rfl ?_
                refine j_iload_n C dX6_shelf_54 55 rfl rfl 3 rfl ?_
                refine j_iald C dX6_shelf_55 56 rfl 8 rfl (by first | exact in_sh6 c10 | exact absurd (by assumption : x2 = 1) (by assumption : ¬ x2 = 1) | exact absurd ((by assumption : x2 = 0).symm.trans (by assumption : x2 = 1)) (by decide)) (x3).toNatClampNeg rfl ?_
                refine j_if_lt C dX6_shelf_56 63 rfl 59 rfl (fun c12 => ?_) (fun c12 => ?_)
                · rw [if_pos c12] at hR
                  refine j_iconst (v := 0) C dX6_shelf_63 64 rfl (by decide) ?_
                  rw [pr1_mk (0 : Int32)] at hR
                  exact j_lv [0, 1, 2, 3] [(0, .ref (a 0)), (1, .int x1), (2, .int x2), (3, .int x3)] rfl (J47 _ (by first | exact fun h => absurd rfl h | exact fun _ => in_sh6 (by assumption) | exact absurd (by assumption : x2 = 1) (by assumption : ¬ x2 = 1) | exact absurd ((by assumption : x2 = 0).symm.trans (by assumption : x2 = 1)) (by decide)) hR)
                · rw [if_neg c12] at hR
                  refine j_iconst (v := 1) C dX6_shelf_59 60 rfl (by decide) ?_
                  refine j_goto C dX6_shelf_60 64 rfl ?_
                  rw [pr1_mk (1 : Int32)] at hR
                  exact j_lv [0, 1, 2, 3] [(0, .ref (a 0)), (1, .int x1), (2, .int x2), (3, .int x3)] rfl (J47 _ (by first | exact fun h => absurd rfl h | exact fun _ => in_sh6 (by assumption) | exact absurd (by assumption : x2 = 1) (by assumption : ¬ x2 = 1) | exact absurd ((by assumption : x2 = 0).symm.trans (by assumption : x2 = 1)) (by decide)) hR)
            · rw [if_pos c10] at hR
              refine j_iconst (v := (-1)) C dX6_shelf_43 44 rfl (by decide) ?_
              exact Rt.ret (hR) rfl dX6_shelf_44

-- X6_sheet
def l_X6_sheet_69 (x1 : Int32) : Nat → Int32 → (Nat → Int32) → Int32 × (Nat → Int32)
  | 0, x4, mnu => (x4, mnu)
  | N + 1, x4, mnu => if (40 ≤ x4) then (x4, mnu) else (l_X6_sheet_69 x1 N (x4 + 1) (upd mnu ((((40 : Int32) * x1) + x4)).toNatClampNeg 0))
def f_X6_sheet (mso : Nat → Int32) (msz : Nat → Int32) (mnu : Nat → Int32) (x1 : Int32) (x2 : Int32) (x3 : Int32) : Int32 × (Nat → Int32) × (Nat → Int32) × (Nat → Int32) := if ((f_X6_isSheet x1) = 0) then (((-1) : Int32), mso, msz, mnu) else (if ((f_X6_isIn ((x2 : Int32).toInt64) ((-1) : Int64) (3 : Int64)) = 0) then (((-1) : Int32), mso, msz, mnu) else (if (x2 < 0) then (if (x2 < 0) then (pr1 (if (0 ≤ x2) then x3 else (0 : Int32)) (fun j57_0 => pr2 (l_X6_sheet_69 x1 300 (0 : Int32) mnu) (fun x4_8 mnu_8 => ((1 : Int32), (upd mso (x1).toNatClampNeg x2), (upd msz (x1).toNatClampNeg j57_0), mnu_8)))) else (if (0 ≤ x3) then (pr1 (if (0 ≤ x2) then x3 else (0 : Int32)) (fun j57_0 => pr2 (l_X6_sheet_69 x1 300 (0 : Int32) mnu) (fun x4_12 mnu_12 => ((1 : Int32), (upd mso (x1).toNatClampNeg x2), (upd msz (x1).toNatClampNeg j57_0), mnu_12)))) else (((-14) : Int32), mso, msz, mnu))) else (if (x3 ≤ 40) then (if (x2 < 0) then (pr1 (if (0 ≤ x2) then x3 else (0 : Int32)) (fun j57_0 => pr2 (l_X6_sheet_69 x1 300 (0 : Int32) mnu) (fun x4_17 mnu_17 => ((1 : Int32), (upd mso (x1).toNatClampNeg x2), (upd msz (x1).toNatClampNeg j57_0), mnu_17)))) else (if (0 ≤ x3) then (pr1 (if (0 ≤ x2) then x3 else (0 : Int32)) (fun j57_0 => pr2 (l_X6_sheet_69 x1 300 (0 : Int32) mnu) (fun x4_21 mnu_21 => ((1 : Int32), (upd mso (x1).toNatClampNeg x2), (upd msz (x1).toNatClampNeg j57_0), mnu_21)))) else (((-14) : Int32), mso, msz, mnu))) else (((-1) : Int32), mso, msz, mnu))))
theorem kX6_sheet_iRX6 : Cond.initialized yX6_isIn.cls ∈ wsX6_sheet := by decide +kernel
theorem kX6_sheet_sX6_isSheet : Cond.static yX6_isSheet ∈ wsX6_sheet := by decide +kernel
theorem kX6_sheet_m238 : Cond.methodLink RX6 238 yX6_isSheet ∈ wsX6_sheet := by decide +kernel
theorem kX6_sheet_c244 : Cond.constantLong RX6 244 (-1) ∈ wsX6_sheet := by decide +kernel
theorem kX6_sheet_c148 : Cond.constantLong RX6 148 3 ∈ wsX6_sheet := by decide +kernel
theorem kX6_sheet_sX6_isIn : Cond.static yX6_isIn ∈ wsX6_sheet := by decide +kernel
theorem kX6_sheet_m57 : Cond.methodLink RX6 57 yX6_isIn ∈ wsX6_sheet := by decide +kernel
theorem kX6_sheet_f31 : Cond.fieldLink RX6 31 "TwoMinutesModel" "sortOf" "[I" ∈ wsX6_sheet := by decide +kernel
theorem kX6_sheet_f34 : Cond.fieldLink RX6 34 "TwoMinutesModel" "sizeOf" "[I" ∈ wsX6_sheet := by decide +kernel
theorem kX6_sheet_f37 : Cond.fieldLink RX6 37 "TwoMinutesModel" "numbers" "[I" ∈ wsX6_sheet := by decide +kernel
theorem qd_X6_sheet : yX6_sheet.cls = RX6 ∧ yX6_sheet.cls ≠ "java/lang/invoke/MethodHandle" ∧ yX6_sheet.cls ≠ "java/lang/invoke/VarHandle" ∧ (parseMethodDescriptor yX6_sheet.desc).map (fun d => d.parameters.length) = some 3 := by decide +kernel
abbrev rmX6_sheet : Room := { frames := 2, cells := 0, slots := 0, locals := 45 }
set_option maxHeartbeats 4000000 in
set_option maxRecDepth 100000 in
theorem L_X6_sheet_69 {τ : SX} {κ : KX} (C : Cx τ κ cX6_sheet RX6 wsX6_sheet rmX6_sheet 5) (a : Nat → Nat) (ss : Nat → Int32) (mhd : Nat → Int32) (mas : Nat → Int32) (mbf : Nat → Int32) (mih : Int32) (mtp : Nat → Int32) (mtn : Int32) (mtk : Int32) (mfr : Int32) (mtt : Int32) (mvl : Int32) (miw : Int32) (mld : Nat → Int32) (mrw : Nat → Int32) (mrn : Int32) (mso : Nat → Int32) (msz : Nat → Int32) (mhw : Nat → Int32) (mhh : Nat → Int32) (mhm : Nat → Int32) (mbo : Nat → Int32) (mrr : Int32) (mak : Int32) (man : Int32) (maa : Int32) (mip : Int32) (x1 : Int32) (x2 : Int32) (x3 : Int32) (hv4 : vp_in x1 4) (Φ : Int32 × (Nat → Int32) → Prop) (hE : ∀ (x4 : Int32) (mnu : Nat → Int32), Φ (x4, mnu) → J τ κ 0 0 (wM τ a ss mhd mas mbf mih mtp mtn mtk mfr mtt mvl miw mld mrw mrn mso msz mnu mhw mhh mhm mbo mrr mak man maa mip) [(0, .ref (a 0)), (1, .int x1), (2, .int x2), (3, .int x3), (4, .int x4)] 95 []) : ∀ (N : Nat) (x4 : Int32) (mnu : Nat → Int32), ((40 : Int) - x4.toInt).toNat < N → (0 ≤ x4.toInt) → (x4.toInt ≤ 40) → Φ (l_X6_sheet_69 x1 N x4 mnu) → J τ κ 0 0 (wM τ a ss mhd mas mbf mih mtp mtn mtk mfr mtt mvl miw mld mrw mrn mso msz mnu mhw mhh mhm mbo mrr mak man maa mip) [(0, .ref (a 0)), (1, .int x1), (2, .int x2), (3, .int x3), (4, .int x4)] 69 [] := by
  have hiX6 : ∀ w ∈ wsX60, w ∈ wsX6_sheet := fun w h => List.mem_cons_of_mem _ (List.mem_append_right _ h)
  intro N
  induction N with
  | zero => intro x4 mnu hm; exact absurd hm (Nat.not_lt_zero _)
  | succ N ih =>
    intro x4 mnu hm h0 h1 hR
    rw [l_X6_sheet_69] at hR
    refine j_iload C dX6_sheet_69 71 rfl 4 rfl ?_
    refine j_bipush (v := 40) C dX6_sheet_71 73 rfl (by decide) ?_
    refine j_icmp_ge C dX6_sheet_73 95 rfl 76 rfl (fun c9 => ?_) (fun c9 => ?_)
    · rw [if_pos c9] at hR
      exact j_lv [0, 1, 2, 3, 4] [(0, .ref (a 0)), (1, .int x1), (2, .int x2), (3, .int x3), (4, .int x4)] rfl (hE _ _  hR)
    · rw [if_neg c9] at hR
      have hs := cnt_step (B := 40) h0 (by decide) (by decide) c9
      refine j_aload_n C dX6_sheet_76 77 rfl rfl 0 rfl ?_
      refine j_get C dX6_sheet_77 80 rfl hiX6 0 rfl rfl 17 (by decide) rfl kX6_sheet_f37 rfl ?_
      refine j_bipush (v := 40) C dX6_sheet_80 82 rfl (by decide) ?_
      refine j_iload_n C dX6_sheet_82 83 rfl rfl 1 rfl ?_
      refine j_imul C dX6_sheet_83 84 rfl ?_
      refine j_iload C dX6_sheet_84 86 rfl 4 rfl ?_
      refine j_iadd C dX6_sheet_86 87 rfl ?_
      refine j_iconst (v := 0) C dX6_sheet_87 88 rfl (by decide) ?_
      refine j_iast C dX6_sheet_88 89 rfl 10 rfl (nu_in hv4 (vp_in_iff.mpr ⟨by omega, by omega⟩)) ((((40 : Int32) * x1) + x4)).toNatClampNeg rfl (wM τ a ss mhd mas mbf mih mtp mtn mtk mfr mtt mvl miw mld mrw mrn mso msz (upd mnu ((((40 : Int32) * x1) + x4)).toNatClampNeg 0) mhw mhh mhm mbo mrr mak man maa mip) rfl ?_
      refine j_iinc (v := (x4 + 1)) C dX6_sheet_89 92 rfl 4 rfl rfl (by decide) [(4, .int (x4 + 1)), (0, .ref (a 0)), (1, .int x1), (2, .int x2), (3, .int x3)] rfl ?_
      refine j_goto C dX6_sheet_92 69 rfl ?_
      exact j_lv [1, 2, 3, 4, 0] [(0, .ref (a 0)), (1, .int x1), (2, .int x2), (3, .int x3), (4, .int (x4 + 1))] rfl (ih _ _ (by have := hs.2.2.1; omega) hs.1 hs.2.1 hR)
set_option maxHeartbeats 4000000 in
set_option maxRecDepth 100000 in
theorem c_X6_sheet (τ : SX) (a : Nat → Nat) (ss : Nat → Int32) (mhd : Nat → Int32) (mas : Nat → Int32) (mbf : Nat → Int32) (mih : Int32) (mtp : Nat → Int32) (mtn : Int32) (mtk : Int32) (mfr : Int32) (mtt : Int32) (mvl : Int32) (miw : Int32) (mld : Nat → Int32) (mrw : Nat → Int32) (mrn : Int32) (mso : Nat → Int32) (msz : Nat → Int32) (mnu : Nat → Int32) (mhw : Nat → Int32) (mhh : Nat → Int32) (mhm : Nat → Int32) (mbo : Nat → Int32) (mrr : Int32) (mak : Int32) (man : Int32) (maa : Int32) (mip : Int32) (x1 : Int32) (x2 : Int32) (x3 : Int32) (sz : Nat) : McI τ yX6_sheet wsX6_sheet rmX6_sheet .int [.ref (a 0), .int x1, .int x2, .int x3] (wM τ a ss mhd mas mbf mih mtp mtn mtk mfr mtt mvl miw mld mrw mrn mso msz mnu mhw mhh mhm mbo mrr mak man maa mip) (fun u : (Nat → Int32) × (Nat → Int32) × (Nat → Int32) => (wM τ a ss mhd mas mbf mih mtp mtn mtk mfr mtt mvl miw mld mrw mrn u.1 u.2.1 u.2.2 mhw mhh mhm mbo mrr mak man maa mip)) (f_X6_sheet mso msz mnu x1 x2 x3) sz := by
  refine mc_I (cc := cX6_sheet) (own := RX6) [(0, .ref (a 0)), (1, .int x1), (2, .int x2), (3, .int x3)] rfl (by decide) rfl rfl (Nat.le_of_ble_eq_true rfl) (fun κ C hR => ?_)
  have hiX6 : ∀ w ∈ wsX60, w ∈ wsX6_sheet := fun w h => List.mem_cons_of_mem _ (List.mem_append_right _ h)
  unfold f_X6_sheet at hR
  refine j_iload_n C dX6_sheet_0 1 rfl rfl 1 rfl ?_
  refine j_cs0I (na := 1) C dX6_sheet_1 4 rfl (c_X6_isSheet τ  x1 ) rfl ggX6_sheet_X6_isSheet rfl rfl rfl kX6_sheet_iRX6 kX6_sheet_m238 kX6_sheet_sX6_isSheet qd_X6_isSheet rfl ⟨by decide, by decide⟩ ⟨by decide, by decide⟩ rfl (Nat.le_of_ble_eq_true rfl) (fun r1 u1 hX1 hn1 => ?_)
  obtain rfl := (Prod.mk.inj hX1).1
  refine j_if_eq C dX6_sheet_4 31 rfl 7 rfl (fun c2 => ?_) (fun c2 => ?_)
  · rw [if_pos c2] at hR
    refine j_iconst (v := (-1)) C dX6_sheet_31 32 rfl (by decide) ?_
    exact Rt.ret (hR) rfl dX6_sheet_32
  · rw [if_neg c2] at hR
    refine j_iload_n C dX6_sheet_7 8 rfl rfl 2 rfl ?_
    refine j_i2l C dX6_sheet_8 9 rfl ?_
    refine j_ldc2 C dX6_sheet_9 12 rfl kX6_sheet_c244 ?_
    refine j_ldc2 C dX6_sheet_12 15 rfl kX6_sheet_c148 ?_
    refine j_cs0I (na := 3) C dX6_sheet_15 18 rfl (c_X6_isIn τ  ((x2 : Int32).toInt64) ((-1) : Int64) (3 : Int64) ) rfl ggX6_sheet_X6_isIn rfl rfl rfl kX6_sheet_iRX6 kX6_sheet_m57 kX6_sheet_sX6_isIn qd_X6_isIn rfl ⟨by decide, by decide⟩ ⟨by decide, by decide⟩ rfl (Nat.le_of_ble_eq_true rfl) (fun r3 u3 hX3 hn3 => ?_)
    obtain rfl := (Prod.mk.inj hX3).1
    refine j_if_eq C dX6_sheet_18 31 rfl 21 rfl (fun c4 => ?_) (fun c4 => ?_)
    · rw [if_pos c4] at hR
      refine j_iconst (v := (-1)) C dX6_sheet_31 32 rfl (by decide) ?_
      exact Rt.ret (hR) rfl dX6_sheet_32
    · rw [if_neg c4] at hR
      refine j_iload_n C dX6_sheet_21 22 rfl rfl 2 rfl ?_
      refine j_if_lt C dX6_sheet_22 33 rfl 25 rfl (fun c5 => ?_) (fun c5 => ?_)
      · rw [if_pos c5] at hR
        refine j_iload_n C dX6_sheet_33 34 rfl rfl 2 rfl ?_
        refine j_if_lt C dX6_sheet_34 44 rfl 37 rfl (fun c6 => ?_) (fun c6 => ?_)
        · rw [if_pos c6] at hR
          refine j_aload_n C dX6_sheet_44 45 rfl rfl 0 rfl ?_
          refine j_get C dX6_sheet_45 48 rfl hiX6 0 rfl rfl 15 (by decide) rfl kX6_sheet_f31 rfl ?_
          refine j_iload_n C dX6_sheet_48 49 rfl rfl 1 rfl ?_
          refine j_iload_n C dX6_sheet_49 50 rfl rfl 2 rfl ?_
          refine j_iast C dX6_sheet_50 51 rfl 8 rfl (in_sh6 c2) (x1).toNatClampNeg rfl (wM τ a ss mhd mas mbf mih mtp mtn mtk mfr mtt mvl miw mld mrw mrn (upd mso (x1).toNatClampNeg x2) msz mnu mhw mhh mhm mbo mrr mak man maa mip) rfl ?_
          refine j_aload_n C dX6_sheet_51 52 rfl rfl 0 rfl ?_
          refine j_get C dX6_sheet_52 55 rfl hiX6 0 rfl rfl 16 (by decide) rfl kX6_sheet_f34 rfl ?_
          refine j_iload_n C dX6_sheet_55 56 rfl rfl 1 rfl ?_
          refine j_iload_n C dX6_sheet_56 57 rfl rfl 2 rfl ?_
          have J57 : ∀ (j57_0 : Int32), Rt τ κ cX6_sheet .int (fun u : (Nat → Int32) × (Nat → Int32) × (Nat → Int32) => (wM τ a ss mhd mas mbf mih mtp mtn mtk mfr mtt mvl miw mld mrw mrn u.1 u.2.1 u.2.2 mhw mhh mhm mbo mrr mak man maa mip)) (pr2 (l_X6_sheet_69 x1 300 (0 : Int32) mnu) (fun x4_8 mnu_8 => ((1 : Int32), (upd mso (x1).toNatClampNeg x2), (upd msz (x1).toNatClampNeg j57_0), mnu_8))) → J τ κ 0 0 (wM τ a ss mhd mas mbf mih mtp mtn mtk mfr mtt mvl miw mld mrw mrn (upd mso (x1).toNatClampNeg x2) msz mnu mhw mhh mhm mbo mrr mak man maa mip) [(0, .ref (a 0)), (1, .int x1), (2, .int x2), (3, .int x3)] 65 [.int j57_0, .int x1, .ref (a 9)] := by
            intro j57_0  hR
            refine j_iast C dX6_sheet_65 66 rfl 9 rfl (in_sh6 c2) (x1).toNatClampNeg rfl (wM τ a ss mhd mas mbf mih mtp mtn mtk mfr mtt mvl miw mld mrw mrn (upd mso (x1).toNatClampNeg x2) (upd msz (x1).toNatClampNeg j57_0) mnu mhw mhh mhm mbo mrr mak man maa mip) rfl ?_
            refine j_iconst (v := 0) C dX6_sheet_66 67 rfl (by decide) ?_
            refine j_istore C dX6_sheet_67 69 rfl (by decide) [(4, .int 0), (0, .ref (a 0)), (1, .int x1), (2, .int x2), (3, .int x3)] rfl ?_
            refine j_lv [1, 2, 3, 4, 0] [(0, .ref (a 0)), (1, .int x1), (2, .int x2), (3, .int x3), (4, .int 0)] rfl (L_X6_sheet_69 C a ss mhd mas mbf mih mtp mtn mtk mfr mtt mvl miw mld mrw mrn (upd mso (x1).toNatClampNeg x2) (upd msz (x1).toNatClampNeg j57_0) mhw mhh mhm mbo mrr mak man maa mip x1 x2 x3 (in_sh6 c2) (fun (o : Int32 × (Nat → Int32)) => Rt τ κ cX6_sheet .int (fun u : (Nat → Int32) × (Nat → Int32) × (Nat → Int32) => (wM τ a ss mhd mas mbf mih mtp mtn mtk mfr mtt mvl miw mld mrw mrn u.1 u.2.1 u.2.2 mhw mhh mhm mbo mrr mak man maa mip)) (pr2 o (fun x4_8 mnu_8 => ((1 : Int32), (upd mso (x1).toNatClampNeg x2), (upd msz (x1).toNatClampNeg j57_0), mnu_8)))) (fun x4_8 mnu_8  hR => ?_) 300 (0 : Int32) mnu (by decide) (by decide) (by decide) hR)
            rw [pr2_mk x4_8 mnu_8] at hR
            refine j_iconst (v := 1) C dX6_sheet_95 96 rfl (by decide) ?_
            exact Rt.ret (hR) rfl dX6_sheet_96
          refine j_if_ge C dX6_sheet_57 64 rfl 60 rfl (fun c7 => ?_) (fun c7 => ?_)
          · rw [if_pos c7] at hR
            refine j_iload_n C dX6_sheet_64 65 rfl rfl 3 rfl ?_
            rw [pr1_mk x3] at hR
            exact j_lv [0, 1, 2, 3] [(0, .ref (a 0)), (1, .int x1), (2, .int x2), (3, .int x3)] rfl (J57 _  hR)
          · rw [if_neg c7] at hR
            refine j_iconst (v := 0) C dX6_sheet_60 61 rfl (by decide) ?_
            refine j_goto C dX6_sheet_61 65 rfl ?_
            rw [pr1_mk (0 : Int32)] at hR
            exact j_lv [0, 1, 2, 3] [(0, .ref (a 0)), (1, .int x1), (2, .int x2), (3, .int x3)] rfl (J57 _  hR)
        · rw [if_neg c6] at hR
          refine j_iload_n C dX6_sheet_37 38 rfl rfl 3 rfl ?_
          refine j_if_ge C dX6_sheet_38 44 rfl 41 rfl (fun c10 => ?_) (fun c10 => ?_)
          · rw [if_pos c10] at hR
            refine j_aload_n C dX6_sheet_44 45 rfl rfl 0 rfl ?_
            refine j_get C dX6_sheet_45 48 rfl hiX6 0 rfl rfl 15 (by decide) rfl kX6_sheet_f31 rfl ?_
            refine j_iload_n C dX6_sheet_48 49 rfl rfl 1 rfl ?_
            refine j_iload_n C dX6_sheet_49 50 rfl rfl 2 rfl ?_
            refine j_iast C dX6_sheet_50 51 rfl 8 rfl (in_sh6 c2) (x1).toNatClampNeg rfl (wM τ a ss mhd mas mbf mih mtp mtn mtk mfr mtt mvl miw mld mrw mrn (upd mso (x1).toNatClampNeg x2) msz mnu mhw mhh mhm mbo mrr mak man maa mip) rfl ?_
            refine j_aload_n C dX6_sheet_51 52 rfl rfl 0 rfl ?_
            refine j_get C dX6_sheet_52 55 rfl hiX6 0 rfl rfl 16 (by decide) rfl kX6_sheet_f34 rfl ?_
            refine j_iload_n C dX6_sheet_55 56 rfl rfl 1 rfl ?_
            refine j_iload_n C dX6_sheet_56 57 rfl rfl 2 rfl ?_
            have J57 : ∀ (j57_0 : Int32), Rt τ κ cX6_sheet .int (fun u : (Nat → Int32) × (Nat → Int32) × (Nat → Int32) => (wM τ a ss mhd mas mbf mih mtp mtn mtk mfr mtt mvl miw mld mrw mrn u.1 u.2.1 u.2.2 mhw mhh mhm mbo mrr mak man maa mip)) (pr2 (l_X6_sheet_69 x1 300 (0 : Int32) mnu) (fun x4_12 mnu_12 => ((1 : Int32), (upd mso (x1).toNatClampNeg x2), (upd msz (x1).toNatClampNeg j57_0), mnu_12))) → J τ κ 0 0 (wM τ a ss mhd mas mbf mih mtp mtn mtk mfr mtt mvl miw mld mrw mrn (upd mso (x1).toNatClampNeg x2) msz mnu mhw mhh mhm mbo mrr mak man maa mip) [(0, .ref (a 0)), (1, .int x1), (2, .int x2), (3, .int x3)] 65 [.int j57_0, .int x1, .ref (a 9)] := by
              intro j57_0  hR
              refine j_iast C dX6_sheet_65 66 rfl 9 rfl (in_sh6 c2) (x1).toNatClampNeg rfl (wM τ a ss mhd mas mbf mih mtp mtn mtk mfr mtt mvl miw mld mrw mrn (upd mso (x1).toNatClampNeg x2) (upd msz (x1).toNatClampNeg j57_0) mnu mhw mhh mhm mbo mrr mak man maa mip) rfl ?_
              refine j_iconst (v := 0) C dX6_sheet_66 67 rfl (by decide) ?_
              refine j_istore C dX6_sheet_67 69 rfl (by decide) [(4, .int 0), (0, .ref (a 0)), (1, .int x1), (2, .int x2), (3, .int x3)] rfl ?_
              refine j_lv [1, 2, 3, 4, 0] [(0, .ref (a 0)), (1, .int x1), (2, .int x2), (3, .int x3), (4, .int 0)] rfl (L_X6_sheet_69 C a ss mhd mas mbf mih mtp mtn mtk mfr mtt mvl miw mld mrw mrn (upd mso (x1).toNatClampNeg x2) (upd msz (x1).toNatClampNeg j57_0) mhw mhh mhm mbo mrr mak man maa mip x1 x2 x3 (in_sh6 c2) (fun (o : Int32 × (Nat → Int32)) => Rt τ κ cX6_sheet .int (fun u : (Nat → Int32) × (Nat → Int32) × (Nat → Int32) => (wM τ a ss mhd mas mbf mih mtp mtn mtk mfr mtt mvl miw mld mrw mrn u.1 u.2.1 u.2.2 mhw mhh mhm mbo mrr mak man maa mip)) (pr2 o (fun x4_12 mnu_12 => ((1 : Int32), (upd mso (x1).toNatClampNeg x2), (upd msz (x1).toNatClampNeg j57_0), mnu_12)))) (fun x4_12 mnu_12  hR => ?_) 300 (0 : Int32) mnu (by decide) (by decide) (by decide) hR)
              rw [pr2_mk x4_12 mnu_12] at hR
              refine j_iconst (v := 1) C dX6_sheet_95 96 rfl (by decide) ?_
              exact Rt.ret (hR) rfl dX6_sheet_96
            refine j_if_ge C dX6_sheet_57 64 rfl 60 rfl (fun c11 => ?_) (fun c11 => ?_)
            · rw [if_pos c11] at hR
              refine j_iload_n C dX6_sheet_64 65 rfl rfl 3 rfl ?_
              rw [pr1_mk x3] at hR
              exact j_lv [0, 1, 2, 3] [(0, .ref (a 0)), (1, .int x1), (2, .int x2), (3, .int x3)] rfl (J57 _  hR)
            · rw [if_neg c11] at hR
              refine j_iconst (v := 0) C dX6_sheet_60 61 rfl (by decide) ?_
              refine j_goto C dX6_sheet_61 65 rfl ?_
              rw [pr1_mk (0 : Int32)] at hR
              exact j_lv [0, 1, 2, 3] [(0, .ref (a 0)), (1, .int x1), (2, .int x2), (3, .int x3)] rfl (J57 _  hR)
          · rw [if_neg c10] at hR
            refine j_bipush (v := (-14)) C dX6_sheet_41 43 rfl (by decide) ?_
            exact Rt.ret (hR) rfl dX6_sheet_43
      · rw [if_neg c5] at hR
        refine j_iload_n C dX6_sheet_25 26 rfl rfl 3 rfl ?_
        refine j_bipush (v := 40) C dX6_sheet_26 28 rfl (by decide) ?_
        refine j_icmp_le C dX6_sheet_28 33 rfl 31 rfl (fun c14 => ?_) (fun c14 => ?_)
        · rw [if_pos c14] at hR
          refine j_iload_n C dX6_sheet_33 34 rfl rfl 2 rfl ?_
          refine j_if_lt C dX6_sheet_34 44 rfl 37 rfl (fun c15 => ?_) (fun c15 => ?_)
          · rw [if_pos c15] at hR
            refine j_aload_n C dX6_sheet_44 45 rfl rfl 0 rfl ?_
            refine j_get C dX6_sheet_45 48 rfl hiX6 0 rfl rfl 15 (by decide) rfl kX6_sheet_f31 rfl ?_
            refine j_iload_n C dX6_sheet_48 49 rfl rfl 1 rfl ?_
            refine j_iload_n C dX6_sheet_49 50 rfl rfl 2 rfl ?_
            refine j_iast C dX6_sheet_50 51 rfl 8 rfl (in_sh6 c2) (x1).toNatClampNeg rfl (wM τ a ss mhd mas mbf mih mtp mtn mtk mfr mtt mvl miw mld mrw mrn (upd mso (x1).toNatClampNeg x2) msz mnu mhw mhh mhm mbo mrr mak man maa mip) rfl ?_
            refine j_aload_n C dX6_sheet_51 52 rfl rfl 0 rfl ?_
            refine j_get C dX6_sheet_52 55 rfl hiX6 0 rfl rfl 16 (by decide) rfl kX6_sheet_f34 rfl ?_
            refine j_iload_n C dX6_sheet_55 56 rfl rfl 1 rfl ?_
            refine j_iload_n C dX6_sheet_56 57 rfl rfl 2 rfl ?_
            have J57 : ∀ (j57_0 : Int32), Rt τ κ cX6_sheet .int (fun u : (Nat → Int32) × (Nat → Int32) × (Nat → Int32) => (wM τ a ss mhd mas mbf mih mtp mtn mtk mfr mtt mvl miw mld mrw mrn u.1 u.2.1 u.2.2 mhw mhh mhm mbo mrr mak man maa mip)) (pr2 (l_X6_sheet_69 x1 300 (0 : Int32) mnu) (fun x4_17 mnu_17 => ((1 : Int32), (upd mso (x1).toNatClampNeg x2), (upd msz (x1).toNatClampNeg j57_0), mnu_17))) → J τ κ 0 0 (wM τ a ss mhd mas mbf mih mtp mtn mtk mfr mtt mvl miw mld mrw mrn (upd mso (x1).toNatClampNeg x2) msz mnu mhw mhh mhm mbo mrr mak man maa mip) [(0, .ref (a 0)), (1, .int x1), (2, .int x2), (3, .int x3)] 65 [.int j57_0, .int x1, .ref (a 9)] := by
              intro j57_0  hR
              refine j_iast C dX6_sheet_65 66 rfl 9 rfl (in_sh6 c2) (x1).toNatClampNeg rfl (wM τ a ss mhd mas mbf mih mtp mtn mtk mfr mtt mvl miw mld mrw mrn (upd mso (x1).toNatClampNeg x2) (upd msz (x1).toNatClampNeg j57_0) mnu mhw mhh mhm mbo mrr mak man maa mip) rfl ?_
              refine j_iconst (v := 0) C dX6_sheet_66 67 rfl (by decide) ?_
              refine j_istore C dX6_sheet_67 69 rfl (by decide) [(4, .int 0), (0, .ref (a 0)), (1, .int x1), (2, .int x2), (3, .int x3)] rfl ?_
              refine j_lv [1, 2, 3, 4, 0] [(0, .ref (a 0)), (1, .int x1), (2, .int x2), (3, .int x3), (4, .int 0)] rfl (L_X6_sheet_69 C a ss mhd mas mbf mih mtp mtn mtk mfr mtt mvl miw mld mrw mrn (upd mso (x1).toNatClampNeg x2) (upd msz (x1).toNatClampNeg j57_0) mhw mhh mhm mbo mrr mak man maa mip x1 x2 x3 (in_sh6 c2) (fun (o : Int32 × (Nat → Int32)) => Rt τ κ cX6_sheet .int (fun u : (Nat → Int32) × (Nat → Int32) × (Nat → Int32) => (wM τ a ss mhd mas mbf mih mtp mtn mtk mfr mtt mvl miw mld mrw mrn u.1 u.2.1 u.2.2 mhw mhh mhm mbo mrr mak man maa mip)) (pr2 o (fun x4_17 mnu_17 => ((1 : Int32), (upd mso (x1).toNatClampNeg x2), (upd msz (x1).toNatClampNeg j57_0), mnu_17)))) (fun x4_17 mnu_17  hR => ?_) 300 (0 : Int32) mnu (by decide) (by decide) (by decide) hR)
              rw [pr2_mk x4_17 mnu_17] at hR
              refine j_iconst (v := 1) C dX6_sheet_95 96 rfl (by decide) ?_
              exact Rt.ret (hR) rfl dX6_sheet_96
            refine j_if_ge C dX6_sheet_57 64 rfl 60 rfl (fun c16 => ?_) (fun c16 => ?_)
            · rw [if_pos c16] at hR
              refine j_iload_n C dX6_sheet_64 65 rfl rfl 3 rfl ?_
              rw [pr1_mk x3] at hR
              exact j_lv [0, 1, 2, 3] [(0, .ref (a 0)), (1, .int x1), (2, .int x2), (3, .int x3)] rfl (J57 _  hR)
            · rw [if_neg c16] at hR
              refine j_iconst (v := 0) C dX6_sheet_60 61 rfl (by decide) ?_
              refine j_goto C dX6_sheet_61 65 rfl ?_
              rw [pr1_mk (0 : Int32)] at hR
              exact j_lv [0, 1, 2, 3] [(0, .ref (a 0)), (1, .int x1), (2, .int x2), (3, .int x3)] rfl (J57 _  hR)
          · rw [if_neg c15] at hR
            refine j_iload_n C dX6_sheet_37 38 rfl rfl 3 rfl ?_
            refine j_if_ge C dX6_sheet_38 44 rfl 41 rfl (fun c19 => ?_) (fun c19 => ?_)
            · rw [if_pos c19] at hR
              refine j_aload_n C dX6_sheet_44 45 rfl rfl 0 rfl ?_
              refine j_get C dX6_sheet_45 48 rfl hiX6 0 rfl rfl 15 (by decide) rfl kX6_sheet_f31 rfl ?_
              refine j_iload_n C dX6_sheet_48 49 rfl rfl 1 rfl ?_
              refine j_iload_n C dX6_sheet_49 50 rfl rfl 2 rfl ?_
              refine j_iast C dX6_sheet_50 51 rfl 8 rfl (in_sh6 c2) (x1).toNatClampNeg rfl (wM τ a ss mhd mas mbf mih mtp mtn mtk mfr mtt mvl miw mld mrw mrn (upd mso (x1).toNatClampNeg x2) msz mnu mhw mhh mhm mbo mrr mak man maa mip) rfl ?_
              refine j_aload_n C dX6_sheet_51 52 rfl rfl 0 rfl ?_
              refine j_get C dX6_sheet_52 55 rfl hiX6 0 rfl rfl 16 (by decide) rfl kX6_sheet_f34 rfl ?_
              refine j_iload_n C dX6_sheet_55 56 rfl rfl 1 rfl ?_
              refine j_iload_n C dX6_sheet_56 57 rfl rfl 2 rfl ?_
              have J57 : ∀ (j57_0 : Int32), Rt τ κ cX6_sheet .int (fun u : (Nat → Int32) × (Nat → Int32) × (Nat → Int32) => (wM τ a ss mhd mas mbf mih mtp mtn mtk mfr mtt mvl miw mld mrw mrn u.1 u.2.1 u.2.2 mhw mhh mhm mbo mrr mak man maa mip)) (pr2 (l_X6_sheet_69 x1 300 (0 : Int32) mnu) (fun x4_21 mnu_21 => ((1 : Int32), (upd mso (x1).toNatClampNeg x2), (upd msz (x1).toNatClampNeg j57_0), mnu_21))) → J τ κ 0 0 (wM τ a ss mhd mas mbf mih mtp mtn mtk mfr mtt mvl miw mld mrw mrn (upd mso (x1).toNatClampNeg x2) msz mnu mhw mhh mhm mbo mrr mak man maa mip) [(0, .ref (a 0)), (1, .int x1), (2, .int x2), (3, .int x3)] 65 [.int j57_0, .int x1, .ref (a 9)] := by
                intro j57_0  hR
                refine j_iast C dX6_sheet_65 66 rfl 9 rfl (in_sh6 c2) (x1).toNatClampNeg rfl (wM τ a ss mhd mas mbf mih mtp mtn mtk mfr mtt mvl miw mld mrw mrn (upd mso (x1).toNatClampNeg x2) (upd msz (x1).toNatClampNeg j57_0) mnu mhw mhh mhm mbo mrr mak man maa mip) rfl ?_
                refine j_iconst (v := 0) C dX6_sheet_66 67 rfl (by decide) ?_
                refine j_istore C dX6_sheet_67 69 rfl (by decide) [(4, .int 0), (0, .ref (a 0)), (1, .int x1), (2, .int x2), (3, .int x3)] rfl ?_
                refine j_lv [1, 2, 3, 4, 0] [(0, .ref (a 0)), (1, .int x1), (2, .int x2), (3, .int x3), (4, .int 0)] rfl (L_X6_sheet_69 C a ss mhd mas mbf mih mtp mtn mtk mfr mtt mvl miw mld mrw mrn (upd mso (x1).toNatClampNeg x2) (upd msz (x1).toNatClampNeg j57_0) mhw mhh mhm mbo mrr mak man maa mip x1 x2 x3 (in_sh6 c2) (fun (o : Int32 × (Nat → Int32)) => Rt τ κ cX6_sheet .int (fun u : (Nat → Int32) × (Nat → Int32) × (Nat → Int32) => (wM τ a ss mhd mas mbf mih mtp mtn mtk mfr mtt mvl miw mld mrw mrn u.1 u.2.1 u.2.2 mhw mhh mhm mbo mrr mak man maa mip)) (pr2 o (fun x4_21 mnu_21 => ((1 : Int32), (upd mso (x1).toNatClampNeg x2), (upd msz (x1).toNatClampNeg j57_0), mnu_21)))) (fun x4_21 mnu_21  hR => ?_) 300 (0 : Int32) mnu (by decide) (by decide) (by decide) hR)
                rw [pr2_mk x4_21 mnu_21] at hR
                refine j_iconst (v := 1) C dX6_sheet_95 96 rfl (by decide) ?_
                exact Rt.ret (hR) rfl dX6_sheet_96
              refine j_if_ge C dX6_sheet_57 64 rfl 60 rfl (fun c20 => ?_) (fun c20 => ?_)
              · rw [if_pos c20] at hR
                refine j_iload_n C dX6_sheet_64 65 rfl rfl 3 rfl ?_
                rw [pr1_mk x3] at hR
                exact j_lv [0, 1, 2, 3] [(0, .ref (a 0)), (1, .int x1), (2, .int x2), (3, .int x3)] rfl (J57 _  hR)
              · rw [if_neg c20] at hR
                refine j_iconst (v := 0) C dX6_sheet_60 61 rfl (by decide) ?_
                refine j_goto C dX6_sheet_61 65 rfl ?_
                rw [pr1_mk (0 : Int32)] at hR
                exact j_lv [0, 1, 2, 3] [(0, .ref (a 0)), (1, .int x1), (2, .int x2), (3, .int x3)] rfl (J57 _  hR)
            · rw [if_neg c19] at hR
              refine j_bipush (v := (-14)) C dX6_sheet_41 43 rfl (by decide) ?_
              exact Rt.ret (hR) rfl dX6_sheet_43
        · rw [if_neg c14] at hR
          refine j_iconst (v := (-1)) C dX6_sheet_31 32 rfl (by decide) ?_
          exact Rt.ret (hR) rfl dX6_sheet_32

-- X6_anew
def l_X6_anew_2  : Nat → Int32 → (Nat → Int32) → Int32 × (Nat → Int32)
  | 0, x1, ss => (x1, ss)
  | N + 1, x1, ss => if ((ss 0) ≤ x1) then (x1, ss) else (l_X6_anew_2 N (x1 + 1) (upd ss ((((10 : Int32) + ((5 : Int32) * x1)) + 4)).toNatClampNeg 0))
def f_X6_anew (ss : Nat → Int32) : Int32 × (Nat → Int32) := pr2 (l_X6_anew_2 300 (0 : Int32) ss) (fun x1_1 ss_1 => pr2 (f_X6_becomes (upd (upd ss_1 4 0) 5 0) (3 : Int32) (0 : Int32)) (fun r3 ss_3 => (r3, ss_3)))
theorem kX6_anew_f7 : Cond.fieldLink RX6 7 "TwoMinutesModel" "s" "[I" ∈ wsX6_anew := by decide +kernel
theorem qd_X6_anew : yX6_anew.cls = RX6 ∧ yX6_anew.cls ≠ "java/lang/invoke/MethodHandle" ∧ yX6_anew.cls ≠ "java/lang/invoke/VarHandle" ∧ (parseMethodDescriptor yX6_anew.desc).map (fun d => d.parameters.length) = some 0 := by decide +kernel
abbrev rmX6_anew : Room := { frames := 1, cells := 0, slots := 0, locals := 23 }
set_option maxHeartbeats 4000000 in
set_option maxRecDepth 100000 in
theorem L_X6_anew_2 {τ : SX} {κ : KX} (C : Cx τ κ cX6_anew RX6 wsX6_anew rmX6_anew 2) (a : Nat → Nat) (mhd : Nat → Int32) (mas : Nat → Int32) (mbf : Nat → Int32) (mih : Int32) (mtp : Nat → Int32) (mtn : Int32) (mtk : Int32) (mfr : Int32) (mtt : Int32) (mvl : Int32) (miw : Int32) (mld : Nat → Int32) (mrw : Nat → Int32) (mrn : Int32) (mso : Nat → Int32) (msz : Nat → Int32) (mnu : Nat → Int32) (mhw : Nat → Int32) (mhh : Nat → Int32) (mhm : Nat → Int32) (mbo : Nat → Int32) (mrr : Int32) (mak : Int32) (man : Int32) (maa : Int32) (mip : Int32) (Φ : Int32 × (Nat → Int32) → Prop) (hE : ∀ (x1 : Int32) (ss : Nat → Int32), Φ (x1, ss) → J τ κ 0 0 (wM τ a ss mhd mas mbf mih mtp mtn mtk mfr mtt mvl miw mld mrw mrn mso msz mnu mhw mhh mhm mbo mrr mak man maa mip) [(0, .ref (a 0)), (1, .int x1)] 32 []) : ∀ (N : Nat) (x1 : Int32) (ss : Nat → Int32), ((8 : Int) - x1.toInt).toNat < N → (0 ≤ x1.toInt) → (x1.toInt ≤ 8) → (okS ss) → Φ (l_X6_anew_2 N x1 ss) → J τ κ 0 0 (wM τ a ss mhd mas mbf mih mtp mtn mtk mfr mtt mvl miw mld mrw mrn mso msz mnu mhw mhh mhm mbo mrr mak man maa mip) [(0, .ref (a 0)), (1, .int x1)] 2 [] := by
  have hiX6 : ∀ w ∈ wsX60, w ∈ wsX6_anew := fun w h => List.mem_cons_of_mem _ (List.mem_append_right _ h)
  intro N
  induction N with
  | zero => intro x1 ss hm; exact absurd hm (Nat.not_lt_zero _)
  | succ N ih =>
    intro x1 ss hm h0 h1 hok hR
    rw [l_X6_anew_2] at hR
    refine j_iload_n C dX6_anew_2 3 rfl rfl 1 rfl ?_
    refine j_aload_n C dX6_anew_3 4 rfl rfl 0 rfl ?_
    refine j_get C dX6_anew_4 7 rfl hiX6 0 rfl rfl 0 (by decide) rfl kX6_anew_f7 rfl ?_
    refine j_iconst (v := 0) C dX6_anew_7 8 rfl (by decide) ?_
    refine j_iald C dX6_anew_8 9 rfl 1 rfl (by unfold vp_in; decide) 0 rfl ?_
    refine j_icmp_ge C dX6_anew_9 32 rfl 12 rfl (fun c2 => ?_) (fun c2 => ?_)
    · rw [if_pos c2] at hR
      exact j_lv [0, 1] [(0, .ref (a 0)), (1, .int x1)] rfl (hE _ _  hR)
    · rw [if_neg c2] at hR
      have hs := cnt_step (B := 8) h0 (hok.2.1) (by decide) c2
      refine j_aload_n C dX6_anew_12 13 rfl rfl 0 rfl ?_
      refine j_get C dX6_anew_13 16 rfl hiX6 0 rfl rfl 0 (by decide) rfl kX6_anew_f7 rfl ?_
      refine j_bipush (v := 10) C dX6_anew_16 18 rfl (by decide) ?_
      refine j_iconst (v := 5) C dX6_anew_18 19 rfl (by decide) ?_
      refine j_iload_n C dX6_anew_19 20 rfl rfl 1 rfl ?_
      refine j_imul C dX6_anew_20 21 rfl ?_
      refine j_iadd C dX6_anew_21 22 rfl ?_
      refine j_iconst (v := 4) C dX6_anew_22 23 rfl (by decide) ?_
      refine j_iadd C dX6_anew_23 24 rfl ?_
      refine j_iconst (v := 0) C dX6_anew_24 25 rfl (by decide) ?_
      refine j_iast C dX6_anew_25 26 rfl 1 rfl (its_in (o := x1) (w := 4) (vp_in_iff.mpr ⟨by omega, by omega⟩) (by decide)) ((((10 : Int32) + ((5 : Int32) * x1)) + 4)).toNatClampNeg rfl (wM τ a (upd ss ((((10 : Int32) + ((5 : Int32) * x1)) + 4)).toNatClampNeg 0) mhd mas mbf mih mtp mtn mtk mfr mtt mvl miw mld mrw mrn mso msz mnu mhw mhh mhm mbo mrr mak man maa mip) rfl ?_
      refine j_iinc (v := (x1 + 1)) C dX6_anew_26 29 rfl 1 rfl rfl (by decide) [(1, .int (x1 + 1)), (0, .ref (a 0))] rfl ?_
      refine j_goto C dX6_anew_29 2 rfl ?_
      exact j_lv [1, 0] [(0, .ref (a 0)), (1, .int (x1 + 1))] rfl (ih _ _ (by have := hs.2.2.1; omega) hs.1 hs.2.1 (ok_noise (by assumption) h0 (by omega)) hR)
set_option maxHeartbeats 4000000 in
set_option maxRecDepth 100000 in
theorem c_X6_anew (τ : SX) (a : Nat → Nat) (ss : Nat → Int32) (mhd : Nat → Int32) (mas : Nat → Int32) (mbf : Nat → Int32) (mih : Int32) (mtp : Nat → Int32) (mtn : Int32) (mtk : Int32) (mfr : Int32) (mtt : Int32) (mvl : Int32) (miw : Int32) (mld : Nat → Int32) (mrw : Nat → Int32) (mrn : Int32) (mso : Nat → Int32) (msz : Nat → Int32) (mnu : Nat → Int32) (mhw : Nat → Int32) (mhh : Nat → Int32) (mhm : Nat → Int32) (mbo : Nat → Int32) (mrr : Int32) (mak : Int32) (man : Int32) (maa : Int32) (mip : Int32) (hok : okS ss) (sz : Nat) : McI τ yX6_anew wsX6_anew rmX6_anew .int [.ref (a 0)] (wM τ a ss mhd mas mbf mih mtp mtn mtk mfr mtt mvl miw mld mrw mrn mso msz mnu mhw mhh mhm mbo mrr mak man maa mip) (fun u : (Nat → Int32) => (wM τ a u mhd mas mbf mih mtp mtn mtk mfr mtt mvl miw mld mrw mrn mso msz mnu mhw mhh mhm mbo mrr mak man maa mip)) (f_X6_anew ss) sz := by
  refine mc_I (cc := cX6_anew) (own := RX6) [(0, .ref (a 0))] rfl (by decide) rfl rfl (Nat.le_of_ble_eq_true rfl) (fun κ C hR => ?_)
  have hiX6 : ∀ w ∈ wsX60, w ∈ wsX6_anew := fun w h => List.mem_cons_of_mem _ (List.mem_append_right _ h)
  unfold f_X6_anew at hR
  refine j_iconst (v := 0) C dX6_anew_0 1 rfl (by decide) ?_
  refine j_istore_n C dX6_anew_1 2 rfl rfl (by decide) [(1, .int 0), (0, .ref (a 0))] rfl ?_
  refine j_lv [1, 0] [(0, .ref (a 0)), (1, .int 0)] rfl (L_X6_anew_2 C a mhd mas mbf mih mtp mtn mtk mfr mtt mvl miw mld mrw mrn mso msz mnu mhw mhh mhm mbo mrr mak man maa mip   (fun (o : Int32 × (Nat → Int32)) => Rt τ κ cX6_anew .int (fun u : (Nat → Int32) => (wM τ a u mhd mas mbf mih mtp mtn mtk mfr mtt mvl miw mld mrw mrn mso msz mnu mhw mhh mhm mbo mrr mak man maa mip)) (pr2 o (fun x1_1 ss_1 => pr2 (f_X6_becomes (upd (upd ss_1 4 0) 5 0) (3 : Int32) (0 : Int32)) (fun r3 ss_3 => (r3, ss_3))))) (fun x1_1 ss_1  hR => ?_) 300 (0 : Int32) ss (by decide) (by decide) (by decide) (by assumption) hR)
  rw [pr2_mk x1_1 ss_1] at hR
  refine j_aload_n C dX6_anew_32 33 rfl rfl 0 rfl ?_
  refine j_get C dX6_anew_33 36 rfl hiX6 0 rfl rfl 0 (by decide) rfl kX6_anew_f7 rfl ?_
  refine j_iconst (v := 4) C dX6_anew_36 37 rfl (by decide) ?_
  refine j_iconst (v := 0) C dX6_anew_37 38 rfl (by decide) ?_
  refine j_iast C dX6_anew_38 39 rfl 1 rfl (by unfold vp_in; decide) 4 rfl (wM τ a (upd ss_1 4 0) mhd mas mbf mih mtp mtn mtk mfr mtt mvl miw mld mrw mrn mso msz mnu mhw mhh mhm mbo mrr mak man maa mip) rfl ?_
  refine j_aload_n C dX6_anew_39 40 rfl rfl 0 rfl ?_
  refine j_get C dX6_anew_40 43 rfl hiX6 0 rfl rfl 0 (by decide) rfl kX6_anew_f7 rfl ?_
  refine j_iconst (v := 5) C dX6_anew_43 44 rfl (by decide) ?_
  refine j_iconst (v := 0) C dX6_anew_44 45 rfl (by decide) ?_
  refine j_iast C dX6_anew_45 46 rfl 1 rfl (by unfold vp_in; decide) 5 rfl (wM τ a (upd (upd ss_1 4 0) 5 0) mhd mas mbf mih mtp mtn mtk mfr mtt mvl miw mld mrw mrn mso msz mnu mhw mhh mhm mbo mrr mak man maa mip) rfl ?_
  refine j_aload_n C dX6_anew_46 47 rfl rfl 0 rfl ?_
  refine j_iconst (v := 3) C dX6_anew_47 48 rfl (by decide) ?_
  refine j_iconst (v := 0) C dX6_anew_48 49 rfl (by decide) ?_
  refine j_cv0I (na := 2) C dX6_anew_49 52 rfl (c_X6_becomes τ a (upd (upd ss_1 4 0) 5 0) mhd mas mbf mih mtp mtn mtk mfr mtt mvl miw mld mrw mrn mso msz mnu mhw mhh mhm mbo mrr mak man maa mip (3 : Int32) (0 : Int32) (by first | assumption | (unfold vp_in; decide))) gX6_anew_X6_becomes rfl rfl rfl qd_X6_becomes rfl ⟨by decide, by decide⟩ ⟨by decide, by decide⟩ rfl (Nat.le_of_ble_eq_true rfl) rfl 6 0 rfl rfl (fun r3 u3 hX3 hn3 => ?_)
  obtain ⟨ss_3, rfl⟩ : ∃ z, z = u3 := ⟨_, rfl⟩
  rw [hX3] at hR; rw [pr2_mk r3 ss_3] at hR
  exact Rt.ret (hR) rfl dX6_anew_52

