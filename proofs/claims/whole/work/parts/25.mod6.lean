theorem in_crn {x : Int32} (c : ¬ f_X6_isCorner x = 0) : vp_in x 12 := by
  unfold f_X6_isCorner at c
  by_cases c1 : x < 0
  · rw [if_pos c1] at c; exact absurd rfl c
  · rw [if_neg c1] at c
    by_cases c2 : (12 : Int32) ≤ x
    · rw [if_pos c2] at c; exact absurd rfl c
    · rw [i32_lt, show (0 : Int32).toInt = 0 from rfl] at c1
      rw [i32_le, show (12 : Int32).toInt = 12 from rfl] at c2
      exact vpI (by omega) (by omega)
theorem i64_mulE {a b : Int64} (h1 : -9223372036854775808 ≤ a.toInt * b.toInt) (h2 : a.toInt * b.toInt < 9223372036854775808) : (a * b).toInt = a.toInt * b.toInt := by
  rw [Int64.toInt_mul]
  exact Int.bmod_eq_of_le (by omega) (by omega)
theorem i64_subE {a b : Int64} (h1 : -9223372036854775808 ≤ a.toInt - b.toInt) (h2 : a.toInt - b.toInt < 9223372036854775808) : (a - b).toInt = a.toInt - b.toInt := by
  rw [Int64.toInt_sub]
  exact Int.bmod_eq_of_le (by omega) (by omega)
theorem i64_addE {a b : Int64} (h1 : -9223372036854775808 ≤ a.toInt + b.toInt) (h2 : a.toInt + b.toInt < 9223372036854775808) : (a + b).toInt = a.toInt + b.toInt := by
  rw [Int64.toInt_add]
  exact Int.bmod_eq_of_le (by omega) (by omega)
theorem i64_nz {x : Int64} (h : 0 < x.toInt) : ¬ x = 0 := fun e => by rw [e] at h; exact absurd h (by decide)
theorem i64_divE {x y : Int64} (hx : 0 ≤ x.toInt) (hy : 0 < y.toInt) : (x / y).toInt = x.toInt / y.toInt := by
  rw [Int64.toInt_div_of_ne_left x y (fun e => by rw [e] at hx; exact absurd hx (by decide))]
  exact Int.tdiv_eq_ediv_of_nonneg hx
theorem i64_rem {x y : Int64} (hx : 0 ≤ x.toInt) (hy : 0 < y.toInt) : (x - x / y * y).toInt = x.toInt % y.toInt := by
  have hd := i64_divE hx hy
  have h1 := Int.emod_add_mul_ediv x.toInt y.toInt
  have h2 := Int.emod_nonneg x.toInt (show y.toInt ≠ 0 by omega)
  have h3 := Int64.toInt_lt x
  have h0 : 0 ≤ x.toInt / y.toInt * y.toInt := Int.mul_nonneg (Int.ediv_nonneg hx (by omega)) (by omega)
  have hc : y.toInt * (x.toInt / y.toInt) = x.toInt / y.toInt * y.toInt := Int.mul_comm _ _
  have hm : (x / y * y).toInt = x.toInt / y.toInt * y.toInt := by
    have e := i64_mulE (a := x / y) (b := y) (by rw [hd]; omega) (by rw [hd]; omega)
    rw [e, hd]
  rw [i64_subE (by omega) (by omega)]
  omega
theorem gcd_step {x y : Int64} {N : Nat} (hx : 0 < x.toInt) (hy : 0 ≤ y.toInt) (c : ¬ lg_cmp y 0 = 0) (hm : y.toInt.toNat < N + 1) : 0 < y.toInt ∧ 0 ≤ (x - x / y * y).toInt ∧ (x - x / y * y).toInt.toNat < N := by
  have hz := lc_ne c
  have hz2 : ¬ y.toInt = 0 := fun e => hz (Int64.toInt_inj.mp (by rw [e]; rfl))
  have h := i64_rem (x := x) (y := y) (by omega) (by omega)
  have h2 := Int.emod_nonneg x.toInt (show y.toInt ≠ 0 by omega)
  have h3 := Int.emod_lt_of_pos x.toInt (show 0 < y.toInt by omega)
  omega
theorem gcd_fuel (y : Int64) : y.toInt.toNat < 9223372036854775809 := by
  have := Int64.toInt_lt y
  omega
theorem nine_of {n : Int32} (h0 : 0 ≤ n.toInt) (h : n.toInt ≤ 8) : n = 0 ∨ n = 1 ∨ n = 2 ∨ n = 3 ∨ n = 4 ∨ n = 5 ∨ n = 6 ∨ n = 7 ∨ n = 8 := by
  simp only [i32_eq, show (0 : Int32).toInt = 0 from rfl, show (1 : Int32).toInt = 1 from rfl, show (2 : Int32).toInt = 2 from rfl, show (3 : Int32).toInt = 3 from rfl, show (4 : Int32).toInt = 4 from rfl, show (5 : Int32).toInt = 5 from rfl, show (6 : Int32).toInt = 6 from rfl, show (7 : Int32).toInt = 7 from rfl, show (8 : Int32).toInt = 8 from rfl]
  omega
theorem ix3m {i : Int32} {j : Int32} (h0 : 0 ≤ i.toInt) (h : i.toInt < 10) (hj : 0 ≤ j.toInt ∧ j.toInt ≤ 2) : vp_in ((3 : Int32) * i + j) 30 := by
  have m1 : ((3 : Int32) * i).toInt = 3 * i.toInt := i32_mulE (a := 3) (b := i) (by rw [show (3 : Int32).toInt = 3 from rfl]; omega) (by rw [show (3 : Int32).toInt = 3 from rfl]; omega)
  have m2 : ((3 : Int32) * i + j).toInt = ((3 : Int32) * i).toInt + j.toInt := i32_addE (a := (3 : Int32) * i) (b := j) (by omega) (by omega)
  exact vpI (by omega) (by omega)
theorem ix3m0 {i : Int32} (h0 : 0 ≤ i.toInt) (h : i.toInt < 10) : vp_in ((3 : Int32) * i) 30 := by
  have m1 : ((3 : Int32) * i).toInt = 3 * i.toInt := i32_mulE (a := 3) (b := i) (by rw [show (3 : Int32).toInt = 3 from rfl]; omega) (by rw [show (3 : Int32).toInt = 3 from rfl]; omega)
  exact vpI (by omega) (by omega)
theorem lg_le {a b : Int64} (c : lg_cmp a b ≤ 0) : a.toInt ≤ b.toInt := by
  unfold lg_cmp at c
  by_cases h : b < a
  · rw [if_pos h] at c; exact absurd c (by decide)
  · rw [Int64.lt_iff_toInt_lt] at h; omega
theorem mi_a {s0 x3 x4 : Int32} (h1 : 0 ≤ x3.toInt ∧ x3.toInt < s0.toInt) (c2 : ¬ f_X6_isIn x4.toInt64 0 8 = 0) (c3 : x3 + x4 ≤ s0) (h : s0.toInt ≤ 8) : 0 ≤ x3.toInt ∧ x3.toInt + x4.toInt ≤ 8 ∧ x4.toInt ≤ 8 := by
  have a2 := in6 c2
  rw [show (0 : Int64).toInt = 0 from rfl, show (8 : Int64).toInt = 8 from rfl] at a2
  have e : (x3 + x4).toInt = x3.toInt + x4.toInt := i32_addE (by omega) (by omega)
  rw [i32_le] at c3
  omega
theorem mi_b {sz x2 x4 : Int32} (c1 : ¬ f_X6_isIn x2.toInt64 0 sz.toInt64 = 0) (c2 : ¬ f_X6_isIn x4.toInt64 0 8 = 0) (c3 : lg_cmp (x2.toInt64 + x4.toInt64) sz.toInt64 ≤ 0) (h : 0 ≤ sz.toInt ∧ sz.toInt ≤ 40) : 0 ≤ x2.toInt ∧ x2.toInt + x4.toInt ≤ 40 := by
  have a1 := in6 c1
  have a2 := in6 c2
  rw [Int32.toInt_toInt64, show (0 : Int64).toInt = 0 from rfl] at a1
  rw [show (0 : Int64).toInt = 0 from rfl, show (8 : Int64).toInt = 8 from rfl] at a2
  have a3 := lg_le c3
  have e := i64_addE (a := x2.toInt64) (b := x4.toInt64) (by rw [Int32.toInt_toInt64, Int32.toInt_toInt64]; omega) (by rw [Int32.toInt_toInt64, Int32.toInt_toInt64]; omega)
  rw [e, Int32.toInt_toInt64, Int32.toInt_toInt64, Int32.toInt_toInt64] at a3
  omega
theorem nu_in3 {x y z : Int32} (h : vp_in x 4) (h0 : 0 ≤ y.toInt) (hz : 0 ≤ z.toInt) (h2 : y.toInt + z.toInt < 40) : vp_in ((40 : Int32) * x + y + z) 160 := by
  rw [vp_in_iff] at h
  have e4 : (40 : Int32).toInt = 40 := rfl
  have m1 : ((40 : Int32) * x).toInt = 40 * x.toInt := i32_mulE (a := 40) (b := x) (by rw [e4]; omega) (by rw [e4]; omega)
  have m2 : ((40 : Int32) * x + y).toInt = ((40 : Int32) * x).toInt + y.toInt := i32_addE (a := (40 : Int32) * x) (b := y) (by omega) (by omega)
  have m3 : ((40 : Int32) * x + y + z).toInt = ((40 : Int32) * x + y).toInt + z.toInt := i32_addE (a := (40 : Int32) * x + y) (b := z) (by omega) (by omega)
  exact vpI (by omega) (by omega)
theorem add8 {x y : Int32} (h0 : 0 ≤ x.toInt) (h1 : 0 ≤ y.toInt) (h : x.toInt + y.toInt < 8) : vp_in (x + y) 8 := by
  have e : (x + y).toInt = x.toInt + y.toInt := i32_addE (by omega) (by omega)
  exact vpI (by omega) (by omega)

-- X6_heard
def f_X6_heard (ss : Nat → Int32) (mas : Nat → Int32) (mld : Nat → Int32) (x1 : Int32) (x2 : Int32) : Int32 × (Nat → Int32) × (Nat → Int32) × (Nat → Int32) := if ((f_X6_isCorner x1) = 0) then (((-1) : Int32), ss, mas, mld) else (if ((f_X6_isLong x2) = 0) then (((-1) : Int32), ss, mas, mld) else (pr3 (f_X6_listens ss mas mld x2) (fun ss_5 mas_5 mld_5 => ((mld_5 (x1).toNatClampNeg), ss_5, mas_5, mld_5))))
theorem kX6_heard_iRX6 : Cond.initialized yX6_isLong.cls ∈ wsX6_heard := by decide +kernel
theorem kX6_heard_sX6_isCorner : Cond.static yX6_isCorner ∈ wsX6_heard := by decide +kernel
theorem kX6_heard_m160 : Cond.methodLink RX6 160 yX6_isCorner ∈ wsX6_heard := by decide +kernel
theorem kX6_heard_sX6_isLong : Cond.static yX6_isLong ∈ wsX6_heard := by decide +kernel
theorem kX6_heard_m219 : Cond.methodLink RX6 219 yX6_isLong ∈ wsX6_heard := by decide +kernel
theorem kX6_heard_f25 : Cond.fieldLink RX6 25 "TwoMinutesModel" "loudness" "[I" ∈ wsX6_heard := by decide +kernel
theorem qd_X6_heard : yX6_heard.cls = RX6 ∧ yX6_heard.cls ≠ "java/lang/invoke/MethodHandle" ∧ yX6_heard.cls ≠ "java/lang/invoke/VarHandle" ∧ (parseMethodDescriptor yX6_heard.desc).map (fun d => d.parameters.length) = some 2 := by decide +kernel
abbrev rmX6_heard : Room := { frames := 5, cells := 0, slots := 0, locals := 114 }
set_option maxHeartbeats 4000000 in
set_option maxRecDepth 100000 in
theorem c_X6_heard (τ : SX) (a : Nat → Nat) (ss : Nat → Int32) (mhd : Nat → Int32) (mas : Nat → Int32) (mbf : Nat → Int32) (mih : Int32) (mtp : Nat → Int32) (mtn : Int32) (mtk : Int32) (mfr : Int32) (mtt : Int32) (mvl : Int32) (miw : Int32) (mld : Nat → Int32) (mrw : Nat → Int32) (mrn : Int32) (mso : Nat → Int32) (msz : Nat → Int32) (mnu : Nat → Int32) (mhw : Nat → Int32) (mhh : Nat → Int32) (mhm : Nat → Int32) (mbo : Nat → Int32) (mrr : Int32) (mak : Int32) (man : Int32) (maa : Int32) (mip : Int32) (x1 : Int32) (x2 : Int32) (hok : okS ss) (sz : Nat) : McI τ yX6_heard wsX6_heard rmX6_heard .int [.ref (a 0), .int x1, .int x2] (wM τ a ss mhd mas mbf mih mtp mtn mtk mfr mtt mvl miw mld mrw mrn mso msz mnu mhw mhh mhm mbo mrr mak man maa mip) (fun u : (Nat → Int32) × (Nat → Int32) × (Nat → Int32) => (wM τ a u.1 mhd u.2.1 mbf mih mtp mtn mtk mfr mtt mvl miw u.2.2 mrw mrn mso msz mnu mhw mhh mhm mbo mrr mak man maa mip)) (f_X6_heard ss mas mld x1 x2) sz := by
  refine mc_I (cc := cX6_heard) (own := RX6) [(0, .ref (a 0)), (1, .int x1), (2, .int x2)] rfl (by decide) rfl rfl (Nat.le_of_ble_eq_true rfl) (fun κ C hR => ?_)
  have hiX6 : ∀ w ∈ wsX60, w ∈ wsX6_heard := fun w h => List.mem_cons_of_mem _ (List.mem_append_right _ h)
  unfold f_X6_heard at hR
  refine j_iload_n C dX6_heard_0 1 rfl rfl 1 rfl ?_
  refine j_cs0I (na := 1) C dX6_heard_1 4 rfl (c_X6_isCorner τ  x1 ) rfl ggX6_heard_X6_isCorner rfl rfl rfl kX6_heard_iRX6 kX6_heard_m160 kX6_heard_sX6_isCorner qd_X6_isCorner rfl ⟨by decide, by decide⟩ ⟨by decide, by decide⟩ rfl (Nat.le_of_ble_eq_true rfl) (fun r1 u1 hX1 hn1 => ?_)
  obtain rfl := (Prod.mk.inj hX1).1
  refine j_if_eq C dX6_heard_4 14 rfl 7 rfl (fun c2 => ?_) (fun c2 => ?_)
  · rw [if_pos c2] at hR
    refine j_iconst (v := (-1)) C dX6_heard_14 15 rfl (by decide) ?_
    exact Rt.ret (hR) rfl dX6_heard_15
  · rw [if_neg c2] at hR
    refine j_iload_n C dX6_heard_7 8 rfl rfl 2 rfl ?_
    refine j_cs0I (na := 1) C dX6_heard_8 11 rfl (c_X6_isLong τ  x2 ) rfl ggX6_heard_X6_isLong rfl rfl rfl kX6_heard_iRX6 kX6_heard_m219 kX6_heard_sX6_isLong qd_X6_isLong rfl ⟨by decide, by decide⟩ ⟨by decide, by decide⟩ rfl (Nat.le_of_ble_eq_true rfl) (fun r3 u3 hX3 hn3 => ?_)
    obtain rfl := (Prod.mk.inj hX3).1
    refine j_if_ne C dX6_heard_11 16 rfl 14 rfl (fun c4 => ?_) (fun c4 => ?_)
    · rw [if_neg c4] at hR
      refine j_aload_n C dX6_heard_16 17 rfl rfl 0 rfl ?_
      refine j_iload_n C dX6_heard_17 18 rfl rfl 2 rfl ?_
      refine j_cv0V (na := 1) C dX6_heard_18 21 rfl (c_X6_listens τ a ss mhd mas mbf mih mtp mtn mtk mfr mtt mvl miw mld mrw mrn mso msz mnu mhw mhh mhm mbo mrr mak man maa mip x2 hok (m_long c4)) gX6_heard_X6_listens rfl rfl rfl qd_X6_listens rfl ⟨by decide, by decide⟩ ⟨by decide, by decide⟩ rfl (Nat.le_of_ble_eq_true rfl) rfl 6 0 rfl rfl (fun u5 hX5 => ?_)
      obtain ⟨ss_5, mas_5, mld_5⟩ := u5
      rw [hX5] at hR; rw [pr3_mk ss_5 mas_5 mld_5] at hR
      refine j_aload_n C dX6_heard_21 22 rfl rfl 0 rfl ?_
      refine j_get C dX6_heard_22 25 rfl hiX6 0 rfl rfl 12 (by decide) rfl kX6_heard_f25 rfl ?_
      refine j_iload_n C dX6_heard_25 26 rfl rfl 1 rfl ?_
      refine j_iald C dX6_heard_26 27 rfl 6 rfl (in_crn c2) (x1).toNatClampNeg rfl ?_
      exact Rt.ret (hR) rfl dX6_heard_27
    · rw [if_pos c4] at hR
      refine j_iconst (v := (-1)) C dX6_heard_14 15 rfl (by decide) ?_
      exact Rt.ret (hR) rfl dX6_heard_15

-- X6_calm
def l_X6_calm_18 (mld : Nat → Int32) : Nat → Int32 → Int32 → Int32 × Int32
  | 0, x2, x3 => (x2, x3)
  | N + 1, x2, x3 => if (12 ≤ x3) then (x2, x3) else (pr1 (if ((mld (x2).toNatClampNeg) ≤ (mld (x3).toNatClampNeg)) then x2 else x3) (fun j36_0 => l_X6_calm_18 mld N j36_0 (x3 + 1)))
def f_X6_calm (ss : Nat → Int32) (mas : Nat → Int32) (mld : Nat → Int32) (x1 : Int32) : Int32 × (Nat → Int32) × (Nat → Int32) × (Nat → Int32) := if ((f_X6_isLong x1) = 0) then (((-1) : Int32), ss, mas, mld) else (pr3 (f_X6_listens ss mas mld x1) (fun ss_3 mas_3 mld_3 => pr2 (l_X6_calm_18 mld_3 300 (0 : Int32) (1 : Int32)) (fun x2_4 x3_4 => (x2_4, ss_3, mas_3, mld_3))))
theorem kX6_calm_iRX6 : Cond.initialized yX6_isLong.cls ∈ wsX6_calm := by decide +kernel
theorem kX6_calm_sX6_isLong : Cond.static yX6_isLong ∈ wsX6_calm := by decide +kernel
theorem kX6_calm_m219 : Cond.methodLink RX6 219 yX6_isLong ∈ wsX6_calm := by decide +kernel
theorem kX6_calm_f25 : Cond.fieldLink RX6 25 "TwoMinutesModel" "loudness" "[I" ∈ wsX6_calm := by decide +kernel
theorem qd_X6_calm : yX6_calm.cls = RX6 ∧ yX6_calm.cls ≠ "java/lang/invoke/MethodHandle" ∧ yX6_calm.cls ≠ "java/lang/invoke/VarHandle" ∧ (parseMethodDescriptor yX6_calm.desc).map (fun d => d.parameters.length) = some 1 := by decide +kernel
abbrev rmX6_calm : Room := { frames := 5, cells := 0, slots := 0, locals := 114 }
set_option maxHeartbeats 4000000 in
set_option maxRecDepth 100000 in
theorem L_X6_calm_18 {τ : SX} {κ : KX} (C : Cx τ κ cX6_calm RX6 wsX6_calm rmX6_calm 4) (a : Nat → Nat) (ss : Nat → Int32) (mhd : Nat → Int32) (mas : Nat → Int32) (mbf : Nat → Int32) (mih : Int32) (mtp : Nat → Int32) (mtn : Int32) (mtk : Int32) (mfr : Int32) (mtt : Int32) (mvl : Int32) (miw : Int32) (mld : Nat → Int32) (mrw : Nat → Int32) (mrn : Int32) (mso : Nat → Int32) (msz : Nat → Int32) (mnu : Nat → Int32) (mhw : Nat → Int32) (mhh : Nat → Int32) (mhm : Nat → Int32) (mbo : Nat → Int32) (mrr : Int32) (mak : Int32) (man : Int32) (maa : Int32) (mip : Int32) (x1 : Int32) (Φ : Int32 × Int32 → Prop) (hE : ∀ (x2 : Int32) (x3 : Int32), Φ (x2, x3) → J τ κ 0 0 (wM τ a ss mhd mas mbf mih mtp mtn mtk mfr mtt mvl miw mld mrw mrn mso msz mnu mhw mhh mhm mbo mrr mak man maa mip) [(0, .ref (a 0)), (1, .int x1), (2, .int x2), (3, .int x3)] 51 []) : ∀ (N : Nat) (x2 : Int32) (x3 : Int32), ((12 : Int) - x3.toInt).toNat < N → (0 ≤ x3.toInt) → (x3.toInt ≤ 12) → (0 ≤ x2.toInt ∧ x2.toInt < 12) → Φ (l_X6_calm_18 mld N x2 x3) → J τ κ 0 0 (wM τ a ss mhd mas mbf mih mtp mtn mtk mfr mtt mvl miw mld mrw mrn mso msz mnu mhw mhh mhm mbo mrr mak man maa mip) [(0, .ref (a 0)), (1, .int x1), (2, .int x2), (3, .int x3)] 18 [] := by
  have hiX6 : ∀ w ∈ wsX60, w ∈ wsX6_calm := fun w h => List.mem_cons_of_mem _ (List.mem_append_right _ h)
  intro N
  induction N with
  | zero => intro x2 x3 hm; exact absurd hm (Nat.not_lt_zero _)
  | succ N ih =>
    intro x2 x3 hm h0 h1 hb hR
    rw [l_X6_calm_18] at hR
    refine j_iload_n C dX6_calm_18 19 rfl rfl 3 rfl ?_
    refine j_bipush (v := 12) C dX6_calm_19 21 rfl (by decide) ?_
    refine j_icmp_ge C dX6_calm_21 51 rfl 24 rfl (fun c5 => ?_) (fun c5 => ?_)
    · rw [if_pos c5] at hR
      exact j_lv [0, 1, 2, 3] [(0, .ref (a 0)), (1, .int x1), (2, .int x2), (3, .int x3)] rfl (hE _ _  hR)
    · rw [if_neg c5] at hR
      have hs := cnt_step (B := 12) h0 (by decide) (by decide) c5
      refine j_aload_n C dX6_calm_24 25 rfl rfl 0 rfl ?_
      refine j_get C dX6_calm_25 28 rfl hiX6 0 rfl rfl 12 (by decide) rfl kX6_calm_f25 rfl ?_
      refine j_iload_n C dX6_calm_28 29 rfl rfl 3 rfl ?_
      refine j_iald C dX6_calm_29 30 rfl 6 rfl (vpI h0 hs.2.2.2) (x3).toNatClampNeg rfl ?_
      refine j_aload_n C dX6_calm_30 31 rfl rfl 0 rfl ?_
      refine j_get C dX6_calm_31 34 rfl hiX6 0 rfl rfl 12 (by decide) rfl kX6_calm_f25 rfl ?_
      refine j_iload_n C dX6_calm_34 35 rfl rfl 2 rfl ?_
      refine j_iald C dX6_calm_35 36 rfl 6 rfl (vpI hb.1 hb.2) (x2).toNatClampNeg rfl ?_
      have J36 : ∀ (j36_0 : Int32), (0 ≤ j36_0.toInt ∧ j36_0.toInt < 12) → Φ (l_X6_calm_18 mld N j36_0 (x3 + 1)) → J τ κ 0 0 (wM τ a ss mhd mas mbf mih mtp mtn mtk mfr mtt mvl miw mld mrw mrn mso msz mnu mhw mhh mhm mbo mrr mak man maa mip) [(0, .ref (a 0)), (1, .int x1), (2, .int x2), (3, .int x3)] 44 [.int j36_0] := by
        intro j36_0 hbj hR
        refine j_istore_n C dX6_calm_44 45 rfl rfl (by decide) [(2, .int j36_0), (0, .ref (a 0)), (1, .int x1), (3, .int x3)] rfl ?_
        refine j_iinc (v := (x3 + 1)) C dX6_calm_45 48 rfl 3 rfl rfl (by decide) [(3, .int (x3 + 1)), (2, .int j36_0), (0, .ref (a 0)), (1, .int x1)] rfl ?_
        refine j_goto C dX6_calm_48 18 rfl ?_
        exact j_lv [2, 3, 1, 0] [(0, .ref (a 0)), (1, .int x1), (2, .int j36_0), (3, .int (x3 + 1))] rfl (ih _ _ (by have := hs.2.2.1; omega) hs.1 hs.2.1 hbj hR)
      refine j_icmp_ge C dX6_calm_36 43 rfl 39 rfl (fun c6 => ?_) (fun c6 => ?_)
      · rw [if_pos c6] at hR
        refine j_iload_n C dX6_calm_43 44 rfl rfl 2 rfl ?_
        rw [pr1_mk x2] at hR
        exact j_lv [0, 1, 2, 3] [(0, .ref (a 0)), (1, .int x1), (2, .int x2), (3, .int x3)] rfl (J36 _ (by first | exact hb | exact ⟨h0, hs.2.2.2⟩) hR)
      · rw [if_neg c6] at hR
        refine j_iload_n C dX6_calm_39 40 rfl rfl 3 rfl ?_
        refine j_goto C dX6_calm_40 44 rfl ?_
        rw [pr1_mk x3] at hR
        exact j_lv [0, 1, 2, 3] [(0, .ref (a 0)), (1, .int x1), (2, .int x2), (3, .int x3)] rfl (J36 _ (by first | exact hb | exact ⟨h0, hs.2.2.2⟩) hR)
set_option maxHeartbeats 4000000 in
set_option maxRecDepth 100000 in
theorem c_X6_calm (τ : SX) (a : Nat → Nat) (ss : Nat → Int32) (mhd : Nat → Int32) (mas : Nat → Int32) (mbf : Nat → Int32) (mih : Int32) (mtp : Nat → Int32) (mtn : Int32) (mtk : Int32) (mfr : Int32) (mtt : Int32) (mvl : Int32) (miw : Int32) (mld : Nat → Int32) (mrw : Nat → Int32) (mrn : Int32) (mso : Nat → Int32) (msz : Nat → Int32) (mnu : Nat → Int32) (mhw : Nat → Int32) (mhh : Nat → Int32) (mhm : Nat → Int32) (mbo : Nat → Int32) (mrr : Int32) (mak : Int32) (man : Int32) (maa : Int32) (mip : Int32) (x1 : Int32) (hok : okS ss) (sz : Nat) : McI τ yX6_calm wsX6_calm rmX6_calm .int [.ref (a 0), .int x1] (wM τ a ss mhd mas mbf mih mtp mtn mtk mfr mtt mvl miw mld mrw mrn mso msz mnu mhw mhh mhm mbo mrr mak man maa mip) (fun u : (Nat → Int32) × (Nat → Int32) × (Nat → Int32) => (wM τ a u.1 mhd u.2.1 mbf mih mtp mtn mtk mfr mtt mvl miw u.2.2 mrw mrn mso msz mnu mhw mhh mhm mbo mrr mak man maa mip)) (f_X6_calm ss mas mld x1) sz := by
  refine mc_I (cc := cX6_calm) (own := RX6) [(0, .ref (a 0)), (1, .int x1)] rfl (by decide) rfl rfl (Nat.le_of_ble_eq_true rfl) (fun κ C hR => ?_)
  have hiX6 : ∀ w ∈ wsX60, w ∈ wsX6_calm := fun w h => List.mem_cons_of_mem _ (List.mem_append_right _ h)
  unfold f_X6_calm at hR
  refine j_iload_n C dX6_calm_0 1 rfl rfl 1 rfl ?_
  refine j_cs0I (na := 1) C dX6_calm_1 4 rfl (c_X6_isLong τ  x1 ) rfl ggX6_calm_X6_isLong rfl rfl rfl kX6_calm_iRX6 kX6_calm_m219 kX6_calm_sX6_isLong qd_X6_isLong rfl ⟨by decide, by decide⟩ ⟨by decide, by decide⟩ rfl (Nat.le_of_ble_eq_true rfl) (fun r1 u1 hX1 hn1 => ?_)
  obtain rfl := (Prod.mk.inj hX1).1
  refine j_if_ne C dX6_calm_4 9 rfl 7 rfl (fun c2 => ?_) (fun c2 => ?_)
  · rw [if_neg c2] at hR
    refine j_aload_n C dX6_calm_9 10 rfl rfl 0 rfl ?_
    refine j_iload_n C dX6_calm_10 11 rfl rfl 1 rfl ?_
    refine j_cv0V (na := 1) C dX6_calm_11 14 rfl (c_X6_listens τ a ss mhd mas mbf mih mtp mtn mtk mfr mtt mvl miw mld mrw mrn mso msz mnu mhw mhh mhm mbo mrr mak man maa mip x1 hok (m_long c2)) gX6_calm_X6_listens rfl rfl rfl qd_X6_listens rfl ⟨by decide, by decide⟩ ⟨by decide, by decide⟩ rfl (Nat.le_of_ble_eq_true rfl) rfl 6 0 rfl rfl (fun u3 hX3 => ?_)
    obtain ⟨ss_3, mas_3, mld_3⟩ := u3
    rw [hX3] at hR; rw [pr3_mk ss_3 mas_3 mld_3] at hR
    refine j_iconst (v := 0) C dX6_calm_14 15 rfl (by decide) ?_
    refine j_istore_n C dX6_calm_15 16 rfl rfl (by decide) [(2, .int 0), (0, .ref (a 0)), (1, .int x1)] rfl ?_
    refine j_iconst (v := 1) C dX6_calm_16 17 rfl (by decide) ?_
    refine j_istore_n C dX6_calm_17 18 rfl rfl (by decide) [(3, .int 1), (2, .int 0), (0, .ref (a 0)), (1, .int x1)] rfl ?_
    refine j_lv [2, 3, 1, 0] [(0, .ref (a 0)), (1, .int x1), (2, .int 0), (3, .int 1)] rfl (L_X6_calm_18 C a ss_3 mhd mas_3 mbf mih mtp mtn mtk mfr mtt mvl miw mld_3 mrw mrn mso msz mnu mhw mhh mhm mbo mrr mak man maa mip x1  (fun (o : Int32 × Int32) => Rt τ κ cX6_calm .int (fun u : (Nat → Int32) × (Nat → Int32) × (Nat → Int32) => (wM τ a u.1 mhd u.2.1 mbf mih mtp mtn mtk mfr mtt mvl miw u.2.2 mrw mrn mso msz mnu mhw mhh mhm mbo mrr mak man maa mip)) (pr2 o (fun x2_4 x3_4 => (x2_4, ss_3, mas_3, mld_3)))) (fun x2_4 x3_4  hR => ?_) 300 (0 : Int32) (1 : Int32) (by decide) (by decide) (by decide) (by decide) hR)
    rw [pr2_mk x2_4 x3_4] at hR
    refine j_iload_n C dX6_calm_51 52 rfl rfl 2 rfl ?_
    exact Rt.ret (hR) rfl dX6_calm_52
  · rw [if_pos c2] at hR
    refine j_iconst (v := (-1)) C dX6_calm_7 8 rfl (by decide) ?_
    exact Rt.ret (hR) rfl dX6_calm_8

-- X6_product
def l_X6_product_4 (x0 : Int32) : Nat → Int64 → Int32 → Int64 × Int32
  | 0, x1, x3 => (x1, x3)
  | N + 1, x1, x3 => if (x0 < x3) then (x1, x3) else (l_X6_product_4 x0 N (x1 * ((x3 : Int32).toInt64)) (x3 + 1))
def f_X6_product (x0 : Int32) : Int64 := pr2 (l_X6_product_4 x0 300 (1 : Int64) (2 : Int32)) (fun x1_1 x3_1 => x1_1)
theorem qd_X6_product : yX6_product.cls ≠ "java/lang/invoke/MethodHandle" ∧ yX6_product.cls ≠ "java/lang/invoke/VarHandle" ∧ (parseMethodDescriptor yX6_product.desc).map (fun d => d.parameters.length) = some 1 := by decide +kernel
abbrev rmX6_product : Room := { frames := 0, cells := 0, slots := 0, locals := 0 }
set_option maxHeartbeats 4000000 in
set_option maxRecDepth 100000 in
theorem L_X6_product_4 {τ : SX} {κ : KX} (C : Cx τ κ cX6_product RX6 wsX6_product rmX6_product 4) (x0 : Int32) (hx : x0.toInt ≤ 8) (Φ : Int64 × Int32 → Prop) (hE : ∀ (x1 : Int64) (x3 : Int32), Φ (x1, x3) → J τ κ 0 0 [] [(0, .int x0), (1, .long x1), (3, .int x3)] 20 []) : ∀ (N : Nat) (x1 : Int64) (x3 : Int32), ((9 : Int) - x3.toInt).toNat < N → (0 ≤ x3.toInt) → (x3.toInt ≤ 9) → Φ (l_X6_product_4 x0 N x1 x3) → J τ κ 0 0 [] [(0, .int x0), (1, .long x1), (3, .int x3)] 4 [] := by
  intro N
  induction N with
  | zero => intro x1 x3 hm; exact absurd hm (Nat.not_lt_zero _)
  | succ N ih =>
    intro x1 x3 hm h0 h1 hR
    rw [l_X6_product_4] at hR
    refine j_iload_n C dX6_product_4 5 rfl rfl 2 rfl ?_
    refine j_iload_n C dX6_product_5 6 rfl rfl 0 rfl ?_
    refine j_icmp_gt C dX6_product_6 20 rfl 9 rfl (fun c2 => ?_) (fun c2 => ?_)
    · rw [if_pos c2] at hR
      exact j_lv [0, 1, 2] [(0, .int x0), (1, .long x1), (3, .int x3)] rfl (hE _ _  hR)
    · rw [if_neg c2] at hR
      have hs := cnt_stepL (B := 9) h0 (by omega) (by decide) c2
      refine j_lload_n C dX6_product_9 10 rfl rfl 1 rfl ?_
      refine j_iload_n C dX6_product_10 11 rfl rfl 2 rfl ?_
      refine j_i2l C dX6_product_11 12 rfl ?_
      refine j_lmul C dX6_product_12 13 rfl ?_
      refine j_lstore_n C dX6_product_13 14 rfl rfl (by decide) [(1, .long (x1 * ((x3 : Int32).toInt64))), (0, .int x0), (3, .int x3)] rfl ?_
      refine j_iinc (v := (x3 + 1)) C dX6_product_14 17 rfl 2 rfl rfl (by decide) [(3, .int (x3 + 1)), (1, .long (x1 * ((x3 : Int32).toInt64))), (0, .int x0)] rfl ?_
      refine j_goto C dX6_product_17 4 rfl ?_
      exact j_lv [2, 1, 0] [(0, .int x0), (1, .long (x1 * ((x3 : Int32).toInt64))), (3, .int (x3 + 1))] rfl (ih _ _ (by have := hs.2.2.1; omega) hs.1 hs.2.1 hR)
set_option maxHeartbeats 4000000 in
set_option maxRecDepth 100000 in
theorem c_X6_product (τ : SX) (x0 : Int32) (hx : x0.toInt ≤ 8) (sz : Nat) : McL τ yX6_product wsX6_product rmX6_product [.int x0] [] (fun _ : Unit => []) (f_X6_product x0, ()) sz := by
  refine mc_L (cc := cX6_product) (own := RX6) [(0, .int x0)] rfl (by decide) rfl rfl (Nat.le_of_ble_eq_true rfl) (fun κ C hR => ?_)
  unfold f_X6_product at hR
  refine j_lconst (v := 1) C dX6_product_0 1 rfl (by decide) ?_
  refine j_lstore_n C dX6_product_1 2 rfl rfl (by decide) [(1, .long 1), (0, .int x0)] rfl ?_
  refine j_iconst (v := 2) C dX6_product_2 3 rfl (by decide) ?_
  refine j_istore_n C dX6_product_3 4 rfl rfl (by decide) [(3, .int 2), (1, .long 1), (0, .int x0)] rfl ?_
  refine j_lv [2, 1, 0] [(0, .int x0), (1, .long 1), (3, .int 2)] rfl (L_X6_product_4 C   x0 hx (fun (o : Int64 × Int32) => RtL τ κ cX6_product (fun _ : Unit => []) ((pr2 o (fun x1_1 x3_1 => x1_1), ()))) (fun x1_1 x3_1  hR => ?_) 300 (1 : Int64) (2 : Int32) (by decide) (by decide) (by decide) hR)
  rw [pr2_mk x1_1 x3_1] at hR
  refine j_lload_n C dX6_product_20 21 rfl rfl 1 rfl ?_
  exact RtL.ret (hR) dX6_product_21

-- X6_partOf
def l_X6_partOf_6  : Nat → Int64 → Int64 → Int64 × Int64
  | 0, x5, x7 => (x5, x7)
  | N + 1, x5, x7 => if ((lg_cmp x7 0) = 0) then (x5, x7) else (l_X6_partOf_6 N x7 (x5 - x5 / x7 * x7))
def f_X6_partOf (x0 : Int64) (x2 : Int64) (x4 : Int32) : Int64 := pr2 (l_X6_partOf_6 9223372036854775809 x2 x0) (fun x5_1 x7_1 => if (x4 = 0) then (x0 / x5_1) else (x2 / x5_1))
theorem qd_X6_partOf : yX6_partOf.cls ≠ "java/lang/invoke/MethodHandle" ∧ yX6_partOf.cls ≠ "java/lang/invoke/VarHandle" ∧ (parseMethodDescriptor yX6_partOf.desc).map (fun d => d.parameters.length) = some 3 := by decide +kernel
abbrev rmX6_partOf : Room := { frames := 0, cells := 0, slots := 0, locals := 0 }
set_option maxHeartbeats 4000000 in
set_option maxRecDepth 100000 in
theorem L_X6_partOf_6 {τ : SX} {κ : KX} (C : Cx τ κ cX6_partOf RX6 wsX6_partOf rmX6_partOf 11) (x0 : Int64) (x2 : Int64) (x4 : Int32) (hx : 0 ≤ x0.toInt) (hy : 0 < x2.toInt) (Φ : Int64 × Int64 → Prop) (hE : ∀ (x5 : Int64) (x7 : Int64), (0 < x5.toInt) → Φ (x5, x7) → J τ κ 0 0 [] [(0, .long x0), (2, .long x2), (4, .int x4), (5, .long x5), (7, .long x7)] 31 []) : ∀ (N : Nat) (x5 : Int64) (x7 : Int64), x7.toInt.toNat < N → (0 < x5.toInt) → (0 ≤ x7.toInt) → Φ (l_X6_partOf_6 N x5 x7) → J τ κ 0 0 [] [(0, .long x0), (2, .long x2), (4, .int x4), (5, .long x5), (7, .long x7)] 6 [] := by
  intro N
  induction N with
  | zero => intro x5 x7 hm; exact absurd hm (Nat.not_lt_zero _)
  | succ N ih =>
    intro x5 x7 hm ha hb hR
    rw [l_X6_partOf_6] at hR
    refine j_lload C dX6_partOf_6 8 rfl 4 rfl ?_
    refine j_lconst (v := 0) C dX6_partOf_8 9 rfl (by decide) ?_
    refine j_lcmp C dX6_partOf_9 10 rfl ?_
    refine j_if_eq C dX6_partOf_10 31 rfl 13 rfl (fun c2 => ?_) (fun c2 => ?_)
    · rw [if_pos c2] at hR
      exact j_lv [0, 1, 2, 3, 4] [(0, .long x0), (2, .long x2), (4, .int x4), (5, .long x5), (7, .long x7)] rfl (hE _ _ ha hR)
    · rw [if_neg c2] at hR
      have hs := gcd_step ha hb c2 hm
      refine j_lload C dX6_partOf_13 15 rfl 3 rfl ?_
      refine j_lload C dX6_partOf_15 17 rfl 4 rfl ?_
      refine j_lrem C dX6_partOf_17 18 rfl (lc_ne c2) ?_
      refine j_lstore C dX6_partOf_18 20 rfl (by decide) [(9, .long (x5 - x5 / x7 * x7)), (0, .long x0), (2, .long x2), (4, .int x4), (5, .long x5), (7, .long x7)] rfl ?_
      refine j_lload C dX6_partOf_20 22 rfl 5 rfl ?_
      refine j_lstore C dX6_partOf_22 24 rfl (by decide) [(5, .long x7), (9, .long (x5 - x5 / x7 * x7)), (0, .long x0), (2, .long x2), (4, .int x4), (7, .long x7)] rfl ?_
      refine j_lload C dX6_partOf_24 26 rfl 1 rfl ?_
      refine j_lstore C dX6_partOf_26 28 rfl (by decide) [(7, .long (x5 - x5 / x7 * x7)), (5, .long x7), (9, .long (x5 - x5 / x7 * x7)), (0, .long x0), (2, .long x2), (4, .int x4)] rfl ?_
      refine j_goto C dX6_partOf_28 6 rfl ?_
      exact j_lv [3, 4, 5, 1, 0] [(0, .long x0), (2, .long x2), (4, .int x4), (5, .long x7), (7, .long (x5 - x5 / x7 * x7))] rfl (ih _ _ hs.2.2 hs.1 hs.2.1 hR)
set_option maxHeartbeats 4000000 in
set_option maxRecDepth 100000 in
theorem c_X6_partOf (τ : SX) (x0 : Int64) (x2 : Int64) (x4 : Int32) (hx : 0 ≤ x0.toInt) (hy : 0 < x2.toInt) (sz : Nat) : McL τ yX6_partOf wsX6_partOf rmX6_partOf [.long x0, .long x2, .int x4] [] (fun _ : Unit => []) (f_X6_partOf x0 x2 x4, ()) sz := by
  refine mc_L (cc := cX6_partOf) (own := RX6) [(0, .long x0), (2, .long x2), (4, .int x4)] rfl (by decide) rfl rfl (Nat.le_of_ble_eq_true rfl) (fun κ C hR => ?_)
  unfold f_X6_partOf at hR
  refine j_lload_n C dX6_partOf_0 1 rfl rfl 1 rfl ?_
  refine j_lstore C dX6_partOf_1 3 rfl (by decide) [(5, .long x2), (0, .long x0), (2, .long x2), (4, .int x4)] rfl ?_
  refine j_lload_n C dX6_partOf_3 4 rfl rfl 1 rfl ?_
  refine j_lstore C dX6_partOf_4 6 rfl (by decide) [(7, .long x0), (5, .long x2), (0, .long x0), (2, .long x2), (4, .int x4)] rfl ?_
  refine j_lv [2, 3, 4, 1, 0] [(0, .long x0), (2, .long x2), (4, .int x4), (5, .long x2), (7, .long x0)] rfl (L_X6_partOf_6 C   x0 x2 x4 hx hy (fun (o : Int64 × Int64) => RtL τ κ cX6_partOf (fun _ : Unit => []) ((pr2 o (fun x5_1 x7_1 => if (x4 = 0) then (x0 / x5_1) else (x2 / x5_1)), ()))) (fun x5_1 x7_1 ho hR => ?_) 9223372036854775809 x2 x0 (gcd_fuel _) hy hx hR)
  rw [pr2_mk x5_1 x7_1] at hR
  refine j_iload C dX6_partOf_31 33 rfl 2 rfl ?_
  refine j_if_ne C dX6_partOf_33 43 rfl 36 rfl (fun c3 => ?_) (fun c3 => ?_)
  · rw [if_neg c3] at hR
    refine j_lload_n C dX6_partOf_43 44 rfl rfl 1 rfl ?_
    refine j_lload C dX6_partOf_44 46 rfl 3 rfl ?_
    refine j_ldiv C dX6_partOf_46 47 rfl (i64_nz ho) ?_
    exact RtL.ret (hR) dX6_partOf_47
  · rw [if_pos c3] at hR
    refine j_lload_n C dX6_partOf_36 37 rfl rfl 0 rfl ?_
    refine j_lload C dX6_partOf_37 39 rfl 3 rfl ?_
    refine j_ldiv C dX6_partOf_39 40 rfl (i64_nz ho) ?_
    refine j_goto C dX6_partOf_40 47 rfl ?_
    exact RtL.ret (hR) dX6_partOf_47

def p100 (i : Int32) : Int64 := if i = 0 then 1 else if i = 1 then 100 else if i = 2 then 10000 else if i = 3 then 1000000 else if i = 4 then 100000000 else if i = 5 then 10000000000 else if i = 6 then 1000000000000 else if i = 7 then 100000000000000 else 10000000000000000
theorem p100_step {i : Int32} (h : vp_in i 8) : p100 i * 100 = p100 (i + 1) := by
  rcases eight_of h with rfl | rfl | rfl | rfl | rfl | rfl | rfl | rfl <;> decide
theorem p100_I {i : Int32} (h : vp_in i 8) : (p100 (i + 1)).toInt = (p100 i).toInt * 100 ∧ 0 < (p100 i).toInt ∧ (p100 i).toInt ≤ 100000000000000 := by
  rcases eight_of h with rfl | rfl | rfl | rfl | rfl | rfl | rfl | rfl <;> decide
theorem p100_pos {i : Int32} : 0 < (p100 i).toInt := by
  unfold p100
  repeat' split
  all_goals decide
theorem ab_step {a c : Int64} {i : Int32} (h : vp_in i 8) (h0 : 0 ≤ a.toInt ∧ a.toInt ≤ 70 * (p100 i).toInt) (hc : 0 ≤ c.toInt ∧ c.toInt ≤ 100) : (a * c).toInt = a.toInt * c.toInt ∧ 0 ≤ (a * c).toInt ∧ (a * c).toInt ≤ 70 * (p100 (i + 1)).toInt := by
  have hp := p100_I h
  have h1 : a.toInt * c.toInt ≤ (70 * (p100 i).toInt) * 100 := Int.mul_le_mul h0.2 hc.2 hc.1 (by omega)
  have h2 : 0 ≤ a.toInt * c.toInt := Int.mul_nonneg h0.1 hc.1
  have e := i64_mulE (a := a) (b := c) (by omega) (by omega)
  omega
theorem bin_tab : ∀ n k : Fin 9, k ≤ n → 0 < (f_X6_product (Int32.ofNat k.val)).toInt ∧ 0 < (f_X6_product (Int32.ofNat n.val - Int32.ofNat k.val)).toInt ∧ 0 ≤ (f_X6_product (Int32.ofNat n.val) / f_X6_product (Int32.ofNat k.val) / f_X6_product (Int32.ofNat n.val - Int32.ofNat k.val)).toInt ∧ (f_X6_product (Int32.ofNat n.val) / f_X6_product (Int32.ofNat k.val) / f_X6_product (Int32.ofNat n.val - Int32.ofNat k.val)).toInt ≤ 70 := by
  decide +kernel
theorem ofI {x : Int32} {B : Nat} (h0 : 0 ≤ x.toInt) (h : x.toInt < B) : ∃ n : Fin B, x = Int32.ofNat n.val ∧ (n.val : Int) = x.toInt := by
  have hl := Int32.toInt_lt x
  refine ⟨⟨x.toInt.toNat, by omega⟩, ?_, by show ((x.toInt.toNat : Nat) : Int) = _; omega⟩
  apply i32_eq.mpr
  show x.toInt = (Int32.ofNat x.toInt.toNat).toInt
  rw [Int32.toInt_ofNat_of_lt (by omega)]
  omega
theorem bin_of {x y : Int32} (c1 : ¬ f_X6_isIn x.toInt64 0 8 = 0) (c2 : ¬ f_X6_isIn y.toInt64 0 x.toInt64 = 0) : (0 ≤ x.toInt ∧ x.toInt ≤ 8 ∧ 0 ≤ y.toInt ∧ y.toInt ≤ x.toInt ∧ (x - y).toInt = x.toInt - y.toInt) ∧ 0 < (f_X6_product y).toInt ∧ 0 < (f_X6_product (x - y)).toInt ∧ 0 ≤ (f_X6_product x / f_X6_product y / f_X6_product (x - y)).toInt ∧ (f_X6_product x / f_X6_product y / f_X6_product (x - y)).toInt ≤ 70 := by
  have a1 := in6 c1
  have a2 := in6 c2
  rw [show (0 : Int64).toInt = 0 from rfl, show (8 : Int64).toInt = 8 from rfl] at a1
  rw [Int32.toInt_toInt64, show (0 : Int64).toInt = 0 from rfl] at a2
  refine ⟨⟨a1.1, a1.2, a2.1, a2.2, i32_subE (by omega) (by omega)⟩, ?_⟩
  obtain ⟨n, hn, en⟩ := ofI (B := 9) a1.1 (by omega)
  obtain ⟨k, hk, ek⟩ := ofI (B := 9) a2.1 (by omega)
  have t := bin_tab n k (Fin.le_def.mpr (by omega))
  rw [← hn, ← hk] at t
  exact t
theorem odd_c {s : Nat → Int32} (h : 0 ≤ (s 9).toInt ∧ (s 9).toInt ≤ 99) : 0 ≤ (s 9).toInt64.toInt ∧ (s 9).toInt64.toInt ≤ 100 := by
  rw [Int32.toInt_toInt64]; omega
theorem odd_d {s : Nat → Int32} (h : 0 ≤ (s 9).toInt ∧ (s 9).toInt ≤ 99) : 0 ≤ ((100 : Int32) - (s 9)).toInt64.toInt ∧ ((100 : Int32) - (s 9)).toInt64.toInt ≤ 100 := by
  have e := i32_subE (a := 100) (b := s 9) (by rw [show (100 : Int32).toInt = 100 from rfl]; omega) (by rw [show (100 : Int32).toInt = 100 from rfl]; omega)
  rw [Int32.toInt_toInt64, e, show (100 : Int32).toInt = 100 from rfl]; omega
theorem hope_c {x : Int32} {s : Nat → Int32} (c : ¬ f_X6_isIn x.toInt64 0 99 = 0) (h : 0 ≤ (s 9).toInt ∧ (s 9).toInt ≤ 99) : 0 ≤ (x.toInt64 * (s 9).toInt64).toInt := by
  have a := in6 c
  rw [show (0 : Int64).toInt = 0 from rfl, show (99 : Int64).toInt = 99 from rfl] at a
  have h1 : x.toInt * (s 9).toInt ≤ 99 * 99 := Int.mul_le_mul a.2 h.2 h.1 (by omega)
  have h2 : 0 ≤ x.toInt * (s 9).toInt := Int.mul_nonneg a.1 h.1
  rw [i64_mulE (by rw [Int32.toInt_toInt64, Int32.toInt_toInt64]; omega) (by rw [Int32.toInt_toInt64, Int32.toInt_toInt64]; omega), Int32.toInt_toInt64, Int32.toInt_toInt64]
  exact h2

-- X6_odds
def l_X6_odds_61 (ss : Nat → Int32) (x1 : Int32) (x2 : Int32) : Nat → Int64 → Int64 → Int32 → Int64 × Int64 × Int32
  | 0, x4, x6, x8 => (x4, x6, x8)
  | N + 1, x4, x6, x8 => if (x1 ≤ x8) then (x4, x6, x8) else (pr1 (if (x2 ≤ x8) then ((((100 : Int32) - (ss 9)) : Int32).toInt64) else (((ss 9) : Int32).toInt64)) (fun j72_0 => l_X6_odds_61 ss x1 x2 N (x4 * j72_0) (x6 * 100) (x8 + 1)))
def f_X6_odds (ss : Nat → Int32) (x1 : Int32) (x2 : Int32) (x3 : Int32) : Int64 := if ((f_X6_isIn ((x1 : Int32).toInt64) (0 : Int64) (8 : Int64)) = 0) then ((-1) : Int64) else (if ((f_X6_isIn ((x2 : Int32).toInt64) (0 : Int64) ((x1 : Int32).toInt64)) = 0) then ((-1) : Int64) else (if ((f_X6_isIn ((x3 : Int32).toInt64) (0 : Int64) (1 : Int64)) = 0) then ((-1) : Int64) else (pr3 (l_X6_odds_61 ss x1 x2 300 (((f_X6_product x1) / (f_X6_product x2)) / (f_X6_product (x1 - x2))) (1 : Int64) (0 : Int32)) (fun x4_10 x6_10 x8_10 => (f_X6_partOf x4_10 x6_10 x3)))))
theorem kX6_odds_c55 : Cond.constantLong RX6 55 8 ∈ wsX6_odds := by decide +kernel
theorem kX6_odds_iRX6 : Cond.initialized yX6_partOf.cls ∈ wsX6_odds := by decide +kernel
theorem kX6_odds_sX6_isIn : Cond.static yX6_isIn ∈ wsX6_odds := by decide +kernel
theorem kX6_odds_m57 : Cond.methodLink RX6 57 yX6_isIn ∈ wsX6_odds := by decide +kernel
theorem kX6_odds_c244 : Cond.constantLong RX6 244 (-1) ∈ wsX6_odds := by decide +kernel
theorem kX6_odds_sX6_product : Cond.static yX6_product ∈ wsX6_odds := by decide +kernel
theorem kX6_odds_m246 : Cond.methodLink RX6 246 yX6_product ∈ wsX6_odds := by decide +kernel
theorem kX6_odds_f7 : Cond.fieldLink RX6 7 "TwoMinutesModel" "s" "[I" ∈ wsX6_odds := by decide +kernel
theorem kX6_odds_c250 : Cond.constantLong RX6 250 100 ∈ wsX6_odds := by decide +kernel
theorem kX6_odds_sX6_partOf : Cond.static yX6_partOf ∈ wsX6_odds := by decide +kernel
theorem kX6_odds_m252 : Cond.methodLink RX6 252 yX6_partOf ∈ wsX6_odds := by decide +kernel
theorem qd_X6_odds : yX6_odds.cls = RX6 ∧ yX6_odds.cls ≠ "java/lang/invoke/MethodHandle" ∧ yX6_odds.cls ≠ "java/lang/invoke/VarHandle" ∧ (parseMethodDescriptor yX6_odds.desc).map (fun d => d.parameters.length) = some 3 := by decide +kernel
abbrev rmX6_odds : Room := { frames := 1, cells := 0, slots := 0, locals := 30 }
set_option maxHeartbeats 4000000 in
set_option maxRecDepth 100000 in
theorem L_X6_odds_61 {τ : SX} {κ : KX} (C : Cx τ κ cX6_odds RX6 wsX6_odds rmX6_odds 9) (a : Nat → Nat) (ss : Nat → Int32) (mhd : Nat → Int32) (mas : Nat → Int32) (mbf : Nat → Int32) (mih : Int32) (mtp : Nat → Int32) (mtn : Int32) (mtk : Int32) (mfr : Int32) (mtt : Int32) (mvl : Int32) (miw : Int32) (mld : Nat → Int32) (mrw : Nat → Int32) (mrn : Int32) (mso : Nat → Int32) (msz : Nat → Int32) (mnu : Nat → Int32) (mhw : Nat → Int32) (mhh : Nat → Int32) (mhm : Nat → Int32) (mbo : Nat → Int32) (mrr : Int32) (mak : Int32) (man : Int32) (maa : Int32) (mip : Int32) (x1 : Int32) (x2 : Int32) (x3 : Int32) (hcg : 0 ≤ (ss 9).toInt ∧ (ss 9).toInt ≤ 99) (hx : x1.toInt ≤ 8) (Φ : Int64 × Int64 × Int32 → Prop) (hE : ∀ (x4 : Int64) (x6 : Int64) (x8 : Int32), (0 ≤ x4.toInt) → (0 < x6.toInt) → Φ (x4, x6, x8) → J τ κ 0 0 (wM τ a ss mhd mas mbf mih mtp mtn mtk mfr mtt mvl miw mld mrw mrn mso msz mnu mhw mhh mhm mbo mrr mak man maa mip) [(0, .ref (a 0)), (1, .int x1), (2, .int x2), (3, .int x3), (4, .long x4), (6, .long x6), (8, .int x8)] 114 []) : ∀ (N : Nat) (x4 : Int64) (x6 : Int64) (x8 : Int32), ((8 : Int) - x8.toInt).toNat < N → (0 ≤ x8.toInt) → (x8.toInt ≤ 8) → (0 ≤ x4.toInt ∧ x4.toInt ≤ 70 * (p100 x8).toInt) → (x6 = p100 x8) → Φ (l_X6_odds_61 ss x1 x2 N x4 x6 x8) → J τ κ 0 0 (wM τ a ss mhd mas mbf mih mtp mtn mtk mfr mtt mvl miw mld mrw mrn mso msz mnu mhw mhh mhm mbo mrr mak man maa mip) [(0, .ref (a 0)), (1, .int x1), (2, .int x2), (3, .int x3), (4, .long x4), (6, .long x6), (8, .int x8)] 61 [] := by
  have hiX6 : ∀ w ∈ wsX60, w ∈ wsX6_odds := fun w h => List.mem_cons_of_mem _ (List.mem_append_right _ h)
  intro N
  induction N with
  | zero => intro x4 x6 x8 hm; exact absurd hm (Nat.not_lt_zero _)
  | succ N ih =>
    intro x4 x6 x8 hm h0 h1 ha hb hR
    rw [l_X6_odds_61] at hR
    refine j_iload C dX6_odds_61 63 rfl 6 rfl ?_
    refine j_iload_n C dX6_odds_63 64 rfl rfl 1 rfl ?_
    refine j_icmp_ge C dX6_odds_64 114 rfl 67 rfl (fun c11 => ?_) (fun c11 => ?_)
    · rw [if_pos c11] at hR
      exact j_lv [0, 1, 2, 3, 4, 5, 6] [(0, .ref (a 0)), (1, .int x1), (2, .int x2), (3, .int x3), (4, .long x4), (6, .long x6), (8, .int x8)] rfl (hE _ _ _ ha.1 (by rw [hb]; exact p100_pos) hR)
    · rw [if_neg c11] at hR
      have hs := cnt_step (B := 8) h0 (hx) (by decide) c11
      refine j_lload C dX6_odds_67 69 rfl 4 rfl ?_
      refine j_iload C dX6_odds_69 71 rfl 6 rfl ?_
      refine j_iload_n C dX6_odds_71 72 rfl rfl 2 rfl ?_
      have J72 : ∀ (j72_0 : Int64), (0 ≤ j72_0.toInt ∧ j72_0.toInt ≤ 100) → Φ (l_X6_odds_61 ss x1 x2 N (x4 * j72_0) (x6 * 100) (x8 + 1)) → J τ κ 0 0 (wM τ a ss mhd mas mbf mih mtp mtn mtk mfr mtt mvl miw mld mrw mrn mso msz mnu mhw mhh mhm mbo mrr mak man maa mip) [(0, .ref (a 0)), (1, .int x1), (2, .int x2), (3, .int x3), (4, .long x4), (6, .long x6), (8, .int x8)] 97 [.long j72_0, .long x4] := by
        intro j72_0 hc hR
        refine j_lmul C dX6_odds_97 98 rfl ?_
        refine j_lstore C dX6_odds_98 100 rfl (by decide) [(4, .long (x4 * j72_0)), (0, .ref (a 0)), (1, .int x1), (2, .int x2), (3, .int x3), (6, .long x6), (8, .int x8)] rfl ?_
        refine j_lload C dX6_odds_100 102 rfl 5 rfl ?_
        refine j_ldc2 C dX6_odds_102 105 rfl kX6_odds_c250 ?_
        refine j_lmul C dX6_odds_105 106 rfl ?_
        refine j_lstore C dX6_odds_106 108 rfl (by decide) [(6, .long (x6 * 100)), (4, .long (x4 * j72_0)), (0, .ref (a 0)), (1, .int x1), (2, .int x2), (3, .int x3), (8, .int x8)] rfl ?_
        refine j_iinc (v := (x8 + 1)) C dX6_odds_108 111 rfl 6 rfl rfl (by decide) [(8, .int (x8 + 1)), (6, .long (x6 * 100)), (4, .long (x4 * j72_0)), (0, .ref (a 0)), (1, .int x1), (2, .int x2), (3, .int x3)] rfl ?_
        refine j_goto C dX6_odds_111 61 rfl ?_
        exact j_lv [3, 4, 5, 6, 2, 1, 0] [(0, .ref (a 0)), (1, .int x1), (2, .int x2), (3, .int x3), (4, .long (x4 * j72_0)), (6, .long (x6 * 100)), (8, .int (x8 + 1))] rfl (ih _ _ _ (by have := hs.2.2.1; omega) hs.1 hs.2.1 (ab_step (vpI h0 hs.2.2.2) ha hc).2 (by rw [hb]; exact p100_step (vpI h0 hs.2.2.2)) hR)
      refine j_icmp_ge C dX6_odds_72 86 rfl 75 rfl (fun c12 => ?_) (fun c12 => ?_)
      · rw [if_pos c12] at hR
        refine j_bipush (v := 100) C dX6_odds_86 88 rfl (by decide) ?_
        refine j_aload_n C dX6_odds_88 89 rfl rfl 0 rfl ?_
        refine j_get C dX6_odds_89 92 rfl hiX6 0 rfl rfl 0 (by decide) rfl kX6_odds_f7 rfl ?_
        refine j_bipush (v := 9) C dX6_odds_92 94 rfl (by decide) ?_
        refine j_iald C dX6_odds_94 95 rfl 1 rfl (by unfold vp_in; decide) 9 rfl ?_
        refine j_isub C dX6_odds_95 96 rfl ?_
        refine j_i2l C dX6_odds_96 97 rfl ?_
        rw [pr1_mk ((((100 : Int32) - (ss 9)) : Int32).toInt64)] at hR
        exact j_lv [0, 1, 2, 3, 4, 5, 6] [(0, .ref (a 0)), (1, .int x1), (2, .int x2), (3, .int x3), (4, .long x4), (6, .long x6), (8, .int x8)] rfl (J72 _ (by with_reducible first | exact odd_c hcg | exact odd_d hcg) hR)
      · rw [if_neg c12] at hR
        refine j_aload_n C dX6_odds_75 76 rfl rfl 0 rfl ?_
        refine j_get C dX6_odds_76 79 rfl hiX6 0 rfl rfl 0 (by decide) rfl kX6_odds_f7 rfl ?_
        refine j_bipush (v := 9) C dX6_odds_79 81 rfl (by decide) ?_
        refine j_iald C dX6_odds_81 82 rfl 1 rfl (by unfold vp_in; decide) 9 rfl ?_
        refine j_i2l C dX6_odds_82 83 rfl ?_
        refine j_goto C dX6_odds_83 97 rfl ?_
        rw [pr1_mk (((ss 9) : Int32).toInt64)] at hR
        exact j_lv [0, 1, 2, 3, 4, 5, 6] [(0, .ref (a 0)), (1, .int x1), (2, .int x2), (3, .int x3), (4, .long x4), (6, .long x6), (8, .int x8)] rfl (J72 _ (by with_reducible first | exact odd_c hcg | exact odd_d hcg) hR)
set_option maxHeartbeats 4000000 in
set_option maxRecDepth 100000 in
theorem c_X6_odds (τ : SX) (a : Nat → Nat) (ss : Nat → Int32) (mhd : Nat → Int32) (mas : Nat → Int32) (mbf : Nat → Int32) (mih : Int32) (mtp : Nat → Int32) (mtn : Int32) (mtk : Int32) (mfr : Int32) (mtt : Int32) (mvl : Int32) (miw : Int32) (mld : Nat → Int32) (mrw : Nat → Int32) (mrn : Int32) (mso : Nat → Int32) (msz : Nat → Int32) (mnu : Nat → Int32) (mhw : Nat → Int32) (mhh : Nat → Int32) (mhm : Nat → Int32) (mbo : Nat → Int32) (mrr : Int32) (mak : Int32) (man : Int32) (maa : Int32) (mip : Int32) (x1 : Int32) (x2 : Int32) (x3 : Int32) (hcg : 0 ≤ (ss 9).toInt ∧ (ss 9).toInt ≤ 99) (sz : Nat) : McL τ yX6_odds wsX6_odds rmX6_odds [.ref (a 0), .int x1, .int x2, .int x3] (wM τ a ss mhd mas mbf mih mtp mtn mtk mfr mtt mvl miw mld mrw mrn mso msz mnu mhw mhh mhm mbo mrr mak man maa mip) (fun _ : Unit => (wM τ a ss mhd mas mbf mih mtp mtn mtk mfr mtt mvl miw mld mrw mrn mso msz mnu mhw mhh mhm mbo mrr mak man maa mip)) (f_X6_odds ss x1 x2 x3, ()) sz := by
  refine mc_L (cc := cX6_odds) (own := RX6) [(0, .ref (a 0)), (1, .int x1), (2, .int x2), (3, .int x3)] rfl (by decide) rfl rfl (Nat.le_of_ble_eq_true rfl) (fun κ C hR => ?_)
  have hiX6 : ∀ w ∈ wsX60, w ∈ wsX6_odds := fun w h => List.mem_cons_of_mem _ (List.mem_append_right _ h)
  unfold f_X6_odds at hR
  refine j_iload_n C dX6_odds_0 1 rfl rfl 1 rfl ?_
  refine j_i2l C dX6_odds_1 2 rfl ?_
  refine j_lconst (v := 0) C dX6_odds_2 3 rfl (by decide) ?_
  refine j_ldc2 C dX6_odds_3 6 rfl kX6_odds_c55 ?_
  refine j_cs0I (na := 3) C dX6_odds_6 9 rfl (c_X6_isIn τ  ((x1 : Int32).toInt64) (0 : Int64) (8 : Int64) ) rfl ggX6_odds_X6_isIn rfl rfl rfl kX6_odds_iRX6 kX6_odds_m57 kX6_odds_sX6_isIn qd_X6_isIn rfl ⟨by decide, by decide⟩ ⟨by decide, by decide⟩ rfl (Nat.le_of_ble_eq_true rfl) (fun r1 u1 hX1 hn1 => ?_)
  obtain rfl := (Prod.mk.inj hX1).1
  refine j_if_eq C dX6_odds_9 33 rfl 12 rfl (fun c2 => ?_) (fun c2 => ?_)
  · rw [if_pos c2] at hR
    refine j_ldc2 C dX6_odds_33 36 rfl kX6_odds_c244 ?_
    exact RtL.ret (hR) dX6_odds_36
  · rw [if_neg c2] at hR
    refine j_iload_n C dX6_odds_12 13 rfl rfl 2 rfl ?_
    refine j_i2l C dX6_odds_13 14 rfl ?_
    refine j_lconst (v := 0) C dX6_odds_14 15 rfl (by decide) ?_
    refine j_iload_n C dX6_odds_15 16 rfl rfl 1 rfl ?_
    refine j_i2l C dX6_odds_16 17 rfl ?_
    refine j_cs0I (na := 3) C dX6_odds_17 20 rfl (c_X6_isIn τ  ((x2 : Int32).toInt64) (0 : Int64) ((x1 : Int32).toInt64) ) rfl ggX6_odds_X6_isIn rfl rfl rfl kX6_odds_iRX6 kX6_odds_m57 kX6_odds_sX6_isIn qd_X6_isIn rfl ⟨by decide, by decide⟩ ⟨by decide, by decide⟩ rfl (Nat.le_of_ble_eq_true rfl) (fun r3 u3 hX3 hn3 => ?_)
    obtain rfl := (Prod.mk.inj hX3).1
    refine j_if_eq C dX6_odds_20 33 rfl 23 rfl (fun c4 => ?_) (fun c4 => ?_)
    · rw [if_pos c4] at hR
      refine j_ldc2 C dX6_odds_33 36 rfl kX6_odds_c244 ?_
      exact RtL.ret (hR) dX6_odds_36
    · rw [if_neg c4] at hR
      refine j_iload_n C dX6_odds_23 24 rfl rfl 3 rfl ?_
      refine j_i2l C dX6_odds_24 25 rfl ?_
      refine j_lconst (v := 0) C dX6_odds_25 26 rfl (by decide) ?_
      refine j_lconst (v := 1) C dX6_odds_26 27 rfl (by decide) ?_
      refine j_cs0I (na := 3) C dX6_odds_27 30 rfl (c_X6_isIn τ  ((x3 : Int32).toInt64) (0 : Int64) (1 : Int64) ) rfl ggX6_odds_X6_isIn rfl rfl rfl kX6_odds_iRX6 kX6_odds_m57 kX6_odds_sX6_isIn qd_X6_isIn rfl ⟨by decide, by decide⟩ ⟨by decide, by decide⟩ rfl (Nat.le_of_ble_eq_true rfl) (fun r5 u5 hX5 hn5 => ?_)
      obtain rfl := (Prod.mk.inj hX5).1
      refine j_if_ne C dX6_odds_30 37 rfl 33 rfl (fun c6 => ?_) (fun c6 => ?_)
      · rw [if_neg c6] at hR
        refine j_iload_n C dX6_odds_37 38 rfl rfl 1 rfl ?_
        refine j_cs0L (na := 1) C dX6_odds_38 41 rfl (c_X6_product τ  x1 (bin_of (x := x1) (y := x2) c2 c4).1.2.1) rfl ggX6_odds_X6_product rfl rfl rfl kX6_odds_iRX6 kX6_odds_m246 kX6_odds_sX6_product qd_X6_product rfl ⟨by decide, by decide⟩ ⟨by decide, by decide⟩ rfl (Nat.le_of_ble_eq_true rfl) (fun r7 u7 hX7 => ?_)
        obtain rfl := (Prod.mk.inj hX7).1
        refine j_iload_n C dX6_odds_41 42 rfl rfl 2 rfl ?_
        refine j_cs0L (na := 1) C dX6_odds_42 45 rfl (c_X6_product τ  x2 (by have h := (bin_of (x := x1) (y := x2) c2 c4).1; omega)) rfl ggX6_odds_X6_product rfl rfl rfl kX6_odds_iRX6 kX6_odds_m246 kX6_odds_sX6_product qd_X6_product rfl ⟨by decide, by decide⟩ ⟨by decide, by decide⟩ rfl (Nat.le_of_ble_eq_true rfl) (fun r8 u8 hX8 => ?_)
        obtain rfl := (Prod.mk.inj hX8).1
        refine j_ldiv C dX6_odds_45 46 rfl (i64_nz (bin_of (x := x1) (y := x2) c2 c4).2.1) ?_
        refine j_iload_n C dX6_odds_46 47 rfl rfl 1 rfl ?_
        refine j_iload_n C dX6_odds_47 48 rfl rfl 2 rfl ?_
        refine j_isub C dX6_odds_48 49 rfl ?_
        refine j_cs0L (na := 1) C dX6_odds_49 52 rfl (c_X6_product τ  (x1 - x2) (by have h := (bin_of (x := x1) (y := x2) c2 c4).1; omega)) rfl ggX6_odds_X6_product rfl rfl rfl kX6_odds_iRX6 kX6_odds_m246 kX6_odds_sX6_product qd_X6_product rfl ⟨by decide, by decide⟩ ⟨by decide, by decide⟩ rfl (Nat.le_of_ble_eq_true rfl) (fun r9 u9 hX9 => ?_)
        obtain rfl := (Prod.mk.inj hX9).1
        refine j_ldiv C dX6_odds_52 53 rfl (i64_nz (bin_of (x := x1) (y := x2) c2 c4).2.2.1) ?_
        refine j_lstore C dX6_odds_53 55 rfl (by decide) [(4, .long (((f_X6_product x1) / (f_X6_product x2)) / (f_X6_product (x1 - x2)))), (0, .ref (a 0)), (1, .int x1), (2, .int x2), (3, .int x3)] rfl ?_
        refine j_lconst (v := 1) C dX6_odds_55 56 rfl (by decide) ?_
        refine j_lstore C dX6_odds_56 58 rfl (by decide) [(6, .long 1), (4, .long (((f_X6_product x1) / (f_X6_product x2)) / (f_X6_product (x1 - x2)))), (0, .ref (a 0)), (1, .int x1), (2, .int x2), (3, .int x3)] rfl ?_
        refine j_iconst (v := 0) C dX6_odds_58 59 rfl (by decide) ?_
        refine j_istore C dX6_odds_59 61 rfl (by decide) [(8, .int 0), (6, .long 1), (4, .long (((f_X6_product x1) / (f_X6_product x2)) / (f_X6_product (x1 - x2)))), (0, .ref (a 0)), (1, .int x1), (2, .int x2), (3, .int x3)] rfl ?_
        refine j_lv [3, 4, 5, 6, 2, 1, 0] [(0, .ref (a 0)), (1, .int x1), (2, .int x2), (3, .int x3), (4, .long (((f_X6_product x1) / (f_X6_product x2)) / (f_X6_product (x1 - x2)))), (6, .long 1), (8, .int 0)] rfl (L_X6_odds_61 C a ss mhd mas mbf mih mtp mtn mtk mfr mtt mvl miw mld mrw mrn mso msz mnu mhw mhh mhm mbo mrr mak man maa mip x1 x2 x3 hcg ((bin_of (x := x1) (y := x2) c2 c4).1.2.1) (fun (o : Int64 × Int64 × Int32) => RtL τ κ cX6_odds (fun _ : Unit => (wM τ a ss mhd mas mbf mih mtp mtn mtk mfr mtt mvl miw mld mrw mrn mso msz mnu mhw mhh mhm mbo mrr mak man maa mip)) ((pr3 o (fun x4_10 x6_10 x8_10 => (f_X6_partOf x4_10 x6_10 x3)), ()))) (fun x4_10 x6_10 x8_10 ho hp hR => ?_) 300 (((f_X6_product x1) / (f_X6_product x2)) / (f_X6_product (x1 - x2))) (1 : Int64) (0 : Int32) (by decide) (by decide) (by decide) (bin_of (x := x1) (y := x2) c2 c4).2.2.2 (by decide) hR)
        rw [pr3_mk x4_10 x6_10 x8_10] at hR
        refine j_lload C dX6_odds_114 116 rfl 4 rfl ?_
        refine j_lload C dX6_odds_116 118 rfl 5 rfl ?_
        refine j_iload_n C dX6_odds_118 119 rfl rfl 3 rfl ?_
        refine j_cs0L (na := 3) C dX6_odds_119 122 rfl (c_X6_partOf τ  x4_10 x6_10 x3 ho hp) rfl ggX6_odds_X6_partOf rfl rfl rfl kX6_odds_iRX6 kX6_odds_m252 kX6_odds_sX6_partOf qd_X6_partOf rfl ⟨by decide, by decide⟩ ⟨by decide, by decide⟩ rfl (Nat.le_of_ble_eq_true rfl) (fun r13 u13 hX13 => ?_)
        obtain rfl := (Prod.mk.inj hX13).1
        exact RtL.ret (hR) dX6_odds_122
      · rw [if_pos c6] at hR
        refine j_ldc2 C dX6_odds_33 36 rfl kX6_odds_c244 ?_
        exact RtL.ret (hR) dX6_odds_36

-- X6_hope
def f_X6_hope (ss : Nat → Int32) (x1 : Int32) (x2 : Int32) : Int64 := if ((f_X6_isIn ((x1 : Int32).toInt64) (0 : Int64) (99 : Int64)) = 0) then ((-1) : Int64) else (if ((f_X6_isIn ((x2 : Int32).toInt64) (0 : Int64) (1 : Int64)) = 0) then ((-1) : Int64) else (f_X6_partOf (((x1 : Int32).toInt64) * (((ss 9) : Int32).toInt64)) (100 : Int64) x2))
theorem kX6_hope_c152 : Cond.constantLong RX6 152 99 ∈ wsX6_hope := by decide +kernel
theorem kX6_hope_iRX6 : Cond.initialized yX6_partOf.cls ∈ wsX6_hope := by decide +kernel
theorem kX6_hope_sX6_isIn : Cond.static yX6_isIn ∈ wsX6_hope := by decide +kernel
theorem kX6_hope_m57 : Cond.methodLink RX6 57 yX6_isIn ∈ wsX6_hope := by decide +kernel
theorem kX6_hope_c244 : Cond.constantLong RX6 244 (-1) ∈ wsX6_hope := by decide +kernel
theorem kX6_hope_f7 : Cond.fieldLink RX6 7 "TwoMinutesModel" "s" "[I" ∈ wsX6_hope := by decide +kernel
theorem kX6_hope_c250 : Cond.constantLong RX6 250 100 ∈ wsX6_hope := by decide +kernel
theorem kX6_hope_sX6_partOf : Cond.static yX6_partOf ∈ wsX6_hope := by decide +kernel
theorem kX6_hope_m252 : Cond.methodLink RX6 252 yX6_partOf ∈ wsX6_hope := by decide +kernel
theorem qd_X6_hope : yX6_hope.cls = RX6 ∧ yX6_hope.cls ≠ "java/lang/invoke/MethodHandle" ∧ yX6_hope.cls ≠ "java/lang/invoke/VarHandle" ∧ (parseMethodDescriptor yX6_hope.desc).map (fun d => d.parameters.length) = some 2 := by decide +kernel
abbrev rmX6_hope : Room := { frames := 1, cells := 0, slots := 0, locals := 30 }
set_option maxHeartbeats 4000000 in
set_option maxRecDepth 100000 in
theorem c_X6_hope (τ : SX) (a : Nat → Nat) (ss : Nat → Int32) (mhd : Nat → Int32) (mas : Nat → Int32) (mbf : Nat → Int32) (mih : Int32) (mtp : Nat → Int32) (mtn : Int32) (mtk : Int32) (mfr : Int32) (mtt : Int32) (mvl : Int32) (miw : Int32) (mld : Nat → Int32) (mrw : Nat → Int32) (mrn : Int32) (mso : Nat → Int32) (msz : Nat → Int32) (mnu : Nat → Int32) (mhw : Nat → Int32) (mhh : Nat → Int32) (mhm : Nat → Int32) (mbo : Nat → Int32) (mrr : Int32) (mak : Int32) (man : Int32) (maa : Int32) (mip : Int32) (x1 : Int32) (x2 : Int32) (hcg : 0 ≤ (ss 9).toInt ∧ (ss 9).toInt ≤ 99) (sz : Nat) : McL τ yX6_hope wsX6_hope rmX6_hope [.ref (a 0), .int x1, .int x2] (wM τ a ss mhd mas mbf mih mtp mtn mtk mfr mtt mvl miw mld mrw mrn mso msz mnu mhw mhh mhm mbo mrr mak man maa mip) (fun _ : Unit => (wM τ a ss mhd mas mbf mih mtp mtn mtk mfr mtt mvl miw mld mrw mrn mso msz mnu mhw mhh mhm mbo mrr mak man maa mip)) (f_X6_hope ss x1 x2, ()) sz := by
  refine mc_L (cc := cX6_hope) (own := RX6) [(0, .ref (a 0)), (1, .int x1), (2, .int x2)] rfl (by decide) rfl rfl (Nat.le_of_ble_eq_true rfl) (fun κ C hR => ?_)
  have hiX6 : ∀ w ∈ wsX60, w ∈ wsX6_hope := fun w h => List.mem_cons_of_mem _ (List.mem_append_right _ h)
  unfold f_X6_hope at hR
  refine j_iload_n C dX6_hope_0 1 rfl rfl 1 rfl ?_
  refine j_i2l C dX6_hope_1 2 rfl ?_
  refine j_lconst (v := 0) C dX6_hope_2 3 rfl (by decide) ?_
  refine j_ldc2 C dX6_hope_3 6 rfl kX6_hope_c152 ?_
  refine j_cs0I (na := 3) C dX6_hope_6 9 rfl (c_X6_isIn τ  ((x1 : Int32).toInt64) (0 : Int64) (99 : Int64) ) rfl ggX6_hope_X6_isIn rfl rfl rfl kX6_hope_iRX6 kX6_hope_m57 kX6_hope_sX6_isIn qd_X6_isIn rfl ⟨by decide, by decide⟩ ⟨by decide, by decide⟩ rfl (Nat.le_of_ble_eq_true rfl) (fun r1 u1 hX1 hn1 => ?_)
  obtain rfl := (Prod.mk.inj hX1).1
  refine j_if_eq C dX6_hope_9 43 rfl 12 rfl (fun c2 => ?_) (fun c2 => ?_)
  · rw [if_pos c2] at hR
    refine j_ldc2 C dX6_hope_43 46 rfl kX6_hope_c244 ?_
    exact RtL.ret (hR) dX6_hope_46
  · rw [if_neg c2] at hR
    refine j_iload_n C dX6_hope_12 13 rfl rfl 2 rfl ?_
    refine j_i2l C dX6_hope_13 14 rfl ?_
    refine j_lconst (v := 0) C dX6_hope_14 15 rfl (by decide) ?_
    refine j_lconst (v := 1) C dX6_hope_15 16 rfl (by decide) ?_
    refine j_cs0I (na := 3) C dX6_hope_16 19 rfl (c_X6_isIn τ  ((x2 : Int32).toInt64) (0 : Int64) (1 : Int64) ) rfl ggX6_hope_X6_isIn rfl rfl rfl kX6_hope_iRX6 kX6_hope_m57 kX6_hope_sX6_isIn qd_X6_isIn rfl ⟨by decide, by decide⟩ ⟨by decide, by decide⟩ rfl (Nat.le_of_ble_eq_true rfl) (fun r3 u3 hX3 hn3 => ?_)
    obtain rfl := (Prod.mk.inj hX3).1
    refine j_if_eq C dX6_hope_19 43 rfl 22 rfl (fun c4 => ?_) (fun c4 => ?_)
    · rw [if_pos c4] at hR
      refine j_ldc2 C dX6_hope_43 46 rfl kX6_hope_c244 ?_
      exact RtL.ret (hR) dX6_hope_46
    · rw [if_neg c4] at hR
      refine j_iload_n C dX6_hope_22 23 rfl rfl 1 rfl ?_
      refine j_i2l C dX6_hope_23 24 rfl ?_
      refine j_aload_n C dX6_hope_24 25 rfl rfl 0 rfl ?_
      refine j_get C dX6_hope_25 28 rfl hiX6 0 rfl rfl 0 (by decide) rfl kX6_hope_f7 rfl ?_
      refine j_bipush (v := 9) C dX6_hope_28 30 rfl (by decide) ?_
      refine j_iald C dX6_hope_30 31 rfl 1 rfl (by unfold vp_in; decide) 9 rfl ?_
      refine j_i2l C dX6_hope_31 32 rfl ?_
      refine j_lmul C dX6_hope_32 33 rfl ?_
      refine j_ldc2 C dX6_hope_33 36 rfl kX6_hope_c250 ?_
      refine j_iload_n C dX6_hope_36 37 rfl rfl 2 rfl ?_
      refine j_cs0L (na := 3) C dX6_hope_37 40 rfl (c_X6_partOf τ  (((x1 : Int32).toInt64) * (((ss 9) : Int32).toInt64)) (100 : Int64) x2 (hope_c c2 hcg) (by decide)) rfl ggX6_hope_X6_partOf rfl rfl rfl kX6_hope_iRX6 kX6_hope_m252 kX6_hope_sX6_partOf qd_X6_partOf rfl ⟨by decide, by decide⟩ ⟨by decide, by decide⟩ rfl (Nat.le_of_ble_eq_true rfl) (fun r5 u5 hX5 => ?_)
      obtain rfl := (Prod.mk.inj hX5).1
      refine j_goto C dX6_hope_40 46 rfl ?_
      exact RtL.ret (hR) dX6_hope_46

-- X6_isTold
def l_X6_isTold_15 (msz : Nat → Int32) (mnu : Nat → Int32) (x1 : Int32) : Nat → Int32 → Int32 → (Nat → Int32) → Int32 × Int32 × (Nat → Int32)
  | 0, x2, x3, ss => (x2, x3, ss)
  | N + 1, x2, x3, ss => if ((msz (x1).toNatClampNeg) ≤ x3) then (x2, x3, ss) else (if (x2 = 0) then (x2, x3, ss) else (pr1 (f_X6_goes ss (1 : Int32) (0 : Int32)) (fun ss_5 => pr1 (if ((mnu ((((40 : Int32) * x1) + x3)).toNatClampNeg) = (-1)) then (1 : Int32) else (if ((mnu ((((40 : Int32) * x1) + x3)).toNatClampNeg) = (ss_5 3)) then (1 : Int32) else (0 : Int32))) (fun j47_0 => l_X6_isTold_15 msz mnu x1 N j47_0 (x3 + 1) ss_5))))
def f_X6_isTold (ss : Nat → Int32) (mas : Nat → Int32) (msz : Nat → Int32) (mnu : Nat → Int32) (x1 : Int32) : Int32 × (Nat → Int32) × (Nat → Int32) := pr1 (f_X6_copyRow__sa ss mas) (fun mas_1 => pr3 (l_X6_isTold_15 msz mnu x1 300 (1 : Int32) (0 : Int32) ss) (fun x2_2 x3_2 ss_2 => pr1 (f_X6_copyRow__as ss_2 mas_1) (fun ss_8 => (x2_2, ss_8, mas_1))))
theorem kX6_isTold_f7 : Cond.fieldLink RX6 7 "TwoMinutesModel" "s" "[I" ∈ wsX6_isTold := by decide +kernel
theorem kX6_isTold_f16 : Cond.fieldLink RX6 16 "TwoMinutesModel" "aside" "[I" ∈ wsX6_isTold := by decide +kernel
theorem kX6_isTold_iRX6 : Cond.initialized yX6_copyRow.cls ∈ wsX6_isTold := by decide +kernel
theorem kX6_isTold_sX6_copyRow : Cond.static yX6_copyRow ∈ wsX6_isTold := by decide +kernel
theorem kX6_isTold_m138 : Cond.methodLink RX6 138 yX6_copyRow ∈ wsX6_isTold := by decide +kernel
theorem kX6_isTold_f34 : Cond.fieldLink RX6 34 "TwoMinutesModel" "sizeOf" "[I" ∈ wsX6_isTold := by decide +kernel
theorem kX6_isTold_f37 : Cond.fieldLink RX6 37 "TwoMinutesModel" "numbers" "[I" ∈ wsX6_isTold := by decide +kernel
theorem qd_X6_isTold : yX6_isTold.cls = RX6 ∧ yX6_isTold.cls ≠ "java/lang/invoke/MethodHandle" ∧ yX6_isTold.cls ≠ "java/lang/invoke/VarHandle" ∧ (parseMethodDescriptor yX6_isTold.desc).map (fun d => d.parameters.length) = some 1 := by decide +kernel
abbrev rmX6_isTold : Room := { frames := 5, cells := 0, slots := 0, locals := 113 }
set_option maxHeartbeats 4000000 in
set_option maxRecDepth 100000 in
theorem L_X6_isTold_15 {τ : SX} {κ : KX} (C : Cx τ κ cX6_isTold RX6 wsX6_isTold rmX6_isTold 4) (a : Nat → Nat) (mhd : Nat → Int32) (mas : Nat → Int32) (mbf : Nat → Int32) (mih : Int32) (mtp : Nat → Int32) (mtn : Int32) (mtk : Int32) (mfr : Int32) (mtt : Int32) (mvl : Int32) (miw : Int32) (mld : Nat → Int32) (mrw : Nat → Int32) (mrn : Int32) (mso : Nat → Int32) (msz : Nat → Int32) (mnu : Nat → Int32) (mhw : Nat → Int32) (mhh : Nat → Int32) (mhm : Nat → Int32) (mbo : Nat → Int32) (mrr : Int32) (mak : Int32) (man : Int32) (maa : Int32) (mip : Int32) (x1 : Int32) (hsz : ∀ i : Nat, 0 ≤ (msz i).toInt ∧ (msz i).toInt ≤ 40) (hv : vp_in x1 4) (Φ : Int32 × Int32 × (Nat → Int32) → Prop) (hE : ∀ (x2 : Int32) (x3 : Int32) (ss : Nat → Int32), (narrow .boolean (.int x2) = .int x2) → Φ (x2, x3, ss) → J τ κ 0 0 (wM τ a ss mhd mas mbf mih mtp mtn mtk mfr mtt mvl miw mld mrw mrn mso msz mnu mhw mhh mhm mbo mrr mak man maa mip) [(0, .ref (a 0)), (1, .int x1), (2, .int x2), (3, .int x3)] 82 []) : ∀ (N : Nat) (x2 : Int32) (x3 : Int32) (ss : Nat → Int32), ((40 : Int) - x3.toInt).toNat < N → (0 ≤ x3.toInt) → (x3.toInt ≤ 40) → (okS ss) → (narrow .boolean (.int x2) = .int x2) → Φ (l_X6_isTold_15 msz mnu x1 N x2 x3 ss) → J τ κ 0 0 (wM τ a ss mhd mas mbf mih mtp mtn mtk mfr mtt mvl miw mld mrw mrn mso msz mnu mhw mhh mhm mbo mrr mak man maa mip) [(0, .ref (a 0)), (1, .int x1), (2, .int x2), (3, .int x3)] 15 [] := by
  have hiX6 : ∀ w ∈ wsX60, w ∈ wsX6_isTold := fun w h => List.mem_cons_of_mem _ (List.mem_append_right _ h)
  intro N
  induction N with
  | zero => intro x2 x3 ss hm; exact absurd hm (Nat.not_lt_zero _)
  | succ N ih =>
    intro x2 x3 ss hm h0 h1 hok hz hR
    rw [l_X6_isTold_15] at hR
    refine j_iload_n C dX6_isTold_15 16 rfl rfl 3 rfl ?_
    refine j_aload_n C dX6_isTold_16 17 rfl rfl 0 rfl ?_
    refine j_get C dX6_isTold_17 20 rfl hiX6 0 rfl rfl 16 (by decide) rfl kX6_isTold_f34 rfl ?_
    refine j_iload_n C dX6_isTold_20 21 rfl rfl 1 rfl ?_
    refine j_iald C dX6_isTold_21 22 rfl 9 rfl (hv) (x1).toNatClampNeg rfl ?_
    refine j_icmp_ge C dX6_isTold_22 82 rfl 25 rfl (fun c3 => ?_) (fun c3 => ?_)
    · rw [if_pos c3] at hR
      exact j_lv [0, 1, 2, 3] [(0, .ref (a 0)), (1, .int x1), (2, .int x2), (3, .int x3)] rfl (hE _ _ _ hz hR)
    · rw [if_neg c3] at hR
      have hs := cnt_step (B := 40) h0 ((hsz _).2) (by decide) c3
      refine j_iload_n C dX6_isTold_25 26 rfl rfl 2 rfl ?_
      refine j_if_eq C dX6_isTold_26 82 rfl 29 rfl (fun c4 => ?_) (fun c4 => ?_)
      · rw [if_pos c4] at hR
        exact j_lv [0, 1, 2, 3] [(0, .ref (a 0)), (1, .int x1), (2, .int x2), (3, .int x3)] rfl (hE _ _ _ hz hR)
      · rw [if_neg c4] at hR
        refine j_aload_n C dX6_isTold_29 30 rfl rfl 0 rfl ?_
        refine j_iconst (v := 1) C dX6_isTold_30 31 rfl (by decide) ?_
        refine j_iconst (v := 0) C dX6_isTold_31 32 rfl (by decide) ?_
        refine j_cv0V (na := 2) C dX6_isTold_32 35 rfl (c_X6_goes τ a ss mhd mas mbf mih mtp mtn mtk mfr mtt mvl miw mld mrw mrn mso msz mnu mhw mhh mhm mbo mrr mak man maa mip (1 : Int32) (0 : Int32) (by first | assumption | (unfold vp_in; decide) | decide) (by first | assumption | (unfold vp_in; decide) | decide)) gX6_isTold_X6_goes rfl rfl rfl qd_X6_goes rfl ⟨by decide, by decide⟩ ⟨by decide, by decide⟩ rfl (Nat.le_of_ble_eq_true rfl) rfl 6 0 rfl rfl (fun u5 hX5 => ?_)
        obtain ⟨ss_5, rfl⟩ : ∃ z, z = u5 := ⟨_, rfl⟩
        rw [hX5] at hR; rw [pr1_mk ss_5] at hR
        have hok5 : okS ss_5 := by rw [← hX5]; exact ok_goes (by assumption)
        refine j_aload_n C dX6_isTold_35 36 rfl rfl 0 rfl ?_
        refine j_get C dX6_isTold_36 39 rfl hiX6 0 rfl rfl 17 (by decide) rfl kX6_isTold_f37 rfl ?_
        refine j_bipush (v := 40) C dX6_isTold_39 41 rfl (by decide) ?_
        refine j_iload_n C dX6_isTold_41 42 rfl rfl 1 rfl ?_
        refine j_imul C dX6_isTold_42 43 rfl ?_
        refine j_iload_n C dX6_isTold_43 44 rfl rfl 3 rfl ?_
        refine j_iadd C dX6_isTold_44 45 rfl ?_
        refine j_iald C dX6_isTold_45 46 rfl 10 rfl (nu_in hv (vpI h0 hs.2.2.2)) ((((40 : Int32) * x1) + x3)).toNatClampNeg rfl ?_
        refine j_iconst (v := (-1)) C dX6_isTold_46 47 rfl (by decide) ?_
        have J47 : ∀ (j47_0 : Int32), (narrow .boolean (.int j47_0) = .int j47_0) → Φ (l_X6_isTold_15 msz mnu x1 N j47_0 (x3 + 1) ss_5) → J τ κ 0 0 (wM τ a ss_5 mhd mas mbf mih mtp mtn mtk mfr mtt mvl miw mld mrw mrn mso msz mnu mhw mhh mhm mbo mrr mak man maa mip) [(0, .ref (a 0)), (1, .int x1), (2, .int x2), (3, .int x3)] 75 [.int j47_0] := by
          intro j47_0 hzj hR
          refine j_istore_n C dX6_isTold_75 76 rfl rfl (by decide) [(2, .int j47_0), (0, .ref (a 0)), (1, .int x1), (3, .int x3)] rfl ?_
          refine j_iinc (v := (x3 + 1)) C dX6_isTold_76 79 rfl 3 rfl rfl (by decide) [(3, .int (x3 + 1)), (2, .int j47_0), (0, .ref (a 0)), (1, .int x1)] rfl ?_
          refine j_goto C dX6_isTold_79 15 rfl ?_
          exact j_lv [2, 3, 1, 0] [(0, .ref (a 0)), (1, .int x1), (2, .int j47_0), (3, .int (x3 + 1))] rfl (ih _ _ _ (by have := hs.2.2.1; omega) hs.1 hs.2.1 (by assumption) hzj hR)
        refine j_icmp_eq C dX6_isTold_47 70 rfl 50 rfl (fun c6 => ?_) (fun c6 => ?_)
        · rw [if_pos c6] at hR
          refine j_iconst (v := 1) C dX6_isTold_70 71 rfl (by decide) ?_
          refine j_goto C dX6_isTold_71 75 rfl ?_
          rw [pr1_mk (1 : Int32)] at hR
          exact j_lv [0, 1, 2, 3] [(0, .ref (a 0)), (1, .int x1), (2, .int x2), (3, .int x3)] rfl (J47 _ (rfl) hR)
        · rw [if_neg c6] at hR
          refine j_aload_n C dX6_isTold_50 51 rfl rfl 0 rfl ?_
          refine j_get C dX6_isTold_51 54 rfl hiX6 0 rfl rfl 17 (by decide) rfl kX6_isTold_f37 rfl ?_
          refine j_bipush (v := 40) C dX6_isTold_54 56 rfl (by decide) ?_
          refine j_iload_n C dX6_isTold_56 57 rfl rfl 1 rfl ?_
          refine j_imul C dX6_isTold_57 58 rfl ?_
          refine j_iload_n C dX6_isTold_58 59 rfl rfl 3 rfl ?_
          refine j_iadd C dX6_isTold_59 60 rfl ?_
          refine j_iald C dX6_isTold_60 61 rfl 10 rfl (nu_in hv (vpI h0 hs.2.2.2)) ((((40 : Int32) * x1) + x3)).toNatClampNeg rfl ?_
          refine j_aload_n C dX6_isTold_61 62 rfl rfl 0 rfl ?_
          refine j_get C dX6_isTold_62 65 rfl hiX6 0 rfl rfl 0 (by decide) rfl kX6_isTold_f7 rfl ?_
          refine j_iconst (v := 3) C dX6_isTold_65 66 rfl (by decide) ?_
          refine j_iald C dX6_isTold_66 67 rfl 1 rfl (by unfold vp_in; decide) 3 rfl ?_
          refine j_icmp_ne C dX6_isTold_67 74 rfl 70 rfl (fun c7 => ?_) (fun c7 => ?_)
          · rw [if_neg c7] at hR
            refine j_iconst (v := 0) C dX6_isTold_74 75 rfl (by decide) ?_
            rw [pr1_mk (0 : Int32)] at hR
            exact j_lv [0, 1, 2, 3] [(0, .ref (a 0)), (1, .int x1), (2, .int x2), (3, .int x3)] rfl (J47 _ (rfl) hR)
          · rw [if_pos c7] at hR
            refine j_iconst (v := 1) C dX6_isTold_70 71 rfl (by decide) ?_
            refine j_goto C dX6_isTold_71 75 rfl ?_
            rw [pr1_mk (1 : Int32)] at hR
            exact j_lv [0, 1, 2, 3] [(0, .ref (a 0)), (1, .int x1), (2, .int x2), (3, .int x3)] rfl (J47 _ (rfl) hR)
set_option maxHeartbeats 4000000 in
set_option maxRecDepth 100000 in
theorem c_X6_isTold (τ : SX) (a : Nat → Nat) (ss : Nat → Int32) (mhd : Nat → Int32) (mas : Nat → Int32) (mbf : Nat → Int32) (mih : Int32) (mtp : Nat → Int32) (mtn : Int32) (mtk : Int32) (mfr : Int32) (mtt : Int32) (mvl : Int32) (miw : Int32) (mld : Nat → Int32) (mrw : Nat → Int32) (mrn : Int32) (mso : Nat → Int32) (msz : Nat → Int32) (mnu : Nat → Int32) (mhw : Nat → Int32) (mhh : Nat → Int32) (mhm : Nat → Int32) (mbo : Nat → Int32) (mrr : Int32) (mak : Int32) (man : Int32) (maa : Int32) (mip : Int32) (x1 : Int32) (hok : okS ss) (hsz : ∀ i : Nat, 0 ≤ (msz i).toInt ∧ (msz i).toInt ≤ 40) (hv : vp_in x1 4) (sz : Nat) : McI τ yX6_isTold wsX6_isTold rmX6_isTold .boolean [.ref (a 0), .int x1] (wM τ a ss mhd mas mbf mih mtp mtn mtk mfr mtt mvl miw mld mrw mrn mso msz mnu mhw mhh mhm mbo mrr mak man maa mip) (fun u : (Nat → Int32) × (Nat → Int32) => (wM τ a u.1 mhd u.2 mbf mih mtp mtn mtk mfr mtt mvl miw mld mrw mrn mso msz mnu mhw mhh mhm mbo mrr mak man maa mip)) (f_X6_isTold ss mas msz mnu x1) sz := by
  refine mc_I (cc := cX6_isTold) (own := RX6) [(0, .ref (a 0)), (1, .int x1)] rfl (by decide) rfl rfl (Nat.le_of_ble_eq_true rfl) (fun κ C hR => ?_)
  have hiX6 : ∀ w ∈ wsX60, w ∈ wsX6_isTold := fun w h => List.mem_cons_of_mem _ (List.mem_append_right _ h)
  unfold f_X6_isTold at hR
  refine j_aload_n C dX6_isTold_0 1 rfl rfl 0 rfl ?_
  refine j_get C dX6_isTold_1 4 rfl hiX6 0 rfl rfl 0 (by decide) rfl kX6_isTold_f7 rfl ?_
  refine j_aload_n C dX6_isTold_4 5 rfl rfl 0 rfl ?_
  refine j_get C dX6_isTold_5 8 rfl hiX6 0 rfl rfl 2 (by decide) rfl kX6_isTold_f16 rfl ?_
  refine j_csWV (na := 2) C dX6_isTold_8 11 rfl (c_X6_copyRow__sa τ a ss mhd mas mbf mih mtp mtn mtk mfr mtt mvl miw mld mrw mrn mso msz mnu mhw mhh mhm mbo mrr mak man maa mip ) ggX6_isTold_X6_copyRow rfl rfl rfl kX6_isTold_iRX6 kX6_isTold_m138 kX6_isTold_sX6_copyRow qd_X6_copyRow__sa rfl ⟨by decide, by decide⟩ ⟨by decide, by decide⟩ rfl (Nat.le_of_ble_eq_true rfl) rfl (fun u1 hX1 => ?_)
  obtain ⟨mas_1, rfl⟩ : ∃ z, z = u1 := ⟨_, rfl⟩
  rw [hX1] at hR; rw [pr1_mk mas_1] at hR
  have hoka1 : okS mas_1 := by rw [← hX1]; exact ok_cp_sa (by assumption)
  refine j_iconst (v := 1) C dX6_isTold_11 12 rfl (by decide) ?_
  refine j_istore_n C dX6_isTold_12 13 rfl rfl (by decide) [(2, .int 1), (0, .ref (a 0)), (1, .int x1)] rfl ?_
  refine j_iconst (v := 0) C dX6_isTold_13 14 rfl (by decide) ?_
  refine j_istore_n C dX6_isTold_14 15 rfl rfl (by decide) [(3, .int 0), (2, .int 1), (0, .ref (a 0)), (1, .int x1)] rfl ?_
  refine j_lv [2, 3, 1, 0] [(0, .ref (a 0)), (1, .int x1), (2, .int 1), (3, .int 0)] rfl (L_X6_isTold_15 C a mhd mas_1 mbf mih mtp mtn mtk mfr mtt mvl miw mld mrw mrn mso msz mnu mhw mhh mhm mbo mrr mak man maa mip x1 hsz hv (fun (o : Int32 × Int32 × (Nat → Int32)) => Rt τ κ cX6_isTold .boolean (fun u : (Nat → Int32) × (Nat → Int32) => (wM τ a u.1 mhd u.2 mbf mih mtp mtn mtk mfr mtt mvl miw mld mrw mrn mso msz mnu mhw mhh mhm mbo mrr mak man maa mip)) (pr3 o (fun x2_2 x3_2 ss_2 => pr1 (f_X6_copyRow__as ss_2 mas_1) (fun ss_8 => (x2_2, ss_8, mas_1))))) (fun x2_2 x3_2 ss_2 hzo hR => ?_) 300 (1 : Int32) (0 : Int32) ss (by decide) (by decide) (by decide) (by assumption) rfl hR)
  rw [pr3_mk x2_2 x3_2 ss_2] at hR
  refine j_aload_n C dX6_isTold_82 83 rfl rfl 0 rfl ?_
  refine j_get C dX6_isTold_83 86 rfl hiX6 0 rfl rfl 2 (by decide) rfl kX6_isTold_f16 rfl ?_
  refine j_aload_n C dX6_isTold_86 87 rfl rfl 0 rfl ?_
  refine j_get C dX6_isTold_87 90 rfl hiX6 0 rfl rfl 0 (by decide) rfl kX6_isTold_f7 rfl ?_
  refine j_csWV (na := 2) C dX6_isTold_90 93 rfl (c_X6_copyRow__as τ a ss_2 mhd mas_1 mbf mih mtp mtn mtk mfr mtt mvl miw mld mrw mrn mso msz mnu mhw mhh mhm mbo mrr mak man maa mip ) ggX6_isTold_X6_copyRow rfl rfl rfl kX6_isTold_iRX6 kX6_isTold_m138 kX6_isTold_sX6_copyRow qd_X6_copyRow__as rfl ⟨by decide, by decide⟩ ⟨by decide, by decide⟩ rfl (Nat.le_of_ble_eq_true rfl) rfl (fun u8 hX8 => ?_)
  obtain ⟨ss_8, rfl⟩ : ∃ z, z = u8 := ⟨_, rfl⟩
  rw [hX8] at hR; rw [pr1_mk ss_8] at hR
  have hok8 : okS ss_8 := by rw [← hX8]; exact ok_cp_as (by assumption)
  refine j_iload_n C dX6_isTold_93 94 rfl rfl 2 rfl ?_
  exact Rt.ret (hR) (by assumption) dX6_isTold_94

theorem told_keep {ss mas s2 m2 msz mnu : Nat → Int32} {x r : Int32} (h : f_X6_isTold ss mas msz mnu x = (r, s2, m2)) : ∀ k, k < 50 → s2 k = ss k := by
  intro k hk
  unfold f_X6_isTold at h
  simp only [pr1, pr3, Prod.mk.injEq] at h
  rw [← h.2.1, cpas _ _ k hk, cpsa _ _ k hk]

-- X6_fits
def l_X6_fits_69 (msz : Nat → Int32) (mnu : Nat → Int32) (x1 : Int32) (x4 : Int32) : Nat → Int32 → Int32 → Int32 → (Nat → Int32) → (Nat → Int32) → Int32 × Int32 × Int32 × (Nat → Int32) × (Nat → Int32)
  | 0, x6, x7, x8, ss, mas => (x6, x7, x8, ss, mas)
  | N + 1, x6, x7, x8, ss, mas => if (x8 < 0) then (x6, x7, x8, ss, mas) else (pr3 (f_X6_isTold (upd ss (x4).toNatClampNeg x8) mas msz mnu x1) (fun r10 ss_10 mas_10 => pr1 (if (r10 = 0) then (0 : Int32) else (1 : Int32)) (fun j94_0 => pr1 (if (r10 = 0) then x7 else x8) (fun j107_0 => l_X6_fits_69 msz mnu x1 x4 N (x6 + j94_0) j107_0 (x8 + (-1)) ss_10 mas_10))))
def f_X6_fits (ss : Nat → Int32) (mas : Nat → Int32) (mso : Nat → Int32) (msz : Nat → Int32) (mnu : Nat → Int32) (x1 : Int32) (x2 : Int32) (x3 : Int32) : Int32 × (Nat → Int32) × (Nat → Int32) := if ((f_X6_isSheet x1) = 0) then (((-1) : Int32), ss, mas) else (if ((f_X6_isOne ss x2) = 0) then (((-1) : Int32), ss, mas) else (if ((f_X6_isIn ((x3 : Int32).toInt64) (0 : Int64) (1 : Int64)) = 0) then (((-1) : Int32), ss, mas) else (if (0 ≤ (mso (x1).toNatClampNeg)) then (pr5 (l_X6_fits_69 msz mnu x1 (((10 : Int32) + ((5 : Int32) * x2)) + 2) 300 (0 : Int32) ((-3) : Int32) (8 : Int32) ss mas) (fun x6_8 x7_8 x8_8 ss_8 mas_8 => if (x3 = 0) then (x6_8, (upd ss_8 ((((10 : Int32) + ((5 : Int32) * x2)) + 2)).toNatClampNeg (ss ((((10 : Int32) + ((5 : Int32) * x2)) + 2)).toNatClampNeg)), mas_8) else (x7_8, (upd ss_8 ((((10 : Int32) + ((5 : Int32) * x2)) + 2)).toNatClampNeg (ss ((((10 : Int32) + ((5 : Int32) * x2)) + 2)).toNatClampNeg)), mas_8))) else (((-11) : Int32), ss, mas))))
theorem kX6_fits_iRX6 : Cond.initialized yX6_isIn.cls ∈ wsX6_fits := by decide +kernel
theorem kX6_fits_sX6_isSheet : Cond.static yX6_isSheet ∈ wsX6_fits := by decide +kernel
theorem kX6_fits_m238 : Cond.methodLink RX6 238 yX6_isSheet ∈ wsX6_fits := by decide +kernel
theorem kX6_fits_sX6_isIn : Cond.static yX6_isIn ∈ wsX6_fits := by decide +kernel
theorem kX6_fits_m57 : Cond.methodLink RX6 57 yX6_isIn ∈ wsX6_fits := by decide +kernel
theorem kX6_fits_f31 : Cond.fieldLink RX6 31 "TwoMinutesModel" "sortOf" "[I" ∈ wsX6_fits := by decide +kernel
theorem kX6_fits_f7 : Cond.fieldLink RX6 7 "TwoMinutesModel" "s" "[I" ∈ wsX6_fits := by decide +kernel
theorem qd_X6_fits : yX6_fits.cls = RX6 ∧ yX6_fits.cls ≠ "java/lang/invoke/MethodHandle" ∧ yX6_fits.cls ≠ "java/lang/invoke/VarHandle" ∧ (parseMethodDescriptor yX6_fits.desc).map (fun d => d.parameters.length) = some 3 := by decide +kernel
abbrev rmX6_fits : Room := { frames := 6, cells := 0, slots := 0, locals := 136 }
set_option maxHeartbeats 4000000 in
set_option maxRecDepth 100000 in
theorem L_X6_fits_69 {τ : SX} {κ : KX} (C : Cx τ κ cX6_fits RX6 wsX6_fits rmX6_fits 10) (a : Nat → Nat) (mhd : Nat → Int32) (mbf : Nat → Int32) (mih : Int32) (mtp : Nat → Int32) (mtn : Int32) (mtk : Int32) (mfr : Int32) (mtt : Int32) (mvl : Int32) (miw : Int32) (mld : Nat → Int32) (mrw : Nat → Int32) (mrn : Int32) (mso : Nat → Int32) (msz : Nat → Int32) (mnu : Nat → Int32) (mhw : Nat → Int32) (mhh : Nat → Int32) (mhm : Nat → Int32) (mbo : Nat → Int32) (mrr : Int32) (mak : Int32) (man : Int32) (maa : Int32) (mip : Int32) (x1 : Int32) (x2 : Int32) (x3 : Int32) (x4 : Int32) (x5 : Int32) (hsz : ∀ i : Nat, 0 ≤ (msz i).toInt ∧ (msz i).toInt ≤ 40) (hv : vp_in x1 4) (ha : vp_in x4 50) (hq : ∀ (s : Nat → Int32) (v : Int32), okS s → okS (upd s (x4).toNatClampNeg v)) (Φ : Int32 × Int32 × Int32 × (Nat → Int32) × (Nat → Int32) → Prop) (hE : ∀ (x6 : Int32) (x7 : Int32) (x8 : Int32) (ss : Nat → Int32) (mas : Nat → Int32), Φ (x6, x7, x8, ss, mas) → J τ κ 0 0 (wM τ a ss mhd mas mbf mih mtp mtn mtk mfr mtt mvl miw mld mrw mrn mso msz mnu mhw mhh mhm mbo mrr mak man maa mip) [(0, .ref (a 0)), (1, .int x1), (2, .int x2), (3, .int x3), (4, .int x4), (5, .int x5), (6, .int x6), (7, .int x7), (8, .int x8)] 125 []) : ∀ (N : Nat) (x6 : Int32) (x7 : Int32) (x8 : Int32) (ss : Nat → Int32) (mas : Nat → Int32), (x8.toInt + 1).toNat < N → (-1 ≤ x8.toInt) → (x8.toInt ≤ 8) → (okS ss) → Φ (l_X6_fits_69 msz mnu x1 x4 N x6 x7 x8 ss mas) → J τ κ 0 0 (wM τ a ss mhd mas mbf mih mtp mtn mtk mfr mtt mvl miw mld mrw mrn mso msz mnu mhw mhh mhm mbo mrr mak man maa mip) [(0, .ref (a 0)), (1, .int x1), (2, .int x2), (3, .int x3), (4, .int x4), (5, .int x5), (6, .int x6), (7, .int x7), (8, .int x8)] 69 [] := by
  have hiX6 : ∀ w ∈ wsX60, w ∈ wsX6_fits := fun w h => List.mem_cons_of_mem _ (List.mem_append_right _ h)
  intro N
  induction N with
  | zero => intro x6 x7 x8 ss mas hm; exact absurd hm (Nat.not_lt_zero _)
  | succ N ih =>
    intro x6 x7 x8 ss mas hm h0 h1 hok hR
    rw [l_X6_fits_69] at hR
    refine j_iload C dX6_fits_69 71 rfl 8 rfl ?_
    refine j_if_lt C dX6_fits_71 125 rfl 74 rfl (fun c9 => ?_) (fun c9 => ?_)
    · rw [if_pos c9] at hR
      exact j_lv [0, 1, 2, 3, 4, 5, 6, 7, 8] [(0, .ref (a 0)), (1, .int x1), (2, .int x2), (3, .int x3), (4, .int x4), (5, .int x5), (6, .int x6), (7, .int x7), (8, .int x8)] rfl (hE _ _ _ _ _  hR)
    · rw [if_neg c9] at hR
      have hs := dn_step0 c9
      refine j_aload_n C dX6_fits_74 75 rfl rfl 0 rfl ?_
      refine j_get C dX6_fits_75 78 rfl hiX6 0 rfl rfl 0 (by decide) rfl kX6_fits_f7 rfl ?_
      refine j_iload C dX6_fits_78 80 rfl 4 rfl ?_
      refine j_iload C dX6_fits_80 82 rfl 8 rfl ?_
      refine j_iast C dX6_fits_82 83 rfl 1 rfl (ha) (x4).toNatClampNeg rfl (wM τ a (upd ss (x4).toNatClampNeg x8) mhd mas mbf mih mtp mtn mtk mfr mtt mvl miw mld mrw mrn mso msz mnu mhw mhh mhm mbo mrr mak man maa mip) rfl ?_
      refine j_aload_n C dX6_fits_83 84 rfl rfl 0 rfl ?_
      refine j_iload_n C dX6_fits_84 85 rfl rfl 1 rfl ?_
      refine j_cv0I (na := 1) C dX6_fits_85 88 rfl (c_X6_isTold τ a (upd ss (x4).toNatClampNeg x8) mhd mas mbf mih mtp mtn mtk mfr mtt mvl miw mld mrw mrn mso msz mnu mhw mhh mhm mbo mrr mak man maa mip x1 (hq _ _ hok) hsz hv) gX6_fits_X6_isTold rfl rfl rfl qd_X6_isTold rfl ⟨by decide, by decide⟩ ⟨by decide, by decide⟩ rfl (Nat.le_of_ble_eq_true rfl) rfl 6 0 rfl rfl (fun r10 u10 hX10 hn10 => ?_)
      obtain ⟨ss_10, mas_10⟩ := u10
      rw [hX10] at hR; rw [pr3_mk r10 ss_10 mas_10] at hR
      have hok10 : okS ss_10 := ok_of_eq (hq _ _ hok) (told_keep hX10)
      refine j_istore C dX6_fits_88 90 rfl (by decide) [(9, .int r10), (0, .ref (a 0)), (1, .int x1), (2, .int x2), (3, .int x3), (4, .int x4), (5, .int x5), (6, .int x6), (7, .int x7), (8, .int x8)] rfl ?_
      refine j_iload C dX6_fits_90 92 rfl 7 rfl ?_
      refine j_iload C dX6_fits_92 94 rfl 0 rfl ?_
      have J94 : ∀ (j94_0 : Int32), Φ (pr1 (if (r10 = 0) then x7 else x8) (fun j107_0 => l_X6_fits_69 msz mnu x1 x4 N (x6 + j94_0) j107_0 (x8 + (-1)) ss_10 mas_10)) → J τ κ 0 0 (wM τ a ss_10 mhd mas_10 mbf mih mtp mtn mtk mfr mtt mvl miw mld mrw mrn mso msz mnu mhw mhh mhm mbo mrr mak man maa mip) [(0, .ref (a 0)), (1, .int x1), (2, .int x2), (3, .int x3), (4, .int x4), (5, .int x5), (6, .int x6), (7, .int x7), (8, .int x8), (9, .int r10)] 102 [.int j94_0, .int x6] := by
        intro j94_0  hR
        refine j_iadd C dX6_fits_102 103 rfl ?_
        refine j_istore C dX6_fits_103 105 rfl (by decide) [(6, .int (x6 + j94_0)), (0, .ref (a 0)), (1, .int x1), (2, .int x2), (3, .int x3), (4, .int x4), (5, .int x5), (7, .int x7), (8, .int x8), (9, .int r10)] rfl ?_
        refine j_iload C dX6_fits_105 107 rfl 9 rfl ?_
        have J107 : ∀ (j107_0 : Int32), Φ (l_X6_fits_69 msz mnu x1 x4 N (x6 + j94_0) j107_0 (x8 + (-1)) ss_10 mas_10) → J τ κ 0 0 (wM τ a ss_10 mhd mas_10 mbf mih mtp mtn mtk mfr mtt mvl miw mld mrw mrn mso msz mnu mhw mhh mhm mbo mrr mak man maa mip) [(0, .ref (a 0)), (1, .int x1), (2, .int x2), (3, .int x3), (4, .int x4), (5, .int x5), (6, .int (x6 + j94_0)), (7, .int x7), (8, .int x8), (9, .int r10)] 117 [.int j107_0] := by
          intro j107_0  hR
          refine j_istore C dX6_fits_117 119 rfl (by decide) [(7, .int j107_0), (0, .ref (a 0)), (1, .int x1), (2, .int x2), (3, .int x3), (4, .int x4), (5, .int x5), (6, .int (x6 + j94_0)), (8, .int x8), (9, .int r10)] rfl ?_
          refine j_iinc (v := (x8 + (-1))) C dX6_fits_119 122 rfl 8 rfl rfl (by decide) [(8, .int (x8 + (-1))), (7, .int j107_0), (0, .ref (a 0)), (1, .int x1), (2, .int x2), (3, .int x3), (4, .int x4), (5, .int x5), (6, .int (x6 + j94_0)), (9, .int r10)] rfl ?_
          refine j_goto C dX6_fits_122 69 rfl ?_
          exact j_lv [2, 3, 4, 5, 6, 7, 8, 1, 0] [(0, .ref (a 0)), (1, .int x1), (2, .int x2), (3, .int x3), (4, .int x4), (5, .int x5), (6, .int (x6 + j94_0)), (7, .int j107_0), (8, .int (x8 + (-1)))] rfl (ih _ _ _ _ _ (by omega) (by omega) (by omega) (by assumption) hR)
        refine j_if_eq C dX6_fits_107 115 rfl 110 rfl (fun c12 => ?_) (fun c12 => ?_)
        · rw [if_pos c12] at hR
          refine j_iload C dX6_fits_115 117 rfl 7 rfl ?_
          rw [pr1_mk x7] at hR
          exact j_lv [1, 2, 3, 4, 5, 6, 0, 7, 8, 9] [(0, .ref (a 0)), (1, .int x1), (2, .int x2), (3, .int x3), (4, .int x4), (5, .int x5), (6, .int (x6 + j94_0)), (7, .int x7), (8, .int x8), (9, .int r10)] rfl (J107 _  hR)
        · rw [if_neg c12] at hR
          refine j_iload C dX6_fits_110 112 rfl 8 rfl ?_
          refine j_goto C dX6_fits_112 117 rfl ?_
          rw [pr1_mk x8] at hR
          exact j_lv [1, 2, 3, 4, 5, 6, 0, 7, 8, 9] [(0, .ref (a 0)), (1, .int x1), (2, .int x2), (3, .int x3), (4, .int x4), (5, .int x5), (6, .int (x6 + j94_0)), (7, .int x7), (8, .int x8), (9, .int r10)] rfl (J107 _  hR)
      refine j_if_eq C dX6_fits_94 101 rfl 97 rfl (fun c11 => ?_) (fun c11 => ?_)
      · rw [if_pos c11] at hR
        refine j_iconst (v := 0) C dX6_fits_101 102 rfl (by decide) ?_
        rw [pr1_mk (0 : Int32)] at hR
        exact j_lv [1, 2, 3, 4, 5, 6, 7, 8, 9, 0] [(0, .ref (a 0)), (1, .int x1), (2, .int x2), (3, .int x3), (4, .int x4), (5, .int x5), (6, .int x6), (7, .int x7), (8, .int x8), (9, .int r10)] rfl (J94 _  hR)
      · rw [if_neg c11] at hR
        refine j_iconst (v := 1) C dX6_fits_97 98 rfl (by decide) ?_
        refine j_goto C dX6_fits_98 102 rfl ?_
        rw [pr1_mk (1 : Int32)] at hR
        exact j_lv [1, 2, 3, 4, 5, 6, 7, 8, 9, 0] [(0, .ref (a 0)), (1, .int x1), (2, .int x2), (3, .int x3), (4, .int x4), (5, .int x5), (6, .int x6), (7, .int x7), (8, .int x8), (9, .int r10)] rfl (J94 _  hR)
set_option maxHeartbeats 4000000 in
set_option maxRecDepth 100000 in
theorem c_X6_fits (τ : SX) (a : Nat → Nat) (ss : Nat → Int32) (mhd : Nat → Int32) (mas : Nat → Int32) (mbf : Nat → Int32) (mih : Int32) (mtp : Nat → Int32) (mtn : Int32) (mtk : Int32) (mfr : Int32) (mtt : Int32) (mvl : Int32) (miw : Int32) (mld : Nat → Int32) (mrw : Nat → Int32) (mrn : Int32) (mso : Nat → Int32) (msz : Nat → Int32) (mnu : Nat → Int32) (mhw : Nat → Int32) (mhh : Nat → Int32) (mhm : Nat → Int32) (mbo : Nat → Int32) (mrr : Int32) (mak : Int32) (man : Int32) (maa : Int32) (mip : Int32) (x1 : Int32) (x2 : Int32) (x3 : Int32) (hok : okS ss) (hsz : ∀ i : Nat, 0 ≤ (msz i).toInt ∧ (msz i).toInt ≤ 40) (sz : Nat) : McI τ yX6_fits wsX6_fits rmX6_fits .int [.ref (a 0), .int x1, .int x2, .int x3] (wM τ a ss mhd mas mbf mih mtp mtn mtk mfr mtt mvl miw mld mrw mrn mso msz mnu mhw mhh mhm mbo mrr mak man maa mip) (fun u : (Nat → Int32) × (Nat → Int32) => (wM τ a u.1 mhd u.2 mbf mih mtp mtn mtk mfr mtt mvl miw mld mrw mrn mso msz mnu mhw mhh mhm mbo mrr mak man maa mip)) (f_X6_fits ss mas mso msz mnu x1 x2 x3) sz := by
  refine mc_I (cc := cX6_fits) (own := RX6) [(0, .ref (a 0)), (1, .int x1), (2, .int x2), (3, .int x3)] rfl (by decide) rfl rfl (Nat.le_of_ble_eq_true rfl) (fun κ C hR => ?_)
  have hiX6 : ∀ w ∈ wsX60, w ∈ wsX6_fits := fun w h => List.mem_cons_of_mem _ (List.mem_append_right _ h)
  unfold f_X6_fits at hR
  refine j_iload_n C dX6_fits_0 1 rfl rfl 1 rfl ?_
  refine j_cs0I (na := 1) C dX6_fits_1 4 rfl (c_X6_isSheet τ  x1 ) rfl ggX6_fits_X6_isSheet rfl rfl rfl kX6_fits_iRX6 kX6_fits_m238 kX6_fits_sX6_isSheet qd_X6_isSheet rfl ⟨by decide, by decide⟩ ⟨by decide, by decide⟩ rfl (Nat.le_of_ble_eq_true rfl) (fun r1 u1 hX1 hn1 => ?_)
  obtain rfl := (Prod.mk.inj hX1).1
  refine j_if_eq C dX6_fits_4 25 rfl 7 rfl (fun c2 => ?_) (fun c2 => ?_)
  · rw [if_pos c2] at hR
    refine j_iconst (v := (-1)) C dX6_fits_25 26 rfl (by decide) ?_
    exact Rt.ret (hR) rfl dX6_fits_26
  · rw [if_neg c2] at hR
    refine j_aload_n C dX6_fits_7 8 rfl rfl 0 rfl ?_
    refine j_iload_n C dX6_fits_8 9 rfl rfl 2 rfl ?_
    refine j_cv0I (na := 1) C dX6_fits_9 12 rfl (c_X6_isOne τ a ss mhd mas mbf mih mtp mtn mtk mfr mtt mvl miw mld mrw mrn mso msz mnu mhw mhh mhm mbo mrr mak man maa mip x2 (by first | assumption | (unfold vp_in; decide) | decide)) gX6_fits_X6_isOne rfl rfl rfl qd_X6_isOne rfl ⟨by decide, by decide⟩ ⟨by decide, by decide⟩ rfl (Nat.le_of_ble_eq_true rfl) rfl 6 0 rfl rfl (fun r3 u3 hX3 hn3 => ?_)
    obtain rfl := (Prod.mk.inj hX3).1
    refine j_if_eq C dX6_fits_12 25 rfl 15 rfl (fun c4 => ?_) (fun c4 => ?_)
    · rw [if_pos c4] at hR
      refine j_iconst (v := (-1)) C dX6_fits_25 26 rfl (by decide) ?_
      exact Rt.ret (hR) rfl dX6_fits_26
    · rw [if_neg c4] at hR
      refine j_iload_n C dX6_fits_15 16 rfl rfl 3 rfl ?_
      refine j_i2l C dX6_fits_16 17 rfl ?_
      refine j_lconst (v := 0) C dX6_fits_17 18 rfl (by decide) ?_
      refine j_lconst (v := 1) C dX6_fits_18 19 rfl (by decide) ?_
      refine j_cs0I (na := 3) C dX6_fits_19 22 rfl (c_X6_isIn τ  ((x3 : Int32).toInt64) (0 : Int64) (1 : Int64) ) rfl ggX6_fits_X6_isIn rfl rfl rfl kX6_fits_iRX6 kX6_fits_m57 kX6_fits_sX6_isIn qd_X6_isIn rfl ⟨by decide, by decide⟩ ⟨by decide, by decide⟩ rfl (Nat.le_of_ble_eq_true rfl) (fun r5 u5 hX5 hn5 => ?_)
      obtain rfl := (Prod.mk.inj hX5).1
      refine j_if_ne C dX6_fits_22 27 rfl 25 rfl (fun c6 => ?_) (fun c6 => ?_)
      · rw [if_neg c6] at hR
        refine j_aload_n C dX6_fits_27 28 rfl rfl 0 rfl ?_
        refine j_get C dX6_fits_28 31 rfl hiX6 0 rfl rfl 15 (by decide) rfl kX6_fits_f31 rfl ?_
        refine j_iload_n C dX6_fits_31 32 rfl rfl 1 rfl ?_
        refine j_iald C dX6_fits_32 33 rfl 8 rfl (in_sh6 c2) (x1).toNatClampNeg rfl ?_
        refine j_if_ge C dX6_fits_33 39 rfl 36 rfl (fun c7 => ?_) (fun c7 => ?_)
        · rw [if_pos c7] at hR
          refine j_bipush (v := 10) C dX6_fits_39 41 rfl (by decide) ?_
          refine j_iconst (v := 5) C dX6_fits_41 42 rfl (by decide) ?_
          refine j_iload_n C dX6_fits_42 43 rfl rfl 2 rfl ?_
          refine j_imul C dX6_fits_43 44 rfl ?_
          refine j_iadd C dX6_fits_44 45 rfl ?_
          refine j_iconst (v := 2) C dX6_fits_45 46 rfl (by decide) ?_
          refine j_iadd C dX6_fits_46 47 rfl ?_
          refine j_istore C dX6_fits_47 49 rfl (by decide) [(4, .int (((10 : Int32) + ((5 : Int32) * x2)) + 2)), (0, .ref (a 0)), (1, .int x1), (2, .int x2), (3, .int x3)] rfl ?_
          refine j_aload_n C dX6_fits_49 50 rfl rfl 1 rfl ?_
          refine j_get C dX6_fits_50 53 rfl hiX6 0 rfl rfl 0 (by decide) rfl kX6_fits_f7 rfl ?_
          refine j_iload C dX6_fits_53 55 rfl 0 rfl ?_
          refine j_iald C dX6_fits_55 56 rfl 1 rfl (its_in (o := x2) (w := 2) (m_one c4 hok) (by decide)) ((((10 : Int32) + ((5 : Int32) * x2)) + 2)).toNatClampNeg rfl ?_
          refine j_istore C dX6_fits_56 58 rfl (by decide) [(5, .int (ss ((((10 : Int32) + ((5 : Int32) * x2)) + 2)).toNatClampNeg)), (4, .int (((10 : Int32) + ((5 : Int32) * x2)) + 2)), (0, .ref (a 0)), (1, .int x1), (2, .int x2), (3, .int x3)] rfl ?_
          refine j_iconst (v := 0) C dX6_fits_58 59 rfl (by decide) ?_
          refine j_istore C dX6_fits_59 61 rfl (by decide) [(6, .int 0), (5, .int (ss ((((10 : Int32) + ((5 : Int32) * x2)) + 2)).toNatClampNeg)), (4, .int (((10 : Int32) + ((5 : Int32) * x2)) + 2)), (0, .ref (a 0)), (1, .int x1), (2, .int x2), (3, .int x3)] rfl ?_
          refine j_bipush (v := (-3)) C dX6_fits_61 63 rfl (by decide) ?_
          refine j_istore C dX6_fits_63 65 rfl (by decide) [(7, .int (-3)), (6, .int 0), (5, .int (ss ((((10 : Int32) + ((5 : Int32) * x2)) + 2)).toNatClampNeg)), (4, .int (((10 : Int32) + ((5 : Int32) * x2)) + 2)), (0, .ref (a 0)), (1, .int x1), (2, .int x2), (3, .int x3)] rfl ?_
          refine j_bipush (v := 8) C dX6_fits_65 67 rfl (by decide) ?_
          refine j_istore C dX6_fits_67 69 rfl (by decide) [(8, .int 8), (7, .int (-3)), (6, .int 0), (5, .int (ss ((((10 : Int32) + ((5 : Int32) * x2)) + 2)).toNatClampNeg)), (4, .int (((10 : Int32) + ((5 : Int32) * x2)) + 2)), (0, .ref (a 0)), (1, .int x1), (2, .int x2), (3, .int x3)] rfl ?_
          refine j_lv [5, 6, 7, 8, 4, 3, 2, 1, 0] [(0, .ref (a 0)), (1, .int x1), (2, .int x2), (3, .int x3), (4, .int (((10 : Int32) + ((5 : Int32) * x2)) + 2)), (5, .int (ss ((((10 : Int32) + ((5 : Int32) * x2)) + 2)).toNatClampNeg)), (6, .int 0), (7, .int (-3)), (8, .int 8)] rfl (L_X6_fits_69 C a mhd mbf mih mtp mtn mtk mfr mtt mvl miw mld mrw mrn mso msz mnu mhw mhh mhm mbo mrr mak man maa mip x1 x2 x3 (((10 : Int32) + ((5 : Int32) * x2)) + 2) (ss ((((10 : Int32) + ((5 : Int32) * x2)) + 2)).toNatClampNeg) hsz (in_sh6 c2) (its_in (o := x2) (w := 2) (m_one c4 hok) (by decide)) (fun s v h => okS_w (o := x2) (w := 2) h (m_one c4 hok) (by decide) (by decide)) (fun (o : Int32 × Int32 × Int32 × (Nat → Int32) × (Nat → Int32)) => Rt τ κ cX6_fits .int (fun u : (Nat → Int32) × (Nat → Int32) => (wM τ a u.1 mhd u.2 mbf mih mtp mtn mtk mfr mtt mvl miw mld mrw mrn mso msz mnu mhw mhh mhm mbo mrr mak man maa mip)) (pr5 o (fun x6_8 x7_8 x8_8 ss_8 mas_8 => if (x3 = 0) then (x6_8, (upd ss_8 ((((10 : Int32) + ((5 : Int32) * x2)) + 2)).toNatClampNeg (ss ((((10 : Int32) + ((5 : Int32) * x2)) + 2)).toNatClampNeg)), mas_8) else (x7_8, (upd ss_8 ((((10 : Int32) + ((5 : Int32) * x2)) + 2)).toNatClampNeg (ss ((((10 : Int32) + ((5 : Int32) * x2)) + 2)).toNatClampNeg)), mas_8)))) (fun x6_8 x7_8 x8_8 ss_8 mas_8  hR => ?_) 300 (0 : Int32) ((-3) : Int32) (8 : Int32) ss mas (by decide) (by decide) (by decide) hok hR)
          rw [pr5_mk x6_8 x7_8 x8_8 ss_8 mas_8] at hR
          refine j_aload_n C dX6_fits_125 126 rfl rfl 0 rfl ?_
          refine j_get C dX6_fits_126 129 rfl hiX6 0 rfl rfl 0 (by decide) rfl kX6_fits_f7 rfl ?_
          refine j_iload C dX6_fits_129 131 rfl 4 rfl ?_
          refine j_iload C dX6_fits_131 133 rfl 5 rfl ?_
          refine j_iast C dX6_fits_133 134 rfl 1 rfl (its_in (o := x2) (w := 2) (m_one c4 hok) (by decide)) ((((10 : Int32) + ((5 : Int32) * x2)) + 2)).toNatClampNeg rfl (wM τ a (upd ss_8 ((((10 : Int32) + ((5 : Int32) * x2)) + 2)).toNatClampNeg (ss ((((10 : Int32) + ((5 : Int32) * x2)) + 2)).toNatClampNeg)) mhd mas_8 mbf mih mtp mtn mtk mfr mtt mvl miw mld mrw mrn mso msz mnu mhw mhh mhm mbo mrr mak man maa mip) rfl ?_
          refine j_iload_n C dX6_fits_134 135 rfl rfl 3 rfl ?_
          refine j_if_ne C dX6_fits_135 143 rfl 138 rfl (fun c13 => ?_) (fun c13 => ?_)
          · rw [if_neg c13] at hR
            refine j_iload C dX6_fits_143 145 rfl 7 rfl ?_
            exact Rt.ret (hR) rfl dX6_fits_145
          · rw [if_pos c13] at hR
            refine j_iload C dX6_fits_138 140 rfl 6 rfl ?_
            refine j_goto C dX6_fits_140 145 rfl ?_
            exact Rt.ret (hR) rfl dX6_fits_145
        · rw [if_neg c7] at hR
          refine j_bipush (v := (-11)) C dX6_fits_36 38 rfl (by decide) ?_
          exact Rt.ret (hR) rfl dX6_fits_38
      · rw [if_pos c6] at hR
        refine j_iconst (v := (-1)) C dX6_fits_25 26 rfl (by decide) ?_
        exact Rt.ret (hR) rfl dX6_fits_26

-- X6_prove
def l_X6_prove_35 (x1 : Int32) (x2 : Int32) : Nat → Int32 → (Nat → Int32) → (Nat → Int32) → Int32 × (Nat → Int32) × (Nat → Int32)
  | 0, x3, ss, mrw => (x3, ss, mrw)
  | N + 1, x3, ss, mrw => if (x2 ≤ x3) then (x3, ss, mrw) else (pr1 (if ((f_X6_sounds ss x1) = 0) then (0 : Int32) else (1 : Int32)) (fun j52_0 => pr1 (f_X6_goes ss (1 : Int32) (0 : Int32)) (fun ss_10 => l_X6_prove_35 x1 x2 N (x3 + 1) ss_10 (upd (upd (upd mrw (((3 : Int32) * x3)).toNatClampNeg j52_0) ((((3 : Int32) * x3) + 1)).toNatClampNeg (ss_10 3)) ((((3 : Int32) * x3) + 2)).toNatClampNeg (f_X6_its ss_10 x1 (4 : Int32))))))
def f_X6_prove (ss : Nat → Int32) (mas : Nat → Int32) (mrw : Nat → Int32) (mrn : Int32) (x1 : Int32) (x2 : Int32) : Int32 × (Nat → Int32) × (Nat → Int32) × (Nat → Int32) × Int32 := if ((f_X6_isOne ss x1) = 0) then (((-1) : Int32), ss, mas, mrw, mrn) else (if ((f_X6_isIn ((x2 : Int32).toInt64) (1 : Int64) (10 : Int64)) = 0) then (((-1) : Int32), ss, mas, mrw, mrn) else (pr1 (f_X6_copyRow__sa ss mas) (fun mas_5 => pr3 (l_X6_prove_35 x1 x2 300 (0 : Int32) ss mrw) (fun x3_6 ss_6 mrw_6 => pr1 (f_X6_copyRow__as ss_6 mas_5) (fun ss_12 => (x2, ss_12, mas_5, mrw_6, x2))))))
theorem kX6_prove_c256 : Cond.constantLong RX6 256 10 ∈ wsX6_prove := by decide +kernel
theorem kX6_prove_iRX6 : Cond.initialized yX6_copyRow.cls ∈ wsX6_prove := by decide +kernel
theorem kX6_prove_sX6_isIn : Cond.static yX6_isIn ∈ wsX6_prove := by decide +kernel
theorem kX6_prove_m57 : Cond.methodLink RX6 57 yX6_isIn ∈ wsX6_prove := by decide +kernel
theorem kX6_prove_f7 : Cond.fieldLink RX6 7 "TwoMinutesModel" "s" "[I" ∈ wsX6_prove := by decide +kernel
theorem kX6_prove_f16 : Cond.fieldLink RX6 16 "TwoMinutesModel" "aside" "[I" ∈ wsX6_prove := by decide +kernel
theorem kX6_prove_sX6_copyRow : Cond.static yX6_copyRow ∈ wsX6_prove := by decide +kernel
theorem kX6_prove_m138 : Cond.methodLink RX6 138 yX6_copyRow ∈ wsX6_prove := by decide +kernel
theorem kX6_prove_f28 : Cond.fieldLink RX6 28 "TwoMinutesModel" "rows" "[I" ∈ wsX6_prove := by decide +kernel
theorem kX6_prove_f145 : Cond.fieldLink RX6 145 "TwoMinutesModel" "rowN" "I" ∈ wsX6_prove := by decide +kernel
theorem qd_X6_prove : yX6_prove.cls = RX6 ∧ yX6_prove.cls ≠ "java/lang/invoke/MethodHandle" ∧ yX6_prove.cls ≠ "java/lang/invoke/VarHandle" ∧ (parseMethodDescriptor yX6_prove.desc).map (fun d => d.parameters.length) = some 2 := by decide +kernel
abbrev rmX6_prove : Room := { frames := 5, cells := 0, slots := 0, locals := 113 }
set_option maxHeartbeats 4000000 in
set_option maxRecDepth 100000 in
theorem L_X6_prove_35 {τ : SX} {κ : KX} (C : Cx τ κ cX6_prove RX6 wsX6_prove rmX6_prove 4) (a : Nat → Nat) (mhd : Nat → Int32) (mas : Nat → Int32) (mbf : Nat → Int32) (mih : Int32) (mtp : Nat → Int32) (mtn : Int32) (mtk : Int32) (mfr : Int32) (mtt : Int32) (mvl : Int32) (miw : Int32) (mld : Nat → Int32) (mrn : Int32) (mso : Nat → Int32) (msz : Nat → Int32) (mnu : Nat → Int32) (mhw : Nat → Int32) (mhh : Nat → Int32) (mhm : Nat → Int32) (mbo : Nat → Int32) (mrr : Int32) (mak : Int32) (man : Int32) (maa : Int32) (mip : Int32) (x1 : Int32) (x2 : Int32) (hx : x2.toInt ≤ 10) (hp : 0 ≤ x1.toInt) (Φ : Int32 × (Nat → Int32) × (Nat → Int32) → Prop) (hE : ∀ (x3 : Int32) (ss : Nat → Int32) (mrw : Nat → Int32), Φ (x3, ss, mrw) → J τ κ 0 0 (wM τ a ss mhd mas mbf mih mtp mtn mtk mfr mtt mvl miw mld mrw mrn mso msz mnu mhw mhh mhm mbo mrr mak man maa mip) [(0, .ref (a 0)), (1, .int x1), (2, .int x2), (3, .int x3)] 105 []) : ∀ (N : Nat) (x3 : Int32) (ss : Nat → Int32) (mrw : Nat → Int32), ((10 : Int) - x3.toInt).toNat < N → (0 ≤ x3.toInt) → (x3.toInt ≤ 10) → (okS ss) → (x1.toInt < (ss 0).toInt) → Φ (l_X6_prove_35 x1 x2 N x3 ss mrw) → J τ κ 0 0 (wM τ a ss mhd mas mbf mih mtp mtn mtk mfr mtt mvl miw mld mrw mrn mso msz mnu mhw mhh mhm mbo mrr mak man maa mip) [(0, .ref (a 0)), (1, .int x1), (2, .int x2), (3, .int x3)] 35 [] := by
  have hiX6 : ∀ w ∈ wsX60, w ∈ wsX6_prove := fun w h => List.mem_cons_of_mem _ (List.mem_append_right _ h)
  intro N
  induction N with
  | zero => intro x3 ss mrw hm; exact absurd hm (Nat.not_lt_zero _)
  | succ N ih =>
    intro x3 ss mrw hm h0 h1 hok hi hR
    rw [l_X6_prove_35] at hR
    refine j_iload_n C dX6_prove_35 36 rfl rfl 3 rfl ?_
    refine j_iload_n C dX6_prove_36 37 rfl rfl 2 rfl ?_
    refine j_icmp_ge C dX6_prove_37 105 rfl 40 rfl (fun c7 => ?_) (fun c7 => ?_)
    · rw [if_pos c7] at hR
      exact j_lv [0, 1, 2, 3] [(0, .ref (a 0)), (1, .int x1), (2, .int x2), (3, .int x3)] rfl (hE _ _ _  hR)
    · rw [if_neg c7] at hR
      have hs := cnt_step (B := 10) h0 (hx) (by decide) c7
      refine j_aload_n C dX6_prove_40 41 rfl rfl 0 rfl ?_
      refine j_get C dX6_prove_41 44 rfl hiX6 0 rfl rfl 13 (by decide) rfl kX6_prove_f28 rfl ?_
      refine j_iconst (v := 3) C dX6_prove_44 45 rfl (by decide) ?_
      refine j_iload_n C dX6_prove_45 46 rfl rfl 3 rfl ?_
      refine j_imul C dX6_prove_46 47 rfl ?_
      refine j_aload_n C dX6_prove_47 48 rfl rfl 0 rfl ?_
      refine j_iload_n C dX6_prove_48 49 rfl rfl 1 rfl ?_
      refine j_cv0I (na := 1) C dX6_prove_49 52 rfl (c_X6_sounds τ a ss mhd mas mbf mih mtp mtn mtk mfr mtt mvl miw mld mrw mrn mso msz mnu mhw mhh mhm mbo mrr mak man maa mip x1 (vpI hp (by have h8 := hok.2.1; omega)) (ok_bt hok hp hi)) gX6_prove_X6_sounds rfl rfl rfl qd_X6_sounds rfl ⟨by decide, by decide⟩ ⟨by decide, by decide⟩ rfl (Nat.le_of_ble_eq_true rfl) rfl 6 0 rfl rfl (fun r8 u8 hX8 hn8 => ?_)
      obtain rfl := (Prod.mk.inj hX8).1
      have J52 : ∀ (j52_0 : Int32), Φ (pr1 (f_X6_goes ss (1 : Int32) (0 : Int32)) (fun ss_10 => l_X6_prove_35 x1 x2 N (x3 + 1) ss_10 (upd (upd (upd mrw (((3 : Int32) * x3)).toNatClampNeg j52_0) ((((3 : Int32) * x3) + 1)).toNatClampNeg (ss_10 3)) ((((3 : Int32) * x3) + 2)).toNatClampNeg (f_X6_its ss_10 x1 (4 : Int32))))) → J τ κ 0 0 (wM τ a ss mhd mas mbf mih mtp mtn mtk mfr mtt mvl miw mld mrw mrn mso msz mnu mhw mhh mhm mbo mrr mak man maa mip) [(0, .ref (a 0)), (1, .int x1), (2, .int x2), (3, .int x3)] 60 [.int j52_0, .int ((3 : Int32) * x3), .ref (a 7)] := by
        intro j52_0  hR
        refine j_iast C dX6_prove_60 61 rfl 7 rfl (ix3m0 h0 hs.2.2.2) (((3 : Int32) * x3)).toNatClampNeg rfl (wM τ a ss mhd mas mbf mih mtp mtn mtk mfr mtt mvl miw mld (upd mrw (((3 : Int32) * x3)).toNatClampNeg j52_0) mrn mso msz mnu mhw mhh mhm mbo mrr mak man maa mip) rfl ?_
        refine j_aload_n C dX6_prove_61 62 rfl rfl 0 rfl ?_
        refine j_iconst (v := 1) C dX6_prove_62 63 rfl (by decide) ?_
        refine j_iconst (v := 0) C dX6_prove_63 64 rfl (by decide) ?_
        refine j_cv0V (na := 2) C dX6_prove_64 67 rfl (c_X6_goes τ a ss mhd mas mbf mih mtp mtn mtk mfr mtt mvl miw mld (upd mrw (((3 : Int32) * x3)).toNatClampNeg j52_0) mrn mso msz mnu mhw mhh mhm mbo mrr mak man maa mip (1 : Int32) (0 : Int32) hok (by decide)) gX6_prove_X6_goes rfl rfl rfl qd_X6_goes rfl ⟨by decide, by decide⟩ ⟨by decide, by decide⟩ rfl (Nat.le_of_ble_eq_true rfl) rfl 6 0 rfl rfl (fun u10 hX10 => ?_)
        obtain ⟨ss_10, rfl⟩ : ∃ z, z = u10 := ⟨_, rfl⟩
        rw [hX10] at hR; rw [pr1_mk ss_10] at hR
        have hok10 : okS ss_10 := by rw [← hX10]; exact ok_goes (by assumption)
        have hi10 : x1.toInt < (ss_10 0).toInt := by rw [← hX10, goes_n (by assumption)]; exact hi
        refine j_aload_n C dX6_prove_67 68 rfl rfl 0 rfl ?_
        refine j_get C dX6_prove_68 71 rfl hiX6 0 rfl rfl 13 (by decide) rfl kX6_prove_f28 rfl ?_
        refine j_iconst (v := 3) C dX6_prove_71 72 rfl (by decide) ?_
        refine j_iload_n C dX6_prove_72 73 rfl rfl 3 rfl ?_
        refine j_imul C dX6_prove_73 74 rfl ?_
        refine j_iconst (v := 1) C dX6_prove_74 75 rfl (by decide) ?_
        refine j_iadd C dX6_prove_75 76 rfl ?_
        refine j_aload_n C dX6_prove_76 77 rfl rfl 0 rfl ?_
        refine j_get C dX6_prove_77 80 rfl hiX6 0 rfl rfl 0 (by decide) rfl kX6_prove_f7 rfl ?_
        refine j_iconst (v := 3) C dX6_prove_80 81 rfl (by decide) ?_
        refine j_iald C dX6_prove_81 82 rfl 1 rfl (by unfold vp_in; decide) 3 rfl ?_
        refine j_iast C dX6_prove_82 83 rfl 7 rfl (ix3m h0 hs.2.2.2 (by decide)) ((((3 : Int32) * x3) + 1)).toNatClampNeg rfl (wM τ a ss_10 mhd mas mbf mih mtp mtn mtk mfr mtt mvl miw mld (upd (upd mrw (((3 : Int32) * x3)).toNatClampNeg j52_0) ((((3 : Int32) * x3) + 1)).toNatClampNeg (ss_10 3)) mrn mso msz mnu mhw mhh mhm mbo mrr mak man maa mip) rfl ?_
        refine j_aload_n C dX6_prove_83 84 rfl rfl 0 rfl ?_
        refine j_get C dX6_prove_84 87 rfl hiX6 0 rfl rfl 13 (by decide) rfl kX6_prove_f28 rfl ?_
        refine j_iconst (v := 3) C dX6_prove_87 88 rfl (by decide) ?_
        refine j_iload_n C dX6_prove_88 89 rfl rfl 3 rfl ?_
        refine j_imul C dX6_prove_89 90 rfl ?_
        refine j_iconst (v := 2) C dX6_prove_90 91 rfl (by decide) ?_
        refine j_iadd C dX6_prove_91 92 rfl ?_
        refine j_aload_n C dX6_prove_92 93 rfl rfl 0 rfl ?_
        refine j_iload_n C dX6_prove_93 94 rfl rfl 1 rfl ?_
        refine j_iconst (v := 4) C dX6_prove_94 95 rfl (by decide) ?_
        refine j_cv0I (na := 2) C dX6_prove_95 98 rfl (c_X6_its τ a ss_10 mhd mas mbf mih mtp mtn mtk mfr mtt mvl miw mld (upd (upd mrw (((3 : Int32) * x3)).toNatClampNeg j52_0) ((((3 : Int32) * x3) + 1)).toNatClampNeg (ss_10 3)) mrn mso msz mnu mhw mhh mhm mbo mrr mak man maa mip x1 (4 : Int32) (its_in (o := x1) (w := 4) (vpI hp (by have h8 := hok.2.1; omega)) (by decide))) gX6_prove_X6_its rfl rfl rfl qd_X6_its rfl ⟨by decide, by decide⟩ ⟨by decide, by decide⟩ rfl (Nat.le_of_ble_eq_true rfl) rfl 6 0 rfl rfl (fun r11 u11 hX11 hn11 => ?_)
        obtain rfl := (Prod.mk.inj hX11).1
        refine j_iast C dX6_prove_98 99 rfl 7 rfl (ix3m h0 hs.2.2.2 (by decide)) ((((3 : Int32) * x3) + 2)).toNatClampNeg rfl (wM τ a ss_10 mhd mas mbf mih mtp mtn mtk mfr mtt mvl miw mld (upd (upd (upd mrw (((3 : Int32) * x3)).toNatClampNeg j52_0) ((((3 : Int32) * x3) + 1)).toNatClampNeg (ss_10 3)) ((((3 : Int32) * x3) + 2)).toNatClampNeg (f_X6_its ss_10 x1 (4 : Int32))) mrn mso msz mnu mhw mhh mhm mbo mrr mak man maa mip) rfl ?_
        refine j_iinc (v := (x3 + 1)) C dX6_prove_99 102 rfl 3 rfl rfl (by decide) [(3, .int (x3 + 1)), (0, .ref (a 0)), (1, .int x1), (2, .int x2)] rfl ?_
        refine j_goto C dX6_prove_102 35 rfl ?_
        exact j_lv [1, 2, 3, 0] [(0, .ref (a 0)), (1, .int x1), (2, .int x2), (3, .int (x3 + 1))] rfl (ih _ _ _ (by have := hs.2.2.1; omega) hs.1 hs.2.1 (by assumption) (by assumption) hR)
      refine j_if_eq C dX6_prove_52 59 rfl 55 rfl (fun c9 => ?_) (fun c9 => ?_)
      · rw [if_pos c9] at hR
        refine j_iconst (v := 0) C dX6_prove_59 60 rfl (by decide) ?_
        rw [pr1_mk (0 : Int32)] at hR
        exact j_lv [0, 1, 2, 3] [(0, .ref (a 0)), (1, .int x1), (2, .int x2), (3, .int x3)] rfl (J52 _  hR)
      · rw [if_neg c9] at hR
        refine j_iconst (v := 1) C dX6_prove_55 56 rfl (by decide) ?_
        refine j_goto C dX6_prove_56 60 rfl ?_
        rw [pr1_mk (1 : Int32)] at hR
        exact j_lv [0, 1, 2, 3] [(0, .ref (a 0)), (1, .int x1), (2, .int x2), (3, .int x3)] rfl (J52 _  hR)
set_option maxHeartbeats 4000000 in
set_option maxRecDepth 100000 in
theorem c_X6_prove (τ : SX) (a : Nat → Nat) (ss : Nat → Int32) (mhd : Nat → Int32) (mas : Nat → Int32) (mbf : Nat → Int32) (mih : Int32) (mtp : Nat → Int32) (mtn : Int32) (mtk : Int32) (mfr : Int32) (mtt : Int32) (mvl : Int32) (miw : Int32) (mld : Nat → Int32) (mrw : Nat → Int32) (mrn : Int32) (mso : Nat → Int32) (msz : Nat → Int32) (mnu : Nat → Int32) (mhw : Nat → Int32) (mhh : Nat → Int32) (mhm : Nat → Int32) (mbo : Nat → Int32) (mrr : Int32) (mak : Int32) (man : Int32) (maa : Int32) (mip : Int32) (x1 : Int32) (x2 : Int32) (hok : okS ss) (sz : Nat) : McI τ yX6_prove wsX6_prove rmX6_prove .int [.ref (a 0), .int x1, .int x2] (wM τ a ss mhd mas mbf mih mtp mtn mtk mfr mtt mvl miw mld mrw mrn mso msz mnu mhw mhh mhm mbo mrr mak man maa mip) (fun u : (Nat → Int32) × (Nat → Int32) × (Nat → Int32) × Int32 => (wM τ a u.1 mhd u.2.1 mbf mih mtp mtn mtk mfr mtt mvl miw mld u.2.2.1 u.2.2.2 mso msz mnu mhw mhh mhm mbo mrr mak man maa mip)) (f_X6_prove ss mas mrw mrn x1 x2) sz := by
  refine mc_I (cc := cX6_prove) (own := RX6) [(0, .ref (a 0)), (1, .int x1), (2, .int x2)] rfl (by decide) rfl rfl (Nat.le_of_ble_eq_true rfl) (fun κ C hR => ?_)
  have hiX6 : ∀ w ∈ wsX60, w ∈ wsX6_prove := fun w h => List.mem_cons_of_mem _ (List.mem_append_right _ h)
  unfold f_X6_prove at hR
  refine j_aload_n C dX6_prove_0 1 rfl rfl 0 rfl ?_
  refine j_iload_n C dX6_prove_1 2 rfl rfl 1 rfl ?_
  refine j_cv0I (na := 1) C dX6_prove_2 5 rfl (c_X6_isOne τ a ss mhd mas mbf mih mtp mtn mtk mfr mtt mvl miw mld mrw mrn mso msz mnu mhw mhh mhm mbo mrr mak man maa mip x1 (by first | assumption | (unfold vp_in; decide) | decide)) gX6_prove_X6_isOne rfl rfl rfl qd_X6_isOne rfl ⟨by decide, by decide⟩ ⟨by decide, by decide⟩ rfl (Nat.le_of_ble_eq_true rfl) rfl 6 0 rfl rfl (fun r1 u1 hX1 hn1 => ?_)
  obtain rfl := (Prod.mk.inj hX1).1
  refine j_if_eq C dX6_prove_5 20 rfl 8 rfl (fun c2 => ?_) (fun c2 => ?_)
  · rw [if_pos c2] at hR
    refine j_iconst (v := (-1)) C dX6_prove_20 21 rfl (by decide) ?_
    exact Rt.ret (hR) rfl dX6_prove_21
  · rw [if_neg c2] at hR
    refine j_iload_n C dX6_prove_8 9 rfl rfl 2 rfl ?_
    refine j_i2l C dX6_prove_9 10 rfl ?_
    refine j_lconst (v := 1) C dX6_prove_10 11 rfl (by decide) ?_
    refine j_ldc2 C dX6_prove_11 14 rfl kX6_prove_c256 ?_
    refine j_cs0I (na := 3) C dX6_prove_14 17 rfl (c_X6_isIn τ  ((x2 : Int32).toInt64) (1 : Int64) (10 : Int64) ) rfl ggX6_prove_X6_isIn rfl rfl rfl kX6_prove_iRX6 kX6_prove_m57 kX6_prove_sX6_isIn qd_X6_isIn rfl ⟨by decide, by decide⟩ ⟨by decide, by decide⟩ rfl (Nat.le_of_ble_eq_true rfl) (fun r3 u3 hX3 hn3 => ?_)
    obtain rfl := (Prod.mk.inj hX3).1
    refine j_if_ne C dX6_prove_17 22 rfl 20 rfl (fun c4 => ?_) (fun c4 => ?_)
    · rw [if_neg c4] at hR
      refine j_aload_n C dX6_prove_22 23 rfl rfl 0 rfl ?_
      refine j_get C dX6_prove_23 26 rfl hiX6 0 rfl rfl 0 (by decide) rfl kX6_prove_f7 rfl ?_
      refine j_aload_n C dX6_prove_26 27 rfl rfl 0 rfl ?_
      refine j_get C dX6_prove_27 30 rfl hiX6 0 rfl rfl 2 (by decide) rfl kX6_prove_f16 rfl ?_
      refine j_csWV (na := 2) C dX6_prove_30 33 rfl (c_X6_copyRow__sa τ a ss mhd mas mbf mih mtp mtn mtk mfr mtt mvl miw mld mrw mrn mso msz mnu mhw mhh mhm mbo mrr mak man maa mip ) ggX6_prove_X6_copyRow rfl rfl rfl kX6_prove_iRX6 kX6_prove_m138 kX6_prove_sX6_copyRow qd_X6_copyRow__sa rfl ⟨by decide, by decide⟩ ⟨by decide, by decide⟩ rfl (Nat.le_of_ble_eq_true rfl) rfl (fun u5 hX5 => ?_)
      obtain ⟨mas_5, rfl⟩ : ∃ z, z = u5 := ⟨_, rfl⟩
      rw [hX5] at hR; rw [pr1_mk mas_5] at hR
      have hoka5 : okS mas_5 := by rw [← hX5]; exact ok_cp_sa (by assumption)
      refine j_iconst (v := 0) C dX6_prove_33 34 rfl (by decide) ?_
      refine j_istore_n C dX6_prove_34 35 rfl rfl (by decide) [(3, .int 0), (0, .ref (a 0)), (1, .int x1), (2, .int x2)] rfl ?_
      refine j_lv [1, 2, 3, 0] [(0, .ref (a 0)), (1, .int x1), (2, .int x2), (3, .int 0)] rfl (L_X6_prove_35 C a mhd mas_5 mbf mih mtp mtn mtk mfr mtt mvl miw mld mrn mso msz mnu mhw mhh mhm mbo mrr mak man maa mip x1 x2 (m_10 (x := x2) c4) ((m_oneI c2).1) (fun (o : Int32 × (Nat → Int32) × (Nat → Int32)) => Rt τ κ cX6_prove .int (fun u : (Nat → Int32) × (Nat → Int32) × (Nat → Int32) × Int32 => (wM τ a u.1 mhd u.2.1 mbf mih mtp mtn mtk mfr mtt mvl miw mld u.2.2.1 u.2.2.2 mso msz mnu mhw mhh mhm mbo mrr mak man maa mip)) (pr3 o (fun x3_6 ss_6 mrw_6 => pr1 (f_X6_copyRow__as ss_6 mas_5) (fun ss_12 => (x2, ss_12, mas_5, mrw_6, x2))))) (fun x3_6 ss_6 mrw_6  hR => ?_) 300 (0 : Int32) ss mrw (by decide) (by decide) (by decide) (by assumption) (m_oneI c2).2 hR)
      rw [pr3_mk x3_6 ss_6 mrw_6] at hR
      refine j_aload_n C dX6_prove_105 106 rfl rfl 0 rfl ?_
      refine j_get C dX6_prove_106 109 rfl hiX6 0 rfl rfl 2 (by decide) rfl kX6_prove_f16 rfl ?_
      refine j_aload_n C dX6_prove_109 110 rfl rfl 0 rfl ?_
      refine j_get C dX6_prove_110 113 rfl hiX6 0 rfl rfl 0 (by decide) rfl kX6_prove_f7 rfl ?_
      refine j_csWV (na := 2) C dX6_prove_113 116 rfl (c_X6_copyRow__as τ a ss_6 mhd mas_5 mbf mih mtp mtn mtk mfr mtt mvl miw mld mrw_6 mrn mso msz mnu mhw mhh mhm mbo mrr mak man maa mip ) ggX6_prove_X6_copyRow rfl rfl rfl kX6_prove_iRX6 kX6_prove_m138 kX6_prove_sX6_copyRow qd_X6_copyRow__as rfl ⟨by decide, by decide⟩ ⟨by decide, by decide⟩ rfl (Nat.le_of_ble_eq_true rfl) rfl (fun u12 hX12 => ?_)
      obtain ⟨ss_12, rfl⟩ : ∃ z, z = u12 := ⟨_, rfl⟩
      rw [hX12] at hR; rw [pr1_mk ss_12] at hR
      have hok12 : okS ss_12 := by rw [← hX12]; exact ok_cp_as (by assumption)
      refine j_aload_n C dX6_prove_116 117 rfl rfl 0 rfl ?_
      refine j_iload_n C dX6_prove_117 118 rfl rfl 2 rfl ?_
      refine j_put C dX6_prove_118 121 rfl hiX6 tyX6_ok nmX6 0 rfl rfl 14 (by decide) rfl kX6_prove_f145 rfl rfl rfl (Nat.le_of_ble_eq_true rfl) (wM τ a ss_12 mhd mas_5 mbf mih mtp mtn mtk mfr mtt mvl miw mld mrw_6 x2 mso msz mnu mhw mhh mhm mbo mrr mak man maa mip) rfl ?_
      refine j_iload_n C dX6_prove_121 122 rfl rfl 2 rfl ?_
      exact Rt.ret (hR) rfl dX6_prove_122
    · rw [if_pos c4] at hR
      refine j_iconst (v := (-1)) C dX6_prove_20 21 rfl (by decide) ?_
      exact Rt.ret (hR) rfl dX6_prove_21

-- X6_judge
def l_X6_judge_25 (mrw : Nat → Int32) (mrn : Int32) (x1 : Int32) : Nat → Int32 → Int32 → (Nat → Int32) → Int32 × Int32 × (Nat → Int32)
  | 0, x2, x3, ss => (x2, x3, ss)
  | N + 1, x2, x3, ss => if (mrn ≤ x2) then (x2, x3, ss) else (if (x3 = 0) then (x2, x3, ss) else (pr1 (if ((f_X6_sounds ss x1) = 0) then (0 : Int32) else (1 : Int32)) (fun j50_0 => pr1 (if ((mrw (((3 : Int32) * x2)).toNatClampNeg) = j50_0) then (1 : Int32) else (0 : Int32)) (fun j58_0 => pr1 (f_X6_goes ss (1 : Int32) (0 : Int32)) (fun ss_10 => pr1 (if (j58_0 = 0) then (0 : Int32) else (if ((mrw ((((3 : Int32) * x2) + 1)).toNatClampNeg) = (ss_10 3)) then (if ((mrw ((((3 : Int32) * x2) + 2)).toNatClampNeg) = (f_X6_its ss_10 x1 (4 : Int32))) then (1 : Int32) else (0 : Int32)) else (0 : Int32))) (fun j74_0 => l_X6_judge_25 mrw mrn x1 N (x2 + 1) j74_0 ss_10))))))
def f_X6_judge (ss : Nat → Int32) (mas : Nat → Int32) (mrw : Nat → Int32) (mrn : Int32) (x1 : Int32) : Int32 × (Nat → Int32) × (Nat → Int32) := if ((f_X6_isOne ss x1) = 0) then (((-1) : Int32), ss, mas) else (pr1 (f_X6_copyRow__sa ss mas) (fun mas_3 => pr3 (l_X6_judge_25 mrw mrn x1 300 (0 : Int32) (1 : Int32) ss) (fun x2_4 x3_4 ss_4 => pr1 (f_X6_copyRow__as ss_4 mas_3) (fun ss_15 => if (x3_4 = 0) then (x2_4, ss_15, mas_3) else ((0 : Int32), ss_15, mas_3)))))
theorem kX6_judge_f7 : Cond.fieldLink RX6 7 "TwoMinutesModel" "s" "[I" ∈ wsX6_judge := by decide +kernel
theorem kX6_judge_f16 : Cond.fieldLink RX6 16 "TwoMinutesModel" "aside" "[I" ∈ wsX6_judge := by decide +kernel
theorem kX6_judge_iRX6 : Cond.initialized yX6_copyRow.cls ∈ wsX6_judge := by decide +kernel
theorem kX6_judge_sX6_copyRow : Cond.static yX6_copyRow ∈ wsX6_judge := by decide +kernel
theorem kX6_judge_m138 : Cond.methodLink RX6 138 yX6_copyRow ∈ wsX6_judge := by decide +kernel
theorem kX6_judge_f145 : Cond.fieldLink RX6 145 "TwoMinutesModel" "rowN" "I" ∈ wsX6_judge := by decide +kernel
theorem kX6_judge_f28 : Cond.fieldLink RX6 28 "TwoMinutesModel" "rows" "[I" ∈ wsX6_judge := by decide +kernel
theorem qd_X6_judge : yX6_judge.cls = RX6 ∧ yX6_judge.cls ≠ "java/lang/invoke/MethodHandle" ∧ yX6_judge.cls ≠ "java/lang/invoke/VarHandle" ∧ (parseMethodDescriptor yX6_judge.desc).map (fun d => d.parameters.length) = some 1 := by decide +kernel
abbrev rmX6_judge : Room := { frames := 5, cells := 0, slots := 0, locals := 113 }
set_option maxHeartbeats 4000000 in
set_option maxRecDepth 100000 in
theorem L_X6_judge_25 {τ : SX} {κ : KX} (C : Cx τ κ cX6_judge RX6 wsX6_judge rmX6_judge 4) (a : Nat → Nat) (mhd : Nat → Int32) (mas : Nat → Int32) (mbf : Nat → Int32) (mih : Int32) (mtp : Nat → Int32) (mtn : Int32) (mtk : Int32) (mfr : Int32) (mtt : Int32) (mvl : Int32) (miw : Int32) (mld : Nat → Int32) (mrw : Nat → Int32) (mrn : Int32) (mso : Nat → Int32) (msz : Nat → Int32) (mnu : Nat → Int32) (mhw : Nat → Int32) (mhh : Nat → Int32) (mhm : Nat → Int32) (mbo : Nat → Int32) (mrr : Int32) (mak : Int32) (man : Int32) (maa : Int32) (mip : Int32) (x1 : Int32) (hr0 : 0 ≤ mrn.toInt) (hr : mrn.toInt ≤ 10) (hp : 0 ≤ x1.toInt) (Φ : Int32 × Int32 × (Nat → Int32) → Prop) (hE : ∀ (x2 : Int32) (x3 : Int32) (ss : Nat → Int32), Φ (x2, x3, ss) → J τ κ 0 0 (wM τ a ss mhd mas mbf mih mtp mtn mtk mfr mtt mvl miw mld mrw mrn mso msz mnu mhw mhh mhm mbo mrr mak man maa mip) [(0, .ref (a 0)), (1, .int x1), (2, .int x2), (3, .int x3)] 127 []) : ∀ (N : Nat) (x2 : Int32) (x3 : Int32) (ss : Nat → Int32), ((10 : Int) - x2.toInt).toNat < N → (0 ≤ x2.toInt) → (x2.toInt ≤ 10) → (okS ss) → (x1.toInt < (ss 0).toInt) → Φ (l_X6_judge_25 mrw mrn x1 N x2 x3 ss) → J τ κ 0 0 (wM τ a ss mhd mas mbf mih mtp mtn mtk mfr mtt mvl miw mld mrw mrn mso msz mnu mhw mhh mhm mbo mrr mak man maa mip) [(0, .ref (a 0)), (1, .int x1), (2, .int x2), (3, .int x3)] 25 [] := by
  have hiX6 : ∀ w ∈ wsX60, w ∈ wsX6_judge := fun w h => List.mem_cons_of_mem _ (List.mem_append_right _ h)
  intro N
  induction N with
  | zero => intro x2 x3 ss hm; exact absurd hm (Nat.not_lt_zero _)
  | succ N ih =>
    intro x2 x3 ss hm h0 h1 hok hi hR
    rw [l_X6_judge_25] at hR
    refine j_iload_n C dX6_judge_25 26 rfl rfl 2 rfl ?_
    refine j_aload_n C dX6_judge_26 27 rfl rfl 0 rfl ?_
    refine j_get C dX6_judge_27 30 rfl hiX6 0 rfl rfl 14 (by decide) rfl kX6_judge_f145 rfl ?_
    refine j_icmp_ge C dX6_judge_30 127 rfl 33 rfl (fun c5 => ?_) (fun c5 => ?_)
    · rw [if_pos c5] at hR
      exact j_lv [0, 1, 2, 3] [(0, .ref (a 0)), (1, .int x1), (2, .int x2), (3, .int x3)] rfl (hE _ _ _  hR)
    · rw [if_neg c5] at hR
      have hs := cnt_step (B := 10) h0 (hr) (by decide) c5
      refine j_iload_n C dX6_judge_33 34 rfl rfl 3 rfl ?_
      refine j_if_eq C dX6_judge_34 127 rfl 37 rfl (fun c6 => ?_) (fun c6 => ?_)
      · rw [if_pos c6] at hR
        exact j_lv [0, 1, 2, 3] [(0, .ref (a 0)), (1, .int x1), (2, .int x2), (3, .int x3)] rfl (hE _ _ _  hR)
      · rw [if_neg c6] at hR
        refine j_aload_n C dX6_judge_37 38 rfl rfl 0 rfl ?_
        refine j_get C dX6_judge_38 41 rfl hiX6 0 rfl rfl 13 (by decide) rfl kX6_judge_f28 rfl ?_
        refine j_iconst (v := 3) C dX6_judge_41 42 rfl (by decide) ?_
        refine j_iload_n C dX6_judge_42 43 rfl rfl 2 rfl ?_
        refine j_imul C dX6_judge_43 44 rfl ?_
        refine j_iald C dX6_judge_44 45 rfl 7 rfl (ix3m0 h0 hs.2.2.2) (((3 : Int32) * x2)).toNatClampNeg rfl ?_
        refine j_aload_n C dX6_judge_45 46 rfl rfl 0 rfl ?_
        refine j_iload_n C dX6_judge_46 47 rfl rfl 1 rfl ?_
        refine j_cv0I (na := 1) C dX6_judge_47 50 rfl (c_X6_sounds τ a ss mhd mas mbf mih mtp mtn mtk mfr mtt mvl miw mld mrw mrn mso msz mnu mhw mhh mhm mbo mrr mak man maa mip x1 (vpI hp (by have h8 := hok.2.1; omega)) (ok_bt hok hp hi)) gX6_judge_X6_sounds rfl rfl rfl qd_X6_sounds rfl ⟨by decide, by decide⟩ ⟨by decide, by decide⟩ rfl (Nat.le_of_ble_eq_true rfl) rfl 6 0 rfl rfl (fun r7 u7 hX7 hn7 => ?_)
        obtain rfl := (Prod.mk.inj hX7).1
        have J50 : ∀ (j50_0 : Int32), Φ (pr1 (if ((mrw (((3 : Int32) * x2)).toNatClampNeg) = j50_0) then (1 : Int32) else (0 : Int32)) (fun j58_0 => pr1 (f_X6_goes ss (1 : Int32) (0 : Int32)) (fun ss_10 => pr1 (if (j58_0 = 0) then (0 : Int32) else (if ((mrw ((((3 : Int32) * x2) + 1)).toNatClampNeg) = (ss_10 3)) then (if ((mrw ((((3 : Int32) * x2) + 2)).toNatClampNeg) = (f_X6_its ss_10 x1 (4 : Int32))) then (1 : Int32) else (0 : Int32)) else (0 : Int32))) (fun j74_0 => l_X6_judge_25 mrw mrn x1 N (x2 + 1) j74_0 ss_10)))) → J τ κ 0 0 (wM τ a ss mhd mas mbf mih mtp mtn mtk mfr mtt mvl miw mld mrw mrn mso msz mnu mhw mhh mhm mbo mrr mak man maa mip) [(0, .ref (a 0)), (1, .int x1), (2, .int x2), (3, .int x3)] 58 [.int j50_0, .int (mrw (((3 : Int32) * x2)).toNatClampNeg)] := by
          intro j50_0  hR
          have J58 : ∀ (j58_0 : Int32), Φ (pr1 (f_X6_goes ss (1 : Int32) (0 : Int32)) (fun ss_10 => pr1 (if (j58_0 = 0) then (0 : Int32) else (if ((mrw ((((3 : Int32) * x2) + 1)).toNatClampNeg) = (ss_10 3)) then (if ((mrw ((((3 : Int32) * x2) + 2)).toNatClampNeg) = (f_X6_its ss_10 x1 (4 : Int32))) then (1 : Int32) else (0 : Int32)) else (0 : Int32))) (fun j74_0 => l_X6_judge_25 mrw mrn x1 N (x2 + 1) j74_0 ss_10))) → J τ κ 0 0 (wM τ a ss mhd mas mbf mih mtp mtn mtk mfr mtt mvl miw mld mrw mrn mso msz mnu mhw mhh mhm mbo mrr mak man maa mip) [(0, .ref (a 0)), (1, .int x1), (2, .int x2), (3, .int x3)] 66 [.int j58_0] := by
            intro j58_0  hR
            refine j_istore_n C dX6_judge_66 67 rfl rfl (by decide) [(3, .int j58_0), (0, .ref (a 0)), (1, .int x1), (2, .int x2)] rfl ?_
            refine j_aload_n C dX6_judge_67 68 rfl rfl 1 rfl ?_
            refine j_iconst (v := 1) C dX6_judge_68 69 rfl (by decide) ?_
            refine j_iconst (v := 0) C dX6_judge_69 70 rfl (by decide) ?_
            refine j_cv0V (na := 2) C dX6_judge_70 73 rfl (c_X6_goes τ a ss mhd mas mbf mih mtp mtn mtk mfr mtt mvl miw mld mrw mrn mso msz mnu mhw mhh mhm mbo mrr mak man maa mip (1 : Int32) (0 : Int32) hok (by decide)) gX6_judge_X6_goes rfl rfl rfl qd_X6_goes rfl ⟨by decide, by decide⟩ ⟨by decide, by decide⟩ rfl (Nat.le_of_ble_eq_true rfl) rfl 6 0 rfl rfl (fun u10 hX10 => ?_)
            obtain ⟨ss_10, rfl⟩ : ∃ z, z = u10 := ⟨_, rfl⟩
            rw [hX10] at hR; rw [pr1_mk ss_10] at hR
            have hok10 : okS ss_10 := by rw [← hX10]; exact ok_goes (by assumption)
            have hi10 : x1.toInt < (ss_10 0).toInt := by rw [← hX10, goes_n (by assumption)]; exact hi
            refine j_iload_n C dX6_judge_73 74 rfl rfl 0 rfl ?_
            have J74 : ∀ (j74_0 : Int32), Φ (l_X6_judge_25 mrw mrn x1 N (x2 + 1) j74_0 ss_10) → J τ κ 0 0 (wM τ a ss_10 mhd mas mbf mih mtp mtn mtk mfr mtt mvl miw mld mrw mrn mso msz mnu mhw mhh mhm mbo mrr mak man maa mip) [(0, .ref (a 0)), (1, .int x1), (2, .int x2), (3, .int j58_0)] 120 [.int j74_0] := by
              intro j74_0  hR
              refine j_istore_n C dX6_judge_120 121 rfl rfl (by decide) [(3, .int j74_0), (0, .ref (a 0)), (1, .int x1), (2, .int x2)] rfl ?_
              refine j_iinc (v := (x2 + 1)) C dX6_judge_121 124 rfl 3 rfl rfl (by decide) [(2, .int (x2 + 1)), (3, .int j74_0), (0, .ref (a 0)), (1, .int x1)] rfl ?_
              refine j_goto C dX6_judge_124 25 rfl ?_
              exact j_lv [2, 3, 0, 1] [(0, .ref (a 0)), (1, .int x1), (2, .int (x2 + 1)), (3, .int j74_0)] rfl (ih _ _ _ (by have := hs.2.2.1; omega) hs.1 hs.2.1 (by assumption) (by assumption) hR)
            refine j_if_eq C dX6_judge_74 119 rfl 77 rfl (fun c11 => ?_) (fun c11 => ?_)
            · rw [if_pos c11] at hR
              refine j_iconst (v := 0) C dX6_judge_119 120 rfl (by decide) ?_
              rw [pr1_mk (0 : Int32)] at hR
              exact j_lv [1, 2, 3, 0] [(0, .ref (a 0)), (1, .int x1), (2, .int x2), (3, .int j58_0)] rfl (J74 _  hR)
            · rw [if_neg c11] at hR
              refine j_aload_n C dX6_judge_77 78 rfl rfl 1 rfl ?_
              refine j_get C dX6_judge_78 81 rfl hiX6 0 rfl rfl 13 (by decide) rfl kX6_judge_f28 rfl ?_
              refine j_iconst (v := 3) C dX6_judge_81 82 rfl (by decide) ?_
              refine j_iload_n C dX6_judge_82 83 rfl rfl 3 rfl ?_
              refine j_imul C dX6_judge_83 84 rfl ?_
              refine j_iconst (v := 1) C dX6_judge_84 85 rfl (by decide) ?_
              refine j_iadd C dX6_judge_85 86 rfl ?_
              refine j_iald C dX6_judge_86 87 rfl 7 rfl (ix3m h0 hs.2.2.2 (by decide)) ((((3 : Int32) * x2) + 1)).toNatClampNeg rfl ?_
              refine j_aload_n C dX6_judge_87 88 rfl rfl 1 rfl ?_
              refine j_get C dX6_judge_88 91 rfl hiX6 0 rfl rfl 0 (by decide) rfl kX6_judge_f7 rfl ?_
              refine j_iconst (v := 3) C dX6_judge_91 92 rfl (by decide) ?_
              refine j_iald C dX6_judge_92 93 rfl 1 rfl (by unfold vp_in; decide) 3 rfl ?_
              refine j_icmp_ne C dX6_judge_93 119 rfl 96 rfl (fun c12 => ?_) (fun c12 => ?_)
              · rw [if_neg c12] at hR
                refine j_iconst (v := 0) C dX6_judge_119 120 rfl (by decide) ?_
                rw [pr1_mk (0 : Int32)] at hR
                exact j_lv [1, 2, 3, 0] [(0, .ref (a 0)), (1, .int x1), (2, .int x2), (3, .int j58_0)] rfl (J74 _  hR)
              · rw [if_pos c12] at hR
                refine j_aload_n C dX6_judge_96 97 rfl rfl 1 rfl ?_
                refine j_get C dX6_judge_97 100 rfl hiX6 0 rfl rfl 13 (by decide) rfl kX6_judge_f28 rfl ?_
                refine j_iconst (v := 3) C dX6_judge_100 101 rfl (by decide) ?_
                refine j_iload_n C dX6_judge_101 102 rfl rfl 3 rfl ?_
                refine j_imul C dX6_judge_102 103 rfl ?_
                refine j_iconst (v := 2) C dX6_judge_103 104 rfl (by decide) ?_
                refine j_iadd C dX6_judge_104 105 rfl ?_
                refine j_iald C dX6_judge_105 106 rfl 7 rfl (ix3m h0 hs.2.2.2 (by decide)) ((((3 : Int32) * x2) + 2)).toNatClampNeg rfl ?_
                refine j_aload_n C dX6_judge_106 107 rfl rfl 1 rfl ?_
                refine j_iload_n C dX6_judge_107 108 rfl rfl 2 rfl ?_
                refine j_iconst (v := 4) C dX6_judge_108 109 rfl (by decide) ?_
                refine j_cv0I (na := 2) C dX6_judge_109 112 rfl (c_X6_its τ a ss_10 mhd mas mbf mih mtp mtn mtk mfr mtt mvl miw mld mrw mrn mso msz mnu mhw mhh mhm mbo mrr mak man maa mip x1 (4 : Int32) (its_in (o := x1) (w := 4) (vpI hp (by have h8 := hok.2.1; omega)) (by decide))) gX6_judge_X6_its rfl rfl rfl qd_X6_its rfl ⟨by decide, by decide⟩ ⟨by decide, by decide⟩ rfl (Nat.le_of_ble_eq_true rfl) rfl 6 0 rfl rfl (fun r13 u13 hX13 hn13 => ?_)
                obtain rfl := (Prod.mk.inj hX13).1
                refine j_icmp_ne C dX6_judge_112 119 rfl 115 rfl (fun c14 => ?_) (fun c14 => ?_)
                · rw [if_neg c14] at hR
                  refine j_iconst (v := 0) C dX6_judge_119 120 rfl (by decide) ?_
                  rw [pr1_mk (0 : Int32)] at hR
                  exact j_lv [1, 2, 3, 0] [(0, .ref (a 0)), (1, .int x1), (2, .int x2), (3, .int j58_0)] rfl (J74 _  hR)
                · rw [if_pos c14] at hR
                  refine j_iconst (v := 1) C dX6_judge_115 116 rfl (by decide) ?_
                  refine j_goto C dX6_judge_116 120 rfl ?_
                  rw [pr1_mk (1 : Int32)] at hR
                  exact j_lv [1, 2, 3, 0] [(0, .ref (a 0)), (1, .int x1), (2, .int x2), (3, .int j58_0)] rfl (J74 _  hR)
          refine j_icmp_ne C dX6_judge_58 65 rfl 61 rfl (fun c9 => ?_) (fun c9 => ?_)
          · rw [if_neg c9] at hR
            refine j_iconst (v := 0) C dX6_judge_65 66 rfl (by decide) ?_
            rw [pr1_mk (0 : Int32)] at hR
            exact j_lv [0, 1, 2, 3] [(0, .ref (a 0)), (1, .int x1), (2, .int x2), (3, .int x3)] rfl (J58 _  hR)
          · rw [if_pos c9] at hR
            refine j_iconst (v := 1) C dX6_judge_61 62 rfl (by decide) ?_
            refine j_goto C dX6_judge_62 66 rfl ?_
            rw [pr1_mk (1 : Int32)] at hR
            exact j_lv [0, 1, 2, 3] [(0, .ref (a 0)), (1, .int x1), (2, .int x2), (3, .int x3)] rfl (J58 _  hR)
        refine j_if_eq C dX6_judge_50 57 rfl 53 rfl (fun c8 => ?_) (fun c8 => ?_)
        · rw [if_pos c8] at hR
          refine j_iconst (v := 0) C dX6_judge_57 58 rfl (by decide) ?_
          rw [pr1_mk (0 : Int32)] at hR
          exact j_lv [0, 1, 2, 3] [(0, .ref (a 0)), (1, .int x1), (2, .int x2), (3, .int x3)] rfl (J50 _  hR)
        · rw [if_neg c8] at hR
          refine j_iconst (v := 1) C dX6_judge_53 54 rfl (by decide) ?_
          refine j_goto C dX6_judge_54 58 rfl ?_
          rw [pr1_mk (1 : Int32)] at hR
          exact j_lv [0, 1, 2, 3] [(0, .ref (a 0)), (1, .int x1), (2, .int x2), (3, .int x3)] rfl (J50 _  hR)
set_option maxHeartbeats 4000000 in
set_option maxRecDepth 100000 in
theorem c_X6_judge (τ : SX) (a : Nat → Nat) (ss : Nat → Int32) (mhd : Nat → Int32) (mas : Nat → Int32) (mbf : Nat → Int32) (mih : Int32) (mtp : Nat → Int32) (mtn : Int32) (mtk : Int32) (mfr : Int32) (mtt : Int32) (mvl : Int32) (miw : Int32) (mld : Nat → Int32) (mrw : Nat → Int32) (mrn : Int32) (mso : Nat → Int32) (msz : Nat → Int32) (mnu : Nat → Int32) (mhw : Nat → Int32) (mhh : Nat → Int32) (mhm : Nat → Int32) (mbo : Nat → Int32) (mrr : Int32) (mak : Int32) (man : Int32) (maa : Int32) (mip : Int32) (x1 : Int32) (hok : okS ss) (hr0 : 0 ≤ mrn.toInt) (hr : mrn.toInt ≤ 10) (sz : Nat) : McI τ yX6_judge wsX6_judge rmX6_judge .int [.ref (a 0), .int x1] (wM τ a ss mhd mas mbf mih mtp mtn mtk mfr mtt mvl miw mld mrw mrn mso msz mnu mhw mhh mhm mbo mrr mak man maa mip) (fun u : (Nat → Int32) × (Nat → Int32) => (wM τ a u.1 mhd u.2 mbf mih mtp mtn mtk mfr mtt mvl miw mld mrw mrn mso msz mnu mhw mhh mhm mbo mrr mak man maa mip)) (f_X6_judge ss mas mrw mrn x1) sz := by
  refine mc_I (cc := cX6_judge) (own := RX6) [(0, .ref (a 0)), (1, .int x1)] rfl (by decide) rfl rfl (Nat.le_of_ble_eq_true rfl) (fun κ C hR => ?_)
  have hiX6 : ∀ w ∈ wsX60, w ∈ wsX6_judge := fun w h => List.mem_cons_of_mem _ (List.mem_append_right _ h)
  unfold f_X6_judge at hR
  refine j_aload_n C dX6_judge_0 1 rfl rfl 0 rfl ?_
  refine j_iload_n C dX6_judge_1 2 rfl rfl 1 rfl ?_
  refine j_cv0I (na := 1) C dX6_judge_2 5 rfl (c_X6_isOne τ a ss mhd mas mbf mih mtp mtn mtk mfr mtt mvl miw mld mrw mrn mso msz mnu mhw mhh mhm mbo mrr mak man maa mip x1 (by first | assumption | (unfold vp_in; decide) | decide)) gX6_judge_X6_isOne rfl rfl rfl qd_X6_isOne rfl ⟨by decide, by decide⟩ ⟨by decide, by decide⟩ rfl (Nat.le_of_ble_eq_true rfl) rfl 6 0 rfl rfl (fun r1 u1 hX1 hn1 => ?_)
  obtain rfl := (Prod.mk.inj hX1).1
  refine j_if_ne C dX6_judge_5 10 rfl 8 rfl (fun c2 => ?_) (fun c2 => ?_)
  · rw [if_neg c2] at hR
    refine j_aload_n C dX6_judge_10 11 rfl rfl 0 rfl ?_
    refine j_get C dX6_judge_11 14 rfl hiX6 0 rfl rfl 0 (by decide) rfl kX6_judge_f7 rfl ?_
    refine j_aload_n C dX6_judge_14 15 rfl rfl 0 rfl ?_
    refine j_get C dX6_judge_15 18 rfl hiX6 0 rfl rfl 2 (by decide) rfl kX6_judge_f16 rfl ?_
    refine j_csWV (na := 2) C dX6_judge_18 21 rfl (c_X6_copyRow__sa τ a ss mhd mas mbf mih mtp mtn mtk mfr mtt mvl miw mld mrw mrn mso msz mnu mhw mhh mhm mbo mrr mak man maa mip ) ggX6_judge_X6_copyRow rfl rfl rfl kX6_judge_iRX6 kX6_judge_m138 kX6_judge_sX6_copyRow qd_X6_copyRow__sa rfl ⟨by decide, by decide⟩ ⟨by decide, by decide⟩ rfl (Nat.le_of_ble_eq_true rfl) rfl (fun u3 hX3 => ?_)
    obtain ⟨mas_3, rfl⟩ : ∃ z, z = u3 := ⟨_, rfl⟩
    rw [hX3] at hR; rw [pr1_mk mas_3] at hR
    have hoka3 : okS mas_3 := by rw [← hX3]; exact ok_cp_sa (by assumption)
    refine j_iconst (v := 0) C dX6_judge_21 22 rfl (by decide) ?_
    refine j_istore_n C dX6_judge_22 23 rfl rfl (by decide) [(2, .int 0), (0, .ref (a 0)), (1, .int x1)] rfl ?_
    refine j_iconst (v := 1) C dX6_judge_23 24 rfl (by decide) ?_
    refine j_istore_n C dX6_judge_24 25 rfl rfl (by decide) [(3, .int 1), (2, .int 0), (0, .ref (a 0)), (1, .int x1)] rfl ?_
    refine j_lv [2, 3, 1, 0] [(0, .ref (a 0)), (1, .int x1), (2, .int 0), (3, .int 1)] rfl (L_X6_judge_25 C a mhd mas_3 mbf mih mtp mtn mtk mfr mtt mvl miw mld mrw mrn mso msz mnu mhw mhh mhm mbo mrr mak man maa mip x1 hr0 hr ((m_oneI c2).1) (fun (o : Int32 × Int32 × (Nat → Int32)) => Rt τ κ cX6_judge .int (fun u : (Nat → Int32) × (Nat → Int32) => (wM τ a u.1 mhd u.2 mbf mih mtp mtn mtk mfr mtt mvl miw mld mrw mrn mso msz mnu mhw mhh mhm mbo mrr mak man maa mip)) (pr3 o (fun x2_4 x3_4 ss_4 => pr1 (f_X6_copyRow__as ss_4 mas_3) (fun ss_15 => if (x3_4 = 0) then (x2_4, ss_15, mas_3) else ((0 : Int32), ss_15, mas_3))))) (fun x2_4 x3_4 ss_4  hR => ?_) 300 (0 : Int32) (1 : Int32) ss (by decide) (by decide) (by decide) (by assumption) (m_oneI c2).2 hR)
    rw [pr3_mk x2_4 x3_4 ss_4] at hR
    refine j_aload_n C dX6_judge_127 128 rfl rfl 0 rfl ?_
    refine j_get C dX6_judge_128 131 rfl hiX6 0 rfl rfl 2 (by decide) rfl kX6_judge_f16 rfl ?_
    refine j_aload_n C dX6_judge_131 132 rfl rfl 0 rfl ?_
    refine j_get C dX6_judge_132 135 rfl hiX6 0 rfl rfl 0 (by decide) rfl kX6_judge_f7 rfl ?_
    refine j_csWV (na := 2) C dX6_judge_135 138 rfl (c_X6_copyRow__as τ a ss_4 mhd mas_3 mbf mih mtp mtn mtk mfr mtt mvl miw mld mrw mrn mso msz mnu mhw mhh mhm mbo mrr mak man maa mip ) ggX6_judge_X6_copyRow rfl rfl rfl kX6_judge_iRX6 kX6_judge_m138 kX6_judge_sX6_copyRow qd_X6_copyRow__as rfl ⟨by decide, by decide⟩ ⟨by decide, by decide⟩ rfl (Nat.le_of_ble_eq_true rfl) rfl (fun u15 hX15 => ?_)
    obtain ⟨ss_15, rfl⟩ : ∃ z, z = u15 := ⟨_, rfl⟩
    rw [hX15] at hR; rw [pr1_mk ss_15] at hR
    have hok15 : okS ss_15 := by rw [← hX15]; exact ok_cp_as (by assumption)
    refine j_iload_n C dX6_judge_138 139 rfl rfl 3 rfl ?_
    refine j_if_eq C dX6_judge_139 146 rfl 142 rfl (fun c16 => ?_) (fun c16 => ?_)
    · rw [if_pos c16] at hR
      refine j_iload_n C dX6_judge_146 147 rfl rfl 2 rfl ?_
      exact Rt.ret (hR) rfl dX6_judge_147
    · rw [if_neg c16] at hR
      refine j_iconst (v := 0) C dX6_judge_142 143 rfl (by decide) ?_
      refine j_goto C dX6_judge_143 147 rfl ?_
      exact Rt.ret (hR) rfl dX6_judge_147
  · rw [if_pos c2] at hR
    refine j_iconst (v := (-1)) C dX6_judge_8 9 rfl (by decide) ?_
    exact Rt.ret (hR) rfl dX6_judge_9

-- X6_minds
def l_X6_minds_98 (mnu : Nat → Int32) (x1 : Int32) (x2 : Int32) (x3 : Int32) (x4 : Int32) : Nat → Int32 → (Nat → Int32) → Int32 × (Nat → Int32)
  | 0, x5, ss => (x5, ss)
  | N + 1, x5, ss => if (x4 ≤ x5) then (x5, ss) else (l_X6_minds_98 mnu x1 x2 x3 x4 N (x5 + 1) (upd ss ((((10 : Int32) + ((5 : Int32) * (x3 + x5))) + 2)).toNatClampNeg (f_X6_within (mnu (((((40 : Int32) * x1) + x2) + x5)).toNatClampNeg))))
def f_X6_minds (ss : Nat → Int32) (mso : Nat → Int32) (msz : Nat → Int32) (mnu : Nat → Int32) (x1 : Int32) (x2 : Int32) (x3 : Int32) (x4 : Int32) : Int32 × (Nat → Int32) := if ((f_X6_isSheet x1) = 0) then (((-1) : Int32), ss) else (if ((f_X6_isOne ss x3) = 0) then (((-1) : Int32), ss) else (if ((f_X6_isIn ((x4 : Int32).toInt64) (0 : Int64) (8 : Int64)) = 0) then (((-1) : Int32), ss) else (if ((x3 + x4) ≤ (ss 0)) then (if ((f_X6_lacks mso x1 (0 : Int32)) = 0) then (if ((f_X6_isIn ((x2 : Int32).toInt64) (0 : Int64) (((msz (x1).toNatClampNeg) : Int32).toInt64)) = 0) then (((-12) : Int32), ss) else (if ((lg_cmp (((x2 : Int32).toInt64) + ((x4 : Int32).toInt64)) (((msz (x1).toNatClampNeg) : Int32).toInt64)) ≤ 0) then (pr2 (l_X6_minds_98 mnu x1 x2 x3 x4 300 (0 : Int32) ss) (fun x5_13 ss_13 => (x4, ss_13))) else (((-12) : Int32), ss))) else ((f_X6_lacks mso x1 (0 : Int32)), ss)) else (((-1) : Int32), ss))))
theorem kX6_minds_iRX6 : Cond.initialized yX6_within.cls ∈ wsX6_minds := by decide +kernel
theorem kX6_minds_sX6_isSheet : Cond.static yX6_isSheet ∈ wsX6_minds := by decide +kernel
theorem kX6_minds_m238 : Cond.methodLink RX6 238 yX6_isSheet ∈ wsX6_minds := by decide +kernel
theorem kX6_minds_c55 : Cond.constantLong RX6 55 8 ∈ wsX6_minds := by decide +kernel
theorem kX6_minds_sX6_isIn : Cond.static yX6_isIn ∈ wsX6_minds := by decide +kernel
theorem kX6_minds_m57 : Cond.methodLink RX6 57 yX6_isIn ∈ wsX6_minds := by decide +kernel
theorem kX6_minds_f7 : Cond.fieldLink RX6 7 "TwoMinutesModel" "s" "[I" ∈ wsX6_minds := by decide +kernel
theorem kX6_minds_f34 : Cond.fieldLink RX6 34 "TwoMinutesModel" "sizeOf" "[I" ∈ wsX6_minds := by decide +kernel
theorem kX6_minds_f37 : Cond.fieldLink RX6 37 "TwoMinutesModel" "numbers" "[I" ∈ wsX6_minds := by decide +kernel
theorem kX6_minds_sX6_within : Cond.static yX6_within ∈ wsX6_minds := by decide +kernel
theorem kX6_minds_m267 : Cond.methodLink RX6 267 yX6_within ∈ wsX6_minds := by decide +kernel
theorem qd_X6_minds : yX6_minds.cls = RX6 ∧ yX6_minds.cls ≠ "java/lang/invoke/MethodHandle" ∧ yX6_minds.cls ≠ "java/lang/invoke/VarHandle" ∧ (parseMethodDescriptor yX6_minds.desc).map (fun d => d.parameters.length) = some 4 := by decide +kernel
abbrev rmX6_minds : Room := { frames := 2, cells := 0, slots := 0, locals := 45 }
set_option maxHeartbeats 4000000 in
set_option maxRecDepth 100000 in
theorem L_X6_minds_98 {τ : SX} {κ : KX} (C : Cx τ κ cX6_minds RX6 wsX6_minds rmX6_minds 6) (a : Nat → Nat) (mhd : Nat → Int32) (mas : Nat → Int32) (mbf : Nat → Int32) (mih : Int32) (mtp : Nat → Int32) (mtn : Int32) (mtk : Int32) (mfr : Int32) (mtt : Int32) (mvl : Int32) (miw : Int32) (mld : Nat → Int32) (mrw : Nat → Int32) (mrn : Int32) (mso : Nat → Int32) (msz : Nat → Int32) (mnu : Nat → Int32) (mhw : Nat → Int32) (mhh : Nat → Int32) (mhm : Nat → Int32) (mbo : Nat → Int32) (mrr : Int32) (mak : Int32) (man : Int32) (maa : Int32) (mip : Int32) (x1 : Int32) (x2 : Int32) (x3 : Int32) (x4 : Int32) (hsz : ∀ i : Nat, 0 ≤ (msz i).toInt ∧ (msz i).toInt ≤ 40) (hv : vp_in x1 4) (hp : 0 ≤ x3.toInt ∧ x3.toInt + x4.toInt ≤ 8 ∧ x4.toInt ≤ 8) (hq : 0 ≤ x2.toInt ∧ x2.toInt + x4.toInt ≤ 40) (Φ : Int32 × (Nat → Int32) → Prop) (hE : ∀ (x5 : Int32) (ss : Nat → Int32), Φ (x5, ss) → J τ κ 0 0 (wM τ a ss mhd mas mbf mih mtp mtn mtk mfr mtt mvl miw mld mrw mrn mso msz mnu mhw mhh mhm mbo mrr mak man maa mip) [(0, .ref (a 0)), (1, .int x1), (2, .int x2), (3, .int x3), (4, .int x4), (5, .int x5)] 144 []) : ∀ (N : Nat) (x5 : Int32) (ss : Nat → Int32), ((8 : Int) - x5.toInt).toNat < N → (0 ≤ x5.toInt) → (x5.toInt ≤ 8) → Φ (l_X6_minds_98 mnu x1 x2 x3 x4 N x5 ss) → J τ κ 0 0 (wM τ a ss mhd mas mbf mih mtp mtn mtk mfr mtt mvl miw mld mrw mrn mso msz mnu mhw mhh mhm mbo mrr mak man maa mip) [(0, .ref (a 0)), (1, .int x1), (2, .int x2), (3, .int x3), (4, .int x4), (5, .int x5)] 98 [] := by
  have hiX6 : ∀ w ∈ wsX60, w ∈ wsX6_minds := fun w h => List.mem_cons_of_mem _ (List.mem_append_right _ h)
  intro N
  induction N with
  | zero => intro x5 ss hm; exact absurd hm (Nat.not_lt_zero _)
  | succ N ih =>
    intro x5 ss hm h0 h1 hR
    rw [l_X6_minds_98] at hR
    refine j_iload C dX6_minds_98 100 rfl 5 rfl ?_
    refine j_iload C dX6_minds_100 102 rfl 4 rfl ?_
    refine j_icmp_ge C dX6_minds_102 144 rfl 105 rfl (fun c14 => ?_) (fun c14 => ?_)
    · rw [if_pos c14] at hR
      exact j_lv [0, 1, 2, 3, 4, 5] [(0, .ref (a 0)), (1, .int x1), (2, .int x2), (3, .int x3), (4, .int x4), (5, .int x5)] rfl (hE _ _  hR)
    · rw [if_neg c14] at hR
      have hs := cnt_step (B := 8) h0 (by omega) (by decide) c14
      have hlt := mt i32_le.mpr c14
      refine j_aload_n C dX6_minds_105 106 rfl rfl 0 rfl ?_
      refine j_get C dX6_minds_106 109 rfl hiX6 0 rfl rfl 0 (by decide) rfl kX6_minds_f7 rfl ?_
      refine j_bipush (v := 10) C dX6_minds_109 111 rfl (by decide) ?_
      refine j_iconst (v := 5) C dX6_minds_111 112 rfl (by decide) ?_
      refine j_iload_n C dX6_minds_112 113 rfl rfl 3 rfl ?_
      refine j_iload C dX6_minds_113 115 rfl 5 rfl ?_
      refine j_iadd C dX6_minds_115 116 rfl ?_
      refine j_imul C dX6_minds_116 117 rfl ?_
      refine j_iadd C dX6_minds_117 118 rfl ?_
      refine j_iconst (v := 2) C dX6_minds_118 119 rfl (by decide) ?_
      refine j_iadd C dX6_minds_119 120 rfl ?_
      refine j_aload_n C dX6_minds_120 121 rfl rfl 0 rfl ?_
      refine j_get C dX6_minds_121 124 rfl hiX6 0 rfl rfl 17 (by decide) rfl kX6_minds_f37 rfl ?_
      refine j_bipush (v := 40) C dX6_minds_124 126 rfl (by decide) ?_
      refine j_iload_n C dX6_minds_126 127 rfl rfl 1 rfl ?_
      refine j_imul C dX6_minds_127 128 rfl ?_
      refine j_iload_n C dX6_minds_128 129 rfl rfl 2 rfl ?_
      refine j_iadd C dX6_minds_129 130 rfl ?_
      refine j_iload C dX6_minds_130 132 rfl 5 rfl ?_
      refine j_iadd C dX6_minds_132 133 rfl ?_
      refine j_iald C dX6_minds_133 134 rfl 10 rfl (nu_in3 hv hq.1 h0 (by omega)) (((((40 : Int32) * x1) + x2) + x5)).toNatClampNeg rfl ?_
      refine j_cs0I (na := 1) C dX6_minds_134 137 rfl (c_X6_within τ  (mnu (((((40 : Int32) * x1) + x2) + x5)).toNatClampNeg) ) rfl ggX6_minds_X6_within rfl rfl rfl kX6_minds_iRX6 kX6_minds_m267 kX6_minds_sX6_within qd_X6_within rfl ⟨by decide, by decide⟩ ⟨by decide, by decide⟩ rfl (Nat.le_of_ble_eq_true rfl) (fun r15 u15 hX15 hn15 => ?_)
      obtain rfl := (Prod.mk.inj hX15).1
      refine j_iast C dX6_minds_137 138 rfl 1 rfl (its_in (o := x3 + x5) (w := 2) (add8 hp.1 h0 (by omega)) (by decide)) ((((10 : Int32) + ((5 : Int32) * (x3 + x5))) + 2)).toNatClampNeg rfl (wM τ a (upd ss ((((10 : Int32) + ((5 : Int32) * (x3 + x5))) + 2)).toNatClampNeg (f_X6_within (mnu (((((40 : Int32) * x1) + x2) + x5)).toNatClampNeg))) mhd mas mbf mih mtp mtn mtk mfr mtt mvl miw mld mrw mrn mso msz mnu mhw mhh mhm mbo mrr mak man maa mip) rfl ?_
      refine j_iinc (v := (x5 + 1)) C dX6_minds_138 141 rfl 5 rfl rfl (by decide) [(5, .int (x5 + 1)), (0, .ref (a 0)), (1, .int x1), (2, .int x2), (3, .int x3), (4, .int x4)] rfl ?_
      refine j_goto C dX6_minds_141 98 rfl ?_
      exact j_lv [1, 2, 3, 4, 5, 0] [(0, .ref (a 0)), (1, .int x1), (2, .int x2), (3, .int x3), (4, .int x4), (5, .int (x5 + 1))] rfl (ih _ _ (by have := hs.2.2.1; omega) hs.1 hs.2.1 hR)
set_option maxHeartbeats 4000000 in
set_option maxRecDepth 100000 in
theorem c_X6_minds (τ : SX) (a : Nat → Nat) (ss : Nat → Int32) (mhd : Nat → Int32) (mas : Nat → Int32) (mbf : Nat → Int32) (mih : Int32) (mtp : Nat → Int32) (mtn : Int32) (mtk : Int32) (mfr : Int32) (mtt : Int32) (mvl : Int32) (miw : Int32) (mld : Nat → Int32) (mrw : Nat → Int32) (mrn : Int32) (mso : Nat → Int32) (msz : Nat → Int32) (mnu : Nat → Int32) (mhw : Nat → Int32) (mhh : Nat → Int32) (mhm : Nat → Int32) (mbo : Nat → Int32) (mrr : Int32) (mak : Int32) (man : Int32) (maa : Int32) (mip : Int32) (x1 : Int32) (x2 : Int32) (x3 : Int32) (x4 : Int32) (hok : okS ss) (hsz : ∀ i : Nat, 0 ≤ (msz i).toInt ∧ (msz i).toInt ≤ 40) (sz : Nat) : McI τ yX6_minds wsX6_minds rmX6_minds .int [.ref (a 0), .int x1, .int x2, .int x3, .int x4] (wM τ a ss mhd mas mbf mih mtp mtn mtk mfr mtt mvl miw mld mrw mrn mso msz mnu mhw mhh mhm mbo mrr mak man maa mip) (fun u : (Nat → Int32) => (wM τ a u mhd mas mbf mih mtp mtn mtk mfr mtt mvl miw mld mrw mrn mso msz mnu mhw mhh mhm mbo mrr mak man maa mip)) (f_X6_minds ss mso msz mnu x1 x2 x3 x4) sz := by
  refine mc_I (cc := cX6_minds) (own := RX6) [(0, .ref (a 0)), (1, .int x1), (2, .int x2), (3, .int x3), (4, .int x4)] rfl (by decide) rfl rfl (Nat.le_of_ble_eq_true rfl) (fun κ C hR => ?_)
  have hiX6 : ∀ w ∈ wsX60, w ∈ wsX6_minds := fun w h => List.mem_cons_of_mem _ (List.mem_append_right _ h)
  unfold f_X6_minds at hR
  refine j_iload_n C dX6_minds_0 1 rfl rfl 1 rfl ?_
  refine j_cs0I (na := 1) C dX6_minds_1 4 rfl (c_X6_isSheet τ  x1 ) rfl ggX6_minds_X6_isSheet rfl rfl rfl kX6_minds_iRX6 kX6_minds_m238 kX6_minds_sX6_isSheet qd_X6_isSheet rfl ⟨by decide, by decide⟩ ⟨by decide, by decide⟩ rfl (Nat.le_of_ble_eq_true rfl) (fun r1 u1 hX1 hn1 => ?_)
  obtain rfl := (Prod.mk.inj hX1).1
  refine j_if_eq C dX6_minds_4 41 rfl 7 rfl (fun c2 => ?_) (fun c2 => ?_)
  · rw [if_pos c2] at hR
    refine j_iconst (v := (-1)) C dX6_minds_41 42 rfl (by decide) ?_
    exact Rt.ret (hR) rfl dX6_minds_42
  · rw [if_neg c2] at hR
    refine j_aload_n C dX6_minds_7 8 rfl rfl 0 rfl ?_
    refine j_iload_n C dX6_minds_8 9 rfl rfl 3 rfl ?_
    refine j_cv0I (na := 1) C dX6_minds_9 12 rfl (c_X6_isOne τ a ss mhd mas mbf mih mtp mtn mtk mfr mtt mvl miw mld mrw mrn mso msz mnu mhw mhh mhm mbo mrr mak man maa mip x3 (by first | assumption | (unfold vp_in; decide) | decide)) gX6_minds_X6_isOne rfl rfl rfl qd_X6_isOne rfl ⟨by decide, by decide⟩ ⟨by decide, by decide⟩ rfl (Nat.le_of_ble_eq_true rfl) rfl 6 0 rfl rfl (fun r3 u3 hX3 hn3 => ?_)
    obtain rfl := (Prod.mk.inj hX3).1
    refine j_if_eq C dX6_minds_12 41 rfl 15 rfl (fun c4 => ?_) (fun c4 => ?_)
    · rw [if_pos c4] at hR
      refine j_iconst (v := (-1)) C dX6_minds_41 42 rfl (by decide) ?_
      exact Rt.ret (hR) rfl dX6_minds_42
    · rw [if_neg c4] at hR
      refine j_iload C dX6_minds_15 17 rfl 4 rfl ?_
      refine j_i2l C dX6_minds_17 18 rfl ?_
      refine j_lconst (v := 0) C dX6_minds_18 19 rfl (by decide) ?_
      refine j_ldc2 C dX6_minds_19 22 rfl kX6_minds_c55 ?_
      refine j_cs0I (na := 3) C dX6_minds_22 25 rfl (c_X6_isIn τ  ((x4 : Int32).toInt64) (0 : Int64) (8 : Int64) ) rfl ggX6_minds_X6_isIn rfl rfl rfl kX6_minds_iRX6 kX6_minds_m57 kX6_minds_sX6_isIn qd_X6_isIn rfl ⟨by decide, by decide⟩ ⟨by decide, by decide⟩ rfl (Nat.le_of_ble_eq_true rfl) (fun r5 u5 hX5 hn5 => ?_)
      obtain rfl := (Prod.mk.inj hX5).1
      refine j_if_eq C dX6_minds_25 41 rfl 28 rfl (fun c6 => ?_) (fun c6 => ?_)
      · rw [if_pos c6] at hR
        refine j_iconst (v := (-1)) C dX6_minds_41 42 rfl (by decide) ?_
        exact Rt.ret (hR) rfl dX6_minds_42
      · rw [if_neg c6] at hR
        refine j_iload_n C dX6_minds_28 29 rfl rfl 3 rfl ?_
        refine j_iload C dX6_minds_29 31 rfl 4 rfl ?_
        refine j_iadd C dX6_minds_31 32 rfl ?_
        refine j_aload_n C dX6_minds_32 33 rfl rfl 0 rfl ?_
        refine j_get C dX6_minds_33 36 rfl hiX6 0 rfl rfl 0 (by decide) rfl kX6_minds_f7 rfl ?_
        refine j_iconst (v := 0) C dX6_minds_36 37 rfl (by decide) ?_
        refine j_iald C dX6_minds_37 38 rfl 1 rfl (by unfold vp_in; decide) 0 rfl ?_
        refine j_icmp_le C dX6_minds_38 43 rfl 41 rfl (fun c7 => ?_) (fun c7 => ?_)
        · rw [if_pos c7] at hR
          refine j_aload_n C dX6_minds_43 44 rfl rfl 0 rfl ?_
          refine j_iload_n C dX6_minds_44 45 rfl rfl 1 rfl ?_
          refine j_iconst (v := 0) C dX6_minds_45 46 rfl (by decide) ?_
          refine j_cv0I (na := 2) C dX6_minds_46 49 rfl (c_X6_lacks τ a ss mhd mas mbf mih mtp mtn mtk mfr mtt mvl miw mld mrw mrn mso msz mnu mhw mhh mhm mbo mrr mak man maa mip x1 (0 : Int32) (in_sh6 c2)) gX6_minds_X6_lacks rfl rfl rfl qd_X6_lacks rfl ⟨by decide, by decide⟩ ⟨by decide, by decide⟩ rfl (Nat.le_of_ble_eq_true rfl) rfl 6 0 rfl rfl (fun r8 u8 hX8 hn8 => ?_)
          obtain rfl := (Prod.mk.inj hX8).1
          refine j_if_eq C dX6_minds_49 59 rfl 52 rfl (fun c9 => ?_) (fun c9 => ?_)
          · rw [if_pos c9] at hR
            refine j_iload_n C dX6_minds_59 60 rfl rfl 2 rfl ?_
            refine j_i2l C dX6_minds_60 61 rfl ?_
            refine j_lconst (v := 0) C dX6_minds_61 62 rfl (by decide) ?_
            refine j_aload_n C dX6_minds_62 63 rfl rfl 0 rfl ?_
            refine j_get C dX6_minds_63 66 rfl hiX6 0 rfl rfl 16 (by decide) rfl kX6_minds_f34 rfl ?_
            refine j_iload_n C dX6_minds_66 67 rfl rfl 1 rfl ?_
            refine j_iald C dX6_minds_67 68 rfl 9 rfl (in_sh6 c2) (x1).toNatClampNeg rfl ?_
            refine j_i2l C dX6_minds_68 69 rfl ?_
            refine j_cs0I (na := 3) C dX6_minds_69 72 rfl (c_X6_isIn τ  ((x2 : Int32).toInt64) (0 : Int64) (((msz (x1).toNatClampNeg) : Int32).toInt64) ) rfl ggX6_minds_X6_isIn rfl rfl rfl kX6_minds_iRX6 kX6_minds_m57 kX6_minds_sX6_isIn qd_X6_isIn rfl ⟨by decide, by decide⟩ ⟨by decide, by decide⟩ rfl (Nat.le_of_ble_eq_true rfl) (fun r10 u10 hX10 hn10 => ?_)
            obtain rfl := (Prod.mk.inj hX10).1
            refine j_if_eq C dX6_minds_72 92 rfl 75 rfl (fun c11 => ?_) (fun c11 => ?_)
            · rw [if_pos c11] at hR
              refine j_bipush (v := (-12)) C dX6_minds_92 94 rfl (by decide) ?_
              exact Rt.ret (hR) rfl dX6_minds_94
            · rw [if_neg c11] at hR
              refine j_iload_n C dX6_minds_75 76 rfl rfl 2 rfl ?_
              refine j_i2l C dX6_minds_76 77 rfl ?_
              refine j_iload C dX6_minds_77 79 rfl 4 rfl ?_
              refine j_i2l C dX6_minds_79 80 rfl ?_
              refine j_ladd C dX6_minds_80 81 rfl ?_
              refine j_aload_n C dX6_minds_81 82 rfl rfl 0 rfl ?_
              refine j_get C dX6_minds_82 85 rfl hiX6 0 rfl rfl 16 (by decide) rfl kX6_minds_f34 rfl ?_
              refine j_iload_n C dX6_minds_85 86 rfl rfl 1 rfl ?_
              refine j_iald C dX6_minds_86 87 rfl 9 rfl (in_sh6 c2) (x1).toNatClampNeg rfl ?_
              refine j_i2l C dX6_minds_87 88 rfl ?_
              refine j_lcmp C dX6_minds_88 89 rfl ?_
              refine j_if_le C dX6_minds_89 95 rfl 92 rfl (fun c12 => ?_) (fun c12 => ?_)
              · rw [if_pos c12] at hR
                refine j_iconst (v := 0) C dX6_minds_95 96 rfl (by decide) ?_
                refine j_istore C dX6_minds_96 98 rfl (by decide) [(5, .int 0), (0, .ref (a 0)), (1, .int x1), (2, .int x2), (3, .int x3), (4, .int x4)] rfl ?_
                refine j_lv [1, 2, 3, 4, 5, 0] [(0, .ref (a 0)), (1, .int x1), (2, .int x2), (3, .int x3), (4, .int x4), (5, .int 0)] rfl (L_X6_minds_98 C a mhd mas mbf mih mtp mtn mtk mfr mtt mvl miw mld mrw mrn mso msz mnu mhw mhh mhm mbo mrr mak man maa mip x1 x2 x3 x4 hsz (in_sh6 c2) (mi_a (m_oneI c4) c6 c7 hok.2.1) (mi_b c11 c6 c12 (hsz _)) (fun (o : Int32 × (Nat → Int32)) => Rt τ κ cX6_minds .int (fun u : (Nat → Int32) => (wM τ a u mhd mas mbf mih mtp mtn mtk mfr mtt mvl miw mld mrw mrn mso msz mnu mhw mhh mhm mbo mrr mak man maa mip)) (pr2 o (fun x5_13 ss_13 => (x4, ss_13)))) (fun x5_13 ss_13  hR => ?_) 300 (0 : Int32) ss (by decide) (by decide) (by decide) hR)
                rw [pr2_mk x5_13 ss_13] at hR
                refine j_iload C dX6_minds_144 146 rfl 4 rfl ?_
                exact Rt.ret (hR) rfl dX6_minds_146
              · rw [if_neg c12] at hR
                refine j_bipush (v := (-12)) C dX6_minds_92 94 rfl (by decide) ?_
                exact Rt.ret (hR) rfl dX6_minds_94
          · rw [if_neg c9] at hR
            refine j_aload_n C dX6_minds_52 53 rfl rfl 0 rfl ?_
            refine j_iload_n C dX6_minds_53 54 rfl rfl 1 rfl ?_
            refine j_iconst (v := 0) C dX6_minds_54 55 rfl (by decide) ?_
            refine j_cv0I (na := 2) C dX6_minds_55 58 rfl (c_X6_lacks τ a ss mhd mas mbf mih mtp mtn mtk mfr mtt mvl miw mld mrw mrn mso msz mnu mhw mhh mhm mbo mrr mak man maa mip x1 (0 : Int32) (in_sh6 c2)) gX6_minds_X6_lacks rfl rfl rfl qd_X6_lacks rfl ⟨by decide, by decide⟩ ⟨by decide, by decide⟩ rfl (Nat.le_of_ble_eq_true rfl) rfl 6 0 rfl rfl (fun r16 u16 hX16 hn16 => ?_)
            obtain rfl := (Prod.mk.inj hX16).1
            exact Rt.ret (hR) rfl dX6_minds_58
        · rw [if_neg c7] at hR
          refine j_iconst (v := (-1)) C dX6_minds_41 42 rfl (by decide) ?_
          exact Rt.ret (hR) rfl dX6_minds_42

