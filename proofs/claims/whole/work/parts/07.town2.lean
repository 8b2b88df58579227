-- X4_passByDraws
def f_X4_passByDraws (lw : Nat → Int32) (kd : Nat → Int32) (bt : Nat → Int32) (ph : Nat → Int32) (cn : Nat → Int32) (no : Nat → Int32) (ct : Int32) (sc : Int32) (rn : Int32) (lg : Int32) (dn : Int32) (zz : Int32) : (Nat → Int32) × Int32 × Int32 × Int32 × Int32 × Int32 := pr2 (if (ct ≤ 0) then ((0 : Int32), zz) else (pr2 (f_X4_draw zz) (fun r2 zz_2 => pr2 (f_X4_draw zz_2) (fun r3 zz_3 => if ((lw 3) ≤ (r3 - r3 / 100 * 100)) then ((0 : Int32), zz_3) else (((1 : Int32) <<< ((r2 - r2 / ct * ct) &&& 31)), zz_3))))) (fun j6_0 j6_1 => pr1 (f_X4_hear lw kd ph cn no ct ((f_X4_soundingSet lw kd bt ph ct sc rn) ||| j6_0)) (fun no_6 => pr4 (f_X4_endSecond lw sc rn lg dn ((f_X4_soundingSet lw kd bt ph ct sc rn) ||| j6_0)) (fun sc_7 rn_7 lg_7 dn_7 => (no_6, sc_7, rn_7, lg_7, dn_7, j6_1))))
theorem kX4_passByDraws_f46 : Cond.fieldLink RX4 46 "TwoMinutes$Town" "count" "I" ∈ wsX4_passByDraws := by decide +kernel
theorem kX4_passByDraws_f9 : Cond.fieldLink RX4 9 "TwoMinutes$Town" "laws" "[I" ∈ wsX4_passByDraws := by decide +kernel
theorem qd_X4_passByDraws : yX4_passByDraws.cls = RX4 ∧ yX4_passByDraws.cls ≠ "java/lang/invoke/MethodHandle" ∧ yX4_passByDraws.cls ≠ "java/lang/invoke/VarHandle" ∧ (parseMethodDescriptor yX4_passByDraws.desc).map (fun d => d.parameters.length) = some 0 := by decide +kernel
abbrev rmX4_passByDraws : Room := { frames := 4, cells := 0, slots := 0, locals := 86 }
set_option maxHeartbeats 4000000 in
set_option maxRecDepth 100000 in
theorem c_X4_passByDraws (τ : SX) (a : Nat → Nat) (lw : Nat → Int32) (kd : Nat → Int32) (bt : Nat → Int32) (ph : Nat → Int32) (cn : Nat → Int32) (no : Nat → Int32) (ct : Int32) (sc : Int32) (rn : Int32) (lg : Int32) (dn : Int32) (zz : Int32) (hct : ct.toInt ≤ 8) (sz : Nat) : McV τ yX4_passByDraws wsX4_passByDraws rmX4_passByDraws [.ref (a 0)] (wT τ a lw kd bt ph cn no ct sc rn lg dn zz) (fun u : (Nat → Int32) × Int32 × Int32 × Int32 × Int32 × Int32 => (wT τ a lw kd bt ph cn u.1 ct u.2.1 u.2.2.1 u.2.2.2.1 u.2.2.2.2.1 u.2.2.2.2.2)) (f_X4_passByDraws lw kd bt ph cn no ct sc rn lg dn zz) 0 0 sz := by
  refine mc_V (cc := cX4_passByDraws) (own := RX4) [(0, .ref (a 0))] rfl (by decide) rfl rfl (Nat.le_of_ble_eq_true rfl) (fun κ C _ hR => ?_)
  have hiX4 : ∀ w ∈ wsX40, w ∈ wsX4_passByDraws := fun w h => List.mem_cons_of_mem _ (List.mem_append_right _ h)
  unfold f_X4_passByDraws at hR
  refine j_iconst (v := 0) C dX4_passByDraws_0 1 rfl (by decide) ?_
  refine j_istore_n C dX4_passByDraws_1 2 rfl rfl (by decide) [(1, .int 0), (0, .ref (a 0))] rfl ?_
  refine j_aload_n C dX4_passByDraws_2 3 rfl rfl 1 rfl ?_
  refine j_get C dX4_passByDraws_3 6 rfl hiX4 0 rfl rfl 6 (by decide) rfl kX4_passByDraws_f46 rfl ?_
  have J6 : ∀ (j6_0 : Int32) (j6_1 : Int32), RtV τ κ cX4_passByDraws 0 0 (fun u : (Nat → Int32) × Int32 × Int32 × Int32 × Int32 × Int32 => (wT τ a lw kd bt ph cn u.1 ct u.2.1 u.2.2.1 u.2.2.2.1 u.2.2.2.2.1 u.2.2.2.2.2)) (pr1 (f_X4_hear lw kd ph cn no ct ((f_X4_soundingSet lw kd bt ph ct sc rn) ||| j6_0)) (fun no_6 => pr4 (f_X4_endSecond lw sc rn lg dn ((f_X4_soundingSet lw kd bt ph ct sc rn) ||| j6_0)) (fun sc_7 rn_7 lg_7 dn_7 => (no_6, sc_7, rn_7, lg_7, dn_7, j6_1)))) → J τ κ 0 0 (wT τ a lw kd bt ph cn no ct sc rn lg dn j6_1) [(0, .ref (a 0)), (1, .int j6_0)] 39 [] := by
    intro j6_0 j6_1  hR
    refine j_aload_n C dX4_passByDraws_39 40 rfl rfl 0 rfl ?_
    refine j_cv0I (na := 0) C dX4_passByDraws_40 43 rfl (c_X4_soundingSet τ a lw kd bt ph cn no ct sc rn lg dn j6_1 (by first | assumption | exact vp_in_iff.mpr ⟨by omega, by omega⟩ | exact nz_nle (by assumption) | exact nz_lt (by assumption) | omega)) gX4_passByDraws_X4_soundingSet rfl rfl rfl qd_X4_soundingSet rfl ⟨by decide, by decide⟩ ⟨by decide, by decide⟩ rfl (Nat.le_of_ble_eq_true rfl) rfl 4 0 rfl rfl (fun r5 u5 hX5 hn5 => ?_)
    obtain rfl := (Prod.mk.inj hX5).1
    refine j_iload_n C dX4_passByDraws_43 44 rfl rfl 1 rfl ?_
    refine j_ior C dX4_passByDraws_44 45 rfl ?_
    refine j_istore_n C dX4_passByDraws_45 46 rfl rfl (by decide) [(2, .int ((f_X4_soundingSet lw kd bt ph ct sc rn) ||| j6_0)), (0, .ref (a 0)), (1, .int j6_0)] rfl ?_
    refine j_aload_n C dX4_passByDraws_46 47 rfl rfl 1 rfl ?_
    refine j_iload_n C dX4_passByDraws_47 48 rfl rfl 0 rfl ?_
    refine j_cv0V (na := 1) C dX4_passByDraws_48 51 rfl (c_X4_hear τ a lw kd bt ph cn no ct sc rn lg dn j6_1 ((f_X4_soundingSet lw kd bt ph ct sc rn) ||| j6_0) (by first | assumption | exact vp_in_iff.mpr ⟨by omega, by omega⟩ | exact nz_nle (by assumption) | exact nz_lt (by assumption) | omega)) gX4_passByDraws_X4_hear rfl rfl rfl qd_X4_hear rfl ⟨by decide, by decide⟩ ⟨by decide, by decide⟩ rfl (Nat.le_of_ble_eq_true rfl) rfl 4 0 rfl rfl (fun u6 hX6 => ?_)
    obtain ⟨no_6, rfl⟩ : ∃ z, z = u6 := ⟨_, rfl⟩
    rw [hX6] at hR; rw [pr1_mk no_6] at hR
    refine j_aload_n C dX4_passByDraws_51 52 rfl rfl 1 rfl ?_
    refine j_iload_n C dX4_passByDraws_52 53 rfl rfl 0 rfl ?_
    refine j_cv0V (na := 1) C dX4_passByDraws_53 56 rfl (c_X4_endSecond τ a lw kd bt ph cn no_6 ct sc rn lg dn j6_1 ((f_X4_soundingSet lw kd bt ph ct sc rn) ||| j6_0) ) gX4_passByDraws_X4_endSecond rfl rfl rfl qd_X4_endSecond rfl ⟨by decide, by decide⟩ ⟨by decide, by decide⟩ rfl (Nat.le_of_ble_eq_true rfl) rfl 4 0 rfl rfl (fun u7 hX7 => ?_)
    obtain ⟨sc_7, rn_7, lg_7, dn_7⟩ := u7
    rw [hX7] at hR; rw [pr4_mk sc_7 rn_7 lg_7 dn_7] at hR
    exact hR _ _ dX4_passByDraws_56
  refine j_if_le C dX4_passByDraws_6 39 rfl 9 rfl (fun c1 => ?_) (fun c1 => ?_)
  · rw [if_pos c1] at hR
    rw [pr2_mk (0 : Int32) zz] at hR
    exact j_lv [1, 0] [(0, .ref (a 0)), (1, .int 0)] rfl (J6 _ _  hR)
  · rw [if_neg c1] at hR
    refine j_aload_n C dX4_passByDraws_9 10 rfl rfl 1 rfl ?_
    refine j_cv0I (na := 0) C dX4_passByDraws_10 13 rfl (c_X4_draw τ a lw kd bt ph cn no ct sc rn lg dn zz ) gX4_passByDraws_X4_draw rfl rfl rfl qd_X4_draw rfl ⟨by decide, by decide⟩ ⟨by decide, by decide⟩ rfl (Nat.le_of_ble_eq_true rfl) rfl 4 0 rfl rfl (fun r2 u2 hX2 hn2 => ?_)
    obtain ⟨zz_2, rfl⟩ : ∃ z, z = u2 := ⟨_, rfl⟩
    rw [hX2] at hR; rw [pr2_mk r2 zz_2] at hR
    refine j_aload_n C dX4_passByDraws_13 14 rfl rfl 1 rfl ?_
    refine j_get C dX4_passByDraws_14 17 rfl hiX4 0 rfl rfl 6 (by decide) rfl kX4_passByDraws_f46 rfl ?_
    refine j_irem C dX4_passByDraws_17 18 rfl (by first | assumption | exact vp_in_iff.mpr ⟨by omega, by omega⟩ | exact nz_nle (by assumption) | exact nz_lt (by assumption) | omega) ?_
    refine j_istore_n C dX4_passByDraws_18 19 rfl rfl (by decide) [(2, .int (r2 - r2 / ct * ct)), (1, .int 0), (0, .ref (a 0))] rfl ?_
    refine j_aload_n C dX4_passByDraws_19 20 rfl rfl 2 rfl ?_
    refine j_cv0I (na := 0) C dX4_passByDraws_20 23 rfl (c_X4_draw τ a lw kd bt ph cn no ct sc rn lg dn zz_2 ) gX4_passByDraws_X4_draw rfl rfl rfl qd_X4_draw rfl ⟨by decide, by decide⟩ ⟨by decide, by decide⟩ rfl (Nat.le_of_ble_eq_true rfl) rfl 4 0 rfl rfl (fun r3 u3 hX3 hn3 => ?_)
    obtain ⟨zz_3, rfl⟩ : ∃ z, z = u3 := ⟨_, rfl⟩
    rw [hX3] at hR; rw [pr2_mk r3 zz_3] at hR
    refine j_bipush (v := 100) C dX4_passByDraws_23 25 rfl (by decide) ?_
    refine j_irem C dX4_passByDraws_25 26 rfl (by decide) ?_
    refine j_aload_n C dX4_passByDraws_26 27 rfl rfl 2 rfl ?_
    refine j_get C dX4_passByDraws_27 30 rfl hiX4 0 rfl rfl 0 (by decide) rfl kX4_passByDraws_f9 rfl ?_
    refine j_iconst (v := 3) C dX4_passByDraws_30 31 rfl (by decide) ?_
    refine j_iald C dX4_passByDraws_31 32 rfl 1 rfl (by unfold vp_in; decide) 3 rfl ?_
    refine j_icmp_ge C dX4_passByDraws_32 39 rfl 35 rfl (fun c4 => ?_) (fun c4 => ?_)
    · rw [if_pos c4] at hR
      rw [pr2_mk (0 : Int32) zz_3] at hR
      exact j_lv [2, 1] [(0, .ref (a 0)), (1, .int 0)] rfl (J6 _ _  hR)
    · rw [if_neg c4] at hR
      refine j_iconst (v := 1) C dX4_passByDraws_35 36 rfl (by decide) ?_
      refine j_iload_n C dX4_passByDraws_36 37 rfl rfl 0 rfl ?_
      refine j_ishl C dX4_passByDraws_37 38 rfl ?_
      refine j_istore_n C dX4_passByDraws_38 39 rfl rfl (by decide) [(1, .int ((1 : Int32) <<< ((r2 - r2 / ct * ct) &&& 31))), (2, .int (r2 - r2 / ct * ct)), (0, .ref (a 0))] rfl ?_
      rw [pr2_mk ((1 : Int32) <<< ((r2 - r2 / ct * ct) &&& 31)) zz_3] at hR
      exact j_lv [2, 0] [(0, .ref (a 0)), (1, .int ((1 : Int32) <<< ((r2 - r2 / ct * ct) &&& 31)))] rfl (J6 _ _  hR)

