/-! the cells of each kind -/
abbrev wT (τ : SX) (a : Nat → Nat) (lw : Nat → Int32) (kd : Nat → Int32) (bt : Nat → Int32) (ph : Nat → Int32) (cn : Nat → Int32) (no : Nat → Int32) (ct : Int32) (sc : Int32) (rn : Int32) (lg : Int32) (dn : Int32) (zz : Int32) : va_W := [(a 0, .inr (4, [.ref (a 1), .ref (a 2), .ref (a 3), .ref (a 4), .ref (a 5), .ref (a 6), .int ct, .int sc, .int rn, .int lg, .int dn, .int zz])), (a 1, .inl (τ.2.2.1 0, 4, .inl lw)), (a 2, .inl (τ.2.2.1 0, 8, .inl kd)), (a 3, .inl (τ.2.2.1 0, 8, .inl bt)), (a 4, .inl (τ.2.2.1 0, 8, .inl ph)), (a 5, .inl (τ.2.2.1 0, 8, .inl cn)), (a 6, .inl (τ.2.2.1 0, 8, .inl no))]
abbrev wP (τ : SX) (a : Nat → Nat) (bs : Nat → Int32) (tz : Int32) (so : Int32) (fr : Int32) (tt : Int32) (ft : Int32) : va_W := [(a 0, .inr (3, [.ref (a 1), .int tz, .int so, .int fr, .int tt, .int ft])), (a 1, .inl (τ.2.2.1 0, 200, .inl bs))]
abbrev wS (τ : SX) (a : Nat → Nat) (it : Nat → Int64) (sr : Int32) (si : Int32) : va_W := [(a 0, .inr (1, [.ref (a 1), .int sr, .int si])), (a 1, .inl (τ.2.2.1 1, 40, .inr (.inl it)))]
abbrev wH (τ : SX) (a : Nat → Nat) (vw : Int32) (vn : Int32) (vs : Int32) (vz : Int32) : va_W := [(a 0, .inr (2, [.int vw, .int vn, .int vs, .int vz]))]
abbrev wA (τ : SX) (a : Nat → Nat) (bo : Nat → Int32) (bg : Int32) (ak : Int32) (an : Int32) (aa : Int32) (ip : Int32) : va_W := [(a 0, .inr (0, [.ref (a 1), .int bg, .int ak, .int an, .int aa, .int ip])), (a 1, .inl (τ.2.2.1 0, 30, .inl bo))]
abbrev wM (τ : SX) (a : Nat → Nat) (ss : Nat → Int32) (mhd : Nat → Int32) (mas : Nat → Int32) (mbf : Nat → Int32) (mih : Int32) (mtp : Nat → Int32) (mtn : Int32) (mtk : Int32) (mfr : Int32) (mtt : Int32) (mvl : Int32) (miw : Int32) (mld : Nat → Int32) (mrw : Nat → Int32) (mrn : Int32) (mso : Nat → Int32) (msz : Nat → Int32) (mnu : Nat → Int32) (mhw : Nat → Int32) (mhh : Nat → Int32) (mhm : Nat → Int32) (mbo : Nat → Int32) (mrr : Int32) (mak : Int32) (man : Int32) (maa : Int32) (mip : Int32) : va_W := [(a 0, .inr (6, [.ref (a 1), .ref (a 2), .ref (a 3), .ref (a 4), .int mih, .ref (a 5), .int mtn, .int mtk, .int mfr, .int mtt, .int mvl, .int miw, .ref (a 6), .ref (a 7), .int mrn, .ref (a 8), .ref (a 9), .ref (a 10), .ref (a 11), .ref (a 12), .ref (a 13), .ref (a 14), .int mrr, .int mak, .int man, .int maa, .int mip])), (a 1, .inl (τ.2.2.1 0, 50, .inl ss)), (a 2, .inl (τ.2.2.1 0, 50, .inl mhd)), (a 3, .inl (τ.2.2.1 0, 50, .inl mas)), (a 4, .inl (τ.2.2.1 0, 50, .inl mbf)), (a 5, .inl (τ.2.2.1 0, 200, .inl mtp)), (a 6, .inl (τ.2.2.1 0, 12, .inl mld)), (a 7, .inl (τ.2.2.1 0, 30, .inl mrw)), (a 8, .inl (τ.2.2.1 0, 4, .inl mso)), (a 9, .inl (τ.2.2.1 0, 4, .inl msz)), (a 10, .inl (τ.2.2.1 0, 160, .inl mnu)), (a 11, .inl (τ.2.2.1 0, 4, .inl mhw)), (a 12, .inl (τ.2.2.1 0, 4, .inl mhh)), (a 13, .inl (τ.2.2.1 0, 4, .inl mhm)), (a 14, .inl (τ.2.2.1 0, 30, .inl mbo))]
abbrev wX (τ : SX) (a : Nat → Nat) (rws : Nat → Int32) (isv rc : Int32) : va_W := [(a 0, .inr (5, [.ref (a 10), .ref (a 20), .ref (a 30), .int isv, .ref (a 40), .ref (a 1), .int rc, .ref (a 2), .ref (a 3), .ref (a 50)])), (a 1, .inl (τ.2.2.1 0, 30, .inl rws)), (a 2, .inl (τ.2.2.1 2, 4, .inr (.inr (.inr (.inr (fun i => some (a (60 + 2 * i)))))))), (a 3, .inl (τ.2.2.1 3, 4, .inr (.inr (.inr (.inr (fun i => some (a (70 + i))))))))]
abbrev wSS (τ : SX) (a : Nat → Nat) (sit : Nat → Nat → Int64) (ssr ssi : Nat → Int32) : va_W := [(a 60, .inr (1, [.ref (a 61), .int (ssr 0), .int (ssi 0)])), (a 61, .inl (τ.2.2.1 1, 40, .inr (.inl (sit 0)))), (a 62, .inr (1, [.ref (a 63), .int (ssr 1), .int (ssi 1)])), (a 63, .inl (τ.2.2.1 1, 40, .inr (.inl (sit 1)))), (a 64, .inr (1, [.ref (a 65), .int (ssr 2), .int (ssi 2)])), (a 65, .inl (τ.2.2.1 1, 40, .inr (.inl (sit 2)))), (a 66, .inr (1, [.ref (a 67), .int (ssr 3), .int (ssi 3)])), (a 67, .inl (τ.2.2.1 1, 40, .inr (.inl (sit 3))))]
abbrev wHH (τ : SX) (a : Nat → Nat) (shw shn shs shz : Nat → Int32) : va_W := [(a 70, .inr (2, [.int (shw 0), .int (shn 0), .int (shs 0), .int (shz 0)])), (a 71, .inr (2, [.int (shw 1), .int (shn 1), .int (shs 1), .int (shz 1)])), (a 72, .inr (2, [.int (shw 2), .int (shn 2), .int (shs 2), .int (shz 2)])), (a 73, .inr (2, [.int (shw 3), .int (shn 3), .int (shs 3), .int (shz 3)]))]
-- X5_isIn
def f_X5_isIn (x0 : Int32) (x1 : Int32) (x2 : Int32) : Int32 := if (x0 < x1) then (0 : Int32) else (if (x2 < x0) then (0 : Int32) else (1 : Int32))
theorem qd_X5_isIn : yX5_isIn.cls ≠ "java/lang/invoke/MethodHandle" ∧ yX5_isIn.cls ≠ "java/lang/invoke/VarHandle" ∧ (parseMethodDescriptor yX5_isIn.desc).map (fun d => d.parameters.length) = some 3 := by decide +kernel
abbrev rmX5_isIn : Room := { frames := 0, cells := 0, slots := 0, locals := 0 }
set_option maxHeartbeats 4000000 in
set_option maxRecDepth 100000 in
theorem c_X5_isIn (τ : SX) (x0 : Int32) (x1 : Int32) (x2 : Int32) (sz : Nat) : McI τ yX5_isIn wsX5_isIn rmX5_isIn .boolean [.int x0, .int x1, .int x2] [] (fun _ : Unit => []) (f_X5_isIn x0 x1 x2, ()) sz := by
  refine mc_I (cc := cX5_isIn) (own := RX5) [(0, .int x0), (1, .int x1), (2, .int x2)] rfl (by decide) rfl rfl (Nat.le_of_ble_eq_true rfl) (fun κ C hR => ?_)
  unfold f_X5_isIn at hR
  refine j_iload_n C dX5_isIn_0 1 rfl rfl 0 rfl ?_
  refine j_iload_n C dX5_isIn_1 2 rfl rfl 1 rfl ?_
  refine j_icmp_lt C dX5_isIn_2 14 rfl 5 rfl (fun c1 => ?_) (fun c1 => ?_)
  · rw [if_pos c1] at hR
    refine j_iconst (v := 0) C dX5_isIn_14 15 rfl (by decide) ?_
    exact Rt.ret (hR) (show narrow .boolean (.int (0 : Int32)) = .int (0 : Int32) from rfl) dX5_isIn_15
  · rw [if_neg c1] at hR
    refine j_iload_n C dX5_isIn_5 6 rfl rfl 0 rfl ?_
    refine j_iload_n C dX5_isIn_6 7 rfl rfl 2 rfl ?_
    refine j_icmp_gt C dX5_isIn_7 14 rfl 10 rfl (fun c2 => ?_) (fun c2 => ?_)
    · rw [if_pos c2] at hR
      refine j_iconst (v := 0) C dX5_isIn_14 15 rfl (by decide) ?_
      exact Rt.ret (hR) (show narrow .boolean (.int (0 : Int32)) = .int (0 : Int32) from rfl) dX5_isIn_15
    · rw [if_neg c2] at hR
      refine j_iconst (v := 1) C dX5_isIn_10 11 rfl (by decide) ?_
      refine j_goto C dX5_isIn_11 15 rfl ?_
      exact Rt.ret (hR) (show narrow .boolean (.int (1 : Int32)) = .int (1 : Int32) from rfl) dX5_isIn_15

-- J6_bitCount_0f7a4
def f_J6_bitCount_0f7a4 (x0 : Int32) : Int32 := pr1 (x0 - (((x0.toUInt32 >>> ((1 : Int32).toUInt32 &&& Int32.toUInt32 31)).toInt32) &&& 1431655765)) (fun n1 => pr1 ((n1 &&& 858993459) + (((n1.toUInt32 >>> ((2 : Int32).toUInt32 &&& Int32.toUInt32 31)).toInt32) &&& 858993459)) (fun n2 => pr1 ((n2 + ((n2.toUInt32 >>> ((4 : Int32).toUInt32 &&& Int32.toUInt32 31)).toInt32)) &&& 252645135) (fun n3 => pr1 ((n3 + ((n3.toUInt32 >>> ((8 : Int32).toUInt32 &&& Int32.toUInt32 31)).toInt32)) + (((n3 + ((n3.toUInt32 >>> ((8 : Int32).toUInt32 &&& Int32.toUInt32 31)).toInt32)).toUInt32 >>> ((16 : Int32).toUInt32 &&& Int32.toUInt32 31)).toInt32)) (fun n4 => (n4 &&& 63)))))
theorem kJ6_bitCount_0f7a4_c265 : Cond.constant RJ6 265 1431655765 ∈ wsJ6_bitCount_0f7a4 := by decide +kernel
theorem kJ6_bitCount_0f7a4_c266 : Cond.constant RJ6 266 858993459 ∈ wsJ6_bitCount_0f7a4 := by decide +kernel
theorem kJ6_bitCount_0f7a4_c267 : Cond.constant RJ6 267 252645135 ∈ wsJ6_bitCount_0f7a4 := by decide +kernel
theorem qd_J6_bitCount_0f7a4 : yJ6_bitCount_0f7a4.cls ≠ "java/lang/invoke/MethodHandle" ∧ yJ6_bitCount_0f7a4.cls ≠ "java/lang/invoke/VarHandle" ∧ (parseMethodDescriptor yJ6_bitCount_0f7a4.desc).map (fun d => d.parameters.length) = some 1 := by decide +kernel
abbrev rmJ6_bitCount_0f7a4 : Room := { frames := 0, cells := 0, slots := 0, locals := 0 }
set_option maxHeartbeats 4000000 in
set_option maxRecDepth 100000 in
theorem c_J6_bitCount_0f7a4 (τ : SX) (x0 : Int32) (sz : Nat) : McI τ yJ6_bitCount_0f7a4 wsJ6_bitCount_0f7a4 rmJ6_bitCount_0f7a4 .int [.int x0] [] (fun _ : Unit => []) (f_J6_bitCount_0f7a4 x0, ()) sz := by
  refine mc_I (cc := cJ6_bitCount_0f7a4) (own := RJ6) [(0, .int x0)] rfl (by decide) rfl rfl (Nat.le_of_ble_eq_true rfl) (fun κ C hR => ?_)
  unfold f_J6_bitCount_0f7a4 at hR
  refine j_iload_n C dJ6_bitCount_0f7a4_0 1 rfl rfl 0 rfl ?_
  refine j_iload_n C dJ6_bitCount_0f7a4_1 2 rfl rfl 0 rfl ?_
  refine j_iconst (v := 1) C dJ6_bitCount_0f7a4_2 3 rfl (by decide) ?_
  refine j_iushr C dJ6_bitCount_0f7a4_3 4 rfl ?_
  refine j_ldcw C dJ6_bitCount_0f7a4_4 7 rfl kJ6_bitCount_0f7a4_c265 ?_
  refine j_iand C dJ6_bitCount_0f7a4_7 8 rfl ?_
  refine j_isub C dJ6_bitCount_0f7a4_8 9 rfl ?_
  refine j_nmi (fun n1 en1 => ?_)
  rw [← en1] at hR; rw [pr1_mk n1] at hR
  refine j_istore_n C dJ6_bitCount_0f7a4_9 10 rfl rfl (by decide) [(0, .int n1)] rfl ?_
  refine j_iload_n C dJ6_bitCount_0f7a4_10 11 rfl rfl 0 rfl ?_
  refine j_ldcw C dJ6_bitCount_0f7a4_11 14 rfl kJ6_bitCount_0f7a4_c266 ?_
  refine j_iand C dJ6_bitCount_0f7a4_14 15 rfl ?_
  refine j_iload_n C dJ6_bitCount_0f7a4_15 16 rfl rfl 0 rfl ?_
  refine j_iconst (v := 2) C dJ6_bitCount_0f7a4_16 17 rfl (by decide) ?_
  refine j_iushr C dJ6_bitCount_0f7a4_17 18 rfl ?_
  refine j_ldcw C dJ6_bitCount_0f7a4_18 21 rfl kJ6_bitCount_0f7a4_c266 ?_
  refine j_iand C dJ6_bitCount_0f7a4_21 22 rfl ?_
  refine j_iadd C dJ6_bitCount_0f7a4_22 23 rfl ?_
  refine j_nmi (fun n2 en2 => ?_)
  rw [← en2] at hR; rw [pr1_mk n2] at hR
  refine j_istore_n C dJ6_bitCount_0f7a4_23 24 rfl rfl (by decide) [(0, .int n2)] rfl ?_
  refine j_iload_n C dJ6_bitCount_0f7a4_24 25 rfl rfl 0 rfl ?_
  refine j_iload_n C dJ6_bitCount_0f7a4_25 26 rfl rfl 0 rfl ?_
  refine j_iconst (v := 4) C dJ6_bitCount_0f7a4_26 27 rfl (by decide) ?_
  refine j_iushr C dJ6_bitCount_0f7a4_27 28 rfl ?_
  refine j_iadd C dJ6_bitCount_0f7a4_28 29 rfl ?_
  refine j_ldcw C dJ6_bitCount_0f7a4_29 32 rfl kJ6_bitCount_0f7a4_c267 ?_
  refine j_iand C dJ6_bitCount_0f7a4_32 33 rfl ?_
  refine j_nmi (fun n3 en3 => ?_)
  rw [← en3] at hR; rw [pr1_mk n3] at hR
  refine j_istore_n C dJ6_bitCount_0f7a4_33 34 rfl rfl (by decide) [(0, .int n3)] rfl ?_
  refine j_iload_n C dJ6_bitCount_0f7a4_34 35 rfl rfl 0 rfl ?_
  refine j_iload_n C dJ6_bitCount_0f7a4_35 36 rfl rfl 0 rfl ?_
  refine j_bipush (v := 8) C dJ6_bitCount_0f7a4_36 38 rfl (by decide) ?_
  refine j_iushr C dJ6_bitCount_0f7a4_38 39 rfl ?_
  refine j_iadd C dJ6_bitCount_0f7a4_39 40 rfl ?_
  refine j_istore_n C dJ6_bitCount_0f7a4_40 41 rfl rfl (by decide) [(0, .int (n3 + ((n3.toUInt32 >>> ((8 : Int32).toUInt32 &&& Int32.toUInt32 31)).toInt32)))] rfl ?_
  refine j_iload_n C dJ6_bitCount_0f7a4_41 42 rfl rfl 0 rfl ?_
  refine j_iload_n C dJ6_bitCount_0f7a4_42 43 rfl rfl 0 rfl ?_
  refine j_bipush (v := 16) C dJ6_bitCount_0f7a4_43 45 rfl (by decide) ?_
  refine j_iushr C dJ6_bitCount_0f7a4_45 46 rfl ?_
  refine j_iadd C dJ6_bitCount_0f7a4_46 47 rfl ?_
  refine j_nmi (fun n4 en4 => ?_)
  rw [← en4] at hR; rw [pr1_mk n4] at hR
  refine j_istore_n C dJ6_bitCount_0f7a4_47 48 rfl rfl (by decide) [(0, .int n4)] rfl ?_
  refine j_iload_n C dJ6_bitCount_0f7a4_48 49 rfl rfl 0 rfl ?_
  refine j_bipush (v := 63) C dJ6_bitCount_0f7a4_49 51 rfl (by decide) ?_
  refine j_iand C dJ6_bitCount_0f7a4_51 52 rfl ?_
  exact Rt.ret (hR) rfl dJ6_bitCount_0f7a4_52

-- X4_forget
def l_X4_forget_17  : Nat → Int32 → (Nat → Int32) → Int32 × (Nat → Int32)
  | 0, x1, no => (x1, no)
  | N + 1, x1, no => if (8 ≤ x1) then (x1, no) else (l_X4_forget_17 N (x1 + 1) (upd no (x1).toNatClampNeg 0))
def f_X4_forget (no : Nat → Int32) : (Nat → Int32) × Int32 × Int32 × Int32 := pr2 (l_X4_forget_17 300 (0 : Int32) no) (fun x1_1 no_1 => (no_1, (0 : Int32), (0 : Int32), (0 : Int32)))
theorem kX4_forget_f55 : Cond.fieldLink RX4 55 "TwoMinutes$Town" "run" "I" ∈ wsX4_forget := by decide +kernel
theorem kX4_forget_f58 : Cond.fieldLink RX4 58 "TwoMinutes$Town" "longest" "I" ∈ wsX4_forget := by decide +kernel
theorem kX4_forget_f61 : Cond.fieldLink RX4 61 "TwoMinutes$Town" "done" "I" ∈ wsX4_forget := by decide +kernel
theorem kX4_forget_f27 : Cond.fieldLink RX4 27 "TwoMinutes$Town" "noises" "[I" ∈ wsX4_forget := by decide +kernel
theorem qd_X4_forget : yX4_forget.cls = RX4 ∧ yX4_forget.cls ≠ "java/lang/invoke/MethodHandle" ∧ yX4_forget.cls ≠ "java/lang/invoke/VarHandle" ∧ (parseMethodDescriptor yX4_forget.desc).map (fun d => d.parameters.length) = some 0 := by decide +kernel
abbrev rmX4_forget : Room := { frames := 0, cells := 0, slots := 0, locals := 0 }
set_option maxHeartbeats 4000000 in
set_option maxRecDepth 100000 in
theorem L_X4_forget_17 {τ : SX} {κ : KX} (C : Cx τ κ cX4_forget RX4 wsX4_forget rmX4_forget 2) (a : Nat → Nat) (lw : Nat → Int32) (kd : Nat → Int32) (bt : Nat → Int32) (ph : Nat → Int32) (cn : Nat → Int32) (ct : Int32) (sc : Int32) (rn : Int32) (lg : Int32) (dn : Int32) (zz : Int32) (Φ : Int32 × (Nat → Int32) → Prop) (hE : ∀ (x1 : Int32) (no : Nat → Int32), Φ (x1, no) → J τ κ 0 0 (wT τ a lw kd bt ph cn no ct sc rn lg dn zz) [(0, .ref (a 0)), (1, .int x1)] 36 []) : ∀ (N : Nat) (x1 : Int32) (no : Nat → Int32), ((8 : Int) - x1.toInt).toNat < N → (0 ≤ x1.toInt) → (x1.toInt ≤ 8) → Φ (l_X4_forget_17 N x1 no) → J τ κ 0 0 (wT τ a lw kd bt ph cn no ct sc rn lg dn zz) [(0, .ref (a 0)), (1, .int x1)] 17 [] := by
  have hiX4 : ∀ w ∈ wsX40, w ∈ wsX4_forget := fun w h => List.mem_cons_of_mem _ (List.mem_append_right _ h)
  intro N
  induction N with
  | zero => intro x1 no hm; exact absurd hm (Nat.not_lt_zero _)
  | succ N ih =>
    intro x1 no hm h0 h1 hR
    rw [l_X4_forget_17] at hR
    refine j_iload_n C dX4_forget_17 18 rfl rfl 1 rfl ?_
    refine j_bipush (v := 8) C dX4_forget_18 20 rfl (by decide) ?_
    refine j_icmp_ge C dX4_forget_20 36 rfl 23 rfl (fun c2 => ?_) (fun c2 => ?_)
    · rw [if_pos c2] at hR
      exact j_lv [0, 1] [(0, .ref (a 0)), (1, .int x1)] rfl (hE _ _  hR)
    · rw [if_neg c2] at hR
      have hs := cnt_step (B := 8) h0 (by decide) (by decide) c2
      refine j_aload_n C dX4_forget_23 24 rfl rfl 0 rfl ?_
      refine j_get C dX4_forget_24 27 rfl hiX4 0 rfl rfl 5 (by decide) rfl kX4_forget_f27 rfl ?_
      refine j_iload_n C dX4_forget_27 28 rfl rfl 1 rfl ?_
      refine j_iconst (v := 0) C dX4_forget_28 29 rfl (by decide) ?_
      refine j_iast C dX4_forget_29 30 rfl 6 rfl (by first | assumption | exact vp_in_iff.mpr ⟨by omega, by omega⟩ | exact nz_nle (by assumption) | exact nz_lt (by assumption) | omega) (x1).toNatClampNeg rfl (wT τ a lw kd bt ph cn (upd no (x1).toNatClampNeg 0) ct sc rn lg dn zz) rfl ?_
      refine j_iinc (v := (x1 + 1)) C dX4_forget_30 33 rfl 1 rfl rfl (by decide) [(1, .int (x1 + 1)), (0, .ref (a 0))] rfl ?_
      refine j_goto C dX4_forget_33 17 rfl ?_
      exact j_lv [1, 0] [(0, .ref (a 0)), (1, .int (x1 + 1))] rfl (ih _ _ (by have := hs.2.2.1; omega) hs.1 hs.2.1 hR)
set_option maxHeartbeats 4000000 in
set_option maxRecDepth 100000 in
theorem c_X4_forget (τ : SX) (a : Nat → Nat) (lw : Nat → Int32) (kd : Nat → Int32) (bt : Nat → Int32) (ph : Nat → Int32) (cn : Nat → Int32) (no : Nat → Int32) (ct : Int32) (sc : Int32) (rn : Int32) (lg : Int32) (dn : Int32) (zz : Int32) (sz : Nat) : McV τ yX4_forget wsX4_forget rmX4_forget [.ref (a 0)] (wT τ a lw kd bt ph cn no ct sc rn lg dn zz) (fun u : (Nat → Int32) × Int32 × Int32 × Int32 => (wT τ a lw kd bt ph cn u.1 ct sc u.2.1 u.2.2.1 u.2.2.2 zz)) (f_X4_forget no) 0 0 sz := by
  refine mc_V (cc := cX4_forget) (own := RX4) [(0, .ref (a 0))] rfl (by decide) rfl rfl (Nat.le_of_ble_eq_true rfl) (fun κ C _ hR => ?_)
  have hiX4 : ∀ w ∈ wsX40, w ∈ wsX4_forget := fun w h => List.mem_cons_of_mem _ (List.mem_append_right _ h)
  unfold f_X4_forget at hR
  refine j_aload_n C dX4_forget_0 1 rfl rfl 0 rfl ?_
  refine j_iconst (v := 0) C dX4_forget_1 2 rfl (by decide) ?_
  refine j_put C dX4_forget_2 5 rfl hiX4 tyX4_ok nmX4 0 rfl rfl 8 (by decide) rfl kX4_forget_f55 rfl rfl rfl (Nat.le_of_ble_eq_true rfl) (wT τ a lw kd bt ph cn no ct sc 0 lg dn zz) rfl ?_
  refine j_aload_n C dX4_forget_5 6 rfl rfl 0 rfl ?_
  refine j_iconst (v := 0) C dX4_forget_6 7 rfl (by decide) ?_
  refine j_put C dX4_forget_7 10 rfl hiX4 tyX4_ok nmX4 0 rfl rfl 9 (by decide) rfl kX4_forget_f58 rfl rfl rfl (Nat.le_of_ble_eq_true rfl) (wT τ a lw kd bt ph cn no ct sc 0 0 dn zz) rfl ?_
  refine j_aload_n C dX4_forget_10 11 rfl rfl 0 rfl ?_
  refine j_iconst (v := 0) C dX4_forget_11 12 rfl (by decide) ?_
  refine j_put C dX4_forget_12 15 rfl hiX4 tyX4_ok nmX4 0 rfl rfl 10 (by decide) rfl kX4_forget_f61 rfl rfl rfl (Nat.le_of_ble_eq_true rfl) (wT τ a lw kd bt ph cn no ct sc 0 0 0 zz) rfl ?_
  refine j_iconst (v := 0) C dX4_forget_15 16 rfl (by decide) ?_
  refine j_istore_n C dX4_forget_16 17 rfl rfl (by decide) [(1, .int 0), (0, .ref (a 0))] rfl ?_
  refine j_lv [1, 0] [(0, .ref (a 0)), (1, .int 0)] rfl (L_X4_forget_17 C a lw kd bt ph cn ct sc 0 0 0 zz   (fun (o : Int32 × (Nat → Int32)) => RtV τ κ cX4_forget 0 0 (fun u : (Nat → Int32) × Int32 × Int32 × Int32 => (wT τ a lw kd bt ph cn u.1 ct sc u.2.1 u.2.2.1 u.2.2.2 zz)) (pr2 o (fun x1_1 no_1 => (no_1, (0 : Int32), (0 : Int32), (0 : Int32))))) (fun x1_1 no_1  hR => ?_) 300 (0 : Int32) no (by decide) (by decide) (by decide) hR)
  rw [pr2_mk x1_1 no_1] at hR
  exact hR _ _ dX4_forget_36

-- X4_clear
def f_X4_clear (lw : Nat → Int32) (no : Nat → Int32) : (Nat → Int32) × (Nat → Int32) × Int32 × Int32 × Int32 × Int32 × Int32 := pr4 (f_X4_forget no) (fun no_1 rn_1 lg_1 dn_1 => ((va_cpy (saG 0) lw 0 0 4), no_1, (0 : Int32), (0 : Int32), rn_1, lg_1, dn_1))
theorem kX4_clear_f9 : Cond.fieldLink RX4 9 "TwoMinutes$Town" "laws" "[I" ∈ wsX4_clear := by decide +kernel
theorem kX4_clear_m40 : Cond.methodLink RX4 40 arraycopyName ∈ wsX4_clear := by decide +kernel
theorem kX4_clear_nac : Cond.native arraycopyName ∈ wsX4_clear := by decide +kernel
theorem kX4_clear_sac : Cond.static arraycopyName ∈ wsX4_clear := by decide +kernel
theorem kX4_clear_iSystem : Cond.initialized "java/lang/System" ∈ wsX4_clear := by decide +kernel
theorem kX4_clear_f46 : Cond.fieldLink RX4 46 "TwoMinutes$Town" "count" "I" ∈ wsX4_clear := by decide +kernel
theorem kX4_clear_f49 : Cond.fieldLink RX4 49 "TwoMinutes$Town" "second" "I" ∈ wsX4_clear := by decide +kernel
theorem qd_X4_clear : yX4_clear.cls = RX4 ∧ yX4_clear.cls ≠ "java/lang/invoke/MethodHandle" ∧ yX4_clear.cls ≠ "java/lang/invoke/VarHandle" ∧ (parseMethodDescriptor yX4_clear.desc).map (fun d => d.parameters.length) = some 0 := by decide +kernel
abbrev rmX4_clear : Room := { frames := 1, cells := 0, slots := 0, locals := 26 }
set_option maxHeartbeats 4000000 in
set_option maxRecDepth 100000 in
theorem c_X4_clear (τ : SX) (a : Nat → Nat) (lw : Nat → Int32) (kd : Nat → Int32) (bt : Nat → Int32) (ph : Nat → Int32) (cn : Nat → Int32) (no : Nat → Int32) (ct : Int32) (sc : Int32) (rn : Int32) (lg : Int32) (dn : Int32) (zz : Int32) (sz : Nat) : McV τ yX4_clear wsX4_clear rmX4_clear [.ref (a 0)] (wT τ a lw kd bt ph cn no ct sc rn lg dn zz) (fun u : (Nat → Int32) × (Nat → Int32) × Int32 × Int32 × Int32 × Int32 × Int32 => (wT τ a u.1 kd bt ph cn u.2.1 u.2.2.1 u.2.2.2.1 u.2.2.2.2.1 u.2.2.2.2.2.1 u.2.2.2.2.2.2 zz)) (f_X4_clear lw no) 0 0 sz := by
  refine mc_V (cc := cX4_clear) (own := RX4) [(0, .ref (a 0))] rfl (by decide) rfl rfl (Nat.le_of_ble_eq_true rfl) (fun κ C _ hR => ?_)
  have hiX4 : ∀ w ∈ wsX40, w ∈ wsX4_clear := fun w h => List.mem_cons_of_mem _ (List.mem_append_right _ h)
  unfold f_X4_clear at hR
  refine j_getsN (host := RX5) C dX4_clear_0 3 rfl 0 rfl rfl rfl rfl (by decide +kernel) ?_
  refine j_iconst (v := 0) C dX4_clear_3 4 rfl (by decide) ?_
  refine j_aload_n C dX4_clear_4 5 rfl rfl 0 rfl ?_
  refine j_get C dX4_clear_5 8 rfl hiX4 0 rfl rfl 0 (by decide) rfl kX4_clear_f9 rfl ?_
  refine j_iconst (v := 0) C dX4_clear_8 9 rfl (by decide) ?_
  refine j_iconst (v := 4) C dX4_clear_9 10 rfl (by decide) ?_
  refine j_copyS C dX4_clear_10 13 rfl kX4_clear_m40 kX4_clear_nac kX4_clear_sac kX4_clear_iSystem 0 rfl 1 rfl (by decide) (by decide) (by decide) (by decide) (Nat.le_of_ble_eq_true rfl) 4 rfl (wT τ a (va_cpy (saG 0) lw 0 0 4) kd bt ph cn no ct sc rn lg dn zz) rfl ?_
  refine j_aload_n C dX4_clear_13 14 rfl rfl 0 rfl ?_
  refine j_iconst (v := 0) C dX4_clear_14 15 rfl (by decide) ?_
  refine j_put C dX4_clear_15 18 rfl hiX4 tyX4_ok nmX4 0 rfl rfl 6 (by decide) rfl kX4_clear_f46 rfl rfl rfl (Nat.le_of_ble_eq_true rfl) (wT τ a (va_cpy (saG 0) lw 0 0 4) kd bt ph cn no 0 sc rn lg dn zz) rfl ?_
  refine j_aload_n C dX4_clear_18 19 rfl rfl 0 rfl ?_
  refine j_iconst (v := 0) C dX4_clear_19 20 rfl (by decide) ?_
  refine j_put C dX4_clear_20 23 rfl hiX4 tyX4_ok nmX4 0 rfl rfl 7 (by decide) rfl kX4_clear_f49 rfl rfl rfl (Nat.le_of_ble_eq_true rfl) (wT τ a (va_cpy (saG 0) lw 0 0 4) kd bt ph cn no 0 0 rn lg dn zz) rfl ?_
  refine j_aload_n C dX4_clear_23 24 rfl rfl 0 rfl ?_
  refine j_cv0V (na := 0) C dX4_clear_24 27 rfl (c_X4_forget τ a (va_cpy (saG 0) lw 0 0 4) kd bt ph cn no 0 0 rn lg dn zz ) gX4_clear_X4_forget rfl rfl rfl qd_X4_forget rfl ⟨by decide, by decide⟩ ⟨by decide, by decide⟩ rfl (Nat.le_of_ble_eq_true rfl) rfl 4 0 rfl rfl (fun u1 hX1 => ?_)
  obtain ⟨no_1, rn_1, lg_1, dn_1⟩ := u1
  rw [hX1] at hR; rw [pr4_mk no_1 rn_1 lg_1 dn_1] at hR
  exact hR _ _ dX4_clear_27

-- X4_isOnBeat
def f_X4_isOnBeat (bt : Nat → Int32) (ph : Nat → Int32) (sc : Int32) (x1 : Int32) : Int32 := if ((bt (x1).toNatClampNeg) ≤ 0) then (0 : Int32) else (if (((sc + (ph (x1).toNatClampNeg)) - (sc + (ph (x1).toNatClampNeg)) / (bt (x1).toNatClampNeg) * (bt (x1).toNatClampNeg)) = 0) then (1 : Int32) else (0 : Int32))
theorem kX4_isOnBeat_f18 : Cond.fieldLink RX4 18 "TwoMinutes$Town" "beats" "[I" ∈ wsX4_isOnBeat := by decide +kernel
theorem kX4_isOnBeat_f49 : Cond.fieldLink RX4 49 "TwoMinutes$Town" "second" "I" ∈ wsX4_isOnBeat := by decide +kernel
theorem kX4_isOnBeat_f21 : Cond.fieldLink RX4 21 "TwoMinutes$Town" "phases" "[I" ∈ wsX4_isOnBeat := by decide +kernel
theorem qd_X4_isOnBeat : yX4_isOnBeat.cls = RX4 ∧ yX4_isOnBeat.cls ≠ "java/lang/invoke/MethodHandle" ∧ yX4_isOnBeat.cls ≠ "java/lang/invoke/VarHandle" ∧ (parseMethodDescriptor yX4_isOnBeat.desc).map (fun d => d.parameters.length) = some 1 := by decide +kernel
abbrev rmX4_isOnBeat : Room := { frames := 0, cells := 0, slots := 0, locals := 0 }
set_option maxHeartbeats 4000000 in
set_option maxRecDepth 100000 in
theorem c_X4_isOnBeat (τ : SX) (a : Nat → Nat) (lw : Nat → Int32) (kd : Nat → Int32) (bt : Nat → Int32) (ph : Nat → Int32) (cn : Nat → Int32) (no : Nat → Int32) (ct : Int32) (sc : Int32) (rn : Int32) (lg : Int32) (dn : Int32) (zz : Int32) (x1 : Int32) (hv : vp_in x1 8) (sz : Nat) : McI τ yX4_isOnBeat wsX4_isOnBeat rmX4_isOnBeat .boolean [.ref (a 0), .int x1] (wT τ a lw kd bt ph cn no ct sc rn lg dn zz) (fun _ : Unit => (wT τ a lw kd bt ph cn no ct sc rn lg dn zz)) (f_X4_isOnBeat bt ph sc x1, ()) sz := by
  refine mc_I (cc := cX4_isOnBeat) (own := RX4) [(0, .ref (a 0)), (1, .int x1)] rfl (by decide) rfl rfl (Nat.le_of_ble_eq_true rfl) (fun κ C hR => ?_)
  have hiX4 : ∀ w ∈ wsX40, w ∈ wsX4_isOnBeat := fun w h => List.mem_cons_of_mem _ (List.mem_append_right _ h)
  unfold f_X4_isOnBeat at hR
  refine j_aload_n C dX4_isOnBeat_0 1 rfl rfl 0 rfl ?_
  refine j_get C dX4_isOnBeat_1 4 rfl hiX4 0 rfl rfl 2 (by decide) rfl kX4_isOnBeat_f18 rfl ?_
  refine j_iload_n C dX4_isOnBeat_4 5 rfl rfl 1 rfl ?_
  refine j_iald C dX4_isOnBeat_5 6 rfl 3 rfl (by first | assumption | exact vp_in_iff.mpr ⟨by omega, by omega⟩ | exact nz_nle (by assumption) | exact nz_lt (by assumption) | omega) (x1).toNatClampNeg rfl ?_
  refine j_istore_n C dX4_isOnBeat_6 7 rfl rfl (by decide) [(2, .int (bt (x1).toNatClampNeg)), (0, .ref (a 0)), (1, .int x1)] rfl ?_
  refine j_iload_n C dX4_isOnBeat_7 8 rfl rfl 0 rfl ?_
  refine j_if_le C dX4_isOnBeat_8 31 rfl 11 rfl (fun c1 => ?_) (fun c1 => ?_)
  · rw [if_pos c1] at hR
    refine j_iconst (v := 0) C dX4_isOnBeat_31 32 rfl (by decide) ?_
    exact Rt.ret (hR) (show narrow .boolean (.int (0 : Int32)) = .int (0 : Int32) from rfl) dX4_isOnBeat_32
  · rw [if_neg c1] at hR
    refine j_aload_n C dX4_isOnBeat_11 12 rfl rfl 1 rfl ?_
    refine j_get C dX4_isOnBeat_12 15 rfl hiX4 0 rfl rfl 7 (by decide) rfl kX4_isOnBeat_f49 rfl ?_
    refine j_aload_n C dX4_isOnBeat_15 16 rfl rfl 1 rfl ?_
    refine j_get C dX4_isOnBeat_16 19 rfl hiX4 0 rfl rfl 3 (by decide) rfl kX4_isOnBeat_f21 rfl ?_
    refine j_iload_n C dX4_isOnBeat_19 20 rfl rfl 2 rfl ?_
    refine j_iald C dX4_isOnBeat_20 21 rfl 4 rfl (by first | assumption | exact vp_in_iff.mpr ⟨by omega, by omega⟩ | exact nz_nle (by assumption) | exact nz_lt (by assumption) | omega) (x1).toNatClampNeg rfl ?_
    refine j_iadd C dX4_isOnBeat_21 22 rfl ?_
    refine j_iload_n C dX4_isOnBeat_22 23 rfl rfl 0 rfl ?_
    refine j_irem C dX4_isOnBeat_23 24 rfl (by first | assumption | exact vp_in_iff.mpr ⟨by omega, by omega⟩ | exact nz_nle (by assumption) | exact nz_lt (by assumption) | omega) ?_
    refine j_if_ne C dX4_isOnBeat_24 31 rfl 27 rfl (fun c2 => ?_) (fun c2 => ?_)
    · rw [if_neg c2] at hR
      refine j_iconst (v := 0) C dX4_isOnBeat_31 32 rfl (by decide) ?_
      exact Rt.ret (hR) (show narrow .boolean (.int (0 : Int32)) = .int (0 : Int32) from rfl) dX4_isOnBeat_32
    · rw [if_pos c2] at hR
      refine j_iconst (v := 1) C dX4_isOnBeat_27 28 rfl (by decide) ?_
      refine j_goto C dX4_isOnBeat_28 32 rfl ?_
      exact Rt.ret (hR) (show narrow .boolean (.int (1 : Int32)) = .int (1 : Int32) from rfl) dX4_isOnBeat_32

-- X4_isCooking
def f_X4_isCooking (lw : Nat → Int32) (bt : Nat → Int32) (ph : Nat → Int32) (sc : Int32) (rn : Int32) (x1 : Int32) : Int32 := if (rn < (lw 1)) then (0 : Int32) else (if ((f_X4_isOnBeat bt ph sc x1) = 0) then (0 : Int32) else (1 : Int32))
theorem kX4_isCooking_f55 : Cond.fieldLink RX4 55 "TwoMinutes$Town" "run" "I" ∈ wsX4_isCooking := by decide +kernel
theorem kX4_isCooking_f9 : Cond.fieldLink RX4 9 "TwoMinutes$Town" "laws" "[I" ∈ wsX4_isCooking := by decide +kernel
theorem qd_X4_isCooking : yX4_isCooking.cls = RX4 ∧ yX4_isCooking.cls ≠ "java/lang/invoke/MethodHandle" ∧ yX4_isCooking.cls ≠ "java/lang/invoke/VarHandle" ∧ (parseMethodDescriptor yX4_isCooking.desc).map (fun d => d.parameters.length) = some 1 := by decide +kernel
abbrev rmX4_isCooking : Room := { frames := 1, cells := 0, slots := 0, locals := 22 }
set_option maxHeartbeats 4000000 in
set_option maxRecDepth 100000 in
theorem c_X4_isCooking (τ : SX) (a : Nat → Nat) (lw : Nat → Int32) (kd : Nat → Int32) (bt : Nat → Int32) (ph : Nat → Int32) (cn : Nat → Int32) (no : Nat → Int32) (ct : Int32) (sc : Int32) (rn : Int32) (lg : Int32) (dn : Int32) (zz : Int32) (x1 : Int32) (hv : vp_in x1 8) (sz : Nat) : McI τ yX4_isCooking wsX4_isCooking rmX4_isCooking .boolean [.ref (a 0), .int x1] (wT τ a lw kd bt ph cn no ct sc rn lg dn zz) (fun _ : Unit => (wT τ a lw kd bt ph cn no ct sc rn lg dn zz)) (f_X4_isCooking lw bt ph sc rn x1, ()) sz := by
  refine mc_I (cc := cX4_isCooking) (own := RX4) [(0, .ref (a 0)), (1, .int x1)] rfl (by decide) rfl rfl (Nat.le_of_ble_eq_true rfl) (fun κ C hR => ?_)
  have hiX4 : ∀ w ∈ wsX40, w ∈ wsX4_isCooking := fun w h => List.mem_cons_of_mem _ (List.mem_append_right _ h)
  unfold f_X4_isCooking at hR
  refine j_aload_n C dX4_isCooking_0 1 rfl rfl 0 rfl ?_
  refine j_get C dX4_isCooking_1 4 rfl hiX4 0 rfl rfl 8 (by decide) rfl kX4_isCooking_f55 rfl ?_
  refine j_aload_n C dX4_isCooking_4 5 rfl rfl 0 rfl ?_
  refine j_get C dX4_isCooking_5 8 rfl hiX4 0 rfl rfl 0 (by decide) rfl kX4_isCooking_f9 rfl ?_
  refine j_iconst (v := 1) C dX4_isCooking_8 9 rfl (by decide) ?_
  refine j_iald C dX4_isCooking_9 10 rfl 1 rfl (by unfold vp_in; decide) 1 rfl ?_
  refine j_icmp_lt C dX4_isCooking_10 25 rfl 13 rfl (fun c1 => ?_) (fun c1 => ?_)
  · rw [if_pos c1] at hR
    refine j_iconst (v := 0) C dX4_isCooking_25 26 rfl (by decide) ?_
    exact Rt.ret (hR) (show narrow .boolean (.int (0 : Int32)) = .int (0 : Int32) from rfl) dX4_isCooking_26
  · rw [if_neg c1] at hR
    refine j_aload_n C dX4_isCooking_13 14 rfl rfl 0 rfl ?_
    refine j_iload_n C dX4_isCooking_14 15 rfl rfl 1 rfl ?_
    refine j_cv0I (na := 1) C dX4_isCooking_15 18 rfl (c_X4_isOnBeat τ a lw kd bt ph cn no ct sc rn lg dn zz x1 (by first | assumption | exact vp_in_iff.mpr ⟨by omega, by omega⟩ | exact nz_nle (by assumption) | exact nz_lt (by assumption) | omega)) gX4_isCooking_X4_isOnBeat rfl rfl rfl qd_X4_isOnBeat rfl ⟨by decide, by decide⟩ ⟨by decide, by decide⟩ rfl (Nat.le_of_ble_eq_true rfl) rfl 4 0 rfl rfl (fun r2 u2 hX2 hn2 => ?_)
    obtain rfl := (Prod.mk.inj hX2).1
    refine j_if_eq C dX4_isCooking_18 25 rfl 21 rfl (fun c3 => ?_) (fun c3 => ?_)
    · rw [if_pos c3] at hR
      refine j_iconst (v := 0) C dX4_isCooking_25 26 rfl (by decide) ?_
      exact Rt.ret (hR) (show narrow .boolean (.int (0 : Int32)) = .int (0 : Int32) from rfl) dX4_isCooking_26
    · rw [if_neg c3] at hR
      refine j_iconst (v := 1) C dX4_isCooking_21 22 rfl (by decide) ?_
      refine j_goto C dX4_isCooking_22 26 rfl ?_
      exact Rt.ret (hR) (show narrow .boolean (.int (1 : Int32)) = .int (1 : Int32) from rfl) dX4_isCooking_26

-- X4_isMarching
def f_X4_isMarching (bt : Nat → Int32) (ph : Nat → Int32) (sc : Int32) (x1 : Int32) : Int32 := if ((sc - sc / 2 * 2) = 0) then (if ((f_X4_isOnBeat bt ph sc x1) = 0) then (0 : Int32) else (1 : Int32)) else (0 : Int32)
theorem kX4_isMarching_f49 : Cond.fieldLink RX4 49 "TwoMinutes$Town" "second" "I" ∈ wsX4_isMarching := by decide +kernel
theorem qd_X4_isMarching : yX4_isMarching.cls = RX4 ∧ yX4_isMarching.cls ≠ "java/lang/invoke/MethodHandle" ∧ yX4_isMarching.cls ≠ "java/lang/invoke/VarHandle" ∧ (parseMethodDescriptor yX4_isMarching.desc).map (fun d => d.parameters.length) = some 1 := by decide +kernel
abbrev rmX4_isMarching : Room := { frames := 1, cells := 0, slots := 0, locals := 22 }
set_option maxHeartbeats 4000000 in
set_option maxRecDepth 100000 in
theorem c_X4_isMarching (τ : SX) (a : Nat → Nat) (lw : Nat → Int32) (kd : Nat → Int32) (bt : Nat → Int32) (ph : Nat → Int32) (cn : Nat → Int32) (no : Nat → Int32) (ct : Int32) (sc : Int32) (rn : Int32) (lg : Int32) (dn : Int32) (zz : Int32) (x1 : Int32) (hv : vp_in x1 8) (sz : Nat) : McI τ yX4_isMarching wsX4_isMarching rmX4_isMarching .boolean [.ref (a 0), .int x1] (wT τ a lw kd bt ph cn no ct sc rn lg dn zz) (fun _ : Unit => (wT τ a lw kd bt ph cn no ct sc rn lg dn zz)) (f_X4_isMarching bt ph sc x1, ()) sz := by
  refine mc_I (cc := cX4_isMarching) (own := RX4) [(0, .ref (a 0)), (1, .int x1)] rfl (by decide) rfl rfl (Nat.le_of_ble_eq_true rfl) (fun κ C hR => ?_)
  have hiX4 : ∀ w ∈ wsX40, w ∈ wsX4_isMarching := fun w h => List.mem_cons_of_mem _ (List.mem_append_right _ h)
  unfold f_X4_isMarching at hR
  refine j_aload_n C dX4_isMarching_0 1 rfl rfl 0 rfl ?_
  refine j_get C dX4_isMarching_1 4 rfl hiX4 0 rfl rfl 7 (by decide) rfl kX4_isMarching_f49 rfl ?_
  refine j_iconst (v := 2) C dX4_isMarching_4 5 rfl (by decide) ?_
  refine j_irem C dX4_isMarching_5 6 rfl (by decide) ?_
  refine j_if_ne C dX4_isMarching_6 21 rfl 9 rfl (fun c1 => ?_) (fun c1 => ?_)
  · rw [if_neg c1] at hR
    refine j_iconst (v := 0) C dX4_isMarching_21 22 rfl (by decide) ?_
    exact Rt.ret (hR) (show narrow .boolean (.int (0 : Int32)) = .int (0 : Int32) from rfl) dX4_isMarching_22
  · rw [if_pos c1] at hR
    refine j_aload_n C dX4_isMarching_9 10 rfl rfl 0 rfl ?_
    refine j_iload_n C dX4_isMarching_10 11 rfl rfl 1 rfl ?_
    refine j_cv0I (na := 1) C dX4_isMarching_11 14 rfl (c_X4_isOnBeat τ a lw kd bt ph cn no ct sc rn lg dn zz x1 (by first | assumption | exact vp_in_iff.mpr ⟨by omega, by omega⟩ | exact nz_nle (by assumption) | exact nz_lt (by assumption) | omega)) gX4_isMarching_X4_isOnBeat rfl rfl rfl qd_X4_isOnBeat rfl ⟨by decide, by decide⟩ ⟨by decide, by decide⟩ rfl (Nat.le_of_ble_eq_true rfl) rfl 4 0 rfl rfl (fun r2 u2 hX2 hn2 => ?_)
    obtain rfl := (Prod.mk.inj hX2).1
    refine j_if_eq C dX4_isMarching_14 21 rfl 17 rfl (fun c3 => ?_) (fun c3 => ?_)
    · rw [if_pos c3] at hR
      refine j_iconst (v := 0) C dX4_isMarching_21 22 rfl (by decide) ?_
      exact Rt.ret (hR) (show narrow .boolean (.int (0 : Int32)) = .int (0 : Int32) from rfl) dX4_isMarching_22
    · rw [if_neg c3] at hR
      refine j_iconst (v := 1) C dX4_isMarching_17 18 rfl (by decide) ?_
      refine j_goto C dX4_isMarching_18 22 rfl ?_
      exact Rt.ret (hR) (show narrow .boolean (.int (1 : Int32)) = .int (1 : Int32) from rfl) dX4_isMarching_22

-- X4_isSounding
def f_X4_isSounding (lw : Nat → Int32) (kd : Nat → Int32) (bt : Nat → Int32) (ph : Nat → Int32) (sc : Int32) (rn : Int32) (x1 : Int32) : Int32 := (if (kd (x1).toNatClampNeg) = 1 then (f_X4_isCooking lw bt ph sc rn x1) else (if (kd (x1).toNatClampNeg) = 2 then (f_X4_isMarching bt ph sc x1) else (if (kd (x1).toNatClampNeg) = 3 then (if ((f_X4_isCooking lw bt ph sc rn x1) = 0) then (if ((sc - sc / 7 * 7) = 0) then (1 : Int32) else (0 : Int32)) else (1 : Int32)) else (if (kd (x1).toNatClampNeg) = 4 then (if ((f_X4_isMarching bt ph sc x1) = 0) then (if (rn = ((2 : Int32) * (bt (x1).toNatClampNeg))) then (1 : Int32) else (0 : Int32)) else (1 : Int32)) else (if (kd (x1).toNatClampNeg) = 5 then (if (rn < (lw 2)) then (0 : Int32) else (1 : Int32)) else (f_X4_isOnBeat bt ph sc x1))))))
theorem kX4_isSounding_f15 : Cond.fieldLink RX4 15 "TwoMinutes$Town" "kinds" "[I" ∈ wsX4_isSounding := by decide +kernel
theorem kX4_isSounding_f49 : Cond.fieldLink RX4 49 "TwoMinutes$Town" "second" "I" ∈ wsX4_isSounding := by decide +kernel
theorem kX4_isSounding_f55 : Cond.fieldLink RX4 55 "TwoMinutes$Town" "run" "I" ∈ wsX4_isSounding := by decide +kernel
theorem kX4_isSounding_f18 : Cond.fieldLink RX4 18 "TwoMinutes$Town" "beats" "[I" ∈ wsX4_isSounding := by decide +kernel
theorem kX4_isSounding_f9 : Cond.fieldLink RX4 9 "TwoMinutes$Town" "laws" "[I" ∈ wsX4_isSounding := by decide +kernel
theorem qd_X4_isSounding : yX4_isSounding.cls = RX4 ∧ yX4_isSounding.cls ≠ "java/lang/invoke/MethodHandle" ∧ yX4_isSounding.cls ≠ "java/lang/invoke/VarHandle" ∧ (parseMethodDescriptor yX4_isSounding.desc).map (fun d => d.parameters.length) = some 1 := by decide +kernel
abbrev rmX4_isSounding : Room := { frames := 2, cells := 0, slots := 0, locals := 43 }
set_option maxHeartbeats 4000000 in
set_option maxRecDepth 100000 in
theorem c_X4_isSounding (τ : SX) (a : Nat → Nat) (lw : Nat → Int32) (kd : Nat → Int32) (bt : Nat → Int32) (ph : Nat → Int32) (cn : Nat → Int32) (no : Nat → Int32) (ct : Int32) (sc : Int32) (rn : Int32) (lg : Int32) (dn : Int32) (zz : Int32) (x1 : Int32) (hv : vp_in x1 8) (sz : Nat) : McI τ yX4_isSounding wsX4_isSounding rmX4_isSounding .boolean [.ref (a 0), .int x1] (wT τ a lw kd bt ph cn no ct sc rn lg dn zz) (fun _ : Unit => (wT τ a lw kd bt ph cn no ct sc rn lg dn zz)) (f_X4_isSounding lw kd bt ph sc rn x1, ()) sz := by
  refine mc_I (cc := cX4_isSounding) (own := RX4) [(0, .ref (a 0)), (1, .int x1)] rfl (by decide) rfl rfl (Nat.le_of_ble_eq_true rfl) (fun κ C hR => ?_)
  have hiX4 : ∀ w ∈ wsX40, w ∈ wsX4_isSounding := fun w h => List.mem_cons_of_mem _ (List.mem_append_right _ h)
  unfold f_X4_isSounding at hR
  refine j_aload_n C dX4_isSounding_0 1 rfl rfl 0 rfl ?_
  refine j_get C dX4_isSounding_1 4 rfl hiX4 0 rfl rfl 1 (by decide) rfl kX4_isSounding_f15 rfl ?_
  refine j_iload_n C dX4_isSounding_4 5 rfl rfl 1 rfl ?_
  refine j_iald C dX4_isSounding_5 6 rfl 2 rfl (by first | assumption | exact vp_in_iff.mpr ⟨by omega, by omega⟩ | exact nz_nle (by assumption) | exact nz_lt (by assumption) | omega) (x1).toNatClampNeg rfl ?_
  by_cases c2 : (kd (x1).toNatClampNeg) = 1
  · rw [if_pos c2] at hR
    refine j_tabIn C dX4_isSounding_6 (by rw [c2]; decide) (by rw [c2]; decide) (by rw [c2]; rfl) 40 rfl ?_
    refine j_aload_n C dX4_isSounding_40 41 rfl rfl 0 rfl ?_
    refine j_iload_n C dX4_isSounding_41 42 rfl rfl 1 rfl ?_
    refine j_cv0I (na := 1) C dX4_isSounding_42 45 rfl (c_X4_isCooking τ a lw kd bt ph cn no ct sc rn lg dn zz x1 (by first | assumption | exact vp_in_iff.mpr ⟨by omega, by omega⟩ | exact nz_nle (by assumption) | exact nz_lt (by assumption) | omega)) gX4_isSounding_X4_isCooking rfl rfl rfl qd_X4_isCooking rfl ⟨by decide, by decide⟩ ⟨by decide, by decide⟩ rfl (Nat.le_of_ble_eq_true rfl) rfl 4 0 rfl rfl (fun r1 u1 hX1 hn1 => ?_)
    obtain rfl := (Prod.mk.inj hX1).1
    exact Rt.ret (hR) (by assumption) dX4_isSounding_45
  rw [if_neg c2] at hR
  by_cases c4 : (kd (x1).toNatClampNeg) = 2
  · rw [if_pos c4] at hR
    refine j_tabIn C dX4_isSounding_6 (by rw [c4]; decide) (by rw [c4]; decide) (by rw [c4]; rfl) 70 rfl ?_
    refine j_aload_n C dX4_isSounding_70 71 rfl rfl 0 rfl ?_
    refine j_iload_n C dX4_isSounding_71 72 rfl rfl 1 rfl ?_
    refine j_cv0I (na := 1) C dX4_isSounding_72 75 rfl (c_X4_isMarching τ a lw kd bt ph cn no ct sc rn lg dn zz x1 (by first | assumption | exact vp_in_iff.mpr ⟨by omega, by omega⟩ | exact nz_nle (by assumption) | exact nz_lt (by assumption) | omega)) gX4_isSounding_X4_isMarching rfl rfl rfl qd_X4_isMarching rfl ⟨by decide, by decide⟩ ⟨by decide, by decide⟩ rfl (Nat.le_of_ble_eq_true rfl) rfl 4 0 rfl rfl (fun r3 u3 hX3 hn3 => ?_)
    obtain rfl := (Prod.mk.inj hX3).1
    exact Rt.ret (hR) (by assumption) dX4_isSounding_75
  rw [if_neg c4] at hR
  by_cases c8 : (kd (x1).toNatClampNeg) = 3
  · rw [if_pos c8] at hR
    refine j_tabIn C dX4_isSounding_6 (by rw [c8]; decide) (by rw [c8]; decide) (by rw [c8]; rfl) 46 rfl ?_
    refine j_aload_n C dX4_isSounding_46 47 rfl rfl 0 rfl ?_
    refine j_iload_n C dX4_isSounding_47 48 rfl rfl 1 rfl ?_
    refine j_cv0I (na := 1) C dX4_isSounding_48 51 rfl (c_X4_isCooking τ a lw kd bt ph cn no ct sc rn lg dn zz x1 (by first | assumption | exact vp_in_iff.mpr ⟨by omega, by omega⟩ | exact nz_nle (by assumption) | exact nz_lt (by assumption) | omega)) gX4_isSounding_X4_isCooking rfl rfl rfl qd_X4_isCooking rfl ⟨by decide, by decide⟩ ⟨by decide, by decide⟩ rfl (Nat.le_of_ble_eq_true rfl) rfl 4 0 rfl rfl (fun r5 u5 hX5 hn5 => ?_)
    obtain rfl := (Prod.mk.inj hX5).1
    refine j_if_ne C dX4_isSounding_51 64 rfl 54 rfl (fun c6 => ?_) (fun c6 => ?_)
    · rw [if_neg c6] at hR
      refine j_iconst (v := 1) C dX4_isSounding_64 65 rfl (by decide) ?_
      refine j_goto C dX4_isSounding_65 69 rfl ?_
      exact Rt.ret (hR) (show narrow .boolean (.int (1 : Int32)) = .int (1 : Int32) from rfl) dX4_isSounding_69
    · rw [if_pos c6] at hR
      refine j_aload_n C dX4_isSounding_54 55 rfl rfl 0 rfl ?_
      refine j_get C dX4_isSounding_55 58 rfl hiX4 0 rfl rfl 7 (by decide) rfl kX4_isSounding_f49 rfl ?_
      refine j_bipush (v := 7) C dX4_isSounding_58 60 rfl (by decide) ?_
      refine j_irem C dX4_isSounding_60 61 rfl (by decide) ?_
      refine j_if_ne C dX4_isSounding_61 68 rfl 64 rfl (fun c7 => ?_) (fun c7 => ?_)
      · rw [if_neg c7] at hR
        refine j_iconst (v := 0) C dX4_isSounding_68 69 rfl (by decide) ?_
        exact Rt.ret (hR) (show narrow .boolean (.int (0 : Int32)) = .int (0 : Int32) from rfl) dX4_isSounding_69
      · rw [if_pos c7] at hR
        refine j_iconst (v := 1) C dX4_isSounding_64 65 rfl (by decide) ?_
        refine j_goto C dX4_isSounding_65 69 rfl ?_
        exact Rt.ret (hR) (show narrow .boolean (.int (1 : Int32)) = .int (1 : Int32) from rfl) dX4_isSounding_69
  rw [if_neg c8] at hR
  by_cases c12 : (kd (x1).toNatClampNeg) = 4
  · rw [if_pos c12] at hR
    refine j_tabIn C dX4_isSounding_6 (by rw [c12]; decide) (by rw [c12]; decide) (by rw [c12]; rfl) 76 rfl ?_
    refine j_aload_n C dX4_isSounding_76 77 rfl rfl 0 rfl ?_
    refine j_iload_n C dX4_isSounding_77 78 rfl rfl 1 rfl ?_
    refine j_cv0I (na := 1) C dX4_isSounding_78 81 rfl (c_X4_isMarching τ a lw kd bt ph cn no ct sc rn lg dn zz x1 (by first | assumption | exact vp_in_iff.mpr ⟨by omega, by omega⟩ | exact nz_nle (by assumption) | exact nz_lt (by assumption) | omega)) gX4_isSounding_X4_isMarching rfl rfl rfl qd_X4_isMarching rfl ⟨by decide, by decide⟩ ⟨by decide, by decide⟩ rfl (Nat.le_of_ble_eq_true rfl) rfl 4 0 rfl rfl (fun r9 u9 hX9 hn9 => ?_)
    obtain rfl := (Prod.mk.inj hX9).1
    refine j_if_ne C dX4_isSounding_81 99 rfl 84 rfl (fun c10 => ?_) (fun c10 => ?_)
    · rw [if_neg c10] at hR
      refine j_iconst (v := 1) C dX4_isSounding_99 100 rfl (by decide) ?_
      refine j_goto C dX4_isSounding_100 104 rfl ?_
      exact Rt.ret (hR) (show narrow .boolean (.int (1 : Int32)) = .int (1 : Int32) from rfl) dX4_isSounding_104
    · rw [if_pos c10] at hR
      refine j_aload_n C dX4_isSounding_84 85 rfl rfl 0 rfl ?_
      refine j_get C dX4_isSounding_85 88 rfl hiX4 0 rfl rfl 8 (by decide) rfl kX4_isSounding_f55 rfl ?_
      refine j_iconst (v := 2) C dX4_isSounding_88 89 rfl (by decide) ?_
      refine j_aload_n C dX4_isSounding_89 90 rfl rfl 0 rfl ?_
      refine j_get C dX4_isSounding_90 93 rfl hiX4 0 rfl rfl 2 (by decide) rfl kX4_isSounding_f18 rfl ?_
      refine j_iload_n C dX4_isSounding_93 94 rfl rfl 1 rfl ?_
      refine j_iald C dX4_isSounding_94 95 rfl 3 rfl (by first | assumption | exact vp_in_iff.mpr ⟨by omega, by omega⟩ | exact nz_nle (by assumption) | exact nz_lt (by assumption) | omega) (x1).toNatClampNeg rfl ?_
      refine j_imul C dX4_isSounding_95 96 rfl ?_
      refine j_icmp_ne C dX4_isSounding_96 103 rfl 99 rfl (fun c11 => ?_) (fun c11 => ?_)
      · rw [if_neg c11] at hR
        refine j_iconst (v := 0) C dX4_isSounding_103 104 rfl (by decide) ?_
        exact Rt.ret (hR) (show narrow .boolean (.int (0 : Int32)) = .int (0 : Int32) from rfl) dX4_isSounding_104
      · rw [if_pos c11] at hR
        refine j_iconst (v := 1) C dX4_isSounding_99 100 rfl (by decide) ?_
        refine j_goto C dX4_isSounding_100 104 rfl ?_
        exact Rt.ret (hR) (show narrow .boolean (.int (1 : Int32)) = .int (1 : Int32) from rfl) dX4_isSounding_104
  rw [if_neg c12] at hR
  by_cases c14 : (kd (x1).toNatClampNeg) = 5
  · rw [if_pos c14] at hR
    refine j_tabIn C dX4_isSounding_6 (by rw [c14]; decide) (by rw [c14]; decide) (by rw [c14]; rfl) 105 rfl ?_
    refine j_aload_n C dX4_isSounding_105 106 rfl rfl 0 rfl ?_
    refine j_get C dX4_isSounding_106 109 rfl hiX4 0 rfl rfl 8 (by decide) rfl kX4_isSounding_f55 rfl ?_
    refine j_aload_n C dX4_isSounding_109 110 rfl rfl 0 rfl ?_
    refine j_get C dX4_isSounding_110 113 rfl hiX4 0 rfl rfl 0 (by decide) rfl kX4_isSounding_f9 rfl ?_
    refine j_iconst (v := 2) C dX4_isSounding_113 114 rfl (by decide) ?_
    refine j_iald C dX4_isSounding_114 115 rfl 1 rfl (by unfold vp_in; decide) 2 rfl ?_
    refine j_icmp_lt C dX4_isSounding_115 122 rfl 118 rfl (fun c13 => ?_) (fun c13 => ?_)
    · rw [if_pos c13] at hR
      refine j_iconst (v := 0) C dX4_isSounding_122 123 rfl (by decide) ?_
      exact Rt.ret (hR) (show narrow .boolean (.int (0 : Int32)) = .int (0 : Int32) from rfl) dX4_isSounding_123
    · rw [if_neg c13] at hR
      refine j_iconst (v := 1) C dX4_isSounding_118 119 rfl (by decide) ?_
      refine j_goto C dX4_isSounding_119 123 rfl ?_
      exact Rt.ret (hR) (show narrow .boolean (.int (1 : Int32)) = .int (1 : Int32) from rfl) dX4_isSounding_123
  rw [if_neg c14] at hR
  refine j_tabOut C dX4_isSounding_6 (by have n2 := lv_neT (a := 1) c2 (by decide); have n4 := lv_neT (a := 2) c4 (by decide); have n8 := lv_neT (a := 3) c8 (by decide); have n12 := lv_neT (a := 4) c12 (by decide); have n14 := lv_neT (a := 5) c14 (by decide); omega) 124 rfl ?_
  refine j_aload_n C dX4_isSounding_124 125 rfl rfl 0 rfl ?_
  refine j_iload_n C dX4_isSounding_125 126 rfl rfl 1 rfl ?_
  refine j_cv0I (na := 1) C dX4_isSounding_126 129 rfl (c_X4_isOnBeat τ a lw kd bt ph cn no ct sc rn lg dn zz x1 (by first | assumption | exact vp_in_iff.mpr ⟨by omega, by omega⟩ | exact nz_nle (by assumption) | exact nz_lt (by assumption) | omega)) gX4_isSounding_X4_isOnBeat rfl rfl rfl qd_X4_isOnBeat rfl ⟨by decide, by decide⟩ ⟨by decide, by decide⟩ rfl (Nat.le_of_ble_eq_true rfl) rfl 4 0 rfl rfl (fun r15 u15 hX15 hn15 => ?_)
  obtain rfl := (Prod.mk.inj hX15).1
  exact Rt.ret (hR) (by assumption) dX4_isSounding_129

-- X4_reachOf
def f_X4_reachOf (lw : Nat → Int32) (kd : Nat → Int32) (ph : Nat → Int32) (x1 : Int32) : Int32 := (if (kd (x1).toNatClampNeg) = 1 then ((2 : Int32) + (lw 1)) else (if (kd (x1).toNatClampNeg) = 2 then (1 : Int32) else (if (kd (x1).toNatClampNeg) = 3 then (((2 : Int32) + (lw 1)) * 2) else (if (kd (x1).toNatClampNeg) = 4 then ((1 : Int32) + ((ph (x1).toNatClampNeg) / 3)) else (if (kd (x1).toNatClampNeg) = 5 then (6 : Int32) else (2 : Int32))))))
theorem kX4_reachOf_f15 : Cond.fieldLink RX4 15 "TwoMinutes$Town" "kinds" "[I" ∈ wsX4_reachOf := by decide +kernel
theorem kX4_reachOf_f9 : Cond.fieldLink RX4 9 "TwoMinutes$Town" "laws" "[I" ∈ wsX4_reachOf := by decide +kernel
theorem kX4_reachOf_f21 : Cond.fieldLink RX4 21 "TwoMinutes$Town" "phases" "[I" ∈ wsX4_reachOf := by decide +kernel
theorem qd_X4_reachOf : yX4_reachOf.cls = RX4 ∧ yX4_reachOf.cls ≠ "java/lang/invoke/MethodHandle" ∧ yX4_reachOf.cls ≠ "java/lang/invoke/VarHandle" ∧ (parseMethodDescriptor yX4_reachOf.desc).map (fun d => d.parameters.length) = some 1 := by decide +kernel
abbrev rmX4_reachOf : Room := { frames := 0, cells := 0, slots := 0, locals := 0 }
set_option maxHeartbeats 4000000 in
set_option maxRecDepth 100000 in
theorem c_X4_reachOf (τ : SX) (a : Nat → Nat) (lw : Nat → Int32) (kd : Nat → Int32) (bt : Nat → Int32) (ph : Nat → Int32) (cn : Nat → Int32) (no : Nat → Int32) (ct : Int32) (sc : Int32) (rn : Int32) (lg : Int32) (dn : Int32) (zz : Int32) (x1 : Int32) (hv : vp_in x1 8) (sz : Nat) : McI τ yX4_reachOf wsX4_reachOf rmX4_reachOf .int [.ref (a 0), .int x1] (wT τ a lw kd bt ph cn no ct sc rn lg dn zz) (fun _ : Unit => (wT τ a lw kd bt ph cn no ct sc rn lg dn zz)) (f_X4_reachOf lw kd ph x1, ()) sz := by
  refine mc_I (cc := cX4_reachOf) (own := RX4) [(0, .ref (a 0)), (1, .int x1)] rfl (by decide) rfl rfl (Nat.le_of_ble_eq_true rfl) (fun κ C hR => ?_)
  have hiX4 : ∀ w ∈ wsX40, w ∈ wsX4_reachOf := fun w h => List.mem_cons_of_mem _ (List.mem_append_right _ h)
  unfold f_X4_reachOf at hR
  refine j_aload_n C dX4_reachOf_0 1 rfl rfl 0 rfl ?_
  refine j_get C dX4_reachOf_1 4 rfl hiX4 0 rfl rfl 1 (by decide) rfl kX4_reachOf_f15 rfl ?_
  refine j_iload_n C dX4_reachOf_4 5 rfl rfl 1 rfl ?_
  refine j_iald C dX4_reachOf_5 6 rfl 2 rfl (by first | assumption | exact vp_in_iff.mpr ⟨by omega, by omega⟩ | exact nz_nle (by assumption) | exact nz_lt (by assumption) | omega) (x1).toNatClampNeg rfl ?_
  by_cases c1 : (kd (x1).toNatClampNeg) = 1
  · rw [if_pos c1] at hR
    refine j_tabIn C dX4_reachOf_6 (by rw [c1]; decide) (by rw [c1]; decide) (by rw [c1]; rfl) 40 rfl ?_
    refine j_iconst (v := 2) C dX4_reachOf_40 41 rfl (by decide) ?_
    refine j_aload_n C dX4_reachOf_41 42 rfl rfl 0 rfl ?_
    refine j_get C dX4_reachOf_42 45 rfl hiX4 0 rfl rfl 0 (by decide) rfl kX4_reachOf_f9 rfl ?_
    refine j_iconst (v := 1) C dX4_reachOf_45 46 rfl (by decide) ?_
    refine j_iald C dX4_reachOf_46 47 rfl 1 rfl (by unfold vp_in; decide) 1 rfl ?_
    refine j_iadd C dX4_reachOf_47 48 rfl ?_
    exact Rt.ret (hR) rfl dX4_reachOf_48
  rw [if_neg c1] at hR
  by_cases c2 : (kd (x1).toNatClampNeg) = 2
  · rw [if_pos c2] at hR
    refine j_tabIn C dX4_reachOf_6 (by rw [c2]; decide) (by rw [c2]; decide) (by rw [c2]; rfl) 60 rfl ?_
    refine j_iconst (v := 1) C dX4_reachOf_60 61 rfl (by decide) ?_
    exact Rt.ret (hR) rfl dX4_reachOf_61
  rw [if_neg c2] at hR
  by_cases c3 : (kd (x1).toNatClampNeg) = 3
  · rw [if_pos c3] at hR
    refine j_tabIn C dX4_reachOf_6 (by rw [c3]; decide) (by rw [c3]; decide) (by rw [c3]; rfl) 49 rfl ?_
    refine j_iconst (v := 2) C dX4_reachOf_49 50 rfl (by decide) ?_
    refine j_aload_n C dX4_reachOf_50 51 rfl rfl 0 rfl ?_
    refine j_get C dX4_reachOf_51 54 rfl hiX4 0 rfl rfl 0 (by decide) rfl kX4_reachOf_f9 rfl ?_
    refine j_iconst (v := 1) C dX4_reachOf_54 55 rfl (by decide) ?_
    refine j_iald C dX4_reachOf_55 56 rfl 1 rfl (by unfold vp_in; decide) 1 rfl ?_
    refine j_iadd C dX4_reachOf_56 57 rfl ?_
    refine j_iconst (v := 2) C dX4_reachOf_57 58 rfl (by decide) ?_
    refine j_imul C dX4_reachOf_58 59 rfl ?_
    exact Rt.ret (hR) rfl dX4_reachOf_59
  rw [if_neg c3] at hR
  by_cases c4 : (kd (x1).toNatClampNeg) = 4
  · rw [if_pos c4] at hR
    refine j_tabIn C dX4_reachOf_6 (by rw [c4]; decide) (by rw [c4]; decide) (by rw [c4]; rfl) 62 rfl ?_
    refine j_iconst (v := 1) C dX4_reachOf_62 63 rfl (by decide) ?_
    refine j_aload_n C dX4_reachOf_63 64 rfl rfl 0 rfl ?_
    refine j_get C dX4_reachOf_64 67 rfl hiX4 0 rfl rfl 3 (by decide) rfl kX4_reachOf_f21 rfl ?_
    refine j_iload_n C dX4_reachOf_67 68 rfl rfl 1 rfl ?_
    refine j_iald C dX4_reachOf_68 69 rfl 4 rfl (by first | assumption | exact vp_in_iff.mpr ⟨by omega, by omega⟩ | exact nz_nle (by assumption) | exact nz_lt (by assumption) | omega) (x1).toNatClampNeg rfl ?_
    refine j_iconst (v := 3) C dX4_reachOf_69 70 rfl (by decide) ?_
    refine j_idiv C dX4_reachOf_70 71 rfl (by decide) ?_
    refine j_iadd C dX4_reachOf_71 72 rfl ?_
    exact Rt.ret (hR) rfl dX4_reachOf_72
  rw [if_neg c4] at hR
  by_cases c5 : (kd (x1).toNatClampNeg) = 5
  · rw [if_pos c5] at hR
    refine j_tabIn C dX4_reachOf_6 (by rw [c5]; decide) (by rw [c5]; decide) (by rw [c5]; rfl) 73 rfl ?_
    refine j_bipush (v := 6) C dX4_reachOf_73 75 rfl (by decide) ?_
    exact Rt.ret (hR) rfl dX4_reachOf_75
  rw [if_neg c5] at hR
  refine j_tabOut C dX4_reachOf_6 (by have n1 := lv_neT (a := 1) c1 (by decide); have n2 := lv_neT (a := 2) c2 (by decide); have n3 := lv_neT (a := 3) c3 (by decide); have n4 := lv_neT (a := 4) c4 (by decide); have n5 := lv_neT (a := 5) c5 (by decide); omega) 76 rfl ?_
  refine j_iconst (v := 2) C dX4_reachOf_76 77 rfl (by decide) ?_
  exact Rt.ret (hR) rfl dX4_reachOf_77

-- X4_has
def f_X4_has (ct : Int32) (x1 : Int32) : Int32 := (f_X5_isIn x1 (0 : Int32) (ct - 1))
theorem kX4_has_f46 : Cond.fieldLink RX4 46 "TwoMinutes$Town" "count" "I" ∈ wsX4_has := by decide +kernel
theorem kX4_has_iRX5 : Cond.initialized yX5_isIn.cls ∈ wsX4_has := by decide +kernel
theorem kX4_has_sX5_isIn : Cond.static yX5_isIn ∈ wsX4_has := by decide +kernel
theorem qd_X4_has : yX4_has.cls = RX4 ∧ yX4_has.cls ≠ "java/lang/invoke/MethodHandle" ∧ yX4_has.cls ≠ "java/lang/invoke/VarHandle" ∧ (parseMethodDescriptor yX4_has.desc).map (fun d => d.parameters.length) = some 1 := by decide +kernel
abbrev rmX4_has : Room := { frames := 1, cells := 0, slots := 0, locals := 22 }
set_option maxHeartbeats 4000000 in
set_option maxRecDepth 100000 in
theorem c_X4_has (τ : SX) (a : Nat → Nat) (lw : Nat → Int32) (kd : Nat → Int32) (bt : Nat → Int32) (ph : Nat → Int32) (cn : Nat → Int32) (no : Nat → Int32) (ct : Int32) (sc : Int32) (rn : Int32) (lg : Int32) (dn : Int32) (zz : Int32) (x1 : Int32) (sz : Nat) : McI τ yX4_has wsX4_has rmX4_has .boolean [.ref (a 0), .int x1] (wT τ a lw kd bt ph cn no ct sc rn lg dn zz) (fun _ : Unit => (wT τ a lw kd bt ph cn no ct sc rn lg dn zz)) (f_X4_has ct x1, ()) sz := by
  refine mc_I (cc := cX4_has) (own := RX4) [(0, .ref (a 0)), (1, .int x1)] rfl (by decide) rfl rfl (Nat.le_of_ble_eq_true rfl) (fun κ C hR => ?_)
  have hiX4 : ∀ w ∈ wsX40, w ∈ wsX4_has := fun w h => List.mem_cons_of_mem _ (List.mem_append_right _ h)
  unfold f_X4_has at hR
  refine j_iload_n C dX4_has_0 1 rfl rfl 1 rfl ?_
  refine j_iconst (v := 0) C dX4_has_1 2 rfl (by decide) ?_
  refine j_aload_n C dX4_has_2 3 rfl rfl 0 rfl ?_
  refine j_get C dX4_has_3 6 rfl hiX4 0 rfl rfl 6 (by decide) rfl kX4_has_f46 rfl ?_
  refine j_iconst (v := 1) C dX4_has_6 7 rfl (by decide) ?_
  refine j_isub C dX4_has_7 8 rfl ?_
  refine j_csN (na := 3) C dX4_has_8 11 rfl (c_X5_isIn τ  x1 (0 : Int32) (ct - 1) ) rfl ggX4_has_X5_isIn rfl rfl rfl kX4_has_iRX5 (host := RX5) (by decide +kernel) kX4_has_sX5_isIn qd_X5_isIn rfl ⟨by decide, by decide⟩ ⟨by decide, by decide⟩ rfl (Nat.le_of_ble_eq_true rfl) (fun r1 u1 hX1 hn1 => ?_)
  obtain rfl := (Prod.mk.inj hX1).1
  exact Rt.ret (hR) (by assumption) dX4_has_11

-- X4_add
def f_X4_add (kd : Nat → Int32) (bt : Nat → Int32) (ph : Nat → Int32) (cn : Nat → Int32) (no : Nat → Int32) (ct : Int32) (x1 : Int32) (x2 : Int32) (x3 : Int32) (x4 : Int32) : (Nat → Int32) × (Nat → Int32) × (Nat → Int32) × (Nat → Int32) × (Nat → Int32) × Int32 := if (ct < 8) then ((upd kd (ct).toNatClampNeg x1), (upd bt (ct).toNatClampNeg x2), (upd ph (ct).toNatClampNeg x3), (upd cn (ct).toNatClampNeg x4), (upd no (ct).toNatClampNeg 0), (ct + 1)) else (kd, bt, ph, cn, no, ct)
theorem kX4_add_f46 : Cond.fieldLink RX4 46 "TwoMinutes$Town" "count" "I" ∈ wsX4_add := by decide +kernel
theorem kX4_add_f15 : Cond.fieldLink RX4 15 "TwoMinutes$Town" "kinds" "[I" ∈ wsX4_add := by decide +kernel
theorem kX4_add_f18 : Cond.fieldLink RX4 18 "TwoMinutes$Town" "beats" "[I" ∈ wsX4_add := by decide +kernel
theorem kX4_add_f21 : Cond.fieldLink RX4 21 "TwoMinutes$Town" "phases" "[I" ∈ wsX4_add := by decide +kernel
theorem kX4_add_f24 : Cond.fieldLink RX4 24 "TwoMinutes$Town" "corners" "[I" ∈ wsX4_add := by decide +kernel
theorem kX4_add_f27 : Cond.fieldLink RX4 27 "TwoMinutes$Town" "noises" "[I" ∈ wsX4_add := by decide +kernel
theorem qd_X4_add : yX4_add.cls = RX4 ∧ yX4_add.cls ≠ "java/lang/invoke/MethodHandle" ∧ yX4_add.cls ≠ "java/lang/invoke/VarHandle" ∧ (parseMethodDescriptor yX4_add.desc).map (fun d => d.parameters.length) = some 4 := by decide +kernel
abbrev rmX4_add : Room := { frames := 0, cells := 0, slots := 0, locals := 0 }
set_option maxHeartbeats 4000000 in
set_option maxRecDepth 100000 in
theorem c_X4_add (τ : SX) (a : Nat → Nat) (lw : Nat → Int32) (kd : Nat → Int32) (bt : Nat → Int32) (ph : Nat → Int32) (cn : Nat → Int32) (no : Nat → Int32) (ct : Int32) (sc : Int32) (rn : Int32) (lg : Int32) (dn : Int32) (zz : Int32) (x1 : Int32) (x2 : Int32) (x3 : Int32) (x4 : Int32) (hc0 : 0 ≤ ct.toInt) (sz : Nat) : McV τ yX4_add wsX4_add rmX4_add [.ref (a 0), .int x1, .int x2, .int x3, .int x4] (wT τ a lw kd bt ph cn no ct sc rn lg dn zz) (fun u : (Nat → Int32) × (Nat → Int32) × (Nat → Int32) × (Nat → Int32) × (Nat → Int32) × Int32 => (wT τ a lw u.1 u.2.1 u.2.2.1 u.2.2.2.1 u.2.2.2.2.1 u.2.2.2.2.2 sc rn lg dn zz)) (f_X4_add kd bt ph cn no ct x1 x2 x3 x4) 0 0 sz := by
  refine mc_V (cc := cX4_add) (own := RX4) [(0, .ref (a 0)), (1, .int x1), (2, .int x2), (3, .int x3), (4, .int x4)] rfl (by decide) rfl rfl (Nat.le_of_ble_eq_true rfl) (fun κ C _ hR => ?_)
  have hiX4 : ∀ w ∈ wsX40, w ∈ wsX4_add := fun w h => List.mem_cons_of_mem _ (List.mem_append_right _ h)
  unfold f_X4_add at hR
  refine j_aload_n C dX4_add_0 1 rfl rfl 0 rfl ?_
  refine j_get C dX4_add_1 4 rfl hiX4 0 rfl rfl 6 (by decide) rfl kX4_add_f46 rfl ?_
  refine j_bipush (v := 8) C dX4_add_4 6 rfl (by decide) ?_
  refine j_icmp_lt C dX4_add_6 10 rfl 9 rfl (fun c1 => ?_) (fun c1 => ?_)
  · rw [if_pos c1] at hR
    have hlt := i32_lt.mp c1
    have e8 : (8 : Int32).toInt = 8 := rfl
    refine j_aload_n C dX4_add_10 11 rfl rfl 0 rfl ?_
    refine j_get C dX4_add_11 14 rfl hiX4 0 rfl rfl 1 (by decide) rfl kX4_add_f15 rfl ?_
    refine j_aload_n C dX4_add_14 15 rfl rfl 0 rfl ?_
    refine j_get C dX4_add_15 18 rfl hiX4 0 rfl rfl 6 (by decide) rfl kX4_add_f46 rfl ?_
    refine j_iload_n C dX4_add_18 19 rfl rfl 1 rfl ?_
    refine j_iast C dX4_add_19 20 rfl 2 rfl (by first | assumption | exact vp_in_iff.mpr ⟨by omega, by omega⟩ | exact nz_nle (by assumption) | exact nz_lt (by assumption) | omega) (ct).toNatClampNeg rfl (wT τ a lw (upd kd (ct).toNatClampNeg x1) bt ph cn no ct sc rn lg dn zz) rfl ?_
    refine j_aload_n C dX4_add_20 21 rfl rfl 0 rfl ?_
    refine j_get C dX4_add_21 24 rfl hiX4 0 rfl rfl 2 (by decide) rfl kX4_add_f18 rfl ?_
    refine j_aload_n C dX4_add_24 25 rfl rfl 0 rfl ?_
    refine j_get C dX4_add_25 28 rfl hiX4 0 rfl rfl 6 (by decide) rfl kX4_add_f46 rfl ?_
    refine j_iload_n C dX4_add_28 29 rfl rfl 2 rfl ?_
    refine j_iast C dX4_add_29 30 rfl 3 rfl (by first | assumption | exact vp_in_iff.mpr ⟨by omega, by omega⟩ | exact nz_nle (by assumption) | exact nz_lt (by assumption) | omega) (ct).toNatClampNeg rfl (wT τ a lw (upd kd (ct).toNatClampNeg x1) (upd bt (ct).toNatClampNeg x2) ph cn no ct sc rn lg dn zz) rfl ?_
    refine j_aload_n C dX4_add_30 31 rfl rfl 0 rfl ?_
    refine j_get C dX4_add_31 34 rfl hiX4 0 rfl rfl 3 (by decide) rfl kX4_add_f21 rfl ?_
    refine j_aload_n C dX4_add_34 35 rfl rfl 0 rfl ?_
    refine j_get C dX4_add_35 38 rfl hiX4 0 rfl rfl 6 (by decide) rfl kX4_add_f46 rfl ?_
    refine j_iload_n C dX4_add_38 39 rfl rfl 3 rfl ?_
    refine j_iast C dX4_add_39 40 rfl 4 rfl (by first | assumption | exact vp_in_iff.mpr ⟨by omega, by omega⟩ | exact nz_nle (by assumption) | exact nz_lt (by assumption) | omega) (ct).toNatClampNeg rfl (wT τ a lw (upd kd (ct).toNatClampNeg x1) (upd bt (ct).toNatClampNeg x2) (upd ph (ct).toNatClampNeg x3) cn no ct sc rn lg dn zz) rfl ?_
    refine j_aload_n C dX4_add_40 41 rfl rfl 0 rfl ?_
    refine j_get C dX4_add_41 44 rfl hiX4 0 rfl rfl 4 (by decide) rfl kX4_add_f24 rfl ?_
    refine j_aload_n C dX4_add_44 45 rfl rfl 0 rfl ?_
    refine j_get C dX4_add_45 48 rfl hiX4 0 rfl rfl 6 (by decide) rfl kX4_add_f46 rfl ?_
    refine j_iload C dX4_add_48 50 rfl 4 rfl ?_
    refine j_iast C dX4_add_50 51 rfl 5 rfl (by first | assumption | exact vp_in_iff.mpr ⟨by omega, by omega⟩ | exact nz_nle (by assumption) | exact nz_lt (by assumption) | omega) (ct).toNatClampNeg rfl (wT τ a lw (upd kd (ct).toNatClampNeg x1) (upd bt (ct).toNatClampNeg x2) (upd ph (ct).toNatClampNeg x3) (upd cn (ct).toNatClampNeg x4) no ct sc rn lg dn zz) rfl ?_
    refine j_aload_n C dX4_add_51 52 rfl rfl 0 rfl ?_
    refine j_get C dX4_add_52 55 rfl hiX4 0 rfl rfl 5 (by decide) rfl kX4_add_f27 rfl ?_
    refine j_aload_n C dX4_add_55 56 rfl rfl 0 rfl ?_
    refine j_get C dX4_add_56 59 rfl hiX4 0 rfl rfl 6 (by decide) rfl kX4_add_f46 rfl ?_
    refine j_iconst (v := 0) C dX4_add_59 60 rfl (by decide) ?_
    refine j_iast C dX4_add_60 61 rfl 6 rfl (by first | assumption | exact vp_in_iff.mpr ⟨by omega, by omega⟩ | exact nz_nle (by assumption) | exact nz_lt (by assumption) | omega) (ct).toNatClampNeg rfl (wT τ a lw (upd kd (ct).toNatClampNeg x1) (upd bt (ct).toNatClampNeg x2) (upd ph (ct).toNatClampNeg x3) (upd cn (ct).toNatClampNeg x4) (upd no (ct).toNatClampNeg 0) ct sc rn lg dn zz) rfl ?_
    refine j_aload_n C dX4_add_61 62 rfl rfl 0 rfl ?_
    refine j_dup C dX4_add_62 63 rfl rfl ?_
    refine j_get C dX4_add_63 66 rfl hiX4 0 rfl rfl 6 (by decide) rfl kX4_add_f46 rfl ?_
    refine j_iconst (v := 1) C dX4_add_66 67 rfl (by decide) ?_
    refine j_iadd C dX4_add_67 68 rfl ?_
    refine j_put C dX4_add_68 71 rfl hiX4 tyX4_ok nmX4 0 rfl rfl 6 (by decide) rfl kX4_add_f46 rfl rfl rfl (Nat.le_of_ble_eq_true rfl) (wT τ a lw (upd kd (ct).toNatClampNeg x1) (upd bt (ct).toNatClampNeg x2) (upd ph (ct).toNatClampNeg x3) (upd cn (ct).toNatClampNeg x4) (upd no (ct).toNatClampNeg 0) (ct + 1) sc rn lg dn zz) rfl ?_
    exact hR _ _ dX4_add_71
  · rw [if_neg c1] at hR
    exact hR _ _ dX4_add_9

-- X4_soundingSet
def l_X4_soundingSet_4 (lw : Nat → Int32) (kd : Nat → Int32) (bt : Nat → Int32) (ph : Nat → Int32) (ct : Int32) (sc : Int32) (rn : Int32) : Nat → Int32 → Int32 → Int32 × Int32
  | 0, x1, x2 => (x1, x2)
  | N + 1, x1, x2 => if (ct ≤ x2) then (x1, x2) else (pr1 (if ((f_X4_isSounding lw kd bt ph sc rn x2) = 0) then x1 else (x1 ||| ((1 : Int32) <<< (x2 &&& 31)))) (fun j17_0 => l_X4_soundingSet_4 lw kd bt ph ct sc rn N j17_0 (x2 + 1)))
def f_X4_soundingSet (lw : Nat → Int32) (kd : Nat → Int32) (bt : Nat → Int32) (ph : Nat → Int32) (ct : Int32) (sc : Int32) (rn : Int32) : Int32 := pr2 (l_X4_soundingSet_4 lw kd bt ph ct sc rn 300 (0 : Int32) (0 : Int32)) (fun x1_1 x2_1 => x1_1)
theorem kX4_soundingSet_f46 : Cond.fieldLink RX4 46 "TwoMinutes$Town" "count" "I" ∈ wsX4_soundingSet := by decide +kernel
theorem qd_X4_soundingSet : yX4_soundingSet.cls = RX4 ∧ yX4_soundingSet.cls ≠ "java/lang/invoke/MethodHandle" ∧ yX4_soundingSet.cls ≠ "java/lang/invoke/VarHandle" ∧ (parseMethodDescriptor yX4_soundingSet.desc).map (fun d => d.parameters.length) = some 0 := by decide +kernel
abbrev rmX4_soundingSet : Room := { frames := 3, cells := 0, slots := 0, locals := 64 }
set_option maxHeartbeats 4000000 in
set_option maxRecDepth 100000 in
theorem L_X4_soundingSet_4 {τ : SX} {κ : KX} (C : Cx τ κ cX4_soundingSet RX4 wsX4_soundingSet rmX4_soundingSet 3) (a : Nat → Nat) (lw : Nat → Int32) (kd : Nat → Int32) (bt : Nat → Int32) (ph : Nat → Int32) (cn : Nat → Int32) (no : Nat → Int32) (ct : Int32) (sc : Int32) (rn : Int32) (lg : Int32) (dn : Int32) (zz : Int32) (hct : ct.toInt ≤ 8) (Φ : Int32 × Int32 → Prop) (hE : ∀ (x1 : Int32) (x2 : Int32), Φ (x1, x2) → J τ κ 0 0 (wT τ a lw kd bt ph cn no ct sc rn lg dn zz) [(0, .ref (a 0)), (1, .int x1), (2, .int x2)] 32 []) : ∀ (N : Nat) (x1 : Int32) (x2 : Int32), ((8 : Int) - x2.toInt).toNat < N → (0 ≤ x2.toInt) → (x2.toInt ≤ 8) → Φ (l_X4_soundingSet_4 lw kd bt ph ct sc rn N x1 x2) → J τ κ 0 0 (wT τ a lw kd bt ph cn no ct sc rn lg dn zz) [(0, .ref (a 0)), (1, .int x1), (2, .int x2)] 4 [] := by
  have hiX4 : ∀ w ∈ wsX40, w ∈ wsX4_soundingSet := fun w h => List.mem_cons_of_mem _ (List.mem_append_right _ h)
  intro N
  induction N with
  | zero => intro x1 x2 hm; exact absurd hm (Nat.not_lt_zero _)
  | succ N ih =>
    intro x1 x2 hm h0 h1 hR
    rw [l_X4_soundingSet_4] at hR
    refine j_iload_n C dX4_soundingSet_4 5 rfl rfl 2 rfl ?_
    refine j_aload_n C dX4_soundingSet_5 6 rfl rfl 0 rfl ?_
    refine j_get C dX4_soundingSet_6 9 rfl hiX4 0 rfl rfl 6 (by decide) rfl kX4_soundingSet_f46 rfl ?_
    refine j_icmp_ge C dX4_soundingSet_9 32 rfl 12 rfl (fun c2 => ?_) (fun c2 => ?_)
    · rw [if_pos c2] at hR
      exact j_lv [0, 1, 2] [(0, .ref (a 0)), (1, .int x1), (2, .int x2)] rfl (hE _ _  hR)
    · rw [if_neg c2] at hR
      have hs := cnt_step (B := 8) h0 (hct) (by decide) c2
      refine j_aload_n C dX4_soundingSet_12 13 rfl rfl 0 rfl ?_
      refine j_iload_n C dX4_soundingSet_13 14 rfl rfl 2 rfl ?_
      refine j_cv0I (na := 1) C dX4_soundingSet_14 17 rfl (c_X4_isSounding τ a lw kd bt ph cn no ct sc rn lg dn zz x2 (by first | assumption | exact vp_in_iff.mpr ⟨by omega, by omega⟩ | exact nz_nle (by assumption) | exact nz_lt (by assumption) | omega)) gX4_soundingSet_X4_isSounding rfl rfl rfl qd_X4_isSounding rfl ⟨by decide, by decide⟩ ⟨by decide, by decide⟩ rfl (Nat.le_of_ble_eq_true rfl) rfl 4 0 rfl rfl (fun r3 u3 hX3 hn3 => ?_)
      obtain rfl := (Prod.mk.inj hX3).1
      have J17 : ∀ (j17_0 : Int32), Φ (l_X4_soundingSet_4 lw kd bt ph ct sc rn N j17_0 (x2 + 1)) → J τ κ 0 0 (wT τ a lw kd bt ph cn no ct sc rn lg dn zz) [(0, .ref (a 0)), (1, .int j17_0), (2, .int x2)] 26 [] := by
        intro j17_0  hR
        refine j_iinc (v := (x2 + 1)) C dX4_soundingSet_26 29 rfl 2 rfl rfl (by decide) [(2, .int (x2 + 1)), (0, .ref (a 0)), (1, .int j17_0)] rfl ?_
        refine j_goto C dX4_soundingSet_29 4 rfl ?_
        exact j_lv [1, 2, 0] [(0, .ref (a 0)), (1, .int j17_0), (2, .int (x2 + 1))] rfl (ih _ _ (by have := hs.2.2.1; omega) hs.1 hs.2.1 hR)
      refine j_if_eq C dX4_soundingSet_17 26 rfl 20 rfl (fun c4 => ?_) (fun c4 => ?_)
      · rw [if_pos c4] at hR
        rw [pr1_mk x1] at hR
        exact j_lv [0, 1, 2] [(0, .ref (a 0)), (1, .int x1), (2, .int x2)] rfl (J17 _  hR)
      · rw [if_neg c4] at hR
        refine j_iload_n C dX4_soundingSet_20 21 rfl rfl 1 rfl ?_
        refine j_iconst (v := 1) C dX4_soundingSet_21 22 rfl (by decide) ?_
        refine j_iload_n C dX4_soundingSet_22 23 rfl rfl 2 rfl ?_
        refine j_ishl C dX4_soundingSet_23 24 rfl ?_
        refine j_ior C dX4_soundingSet_24 25 rfl ?_
        refine j_istore_n C dX4_soundingSet_25 26 rfl rfl (by decide) [(1, .int (x1 ||| ((1 : Int32) <<< (x2 &&& 31)))), (0, .ref (a 0)), (2, .int x2)] rfl ?_
        rw [pr1_mk (x1 ||| ((1 : Int32) <<< (x2 &&& 31)))] at hR
        exact j_lv [1, 0, 2] [(0, .ref (a 0)), (1, .int (x1 ||| ((1 : Int32) <<< (x2 &&& 31)))), (2, .int x2)] rfl (J17 _  hR)
set_option maxHeartbeats 4000000 in
set_option maxRecDepth 100000 in
theorem c_X4_soundingSet (τ : SX) (a : Nat → Nat) (lw : Nat → Int32) (kd : Nat → Int32) (bt : Nat → Int32) (ph : Nat → Int32) (cn : Nat → Int32) (no : Nat → Int32) (ct : Int32) (sc : Int32) (rn : Int32) (lg : Int32) (dn : Int32) (zz : Int32) (hct : ct.toInt ≤ 8) (sz : Nat) : McI τ yX4_soundingSet wsX4_soundingSet rmX4_soundingSet .int [.ref (a 0)] (wT τ a lw kd bt ph cn no ct sc rn lg dn zz) (fun _ : Unit => (wT τ a lw kd bt ph cn no ct sc rn lg dn zz)) (f_X4_soundingSet lw kd bt ph ct sc rn, ()) sz := by
  refine mc_I (cc := cX4_soundingSet) (own := RX4) [(0, .ref (a 0))] rfl (by decide) rfl rfl (Nat.le_of_ble_eq_true rfl) (fun κ C hR => ?_)
  have hiX4 : ∀ w ∈ wsX40, w ∈ wsX4_soundingSet := fun w h => List.mem_cons_of_mem _ (List.mem_append_right _ h)
  unfold f_X4_soundingSet at hR
  refine j_iconst (v := 0) C dX4_soundingSet_0 1 rfl (by decide) ?_
  refine j_istore_n C dX4_soundingSet_1 2 rfl rfl (by decide) [(1, .int 0), (0, .ref (a 0))] rfl ?_
  refine j_iconst (v := 0) C dX4_soundingSet_2 3 rfl (by decide) ?_
  refine j_istore_n C dX4_soundingSet_3 4 rfl rfl (by decide) [(2, .int 0), (1, .int 0), (0, .ref (a 0))] rfl ?_
  refine j_lv [2, 1, 0] [(0, .ref (a 0)), (1, .int 0), (2, .int 0)] rfl (L_X4_soundingSet_4 C a lw kd bt ph cn no ct sc rn lg dn zz  hct (fun (o : Int32 × Int32) => Rt τ κ cX4_soundingSet .int (fun _ : Unit => (wT τ a lw kd bt ph cn no ct sc rn lg dn zz)) ((pr2 o (fun x1_1 x2_1 => x1_1), ()))) (fun x1_1 x2_1  hR => ?_) 300 (0 : Int32) (0 : Int32) (by decide) (by decide) (by decide) hR)
  rw [pr2_mk x1_1 x2_1] at hR
  refine j_iload_n C dX4_soundingSet_32 33 rfl rfl 1 rfl ?_
  exact Rt.ret (hR) rfl dX4_soundingSet_33

-- X4_heardOf
def l_X4_heardOf_5 (lw : Nat → Int32) (kd : Nat → Int32) (ph : Nat → Int32) (cn : Nat → Int32) (ct : Int32) (x1 : Int32) (x2 : Int32) : Nat → Int32 → Int32 → Int32 × Int32
  | 0, x3, x4 => (x3, x4)
  | N + 1, x3, x4 => if (ct ≤ x4) then (x3, x4) else (pr1 (if 0 ≤ ((cn (x4).toNatClampNeg) - x2) then ((cn (x4).toNatClampNeg) - x2) else 0 - ((cn (x4).toNatClampNeg) - x2)) (fun n3 => pr1 (if (((x1 >>> (x4 &&& 31)) &&& 1) = 1) then (if ((f_X4_reachOf lw kd ph x4) < (if ((12 : Int32) - n3) < n3 then ((12 : Int32) - n3) else n3)) then x3 else (x3 ||| ((1 : Int32) <<< (x4 &&& 31)))) else x3) (fun j47_0 => l_X4_heardOf_5 lw kd ph cn ct x1 x2 N j47_0 (x4 + 1))))
def f_X4_heardOf (lw : Nat → Int32) (kd : Nat → Int32) (ph : Nat → Int32) (cn : Nat → Int32) (ct : Int32) (x1 : Int32) (x2 : Int32) : Int32 := pr2 (l_X4_heardOf_5 lw kd ph cn ct x1 x2 300 (0 : Int32) (0 : Int32)) (fun x3_1 x4_1 => x3_1)
theorem kX4_heardOf_f46 : Cond.fieldLink RX4 46 "TwoMinutes$Town" "count" "I" ∈ wsX4_heardOf := by decide +kernel
theorem kX4_heardOf_f24 : Cond.fieldLink RX4 24 "TwoMinutes$Town" "corners" "[I" ∈ wsX4_heardOf := by decide +kernel
theorem kX4_heardOf_m81 : Cond.methodLink RX4 81 Lib.Math.abs.name ∈ wsX4_heardOf := by decide +kernel
theorem kX4_heardOf_sabs : Cond.static Lib.Math.abs.name ∈ wsX4_heardOf := by decide +kernel
theorem kX4_heardOf_iMath : Cond.initialized "java/lang/Math" ∈ wsX4_heardOf := by decide +kernel
theorem kX4_heardOf_oabs : Cond.code Lib.Math.abs.name Lib.Math.abs.code 1 (some .int) ∈ wsX4_heardOf := by decide +kernel
theorem kX4_heardOf_m87 : Cond.methodLink RX4 87 Lib.Math.min.name ∈ wsX4_heardOf := by decide +kernel
theorem kX4_heardOf_smin : Cond.static Lib.Math.min.name ∈ wsX4_heardOf := by decide +kernel
theorem kX4_heardOf_omin : Cond.code Lib.Math.min.name Lib.Math.min.code 2 (some .int) ∈ wsX4_heardOf := by decide +kernel
theorem qd_X4_heardOf : yX4_heardOf.cls = RX4 ∧ yX4_heardOf.cls ≠ "java/lang/invoke/MethodHandle" ∧ yX4_heardOf.cls ≠ "java/lang/invoke/VarHandle" ∧ (parseMethodDescriptor yX4_heardOf.desc).map (fun d => d.parameters.length) = some 2 := by decide +kernel
abbrev rmX4_heardOf : Room := { frames := 1, cells := 0, slots := 0, locals := 21 }
set_option maxHeartbeats 4000000 in
set_option maxRecDepth 100000 in
theorem L_X4_heardOf_5 {τ : SX} {κ : KX} (C : Cx τ κ cX4_heardOf RX4 wsX4_heardOf rmX4_heardOf 7) (a : Nat → Nat) (lw : Nat → Int32) (kd : Nat → Int32) (bt : Nat → Int32) (ph : Nat → Int32) (cn : Nat → Int32) (no : Nat → Int32) (ct : Int32) (sc : Int32) (rn : Int32) (lg : Int32) (dn : Int32) (zz : Int32) (x1 : Int32) (x2 : Int32) (hct : ct.toInt ≤ 8) (Φ : Int32 × Int32 → Prop) (hE : ∀ (x3 : Int32) (x4 : Int32), Φ (x3, x4) → J τ κ 0 0 (wT τ a lw kd bt ph cn no ct sc rn lg dn zz) [(0, .ref (a 0)), (1, .int x1), (2, .int x2), (3, .int x3), (4, .int x4)] 74 []) : ∀ (N : Nat) (x3 : Int32) (x4 : Int32), ((8 : Int) - x4.toInt).toNat < N → (0 ≤ x4.toInt) → (x4.toInt ≤ 8) → Φ (l_X4_heardOf_5 lw kd ph cn ct x1 x2 N x3 x4) → J τ κ 0 0 (wT τ a lw kd bt ph cn no ct sc rn lg dn zz) [(0, .ref (a 0)), (1, .int x1), (2, .int x2), (3, .int x3), (4, .int x4)] 5 [] := by
  have hiX4 : ∀ w ∈ wsX40, w ∈ wsX4_heardOf := fun w h => List.mem_cons_of_mem _ (List.mem_append_right _ h)
  intro N
  induction N with
  | zero => intro x3 x4 hm; exact absurd hm (Nat.not_lt_zero _)
  | succ N ih =>
    intro x3 x4 hm h0 h1 hR
    rw [l_X4_heardOf_5] at hR
    refine j_iload C dX4_heardOf_5 7 rfl 4 rfl ?_
    refine j_aload_n C dX4_heardOf_7 8 rfl rfl 0 rfl ?_
    refine j_get C dX4_heardOf_8 11 rfl hiX4 0 rfl rfl 6 (by decide) rfl kX4_heardOf_f46 rfl ?_
    refine j_icmp_ge C dX4_heardOf_11 74 rfl 14 rfl (fun c2 => ?_) (fun c2 => ?_)
    · rw [if_pos c2] at hR
      exact j_lv [0, 1, 2, 3, 4] [(0, .ref (a 0)), (1, .int x1), (2, .int x2), (3, .int x3), (4, .int x4)] rfl (hE _ _  hR)
    · rw [if_neg c2] at hR
      have hs := cnt_step (B := 8) h0 (hct) (by decide) c2
      refine j_aload_n C dX4_heardOf_14 15 rfl rfl 0 rfl ?_
      refine j_get C dX4_heardOf_15 18 rfl hiX4 0 rfl rfl 4 (by decide) rfl kX4_heardOf_f24 rfl ?_
      refine j_iload C dX4_heardOf_18 20 rfl 4 rfl ?_
      refine j_iald C dX4_heardOf_20 21 rfl 5 rfl (by first | assumption | exact vp_in_iff.mpr ⟨by omega, by omega⟩ | exact nz_nle (by assumption) | exact nz_lt (by assumption) | omega) (x4).toNatClampNeg rfl ?_
      refine j_iload_n C dX4_heardOf_21 22 rfl rfl 2 rfl ?_
      refine j_isub C dX4_heardOf_22 23 rfl ?_
      refine j_mabs C dX4_heardOf_23 26 rfl kX4_heardOf_m81 kX4_heardOf_sabs kX4_heardOf_iMath kX4_heardOf_oabs (by decide) (Nat.le_of_ble_eq_true rfl) (by decide) (by decide) ?_
      refine j_nmi (fun n3 en3 => ?_)
      rw [← en3] at hR; rw [pr1_mk n3] at hR
      refine j_istore C dX4_heardOf_26 28 rfl (by decide) [(5, .int n3), (0, .ref (a 0)), (1, .int x1), (2, .int x2), (3, .int x3), (4, .int x4)] rfl ?_
      refine j_iload C dX4_heardOf_28 30 rfl 0 rfl ?_
      refine j_bipush (v := 12) C dX4_heardOf_30 32 rfl (by decide) ?_
      refine j_iload C dX4_heardOf_32 34 rfl 0 rfl ?_
      refine j_isub C dX4_heardOf_34 35 rfl ?_
      refine j_mmin C dX4_heardOf_35 38 rfl kX4_heardOf_m87 kX4_heardOf_smin kX4_heardOf_iMath kX4_heardOf_omin (by decide) (Nat.le_of_ble_eq_true rfl) (by decide) (by decide) ?_
      refine j_istore C dX4_heardOf_38 40 rfl (by decide) [(6, .int (if ((12 : Int32) - n3) < n3 then ((12 : Int32) - n3) else n3)), (5, .int n3), (0, .ref (a 0)), (1, .int x1), (2, .int x2), (3, .int x3), (4, .int x4)] rfl ?_
      refine j_iload_n C dX4_heardOf_40 41 rfl rfl 3 rfl ?_
      refine j_iload C dX4_heardOf_41 43 rfl 6 rfl ?_
      refine j_ishr C dX4_heardOf_43 44 rfl ?_
      refine j_iconst (v := 1) C dX4_heardOf_44 45 rfl (by decide) ?_
      refine j_iand C dX4_heardOf_45 46 rfl ?_
      refine j_iconst (v := 1) C dX4_heardOf_46 47 rfl (by decide) ?_
      have J47 : ∀ (j47_0 : Int32), Φ (l_X4_heardOf_5 lw kd ph cn ct x1 x2 N j47_0 (x4 + 1)) → J τ κ 0 0 (wT τ a lw kd bt ph cn no ct sc rn lg dn zz) [(0, .ref (a 0)), (1, .int x1), (2, .int x2), (3, .int j47_0), (4, .int x4), (5, .int n3), (6, .int (if ((12 : Int32) - n3) < n3 then ((12 : Int32) - n3) else n3))] 68 [] := by
        intro j47_0  hR
        refine j_iinc (v := (x4 + 1)) C dX4_heardOf_68 71 rfl 4 rfl rfl (by decide) [(4, .int (x4 + 1)), (0, .ref (a 0)), (1, .int x1), (2, .int x2), (3, .int j47_0), (5, .int n3), (6, .int (if ((12 : Int32) - n3) < n3 then ((12 : Int32) - n3) else n3))] rfl ?_
        refine j_goto C dX4_heardOf_71 5 rfl ?_
        exact j_lv [1, 2, 3, 4, 0] [(0, .ref (a 0)), (1, .int x1), (2, .int x2), (3, .int j47_0), (4, .int (x4 + 1))] rfl (ih _ _ (by have := hs.2.2.1; omega) hs.1 hs.2.1 hR)
      refine j_icmp_ne C dX4_heardOf_47 68 rfl 50 rfl (fun c4 => ?_) (fun c4 => ?_)
      · rw [if_neg c4] at hR
        rw [pr1_mk x3] at hR
        exact j_lv [2, 3, 4, 5, 6, 1, 0] [(0, .ref (a 0)), (1, .int x1), (2, .int x2), (3, .int x3), (4, .int x4), (5, .int n3), (6, .int (if ((12 : Int32) - n3) < n3 then ((12 : Int32) - n3) else n3))] rfl (J47 _  hR)
      · rw [if_pos c4] at hR
        refine j_iload C dX4_heardOf_50 52 rfl 0 rfl ?_
        refine j_aload_n C dX4_heardOf_52 53 rfl rfl 2 rfl ?_
        refine j_iload C dX4_heardOf_53 55 rfl 6 rfl ?_
        refine j_cv0I (na := 1) C dX4_heardOf_55 58 rfl (c_X4_reachOf τ a lw kd bt ph cn no ct sc rn lg dn zz x4 (by first | assumption | exact vp_in_iff.mpr ⟨by omega, by omega⟩ | exact nz_nle (by assumption) | exact nz_lt (by assumption) | omega)) gX4_heardOf_X4_reachOf rfl rfl rfl qd_X4_reachOf rfl ⟨by decide, by decide⟩ ⟨by decide, by decide⟩ rfl (Nat.le_of_ble_eq_true rfl) rfl 4 0 rfl rfl (fun r5 u5 hX5 hn5 => ?_)
        obtain rfl := (Prod.mk.inj hX5).1
        refine j_icmp_gt C dX4_heardOf_58 68 rfl 61 rfl (fun c6 => ?_) (fun c6 => ?_)
        · rw [if_pos c6] at hR
          rw [pr1_mk x3] at hR
          exact j_lv [2, 3, 4, 5, 6, 1, 0] [(0, .ref (a 0)), (1, .int x1), (2, .int x2), (3, .int x3), (4, .int x4), (5, .int n3), (6, .int (if ((12 : Int32) - n3) < n3 then ((12 : Int32) - n3) else n3))] rfl (J47 _  hR)
        · rw [if_neg c6] at hR
          refine j_iload_n C dX4_heardOf_61 62 rfl rfl 5 rfl ?_
          refine j_iconst (v := 1) C dX4_heardOf_62 63 rfl (by decide) ?_
          refine j_iload C dX4_heardOf_63 65 rfl 6 rfl ?_
          refine j_ishl C dX4_heardOf_65 66 rfl ?_
          refine j_ior C dX4_heardOf_66 67 rfl ?_
          refine j_istore_n C dX4_heardOf_67 68 rfl rfl (by decide) [(3, .int (x3 ||| ((1 : Int32) <<< (x4 &&& 31)))), (6, .int (if ((12 : Int32) - n3) < n3 then ((12 : Int32) - n3) else n3)), (5, .int n3), (0, .ref (a 0)), (1, .int x1), (2, .int x2), (4, .int x4)] rfl ?_
          rw [pr1_mk (x3 ||| ((1 : Int32) <<< (x4 &&& 31)))] at hR
          exact j_lv [3, 4, 5, 0, 6, 2, 1] [(0, .ref (a 0)), (1, .int x1), (2, .int x2), (3, .int (x3 ||| ((1 : Int32) <<< (x4 &&& 31)))), (4, .int x4), (5, .int n3), (6, .int (if ((12 : Int32) - n3) < n3 then ((12 : Int32) - n3) else n3))] rfl (J47 _  hR)
set_option maxHeartbeats 4000000 in
set_option maxRecDepth 100000 in
theorem c_X4_heardOf (τ : SX) (a : Nat → Nat) (lw : Nat → Int32) (kd : Nat → Int32) (bt : Nat → Int32) (ph : Nat → Int32) (cn : Nat → Int32) (no : Nat → Int32) (ct : Int32) (sc : Int32) (rn : Int32) (lg : Int32) (dn : Int32) (zz : Int32) (x1 : Int32) (x2 : Int32) (hct : ct.toInt ≤ 8) (sz : Nat) : McI τ yX4_heardOf wsX4_heardOf rmX4_heardOf .int [.ref (a 0), .int x1, .int x2] (wT τ a lw kd bt ph cn no ct sc rn lg dn zz) (fun _ : Unit => (wT τ a lw kd bt ph cn no ct sc rn lg dn zz)) (f_X4_heardOf lw kd ph cn ct x1 x2, ()) sz := by
  refine mc_I (cc := cX4_heardOf) (own := RX4) [(0, .ref (a 0)), (1, .int x1), (2, .int x2)] rfl (by decide) rfl rfl (Nat.le_of_ble_eq_true rfl) (fun κ C hR => ?_)
  have hiX4 : ∀ w ∈ wsX40, w ∈ wsX4_heardOf := fun w h => List.mem_cons_of_mem _ (List.mem_append_right _ h)
  unfold f_X4_heardOf at hR
  refine j_iconst (v := 0) C dX4_heardOf_0 1 rfl (by decide) ?_
  refine j_istore_n C dX4_heardOf_1 2 rfl rfl (by decide) [(3, .int 0), (0, .ref (a 0)), (1, .int x1), (2, .int x2)] rfl ?_
  refine j_iconst (v := 0) C dX4_heardOf_2 3 rfl (by decide) ?_
  refine j_istore C dX4_heardOf_3 5 rfl (by decide) [(4, .int 0), (3, .int 0), (0, .ref (a 0)), (1, .int x1), (2, .int x2)] rfl ?_
  refine j_lv [2, 3, 4, 1, 0] [(0, .ref (a 0)), (1, .int x1), (2, .int x2), (3, .int 0), (4, .int 0)] rfl (L_X4_heardOf_5 C a lw kd bt ph cn no ct sc rn lg dn zz x1 x2 hct (fun (o : Int32 × Int32) => Rt τ κ cX4_heardOf .int (fun _ : Unit => (wT τ a lw kd bt ph cn no ct sc rn lg dn zz)) ((pr2 o (fun x3_1 x4_1 => x3_1), ()))) (fun x3_1 x4_1  hR => ?_) 300 (0 : Int32) (0 : Int32) (by decide) (by decide) (by decide) hR)
  rw [pr2_mk x3_1 x4_1] at hR
  refine j_iload_n C dX4_heardOf_74 75 rfl rfl 3 rfl ?_
  exact Rt.ret (hR) rfl dX4_heardOf_75

-- X4_setAt
def l_X4_setAt_4 (cn : Nat → Int32) (ct : Int32) (x1 : Int32) : Nat → Int32 → Int32 → Int32 × Int32
  | 0, x2, x3 => (x2, x3)
  | N + 1, x2, x3 => if (ct ≤ x3) then (x2, x3) else (pr1 (if ((cn (x3).toNatClampNeg) = x1) then (x2 ||| ((1 : Int32) <<< (x3 &&& 31))) else x2) (fun j19_0 => l_X4_setAt_4 cn ct x1 N j19_0 (x3 + 1)))
def f_X4_setAt (cn : Nat → Int32) (ct : Int32) (x1 : Int32) : Int32 := pr2 (l_X4_setAt_4 cn ct x1 300 (0 : Int32) (0 : Int32)) (fun x2_1 x3_1 => x2_1)
theorem kX4_setAt_f46 : Cond.fieldLink RX4 46 "TwoMinutes$Town" "count" "I" ∈ wsX4_setAt := by decide +kernel
theorem kX4_setAt_f24 : Cond.fieldLink RX4 24 "TwoMinutes$Town" "corners" "[I" ∈ wsX4_setAt := by decide +kernel
theorem qd_X4_setAt : yX4_setAt.cls = RX4 ∧ yX4_setAt.cls ≠ "java/lang/invoke/MethodHandle" ∧ yX4_setAt.cls ≠ "java/lang/invoke/VarHandle" ∧ (parseMethodDescriptor yX4_setAt.desc).map (fun d => d.parameters.length) = some 1 := by decide +kernel
abbrev rmX4_setAt : Room := { frames := 0, cells := 0, slots := 0, locals := 0 }
set_option maxHeartbeats 4000000 in
set_option maxRecDepth 100000 in
theorem L_X4_setAt_4 {τ : SX} {κ : KX} (C : Cx τ κ cX4_setAt RX4 wsX4_setAt rmX4_setAt 4) (a : Nat → Nat) (lw : Nat → Int32) (kd : Nat → Int32) (bt : Nat → Int32) (ph : Nat → Int32) (cn : Nat → Int32) (no : Nat → Int32) (ct : Int32) (sc : Int32) (rn : Int32) (lg : Int32) (dn : Int32) (zz : Int32) (x1 : Int32) (hct : ct.toInt ≤ 8) (Φ : Int32 × Int32 → Prop) (hE : ∀ (x2 : Int32) (x3 : Int32), Φ (x2, x3) → J τ κ 0 0 (wT τ a lw kd bt ph cn no ct sc rn lg dn zz) [(0, .ref (a 0)), (1, .int x1), (2, .int x2), (3, .int x3)] 34 []) : ∀ (N : Nat) (x2 : Int32) (x3 : Int32), ((8 : Int) - x3.toInt).toNat < N → (0 ≤ x3.toInt) → (x3.toInt ≤ 8) → Φ (l_X4_setAt_4 cn ct x1 N x2 x3) → J τ κ 0 0 (wT τ a lw kd bt ph cn no ct sc rn lg dn zz) [(0, .ref (a 0)), (1, .int x1), (2, .int x2), (3, .int x3)] 4 [] := by
  have hiX4 : ∀ w ∈ wsX40, w ∈ wsX4_setAt := fun w h => List.mem_cons_of_mem _ (List.mem_append_right _ h)
  intro N
  induction N with
  | zero => intro x2 x3 hm; exact absurd hm (Nat.not_lt_zero _)
  | succ N ih =>
    intro x2 x3 hm h0 h1 hR
    rw [l_X4_setAt_4] at hR
    refine j_iload_n C dX4_setAt_4 5 rfl rfl 3 rfl ?_
    refine j_aload_n C dX4_setAt_5 6 rfl rfl 0 rfl ?_
    refine j_get C dX4_setAt_6 9 rfl hiX4 0 rfl rfl 6 (by decide) rfl kX4_setAt_f46 rfl ?_
    refine j_icmp_ge C dX4_setAt_9 34 rfl 12 rfl (fun c2 => ?_) (fun c2 => ?_)
    · rw [if_pos c2] at hR
      exact j_lv [0, 1, 2, 3] [(0, .ref (a 0)), (1, .int x1), (2, .int x2), (3, .int x3)] rfl (hE _ _  hR)
    · rw [if_neg c2] at hR
      have hs := cnt_step (B := 8) h0 (hct) (by decide) c2
      refine j_aload_n C dX4_setAt_12 13 rfl rfl 0 rfl ?_
      refine j_get C dX4_setAt_13 16 rfl hiX4 0 rfl rfl 4 (by decide) rfl kX4_setAt_f24 rfl ?_
      refine j_iload_n C dX4_setAt_16 17 rfl rfl 3 rfl ?_
      refine j_iald C dX4_setAt_17 18 rfl 5 rfl (by first | assumption | exact vp_in_iff.mpr ⟨by omega, by omega⟩ | exact nz_nle (by assumption) | exact nz_lt (by assumption) | omega) (x3).toNatClampNeg rfl ?_
      refine j_iload_n C dX4_setAt_18 19 rfl rfl 1 rfl ?_
      have J19 : ∀ (j19_0 : Int32), Φ (l_X4_setAt_4 cn ct x1 N j19_0 (x3 + 1)) → J τ κ 0 0 (wT τ a lw kd bt ph cn no ct sc rn lg dn zz) [(0, .ref (a 0)), (1, .int x1), (2, .int j19_0), (3, .int x3)] 28 [] := by
        intro j19_0  hR
        refine j_iinc (v := (x3 + 1)) C dX4_setAt_28 31 rfl 3 rfl rfl (by decide) [(3, .int (x3 + 1)), (0, .ref (a 0)), (1, .int x1), (2, .int j19_0)] rfl ?_
        refine j_goto C dX4_setAt_31 4 rfl ?_
        exact j_lv [1, 2, 3, 0] [(0, .ref (a 0)), (1, .int x1), (2, .int j19_0), (3, .int (x3 + 1))] rfl (ih _ _ (by have := hs.2.2.1; omega) hs.1 hs.2.1 hR)
      refine j_icmp_ne C dX4_setAt_19 28 rfl 22 rfl (fun c3 => ?_) (fun c3 => ?_)
      · rw [if_neg c3] at hR
        rw [pr1_mk x2] at hR
        exact j_lv [0, 1, 2, 3] [(0, .ref (a 0)), (1, .int x1), (2, .int x2), (3, .int x3)] rfl (J19 _  hR)
      · rw [if_pos c3] at hR
        refine j_iload_n C dX4_setAt_22 23 rfl rfl 2 rfl ?_
        refine j_iconst (v := 1) C dX4_setAt_23 24 rfl (by decide) ?_
        refine j_iload_n C dX4_setAt_24 25 rfl rfl 3 rfl ?_
        refine j_ishl C dX4_setAt_25 26 rfl ?_
        refine j_ior C dX4_setAt_26 27 rfl ?_
        refine j_istore_n C dX4_setAt_27 28 rfl rfl (by decide) [(2, .int (x2 ||| ((1 : Int32) <<< (x3 &&& 31)))), (0, .ref (a 0)), (1, .int x1), (3, .int x3)] rfl ?_
        rw [pr1_mk (x2 ||| ((1 : Int32) <<< (x3 &&& 31)))] at hR
        exact j_lv [1, 2, 0, 3] [(0, .ref (a 0)), (1, .int x1), (2, .int (x2 ||| ((1 : Int32) <<< (x3 &&& 31)))), (3, .int x3)] rfl (J19 _  hR)
set_option maxHeartbeats 4000000 in
set_option maxRecDepth 100000 in
theorem c_X4_setAt (τ : SX) (a : Nat → Nat) (lw : Nat → Int32) (kd : Nat → Int32) (bt : Nat → Int32) (ph : Nat → Int32) (cn : Nat → Int32) (no : Nat → Int32) (ct : Int32) (sc : Int32) (rn : Int32) (lg : Int32) (dn : Int32) (zz : Int32) (x1 : Int32) (hct : ct.toInt ≤ 8) (sz : Nat) : McI τ yX4_setAt wsX4_setAt rmX4_setAt .int [.ref (a 0), .int x1] (wT τ a lw kd bt ph cn no ct sc rn lg dn zz) (fun _ : Unit => (wT τ a lw kd bt ph cn no ct sc rn lg dn zz)) (f_X4_setAt cn ct x1, ()) sz := by
  refine mc_I (cc := cX4_setAt) (own := RX4) [(0, .ref (a 0)), (1, .int x1)] rfl (by decide) rfl rfl (Nat.le_of_ble_eq_true rfl) (fun κ C hR => ?_)
  have hiX4 : ∀ w ∈ wsX40, w ∈ wsX4_setAt := fun w h => List.mem_cons_of_mem _ (List.mem_append_right _ h)
  unfold f_X4_setAt at hR
  refine j_iconst (v := 0) C dX4_setAt_0 1 rfl (by decide) ?_
  refine j_istore_n C dX4_setAt_1 2 rfl rfl (by decide) [(2, .int 0), (0, .ref (a 0)), (1, .int x1)] rfl ?_
  refine j_iconst (v := 0) C dX4_setAt_2 3 rfl (by decide) ?_
  refine j_istore_n C dX4_setAt_3 4 rfl rfl (by decide) [(3, .int 0), (2, .int 0), (0, .ref (a 0)), (1, .int x1)] rfl ?_
  refine j_lv [2, 3, 1, 0] [(0, .ref (a 0)), (1, .int x1), (2, .int 0), (3, .int 0)] rfl (L_X4_setAt_4 C a lw kd bt ph cn no ct sc rn lg dn zz x1 hct (fun (o : Int32 × Int32) => Rt τ κ cX4_setAt .int (fun _ : Unit => (wT τ a lw kd bt ph cn no ct sc rn lg dn zz)) ((pr2 o (fun x2_1 x3_1 => x2_1), ()))) (fun x2_1 x3_1  hR => ?_) 300 (0 : Int32) (0 : Int32) (by decide) (by decide) (by decide) hR)
  rw [pr2_mk x2_1 x3_1] at hR
  refine j_iload_n C dX4_setAt_34 35 rfl rfl 2 rfl ?_
  exact Rt.ret (hR) rfl dX4_setAt_35

-- X4_draw
def f_X4_draw (zz : Int32) : Int32 × Int32 := (((((zz * 1103515245) + 12345).toUInt32 >>> ((16 : Int32).toUInt32 &&& Int32.toUInt32 31)).toInt32), ((zz * 1103515245) + 12345))
theorem kX4_draw_f30 : Cond.fieldLink RX4 30 "TwoMinutes$Town" "z" "I" ∈ wsX4_draw := by decide +kernel
theorem kX4_draw_c108 : Cond.constant RX4 108 1103515245 ∈ wsX4_draw := by decide +kernel
theorem qd_X4_draw : yX4_draw.cls = RX4 ∧ yX4_draw.cls ≠ "java/lang/invoke/MethodHandle" ∧ yX4_draw.cls ≠ "java/lang/invoke/VarHandle" ∧ (parseMethodDescriptor yX4_draw.desc).map (fun d => d.parameters.length) = some 0 := by decide +kernel
abbrev rmX4_draw : Room := { frames := 0, cells := 0, slots := 0, locals := 0 }
set_option maxHeartbeats 4000000 in
set_option maxRecDepth 100000 in
theorem c_X4_draw (τ : SX) (a : Nat → Nat) (lw : Nat → Int32) (kd : Nat → Int32) (bt : Nat → Int32) (ph : Nat → Int32) (cn : Nat → Int32) (no : Nat → Int32) (ct : Int32) (sc : Int32) (rn : Int32) (lg : Int32) (dn : Int32) (zz : Int32) (sz : Nat) : McI τ yX4_draw wsX4_draw rmX4_draw .int [.ref (a 0)] (wT τ a lw kd bt ph cn no ct sc rn lg dn zz) (fun u : Int32 => (wT τ a lw kd bt ph cn no ct sc rn lg dn u)) (f_X4_draw zz) sz := by
  refine mc_I (cc := cX4_draw) (own := RX4) [(0, .ref (a 0))] rfl (by decide) rfl rfl (Nat.le_of_ble_eq_true rfl) (fun κ C hR => ?_)
  have hiX4 : ∀ w ∈ wsX40, w ∈ wsX4_draw := fun w h => List.mem_cons_of_mem _ (List.mem_append_right _ h)
  unfold f_X4_draw at hR
  refine j_aload_n C dX4_draw_0 1 rfl rfl 0 rfl ?_
  refine j_aload_n C dX4_draw_1 2 rfl rfl 0 rfl ?_
  refine j_get C dX4_draw_2 5 rfl hiX4 0 rfl rfl 11 (by decide) rfl kX4_draw_f30 rfl ?_
  refine j_ldc C dX4_draw_5 7 rfl kX4_draw_c108 ?_
  refine j_imul C dX4_draw_7 8 rfl ?_
  refine j_sipush (v := 12345) C dX4_draw_8 11 rfl (by decide) ?_
  refine j_iadd C dX4_draw_11 12 rfl ?_
  refine j_put C dX4_draw_12 15 rfl hiX4 tyX4_ok nmX4 0 rfl rfl 11 (by decide) rfl kX4_draw_f30 rfl rfl rfl (Nat.le_of_ble_eq_true rfl) (wT τ a lw kd bt ph cn no ct sc rn lg dn ((zz * 1103515245) + 12345)) rfl ?_
  refine j_aload_n C dX4_draw_15 16 rfl rfl 0 rfl ?_
  refine j_get C dX4_draw_16 19 rfl hiX4 0 rfl rfl 11 (by decide) rfl kX4_draw_f30 rfl ?_
  refine j_bipush (v := 16) C dX4_draw_19 21 rfl (by decide) ?_
  refine j_iushr C dX4_draw_21 22 rfl ?_
  exact Rt.ret (hR) rfl dX4_draw_22

-- X4_hear
def l_X4_hear_2 (lw : Nat → Int32) (kd : Nat → Int32) (ph : Nat → Int32) (cn : Nat → Int32) (ct : Int32) (x1 : Int32) : Nat → Int32 → (Nat → Int32) → Int32 × (Nat → Int32)
  | 0, x2, no => (x2, no)
  | N + 1, x2, no => if (ct ≤ x2) then (x2, no) else (if (x1 = 0) then (x2, no) else (pr1 ((f_X4_heardOf lw kd ph cn ct x1 (cn (x2).toNatClampNeg)) &&& (((1 : Int32) <<< (x2 &&& 31)) ^^^ (-1))) (fun n5 => l_X4_hear_2 lw kd ph cn ct x1 N (x2 + 1) (upd no (x2).toNatClampNeg (if ((no (x2).toNatClampNeg) + (f_J6_bitCount_0f7a4 n5)) < (9999 : Int32) then ((no (x2).toNatClampNeg) + (f_J6_bitCount_0f7a4 n5)) else (9999 : Int32))))))
def f_X4_hear (lw : Nat → Int32) (kd : Nat → Int32) (ph : Nat → Int32) (cn : Nat → Int32) (no : Nat → Int32) (ct : Int32) (x1 : Int32) : (Nat → Int32) := pr2 (l_X4_hear_2 lw kd ph cn ct x1 300 (0 : Int32) no) (fun x2_1 no_1 => (no_1))
theorem kX4_hear_f46 : Cond.fieldLink RX4 46 "TwoMinutes$Town" "count" "I" ∈ wsX4_hear := by decide +kernel
theorem kX4_hear_f24 : Cond.fieldLink RX4 24 "TwoMinutes$Town" "corners" "[I" ∈ wsX4_hear := by decide +kernel
theorem kX4_hear_f27 : Cond.fieldLink RX4 27 "TwoMinutes$Town" "noises" "[I" ∈ wsX4_hear := by decide +kernel
theorem kX4_hear_iRJ6 : Cond.initialized yJ6_bitCount_0f7a4.cls ∈ wsX4_hear := by decide +kernel
theorem kX4_hear_sJ6_bitCount_0f7a4 : Cond.static yJ6_bitCount_0f7a4 ∈ wsX4_hear := by decide +kernel
theorem kX4_hear_m112 : Cond.methodLink RX4 112 yJ6_bitCount_0f7a4 ∈ wsX4_hear := by decide +kernel
theorem kX4_hear_m87 : Cond.methodLink RX4 87 Lib.Math.min.name ∈ wsX4_hear := by decide +kernel
theorem kX4_hear_smin : Cond.static Lib.Math.min.name ∈ wsX4_hear := by decide +kernel
theorem kX4_hear_iMath : Cond.initialized "java/lang/Math" ∈ wsX4_hear := by decide +kernel
theorem kX4_hear_omin : Cond.code Lib.Math.min.name Lib.Math.min.code 2 (some .int) ∈ wsX4_hear := by decide +kernel
theorem qd_X4_hear : yX4_hear.cls = RX4 ∧ yX4_hear.cls ≠ "java/lang/invoke/MethodHandle" ∧ yX4_hear.cls ≠ "java/lang/invoke/VarHandle" ∧ (parseMethodDescriptor yX4_hear.desc).map (fun d => d.parameters.length) = some 1 := by decide +kernel
abbrev rmX4_hear : Room := { frames := 2, cells := 0, slots := 0, locals := 47 }
set_option maxHeartbeats 4000000 in
set_option maxRecDepth 100000 in
theorem L_X4_hear_2 {τ : SX} {κ : KX} (C : Cx τ κ cX4_hear RX4 wsX4_hear rmX4_hear 4) (a : Nat → Nat) (lw : Nat → Int32) (kd : Nat → Int32) (bt : Nat → Int32) (ph : Nat → Int32) (cn : Nat → Int32) (ct : Int32) (sc : Int32) (rn : Int32) (lg : Int32) (dn : Int32) (zz : Int32) (x1 : Int32) (hct : ct.toInt ≤ 8) (Φ : Int32 × (Nat → Int32) → Prop) (hE : ∀ (x2 : Int32) (no : Nat → Int32), Φ (x2, no) → J τ κ 0 0 (wT τ a lw kd bt ph cn no ct sc rn lg dn zz) [(0, .ref (a 0)), (1, .int x1), (2, .int x2)] 61 []) : ∀ (N : Nat) (x2 : Int32) (no : Nat → Int32), ((8 : Int) - x2.toInt).toNat < N → (0 ≤ x2.toInt) → (x2.toInt ≤ 8) → Φ (l_X4_hear_2 lw kd ph cn ct x1 N x2 no) → J τ κ 0 0 (wT τ a lw kd bt ph cn no ct sc rn lg dn zz) [(0, .ref (a 0)), (1, .int x1), (2, .int x2)] 2 [] := by
  have hiX4 : ∀ w ∈ wsX40, w ∈ wsX4_hear := fun w h => List.mem_cons_of_mem _ (List.mem_append_right _ h)
  intro N
  induction N with
  | zero => intro x2 no hm; exact absurd hm (Nat.not_lt_zero _)
  | succ N ih =>
    intro x2 no hm h0 h1 hR
    rw [l_X4_hear_2] at hR
    refine j_iload_n C dX4_hear_2 3 rfl rfl 2 rfl ?_
    refine j_aload_n C dX4_hear_3 4 rfl rfl 0 rfl ?_
    refine j_get C dX4_hear_4 7 rfl hiX4 0 rfl rfl 6 (by decide) rfl kX4_hear_f46 rfl ?_
    refine j_icmp_ge C dX4_hear_7 61 rfl 10 rfl (fun c2 => ?_) (fun c2 => ?_)
    · rw [if_pos c2] at hR
      exact j_lv [0, 1, 2] [(0, .ref (a 0)), (1, .int x1), (2, .int x2)] rfl (hE _ _  hR)
    · rw [if_neg c2] at hR
      have hs := cnt_step (B := 8) h0 (hct) (by decide) c2
      refine j_iload_n C dX4_hear_10 11 rfl rfl 1 rfl ?_
      refine j_if_eq C dX4_hear_11 61 rfl 14 rfl (fun c3 => ?_) (fun c3 => ?_)
      · rw [if_pos c3] at hR
        exact j_lv [0, 1, 2] [(0, .ref (a 0)), (1, .int x1), (2, .int x2)] rfl (hE _ _  hR)
      · rw [if_neg c3] at hR
        refine j_aload_n C dX4_hear_14 15 rfl rfl 0 rfl ?_
        refine j_iload_n C dX4_hear_15 16 rfl rfl 1 rfl ?_
        refine j_aload_n C dX4_hear_16 17 rfl rfl 0 rfl ?_
        refine j_get C dX4_hear_17 20 rfl hiX4 0 rfl rfl 4 (by decide) rfl kX4_hear_f24 rfl ?_
        refine j_iload_n C dX4_hear_20 21 rfl rfl 2 rfl ?_
        refine j_iald C dX4_hear_21 22 rfl 5 rfl (by first | assumption | exact vp_in_iff.mpr ⟨by omega, by omega⟩ | exact nz_nle (by assumption) | exact nz_lt (by assumption) | omega) (x2).toNatClampNeg rfl ?_
        refine j_cv0I (na := 2) C dX4_hear_22 25 rfl (c_X4_heardOf τ a lw kd bt ph cn no ct sc rn lg dn zz x1 (cn (x2).toNatClampNeg) (by first | assumption | exact vp_in_iff.mpr ⟨by omega, by omega⟩ | exact nz_nle (by assumption) | exact nz_lt (by assumption) | omega)) gX4_hear_X4_heardOf rfl rfl rfl qd_X4_heardOf rfl ⟨by decide, by decide⟩ ⟨by decide, by decide⟩ rfl (Nat.le_of_ble_eq_true rfl) rfl 4 0 rfl rfl (fun r4 u4 hX4 hn4 => ?_)
        obtain rfl := (Prod.mk.inj hX4).1
        refine j_iconst (v := 1) C dX4_hear_25 26 rfl (by decide) ?_
        refine j_iload_n C dX4_hear_26 27 rfl rfl 2 rfl ?_
        refine j_ishl C dX4_hear_27 28 rfl ?_
        refine j_iconst (v := (-1)) C dX4_hear_28 29 rfl (by decide) ?_
        refine j_ixor C dX4_hear_29 30 rfl ?_
        refine j_iand C dX4_hear_30 31 rfl ?_
        refine j_nmi (fun n5 en5 => ?_)
        rw [← en5] at hR; rw [pr1_mk n5] at hR
        refine j_istore_n C dX4_hear_31 32 rfl rfl (by decide) [(3, .int n5), (0, .ref (a 0)), (1, .int x1), (2, .int x2)] rfl ?_
        refine j_aload_n C dX4_hear_32 33 rfl rfl 1 rfl ?_
        refine j_get C dX4_hear_33 36 rfl hiX4 0 rfl rfl 5 (by decide) rfl kX4_hear_f27 rfl ?_
        refine j_iload_n C dX4_hear_36 37 rfl rfl 3 rfl ?_
        refine j_sipush (v := 9999) C dX4_hear_37 40 rfl (by decide) ?_
        refine j_aload_n C dX4_hear_40 41 rfl rfl 1 rfl ?_
        refine j_get C dX4_hear_41 44 rfl hiX4 0 rfl rfl 5 (by decide) rfl kX4_hear_f27 rfl ?_
        refine j_iload_n C dX4_hear_44 45 rfl rfl 3 rfl ?_
        refine j_iald C dX4_hear_45 46 rfl 6 rfl (by first | assumption | exact vp_in_iff.mpr ⟨by omega, by omega⟩ | exact nz_nle (by assumption) | exact nz_lt (by assumption) | omega) (x2).toNatClampNeg rfl ?_
        refine j_iload_n C dX4_hear_46 47 rfl rfl 0 rfl ?_
        refine j_cs0I (na := 1) C dX4_hear_47 50 rfl (c_J6_bitCount_0f7a4 τ  n5 ) rfl ggX4_hear_J6_bitCount_0f7a4 rfl rfl rfl kX4_hear_iRJ6 kX4_hear_m112 kX4_hear_sJ6_bitCount_0f7a4 qd_J6_bitCount_0f7a4 rfl ⟨by decide, by decide⟩ ⟨by decide, by decide⟩ rfl (Nat.le_of_ble_eq_true rfl) (fun r6 u6 hX6 hn6 => ?_)
        obtain rfl := (Prod.mk.inj hX6).1
        refine j_iadd C dX4_hear_50 51 rfl ?_
        refine j_mmin C dX4_hear_51 54 rfl kX4_hear_m87 kX4_hear_smin kX4_hear_iMath kX4_hear_omin (by decide) (Nat.le_of_ble_eq_true rfl) (by decide) (by decide) ?_
        refine j_iast C dX4_hear_54 55 rfl 6 rfl (by first | assumption | exact vp_in_iff.mpr ⟨by omega, by omega⟩ | exact nz_nle (by assumption) | exact nz_lt (by assumption) | omega) (x2).toNatClampNeg rfl (wT τ a lw kd bt ph cn (upd no (x2).toNatClampNeg (if ((no (x2).toNatClampNeg) + (f_J6_bitCount_0f7a4 n5)) < (9999 : Int32) then ((no (x2).toNatClampNeg) + (f_J6_bitCount_0f7a4 n5)) else (9999 : Int32))) ct sc rn lg dn zz) rfl ?_
        refine j_iinc (v := (x2 + 1)) C dX4_hear_55 58 rfl 3 rfl rfl (by decide) [(2, .int (x2 + 1)), (3, .int n5), (0, .ref (a 0)), (1, .int x1)] rfl ?_
        refine j_goto C dX4_hear_58 2 rfl ?_
        exact j_lv [2, 3, 0] [(0, .ref (a 0)), (1, .int x1), (2, .int (x2 + 1))] rfl (ih _ _ (by have := hs.2.2.1; omega) hs.1 hs.2.1 hR)
set_option maxHeartbeats 4000000 in
set_option maxRecDepth 100000 in
theorem c_X4_hear (τ : SX) (a : Nat → Nat) (lw : Nat → Int32) (kd : Nat → Int32) (bt : Nat → Int32) (ph : Nat → Int32) (cn : Nat → Int32) (no : Nat → Int32) (ct : Int32) (sc : Int32) (rn : Int32) (lg : Int32) (dn : Int32) (zz : Int32) (x1 : Int32) (hct : ct.toInt ≤ 8) (sz : Nat) : McV τ yX4_hear wsX4_hear rmX4_hear [.ref (a 0), .int x1] (wT τ a lw kd bt ph cn no ct sc rn lg dn zz) (fun u : (Nat → Int32) => (wT τ a lw kd bt ph cn u ct sc rn lg dn zz)) (f_X4_hear lw kd ph cn no ct x1) 0 0 sz := by
  refine mc_V (cc := cX4_hear) (own := RX4) [(0, .ref (a 0)), (1, .int x1)] rfl (by decide) rfl rfl (Nat.le_of_ble_eq_true rfl) (fun κ C _ hR => ?_)
  have hiX4 : ∀ w ∈ wsX40, w ∈ wsX4_hear := fun w h => List.mem_cons_of_mem _ (List.mem_append_right _ h)
  unfold f_X4_hear at hR
  refine j_iconst (v := 0) C dX4_hear_0 1 rfl (by decide) ?_
  refine j_istore_n C dX4_hear_1 2 rfl rfl (by decide) [(2, .int 0), (0, .ref (a 0)), (1, .int x1)] rfl ?_
  refine j_lv [1, 2, 0] [(0, .ref (a 0)), (1, .int x1), (2, .int 0)] rfl (L_X4_hear_2 C a lw kd bt ph cn ct sc rn lg dn zz x1 hct (fun (o : Int32 × (Nat → Int32)) => RtV τ κ cX4_hear 0 0 (fun u : (Nat → Int32) => (wT τ a lw kd bt ph cn u ct sc rn lg dn zz)) (pr2 o (fun x2_1 no_1 => (no_1)))) (fun x2_1 no_1  hR => ?_) 300 (0 : Int32) no (by decide) (by decide) (by decide) hR)
  rw [pr2_mk x2_1 no_1] at hR
  exact hR _ _ dX4_hear_61

-- X4_endSecond
def f_X4_endSecond (lw : Nat → Int32) (sc : Int32) (rn : Int32) (lg : Int32) (dn : Int32) (x1 : Int32) : Int32 × Int32 × Int32 × Int32 := pr1 (if (x1 = 0) then (if (rn + 1) < (9999 : Int32) then (rn + 1) else (9999 : Int32)) else (0 : Int32)) (fun j2_0 => pr1 (if (j2_0 < (lw 0)) then dn else (1 : Int32)) (fun j49_0 => ((sc + 1), j2_0, (if lg < j2_0 then j2_0 else lg), j49_0)))
theorem kX4_endSecond_f55 : Cond.fieldLink RX4 55 "TwoMinutes$Town" "run" "I" ∈ wsX4_endSecond := by decide +kernel
theorem kX4_endSecond_m87 : Cond.methodLink RX4 87 Lib.Math.min.name ∈ wsX4_endSecond := by decide +kernel
theorem kX4_endSecond_smin : Cond.static Lib.Math.min.name ∈ wsX4_endSecond := by decide +kernel
theorem kX4_endSecond_iMath : Cond.initialized "java/lang/Math" ∈ wsX4_endSecond := by decide +kernel
theorem kX4_endSecond_omin : Cond.code Lib.Math.min.name Lib.Math.min.code 2 (some .int) ∈ wsX4_endSecond := by decide +kernel
theorem kX4_endSecond_f58 : Cond.fieldLink RX4 58 "TwoMinutes$Town" "longest" "I" ∈ wsX4_endSecond := by decide +kernel
theorem kX4_endSecond_m117 : Cond.methodLink RX4 117 Lib.Math.max.name ∈ wsX4_endSecond := by decide +kernel
theorem kX4_endSecond_smax : Cond.static Lib.Math.max.name ∈ wsX4_endSecond := by decide +kernel
theorem kX4_endSecond_omax : Cond.code Lib.Math.max.name Lib.Math.max.code 2 (some .int) ∈ wsX4_endSecond := by decide +kernel
theorem kX4_endSecond_f9 : Cond.fieldLink RX4 9 "TwoMinutes$Town" "laws" "[I" ∈ wsX4_endSecond := by decide +kernel
theorem kX4_endSecond_f61 : Cond.fieldLink RX4 61 "TwoMinutes$Town" "done" "I" ∈ wsX4_endSecond := by decide +kernel
theorem kX4_endSecond_f49 : Cond.fieldLink RX4 49 "TwoMinutes$Town" "second" "I" ∈ wsX4_endSecond := by decide +kernel
theorem qd_X4_endSecond : yX4_endSecond.cls = RX4 ∧ yX4_endSecond.cls ≠ "java/lang/invoke/MethodHandle" ∧ yX4_endSecond.cls ≠ "java/lang/invoke/VarHandle" ∧ (parseMethodDescriptor yX4_endSecond.desc).map (fun d => d.parameters.length) = some 1 := by decide +kernel
abbrev rmX4_endSecond : Room := { frames := 1, cells := 0, slots := 0, locals := 21 }
set_option maxHeartbeats 4000000 in
set_option maxRecDepth 100000 in
theorem c_X4_endSecond (τ : SX) (a : Nat → Nat) (lw : Nat → Int32) (kd : Nat → Int32) (bt : Nat → Int32) (ph : Nat → Int32) (cn : Nat → Int32) (no : Nat → Int32) (ct : Int32) (sc : Int32) (rn : Int32) (lg : Int32) (dn : Int32) (zz : Int32) (x1 : Int32) (sz : Nat) : McV τ yX4_endSecond wsX4_endSecond rmX4_endSecond [.ref (a 0), .int x1] (wT τ a lw kd bt ph cn no ct sc rn lg dn zz) (fun u : Int32 × Int32 × Int32 × Int32 => (wT τ a lw kd bt ph cn no ct u.1 u.2.1 u.2.2.1 u.2.2.2 zz)) (f_X4_endSecond lw sc rn lg dn x1) 0 0 sz := by
  refine mc_V (cc := cX4_endSecond) (own := RX4) [(0, .ref (a 0)), (1, .int x1)] rfl (by decide) rfl rfl (Nat.le_of_ble_eq_true rfl) (fun κ C _ hR => ?_)
  have hiX4 : ∀ w ∈ wsX40, w ∈ wsX4_endSecond := fun w h => List.mem_cons_of_mem _ (List.mem_append_right _ h)
  unfold f_X4_endSecond at hR
  refine j_aload_n C dX4_endSecond_0 1 rfl rfl 0 rfl ?_
  refine j_iload_n C dX4_endSecond_1 2 rfl rfl 1 rfl ?_
  have J2 : ∀ (j2_0 : Int32), RtV τ κ cX4_endSecond 0 0 (fun u : Int32 × Int32 × Int32 × Int32 => (wT τ a lw kd bt ph cn no ct u.1 u.2.1 u.2.2.1 u.2.2.2 zz)) (pr1 (if (j2_0 < (lw 0)) then dn else (1 : Int32)) (fun j49_0 => ((sc + 1), j2_0, (if lg < j2_0 then j2_0 else lg), j49_0))) → J τ κ 0 0 (wT τ a lw kd bt ph cn no ct sc rn lg dn zz) [(0, .ref (a 0)), (1, .int x1)] 21 [.int j2_0, .ref (a 0)] := by
    intro j2_0  hR
    refine j_put C dX4_endSecond_21 24 rfl hiX4 tyX4_ok nmX4 0 rfl rfl 8 (by decide) rfl kX4_endSecond_f55 rfl rfl rfl (Nat.le_of_ble_eq_true rfl) (wT τ a lw kd bt ph cn no ct sc j2_0 lg dn zz) rfl ?_
    refine j_aload_n C dX4_endSecond_24 25 rfl rfl 0 rfl ?_
    refine j_aload_n C dX4_endSecond_25 26 rfl rfl 0 rfl ?_
    refine j_get C dX4_endSecond_26 29 rfl hiX4 0 rfl rfl 9 (by decide) rfl kX4_endSecond_f58 rfl ?_
    refine j_aload_n C dX4_endSecond_29 30 rfl rfl 0 rfl ?_
    refine j_get C dX4_endSecond_30 33 rfl hiX4 0 rfl rfl 8 (by decide) rfl kX4_endSecond_f55 rfl ?_
    refine j_mmax C dX4_endSecond_33 36 rfl kX4_endSecond_m117 kX4_endSecond_smax kX4_endSecond_iMath kX4_endSecond_omax (by decide) (Nat.le_of_ble_eq_true rfl) (by decide) (by decide) ?_
    refine j_put C dX4_endSecond_36 39 rfl hiX4 tyX4_ok nmX4 0 rfl rfl 9 (by decide) rfl kX4_endSecond_f58 rfl rfl rfl (Nat.le_of_ble_eq_true rfl) (wT τ a lw kd bt ph cn no ct sc j2_0 (if lg < j2_0 then j2_0 else lg) dn zz) rfl ?_
    refine j_aload_n C dX4_endSecond_39 40 rfl rfl 0 rfl ?_
    refine j_get C dX4_endSecond_40 43 rfl hiX4 0 rfl rfl 8 (by decide) rfl kX4_endSecond_f55 rfl ?_
    refine j_aload_n C dX4_endSecond_43 44 rfl rfl 0 rfl ?_
    refine j_get C dX4_endSecond_44 47 rfl hiX4 0 rfl rfl 0 (by decide) rfl kX4_endSecond_f9 rfl ?_
    refine j_iconst (v := 0) C dX4_endSecond_47 48 rfl (by decide) ?_
    refine j_iald C dX4_endSecond_48 49 rfl 1 rfl (by unfold vp_in; decide) 0 rfl ?_
    have J49 : ∀ (j49_0 : Int32), RtV τ κ cX4_endSecond 0 0 (fun u : Int32 × Int32 × Int32 × Int32 => (wT τ a lw kd bt ph cn no ct u.1 u.2.1 u.2.2.1 u.2.2.2 zz)) (((sc + 1), j2_0, (if lg < j2_0 then j2_0 else lg), j49_0)) → J τ κ 0 0 (wT τ a lw kd bt ph cn no ct sc j2_0 (if lg < j2_0 then j2_0 else lg) j49_0 zz) [(0, .ref (a 0)), (1, .int x1)] 57 [] := by
      intro j49_0  hR
      refine j_aload_n C dX4_endSecond_57 58 rfl rfl 0 rfl ?_
      refine j_dup C dX4_endSecond_58 59 rfl rfl ?_
      refine j_get C dX4_endSecond_59 62 rfl hiX4 0 rfl rfl 7 (by decide) rfl kX4_endSecond_f49 rfl ?_
      refine j_iconst (v := 1) C dX4_endSecond_62 63 rfl (by decide) ?_
      refine j_iadd C dX4_endSecond_63 64 rfl ?_
      refine j_put C dX4_endSecond_64 67 rfl hiX4 tyX4_ok nmX4 0 rfl rfl 7 (by decide) rfl kX4_endSecond_f49 rfl rfl rfl (Nat.le_of_ble_eq_true rfl) (wT τ a lw kd bt ph cn no ct (sc + 1) j2_0 (if lg < j2_0 then j2_0 else lg) j49_0 zz) rfl ?_
      exact hR _ _ dX4_endSecond_67
    refine j_icmp_lt C dX4_endSecond_49 57 rfl 52 rfl (fun c2 => ?_) (fun c2 => ?_)
    · rw [if_pos c2] at hR
      rw [pr1_mk dn] at hR
      exact j_lv [0, 1] [(0, .ref (a 0)), (1, .int x1)] rfl (J49 _  hR)
    · rw [if_neg c2] at hR
      refine j_aload_n C dX4_endSecond_52 53 rfl rfl 0 rfl ?_
      refine j_iconst (v := 1) C dX4_endSecond_53 54 rfl (by decide) ?_
      refine j_put C dX4_endSecond_54 57 rfl hiX4 tyX4_ok nmX4 0 rfl rfl 10 (by decide) rfl kX4_endSecond_f61 rfl rfl rfl (Nat.le_of_ble_eq_true rfl) (wT τ a lw kd bt ph cn no ct sc j2_0 (if lg < j2_0 then j2_0 else lg) 1 zz) rfl ?_
      rw [pr1_mk (1 : Int32)] at hR
      exact j_lv [0, 1] [(0, .ref (a 0)), (1, .int x1)] rfl (J49 _  hR)
  refine j_if_ne C dX4_endSecond_2 20 rfl 5 rfl (fun c1 => ?_) (fun c1 => ?_)
  · rw [if_neg c1] at hR
    refine j_iconst (v := 0) C dX4_endSecond_20 21 rfl (by decide) ?_
    rw [pr1_mk (0 : Int32)] at hR
    exact j_lv [0, 1] [(0, .ref (a 0)), (1, .int x1)] rfl (J2 _  hR)
  · rw [if_pos c1] at hR
    refine j_sipush (v := 9999) C dX4_endSecond_5 8 rfl (by decide) ?_
    refine j_aload_n C dX4_endSecond_8 9 rfl rfl 0 rfl ?_
    refine j_get C dX4_endSecond_9 12 rfl hiX4 0 rfl rfl 8 (by decide) rfl kX4_endSecond_f55 rfl ?_
    refine j_iconst (v := 1) C dX4_endSecond_12 13 rfl (by decide) ?_
    refine j_iadd C dX4_endSecond_13 14 rfl ?_
    refine j_mmin C dX4_endSecond_14 17 rfl kX4_endSecond_m87 kX4_endSecond_smin kX4_endSecond_iMath kX4_endSecond_omin (by decide) (Nat.le_of_ble_eq_true rfl) (by decide) (by decide) ?_
    refine j_goto C dX4_endSecond_17 21 rfl ?_
    rw [pr1_mk (if (rn + 1) < (9999 : Int32) then (rn + 1) else (9999 : Int32))] at hR
    exact j_lv [0, 1] [(0, .ref (a 0)), (1, .int x1)] rfl (J2 _  hR)

-- X4_pass
def f_X4_pass (lw : Nat → Int32) (kd : Nat → Int32) (bt : Nat → Int32) (ph : Nat → Int32) (cn : Nat → Int32) (no : Nat → Int32) (ct : Int32) (sc : Int32) (rn : Int32) (lg : Int32) (dn : Int32) : Int32 × (Nat → Int32) × Int32 × Int32 × Int32 × Int32 := pr1 (f_X4_hear lw kd ph cn no ct (f_X4_soundingSet lw kd bt ph ct sc rn)) (fun no_2 => pr4 (f_X4_endSecond lw sc rn lg dn (f_X4_soundingSet lw kd bt ph ct sc rn)) (fun sc_3 rn_3 lg_3 dn_3 => ((f_X4_soundingSet lw kd bt ph ct sc rn), no_2, sc_3, rn_3, lg_3, dn_3)))
theorem qd_X4_pass : yX4_pass.cls = RX4 ∧ yX4_pass.cls ≠ "java/lang/invoke/MethodHandle" ∧ yX4_pass.cls ≠ "java/lang/invoke/VarHandle" ∧ (parseMethodDescriptor yX4_pass.desc).map (fun d => d.parameters.length) = some 0 := by decide +kernel
abbrev rmX4_pass : Room := { frames := 4, cells := 0, slots := 0, locals := 86 }
set_option maxHeartbeats 4000000 in
set_option maxRecDepth 100000 in
theorem c_X4_pass (τ : SX) (a : Nat → Nat) (lw : Nat → Int32) (kd : Nat → Int32) (bt : Nat → Int32) (ph : Nat → Int32) (cn : Nat → Int32) (no : Nat → Int32) (ct : Int32) (sc : Int32) (rn : Int32) (lg : Int32) (dn : Int32) (zz : Int32) (hct : ct.toInt ≤ 8) (sz : Nat) : McI τ yX4_pass wsX4_pass rmX4_pass .int [.ref (a 0)] (wT τ a lw kd bt ph cn no ct sc rn lg dn zz) (fun u : (Nat → Int32) × Int32 × Int32 × Int32 × Int32 => (wT τ a lw kd bt ph cn u.1 ct u.2.1 u.2.2.1 u.2.2.2.1 u.2.2.2.2 zz)) (f_X4_pass lw kd bt ph cn no ct sc rn lg dn) sz := by
  refine mc_I (cc := cX4_pass) (own := RX4) [(0, .ref (a 0))] rfl (by decide) rfl rfl (Nat.le_of_ble_eq_true rfl) (fun κ C hR => ?_)
  have hiX4 : ∀ w ∈ wsX40, w ∈ wsX4_pass := fun w h => List.mem_cons_of_mem _ (List.mem_append_right _ h)
  unfold f_X4_pass at hR
  refine j_aload_n C dX4_pass_0 1 rfl rfl 0 rfl ?_
  refine j_cv0I (na := 0) C dX4_pass_1 4 rfl (c_X4_soundingSet τ a lw kd bt ph cn no ct sc rn lg dn zz (by first | assumption | exact vp_in_iff.mpr ⟨by omega, by omega⟩ | exact nz_nle (by assumption) | exact nz_lt (by assumption) | omega)) gX4_pass_X4_soundingSet rfl rfl rfl qd_X4_soundingSet rfl ⟨by decide, by decide⟩ ⟨by decide, by decide⟩ rfl (Nat.le_of_ble_eq_true rfl) rfl 4 0 rfl rfl (fun r1 u1 hX1 hn1 => ?_)
  obtain rfl := (Prod.mk.inj hX1).1
  refine j_istore_n C dX4_pass_4 5 rfl rfl (by decide) [(1, .int (f_X4_soundingSet lw kd bt ph ct sc rn)), (0, .ref (a 0))] rfl ?_
  refine j_aload_n C dX4_pass_5 6 rfl rfl 1 rfl ?_
  refine j_iload_n C dX4_pass_6 7 rfl rfl 0 rfl ?_
  refine j_cv0V (na := 1) C dX4_pass_7 10 rfl (c_X4_hear τ a lw kd bt ph cn no ct sc rn lg dn zz (f_X4_soundingSet lw kd bt ph ct sc rn) (by first | assumption | exact vp_in_iff.mpr ⟨by omega, by omega⟩ | exact nz_nle (by assumption) | exact nz_lt (by assumption) | omega)) gX4_pass_X4_hear rfl rfl rfl qd_X4_hear rfl ⟨by decide, by decide⟩ ⟨by decide, by decide⟩ rfl (Nat.le_of_ble_eq_true rfl) rfl 4 0 rfl rfl (fun u2 hX2 => ?_)
  obtain ⟨no_2, rfl⟩ : ∃ z, z = u2 := ⟨_, rfl⟩
  rw [hX2] at hR; rw [pr1_mk no_2] at hR
  refine j_aload_n C dX4_pass_10 11 rfl rfl 1 rfl ?_
  refine j_iload_n C dX4_pass_11 12 rfl rfl 0 rfl ?_
  refine j_cv0V (na := 1) C dX4_pass_12 15 rfl (c_X4_endSecond τ a lw kd bt ph cn no_2 ct sc rn lg dn zz (f_X4_soundingSet lw kd bt ph ct sc rn) ) gX4_pass_X4_endSecond rfl rfl rfl qd_X4_endSecond rfl ⟨by decide, by decide⟩ ⟨by decide, by decide⟩ rfl (Nat.le_of_ble_eq_true rfl) rfl 4 0 rfl rfl (fun u3 hX3 => ?_)
  obtain ⟨sc_3, rn_3, lg_3, dn_3⟩ := u3
  rw [hX3] at hR; rw [pr4_mk sc_3 rn_3 lg_3 dn_3] at hR
  refine j_iload_n C dX4_pass_15 16 rfl rfl 0 rfl ?_
  exact Rt.ret (hR) rfl dX4_pass_16

-- X4_passByDraws
def f_X4_passByDraws (lw : Nat → Int32) (kd : Nat → Int32) (bt : Nat → Int32) (ph : Nat → Int32) (cn : Nat → Int32) (no : Nat → Int32) (ct : Int32) (sc : Int32) (rn : Int32) (lg : Int32) (dn : Int32) (zz : Int32) : (Nat → Int32) × Int32 × Int32 × Int32 × Int32 × Int32 := pr2 (if (ct ≤ 0) then ((0 : Int32), zz) else (pr2 (f_X4_draw zz) (fun r2 zz_2 => pr2 (f_X4_draw zz_2) (fun r3 zz_3 => if ((lw 3) ≤ (r3 - r3 / 100 * 100)) then ((0 : Int32), zz_3) else (((1 : Int32) <<< ((r2 - r2 / ct * ct) &&& 31)), zz_3))))) (fun j6_0 j6_1 => pr1 (f_X4_hear lw kd ph cn no ct ((f_X4_soundingSet lw kd bt ph ct sc rn) ||| j6_0)) (fun no_6 => pr4 (f_X4_endSecond lw sc rn lg dn ((f_X4_soundingSet lw kd bt ph ct sc rn) ||| j6_0)) (fun sc_7 rn_7 lg_7 dn_7 => (no_6, sc_7, rn_7, lg_7, dn_7, j6_1))))
theorem kX4_passByDraws_f46 : Cond.fieldLink RX4 46 "TwoMinutes$Town" "count" "I" ∈ wsX4_passByDraws := by decide +kernel
theorem kX4_passByDraws_f9 : Cond.fieldLink RX4 9 "TwoMinutes$Town" "laws" "[I" ∈ wsX4_passByDraws := by decide +kernel
theorem qd_X4_passByDraws : yX4_passByDraws.cls = RX4 ∧ yX4_passByDraws.cls ≠ "java/lang/invoke/MethodHandle" ∧ yX4_passByDraws.cls ≠ "java/lang/invoke/VarHandle" ∧ (parseMethodDescriptor yX4_passByDraws.desc).map (fun d => d.parameters.length) = some 0 := by decide +kernel
abbrev rmX4_passByDraws : Room := { frames := 4, cells := 0, slots := 0, locals := 86 }
set_option maxHeartbeats 4000000 in
set_option maxRecDepth 100000 in
theorem c_X4_passByDraws (τ : SX) (a : Nat → Nat) (lw : Nat → Int32) (kd : Nat → Int32) (bt : Nat → Int32) (ph : Nat → Int32) (cn : Nat → Int32) (no : Nat → Int32) (ct : Int32) (sc : Int32) (rn : Int32) (lg : Int32) (dn : Int32) (zz : Int32) (hct : ct.toInt ≤ 8) (sz : Nat) : McV τ yX4_passByDraws wsX4_passByDraws rmX4_passByDraws [.ref (a 0)] (wT τ a lw kd bt ph cn no ct sc rn lg dn zz) (fun u : (Nat → Int32) × Int32 × Int32 × Int32 × Int32 × Int32 => (wT τ a lw kd bt ph cn u.1 ct u.2.1 u.2.2.1 u.2.2.2.1 u.2.2.2.2.1 u.2.2.2.2.2)) (f_X4_passByDraws lw kd bt ph cn no ct sc rn lg dn zz) 0 0 sz := by
  refine mc_V (cc := cX4_passByDraws) (own := RX4) [(0, .ref (a 0))] rfl (by decide) rfl rfl (Nat.le_of_ble_eq_true rfl) (fun κ C _ hR => ?_)
  have hiX4 : ∀ w ∈ wsX40, w ∈ wsX4_passByDraws := fun w h => List.mem_cons_of_mem _ (List.mem_append_right _ h)
  unfold f_X4_passByDraws at hR
  refine j_iconst (v := 0) C dX4_passByDraws_0 1 rfl (by decide) ?_
  refine j_istore_n C dX4_passByDraws_1 2 rfl rfl (by decide) [(1, .int 0), (0, .ref (a 0))] rfl ?_
  refine j_aload_n C dX4_passByDraws_2 3 rfl rfl 1 rfl ?_
  refine j_get C dX4_passByDraws_3 6 rfl hiX4 0 rfl rfl 6 (by decide) rfl kX4_passByDraws_f46 rfl ?_
  have J6 : ∀ (j6_0 : Int32) (j6_1 : Int32), RtV τ κ cX4_passByDraws 0 0 (fun u : (Nat → Int32) × Int32 × Int32 × Int32 × Int32 × Int32 => (wT τ a lw kd bt ph cn u.1 ct u.2.1 u.2.2.1 u.2.2.2.1 u.2.2.2.2.1 u.2.2.2.2.2)) (pr1 (f_X4_hear lw kd ph cn no ct ((f_X4_soundingSet lw kd bt ph ct sc rn) ||| j6_0)) (fun no_6 => pr4 (f_X4_endSecond lw sc rn lg dn ((f_X4_soundingSet lw kd bt ph ct sc rn) ||| j6_0)) (fun sc_7 rn_7 lg_7 dn_7 => (no_6, sc_7, rn_7, lg_7, dn_7, j6_1)))) → J τ κ 0 0 (wT τ a lw kd bt ph cn no ct sc rn lg dn j6_1) [(0, .ref (a 0)), (1, .int j6_0)] 39 [] := by
    intro j6_0 j6_1  hR
    refine j_aload_n C dX4_passByDraws_39 40 rfl rfl 0 rfl ?_
    refine j_cv0I (na := 0) C dX4_passByDraws_40 43 rfl (c_X4_soundingSet τ a lw kd bt ph cn no ct sc rn lg dn j6_1 (by first | assumption | exact vp_in_iff.mpr ⟨by omega, by omega⟩ | exact nz_nle (by assumption) | exact nz_lt (by assumption) | omega)) gX4_passByDraws_X4_soundingSet rfl rfl rfl qd_X4_soundingSet rfl ⟨by decide, by decide⟩ ⟨by decide, by decide⟩ rfl (Nat.le_of_ble_eq_true rfl) rfl 4 0 rfl rfl (fun r5 u5 hX5 hn5 => ?_)
    obtain rfl := (Prod.mk.inj hX5).1
    refine j_iload_n C dX4_passByDraws_43 44 rfl rfl 1 rfl ?_
    refine j_ior C dX4_passByDraws_44 45 rfl ?_
    refine j_istore_n C dX4_passByDraws_45 46 rfl rfl (by decide) [(2, .int ((f_X4_soundingSet lw kd bt ph ct sc rn) ||| j6_0)), (0, .ref (a 0)), (1, .int j6_0)] rfl ?_
    refine j_aload_n C dX4_passByDraws_46 47 rfl rfl 1 rfl ?_
    refine j_iload_n C dX4_passByDraws_47 48 rfl rfl 0 rfl ?_
    refine j_cv0V (na := 1) C dX4_passByDraws_48 51 rfl (c_X4_hear τ a lw kd bt ph cn no ct sc rn lg dn j6_1 ((f_X4_soundingSet lw kd bt ph ct sc rn) ||| j6_0) (by first | assumption | exact vp_in_iff.mpr ⟨by omega, by omega⟩ | exact nz_nle (by assumption) | exact nz_lt (by assumption) | omega)) gX4_passByDraws_X4_hear rfl rfl rfl qd_X4_hear rfl ⟨by decide, by decide⟩ ⟨by decide, by decide⟩ rfl (Nat.le_of_ble_eq_true rfl) rfl 4 0 rfl rfl (fun u6 hX6 => ?_)
    obtain ⟨no_6, rfl⟩ : ∃ z, z = u6 := ⟨_, rfl⟩
    rw [hX6] at hR; rw [pr1_mk no_6] at hR
    refine j_aload_n C dX4_passByDraws_51 52 rfl rfl 1 rfl ?_
    refine j_iload_n C dX4_passByDraws_52 53 rfl rfl 0 rfl ?_
    refine j_cv0V (na := 1) C dX4_passByDraws_53 56 rfl (c_X4_endSecond τ a lw kd bt ph cn no_6 ct sc rn lg dn j6_1 ((f_X4_soundingSet lw kd bt ph ct sc rn) ||| j6_0) ) gX4_passByDraws_X4_endSecond rfl rfl rfl qd_X4_endSecond rfl ⟨by decide, by decide⟩ ⟨by decide, by decide⟩ rfl (Nat.le_of_ble_eq_true rfl) rfl 4 0 rfl rfl (fun u7 hX7 => ?_)
    obtain ⟨sc_7, rn_7, lg_7, dn_7⟩ := u7
    rw [hX7] at hR; rw [pr4_mk sc_7 rn_7 lg_7 dn_7] at hR
    exact hR _ _ dX4_passByDraws_56
  refine j_if_le C dX4_passByDraws_6 39 rfl 9 rfl (fun c1 => ?_) (fun c1 => ?_)
  · rw [if_pos c1] at hR
    rw [pr2_mk (0 : Int32) zz] at hR
    exact j_lv [1, 0] [(0, .ref (a 0)), (1, .int 0)] rfl (J6 _ _  hR)
  · rw [if_neg c1] at hR
    refine j_aload_n C dX4_passByDraws_9 10 rfl rfl 1 rfl ?_
    refine j_cv0I (na := 0) C dX4_passByDraws_10 13 rfl (c_X4_draw τ a lw kd bt ph cn no ct sc rn lg dn zz ) gX4_passByDraws_X4_draw rfl rfl rfl qd_X4_draw rfl ⟨by decide, by decide⟩ ⟨by decide, by decide⟩ rfl (Nat.le_of_ble_eq_true rfl) rfl 4 0 rfl rfl (fun r2 u2 hX2 hn2 => ?_)
    obtain ⟨zz_2, rfl⟩ : ∃ z, z = u2 := ⟨_, rfl⟩
    rw [hX2] at hR; rw [pr2_mk r2 zz_2] at hR
    refine j_aload_n C dX4_passByDraws_13 14 rfl rfl 1 rfl ?_
    refine j_get C dX4_passByDraws_14 17 rfl hiX4 0 rfl rfl 6 (by decide) rfl kX4_passByDraws_f46 rfl ?_
    refine j_irem C dX4_passByDraws_17 18 rfl (by first | assumption | exact vp_in_iff.mpr ⟨by omega, by omega⟩ | exact nz_nle (by assumption) | exact nz_lt (by assumption) | omega) ?_
    refine j_istore_n C dX4_passByDraws_18 19 rfl rfl (by decide) [(2, .int (r2 - r2 / ct * ct)), (1, .int 0), (0, .ref (a 0))] rfl ?_
    refine j_aload_n C dX4_passByDraws_19 20 rfl rfl 2 rfl ?_
    refine j_cv0I (na := 0) C dX4_passByDraws_20 23 rfl (c_X4_draw τ a lw kd bt ph cn no ct sc rn lg dn zz_2 ) gX4_passByDraws_X4_draw rfl rfl rfl qd_X4_draw rfl ⟨by decide, by decide⟩ ⟨by decide, by decide⟩ rfl (Nat.le_of_ble_eq_true rfl) rfl 4 0 rfl rfl (fun r3 u3 hX3 hn3 => ?_)
    obtain ⟨zz_3, rfl⟩ : ∃ z, z = u3 := ⟨_, rfl⟩
    rw [hX3] at hR; rw [pr2_mk r3 zz_3] at hR
    refine j_bipush (v := 100) C dX4_passByDraws_23 25 rfl (by decide) ?_
    refine j_irem C dX4_passByDraws_25 26 rfl (by decide) ?_
    refine j_aload_n C dX4_passByDraws_26 27 rfl rfl 2 rfl ?_
    refine j_get C dX4_passByDraws_27 30 rfl hiX4 0 rfl rfl 0 (by decide) rfl kX4_passByDraws_f9 rfl ?_
    refine j_iconst (v := 3) C dX4_passByDraws_30 31 rfl (by decide) ?_
    refine j_iald C dX4_passByDraws_31 32 rfl 1 rfl (by unfold vp_in; decide) 3 rfl ?_
    refine j_icmp_ge C dX4_passByDraws_32 39 rfl 35 rfl (fun c4 => ?_) (fun c4 => ?_)
    · rw [if_pos c4] at hR
      rw [pr2_mk (0 : Int32) zz_3] at hR
      exact j_lv [2, 1] [(0, .ref (a 0)), (1, .int 0)] rfl (J6 _ _  hR)
    · rw [if_neg c4] at hR
      refine j_iconst (v := 1) C dX4_passByDraws_35 36 rfl (by decide) ?_
      refine j_iload_n C dX4_passByDraws_36 37 rfl rfl 0 rfl ?_
      refine j_ishl C dX4_passByDraws_37 38 rfl ?_
      refine j_istore_n C dX4_passByDraws_38 39 rfl rfl (by decide) [(1, .int ((1 : Int32) <<< ((r2 - r2 / ct * ct) &&& 31))), (2, .int (r2 - r2 / ct * ct)), (0, .ref (a 0))] rfl ?_
      rw [pr2_mk ((1 : Int32) <<< ((r2 - r2 / ct * ct) &&& 31)) zz_3] at hR
      exact j_lv [2, 0] [(0, .ref (a 0)), (1, .int ((1 : Int32) <<< ((r2 - r2 / ct * ct) &&& 31)))] rfl (J6 _ _  hR)

-- X4_longestWithin
def l_X4_longestWithin_4 (lw : Nat → Int32) (kd : Nat → Int32) (bt : Nat → Int32) (ph : Nat → Int32) (ct : Int32) (x1 : Int32) : Nat → Int32 → Int32 → Int32 → Int32 → Int32 → Int32 → Int32 × Int32 × Int32 × Int32 × Int32 × Int32
  | 0, x2, x3, sc, rn, lg, dn => (x2, x3, sc, rn, lg, dn)
  | N + 1, x2, x3, sc, rn, lg, dn => if (x1 ≤ x3) then (x2, x3, sc, rn, lg, dn) else (pr4 (f_X4_endSecond lw sc rn lg dn (f_X4_soundingSet lw kd bt ph ct sc rn)) (fun sc_4 rn_4 lg_4 dn_4 => l_X4_longestWithin_4 lw kd bt ph ct x1 N (if x2 < rn_4 then rn_4 else x2) (x3 + 1) sc_4 rn_4 lg_4 dn_4))
def f_X4_longestWithin (lw : Nat → Int32) (kd : Nat → Int32) (bt : Nat → Int32) (ph : Nat → Int32) (ct : Int32) (sc : Int32) (rn : Int32) (lg : Int32) (dn : Int32) (x1 : Int32) : Int32 × Int32 × Int32 × Int32 × Int32 := pr6 (l_X4_longestWithin_4 lw kd bt ph ct x1 300 (0 : Int32) (0 : Int32) sc rn lg dn) (fun x2_1 x3_1 sc_1 rn_1 lg_1 dn_1 => (x2_1, sc_1, rn_1, lg_1, dn_1))
theorem kX4_longestWithin_f55 : Cond.fieldLink RX4 55 "TwoMinutes$Town" "run" "I" ∈ wsX4_longestWithin := by decide +kernel
theorem kX4_longestWithin_m117 : Cond.methodLink RX4 117 Lib.Math.max.name ∈ wsX4_longestWithin := by decide +kernel
theorem kX4_longestWithin_smax : Cond.static Lib.Math.max.name ∈ wsX4_longestWithin := by decide +kernel
theorem kX4_longestWithin_iMath : Cond.initialized "java/lang/Math" ∈ wsX4_longestWithin := by decide +kernel
theorem kX4_longestWithin_omax : Cond.code Lib.Math.max.name Lib.Math.max.code 2 (some .int) ∈ wsX4_longestWithin := by decide +kernel
theorem qd_X4_longestWithin : yX4_longestWithin.cls = RX4 ∧ yX4_longestWithin.cls ≠ "java/lang/invoke/MethodHandle" ∧ yX4_longestWithin.cls ≠ "java/lang/invoke/VarHandle" ∧ (parseMethodDescriptor yX4_longestWithin.desc).map (fun d => d.parameters.length) = some 1 := by decide +kernel
abbrev rmX4_longestWithin : Room := { frames := 4, cells := 0, slots := 0, locals := 86 }
set_option maxHeartbeats 4000000 in
set_option maxRecDepth 100000 in
theorem L_X4_longestWithin_4 {τ : SX} {κ : KX} (C : Cx τ κ cX4_longestWithin RX4 wsX4_longestWithin rmX4_longestWithin 4) (a : Nat → Nat) (lw : Nat → Int32) (kd : Nat → Int32) (bt : Nat → Int32) (ph : Nat → Int32) (cn : Nat → Int32) (no : Nat → Int32) (ct : Int32) (zz : Int32) (x1 : Int32) (hct : ct.toInt ≤ 8) (hn : x1.toInt ≤ 60) (Φ : Int32 × Int32 × Int32 × Int32 × Int32 × Int32 → Prop) (hE : ∀ (x2 : Int32) (x3 : Int32) (sc : Int32) (rn : Int32) (lg : Int32) (dn : Int32), Φ (x2, x3, sc, rn, lg, dn) → J τ κ 0 0 (wT τ a lw kd bt ph cn no ct sc rn lg dn zz) [(0, .ref (a 0)), (1, .int x1), (2, .int x2), (3, .int x3)] 32 []) : ∀ (N : Nat) (x2 : Int32) (x3 : Int32) (sc : Int32) (rn : Int32) (lg : Int32) (dn : Int32), ((60 : Int) - x3.toInt).toNat < N → (0 ≤ x3.toInt) → (x3.toInt ≤ 60) → Φ (l_X4_longestWithin_4 lw kd bt ph ct x1 N x2 x3 sc rn lg dn) → J τ κ 0 0 (wT τ a lw kd bt ph cn no ct sc rn lg dn zz) [(0, .ref (a 0)), (1, .int x1), (2, .int x2), (3, .int x3)] 4 [] := by
  have hiX4 : ∀ w ∈ wsX40, w ∈ wsX4_longestWithin := fun w h => List.mem_cons_of_mem _ (List.mem_append_right _ h)
  intro N
  induction N with
  | zero => intro x2 x3 sc rn lg dn hm; exact absurd hm (Nat.not_lt_zero _)
  | succ N ih =>
    intro x2 x3 sc rn lg dn hm h0 h1 hR
    rw [l_X4_longestWithin_4] at hR
    refine j_iload_n C dX4_longestWithin_4 5 rfl rfl 3 rfl ?_
    refine j_iload_n C dX4_longestWithin_5 6 rfl rfl 1 rfl ?_
    refine j_icmp_ge C dX4_longestWithin_6 32 rfl 9 rfl (fun c2 => ?_) (fun c2 => ?_)
    · rw [if_pos c2] at hR
      exact j_lv [0, 1, 2, 3] [(0, .ref (a 0)), (1, .int x1), (2, .int x2), (3, .int x3)] rfl (hE _ _ _ _ _ _  hR)
    · rw [if_neg c2] at hR
      have hs := cnt_step (B := 60) h0 (hn) (by decide) c2
      refine j_aload_n C dX4_longestWithin_9 10 rfl rfl 0 rfl ?_
      refine j_aload_n C dX4_longestWithin_10 11 rfl rfl 0 rfl ?_
      refine j_cv0I (na := 0) C dX4_longestWithin_11 14 rfl (c_X4_soundingSet τ a lw kd bt ph cn no ct sc rn lg dn zz (by first | assumption | exact vp_in_iff.mpr ⟨by omega, by omega⟩ | exact nz_nle (by assumption) | exact nz_lt (by assumption) | omega)) gX4_longestWithin_X4_soundingSet rfl rfl rfl qd_X4_soundingSet rfl ⟨by decide, by decide⟩ ⟨by decide, by decide⟩ rfl (Nat.le_of_ble_eq_true rfl) rfl 4 0 rfl rfl (fun r3 u3 hX3 hn3 => ?_)
      obtain rfl := (Prod.mk.inj hX3).1
      refine j_cv0V (na := 1) C dX4_longestWithin_14 17 rfl (c_X4_endSecond τ a lw kd bt ph cn no ct sc rn lg dn zz (f_X4_soundingSet lw kd bt ph ct sc rn) ) gX4_longestWithin_X4_endSecond rfl rfl rfl qd_X4_endSecond rfl ⟨by decide, by decide⟩ ⟨by decide, by decide⟩ rfl (Nat.le_of_ble_eq_true rfl) rfl 4 0 rfl rfl (fun u4 hX4 => ?_)
      obtain ⟨sc_4, rn_4, lg_4, dn_4⟩ := u4
      rw [hX4] at hR; rw [pr4_mk sc_4 rn_4 lg_4 dn_4] at hR
      refine j_iload_n C dX4_longestWithin_17 18 rfl rfl 2 rfl ?_
      refine j_aload_n C dX4_longestWithin_18 19 rfl rfl 0 rfl ?_
      refine j_get C dX4_longestWithin_19 22 rfl hiX4 0 rfl rfl 8 (by decide) rfl kX4_longestWithin_f55 rfl ?_
      refine j_mmax C dX4_longestWithin_22 25 rfl kX4_longestWithin_m117 kX4_longestWithin_smax kX4_longestWithin_iMath kX4_longestWithin_omax (by decide) (Nat.le_of_ble_eq_true rfl) (by decide) (by decide) ?_
      refine j_istore_n C dX4_longestWithin_25 26 rfl rfl (by decide) [(2, .int (if x2 < rn_4 then rn_4 else x2)), (0, .ref (a 0)), (1, .int x1), (3, .int x3)] rfl ?_
      refine j_iinc (v := (x3 + 1)) C dX4_longestWithin_26 29 rfl 3 rfl rfl (by decide) [(3, .int (x3 + 1)), (2, .int (if x2 < rn_4 then rn_4 else x2)), (0, .ref (a 0)), (1, .int x1)] rfl ?_
      refine j_goto C dX4_longestWithin_29 4 rfl ?_
      exact j_lv [2, 3, 1, 0] [(0, .ref (a 0)), (1, .int x1), (2, .int (if x2 < rn_4 then rn_4 else x2)), (3, .int (x3 + 1))] rfl (ih _ _ _ _ _ _ (by have := hs.2.2.1; omega) hs.1 hs.2.1 hR)
set_option maxHeartbeats 4000000 in
set_option maxRecDepth 100000 in
theorem c_X4_longestWithin (τ : SX) (a : Nat → Nat) (lw : Nat → Int32) (kd : Nat → Int32) (bt : Nat → Int32) (ph : Nat → Int32) (cn : Nat → Int32) (no : Nat → Int32) (ct : Int32) (sc : Int32) (rn : Int32) (lg : Int32) (dn : Int32) (zz : Int32) (x1 : Int32) (hct : ct.toInt ≤ 8) (hn : x1.toInt ≤ 60) (sz : Nat) : McI τ yX4_longestWithin wsX4_longestWithin rmX4_longestWithin .int [.ref (a 0), .int x1] (wT τ a lw kd bt ph cn no ct sc rn lg dn zz) (fun u : Int32 × Int32 × Int32 × Int32 => (wT τ a lw kd bt ph cn no ct u.1 u.2.1 u.2.2.1 u.2.2.2 zz)) (f_X4_longestWithin lw kd bt ph ct sc rn lg dn x1) sz := by
  refine mc_I (cc := cX4_longestWithin) (own := RX4) [(0, .ref (a 0)), (1, .int x1)] rfl (by decide) rfl rfl (Nat.le_of_ble_eq_true rfl) (fun κ C hR => ?_)
  have hiX4 : ∀ w ∈ wsX40, w ∈ wsX4_longestWithin := fun w h => List.mem_cons_of_mem _ (List.mem_append_right _ h)
  unfold f_X4_longestWithin at hR
  refine j_iconst (v := 0) C dX4_longestWithin_0 1 rfl (by decide) ?_
  refine j_istore_n C dX4_longestWithin_1 2 rfl rfl (by decide) [(2, .int 0), (0, .ref (a 0)), (1, .int x1)] rfl ?_
  refine j_iconst (v := 0) C dX4_longestWithin_2 3 rfl (by decide) ?_
  refine j_istore_n C dX4_longestWithin_3 4 rfl rfl (by decide) [(3, .int 0), (2, .int 0), (0, .ref (a 0)), (1, .int x1)] rfl ?_
  refine j_lv [2, 3, 1, 0] [(0, .ref (a 0)), (1, .int x1), (2, .int 0), (3, .int 0)] rfl (L_X4_longestWithin_4 C a lw kd bt ph cn no ct zz x1 hct hn (fun (o : Int32 × Int32 × Int32 × Int32 × Int32 × Int32) => Rt τ κ cX4_longestWithin .int (fun u : Int32 × Int32 × Int32 × Int32 => (wT τ a lw kd bt ph cn no ct u.1 u.2.1 u.2.2.1 u.2.2.2 zz)) (pr6 o (fun x2_1 x3_1 sc_1 rn_1 lg_1 dn_1 => (x2_1, sc_1, rn_1, lg_1, dn_1)))) (fun x2_1 x3_1 sc_1 rn_1 lg_1 dn_1  hR => ?_) 300 (0 : Int32) (0 : Int32) sc rn lg dn (by decide) (by decide) (by decide) hR)
  rw [pr6_mk x2_1 x3_1 sc_1 rn_1 lg_1 dn_1] at hR
  refine j_iload_n C dX4_longestWithin_32 33 rfl rfl 2 rfl ?_
  exact Rt.ret (hR) rfl dX4_longestWithin_33

-- X4_noiseOfAll
def l_X4_noiseOfAll_4 (no : Nat → Int32) (ct : Int32) : Nat → Int32 → Int32 → Int32 × Int32
  | 0, x1, x2 => (x1, x2)
  | N + 1, x1, x2 => if (ct ≤ x2) then (x1, x2) else (l_X4_noiseOfAll_4 no ct N (x1 + (no (x2).toNatClampNeg)) (x2 + 1))
def f_X4_noiseOfAll (no : Nat → Int32) (ct : Int32) : Int32 := pr2 (l_X4_noiseOfAll_4 no ct 300 (0 : Int32) (0 : Int32)) (fun x1_1 x2_1 => x1_1)
theorem kX4_noiseOfAll_f46 : Cond.fieldLink RX4 46 "TwoMinutes$Town" "count" "I" ∈ wsX4_noiseOfAll := by decide +kernel
theorem kX4_noiseOfAll_f27 : Cond.fieldLink RX4 27 "TwoMinutes$Town" "noises" "[I" ∈ wsX4_noiseOfAll := by decide +kernel
theorem qd_X4_noiseOfAll : yX4_noiseOfAll.cls = RX4 ∧ yX4_noiseOfAll.cls ≠ "java/lang/invoke/MethodHandle" ∧ yX4_noiseOfAll.cls ≠ "java/lang/invoke/VarHandle" ∧ (parseMethodDescriptor yX4_noiseOfAll.desc).map (fun d => d.parameters.length) = some 0 := by decide +kernel
abbrev rmX4_noiseOfAll : Room := { frames := 0, cells := 0, slots := 0, locals := 0 }
set_option maxHeartbeats 4000000 in
set_option maxRecDepth 100000 in
theorem L_X4_noiseOfAll_4 {τ : SX} {κ : KX} (C : Cx τ κ cX4_noiseOfAll RX4 wsX4_noiseOfAll rmX4_noiseOfAll 3) (a : Nat → Nat) (lw : Nat → Int32) (kd : Nat → Int32) (bt : Nat → Int32) (ph : Nat → Int32) (cn : Nat → Int32) (no : Nat → Int32) (ct : Int32) (sc : Int32) (rn : Int32) (lg : Int32) (dn : Int32) (zz : Int32) (hct : ct.toInt ≤ 8) (Φ : Int32 × Int32 → Prop) (hE : ∀ (x1 : Int32) (x2 : Int32), Φ (x1, x2) → J τ κ 0 0 (wT τ a lw kd bt ph cn no ct sc rn lg dn zz) [(0, .ref (a 0)), (1, .int x1), (2, .int x2)] 27 []) : ∀ (N : Nat) (x1 : Int32) (x2 : Int32), ((8 : Int) - x2.toInt).toNat < N → (0 ≤ x2.toInt) → (x2.toInt ≤ 8) → Φ (l_X4_noiseOfAll_4 no ct N x1 x2) → J τ κ 0 0 (wT τ a lw kd bt ph cn no ct sc rn lg dn zz) [(0, .ref (a 0)), (1, .int x1), (2, .int x2)] 4 [] := by
  have hiX4 : ∀ w ∈ wsX40, w ∈ wsX4_noiseOfAll := fun w h => List.mem_cons_of_mem _ (List.mem_append_right _ h)
  intro N
  induction N with
  | zero => intro x1 x2 hm; exact absurd hm (Nat.not_lt_zero _)
  | succ N ih =>
    intro x1 x2 hm h0 h1 hR
    rw [l_X4_noiseOfAll_4] at hR
    refine j_iload_n C dX4_noiseOfAll_4 5 rfl rfl 2 rfl ?_
    refine j_aload_n C dX4_noiseOfAll_5 6 rfl rfl 0 rfl ?_
    refine j_get C dX4_noiseOfAll_6 9 rfl hiX4 0 rfl rfl 6 (by decide) rfl kX4_noiseOfAll_f46 rfl ?_
    refine j_icmp_ge C dX4_noiseOfAll_9 27 rfl 12 rfl (fun c2 => ?_) (fun c2 => ?_)
    · rw [if_pos c2] at hR
      exact j_lv [0, 1, 2] [(0, .ref (a 0)), (1, .int x1), (2, .int x2)] rfl (hE _ _  hR)
    · rw [if_neg c2] at hR
      have hs := cnt_step (B := 8) h0 (hct) (by decide) c2
      refine j_iload_n C dX4_noiseOfAll_12 13 rfl rfl 1 rfl ?_
      refine j_aload_n C dX4_noiseOfAll_13 14 rfl rfl 0 rfl ?_
      refine j_get C dX4_noiseOfAll_14 17 rfl hiX4 0 rfl rfl 5 (by decide) rfl kX4_noiseOfAll_f27 rfl ?_
      refine j_iload_n C dX4_noiseOfAll_17 18 rfl rfl 2 rfl ?_
      refine j_iald C dX4_noiseOfAll_18 19 rfl 6 rfl (by first | assumption | exact vp_in_iff.mpr ⟨by omega, by omega⟩ | exact nz_nle (by assumption) | exact nz_lt (by assumption) | omega) (x2).toNatClampNeg rfl ?_
      refine j_iadd C dX4_noiseOfAll_19 20 rfl ?_
      refine j_istore_n C dX4_noiseOfAll_20 21 rfl rfl (by decide) [(1, .int (x1 + (no (x2).toNatClampNeg))), (0, .ref (a 0)), (2, .int x2)] rfl ?_
      refine j_iinc (v := (x2 + 1)) C dX4_noiseOfAll_21 24 rfl 2 rfl rfl (by decide) [(2, .int (x2 + 1)), (1, .int (x1 + (no (x2).toNatClampNeg))), (0, .ref (a 0))] rfl ?_
      refine j_goto C dX4_noiseOfAll_24 4 rfl ?_
      exact j_lv [2, 1, 0] [(0, .ref (a 0)), (1, .int (x1 + (no (x2).toNatClampNeg))), (2, .int (x2 + 1))] rfl (ih _ _ (by have := hs.2.2.1; omega) hs.1 hs.2.1 hR)
set_option maxHeartbeats 4000000 in
set_option maxRecDepth 100000 in
theorem c_X4_noiseOfAll (τ : SX) (a : Nat → Nat) (lw : Nat → Int32) (kd : Nat → Int32) (bt : Nat → Int32) (ph : Nat → Int32) (cn : Nat → Int32) (no : Nat → Int32) (ct : Int32) (sc : Int32) (rn : Int32) (lg : Int32) (dn : Int32) (zz : Int32) (hct : ct.toInt ≤ 8) (sz : Nat) : McI τ yX4_noiseOfAll wsX4_noiseOfAll rmX4_noiseOfAll .int [.ref (a 0)] (wT τ a lw kd bt ph cn no ct sc rn lg dn zz) (fun _ : Unit => (wT τ a lw kd bt ph cn no ct sc rn lg dn zz)) (f_X4_noiseOfAll no ct, ()) sz := by
  refine mc_I (cc := cX4_noiseOfAll) (own := RX4) [(0, .ref (a 0))] rfl (by decide) rfl rfl (Nat.le_of_ble_eq_true rfl) (fun κ C hR => ?_)
  have hiX4 : ∀ w ∈ wsX40, w ∈ wsX4_noiseOfAll := fun w h => List.mem_cons_of_mem _ (List.mem_append_right _ h)
  unfold f_X4_noiseOfAll at hR
  refine j_iconst (v := 0) C dX4_noiseOfAll_0 1 rfl (by decide) ?_
  refine j_istore_n C dX4_noiseOfAll_1 2 rfl rfl (by decide) [(1, .int 0), (0, .ref (a 0))] rfl ?_
  refine j_iconst (v := 0) C dX4_noiseOfAll_2 3 rfl (by decide) ?_
  refine j_istore_n C dX4_noiseOfAll_3 4 rfl rfl (by decide) [(2, .int 0), (1, .int 0), (0, .ref (a 0))] rfl ?_
  refine j_lv [2, 1, 0] [(0, .ref (a 0)), (1, .int 0), (2, .int 0)] rfl (L_X4_noiseOfAll_4 C a lw kd bt ph cn no ct sc rn lg dn zz  hct (fun (o : Int32 × Int32) => Rt τ κ cX4_noiseOfAll .int (fun _ : Unit => (wT τ a lw kd bt ph cn no ct sc rn lg dn zz)) ((pr2 o (fun x1_1 x2_1 => x1_1), ()))) (fun x1_1 x2_1  hR => ?_) 300 (0 : Int32) (0 : Int32) (by decide) (by decide) (by decide) hR)
  rw [pr2_mk x1_1 x2_1] at hR
  refine j_iload_n C dX4_noiseOfAll_27 28 rfl rfl 1 rfl ?_
  exact Rt.ret (hR) rfl dX4_noiseOfAll_28

-- X4_thoseWithNoise
def l_X4_thoseWithNoise_4 (no : Nat → Int32) (ct : Int32) : Nat → Int32 → Int32 → Int32 × Int32
  | 0, x1, x2 => (x1, x2)
  | N + 1, x1, x2 => if (ct ≤ x2) then (x1, x2) else (pr1 (if ((no (x2).toNatClampNeg) ≤ 0) then x1 else (x1 + 1)) (fun j18_0 => l_X4_thoseWithNoise_4 no ct N j18_0 (x2 + 1)))
def f_X4_thoseWithNoise (no : Nat → Int32) (ct : Int32) : Int32 := pr2 (l_X4_thoseWithNoise_4 no ct 300 (0 : Int32) (0 : Int32)) (fun x1_1 x2_1 => x1_1)
theorem kX4_thoseWithNoise_f46 : Cond.fieldLink RX4 46 "TwoMinutes$Town" "count" "I" ∈ wsX4_thoseWithNoise := by decide +kernel
theorem kX4_thoseWithNoise_f27 : Cond.fieldLink RX4 27 "TwoMinutes$Town" "noises" "[I" ∈ wsX4_thoseWithNoise := by decide +kernel
theorem qd_X4_thoseWithNoise : yX4_thoseWithNoise.cls = RX4 ∧ yX4_thoseWithNoise.cls ≠ "java/lang/invoke/MethodHandle" ∧ yX4_thoseWithNoise.cls ≠ "java/lang/invoke/VarHandle" ∧ (parseMethodDescriptor yX4_thoseWithNoise.desc).map (fun d => d.parameters.length) = some 0 := by decide +kernel
abbrev rmX4_thoseWithNoise : Room := { frames := 0, cells := 0, slots := 0, locals := 0 }
set_option maxHeartbeats 4000000 in
set_option maxRecDepth 100000 in
theorem L_X4_thoseWithNoise_4 {τ : SX} {κ : KX} (C : Cx τ κ cX4_thoseWithNoise RX4 wsX4_thoseWithNoise rmX4_thoseWithNoise 3) (a : Nat → Nat) (lw : Nat → Int32) (kd : Nat → Int32) (bt : Nat → Int32) (ph : Nat → Int32) (cn : Nat → Int32) (no : Nat → Int32) (ct : Int32) (sc : Int32) (rn : Int32) (lg : Int32) (dn : Int32) (zz : Int32) (hct : ct.toInt ≤ 8) (Φ : Int32 × Int32 → Prop) (hE : ∀ (x1 : Int32) (x2 : Int32), Φ (x1, x2) → J τ κ 0 0 (wT τ a lw kd bt ph cn no ct sc rn lg dn zz) [(0, .ref (a 0)), (1, .int x1), (2, .int x2)] 30 []) : ∀ (N : Nat) (x1 : Int32) (x2 : Int32), ((8 : Int) - x2.toInt).toNat < N → (0 ≤ x2.toInt) → (x2.toInt ≤ 8) → Φ (l_X4_thoseWithNoise_4 no ct N x1 x2) → J τ κ 0 0 (wT τ a lw kd bt ph cn no ct sc rn lg dn zz) [(0, .ref (a 0)), (1, .int x1), (2, .int x2)] 4 [] := by
  have hiX4 : ∀ w ∈ wsX40, w ∈ wsX4_thoseWithNoise := fun w h => List.mem_cons_of_mem _ (List.mem_append_right _ h)
  intro N
  induction N with
  | zero => intro x1 x2 hm; exact absurd hm (Nat.not_lt_zero _)
  | succ N ih =>
    intro x1 x2 hm h0 h1 hR
    rw [l_X4_thoseWithNoise_4] at hR
    refine j_iload_n C dX4_thoseWithNoise_4 5 rfl rfl 2 rfl ?_
    refine j_aload_n C dX4_thoseWithNoise_5 6 rfl rfl 0 rfl ?_
    refine j_get C dX4_thoseWithNoise_6 9 rfl hiX4 0 rfl rfl 6 (by decide) rfl kX4_thoseWithNoise_f46 rfl ?_
    refine j_icmp_ge C dX4_thoseWithNoise_9 30 rfl 12 rfl (fun c2 => ?_) (fun c2 => ?_)
    · rw [if_pos c2] at hR
      exact j_lv [0, 1, 2] [(0, .ref (a 0)), (1, .int x1), (2, .int x2)] rfl (hE _ _  hR)
    · rw [if_neg c2] at hR
      have hs := cnt_step (B := 8) h0 (hct) (by decide) c2
      refine j_aload_n C dX4_thoseWithNoise_12 13 rfl rfl 0 rfl ?_
      refine j_get C dX4_thoseWithNoise_13 16 rfl hiX4 0 rfl rfl 5 (by decide) rfl kX4_thoseWithNoise_f27 rfl ?_
      refine j_iload_n C dX4_thoseWithNoise_16 17 rfl rfl 2 rfl ?_
      refine j_iald C dX4_thoseWithNoise_17 18 rfl 6 rfl (by first | assumption | exact vp_in_iff.mpr ⟨by omega, by omega⟩ | exact nz_nle (by assumption) | exact nz_lt (by assumption) | omega) (x2).toNatClampNeg rfl ?_
      have J18 : ∀ (j18_0 : Int32), Φ (l_X4_thoseWithNoise_4 no ct N j18_0 (x2 + 1)) → J τ κ 0 0 (wT τ a lw kd bt ph cn no ct sc rn lg dn zz) [(0, .ref (a 0)), (1, .int j18_0), (2, .int x2)] 24 [] := by
        intro j18_0  hR
        refine j_iinc (v := (x2 + 1)) C dX4_thoseWithNoise_24 27 rfl 2 rfl rfl (by decide) [(2, .int (x2 + 1)), (0, .ref (a 0)), (1, .int j18_0)] rfl ?_
        refine j_goto C dX4_thoseWithNoise_27 4 rfl ?_
        exact j_lv [1, 2, 0] [(0, .ref (a 0)), (1, .int j18_0), (2, .int (x2 + 1))] rfl (ih _ _ (by have := hs.2.2.1; omega) hs.1 hs.2.1 hR)
      refine j_if_le C dX4_thoseWithNoise_18 24 rfl 21 rfl (fun c3 => ?_) (fun c3 => ?_)
      · rw [if_pos c3] at hR
        rw [pr1_mk x1] at hR
        exact j_lv [0, 1, 2] [(0, .ref (a 0)), (1, .int x1), (2, .int x2)] rfl (J18 _  hR)
      · rw [if_neg c3] at hR
        refine j_iinc (v := (x1 + 1)) C dX4_thoseWithNoise_21 24 rfl 1 rfl rfl (by decide) [(1, .int (x1 + 1)), (0, .ref (a 0)), (2, .int x2)] rfl ?_
        rw [pr1_mk (x1 + 1)] at hR
        exact j_lv [1, 0, 2] [(0, .ref (a 0)), (1, .int (x1 + 1)), (2, .int x2)] rfl (J18 _  hR)
set_option maxHeartbeats 4000000 in
set_option maxRecDepth 100000 in
theorem c_X4_thoseWithNoise (τ : SX) (a : Nat → Nat) (lw : Nat → Int32) (kd : Nat → Int32) (bt : Nat → Int32) (ph : Nat → Int32) (cn : Nat → Int32) (no : Nat → Int32) (ct : Int32) (sc : Int32) (rn : Int32) (lg : Int32) (dn : Int32) (zz : Int32) (hct : ct.toInt ≤ 8) (sz : Nat) : McI τ yX4_thoseWithNoise wsX4_thoseWithNoise rmX4_thoseWithNoise .int [.ref (a 0)] (wT τ a lw kd bt ph cn no ct sc rn lg dn zz) (fun _ : Unit => (wT τ a lw kd bt ph cn no ct sc rn lg dn zz)) (f_X4_thoseWithNoise no ct, ()) sz := by
  refine mc_I (cc := cX4_thoseWithNoise) (own := RX4) [(0, .ref (a 0))] rfl (by decide) rfl rfl (Nat.le_of_ble_eq_true rfl) (fun κ C hR => ?_)
  have hiX4 : ∀ w ∈ wsX40, w ∈ wsX4_thoseWithNoise := fun w h => List.mem_cons_of_mem _ (List.mem_append_right _ h)
  unfold f_X4_thoseWithNoise at hR
  refine j_iconst (v := 0) C dX4_thoseWithNoise_0 1 rfl (by decide) ?_
  refine j_istore_n C dX4_thoseWithNoise_1 2 rfl rfl (by decide) [(1, .int 0), (0, .ref (a 0))] rfl ?_
  refine j_iconst (v := 0) C dX4_thoseWithNoise_2 3 rfl (by decide) ?_
  refine j_istore_n C dX4_thoseWithNoise_3 4 rfl rfl (by decide) [(2, .int 0), (1, .int 0), (0, .ref (a 0))] rfl ?_
  refine j_lv [2, 1, 0] [(0, .ref (a 0)), (1, .int 0), (2, .int 0)] rfl (L_X4_thoseWithNoise_4 C a lw kd bt ph cn no ct sc rn lg dn zz  hct (fun (o : Int32 × Int32) => Rt τ κ cX4_thoseWithNoise .int (fun _ : Unit => (wT τ a lw kd bt ph cn no ct sc rn lg dn zz)) ((pr2 o (fun x1_1 x2_1 => x1_1), ()))) (fun x1_1 x2_1  hR => ?_) 300 (0 : Int32) (0 : Int32) (by decide) (by decide) (by decide) hR)
  rw [pr2_mk x1_1 x2_1] at hR
  refine j_iload_n C dX4_thoseWithNoise_30 31 rfl rfl 1 rfl ?_
  exact Rt.ret (hR) rfl dX4_thoseWithNoise_31

-- X4_cornersTaken
def l_X4_cornersTaken_4 (cn : Nat → Int32) (ct : Int32) : Nat → Int32 → Int32 → Int32 × Int32
  | 0, x1, x2 => (x1, x2)
  | N + 1, x1, x2 => if (12 ≤ x2) then (x1, x2) else (pr1 (if ((f_X4_setAt cn ct x2) = 0) then x1 else (x1 + 1)) (fun j15_0 => l_X4_cornersTaken_4 cn ct N j15_0 (x2 + 1)))
def f_X4_cornersTaken (cn : Nat → Int32) (ct : Int32) : Int32 := pr2 (l_X4_cornersTaken_4 cn ct 300 (0 : Int32) (0 : Int32)) (fun x1_1 x2_1 => x1_1)
theorem qd_X4_cornersTaken : yX4_cornersTaken.cls = RX4 ∧ yX4_cornersTaken.cls ≠ "java/lang/invoke/MethodHandle" ∧ yX4_cornersTaken.cls ≠ "java/lang/invoke/VarHandle" ∧ (parseMethodDescriptor yX4_cornersTaken.desc).map (fun d => d.parameters.length) = some 0 := by decide +kernel
abbrev rmX4_cornersTaken : Room := { frames := 1, cells := 0, slots := 0, locals := 23 }
set_option maxHeartbeats 4000000 in
set_option maxRecDepth 100000 in
theorem L_X4_cornersTaken_4 {τ : SX} {κ : KX} (C : Cx τ κ cX4_cornersTaken RX4 wsX4_cornersTaken rmX4_cornersTaken 3) (a : Nat → Nat) (lw : Nat → Int32) (kd : Nat → Int32) (bt : Nat → Int32) (ph : Nat → Int32) (cn : Nat → Int32) (no : Nat → Int32) (ct : Int32) (sc : Int32) (rn : Int32) (lg : Int32) (dn : Int32) (zz : Int32) (hct : ct.toInt ≤ 8) (Φ : Int32 × Int32 → Prop) (hE : ∀ (x1 : Int32) (x2 : Int32), Φ (x1, x2) → J τ κ 0 0 (wT τ a lw kd bt ph cn no ct sc rn lg dn zz) [(0, .ref (a 0)), (1, .int x1), (2, .int x2)] 27 []) : ∀ (N : Nat) (x1 : Int32) (x2 : Int32), ((12 : Int) - x2.toInt).toNat < N → (0 ≤ x2.toInt) → (x2.toInt ≤ 12) → Φ (l_X4_cornersTaken_4 cn ct N x1 x2) → J τ κ 0 0 (wT τ a lw kd bt ph cn no ct sc rn lg dn zz) [(0, .ref (a 0)), (1, .int x1), (2, .int x2)] 4 [] := by
  have hiX4 : ∀ w ∈ wsX40, w ∈ wsX4_cornersTaken := fun w h => List.mem_cons_of_mem _ (List.mem_append_right _ h)
  intro N
  induction N with
  | zero => intro x1 x2 hm; exact absurd hm (Nat.not_lt_zero _)
  | succ N ih =>
    intro x1 x2 hm h0 h1 hR
    rw [l_X4_cornersTaken_4] at hR
    refine j_iload_n C dX4_cornersTaken_4 5 rfl rfl 2 rfl ?_
    refine j_bipush (v := 12) C dX4_cornersTaken_5 7 rfl (by decide) ?_
    refine j_icmp_ge C dX4_cornersTaken_7 27 rfl 10 rfl (fun c2 => ?_) (fun c2 => ?_)
    · rw [if_pos c2] at hR
      exact j_lv [0, 1, 2] [(0, .ref (a 0)), (1, .int x1), (2, .int x2)] rfl (hE _ _  hR)
    · rw [if_neg c2] at hR
      have hs := cnt_step (B := 12) h0 (by decide) (by decide) c2
      refine j_aload_n C dX4_cornersTaken_10 11 rfl rfl 0 rfl ?_
      refine j_iload_n C dX4_cornersTaken_11 12 rfl rfl 2 rfl ?_
      refine j_cv0I (na := 1) C dX4_cornersTaken_12 15 rfl (c_X4_setAt τ a lw kd bt ph cn no ct sc rn lg dn zz x2 (by first | assumption | exact vp_in_iff.mpr ⟨by omega, by omega⟩ | exact nz_nle (by assumption) | exact nz_lt (by assumption) | omega)) gX4_cornersTaken_X4_setAt rfl rfl rfl qd_X4_setAt rfl ⟨by decide, by decide⟩ ⟨by decide, by decide⟩ rfl (Nat.le_of_ble_eq_true rfl) rfl 4 0 rfl rfl (fun r3 u3 hX3 hn3 => ?_)
      obtain rfl := (Prod.mk.inj hX3).1
      have J15 : ∀ (j15_0 : Int32), Φ (l_X4_cornersTaken_4 cn ct N j15_0 (x2 + 1)) → J τ κ 0 0 (wT τ a lw kd bt ph cn no ct sc rn lg dn zz) [(0, .ref (a 0)), (1, .int j15_0), (2, .int x2)] 21 [] := by
        intro j15_0  hR
        refine j_iinc (v := (x2 + 1)) C dX4_cornersTaken_21 24 rfl 2 rfl rfl (by decide) [(2, .int (x2 + 1)), (0, .ref (a 0)), (1, .int j15_0)] rfl ?_
        refine j_goto C dX4_cornersTaken_24 4 rfl ?_
        exact j_lv [1, 2, 0] [(0, .ref (a 0)), (1, .int j15_0), (2, .int (x2 + 1))] rfl (ih _ _ (by have := hs.2.2.1; omega) hs.1 hs.2.1 hR)
      refine j_if_eq C dX4_cornersTaken_15 21 rfl 18 rfl (fun c4 => ?_) (fun c4 => ?_)
      · rw [if_pos c4] at hR
        rw [pr1_mk x1] at hR
        exact j_lv [0, 1, 2] [(0, .ref (a 0)), (1, .int x1), (2, .int x2)] rfl (J15 _  hR)
      · rw [if_neg c4] at hR
        refine j_iinc (v := (x1 + 1)) C dX4_cornersTaken_18 21 rfl 1 rfl rfl (by decide) [(1, .int (x1 + 1)), (0, .ref (a 0)), (2, .int x2)] rfl ?_
        rw [pr1_mk (x1 + 1)] at hR
        exact j_lv [1, 0, 2] [(0, .ref (a 0)), (1, .int (x1 + 1)), (2, .int x2)] rfl (J15 _  hR)
set_option maxHeartbeats 4000000 in
set_option maxRecDepth 100000 in
theorem c_X4_cornersTaken (τ : SX) (a : Nat → Nat) (lw : Nat → Int32) (kd : Nat → Int32) (bt : Nat → Int32) (ph : Nat → Int32) (cn : Nat → Int32) (no : Nat → Int32) (ct : Int32) (sc : Int32) (rn : Int32) (lg : Int32) (dn : Int32) (zz : Int32) (hct : ct.toInt ≤ 8) (sz : Nat) : McI τ yX4_cornersTaken wsX4_cornersTaken rmX4_cornersTaken .int [.ref (a 0)] (wT τ a lw kd bt ph cn no ct sc rn lg dn zz) (fun _ : Unit => (wT τ a lw kd bt ph cn no ct sc rn lg dn zz)) (f_X4_cornersTaken cn ct, ()) sz := by
  refine mc_I (cc := cX4_cornersTaken) (own := RX4) [(0, .ref (a 0))] rfl (by decide) rfl rfl (Nat.le_of_ble_eq_true rfl) (fun κ C hR => ?_)
  have hiX4 : ∀ w ∈ wsX40, w ∈ wsX4_cornersTaken := fun w h => List.mem_cons_of_mem _ (List.mem_append_right _ h)
  unfold f_X4_cornersTaken at hR
  refine j_iconst (v := 0) C dX4_cornersTaken_0 1 rfl (by decide) ?_
  refine j_istore_n C dX4_cornersTaken_1 2 rfl rfl (by decide) [(1, .int 0), (0, .ref (a 0))] rfl ?_
  refine j_iconst (v := 0) C dX4_cornersTaken_2 3 rfl (by decide) ?_
  refine j_istore_n C dX4_cornersTaken_3 4 rfl rfl (by decide) [(2, .int 0), (1, .int 0), (0, .ref (a 0))] rfl ?_
  refine j_lv [2, 1, 0] [(0, .ref (a 0)), (1, .int 0), (2, .int 0)] rfl (L_X4_cornersTaken_4 C a lw kd bt ph cn no ct sc rn lg dn zz  hct (fun (o : Int32 × Int32) => Rt τ κ cX4_cornersTaken .int (fun _ : Unit => (wT τ a lw kd bt ph cn no ct sc rn lg dn zz)) ((pr2 o (fun x1_1 x2_1 => x1_1), ()))) (fun x1_1 x2_1  hR => ?_) 300 (0 : Int32) (0 : Int32) (by decide) (by decide) (by decide) hR)
  rw [pr2_mk x1_1 x2_1] at hR
  refine j_iload_n C dX4_cornersTaken_27 28 rfl rfl 1 rfl ?_
  exact Rt.ret (hR) rfl dX4_cornersTaken_28

-- X4_copyFrom
def f_X4_copyFrom (lw : Nat → Int32) (kd : Nat → Int32) (bt : Nat → Int32) (ph : Nat → Int32) (cn : Nat → Int32) (no : Nat → Int32) (qlw : Nat → Int32) (qkd : Nat → Int32) (qbt : Nat → Int32) (qph : Nat → Int32) (qcn : Nat → Int32) (qno : Nat → Int32) (qct : Int32) (qsc : Int32) (qrn : Int32) (qlg : Int32) (qdn : Int32) (qzz : Int32) : (Nat → Int32) × (Nat → Int32) × (Nat → Int32) × (Nat → Int32) × (Nat → Int32) × (Nat → Int32) × Int32 × Int32 × Int32 × Int32 × Int32 × Int32 := ((va_cpy qlw lw 0 0 4), (va_cpy qkd kd 0 0 8), (va_cpy qbt bt 0 0 8), (va_cpy qph ph 0 0 8), (va_cpy qcn cn 0 0 8), (va_cpy qno no 0 0 8), qct, qsc, qrn, qlg, qdn, qzz)
theorem kX4_copyFrom_f9 : Cond.fieldLink RX4 9 "TwoMinutes$Town" "laws" "[I" ∈ wsX4_copyFrom := by decide +kernel
theorem kX4_copyFrom_m40 : Cond.methodLink RX4 40 arraycopyName ∈ wsX4_copyFrom := by decide +kernel
theorem kX4_copyFrom_nac : Cond.native arraycopyName ∈ wsX4_copyFrom := by decide +kernel
theorem kX4_copyFrom_sac : Cond.static arraycopyName ∈ wsX4_copyFrom := by decide +kernel
theorem kX4_copyFrom_iSystem : Cond.initialized "java/lang/System" ∈ wsX4_copyFrom := by decide +kernel
theorem kX4_copyFrom_f15 : Cond.fieldLink RX4 15 "TwoMinutes$Town" "kinds" "[I" ∈ wsX4_copyFrom := by decide +kernel
theorem kX4_copyFrom_f18 : Cond.fieldLink RX4 18 "TwoMinutes$Town" "beats" "[I" ∈ wsX4_copyFrom := by decide +kernel
theorem kX4_copyFrom_f21 : Cond.fieldLink RX4 21 "TwoMinutes$Town" "phases" "[I" ∈ wsX4_copyFrom := by decide +kernel
theorem kX4_copyFrom_f24 : Cond.fieldLink RX4 24 "TwoMinutes$Town" "corners" "[I" ∈ wsX4_copyFrom := by decide +kernel
theorem kX4_copyFrom_f27 : Cond.fieldLink RX4 27 "TwoMinutes$Town" "noises" "[I" ∈ wsX4_copyFrom := by decide +kernel
theorem kX4_copyFrom_f46 : Cond.fieldLink RX4 46 "TwoMinutes$Town" "count" "I" ∈ wsX4_copyFrom := by decide +kernel
theorem kX4_copyFrom_f49 : Cond.fieldLink RX4 49 "TwoMinutes$Town" "second" "I" ∈ wsX4_copyFrom := by decide +kernel
theorem kX4_copyFrom_f55 : Cond.fieldLink RX4 55 "TwoMinutes$Town" "run" "I" ∈ wsX4_copyFrom := by decide +kernel
theorem kX4_copyFrom_f58 : Cond.fieldLink RX4 58 "TwoMinutes$Town" "longest" "I" ∈ wsX4_copyFrom := by decide +kernel
theorem kX4_copyFrom_f61 : Cond.fieldLink RX4 61 "TwoMinutes$Town" "done" "I" ∈ wsX4_copyFrom := by decide +kernel
theorem kX4_copyFrom_f30 : Cond.fieldLink RX4 30 "TwoMinutes$Town" "z" "I" ∈ wsX4_copyFrom := by decide +kernel
theorem qd_X4_copyFrom : yX4_copyFrom.cls = RX4 ∧ yX4_copyFrom.cls ≠ "java/lang/invoke/MethodHandle" ∧ yX4_copyFrom.cls ≠ "java/lang/invoke/VarHandle" ∧ (parseMethodDescriptor yX4_copyFrom.desc).map (fun d => d.parameters.length) = some 1 := by decide +kernel
abbrev rmX4_copyFrom : Room := { frames := 1, cells := 0, slots := 0, locals := 26 }
set_option maxHeartbeats 4000000 in
set_option maxRecDepth 100000 in
theorem c_X4_copyFrom (τ : SX) (a b : Nat → Nat) (lw : Nat → Int32) (kd : Nat → Int32) (bt : Nat → Int32) (ph : Nat → Int32) (cn : Nat → Int32) (no : Nat → Int32) (ct : Int32) (sc : Int32) (rn : Int32) (lg : Int32) (dn : Int32) (zz : Int32) (qlw : Nat → Int32) (qkd : Nat → Int32) (qbt : Nat → Int32) (qph : Nat → Int32) (qcn : Nat → Int32) (qno : Nat → Int32) (qct : Int32) (qsc : Int32) (qrn : Int32) (qlg : Int32) (qdn : Int32) (qzz : Int32) (sz : Nat) : McV τ yX4_copyFrom wsX4_copyFrom rmX4_copyFrom [.ref (a 0), .ref (b 0)] ((wT τ a lw kd bt ph cn no ct sc rn lg dn zz) ++ (wT τ b qlw qkd qbt qph qcn qno qct qsc qrn qlg qdn qzz)) (fun u : (Nat → Int32) × (Nat → Int32) × (Nat → Int32) × (Nat → Int32) × (Nat → Int32) × (Nat → Int32) × Int32 × Int32 × Int32 × Int32 × Int32 × Int32 => ((wT τ a u.1 u.2.1 u.2.2.1 u.2.2.2.1 u.2.2.2.2.1 u.2.2.2.2.2.1 u.2.2.2.2.2.2.1 u.2.2.2.2.2.2.2.1 u.2.2.2.2.2.2.2.2.1 u.2.2.2.2.2.2.2.2.2.1 u.2.2.2.2.2.2.2.2.2.2.1 u.2.2.2.2.2.2.2.2.2.2.2) ++ (wT τ b qlw qkd qbt qph qcn qno qct qsc qrn qlg qdn qzz))) (f_X4_copyFrom lw kd bt ph cn no qlw qkd qbt qph qcn qno qct qsc qrn qlg qdn qzz) 0 0 sz := by
  refine mc_V (cc := cX4_copyFrom) (own := RX4) [(0, .ref (a 0)), (1, .ref (b 0))] rfl (by decide) rfl rfl (Nat.le_of_ble_eq_true rfl) (fun κ C _ hR => ?_)
  have hiX4 : ∀ w ∈ wsX40, w ∈ wsX4_copyFrom := fun w h => List.mem_cons_of_mem _ (List.mem_append_right _ h)
  unfold f_X4_copyFrom at hR
  refine j_aload_n C dX4_copyFrom_0 1 rfl rfl 1 rfl ?_
  refine j_get C dX4_copyFrom_1 4 rfl hiX4 7 rfl rfl 0 (by decide) rfl kX4_copyFrom_f9 rfl ?_
  refine j_iconst (v := 0) C dX4_copyFrom_4 5 rfl (by decide) ?_
  refine j_aload_n C dX4_copyFrom_5 6 rfl rfl 0 rfl ?_
  refine j_get C dX4_copyFrom_6 9 rfl hiX4 0 rfl rfl 0 (by decide) rfl kX4_copyFrom_f9 rfl ?_
  refine j_iconst (v := 0) C dX4_copyFrom_9 10 rfl (by decide) ?_
  refine j_iconst (v := 4) C dX4_copyFrom_10 11 rfl (by decide) ?_
  refine j_copy C dX4_copyFrom_11 14 rfl kX4_copyFrom_m40 kX4_copyFrom_nac kX4_copyFrom_sac kX4_copyFrom_iSystem 8 1 rfl rfl (by decide) (by decide) (by decide) (by decide) (Nat.le_of_ble_eq_true rfl) 4 rfl ((wT τ a (va_cpy qlw lw 0 0 4) kd bt ph cn no ct sc rn lg dn zz) ++ (wT τ b qlw qkd qbt qph qcn qno qct qsc qrn qlg qdn qzz)) rfl ?_
  refine j_aload_n C dX4_copyFrom_14 15 rfl rfl 1 rfl ?_
  refine j_get C dX4_copyFrom_15 18 rfl hiX4 7 rfl rfl 1 (by decide) rfl kX4_copyFrom_f15 rfl ?_
  refine j_iconst (v := 0) C dX4_copyFrom_18 19 rfl (by decide) ?_
  refine j_aload_n C dX4_copyFrom_19 20 rfl rfl 0 rfl ?_
  refine j_get C dX4_copyFrom_20 23 rfl hiX4 0 rfl rfl 1 (by decide) rfl kX4_copyFrom_f15 rfl ?_
  refine j_iconst (v := 0) C dX4_copyFrom_23 24 rfl (by decide) ?_
  refine j_bipush (v := 8) C dX4_copyFrom_24 26 rfl (by decide) ?_
  refine j_copy C dX4_copyFrom_26 29 rfl kX4_copyFrom_m40 kX4_copyFrom_nac kX4_copyFrom_sac kX4_copyFrom_iSystem 9 2 rfl rfl (by decide) (by decide) (by decide) (by decide) (Nat.le_of_ble_eq_true rfl) 8 rfl ((wT τ a (va_cpy qlw lw 0 0 4) (va_cpy qkd kd 0 0 8) bt ph cn no ct sc rn lg dn zz) ++ (wT τ b qlw qkd qbt qph qcn qno qct qsc qrn qlg qdn qzz)) rfl ?_
  refine j_aload_n C dX4_copyFrom_29 30 rfl rfl 1 rfl ?_
  refine j_get C dX4_copyFrom_30 33 rfl hiX4 7 rfl rfl 2 (by decide) rfl kX4_copyFrom_f18 rfl ?_
  refine j_iconst (v := 0) C dX4_copyFrom_33 34 rfl (by decide) ?_
  refine j_aload_n C dX4_copyFrom_34 35 rfl rfl 0 rfl ?_
  refine j_get C dX4_copyFrom_35 38 rfl hiX4 0 rfl rfl 2 (by decide) rfl kX4_copyFrom_f18 rfl ?_
  refine j_iconst (v := 0) C dX4_copyFrom_38 39 rfl (by decide) ?_
  refine j_bipush (v := 8) C dX4_copyFrom_39 41 rfl (by decide) ?_
  refine j_copy C dX4_copyFrom_41 44 rfl kX4_copyFrom_m40 kX4_copyFrom_nac kX4_copyFrom_sac kX4_copyFrom_iSystem 10 3 rfl rfl (by decide) (by decide) (by decide) (by decide) (Nat.le_of_ble_eq_true rfl) 8 rfl ((wT τ a (va_cpy qlw lw 0 0 4) (va_cpy qkd kd 0 0 8) (va_cpy qbt bt 0 0 8) ph cn no ct sc rn lg dn zz) ++ (wT τ b qlw qkd qbt qph qcn qno qct qsc qrn qlg qdn qzz)) rfl ?_
  refine j_aload_n C dX4_copyFrom_44 45 rfl rfl 1 rfl ?_
  refine j_get C dX4_copyFrom_45 48 rfl hiX4 7 rfl rfl 3 (by decide) rfl kX4_copyFrom_f21 rfl ?_
  refine j_iconst (v := 0) C dX4_copyFrom_48 49 rfl (by decide) ?_
  refine j_aload_n C dX4_copyFrom_49 50 rfl rfl 0 rfl ?_
  refine j_get C dX4_copyFrom_50 53 rfl hiX4 0 rfl rfl 3 (by decide) rfl kX4_copyFrom_f21 rfl ?_
  refine j_iconst (v := 0) C dX4_copyFrom_53 54 rfl (by decide) ?_
  refine j_bipush (v := 8) C dX4_copyFrom_54 56 rfl (by decide) ?_
  refine j_copy C dX4_copyFrom_56 59 rfl kX4_copyFrom_m40 kX4_copyFrom_nac kX4_copyFrom_sac kX4_copyFrom_iSystem 11 4 rfl rfl (by decide) (by decide) (by decide) (by decide) (Nat.le_of_ble_eq_true rfl) 8 rfl ((wT τ a (va_cpy qlw lw 0 0 4) (va_cpy qkd kd 0 0 8) (va_cpy qbt bt 0 0 8) (va_cpy qph ph 0 0 8) cn no ct sc rn lg dn zz) ++ (wT τ b qlw qkd qbt qph qcn qno qct qsc qrn qlg qdn qzz)) rfl ?_
  refine j_aload_n C dX4_copyFrom_59 60 rfl rfl 1 rfl ?_
  refine j_get C dX4_copyFrom_60 63 rfl hiX4 7 rfl rfl 4 (by decide) rfl kX4_copyFrom_f24 rfl ?_
  refine j_iconst (v := 0) C dX4_copyFrom_63 64 rfl (by decide) ?_
  refine j_aload_n C dX4_copyFrom_64 65 rfl rfl 0 rfl ?_
  refine j_get C dX4_copyFrom_65 68 rfl hiX4 0 rfl rfl 4 (by decide) rfl kX4_copyFrom_f24 rfl ?_
  refine j_iconst (v := 0) C dX4_copyFrom_68 69 rfl (by decide) ?_
  refine j_bipush (v := 8) C dX4_copyFrom_69 71 rfl (by decide) ?_
  refine j_copy C dX4_copyFrom_71 74 rfl kX4_copyFrom_m40 kX4_copyFrom_nac kX4_copyFrom_sac kX4_copyFrom_iSystem 12 5 rfl rfl (by decide) (by decide) (by decide) (by decide) (Nat.le_of_ble_eq_true rfl) 8 rfl ((wT τ a (va_cpy qlw lw 0 0 4) (va_cpy qkd kd 0 0 8) (va_cpy qbt bt 0 0 8) (va_cpy qph ph 0 0 8) (va_cpy qcn cn 0 0 8) no ct sc rn lg dn zz) ++ (wT τ b qlw qkd qbt qph qcn qno qct qsc qrn qlg qdn qzz)) rfl ?_
  refine j_aload_n C dX4_copyFrom_74 75 rfl rfl 1 rfl ?_
  refine j_get C dX4_copyFrom_75 78 rfl hiX4 7 rfl rfl 5 (by decide) rfl kX4_copyFrom_f27 rfl ?_
  refine j_iconst (v := 0) C dX4_copyFrom_78 79 rfl (by decide) ?_
  refine j_aload_n C dX4_copyFrom_79 80 rfl rfl 0 rfl ?_
  refine j_get C dX4_copyFrom_80 83 rfl hiX4 0 rfl rfl 5 (by decide) rfl kX4_copyFrom_f27 rfl ?_
  refine j_iconst (v := 0) C dX4_copyFrom_83 84 rfl (by decide) ?_
  refine j_bipush (v := 8) C dX4_copyFrom_84 86 rfl (by decide) ?_
  refine j_copy C dX4_copyFrom_86 89 rfl kX4_copyFrom_m40 kX4_copyFrom_nac kX4_copyFrom_sac kX4_copyFrom_iSystem 13 6 rfl rfl (by decide) (by decide) (by decide) (by decide) (Nat.le_of_ble_eq_true rfl) 8 rfl ((wT τ a (va_cpy qlw lw 0 0 4) (va_cpy qkd kd 0 0 8) (va_cpy qbt bt 0 0 8) (va_cpy qph ph 0 0 8) (va_cpy qcn cn 0 0 8) (va_cpy qno no 0 0 8) ct sc rn lg dn zz) ++ (wT τ b qlw qkd qbt qph qcn qno qct qsc qrn qlg qdn qzz)) rfl ?_
  refine j_aload_n C dX4_copyFrom_89 90 rfl rfl 0 rfl ?_
  refine j_aload_n C dX4_copyFrom_90 91 rfl rfl 1 rfl ?_
  refine j_get C dX4_copyFrom_91 94 rfl hiX4 7 rfl rfl 6 (by decide) rfl kX4_copyFrom_f46 rfl ?_
  refine j_put C dX4_copyFrom_94 97 rfl hiX4 tyX4_ok nmX4 0 rfl rfl 6 (by decide) rfl kX4_copyFrom_f46 rfl rfl rfl (Nat.le_of_ble_eq_true rfl) ((wT τ a (va_cpy qlw lw 0 0 4) (va_cpy qkd kd 0 0 8) (va_cpy qbt bt 0 0 8) (va_cpy qph ph 0 0 8) (va_cpy qcn cn 0 0 8) (va_cpy qno no 0 0 8) qct sc rn lg dn zz) ++ (wT τ b qlw qkd qbt qph qcn qno qct qsc qrn qlg qdn qzz)) rfl ?_
  refine j_aload_n C dX4_copyFrom_97 98 rfl rfl 0 rfl ?_
  refine j_aload_n C dX4_copyFrom_98 99 rfl rfl 1 rfl ?_
  refine j_get C dX4_copyFrom_99 102 rfl hiX4 7 rfl rfl 7 (by decide) rfl kX4_copyFrom_f49 rfl ?_
  refine j_put C dX4_copyFrom_102 105 rfl hiX4 tyX4_ok nmX4 0 rfl rfl 7 (by decide) rfl kX4_copyFrom_f49 rfl rfl rfl (Nat.le_of_ble_eq_true rfl) ((wT τ a (va_cpy qlw lw 0 0 4) (va_cpy qkd kd 0 0 8) (va_cpy qbt bt 0 0 8) (va_cpy qph ph 0 0 8) (va_cpy qcn cn 0 0 8) (va_cpy qno no 0 0 8) qct qsc rn lg dn zz) ++ (wT τ b qlw qkd qbt qph qcn qno qct qsc qrn qlg qdn qzz)) rfl ?_
  refine j_aload_n C dX4_copyFrom_105 106 rfl rfl 0 rfl ?_
  refine j_aload_n C dX4_copyFrom_106 107 rfl rfl 1 rfl ?_
  refine j_get C dX4_copyFrom_107 110 rfl hiX4 7 rfl rfl 8 (by decide) rfl kX4_copyFrom_f55 rfl ?_
  refine j_put C dX4_copyFrom_110 113 rfl hiX4 tyX4_ok nmX4 0 rfl rfl 8 (by decide) rfl kX4_copyFrom_f55 rfl rfl rfl (Nat.le_of_ble_eq_true rfl) ((wT τ a (va_cpy qlw lw 0 0 4) (va_cpy qkd kd 0 0 8) (va_cpy qbt bt 0 0 8) (va_cpy qph ph 0 0 8) (va_cpy qcn cn 0 0 8) (va_cpy qno no 0 0 8) qct qsc qrn lg dn zz) ++ (wT τ b qlw qkd qbt qph qcn qno qct qsc qrn qlg qdn qzz)) rfl ?_
  refine j_aload_n C dX4_copyFrom_113 114 rfl rfl 0 rfl ?_
  refine j_aload_n C dX4_copyFrom_114 115 rfl rfl 1 rfl ?_
  refine j_get C dX4_copyFrom_115 118 rfl hiX4 7 rfl rfl 9 (by decide) rfl kX4_copyFrom_f58 rfl ?_
  refine j_put C dX4_copyFrom_118 121 rfl hiX4 tyX4_ok nmX4 0 rfl rfl 9 (by decide) rfl kX4_copyFrom_f58 rfl rfl rfl (Nat.le_of_ble_eq_true rfl) ((wT τ a (va_cpy qlw lw 0 0 4) (va_cpy qkd kd 0 0 8) (va_cpy qbt bt 0 0 8) (va_cpy qph ph 0 0 8) (va_cpy qcn cn 0 0 8) (va_cpy qno no 0 0 8) qct qsc qrn qlg dn zz) ++ (wT τ b qlw qkd qbt qph qcn qno qct qsc qrn qlg qdn qzz)) rfl ?_
  refine j_aload_n C dX4_copyFrom_121 122 rfl rfl 0 rfl ?_
  refine j_aload_n C dX4_copyFrom_122 123 rfl rfl 1 rfl ?_
  refine j_get C dX4_copyFrom_123 126 rfl hiX4 7 rfl rfl 10 (by decide) rfl kX4_copyFrom_f61 rfl ?_
  refine j_put C dX4_copyFrom_126 129 rfl hiX4 tyX4_ok nmX4 0 rfl rfl 10 (by decide) rfl kX4_copyFrom_f61 rfl rfl rfl (Nat.le_of_ble_eq_true rfl) ((wT τ a (va_cpy qlw lw 0 0 4) (va_cpy qkd kd 0 0 8) (va_cpy qbt bt 0 0 8) (va_cpy qph ph 0 0 8) (va_cpy qcn cn 0 0 8) (va_cpy qno no 0 0 8) qct qsc qrn qlg qdn zz) ++ (wT τ b qlw qkd qbt qph qcn qno qct qsc qrn qlg qdn qzz)) rfl ?_
  refine j_aload_n C dX4_copyFrom_129 130 rfl rfl 0 rfl ?_
  refine j_aload_n C dX4_copyFrom_130 131 rfl rfl 1 rfl ?_
  refine j_get C dX4_copyFrom_131 134 rfl hiX4 7 rfl rfl 11 (by decide) rfl kX4_copyFrom_f30 rfl ?_
  refine j_put C dX4_copyFrom_134 137 rfl hiX4 tyX4_ok nmX4 0 rfl rfl 11 (by decide) rfl kX4_copyFrom_f30 rfl rfl rfl (Nat.le_of_ble_eq_true rfl) ((wT τ a (va_cpy qlw lw 0 0 4) (va_cpy qkd kd 0 0 8) (va_cpy qbt bt 0 0 8) (va_cpy qph ph 0 0 8) (va_cpy qcn cn 0 0 8) (va_cpy qno no 0 0 8) qct qsc qrn qlg qdn qzz) ++ (wT τ b qlw qkd qbt qph qcn qno qct qsc qrn qlg qdn qzz)) rfl ?_
  exact hR _ _ dX4_copyFrom_137

